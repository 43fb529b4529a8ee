-- PART 10: views, on: mending, what each kind of letter does
theorem foldl_tk {β : Type} {l : List Nat} {k : Nat} {f : β → Nat → β} {a : β} (h : k < l.length) : (l.take (k + 1)).foldl f a = f ((l.take k).foldl f a) (l.getD k 0) := by
  rw [List.take_succ, List.getElem?_eq_getElem h, List.foldl_append]
  simp [List.getD, List.getElem?_eq_getElem h]
theorem dpV_some {cs : List Nat} {σ : Sg} {l : List Nat} (h : 0 < l.length) : dpV cs σ l = some (l.getD (dI cs σ l.length) 0) := by
  simp only [dpV]
  rw [if_neg (by omega)]
theorem dpV_none {cs : List Nat} {σ : Sg} {l : List Nat} (h : dpV cs σ l = none) : l.length = 0 := by
  simp only [dpV] at h
  by_cases e : l.length = 0
  · exact e
  · rw [if_neg e] at h
    cases h
theorem dpV_mem {cs : List Nat} {σ : Sg} {l : List Nat} {q : Nat} (h : dpV cs σ l = some q) : q ∈ l ∧ 0 < l.length ∧ q = l.getD (dI cs σ l.length) 0 := by
  simp only [dpV] at h
  by_cases e : l.length = 0
  · rw [if_pos e] at h
    cases h
  · rw [if_neg e] at h
    have hq := Option.some.inj h
    exact ⟨hq ▸ getD_mem (dI_lt (by omega)), by omega, hq.symm⟩
theorem dpV_b {cs : List Nat} {σ : Sg} {l : List Nat} (h : ∀ x ∈ l, x < 16) : ∀ q, dpV cs σ l = some q → q < 2 ^ 31 := fun q hq => by
  have := h q (dpV_mem hq).1
  omega
theorem dS_0 {cs : List Nat} {σ : Sg} : dS cs σ 0 = σ := by simp [dS]
/-- those of l that did not refuse -/
def mpl (m : Nat) (l : List Nat) : List Nat := l.filter (fun x => !(m.testBit x))
theorem mpl_s {m k : Nat} {l : List Nat} (h : k < l.length) : mpl m (l.take (k + 1)) = if m.testBit (l.getD k 0) = true then mpl m (l.take k) else mpl m (l.take k) ++ [l.getD k 0] := by
  rw [List.take_succ, List.getElem?_eq_getElem h]
  have e : l.getD k 0 = l[k] := by simp [List.getD, List.getElem?_eq_getElem h]
  rw [e]
  simp only [mpl, List.filter_append]
  by_cases h1 : m.testBit l[k] = true
  · rw [if_pos h1]
    simp [h1]
  · rw [if_neg h1]
    simp [h1]
theorem mpl_le (m : Nat) (l : List Nat) (k : Nat) : (mpl m (l.take k)).length ≤ k := Nat.le_trans (List.length_filter_le _ _) (by rw [List.length_take]; omega)
theorem mpl_mem {m : Nat} {l : List Nat} {x : Nat} (h : x ∈ mpl m l) : x ∈ l := (List.mem_filter.mp h).1
/-- node i mends its active view -/
def mnd (cs : List Nat) (σ : Sg) (i : Nat) : Sg :=
  if (gZ σ).1 ≤ (nAc (gN σ i)).length ∨ nAs (gN σ i) ≠ none then σ
  else match dpV cs σ (mpl (nAk (gN σ i)) (nPa (gN σ i))) with
    | none => akS (dS cs σ (mpl (nAk (gN σ i)) (nPa (gN σ i))).length) i 0
    | some q => snd (asS (dS cs σ (mpl (nAk (gN σ i)) (nPa (gN σ i))).length) i (some q)) i q 5 (if (nAc (gN σ i)).length = 0 then 1 else 0) 0 []
theorem mnd_no {cs : List Nat} {σ : Sg} {i : Nat} (h : (gZ σ).1 ≤ (nAc (gN σ i)).length ∨ nAs (gN σ i) ≠ none) : mnd cs σ i = σ := by simp only [mnd, if_pos h]
theorem mnd_0 {cs : List Nat} {σ σ1 σ2 : Sg} {i : Nat} (h : ¬ ((gZ σ).1 ≤ (nAc (gN σ i)).length ∨ nAs (gN σ i) ≠ none)) (hv : dpV cs σ (mpl (nAk (gN σ i)) (nPa (gN σ i))) = none) (e1 : σ1 = dS cs σ (mpl (nAk (gN σ i)) (nPa (gN σ i))).length) (e2 : σ2 = akS σ1 i 0) : mnd cs σ i = σ2 := by
  subst e2 e1
  simp only [mnd, if_neg h, hv]
theorem mnd_1 {cs : List Nat} {σ σ1 σ2 σ3 : Sg} {i q x : Nat} (h : ¬ ((gZ σ).1 ≤ (nAc (gN σ i)).length ∨ nAs (gN σ i) ≠ none)) (hv : dpV cs σ (mpl (nAk (gN σ i)) (nPa (gN σ i))) = some q) (hx : x = if (nAc (gN σ i)).length = 0 then 1 else 0) (e1 : σ1 = dS cs σ (mpl (nAk (gN σ i)) (nPa (gN σ i))).length) (e2 : σ2 = asS σ1 i (some q)) (e3 : σ3 = snd σ2 i q 5 x 0 []) : mnd cs σ i = σ3 := by
  subst e3 e2 e1 hx
  simp only [mnd, if_neg h, hv]
theorem mnd_K {cs : List Nat} {σ : Sg} {i : Nat} : gK (mnd cs σ i) = gK σ := by
  simp only [mnd]
  split
  · rfl
  · split
    · exact dS_K
    · exact snd_K.trans dS_K
theorem mnd_T {cs : List Nat} {σ : Sg} {i : Nat} : gT (mnd cs σ i) = gT σ := by
  simp only [mnd]
  split
  · rfl
  · split
    · exact dS_T
    · exact snd_T.trans dS_T
theorem mnd_Z {cs : List Nat} {σ : Sg} {i : Nat} : gZ (mnd cs σ i) = gZ σ := by
  simp only [mnd]
  split
  · rfl
  · split
    · exact dS_Z
    · exact snd_Z.trans dS_Z
theorem SW.mnd {B i : Nat} {cs : List Nat} {σ : Sg} (h : SW B cs σ) (hi : i < gK σ) : SW B cs (mnd cs σ i) := by
  have hk := h.2.1
  by_cases e : (gZ σ).1 ≤ (nAc (gN σ i)).length ∨ nAs (gN σ i) ≠ none
  · rw [mnd_no e]
    exact h
  · have h1 : SW B cs (dS cs σ (mpl (nAk (gN σ i)) (nPa (gN σ i))).length) := h.drw
    have hK : gK (dS cs σ (mpl (nAk (gN σ i)) (nPa (gN σ i))).length) = gK σ := dS_K
    cases hv : dpV cs σ (mpl (nAk (gN σ i)) (nPa (gN σ i))) with
    | none =>
      rw [mnd_0 e hv rfl rfl]
      exact SW.sn h1 (NW.ak (h1.nw (by rw [hK]; exact hi)) (by omega))
    | some q =>
      rw [mnd_1 e hv rfl rfl rfl rfl]
      have hq : q < gK σ := (h.nw hi).2.2.1 q (mpl_mem (dpV_mem hv).1)
      have h2 : SW B cs (asS (dS cs σ (mpl (nAk (gN σ i)) (nPa (gN σ i))).length) i (some q)) := SW.sn h1 (NW.asq (h1.nw (by rw [hK]; exact hi)) (fun x hx => by cases hx; rw [hK]; exact hq))
      have hK2 : gK (asS (dS cs σ (mpl (nAk (gN σ i)) (nPa (gN σ i))).length) i (some q)) = gK σ := hK
      exact SW.sent h2 (by rw [hK2]; exact hi) (by rw [hK2]; exact hq) (lw_mk (by rw [hK2]; exact hi) (by rw [hK2]; exact hq) (by omega) (by omega) (by split <;> omega) (by omega) (by omega) (by omega) (by omega) (fun _ h => by cases h) (by simp))
theorem SW.akS {B i m : Nat} {cs : List Nat} {σ : Sg} (h : SW B cs σ) (hi : i < gK σ) (hm : m < 65536) : SW B cs (akS σ i m) := by
  exact SW.sn h (NW.ak (h.nw hi) hm)
theorem SW.asS {B i : Nat} {o : Option Nat} {cs : List Nat} {σ : Sg} (h : SW B cs σ) (hi : i < gK σ) (ho : ∀ q, o = some q → q < gK σ) : SW B cs (asS σ i o) := by
  exact SW.sn h (NW.asq (h.nw hi) ho)
-- what each kind does
def jnF (σ : Sg) (i s lw : Nat) (l : List Nat) : Sg := l.foldl (fun σ q => if q = s then σ else snd σ i q 2 s lw []) σ
def jnS (cs : List Nat) (σ : Sg) (i s : Nat) : Sg := snd (jnF (add cs σ i s) i s (gZ σ).2.2.1 (nAc (gN (add cs σ i s) i))) i s 3 0 0 []
def wend (cs : List Nat) (σ : Sg) (i x : Nat) : Sg := if x ∈ nAc (gN σ i) then σ else snd (add cs σ i x) i x 3 0 0 []
def wlk2 (cs : List Nat) (σ : Sg) (i s x y : Nat) : Sg := match dpV cs σ (wof (some s) (some x) (nAc (gN σ i))) with
  | none => wend cs (dS cs σ (wof (some s) (some x) (nAc (gN σ i))).length) i x
  | some q => snd (dS cs σ (wof (some s) (some x) (nAc (gN σ i))).length) i q 2 x (y - 1) []
def wlk (cs : List Nat) (σ : Sg) (i s x y : Nat) : Sg :=
  if x = i then σ
  else if 0 < y ∧ 1 < (nAc (gN σ i)).length then wlk2 cs (if y = (gZ σ).2.2.2.1 then nte cs σ i x else σ) i s x y
  else wend cs σ i x
def wlc (cs : List Nat) (σ : Sg) (i s : Nat) : Sg := akS (add cs σ i s) i 0
def prt (cs : List Nat) (σ : Sg) (i s : Nat) : Sg := if s ∈ nAc (gN σ i) then mnd cs (nte cs (ulS σ i s) i s) i else σ
def askS (cs : List Nat) (σ : Sg) (i s x : Nat) : Sg := if x = 1 ∨ ¬ (gZ σ).1 ≤ (nAc (gN σ i)).length ∨ s ∈ nAc (gN σ i) then snd (add cs σ i s) i s 3 0 0 [] else snd σ i s 6 0 0 []
def rfs (cs : List Nat) (σ : Sg) (i s : Nat) : Sg := if nAs (gN σ i) = some s then mnd cs (akS (asS σ i none) i (nAk (gN (asS σ i none) i) ||| 2 ^ s)) i else σ
def tkL (cs : List Nat) (σ : Sg) (i : Nat) (l : List Nat) : Sg := l.foldl (fun σ q => nte cs σ i q) σ
def ansS (cs : List Nat) (σ : Sg) (i t n : Nat) : Sg := snd (lfp cs n σ (wof none none (nPa (gN σ i))) []).1 i t 8 0 0 (lfp cs n σ (wof none none (nPa (gN σ i))) []).2.2
def mixS (cs : List Nat) (σ : Sg) (i s x y : Nat) (l : List Nat) : Sg :=
  match (if 1 < y then dpV cs σ (wof (some s) (some x) (nAc (gN σ i))) else none) with
  | some q => snd (dS cs σ (wof (some s) (some x) (nAc (gN σ i))).length) i q 7 x (y - 1) l
  | none => tkL cs (if x = i then σ else ansS cs σ i x l.length) i l
def stp (cs : List Nat) (σ : Sg) (i s : Nat) : Sg := mnd cs (if nAs (gN (paRem (ulS σ i s) i s) i) = some s then asS (paRem (ulS σ i s) i s) i none else paRem (ulS σ i s) i s) i
theorem lfp_s {cs : List Nat} {n k : Nat} {σ σ0 : Sg} {p l p0 l0 : List Nat} (hk : k < n) (hp : 0 < p.length) (h : lfp cs (n - k) σ p l = lfp cs n σ0 p0 l0) : lfp cs (n - (k + 1)) (dS cs σ p.length) (dpL cs σ p) (l ++ [p.getD (dI cs σ p.length) 0]) = lfp cs n σ0 p0 l0 := by
  rw [← h, show n - k = (n - (k + 1)) + 1 by omega]
  simp only [lfp]
  rw [if_neg (by omega)]
theorem lfp_e {cs : List Nat} {n : Nat} {σ : Sg} {p l : List Nat} (hp : p.length = 0) : lfp cs n σ p l = (σ, p, l) := by
  cases n with
  | zero => rfl
  | succ n => simp only [lfp]; rw [if_pos hp]
theorem lfp_K {cs : List Nat} : ∀ {n : Nat} {σ : Sg} {p l : List Nat}, gK (lfp cs n σ p l).1 = gK σ
  | 0, σ, p, l => rfl
  | n + 1, σ, p, l => by
    simp only [lfp]
    split
    · rfl
    · rw [lfp_K, dS_K]
theorem lfp_T {cs : List Nat} : ∀ {n : Nat} {σ : Sg} {p l : List Nat}, gT (lfp cs n σ p l).1 = gT σ
  | 0, σ, p, l => rfl
  | n + 1, σ, p, l => by
    simp only [lfp]
    split
    · rfl
    · rw [lfp_T, dS_T]
theorem lfp_Z {cs : List Nat} : ∀ {n : Nat} {σ : Sg} {p l : List Nat}, gZ (lfp cs n σ p l).1 = gZ σ
  | 0, σ, p, l => rfl
  | n + 1, σ, p, l => by
    simp only [lfp]
    split
    · rfl
    · rw [lfp_Z, dS_Z]
theorem lfp_N {cs : List Nat} : ∀ {n : Nat} {σ : Sg} {p l : List Nat}, gN (lfp cs n σ p l).1 = gN σ
  | 0, σ, p, l => rfl
  | n + 1, σ, p, l => by
    simp only [lfp]
    split
    · rfl
    · rw [lfp_N, dS_N]
theorem lfp_S {B : Nat} {cs : List Nat} : ∀ {n : Nat} {σ : Sg} {p l : List Nat}, SW B cs σ → SW B cs (lfp cs n σ p l).1
  | 0, σ, p, l, h => h
  | n + 1, σ, p, l, h => by
    simp only [lfp]
    split
    · exact h
    · exact lfp_S h.drw
theorem dpL_mem {cs : List Nat} {σ : Sg} {l : List Nat} {q : Nat} (h : q ∈ dpL cs σ l) : q ∈ l := List.mem_of_mem_eraseIdx h
theorem lfp_mem {cs : List Nat} {Q : Nat → Prop} : ∀ {n : Nat} {σ : Sg} {p l : List Nat}, (∀ q ∈ p, Q q) → (∀ q ∈ l, Q q) → ∀ q ∈ (lfp cs n σ p l).2.2, Q q
  | 0, σ, p, l, hp, hl => hl
  | n + 1, σ, p, l, hp, hl => by
    simp only [lfp]
    split
    · exact hl
    · exact lfp_mem (fun q hq => hp q (dpL_mem hq)) (fun q hq => by
        rcases List.mem_append.mp hq with hq | hq
        · exact hl q hq
        · simp only [List.mem_singleton] at hq
          exact hq ▸ hp _ (getD_mem (dI_lt (by omega))))
theorem lfp_len {cs : List Nat} : ∀ {n : Nat} {σ : Sg} {p l : List Nat}, (lfp cs n σ p l).2.2.length ≤ l.length + n
  | 0, σ, p, l => Nat.le_refl _
  | n + 1, σ, p, l => by
    simp only [lfp]
    split
    · exact Nat.le_add_right _ _
    · refine Nat.le_trans lfp_len ?_
      rw [List.length_append, List.length_singleton]
      omega
theorem or_lt {m q : Nat} (hm : m < 65536) (hq : q < 16) : m ||| 2 ^ q < 65536 := Nat.or_lt_two_pow (n := 16) hm (Nat.pow_lt_pow_right (by omega) hq)
theorem stp_f {cs : List Nat} {σ σ1 σ2 σ3 : Sg} {i s : Nat} (e1 : σ1 = ulS σ i s) (e2 : σ2 = paRem σ1 i s) (e3 : σ3 = mnd cs σ2 i) (h : ¬ nAs (gN σ2 i) = some s) : stp cs σ i s = σ3 := by
  subst e3 e2 e1
  simp only [stp]
  rw [if_neg h]
theorem stp_t {cs : List Nat} {σ σ1 σ2 σ3 σ4 : Sg} {i s : Nat} (e1 : σ1 = ulS σ i s) (e2 : σ2 = paRem σ1 i s) (e3 : σ3 = asS σ2 i none) (e4 : σ4 = mnd cs σ3 i) (h : nAs (gN σ2 i) = some s) : stp cs σ i s = σ4 := by
  subst e4 e3 e2 e1
  simp only [stp]
  rw [if_pos h]
theorem tkL_s {cs : List Nat} {σ : Sg} {i k : Nat} {l : List Nat} (h : k < l.length) : tkL cs σ i (l.take (k + 1)) = nte cs (tkL cs σ i (l.take k)) i (l.getD k 0) := foldl_tk h
theorem jnF_s {σ : Sg} {i s lw k : Nat} {l : List Nat} (h : k < l.length) : jnF σ i s lw (l.take (k + 1)) = if l.getD k 0 = s then jnF σ i s lw (l.take k) else snd (jnF σ i s lw (l.take k)) i (l.getD k 0) 2 s lw [] := foldl_tk h
abbrev rm_X8_mend : Room := { frames := 4, cells := 0, slots := 0, locals := 96 }
theorem Y_X8_mend : pY yX8_mend cX8_mend 4 (Option.none : Option Jvm.ClassFile.FieldType) := ⟨u_640, u_641, u_11, u_642⟩
theorem N_X8_mend : yX8_mend.cls ≠ "java/lang/invoke/MethodHandle" ∧ yX8_mend.cls ≠ "java/lang/invoke/VarHandle" ∧ (parseMethodDescriptor yX8_mend.desc).map (fun d => d.parameters.length) = some 1 := by decide +kernel
set_option maxRecDepth 20000 in
set_option maxHeartbeats 4000000 in
theorem c_X8_mend (A : Nat → Nat) (P : List Nat) (g : pM) (w : Nat) {B : Nat} {cs : List Nat} {σ : Sg} {pl ll : List Nat} (i : Nat) (hi : i < gK σ) (hS : SW B cs σ) (h : VW A g w cs σ pl ll) : PM yX8_mend cX8_mend 4 (Option.none : Option Jvm.ClassFile.FieldType) rm_X8_mend [.ref (A (w + 15000)), .ref (A (w + 100 + 100 * i))] P A g (fun v g' => v = none ∧ (∃ pl' ll', VW A g' w cs (mnd cs σ i) pl' ll') ∧ FrS g g' w) := by
  obtain ⟨hV, hW, hC, hP, hL⟩ := h
  have hK := hS.2.1
  obtain ⟨hz1, hz2, hz3, hz4, hz5, hz6, hz7, hz8, hz9⟩ := hS.2.2.2.1
  have hle := (hW.nd hi).2.2.1.le
  have hpb := (hW.nd hi).2.2.1.2
  have hwi := hS.dw hi
  have hak := hwi.2.1
  have hpK := (hS.nw hi).2.2.1
  refine px_intro (by decide +kernel) (Nat.le_of_ble_eq_true rfl) (fun K sz C R => ?_)
  show V K 0 0 P A g [(0, .ref (A (w + 15000))), (1, .ref (A (w + 100 + 100 * i)))] 0 []
  refine g_aload_n (pc := 0) C dX8_mend_0 0 rfl ?_
  refine g_aload_n (pc := 1) C dX8_mend_1 1 rfl ?_
  refine g_callV (pc := 2) C (As := [.ref (A (w + 100 + 100 * i))]) (rest := []) (b := (w + 15000)) (c_X8_isFull A P g w i (by omega) (by omega) ⟨hV, hW, hC, hP, hL⟩) hV rfl rfl Y_X8_isFull u_603 N_X8_isFull ⟨by decide, by decide⟩ ⟨by decide, by decide⟩ (Nat.le_of_ble_eq_true rfl) rfl dX8_mend_2 ?_
  rintro _ _ _ _ ⟨rfl, rfl, rfl, rfl⟩
  show V K 0 0 P A g [(0, .ref (A (w + 15000))), (1, .ref (A (w + 100 + 100 * i)))] 5 [.int (b32 (decide ((gZ σ).1 ≤ (nAc (gN σ i)).length)))]
  refine g_if_ne (pc := 5) C dX8_mend_5 (tgt := 17) (by decide) (fun c_5 => ?_) (fun c_5 => ?_)
  ·
    exact g_vret (pc := 17) C R ⟨rfl, rfl, rfl, by rw [mnd_no (Or.inl (of_decide_eq_true (b32_no c_5)))]; exact ⟨_, _, ⟨hV, hW, hC, hP, hL⟩⟩, FrS.rf⟩ (by decide) (by decide) dX8_mend_17
  ·
    refine g_aload_n (pc := 8) C dX8_mend_8 1 rfl ?_
    refine g_get (pc := 9) C (j := 5) (WD.nd (i := i) hW (by omega)).1 rfl rfl (by decide) u_147 dX8_mend_9 ?_
    refine g_bipush (pc := 12) C dX8_mend_12 (v := (-6)) rfl ?_
    refine g_icmp_eq (pc := 14) C dX8_mend_14 (tgt := 18) (by decide) (fun c_14 => ?_) (fun c_14 => ?_)
    ·
      have c_14 : nAs (gN σ i) = none := (onv_none (fun x hx => by have := hwi.2.2.1 x hx; omega)).mp c_14
      have hnn : ¬ ((gZ σ).1 ≤ (nAc (gN σ i)).length ∨ nAs (gN σ i) ≠ none) := fun e => by rcases e with e | e; exact absurd (decide_eq_true e) (by rw [b32_yes c_5]; decide); exact e c_14
      refine g_aload_n (pc := 18) C dX8_mend_18 0 rfl ?_
      refine g_get (pc := 19) C (j := 2) hV rfl rfl (by decide) u_302 dX8_mend_19 ?_
      refine g_callV (pc := 22) C (As := []) (rest := []) (b := (w + 15001)) (n_X4_clear A P g (w + 15001) hP) (NLN.o hP) rfl rfl Y_X4_clear u_461 N_X4_clear ⟨by decide, by decide⟩ ⟨by decide, by decide⟩ (Nat.le_of_ble_eq_true rfl) rfl dX8_mend_22 ?_
      rintro _ _ _ g_1 ⟨rfl, rfl, rfl, hn_2, hf_3⟩
      have h_4 := hf_3.at (by omega) hV
      have hp_5 := WD.fr hW hf_3 (by omega)
      have hp_6 := CO.fr hC hf_3 (by omega)
      have hp_7 := NLN.fr hL hf_3 (by omega)
      show V K 0 0 P A g_1 [(0, .ref (A (w + 15000))), (1, .ref (A (w + 100 + 100 * i)))] 25 []
      refine g_iconst (pc := 25) C dX8_mend_25 (v := nI 0) rfl ?_
      refine g_istore_n (pc := 26) C dX8_mend_26 (by decide) (lv' := [(0, .ref (A (w + 15000))), (1, .ref (A (w + 100 + 100 * i))), (2, .int (nI 0))]) [1, 2, 0] rfl ?_
      have lp_27 : ∀ (fuel : Nat) (k : Nat) (hk : k ≤ (nPa (gN σ i)).length) (gl : pM) (hVl : gl (w + 15000) = ob 8 [.ref (A w), .ref (A (w + 1)), .ref (A (w + 15001)), .ref (A (w + 15003))]) (hWl : WD A gl w (w + 15005) σ) (hCl : CO A gl (w + 15005) cs) (hPl : NLN A gl (w + 15001) 8 (mpl (nAk (gN σ i)) ((nPa (gN σ i)).take k))) (hLl : NLN A gl (w + 15003) 5 ll) (hf : FrS g gl w), (nPa (gN σ i)).length - k < fuel → V K 0 0 P A gl [(0, .ref (A (w + 15000))), (1, .ref (A (w + 100 + 100 * i))), (2, .int (nI k))] 27 [] := by
        intro fuel
        induction fuel with
        | zero => intro k hk gl hVl hWl hCl hPl hLl hf hμ; exact absurd hμ (Nat.not_lt_zero _)
        | succ fuel ih =>
          intro k hk gl hVl hWl hCl hPl hLl hf hμ
          refine g_iload_n (pc := 27) C dX8_mend_27 2 rfl ?_
          refine g_aload_n (pc := 28) C dX8_mend_28 1 rfl ?_
          refine g_get (pc := 29) C (j := 3) (WD.nd (i := i) hWl (by omega)).1 rfl rfl (by decide) u_143 dX8_mend_29 ?_
          refine g_get (pc := 32) C (j := 1) (NLN.o (WD.nd (i := i) hWl (by omega)).2.2.1) rfl rfl (by decide) u_95 dX8_mend_32 ?_
          refine g_icmp_ge (pc := 35) C dX8_mend_35 (tgt := 72) (by decide) (fun c_35 => ?_) (fun c_35 => ?_)
          ·
            have c_35 : (nPa (gN σ i)).length ≤ k := (nI_leI (by omega) (by omega)).mp c_35
            refine g_aload_n (pc := 72) C dX8_mend_72 0 rfl ?_
            have hke : k = (nPa (gN σ i)).length := by omega
            rw [hke, List.take_length] at hPl
            refine g_callV (pc := 73) C (As := []) (rest := []) (b := (w + 15000)) (c_X8_drawOfPool A P gl w hS hVl hWl hCl hPl) hVl rfl rfl Y_X8_drawOfPool u_470 N_X8_drawOfPool ⟨by decide, by decide⟩ ⟨by decide, by decide⟩ (Nat.le_of_ble_eq_true rfl) rfl dX8_mend_73 ?_
            rintro _ _ _ g_8 ⟨rfl, rfl, rfl, hW_9, hn_10, hf_11, hf_12⟩
            have hp_13 := CO.fr hCl hf_11 (by omega)
            have hp_14 := NLN.fr hLl hf_11 (by omega)
            obtain ⟨σ15, hσ15⟩ : ∃ sM : Sg, sM = dS cs σ (mpl (nAk (gN σ i)) (nPa (gN σ i))).length := ⟨_, rfl⟩
            have hW_16 : WD A g_8 w (w + 15005) σ15 := by rw [hσ15]; exact hW_9
            clear hW_9
            have hK_σ15 : gK σ15 = gK σ := (congrArg gK hσ15).trans (dS_K.trans (rfl : gK σ = gK σ))
            have hT_σ15 : gT σ15 = gT σ := (congrArg gT hσ15).trans (dS_T.trans (rfl : gT σ = gT σ))
            have hZ_σ15 : gZ σ15 = gZ σ := (congrArg gZ hσ15).trans (dS_Z.trans (rfl : gZ σ = gZ σ))
            have h_17 := (hf_12 (w + 15000) (by omega)).trans hVl
            show V K 0 0 P A g_8 [(0, .ref (A (w + 15000))), (1, .ref (A (w + 100 + 100 * i))), (2, .int (nI k))] 76 [.int (onv (dpV cs σ (mpl (nAk (gN σ i)) (nPa (gN σ i)))))]
            refine g_istore_n (pc := 76) C dX8_mend_76 (by decide) (lv' := [(0, .ref (A (w + 15000))), (1, .ref (A (w + 100 + 100 * i))), (2, .int (onv (dpV cs σ (mpl (nAk (gN σ i)) (nPa (gN σ i))))))]) [1, 2, 0] rfl ?_
            refine g_iload_n (pc := 77) C dX8_mend_77 2 rfl ?_
            refine g_bipush (pc := 78) C dX8_mend_78 (v := (-6)) rfl ?_
            refine g_icmp_ne (pc := 80) C dX8_mend_80 (tgt := 89) (by decide) (fun c_80 => ?_) (fun c_80 => ?_)
            ·
              obtain ⟨q, hq⟩ : ∃ q, (dpV cs σ (mpl (nAk (gN σ i)) (nPa (gN σ i)))) = some q := by cases e : (dpV cs σ (mpl (nAk (gN σ i)) (nPa (gN σ i)))); exact absurd ((onv_none (dpV_b (fun x hx => hpb x (mpl_mem hx)))).mpr e) c_80; exact ⟨_, rfl⟩
              have hqK : q < gK σ := hpK q (mpl_mem (dpV_mem hq).1)
              rw [hq]
              show V K 0 0 P A g_8 [(0, .ref (A (w + 15000))), (1, .ref (A (w + 100 + 100 * i))), (2, .int (nI q))] 89 []
              refine g_aload_n (pc := 89) C dX8_mend_89 1 rfl ?_
              refine g_iload_n (pc := 90) C dX8_mend_90 2 rfl ?_
              refine g_put (pc := 91) C (j := 5) (WD.nd (i := i) hW_16 (by omega)).1 rfl (by decide) (Nat.le_of_ble_eq_true rfl) u_147 rfl pfd_I rfl rfl dX8_mend_91 ?_
              obtain ⟨g_18, hg_18⟩ : ∃ yM : pM, yM = va_up g_8 (w + 100 + 100 * i) (ob 3 [.int (nI i), .int (b32 (nLv (gN σ15 i))), .ref (A (w + 100 + 100 * i + 1)), .ref (A (w + 100 + 100 * i + 3)), .int (nI (nLz (gN σ15 i))), .int (nI q), .int (nI (nAk (gN σ15 i))), .int (nGo (gN σ15 i)), .ref (A (w + 100 + 100 * i + 5)), .ref (A (w + 100 + 100 * i + 6))]) := ⟨_, rfl⟩
              show V K 0 0 P A (va_up g_8 (w + 100 + 100 * i) (ob 3 [.int (nI i), .int (b32 (nLv (gN σ15 i))), .ref (A (w + 100 + 100 * i + 1)), .ref (A (w + 100 + 100 * i + 3)), .int (nI (nLz (gN σ15 i))), .int (nI q), .int (nI (nAk (gN σ15 i))), .int (nGo (gN σ15 i)), .ref (A (w + 100 + 100 * i + 5)), .ref (A (w + 100 + 100 * i + 6))])) [(0, .ref (A (w + 15000))), (1, .ref (A (w + 100 + 100 * i))), (2, .int (nI q))] 94 []
              rw [← hg_18]
              have h_19 : g_18 (w + 15000) = ob 8 [.ref (A w), .ref (A (w + 1)), .ref (A (w + 15001)), .ref (A (w + 15003))] := by rw [hg_18, va_up_ne _ _ (show w + 15000 ≠ w + 100 + 100 * i from by omega)]; exact h_17
              have hf_20 : Fr g_8 g_18 (w + 100 + 100 * i) (w + 100 + 100 * i + 1) := by rw [hg_18]; exact Fr.up (by omega) (by omega)
              have hN_21 : ND A g_18 (w + 100 + 100 * i) i (sAs (gN σ15 i) (some q)) := ND.put (WD.nd (i := i) hW_16 (by omega)) hg_18 rfl rfl rfl rfl
              have hW_22 := WD.sn (i := i) hW_16 (by omega) (hf_20.mo (by omega) (by omega)) hN_21
              have hp_23 := CO.fr hp_13 hf_20 (by omega)
              have hp_24 := NLN.fr hp_14 hf_20 (by omega)
              have hp_25 := NLN.fr hn_10 hf_20 (by omega)
              obtain ⟨σ26, hσ26⟩ : ∃ sM : Sg, sM = sNd σ15 i (sAs (gN σ15 i) (some q)) := ⟨_, rfl⟩
              have hW_27 : WD A g_18 w (w + 15005) σ26 := by rw [hσ26]; exact hW_22
              clear hW_22
              have hK_σ26 : gK σ26 = gK σ := (congrArg gK hσ26).trans hK_σ15
              have hT_σ26 : gT σ26 = gT σ := (congrArg gT hσ26).trans hT_σ15
              have hZ_σ26 : gZ σ26 = gZ σ := (congrArg gZ hσ26).trans hZ_σ15
              have hle5 := (WD.nd (i := i) hW_27 (by omega)).2.1.le
              have hace : nAc (gN σ26 i) = nAc (gN σ i) := by rw [hσ26, gN_self, hσ15, dS_N]
              refine g_aload_n (pc := 94) C dX8_mend_94 0 rfl ?_
              refine g_aload_n (pc := 95) C dX8_mend_95 1 rfl ?_
              refine g_iload_n (pc := 96) C dX8_mend_96 2 rfl ?_
              refine g_iconst (pc := 97) C dX8_mend_97 (v := nI 5) rfl ?_
              refine g_aload_n (pc := 98) C dX8_mend_98 1 rfl ?_
              refine g_get (pc := 99) C (j := 2) (WD.nd (i := i) hW_27 (by omega)).1 rfl rfl (by decide) u_139 dX8_mend_99 ?_
              refine g_get (pc := 102) C (j := 1) (NLN.o (WD.nd (i := i) hW_27 (by omega)).2.1) rfl rfl (by decide) u_95 dX8_mend_102 ?_
              refine g_if_ne (pc := 105) C dX8_mend_105 (tgt := 112) (by decide) (fun c_105 => ?_) (fun c_105 => ?_)
              ·
                have c_105 : ¬ (nAc (gN σ26 i)).length = 0 := fun h => c_105 ((nI_eq (a := (nAc (gN σ26 i)).length) (b := 0) (by omega) (by omega)).mpr h)
                rw [hace] at c_105
                refine g_iconst (pc := 112) C dX8_mend_112 (v := nI 0) rfl ?_
                refine g_iconst (pc := 113) C dX8_mend_113 (v := nI 0) rfl ?_
                refine g_callV (pc := 114) C (As := [.ref (A (w + 100 + 100 * i)), .int (nI q), .int (nI 5), .int (nI 0), .int (nI 0)]) (rest := []) (b := (w + 15000)) (c_X8_send A P g_18 w i q 5 0 0 (by omega) (by omega) (by omega) (by omega) (by omega) ⟨h_19, hW_27, hp_23, hp_25, hp_24⟩) h_19 rfl rfl Y_X8_send u_623 N_X8_send ⟨by decide, by decide⟩ ⟨by decide, by decide⟩ (Nat.le_of_ble_eq_true rfl) rfl dX8_mend_114 ?_
                rintro _ _ _ g_28 ⟨rfl, rfl, rfl, hw_29, hf_30⟩
                obtain ⟨v_31, v_32, v_33, v_34, v_35⟩ := hw_29
                obtain ⟨σ36, hσ36⟩ : ∃ sM : Sg, sM = snd σ26 i q 5 0 0 [] := ⟨_, rfl⟩
                have hW_37 : WD A g_28 w (w + 15005) σ36 := by rw [hσ36]; exact v_32
                skip
                have hK_σ36 : gK σ36 = gK σ := (congrArg gK hσ36).trans (snd_K.trans hK_σ26)
                have hT_σ36 : gT σ36 = gT σ := (congrArg gT hσ36).trans (snd_T.trans hT_σ26)
                have hZ_σ36 : gZ σ36 = gZ σ := (congrArg gZ hσ36).trans (snd_Z.trans hZ_σ26)
                show V K 0 0 P A g_28 [(0, .ref (A (w + 15000))), (1, .ref (A (w + 100 + 100 * i))), (2, .int (nI q))] 117 []
                exact g_vret (pc := 117) C R ⟨rfl, rfl, rfl, by rw [mnd_1 hnn hq (by rw [if_neg c_105]) hσ15 hσ26 hσ36]; exact ⟨_, _, ⟨v_31, hW_37, v_33, v_34, v_35⟩⟩, hf.tr (fun k hk => by rw [hf_30 k (by omega), hg_18, va_up_ne _ _ (by omega), hf_12 k (by omega)])⟩ (by decide) (by decide) dX8_mend_117
              ·
                have c_105 : (nAc (gN σ26 i)).length = 0 := (nI_eq (by omega) (by omega)).mp c_105
                rw [hace] at c_105
                refine g_iconst (pc := 108) C dX8_mend_108 (v := nI 1) rfl ?_
                refine g_goto (pc := 109) C dX8_mend_109 (tgt := 113) (by decide) ?_
                refine g_iconst (pc := 113) C dX8_mend_113 (v := nI 0) rfl ?_
                refine g_callV (pc := 114) C (As := [.ref (A (w + 100 + 100 * i)), .int (nI q), .int (nI 5), .int (nI 1), .int (nI 0)]) (rest := []) (b := (w + 15000)) (c_X8_send A P g_18 w i q 5 1 0 (by omega) (by omega) (by omega) (by omega) (by omega) ⟨h_19, hW_27, hp_23, hp_25, hp_24⟩) h_19 rfl rfl Y_X8_send u_623 N_X8_send ⟨by decide, by decide⟩ ⟨by decide, by decide⟩ (Nat.le_of_ble_eq_true rfl) rfl dX8_mend_114 ?_
                rintro _ _ _ g_38 ⟨rfl, rfl, rfl, hw_39, hf_40⟩
                obtain ⟨v_41, v_42, v_43, v_44, v_45⟩ := hw_39
                obtain ⟨σ46, hσ46⟩ : ∃ sM : Sg, sM = snd σ26 i q 5 1 0 [] := ⟨_, rfl⟩
                have hW_47 : WD A g_38 w (w + 15005) σ46 := by rw [hσ46]; exact v_42
                skip
                have hK_σ46 : gK σ46 = gK σ := (congrArg gK hσ46).trans (snd_K.trans hK_σ26)
                have hT_σ46 : gT σ46 = gT σ := (congrArg gT hσ46).trans (snd_T.trans hT_σ26)
                have hZ_σ46 : gZ σ46 = gZ σ := (congrArg gZ hσ46).trans (snd_Z.trans hZ_σ26)
                show V K 0 0 P A g_38 [(0, .ref (A (w + 15000))), (1, .ref (A (w + 100 + 100 * i))), (2, .int (nI q))] 117 []
                exact g_vret (pc := 117) C R ⟨rfl, rfl, rfl, by rw [mnd_1 hnn hq (by rw [if_pos c_105]) hσ15 hσ26 hσ46]; exact ⟨_, _, ⟨v_41, hW_47, v_43, v_44, v_45⟩⟩, hf.tr (fun k hk => by rw [hf_40 k (by omega), hg_18, va_up_ne _ _ (by omega), hf_12 k (by omega)])⟩ (by decide) (by decide) dX8_mend_117
            ·
              have hnv : (dpV cs σ (mpl (nAk (gN σ i)) (nPa (gN σ i)))) = none := (onv_none (dpV_b (fun x hx => hpb x (mpl_mem hx)))).mp c_80
              refine g_aload_n (pc := 83) C dX8_mend_83 1 rfl ?_
              refine g_iconst (pc := 84) C dX8_mend_84 (v := nI 0) rfl ?_
              refine g_put (pc := 85) C (j := 6) (WD.nd (i := i) hW_16 (by omega)).1 rfl (by decide) (Nat.le_of_ble_eq_true rfl) u_151 rfl pfd_I rfl rfl dX8_mend_85 ?_
              obtain ⟨g_48, hg_48⟩ : ∃ yM : pM, yM = va_up g_8 (w + 100 + 100 * i) (ob 3 [.int (nI i), .int (b32 (nLv (gN σ15 i))), .ref (A (w + 100 + 100 * i + 1)), .ref (A (w + 100 + 100 * i + 3)), .int (nI (nLz (gN σ15 i))), .int (onv (nAs (gN σ15 i))), .int (nI 0), .int (nGo (gN σ15 i)), .ref (A (w + 100 + 100 * i + 5)), .ref (A (w + 100 + 100 * i + 6))]) := ⟨_, rfl⟩
              show V K 0 0 P A (va_up g_8 (w + 100 + 100 * i) (ob 3 [.int (nI i), .int (b32 (nLv (gN σ15 i))), .ref (A (w + 100 + 100 * i + 1)), .ref (A (w + 100 + 100 * i + 3)), .int (nI (nLz (gN σ15 i))), .int (onv (nAs (gN σ15 i))), .int (nI 0), .int (nGo (gN σ15 i)), .ref (A (w + 100 + 100 * i + 5)), .ref (A (w + 100 + 100 * i + 6))])) [(0, .ref (A (w + 15000))), (1, .ref (A (w + 100 + 100 * i))), (2, .int (onv (dpV cs σ (mpl (nAk (gN σ i)) (nPa (gN σ i))))))] 88 []
              rw [← hg_48]
              have h_49 : g_48 (w + 15000) = ob 8 [.ref (A w), .ref (A (w + 1)), .ref (A (w + 15001)), .ref (A (w + 15003))] := by rw [hg_48, va_up_ne _ _ (show w + 15000 ≠ w + 100 + 100 * i from by omega)]; exact h_17
              have hf_50 : Fr g_8 g_48 (w + 100 + 100 * i) (w + 100 + 100 * i + 1) := by rw [hg_48]; exact Fr.up (by omega) (by omega)
              have hN_51 : ND A g_48 (w + 100 + 100 * i) i (sAk (gN σ15 i) 0) := ND.put (WD.nd (i := i) hW_16 (by omega)) hg_48 rfl rfl rfl rfl
              have hW_52 := WD.sn (i := i) hW_16 (by omega) (hf_50.mo (by omega) (by omega)) hN_51
              have hp_53 := CO.fr hp_13 hf_50 (by omega)
              have hp_54 := NLN.fr hp_14 hf_50 (by omega)
              have hp_55 := NLN.fr hn_10 hf_50 (by omega)
              obtain ⟨σ56, hσ56⟩ : ∃ sM : Sg, sM = sNd σ15 i (sAk (gN σ15 i) 0) := ⟨_, rfl⟩
              have hW_57 : WD A g_48 w (w + 15005) σ56 := by rw [hσ56]; exact hW_52
              clear hW_52
              have hK_σ56 : gK σ56 = gK σ := (congrArg gK hσ56).trans hK_σ15
              have hT_σ56 : gT σ56 = gT σ := (congrArg gT hσ56).trans hT_σ15
              have hZ_σ56 : gZ σ56 = gZ σ := (congrArg gZ hσ56).trans hZ_σ15
              exact g_vret (pc := 88) C R ⟨rfl, rfl, rfl, by rw [mnd_0 hnn hnv hσ15 hσ56]; exact ⟨_, _, ⟨h_49, hW_57, hp_53, hp_55, hp_54⟩⟩, hf.tr (fun k hk => by rw [hg_48, va_up_ne _ _ (by omega), hf_12 k (by omega)])⟩ (by decide) (by decide) dX8_mend_88
          ·
            have c_35 : ¬ (nPa (gN σ i)).length ≤ k := fun h => c_35 ((nI_leI (a := (nPa (gN σ i)).length) (b := k) (by omega) (by omega)).mpr h)
            refine g_aload_n (pc := 38) C dX8_mend_38 1 rfl ?_
            refine g_get (pc := 39) C (j := 3) (WD.nd (i := i) hWl (by omega)).1 rfl rfl (by decide) u_143 dX8_mend_39 ?_
            refine g_iload_n (pc := 42) C dX8_mend_42 2 rfl ?_
            have hkl : k < (nPa (gN σ i)).length := by omega
            have hq16 : (nPa (gN σ i)).getD k 0 < 16 := hpb _ (getD_mem hkl)
            refine g_callV (pc := 43) C (As := [.int (nI k)]) (rest := []) (b := (w + 100 + 100 * i + 3)) (n_X4_at A P gl (w + 100 + 100 * i + 3) k (by omega) (WD.nd (i := i) hWl (by omega)).2.2.1) (NLN.o (WD.nd (i := i) hWl (by omega)).2.2.1) rfl rfl Y_X4_at u_462 N_X4_at ⟨by decide, by decide⟩ ⟨by decide, by decide⟩ (Nat.le_of_ble_eq_true rfl) rfl dX8_mend_43 ?_
            rintro _ _ _ _ ⟨rfl, rfl, rfl, rfl⟩
            show V K 0 0 P A gl [(0, .ref (A (w + 15000))), (1, .ref (A (w + 100 + 100 * i))), (2, .int (nI k))] 46 [.int (nI ((nPa (gN σ i)).getD k 0))]
            refine g_istore_n (pc := 46) C dX8_mend_46 (by decide) (lv' := [(0, .ref (A (w + 15000))), (1, .ref (A (w + 100 + 100 * i))), (2, .int (nI k)), (3, .int (nI ((nPa (gN σ i)).getD k 0)))]) [1, 2, 3, 0] rfl ?_
            refine g_aload_n (pc := 47) C dX8_mend_47 1 rfl ?_
            refine g_get (pc := 48) C (j := 6) (WD.nd (i := i) hWl (by omega)).1 rfl rfl (by decide) u_151 dX8_mend_48 ?_
            refine g_iconst (pc := 51) C dX8_mend_51 (v := nI 1) rfl ?_
            refine g_iload_n (pc := 52) C dX8_mend_52 3 rfl ?_
            refine g_ishl (pc := 53) C dX8_mend_53 (z := nI (2 ^ (nPa (gN σ i)).getD k 0)) (shl_nI (by omega)) ?_
            refine g_iand (pc := 54) C dX8_mend_54 (z := nI (nAk (gN σ i)) &&& nI (2 ^ (nPa (gN σ i)).getD k 0)) rfl ?_
            refine g_if_ne (pc := 55) C dX8_mend_55 (tgt := 66) (by decide) (fun c_55 => ?_) (fun c_55 => ?_)
            ·
              have hbt : (nAk (gN σ i)).testBit ((nPa (gN σ i)).getD k 0) = true := by cases e : (nAk (gN σ i)).testBit ((nPa (gN σ i)).getD k 0); exact absurd ((bit_nI _ _ hak hq16).mpr e) c_55; rfl
              refine g_iinc (pc := 66) C dX8_mend_66 (by decide) 2 rfl (v := nI (k + 1)) (nI_i1 _) (lv' := [(0, .ref (A (w + 15000))), (1, .ref (A (w + 100 + 100 * i))), (2, .int (nI (k + 1))), (3, .int (nI ((nPa (gN σ i)).getD k 0)))]) [1, 2, 0, 3] rfl ?_
              refine g_goto (pc := 69) C dX8_mend_69 (tgt := 27) (by decide) ?_
              refine g_sub [0, 1, 2] rfl ?_
              exact ih (k + 1) (by omega) gl hVl hWl hCl (by rw [mpl_s hkl, if_pos hbt]; exact hPl) hLl hf (by omega)
            ·
              have hbt : ¬ (nAk (gN σ i)).testBit ((nPa (gN σ i)).getD k 0) = true := by rw [(bit_nI _ _ hak hq16).mp c_55]; decide
              have hml := mpl_le (nAk (gN σ i)) (nPa (gN σ i)) k
              have hml2 : (mpl (nAk (gN σ i)) ((nPa (gN σ i)).take k)).length < 8 := by omega
              refine g_aload_n (pc := 58) C dX8_mend_58 0 rfl ?_
              refine g_get (pc := 59) C (j := 2) hVl rfl rfl (by decide) u_302 dX8_mend_59 ?_
              refine g_iload_n (pc := 62) C dX8_mend_62 3 rfl ?_
              refine g_callV (pc := 63) C (As := [.int (nI ((nPa (gN σ i)).getD k 0))]) (rest := []) (b := (w + 15001)) (n_X4_put A P gl (w + 15001) ((nPa (gN σ i)).getD k 0) (by omega) hPl (by assumption)) (NLN.o hPl) rfl rfl Y_X4_put u_466 N_X4_put ⟨by decide, by decide⟩ ⟨by decide, by decide⟩ (Nat.le_of_ble_eq_true rfl) rfl dX8_mend_63 ?_
              rintro _ _ _ g_58 ⟨rfl, rfl, rfl, hn_59, hf_60⟩
              have h_61 := hf_60.at (by omega) hVl
              have hp_62 := WD.fr hWl hf_60 (by omega)
              have hp_63 := CO.fr hCl hf_60 (by omega)
              have hp_64 := NLN.fr hLl hf_60 (by omega)
              show V K 0 0 P A g_58 [(0, .ref (A (w + 15000))), (1, .ref (A (w + 100 + 100 * i))), (2, .int (nI k)), (3, .int (nI ((nPa (gN σ i)).getD k 0)))] 66 []
              refine g_iinc (pc := 66) C dX8_mend_66 (by decide) 2 rfl (v := nI (k + 1)) (nI_i1 _) (lv' := [(0, .ref (A (w + 15000))), (1, .ref (A (w + 100 + 100 * i))), (2, .int (nI (k + 1))), (3, .int (nI ((nPa (gN σ i)).getD k 0)))]) [1, 2, 0, 3] rfl ?_
              refine g_goto (pc := 69) C dX8_mend_69 (tgt := 27) (by decide) ?_
              refine g_sub [0, 1, 2] rfl ?_
              exact ih (k + 1) (by omega) _ h_61 hp_62 hp_63 (by rw [mpl_s hkl, if_neg hbt]; exact hn_59) hp_64 (hf.tr (fun k hk => by rw [hf_60 k (by omega)])) (by omega)
      exact lp_27 (_ + 1) 0 (Nat.zero_le _) _ h_4 hp_5 hp_6 (by rw [List.take_zero]; exact hn_2) hp_7 (fun k hk => by rw [hf_3 k (by omega)]) (Nat.lt_succ_self _)
    ·
      have c_14 : nAs (gN σ i) ≠ none := fun e => c_14 ((onv_none (fun x hx => by have := hwi.2.2.1 x hx; omega)).mpr e)
      exact g_vret (pc := 17) C R ⟨rfl, rfl, rfl, by rw [mnd_no (Or.inr c_14)]; exact ⟨_, _, ⟨hV, hW, hC, hP, hL⟩⟩, FrS.rf⟩ (by decide) (by decide) dX8_mend_17
abbrev rm_X8_listFromPool : Room := { frames := 3, cells := 0, slots := 0, locals := 65 }
theorem Y_X8_listFromPool : pY yX8_listFromPool cX8_listFromPool 3 (Option.none : Option Jvm.ClassFile.FieldType) := ⟨u_491, u_492, u_11, u_493⟩
theorem N_X8_listFromPool : yX8_listFromPool.cls ≠ "java/lang/invoke/MethodHandle" ∧ yX8_listFromPool.cls ≠ "java/lang/invoke/VarHandle" ∧ (parseMethodDescriptor yX8_listFromPool.desc).map (fun d => d.parameters.length) = some 1 := by decide +kernel
set_option maxRecDepth 20000 in
set_option maxHeartbeats 4000000 in
theorem c_X8_listFromPool (A : Nat → Nat) (P : List Nat) (g : pM) (w : Nat) {B : Nat} {cs : List Nat} {σ : Sg} {pl ll : List Nat} (n : Nat) (hn : n + ll.length ≤ 5) (hS : SW B cs σ) (h : VW A g w cs σ pl ll) : PM yX8_listFromPool cX8_listFromPool 3 (Option.none : Option Jvm.ClassFile.FieldType) rm_X8_listFromPool [.ref (A (w + 15000)), .int (nI n)] P A g (fun v g' => v = none ∧ VW A g' w cs (lfp cs n σ pl ll).1 (lfp cs n σ pl ll).2.1 (lfp cs n σ pl ll).2.2 ∧ FrS g g' w) := by
  obtain ⟨hV, hW, hC, hP, hL⟩ := h
  have hK := hS.2.1
  obtain ⟨hz1, hz2, hz3, hz4, hz5, hz6, hz7, hz8, hz9⟩ := hS.2.2.2.1
  refine px_intro (by decide +kernel) (Nat.le_of_ble_eq_true rfl) (fun K sz C R => ?_)
  show V K 0 0 P A g [(0, .ref (A (w + 15000))), (1, .int (nI n))] 0 []
  refine g_iconst (pc := 0) C dX8_listFromPool_0 (v := nI 0) rfl ?_
  refine g_istore_n (pc := 1) C dX8_listFromPool_1 (by decide) (lv' := [(0, .ref (A (w + 15000))), (1, .int (nI n)), (2, .int (nI 0))]) [1, 2, 0] rfl ?_
  have lp_2 : ∀ (fuel : Nat) (k : Nat) (hk : k ≤ n) (σ1 : Sg) (p1 l1 : List Nat) (hl1 : l1.length = ll.length + k) (he : lfp cs (n - k) σ1 p1 l1 = lfp cs n σ pl ll) (hS1 : SW B cs σ1) (hK1 : gK σ1 = gK σ) (hT1 : gT σ1 = gT σ) (hZ1 : gZ σ1 = gZ σ) (gl : pM) (hVl : gl (w + 15000) = ob 8 [.ref (A w), .ref (A (w + 1)), .ref (A (w + 15001)), .ref (A (w + 15003))]) (hWl : WD A gl w (w + 15005) σ1) (hCl : CO A gl (w + 15005) cs) (hPl : NLN A gl (w + 15001) 8 p1) (hLl : NLN A gl (w + 15003) 5 l1) (hf : FrS g gl w), n - k < fuel → V K 0 0 P A gl [(0, .ref (A (w + 15000))), (1, .int (nI n)), (2, .int (nI k))] 2 [] := by
    intro fuel
    induction fuel with
    | zero => intro k hk σ1 p1 l1 hl1 he hS1 hK1 hT1 hZ1 gl hVl hWl hCl hPl hLl hf hμ; exact absurd hμ (Nat.not_lt_zero _)
    | succ fuel ih =>
      intro k hk σ1 p1 l1 hl1 he hS1 hK1 hT1 hZ1 gl hVl hWl hCl hPl hLl hf hμ
      have hpl1 := hPl.le
      refine g_iload_n (pc := 2) C dX8_listFromPool_2 2 rfl ?_
      refine g_iload_n (pc := 3) C dX8_listFromPool_3 1 rfl ?_
      refine g_icmp_ge (pc := 4) C dX8_listFromPool_4 (tgt := 34) (by decide) (fun c_4 => ?_) (fun c_4 => ?_)
      ·
        have c_4 : n ≤ k := (nI_leI (by omega) (by omega)).mp c_4
        exact g_vret (pc := 34) C R ⟨rfl, rfl, rfl, by rw [← he, show n - k = 0 by omega, lfp]; exact ⟨hVl, hWl, hCl, hPl, hLl⟩, hf⟩ (by decide) (by decide) dX8_listFromPool_34
      ·
        have c_4 : ¬ n ≤ k := fun h => c_4 ((nI_leI (a := n) (b := k) (by omega) (by omega)).mpr h)
        refine g_aload_n (pc := 7) C dX8_listFromPool_7 0 rfl ?_
        refine g_get (pc := 8) C (j := 2) hVl rfl rfl (by decide) u_302 dX8_listFromPool_8 ?_
        refine g_get (pc := 11) C (j := 1) (NLN.o hPl) rfl rfl (by decide) u_95 dX8_listFromPool_11 ?_
        refine g_if_le (pc := 14) C dX8_listFromPool_14 (tgt := 34) (by decide) (fun c_14 => ?_) (fun c_14 => ?_)
        ·
          have c_14 : p1.length ≤ 0 := (nI_leI (by omega) (by omega)).mp c_14
          exact g_vret (pc := 34) C R ⟨rfl, rfl, rfl, by rw [← he, lfp_e (by omega)]; exact ⟨hVl, hWl, hCl, hPl, hLl⟩, hf⟩ (by decide) (by decide) dX8_listFromPool_34
        ·
          have c_14 : ¬ p1.length ≤ 0 := fun h => c_14 ((nI_leI (a := p1.length) (b := 0) (by omega) (by omega)).mpr h)
          refine g_aload_n (pc := 17) C dX8_listFromPool_17 0 rfl ?_
          refine g_get (pc := 18) C (j := 3) hVl rfl rfl (by decide) u_303 dX8_listFromPool_18 ?_
          refine g_aload_n (pc := 21) C dX8_listFromPool_21 0 rfl ?_
          refine g_callV (pc := 22) C (As := []) (rest := [.ref (A (w + 15003))]) (b := (w + 15000)) (c_X8_drawOfPool A P gl w hS1 hVl hWl hCl hPl) hVl rfl rfl Y_X8_drawOfPool u_470 N_X8_drawOfPool ⟨by decide, by decide⟩ ⟨by decide, by decide⟩ (Nat.le_of_ble_eq_true rfl) rfl dX8_listFromPool_22 ?_
          rintro _ _ _ g_1 ⟨rfl, rfl, rfl, hW_2, hn_3, hf_4, hf_5⟩
          have hp_6 := CO.fr hCl hf_4 (by omega)
          have hp_7 := NLN.fr hLl hf_4 (by omega)
          obtain ⟨σ8, hσ8⟩ : ∃ sM : Sg, sM = dS cs σ1 p1.length := ⟨_, rfl⟩
          have hW_9 : WD A g_1 w (w + 15005) σ8 := by rw [hσ8]; exact hW_2
          clear hW_2
          have hK_σ8 : gK σ8 = gK σ := (congrArg gK hσ8).trans (dS_K.trans hK1)
          have hT_σ8 : gT σ8 = gT σ := (congrArg gT hσ8).trans (dS_T.trans hT1)
          have hZ_σ8 : gZ σ8 = gZ σ := (congrArg gZ hσ8).trans (dS_Z.trans hZ1)
          have h_10 := (hf_5 (w + 15000) (by omega)).trans hVl
          show V K 0 0 P A g_1 [(0, .ref (A (w + 15000))), (1, .int (nI n)), (2, .int (nI k))] 25 [.int (onv (dpV cs σ1 p1)), .ref (A (w + 15003))]
          rw [dpV_some (show 0 < p1.length by omega)]
          show V K 0 0 P A g_1 [(0, .ref (A (w + 15000))), (1, .int (nI n)), (2, .int (nI k))] 25 [.int (nI (p1.getD (dI cs σ1 p1.length) 0)), .ref (A (w + 15003))]
          have hv16 : p1.getD (dI cs σ1 p1.length) 0 < 16 := hPl.2 _ (getD_mem (dI_lt (by omega)))
          refine g_callV (pc := 25) C (As := [.int (nI (p1.getD (dI cs σ1 p1.length) 0))]) (rest := []) (b := (w + 15003)) (n_X4_put A P g_1 (w + 15003) (p1.getD (dI cs σ1 p1.length) 0) hv16 hp_7 (by omega)) (NLN.o hp_7) rfl rfl Y_X4_put u_466 N_X4_put ⟨by decide, by decide⟩ ⟨by decide, by decide⟩ (Nat.le_of_ble_eq_true rfl) rfl dX8_listFromPool_25 ?_
          rintro _ _ _ g_11 ⟨rfl, rfl, rfl, hn_12, hf_13⟩
          have h_14 := hf_13.at (by omega) h_10
          have hp_15 := CO.fr hp_6 hf_13 (by omega)
          have hp_16 := WD.fr hW_9 hf_13 (by omega)
          have hp_17 := NLN.fr hn_3 hf_13 (by omega)
          show V K 0 0 P A g_11 [(0, .ref (A (w + 15000))), (1, .int (nI n)), (2, .int (nI k))] 28 []
          refine g_iinc (pc := 28) C dX8_listFromPool_28 (by decide) 2 rfl (v := nI (k + 1)) (nI_i1 _) (lv' := [(0, .ref (A (w + 15000))), (1, .int (nI n)), (2, .int (nI (k + 1)))]) [1, 2, 0] rfl ?_
          refine g_goto (pc := 31) C dX8_listFromPool_31 (tgt := 2) (by decide) ?_
          exact ih (k + 1) (by omega) σ8 (dpL cs σ1 p1) (l1 ++ [p1.getD (dI cs σ1 p1.length) 0]) (by rw [List.length_append, hl1]; rfl) (by rw [hσ8]; exact lfp_s (by omega) (by omega) he) (by rw [hσ8]; exact hS1.drw) hK_σ8 hT_σ8 hZ_σ8 _ h_14 hp_16 hp_15 hp_17 hn_12 (hf.tr (fun k hk => by rw [hf_13 k (by omega), hf_5 k (by omega)])) (by omega)
  exact lp_2 (_ + 1) 0 (Nat.zero_le _) σ pl ll rfl rfl hS rfl rfl rfl _ hV hW hC hP hL FrS.rf (Nat.lt_succ_self _)
abbrev rm_X8_onWelcome : Room := { frames := 5, cells := 0, slots := 0, locals := 115 }
theorem Y_X8_onWelcome : pY yX8_onWelcome cX8_onWelcome 3 (Option.none : Option Jvm.ClassFile.FieldType) := ⟨u_632, u_633, u_11, u_634⟩
theorem N_X8_onWelcome : yX8_onWelcome.cls ≠ "java/lang/invoke/MethodHandle" ∧ yX8_onWelcome.cls ≠ "java/lang/invoke/VarHandle" ∧ (parseMethodDescriptor yX8_onWelcome.desc).map (fun d => d.parameters.length) = some 2 := by decide +kernel
set_option maxRecDepth 20000 in
set_option maxHeartbeats 4000000 in
theorem c_X8_onWelcome (A : Nat → Nat) (P : List Nat) (g : pM) (w : Nat) {B : Nat} {cs : List Nat} {σ : Sg} {pl ll : List Nat} (i s : Nat) (hi : i < gK σ) (hs : s < gK σ) (hS : SW B cs σ) (h : VW A g w cs σ pl ll) : PM yX8_onWelcome cX8_onWelcome 3 (Option.none : Option Jvm.ClassFile.FieldType) rm_X8_onWelcome [.ref (A (w + 15000)), .ref (A (w + 100 + 100 * i)), .int (nI s)] P A g (fun v g' => v = none ∧ (∃ pl' ll', VW A g' w cs (wlc cs σ i s) pl' ll') ∧ FrS g g' w) := by
  obtain ⟨hV, hW, hC, hP, hL⟩ := h
  have hK := hS.2.1
  obtain ⟨hz1, hz2, hz3, hz4, hz5, hz6, hz7, hz8, hz9⟩ := hS.2.2.2.1
  refine px_intro (by decide +kernel) (Nat.le_of_ble_eq_true rfl) (fun K sz C R => ?_)
  show V K 0 0 P A g [(0, .ref (A (w + 15000))), (1, .ref (A (w + 100 + 100 * i))), (2, .int (nI s))] 0 []
  refine g_aload_n (pc := 0) C dX8_onWelcome_0 0 rfl ?_
  refine g_aload_n (pc := 1) C dX8_onWelcome_1 1 rfl ?_
  refine g_iload_n (pc := 2) C dX8_onWelcome_2 2 rfl ?_
  refine g_callV (pc := 3) C (As := [.ref (A (w + 100 + 100 * i)), .int (nI s)]) (rest := []) (b := (w + 15000)) (c_X8_add A P g w i s (by omega) (by omega) (by omega) hS ⟨hV, hW, hC, hP, hL⟩) hV rfl rfl Y_X8_add u_593 N_X8_add ⟨by decide, by decide⟩ ⟨by decide, by decide⟩ (Nat.le_of_ble_eq_true rfl) rfl dX8_onWelcome_3 ?_
  rintro _ _ _ g_1 ⟨rfl, rfl, rfl, hw_2, hf_3⟩
  obtain ⟨v_4, v_5, v_6, v_7, v_8⟩ := hw_2
  obtain ⟨σ9, hσ9⟩ : ∃ sM : Sg, sM = add cs σ i s := ⟨_, rfl⟩
  have hW_10 : WD A g_1 w (w + 15005) σ9 := by rw [hσ9]; exact v_5
  skip
  have hK_σ9 : gK σ9 = gK σ := (congrArg gK hσ9).trans (add_K.trans (rfl : gK σ = gK σ))
  have hT_σ9 : gT σ9 = gT σ := (congrArg gT hσ9).trans (add_T.trans (rfl : gT σ = gT σ))
  have hZ_σ9 : gZ σ9 = gZ σ := (congrArg gZ hσ9).trans (add_Z.trans (rfl : gZ σ = gZ σ))
  show V K 0 0 P A g_1 [(0, .ref (A (w + 15000))), (1, .ref (A (w + 100 + 100 * i))), (2, .int (nI s))] 6 []
  refine g_aload_n (pc := 6) C dX8_onWelcome_6 1 rfl ?_
  refine g_iconst (pc := 7) C dX8_onWelcome_7 (v := nI 0) rfl ?_
  refine g_put (pc := 8) C (j := 6) (WD.nd (i := i) hW_10 (by omega)).1 rfl (by decide) (Nat.le_of_ble_eq_true rfl) u_151 rfl pfd_I rfl rfl dX8_onWelcome_8 ?_
  obtain ⟨g_11, hg_11⟩ : ∃ yM : pM, yM = va_up g_1 (w + 100 + 100 * i) (ob 3 [.int (nI i), .int (b32 (nLv (gN σ9 i))), .ref (A (w + 100 + 100 * i + 1)), .ref (A (w + 100 + 100 * i + 3)), .int (nI (nLz (gN σ9 i))), .int (onv (nAs (gN σ9 i))), .int (nI 0), .int (nGo (gN σ9 i)), .ref (A (w + 100 + 100 * i + 5)), .ref (A (w + 100 + 100 * i + 6))]) := ⟨_, rfl⟩
  show V K 0 0 P A (va_up g_1 (w + 100 + 100 * i) (ob 3 [.int (nI i), .int (b32 (nLv (gN σ9 i))), .ref (A (w + 100 + 100 * i + 1)), .ref (A (w + 100 + 100 * i + 3)), .int (nI (nLz (gN σ9 i))), .int (onv (nAs (gN σ9 i))), .int (nI 0), .int (nGo (gN σ9 i)), .ref (A (w + 100 + 100 * i + 5)), .ref (A (w + 100 + 100 * i + 6))])) [(0, .ref (A (w + 15000))), (1, .ref (A (w + 100 + 100 * i))), (2, .int (nI s))] 11 []
  rw [← hg_11]
  have h_12 : g_11 (w + 15000) = ob 8 [.ref (A w), .ref (A (w + 1)), .ref (A (w + 15001)), .ref (A (w + 15003))] := by rw [hg_11, va_up_ne _ _ (show w + 15000 ≠ w + 100 + 100 * i from by omega)]; exact v_4
  have hf_13 : Fr g_1 g_11 (w + 100 + 100 * i) (w + 100 + 100 * i + 1) := by rw [hg_11]; exact Fr.up (by omega) (by omega)
  have hN_14 : ND A g_11 (w + 100 + 100 * i) i (sAk (gN σ9 i) 0) := ND.put (WD.nd (i := i) hW_10 (by omega)) hg_11 rfl rfl rfl rfl
  have hW_15 := WD.sn (i := i) hW_10 (by omega) (hf_13.mo (by omega) (by omega)) hN_14
  have hp_16 := CO.fr v_6 hf_13 (by omega)
  have hp_17 := NLN.fr v_7 hf_13 (by omega)
  have hp_18 := NLN.fr v_8 hf_13 (by omega)
  obtain ⟨σ19, hσ19⟩ : ∃ sM : Sg, sM = sNd σ9 i (sAk (gN σ9 i) 0) := ⟨_, rfl⟩
  have hW_20 : WD A g_11 w (w + 15005) σ19 := by rw [hσ19]; exact hW_15
  clear hW_15
  have hK_σ19 : gK σ19 = gK σ := (congrArg gK hσ19).trans hK_σ9
  have hT_σ19 : gT σ19 = gT σ := (congrArg gT hσ19).trans hT_σ9
  have hZ_σ19 : gZ σ19 = gZ σ := (congrArg gZ hσ19).trans hZ_σ9
  exact g_vret (pc := 11) C R ⟨rfl, rfl, rfl, by rw [show wlc cs σ i s = σ19 from by rw [hσ19, hσ9]; rfl]; exact ⟨_, _, ⟨h_12, hW_20, hp_16, hp_17, hp_18⟩⟩, fun k hk => by rw [hg_11, va_up_ne _ _ (by omega), hf_3 k (by omega)]⟩ (by decide) (by decide) dX8_onWelcome_11
abbrev rm_X8_onParting : Room := { frames := 5, cells := 0, slots := 0, locals := 119 }
theorem Y_X8_onParting : pY yX8_onParting cX8_onParting 3 (Option.none : Option Jvm.ClassFile.FieldType) := ⟨u_636, u_637, u_11, u_638⟩
theorem N_X8_onParting : yX8_onParting.cls ≠ "java/lang/invoke/MethodHandle" ∧ yX8_onParting.cls ≠ "java/lang/invoke/VarHandle" ∧ (parseMethodDescriptor yX8_onParting.desc).map (fun d => d.parameters.length) = some 2 := by decide +kernel
set_option maxRecDepth 20000 in
set_option maxHeartbeats 4000000 in
theorem c_X8_onParting (A : Nat → Nat) (P : List Nat) (g : pM) (w : Nat) {B : Nat} {cs : List Nat} {σ : Sg} {pl ll : List Nat} (i s : Nat) (hi : i < gK σ) (hs : s < gK σ) (hS : SW B cs σ) (h : VW A g w cs σ pl ll) : PM yX8_onParting cX8_onParting 3 (Option.none : Option Jvm.ClassFile.FieldType) rm_X8_onParting [.ref (A (w + 15000)), .ref (A (w + 100 + 100 * i)), .int (nI s)] P A g (fun v g' => v = none ∧ (∃ pl' ll', VW A g' w cs (prt cs σ i s) pl' ll') ∧ FrS g g' w) := by
  obtain ⟨hV, hW, hC, hP, hL⟩ := h
  have hK := hS.2.1
  obtain ⟨hz1, hz2, hz3, hz4, hz5, hz6, hz7, hz8, hz9⟩ := hS.2.2.2.1
  refine px_intro (by decide +kernel) (Nat.le_of_ble_eq_true rfl) (fun K sz C R => ?_)
  show V K 0 0 P A g [(0, .ref (A (w + 15000))), (1, .ref (A (w + 100 + 100 * i))), (2, .int (nI s))] 0 []
  refine g_aload_n (pc := 0) C dX8_onParting_0 1 rfl ?_
  refine g_get (pc := 1) C (j := 2) (WD.nd (i := i) hW (by omega)).1 rfl rfl (by decide) u_139 dX8_onParting_1 ?_
  refine g_iload_n (pc := 4) C dX8_onParting_4 2 rfl ?_
  refine g_callV (pc := 5) C (As := [.int (nI s)]) (rest := []) (b := (w + 100 + 100 * i + 1)) (n_X4_has A P g (w + 100 + 100 * i + 1) s (by omega) (WD.nd (i := i) hW (by omega)).2.1) (NLN.o (WD.nd (i := i) hW (by omega)).2.1) rfl rfl Y_X4_has u_597 N_X4_has ⟨by decide, by decide⟩ ⟨by decide, by decide⟩ (Nat.le_of_ble_eq_true rfl) rfl dX8_onParting_5 ?_
  rintro _ _ _ _ ⟨rfl, rfl, rfl, rfl⟩
  show V K 0 0 P A g [(0, .ref (A (w + 15000))), (1, .ref (A (w + 100 + 100 * i))), (2, .int (nI s))] 8 [.int (b32 (decide (s ∈ nAc (gN σ i))))]
  refine g_if_eq (pc := 8) C dX8_onParting_8 (tgt := 27) (by decide) (fun c_8 => ?_) (fun c_8 => ?_)
  ·
    have c_8 := of_decide_eq_false (b32_yes c_8)
    exact g_vret (pc := 27) C R ⟨rfl, rfl, rfl, by rw [show prt cs σ i s = σ from if_neg c_8]; exact ⟨_, _, ⟨hV, hW, hC, hP, hL⟩⟩, FrS.rf⟩ (by decide) (by decide) dX8_onParting_27
  ·
    have c_8 := of_decide_eq_true (b32_no c_8)
    have hw_1 := SW.dw hS (i := i) (by omega)
    refine g_aload_n (pc := 11) C dX8_onParting_11 1 rfl ?_
    refine g_iload_n (pc := 12) C dX8_onParting_12 2 rfl ?_
    refine g_callV (pc := 13) C (As := [.int (nI s)]) (rest := []) (b := (w + 100 + 100 * i)) (c_X3_unlink A P g (w + 100 + 100 * i) s (by omega) (by assumption) (WD.nd (i := i) hW (by omega))) (WD.nd (i := i) hW (by omega)).1 rfl rfl Y_X3_unlink u_612 N_X3_unlink ⟨by decide, by decide⟩ ⟨by decide, by decide⟩ (Nat.le_of_ble_eq_true rfl) rfl dX8_onParting_13 ?_
    rintro _ _ _ g_2 ⟨rfl, rfl, rfl, hn_3, hf_4⟩
    have hW_5 := WD.sn (i := i) hW (by omega) (hf_4.mo (by omega) (by omega)) hn_3
    have h_6 := hf_4.at (by omega) hV
    have hp_7 := CO.fr hC hf_4 (by omega)
    have hp_8 := NLN.fr hP hf_4 (by omega)
    have hp_9 := NLN.fr hL hf_4 (by omega)
    obtain ⟨σ10, hσ10⟩ : ∃ sM : Sg, sM = sNd σ i (uln (gN σ i) s) := ⟨_, rfl⟩
    have hW_11 : WD A g_2 w (w + 15005) σ10 := by rw [hσ10]; exact hW_5
    clear hW_5
    have hK_σ10 : gK σ10 = gK σ := (congrArg gK hσ10).trans (rfl : gK σ = gK σ)
    have hT_σ10 : gT σ10 = gT σ := (congrArg gT hσ10).trans (rfl : gT σ = gT σ)
    have hZ_σ10 : gZ σ10 = gZ σ := (congrArg gZ hσ10).trans (rfl : gZ σ = gZ σ)
    show V K 0 0 P A g_2 [(0, .ref (A (w + 15000))), (1, .ref (A (w + 100 + 100 * i))), (2, .int (nI s))] 16 []
    have hS_12 : SW B cs (σ10) := by rw [hσ10]; exact SW.ulS hS (by omega) (by omega)
    refine g_aload_n (pc := 16) C dX8_onParting_16 0 rfl ?_
    refine g_aload_n (pc := 17) C dX8_onParting_17 1 rfl ?_
    refine g_iload_n (pc := 18) C dX8_onParting_18 2 rfl ?_
    refine g_callV (pc := 19) C (As := [.ref (A (w + 100 + 100 * i)), .int (nI s)]) (rest := []) (b := (w + 15000)) (c_X8_note A P g_2 w i s (by omega) (by omega) hS_12 ⟨h_6, hW_11, hp_7, hp_8, hp_9⟩) h_6 rfl rfl Y_X8_note u_618 N_X8_note ⟨by decide, by decide⟩ ⟨by decide, by decide⟩ (Nat.le_of_ble_eq_true rfl) rfl dX8_onParting_19 ?_
    rintro _ _ _ g_13 ⟨rfl, rfl, rfl, hw_14, hf_15⟩
    obtain ⟨v_16, v_17, v_18, v_19, v_20⟩ := hw_14
    obtain ⟨σ21, hσ21⟩ : ∃ sM : Sg, sM = nte cs σ10 i s := ⟨_, rfl⟩
    have hW_22 : WD A g_13 w (w + 15005) σ21 := by rw [hσ21]; exact v_17
    skip
    have hK_σ21 : gK σ21 = gK σ := (congrArg gK hσ21).trans (nte_K.trans hK_σ10)
    have hT_σ21 : gT σ21 = gT σ := (congrArg gT hσ21).trans (nte_T.trans hT_σ10)
    have hZ_σ21 : gZ σ21 = gZ σ := (congrArg gZ hσ21).trans (nte_Z.trans hZ_σ10)
    show V K 0 0 P A g_13 [(0, .ref (A (w + 15000))), (1, .ref (A (w + 100 + 100 * i))), (2, .int (nI s))] 22 []
    have hS_23 : SW B cs (σ21) := by rw [hσ21]; exact SW.nte hS_12 (by omega) (by omega)
    refine g_aload_n (pc := 22) C dX8_onParting_22 0 rfl ?_
    refine g_aload_n (pc := 23) C dX8_onParting_23 1 rfl ?_
    refine g_callV (pc := 24) C (As := [.ref (A (w + 100 + 100 * i))]) (rest := []) (b := (w + 15000)) (c_X8_mend A P g_13 w i (by omega) hS_23 ⟨v_16, hW_22, v_18, v_19, v_20⟩) v_16 rfl rfl Y_X8_mend u_639 N_X8_mend ⟨by decide, by decide⟩ ⟨by decide, by decide⟩ (Nat.le_of_ble_eq_true rfl) rfl dX8_onParting_24 ?_
    rintro _ _ _ g_24 ⟨rfl, rfl, rfl, ⟨plg_24, llg_24, hw_25⟩, hf_26⟩
    obtain ⟨v_27, v_28, v_29, v_30, v_31⟩ := hw_25
    obtain ⟨σ32, hσ32⟩ : ∃ sM : Sg, sM = mnd cs σ21 i := ⟨_, rfl⟩
    have hW_33 : WD A g_24 w (w + 15005) σ32 := by rw [hσ32]; exact v_28
    skip
    have hK_σ32 : gK σ32 = gK σ := (congrArg gK hσ32).trans (mnd_K.trans hK_σ21)
    have hT_σ32 : gT σ32 = gT σ := (congrArg gT hσ32).trans (mnd_T.trans hT_σ21)
    have hZ_σ32 : gZ σ32 = gZ σ := (congrArg gZ hσ32).trans (mnd_Z.trans hZ_σ21)
    show V K 0 0 P A g_24 [(0, .ref (A (w + 15000))), (1, .ref (A (w + 100 + 100 * i))), (2, .int (nI s))] 27 []
    exact g_vret (pc := 27) C R ⟨rfl, rfl, rfl, by rw [show prt cs σ i s = σ32 from by rw [hσ32, hσ21, hσ10]; exact if_pos c_8]; exact ⟨_, _, ⟨v_27, hW_33, v_29, v_30, v_31⟩⟩, fun k hk => by rw [hf_26 k (by omega), hf_15 k (by omega), hf_4 k (by omega)]⟩ (by decide) (by decide) dX8_onParting_27
abbrev rm_X8_onAsking : Room := { frames := 5, cells := 0, slots := 0, locals := 115 }
theorem Y_X8_onAsking : pY yX8_onAsking cX8_onAsking 4 (Option.none : Option Jvm.ClassFile.FieldType) := ⟨u_644, u_645, u_11, u_646⟩
theorem N_X8_onAsking : yX8_onAsking.cls ≠ "java/lang/invoke/MethodHandle" ∧ yX8_onAsking.cls ≠ "java/lang/invoke/VarHandle" ∧ (parseMethodDescriptor yX8_onAsking.desc).map (fun d => d.parameters.length) = some 3 := by decide +kernel
set_option maxRecDepth 20000 in
set_option maxHeartbeats 4000000 in
theorem c_X8_onAsking (A : Nat → Nat) (P : List Nat) (g : pM) (w : Nat) {B : Nat} {cs : List Nat} {σ : Sg} {pl ll : List Nat} (i s : Nat) (x : Nat) (hx : x < 2 ^ 31) (hi : i < gK σ) (hs : s < gK σ) (hS : SW B cs σ) (h : VW A g w cs σ pl ll) : PM yX8_onAsking cX8_onAsking 4 (Option.none : Option Jvm.ClassFile.FieldType) rm_X8_onAsking [.ref (A (w + 15000)), .ref (A (w + 100 + 100 * i)), .int (nI s), .int (nI x)] P A g (fun v g' => v = none ∧ (∃ pl' ll', VW A g' w cs (askS cs σ i s x) pl' ll') ∧ FrS g g' w) := by
  obtain ⟨hV, hW, hC, hP, hL⟩ := h
  have hK := hS.2.1
  obtain ⟨hz1, hz2, hz3, hz4, hz5, hz6, hz7, hz8, hz9⟩ := hS.2.2.2.1
  refine px_intro (by decide +kernel) (Nat.le_of_ble_eq_true rfl) (fun K sz C R => ?_)
  show V K 0 0 P A g [(0, .ref (A (w + 15000))), (1, .ref (A (w + 100 + 100 * i))), (2, .int (nI s)), (3, .int (nI x))] 0 []
  refine g_iload_n (pc := 0) C dX8_onAsking_0 3 rfl ?_
  refine g_iconst (pc := 1) C dX8_onAsking_1 (v := nI 1) rfl ?_
  refine g_icmp_eq (pc := 2) C dX8_onAsking_2 (tgt := 24) (by decide) (fun c_2 => ?_) (fun c_2 => ?_)
  ·
    have c_2 : x = 1 := (nI_eq (by omega) (by omega)).mp c_2
    refine g_aload_n (pc := 24) C dX8_onAsking_24 0 rfl ?_
    refine g_aload_n (pc := 25) C dX8_onAsking_25 1 rfl ?_
    refine g_iload_n (pc := 26) C dX8_onAsking_26 2 rfl ?_
    refine g_callV (pc := 27) C (As := [.ref (A (w + 100 + 100 * i)), .int (nI s)]) (rest := []) (b := (w + 15000)) (c_X8_add A P g w i s (by omega) (by omega) (by omega) hS ⟨hV, hW, hC, hP, hL⟩) hV rfl rfl Y_X8_add u_593 N_X8_add ⟨by decide, by decide⟩ ⟨by decide, by decide⟩ (Nat.le_of_ble_eq_true rfl) rfl dX8_onAsking_27 ?_
    rintro _ _ _ g_1 ⟨rfl, rfl, rfl, hw_2, hf_3⟩
    obtain ⟨v_4, v_5, v_6, v_7, v_8⟩ := hw_2
    obtain ⟨σ9, hσ9⟩ : ∃ sM : Sg, sM = add cs σ i s := ⟨_, rfl⟩
    have hW_10 : WD A g_1 w (w + 15005) σ9 := by rw [hσ9]; exact v_5
    skip
    have hK_σ9 : gK σ9 = gK σ := (congrArg gK hσ9).trans (add_K.trans (rfl : gK σ = gK σ))
    have hT_σ9 : gT σ9 = gT σ := (congrArg gT hσ9).trans (add_T.trans (rfl : gT σ = gT σ))
    have hZ_σ9 : gZ σ9 = gZ σ := (congrArg gZ hσ9).trans (add_Z.trans (rfl : gZ σ = gZ σ))
    show V K 0 0 P A g_1 [(0, .ref (A (w + 15000))), (1, .ref (A (w + 100 + 100 * i))), (2, .int (nI s)), (3, .int (nI x))] 30 []
    have hS_11 : SW B cs (σ9) := by rw [hσ9]; exact SW.add hS (by omega) (by omega)
    refine g_aload_n (pc := 30) C dX8_onAsking_30 0 rfl ?_
    refine g_aload_n (pc := 31) C dX8_onAsking_31 1 rfl ?_
    refine g_iload_n (pc := 32) C dX8_onAsking_32 2 rfl ?_
    refine g_iconst (pc := 33) C dX8_onAsking_33 (v := nI 3) rfl ?_
    refine g_iconst (pc := 34) C dX8_onAsking_34 (v := nI 0) rfl ?_
    refine g_iconst (pc := 35) C dX8_onAsking_35 (v := nI 0) rfl ?_
    refine g_callV (pc := 36) C (As := [.ref (A (w + 100 + 100 * i)), .int (nI s), .int (nI 3), .int (nI 0), .int (nI 0)]) (rest := []) (b := (w + 15000)) (c_X8_send A P g_1 w i s 3 0 0 (by omega) (by omega) (by omega) (by omega) (by omega) ⟨v_4, hW_10, v_6, v_7, v_8⟩) v_4 rfl rfl Y_X8_send u_623 N_X8_send ⟨by decide, by decide⟩ ⟨by decide, by decide⟩ (Nat.le_of_ble_eq_true rfl) rfl dX8_onAsking_36 ?_
    rintro _ _ _ g_12 ⟨rfl, rfl, rfl, hw_13, hf_14⟩
    obtain ⟨v_15, v_16, v_17, v_18, v_19⟩ := hw_13
    obtain ⟨σ20, hσ20⟩ : ∃ sM : Sg, sM = snd σ9 i s 3 0 0 [] := ⟨_, rfl⟩
    have hW_21 : WD A g_12 w (w + 15005) σ20 := by rw [hσ20]; exact v_16
    skip
    have hK_σ20 : gK σ20 = gK σ := (congrArg gK hσ20).trans (snd_K.trans hK_σ9)
    have hT_σ20 : gT σ20 = gT σ := (congrArg gT hσ20).trans (snd_T.trans hT_σ9)
    have hZ_σ20 : gZ σ20 = gZ σ := (congrArg gZ hσ20).trans (snd_Z.trans hZ_σ9)
    show V K 0 0 P A g_12 [(0, .ref (A (w + 15000))), (1, .ref (A (w + 100 + 100 * i))), (2, .int (nI s)), (3, .int (nI x))] 39 []
    refine g_goto (pc := 39) C dX8_onAsking_39 (tgt := 52) (by decide) ?_
    exact g_vret (pc := 52) C R ⟨rfl, rfl, rfl, by rw [show askS cs σ i s x = σ20 from by rw [hσ20, hσ9]; exact if_pos (Or.inl c_2)]; exact ⟨_, _, ⟨v_15, hW_21, v_17, v_18, v_19⟩⟩, fun k hk => by rw [hf_14 k (by omega), hf_3 k (by omega)]⟩ (by decide) (by decide) dX8_onAsking_52
  ·
    have c_2 : ¬ x = 1 := fun h => c_2 ((nI_eq (a := x) (b := 1) (by omega) (by omega)).mpr h)
    refine g_aload_n (pc := 5) C dX8_onAsking_5 0 rfl ?_
    refine g_aload_n (pc := 6) C dX8_onAsking_6 1 rfl ?_
    refine g_callV (pc := 7) C (As := [.ref (A (w + 100 + 100 * i))]) (rest := []) (b := (w + 15000)) (c_X8_isFull A P g w i (by omega) (by omega) ⟨hV, hW, hC, hP, hL⟩) hV rfl rfl Y_X8_isFull u_603 N_X8_isFull ⟨by decide, by decide⟩ ⟨by decide, by decide⟩ (Nat.le_of_ble_eq_true rfl) rfl dX8_onAsking_7 ?_
    rintro _ _ _ _ ⟨rfl, rfl, rfl, rfl⟩
    show V K 0 0 P A g [(0, .ref (A (w + 15000))), (1, .ref (A (w + 100 + 100 * i))), (2, .int (nI s)), (3, .int (nI x))] 10 [.int (b32 (decide ((gZ σ).1 ≤ (nAc (gN σ i)).length)))]
    refine g_if_eq (pc := 10) C dX8_onAsking_10 (tgt := 24) (by decide) (fun c_10 => ?_) (fun c_10 => ?_)
    ·
      have c_10 := of_decide_eq_false (b32_yes c_10)
      refine g_aload_n (pc := 24) C dX8_onAsking_24 0 rfl ?_
      refine g_aload_n (pc := 25) C dX8_onAsking_25 1 rfl ?_
      refine g_iload_n (pc := 26) C dX8_onAsking_26 2 rfl ?_
      refine g_callV (pc := 27) C (As := [.ref (A (w + 100 + 100 * i)), .int (nI s)]) (rest := []) (b := (w + 15000)) (c_X8_add A P g w i s (by omega) (by omega) (by omega) hS ⟨hV, hW, hC, hP, hL⟩) hV rfl rfl Y_X8_add u_593 N_X8_add ⟨by decide, by decide⟩ ⟨by decide, by decide⟩ (Nat.le_of_ble_eq_true rfl) rfl dX8_onAsking_27 ?_
      rintro _ _ _ g_22 ⟨rfl, rfl, rfl, hw_23, hf_24⟩
      obtain ⟨v_25, v_26, v_27, v_28, v_29⟩ := hw_23
      obtain ⟨σ30, hσ30⟩ : ∃ sM : Sg, sM = add cs σ i s := ⟨_, rfl⟩
      have hW_31 : WD A g_22 w (w + 15005) σ30 := by rw [hσ30]; exact v_26
      skip
      have hK_σ30 : gK σ30 = gK σ := (congrArg gK hσ30).trans (add_K.trans (rfl : gK σ = gK σ))
      have hT_σ30 : gT σ30 = gT σ := (congrArg gT hσ30).trans (add_T.trans (rfl : gT σ = gT σ))
      have hZ_σ30 : gZ σ30 = gZ σ := (congrArg gZ hσ30).trans (add_Z.trans (rfl : gZ σ = gZ σ))
      show V K 0 0 P A g_22 [(0, .ref (A (w + 15000))), (1, .ref (A (w + 100 + 100 * i))), (2, .int (nI s)), (3, .int (nI x))] 30 []
      have hS_32 : SW B cs (σ30) := by rw [hσ30]; exact SW.add hS (by omega) (by omega)
      refine g_aload_n (pc := 30) C dX8_onAsking_30 0 rfl ?_
      refine g_aload_n (pc := 31) C dX8_onAsking_31 1 rfl ?_
      refine g_iload_n (pc := 32) C dX8_onAsking_32 2 rfl ?_
      refine g_iconst (pc := 33) C dX8_onAsking_33 (v := nI 3) rfl ?_
      refine g_iconst (pc := 34) C dX8_onAsking_34 (v := nI 0) rfl ?_
      refine g_iconst (pc := 35) C dX8_onAsking_35 (v := nI 0) rfl ?_
      refine g_callV (pc := 36) C (As := [.ref (A (w + 100 + 100 * i)), .int (nI s), .int (nI 3), .int (nI 0), .int (nI 0)]) (rest := []) (b := (w + 15000)) (c_X8_send A P g_22 w i s 3 0 0 (by omega) (by omega) (by omega) (by omega) (by omega) ⟨v_25, hW_31, v_27, v_28, v_29⟩) v_25 rfl rfl Y_X8_send u_623 N_X8_send ⟨by decide, by decide⟩ ⟨by decide, by decide⟩ (Nat.le_of_ble_eq_true rfl) rfl dX8_onAsking_36 ?_
      rintro _ _ _ g_33 ⟨rfl, rfl, rfl, hw_34, hf_35⟩
      obtain ⟨v_36, v_37, v_38, v_39, v_40⟩ := hw_34
      obtain ⟨σ41, hσ41⟩ : ∃ sM : Sg, sM = snd σ30 i s 3 0 0 [] := ⟨_, rfl⟩
      have hW_42 : WD A g_33 w (w + 15005) σ41 := by rw [hσ41]; exact v_37
      skip
      have hK_σ41 : gK σ41 = gK σ := (congrArg gK hσ41).trans (snd_K.trans hK_σ30)
      have hT_σ41 : gT σ41 = gT σ := (congrArg gT hσ41).trans (snd_T.trans hT_σ30)
      have hZ_σ41 : gZ σ41 = gZ σ := (congrArg gZ hσ41).trans (snd_Z.trans hZ_σ30)
      show V K 0 0 P A g_33 [(0, .ref (A (w + 15000))), (1, .ref (A (w + 100 + 100 * i))), (2, .int (nI s)), (3, .int (nI x))] 39 []
      refine g_goto (pc := 39) C dX8_onAsking_39 (tgt := 52) (by decide) ?_
      exact g_vret (pc := 52) C R ⟨rfl, rfl, rfl, by rw [show askS cs σ i s x = σ41 from by rw [hσ41, hσ30]; exact if_pos (Or.inr (Or.inl c_10))]; exact ⟨_, _, ⟨v_36, hW_42, v_38, v_39, v_40⟩⟩, fun k hk => by rw [hf_35 k (by omega), hf_24 k (by omega)]⟩ (by decide) (by decide) dX8_onAsking_52
    ·
      have c_10 := of_decide_eq_true (b32_no c_10)
      refine g_aload_n (pc := 13) C dX8_onAsking_13 1 rfl ?_
      refine g_get (pc := 14) C (j := 2) (WD.nd (i := i) hW (by omega)).1 rfl rfl (by decide) u_139 dX8_onAsking_14 ?_
      refine g_iload_n (pc := 17) C dX8_onAsking_17 2 rfl ?_
      refine g_callV (pc := 18) C (As := [.int (nI s)]) (rest := []) (b := (w + 100 + 100 * i + 1)) (n_X4_has A P g (w + 100 + 100 * i + 1) s (by omega) (WD.nd (i := i) hW (by omega)).2.1) (NLN.o (WD.nd (i := i) hW (by omega)).2.1) rfl rfl Y_X4_has u_597 N_X4_has ⟨by decide, by decide⟩ ⟨by decide, by decide⟩ (Nat.le_of_ble_eq_true rfl) rfl dX8_onAsking_18 ?_
      rintro _ _ _ _ ⟨rfl, rfl, rfl, rfl⟩
      show V K 0 0 P A g [(0, .ref (A (w + 15000))), (1, .ref (A (w + 100 + 100 * i))), (2, .int (nI s)), (3, .int (nI x))] 21 [.int (b32 (decide (s ∈ nAc (gN σ i))))]
      refine g_if_eq (pc := 21) C dX8_onAsking_21 (tgt := 42) (by decide) (fun c_21 => ?_) (fun c_21 => ?_)
      ·
        have c_21 := of_decide_eq_false (b32_yes c_21)
        refine g_aload_n (pc := 42) C dX8_onAsking_42 0 rfl ?_
        refine g_aload_n (pc := 43) C dX8_onAsking_43 1 rfl ?_
        refine g_iload_n (pc := 44) C dX8_onAsking_44 2 rfl ?_
        refine g_bipush (pc := 45) C dX8_onAsking_45 (v := nI 6) rfl ?_
        refine g_iconst (pc := 47) C dX8_onAsking_47 (v := nI 0) rfl ?_
        refine g_iconst (pc := 48) C dX8_onAsking_48 (v := nI 0) rfl ?_
        refine g_callV (pc := 49) C (As := [.ref (A (w + 100 + 100 * i)), .int (nI s), .int (nI 6), .int (nI 0), .int (nI 0)]) (rest := []) (b := (w + 15000)) (c_X8_send A P g w i s 6 0 0 (by omega) (by omega) (by omega) (by omega) (by omega) ⟨hV, hW, hC, hP, hL⟩) hV rfl rfl Y_X8_send u_623 N_X8_send ⟨by decide, by decide⟩ ⟨by decide, by decide⟩ (Nat.le_of_ble_eq_true rfl) rfl dX8_onAsking_49 ?_
        rintro _ _ _ g_43 ⟨rfl, rfl, rfl, hw_44, hf_45⟩
        obtain ⟨v_46, v_47, v_48, v_49, v_50⟩ := hw_44
        obtain ⟨σ51, hσ51⟩ : ∃ sM : Sg, sM = snd σ i s 6 0 0 [] := ⟨_, rfl⟩
        have hW_52 : WD A g_43 w (w + 15005) σ51 := by rw [hσ51]; exact v_47
        skip
        have hK_σ51 : gK σ51 = gK σ := (congrArg gK hσ51).trans (snd_K.trans (rfl : gK σ = gK σ))
        have hT_σ51 : gT σ51 = gT σ := (congrArg gT hσ51).trans (snd_T.trans (rfl : gT σ = gT σ))
        have hZ_σ51 : gZ σ51 = gZ σ := (congrArg gZ hσ51).trans (snd_Z.trans (rfl : gZ σ = gZ σ))
        show V K 0 0 P A g_43 [(0, .ref (A (w + 15000))), (1, .ref (A (w + 100 + 100 * i))), (2, .int (nI s)), (3, .int (nI x))] 52 []
        exact g_vret (pc := 52) C R ⟨rfl, rfl, rfl, by rw [show askS cs σ i s x = σ51 from by rw [hσ51]; exact if_neg (fun e => by rcases e with e | e | e; exact c_2 e; exact e c_10; exact c_21 e)]; exact ⟨_, _, ⟨v_46, hW_52, v_48, v_49, v_50⟩⟩, fun k hk => by rw [hf_45 k (by omega)]⟩ (by decide) (by decide) dX8_onAsking_52
      ·
        have c_21 := of_decide_eq_true (b32_no c_21)
        refine g_aload_n (pc := 24) C dX8_onAsking_24 0 rfl ?_
        refine g_aload_n (pc := 25) C dX8_onAsking_25 1 rfl ?_
        refine g_iload_n (pc := 26) C dX8_onAsking_26 2 rfl ?_
        refine g_callV (pc := 27) C (As := [.ref (A (w + 100 + 100 * i)), .int (nI s)]) (rest := []) (b := (w + 15000)) (c_X8_add A P g w i s (by omega) (by omega) (by omega) hS ⟨hV, hW, hC, hP, hL⟩) hV rfl rfl Y_X8_add u_593 N_X8_add ⟨by decide, by decide⟩ ⟨by decide, by decide⟩ (Nat.le_of_ble_eq_true rfl) rfl dX8_onAsking_27 ?_
        rintro _ _ _ g_53 ⟨rfl, rfl, rfl, hw_54, hf_55⟩
        obtain ⟨v_56, v_57, v_58, v_59, v_60⟩ := hw_54
        obtain ⟨σ61, hσ61⟩ : ∃ sM : Sg, sM = add cs σ i s := ⟨_, rfl⟩
        have hW_62 : WD A g_53 w (w + 15005) σ61 := by rw [hσ61]; exact v_57
        skip
        have hK_σ61 : gK σ61 = gK σ := (congrArg gK hσ61).trans (add_K.trans (rfl : gK σ = gK σ))
        have hT_σ61 : gT σ61 = gT σ := (congrArg gT hσ61).trans (add_T.trans (rfl : gT σ = gT σ))
        have hZ_σ61 : gZ σ61 = gZ σ := (congrArg gZ hσ61).trans (add_Z.trans (rfl : gZ σ = gZ σ))
        show V K 0 0 P A g_53 [(0, .ref (A (w + 15000))), (1, .ref (A (w + 100 + 100 * i))), (2, .int (nI s)), (3, .int (nI x))] 30 []
        have hS_63 : SW B cs (σ61) := by rw [hσ61]; exact SW.add hS (by omega) (by omega)
        refine g_aload_n (pc := 30) C dX8_onAsking_30 0 rfl ?_
        refine g_aload_n (pc := 31) C dX8_onAsking_31 1 rfl ?_
        refine g_iload_n (pc := 32) C dX8_onAsking_32 2 rfl ?_
        refine g_iconst (pc := 33) C dX8_onAsking_33 (v := nI 3) rfl ?_
        refine g_iconst (pc := 34) C dX8_onAsking_34 (v := nI 0) rfl ?_
        refine g_iconst (pc := 35) C dX8_onAsking_35 (v := nI 0) rfl ?_
        refine g_callV (pc := 36) C (As := [.ref (A (w + 100 + 100 * i)), .int (nI s), .int (nI 3), .int (nI 0), .int (nI 0)]) (rest := []) (b := (w + 15000)) (c_X8_send A P g_53 w i s 3 0 0 (by omega) (by omega) (by omega) (by omega) (by omega) ⟨v_56, hW_62, v_58, v_59, v_60⟩) v_56 rfl rfl Y_X8_send u_623 N_X8_send ⟨by decide, by decide⟩ ⟨by decide, by decide⟩ (Nat.le_of_ble_eq_true rfl) rfl dX8_onAsking_36 ?_
        rintro _ _ _ g_64 ⟨rfl, rfl, rfl, hw_65, hf_66⟩
        obtain ⟨v_67, v_68, v_69, v_70, v_71⟩ := hw_65
        obtain ⟨σ72, hσ72⟩ : ∃ sM : Sg, sM = snd σ61 i s 3 0 0 [] := ⟨_, rfl⟩
        have hW_73 : WD A g_64 w (w + 15005) σ72 := by rw [hσ72]; exact v_68
        skip
        have hK_σ72 : gK σ72 = gK σ := (congrArg gK hσ72).trans (snd_K.trans hK_σ61)
        have hT_σ72 : gT σ72 = gT σ := (congrArg gT hσ72).trans (snd_T.trans hT_σ61)
        have hZ_σ72 : gZ σ72 = gZ σ := (congrArg gZ hσ72).trans (snd_Z.trans hZ_σ61)
        show V K 0 0 P A g_64 [(0, .ref (A (w + 15000))), (1, .ref (A (w + 100 + 100 * i))), (2, .int (nI s)), (3, .int (nI x))] 39 []
        refine g_goto (pc := 39) C dX8_onAsking_39 (tgt := 52) (by decide) ?_
        exact g_vret (pc := 52) C R ⟨rfl, rfl, rfl, by rw [show askS cs σ i s x = σ72 from by rw [hσ72, hσ61]; exact if_pos (Or.inr (Or.inr c_21))]; exact ⟨_, _, ⟨v_67, hW_73, v_69, v_70, v_71⟩⟩, fun k hk => by rw [hf_66 k (by omega), hf_55 k (by omega)]⟩ (by decide) (by decide) dX8_onAsking_52
abbrev rm_X8_onRefusal : Room := { frames := 5, cells := 0, slots := 0, locals := 119 }
theorem Y_X8_onRefusal : pY yX8_onRefusal cX8_onRefusal 3 (Option.none : Option Jvm.ClassFile.FieldType) := ⟨u_648, u_649, u_11, u_650⟩
theorem N_X8_onRefusal : yX8_onRefusal.cls ≠ "java/lang/invoke/MethodHandle" ∧ yX8_onRefusal.cls ≠ "java/lang/invoke/VarHandle" ∧ (parseMethodDescriptor yX8_onRefusal.desc).map (fun d => d.parameters.length) = some 2 := by decide +kernel
set_option maxRecDepth 20000 in
set_option maxHeartbeats 4000000 in
theorem c_X8_onRefusal (A : Nat → Nat) (P : List Nat) (g : pM) (w : Nat) {B : Nat} {cs : List Nat} {σ : Sg} {pl ll : List Nat} (i s : Nat) (hi : i < gK σ) (hs : s < gK σ) (hS : SW B cs σ) (h : VW A g w cs σ pl ll) : PM yX8_onRefusal cX8_onRefusal 3 (Option.none : Option Jvm.ClassFile.FieldType) rm_X8_onRefusal [.ref (A (w + 15000)), .ref (A (w + 100 + 100 * i)), .int (nI s)] P A g (fun v g' => v = none ∧ (∃ pl' ll', VW A g' w cs (rfs cs σ i s) pl' ll') ∧ FrS g g' w) := by
  obtain ⟨hV, hW, hC, hP, hL⟩ := h
  have hK := hS.2.1
  obtain ⟨hz1, hz2, hz3, hz4, hz5, hz6, hz7, hz8, hz9⟩ := hS.2.2.2.1
  have hwi := hS.dw hi
  have hwas : ∀ x, nAs (gN σ i) = some x → x < 16 := hwi.2.2.1
  refine px_intro (by decide +kernel) (Nat.le_of_ble_eq_true rfl) (fun K sz C R => ?_)
  show V K 0 0 P A g [(0, .ref (A (w + 15000))), (1, .ref (A (w + 100 + 100 * i))), (2, .int (nI s))] 0 []
  refine g_aload_n (pc := 0) C dX8_onRefusal_0 1 rfl ?_
  refine g_get (pc := 1) C (j := 5) (WD.nd (i := i) hW (by omega)).1 rfl rfl (by decide) u_147 dX8_onRefusal_1 ?_
  refine g_iload_n (pc := 4) C dX8_onRefusal_4 2 rfl ?_
  refine g_icmp_ne (pc := 5) C dX8_onRefusal_5 (tgt := 31) (by decide) (fun c_5 => ?_) (fun c_5 => ?_)
  ·
    have c_5 : ¬ nAs (gN σ i) = some s := fun e => c_5 ((onv_eq (fun x hx => by have := hwas x hx; omega) (by omega)).mpr e)
    exact g_vret (pc := 31) C R ⟨rfl, rfl, rfl, by rw [show rfs cs σ i s = σ from if_neg c_5]; exact ⟨_, _, ⟨hV, hW, hC, hP, hL⟩⟩, FrS.rf⟩ (by decide) (by decide) dX8_onRefusal_31
  ·
    have c_5 : nAs (gN σ i) = some s := (onv_eq (fun x hx => by have := hwas x hx; omega) (by omega)).mp c_5
    refine g_aload_n (pc := 8) C dX8_onRefusal_8 1 rfl ?_
    refine g_bipush (pc := 9) C dX8_onRefusal_9 (v := (-6)) rfl ?_
    refine g_put (pc := 11) C (j := 5) (WD.nd (i := i) hW (by omega)).1 rfl (by decide) (Nat.le_of_ble_eq_true rfl) u_147 rfl pfd_I rfl rfl dX8_onRefusal_11 ?_
    obtain ⟨g_1, hg_1⟩ : ∃ yM : pM, yM = va_up g (w + 100 + 100 * i) (ob 3 [.int (nI i), .int (b32 (nLv (gN σ i))), .ref (A (w + 100 + 100 * i + 1)), .ref (A (w + 100 + 100 * i + 3)), .int (nI (nLz (gN σ i))), .int (-6), .int (nI (nAk (gN σ i))), .int (nGo (gN σ i)), .ref (A (w + 100 + 100 * i + 5)), .ref (A (w + 100 + 100 * i + 6))]) := ⟨_, rfl⟩
    show V K 0 0 P A (va_up g (w + 100 + 100 * i) (ob 3 [.int (nI i), .int (b32 (nLv (gN σ i))), .ref (A (w + 100 + 100 * i + 1)), .ref (A (w + 100 + 100 * i + 3)), .int (nI (nLz (gN σ i))), .int (-6), .int (nI (nAk (gN σ i))), .int (nGo (gN σ i)), .ref (A (w + 100 + 100 * i + 5)), .ref (A (w + 100 + 100 * i + 6))])) [(0, .ref (A (w + 15000))), (1, .ref (A (w + 100 + 100 * i))), (2, .int (nI s))] 14 []
    rw [← hg_1]
    have h_2 : g_1 (w + 15000) = ob 8 [.ref (A w), .ref (A (w + 1)), .ref (A (w + 15001)), .ref (A (w + 15003))] := by rw [hg_1, va_up_ne _ _ (show w + 15000 ≠ w + 100 + 100 * i from by omega)]; exact hV
    have hf_3 : Fr g g_1 (w + 100 + 100 * i) (w + 100 + 100 * i + 1) := by rw [hg_1]; exact Fr.up (by omega) (by omega)
    have hN_4 : ND A g_1 (w + 100 + 100 * i) i (sAs (gN σ i) none) := ND.put (WD.nd (i := i) hW (by omega)) hg_1 rfl rfl rfl rfl
    have hW_5 := WD.sn (i := i) hW (by omega) (hf_3.mo (by omega) (by omega)) hN_4
    have hp_6 := CO.fr hC hf_3 (by omega)
    have hp_7 := NLN.fr hP hf_3 (by omega)
    have hp_8 := NLN.fr hL hf_3 (by omega)
    obtain ⟨σ9, hσ9⟩ : ∃ sM : Sg, sM = sNd σ i (sAs (gN σ i) none) := ⟨_, rfl⟩
    have hW_10 : WD A g_1 w (w + 15005) σ9 := by rw [hσ9]; exact hW_5
    clear hW_5
    have hK_σ9 : gK σ9 = gK σ := (congrArg gK hσ9).trans (rfl : gK σ = gK σ)
    have hT_σ9 : gT σ9 = gT σ := (congrArg gT hσ9).trans (rfl : gT σ = gT σ)
    have hZ_σ9 : gZ σ9 = gZ σ := (congrArg gZ hσ9).trans (rfl : gZ σ = gZ σ)
    have hS_11 : SW B cs (σ9) := by rw [hσ9]; exact SW.asS hS (by omega) (fun q hq => by cases hq)
    have hak := (SW.dw hS_11 (i := i) (by omega)).2.1
    refine g_aload_n (pc := 14) C dX8_onRefusal_14 1 rfl ?_
    refine g_dup (pc := 15) C dX8_onRefusal_15 rfl ?_
    refine g_get (pc := 16) C (j := 6) (WD.nd (i := i) hW_10 (by omega)).1 rfl rfl (by decide) u_151 dX8_onRefusal_16 ?_
    refine g_iconst (pc := 19) C dX8_onRefusal_19 (v := nI 1) rfl ?_
    refine g_iload_n (pc := 20) C dX8_onRefusal_20 2 rfl ?_
    refine g_ishl (pc := 21) C dX8_onRefusal_21 (z := nI (2 ^ s)) (shl_nI (by omega)) ?_
    refine g_ior (pc := 22) C dX8_onRefusal_22 (z := nI (nAk (gN σ9 i) ||| 2 ^ s)) (or_nI _ _) ?_
    refine g_put (pc := 23) C (j := 6) (WD.nd (i := i) hW_10 (by omega)).1 rfl (by decide) (Nat.le_of_ble_eq_true rfl) u_151 rfl pfd_I rfl rfl dX8_onRefusal_23 ?_
    obtain ⟨g_12, hg_12⟩ : ∃ yM : pM, yM = va_up g_1 (w + 100 + 100 * i) (ob 3 [.int (nI i), .int (b32 (nLv (gN σ9 i))), .ref (A (w + 100 + 100 * i + 1)), .ref (A (w + 100 + 100 * i + 3)), .int (nI (nLz (gN σ9 i))), .int (onv (nAs (gN σ9 i))), .int (nI (nAk (gN σ9 i) ||| 2 ^ s)), .int (nGo (gN σ9 i)), .ref (A (w + 100 + 100 * i + 5)), .ref (A (w + 100 + 100 * i + 6))]) := ⟨_, rfl⟩
    show V K 0 0 P A (va_up g_1 (w + 100 + 100 * i) (ob 3 [.int (nI i), .int (b32 (nLv (gN σ9 i))), .ref (A (w + 100 + 100 * i + 1)), .ref (A (w + 100 + 100 * i + 3)), .int (nI (nLz (gN σ9 i))), .int (onv (nAs (gN σ9 i))), .int (nI (nAk (gN σ9 i) ||| 2 ^ s)), .int (nGo (gN σ9 i)), .ref (A (w + 100 + 100 * i + 5)), .ref (A (w + 100 + 100 * i + 6))])) [(0, .ref (A (w + 15000))), (1, .ref (A (w + 100 + 100 * i))), (2, .int (nI s))] 26 []
    rw [← hg_12]
    have h_13 : g_12 (w + 15000) = ob 8 [.ref (A w), .ref (A (w + 1)), .ref (A (w + 15001)), .ref (A (w + 15003))] := by rw [hg_12, va_up_ne _ _ (show w + 15000 ≠ w + 100 + 100 * i from by omega)]; exact h_2
    have hf_14 : Fr g_1 g_12 (w + 100 + 100 * i) (w + 100 + 100 * i + 1) := by rw [hg_12]; exact Fr.up (by omega) (by omega)
    have hN_15 : ND A g_12 (w + 100 + 100 * i) i (sAk (gN σ9 i) (nAk (gN σ9 i) ||| 2 ^ s)) := ND.put (WD.nd (i := i) hW_10 (by omega)) hg_12 rfl rfl rfl rfl
    have hW_16 := WD.sn (i := i) hW_10 (by omega) (hf_14.mo (by omega) (by omega)) hN_15
    have hp_17 := CO.fr hp_6 hf_14 (by omega)
    have hp_18 := NLN.fr hp_7 hf_14 (by omega)
    have hp_19 := NLN.fr hp_8 hf_14 (by omega)
    obtain ⟨σ20, hσ20⟩ : ∃ sM : Sg, sM = sNd σ9 i (sAk (gN σ9 i) (nAk (gN σ9 i) ||| 2 ^ s)) := ⟨_, rfl⟩
    have hW_21 : WD A g_12 w (w + 15005) σ20 := by rw [hσ20]; exact hW_16
    clear hW_16
    have hK_σ20 : gK σ20 = gK σ := (congrArg gK hσ20).trans hK_σ9
    have hT_σ20 : gT σ20 = gT σ := (congrArg gT hσ20).trans hT_σ9
    have hZ_σ20 : gZ σ20 = gZ σ := (congrArg gZ hσ20).trans hZ_σ9
    have hS_22 : SW B cs (σ20) := by rw [hσ20]; exact SW.akS hS_11 (by omega) (or_lt hak (by omega))
    refine g_aload_n (pc := 26) C dX8_onRefusal_26 0 rfl ?_
    refine g_aload_n (pc := 27) C dX8_onRefusal_27 1 rfl ?_
    refine g_callV (pc := 28) C (As := [.ref (A (w + 100 + 100 * i))]) (rest := []) (b := (w + 15000)) (c_X8_mend A P g_12 w i (by omega) hS_22 ⟨h_13, hW_21, hp_17, hp_18, hp_19⟩) h_13 rfl rfl Y_X8_mend u_639 N_X8_mend ⟨by decide, by decide⟩ ⟨by decide, by decide⟩ (Nat.le_of_ble_eq_true rfl) rfl dX8_onRefusal_28 ?_
    rintro _ _ _ g_23 ⟨rfl, rfl, rfl, ⟨plg_23, llg_23, hw_24⟩, hf_25⟩
    obtain ⟨v_26, v_27, v_28, v_29, v_30⟩ := hw_24
    obtain ⟨σ31, hσ31⟩ : ∃ sM : Sg, sM = mnd cs σ20 i := ⟨_, rfl⟩
    have hW_32 : WD A g_23 w (w + 15005) σ31 := by rw [hσ31]; exact v_27
    skip
    have hK_σ31 : gK σ31 = gK σ := (congrArg gK hσ31).trans (mnd_K.trans hK_σ20)
    have hT_σ31 : gT σ31 = gT σ := (congrArg gT hσ31).trans (mnd_T.trans hT_σ20)
    have hZ_σ31 : gZ σ31 = gZ σ := (congrArg gZ hσ31).trans (mnd_Z.trans hZ_σ20)
    show V K 0 0 P A g_23 [(0, .ref (A (w + 15000))), (1, .ref (A (w + 100 + 100 * i))), (2, .int (nI s))] 31 []
    exact g_vret (pc := 31) C R ⟨rfl, rfl, rfl, by rw [show rfs cs σ i s = σ31 from by rw [hσ31, hσ20, hσ9]; exact if_pos c_5]; exact ⟨_, _, ⟨v_26, hW_32, v_28, v_29, v_30⟩⟩, fun k hk => by rw [hf_25 k (by omega), hg_12, va_up_ne _ _ (by omega), hg_1, va_up_ne _ _ (by omega)]⟩ (by decide) (by decide) dX8_onRefusal_31
abbrev rm_X8_onStopped : Room := { frames := 5, cells := 0, slots := 0, locals := 119 }
theorem Y_X8_onStopped : pY yX8_onStopped cX8_onStopped 3 (Option.none : Option Jvm.ClassFile.FieldType) := ⟨u_693, u_694, u_11, u_695⟩
theorem N_X8_onStopped : yX8_onStopped.cls ≠ "java/lang/invoke/MethodHandle" ∧ yX8_onStopped.cls ≠ "java/lang/invoke/VarHandle" ∧ (parseMethodDescriptor yX8_onStopped.desc).map (fun d => d.parameters.length) = some 2 := by decide +kernel
set_option maxRecDepth 20000 in
set_option maxHeartbeats 4000000 in
theorem c_X8_onStopped (A : Nat → Nat) (P : List Nat) (g : pM) (w : Nat) {B : Nat} {cs : List Nat} {σ : Sg} {pl ll : List Nat} (i s : Nat) (hi : i < gK σ) (hs : s < gK σ) (hS : SW B cs σ) (h : VW A g w cs σ pl ll) : PM yX8_onStopped cX8_onStopped 3 (Option.none : Option Jvm.ClassFile.FieldType) rm_X8_onStopped [.ref (A (w + 15000)), .ref (A (w + 100 + 100 * i)), .int (nI s)] P A g (fun v g' => v = none ∧ (∃ pl' ll', VW A g' w cs (stp cs σ i s) pl' ll') ∧ FrS g g' w) := by
  obtain ⟨hV, hW, hC, hP, hL⟩ := h
  have hK := hS.2.1
  obtain ⟨hz1, hz2, hz3, hz4, hz5, hz6, hz7, hz8, hz9⟩ := hS.2.2.2.1
  refine px_intro (by decide +kernel) (Nat.le_of_ble_eq_true rfl) (fun K sz C R => ?_)
  show V K 0 0 P A g [(0, .ref (A (w + 15000))), (1, .ref (A (w + 100 + 100 * i))), (2, .int (nI s))] 0 []
  have hw_1 := SW.dw hS (i := i) (by omega)
  refine g_aload_n (pc := 0) C dX8_onStopped_0 1 rfl ?_
  refine g_iload_n (pc := 1) C dX8_onStopped_1 2 rfl ?_
  refine g_callV (pc := 2) C (As := [.int (nI s)]) (rest := []) (b := (w + 100 + 100 * i)) (c_X3_unlink A P g (w + 100 + 100 * i) s (by omega) (by assumption) (WD.nd (i := i) hW (by omega))) (WD.nd (i := i) hW (by omega)).1 rfl rfl Y_X3_unlink u_612 N_X3_unlink ⟨by decide, by decide⟩ ⟨by decide, by decide⟩ (Nat.le_of_ble_eq_true rfl) rfl dX8_onStopped_2 ?_
  rintro _ _ _ g_2 ⟨rfl, rfl, rfl, hn_3, hf_4⟩
  have hW_5 := WD.sn (i := i) hW (by omega) (hf_4.mo (by omega) (by omega)) hn_3
  have h_6 := hf_4.at (by omega) hV
  have hp_7 := CO.fr hC hf_4 (by omega)
  have hp_8 := NLN.fr hP hf_4 (by omega)
  have hp_9 := NLN.fr hL hf_4 (by omega)
  obtain ⟨σ10, hσ10⟩ : ∃ sM : Sg, sM = sNd σ i (uln (gN σ i) s) := ⟨_, rfl⟩
  have hW_11 : WD A g_2 w (w + 15005) σ10 := by rw [hσ10]; exact hW_5
  clear hW_5
  have hK_σ10 : gK σ10 = gK σ := (congrArg gK hσ10).trans (rfl : gK σ = gK σ)
  have hT_σ10 : gT σ10 = gT σ := (congrArg gT hσ10).trans (rfl : gT σ = gT σ)
  have hZ_σ10 : gZ σ10 = gZ σ := (congrArg gZ hσ10).trans (rfl : gZ σ = gZ σ)
  show V K 0 0 P A g_2 [(0, .ref (A (w + 15000))), (1, .ref (A (w + 100 + 100 * i))), (2, .int (nI s))] 5 []
  have hS_12 : SW B cs (σ10) := by rw [hσ10]; exact SW.ulS hS (by omega) (by omega)
  refine g_aload_n (pc := 5) C dX8_onStopped_5 1 rfl ?_
  refine g_get (pc := 6) C (j := 3) (WD.nd (i := i) hW_11 (by omega)).1 rfl rfl (by decide) u_143 dX8_onStopped_6 ?_
  refine g_iload_n (pc := 9) C dX8_onStopped_9 2 rfl ?_
  refine g_callV (pc := 10) C (As := [.int (nI s)]) (rest := []) (b := (w + 100 + 100 * i + 3)) (n_X4_remove A P g_2 (w + 100 + 100 * i + 3) s (by omega) (WD.nd (i := i) hW_11 (by omega)).2.2.1) (NLN.o (WD.nd (i := i) hW_11 (by omega)).2.2.1) rfl rfl Y_X4_remove u_598 N_X4_remove ⟨by decide, by decide⟩ ⟨by decide, by decide⟩ (Nat.le_of_ble_eq_true rfl) rfl dX8_onStopped_10 ?_
  rintro _ _ _ g_13 ⟨rfl, rfl, rfl, hn_14, hf_15⟩
  have hN_16 := ND.pa (WD.nd (i := i) hW_11 (by omega)) hf_15 hn_14
  have hW_17 := WD.sn (i := i) hW_11 (by omega) (hf_15.mo (by omega) (by omega)) hN_16
  have h_18 := hf_15.at (by omega) h_6
  have hp_19 := CO.fr hp_7 hf_15 (by omega)
  have hp_20 := NLN.fr hp_8 hf_15 (by omega)
  have hp_21 := NLN.fr hp_9 hf_15 (by omega)
  obtain ⟨σ22, hσ22⟩ : ∃ sM : Sg, sM = sNd σ10 i (sPa (gN σ10 i) ((nPa (gN σ10 i)).erase s)) := ⟨_, rfl⟩
  have hW_23 : WD A g_13 w (w + 15005) σ22 := by rw [hσ22]; exact hW_17
  clear hW_17
  have hK_σ22 : gK σ22 = gK σ := (congrArg gK hσ22).trans hK_σ10
  have hT_σ22 : gT σ22 = gT σ := (congrArg gT hσ22).trans hT_σ10
  have hZ_σ22 : gZ σ22 = gZ σ := (congrArg gZ hσ22).trans hZ_σ10
  show V K 0 0 P A g_13 [(0, .ref (A (w + 15000))), (1, .ref (A (w + 100 + 100 * i))), (2, .int (nI s))] 13 []
  have hS_24 : SW B cs (σ22) := by rw [hσ22]; exact SW.paRem hS_12 (by omega)
  have hwas : ∀ x, nAs (gN σ22 i) = some x → x < 16 := (SW.dw hS_24 (i := i) (by omega)).2.2.1
  refine g_aload_n (pc := 13) C dX8_onStopped_13 1 rfl ?_
  refine g_get (pc := 14) C (j := 5) (WD.nd (i := i) hW_23 (by omega)).1 rfl rfl (by decide) u_147 dX8_onStopped_14 ?_
  refine g_iload_n (pc := 17) C dX8_onStopped_17 2 rfl ?_
  refine g_icmp_ne (pc := 18) C dX8_onStopped_18 (tgt := 27) (by decide) (fun c_18 => ?_) (fun c_18 => ?_)
  ·
    have c_18 : ¬ nAs (gN σ22 i) = some s := fun e => c_18 ((onv_eq (fun x hx => by have := hwas x hx; omega) (by omega)).mpr e)
    refine g_aload_n (pc := 27) C dX8_onStopped_27 0 rfl ?_
    refine g_aload_n (pc := 28) C dX8_onStopped_28 1 rfl ?_
    refine g_callV (pc := 29) C (As := [.ref (A (w + 100 + 100 * i))]) (rest := []) (b := (w + 15000)) (c_X8_mend A P g_13 w i (by omega) hS_24 ⟨h_18, hW_23, hp_19, hp_20, hp_21⟩) h_18 rfl rfl Y_X8_mend u_639 N_X8_mend ⟨by decide, by decide⟩ ⟨by decide, by decide⟩ (Nat.le_of_ble_eq_true rfl) rfl dX8_onStopped_29 ?_
    rintro _ _ _ g_25 ⟨rfl, rfl, rfl, ⟨plg_25, llg_25, hw_26⟩, hf_27⟩
    obtain ⟨v_28, v_29, v_30, v_31, v_32⟩ := hw_26
    obtain ⟨σ33, hσ33⟩ : ∃ sM : Sg, sM = mnd cs σ22 i := ⟨_, rfl⟩
    have hW_34 : WD A g_25 w (w + 15005) σ33 := by rw [hσ33]; exact v_29
    skip
    have hK_σ33 : gK σ33 = gK σ := (congrArg gK hσ33).trans (mnd_K.trans hK_σ22)
    have hT_σ33 : gT σ33 = gT σ := (congrArg gT hσ33).trans (mnd_T.trans hT_σ22)
    have hZ_σ33 : gZ σ33 = gZ σ := (congrArg gZ hσ33).trans (mnd_Z.trans hZ_σ22)
    show V K 0 0 P A g_25 [(0, .ref (A (w + 15000))), (1, .ref (A (w + 100 + 100 * i))), (2, .int (nI s))] 32 []
    exact g_vret (pc := 32) C R ⟨rfl, rfl, rfl, by rw [stp_f hσ10 hσ22 hσ33 c_18]; exact ⟨_, _, ⟨v_28, hW_34, v_30, v_31, v_32⟩⟩, fun k hk => by rw [hf_27 k (by omega), hf_15 k (by omega), hf_4 k (by omega)]⟩ (by decide) (by decide) dX8_onStopped_32
  ·
    have c_18 : nAs (gN σ22 i) = some s := (onv_eq (fun x hx => by have := hwas x hx; omega) (by omega)).mp c_18
    refine g_aload_n (pc := 21) C dX8_onStopped_21 1 rfl ?_
    refine g_bipush (pc := 22) C dX8_onStopped_22 (v := (-6)) rfl ?_
    refine g_put (pc := 24) C (j := 5) (WD.nd (i := i) hW_23 (by omega)).1 rfl (by decide) (Nat.le_of_ble_eq_true rfl) u_147 rfl pfd_I rfl rfl dX8_onStopped_24 ?_
    obtain ⟨g_35, hg_35⟩ : ∃ yM : pM, yM = va_up g_13 (w + 100 + 100 * i) (ob 3 [.int (nI i), .int (b32 (nLv (gN σ22 i))), .ref (A (w + 100 + 100 * i + 1)), .ref (A (w + 100 + 100 * i + 3)), .int (nI (nLz (gN σ22 i))), .int (-6), .int (nI (nAk (gN σ22 i))), .int (nGo (gN σ22 i)), .ref (A (w + 100 + 100 * i + 5)), .ref (A (w + 100 + 100 * i + 6))]) := ⟨_, rfl⟩
    show V K 0 0 P A (va_up g_13 (w + 100 + 100 * i) (ob 3 [.int (nI i), .int (b32 (nLv (gN σ22 i))), .ref (A (w + 100 + 100 * i + 1)), .ref (A (w + 100 + 100 * i + 3)), .int (nI (nLz (gN σ22 i))), .int (-6), .int (nI (nAk (gN σ22 i))), .int (nGo (gN σ22 i)), .ref (A (w + 100 + 100 * i + 5)), .ref (A (w + 100 + 100 * i + 6))])) [(0, .ref (A (w + 15000))), (1, .ref (A (w + 100 + 100 * i))), (2, .int (nI s))] 27 []
    rw [← hg_35]
    have h_36 : g_35 (w + 15000) = ob 8 [.ref (A w), .ref (A (w + 1)), .ref (A (w + 15001)), .ref (A (w + 15003))] := by rw [hg_35, va_up_ne _ _ (show w + 15000 ≠ w + 100 + 100 * i from by omega)]; exact h_18
    have hf_37 : Fr g_13 g_35 (w + 100 + 100 * i) (w + 100 + 100 * i + 1) := by rw [hg_35]; exact Fr.up (by omega) (by omega)
    have hN_38 : ND A g_35 (w + 100 + 100 * i) i (sAs (gN σ22 i) none) := ND.put (WD.nd (i := i) hW_23 (by omega)) hg_35 rfl rfl rfl rfl
    have hW_39 := WD.sn (i := i) hW_23 (by omega) (hf_37.mo (by omega) (by omega)) hN_38
    have hp_40 := CO.fr hp_19 hf_37 (by omega)
    have hp_41 := NLN.fr hp_20 hf_37 (by omega)
    have hp_42 := NLN.fr hp_21 hf_37 (by omega)
    obtain ⟨σ43, hσ43⟩ : ∃ sM : Sg, sM = sNd σ22 i (sAs (gN σ22 i) none) := ⟨_, rfl⟩
    have hW_44 : WD A g_35 w (w + 15005) σ43 := by rw [hσ43]; exact hW_39
    clear hW_39
    have hK_σ43 : gK σ43 = gK σ := (congrArg gK hσ43).trans hK_σ22
    have hT_σ43 : gT σ43 = gT σ := (congrArg gT hσ43).trans hT_σ22
    have hZ_σ43 : gZ σ43 = gZ σ := (congrArg gZ hσ43).trans hZ_σ22
    have hS_45 : SW B cs (σ43) := by rw [hσ43]; exact SW.asS hS_24 (by omega) (fun q hq => by cases hq)
    refine g_aload_n (pc := 27) C dX8_onStopped_27 0 rfl ?_
    refine g_aload_n (pc := 28) C dX8_onStopped_28 1 rfl ?_
    refine g_callV (pc := 29) C (As := [.ref (A (w + 100 + 100 * i))]) (rest := []) (b := (w + 15000)) (c_X8_mend A P g_35 w i (by omega) hS_45 ⟨h_36, hW_44, hp_40, hp_41, hp_42⟩) h_36 rfl rfl Y_X8_mend u_639 N_X8_mend ⟨by decide, by decide⟩ ⟨by decide, by decide⟩ (Nat.le_of_ble_eq_true rfl) rfl dX8_onStopped_29 ?_
    rintro _ _ _ g_46 ⟨rfl, rfl, rfl, ⟨plg_46, llg_46, hw_47⟩, hf_48⟩
    obtain ⟨v_49, v_50, v_51, v_52, v_53⟩ := hw_47
    obtain ⟨σ54, hσ54⟩ : ∃ sM : Sg, sM = mnd cs σ43 i := ⟨_, rfl⟩
    have hW_55 : WD A g_46 w (w + 15005) σ54 := by rw [hσ54]; exact v_50
    skip
    have hK_σ54 : gK σ54 = gK σ := (congrArg gK hσ54).trans (mnd_K.trans hK_σ43)
    have hT_σ54 : gT σ54 = gT σ := (congrArg gT hσ54).trans (mnd_T.trans hT_σ43)
    have hZ_σ54 : gZ σ54 = gZ σ := (congrArg gZ hσ54).trans (mnd_Z.trans hZ_σ43)
    show V K 0 0 P A g_46 [(0, .ref (A (w + 15000))), (1, .ref (A (w + 100 + 100 * i))), (2, .int (nI s))] 32 []
    exact g_vret (pc := 32) C R ⟨rfl, rfl, rfl, by rw [stp_t hσ10 hσ22 hσ43 hσ54 c_18]; exact ⟨_, _, ⟨v_49, hW_55, v_51, v_52, v_53⟩⟩, fun k hk => by rw [hf_48 k (by omega), hg_35, va_up_ne _ _ (by omega), hf_15 k (by omega), hf_4 k (by omega)]⟩ (by decide) (by decide) dX8_onStopped_32
abbrev rm_X8_takeList : Room := { frames := 3, cells := 0, slots := 0, locals := 65 }
theorem Y_X8_takeList : pY yX8_takeList cX8_takeList 4 (Option.none : Option Jvm.ClassFile.FieldType) := ⟨u_660, u_661, u_11, u_662⟩
theorem N_X8_takeList : yX8_takeList.cls ≠ "java/lang/invoke/MethodHandle" ∧ yX8_takeList.cls ≠ "java/lang/invoke/VarHandle" ∧ (parseMethodDescriptor yX8_takeList.desc).map (fun d => d.parameters.length) = some 2 := by decide +kernel
set_option maxRecDepth 20000 in
set_option maxHeartbeats 4000000 in
theorem c_X8_takeList (A : Nat → Nat) (P : List Nat) (g : pM) (w : Nat) {B : Nat} {cs : List Nat} {σ : Sg} {pl ll : List Nat} (i b : Nat) {cap : Nat} {l : List Nat} (hi : i < gK σ) (hb : w + 6 ≤ b ∧ b + 2 ≤ w + 9) (hlK : ∀ q ∈ l, q < gK σ) (hS : SW B cs σ) (hl : NLN A g b cap l) (h : VW A g w cs σ pl ll) : PM yX8_takeList cX8_takeList 4 (Option.none : Option Jvm.ClassFile.FieldType) rm_X8_takeList [.ref (A (w + 15000)), .ref (A (w + 100 + 100 * i)), .ref (A b)] P A g (fun v g' => v = none ∧ VW A g' w cs (tkL cs σ i l) pl ll ∧ FrS g g' w) := by
  obtain ⟨hV, hW, hC, hP, hL⟩ := h
  have hK := hS.2.1
  obtain ⟨hz1, hz2, hz3, hz4, hz5, hz6, hz7, hz8, hz9⟩ := hS.2.2.2.1
  have hle := hl.le
  have hcap := hl.cap
  refine px_intro (by decide +kernel) (Nat.le_of_ble_eq_true rfl) (fun K sz C R => ?_)
  show V K 0 0 P A g [(0, .ref (A (w + 15000))), (1, .ref (A (w + 100 + 100 * i))), (2, .ref (A b))] 0 []
  refine g_iconst (pc := 0) C dX8_takeList_0 (v := nI 0) rfl ?_
  refine g_istore_n (pc := 1) C dX8_takeList_1 (by decide) (lv' := [(0, .ref (A (w + 15000))), (1, .ref (A (w + 100 + 100 * i))), (2, .ref (A b)), (3, .int (nI 0))]) [1, 2, 3, 0] rfl ?_
  have lp_2 : ∀ (fuel : Nat) (k : Nat) (hk : k ≤ l.length) (σ1 : Sg) (he : σ1 = tkL cs σ i (l.take k)) (hS1 : SW B cs σ1) (hK1 : gK σ1 = gK σ) (hT1 : gT σ1 = gT σ) (hZ1 : gZ σ1 = gZ σ) (gl : pM) (hVl : gl (w + 15000) = ob 8 [.ref (A w), .ref (A (w + 1)), .ref (A (w + 15001)), .ref (A (w + 15003))]) (hWl : WD A gl w (w + 15005) σ1) (hCl : CO A gl (w + 15005) cs) (hPl : NLN A gl (w + 15001) 8 pl) (hLl : NLN A gl (w + 15003) 5 ll) (hf : FrS g gl w) (hbl : NLN A gl b cap l), l.length - k < fuel → V K 0 0 P A gl [(0, .ref (A (w + 15000))), (1, .ref (A (w + 100 + 100 * i))), (2, .ref (A b)), (3, .int (nI k))] 2 [] := by
    intro fuel
    induction fuel with
    | zero => intro k hk σ1 he hS1 hK1 hT1 hZ1 gl hVl hWl hCl hPl hLl hf hbl hμ; exact absurd hμ (Nat.not_lt_zero _)
    | succ fuel ih =>
      intro k hk σ1 he hS1 hK1 hT1 hZ1 gl hVl hWl hCl hPl hLl hf hbl hμ
      refine g_iload_n (pc := 2) C dX8_takeList_2 3 rfl ?_
      refine g_aload_n (pc := 3) C dX8_takeList_3 2 rfl ?_
      refine g_get (pc := 4) C (j := 1) (NLN.o hbl) rfl rfl (by decide) u_95 dX8_takeList_4 ?_
      refine g_icmp_ge (pc := 7) C dX8_takeList_7 (tgt := 26) (by decide) (fun c_7 => ?_) (fun c_7 => ?_)
      ·
        have c_7 : l.length ≤ k := (nI_leI (by omega) (by omega)).mp c_7
        exact g_vret (pc := 26) C R ⟨rfl, rfl, rfl, by rw [show k = l.length by omega, List.take_length] at he; rw [← he]; exact ⟨hVl, hWl, hCl, hPl, hLl⟩, hf⟩ (by decide) (by decide) dX8_takeList_26
      ·
        have c_7 : ¬ l.length ≤ k := fun h => c_7 ((nI_leI (a := l.length) (b := k) (by omega) (by omega)).mpr h)
        refine g_aload_n (pc := 10) C dX8_takeList_10 0 rfl ?_
        refine g_aload_n (pc := 11) C dX8_takeList_11 1 rfl ?_
        refine g_aload_n (pc := 12) C dX8_takeList_12 2 rfl ?_
        refine g_iload_n (pc := 13) C dX8_takeList_13 3 rfl ?_
        refine g_callV (pc := 14) C (As := [.int (nI k)]) (rest := [.ref (A (w + 100 + 100 * i)), .ref (A (w + 15000))]) (b := b) (n_X4_at A P gl b k (by omega) hbl) (NLN.o hbl) rfl rfl Y_X4_at u_462 N_X4_at ⟨by decide, by decide⟩ ⟨by decide, by decide⟩ (Nat.le_of_ble_eq_true rfl) rfl dX8_takeList_14 ?_
        rintro _ _ _ _ ⟨rfl, rfl, rfl, rfl⟩
        show V K 0 0 P A gl [(0, .ref (A (w + 15000))), (1, .ref (A (w + 100 + 100 * i))), (2, .ref (A b)), (3, .int (nI k))] 17 [.int (nI (l.getD k 0)), .ref (A (w + 100 + 100 * i)), .ref (A (w + 15000))]
        have hqk := hlK _ (getD_mem (show k < l.length by omega))
        refine g_callV (pc := 17) C (As := [.ref (A (w + 100 + 100 * i)), .int (nI (l.getD k 0))]) (rest := []) (b := (w + 15000)) (c_X8_note A P gl w i (l.getD k 0) (by omega) (by omega) hS1 ⟨hVl, hWl, hCl, hPl, hLl⟩) hVl rfl rfl Y_X8_note u_618 N_X8_note ⟨by decide, by decide⟩ ⟨by decide, by decide⟩ (Nat.le_of_ble_eq_true rfl) rfl dX8_takeList_17 ?_
        rintro _ _ _ g_1 ⟨rfl, rfl, rfl, hw_2, hf_3⟩
        obtain ⟨v_4, v_5, v_6, v_7, v_8⟩ := hw_2
        have hp_9 := hbl.fr' (fun k k1 k2 => hf_3 k (by omega))
        obtain ⟨σ10, hσ10⟩ : ∃ sM : Sg, sM = nte cs σ1 i (l.getD k 0) := ⟨_, rfl⟩
        have hW_11 : WD A g_1 w (w + 15005) σ10 := by rw [hσ10]; exact v_5
        skip
        have hK_σ10 : gK σ10 = gK σ := (congrArg gK hσ10).trans (nte_K.trans hK1)
        have hT_σ10 : gT σ10 = gT σ := (congrArg gT hσ10).trans (nte_T.trans hT1)
        have hZ_σ10 : gZ σ10 = gZ σ := (congrArg gZ hσ10).trans (nte_Z.trans hZ1)
        show V K 0 0 P A g_1 [(0, .ref (A (w + 15000))), (1, .ref (A (w + 100 + 100 * i))), (2, .ref (A b)), (3, .int (nI k))] 20 []
        refine g_iinc (pc := 20) C dX8_takeList_20 (by decide) 3 rfl (v := nI (k + 1)) (nI_i1 _) (lv' := [(0, .ref (A (w + 15000))), (1, .ref (A (w + 100 + 100 * i))), (2, .ref (A b)), (3, .int (nI (k + 1)))]) [1, 2, 3, 0] rfl ?_
        refine g_goto (pc := 23) C dX8_takeList_23 (tgt := 2) (by decide) ?_
        exact ih (k + 1) (by omega) σ10 (by rw [hσ10, he]; exact (tkL_s (show k < l.length by omega)).symm) (by rw [hσ10]; exact SW.nte hS1 (by omega) (by omega)) hK_σ10 hT_σ10 hZ_σ10 _ v_4 hW_11 v_6 v_7 v_8 (hf.tr (fun k hk => by rw [hf_3 k (by omega)])) hp_9 (by omega)
  exact lp_2 (_ + 1) 0 (Nat.zero_le _) σ rfl hS rfl rfl rfl _ hV hW hC hP hL FrS.rf hl (Nat.lt_succ_self _)
abbrev rm_X8_onJoin : Room := { frames := 5, cells := 0, slots := 0, locals := 115 }
theorem Y_X8_onJoin : pY yX8_onJoin cX8_onJoin 5 (Option.none : Option Jvm.ClassFile.FieldType) := ⟨u_590, u_591, u_11, u_592⟩
theorem N_X8_onJoin : yX8_onJoin.cls ≠ "java/lang/invoke/MethodHandle" ∧ yX8_onJoin.cls ≠ "java/lang/invoke/VarHandle" ∧ (parseMethodDescriptor yX8_onJoin.desc).map (fun d => d.parameters.length) = some 2 := by decide +kernel
set_option maxRecDepth 20000 in
set_option maxHeartbeats 4000000 in
theorem c_X8_onJoin (A : Nat → Nat) (P : List Nat) (g : pM) (w : Nat) {B : Nat} {cs : List Nat} {σ : Sg} {pl ll : List Nat} (i s : Nat) (hi : i < gK σ) (hs : s < gK σ) (hS : SW B cs σ) (h : VW A g w cs σ pl ll) : PM yX8_onJoin cX8_onJoin 5 (Option.none : Option Jvm.ClassFile.FieldType) rm_X8_onJoin [.ref (A (w + 15000)), .ref (A (w + 100 + 100 * i)), .int (nI s)] P A g (fun v g' => v = none ∧ (∃ pl' ll', VW A g' w cs (jnS cs σ i s) pl' ll') ∧ FrS g g' w) := by
  obtain ⟨hV, hW, hC, hP, hL⟩ := h
  have hK := hS.2.1
  obtain ⟨hz1, hz2, hz3, hz4, hz5, hz6, hz7, hz8, hz9⟩ := hS.2.2.2.1
  refine px_intro (by decide +kernel) (Nat.le_of_ble_eq_true rfl) (fun K sz C R => ?_)
  show V K 0 0 P A g [(0, .ref (A (w + 15000))), (1, .ref (A (w + 100 + 100 * i))), (2, .int (nI s))] 0 []
  refine g_aload_n (pc := 0) C dX8_onJoin_0 0 rfl ?_
  refine g_aload_n (pc := 1) C dX8_onJoin_1 1 rfl ?_
  refine g_iload_n (pc := 2) C dX8_onJoin_2 2 rfl ?_
  refine g_callV (pc := 3) C (As := [.ref (A (w + 100 + 100 * i)), .int (nI s)]) (rest := []) (b := (w + 15000)) (c_X8_add A P g w i s (by omega) (by omega) (by omega) hS ⟨hV, hW, hC, hP, hL⟩) hV rfl rfl Y_X8_add u_593 N_X8_add ⟨by decide, by decide⟩ ⟨by decide, by decide⟩ (Nat.le_of_ble_eq_true rfl) rfl dX8_onJoin_3 ?_
  rintro _ _ _ g_1 ⟨rfl, rfl, rfl, hw_2, hf_3⟩
  obtain ⟨v_4, v_5, v_6, v_7, v_8⟩ := hw_2
  obtain ⟨σ9, hσ9⟩ : ∃ sM : Sg, sM = add cs σ i s := ⟨_, rfl⟩
  have hW_10 : WD A g_1 w (w + 15005) σ9 := by rw [hσ9]; exact v_5
  skip
  have hK_σ9 : gK σ9 = gK σ := (congrArg gK hσ9).trans (add_K.trans (rfl : gK σ = gK σ))
  have hT_σ9 : gT σ9 = gT σ := (congrArg gT hσ9).trans (add_T.trans (rfl : gT σ = gT σ))
  have hZ_σ9 : gZ σ9 = gZ σ := (congrArg gZ hσ9).trans (add_Z.trans (rfl : gZ σ = gZ σ))
  show V K 0 0 P A g_1 [(0, .ref (A (w + 15000))), (1, .ref (A (w + 100 + 100 * i))), (2, .int (nI s))] 6 []
  have hS_11 : SW B cs (σ9) := by rw [hσ9]; exact SW.add hS (by omega) (by omega)
  have hK0 := hK_σ9
  have hT0 := hT_σ9
  have hZ0 := hZ_σ9
  obtain ⟨σ1, hs1⟩ : ∃ sM : Sg, sM = σ9 := ⟨_, rfl⟩
  rw [← hs1] at hW_10 hS_11 hK0 hT0 hZ0
  refine g_iconst (pc := 6) C dX8_onJoin_6 (v := nI 0) rfl ?_
  refine g_istore_n (pc := 7) C dX8_onJoin_7 (by decide) (lv' := [(0, .ref (A (w + 15000))), (1, .ref (A (w + 100 + 100 * i))), (2, .int (nI s)), (3, .int (nI 0))]) [1, 2, 3, 0] rfl ?_
  have lp_8 : ∀ (fuel : Nat) (k : Nat) (hk : k ≤ (nAc (gN σ1 i)).length) (σ2 : Sg) (he : σ2 = jnF σ1 i s (gZ σ).2.2.1 ((nAc (gN σ1 i)).take k)) (hN2 : gN σ2 = gN σ1) (hS2 : SW B cs σ2) (hK2 : gK σ2 = gK σ) (hT2 : gT σ2 = gT σ) (hZ2 : gZ σ2 = gZ σ) (gl : pM) (hVl : gl (w + 15000) = ob 8 [.ref (A w), .ref (A (w + 1)), .ref (A (w + 15001)), .ref (A (w + 15003))]) (hWl : WD A gl w (w + 15005) σ2) (hCl : CO A gl (w + 15005) cs) (hPl : NLN A gl (w + 15001) 8 pl) (hLl : NLN A gl (w + 15003) 5 ll) (hf : FrS g gl w), (nAc (gN σ1 i)).length - k < fuel → V K 0 0 P A gl [(0, .ref (A (w + 15000))), (1, .ref (A (w + 100 + 100 * i))), (2, .int (nI s)), (3, .int (nI k))] 8 [] := by
    intro fuel
    induction fuel with
    | zero => intro k hk σ2 he hN2 hS2 hK2 hT2 hZ2 gl hVl hWl hCl hPl hLl hf hμ; exact absurd hμ (Nat.not_lt_zero _)
    | succ fuel ih =>
      intro k hk σ2 he hN2 hS2 hK2 hT2 hZ2 gl hVl hWl hCl hPl hLl hf hμ
      have hle2 : (nAc (gN σ2 i)).length ≤ 5 := (hWl.nd (i := i) (by omega)).2.1.le
      have hz26 : (gZ σ2).2.2.1 ≤ 6 := by rw [hZ2]; omega
      have hlen2 : (nAc (gN σ2 i)).length = (nAc (gN σ1 i)).length := by rw [hN2]
      refine g_iload_n (pc := 8) C dX8_onJoin_8 3 rfl ?_
      refine g_aload_n (pc := 9) C dX8_onJoin_9 1 rfl ?_
      refine g_get (pc := 10) C (j := 2) (WD.nd (i := i) hWl (by omega)).1 rfl rfl (by decide) u_139 dX8_onJoin_10 ?_
      refine g_get (pc := 13) C (j := 1) (NLN.o (WD.nd (i := i) hWl (by omega)).2.1) rfl rfl (by decide) u_95 dX8_onJoin_13 ?_
      refine g_icmp_ge (pc := 16) C dX8_onJoin_16 (tgt := 57) (by decide) (fun c_16 => ?_) (fun c_16 => ?_)
      ·
        have c_16 : (nAc (gN σ2 i)).length ≤ k := (nI_leI (by omega) (by omega)).mp c_16
        refine g_aload_n (pc := 57) C dX8_onJoin_57 0 rfl ?_
        refine g_aload_n (pc := 58) C dX8_onJoin_58 1 rfl ?_
        refine g_iload_n (pc := 59) C dX8_onJoin_59 2 rfl ?_
        refine g_iconst (pc := 60) C dX8_onJoin_60 (v := nI 3) rfl ?_
        refine g_iconst (pc := 61) C dX8_onJoin_61 (v := nI 0) rfl ?_
        refine g_iconst (pc := 62) C dX8_onJoin_62 (v := nI 0) rfl ?_
        refine g_callV (pc := 63) C (As := [.ref (A (w + 100 + 100 * i)), .int (nI s), .int (nI 3), .int (nI 0), .int (nI 0)]) (rest := []) (b := (w + 15000)) (c_X8_send A P gl w i s 3 0 0 (by omega) (by omega) (by omega) (by omega) (by omega) ⟨hVl, hWl, hCl, hPl, hLl⟩) hVl rfl rfl Y_X8_send u_623 N_X8_send ⟨by decide, by decide⟩ ⟨by decide, by decide⟩ (Nat.le_of_ble_eq_true rfl) rfl dX8_onJoin_63 ?_
        rintro _ _ _ g_12 ⟨rfl, rfl, rfl, hw_13, hf_14⟩
        obtain ⟨v_15, v_16, v_17, v_18, v_19⟩ := hw_13
        obtain ⟨σ20, hσ20⟩ : ∃ sM : Sg, sM = snd σ2 i s 3 0 0 [] := ⟨_, rfl⟩
        have hW_21 : WD A g_12 w (w + 15005) σ20 := by rw [hσ20]; exact v_16
        skip
        have hK_σ20 : gK σ20 = gK σ := (congrArg gK hσ20).trans (snd_K.trans hK2)
        have hT_σ20 : gT σ20 = gT σ := (congrArg gT hσ20).trans (snd_T.trans hT2)
        have hZ_σ20 : gZ σ20 = gZ σ := (congrArg gZ hσ20).trans (snd_Z.trans hZ2)
        show V K 0 0 P A g_12 [(0, .ref (A (w + 15000))), (1, .ref (A (w + 100 + 100 * i))), (2, .int (nI s)), (3, .int (nI k))] 66 []
        exact g_vret (pc := 66) C R ⟨rfl, rfl, rfl, by rw [show jnS cs σ i s = σ20 from by rw [hσ20, he, show (nAc (gN σ1 i)).take k = (nAc (gN σ1 i)) from List.take_of_length_le (by omega), hs1, hσ9]; rfl]; exact ⟨_, _, ⟨v_15, hW_21, v_17, v_18, v_19⟩⟩, FrS.tr hf (fun k hk => by rw [hf_14 k (by omega)])⟩ (by decide) (by decide) dX8_onJoin_66
      ·
        have c_16 : ¬ (nAc (gN σ2 i)).length ≤ k := fun h => c_16 ((nI_leI (a := (nAc (gN σ2 i)).length) (b := k) (by omega) (by omega)).mpr h)
        refine g_aload_n (pc := 19) C dX8_onJoin_19 1 rfl ?_
        refine g_get (pc := 20) C (j := 2) (WD.nd (i := i) hWl (by omega)).1 rfl rfl (by decide) u_139 dX8_onJoin_20 ?_
        refine g_iload_n (pc := 23) C dX8_onJoin_23 3 rfl ?_
        refine g_callV (pc := 24) C (As := [.int (nI k)]) (rest := []) (b := (w + 100 + 100 * i + 1)) (n_X4_at A P gl (w + 100 + 100 * i + 1) k (by omega) (WD.nd (i := i) hWl (by omega)).2.1) (NLN.o (WD.nd (i := i) hWl (by omega)).2.1) rfl rfl Y_X4_at u_462 N_X4_at ⟨by decide, by decide⟩ ⟨by decide, by decide⟩ (Nat.le_of_ble_eq_true rfl) rfl dX8_onJoin_24 ?_
        rintro _ _ _ _ ⟨rfl, rfl, rfl, rfl⟩
        show V K 0 0 P A gl [(0, .ref (A (w + 15000))), (1, .ref (A (w + 100 + 100 * i))), (2, .int (nI s)), (3, .int (nI k))] 27 [.int (nI ((nAc (gN σ2 i)).getD k 0))]
        refine g_istore (pc := 27) C dX8_onJoin_27 (by decide) (lv' := [(0, .ref (A (w + 15000))), (1, .ref (A (w + 100 + 100 * i))), (2, .int (nI s)), (3, .int (nI k)), (4, .int (nI ((nAc (gN σ2 i)).getD k 0)))]) [1, 2, 3, 4, 0] rfl ?_
        have hqj : (nAc (gN σ2 i)).getD k 0 < gK σ := by have := (SW.nw hS2 (i := i) (by omega)).2.1 _ (getD_mem (show k < (nAc (gN σ2 i)).length by omega)); omega
        refine g_iload (pc := 29) C dX8_onJoin_29 4 rfl ?_
        refine g_iload_n (pc := 31) C dX8_onJoin_31 2 rfl ?_
        refine g_icmp_eq (pc := 32) C dX8_onJoin_32 (tgt := 51) (by decide) (fun c_32 => ?_) (fun c_32 => ?_)
        ·
          have c_32 : ((nAc (gN σ2 i)).getD k 0) = s := (nI_eq (by omega) (by omega)).mp c_32
          refine g_iinc (pc := 51) C dX8_onJoin_51 (by decide) 3 rfl (v := nI (k + 1)) (nI_i1 _) (lv' := [(0, .ref (A (w + 15000))), (1, .ref (A (w + 100 + 100 * i))), (2, .int (nI s)), (3, .int (nI (k + 1))), (4, .int (nI ((nAc (gN σ2 i)).getD k 0)))]) [1, 2, 3, 0, 4] rfl ?_
          refine g_goto (pc := 54) C dX8_onJoin_54 (tgt := 8) (by decide) ?_
          refine g_sub [0, 1, 2, 3] rfl ?_
          exact ih (k + 1) (by omega) σ2 (by rw [he]; exact ((jnF_s (show k < (nAc (gN σ1 i)).length by omega)).trans (if_pos (by rw [← hN2]; exact c_32))).symm) hN2 hS2 hK2 hT2 hZ2 gl hVl hWl hCl hPl hLl hf (by omega)
        ·
          have c_32 : ¬ ((nAc (gN σ2 i)).getD k 0) = s := fun h => c_32 ((nI_eq (a := ((nAc (gN σ2 i)).getD k 0)) (b := s) (by omega) (by omega)).mpr h)
          refine g_aload_n (pc := 35) C dX8_onJoin_35 0 rfl ?_
          refine g_aload_n (pc := 36) C dX8_onJoin_36 1 rfl ?_
          refine g_iload (pc := 37) C dX8_onJoin_37 4 rfl ?_
          refine g_iconst (pc := 39) C dX8_onJoin_39 (v := nI 2) rfl ?_
          refine g_iload_n (pc := 40) C dX8_onJoin_40 2 rfl ?_
          refine g_aload_n (pc := 41) C dX8_onJoin_41 0 rfl ?_
          refine g_get (pc := 42) C (j := 1) hVl rfl rfl (by decide) u_301 dX8_onJoin_42 ?_
          refine g_get (pc := 45) C (j := 2) (show gl (w + 1) = ob 6 _ from hWl.2.1) rfl rfl (by decide) u_59 dX8_onJoin_45 ?_
          refine g_callV (pc := 48) C (As := [.ref (A (w + 100 + 100 * i)), .int (nI ((nAc (gN σ2 i)).getD k 0)), .int (nI 2), .int (nI s), .int (nI (gZ σ2).2.2.1)]) (rest := []) (b := (w + 15000)) (c_X8_send A P gl w i ((nAc (gN σ2 i)).getD k 0) 2 s (gZ σ2).2.2.1 (by omega) (by omega) (by omega) (by omega) (by omega) ⟨hVl, hWl, hCl, hPl, hLl⟩) hVl rfl rfl Y_X8_send u_623 N_X8_send ⟨by decide, by decide⟩ ⟨by decide, by decide⟩ (Nat.le_of_ble_eq_true rfl) rfl dX8_onJoin_48 ?_
          rintro _ _ _ g_22 ⟨rfl, rfl, rfl, hw_23, hf_24⟩
          obtain ⟨v_25, v_26, v_27, v_28, v_29⟩ := hw_23
          obtain ⟨σ30, hσ30⟩ : ∃ sM : Sg, sM = snd σ2 i ((nAc (gN σ2 i)).getD k 0) 2 s (gZ σ2).2.2.1 [] := ⟨_, rfl⟩
          have hW_31 : WD A g_22 w (w + 15005) σ30 := by rw [hσ30]; exact v_26
          skip
          have hK_σ30 : gK σ30 = gK σ := (congrArg gK hσ30).trans (snd_K.trans hK2)
          have hT_σ30 : gT σ30 = gT σ := (congrArg gT hσ30).trans (snd_T.trans hT2)
          have hZ_σ30 : gZ σ30 = gZ σ := (congrArg gZ hσ30).trans (snd_Z.trans hZ2)
          show V K 0 0 P A g_22 [(0, .ref (A (w + 15000))), (1, .ref (A (w + 100 + 100 * i))), (2, .int (nI s)), (3, .int (nI k)), (4, .int (nI ((nAc (gN σ2 i)).getD k 0)))] 51 []
          refine g_iinc (pc := 51) C dX8_onJoin_51 (by decide) 3 rfl (v := nI (k + 1)) (nI_i1 _) (lv' := [(0, .ref (A (w + 15000))), (1, .ref (A (w + 100 + 100 * i))), (2, .int (nI s)), (3, .int (nI (k + 1))), (4, .int (nI ((nAc (gN σ2 i)).getD k 0)))]) [1, 2, 3, 0, 4] rfl ?_
          refine g_goto (pc := 54) C dX8_onJoin_54 (tgt := 8) (by decide) ?_
          refine g_sub [0, 1, 2, 3] rfl ?_
          exact ih (k + 1) (by omega) σ30 (by rw [hσ30, hN2, hZ2, he]; exact ((jnF_s (show k < (nAc (gN σ1 i)).length by omega)).trans (if_neg (by rw [← hN2]; exact c_32))).symm) (by rw [hσ30, snd_N]; exact hN2) (by rw [hσ30]; exact SW.sent hS2 (by omega) (by omega) (lw_mk (by omega) (by omega) (by omega) (by omega) (by omega) (by rw [hZ2]; omega) (by omega) (by omega) (by omega) (fun _ h => by cases h) (by simp))) hK_σ30 hT_σ30 hZ_σ30 _ v_25 hW_31 v_27 v_28 v_29 (hf.tr (fun k hk => by rw [hf_24 k (by omega)])) (by omega)
  exact lp_8 (_ + 1) 0 (Nat.zero_le _) σ1 rfl rfl hS_11 hK0 hT0 hZ0 _ v_4 hW_10 v_6 v_7 v_8 (fun k hk => by rw [hf_3 k (by omega)]) (Nat.lt_succ_self _)
