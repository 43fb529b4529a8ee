-- PART 25: the reference: mixings, tales
theorem wof_nn {l : List Nat} : wof none none l = l := by
  simp only [wof]
  rw [List.filter_eq_self]
  intro x _
  rfl
theorem mixS_t {cs : List Nat} {σ : Sg} {i s x y : Nat} {l : List Nat} (h : ¬ (1 < y ∧ 0 < (wof (some s) (some x) (nAc (gN σ i))).length)) : mixS cs σ i s x y l = tkL cs (if x = i then σ else ansS cs σ i x l.length) i l := by
  by_cases hy : 1 < y
  · have h0 : (wof (some s) (some x) (nAc (gN σ i))).length = 0 := by omega
    exact mixS_n hy (show dpV cs σ _ = none from if_pos h0) (by rw [h0, dS_0])
  · exact mixS_1 hy
theorem ansS_e {cs : List Nat} {σ σ1 σ2 : Sg} {i t n : Nat} {p1 l1 : List Nat} (h : lfp cs n σ (nPa (gN σ i)) [] = (σ1, p1, l1)) (e : σ2 = snd σ1 i t 8 0 0 l1) : ansS cs σ i t n = σ2 := by
  subst e
  simp only [ansS, wof_nn, h]
theorem SO.take {g : pM} {c cap k : Nat} {l : List Nat} (h : SO g c cap (l.take k)) (hk : l.length ≤ k) : SO g c cap l := by
  rwa [List.take_of_length_le hk] at h
theorem take_s {l : List Nat} {k : Nat} (h : k < l.length) : l.take (k + 1) = l.take k ++ [l.getD k 0] := by
  rw [List.take_succ, List.getElem?_eq_getElem h]
  simp [List.getD, List.getElem?_eq_getElem h]
theorem SO.tks {g' : pM} {c cap k v : Nat} {l : List Nat} {r : Nat → Int32} (hr : ∀ j, j < (l.take k).length → r j = nI ((l.take k).getD j 0)) (hk : k < l.length) (hc : l.length ≤ cap) (hv : v = l.getD k 0) (hg : g' c = ai 0 cap (upd r k (nI v))) : SO g' c cap (l.take (k + 1)) := by
  subst hv
  have e : (l.take k).length = k := by rw [List.length_take]; omega
  rw [take_s hk]
  refine SO.push (r := r) hr (by omega) ?_
  rw [e]
  exact hg
/-- hops of tale t put anew -/
def hoS (σ : Sg) (i t h : Nat) : Sg := sNd σ i (sHo (gN σ i) (va_up (nHo (gN σ i)) t (some h)))
theorem lrn_mi {σ : Sg} {i t h : Nat} : lrn σ i t h = miS (hoS σ i t h) i t none := by
  simp only [lrn, miS, hoS, gN_self, sNd_2]
theorem lvd_mi {σ : Sg} {r t q : Nat} {m : Mi} : lvd (miS σ r t m) q = lvd σ q := by
  show nLv (va_up (gN σ) r _ q) = nLv (gN σ q)
  by_cases e : q = r
  · subst e; rw [va_up_self]
  · rw [va_up_ne _ _ e]
theorem snd_mi {σ : Sg} {r t f t' k x y : Nat} {l : List Nat} {m : Mi} : snd (miS σ r t m) f t' k x y l = miS (snd σ f t' k x y l) r t m := by
  have e : ltr (miS σ r t m) f t' k x y l = ltr σ f t' k x y l := by simp only [ltr, lvd_mi]
  simp only [snd, e]
  by_cases h : 500 ≤ (gR σ).length
  · rw [if_pos h]
    show (if 500 ≤ (gR σ).length then _ else _) = _
    rw [if_pos h]
    rfl
  · rw [if_neg h]
    show (if 500 ≤ (gR σ).length then _ else _) = _
    rw [if_neg h]
    rfl
theorem tfE_mi {i t h mm r t2 : Nat} {s : Option Nat} {l : List Nat} {m : Mi} : ∀ {σ : Sg}, tfE i t h mm s l (miS σ r t2 m) = miS (tfE i t h mm s l σ) r t2 m := by
  induction l with
  | nil => intro σ; rfl
  | cons a l ih =>
    intro σ
    show tfE i t h mm s l (if s = some a ∨ mm.testBit a = true then miS σ r t2 m else snd (miS σ r t2 m) i a 9 t (h + 1) []) = miS (tfE i t h mm s l (if s = some a ∨ mm.testBit a = true then σ else snd σ i a 9 t (h + 1) [])) r t2 m
    rw [← ih]
    by_cases e : s = some a ∨ mm.testBit a = true
    · rw [if_pos e, if_pos e]
    · rw [if_neg e, if_neg e, snd_mi]
theorem tfL_mi {i t mm r t2 : Nat} {s : Option Nat} {l : List Nat} {m : Mi} : ∀ {σ : Sg}, tfL i t mm s l (miS σ r t2 m) = miS (tfL i t mm s l σ) r t2 m := by
  induction l with
  | nil => intro σ; rfl
  | cons a l ih =>
    intro σ
    show tfL i t mm s l (if s = some a ∨ mm.testBit a = false then miS σ r t2 m else snd (miS σ r t2 m) i a 10 t 0 []) = miS (tfL i t mm s l (if s = some a ∨ mm.testBit a = false then σ else snd σ i a 10 t 0 [])) r t2 m
    rw [← ih]
    by_cases e : s = some a ∨ mm.testBit a = false
    · rw [if_pos e, if_pos e]
    · rw [if_neg e, if_neg e, snd_mi]
theorem tfE_N {i t h m : Nat} {s : Option Nat} {l : List Nat} : ∀ {σ : Sg}, gN (tfE i t h m s l σ) = gN σ := by
  induction l with
  | nil => intro σ; rfl
  | cons x l ih =>
    intro σ
    refine ih.trans ?_
    dsimp only
    split
    · rfl
    · exact snd_N
theorem tfL_N {i t m : Nat} {s : Option Nat} {l : List Nat} : ∀ {σ : Sg}, gN (tfL i t m s l σ) = gN σ := by
  induction l with
  | nil => intro σ; rfl
  | cons x l ih =>
    intro σ
    refine ih.trans ?_
    dsimp only
    split
    · rfl
    · exact snd_N
theorem her_mi {σ σ1 σ2 σ3 : Sg} {i t h : Nat} {s : Option Nat} (e1 : σ1 = hoS σ i t h) (e2 : σ2 = tfE i t h (nLz (gN σ i)) s (nAc (gN σ i)) σ1) (e3 : σ3 = tfL i t (nLz (gN σ i)) s (nAc (gN σ i)) σ2) : her σ i t h s = miS σ3 i t none := by
  subst e3 e2 e1
  simp only [her, her2]
  have a1 : nLz (gN (lrn σ i t h) i) = nLz (gN σ i) := by simp only [lrn, gN_self]
  have a2 : nAc (gN (lrn σ i t h) i) = nAc (gN σ i) := by simp only [lrn, gN_self]
  rw [a1, a2, lrn_mi, tfE_mi, tfL_mi]
theorem hoS_d {σ : Sg} {i t h : Nat} : nLz (gN (hoS σ i t h) i) = nLz (gN σ i) ∧ nAc (gN (hoS σ i t h) i) = nAc (gN σ i) := by
  constructor <;> simp only [hoS, gN_self]
section RZm
variable {Z Z1 Z2 Z3 : Nat → Int32} {σ : Sg} {r t : Nat}
theorem RZ.mi0 (h : RZ Z σ) (hr : r < gK σ) (ht : t < 24) (e1 : Z1 = upd Z (768 + (24 * r + t)) (nI 0)) (e2 : Z2 = upd Z1 (1536 + (24 * r + t)) (nI 0)) : RZ Z2 (miS σ r t none) :=
  h.wMi hr ht (fun j hj => zne e2 (by omega) (zne e1 (by omega) rfl)) ⟨Nat.zero_le _, zne e2 (by omega) (zeq e1 rfl), fun p hp => (by cases hp), zeq e2 rfl, List.Pairwise.nil, fun k hk => absurd hk (Nat.not_lt_zero k)⟩
theorem RZ.mi1 (h : RZ Z σ) (hr : r < gK σ) (ht : t < 24) (hl : (miL (nMi (gN σ r) t)).length = 0) (e1 : Z1 = upd Z (768 + (24 * r + t)) (nI 0)) : RZ Z1 (miS σ r t none) :=
  h.wMi hr ht (fun j hj => zne e1 (by omega) rfl) ⟨Nat.zero_le _, zeq e1 rfl, fun p hp => (by cases hp), zne e1 (by omega) ((h.rMn rfl hr ht).trans (by rw [hl]; exact rfl)), List.Pairwise.nil, fun k hk => absurd hk (Nat.not_lt_zero k)⟩
theorem RZ.mi2 {p : Int32 × List Nat} {v : Int32} (h : RZ Z σ) (hr : r < gK σ) (ht : t < 24) (hp : nMi (gN σ r) t = some p) (e1 : Z1 = upd Z (1152 + (24 * r + t)) v) : RZ Z1 (miS σ r t (some (v, p.2))) := by
  have e : miL (nMi (gN σ r) t) = p.2 := by rw [hp]; rfl
  have h5 := h.ml5 hr ht
  have hn := h.mlN hr ht
  have hm := h.rMn rfl hr ht
  rw [e] at h5 hn hm
  refine h.wMi hr ht (fun j hj => zne e1 (by omega) rfl) ⟨h5, zne e1 (by omega) ((h.rMi rfl hr ht).trans (by rw [hp]; rfl)), fun q hq => ?_, zne e1 (by omega) hm, hn, fun k hk => zne e1 (by have : k < p.2.length := hk; omega) ((h.rMt rfl hr ht (by rw [e]; exact hk)).trans (by rw [e]; rfl))⟩
  cases hq
  exact zeq e1 rfl
/-- the first teller goes -/
theorem RZ.mi3 {p : Int32 × List Nat} {Y : Nat → Int32} {b : Nat} (h : RZ Z σ) (hr : r < gK σ) (ht : t < 24) (hp : nMi (gN σ r) t = some p) (h0 : 0 < (miL (nMi (gN σ r) t)).length) (e1 : Z1 = upd Z (1536 + (24 * r + t)) (nI ((miL (nMi (gN σ r) t)).length - 1))) (ey : Y = sh Z1 (1920 + 8 * (24 * r + t) + 0) (1920 + 8 * (24 * r + t) + b)) (hb : b + 1 = (miL (nMi (gN σ r) t)).length) : RZ Y (miS σ r t (some (p.1, p.2.eraseIdx 0))) := by
  have e : miL (nMi (gN σ r) t) = p.2 := by rw [hp]; rfl
  have h5 := h.ml5 hr ht
  have hn := h.mlN hr ht
  rw [e] at h5 hn h0 e1 hb
  have hlen : (p.2.eraseIdx 0).length = p.2.length - 1 := List.length_eraseIdx_of_lt h0
  refine h.wMi hr ht (fun j hj => zsh ey (by omega) (zne e1 (by omega) rfl)) ⟨by show (p.2.eraseIdx 0).length ≤ 5; omega, zsh ey (by omega) (zne e1 (by omega) ((h.rMi rfl hr ht).trans (by rw [hp]; rfl))), fun q hq => ?_, ?_, List.Pairwise.sublist (List.eraseIdx_sublist _ 0) hn, fun k hk => ?_⟩
  · cases hq
    exact zsh ey (by omega) (zne e1 (by omega) (h.rHr (p := p) rfl hr ht hp))
  · show _ = nI (p.2.eraseIdx 0).length
    rw [hlen]
    exact zsh ey (by omega) (zeq e1 rfl)
  · have hk : k < (p.2.eraseIdx 0).length := hk
    rw [hlen] at hk
    show _ = nI ((p.2.eraseIdx 0).getD k 0)
    rw [getD_er, if_neg (by omega)]
    exact zshi ey (by omega) (by omega) (zne e1 (by omega) ((h.rMt (k := k + 1) (by omega) hr ht (by rw [e]; omega)).trans (by rw [e])))
/-- a tale begins to be missed -/
theorem RZ.mi4 {Z4 Z5 : Nat → Int32} {s : Nat} {v : Int32} (h : RZ Z σ) (hr : r < gK σ) (ht : t < 24) (e1 : Z1 = upd Z (768 + (24 * r + t)) (nI 1)) (e2 : Z2 = upd Z1 (1152 + (24 * r + t)) v) (e3 : Z3 = upd Z2 (1536 + (24 * r + t)) (nI 0)) (e4 : Z4 = upd Z3 (1920 + 8 * (24 * r + t) + 0) (nI s)) (e5 : Z5 = upd Z4 (1536 + (24 * r + t)) (nI (0 + 1))) : RZ Z5 (miS σ r t (some (v, [s]))) := by
  refine h.wMi hr ht (fun j hj => zne e5 (by omega) (zne e4 (by omega) (zne e3 (by omega) (zne e2 (by omega) (zne e1 (by omega) rfl))))) ⟨by show 1 ≤ 5; omega, zne e5 (by omega) (zne e4 (by omega) (zne e3 (by omega) (zne e2 (by omega) (zeq e1 rfl)))), fun q hq => ?_, zeq e5 rfl, by simp [miL], fun k hk => ?_⟩
  · cases hq
    exact zne e5 (by omega) (zne e4 (by omega) (zne e3 (by omega) (zeq e2 rfl)))
  · have hk : k < 1 := hk
    have : k = 0 := by omega
    subst this
    exact zne e5 (by omega) (zeq e4 rfl)
/-- one more tells of it -/
theorem RZ.mi5 {p : Int32 × List Nat} {s : Nat} (h : RZ Z σ) (hr : r < gK σ) (ht : t < 24) (hp : nMi (gN σ r) t = some p) (h5 : (miL (nMi (gN σ r) t)).length < 5) (hs : s ∉ miL (nMi (gN σ r) t)) (e1 : Z1 = upd Z (1920 + 8 * (24 * r + t) + (miL (nMi (gN σ r) t)).length) (nI s)) (e2 : Z2 = upd Z1 (1536 + (24 * r + t)) (nI ((miL (nMi (gN σ r) t)).length + 1))) : RZ Z2 (miS σ r t (some (p.1, p.2 ++ [s]))) := by
  have e : miL (nMi (gN σ r) t) = p.2 := by rw [hp]; rfl
  have hn := h.mlN hr ht
  rw [e] at h5 hn hs e1 e2
  have hlen : (p.2 ++ [s]).length = p.2.length + 1 := by rw [List.length_append]; rfl
  refine h.wMi hr ht (fun j hj => zne e2 (by omega) (zne e1 (by omega) rfl)) ⟨by show (p.2 ++ [s]).length ≤ 5; omega, zne e2 (by omega) (zne e1 (by omega) ((h.rMi rfl hr ht).trans (by rw [hp]; rfl))), fun q hq => ?_, ?_, List.nodup_append.mpr ⟨hn, by simp, fun a ha b hb => ?_⟩, fun k hk => ?_⟩
  · cases hq
    exact zne e2 (by omega) (zne e1 (by omega) (h.rHr (p := p) rfl hr ht hp))
  · show _ = nI (p.2 ++ [s]).length
    rw [hlen]
    exact zeq e2 rfl
  · rw [List.mem_singleton.mp hb]
    exact fun z => hs (z ▸ ha)
  · have hk : k < (p.2 ++ [s]).length := hk
    rw [hlen] at hk
    show _ = nI ((p.2 ++ [s]).getD k 0)
    by_cases c : k < p.2.length
    · have e3 : (p.2 ++ [s]).getD k 0 = p.2.getD k 0 := by simp [List.getD, List.getElem?_append_left c]
      rw [e3]
      exact zne e2 (by omega) (zne e1 (by omega) ((h.rMt rfl hr ht (by rw [e]; exact c)).trans (by rw [e])))
    · have hk2 : k = p.2.length := by omega
      subst hk2
      have e3 : (p.2 ++ [s]).getD p.2.length 0 = s := by simp [List.getD]
      rw [e3]
      exact zne e2 (by omega) (zeq e1 rfl)
end RZm
theorem miS_id {σ : Sg} {r t : Nat} : miS σ r t (nMi (gN σ r) t) = σ := by
  have e : va_up (nMi (gN σ r)) t (nMi (gN σ r) t) = nMi (gN σ r) := va_up_id rfl
  show sNd σ r (sMi (gN σ r) (va_up (nMi (gN σ r)) t (nMi (gN σ r) t))) = σ
  rw [e]
  exact sNd_id
theorem take_mem {l : List Nat} {k s : Nat} (h : k < l.length) : decide (s ∈ l.take (k + 1)) = (decide (s ∈ l.take k) || decide (l.getD k 0 = s)) := by
  have e : (s ∈ l.take k ++ [l.getD k 0]) ↔ (s ∈ l.take k ∨ l.getD k 0 = s) := by
    rw [List.mem_append, List.mem_singleton]
    exact or_congr_right ⟨fun e => e.symm, fun e => e.symm⟩
  rw [take_s h]
  by_cases h1 : s ∈ l.take k
  · rw [decide_eq_true (e.mpr (Or.inl h1)), decide_eq_true h1]
    rfl
  · by_cases h2 : l.getD k 0 = s
    · rw [decide_eq_true (e.mpr (Or.inr h2)), decide_eq_true h2, Bool.or_true]
    · rw [decide_eq_false (fun z => by rcases e.mp z with z | z; exact h1 z; exact h2 z), decide_eq_false h1, decide_eq_false h2]
      rfl
abbrev rm_X11_hear : Room := { frames := 4, cells := 0, slots := 0, locals := 101 }
theorem Y_X11_hear : pY yX11_hear cX11_hear 9 (Option.none : Option Jvm.ClassFile.FieldType) := ⟨u_995, us_15, u_13, u_996⟩
theorem N_X11_hear : yX11_hear.cls ≠ "java/lang/invoke/MethodHandle" ∧ yX11_hear.cls ≠ "java/lang/invoke/VarHandle" ∧ (parseMethodDescriptor yX11_hear.desc).map (fun d => d.parameters.length) = some 4 := by decide +kernel
set_option maxRecDepth 20000 in
set_option maxHeartbeats 4000000 in
theorem c_X11_hear (A : Nat → Nat) (P : List Nat) (g : pM) (m : Nat) {cs : List Nat} {lm gm : Nat} {Z : Nat → Int32} {σ : Sg} {B : Nat} (r t h : Nat) (fo : Option Nat) (hr : r < gK σ) (ht : t < 24) (hh : h < 2 ^ 30) (hfo : ∀ q, fo = some q → q < 16) (hS : SW B cs σ) {l3 : List Nat} (hl3 : SO g (m + 3) 5 l3) (hO : g m = mOb A m (gZ σ) cs.length lm gm) (hZ : g (m + 1) = ai 0 10511 Z) (hR : RZ Z σ) : PM yX11_hear cX11_hear 9 (Option.none : Option Jvm.ClassFile.FieldType) rm_X11_hear [.ref (A m), .int (nI r), .int (nI t), .int (onv fo), .int (nI h)] P A g (fun v g' => v = none ∧ ZS g' m (her σ r t h fo) ∧ Fr g g' (m + 1) (m + 2)) := by
  have hK := hR.k16
  have hT := hR.t24
  have hL := hR.le
  have hzw := hS.2.2.2.1
  have hz0 := hzw.1
  have hz1 := hzw.2.1
  have hz2 := hzw.2.2.1
  have hz3 := hzw.2.2.2.1
  have hn := hS.nw hr
  have hle1 := hn.2.2.2.2.1
  have hle2 := hn.2.2.2.2.2.1
  have hc5 := hR.ac5 hr
  have hc8 := hR.pa8 hr
  have ha16 := hS.a16 hr
  have hp16 := hS.p16 hr
  refine px_intro (by decide +kernel) (Nat.le_of_ble_eq_true rfl) (fun K sz C R => ?_)
  show V K 0 0 P A g [(0, .ref (A m)), (1, .int (nI r)), (2, .int (nI t)), (3, .int (onv fo)), (4, .int (nI h))] 0 []
  refine g_bipush (pc := 0) C dX11_hear_0 (v := nI 24) rfl ?_
  refine g_iload_n (pc := 2) C dX11_hear_2 1 rfl ?_
  refine g_imul (pc := 3) C dX11_hear_3 (z := nI (24 * r)) (pk_mul _ _) ?_
  refine g_iload_n (pc := 4) C dX11_hear_4 2 rfl ?_
  refine g_iadd (pc := 5) C dX11_hear_5 (z := nI (24 * r + t)) (nI_add _ _) ?_
  refine g_istore (pc := 6) C dX11_hear_6 (by decide) (lv' := [(0, .ref (A m)), (1, .int (nI r)), (2, .int (nI t)), (3, .int (onv fo)), (4, .int (nI h)), (5, .int (nI (24 * r + t)))]) [1, 2, 3, 4, 5, 0] rfl ?_
  refine g_aload_n (pc := 8) C dX11_hear_8 0 rfl ?_
  refine g_get (pc := 9) C (j := 0) hO rfl rfl (by decide) u_852 dX11_hear_9 ?_
  refine g_sipush (pc := 12) C dX11_hear_12 (v := nI 384) rfl ?_
  refine g_iload (pc := 15) C dX11_hear_15 5 rfl ?_
  refine g_iadd (pc := 17) C dX11_hear_17 (z := nI (384 + (24 * r + t))) (nI_add _ _) ?_
  refine g_iload (pc := 18) C dX11_hear_18 4 rfl ?_
  refine g_iast (pc := 20) C hZ (nI_clamp (by omega)) (nI_in0 (n := 10511) (by omega) (by omega)) dX11_hear_20 ?_
  obtain ⟨Z_1, hZ_1⟩ : ∃ yZ : Nat → Int32, yZ = upd Z (384 + (24 * r + t)) (nI h) := ⟨_, rfl⟩
  show V K 0 0 P A (va_up g (m + 1) (ai 0 10511 (upd Z (384 + (24 * r + t)) (nI h)))) [(0, .ref (A m)), (1, .int (nI r)), (2, .int (nI t)), (3, .int (onv fo)), (4, .int (nI h)), (5, .int (nI (24 * r + t)))] 21 []
  rw [← hZ_1]
  obtain ⟨g_2, hg_2⟩ : ∃ yM : pM, yM = va_up g (m + 1) (ai 0 10511 Z_1) := ⟨_, rfl⟩
  show V K 0 0 P A (va_up g (m + 1) (ai 0 10511 Z_1)) [(0, .ref (A m)), (1, .int (nI r)), (2, .int (nI t)), (3, .int (onv fo)), (4, .int (nI h)), (5, .int (nI (24 * r + t)))] 21 []
  rw [← hg_2]
  have h_3 : g_2 m = ob 11 [.ref (A (m + 1)), .int (nI (gZ σ).1), .int (nI (gZ σ).2.1), .int (nI (gZ σ).2.2.1), .int (nI (gZ σ).2.2.2.1), .int (nI (gZ σ).2.2.2.2), .ref (A (m + 2)), .int (nI cs.length), .ref (A (m + 3)), .int (nI lm), .ref (A (m + 4)), .ref (A (m + 5)), .int (nI gm), .ref (A (m + 6)), .ref (A (m + 7)), .ref (A (m + 8))] := by rw [hg_2, va_up_ne _ _ (show m ≠ m + 1 from by omega)]; exact hO
  have h_4 : g_2 (m + 1) = ai 0 10511 Z_1 := by rw [hg_2]; exact va_up_self _ _ _
  have hf_5 : Fr g g_2 (m + 1) (m + 1 + 1) := by rw [hg_2]; exact Fr.up (by omega) (by omega)
  have hp_6 := SO.fr hl3 hf_5 (by omega)
  have hR_7 : RZ Z_1 (hoS σ r t h) := RZ.wHo hR hr ht hZ_1
  obtain ⟨σ8, hσ8⟩ : ∃ sM : Sg, sM = hoS σ r t h := ⟨_, rfl⟩
  rw [← hσ8] at hR_7
  have hK_σ8 : gK σ8 = gK σ := (congrArg gK hσ8).trans (rfl : gK σ = gK σ)
  have hT_σ8 : gT σ8 = gT σ := (congrArg gT hσ8).trans (rfl : gT σ = gT σ)
  have hZ_σ8 : gZ σ8 = gZ σ := (congrArg gZ hσ8).trans (rfl : gZ σ = gZ σ)
  have hLa_σ8 : nAc (gN σ8 r) = (nAc (gN σ r)) := by rw [hσ8]; exact hoS_d.2
  have hLb_σ8 : nLz (gN σ8 r) = (nLz (gN σ r)) := by rw [hσ8]; exact hoS_d.1
  refine g_iconst (pc := 21) C dX11_hear_21 (v := nI 0) rfl ?_
  refine g_istore (pc := 22) C dX11_hear_22 (by decide) (lv' := [(0, .ref (A m)), (1, .int (nI r)), (2, .int (nI t)), (3, .int (onv fo)), (4, .int (nI h)), (5, .int (nI (24 * r + t))), (6, .int (nI 0))]) [1, 2, 3, 4, 5, 6, 0] rfl ?_
  refine g_iload (pc := 24) C dX11_hear_24 6 rfl ?_
  refine g_iconst (pc := 26) C dX11_hear_26 (v := nI 2) rfl ?_
  refine g_icmp_ge (pc := 27) C dX11_hear_27 (tgt := 127) (by decide) (fun c_27 => ?_) (fun c_27 => ?_)
  ·
    exfalso
    revert c_27; decide
  ·
    have c_27 : ¬ 2 ≤ 0 := fun h => c_27 ((nI_leI (a := 2) (b := 0) (by omega) (by omega)).mpr h)
    refine g_iconst (pc := 30) C dX11_hear_30 (v := nI 0) rfl ?_
    refine g_istore (pc := 31) C dX11_hear_31 (by decide) (lv' := [(0, .ref (A m)), (1, .int (nI r)), (2, .int (nI t)), (3, .int (onv fo)), (4, .int (nI h)), (5, .int (nI (24 * r + t))), (6, .int (nI 0)), (7, .int (nI 0))]) [1, 2, 3, 4, 5, 6, 7, 0] rfl ?_
    have lp_33 : ∀ (fuel : Nat) (gm33a : pM) (hm33a : Fr g_2 gm33a (m + 1) (m + 2)) (k : Nat) (hk : k ≤ (nAc (gN σ r)).length) (hz33a : ZS gm33a m (tfE r t h (nLz (gN σ r)) fo ((nAc (gN σ r)).take k) σ8)), (nAc (gN σ r)).length - k < fuel → V K 0 0 P A gm33a [(0, .ref (A m)), (1, .int (nI r)), (2, .int (nI t)), (3, .int (onv fo)), (4, .int (nI h)), (5, .int (nI (24 * r + t))), (6, .int (nI 0)), (7, .int (nI k))] 33 [] := by
      intro fuel
      induction fuel with
      | zero => intro gm33a hm33a k hk hz33a hμ; exact absurd hμ (Nat.not_lt_zero _)
      | succ fuel ih =>
        intro gm33a hm33a k hk hz33a hμ
        have h_9 := hm33a.at (by omega) h_3
        have hp_10 := SO.fr hp_6 hm33a (by omega)
        obtain ⟨Zla, hZla, hRla⟩ := hz33a
        obtain ⟨σ11, hσ11⟩ : ∃ sM : Sg, sM = tfE r t h (nLz (gN σ r)) fo ((nAc (gN σ r)).take k) σ8 := ⟨_, rfl⟩
        rw [← hσ11] at hRla
        have hK_σ11 : gK σ11 = gK σ := (congrArg gK hσ11).trans (tfE_K.trans hK_σ8)
        have hT_σ11 : gT σ11 = gT σ := (congrArg gT hσ11).trans (tfE_T.trans hT_σ8)
        have hZ_σ11 : gZ σ11 = gZ σ := (congrArg gZ hσ11).trans (tfE_Z.trans hZ_σ8)
        have hN_σ11 : gN σ11 = gN σ8 := (congrArg gN hσ11).trans tfE_N
        have hLa_σ11 : nAc (gN σ11 r) = (nAc (gN σ r)) := by rw [hN_σ11]; exact hLa_σ8
        have hLb_σ11 : nLz (gN σ11 r) = (nLz (gN σ r)) := by rw [hN_σ11]; exact hLb_σ8
        refine g_iload (pc := 33) C dX11_hear_33 7 rfl ?_
        refine g_aload_n (pc := 35) C dX11_hear_35 0 rfl ?_
        refine g_get (pc := 36) C (j := 0) h_9 rfl rfl (by decide) u_852 dX11_hear_36 ?_
        refine g_bipush (pc := 39) C dX11_hear_39 (v := nI 16) rfl ?_
        refine g_iload_n (pc := 41) C dX11_hear_41 1 rfl ?_
        refine g_iadd (pc := 42) C dX11_hear_42 (z := nI (16 + r)) (nI_add _ _) ?_
        refine g_iald (pc := 43) C hZla (nI_clamp (by omega)) (nI_in0 (n := 10511) (by omega) (by omega)) dX11_hear_43 (x := nI (nAc (gN σ r)).length) ((RZ.rAn hRla (r := r) (by omega) (by omega)).trans (by rw [hLa_σ11])) ?_
        refine g_icmp_ge (pc := 44) C dX11_hear_44 (tgt := 121) (by decide) (fun c_44 => ?_) (fun c_44 => ?_)
        ·
          have c_44 : (nAc (gN σ r)).length ≤ k := (nI_leI (by omega) (by omega)).mp c_44
          rw [List.take_of_length_le (show (nAc (gN σ r)).length ≤ k by omega)] at hσ11
          refine g_iinc (pc := 121) C dX11_hear_121 (by decide) 6 rfl (v := nI 1) (nI_i1 _) (lv' := [(0, .ref (A m)), (1, .int (nI r)), (2, .int (nI t)), (3, .int (onv fo)), (4, .int (nI h)), (5, .int (nI (24 * r + t))), (6, .int (nI 1)), (7, .int (nI k))]) [1, 2, 3, 4, 5, 6, 0, 7] rfl ?_
          refine g_goto (pc := 124) C dX11_hear_124 (tgt := 24) (by decide) ?_
          refine g_iload (pc := 24) C dX11_hear_24 6 rfl ?_
          refine g_iconst (pc := 26) C dX11_hear_26 (v := nI 2) rfl ?_
          refine g_icmp_ge (pc := 27) C dX11_hear_27 (tgt := 127) (by decide) (fun c_27' => ?_) (fun c_27' => ?_)
          ·
            exfalso
            revert c_27'; decide
          ·
            have c_27' : ¬ 2 ≤ 1 := fun h => c_27' ((nI_leI (a := 2) (b := 1) (by omega) (by omega)).mpr h)
            refine g_iconst (pc := 30) C dX11_hear_30 (v := nI 0) rfl ?_
            refine g_istore (pc := 31) C dX11_hear_31 (by decide) (lv' := [(0, .ref (A m)), (1, .int (nI r)), (2, .int (nI t)), (3, .int (onv fo)), (4, .int (nI h)), (5, .int (nI (24 * r + t))), (6, .int (nI 1)), (7, .int (nI 0))]) [1, 2, 3, 4, 5, 6, 7, 0] rfl ?_
            have lp_33 : ∀ (fuel : Nat) (gm33b : pM) (hm33b : Fr gm33a gm33b (m + 1) (m + 2)) (k : Nat) (hk : k ≤ (nAc (gN σ r)).length) (hz33b : ZS gm33b m (tfL r t (nLz (gN σ r)) fo ((nAc (gN σ r)).take k) σ11)), (nAc (gN σ r)).length - k < fuel → V K 0 0 P A gm33b [(0, .ref (A m)), (1, .int (nI r)), (2, .int (nI t)), (3, .int (onv fo)), (4, .int (nI h)), (5, .int (nI (24 * r + t))), (6, .int (nI 1)), (7, .int (nI k))] 33 [] := by
              intro fuel
              induction fuel with
              | zero => intro gm33b hm33b k hk hz33b hμ; exact absurd hμ (Nat.not_lt_zero _)
              | succ fuel ih =>
                intro gm33b hm33b k hk hz33b hμ
                have h_12 := hm33b.at (by omega) h_9
                have hp_13 := SO.fr hp_10 hm33b (by omega)
                obtain ⟨Zlb, hZlb, hRlb⟩ := hz33b
                obtain ⟨σ14, hσ14⟩ : ∃ sM : Sg, sM = tfL r t (nLz (gN σ r)) fo ((nAc (gN σ r)).take k) σ11 := ⟨_, rfl⟩
                rw [← hσ14] at hRlb
                have hK_σ14 : gK σ14 = gK σ := (congrArg gK hσ14).trans (tfL_K.trans hK_σ11)
                have hT_σ14 : gT σ14 = gT σ := (congrArg gT hσ14).trans (tfL_T.trans hT_σ11)
                have hZ_σ14 : gZ σ14 = gZ σ := (congrArg gZ hσ14).trans (tfL_Z.trans hZ_σ11)
                have hN_σ14 : gN σ14 = gN σ11 := (congrArg gN hσ14).trans tfL_N
                have hLa_σ14 : nAc (gN σ14 r) = (nAc (gN σ r)) := by rw [hN_σ14]; exact hLa_σ11
                have hLb_σ14 : nLz (gN σ14 r) = (nLz (gN σ r)) := by rw [hN_σ14]; exact hLb_σ11
                refine g_iload (pc := 33) C dX11_hear_33 7 rfl ?_
                refine g_aload_n (pc := 35) C dX11_hear_35 0 rfl ?_
                refine g_get (pc := 36) C (j := 0) h_12 rfl rfl (by decide) u_852 dX11_hear_36 ?_
                refine g_bipush (pc := 39) C dX11_hear_39 (v := nI 16) rfl ?_
                refine g_iload_n (pc := 41) C dX11_hear_41 1 rfl ?_
                refine g_iadd (pc := 42) C dX11_hear_42 (z := nI (16 + r)) (nI_add _ _) ?_
                refine g_iald (pc := 43) C hZlb (nI_clamp (by omega)) (nI_in0 (n := 10511) (by omega) (by omega)) dX11_hear_43 (x := nI (nAc (gN σ r)).length) ((RZ.rAn hRlb (r := r) (by omega) (by omega)).trans (by rw [hLa_σ14])) ?_
                refine g_icmp_ge (pc := 44) C dX11_hear_44 (tgt := 121) (by decide) (fun c_44' => ?_) (fun c_44' => ?_)
                ·
                  have c_44' : (nAc (gN σ r)).length ≤ k := (nI_leI (by omega) (by omega)).mp c_44'
                  rw [List.take_of_length_le (show (nAc (gN σ r)).length ≤ k by omega)] at hσ14
                  refine g_iinc (pc := 121) C dX11_hear_121 (by decide) 6 rfl (v := nI 2) (nI_i1 _) (lv' := [(0, .ref (A m)), (1, .int (nI r)), (2, .int (nI t)), (3, .int (onv fo)), (4, .int (nI h)), (5, .int (nI (24 * r + t))), (6, .int (nI 2)), (7, .int (nI k))]) [1, 2, 3, 4, 5, 6, 0, 7] rfl ?_
                  refine g_goto (pc := 124) C dX11_hear_124 (tgt := 24) (by decide) ?_
                  refine g_iload (pc := 24) C dX11_hear_24 6 rfl ?_
                  refine g_iconst (pc := 26) C dX11_hear_26 (v := nI 2) rfl ?_
                  refine g_icmp_ge (pc := 27) C dX11_hear_27 (tgt := 127) (by decide) (fun c_27'' => ?_) (fun c_27'' => ?_)
                  ·
                    have c_27'' : 2 ≤ 2 := (nI_leI (by omega) (by omega)).mp c_27''
                    refine g_aload_n (pc := 127) C dX11_hear_127 0 rfl ?_
                    refine g_get (pc := 128) C (j := 0) h_12 rfl rfl (by decide) u_852 dX11_hear_128 ?_
                    refine g_sipush (pc := 131) C dX11_hear_131 (v := nI 768) rfl ?_
                    refine g_iload (pc := 134) C dX11_hear_134 5 rfl ?_
                    refine g_iadd (pc := 136) C dX11_hear_136 (z := nI (768 + (24 * r + t))) (nI_add _ _) ?_
                    refine g_iconst (pc := 137) C dX11_hear_137 (v := nI 0) rfl ?_
                    refine g_iast (pc := 138) C hZlb (nI_clamp (by omega)) (nI_in0 (n := 10511) (by omega) (by omega)) dX11_hear_138 ?_
                    obtain ⟨Z_15, hZ_15⟩ : ∃ yZ : Nat → Int32, yZ = upd Zlb (768 + (24 * r + t)) (nI 0) := ⟨_, rfl⟩
                    show V K 0 0 P A (va_up gm33b (m + 1) (ai 0 10511 (upd Zlb (768 + (24 * r + t)) (nI 0)))) [(0, .ref (A m)), (1, .int (nI r)), (2, .int (nI t)), (3, .int (onv fo)), (4, .int (nI h)), (5, .int (nI (24 * r + t))), (6, .int (nI 2)), (7, .int (nI k))] 139 []
                    rw [← hZ_15]
                    obtain ⟨g_16, hg_16⟩ : ∃ yM : pM, yM = va_up gm33b (m + 1) (ai 0 10511 Z_15) := ⟨_, rfl⟩
                    show V K 0 0 P A (va_up gm33b (m + 1) (ai 0 10511 Z_15)) [(0, .ref (A m)), (1, .int (nI r)), (2, .int (nI t)), (3, .int (onv fo)), (4, .int (nI h)), (5, .int (nI (24 * r + t))), (6, .int (nI 2)), (7, .int (nI k))] 139 []
                    rw [← hg_16]
                    have h_17 : g_16 m = ob 11 [.ref (A (m + 1)), .int (nI (gZ σ).1), .int (nI (gZ σ).2.1), .int (nI (gZ σ).2.2.1), .int (nI (gZ σ).2.2.2.1), .int (nI (gZ σ).2.2.2.2), .ref (A (m + 2)), .int (nI cs.length), .ref (A (m + 3)), .int (nI lm), .ref (A (m + 4)), .ref (A (m + 5)), .int (nI gm), .ref (A (m + 6)), .ref (A (m + 7)), .ref (A (m + 8))] := by rw [hg_16, va_up_ne _ _ (show m ≠ m + 1 from by omega)]; exact h_12
                    have h_18 : g_16 (m + 1) = ai 0 10511 Z_15 := by rw [hg_16]; exact va_up_self _ _ _
                    have hf_19 : Fr gm33b g_16 (m + 1) (m + 1 + 1) := by rw [hg_16]; exact Fr.up (by omega) (by omega)
                    have hp_20 := SO.fr hp_13 hf_19 (by omega)
                    refine g_aload_n (pc := 139) C dX11_hear_139 0 rfl ?_
                    refine g_get (pc := 140) C (j := 0) h_17 rfl rfl (by decide) u_852 dX11_hear_140 ?_
                    refine g_sipush (pc := 143) C dX11_hear_143 (v := nI 1536) rfl ?_
                    refine g_iload (pc := 146) C dX11_hear_146 5 rfl ?_
                    refine g_iadd (pc := 148) C dX11_hear_148 (z := nI (1536 + (24 * r + t))) (nI_add _ _) ?_
                    refine g_iconst (pc := 149) C dX11_hear_149 (v := nI 0) rfl ?_
                    refine g_iast (pc := 150) C h_18 (nI_clamp (by omega)) (nI_in0 (n := 10511) (by omega) (by omega)) dX11_hear_150 ?_
                    obtain ⟨Z_21, hZ_21⟩ : ∃ yZ : Nat → Int32, yZ = upd Z_15 (1536 + (24 * r + t)) (nI 0) := ⟨_, rfl⟩
                    show V K 0 0 P A (va_up g_16 (m + 1) (ai 0 10511 (upd Z_15 (1536 + (24 * r + t)) (nI 0)))) [(0, .ref (A m)), (1, .int (nI r)), (2, .int (nI t)), (3, .int (onv fo)), (4, .int (nI h)), (5, .int (nI (24 * r + t))), (6, .int (nI 2)), (7, .int (nI k))] 151 []
                    rw [← hZ_21]
                    obtain ⟨g_22, hg_22⟩ : ∃ yM : pM, yM = va_up g_16 (m + 1) (ai 0 10511 Z_21) := ⟨_, rfl⟩
                    show V K 0 0 P A (va_up g_16 (m + 1) (ai 0 10511 Z_21)) [(0, .ref (A m)), (1, .int (nI r)), (2, .int (nI t)), (3, .int (onv fo)), (4, .int (nI h)), (5, .int (nI (24 * r + t))), (6, .int (nI 2)), (7, .int (nI k))] 151 []
                    rw [← hg_22]
                    have h_23 : g_22 m = ob 11 [.ref (A (m + 1)), .int (nI (gZ σ).1), .int (nI (gZ σ).2.1), .int (nI (gZ σ).2.2.1), .int (nI (gZ σ).2.2.2.1), .int (nI (gZ σ).2.2.2.2), .ref (A (m + 2)), .int (nI cs.length), .ref (A (m + 3)), .int (nI lm), .ref (A (m + 4)), .ref (A (m + 5)), .int (nI gm), .ref (A (m + 6)), .ref (A (m + 7)), .ref (A (m + 8))] := by rw [hg_22, va_up_ne _ _ (show m ≠ m + 1 from by omega)]; exact h_17
                    have h_24 : g_22 (m + 1) = ai 0 10511 Z_21 := by rw [hg_22]; exact va_up_self _ _ _
                    have hf_25 : Fr g_16 g_22 (m + 1) (m + 1 + 1) := by rw [hg_22]; exact Fr.up (by omega) (by omega)
                    have hp_26 := SO.fr hp_20 hf_25 (by omega)
                    exact g_vret (pc := 151) C R ⟨rfl, rfl, rfl, ⟨_, h_24, by rw [her_mi hσ8 hσ11 hσ14]; exact RZ.mi0 hRlb (by omega) ht hZ_15 hZ_21⟩, fun k hk => by rw [hg_22, va_up_ne _ _ (by omega), hg_16, va_up_ne _ _ (by omega), hm33b k (by omega), hm33a k (by omega), hg_2, va_up_ne _ _ (by omega)]⟩ (by decide) (by decide) dX11_hear_151
                  ·
                    exfalso
                    revert c_27''; decide
                ·
                  have c_44' : ¬ (nAc (gN σ r)).length ≤ k := fun h => c_44' ((nI_leI (a := (nAc (gN σ r)).length) (b := k) (by omega) (by omega)).mpr h)
                  have hlt : k < (nAc (gN σ r)).length := by omega
                  have hv16 := getD_lt (i := k) ha16
                  have hvK := hn.2.1 _ (getD_mem hlt)
                  refine g_aload_n (pc := 47) C dX11_hear_47 0 rfl ?_
                  refine g_get (pc := 48) C (j := 0) h_12 rfl rfl (by decide) u_852 dX11_hear_48 ?_
                  refine g_bipush (pc := 51) C dX11_hear_51 (v := nI 96) rfl ?_
                  refine g_iconst (pc := 53) C dX11_hear_53 (v := nI 5) rfl ?_
                  refine g_iload_n (pc := 54) C dX11_hear_54 1 rfl ?_
                  refine g_imul (pc := 55) C dX11_hear_55 (z := nI (5 * r)) (pk_mul _ _) ?_
                  refine g_iadd (pc := 56) C dX11_hear_56 (z := nI (96 + 5 * r)) (nI_add _ _) ?_
                  refine g_iload (pc := 57) C dX11_hear_57 7 rfl ?_
                  refine g_iadd (pc := 59) C dX11_hear_59 (z := nI (96 + 5 * r + k)) (nI_add _ _) ?_
                  refine g_iald (pc := 60) C hZlb (nI_clamp (by omega)) (nI_in0 (n := 10511) (by omega) (by omega)) dX11_hear_60 (x := nI ((nAc (gN σ r)).getD k 0)) ((RZ.rAc hRlb (r := r) (k := k) (by omega) (by omega) (by rw [hLa_σ14]; omega)).trans (by rw [hLa_σ14])) ?_
                  refine g_istore (pc := 61) C dX11_hear_61 (by decide) (lv' := [(0, .ref (A m)), (1, .int (nI r)), (2, .int (nI t)), (3, .int (onv fo)), (4, .int (nI h)), (5, .int (nI (24 * r + t))), (6, .int (nI 1)), (7, .int (nI k)), (8, .int (nI ((nAc (gN σ r)).getD k 0)))]) [1, 2, 3, 4, 5, 6, 7, 8, 0] rfl ?_
                  refine g_iload (pc := 63) C dX11_hear_63 8 rfl ?_
                  refine g_iload_n (pc := 65) C dX11_hear_65 3 rfl ?_
                  refine g_icmp_eq (pc := 66) C dX11_hear_66 (tgt := 115) (by decide) (fun c_66 => ?_) (fun c_66 => ?_)
                  ·
                    have c_66 := (wof_n hfo (by omega)).mp c_66
                    refine g_iinc (pc := 115) C dX11_hear_115 (by decide) 7 rfl (v := nI (k + 1)) (nI_i1 _) (lv' := [(0, .ref (A m)), (1, .int (nI r)), (2, .int (nI t)), (3, .int (onv fo)), (4, .int (nI h)), (5, .int (nI (24 * r + t))), (6, .int (nI 1)), (7, .int (nI (k + 1))), (8, .int (nI ((nAc (gN σ r)).getD k 0)))]) [1, 2, 3, 4, 5, 6, 7, 0, 8] rfl ?_
                    refine g_goto (pc := 118) C dX11_hear_118 (tgt := 33) (by decide) ?_
                    refine g_sub [0, 1, 2, 3, 4, 5, 6, 7] rfl ?_
                    exact ih gm33b hm33b (k + 1) (by omega) ⟨_, hZlb, by rw [tfL_s hlt, if_pos (Or.inl c_66), ← hσ14]; exact hRlb⟩ (by omega)
                  ·
                    have c_66 : ¬ fo = some ((nAc (gN σ r)).getD k 0) := fun z => c_66 ((wof_n hfo (by omega)).mpr z)
                    refine g_aload_n (pc := 69) C dX11_hear_69 0 rfl ?_
                    refine g_get (pc := 70) C (j := 0) h_12 rfl rfl (by decide) u_852 dX11_hear_70 ?_
                    refine g_sipush (pc := 73) C dX11_hear_73 (v := nI 176) rfl ?_
                    refine g_iconst (pc := 76) C dX11_hear_76 (v := nI 5) rfl ?_
                    refine g_iload_n (pc := 77) C dX11_hear_77 1 rfl ?_
                    refine g_imul (pc := 78) C dX11_hear_78 (z := nI (5 * r)) (pk_mul _ _) ?_
                    refine g_iadd (pc := 79) C dX11_hear_79 (z := nI (176 + 5 * r)) (nI_add _ _) ?_
                    refine g_iload (pc := 80) C dX11_hear_80 7 rfl ?_
                    refine g_iadd (pc := 82) C dX11_hear_82 (z := nI (176 + 5 * r + k)) (nI_add _ _) ?_
                    refine g_iald (pc := 83) C hZlb (nI_clamp (by omega)) (nI_in0 (n := 10511) (by omega) (by omega)) dX11_hear_83 (x := b32 ((nLz (gN σ r)).testBit ((nAc (gN σ r)).getD k 0))) ((RZ.rLz hRlb (r := r) (k := k) (by omega) (by omega) (by rw [hLa_σ14]; omega)).trans (by rw [hLa_σ14, hLb_σ14])) ?_
                    refine g_iload (pc := 84) C dX11_hear_84 6 rfl ?_
                    refine g_icmp_ne (pc := 86) C dX11_hear_86 (tgt := 115) (by decide) (fun c_86 => ?_) (fun c_86 => ?_)
                    ·
                      have c_86 : ((nLz (gN σ r)).testBit ((nAc (gN σ r)).getD k 0)) = false := b32_n1 c_86
                      have hb86 : (nLz (gN σ r)).testBit ((nAc (gN σ r)).getD k 0) = false := by exact c_86
                      refine g_iinc (pc := 115) C dX11_hear_115 (by decide) 7 rfl (v := nI (k + 1)) (nI_i1 _) (lv' := [(0, .ref (A m)), (1, .int (nI r)), (2, .int (nI t)), (3, .int (onv fo)), (4, .int (nI h)), (5, .int (nI (24 * r + t))), (6, .int (nI 1)), (7, .int (nI (k + 1))), (8, .int (nI ((nAc (gN σ r)).getD k 0)))]) [1, 2, 3, 4, 5, 6, 7, 0, 8] rfl ?_
                      refine g_goto (pc := 118) C dX11_hear_118 (tgt := 33) (by decide) ?_
                      refine g_sub [0, 1, 2, 3, 4, 5, 6, 7] rfl ?_
                      exact ih gm33b hm33b (k + 1) (by omega) ⟨_, hZlb, by rw [tfL_s hlt, if_pos (Or.inr hb86), ← hσ14]; exact hRlb⟩ (by omega)
                    ·
                      have c_86 : ((nLz (gN σ r)).testBit ((nAc (gN σ r)).getD k 0)) = true := b32_y1 c_86
                      have hb86 : (nLz (gN σ r)).testBit ((nAc (gN σ r)).getD k 0) = true := by exact c_86
                      refine g_aload_n (pc := 89) C dX11_hear_89 0 rfl ?_
                      refine g_iload_n (pc := 90) C dX11_hear_90 1 rfl ?_
                      refine g_iload (pc := 91) C dX11_hear_91 8 rfl ?_
                      refine g_bipush (pc := 93) C dX11_hear_93 (v := nI 9) rfl ?_
                      refine g_iload (pc := 95) C dX11_hear_95 6 rfl ?_
                      refine g_iadd (pc := 97) C dX11_hear_97 (z := nI 10) (nI_add _ _) ?_
                      refine g_iload_n (pc := 98) C dX11_hear_98 2 rfl ?_
                      refine g_iload (pc := 99) C dX11_hear_99 6 rfl ?_
                      refine g_if_ne (pc := 101) C dX11_hear_101 (tgt := 111) (by decide) (fun c_101 => ?_) (fun c_101 => ?_)
                      ·
                        have c_101 : ¬ 1 = 0 := fun h => c_101 ((nI_eq (a := 1) (b := 0) (by omega) (by omega)).mpr h)
                        refine g_iconst (pc := 111) C dX11_hear_111 (v := nI 0) rfl ?_
                        refine g_callV (pc := 112) C (As := [.int (nI r), .int (nI ((nAc (gN σ r)).getD k 0)), .int (nI 10), .int (nI t), .int (nI 0)]) (rest := []) (b := m) (c_X11_send A P gm33b m r ((nAc (gN σ r)).getD k 0) 10 t 0 hp_13 (by omega) (by rw [hZ_σ14]; exact h_12) hZlb hRlb) h_12 rfl rfl Y_X11_send u_933 N_X11_send ⟨by decide, by decide⟩ ⟨by decide, by decide⟩ (Nat.le_of_ble_eq_true rfl) rfl dX11_hear_112 ?_
                        rintro _ _ _ g_27 ⟨rfl, rfl, rfl, ⟨Z_28, hZ_28, hR_29⟩, hf_30⟩
                        have h_31 := hf_30.at (by omega) h_12
                        have hp_32 := SO.fr hp_13 hf_30 (by omega)
                        obtain ⟨σ33, hσ33⟩ : ∃ sM : Sg, sM = snd σ14 r ((nAc (gN σ r)).getD k 0) 10 t 0 [] := ⟨_, rfl⟩
                        rw [← hσ33] at hR_29
                        have hK_σ33 : gK σ33 = gK σ := (congrArg gK hσ33).trans (snd_K.trans hK_σ14)
                        have hT_σ33 : gT σ33 = gT σ := (congrArg gT hσ33).trans (snd_T.trans hT_σ14)
                        have hZ_σ33 : gZ σ33 = gZ σ := (congrArg gZ hσ33).trans (snd_Z.trans hZ_σ14)
                        show V K 0 0 P A g_27 [(0, .ref (A m)), (1, .int (nI r)), (2, .int (nI t)), (3, .int (onv fo)), (4, .int (nI h)), (5, .int (nI (24 * r + t))), (6, .int (nI 1)), (7, .int (nI k)), (8, .int (nI ((nAc (gN σ r)).getD k 0)))] 115 []
                        refine g_iinc (pc := 115) C dX11_hear_115 (by decide) 7 rfl (v := nI (k + 1)) (nI_i1 _) (lv' := [(0, .ref (A m)), (1, .int (nI r)), (2, .int (nI t)), (3, .int (onv fo)), (4, .int (nI h)), (5, .int (nI (24 * r + t))), (6, .int (nI 1)), (7, .int (nI (k + 1))), (8, .int (nI ((nAc (gN σ r)).getD k 0)))]) [1, 2, 3, 4, 5, 6, 7, 0, 8] rfl ?_
                        refine g_goto (pc := 118) C dX11_hear_118 (tgt := 33) (by decide) ?_
                        refine g_sub [0, 1, 2, 3, 4, 5, 6, 7] rfl ?_
                        exact ih g_27 (hm33b.tr (fun k hk => by rw [hf_30 k (by omega)])) (k + 1) (by omega) ⟨_, hZ_28, by rw [tfL_s hlt, if_neg (fun z => by rcases z with z | z; exact c_66 z; rw [hb86] at z; cases z), ← hσ14, ← hσ33]; exact hR_29⟩ (by omega)
                      ·
                        exfalso
                        revert c_101; decide
            exact lp_33 (_ + 1) gm33a Fr.rf 0 (Nat.zero_le _) ⟨_, hZla, hRla⟩ (Nat.lt_succ_self _)
        ·
          have c_44 : ¬ (nAc (gN σ r)).length ≤ k := fun h => c_44 ((nI_leI (a := (nAc (gN σ r)).length) (b := k) (by omega) (by omega)).mpr h)
          have hlt : k < (nAc (gN σ r)).length := by omega
          have hv16 := getD_lt (i := k) ha16
          have hvK := hn.2.1 _ (getD_mem hlt)
          refine g_aload_n (pc := 47) C dX11_hear_47 0 rfl ?_
          refine g_get (pc := 48) C (j := 0) h_9 rfl rfl (by decide) u_852 dX11_hear_48 ?_
          refine g_bipush (pc := 51) C dX11_hear_51 (v := nI 96) rfl ?_
          refine g_iconst (pc := 53) C dX11_hear_53 (v := nI 5) rfl ?_
          refine g_iload_n (pc := 54) C dX11_hear_54 1 rfl ?_
          refine g_imul (pc := 55) C dX11_hear_55 (z := nI (5 * r)) (pk_mul _ _) ?_
          refine g_iadd (pc := 56) C dX11_hear_56 (z := nI (96 + 5 * r)) (nI_add _ _) ?_
          refine g_iload (pc := 57) C dX11_hear_57 7 rfl ?_
          refine g_iadd (pc := 59) C dX11_hear_59 (z := nI (96 + 5 * r + k)) (nI_add _ _) ?_
          refine g_iald (pc := 60) C hZla (nI_clamp (by omega)) (nI_in0 (n := 10511) (by omega) (by omega)) dX11_hear_60 (x := nI ((nAc (gN σ r)).getD k 0)) ((RZ.rAc hRla (r := r) (k := k) (by omega) (by omega) (by rw [hLa_σ11]; omega)).trans (by rw [hLa_σ11])) ?_
          refine g_istore (pc := 61) C dX11_hear_61 (by decide) (lv' := [(0, .ref (A m)), (1, .int (nI r)), (2, .int (nI t)), (3, .int (onv fo)), (4, .int (nI h)), (5, .int (nI (24 * r + t))), (6, .int (nI 0)), (7, .int (nI k)), (8, .int (nI ((nAc (gN σ r)).getD k 0)))]) [1, 2, 3, 4, 5, 6, 7, 8, 0] rfl ?_
          refine g_iload (pc := 63) C dX11_hear_63 8 rfl ?_
          refine g_iload_n (pc := 65) C dX11_hear_65 3 rfl ?_
          refine g_icmp_eq (pc := 66) C dX11_hear_66 (tgt := 115) (by decide) (fun c_66 => ?_) (fun c_66 => ?_)
          ·
            have c_66 := (wof_n hfo (by omega)).mp c_66
            refine g_iinc (pc := 115) C dX11_hear_115 (by decide) 7 rfl (v := nI (k + 1)) (nI_i1 _) (lv' := [(0, .ref (A m)), (1, .int (nI r)), (2, .int (nI t)), (3, .int (onv fo)), (4, .int (nI h)), (5, .int (nI (24 * r + t))), (6, .int (nI 0)), (7, .int (nI (k + 1))), (8, .int (nI ((nAc (gN σ r)).getD k 0)))]) [1, 2, 3, 4, 5, 6, 7, 0, 8] rfl ?_
            refine g_goto (pc := 118) C dX11_hear_118 (tgt := 33) (by decide) ?_
            refine g_sub [0, 1, 2, 3, 4, 5, 6, 7] rfl ?_
            exact ih gm33a hm33a (k + 1) (by omega) ⟨_, hZla, by rw [tfE_s hlt, if_pos (Or.inl c_66), ← hσ11]; exact hRla⟩ (by omega)
          ·
            have c_66 : ¬ fo = some ((nAc (gN σ r)).getD k 0) := fun z => c_66 ((wof_n hfo (by omega)).mpr z)
            refine g_aload_n (pc := 69) C dX11_hear_69 0 rfl ?_
            refine g_get (pc := 70) C (j := 0) h_9 rfl rfl (by decide) u_852 dX11_hear_70 ?_
            refine g_sipush (pc := 73) C dX11_hear_73 (v := nI 176) rfl ?_
            refine g_iconst (pc := 76) C dX11_hear_76 (v := nI 5) rfl ?_
            refine g_iload_n (pc := 77) C dX11_hear_77 1 rfl ?_
            refine g_imul (pc := 78) C dX11_hear_78 (z := nI (5 * r)) (pk_mul _ _) ?_
            refine g_iadd (pc := 79) C dX11_hear_79 (z := nI (176 + 5 * r)) (nI_add _ _) ?_
            refine g_iload (pc := 80) C dX11_hear_80 7 rfl ?_
            refine g_iadd (pc := 82) C dX11_hear_82 (z := nI (176 + 5 * r + k)) (nI_add _ _) ?_
            refine g_iald (pc := 83) C hZla (nI_clamp (by omega)) (nI_in0 (n := 10511) (by omega) (by omega)) dX11_hear_83 (x := b32 ((nLz (gN σ r)).testBit ((nAc (gN σ r)).getD k 0))) ((RZ.rLz hRla (r := r) (k := k) (by omega) (by omega) (by rw [hLa_σ11]; omega)).trans (by rw [hLa_σ11, hLb_σ11])) ?_
            refine g_iload (pc := 84) C dX11_hear_84 6 rfl ?_
            refine g_icmp_ne (pc := 86) C dX11_hear_86 (tgt := 115) (by decide) (fun c_86 => ?_) (fun c_86 => ?_)
            ·
              have c_86 : ((nLz (gN σ r)).testBit ((nAc (gN σ r)).getD k 0)) = true := b32_no c_86
              have hb86 : (nLz (gN σ r)).testBit ((nAc (gN σ r)).getD k 0) = true := by exact c_86
              refine g_iinc (pc := 115) C dX11_hear_115 (by decide) 7 rfl (v := nI (k + 1)) (nI_i1 _) (lv' := [(0, .ref (A m)), (1, .int (nI r)), (2, .int (nI t)), (3, .int (onv fo)), (4, .int (nI h)), (5, .int (nI (24 * r + t))), (6, .int (nI 0)), (7, .int (nI (k + 1))), (8, .int (nI ((nAc (gN σ r)).getD k 0)))]) [1, 2, 3, 4, 5, 6, 7, 0, 8] rfl ?_
              refine g_goto (pc := 118) C dX11_hear_118 (tgt := 33) (by decide) ?_
              refine g_sub [0, 1, 2, 3, 4, 5, 6, 7] rfl ?_
              exact ih gm33a hm33a (k + 1) (by omega) ⟨_, hZla, by rw [tfE_s hlt, if_pos (Or.inr hb86), ← hσ11]; exact hRla⟩ (by omega)
            ·
              have c_86 : ((nLz (gN σ r)).testBit ((nAc (gN σ r)).getD k 0)) = false := b32_yes c_86
              have hb86 : (nLz (gN σ r)).testBit ((nAc (gN σ r)).getD k 0) = false := by exact c_86
              refine g_aload_n (pc := 89) C dX11_hear_89 0 rfl ?_
              refine g_iload_n (pc := 90) C dX11_hear_90 1 rfl ?_
              refine g_iload (pc := 91) C dX11_hear_91 8 rfl ?_
              refine g_bipush (pc := 93) C dX11_hear_93 (v := nI 9) rfl ?_
              refine g_iload (pc := 95) C dX11_hear_95 6 rfl ?_
              refine g_iadd (pc := 97) C dX11_hear_97 (z := nI 9) (nI_add _ _) ?_
              refine g_iload_n (pc := 98) C dX11_hear_98 2 rfl ?_
              refine g_iload (pc := 99) C dX11_hear_99 6 rfl ?_
              refine g_if_ne (pc := 101) C dX11_hear_101 (tgt := 111) (by decide) (fun c_101 => ?_) (fun c_101 => ?_)
              ·
                exfalso
                revert c_101; decide
              ·
                have c_101 : 0 = 0 := (nI_eq (by omega) (by omega)).mp c_101
                refine g_iload (pc := 104) C dX11_hear_104 4 rfl ?_
                refine g_iconst (pc := 106) C dX11_hear_106 (v := nI 1) rfl ?_
                refine g_iadd (pc := 107) C dX11_hear_107 (z := nI (h + 1)) (nI_add _ _) ?_
                refine g_goto (pc := 108) C dX11_hear_108 (tgt := 112) (by decide) ?_
                refine g_callV (pc := 112) C (As := [.int (nI r), .int (nI ((nAc (gN σ r)).getD k 0)), .int (nI 9), .int (nI t), .int (nI (h + 1))]) (rest := []) (b := m) (c_X11_send A P gm33a m r ((nAc (gN σ r)).getD k 0) 9 t (h + 1) hp_10 (by omega) (by rw [hZ_σ11]; exact h_9) hZla hRla) h_9 rfl rfl Y_X11_send u_933 N_X11_send ⟨by decide, by decide⟩ ⟨by decide, by decide⟩ (Nat.le_of_ble_eq_true rfl) rfl dX11_hear_112 ?_
                rintro _ _ _ g_34 ⟨rfl, rfl, rfl, ⟨Z_35, hZ_35, hR_36⟩, hf_37⟩
                have h_38 := hf_37.at (by omega) h_9
                have hp_39 := SO.fr hp_10 hf_37 (by omega)
                obtain ⟨σ40, hσ40⟩ : ∃ sM : Sg, sM = snd σ11 r ((nAc (gN σ r)).getD k 0) 9 t (h + 1) [] := ⟨_, rfl⟩
                rw [← hσ40] at hR_36
                have hK_σ40 : gK σ40 = gK σ := (congrArg gK hσ40).trans (snd_K.trans hK_σ11)
                have hT_σ40 : gT σ40 = gT σ := (congrArg gT hσ40).trans (snd_T.trans hT_σ11)
                have hZ_σ40 : gZ σ40 = gZ σ := (congrArg gZ hσ40).trans (snd_Z.trans hZ_σ11)
                show V K 0 0 P A g_34 [(0, .ref (A m)), (1, .int (nI r)), (2, .int (nI t)), (3, .int (onv fo)), (4, .int (nI h)), (5, .int (nI (24 * r + t))), (6, .int (nI 0)), (7, .int (nI k)), (8, .int (nI ((nAc (gN σ r)).getD k 0)))] 115 []
                refine g_iinc (pc := 115) C dX11_hear_115 (by decide) 7 rfl (v := nI (k + 1)) (nI_i1 _) (lv' := [(0, .ref (A m)), (1, .int (nI r)), (2, .int (nI t)), (3, .int (onv fo)), (4, .int (nI h)), (5, .int (nI (24 * r + t))), (6, .int (nI 0)), (7, .int (nI (k + 1))), (8, .int (nI ((nAc (gN σ r)).getD k 0)))]) [1, 2, 3, 4, 5, 6, 7, 0, 8] rfl ?_
                refine g_goto (pc := 118) C dX11_hear_118 (tgt := 33) (by decide) ?_
                refine g_sub [0, 1, 2, 3, 4, 5, 6, 7] rfl ?_
                exact ih g_34 (hm33a.tr (fun k hk => by rw [hf_37 k (by omega)])) (k + 1) (by omega) ⟨_, hZ_35, by rw [tfE_s hlt, if_neg (fun z => by rcases z with z | z; exact c_66 z; rw [hb86] at z; cases z), ← hσ11, ← hσ40]; exact hR_36⟩ (by omega)
    exact lp_33 (_ + 1) g_2 Fr.rf 0 (Nat.zero_le _) ⟨_, h_4, hR_7⟩ (Nat.lt_succ_self _)
abbrev rm_X11_fetch : Room := { frames := 4, cells := 0, slots := 0, locals := 101 }
theorem Y_X11_fetch : pY yX11_fetch cX11_fetch 6 (Option.none : Option Jvm.ClassFile.FieldType) := ⟨u_1003, us_16, u_13, u_1004⟩
theorem N_X11_fetch : yX11_fetch.cls ≠ "java/lang/invoke/MethodHandle" ∧ yX11_fetch.cls ≠ "java/lang/invoke/VarHandle" ∧ (parseMethodDescriptor yX11_fetch.desc).map (fun d => d.parameters.length) = some 3 := by decide +kernel
set_option maxRecDepth 20000 in
set_option maxHeartbeats 4000000 in
theorem c_X11_fetch (A : Nat → Nat) (P : List Nat) (g : pM) (m : Nat) {cs : List Nat} {lm gm : Nat} {Z : Nat → Int32} {σ : Sg} {B : Nat} (r t : Nat) (p : Int32 × List Nat) (hr : r < gK σ) (ht : t < 24) (hp : nMi (gN σ r) t = some p) (hS : SW B cs σ) {l3 : List Nat} (hl3 : SO g (m + 3) 5 l3) (hO : g m = mOb A m (gZ σ) cs.length lm gm) (hZ : g (m + 1) = ai 0 10511 Z) (hR : RZ Z σ) : PM yX11_fetch cX11_fetch 6 (Option.none : Option Jvm.ClassFile.FieldType) rm_X11_fetch [.ref (A m), .int (nI r), .int (nI t), .int (nI (24 * r + t))] P A g (fun v g' => v = none ∧ ZS g' m (ftc σ r t p.1 p.2) ∧ Fr g g' (m + 1) (m + 2)) := by
  have hK := hR.k16
  have hT := hR.t24
  have hL := hR.le
  have hzw := hS.2.2.2.1
  have hz0 := hzw.1
  have hz1 := hzw.2.1
  have hz2 := hzw.2.2.1
  have hz3 := hzw.2.2.2.1
  have hn := hS.nw hr
  have hle1 := hn.2.2.2.2.1
  have hle2 := hn.2.2.2.2.2.1
  have hc5 := hR.ac5 hr
  have hc8 := hR.pa8 hr
  have ha16 := hS.a16 hr
  have hp16 := hS.p16 hr
  have hm5 := hR.ml5 hr ht
  have hk := hn.2.2.2.2.2.2.2.2.2.1 t p.1 p.2 hp
  have hk1 := hk.1
  have hk2 := hk.2.1
  have hk3 := hk.2.2
  have hho := nMi_ho hS hr hp
  have hz8 := hzw.2.2.2.2.2.2.2
  refine px_intro (by decide +kernel) (Nat.le_of_ble_eq_true rfl) (fun K sz C R => ?_)
  show V K 0 0 P A g [(0, .ref (A m)), (1, .int (nI r)), (2, .int (nI t)), (3, .int (nI (24 * r + t)))] 0 []
  refine g_aload_n (pc := 0) C dX11_fetch_0 0 rfl ?_
  refine g_get (pc := 1) C (j := 0) hO rfl rfl (by decide) u_852 dX11_fetch_1 ?_
  refine g_sipush (pc := 4) C dX11_fetch_4 (v := nI 1536) rfl ?_
  refine g_iload_n (pc := 7) C dX11_fetch_7 3 rfl ?_
  refine g_iadd (pc := 8) C dX11_fetch_8 (z := nI (1536 + (24 * r + t))) (nI_add _ _) ?_
  refine g_iald (pc := 9) C hZ (nI_clamp (by omega)) (nI_in0 (n := 10511) (by omega) (by omega)) dX11_fetch_9 (x := nI (miL (nMi (gN σ r) t)).length) (RZ.rMn hR (r := r) (t := t) (by omega) (by omega) (by omega)) ?_
  refine g_if_ne (pc := 10) C dX11_fetch_10 (tgt := 25) (by decide) (fun c_10 => ?_) (fun c_10 => ?_)
  ·
    have c_10 : ¬ (miL (nMi (gN σ r) t)).length = 0 := fun h => c_10 ((nI_eq (a := (miL (nMi (gN σ r) t)).length) (b := 0) (by omega) (by omega)).mpr h)
    refine g_aload_n (pc := 25) C dX11_fetch_25 0 rfl ?_
    refine g_get (pc := 26) C (j := 0) hO rfl rfl (by decide) u_852 dX11_fetch_26 ?_
    refine g_sipush (pc := 29) C dX11_fetch_29 (v := nI 1920) rfl ?_
    refine g_bipush (pc := 32) C dX11_fetch_32 (v := nI 8) rfl ?_
    refine g_iload_n (pc := 34) C dX11_fetch_34 3 rfl ?_
    refine g_imul (pc := 35) C dX11_fetch_35 (z := nI (8 * (24 * r + t))) (pk_mul _ _) ?_
    refine g_iadd (pc := 36) C dX11_fetch_36 (z := nI (1920 + (8 * (24 * r + t)))) (nI_add _ _) ?_
    refine g_iald (pc := 37) C hZ (nI_clamp (by omega)) (nI_in0 (n := 10511) (by omega) (by omega)) dX11_fetch_37 (x := nI ((miL (nMi (gN σ r) t)).getD 0 0)) (RZ.rMt hR (r := r) (t := t) (k := 0) (by omega) (by omega) (by omega) (by omega)) ?_
    refine g_istore (pc := 38) C dX11_fetch_38 (by decide) (lv' := [(0, .ref (A m)), (1, .int (nI r)), (2, .int (nI t)), (3, .int (nI (24 * r + t))), (4, .int (nI ((miL (nMi (gN σ r) t)).getD 0 0)))]) [1, 2, 3, 4, 0] rfl ?_
    refine g_aload_n (pc := 40) C dX11_fetch_40 0 rfl ?_
    refine g_get (pc := 41) C (j := 0) hO rfl rfl (by decide) u_852 dX11_fetch_41 ?_
    refine g_sipush (pc := 44) C dX11_fetch_44 (v := nI 1536) rfl ?_
    refine g_iload_n (pc := 47) C dX11_fetch_47 3 rfl ?_
    refine g_iadd (pc := 48) C dX11_fetch_48 (z := nI (1536 + (24 * r + t))) (nI_add _ _) ?_
    refine g_dup2 (pc := 49) C dX11_fetch_49 rfl rfl ?_
    refine g_iald (pc := 50) C hZ (nI_clamp (by omega)) (nI_in0 (n := 10511) (by omega) (by omega)) dX11_fetch_50 (x := nI (miL (nMi (gN σ r) t)).length) (RZ.rMn hR (r := r) (t := t) (by omega) (by omega) (by omega)) ?_
    refine g_iconst (pc := 51) C dX11_fetch_51 (v := nI 1) rfl ?_
    refine g_isub (pc := 52) C dX11_fetch_52 (z := nI ((miL (nMi (gN σ r) t)).length - 1)) (pk_sub (by omega)) ?_
    refine g_iast (pc := 53) C hZ (nI_clamp (by omega)) (nI_in0 (n := 10511) (by omega) (by omega)) dX11_fetch_53 ?_
    obtain ⟨Z_1, hZ_1⟩ : ∃ yZ : Nat → Int32, yZ = upd Z (1536 + (24 * r + t)) (nI ((miL (nMi (gN σ r) t)).length - 1)) := ⟨_, rfl⟩
    show V K 0 0 P A (va_up g (m + 1) (ai 0 10511 (upd Z (1536 + (24 * r + t)) (nI ((miL (nMi (gN σ r) t)).length - 1))))) [(0, .ref (A m)), (1, .int (nI r)), (2, .int (nI t)), (3, .int (nI (24 * r + t))), (4, .int (nI ((miL (nMi (gN σ r) t)).getD 0 0)))] 54 []
    rw [← hZ_1]
    obtain ⟨g_2, hg_2⟩ : ∃ yM : pM, yM = va_up g (m + 1) (ai 0 10511 Z_1) := ⟨_, rfl⟩
    show V K 0 0 P A (va_up g (m + 1) (ai 0 10511 Z_1)) [(0, .ref (A m)), (1, .int (nI r)), (2, .int (nI t)), (3, .int (nI (24 * r + t))), (4, .int (nI ((miL (nMi (gN σ r) t)).getD 0 0)))] 54 []
    rw [← hg_2]
    have h_3 : g_2 m = ob 11 [.ref (A (m + 1)), .int (nI (gZ σ).1), .int (nI (gZ σ).2.1), .int (nI (gZ σ).2.2.1), .int (nI (gZ σ).2.2.2.1), .int (nI (gZ σ).2.2.2.2), .ref (A (m + 2)), .int (nI cs.length), .ref (A (m + 3)), .int (nI lm), .ref (A (m + 4)), .ref (A (m + 5)), .int (nI gm), .ref (A (m + 6)), .ref (A (m + 7)), .ref (A (m + 8))] := by rw [hg_2, va_up_ne _ _ (show m ≠ m + 1 from by omega)]; exact hO
    have h_4 : g_2 (m + 1) = ai 0 10511 Z_1 := by rw [hg_2]; exact va_up_self _ _ _
    have hf_5 : Fr g g_2 (m + 1) (m + 1 + 1) := by rw [hg_2]; exact Fr.up (by omega) (by omega)
    have hp_6 := SO.fr hl3 hf_5 (by omega)
    refine g_iconst (pc := 54) C dX11_fetch_54 (v := nI 0) rfl ?_
    refine g_istore (pc := 55) C dX11_fetch_55 (by decide) (lv' := [(0, .ref (A m)), (1, .int (nI r)), (2, .int (nI t)), (3, .int (nI (24 * r + t))), (4, .int (nI ((miL (nMi (gN σ r) t)).getD 0 0))), (5, .int (nI 0))]) [1, 2, 3, 4, 5, 0] rfl ?_
    have lp_57 : ∀ (fuel : Nat) (b : Nat) (hb2 : b < (miL (nMi (gN σ r) t)).length), (miL (nMi (gN σ r) t)).length - b < fuel → V K 0 0 P A (va_up g_2 (m + 1) (ai 0 10511 (sh Z_1 (1920 + 8 * (24 * r + t) + 0) (1920 + 8 * (24 * r + t) + b)))) [(0, .ref (A m)), (1, .int (nI r)), (2, .int (nI t)), (3, .int (nI (24 * r + t))), (4, .int (nI ((miL (nMi (gN σ r) t)).getD 0 0))), (5, .int (nI b))] 57 [] := by
      intro fuel
      induction fuel with
      | zero => intro b hb2 hμ; exact absurd hμ (Nat.not_lt_zero _)
      | succ fuel ih =>
        intro b hb2 hμ
        obtain ⟨Y57, hY57⟩ : ∃ yZ : Nat → Int32, yZ = sh Z_1 (1920 + 8 * (24 * r + t) + 0) (1920 + 8 * (24 * r + t) + b) := ⟨_, rfl⟩
        rw [← hY57]
        obtain ⟨gl57, hgl57⟩ : ∃ y : pM, y = va_up g_2 (m + 1) (ai 0 10511 Y57) := ⟨_, rfl⟩
        rw [← hgl57]
        have hfl57 : Fr g_2 gl57 (m + 1) (m + 2) := by rw [hgl57]; exact Fr.up (by omega) (by omega)
        have hz57 : gl57 (m + 1) = ai 0 10511 Y57 := by rw [hgl57]; exact va_up_self _ _ _
        have h_7 := hfl57.at (by omega) h_3
        have hp_8 := SO.fr hp_6 hfl57 (by omega)
        refine g_iload (pc := 57) C dX11_fetch_57 5 rfl ?_
        refine g_aload_n (pc := 59) C dX11_fetch_59 0 rfl ?_
        refine g_get (pc := 60) C (j := 0) h_7 rfl rfl (by decide) u_852 dX11_fetch_60 ?_
        refine g_sipush (pc := 63) C dX11_fetch_63 (v := nI 1536) rfl ?_
        refine g_iload_n (pc := 66) C dX11_fetch_66 3 rfl ?_
        refine g_iadd (pc := 67) C dX11_fetch_67 (z := nI (1536 + (24 * r + t))) (nI_add _ _) ?_
        refine g_iald (pc := 68) C hz57 (nI_clamp (by omega)) (nI_in0 (n := 10511) (by omega) (by omega)) dX11_fetch_68 (x := nI ((miL (nMi (gN σ r) t)).length - 1)) (zsh hY57 (by omega) (zeq hZ_1 (by omega))) ?_
        refine g_icmp_ge (pc := 69) C dX11_fetch_69 (tgt := 112) (by decide) (fun c_69 => ?_) (fun c_69 => ?_)
        ·
          have c_69 : ((miL (nMi (gN σ r) t)).length - 1) ≤ b := (nI_leI (by omega) (by omega)).mp c_69
          have hpe : p.2 = (miL (nMi (gN σ r) t)) := by rw [hp]; rfl
          have hR_9 : RZ Y57 (miS σ r t (some (p.1, p.2.eraseIdx 0))) := RZ.mi3 hR hr ht hp (by omega) hZ_1 hY57 (by omega)
          obtain ⟨σ10, hσ10⟩ : ∃ sM : Sg, sM = miS σ r t (some (p.1, p.2.eraseIdx 0)) := ⟨_, rfl⟩
          rw [← hσ10] at hR_9
          have hK_σ10 : gK σ10 = gK σ := (congrArg gK hσ10).trans (rfl : gK σ = gK σ)
          have hT_σ10 : gT σ10 = gT σ := (congrArg gT hσ10).trans (rfl : gT σ = gT σ)
          have hZ_σ10 : gZ σ10 = gZ σ := (congrArg gZ hσ10).trans (rfl : gZ σ = gZ σ)
          have hS_σ10 : SW B cs σ10 := by rw [hσ10]; exact miS_SW hS hr hk1 hho (List.Pairwise.sublist (List.eraseIdx_sublist _ 0) hk2) (fun x hx => hk3 x (List.mem_of_mem_eraseIdx hx))
          have hq0 : (miL (nMi (gN σ r) t)).getD 0 0 ∈ p.2 := by rw [hpe]; exact getD_mem (by omega)
          have hqa : (miL (nMi (gN σ r) t)).getD 0 0 ∈ nAc (gN σ10 r) := by rw [hσ10]; simp only [miS, gN_self]; exact hk3 _ hq0
          have hqK : (miL (nMi (gN σ r) t)).getD 0 0 < gK σ := hn.2.1 _ (hk3 _ hq0)
          have hq16 := ha16 _ (hk3 _ hq0)
          refine g_aload_n (pc := 112) C dX11_fetch_112 0 rfl ?_
          refine g_iload_n (pc := 113) C dX11_fetch_113 1 rfl ?_
          refine g_iload (pc := 114) C dX11_fetch_114 4 rfl ?_
          refine g_iconst (pc := 116) C dX11_fetch_116 (v := nI 0) rfl ?_
          refine g_callV (pc := 117) C (As := [.int (nI r), .int (nI ((miL (nMi (gN σ r) t)).getD 0 0)), .int (nI 0)]) (rest := []) (b := m) (c_X11_setLazy0 A P gl57 m r ((miL (nMi (gN σ r) t)).getD 0 0) (by omega) hqa hS_σ10 (by rw [hZ_σ10]; exact h_7) hz57 hR_9) h_7 rfl rfl Y_X11_setLazy u_1005 N_X11_setLazy ⟨by decide, by decide⟩ ⟨by decide, by decide⟩ (Nat.le_of_ble_eq_true rfl) rfl dX11_fetch_117 ?_
          rintro _ _ _ g_11 ⟨rfl, rfl, rfl, ⟨Z_12, hZ_12, hR_13⟩, hf_14⟩
          have h_15 := hf_14.at (by omega) h_7
          have hp_16 := SO.fr hp_8 hf_14 (by omega)
          obtain ⟨σ17, hσ17⟩ : ∃ sM : Sg, sM = egS σ10 r ((miL (nMi (gN σ r) t)).getD 0 0) := ⟨_, rfl⟩
          rw [← hσ17] at hR_13
          have hK_σ17 : gK σ17 = gK σ := (congrArg gK hσ17).trans hK_σ10
          have hT_σ17 : gT σ17 = gT σ := (congrArg gT hσ17).trans hT_σ10
          have hZ_σ17 : gZ σ17 = gZ σ := (congrArg gZ hσ17).trans hZ_σ10
          have hS_σ17 : SW B cs σ17 := by rw [hσ17]; exact SW.egS hS_σ10 (by omega)
          show V K 0 0 P A g_11 [(0, .ref (A m)), (1, .int (nI r)), (2, .int (nI t)), (3, .int (nI (24 * r + t))), (4, .int (nI ((miL (nMi (gN σ r) t)).getD 0 0))), (5, .int (nI b))] 120 []
          refine g_aload_n (pc := 120) C dX11_fetch_120 0 rfl ?_
          refine g_iload_n (pc := 121) C dX11_fetch_121 1 rfl ?_
          refine g_iload (pc := 122) C dX11_fetch_122 4 rfl ?_
          refine g_bipush (pc := 124) C dX11_fetch_124 (v := nI 11) rfl ?_
          refine g_iload_n (pc := 126) C dX11_fetch_126 2 rfl ?_
          refine g_iconst (pc := 127) C dX11_fetch_127 (v := nI 1) rfl ?_
          refine g_callV (pc := 128) C (As := [.int (nI r), .int (nI ((miL (nMi (gN σ r) t)).getD 0 0)), .int (nI 11), .int (nI t), .int (nI 1)]) (rest := []) (b := m) (c_X11_send A P g_11 m r ((miL (nMi (gN σ r) t)).getD 0 0) 11 t 1 hp_16 (by omega) (by rw [hZ_σ17]; exact h_15) hZ_12 hR_13) h_15 rfl rfl Y_X11_send u_933 N_X11_send ⟨by decide, by decide⟩ ⟨by decide, by decide⟩ (Nat.le_of_ble_eq_true rfl) rfl dX11_fetch_128 ?_
          rintro _ _ _ g_18 ⟨rfl, rfl, rfl, ⟨Z_19, hZ_19, hR_20⟩, hf_21⟩
          have h_22 := hf_21.at (by omega) h_15
          have hp_23 := SO.fr hp_16 hf_21 (by omega)
          obtain ⟨σ24, hσ24⟩ : ∃ sM : Sg, sM = snd σ17 r ((miL (nMi (gN σ r) t)).getD 0 0) 11 t 1 [] := ⟨_, rfl⟩
          rw [← hσ24] at hR_20
          have hK_σ24 : gK σ24 = gK σ := (congrArg gK hσ24).trans (snd_K.trans hK_σ17)
          have hT_σ24 : gT σ24 = gT σ := (congrArg gT hσ24).trans (snd_T.trans hT_σ17)
          have hZ_σ24 : gZ σ24 = gZ σ := (congrArg gZ hσ24).trans (snd_Z.trans hZ_σ17)
          have hS_σ24 : SW B cs σ24 := by rw [hσ24]; exact SW.sent hS_σ17 (by omega) (by omega) (lw_t (by omega) (by omega) (by omega) (by omega) (Or.inr (Or.inr ⟨rfl, rfl⟩)))
          show V K 0 0 P A g_18 [(0, .ref (A m)), (1, .int (nI r)), (2, .int (nI t)), (3, .int (nI (24 * r + t))), (4, .int (nI ((miL (nMi (gN σ r) t)).getD 0 0))), (5, .int (nI b))] 131 []
          have hmi : nMi (gN σ24 r) t = some (p.1, p.2.eraseIdx 0) := by rw [hσ24, snd_N, hσ17]; simp only [egS, gN_self]; rw [hσ10]; simp only [miS, gN_self]; exact va_up_self _ _ _
          refine g_aload_n (pc := 131) C dX11_fetch_131 0 rfl ?_
          refine g_get (pc := 132) C (j := 0) h_22 rfl rfl (by decide) u_852 dX11_fetch_132 ?_
          refine g_sipush (pc := 135) C dX11_fetch_135 (v := nI 1152) rfl ?_
          refine g_iload_n (pc := 138) C dX11_fetch_138 3 rfl ?_
          refine g_iadd (pc := 139) C dX11_fetch_139 (z := nI (1152 + (24 * r + t))) (nI_add _ _) ?_
          refine g_aload_n (pc := 140) C dX11_fetch_140 0 rfl ?_
          refine g_get (pc := 141) C (j := 0) h_22 rfl rfl (by decide) u_852 dX11_fetch_141 ?_
          refine g_sipush (pc := 144) C dX11_fetch_144 (v := nI 10509) rfl ?_
          refine g_iald (pc := 147) C hZ_19 (nI_clamp (by omega)) (nI_in0 (n := 10511) (by omega) (by omega)) dX11_fetch_147 (x := gTi σ24) (RZ.rTi hR_20 (by omega)) ?_
          refine g_aload_n (pc := 148) C dX11_fetch_148 0 rfl ?_
          refine g_get (pc := 149) C (j := 5) h_22 rfl rfl (by decide) u_857 dX11_fetch_149 ?_
          refine g_iconst (pc := 152) C dX11_fetch_152 (v := nI 1) rfl ?_
          refine g_icmp_le (pc := 153) C dX11_fetch_153 (tgt := 165) (by decide) (fun c_153 => ?_) (fun c_153 => ?_)
          ·
            have c_153 : (gZ σ).2.2.2.2 ≤ 1 := (nI_leI (by omega) (by omega)).mp c_153
            refine g_iconst (pc := 165) C dX11_fetch_165 (v := nI 1) rfl ?_
            refine g_iadd (pc := 166) C dX11_fetch_166 (z := (gTi σ24) + (nI 1)) rfl ?_
            refine g_iast (pc := 167) C hZ_19 (nI_clamp (by omega)) (nI_in0 (n := 10511) (by omega) (by omega)) dX11_fetch_167 ?_
            obtain ⟨Z_25, hZ_25⟩ : ∃ yZ : Nat → Int32, yZ = upd Z_19 (1152 + (24 * r + t)) ((gTi σ24) + (nI 1)) := ⟨_, rfl⟩
            show V K 0 0 P A (va_up g_18 (m + 1) (ai 0 10511 (upd Z_19 (1152 + (24 * r + t)) ((gTi σ24) + (nI 1))))) [(0, .ref (A m)), (1, .int (nI r)), (2, .int (nI t)), (3, .int (nI (24 * r + t))), (4, .int (nI ((miL (nMi (gN σ r) t)).getD 0 0))), (5, .int (nI b))] 168 []
            rw [← hZ_25]
            obtain ⟨g_26, hg_26⟩ : ∃ yM : pM, yM = va_up g_18 (m + 1) (ai 0 10511 Z_25) := ⟨_, rfl⟩
            show V K 0 0 P A (va_up g_18 (m + 1) (ai 0 10511 Z_25)) [(0, .ref (A m)), (1, .int (nI r)), (2, .int (nI t)), (3, .int (nI (24 * r + t))), (4, .int (nI ((miL (nMi (gN σ r) t)).getD 0 0))), (5, .int (nI b))] 168 []
            rw [← hg_26]
            have h_27 : g_26 m = ob 11 [.ref (A (m + 1)), .int (nI (gZ σ).1), .int (nI (gZ σ).2.1), .int (nI (gZ σ).2.2.1), .int (nI (gZ σ).2.2.2.1), .int (nI (gZ σ).2.2.2.2), .ref (A (m + 2)), .int (nI cs.length), .ref (A (m + 3)), .int (nI lm), .ref (A (m + 4)), .ref (A (m + 5)), .int (nI gm), .ref (A (m + 6)), .ref (A (m + 7)), .ref (A (m + 8))] := by rw [hg_26, va_up_ne _ _ (show m ≠ m + 1 from by omega)]; exact h_22
            have h_28 : g_26 (m + 1) = ai 0 10511 Z_25 := by rw [hg_26]; exact va_up_self _ _ _
            have hf_29 : Fr g_18 g_26 (m + 1) (m + 1 + 1) := by rw [hg_26]; exact Fr.up (by omega) (by omega)
            have hp_30 := SO.fr hp_23 hf_29 (by omega)
            have hmx : 1 = max ((gZ σ24).2.2.2.2 / 2) 1 := by rw [hZ_σ24]; omega
            exact g_vret (pc := 168) C R ⟨rfl, rfl, rfl, ⟨_, h_28, by rw [show p = (p.1, p.2) from rfl, ftc_s (by rw [hpe]; omega) (by rw [hpe]) rfl hσ10 hσ17 hσ24 rfl, ← hmx]; exact RZ.mi2 hR_20 (by omega) ht hmi hZ_25⟩, fun k hk => by rw [hg_26, va_up_ne _ _ (by omega), hf_21 k (by omega), hf_14 k (by omega), hfl57 k (by omega), hg_2, va_up_ne _ _ (by omega)]⟩ (by decide) (by decide) dX11_fetch_168
          ·
            have c_153 : ¬ (gZ σ).2.2.2.2 ≤ 1 := fun h => c_153 ((nI_leI (a := (gZ σ).2.2.2.2) (b := 1) (by omega) (by omega)).mpr h)
            refine g_aload_n (pc := 156) C dX11_fetch_156 0 rfl ?_
            refine g_get (pc := 157) C (j := 5) h_22 rfl rfl (by decide) u_857 dX11_fetch_157 ?_
            refine g_iconst (pc := 160) C dX11_fetch_160 (v := nI 2) rfl ?_
            refine g_idiv (pc := 161) C dX11_fetch_161 (by decide) (z := nI ((gZ σ).2.2.2.2 / 2)) (pk_div (by omega) (by omega) (by omega)) ?_
            refine g_goto (pc := 162) C dX11_fetch_162 (tgt := 166) (by decide) ?_
            refine g_iadd (pc := 166) C dX11_fetch_166 (z := (gTi σ24) + (nI ((gZ σ).2.2.2.2 / 2))) rfl ?_
            refine g_iast (pc := 167) C hZ_19 (nI_clamp (by omega)) (nI_in0 (n := 10511) (by omega) (by omega)) dX11_fetch_167 ?_
            obtain ⟨Z_31, hZ_31⟩ : ∃ yZ : Nat → Int32, yZ = upd Z_19 (1152 + (24 * r + t)) ((gTi σ24) + (nI ((gZ σ).2.2.2.2 / 2))) := ⟨_, rfl⟩
            show V K 0 0 P A (va_up g_18 (m + 1) (ai 0 10511 (upd Z_19 (1152 + (24 * r + t)) ((gTi σ24) + (nI ((gZ σ).2.2.2.2 / 2)))))) [(0, .ref (A m)), (1, .int (nI r)), (2, .int (nI t)), (3, .int (nI (24 * r + t))), (4, .int (nI ((miL (nMi (gN σ r) t)).getD 0 0))), (5, .int (nI b))] 168 []
            rw [← hZ_31]
            obtain ⟨g_32, hg_32⟩ : ∃ yM : pM, yM = va_up g_18 (m + 1) (ai 0 10511 Z_31) := ⟨_, rfl⟩
            show V K 0 0 P A (va_up g_18 (m + 1) (ai 0 10511 Z_31)) [(0, .ref (A m)), (1, .int (nI r)), (2, .int (nI t)), (3, .int (nI (24 * r + t))), (4, .int (nI ((miL (nMi (gN σ r) t)).getD 0 0))), (5, .int (nI b))] 168 []
            rw [← hg_32]
            have h_33 : g_32 m = ob 11 [.ref (A (m + 1)), .int (nI (gZ σ).1), .int (nI (gZ σ).2.1), .int (nI (gZ σ).2.2.1), .int (nI (gZ σ).2.2.2.1), .int (nI (gZ σ).2.2.2.2), .ref (A (m + 2)), .int (nI cs.length), .ref (A (m + 3)), .int (nI lm), .ref (A (m + 4)), .ref (A (m + 5)), .int (nI gm), .ref (A (m + 6)), .ref (A (m + 7)), .ref (A (m + 8))] := by rw [hg_32, va_up_ne _ _ (show m ≠ m + 1 from by omega)]; exact h_22
            have h_34 : g_32 (m + 1) = ai 0 10511 Z_31 := by rw [hg_32]; exact va_up_self _ _ _
            have hf_35 : Fr g_18 g_32 (m + 1) (m + 1 + 1) := by rw [hg_32]; exact Fr.up (by omega) (by omega)
            have hp_36 := SO.fr hp_23 hf_35 (by omega)
            have hmx : (gZ σ).2.2.2.2 / 2 = max ((gZ σ24).2.2.2.2 / 2) 1 := by rw [hZ_σ24]; omega
            exact g_vret (pc := 168) C R ⟨rfl, rfl, rfl, ⟨_, h_34, by rw [show p = (p.1, p.2) from rfl, ftc_s (by rw [hpe]; omega) (by rw [hpe]) rfl hσ10 hσ17 hσ24 rfl, ← hmx]; exact RZ.mi2 hR_20 (by omega) ht hmi hZ_31⟩, fun k hk => by rw [hg_32, va_up_ne _ _ (by omega), hf_21 k (by omega), hf_14 k (by omega), hfl57 k (by omega), hg_2, va_up_ne _ _ (by omega)]⟩ (by decide) (by decide) dX11_fetch_168
        ·
          have c_69 : ¬ ((miL (nMi (gN σ r) t)).length - 1) ≤ b := fun h => c_69 ((nI_leI (a := ((miL (nMi (gN σ r) t)).length - 1)) (b := b) (by omega) (by omega)).mpr h)
          refine g_aload_n (pc := 72) C dX11_fetch_72 0 rfl ?_
          refine g_get (pc := 73) C (j := 0) h_7 rfl rfl (by decide) u_852 dX11_fetch_73 ?_
          refine g_sipush (pc := 76) C dX11_fetch_76 (v := nI 1920) rfl ?_
          refine g_bipush (pc := 79) C dX11_fetch_79 (v := nI 8) rfl ?_
          refine g_iload_n (pc := 81) C dX11_fetch_81 3 rfl ?_
          refine g_imul (pc := 82) C dX11_fetch_82 (z := nI (8 * (24 * r + t))) (pk_mul _ _) ?_
          refine g_iadd (pc := 83) C dX11_fetch_83 (z := nI (1920 + (8 * (24 * r + t)))) (nI_add _ _) ?_
          refine g_iload (pc := 84) C dX11_fetch_84 5 rfl ?_
          refine g_iadd (pc := 86) C dX11_fetch_86 (z := nI (1920 + (8 * (24 * r + t)) + b)) (nI_add _ _) ?_
          refine g_aload_n (pc := 87) C dX11_fetch_87 0 rfl ?_
          refine g_get (pc := 88) C (j := 0) h_7 rfl rfl (by decide) u_852 dX11_fetch_88 ?_
          refine g_sipush (pc := 91) C dX11_fetch_91 (v := nI 1920) rfl ?_
          refine g_bipush (pc := 94) C dX11_fetch_94 (v := nI 8) rfl ?_
          refine g_iload_n (pc := 96) C dX11_fetch_96 3 rfl ?_
          refine g_imul (pc := 97) C dX11_fetch_97 (z := nI (8 * (24 * r + t))) (pk_mul _ _) ?_
          refine g_iadd (pc := 98) C dX11_fetch_98 (z := nI (1920 + (8 * (24 * r + t)))) (nI_add _ _) ?_
          refine g_iload (pc := 99) C dX11_fetch_99 5 rfl ?_
          refine g_iadd (pc := 101) C dX11_fetch_101 (z := nI (1920 + (8 * (24 * r + t)) + b)) (nI_add _ _) ?_
          refine g_iconst (pc := 102) C dX11_fetch_102 (v := nI 1) rfl ?_
          refine g_iadd (pc := 103) C dX11_fetch_103 (z := nI (1920 + (8 * (24 * r + t)) + b + 1)) (nI_add _ _) ?_
          refine g_iald (pc := 104) C hz57 (nI_clamp (by omega)) (nI_in0 (n := 10511) (by omega) (by omega)) dX11_fetch_104 (x := nI ((miL (nMi (gN σ r) t)).getD (b + 1) 0)) (zsh hY57 (by omega) (zne hZ_1 (by omega) (RZ.rMt hR (r := r) (t := t) (k := (b + 1)) (by omega) (by omega) (by omega) (by omega)))) ?_
          refine g_iast (pc := 105) C hz57 (nI_clamp (by omega)) (nI_in0 (n := 10511) (by omega) (by omega)) dX11_fetch_105 ?_
          obtain ⟨Z_37, hZ_37⟩ : ∃ yZ : Nat → Int32, yZ = upd Y57 (1920 + (8 * (24 * r + t)) + b) (nI ((miL (nMi (gN σ r) t)).getD (b + 1) 0)) := ⟨_, rfl⟩
          show V K 0 0 P A (va_up gl57 (m + 1) (ai 0 10511 (upd Y57 (1920 + (8 * (24 * r + t)) + b) (nI ((miL (nMi (gN σ r) t)).getD (b + 1) 0))))) [(0, .ref (A m)), (1, .int (nI r)), (2, .int (nI t)), (3, .int (nI (24 * r + t))), (4, .int (nI ((miL (nMi (gN σ r) t)).getD 0 0))), (5, .int (nI b))] 106 []
          rw [← hZ_37]
          obtain ⟨g_38, hg_38⟩ : ∃ yM : pM, yM = va_up gl57 (m + 1) (ai 0 10511 Z_37) := ⟨_, rfl⟩
          show V K 0 0 P A (va_up gl57 (m + 1) (ai 0 10511 Z_37)) [(0, .ref (A m)), (1, .int (nI r)), (2, .int (nI t)), (3, .int (nI (24 * r + t))), (4, .int (nI ((miL (nMi (gN σ r) t)).getD 0 0))), (5, .int (nI b))] 106 []
          rw [← hg_38]
          have h_39 : g_38 m = ob 11 [.ref (A (m + 1)), .int (nI (gZ σ).1), .int (nI (gZ σ).2.1), .int (nI (gZ σ).2.2.1), .int (nI (gZ σ).2.2.2.1), .int (nI (gZ σ).2.2.2.2), .ref (A (m + 2)), .int (nI cs.length), .ref (A (m + 3)), .int (nI lm), .ref (A (m + 4)), .ref (A (m + 5)), .int (nI gm), .ref (A (m + 6)), .ref (A (m + 7)), .ref (A (m + 8))] := by rw [hg_38, va_up_ne _ _ (show m ≠ m + 1 from by omega)]; exact h_7
          have h_40 : g_38 (m + 1) = ai 0 10511 Z_37 := by rw [hg_38]; exact va_up_self _ _ _
          have hf_41 : Fr gl57 g_38 (m + 1) (m + 1 + 1) := by rw [hg_38]; exact Fr.up (by omega) (by omega)
          have hp_42 := SO.fr hp_8 hf_41 (by omega)
          refine g_iinc (pc := 106) C dX11_fetch_106 (by decide) 5 rfl (v := nI (b + 1)) (nI_i1 _) (lv' := [(0, .ref (A m)), (1, .int (nI r)), (2, .int (nI t)), (3, .int (nI (24 * r + t))), (4, .int (nI ((miL (nMi (gN σ r) t)).getD 0 0))), (5, .int (nI (b + 1)))]) [1, 2, 3, 4, 5, 0] rfl ?_
          refine g_goto (pc := 109) C dX11_fetch_109 (tgt := 57) (by decide) ?_
          rw [show g_38 = va_up g_2 (m + 1) (ai 0 10511 (sh Z_1 (1920 + 8 * (24 * r + t) + 0) (1920 + 8 * (24 * r + t) + (b + 1)))) from by rw [hg_38, hgl57, bx_uu, hZ_37, hY57, zsh_s (1920 + 8 * (24 * r + t) + b + 1) (1920 + 8 * (24 * r + t) + (b + 1)) (by omega) (by omega) (by omega) (zne hZ_1 (by omega) (RZ.rMt hR (r := r) (t := t) (k := b + 1) (by omega) (by omega) (by omega) (by omega)))]]
          exact ih (b + 1) (by omega) (by omega)
    rw [show g_2 = va_up g_2 (m + 1) (ai 0 10511 (sh Z_1 (1920 + 8 * (24 * r + t) + 0) (1920 + 8 * (24 * r + t) + 0))) from (va_up_id (by rw [h_4, sh_0])).symm]
    exact lp_57 (_ + 1) 0 (by omega) (Nat.lt_succ_self _)
  ·
    have c_10 : (miL (nMi (gN σ r) t)).length = 0 := (nI_eq (by omega) (by omega)).mp c_10
    refine g_aload_n (pc := 13) C dX11_fetch_13 0 rfl ?_
    refine g_get (pc := 14) C (j := 0) hO rfl rfl (by decide) u_852 dX11_fetch_14 ?_
    refine g_sipush (pc := 17) C dX11_fetch_17 (v := nI 768) rfl ?_
    refine g_iload_n (pc := 20) C dX11_fetch_20 3 rfl ?_
    refine g_iadd (pc := 21) C dX11_fetch_21 (z := nI (768 + (24 * r + t))) (nI_add _ _) ?_
    refine g_iconst (pc := 22) C dX11_fetch_22 (v := nI 0) rfl ?_
    refine g_iast (pc := 23) C hZ (nI_clamp (by omega)) (nI_in0 (n := 10511) (by omega) (by omega)) dX11_fetch_23 ?_
    obtain ⟨Z_43, hZ_43⟩ : ∃ yZ : Nat → Int32, yZ = upd Z (768 + (24 * r + t)) (nI 0) := ⟨_, rfl⟩
    show V K 0 0 P A (va_up g (m + 1) (ai 0 10511 (upd Z (768 + (24 * r + t)) (nI 0)))) [(0, .ref (A m)), (1, .int (nI r)), (2, .int (nI t)), (3, .int (nI (24 * r + t)))] 24 []
    rw [← hZ_43]
    obtain ⟨g_44, hg_44⟩ : ∃ yM : pM, yM = va_up g (m + 1) (ai 0 10511 Z_43) := ⟨_, rfl⟩
    show V K 0 0 P A (va_up g (m + 1) (ai 0 10511 Z_43)) [(0, .ref (A m)), (1, .int (nI r)), (2, .int (nI t)), (3, .int (nI (24 * r + t)))] 24 []
    rw [← hg_44]
    have h_45 : g_44 m = ob 11 [.ref (A (m + 1)), .int (nI (gZ σ).1), .int (nI (gZ σ).2.1), .int (nI (gZ σ).2.2.1), .int (nI (gZ σ).2.2.2.1), .int (nI (gZ σ).2.2.2.2), .ref (A (m + 2)), .int (nI cs.length), .ref (A (m + 3)), .int (nI lm), .ref (A (m + 4)), .ref (A (m + 5)), .int (nI gm), .ref (A (m + 6)), .ref (A (m + 7)), .ref (A (m + 8))] := by rw [hg_44, va_up_ne _ _ (show m ≠ m + 1 from by omega)]; exact hO
    have h_46 : g_44 (m + 1) = ai 0 10511 Z_43 := by rw [hg_44]; exact va_up_self _ _ _
    have hf_47 : Fr g g_44 (m + 1) (m + 1 + 1) := by rw [hg_44]; exact Fr.up (by omega) (by omega)
    have hp_48 := SO.fr hl3 hf_47 (by omega)
    exact g_vret (pc := 24) C R ⟨rfl, rfl, rfl, ⟨_, h_46, by rw [ftc_e (by rw [show p.2 = (miL (nMi (gN σ r) t)) from by rw [hp]; rfl]; exact c_10)]; exact RZ.mi1 hR hr ht c_10 hZ_43⟩, fun k hk => by rw [hg_44, va_up_ne _ _ (by omega)]⟩ (by decide) (by decide) dX11_fetch_24
