-- PART 12: tales: what a tale's letters do, the tick
/-- node i hears tale t by h hops -/
def lrn (σ : Sg) (i t h : Nat) : Sg := sNd σ i (sMi (sHo (gN σ i) (va_up (nHo (gN σ i)) t (some h))) (va_up (nMi (gN σ i)) t none))
/-- the eager ones of l are told, the one who told it left out -/
def tfE (i t h m : Nat) (s : Option Nat) (l : List Nat) (σ : Sg) : Sg := l.foldl (fun σ q => if s = some q ∨ m.testBit q = true then σ else snd σ i q 9 t (h + 1) []) σ
/-- the lazy ones of l get a note -/
def tfL (i t m : Nat) (s : Option Nat) (l : List Nat) (σ : Sg) : Sg := l.foldl (fun σ q => if s = some q ∨ m.testBit q = false then σ else snd σ i q 10 t 0 []) σ
def her2 (σ : Sg) (i t h : Nat) (s : Option Nat) : Sg := tfL i t (nLz (gN σ i)) s (nAc (gN σ i)) (tfE i t h (nLz (gN σ i)) s (nAc (gN σ i)) σ)
def her (σ : Sg) (i t h : Nat) (s : Option Nat) : Sg := her2 (lrn σ i t h) i t h s
def tel (σ : Sg) (i s t h : Nat) : Sg :=
  if ¬ s ∈ nAc (gN σ i) then σ
  else if (nHo (gN σ i) t).isSome = true then snd (lzS σ i s) i s 11 0 0 [] else her (egS σ i s) i t h (some s)
/-- a note of tale t by s -/
def ntm (σ : Sg) (m : Mi) (s : Nat) : Mi := match m with
  | none => some (gTi σ + nI (gZ σ).2.2.2.2, [s])
  | some p => some (p.1, if s ∈ p.2 then p.2 else p.2 ++ [s])
def nto (σ : Sg) (i s t : Nat) : Sg :=
  if ¬ s ∈ nAc (gN σ i) ∨ (nHo (gN σ i) t).isSome = true then σ else sNd σ i (sMi (gN σ i) (va_up (nMi (gN σ i)) t (ntm σ (nMi (gN σ i) t) s)))
def cho (σ : Sg) (i s t y : Nat) : Sg :=
  if ¬ s ∈ nAc (gN σ i) then σ
  else if y = 0 then lzS σ i s
  else match nHo (gN (egS σ i s) i) t with
    | none => egS σ i s
    | some h => snd (egS σ i s) i s 9 t (h + 1) []
theorem tfE_s {i t h m k : Nat} {s : Option Nat} {l : List Nat} {σ : Sg} (hk : k < l.length) : tfE i t h m s (l.take (k + 1)) σ = if s = some (l.getD k 0) ∨ m.testBit (l.getD k 0) = true then tfE i t h m s (l.take k) σ else snd (tfE i t h m s (l.take k) σ) i (l.getD k 0) 9 t (h + 1) [] := foldl_tk hk
theorem tfL_s {i t m k : Nat} {s : Option Nat} {l : List Nat} {σ : Sg} (hk : k < l.length) : tfL i t m s (l.take (k + 1)) σ = if s = some (l.getD k 0) ∨ m.testBit (l.getD k 0) = false then tfL i t m s (l.take k) σ else snd (tfL i t m s (l.take k) σ) i (l.getD k 0) 10 t 0 [] := foldl_tk hk
theorem NW.lrn {B K T i t h : Nat} {z : Sz} {d : Nd} (n : NW B K T z i d) (hh : h ≤ B) (ht : t < T) : NW B K T z i (sMi (sHo d (va_up (nHo d) t (some h))) (va_up (nMi d) t none)) := by
  obtain ⟨a1, a2, a3, a4, a5, a6, a7, a8, a9, a10, a11, a12⟩ := n
  refine ⟨a1, a2, a3, a4, a5, a6, a7, a8, fun t2 h2 e => ?_, fun t2 h2 tl e => ?_, fun t2 e => ?_, a12⟩
  · have e : va_up (nHo d) t (some h) t2 = some h2 := e
    by_cases q : t2 = t
    · subst q
      rw [va_up_self] at e
      cases e
      exact ⟨hh, ht⟩
    · rw [va_up_ne _ _ q] at e
      exact a9 t2 h2 e
  · have e : va_up (nMi d) t none t2 = some (h2, tl) := e
    by_cases q : t2 = t
    · subst q
      rw [va_up_self] at e
      cases e
    · rw [va_up_ne _ _ q] at e
      exact a10 t2 h2 tl e
  · have e : (va_up (nHo d) t (some h) t2).isSome := e
    show va_up (nMi d) t none t2 = none
    by_cases q : t2 = t
    · subst q
      rw [va_up_self]
    · rw [va_up_ne _ _ q] at e ⊢
      exact a11 t2 e
theorem SW.lrn {B i t h : Nat} {cs : List Nat} {σ : Sg} (hS : SW B cs σ) (hi : i < gK σ) (hh : h ≤ B) (ht : t < gT σ) : SW B cs (lrn σ i t h) := SW.sn hS (NW.lrn (hS.nw hi) hh ht)
theorem NW.up {B B' K T i : Nat} {z : Sz} {d : Nd} (n : NW B K T z i d) (hB : B ≤ B') : NW B' K T z i d := by
  obtain ⟨a1, a2, a3, a4, a5, a6, a7, a8, a9, a10, a11, a12⟩ := n
  exact ⟨a1, a2, a3, a4, a5, a6, a7, a8, fun t h e => ⟨Nat.le_trans (a9 t h e).1 hB, (a9 t h e).2⟩, a10, a11, a12⟩
theorem LW.up {B B' K T : Nat} {t : Lt} (n : LW B K T t) (hB : B ≤ B') : LW B' K T t := by
  obtain ⟨a1, a2, a3, a4, a5, a6, a7, a8, a9, a10⟩ := n
  exact ⟨a1, a2, a3, a4, a5, by omega, a7, a8, fun e => by have := a9 e; omega, a10⟩
theorem SW.up {B B' : Nat} {cs : List Nat} {σ : Sg} (h : SW B cs σ) (hB : B ≤ B') (h2 : B' < 2 ^ 30) : SW B' cs σ :=
  ⟨h2, h.2.1, h.2.2.1, h.2.2.2.1, fun i hi => (h.nw hi).up hB, fun t ht => (h.2.2.2.2.2.1 t ht).up hB, h.2.2.2.2.2.2⟩
theorem NW.lz {B K T i m : Nat} {z : Sz} {d : Nd} (n : NW B K T z i d) (hm : m < 65536) (h : ∀ q, m.testBit q = true → q ∈ nAc d) : NW B K T z i (sLz d m) := by
  obtain ⟨a1, a2, a3, a4, a5, a6, a7, a8, a9, a10, a11, a12⟩ := n
  exact ⟨⟨hm, a1.2⟩, a2, a3, a4, a5, a6, a7, h, a9, a10, a11, a12⟩
theorem bo_lt {m q : Nat} (hm : m < 65536) : bo m q < 65536 := Nat.lt_of_le_of_lt Nat.and_le_left hm
theorem bo_bit {m q x : Nat} (h : (bo m q).testBit x = true) : m.testBit x = true := by
  simp only [bo, Nat.testBit_and, Bool.and_eq_true] at h
  exact h.1
theorem SW.egS {B i q : Nat} {cs : List Nat} {σ : Sg} (h : SW B cs σ) (hi : i < gK σ) : SW B cs (egS σ i q) :=
  SW.sn h (NW.lz (h.nw hi) (bo_lt (h.nw hi).1.1) (fun x hx => (h.nw hi).2.2.2.2.2.2.2.1 x (bo_bit hx)))
theorem SW.lzS {B i q : Nat} {cs : List Nat} {σ : Sg} (h : SW B cs σ) (hi : i < gK σ) (hq : q ∈ nAc (gN σ i)) : SW B cs (lzS σ i q) := by
  have hk := h.2.1
  have h16 := (h.nw hi).2.1 q hq
  refine SW.sn h (NW.lz (h.nw hi) (or_lt (h.nw hi).1.1 (by omega)) (fun x hx => ?_))
  rw [Nat.testBit_or, Bool.or_eq_true] at hx
  rcases hx with hx | hx
  · exact (h.nw hi).2.2.2.2.2.2.2.1 x hx
  · rw [Nat.testBit_two_pow] at hx
    exact of_decide_eq_true hx ▸ hq
theorem lw_t {B K T f t k x y : Nat} (h1 : f < K) (h2 : t < K) (hT : T ≤ 24) (h5 : x < T) (h3 : (k = 9 ∧ y ≤ B + 1) ∨ (k = 10 ∧ y = 0) ∨ (k = 11 ∧ y = 1)) : LW B K T (f, t, k, x, y, []) := lw_mk h1 h2 (by omega) (by omega) (by omega) (by omega) (by omega) (by omega) (by omega) (fun _ h => by cases h) (by simp)
theorem lw_c {B K T f t : Nat} (h1 : f < K) (h2 : t < K) : LW B K T (f, t, 11, 0, 0, []) := lw_mk h1 h2 (by omega) (by omega) (by omega) (by omega) (by omega) (by omega) (by omega) (fun _ h => by cases h) (by simp)
theorem lzS_K {σ : Sg} {i q : Nat} : gK (lzS σ i q) = gK σ := rfl
theorem tfE_K {i t h m : Nat} {s : Option Nat} {l : List Nat} : ∀ {σ : Sg}, gK (tfE i t h m s l σ) = gK σ := by
  induction l with
  | nil => intro σ; rfl
  | cons x l ih =>
    intro σ
    refine ih.trans ?_
    dsimp only
    split
    · rfl
    · exact snd_K
theorem tfE_T {i t h m : Nat} {s : Option Nat} {l : List Nat} : ∀ {σ : Sg}, gT (tfE i t h m s l σ) = gT σ := by
  induction l with
  | nil => intro σ; rfl
  | cons x l ih =>
    intro σ
    refine ih.trans ?_
    dsimp only
    split
    · rfl
    · exact snd_T
theorem tfE_Z {i t h m : Nat} {s : Option Nat} {l : List Nat} : ∀ {σ : Sg}, gZ (tfE i t h m s l σ) = gZ σ := by
  induction l with
  | nil => intro σ; rfl
  | cons x l ih =>
    intro σ
    refine ih.trans ?_
    dsimp only
    split
    · rfl
    · exact snd_Z
theorem tfL_K {i t m : Nat} {s : Option Nat} {l : List Nat} : ∀ {σ : Sg}, gK (tfL i t m s l σ) = gK σ := by
  induction l with
  | nil => intro σ; rfl
  | cons x l ih =>
    intro σ
    refine ih.trans ?_
    dsimp only
    split
    · rfl
    · exact snd_K
theorem tfL_T {i t m : Nat} {s : Option Nat} {l : List Nat} : ∀ {σ : Sg}, gT (tfL i t m s l σ) = gT σ := by
  induction l with
  | nil => intro σ; rfl
  | cons x l ih =>
    intro σ
    refine ih.trans ?_
    dsimp only
    split
    · rfl
    · exact snd_T
theorem tfL_Z {i t m : Nat} {s : Option Nat} {l : List Nat} : ∀ {σ : Sg}, gZ (tfL i t m s l σ) = gZ σ := by
  induction l with
  | nil => intro σ; rfl
  | cons x l ih =>
    intro σ
    refine ih.trans ?_
    dsimp only
    split
    · rfl
    · exact snd_Z
theorem her_K {σ : Sg} {i t h : Nat} {s : Option Nat} : gK (her σ i t h s) = gK σ := tfL_K.trans tfE_K
theorem her_T {σ : Sg} {i t h : Nat} {s : Option Nat} : gT (her σ i t h s) = gT σ := tfL_T.trans tfE_T
theorem her_Z {σ : Sg} {i t h : Nat} {s : Option Nat} : gZ (her σ i t h s) = gZ σ := tfL_Z.trans tfE_Z
abbrev rm_X7_send : Room := { frames := 3, cells := 0, slots := 0, locals := 71 }
theorem Y_X7_send : pY yX7_send cX7_send 6 (Option.none : Option Jvm.ClassFile.FieldType) := ⟨u_524, u_525, u_12, u_526⟩
theorem N_X7_send : yX7_send.cls ≠ "java/lang/invoke/MethodHandle" ∧ yX7_send.cls ≠ "java/lang/invoke/VarHandle" ∧ (parseMethodDescriptor yX7_send.desc).map (fun d => d.parameters.length) = some 5 := by decide +kernel
set_option maxRecDepth 20000 in
set_option maxHeartbeats 4000000 in
theorem c_X7_send (A : Nat → Nat) (P : List Nat) (g : pM) (w : Nat) {σ : Sg} (i t k x y : Nat) (hi : i < gK σ) (ht : t < gK σ) (hk : k ≤ 12) (hx : x < 2 ^ 31) (hy : y < 2 ^ 31) (hV : g (w + 15007) = ob 7 [.ref (A w)]) (hW : WD A g w (w + 15005) σ) : PM yX7_send cX7_send 6 (Option.none : Option Jvm.ClassFile.FieldType) rm_X7_send [.ref (A (w + 15007)), .ref (A (w + 100 + 100 * i)), .int (nI t), .int (nI k), .int (nI x), .int (nI y)] P A g (fun v g' => v = none ∧ WD A g' w (w + 15005) (snd σ i t k x y []) ∧ FrR g g' w) := by
  have hK := hW.k16
  refine px_intro (by decide +kernel) (Nat.le_of_ble_eq_true rfl) (fun K sz C R => ?_)
  show V K 0 0 P A g [(0, .ref (A (w + 15007))), (1, .ref (A (w + 100 + 100 * i))), (2, .int (nI t)), (3, .int (nI k)), (4, .int (nI x)), (5, .int (nI y))] 0 []
  refine g_aload_n (pc := 0) C dX7_send_0 0 rfl ?_
  refine g_get (pc := 1) C (j := 0) hV rfl rfl (by decide) u_319 dX7_send_1 ?_
  refine g_aload_n (pc := 4) C dX7_send_4 1 rfl ?_
  refine g_get (pc := 5) C (j := 0) (WD.nd (i := i) hW (by omega)).1 rfl rfl (by decide) u_130 dX7_send_5 ?_
  refine g_iload_n (pc := 8) C dX7_send_8 2 rfl ?_
  refine g_iload_n (pc := 9) C dX7_send_9 3 rfl ?_
  refine g_iload (pc := 10) C dX7_send_10 4 rfl ?_
  refine g_iload (pc := 12) C dX7_send_12 5 rfl ?_
  refine g_callV (pc := 14) C (As := [.int (nI i), .int (nI t), .int (nI k), .int (nI x), .int (nI y)]) (rest := []) (b := w) (c_X9_send A P g w i t k x y (by omega) (by omega) (by omega) (by omega) (by omega) hW) (WD.wb hW).1 rfl rfl Y_X9_send u_527 N_X9_send ⟨by decide, by decide⟩ ⟨by decide, by decide⟩ (Nat.le_of_ble_eq_true rfl) rfl dX7_send_14 ?_
  rintro v0 _ _ g_1 ⟨rfl, rfl, hf_2, hcase⟩
  have hW_3 : WD A g_1 w (w + 15005) (snd σ i t k x y []) := by rcases hcase with ⟨_, _, q⟩ | ⟨_, _, _, _, _, q, _⟩; exact q; exact q
  obtain ⟨vv, hvc, hvv⟩ : ∃ vv : Value, vv.category = 1 ∧ v0 = some vv := by rcases hcase with ⟨_, e, _⟩ | ⟨_, _, _, e, _, _, _⟩; exact ⟨_, rfl, e⟩; exact ⟨_, rfl, e⟩
  subst hvv
  clear hcase
  have hf_4 : Fr g g_1 (w + 3) (w + 3500) := FrR.fr hf_2
  have h_5 := hf_4.at (by omega) hV
  show V K 0 0 P A g_1 [(0, .ref (A (w + 15007))), (1, .ref (A (w + 100 + 100 * i))), (2, .int (nI t)), (3, .int (nI k)), (4, .int (nI x)), (5, .int (nI y))] 17 [vv]
  refine g_pop (pc := 17) C dX7_send_17 hvc ?_
  exact g_vret (pc := 18) C R ⟨rfl, rfl, rfl, hW_3, fun k hk => by rw [hf_2 k (by omega)]⟩ (by decide) (by decide) dX7_send_18
abbrev rm_X7_hear : Room := { frames := 4, cells := 0, slots := 0, locals := 96 }
theorem Y_X7_hear : pY yX7_hear cX7_hear 7 (Option.none : Option Jvm.ClassFile.FieldType) := ⟨u_511, u_512, u_12, u_513⟩
theorem N_X7_hear : yX7_hear.cls ≠ "java/lang/invoke/MethodHandle" ∧ yX7_hear.cls ≠ "java/lang/invoke/VarHandle" ∧ (parseMethodDescriptor yX7_hear.desc).map (fun d => d.parameters.length) = some 4 := by decide +kernel
set_option maxRecDepth 20000 in
set_option maxHeartbeats 4000000 in
theorem c_X7_hear (A : Nat → Nat) (P : List Nat) (g : pM) (w : Nat) {B : Nat} {cs : List Nat} {σ : Sg} (i t h : Nat) (s : Option Nat) (hi : i < gK σ) (ht : t < gT σ) (hh : h ≤ B) (hs16 : ∀ x, s = some x → x < 16) (hS : SW B cs σ) (hV : g (w + 15007) = ob 7 [.ref (A w)]) (hW : WD A g w (w + 15005) σ) : PM yX7_hear cX7_hear 7 (Option.none : Option Jvm.ClassFile.FieldType) rm_X7_hear [.ref (A (w + 15007)), .ref (A (w + 100 + 100 * i)), .int (nI t), .int (nI h), .int (onv s)] P A g (fun v g' => v = none ∧ WD A g' w (w + 15005) (her σ i t h s) ∧ FrV g g' w) := by
  have hK := hS.2.1
  obtain ⟨hz1, hz2, hz3, hz4, hz5, hz6, hz7, hz8, hz9⟩ := hS.2.2.2.1
  have hB := hS.1
  have ht24 := hS.2.2.1
  refine px_intro (by decide +kernel) (Nat.le_of_ble_eq_true rfl) (fun K sz C R => ?_)
  show V K 0 0 P A g [(0, .ref (A (w + 15007))), (1, .ref (A (w + 100 + 100 * i))), (2, .int (nI t)), (3, .int (nI h)), (4, .int (onv s))] 0 []
  refine g_aload_n (pc := 0) C dX7_hear_0 1 rfl ?_
  refine g_iload_n (pc := 1) C dX7_hear_1 2 rfl ?_
  refine g_iload_n (pc := 2) C dX7_hear_2 3 rfl ?_
  refine g_callV (pc := 3) C (As := [.int (nI t), .int (nI h)]) (rest := []) (b := (w + 100 + 100 * i)) (c_X3_learn A P g (w + 100 + 100 * i) t h (by omega) (WD.nd (i := i) hW (by omega))) (WD.nd (i := i) hW (by omega)).1 rfl rfl Y_X3_learn u_514 N_X3_learn ⟨by decide, by decide⟩ ⟨by decide, by decide⟩ (Nat.le_of_ble_eq_true rfl) rfl dX7_hear_3 ?_
  rintro _ _ _ g_1 ⟨rfl, rfl, rfl, hn_2, hf_3⟩
  have hW_4 := WD.sn (i := i) hW (by omega) (hf_3.mo (by omega) (by omega)) hn_2
  have h_5 := hf_3.at (by omega) hV
  obtain ⟨σ6, hσ6⟩ : ∃ sM : Sg, sM = sNd σ i (sMi (sHo (gN σ i) (va_up (nHo (gN σ i)) t (some h))) (va_up (nMi (gN σ i)) t none)) := ⟨_, rfl⟩
  have hW_7 : WD A g_1 w (w + 15005) σ6 := by rw [hσ6]; exact hW_4
  clear hW_4
  have hK_σ6 : gK σ6 = gK σ := (congrArg gK hσ6).trans (rfl : gK σ = gK σ)
  have hT_σ6 : gT σ6 = gT σ := (congrArg gT hσ6).trans (rfl : gT σ = gT σ)
  have hZ_σ6 : gZ σ6 = gZ σ := (congrArg gZ hσ6).trans (rfl : gZ σ = gZ σ)
  show V K 0 0 P A g_1 [(0, .ref (A (w + 15007))), (1, .ref (A (w + 100 + 100 * i))), (2, .int (nI t)), (3, .int (nI h)), (4, .int (onv s))] 6 []
  obtain ⟨σ1, hs1⟩ : ∃ sM : Sg, sM = σ6 := ⟨_, rfl⟩
  rw [← hs1] at hW_7
  rw [← hs1] at hK_σ6
  rw [← hs1] at hT_σ6
  rw [← hs1] at hZ_σ6
  have hS1 : SW B cs σ1 := by rw [hs1, hσ6]; exact SW.lrn hS hi hh ht
  refine g_iconst (pc := 6) C dX7_hear_6 (v := nI 0) rfl ?_
  refine g_istore (pc := 7) C dX7_hear_7 (by decide) (lv' := [(0, .ref (A (w + 15007))), (1, .ref (A (w + 100 + 100 * i))), (2, .int (nI t)), (3, .int (nI h)), (4, .int (onv s)), (5, .int (nI 0))]) [1, 2, 3, 4, 5, 0] rfl ?_
  have lp_9 : ∀ (fuel : Nat) (k : Nat) (hk : k ≤ (nAc (gN σ1 i)).length) (σ2 : Sg) (he : σ2 = tfE i t h (nLz (gN σ1 i)) s ((nAc (gN σ1 i)).take k) σ1) (hN : gN σ2 = gN σ1) (hS2 : SW B cs σ2) (hK2 : gK σ2 = gK σ) (hT2 : gT σ2 = gT σ) (hZ2 : gZ σ2 = gZ σ) (gl : pM) (hVl : gl (w + 15007) = ob 7 [.ref (A w)]) (hWl : WD A gl w (w + 15005) σ2) (hf : FrV g gl w), (nAc (gN σ1 i)).length - k < fuel → V K 0 0 P A gl [(0, .ref (A (w + 15007))), (1, .ref (A (w + 100 + 100 * i))), (2, .int (nI t)), (3, .int (nI h)), (4, .int (onv s)), (5, .int (nI k))] 9 [] := by
    intro fuel
    induction fuel with
    | zero => intro k hk σ2 he hN hS2 hK2 hT2 hZ2 gl hVl hWl hf hμ; exact absurd hμ (Nat.not_lt_zero _)
    | succ fuel ih =>
      intro k hk σ2 he hN hS2 hK2 hT2 hZ2 gl hVl hWl hf hμ
      have hle2 : (nAc (gN σ2 i)).length ≤ 5 := (hWl.nd (i := i) (by omega)).2.1.le
      have hlen2 : (nAc (gN σ2 i)).length = (nAc (gN σ1 i)).length := by rw [hN]
      have hw2 : ndW (gN σ2 i) := SW.dw hS2 (i := i) (by omega)
      refine g_iload (pc := 9) C dX7_hear_9 5 rfl ?_
      refine g_aload_n (pc := 11) C dX7_hear_11 1 rfl ?_
      refine g_get (pc := 12) C (j := 2) (WD.nd (i := i) hWl (by omega)).1 rfl rfl (by decide) u_138 dX7_hear_12 ?_
      refine g_get (pc := 15) C (j := 1) (NLN.o (WD.nd (i := i) hWl (by omega)).2.1) rfl rfl (by decide) u_96 dX7_hear_15 ?_
      refine g_icmp_ge (pc := 18) C dX7_hear_18 (tgt := 67) (by decide) (fun c_18 => ?_) (fun c_18 => ?_)
      ·
        have c_18 : (nAc (gN σ2 i)).length ≤ k := (nI_leI (by omega) (by omega)).mp c_18
        refine g_iconst (pc := 67) C dX7_hear_67 (v := nI 0) rfl ?_
        refine g_istore (pc := 68) C dX7_hear_68 (by decide) (lv' := [(0, .ref (A (w + 15007))), (1, .ref (A (w + 100 + 100 * i))), (2, .int (nI t)), (3, .int (nI h)), (4, .int (onv s)), (5, .int (nI 0))]) [1, 2, 3, 4, 5, 0] rfl ?_
        have lp_70 : ∀ (fuel : Nat) (k : Nat) (hk : k ≤ (nAc (gN σ1 i)).length) (σ2 : Sg) (he : σ2 = tfL i t (nLz (gN σ1 i)) s ((nAc (gN σ1 i)).take k) (tfE i t h (nLz (gN σ1 i)) s (nAc (gN σ1 i)) σ1)) (hN : gN σ2 = gN σ1) (hS2 : SW B cs σ2) (hK2 : gK σ2 = gK σ) (hT2 : gT σ2 = gT σ) (hZ2 : gZ σ2 = gZ σ) (gl : pM) (hVl : gl (w + 15007) = ob 7 [.ref (A w)]) (hWl : WD A gl w (w + 15005) σ2) (hf : FrV g gl w), (nAc (gN σ1 i)).length - k < fuel → V K 0 0 P A gl [(0, .ref (A (w + 15007))), (1, .ref (A (w + 100 + 100 * i))), (2, .int (nI t)), (3, .int (nI h)), (4, .int (onv s)), (5, .int (nI k))] 70 [] := by
          intro fuel
          induction fuel with
          | zero => intro k hk σ2 he hN hS2 hK2 hT2 hZ2 gl hVl hWl hf hμ; exact absurd hμ (Nat.not_lt_zero _)
          | succ fuel ih =>
            intro k hk σ2 he hN hS2 hK2 hT2 hZ2 gl hVl hWl hf hμ
            have hle2 : (nAc (gN σ2 i)).length ≤ 5 := (hWl.nd (i := i) (by omega)).2.1.le
            have hlen2 : (nAc (gN σ2 i)).length = (nAc (gN σ1 i)).length := by rw [hN]
            have hw2 : ndW (gN σ2 i) := SW.dw hS2 (i := i) (by omega)
            refine g_iload (pc := 70) C dX7_hear_70 5 rfl ?_
            refine g_aload_n (pc := 72) C dX7_hear_72 1 rfl ?_
            refine g_get (pc := 73) C (j := 2) (WD.nd (i := i) hWl (by omega)).1 rfl rfl (by decide) u_138 dX7_hear_73 ?_
            refine g_get (pc := 76) C (j := 1) (NLN.o (WD.nd (i := i) hWl (by omega)).2.1) rfl rfl (by decide) u_96 dX7_hear_76 ?_
            refine g_icmp_ge (pc := 79) C dX7_hear_79 (tgt := 126) (by decide) (fun c_79 => ?_) (fun c_79 => ?_)
            ·
              have c_79 : (nAc (gN σ2 i)).length ≤ k := (nI_leI (by omega) (by omega)).mp c_79
              exact g_vret (pc := 126) C R ⟨rfl, rfl, rfl, by rw [show her σ i t h s = σ2 from by rw [he, show (nAc (gN σ1 i)).take k = (nAc (gN σ1 i)) from List.take_of_length_le (by omega), hs1, hσ6]; rfl]; exact hWl, hf⟩ (by decide) (by decide) dX7_hear_126
            ·
              have c_79 : ¬ (nAc (gN σ2 i)).length ≤ k := fun h => c_79 ((nI_leI (a := (nAc (gN σ2 i)).length) (b := k) (by omega) (by omega)).mpr h)
              refine g_aload_n (pc := 82) C dX7_hear_82 1 rfl ?_
              refine g_get (pc := 83) C (j := 2) (WD.nd (i := i) hWl (by omega)).1 rfl rfl (by decide) u_138 dX7_hear_83 ?_
              refine g_iload (pc := 86) C dX7_hear_86 5 rfl ?_
              refine g_callV (pc := 88) C (As := [.int (nI k)]) (rest := []) (b := (w + 100 + 100 * i + 1)) (n_X4_at A P gl (w + 100 + 100 * i + 1) k (by omega) (WD.nd (i := i) hWl (by omega)).2.1) (NLN.o (WD.nd (i := i) hWl (by omega)).2.1) rfl rfl Y_X4_at u_518 N_X4_at ⟨by decide, by decide⟩ ⟨by decide, by decide⟩ (Nat.le_of_ble_eq_true rfl) rfl dX7_hear_88 ?_
              rintro _ _ _ _ ⟨rfl, rfl, rfl, rfl⟩
              show V K 0 0 P A gl [(0, .ref (A (w + 15007))), (1, .ref (A (w + 100 + 100 * i))), (2, .int (nI t)), (3, .int (nI h)), (4, .int (onv s)), (5, .int (nI k))] 91 [.int (nI ((nAc (gN σ2 i)).getD k 0))]
              have hqK : (nAc (gN σ2 i)).getD k 0 < gK σ := by have := (SW.nw hS2 (i := i) (by omega)).2.1 _ (getD_mem (show k < (nAc (gN σ2 i)).length by omega)); omega
              have hq16 : (nAc (gN σ2 i)).getD k 0 < 16 := by omega
              refine g_istore (pc := 91) C dX7_hear_91 (by decide) (lv' := [(0, .ref (A (w + 15007))), (1, .ref (A (w + 100 + 100 * i))), (2, .int (nI t)), (3, .int (nI h)), (4, .int (onv s)), (5, .int (nI k)), (6, .int (nI ((nAc (gN σ2 i)).getD k 0)))]) [1, 2, 3, 4, 5, 6, 0] rfl ?_
              refine g_iload (pc := 93) C dX7_hear_93 6 rfl ?_
              refine g_iload (pc := 95) C dX7_hear_95 4 rfl ?_
              refine g_icmp_eq (pc := 97) C dX7_hear_97 (tgt := 120) (by decide) (fun c_97 => ?_) (fun c_97 => ?_)
              ·
                refine g_iinc (pc := 120) C dX7_hear_120 (by decide) 5 rfl (v := nI (k + 1)) (nI_i1 _) (lv' := [(0, .ref (A (w + 15007))), (1, .ref (A (w + 100 + 100 * i))), (2, .int (nI t)), (3, .int (nI h)), (4, .int (onv s)), (5, .int (nI (k + 1))), (6, .int (nI ((nAc (gN σ2 i)).getD k 0)))]) [1, 2, 3, 4, 5, 0, 6] rfl ?_
                refine g_goto (pc := 123) C dX7_hear_123 (tgt := 70) (by decide) ?_
                refine g_sub [0, 1, 2, 3, 4, 5] rfl ?_
                exact ih (k + 1) (by omega) σ2 (by rw [he]; exact ((tfL_s (show k < (nAc (gN σ1 i)).length by omega)).trans (if_pos (Or.inl (by rw [← hN]; exact (wof_n hs16 hq16).mp c_97)))).symm) hN hS2 hK2 hT2 hZ2 gl hVl hWl hf (by omega)
              ·
                refine g_aload_n (pc := 100) C dX7_hear_100 1 rfl ?_
                refine g_iload (pc := 101) C dX7_hear_101 6 rfl ?_
                refine g_callV (pc := 103) C (As := [.int (nI ((nAc (gN σ2 i)).getD k 0))]) (rest := []) (b := (w + 100 + 100 * i)) (c_X3_isLazy A P gl (w + 100 + 100 * i) ((nAc (gN σ2 i)).getD k 0) (by omega) (by assumption) (WD.nd (i := i) hWl (by omega))) (WD.nd (i := i) hWl (by omega)).1 rfl rfl Y_X3_isLazy u_519 N_X3_isLazy ⟨by decide, by decide⟩ ⟨by decide, by decide⟩ (Nat.le_of_ble_eq_true rfl) rfl dX7_hear_103 ?_
                rintro _ _ _ _ ⟨rfl, rfl, rfl, rfl⟩
                show V K 0 0 P A gl [(0, .ref (A (w + 15007))), (1, .ref (A (w + 100 + 100 * i))), (2, .int (nI t)), (3, .int (nI h)), (4, .int (onv s)), (5, .int (nI k)), (6, .int (nI ((nAc (gN σ2 i)).getD k 0)))] 106 [.int (b32 ((nLz (gN σ2 i)).testBit ((nAc (gN σ2 i)).getD k 0)))]
                refine g_if_eq (pc := 106) C dX7_hear_106 (tgt := 120) (by decide) (fun c_106 => ?_) (fun c_106 => ?_)
                ·
                  refine g_iinc (pc := 120) C dX7_hear_120 (by decide) 5 rfl (v := nI (k + 1)) (nI_i1 _) (lv' := [(0, .ref (A (w + 15007))), (1, .ref (A (w + 100 + 100 * i))), (2, .int (nI t)), (3, .int (nI h)), (4, .int (onv s)), (5, .int (nI (k + 1))), (6, .int (nI ((nAc (gN σ2 i)).getD k 0)))]) [1, 2, 3, 4, 5, 0, 6] rfl ?_
                  refine g_goto (pc := 123) C dX7_hear_123 (tgt := 70) (by decide) ?_
                  refine g_sub [0, 1, 2, 3, 4, 5] rfl ?_
                  exact ih (k + 1) (by omega) σ2 (by rw [he]; exact ((tfL_s (show k < (nAc (gN σ1 i)).length by omega)).trans (if_pos (Or.inr (by rw [← hN]; exact b32_yes c_106)))).symm) hN hS2 hK2 hT2 hZ2 gl hVl hWl hf (by omega)
                ·
                  refine g_aload_n (pc := 109) C dX7_hear_109 0 rfl ?_
                  refine g_aload_n (pc := 110) C dX7_hear_110 1 rfl ?_
                  refine g_iload (pc := 111) C dX7_hear_111 6 rfl ?_
                  refine g_bipush (pc := 113) C dX7_hear_113 (v := nI 10) rfl ?_
                  refine g_iload_n (pc := 115) C dX7_hear_115 2 rfl ?_
                  refine g_iconst (pc := 116) C dX7_hear_116 (v := nI 0) rfl ?_
                  refine g_callV (pc := 117) C (As := [.ref (A (w + 100 + 100 * i)), .int (nI ((nAc (gN σ2 i)).getD k 0)), .int (nI 10), .int (nI t), .int (nI 0)]) (rest := []) (b := (w + 15007)) (c_X7_send A P gl w i ((nAc (gN σ2 i)).getD k 0) 10 t 0 (by omega) (by omega) (by omega) (by omega) (by omega) hVl hWl) hVl rfl rfl Y_X7_send u_523 N_X7_send ⟨by decide, by decide⟩ ⟨by decide, by decide⟩ (Nat.le_of_ble_eq_true rfl) rfl dX7_hear_117 ?_
                  rintro _ _ _ g_8 ⟨rfl, rfl, rfl, hW_9, hf_10⟩
                  have hf_11 : Fr gl g_8 (w + 3) (w + 3500) := FrR.fr hf_10
                  have h_12 := hf_11.at (by omega) hVl
                  obtain ⟨σ13, hσ13⟩ : ∃ sM : Sg, sM = snd σ2 i ((nAc (gN σ2 i)).getD k 0) 10 t 0 [] := ⟨_, rfl⟩
                  have hW_14 : WD A g_8 w (w + 15005) σ13 := by rw [hσ13]; exact hW_9
                  clear hW_9
                  have hK_σ13 : gK σ13 = gK σ := (congrArg gK hσ13).trans (snd_K.trans hK2)
                  have hT_σ13 : gT σ13 = gT σ := (congrArg gT hσ13).trans (snd_T.trans hT2)
                  have hZ_σ13 : gZ σ13 = gZ σ := (congrArg gZ hσ13).trans (snd_Z.trans hZ2)
                  show V K 0 0 P A g_8 [(0, .ref (A (w + 15007))), (1, .ref (A (w + 100 + 100 * i))), (2, .int (nI t)), (3, .int (nI h)), (4, .int (onv s)), (5, .int (nI k)), (6, .int (nI ((nAc (gN σ2 i)).getD k 0)))] 120 []
                  refine g_iinc (pc := 120) C dX7_hear_120 (by decide) 5 rfl (v := nI (k + 1)) (nI_i1 _) (lv' := [(0, .ref (A (w + 15007))), (1, .ref (A (w + 100 + 100 * i))), (2, .int (nI t)), (3, .int (nI h)), (4, .int (onv s)), (5, .int (nI (k + 1))), (6, .int (nI ((nAc (gN σ2 i)).getD k 0)))]) [1, 2, 3, 4, 5, 0, 6] rfl ?_
                  refine g_goto (pc := 123) C dX7_hear_123 (tgt := 70) (by decide) ?_
                  refine g_sub [0, 1, 2, 3, 4, 5] rfl ?_
                  exact ih (k + 1) (by omega) σ13 (by rw [hσ13, hN, he]; exact ((tfL_s (show k < (nAc (gN σ1 i)).length by omega)).trans (if_neg (by rw [← hN]; exact fun e => by rcases e with e | e; exact c_97 ((wof_n hs16 hq16).mpr e); exact absurd e (by rw [b32_no c_106]; decide)))).symm) (by rw [hσ13, snd_N]; exact hN) (by rw [hσ13]; exact SW.sent hS2 (by omega) (by omega) (lw_t (by omega) (by omega) (by omega) (by omega) (Or.inr (Or.inl ⟨rfl, rfl⟩)))) hK_σ13 hT_σ13 hZ_σ13 _ h_12 hW_14 (hf.tr (fun k hk => by rw [hf_10 k (by omega)])) (by omega)
        exact lp_70 (_ + 1) 0 (Nat.zero_le _) σ2 (by rw [he, show (nAc (gN σ1 i)).take k = (nAc (gN σ1 i)) from List.take_of_length_le (by omega)]; rfl) hN hS2 hK2 hT2 hZ2 gl hVl hWl hf (Nat.lt_succ_self _)
      ·
        have c_18 : ¬ (nAc (gN σ2 i)).length ≤ k := fun h => c_18 ((nI_leI (a := (nAc (gN σ2 i)).length) (b := k) (by omega) (by omega)).mpr h)
        refine g_aload_n (pc := 21) C dX7_hear_21 1 rfl ?_
        refine g_get (pc := 22) C (j := 2) (WD.nd (i := i) hWl (by omega)).1 rfl rfl (by decide) u_138 dX7_hear_22 ?_
        refine g_iload (pc := 25) C dX7_hear_25 5 rfl ?_
        refine g_callV (pc := 27) C (As := [.int (nI k)]) (rest := []) (b := (w + 100 + 100 * i + 1)) (n_X4_at A P gl (w + 100 + 100 * i + 1) k (by omega) (WD.nd (i := i) hWl (by omega)).2.1) (NLN.o (WD.nd (i := i) hWl (by omega)).2.1) rfl rfl Y_X4_at u_518 N_X4_at ⟨by decide, by decide⟩ ⟨by decide, by decide⟩ (Nat.le_of_ble_eq_true rfl) rfl dX7_hear_27 ?_
        rintro _ _ _ _ ⟨rfl, rfl, rfl, rfl⟩
        show V K 0 0 P A gl [(0, .ref (A (w + 15007))), (1, .ref (A (w + 100 + 100 * i))), (2, .int (nI t)), (3, .int (nI h)), (4, .int (onv s)), (5, .int (nI k))] 30 [.int (nI ((nAc (gN σ2 i)).getD k 0))]
        have hqK : (nAc (gN σ2 i)).getD k 0 < gK σ := by have := (SW.nw hS2 (i := i) (by omega)).2.1 _ (getD_mem (show k < (nAc (gN σ2 i)).length by omega)); omega
        have hq16 : (nAc (gN σ2 i)).getD k 0 < 16 := by omega
        refine g_istore (pc := 30) C dX7_hear_30 (by decide) (lv' := [(0, .ref (A (w + 15007))), (1, .ref (A (w + 100 + 100 * i))), (2, .int (nI t)), (3, .int (nI h)), (4, .int (onv s)), (5, .int (nI k)), (6, .int (nI ((nAc (gN σ2 i)).getD k 0)))]) [1, 2, 3, 4, 5, 6, 0] rfl ?_
        refine g_iload (pc := 32) C dX7_hear_32 6 rfl ?_
        refine g_iload (pc := 34) C dX7_hear_34 4 rfl ?_
        refine g_icmp_eq (pc := 36) C dX7_hear_36 (tgt := 61) (by decide) (fun c_36 => ?_) (fun c_36 => ?_)
        ·
          refine g_iinc (pc := 61) C dX7_hear_61 (by decide) 5 rfl (v := nI (k + 1)) (nI_i1 _) (lv' := [(0, .ref (A (w + 15007))), (1, .ref (A (w + 100 + 100 * i))), (2, .int (nI t)), (3, .int (nI h)), (4, .int (onv s)), (5, .int (nI (k + 1))), (6, .int (nI ((nAc (gN σ2 i)).getD k 0)))]) [1, 2, 3, 4, 5, 0, 6] rfl ?_
          refine g_goto (pc := 64) C dX7_hear_64 (tgt := 9) (by decide) ?_
          refine g_sub [0, 1, 2, 3, 4, 5] rfl ?_
          exact ih (k + 1) (by omega) σ2 (by rw [he]; exact ((tfE_s (show k < (nAc (gN σ1 i)).length by omega)).trans (if_pos (Or.inl (by rw [← hN]; exact (wof_n hs16 hq16).mp c_36)))).symm) hN hS2 hK2 hT2 hZ2 gl hVl hWl hf (by omega)
        ·
          refine g_aload_n (pc := 39) C dX7_hear_39 1 rfl ?_
          refine g_iload (pc := 40) C dX7_hear_40 6 rfl ?_
          refine g_callV (pc := 42) C (As := [.int (nI ((nAc (gN σ2 i)).getD k 0))]) (rest := []) (b := (w + 100 + 100 * i)) (c_X3_isLazy A P gl (w + 100 + 100 * i) ((nAc (gN σ2 i)).getD k 0) (by omega) (by assumption) (WD.nd (i := i) hWl (by omega))) (WD.nd (i := i) hWl (by omega)).1 rfl rfl Y_X3_isLazy u_519 N_X3_isLazy ⟨by decide, by decide⟩ ⟨by decide, by decide⟩ (Nat.le_of_ble_eq_true rfl) rfl dX7_hear_42 ?_
          rintro _ _ _ _ ⟨rfl, rfl, rfl, rfl⟩
          show V K 0 0 P A gl [(0, .ref (A (w + 15007))), (1, .ref (A (w + 100 + 100 * i))), (2, .int (nI t)), (3, .int (nI h)), (4, .int (onv s)), (5, .int (nI k)), (6, .int (nI ((nAc (gN σ2 i)).getD k 0)))] 45 [.int (b32 ((nLz (gN σ2 i)).testBit ((nAc (gN σ2 i)).getD k 0)))]
          refine g_if_ne (pc := 45) C dX7_hear_45 (tgt := 61) (by decide) (fun c_45 => ?_) (fun c_45 => ?_)
          ·
            refine g_iinc (pc := 61) C dX7_hear_61 (by decide) 5 rfl (v := nI (k + 1)) (nI_i1 _) (lv' := [(0, .ref (A (w + 15007))), (1, .ref (A (w + 100 + 100 * i))), (2, .int (nI t)), (3, .int (nI h)), (4, .int (onv s)), (5, .int (nI (k + 1))), (6, .int (nI ((nAc (gN σ2 i)).getD k 0)))]) [1, 2, 3, 4, 5, 0, 6] rfl ?_
            refine g_goto (pc := 64) C dX7_hear_64 (tgt := 9) (by decide) ?_
            refine g_sub [0, 1, 2, 3, 4, 5] rfl ?_
            exact ih (k + 1) (by omega) σ2 (by rw [he]; exact ((tfE_s (show k < (nAc (gN σ1 i)).length by omega)).trans (if_pos (Or.inr (by rw [← hN]; exact b32_no c_45)))).symm) hN hS2 hK2 hT2 hZ2 gl hVl hWl hf (by omega)
          ·
            refine g_aload_n (pc := 48) C dX7_hear_48 0 rfl ?_
            refine g_aload_n (pc := 49) C dX7_hear_49 1 rfl ?_
            refine g_iload (pc := 50) C dX7_hear_50 6 rfl ?_
            refine g_bipush (pc := 52) C dX7_hear_52 (v := nI 9) rfl ?_
            refine g_iload_n (pc := 54) C dX7_hear_54 2 rfl ?_
            refine g_iload_n (pc := 55) C dX7_hear_55 3 rfl ?_
            refine g_iconst (pc := 56) C dX7_hear_56 (v := nI 1) rfl ?_
            refine g_iadd (pc := 57) C dX7_hear_57 (z := nI (h + 1)) (nI_add _ _) ?_
            refine g_callV (pc := 58) C (As := [.ref (A (w + 100 + 100 * i)), .int (nI ((nAc (gN σ2 i)).getD k 0)), .int (nI 9), .int (nI t), .int (nI (h + 1))]) (rest := []) (b := (w + 15007)) (c_X7_send A P gl w i ((nAc (gN σ2 i)).getD k 0) 9 t (h + 1) (by omega) (by omega) (by omega) (by omega) (by omega) hVl hWl) hVl rfl rfl Y_X7_send u_523 N_X7_send ⟨by decide, by decide⟩ ⟨by decide, by decide⟩ (Nat.le_of_ble_eq_true rfl) rfl dX7_hear_58 ?_
            rintro _ _ _ g_15 ⟨rfl, rfl, rfl, hW_16, hf_17⟩
            have hf_18 : Fr gl g_15 (w + 3) (w + 3500) := FrR.fr hf_17
            have h_19 := hf_18.at (by omega) hVl
            obtain ⟨σ20, hσ20⟩ : ∃ sM : Sg, sM = snd σ2 i ((nAc (gN σ2 i)).getD k 0) 9 t (h + 1) [] := ⟨_, rfl⟩
            have hW_21 : WD A g_15 w (w + 15005) σ20 := by rw [hσ20]; exact hW_16
            clear hW_16
            have hK_σ20 : gK σ20 = gK σ := (congrArg gK hσ20).trans (snd_K.trans hK2)
            have hT_σ20 : gT σ20 = gT σ := (congrArg gT hσ20).trans (snd_T.trans hT2)
            have hZ_σ20 : gZ σ20 = gZ σ := (congrArg gZ hσ20).trans (snd_Z.trans hZ2)
            show V K 0 0 P A g_15 [(0, .ref (A (w + 15007))), (1, .ref (A (w + 100 + 100 * i))), (2, .int (nI t)), (3, .int (nI h)), (4, .int (onv s)), (5, .int (nI k)), (6, .int (nI ((nAc (gN σ2 i)).getD k 0)))] 61 []
            refine g_iinc (pc := 61) C dX7_hear_61 (by decide) 5 rfl (v := nI (k + 1)) (nI_i1 _) (lv' := [(0, .ref (A (w + 15007))), (1, .ref (A (w + 100 + 100 * i))), (2, .int (nI t)), (3, .int (nI h)), (4, .int (onv s)), (5, .int (nI (k + 1))), (6, .int (nI ((nAc (gN σ2 i)).getD k 0)))]) [1, 2, 3, 4, 5, 0, 6] rfl ?_
            refine g_goto (pc := 64) C dX7_hear_64 (tgt := 9) (by decide) ?_
            refine g_sub [0, 1, 2, 3, 4, 5] rfl ?_
            exact ih (k + 1) (by omega) σ20 (by rw [hσ20, hN, he]; exact ((tfE_s (show k < (nAc (gN σ1 i)).length by omega)).trans (if_neg (by rw [← hN]; exact fun e => by rcases e with e | e; exact c_36 ((wof_n hs16 hq16).mpr e); exact absurd e (by rw [b32_yes c_45]; decide)))).symm) (by rw [hσ20, snd_N]; exact hN) (by rw [hσ20]; exact SW.sent hS2 (by omega) (by omega) (lw_t (by omega) (by omega) (by omega) (by omega) (Or.inl ⟨rfl, by omega⟩))) hK_σ20 hT_σ20 hZ_σ20 _ h_19 hW_21 (hf.tr (fun k hk => by rw [hf_17 k (by omega)])) (by omega)
  exact lp_9 (_ + 1) 0 (Nat.zero_le _) σ1 rfl rfl hS1 hK_σ6 hT_σ6 hZ_σ6 _ h_5 hW_7 (fun k hk => by rw [hf_3 k (by omega)]) (Nat.lt_succ_self _)
