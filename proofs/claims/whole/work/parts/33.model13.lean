-- PART 33: the reference: what is kept
theorem RZ.cg {Z Z' : Nat → Int32} {σ : Sg} (h : RZ Z σ) (hf : ∀ j, j < 10511 → Z' j = Z j) : RZ Z' σ := by
  have hk := h.k16
  have hl := h.le
  obtain ⟨h1, h2, h3, h4, ⟨h5a, h5b, h5, h6⟩, ⟨h7, h8⟩, h9, h10⟩ := h
  refine ⟨fun r hr => (h1 r hr).cg (fun j hj => hf j (by have := inN_lt (by omega) hj; omega)), fun r a b => (h2 r a b).cg (fun j hj => hf j (by have := inN_lt b hj; omega)), ⟨h3.1, fun i t ht => (h3.2 i t ht).cg (fun j hj => hf j (by have hh : i < (gR σ).length := (List.getElem?_eq_some_iff.mp ht).1; omega))⟩, fun k hk => (hf _ (by omega)).trans (h4 k hk), ⟨h5a, h5b, (hf _ (by omega)).trans h5, (hf _ (by omega)).trans h6⟩, ⟨(hf _ (by omega)).trans h7, (hf _ (by omega)).trans h8⟩, (hf _ (by omega)).trans h9, (hf _ (by omega)).trans h10⟩
/-- place k of what is kept holds state s -/
def KPk (Kp sz : Nat → Int32) (k : Nat) (s : Sg) : Prop := RZ (fun j => Kp (10511 * k + j)) s ∧ sz (5 * k) = nI (gZ s).1 ∧ sz (5 * k + 1) = nI (gZ s).2.1 ∧ sz (5 * k + 2) = nI (gZ s).2.2.1 ∧ sz (5 * k + 3) = nI (gZ s).2.2.2.1 ∧ sz (5 * k + 4) = nI (gZ s).2.2.2.2
def KP (g : pM) (m : Nat) (ks : Nat → Option Sg) : Prop := ∃ Kp rk sz : Nat → Int32, g (m + 6) = ai 0 21022 Kp ∧ g (m + 7) = ai 1 2 rk ∧ g (m + 8) = ai 0 10 sz ∧ ∀ k, k < 2 → rk k = b32 (ks k).isSome ∧ ∀ s, ks k = some s → KPk Kp sz k s
theorem KP.fr {g g' : pM} {m lo hi : Nat} {ks : Nat → Option Sg} (h : KP g m ks) (hf : Fr g g' lo hi) (hd : hi ≤ m + 6 ∨ m + 9 ≤ lo) : KP g' m ks := by
  obtain ⟨Kp, rk, sz, h1, h2, h3, h4⟩ := h
  exact ⟨Kp, rk, sz, hf.at (by omega) h1, hf.at (by omega) h2, hf.at (by omega) h3, h4⟩
theorem KP.fra {g g' : pM} {m : Nat} {ks : Nat → Option Sg} (h : KP g m ks) (hf : FrA g g' m) : KP g' m ks := by
  obtain ⟨Kp, rk, sz, h1, h2, h3, h4⟩ := h
  exact ⟨Kp, rk, sz, hf.at (by omega) h1, hf.at (by omega) h2, hf.at (by omega) h3, h4⟩
/-- the first t of Z kept at place k -/
def kcp (Kp : Nat → Int32) (k : Nat) (Z : Nat → Int32) (t : Nat) : Nat → Int32 := fun j => if 10511 * k ≤ j ∧ j < 10511 * k + t then Z (j - 10511 * k) else Kp j
theorem kcp_0 {Kp Z : Nat → Int32} {k : Nat} : kcp Kp k Z 0 = Kp := by
  funext j
  simp only [kcp]
  rw [if_neg (by omega)]
theorem kcp_s {Kp Z : Nat → Int32} {k t : Nat} : upd (kcp Kp k Z t) (10511 * k + t) (Z t) = kcp Kp k Z (t + 1) := by
  funext j
  simp only [upd, kcp]
  by_cases h : j = 10511 * k + t
  · subst h
    rw [if_pos rfl, if_pos (by omega), show 10511 * k + t - 10511 * k = t by omega]
  · rw [if_neg h]
    by_cases h2 : 10511 * k ≤ j ∧ j < 10511 * k + t
    · rw [if_pos h2, if_pos (by omega)]
    · rw [if_neg h2, if_neg (by omega)]
/-- the first t of what is kept at place k, then Z -/
def bcp (Z Kp : Nat → Int32) (k t : Nat) : Nat → Int32 := fun j => if j < t then Kp (10511 * k + j) else Z j
theorem bcp_0 {Z Kp : Nat → Int32} {k : Nat} : bcp Z Kp k 0 = Z := by
  funext j
  simp [bcp]
theorem bcp_s {Z Kp : Nat → Int32} {k t : Nat} : upd (bcp Z Kp k t) t (Kp (10511 * k + t)) = bcp Z Kp k (t + 1) := by
  funext j
  simp only [upd, bcp]
  by_cases h : j = t
  · subst h
    rw [if_pos rfl, if_pos (by omega)]
  · rw [if_neg h]
    by_cases h2 : j < t
    · rw [if_pos h2, if_pos (by omega)]
    · rw [if_neg h2, if_neg (by omega)]
theorem kp_end {Kp Z sz rk : Nat → Int32} {k t : Nat} {σ : Sg} {ks : Nat → Option Sg} {v0 v1 v2 v3 v4 : Int32} (hk : k < 2) (ht : t = 10511) (hR : RZ Z σ) (h : ∀ k, k < 2 → rk k = b32 (ks k).isSome ∧ ∀ s, ks k = some s → KPk Kp sz k s) (e0 : v0 = nI (gZ σ).1) (e1 : v1 = nI (gZ σ).2.1) (e2 : v2 = nI (gZ σ).2.2.1) (e3 : v3 = nI (gZ σ).2.2.2.1) (e4 : v4 = nI (gZ σ).2.2.2.2) :
    ∀ j, j < 2 → upd rk k (vp_nar .boolean (nI 1)) j = b32 (va_up ks k (some σ) j).isSome ∧ ∀ s, va_up ks k (some σ) j = some s → KPk (kcp Kp k Z t) (upd (upd (upd (upd (upd sz (5 * k) v0) (5 * k + 1) v1) (5 * k + 2) v2) (5 * k + 3) v3) (5 * k + 4) v4) j s := by
  subst ht e0 e1 e2 e3 e4
  intro j hj
  by_cases e : j = k
  · subst e
    rw [va_up_self]
    refine ⟨by simp [upd, b32]; rfl, fun s hs => ?_⟩
    cases hs
    refine ⟨hR.cg (fun q hq => ?_), ?_, ?_, ?_, ?_, ?_⟩
    · show kcp Kp j Z 10511 (10511 * j + q) = Z q
      simp only [kcp]
      rw [if_pos (by omega), show 10511 * j + q - 10511 * j = q by omega]
    · simp only [upd]; rw [if_neg (by omega), if_neg (by omega), if_neg (by omega), if_neg (by omega), if_pos trivial]
    · simp only [upd]; rw [if_neg (by omega), if_neg (by omega), if_neg (by omega), if_pos trivial]
    · simp only [upd]; rw [if_neg (by omega), if_neg (by omega), if_pos trivial]
    · simp only [upd]; rw [if_neg (by omega), if_pos trivial]
    · simp only [upd]; rw [if_pos trivial]
  · rw [va_up_ne _ _ e]
    obtain ⟨h1, h2⟩ := h j hj
    refine ⟨by simp only [upd, if_neg e]; exact h1, fun s hs => ?_⟩
    obtain ⟨k1, k2, k3, k4, k5, k6⟩ := h2 s hs
    have o : ∀ c, c < 5 → upd (upd (upd (upd (upd sz (5 * k) (nI (gZ σ).1)) (5 * k + 1) (nI (gZ σ).2.1)) (5 * k + 2) (nI (gZ σ).2.2.1)) (5 * k + 3) (nI (gZ σ).2.2.2.1)) (5 * k + 4) (nI (gZ σ).2.2.2.2) (5 * j + c) = sz (5 * j + c) := by
      intro c hc
      simp only [upd]
      rw [if_neg (by omega), if_neg (by omega), if_neg (by omega), if_neg (by omega), if_neg (by omega)]
    refine ⟨k1.cg (fun q hq => ?_), (o 0 (by omega)).trans k2, (o 1 (by omega)).trans k3, (o 2 (by omega)).trans k4, (o 3 (by omega)).trans k5, (o 4 (by omega)).trans k6⟩
    show kcp Kp k Z 10511 (10511 * j + q) = Kp (10511 * j + q)
    simp only [kcp]
    rw [if_neg (by omega)]
abbrev rm_X11_keep : Room := { frames := 1, cells := 0, slots := 0, locals := 25 }
theorem Y_X11_keep : pY yX11_keep cX11_keep 3 (Option.some Jvm.ClassFile.FieldType.int) := ⟨u_1124, u_1125, u_13, u_1126⟩
theorem N_X11_keep : yX11_keep.cls ≠ "java/lang/invoke/MethodHandle" ∧ yX11_keep.cls ≠ "java/lang/invoke/VarHandle" ∧ (parseMethodDescriptor yX11_keep.desc).map (fun d => d.parameters.length) = some 1 := by decide +kernel
set_option maxRecDepth 20000 in
set_option maxHeartbeats 4000000 in
theorem c_X11_keep (A : Nat → Nat) (P : List Nat) (g : pM) (m : Nat) {cs : List Nat} {σ : Sg} {B : Nat} {ks : Nat → Option Sg} (x : Int32) (hKP : KP g m ks) (hS : SW B cs σ) (hM : MM A g m cs σ) : PM yX11_keep cX11_keep 3 (Option.some Jvm.ClassFile.FieldType.int) rm_X11_keep [.ref (A m), .int x] P A g (fun v g' => (decide (¬ x < 0 ∧ x < 2) = false ∧ v = some (.int (-1)) ∧ g = g') ∨ (∃ k, k < 2 ∧ x = nI k ∧ v = some (.int (nI 1)) ∧ MM A g' m cs σ ∧ KP g' m (va_up ks k (some σ)) ∧ Fr g g' m (m + 9))) := by
  obtain ⟨⟨lm, gm, l3, l4, l5, hO, hl3, hl4, hl5⟩, ⟨Z, hZ, hR⟩, hC⟩ := id hM
  have hK := hR.k16
  have hT := hR.t24
  have hL := hR.le
  obtain ⟨Kp, rk, szz, hk6, hk7, hk8, hkk⟩ := id hKP
  refine px_intro (by decide +kernel) (Nat.le_of_ble_eq_true rfl) (fun K sz C R => ?_)
  show V K 0 0 P A g [(0, .ref (A m)), (1, .int x)] 0 []
  refine g_iload_n (pc := 0) C dX11_keep_0 1 rfl ?_
  refine g_i2l (pc := 1) C dX11_keep_1 ?_
  refine g_lconst (pc := 2) C dX11_keep_2 (v := 0) rfl ?_
  refine g_lconst (pc := 3) C dX11_keep_3 (v := 1) rfl ?_
  refine g_callS (pc := 4) C (As := [.long (x).toInt64, .long 0, .long 1]) (rest := []) (c_X11_in A P g (x).toInt64 0 1) rfl u_908 u_13 u_909 u_907 N_X11_in ⟨by decide, by decide⟩ ⟨by decide, by decide⟩ (Nat.le_of_ble_eq_true rfl) rfl dX11_keep_4 ?_
  rintro _ _ _ _ ⟨rfl, rfl, rfl, rfl⟩
  rw [in_c (lo := nI 0) (hi := nI 1) (by decide) (by decide)]
  show V K 0 0 P A g [(0, .ref (A m)), (1, .int x)] 7 [.int (b32 (decide (nI 0 ≤ x ∧ x ≤ nI 1)))]
  refine g_if_ne (pc := 7) C dX11_keep_7 (tgt := 12) (by decide) (fun c_7 => ?_) (fun c_7 => ?_)
  ·
    have c_7 : (decide (nI 0 ≤ x ∧ x ≤ nI 1)) = true := b32_no c_7
    have c_7 : (nI 0 ≤ x ∧ x ≤ nI 1) := of_decide_eq_true c_7
    obtain ⟨k, -, hk, rfl⟩ := rg_ex (lo := 0) (hi := 1) (by omega) (by omega) (i32_nlt c_7.1) (i32_nlt c_7.2)
    refine g_iconst (pc := 12) C dX11_keep_12 (v := nI 0) rfl ?_
    refine g_istore_n (pc := 13) C dX11_keep_13 (by decide) (lv' := [(0, .ref (A m)), (1, .int (nI k)), (2, .int (nI 0))]) [1, 2, 0] rfl ?_
    have lp_14 : ∀ (fuel : Nat) (gm14 : pM) (hm14 : Fr g gm14 (m + 6) (m + 7)) (i : Nat) (hi : i ≤ 10511) (hk14 : gm14 (m + 6) = ai 0 21022 (kcp Kp k Z i)), 10511 - i < fuel → V K 0 0 P A gm14 [(0, .ref (A m)), (1, .int (nI k)), (2, .int (nI i))] 14 [] := by
      intro fuel
      induction fuel with
      | zero => intro gm14 hm14 i hi hk14 hμ; exact absurd hμ (Nat.not_lt_zero _)
      | succ fuel ih_14 =>
        intro gm14 hm14 i hi hk14 hμ
        have h_1 := hm14.at (by omega) hO
        have h_2 := hm14.at (by omega) hZ
        have h_3 := hm14.at (by omega) hk7
        have h_4 := hm14.at (by omega) hk8
        have hp_5 := MC.fr hC hm14 (by omega)
        have hp_6 := SO.fr hl3 hm14 (by omega)
        have hp_7 := SO.fr hl4 hm14 (by omega)
        have hp_8 := SO.fr hl5 hm14 (by omega)
        refine g_iload_n (pc := 14) C dX11_keep_14 2 rfl ?_
        refine g_sipush (pc := 15) C dX11_keep_15 (v := nI 10511) rfl ?_
        refine g_icmp_ge (pc := 18) C dX11_keep_18 (tgt := 45) (by decide) (fun c_18 => ?_) (fun c_18 => ?_)
        ·
          have c_18 : 10511 ≤ i := (nI_leI (by omega) (by omega)).mp c_18
          refine g_aload_n (pc := 45) C dX11_keep_45 0 rfl ?_
          refine g_get (pc := 46) C (j := 15) h_1 rfl rfl (by decide) u_867 dX11_keep_46 ?_
          refine g_iconst (pc := 49) C dX11_keep_49 (v := nI 5) rfl ?_
          refine g_iload_n (pc := 50) C dX11_keep_50 1 rfl ?_
          refine g_imul (pc := 51) C dX11_keep_51 (z := nI (5 * k)) (pk_mul _ _) ?_
          refine g_aload_n (pc := 52) C dX11_keep_52 0 rfl ?_
          refine g_get (pc := 53) C (j := 1) h_1 rfl rfl (by decide) u_853 dX11_keep_53 ?_
          refine g_iast (pc := 56) C h_4 (nI_clamp (by omega)) (nI_in0 (n := 10) (by omega) (by omega)) dX11_keep_56 ?_
          obtain ⟨g_9, hg_9⟩ : ∃ yM : pM, yM = va_up gm14 (m + 8) (ai 0 10 (upd szz (5 * k) (nI (gZ σ).1))) := ⟨_, rfl⟩
          show V K 0 0 P A (va_up gm14 (m + 8) (ai 0 10 (upd szz (5 * k) (nI (gZ σ).1)))) [(0, .ref (A m)), (1, .int (nI k)), (2, .int (nI i))] 57 []
          rw [← hg_9]
          have h_10 : g_9 m = ob 11 [.ref (A (m + 1)), .int (nI (gZ σ).1), .int (nI (gZ σ).2.1), .int (nI (gZ σ).2.2.1), .int (nI (gZ σ).2.2.2.1), .int (nI (gZ σ).2.2.2.2), .ref (A (m + 2)), .int (nI cs.length), .ref (A (m + 3)), .int (nI lm), .ref (A (m + 4)), .ref (A (m + 5)), .int (nI gm), .ref (A (m + 6)), .ref (A (m + 7)), .ref (A (m + 8))] := by rw [hg_9, va_up_ne _ _ (show m ≠ m + 8 from by omega)]; exact h_1
          have h_11 : g_9 (m + 1) = ai 0 10511 Z := by rw [hg_9, va_up_ne _ _ (show m + 1 ≠ m + 8 from by omega)]; exact h_2
          have h_12 : g_9 (m + 7) = ai 1 2 rk := by rw [hg_9, va_up_ne _ _ (show m + 7 ≠ m + 8 from by omega)]; exact h_3
          have h_13 : g_9 (m + 8) = ai 0 10 (upd szz (5 * k) (nI (gZ σ).1)) := by rw [hg_9]; exact va_up_self _ _ _
          have h_14 : g_9 (m + 6) = ai 0 21022 (kcp Kp k Z i) := by rw [hg_9, va_up_ne _ _ (show m + 6 ≠ m + 8 from by omega)]; exact hk14
          have hf_15 : Fr gm14 g_9 (m + 8) (m + 8 + 1) := by rw [hg_9]; exact Fr.up (by omega) (by omega)
          have hp_16 := MC.fr hp_5 hf_15 (by omega)
          have hp_17 := SO.fr hp_6 hf_15 (by omega)
          have hp_18 := SO.fr hp_7 hf_15 (by omega)
          have hp_19 := SO.fr hp_8 hf_15 (by omega)
          refine g_aload_n (pc := 57) C dX11_keep_57 0 rfl ?_
          refine g_get (pc := 58) C (j := 15) h_10 rfl rfl (by decide) u_867 dX11_keep_58 ?_
          refine g_iconst (pc := 61) C dX11_keep_61 (v := nI 5) rfl ?_
          refine g_iload_n (pc := 62) C dX11_keep_62 1 rfl ?_
          refine g_imul (pc := 63) C dX11_keep_63 (z := nI (5 * k)) (pk_mul _ _) ?_
          refine g_iconst (pc := 64) C dX11_keep_64 (v := nI 1) rfl ?_
          refine g_iadd (pc := 65) C dX11_keep_65 (z := nI (5 * k + 1)) (nI_add _ _) ?_
          refine g_aload_n (pc := 66) C dX11_keep_66 0 rfl ?_
          refine g_get (pc := 67) C (j := 2) h_10 rfl rfl (by decide) u_854 dX11_keep_67 ?_
          refine g_iast (pc := 70) C h_13 (nI_clamp (by omega)) (nI_in0 (n := 10) (by omega) (by omega)) dX11_keep_70 ?_
          obtain ⟨g_20, hg_20⟩ : ∃ yM : pM, yM = va_up g_9 (m + 8) (ai 0 10 (upd (upd szz (5 * k) (nI (gZ σ).1)) (5 * k + 1) (nI (gZ σ).2.1))) := ⟨_, rfl⟩
          show V K 0 0 P A (va_up g_9 (m + 8) (ai 0 10 (upd (upd szz (5 * k) (nI (gZ σ).1)) (5 * k + 1) (nI (gZ σ).2.1)))) [(0, .ref (A m)), (1, .int (nI k)), (2, .int (nI i))] 71 []
          rw [← hg_20]
          have h_21 : g_20 m = ob 11 [.ref (A (m + 1)), .int (nI (gZ σ).1), .int (nI (gZ σ).2.1), .int (nI (gZ σ).2.2.1), .int (nI (gZ σ).2.2.2.1), .int (nI (gZ σ).2.2.2.2), .ref (A (m + 2)), .int (nI cs.length), .ref (A (m + 3)), .int (nI lm), .ref (A (m + 4)), .ref (A (m + 5)), .int (nI gm), .ref (A (m + 6)), .ref (A (m + 7)), .ref (A (m + 8))] := by rw [hg_20, va_up_ne _ _ (show m ≠ m + 8 from by omega)]; exact h_10
          have h_22 : g_20 (m + 1) = ai 0 10511 Z := by rw [hg_20, va_up_ne _ _ (show m + 1 ≠ m + 8 from by omega)]; exact h_11
          have h_23 : g_20 (m + 7) = ai 1 2 rk := by rw [hg_20, va_up_ne _ _ (show m + 7 ≠ m + 8 from by omega)]; exact h_12
          have h_24 : g_20 (m + 8) = ai 0 10 (upd (upd szz (5 * k) (nI (gZ σ).1)) (5 * k + 1) (nI (gZ σ).2.1)) := by rw [hg_20]; exact va_up_self _ _ _
          have h_25 : g_20 (m + 6) = ai 0 21022 (kcp Kp k Z i) := by rw [hg_20, va_up_ne _ _ (show m + 6 ≠ m + 8 from by omega)]; exact h_14
          have hf_26 : Fr g_9 g_20 (m + 8) (m + 8 + 1) := by rw [hg_20]; exact Fr.up (by omega) (by omega)
          have hp_27 := MC.fr hp_16 hf_26 (by omega)
          have hp_28 := SO.fr hp_17 hf_26 (by omega)
          have hp_29 := SO.fr hp_18 hf_26 (by omega)
          have hp_30 := SO.fr hp_19 hf_26 (by omega)
          refine g_aload_n (pc := 71) C dX11_keep_71 0 rfl ?_
          refine g_get (pc := 72) C (j := 15) h_21 rfl rfl (by decide) u_867 dX11_keep_72 ?_
          refine g_iconst (pc := 75) C dX11_keep_75 (v := nI 5) rfl ?_
          refine g_iload_n (pc := 76) C dX11_keep_76 1 rfl ?_
          refine g_imul (pc := 77) C dX11_keep_77 (z := nI (5 * k)) (pk_mul _ _) ?_
          refine g_iconst (pc := 78) C dX11_keep_78 (v := nI 2) rfl ?_
          refine g_iadd (pc := 79) C dX11_keep_79 (z := nI (5 * k + 2)) (nI_add _ _) ?_
          refine g_aload_n (pc := 80) C dX11_keep_80 0 rfl ?_
          refine g_get (pc := 81) C (j := 3) h_21 rfl rfl (by decide) u_855 dX11_keep_81 ?_
          refine g_iast (pc := 84) C h_24 (nI_clamp (by omega)) (nI_in0 (n := 10) (by omega) (by omega)) dX11_keep_84 ?_
          obtain ⟨g_31, hg_31⟩ : ∃ yM : pM, yM = va_up g_20 (m + 8) (ai 0 10 (upd (upd (upd szz (5 * k) (nI (gZ σ).1)) (5 * k + 1) (nI (gZ σ).2.1)) (5 * k + 2) (nI (gZ σ).2.2.1))) := ⟨_, rfl⟩
          show V K 0 0 P A (va_up g_20 (m + 8) (ai 0 10 (upd (upd (upd szz (5 * k) (nI (gZ σ).1)) (5 * k + 1) (nI (gZ σ).2.1)) (5 * k + 2) (nI (gZ σ).2.2.1)))) [(0, .ref (A m)), (1, .int (nI k)), (2, .int (nI i))] 85 []
          rw [← hg_31]
          have h_32 : g_31 m = ob 11 [.ref (A (m + 1)), .int (nI (gZ σ).1), .int (nI (gZ σ).2.1), .int (nI (gZ σ).2.2.1), .int (nI (gZ σ).2.2.2.1), .int (nI (gZ σ).2.2.2.2), .ref (A (m + 2)), .int (nI cs.length), .ref (A (m + 3)), .int (nI lm), .ref (A (m + 4)), .ref (A (m + 5)), .int (nI gm), .ref (A (m + 6)), .ref (A (m + 7)), .ref (A (m + 8))] := by rw [hg_31, va_up_ne _ _ (show m ≠ m + 8 from by omega)]; exact h_21
          have h_33 : g_31 (m + 1) = ai 0 10511 Z := by rw [hg_31, va_up_ne _ _ (show m + 1 ≠ m + 8 from by omega)]; exact h_22
          have h_34 : g_31 (m + 7) = ai 1 2 rk := by rw [hg_31, va_up_ne _ _ (show m + 7 ≠ m + 8 from by omega)]; exact h_23
          have h_35 : g_31 (m + 8) = ai 0 10 (upd (upd (upd szz (5 * k) (nI (gZ σ).1)) (5 * k + 1) (nI (gZ σ).2.1)) (5 * k + 2) (nI (gZ σ).2.2.1)) := by rw [hg_31]; exact va_up_self _ _ _
          have h_36 : g_31 (m + 6) = ai 0 21022 (kcp Kp k Z i) := by rw [hg_31, va_up_ne _ _ (show m + 6 ≠ m + 8 from by omega)]; exact h_25
          have hf_37 : Fr g_20 g_31 (m + 8) (m + 8 + 1) := by rw [hg_31]; exact Fr.up (by omega) (by omega)
          have hp_38 := MC.fr hp_27 hf_37 (by omega)
          have hp_39 := SO.fr hp_28 hf_37 (by omega)
          have hp_40 := SO.fr hp_29 hf_37 (by omega)
          have hp_41 := SO.fr hp_30 hf_37 (by omega)
          refine g_aload_n (pc := 85) C dX11_keep_85 0 rfl ?_
          refine g_get (pc := 86) C (j := 15) h_32 rfl rfl (by decide) u_867 dX11_keep_86 ?_
          refine g_iconst (pc := 89) C dX11_keep_89 (v := nI 5) rfl ?_
          refine g_iload_n (pc := 90) C dX11_keep_90 1 rfl ?_
          refine g_imul (pc := 91) C dX11_keep_91 (z := nI (5 * k)) (pk_mul _ _) ?_
          refine g_iconst (pc := 92) C dX11_keep_92 (v := nI 3) rfl ?_
          refine g_iadd (pc := 93) C dX11_keep_93 (z := nI (5 * k + 3)) (nI_add _ _) ?_
          refine g_aload_n (pc := 94) C dX11_keep_94 0 rfl ?_
          refine g_get (pc := 95) C (j := 4) h_32 rfl rfl (by decide) u_856 dX11_keep_95 ?_
          refine g_iast (pc := 98) C h_35 (nI_clamp (by omega)) (nI_in0 (n := 10) (by omega) (by omega)) dX11_keep_98 ?_
          obtain ⟨g_42, hg_42⟩ : ∃ yM : pM, yM = va_up g_31 (m + 8) (ai 0 10 (upd (upd (upd (upd szz (5 * k) (nI (gZ σ).1)) (5 * k + 1) (nI (gZ σ).2.1)) (5 * k + 2) (nI (gZ σ).2.2.1)) (5 * k + 3) (nI (gZ σ).2.2.2.1))) := ⟨_, rfl⟩
          show V K 0 0 P A (va_up g_31 (m + 8) (ai 0 10 (upd (upd (upd (upd szz (5 * k) (nI (gZ σ).1)) (5 * k + 1) (nI (gZ σ).2.1)) (5 * k + 2) (nI (gZ σ).2.2.1)) (5 * k + 3) (nI (gZ σ).2.2.2.1)))) [(0, .ref (A m)), (1, .int (nI k)), (2, .int (nI i))] 99 []
          rw [← hg_42]
          have h_43 : g_42 m = ob 11 [.ref (A (m + 1)), .int (nI (gZ σ).1), .int (nI (gZ σ).2.1), .int (nI (gZ σ).2.2.1), .int (nI (gZ σ).2.2.2.1), .int (nI (gZ σ).2.2.2.2), .ref (A (m + 2)), .int (nI cs.length), .ref (A (m + 3)), .int (nI lm), .ref (A (m + 4)), .ref (A (m + 5)), .int (nI gm), .ref (A (m + 6)), .ref (A (m + 7)), .ref (A (m + 8))] := by rw [hg_42, va_up_ne _ _ (show m ≠ m + 8 from by omega)]; exact h_32
          have h_44 : g_42 (m + 1) = ai 0 10511 Z := by rw [hg_42, va_up_ne _ _ (show m + 1 ≠ m + 8 from by omega)]; exact h_33
          have h_45 : g_42 (m + 7) = ai 1 2 rk := by rw [hg_42, va_up_ne _ _ (show m + 7 ≠ m + 8 from by omega)]; exact h_34
          have h_46 : g_42 (m + 8) = ai 0 10 (upd (upd (upd (upd szz (5 * k) (nI (gZ σ).1)) (5 * k + 1) (nI (gZ σ).2.1)) (5 * k + 2) (nI (gZ σ).2.2.1)) (5 * k + 3) (nI (gZ σ).2.2.2.1)) := by rw [hg_42]; exact va_up_self _ _ _
          have h_47 : g_42 (m + 6) = ai 0 21022 (kcp Kp k Z i) := by rw [hg_42, va_up_ne _ _ (show m + 6 ≠ m + 8 from by omega)]; exact h_36
          have hf_48 : Fr g_31 g_42 (m + 8) (m + 8 + 1) := by rw [hg_42]; exact Fr.up (by omega) (by omega)
          have hp_49 := MC.fr hp_38 hf_48 (by omega)
          have hp_50 := SO.fr hp_39 hf_48 (by omega)
          have hp_51 := SO.fr hp_40 hf_48 (by omega)
          have hp_52 := SO.fr hp_41 hf_48 (by omega)
          refine g_aload_n (pc := 99) C dX11_keep_99 0 rfl ?_
          refine g_get (pc := 100) C (j := 15) h_43 rfl rfl (by decide) u_867 dX11_keep_100 ?_
          refine g_iconst (pc := 103) C dX11_keep_103 (v := nI 5) rfl ?_
          refine g_iload_n (pc := 104) C dX11_keep_104 1 rfl ?_
          refine g_imul (pc := 105) C dX11_keep_105 (z := nI (5 * k)) (pk_mul _ _) ?_
          refine g_iconst (pc := 106) C dX11_keep_106 (v := nI 4) rfl ?_
          refine g_iadd (pc := 107) C dX11_keep_107 (z := nI (5 * k + 4)) (nI_add _ _) ?_
          refine g_aload_n (pc := 108) C dX11_keep_108 0 rfl ?_
          refine g_get (pc := 109) C (j := 5) h_43 rfl rfl (by decide) u_857 dX11_keep_109 ?_
          refine g_iast (pc := 112) C h_46 (nI_clamp (by omega)) (nI_in0 (n := 10) (by omega) (by omega)) dX11_keep_112 ?_
          obtain ⟨g_53, hg_53⟩ : ∃ yM : pM, yM = va_up g_42 (m + 8) (ai 0 10 (upd (upd (upd (upd (upd szz (5 * k) (nI (gZ σ).1)) (5 * k + 1) (nI (gZ σ).2.1)) (5 * k + 2) (nI (gZ σ).2.2.1)) (5 * k + 3) (nI (gZ σ).2.2.2.1)) (5 * k + 4) (nI (gZ σ).2.2.2.2))) := ⟨_, rfl⟩
          show V K 0 0 P A (va_up g_42 (m + 8) (ai 0 10 (upd (upd (upd (upd (upd szz (5 * k) (nI (gZ σ).1)) (5 * k + 1) (nI (gZ σ).2.1)) (5 * k + 2) (nI (gZ σ).2.2.1)) (5 * k + 3) (nI (gZ σ).2.2.2.1)) (5 * k + 4) (nI (gZ σ).2.2.2.2)))) [(0, .ref (A m)), (1, .int (nI k)), (2, .int (nI i))] 113 []
          rw [← hg_53]
          have h_54 : g_53 m = ob 11 [.ref (A (m + 1)), .int (nI (gZ σ).1), .int (nI (gZ σ).2.1), .int (nI (gZ σ).2.2.1), .int (nI (gZ σ).2.2.2.1), .int (nI (gZ σ).2.2.2.2), .ref (A (m + 2)), .int (nI cs.length), .ref (A (m + 3)), .int (nI lm), .ref (A (m + 4)), .ref (A (m + 5)), .int (nI gm), .ref (A (m + 6)), .ref (A (m + 7)), .ref (A (m + 8))] := by rw [hg_53, va_up_ne _ _ (show m ≠ m + 8 from by omega)]; exact h_43
          have h_55 : g_53 (m + 1) = ai 0 10511 Z := by rw [hg_53, va_up_ne _ _ (show m + 1 ≠ m + 8 from by omega)]; exact h_44
          have h_56 : g_53 (m + 7) = ai 1 2 rk := by rw [hg_53, va_up_ne _ _ (show m + 7 ≠ m + 8 from by omega)]; exact h_45
          have h_57 : g_53 (m + 8) = ai 0 10 (upd (upd (upd (upd (upd szz (5 * k) (nI (gZ σ).1)) (5 * k + 1) (nI (gZ σ).2.1)) (5 * k + 2) (nI (gZ σ).2.2.1)) (5 * k + 3) (nI (gZ σ).2.2.2.1)) (5 * k + 4) (nI (gZ σ).2.2.2.2)) := by rw [hg_53]; exact va_up_self _ _ _
          have h_58 : g_53 (m + 6) = ai 0 21022 (kcp Kp k Z i) := by rw [hg_53, va_up_ne _ _ (show m + 6 ≠ m + 8 from by omega)]; exact h_47
          have hf_59 : Fr g_42 g_53 (m + 8) (m + 8 + 1) := by rw [hg_53]; exact Fr.up (by omega) (by omega)
          have hp_60 := MC.fr hp_49 hf_59 (by omega)
          have hp_61 := SO.fr hp_50 hf_59 (by omega)
          have hp_62 := SO.fr hp_51 hf_59 (by omega)
          have hp_63 := SO.fr hp_52 hf_59 (by omega)
          refine g_aload_n (pc := 113) C dX11_keep_113 0 rfl ?_
          refine g_get (pc := 114) C (j := 14) h_54 rfl rfl (by decide) u_866 dX11_keep_114 ?_
          refine g_iload_n (pc := 117) C dX11_keep_117 1 rfl ?_
          refine g_iconst (pc := 118) C dX11_keep_118 (v := nI 1) rfl ?_
          refine g_zast (pc := 119) C h_56 (nI_clamp (by omega)) (nI_in0 (n := 2) (by omega) (by omega)) dX11_keep_119 ?_
          obtain ⟨g_64, hg_64⟩ : ∃ yM : pM, yM = va_up g_53 (m + 7) (ai 1 2 (upd rk k (vp_nar .boolean (nI 1)))) := ⟨_, rfl⟩
          show V K 0 0 P A (va_up g_53 (m + 7) (ai 1 2 (upd rk k (vp_nar .boolean (nI 1))))) [(0, .ref (A m)), (1, .int (nI k)), (2, .int (nI i))] 120 []
          rw [← hg_64]
          have h_65 : g_64 m = ob 11 [.ref (A (m + 1)), .int (nI (gZ σ).1), .int (nI (gZ σ).2.1), .int (nI (gZ σ).2.2.1), .int (nI (gZ σ).2.2.2.1), .int (nI (gZ σ).2.2.2.2), .ref (A (m + 2)), .int (nI cs.length), .ref (A (m + 3)), .int (nI lm), .ref (A (m + 4)), .ref (A (m + 5)), .int (nI gm), .ref (A (m + 6)), .ref (A (m + 7)), .ref (A (m + 8))] := by rw [hg_64, va_up_ne _ _ (show m ≠ m + 7 from by omega)]; exact h_54
          have h_66 : g_64 (m + 1) = ai 0 10511 Z := by rw [hg_64, va_up_ne _ _ (show m + 1 ≠ m + 7 from by omega)]; exact h_55
          have h_67 : g_64 (m + 7) = ai 1 2 (upd rk k (vp_nar .boolean (nI 1))) := by rw [hg_64]; exact va_up_self _ _ _
          have h_68 : g_64 (m + 8) = ai 0 10 (upd (upd (upd (upd (upd szz (5 * k) (nI (gZ σ).1)) (5 * k + 1) (nI (gZ σ).2.1)) (5 * k + 2) (nI (gZ σ).2.2.1)) (5 * k + 3) (nI (gZ σ).2.2.2.1)) (5 * k + 4) (nI (gZ σ).2.2.2.2)) := by rw [hg_64, va_up_ne _ _ (show m + 8 ≠ m + 7 from by omega)]; exact h_57
          have h_69 : g_64 (m + 6) = ai 0 21022 (kcp Kp k Z i) := by rw [hg_64, va_up_ne _ _ (show m + 6 ≠ m + 7 from by omega)]; exact h_58
          have hf_70 : Fr g_53 g_64 (m + 7) (m + 7 + 1) := by rw [hg_64]; exact Fr.up (by omega) (by omega)
          have hp_71 := MC.fr hp_60 hf_70 (by omega)
          have hp_72 := SO.fr hp_61 hf_70 (by omega)
          have hp_73 := SO.fr hp_62 hf_70 (by omega)
          have hp_74 := SO.fr hp_63 hf_70 (by omega)
          refine g_iconst (pc := 120) C dX11_keep_120 (v := nI 1) rfl ?_
          exact g_iret (pc := 121) C R ⟨rfl, rfl, Or.inr ⟨k, by omega, rfl, rfl, ⟨⟨_, _, _, _, _, h_65, hp_72, hp_73, hp_74⟩, ⟨_, h_66, hR⟩, hp_71⟩, ⟨_, _, _, h_69, h_67, h_68, kp_end (by omega) (by omega) hR hkk rfl rfl rfl rfl rfl⟩, fun k hk => by rw [hg_64, va_up_ne _ _ (by omega), hg_53, va_up_ne _ _ (by omega), hg_42, va_up_ne _ _ (by omega), hg_31, va_up_ne _ _ (by omega), hg_20, va_up_ne _ _ (by omega), hg_9, va_up_ne _ _ (by omega), hm14 k (by omega)]⟩⟩ (by decide) (by decide) dX11_keep_121
        ·
          have c_18 : ¬ 10511 ≤ i := fun h => c_18 ((nI_leI (a := 10511) (b := i) (by omega) (by omega)).mpr h)
          refine g_aload_n (pc := 21) C dX11_keep_21 0 rfl ?_
          refine g_get (pc := 22) C (j := 13) h_1 rfl rfl (by decide) u_865 dX11_keep_22 ?_
          refine g_sipush (pc := 25) C dX11_keep_25 (v := nI 10511) rfl ?_
          refine g_iload_n (pc := 28) C dX11_keep_28 1 rfl ?_
          refine g_imul (pc := 29) C dX11_keep_29 (z := nI (10511 * k)) (pk_mul _ _) ?_
          refine g_iload_n (pc := 30) C dX11_keep_30 2 rfl ?_
          refine g_iadd (pc := 31) C dX11_keep_31 (z := nI (10511 * k + i)) (nI_add _ _) ?_
          refine g_aload_n (pc := 32) C dX11_keep_32 0 rfl ?_
          refine g_get (pc := 33) C (j := 0) h_1 rfl rfl (by decide) u_852 dX11_keep_33 ?_
          refine g_iload_n (pc := 36) C dX11_keep_36 2 rfl ?_
          refine g_iald (pc := 37) C h_2 (nI_clamp (by omega)) (nI_in0 (n := 10511) (by omega) (by omega)) dX11_keep_37 (x := Z i) rfl ?_
          refine g_iast (pc := 38) C hk14 (nI_clamp (by omega)) (nI_in0 (n := 21022) (by omega) (by omega)) dX11_keep_38 ?_
          obtain ⟨g_75, hg_75⟩ : ∃ yM : pM, yM = va_up gm14 (m + 6) (ai 0 21022 (upd (kcp Kp k Z i) (10511 * k + i) (Z i))) := ⟨_, rfl⟩
          show V K 0 0 P A (va_up gm14 (m + 6) (ai 0 21022 (upd (kcp Kp k Z i) (10511 * k + i) (Z i)))) [(0, .ref (A m)), (1, .int (nI k)), (2, .int (nI i))] 39 []
          rw [← hg_75]
          have h_76 : g_75 m = ob 11 [.ref (A (m + 1)), .int (nI (gZ σ).1), .int (nI (gZ σ).2.1), .int (nI (gZ σ).2.2.1), .int (nI (gZ σ).2.2.2.1), .int (nI (gZ σ).2.2.2.2), .ref (A (m + 2)), .int (nI cs.length), .ref (A (m + 3)), .int (nI lm), .ref (A (m + 4)), .ref (A (m + 5)), .int (nI gm), .ref (A (m + 6)), .ref (A (m + 7)), .ref (A (m + 8))] := by rw [hg_75, va_up_ne _ _ (show m ≠ m + 6 from by omega)]; exact h_1
          have h_77 : g_75 (m + 1) = ai 0 10511 Z := by rw [hg_75, va_up_ne _ _ (show m + 1 ≠ m + 6 from by omega)]; exact h_2
          have h_78 : g_75 (m + 7) = ai 1 2 rk := by rw [hg_75, va_up_ne _ _ (show m + 7 ≠ m + 6 from by omega)]; exact h_3
          have h_79 : g_75 (m + 8) = ai 0 10 szz := by rw [hg_75, va_up_ne _ _ (show m + 8 ≠ m + 6 from by omega)]; exact h_4
          have h_80 : g_75 (m + 6) = ai 0 21022 (upd (kcp Kp k Z i) (10511 * k + i) (Z i)) := by rw [hg_75]; exact va_up_self _ _ _
          have hf_81 : Fr gm14 g_75 (m + 6) (m + 6 + 1) := by rw [hg_75]; exact Fr.up (by omega) (by omega)
          have hp_82 := MC.fr hp_5 hf_81 (by omega)
          have hp_83 := SO.fr hp_6 hf_81 (by omega)
          have hp_84 := SO.fr hp_7 hf_81 (by omega)
          have hp_85 := SO.fr hp_8 hf_81 (by omega)
          refine g_iinc (pc := 39) C dX11_keep_39 (by decide) 2 rfl (v := nI (i + 1)) (nI_i1 _) (lv' := [(0, .ref (A m)), (1, .int (nI k)), (2, .int (nI (i + 1)))]) [1, 2, 0] rfl ?_
          refine g_goto (pc := 42) C dX11_keep_42 (tgt := 14) (by decide) ?_
          exact ih_14 g_75 (hm14.tr (fun k hk => by rw [hg_75, va_up_ne _ _ (by omega)])) (i + 1) (by omega) (h_80.trans (congrArg (fun y => ai 0 21022 y) kcp_s)) (by omega)
    exact lp_14 (_ + 1) g Fr.rf 0 (Nat.zero_le _) (by rw [kcp_0]; exact hk6) (Nat.lt_succ_self _)
  ·
    have c_7 : (decide (nI 0 ≤ x ∧ x ≤ nI 1)) = false := b32_yes c_7
    have c_7 : ¬ (nI 0 ≤ x ∧ x ≤ nI 1) := of_decide_eq_false c_7
    refine g_iconst (pc := 10) C dX11_keep_10 (v := (-1)) rfl ?_
    exact g_iret (pc := 11) C R ⟨rfl, rfl, Or.inl ⟨decide_eq_false (fun z => c_7 ⟨i32_le z.1, by have := z.2; rw [Int32.le_iff_toInt_le, nI_toInt (by omega)]; rw [Int32.lt_iff_toInt_lt] at this; have e2 : (2 : Int32).toInt = 2 := (by decide); omega⟩), rfl, rfl⟩⟩ (by decide) (by decide) dX11_keep_11
abbrev rm_X11_back : Room := { frames := 1, cells := 0, slots := 0, locals := 25 }
theorem Y_X11_back : pY yX11_back cX11_back 3 (Option.some Jvm.ClassFile.FieldType.int) := ⟨u_1128, u_1129, u_13, u_1130⟩
theorem N_X11_back : yX11_back.cls ≠ "java/lang/invoke/MethodHandle" ∧ yX11_back.cls ≠ "java/lang/invoke/VarHandle" ∧ (parseMethodDescriptor yX11_back.desc).map (fun d => d.parameters.length) = some 1 := by decide +kernel
set_option maxRecDepth 20000 in
set_option maxHeartbeats 4000000 in
theorem c_X11_back (A : Nat → Nat) (P : List Nat) (g : pM) (m : Nat) {cs : List Nat} {σ : Sg} {B : Nat} {ks : Nat → Option Sg} (x : Int32) (hKP : KP g m ks) (hS : SW B cs σ) (hM : MM A g m cs σ) : PM yX11_back cX11_back 3 (Option.some Jvm.ClassFile.FieldType.int) rm_X11_back [.ref (A m), .int x] P A g (fun v g' => ((decide (¬ x < 0 ∧ x < 2) = false ∨ ∃ k, k < 2 ∧ x = nI k ∧ ks k = none) ∧ v = some (.int (-1)) ∧ g = g') ∨ (∃ k s, k < 2 ∧ x = nI k ∧ ks k = some s ∧ v = some (.int (nI (gK s))) ∧ MM A g' m cs s ∧ FrA g g' m)) := by
  obtain ⟨⟨lm, gm, l3, l4, l5, hO, hl3, hl4, hl5⟩, ⟨Z, hZ, hR⟩, hC⟩ := id hM
  have hK := hR.k16
  have hT := hR.t24
  have hL := hR.le
  obtain ⟨Kp, rk, szz, hk6, hk7, hk8, hkk⟩ := id hKP
  refine px_intro (by decide +kernel) (Nat.le_of_ble_eq_true rfl) (fun K sz C R => ?_)
  show V K 0 0 P A g [(0, .ref (A m)), (1, .int x)] 0 []
  refine g_iload_n (pc := 0) C dX11_back_0 1 rfl ?_
  refine g_i2l (pc := 1) C dX11_back_1 ?_
  refine g_lconst (pc := 2) C dX11_back_2 (v := 0) rfl ?_
  refine g_lconst (pc := 3) C dX11_back_3 (v := 1) rfl ?_
  refine g_callS (pc := 4) C (As := [.long (x).toInt64, .long 0, .long 1]) (rest := []) (c_X11_in A P g (x).toInt64 0 1) rfl u_908 u_13 u_909 u_907 N_X11_in ⟨by decide, by decide⟩ ⟨by decide, by decide⟩ (Nat.le_of_ble_eq_true rfl) rfl dX11_back_4 ?_
  rintro _ _ _ _ ⟨rfl, rfl, rfl, rfl⟩
  rw [in_c (lo := nI 0) (hi := nI 1) (by decide) (by decide)]
  show V K 0 0 P A g [(0, .ref (A m)), (1, .int x)] 7 [.int (b32 (decide (nI 0 ≤ x ∧ x ≤ nI 1)))]
  refine g_if_eq (pc := 7) C dX11_back_7 (tgt := 19) (by decide) (fun c_7 => ?_) (fun c_7 => ?_)
  ·
    have c_7 : (decide (nI 0 ≤ x ∧ x ≤ nI 1)) = false := b32_yes c_7
    have c_7 : ¬ (nI 0 ≤ x ∧ x ≤ nI 1) := of_decide_eq_false c_7
    refine g_iconst (pc := 19) C dX11_back_19 (v := (-1)) rfl ?_
    exact g_iret (pc := 20) C R ⟨rfl, rfl, Or.inl ⟨Or.inl (decide_eq_false (fun z => c_7 ⟨i32_le z.1, by have := z.2; rw [Int32.le_iff_toInt_le, nI_toInt (by omega)]; rw [Int32.lt_iff_toInt_lt] at this; have e2 : (2 : Int32).toInt = 2 := (by decide); omega⟩)), rfl, rfl⟩⟩ (by decide) (by decide) dX11_back_20
  ·
    have c_7 : (decide (nI 0 ≤ x ∧ x ≤ nI 1)) = true := b32_no c_7
    have c_7 : (nI 0 ≤ x ∧ x ≤ nI 1) := of_decide_eq_true c_7
    obtain ⟨k, -, hk, rfl⟩ := rg_ex (lo := 0) (hi := 1) (by omega) (by omega) (i32_nlt c_7.1) (i32_nlt c_7.2)
    refine g_aload_n (pc := 10) C dX11_back_10 0 rfl ?_
    refine g_get (pc := 11) C (j := 14) hO rfl rfl (by decide) u_866 dX11_back_11 ?_
    refine g_iload_n (pc := 14) C dX11_back_14 1 rfl ?_
    refine g_zald (pc := 15) C hk7 (nI_clamp (by omega)) (nI_in0 (by omega) (by omega)) dX11_back_15 (x := b32 (ks k).isSome) (hkk k (by omega)).1 ?_
    refine g_if_ne (pc := 16) C dX11_back_16 (tgt := 21) (by decide) (fun c_16 => ?_) (fun c_16 => ?_)
    ·
      have c_16 : (ks k).isSome = true := b32_no c_16
      obtain ⟨s, hs⟩ := Option.isSome_iff_exists.mp c_16
      obtain ⟨kz, kz0, kz1, kz2, kz3, kz4⟩ := (hkk k (by omega)).2 s hs
      have hks := kz.k16
      refine g_iconst (pc := 21) C dX11_back_21 (v := nI 0) rfl ?_
      refine g_istore_n (pc := 22) C dX11_back_22 (by decide) (lv' := [(0, .ref (A m)), (1, .int (nI k)), (2, .int (nI 0))]) [1, 2, 0] rfl ?_
      have lp_23 : ∀ (fuel : Nat) (i : Nat) (hi : i ≤ 10511), 10511 - i < fuel → V K 0 0 P A (va_up g (m + 1) (ai 0 10511 (bcp Z Kp k i))) [(0, .ref (A m)), (1, .int (nI k)), (2, .int (nI i))] 23 [] := by
        intro fuel
        induction fuel with
        | zero => intro i hi hμ; exact absurd hμ (Nat.not_lt_zero _)
        | succ fuel ih_23 =>
          intro i hi hμ
          obtain ⟨Y23, hY23⟩ : ∃ yZ : Nat → Int32, yZ = bcp Z Kp k i := ⟨_, rfl⟩
          rw [← hY23]
          obtain ⟨gl23, hgl23⟩ : ∃ y : pM, y = va_up g (m + 1) (ai 0 10511 Y23) := ⟨_, rfl⟩
          rw [← hgl23]
          have hfl23 : Fr g gl23 (m + 1) (m + 2) := by rw [hgl23]; exact Fr.up (by omega) (by omega)
          have hz23 : gl23 (m + 1) = ai 0 10511 Y23 := by rw [hgl23]; exact va_up_self _ _ _
          have h_1 := hfl23.at (by omega) hO
          have h_2 := hfl23.at (by omega) hk6
          have h_3 := hfl23.at (by omega) hk7
          have h_4 := hfl23.at (by omega) hk8
          have hp_5 := MC.fr hC hfl23 (by omega)
          have hp_6 := SO.fr hl3 hfl23 (by omega)
          have hp_7 := SO.fr hl4 hfl23 (by omega)
          have hp_8 := SO.fr hl5 hfl23 (by omega)
          refine g_iload_n (pc := 23) C dX11_back_23 2 rfl ?_
          refine g_sipush (pc := 24) C dX11_back_24 (v := nI 10511) rfl ?_
          refine g_icmp_ge (pc := 27) C dX11_back_27 (tgt := 54) (by decide) (fun c_27 => ?_) (fun c_27 => ?_)
          ·
            have c_27 : 10511 ≤ i := (nI_leI (by omega) (by omega)).mp c_27
            have hRs : RZ Y23 s := kz.cg (fun j hj => by rw [hY23]; simp only [bcp]; rw [if_pos (by omega)])
            refine g_aload_n (pc := 54) C dX11_back_54 0 rfl ?_
            refine g_aload_n (pc := 55) C dX11_back_55 0 rfl ?_
            refine g_get (pc := 56) C (j := 15) h_1 rfl rfl (by decide) u_867 dX11_back_56 ?_
            refine g_iconst (pc := 59) C dX11_back_59 (v := nI 5) rfl ?_
            refine g_iload_n (pc := 60) C dX11_back_60 1 rfl ?_
            refine g_imul (pc := 61) C dX11_back_61 (z := nI (5 * k)) (pk_mul _ _) ?_
            refine g_iald (pc := 62) C h_4 (nI_clamp (by omega)) (nI_in0 (by omega) (by omega)) dX11_back_62 (x := nI (gZ s).1) kz0 ?_
            refine g_put (pc := 63) C (j := 1) h_1 rfl (by decide) (Nat.le_of_ble_eq_true rfl) u_853 rfl pfd_I rfl rfl dX11_back_63 ?_
            obtain ⟨g_9, hg_9⟩ : ∃ yM : pM, yM = va_up gl23 m (ob 11 [.ref (A (m + 1)), .int (nI (gZ s).1), .int (nI (gZ σ).2.1), .int (nI (gZ σ).2.2.1), .int (nI (gZ σ).2.2.2.1), .int (nI (gZ σ).2.2.2.2), .ref (A (m + 2)), .int (nI cs.length), .ref (A (m + 3)), .int (nI lm), .ref (A (m + 4)), .ref (A (m + 5)), .int (nI gm), .ref (A (m + 6)), .ref (A (m + 7)), .ref (A (m + 8))]) := ⟨_, rfl⟩
            show V K 0 0 P A (va_up gl23 m (ob 11 [.ref (A (m + 1)), .int (nI (gZ s).1), .int (nI (gZ σ).2.1), .int (nI (gZ σ).2.2.1), .int (nI (gZ σ).2.2.2.1), .int (nI (gZ σ).2.2.2.2), .ref (A (m + 2)), .int (nI cs.length), .ref (A (m + 3)), .int (nI lm), .ref (A (m + 4)), .ref (A (m + 5)), .int (nI gm), .ref (A (m + 6)), .ref (A (m + 7)), .ref (A (m + 8))])) [(0, .ref (A m)), (1, .int (nI k)), (2, .int (nI i))] 66 []
            rw [← hg_9]
            have h_10 : g_9 m = ob 11 [.ref (A (m + 1)), .int (nI (gZ s).1), .int (nI (gZ σ).2.1), .int (nI (gZ σ).2.2.1), .int (nI (gZ σ).2.2.2.1), .int (nI (gZ σ).2.2.2.2), .ref (A (m + 2)), .int (nI cs.length), .ref (A (m + 3)), .int (nI lm), .ref (A (m + 4)), .ref (A (m + 5)), .int (nI gm), .ref (A (m + 6)), .ref (A (m + 7)), .ref (A (m + 8))] := by rw [hg_9]; exact va_up_self _ _ _
            have h_11 : g_9 (m + 6) = ai 0 21022 Kp := by rw [hg_9, va_up_ne _ _ (show m + 6 ≠ m from by omega)]; exact h_2
            have h_12 : g_9 (m + 7) = ai 1 2 rk := by rw [hg_9, va_up_ne _ _ (show m + 7 ≠ m from by omega)]; exact h_3
            have h_13 : g_9 (m + 8) = ai 0 10 szz := by rw [hg_9, va_up_ne _ _ (show m + 8 ≠ m from by omega)]; exact h_4
            have h_14 : g_9 (m + 1) = ai 0 10511 Y23 := by rw [hg_9, va_up_ne _ _ (show m + 1 ≠ m from by omega)]; exact hz23
            have hf_15 : Fr gl23 g_9 m (m + 1) := by rw [hg_9]; exact Fr.up (by omega) (by omega)
            have hp_16 := MC.fr hp_5 hf_15 (by omega)
            have hp_17 := SO.fr hp_6 hf_15 (by omega)
            have hp_18 := SO.fr hp_7 hf_15 (by omega)
            have hp_19 := SO.fr hp_8 hf_15 (by omega)
            refine g_aload_n (pc := 66) C dX11_back_66 0 rfl ?_
            refine g_aload_n (pc := 67) C dX11_back_67 0 rfl ?_
            refine g_get (pc := 68) C (j := 15) h_10 rfl rfl (by decide) u_867 dX11_back_68 ?_
            refine g_iconst (pc := 71) C dX11_back_71 (v := nI 5) rfl ?_
            refine g_iload_n (pc := 72) C dX11_back_72 1 rfl ?_
            refine g_imul (pc := 73) C dX11_back_73 (z := nI (5 * k)) (pk_mul _ _) ?_
            refine g_iconst (pc := 74) C dX11_back_74 (v := nI 1) rfl ?_
            refine g_iadd (pc := 75) C dX11_back_75 (z := nI (5 * k + 1)) (nI_add _ _) ?_
            refine g_iald (pc := 76) C h_13 (nI_clamp (by omega)) (nI_in0 (by omega) (by omega)) dX11_back_76 (x := nI (gZ s).2.1) kz1 ?_
            refine g_put (pc := 77) C (j := 2) h_10 rfl (by decide) (Nat.le_of_ble_eq_true rfl) u_854 rfl pfd_I rfl rfl dX11_back_77 ?_
            obtain ⟨g_20, hg_20⟩ : ∃ yM : pM, yM = va_up g_9 m (ob 11 [.ref (A (m + 1)), .int (nI (gZ s).1), .int (nI (gZ s).2.1), .int (nI (gZ σ).2.2.1), .int (nI (gZ σ).2.2.2.1), .int (nI (gZ σ).2.2.2.2), .ref (A (m + 2)), .int (nI cs.length), .ref (A (m + 3)), .int (nI lm), .ref (A (m + 4)), .ref (A (m + 5)), .int (nI gm), .ref (A (m + 6)), .ref (A (m + 7)), .ref (A (m + 8))]) := ⟨_, rfl⟩
            show V K 0 0 P A (va_up g_9 m (ob 11 [.ref (A (m + 1)), .int (nI (gZ s).1), .int (nI (gZ s).2.1), .int (nI (gZ σ).2.2.1), .int (nI (gZ σ).2.2.2.1), .int (nI (gZ σ).2.2.2.2), .ref (A (m + 2)), .int (nI cs.length), .ref (A (m + 3)), .int (nI lm), .ref (A (m + 4)), .ref (A (m + 5)), .int (nI gm), .ref (A (m + 6)), .ref (A (m + 7)), .ref (A (m + 8))])) [(0, .ref (A m)), (1, .int (nI k)), (2, .int (nI i))] 80 []
            rw [← hg_20]
            have h_21 : g_20 m = ob 11 [.ref (A (m + 1)), .int (nI (gZ s).1), .int (nI (gZ s).2.1), .int (nI (gZ σ).2.2.1), .int (nI (gZ σ).2.2.2.1), .int (nI (gZ σ).2.2.2.2), .ref (A (m + 2)), .int (nI cs.length), .ref (A (m + 3)), .int (nI lm), .ref (A (m + 4)), .ref (A (m + 5)), .int (nI gm), .ref (A (m + 6)), .ref (A (m + 7)), .ref (A (m + 8))] := by rw [hg_20]; exact va_up_self _ _ _
            have h_22 : g_20 (m + 6) = ai 0 21022 Kp := by rw [hg_20, va_up_ne _ _ (show m + 6 ≠ m from by omega)]; exact h_11
            have h_23 : g_20 (m + 7) = ai 1 2 rk := by rw [hg_20, va_up_ne _ _ (show m + 7 ≠ m from by omega)]; exact h_12
            have h_24 : g_20 (m + 8) = ai 0 10 szz := by rw [hg_20, va_up_ne _ _ (show m + 8 ≠ m from by omega)]; exact h_13
            have h_25 : g_20 (m + 1) = ai 0 10511 Y23 := by rw [hg_20, va_up_ne _ _ (show m + 1 ≠ m from by omega)]; exact h_14
            have hf_26 : Fr g_9 g_20 m (m + 1) := by rw [hg_20]; exact Fr.up (by omega) (by omega)
            have hp_27 := MC.fr hp_16 hf_26 (by omega)
            have hp_28 := SO.fr hp_17 hf_26 (by omega)
            have hp_29 := SO.fr hp_18 hf_26 (by omega)
            have hp_30 := SO.fr hp_19 hf_26 (by omega)
            refine g_aload_n (pc := 80) C dX11_back_80 0 rfl ?_
            refine g_aload_n (pc := 81) C dX11_back_81 0 rfl ?_
            refine g_get (pc := 82) C (j := 15) h_21 rfl rfl (by decide) u_867 dX11_back_82 ?_
            refine g_iconst (pc := 85) C dX11_back_85 (v := nI 5) rfl ?_
            refine g_iload_n (pc := 86) C dX11_back_86 1 rfl ?_
            refine g_imul (pc := 87) C dX11_back_87 (z := nI (5 * k)) (pk_mul _ _) ?_
            refine g_iconst (pc := 88) C dX11_back_88 (v := nI 2) rfl ?_
            refine g_iadd (pc := 89) C dX11_back_89 (z := nI (5 * k + 2)) (nI_add _ _) ?_
            refine g_iald (pc := 90) C h_24 (nI_clamp (by omega)) (nI_in0 (by omega) (by omega)) dX11_back_90 (x := nI (gZ s).2.2.1) kz2 ?_
            refine g_put (pc := 91) C (j := 3) h_21 rfl (by decide) (Nat.le_of_ble_eq_true rfl) u_855 rfl pfd_I rfl rfl dX11_back_91 ?_
            obtain ⟨g_31, hg_31⟩ : ∃ yM : pM, yM = va_up g_20 m (ob 11 [.ref (A (m + 1)), .int (nI (gZ s).1), .int (nI (gZ s).2.1), .int (nI (gZ s).2.2.1), .int (nI (gZ σ).2.2.2.1), .int (nI (gZ σ).2.2.2.2), .ref (A (m + 2)), .int (nI cs.length), .ref (A (m + 3)), .int (nI lm), .ref (A (m + 4)), .ref (A (m + 5)), .int (nI gm), .ref (A (m + 6)), .ref (A (m + 7)), .ref (A (m + 8))]) := ⟨_, rfl⟩
            show V K 0 0 P A (va_up g_20 m (ob 11 [.ref (A (m + 1)), .int (nI (gZ s).1), .int (nI (gZ s).2.1), .int (nI (gZ s).2.2.1), .int (nI (gZ σ).2.2.2.1), .int (nI (gZ σ).2.2.2.2), .ref (A (m + 2)), .int (nI cs.length), .ref (A (m + 3)), .int (nI lm), .ref (A (m + 4)), .ref (A (m + 5)), .int (nI gm), .ref (A (m + 6)), .ref (A (m + 7)), .ref (A (m + 8))])) [(0, .ref (A m)), (1, .int (nI k)), (2, .int (nI i))] 94 []
            rw [← hg_31]
            have h_32 : g_31 m = ob 11 [.ref (A (m + 1)), .int (nI (gZ s).1), .int (nI (gZ s).2.1), .int (nI (gZ s).2.2.1), .int (nI (gZ σ).2.2.2.1), .int (nI (gZ σ).2.2.2.2), .ref (A (m + 2)), .int (nI cs.length), .ref (A (m + 3)), .int (nI lm), .ref (A (m + 4)), .ref (A (m + 5)), .int (nI gm), .ref (A (m + 6)), .ref (A (m + 7)), .ref (A (m + 8))] := by rw [hg_31]; exact va_up_self _ _ _
            have h_33 : g_31 (m + 6) = ai 0 21022 Kp := by rw [hg_31, va_up_ne _ _ (show m + 6 ≠ m from by omega)]; exact h_22
            have h_34 : g_31 (m + 7) = ai 1 2 rk := by rw [hg_31, va_up_ne _ _ (show m + 7 ≠ m from by omega)]; exact h_23
            have h_35 : g_31 (m + 8) = ai 0 10 szz := by rw [hg_31, va_up_ne _ _ (show m + 8 ≠ m from by omega)]; exact h_24
            have h_36 : g_31 (m + 1) = ai 0 10511 Y23 := by rw [hg_31, va_up_ne _ _ (show m + 1 ≠ m from by omega)]; exact h_25
            have hf_37 : Fr g_20 g_31 m (m + 1) := by rw [hg_31]; exact Fr.up (by omega) (by omega)
            have hp_38 := MC.fr hp_27 hf_37 (by omega)
            have hp_39 := SO.fr hp_28 hf_37 (by omega)
            have hp_40 := SO.fr hp_29 hf_37 (by omega)
            have hp_41 := SO.fr hp_30 hf_37 (by omega)
            refine g_aload_n (pc := 94) C dX11_back_94 0 rfl ?_
            refine g_aload_n (pc := 95) C dX11_back_95 0 rfl ?_
            refine g_get (pc := 96) C (j := 15) h_32 rfl rfl (by decide) u_867 dX11_back_96 ?_
            refine g_iconst (pc := 99) C dX11_back_99 (v := nI 5) rfl ?_
            refine g_iload_n (pc := 100) C dX11_back_100 1 rfl ?_
            refine g_imul (pc := 101) C dX11_back_101 (z := nI (5 * k)) (pk_mul _ _) ?_
            refine g_iconst (pc := 102) C dX11_back_102 (v := nI 3) rfl ?_
            refine g_iadd (pc := 103) C dX11_back_103 (z := nI (5 * k + 3)) (nI_add _ _) ?_
            refine g_iald (pc := 104) C h_35 (nI_clamp (by omega)) (nI_in0 (by omega) (by omega)) dX11_back_104 (x := nI (gZ s).2.2.2.1) kz3 ?_
            refine g_put (pc := 105) C (j := 4) h_32 rfl (by decide) (Nat.le_of_ble_eq_true rfl) u_856 rfl pfd_I rfl rfl dX11_back_105 ?_
            obtain ⟨g_42, hg_42⟩ : ∃ yM : pM, yM = va_up g_31 m (ob 11 [.ref (A (m + 1)), .int (nI (gZ s).1), .int (nI (gZ s).2.1), .int (nI (gZ s).2.2.1), .int (nI (gZ s).2.2.2.1), .int (nI (gZ σ).2.2.2.2), .ref (A (m + 2)), .int (nI cs.length), .ref (A (m + 3)), .int (nI lm), .ref (A (m + 4)), .ref (A (m + 5)), .int (nI gm), .ref (A (m + 6)), .ref (A (m + 7)), .ref (A (m + 8))]) := ⟨_, rfl⟩
            show V K 0 0 P A (va_up g_31 m (ob 11 [.ref (A (m + 1)), .int (nI (gZ s).1), .int (nI (gZ s).2.1), .int (nI (gZ s).2.2.1), .int (nI (gZ s).2.2.2.1), .int (nI (gZ σ).2.2.2.2), .ref (A (m + 2)), .int (nI cs.length), .ref (A (m + 3)), .int (nI lm), .ref (A (m + 4)), .ref (A (m + 5)), .int (nI gm), .ref (A (m + 6)), .ref (A (m + 7)), .ref (A (m + 8))])) [(0, .ref (A m)), (1, .int (nI k)), (2, .int (nI i))] 108 []
            rw [← hg_42]
            have h_43 : g_42 m = ob 11 [.ref (A (m + 1)), .int (nI (gZ s).1), .int (nI (gZ s).2.1), .int (nI (gZ s).2.2.1), .int (nI (gZ s).2.2.2.1), .int (nI (gZ σ).2.2.2.2), .ref (A (m + 2)), .int (nI cs.length), .ref (A (m + 3)), .int (nI lm), .ref (A (m + 4)), .ref (A (m + 5)), .int (nI gm), .ref (A (m + 6)), .ref (A (m + 7)), .ref (A (m + 8))] := by rw [hg_42]; exact va_up_self _ _ _
            have h_44 : g_42 (m + 6) = ai 0 21022 Kp := by rw [hg_42, va_up_ne _ _ (show m + 6 ≠ m from by omega)]; exact h_33
            have h_45 : g_42 (m + 7) = ai 1 2 rk := by rw [hg_42, va_up_ne _ _ (show m + 7 ≠ m from by omega)]; exact h_34
            have h_46 : g_42 (m + 8) = ai 0 10 szz := by rw [hg_42, va_up_ne _ _ (show m + 8 ≠ m from by omega)]; exact h_35
            have h_47 : g_42 (m + 1) = ai 0 10511 Y23 := by rw [hg_42, va_up_ne _ _ (show m + 1 ≠ m from by omega)]; exact h_36
            have hf_48 : Fr g_31 g_42 m (m + 1) := by rw [hg_42]; exact Fr.up (by omega) (by omega)
            have hp_49 := MC.fr hp_38 hf_48 (by omega)
            have hp_50 := SO.fr hp_39 hf_48 (by omega)
            have hp_51 := SO.fr hp_40 hf_48 (by omega)
            have hp_52 := SO.fr hp_41 hf_48 (by omega)
            refine g_aload_n (pc := 108) C dX11_back_108 0 rfl ?_
            refine g_aload_n (pc := 109) C dX11_back_109 0 rfl ?_
            refine g_get (pc := 110) C (j := 15) h_43 rfl rfl (by decide) u_867 dX11_back_110 ?_
            refine g_iconst (pc := 113) C dX11_back_113 (v := nI 5) rfl ?_
            refine g_iload_n (pc := 114) C dX11_back_114 1 rfl ?_
            refine g_imul (pc := 115) C dX11_back_115 (z := nI (5 * k)) (pk_mul _ _) ?_
            refine g_iconst (pc := 116) C dX11_back_116 (v := nI 4) rfl ?_
            refine g_iadd (pc := 117) C dX11_back_117 (z := nI (5 * k + 4)) (nI_add _ _) ?_
            refine g_iald (pc := 118) C h_46 (nI_clamp (by omega)) (nI_in0 (by omega) (by omega)) dX11_back_118 (x := nI (gZ s).2.2.2.2) kz4 ?_
            refine g_put (pc := 119) C (j := 5) h_43 rfl (by decide) (Nat.le_of_ble_eq_true rfl) u_857 rfl pfd_I rfl rfl dX11_back_119 ?_
            obtain ⟨g_53, hg_53⟩ : ∃ yM : pM, yM = va_up g_42 m (ob 11 [.ref (A (m + 1)), .int (nI (gZ s).1), .int (nI (gZ s).2.1), .int (nI (gZ s).2.2.1), .int (nI (gZ s).2.2.2.1), .int (nI (gZ s).2.2.2.2), .ref (A (m + 2)), .int (nI cs.length), .ref (A (m + 3)), .int (nI lm), .ref (A (m + 4)), .ref (A (m + 5)), .int (nI gm), .ref (A (m + 6)), .ref (A (m + 7)), .ref (A (m + 8))]) := ⟨_, rfl⟩
            show V K 0 0 P A (va_up g_42 m (ob 11 [.ref (A (m + 1)), .int (nI (gZ s).1), .int (nI (gZ s).2.1), .int (nI (gZ s).2.2.1), .int (nI (gZ s).2.2.2.1), .int (nI (gZ s).2.2.2.2), .ref (A (m + 2)), .int (nI cs.length), .ref (A (m + 3)), .int (nI lm), .ref (A (m + 4)), .ref (A (m + 5)), .int (nI gm), .ref (A (m + 6)), .ref (A (m + 7)), .ref (A (m + 8))])) [(0, .ref (A m)), (1, .int (nI k)), (2, .int (nI i))] 122 []
            rw [← hg_53]
            have h_54 : g_53 m = ob 11 [.ref (A (m + 1)), .int (nI (gZ s).1), .int (nI (gZ s).2.1), .int (nI (gZ s).2.2.1), .int (nI (gZ s).2.2.2.1), .int (nI (gZ s).2.2.2.2), .ref (A (m + 2)), .int (nI cs.length), .ref (A (m + 3)), .int (nI lm), .ref (A (m + 4)), .ref (A (m + 5)), .int (nI gm), .ref (A (m + 6)), .ref (A (m + 7)), .ref (A (m + 8))] := by rw [hg_53]; exact va_up_self _ _ _
            have h_55 : g_53 (m + 6) = ai 0 21022 Kp := by rw [hg_53, va_up_ne _ _ (show m + 6 ≠ m from by omega)]; exact h_44
            have h_56 : g_53 (m + 7) = ai 1 2 rk := by rw [hg_53, va_up_ne _ _ (show m + 7 ≠ m from by omega)]; exact h_45
            have h_57 : g_53 (m + 8) = ai 0 10 szz := by rw [hg_53, va_up_ne _ _ (show m + 8 ≠ m from by omega)]; exact h_46
            have h_58 : g_53 (m + 1) = ai 0 10511 Y23 := by rw [hg_53, va_up_ne _ _ (show m + 1 ≠ m from by omega)]; exact h_47
            have hf_59 : Fr g_42 g_53 m (m + 1) := by rw [hg_53]; exact Fr.up (by omega) (by omega)
            have hp_60 := MC.fr hp_49 hf_59 (by omega)
            have hp_61 := SO.fr hp_50 hf_59 (by omega)
            have hp_62 := SO.fr hp_51 hf_59 (by omega)
            have hp_63 := SO.fr hp_52 hf_59 (by omega)
            refine g_aload_n (pc := 122) C dX11_back_122 0 rfl ?_
            refine g_get (pc := 123) C (j := 0) h_54 rfl rfl (by decide) u_852 dX11_back_123 ?_
            refine g_sipush (pc := 126) C dX11_back_126 (v := nI 10505) rfl ?_
            refine g_iald (pc := 129) C h_58 (nI_clamp (by omega)) (nI_in0 (n := 10511) (by omega) (by omega)) dX11_back_129 (x := nI (gK s)) (RZ.rK hRs (by omega)) ?_
            exact g_iret (pc := 130) C R ⟨rfl, rfl, Or.inr ⟨k, s, by omega, rfl, hs, rfl, ⟨⟨_, _, _, _, _, h_54, hp_61, hp_62, hp_63⟩, ⟨_, h_58, hRs⟩, hp_60⟩, (show Fr _ _ m (m + 2) from fun k hk => by rw [hg_53, va_up_ne _ _ (by omega), hg_42, va_up_ne _ _ (by omega), hg_31, va_up_ne _ _ (by omega), hg_20, va_up_ne _ _ (by omega), hg_9, va_up_ne _ _ (by omega), hfl23 k (by omega)]).a (by omega)⟩⟩ (by decide) (by decide) dX11_back_130
          ·
            have c_27 : ¬ 10511 ≤ i := fun h => c_27 ((nI_leI (a := 10511) (b := i) (by omega) (by omega)).mpr h)
            refine g_aload_n (pc := 30) C dX11_back_30 0 rfl ?_
            refine g_get (pc := 31) C (j := 0) h_1 rfl rfl (by decide) u_852 dX11_back_31 ?_
            refine g_iload_n (pc := 34) C dX11_back_34 2 rfl ?_
            refine g_aload_n (pc := 35) C dX11_back_35 0 rfl ?_
            refine g_get (pc := 36) C (j := 13) h_1 rfl rfl (by decide) u_865 dX11_back_36 ?_
            refine g_sipush (pc := 39) C dX11_back_39 (v := nI 10511) rfl ?_
            refine g_iload_n (pc := 42) C dX11_back_42 1 rfl ?_
            refine g_imul (pc := 43) C dX11_back_43 (z := nI (10511 * k)) (pk_mul _ _) ?_
            refine g_iload_n (pc := 44) C dX11_back_44 2 rfl ?_
            refine g_iadd (pc := 45) C dX11_back_45 (z := nI (10511 * k + i)) (nI_add _ _) ?_
            refine g_iald (pc := 46) C h_2 (nI_clamp (by omega)) (nI_in0 (n := 21022) (by omega) (by omega)) dX11_back_46 (x := Kp (10511 * k + i)) rfl ?_
            refine g_iast (pc := 47) C hz23 (nI_clamp (by omega)) (nI_in0 (n := 10511) (by omega) (by omega)) dX11_back_47 ?_
            obtain ⟨Z_64, hZ_64⟩ : ∃ yZ : Nat → Int32, yZ = upd Y23 i (Kp (10511 * k + i)) := ⟨_, rfl⟩
            show V K 0 0 P A (va_up gl23 (m + 1) (ai 0 10511 (upd Y23 i (Kp (10511 * k + i))))) [(0, .ref (A m)), (1, .int (nI k)), (2, .int (nI i))] 48 []
            rw [← hZ_64]
            obtain ⟨g_65, hg_65⟩ : ∃ yM : pM, yM = va_up gl23 (m + 1) (ai 0 10511 Z_64) := ⟨_, rfl⟩
            show V K 0 0 P A (va_up gl23 (m + 1) (ai 0 10511 Z_64)) [(0, .ref (A m)), (1, .int (nI k)), (2, .int (nI i))] 48 []
            rw [← hg_65]
            have h_66 : g_65 m = ob 11 [.ref (A (m + 1)), .int (nI (gZ σ).1), .int (nI (gZ σ).2.1), .int (nI (gZ σ).2.2.1), .int (nI (gZ σ).2.2.2.1), .int (nI (gZ σ).2.2.2.2), .ref (A (m + 2)), .int (nI cs.length), .ref (A (m + 3)), .int (nI lm), .ref (A (m + 4)), .ref (A (m + 5)), .int (nI gm), .ref (A (m + 6)), .ref (A (m + 7)), .ref (A (m + 8))] := by rw [hg_65, va_up_ne _ _ (show m ≠ m + 1 from by omega)]; exact h_1
            have h_67 : g_65 (m + 6) = ai 0 21022 Kp := by rw [hg_65, va_up_ne _ _ (show m + 6 ≠ m + 1 from by omega)]; exact h_2
            have h_68 : g_65 (m + 7) = ai 1 2 rk := by rw [hg_65, va_up_ne _ _ (show m + 7 ≠ m + 1 from by omega)]; exact h_3
            have h_69 : g_65 (m + 8) = ai 0 10 szz := by rw [hg_65, va_up_ne _ _ (show m + 8 ≠ m + 1 from by omega)]; exact h_4
            have h_70 : g_65 (m + 1) = ai 0 10511 Z_64 := by rw [hg_65]; exact va_up_self _ _ _
            have hf_71 : Fr gl23 g_65 (m + 1) (m + 1 + 1) := by rw [hg_65]; exact Fr.up (by omega) (by omega)
            have hp_72 := MC.fr hp_5 hf_71 (by omega)
            have hp_73 := SO.fr hp_6 hf_71 (by omega)
            have hp_74 := SO.fr hp_7 hf_71 (by omega)
            have hp_75 := SO.fr hp_8 hf_71 (by omega)
            refine g_iinc (pc := 48) C dX11_back_48 (by decide) 2 rfl (v := nI (i + 1)) (nI_i1 _) (lv' := [(0, .ref (A m)), (1, .int (nI k)), (2, .int (nI (i + 1)))]) [1, 2, 0] rfl ?_
            refine g_goto (pc := 51) C dX11_back_51 (tgt := 23) (by decide) ?_
            rw [show g_65 = va_up g (m + 1) (ai 0 10511 (bcp Z Kp k (i + 1))) from by rw [hg_65, hgl23, bx_uu, hZ_64, hY23, bcp_s]]
            exact ih_23 (i + 1) (by omega) (by omega)
      rw [show g = va_up g (m + 1) (ai 0 10511 (bcp Z Kp k 0)) from (va_up_id (by rw [hZ, bcp_0])).symm]
      exact lp_23 (_ + 1) 0 (Nat.zero_le _) (Nat.lt_succ_self _)
    ·
      have c_16 : (ks k).isSome = false := b32_yes c_16
      refine g_iconst (pc := 19) C dX11_back_19 (v := (-1)) rfl ?_
      exact g_iret (pc := 20) C R ⟨rfl, rfl, Or.inl ⟨Or.inr ⟨k, by omega, rfl, Option.isSome_eq_false_iff.mp c_16 |> Option.isNone_iff_eq_none.mp⟩, rfl, rfl⟩⟩ (by decide) (by decide) dX11_back_20
