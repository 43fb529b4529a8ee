-- PART 27: the reference: a letter comes; its calls that change the state
theorem rz_tak {Z Z1 Z2 Z3 : Nat → Int32} {σ σ1 : Sg} {i : Nat} {u : Lt} (e : σ1 = sR σ ((gR σ).eraseIdx i)) (h : RZ Z σ1) (hr : u.2.1 < gK σ) (hk : 1 ≤ u.2.2.1) (hk2 : u.2.2.1 ≤ 12) (e1 : Z1 = upd Z (10492 + u.2.2.1) (gC σ1 u.2.2.1 + nI 1)) (e2 : Z2 = upd Z1 10492 (gC σ1 0 + nI 1)) (e3 : Z3 = upd Z2 (80 + u.2.1) (nGo (gN σ1 u.2.1) + nI 1)) : RZ Z3 (tak σ i u) := by
  subst e
  have h1 := RZ.sC (k := u.2.2.1) h (by omega) e1
  have h2 := RZ.sC (k := 0) h1 (by omega) e2
  have h3 := RZ.wGo (r := u.2.1) h2 hr e3
  have hb : va_up (va_up (gC σ) u.2.2.1 (gC σ u.2.2.1 + nI 1)) 0 (gC σ 0 + nI 1) = bmp (bmp (gC σ) 0) u.2.2.1 := by
    funext j
    simp only [bmp]
    by_cases a : j = 0
    · subst a
      rw [va_up_self, va_up_ne _ _ (show (0 : Nat) ≠ u.2.2.1 by omega), va_up_self]
      rfl
    · rw [va_up_ne _ _ a]
      by_cases b : j = u.2.2.1
      · subst b
        rw [va_up_self, va_up_self, va_up_ne _ _ a]
        rfl
      · rw [va_up_ne _ _ b, va_up_ne _ _ b, va_up_ne _ _ a]
  have he : sNd (sC (sC (sR σ ((gR σ).eraseIdx i)) (va_up (gC σ) u.2.2.1 (gC σ u.2.2.1 + nI 1))) (va_up (va_up (gC σ) u.2.2.1 (gC σ u.2.2.1 + nI 1)) 0 (gC σ 0 + nI 1))) u.2.1 (sGo (gN σ u.2.1) (nGo (gN σ u.2.1) + nI 1)) = tak σ i u := by
    rw [hb]
    rfl
  exact he ▸ h3
theorem tak_K {σ : Sg} {i : Nat} {t : Lt} : gK (tak σ i t) = gK σ := rfl
/-- the reference's object and its rows at work -/
def MSc (A : Nat → Nat) (g : pM) (m : Nat) (z : Sz) (n : Nat) : Prop := ∃ lm gm l3 l4 l5, g m = mOb A m z n lm gm ∧ SO g (m + 3) 5 l3 ∧ SO g (m + 4) 16 l4 ∧ SO g (m + 5) 5 l5
def MM (A : Nat → Nat) (g : pM) (m : Nat) (cs : List Nat) (σ : Sg) : Prop := MSc A g m (gZ σ) cs.length ∧ ZS g m σ ∧ MC g m cs
theorem any_take {row : List Lt} {k s t : Nat} {q : Lt} (h : row[k]? = some q) : (row.take (k + 1)).any (fun q => q.1 == s && q.2.1 == t) = ((row.take k).any (fun q => q.1 == s && q.2.1 == t) || (q.1 == s && q.2.1 == t)) := by
  rw [List.take_succ, h, List.any_append]
  simp
abbrev rm_X11_comes : Room := { frames := 7, cells := 0, slots := 0, locals := 178 }
theorem Y_X11_comes : pY yX11_comes cX11_comes 9 (Option.some Jvm.ClassFile.FieldType.int) := ⟨u_1019, us_19, u_13, u_1020⟩
theorem N_X11_comes : yX11_comes.cls ≠ "java/lang/invoke/MethodHandle" ∧ yX11_comes.cls ≠ "java/lang/invoke/VarHandle" ∧ (parseMethodDescriptor yX11_comes.desc).map (fun d => d.parameters.length) = some 1 := by decide +kernel
set_option maxRecDepth 20000 in
set_option maxHeartbeats 4000000 in
theorem c_X11_comes (A : Nat → Nat) (P : List Nat) (g : pM) (m : Nat) {cs : List Nat} {lm gm : Nat} {Z : Nat → Int32} {σ : Sg} {B : Nat} (i : Nat) (u : Lt) (hu : (gR σ)[i]? = some u) (hS : SW B cs σ) (hB : B + 1 < 2 ^ 30) (hC : MC g m cs) {l3 : List Nat} (hl3 : SO g (m + 3) 5 l3) {l4 : List Nat} (hl4 : SO g (m + 4) 16 l4) {l5 : List Nat} (hl5 : SO g (m + 5) 5 l5) (hO : g m = mOb A m (gZ σ) cs.length lm gm) (hZ : g (m + 1) = ai 0 10511 Z) (hR : RZ Z σ) : PM yX11_comes cX11_comes 9 (Option.some Jvm.ClassFile.FieldType.int) rm_X11_comes [.ref (A m), .int (nI i)] P A g (fun v g' => v = some (.int (nI u.2.2.1)) ∧ ZS g' m (cme cs σ i u) ∧ MSc A g' m (gZ σ) cs.length ∧ FrA g g' m) := by
  have hK := hR.k16
  have hT := hR.t24
  have hL := hR.le
  obtain ⟨hg0, rg, hg1, hg2⟩ := hl5
  have hi := (List.getElem?_eq_some_iff.mp hu).1
  obtain ⟨hw1, hw2, hw3, hw4, hw5, hw6, hw7, hw8, hw9, hw10, hw11⟩ := hS.2.2.2.2.2.1 u (List.mem_of_getElem? hu)
  have hx24o : 9 ≤ u.2.2.1 → u.2.2.1 ≤ 11 → u.2.2.2.1 < 24 ∨ (u.2.2.1 = 11 ∧ u.2.2.2.2.1 = 0) := fun z1 z2 => by
      by_cases z : u.2.2.1 = 11 ∧ u.2.2.2.2.1 = 0
      · exact Or.inr z
      · exact Or.inl (by have := hw8 (by omega); omega)
  refine px_intro (by decide +kernel) (Nat.le_of_ble_eq_true rfl) (fun K sz C R => ?_)
  show V K 0 0 P A g [(0, .ref (A m)), (1, .int (nI i))] 0 []
  refine g_aload_n (pc := 0) C dX11_comes_0 0 rfl ?_
  refine g_iload_n (pc := 1) C dX11_comes_1 1 rfl ?_
  refine g_iconst (pc := 2) C dX11_comes_2 (v := nI 0) rfl ?_
  refine g_callV (pc := 3) C (As := [.int (nI i), .int (nI 0)]) (rest := []) (b := m) (c_X11_ofLetter A P g m i 0) hO rfl rfl Y_X11_ofLetter u_945 N_X11_ofLetter ⟨by decide, by decide⟩ ⟨by decide, by decide⟩ (Nat.le_of_ble_eq_true rfl) rfl dX11_comes_3 ?_
  rintro _ _ _ _ ⟨rfl, rfl, rfl, rfl⟩
  show V K 0 0 P A g [(0, .ref (A m)), (1, .int (nI i))] 6 [.int (nI (4992 + 11 * i + 0))]
  refine g_istore_n (pc := 6) C dX11_comes_6 (by decide) (lv' := [(0, .ref (A m)), (1, .int (nI i)), (2, .int (nI (4992 + 11 * i + 0)))]) [1, 2, 0] rfl ?_
  refine g_aload_n (pc := 7) C dX11_comes_7 0 rfl ?_
  refine g_get (pc := 8) C (j := 0) hO rfl rfl (by decide) u_852 dX11_comes_8 ?_
  refine g_iload_n (pc := 11) C dX11_comes_11 2 rfl ?_
  refine g_iconst (pc := 12) C dX11_comes_12 (v := nI 0) rfl ?_
  refine g_iadd (pc := 13) C dX11_comes_13 (z := nI (4992 + 11 * i + 0 + 0)) (nI_add _ _) ?_
  refine g_iald (pc := 14) C hZ (nI_clamp (by omega)) (nI_in0 (n := 10511) (by omega) (by omega)) dX11_comes_14 (x := nI u.1) (RZ.rL hR (i := i) 0 (by omega) hu (by omega)) ?_
  refine g_istore_n (pc := 15) C dX11_comes_15 (by decide) (lv' := [(0, .ref (A m)), (1, .int (nI i)), (2, .int (nI (4992 + 11 * i + 0))), (3, .int (nI u.1))]) [1, 2, 3, 0] rfl ?_
  refine g_aload_n (pc := 16) C dX11_comes_16 0 rfl ?_
  refine g_get (pc := 17) C (j := 0) hO rfl rfl (by decide) u_852 dX11_comes_17 ?_
  refine g_iload_n (pc := 20) C dX11_comes_20 2 rfl ?_
  refine g_iconst (pc := 21) C dX11_comes_21 (v := nI 1) rfl ?_
  refine g_iadd (pc := 22) C dX11_comes_22 (z := nI (4992 + 11 * i + 0 + 1)) (nI_add _ _) ?_
  refine g_iald (pc := 23) C hZ (nI_clamp (by omega)) (nI_in0 (n := 10511) (by omega) (by omega)) dX11_comes_23 (x := nI u.2.1) (RZ.rL hR (i := i) 1 (by omega) hu (by omega)) ?_
  refine g_istore (pc := 24) C dX11_comes_24 (by decide) (lv' := [(0, .ref (A m)), (1, .int (nI i)), (2, .int (nI (4992 + 11 * i + 0))), (3, .int (nI u.1)), (4, .int (nI u.2.1))]) [1, 2, 3, 4, 0] rfl ?_
  refine g_aload_n (pc := 26) C dX11_comes_26 0 rfl ?_
  refine g_get (pc := 27) C (j := 0) hO rfl rfl (by decide) u_852 dX11_comes_27 ?_
  refine g_iload_n (pc := 30) C dX11_comes_30 2 rfl ?_
  refine g_iconst (pc := 31) C dX11_comes_31 (v := nI 2) rfl ?_
  refine g_iadd (pc := 32) C dX11_comes_32 (z := nI (4992 + 11 * i + 0 + 2)) (nI_add _ _) ?_
  refine g_iald (pc := 33) C hZ (nI_clamp (by omega)) (nI_in0 (n := 10511) (by omega) (by omega)) dX11_comes_33 (x := nI u.2.2.1) (RZ.rL hR (i := i) 2 (by omega) hu (by omega)) ?_
  refine g_istore (pc := 34) C dX11_comes_34 (by decide) (lv' := [(0, .ref (A m)), (1, .int (nI i)), (2, .int (nI (4992 + 11 * i + 0))), (3, .int (nI u.1)), (4, .int (nI u.2.1)), (5, .int (nI u.2.2.1))]) [1, 2, 3, 4, 5, 0] rfl ?_
  refine g_aload_n (pc := 36) C dX11_comes_36 0 rfl ?_
  refine g_get (pc := 37) C (j := 0) hO rfl rfl (by decide) u_852 dX11_comes_37 ?_
  refine g_iload_n (pc := 40) C dX11_comes_40 2 rfl ?_
  refine g_iconst (pc := 41) C dX11_comes_41 (v := nI 3) rfl ?_
  refine g_iadd (pc := 42) C dX11_comes_42 (z := nI (4992 + 11 * i + 0 + 3)) (nI_add _ _) ?_
  refine g_iald (pc := 43) C hZ (nI_clamp (by omega)) (nI_in0 (n := 10511) (by omega) (by omega)) dX11_comes_43 (x := nI u.2.2.2.1) (RZ.rL hR (i := i) 3 (by omega) hu (by omega)) ?_
  refine g_istore (pc := 44) C dX11_comes_44 (by decide) (lv' := [(0, .ref (A m)), (1, .int (nI i)), (2, .int (nI (4992 + 11 * i + 0))), (3, .int (nI u.1)), (4, .int (nI u.2.1)), (5, .int (nI u.2.2.1)), (6, .int (nI u.2.2.2.1))]) [1, 2, 3, 4, 5, 6, 0] rfl ?_
  refine g_aload_n (pc := 46) C dX11_comes_46 0 rfl ?_
  refine g_get (pc := 47) C (j := 0) hO rfl rfl (by decide) u_852 dX11_comes_47 ?_
  refine g_iload_n (pc := 50) C dX11_comes_50 2 rfl ?_
  refine g_iconst (pc := 51) C dX11_comes_51 (v := nI 4) rfl ?_
  refine g_iadd (pc := 52) C dX11_comes_52 (z := nI (4992 + 11 * i + 0 + 4)) (nI_add _ _) ?_
  refine g_iald (pc := 53) C hZ (nI_clamp (by omega)) (nI_in0 (n := 10511) (by omega) (by omega)) dX11_comes_53 (x := nI u.2.2.2.2.1) (RZ.rL hR (i := i) 4 (by omega) hu (by omega)) ?_
  refine g_istore (pc := 54) C dX11_comes_54 (by decide) (lv' := [(0, .ref (A m)), (1, .int (nI i)), (2, .int (nI (4992 + 11 * i + 0))), (3, .int (nI u.1)), (4, .int (nI u.2.1)), (5, .int (nI u.2.2.1)), (6, .int (nI u.2.2.2.1)), (7, .int (nI u.2.2.2.2.1))]) [1, 2, 3, 4, 5, 6, 7, 0] rfl ?_
  refine g_aload_n (pc := 56) C dX11_comes_56 0 rfl ?_
  refine g_aload_n (pc := 57) C dX11_comes_57 0 rfl ?_
  refine g_get (pc := 58) C (j := 0) hO rfl rfl (by decide) u_852 dX11_comes_58 ?_
  refine g_iload_n (pc := 61) C dX11_comes_61 2 rfl ?_
  refine g_iconst (pc := 62) C dX11_comes_62 (v := nI 5) rfl ?_
  refine g_iadd (pc := 63) C dX11_comes_63 (z := nI (4992 + 11 * i + 0 + 5)) (nI_add _ _) ?_
  refine g_iald (pc := 64) C hZ (nI_clamp (by omega)) (nI_in0 (n := 10511) (by omega) (by omega)) dX11_comes_64 (x := nI u.2.2.2.2.2.length) (RZ.rL hR (i := i) 5 (by omega) hu (by omega)) ?_
  refine g_put (pc := 65) C (j := 12) hO rfl (by decide) (Nat.le_of_ble_eq_true rfl) u_864 rfl pfd_I rfl rfl dX11_comes_65 ?_
  obtain ⟨g_1, hg_1⟩ : ∃ yM : pM, yM = va_up g m (ob 11 [.ref (A (m + 1)), .int (nI (gZ σ).1), .int (nI (gZ σ).2.1), .int (nI (gZ σ).2.2.1), .int (nI (gZ σ).2.2.2.1), .int (nI (gZ σ).2.2.2.2), .ref (A (m + 2)), .int (nI cs.length), .ref (A (m + 3)), .int (nI lm), .ref (A (m + 4)), .ref (A (m + 5)), .int (nI u.2.2.2.2.2.length), .ref (A (m + 6)), .ref (A (m + 7)), .ref (A (m + 8))]) := ⟨_, rfl⟩
  show V K 0 0 P A (va_up g m (ob 11 [.ref (A (m + 1)), .int (nI (gZ σ).1), .int (nI (gZ σ).2.1), .int (nI (gZ σ).2.2.1), .int (nI (gZ σ).2.2.2.1), .int (nI (gZ σ).2.2.2.2), .ref (A (m + 2)), .int (nI cs.length), .ref (A (m + 3)), .int (nI lm), .ref (A (m + 4)), .ref (A (m + 5)), .int (nI u.2.2.2.2.2.length), .ref (A (m + 6)), .ref (A (m + 7)), .ref (A (m + 8))])) [(0, .ref (A m)), (1, .int (nI i)), (2, .int (nI (4992 + 11 * i + 0))), (3, .int (nI u.1)), (4, .int (nI u.2.1)), (5, .int (nI u.2.2.1)), (6, .int (nI u.2.2.2.1)), (7, .int (nI u.2.2.2.2.1))] 68 []
  rw [← hg_1]
  have h_2 : g_1 m = ob 11 [.ref (A (m + 1)), .int (nI (gZ σ).1), .int (nI (gZ σ).2.1), .int (nI (gZ σ).2.2.1), .int (nI (gZ σ).2.2.2.1), .int (nI (gZ σ).2.2.2.2), .ref (A (m + 2)), .int (nI cs.length), .ref (A (m + 3)), .int (nI lm), .ref (A (m + 4)), .ref (A (m + 5)), .int (nI u.2.2.2.2.2.length), .ref (A (m + 6)), .ref (A (m + 7)), .ref (A (m + 8))] := by rw [hg_1]; exact va_up_self _ _ _
  have h_3 : g_1 (m + 1) = ai 0 10511 Z := by rw [hg_1, va_up_ne _ _ (show m + 1 ≠ m from by omega)]; exact hZ
  have h_4 : g_1 (m + 5) = ai 0 5 rg := by rw [hg_1, va_up_ne _ _ (show m + 5 ≠ m from by omega)]; exact hg1
  have hf_5 : Fr g g_1 m (m + 1) := by rw [hg_1]; exact Fr.up (by omega) (by omega)
  have hp_6 := MC.fr hC hf_5 (by omega)
  have hp_7 := SO.fr hl3 hf_5 (by omega)
  have hp_8 := SO.fr hl4 hf_5 (by omega)
  refine g_iconst (pc := 68) C dX11_comes_68 (v := nI 0) rfl ?_
  refine g_istore (pc := 69) C dX11_comes_69 (by decide) (lv' := [(0, .ref (A m)), (1, .int (nI i)), (2, .int (nI (4992 + 11 * i + 0))), (3, .int (nI u.1)), (4, .int (nI u.2.1)), (5, .int (nI u.2.2.1)), (6, .int (nI u.2.2.2.1)), (7, .int (nI u.2.2.2.2.1)), (8, .int (nI 0))]) [1, 2, 3, 4, 5, 6, 7, 8, 0] rfl ?_
  have lp_71 : ∀ (fuel : Nat) (gm71 : pM) (hm71 : Fr g_1 gm71 (m + 5) (m + 6)) (j : Nat) (hj : j ≤ 5) (hg71 : gm71 (m + 5) = ai 0 5 (mix2 (fun k => Z (4992 + 11 * i + 0 + 6 + k)) rg j)), 5 - j < fuel → V K 0 0 P A gm71 [(0, .ref (A m)), (1, .int (nI i)), (2, .int (nI (4992 + 11 * i + 0))), (3, .int (nI u.1)), (4, .int (nI u.2.1)), (5, .int (nI u.2.2.1)), (6, .int (nI u.2.2.2.1)), (7, .int (nI u.2.2.2.2.1)), (8, .int (nI j))] 71 [] := by
    intro fuel
    induction fuel with
    | zero => intro gm71 hm71 j hj hg71 hμ; exact absurd hμ (Nat.not_lt_zero _)
    | succ fuel ih =>
      intro gm71 hm71 j hj hg71 hμ
      have h_9 := hm71.at (by omega) h_2
      have h_10 := hm71.at (by omega) h_3
      have hp_11 := MC.fr hp_6 hm71 (by omega)
      have hp_12 := SO.fr hp_7 hm71 (by omega)
      have hp_13 := SO.fr hp_8 hm71 (by omega)
      refine g_iload (pc := 71) C dX11_comes_71 8 rfl ?_
      refine g_iconst (pc := 73) C dX11_comes_73 (v := nI 5) rfl ?_
      refine g_icmp_ge (pc := 74) C dX11_comes_74 (tgt := 102) (by decide) (fun c_74 => ?_) (fun c_74 => ?_)
      ·
        have c_74 : 5 ≤ j := (nI_leI (by omega) (by omega)).mp c_74
        have hgot : SO gm71 (m + 5) 5 u.2.2.2.2.2 := ⟨hR.l5 hu, _, hg71, fun k hk => (mix2_e (fun k => Z (4992 + 11 * i + 0 + 6 + k)) rg (by have := hR.l5 hu; omega)).trans (hR.rLl (k := k) (by omega) hu hk)⟩
        refine g_aload_n (pc := 102) C dX11_comes_102 0 rfl ?_
        refine g_iload_n (pc := 103) C dX11_comes_103 1 rfl ?_
        refine g_callV (pc := 104) C (As := [.int (nI i)]) (rest := []) (b := m) (c_X11_takeOutLetter A P gm71 m i (by omega) h_9 h_10 hR) h_9 rfl rfl Y_X11_takeOutLetter u_953 N_X11_takeOutLetter ⟨by decide, by decide⟩ ⟨by decide, by decide⟩ (Nat.le_of_ble_eq_true rfl) rfl dX11_comes_104 ?_
        rintro _ _ _ g_14 ⟨rfl, rfl, rfl, ⟨Z_15, hZ_15, hR_16⟩, hf_17⟩
        have h_18 := hf_17.at (by omega) h_9
        have hp_19 := MC.fr hp_11 hf_17 (by omega)
        have hp_20 := SO.fr hp_12 hf_17 (by omega)
        have hp_21 := SO.fr hp_13 hf_17 (by omega)
        have hp_22 := SO.fr hgot hf_17 (by omega)
        obtain ⟨σ23, hσ23⟩ : ∃ sM : Sg, sM = sR σ ((gR σ).eraseIdx i) := ⟨_, rfl⟩
        rw [← hσ23] at hR_16
        have hK_σ23 : gK σ23 = gK σ := (congrArg gK hσ23).trans (rfl : gK σ = gK σ)
        have hT_σ23 : gT σ23 = gT σ := (congrArg gT hσ23).trans (rfl : gT σ = gT σ)
        have hZ_σ23 : gZ σ23 = gZ σ := (congrArg gZ hσ23).trans (rfl : gZ σ = gZ σ)
        show V K 0 0 P A g_14 [(0, .ref (A m)), (1, .int (nI i)), (2, .int (nI (4992 + 11 * i + 0))), (3, .int (nI u.1)), (4, .int (nI u.2.1)), (5, .int (nI u.2.2.1)), (6, .int (nI u.2.2.2.1)), (7, .int (nI u.2.2.2.2.1)), (8, .int (nI j))] 107 []
        refine g_aload_n (pc := 107) C dX11_comes_107 0 rfl ?_
        refine g_get (pc := 108) C (j := 0) h_18 rfl rfl (by decide) u_852 dX11_comes_108 ?_
        refine g_sipush (pc := 111) C dX11_comes_111 (v := nI 10492) rfl ?_
        refine g_iload (pc := 114) C dX11_comes_114 5 rfl ?_
        refine g_iadd (pc := 116) C dX11_comes_116 (z := nI (10492 + u.2.2.1)) (nI_add _ _) ?_
        refine g_dup2 (pc := 117) C dX11_comes_117 rfl rfl ?_
        refine g_iald (pc := 118) C hZ_15 (nI_clamp (by omega)) (nI_in0 (n := 10511) (by omega) (by omega)) dX11_comes_118 (x := gC σ23 u.2.2.1) (RZ.rC hR_16 (k := u.2.2.1) (by omega) (by omega)) ?_
        refine g_iconst (pc := 119) C dX11_comes_119 (v := nI 1) rfl ?_
        refine g_iadd (pc := 120) C dX11_comes_120 (z := (gC σ23 u.2.2.1) + (nI 1)) rfl ?_
        refine g_iast (pc := 121) C hZ_15 (nI_clamp (by omega)) (nI_in0 (n := 10511) (by omega) (by omega)) dX11_comes_121 ?_
        obtain ⟨Z_24, hZ_24⟩ : ∃ yZ : Nat → Int32, yZ = upd Z_15 (10492 + u.2.2.1) ((gC σ23 u.2.2.1) + (nI 1)) := ⟨_, rfl⟩
        show V K 0 0 P A (va_up g_14 (m + 1) (ai 0 10511 (upd Z_15 (10492 + u.2.2.1) ((gC σ23 u.2.2.1) + (nI 1))))) [(0, .ref (A m)), (1, .int (nI i)), (2, .int (nI (4992 + 11 * i + 0))), (3, .int (nI u.1)), (4, .int (nI u.2.1)), (5, .int (nI u.2.2.1)), (6, .int (nI u.2.2.2.1)), (7, .int (nI u.2.2.2.2.1)), (8, .int (nI j))] 122 []
        rw [← hZ_24]
        obtain ⟨g_25, hg_25⟩ : ∃ yM : pM, yM = va_up g_14 (m + 1) (ai 0 10511 Z_24) := ⟨_, rfl⟩
        show V K 0 0 P A (va_up g_14 (m + 1) (ai 0 10511 Z_24)) [(0, .ref (A m)), (1, .int (nI i)), (2, .int (nI (4992 + 11 * i + 0))), (3, .int (nI u.1)), (4, .int (nI u.2.1)), (5, .int (nI u.2.2.1)), (6, .int (nI u.2.2.2.1)), (7, .int (nI u.2.2.2.2.1)), (8, .int (nI j))] 122 []
        rw [← hg_25]
        have h_26 : g_25 m = ob 11 [.ref (A (m + 1)), .int (nI (gZ σ).1), .int (nI (gZ σ).2.1), .int (nI (gZ σ).2.2.1), .int (nI (gZ σ).2.2.2.1), .int (nI (gZ σ).2.2.2.2), .ref (A (m + 2)), .int (nI cs.length), .ref (A (m + 3)), .int (nI lm), .ref (A (m + 4)), .ref (A (m + 5)), .int (nI u.2.2.2.2.2.length), .ref (A (m + 6)), .ref (A (m + 7)), .ref (A (m + 8))] := by rw [hg_25, va_up_ne _ _ (show m ≠ m + 1 from by omega)]; exact h_18
        have h_27 : g_25 (m + 1) = ai 0 10511 Z_24 := by rw [hg_25]; exact va_up_self _ _ _
        have hf_28 : Fr g_14 g_25 (m + 1) (m + 1 + 1) := by rw [hg_25]; exact Fr.up (by omega) (by omega)
        have hp_29 := MC.fr hp_19 hf_28 (by omega)
        have hp_30 := SO.fr hp_20 hf_28 (by omega)
        have hp_31 := SO.fr hp_21 hf_28 (by omega)
        have hp_32 := SO.fr hp_22 hf_28 (by omega)
        refine g_aload_n (pc := 122) C dX11_comes_122 0 rfl ?_
        refine g_get (pc := 123) C (j := 0) h_26 rfl rfl (by decide) u_852 dX11_comes_123 ?_
        refine g_sipush (pc := 126) C dX11_comes_126 (v := nI 10492) rfl ?_
        refine g_dup2 (pc := 129) C dX11_comes_129 rfl rfl ?_
        refine g_iald (pc := 130) C h_27 (nI_clamp (by omega)) (nI_in0 (n := 10511) (by omega) (by omega)) dX11_comes_130 (x := gC σ23 0) (zne hZ_24 (by omega) (RZ.rC hR_16 (k := 0) (by omega) (by omega))) ?_
        refine g_iconst (pc := 131) C dX11_comes_131 (v := nI 1) rfl ?_
        refine g_iadd (pc := 132) C dX11_comes_132 (z := (gC σ23 0) + (nI 1)) rfl ?_
        refine g_iast (pc := 133) C h_27 (nI_clamp (by omega)) (nI_in0 (n := 10511) (by omega) (by omega)) dX11_comes_133 ?_
        obtain ⟨Z_33, hZ_33⟩ : ∃ yZ : Nat → Int32, yZ = upd Z_24 10492 ((gC σ23 0) + (nI 1)) := ⟨_, rfl⟩
        show V K 0 0 P A (va_up g_25 (m + 1) (ai 0 10511 (upd Z_24 10492 ((gC σ23 0) + (nI 1))))) [(0, .ref (A m)), (1, .int (nI i)), (2, .int (nI (4992 + 11 * i + 0))), (3, .int (nI u.1)), (4, .int (nI u.2.1)), (5, .int (nI u.2.2.1)), (6, .int (nI u.2.2.2.1)), (7, .int (nI u.2.2.2.2.1)), (8, .int (nI j))] 134 []
        rw [← hZ_33]
        obtain ⟨g_34, hg_34⟩ : ∃ yM : pM, yM = va_up g_25 (m + 1) (ai 0 10511 Z_33) := ⟨_, rfl⟩
        show V K 0 0 P A (va_up g_25 (m + 1) (ai 0 10511 Z_33)) [(0, .ref (A m)), (1, .int (nI i)), (2, .int (nI (4992 + 11 * i + 0))), (3, .int (nI u.1)), (4, .int (nI u.2.1)), (5, .int (nI u.2.2.1)), (6, .int (nI u.2.2.2.1)), (7, .int (nI u.2.2.2.2.1)), (8, .int (nI j))] 134 []
        rw [← hg_34]
        have h_35 : g_34 m = ob 11 [.ref (A (m + 1)), .int (nI (gZ σ).1), .int (nI (gZ σ).2.1), .int (nI (gZ σ).2.2.1), .int (nI (gZ σ).2.2.2.1), .int (nI (gZ σ).2.2.2.2), .ref (A (m + 2)), .int (nI cs.length), .ref (A (m + 3)), .int (nI lm), .ref (A (m + 4)), .ref (A (m + 5)), .int (nI u.2.2.2.2.2.length), .ref (A (m + 6)), .ref (A (m + 7)), .ref (A (m + 8))] := by rw [hg_34, va_up_ne _ _ (show m ≠ m + 1 from by omega)]; exact h_26
        have h_36 : g_34 (m + 1) = ai 0 10511 Z_33 := by rw [hg_34]; exact va_up_self _ _ _
        have hf_37 : Fr g_25 g_34 (m + 1) (m + 1 + 1) := by rw [hg_34]; exact Fr.up (by omega) (by omega)
        have hp_38 := MC.fr hp_29 hf_37 (by omega)
        have hp_39 := SO.fr hp_30 hf_37 (by omega)
        have hp_40 := SO.fr hp_31 hf_37 (by omega)
        have hp_41 := SO.fr hp_32 hf_37 (by omega)
        refine g_aload_n (pc := 134) C dX11_comes_134 0 rfl ?_
        refine g_get (pc := 135) C (j := 0) h_35 rfl rfl (by decide) u_852 dX11_comes_135 ?_
        refine g_bipush (pc := 138) C dX11_comes_138 (v := nI 80) rfl ?_
        refine g_iload (pc := 140) C dX11_comes_140 4 rfl ?_
        refine g_iadd (pc := 142) C dX11_comes_142 (z := nI (80 + u.2.1)) (nI_add _ _) ?_
        refine g_dup2 (pc := 143) C dX11_comes_143 rfl rfl ?_
        refine g_iald (pc := 144) C h_36 (nI_clamp (by omega)) (nI_in0 (n := 10511) (by omega) (by omega)) dX11_comes_144 (x := nGo (gN σ23 u.2.1)) (zne hZ_33 (by omega) (zne hZ_24 (by omega) (RZ.rGo hR_16 (r := u.2.1) (by omega) (by omega)))) ?_
        refine g_iconst (pc := 145) C dX11_comes_145 (v := nI 1) rfl ?_
        refine g_iadd (pc := 146) C dX11_comes_146 (z := (nGo (gN σ23 u.2.1)) + (nI 1)) rfl ?_
        refine g_iast (pc := 147) C h_36 (nI_clamp (by omega)) (nI_in0 (n := 10511) (by omega) (by omega)) dX11_comes_147 ?_
        obtain ⟨Z_42, hZ_42⟩ : ∃ yZ : Nat → Int32, yZ = upd Z_33 (80 + u.2.1) ((nGo (gN σ23 u.2.1)) + (nI 1)) := ⟨_, rfl⟩
        show V K 0 0 P A (va_up g_34 (m + 1) (ai 0 10511 (upd Z_33 (80 + u.2.1) ((nGo (gN σ23 u.2.1)) + (nI 1))))) [(0, .ref (A m)), (1, .int (nI i)), (2, .int (nI (4992 + 11 * i + 0))), (3, .int (nI u.1)), (4, .int (nI u.2.1)), (5, .int (nI u.2.2.1)), (6, .int (nI u.2.2.2.1)), (7, .int (nI u.2.2.2.2.1)), (8, .int (nI j))] 148 []
        rw [← hZ_42]
        obtain ⟨g_43, hg_43⟩ : ∃ yM : pM, yM = va_up g_34 (m + 1) (ai 0 10511 Z_42) := ⟨_, rfl⟩
        show V K 0 0 P A (va_up g_34 (m + 1) (ai 0 10511 Z_42)) [(0, .ref (A m)), (1, .int (nI i)), (2, .int (nI (4992 + 11 * i + 0))), (3, .int (nI u.1)), (4, .int (nI u.2.1)), (5, .int (nI u.2.2.1)), (6, .int (nI u.2.2.2.1)), (7, .int (nI u.2.2.2.2.1)), (8, .int (nI j))] 148 []
        rw [← hg_43]
        have h_44 : g_43 m = ob 11 [.ref (A (m + 1)), .int (nI (gZ σ).1), .int (nI (gZ σ).2.1), .int (nI (gZ σ).2.2.1), .int (nI (gZ σ).2.2.2.1), .int (nI (gZ σ).2.2.2.2), .ref (A (m + 2)), .int (nI cs.length), .ref (A (m + 3)), .int (nI lm), .ref (A (m + 4)), .ref (A (m + 5)), .int (nI u.2.2.2.2.2.length), .ref (A (m + 6)), .ref (A (m + 7)), .ref (A (m + 8))] := by rw [hg_43, va_up_ne _ _ (show m ≠ m + 1 from by omega)]; exact h_35
        have h_45 : g_43 (m + 1) = ai 0 10511 Z_42 := by rw [hg_43]; exact va_up_self _ _ _
        have hf_46 : Fr g_34 g_43 (m + 1) (m + 1 + 1) := by rw [hg_43]; exact Fr.up (by omega) (by omega)
        have hp_47 := MC.fr hp_38 hf_46 (by omega)
        have hp_48 := SO.fr hp_39 hf_46 (by omega)
        have hp_49 := SO.fr hp_40 hf_46 (by omega)
        have hp_50 := SO.fr hp_41 hf_46 (by omega)
        have hR_51 : RZ Z_42 (tak σ i u) := rz_tak hσ23 hR_16 (by omega) (by omega) (by omega) hZ_24 hZ_33 hZ_42
        obtain ⟨σ52, hσ52⟩ : ∃ sM : Sg, sM = tak σ i u := ⟨_, rfl⟩
        rw [← hσ52] at hR_51
        have hK_σ52 : gK σ52 = gK σ := (congrArg gK hσ52).trans (rfl : gK σ = gK σ)
        have hT_σ52 : gT σ52 = gT σ := (congrArg gT hσ52).trans (rfl : gT σ = gT σ)
        have hZ_σ52 : gZ σ52 = gZ σ := (congrArg gZ hσ52).trans (rfl : gZ σ = gZ σ)
        have hS_σ52 : SW B cs σ52 := by rw [hσ52]; exact tak_SW hS
        have hw72 : u.2.2.1 = 2 → u.2.2.2.1 < gK σ52 := fun z => by have := hw7 (Or.inl z); omega
        have hw77 : u.2.2.1 = 7 → u.2.2.2.1 < gK σ52 := fun z => by have := hw7 (Or.inr z); omega
        have hwlK : ∀ q ∈ u.2.2.2.2.2, q < gK σ52 := fun q hq => by have := hw10 q hq; omega
        refine g_iload (pc := 148) C dX11_comes_148 5 rfl ?_
        refine g_iconst (pc := 150) C dX11_comes_150 (v := nI 4) rfl ?_
        refine g_icmp_ge (pc := 151) C dX11_comes_151 (tgt := 170) (by decide) (fun c_151 => ?_) (fun c_151 => ?_)
        ·
          have c_151 : 4 ≤ u.2.2.1 := (nI_leI (by omega) (by omega)).mp c_151
          refine g_iload (pc := 170) C dX11_comes_170 5 rfl ?_
          refine g_bipush (pc := 172) C dX11_comes_172 (v := nI 7) rfl ?_
          refine g_icmp_lt (pc := 174) C dX11_comes_174 (tgt := 184) (by decide) (fun c_174 => ?_) (fun c_174 => ?_)
          ·
            have c_174 : u.2.2.1 < 7 := (nI_ltI (by omega) (by omega)).mp c_174
            refine g_aload_n (pc := 184) C dX11_comes_184 0 rfl ?_
            refine g_iload (pc := 185) C dX11_comes_185 4 rfl ?_
            refine g_iload_n (pc := 187) C dX11_comes_187 3 rfl ?_
            refine g_iload (pc := 188) C dX11_comes_188 5 rfl ?_
            refine g_iload (pc := 190) C dX11_comes_190 6 rfl ?_
            refine g_callV (pc := 192) C (As := [.int (nI u.2.1), .int (nI u.1), .int (nI u.2.2.1), .int (nI u.2.2.2.1)]) (rest := []) (b := m) (c_X11_mends A P g_43 m u.2.1 u.1 u.2.2.1 u.2.2.2.1 u.2.2.2.2.1 u.2.2.2.2.2 (by omega) (by omega) (by omega) (by omega)  hS_σ52 hp_47 hp_48 hp_49 (by rw [hZ_σ52]; exact h_44) h_45 hR_51) h_44 rfl rfl Y_X11_mends u_1053 N_X11_mends ⟨by decide, by decide⟩ ⟨by decide, by decide⟩ (Nat.le_of_ble_eq_true rfl) rfl dX11_comes_192 ?_
            rintro _ _ _ g_53 ⟨rfl, rfl, rfl, ⟨Z_54, hZ_54, hR_55⟩, ⟨lx_58, hs_57⟩, hf_56⟩
            have h_59 := hf_56.at (by omega) h_44
            have hp_60 := MC.frz hp_47 hf_56 (by omega)
            have hp_61 := SO.frz hp_48 hf_56 (by omega)
            have hp_62 := SO.frz hp_50 hf_56 (by omega)
            show V K 0 0 P A g_53 [(0, .ref (A m)), (1, .int (nI i)), (2, .int (nI (4992 + 11 * i + 0))), (3, .int (nI u.1)), (4, .int (nI u.2.1)), (5, .int (nI u.2.2.1)), (6, .int (nI u.2.2.2.1)), (7, .int (nI u.2.2.2.2.1)), (8, .int (nI j))] 195 []
            refine g_goto (pc := 195) C dX11_comes_195 (tgt := 234) (by decide) ?_
            refine g_iload (pc := 234) C dX11_comes_234 5 rfl ?_
            exact g_iret (pc := 236) C R ⟨rfl, rfl, rfl, ⟨_, hZ_54, by show RZ _ (cme2 cs (tak σ i u) u.2.1 u.1 u.2.2.1 u.2.2.2.1 u.2.2.2.2.1 u.2.2.2.2.2); rw [← hσ52]; exact hR_55⟩, ⟨_, _, _, _, _, h_59, hp_61, hs_57, hp_62⟩, fun k hk => by rw [hf_56 k (by omega) (by omega), hg_43, va_up_ne _ _ (by omega), hg_34, va_up_ne _ _ (by omega), hg_25, va_up_ne _ _ (by omega), hf_17 k (by omega), hm71 k (by omega), hg_1, va_up_ne _ _ (by omega)]⟩ (by decide) (by decide) dX11_comes_236
          ·
            have c_174 : ¬ u.2.2.1 < 7 := fun h => c_174 ((nI_ltI (a := u.2.2.1) (b := 7) (by omega) (by omega)).mpr h)
            refine g_iload (pc := 177) C dX11_comes_177 5 rfl ?_
            refine g_bipush (pc := 179) C dX11_comes_179 (v := nI 12) rfl ?_
            refine g_icmp_ne (pc := 181) C dX11_comes_181 (tgt := 198) (by decide) (fun c_181 => ?_) (fun c_181 => ?_)
            ·
              have c_181 : ¬ u.2.2.1 = 12 := fun h => c_181 ((nI_eq (a := u.2.2.1) (b := 12) (by omega) (by omega)).mpr h)
              refine g_iload (pc := 198) C dX11_comes_198 5 rfl ?_
              refine g_bipush (pc := 200) C dX11_comes_200 (v := nI 9) rfl ?_
              refine g_icmp_ge (pc := 202) C dX11_comes_202 (tgt := 221) (by decide) (fun c_202 => ?_) (fun c_202 => ?_)
              ·
                have c_202 : 9 ≤ u.2.2.1 := (nI_leI (by omega) (by omega)).mp c_202
                refine g_aload_n (pc := 221) C dX11_comes_221 0 rfl ?_
                refine g_iload (pc := 222) C dX11_comes_222 4 rfl ?_
                refine g_iload_n (pc := 224) C dX11_comes_224 3 rfl ?_
                refine g_iload (pc := 225) C dX11_comes_225 5 rfl ?_
                refine g_iload (pc := 227) C dX11_comes_227 6 rfl ?_
                refine g_iload (pc := 229) C dX11_comes_229 7 rfl ?_
                refine g_callV (pc := 231) C (As := [.int (nI u.2.1), .int (nI u.1), .int (nI u.2.2.1), .int (nI u.2.2.2.1), .int (nI u.2.2.2.2.1)]) (rest := []) (b := m) (c_X11_tells A P g_43 m u.2.1 u.1 u.2.2.1 u.2.2.2.1 u.2.2.2.2.1 u.2.2.2.2.2 (by omega) (by omega) (by omega) (hx24o (by omega) (by omega)) (by omega) (by omega) (fun z => by have := hw9 z; omega) hB  hS_σ52 hp_48 (by rw [hZ_σ52]; exact h_44) h_45 hR_51) h_44 rfl rfl Y_X11_tells u_1065 N_X11_tells ⟨by decide, by decide⟩ ⟨by decide, by decide⟩ (Nat.le_of_ble_eq_true rfl) rfl dX11_comes_231 ?_
                rintro _ _ _ g_63 ⟨rfl, rfl, rfl, ⟨Z_64, hZ_64, hR_65⟩, hf_66⟩
                have h_69 := hf_66.at (by omega) h_44
                have hp_70 := MC.fr hp_47 hf_66 (by omega)
                have hp_71 := SO.fr hp_48 hf_66 (by omega)
                have hp_72 := SO.fr hp_49 hf_66 (by omega)
                have hp_73 := SO.fr hp_50 hf_66 (by omega)
                show V K 0 0 P A g_63 [(0, .ref (A m)), (1, .int (nI i)), (2, .int (nI (4992 + 11 * i + 0))), (3, .int (nI u.1)), (4, .int (nI u.2.1)), (5, .int (nI u.2.2.1)), (6, .int (nI u.2.2.2.1)), (7, .int (nI u.2.2.2.2.1)), (8, .int (nI j))] 234 []
                refine g_iload (pc := 234) C dX11_comes_234 5 rfl ?_
                exact g_iret (pc := 236) C R ⟨rfl, rfl, rfl, ⟨_, hZ_64, by show RZ _ (cme2 cs (tak σ i u) u.2.1 u.1 u.2.2.1 u.2.2.2.1 u.2.2.2.2.1 u.2.2.2.2.2); rw [← hσ52]; exact hR_65⟩, ⟨_, _, _, _, _, h_69, hp_71, hp_72, hp_73⟩, fun k hk => by rw [hf_66 k (by omega), hg_43, va_up_ne _ _ (by omega), hg_34, va_up_ne _ _ (by omega), hg_25, va_up_ne _ _ (by omega), hf_17 k (by omega), hm71 k (by omega), hg_1, va_up_ne _ _ (by omega)]⟩ (by decide) (by decide) dX11_comes_236
              ·
                have c_202 : ¬ 9 ≤ u.2.2.1 := fun h => c_202 ((nI_leI (a := 9) (b := u.2.2.1) (by omega) (by omega)).mpr h)
                refine g_aload_n (pc := 205) C dX11_comes_205 0 rfl ?_
                refine g_iload (pc := 206) C dX11_comes_206 4 rfl ?_
                refine g_iload_n (pc := 208) C dX11_comes_208 3 rfl ?_
                refine g_iload (pc := 209) C dX11_comes_209 5 rfl ?_
                refine g_iload (pc := 211) C dX11_comes_211 6 rfl ?_
                refine g_iload (pc := 213) C dX11_comes_213 7 rfl ?_
                refine g_callV (pc := 215) C (As := [.int (nI u.2.1), .int (nI u.1), .int (nI u.2.2.1), .int (nI u.2.2.2.1), .int (nI u.2.2.2.2.1)]) (rest := []) (b := m) (c_X11_mixes A P g_43 m u.2.1 u.1 u.2.2.1 u.2.2.2.1 u.2.2.2.2.1 u.2.2.2.2.2 (by omega) (by omega) (by omega) (by omega) hw77 (by omega) hwlK  hp_50 hS_σ52 hp_47 hp_48 hp_49 (by rw [hZ_σ52]; exact h_44) h_45 hR_51) h_44 rfl rfl Y_X11_mixes u_1061 N_X11_mixes ⟨by decide, by decide⟩ ⟨by decide, by decide⟩ (Nat.le_of_ble_eq_true rfl) rfl dX11_comes_215 ?_
                rintro _ _ _ g_74 ⟨rfl, rfl, rfl, ⟨Z_75, hZ_75, hR_76⟩, lm9, l39, l49, hO9, hs39, hs49, hs59, hf_77⟩
                have hp_80 := MC.fra hp_47 hf_77 (by omega)
                rw [hZ_σ52] at hO9
                show V K 0 0 P A g_74 [(0, .ref (A m)), (1, .int (nI i)), (2, .int (nI (4992 + 11 * i + 0))), (3, .int (nI u.1)), (4, .int (nI u.2.1)), (5, .int (nI u.2.2.1)), (6, .int (nI u.2.2.2.1)), (7, .int (nI u.2.2.2.2.1)), (8, .int (nI j))] 218 []
                refine g_goto (pc := 218) C dX11_comes_218 (tgt := 234) (by decide) ?_
                refine g_iload (pc := 234) C dX11_comes_234 5 rfl ?_
                exact g_iret (pc := 236) C R ⟨rfl, rfl, rfl, ⟨_, hZ_75, by show RZ _ (cme2 cs (tak σ i u) u.2.1 u.1 u.2.2.1 u.2.2.2.1 u.2.2.2.2.1 u.2.2.2.2.2); rw [← hσ52]; exact hR_76⟩, ⟨_, _, _, _, _, hO9, hs39, hs49, hs59⟩, fun k hk => by rw [hf_77 k (by omega), hg_43, va_up_ne _ _ (by omega), hg_34, va_up_ne _ _ (by omega), hg_25, va_up_ne _ _ (by omega), hf_17 k (by omega), hm71 k (by omega), hg_1, va_up_ne _ _ (by omega)]⟩ (by decide) (by decide) dX11_comes_236
            ·
              have c_181 : u.2.2.1 = 12 := (nI_eq (by omega) (by omega)).mp c_181
              refine g_aload_n (pc := 184) C dX11_comes_184 0 rfl ?_
              refine g_iload (pc := 185) C dX11_comes_185 4 rfl ?_
              refine g_iload_n (pc := 187) C dX11_comes_187 3 rfl ?_
              refine g_iload (pc := 188) C dX11_comes_188 5 rfl ?_
              refine g_iload (pc := 190) C dX11_comes_190 6 rfl ?_
              refine g_callV (pc := 192) C (As := [.int (nI u.2.1), .int (nI u.1), .int (nI u.2.2.1), .int (nI u.2.2.2.1)]) (rest := []) (b := m) (c_X11_mends A P g_43 m u.2.1 u.1 u.2.2.1 u.2.2.2.1 u.2.2.2.2.1 u.2.2.2.2.2 (by omega) (by omega) (by omega) (by omega)  hS_σ52 hp_47 hp_48 hp_49 (by rw [hZ_σ52]; exact h_44) h_45 hR_51) h_44 rfl rfl Y_X11_mends u_1053 N_X11_mends ⟨by decide, by decide⟩ ⟨by decide, by decide⟩ (Nat.le_of_ble_eq_true rfl) rfl dX11_comes_192 ?_
              rintro _ _ _ g_81 ⟨rfl, rfl, rfl, ⟨Z_82, hZ_82, hR_83⟩, ⟨lx_86, hs_85⟩, hf_84⟩
              have h_87 := hf_84.at (by omega) h_44
              have hp_88 := MC.frz hp_47 hf_84 (by omega)
              have hp_89 := SO.frz hp_48 hf_84 (by omega)
              have hp_90 := SO.frz hp_50 hf_84 (by omega)
              show V K 0 0 P A g_81 [(0, .ref (A m)), (1, .int (nI i)), (2, .int (nI (4992 + 11 * i + 0))), (3, .int (nI u.1)), (4, .int (nI u.2.1)), (5, .int (nI u.2.2.1)), (6, .int (nI u.2.2.2.1)), (7, .int (nI u.2.2.2.2.1)), (8, .int (nI j))] 195 []
              refine g_goto (pc := 195) C dX11_comes_195 (tgt := 234) (by decide) ?_
              refine g_iload (pc := 234) C dX11_comes_234 5 rfl ?_
              exact g_iret (pc := 236) C R ⟨rfl, rfl, rfl, ⟨_, hZ_82, by show RZ _ (cme2 cs (tak σ i u) u.2.1 u.1 u.2.2.1 u.2.2.2.1 u.2.2.2.2.1 u.2.2.2.2.2); rw [← hσ52]; exact hR_83⟩, ⟨_, _, _, _, _, h_87, hp_89, hs_85, hp_90⟩, fun k hk => by rw [hf_84 k (by omega) (by omega), hg_43, va_up_ne _ _ (by omega), hg_34, va_up_ne _ _ (by omega), hg_25, va_up_ne _ _ (by omega), hf_17 k (by omega), hm71 k (by omega), hg_1, va_up_ne _ _ (by omega)]⟩ (by decide) (by decide) dX11_comes_236
        ·
          have c_151 : ¬ 4 ≤ u.2.2.1 := fun h => c_151 ((nI_leI (a := 4) (b := u.2.2.1) (by omega) (by omega)).mpr h)
          refine g_aload_n (pc := 154) C dX11_comes_154 0 rfl ?_
          refine g_iload (pc := 155) C dX11_comes_155 4 rfl ?_
          refine g_iload_n (pc := 157) C dX11_comes_157 3 rfl ?_
          refine g_iload (pc := 158) C dX11_comes_158 5 rfl ?_
          refine g_iload (pc := 160) C dX11_comes_160 6 rfl ?_
          refine g_iload (pc := 162) C dX11_comes_162 7 rfl ?_
          refine g_callV (pc := 164) C (As := [.int (nI u.2.1), .int (nI u.1), .int (nI u.2.2.1), .int (nI u.2.2.2.1), .int (nI u.2.2.2.2.1)]) (rest := []) (b := m) (c_X11_joins A P g_43 m u.2.1 u.1 u.2.2.1 u.2.2.2.1 u.2.2.2.2.1 u.2.2.2.2.2 (by omega) (by omega) (by omega) hw72 (by omega) (by omega)  hS_σ52 hp_47 hp_48 hp_49 (by rw [hZ_σ52]; exact h_44) h_45 hR_51) h_44 rfl rfl Y_X11_joins u_1021 N_X11_joins ⟨by decide, by decide⟩ ⟨by decide, by decide⟩ (Nat.le_of_ble_eq_true rfl) rfl dX11_comes_164 ?_
          rintro _ _ _ g_91 ⟨rfl, rfl, rfl, ⟨Z_92, hZ_92, hR_93⟩, ⟨lx_96, hs_95⟩, hf_94⟩
          have h_97 := hf_94.at (by omega) h_44
          have hp_98 := MC.frz hp_47 hf_94 (by omega)
          have hp_99 := SO.frz hp_48 hf_94 (by omega)
          have hp_100 := SO.frz hp_50 hf_94 (by omega)
          show V K 0 0 P A g_91 [(0, .ref (A m)), (1, .int (nI i)), (2, .int (nI (4992 + 11 * i + 0))), (3, .int (nI u.1)), (4, .int (nI u.2.1)), (5, .int (nI u.2.2.1)), (6, .int (nI u.2.2.2.1)), (7, .int (nI u.2.2.2.2.1)), (8, .int (nI j))] 167 []
          refine g_goto (pc := 167) C dX11_comes_167 (tgt := 234) (by decide) ?_
          refine g_iload (pc := 234) C dX11_comes_234 5 rfl ?_
          exact g_iret (pc := 236) C R ⟨rfl, rfl, rfl, ⟨_, hZ_92, by show RZ _ (cme2 cs (tak σ i u) u.2.1 u.1 u.2.2.1 u.2.2.2.1 u.2.2.2.2.1 u.2.2.2.2.2); rw [← hσ52]; exact hR_93⟩, ⟨_, _, _, _, _, h_97, hp_99, hs_95, hp_100⟩, fun k hk => by rw [hf_94 k (by omega) (by omega), hg_43, va_up_ne _ _ (by omega), hg_34, va_up_ne _ _ (by omega), hg_25, va_up_ne _ _ (by omega), hf_17 k (by omega), hm71 k (by omega), hg_1, va_up_ne _ _ (by omega)]⟩ (by decide) (by decide) dX11_comes_236
      ·
        have c_74 : ¬ 5 ≤ j := fun h => c_74 ((nI_leI (a := 5) (b := j) (by omega) (by omega)).mpr h)
        refine g_aload_n (pc := 77) C dX11_comes_77 0 rfl ?_
        refine g_get (pc := 78) C (j := 11) h_9 rfl rfl (by decide) u_863 dX11_comes_78 ?_
        refine g_iload (pc := 81) C dX11_comes_81 8 rfl ?_
        refine g_aload_n (pc := 83) C dX11_comes_83 0 rfl ?_
        refine g_get (pc := 84) C (j := 0) h_9 rfl rfl (by decide) u_852 dX11_comes_84 ?_
        refine g_iload_n (pc := 87) C dX11_comes_87 2 rfl ?_
        refine g_bipush (pc := 88) C dX11_comes_88 (v := nI 6) rfl ?_
        refine g_iadd (pc := 90) C dX11_comes_90 (z := nI (4992 + 11 * i + 0 + 6)) (nI_add _ _) ?_
        refine g_iload (pc := 91) C dX11_comes_91 8 rfl ?_
        refine g_iadd (pc := 93) C dX11_comes_93 (z := nI (4992 + 11 * i + 0 + 6 + j)) (nI_add _ _) ?_
        refine g_iald (pc := 94) C h_10 (nI_clamp (by omega)) (nI_in0 (n := 10511) (by omega) (by omega)) dX11_comes_94 (x := Z (4992 + 11 * i + 0 + 6 + j)) rfl ?_
        refine g_iast (pc := 95) C hg71 (nI_clamp (by omega)) (nI_in0 (n := 5) (by omega) (by omega)) dX11_comes_95 ?_
        obtain ⟨g_101, hg_101⟩ : ∃ yM : pM, yM = va_up gm71 (m + 5) (ai 0 5 (upd (mix2 (fun k => Z (4992 + 11 * i + 0 + 6 + k)) rg j) j (Z (4992 + 11 * i + 0 + 6 + j)))) := ⟨_, rfl⟩
        show V K 0 0 P A (va_up gm71 (m + 5) (ai 0 5 (upd (mix2 (fun k => Z (4992 + 11 * i + 0 + 6 + k)) rg j) j (Z (4992 + 11 * i + 0 + 6 + j))))) [(0, .ref (A m)), (1, .int (nI i)), (2, .int (nI (4992 + 11 * i + 0))), (3, .int (nI u.1)), (4, .int (nI u.2.1)), (5, .int (nI u.2.2.1)), (6, .int (nI u.2.2.2.1)), (7, .int (nI u.2.2.2.2.1)), (8, .int (nI j))] 96 []
        rw [← hg_101]
        have h_102 : g_101 m = ob 11 [.ref (A (m + 1)), .int (nI (gZ σ).1), .int (nI (gZ σ).2.1), .int (nI (gZ σ).2.2.1), .int (nI (gZ σ).2.2.2.1), .int (nI (gZ σ).2.2.2.2), .ref (A (m + 2)), .int (nI cs.length), .ref (A (m + 3)), .int (nI lm), .ref (A (m + 4)), .ref (A (m + 5)), .int (nI u.2.2.2.2.2.length), .ref (A (m + 6)), .ref (A (m + 7)), .ref (A (m + 8))] := by rw [hg_101, va_up_ne _ _ (show m ≠ m + 5 from by omega)]; exact h_9
        have h_103 : g_101 (m + 1) = ai 0 10511 Z := by rw [hg_101, va_up_ne _ _ (show m + 1 ≠ m + 5 from by omega)]; exact h_10
        have h_104 : g_101 (m + 5) = ai 0 5 (upd (mix2 (fun k => Z (4992 + 11 * i + 0 + 6 + k)) rg j) j (Z (4992 + 11 * i + 0 + 6 + j))) := by rw [hg_101]; exact va_up_self _ _ _
        have hf_105 : Fr gm71 g_101 (m + 5) (m + 5 + 1) := by rw [hg_101]; exact Fr.up (by omega) (by omega)
        have hp_106 := MC.fr hp_11 hf_105 (by omega)
        have hp_107 := SO.fr hp_12 hf_105 (by omega)
        have hp_108 := SO.fr hp_13 hf_105 (by omega)
        refine g_iinc (pc := 96) C dX11_comes_96 (by decide) 8 rfl (v := nI (j + 1)) (nI_i1 _) (lv' := [(0, .ref (A m)), (1, .int (nI i)), (2, .int (nI (4992 + 11 * i + 0))), (3, .int (nI u.1)), (4, .int (nI u.2.1)), (5, .int (nI u.2.2.1)), (6, .int (nI u.2.2.2.1)), (7, .int (nI u.2.2.2.2.1)), (8, .int (nI (j + 1)))]) [1, 2, 3, 4, 5, 6, 7, 8, 0] rfl ?_
        refine g_goto (pc := 99) C dX11_comes_99 (tgt := 71) (by decide) ?_
        exact ih g_101 (hm71.tr (fun k hk => by rw [hg_101, va_up_ne _ _ (by omega)])) (j + 1) (by omega) (h_104.trans (congrArg (fun y => ai 0 5 y) (mix2_s (fun k => Z (4992 + 11 * i + 0 + 6 + k)) rg j))) (by omega)
  exact lp_71 (_ + 1) g_1 Fr.rf 0 (Nat.zero_le _) (by rw [mix2_0]; exact h_4) (Nat.lt_succ_self _)
