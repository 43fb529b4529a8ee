-- PART 30: the reference: stop, mix
theorem dec_g {x : Int32} : x + Int32.ofInt (-1) = x - nI 1 := by
  have e : Int32.ofInt (-1) = -(nI 1) := by decide
  rw [e, ← Int32.sub_eq_add_neg]
theorem stL_le {i j : Nat} {R : List Lt} (h : j ≤ R.length) : (stL i R j).length ≤ R.length := by
  simp only [stL, List.length_append, List.length_take]
  have := List.length_filter_le (fun t : Lt => !(t.2.1 == i)) (R.drop j)
  rw [List.length_drop] at this
  omega
theorem hltFx_T {σ : Sg} {i : Nat} : ∀ {m : Nat}, gT (hltF σ i m) = gT σ
  | 0 => rfl
  | m + 1 => by
    simp only [hltF]
    split
    · exact snd_T.trans hltFx_T
    · exact hltFx_T
theorem hltFx_Z {σ : Sg} {i : Nat} : ∀ {m : Nat}, gZ (hltF σ i m) = gZ σ
  | 0 => rfl
  | m + 1 => by
    simp only [hltF]
    split
    · exact snd_Z.trans hltFx_Z
    · exact hltFx_Z
theorem hltFx_K {σ : Sg} {i m : Nat} : gK (hltF σ i m) = gK σ := hltF_K m
theorem hltF_d {σ σh : Sg} {i m : Nat} (e : σh = hltF σ i m) (h : lvd σh m = false) : hltF σ i (m + 1) = σh := by
  subst e
  exact hltF_f (by rw [h]; rfl)
theorem hltF_n {σ σh : Sg} {i m : Nat} (e : σh = hltF σ i m) (h1 : ¬ i ∈ nAc (gN σh m)) (h2 : ¬ nAs (gN σh m) = some i) (h3 : (gR σh).any (fun q => q.1 == i && q.2.1 == m) = false) : hltF σ i (m + 1) = σh := by
  subst e
  exact hltF_f (by rw [mls_c h1 h2, h3, Bool.and_false])
theorem hltF_y {σ σh σ2 : Sg} {i m : Nat} (e : σh = hltF σ i m) (hl : lvd σh m = true) (h : i ∈ nAc (gN σh m) ∨ nAs (gN σh m) = some i ∨ (gR σh).any (fun q => q.1 == i && q.2.1 == m) = true) (e2 : σ2 = pst σh (i, m, 12, 0, 0, [])) : hltF σ i (m + 1) = σ2 := by
  subst e2
  subst e
  rw [hltF_t hl ?_, snd_pst, ltr_live hl]
  rcases h with h | h | h
  · exact mls_a h
  · exact mls_b h
  · by_cases h1 : i ∈ nAc (gN (hltF σ i m) m)
    · exact mls_a h1
    · by_cases h2 : nAs (gN (hltF σ i m) m) = some i
      · exact mls_b h2
      · rw [mls_c h1 h2]; exact h
theorem any_all {row : List Lt} {k : Nat} {p : Lt → Bool} (h : row.length ≤ k) : (row.take k).any p = row.any p := by rw [List.take_of_length_le h]
theorem SO.one {g : pM} {c cap v : Nat} {r : Nat → Int32} (hc : 1 ≤ cap) (hg : g c = ai 0 cap (upd r 0 (nI v))) : SO g c cap [v] := by
  refine ⟨hc, _, hg, fun k hk => ?_⟩
  have hk : k < 1 := hk
  have h0 : k = 0 := by omega
  subst h0
  simp [upd]
abbrev rm_X11_isUnderWay : Room := { frames := 1, cells := 0, slots := 0, locals := 22 }
theorem Y_X11_isUnderWay : pY yX11_isUnderWay cX11_isUnderWay 5 (Option.some Jvm.ClassFile.FieldType.boolean) := ⟨u_967, us_10, u_13, u_968⟩
theorem N_X11_isUnderWay : yX11_isUnderWay.cls ≠ "java/lang/invoke/MethodHandle" ∧ yX11_isUnderWay.cls ≠ "java/lang/invoke/VarHandle" ∧ (parseMethodDescriptor yX11_isUnderWay.desc).map (fun d => d.parameters.length) = some 2 := by decide +kernel
set_option maxRecDepth 20000 in
set_option maxHeartbeats 4000000 in
theorem c_X11_isUnderWay (A : Nat → Nat) (P : List Nat) (g : pM) (m : Nat) {cs : List Nat} {lm gm : Nat} {Z : Nat → Int32} {σ : Sg} {B : Nat} (f t : Nat) (hf : f < 16) (ht : t < 16) (hS : SW B cs σ) (hO : g m = mOb A m (gZ σ) cs.length lm gm) (hZ : g (m + 1) = ai 0 10511 Z) (hR : RZ Z σ) : PM yX11_isUnderWay cX11_isUnderWay 5 (Option.some Jvm.ClassFile.FieldType.boolean) rm_X11_isUnderWay [.ref (A m), .int (nI f), .int (nI t)] P A g (fun v g' => v = some (.int (b32 ((gR σ).any (fun q => q.1 == f && q.2.1 == t)))) ∧ g = g') := by
  have hK := hR.k16
  have hT := hR.t24
  have hL := hR.le
  refine px_intro (by decide +kernel) (Nat.le_of_ble_eq_true rfl) (fun K sz C R => ?_)
  show V K 0 0 P A g [(0, .ref (A m)), (1, .int (nI f)), (2, .int (nI t))] 0 []
  refine g_iconst (pc := 0) C dX11_isUnderWay_0 (v := nI 0) rfl ?_
  refine g_istore_n (pc := 1) C dX11_isUnderWay_1 (by decide) (lv' := [(0, .ref (A m)), (1, .int (nI f)), (2, .int (nI t)), (3, .int (nI 0))]) [1, 2, 3, 0] rfl ?_
  refine g_iconst (pc := 2) C dX11_isUnderWay_2 (v := nI 0) rfl ?_
  refine g_istore (pc := 3) C dX11_isUnderWay_3 (by decide) (lv' := [(0, .ref (A m)), (1, .int (nI f)), (2, .int (nI t)), (3, .int (nI 0)), (4, .int (nI 0))]) [1, 2, 3, 4, 0] rfl ?_
  have lp_5 : ∀ (fuel : Nat) (k : Nat) (hk : k ≤ (gR σ).length), (gR σ).length - k < fuel → V K 0 0 P A g [(0, .ref (A m)), (1, .int (nI f)), (2, .int (nI t)), (3, .int (b32 (((gR σ).take k).any (fun q => q.1 == f && q.2.1 == t)))), (4, .int (nI k))] 5 [] := by
    intro fuel
    induction fuel with
    | zero => intro k hk hμ; exact absurd hμ (Nat.not_lt_zero _)
    | succ fuel ih_5 =>
      intro k hk hμ
      refine g_iload (pc := 5) C dX11_isUnderWay_5 4 rfl ?_
      refine g_aload_n (pc := 7) C dX11_isUnderWay_7 0 rfl ?_
      refine g_get (pc := 8) C (j := 0) hO rfl rfl (by decide) u_852 dX11_isUnderWay_8 ?_
      refine g_sipush (pc := 11) C dX11_isUnderWay_11 (v := nI 10507) rfl ?_
      refine g_iald (pc := 14) C hZ (nI_clamp (by omega)) (nI_in0 (n := 10511) (by omega) (by omega)) dX11_isUnderWay_14 (x := nI (gR σ).length) (RZ.rRn hR (by omega)) ?_
      refine g_icmp_ge (pc := 15) C dX11_isUnderWay_15 (tgt := 66) (by decide) (fun c_15 => ?_) (fun c_15 => ?_)
      ·
        have c_15 : (gR σ).length ≤ k := (nI_leI (by omega) (by omega)).mp c_15
        refine g_iload_n (pc := 66) C dX11_isUnderWay_66 3 rfl ?_
        exact g_zret (pc := 67) C R (b32_z _) ⟨rfl, rfl, by rw [any_all (by omega)], rfl⟩ (by decide) (by decide) dX11_isUnderWay_67
      ·
        have c_15 : ¬ (gR σ).length ≤ k := fun h => c_15 ((nI_leI (a := (gR σ).length) (b := k) (by omega) (by omega)).mpr h)
        refine g_iload_n (pc := 18) C dX11_isUnderWay_18 3 rfl ?_
        refine g_if_ne (pc := 19) C dX11_isUnderWay_19 (tgt := 54) (by decide) (fun c_19 => ?_) (fun c_19 => ?_)
        ·
          have c_19 : (((gR σ).take k).any (fun q => q.1 == f && q.2.1 == t)) = true := b32_no c_19
          refine g_iconst (pc := 54) C dX11_isUnderWay_54 (v := nI 1) rfl ?_
          refine g_goto (pc := 55) C dX11_isUnderWay_55 (tgt := 59) (by decide) ?_
          refine g_istore_n (pc := 59) C dX11_isUnderWay_59 (by decide) (lv' := [(0, .ref (A m)), (1, .int (nI f)), (2, .int (nI t)), (3, .int (nI 1)), (4, .int (nI k))]) [1, 2, 3, 0, 4] rfl ?_
          refine g_iinc (pc := 60) C dX11_isUnderWay_60 (by decide) 4 rfl (v := nI (k + 1)) (nI_i1 _) (lv' := [(0, .ref (A m)), (1, .int (nI f)), (2, .int (nI t)), (3, .int (nI 1)), (4, .int (nI (k + 1)))]) [1, 2, 3, 4, 0] rfl ?_
          refine g_goto (pc := 63) C dX11_isUnderWay_63 (tgt := 5) (by decide) ?_
          obtain ⟨v, hv⟩ : ∃ v, (gR σ)[k]? = some v := ⟨_, List.getElem?_eq_getElem (show k < (gR σ).length by omega)⟩
          have hbk : (nI 1 : Int32) = b32 (((gR σ).take (k + 1)).any (fun q => q.1 == f && q.2.1 == t)) := by rw [any_take hv, c_19]; rfl
          rw [hbk]
          exact ih_5 (k + 1) (by omega) (by omega)
        ·
          have c_19 : (((gR σ).take k).any (fun q => q.1 == f && q.2.1 == t)) = false := b32_yes c_19
          obtain ⟨v, hv⟩ : ∃ v, (gR σ)[k]? = some v := ⟨_, List.getElem?_eq_getElem (show k < (gR σ).length by omega)⟩
          obtain ⟨hw1, hw2, -⟩ := hS.2.2.2.2.2.1 v (List.mem_of_getElem? hv)
          refine g_aload_n (pc := 22) C dX11_isUnderWay_22 0 rfl ?_
          refine g_get (pc := 23) C (j := 0) hO rfl rfl (by decide) u_852 dX11_isUnderWay_23 ?_
          refine g_aload_n (pc := 26) C dX11_isUnderWay_26 0 rfl ?_
          refine g_iload (pc := 27) C dX11_isUnderWay_27 4 rfl ?_
          refine g_iconst (pc := 29) C dX11_isUnderWay_29 (v := nI 0) rfl ?_
          refine g_callV (pc := 30) C (As := [.int (nI k), .int (nI 0)]) (rest := [.ref (A (m + 1))]) (b := m) (c_X11_ofLetter A P g m k 0) hO rfl rfl Y_X11_ofLetter u_945 N_X11_ofLetter ⟨by decide, by decide⟩ ⟨by decide, by decide⟩ (Nat.le_of_ble_eq_true rfl) rfl dX11_isUnderWay_30 ?_
          rintro _ _ _ _ ⟨rfl, rfl, rfl, rfl⟩
          show V K 0 0 P A g [(0, .ref (A m)), (1, .int (nI f)), (2, .int (nI t)), (3, .int (b32 (((gR σ).take k).any (fun q => q.1 == f && q.2.1 == t)))), (4, .int (nI k))] 33 [.int (nI (4992 + 11 * k + 0)), .ref (A (m + 1))]
          refine g_iald (pc := 33) C hZ (nI_clamp (by omega)) (nI_in0 (n := 10511) (by omega) (by omega)) dX11_isUnderWay_33 (x := nI v.1) (RZ.rL hR (i := k) 0 (by omega) hv (by omega)) ?_
          refine g_iload_n (pc := 34) C dX11_isUnderWay_34 1 rfl ?_
          refine g_icmp_ne (pc := 35) C dX11_isUnderWay_35 (tgt := 58) (by decide) (fun c_35 => ?_) (fun c_35 => ?_)
          ·
            have c_35 : ¬ v.1 = f := fun h => c_35 ((nI_eq (a := v.1) (b := f) (by omega) (by omega)).mpr h)
            refine g_iconst (pc := 58) C dX11_isUnderWay_58 (v := nI 0) rfl ?_
            refine g_istore_n (pc := 59) C dX11_isUnderWay_59 (by decide) (lv' := [(0, .ref (A m)), (1, .int (nI f)), (2, .int (nI t)), (3, .int (nI 0)), (4, .int (nI k))]) [1, 2, 3, 0, 4] rfl ?_
            refine g_iinc (pc := 60) C dX11_isUnderWay_60 (by decide) 4 rfl (v := nI (k + 1)) (nI_i1 _) (lv' := [(0, .ref (A m)), (1, .int (nI f)), (2, .int (nI t)), (3, .int (nI 0)), (4, .int (nI (k + 1)))]) [1, 2, 3, 4, 0] rfl ?_
            refine g_goto (pc := 63) C dX11_isUnderWay_63 (tgt := 5) (by decide) ?_
            have hbk : (nI 0 : Int32) = b32 (((gR σ).take (k + 1)).any (fun q => q.1 == f && q.2.1 == t)) := by rw [any_take hv, c_19, show (v.1 == f && v.2.1 == t) = false from by rw [show (v.1 == f) = false from beq_eq_false_iff_ne.mpr c_35]; rfl]; rfl
            rw [hbk]
            exact ih_5 (k + 1) (by omega) (by omega)
          ·
            have c_35 : v.1 = f := (nI_eq (by omega) (by omega)).mp c_35
            refine g_aload_n (pc := 38) C dX11_isUnderWay_38 0 rfl ?_
            refine g_get (pc := 39) C (j := 0) hO rfl rfl (by decide) u_852 dX11_isUnderWay_39 ?_
            refine g_aload_n (pc := 42) C dX11_isUnderWay_42 0 rfl ?_
            refine g_iload (pc := 43) C dX11_isUnderWay_43 4 rfl ?_
            refine g_iconst (pc := 45) C dX11_isUnderWay_45 (v := nI 1) rfl ?_
            refine g_callV (pc := 46) C (As := [.int (nI k), .int (nI 1)]) (rest := [.ref (A (m + 1))]) (b := m) (c_X11_ofLetter A P g m k 1) hO rfl rfl Y_X11_ofLetter u_945 N_X11_ofLetter ⟨by decide, by decide⟩ ⟨by decide, by decide⟩ (Nat.le_of_ble_eq_true rfl) rfl dX11_isUnderWay_46 ?_
            rintro _ _ _ _ ⟨rfl, rfl, rfl, rfl⟩
            show V K 0 0 P A g [(0, .ref (A m)), (1, .int (nI f)), (2, .int (nI t)), (3, .int (b32 (((gR σ).take k).any (fun q => q.1 == f && q.2.1 == t)))), (4, .int (nI k))] 49 [.int (nI (4992 + 11 * k + 1)), .ref (A (m + 1))]
            refine g_iald (pc := 49) C hZ (nI_clamp (by omega)) (nI_in0 (n := 10511) (by omega) (by omega)) dX11_isUnderWay_49 (x := nI v.2.1) (RZ.rL hR (i := k) 1 (by omega) hv (by omega)) ?_
            refine g_iload_n (pc := 50) C dX11_isUnderWay_50 2 rfl ?_
            refine g_icmp_ne (pc := 51) C dX11_isUnderWay_51 (tgt := 58) (by decide) (fun c_51 => ?_) (fun c_51 => ?_)
            ·
              have c_51 : ¬ v.2.1 = t := fun h => c_51 ((nI_eq (a := v.2.1) (b := t) (by omega) (by omega)).mpr h)
              refine g_iconst (pc := 58) C dX11_isUnderWay_58 (v := nI 0) rfl ?_
              refine g_istore_n (pc := 59) C dX11_isUnderWay_59 (by decide) (lv' := [(0, .ref (A m)), (1, .int (nI f)), (2, .int (nI t)), (3, .int (nI 0)), (4, .int (nI k))]) [1, 2, 3, 0, 4] rfl ?_
              refine g_iinc (pc := 60) C dX11_isUnderWay_60 (by decide) 4 rfl (v := nI (k + 1)) (nI_i1 _) (lv' := [(0, .ref (A m)), (1, .int (nI f)), (2, .int (nI t)), (3, .int (nI 0)), (4, .int (nI (k + 1)))]) [1, 2, 3, 4, 0] rfl ?_
              refine g_goto (pc := 63) C dX11_isUnderWay_63 (tgt := 5) (by decide) ?_
              have hbk : (nI 0 : Int32) = b32 (((gR σ).take (k + 1)).any (fun q => q.1 == f && q.2.1 == t)) := by rw [any_take hv, c_19, show (v.1 == f && v.2.1 == t) = false from by rw [show (v.2.1 == t) = false from beq_eq_false_iff_ne.mpr c_51, Bool.and_false]]; rfl
              rw [hbk]
              exact ih_5 (k + 1) (by omega) (by omega)
            ·
              have c_51 : v.2.1 = t := (nI_eq (by omega) (by omega)).mp c_51
              refine g_iconst (pc := 54) C dX11_isUnderWay_54 (v := nI 1) rfl ?_
              refine g_goto (pc := 55) C dX11_isUnderWay_55 (tgt := 59) (by decide) ?_
              refine g_istore_n (pc := 59) C dX11_isUnderWay_59 (by decide) (lv' := [(0, .ref (A m)), (1, .int (nI f)), (2, .int (nI t)), (3, .int (nI 1)), (4, .int (nI k))]) [1, 2, 3, 0, 4] rfl ?_
              refine g_iinc (pc := 60) C dX11_isUnderWay_60 (by decide) 4 rfl (v := nI (k + 1)) (nI_i1 _) (lv' := [(0, .ref (A m)), (1, .int (nI f)), (2, .int (nI t)), (3, .int (nI 1)), (4, .int (nI (k + 1)))]) [1, 2, 3, 4, 0] rfl ?_
              refine g_goto (pc := 63) C dX11_isUnderWay_63 (tgt := 5) (by decide) ?_
              have hbk : (nI 1 : Int32) = b32 (((gR σ).take (k + 1)).any (fun q => q.1 == f && q.2.1 == t)) := by rw [any_take hv, c_19, show (v.1 == f && v.2.1 == t) = true from by rw [c_35, c_51]; simp]; rfl
              rw [hbk]
              exact ih_5 (k + 1) (by omega) (by omega)
  exact lp_5 (_ + 1) 0 (Nat.zero_le _) (Nat.lt_succ_self _)
abbrev rm_X11_stop : Room := { frames := 2, cells := 0, slots := 0, locals := 50 }
theorem Y_X11_stop : pY yX11_stop cX11_stop 4 (Option.some Jvm.ClassFile.FieldType.int) := ⟨u_950, u_951, u_13, u_952⟩
theorem N_X11_stop : yX11_stop.cls ≠ "java/lang/invoke/MethodHandle" ∧ yX11_stop.cls ≠ "java/lang/invoke/VarHandle" ∧ (parseMethodDescriptor yX11_stop.desc).map (fun d => d.parameters.length) = some 1 := by decide +kernel
set_option maxRecDepth 20000 in
set_option maxHeartbeats 4000000 in
theorem c_X11_stop (A : Nat → Nat) (P : List Nat) (g : pM) (m : Nat) {cs : List Nat} {σ : Sg} {B : Nat} (x : Int32) (hS : SW B cs σ) (hM : MM A g m cs σ) : PM yX11_stop cX11_stop 4 (Option.some Jvm.ClassFile.FieldType.int) rm_X11_stop [.ref (A m), .int x] P A g (fun v g' => (rfA σ x ≠ 0 ∧ v = some (.int (rfA σ x)) ∧ g = g') ∨ (∃ i, i < gK σ ∧ x = nI i ∧ lvd σ i = true ∧ v = some (.int (nI ((gR σ).length - ((gR σ).filter (fun t => !(t.2.1 == i))).length))) ∧ MM A g' m cs (hlt σ i) ∧ FrA g g' m)) := by
  obtain ⟨⟨lm, gm, l3, l4, l5, hO, hl3, hl4, hl5⟩, ⟨Z, hZ, hR⟩, hC⟩ := id hM
  have hK := hR.k16
  have hT := hR.t24
  have hL := hR.le
  refine px_intro (by decide +kernel) (Nat.le_of_ble_eq_true rfl) (fun K sz C R => ?_)
  show V K 0 0 P A g [(0, .ref (A m)), (1, .int x)] 0 []
  refine g_aload_n (pc := 0) C dX11_stop_0 0 rfl ?_
  refine g_iload_n (pc := 1) C dX11_stop_1 1 rfl ?_
  refine g_callV (pc := 2) C (As := [.int x]) (rest := []) (b := m) (c_X11_isNode A P g m x hO hZ hR) hO rfl rfl Y_X11_isNode u_929 N_X11_isNode ⟨by decide, by decide⟩ ⟨by decide, by decide⟩ (Nat.le_of_ble_eq_true rfl) rfl dX11_stop_2 ?_
  rintro _ _ _ _ ⟨rfl, rfl, rfl, rfl⟩
  show V K 0 0 P A g [(0, .ref (A m)), (1, .int x)] 5 [.int (b32 (isN σ x))]
  refine g_if_ne (pc := 5) C dX11_stop_5 (tgt := 10) (by decide) (fun c_5 => ?_) (fun c_5 => ?_)
  ·
    have c_5 : (isN σ x) = true := b32_no c_5
    obtain ⟨i, hi, rfl⟩ := isN_ex hK c_5
    refine g_aload_n (pc := 10) C dX11_stop_10 0 rfl ?_
    refine g_get (pc := 11) C (j := 0) hO rfl rfl (by decide) u_852 dX11_stop_11 ?_
    refine g_iconst (pc := 14) C dX11_stop_14 (v := nI 0) rfl ?_
    refine g_iload_n (pc := 15) C dX11_stop_15 1 rfl ?_
    refine g_iadd (pc := 16) C dX11_stop_16 (z := nI (0 + i)) (nI_add _ _) ?_
    refine g_iald (pc := 17) C hZ (nI_clamp (by omega)) (nI_in0 (n := 10511) (by omega) (by omega)) dX11_stop_17 (x := b32 (lvd σ i)) (RZ.rLv hR (r := i) (by omega) (by omega)) ?_
    refine g_if_ne (pc := 18) C dX11_stop_18 (tgt := 24) (by decide) (fun c_18 => ?_) (fun c_18 => ?_)
    ·
      have c_18 : (lvd σ i) = true := b32_no c_18
      refine g_aload_n (pc := 24) C dX11_stop_24 0 rfl ?_
      refine g_get (pc := 25) C (j := 0) hO rfl rfl (by decide) u_852 dX11_stop_25 ?_
      refine g_iconst (pc := 28) C dX11_stop_28 (v := nI 0) rfl ?_
      refine g_iload_n (pc := 29) C dX11_stop_29 1 rfl ?_
      refine g_iadd (pc := 30) C dX11_stop_30 (z := nI (0 + i)) (nI_add _ _) ?_
      refine g_iconst (pc := 31) C dX11_stop_31 (v := nI 0) rfl ?_
      refine g_iast (pc := 32) C hZ (nI_clamp (by omega)) (nI_in0 (n := 10511) (by omega) (by omega)) dX11_stop_32 ?_
      obtain ⟨Z_1, hZ_1⟩ : ∃ yZ : Nat → Int32, yZ = upd Z (0 + i) (nI 0) := ⟨_, rfl⟩
      show V K 0 0 P A (va_up g (m + 1) (ai 0 10511 (upd Z (0 + i) (nI 0)))) [(0, .ref (A m)), (1, .int (nI i))] 33 []
      rw [← hZ_1]
      obtain ⟨g_2, hg_2⟩ : ∃ yM : pM, yM = va_up g (m + 1) (ai 0 10511 Z_1) := ⟨_, rfl⟩
      show V K 0 0 P A (va_up g (m + 1) (ai 0 10511 Z_1)) [(0, .ref (A m)), (1, .int (nI i))] 33 []
      rw [← hg_2]
      have h_3 : g_2 m = ob 11 [.ref (A (m + 1)), .int (nI (gZ σ).1), .int (nI (gZ σ).2.1), .int (nI (gZ σ).2.2.1), .int (nI (gZ σ).2.2.2.1), .int (nI (gZ σ).2.2.2.2), .ref (A (m + 2)), .int (nI cs.length), .ref (A (m + 3)), .int (nI lm), .ref (A (m + 4)), .ref (A (m + 5)), .int (nI gm), .ref (A (m + 6)), .ref (A (m + 7)), .ref (A (m + 8))] := by rw [hg_2, va_up_ne _ _ (show m ≠ m + 1 from by omega)]; exact hO
      have h_4 : g_2 (m + 1) = ai 0 10511 Z_1 := by rw [hg_2]; exact va_up_self _ _ _
      have hf_5 : Fr g g_2 (m + 1) (m + 1 + 1) := by rw [hg_2]; exact Fr.up (by omega) (by omega)
      have hp_6 := MC.fr hC hf_5 (by omega)
      have hp_7 := SO.fr hl3 hf_5 (by omega)
      have hp_8 := SO.fr hl4 hf_5 (by omega)
      have hp_9 := SO.fr hl5 hf_5 (by omega)
      have hR_10 : RZ Z_1 (sNd σ i (sLv (gN σ i) false)) := RZ.wLv (b := false) hR hi (hZ_1.trans (by rw [Nat.zero_add]; rfl))
      obtain ⟨σ11, hσ11⟩ : ∃ sM : Sg, sM = sNd σ i (sLv (gN σ i) false) := ⟨_, rfl⟩
      rw [← hσ11] at hR_10
      have hK_σ11 : gK σ11 = gK σ := (congrArg gK hσ11).trans (rfl : gK σ = gK σ)
      have hT_σ11 : gT σ11 = gT σ := (congrArg gT hσ11).trans (rfl : gT σ = gT σ)
      have hZ_σ11 : gZ σ11 = gZ σ := (congrArg gZ hσ11).trans (rfl : gZ σ = gZ σ)
      have hS_σ11 : SW B cs σ11 := by rw [hσ11]; exact SW.sn hS (hS.nw hi)
      have hRR : gR σ11 = gR σ := by rw [hσ11]
      refine g_iconst (pc := 33) C dX11_stop_33 (v := nI 0) rfl ?_
      refine g_istore_n (pc := 34) C dX11_stop_34 (by decide) (lv' := [(0, .ref (A m)), (1, .int (nI i)), (2, .int (nI 0))]) [1, 2, 0] rfl ?_
      refine g_aload_n (pc := 35) C dX11_stop_35 0 rfl ?_
      refine g_get (pc := 36) C (j := 0) h_3 rfl rfl (by decide) u_852 dX11_stop_36 ?_
      refine g_sipush (pc := 39) C dX11_stop_39 (v := nI 10507) rfl ?_
      refine g_iald (pc := 42) C h_4 (nI_clamp (by omega)) (nI_in0 (n := 10511) (by omega) (by omega)) dX11_stop_42 (x := nI (gR σ11).length) (RZ.rRn hR_10 (by omega)) ?_
      refine g_iconst (pc := 43) C dX11_stop_43 (v := nI 1) rfl ?_
      refine g_isub (pc := 44) C dX11_stop_44 (z := nI (gR σ11).length - nI 1) rfl ?_
      refine g_istore_n (pc := 45) C dX11_stop_45 (by decide) (lv' := [(0, .ref (A m)), (1, .int (nI i)), (2, .int (nI 0)), (3, .int (nI (gR σ11).length - nI 1))]) [1, 2, 3, 0] rfl ?_
      have lp_46 : ∀ (fuel : Nat) (gm46 : pM) (hm46 : Fr g_2 gm46 (m + 1) (m + 2)) (j : Nat) (hj : j ≤ (gR σ).length) (hz46 : ZS gm46 m (sR σ11 (stL i (gR σ) j))), j < fuel → V K 0 0 P A gm46 [(0, .ref (A m)), (1, .int (nI i)), (2, .int (nI ((gR σ).length - (stL i (gR σ) j).length))), (3, .int (nI j - nI 1))] 46 [] := by
        intro fuel
        induction fuel with
        | zero => intro gm46 hm46 j hj hz46 hμ; exact absurd hμ (Nat.not_lt_zero _)
        | succ fuel ih_46 =>
          intro gm46 hm46 j hj hz46 hμ
          have h_12 := hm46.at (by omega) h_3
          have hp_13 := MC.fr hp_6 hm46 (by omega)
          have hp_14 := SO.fr hp_7 hm46 (by omega)
          have hp_15 := SO.fr hp_8 hm46 (by omega)
          have hp_16 := SO.fr hp_9 hm46 (by omega)
          obtain ⟨Zl, hZl, hRl⟩ := hz46
          obtain ⟨σ17, hσ17⟩ : ∃ sM : Sg, sM = sR σ11 (stL i (gR σ) j) := ⟨_, rfl⟩
          rw [← hσ17] at hRl
          have hK_σ17 : gK σ17 = gK σ := (congrArg gK hσ17).trans hK_σ11
          have hT_σ17 : gT σ17 = gT σ := (congrArg gT hσ17).trans hT_σ11
          have hZ_σ17 : gZ σ17 = gZ σ := (congrArg gZ hσ17).trans hZ_σ11
          refine g_iload_n (pc := 46) C dX11_stop_46 3 rfl ?_
          refine g_if_lt (pc := 47) C dX11_stop_47 (tgt := 79) (by decide) (fun c_47 => ?_) (fun c_47 => ?_)
          ·
            obtain rfl : j = 0 := (dec_lt (by omega)).mp c_47
            have hH : σ17 = hlt1 σ i := by rw [hσ17, stL_0, hσ11]; rfl
            have hS_σ17 : SW B cs σ17 := by rw [hH]; exact hlt1_SW hS
            rw [stL_0]
            refine g_iconst (pc := 79) C dX11_stop_79 (v := nI 0) rfl ?_
            refine g_istore_n (pc := 80) C dX11_stop_80 (by decide) (lv' := [(0, .ref (A m)), (1, .int (nI i)), (2, .int (nI ((gR σ).length - ((gR σ).filter (fun t => !(t.2.1 == i))).length))), (3, .int (nI 0))]) [1, 2, 3, 0] rfl ?_
            have lp_81 : ∀ (fuel : Nat) (gm81 : pM) (hm81 : Fr gm46 gm81 (m + 1) (m + 2)) (r : Nat) (hr : r ≤ gK σ) (hz81 : ZS gm81 m (hltF σ17 i r)), gK σ - r < fuel → V K 0 0 P A gm81 [(0, .ref (A m)), (1, .int (nI i)), (2, .int (nI ((gR σ).length - ((gR σ).filter (fun t => !(t.2.1 == i))).length))), (3, .int (nI r))] 81 [] := by
              intro fuel
              induction fuel with
              | zero => intro gm81 hm81 r hr hz81 hμ; exact absurd hμ (Nat.not_lt_zero _)
              | succ fuel ih_81 =>
                intro gm81 hm81 r hr hz81 hμ
                have h_18 := hm81.at (by omega) h_12
                have hp_19 := MC.fr hp_13 hm81 (by omega)
                have hp_20 := SO.fr hp_14 hm81 (by omega)
                have hp_21 := SO.fr hp_15 hm81 (by omega)
                have hp_22 := SO.fr hp_16 hm81 (by omega)
                obtain ⟨Zh, hZh, hRh⟩ := hz81
                obtain ⟨σ23, hσ23⟩ : ∃ sM : Sg, sM = hltF σ17 i r := ⟨_, rfl⟩
                rw [← hσ23] at hRh
                have hK_σ23 : gK σ23 = gK σ := (congrArg gK hσ23).trans (hltFx_K.trans hK_σ17)
                have hT_σ23 : gT σ23 = gT σ := (congrArg gT hσ23).trans (hltFx_T.trans hT_σ17)
                have hZ_σ23 : gZ σ23 = gZ σ := (congrArg gZ hσ23).trans (hltFx_Z.trans hZ_σ17)
                have hS_σ23 : SW B cs σ23 := by rw [hσ23]; exact hltF_SW hS_σ17 (by omega) r (by omega)
                refine g_iload_n (pc := 81) C dX11_stop_81 3 rfl ?_
                refine g_aload_n (pc := 82) C dX11_stop_82 0 rfl ?_
                refine g_get (pc := 83) C (j := 0) h_18 rfl rfl (by decide) u_852 dX11_stop_83 ?_
                refine g_sipush (pc := 86) C dX11_stop_86 (v := nI 10505) rfl ?_
                refine g_iald (pc := 89) C hZh (nI_clamp (by omega)) (nI_in0 (n := 10511) (by omega) (by omega)) dX11_stop_89 (x := nI (gK σ23)) (RZ.rK hRh (by omega)) ?_
                refine g_icmp_ge (pc := 90) C dX11_stop_90 (tgt := 153) (by decide) (fun c_90 => ?_) (fun c_90 => ?_)
                ·
                  have c_90 : (gK σ23) ≤ r := (nI_leI (by omega) (by omega)).mp c_90
                  refine g_iload_n (pc := 153) C dX11_stop_153 2 rfl ?_
                  have hfin : hlt σ i = σ23 := by rw [hσ23, show r = gK σ by omega, hH]; rfl
                  exact g_iret (pc := 154) C R ⟨rfl, rfl, Or.inr ⟨i, hi, rfl, c_18, rfl, by rw [hfin]; exact ⟨⟨_, _, _, _, _, (by rw [hZ_σ23]; exact h_18), hp_20, hp_21, hp_22⟩, ⟨_, hZh, hRh⟩, hp_19⟩, (show Fr _ _ (m + 1) (m + 2) from fun k hk => by rw [hm81 k (by omega), hm46 k (by omega), hg_2, va_up_ne _ _ (by omega)]).a (by omega)⟩⟩ (by decide) (by decide) dX11_stop_154
                ·
                  have c_90 : ¬ (gK σ23) ≤ r := fun h => c_90 ((nI_leI (a := (gK σ23)) (b := r) (by omega) (by omega)).mpr h)
                  refine g_aload_n (pc := 93) C dX11_stop_93 0 rfl ?_
                  refine g_get (pc := 94) C (j := 0) h_18 rfl rfl (by decide) u_852 dX11_stop_94 ?_
                  refine g_iconst (pc := 97) C dX11_stop_97 (v := nI 0) rfl ?_
                  refine g_iload_n (pc := 98) C dX11_stop_98 3 rfl ?_
                  refine g_iadd (pc := 99) C dX11_stop_99 (z := nI (0 + r)) (nI_add _ _) ?_
                  refine g_iald (pc := 100) C hZh (nI_clamp (by omega)) (nI_in0 (n := 10511) (by omega) (by omega)) dX11_stop_100 (x := b32 (lvd σ23 r)) (RZ.rLv hRh (r := r) (by omega) (by omega)) ?_
                  refine g_iconst (pc := 101) C dX11_stop_101 (v := nI 1) rfl ?_
                  refine g_icmp_ne (pc := 102) C dX11_stop_102 (tgt := 147) (by decide) (fun c_102 => ?_) (fun c_102 => ?_)
                  ·
                    have c_102 : (lvd σ23 r) = false := b32_n1 c_102
                    refine g_iinc (pc := 147) C dX11_stop_147 (by decide) 3 rfl (v := nI (r + 1)) (nI_i1 _) (lv' := [(0, .ref (A m)), (1, .int (nI i)), (2, .int (nI ((gR σ).length - ((gR σ).filter (fun t => !(t.2.1 == i))).length))), (3, .int (nI (r + 1)))]) [1, 2, 3, 0] rfl ?_
                    refine g_goto (pc := 150) C dX11_stop_150 (tgt := 81) (by decide) ?_
                    exact ih_81 gm81 hm81 (r + 1) (by omega) ⟨_, hZh, by rw [hltF_d hσ23 c_102]; exact hRh⟩ (by omega)
                  ·
                    have c_102 : (lvd σ23 r) = true := b32_y1 c_102
                    have hb31 : ∀ q, nAs (gN σ23 r) = some q → q < 2 ^ 31 := fun q hq => by have := hS_σ23.s16 (r := r) (by omega) q hq; omega
                    refine g_aload_n (pc := 105) C dX11_stop_105 0 rfl ?_
                    refine g_iload_n (pc := 106) C dX11_stop_106 3 rfl ?_
                    refine g_iload_n (pc := 107) C dX11_stop_107 1 rfl ?_
                    refine g_callV (pc := 108) C (As := [.int (nI r), .int (nI i)]) (rest := []) (b := m) (c_X11_isActive A P gm81 m r i (by omega) (by omega) (hS_σ23.a16 (by omega)) (by rw [hZ_σ23]; exact h_18) hZh hRh) h_18 rfl rfl Y_X11_isActive u_957 N_X11_isActive ⟨by decide, by decide⟩ ⟨by decide, by decide⟩ (Nat.le_of_ble_eq_true rfl) rfl dX11_stop_108 ?_
                    rintro _ _ _ _ ⟨rfl, rfl, rfl, rfl⟩
                    show V K 0 0 P A gm81 [(0, .ref (A m)), (1, .int (nI i)), (2, .int (nI ((gR σ).length - ((gR σ).filter (fun t => !(t.2.1 == i))).length))), (3, .int (nI r))] 111 [.int (b32 (decide (i ∈ nAc (gN σ23 r))))]
                    refine g_if_ne (pc := 111) C dX11_stop_111 (tgt := 136) (by decide) (fun c_111 => ?_) (fun c_111 => ?_)
                    ·
                      have c_111 : (decide (i ∈ nAc (gN σ23 r))) = true := b32_no c_111
                      have c_111 : (i ∈ nAc (gN σ23 r)) := of_decide_eq_true c_111
                      refine g_aload_n (pc := 136) C dX11_stop_136 0 rfl ?_
                      refine g_iload_n (pc := 137) C dX11_stop_137 1 rfl ?_
                      refine g_iload_n (pc := 138) C dX11_stop_138 3 rfl ?_
                      refine g_bipush (pc := 139) C dX11_stop_139 (v := nI 12) rfl ?_
                      refine g_iconst (pc := 141) C dX11_stop_141 (v := nI 0) rfl ?_
                      refine g_iconst (pc := 142) C dX11_stop_142 (v := nI 0) rfl ?_
                      refine g_iconst (pc := 143) C dX11_stop_143 (v := nI 0) rfl ?_
                      refine g_callV (pc := 144) C (As := [.int (nI i), .int (nI r), .int (nI 12), .int (nI 0), .int (nI 0), .int (nI 0)]) (rest := []) (b := m) (c_X11_post A P gm81 m i r 12 0 0 ([]) (hp_20.nil) (by rw [hZ_σ23]; exact h_18) hZh hRh) h_18 rfl rfl Y_X11_post u_941 N_X11_post ⟨by decide, by decide⟩ ⟨by decide, by decide⟩ (Nat.le_of_ble_eq_true rfl) rfl dX11_stop_144 ?_
                      rintro _ _ _ g_24 ⟨rfl, rfl, rfl, ⟨Z_25, hZ_25, hR_26⟩, hf_27⟩
                      have h_28 := hf_27.at (by omega) h_18
                      have hp_29 := MC.fr hp_19 hf_27 (by omega)
                      have hp_30 := SO.fr hp_20 hf_27 (by omega)
                      have hp_31 := SO.fr hp_21 hf_27 (by omega)
                      have hp_32 := SO.fr hp_22 hf_27 (by omega)
                      obtain ⟨σ33, hσ33⟩ : ∃ sM : Sg, sM = pst σ23 (i, r, 12, 0, 0, []) := ⟨_, rfl⟩
                      rw [← hσ33] at hR_26
                      have hK_σ33 : gK σ33 = gK σ := (congrArg gK hσ33).trans (pst_K.trans hK_σ23)
                      have hT_σ33 : gT σ33 = gT σ := (congrArg gT hσ33).trans (pst_T.trans hT_σ23)
                      have hZ_σ33 : gZ σ33 = gZ σ := (congrArg gZ hσ33).trans (pst_Z.trans hZ_σ23)
                      show V K 0 0 P A g_24 [(0, .ref (A m)), (1, .int (nI i)), (2, .int (nI ((gR σ).length - ((gR σ).filter (fun t => !(t.2.1 == i))).length))), (3, .int (nI r))] 147 []
                      refine g_iinc (pc := 147) C dX11_stop_147 (by decide) 3 rfl (v := nI (r + 1)) (nI_i1 _) (lv' := [(0, .ref (A m)), (1, .int (nI i)), (2, .int (nI ((gR σ).length - ((gR σ).filter (fun t => !(t.2.1 == i))).length))), (3, .int (nI (r + 1)))]) [1, 2, 3, 0] rfl ?_
                      refine g_goto (pc := 150) C dX11_stop_150 (tgt := 81) (by decide) ?_
                      exact ih_81 g_24 (hm81.tr (fun k hk => by rw [hf_27 k (by omega)])) (r + 1) (by omega) ⟨_, hZ_25, by rw [hltF_y hσ23 c_102 (Or.inl c_111) hσ33]; exact hR_26⟩ (by omega)
                    ·
                      have c_111 : (decide (i ∈ nAc (gN σ23 r))) = false := b32_yes c_111
                      have c_111 : ¬ (i ∈ nAc (gN σ23 r)) := of_decide_eq_false c_111
                      refine g_aload_n (pc := 114) C dX11_stop_114 0 rfl ?_
                      refine g_get (pc := 115) C (j := 0) h_18 rfl rfl (by decide) u_852 dX11_stop_115 ?_
                      refine g_bipush (pc := 118) C dX11_stop_118 (v := nI 48) rfl ?_
                      refine g_iload_n (pc := 120) C dX11_stop_120 3 rfl ?_
                      refine g_iadd (pc := 121) C dX11_stop_121 (z := nI (48 + r)) (nI_add _ _) ?_
                      refine g_iald (pc := 122) C hZh (nI_clamp (by omega)) (nI_in0 (n := 10511) (by omega) (by omega)) dX11_stop_122 (x := onv (nAs (gN σ23 r))) (RZ.rAs hRh (r := r) (by omega) (by omega)) ?_
                      refine g_iload_n (pc := 123) C dX11_stop_123 1 rfl ?_
                      refine g_icmp_eq (pc := 124) C dX11_stop_124 (tgt := 136) (by decide) (fun c_124 => ?_) (fun c_124 => ?_)
                      ·
                        refine g_aload_n (pc := 136) C dX11_stop_136 0 rfl ?_
                        refine g_iload_n (pc := 137) C dX11_stop_137 1 rfl ?_
                        refine g_iload_n (pc := 138) C dX11_stop_138 3 rfl ?_
                        refine g_bipush (pc := 139) C dX11_stop_139 (v := nI 12) rfl ?_
                        refine g_iconst (pc := 141) C dX11_stop_141 (v := nI 0) rfl ?_
                        refine g_iconst (pc := 142) C dX11_stop_142 (v := nI 0) rfl ?_
                        refine g_iconst (pc := 143) C dX11_stop_143 (v := nI 0) rfl ?_
                        refine g_callV (pc := 144) C (As := [.int (nI i), .int (nI r), .int (nI 12), .int (nI 0), .int (nI 0), .int (nI 0)]) (rest := []) (b := m) (c_X11_post A P gm81 m i r 12 0 0 ([]) (hp_20.nil) (by rw [hZ_σ23]; exact h_18) hZh hRh) h_18 rfl rfl Y_X11_post u_941 N_X11_post ⟨by decide, by decide⟩ ⟨by decide, by decide⟩ (Nat.le_of_ble_eq_true rfl) rfl dX11_stop_144 ?_
                        rintro _ _ _ g_34 ⟨rfl, rfl, rfl, ⟨Z_35, hZ_35, hR_36⟩, hf_37⟩
                        have h_38 := hf_37.at (by omega) h_18
                        have hp_39 := MC.fr hp_19 hf_37 (by omega)
                        have hp_40 := SO.fr hp_20 hf_37 (by omega)
                        have hp_41 := SO.fr hp_21 hf_37 (by omega)
                        have hp_42 := SO.fr hp_22 hf_37 (by omega)
                        obtain ⟨σ43, hσ43⟩ : ∃ sM : Sg, sM = pst σ23 (i, r, 12, 0, 0, []) := ⟨_, rfl⟩
                        rw [← hσ43] at hR_36
                        have hK_σ43 : gK σ43 = gK σ := (congrArg gK hσ43).trans (pst_K.trans hK_σ23)
                        have hT_σ43 : gT σ43 = gT σ := (congrArg gT hσ43).trans (pst_T.trans hT_σ23)
                        have hZ_σ43 : gZ σ43 = gZ σ := (congrArg gZ hσ43).trans (pst_Z.trans hZ_σ23)
                        show V K 0 0 P A g_34 [(0, .ref (A m)), (1, .int (nI i)), (2, .int (nI ((gR σ).length - ((gR σ).filter (fun t => !(t.2.1 == i))).length))), (3, .int (nI r))] 147 []
                        refine g_iinc (pc := 147) C dX11_stop_147 (by decide) 3 rfl (v := nI (r + 1)) (nI_i1 _) (lv' := [(0, .ref (A m)), (1, .int (nI i)), (2, .int (nI ((gR σ).length - ((gR σ).filter (fun t => !(t.2.1 == i))).length))), (3, .int (nI (r + 1)))]) [1, 2, 3, 0] rfl ?_
                        refine g_goto (pc := 150) C dX11_stop_150 (tgt := 81) (by decide) ?_
                        exact ih_81 g_34 (hm81.tr (fun k hk => by rw [hf_37 k (by omega)])) (r + 1) (by omega) ⟨_, hZ_35, by rw [hltF_y hσ23 c_102 (Or.inr (Or.inl ((onv_eq hb31 (by omega)).mp c_124))) hσ43]; exact hR_36⟩ (by omega)
                      ·
                        refine g_aload_n (pc := 127) C dX11_stop_127 0 rfl ?_
                        refine g_iload_n (pc := 128) C dX11_stop_128 1 rfl ?_
                        refine g_iload_n (pc := 129) C dX11_stop_129 3 rfl ?_
                        refine g_callV (pc := 130) C (As := [.int (nI i), .int (nI r)]) (rest := []) (b := m) (c_X11_isUnderWay A P gm81 m i r (by omega) (by omega) hS_σ23 (by rw [hZ_σ23]; exact h_18) hZh hRh) h_18 rfl rfl Y_X11_isUnderWay u_965 N_X11_isUnderWay ⟨by decide, by decide⟩ ⟨by decide, by decide⟩ (Nat.le_of_ble_eq_true rfl) rfl dX11_stop_130 ?_
                        rintro _ _ _ _ ⟨rfl, rfl, rfl, rfl⟩
                        show V K 0 0 P A gm81 [(0, .ref (A m)), (1, .int (nI i)), (2, .int (nI ((gR σ).length - ((gR σ).filter (fun t => !(t.2.1 == i))).length))), (3, .int (nI r))] 133 [.int (b32 ((gR σ23).any (fun q => q.1 == i && q.2.1 == r)))]
                        refine g_if_eq (pc := 133) C dX11_stop_133 (tgt := 147) (by decide) (fun c_133 => ?_) (fun c_133 => ?_)
                        ·
                          have c_133 : ((gR σ23).any (fun q => q.1 == i && q.2.1 == r)) = false := b32_yes c_133
                          refine g_iinc (pc := 147) C dX11_stop_147 (by decide) 3 rfl (v := nI (r + 1)) (nI_i1 _) (lv' := [(0, .ref (A m)), (1, .int (nI i)), (2, .int (nI ((gR σ).length - ((gR σ).filter (fun t => !(t.2.1 == i))).length))), (3, .int (nI (r + 1)))]) [1, 2, 3, 0] rfl ?_
                          refine g_goto (pc := 150) C dX11_stop_150 (tgt := 81) (by decide) ?_
                          exact ih_81 gm81 hm81 (r + 1) (by omega) ⟨_, hZh, by rw [hltF_n hσ23 c_111 (fun z => c_124 ((onv_eq hb31 (by omega)).mpr z)) c_133]; exact hRh⟩ (by omega)
                        ·
                          have c_133 : ((gR σ23).any (fun q => q.1 == i && q.2.1 == r)) = true := b32_no c_133
                          refine g_aload_n (pc := 136) C dX11_stop_136 0 rfl ?_
                          refine g_iload_n (pc := 137) C dX11_stop_137 1 rfl ?_
                          refine g_iload_n (pc := 138) C dX11_stop_138 3 rfl ?_
                          refine g_bipush (pc := 139) C dX11_stop_139 (v := nI 12) rfl ?_
                          refine g_iconst (pc := 141) C dX11_stop_141 (v := nI 0) rfl ?_
                          refine g_iconst (pc := 142) C dX11_stop_142 (v := nI 0) rfl ?_
                          refine g_iconst (pc := 143) C dX11_stop_143 (v := nI 0) rfl ?_
                          refine g_callV (pc := 144) C (As := [.int (nI i), .int (nI r), .int (nI 12), .int (nI 0), .int (nI 0), .int (nI 0)]) (rest := []) (b := m) (c_X11_post A P gm81 m i r 12 0 0 ([]) (hp_20.nil) (by rw [hZ_σ23]; exact h_18) hZh hRh) h_18 rfl rfl Y_X11_post u_941 N_X11_post ⟨by decide, by decide⟩ ⟨by decide, by decide⟩ (Nat.le_of_ble_eq_true rfl) rfl dX11_stop_144 ?_
                          rintro _ _ _ g_44 ⟨rfl, rfl, rfl, ⟨Z_45, hZ_45, hR_46⟩, hf_47⟩
                          have h_48 := hf_47.at (by omega) h_18
                          have hp_49 := MC.fr hp_19 hf_47 (by omega)
                          have hp_50 := SO.fr hp_20 hf_47 (by omega)
                          have hp_51 := SO.fr hp_21 hf_47 (by omega)
                          have hp_52 := SO.fr hp_22 hf_47 (by omega)
                          obtain ⟨σ53, hσ53⟩ : ∃ sM : Sg, sM = pst σ23 (i, r, 12, 0, 0, []) := ⟨_, rfl⟩
                          rw [← hσ53] at hR_46
                          have hK_σ53 : gK σ53 = gK σ := (congrArg gK hσ53).trans (pst_K.trans hK_σ23)
                          have hT_σ53 : gT σ53 = gT σ := (congrArg gT hσ53).trans (pst_T.trans hT_σ23)
                          have hZ_σ53 : gZ σ53 = gZ σ := (congrArg gZ hσ53).trans (pst_Z.trans hZ_σ23)
                          show V K 0 0 P A g_44 [(0, .ref (A m)), (1, .int (nI i)), (2, .int (nI ((gR σ).length - ((gR σ).filter (fun t => !(t.2.1 == i))).length))), (3, .int (nI r))] 147 []
                          refine g_iinc (pc := 147) C dX11_stop_147 (by decide) 3 rfl (v := nI (r + 1)) (nI_i1 _) (lv' := [(0, .ref (A m)), (1, .int (nI i)), (2, .int (nI ((gR σ).length - ((gR σ).filter (fun t => !(t.2.1 == i))).length))), (3, .int (nI (r + 1)))]) [1, 2, 3, 0] rfl ?_
                          refine g_goto (pc := 150) C dX11_stop_150 (tgt := 81) (by decide) ?_
                          exact ih_81 g_44 (hm81.tr (fun k hk => by rw [hf_47 k (by omega)])) (r + 1) (by omega) ⟨_, hZ_45, by rw [hltF_y hσ23 c_102 (Or.inr (Or.inr c_133)) hσ53]; exact hR_46⟩ (by omega)
            exact lp_81 (_ + 1) gm46 Fr.rf 0 (Nat.zero_le _) ⟨_, hZl, hRl⟩ (Nat.lt_succ_self _)
          ·
            have hj1 : ¬ j = 0 := fun z => c_47 ((dec_lt (by omega)).mpr z)
            obtain ⟨k, rfl⟩ : ∃ k, j = k + 1 := ⟨j - 1, by omega⟩
            rw [show nI (k + 1) - nI 1 = nI k from pk_sub (a := k + 1) (b := 1) (by omega)]
            obtain ⟨u, hu⟩ : ∃ u, (gR σ)[k]? = some u := ⟨_, List.getElem?_eq_getElem (show k < (gR σ).length by omega)⟩
            obtain ⟨hu1, hu2, -⟩ := hS.2.2.2.2.2.1 u (List.mem_of_getElem? hu)
            have hul : (gR σ17)[k]? = some u := by rw [hσ17]; exact (stL_at (by omega)).trans hu
            have hull : k < (gR σ17).length := (List.getElem?_eq_some_iff.mp hul).1
            have hLl := hRl.le
            refine g_aload_n (pc := 50) C dX11_stop_50 0 rfl ?_
            refine g_get (pc := 51) C (j := 0) h_12 rfl rfl (by decide) u_852 dX11_stop_51 ?_
            refine g_aload_n (pc := 54) C dX11_stop_54 0 rfl ?_
            refine g_iload_n (pc := 55) C dX11_stop_55 3 rfl ?_
            refine g_iconst (pc := 56) C dX11_stop_56 (v := nI 1) rfl ?_
            refine g_callV (pc := 57) C (As := [.int (nI k), .int (nI 1)]) (rest := [.ref (A (m + 1))]) (b := m) (c_X11_ofLetter A P gm46 m k 1) h_12 rfl rfl Y_X11_ofLetter u_945 N_X11_ofLetter ⟨by decide, by decide⟩ ⟨by decide, by decide⟩ (Nat.le_of_ble_eq_true rfl) rfl dX11_stop_57 ?_
            rintro _ _ _ _ ⟨rfl, rfl, rfl, rfl⟩
            show V K 0 0 P A gm46 [(0, .ref (A m)), (1, .int (nI i)), (2, .int (nI ((gR σ).length - (stL i (gR σ) (k + 1)).length))), (3, .int (nI k))] 60 [.int (nI (4992 + 11 * k + 1)), .ref (A (m + 1))]
            refine g_iald (pc := 60) C hZl (nI_clamp (by omega)) (nI_in0 (n := 10511) (by omega) (by omega)) dX11_stop_60 (x := nI u.2.1) (RZ.rL hRl (i := k) 1 (by omega) hul (by omega)) ?_
            refine g_iload_n (pc := 61) C dX11_stop_61 1 rfl ?_
            refine g_icmp_ne (pc := 62) C dX11_stop_62 (tgt := 73) (by decide) (fun c_62 => ?_) (fun c_62 => ?_)
            ·
              have c_62 : ¬ u.2.1 = i := fun h => c_62 ((nI_eq (a := u.2.1) (b := i) (by omega) (by omega)).mpr h)
              refine g_iinc (pc := 73) C dX11_stop_73 (by decide) 3 rfl (v := nI k - nI 1) dec_g (lv' := [(0, .ref (A m)), (1, .int (nI i)), (2, .int (nI ((gR σ).length - (stL i (gR σ) (k + 1)).length))), (3, .int (nI k - nI 1))]) [1, 2, 3, 0] rfl ?_
              refine g_goto (pc := 76) C dX11_stop_76 (tgt := 46) (by decide) ?_
              rw [← stL_k hu c_62]
              exact ih_46 gm46 hm46 k (by omega) ⟨_, hZl, by rw [stL_k hu c_62, ← hσ17]; exact hRl⟩ (by omega)
            ·
              have c_62 : u.2.1 = i := (nI_eq (by omega) (by omega)).mp c_62
              refine g_aload_n (pc := 65) C dX11_stop_65 0 rfl ?_
              refine g_iload_n (pc := 66) C dX11_stop_66 3 rfl ?_
              refine g_callV (pc := 67) C (As := [.int (nI k)]) (rest := []) (b := m) (c_X11_takeOutLetter A P gm46 m k (by omega) (by rw [hZ_σ17]; exact h_12) hZl hRl) h_12 rfl rfl Y_X11_takeOutLetter u_953 N_X11_takeOutLetter ⟨by decide, by decide⟩ ⟨by decide, by decide⟩ (Nat.le_of_ble_eq_true rfl) rfl dX11_stop_67 ?_
              rintro _ _ _ g_54 ⟨rfl, rfl, rfl, ⟨Z_55, hZ_55, hR_56⟩, hf_57⟩
              have h_58 := hf_57.at (by omega) h_12
              have hp_59 := MC.fr hp_13 hf_57 (by omega)
              have hp_60 := SO.fr hp_14 hf_57 (by omega)
              have hp_61 := SO.fr hp_15 hf_57 (by omega)
              have hp_62 := SO.fr hp_16 hf_57 (by omega)
              obtain ⟨σ63, hσ63⟩ : ∃ sM : Sg, sM = sR σ17 ((gR σ17).eraseIdx k) := ⟨_, rfl⟩
              rw [← hσ63] at hR_56
              have hK_σ63 : gK σ63 = gK σ := (congrArg gK hσ63).trans hK_σ17
              have hT_σ63 : gT σ63 = gT σ := (congrArg gT hσ63).trans hT_σ17
              have hZ_σ63 : gZ σ63 = gZ σ := (congrArg gZ hσ63).trans hZ_σ17
              show V K 0 0 P A g_54 [(0, .ref (A m)), (1, .int (nI i)), (2, .int (nI ((gR σ).length - (stL i (gR σ) (k + 1)).length))), (3, .int (nI k))] 70 []
              refine g_iinc (pc := 70) C dX11_stop_70 (by decide) 2 rfl (v := nI ((gR σ).length - (stL i (gR σ) (k + 1)).length + 1)) (nI_i1 _) (lv' := [(0, .ref (A m)), (1, .int (nI i)), (2, .int (nI ((gR σ).length - (stL i (gR σ) (k + 1)).length + 1))), (3, .int (nI k))]) [1, 2, 0, 3] rfl ?_
              refine g_iinc (pc := 73) C dX11_stop_73 (by decide) 3 rfl (v := nI k - nI 1) dec_g (lv' := [(0, .ref (A m)), (1, .int (nI i)), (2, .int (nI ((gR σ).length - (stL i (gR σ) (k + 1)).length + 1))), (3, .int (nI k - nI 1))]) [1, 2, 3, 0] rfl ?_
              refine g_goto (pc := 76) C dX11_stop_76 (tgt := 46) (by decide) ?_
              rw [show (gR σ).length - (stL i (gR σ) (k + 1)).length + 1 = (gR σ).length - (stL i (gR σ) k).length from by have := stL_c hu c_62; have := stL_le (i := i) (j := k + 1) (R := gR σ) (by omega); omega]
              exact ih_46 g_54 (hm46.tr (fun k hk => by rw [hf_57 k (by omega)])) k (by omega) ⟨_, hZ_55, by have e : σ63 = sR σ11 ((stL i (gR σ) (k + 1)).eraseIdx k) := (by subst hσ63 hσ17; rfl); rw [stL_r hu c_62, ← e]; exact hR_56⟩ (by omega)
      rw [show (nI 0 : Int32) = nI ((gR σ).length - (stL i (gR σ) (gR σ).length).length) from by rw [stL_n, Nat.sub_self], hRR]
      exact lp_46 (_ + 1) g_2 Fr.rf _ (Nat.le_refl _) ⟨_, h_4, by rw [stL_n, ← hRR]; exact hR_10⟩ (Nat.lt_succ_self _)
    ·
      have c_18 : (lvd σ i) = false := b32_yes c_18
      refine g_bipush (pc := 21) C dX11_stop_21 (v := (-3)) rfl ?_
      exact g_iret (pc := 23) C R ⟨rfl, rfl, Or.inl ⟨by rw [rfA_n hK hi, c_18]; decide, by rw [rfA_n hK hi, c_18]; rfl, rfl⟩⟩ (by decide) (by decide) dX11_stop_23
  ·
    have c_5 : (isN σ x) = false := b32_yes c_5
    refine g_iconst (pc := 8) C dX11_stop_8 (v := (-1)) rfl ?_
    exact g_iret (pc := 9) C R ⟨rfl, rfl, Or.inl ⟨by rw [rfA_no c_5]; decide, by rw [rfA_no c_5], rfl⟩⟩ (by decide) (by decide) dX11_stop_9
abbrev rm_X11_mix : Room := { frames := 3, cells := 0, slots := 0, locals := 76 }
theorem Y_X11_mix : pY yX11_mix cX11_mix 5 (Option.some Jvm.ClassFile.FieldType.int) := ⟨u_970, u_971, u_13, u_972⟩
theorem N_X11_mix : yX11_mix.cls ≠ "java/lang/invoke/MethodHandle" ∧ yX11_mix.cls ≠ "java/lang/invoke/VarHandle" ∧ (parseMethodDescriptor yX11_mix.desc).map (fun d => d.parameters.length) = some 1 := by decide +kernel
set_option maxRecDepth 20000 in
set_option maxHeartbeats 4000000 in
theorem c_X11_mix (A : Nat → Nat) (P : List Nat) (g : pM) (m : Nat) {cs : List Nat} {σ : Sg} {B : Nat} (x : Int32) (hS : SW B cs σ) (hM : MM A g m cs σ) : PM yX11_mix cX11_mix 5 (Option.some Jvm.ClassFile.FieldType.int) rm_X11_mix [.ref (A m), .int x] P A g (fun v g' => (rfA σ x ≠ 0 ∧ v = some (.int (rfA σ x)) ∧ g = g') ∨ (∃ i, i < gK σ ∧ x = nI i ∧ lvd σ i = true ∧ v = some (.int (match (bgm cs σ i).1 with | none => -5 | some q => nI q)) ∧ MM A g' m cs (bgm cs σ i).2 ∧ FrA g g' m)) := by
  obtain ⟨⟨lm, gm, l3, l4, l5, hO, hl3, hl4, hl5⟩, ⟨Z, hZ, hR⟩, hC⟩ := id hM
  have hK := hR.k16
  have hT := hR.t24
  have hL := hR.le
  refine px_intro (by decide +kernel) (Nat.le_of_ble_eq_true rfl) (fun K sz C R => ?_)
  show V K 0 0 P A g [(0, .ref (A m)), (1, .int x)] 0 []
  refine g_aload_n (pc := 0) C dX11_mix_0 0 rfl ?_
  refine g_iload_n (pc := 1) C dX11_mix_1 1 rfl ?_
  refine g_callV (pc := 2) C (As := [.int x]) (rest := []) (b := m) (c_X11_isNode A P g m x hO hZ hR) hO rfl rfl Y_X11_isNode u_929 N_X11_isNode ⟨by decide, by decide⟩ ⟨by decide, by decide⟩ (Nat.le_of_ble_eq_true rfl) rfl dX11_mix_2 ?_
  rintro _ _ _ _ ⟨rfl, rfl, rfl, rfl⟩
  show V K 0 0 P A g [(0, .ref (A m)), (1, .int x)] 5 [.int (b32 (isN σ x))]
  refine g_if_ne (pc := 5) C dX11_mix_5 (tgt := 10) (by decide) (fun c_5 => ?_) (fun c_5 => ?_)
  ·
    have c_5 : (isN σ x) = true := b32_no c_5
    obtain ⟨i, hi, rfl⟩ := isN_ex hK c_5
    refine g_aload_n (pc := 10) C dX11_mix_10 0 rfl ?_
    refine g_get (pc := 11) C (j := 0) hO rfl rfl (by decide) u_852 dX11_mix_11 ?_
    refine g_iconst (pc := 14) C dX11_mix_14 (v := nI 0) rfl ?_
    refine g_iload_n (pc := 15) C dX11_mix_15 1 rfl ?_
    refine g_iadd (pc := 16) C dX11_mix_16 (z := nI (0 + i)) (nI_add _ _) ?_
    refine g_iald (pc := 17) C hZ (nI_clamp (by omega)) (nI_in0 (n := 10511) (by omega) (by omega)) dX11_mix_17 (x := b32 (lvd σ i)) (RZ.rLv hR (r := i) (by omega) (by omega)) ?_
    refine g_if_ne (pc := 18) C dX11_mix_18 (tgt := 24) (by decide) (fun c_18 => ?_) (fun c_18 => ?_)
    ·
      have c_18 : (lvd σ i) = true := b32_no c_18
      have hc5 := hR.ac5 hi
      refine g_aload_n (pc := 24) C dX11_mix_24 0 rfl ?_
      refine g_get (pc := 25) C (j := 0) hO rfl rfl (by decide) u_852 dX11_mix_25 ?_
      refine g_bipush (pc := 28) C dX11_mix_28 (v := nI 16) rfl ?_
      refine g_iload_n (pc := 30) C dX11_mix_30 1 rfl ?_
      refine g_iadd (pc := 31) C dX11_mix_31 (z := nI (16 + i)) (nI_add _ _) ?_
      refine g_iald (pc := 32) C hZ (nI_clamp (by omega)) (nI_in0 (n := 10511) (by omega) (by omega)) dX11_mix_32 (x := nI (nAc (gN σ i)).length) (RZ.rAn hR (r := i) (by omega) (by omega)) ?_
      refine g_if_ne (pc := 33) C dX11_mix_33 (tgt := 39) (by decide) (fun c_33 => ?_) (fun c_33 => ?_)
      ·
        have c_33 : ¬ (nAc (gN σ i)).length = 0 := fun h => c_33 ((nI_eq (a := (nAc (gN σ i)).length) (b := 0) (by omega) (by omega)).mpr h)
        refine g_aload_n (pc := 39) C dX11_mix_39 0 rfl ?_
        refine g_get (pc := 40) C (j := 0) hO rfl rfl (by decide) u_852 dX11_mix_40 ?_
        refine g_bipush (pc := 43) C dX11_mix_43 (v := nI 96) rfl ?_
        refine g_iconst (pc := 45) C dX11_mix_45 (v := nI 5) rfl ?_
        refine g_iload_n (pc := 46) C dX11_mix_46 1 rfl ?_
        refine g_imul (pc := 47) C dX11_mix_47 (z := nI (5 * i)) (pk_mul _ _) ?_
        refine g_iadd (pc := 48) C dX11_mix_48 (z := nI (96 + 5 * i)) (nI_add _ _) ?_
        refine g_aload_n (pc := 49) C dX11_mix_49 0 rfl ?_
        refine g_aload_n (pc := 50) C dX11_mix_50 0 rfl ?_
        refine g_get (pc := 51) C (j := 0) hO rfl rfl (by decide) u_852 dX11_mix_51 ?_
        refine g_bipush (pc := 54) C dX11_mix_54 (v := nI 16) rfl ?_
        refine g_iload_n (pc := 56) C dX11_mix_56 1 rfl ?_
        refine g_iadd (pc := 57) C dX11_mix_57 (z := nI (16 + i)) (nI_add _ _) ?_
        refine g_iald (pc := 58) C hZ (nI_clamp (by omega)) (nI_in0 (n := 10511) (by omega) (by omega)) dX11_mix_58 (x := nI (nAc (gN σ i)).length) (RZ.rAn hR (r := i) (by omega) (by omega)) ?_
        refine g_callV (pc := 59) C (As := [.int (nI (nAc (gN σ i)).length)]) (rest := [.int (nI (96 + 5 * i)), .ref (A (m + 1))]) (b := m) (c_X11_draw A P g m (nAc (gN σ i)).length (by omega) (by omega) hC hS.nx hO hZ hR) hO rfl rfl Y_X11_draw u_973 N_X11_draw ⟨by decide, by decide⟩ ⟨by decide, by decide⟩ (Nat.le_of_ble_eq_true rfl) rfl dX11_mix_59 ?_
        rintro _ _ _ g_1 ⟨rfl, rfl, rfl, ⟨Z_2, hZ_2, hR_3⟩, hf_4⟩
        have h_5 := hf_4.at (by omega) hO
        have hp_6 := MC.fr hC hf_4 (by omega)
        have hp_7 := SO.fr hl3 hf_4 (by omega)
        have hp_8 := SO.fr hl4 hf_4 (by omega)
        have hp_9 := SO.fr hl5 hf_4 (by omega)
        obtain ⟨σ10, hσ10⟩ : ∃ sM : Sg, sM = dS cs σ (nAc (gN σ i)).length := ⟨_, rfl⟩
        rw [← hσ10] at hR_3
        have hK_σ10 : gK σ10 = gK σ := (congrArg gK hσ10).trans (dS_K.trans (rfl : gK σ = gK σ))
        have hT_σ10 : gT σ10 = gT σ := (congrArg gT hσ10).trans (dS_T.trans (rfl : gT σ = gT σ))
        have hZ_σ10 : gZ σ10 = gZ σ := (congrArg gZ hσ10).trans (dS_Z.trans (rfl : gZ σ = gZ σ))
        have hS_σ10 : SW B cs σ10 := by rw [hσ10]; exact hS.drw
        have hN_σ10 : gN σ10 = gN σ := (congrArg gN hσ10).trans dS_N
        have hd_σ10 := dI_lt (cs := cs) (σ := σ) (n := (nAc (gN σ i)).length) (by omega)
        show V K 0 0 P A g_1 [(0, .ref (A m)), (1, .int (nI i))] 62 [.int (nI (dI cs σ (nAc (gN σ i)).length)), .int (nI (96 + 5 * i)), .ref (A (m + 1))]
        refine g_iadd (pc := 62) C dX11_mix_62 (z := nI (96 + 5 * i + (dI cs σ (nAc (gN σ i)).length))) (nI_add _ _) ?_
        refine g_iald (pc := 63) C hZ_2 (nI_clamp (by omega)) (nI_in0 (n := 10511) (by omega) (by omega)) dX11_mix_63 (x := nI ((nAc (gN σ i)).getD (dI cs σ (nAc (gN σ i)).length) 0)) ((RZ.rAc hR_3 (r := i) (k := dI cs σ (nAc (gN σ i)).length) (by omega) (by omega) (by rw [hN_σ10]; exact hd_σ10)).trans (by rw [hN_σ10])) ?_
        refine g_istore_n (pc := 64) C dX11_mix_64 (by decide) (lv' := [(0, .ref (A m)), (1, .int (nI i)), (2, .int (nI ((nAc (gN σ i)).getD (dI cs σ (nAc (gN σ i)).length) 0)))]) [1, 2, 0] rfl ?_
        have htK : (nAc (gN σ i)).getD (dI cs σ (nAc (gN σ i)).length) 0 < gK σ := (hS.nw hi).2.1 _ (getD_mem hd_σ10)
        obtain ⟨hq0, rq, hq1, hq2⟩ := hp_7
        refine g_aload_n (pc := 65) C dX11_mix_65 0 rfl ?_
        refine g_get (pc := 66) C (j := 8) h_5 rfl rfl (by decide) u_860 dX11_mix_66 ?_
        refine g_iconst (pc := 69) C dX11_mix_69 (v := nI 0) rfl ?_
        refine g_iload_n (pc := 70) C dX11_mix_70 1 rfl ?_
        refine g_iast (pc := 71) C hq1 (nI_clamp (by omega)) (nI_in0 (n := 5) (by omega) (by omega)) dX11_mix_71 ?_
        obtain ⟨g_11, hg_11⟩ : ∃ yM : pM, yM = va_up g_1 (m + 3) (ai 0 5 (upd rq 0 (nI i))) := ⟨_, rfl⟩
        show V K 0 0 P A (va_up g_1 (m + 3) (ai 0 5 (upd rq 0 (nI i)))) [(0, .ref (A m)), (1, .int (nI i)), (2, .int (nI ((nAc (gN σ i)).getD (dI cs σ (nAc (gN σ i)).length) 0)))] 72 []
        rw [← hg_11]
        have h_12 : g_11 m = ob 11 [.ref (A (m + 1)), .int (nI (gZ σ).1), .int (nI (gZ σ).2.1), .int (nI (gZ σ).2.2.1), .int (nI (gZ σ).2.2.2.1), .int (nI (gZ σ).2.2.2.2), .ref (A (m + 2)), .int (nI cs.length), .ref (A (m + 3)), .int (nI lm), .ref (A (m + 4)), .ref (A (m + 5)), .int (nI gm), .ref (A (m + 6)), .ref (A (m + 7)), .ref (A (m + 8))] := by rw [hg_11, va_up_ne _ _ (show m ≠ m + 3 from by omega)]; exact h_5
        have h_13 : g_11 (m + 1) = ai 0 10511 Z_2 := by rw [hg_11, va_up_ne _ _ (show m + 1 ≠ m + 3 from by omega)]; exact hZ_2
        have h_14 : g_11 (m + 3) = ai 0 5 (upd rq 0 (nI i)) := by rw [hg_11]; exact va_up_self _ _ _
        have hf_15 : Fr g_1 g_11 (m + 3) (m + 3 + 1) := by rw [hg_11]; exact Fr.up (by omega) (by omega)
        have hp_16 := MC.fr hp_6 hf_15 (by omega)
        have hp_17 := SO.fr hp_8 hf_15 (by omega)
        have hp_18 := SO.fr hp_9 hf_15 (by omega)
        have hone : SO g_11 (m + 3) 5 [i] := SO.one (by omega) h_14
        refine g_aload_n (pc := 72) C dX11_mix_72 0 rfl ?_
        refine g_iconst (pc := 73) C dX11_mix_73 (v := nI 1) rfl ?_
        refine g_put (pc := 74) C (j := 9) h_12 rfl (by decide) (Nat.le_of_ble_eq_true rfl) u_861 rfl pfd_I rfl rfl dX11_mix_74 ?_
        obtain ⟨g_19, hg_19⟩ : ∃ yM : pM, yM = va_up g_11 m (ob 11 [.ref (A (m + 1)), .int (nI (gZ σ).1), .int (nI (gZ σ).2.1), .int (nI (gZ σ).2.2.1), .int (nI (gZ σ).2.2.2.1), .int (nI (gZ σ).2.2.2.2), .ref (A (m + 2)), .int (nI cs.length), .ref (A (m + 3)), .int (nI 1), .ref (A (m + 4)), .ref (A (m + 5)), .int (nI gm), .ref (A (m + 6)), .ref (A (m + 7)), .ref (A (m + 8))]) := ⟨_, rfl⟩
        show V K 0 0 P A (va_up g_11 m (ob 11 [.ref (A (m + 1)), .int (nI (gZ σ).1), .int (nI (gZ σ).2.1), .int (nI (gZ σ).2.2.1), .int (nI (gZ σ).2.2.2.1), .int (nI (gZ σ).2.2.2.2), .ref (A (m + 2)), .int (nI cs.length), .ref (A (m + 3)), .int (nI 1), .ref (A (m + 4)), .ref (A (m + 5)), .int (nI gm), .ref (A (m + 6)), .ref (A (m + 7)), .ref (A (m + 8))])) [(0, .ref (A m)), (1, .int (nI i)), (2, .int (nI ((nAc (gN σ i)).getD (dI cs σ (nAc (gN σ i)).length) 0)))] 77 []
        rw [← hg_19]
        have h_20 : g_19 m = ob 11 [.ref (A (m + 1)), .int (nI (gZ σ).1), .int (nI (gZ σ).2.1), .int (nI (gZ σ).2.2.1), .int (nI (gZ σ).2.2.2.1), .int (nI (gZ σ).2.2.2.2), .ref (A (m + 2)), .int (nI cs.length), .ref (A (m + 3)), .int (nI 1), .ref (A (m + 4)), .ref (A (m + 5)), .int (nI gm), .ref (A (m + 6)), .ref (A (m + 7)), .ref (A (m + 8))] := by rw [hg_19]; exact va_up_self _ _ _
        have h_21 : g_19 (m + 1) = ai 0 10511 Z_2 := by rw [hg_19, va_up_ne _ _ (show m + 1 ≠ m from by omega)]; exact h_13
        have hf_22 : Fr g_11 g_19 m (m + 1) := by rw [hg_19]; exact Fr.up (by omega) (by omega)
        have hp_23 := MC.fr hp_16 hf_22 (by omega)
        have hp_24 := SO.fr hp_17 hf_22 (by omega)
        have hp_25 := SO.fr hp_18 hf_22 (by omega)
        have hp_26 := SO.fr hone hf_22 (by omega)
        refine g_aload_n (pc := 77) C dX11_mix_77 0 rfl ?_
        refine g_aload_n (pc := 78) C dX11_mix_78 0 rfl ?_
        refine g_iload_n (pc := 79) C dX11_mix_79 1 rfl ?_
        refine g_iload_n (pc := 80) C dX11_mix_80 2 rfl ?_
        refine g_iload_n (pc := 81) C dX11_mix_81 2 rfl ?_
        refine g_callV (pc := 82) C (As := [.int (nI i), .int (nI ((nAc (gN σ i)).getD (dI cs σ (nAc (gN σ i)).length) 0)), .int (nI ((nAc (gN σ i)).getD (dI cs σ (nAc (gN σ i)).length) 0))]) (rest := [.ref (A m)]) (b := m) (c_X11_without A P g_19 m i ((nAc (gN σ i)).getD (dI cs σ (nAc (gN σ i)).length) 0) ((nAc (gN σ i)).getD (dI cs σ (nAc (gN σ i)).length) 0) (by omega) (by omega) (by omega) (hS_σ10.a16 (by omega)) hp_24 (by rw [hZ_σ10]; exact h_20) h_21 hR_3) h_20 rfl rfl Y_X11_without u_977 N_X11_without ⟨by decide, by decide⟩ ⟨by decide, by decide⟩ (Nat.le_of_ble_eq_true rfl) rfl dX11_mix_82 ?_
        rintro _ _ _ g_27 ⟨rfl, rfl, rfl, hs_29, hf_28⟩
        have h_30 := hf_28.at (by omega) h_20
        have h_31 := hf_28.at (by omega) h_21
        have hp_32 := MC.fr hp_23 hf_28 (by omega)
        have hp_33 := SO.fr hp_25 hf_28 (by omega)
        have hp_34 := SO.fr hp_26 hf_28 (by omega)
        show V K 0 0 P A g_27 [(0, .ref (A m)), (1, .int (nI i)), (2, .int (nI ((nAc (gN σ i)).getD (dI cs σ (nAc (gN σ i)).length) 0)))] 85 [.int (nI (wof (some ((nAc (gN σ i)).getD (dI cs σ (nAc (gN σ i)).length) 0)) (some ((nAc (gN σ i)).getD (dI cs σ (nAc (gN σ i)).length) 0)) (nAc (gN σ10 i))).length), .ref (A m)]
        have hW : (wof (some ((nAc (gN σ i)).getD (dI cs σ (nAc (gN σ i)).length) 0)) (some ((nAc (gN σ i)).getD (dI cs σ (nAc (gN σ i)).length) 0)) (nAc (gN σ10 i))) = dpL cs σ (wof none none (nAc (gN σ i))) := by rw [hN_σ10, dp_er (hR.acN hi) hd_σ10, wof_nn]; rfl
        refine g_iconst (pc := 85) C dX11_mix_85 (v := nI 2) rfl ?_
        refine g_callV (pc := 86) C (As := [.int (nI (wof (some ((nAc (gN σ i)).getD (dI cs σ (nAc (gN σ i)).length) 0)) (some ((nAc (gN σ i)).getD (dI cs σ (nAc (gN σ i)).length) 0)) (nAc (gN σ10 i))).length), .int (nI 2)]) (rest := []) (b := m) (c_X11_drawSome A P g_27 m 2 (wof (some ((nAc (gN σ i)).getD (dI cs σ (nAc (gN σ i)).length) 0)) (some ((nAc (gN σ i)).getD (dI cs σ (nAc (gN σ i)).length) 0)) (nAc (gN σ10 i))) ([i]) hs_29 hp_34 (by show _ + _ ≤ 5; first | omega | (simp only [List.length_nil, List.length_cons]; omega)) hS_σ10 hp_32 (by rw [hZ_σ10]; exact h_30) h_31 hR_3) h_30 rfl rfl Y_X11_drawSome u_981 N_X11_drawSome ⟨by decide, by decide⟩ ⟨by decide, by decide⟩ (Nat.le_of_ble_eq_true rfl) rfl dX11_mix_86 ?_
        rintro _ _ _ g_35 ⟨rfl, rfl, rfl, σ39, p40, l41, hlf_σ39, hO_42, ⟨Z_36, hZ_36, hR_37⟩, hp_43, hl_44, hf_38⟩
        have hp_45 := MC.frd hp_32 hf_38 (by omega)
        have hp_46 := SO.frd hp_33 hf_38 (by omega)
        have hK_σ39 : gK σ39 = gK σ := (congrArg (fun z => gK z.1) hlf_σ39).symm.trans (lfp_K.trans hK_σ10)
        have hT_σ39 : gT σ39 = gT σ := (congrArg (fun z => gT z.1) hlf_σ39).symm.trans (lfp_T.trans hT_σ10)
        have hZ_σ39 : gZ σ39 = gZ σ := (congrArg (fun z => gZ z.1) hlf_σ39).symm.trans (lfp_Z.trans hZ_σ10)
        have hN_σ39 : gN σ39 = gN σ10 := (congrArg (fun z => gN z.1) hlf_σ39).symm.trans lfp_N
        have hS_σ39 : SW B cs σ39 := by have hq := lfp_S (n := 2) (p := (wof (some ((nAc (gN σ i)).getD (dI cs σ (nAc (gN σ i)).length) 0)) (some ((nAc (gN σ i)).getD (dI cs σ (nAc (gN σ i)).length) 0)) (nAc (gN σ10 i)))) (l := ([i])) hS_σ10; rw [hlf_σ39] at hq; exact hq
        rw [hZ_σ10] at hO_42
        show V K 0 0 P A g_35 [(0, .ref (A m)), (1, .int (nI i)), (2, .int (nI ((nAc (gN σ i)).getD (dI cs σ (nAc (gN σ i)).length) 0)))] 89 []
        have hl2n : l41.length ≤ 3 := by have h := lfp_len (cs := cs) (n := 2) (σ := σ10) (p := (wof (some ((nAc (gN σ i)).getD (dI cs σ (nAc (gN σ i)).length) 0)) (some ((nAc (gN σ i)).getD (dI cs σ (nAc (gN σ i)).length) 0)) (nAc (gN σ10 i)))) (l := [i]); rw [hlf_σ39] at h; exact h
        have hp8 := RZ.pa8 hR_37 (r := i) (by omega)
        refine g_aload_n (pc := 89) C dX11_mix_89 0 rfl ?_
        refine g_get (pc := 90) C (j := 0) hO_42 rfl rfl (by decide) u_852 dX11_mix_90 ?_
        refine g_bipush (pc := 93) C dX11_mix_93 (v := nI 32) rfl ?_
        refine g_iload_n (pc := 95) C dX11_mix_95 1 rfl ?_
        refine g_iadd (pc := 96) C dX11_mix_96 (z := nI (32 + i)) (nI_add _ _) ?_
        refine g_iald (pc := 97) C hZ_36 (nI_clamp (by omega)) (nI_in0 (n := 10511) (by omega) (by omega)) dX11_mix_97 (x := nI (nPa (gN σ39 i)).length) (RZ.rPn hR_37 (r := i) (by omega) (by omega)) ?_
        refine g_istore_n (pc := 98) C dX11_mix_98 (by decide) (lv' := [(0, .ref (A m)), (1, .int (nI i)), (2, .int (nI ((nAc (gN σ i)).getD (dI cs σ (nAc (gN σ i)).length) 0))), (3, .int (nI (nPa (gN σ39 i)).length))]) [1, 2, 3, 0] rfl ?_
        refine g_iconst (pc := 99) C dX11_mix_99 (v := nI 0) rfl ?_
        refine g_istore (pc := 100) C dX11_mix_100 (by decide) (lv' := [(0, .ref (A m)), (1, .int (nI i)), (2, .int (nI ((nAc (gN σ i)).getD (dI cs σ (nAc (gN σ i)).length) 0))), (3, .int (nI (nPa (gN σ39 i)).length)), (4, .int (nI 0))]) [1, 2, 3, 4, 0] rfl ?_
        have lp_102 : ∀ (fuel : Nat) (gm102 : pM) (hm102 : Fr g_35 gm102 (m + 4) (m + 5)) (j : Nat) (hj : j ≤ (nPa (gN σ39 i)).length) (hs102 : SO gm102 (m + 4) 16 ((nPa (gN σ39 i)).take j)), (nPa (gN σ39 i)).length - j < fuel → V K 0 0 P A gm102 [(0, .ref (A m)), (1, .int (nI i)), (2, .int (nI ((nAc (gN σ i)).getD (dI cs σ (nAc (gN σ i)).length) 0))), (3, .int (nI (nPa (gN σ39 i)).length)), (4, .int (nI j))] 102 [] := by
          intro fuel
          induction fuel with
          | zero => intro gm102 hm102 j hj hs102 hμ; exact absurd hμ (Nat.not_lt_zero _)
          | succ fuel ih_102 =>
            intro gm102 hm102 j hj hs102 hμ
            have h_47 := hm102.at (by omega) hO_42
            have h_48 := hm102.at (by omega) hZ_36
            have hp_49 := MC.fr hp_45 hm102 (by omega)
            have hp_50 := SO.fr hp_46 hm102 (by omega)
            have hp_51 := SO.fr hl_44 hm102 (by omega)
            obtain ⟨hd0, rd4, hd1, hd2⟩ := hs102
            refine g_iload (pc := 102) C dX11_mix_102 4 rfl ?_
            refine g_iload_n (pc := 104) C dX11_mix_104 3 rfl ?_
            refine g_icmp_ge (pc := 105) C dX11_mix_105 (tgt := 137) (by decide) (fun c_105 => ?_) (fun c_105 => ?_)
            ·
              have c_105 : (nPa (gN σ39 i)).length ≤ j := (nI_leI (by omega) (by omega)).mp c_105
              have hs102b : SO gm102 (m + 4) 16 (nPa (gN σ39 i)) := SO.take ⟨hd0, rd4, hd1, hd2⟩ (show (nPa (gN σ39 i)).length ≤ j by omega)
              refine g_aload_n (pc := 137) C dX11_mix_137 0 rfl ?_
              refine g_iload_n (pc := 138) C dX11_mix_138 3 rfl ?_
              refine g_iconst (pc := 139) C dX11_mix_139 (v := nI 2) rfl ?_
              refine g_callV (pc := 140) C (As := [.int (nI (nPa (gN σ39 i)).length), .int (nI 2)]) (rest := []) (b := m) (c_X11_drawSome A P gm102 m 2 (nPa (gN σ39 i)) l41 hs102b hp_51 (by show _ + _ ≤ 5; first | omega | (simp only [List.length_nil, List.length_cons]; omega)) hS_σ39 hp_49 (by rw [hZ_σ39]; exact h_47) h_48 hR_37) h_47 rfl rfl Y_X11_drawSome u_981 N_X11_drawSome ⟨by decide, by decide⟩ ⟨by decide, by decide⟩ (Nat.le_of_ble_eq_true rfl) rfl dX11_mix_140 ?_
              rintro _ _ _ g_52 ⟨rfl, rfl, rfl, σ56, p57, l58, hlf_σ56, hO_59, ⟨Z_53, hZ_53, hR_54⟩, hp_60, hl_61, hf_55⟩
              have hp_62 := MC.frd hp_49 hf_55 (by omega)
              have hp_63 := SO.frd hp_50 hf_55 (by omega)
              have hK_σ56 : gK σ56 = gK σ := (congrArg (fun z => gK z.1) hlf_σ56).symm.trans (lfp_K.trans hK_σ39)
              have hT_σ56 : gT σ56 = gT σ := (congrArg (fun z => gT z.1) hlf_σ56).symm.trans (lfp_T.trans hT_σ39)
              have hZ_σ56 : gZ σ56 = gZ σ := (congrArg (fun z => gZ z.1) hlf_σ56).symm.trans (lfp_Z.trans hZ_σ39)
              have hN_σ56 : gN σ56 = gN σ39 := (congrArg (fun z => gN z.1) hlf_σ56).symm.trans lfp_N
              have hS_σ56 : SW B cs σ56 := by have hq := lfp_S (n := 2) (p := (nPa (gN σ39 i))) (l := l41) hS_σ39; rw [hlf_σ56] at hq; exact hq
              rw [hZ_σ39] at hO_59
              show V K 0 0 P A g_52 [(0, .ref (A m)), (1, .int (nI i)), (2, .int (nI ((nAc (gN σ i)).getD (dI cs σ (nAc (gN σ i)).length) 0))), (3, .int (nI (nPa (gN σ39 i)).length)), (4, .int (nI j))] 143 []
              refine g_aload_n (pc := 143) C dX11_mix_143 0 rfl ?_
              refine g_iload_n (pc := 144) C dX11_mix_144 1 rfl ?_
              refine g_iload_n (pc := 145) C dX11_mix_145 2 rfl ?_
              refine g_bipush (pc := 146) C dX11_mix_146 (v := nI 7) rfl ?_
              refine g_iload_n (pc := 148) C dX11_mix_148 1 rfl ?_
              refine g_aload_n (pc := 149) C dX11_mix_149 0 rfl ?_
              refine g_get (pc := 150) C (j := 3) hO_59 rfl rfl (by decide) u_855 dX11_mix_150 ?_
              refine g_aload_n (pc := 153) C dX11_mix_153 0 rfl ?_
              refine g_get (pc := 154) C (j := 9) hO_59 rfl rfl (by decide) u_861 dX11_mix_154 ?_
              refine g_callV (pc := 157) C (As := [.int (nI i), .int (nI ((nAc (gN σ i)).getD (dI cs σ (nAc (gN σ i)).length) 0)), .int (nI 7), .int (nI i), .int (nI (gZ σ).2.2.1), .int (nI l58.length)]) (rest := []) (b := m) (c_X11_sendList A P g_52 m i ((nAc (gN σ i)).getD (dI cs σ (nAc (gN σ i)).length) 0) 7 i (gZ σ).2.2.1 l58 hl_61 (by omega) (by rw [hZ_σ56]; exact hO_59) hZ_53 hR_54) hO_59 rfl rfl Y_X11_sendList u_937 N_X11_sendList ⟨by decide, by decide⟩ ⟨by decide, by decide⟩ (Nat.le_of_ble_eq_true rfl) rfl dX11_mix_157 ?_
              rintro _ _ _ g_64 ⟨rfl, rfl, rfl, ⟨Z_65, hZ_65, hR_66⟩, hf_67⟩
              have h_68 := hf_67.at (by omega) hO_59
              have hp_69 := MC.fr hp_62 hf_67 (by omega)
              have hp_70 := SO.fr hp_63 hf_67 (by omega)
              have hp_71 := SO.fr hp_60 hf_67 (by omega)
              have hp_72 := SO.fr hl_61 hf_67 (by omega)
              obtain ⟨σ73, hσ73⟩ : ∃ sM : Sg, sM = snd σ56 i ((nAc (gN σ i)).getD (dI cs σ (nAc (gN σ i)).length) 0) 7 i (gZ σ).2.2.1 l58 := ⟨_, rfl⟩
              rw [← hσ73] at hR_66
              have hK_σ73 : gK σ73 = gK σ := (congrArg gK hσ73).trans (snd_K.trans hK_σ56)
              have hT_σ73 : gT σ73 = gT σ := (congrArg gT hσ73).trans (snd_T.trans hT_σ56)
              have hZ_σ73 : gZ σ73 = gZ σ := (congrArg gZ hσ73).trans (snd_Z.trans hZ_σ56)
              show V K 0 0 P A g_64 [(0, .ref (A m)), (1, .int (nI i)), (2, .int (nI ((nAc (gN σ i)).getD (dI cs σ (nAc (gN σ i)).length) 0))), (3, .int (nI (nPa (gN σ39 i)).length)), (4, .int (nI j))] 160 []
              refine g_iload_n (pc := 160) C dX11_mix_160 2 rfl ?_
              have hb : bgm cs σ i = (some ((nAc (gN σ i)).getD (dI cs σ (nAc (gN σ i)).length) 0), σ73) := bgm_s (σ2 := σ39) (p2 := p40) (l2 := l41) (σ3 := σ56) (p3 := p57) (l3 := l58) ((congrArg (dpV cs σ) wof_nn).trans (dpV_some (by omega))) (hσ10.trans (congrArg (fun l => dS cs σ (List.length l)) wof_nn.symm)) hW hlf_σ39 ((congrArg (fun l => lfp cs 2 σ39 l l41) wof_nn).trans hlf_σ56) hσ73
              exact g_iret (pc := 161) C R ⟨rfl, rfl, Or.inr ⟨i, hi, rfl, c_18, by rw [hb], by rw [hb]; exact ⟨⟨_, _, _, _, _, (by rw [hZ_σ73]; exact h_68), hp_72, hp_71, hp_70⟩, ⟨_, hZ_65, hR_66⟩, hp_69⟩, fun k hk => by rw [hf_67 k (by omega), hf_55 k (by omega) (by omega) (by omega) (by omega), hm102 k (by omega), hf_38 k (by omega) (by omega) (by omega) (by omega), hf_28 k (by omega), hg_19, va_up_ne _ _ (by omega), hg_11, va_up_ne _ _ (by omega), hf_4 k (by omega)]⟩⟩ (by decide) (by decide) dX11_mix_161
            ·
              have c_105 : ¬ (nPa (gN σ39 i)).length ≤ j := fun h => c_105 ((nI_leI (a := (nPa (gN σ39 i)).length) (b := j) (by omega) (by omega)).mpr h)
              refine g_aload_n (pc := 108) C dX11_mix_108 0 rfl ?_
              refine g_get (pc := 109) C (j := 10) h_47 rfl rfl (by decide) u_862 dX11_mix_109 ?_
              refine g_iload (pc := 112) C dX11_mix_112 4 rfl ?_
              refine g_aload_n (pc := 114) C dX11_mix_114 0 rfl ?_
              refine g_get (pc := 115) C (j := 0) h_47 rfl rfl (by decide) u_852 dX11_mix_115 ?_
              refine g_sipush (pc := 118) C dX11_mix_118 (v := nI 256) rfl ?_
              refine g_bipush (pc := 121) C dX11_mix_121 (v := nI 8) rfl ?_
              refine g_iload_n (pc := 123) C dX11_mix_123 1 rfl ?_
              refine g_imul (pc := 124) C dX11_mix_124 (z := nI (8 * i)) (pk_mul _ _) ?_
              refine g_iadd (pc := 125) C dX11_mix_125 (z := nI (256 + 8 * i)) (nI_add _ _) ?_
              refine g_iload (pc := 126) C dX11_mix_126 4 rfl ?_
              refine g_iadd (pc := 128) C dX11_mix_128 (z := nI (256 + 8 * i + j)) (nI_add _ _) ?_
              refine g_iald (pc := 129) C h_48 (nI_clamp (by omega)) (nI_in0 (n := 10511) (by omega) (by omega)) dX11_mix_129 (x := nI ((nPa (gN σ39 i)).getD j 0)) (RZ.rPa hR_37 (r := i) (k := j) (by omega) (by omega) (by omega)) ?_
              refine g_iast (pc := 130) C hd1 (nI_clamp (by omega)) (nI_in0 (n := 16) (by omega) (by omega)) dX11_mix_130 ?_
              obtain ⟨g_74, hg_74⟩ : ∃ yM : pM, yM = va_up gm102 (m + 4) (ai 0 16 (upd rd4 j (nI ((nPa (gN σ39 i)).getD j 0)))) := ⟨_, rfl⟩
              show V K 0 0 P A (va_up gm102 (m + 4) (ai 0 16 (upd rd4 j (nI ((nPa (gN σ39 i)).getD j 0))))) [(0, .ref (A m)), (1, .int (nI i)), (2, .int (nI ((nAc (gN σ i)).getD (dI cs σ (nAc (gN σ i)).length) 0))), (3, .int (nI (nPa (gN σ39 i)).length)), (4, .int (nI j))] 131 []
              rw [← hg_74]
              have h_75 : g_74 m = ob 11 [.ref (A (m + 1)), .int (nI (gZ σ).1), .int (nI (gZ σ).2.1), .int (nI (gZ σ).2.2.1), .int (nI (gZ σ).2.2.2.1), .int (nI (gZ σ).2.2.2.2), .ref (A (m + 2)), .int (nI cs.length), .ref (A (m + 3)), .int (nI l41.length), .ref (A (m + 4)), .ref (A (m + 5)), .int (nI gm), .ref (A (m + 6)), .ref (A (m + 7)), .ref (A (m + 8))] := by rw [hg_74, va_up_ne _ _ (show m ≠ m + 4 from by omega)]; exact h_47
              have h_76 : g_74 (m + 1) = ai 0 10511 Z_36 := by rw [hg_74, va_up_ne _ _ (show m + 1 ≠ m + 4 from by omega)]; exact h_48
              have h_77 : g_74 (m + 4) = ai 0 16 (upd rd4 j (nI ((nPa (gN σ39 i)).getD j 0))) := by rw [hg_74]; exact va_up_self _ _ _
              have hf_78 : Fr gm102 g_74 (m + 4) (m + 4 + 1) := by rw [hg_74]; exact Fr.up (by omega) (by omega)
              have hp_79 := MC.fr hp_49 hf_78 (by omega)
              have hp_80 := SO.fr hp_50 hf_78 (by omega)
              have hp_81 := SO.fr hp_51 hf_78 (by omega)
              refine g_iinc (pc := 131) C dX11_mix_131 (by decide) 4 rfl (v := nI (j + 1)) (nI_i1 _) (lv' := [(0, .ref (A m)), (1, .int (nI i)), (2, .int (nI ((nAc (gN σ i)).getD (dI cs σ (nAc (gN σ i)).length) 0))), (3, .int (nI (nPa (gN σ39 i)).length)), (4, .int (nI (j + 1)))]) [1, 2, 3, 4, 0] rfl ?_
              refine g_goto (pc := 134) C dX11_mix_134 (tgt := 102) (by decide) ?_
              exact ih_102 g_74 (hm102.tr (fun k hk => by rw [hg_74, va_up_ne _ _ (by omega)])) (j + 1) (by omega) (SO.tks hd2 (by omega) (by omega) rfl h_77) (by omega)
        exact lp_102 (_ + 1) g_35 Fr.rf 0 (Nat.zero_le _) hp_43.nil (Nat.lt_succ_self _)
      ·
        have c_33 : (nAc (gN σ i)).length = 0 := (nI_eq (by omega) (by omega)).mp c_33
        have hb : bgm cs σ i = (none, σ) := by rw [bgm_n (show dpV cs σ (wof none none (nAc (gN σ i))) = none from if_pos (by rw [wof_nn]; exact c_33)), wof_nn, c_33, dS_0]
        refine g_bipush (pc := 36) C dX11_mix_36 (v := (-5)) rfl ?_
        exact g_iret (pc := 38) C R ⟨rfl, rfl, Or.inr ⟨i, hi, rfl, c_18, by rw [hb], by rw [hb]; exact hM, FrA.rf⟩⟩ (by decide) (by decide) dX11_mix_38
    ·
      have c_18 : (lvd σ i) = false := b32_yes c_18
      refine g_bipush (pc := 21) C dX11_mix_21 (v := (-3)) rfl ?_
      exact g_iret (pc := 23) C R ⟨rfl, rfl, Or.inl ⟨by rw [rfA_n hK hi, c_18]; decide, by rw [rfA_n hK hi, c_18]; rfl, rfl⟩⟩ (by decide) (by decide) dX11_mix_23
  ·
    have c_5 : (isN σ x) = false := b32_yes c_5
    refine g_iconst (pc := 8) C dX11_mix_8 (v := (-1)) rfl ?_
    exact g_iret (pc := 9) C R ⟨rfl, rfl, Or.inl ⟨by rw [rfA_no c_5]; decide, by rw [rfA_no c_5], rfl⟩⟩ (by decide) (by decide) dX11_mix_9
