-- PART 31: the reference: what is told, what is asked
theorem nin {x a b : Int32} (h : ¬ (a ≤ x ∧ x ≤ b)) : x < a ∨ b < x := by
  by_cases h1 : x < a
  · exact Or.inl h1
  · refine Or.inr ?_
    by_cases h2 : b < x
    · exact h2
    · exact absurd ⟨i32_le h1, i32_le h2⟩ h
theorem nin2 {x a b : Int32} (h : ¬ (a ≤ x ∧ x ≤ b)) : x < a ∨ ¬ x ≤ b := by
  rcases nin h with h | h
  · exact Or.inl h
  · exact Or.inr (fun z => i32_nlt z h)
theorem SO.psh {g' : pM} {c cap v : Nat} {l : List Nat} {r : Nat → Int32} (hr : ∀ k, k < l.length → r k = nI (l.getD k 0)) (hc : l.length < cap) (hg : g' c = ai 0 cap (upd r l.length (nI v))) : SO g' c cap (l ++ [v]) := SO.push hr hc hg
theorem hwA_1 {σ : Sg} {i j : Nat} (h : j ∈ nAc (gN σ i)) : nI 1 + b32 ((nLz (gN σ i)).testBit j) = nI (hwA σ i j) := by
  simp only [hwA, if_pos h]
  cases (nLz (gN σ i)).testBit j <;> decide
theorem hwA_3 {σ : Sg} {i j : Nat} (h : j ∉ nAc (gN σ i)) (h2 : j ∈ nPa (gN σ i)) : hwA σ i j = 3 := by simp only [hwA, if_neg h, if_pos h2]
theorem hwA_0 {σ : Sg} {i j : Nat} (h : j ∉ nAc (gN σ i)) (h2 : j ∉ nPa (gN σ i)) : hwA σ i j = 0 := by simp only [hwA, if_neg h, if_neg h2]
theorem lsA_m1 {l : List Nat} {z : Int32} (h : z = -1) : lsA l z = nI l.length := by simp only [lsA, if_pos h]
theorem lsA_in {l : List Nat} {k : Nat} (hk : k < l.length) (hl : l.length < 1000) : lsA l (nI k) = nI (l.getD k 0) := by
  have h : ¬ nI k = -1 := fun e => by
    have := nI_pos (n := k) (by omega)
    rw [e] at this
    exact this (by decide)
  simp only [lsA, if_neg h]
  exact map_nlAt hk hl
theorem lsA_out {l : List Nat} {z : Int32} (hl : l.length < 1000) (h : ¬ z = -1) (h2 : decide (¬ z < 0 ∧ z < nI l.length) = false) : lsA l z = -6 := by
  simp only [lsA, if_neg h]
  by_cases h0 : z < 0
  · exact nlAt_neg h0
  · refine nlAt_out (by rw [List.length_map]; omega) ?_
    rw [List.length_map]
    exact i32_le (fun z2 => of_decide_eq_false h2 ⟨h0, z2⟩)
theorem ct_b {p : Nat → Bool} {k : Nat} : nI (ct p k) + b32 (p k) = nI (ct p (k + 1)) := by
  simp only [ct]
  cases p k
  · exact nI_add _ 0
  · exact nI_add _ 1
theorem ct_y {p : Nat → Bool} {k : Nat} (h : p k = true) : ct p (k + 1) = ct p k + 1 := by simp only [ct, h, if_true]
theorem ct_n {p : Nat → Bool} {k : Nat} (h : p k = false) : ct p (k + 1) = ct p k := by simp [ct, h]
abbrev rm_X11_coin : Room := { frames := 0, cells := 0, slots := 0, locals := 0 }
theorem Y_X11_coin : pY yX11_coin cX11_coin 2 (Option.some Jvm.ClassFile.FieldType.int) := ⟨u_918, u_919, u_13, u_920⟩
theorem N_X11_coin : yX11_coin.cls ≠ "java/lang/invoke/MethodHandle" ∧ yX11_coin.cls ≠ "java/lang/invoke/VarHandle" ∧ (parseMethodDescriptor yX11_coin.desc).map (fun d => d.parameters.length) = some 1 := by decide +kernel
set_option maxRecDepth 20000 in
set_option maxHeartbeats 4000000 in
theorem c_X11_coin (A : Nat → Nat) (P : List Nat) (g : pM) (m : Nat) {cs : List Nat} {σ : Sg} {B : Nat} (x : Int32) (hS : SW B cs σ) (hM : MM A g m cs σ) : PM yX11_coin cX11_coin 2 (Option.some Jvm.ClassFile.FieldType.int) rm_X11_coin [.ref (A m), .int x] P A g (fun v g' => (x < 0 ∧ v = some (.int (-2)) ∧ g = g') ∨ (∃ c, c < 2 ^ 31 ∧ x = nI c ∧ ((¬ cs.length < 64 ∧ v = some (.int (-4)) ∧ MM A g' m cs σ ∧ g = g') ∨ (cs.length < 64 ∧ v = some (.int (nI (cs.length + 1))) ∧ MM A g' m (cs ++ [c]) σ ∧ Fr g g' m (m + 6))))) := by
  obtain ⟨⟨lm, gm, l3, l4, l5, hO, hl3, hl4, hl5⟩, ⟨Z, hZ, hR⟩, hC⟩ := id hM
  have hK := hR.k16
  have hT := hR.t24
  have hL := hR.le
  obtain ⟨⟨hc0, rc, hc1, hc2⟩, hc3⟩ := id hC
  refine px_intro (by decide +kernel) (Nat.le_of_ble_eq_true rfl) (fun K sz C R => ?_)
  show V K 0 0 P A g [(0, .ref (A m)), (1, .int x)] 0 []
  refine g_iload_n (pc := 0) C dX11_coin_0 1 rfl ?_
  refine g_if_ge (pc := 1) C dX11_coin_1 (tgt := 7) (by decide) (fun c_1 => ?_) (fun c_1 => ?_)
  ·
    obtain ⟨c, hc, rfl⟩ := ps_ex (i32_nlt c_1)
    refine g_aload_n (pc := 7) C dX11_coin_7 0 rfl ?_
    refine g_get (pc := 8) C (j := 7) hO rfl rfl (by decide) u_859 dX11_coin_8 ?_
    refine g_bipush (pc := 11) C dX11_coin_11 (v := nI 64) rfl ?_
    refine g_icmp_ne (pc := 13) C dX11_coin_13 (tgt := 19) (by decide) (fun c_13 => ?_) (fun c_13 => ?_)
    ·
      have c_13 : ¬ cs.length = 64 := fun h => c_13 ((nI_eq (a := cs.length) (b := 64) (by omega) (by omega)).mpr h)
      refine g_aload_n (pc := 19) C dX11_coin_19 0 rfl ?_
      refine g_get (pc := 20) C (j := 6) hO rfl rfl (by decide) u_858 dX11_coin_20 ?_
      refine g_aload_n (pc := 23) C dX11_coin_23 0 rfl ?_
      refine g_get (pc := 24) C (j := 7) hO rfl rfl (by decide) u_859 dX11_coin_24 ?_
      refine g_iload_n (pc := 27) C dX11_coin_27 1 rfl ?_
      refine g_iast (pc := 28) C hc1 (nI_clamp (by omega)) (nI_in0 (n := 64) (by omega) (by omega)) dX11_coin_28 ?_
      obtain ⟨g_1, hg_1⟩ : ∃ yM : pM, yM = va_up g (m + 2) (ai 0 64 (upd rc cs.length (nI c))) := ⟨_, rfl⟩
      show V K 0 0 P A (va_up g (m + 2) (ai 0 64 (upd rc cs.length (nI c)))) [(0, .ref (A m)), (1, .int (nI c))] 29 []
      rw [← hg_1]
      have h_2 : g_1 m = ob 11 [.ref (A (m + 1)), .int (nI (gZ σ).1), .int (nI (gZ σ).2.1), .int (nI (gZ σ).2.2.1), .int (nI (gZ σ).2.2.2.1), .int (nI (gZ σ).2.2.2.2), .ref (A (m + 2)), .int (nI cs.length), .ref (A (m + 3)), .int (nI lm), .ref (A (m + 4)), .ref (A (m + 5)), .int (nI gm), .ref (A (m + 6)), .ref (A (m + 7)), .ref (A (m + 8))] := by rw [hg_1, va_up_ne _ _ (show m ≠ m + 2 from by omega)]; exact hO
      have h_3 : g_1 (m + 1) = ai 0 10511 Z := by rw [hg_1, va_up_ne _ _ (show m + 1 ≠ m + 2 from by omega)]; exact hZ
      have h_4 : g_1 (m + 2) = ai 0 64 (upd rc cs.length (nI c)) := by rw [hg_1]; exact va_up_self _ _ _
      have hf_5 : Fr g g_1 (m + 2) (m + 2 + 1) := by rw [hg_1]; exact Fr.up (by omega) (by omega)
      have hp_6 := SO.fr hl3 hf_5 (by omega)
      have hp_7 := SO.fr hl4 hf_5 (by omega)
      have hp_8 := SO.fr hl5 hf_5 (by omega)
      refine g_aload_n (pc := 29) C dX11_coin_29 0 rfl ?_
      refine g_dup (pc := 30) C dX11_coin_30 rfl ?_
      refine g_get (pc := 31) C (j := 7) h_2 rfl rfl (by decide) u_859 dX11_coin_31 ?_
      refine g_iconst (pc := 34) C dX11_coin_34 (v := nI 1) rfl ?_
      refine g_iadd (pc := 35) C dX11_coin_35 (z := nI (cs.length + 1)) (nI_add _ _) ?_
      refine g_put (pc := 36) C (j := 7) h_2 rfl (by decide) (Nat.le_of_ble_eq_true rfl) u_859 rfl pfd_I rfl rfl dX11_coin_36 ?_
      obtain ⟨g_9, hg_9⟩ : ∃ yM : pM, yM = va_up g_1 m (ob 11 [.ref (A (m + 1)), .int (nI (gZ σ).1), .int (nI (gZ σ).2.1), .int (nI (gZ σ).2.2.1), .int (nI (gZ σ).2.2.2.1), .int (nI (gZ σ).2.2.2.2), .ref (A (m + 2)), .int (nI (cs.length + 1)), .ref (A (m + 3)), .int (nI lm), .ref (A (m + 4)), .ref (A (m + 5)), .int (nI gm), .ref (A (m + 6)), .ref (A (m + 7)), .ref (A (m + 8))]) := ⟨_, rfl⟩
      show V K 0 0 P A (va_up g_1 m (ob 11 [.ref (A (m + 1)), .int (nI (gZ σ).1), .int (nI (gZ σ).2.1), .int (nI (gZ σ).2.2.1), .int (nI (gZ σ).2.2.2.1), .int (nI (gZ σ).2.2.2.2), .ref (A (m + 2)), .int (nI (cs.length + 1)), .ref (A (m + 3)), .int (nI lm), .ref (A (m + 4)), .ref (A (m + 5)), .int (nI gm), .ref (A (m + 6)), .ref (A (m + 7)), .ref (A (m + 8))])) [(0, .ref (A m)), (1, .int (nI c))] 39 []
      rw [← hg_9]
      have h_10 : g_9 m = ob 11 [.ref (A (m + 1)), .int (nI (gZ σ).1), .int (nI (gZ σ).2.1), .int (nI (gZ σ).2.2.1), .int (nI (gZ σ).2.2.2.1), .int (nI (gZ σ).2.2.2.2), .ref (A (m + 2)), .int (nI (cs.length + 1)), .ref (A (m + 3)), .int (nI lm), .ref (A (m + 4)), .ref (A (m + 5)), .int (nI gm), .ref (A (m + 6)), .ref (A (m + 7)), .ref (A (m + 8))] := by rw [hg_9]; exact va_up_self _ _ _
      have h_11 : g_9 (m + 1) = ai 0 10511 Z := by rw [hg_9, va_up_ne _ _ (show m + 1 ≠ m from by omega)]; exact h_3
      have h_12 : g_9 (m + 2) = ai 0 64 (upd rc cs.length (nI c)) := by rw [hg_9, va_up_ne _ _ (show m + 2 ≠ m from by omega)]; exact h_4
      have hf_13 : Fr g_1 g_9 m (m + 1) := by rw [hg_9]; exact Fr.up (by omega) (by omega)
      have hp_14 := SO.fr hp_6 hf_13 (by omega)
      have hp_15 := SO.fr hp_7 hf_13 (by omega)
      have hp_16 := SO.fr hp_8 hf_13 (by omega)
      refine g_aload_n (pc := 39) C dX11_coin_39 0 rfl ?_
      refine g_get (pc := 40) C (j := 7) h_10 rfl rfl (by decide) u_859 dX11_coin_40 ?_
      exact g_iret (pc := 43) C R ⟨rfl, rfl, Or.inr ⟨c, hc, rfl, Or.inr ⟨by omega, rfl, ⟨⟨_, _, _, _, _, h_10.trans (by rw [List.length_append]; rfl), hp_14, hp_15, hp_16⟩, ⟨_, h_11, hR⟩, SO.psh hc2 (by omega) h_12, fun x hx => by rcases List.mem_append.mp hx with h | h; exact hc3 x h; rw [List.mem_singleton.mp h]; exact hc⟩, fun k hk => by rw [hg_9, va_up_ne _ _ (by omega), hg_1, va_up_ne _ _ (by omega)]⟩⟩⟩ (by decide) (by decide) dX11_coin_43
    ·
      have c_13 : cs.length = 64 := (nI_eq (by omega) (by omega)).mp c_13
      refine g_bipush (pc := 16) C dX11_coin_16 (v := (-4)) rfl ?_
      exact g_iret (pc := 18) C R ⟨rfl, rfl, Or.inr ⟨c, hc, rfl, Or.inl ⟨by omega, rfl, hM, rfl⟩⟩⟩ (by decide) (by decide) dX11_coin_18
  ·
    refine g_bipush (pc := 4) C dX11_coin_4 (v := (-2)) rfl ?_
    exact g_iret (pc := 6) C R ⟨rfl, rfl, Or.inl ⟨i32_lt c_1, rfl, rfl⟩⟩ (by decide) (by decide) dX11_coin_6
abbrev rm_X11_sizes : Room := { frames := 1, cells := 0, slots := 0, locals := 25 }
theorem Y_X11_sizes : pY yX11_sizes cX11_sizes 3 (Option.some Jvm.ClassFile.FieldType.int) := ⟨u_902, u_903, u_13, u_904⟩
theorem N_X11_sizes : yX11_sizes.cls ≠ "java/lang/invoke/MethodHandle" ∧ yX11_sizes.cls ≠ "java/lang/invoke/VarHandle" ∧ (parseMethodDescriptor yX11_sizes.desc).map (fun d => d.parameters.length) = some 2 := by decide +kernel
set_option maxRecDepth 20000 in
set_option maxHeartbeats 4000000 in
theorem c_X11_sizes (A : Nat → Nat) (P : List Nat) (g : pM) (m : Nat) {cs : List Nat} {σ : Sg} {B : Nat} (x y : Int32) (hS : SW B cs σ) (hM : MM A g m cs σ) : PM yX11_sizes cX11_sizes 3 (Option.some Jvm.ClassFile.FieldType.int) rm_X11_sizes [.ref (A m), .int x, .int y] P A g (fun v g' => ((x < nI 2 ∨ nI 5 < x ∨ y < nI 2 ∨ ¬ y ≤ nI 8) ∧ v = some (.int (-2)) ∧ g = g') ∨ (∃ n k, 2 ≤ n ∧ n ≤ 5 ∧ 2 ≤ k ∧ k ≤ 8 ∧ x = nI n ∧ y = nI k ∧ ((¬ gK σ ≤ 0 ∧ v = some (.int (-3)) ∧ g = g') ∨ (gK σ ≤ 0 ∧ v = some (.int (nI 1)) ∧ MM A g' m cs (sZ σ (n, k, (gZ σ).2.2)) ∧ FrA g g' m)))) := by
  obtain ⟨⟨lm, gm, l3, l4, l5, hO, hl3, hl4, hl5⟩, ⟨Z, hZ, hR⟩, hC⟩ := id hM
  have hK := hR.k16
  have hT := hR.t24
  have hL := hR.le
  refine px_intro (by decide +kernel) (Nat.le_of_ble_eq_true rfl) (fun K sz C R => ?_)
  show V K 0 0 P A g [(0, .ref (A m)), (1, .int x), (2, .int y)] 0 []
  refine g_iload_n (pc := 0) C dX11_sizes_0 1 rfl ?_
  refine g_i2l (pc := 1) C dX11_sizes_1 ?_
  refine g_ldc2 (pc := 2) C dX11_sizes_2 u_905 ?_
  refine g_ldc2 (pc := 5) C dX11_sizes_5 u_906 ?_
  refine g_callS (pc := 8) C (As := [.long (x).toInt64, .long 2, .long 5]) (rest := []) (c_X11_in A P g (x).toInt64 2 5) rfl u_908 u_13 u_909 u_907 N_X11_in ⟨by decide, by decide⟩ ⟨by decide, by decide⟩ (Nat.le_of_ble_eq_true rfl) rfl dX11_sizes_8 ?_
  rintro _ _ _ _ ⟨rfl, rfl, rfl, rfl⟩
  rw [in_c (lo := nI 2) (hi := nI 5) (by decide) (by decide)]
  show V K 0 0 P A g [(0, .ref (A m)), (1, .int x), (2, .int y)] 11 [.int (b32 (decide (nI 2 ≤ x ∧ x ≤ nI 5)))]
  refine g_if_eq (pc := 11) C dX11_sizes_11 (tgt := 28) (by decide) (fun c_11 => ?_) (fun c_11 => ?_)
  ·
    have c_11 : (decide (nI 2 ≤ x ∧ x ≤ nI 5)) = false := b32_yes c_11
    have c_11 : ¬ (nI 2 ≤ x ∧ x ≤ nI 5) := of_decide_eq_false c_11
    refine g_bipush (pc := 28) C dX11_sizes_28 (v := (-2)) rfl ?_
    exact g_iret (pc := 30) C R ⟨rfl, rfl, Or.inl ⟨(nin c_11).elim Or.inl (fun z => Or.inr (Or.inl z)), rfl, rfl⟩⟩ (by decide) (by decide) dX11_sizes_30
  ·
    have c_11 : (decide (nI 2 ≤ x ∧ x ≤ nI 5)) = true := b32_no c_11
    have c_11 : (nI 2 ≤ x ∧ x ≤ nI 5) := of_decide_eq_true c_11
    refine g_iload_n (pc := 14) C dX11_sizes_14 2 rfl ?_
    refine g_i2l (pc := 15) C dX11_sizes_15 ?_
    refine g_ldc2 (pc := 16) C dX11_sizes_16 u_905 ?_
    refine g_ldc2 (pc := 19) C dX11_sizes_19 u_910 ?_
    refine g_callS (pc := 22) C (As := [.long (y).toInt64, .long 2, .long 8]) (rest := []) (c_X11_in A P g (y).toInt64 2 8) rfl u_908 u_13 u_909 u_907 N_X11_in ⟨by decide, by decide⟩ ⟨by decide, by decide⟩ (Nat.le_of_ble_eq_true rfl) rfl dX11_sizes_22 ?_
    rintro _ _ _ _ ⟨rfl, rfl, rfl, rfl⟩
    rw [in_c (lo := nI 2) (hi := nI 8) (by decide) (by decide)]
    show V K 0 0 P A g [(0, .ref (A m)), (1, .int x), (2, .int y)] 25 [.int (b32 (decide (nI 2 ≤ y ∧ y ≤ nI 8)))]
    refine g_if_ne (pc := 25) C dX11_sizes_25 (tgt := 31) (by decide) (fun c_25 => ?_) (fun c_25 => ?_)
    ·
      have c_25 : (decide (nI 2 ≤ y ∧ y ≤ nI 8)) = true := b32_no c_25
      have c_25 : (nI 2 ≤ y ∧ y ≤ nI 8) := of_decide_eq_true c_25
      obtain ⟨n, hn1, hn2, rfl⟩ := rg_ex (lo := 2) (hi := 5) (by omega) (by omega) (i32_nlt c_11.1) (i32_nlt c_11.2)
      obtain ⟨k, hk1, hk2, rfl⟩ := rg_ex (lo := 2) (hi := 8) (by omega) (by omega) (i32_nlt c_25.1) (i32_nlt c_25.2)
      refine g_aload_n (pc := 31) C dX11_sizes_31 0 rfl ?_
      refine g_get (pc := 32) C (j := 0) hO rfl rfl (by decide) u_852 dX11_sizes_32 ?_
      refine g_sipush (pc := 35) C dX11_sizes_35 (v := nI 10505) rfl ?_
      refine g_iald (pc := 38) C hZ (nI_clamp (by omega)) (nI_in0 (n := 10511) (by omega) (by omega)) dX11_sizes_38 (x := nI (gK σ)) (RZ.rK hR (by omega)) ?_
      refine g_if_le (pc := 39) C dX11_sizes_39 (tgt := 45) (by decide) (fun c_39 => ?_) (fun c_39 => ?_)
      ·
        have c_39 : (gK σ) ≤ 0 := (nI_leI (by omega) (by omega)).mp c_39
        refine g_aload_n (pc := 45) C dX11_sizes_45 0 rfl ?_
        refine g_iload_n (pc := 46) C dX11_sizes_46 1 rfl ?_
        refine g_put (pc := 47) C (j := 1) hO rfl (by decide) (Nat.le_of_ble_eq_true rfl) u_853 rfl pfd_I rfl rfl dX11_sizes_47 ?_
        obtain ⟨g_1, hg_1⟩ : ∃ yM : pM, yM = va_up g m (ob 11 [.ref (A (m + 1)), .int (nI n), .int (nI (gZ σ).2.1), .int (nI (gZ σ).2.2.1), .int (nI (gZ σ).2.2.2.1), .int (nI (gZ σ).2.2.2.2), .ref (A (m + 2)), .int (nI cs.length), .ref (A (m + 3)), .int (nI lm), .ref (A (m + 4)), .ref (A (m + 5)), .int (nI gm), .ref (A (m + 6)), .ref (A (m + 7)), .ref (A (m + 8))]) := ⟨_, rfl⟩
        show V K 0 0 P A (va_up g m (ob 11 [.ref (A (m + 1)), .int (nI n), .int (nI (gZ σ).2.1), .int (nI (gZ σ).2.2.1), .int (nI (gZ σ).2.2.2.1), .int (nI (gZ σ).2.2.2.2), .ref (A (m + 2)), .int (nI cs.length), .ref (A (m + 3)), .int (nI lm), .ref (A (m + 4)), .ref (A (m + 5)), .int (nI gm), .ref (A (m + 6)), .ref (A (m + 7)), .ref (A (m + 8))])) [(0, .ref (A m)), (1, .int (nI n)), (2, .int (nI k))] 50 []
        rw [← hg_1]
        have h_2 : g_1 m = ob 11 [.ref (A (m + 1)), .int (nI n), .int (nI (gZ σ).2.1), .int (nI (gZ σ).2.2.1), .int (nI (gZ σ).2.2.2.1), .int (nI (gZ σ).2.2.2.2), .ref (A (m + 2)), .int (nI cs.length), .ref (A (m + 3)), .int (nI lm), .ref (A (m + 4)), .ref (A (m + 5)), .int (nI gm), .ref (A (m + 6)), .ref (A (m + 7)), .ref (A (m + 8))] := by rw [hg_1]; exact va_up_self _ _ _
        have h_3 : g_1 (m + 1) = ai 0 10511 Z := by rw [hg_1, va_up_ne _ _ (show m + 1 ≠ m from by omega)]; exact hZ
        have hf_4 : Fr g g_1 m (m + 1) := by rw [hg_1]; exact Fr.up (by omega) (by omega)
        have hp_5 := MC.fr hC hf_4 (by omega)
        have hp_6 := SO.fr hl3 hf_4 (by omega)
        have hp_7 := SO.fr hl4 hf_4 (by omega)
        have hp_8 := SO.fr hl5 hf_4 (by omega)
        refine g_aload_n (pc := 50) C dX11_sizes_50 0 rfl ?_
        refine g_iload_n (pc := 51) C dX11_sizes_51 2 rfl ?_
        refine g_put (pc := 52) C (j := 2) h_2 rfl (by decide) (Nat.le_of_ble_eq_true rfl) u_854 rfl pfd_I rfl rfl dX11_sizes_52 ?_
        obtain ⟨g_9, hg_9⟩ : ∃ yM : pM, yM = va_up g_1 m (ob 11 [.ref (A (m + 1)), .int (nI n), .int (nI k), .int (nI (gZ σ).2.2.1), .int (nI (gZ σ).2.2.2.1), .int (nI (gZ σ).2.2.2.2), .ref (A (m + 2)), .int (nI cs.length), .ref (A (m + 3)), .int (nI lm), .ref (A (m + 4)), .ref (A (m + 5)), .int (nI gm), .ref (A (m + 6)), .ref (A (m + 7)), .ref (A (m + 8))]) := ⟨_, rfl⟩
        show V K 0 0 P A (va_up g_1 m (ob 11 [.ref (A (m + 1)), .int (nI n), .int (nI k), .int (nI (gZ σ).2.2.1), .int (nI (gZ σ).2.2.2.1), .int (nI (gZ σ).2.2.2.2), .ref (A (m + 2)), .int (nI cs.length), .ref (A (m + 3)), .int (nI lm), .ref (A (m + 4)), .ref (A (m + 5)), .int (nI gm), .ref (A (m + 6)), .ref (A (m + 7)), .ref (A (m + 8))])) [(0, .ref (A m)), (1, .int (nI n)), (2, .int (nI k))] 55 []
        rw [← hg_9]
        have h_10 : g_9 m = ob 11 [.ref (A (m + 1)), .int (nI n), .int (nI k), .int (nI (gZ σ).2.2.1), .int (nI (gZ σ).2.2.2.1), .int (nI (gZ σ).2.2.2.2), .ref (A (m + 2)), .int (nI cs.length), .ref (A (m + 3)), .int (nI lm), .ref (A (m + 4)), .ref (A (m + 5)), .int (nI gm), .ref (A (m + 6)), .ref (A (m + 7)), .ref (A (m + 8))] := by rw [hg_9]; exact va_up_self _ _ _
        have h_11 : g_9 (m + 1) = ai 0 10511 Z := by rw [hg_9, va_up_ne _ _ (show m + 1 ≠ m from by omega)]; exact h_3
        have hf_12 : Fr g_1 g_9 m (m + 1) := by rw [hg_9]; exact Fr.up (by omega) (by omega)
        have hp_13 := MC.fr hp_5 hf_12 (by omega)
        have hp_14 := SO.fr hp_6 hf_12 (by omega)
        have hp_15 := SO.fr hp_7 hf_12 (by omega)
        have hp_16 := SO.fr hp_8 hf_12 (by omega)
        refine g_iconst (pc := 55) C dX11_sizes_55 (v := nI 1) rfl ?_
        exact g_iret (pc := 56) C R ⟨rfl, rfl, Or.inr ⟨n, k, hn1, hn2, hk1, hk2, rfl, rfl, Or.inr ⟨c_39, rfl, ⟨⟨_, _, _, _, _, h_10, hp_14, hp_15, hp_16⟩, ⟨_, h_11, hR⟩, hp_13⟩, (show Fr _ _ m (m + 1) from fun k hk => by rw [hg_9, va_up_ne _ _ (by omega), hg_1, va_up_ne _ _ (by omega)]).a (by omega)⟩⟩⟩ (by decide) (by decide) dX11_sizes_56
      ·
        have c_39 : ¬ (gK σ) ≤ 0 := fun h => c_39 ((nI_leI (a := (gK σ)) (b := 0) (by omega) (by omega)).mpr h)
        refine g_bipush (pc := 42) C dX11_sizes_42 (v := (-3)) rfl ?_
        exact g_iret (pc := 44) C R ⟨rfl, rfl, Or.inr ⟨n, k, hn1, hn2, hk1, hk2, rfl, rfl, Or.inl ⟨c_39, rfl, rfl⟩⟩⟩ (by decide) (by decide) dX11_sizes_44
    ·
      have c_25 : (decide (nI 2 ≤ y ∧ y ≤ nI 8)) = false := b32_yes c_25
      have c_25 : ¬ (nI 2 ≤ y ∧ y ≤ nI 8) := of_decide_eq_false c_25
      refine g_bipush (pc := 28) C dX11_sizes_28 (v := (-2)) rfl ?_
      exact g_iret (pc := 30) C R ⟨rfl, rfl, Or.inl ⟨(nin2 c_25).elim (fun z => Or.inr (Or.inr (Or.inl z))) (fun z => Or.inr (Or.inr (Or.inr z))), rfl, rfl⟩⟩ (by decide) (by decide) dX11_sizes_30
abbrev rm_X11_walks : Room := { frames := 1, cells := 0, slots := 0, locals := 25 }
theorem Y_X11_walks : pY yX11_walks cX11_walks 4 (Option.some Jvm.ClassFile.FieldType.int) := ⟨u_912, u_913, u_13, u_914⟩
theorem N_X11_walks : yX11_walks.cls ≠ "java/lang/invoke/MethodHandle" ∧ yX11_walks.cls ≠ "java/lang/invoke/VarHandle" ∧ (parseMethodDescriptor yX11_walks.desc).map (fun d => d.parameters.length) = some 3 := by decide +kernel
set_option maxRecDepth 20000 in
set_option maxHeartbeats 4000000 in
theorem c_X11_walks (A : Nat → Nat) (P : List Nat) (g : pM) (m : Nat) {cs : List Nat} {σ : Sg} {B : Nat} (x y z : Int32) (hS : SW B cs σ) (hM : MM A g m cs σ) : PM yX11_walks cX11_walks 4 (Option.some Jvm.ClassFile.FieldType.int) rm_X11_walks [.ref (A m), .int x, .int y, .int z] P A g (fun v g' => ((x < nI 1 ∨ nI 6 < x ∨ y < 0 ∨ ¬ y ≤ x ∨ z < nI 1 ∨ ¬ z ≤ nI 20) ∧ v = some (.int (-2)) ∧ g = g') ∨ (∃ n k t, 1 ≤ n ∧ n ≤ 6 ∧ k ≤ n ∧ 1 ≤ t ∧ t ≤ 20 ∧ x = nI n ∧ y = nI k ∧ z = nI t ∧ ((¬ gK σ ≤ 0 ∧ v = some (.int (-3)) ∧ g = g') ∨ (gK σ ≤ 0 ∧ v = some (.int (nI 1)) ∧ MM A g' m cs (sZ σ ((gZ σ).1, (gZ σ).2.1, n, k, t)) ∧ FrA g g' m)))) := by
  obtain ⟨⟨lm, gm, l3, l4, l5, hO, hl3, hl4, hl5⟩, ⟨Z, hZ, hR⟩, hC⟩ := id hM
  have hK := hR.k16
  have hT := hR.t24
  have hL := hR.le
  refine px_intro (by decide +kernel) (Nat.le_of_ble_eq_true rfl) (fun K sz C R => ?_)
  show V K 0 0 P A g [(0, .ref (A m)), (1, .int x), (2, .int y), (3, .int z)] 0 []
  refine g_iload_n (pc := 0) C dX11_walks_0 1 rfl ?_
  refine g_i2l (pc := 1) C dX11_walks_1 ?_
  refine g_lconst (pc := 2) C dX11_walks_2 (v := 1) rfl ?_
  refine g_ldc2 (pc := 3) C dX11_walks_3 u_915 ?_
  refine g_callS (pc := 6) C (As := [.long (x).toInt64, .long 1, .long 6]) (rest := []) (c_X11_in A P g (x).toInt64 1 6) rfl u_908 u_13 u_909 u_907 N_X11_in ⟨by decide, by decide⟩ ⟨by decide, by decide⟩ (Nat.le_of_ble_eq_true rfl) rfl dX11_walks_6 ?_
  rintro _ _ _ _ ⟨rfl, rfl, rfl, rfl⟩
  rw [in_c (lo := nI 1) (hi := nI 6) (by decide) (by decide)]
  show V K 0 0 P A g [(0, .ref (A m)), (1, .int x), (2, .int y), (3, .int z)] 9 [.int (b32 (decide (nI 1 ≤ x ∧ x ≤ nI 6)))]
  refine g_if_eq (pc := 9) C dX11_walks_9 (tgt := 35) (by decide) (fun c_9 => ?_) (fun c_9 => ?_)
  ·
    have c_9 : (decide (nI 1 ≤ x ∧ x ≤ nI 6)) = false := b32_yes c_9
    have c_9 : ¬ (nI 1 ≤ x ∧ x ≤ nI 6) := of_decide_eq_false c_9
    refine g_bipush (pc := 35) C dX11_walks_35 (v := (-2)) rfl ?_
    exact g_iret (pc := 37) C R ⟨rfl, rfl, Or.inl ⟨(nin c_9).elim Or.inl (fun z => Or.inr (Or.inl z)), rfl, rfl⟩⟩ (by decide) (by decide) dX11_walks_37
  ·
    have c_9 : (decide (nI 1 ≤ x ∧ x ≤ nI 6)) = true := b32_no c_9
    have c_9 : (nI 1 ≤ x ∧ x ≤ nI 6) := of_decide_eq_true c_9
    refine g_iload_n (pc := 12) C dX11_walks_12 2 rfl ?_
    refine g_i2l (pc := 13) C dX11_walks_13 ?_
    refine g_lconst (pc := 14) C dX11_walks_14 (v := 0) rfl ?_
    refine g_iload_n (pc := 15) C dX11_walks_15 1 rfl ?_
    refine g_i2l (pc := 16) C dX11_walks_16 ?_
    refine g_callS (pc := 17) C (As := [.long (y).toInt64, .long 0, .long (x).toInt64]) (rest := []) (c_X11_in A P g (y).toInt64 0 (x).toInt64) rfl u_908 u_13 u_909 u_907 N_X11_in ⟨by decide, by decide⟩ ⟨by decide, by decide⟩ (Nat.le_of_ble_eq_true rfl) rfl dX11_walks_17 ?_
    rintro _ _ _ _ ⟨rfl, rfl, rfl, rfl⟩
    rw [in_c (lo := nI 0) (hi := x) (by decide) rfl]
    show V K 0 0 P A g [(0, .ref (A m)), (1, .int x), (2, .int y), (3, .int z)] 20 [.int (b32 (decide (nI 0 ≤ y ∧ y ≤ x)))]
    refine g_if_eq (pc := 20) C dX11_walks_20 (tgt := 35) (by decide) (fun c_20 => ?_) (fun c_20 => ?_)
    ·
      have c_20 : (decide (nI 0 ≤ y ∧ y ≤ x)) = false := b32_yes c_20
      have c_20 : ¬ (nI 0 ≤ y ∧ y ≤ x) := of_decide_eq_false c_20
      refine g_bipush (pc := 35) C dX11_walks_35 (v := (-2)) rfl ?_
      exact g_iret (pc := 37) C R ⟨rfl, rfl, Or.inl ⟨(nin2 c_20).elim (fun z => Or.inr (Or.inr (Or.inl z))) (fun z => Or.inr (Or.inr (Or.inr (Or.inl z)))), rfl, rfl⟩⟩ (by decide) (by decide) dX11_walks_37
    ·
      have c_20 : (decide (nI 0 ≤ y ∧ y ≤ x)) = true := b32_no c_20
      have c_20 : (nI 0 ≤ y ∧ y ≤ x) := of_decide_eq_true c_20
      refine g_iload_n (pc := 23) C dX11_walks_23 3 rfl ?_
      refine g_i2l (pc := 24) C dX11_walks_24 ?_
      refine g_lconst (pc := 25) C dX11_walks_25 (v := 1) rfl ?_
      refine g_ldc2 (pc := 26) C dX11_walks_26 u_916 ?_
      refine g_callS (pc := 29) C (As := [.long (z).toInt64, .long 1, .long 20]) (rest := []) (c_X11_in A P g (z).toInt64 1 20) rfl u_908 u_13 u_909 u_907 N_X11_in ⟨by decide, by decide⟩ ⟨by decide, by decide⟩ (Nat.le_of_ble_eq_true rfl) rfl dX11_walks_29 ?_
      rintro _ _ _ _ ⟨rfl, rfl, rfl, rfl⟩
      rw [in_c (lo := nI 1) (hi := nI 20) (by decide) (by decide)]
      show V K 0 0 P A g [(0, .ref (A m)), (1, .int x), (2, .int y), (3, .int z)] 32 [.int (b32 (decide (nI 1 ≤ z ∧ z ≤ nI 20)))]
      refine g_if_ne (pc := 32) C dX11_walks_32 (tgt := 38) (by decide) (fun c_32 => ?_) (fun c_32 => ?_)
      ·
        have c_32 : (decide (nI 1 ≤ z ∧ z ≤ nI 20)) = true := b32_no c_32
        have c_32 : (nI 1 ≤ z ∧ z ≤ nI 20) := of_decide_eq_true c_32
        obtain ⟨n, hn1, hn2, rfl⟩ := rg_ex (lo := 1) (hi := 6) (by omega) (by omega) (i32_nlt c_9.1) (i32_nlt c_9.2)
        obtain ⟨k, -, hk2, rfl⟩ := rg_ex (lo := 0) (hi := n) (by omega) (by omega) (i32_nlt c_20.1) (i32_nlt c_20.2)
        obtain ⟨t, ht1, ht2, rfl⟩ := rg_ex (lo := 1) (hi := 20) (by omega) (by omega) (i32_nlt c_32.1) (i32_nlt c_32.2)
        refine g_aload_n (pc := 38) C dX11_walks_38 0 rfl ?_
        refine g_get (pc := 39) C (j := 0) hO rfl rfl (by decide) u_852 dX11_walks_39 ?_
        refine g_sipush (pc := 42) C dX11_walks_42 (v := nI 10505) rfl ?_
        refine g_iald (pc := 45) C hZ (nI_clamp (by omega)) (nI_in0 (n := 10511) (by omega) (by omega)) dX11_walks_45 (x := nI (gK σ)) (RZ.rK hR (by omega)) ?_
        refine g_if_le (pc := 46) C dX11_walks_46 (tgt := 52) (by decide) (fun c_46 => ?_) (fun c_46 => ?_)
        ·
          have c_46 : (gK σ) ≤ 0 := (nI_leI (by omega) (by omega)).mp c_46
          refine g_aload_n (pc := 52) C dX11_walks_52 0 rfl ?_
          refine g_iload_n (pc := 53) C dX11_walks_53 1 rfl ?_
          refine g_put (pc := 54) C (j := 3) hO rfl (by decide) (Nat.le_of_ble_eq_true rfl) u_855 rfl pfd_I rfl rfl dX11_walks_54 ?_
          obtain ⟨g_1, hg_1⟩ : ∃ yM : pM, yM = va_up g m (ob 11 [.ref (A (m + 1)), .int (nI (gZ σ).1), .int (nI (gZ σ).2.1), .int (nI n), .int (nI (gZ σ).2.2.2.1), .int (nI (gZ σ).2.2.2.2), .ref (A (m + 2)), .int (nI cs.length), .ref (A (m + 3)), .int (nI lm), .ref (A (m + 4)), .ref (A (m + 5)), .int (nI gm), .ref (A (m + 6)), .ref (A (m + 7)), .ref (A (m + 8))]) := ⟨_, rfl⟩
          show V K 0 0 P A (va_up g m (ob 11 [.ref (A (m + 1)), .int (nI (gZ σ).1), .int (nI (gZ σ).2.1), .int (nI n), .int (nI (gZ σ).2.2.2.1), .int (nI (gZ σ).2.2.2.2), .ref (A (m + 2)), .int (nI cs.length), .ref (A (m + 3)), .int (nI lm), .ref (A (m + 4)), .ref (A (m + 5)), .int (nI gm), .ref (A (m + 6)), .ref (A (m + 7)), .ref (A (m + 8))])) [(0, .ref (A m)), (1, .int (nI n)), (2, .int (nI k)), (3, .int (nI t))] 57 []
          rw [← hg_1]
          have h_2 : g_1 m = ob 11 [.ref (A (m + 1)), .int (nI (gZ σ).1), .int (nI (gZ σ).2.1), .int (nI n), .int (nI (gZ σ).2.2.2.1), .int (nI (gZ σ).2.2.2.2), .ref (A (m + 2)), .int (nI cs.length), .ref (A (m + 3)), .int (nI lm), .ref (A (m + 4)), .ref (A (m + 5)), .int (nI gm), .ref (A (m + 6)), .ref (A (m + 7)), .ref (A (m + 8))] := by rw [hg_1]; exact va_up_self _ _ _
          have h_3 : g_1 (m + 1) = ai 0 10511 Z := by rw [hg_1, va_up_ne _ _ (show m + 1 ≠ m from by omega)]; exact hZ
          have hf_4 : Fr g g_1 m (m + 1) := by rw [hg_1]; exact Fr.up (by omega) (by omega)
          have hp_5 := MC.fr hC hf_4 (by omega)
          have hp_6 := SO.fr hl3 hf_4 (by omega)
          have hp_7 := SO.fr hl4 hf_4 (by omega)
          have hp_8 := SO.fr hl5 hf_4 (by omega)
          refine g_aload_n (pc := 57) C dX11_walks_57 0 rfl ?_
          refine g_iload_n (pc := 58) C dX11_walks_58 2 rfl ?_
          refine g_put (pc := 59) C (j := 4) h_2 rfl (by decide) (Nat.le_of_ble_eq_true rfl) u_856 rfl pfd_I rfl rfl dX11_walks_59 ?_
          obtain ⟨g_9, hg_9⟩ : ∃ yM : pM, yM = va_up g_1 m (ob 11 [.ref (A (m + 1)), .int (nI (gZ σ).1), .int (nI (gZ σ).2.1), .int (nI n), .int (nI k), .int (nI (gZ σ).2.2.2.2), .ref (A (m + 2)), .int (nI cs.length), .ref (A (m + 3)), .int (nI lm), .ref (A (m + 4)), .ref (A (m + 5)), .int (nI gm), .ref (A (m + 6)), .ref (A (m + 7)), .ref (A (m + 8))]) := ⟨_, rfl⟩
          show V K 0 0 P A (va_up g_1 m (ob 11 [.ref (A (m + 1)), .int (nI (gZ σ).1), .int (nI (gZ σ).2.1), .int (nI n), .int (nI k), .int (nI (gZ σ).2.2.2.2), .ref (A (m + 2)), .int (nI cs.length), .ref (A (m + 3)), .int (nI lm), .ref (A (m + 4)), .ref (A (m + 5)), .int (nI gm), .ref (A (m + 6)), .ref (A (m + 7)), .ref (A (m + 8))])) [(0, .ref (A m)), (1, .int (nI n)), (2, .int (nI k)), (3, .int (nI t))] 62 []
          rw [← hg_9]
          have h_10 : g_9 m = ob 11 [.ref (A (m + 1)), .int (nI (gZ σ).1), .int (nI (gZ σ).2.1), .int (nI n), .int (nI k), .int (nI (gZ σ).2.2.2.2), .ref (A (m + 2)), .int (nI cs.length), .ref (A (m + 3)), .int (nI lm), .ref (A (m + 4)), .ref (A (m + 5)), .int (nI gm), .ref (A (m + 6)), .ref (A (m + 7)), .ref (A (m + 8))] := by rw [hg_9]; exact va_up_self _ _ _
          have h_11 : g_9 (m + 1) = ai 0 10511 Z := by rw [hg_9, va_up_ne _ _ (show m + 1 ≠ m from by omega)]; exact h_3
          have hf_12 : Fr g_1 g_9 m (m + 1) := by rw [hg_9]; exact Fr.up (by omega) (by omega)
          have hp_13 := MC.fr hp_5 hf_12 (by omega)
          have hp_14 := SO.fr hp_6 hf_12 (by omega)
          have hp_15 := SO.fr hp_7 hf_12 (by omega)
          have hp_16 := SO.fr hp_8 hf_12 (by omega)
          refine g_aload_n (pc := 62) C dX11_walks_62 0 rfl ?_
          refine g_iload_n (pc := 63) C dX11_walks_63 3 rfl ?_
          refine g_put (pc := 64) C (j := 5) h_10 rfl (by decide) (Nat.le_of_ble_eq_true rfl) u_857 rfl pfd_I rfl rfl dX11_walks_64 ?_
          obtain ⟨g_17, hg_17⟩ : ∃ yM : pM, yM = va_up g_9 m (ob 11 [.ref (A (m + 1)), .int (nI (gZ σ).1), .int (nI (gZ σ).2.1), .int (nI n), .int (nI k), .int (nI t), .ref (A (m + 2)), .int (nI cs.length), .ref (A (m + 3)), .int (nI lm), .ref (A (m + 4)), .ref (A (m + 5)), .int (nI gm), .ref (A (m + 6)), .ref (A (m + 7)), .ref (A (m + 8))]) := ⟨_, rfl⟩
          show V K 0 0 P A (va_up g_9 m (ob 11 [.ref (A (m + 1)), .int (nI (gZ σ).1), .int (nI (gZ σ).2.1), .int (nI n), .int (nI k), .int (nI t), .ref (A (m + 2)), .int (nI cs.length), .ref (A (m + 3)), .int (nI lm), .ref (A (m + 4)), .ref (A (m + 5)), .int (nI gm), .ref (A (m + 6)), .ref (A (m + 7)), .ref (A (m + 8))])) [(0, .ref (A m)), (1, .int (nI n)), (2, .int (nI k)), (3, .int (nI t))] 67 []
          rw [← hg_17]
          have h_18 : g_17 m = ob 11 [.ref (A (m + 1)), .int (nI (gZ σ).1), .int (nI (gZ σ).2.1), .int (nI n), .int (nI k), .int (nI t), .ref (A (m + 2)), .int (nI cs.length), .ref (A (m + 3)), .int (nI lm), .ref (A (m + 4)), .ref (A (m + 5)), .int (nI gm), .ref (A (m + 6)), .ref (A (m + 7)), .ref (A (m + 8))] := by rw [hg_17]; exact va_up_self _ _ _
          have h_19 : g_17 (m + 1) = ai 0 10511 Z := by rw [hg_17, va_up_ne _ _ (show m + 1 ≠ m from by omega)]; exact h_11
          have hf_20 : Fr g_9 g_17 m (m + 1) := by rw [hg_17]; exact Fr.up (by omega) (by omega)
          have hp_21 := MC.fr hp_13 hf_20 (by omega)
          have hp_22 := SO.fr hp_14 hf_20 (by omega)
          have hp_23 := SO.fr hp_15 hf_20 (by omega)
          have hp_24 := SO.fr hp_16 hf_20 (by omega)
          refine g_iconst (pc := 67) C dX11_walks_67 (v := nI 1) rfl ?_
          exact g_iret (pc := 68) C R ⟨rfl, rfl, Or.inr ⟨n, k, t, hn1, hn2, hk2, ht1, ht2, rfl, rfl, rfl, Or.inr ⟨c_46, rfl, ⟨⟨_, _, _, _, _, h_18, hp_22, hp_23, hp_24⟩, ⟨_, h_19, hR⟩, hp_21⟩, (show Fr _ _ m (m + 1) from fun k hk => by rw [hg_17, va_up_ne _ _ (by omega), hg_9, va_up_ne _ _ (by omega), hg_1, va_up_ne _ _ (by omega)]).a (by omega)⟩⟩⟩ (by decide) (by decide) dX11_walks_68
        ·
          have c_46 : ¬ (gK σ) ≤ 0 := fun h => c_46 ((nI_leI (a := (gK σ)) (b := 0) (by omega) (by omega)).mpr h)
          refine g_bipush (pc := 49) C dX11_walks_49 (v := (-3)) rfl ?_
          exact g_iret (pc := 51) C R ⟨rfl, rfl, Or.inr ⟨n, k, t, hn1, hn2, hk2, ht1, ht2, rfl, rfl, rfl, Or.inl ⟨c_46, rfl, rfl⟩⟩⟩ (by decide) (by decide) dX11_walks_51
      ·
        have c_32 : (decide (nI 1 ≤ z ∧ z ≤ nI 20)) = false := b32_yes c_32
        have c_32 : ¬ (nI 1 ≤ z ∧ z ≤ nI 20) := of_decide_eq_false c_32
        refine g_bipush (pc := 35) C dX11_walks_35 (v := (-2)) rfl ?_
        exact g_iret (pc := 37) C R ⟨rfl, rfl, Or.inl ⟨(nin2 c_32).elim (fun z => Or.inr (Or.inr (Or.inr (Or.inr (Or.inl z))))) (fun z => Or.inr (Or.inr (Or.inr (Or.inr (Or.inr z))))), rfl, rfl⟩⟩ (by decide) (by decide) dX11_walks_37
abbrev rm_X11_heard : Room := { frames := 2, cells := 0, slots := 0, locals := 46 }
theorem Y_X11_heard : pY yX11_heard cX11_heard 3 (Option.some Jvm.ClassFile.FieldType.int) := ⟨u_1083, u_1084, u_13, u_1085⟩
theorem N_X11_heard : yX11_heard.cls ≠ "java/lang/invoke/MethodHandle" ∧ yX11_heard.cls ≠ "java/lang/invoke/VarHandle" ∧ (parseMethodDescriptor yX11_heard.desc).map (fun d => d.parameters.length) = some 2 := by decide +kernel
set_option maxRecDepth 20000 in
set_option maxHeartbeats 4000000 in
theorem c_X11_heard (A : Nat → Nat) (P : List Nat) (g : pM) (m : Nat) {cs : List Nat} {σ : Sg} {B : Nat} (x y : Int32) (hS : SW B cs σ) (hM : MM A g m cs σ) : PM yX11_heard cX11_heard 3 (Option.some Jvm.ClassFile.FieldType.int) rm_X11_heard [.ref (A m), .int x, .int y] P A g (fun v g' => v = some (.int (hrA σ x y)) ∧ g = g') := by
  obtain ⟨⟨lm, gm, l3, l4, l5, hO, hl3, hl4, hl5⟩, ⟨Z, hZ, hR⟩, hC⟩ := id hM
  have hK := hR.k16
  have hT := hR.t24
  have hL := hR.le
  refine px_intro (by decide +kernel) (Nat.le_of_ble_eq_true rfl) (fun K sz C R => ?_)
  show V K 0 0 P A g [(0, .ref (A m)), (1, .int x), (2, .int y)] 0 []
  refine g_aload_n (pc := 0) C dX11_heard_0 0 rfl ?_
  refine g_iload_n (pc := 1) C dX11_heard_1 1 rfl ?_
  refine g_callV (pc := 2) C (As := [.int x]) (rest := []) (b := m) (c_X11_isNode A P g m x hO hZ hR) hO rfl rfl Y_X11_isNode u_929 N_X11_isNode ⟨by decide, by decide⟩ ⟨by decide, by decide⟩ (Nat.le_of_ble_eq_true rfl) rfl dX11_heard_2 ?_
  rintro _ _ _ _ ⟨rfl, rfl, rfl, rfl⟩
  show V K 0 0 P A g [(0, .ref (A m)), (1, .int x), (2, .int y)] 5 [.int (b32 (isN σ x))]
  refine g_if_eq (pc := 5) C dX11_heard_5 (tgt := 34) (by decide) (fun c_5 => ?_) (fun c_5 => ?_)
  ·
    have c_5 : (isN σ x) = false := b32_yes c_5
    refine g_iconst (pc := 34) C dX11_heard_34 (v := (-1)) rfl ?_
    exact g_iret (pc := 35) C R ⟨rfl, rfl, by rw [hrA_x c_5], rfl⟩ (by decide) (by decide) dX11_heard_35
  ·
    have c_5 : (isN σ x) = true := b32_no c_5
    obtain ⟨i, hi, rfl⟩ := isN_ex hK c_5
    refine g_aload_n (pc := 8) C dX11_heard_8 0 rfl ?_
    refine g_iload_n (pc := 9) C dX11_heard_9 2 rfl ?_
    refine g_callV (pc := 10) C (As := [.int y]) (rest := []) (b := m) (c_X11_isTale A P g m y hO hZ hR) hO rfl rfl Y_X11_isTale u_1086 N_X11_isTale ⟨by decide, by decide⟩ ⟨by decide, by decide⟩ (Nat.le_of_ble_eq_true rfl) rfl dX11_heard_10 ?_
    rintro _ _ _ _ ⟨rfl, rfl, rfl, rfl⟩
    show V K 0 0 P A g [(0, .ref (A m)), (1, .int (nI i)), (2, .int y)] 13 [.int (b32 (isT σ y))]
    refine g_if_eq (pc := 13) C dX11_heard_13 (tgt := 34) (by decide) (fun c_13 => ?_) (fun c_13 => ?_)
    ·
      have c_13 : (isT σ y) = false := b32_yes c_13
      refine g_iconst (pc := 34) C dX11_heard_34 (v := (-1)) rfl ?_
      exact g_iret (pc := 35) C R ⟨rfl, rfl, by rw [hrA_y c_13], rfl⟩ (by decide) (by decide) dX11_heard_35
    ·
      have c_13 : (isT σ y) = true := b32_no c_13
      obtain ⟨t, ht, rfl⟩ := isK_ex (K := gT σ) (by omega) c_13
      refine g_aload_n (pc := 16) C dX11_heard_16 0 rfl ?_
      refine g_get (pc := 17) C (j := 0) hO rfl rfl (by decide) u_852 dX11_heard_17 ?_
      refine g_sipush (pc := 20) C dX11_heard_20 (v := nI 384) rfl ?_
      refine g_bipush (pc := 23) C dX11_heard_23 (v := nI 24) rfl ?_
      refine g_iload_n (pc := 25) C dX11_heard_25 1 rfl ?_
      refine g_imul (pc := 26) C dX11_heard_26 (z := nI (24 * i)) (pk_mul _ _) ?_
      refine g_iadd (pc := 27) C dX11_heard_27 (z := nI (384 + 24 * i)) (nI_add _ _) ?_
      refine g_iload_n (pc := 28) C dX11_heard_28 2 rfl ?_
      refine g_iadd (pc := 29) C dX11_heard_29 (z := nI (384 + 24 * i + t)) (nI_add _ _) ?_
      refine g_iald (pc := 30) C hZ (nI_clamp (by omega)) (nI_in0 (n := 10511) (by omega) (by omega)) dX11_heard_30 (x := onv (nHo (gN σ i) t)) (RZ.rHo hR (r := i) (t := t) (by omega) (by omega) (by omega)) ?_
      refine g_goto (pc := 31) C dX11_heard_31 (tgt := 35) (by decide) ?_
      exact g_iret (pc := 35) C R ⟨rfl, rfl, by rw [hrA_n hK hT hi ht], rfl⟩ (by decide) (by decide) dX11_heard_35
abbrev rm_X11_missed : Room := { frames := 2, cells := 0, slots := 0, locals := 46 }
theorem Y_X11_missed : pY yX11_missed cX11_missed 3 (Option.some Jvm.ClassFile.FieldType.int) := ⟨u_1091, u_1092, u_13, u_1093⟩
theorem N_X11_missed : yX11_missed.cls ≠ "java/lang/invoke/MethodHandle" ∧ yX11_missed.cls ≠ "java/lang/invoke/VarHandle" ∧ (parseMethodDescriptor yX11_missed.desc).map (fun d => d.parameters.length) = some 2 := by decide +kernel
set_option maxRecDepth 20000 in
set_option maxHeartbeats 4000000 in
theorem c_X11_missed (A : Nat → Nat) (P : List Nat) (g : pM) (m : Nat) {cs : List Nat} {σ : Sg} {B : Nat} (x y : Int32) (hS : SW B cs σ) (hM : MM A g m cs σ) : PM yX11_missed cX11_missed 3 (Option.some Jvm.ClassFile.FieldType.int) rm_X11_missed [.ref (A m), .int x, .int y] P A g (fun v g' => (((isN σ x = false ∨ isT σ y = false) ∧ v = some (.int (-1))) ∨ (∃ i t, i < gK σ ∧ t < gT σ ∧ x = nI i ∧ y = nI t ∧ v = some (.int (nI (miL (nMi (gN σ i) t)).length)))) ∧ g = g') := by
  obtain ⟨⟨lm, gm, l3, l4, l5, hO, hl3, hl4, hl5⟩, ⟨Z, hZ, hR⟩, hC⟩ := id hM
  have hK := hR.k16
  have hT := hR.t24
  have hL := hR.le
  refine px_intro (by decide +kernel) (Nat.le_of_ble_eq_true rfl) (fun K sz C R => ?_)
  show V K 0 0 P A g [(0, .ref (A m)), (1, .int x), (2, .int y)] 0 []
  refine g_aload_n (pc := 0) C dX11_missed_0 0 rfl ?_
  refine g_iload_n (pc := 1) C dX11_missed_1 1 rfl ?_
  refine g_callV (pc := 2) C (As := [.int x]) (rest := []) (b := m) (c_X11_isNode A P g m x hO hZ hR) hO rfl rfl Y_X11_isNode u_929 N_X11_isNode ⟨by decide, by decide⟩ ⟨by decide, by decide⟩ (Nat.le_of_ble_eq_true rfl) rfl dX11_missed_2 ?_
  rintro _ _ _ _ ⟨rfl, rfl, rfl, rfl⟩
  show V K 0 0 P A g [(0, .ref (A m)), (1, .int x), (2, .int y)] 5 [.int (b32 (isN σ x))]
  refine g_if_eq (pc := 5) C dX11_missed_5 (tgt := 16) (by decide) (fun c_5 => ?_) (fun c_5 => ?_)
  ·
    have c_5 : (isN σ x) = false := b32_yes c_5
    refine g_iconst (pc := 16) C dX11_missed_16 (v := (-1)) rfl ?_
    exact g_iret (pc := 17) C R ⟨rfl, rfl, Or.inl ⟨Or.inl c_5, rfl⟩, rfl⟩ (by decide) (by decide) dX11_missed_17
  ·
    have c_5 : (isN σ x) = true := b32_no c_5
    obtain ⟨i, hi, rfl⟩ := isN_ex hK c_5
    refine g_aload_n (pc := 8) C dX11_missed_8 0 rfl ?_
    refine g_iload_n (pc := 9) C dX11_missed_9 2 rfl ?_
    refine g_callV (pc := 10) C (As := [.int y]) (rest := []) (b := m) (c_X11_isTale A P g m y hO hZ hR) hO rfl rfl Y_X11_isTale u_1086 N_X11_isTale ⟨by decide, by decide⟩ ⟨by decide, by decide⟩ (Nat.le_of_ble_eq_true rfl) rfl dX11_missed_10 ?_
    rintro _ _ _ _ ⟨rfl, rfl, rfl, rfl⟩
    show V K 0 0 P A g [(0, .ref (A m)), (1, .int (nI i)), (2, .int y)] 13 [.int (b32 (isT σ y))]
    refine g_if_ne (pc := 13) C dX11_missed_13 (tgt := 18) (by decide) (fun c_13 => ?_) (fun c_13 => ?_)
    ·
      have c_13 : (isT σ y) = true := b32_no c_13
      obtain ⟨t, ht, rfl⟩ := isK_ex (K := gT σ) (by omega) c_13
      refine g_aload_n (pc := 18) C dX11_missed_18 0 rfl ?_
      refine g_get (pc := 19) C (j := 0) hO rfl rfl (by decide) u_852 dX11_missed_19 ?_
      refine g_sipush (pc := 22) C dX11_missed_22 (v := nI 768) rfl ?_
      refine g_bipush (pc := 25) C dX11_missed_25 (v := nI 24) rfl ?_
      refine g_iload_n (pc := 27) C dX11_missed_27 1 rfl ?_
      refine g_imul (pc := 28) C dX11_missed_28 (z := nI (24 * i)) (pk_mul _ _) ?_
      refine g_iadd (pc := 29) C dX11_missed_29 (z := nI (768 + 24 * i)) (nI_add _ _) ?_
      refine g_iload_n (pc := 30) C dX11_missed_30 2 rfl ?_
      refine g_iadd (pc := 31) C dX11_missed_31 (z := nI (768 + 24 * i + t)) (nI_add _ _) ?_
      refine g_iald (pc := 32) C hZ (nI_clamp (by omega)) (nI_in0 (n := 10511) (by omega) (by omega)) dX11_missed_32 (x := miO (nMi (gN σ i) t)) (RZ.rMi hR (r := i) (t := t) (by omega) (by omega) (by omega)) ?_
      refine g_iconst (pc := 33) C dX11_missed_33 (v := nI 1) rfl ?_
      refine g_icmp_ne (pc := 34) C dX11_missed_34 (tgt := 55) (by decide) (fun c_34 => ?_) (fun c_34 => ?_)
      ·
        refine g_iconst (pc := 55) C dX11_missed_55 (v := nI 0) rfl ?_
        exact g_iret (pc := 56) C R ⟨rfl, rfl, Or.inr ⟨i, t, hi, ht, rfl, rfl, by rw [miO_n1 c_34]; rfl⟩, rfl⟩ (by decide) (by decide) dX11_missed_56
      ·
        refine g_aload_n (pc := 37) C dX11_missed_37 0 rfl ?_
        refine g_get (pc := 38) C (j := 0) hO rfl rfl (by decide) u_852 dX11_missed_38 ?_
        refine g_sipush (pc := 41) C dX11_missed_41 (v := nI 1536) rfl ?_
        refine g_bipush (pc := 44) C dX11_missed_44 (v := nI 24) rfl ?_
        refine g_iload_n (pc := 46) C dX11_missed_46 1 rfl ?_
        refine g_imul (pc := 47) C dX11_missed_47 (z := nI (24 * i)) (pk_mul _ _) ?_
        refine g_iadd (pc := 48) C dX11_missed_48 (z := nI (1536 + 24 * i)) (nI_add _ _) ?_
        refine g_iload_n (pc := 49) C dX11_missed_49 2 rfl ?_
        refine g_iadd (pc := 50) C dX11_missed_50 (z := nI (1536 + 24 * i + t)) (nI_add _ _) ?_
        refine g_iald (pc := 51) C hZ (nI_clamp (by omega)) (nI_in0 (n := 10511) (by omega) (by omega)) dX11_missed_51 (x := nI (miL (nMi (gN σ i) t)).length) (RZ.rMn hR (r := i) (t := t) (by omega) (by omega) (by omega)) ?_
        refine g_goto (pc := 52) C dX11_missed_52 (tgt := 56) (by decide) ?_
        exact g_iret (pc := 56) C R ⟨rfl, rfl, Or.inr ⟨i, t, hi, ht, rfl, rfl, rfl⟩, rfl⟩ (by decide) (by decide) dX11_missed_56
    ·
      have c_13 : (isT σ y) = false := b32_yes c_13
      refine g_iconst (pc := 16) C dX11_missed_16 (v := (-1)) rfl ?_
      exact g_iret (pc := 17) C R ⟨rfl, rfl, Or.inl ⟨Or.inr c_13, rfl⟩, rfl⟩ (by decide) (by decide) dX11_missed_17
abbrev rm_X11_how : Room := { frames := 2, cells := 0, slots := 0, locals := 46 }
theorem Y_X11_how : pY yX11_how cX11_how 4 (Option.some Jvm.ClassFile.FieldType.int) := ⟨u_1079, u_1080, u_13, u_1081⟩
theorem N_X11_how : yX11_how.cls ≠ "java/lang/invoke/MethodHandle" ∧ yX11_how.cls ≠ "java/lang/invoke/VarHandle" ∧ (parseMethodDescriptor yX11_how.desc).map (fun d => d.parameters.length) = some 2 := by decide +kernel
set_option maxRecDepth 20000 in
set_option maxHeartbeats 4000000 in
theorem c_X11_how (A : Nat → Nat) (P : List Nat) (g : pM) (m : Nat) {cs : List Nat} {σ : Sg} {B : Nat} (x y : Int32) (hS : SW B cs σ) (hM : MM A g m cs σ) : PM yX11_how cX11_how 4 (Option.some Jvm.ClassFile.FieldType.int) rm_X11_how [.ref (A m), .int x, .int y] P A g (fun v g' => (((isN σ x = false ∨ isN σ y = false) ∧ v = some (.int (-1))) ∨ (∃ i j, i < gK σ ∧ j < gK σ ∧ x = nI i ∧ y = nI j ∧ v = some (.int (nI (hwA σ i j))))) ∧ g = g') := by
  obtain ⟨⟨lm, gm, l3, l4, l5, hO, hl3, hl4, hl5⟩, ⟨Z, hZ, hR⟩, hC⟩ := id hM
  have hK := hR.k16
  have hT := hR.t24
  have hL := hR.le
  refine px_intro (by decide +kernel) (Nat.le_of_ble_eq_true rfl) (fun K sz C R => ?_)
  show V K 0 0 P A g [(0, .ref (A m)), (1, .int x), (2, .int y)] 0 []
  refine g_aload_n (pc := 0) C dX11_how_0 0 rfl ?_
  refine g_iload_n (pc := 1) C dX11_how_1 1 rfl ?_
  refine g_callV (pc := 2) C (As := [.int x]) (rest := []) (b := m) (c_X11_isNode A P g m x hO hZ hR) hO rfl rfl Y_X11_isNode u_929 N_X11_isNode ⟨by decide, by decide⟩ ⟨by decide, by decide⟩ (Nat.le_of_ble_eq_true rfl) rfl dX11_how_2 ?_
  rintro _ _ _ _ ⟨rfl, rfl, rfl, rfl⟩
  show V K 0 0 P A g [(0, .ref (A m)), (1, .int x), (2, .int y)] 5 [.int (b32 (isN σ x))]
  refine g_if_eq (pc := 5) C dX11_how_5 (tgt := 16) (by decide) (fun c_5 => ?_) (fun c_5 => ?_)
  ·
    have c_5 : (isN σ x) = false := b32_yes c_5
    refine g_iconst (pc := 16) C dX11_how_16 (v := (-1)) rfl ?_
    exact g_iret (pc := 17) C R ⟨rfl, rfl, Or.inl ⟨Or.inl c_5, rfl⟩, rfl⟩ (by decide) (by decide) dX11_how_17
  ·
    have c_5 : (isN σ x) = true := b32_no c_5
    obtain ⟨i, hi, rfl⟩ := isN_ex hK c_5
    refine g_aload_n (pc := 8) C dX11_how_8 0 rfl ?_
    refine g_iload_n (pc := 9) C dX11_how_9 2 rfl ?_
    refine g_callV (pc := 10) C (As := [.int y]) (rest := []) (b := m) (c_X11_isNode A P g m y hO hZ hR) hO rfl rfl Y_X11_isNode u_929 N_X11_isNode ⟨by decide, by decide⟩ ⟨by decide, by decide⟩ (Nat.le_of_ble_eq_true rfl) rfl dX11_how_10 ?_
    rintro _ _ _ _ ⟨rfl, rfl, rfl, rfl⟩
    show V K 0 0 P A g [(0, .ref (A m)), (1, .int (nI i)), (2, .int y)] 13 [.int (b32 (isN σ y))]
    refine g_if_ne (pc := 13) C dX11_how_13 (tgt := 18) (by decide) (fun c_13 => ?_) (fun c_13 => ?_)
    ·
      have c_13 : (isN σ y) = true := b32_no c_13
      obtain ⟨j, hj, rfl⟩ := isN_ex hK c_13
      have hc5 := hR.ac5 hi
      have hc8 := hR.pa8 hi
      refine g_aload_n (pc := 18) C dX11_how_18 0 rfl ?_
      refine g_iload_n (pc := 19) C dX11_how_19 1 rfl ?_
      refine g_iload_n (pc := 20) C dX11_how_20 2 rfl ?_
      refine g_callV (pc := 21) C (As := [.int (nI i), .int (nI j)]) (rest := []) (b := m) (c_X11_activeAt A P g m i j (by omega) (by omega) (hS.a16 (by omega)) hO hZ hR) hO rfl rfl Y_X11_activeAt u_961 N_X11_activeAt ⟨by decide, by decide⟩ ⟨by decide, by decide⟩ (Nat.le_of_ble_eq_true rfl) rfl dX11_how_21 ?_
      rintro _ _ _ _ ⟨rfl, rfl, rfl, rfl⟩
      rcases zPl_c (nAc (gN σ i)) j with ⟨hppk_1, hqpk_1⟩ | ⟨pk1, hkpk_1, hppk_1, hxpk_1, hipk_1, hmpk_1⟩
      ·
        rw [hppk_1]
        show V K 0 0 P A g [(0, .ref (A m)), (1, .int (nI i)), (2, .int (nI j))] 24 [.int (-1)]
        refine g_istore_n (pc := 24) C dX11_how_24 (by decide) (lv' := [(0, .ref (A m)), (1, .int (nI i)), (2, .int (nI j)), (3, .int (-1))]) [1, 2, 3, 0] rfl ?_
        refine g_iload_n (pc := 25) C dX11_how_25 3 rfl ?_
        refine g_if_lt (pc := 26) C dX11_how_26 (tgt := 48) (by decide) (fun c_26 => ?_) (fun c_26 => ?_)
        ·
          refine g_aload_n (pc := 48) C dX11_how_48 0 rfl ?_
          refine g_iload_n (pc := 49) C dX11_how_49 1 rfl ?_
          refine g_iload_n (pc := 50) C dX11_how_50 2 rfl ?_
          refine g_callV (pc := 51) C (As := [.int (nI i), .int (nI j)]) (rest := []) (b := m) (c_X11_passiveAt A P g m i j (by omega) (by omega) (hS.p16 (by omega)) hO hZ hR) hO rfl rfl Y_X11_passiveAt u_1033 N_X11_passiveAt ⟨by decide, by decide⟩ ⟨by decide, by decide⟩ (Nat.le_of_ble_eq_true rfl) rfl dX11_how_51 ?_
          rintro _ _ _ _ ⟨rfl, rfl, rfl, rfl⟩
          rcases zPl_c (nPa (gN σ i)) j with ⟨hppk_2, hqpk_2⟩ | ⟨pk2, hkpk_2, hppk_2, hxpk_2, hipk_2, hmpk_2⟩
          ·
            rw [hppk_2]
            show V K 0 0 P A g [(0, .ref (A m)), (1, .int (nI i)), (2, .int (nI j)), (3, .int (-1))] 54 [.int (-1)]
            refine g_if_lt (pc := 54) C dX11_how_54 (tgt := 61) (by decide) (fun c_54 => ?_) (fun c_54 => ?_)
            ·
              refine g_iconst (pc := 61) C dX11_how_61 (v := nI 0) rfl ?_
              exact g_iret (pc := 62) C R ⟨rfl, rfl, Or.inr ⟨i, j, hi, hj, rfl, rfl, by rw [hwA_0 hqpk_1 hqpk_2]⟩, rfl⟩ (by decide) (by decide) dX11_how_62
            ·
              exfalso
              revert c_54; decide
          ·
            rw [hppk_2]
            show V K 0 0 P A g [(0, .ref (A m)), (1, .int (nI i)), (2, .int (nI j)), (3, .int (-1))] 54 [.int (nI pk2)]
            refine g_if_lt (pc := 54) C dX11_how_54 (tgt := 61) (by decide) (fun c_54 => ?_) (fun c_54 => ?_)
            ·
              exfalso
              exact nI_pos (by omega) c_54
            ·
              have c_54 : ¬ pk2 < 0 := fun h => c_54 ((nI_ltI (a := pk2) (b := 0) (by omega) (by omega)).mpr h)
              refine g_iconst (pc := 57) C dX11_how_57 (v := nI 3) rfl ?_
              refine g_goto (pc := 58) C dX11_how_58 (tgt := 62) (by decide) ?_
              exact g_iret (pc := 62) C R ⟨rfl, rfl, Or.inr ⟨i, j, hi, hj, rfl, rfl, by rw [hwA_3 hqpk_1 hmpk_2]⟩, rfl⟩ (by decide) (by decide) dX11_how_62
        ·
          exfalso
          revert c_26; decide
      ·
        rw [hppk_1]
        show V K 0 0 P A g [(0, .ref (A m)), (1, .int (nI i)), (2, .int (nI j))] 24 [.int (nI pk1)]
        refine g_istore_n (pc := 24) C dX11_how_24 (by decide) (lv' := [(0, .ref (A m)), (1, .int (nI i)), (2, .int (nI j)), (3, .int (nI pk1))]) [1, 2, 3, 0] rfl ?_
        refine g_iload_n (pc := 25) C dX11_how_25 3 rfl ?_
        refine g_if_lt (pc := 26) C dX11_how_26 (tgt := 48) (by decide) (fun c_26 => ?_) (fun c_26 => ?_)
        ·
          exfalso
          exact nI_pos (by omega) c_26
        ·
          have c_26 : ¬ pk1 < 0 := fun h => c_26 ((nI_ltI (a := pk1) (b := 0) (by omega) (by omega)).mpr h)
          refine g_iconst (pc := 29) C dX11_how_29 (v := nI 1) rfl ?_
          refine g_aload_n (pc := 30) C dX11_how_30 0 rfl ?_
          refine g_get (pc := 31) C (j := 0) hO rfl rfl (by decide) u_852 dX11_how_31 ?_
          refine g_sipush (pc := 34) C dX11_how_34 (v := nI 176) rfl ?_
          refine g_iconst (pc := 37) C dX11_how_37 (v := nI 5) rfl ?_
          refine g_iload_n (pc := 38) C dX11_how_38 1 rfl ?_
          refine g_imul (pc := 39) C dX11_how_39 (z := nI (5 * i)) (pk_mul _ _) ?_
          refine g_iadd (pc := 40) C dX11_how_40 (z := nI (176 + 5 * i)) (nI_add _ _) ?_
          refine g_iload_n (pc := 41) C dX11_how_41 3 rfl ?_
          refine g_iadd (pc := 42) C dX11_how_42 (z := nI (176 + 5 * i + pk1)) (nI_add _ _) ?_
          refine g_iald (pc := 43) C hZ (nI_clamp (by omega)) (nI_in0 (n := 10511) (by omega) (by omega)) dX11_how_43 (x := b32 ((nLz (gN σ i)).testBit ((nAc (gN σ i)).getD pk1 0))) (RZ.rLz hR (r := i) (k := pk1) (by omega) (by omega) (by omega)) ?_
          refine g_iadd (pc := 44) C dX11_how_44 (z := (nI 1) + (b32 ((nLz (gN σ i)).testBit ((nAc (gN σ i)).getD pk1 0)))) rfl ?_
          refine g_goto (pc := 45) C dX11_how_45 (tgt := 62) (by decide) ?_
          exact g_iret (pc := 62) C R ⟨rfl, rfl, Or.inr ⟨i, j, hi, hj, rfl, rfl, by rw [← hwA_1 hmpk_1, ← hxpk_1]⟩, rfl⟩ (by decide) (by decide) dX11_how_62
    ·
      have c_13 : (isN σ y) = false := b32_yes c_13
      refine g_iconst (pc := 16) C dX11_how_16 (v := (-1)) rfl ?_
      exact g_iret (pc := 17) C R ⟨rfl, rfl, Or.inl ⟨Or.inr c_13, rfl⟩, rfl⟩ (by decide) (by decide) dX11_how_17
abbrev rm_X11_view : Room := { frames := 2, cells := 0, slots := 0, locals := 46 }
theorem Y_X11_view : pY yX11_view cX11_view 5 (Option.some Jvm.ClassFile.FieldType.int) := ⟨u_1075, u_1076, u_13, u_1077⟩
theorem N_X11_view : yX11_view.cls ≠ "java/lang/invoke/MethodHandle" ∧ yX11_view.cls ≠ "java/lang/invoke/VarHandle" ∧ (parseMethodDescriptor yX11_view.desc).map (fun d => d.parameters.length) = some 3 := by decide +kernel
set_option maxRecDepth 20000 in
set_option maxHeartbeats 4000000 in
theorem c_X11_view (A : Nat → Nat) (P : List Nat) (g : pM) (m : Nat) {cs : List Nat} {σ : Sg} {B : Nat} (x y z : Int32) (hS : SW B cs σ) (hM : MM A g m cs σ) : PM yX11_view cX11_view 5 (Option.some Jvm.ClassFile.FieldType.int) rm_X11_view [.ref (A m), .int x, .int y, .int z] P A g (fun v g' => ((isN σ x = false ∧ v = some (.int (-1))) ∨ (∃ i, i < gK σ ∧ x = nI i ∧ ((¬ y = 0 ∧ ¬ y = nI 1 ∧ v = some (.int (-2))) ∨ (y = 0 ∧ v = some (.int (lsA (nAc (gN σ i)) z))) ∨ (y = nI 1 ∧ v = some (.int (lsA (nPa (gN σ i)) z)))))) ∧ g = g') := by
  obtain ⟨⟨lm, gm, l3, l4, l5, hO, hl3, hl4, hl5⟩, ⟨Z, hZ, hR⟩, hC⟩ := id hM
  have hK := hR.k16
  have hT := hR.t24
  have hL := hR.le
  refine px_intro (by decide +kernel) (Nat.le_of_ble_eq_true rfl) (fun K sz C R => ?_)
  show V K 0 0 P A g [(0, .ref (A m)), (1, .int x), (2, .int y), (3, .int z)] 0 []
  refine g_aload_n (pc := 0) C dX11_view_0 0 rfl ?_
  refine g_iload_n (pc := 1) C dX11_view_1 1 rfl ?_
  refine g_callV (pc := 2) C (As := [.int x]) (rest := []) (b := m) (c_X11_isNode A P g m x hO hZ hR) hO rfl rfl Y_X11_isNode u_929 N_X11_isNode ⟨by decide, by decide⟩ ⟨by decide, by decide⟩ (Nat.le_of_ble_eq_true rfl) rfl dX11_view_2 ?_
  rintro _ _ _ _ ⟨rfl, rfl, rfl, rfl⟩
  show V K 0 0 P A g [(0, .ref (A m)), (1, .int x), (2, .int y), (3, .int z)] 5 [.int (b32 (isN σ x))]
  refine g_if_ne (pc := 5) C dX11_view_5 (tgt := 10) (by decide) (fun c_5 => ?_) (fun c_5 => ?_)
  ·
    have c_5 : (isN σ x) = true := b32_no c_5
    obtain ⟨i, hi, rfl⟩ := isN_ex hK c_5
    have hc5 := hR.ac5 hi
    have hc8 := hR.pa8 hi
    refine g_iload_n (pc := 10) C dX11_view_10 2 rfl ?_
    refine g_i2l (pc := 11) C dX11_view_11 ?_
    refine g_lconst (pc := 12) C dX11_view_12 (v := 0) rfl ?_
    refine g_lconst (pc := 13) C dX11_view_13 (v := 1) rfl ?_
    refine g_callS (pc := 14) C (As := [.long (y).toInt64, .long 0, .long 1]) (rest := []) (c_X11_in A P g (y).toInt64 0 1) rfl u_908 u_13 u_909 u_907 N_X11_in ⟨by decide, by decide⟩ ⟨by decide, by decide⟩ (Nat.le_of_ble_eq_true rfl) rfl dX11_view_14 ?_
    rintro _ _ _ _ ⟨rfl, rfl, rfl, rfl⟩
    rw [in_c (lo := nI 0) (hi := nI 1) (by decide) (by decide)]
    show V K 0 0 P A g [(0, .ref (A m)), (1, .int (nI i)), (2, .int y), (3, .int z)] 17 [.int (b32 (decide (nI 0 ≤ y ∧ y ≤ nI 1)))]
    refine g_if_ne (pc := 17) C dX11_view_17 (tgt := 23) (by decide) (fun c_17 => ?_) (fun c_17 => ?_)
    ·
      have c_17 : (decide (nI 0 ≤ y ∧ y ≤ nI 1)) = true := b32_no c_17
      have c_17 : (nI 0 ≤ y ∧ y ≤ nI 1) := of_decide_eq_true c_17
      obtain ⟨q, -, hq1, hq⟩ := rg_ex (lo := 0) (hi := 1) (by omega) (by omega) (i32_nlt c_17.1) (i32_nlt c_17.2)
      refine g_iload_n (pc := 23) C dX11_view_23 2 rfl ?_
      refine g_if_ne (pc := 24) C dX11_view_24 (tgt := 39) (by decide) (fun c_24 => ?_) (fun c_24 => ?_)
      ·
        have hy1 : y = nI 1 := by have : q ≠ 0 := fun z => c_24 (by rw [hq, z]; rfl); rw [hq, show q = 1 by omega]
        refine g_aload_n (pc := 39) C dX11_view_39 0 rfl ?_
        refine g_get (pc := 40) C (j := 0) hO rfl rfl (by decide) u_852 dX11_view_40 ?_
        refine g_bipush (pc := 43) C dX11_view_43 (v := nI 32) rfl ?_
        refine g_iload_n (pc := 45) C dX11_view_45 1 rfl ?_
        refine g_iadd (pc := 46) C dX11_view_46 (z := nI (32 + i)) (nI_add _ _) ?_
        refine g_iald (pc := 47) C hZ (nI_clamp (by omega)) (nI_in0 (n := 10511) (by omega) (by omega)) dX11_view_47 (x := nI (nPa (gN σ i)).length) (RZ.rPn hR (r := i) (by omega) (by omega)) ?_
        refine g_istore (pc := 48) C dX11_view_48 (by decide) (lv' := [(0, .ref (A m)), (1, .int (nI i)), (2, .int y), (3, .int z), (4, .int (nI (nPa (gN σ i)).length))]) [1, 2, 3, 4, 0] rfl ?_
        refine g_iload_n (pc := 50) C dX11_view_50 3 rfl ?_
        refine g_iconst (pc := 51) C dX11_view_51 (v := (-1)) rfl ?_
        refine g_icmp_ne (pc := 52) C dX11_view_52 (tgt := 58) (by decide) (fun c_52 => ?_) (fun c_52 => ?_)
        ·
          refine g_iload_n (pc := 58) C dX11_view_58 3 rfl ?_
          refine g_i2l (pc := 59) C dX11_view_59 ?_
          refine g_lconst (pc := 60) C dX11_view_60 (v := 0) rfl ?_
          refine g_iload (pc := 61) C dX11_view_61 4 rfl ?_
          refine g_iconst (pc := 63) C dX11_view_63 (v := nI 1) rfl ?_
          refine g_isub (pc := 64) C dX11_view_64 (z := nI (nPa (gN σ i)).length - nI 1) rfl ?_
          refine g_i2l (pc := 65) C dX11_view_65 ?_
          refine g_callS (pc := 66) C (As := [.long (z).toInt64, .long 0, .long (nI (nPa (gN σ i)).length - nI 1).toInt64]) (rest := []) (c_X11_in A P g (z).toInt64 0 (nI (nPa (gN σ i)).length - nI 1).toInt64) rfl u_908 u_13 u_909 u_907 N_X11_in ⟨by decide, by decide⟩ ⟨by decide, by decide⟩ (Nat.le_of_ble_eq_true rfl) rfl dX11_view_66 ?_
          rintro _ _ _ _ ⟨rfl, rfl, rfl, rfl⟩
          rw [in_K (n := (nPa (gN σ i)).length) (by omega)]
          show V K 0 0 P A g [(0, .ref (A m)), (1, .int (nI i)), (2, .int y), (3, .int z), (4, .int (nI (nPa (gN σ i)).length))] 69 [.int (b32 (decide (¬ z < 0 ∧ z < nI (nPa (gN σ i)).length)))]
          refine g_if_ne (pc := 69) C dX11_view_69 (tgt := 75) (by decide) (fun c_69 => ?_) (fun c_69 => ?_)
          ·
            have c_69 : (decide (¬ z < 0 ∧ z < nI (nPa (gN σ i)).length)) = true := b32_no c_69
            have c_69 : (¬ z < 0 ∧ z < nI (nPa (gN σ i)).length) := of_decide_eq_true c_69
            obtain ⟨k, hk, rfl⟩ := isK_ex (K := (nPa (gN σ i)).length) (by omega) (decide_eq_true c_69)
            refine g_iload_n (pc := 75) C dX11_view_75 2 rfl ?_
            refine g_if_ne (pc := 76) C dX11_view_76 (tgt := 95) (by decide) (fun c_76 => ?_) (fun c_76 => ?_)
            ·
              refine g_aload_n (pc := 95) C dX11_view_95 0 rfl ?_
              refine g_get (pc := 96) C (j := 0) hO rfl rfl (by decide) u_852 dX11_view_96 ?_
              refine g_sipush (pc := 99) C dX11_view_99 (v := nI 256) rfl ?_
              refine g_bipush (pc := 102) C dX11_view_102 (v := nI 8) rfl ?_
              refine g_iload_n (pc := 104) C dX11_view_104 1 rfl ?_
              refine g_imul (pc := 105) C dX11_view_105 (z := nI (8 * i)) (pk_mul _ _) ?_
              refine g_iadd (pc := 106) C dX11_view_106 (z := nI (256 + 8 * i)) (nI_add _ _) ?_
              refine g_iload_n (pc := 107) C dX11_view_107 3 rfl ?_
              refine g_iadd (pc := 108) C dX11_view_108 (z := nI (256 + 8 * i + k)) (nI_add _ _) ?_
              refine g_iald (pc := 109) C hZ (nI_clamp (by omega)) (nI_in0 (n := 10511) (by omega) (by omega)) dX11_view_109 (x := nI ((nPa (gN σ i)).getD k 0)) (RZ.rPa hR (r := i) (k := k) (by omega) (by omega) (by omega)) ?_
              exact g_iret (pc := 110) C R ⟨rfl, rfl, Or.inr ⟨i, hi, rfl, Or.inr (Or.inr ⟨hy1, by rw [lsA_in hk (by omega)]⟩)⟩, rfl⟩ (by decide) (by decide) dX11_view_110
            ·
              exact absurd c_76 c_24
          ·
            have c_69 : (decide (¬ z < 0 ∧ z < nI (nPa (gN σ i)).length)) = false := b32_yes c_69
            have c_69 : ¬ (¬ z < 0 ∧ z < nI (nPa (gN σ i)).length) := of_decide_eq_false c_69
            refine g_bipush (pc := 72) C dX11_view_72 (v := (-6)) rfl ?_
            exact g_iret (pc := 74) C R ⟨rfl, rfl, Or.inr ⟨i, hi, rfl, Or.inr (Or.inr ⟨hy1, by rw [lsA_out (by omega) c_52 (decide_eq_false c_69)]⟩)⟩, rfl⟩ (by decide) (by decide) dX11_view_74
        ·
          refine g_iload (pc := 55) C dX11_view_55 4 rfl ?_
          exact g_iret (pc := 57) C R ⟨rfl, rfl, Or.inr ⟨i, hi, rfl, Or.inr (Or.inr ⟨hy1, by rw [lsA_m1 c_52]⟩)⟩, rfl⟩ (by decide) (by decide) dX11_view_57
      ·
        refine g_aload_n (pc := 27) C dX11_view_27 0 rfl ?_
        refine g_get (pc := 28) C (j := 0) hO rfl rfl (by decide) u_852 dX11_view_28 ?_
        refine g_bipush (pc := 31) C dX11_view_31 (v := nI 16) rfl ?_
        refine g_iload_n (pc := 33) C dX11_view_33 1 rfl ?_
        refine g_iadd (pc := 34) C dX11_view_34 (z := nI (16 + i)) (nI_add _ _) ?_
        refine g_iald (pc := 35) C hZ (nI_clamp (by omega)) (nI_in0 (n := 10511) (by omega) (by omega)) dX11_view_35 (x := nI (nAc (gN σ i)).length) (RZ.rAn hR (r := i) (by omega) (by omega)) ?_
        refine g_goto (pc := 36) C dX11_view_36 (tgt := 48) (by decide) ?_
        refine g_istore (pc := 48) C dX11_view_48 (by decide) (lv' := [(0, .ref (A m)), (1, .int (nI i)), (2, .int y), (3, .int z), (4, .int (nI (nAc (gN σ i)).length))]) [1, 2, 3, 4, 0] rfl ?_
        refine g_iload_n (pc := 50) C dX11_view_50 3 rfl ?_
        refine g_iconst (pc := 51) C dX11_view_51 (v := (-1)) rfl ?_
        refine g_icmp_ne (pc := 52) C dX11_view_52 (tgt := 58) (by decide) (fun c_52 => ?_) (fun c_52 => ?_)
        ·
          refine g_iload_n (pc := 58) C dX11_view_58 3 rfl ?_
          refine g_i2l (pc := 59) C dX11_view_59 ?_
          refine g_lconst (pc := 60) C dX11_view_60 (v := 0) rfl ?_
          refine g_iload (pc := 61) C dX11_view_61 4 rfl ?_
          refine g_iconst (pc := 63) C dX11_view_63 (v := nI 1) rfl ?_
          refine g_isub (pc := 64) C dX11_view_64 (z := nI (nAc (gN σ i)).length - nI 1) rfl ?_
          refine g_i2l (pc := 65) C dX11_view_65 ?_
          refine g_callS (pc := 66) C (As := [.long (z).toInt64, .long 0, .long (nI (nAc (gN σ i)).length - nI 1).toInt64]) (rest := []) (c_X11_in A P g (z).toInt64 0 (nI (nAc (gN σ i)).length - nI 1).toInt64) rfl u_908 u_13 u_909 u_907 N_X11_in ⟨by decide, by decide⟩ ⟨by decide, by decide⟩ (Nat.le_of_ble_eq_true rfl) rfl dX11_view_66 ?_
          rintro _ _ _ _ ⟨rfl, rfl, rfl, rfl⟩
          rw [in_K (n := (nAc (gN σ i)).length) (by omega)]
          show V K 0 0 P A g [(0, .ref (A m)), (1, .int (nI i)), (2, .int y), (3, .int z), (4, .int (nI (nAc (gN σ i)).length))] 69 [.int (b32 (decide (¬ z < 0 ∧ z < nI (nAc (gN σ i)).length)))]
          refine g_if_ne (pc := 69) C dX11_view_69 (tgt := 75) (by decide) (fun c_69 => ?_) (fun c_69 => ?_)
          ·
            have c_69 : (decide (¬ z < 0 ∧ z < nI (nAc (gN σ i)).length)) = true := b32_no c_69
            have c_69 : (¬ z < 0 ∧ z < nI (nAc (gN σ i)).length) := of_decide_eq_true c_69
            obtain ⟨k, hk, rfl⟩ := isK_ex (K := (nAc (gN σ i)).length) (by omega) (decide_eq_true c_69)
            refine g_iload_n (pc := 75) C dX11_view_75 2 rfl ?_
            refine g_if_ne (pc := 76) C dX11_view_76 (tgt := 95) (by decide) (fun c_76 => ?_) (fun c_76 => ?_)
            ·
              exact absurd c_24 c_76
            ·
              refine g_aload_n (pc := 79) C dX11_view_79 0 rfl ?_
              refine g_get (pc := 80) C (j := 0) hO rfl rfl (by decide) u_852 dX11_view_80 ?_
              refine g_bipush (pc := 83) C dX11_view_83 (v := nI 96) rfl ?_
              refine g_iconst (pc := 85) C dX11_view_85 (v := nI 5) rfl ?_
              refine g_iload_n (pc := 86) C dX11_view_86 1 rfl ?_
              refine g_imul (pc := 87) C dX11_view_87 (z := nI (5 * i)) (pk_mul _ _) ?_
              refine g_iadd (pc := 88) C dX11_view_88 (z := nI (96 + 5 * i)) (nI_add _ _) ?_
              refine g_iload_n (pc := 89) C dX11_view_89 3 rfl ?_
              refine g_iadd (pc := 90) C dX11_view_90 (z := nI (96 + 5 * i + k)) (nI_add _ _) ?_
              refine g_iald (pc := 91) C hZ (nI_clamp (by omega)) (nI_in0 (n := 10511) (by omega) (by omega)) dX11_view_91 (x := nI ((nAc (gN σ i)).getD k 0)) (RZ.rAc hR (r := i) (k := k) (by omega) (by omega) (by omega)) ?_
              refine g_goto (pc := 92) C dX11_view_92 (tgt := 110) (by decide) ?_
              exact g_iret (pc := 110) C R ⟨rfl, rfl, Or.inr ⟨i, hi, rfl, Or.inr (Or.inl ⟨c_24, by rw [lsA_in hk (by omega)]⟩)⟩, rfl⟩ (by decide) (by decide) dX11_view_110
          ·
            have c_69 : (decide (¬ z < 0 ∧ z < nI (nAc (gN σ i)).length)) = false := b32_yes c_69
            have c_69 : ¬ (¬ z < 0 ∧ z < nI (nAc (gN σ i)).length) := of_decide_eq_false c_69
            refine g_bipush (pc := 72) C dX11_view_72 (v := (-6)) rfl ?_
            exact g_iret (pc := 74) C R ⟨rfl, rfl, Or.inr ⟨i, hi, rfl, Or.inr (Or.inl ⟨c_24, by rw [lsA_out (by omega) c_52 (decide_eq_false c_69)]⟩)⟩, rfl⟩ (by decide) (by decide) dX11_view_74
        ·
          refine g_iload (pc := 55) C dX11_view_55 4 rfl ?_
          exact g_iret (pc := 57) C R ⟨rfl, rfl, Or.inr ⟨i, hi, rfl, Or.inr (Or.inl ⟨c_24, by rw [lsA_m1 c_52]⟩)⟩, rfl⟩ (by decide) (by decide) dX11_view_57
    ·
      have c_17 : (decide (nI 0 ≤ y ∧ y ≤ nI 1)) = false := b32_yes c_17
      have c_17 : ¬ (nI 0 ≤ y ∧ y ≤ nI 1) := of_decide_eq_false c_17
      refine g_bipush (pc := 20) C dX11_view_20 (v := (-2)) rfl ?_
      exact g_iret (pc := 22) C R ⟨rfl, rfl, Or.inr ⟨i, hi, rfl, Or.inl ⟨fun z => c_17 (by rw [z]; decide), fun z => c_17 (by rw [z]; decide), rfl⟩⟩, rfl⟩ (by decide) (by decide) dX11_view_22
  ·
    have c_5 : (isN σ x) = false := b32_yes c_5
    refine g_iconst (pc := 8) C dX11_view_8 (v := (-1)) rfl ?_
    exact g_iret (pc := 9) C R ⟨rfl, rfl, Or.inl ⟨c_5, rfl⟩, rfl⟩ (by decide) (by decide) dX11_view_9
abbrev rm_X11_came : Room := { frames := 1, cells := 0, slots := 0, locals := 25 }
theorem Y_X11_came : pY yX11_came cX11_came 2 (Option.some Jvm.ClassFile.FieldType.int) := ⟨u_1111, u_1112, u_13, u_1113⟩
theorem N_X11_came : yX11_came.cls ≠ "java/lang/invoke/MethodHandle" ∧ yX11_came.cls ≠ "java/lang/invoke/VarHandle" ∧ (parseMethodDescriptor yX11_came.desc).map (fun d => d.parameters.length) = some 1 := by decide +kernel
set_option maxRecDepth 20000 in
set_option maxHeartbeats 4000000 in
theorem c_X11_came (A : Nat → Nat) (P : List Nat) (g : pM) (m : Nat) {cs : List Nat} {σ : Sg} {B : Nat} (x : Int32) (hS : SW B cs σ) (hM : MM A g m cs σ) : PM yX11_came cX11_came 2 (Option.some Jvm.ClassFile.FieldType.int) rm_X11_came [.ref (A m), .int x] P A g (fun v g' => (((x < 0 ∨ ¬ x ≤ nI 12) ∧ v = some (.int (-2))) ∨ (∃ k, k ≤ 12 ∧ x = nI k ∧ v = some (.int (gC σ k)))) ∧ g = g') := by
  obtain ⟨⟨lm, gm, l3, l4, l5, hO, hl3, hl4, hl5⟩, ⟨Z, hZ, hR⟩, hC⟩ := id hM
  have hK := hR.k16
  have hT := hR.t24
  have hL := hR.le
  refine px_intro (by decide +kernel) (Nat.le_of_ble_eq_true rfl) (fun K sz C R => ?_)
  show V K 0 0 P A g [(0, .ref (A m)), (1, .int x)] 0 []
  refine g_iload_n (pc := 0) C dX11_came_0 1 rfl ?_
  refine g_i2l (pc := 1) C dX11_came_1 ?_
  refine g_lconst (pc := 2) C dX11_came_2 (v := 0) rfl ?_
  refine g_ldc2 (pc := 3) C dX11_came_3 u_1114 ?_
  refine g_callS (pc := 6) C (As := [.long (x).toInt64, .long 0, .long 12]) (rest := []) (c_X11_in A P g (x).toInt64 0 12) rfl u_908 u_13 u_909 u_907 N_X11_in ⟨by decide, by decide⟩ ⟨by decide, by decide⟩ (Nat.le_of_ble_eq_true rfl) rfl dX11_came_6 ?_
  rintro _ _ _ _ ⟨rfl, rfl, rfl, rfl⟩
  rw [in_c (lo := nI 0) (hi := nI 12) (by decide) (by decide)]
  show V K 0 0 P A g [(0, .ref (A m)), (1, .int x)] 9 [.int (b32 (decide (nI 0 ≤ x ∧ x ≤ nI 12)))]
  refine g_if_eq (pc := 9) C dX11_came_9 (tgt := 25) (by decide) (fun c_9 => ?_) (fun c_9 => ?_)
  ·
    have c_9 : (decide (nI 0 ≤ x ∧ x ≤ nI 12)) = false := b32_yes c_9
    have c_9 : ¬ (nI 0 ≤ x ∧ x ≤ nI 12) := of_decide_eq_false c_9
    refine g_bipush (pc := 25) C dX11_came_25 (v := (-2)) rfl ?_
    exact g_iret (pc := 27) C R ⟨rfl, rfl, Or.inl ⟨nin2 c_9, rfl⟩, rfl⟩ (by decide) (by decide) dX11_came_27
  ·
    have c_9 : (decide (nI 0 ≤ x ∧ x ≤ nI 12)) = true := b32_no c_9
    have c_9 : (nI 0 ≤ x ∧ x ≤ nI 12) := of_decide_eq_true c_9
    obtain ⟨k, -, hk, rfl⟩ := rg_ex (lo := 0) (hi := 12) (by omega) (by omega) (i32_nlt c_9.1) (i32_nlt c_9.2)
    refine g_aload_n (pc := 12) C dX11_came_12 0 rfl ?_
    refine g_get (pc := 13) C (j := 0) hO rfl rfl (by decide) u_852 dX11_came_13 ?_
    refine g_sipush (pc := 16) C dX11_came_16 (v := nI 10492) rfl ?_
    refine g_iload_n (pc := 19) C dX11_came_19 1 rfl ?_
    refine g_iadd (pc := 20) C dX11_came_20 (z := nI (10492 + k)) (nI_add _ _) ?_
    refine g_iald (pc := 21) C hZ (nI_clamp (by omega)) (nI_in0 (n := 10511) (by omega) (by omega)) dX11_came_21 (x := gC σ k) (RZ.rC hR (k := k) (by omega) (by omega)) ?_
    refine g_goto (pc := 22) C dX11_came_22 (tgt := 27) (by decide) ?_
    exact g_iret (pc := 27) C R ⟨rfl, rfl, Or.inr ⟨k, hk, rfl, rfl⟩, rfl⟩ (by decide) (by decide) dX11_came_27
