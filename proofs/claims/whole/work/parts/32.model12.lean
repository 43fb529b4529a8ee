-- PART 32: the reference: counts, letters
theorem ct_ext {p : Nat → Bool} {n : Nat} : ∀ {m : Nat}, n ≤ m → (∀ j, n ≤ j → j < m → p j = false) → ct p m = ct p n
  | 0, h, _ => by
    have : n = 0 := by omega
    subst this
    rfl
  | m + 1, h, hp => by
    by_cases e : n = m + 1
    · subst e; rfl
    · rw [ct_n (hp m (by omega) (by omega))]
      exact ct_ext (by omega) (fun j h1 h2 => hp j h1 (by omega))
theorem ct_0 {p : Nat → Bool} {k : Nat} (h : p k = false) : nI (ct p k) + nI 0 = nI (ct p (k + 1)) := by
  rw [ct_n h]
  exact nI_add _ 0
theorem ct_1 {p : Nat → Bool} {k : Nat} (h : p k = true) : nI (ct p k) + nI 1 = nI (ct p (k + 1)) := by
  rw [ct_y h]
  exact nI_add _ 1
theorem ct_mi {f : Nat → Mi} {k : Nat} : nI (ct (fun t => (f t).isSome) k) + miO (f k) = nI (ct (fun t => (f t).isSome) (k + 1)) := by
  cases h : f k with
  | none => exact ct_0 (p := fun t => (f t).isSome) (by simp [h])
  | some p => exact ct_1 (p := fun t => (f t).isSome) (by simp [h])
theorem six {y : Int32} (h : ¬ (nI 0 ≤ y ∧ y ≤ nI 5)) : y < 0 ∨ nI 6 ≤ y := by
  rcases nin h with h | h
  · exact Or.inl h
  · refine Or.inr ?_
    rw [Int32.le_iff_toInt_le, nI_toInt (by omega)]
    rw [Int32.lt_iff_toInt_lt, nI_toInt (by omega)] at h
    omega
/-- even so far: nodes below r, and the first k links of node r -/
def evA (σ : Sg) (r : Nat) : Bool := (List.range r).all (fun i => !(lvd σ i && evnP σ i))
def evB (σ : Sg) (r k : Nat) : Bool := evA σ r && !(((nAc (gN σ r)).take k).any (fun q => lvd σ q && !(decide (r ∈ nAc (gN σ q)))))
theorem evB_0 {σ : Sg} {r : Nat} : evB σ r 0 = evA σ r := by simp [evB]
theorem evB_s {σ : Sg} {r k : Nat} (h : k < (nAc (gN σ r)).length) : evB σ r (k + 1) = (evB σ r k && !(lvd σ ((nAc (gN σ r)).getD k 0) && !(decide (r ∈ nAc (gN σ ((nAc (gN σ r)).getD k 0)))))) := by
  simp only [evB]
  rw [take_s h, List.any_append]
  simp only [List.any_cons, List.any_nil, Bool.or_false, Bool.not_or, Bool.and_assoc]
theorem evA_s {σ : Sg} {r : Nat} : evA σ (r + 1) = (evA σ r && !(lvd σ r && evnP σ r)) := by
  simp only [evA]
  rw [List.range_succ, List.all_append]
  simp
theorem evA_l {σ : Sg} {r k : Nat} (h : (nAc (gN σ r)).length ≤ k) (hl : 0 < k → lvd σ r = true) : evB σ r k = evA σ (r + 1) := by
  rw [evA_s]
  simp only [evB]
  rw [List.take_of_length_le h]
  by_cases h0 : lvd σ r = true
  · rw [h0, Bool.true_and]
    rfl
  · have hk : k = 0 := by
      rcases Nat.eq_zero_or_pos k with z | z
      · exact z
      · exact absurd (hl z) h0
    subst hk
    have hn : nAc (gN σ r) = [] := List.length_eq_zero_iff.mp (by omega)
    have h1 : lvd σ r = false := by cases e : lvd σ r; rfl; exact absurd e h0
    rw [h1, hn]
    rfl
theorem evA_d {σ : Sg} {r k : Nat} (h : lvd σ r = false) (hl : 0 < k → lvd σ r = true) : evB σ r k = evA σ (r + 1) := by
  have hk : k = 0 := by
    rcases Nat.eq_zero_or_pos k with z | z
    · exact z
    · rw [hl z] at h; cases h
  subst hk
  rw [evB_0, evA_s, h]
  simp
abbrev rm_X11_spread : Room := { frames := 2, cells := 0, slots := 0, locals := 46 }
theorem Y_X11_spread : pY yX11_spread cX11_spread 4 (Option.some Jvm.ClassFile.FieldType.int) := ⟨u_1116, u_1117, u_13, u_1118⟩
theorem N_X11_spread : yX11_spread.cls ≠ "java/lang/invoke/MethodHandle" ∧ yX11_spread.cls ≠ "java/lang/invoke/VarHandle" ∧ (parseMethodDescriptor yX11_spread.desc).map (fun d => d.parameters.length) = some 1 := by decide +kernel
set_option maxRecDepth 20000 in
set_option maxHeartbeats 4000000 in
theorem c_X11_spread (A : Nat → Nat) (P : List Nat) (g : pM) (m : Nat) {cs : List Nat} {σ : Sg} {B : Nat} (x : Int32) (hS : SW B cs σ) (hM : MM A g m cs σ) : PM yX11_spread cX11_spread 4 (Option.some Jvm.ClassFile.FieldType.int) rm_X11_spread [.ref (A m), .int x] P A g (fun v g' => v = some (.int (spA σ x)) ∧ g = g') := by
  obtain ⟨⟨lm, gm, l3, l4, l5, hO, hl3, hl4, hl5⟩, ⟨Z, hZ, hR⟩, hC⟩ := id hM
  have hK := hR.k16
  have hT := hR.t24
  have hL := hR.le
  refine px_intro (by decide +kernel) (Nat.le_of_ble_eq_true rfl) (fun K sz C R => ?_)
  show V K 0 0 P A g [(0, .ref (A m)), (1, .int x)] 0 []
  refine g_aload_n (pc := 0) C dX11_spread_0 0 rfl ?_
  refine g_iload_n (pc := 1) C dX11_spread_1 1 rfl ?_
  refine g_callV (pc := 2) C (As := [.int x]) (rest := []) (b := m) (c_X11_isTale A P g m x hO hZ hR) hO rfl rfl Y_X11_isTale u_1086 N_X11_isTale ⟨by decide, by decide⟩ ⟨by decide, by decide⟩ (Nat.le_of_ble_eq_true rfl) rfl dX11_spread_2 ?_
  rintro _ _ _ _ ⟨rfl, rfl, rfl, rfl⟩
  show V K 0 0 P A g [(0, .ref (A m)), (1, .int x)] 5 [.int (b32 (isT σ x))]
  refine g_if_ne (pc := 5) C dX11_spread_5 (tgt := 10) (by decide) (fun c_5 => ?_) (fun c_5 => ?_)
  ·
    have c_5 : (isT σ x) = true := b32_no c_5
    obtain ⟨t, ht, rfl⟩ := isK_ex (K := gT σ) (by omega) c_5
    refine g_iconst (pc := 10) C dX11_spread_10 (v := nI 0) rfl ?_
    refine g_istore_n (pc := 11) C dX11_spread_11 (by decide) (lv' := [(0, .ref (A m)), (1, .int (nI t)), (2, .int (nI 0))]) [1, 2, 0] rfl ?_
    refine g_iconst (pc := 12) C dX11_spread_12 (v := nI 0) rfl ?_
    refine g_istore_n (pc := 13) C dX11_spread_13 (by decide) (lv' := [(0, .ref (A m)), (1, .int (nI t)), (2, .int (nI 0)), (3, .int (nI 0))]) [1, 2, 3, 0] rfl ?_
    have lp_14 : ∀ (fuel : Nat) (k : Nat) (hk : k ≤ gK σ), gK σ - k < fuel → V K 0 0 P A g [(0, .ref (A m)), (1, .int (nI t)), (2, .int (nI (ct (fun i => lvd σ i && (nHo (gN σ i) t).isSome) k))), (3, .int (nI k))] 14 [] := by
      intro fuel
      induction fuel with
      | zero => intro k hk hμ; exact absurd hμ (Nat.not_lt_zero _)
      | succ fuel ih_14 =>
        intro k hk hμ
        refine g_iload_n (pc := 14) C dX11_spread_14 3 rfl ?_
        refine g_aload_n (pc := 15) C dX11_spread_15 0 rfl ?_
        refine g_get (pc := 16) C (j := 0) hO rfl rfl (by decide) u_852 dX11_spread_16 ?_
        refine g_sipush (pc := 19) C dX11_spread_19 (v := nI 10505) rfl ?_
        refine g_iald (pc := 22) C hZ (nI_clamp (by omega)) (nI_in0 (n := 10511) (by omega) (by omega)) dX11_spread_22 (x := nI (gK σ)) (RZ.rK hR (by omega)) ?_
        refine g_icmp_ge (pc := 23) C dX11_spread_23 (tgt := 70) (by decide) (fun c_23 => ?_) (fun c_23 => ?_)
        ·
          have c_23 : (gK σ) ≤ k := (nI_leI (by omega) (by omega)).mp c_23
          refine g_iload_n (pc := 70) C dX11_spread_70 2 rfl ?_
          exact g_iret (pc := 71) C R ⟨rfl, rfl, by rw [spA_n hT ht, show k = gK σ by omega], rfl⟩ (by decide) (by decide) dX11_spread_71
        ·
          have c_23 : ¬ (gK σ) ≤ k := fun h => c_23 ((nI_leI (a := (gK σ)) (b := k) (by omega) (by omega)).mpr h)
          have hkK : k < gK σ := by omega
          refine g_iload_n (pc := 26) C dX11_spread_26 2 rfl ?_
          refine g_aload_n (pc := 27) C dX11_spread_27 0 rfl ?_
          refine g_get (pc := 28) C (j := 0) hO rfl rfl (by decide) u_852 dX11_spread_28 ?_
          refine g_iconst (pc := 31) C dX11_spread_31 (v := nI 0) rfl ?_
          refine g_iload_n (pc := 32) C dX11_spread_32 3 rfl ?_
          refine g_iadd (pc := 33) C dX11_spread_33 (z := nI (0 + k)) (nI_add _ _) ?_
          refine g_iald (pc := 34) C hZ (nI_clamp (by omega)) (nI_in0 (n := 10511) (by omega) (by omega)) dX11_spread_34 (x := b32 (lvd σ k)) (RZ.rLv hR (r := k) (by omega) (by omega)) ?_
          refine g_iconst (pc := 35) C dX11_spread_35 (v := nI 1) rfl ?_
          refine g_icmp_ne (pc := 36) C dX11_spread_36 (tgt := 61) (by decide) (fun c_36 => ?_) (fun c_36 => ?_)
          ·
            have c_36 : (lvd σ k) = false := b32_n1 c_36
            refine g_iconst (pc := 61) C dX11_spread_61 (v := nI 0) rfl ?_
            refine g_iadd (pc := 62) C dX11_spread_62 (z := nI (ct (fun i => lvd σ i && (nHo (gN σ i) t).isSome) (k + 1))) (ct_0 (p := (fun i => lvd σ i && (nHo (gN σ i) t).isSome)) (by rw [c_36]; rfl)) ?_
            refine g_istore_n (pc := 63) C dX11_spread_63 (by decide) (lv' := [(0, .ref (A m)), (1, .int (nI t)), (2, .int (nI (ct (fun i => lvd σ i && (nHo (gN σ i) t).isSome) (k + 1)))), (3, .int (nI k))]) [1, 2, 0, 3] rfl ?_
            refine g_iinc (pc := 64) C dX11_spread_64 (by decide) 3 rfl (v := nI (k + 1)) (nI_i1 _) (lv' := [(0, .ref (A m)), (1, .int (nI t)), (2, .int (nI (ct (fun i => lvd σ i && (nHo (gN σ i) t).isSome) (k + 1)))), (3, .int (nI (k + 1)))]) [1, 2, 3, 0] rfl ?_
            refine g_goto (pc := 67) C dX11_spread_67 (tgt := 14) (by decide) ?_
            exact ih_14 (k + 1) (by omega) (by omega)
          ·
            have c_36 : (lvd σ k) = true := b32_y1 c_36
            refine g_aload_n (pc := 39) C dX11_spread_39 0 rfl ?_
            refine g_get (pc := 40) C (j := 0) hO rfl rfl (by decide) u_852 dX11_spread_40 ?_
            refine g_sipush (pc := 43) C dX11_spread_43 (v := nI 384) rfl ?_
            refine g_bipush (pc := 46) C dX11_spread_46 (v := nI 24) rfl ?_
            refine g_iload_n (pc := 48) C dX11_spread_48 3 rfl ?_
            refine g_imul (pc := 49) C dX11_spread_49 (z := nI (24 * k)) (pk_mul _ _) ?_
            refine g_iadd (pc := 50) C dX11_spread_50 (z := nI (384 + 24 * k)) (nI_add _ _) ?_
            refine g_iload_n (pc := 51) C dX11_spread_51 1 rfl ?_
            refine g_iadd (pc := 52) C dX11_spread_52 (z := nI (384 + 24 * k + t)) (nI_add _ _) ?_
            refine g_iald (pc := 53) C hZ (nI_clamp (by omega)) (nI_in0 (n := 10511) (by omega) (by omega)) dX11_spread_53 (x := onv (nHo (gN σ k) t)) (RZ.rHo hR (r := k) (t := t) (by omega) (by omega) (by omega)) ?_
            refine g_if_lt (pc := 54) C dX11_spread_54 (tgt := 61) (by decide) (fun c_54 => ?_) (fun c_54 => ?_)
            ·
              refine g_iconst (pc := 61) C dX11_spread_61 (v := nI 0) rfl ?_
              refine g_iadd (pc := 62) C dX11_spread_62 (z := nI (ct (fun i => lvd σ i && (nHo (gN σ i) t).isSome) (k + 1))) (ct_0 (p := (fun i => lvd σ i && (nHo (gN σ i) t).isSome)) (by rw [c_36, (onv_ltb (fun q hq => by have := (hS.nw hkK).2.2.2.2.2.2.2.2.1 t q hq; have := hS.1; omega)).mp c_54]; rfl)) ?_
              refine g_istore_n (pc := 63) C dX11_spread_63 (by decide) (lv' := [(0, .ref (A m)), (1, .int (nI t)), (2, .int (nI (ct (fun i => lvd σ i && (nHo (gN σ i) t).isSome) (k + 1)))), (3, .int (nI k))]) [1, 2, 0, 3] rfl ?_
              refine g_iinc (pc := 64) C dX11_spread_64 (by decide) 3 rfl (v := nI (k + 1)) (nI_i1 _) (lv' := [(0, .ref (A m)), (1, .int (nI t)), (2, .int (nI (ct (fun i => lvd σ i && (nHo (gN σ i) t).isSome) (k + 1)))), (3, .int (nI (k + 1)))]) [1, 2, 3, 0] rfl ?_
              refine g_goto (pc := 67) C dX11_spread_67 (tgt := 14) (by decide) ?_
              exact ih_14 (k + 1) (by omega) (by omega)
            ·
              refine g_iconst (pc := 57) C dX11_spread_57 (v := nI 1) rfl ?_
              refine g_goto (pc := 58) C dX11_spread_58 (tgt := 62) (by decide) ?_
              refine g_iadd (pc := 62) C dX11_spread_62 (z := nI (ct (fun i => lvd σ i && (nHo (gN σ i) t).isSome) (k + 1))) (ct_1 (p := (fun i => lvd σ i && (nHo (gN σ i) t).isSome)) (by rw [c_36, Bool.true_and]; exact Option.isSome_iff_ne_none.mpr (fun z => c_54 ((onv_ltb (fun q hq => by have := (hS.nw hkK).2.2.2.2.2.2.2.2.1 t q hq; have := hS.1; omega)).mpr z)))) ?_
              refine g_istore_n (pc := 63) C dX11_spread_63 (by decide) (lv' := [(0, .ref (A m)), (1, .int (nI t)), (2, .int (nI (ct (fun i => lvd σ i && (nHo (gN σ i) t).isSome) (k + 1)))), (3, .int (nI k))]) [1, 2, 0, 3] rfl ?_
              refine g_iinc (pc := 64) C dX11_spread_64 (by decide) 3 rfl (v := nI (k + 1)) (nI_i1 _) (lv' := [(0, .ref (A m)), (1, .int (nI t)), (2, .int (nI (ct (fun i => lvd σ i && (nHo (gN σ i) t).isSome) (k + 1)))), (3, .int (nI (k + 1)))]) [1, 2, 3, 0] rfl ?_
              refine g_goto (pc := 67) C dX11_spread_67 (tgt := 14) (by decide) ?_
              exact ih_14 (k + 1) (by omega) (by omega)
    exact lp_14 (_ + 1) 0 (Nat.zero_le _) (Nat.lt_succ_self _)
  ·
    have c_5 : (isT σ x) = false := b32_yes c_5
    refine g_iconst (pc := 8) C dX11_spread_8 (v := (-1)) rfl ?_
    exact g_iret (pc := 9) C R ⟨rfl, rfl, by rw [spA_x c_5], rfl⟩ (by decide) (by decide) dX11_spread_9
abbrev rm_X11_told : Room := { frames := 0, cells := 0, slots := 0, locals := 0 }
theorem Y_X11_told : pY yX11_told cX11_told 4 (Option.some Jvm.ClassFile.FieldType.int) := ⟨u_1120, u_1121, u_13, u_1122⟩
theorem N_X11_told : yX11_told.cls ≠ "java/lang/invoke/MethodHandle" ∧ yX11_told.cls ≠ "java/lang/invoke/VarHandle" ∧ (parseMethodDescriptor yX11_told.desc).map (fun d => d.parameters.length) = some 1 := by decide +kernel
set_option maxRecDepth 20000 in
set_option maxHeartbeats 4000000 in
theorem c_X11_told (A : Nat → Nat) (P : List Nat) (g : pM) (m : Nat) {cs : List Nat} {σ : Sg} {B : Nat} (x : Int32) (hS : SW B cs σ) (hM : MM A g m cs σ) : PM yX11_told cX11_told 4 (Option.some Jvm.ClassFile.FieldType.int) rm_X11_told [.ref (A m), .int x] P A g (fun v g' => (((x < 0 ∨ nI 8 ≤ x) ∧ v = some (.int (-2))) ∨ (∃ k, k < 8 ∧ x = nI k ∧ v = some (.int (toA cs σ k)))) ∧ g = g') := by
  obtain ⟨⟨lm, gm, l3, l4, l5, hO, hl3, hl4, hl5⟩, ⟨Z, hZ, hR⟩, hC⟩ := id hM
  have hK := hR.k16
  have hT := hR.t24
  have hL := hR.le
  refine px_intro (by decide +kernel) (Nat.le_of_ble_eq_true rfl) (fun K sz C R => ?_)
  show V K 0 0 P A g [(0, .ref (A m)), (1, .int x)] 0 []
  refine g_iload_n (pc := 0) C dX11_told_0 1 rfl ?_
  rcases pk_ix x (n := 8) (by omega) with hsw | hsw | ⟨j, hj, rfl⟩
  ·
    refine g_tswO (pc := 1) C dX11_told_1 (Or.inl (by have e := Int32.lt_iff_toInt_lt.mp hsw; have e0 : (0 : Int32).toInt = 0 := (by decide); omega)) (tgt := 142) (by decide) ?_
    refine g_bipush (pc := 142) C dX11_told_142 (v := (-2)) rfl ?_
    exact g_iret (pc := 144) C R ⟨rfl, rfl, Or.inl ⟨Or.inl hsw, rfl⟩, rfl⟩ (by decide) (by decide) dX11_told_144
  ·
    refine g_tswO (pc := 1) C dX11_told_1 (Or.inr (by have e := Int32.le_iff_toInt_le.mp hsw; rw [nI_toInt (by omega)] at e; omega)) (tgt := 142) (by decide) ?_
    refine g_bipush (pc := 142) C dX11_told_142 (v := (-2)) rfl ?_
    exact g_iret (pc := 144) C R ⟨rfl, rfl, Or.inl ⟨Or.inr hsw, rfl⟩, rfl⟩ (by decide) (by decide) dX11_told_144
  ·
    have hjj : j = 0 ∨ j = 1 ∨ j = 2 ∨ j = 3 ∨ j = 4 ∨ j = 5 ∨ j = 6 ∨ j = 7 := by omega
    rcases hjj with rfl | rfl | rfl | rfl | rfl | rfl | rfl | rfl
    ·
      refine g_tswI (pc := 1) C dX11_told_1 (x := nI 0) (by decide) (by decide) (off := 47) rfl (tgt := 48) (by decide) ?_
      refine g_aload_n (pc := 48) C dX11_told_48 0 rfl ?_
      refine g_get (pc := 49) C (j := 0) hO rfl rfl (by decide) u_852 dX11_told_49 ?_
      refine g_sipush (pc := 52) C dX11_told_52 (v := nI 10505) rfl ?_
      refine g_iald (pc := 55) C hZ (nI_clamp (by omega)) (nI_in0 (n := 10511) (by omega) (by omega)) dX11_told_55 (x := nI (gK σ)) (RZ.rK hR (by omega)) ?_
      exact g_iret (pc := 56) C R ⟨rfl, rfl, Or.inr ⟨0, by omega, rfl, rfl⟩, rfl⟩ (by decide) (by decide) dX11_told_56
    ·
      refine g_tswI (pc := 1) C dX11_told_1 (x := nI 1) (by decide) (by decide) (off := 56) rfl (tgt := 57) (by decide) ?_
      refine g_iconst (pc := 57) C dX11_told_57 (v := nI 0) rfl ?_
      refine g_istore_n (pc := 58) C dX11_told_58 (by decide) (lv' := [(0, .ref (A m)), (1, .int (nI 1)), (2, .int (nI 0))]) [1, 2, 0] rfl ?_
      refine g_iconst (pc := 59) C dX11_told_59 (v := nI 0) rfl ?_
      refine g_istore_n (pc := 60) C dX11_told_60 (by decide) (lv' := [(0, .ref (A m)), (1, .int (nI 1)), (2, .int (nI 0)), (3, .int (nI 0))]) [1, 2, 3, 0] rfl ?_
      have lp_61 : ∀ (fuel : Nat) (q : Nat) (hq : q ≤ gK σ), gK σ - q < fuel → V K 0 0 P A g [(0, .ref (A m)), (1, .int (nI 1)), (2, .int (nI (ct (fun i => lvd σ i) q))), (3, .int (nI q))] 61 [] := by
        intro fuel
        induction fuel with
        | zero => intro q hq hμ; exact absurd hμ (Nat.not_lt_zero _)
        | succ fuel ih_61 =>
          intro q hq hμ
          refine g_iload_n (pc := 61) C dX11_told_61 3 rfl ?_
          refine g_aload_n (pc := 62) C dX11_told_62 0 rfl ?_
          refine g_get (pc := 63) C (j := 0) hO rfl rfl (by decide) u_852 dX11_told_63 ?_
          refine g_sipush (pc := 66) C dX11_told_66 (v := nI 10505) rfl ?_
          refine g_iald (pc := 69) C hZ (nI_clamp (by omega)) (nI_in0 (n := 10511) (by omega) (by omega)) dX11_told_69 (x := nI (gK σ)) (RZ.rK hR (by omega)) ?_
          refine g_icmp_ge (pc := 70) C dX11_told_70 (tgt := 90) (by decide) (fun c_70 => ?_) (fun c_70 => ?_)
          ·
            have c_70 : (gK σ) ≤ q := (nI_leI (by omega) (by omega)).mp c_70
            refine g_iload_n (pc := 90) C dX11_told_90 2 rfl ?_
            exact g_iret (pc := 91) C R ⟨rfl, rfl, Or.inr ⟨1, by omega, rfl, by rw [show q = gK σ by omega]; rfl⟩, rfl⟩ (by decide) (by decide) dX11_told_91
          ·
            have c_70 : ¬ (gK σ) ≤ q := fun h => c_70 ((nI_leI (a := (gK σ)) (b := q) (by omega) (by omega)).mpr h)
            refine g_iload_n (pc := 73) C dX11_told_73 2 rfl ?_
            refine g_aload_n (pc := 74) C dX11_told_74 0 rfl ?_
            refine g_get (pc := 75) C (j := 0) hO rfl rfl (by decide) u_852 dX11_told_75 ?_
            refine g_iconst (pc := 78) C dX11_told_78 (v := nI 0) rfl ?_
            refine g_iload_n (pc := 79) C dX11_told_79 3 rfl ?_
            refine g_iadd (pc := 80) C dX11_told_80 (z := nI (0 + q)) (nI_add _ _) ?_
            refine g_iald (pc := 81) C hZ (nI_clamp (by omega)) (nI_in0 (n := 10511) (by omega) (by omega)) dX11_told_81 (x := b32 (lvd σ q)) (RZ.rLv hR (r := q) (by omega) (by omega)) ?_
            refine g_iadd (pc := 82) C dX11_told_82 (z := nI (ct (fun i => lvd σ i) (q + 1))) (ct_b (p := (fun i => lvd σ i))) ?_
            refine g_istore_n (pc := 83) C dX11_told_83 (by decide) (lv' := [(0, .ref (A m)), (1, .int (nI 1)), (2, .int (nI (ct (fun i => lvd σ i) (q + 1)))), (3, .int (nI q))]) [1, 2, 0, 3] rfl ?_
            refine g_iinc (pc := 84) C dX11_told_84 (by decide) 3 rfl (v := nI (q + 1)) (nI_i1 _) (lv' := [(0, .ref (A m)), (1, .int (nI 1)), (2, .int (nI (ct (fun i => lvd σ i) (q + 1)))), (3, .int (nI (q + 1)))]) [1, 2, 3, 0] rfl ?_
            refine g_goto (pc := 87) C dX11_told_87 (tgt := 61) (by decide) ?_
            exact ih_61 (q + 1) (by omega) (by omega)
      exact lp_61 (_ + 1) 0 (Nat.zero_le _) (Nat.lt_succ_self _)
    ·
      refine g_tswI (pc := 1) C dX11_told_1 (x := nI 2) (by decide) (by decide) (off := 91) rfl (tgt := 92) (by decide) ?_
      refine g_aload_n (pc := 92) C dX11_told_92 0 rfl ?_
      refine g_get (pc := 93) C (j := 0) hO rfl rfl (by decide) u_852 dX11_told_93 ?_
      refine g_sipush (pc := 96) C dX11_told_96 (v := nI 10507) rfl ?_
      refine g_iald (pc := 99) C hZ (nI_clamp (by omega)) (nI_in0 (n := 10511) (by omega) (by omega)) dX11_told_99 (x := nI (gR σ).length) (RZ.rRn hR (by omega)) ?_
      exact g_iret (pc := 100) C R ⟨rfl, rfl, Or.inr ⟨2, by omega, rfl, rfl⟩, rfl⟩ (by decide) (by decide) dX11_told_100
    ·
      refine g_tswI (pc := 1) C dX11_told_1 (x := nI 3) (by decide) (by decide) (off := 100) rfl (tgt := 101) (by decide) ?_
      refine g_aload_n (pc := 101) C dX11_told_101 0 rfl ?_
      refine g_get (pc := 102) C (j := 0) hO rfl rfl (by decide) u_852 dX11_told_102 ?_
      refine g_sipush (pc := 105) C dX11_told_105 (v := nI 10508) rfl ?_
      refine g_iald (pc := 108) C hZ (nI_clamp (by omega)) (nI_in0 (n := 10511) (by omega) (by omega)) dX11_told_108 (x := gS σ) (RZ.rS hR (by omega)) ?_
      exact g_iret (pc := 109) C R ⟨rfl, rfl, Or.inr ⟨3, by omega, rfl, rfl⟩, rfl⟩ (by decide) (by decide) dX11_told_109
    ·
      refine g_tswI (pc := 1) C dX11_told_1 (x := nI 4) (by decide) (by decide) (off := 109) rfl (tgt := 110) (by decide) ?_
      refine g_aload_n (pc := 110) C dX11_told_110 0 rfl ?_
      refine g_get (pc := 111) C (j := 0) hO rfl rfl (by decide) u_852 dX11_told_111 ?_
      refine g_sipush (pc := 114) C dX11_told_114 (v := nI 10506) rfl ?_
      refine g_iald (pc := 117) C hZ (nI_clamp (by omega)) (nI_in0 (n := 10511) (by omega) (by omega)) dX11_told_117 (x := nI (gT σ)) (RZ.rT hR (by omega)) ?_
      exact g_iret (pc := 118) C R ⟨rfl, rfl, Or.inr ⟨4, by omega, rfl, rfl⟩, rfl⟩ (by decide) (by decide) dX11_told_118
    ·
      refine g_tswI (pc := 1) C dX11_told_1 (x := nI 5) (by decide) (by decide) (off := 118) rfl (tgt := 119) (by decide) ?_
      refine g_aload_n (pc := 119) C dX11_told_119 0 rfl ?_
      refine g_get (pc := 120) C (j := 0) hO rfl rfl (by decide) u_852 dX11_told_120 ?_
      refine g_sipush (pc := 123) C dX11_told_123 (v := nI 10509) rfl ?_
      refine g_iald (pc := 126) C hZ (nI_clamp (by omega)) (nI_in0 (n := 10511) (by omega) (by omega)) dX11_told_126 (x := gTi σ) (RZ.rTi hR (by omega)) ?_
      exact g_iret (pc := 127) C R ⟨rfl, rfl, Or.inr ⟨5, by omega, rfl, rfl⟩, rfl⟩ (by decide) (by decide) dX11_told_127
    ·
      refine g_tswI (pc := 1) C dX11_told_1 (x := nI 6) (by decide) (by decide) (off := 127) rfl (tgt := 128) (by decide) ?_
      refine g_aload_n (pc := 128) C dX11_told_128 0 rfl ?_
      refine g_get (pc := 129) C (j := 7) hO rfl rfl (by decide) u_859 dX11_told_129 ?_
      exact g_iret (pc := 132) C R ⟨rfl, rfl, Or.inr ⟨6, by omega, rfl, rfl⟩, rfl⟩ (by decide) (by decide) dX11_told_132
    ·
      refine g_tswI (pc := 1) C dX11_told_1 (x := nI 7) (by decide) (by decide) (off := 132) rfl (tgt := 133) (by decide) ?_
      refine g_aload_n (pc := 133) C dX11_told_133 0 rfl ?_
      refine g_get (pc := 134) C (j := 0) hO rfl rfl (by decide) u_852 dX11_told_134 ?_
      refine g_sipush (pc := 137) C dX11_told_137 (v := nI 10510) rfl ?_
      refine g_iald (pc := 140) C hZ (nI_clamp (by omega)) (nI_in0 (n := 10511) (by omega) (by omega)) dX11_told_140 (x := nI (gX σ)) (RZ.rX hR (by omega)) ?_
      exact g_iret (pc := 141) C R ⟨rfl, rfl, Or.inr ⟨7, by omega, rfl, rfl⟩, rfl⟩ (by decide) (by decide) dX11_told_141
abbrev rm_X11_letter : Room := { frames := 1, cells := 0, slots := 0, locals := 25 }
theorem Y_X11_letter : pY yX11_letter cX11_letter 3 (Option.some Jvm.ClassFile.FieldType.int) := ⟨u_1099, u_1100, u_13, u_1101⟩
theorem N_X11_letter : yX11_letter.cls ≠ "java/lang/invoke/MethodHandle" ∧ yX11_letter.cls ≠ "java/lang/invoke/VarHandle" ∧ (parseMethodDescriptor yX11_letter.desc).map (fun d => d.parameters.length) = some 2 := by decide +kernel
set_option maxRecDepth 20000 in
set_option maxHeartbeats 4000000 in
theorem c_X11_letter (A : Nat → Nat) (P : List Nat) (g : pM) (m : Nat) {cs : List Nat} {σ : Sg} {B : Nat} (x y : Int32) (hS : SW B cs σ) (hM : MM A g m cs σ) : PM yX11_letter cX11_letter 3 (Option.some Jvm.ClassFile.FieldType.int) rm_X11_letter [.ref (A m), .int x, .int y] P A g (fun v g' => ((decide (¬ x < 0 ∧ x < nI (gR σ).length) = false ∧ v = some (.int (-1))) ∨ (∃ i t, (gR σ)[i]? = some t ∧ x = nI i ∧ (((y < 0 ∨ nI 6 ≤ y) ∧ ((¬ nI 10 ≤ y ∧ v = some (.int (-2))) ∨ (nI 10 ≤ y ∧ v = some (.int (nlAt (t.2.2.2.2.2.map nI) (y - nI 10)))))) ∨ (∃ k, k < 6 ∧ y = nI k ∧ v = some (.int (leK t k)))))) ∧ g = g') := by
  obtain ⟨⟨lm, gm, l3, l4, l5, hO, hl3, hl4, hl5⟩, ⟨Z, hZ, hR⟩, hC⟩ := id hM
  have hK := hR.k16
  have hT := hR.t24
  have hL := hR.le
  refine px_intro (by decide +kernel) (Nat.le_of_ble_eq_true rfl) (fun K sz C R => ?_)
  show V K 0 0 P A g [(0, .ref (A m)), (1, .int x), (2, .int y)] 0 []
  refine g_iload_n (pc := 0) C dX11_letter_0 1 rfl ?_
  refine g_i2l (pc := 1) C dX11_letter_1 ?_
  refine g_lconst (pc := 2) C dX11_letter_2 (v := 0) rfl ?_
  refine g_aload_n (pc := 3) C dX11_letter_3 0 rfl ?_
  refine g_get (pc := 4) C (j := 0) hO rfl rfl (by decide) u_852 dX11_letter_4 ?_
  refine g_sipush (pc := 7) C dX11_letter_7 (v := nI 10507) rfl ?_
  refine g_iald (pc := 10) C hZ (nI_clamp (by omega)) (nI_in0 (n := 10511) (by omega) (by omega)) dX11_letter_10 (x := nI (gR σ).length) (RZ.rRn hR (by omega)) ?_
  refine g_iconst (pc := 11) C dX11_letter_11 (v := nI 1) rfl ?_
  refine g_isub (pc := 12) C dX11_letter_12 (z := nI (gR σ).length - nI 1) rfl ?_
  refine g_i2l (pc := 13) C dX11_letter_13 ?_
  refine g_callS (pc := 14) C (As := [.long (x).toInt64, .long 0, .long (nI (gR σ).length - nI 1).toInt64]) (rest := []) (c_X11_in A P g (x).toInt64 0 (nI (gR σ).length - nI 1).toInt64) rfl u_908 u_13 u_909 u_907 N_X11_in ⟨by decide, by decide⟩ ⟨by decide, by decide⟩ (Nat.le_of_ble_eq_true rfl) rfl dX11_letter_14 ?_
  rintro _ _ _ _ ⟨rfl, rfl, rfl, rfl⟩
  rw [in_K (n := (gR σ).length) (by omega)]
  show V K 0 0 P A g [(0, .ref (A m)), (1, .int x), (2, .int y)] 17 [.int (b32 (decide (¬ x < 0 ∧ x < nI (gR σ).length)))]
  refine g_if_ne (pc := 17) C dX11_letter_17 (tgt := 22) (by decide) (fun c_17 => ?_) (fun c_17 => ?_)
  ·
    have c_17 : (decide (¬ x < 0 ∧ x < nI (gR σ).length)) = true := b32_no c_17
    have c_17 : (¬ x < 0 ∧ x < nI (gR σ).length) := of_decide_eq_true c_17
    obtain ⟨i, hi, rfl⟩ := isK_ex (K := (gR σ).length) (by omega) (decide_eq_true c_17)
    obtain ⟨u, hu⟩ : ∃ u, (gR σ)[i]? = some u := ⟨_, List.getElem?_eq_getElem hi⟩
    have hl5u := hR.l5 hu
    refine g_iload_n (pc := 22) C dX11_letter_22 2 rfl ?_
    refine g_i2l (pc := 23) C dX11_letter_23 ?_
    refine g_lconst (pc := 24) C dX11_letter_24 (v := 0) rfl ?_
    refine g_ldc2 (pc := 25) C dX11_letter_25 u_906 ?_
    refine g_callS (pc := 28) C (As := [.long (y).toInt64, .long 0, .long 5]) (rest := []) (c_X11_in A P g (y).toInt64 0 5) rfl u_908 u_13 u_909 u_907 N_X11_in ⟨by decide, by decide⟩ ⟨by decide, by decide⟩ (Nat.le_of_ble_eq_true rfl) rfl dX11_letter_28 ?_
    rintro _ _ _ _ ⟨rfl, rfl, rfl, rfl⟩
    rw [in_c (lo := nI 0) (hi := nI 5) (by decide) (by decide)]
    show V K 0 0 P A g [(0, .ref (A m)), (1, .int (nI i)), (2, .int y)] 31 [.int (b32 (decide (nI 0 ≤ y ∧ y ≤ nI 5)))]
    refine g_if_eq (pc := 31) C dX11_letter_31 (tgt := 46) (by decide) (fun c_31 => ?_) (fun c_31 => ?_)
    ·
      have c_31 : (decide (nI 0 ≤ y ∧ y ≤ nI 5)) = false := b32_yes c_31
      have c_31 : ¬ (nI 0 ≤ y ∧ y ≤ nI 5) := of_decide_eq_false c_31
      refine g_iload_n (pc := 46) C dX11_letter_46 2 rfl ?_
      refine g_bipush (pc := 47) C dX11_letter_47 (v := nI 10) rfl ?_
      refine g_icmp_ge (pc := 49) C dX11_letter_49 (tgt := 55) (by decide) (fun c_49 => ?_) (fun c_49 => ?_)
      ·
        obtain ⟨v, hv, rfl⟩ := ps_ex (x := y) (fun z => i32_nlt c_49 (by rw [Int32.lt_iff_toInt_lt] at z ⊢; rw [nI_toInt (by omega)]; have e0 : (0 : Int32).toInt = 0 := (by decide); omega))
        have hv10 : 10 ≤ v := (nI_leI (by omega) (by omega)).mp c_49
        refine g_iload_n (pc := 55) C dX11_letter_55 2 rfl ?_
        refine g_bipush (pc := 56) C dX11_letter_56 (v := nI 10) rfl ?_
        refine g_isub (pc := 58) C dX11_letter_58 (z := nI (v - 10)) (pk_sub (a := v) (b := 10) hv10) ?_
        refine g_aload_n (pc := 59) C dX11_letter_59 0 rfl ?_
        refine g_get (pc := 60) C (j := 0) hO rfl rfl (by decide) u_852 dX11_letter_60 ?_
        refine g_aload_n (pc := 63) C dX11_letter_63 0 rfl ?_
        refine g_iload_n (pc := 64) C dX11_letter_64 1 rfl ?_
        refine g_iconst (pc := 65) C dX11_letter_65 (v := nI 5) rfl ?_
        refine g_callV (pc := 66) C (As := [.int (nI i), .int (nI 5)]) (rest := [.ref (A (m + 1)), .int (nI (v - 10))]) (b := m) (c_X11_ofLetter A P g m i 5) hO rfl rfl Y_X11_ofLetter u_945 N_X11_ofLetter ⟨by decide, by decide⟩ ⟨by decide, by decide⟩ (Nat.le_of_ble_eq_true rfl) rfl dX11_letter_66 ?_
        rintro _ _ _ _ ⟨rfl, rfl, rfl, rfl⟩
        show V K 0 0 P A g [(0, .ref (A m)), (1, .int (nI i)), (2, .int (nI v))] 69 [.int (nI (4992 + 11 * i + 5)), .ref (A (m + 1)), .int (nI (v - 10))]
        refine g_iald (pc := 69) C hZ (nI_clamp (by omega)) (nI_in0 (n := 10511) (by omega) (by omega)) dX11_letter_69 (x := nI u.2.2.2.2.2.length) (RZ.rL hR (i := i) 5 (by omega) hu (by omega)) ?_
        refine g_icmp_ge (pc := 70) C dX11_letter_70 (tgt := 93) (by decide) (fun c_70 => ?_) (fun c_70 => ?_)
        ·
          have c_70 : u.2.2.2.2.2.length ≤ (v - 10) := (nI_leI (by omega) (by omega)).mp c_70
          refine g_bipush (pc := 93) C dX11_letter_93 (v := (-6)) rfl ?_
          exact g_iret (pc := 95) C R ⟨rfl, rfl, Or.inr ⟨i, u, hu, rfl, Or.inl ⟨six c_31, Or.inr ⟨c_49, by rw [show nI v - nI 10 = nI (v - 10) from pk_sub (a := v) (b := 10) hv10, nlAt_out (by rw [List.length_map]; omega) (by rw [List.length_map]; exact (nI_leI (by omega) (by omega)).mpr c_70)]⟩⟩⟩, rfl⟩ (by decide) (by decide) dX11_letter_95
        ·
          have c_70 : ¬ u.2.2.2.2.2.length ≤ (v - 10) := fun h => c_70 ((nI_leI (a := u.2.2.2.2.2.length) (b := (v - 10)) (by omega) (by omega)).mpr h)
          refine g_aload_n (pc := 73) C dX11_letter_73 0 rfl ?_
          refine g_get (pc := 74) C (j := 0) hO rfl rfl (by decide) u_852 dX11_letter_74 ?_
          refine g_aload_n (pc := 77) C dX11_letter_77 0 rfl ?_
          refine g_iload_n (pc := 78) C dX11_letter_78 1 rfl ?_
          refine g_bipush (pc := 79) C dX11_letter_79 (v := nI 6) rfl ?_
          refine g_iload_n (pc := 81) C dX11_letter_81 2 rfl ?_
          refine g_iadd (pc := 82) C dX11_letter_82 (z := nI (6 + v)) (nI_add _ _) ?_
          refine g_bipush (pc := 83) C dX11_letter_83 (v := nI 10) rfl ?_
          refine g_isub (pc := 85) C dX11_letter_85 (z := nI (6 + v - 10)) (pk_sub (a := 6 + v) (b := 10) (by omega)) ?_
          refine g_callV (pc := 86) C (As := [.int (nI i), .int (nI (6 + v - 10))]) (rest := [.ref (A (m + 1))]) (b := m) (c_X11_ofLetter A P g m i (6 + v - 10)) hO rfl rfl Y_X11_ofLetter u_945 N_X11_ofLetter ⟨by decide, by decide⟩ ⟨by decide, by decide⟩ (Nat.le_of_ble_eq_true rfl) rfl dX11_letter_86 ?_
          rintro _ _ _ _ ⟨rfl, rfl, rfl, rfl⟩
          show V K 0 0 P A g [(0, .ref (A m)), (1, .int (nI i)), (2, .int (nI v))] 89 [.int (nI (4992 + 11 * i + (6 + v - 10))), .ref (A (m + 1))]
          refine g_iald (pc := 89) C hZ (nI_clamp (by omega)) (nI_in0 (n := 10511) (by omega) (by omega)) dX11_letter_89 (x := nI (u.2.2.2.2.2.getD (v - 10) 0)) (RZ.rLl hR (i := i) (k := v - 10) (by omega) hu (by omega)) ?_
          refine g_goto (pc := 90) C dX11_letter_90 (tgt := 95) (by decide) ?_
          exact g_iret (pc := 95) C R ⟨rfl, rfl, Or.inr ⟨i, u, hu, rfl, Or.inl ⟨six c_31, Or.inr ⟨c_49, by rw [show nI v - nI 10 = nI (v - 10) from pk_sub (a := v) (b := 10) hv10, map_nlAt (by omega) (by omega)]⟩⟩⟩, rfl⟩ (by decide) (by decide) dX11_letter_95
      ·
        refine g_bipush (pc := 52) C dX11_letter_52 (v := (-2)) rfl ?_
        exact g_iret (pc := 54) C R ⟨rfl, rfl, Or.inr ⟨i, u, hu, rfl, Or.inl ⟨six c_31, Or.inl ⟨c_49, rfl⟩⟩⟩, rfl⟩ (by decide) (by decide) dX11_letter_54
    ·
      have c_31 : (decide (nI 0 ≤ y ∧ y ≤ nI 5)) = true := b32_no c_31
      have c_31 : (nI 0 ≤ y ∧ y ≤ nI 5) := of_decide_eq_true c_31
      obtain ⟨k, -, hk, rfl⟩ := rg_ex (lo := 0) (hi := 5) (by omega) (by omega) (i32_nlt c_31.1) (i32_nlt c_31.2)
      refine g_aload_n (pc := 34) C dX11_letter_34 0 rfl ?_
      refine g_get (pc := 35) C (j := 0) hO rfl rfl (by decide) u_852 dX11_letter_35 ?_
      refine g_aload_n (pc := 38) C dX11_letter_38 0 rfl ?_
      refine g_iload_n (pc := 39) C dX11_letter_39 1 rfl ?_
      refine g_iload_n (pc := 40) C dX11_letter_40 2 rfl ?_
      refine g_callV (pc := 41) C (As := [.int (nI i), .int (nI k)]) (rest := [.ref (A (m + 1))]) (b := m) (c_X11_ofLetter A P g m i k) hO rfl rfl Y_X11_ofLetter u_945 N_X11_ofLetter ⟨by decide, by decide⟩ ⟨by decide, by decide⟩ (Nat.le_of_ble_eq_true rfl) rfl dX11_letter_41 ?_
      rintro _ _ _ _ ⟨rfl, rfl, rfl, rfl⟩
      show V K 0 0 P A g [(0, .ref (A m)), (1, .int (nI i)), (2, .int (nI k))] 44 [.int (nI (4992 + 11 * i + k)), .ref (A (m + 1))]
      refine g_iald (pc := 44) C hZ (nI_clamp (by omega)) (nI_in0 (n := 10511) (by omega) (by omega)) dX11_letter_44 (x := leK u k) (RZ.rL hR (i := i) k (by omega) hu (by omega)) ?_
      exact g_iret (pc := 45) C R ⟨rfl, rfl, Or.inr ⟨i, u, hu, rfl, Or.inr ⟨k, by omega, rfl, rfl⟩⟩, rfl⟩ (by decide) (by decide) dX11_letter_45
  ·
    have c_17 : (decide (¬ x < 0 ∧ x < nI (gR σ).length)) = false := b32_yes c_17
    have c_17 : ¬ (¬ x < 0 ∧ x < nI (gR σ).length) := of_decide_eq_false c_17
    refine g_iconst (pc := 20) C dX11_letter_20 (v := (-1)) rfl ?_
    exact g_iret (pc := 21) C R ⟨rfl, rfl, Or.inl ⟨decide_eq_false c_17, rfl⟩, rfl⟩ (by decide) (by decide) dX11_letter_21
abbrev rm_X11_about : Room := { frames := 2, cells := 0, slots := 0, locals := 46 }
theorem Y_X11_about : pY yX11_about cX11_about 6 (Option.some Jvm.ClassFile.FieldType.int) := ⟨u_1095, u_1096, u_13, u_1097⟩
theorem N_X11_about : yX11_about.cls ≠ "java/lang/invoke/MethodHandle" ∧ yX11_about.cls ≠ "java/lang/invoke/VarHandle" ∧ (parseMethodDescriptor yX11_about.desc).map (fun d => d.parameters.length) = some 2 := by decide +kernel
set_option maxRecDepth 20000 in
set_option maxHeartbeats 4000000 in
theorem c_X11_about (A : Nat → Nat) (P : List Nat) (g : pM) (m : Nat) {cs : List Nat} {σ : Sg} {B : Nat} (x y : Int32) (hS : SW B cs σ) (hM : MM A g m cs σ) : PM yX11_about cX11_about 6 (Option.some Jvm.ClassFile.FieldType.int) rm_X11_about [.ref (A m), .int x, .int y] P A g (fun v g' => ((isN σ x = false ∧ v = some (.int (-1))) ∨ (∃ i, i < gK σ ∧ x = nI i ∧ (((y < 0 ∨ nI 6 ≤ y) ∧ v = some (.int (-2))) ∨ (∃ k, k < 6 ∧ y = nI k ∧ v = some (.int (abA σ i k)))))) ∧ g = g') := by
  obtain ⟨⟨lm, gm, l3, l4, l5, hO, hl3, hl4, hl5⟩, ⟨Z, hZ, hR⟩, hC⟩ := id hM
  have hK := hR.k16
  have hT := hR.t24
  have hL := hR.le
  refine px_intro (by decide +kernel) (Nat.le_of_ble_eq_true rfl) (fun K sz C R => ?_)
  show V K 0 0 P A g [(0, .ref (A m)), (1, .int x), (2, .int y)] 0 []
  refine g_aload_n (pc := 0) C dX11_about_0 0 rfl ?_
  refine g_iload_n (pc := 1) C dX11_about_1 1 rfl ?_
  refine g_callV (pc := 2) C (As := [.int x]) (rest := []) (b := m) (c_X11_isNode A P g m x hO hZ hR) hO rfl rfl Y_X11_isNode u_929 N_X11_isNode ⟨by decide, by decide⟩ ⟨by decide, by decide⟩ (Nat.le_of_ble_eq_true rfl) rfl dX11_about_2 ?_
  rintro _ _ _ _ ⟨rfl, rfl, rfl, rfl⟩
  show V K 0 0 P A g [(0, .ref (A m)), (1, .int x), (2, .int y)] 5 [.int (b32 (isN σ x))]
  refine g_if_ne (pc := 5) C dX11_about_5 (tgt := 10) (by decide) (fun c_5 => ?_) (fun c_5 => ?_)
  ·
    have c_5 : (isN σ x) = true := b32_no c_5
    obtain ⟨i, hi, rfl⟩ := isN_ex hK c_5
    refine g_iconst (pc := 10) C dX11_about_10 (v := nI 0) rfl ?_
    refine g_istore_n (pc := 11) C dX11_about_11 (by decide) (lv' := [(0, .ref (A m)), (1, .int (nI i)), (2, .int y), (3, .int (nI 0))]) [1, 2, 3, 0] rfl ?_
    refine g_iconst (pc := 12) C dX11_about_12 (v := nI 0) rfl ?_
    refine g_istore (pc := 13) C dX11_about_13 (by decide) (lv' := [(0, .ref (A m)), (1, .int (nI i)), (2, .int y), (3, .int (nI 0)), (4, .int (nI 0))]) [1, 2, 3, 4, 0] rfl ?_
    refine g_iconst (pc := 15) C dX11_about_15 (v := nI 0) rfl ?_
    refine g_istore (pc := 16) C dX11_about_16 (by decide) (lv' := [(0, .ref (A m)), (1, .int (nI i)), (2, .int y), (3, .int (nI 0)), (4, .int (nI 0)), (5, .int (nI 0))]) [1, 2, 3, 4, 5, 0] rfl ?_
    have lp_18 : ∀ (fuel : Nat) (t : Nat) (ht : t ≤ gT σ), gT σ - t < fuel → V K 0 0 P A g [(0, .ref (A m)), (1, .int (nI i)), (2, .int y), (3, .int (nI (ct (fun t => (nHo (gN σ i) t).isSome) t))), (4, .int (nI (ct (fun t => (nMi (gN σ i) t).isSome) t))), (5, .int (nI t))] 18 [] := by
      intro fuel
      induction fuel with
      | zero => intro t ht hμ; exact absurd hμ (Nat.not_lt_zero _)
      | succ fuel ih_18 =>
        intro t ht hμ
        refine g_iload (pc := 18) C dX11_about_18 5 rfl ?_
        refine g_aload_n (pc := 20) C dX11_about_20 0 rfl ?_
        refine g_get (pc := 21) C (j := 0) hO rfl rfl (by decide) u_852 dX11_about_21 ?_
        refine g_sipush (pc := 24) C dX11_about_24 (v := nI 10506) rfl ?_
        refine g_iald (pc := 27) C hZ (nI_clamp (by omega)) (nI_in0 (n := 10511) (by omega) (by omega)) dX11_about_27 (x := nI (gT σ)) (RZ.rT hR (by omega)) ?_
        refine g_icmp_ge (pc := 28) C dX11_about_28 (tgt := 85) (by decide) (fun c_28 => ?_) (fun c_28 => ?_)
        ·
          have c_28 : (gT σ) ≤ t := (nI_leI (by omega) (by omega)).mp c_28
          refine g_iload_n (pc := 85) C dX11_about_85 2 rfl ?_
          rcases pk_ix y (n := 6) (by omega) with hsw | hsw | ⟨j, hj, rfl⟩
          ·
            refine g_tswO (pc := 86) C dX11_about_86 (Or.inl (by have e := Int32.lt_iff_toInt_lt.mp hsw; have e0 : (0 : Int32).toInt = 0 := (by decide); omega)) (tgt := 168) (by decide) ?_
            refine g_bipush (pc := 168) C dX11_about_168 (v := (-2)) rfl ?_
            exact g_iret (pc := 170) C R ⟨rfl, rfl, Or.inr ⟨i, hi, rfl, Or.inl ⟨Or.inl hsw, rfl⟩⟩, rfl⟩ (by decide) (by decide) dX11_about_170
          ·
            refine g_tswO (pc := 86) C dX11_about_86 (Or.inr (by have e := Int32.le_iff_toInt_le.mp hsw; rw [nI_toInt (by omega)] at e; omega)) (tgt := 168) (by decide) ?_
            refine g_bipush (pc := 168) C dX11_about_168 (v := (-2)) rfl ?_
            exact g_iret (pc := 170) C R ⟨rfl, rfl, Or.inr ⟨i, hi, rfl, Or.inl ⟨Or.inr hsw, rfl⟩⟩, rfl⟩ (by decide) (by decide) dX11_about_170
          ·
            have hjj : j = 0 ∨ j = 1 ∨ j = 2 ∨ j = 3 ∨ j = 4 ∨ j = 5 := by omega
            rcases hjj with rfl | rfl | rfl | rfl | rfl | rfl
            ·
              refine g_tswI (pc := 86) C dX11_about_86 (x := nI 0) (by decide) (by decide) (off := 38) rfl (tgt := 124) (by decide) ?_
              refine g_aload_n (pc := 124) C dX11_about_124 0 rfl ?_
              refine g_get (pc := 125) C (j := 0) hO rfl rfl (by decide) u_852 dX11_about_125 ?_
              refine g_iconst (pc := 128) C dX11_about_128 (v := nI 0) rfl ?_
              refine g_iload_n (pc := 129) C dX11_about_129 1 rfl ?_
              refine g_iadd (pc := 130) C dX11_about_130 (z := nI (0 + i)) (nI_add _ _) ?_
              refine g_iald (pc := 131) C hZ (nI_clamp (by omega)) (nI_in0 (n := 10511) (by omega) (by omega)) dX11_about_131 (x := b32 (lvd σ i)) (RZ.rLv hR (r := i) (by omega) (by omega)) ?_
              exact g_iret (pc := 132) C R ⟨rfl, rfl, Or.inr ⟨i, hi, rfl, Or.inr ⟨0, by omega, rfl, rfl⟩⟩, rfl⟩ (by decide) (by decide) dX11_about_132
            ·
              refine g_tswI (pc := 86) C dX11_about_86 (x := nI 1) (by decide) (by decide) (off := 47) rfl (tgt := 133) (by decide) ?_
              refine g_aload_n (pc := 133) C dX11_about_133 0 rfl ?_
              refine g_get (pc := 134) C (j := 0) hO rfl rfl (by decide) u_852 dX11_about_134 ?_
              refine g_bipush (pc := 137) C dX11_about_137 (v := nI 48) rfl ?_
              refine g_iload_n (pc := 139) C dX11_about_139 1 rfl ?_
              refine g_iadd (pc := 140) C dX11_about_140 (z := nI (48 + i)) (nI_add _ _) ?_
              refine g_iald (pc := 141) C hZ (nI_clamp (by omega)) (nI_in0 (n := 10511) (by omega) (by omega)) dX11_about_141 (x := onv (nAs (gN σ i))) (RZ.rAs hR (r := i) (by omega) (by omega)) ?_
              exact g_iret (pc := 142) C R ⟨rfl, rfl, Or.inr ⟨i, hi, rfl, Or.inr ⟨1, by omega, rfl, rfl⟩⟩, rfl⟩ (by decide) (by decide) dX11_about_142
            ·
              refine g_tswI (pc := 86) C dX11_about_86 (x := nI 2) (by decide) (by decide) (off := 57) rfl (tgt := 143) (by decide) ?_
              refine g_aload_n (pc := 143) C dX11_about_143 0 rfl ?_
              refine g_get (pc := 144) C (j := 0) hO rfl rfl (by decide) u_852 dX11_about_144 ?_
              refine g_bipush (pc := 147) C dX11_about_147 (v := nI 64) rfl ?_
              refine g_iload_n (pc := 149) C dX11_about_149 1 rfl ?_
              refine g_iadd (pc := 150) C dX11_about_150 (z := nI (64 + i)) (nI_add _ _) ?_
              refine g_iald (pc := 151) C hZ (nI_clamp (by omega)) (nI_in0 (n := 10511) (by omega) (by omega)) dX11_about_151 (x := nI (nAk (gN σ i))) (RZ.rAk hR (r := i) (by omega) (by omega)) ?_
              exact g_iret (pc := 152) C R ⟨rfl, rfl, Or.inr ⟨i, hi, rfl, Or.inr ⟨2, by omega, rfl, rfl⟩⟩, rfl⟩ (by decide) (by decide) dX11_about_152
            ·
              refine g_tswI (pc := 86) C dX11_about_86 (x := nI 3) (by decide) (by decide) (off := 67) rfl (tgt := 153) (by decide) ?_
              refine g_iload_n (pc := 153) C dX11_about_153 3 rfl ?_
              exact g_iret (pc := 154) C R ⟨rfl, rfl, Or.inr ⟨i, hi, rfl, Or.inr ⟨3, by omega, rfl, by rw [show abA σ i 3 = nI (ct (fun t => (nHo (gN σ i) t).isSome) 24) from rfl, ct_ext (m := 24) (n := t) (by omega) (fun j h1 h2 => by cases e : nHo (gN σ i) j with | none => rfl | some q => exact absurd ((hS.nw hi).2.2.2.2.2.2.2.2.1 j q e).2 (by omega))]⟩⟩, rfl⟩ (by decide) (by decide) dX11_about_154
            ·
              refine g_tswI (pc := 86) C dX11_about_86 (x := nI 4) (by decide) (by decide) (off := 69) rfl (tgt := 155) (by decide) ?_
              refine g_iload (pc := 155) C dX11_about_155 4 rfl ?_
              exact g_iret (pc := 157) C R ⟨rfl, rfl, Or.inr ⟨i, hi, rfl, Or.inr ⟨4, by omega, rfl, by rw [show abA σ i 4 = nI (ct (fun t => (nMi (gN σ i) t).isSome) 24) from rfl, ct_ext (m := 24) (n := t) (by omega) (fun j h1 h2 => by cases e : nMi (gN σ i) j with | none => rfl | some q => exact absurd ((hS.nw hi).2.2.2.2.2.2.2.2.2.1 j q.1 q.2 e).1 (by omega))]⟩⟩, rfl⟩ (by decide) (by decide) dX11_about_157
            ·
              refine g_tswI (pc := 86) C dX11_about_86 (x := nI 5) (by decide) (by decide) (off := 72) rfl (tgt := 158) (by decide) ?_
              refine g_aload_n (pc := 158) C dX11_about_158 0 rfl ?_
              refine g_get (pc := 159) C (j := 0) hO rfl rfl (by decide) u_852 dX11_about_159 ?_
              refine g_bipush (pc := 162) C dX11_about_162 (v := nI 80) rfl ?_
              refine g_iload_n (pc := 164) C dX11_about_164 1 rfl ?_
              refine g_iadd (pc := 165) C dX11_about_165 (z := nI (80 + i)) (nI_add _ _) ?_
              refine g_iald (pc := 166) C hZ (nI_clamp (by omega)) (nI_in0 (n := 10511) (by omega) (by omega)) dX11_about_166 (x := nGo (gN σ i)) (RZ.rGo hR (r := i) (by omega) (by omega)) ?_
              exact g_iret (pc := 167) C R ⟨rfl, rfl, Or.inr ⟨i, hi, rfl, Or.inr ⟨5, by omega, rfl, rfl⟩⟩, rfl⟩ (by decide) (by decide) dX11_about_167
        ·
          have c_28 : ¬ (gT σ) ≤ t := fun h => c_28 ((nI_leI (a := (gT σ)) (b := t) (by omega) (by omega)).mpr h)
          refine g_iload_n (pc := 31) C dX11_about_31 3 rfl ?_
          refine g_aload_n (pc := 32) C dX11_about_32 0 rfl ?_
          refine g_get (pc := 33) C (j := 0) hO rfl rfl (by decide) u_852 dX11_about_33 ?_
          refine g_sipush (pc := 36) C dX11_about_36 (v := nI 384) rfl ?_
          refine g_bipush (pc := 39) C dX11_about_39 (v := nI 24) rfl ?_
          refine g_iload_n (pc := 41) C dX11_about_41 1 rfl ?_
          refine g_imul (pc := 42) C dX11_about_42 (z := nI (24 * i)) (pk_mul _ _) ?_
          refine g_iadd (pc := 43) C dX11_about_43 (z := nI (384 + 24 * i)) (nI_add _ _) ?_
          refine g_iload (pc := 44) C dX11_about_44 5 rfl ?_
          refine g_iadd (pc := 46) C dX11_about_46 (z := nI (384 + 24 * i + t)) (nI_add _ _) ?_
          refine g_iald (pc := 47) C hZ (nI_clamp (by omega)) (nI_in0 (n := 10511) (by omega) (by omega)) dX11_about_47 (x := onv (nHo (gN σ i) t)) (RZ.rHo hR (r := i) (t := t) (by omega) (by omega) (by omega)) ?_
          refine g_if_lt (pc := 48) C dX11_about_48 (tgt := 55) (by decide) (fun c_48 => ?_) (fun c_48 => ?_)
          ·
            refine g_iconst (pc := 55) C dX11_about_55 (v := nI 0) rfl ?_
            refine g_iadd (pc := 56) C dX11_about_56 (z := nI (ct (fun t => (nHo (gN σ i) t).isSome) (t + 1))) (ct_0 (p := (fun t => (nHo (gN σ i) t).isSome)) (by show (nHo (gN σ i) t).isSome = false; rw [(onv_ltb (fun q hq => by have := (hS.nw hi).2.2.2.2.2.2.2.2.1 t q hq; have := hS.1; omega)).mp c_48]; rfl)) ?_
            refine g_istore_n (pc := 57) C dX11_about_57 (by decide) (lv' := [(0, .ref (A m)), (1, .int (nI i)), (2, .int y), (3, .int (nI (ct (fun t => (nHo (gN σ i) t).isSome) (t + 1)))), (4, .int (nI (ct (fun t => (nMi (gN σ i) t).isSome) t))), (5, .int (nI t))]) [1, 2, 3, 0, 4, 5] rfl ?_
            refine g_iload (pc := 58) C dX11_about_58 4 rfl ?_
            refine g_aload_n (pc := 60) C dX11_about_60 0 rfl ?_
            refine g_get (pc := 61) C (j := 0) hO rfl rfl (by decide) u_852 dX11_about_61 ?_
            refine g_sipush (pc := 64) C dX11_about_64 (v := nI 768) rfl ?_
            refine g_bipush (pc := 67) C dX11_about_67 (v := nI 24) rfl ?_
            refine g_iload_n (pc := 69) C dX11_about_69 1 rfl ?_
            refine g_imul (pc := 70) C dX11_about_70 (z := nI (24 * i)) (pk_mul _ _) ?_
            refine g_iadd (pc := 71) C dX11_about_71 (z := nI (768 + 24 * i)) (nI_add _ _) ?_
            refine g_iload (pc := 72) C dX11_about_72 5 rfl ?_
            refine g_iadd (pc := 74) C dX11_about_74 (z := nI (768 + 24 * i + t)) (nI_add _ _) ?_
            refine g_iald (pc := 75) C hZ (nI_clamp (by omega)) (nI_in0 (n := 10511) (by omega) (by omega)) dX11_about_75 (x := miO (nMi (gN σ i) t)) (RZ.rMi hR (r := i) (t := t) (by omega) (by omega) (by omega)) ?_
            refine g_iadd (pc := 76) C dX11_about_76 (z := nI (ct (fun t => (nMi (gN σ i) t).isSome) (t + 1))) (ct_mi (f := fun t => nMi (gN σ i) t)) ?_
            refine g_istore (pc := 77) C dX11_about_77 (by decide) (lv' := [(0, .ref (A m)), (1, .int (nI i)), (2, .int y), (3, .int (nI (ct (fun t => (nHo (gN σ i) t).isSome) (t + 1)))), (4, .int (nI (ct (fun t => (nMi (gN σ i) t).isSome) (t + 1)))), (5, .int (nI t))]) [1, 2, 3, 4, 0, 5] rfl ?_
            refine g_iinc (pc := 79) C dX11_about_79 (by decide) 5 rfl (v := nI (t + 1)) (nI_i1 _) (lv' := [(0, .ref (A m)), (1, .int (nI i)), (2, .int y), (3, .int (nI (ct (fun t => (nHo (gN σ i) t).isSome) (t + 1)))), (4, .int (nI (ct (fun t => (nMi (gN σ i) t).isSome) (t + 1)))), (5, .int (nI (t + 1)))]) [1, 2, 3, 4, 5, 0] rfl ?_
            refine g_goto (pc := 82) C dX11_about_82 (tgt := 18) (by decide) ?_
            exact ih_18 (t + 1) (by omega) (by omega)
          ·
            refine g_iconst (pc := 51) C dX11_about_51 (v := nI 1) rfl ?_
            refine g_goto (pc := 52) C dX11_about_52 (tgt := 56) (by decide) ?_
            refine g_iadd (pc := 56) C dX11_about_56 (z := nI (ct (fun t => (nHo (gN σ i) t).isSome) (t + 1))) (ct_1 (p := (fun t => (nHo (gN σ i) t).isSome)) (Option.isSome_iff_ne_none.mpr (fun z => c_48 ((onv_ltb (fun q hq => by have := (hS.nw hi).2.2.2.2.2.2.2.2.1 t q hq; have := hS.1; omega)).mpr z)))) ?_
            refine g_istore_n (pc := 57) C dX11_about_57 (by decide) (lv' := [(0, .ref (A m)), (1, .int (nI i)), (2, .int y), (3, .int (nI (ct (fun t => (nHo (gN σ i) t).isSome) (t + 1)))), (4, .int (nI (ct (fun t => (nMi (gN σ i) t).isSome) t))), (5, .int (nI t))]) [1, 2, 3, 0, 4, 5] rfl ?_
            refine g_iload (pc := 58) C dX11_about_58 4 rfl ?_
            refine g_aload_n (pc := 60) C dX11_about_60 0 rfl ?_
            refine g_get (pc := 61) C (j := 0) hO rfl rfl (by decide) u_852 dX11_about_61 ?_
            refine g_sipush (pc := 64) C dX11_about_64 (v := nI 768) rfl ?_
            refine g_bipush (pc := 67) C dX11_about_67 (v := nI 24) rfl ?_
            refine g_iload_n (pc := 69) C dX11_about_69 1 rfl ?_
            refine g_imul (pc := 70) C dX11_about_70 (z := nI (24 * i)) (pk_mul _ _) ?_
            refine g_iadd (pc := 71) C dX11_about_71 (z := nI (768 + 24 * i)) (nI_add _ _) ?_
            refine g_iload (pc := 72) C dX11_about_72 5 rfl ?_
            refine g_iadd (pc := 74) C dX11_about_74 (z := nI (768 + 24 * i + t)) (nI_add _ _) ?_
            refine g_iald (pc := 75) C hZ (nI_clamp (by omega)) (nI_in0 (n := 10511) (by omega) (by omega)) dX11_about_75 (x := miO (nMi (gN σ i) t)) (RZ.rMi hR (r := i) (t := t) (by omega) (by omega) (by omega)) ?_
            refine g_iadd (pc := 76) C dX11_about_76 (z := nI (ct (fun t => (nMi (gN σ i) t).isSome) (t + 1))) (ct_mi (f := fun t => nMi (gN σ i) t)) ?_
            refine g_istore (pc := 77) C dX11_about_77 (by decide) (lv' := [(0, .ref (A m)), (1, .int (nI i)), (2, .int y), (3, .int (nI (ct (fun t => (nHo (gN σ i) t).isSome) (t + 1)))), (4, .int (nI (ct (fun t => (nMi (gN σ i) t).isSome) (t + 1)))), (5, .int (nI t))]) [1, 2, 3, 4, 0, 5] rfl ?_
            refine g_iinc (pc := 79) C dX11_about_79 (by decide) 5 rfl (v := nI (t + 1)) (nI_i1 _) (lv' := [(0, .ref (A m)), (1, .int (nI i)), (2, .int y), (3, .int (nI (ct (fun t => (nHo (gN σ i) t).isSome) (t + 1)))), (4, .int (nI (ct (fun t => (nMi (gN σ i) t).isSome) (t + 1)))), (5, .int (nI (t + 1)))]) [1, 2, 3, 4, 5, 0] rfl ?_
            refine g_goto (pc := 82) C dX11_about_82 (tgt := 18) (by decide) ?_
            exact ih_18 (t + 1) (by omega) (by omega)
    exact lp_18 (_ + 1) 0 (Nat.zero_le _) (Nat.lt_succ_self _)
  ·
    have c_5 : (isN σ x) = false := b32_yes c_5
    refine g_iconst (pc := 8) C dX11_about_8 (v := (-1)) rfl ?_
    exact g_iret (pc := 9) C R ⟨rfl, rfl, Or.inl ⟨c_5, rfl⟩, rfl⟩ (by decide) (by decide) dX11_about_9
abbrev rm_X11_even : Room := { frames := 2, cells := 0, slots := 0, locals := 45 }
theorem Y_X11_even : pY yX11_even cX11_even 5 (Option.some Jvm.ClassFile.FieldType.int) := ⟨u_1103, u_1104, u_13, u_1105⟩
theorem N_X11_even : yX11_even.cls ≠ "java/lang/invoke/MethodHandle" ∧ yX11_even.cls ≠ "java/lang/invoke/VarHandle" ∧ (parseMethodDescriptor yX11_even.desc).map (fun d => d.parameters.length) = some 0 := by decide +kernel
set_option maxRecDepth 20000 in
set_option maxHeartbeats 4000000 in
theorem c_X11_even (A : Nat → Nat) (P : List Nat) (g : pM) (m : Nat) {cs : List Nat} {σ : Sg} {B : Nat}  (hS : SW B cs σ) (hM : MM A g m cs σ) : PM yX11_even cX11_even 5 (Option.some Jvm.ClassFile.FieldType.int) rm_X11_even [.ref (A m)] P A g (fun v g' => v = some (.int (b32 (evn σ))) ∧ g = g') := by
  obtain ⟨⟨lm, gm, l3, l4, l5, hO, hl3, hl4, hl5⟩, ⟨Z, hZ, hR⟩, hC⟩ := id hM
  have hK := hR.k16
  have hT := hR.t24
  have hL := hR.le
  refine px_intro (by decide +kernel) (Nat.le_of_ble_eq_true rfl) (fun K sz C R => ?_)
  show V K 0 0 P A g [(0, .ref (A m))] 0 []
  refine g_iconst (pc := 0) C dX11_even_0 (v := nI 1) rfl ?_
  refine g_istore_n (pc := 1) C dX11_even_1 (by decide) (lv' := [(0, .ref (A m)), (1, .int (nI 1))]) [1, 0] rfl ?_
  refine g_iconst (pc := 2) C dX11_even_2 (v := nI 0) rfl ?_
  refine g_istore_n (pc := 3) C dX11_even_3 (by decide) (lv' := [(0, .ref (A m)), (1, .int (nI 1)), (2, .int (nI 0))]) [1, 2, 0] rfl ?_
  have lp_4 : ∀ (fuel : Nat) (r : Nat) (hr : r ≤ gK σ), gK σ - r < fuel → V K 0 0 P A g [(0, .ref (A m)), (1, .int (b32 (evA σ r))), (2, .int (nI r))] 4 [] := by
    intro fuel
    induction fuel with
    | zero => intro r hr hμ; exact absurd hμ (Nat.not_lt_zero _)
    | succ fuel ih_4 =>
      intro r hr hμ
      refine g_iload_n (pc := 4) C dX11_even_4 2 rfl ?_
      refine g_aload_n (pc := 5) C dX11_even_5 0 rfl ?_
      refine g_get (pc := 6) C (j := 0) hO rfl rfl (by decide) u_852 dX11_even_6 ?_
      refine g_sipush (pc := 9) C dX11_even_9 (v := nI 10505) rfl ?_
      refine g_iald (pc := 12) C hZ (nI_clamp (by omega)) (nI_in0 (n := 10511) (by omega) (by omega)) dX11_even_12 (x := nI (gK σ)) (RZ.rK hR (by omega)) ?_
      refine g_icmp_ge (pc := 13) C dX11_even_13 (tgt := 102) (by decide) (fun c_13 => ?_) (fun c_13 => ?_)
      ·
        have c_13 : (gK σ) ≤ r := (nI_leI (by omega) (by omega)).mp c_13
        refine g_iload_n (pc := 102) C dX11_even_102 1 rfl ?_
        refine g_if_eq (pc := 103) C dX11_even_103 (tgt := 110) (by decide) (fun c_103 => ?_) (fun c_103 => ?_)
        ·
          have c_103 : (evA σ r) = false := b32_yes c_103
          refine g_iconst (pc := 110) C dX11_even_110 (v := nI 0) rfl ?_
          exact g_iret (pc := 111) C R ⟨rfl, rfl, by rw [show evn σ = evA σ (gK σ) from rfl, ← show r = gK σ by omega, c_103]; rfl, rfl⟩ (by decide) (by decide) dX11_even_111
        ·
          have c_103 : (evA σ r) = true := b32_no c_103
          refine g_iconst (pc := 106) C dX11_even_106 (v := nI 1) rfl ?_
          refine g_goto (pc := 107) C dX11_even_107 (tgt := 111) (by decide) ?_
          exact g_iret (pc := 111) C R ⟨rfl, rfl, by rw [show evn σ = evA σ (gK σ) from rfl, ← show r = gK σ by omega, c_103]; rfl, rfl⟩ (by decide) (by decide) dX11_even_111
      ·
        have c_13 : ¬ (gK σ) ≤ r := fun h => c_13 ((nI_leI (a := (gK σ)) (b := r) (by omega) (by omega)).mpr h)
        have hrK : r < gK σ := by omega
        have hc5 := hR.ac5 hrK
        have ha16 := hS.a16 hrK
        refine g_iconst (pc := 16) C dX11_even_16 (v := nI 0) rfl ?_
        refine g_istore_n (pc := 17) C dX11_even_17 (by decide) (lv' := [(0, .ref (A m)), (1, .int (b32 (evA σ r))), (2, .int (nI r)), (3, .int (nI 0))]) [1, 2, 3, 0] rfl ?_
        have lp_18 : ∀ (fuel : Nat) (k : Nat) (hk : k ≤ (nAc (gN σ r)).length) (hlv : 0 < k → lvd σ r = true), (nAc (gN σ r)).length - k < fuel → V K 0 0 P A g [(0, .ref (A m)), (1, .int (b32 (evB σ r k))), (2, .int (nI r)), (3, .int (nI k))] 18 [] := by
          intro fuel
          induction fuel with
          | zero => intro k hk hlv hμ; exact absurd hμ (Nat.not_lt_zero _)
          | succ fuel ih_18 =>
            intro k hk hlv hμ
            refine g_iload_n (pc := 18) C dX11_even_18 3 rfl ?_
            refine g_aload_n (pc := 19) C dX11_even_19 0 rfl ?_
            refine g_get (pc := 20) C (j := 0) hO rfl rfl (by decide) u_852 dX11_even_20 ?_
            refine g_bipush (pc := 23) C dX11_even_23 (v := nI 16) rfl ?_
            refine g_iload_n (pc := 25) C dX11_even_25 2 rfl ?_
            refine g_iadd (pc := 26) C dX11_even_26 (z := nI (16 + r)) (nI_add _ _) ?_
            refine g_iald (pc := 27) C hZ (nI_clamp (by omega)) (nI_in0 (n := 10511) (by omega) (by omega)) dX11_even_27 (x := nI (nAc (gN σ r)).length) (RZ.rAn hR (r := r) (by omega) (by omega)) ?_
            refine g_icmp_ge (pc := 28) C dX11_even_28 (tgt := 96) (by decide) (fun c_28 => ?_) (fun c_28 => ?_)
            ·
              have c_28 : (nAc (gN σ r)).length ≤ k := (nI_leI (by omega) (by omega)).mp c_28
              refine g_iinc (pc := 96) C dX11_even_96 (by decide) 2 rfl (v := nI (r + 1)) (nI_i1 _) (lv' := [(0, .ref (A m)), (1, .int (b32 (evB σ r k))), (2, .int (nI (r + 1))), (3, .int (nI k))]) [1, 2, 0, 3] rfl ?_
              refine g_goto (pc := 99) C dX11_even_99 (tgt := 4) (by decide) ?_
              refine g_sub [0, 1, 2] rfl ?_
              rw [evA_l (by omega) hlv]
              exact ih_4 (r + 1) (by omega) (by omega)
            ·
              have c_28 : ¬ (nAc (gN σ r)).length ≤ k := fun h => c_28 ((nI_leI (a := (nAc (gN σ r)).length) (b := k) (by omega) (by omega)).mpr h)
              refine g_aload_n (pc := 31) C dX11_even_31 0 rfl ?_
              refine g_get (pc := 32) C (j := 0) hO rfl rfl (by decide) u_852 dX11_even_32 ?_
              refine g_iconst (pc := 35) C dX11_even_35 (v := nI 0) rfl ?_
              refine g_iload_n (pc := 36) C dX11_even_36 2 rfl ?_
              refine g_iadd (pc := 37) C dX11_even_37 (z := nI (0 + r)) (nI_add _ _) ?_
              refine g_iald (pc := 38) C hZ (nI_clamp (by omega)) (nI_in0 (n := 10511) (by omega) (by omega)) dX11_even_38 (x := b32 (lvd σ r)) (RZ.rLv hR (r := r) (by omega) (by omega)) ?_
              refine g_iconst (pc := 39) C dX11_even_39 (v := nI 1) rfl ?_
              refine g_icmp_ne (pc := 40) C dX11_even_40 (tgt := 96) (by decide) (fun c_40 => ?_) (fun c_40 => ?_)
              ·
                have c_40 : (lvd σ r) = false := b32_n1 c_40
                refine g_iinc (pc := 96) C dX11_even_96 (by decide) 2 rfl (v := nI (r + 1)) (nI_i1 _) (lv' := [(0, .ref (A m)), (1, .int (b32 (evB σ r k))), (2, .int (nI (r + 1))), (3, .int (nI k))]) [1, 2, 0, 3] rfl ?_
                refine g_goto (pc := 99) C dX11_even_99 (tgt := 4) (by decide) ?_
                refine g_sub [0, 1, 2] rfl ?_
                rw [evA_d c_40 hlv]
                exact ih_4 (r + 1) (by omega) (by omega)
              ·
                have c_40 : (lvd σ r) = true := b32_y1 c_40
                have hlt : k < (nAc (gN σ r)).length := by omega
                have hv16 := getD_lt (i := k) ha16
                have hqK := (hS.nw hrK).2.1 _ (getD_mem hlt)
                refine g_aload_n (pc := 43) C dX11_even_43 0 rfl ?_
                refine g_get (pc := 44) C (j := 0) hO rfl rfl (by decide) u_852 dX11_even_44 ?_
                refine g_bipush (pc := 47) C dX11_even_47 (v := nI 96) rfl ?_
                refine g_iconst (pc := 49) C dX11_even_49 (v := nI 5) rfl ?_
                refine g_iload_n (pc := 50) C dX11_even_50 2 rfl ?_
                refine g_imul (pc := 51) C dX11_even_51 (z := nI (5 * r)) (pk_mul _ _) ?_
                refine g_iadd (pc := 52) C dX11_even_52 (z := nI (96 + 5 * r)) (nI_add _ _) ?_
                refine g_iload_n (pc := 53) C dX11_even_53 3 rfl ?_
                refine g_iadd (pc := 54) C dX11_even_54 (z := nI (96 + 5 * r + k)) (nI_add _ _) ?_
                refine g_iald (pc := 55) C hZ (nI_clamp (by omega)) (nI_in0 (n := 10511) (by omega) (by omega)) dX11_even_55 (x := nI ((nAc (gN σ r)).getD k 0)) (RZ.rAc hR (r := r) (k := k) (by omega) (by omega) (by omega)) ?_
                refine g_istore (pc := 56) C dX11_even_56 (by decide) (lv' := [(0, .ref (A m)), (1, .int (b32 (evB σ r k))), (2, .int (nI r)), (3, .int (nI k)), (4, .int (nI ((nAc (gN σ r)).getD k 0)))]) [1, 2, 3, 4, 0] rfl ?_
                refine g_iload_n (pc := 58) C dX11_even_58 1 rfl ?_
                refine g_if_eq (pc := 59) C dX11_even_59 (tgt := 88) (by decide) (fun c_59 => ?_) (fun c_59 => ?_)
                ·
                  have c_59 : (evB σ r k) = false := b32_yes c_59
                  refine g_iconst (pc := 88) C dX11_even_88 (v := nI 0) rfl ?_
                  refine g_istore_n (pc := 89) C dX11_even_89 (by decide) (lv' := [(0, .ref (A m)), (1, .int (nI 0)), (2, .int (nI r)), (3, .int (nI k)), (4, .int (nI ((nAc (gN σ r)).getD k 0)))]) [1, 0, 2, 3, 4] rfl ?_
                  refine g_iinc (pc := 90) C dX11_even_90 (by decide) 3 rfl (v := nI (k + 1)) (nI_i1 _) (lv' := [(0, .ref (A m)), (1, .int (nI 0)), (2, .int (nI r)), (3, .int (nI (k + 1))), (4, .int (nI ((nAc (gN σ r)).getD k 0)))]) [1, 2, 3, 0, 4] rfl ?_
                  refine g_goto (pc := 93) C dX11_even_93 (tgt := 18) (by decide) ?_
                  refine g_sub [0, 1, 2, 3] rfl ?_
                  have hbk : (nI 0 : Int32) = b32 (evB σ r (k + 1)) := by rw [evB_s hlt, c_59]; rfl
                  rw [hbk]
                  exact ih_18 (k + 1) (by omega) (fun _ => c_40) (by omega)
                ·
                  have c_59 : (evB σ r k) = true := b32_no c_59
                  refine g_aload_n (pc := 62) C dX11_even_62 0 rfl ?_
                  refine g_get (pc := 63) C (j := 0) hO rfl rfl (by decide) u_852 dX11_even_63 ?_
                  refine g_iconst (pc := 66) C dX11_even_66 (v := nI 0) rfl ?_
                  refine g_iload (pc := 67) C dX11_even_67 4 rfl ?_
                  refine g_iadd (pc := 69) C dX11_even_69 (z := nI (0 + ((nAc (gN σ r)).getD k 0))) (nI_add _ _) ?_
                  refine g_iald (pc := 70) C hZ (nI_clamp (by omega)) (nI_in0 (n := 10511) (by omega) (by omega)) dX11_even_70 (x := b32 (lvd σ ((nAc (gN σ r)).getD k 0))) (RZ.rLv hR (r := ((nAc (gN σ r)).getD k 0)) (by omega) (by omega)) ?_
                  refine g_if_eq (pc := 71) C dX11_even_71 (tgt := 84) (by decide) (fun c_71 => ?_) (fun c_71 => ?_)
                  ·
                    have c_71 : (lvd σ ((nAc (gN σ r)).getD k 0)) = false := b32_yes c_71
                    refine g_iconst (pc := 84) C dX11_even_84 (v := nI 1) rfl ?_
                    refine g_goto (pc := 85) C dX11_even_85 (tgt := 89) (by decide) ?_
                    refine g_istore_n (pc := 89) C dX11_even_89 (by decide) (lv' := [(0, .ref (A m)), (1, .int (nI 1)), (2, .int (nI r)), (3, .int (nI k)), (4, .int (nI ((nAc (gN σ r)).getD k 0)))]) [1, 0, 2, 3, 4] rfl ?_
                    refine g_iinc (pc := 90) C dX11_even_90 (by decide) 3 rfl (v := nI (k + 1)) (nI_i1 _) (lv' := [(0, .ref (A m)), (1, .int (nI 1)), (2, .int (nI r)), (3, .int (nI (k + 1))), (4, .int (nI ((nAc (gN σ r)).getD k 0)))]) [1, 2, 3, 0, 4] rfl ?_
                    refine g_goto (pc := 93) C dX11_even_93 (tgt := 18) (by decide) ?_
                    refine g_sub [0, 1, 2, 3] rfl ?_
                    have hbk : (nI 1 : Int32) = b32 (evB σ r (k + 1)) := by rw [evB_s hlt, c_59, c_71]; rfl
                    rw [hbk]
                    exact ih_18 (k + 1) (by omega) (fun _ => c_40) (by omega)
                  ·
                    have c_71 : (lvd σ ((nAc (gN σ r)).getD k 0)) = true := b32_no c_71
                    refine g_aload_n (pc := 74) C dX11_even_74 0 rfl ?_
                    refine g_iload (pc := 75) C dX11_even_75 4 rfl ?_
                    refine g_iload_n (pc := 77) C dX11_even_77 2 rfl ?_
                    refine g_callV (pc := 78) C (As := [.int (nI ((nAc (gN σ r)).getD k 0)), .int (nI r)]) (rest := []) (b := m) (c_X11_isActive A P g m ((nAc (gN σ r)).getD k 0) r (by omega) (by omega) (hS.a16 (by omega)) hO hZ hR) hO rfl rfl Y_X11_isActive u_957 N_X11_isActive ⟨by decide, by decide⟩ ⟨by decide, by decide⟩ (Nat.le_of_ble_eq_true rfl) rfl dX11_even_78 ?_
                    rintro _ _ _ _ ⟨rfl, rfl, rfl, rfl⟩
                    show V K 0 0 P A g [(0, .ref (A m)), (1, .int (b32 (evB σ r k))), (2, .int (nI r)), (3, .int (nI k)), (4, .int (nI ((nAc (gN σ r)).getD k 0)))] 81 [.int (b32 (decide (r ∈ nAc (gN σ ((nAc (gN σ r)).getD k 0)))))]
                    refine g_if_eq (pc := 81) C dX11_even_81 (tgt := 88) (by decide) (fun c_81 => ?_) (fun c_81 => ?_)
                    ·
                      have c_81 : (decide (r ∈ nAc (gN σ ((nAc (gN σ r)).getD k 0)))) = false := b32_yes c_81
                      have c_81 : ¬ (r ∈ nAc (gN σ ((nAc (gN σ r)).getD k 0))) := of_decide_eq_false c_81
                      refine g_iconst (pc := 88) C dX11_even_88 (v := nI 0) rfl ?_
                      refine g_istore_n (pc := 89) C dX11_even_89 (by decide) (lv' := [(0, .ref (A m)), (1, .int (nI 0)), (2, .int (nI r)), (3, .int (nI k)), (4, .int (nI ((nAc (gN σ r)).getD k 0)))]) [1, 0, 2, 3, 4] rfl ?_
                      refine g_iinc (pc := 90) C dX11_even_90 (by decide) 3 rfl (v := nI (k + 1)) (nI_i1 _) (lv' := [(0, .ref (A m)), (1, .int (nI 0)), (2, .int (nI r)), (3, .int (nI (k + 1))), (4, .int (nI ((nAc (gN σ r)).getD k 0)))]) [1, 2, 3, 0, 4] rfl ?_
                      refine g_goto (pc := 93) C dX11_even_93 (tgt := 18) (by decide) ?_
                      refine g_sub [0, 1, 2, 3] rfl ?_
                      have hbk : (nI 0 : Int32) = b32 (evB σ r (k + 1)) := by rw [evB_s hlt, c_59, c_71, decide_eq_false c_81]; rfl
                      rw [hbk]
                      exact ih_18 (k + 1) (by omega) (fun _ => c_40) (by omega)
                    ·
                      have c_81 : (decide (r ∈ nAc (gN σ ((nAc (gN σ r)).getD k 0)))) = true := b32_no c_81
                      have c_81 : (r ∈ nAc (gN σ ((nAc (gN σ r)).getD k 0))) := of_decide_eq_true c_81
                      refine g_iconst (pc := 84) C dX11_even_84 (v := nI 1) rfl ?_
                      refine g_goto (pc := 85) C dX11_even_85 (tgt := 89) (by decide) ?_
                      refine g_istore_n (pc := 89) C dX11_even_89 (by decide) (lv' := [(0, .ref (A m)), (1, .int (nI 1)), (2, .int (nI r)), (3, .int (nI k)), (4, .int (nI ((nAc (gN σ r)).getD k 0)))]) [1, 0, 2, 3, 4] rfl ?_
                      refine g_iinc (pc := 90) C dX11_even_90 (by decide) 3 rfl (v := nI (k + 1)) (nI_i1 _) (lv' := [(0, .ref (A m)), (1, .int (nI 1)), (2, .int (nI r)), (3, .int (nI (k + 1))), (4, .int (nI ((nAc (gN σ r)).getD k 0)))]) [1, 2, 3, 0, 4] rfl ?_
                      refine g_goto (pc := 93) C dX11_even_93 (tgt := 18) (by decide) ?_
                      refine g_sub [0, 1, 2, 3] rfl ?_
                      have hbk : (nI 1 : Int32) = b32 (evB σ r (k + 1)) := by rw [evB_s hlt, c_59, c_71, decide_eq_true c_81]; rfl
                      rw [hbk]
                      exact ih_18 (k + 1) (by omega) (fun _ => c_40) (by omega)
        rw [← evB_0]
        exact lp_18 (_ + 1) 0 (Nat.zero_le _) (fun z => absurd z (Nat.lt_irrefl 0)) (Nat.lt_succ_self _)
  exact lp_4 (_ + 1) 0 (Nat.zero_le _) (Nat.lt_succ_self _)
