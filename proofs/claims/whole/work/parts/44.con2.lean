-- PART 44: constructors of a node and of the row
abbrev rm_X3_init : Room := { frames := 3, cells := 78, slots := 305, locals := 62 }
theorem N_X3_init : yX3_init.cls ≠ "java/lang/invoke/MethodHandle" ∧ yX3_init.cls ≠ "java/lang/invoke/VarHandle" ∧ (parseMethodDescriptor yX3_init.desc).map (fun d => d.parameters.length) = some 1 := by decide +kernel
theorem df_X3 : ∀ j, j < 10 → defaultValue (tyX3 j) = vp_V [.int 0, .int 0, .null, .null, .int 0, .int 0, .int 0, .int 0, .null, .null] j := by
  intro j hj
  match j, hj with
  | 0, _ => exact rfl
  | 1, _ => exact rfl
  | 2, _ => exact rfl
  | 3, _ => exact rfl
  | 4, _ => exact rfl
  | 5, _ => exact rfl
  | 6, _ => exact rfl
  | 7, _ => exact rfl
  | 8, _ => exact rfl
  | 9, _ => exact rfl
  | n + 10, h => exact absurd h (by omega)
set_option maxRecDepth 20000 in
set_option maxHeartbeats 4000000 in
theorem c_X3_init (A : Nat → Nat) (P : List Nat) (g : pM) (a i : Nat) (hi : i < 16) (hO : g a = ob 3 [.int 0, .int 0, .null, .null, .int 0, .int 0, .int 0, .int 0, .null, .null]) (hP : ∀ j ∈ P, ¬ (a + 1 ≤ j ∧ j < a + 100) ∧ ¬ (0 ≤ j ∧ j < 0)) : PX yX3_init cX3_init 3 (Option.none : Option Jvm.ClassFile.FieldType) rm_X3_init [.ref (A a), .int (nI i)] P A g (fun v P' A' g' => v = none ∧ (ND A' g' a i ndz) ∧ Mk a (a + 1) (a + 100) 0 0 P A g P' A' g') := by
  refine px_intro (by decide +kernel) (Nat.le_of_ble_eq_true rfl) (fun K sz C R => ?_)
  have hQ0 : ∀ j ∈ P, j ∈ P ∨ ((a ≤ j ∧ j < a)) := fun j hj => Or.inl hj
  have hB0 : ∀ j, ¬ ((a ≤ j ∧ j < a)) → A j = A j := fun j hj => rfl
  have hF0 : ∀ j, j ≠ a → ¬ ((a ≤ j ∧ j < a)) → g j = g j := fun j hk hj => rfl
  show V K 0 0 P A g [(0, .ref (A a)), (1, .int (nI i))] 0 []
  refine g_aload_n (pc := 0) C dX3_init_0 0 rfl ?_
  refine g_objInit (pc := 1) C u_83 u_21 u_22 (Nat.le_of_ble_eq_true rfl) (Nat.le_of_ble_eq_true rfl) dX3_init_1 ?_
  refine g_aload_n (pc := 4) C dX3_init_4 0 rfl ?_
  refine g_iconst (pc := 5) C dX3_init_5 (v := nI 0) rfl ?_
  refine k_put (pc := 6) C (j := 1) hO rfl (by decide) (Nat.le_of_ble_eq_true rfl) u_133 rfl (tyX3_ok 1 (by decide)) rfl rfl dX3_init_6 (fun g1 hu2 hO3 => ?_)
  show V K 0 0 P A g1 [(0, .ref (A a)), (1, .int (nI i))] 9 []
  have hp4 : Fr g g1 a (a + 1) := fun j hj => hu2 j (by omega)
  have hO5 : g1 a = ob 3 [.int 0, .int (nI 0), .null, .null, .int 0, .int 0, .int 0, .int 0, .null, .null] := hO3
  have hF6 : ∀ j, j ≠ a → ¬ ((a ≤ j ∧ j < a)) → g1 j = g j := fun j hk hj => (hu2 j hk).trans (hF0 j hk hj)
  refine g_aload_n (pc := 9) C dX3_init_9 0 rfl ?_
  refine k_new (pc := 10) C (a + 1) (ci := 4) (fs := [.null, .int 0]) (q := (RX4, TX4, 2)) (ty := tyX4) (fun h => (hQ0 _ h).elim (fun q => by have z := hP _ q; omega) (fun q => by omega)) rfl u_84 u_85 u_6 tyX4_ok df_X4 ⟨show 0 + 1 ≤ 78 by omega, show 0 + 2 ≤ 305 by omega⟩ dX3_init_10 (fun P7 A8 g9 hq10 ha11 hg12 hx13 hk14 => ?_)
  rw [show A a = A8 a from (ha11 _ (by omega)).symm]
  show V K 1 2 P7 A8 g9 [(0, .ref (A8 a)), (1, .int (nI i))] 13 [.ref (A8 (a + 1)), .ref (A8 a)]
  have hQ15 : ∀ j ∈ P7, j ∈ P ∨ ((a ≤ j ∧ j < a) ∨ (a + 1 ≤ j ∧ j < a + 1 + 1)) := fun j hj => by
      rcases hq10 j hj with h | h
      · rcases hQ0 j h with q | q
        · exact Or.inl q
        · exact Or.inr (by omega)
      · exact Or.inr (by omega)
  have hB16 : ∀ j, ¬ ((a ≤ j ∧ j < a) ∨ (a + 1 ≤ j ∧ j < a + 1 + 1)) → A8 j = A j := fun j hj => (ha11 j (by omega)).trans (hB0 j (by omega))
  have hF17 : ∀ j, j ≠ a → ¬ ((a ≤ j ∧ j < a) ∨ (a + 1 ≤ j ∧ j < a + 1 + 1)) → g9 j = g j := fun j hk hj => (hg12 j (by omega)).trans (hF6 j hk (by omega))
  have h18 : g9 a = ob 3 [.int 0, .int (nI 0), .null, .null, .int 0, .int 0, .int 0, .int 0, .null, .null] := (hg12 _ (by omega)).trans hO5
  refine g_dup (pc := 13) C dX3_init_13 rfl ?_
  refine g_iconst (pc := 14) C dX3_init_14 (v := nI 5) rfl ?_
  refine v_p0 fun h019 => ?_
  have hf20 : ∀ j ∈ P7, ¬ (a + 1 + 1 ≤ j ∧ j < a + 1 + 2) ∧ ¬ (0 ≤ j ∧ j < 0) := fun j hj => by
      rcases hQ15 j hj with q | q
      · have z := hP j q
        omega
      · omega
  refine g_callI (pc := 15) C (As := [.int (nI 5)]) (rest := [.ref (A8 (a + 1)), .ref (A8 a)]) (b := (a + 1)) (c_X4_init A8 P7 g9 (a + 1) 5 (by omega) hk14 hf20) u_87 u_6 u_88 u_86 rfl N_X4_init ⟨Nat.le_of_ble_eq_true rfl, Nat.le_of_ble_eq_true rfl⟩ ⟨show 1 + 1 ≤ 78 by omega, show 2 + 5 ≤ 305 by omega⟩ (Nat.le_of_ble_eq_true rfl) rfl dX3_init_15 ?_
  rintro _ P21 A22 g23 ⟨rfl, hc24, hq25, ha26, hg27⟩
  have hx28 : Ext A8 (va_up g9 (a + 1) p0) A22 g23 := Mk.ext ⟨hq25, ha26, hg27⟩ h019 hf20
  have hu29 : Fr g9 (va_up g9 (a + 1) p0) (a + 1) (a + 1 + 1) := Fr.up (by omega) (by omega)
  rw [show A8 a = A22 a from (ha26 _ (by omega) (by omega)).symm, show A8 (a + 1) = A22 (a + 1) from (ha26 _ (by omega) (by omega)).symm]
  show V K 2 7 P21 A22 g23 [(0, .ref (A22 a)), (1, .int (nI i))] 18 [.ref (A22 (a + 1)), .ref (A22 a)]
  have hQ30 : ∀ j ∈ P21, j ∈ P ∨ ((a ≤ j ∧ j < a) ∨ (a + 1 ≤ j ∧ j < a + 1 + 1) ∨ (a + 1 + 1 ≤ j ∧ j < a + 1 + 2)) := fun j hj => by
      rcases hq25 j hj with h | h
      · rcases hQ15 j h with q | q
        · exact Or.inl q
        · exact Or.inr (by omega)
      · exact Or.inr (by omega)
  have hB31 : ∀ j, ¬ ((a ≤ j ∧ j < a) ∨ (a + 1 ≤ j ∧ j < a + 1 + 1) ∨ (a + 1 + 1 ≤ j ∧ j < a + 1 + 2)) → A22 j = A j := fun j hj => (ha26 j (by omega) (by omega)).trans (hB16 j (by omega))
  have hF32 : ∀ j, j ≠ a → ¬ ((a ≤ j ∧ j < a) ∨ (a + 1 ≤ j ∧ j < a + 1 + 1) ∨ (a + 1 + 1 ≤ j ∧ j < a + 1 + 2)) → g23 j = g j := fun j hk hj => (hg27 j (by omega) (by omega) (by omega)).trans (hF17 j hk (by omega))
  have h33 : g23 a = ob 3 [.int 0, .int (nI 0), .null, .null, .int 0, .int 0, .int 0, .int 0, .null, .null] := (hg27 _ (by omega) (by omega) (by omega)).trans h18
  refine k_putF (pc := 18) C (j := 2) R.2.2.2.2.2 h33 rfl (by decide) (Nat.le_of_ble_eq_true rfl) u_137 rfl rfl (tyX3_ok 2 (by decide)) rfl rfl dX3_init_18 (fun g34 hu35 hO36 => ?_)
  show V K 2 7 P21 A22 g34 [(0, .ref (A22 a)), (1, .int (nI i))] 21 []
  have hp37 : Fr g23 g34 a (a + 1) := fun j hj => hu35 j (by omega)
  have h38 : NLN A22 g34 (a + 1) 5 [] := hc24.fr hp37 (by omega)
  have hO39 : g34 a = ob 3 [.int 0, .int (nI 0), .ref (A22 (a + 1)), .null, .int 0, .int 0, .int 0, .int 0, .null, .null] := hO36
  have hF40 : ∀ j, j ≠ a → ¬ ((a ≤ j ∧ j < a) ∨ (a + 1 ≤ j ∧ j < a + 1 + 1) ∨ (a + 1 + 1 ≤ j ∧ j < a + 1 + 2)) → g34 j = g j := fun j hk hj => (hu35 j hk).trans (hF32 j hk hj)
  refine g_aload_n (pc := 21) C dX3_init_21 0 rfl ?_
  refine k_new (pc := 22) C (a + 3) (ci := 4) (fs := [.null, .int 0]) (q := (RX4, TX4, 2)) (ty := tyX4) (fun h => (hQ30 _ h).elim (fun q => by have z := hP _ q; omega) (fun q => by omega)) rfl u_84 u_85 u_6 tyX4_ok df_X4 ⟨show 2 + 1 ≤ 78 by omega, show 7 + 2 ≤ 305 by omega⟩ dX3_init_22 (fun P41 A42 g43 hq44 ha45 hg46 hx47 hk48 => ?_)
  rw [show A22 a = A42 a from (ha45 _ (by omega)).symm]
  show V K 3 9 P41 A42 g43 [(0, .ref (A42 a)), (1, .int (nI i))] 25 [.ref (A42 (a + 3)), .ref (A42 a)]
  have hQ49 : ∀ j ∈ P41, j ∈ P ∨ ((a ≤ j ∧ j < a) ∨ (a + 1 ≤ j ∧ j < a + 1 + 1) ∨ (a + 1 + 1 ≤ j ∧ j < a + 1 + 2) ∨ (a + 3 ≤ j ∧ j < a + 3 + 1)) := fun j hj => by
      rcases hq44 j hj with h | h
      · rcases hQ30 j h with q | q
        · exact Or.inl q
        · exact Or.inr (by omega)
      · exact Or.inr (by omega)
  have hB50 : ∀ j, ¬ ((a ≤ j ∧ j < a) ∨ (a + 1 ≤ j ∧ j < a + 1 + 1) ∨ (a + 1 + 1 ≤ j ∧ j < a + 1 + 2) ∨ (a + 3 ≤ j ∧ j < a + 3 + 1)) → A42 j = A j := fun j hj => (ha45 j (by omega)).trans (hB31 j (by omega))
  have hF51 : ∀ j, j ≠ a → ¬ ((a ≤ j ∧ j < a) ∨ (a + 1 ≤ j ∧ j < a + 1 + 1) ∨ (a + 1 + 1 ≤ j ∧ j < a + 1 + 2) ∨ (a + 3 ≤ j ∧ j < a + 3 + 1)) → g43 j = g j := fun j hk hj => (hg46 j (by omega)).trans (hF40 j hk (by omega))
  have h52 : NLN A42 g43 (a + 1) 5 [] := h38.xt hx47
  have h53 : g43 a = ob 3 [.int 0, .int (nI 0), .ref (A42 (a + 1)), .null, .int 0, .int 0, .int 0, .int 0, .null, .null] := by
      have z := (hg46 _ (by omega)).trans hO39
      rw [show A22 (a + 1) = A42 (a + 1) from (ha45 _ (by omega)).symm] at z
      exact z
  refine g_dup (pc := 25) C dX3_init_25 rfl ?_
  refine g_bipush (pc := 26) C dX3_init_26 (v := nI 8) rfl ?_
  refine v_p0 fun h054 => ?_
  have hf55 : ∀ j ∈ P41, ¬ (a + 3 + 1 ≤ j ∧ j < a + 3 + 2) ∧ ¬ (0 ≤ j ∧ j < 0) := fun j hj => by
      rcases hQ49 j hj with q | q
      · have z := hP j q
        omega
      · omega
  refine g_callI (pc := 28) C (As := [.int (nI 8)]) (rest := [.ref (A42 (a + 3)), .ref (A42 a)]) (b := (a + 3)) (c_X4_init A42 P41 g43 (a + 3) 8 (by omega) hk48 hf55) u_87 u_6 u_88 u_86 rfl N_X4_init ⟨Nat.le_of_ble_eq_true rfl, Nat.le_of_ble_eq_true rfl⟩ ⟨show 3 + 1 ≤ 78 by omega, show 9 + 8 ≤ 305 by omega⟩ (Nat.le_of_ble_eq_true rfl) rfl dX3_init_28 ?_
  rintro _ P56 A57 g58 ⟨rfl, hc59, hq60, ha61, hg62⟩
  have hx63 : Ext A42 (va_up g43 (a + 3) p0) A57 g58 := Mk.ext ⟨hq60, ha61, hg62⟩ h054 hf55
  have hu64 : Fr g43 (va_up g43 (a + 3) p0) (a + 3) (a + 3 + 1) := Fr.up (by omega) (by omega)
  rw [show A42 a = A57 a from (ha61 _ (by omega) (by omega)).symm, show A42 (a + 3) = A57 (a + 3) from (ha61 _ (by omega) (by omega)).symm]
  show V K 4 17 P56 A57 g58 [(0, .ref (A57 a)), (1, .int (nI i))] 31 [.ref (A57 (a + 3)), .ref (A57 a)]
  have hQ65 : ∀ j ∈ P56, j ∈ P ∨ ((a ≤ j ∧ j < a) ∨ (a + 1 ≤ j ∧ j < a + 1 + 1) ∨ (a + 1 + 1 ≤ j ∧ j < a + 1 + 2) ∨ (a + 3 ≤ j ∧ j < a + 3 + 1) ∨ (a + 3 + 1 ≤ j ∧ j < a + 3 + 2)) := fun j hj => by
      rcases hq60 j hj with h | h
      · rcases hQ49 j h with q | q
        · exact Or.inl q
        · exact Or.inr (by omega)
      · exact Or.inr (by omega)
  have hB66 : ∀ j, ¬ ((a ≤ j ∧ j < a) ∨ (a + 1 ≤ j ∧ j < a + 1 + 1) ∨ (a + 1 + 1 ≤ j ∧ j < a + 1 + 2) ∨ (a + 3 ≤ j ∧ j < a + 3 + 1) ∨ (a + 3 + 1 ≤ j ∧ j < a + 3 + 2)) → A57 j = A j := fun j hj => (ha61 j (by omega) (by omega)).trans (hB50 j (by omega))
  have hF67 : ∀ j, j ≠ a → ¬ ((a ≤ j ∧ j < a) ∨ (a + 1 ≤ j ∧ j < a + 1 + 1) ∨ (a + 1 + 1 ≤ j ∧ j < a + 1 + 2) ∨ (a + 3 ≤ j ∧ j < a + 3 + 1) ∨ (a + 3 + 1 ≤ j ∧ j < a + 3 + 2)) → g58 j = g j := fun j hk hj => (hg62 j (by omega) (by omega) (by omega)).trans (hF51 j hk (by omega))
  have h68 : NLN A57 g58 (a + 1) 5 [] := (h52.fr hu64 (by omega)).xt hx63
  have h69 : g58 a = ob 3 [.int 0, .int (nI 0), .ref (A57 (a + 1)), .null, .int 0, .int 0, .int 0, .int 0, .null, .null] := by
      have z := (hg62 _ (by omega) (by omega) (by omega)).trans h53
      rw [show A42 (a + 1) = A57 (a + 1) from (ha61 _ (by omega) (by omega)).symm] at z
      exact z
  refine k_putF (pc := 31) C (j := 3) R.2.2.2.2.2 h69 rfl (by decide) (Nat.le_of_ble_eq_true rfl) u_142 rfl rfl (tyX3_ok 3 (by decide)) rfl rfl dX3_init_31 (fun g70 hu71 hO72 => ?_)
  show V K 4 17 P56 A57 g70 [(0, .ref (A57 a)), (1, .int (nI i))] 34 []
  have hp73 : Fr g58 g70 a (a + 1) := fun j hj => hu71 j (by omega)
  have h74 : NLN A57 g70 (a + 1) 5 [] := h68.fr hp73 (by omega)
  have h75 : NLN A57 g70 (a + 3) 8 [] := hc59.fr hp73 (by omega)
  have hO76 : g70 a = ob 3 [.int 0, .int (nI 0), .ref (A57 (a + 1)), .ref (A57 (a + 3)), .int 0, .int 0, .int 0, .int 0, .null, .null] := hO72
  have hF77 : ∀ j, j ≠ a → ¬ ((a ≤ j ∧ j < a) ∨ (a + 1 ≤ j ∧ j < a + 1 + 1) ∨ (a + 1 + 1 ≤ j ∧ j < a + 1 + 2) ∨ (a + 3 ≤ j ∧ j < a + 3 + 1) ∨ (a + 3 + 1 ≤ j ∧ j < a + 3 + 2)) → g70 j = g j := fun j hk hj => (hu71 j hk).trans (hF67 j hk hj)
  refine g_aload_n (pc := 34) C dX3_init_34 0 rfl ?_
  refine g_iconst (pc := 35) C dX3_init_35 (v := nI 0) rfl ?_
  refine k_put (pc := 36) C (j := 4) hO76 rfl (by decide) (Nat.le_of_ble_eq_true rfl) u_145 rfl (tyX3_ok 4 (by decide)) rfl rfl dX3_init_36 (fun g78 hu79 hO80 => ?_)
  show V K 4 17 P56 A57 g78 [(0, .ref (A57 a)), (1, .int (nI i))] 39 []
  have hp81 : Fr g70 g78 a (a + 1) := fun j hj => hu79 j (by omega)
  have h82 : NLN A57 g78 (a + 1) 5 [] := h74.fr hp81 (by omega)
  have h83 : NLN A57 g78 (a + 3) 8 [] := h75.fr hp81 (by omega)
  have hO84 : g78 a = ob 3 [.int 0, .int (nI 0), .ref (A57 (a + 1)), .ref (A57 (a + 3)), .int (nI 0), .int 0, .int 0, .int 0, .null, .null] := hO80
  have hF85 : ∀ j, j ≠ a → ¬ ((a ≤ j ∧ j < a) ∨ (a + 1 ≤ j ∧ j < a + 1 + 1) ∨ (a + 1 + 1 ≤ j ∧ j < a + 1 + 2) ∨ (a + 3 ≤ j ∧ j < a + 3 + 1) ∨ (a + 3 + 1 ≤ j ∧ j < a + 3 + 2)) → g78 j = g j := fun j hk hj => (hu79 j hk).trans (hF77 j hk hj)
  refine g_aload_n (pc := 39) C dX3_init_39 0 rfl ?_
  refine g_bipush (pc := 40) C dX3_init_40 (v := (-6)) rfl ?_
  refine k_put (pc := 42) C (j := 5) hO84 rfl (by decide) (Nat.le_of_ble_eq_true rfl) u_146 rfl (tyX3_ok 5 (by decide)) rfl rfl dX3_init_42 (fun g86 hu87 hO88 => ?_)
  show V K 4 17 P56 A57 g86 [(0, .ref (A57 a)), (1, .int (nI i))] 45 []
  have hp89 : Fr g78 g86 a (a + 1) := fun j hj => hu87 j (by omega)
  have h90 : NLN A57 g86 (a + 1) 5 [] := h82.fr hp89 (by omega)
  have h91 : NLN A57 g86 (a + 3) 8 [] := h83.fr hp89 (by omega)
  have hO92 : g86 a = ob 3 [.int 0, .int (nI 0), .ref (A57 (a + 1)), .ref (A57 (a + 3)), .int (nI 0), .int (-6), .int 0, .int 0, .null, .null] := hO88
  have hF93 : ∀ j, j ≠ a → ¬ ((a ≤ j ∧ j < a) ∨ (a + 1 ≤ j ∧ j < a + 1 + 1) ∨ (a + 1 + 1 ≤ j ∧ j < a + 1 + 2) ∨ (a + 3 ≤ j ∧ j < a + 3 + 1) ∨ (a + 3 + 1 ≤ j ∧ j < a + 3 + 2)) → g86 j = g j := fun j hk hj => (hu87 j hk).trans (hF85 j hk hj)
  refine g_aload_n (pc := 45) C dX3_init_45 0 rfl ?_
  refine g_iconst (pc := 46) C dX3_init_46 (v := nI 0) rfl ?_
  refine k_put (pc := 47) C (j := 6) hO92 rfl (by decide) (Nat.le_of_ble_eq_true rfl) u_150 rfl (tyX3_ok 6 (by decide)) rfl rfl dX3_init_47 (fun g94 hu95 hO96 => ?_)
  show V K 4 17 P56 A57 g94 [(0, .ref (A57 a)), (1, .int (nI i))] 50 []
  have hp97 : Fr g86 g94 a (a + 1) := fun j hj => hu95 j (by omega)
  have h98 : NLN A57 g94 (a + 1) 5 [] := h90.fr hp97 (by omega)
  have h99 : NLN A57 g94 (a + 3) 8 [] := h91.fr hp97 (by omega)
  have hO100 : g94 a = ob 3 [.int 0, .int (nI 0), .ref (A57 (a + 1)), .ref (A57 (a + 3)), .int (nI 0), .int (-6), .int (nI 0), .int 0, .null, .null] := hO96
  have hF101 : ∀ j, j ≠ a → ¬ ((a ≤ j ∧ j < a) ∨ (a + 1 ≤ j ∧ j < a + 1 + 1) ∨ (a + 1 + 1 ≤ j ∧ j < a + 1 + 2) ∨ (a + 3 ≤ j ∧ j < a + 3 + 1) ∨ (a + 3 + 1 ≤ j ∧ j < a + 3 + 2)) → g94 j = g j := fun j hk hj => (hu95 j hk).trans (hF93 j hk hj)
  refine g_aload_n (pc := 50) C dX3_init_50 0 rfl ?_
  refine g_iconst (pc := 51) C dX3_init_51 (v := nI 0) rfl ?_
  refine k_put (pc := 52) C (j := 7) hO100 rfl (by decide) (Nat.le_of_ble_eq_true rfl) u_153 rfl (tyX3_ok 7 (by decide)) rfl rfl dX3_init_52 (fun g102 hu103 hO104 => ?_)
  show V K 4 17 P56 A57 g102 [(0, .ref (A57 a)), (1, .int (nI i))] 55 []
  have hp105 : Fr g94 g102 a (a + 1) := fun j hj => hu103 j (by omega)
  have h106 : NLN A57 g102 (a + 1) 5 [] := h98.fr hp105 (by omega)
  have h107 : NLN A57 g102 (a + 3) 8 [] := h99.fr hp105 (by omega)
  have hO108 : g102 a = ob 3 [.int 0, .int (nI 0), .ref (A57 (a + 1)), .ref (A57 (a + 3)), .int (nI 0), .int (-6), .int (nI 0), .int (nI 0), .null, .null] := hO104
  have hF109 : ∀ j, j ≠ a → ¬ ((a ≤ j ∧ j < a) ∨ (a + 1 ≤ j ∧ j < a + 1 + 1) ∨ (a + 1 + 1 ≤ j ∧ j < a + 1 + 2) ∨ (a + 3 ≤ j ∧ j < a + 3 + 1) ∨ (a + 3 + 1 ≤ j ∧ j < a + 3 + 2)) → g102 j = g j := fun j hk hj => (hu103 j hk).trans (hF101 j hk hj)
  refine g_aload_n (pc := 55) C dX3_init_55 0 rfl ?_
  refine g_bipush (pc := 56) C dX3_init_56 (v := nI 24) rfl ?_
  refine k_newi (pc := 58) C (a + 5) (N' := 24) (fun h => (hQ65 _ h).elim (fun q => by have z := hP _ q; omega) (fun q => by omega)) (nI_pos (by omega)) (nI_clamp (by omega)) (show 24 * 4 ≤ 536870912 by omega) ⟨show 4 + 1 ≤ 78 by omega, show 17 + 24 ≤ 305 by omega⟩ dX3_init_58 (fun P110 A111 g112 hq113 ha114 hg115 hx116 hk117 => ?_)
  rw [show A57 a = A111 a from (ha114 _ (by omega)).symm]
  show V K 5 41 P110 A111 g112 [(0, .ref (A111 a)), (1, .int (nI i))] 60 [.ref (A111 (a + 5)), .ref (A111 a)]
  have hQ118 : ∀ j ∈ P110, j ∈ P ∨ ((a ≤ j ∧ j < a) ∨ (a + 1 ≤ j ∧ j < a + 1 + 1) ∨ (a + 1 + 1 ≤ j ∧ j < a + 1 + 2) ∨ (a + 3 ≤ j ∧ j < a + 3 + 1) ∨ (a + 3 + 1 ≤ j ∧ j < a + 3 + 2) ∨ (a + 5 ≤ j ∧ j < a + 5 + 1)) := fun j hj => by
      rcases hq113 j hj with h | h
      · rcases hQ65 j h with q | q
        · exact Or.inl q
        · exact Or.inr (by omega)
      · exact Or.inr (by omega)
  have hB119 : ∀ j, ¬ ((a ≤ j ∧ j < a) ∨ (a + 1 ≤ j ∧ j < a + 1 + 1) ∨ (a + 1 + 1 ≤ j ∧ j < a + 1 + 2) ∨ (a + 3 ≤ j ∧ j < a + 3 + 1) ∨ (a + 3 + 1 ≤ j ∧ j < a + 3 + 2) ∨ (a + 5 ≤ j ∧ j < a + 5 + 1)) → A111 j = A j := fun j hj => (ha114 j (by omega)).trans (hB66 j (by omega))
  have hF120 : ∀ j, j ≠ a → ¬ ((a ≤ j ∧ j < a) ∨ (a + 1 ≤ j ∧ j < a + 1 + 1) ∨ (a + 1 + 1 ≤ j ∧ j < a + 1 + 2) ∨ (a + 3 ≤ j ∧ j < a + 3 + 1) ∨ (a + 3 + 1 ≤ j ∧ j < a + 3 + 2) ∨ (a + 5 ≤ j ∧ j < a + 5 + 1)) → g112 j = g j := fun j hk hj => (hg115 j (by omega)).trans (hF109 j hk (by omega))
  have h121 : NLN A111 g112 (a + 1) 5 [] := h106.xt hx116
  have h122 : NLN A111 g112 (a + 3) 8 [] := h107.xt hx116
  have h123 : g112 a = ob 3 [.int 0, .int (nI 0), .ref (A111 (a + 1)), .ref (A111 (a + 3)), .int (nI 0), .int (-6), .int (nI 0), .int (nI 0), .null, .null] := by
      have z := (hg115 _ (by omega)).trans hO108
      rw [show A57 (a + 1) = A111 (a + 1) from (ha114 _ (by omega)).symm, show A57 (a + 3) = A111 (a + 3) from (ha114 _ (by omega)).symm] at z
      exact z
  refine k_putF (pc := 60) C (j := 8) R.2.2.2.2.2 h123 rfl (by decide) (Nat.le_of_ble_eq_true rfl) u_156 rfl rfl (tyX3_ok 8 (by decide)) rfl rfl dX3_init_60 (fun g124 hu125 hO126 => ?_)
  show V K 5 41 P110 A111 g124 [(0, .ref (A111 a)), (1, .int (nI i))] 63 []
  have hp127 : Fr g112 g124 a (a + 1) := fun j hj => hu125 j (by omega)
  have h128 : NLN A111 g124 (a + 1) 5 [] := h121.fr hp127 (by omega)
  have h129 : NLN A111 g124 (a + 3) 8 [] := h122.fr hp127 (by omega)
  have h130 : g124 (a + 5) = ai 0 24 (fun _ => 0) := (hu125 _ (by omega)).trans hk117
  have hO131 : g124 a = ob 3 [.int 0, .int (nI 0), .ref (A111 (a + 1)), .ref (A111 (a + 3)), .int (nI 0), .int (-6), .int (nI 0), .int (nI 0), .ref (A111 (a + 5)), .null] := hO126
  have hF132 : ∀ j, j ≠ a → ¬ ((a ≤ j ∧ j < a) ∨ (a + 1 ≤ j ∧ j < a + 1 + 1) ∨ (a + 1 + 1 ≤ j ∧ j < a + 1 + 2) ∨ (a + 3 ≤ j ∧ j < a + 3 + 1) ∨ (a + 3 + 1 ≤ j ∧ j < a + 3 + 2) ∨ (a + 5 ≤ j ∧ j < a + 5 + 1)) → g124 j = g j := fun j hk hj => (hu125 j hk).trans (hF120 j hk hj)
  refine g_aload_n (pc := 63) C dX3_init_63 0 rfl ?_
  refine g_bipush (pc := 64) C dX3_init_64 (v := nI 24) rfl ?_
  refine k_newq (pc := 66) C (a + 6) (N' := 24) (c1 := 3) (fun h => (hQ118 _ h).elim (fun q => by have z := hP _ q; omega) (fun q => by omega)) (by decide) (fun _ => rfl) u_104 (nI_pos (by omega)) (nI_clamp (by omega)) (by omega) ⟨show 5 + 1 ≤ 78 by omega, show 41 + 24 ≤ 305 by omega⟩ dX3_init_66 (fun P133 A134 g135 hq136 ha137 hg138 hx139 hk140 => ?_)
  rw [show A111 a = A134 a from (ha137 _ (by omega)).symm]
  show V K 6 65 P133 A134 g135 [(0, .ref (A134 a)), (1, .int (nI i))] 69 [.ref (A134 (a + 6)), .ref (A134 a)]
  have hQ141 : ∀ j ∈ P133, j ∈ P ∨ ((a ≤ j ∧ j < a) ∨ (a + 1 ≤ j ∧ j < a + 1 + 1) ∨ (a + 1 + 1 ≤ j ∧ j < a + 1 + 2) ∨ (a + 3 ≤ j ∧ j < a + 3 + 1) ∨ (a + 3 + 1 ≤ j ∧ j < a + 3 + 2) ∨ (a + 5 ≤ j ∧ j < a + 5 + 1) ∨ (a + 6 ≤ j ∧ j < a + 6 + 1)) := fun j hj => by
      rcases hq136 j hj with h | h
      · rcases hQ118 j h with q | q
        · exact Or.inl q
        · exact Or.inr (by omega)
      · exact Or.inr (by omega)
  have hB142 : ∀ j, ¬ ((a ≤ j ∧ j < a) ∨ (a + 1 ≤ j ∧ j < a + 1 + 1) ∨ (a + 1 + 1 ≤ j ∧ j < a + 1 + 2) ∨ (a + 3 ≤ j ∧ j < a + 3 + 1) ∨ (a + 3 + 1 ≤ j ∧ j < a + 3 + 2) ∨ (a + 5 ≤ j ∧ j < a + 5 + 1) ∨ (a + 6 ≤ j ∧ j < a + 6 + 1)) → A134 j = A j := fun j hj => (ha137 j (by omega)).trans (hB119 j (by omega))
  have hF143 : ∀ j, j ≠ a → ¬ ((a ≤ j ∧ j < a) ∨ (a + 1 ≤ j ∧ j < a + 1 + 1) ∨ (a + 1 + 1 ≤ j ∧ j < a + 1 + 2) ∨ (a + 3 ≤ j ∧ j < a + 3 + 1) ∨ (a + 3 + 1 ≤ j ∧ j < a + 3 + 2) ∨ (a + 5 ≤ j ∧ j < a + 5 + 1) ∨ (a + 6 ≤ j ∧ j < a + 6 + 1)) → g135 j = g j := fun j hk hj => (hg138 j (by omega)).trans (hF132 j hk (by omega))
  have h144 : NLN A134 g135 (a + 1) 5 [] := h128.xt hx139
  have h145 : NLN A134 g135 (a + 3) 8 [] := h129.xt hx139
  have h146 : g135 (a + 5) = ai 0 24 (fun _ => 0) := hx139.at h130 p_nil
  have h147 : g135 a = ob 3 [.int 0, .int (nI 0), .ref (A134 (a + 1)), .ref (A134 (a + 3)), .int (nI 0), .int (-6), .int (nI 0), .int (nI 0), .ref (A134 (a + 5)), .null] := by
      have z := (hg138 _ (by omega)).trans hO131
      rw [show A111 (a + 1) = A134 (a + 1) from (ha137 _ (by omega)).symm, show A111 (a + 3) = A134 (a + 3) from (ha137 _ (by omega)).symm, show A111 (a + 5) = A134 (a + 5) from (ha137 _ (by omega)).symm] at z
      exact z
  have h148 : g135 (a + 6) = aq 3 24 (rwu A134 (a + 10) 3 0) := hk140.trans (by rw [rwu_0])
  refine k_putF (pc := 69) C (j := 9) R.2.2.2.2.2 h147 rfl (by decide) (Nat.le_of_ble_eq_true rfl) u_157 rfl rfl (tyX3_ok 9 (by decide)) rfl rfl dX3_init_69 (fun g149 hu150 hO151 => ?_)
  show V K 6 65 P133 A134 g149 [(0, .ref (A134 a)), (1, .int (nI i))] 72 []
  have hp152 : Fr g135 g149 a (a + 1) := fun j hj => hu150 j (by omega)
  have h153 : NLN A134 g149 (a + 1) 5 [] := h144.fr hp152 (by omega)
  have h154 : NLN A134 g149 (a + 3) 8 [] := h145.fr hp152 (by omega)
  have h155 : g149 (a + 5) = ai 0 24 (fun _ => 0) := (hu150 _ (by omega)).trans h146
  have h156 : g149 (a + 6) = aq 3 24 (rwu A134 (a + 10) 3 0) := (hu150 _ (by omega)).trans h148
  have hO157 : g149 a = ob 3 [.int 0, .int (nI 0), .ref (A134 (a + 1)), .ref (A134 (a + 3)), .int (nI 0), .int (-6), .int (nI 0), .int (nI 0), .ref (A134 (a + 5)), .ref (A134 (a + 6))] := hO151
  have hF158 : ∀ j, j ≠ a → ¬ ((a ≤ j ∧ j < a) ∨ (a + 1 ≤ j ∧ j < a + 1 + 1) ∨ (a + 1 + 1 ≤ j ∧ j < a + 1 + 2) ∨ (a + 3 ≤ j ∧ j < a + 3 + 1) ∨ (a + 3 + 1 ≤ j ∧ j < a + 3 + 2) ∨ (a + 5 ≤ j ∧ j < a + 5 + 1) ∨ (a + 6 ≤ j ∧ j < a + 6 + 1)) → g149 j = g j := fun j hk hj => (hu150 j hk).trans (hF143 j hk hj)
  refine g_aload_n (pc := 72) C dX3_init_72 0 rfl ?_
  refine g_iload_n (pc := 73) C dX3_init_73 1 rfl ?_
  refine k_putF (pc := 74) C (j := 0) R.2.2.2.2.2 hO157 rfl (by decide) (Nat.le_of_ble_eq_true rfl) u_129 rfl rfl (tyX3_ok 0 (by decide)) rfl rfl dX3_init_74 (fun g159 hu160 hO161 => ?_)
  show V K 6 65 P133 A134 g159 [(0, .ref (A134 a)), (1, .int (nI i))] 77 []
  have hp162 : Fr g149 g159 a (a + 1) := fun j hj => hu160 j (by omega)
  have h163 : NLN A134 g159 (a + 1) 5 [] := h153.fr hp162 (by omega)
  have h164 : NLN A134 g159 (a + 3) 8 [] := h154.fr hp162 (by omega)
  have h165 : g159 (a + 5) = ai 0 24 (fun _ => 0) := (hu160 _ (by omega)).trans h155
  have h166 : g159 (a + 6) = aq 3 24 (rwu A134 (a + 10) 3 0) := (hu160 _ (by omega)).trans h156
  have hO167 : g159 a = ob 3 [.int (nI i), .int (nI 0), .ref (A134 (a + 1)), .ref (A134 (a + 3)), .int (nI 0), .int (-6), .int (nI 0), .int (nI 0), .ref (A134 (a + 5)), .ref (A134 (a + 6))] := hO161
  have hF168 : ∀ j, j ≠ a → ¬ ((a ≤ j ∧ j < a) ∨ (a + 1 ≤ j ∧ j < a + 1 + 1) ∨ (a + 1 + 1 ≤ j ∧ j < a + 1 + 2) ∨ (a + 3 ≤ j ∧ j < a + 3 + 1) ∨ (a + 3 + 1 ≤ j ∧ j < a + 3 + 2) ∨ (a + 5 ≤ j ∧ j < a + 5 + 1) ∨ (a + 6 ≤ j ∧ j < a + 6 + 1)) → g159 j = g j := fun j hk hj => (hu160 j hk).trans (hF158 j hk hj)
  refine g_iconst (pc := 77) C dX3_init_77 (v := nI 0) rfl ?_
  refine g_istore_n (pc := 78) C dX3_init_78 (by decide) (lv' := [(0, .ref (A134 a)), (1, .int (nI i)), (2, .int (nI 0))]) [1, 2, 0] rfl ?_
  have lp : ∀ (n t : Nat), t + n = 24 → ∀ (Q : List Nat) (B : Nat → Nat) (f : pM), (∀ j ∈ Q, j ∈ P ∨ ((a ≤ j ∧ j < a) ∨ (a + 1 ≤ j ∧ j < a + 1 + 1) ∨ (a + 1 + 1 ≤ j ∧ j < a + 1 + 2) ∨ (a + 3 ≤ j ∧ j < a + 3 + 1) ∨ (a + 3 + 1 ≤ j ∧ j < a + 3 + 2) ∨ (a + 5 ≤ j ∧ j < a + 5 + 1) ∨ (a + 6 ≤ j ∧ j < a + 6 + 1) ∨ (a + 10 ≤ j ∧ j < a + 10 + 3 * t))) ∧ (∀ j, ¬ ((a ≤ j ∧ j < a) ∨ (a + 1 ≤ j ∧ j < a + 1 + 1) ∨ (a + 1 + 1 ≤ j ∧ j < a + 1 + 2) ∨ (a + 3 ≤ j ∧ j < a + 3 + 1) ∨ (a + 3 + 1 ≤ j ∧ j < a + 3 + 2) ∨ (a + 5 ≤ j ∧ j < a + 5 + 1) ∨ (a + 6 ≤ j ∧ j < a + 6 + 1) ∨ (a + 10 ≤ j ∧ j < a + 10 + 3 * t)) → B j = A j) ∧ (∀ j, j ≠ a → ¬ ((a ≤ j ∧ j < a) ∨ (a + 1 ≤ j ∧ j < a + 1 + 1) ∨ (a + 1 + 1 ≤ j ∧ j < a + 1 + 2) ∨ (a + 3 ≤ j ∧ j < a + 3 + 1) ∨ (a + 3 + 1 ≤ j ∧ j < a + 3 + 2) ∨ (a + 5 ≤ j ∧ j < a + 5 + 1) ∨ (a + 6 ≤ j ∧ j < a + 6 + 1) ∨ (a + 10 ≤ j ∧ j < a + 10 + 3 * t)) → f j = g j) ∧ f a = ob 3 [.int (nI i), .int (nI 0), .ref (B (a + 1)), .ref (B (a + 3)), .int (nI 0), .int (-6), .int (nI 0), .int (nI 0), .ref (B (a + 5)), .ref (B (a + 6))] ∧ (NLN B f (a + 1) 5 []) ∧ (NLN B f (a + 3) 8 []) ∧ (f (a + 5) = ai 0 24 (hfl t)) ∧ (f (a + 6) = aq 3 24 (rwu B (a + 10) 3 t)) ∧ (∀ j, j < t → MS B f (a + 10 + 3 * j) none) → V K (6 + 3 * t) (65 + 10 * t) Q B f [(0, .ref (B a)), (1, .int (nI i)), (2, .int (nI t))] 79 [] := by
    intro n
    induction n with
    | zero =>
      intro t ht Q B f hI
      obtain ⟨iQ, iB, iF, iO, i0, i1, i2, i3, i4⟩ := hI
      refine g_iload_n (pc := 79) C dX3_init_79 2 rfl ?_
      refine g_bipush (pc := 80) C dX3_init_80 (v := nI 24) rfl ?_
      refine g_icmp_ge (pc := 82) C dX3_init_82 (tgt := 112) (by decide) (fun _ => ?_) (fun q => absurd ((nI_leI (by omega) (by omega)).mpr (show 24 ≤ t by omega)) q)
      have htN : t = 24 := by omega
      subst htN
      show V K (6 + 3 * 24) (65 + 10 * 24) Q B f [(0, .ref (B a)), (1, .int (nI i)), (2, .int (nI 24))] 112 []
      exact g_vret (pc := 112) C R ⟨rfl, ⟨iO, i0, i1, ⟨_, i2, fun t ht => by simp only [hfl]; rw [if_pos ht]; rfl⟩, i3, i4⟩, fun j hj => by
          rcases iQ j hj with q | q
          · exact Or.inl q
          · exact Or.inr (by omega), fun j h1 h2 => iB j (by omega), fun j h0 h1 h2 => iF j h0 (by omega)⟩ (show 6 + 3 * 24 ≤ 78 by omega) (show 65 + 10 * 24 ≤ 305 by omega) dX3_init_112
    | succ n ih =>
      intro t ht Q B f hI
      obtain ⟨iQ, iB, iF, iO, i0, i1, i2, i3, i4⟩ := hI
      refine g_iload_n (pc := 79) C dX3_init_79 2 rfl ?_
      refine g_bipush (pc := 80) C dX3_init_80 (v := nI 24) rfl ?_
      refine g_icmp_ge (pc := 82) C dX3_init_82 (tgt := 112) (by decide) (fun q => absurd ((nI_leI (by omega) (by omega)).mp q) (show ¬ 24 ≤ t by omega)) (fun _ => ?_)
      show V K (6 + 3 * t) (65 + 10 * t) Q B f [(0, .ref (B a)), (1, .int (nI i)), (2, .int (nI t))] 85 []
      refine g_aload_n (pc := 85) C dX3_init_85 0 rfl ?_
      refine g_get (pc := 86) C (j := 8) iO rfl rfl (by decide) u_156 dX3_init_86 ?_
      show V K (6 + 3 * t) (65 + 10 * t) Q B f [(0, .ref (B a)), (1, .int (nI i)), (2, .int (nI t))] 89 [.ref (B (a + 5))]
      refine g_iload_n (pc := 89) C dX3_init_89 2 rfl ?_
      refine g_bipush (pc := 90) C dX3_init_90 (v := (-6)) rfl ?_
      refine k_iast (pc := 92) C i2 (nI_clamp (by omega)) (nI_in0 (n := 24) (by omega) (by omega)) dX3_init_92 (fun g169 hu170 hk171 => ?_)
      show V K (6 + 3 * t) (65 + 10 * t) Q B g169 [(0, .ref (B a)), (1, .int (nI i)), (2, .int (nI t))] 93 []
      have hp172 : Fr f g169 (a + 5) (a + 5 + 1) := fun j hj => hu170 j (by omega)
      have h173 : g169 a = ob 3 [.int (nI i), .int (nI 0), .ref (B (a + 1)), .ref (B (a + 3)), .int (nI 0), .int (-6), .int (nI 0), .int (nI 0), .ref (B (a + 5)), .ref (B (a + 6))] := (hu170 _ (by omega)).trans iO
      have h174 : NLN B g169 (a + 1) 5 [] := i0.fr hp172 (by omega)
      have h175 : NLN B g169 (a + 3) 8 [] := i1.fr hp172 (by omega)
      have h176 : g169 (a + 6) = aq 3 24 (rwu B (a + 10) 3 t) := (hu170 _ (by omega)).trans i3
      have h177 : ∀ j, j < t → MS B g169 (a + 10 + 3 * j) none := fun j hj => (i4 j hj).fr hp172 (by omega)
      have h178 : g169 (a + 5) = ai 0 24 (hfl (t + 1)) := hk171.trans (by rw [hfl_s])
      have hF179 : ∀ j, j ≠ a → ¬ ((a ≤ j ∧ j < a) ∨ (a + 1 ≤ j ∧ j < a + 1 + 1) ∨ (a + 1 + 1 ≤ j ∧ j < a + 1 + 2) ∨ (a + 3 ≤ j ∧ j < a + 3 + 1) ∨ (a + 3 + 1 ≤ j ∧ j < a + 3 + 2) ∨ (a + 5 ≤ j ∧ j < a + 5 + 1) ∨ (a + 6 ≤ j ∧ j < a + 6 + 1) ∨ (a + 10 ≤ j ∧ j < a + 10 + 3 * t)) → g169 j = g j := fun j hk hj => (hu170 j (by omega)).trans (iF j hk hj)
      refine g_aload_n (pc := 93) C dX3_init_93 0 rfl ?_
      refine g_get (pc := 94) C (j := 9) h173 rfl rfl (by decide) u_157 dX3_init_94 ?_
      show V K (6 + 3 * t) (65 + 10 * t) Q B g169 [(0, .ref (B a)), (1, .int (nI i)), (2, .int (nI t))] 97 [.ref (B (a + 6))]
      refine g_iload_n (pc := 97) C dX3_init_97 2 rfl ?_
      refine k_new (pc := 98) C (a + 10 + 3 * t) (ci := 2) (fs := [.int 0, .int 0, .null]) (q := (RX2, TX2, 3)) (ty := tyX2) (fun h => (iQ _ h).elim (fun q => by have z := hP _ q; omega) (fun q => by omega)) rfl u_104 u_106 u_8 tyX2_ok df_X2 ⟨show 6 + 3 * t + 1 ≤ 78 by omega, show 65 + 10 * t + 3 ≤ 305 by omega⟩ dX3_init_98 (fun P180 A181 g182 hq183 ha184 hg185 hx186 hk187 => ?_)
      rw [show B a = A181 a from (ha184 _ (by omega)).symm, show B (a + 6) = A181 (a + 6) from (ha184 _ (by omega)).symm]
      show V K (6 + 3 * t + 1) (65 + 10 * t + 3) P180 A181 g182 [(0, .ref (A181 a)), (1, .int (nI i)), (2, .int (nI t))] 101 [.ref (A181 (a + 10 + 3 * t)), .int (nI t), .ref (A181 (a + 6))]
      have hQ188 : ∀ j ∈ P180, j ∈ P ∨ ((a ≤ j ∧ j < a) ∨ (a + 1 ≤ j ∧ j < a + 1 + 1) ∨ (a + 1 + 1 ≤ j ∧ j < a + 1 + 2) ∨ (a + 3 ≤ j ∧ j < a + 3 + 1) ∨ (a + 3 + 1 ≤ j ∧ j < a + 3 + 2) ∨ (a + 5 ≤ j ∧ j < a + 5 + 1) ∨ (a + 6 ≤ j ∧ j < a + 6 + 1) ∨ (a + 10 ≤ j ∧ j < a + 10 + 3 * t) ∨ (a + 10 + 3 * t ≤ j ∧ j < a + 10 + 3 * t + 1)) := fun j hj => by
          rcases hq183 j hj with h | h
          · rcases iQ j h with q | q
            · exact Or.inl q
            · exact Or.inr (by omega)
          · exact Or.inr (by omega)
      have hB189 : ∀ j, ¬ ((a ≤ j ∧ j < a) ∨ (a + 1 ≤ j ∧ j < a + 1 + 1) ∨ (a + 1 + 1 ≤ j ∧ j < a + 1 + 2) ∨ (a + 3 ≤ j ∧ j < a + 3 + 1) ∨ (a + 3 + 1 ≤ j ∧ j < a + 3 + 2) ∨ (a + 5 ≤ j ∧ j < a + 5 + 1) ∨ (a + 6 ≤ j ∧ j < a + 6 + 1) ∨ (a + 10 ≤ j ∧ j < a + 10 + 3 * t) ∨ (a + 10 + 3 * t ≤ j ∧ j < a + 10 + 3 * t + 1)) → A181 j = A j := fun j hj => (ha184 j (by omega)).trans (iB j (by omega))
      have hF190 : ∀ j, j ≠ a → ¬ ((a ≤ j ∧ j < a) ∨ (a + 1 ≤ j ∧ j < a + 1 + 1) ∨ (a + 1 + 1 ≤ j ∧ j < a + 1 + 2) ∨ (a + 3 ≤ j ∧ j < a + 3 + 1) ∨ (a + 3 + 1 ≤ j ∧ j < a + 3 + 2) ∨ (a + 5 ≤ j ∧ j < a + 5 + 1) ∨ (a + 6 ≤ j ∧ j < a + 6 + 1) ∨ (a + 10 ≤ j ∧ j < a + 10 + 3 * t) ∨ (a + 10 + 3 * t ≤ j ∧ j < a + 10 + 3 * t + 1)) → g182 j = g j := fun j hk hj => (hg185 j (by omega)).trans (hF179 j hk (by omega))
      have h191 : g182 a = ob 3 [.int (nI i), .int (nI 0), .ref (A181 (a + 1)), .ref (A181 (a + 3)), .int (nI 0), .int (-6), .int (nI 0), .int (nI 0), .ref (A181 (a + 5)), .ref (A181 (a + 6))] := by
          have z := (hg185 _ (by omega)).trans h173
          rw [show B (a + 1) = A181 (a + 1) from (ha184 _ (by omega)).symm, show B (a + 3) = A181 (a + 3) from (ha184 _ (by omega)).symm, show B (a + 5) = A181 (a + 5) from (ha184 _ (by omega)).symm, show B (a + 6) = A181 (a + 6) from (ha184 _ (by omega)).symm] at z
          exact z
      have h192 : NLN A181 g182 (a + 1) 5 [] := h174.xt hx186
      have h193 : NLN A181 g182 (a + 3) 8 [] := h175.xt hx186
      have h194 : g182 (a + 6) = aq 3 24 (rwu A181 (a + 10) 3 t) := (hx186.at h176 p_nil).trans (by rw [rwu_e (fun j hj => ha184 _ (by omega))])
      have h195 : ∀ j, j < t → MS A181 g182 (a + 10 + 3 * j) none := fun j hj => (h177 j hj).xt hx186
      have h196 : g182 (a + 5) = ai 0 24 (hfl (t + 1)) := hx186.at h178 p_nil
      refine g_dup (pc := 101) C dX3_init_101 rfl ?_
      refine v_p0 fun h0197 => ?_
      have hf198 : ∀ j ∈ P180, ¬ (a + 10 + 3 * t + 1 ≤ j ∧ j < a + 10 + 3 * t + 3) ∧ ¬ (0 ≤ j ∧ j < 0) := fun j hj => by
          rcases hQ188 j hj with q | q
          · have z := hP j q
            omega
          · omega
      refine g_callIN (host := "ViewBroadcast") (pc := 102) C (As := []) (rest := [.ref (A181 (a + 10 + 3 * t)), .int (nI t), .ref (A181 (a + 6))]) (b := (a + 10 + 3 * t)) (c_X2_init A181 P180 g182 (a + 10 + 3 * t) hk187 hf198) u_108 u_8 u_109 (by decide) rfl N_X2_init ⟨Nat.le_of_ble_eq_true rfl, Nat.le_of_ble_eq_true rfl⟩ ⟨show 6 + 3 * t + 1 + 2 ≤ 78 by omega, show 65 + 10 * t + 3 + 7 ≤ 305 by omega⟩ (Nat.le_of_ble_eq_true rfl) rfl dX3_init_102 ?_
      rintro _ P199 A200 g201 ⟨rfl, hc202, hq203, ha204, hg205⟩
      have hx206 : Ext A181 (va_up g182 (a + 10 + 3 * t) p0) A200 g201 := Mk.ext ⟨hq203, ha204, hg205⟩ h0197 hf198
      have hu207 : Fr g182 (va_up g182 (a + 10 + 3 * t) p0) (a + 10 + 3 * t) (a + 10 + 3 * t + 1) := Fr.up (by omega) (by omega)
      rw [show A181 a = A200 a from (ha204 _ (by omega) (by omega)).symm, show A181 (a + 10 + 3 * t) = A200 (a + 10 + 3 * t) from (ha204 _ (by omega) (by omega)).symm, show A181 (a + 6) = A200 (a + 6) from (ha204 _ (by omega) (by omega)).symm]
      show V K (6 + 3 * t + 1 + 2) (65 + 10 * t + 3 + 7) P199 A200 g201 [(0, .ref (A200 a)), (1, .int (nI i)), (2, .int (nI t))] 105 [.ref (A200 (a + 10 + 3 * t)), .int (nI t), .ref (A200 (a + 6))]
      have hQ208 : ∀ j ∈ P199, j ∈ P ∨ ((a ≤ j ∧ j < a) ∨ (a + 1 ≤ j ∧ j < a + 1 + 1) ∨ (a + 1 + 1 ≤ j ∧ j < a + 1 + 2) ∨ (a + 3 ≤ j ∧ j < a + 3 + 1) ∨ (a + 3 + 1 ≤ j ∧ j < a + 3 + 2) ∨ (a + 5 ≤ j ∧ j < a + 5 + 1) ∨ (a + 6 ≤ j ∧ j < a + 6 + 1) ∨ (a + 10 ≤ j ∧ j < a + 10 + 3 * t) ∨ (a + 10 + 3 * t ≤ j ∧ j < a + 10 + 3 * t + 1) ∨ (a + 10 + 3 * t + 1 ≤ j ∧ j < a + 10 + 3 * t + 3)) := fun j hj => by
          rcases hq203 j hj with h | h
          · rcases hQ188 j h with q | q
            · exact Or.inl q
            · exact Or.inr (by omega)
          · exact Or.inr (by omega)
      have hB209 : ∀ j, ¬ ((a ≤ j ∧ j < a) ∨ (a + 1 ≤ j ∧ j < a + 1 + 1) ∨ (a + 1 + 1 ≤ j ∧ j < a + 1 + 2) ∨ (a + 3 ≤ j ∧ j < a + 3 + 1) ∨ (a + 3 + 1 ≤ j ∧ j < a + 3 + 2) ∨ (a + 5 ≤ j ∧ j < a + 5 + 1) ∨ (a + 6 ≤ j ∧ j < a + 6 + 1) ∨ (a + 10 ≤ j ∧ j < a + 10 + 3 * t) ∨ (a + 10 + 3 * t ≤ j ∧ j < a + 10 + 3 * t + 1) ∨ (a + 10 + 3 * t + 1 ≤ j ∧ j < a + 10 + 3 * t + 3)) → A200 j = A j := fun j hj => (ha204 j (by omega) (by omega)).trans (hB189 j (by omega))
      have hF210 : ∀ j, j ≠ a → ¬ ((a ≤ j ∧ j < a) ∨ (a + 1 ≤ j ∧ j < a + 1 + 1) ∨ (a + 1 + 1 ≤ j ∧ j < a + 1 + 2) ∨ (a + 3 ≤ j ∧ j < a + 3 + 1) ∨ (a + 3 + 1 ≤ j ∧ j < a + 3 + 2) ∨ (a + 5 ≤ j ∧ j < a + 5 + 1) ∨ (a + 6 ≤ j ∧ j < a + 6 + 1) ∨ (a + 10 ≤ j ∧ j < a + 10 + 3 * t) ∨ (a + 10 + 3 * t ≤ j ∧ j < a + 10 + 3 * t + 1) ∨ (a + 10 + 3 * t + 1 ≤ j ∧ j < a + 10 + 3 * t + 3)) → g201 j = g j := fun j hk hj => (hg205 j (by omega) (by omega) (by omega)).trans (hF190 j hk (by omega))
      have h211 : g201 a = ob 3 [.int (nI i), .int (nI 0), .ref (A200 (a + 1)), .ref (A200 (a + 3)), .int (nI 0), .int (-6), .int (nI 0), .int (nI 0), .ref (A200 (a + 5)), .ref (A200 (a + 6))] := by
          have z := (hg205 _ (by omega) (by omega) (by omega)).trans h191
          rw [show A181 (a + 1) = A200 (a + 1) from (ha204 _ (by omega) (by omega)).symm, show A181 (a + 3) = A200 (a + 3) from (ha204 _ (by omega) (by omega)).symm, show A181 (a + 5) = A200 (a + 5) from (ha204 _ (by omega) (by omega)).symm, show A181 (a + 6) = A200 (a + 6) from (ha204 _ (by omega) (by omega)).symm] at z
          exact z
      have h212 : NLN A200 g201 (a + 1) 5 [] := (h192.fr hu207 (by omega)).xt hx206
      have h213 : NLN A200 g201 (a + 3) 8 [] := (h193.fr hu207 (by omega)).xt hx206
      have h214 : g201 (a + 6) = aq 3 24 (rwu A200 (a + 10) 3 t) := (hx206.at ((va_up_ne _ _ (by omega)).trans h194) p_nil).trans (by rw [rwu_e (fun j hj => ha204 _ (by omega) (by omega))])
      have h215 : ∀ j, j < t → MS A200 g201 (a + 10 + 3 * j) none := fun j hj => ((h195 j hj).fr hu207 (by omega)).xt hx206
      have h216 : g201 (a + 5) = ai 0 24 (hfl (t + 1)) := hx206.at ((va_up_ne _ _ (by omega)).trans h196) p_nil
      refine k_astq (pc := 105) C h214 hc202.1 rfl (fun _ => rfl) (nI_clamp (by omega)) (nI_in0 (n := 24) (by omega) (by omega)) dX3_init_105 (fun g217 hu218 hk219 => ?_)
      show V K (6 + 3 * t + 1 + 2) (65 + 10 * t + 3 + 7) P199 A200 g217 [(0, .ref (A200 a)), (1, .int (nI i)), (2, .int (nI t))] 106 []
      have hp220 : Fr g201 g217 (a + 6) (a + 6 + 1) := fun j hj => hu218 j (by omega)
      have h221 : g217 a = ob 3 [.int (nI i), .int (nI 0), .ref (A200 (a + 1)), .ref (A200 (a + 3)), .int (nI 0), .int (-6), .int (nI 0), .int (nI 0), .ref (A200 (a + 5)), .ref (A200 (a + 6))] := (hu218 _ (by omega)).trans h211
      have h222 : NLN A200 g217 (a + 1) 5 [] := h212.fr hp220 (by omega)
      have h223 : NLN A200 g217 (a + 3) 8 [] := h213.fr hp220 (by omega)
      have h224 : ∀ j, j < t → MS A200 g217 (a + 10 + 3 * j) none := fun j hj => (h215 j hj).fr hp220 (by omega)
      have h225 : g217 (a + 5) = ai 0 24 (hfl (t + 1)) := (hu218 _ (by omega)).trans h216
      have h226 : MS A200 g217 (a + 10 + 3 * t) none := hc202.fr hp220 (by omega)
      have h227 : g217 (a + 6) = aq 3 24 (rwu A200 (a + 10) 3 (t + 1)) := hk219.trans (by rw [rwu_s])
      have hF228 : ∀ j, j ≠ a → ¬ ((a ≤ j ∧ j < a) ∨ (a + 1 ≤ j ∧ j < a + 1 + 1) ∨ (a + 1 + 1 ≤ j ∧ j < a + 1 + 2) ∨ (a + 3 ≤ j ∧ j < a + 3 + 1) ∨ (a + 3 + 1 ≤ j ∧ j < a + 3 + 2) ∨ (a + 5 ≤ j ∧ j < a + 5 + 1) ∨ (a + 6 ≤ j ∧ j < a + 6 + 1) ∨ (a + 10 ≤ j ∧ j < a + 10 + 3 * t) ∨ (a + 10 + 3 * t ≤ j ∧ j < a + 10 + 3 * t + 1) ∨ (a + 10 + 3 * t + 1 ≤ j ∧ j < a + 10 + 3 * t + 3)) → g217 j = g j := fun j hk hj => (hu218 j (by omega)).trans (hF210 j hk hj)
      refine g_iinc (pc := 106) C dX3_init_106 (by decide) 2 rfl (v := nI (t + 1)) (nI_i1 _) (lv' := [(0, .ref (A200 a)), (1, .int (nI i)), (2, .int (nI (t + 1)))]) [1, 2, 0] rfl ?_
      refine g_goto (pc := 109) C dX3_init_109 (tgt := 79) (by decide) ?_
      rw [show 6 + 3 * t + 1 + 2 = 6 + 3 * (t + 1) by omega, show 65 + 10 * t + 3 + 7 = 65 + 10 * (t + 1) by omega]
      exact ih (t + 1) (by omega) P199 A200 g217 ⟨fun j hj => by
          rcases hQ208 j hj with q | q
          · exact Or.inl q
          · exact Or.inr (by omega), fun j hj => hB209 j (by omega), fun j hk hj => hF228 j hk (by omega), h221, h222, h223, h225, h227, fun j hj => by
          rcases Nat.lt_succ_iff_lt_or_eq.mp hj with q | q
          · exact h224 j q
          · subst q
            exact h226⟩
  exact lp 24 0 (by omega) P133 A134 g159 ⟨fun j hj => by
      rcases hQ141 j hj with q | q
      · exact Or.inl q
      · exact Or.inr (by omega), fun j hj => hB142 j (by omega), fun j hk hj => hF168 j hk (by omega), hO167, h163, h164, by rw [hfl_0]; exact h165, h166, fun j hj => absurd hj (Nat.not_lt_zero _)⟩
abbrev rm_X5_init : Room := { frames := 3, cells := 1501, slots := 7000, locals := 62 }
theorem N_X5_init : yX5_init.cls ≠ "java/lang/invoke/MethodHandle" ∧ yX5_init.cls ≠ "java/lang/invoke/VarHandle" ∧ (parseMethodDescriptor yX5_init.desc).map (fun d => d.parameters.length) = some 0 := by decide +kernel
theorem df_X5 : ∀ j, j < 4 → defaultValue (tyX5 j) = vp_V [.null, .int 0, .int 0, .int 0] j := by
  intro j hj
  match j, hj with
  | 0, _ => exact rfl
  | 1, _ => exact rfl
  | 2, _ => exact rfl
  | 3, _ => exact rfl
  | n + 4, h => exact absurd h (by omega)
set_option maxRecDepth 20000 in
set_option maxHeartbeats 4000000 in
theorem c_X5_init (A : Nat → Nat) (P : List Nat) (g : pM) (w : Nat) (hO : g (w + 3) = ob 5 [.null, .int 0, .int 0, .int 0]) (hP : ∀ j ∈ P, ¬ (w + 4 ≤ j ∧ j < w + 5) ∧ ¬ (w + 2000 ≤ j ∧ j < w + 3500)) : PX yX5_init cX5_init 2 (Option.none : Option Jvm.ClassFile.FieldType) rm_X5_init [.ref (A (w + 3))] P A g (fun v P' A' g' => v = none ∧ (RW A' g' w [] 0) ∧ Mk (w + 3) (w + 4) (w + 5) (w + 2000) (w + 3500) P A g P' A' g') := by
  refine px_intro (by decide +kernel) (Nat.le_of_ble_eq_true rfl) (fun K sz C R => ?_)
  have hQ0 : ∀ j ∈ P, j ∈ P ∨ ((w + 3 ≤ j ∧ j < w + 3)) := fun j hj => Or.inl hj
  have hB0 : ∀ j, ¬ ((w + 3 ≤ j ∧ j < w + 3)) → A j = A j := fun j hj => rfl
  have hF0 : ∀ j, j ≠ w + 3 → ¬ ((w + 3 ≤ j ∧ j < w + 3)) → g j = g j := fun j hk hj => rfl
  show V K 0 0 P A g [(0, .ref (A (w + 3)))] 0 []
  refine g_aload_n (pc := 0) C dX5_init_0 0 rfl ?_
  refine g_objInit (pc := 1) C u_184 u_21 u_22 (Nat.le_of_ble_eq_true rfl) (Nat.le_of_ble_eq_true rfl) dX5_init_1 ?_
  refine g_aload_n (pc := 4) C dX5_init_4 0 rfl ?_
  refine g_sipush (pc := 5) C dX5_init_5 (v := nI 500) rfl ?_
  refine k_newq (pc := 8) C (w + 4) (N' := 500) (c1 := 2) (fun h => (hQ0 _ h).elim (fun q => by have z := hP _ q; omega) (fun q => by omega)) (by decide) (fun _ => rfl) u_185 (nI_pos (by omega)) (nI_clamp (by omega)) (by omega) ⟨show 0 + 1 ≤ 1501 by omega, show 0 + 500 ≤ 7000 by omega⟩ dX5_init_8 (fun P1 A2 g3 hq4 ha5 hg6 hx7 hk8 => ?_)
  rw [show A (w + 3) = A2 (w + 3) from (ha5 _ (by omega)).symm]
  show V K 1 500 P1 A2 g3 [(0, .ref (A2 (w + 3)))] 11 [.ref (A2 (w + 4)), .ref (A2 (w + 3))]
  have hQ9 : ∀ j ∈ P1, j ∈ P ∨ ((w + 3 ≤ j ∧ j < w + 3) ∨ (w + 4 ≤ j ∧ j < w + 4 + 1)) := fun j hj => by
      rcases hq4 j hj with h | h
      · rcases hQ0 j h with q | q
        · exact Or.inl q
        · exact Or.inr (by omega)
      · exact Or.inr (by omega)
  have hB10 : ∀ j, ¬ ((w + 3 ≤ j ∧ j < w + 3) ∨ (w + 4 ≤ j ∧ j < w + 4 + 1)) → A2 j = A j := fun j hj => (ha5 j (by omega)).trans (hB0 j (by omega))
  have hF11 : ∀ j, j ≠ w + 3 → ¬ ((w + 3 ≤ j ∧ j < w + 3) ∨ (w + 4 ≤ j ∧ j < w + 4 + 1)) → g3 j = g j := fun j hk hj => (hg6 j (by omega)).trans (hF0 j hk (by omega))
  have h12 : g3 (w + 3) = ob 5 [.null, .int 0, .int 0, .int 0] := (hg6 _ (by omega)).trans hO
  have h13 : g3 (w + 4) = aq 2 500 (rwu A2 (w + 2000) 3 0) := hk8.trans (by rw [rwu_0])
  refine k_putF (pc := 11) C (j := 0) R.2.2.2.2.2 h12 rfl (by decide) (Nat.le_of_ble_eq_true rfl) u_228 rfl rfl (tyX5_ok 0 (by decide)) rfl rfl dX5_init_11 (fun g14 hu15 hO16 => ?_)
  show V K 1 500 P1 A2 g14 [(0, .ref (A2 (w + 3)))] 14 []
  have hp17 : Fr g3 g14 (w + 3) (w + 3 + 1) := fun j hj => hu15 j (by omega)
  have h18 : g14 (w + 4) = aq 2 500 (rwu A2 (w + 2000) 3 0) := (hu15 _ (by omega)).trans h13
  have hO19 : g14 (w + 3) = ob 5 [.ref (A2 (w + 4)), .int 0, .int 0, .int 0] := hO16
  have hF20 : ∀ j, j ≠ w + 3 → ¬ ((w + 3 ≤ j ∧ j < w + 3) ∨ (w + 4 ≤ j ∧ j < w + 4 + 1)) → g14 j = g j := fun j hk hj => (hu15 j hk).trans (hF11 j hk hj)
  refine g_aload_n (pc := 14) C dX5_init_14 0 rfl ?_
  refine g_iconst (pc := 15) C dX5_init_15 (v := nI 0) rfl ?_
  refine k_put (pc := 16) C (j := 1) hO19 rfl (by decide) (Nat.le_of_ble_eq_true rfl) u_229 rfl (tyX5_ok 1 (by decide)) rfl rfl dX5_init_16 (fun g21 hu22 hO23 => ?_)
  show V K 1 500 P1 A2 g21 [(0, .ref (A2 (w + 3)))] 19 []
  have hp24 : Fr g14 g21 (w + 3) (w + 3 + 1) := fun j hj => hu22 j (by omega)
  have h25 : g21 (w + 4) = aq 2 500 (rwu A2 (w + 2000) 3 0) := (hu22 _ (by omega)).trans h18
  have hO26 : g21 (w + 3) = ob 5 [.ref (A2 (w + 4)), .int (nI 0), .int 0, .int 0] := hO23
  have hF27 : ∀ j, j ≠ w + 3 → ¬ ((w + 3 ≤ j ∧ j < w + 3) ∨ (w + 4 ≤ j ∧ j < w + 4 + 1)) → g21 j = g j := fun j hk hj => (hu22 j hk).trans (hF20 j hk hj)
  refine g_aload_n (pc := 19) C dX5_init_19 0 rfl ?_
  refine g_iconst (pc := 20) C dX5_init_20 (v := nI 0) rfl ?_
  refine k_put (pc := 21) C (j := 2) hO26 rfl (by decide) (Nat.le_of_ble_eq_true rfl) u_230 rfl (tyX5_ok 2 (by decide)) rfl rfl dX5_init_21 (fun g28 hu29 hO30 => ?_)
  show V K 1 500 P1 A2 g28 [(0, .ref (A2 (w + 3)))] 24 []
  have hp31 : Fr g21 g28 (w + 3) (w + 3 + 1) := fun j hj => hu29 j (by omega)
  have h32 : g28 (w + 4) = aq 2 500 (rwu A2 (w + 2000) 3 0) := (hu29 _ (by omega)).trans h25
  have hO33 : g28 (w + 3) = ob 5 [.ref (A2 (w + 4)), .int (nI 0), .int (nI 0), .int 0] := hO30
  have hF34 : ∀ j, j ≠ w + 3 → ¬ ((w + 3 ≤ j ∧ j < w + 3) ∨ (w + 4 ≤ j ∧ j < w + 4 + 1)) → g28 j = g j := fun j hk hj => (hu29 j hk).trans (hF27 j hk hj)
  refine g_aload_n (pc := 24) C dX5_init_24 0 rfl ?_
  refine g_iconst (pc := 25) C dX5_init_25 (v := nI 0) rfl ?_
  refine k_put (pc := 26) C (j := 3) hO33 rfl (by decide) (Nat.le_of_ble_eq_true rfl) u_233 rfl (tyX5_ok 3 (by decide)) rfl rfl dX5_init_26 (fun g35 hu36 hO37 => ?_)
  show V K 1 500 P1 A2 g35 [(0, .ref (A2 (w + 3)))] 29 []
  have hp38 : Fr g28 g35 (w + 3) (w + 3 + 1) := fun j hj => hu36 j (by omega)
  have h39 : g35 (w + 4) = aq 2 500 (rwu A2 (w + 2000) 3 0) := (hu36 _ (by omega)).trans h32
  have hO40 : g35 (w + 3) = ob 5 [.ref (A2 (w + 4)), .int (nI 0), .int (nI 0), .int (nI 0)] := hO37
  have hF41 : ∀ j, j ≠ w + 3 → ¬ ((w + 3 ≤ j ∧ j < w + 3) ∨ (w + 4 ≤ j ∧ j < w + 4 + 1)) → g35 j = g j := fun j hk hj => (hu36 j hk).trans (hF34 j hk hj)
  refine g_iconst (pc := 29) C dX5_init_29 (v := nI 0) rfl ?_
  refine g_istore_n (pc := 30) C dX5_init_30 (by decide) (lv' := [(0, .ref (A2 (w + 3))), (1, .int (nI 0))]) [1, 0] rfl ?_
  have lp : ∀ (n t : Nat), t + n = 500 → ∀ (Q : List Nat) (B : Nat → Nat) (f : pM), (∀ j ∈ Q, j ∈ P ∨ ((w + 3 ≤ j ∧ j < w + 3) ∨ (w + 4 ≤ j ∧ j < w + 4 + 1) ∨ (w + 2000 ≤ j ∧ j < w + 2000 + 3 * t))) ∧ (∀ j, ¬ ((w + 3 ≤ j ∧ j < w + 3) ∨ (w + 4 ≤ j ∧ j < w + 4 + 1) ∨ (w + 2000 ≤ j ∧ j < w + 2000 + 3 * t)) → B j = A j) ∧ (∀ j, j ≠ w + 3 → ¬ ((w + 3 ≤ j ∧ j < w + 3) ∨ (w + 4 ≤ j ∧ j < w + 4 + 1) ∨ (w + 2000 ≤ j ∧ j < w + 2000 + 3 * t)) → f j = g j) ∧ f (w + 3) = ob 5 [.ref (B (w + 4)), .int (nI 0), .int (nI 0), .int (nI 0)] ∧ (f (w + 4) = aq 2 500 (rwu B (w + 2000) 3 t)) ∧ (∀ j, j < t → LT B f (w + 2000 + 3 * j) lt0) → V K (1 + 3 * t) (500 + 13 * t) Q B f [(0, .ref (B (w + 3))), (1, .int (nI t))] 31 [] := by
    intro n
    induction n with
    | zero =>
      intro t ht Q B f hI
      obtain ⟨iQ, iB, iF, iO, i0, i1⟩ := hI
      refine g_iload_n (pc := 31) C dX5_init_31 1 rfl ?_
      refine g_sipush (pc := 32) C dX5_init_32 (v := nI 500) rfl ?_
      refine g_icmp_ge (pc := 35) C dX5_init_35 (tgt := 57) (by decide) (fun _ => ?_) (fun q => absurd ((nI_leI (by omega) (by omega)).mpr (show 500 ≤ t by omega)) q)
      have htN : t = 500 := by omega
      subst htN
      show V K (1 + 3 * 500) (500 + 13 * 500) Q B f [(0, .ref (B (w + 3))), (1, .int (nI 500))] 57 []
      exact g_vret (pc := 57) C R ⟨rfl, ⟨0, _, fun k => k, fun _ => lt0, ⟨by omega, Nat.zero_le _, fun k hk => hk, fun i j _ _ h => h⟩, ⟨iO, i0, fun k hk => by simp only [rwu]; rw [Nat.zero_add, Nat.mod_eq_of_lt hk, if_pos hk]⟩, i1, fun k hk => absurd hk (Nat.not_lt_zero _), fun t ht => absurd ht List.not_mem_nil⟩, fun j hj => by
          rcases iQ j hj with q | q
          · exact Or.inl q
          · exact Or.inr (by omega), fun j h1 h2 => iB j (by omega), fun j h0 h1 h2 => iF j h0 (by omega)⟩ (show 1 + 3 * 500 ≤ 1501 by omega) (show 500 + 13 * 500 ≤ 7000 by omega) dX5_init_57
    | succ n ih =>
      intro t ht Q B f hI
      obtain ⟨iQ, iB, iF, iO, i0, i1⟩ := hI
      refine g_iload_n (pc := 31) C dX5_init_31 1 rfl ?_
      refine g_sipush (pc := 32) C dX5_init_32 (v := nI 500) rfl ?_
      refine g_icmp_ge (pc := 35) C dX5_init_35 (tgt := 57) (by decide) (fun q => absurd ((nI_leI (by omega) (by omega)).mp q) (show ¬ 500 ≤ t by omega)) (fun _ => ?_)
      show V K (1 + 3 * t) (500 + 13 * t) Q B f [(0, .ref (B (w + 3))), (1, .int (nI t))] 38 []
      refine g_aload_n (pc := 38) C dX5_init_38 0 rfl ?_
      refine g_get (pc := 39) C (j := 0) iO rfl rfl (by decide) u_228 dX5_init_39 ?_
      show V K (1 + 3 * t) (500 + 13 * t) Q B f [(0, .ref (B (w + 3))), (1, .int (nI t))] 42 [.ref (B (w + 4))]
      refine g_iload_n (pc := 42) C dX5_init_42 1 rfl ?_
      refine k_new (pc := 43) C (w + 2000 + 3 * t) (ci := 1) (fs := [.int 0, .int 0, .int 0, .int 0, .int 0, .null]) (q := (RX1, TX1, 6)) (ty := tyX1) (fun h => (iQ _ h).elim (fun q => by have z := hP _ q; omega) (fun q => by omega)) rfl u_185 u_187 u_10 tyX1_ok df_X1 ⟨show 1 + 3 * t + 1 ≤ 1501 by omega, show 500 + 13 * t + 6 ≤ 7000 by omega⟩ dX5_init_43 (fun P42 A43 g44 hq45 ha46 hg47 hx48 hk49 => ?_)
      rw [show B (w + 3) = A43 (w + 3) from (ha46 _ (by omega)).symm, show B (w + 4) = A43 (w + 4) from (ha46 _ (by omega)).symm]
      show V K (1 + 3 * t + 1) (500 + 13 * t + 6) P42 A43 g44 [(0, .ref (A43 (w + 3))), (1, .int (nI t))] 46 [.ref (A43 (w + 2000 + 3 * t)), .int (nI t), .ref (A43 (w + 4))]
      have hQ50 : ∀ j ∈ P42, j ∈ P ∨ ((w + 3 ≤ j ∧ j < w + 3) ∨ (w + 4 ≤ j ∧ j < w + 4 + 1) ∨ (w + 2000 ≤ j ∧ j < w + 2000 + 3 * t) ∨ (w + 2000 + 3 * t ≤ j ∧ j < w + 2000 + 3 * t + 1)) := fun j hj => by
          rcases hq45 j hj with h | h
          · rcases iQ j h with q | q
            · exact Or.inl q
            · exact Or.inr (by omega)
          · exact Or.inr (by omega)
      have hB51 : ∀ j, ¬ ((w + 3 ≤ j ∧ j < w + 3) ∨ (w + 4 ≤ j ∧ j < w + 4 + 1) ∨ (w + 2000 ≤ j ∧ j < w + 2000 + 3 * t) ∨ (w + 2000 + 3 * t ≤ j ∧ j < w + 2000 + 3 * t + 1)) → A43 j = A j := fun j hj => (ha46 j (by omega)).trans (iB j (by omega))
      have hF52 : ∀ j, j ≠ w + 3 → ¬ ((w + 3 ≤ j ∧ j < w + 3) ∨ (w + 4 ≤ j ∧ j < w + 4 + 1) ∨ (w + 2000 ≤ j ∧ j < w + 2000 + 3 * t) ∨ (w + 2000 + 3 * t ≤ j ∧ j < w + 2000 + 3 * t + 1)) → g44 j = g j := fun j hk hj => (hg47 j (by omega)).trans (iF j hk (by omega))
      have h53 : g44 (w + 3) = ob 5 [.ref (A43 (w + 4)), .int (nI 0), .int (nI 0), .int (nI 0)] := by
          have z := (hg47 _ (by omega)).trans iO
          rw [show B (w + 4) = A43 (w + 4) from (ha46 _ (by omega)).symm] at z
          exact z
      have h54 : g44 (w + 4) = aq 2 500 (rwu A43 (w + 2000) 3 t) := (hx48.at i0 p_nil).trans (by rw [rwu_e (fun j hj => ha46 _ (by omega))])
      have h55 : ∀ j, j < t → LT A43 g44 (w + 2000 + 3 * j) lt0 := fun j hj => (i1 j hj).xt hx48
      refine g_dup (pc := 46) C dX5_init_46 rfl ?_
      refine v_p0 fun h056 => ?_
      have hf57 : ∀ j ∈ P42, ¬ (w + 2000 + 3 * t + 1 ≤ j ∧ j < w + 2000 + 3 * t + 3) ∧ ¬ (0 ≤ j ∧ j < 0) := fun j hj => by
          rcases hQ50 j hj with q | q
          · have z := hP j q
            omega
          · omega
      refine g_callIN (host := "ViewBroadcast") (pc := 47) C (As := []) (rest := [.ref (A43 (w + 2000 + 3 * t)), .int (nI t), .ref (A43 (w + 4))]) (b := (w + 2000 + 3 * t)) (c_X1_init A43 P42 g44 (w + 2000 + 3 * t) hk49 hf57) u_189 u_10 u_190 (by decide) rfl N_X1_init ⟨Nat.le_of_ble_eq_true rfl, Nat.le_of_ble_eq_true rfl⟩ ⟨show 1 + 3 * t + 1 + 2 ≤ 1501 by omega, show 500 + 13 * t + 6 + 7 ≤ 7000 by omega⟩ (Nat.le_of_ble_eq_true rfl) rfl dX5_init_47 ?_
      rintro _ P58 A59 g60 ⟨rfl, hc61, hq62, ha63, hg64⟩
      have hx65 : Ext A43 (va_up g44 (w + 2000 + 3 * t) p0) A59 g60 := Mk.ext ⟨hq62, ha63, hg64⟩ h056 hf57
      have hu66 : Fr g44 (va_up g44 (w + 2000 + 3 * t) p0) (w + 2000 + 3 * t) (w + 2000 + 3 * t + 1) := Fr.up (by omega) (by omega)
      rw [show A43 (w + 3) = A59 (w + 3) from (ha63 _ (by omega) (by omega)).symm, show A43 (w + 2000 + 3 * t) = A59 (w + 2000 + 3 * t) from (ha63 _ (by omega) (by omega)).symm, show A43 (w + 4) = A59 (w + 4) from (ha63 _ (by omega) (by omega)).symm]
      show V K (1 + 3 * t + 1 + 2) (500 + 13 * t + 6 + 7) P58 A59 g60 [(0, .ref (A59 (w + 3))), (1, .int (nI t))] 50 [.ref (A59 (w + 2000 + 3 * t)), .int (nI t), .ref (A59 (w + 4))]
      have hQ67 : ∀ j ∈ P58, j ∈ P ∨ ((w + 3 ≤ j ∧ j < w + 3) ∨ (w + 4 ≤ j ∧ j < w + 4 + 1) ∨ (w + 2000 ≤ j ∧ j < w + 2000 + 3 * t) ∨ (w + 2000 + 3 * t ≤ j ∧ j < w + 2000 + 3 * t + 1) ∨ (w + 2000 + 3 * t + 1 ≤ j ∧ j < w + 2000 + 3 * t + 3)) := fun j hj => by
          rcases hq62 j hj with h | h
          · rcases hQ50 j h with q | q
            · exact Or.inl q
            · exact Or.inr (by omega)
          · exact Or.inr (by omega)
      have hB68 : ∀ j, ¬ ((w + 3 ≤ j ∧ j < w + 3) ∨ (w + 4 ≤ j ∧ j < w + 4 + 1) ∨ (w + 2000 ≤ j ∧ j < w + 2000 + 3 * t) ∨ (w + 2000 + 3 * t ≤ j ∧ j < w + 2000 + 3 * t + 1) ∨ (w + 2000 + 3 * t + 1 ≤ j ∧ j < w + 2000 + 3 * t + 3)) → A59 j = A j := fun j hj => (ha63 j (by omega) (by omega)).trans (hB51 j (by omega))
      have hF69 : ∀ j, j ≠ w + 3 → ¬ ((w + 3 ≤ j ∧ j < w + 3) ∨ (w + 4 ≤ j ∧ j < w + 4 + 1) ∨ (w + 2000 ≤ j ∧ j < w + 2000 + 3 * t) ∨ (w + 2000 + 3 * t ≤ j ∧ j < w + 2000 + 3 * t + 1) ∨ (w + 2000 + 3 * t + 1 ≤ j ∧ j < w + 2000 + 3 * t + 3)) → g60 j = g j := fun j hk hj => (hg64 j (by omega) (by omega) (by omega)).trans (hF52 j hk (by omega))
      have h70 : g60 (w + 3) = ob 5 [.ref (A59 (w + 4)), .int (nI 0), .int (nI 0), .int (nI 0)] := by
          have z := (hg64 _ (by omega) (by omega) (by omega)).trans h53
          rw [show A43 (w + 4) = A59 (w + 4) from (ha63 _ (by omega) (by omega)).symm] at z
          exact z
      have h71 : g60 (w + 4) = aq 2 500 (rwu A59 (w + 2000) 3 t) := (hx65.at ((va_up_ne _ _ (by omega)).trans h54) p_nil).trans (by rw [rwu_e (fun j hj => ha63 _ (by omega) (by omega))])
      have h72 : ∀ j, j < t → LT A59 g60 (w + 2000 + 3 * j) lt0 := fun j hj => ((h55 j hj).fr hu66 (by omega)).xt hx65
      refine k_astq (pc := 50) C h71 hc61.1 rfl (fun _ => rfl) (nI_clamp (by omega)) (nI_in0 (n := 500) (by omega) (by omega)) dX5_init_50 (fun g73 hu74 hk75 => ?_)
      show V K (1 + 3 * t + 1 + 2) (500 + 13 * t + 6 + 7) P58 A59 g73 [(0, .ref (A59 (w + 3))), (1, .int (nI t))] 51 []
      have hp76 : Fr g60 g73 (w + 4) (w + 4 + 1) := fun j hj => hu74 j (by omega)
      have h77 : g73 (w + 3) = ob 5 [.ref (A59 (w + 4)), .int (nI 0), .int (nI 0), .int (nI 0)] := (hu74 _ (by omega)).trans h70
      have h78 : ∀ j, j < t → LT A59 g73 (w + 2000 + 3 * j) lt0 := fun j hj => (h72 j hj).fr hp76 (by omega)
      have h79 : LT A59 g73 (w + 2000 + 3 * t) lt0 := hc61.fr hp76 (by omega)
      have h80 : g73 (w + 4) = aq 2 500 (rwu A59 (w + 2000) 3 (t + 1)) := hk75.trans (by rw [rwu_s])
      have hF81 : ∀ j, j ≠ w + 3 → ¬ ((w + 3 ≤ j ∧ j < w + 3) ∨ (w + 4 ≤ j ∧ j < w + 4 + 1) ∨ (w + 2000 ≤ j ∧ j < w + 2000 + 3 * t) ∨ (w + 2000 + 3 * t ≤ j ∧ j < w + 2000 + 3 * t + 1) ∨ (w + 2000 + 3 * t + 1 ≤ j ∧ j < w + 2000 + 3 * t + 3)) → g73 j = g j := fun j hk hj => (hu74 j (by omega)).trans (hF69 j hk hj)
      refine g_iinc (pc := 51) C dX5_init_51 (by decide) 1 rfl (v := nI (t + 1)) (nI_i1 _) (lv' := [(0, .ref (A59 (w + 3))), (1, .int (nI (t + 1)))]) [1, 0] rfl ?_
      refine g_goto (pc := 54) C dX5_init_54 (tgt := 31) (by decide) ?_
      rw [show 1 + 3 * t + 1 + 2 = 1 + 3 * (t + 1) by omega, show 500 + 13 * t + 6 + 7 = 500 + 13 * (t + 1) by omega]
      exact ih (t + 1) (by omega) P58 A59 g73 ⟨fun j hj => by
          rcases hQ67 j hj with q | q
          · exact Or.inl q
          · exact Or.inr (by omega), fun j hj => hB68 j (by omega), fun j hk hj => hF81 j hk (by omega), h77, h80, fun j hj => by
          rcases Nat.lt_succ_iff_lt_or_eq.mp hj with q | q
          · exact h78 j q
          · subst q
            exact h79⟩
  exact lp 500 0 (by omega) P1 A2 g35 ⟨fun j hj => by
      rcases hQ9 j hj with q | q
      · exact Or.inl q
      · exact Or.inr (by omega), fun j hj => hB10 j (by omega), fun j hk hj => hF41 j hk (by omega), hO40, h39, fun j hj => absurd hj (Nat.not_lt_zero _)⟩
