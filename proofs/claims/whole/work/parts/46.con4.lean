-- PART 46: the constructor of the class
theorem VV.fr {A : Nat → Nat} {g g' : pM} {w lo hi : Nat} (h : VV A g w) (hf : Fr g g' lo hi) (hd : hi ≤ w + 15000 ∨ w + 15005 ≤ lo) : VV A g' w := ⟨hf.at (by omega) h.1, h.2.1.fr hf (by omega), h.2.2.fr hf (by omega)⟩
theorem VV.xt {A A' : Nat → Nat} {g g' : pM} {w : Nat} (h : VV A g w) (x : Ext A g A' g') (h1 : A' w = A w) (h2 : A' (w + 1) = A (w + 1)) : VV A' g' w := by
  refine ⟨?_, h.2.1.xt x, h.2.2.xt x⟩
  rw [h1, h2, (x _ h.2.1.1.ne).2, (x _ h.2.2.1.ne).2]
  exact x.at h.1 (ob_ne (by omega))
abbrev rm_X10_init : Room := { frames := 5, cells := 8566, slots := 37343, locals := 106 }
theorem N_X10_init : yX10_init.cls ≠ "java/lang/invoke/MethodHandle" ∧ yX10_init.cls ≠ "java/lang/invoke/VarHandle" ∧ (parseMethodDescriptor yX10_init.desc).map (fun d => d.parameters.length) = some 0 := by decide +kernel
theorem df_X10 : ∀ j, j < 6 → defaultValue (tyX10 j) = vp_V [.null, .null, .null, .null, .null, .null] j := by
  intro j hj
  match j, hj with
  | 0, _ => exact rfl
  | 1, _ => exact rfl
  | 2, _ => exact rfl
  | 3, _ => exact rfl
  | 4, _ => exact rfl
  | 5, _ => exact rfl
  | n + 6, h => exact absurd h (by omega)
set_option maxRecDepth 20000 in
set_option maxHeartbeats 4000000 in
theorem c_X10_init (A : Nat → Nat) (P : List Nat) (g : pM) (w : Nat) (hO : g (w + 15010) = ob 10 [.null, .null, .null, .null, .null, .null]) (hP : ∀ j ∈ P, ¬ (w ≤ j ∧ j < w + 15010) ∧ ¬ (0 ≤ j ∧ j < 0)) : PX yX10_init cX10_init 2 (Option.none : Option Jvm.ClassFile.FieldType) rm_X10_init [.ref (A (w + 15010))] P A g (fun v P' A' g' => v = none ∧ (VB A' g' w [] sg0 (fun _ => none)) ∧ Mk (w + 15010) w (w + 15010) 0 0 P A g P' A' g') := by
  refine px_intro (by decide +kernel) (Nat.le_of_ble_eq_true rfl) (fun K sz C R => ?_)
  have hQ0 : ∀ j ∈ P, j ∈ P ∨ ((w + 15010 ≤ j ∧ j < w + 15010)) := fun j hj => Or.inl hj
  have hB0 : ∀ j, ¬ ((w + 15010 ≤ j ∧ j < w + 15010)) → A j = A j := fun j hj => rfl
  have hF0 : ∀ j, j ≠ w + 15010 → ¬ ((w + 15010 ≤ j ∧ j < w + 15010)) → g j = g j := fun j hk hj => rfl
  show V K 0 0 P A g [(0, .ref (A (w + 15010)))] 0 []
  refine g_aload_n (pc := 0) C dX10_init_0 0 rfl ?_
  refine g_objInit (pc := 1) C u_20 u_21 u_22 (Nat.le_of_ble_eq_true rfl) (Nat.le_of_ble_eq_true rfl) dX10_init_1 ?_
  refine g_aload_n (pc := 4) C dX10_init_4 0 rfl ?_
  refine k_new (pc := 5) C (w + 15005) (ci := 0) (fs := [.null, .int 0]) (q := (RX0, TX0, 2)) (ty := tyX0) (fun h => (hQ0 _ h).elim (fun q => by have z := hP _ q; omega) (fun q => by omega)) rfl u_23 u_24 u_2 tyX0_ok df_X0 ⟨show 0 + 1 ≤ 8566 by omega, show 0 + 2 ≤ 37343 by omega⟩ dX10_init_5 (fun P1 A2 g3 hq4 ha5 hg6 hx7 hk8 => ?_)
  rw [show A (w + 15010) = A2 (w + 15010) from (ha5 _ (by omega)).symm]
  show V K 1 2 P1 A2 g3 [(0, .ref (A2 (w + 15010)))] 8 [.ref (A2 (w + 15005)), .ref (A2 (w + 15010))]
  have hQ9 : ∀ j ∈ P1, j ∈ P ∨ ((w + 15010 ≤ j ∧ j < w + 15010) ∨ (w + 15005 ≤ j ∧ j < w + 15005 + 1)) := fun j hj => by
      rcases hq4 j hj with h | h
      · rcases hQ0 j h with q | q
        · exact Or.inl q
        · exact Or.inr (by omega)
      · exact Or.inr (by omega)
  have hB10 : ∀ j, ¬ ((w + 15010 ≤ j ∧ j < w + 15010) ∨ (w + 15005 ≤ j ∧ j < w + 15005 + 1)) → A2 j = A j := fun j hj => (ha5 j (by omega)).trans (hB0 j (by omega))
  have hF11 : ∀ j, j ≠ w + 15010 → ¬ ((w + 15010 ≤ j ∧ j < w + 15010) ∨ (w + 15005 ≤ j ∧ j < w + 15005 + 1)) → g3 j = g j := fun j hk hj => (hg6 j (by omega)).trans (hF0 j hk (by omega))
  have h12 : g3 (w + 15010) = ob 10 [.null, .null, .null, .null, .null, .null] := (hg6 _ (by omega)).trans hO
  refine g_dup (pc := 8) C dX10_init_8 rfl ?_
  refine v_p0 fun h013 => ?_
  have hf14 : ∀ j ∈ P1, ¬ (w + 15005 + 1 ≤ j ∧ j < w + 15005 + 2) ∧ ¬ (0 ≤ j ∧ j < 0) := fun j hj => by
      rcases hQ9 j hj with q | q
      · have z := hP j q
        omega
      · omega
  refine g_callIN (host := "ViewBroadcast") (pc := 9) C (As := []) (rest := [.ref (A2 (w + 15005)), .ref (A2 (w + 15010))]) (b := (w + 15005)) (c_X0_init A2 P1 g3 (w + 15005) hk8 hf14) u_26 u_2 u_27 (by decide) rfl N_X0_init ⟨Nat.le_of_ble_eq_true rfl, Nat.le_of_ble_eq_true rfl⟩ ⟨show 1 + 1 ≤ 8566 by omega, show 2 + 64 ≤ 37343 by omega⟩ (Nat.le_of_ble_eq_true rfl) rfl dX10_init_9 ?_
  rintro _ P15 A16 g17 ⟨rfl, hc18, hq19, ha20, hg21⟩
  have hx22 : Ext A2 (va_up g3 (w + 15005) p0) A16 g17 := Mk.ext ⟨hq19, ha20, hg21⟩ h013 hf14
  have hu23 : Fr g3 (va_up g3 (w + 15005) p0) (w + 15005) (w + 15005 + 1) := Fr.up (by omega) (by omega)
  rw [show A2 (w + 15010) = A16 (w + 15010) from (ha20 _ (by omega) (by omega)).symm, show A2 (w + 15005) = A16 (w + 15005) from (ha20 _ (by omega) (by omega)).symm]
  show V K 2 66 P15 A16 g17 [(0, .ref (A16 (w + 15010)))] 12 [.ref (A16 (w + 15005)), .ref (A16 (w + 15010))]
  have hQ24 : ∀ j ∈ P15, j ∈ P ∨ ((w + 15010 ≤ j ∧ j < w + 15010) ∨ (w + 15005 ≤ j ∧ j < w + 15005 + 1) ∨ (w + 15005 + 1 ≤ j ∧ j < w + 15005 + 2)) := fun j hj => by
      rcases hq19 j hj with h | h
      · rcases hQ9 j h with q | q
        · exact Or.inl q
        · exact Or.inr (by omega)
      · exact Or.inr (by omega)
  have hB25 : ∀ j, ¬ ((w + 15010 ≤ j ∧ j < w + 15010) ∨ (w + 15005 ≤ j ∧ j < w + 15005 + 1) ∨ (w + 15005 + 1 ≤ j ∧ j < w + 15005 + 2)) → A16 j = A j := fun j hj => (ha20 j (by omega) (by omega)).trans (hB10 j (by omega))
  have hF26 : ∀ j, j ≠ w + 15010 → ¬ ((w + 15010 ≤ j ∧ j < w + 15010) ∨ (w + 15005 ≤ j ∧ j < w + 15005 + 1) ∨ (w + 15005 + 1 ≤ j ∧ j < w + 15005 + 2)) → g17 j = g j := fun j hk hj => (hg21 j (by omega) (by omega) (by omega)).trans (hF11 j hk (by omega))
  have h27 : g17 (w + 15010) = ob 10 [.null, .null, .null, .null, .null, .null] := (hg21 _ (by omega) (by omega) (by omega)).trans h12
  refine k_putF (pc := 12) C (j := 0) R.2.2.2.2.2 h27 rfl (by decide) (Nat.le_of_ble_eq_true rfl) u_324 rfl rfl (tyX10_ok 0 (by decide)) rfl rfl dX10_init_12 (fun g28 hu29 hO30 => ?_)
  show V K 2 66 P15 A16 g28 [(0, .ref (A16 (w + 15010)))] 15 []
  have hp31 : Fr g17 g28 (w + 15010) (w + 15010 + 1) := fun j hj => hu29 j (by omega)
  have h32 : CO A16 g28 (w + 15005) [] := hc18.fr hp31 (by omega)
  have hO33 : g28 (w + 15010) = ob 10 [.ref (A16 (w + 15005)), .null, .null, .null, .null, .null] := hO30
  have hF34 : ∀ j, j ≠ w + 15010 → ¬ ((w + 15010 ≤ j ∧ j < w + 15010) ∨ (w + 15005 ≤ j ∧ j < w + 15005 + 1) ∨ (w + 15005 + 1 ≤ j ∧ j < w + 15005 + 2)) → g28 j = g j := fun j hk hj => (hu29 j hk).trans (hF26 j hk hj)
  refine g_aload_n (pc := 15) C dX10_init_15 0 rfl ?_
  refine k_new (pc := 16) C w (ci := 9) (fs := [.null, .null, .null, .null, .null, .null, .null, .int 0, .int 0, .int 0, .int 0]) (q := (RX9, TX9, 11)) (ty := tyX9) (fun h => (hQ24 _ h).elim (fun q => by have z := hP _ q; omega) (fun q => by omega)) rfl u_39 u_40 u_3 tyX9_ok df_X9 ⟨show 2 + 1 ≤ 8566 by omega, show 66 + 11 ≤ 37343 by omega⟩ dX10_init_16 (fun P35 A36 g37 hq38 ha39 hg40 hx41 hk42 => ?_)
  rw [show A16 (w + 15010) = A36 (w + 15010) from (ha39 _ (by omega)).symm]
  show V K 3 77 P35 A36 g37 [(0, .ref (A36 (w + 15010)))] 19 [.ref (A36 w), .ref (A36 (w + 15010))]
  have hQ43 : ∀ j ∈ P35, j ∈ P ∨ ((w + 15010 ≤ j ∧ j < w + 15010) ∨ (w + 15005 ≤ j ∧ j < w + 15005 + 1) ∨ (w + 15005 + 1 ≤ j ∧ j < w + 15005 + 2) ∨ (w ≤ j ∧ j < w + 1)) := fun j hj => by
      rcases hq38 j hj with h | h
      · rcases hQ24 j h with q | q
        · exact Or.inl q
        · exact Or.inr (by omega)
      · exact Or.inr (by omega)
  have hB44 : ∀ j, ¬ ((w + 15010 ≤ j ∧ j < w + 15010) ∨ (w + 15005 ≤ j ∧ j < w + 15005 + 1) ∨ (w + 15005 + 1 ≤ j ∧ j < w + 15005 + 2) ∨ (w ≤ j ∧ j < w + 1)) → A36 j = A j := fun j hj => (ha39 j (by omega)).trans (hB25 j (by omega))
  have hF45 : ∀ j, j ≠ w + 15010 → ¬ ((w + 15010 ≤ j ∧ j < w + 15010) ∨ (w + 15005 ≤ j ∧ j < w + 15005 + 1) ∨ (w + 15005 + 1 ≤ j ∧ j < w + 15005 + 2) ∨ (w ≤ j ∧ j < w + 1)) → g37 j = g j := fun j hk hj => (hg40 j (by omega)).trans (hF34 j hk (by omega))
  have h46 : CO A36 g37 (w + 15005) [] := h32.xt hx41
  have h47 : g37 (w + 15010) = ob 10 [.ref (A36 (w + 15005)), .null, .null, .null, .null, .null] := by
      have z := (hg40 _ (by omega)).trans hO33
      rw [show A16 (w + 15005) = A36 (w + 15005) from (ha39 _ (by omega)).symm] at z
      exact z
  refine g_dup (pc := 19) C dX10_init_19 rfl ?_
  refine g_aload_n (pc := 20) C dX10_init_20 0 rfl ?_
  refine g_get (pc := 21) C (j := 0) h47 rfl rfl (by decide) u_324 dX10_init_21 ?_
  show V K 3 77 P35 A36 g37 [(0, .ref (A36 (w + 15010)))] 24 [.ref (A36 (w + 15005)), .ref (A36 w), .ref (A36 w), .ref (A36 (w + 15010))]
  refine v_p0 fun h048 => ?_
  have hf49 : ∀ j ∈ P35, ¬ (w + 1 ≤ j ∧ j < w + 3500) ∧ ¬ (0 ≤ j ∧ j < 0) := fun j hj => by
      rcases hQ43 j hj with q | q
      · have z := hP j q
        omega
      · omega
  refine g_callI (pc := 24) C (As := [.ref (A36 (w + 15005))]) (rest := [.ref (A36 w), .ref (A36 (w + 15010))]) (b := w) (c_X9_init A36 P35 g37 w (w + 15005) (by omega) hk42 hf49) u_42 u_3 u_43 u_41 rfl N_X9_init ⟨Nat.le_of_ble_eq_true rfl, Nat.le_of_ble_eq_true rfl⟩ ⟨show 3 + 2851 ≤ 8566 by omega, show 77 + 12406 ≤ 37343 by omega⟩ (Nat.le_of_ble_eq_true rfl) rfl dX10_init_24 ?_
  rintro _ P50 A51 g52 ⟨rfl, hc53, hq54, ha55, hg56⟩
  have hx57 : Ext A36 (va_up g37 w p0) A51 g52 := Mk.ext ⟨hq54, ha55, hg56⟩ h048 hf49
  have hu58 : Fr g37 (va_up g37 w p0) w (w + 1) := Fr.up (by omega) (by omega)
  rw [show A36 (w + 15010) = A51 (w + 15010) from (ha55 _ (by omega) (by omega)).symm, show A36 w = A51 w from (ha55 _ (by omega) (by omega)).symm]
  show V K 2854 12483 P50 A51 g52 [(0, .ref (A51 (w + 15010)))] 27 [.ref (A51 w), .ref (A51 (w + 15010))]
  have hQ59 : ∀ j ∈ P50, j ∈ P ∨ ((w + 15010 ≤ j ∧ j < w + 15010) ∨ (w + 15005 ≤ j ∧ j < w + 15005 + 1) ∨ (w + 15005 + 1 ≤ j ∧ j < w + 15005 + 2) ∨ (w ≤ j ∧ j < w + 1) ∨ (w + 1 ≤ j ∧ j < w + 3500)) := fun j hj => by
      rcases hq54 j hj with h | h
      · rcases hQ43 j h with q | q
        · exact Or.inl q
        · exact Or.inr (by omega)
      · exact Or.inr (by omega)
  have hB60 : ∀ j, ¬ ((w + 15010 ≤ j ∧ j < w + 15010) ∨ (w + 15005 ≤ j ∧ j < w + 15005 + 1) ∨ (w + 15005 + 1 ≤ j ∧ j < w + 15005 + 2) ∨ (w ≤ j ∧ j < w + 1) ∨ (w + 1 ≤ j ∧ j < w + 3500)) → A51 j = A j := fun j hj => (ha55 j (by omega) (by omega)).trans (hB44 j (by omega))
  have hF61 : ∀ j, j ≠ w + 15010 → ¬ ((w + 15010 ≤ j ∧ j < w + 15010) ∨ (w + 15005 ≤ j ∧ j < w + 15005 + 1) ∨ (w + 15005 + 1 ≤ j ∧ j < w + 15005 + 2) ∨ (w ≤ j ∧ j < w + 1) ∨ (w + 1 ≤ j ∧ j < w + 3500)) → g52 j = g j := fun j hk hj => (hg56 j (by omega) (by omega) (by omega)).trans (hF45 j hk (by omega))
  have h62 : CO A51 g52 (w + 15005) [] := (h46.fr hu58 (by omega)).xt hx57
  have h63 : g52 (w + 15010) = ob 10 [.ref (A51 (w + 15005)), .null, .null, .null, .null, .null] := by
      have z := (hg56 _ (by omega) (by omega) (by omega)).trans h47
      rw [show A36 (w + 15005) = A51 (w + 15005) from (ha55 _ (by omega) (by omega)).symm] at z
      exact z
  refine k_putF (pc := 27) C (j := 1) R.2.2.2.2.2 h63 rfl (by decide) (Nat.le_of_ble_eq_true rfl) u_325 rfl rfl (tyX10_ok 1 (by decide)) rfl rfl dX10_init_27 (fun g64 hu65 hO66 => ?_)
  show V K 2854 12483 P50 A51 g64 [(0, .ref (A51 (w + 15010)))] 30 []
  have hp67 : Fr g52 g64 (w + 15010) (w + 15010 + 1) := fun j hj => hu65 j (by omega)
  have h68 : CO A51 g64 (w + 15005) [] := h62.fr hp67 (by omega)
  have h69 : WD A51 g64 w (w + 15005) sg0 := hc53.fr hp67 (by omega)
  have hO70 : g64 (w + 15010) = ob 10 [.ref (A51 (w + 15005)), .ref (A51 w), .null, .null, .null, .null] := hO66
  have hF71 : ∀ j, j ≠ w + 15010 → ¬ ((w + 15010 ≤ j ∧ j < w + 15010) ∨ (w + 15005 ≤ j ∧ j < w + 15005 + 1) ∨ (w + 15005 + 1 ≤ j ∧ j < w + 15005 + 2) ∨ (w ≤ j ∧ j < w + 1) ∨ (w + 1 ≤ j ∧ j < w + 3500)) → g64 j = g j := fun j hk hj => (hu65 j hk).trans (hF61 j hk hj)
  refine g_aload_n (pc := 30) C dX10_init_30 0 rfl ?_
  refine k_new (pc := 31) C (w + 15000) (ci := 8) (fs := [.null, .null, .null, .null]) (q := (RX8, TX8, 4)) (ty := tyX8) (fun h => (hQ59 _ h).elim (fun q => by have z := hP _ q; omega) (fun q => by omega)) rfl u_292 u_293 u_11 tyX8_ok df_X8 ⟨show 2854 + 1 ≤ 8566 by omega, show 12483 + 4 ≤ 37343 by omega⟩ dX10_init_31 (fun P72 A73 g74 hq75 ha76 hg77 hx78 hk79 => ?_)
  rw [show A51 (w + 15010) = A73 (w + 15010) from (ha76 _ (by omega)).symm]
  show V K 2855 12487 P72 A73 g74 [(0, .ref (A73 (w + 15010)))] 34 [.ref (A73 (w + 15000)), .ref (A73 (w + 15010))]
  have hQ80 : ∀ j ∈ P72, j ∈ P ∨ ((w + 15010 ≤ j ∧ j < w + 15010) ∨ (w + 15005 ≤ j ∧ j < w + 15005 + 1) ∨ (w + 15005 + 1 ≤ j ∧ j < w + 15005 + 2) ∨ (w ≤ j ∧ j < w + 1) ∨ (w + 1 ≤ j ∧ j < w + 3500) ∨ (w + 15000 ≤ j ∧ j < w + 15000 + 1)) := fun j hj => by
      rcases hq75 j hj with h | h
      · rcases hQ59 j h with q | q
        · exact Or.inl q
        · exact Or.inr (by omega)
      · exact Or.inr (by omega)
  have hB81 : ∀ j, ¬ ((w + 15010 ≤ j ∧ j < w + 15010) ∨ (w + 15005 ≤ j ∧ j < w + 15005 + 1) ∨ (w + 15005 + 1 ≤ j ∧ j < w + 15005 + 2) ∨ (w ≤ j ∧ j < w + 1) ∨ (w + 1 ≤ j ∧ j < w + 3500) ∨ (w + 15000 ≤ j ∧ j < w + 15000 + 1)) → A73 j = A j := fun j hj => (ha76 j (by omega)).trans (hB60 j (by omega))
  have hF82 : ∀ j, j ≠ w + 15010 → ¬ ((w + 15010 ≤ j ∧ j < w + 15010) ∨ (w + 15005 ≤ j ∧ j < w + 15005 + 1) ∨ (w + 15005 + 1 ≤ j ∧ j < w + 15005 + 2) ∨ (w ≤ j ∧ j < w + 1) ∨ (w + 1 ≤ j ∧ j < w + 3500) ∨ (w + 15000 ≤ j ∧ j < w + 15000 + 1)) → g74 j = g j := fun j hk hj => (hg77 j (by omega)).trans (hF71 j hk (by omega))
  have h83 : CO A73 g74 (w + 15005) [] := h68.xt hx78
  have h84 : WD A73 g74 w (w + 15005) sg0 := h69.xt hx78 (ha76 _ (by omega)) (ha76 _ (by omega))
  have h85 : g74 (w + 15010) = ob 10 [.ref (A73 (w + 15005)), .ref (A73 w), .null, .null, .null, .null] := by
      have z := (hg77 _ (by omega)).trans hO70
      rw [show A51 (w + 15005) = A73 (w + 15005) from (ha76 _ (by omega)).symm, show A51 w = A73 w from (ha76 _ (by omega)).symm] at z
      exact z
  refine g_dup (pc := 34) C dX10_init_34 rfl ?_
  refine g_aload_n (pc := 35) C dX10_init_35 0 rfl ?_
  refine g_get (pc := 36) C (j := 1) h85 rfl rfl (by decide) u_325 dX10_init_36 ?_
  show V K 2855 12487 P72 A73 g74 [(0, .ref (A73 (w + 15010)))] 39 [.ref (A73 w), .ref (A73 (w + 15000)), .ref (A73 (w + 15000)), .ref (A73 (w + 15010))]
  refine v_p0 fun h086 => ?_
  have hf87 : ∀ j ∈ P72, ¬ (w + 15000 + 1 ≤ j ∧ j < w + 15000 + 5) ∧ ¬ (0 ≤ j ∧ j < 0) := fun j hj => by
      rcases hQ80 j hj with q | q
      · have z := hP j q
        omega
      · omega
  refine g_callI (pc := 39) C (As := [.ref (A73 w)]) (rest := [.ref (A73 (w + 15000)), .ref (A73 (w + 15010))]) (b := (w + 15000)) (c_X8_init A73 P72 g74 w h84.1 hk79 hf87) u_295 u_11 u_296 u_294 rfl N_X8_init ⟨Nat.le_of_ble_eq_true rfl, Nat.le_of_ble_eq_true rfl⟩ ⟨show 2855 + 4 ≤ 8566 by omega, show 12487 + 17 ≤ 37343 by omega⟩ (Nat.le_of_ble_eq_true rfl) rfl dX10_init_39 ?_
  rintro _ P88 A89 g90 ⟨rfl, hc91, hq92, ha93, hg94⟩
  have hx95 : Ext A73 (va_up g74 (w + 15000) p0) A89 g90 := Mk.ext ⟨hq92, ha93, hg94⟩ h086 hf87
  have hu96 : Fr g74 (va_up g74 (w + 15000) p0) (w + 15000) (w + 15000 + 1) := Fr.up (by omega) (by omega)
  rw [show A73 (w + 15010) = A89 (w + 15010) from (ha93 _ (by omega) (by omega)).symm, show A73 (w + 15000) = A89 (w + 15000) from (ha93 _ (by omega) (by omega)).symm]
  show V K 2859 12504 P88 A89 g90 [(0, .ref (A89 (w + 15010)))] 42 [.ref (A89 (w + 15000)), .ref (A89 (w + 15010))]
  have hQ97 : ∀ j ∈ P88, j ∈ P ∨ ((w + 15010 ≤ j ∧ j < w + 15010) ∨ (w + 15005 ≤ j ∧ j < w + 15005 + 1) ∨ (w + 15005 + 1 ≤ j ∧ j < w + 15005 + 2) ∨ (w ≤ j ∧ j < w + 1) ∨ (w + 1 ≤ j ∧ j < w + 3500) ∨ (w + 15000 ≤ j ∧ j < w + 15000 + 1) ∨ (w + 15000 + 1 ≤ j ∧ j < w + 15000 + 5)) := fun j hj => by
      rcases hq92 j hj with h | h
      · rcases hQ80 j h with q | q
        · exact Or.inl q
        · exact Or.inr (by omega)
      · exact Or.inr (by omega)
  have hB98 : ∀ j, ¬ ((w + 15010 ≤ j ∧ j < w + 15010) ∨ (w + 15005 ≤ j ∧ j < w + 15005 + 1) ∨ (w + 15005 + 1 ≤ j ∧ j < w + 15005 + 2) ∨ (w ≤ j ∧ j < w + 1) ∨ (w + 1 ≤ j ∧ j < w + 3500) ∨ (w + 15000 ≤ j ∧ j < w + 15000 + 1) ∨ (w + 15000 + 1 ≤ j ∧ j < w + 15000 + 5)) → A89 j = A j := fun j hj => (ha93 j (by omega) (by omega)).trans (hB81 j (by omega))
  have hF99 : ∀ j, j ≠ w + 15010 → ¬ ((w + 15010 ≤ j ∧ j < w + 15010) ∨ (w + 15005 ≤ j ∧ j < w + 15005 + 1) ∨ (w + 15005 + 1 ≤ j ∧ j < w + 15005 + 2) ∨ (w ≤ j ∧ j < w + 1) ∨ (w + 1 ≤ j ∧ j < w + 3500) ∨ (w + 15000 ≤ j ∧ j < w + 15000 + 1) ∨ (w + 15000 + 1 ≤ j ∧ j < w + 15000 + 5)) → g90 j = g j := fun j hk hj => (hg94 j (by omega) (by omega) (by omega)).trans (hF82 j hk (by omega))
  have h100 : CO A89 g90 (w + 15005) [] := (h83.fr hu96 (by omega)).xt hx95
  have h101 : WD A89 g90 w (w + 15005) sg0 := (h84.fr hu96 (by omega)).xt hx95 (ha93 _ (by omega) (by omega)) (ha93 _ (by omega) (by omega))
  have h102 : g90 (w + 15010) = ob 10 [.ref (A89 (w + 15005)), .ref (A89 w), .null, .null, .null, .null] := by
      have z := (hg94 _ (by omega) (by omega) (by omega)).trans h85
      rw [show A73 (w + 15005) = A89 (w + 15005) from (ha93 _ (by omega) (by omega)).symm, show A73 w = A89 w from (ha93 _ (by omega) (by omega)).symm] at z
      exact z
  refine k_putF (pc := 42) C (j := 2) R.2.2.2.2.2 h102 rfl (by decide) (Nat.le_of_ble_eq_true rfl) u_326 rfl rfl (tyX10_ok 2 (by decide)) rfl rfl dX10_init_42 (fun g103 hu104 hO105 => ?_)
  show V K 2859 12504 P88 A89 g103 [(0, .ref (A89 (w + 15010)))] 45 []
  have hp106 : Fr g90 g103 (w + 15010) (w + 15010 + 1) := fun j hj => hu104 j (by omega)
  have h107 : CO A89 g103 (w + 15005) [] := h100.fr hp106 (by omega)
  have h108 : WD A89 g103 w (w + 15005) sg0 := h101.fr hp106 (by omega)
  have h109 : VV A89 g103 w := VV.fr hc91 hp106 (by omega)
  have hO110 : g103 (w + 15010) = ob 10 [.ref (A89 (w + 15005)), .ref (A89 w), .ref (A89 (w + 15000)), .null, .null, .null] := hO105
  have hF111 : ∀ j, j ≠ w + 15010 → ¬ ((w + 15010 ≤ j ∧ j < w + 15010) ∨ (w + 15005 ≤ j ∧ j < w + 15005 + 1) ∨ (w + 15005 + 1 ≤ j ∧ j < w + 15005 + 2) ∨ (w ≤ j ∧ j < w + 1) ∨ (w + 1 ≤ j ∧ j < w + 3500) ∨ (w + 15000 ≤ j ∧ j < w + 15000 + 1) ∨ (w + 15000 + 1 ≤ j ∧ j < w + 15000 + 5)) → g103 j = g j := fun j hk hj => (hu104 j hk).trans (hF99 j hk hj)
  refine g_aload_n (pc := 45) C dX10_init_45 0 rfl ?_
  refine k_new (pc := 46) C (w + 15007) (ci := 7) (fs := [.null]) (q := (RX7, TX7, 1)) (ty := tyX7) (fun h => (hQ97 _ h).elim (fun q => by have z := hP _ q; omega) (fun q => by omega)) rfl u_313 u_314 u_12 tyX7_ok df_X7 ⟨show 2859 + 1 ≤ 8566 by omega, show 12504 + 1 ≤ 37343 by omega⟩ dX10_init_46 (fun P112 A113 g114 hq115 ha116 hg117 hx118 hk119 => ?_)
  rw [show A89 (w + 15010) = A113 (w + 15010) from (ha116 _ (by omega)).symm]
  show V K 2860 12505 P112 A113 g114 [(0, .ref (A113 (w + 15010)))] 49 [.ref (A113 (w + 15007)), .ref (A113 (w + 15010))]
  have hQ120 : ∀ j ∈ P112, j ∈ P ∨ ((w + 15010 ≤ j ∧ j < w + 15010) ∨ (w + 15005 ≤ j ∧ j < w + 15005 + 1) ∨ (w + 15005 + 1 ≤ j ∧ j < w + 15005 + 2) ∨ (w ≤ j ∧ j < w + 1) ∨ (w + 1 ≤ j ∧ j < w + 3500) ∨ (w + 15000 ≤ j ∧ j < w + 15000 + 1) ∨ (w + 15000 + 1 ≤ j ∧ j < w + 15000 + 5) ∨ (w + 15007 ≤ j ∧ j < w + 15007 + 1)) := fun j hj => by
      rcases hq115 j hj with h | h
      · rcases hQ97 j h with q | q
        · exact Or.inl q
        · exact Or.inr (by omega)
      · exact Or.inr (by omega)
  have hB121 : ∀ j, ¬ ((w + 15010 ≤ j ∧ j < w + 15010) ∨ (w + 15005 ≤ j ∧ j < w + 15005 + 1) ∨ (w + 15005 + 1 ≤ j ∧ j < w + 15005 + 2) ∨ (w ≤ j ∧ j < w + 1) ∨ (w + 1 ≤ j ∧ j < w + 3500) ∨ (w + 15000 ≤ j ∧ j < w + 15000 + 1) ∨ (w + 15000 + 1 ≤ j ∧ j < w + 15000 + 5) ∨ (w + 15007 ≤ j ∧ j < w + 15007 + 1)) → A113 j = A j := fun j hj => (ha116 j (by omega)).trans (hB98 j (by omega))
  have hF122 : ∀ j, j ≠ w + 15010 → ¬ ((w + 15010 ≤ j ∧ j < w + 15010) ∨ (w + 15005 ≤ j ∧ j < w + 15005 + 1) ∨ (w + 15005 + 1 ≤ j ∧ j < w + 15005 + 2) ∨ (w ≤ j ∧ j < w + 1) ∨ (w + 1 ≤ j ∧ j < w + 3500) ∨ (w + 15000 ≤ j ∧ j < w + 15000 + 1) ∨ (w + 15000 + 1 ≤ j ∧ j < w + 15000 + 5) ∨ (w + 15007 ≤ j ∧ j < w + 15007 + 1)) → g114 j = g j := fun j hk hj => (hg117 j (by omega)).trans (hF111 j hk (by omega))
  have h123 : CO A113 g114 (w + 15005) [] := h107.xt hx118
  have h124 : WD A113 g114 w (w + 15005) sg0 := h108.xt hx118 (ha116 _ (by omega)) (ha116 _ (by omega))
  have h125 : VV A113 g114 w := h109.xt hx118 (ha116 _ (by omega)) (ha116 _ (by omega))
  have h126 : g114 (w + 15010) = ob 10 [.ref (A113 (w + 15005)), .ref (A113 w), .ref (A113 (w + 15000)), .null, .null, .null] := by
      have z := (hg117 _ (by omega)).trans hO110
      rw [show A89 (w + 15005) = A113 (w + 15005) from (ha116 _ (by omega)).symm, show A89 w = A113 w from (ha116 _ (by omega)).symm, show A89 (w + 15000) = A113 (w + 15000) from (ha116 _ (by omega)).symm] at z
      exact z
  refine g_dup (pc := 49) C dX10_init_49 rfl ?_
  refine g_aload_n (pc := 50) C dX10_init_50 0 rfl ?_
  refine g_get (pc := 51) C (j := 1) h126 rfl rfl (by decide) u_325 dX10_init_51 ?_
  show V K 2860 12505 P112 A113 g114 [(0, .ref (A113 (w + 15010)))] 54 [.ref (A113 w), .ref (A113 (w + 15007)), .ref (A113 (w + 15007)), .ref (A113 (w + 15010))]
  refine v_p0 fun h0127 => ?_
  have hf128 : ∀ j ∈ P112, ¬ (0 ≤ j ∧ j < 0) ∧ ¬ (0 ≤ j ∧ j < 0) := fun j hj => by
      rcases hQ120 j hj with q | q
      · have z := hP j q
        omega
      · omega
  refine g_callI (pc := 54) C (As := [.ref (A113 w)]) (rest := [.ref (A113 (w + 15007)), .ref (A113 (w + 15010))]) (b := (w + 15007)) (c_X7_init A113 P112 g114 (w + 15007) w hk119 hf128) u_316 u_12 u_317 u_315 rfl N_X7_init ⟨Nat.le_of_ble_eq_true rfl, Nat.le_of_ble_eq_true rfl⟩ ⟨show 2860 + 0 ≤ 8566 by omega, show 12505 + 0 ≤ 37343 by omega⟩ (Nat.le_of_ble_eq_true rfl) rfl dX10_init_54 ?_
  rintro _ P129 A130 g131 ⟨rfl, hc132, hq133, ha134, hg135⟩
  have hx136 : Ext A113 (va_up g114 (w + 15007) p0) A130 g131 := Mk.ext ⟨hq133, ha134, hg135⟩ h0127 hf128
  have hu137 : Fr g114 (va_up g114 (w + 15007) p0) (w + 15007) (w + 15007 + 1) := Fr.up (by omega) (by omega)
  rw [show A113 (w + 15010) = A130 (w + 15010) from (ha134 _ (by omega) (by omega)).symm, show A113 (w + 15007) = A130 (w + 15007) from (ha134 _ (by omega) (by omega)).symm]
  show V K 2860 12505 P129 A130 g131 [(0, .ref (A130 (w + 15010)))] 57 [.ref (A130 (w + 15007)), .ref (A130 (w + 15010))]
  have hQ138 : ∀ j ∈ P129, j ∈ P ∨ ((w + 15010 ≤ j ∧ j < w + 15010) ∨ (w + 15005 ≤ j ∧ j < w + 15005 + 1) ∨ (w + 15005 + 1 ≤ j ∧ j < w + 15005 + 2) ∨ (w ≤ j ∧ j < w + 1) ∨ (w + 1 ≤ j ∧ j < w + 3500) ∨ (w + 15000 ≤ j ∧ j < w + 15000 + 1) ∨ (w + 15000 + 1 ≤ j ∧ j < w + 15000 + 5) ∨ (w + 15007 ≤ j ∧ j < w + 15007 + 1) ∨ (0 ≤ j ∧ j < 0)) := fun j hj => by
      rcases hq133 j hj with h | h
      · rcases hQ120 j h with q | q
        · exact Or.inl q
        · exact Or.inr (by omega)
      · exact Or.inr (by omega)
  have hB139 : ∀ j, ¬ ((w + 15010 ≤ j ∧ j < w + 15010) ∨ (w + 15005 ≤ j ∧ j < w + 15005 + 1) ∨ (w + 15005 + 1 ≤ j ∧ j < w + 15005 + 2) ∨ (w ≤ j ∧ j < w + 1) ∨ (w + 1 ≤ j ∧ j < w + 3500) ∨ (w + 15000 ≤ j ∧ j < w + 15000 + 1) ∨ (w + 15000 + 1 ≤ j ∧ j < w + 15000 + 5) ∨ (w + 15007 ≤ j ∧ j < w + 15007 + 1) ∨ (0 ≤ j ∧ j < 0)) → A130 j = A j := fun j hj => (ha134 j (by omega) (by omega)).trans (hB121 j (by omega))
  have hF140 : ∀ j, j ≠ w + 15010 → ¬ ((w + 15010 ≤ j ∧ j < w + 15010) ∨ (w + 15005 ≤ j ∧ j < w + 15005 + 1) ∨ (w + 15005 + 1 ≤ j ∧ j < w + 15005 + 2) ∨ (w ≤ j ∧ j < w + 1) ∨ (w + 1 ≤ j ∧ j < w + 3500) ∨ (w + 15000 ≤ j ∧ j < w + 15000 + 1) ∨ (w + 15000 + 1 ≤ j ∧ j < w + 15000 + 5) ∨ (w + 15007 ≤ j ∧ j < w + 15007 + 1) ∨ (0 ≤ j ∧ j < 0)) → g131 j = g j := fun j hk hj => (hg135 j (by omega) (by omega) (by omega)).trans (hF122 j hk (by omega))
  have h141 : CO A130 g131 (w + 15005) [] := (h123.fr hu137 (by omega)).xt hx136
  have h142 : WD A130 g131 w (w + 15005) sg0 := (h124.fr hu137 (by omega)).xt hx136 (ha134 _ (by omega) (by omega)) (ha134 _ (by omega) (by omega))
  have h143 : VV A130 g131 w := (VV.fr h125 hu137 (by omega)).xt hx136 (ha134 _ (by omega) (by omega)) (ha134 _ (by omega) (by omega))
  have h144 : g131 (w + 15010) = ob 10 [.ref (A130 (w + 15005)), .ref (A130 w), .ref (A130 (w + 15000)), .null, .null, .null] := by
      have z := (hg135 _ (by omega) (by omega) (by omega)).trans h126
      rw [show A113 (w + 15005) = A130 (w + 15005) from (ha134 _ (by omega) (by omega)).symm, show A113 w = A130 w from (ha134 _ (by omega) (by omega)).symm, show A113 (w + 15000) = A130 (w + 15000) from (ha134 _ (by omega) (by omega)).symm] at z
      exact z
  refine k_putF (pc := 57) C (j := 3) R.2.2.2.2.2 h144 rfl (by decide) (Nat.le_of_ble_eq_true rfl) u_327 rfl rfl (tyX10_ok 3 (by decide)) rfl rfl dX10_init_57 (fun g145 hu146 hO147 => ?_)
  show V K 2860 12505 P129 A130 g145 [(0, .ref (A130 (w + 15010)))] 60 []
  have hp148 : Fr g131 g145 (w + 15010) (w + 15010 + 1) := fun j hj => hu146 j (by omega)
  have h149 : CO A130 g145 (w + 15005) [] := h141.fr hp148 (by omega)
  have h150 : WD A130 g145 w (w + 15005) sg0 := h142.fr hp148 (by omega)
  have h151 : VV A130 g145 w := VV.fr h143 hp148 (by omega)
  have h152 : g145 (w + 15007) = ob 7 [.ref (A130 w)] := (hu146 _ (by omega)).trans hc132
  have hO153 : g145 (w + 15010) = ob 10 [.ref (A130 (w + 15005)), .ref (A130 w), .ref (A130 (w + 15000)), .ref (A130 (w + 15007)), .null, .null] := hO147
  have hF154 : ∀ j, j ≠ w + 15010 → ¬ ((w + 15010 ≤ j ∧ j < w + 15010) ∨ (w + 15005 ≤ j ∧ j < w + 15005 + 1) ∨ (w + 15005 + 1 ≤ j ∧ j < w + 15005 + 2) ∨ (w ≤ j ∧ j < w + 1) ∨ (w + 1 ≤ j ∧ j < w + 3500) ∨ (w + 15000 ≤ j ∧ j < w + 15000 + 1) ∨ (w + 15000 + 1 ≤ j ∧ j < w + 15000 + 5) ∨ (w + 15007 ≤ j ∧ j < w + 15007 + 1) ∨ (0 ≤ j ∧ j < 0)) → g145 j = g j := fun j hk hj => (hu146 j hk).trans (hF140 j hk hj)
  refine g_aload_n (pc := 60) C dX10_init_60 0 rfl ?_
  refine g_iconst (pc := 61) C dX10_init_61 (v := nI 2) rfl ?_
  refine k_newq (pc := 62) C (w + 15008) (N' := 2) (c1 := 5) (fun h => (hQ138 _ h).elim (fun q => by have z := hP _ q; omega) (fun q => by omega)) (by decide) (fun _ => rfl) u_39 (nI_pos (by omega)) (nI_clamp (by omega)) (by omega) ⟨show 2860 + 1 ≤ 8566 by omega, show 12505 + 2 ≤ 37343 by omega⟩ dX10_init_62 (fun P155 A156 g157 hq158 ha159 hg160 hx161 hk162 => ?_)
  rw [show A130 (w + 15010) = A156 (w + 15010) from (ha159 _ (by omega)).symm]
  show V K 2861 12507 P155 A156 g157 [(0, .ref (A156 (w + 15010)))] 65 [.ref (A156 (w + 15008)), .ref (A156 (w + 15010))]
  have hQ163 : ∀ j ∈ P155, j ∈ P ∨ ((w + 15010 ≤ j ∧ j < w + 15010) ∨ (w + 15005 ≤ j ∧ j < w + 15005 + 1) ∨ (w + 15005 + 1 ≤ j ∧ j < w + 15005 + 2) ∨ (w ≤ j ∧ j < w + 1) ∨ (w + 1 ≤ j ∧ j < w + 3500) ∨ (w + 15000 ≤ j ∧ j < w + 15000 + 1) ∨ (w + 15000 + 1 ≤ j ∧ j < w + 15000 + 5) ∨ (w + 15007 ≤ j ∧ j < w + 15007 + 1) ∨ (0 ≤ j ∧ j < 0) ∨ (w + 15008 ≤ j ∧ j < w + 15008 + 1)) := fun j hj => by
      rcases hq158 j hj with h | h
      · rcases hQ138 j h with q | q
        · exact Or.inl q
        · exact Or.inr (by omega)
      · exact Or.inr (by omega)
  have hB164 : ∀ j, ¬ ((w + 15010 ≤ j ∧ j < w + 15010) ∨ (w + 15005 ≤ j ∧ j < w + 15005 + 1) ∨ (w + 15005 + 1 ≤ j ∧ j < w + 15005 + 2) ∨ (w ≤ j ∧ j < w + 1) ∨ (w + 1 ≤ j ∧ j < w + 3500) ∨ (w + 15000 ≤ j ∧ j < w + 15000 + 1) ∨ (w + 15000 + 1 ≤ j ∧ j < w + 15000 + 5) ∨ (w + 15007 ≤ j ∧ j < w + 15007 + 1) ∨ (0 ≤ j ∧ j < 0) ∨ (w + 15008 ≤ j ∧ j < w + 15008 + 1)) → A156 j = A j := fun j hj => (ha159 j (by omega)).trans (hB139 j (by omega))
  have hF165 : ∀ j, j ≠ w + 15010 → ¬ ((w + 15010 ≤ j ∧ j < w + 15010) ∨ (w + 15005 ≤ j ∧ j < w + 15005 + 1) ∨ (w + 15005 + 1 ≤ j ∧ j < w + 15005 + 2) ∨ (w ≤ j ∧ j < w + 1) ∨ (w + 1 ≤ j ∧ j < w + 3500) ∨ (w + 15000 ≤ j ∧ j < w + 15000 + 1) ∨ (w + 15000 + 1 ≤ j ∧ j < w + 15000 + 5) ∨ (w + 15007 ≤ j ∧ j < w + 15007 + 1) ∨ (0 ≤ j ∧ j < 0) ∨ (w + 15008 ≤ j ∧ j < w + 15008 + 1)) → g157 j = g j := fun j hk hj => (hg160 j (by omega)).trans (hF154 j hk (by omega))
  have h166 : CO A156 g157 (w + 15005) [] := h149.xt hx161
  have h167 : WD A156 g157 w (w + 15005) sg0 := h150.xt hx161 (ha159 _ (by omega)) (ha159 _ (by omega))
  have h168 : VV A156 g157 w := h151.xt hx161 (ha159 _ (by omega)) (ha159 _ (by omega))
  have h169 : g157 (w + 15007) = ob 7 [.ref (A156 w)] := by
      have z := (hg160 _ (by omega)).trans h152
      rw [show A130 w = A156 w from (ha159 _ (by omega)).symm] at z
      exact z
  have h170 : g157 (w + 15010) = ob 10 [.ref (A156 (w + 15005)), .ref (A156 w), .ref (A156 (w + 15000)), .ref (A156 (w + 15007)), .null, .null] := by
      have z := (hg160 _ (by omega)).trans hO153
      rw [show A130 (w + 15005) = A156 (w + 15005) from (ha159 _ (by omega)).symm, show A130 w = A156 w from (ha159 _ (by omega)).symm, show A130 (w + 15000) = A156 (w + 15000) from (ha159 _ (by omega)).symm, show A130 (w + 15007) = A156 (w + 15007) from (ha159 _ (by omega)).symm] at z
      exact z
  have h171 : g157 (w + 15008) = aq 5 2 (rwu A156 (w + 5000) 5000 0) := hk162.trans (by rw [rwu_0])
  refine k_putF (pc := 65) C (j := 4) R.2.2.2.2.2 h170 rfl (by decide) (Nat.le_of_ble_eq_true rfl) u_328 rfl rfl (tyX10_ok 4 (by decide)) rfl rfl dX10_init_65 (fun g172 hu173 hO174 => ?_)
  show V K 2861 12507 P155 A156 g172 [(0, .ref (A156 (w + 15010)))] 68 []
  have hp175 : Fr g157 g172 (w + 15010) (w + 15010 + 1) := fun j hj => hu173 j (by omega)
  have h176 : CO A156 g172 (w + 15005) [] := h166.fr hp175 (by omega)
  have h177 : WD A156 g172 w (w + 15005) sg0 := h167.fr hp175 (by omega)
  have h178 : VV A156 g172 w := VV.fr h168 hp175 (by omega)
  have h179 : g172 (w + 15007) = ob 7 [.ref (A156 w)] := (hu173 _ (by omega)).trans h169
  have h180 : g172 (w + 15008) = aq 5 2 (rwu A156 (w + 5000) 5000 0) := (hu173 _ (by omega)).trans h171
  have hO181 : g172 (w + 15010) = ob 10 [.ref (A156 (w + 15005)), .ref (A156 w), .ref (A156 (w + 15000)), .ref (A156 (w + 15007)), .ref (A156 (w + 15008)), .null] := hO174
  have hF182 : ∀ j, j ≠ w + 15010 → ¬ ((w + 15010 ≤ j ∧ j < w + 15010) ∨ (w + 15005 ≤ j ∧ j < w + 15005 + 1) ∨ (w + 15005 + 1 ≤ j ∧ j < w + 15005 + 2) ∨ (w ≤ j ∧ j < w + 1) ∨ (w + 1 ≤ j ∧ j < w + 3500) ∨ (w + 15000 ≤ j ∧ j < w + 15000 + 1) ∨ (w + 15000 + 1 ≤ j ∧ j < w + 15000 + 5) ∨ (w + 15007 ≤ j ∧ j < w + 15007 + 1) ∨ (0 ≤ j ∧ j < 0) ∨ (w + 15008 ≤ j ∧ j < w + 15008 + 1)) → g172 j = g j := fun j hk hj => (hu173 j hk).trans (hF165 j hk hj)
  refine g_aload_n (pc := 68) C dX10_init_68 0 rfl ?_
  refine g_iconst (pc := 69) C dX10_init_69 (v := nI 2) rfl ?_
  refine k_newz (pc := 70) C (w + 15009) (N' := 2) (fun h => (hQ163 _ h).elim (fun q => by have z := hP _ q; omega) (fun q => by omega)) (nI_pos (by omega)) (nI_clamp (by omega)) (show 2 * 1 ≤ 536870912 by omega) ⟨show 2861 + 1 ≤ 8566 by omega, show 12507 + 2 ≤ 37343 by omega⟩ dX10_init_70 (fun P183 A184 g185 hq186 ha187 hg188 hx189 hk190 => ?_)
  rw [show A156 (w + 15010) = A184 (w + 15010) from (ha187 _ (by omega)).symm]
  show V K 2862 12509 P183 A184 g185 [(0, .ref (A184 (w + 15010)))] 72 [.ref (A184 (w + 15009)), .ref (A184 (w + 15010))]
  have hQ191 : ∀ j ∈ P183, j ∈ P ∨ ((w + 15010 ≤ j ∧ j < w + 15010) ∨ (w + 15005 ≤ j ∧ j < w + 15005 + 1) ∨ (w + 15005 + 1 ≤ j ∧ j < w + 15005 + 2) ∨ (w ≤ j ∧ j < w + 1) ∨ (w + 1 ≤ j ∧ j < w + 3500) ∨ (w + 15000 ≤ j ∧ j < w + 15000 + 1) ∨ (w + 15000 + 1 ≤ j ∧ j < w + 15000 + 5) ∨ (w + 15007 ≤ j ∧ j < w + 15007 + 1) ∨ (0 ≤ j ∧ j < 0) ∨ (w + 15008 ≤ j ∧ j < w + 15008 + 1) ∨ (w + 15009 ≤ j ∧ j < w + 15009 + 1)) := fun j hj => by
      rcases hq186 j hj with h | h
      · rcases hQ163 j h with q | q
        · exact Or.inl q
        · exact Or.inr (by omega)
      · exact Or.inr (by omega)
  have hB192 : ∀ j, ¬ ((w + 15010 ≤ j ∧ j < w + 15010) ∨ (w + 15005 ≤ j ∧ j < w + 15005 + 1) ∨ (w + 15005 + 1 ≤ j ∧ j < w + 15005 + 2) ∨ (w ≤ j ∧ j < w + 1) ∨ (w + 1 ≤ j ∧ j < w + 3500) ∨ (w + 15000 ≤ j ∧ j < w + 15000 + 1) ∨ (w + 15000 + 1 ≤ j ∧ j < w + 15000 + 5) ∨ (w + 15007 ≤ j ∧ j < w + 15007 + 1) ∨ (0 ≤ j ∧ j < 0) ∨ (w + 15008 ≤ j ∧ j < w + 15008 + 1) ∨ (w + 15009 ≤ j ∧ j < w + 15009 + 1)) → A184 j = A j := fun j hj => (ha187 j (by omega)).trans (hB164 j (by omega))
  have hF193 : ∀ j, j ≠ w + 15010 → ¬ ((w + 15010 ≤ j ∧ j < w + 15010) ∨ (w + 15005 ≤ j ∧ j < w + 15005 + 1) ∨ (w + 15005 + 1 ≤ j ∧ j < w + 15005 + 2) ∨ (w ≤ j ∧ j < w + 1) ∨ (w + 1 ≤ j ∧ j < w + 3500) ∨ (w + 15000 ≤ j ∧ j < w + 15000 + 1) ∨ (w + 15000 + 1 ≤ j ∧ j < w + 15000 + 5) ∨ (w + 15007 ≤ j ∧ j < w + 15007 + 1) ∨ (0 ≤ j ∧ j < 0) ∨ (w + 15008 ≤ j ∧ j < w + 15008 + 1) ∨ (w + 15009 ≤ j ∧ j < w + 15009 + 1)) → g185 j = g j := fun j hk hj => (hg188 j (by omega)).trans (hF182 j hk (by omega))
  have h194 : CO A184 g185 (w + 15005) [] := h176.xt hx189
  have h195 : WD A184 g185 w (w + 15005) sg0 := h177.xt hx189 (ha187 _ (by omega)) (ha187 _ (by omega))
  have h196 : VV A184 g185 w := h178.xt hx189 (ha187 _ (by omega)) (ha187 _ (by omega))
  have h197 : g185 (w + 15007) = ob 7 [.ref (A184 w)] := by
      have z := (hg188 _ (by omega)).trans h179
      rw [show A156 w = A184 w from (ha187 _ (by omega)).symm] at z
      exact z
  have h198 : g185 (w + 15008) = aq 5 2 (rwu A184 (w + 5000) 5000 0) := (hx189.at h180 p_nil).trans (by rw [rwu_e (fun j hj => ha187 _ (by omega))])
  have h199 : g185 (w + 15010) = ob 10 [.ref (A184 (w + 15005)), .ref (A184 w), .ref (A184 (w + 15000)), .ref (A184 (w + 15007)), .ref (A184 (w + 15008)), .null] := by
      have z := (hg188 _ (by omega)).trans hO181
      rw [show A156 (w + 15005) = A184 (w + 15005) from (ha187 _ (by omega)).symm, show A156 w = A184 w from (ha187 _ (by omega)).symm, show A156 (w + 15000) = A184 (w + 15000) from (ha187 _ (by omega)).symm, show A156 (w + 15007) = A184 (w + 15007) from (ha187 _ (by omega)).symm, show A156 (w + 15008) = A184 (w + 15008) from (ha187 _ (by omega)).symm] at z
      exact z
  refine k_putF (pc := 72) C (j := 5) R.2.2.2.2.2 h199 rfl (by decide) (Nat.le_of_ble_eq_true rfl) u_329 rfl rfl (tyX10_ok 5 (by decide)) rfl rfl dX10_init_72 (fun g200 hu201 hO202 => ?_)
  show V K 2862 12509 P183 A184 g200 [(0, .ref (A184 (w + 15010)))] 75 []
  have hp203 : Fr g185 g200 (w + 15010) (w + 15010 + 1) := fun j hj => hu201 j (by omega)
  have h204 : CO A184 g200 (w + 15005) [] := h194.fr hp203 (by omega)
  have h205 : WD A184 g200 w (w + 15005) sg0 := h195.fr hp203 (by omega)
  have h206 : VV A184 g200 w := VV.fr h196 hp203 (by omega)
  have h207 : g200 (w + 15007) = ob 7 [.ref (A184 w)] := (hu201 _ (by omega)).trans h197
  have h208 : g200 (w + 15008) = aq 5 2 (rwu A184 (w + 5000) 5000 0) := (hu201 _ (by omega)).trans h198
  have h209 : g200 (w + 15009) = ai 1 2 (fun _ => 0) := (hu201 _ (by omega)).trans hk190
  have hO210 : g200 (w + 15010) = ob 10 [.ref (A184 (w + 15005)), .ref (A184 w), .ref (A184 (w + 15000)), .ref (A184 (w + 15007)), .ref (A184 (w + 15008)), .ref (A184 (w + 15009))] := hO202
  have hF211 : ∀ j, j ≠ w + 15010 → ¬ ((w + 15010 ≤ j ∧ j < w + 15010) ∨ (w + 15005 ≤ j ∧ j < w + 15005 + 1) ∨ (w + 15005 + 1 ≤ j ∧ j < w + 15005 + 2) ∨ (w ≤ j ∧ j < w + 1) ∨ (w + 1 ≤ j ∧ j < w + 3500) ∨ (w + 15000 ≤ j ∧ j < w + 15000 + 1) ∨ (w + 15000 + 1 ≤ j ∧ j < w + 15000 + 5) ∨ (w + 15007 ≤ j ∧ j < w + 15007 + 1) ∨ (0 ≤ j ∧ j < 0) ∨ (w + 15008 ≤ j ∧ j < w + 15008 + 1) ∨ (w + 15009 ≤ j ∧ j < w + 15009 + 1)) → g200 j = g j := fun j hk hj => (hu201 j hk).trans (hF193 j hk hj)
  refine g_iconst (pc := 75) C dX10_init_75 (v := nI 0) rfl ?_
  refine g_istore_n (pc := 76) C dX10_init_76 (by decide) (lv' := [(0, .ref (A184 (w + 15010))), (1, .int (nI 0))]) [1, 0] rfl ?_
  have lp : ∀ (n t : Nat), t + n = 2 → ∀ (Q : List Nat) (B : Nat → Nat) (f : pM), (∀ j ∈ Q, j ∈ P ∨ ((w + 15010 ≤ j ∧ j < w + 15010) ∨ (w + 15005 ≤ j ∧ j < w + 15005 + 1) ∨ (w + 15005 + 1 ≤ j ∧ j < w + 15005 + 2) ∨ (w ≤ j ∧ j < w + 1) ∨ (w + 1 ≤ j ∧ j < w + 3500) ∨ (w + 15000 ≤ j ∧ j < w + 15000 + 1) ∨ (w + 15000 + 1 ≤ j ∧ j < w + 15000 + 5) ∨ (w + 15007 ≤ j ∧ j < w + 15007 + 1) ∨ (0 ≤ j ∧ j < 0) ∨ (w + 15008 ≤ j ∧ j < w + 15008 + 1) ∨ (w + 15009 ≤ j ∧ j < w + 15009 + 1) ∨ (w + 5000 ≤ j ∧ j < w + 5000 + 5000 * t))) ∧ (∀ j, ¬ ((w + 15010 ≤ j ∧ j < w + 15010) ∨ (w + 15005 ≤ j ∧ j < w + 15005 + 1) ∨ (w + 15005 + 1 ≤ j ∧ j < w + 15005 + 2) ∨ (w ≤ j ∧ j < w + 1) ∨ (w + 1 ≤ j ∧ j < w + 3500) ∨ (w + 15000 ≤ j ∧ j < w + 15000 + 1) ∨ (w + 15000 + 1 ≤ j ∧ j < w + 15000 + 5) ∨ (w + 15007 ≤ j ∧ j < w + 15007 + 1) ∨ (0 ≤ j ∧ j < 0) ∨ (w + 15008 ≤ j ∧ j < w + 15008 + 1) ∨ (w + 15009 ≤ j ∧ j < w + 15009 + 1) ∨ (w + 5000 ≤ j ∧ j < w + 5000 + 5000 * t)) → B j = A j) ∧ (∀ j, j ≠ w + 15010 → ¬ ((w + 15010 ≤ j ∧ j < w + 15010) ∨ (w + 15005 ≤ j ∧ j < w + 15005 + 1) ∨ (w + 15005 + 1 ≤ j ∧ j < w + 15005 + 2) ∨ (w ≤ j ∧ j < w + 1) ∨ (w + 1 ≤ j ∧ j < w + 3500) ∨ (w + 15000 ≤ j ∧ j < w + 15000 + 1) ∨ (w + 15000 + 1 ≤ j ∧ j < w + 15000 + 5) ∨ (w + 15007 ≤ j ∧ j < w + 15007 + 1) ∨ (0 ≤ j ∧ j < 0) ∨ (w + 15008 ≤ j ∧ j < w + 15008 + 1) ∨ (w + 15009 ≤ j ∧ j < w + 15009 + 1) ∨ (w + 5000 ≤ j ∧ j < w + 5000 + 5000 * t)) → f j = g j) ∧ f (w + 15010) = ob 10 [.ref (B (w + 15005)), .ref (B w), .ref (B (w + 15000)), .ref (B (w + 15007)), .ref (B (w + 15008)), .ref (B (w + 15009))] ∧ (CO B f (w + 15005) []) ∧ (WD B f w (w + 15005) sg0) ∧ (VV B f w) ∧ (f (w + 15007) = ob 7 [.ref (B w)]) ∧ (f (w + 15008) = aq 5 2 (rwu B (w + 5000) 5000 t)) ∧ (f (w + 15009) = ai 1 2 (fun _ => 0)) ∧ (∀ j, j < t → WD B f (w + 5000 + 5000 * j) (w + 15005) sg0) → V K (2862 + 2852 * t) (12509 + 12417 * t) Q B f [(0, .ref (B (w + 15010))), (1, .int (nI t))] 77 [] := by
    intro n
    induction n with
    | zero =>
      intro t ht Q B f hI
      obtain ⟨iQ, iB, iF, iO, i0, i1, i2, i3, i4, i5, i6⟩ := hI
      refine g_iload_n (pc := 77) C dX10_init_77 1 rfl ?_
      refine g_iconst (pc := 78) C dX10_init_78 (v := nI 2) rfl ?_
      refine g_icmp_ge (pc := 79) C dX10_init_79 (tgt := 105) (by decide) (fun _ => ?_) (fun q => absurd ((nI_leI (by omega) (by omega)).mpr (show 2 ≤ t by omega)) q)
      have htN : t = 2 := by omega
      subst htN
      show V K (2862 + 2852 * 2) (12509 + 12417 * 2) Q B f [(0, .ref (B (w + 15010))), (1, .int (nI 2))] 105 []
      exact g_vret (pc := 105) C R ⟨rfl, ⟨iO, i3, ⟨[], [], i2.1, i1, i0, i2.2.1, i2.2.2⟩, i4, ⟨_, i5, fun k hk => rfl⟩, fun k hk => ⟨sg0, i6 k hk, fun s h => by cases h⟩⟩, fun j hj => by
          rcases iQ j hj with q | q
          · exact Or.inl q
          · exact Or.inr (by omega), fun j h1 h2 => iB j (by omega), fun j h0 h1 h2 => iF j h0 (by omega)⟩ (show 2862 + 2852 * 2 ≤ 8566 by omega) (show 12509 + 12417 * 2 ≤ 37343 by omega) dX10_init_105
    | succ n ih =>
      intro t ht Q B f hI
      obtain ⟨iQ, iB, iF, iO, i0, i1, i2, i3, i4, i5, i6⟩ := hI
      refine g_iload_n (pc := 77) C dX10_init_77 1 rfl ?_
      refine g_iconst (pc := 78) C dX10_init_78 (v := nI 2) rfl ?_
      refine g_icmp_ge (pc := 79) C dX10_init_79 (tgt := 105) (by decide) (fun q => absurd ((nI_leI (by omega) (by omega)).mp q) (show ¬ 2 ≤ t by omega)) (fun _ => ?_)
      show V K (2862 + 2852 * t) (12509 + 12417 * t) Q B f [(0, .ref (B (w + 15010))), (1, .int (nI t))] 82 []
      refine g_aload_n (pc := 82) C dX10_init_82 0 rfl ?_
      refine g_get (pc := 83) C (j := 4) iO rfl rfl (by decide) u_328 dX10_init_83 ?_
      show V K (2862 + 2852 * t) (12509 + 12417 * t) Q B f [(0, .ref (B (w + 15010))), (1, .int (nI t))] 86 [.ref (B (w + 15008))]
      refine g_iload_n (pc := 86) C dX10_init_86 1 rfl ?_
      refine k_new (pc := 87) C (w + 5000 + 5000 * t) (ci := 9) (fs := [.null, .null, .null, .null, .null, .null, .null, .int 0, .int 0, .int 0, .int 0]) (q := (RX9, TX9, 11)) (ty := tyX9) (fun h => (iQ _ h).elim (fun q => by have z := hP _ q; omega) (fun q => by omega)) rfl u_39 u_40 u_3 tyX9_ok df_X9 ⟨show 2862 + 2852 * t + 1 ≤ 8566 by omega, show 12509 + 12417 * t + 11 ≤ 37343 by omega⟩ dX10_init_87 (fun P212 A213 g214 hq215 ha216 hg217 hx218 hk219 => ?_)
      rw [show B (w + 15010) = A213 (w + 15010) from (ha216 _ (by omega)).symm, show B (w + 15008) = A213 (w + 15008) from (ha216 _ (by omega)).symm]
      show V K (2862 + 2852 * t + 1) (12509 + 12417 * t + 11) P212 A213 g214 [(0, .ref (A213 (w + 15010))), (1, .int (nI t))] 90 [.ref (A213 (w + 5000 + 5000 * t)), .int (nI t), .ref (A213 (w + 15008))]
      have hQ220 : ∀ j ∈ P212, j ∈ P ∨ ((w + 15010 ≤ j ∧ j < w + 15010) ∨ (w + 15005 ≤ j ∧ j < w + 15005 + 1) ∨ (w + 15005 + 1 ≤ j ∧ j < w + 15005 + 2) ∨ (w ≤ j ∧ j < w + 1) ∨ (w + 1 ≤ j ∧ j < w + 3500) ∨ (w + 15000 ≤ j ∧ j < w + 15000 + 1) ∨ (w + 15000 + 1 ≤ j ∧ j < w + 15000 + 5) ∨ (w + 15007 ≤ j ∧ j < w + 15007 + 1) ∨ (0 ≤ j ∧ j < 0) ∨ (w + 15008 ≤ j ∧ j < w + 15008 + 1) ∨ (w + 15009 ≤ j ∧ j < w + 15009 + 1) ∨ (w + 5000 ≤ j ∧ j < w + 5000 + 5000 * t) ∨ (w + 5000 + 5000 * t ≤ j ∧ j < w + 5000 + 5000 * t + 1)) := fun j hj => by
          rcases hq215 j hj with h | h
          · rcases iQ j h with q | q
            · exact Or.inl q
            · exact Or.inr (by omega)
          · exact Or.inr (by omega)
      have hB221 : ∀ j, ¬ ((w + 15010 ≤ j ∧ j < w + 15010) ∨ (w + 15005 ≤ j ∧ j < w + 15005 + 1) ∨ (w + 15005 + 1 ≤ j ∧ j < w + 15005 + 2) ∨ (w ≤ j ∧ j < w + 1) ∨ (w + 1 ≤ j ∧ j < w + 3500) ∨ (w + 15000 ≤ j ∧ j < w + 15000 + 1) ∨ (w + 15000 + 1 ≤ j ∧ j < w + 15000 + 5) ∨ (w + 15007 ≤ j ∧ j < w + 15007 + 1) ∨ (0 ≤ j ∧ j < 0) ∨ (w + 15008 ≤ j ∧ j < w + 15008 + 1) ∨ (w + 15009 ≤ j ∧ j < w + 15009 + 1) ∨ (w + 5000 ≤ j ∧ j < w + 5000 + 5000 * t) ∨ (w + 5000 + 5000 * t ≤ j ∧ j < w + 5000 + 5000 * t + 1)) → A213 j = A j := fun j hj => (ha216 j (by omega)).trans (iB j (by omega))
      have hF222 : ∀ j, j ≠ w + 15010 → ¬ ((w + 15010 ≤ j ∧ j < w + 15010) ∨ (w + 15005 ≤ j ∧ j < w + 15005 + 1) ∨ (w + 15005 + 1 ≤ j ∧ j < w + 15005 + 2) ∨ (w ≤ j ∧ j < w + 1) ∨ (w + 1 ≤ j ∧ j < w + 3500) ∨ (w + 15000 ≤ j ∧ j < w + 15000 + 1) ∨ (w + 15000 + 1 ≤ j ∧ j < w + 15000 + 5) ∨ (w + 15007 ≤ j ∧ j < w + 15007 + 1) ∨ (0 ≤ j ∧ j < 0) ∨ (w + 15008 ≤ j ∧ j < w + 15008 + 1) ∨ (w + 15009 ≤ j ∧ j < w + 15009 + 1) ∨ (w + 5000 ≤ j ∧ j < w + 5000 + 5000 * t) ∨ (w + 5000 + 5000 * t ≤ j ∧ j < w + 5000 + 5000 * t + 1)) → g214 j = g j := fun j hk hj => (hg217 j (by omega)).trans (iF j hk (by omega))
      have h223 : g214 (w + 15010) = ob 10 [.ref (A213 (w + 15005)), .ref (A213 w), .ref (A213 (w + 15000)), .ref (A213 (w + 15007)), .ref (A213 (w + 15008)), .ref (A213 (w + 15009))] := by
          have z := (hg217 _ (by omega)).trans iO
          rw [show B (w + 15005) = A213 (w + 15005) from (ha216 _ (by omega)).symm, show B w = A213 w from (ha216 _ (by omega)).symm, show B (w + 15000) = A213 (w + 15000) from (ha216 _ (by omega)).symm, show B (w + 15007) = A213 (w + 15007) from (ha216 _ (by omega)).symm, show B (w + 15008) = A213 (w + 15008) from (ha216 _ (by omega)).symm, show B (w + 15009) = A213 (w + 15009) from (ha216 _ (by omega)).symm] at z
          exact z
      have h224 : CO A213 g214 (w + 15005) [] := i0.xt hx218
      have h225 : WD A213 g214 w (w + 15005) sg0 := i1.xt hx218 (ha216 _ (by omega)) (ha216 _ (by omega))
      have h226 : VV A213 g214 w := i2.xt hx218 (ha216 _ (by omega)) (ha216 _ (by omega))
      have h227 : g214 (w + 15007) = ob 7 [.ref (A213 w)] := by
          have z := (hg217 _ (by omega)).trans i3
          rw [show B w = A213 w from (ha216 _ (by omega)).symm] at z
          exact z
      have h228 : g214 (w + 15008) = aq 5 2 (rwu A213 (w + 5000) 5000 t) := (hx218.at i4 p_nil).trans (by rw [rwu_e (fun j hj => ha216 _ (by omega))])
      have h229 : g214 (w + 15009) = ai 1 2 (fun _ => 0) := hx218.at i5 p_nil
      have h230 : ∀ j, j < t → WD A213 g214 (w + 5000 + 5000 * j) (w + 15005) sg0 := fun j hj => (i6 j hj).xt hx218 (ha216 _ (by omega)) (ha216 _ (by omega))
      refine g_dup (pc := 90) C dX10_init_90 rfl ?_
      refine g_aload_n (pc := 91) C dX10_init_91 0 rfl ?_
      refine g_get (pc := 92) C (j := 0) h223 rfl rfl (by decide) u_324 dX10_init_92 ?_
      show V K (2862 + 2852 * t + 1) (12509 + 12417 * t + 11) P212 A213 g214 [(0, .ref (A213 (w + 15010))), (1, .int (nI t))] 95 [.ref (A213 (w + 15005)), .ref (A213 (w + 5000 + 5000 * t)), .ref (A213 (w + 5000 + 5000 * t)), .int (nI t), .ref (A213 (w + 15008))]
      refine v_p0 fun h0231 => ?_
      have hf232 : ∀ j ∈ P212, ¬ (w + 5000 + 5000 * t + 1 ≤ j ∧ j < w + 5000 + 5000 * t + 3500) ∧ ¬ (0 ≤ j ∧ j < 0) := fun j hj => by
          rcases hQ220 j hj with q | q
          · have z := hP j q
            omega
          · omega
      refine g_callI (pc := 95) C (As := [.ref (A213 (w + 15005))]) (rest := [.ref (A213 (w + 5000 + 5000 * t)), .int (nI t), .ref (A213 (w + 15008))]) (b := (w + 5000 + 5000 * t)) (c_X9_init A213 P212 g214 (w + 5000 + 5000 * t) (w + 15005) (by omega) hk219 hf232) u_42 u_3 u_43 u_41 rfl N_X9_init ⟨Nat.le_of_ble_eq_true rfl, Nat.le_of_ble_eq_true rfl⟩ ⟨show 2862 + 2852 * t + 1 + 2851 ≤ 8566 by omega, show 12509 + 12417 * t + 11 + 12406 ≤ 37343 by omega⟩ (Nat.le_of_ble_eq_true rfl) rfl dX10_init_95 ?_
      rintro _ P233 A234 g235 ⟨rfl, hc236, hq237, ha238, hg239⟩
      have hx240 : Ext A213 (va_up g214 (w + 5000 + 5000 * t) p0) A234 g235 := Mk.ext ⟨hq237, ha238, hg239⟩ h0231 hf232
      have hu241 : Fr g214 (va_up g214 (w + 5000 + 5000 * t) p0) (w + 5000 + 5000 * t) (w + 5000 + 5000 * t + 1) := Fr.up (by omega) (by omega)
      rw [show A213 (w + 15010) = A234 (w + 15010) from (ha238 _ (by omega) (by omega)).symm, show A213 (w + 5000 + 5000 * t) = A234 (w + 5000 + 5000 * t) from (ha238 _ (by omega) (by omega)).symm, show A213 (w + 15008) = A234 (w + 15008) from (ha238 _ (by omega) (by omega)).symm]
      show V K (2862 + 2852 * t + 1 + 2851) (12509 + 12417 * t + 11 + 12406) P233 A234 g235 [(0, .ref (A234 (w + 15010))), (1, .int (nI t))] 98 [.ref (A234 (w + 5000 + 5000 * t)), .int (nI t), .ref (A234 (w + 15008))]
      have hQ242 : ∀ j ∈ P233, j ∈ P ∨ ((w + 15010 ≤ j ∧ j < w + 15010) ∨ (w + 15005 ≤ j ∧ j < w + 15005 + 1) ∨ (w + 15005 + 1 ≤ j ∧ j < w + 15005 + 2) ∨ (w ≤ j ∧ j < w + 1) ∨ (w + 1 ≤ j ∧ j < w + 3500) ∨ (w + 15000 ≤ j ∧ j < w + 15000 + 1) ∨ (w + 15000 + 1 ≤ j ∧ j < w + 15000 + 5) ∨ (w + 15007 ≤ j ∧ j < w + 15007 + 1) ∨ (0 ≤ j ∧ j < 0) ∨ (w + 15008 ≤ j ∧ j < w + 15008 + 1) ∨ (w + 15009 ≤ j ∧ j < w + 15009 + 1) ∨ (w + 5000 ≤ j ∧ j < w + 5000 + 5000 * t) ∨ (w + 5000 + 5000 * t ≤ j ∧ j < w + 5000 + 5000 * t + 1) ∨ (w + 5000 + 5000 * t + 1 ≤ j ∧ j < w + 5000 + 5000 * t + 3500)) := fun j hj => by
          rcases hq237 j hj with h | h
          · rcases hQ220 j h with q | q
            · exact Or.inl q
            · exact Or.inr (by omega)
          · exact Or.inr (by omega)
      have hB243 : ∀ j, ¬ ((w + 15010 ≤ j ∧ j < w + 15010) ∨ (w + 15005 ≤ j ∧ j < w + 15005 + 1) ∨ (w + 15005 + 1 ≤ j ∧ j < w + 15005 + 2) ∨ (w ≤ j ∧ j < w + 1) ∨ (w + 1 ≤ j ∧ j < w + 3500) ∨ (w + 15000 ≤ j ∧ j < w + 15000 + 1) ∨ (w + 15000 + 1 ≤ j ∧ j < w + 15000 + 5) ∨ (w + 15007 ≤ j ∧ j < w + 15007 + 1) ∨ (0 ≤ j ∧ j < 0) ∨ (w + 15008 ≤ j ∧ j < w + 15008 + 1) ∨ (w + 15009 ≤ j ∧ j < w + 15009 + 1) ∨ (w + 5000 ≤ j ∧ j < w + 5000 + 5000 * t) ∨ (w + 5000 + 5000 * t ≤ j ∧ j < w + 5000 + 5000 * t + 1) ∨ (w + 5000 + 5000 * t + 1 ≤ j ∧ j < w + 5000 + 5000 * t + 3500)) → A234 j = A j := fun j hj => (ha238 j (by omega) (by omega)).trans (hB221 j (by omega))
      have hF244 : ∀ j, j ≠ w + 15010 → ¬ ((w + 15010 ≤ j ∧ j < w + 15010) ∨ (w + 15005 ≤ j ∧ j < w + 15005 + 1) ∨ (w + 15005 + 1 ≤ j ∧ j < w + 15005 + 2) ∨ (w ≤ j ∧ j < w + 1) ∨ (w + 1 ≤ j ∧ j < w + 3500) ∨ (w + 15000 ≤ j ∧ j < w + 15000 + 1) ∨ (w + 15000 + 1 ≤ j ∧ j < w + 15000 + 5) ∨ (w + 15007 ≤ j ∧ j < w + 15007 + 1) ∨ (0 ≤ j ∧ j < 0) ∨ (w + 15008 ≤ j ∧ j < w + 15008 + 1) ∨ (w + 15009 ≤ j ∧ j < w + 15009 + 1) ∨ (w + 5000 ≤ j ∧ j < w + 5000 + 5000 * t) ∨ (w + 5000 + 5000 * t ≤ j ∧ j < w + 5000 + 5000 * t + 1) ∨ (w + 5000 + 5000 * t + 1 ≤ j ∧ j < w + 5000 + 5000 * t + 3500)) → g235 j = g j := fun j hk hj => (hg239 j (by omega) (by omega) (by omega)).trans (hF222 j hk (by omega))
      have h245 : g235 (w + 15010) = ob 10 [.ref (A234 (w + 15005)), .ref (A234 w), .ref (A234 (w + 15000)), .ref (A234 (w + 15007)), .ref (A234 (w + 15008)), .ref (A234 (w + 15009))] := by
          have z := (hg239 _ (by omega) (by omega) (by omega)).trans h223
          rw [show A213 (w + 15005) = A234 (w + 15005) from (ha238 _ (by omega) (by omega)).symm, show A213 w = A234 w from (ha238 _ (by omega) (by omega)).symm, show A213 (w + 15000) = A234 (w + 15000) from (ha238 _ (by omega) (by omega)).symm, show A213 (w + 15007) = A234 (w + 15007) from (ha238 _ (by omega) (by omega)).symm, show A213 (w + 15008) = A234 (w + 15008) from (ha238 _ (by omega) (by omega)).symm, show A213 (w + 15009) = A234 (w + 15009) from (ha238 _ (by omega) (by omega)).symm] at z
          exact z
      have h246 : CO A234 g235 (w + 15005) [] := (h224.fr hu241 (by omega)).xt hx240
      have h247 : WD A234 g235 w (w + 15005) sg0 := (h225.fr hu241 (by omega)).xt hx240 (ha238 _ (by omega) (by omega)) (ha238 _ (by omega) (by omega))
      have h248 : VV A234 g235 w := (VV.fr h226 hu241 (by omega)).xt hx240 (ha238 _ (by omega) (by omega)) (ha238 _ (by omega) (by omega))
      have h249 : g235 (w + 15007) = ob 7 [.ref (A234 w)] := by
          have z := (hg239 _ (by omega) (by omega) (by omega)).trans h227
          rw [show A213 w = A234 w from (ha238 _ (by omega) (by omega)).symm] at z
          exact z
      have h250 : g235 (w + 15008) = aq 5 2 (rwu A234 (w + 5000) 5000 t) := (hx240.at ((va_up_ne _ _ (by omega)).trans h228) p_nil).trans (by rw [rwu_e (fun j hj => ha238 _ (by omega) (by omega))])
      have h251 : g235 (w + 15009) = ai 1 2 (fun _ => 0) := hx240.at ((va_up_ne _ _ (by omega)).trans h229) p_nil
      have h252 : ∀ j, j < t → WD A234 g235 (w + 5000 + 5000 * j) (w + 15005) sg0 := fun j hj => ((h230 j hj).fr hu241 (by omega)).xt hx240 (ha238 _ (by omega) (by omega)) (ha238 _ (by omega) (by omega))
      refine k_astq (pc := 98) C h250 hc236.1 rfl (fun _ => rfl) (nI_clamp (by omega)) (nI_in0 (n := 2) (by omega) (by omega)) dX10_init_98 (fun g253 hu254 hk255 => ?_)
      show V K (2862 + 2852 * t + 1 + 2851) (12509 + 12417 * t + 11 + 12406) P233 A234 g253 [(0, .ref (A234 (w + 15010))), (1, .int (nI t))] 99 []
      have hp256 : Fr g235 g253 (w + 15008) (w + 15008 + 1) := fun j hj => hu254 j (by omega)
      have h257 : g253 (w + 15010) = ob 10 [.ref (A234 (w + 15005)), .ref (A234 w), .ref (A234 (w + 15000)), .ref (A234 (w + 15007)), .ref (A234 (w + 15008)), .ref (A234 (w + 15009))] := (hu254 _ (by omega)).trans h245
      have h258 : CO A234 g253 (w + 15005) [] := h246.fr hp256 (by omega)
      have h259 : WD A234 g253 w (w + 15005) sg0 := h247.fr hp256 (by omega)
      have h260 : VV A234 g253 w := VV.fr h248 hp256 (by omega)
      have h261 : g253 (w + 15007) = ob 7 [.ref (A234 w)] := (hu254 _ (by omega)).trans h249
      have h262 : g253 (w + 15009) = ai 1 2 (fun _ => 0) := (hu254 _ (by omega)).trans h251
      have h263 : ∀ j, j < t → WD A234 g253 (w + 5000 + 5000 * j) (w + 15005) sg0 := fun j hj => (h252 j hj).fr hp256 (by omega)
      have h264 : WD A234 g253 (w + 5000 + 5000 * t) (w + 15005) sg0 := hc236.fr hp256 (by omega)
      have h265 : g253 (w + 15008) = aq 5 2 (rwu A234 (w + 5000) 5000 (t + 1)) := hk255.trans (by rw [rwu_s])
      have hF266 : ∀ j, j ≠ w + 15010 → ¬ ((w + 15010 ≤ j ∧ j < w + 15010) ∨ (w + 15005 ≤ j ∧ j < w + 15005 + 1) ∨ (w + 15005 + 1 ≤ j ∧ j < w + 15005 + 2) ∨ (w ≤ j ∧ j < w + 1) ∨ (w + 1 ≤ j ∧ j < w + 3500) ∨ (w + 15000 ≤ j ∧ j < w + 15000 + 1) ∨ (w + 15000 + 1 ≤ j ∧ j < w + 15000 + 5) ∨ (w + 15007 ≤ j ∧ j < w + 15007 + 1) ∨ (0 ≤ j ∧ j < 0) ∨ (w + 15008 ≤ j ∧ j < w + 15008 + 1) ∨ (w + 15009 ≤ j ∧ j < w + 15009 + 1) ∨ (w + 5000 ≤ j ∧ j < w + 5000 + 5000 * t) ∨ (w + 5000 + 5000 * t ≤ j ∧ j < w + 5000 + 5000 * t + 1) ∨ (w + 5000 + 5000 * t + 1 ≤ j ∧ j < w + 5000 + 5000 * t + 3500)) → g253 j = g j := fun j hk hj => (hu254 j (by omega)).trans (hF244 j hk hj)
      refine g_iinc (pc := 99) C dX10_init_99 (by decide) 1 rfl (v := nI (t + 1)) (nI_i1 _) (lv' := [(0, .ref (A234 (w + 15010))), (1, .int (nI (t + 1)))]) [1, 0] rfl ?_
      refine g_goto (pc := 102) C dX10_init_102 (tgt := 77) (by decide) ?_
      rw [show 2862 + 2852 * t + 1 + 2851 = 2862 + 2852 * (t + 1) by omega, show 12509 + 12417 * t + 11 + 12406 = 12509 + 12417 * (t + 1) by omega]
      exact ih (t + 1) (by omega) P233 A234 g253 ⟨fun j hj => by
          rcases hQ242 j hj with q | q
          · exact Or.inl q
          · exact Or.inr (by omega), fun j hj => hB243 j (by omega), fun j hk hj => hF266 j hk (by omega), h257, h258, h259, h260, h261, h265, h262, fun j hj => by
          rcases Nat.lt_succ_iff_lt_or_eq.mp hj with q | q
          · exact h263 j q
          · subst q
            exact h264⟩
  exact lp 2 0 (by omega) P183 A184 g200 ⟨fun j hj => by
      rcases hQ191 j hj with q | q
      · exact Or.inl q
      · exact Or.inr (by omega), fun j hj => hB192 j (by omega), fun j hk hj => hF211 j hk (by omega), hO210, h204, h205, h206, h207, h208, h209, fun j hj => absurd hj (Nat.not_lt_zero _)⟩
