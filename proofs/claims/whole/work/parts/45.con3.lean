-- PART 45: the constructor of a world
abbrev rm_X9_init : Room := { frames := 4, cells := 2851, slots := 12406, locals := 84 }
theorem N_X9_init : yX9_init.cls ≠ "java/lang/invoke/MethodHandle" ∧ yX9_init.cls ≠ "java/lang/invoke/VarHandle" ∧ (parseMethodDescriptor yX9_init.desc).map (fun d => d.parameters.length) = some 1 := by decide +kernel
theorem df_X9 : ∀ j, j < 11 → defaultValue (tyX9 j) = vp_V [.null, .null, .null, .null, .null, .null, .null, .int 0, .int 0, .int 0, .int 0] j := by
  intro j hj
  match j, hj with
  | 0, _ => exact rfl
  | 1, _ => exact rfl
  | 2, _ => exact rfl
  | 3, _ => exact rfl
  | 4, _ => exact rfl
  | 5, _ => exact rfl
  | 6, _ => exact rfl
  | 7, _ => exact rfl
  | 8, _ => exact rfl
  | 9, _ => exact rfl
  | 10, _ => exact rfl
  | n + 11, h => exact absurd h (by omega)
set_option maxRecDepth 20000 in
set_option maxHeartbeats 4000000 in
theorem c_X9_init (A : Nat → Nat) (P : List Nat) (g : pM) (w q : Nat) (hq : q < w ∨ w + 3500 ≤ q) (hO : g w = ob 9 [.null, .null, .null, .null, .null, .null, .null, .int 0, .int 0, .int 0, .int 0]) (hP : ∀ j ∈ P, ¬ (w + 1 ≤ j ∧ j < w + 3500) ∧ ¬ (0 ≤ j ∧ j < 0)) : PX yX9_init cX9_init 3 (Option.none : Option Jvm.ClassFile.FieldType) rm_X9_init [.ref (A w), .ref (A q)] P A g (fun v P' A' g' => v = none ∧ (WD A' g' w q sg0) ∧ Mk w (w + 1) (w + 3500) 0 0 P A g P' A' g') := by
  refine px_intro (by decide +kernel) (Nat.le_of_ble_eq_true rfl) (fun K sz C R => ?_)
  have hQ0 : ∀ j ∈ P, j ∈ P ∨ ((w ≤ j ∧ j < w)) := fun j hj => Or.inl hj
  have hB0 : ∀ j, ¬ ((w ≤ j ∧ j < w)) → A j = A j := fun j hj => rfl
  have hF0 : ∀ j, j ≠ w → ¬ ((w ≤ j ∧ j < w)) → g j = g j := fun j hk hj => rfl
  show V K 0 0 P A g [(0, .ref (A w)), (1, .ref (A q))] 0 []
  refine g_aload_n (pc := 0) C dX9_init_0 0 rfl ?_
  refine g_objInit (pc := 1) C u_44 u_21 u_22 (Nat.le_of_ble_eq_true rfl) (Nat.le_of_ble_eq_true rfl) dX9_init_1 ?_
  refine g_aload_n (pc := 4) C dX9_init_4 0 rfl ?_
  refine k_new (pc := 5) C (w + 1) (ci := 6) (fs := [.int 0, .int 0, .int 0, .int 0, .int 0]) (q := (RX6, TX6, 5)) (ty := tyX6) (fun h => (hQ0 _ h).elim (fun q => by have z := hP _ q; omega) (fun q => by omega)) rfl u_45 u_46 u_4 tyX6_ok df_X6 ⟨show 0 + 1 ≤ 2851 by omega, show 0 + 5 ≤ 12406 by omega⟩ dX9_init_5 (fun P1 A2 g3 hq4 ha5 hg6 hx7 hk8 => ?_)
  rw [show A w = A2 w from (ha5 _ (by omega)).symm, show A q = A2 q from (ha5 _ (by omega)).symm]
  show V K 1 5 P1 A2 g3 [(0, .ref (A2 w)), (1, .ref (A2 q))] 8 [.ref (A2 (w + 1)), .ref (A2 w)]
  have hQ9 : ∀ j ∈ P1, j ∈ P ∨ ((w ≤ j ∧ j < w) ∨ (w + 1 ≤ j ∧ j < w + 1 + 1)) := fun j hj => by
      rcases hq4 j hj with h | h
      · rcases hQ0 j h with q | q
        · exact Or.inl q
        · exact Or.inr (by omega)
      · exact Or.inr (by omega)
  have hB10 : ∀ j, ¬ ((w ≤ j ∧ j < w) ∨ (w + 1 ≤ j ∧ j < w + 1 + 1)) → A2 j = A j := fun j hj => (ha5 j (by omega)).trans (hB0 j (by omega))
  have hF11 : ∀ j, j ≠ w → ¬ ((w ≤ j ∧ j < w) ∨ (w + 1 ≤ j ∧ j < w + 1 + 1)) → g3 j = g j := fun j hk hj => (hg6 j (by omega)).trans (hF0 j hk (by omega))
  have h12 : g3 w = ob 9 [.null, .null, .null, .null, .null, .null, .null, .int 0, .int 0, .int 0, .int 0] := (hg6 _ (by omega)).trans hO
  refine g_dup (pc := 8) C dX9_init_8 rfl ?_
  refine v_p0 fun h013 => ?_
  have hf14 : ∀ j ∈ P1, ¬ (0 ≤ j ∧ j < 0) ∧ ¬ (0 ≤ j ∧ j < 0) := fun j hj => by
      rcases hQ9 j hj with q | q
      · have z := hP j q
        omega
      · omega
  refine g_callIN (host := "ViewBroadcast") (pc := 9) C (As := []) (rest := [.ref (A2 (w + 1)), .ref (A2 w)]) (b := (w + 1)) (c_X6_init A2 P1 g3 (w + 1) hk8 hf14) u_48 u_4 u_49 (by decide) rfl N_X6_init ⟨Nat.le_of_ble_eq_true rfl, Nat.le_of_ble_eq_true rfl⟩ ⟨show 1 + 0 ≤ 2851 by omega, show 5 + 0 ≤ 12406 by omega⟩ (Nat.le_of_ble_eq_true rfl) rfl dX9_init_9 ?_
  rintro _ P15 A16 g17 ⟨rfl, hc18, hq19, ha20, hg21⟩
  have hx22 : Ext A2 (va_up g3 (w + 1) p0) A16 g17 := Mk.ext ⟨hq19, ha20, hg21⟩ h013 hf14
  have hu23 : Fr g3 (va_up g3 (w + 1) p0) (w + 1) (w + 1 + 1) := Fr.up (by omega) (by omega)
  rw [show A2 w = A16 w from (ha20 _ (by omega) (by omega)).symm, show A2 q = A16 q from (ha20 _ (by omega) (by omega)).symm, show A2 (w + 1) = A16 (w + 1) from (ha20 _ (by omega) (by omega)).symm]
  show V K 1 5 P15 A16 g17 [(0, .ref (A16 w)), (1, .ref (A16 q))] 12 [.ref (A16 (w + 1)), .ref (A16 w)]
  have hQ24 : ∀ j ∈ P15, j ∈ P ∨ ((w ≤ j ∧ j < w) ∨ (w + 1 ≤ j ∧ j < w + 1 + 1) ∨ (0 ≤ j ∧ j < 0)) := fun j hj => by
      rcases hq19 j hj with h | h
      · rcases hQ9 j h with q | q
        · exact Or.inl q
        · exact Or.inr (by omega)
      · exact Or.inr (by omega)
  have hB25 : ∀ j, ¬ ((w ≤ j ∧ j < w) ∨ (w + 1 ≤ j ∧ j < w + 1 + 1) ∨ (0 ≤ j ∧ j < 0)) → A16 j = A j := fun j hj => (ha20 j (by omega) (by omega)).trans (hB10 j (by omega))
  have hF26 : ∀ j, j ≠ w → ¬ ((w ≤ j ∧ j < w) ∨ (w + 1 ≤ j ∧ j < w + 1 + 1) ∨ (0 ≤ j ∧ j < 0)) → g17 j = g j := fun j hk hj => (hg21 j (by omega) (by omega) (by omega)).trans (hF11 j hk (by omega))
  have h27 : g17 w = ob 9 [.null, .null, .null, .null, .null, .null, .null, .int 0, .int 0, .int 0, .int 0] := (hg21 _ (by omega) (by omega) (by omega)).trans h12
  refine k_putF (pc := 12) C (j := 1) R.2.2.2.2.2 h27 rfl (by decide) (Nat.le_of_ble_eq_true rfl) u_247 rfl rfl (tyX9_ok 1 (by decide)) rfl rfl dX9_init_12 (fun g28 hu29 hO30 => ?_)
  show V K 1 5 P15 A16 g28 [(0, .ref (A16 w)), (1, .ref (A16 q))] 15 []
  have hp31 : Fr g17 g28 w (w + 1) := fun j hj => hu29 j (by omega)
  have h32 : SZ g28 (w + 1) (3, 5, 4, 2, 4) := hc18.fr hp31 (by omega)
  have hO33 : g28 w = ob 9 [.null, .ref (A16 (w + 1)), .null, .null, .null, .null, .null, .int 0, .int 0, .int 0, .int 0] := hO30
  have hF34 : ∀ j, j ≠ w → ¬ ((w ≤ j ∧ j < w) ∨ (w + 1 ≤ j ∧ j < w + 1 + 1) ∨ (0 ≤ j ∧ j < 0)) → g28 j = g j := fun j hk hj => (hu29 j hk).trans (hF26 j hk hj)
  refine g_aload_n (pc := 15) C dX9_init_15 0 rfl ?_
  refine g_bipush (pc := 16) C dX9_init_16 (v := nI 16) rfl ?_
  refine k_newq (pc := 18) C (w + 2) (N' := 16) (c1 := 4) (fun h => (hQ24 _ h).elim (fun q => by have z := hP _ q; omega) (fun q => by omega)) (by decide) (fun _ => rfl) u_77 (nI_pos (by omega)) (nI_clamp (by omega)) (by omega) ⟨show 1 + 1 ≤ 2851 by omega, show 5 + 16 ≤ 12406 by omega⟩ dX9_init_18 (fun P35 A36 g37 hq38 ha39 hg40 hx41 hk42 => ?_)
  rw [show A16 w = A36 w from (ha39 _ (by omega)).symm, show A16 q = A36 q from (ha39 _ (by omega)).symm]
  show V K 2 21 P35 A36 g37 [(0, .ref (A36 w)), (1, .ref (A36 q))] 21 [.ref (A36 (w + 2)), .ref (A36 w)]
  have hQ43 : ∀ j ∈ P35, j ∈ P ∨ ((w ≤ j ∧ j < w) ∨ (w + 1 ≤ j ∧ j < w + 1 + 1) ∨ (0 ≤ j ∧ j < 0) ∨ (w + 2 ≤ j ∧ j < w + 2 + 1)) := fun j hj => by
      rcases hq38 j hj with h | h
      · rcases hQ24 j h with q | q
        · exact Or.inl q
        · exact Or.inr (by omega)
      · exact Or.inr (by omega)
  have hB44 : ∀ j, ¬ ((w ≤ j ∧ j < w) ∨ (w + 1 ≤ j ∧ j < w + 1 + 1) ∨ (0 ≤ j ∧ j < 0) ∨ (w + 2 ≤ j ∧ j < w + 2 + 1)) → A36 j = A j := fun j hj => (ha39 j (by omega)).trans (hB25 j (by omega))
  have hF45 : ∀ j, j ≠ w → ¬ ((w ≤ j ∧ j < w) ∨ (w + 1 ≤ j ∧ j < w + 1 + 1) ∨ (0 ≤ j ∧ j < 0) ∨ (w + 2 ≤ j ∧ j < w + 2 + 1)) → g37 j = g j := fun j hk hj => (hg40 j (by omega)).trans (hF34 j hk (by omega))
  have h46 : SZ g37 (w + 1) (3, 5, 4, 2, 4) := h32.xt hx41
  have h47 : g37 w = ob 9 [.null, .ref (A36 (w + 1)), .null, .null, .null, .null, .null, .int 0, .int 0, .int 0, .int 0] := by
      have z := (hg40 _ (by omega)).trans hO33
      rw [show A16 (w + 1) = A36 (w + 1) from (ha39 _ (by omega)).symm] at z
      exact z
  have h48 : g37 (w + 2) = aq 4 16 (rwu A36 (w + 100) 100 0) := hk42.trans (by rw [rwu_0])
  refine k_putF (pc := 21) C (j := 2) R.2.2.2.2.2 h47 rfl (by decide) (Nat.le_of_ble_eq_true rfl) u_251 rfl rfl (tyX9_ok 2 (by decide)) rfl rfl dX9_init_21 (fun g49 hu50 hO51 => ?_)
  show V K 2 21 P35 A36 g49 [(0, .ref (A36 w)), (1, .ref (A36 q))] 24 []
  have hp52 : Fr g37 g49 w (w + 1) := fun j hj => hu50 j (by omega)
  have h53 : SZ g49 (w + 1) (3, 5, 4, 2, 4) := h46.fr hp52 (by omega)
  have h54 : g49 (w + 2) = aq 4 16 (rwu A36 (w + 100) 100 0) := (hu50 _ (by omega)).trans h48
  have hO55 : g49 w = ob 9 [.null, .ref (A36 (w + 1)), .ref (A36 (w + 2)), .null, .null, .null, .null, .int 0, .int 0, .int 0, .int 0] := hO51
  have hF56 : ∀ j, j ≠ w → ¬ ((w ≤ j ∧ j < w) ∨ (w + 1 ≤ j ∧ j < w + 1 + 1) ∨ (0 ≤ j ∧ j < 0) ∨ (w + 2 ≤ j ∧ j < w + 2 + 1)) → g49 j = g j := fun j hk hj => (hu50 j hk).trans (hF45 j hk hj)
  refine g_aload_n (pc := 24) C dX9_init_24 0 rfl ?_
  refine k_new (pc := 25) C (w + 1700) (ci := 3) (fs := [.int 0, .int 0, .null, .null, .int 0, .int 0, .int 0, .int 0, .null, .null]) (q := (RX3, TX3, 10)) (ty := tyX3) (fun h => (hQ43 _ h).elim (fun q => by have z := hP _ q; omega) (fun q => by omega)) rfl u_77 u_79 u_5 tyX3_ok df_X3 ⟨show 2 + 1 ≤ 2851 by omega, show 21 + 10 ≤ 12406 by omega⟩ dX9_init_25 (fun P57 A58 g59 hq60 ha61 hg62 hx63 hk64 => ?_)
  rw [show A36 w = A58 w from (ha61 _ (by omega)).symm, show A36 q = A58 q from (ha61 _ (by omega)).symm]
  show V K 3 31 P57 A58 g59 [(0, .ref (A58 w)), (1, .ref (A58 q))] 28 [.ref (A58 (w + 1700)), .ref (A58 w)]
  have hQ65 : ∀ j ∈ P57, j ∈ P ∨ ((w ≤ j ∧ j < w) ∨ (w + 1 ≤ j ∧ j < w + 1 + 1) ∨ (0 ≤ j ∧ j < 0) ∨ (w + 2 ≤ j ∧ j < w + 2 + 1) ∨ (w + 1700 ≤ j ∧ j < w + 1700 + 1)) := fun j hj => by
      rcases hq60 j hj with h | h
      · rcases hQ43 j h with q | q
        · exact Or.inl q
        · exact Or.inr (by omega)
      · exact Or.inr (by omega)
  have hB66 : ∀ j, ¬ ((w ≤ j ∧ j < w) ∨ (w + 1 ≤ j ∧ j < w + 1 + 1) ∨ (0 ≤ j ∧ j < 0) ∨ (w + 2 ≤ j ∧ j < w + 2 + 1) ∨ (w + 1700 ≤ j ∧ j < w + 1700 + 1)) → A58 j = A j := fun j hj => (ha61 j (by omega)).trans (hB44 j (by omega))
  have hF67 : ∀ j, j ≠ w → ¬ ((w ≤ j ∧ j < w) ∨ (w + 1 ≤ j ∧ j < w + 1 + 1) ∨ (0 ≤ j ∧ j < 0) ∨ (w + 2 ≤ j ∧ j < w + 2 + 1) ∨ (w + 1700 ≤ j ∧ j < w + 1700 + 1)) → g59 j = g j := fun j hk hj => (hg62 j (by omega)).trans (hF56 j hk (by omega))
  have h68 : SZ g59 (w + 1) (3, 5, 4, 2, 4) := h53.xt hx63
  have h69 : g59 (w + 2) = aq 4 16 (rwu A58 (w + 100) 100 0) := (hx63.at h54 p_nil).trans (by rw [rwu_e (fun j hj => ha61 _ (by omega))])
  have h70 : g59 w = ob 9 [.null, .ref (A58 (w + 1)), .ref (A58 (w + 2)), .null, .null, .null, .null, .int 0, .int 0, .int 0, .int 0] := by
      have z := (hg62 _ (by omega)).trans hO55
      rw [show A36 (w + 1) = A58 (w + 1) from (ha61 _ (by omega)).symm, show A36 (w + 2) = A58 (w + 2) from (ha61 _ (by omega)).symm] at z
      exact z
  refine g_dup (pc := 28) C dX9_init_28 rfl ?_
  refine g_iconst (pc := 29) C dX9_init_29 (v := nI 0) rfl ?_
  refine v_p0 fun h071 => ?_
  have hf72 : ∀ j ∈ P57, ¬ (w + 1700 + 1 ≤ j ∧ j < w + 1700 + 100) ∧ ¬ (0 ≤ j ∧ j < 0) := fun j hj => by
      rcases hQ65 j hj with q | q
      · have z := hP j q
        omega
      · omega
  refine g_callI (pc := 30) C (As := [.int (nI 0)]) (rest := [.ref (A58 (w + 1700)), .ref (A58 w)]) (b := (w + 1700)) (c_X3_init A58 P57 g59 (w + 1700) 0 (by omega) hk64 hf72) u_81 u_5 u_82 u_80 rfl N_X3_init ⟨Nat.le_of_ble_eq_true rfl, Nat.le_of_ble_eq_true rfl⟩ ⟨show 3 + 78 ≤ 2851 by omega, show 31 + 305 ≤ 12406 by omega⟩ (Nat.le_of_ble_eq_true rfl) rfl dX9_init_30 ?_
  rintro _ P73 A74 g75 ⟨rfl, hc76, hq77, ha78, hg79⟩
  have hx80 : Ext A58 (va_up g59 (w + 1700) p0) A74 g75 := Mk.ext ⟨hq77, ha78, hg79⟩ h071 hf72
  have hu81 : Fr g59 (va_up g59 (w + 1700) p0) (w + 1700) (w + 1700 + 1) := Fr.up (by omega) (by omega)
  rw [show A58 w = A74 w from (ha78 _ (by omega) (by omega)).symm, show A58 q = A74 q from (ha78 _ (by omega) (by omega)).symm, show A58 (w + 1700) = A74 (w + 1700) from (ha78 _ (by omega) (by omega)).symm]
  show V K 81 336 P73 A74 g75 [(0, .ref (A74 w)), (1, .ref (A74 q))] 33 [.ref (A74 (w + 1700)), .ref (A74 w)]
  have hQ82 : ∀ j ∈ P73, j ∈ P ∨ ((w ≤ j ∧ j < w) ∨ (w + 1 ≤ j ∧ j < w + 1 + 1) ∨ (0 ≤ j ∧ j < 0) ∨ (w + 2 ≤ j ∧ j < w + 2 + 1) ∨ (w + 1700 ≤ j ∧ j < w + 1700 + 1) ∨ (w + 1700 + 1 ≤ j ∧ j < w + 1700 + 100)) := fun j hj => by
      rcases hq77 j hj with h | h
      · rcases hQ65 j h with q | q
        · exact Or.inl q
        · exact Or.inr (by omega)
      · exact Or.inr (by omega)
  have hB83 : ∀ j, ¬ ((w ≤ j ∧ j < w) ∨ (w + 1 ≤ j ∧ j < w + 1 + 1) ∨ (0 ≤ j ∧ j < 0) ∨ (w + 2 ≤ j ∧ j < w + 2 + 1) ∨ (w + 1700 ≤ j ∧ j < w + 1700 + 1) ∨ (w + 1700 + 1 ≤ j ∧ j < w + 1700 + 100)) → A74 j = A j := fun j hj => (ha78 j (by omega) (by omega)).trans (hB66 j (by omega))
  have hF84 : ∀ j, j ≠ w → ¬ ((w ≤ j ∧ j < w) ∨ (w + 1 ≤ j ∧ j < w + 1 + 1) ∨ (0 ≤ j ∧ j < 0) ∨ (w + 2 ≤ j ∧ j < w + 2 + 1) ∨ (w + 1700 ≤ j ∧ j < w + 1700 + 1) ∨ (w + 1700 + 1 ≤ j ∧ j < w + 1700 + 100)) → g75 j = g j := fun j hk hj => (hg79 j (by omega) (by omega) (by omega)).trans (hF67 j hk (by omega))
  have h85 : SZ g75 (w + 1) (3, 5, 4, 2, 4) := (h68.fr hu81 (by omega)).xt hx80
  have h86 : g75 (w + 2) = aq 4 16 (rwu A74 (w + 100) 100 0) := (hx80.at ((va_up_ne _ _ (by omega)).trans h69) p_nil).trans (by rw [rwu_e (fun j hj => ha78 _ (by omega) (by omega))])
  have h87 : g75 w = ob 9 [.null, .ref (A74 (w + 1)), .ref (A74 (w + 2)), .null, .null, .null, .null, .int 0, .int 0, .int 0, .int 0] := by
      have z := (hg79 _ (by omega) (by omega) (by omega)).trans h70
      rw [show A58 (w + 1) = A74 (w + 1) from (ha78 _ (by omega) (by omega)).symm, show A58 (w + 2) = A74 (w + 2) from (ha78 _ (by omega) (by omega)).symm] at z
      exact z
  refine k_putF (pc := 33) C (j := 3) R.2.2.2.2.2 h87 rfl (by decide) (Nat.le_of_ble_eq_true rfl) u_252 rfl rfl (tyX9_ok 3 (by decide)) rfl rfl dX9_init_33 (fun g88 hu89 hO90 => ?_)
  show V K 81 336 P73 A74 g88 [(0, .ref (A74 w)), (1, .ref (A74 q))] 36 []
  have hp91 : Fr g75 g88 w (w + 1) := fun j hj => hu89 j (by omega)
  have h92 : SZ g88 (w + 1) (3, 5, 4, 2, 4) := h85.fr hp91 (by omega)
  have h93 : g88 (w + 2) = aq 4 16 (rwu A74 (w + 100) 100 0) := (hu89 _ (by omega)).trans h86
  have h94 : ND A74 g88 (w + 1700) 0 ndz := hc76.fr hp91 (by omega)
  have hO95 : g88 w = ob 9 [.null, .ref (A74 (w + 1)), .ref (A74 (w + 2)), .ref (A74 (w + 1700)), .null, .null, .null, .int 0, .int 0, .int 0, .int 0] := hO90
  have hF96 : ∀ j, j ≠ w → ¬ ((w ≤ j ∧ j < w) ∨ (w + 1 ≤ j ∧ j < w + 1 + 1) ∨ (0 ≤ j ∧ j < 0) ∨ (w + 2 ≤ j ∧ j < w + 2 + 1) ∨ (w + 1700 ≤ j ∧ j < w + 1700 + 1) ∨ (w + 1700 + 1 ≤ j ∧ j < w + 1700 + 100)) → g88 j = g j := fun j hk hj => (hu89 j hk).trans (hF84 j hk hj)
  refine g_aload_n (pc := 36) C dX9_init_36 0 rfl ?_
  refine k_new (pc := 37) C (w + 3) (ci := 5) (fs := [.null, .int 0, .int 0, .int 0]) (q := (RX5, TX5, 4)) (ty := tyX5) (fun h => (hQ82 _ h).elim (fun q => by have z := hP _ q; omega) (fun q => by omega)) rfl u_179 u_180 u_9 tyX5_ok df_X5 ⟨show 81 + 1 ≤ 2851 by omega, show 336 + 4 ≤ 12406 by omega⟩ dX9_init_37 (fun P97 A98 g99 hq100 ha101 hg102 hx103 hk104 => ?_)
  rw [show A74 w = A98 w from (ha101 _ (by omega)).symm, show A74 q = A98 q from (ha101 _ (by omega)).symm]
  show V K 82 340 P97 A98 g99 [(0, .ref (A98 w)), (1, .ref (A98 q))] 40 [.ref (A98 (w + 3)), .ref (A98 w)]
  have hQ105 : ∀ j ∈ P97, j ∈ P ∨ ((w ≤ j ∧ j < w) ∨ (w + 1 ≤ j ∧ j < w + 1 + 1) ∨ (0 ≤ j ∧ j < 0) ∨ (w + 2 ≤ j ∧ j < w + 2 + 1) ∨ (w + 1700 ≤ j ∧ j < w + 1700 + 1) ∨ (w + 1700 + 1 ≤ j ∧ j < w + 1700 + 100) ∨ (w + 3 ≤ j ∧ j < w + 3 + 1)) := fun j hj => by
      rcases hq100 j hj with h | h
      · rcases hQ82 j h with q | q
        · exact Or.inl q
        · exact Or.inr (by omega)
      · exact Or.inr (by omega)
  have hB106 : ∀ j, ¬ ((w ≤ j ∧ j < w) ∨ (w + 1 ≤ j ∧ j < w + 1 + 1) ∨ (0 ≤ j ∧ j < 0) ∨ (w + 2 ≤ j ∧ j < w + 2 + 1) ∨ (w + 1700 ≤ j ∧ j < w + 1700 + 1) ∨ (w + 1700 + 1 ≤ j ∧ j < w + 1700 + 100) ∨ (w + 3 ≤ j ∧ j < w + 3 + 1)) → A98 j = A j := fun j hj => (ha101 j (by omega)).trans (hB83 j (by omega))
  have hF107 : ∀ j, j ≠ w → ¬ ((w ≤ j ∧ j < w) ∨ (w + 1 ≤ j ∧ j < w + 1 + 1) ∨ (0 ≤ j ∧ j < 0) ∨ (w + 2 ≤ j ∧ j < w + 2 + 1) ∨ (w + 1700 ≤ j ∧ j < w + 1700 + 1) ∨ (w + 1700 + 1 ≤ j ∧ j < w + 1700 + 100) ∨ (w + 3 ≤ j ∧ j < w + 3 + 1)) → g99 j = g j := fun j hk hj => (hg102 j (by omega)).trans (hF96 j hk (by omega))
  have h108 : SZ g99 (w + 1) (3, 5, 4, 2, 4) := h92.xt hx103
  have h109 : g99 (w + 2) = aq 4 16 (rwu A98 (w + 100) 100 0) := (hx103.at h93 p_nil).trans (by rw [rwu_e (fun j hj => ha101 _ (by omega))])
  have h110 : ND A98 g99 (w + 1700) 0 ndz := h94.xt hx103
  have h111 : g99 w = ob 9 [.null, .ref (A98 (w + 1)), .ref (A98 (w + 2)), .ref (A98 (w + 1700)), .null, .null, .null, .int 0, .int 0, .int 0, .int 0] := by
      have z := (hg102 _ (by omega)).trans hO95
      rw [show A74 (w + 1) = A98 (w + 1) from (ha101 _ (by omega)).symm, show A74 (w + 2) = A98 (w + 2) from (ha101 _ (by omega)).symm, show A74 (w + 1700) = A98 (w + 1700) from (ha101 _ (by omega)).symm] at z
      exact z
  refine g_dup (pc := 40) C dX9_init_40 rfl ?_
  refine v_p0 fun h0112 => ?_
  have hf113 : ∀ j ∈ P97, ¬ (w + 4 ≤ j ∧ j < w + 5) ∧ ¬ (w + 2000 ≤ j ∧ j < w + 3500) := fun j hj => by
      rcases hQ105 j hj with q | q
      · have z := hP j q
        omega
      · omega
  refine g_callI (pc := 41) C (As := []) (rest := [.ref (A98 (w + 3)), .ref (A98 w)]) (b := (w + 3)) (c_X5_init A98 P97 g99 w hk104 hf113) u_182 u_9 u_183 u_181 rfl N_X5_init ⟨Nat.le_of_ble_eq_true rfl, Nat.le_of_ble_eq_true rfl⟩ ⟨show 82 + 1501 ≤ 2851 by omega, show 340 + 7000 ≤ 12406 by omega⟩ (Nat.le_of_ble_eq_true rfl) rfl dX9_init_41 ?_
  rintro _ P114 A115 g116 ⟨rfl, hc117, hq118, ha119, hg120⟩
  have hx121 : Ext A98 (va_up g99 (w + 3) p0) A115 g116 := Mk.ext ⟨hq118, ha119, hg120⟩ h0112 hf113
  have hu122 : Fr g99 (va_up g99 (w + 3) p0) (w + 3) (w + 3 + 1) := Fr.up (by omega) (by omega)
  rw [show A98 w = A115 w from (ha119 _ (by omega) (by omega)).symm, show A98 q = A115 q from (ha119 _ (by omega) (by omega)).symm, show A98 (w + 3) = A115 (w + 3) from (ha119 _ (by omega) (by omega)).symm]
  show V K 1583 7340 P114 A115 g116 [(0, .ref (A115 w)), (1, .ref (A115 q))] 44 [.ref (A115 (w + 3)), .ref (A115 w)]
  have hQ123 : ∀ j ∈ P114, j ∈ P ∨ ((w ≤ j ∧ j < w) ∨ (w + 1 ≤ j ∧ j < w + 1 + 1) ∨ (0 ≤ j ∧ j < 0) ∨ (w + 2 ≤ j ∧ j < w + 2 + 1) ∨ (w + 1700 ≤ j ∧ j < w + 1700 + 1) ∨ (w + 1700 + 1 ≤ j ∧ j < w + 1700 + 100) ∨ (w + 3 ≤ j ∧ j < w + 3 + 1) ∨ (w + 4 ≤ j ∧ j < w + 5) ∨ (w + 2000 ≤ j ∧ j < w + 3500)) := fun j hj => by
      rcases hq118 j hj with h | h
      · rcases hQ105 j h with q | q
        · exact Or.inl q
        · exact Or.inr (by omega)
      · exact Or.inr (by omega)
  have hB124 : ∀ j, ¬ ((w ≤ j ∧ j < w) ∨ (w + 1 ≤ j ∧ j < w + 1 + 1) ∨ (0 ≤ j ∧ j < 0) ∨ (w + 2 ≤ j ∧ j < w + 2 + 1) ∨ (w + 1700 ≤ j ∧ j < w + 1700 + 1) ∨ (w + 1700 + 1 ≤ j ∧ j < w + 1700 + 100) ∨ (w + 3 ≤ j ∧ j < w + 3 + 1) ∨ (w + 4 ≤ j ∧ j < w + 5) ∨ (w + 2000 ≤ j ∧ j < w + 3500)) → A115 j = A j := fun j hj => (ha119 j (by omega) (by omega)).trans (hB106 j (by omega))
  have hF125 : ∀ j, j ≠ w → ¬ ((w ≤ j ∧ j < w) ∨ (w + 1 ≤ j ∧ j < w + 1 + 1) ∨ (0 ≤ j ∧ j < 0) ∨ (w + 2 ≤ j ∧ j < w + 2 + 1) ∨ (w + 1700 ≤ j ∧ j < w + 1700 + 1) ∨ (w + 1700 + 1 ≤ j ∧ j < w + 1700 + 100) ∨ (w + 3 ≤ j ∧ j < w + 3 + 1) ∨ (w + 4 ≤ j ∧ j < w + 5) ∨ (w + 2000 ≤ j ∧ j < w + 3500)) → g116 j = g j := fun j hk hj => (hg120 j (by omega) (by omega) (by omega)).trans (hF107 j hk (by omega))
  have h126 : SZ g116 (w + 1) (3, 5, 4, 2, 4) := (h108.fr hu122 (by omega)).xt hx121
  have h127 : g116 (w + 2) = aq 4 16 (rwu A115 (w + 100) 100 0) := (hx121.at ((va_up_ne _ _ (by omega)).trans h109) p_nil).trans (by rw [rwu_e (fun j hj => ha119 _ (by omega) (by omega))])
  have h128 : ND A115 g116 (w + 1700) 0 ndz := (h110.fr hu122 (by omega)).xt hx121
  have h129 : g116 w = ob 9 [.null, .ref (A115 (w + 1)), .ref (A115 (w + 2)), .ref (A115 (w + 1700)), .null, .null, .null, .int 0, .int 0, .int 0, .int 0] := by
      have z := (hg120 _ (by omega) (by omega) (by omega)).trans h111
      rw [show A98 (w + 1) = A115 (w + 1) from (ha119 _ (by omega) (by omega)).symm, show A98 (w + 2) = A115 (w + 2) from (ha119 _ (by omega) (by omega)).symm, show A98 (w + 1700) = A115 (w + 1700) from (ha119 _ (by omega) (by omega)).symm] at z
      exact z
  refine k_putF (pc := 44) C (j := 4) R.2.2.2.2.2 h129 rfl (by decide) (Nat.le_of_ble_eq_true rfl) u_253 rfl rfl (tyX9_ok 4 (by decide)) rfl rfl dX9_init_44 (fun g130 hu131 hO132 => ?_)
  show V K 1583 7340 P114 A115 g130 [(0, .ref (A115 w)), (1, .ref (A115 q))] 47 []
  have hp133 : Fr g116 g130 w (w + 1) := fun j hj => hu131 j (by omega)
  have h134 : SZ g130 (w + 1) (3, 5, 4, 2, 4) := h126.fr hp133 (by omega)
  have h135 : g130 (w + 2) = aq 4 16 (rwu A115 (w + 100) 100 0) := (hu131 _ (by omega)).trans h127
  have h136 : ND A115 g130 (w + 1700) 0 ndz := h128.fr hp133 (by omega)
  have h137 : RW A115 g130 w [] 0 := RW.fr' hc117 (fun k hk => hp133 k (by omega))
  have hO138 : g130 w = ob 9 [.null, .ref (A115 (w + 1)), .ref (A115 (w + 2)), .ref (A115 (w + 1700)), .ref (A115 (w + 3)), .null, .null, .int 0, .int 0, .int 0, .int 0] := hO132
  have hF139 : ∀ j, j ≠ w → ¬ ((w ≤ j ∧ j < w) ∨ (w + 1 ≤ j ∧ j < w + 1 + 1) ∨ (0 ≤ j ∧ j < 0) ∨ (w + 2 ≤ j ∧ j < w + 2 + 1) ∨ (w + 1700 ≤ j ∧ j < w + 1700 + 1) ∨ (w + 1700 + 1 ≤ j ∧ j < w + 1700 + 100) ∨ (w + 3 ≤ j ∧ j < w + 3 + 1) ∨ (w + 4 ≤ j ∧ j < w + 5) ∨ (w + 2000 ≤ j ∧ j < w + 3500)) → g130 j = g j := fun j hk hj => (hu131 j hk).trans (hF125 j hk hj)
  refine g_aload_n (pc := 47) C dX9_init_47 0 rfl ?_
  refine k_new (pc := 48) C (w + 6) (ci := 1) (fs := [.int 0, .int 0, .int 0, .int 0, .int 0, .null]) (q := (RX1, TX1, 6)) (ty := tyX1) (fun h => (hQ123 _ h).elim (fun q => by have z := hP _ q; omega) (fun q => by omega)) rfl u_244 u_187 u_10 tyX1_ok df_X1 ⟨show 1583 + 1 ≤ 2851 by omega, show 7340 + 6 ≤ 12406 by omega⟩ dX9_init_48 (fun P140 A141 g142 hq143 ha144 hg145 hx146 hk147 => ?_)
  rw [show A115 w = A141 w from (ha144 _ (by omega)).symm, show A115 q = A141 q from (ha144 _ (by omega)).symm]
  show V K 1584 7346 P140 A141 g142 [(0, .ref (A141 w)), (1, .ref (A141 q))] 51 [.ref (A141 (w + 6)), .ref (A141 w)]
  have hQ148 : ∀ j ∈ P140, j ∈ P ∨ ((w ≤ j ∧ j < w) ∨ (w + 1 ≤ j ∧ j < w + 1 + 1) ∨ (0 ≤ j ∧ j < 0) ∨ (w + 2 ≤ j ∧ j < w + 2 + 1) ∨ (w + 1700 ≤ j ∧ j < w + 1700 + 1) ∨ (w + 1700 + 1 ≤ j ∧ j < w + 1700 + 100) ∨ (w + 3 ≤ j ∧ j < w + 3 + 1) ∨ (w + 4 ≤ j ∧ j < w + 5) ∨ (w + 2000 ≤ j ∧ j < w + 3500) ∨ (w + 6 ≤ j ∧ j < w + 6 + 1)) := fun j hj => by
      rcases hq143 j hj with h | h
      · rcases hQ123 j h with q | q
        · exact Or.inl q
        · exact Or.inr (by omega)
      · exact Or.inr (by omega)
  have hB149 : ∀ j, ¬ ((w ≤ j ∧ j < w) ∨ (w + 1 ≤ j ∧ j < w + 1 + 1) ∨ (0 ≤ j ∧ j < 0) ∨ (w + 2 ≤ j ∧ j < w + 2 + 1) ∨ (w + 1700 ≤ j ∧ j < w + 1700 + 1) ∨ (w + 1700 + 1 ≤ j ∧ j < w + 1700 + 100) ∨ (w + 3 ≤ j ∧ j < w + 3 + 1) ∨ (w + 4 ≤ j ∧ j < w + 5) ∨ (w + 2000 ≤ j ∧ j < w + 3500) ∨ (w + 6 ≤ j ∧ j < w + 6 + 1)) → A141 j = A j := fun j hj => (ha144 j (by omega)).trans (hB124 j (by omega))
  have hF150 : ∀ j, j ≠ w → ¬ ((w ≤ j ∧ j < w) ∨ (w + 1 ≤ j ∧ j < w + 1 + 1) ∨ (0 ≤ j ∧ j < 0) ∨ (w + 2 ≤ j ∧ j < w + 2 + 1) ∨ (w + 1700 ≤ j ∧ j < w + 1700 + 1) ∨ (w + 1700 + 1 ≤ j ∧ j < w + 1700 + 100) ∨ (w + 3 ≤ j ∧ j < w + 3 + 1) ∨ (w + 4 ≤ j ∧ j < w + 5) ∨ (w + 2000 ≤ j ∧ j < w + 3500) ∨ (w + 6 ≤ j ∧ j < w + 6 + 1)) → g142 j = g j := fun j hk hj => (hg145 j (by omega)).trans (hF139 j hk (by omega))
  have h151 : SZ g142 (w + 1) (3, 5, 4, 2, 4) := h134.xt hx146
  have h152 : g142 (w + 2) = aq 4 16 (rwu A141 (w + 100) 100 0) := (hx146.at h135 p_nil).trans (by rw [rwu_e (fun j hj => ha144 _ (by omega))])
  have h153 : ND A141 g142 (w + 1700) 0 ndz := h136.xt hx146
  have h154 : RW A141 g142 w [] 0 := h137.xt hx146
  have h155 : g142 w = ob 9 [.null, .ref (A141 (w + 1)), .ref (A141 (w + 2)), .ref (A141 (w + 1700)), .ref (A141 (w + 3)), .null, .null, .int 0, .int 0, .int 0, .int 0] := by
      have z := (hg145 _ (by omega)).trans hO138
      rw [show A115 (w + 1) = A141 (w + 1) from (ha144 _ (by omega)).symm, show A115 (w + 2) = A141 (w + 2) from (ha144 _ (by omega)).symm, show A115 (w + 1700) = A141 (w + 1700) from (ha144 _ (by omega)).symm, show A115 (w + 3) = A141 (w + 3) from (ha144 _ (by omega)).symm] at z
      exact z
  refine g_dup (pc := 51) C dX9_init_51 rfl ?_
  refine v_p0 fun h0156 => ?_
  have hf157 : ∀ j ∈ P140, ¬ (w + 6 + 1 ≤ j ∧ j < w + 6 + 3) ∧ ¬ (0 ≤ j ∧ j < 0) := fun j hj => by
      rcases hQ148 j hj with q | q
      · have z := hP j q
        omega
      · omega
  refine g_callIN (host := "ViewBroadcast") (pc := 52) C (As := []) (rest := [.ref (A141 (w + 6)), .ref (A141 w)]) (b := (w + 6)) (c_X1_init A141 P140 g142 (w + 6) hk147 hf157) u_189 u_10 u_190 (by decide) rfl N_X1_init ⟨Nat.le_of_ble_eq_true rfl, Nat.le_of_ble_eq_true rfl⟩ ⟨show 1584 + 2 ≤ 2851 by omega, show 7346 + 7 ≤ 12406 by omega⟩ (Nat.le_of_ble_eq_true rfl) rfl dX9_init_52 ?_
  rintro _ P158 A159 g160 ⟨rfl, hc161, hq162, ha163, hg164⟩
  have hx165 : Ext A141 (va_up g142 (w + 6) p0) A159 g160 := Mk.ext ⟨hq162, ha163, hg164⟩ h0156 hf157
  have hu166 : Fr g142 (va_up g142 (w + 6) p0) (w + 6) (w + 6 + 1) := Fr.up (by omega) (by omega)
  rw [show A141 w = A159 w from (ha163 _ (by omega) (by omega)).symm, show A141 q = A159 q from (ha163 _ (by omega) (by omega)).symm, show A141 (w + 6) = A159 (w + 6) from (ha163 _ (by omega) (by omega)).symm]
  show V K 1586 7353 P158 A159 g160 [(0, .ref (A159 w)), (1, .ref (A159 q))] 55 [.ref (A159 (w + 6)), .ref (A159 w)]
  have hQ167 : ∀ j ∈ P158, j ∈ P ∨ ((w ≤ j ∧ j < w) ∨ (w + 1 ≤ j ∧ j < w + 1 + 1) ∨ (0 ≤ j ∧ j < 0) ∨ (w + 2 ≤ j ∧ j < w + 2 + 1) ∨ (w + 1700 ≤ j ∧ j < w + 1700 + 1) ∨ (w + 1700 + 1 ≤ j ∧ j < w + 1700 + 100) ∨ (w + 3 ≤ j ∧ j < w + 3 + 1) ∨ (w + 4 ≤ j ∧ j < w + 5) ∨ (w + 2000 ≤ j ∧ j < w + 3500) ∨ (w + 6 ≤ j ∧ j < w + 6 + 1) ∨ (w + 6 + 1 ≤ j ∧ j < w + 6 + 3)) := fun j hj => by
      rcases hq162 j hj with h | h
      · rcases hQ148 j h with q | q
        · exact Or.inl q
        · exact Or.inr (by omega)
      · exact Or.inr (by omega)
  have hB168 : ∀ j, ¬ ((w ≤ j ∧ j < w) ∨ (w + 1 ≤ j ∧ j < w + 1 + 1) ∨ (0 ≤ j ∧ j < 0) ∨ (w + 2 ≤ j ∧ j < w + 2 + 1) ∨ (w + 1700 ≤ j ∧ j < w + 1700 + 1) ∨ (w + 1700 + 1 ≤ j ∧ j < w + 1700 + 100) ∨ (w + 3 ≤ j ∧ j < w + 3 + 1) ∨ (w + 4 ≤ j ∧ j < w + 5) ∨ (w + 2000 ≤ j ∧ j < w + 3500) ∨ (w + 6 ≤ j ∧ j < w + 6 + 1) ∨ (w + 6 + 1 ≤ j ∧ j < w + 6 + 3)) → A159 j = A j := fun j hj => (ha163 j (by omega) (by omega)).trans (hB149 j (by omega))
  have hF169 : ∀ j, j ≠ w → ¬ ((w ≤ j ∧ j < w) ∨ (w + 1 ≤ j ∧ j < w + 1 + 1) ∨ (0 ≤ j ∧ j < 0) ∨ (w + 2 ≤ j ∧ j < w + 2 + 1) ∨ (w + 1700 ≤ j ∧ j < w + 1700 + 1) ∨ (w + 1700 + 1 ≤ j ∧ j < w + 1700 + 100) ∨ (w + 3 ≤ j ∧ j < w + 3 + 1) ∨ (w + 4 ≤ j ∧ j < w + 5) ∨ (w + 2000 ≤ j ∧ j < w + 3500) ∨ (w + 6 ≤ j ∧ j < w + 6 + 1) ∨ (w + 6 + 1 ≤ j ∧ j < w + 6 + 3)) → g160 j = g j := fun j hk hj => (hg164 j (by omega) (by omega) (by omega)).trans (hF150 j hk (by omega))
  have h170 : SZ g160 (w + 1) (3, 5, 4, 2, 4) := (h151.fr hu166 (by omega)).xt hx165
  have h171 : g160 (w + 2) = aq 4 16 (rwu A159 (w + 100) 100 0) := (hx165.at ((va_up_ne _ _ (by omega)).trans h152) p_nil).trans (by rw [rwu_e (fun j hj => ha163 _ (by omega) (by omega))])
  have h172 : ND A159 g160 (w + 1700) 0 ndz := (h153.fr hu166 (by omega)).xt hx165
  have h173 : RW A159 g160 w [] 0 := (RW.fr' h154 (fun k hk => hu166 k (by omega))).xt hx165
  have h174 : g160 w = ob 9 [.null, .ref (A159 (w + 1)), .ref (A159 (w + 2)), .ref (A159 (w + 1700)), .ref (A159 (w + 3)), .null, .null, .int 0, .int 0, .int 0, .int 0] := by
      have z := (hg164 _ (by omega) (by omega) (by omega)).trans h155
      rw [show A141 (w + 1) = A159 (w + 1) from (ha163 _ (by omega) (by omega)).symm, show A141 (w + 2) = A159 (w + 2) from (ha163 _ (by omega) (by omega)).symm, show A141 (w + 1700) = A159 (w + 1700) from (ha163 _ (by omega) (by omega)).symm, show A141 (w + 3) = A159 (w + 3) from (ha163 _ (by omega) (by omega)).symm] at z
      exact z
  refine k_putF (pc := 55) C (j := 5) R.2.2.2.2.2 h174 rfl (by decide) (Nat.le_of_ble_eq_true rfl) u_255 rfl rfl (tyX9_ok 5 (by decide)) rfl rfl dX9_init_55 (fun g175 hu176 hO177 => ?_)
  show V K 1586 7353 P158 A159 g175 [(0, .ref (A159 w)), (1, .ref (A159 q))] 58 []
  have hp178 : Fr g160 g175 w (w + 1) := fun j hj => hu176 j (by omega)
  have h179 : SZ g175 (w + 1) (3, 5, 4, 2, 4) := h170.fr hp178 (by omega)
  have h180 : g175 (w + 2) = aq 4 16 (rwu A159 (w + 100) 100 0) := (hu176 _ (by omega)).trans h171
  have h181 : ND A159 g175 (w + 1700) 0 ndz := h172.fr hp178 (by omega)
  have h182 : RW A159 g175 w [] 0 := RW.fr' h173 (fun k hk => hp178 k (by omega))
  have h183 : LT A159 g175 (w + 6) lt0 := hc161.fr hp178 (by omega)
  have hO184 : g175 w = ob 9 [.null, .ref (A159 (w + 1)), .ref (A159 (w + 2)), .ref (A159 (w + 1700)), .ref (A159 (w + 3)), .ref (A159 (w + 6)), .null, .int 0, .int 0, .int 0, .int 0] := hO177
  have hF185 : ∀ j, j ≠ w → ¬ ((w ≤ j ∧ j < w) ∨ (w + 1 ≤ j ∧ j < w + 1 + 1) ∨ (0 ≤ j ∧ j < 0) ∨ (w + 2 ≤ j ∧ j < w + 2 + 1) ∨ (w + 1700 ≤ j ∧ j < w + 1700 + 1) ∨ (w + 1700 + 1 ≤ j ∧ j < w + 1700 + 100) ∨ (w + 3 ≤ j ∧ j < w + 3 + 1) ∨ (w + 4 ≤ j ∧ j < w + 5) ∨ (w + 2000 ≤ j ∧ j < w + 3500) ∨ (w + 6 ≤ j ∧ j < w + 6 + 1) ∨ (w + 6 + 1 ≤ j ∧ j < w + 6 + 3)) → g175 j = g j := fun j hk hj => (hu176 j hk).trans (hF169 j hk hj)
  refine g_aload_n (pc := 58) C dX9_init_58 0 rfl ?_
  refine g_bipush (pc := 59) C dX9_init_59 (v := nI 13) rfl ?_
  refine k_newi (pc := 61) C (w + 5) (N' := 13) (fun h => (hQ167 _ h).elim (fun q => by have z := hP _ q; omega) (fun q => by omega)) (nI_pos (by omega)) (nI_clamp (by omega)) (show 13 * 4 ≤ 536870912 by omega) ⟨show 1586 + 1 ≤ 2851 by omega, show 7353 + 13 ≤ 12406 by omega⟩ dX9_init_61 (fun P186 A187 g188 hq189 ha190 hg191 hx192 hk193 => ?_)
  rw [show A159 w = A187 w from (ha190 _ (by omega)).symm, show A159 q = A187 q from (ha190 _ (by omega)).symm]
  show V K 1587 7366 P186 A187 g188 [(0, .ref (A187 w)), (1, .ref (A187 q))] 63 [.ref (A187 (w + 5)), .ref (A187 w)]
  have hQ194 : ∀ j ∈ P186, j ∈ P ∨ ((w ≤ j ∧ j < w) ∨ (w + 1 ≤ j ∧ j < w + 1 + 1) ∨ (0 ≤ j ∧ j < 0) ∨ (w + 2 ≤ j ∧ j < w + 2 + 1) ∨ (w + 1700 ≤ j ∧ j < w + 1700 + 1) ∨ (w + 1700 + 1 ≤ j ∧ j < w + 1700 + 100) ∨ (w + 3 ≤ j ∧ j < w + 3 + 1) ∨ (w + 4 ≤ j ∧ j < w + 5) ∨ (w + 2000 ≤ j ∧ j < w + 3500) ∨ (w + 6 ≤ j ∧ j < w + 6 + 1) ∨ (w + 6 + 1 ≤ j ∧ j < w + 6 + 3) ∨ (w + 5 ≤ j ∧ j < w + 5 + 1)) := fun j hj => by
      rcases hq189 j hj with h | h
      · rcases hQ167 j h with q | q
        · exact Or.inl q
        · exact Or.inr (by omega)
      · exact Or.inr (by omega)
  have hB195 : ∀ j, ¬ ((w ≤ j ∧ j < w) ∨ (w + 1 ≤ j ∧ j < w + 1 + 1) ∨ (0 ≤ j ∧ j < 0) ∨ (w + 2 ≤ j ∧ j < w + 2 + 1) ∨ (w + 1700 ≤ j ∧ j < w + 1700 + 1) ∨ (w + 1700 + 1 ≤ j ∧ j < w + 1700 + 100) ∨ (w + 3 ≤ j ∧ j < w + 3 + 1) ∨ (w + 4 ≤ j ∧ j < w + 5) ∨ (w + 2000 ≤ j ∧ j < w + 3500) ∨ (w + 6 ≤ j ∧ j < w + 6 + 1) ∨ (w + 6 + 1 ≤ j ∧ j < w + 6 + 3) ∨ (w + 5 ≤ j ∧ j < w + 5 + 1)) → A187 j = A j := fun j hj => (ha190 j (by omega)).trans (hB168 j (by omega))
  have hF196 : ∀ j, j ≠ w → ¬ ((w ≤ j ∧ j < w) ∨ (w + 1 ≤ j ∧ j < w + 1 + 1) ∨ (0 ≤ j ∧ j < 0) ∨ (w + 2 ≤ j ∧ j < w + 2 + 1) ∨ (w + 1700 ≤ j ∧ j < w + 1700 + 1) ∨ (w + 1700 + 1 ≤ j ∧ j < w + 1700 + 100) ∨ (w + 3 ≤ j ∧ j < w + 3 + 1) ∨ (w + 4 ≤ j ∧ j < w + 5) ∨ (w + 2000 ≤ j ∧ j < w + 3500) ∨ (w + 6 ≤ j ∧ j < w + 6 + 1) ∨ (w + 6 + 1 ≤ j ∧ j < w + 6 + 3) ∨ (w + 5 ≤ j ∧ j < w + 5 + 1)) → g188 j = g j := fun j hk hj => (hg191 j (by omega)).trans (hF185 j hk (by omega))
  have h197 : SZ g188 (w + 1) (3, 5, 4, 2, 4) := h179.xt hx192
  have h198 : g188 (w + 2) = aq 4 16 (rwu A187 (w + 100) 100 0) := (hx192.at h180 p_nil).trans (by rw [rwu_e (fun j hj => ha190 _ (by omega))])
  have h199 : ND A187 g188 (w + 1700) 0 ndz := h181.xt hx192
  have h200 : RW A187 g188 w [] 0 := h182.xt hx192
  have h201 : LT A187 g188 (w + 6) lt0 := h183.xt hx192
  have h202 : g188 w = ob 9 [.null, .ref (A187 (w + 1)), .ref (A187 (w + 2)), .ref (A187 (w + 1700)), .ref (A187 (w + 3)), .ref (A187 (w + 6)), .null, .int 0, .int 0, .int 0, .int 0] := by
      have z := (hg191 _ (by omega)).trans hO184
      rw [show A159 (w + 1) = A187 (w + 1) from (ha190 _ (by omega)).symm, show A159 (w + 2) = A187 (w + 2) from (ha190 _ (by omega)).symm, show A159 (w + 1700) = A187 (w + 1700) from (ha190 _ (by omega)).symm, show A159 (w + 3) = A187 (w + 3) from (ha190 _ (by omega)).symm, show A159 (w + 6) = A187 (w + 6) from (ha190 _ (by omega)).symm] at z
      exact z
  refine k_putF (pc := 63) C (j := 6) R.2.2.2.2.2 h202 rfl (by decide) (Nat.le_of_ble_eq_true rfl) u_256 rfl rfl (tyX9_ok 6 (by decide)) rfl rfl dX9_init_63 (fun g203 hu204 hO205 => ?_)
  show V K 1587 7366 P186 A187 g203 [(0, .ref (A187 w)), (1, .ref (A187 q))] 66 []
  have hp206 : Fr g188 g203 w (w + 1) := fun j hj => hu204 j (by omega)
  have h207 : SZ g203 (w + 1) (3, 5, 4, 2, 4) := h197.fr hp206 (by omega)
  have h208 : g203 (w + 2) = aq 4 16 (rwu A187 (w + 100) 100 0) := (hu204 _ (by omega)).trans h198
  have h209 : ND A187 g203 (w + 1700) 0 ndz := h199.fr hp206 (by omega)
  have h210 : RW A187 g203 w [] 0 := RW.fr' h200 (fun k hk => hp206 k (by omega))
  have h211 : LT A187 g203 (w + 6) lt0 := h201.fr hp206 (by omega)
  have h212 : g203 (w + 5) = ai 0 13 (fun _ => 0) := (hu204 _ (by omega)).trans hk193
  have hO213 : g203 w = ob 9 [.null, .ref (A187 (w + 1)), .ref (A187 (w + 2)), .ref (A187 (w + 1700)), .ref (A187 (w + 3)), .ref (A187 (w + 6)), .ref (A187 (w + 5)), .int 0, .int 0, .int 0, .int 0] := hO205
  have hF214 : ∀ j, j ≠ w → ¬ ((w ≤ j ∧ j < w) ∨ (w + 1 ≤ j ∧ j < w + 1 + 1) ∨ (0 ≤ j ∧ j < 0) ∨ (w + 2 ≤ j ∧ j < w + 2 + 1) ∨ (w + 1700 ≤ j ∧ j < w + 1700 + 1) ∨ (w + 1700 + 1 ≤ j ∧ j < w + 1700 + 100) ∨ (w + 3 ≤ j ∧ j < w + 3 + 1) ∨ (w + 4 ≤ j ∧ j < w + 5) ∨ (w + 2000 ≤ j ∧ j < w + 3500) ∨ (w + 6 ≤ j ∧ j < w + 6 + 1) ∨ (w + 6 + 1 ≤ j ∧ j < w + 6 + 3) ∨ (w + 5 ≤ j ∧ j < w + 5 + 1)) → g203 j = g j := fun j hk hj => (hu204 j hk).trans (hF196 j hk hj)
  refine g_aload_n (pc := 66) C dX9_init_66 0 rfl ?_
  refine g_iconst (pc := 67) C dX9_init_67 (v := nI 0) rfl ?_
  refine k_put (pc := 68) C (j := 7) hO213 rfl (by decide) (Nat.le_of_ble_eq_true rfl) u_258 rfl (tyX9_ok 7 (by decide)) rfl rfl dX9_init_68 (fun g215 hu216 hO217 => ?_)
  show V K 1587 7366 P186 A187 g215 [(0, .ref (A187 w)), (1, .ref (A187 q))] 71 []
  have hp218 : Fr g203 g215 w (w + 1) := fun j hj => hu216 j (by omega)
  have h219 : SZ g215 (w + 1) (3, 5, 4, 2, 4) := h207.fr hp218 (by omega)
  have h220 : g215 (w + 2) = aq 4 16 (rwu A187 (w + 100) 100 0) := (hu216 _ (by omega)).trans h208
  have h221 : ND A187 g215 (w + 1700) 0 ndz := h209.fr hp218 (by omega)
  have h222 : RW A187 g215 w [] 0 := RW.fr' h210 (fun k hk => hp218 k (by omega))
  have h223 : LT A187 g215 (w + 6) lt0 := h211.fr hp218 (by omega)
  have h224 : g215 (w + 5) = ai 0 13 (fun _ => 0) := (hu216 _ (by omega)).trans h212
  have hO225 : g215 w = ob 9 [.null, .ref (A187 (w + 1)), .ref (A187 (w + 2)), .ref (A187 (w + 1700)), .ref (A187 (w + 3)), .ref (A187 (w + 6)), .ref (A187 (w + 5)), .int (nI 0), .int 0, .int 0, .int 0] := hO217
  have hF226 : ∀ j, j ≠ w → ¬ ((w ≤ j ∧ j < w) ∨ (w + 1 ≤ j ∧ j < w + 1 + 1) ∨ (0 ≤ j ∧ j < 0) ∨ (w + 2 ≤ j ∧ j < w + 2 + 1) ∨ (w + 1700 ≤ j ∧ j < w + 1700 + 1) ∨ (w + 1700 + 1 ≤ j ∧ j < w + 1700 + 100) ∨ (w + 3 ≤ j ∧ j < w + 3 + 1) ∨ (w + 4 ≤ j ∧ j < w + 5) ∨ (w + 2000 ≤ j ∧ j < w + 3500) ∨ (w + 6 ≤ j ∧ j < w + 6 + 1) ∨ (w + 6 + 1 ≤ j ∧ j < w + 6 + 3) ∨ (w + 5 ≤ j ∧ j < w + 5 + 1)) → g215 j = g j := fun j hk hj => (hu216 j hk).trans (hF214 j hk hj)
  refine g_aload_n (pc := 71) C dX9_init_71 0 rfl ?_
  refine g_iconst (pc := 72) C dX9_init_72 (v := nI 0) rfl ?_
  refine k_put (pc := 73) C (j := 8) hO225 rfl (by decide) (Nat.le_of_ble_eq_true rfl) u_261 rfl (tyX9_ok 8 (by decide)) rfl rfl dX9_init_73 (fun g227 hu228 hO229 => ?_)
  show V K 1587 7366 P186 A187 g227 [(0, .ref (A187 w)), (1, .ref (A187 q))] 76 []
  have hp230 : Fr g215 g227 w (w + 1) := fun j hj => hu228 j (by omega)
  have h231 : SZ g227 (w + 1) (3, 5, 4, 2, 4) := h219.fr hp230 (by omega)
  have h232 : g227 (w + 2) = aq 4 16 (rwu A187 (w + 100) 100 0) := (hu228 _ (by omega)).trans h220
  have h233 : ND A187 g227 (w + 1700) 0 ndz := h221.fr hp230 (by omega)
  have h234 : RW A187 g227 w [] 0 := RW.fr' h222 (fun k hk => hp230 k (by omega))
  have h235 : LT A187 g227 (w + 6) lt0 := h223.fr hp230 (by omega)
  have h236 : g227 (w + 5) = ai 0 13 (fun _ => 0) := (hu228 _ (by omega)).trans h224
  have hO237 : g227 w = ob 9 [.null, .ref (A187 (w + 1)), .ref (A187 (w + 2)), .ref (A187 (w + 1700)), .ref (A187 (w + 3)), .ref (A187 (w + 6)), .ref (A187 (w + 5)), .int (nI 0), .int (nI 0), .int 0, .int 0] := hO229
  have hF238 : ∀ j, j ≠ w → ¬ ((w ≤ j ∧ j < w) ∨ (w + 1 ≤ j ∧ j < w + 1 + 1) ∨ (0 ≤ j ∧ j < 0) ∨ (w + 2 ≤ j ∧ j < w + 2 + 1) ∨ (w + 1700 ≤ j ∧ j < w + 1700 + 1) ∨ (w + 1700 + 1 ≤ j ∧ j < w + 1700 + 100) ∨ (w + 3 ≤ j ∧ j < w + 3 + 1) ∨ (w + 4 ≤ j ∧ j < w + 5) ∨ (w + 2000 ≤ j ∧ j < w + 3500) ∨ (w + 6 ≤ j ∧ j < w + 6 + 1) ∨ (w + 6 + 1 ≤ j ∧ j < w + 6 + 3) ∨ (w + 5 ≤ j ∧ j < w + 5 + 1)) → g227 j = g j := fun j hk hj => (hu228 j hk).trans (hF226 j hk hj)
  refine g_aload_n (pc := 76) C dX9_init_76 0 rfl ?_
  refine g_iconst (pc := 77) C dX9_init_77 (v := nI 0) rfl ?_
  refine k_put (pc := 78) C (j := 9) hO237 rfl (by decide) (Nat.le_of_ble_eq_true rfl) u_264 rfl (tyX9_ok 9 (by decide)) rfl rfl dX9_init_78 (fun g239 hu240 hO241 => ?_)
  show V K 1587 7366 P186 A187 g239 [(0, .ref (A187 w)), (1, .ref (A187 q))] 81 []
  have hp242 : Fr g227 g239 w (w + 1) := fun j hj => hu240 j (by omega)
  have h243 : SZ g239 (w + 1) (3, 5, 4, 2, 4) := h231.fr hp242 (by omega)
  have h244 : g239 (w + 2) = aq 4 16 (rwu A187 (w + 100) 100 0) := (hu240 _ (by omega)).trans h232
  have h245 : ND A187 g239 (w + 1700) 0 ndz := h233.fr hp242 (by omega)
  have h246 : RW A187 g239 w [] 0 := RW.fr' h234 (fun k hk => hp242 k (by omega))
  have h247 : LT A187 g239 (w + 6) lt0 := h235.fr hp242 (by omega)
  have h248 : g239 (w + 5) = ai 0 13 (fun _ => 0) := (hu240 _ (by omega)).trans h236
  have hO249 : g239 w = ob 9 [.null, .ref (A187 (w + 1)), .ref (A187 (w + 2)), .ref (A187 (w + 1700)), .ref (A187 (w + 3)), .ref (A187 (w + 6)), .ref (A187 (w + 5)), .int (nI 0), .int (nI 0), .int (nI 0), .int 0] := hO241
  have hF250 : ∀ j, j ≠ w → ¬ ((w ≤ j ∧ j < w) ∨ (w + 1 ≤ j ∧ j < w + 1 + 1) ∨ (0 ≤ j ∧ j < 0) ∨ (w + 2 ≤ j ∧ j < w + 2 + 1) ∨ (w + 1700 ≤ j ∧ j < w + 1700 + 1) ∨ (w + 1700 + 1 ≤ j ∧ j < w + 1700 + 100) ∨ (w + 3 ≤ j ∧ j < w + 3 + 1) ∨ (w + 4 ≤ j ∧ j < w + 5) ∨ (w + 2000 ≤ j ∧ j < w + 3500) ∨ (w + 6 ≤ j ∧ j < w + 6 + 1) ∨ (w + 6 + 1 ≤ j ∧ j < w + 6 + 3) ∨ (w + 5 ≤ j ∧ j < w + 5 + 1)) → g239 j = g j := fun j hk hj => (hu240 j hk).trans (hF238 j hk hj)
  refine g_aload_n (pc := 81) C dX9_init_81 0 rfl ?_
  refine g_iconst (pc := 82) C dX9_init_82 (v := nI 0) rfl ?_
  refine k_put (pc := 83) C (j := 10) hO249 rfl (by decide) (Nat.le_of_ble_eq_true rfl) u_267 rfl (tyX9_ok 10 (by decide)) rfl rfl dX9_init_83 (fun g251 hu252 hO253 => ?_)
  show V K 1587 7366 P186 A187 g251 [(0, .ref (A187 w)), (1, .ref (A187 q))] 86 []
  have hp254 : Fr g239 g251 w (w + 1) := fun j hj => hu252 j (by omega)
  have h255 : SZ g251 (w + 1) (3, 5, 4, 2, 4) := h243.fr hp254 (by omega)
  have h256 : g251 (w + 2) = aq 4 16 (rwu A187 (w + 100) 100 0) := (hu252 _ (by omega)).trans h244
  have h257 : ND A187 g251 (w + 1700) 0 ndz := h245.fr hp254 (by omega)
  have h258 : RW A187 g251 w [] 0 := RW.fr' h246 (fun k hk => hp254 k (by omega))
  have h259 : LT A187 g251 (w + 6) lt0 := h247.fr hp254 (by omega)
  have h260 : g251 (w + 5) = ai 0 13 (fun _ => 0) := (hu252 _ (by omega)).trans h248
  have hO261 : g251 w = ob 9 [.null, .ref (A187 (w + 1)), .ref (A187 (w + 2)), .ref (A187 (w + 1700)), .ref (A187 (w + 3)), .ref (A187 (w + 6)), .ref (A187 (w + 5)), .int (nI 0), .int (nI 0), .int (nI 0), .int (nI 0)] := hO253
  have hF262 : ∀ j, j ≠ w → ¬ ((w ≤ j ∧ j < w) ∨ (w + 1 ≤ j ∧ j < w + 1 + 1) ∨ (0 ≤ j ∧ j < 0) ∨ (w + 2 ≤ j ∧ j < w + 2 + 1) ∨ (w + 1700 ≤ j ∧ j < w + 1700 + 1) ∨ (w + 1700 + 1 ≤ j ∧ j < w + 1700 + 100) ∨ (w + 3 ≤ j ∧ j < w + 3 + 1) ∨ (w + 4 ≤ j ∧ j < w + 5) ∨ (w + 2000 ≤ j ∧ j < w + 3500) ∨ (w + 6 ≤ j ∧ j < w + 6 + 1) ∨ (w + 6 + 1 ≤ j ∧ j < w + 6 + 3) ∨ (w + 5 ≤ j ∧ j < w + 5 + 1)) → g251 j = g j := fun j hk hj => (hu252 j hk).trans (hF250 j hk hj)
  refine g_aload_n (pc := 86) C dX9_init_86 0 rfl ?_
  refine g_aload_n (pc := 87) C dX9_init_87 1 rfl ?_
  refine k_putF (pc := 88) C (j := 0) R.2.2.2.2.2 hO261 rfl (by decide) (Nat.le_of_ble_eq_true rfl) u_246 rfl rfl (tyX9_ok 0 (by decide)) rfl rfl dX9_init_88 (fun g263 hu264 hO265 => ?_)
  show V K 1587 7366 P186 A187 g263 [(0, .ref (A187 w)), (1, .ref (A187 q))] 91 []
  have hp266 : Fr g251 g263 w (w + 1) := fun j hj => hu264 j (by omega)
  have h267 : SZ g263 (w + 1) (3, 5, 4, 2, 4) := h255.fr hp266 (by omega)
  have h268 : g263 (w + 2) = aq 4 16 (rwu A187 (w + 100) 100 0) := (hu264 _ (by omega)).trans h256
  have h269 : ND A187 g263 (w + 1700) 0 ndz := h257.fr hp266 (by omega)
  have h270 : RW A187 g263 w [] 0 := RW.fr' h258 (fun k hk => hp266 k (by omega))
  have h271 : LT A187 g263 (w + 6) lt0 := h259.fr hp266 (by omega)
  have h272 : g263 (w + 5) = ai 0 13 (fun _ => 0) := (hu264 _ (by omega)).trans h260
  have hO273 : g263 w = ob 9 [.ref (A187 q), .ref (A187 (w + 1)), .ref (A187 (w + 2)), .ref (A187 (w + 1700)), .ref (A187 (w + 3)), .ref (A187 (w + 6)), .ref (A187 (w + 5)), .int (nI 0), .int (nI 0), .int (nI 0), .int (nI 0)] := hO265
  have hF274 : ∀ j, j ≠ w → ¬ ((w ≤ j ∧ j < w) ∨ (w + 1 ≤ j ∧ j < w + 1 + 1) ∨ (0 ≤ j ∧ j < 0) ∨ (w + 2 ≤ j ∧ j < w + 2 + 1) ∨ (w + 1700 ≤ j ∧ j < w + 1700 + 1) ∨ (w + 1700 + 1 ≤ j ∧ j < w + 1700 + 100) ∨ (w + 3 ≤ j ∧ j < w + 3 + 1) ∨ (w + 4 ≤ j ∧ j < w + 5) ∨ (w + 2000 ≤ j ∧ j < w + 3500) ∨ (w + 6 ≤ j ∧ j < w + 6 + 1) ∨ (w + 6 + 1 ≤ j ∧ j < w + 6 + 3) ∨ (w + 5 ≤ j ∧ j < w + 5 + 1)) → g263 j = g j := fun j hk hj => (hu264 j hk).trans (hF262 j hk hj)
  refine g_iconst (pc := 91) C dX9_init_91 (v := nI 0) rfl ?_
  refine g_istore_n (pc := 92) C dX9_init_92 (by decide) (lv' := [(0, .ref (A187 w)), (1, .ref (A187 q)), (2, .int (nI 0))]) [1, 2, 0] rfl ?_
  have lp : ∀ (n t : Nat), t + n = 16 → ∀ (Q : List Nat) (B : Nat → Nat) (f : pM), (∀ j ∈ Q, j ∈ P ∨ ((w ≤ j ∧ j < w) ∨ (w + 1 ≤ j ∧ j < w + 1 + 1) ∨ (0 ≤ j ∧ j < 0) ∨ (w + 2 ≤ j ∧ j < w + 2 + 1) ∨ (w + 1700 ≤ j ∧ j < w + 1700 + 1) ∨ (w + 1700 + 1 ≤ j ∧ j < w + 1700 + 100) ∨ (w + 3 ≤ j ∧ j < w + 3 + 1) ∨ (w + 4 ≤ j ∧ j < w + 5) ∨ (w + 2000 ≤ j ∧ j < w + 3500) ∨ (w + 6 ≤ j ∧ j < w + 6 + 1) ∨ (w + 6 + 1 ≤ j ∧ j < w + 6 + 3) ∨ (w + 5 ≤ j ∧ j < w + 5 + 1) ∨ (w + 100 ≤ j ∧ j < w + 100 + 100 * t))) ∧ (∀ j, ¬ ((w ≤ j ∧ j < w) ∨ (w + 1 ≤ j ∧ j < w + 1 + 1) ∨ (0 ≤ j ∧ j < 0) ∨ (w + 2 ≤ j ∧ j < w + 2 + 1) ∨ (w + 1700 ≤ j ∧ j < w + 1700 + 1) ∨ (w + 1700 + 1 ≤ j ∧ j < w + 1700 + 100) ∨ (w + 3 ≤ j ∧ j < w + 3 + 1) ∨ (w + 4 ≤ j ∧ j < w + 5) ∨ (w + 2000 ≤ j ∧ j < w + 3500) ∨ (w + 6 ≤ j ∧ j < w + 6 + 1) ∨ (w + 6 + 1 ≤ j ∧ j < w + 6 + 3) ∨ (w + 5 ≤ j ∧ j < w + 5 + 1) ∨ (w + 100 ≤ j ∧ j < w + 100 + 100 * t)) → B j = A j) ∧ (∀ j, j ≠ w → ¬ ((w ≤ j ∧ j < w) ∨ (w + 1 ≤ j ∧ j < w + 1 + 1) ∨ (0 ≤ j ∧ j < 0) ∨ (w + 2 ≤ j ∧ j < w + 2 + 1) ∨ (w + 1700 ≤ j ∧ j < w + 1700 + 1) ∨ (w + 1700 + 1 ≤ j ∧ j < w + 1700 + 100) ∨ (w + 3 ≤ j ∧ j < w + 3 + 1) ∨ (w + 4 ≤ j ∧ j < w + 5) ∨ (w + 2000 ≤ j ∧ j < w + 3500) ∨ (w + 6 ≤ j ∧ j < w + 6 + 1) ∨ (w + 6 + 1 ≤ j ∧ j < w + 6 + 3) ∨ (w + 5 ≤ j ∧ j < w + 5 + 1) ∨ (w + 100 ≤ j ∧ j < w + 100 + 100 * t)) → f j = g j) ∧ f w = ob 9 [.ref (B q), .ref (B (w + 1)), .ref (B (w + 2)), .ref (B (w + 1700)), .ref (B (w + 3)), .ref (B (w + 6)), .ref (B (w + 5)), .int (nI 0), .int (nI 0), .int (nI 0), .int (nI 0)] ∧ (SZ f (w + 1) (3, 5, 4, 2, 4)) ∧ (f (w + 2) = aq 4 16 (rwu B (w + 100) 100 t)) ∧ (RW B f w [] 0) ∧ (LT B f (w + 6) lt0) ∧ (f (w + 5) = ai 0 13 (fun _ => 0)) ∧ (∀ j, j < t → ND B f (w + 100 + 100 * j) j ndz) → V K (1587 + 79 * t) (7366 + 315 * t) Q B f [(0, .ref (B w)), (1, .ref (B q)), (2, .int (nI t))] 93 [] := by
    intro n
    induction n with
    | zero =>
      intro t ht Q B f hI
      obtain ⟨iQ, iB, iF, iO, i0, i1, i2, i3, i4, i5⟩ := hI
      refine g_iload_n (pc := 93) C dX9_init_93 2 rfl ?_
      refine g_bipush (pc := 94) C dX9_init_94 (v := nI 16) rfl ?_
      refine g_icmp_ge (pc := 96) C dX9_init_96 (tgt := 119) (by decide) (fun _ => ?_) (fun q => absurd ((nI_leI (by omega) (by omega)).mpr (show 16 ≤ t by omega)) q)
      have htN : t = 16 := by omega
      subst htN
      show V K (1587 + 79 * 16) (7366 + 315 * 16) Q B f [(0, .ref (B w)), (1, .ref (B q)), (2, .int (nI 16))] 119 []
      exact g_vret (pc := 119) C R ⟨rfl, ⟨iO, i0, i1, fun i hi => ⟨ndz, i5 i hi, fun _ => rfl⟩, i2, ⟨lt0, i3⟩, ⟨_, i4, fun k hk => rfl⟩, Nat.zero_le _, Nat.zero_le _⟩, fun j hj => by
          rcases iQ j hj with q | q
          · exact Or.inl q
          · exact Or.inr (by omega), fun j h1 h2 => iB j (by omega), fun j h0 h1 h2 => iF j h0 (by omega)⟩ (show 1587 + 79 * 16 ≤ 2851 by omega) (show 7366 + 315 * 16 ≤ 12406 by omega) dX9_init_119
    | succ n ih =>
      intro t ht Q B f hI
      obtain ⟨iQ, iB, iF, iO, i0, i1, i2, i3, i4, i5⟩ := hI
      refine g_iload_n (pc := 93) C dX9_init_93 2 rfl ?_
      refine g_bipush (pc := 94) C dX9_init_94 (v := nI 16) rfl ?_
      refine g_icmp_ge (pc := 96) C dX9_init_96 (tgt := 119) (by decide) (fun q => absurd ((nI_leI (by omega) (by omega)).mp q) (show ¬ 16 ≤ t by omega)) (fun _ => ?_)
      show V K (1587 + 79 * t) (7366 + 315 * t) Q B f [(0, .ref (B w)), (1, .ref (B q)), (2, .int (nI t))] 99 []
      refine g_aload_n (pc := 99) C dX9_init_99 0 rfl ?_
      refine g_get (pc := 100) C (j := 2) iO rfl rfl (by decide) u_251 dX9_init_100 ?_
      show V K (1587 + 79 * t) (7366 + 315 * t) Q B f [(0, .ref (B w)), (1, .ref (B q)), (2, .int (nI t))] 103 [.ref (B (w + 2))]
      refine g_iload_n (pc := 103) C dX9_init_103 2 rfl ?_
      refine k_new (pc := 104) C (w + 100 + 100 * t) (ci := 3) (fs := [.int 0, .int 0, .null, .null, .int 0, .int 0, .int 0, .int 0, .null, .null]) (q := (RX3, TX3, 10)) (ty := tyX3) (fun h => (iQ _ h).elim (fun q => by have z := hP _ q; omega) (fun q => by omega)) rfl u_77 u_79 u_5 tyX3_ok df_X3 ⟨show 1587 + 79 * t + 1 ≤ 2851 by omega, show 7366 + 315 * t + 10 ≤ 12406 by omega⟩ dX9_init_104 (fun P275 A276 g277 hq278 ha279 hg280 hx281 hk282 => ?_)
      rw [show B w = A276 w from (ha279 _ (by omega)).symm, show B q = A276 q from (ha279 _ (by omega)).symm, show B (w + 2) = A276 (w + 2) from (ha279 _ (by omega)).symm]
      show V K (1587 + 79 * t + 1) (7366 + 315 * t + 10) P275 A276 g277 [(0, .ref (A276 w)), (1, .ref (A276 q)), (2, .int (nI t))] 107 [.ref (A276 (w + 100 + 100 * t)), .int (nI t), .ref (A276 (w + 2))]
      have hQ283 : ∀ j ∈ P275, j ∈ P ∨ ((w ≤ j ∧ j < w) ∨ (w + 1 ≤ j ∧ j < w + 1 + 1) ∨ (0 ≤ j ∧ j < 0) ∨ (w + 2 ≤ j ∧ j < w + 2 + 1) ∨ (w + 1700 ≤ j ∧ j < w + 1700 + 1) ∨ (w + 1700 + 1 ≤ j ∧ j < w + 1700 + 100) ∨ (w + 3 ≤ j ∧ j < w + 3 + 1) ∨ (w + 4 ≤ j ∧ j < w + 5) ∨ (w + 2000 ≤ j ∧ j < w + 3500) ∨ (w + 6 ≤ j ∧ j < w + 6 + 1) ∨ (w + 6 + 1 ≤ j ∧ j < w + 6 + 3) ∨ (w + 5 ≤ j ∧ j < w + 5 + 1) ∨ (w + 100 ≤ j ∧ j < w + 100 + 100 * t) ∨ (w + 100 + 100 * t ≤ j ∧ j < w + 100 + 100 * t + 1)) := fun j hj => by
          rcases hq278 j hj with h | h
          · rcases iQ j h with q | q
            · exact Or.inl q
            · exact Or.inr (by omega)
          · exact Or.inr (by omega)
      have hB284 : ∀ j, ¬ ((w ≤ j ∧ j < w) ∨ (w + 1 ≤ j ∧ j < w + 1 + 1) ∨ (0 ≤ j ∧ j < 0) ∨ (w + 2 ≤ j ∧ j < w + 2 + 1) ∨ (w + 1700 ≤ j ∧ j < w + 1700 + 1) ∨ (w + 1700 + 1 ≤ j ∧ j < w + 1700 + 100) ∨ (w + 3 ≤ j ∧ j < w + 3 + 1) ∨ (w + 4 ≤ j ∧ j < w + 5) ∨ (w + 2000 ≤ j ∧ j < w + 3500) ∨ (w + 6 ≤ j ∧ j < w + 6 + 1) ∨ (w + 6 + 1 ≤ j ∧ j < w + 6 + 3) ∨ (w + 5 ≤ j ∧ j < w + 5 + 1) ∨ (w + 100 ≤ j ∧ j < w + 100 + 100 * t) ∨ (w + 100 + 100 * t ≤ j ∧ j < w + 100 + 100 * t + 1)) → A276 j = A j := fun j hj => (ha279 j (by omega)).trans (iB j (by omega))
      have hF285 : ∀ j, j ≠ w → ¬ ((w ≤ j ∧ j < w) ∨ (w + 1 ≤ j ∧ j < w + 1 + 1) ∨ (0 ≤ j ∧ j < 0) ∨ (w + 2 ≤ j ∧ j < w + 2 + 1) ∨ (w + 1700 ≤ j ∧ j < w + 1700 + 1) ∨ (w + 1700 + 1 ≤ j ∧ j < w + 1700 + 100) ∨ (w + 3 ≤ j ∧ j < w + 3 + 1) ∨ (w + 4 ≤ j ∧ j < w + 5) ∨ (w + 2000 ≤ j ∧ j < w + 3500) ∨ (w + 6 ≤ j ∧ j < w + 6 + 1) ∨ (w + 6 + 1 ≤ j ∧ j < w + 6 + 3) ∨ (w + 5 ≤ j ∧ j < w + 5 + 1) ∨ (w + 100 ≤ j ∧ j < w + 100 + 100 * t) ∨ (w + 100 + 100 * t ≤ j ∧ j < w + 100 + 100 * t + 1)) → g277 j = g j := fun j hk hj => (hg280 j (by omega)).trans (iF j hk (by omega))
      have h286 : g277 w = ob 9 [.ref (A276 q), .ref (A276 (w + 1)), .ref (A276 (w + 2)), .ref (A276 (w + 1700)), .ref (A276 (w + 3)), .ref (A276 (w + 6)), .ref (A276 (w + 5)), .int (nI 0), .int (nI 0), .int (nI 0), .int (nI 0)] := by
          have z := (hg280 _ (by omega)).trans iO
          rw [show B q = A276 q from (ha279 _ (by omega)).symm, show B (w + 1) = A276 (w + 1) from (ha279 _ (by omega)).symm, show B (w + 2) = A276 (w + 2) from (ha279 _ (by omega)).symm, show B (w + 1700) = A276 (w + 1700) from (ha279 _ (by omega)).symm, show B (w + 3) = A276 (w + 3) from (ha279 _ (by omega)).symm, show B (w + 6) = A276 (w + 6) from (ha279 _ (by omega)).symm, show B (w + 5) = A276 (w + 5) from (ha279 _ (by omega)).symm] at z
          exact z
      have h287 : SZ g277 (w + 1) (3, 5, 4, 2, 4) := i0.xt hx281
      have h288 : g277 (w + 2) = aq 4 16 (rwu A276 (w + 100) 100 t) := (hx281.at i1 p_nil).trans (by rw [rwu_e (fun j hj => ha279 _ (by omega))])
      have h289 : RW A276 g277 w [] 0 := i2.xt hx281
      have h290 : LT A276 g277 (w + 6) lt0 := i3.xt hx281
      have h291 : g277 (w + 5) = ai 0 13 (fun _ => 0) := hx281.at i4 p_nil
      have h292 : ∀ j, j < t → ND A276 g277 (w + 100 + 100 * j) j ndz := fun j hj => (i5 j hj).xt hx281
      refine g_dup (pc := 107) C dX9_init_107 rfl ?_
      refine g_iload_n (pc := 108) C dX9_init_108 2 rfl ?_
      refine v_p0 fun h0293 => ?_
      have hf294 : ∀ j ∈ P275, ¬ (w + 100 + 100 * t + 1 ≤ j ∧ j < w + 100 + 100 * t + 100) ∧ ¬ (0 ≤ j ∧ j < 0) := fun j hj => by
          rcases hQ283 j hj with q | q
          · have z := hP j q
            omega
          · omega
      refine g_callI (pc := 109) C (As := [.int (nI t)]) (rest := [.ref (A276 (w + 100 + 100 * t)), .int (nI t), .ref (A276 (w + 2))]) (b := (w + 100 + 100 * t)) (c_X3_init A276 P275 g277 (w + 100 + 100 * t) t (by omega) hk282 hf294) u_81 u_5 u_82 u_80 rfl N_X3_init ⟨Nat.le_of_ble_eq_true rfl, Nat.le_of_ble_eq_true rfl⟩ ⟨show 1587 + 79 * t + 1 + 78 ≤ 2851 by omega, show 7366 + 315 * t + 10 + 305 ≤ 12406 by omega⟩ (Nat.le_of_ble_eq_true rfl) rfl dX9_init_109 ?_
      rintro _ P295 A296 g297 ⟨rfl, hc298, hq299, ha300, hg301⟩
      have hx302 : Ext A276 (va_up g277 (w + 100 + 100 * t) p0) A296 g297 := Mk.ext ⟨hq299, ha300, hg301⟩ h0293 hf294
      have hu303 : Fr g277 (va_up g277 (w + 100 + 100 * t) p0) (w + 100 + 100 * t) (w + 100 + 100 * t + 1) := Fr.up (by omega) (by omega)
      rw [show A276 w = A296 w from (ha300 _ (by omega) (by omega)).symm, show A276 q = A296 q from (ha300 _ (by omega) (by omega)).symm, show A276 (w + 100 + 100 * t) = A296 (w + 100 + 100 * t) from (ha300 _ (by omega) (by omega)).symm, show A276 (w + 2) = A296 (w + 2) from (ha300 _ (by omega) (by omega)).symm]
      show V K (1587 + 79 * t + 1 + 78) (7366 + 315 * t + 10 + 305) P295 A296 g297 [(0, .ref (A296 w)), (1, .ref (A296 q)), (2, .int (nI t))] 112 [.ref (A296 (w + 100 + 100 * t)), .int (nI t), .ref (A296 (w + 2))]
      have hQ304 : ∀ j ∈ P295, j ∈ P ∨ ((w ≤ j ∧ j < w) ∨ (w + 1 ≤ j ∧ j < w + 1 + 1) ∨ (0 ≤ j ∧ j < 0) ∨ (w + 2 ≤ j ∧ j < w + 2 + 1) ∨ (w + 1700 ≤ j ∧ j < w + 1700 + 1) ∨ (w + 1700 + 1 ≤ j ∧ j < w + 1700 + 100) ∨ (w + 3 ≤ j ∧ j < w + 3 + 1) ∨ (w + 4 ≤ j ∧ j < w + 5) ∨ (w + 2000 ≤ j ∧ j < w + 3500) ∨ (w + 6 ≤ j ∧ j < w + 6 + 1) ∨ (w + 6 + 1 ≤ j ∧ j < w + 6 + 3) ∨ (w + 5 ≤ j ∧ j < w + 5 + 1) ∨ (w + 100 ≤ j ∧ j < w + 100 + 100 * t) ∨ (w + 100 + 100 * t ≤ j ∧ j < w + 100 + 100 * t + 1) ∨ (w + 100 + 100 * t + 1 ≤ j ∧ j < w + 100 + 100 * t + 100)) := fun j hj => by
          rcases hq299 j hj with h | h
          · rcases hQ283 j h with q | q
            · exact Or.inl q
            · exact Or.inr (by omega)
          · exact Or.inr (by omega)
      have hB305 : ∀ j, ¬ ((w ≤ j ∧ j < w) ∨ (w + 1 ≤ j ∧ j < w + 1 + 1) ∨ (0 ≤ j ∧ j < 0) ∨ (w + 2 ≤ j ∧ j < w + 2 + 1) ∨ (w + 1700 ≤ j ∧ j < w + 1700 + 1) ∨ (w + 1700 + 1 ≤ j ∧ j < w + 1700 + 100) ∨ (w + 3 ≤ j ∧ j < w + 3 + 1) ∨ (w + 4 ≤ j ∧ j < w + 5) ∨ (w + 2000 ≤ j ∧ j < w + 3500) ∨ (w + 6 ≤ j ∧ j < w + 6 + 1) ∨ (w + 6 + 1 ≤ j ∧ j < w + 6 + 3) ∨ (w + 5 ≤ j ∧ j < w + 5 + 1) ∨ (w + 100 ≤ j ∧ j < w + 100 + 100 * t) ∨ (w + 100 + 100 * t ≤ j ∧ j < w + 100 + 100 * t + 1) ∨ (w + 100 + 100 * t + 1 ≤ j ∧ j < w + 100 + 100 * t + 100)) → A296 j = A j := fun j hj => (ha300 j (by omega) (by omega)).trans (hB284 j (by omega))
      have hF306 : ∀ j, j ≠ w → ¬ ((w ≤ j ∧ j < w) ∨ (w + 1 ≤ j ∧ j < w + 1 + 1) ∨ (0 ≤ j ∧ j < 0) ∨ (w + 2 ≤ j ∧ j < w + 2 + 1) ∨ (w + 1700 ≤ j ∧ j < w + 1700 + 1) ∨ (w + 1700 + 1 ≤ j ∧ j < w + 1700 + 100) ∨ (w + 3 ≤ j ∧ j < w + 3 + 1) ∨ (w + 4 ≤ j ∧ j < w + 5) ∨ (w + 2000 ≤ j ∧ j < w + 3500) ∨ (w + 6 ≤ j ∧ j < w + 6 + 1) ∨ (w + 6 + 1 ≤ j ∧ j < w + 6 + 3) ∨ (w + 5 ≤ j ∧ j < w + 5 + 1) ∨ (w + 100 ≤ j ∧ j < w + 100 + 100 * t) ∨ (w + 100 + 100 * t ≤ j ∧ j < w + 100 + 100 * t + 1) ∨ (w + 100 + 100 * t + 1 ≤ j ∧ j < w + 100 + 100 * t + 100)) → g297 j = g j := fun j hk hj => (hg301 j (by omega) (by omega) (by omega)).trans (hF285 j hk (by omega))
      have h307 : g297 w = ob 9 [.ref (A296 q), .ref (A296 (w + 1)), .ref (A296 (w + 2)), .ref (A296 (w + 1700)), .ref (A296 (w + 3)), .ref (A296 (w + 6)), .ref (A296 (w + 5)), .int (nI 0), .int (nI 0), .int (nI 0), .int (nI 0)] := by
          have z := (hg301 _ (by omega) (by omega) (by omega)).trans h286
          rw [show A276 q = A296 q from (ha300 _ (by omega) (by omega)).symm, show A276 (w + 1) = A296 (w + 1) from (ha300 _ (by omega) (by omega)).symm, show A276 (w + 2) = A296 (w + 2) from (ha300 _ (by omega) (by omega)).symm, show A276 (w + 1700) = A296 (w + 1700) from (ha300 _ (by omega) (by omega)).symm, show A276 (w + 3) = A296 (w + 3) from (ha300 _ (by omega) (by omega)).symm, show A276 (w + 6) = A296 (w + 6) from (ha300 _ (by omega) (by omega)).symm, show A276 (w + 5) = A296 (w + 5) from (ha300 _ (by omega) (by omega)).symm] at z
          exact z
      have h308 : SZ g297 (w + 1) (3, 5, 4, 2, 4) := (h287.fr hu303 (by omega)).xt hx302
      have h309 : g297 (w + 2) = aq 4 16 (rwu A296 (w + 100) 100 t) := (hx302.at ((va_up_ne _ _ (by omega)).trans h288) p_nil).trans (by rw [rwu_e (fun j hj => ha300 _ (by omega) (by omega))])
      have h310 : RW A296 g297 w [] 0 := (RW.fr' h289 (fun k hk => hu303 k (by omega))).xt hx302
      have h311 : LT A296 g297 (w + 6) lt0 := (h290.fr hu303 (by omega)).xt hx302
      have h312 : g297 (w + 5) = ai 0 13 (fun _ => 0) := hx302.at ((va_up_ne _ _ (by omega)).trans h291) p_nil
      have h313 : ∀ j, j < t → ND A296 g297 (w + 100 + 100 * j) j ndz := fun j hj => ((h292 j hj).fr hu303 (by omega)).xt hx302
      refine k_astq (pc := 112) C h309 hc298.1 rfl (fun _ => rfl) (nI_clamp (by omega)) (nI_in0 (n := 16) (by omega) (by omega)) dX9_init_112 (fun g314 hu315 hk316 => ?_)
      show V K (1587 + 79 * t + 1 + 78) (7366 + 315 * t + 10 + 305) P295 A296 g314 [(0, .ref (A296 w)), (1, .ref (A296 q)), (2, .int (nI t))] 113 []
      have hp317 : Fr g297 g314 (w + 2) (w + 2 + 1) := fun j hj => hu315 j (by omega)
      have h318 : g314 w = ob 9 [.ref (A296 q), .ref (A296 (w + 1)), .ref (A296 (w + 2)), .ref (A296 (w + 1700)), .ref (A296 (w + 3)), .ref (A296 (w + 6)), .ref (A296 (w + 5)), .int (nI 0), .int (nI 0), .int (nI 0), .int (nI 0)] := (hu315 _ (by omega)).trans h307
      have h319 : SZ g314 (w + 1) (3, 5, 4, 2, 4) := h308.fr hp317 (by omega)
      have h320 : RW A296 g314 w [] 0 := RW.fr' h310 (fun k hk => hp317 k (by omega))
      have h321 : LT A296 g314 (w + 6) lt0 := h311.fr hp317 (by omega)
      have h322 : g314 (w + 5) = ai 0 13 (fun _ => 0) := (hu315 _ (by omega)).trans h312
      have h323 : ∀ j, j < t → ND A296 g314 (w + 100 + 100 * j) j ndz := fun j hj => (h313 j hj).fr hp317 (by omega)
      have h324 : ND A296 g314 (w + 100 + 100 * t) t ndz := hc298.fr hp317 (by omega)
      have h325 : g314 (w + 2) = aq 4 16 (rwu A296 (w + 100) 100 (t + 1)) := hk316.trans (by rw [rwu_s])
      have hF326 : ∀ j, j ≠ w → ¬ ((w ≤ j ∧ j < w) ∨ (w + 1 ≤ j ∧ j < w + 1 + 1) ∨ (0 ≤ j ∧ j < 0) ∨ (w + 2 ≤ j ∧ j < w + 2 + 1) ∨ (w + 1700 ≤ j ∧ j < w + 1700 + 1) ∨ (w + 1700 + 1 ≤ j ∧ j < w + 1700 + 100) ∨ (w + 3 ≤ j ∧ j < w + 3 + 1) ∨ (w + 4 ≤ j ∧ j < w + 5) ∨ (w + 2000 ≤ j ∧ j < w + 3500) ∨ (w + 6 ≤ j ∧ j < w + 6 + 1) ∨ (w + 6 + 1 ≤ j ∧ j < w + 6 + 3) ∨ (w + 5 ≤ j ∧ j < w + 5 + 1) ∨ (w + 100 ≤ j ∧ j < w + 100 + 100 * t) ∨ (w + 100 + 100 * t ≤ j ∧ j < w + 100 + 100 * t + 1) ∨ (w + 100 + 100 * t + 1 ≤ j ∧ j < w + 100 + 100 * t + 100)) → g314 j = g j := fun j hk hj => (hu315 j (by omega)).trans (hF306 j hk hj)
      refine g_iinc (pc := 113) C dX9_init_113 (by decide) 2 rfl (v := nI (t + 1)) (nI_i1 _) (lv' := [(0, .ref (A296 w)), (1, .ref (A296 q)), (2, .int (nI (t + 1)))]) [1, 2, 0] rfl ?_
      refine g_goto (pc := 116) C dX9_init_116 (tgt := 93) (by decide) ?_
      rw [show 1587 + 79 * t + 1 + 78 = 1587 + 79 * (t + 1) by omega, show 7366 + 315 * t + 10 + 305 = 7366 + 315 * (t + 1) by omega]
      exact ih (t + 1) (by omega) P295 A296 g314 ⟨fun j hj => by
          rcases hQ304 j hj with q | q
          · exact Or.inl q
          · exact Or.inr (by omega), fun j hj => hB305 j (by omega), fun j hk hj => hF326 j hk (by omega), h318, h319, h325, h320, h321, h322, fun j hj => by
          rcases Nat.lt_succ_iff_lt_or_eq.mp hj with q | q
          · exact h323 j q
          · subst q
            exact h324⟩
  exact lp 16 0 (by omega) P186 A187 g263 ⟨fun j hj => by
      rcases hQ194 j hj with q | q
      · exact Or.inl q
      · exact Or.inr (by omega), fun j hj => hB195 j (by omega), fun j hk hj => hF274 j hk (by omega), hO273, h267, h268, h270, h271, h272, fun j hj => absurd hj (Nat.not_lt_zero _)⟩
