-- PART 43: constructors of the small objects
/-- what new objects hold: a letter, a node, a world -/
abbrev lt0 : Lt := (0, 0, 0, 0, 0, [])
abbrev ndz : Nd := (false, [], [], 0, none, 0, 0, fun _ => none, fun _ => none)
abbrev sg0 : Sg := (fun _ => ndz, 0, 0, 0, 0, [], 0, fun _ => 0, (3, 5, 4, 2, 4))
/-- a row of references, t of them written -/
def rwu (A : Nat → Nat) (b s t : Nat) : Nat → Option Nat := fun j => if j < t then some (A (b + s * j)) else none
theorem rwu_0 {A : Nat → Nat} {b s : Nat} : rwu A b s 0 = fun _ => none := by
  funext j
  simp [rwu]
theorem rwu_e {A A' : Nat → Nat} {b s t : Nat} (h : ∀ j, j < t → A' (b + s * j) = A (b + s * j)) : rwu A' b s t = rwu A b s t := by
  funext j
  simp only [rwu]
  by_cases hj : j < t
  · rw [if_pos hj, if_pos hj, h j hj]
  · rw [if_neg hj, if_neg hj]
theorem rwu_s {A : Nat → Nat} {b s t : Nat} : va_up (rwu A b s t) t (some (A (b + s * t))) = rwu A b s (t + 1) := by
  funext j
  simp only [rwu]
  by_cases h : j = t
  · subst h
    rw [va_up_self, if_pos (by omega)]
  · rw [va_up_ne _ _ h]
    show (if j < t then some (A (b + s * j)) else none) = _
    by_cases h2 : j < t
    · rw [if_pos h2, if_pos (by omega)]
    · rw [if_neg h2, if_neg (by omega)]
def hfl (t : Nat) : Nat → Int32 := fun j => if j < t then -6 else 0
theorem hfl_0 : hfl 0 = fun _ => 0 := by
  funext j
  simp [hfl]
theorem hfl_s {t : Nat} : upd (hfl t) t (-6) = hfl (t + 1) := by
  funext j
  simp only [hfl, upd]
  by_cases h : j = t
  · subst h
    rw [if_pos rfl, if_pos (by omega)]
  · rw [if_neg h]
    by_cases h2 : j < t
    · rw [if_pos h2, if_pos (by omega)]
    · rw [if_neg h2, if_neg (by omega)]
abbrev rm_X4_init (cap : Nat) : Room := { frames := 1, cells := 1, slots := cap, locals := 21 }
theorem N_X4_init : yX4_init.cls ≠ "java/lang/invoke/MethodHandle" ∧ yX4_init.cls ≠ "java/lang/invoke/VarHandle" ∧ (parseMethodDescriptor yX4_init.desc).map (fun d => d.parameters.length) = some 1 := by decide +kernel
theorem df_X4 : ∀ j, j < 2 → defaultValue (tyX4 j) = vp_V [.null, .int 0] j := by
  intro j hj
  match j, hj with
  | 0, _ => exact rfl
  | 1, _ => exact rfl
  | n + 2, h => exact absurd h (by omega)
set_option maxRecDepth 20000 in
set_option maxHeartbeats 4000000 in
theorem c_X4_init (A : Nat → Nat) (P : List Nat) (g : pM) (a cap : Nat) (hcap : cap < 1000) (hO : g a = ob 4 [.null, .int 0]) (hP : ∀ j ∈ P, ¬ (a + 1 ≤ j ∧ j < a + 2) ∧ ¬ (0 ≤ j ∧ j < 0)) : PX yX4_init cX4_init 2 (Option.none : Option Jvm.ClassFile.FieldType) (rm_X4_init cap) [.ref (A a), .int (nI cap)] P A g (fun v P' A' g' => v = none ∧ (NLN A' g' a cap []) ∧ Mk a (a + 1) (a + 2) 0 0 P A g P' A' g') := by
  refine px_intro (by decide +kernel) (Nat.le_of_ble_eq_true rfl) (fun K sz C R => ?_)
  have hQ0 : ∀ j ∈ P, j ∈ P ∨ ((a ≤ j ∧ j < a)) := fun j hj => Or.inl hj
  have hB0 : ∀ j, ¬ ((a ≤ j ∧ j < a)) → A j = A j := fun j hj => rfl
  have hF0 : ∀ j, j ≠ a → ¬ ((a ≤ j ∧ j < a)) → g j = g j := fun j hk hj => rfl
  show V K 0 0 P A g [(0, .ref (A a)), (1, .int (nI cap))] 0 []
  refine g_aload_n (pc := 0) C dX4_init_0 0 rfl ?_
  refine g_objInit (pc := 1) C u_89 u_21 u_22 (Nat.le_of_ble_eq_true rfl) (Nat.le_of_ble_eq_true rfl) dX4_init_1 ?_
  refine g_aload_n (pc := 4) C dX4_init_4 0 rfl ?_
  refine g_iconst (pc := 5) C dX4_init_5 (v := nI 0) rfl ?_
  refine k_put (pc := 6) C (j := 1) hO rfl (by decide) (Nat.le_of_ble_eq_true rfl) u_94 rfl (tyX4_ok 1 (by decide)) rfl rfl dX4_init_6 (fun g1 hu2 hO3 => ?_)
  show V K 0 0 P A g1 [(0, .ref (A a)), (1, .int (nI cap))] 9 []
  have hp4 : Fr g g1 a (a + 1) := fun j hj => hu2 j (by omega)
  have hO5 : g1 a = ob 4 [.null, .int (nI 0)] := hO3
  have hF6 : ∀ j, j ≠ a → ¬ ((a ≤ j ∧ j < a)) → g1 j = g j := fun j hk hj => (hu2 j hk).trans (hF0 j hk hj)
  refine g_aload_n (pc := 9) C dX4_init_9 0 rfl ?_
  refine g_iload_n (pc := 10) C dX4_init_10 1 rfl ?_
  refine g_iconst (pc := 11) C dX4_init_11 (v := nI 0) rfl ?_
  refine g_mmax (pc := 12) C u_90 u_91 u_7 u_92 (Nat.le_of_ble_eq_true rfl) (Nat.le_of_ble_eq_true rfl) ⟨Nat.zero_le _, Nat.zero_le _⟩ dX4_init_12 (z := nI cap) (if_neg (nI_pos (by omega))) ?_
  refine k_newi (pc := 15) C (a + 1) (N' := cap) (fun h => (hQ0 _ h).elim (fun q => by have z := hP _ q; omega) (fun q => by omega)) (nI_pos (by omega)) (nI_clamp (by omega)) (show cap * 4 ≤ 536870912 by omega) ⟨show 0 + 1 ≤ 1 by omega, show 0 + cap ≤ cap by omega⟩ dX4_init_15 (fun P7 A8 g9 hq10 ha11 hg12 hx13 hk14 => ?_)
  rw [show A a = A8 a from (ha11 _ (by omega)).symm]
  show V K 1 (0 + cap) P7 A8 g9 [(0, .ref (A8 a)), (1, .int (nI cap))] 17 [.ref (A8 (a + 1)), .ref (A8 a)]
  have hQ15 : ∀ j ∈ P7, j ∈ P ∨ ((a ≤ j ∧ j < a) ∨ (a + 1 ≤ j ∧ j < a + 1 + 1)) := fun j hj => by
      rcases hq10 j hj with h | h
      · rcases hQ0 j h with q | q
        · exact Or.inl q
        · exact Or.inr (by omega)
      · exact Or.inr (by omega)
  have hB16 : ∀ j, ¬ ((a ≤ j ∧ j < a) ∨ (a + 1 ≤ j ∧ j < a + 1 + 1)) → A8 j = A j := fun j hj => (ha11 j (by omega)).trans (hB0 j (by omega))
  have hF17 : ∀ j, j ≠ a → ¬ ((a ≤ j ∧ j < a) ∨ (a + 1 ≤ j ∧ j < a + 1 + 1)) → g9 j = g j := fun j hk hj => (hg12 j (by omega)).trans (hF6 j hk (by omega))
  have h18 : g9 a = ob 4 [.null, .int (nI 0)] := (hg12 _ (by omega)).trans hO5
  refine k_putF (pc := 17) C (j := 0) R.2.2.2.2.2 h18 rfl (by decide) (Nat.le_of_ble_eq_true rfl) u_93 rfl rfl (tyX4_ok 0 (by decide)) rfl rfl dX4_init_17 (fun g19 hu20 hO21 => ?_)
  show V K 1 (0 + cap) P7 A8 g19 [(0, .ref (A8 a)), (1, .int (nI cap))] 20 []
  have hp22 : Fr g9 g19 a (a + 1) := fun j hj => hu20 j (by omega)
  have h23 : g19 (a + 1) = ai 0 cap (fun _ => 0) := (hu20 _ (by omega)).trans hk14
  have hO24 : g19 a = ob 4 [.ref (A8 (a + 1)), .int (nI 0)] := hO21
  have hF25 : ∀ j, j ≠ a → ¬ ((a ≤ j ∧ j < a) ∨ (a + 1 ≤ j ∧ j < a + 1 + 1)) → g19 j = g j := fun j hk hj => (hu20 j hk).trans (hF17 j hk hj)
  exact g_vret (pc := 20) C R ⟨rfl, ⟨⟨Nat.zero_le _, hcap, hO24, _, h23, fun i hi => absurd hi (Nat.not_lt_zero _)⟩, fun x hx => absurd hx List.not_mem_nil⟩, fun j hj => by
      rcases hQ15 j hj with q | q
      · exact Or.inl q
      · exact Or.inr (by omega), fun j h1 h2 => hB16 j (by omega), fun j h0 h1 h2 => hF25 j h0 (by omega)⟩ (show 1 ≤ 1 by omega) (show 0 + cap ≤ cap by omega) dX4_init_20
abbrev rm_X1_init : Room := { frames := 2, cells := 2, slots := 7, locals := 42 }
theorem N_X1_init : yX1_init.cls ≠ "java/lang/invoke/MethodHandle" ∧ yX1_init.cls ≠ "java/lang/invoke/VarHandle" ∧ (parseMethodDescriptor yX1_init.desc).map (fun d => d.parameters.length) = some 0 := by decide +kernel
theorem df_X1 : ∀ j, j < 6 → defaultValue (tyX1 j) = vp_V [.int 0, .int 0, .int 0, .int 0, .int 0, .null] j := by
  intro j hj
  match j, hj with
  | 0, _ => exact rfl
  | 1, _ => exact rfl
  | 2, _ => exact rfl
  | 3, _ => exact rfl
  | 4, _ => exact rfl
  | 5, _ => exact rfl
  | n + 6, h => exact absurd h (by omega)
set_option maxRecDepth 20000 in
set_option maxHeartbeats 4000000 in
theorem c_X1_init (A : Nat → Nat) (P : List Nat) (g : pM) (a : Nat) (hO : g a = ob 1 [.int 0, .int 0, .int 0, .int 0, .int 0, .null]) (hP : ∀ j ∈ P, ¬ (a + 1 ≤ j ∧ j < a + 3) ∧ ¬ (0 ≤ j ∧ j < 0)) : PX yX1_init cX1_init 1 (Option.none : Option Jvm.ClassFile.FieldType) rm_X1_init [.ref (A a)] P A g (fun v P' A' g' => v = none ∧ (LT A' g' a lt0) ∧ Mk a (a + 1) (a + 3) 0 0 P A g P' A' g') := by
  refine px_intro (by decide +kernel) (Nat.le_of_ble_eq_true rfl) (fun K sz C R => ?_)
  have hQ0 : ∀ j ∈ P, j ∈ P ∨ ((a ≤ j ∧ j < a)) := fun j hj => Or.inl hj
  have hB0 : ∀ j, ¬ ((a ≤ j ∧ j < a)) → A j = A j := fun j hj => rfl
  have hF0 : ∀ j, j ≠ a → ¬ ((a ≤ j ∧ j < a)) → g j = g j := fun j hk hj => rfl
  show V K 0 0 P A g [(0, .ref (A a))] 0 []
  refine g_aload_n (pc := 0) C dX1_init_0 0 rfl ?_
  refine g_objInit (pc := 1) C u_191 u_21 u_22 (Nat.le_of_ble_eq_true rfl) (Nat.le_of_ble_eq_true rfl) dX1_init_1 ?_
  refine g_aload_n (pc := 4) C dX1_init_4 0 rfl ?_
  refine k_new (pc := 5) C (a + 1) (ci := 4) (fs := [.null, .int 0]) (q := (RX4, TX4, 2)) (ty := tyX4) (fun h => (hQ0 _ h).elim (fun q => by have z := hP _ q; omega) (fun q => by omega)) rfl u_192 u_85 u_6 tyX4_ok df_X4 ⟨show 0 + 1 ≤ 2 by omega, show 0 + 2 ≤ 7 by omega⟩ dX1_init_5 (fun P1 A2 g3 hq4 ha5 hg6 hx7 hk8 => ?_)
  rw [show A a = A2 a from (ha5 _ (by omega)).symm]
  show V K 1 2 P1 A2 g3 [(0, .ref (A2 a))] 8 [.ref (A2 (a + 1)), .ref (A2 a)]
  have hQ9 : ∀ j ∈ P1, j ∈ P ∨ ((a ≤ j ∧ j < a) ∨ (a + 1 ≤ j ∧ j < a + 1 + 1)) := fun j hj => by
      rcases hq4 j hj with h | h
      · rcases hQ0 j h with q | q
        · exact Or.inl q
        · exact Or.inr (by omega)
      · exact Or.inr (by omega)
  have hB10 : ∀ j, ¬ ((a ≤ j ∧ j < a) ∨ (a + 1 ≤ j ∧ j < a + 1 + 1)) → A2 j = A j := fun j hj => (ha5 j (by omega)).trans (hB0 j (by omega))
  have hF11 : ∀ j, j ≠ a → ¬ ((a ≤ j ∧ j < a) ∨ (a + 1 ≤ j ∧ j < a + 1 + 1)) → g3 j = g j := fun j hk hj => (hg6 j (by omega)).trans (hF0 j hk (by omega))
  have h12 : g3 a = ob 1 [.int 0, .int 0, .int 0, .int 0, .int 0, .null] := (hg6 _ (by omega)).trans hO
  refine g_dup (pc := 8) C dX1_init_8 rfl ?_
  refine g_iconst (pc := 9) C dX1_init_9 (v := nI 5) rfl ?_
  refine v_p0 fun h013 => ?_
  have hf14 : ∀ j ∈ P1, ¬ (a + 1 + 1 ≤ j ∧ j < a + 1 + 2) ∧ ¬ (0 ≤ j ∧ j < 0) := fun j hj => by
      rcases hQ9 j hj with q | q
      · have z := hP j q
        omega
      · omega
  refine g_callI (pc := 10) C (As := [.int (nI 5)]) (rest := [.ref (A2 (a + 1)), .ref (A2 a)]) (b := (a + 1)) (c_X4_init A2 P1 g3 (a + 1) 5 (by omega) hk8 hf14) u_87 u_6 u_88 u_193 rfl N_X4_init ⟨Nat.le_of_ble_eq_true rfl, Nat.le_of_ble_eq_true rfl⟩ ⟨show 1 + 1 ≤ 2 by omega, show 2 + 5 ≤ 7 by omega⟩ (Nat.le_of_ble_eq_true rfl) rfl dX1_init_10 ?_
  rintro _ P15 A16 g17 ⟨rfl, hc18, hq19, ha20, hg21⟩
  have hx22 : Ext A2 (va_up g3 (a + 1) p0) A16 g17 := Mk.ext ⟨hq19, ha20, hg21⟩ h013 hf14
  have hu23 : Fr g3 (va_up g3 (a + 1) p0) (a + 1) (a + 1 + 1) := Fr.up (by omega) (by omega)
  rw [show A2 a = A16 a from (ha20 _ (by omega) (by omega)).symm, show A2 (a + 1) = A16 (a + 1) from (ha20 _ (by omega) (by omega)).symm]
  show V K 2 7 P15 A16 g17 [(0, .ref (A16 a))] 13 [.ref (A16 (a + 1)), .ref (A16 a)]
  have hQ24 : ∀ j ∈ P15, j ∈ P ∨ ((a ≤ j ∧ j < a) ∨ (a + 1 ≤ j ∧ j < a + 1 + 1) ∨ (a + 1 + 1 ≤ j ∧ j < a + 1 + 2)) := fun j hj => by
      rcases hq19 j hj with h | h
      · rcases hQ9 j h with q | q
        · exact Or.inl q
        · exact Or.inr (by omega)
      · exact Or.inr (by omega)
  have hB25 : ∀ j, ¬ ((a ≤ j ∧ j < a) ∨ (a + 1 ≤ j ∧ j < a + 1 + 1) ∨ (a + 1 + 1 ≤ j ∧ j < a + 1 + 2)) → A16 j = A j := fun j hj => (ha20 j (by omega) (by omega)).trans (hB10 j (by omega))
  have hF26 : ∀ j, j ≠ a → ¬ ((a ≤ j ∧ j < a) ∨ (a + 1 ≤ j ∧ j < a + 1 + 1) ∨ (a + 1 + 1 ≤ j ∧ j < a + 1 + 2)) → g17 j = g j := fun j hk hj => (hg21 j (by omega) (by omega) (by omega)).trans (hF11 j hk (by omega))
  have h27 : g17 a = ob 1 [.int 0, .int 0, .int 0, .int 0, .int 0, .null] := (hg21 _ (by omega) (by omega) (by omega)).trans h12
  refine k_putF (pc := 13) C (j := 5) R.2.2.2.2.2 h27 rfl (by decide) (Nat.le_of_ble_eq_true rfl) u_211 rfl rfl (tyX1_ok 5 (by decide)) rfl rfl dX1_init_13 (fun g28 hu29 hO30 => ?_)
  show V K 2 7 P15 A16 g28 [(0, .ref (A16 a))] 16 []
  have hp31 : Fr g17 g28 a (a + 1) := fun j hj => hu29 j (by omega)
  have h32 : NLN A16 g28 (a + 1) 5 [] := hc18.fr hp31 (by omega)
  have hO33 : g28 a = ob 1 [.int 0, .int 0, .int 0, .int 0, .int 0, .ref (A16 (a + 1))] := hO30
  have hF34 : ∀ j, j ≠ a → ¬ ((a ≤ j ∧ j < a) ∨ (a + 1 ≤ j ∧ j < a + 1 + 1) ∨ (a + 1 + 1 ≤ j ∧ j < a + 1 + 2)) → g28 j = g j := fun j hk hj => (hu29 j hk).trans (hF26 j hk hj)
  exact g_vret (pc := 16) C R ⟨rfl, ⟨hO33, h32⟩, fun j hj => by
      rcases hQ24 j hj with q | q
      · exact Or.inl q
      · exact Or.inr (by omega), fun j h1 h2 => hB25 j (by omega), fun j h0 h1 h2 => hF34 j h0 (by omega)⟩ (show 2 ≤ 2 by omega) (show 7 ≤ 7 by omega) dX1_init_16
abbrev rm_X2_init : Room := { frames := 2, cells := 2, slots := 7, locals := 42 }
theorem N_X2_init : yX2_init.cls ≠ "java/lang/invoke/MethodHandle" ∧ yX2_init.cls ≠ "java/lang/invoke/VarHandle" ∧ (parseMethodDescriptor yX2_init.desc).map (fun d => d.parameters.length) = some 0 := by decide +kernel
theorem df_X2 : ∀ j, j < 3 → defaultValue (tyX2 j) = vp_V [.int 0, .int 0, .null] j := by
  intro j hj
  match j, hj with
  | 0, _ => exact rfl
  | 1, _ => exact rfl
  | 2, _ => exact rfl
  | n + 3, h => exact absurd h (by omega)
set_option maxRecDepth 20000 in
set_option maxHeartbeats 4000000 in
theorem c_X2_init (A : Nat → Nat) (P : List Nat) (g : pM) (a : Nat) (hO : g a = ob 2 [.int 0, .int 0, .null]) (hP : ∀ j ∈ P, ¬ (a + 1 ≤ j ∧ j < a + 3) ∧ ¬ (0 ≤ j ∧ j < 0)) : PX yX2_init cX2_init 1 (Option.none : Option Jvm.ClassFile.FieldType) rm_X2_init [.ref (A a)] P A g (fun v P' A' g' => v = none ∧ (MS A' g' a none) ∧ Mk a (a + 1) (a + 3) 0 0 P A g P' A' g') := by
  refine px_intro (by decide +kernel) (Nat.le_of_ble_eq_true rfl) (fun K sz C R => ?_)
  have hQ0 : ∀ j ∈ P, j ∈ P ∨ ((a ≤ j ∧ j < a)) := fun j hj => Or.inl hj
  have hB0 : ∀ j, ¬ ((a ≤ j ∧ j < a)) → A j = A j := fun j hj => rfl
  have hF0 : ∀ j, j ≠ a → ¬ ((a ≤ j ∧ j < a)) → g j = g j := fun j hk hj => rfl
  show V K 0 0 P A g [(0, .ref (A a))] 0 []
  refine g_aload_n (pc := 0) C dX2_init_0 0 rfl ?_
  refine g_objInit (pc := 1) C u_110 u_21 u_22 (Nat.le_of_ble_eq_true rfl) (Nat.le_of_ble_eq_true rfl) dX2_init_1 ?_
  refine g_aload_n (pc := 4) C dX2_init_4 0 rfl ?_
  refine g_iconst (pc := 5) C dX2_init_5 (v := nI 0) rfl ?_
  refine k_put (pc := 6) C (j := 0) hO rfl (by decide) (Nat.le_of_ble_eq_true rfl) u_113 rfl (tyX2_ok 0 (by decide)) rfl rfl dX2_init_6 (fun g1 hu2 hO3 => ?_)
  show V K 0 0 P A g1 [(0, .ref (A a))] 9 []
  have hp4 : Fr g g1 a (a + 1) := fun j hj => hu2 j (by omega)
  have hO5 : g1 a = ob 2 [.int (nI 0), .int 0, .null] := hO3
  have hF6 : ∀ j, j ≠ a → ¬ ((a ≤ j ∧ j < a)) → g1 j = g j := fun j hk hj => (hu2 j hk).trans (hF0 j hk hj)
  refine g_aload_n (pc := 9) C dX2_init_9 0 rfl ?_
  refine g_iconst (pc := 10) C dX2_init_10 (v := nI 0) rfl ?_
  refine k_put (pc := 11) C (j := 1) hO5 rfl (by decide) (Nat.le_of_ble_eq_true rfl) u_116 rfl (tyX2_ok 1 (by decide)) rfl rfl dX2_init_11 (fun g7 hu8 hO9 => ?_)
  show V K 0 0 P A g7 [(0, .ref (A a))] 14 []
  have hp10 : Fr g1 g7 a (a + 1) := fun j hj => hu8 j (by omega)
  have hO11 : g7 a = ob 2 [.int (nI 0), .int (nI 0), .null] := hO9
  have hF12 : ∀ j, j ≠ a → ¬ ((a ≤ j ∧ j < a)) → g7 j = g j := fun j hk hj => (hu8 j hk).trans (hF6 j hk hj)
  refine g_aload_n (pc := 14) C dX2_init_14 0 rfl ?_
  refine k_new (pc := 15) C (a + 1) (ci := 4) (fs := [.null, .int 0]) (q := (RX4, TX4, 2)) (ty := tyX4) (fun h => (hQ0 _ h).elim (fun q => by have z := hP _ q; omega) (fun q => by omega)) rfl u_111 u_85 u_6 tyX4_ok df_X4 ⟨show 0 + 1 ≤ 2 by omega, show 0 + 2 ≤ 7 by omega⟩ dX2_init_15 (fun P13 A14 g15 hq16 ha17 hg18 hx19 hk20 => ?_)
  rw [show A a = A14 a from (ha17 _ (by omega)).symm]
  show V K 1 2 P13 A14 g15 [(0, .ref (A14 a))] 18 [.ref (A14 (a + 1)), .ref (A14 a)]
  have hQ21 : ∀ j ∈ P13, j ∈ P ∨ ((a ≤ j ∧ j < a) ∨ (a + 1 ≤ j ∧ j < a + 1 + 1)) := fun j hj => by
      rcases hq16 j hj with h | h
      · rcases hQ0 j h with q | q
        · exact Or.inl q
        · exact Or.inr (by omega)
      · exact Or.inr (by omega)
  have hB22 : ∀ j, ¬ ((a ≤ j ∧ j < a) ∨ (a + 1 ≤ j ∧ j < a + 1 + 1)) → A14 j = A j := fun j hj => (ha17 j (by omega)).trans (hB0 j (by omega))
  have hF23 : ∀ j, j ≠ a → ¬ ((a ≤ j ∧ j < a) ∨ (a + 1 ≤ j ∧ j < a + 1 + 1)) → g15 j = g j := fun j hk hj => (hg18 j (by omega)).trans (hF12 j hk (by omega))
  have h24 : g15 a = ob 2 [.int (nI 0), .int (nI 0), .null] := (hg18 _ (by omega)).trans hO11
  refine g_dup (pc := 18) C dX2_init_18 rfl ?_
  refine g_iconst (pc := 19) C dX2_init_19 (v := nI 5) rfl ?_
  refine v_p0 fun h025 => ?_
  have hf26 : ∀ j ∈ P13, ¬ (a + 1 + 1 ≤ j ∧ j < a + 1 + 2) ∧ ¬ (0 ≤ j ∧ j < 0) := fun j hj => by
      rcases hQ21 j hj with q | q
      · have z := hP j q
        omega
      · omega
  refine g_callI (pc := 20) C (As := [.int (nI 5)]) (rest := [.ref (A14 (a + 1)), .ref (A14 a)]) (b := (a + 1)) (c_X4_init A14 P13 g15 (a + 1) 5 (by omega) hk20 hf26) u_87 u_6 u_88 u_112 rfl N_X4_init ⟨Nat.le_of_ble_eq_true rfl, Nat.le_of_ble_eq_true rfl⟩ ⟨show 1 + 1 ≤ 2 by omega, show 2 + 5 ≤ 7 by omega⟩ (Nat.le_of_ble_eq_true rfl) rfl dX2_init_20 ?_
  rintro _ P27 A28 g29 ⟨rfl, hc30, hq31, ha32, hg33⟩
  have hx34 : Ext A14 (va_up g15 (a + 1) p0) A28 g29 := Mk.ext ⟨hq31, ha32, hg33⟩ h025 hf26
  have hu35 : Fr g15 (va_up g15 (a + 1) p0) (a + 1) (a + 1 + 1) := Fr.up (by omega) (by omega)
  rw [show A14 a = A28 a from (ha32 _ (by omega) (by omega)).symm, show A14 (a + 1) = A28 (a + 1) from (ha32 _ (by omega) (by omega)).symm]
  show V K 2 7 P27 A28 g29 [(0, .ref (A28 a))] 23 [.ref (A28 (a + 1)), .ref (A28 a)]
  have hQ36 : ∀ j ∈ P27, j ∈ P ∨ ((a ≤ j ∧ j < a) ∨ (a + 1 ≤ j ∧ j < a + 1 + 1) ∨ (a + 1 + 1 ≤ j ∧ j < a + 1 + 2)) := fun j hj => by
      rcases hq31 j hj with h | h
      · rcases hQ21 j h with q | q
        · exact Or.inl q
        · exact Or.inr (by omega)
      · exact Or.inr (by omega)
  have hB37 : ∀ j, ¬ ((a ≤ j ∧ j < a) ∨ (a + 1 ≤ j ∧ j < a + 1 + 1) ∨ (a + 1 + 1 ≤ j ∧ j < a + 1 + 2)) → A28 j = A j := fun j hj => (ha32 j (by omega) (by omega)).trans (hB22 j (by omega))
  have hF38 : ∀ j, j ≠ a → ¬ ((a ≤ j ∧ j < a) ∨ (a + 1 ≤ j ∧ j < a + 1 + 1) ∨ (a + 1 + 1 ≤ j ∧ j < a + 1 + 2)) → g29 j = g j := fun j hk hj => (hg33 j (by omega) (by omega) (by omega)).trans (hF23 j hk (by omega))
  have h39 : g29 a = ob 2 [.int (nI 0), .int (nI 0), .null] := (hg33 _ (by omega) (by omega) (by omega)).trans h24
  refine k_putF (pc := 23) C (j := 2) R.2.2.2.2.2 h39 rfl (by decide) (Nat.le_of_ble_eq_true rfl) u_118 rfl rfl (tyX2_ok 2 (by decide)) rfl rfl dX2_init_23 (fun g40 hu41 hO42 => ?_)
  show V K 2 7 P27 A28 g40 [(0, .ref (A28 a))] 26 []
  have hp43 : Fr g29 g40 a (a + 1) := fun j hj => hu41 j (by omega)
  have h44 : NLN A28 g40 (a + 1) 5 [] := hc30.fr hp43 (by omega)
  have hO45 : g40 a = ob 2 [.int (nI 0), .int (nI 0), .ref (A28 (a + 1))] := hO42
  have hF46 : ∀ j, j ≠ a → ¬ ((a ≤ j ∧ j < a) ∨ (a + 1 ≤ j ∧ j < a + 1 + 1) ∨ (a + 1 + 1 ≤ j ∧ j < a + 1 + 2)) → g40 j = g j := fun j hk hj => (hu41 j hk).trans (hF38 j hk hj)
  exact g_vret (pc := 26) C R ⟨rfl, ⟨hO45, h44⟩, fun j hj => by
      rcases hQ36 j hj with q | q
      · exact Or.inl q
      · exact Or.inr (by omega), fun j h1 h2 => hB37 j (by omega), fun j h0 h1 h2 => hF46 j h0 (by omega)⟩ (show 2 ≤ 2 by omega) (show 7 ≤ 7 by omega) dX2_init_26
abbrev rm_X6_init : Room := { frames := 1, cells := 0, slots := 0, locals := 20 }
theorem N_X6_init : yX6_init.cls ≠ "java/lang/invoke/MethodHandle" ∧ yX6_init.cls ≠ "java/lang/invoke/VarHandle" ∧ (parseMethodDescriptor yX6_init.desc).map (fun d => d.parameters.length) = some 0 := by decide +kernel
theorem df_X6 : ∀ j, j < 5 → defaultValue (tyX6 j) = vp_V [.int 0, .int 0, .int 0, .int 0, .int 0] j := by
  intro j hj
  match j, hj with
  | 0, _ => exact rfl
  | 1, _ => exact rfl
  | 2, _ => exact rfl
  | 3, _ => exact rfl
  | 4, _ => exact rfl
  | n + 5, h => exact absurd h (by omega)
set_option maxRecDepth 20000 in
set_option maxHeartbeats 4000000 in
theorem c_X6_init (A : Nat → Nat) (P : List Nat) (g : pM) (a : Nat) (hO : g a = ob 6 [.int 0, .int 0, .int 0, .int 0, .int 0]) (hP : ∀ j ∈ P, ¬ (0 ≤ j ∧ j < 0) ∧ ¬ (0 ≤ j ∧ j < 0)) : PX yX6_init cX6_init 1 (Option.none : Option Jvm.ClassFile.FieldType) rm_X6_init [.ref (A a)] P A g (fun v P' A' g' => v = none ∧ (SZ g' a (3, 5, 4, 2, 4)) ∧ Mk a 0 0 0 0 P A g P' A' g') := by
  refine px_intro (by decide +kernel) (Nat.le_of_ble_eq_true rfl) (fun K sz C R => ?_)
  have hQ0 : ∀ j ∈ P, j ∈ P ∨ ((a ≤ j ∧ j < a)) := fun j hj => Or.inl hj
  have hB0 : ∀ j, ¬ ((a ≤ j ∧ j < a)) → A j = A j := fun j hj => rfl
  have hF0 : ∀ j, j ≠ a → ¬ ((a ≤ j ∧ j < a)) → g j = g j := fun j hk hj => rfl
  show V K 0 0 P A g [(0, .ref (A a))] 0 []
  refine g_aload_n (pc := 0) C dX6_init_0 0 rfl ?_
  refine g_objInit (pc := 1) C u_50 u_21 u_22 (Nat.le_of_ble_eq_true rfl) (Nat.le_of_ble_eq_true rfl) dX6_init_1 ?_
  refine g_aload_n (pc := 4) C dX6_init_4 0 rfl ?_
  refine g_iconst (pc := 5) C dX6_init_5 (v := nI 3) rfl ?_
  refine k_put (pc := 6) C (j := 0) hO rfl (by decide) (Nat.le_of_ble_eq_true rfl) u_51 rfl (tyX6_ok 0 (by decide)) rfl rfl dX6_init_6 (fun g1 hu2 hO3 => ?_)
  show V K 0 0 P A g1 [(0, .ref (A a))] 9 []
  have hp4 : Fr g g1 a (a + 1) := fun j hj => hu2 j (by omega)
  have hO5 : g1 a = ob 6 [.int (nI 3), .int 0, .int 0, .int 0, .int 0] := hO3
  have hF6 : ∀ j, j ≠ a → ¬ ((a ≤ j ∧ j < a)) → g1 j = g j := fun j hk hj => (hu2 j hk).trans (hF0 j hk hj)
  refine g_aload_n (pc := 9) C dX6_init_9 0 rfl ?_
  refine g_iconst (pc := 10) C dX6_init_10 (v := nI 5) rfl ?_
  refine k_put (pc := 11) C (j := 1) hO5 rfl (by decide) (Nat.le_of_ble_eq_true rfl) u_54 rfl (tyX6_ok 1 (by decide)) rfl rfl dX6_init_11 (fun g7 hu8 hO9 => ?_)
  show V K 0 0 P A g7 [(0, .ref (A a))] 14 []
  have hp10 : Fr g1 g7 a (a + 1) := fun j hj => hu8 j (by omega)
  have hO11 : g7 a = ob 6 [.int (nI 3), .int (nI 5), .int 0, .int 0, .int 0] := hO9
  have hF12 : ∀ j, j ≠ a → ¬ ((a ≤ j ∧ j < a)) → g7 j = g j := fun j hk hj => (hu8 j hk).trans (hF6 j hk hj)
  refine g_aload_n (pc := 14) C dX6_init_14 0 rfl ?_
  refine g_iconst (pc := 15) C dX6_init_15 (v := nI 4) rfl ?_
  refine k_put (pc := 16) C (j := 2) hO11 rfl (by decide) (Nat.le_of_ble_eq_true rfl) u_57 rfl (tyX6_ok 2 (by decide)) rfl rfl dX6_init_16 (fun g13 hu14 hO15 => ?_)
  show V K 0 0 P A g13 [(0, .ref (A a))] 19 []
  have hp16 : Fr g7 g13 a (a + 1) := fun j hj => hu14 j (by omega)
  have hO17 : g13 a = ob 6 [.int (nI 3), .int (nI 5), .int (nI 4), .int 0, .int 0] := hO15
  have hF18 : ∀ j, j ≠ a → ¬ ((a ≤ j ∧ j < a)) → g13 j = g j := fun j hk hj => (hu14 j hk).trans (hF12 j hk hj)
  refine g_aload_n (pc := 19) C dX6_init_19 0 rfl ?_
  refine g_iconst (pc := 20) C dX6_init_20 (v := nI 2) rfl ?_
  refine k_put (pc := 21) C (j := 3) hO17 rfl (by decide) (Nat.le_of_ble_eq_true rfl) u_60 rfl (tyX6_ok 3 (by decide)) rfl rfl dX6_init_21 (fun g19 hu20 hO21 => ?_)
  show V K 0 0 P A g19 [(0, .ref (A a))] 24 []
  have hp22 : Fr g13 g19 a (a + 1) := fun j hj => hu20 j (by omega)
  have hO23 : g19 a = ob 6 [.int (nI 3), .int (nI 5), .int (nI 4), .int (nI 2), .int 0] := hO21
  have hF24 : ∀ j, j ≠ a → ¬ ((a ≤ j ∧ j < a)) → g19 j = g j := fun j hk hj => (hu20 j hk).trans (hF18 j hk hj)
  refine g_aload_n (pc := 24) C dX6_init_24 0 rfl ?_
  refine g_iconst (pc := 25) C dX6_init_25 (v := nI 4) rfl ?_
  refine k_put (pc := 26) C (j := 4) hO23 rfl (by decide) (Nat.le_of_ble_eq_true rfl) u_63 rfl (tyX6_ok 4 (by decide)) rfl rfl dX6_init_26 (fun g25 hu26 hO27 => ?_)
  show V K 0 0 P A g25 [(0, .ref (A a))] 29 []
  have hp28 : Fr g19 g25 a (a + 1) := fun j hj => hu26 j (by omega)
  have hO29 : g25 a = ob 6 [.int (nI 3), .int (nI 5), .int (nI 4), .int (nI 2), .int (nI 4)] := hO27
  have hF30 : ∀ j, j ≠ a → ¬ ((a ≤ j ∧ j < a)) → g25 j = g j := fun j hk hj => (hu26 j hk).trans (hF24 j hk hj)
  exact g_vret (pc := 29) C R ⟨rfl, hO29, fun j hj => by
      rcases hQ0 j hj with q | q
      · exact Or.inl q
      · exact Or.inr (by omega), fun j h1 h2 => hB0 j (by omega), fun j h0 h1 h2 => hF30 j h0 (by omega)⟩ (show 0 ≤ 0 by omega) (show 0 ≤ 0 by omega) dX6_init_29
abbrev rm_X0_init : Room := { frames := 1, cells := 1, slots := 64, locals := 20 }
theorem N_X0_init : yX0_init.cls ≠ "java/lang/invoke/MethodHandle" ∧ yX0_init.cls ≠ "java/lang/invoke/VarHandle" ∧ (parseMethodDescriptor yX0_init.desc).map (fun d => d.parameters.length) = some 0 := by decide +kernel
theorem df_X0 : ∀ j, j < 2 → defaultValue (tyX0 j) = vp_V [.null, .int 0] j := by
  intro j hj
  match j, hj with
  | 0, _ => exact rfl
  | 1, _ => exact rfl
  | n + 2, h => exact absurd h (by omega)
set_option maxRecDepth 20000 in
set_option maxHeartbeats 4000000 in
theorem c_X0_init (A : Nat → Nat) (P : List Nat) (g : pM) (a : Nat) (hO : g a = ob 0 [.null, .int 0]) (hP : ∀ j ∈ P, ¬ (a + 1 ≤ j ∧ j < a + 2) ∧ ¬ (0 ≤ j ∧ j < 0)) : PX yX0_init cX0_init 1 (Option.none : Option Jvm.ClassFile.FieldType) rm_X0_init [.ref (A a)] P A g (fun v P' A' g' => v = none ∧ (CO A' g' a []) ∧ Mk a (a + 1) (a + 2) 0 0 P A g P' A' g') := by
  refine px_intro (by decide +kernel) (Nat.le_of_ble_eq_true rfl) (fun K sz C R => ?_)
  have hQ0 : ∀ j ∈ P, j ∈ P ∨ ((a ≤ j ∧ j < a)) := fun j hj => Or.inl hj
  have hB0 : ∀ j, ¬ ((a ≤ j ∧ j < a)) → A j = A j := fun j hj => rfl
  have hF0 : ∀ j, j ≠ a → ¬ ((a ≤ j ∧ j < a)) → g j = g j := fun j hk hj => rfl
  show V K 0 0 P A g [(0, .ref (A a))] 0 []
  refine g_aload_n (pc := 0) C dX0_init_0 0 rfl ?_
  refine g_objInit (pc := 1) C u_28 u_21 u_22 (Nat.le_of_ble_eq_true rfl) (Nat.le_of_ble_eq_true rfl) dX0_init_1 ?_
  refine g_aload_n (pc := 4) C dX0_init_4 0 rfl ?_
  refine g_bipush (pc := 5) C dX0_init_5 (v := nI 64) rfl ?_
  refine k_newi (pc := 7) C (a + 1) (N' := 64) (fun h => (hQ0 _ h).elim (fun q => by have z := hP _ q; omega) (fun q => by omega)) (nI_pos (by omega)) (nI_clamp (by omega)) (show 64 * 4 ≤ 536870912 by omega) ⟨show 0 + 1 ≤ 1 by omega, show 0 + 64 ≤ 64 by omega⟩ dX0_init_7 (fun P1 A2 g3 hq4 ha5 hg6 hx7 hk8 => ?_)
  rw [show A a = A2 a from (ha5 _ (by omega)).symm]
  show V K 1 64 P1 A2 g3 [(0, .ref (A2 a))] 9 [.ref (A2 (a + 1)), .ref (A2 a)]
  have hQ9 : ∀ j ∈ P1, j ∈ P ∨ ((a ≤ j ∧ j < a) ∨ (a + 1 ≤ j ∧ j < a + 1 + 1)) := fun j hj => by
      rcases hq4 j hj with h | h
      · rcases hQ0 j h with q | q
        · exact Or.inl q
        · exact Or.inr (by omega)
      · exact Or.inr (by omega)
  have hB10 : ∀ j, ¬ ((a ≤ j ∧ j < a) ∨ (a + 1 ≤ j ∧ j < a + 1 + 1)) → A2 j = A j := fun j hj => (ha5 j (by omega)).trans (hB0 j (by omega))
  have hF11 : ∀ j, j ≠ a → ¬ ((a ≤ j ∧ j < a) ∨ (a + 1 ≤ j ∧ j < a + 1 + 1)) → g3 j = g j := fun j hk hj => (hg6 j (by omega)).trans (hF0 j hk (by omega))
  have h12 : g3 a = ob 0 [.null, .int 0] := (hg6 _ (by omega)).trans hO
  refine k_putF (pc := 9) C (j := 0) R.2.2.2.2.2 h12 rfl (by decide) (Nat.le_of_ble_eq_true rfl) u_29 rfl rfl (tyX0_ok 0 (by decide)) rfl rfl dX0_init_9 (fun g13 hu14 hO15 => ?_)
  show V K 1 64 P1 A2 g13 [(0, .ref (A2 a))] 12 []
  have hp16 : Fr g3 g13 a (a + 1) := fun j hj => hu14 j (by omega)
  have h17 : g13 (a + 1) = ai 0 64 (fun _ => 0) := (hu14 _ (by omega)).trans hk8
  have hO18 : g13 a = ob 0 [.ref (A2 (a + 1)), .int 0] := hO15
  have hF19 : ∀ j, j ≠ a → ¬ ((a ≤ j ∧ j < a) ∨ (a + 1 ≤ j ∧ j < a + 1 + 1)) → g13 j = g j := fun j hk hj => (hu14 j hk).trans (hF11 j hk hj)
  refine g_aload_n (pc := 12) C dX0_init_12 0 rfl ?_
  refine g_iconst (pc := 13) C dX0_init_13 (v := nI 0) rfl ?_
  refine k_put (pc := 14) C (j := 1) hO18 rfl (by decide) (Nat.le_of_ble_eq_true rfl) u_30 rfl (tyX0_ok 1 (by decide)) rfl rfl dX0_init_14 (fun g20 hu21 hO22 => ?_)
  show V K 1 64 P1 A2 g20 [(0, .ref (A2 a))] 17 []
  have hp23 : Fr g13 g20 a (a + 1) := fun j hj => hu21 j (by omega)
  have h24 : g20 (a + 1) = ai 0 64 (fun _ => 0) := (hu21 _ (by omega)).trans h17
  have hO25 : g20 a = ob 0 [.ref (A2 (a + 1)), .int (nI 0)] := hO22
  have hF26 : ∀ j, j ≠ a → ¬ ((a ≤ j ∧ j < a) ∨ (a + 1 ≤ j ∧ j < a + 1 + 1)) → g20 j = g j := fun j hk hj => (hu21 j hk).trans (hF19 j hk hj)
  exact g_vret (pc := 17) C R ⟨rfl, ⟨Nat.zero_le _, fun x hx => absurd hx List.not_mem_nil, hO25, _, h24, fun i hi => absurd hi (Nat.not_lt_zero _)⟩, fun j hj => by
      rcases hQ9 j hj with q | q
      · exact Or.inl q
      · exact Or.inr (by omega), fun j h1 h2 => hB10 j (by omega), fun j h0 h1 h2 => hF26 j h0 (by omega)⟩ (show 1 ≤ 1 by omega) (show 64 ≤ 64 by omega) dX0_init_17
abbrev rm_X7_init : Room := { frames := 1, cells := 0, slots := 0, locals := 20 }
theorem N_X7_init : yX7_init.cls ≠ "java/lang/invoke/MethodHandle" ∧ yX7_init.cls ≠ "java/lang/invoke/VarHandle" ∧ (parseMethodDescriptor yX7_init.desc).map (fun d => d.parameters.length) = some 1 := by decide +kernel
theorem df_X7 : ∀ j, j < 1 → defaultValue (tyX7 j) = vp_V [.null] j := by
  intro j hj
  match j, hj with
  | 0, _ => exact rfl
  | n + 1, h => exact absurd h (by omega)
set_option maxRecDepth 20000 in
set_option maxHeartbeats 4000000 in
theorem c_X7_init (A : Nat → Nat) (P : List Nat) (g : pM) (a w : Nat) (hO : g a = ob 7 [.null]) (hP : ∀ j ∈ P, ¬ (0 ≤ j ∧ j < 0) ∧ ¬ (0 ≤ j ∧ j < 0)) : PX yX7_init cX7_init 2 (Option.none : Option Jvm.ClassFile.FieldType) rm_X7_init [.ref (A a), .ref (A w)] P A g (fun v P' A' g' => v = none ∧ (g' a = ob 7 [.ref (A' w)]) ∧ Mk a 0 0 0 0 P A g P' A' g') := by
  refine px_intro (by decide +kernel) (Nat.le_of_ble_eq_true rfl) (fun K sz C R => ?_)
  have hQ0 : ∀ j ∈ P, j ∈ P ∨ ((a ≤ j ∧ j < a)) := fun j hj => Or.inl hj
  have hB0 : ∀ j, ¬ ((a ≤ j ∧ j < a)) → A j = A j := fun j hj => rfl
  have hF0 : ∀ j, j ≠ a → ¬ ((a ≤ j ∧ j < a)) → g j = g j := fun j hk hj => rfl
  show V K 0 0 P A g [(0, .ref (A a)), (1, .ref (A w))] 0 []
  refine g_aload_n (pc := 0) C dX7_init_0 0 rfl ?_
  refine g_objInit (pc := 1) C u_318 u_21 u_22 (Nat.le_of_ble_eq_true rfl) (Nat.le_of_ble_eq_true rfl) dX7_init_1 ?_
  refine g_aload_n (pc := 4) C dX7_init_4 0 rfl ?_
  refine g_aload_n (pc := 5) C dX7_init_5 1 rfl ?_
  refine k_putF (pc := 6) C (j := 0) R.2.2.2.2.2 hO rfl (by decide) (Nat.le_of_ble_eq_true rfl) u_319 rfl rfl (tyX7_ok 0 (by decide)) rfl rfl dX7_init_6 (fun g1 hu2 hO3 => ?_)
  show V K 0 0 P A g1 [(0, .ref (A a)), (1, .ref (A w))] 9 []
  have hp4 : Fr g g1 a (a + 1) := fun j hj => hu2 j (by omega)
  have hO5 : g1 a = ob 7 [.ref (A w)] := hO3
  have hF6 : ∀ j, j ≠ a → ¬ ((a ≤ j ∧ j < a)) → g1 j = g j := fun j hk hj => (hu2 j hk).trans (hF0 j hk hj)
  exact g_vret (pc := 9) C R ⟨rfl, hO5, fun j hj => by
      rcases hQ0 j hj with q | q
      · exact Or.inl q
      · exact Or.inr (by omega), fun j h1 h2 => hB0 j (by omega), fun j h0 h1 h2 => hF6 j h0 (by omega)⟩ (show 0 ≤ 0 by omega) (show 0 ≤ 0 by omega) dX7_init_9
/-- the views' own object and its two lists -/
def VV (A : Nat → Nat) (g : pM) (w : Nat) : Prop := g (w + 15000) = ob 8 [.ref (A w), .ref (A (w + 1)), .ref (A (w + 15001)), .ref (A (w + 15003))] ∧ NLN A g (w + 15001) 8 [] ∧ NLN A g (w + 15003) 5 []
abbrev rm_X8_init : Room := { frames := 2, cells := 4, slots := 17, locals := 42 }
theorem N_X8_init : yX8_init.cls ≠ "java/lang/invoke/MethodHandle" ∧ yX8_init.cls ≠ "java/lang/invoke/VarHandle" ∧ (parseMethodDescriptor yX8_init.desc).map (fun d => d.parameters.length) = some 1 := by decide +kernel
theorem df_X8 : ∀ j, j < 4 → defaultValue (tyX8 j) = vp_V [.null, .null, .null, .null] j := by
  intro j hj
  match j, hj with
  | 0, _ => exact rfl
  | 1, _ => exact rfl
  | 2, _ => exact rfl
  | 3, _ => exact rfl
  | n + 4, h => exact absurd h (by omega)
set_option maxRecDepth 20000 in
set_option maxHeartbeats 4000000 in
theorem c_X8_init (A : Nat → Nat) (P : List Nat) (g : pM) (w : Nat) {x0 : Value} {y0 : List Value} (hW : g w = ob 9 (x0 :: .ref (A (w + 1)) :: y0)) (hO : g (w + 15000) = ob 8 [.null, .null, .null, .null]) (hP : ∀ j ∈ P, ¬ (w + 15000 + 1 ≤ j ∧ j < w + 15000 + 5) ∧ ¬ (0 ≤ j ∧ j < 0)) : PX yX8_init cX8_init 2 (Option.none : Option Jvm.ClassFile.FieldType) rm_X8_init [.ref (A (w + 15000)), .ref (A w)] P A g (fun v P' A' g' => v = none ∧ (VV A' g' w) ∧ Mk (w + 15000) (w + 15000 + 1) (w + 15000 + 5) 0 0 P A g P' A' g') := by
  refine px_intro (by decide +kernel) (Nat.le_of_ble_eq_true rfl) (fun K sz C R => ?_)
  have hQ0 : ∀ j ∈ P, j ∈ P ∨ ((w + 15000 ≤ j ∧ j < w + 15000)) := fun j hj => Or.inl hj
  have hB0 : ∀ j, ¬ ((w + 15000 ≤ j ∧ j < w + 15000)) → A j = A j := fun j hj => rfl
  have hF0 : ∀ j, j ≠ w + 15000 → ¬ ((w + 15000 ≤ j ∧ j < w + 15000)) → g j = g j := fun j hk hj => rfl
  show V K 0 0 P A g [(0, .ref (A (w + 15000))), (1, .ref (A w))] 0 []
  refine g_aload_n (pc := 0) C dX8_init_0 0 rfl ?_
  refine g_objInit (pc := 1) C u_297 u_21 u_22 (Nat.le_of_ble_eq_true rfl) (Nat.le_of_ble_eq_true rfl) dX8_init_1 ?_
  refine g_aload_n (pc := 4) C dX8_init_4 0 rfl ?_
  refine k_new (pc := 5) C (w + 15001) (ci := 4) (fs := [.null, .int 0]) (q := (RX4, TX4, 2)) (ty := tyX4) (fun h => (hQ0 _ h).elim (fun q => by have z := hP _ q; omega) (fun q => by omega)) rfl u_298 u_85 u_6 tyX4_ok df_X4 ⟨show 0 + 1 ≤ 4 by omega, show 0 + 2 ≤ 17 by omega⟩ dX8_init_5 (fun P1 A2 g3 hq4 ha5 hg6 hx7 hk8 => ?_)
  rw [show A (w + 15000) = A2 (w + 15000) from (ha5 _ (by omega)).symm, show A w = A2 w from (ha5 _ (by omega)).symm]
  show V K 1 2 P1 A2 g3 [(0, .ref (A2 (w + 15000))), (1, .ref (A2 w))] 8 [.ref (A2 (w + 15001)), .ref (A2 (w + 15000))]
  have hQ9 : ∀ j ∈ P1, j ∈ P ∨ ((w + 15000 ≤ j ∧ j < w + 15000) ∨ (w + 15001 ≤ j ∧ j < w + 15001 + 1)) := fun j hj => by
      rcases hq4 j hj with h | h
      · rcases hQ0 j h with q | q
        · exact Or.inl q
        · exact Or.inr (by omega)
      · exact Or.inr (by omega)
  have hB10 : ∀ j, ¬ ((w + 15000 ≤ j ∧ j < w + 15000) ∨ (w + 15001 ≤ j ∧ j < w + 15001 + 1)) → A2 j = A j := fun j hj => (ha5 j (by omega)).trans (hB0 j (by omega))
  have hF11 : ∀ j, j ≠ w + 15000 → ¬ ((w + 15000 ≤ j ∧ j < w + 15000) ∨ (w + 15001 ≤ j ∧ j < w + 15001 + 1)) → g3 j = g j := fun j hk hj => (hg6 j (by omega)).trans (hF0 j hk (by omega))
  have h12 : g3 w = ob 9 (x0 :: .ref (A2 (w + 1)) :: y0) := by
      have z := (hg6 _ (by omega)).trans hW
      rw [show A (w + 1) = A2 (w + 1) from (ha5 _ (by omega)).symm] at z
      exact z
  have h13 : g3 (w + 15000) = ob 8 [.null, .null, .null, .null] := (hg6 _ (by omega)).trans hO
  refine g_dup (pc := 8) C dX8_init_8 rfl ?_
  refine g_bipush (pc := 9) C dX8_init_9 (v := nI 8) rfl ?_
  refine v_p0 fun h014 => ?_
  have hf15 : ∀ j ∈ P1, ¬ (w + 15001 + 1 ≤ j ∧ j < w + 15001 + 2) ∧ ¬ (0 ≤ j ∧ j < 0) := fun j hj => by
      rcases hQ9 j hj with q | q
      · have z := hP j q
        omega
      · omega
  refine g_callI (pc := 11) C (As := [.int (nI 8)]) (rest := [.ref (A2 (w + 15001)), .ref (A2 (w + 15000))]) (b := (w + 15001)) (c_X4_init A2 P1 g3 (w + 15001) 8 (by omega) hk8 hf15) u_87 u_6 u_88 u_299 rfl N_X4_init ⟨Nat.le_of_ble_eq_true rfl, Nat.le_of_ble_eq_true rfl⟩ ⟨show 1 + 1 ≤ 4 by omega, show 2 + 8 ≤ 17 by omega⟩ (Nat.le_of_ble_eq_true rfl) rfl dX8_init_11 ?_
  rintro _ P16 A17 g18 ⟨rfl, hc19, hq20, ha21, hg22⟩
  have hx23 : Ext A2 (va_up g3 (w + 15001) p0) A17 g18 := Mk.ext ⟨hq20, ha21, hg22⟩ h014 hf15
  have hu24 : Fr g3 (va_up g3 (w + 15001) p0) (w + 15001) (w + 15001 + 1) := Fr.up (by omega) (by omega)
  rw [show A2 (w + 15000) = A17 (w + 15000) from (ha21 _ (by omega) (by omega)).symm, show A2 w = A17 w from (ha21 _ (by omega) (by omega)).symm, show A2 (w + 15001) = A17 (w + 15001) from (ha21 _ (by omega) (by omega)).symm]
  show V K 2 10 P16 A17 g18 [(0, .ref (A17 (w + 15000))), (1, .ref (A17 w))] 14 [.ref (A17 (w + 15001)), .ref (A17 (w + 15000))]
  have hQ25 : ∀ j ∈ P16, j ∈ P ∨ ((w + 15000 ≤ j ∧ j < w + 15000) ∨ (w + 15001 ≤ j ∧ j < w + 15001 + 1) ∨ (w + 15001 + 1 ≤ j ∧ j < w + 15001 + 2)) := fun j hj => by
      rcases hq20 j hj with h | h
      · rcases hQ9 j h with q | q
        · exact Or.inl q
        · exact Or.inr (by omega)
      · exact Or.inr (by omega)
  have hB26 : ∀ j, ¬ ((w + 15000 ≤ j ∧ j < w + 15000) ∨ (w + 15001 ≤ j ∧ j < w + 15001 + 1) ∨ (w + 15001 + 1 ≤ j ∧ j < w + 15001 + 2)) → A17 j = A j := fun j hj => (ha21 j (by omega) (by omega)).trans (hB10 j (by omega))
  have hF27 : ∀ j, j ≠ w + 15000 → ¬ ((w + 15000 ≤ j ∧ j < w + 15000) ∨ (w + 15001 ≤ j ∧ j < w + 15001 + 1) ∨ (w + 15001 + 1 ≤ j ∧ j < w + 15001 + 2)) → g18 j = g j := fun j hk hj => (hg22 j (by omega) (by omega) (by omega)).trans (hF11 j hk (by omega))
  have h28 : g18 w = ob 9 (x0 :: .ref (A17 (w + 1)) :: y0) := by
      have z := (hg22 _ (by omega) (by omega) (by omega)).trans h12
      rw [show A2 (w + 1) = A17 (w + 1) from (ha21 _ (by omega) (by omega)).symm] at z
      exact z
  have h29 : g18 (w + 15000) = ob 8 [.null, .null, .null, .null] := (hg22 _ (by omega) (by omega) (by omega)).trans h13
  refine k_putF (pc := 14) C (j := 2) R.2.2.2.2.2 h29 rfl (by decide) (Nat.le_of_ble_eq_true rfl) u_302 rfl rfl (tyX8_ok 2 (by decide)) rfl rfl dX8_init_14 (fun g30 hu31 hO32 => ?_)
  show V K 2 10 P16 A17 g30 [(0, .ref (A17 (w + 15000))), (1, .ref (A17 w))] 17 []
  have hp33 : Fr g18 g30 (w + 15000) (w + 15000 + 1) := fun j hj => hu31 j (by omega)
  have h34 : g30 w = ob 9 (x0 :: .ref (A17 (w + 1)) :: y0) := (hu31 _ (by omega)).trans h28
  have h35 : NLN A17 g30 (w + 15001) 8 [] := hc19.fr hp33 (by omega)
  have hO36 : g30 (w + 15000) = ob 8 [.null, .null, .ref (A17 (w + 15001)), .null] := hO32
  have hF37 : ∀ j, j ≠ w + 15000 → ¬ ((w + 15000 ≤ j ∧ j < w + 15000) ∨ (w + 15001 ≤ j ∧ j < w + 15001 + 1) ∨ (w + 15001 + 1 ≤ j ∧ j < w + 15001 + 2)) → g30 j = g j := fun j hk hj => (hu31 j hk).trans (hF27 j hk hj)
  refine g_aload_n (pc := 17) C dX8_init_17 0 rfl ?_
  refine k_new (pc := 18) C (w + 15003) (ci := 4) (fs := [.null, .int 0]) (q := (RX4, TX4, 2)) (ty := tyX4) (fun h => (hQ25 _ h).elim (fun q => by have z := hP _ q; omega) (fun q => by omega)) rfl u_298 u_85 u_6 tyX4_ok df_X4 ⟨show 2 + 1 ≤ 4 by omega, show 10 + 2 ≤ 17 by omega⟩ dX8_init_18 (fun P38 A39 g40 hq41 ha42 hg43 hx44 hk45 => ?_)
  rw [show A17 (w + 15000) = A39 (w + 15000) from (ha42 _ (by omega)).symm, show A17 w = A39 w from (ha42 _ (by omega)).symm]
  show V K 3 12 P38 A39 g40 [(0, .ref (A39 (w + 15000))), (1, .ref (A39 w))] 21 [.ref (A39 (w + 15003)), .ref (A39 (w + 15000))]
  have hQ46 : ∀ j ∈ P38, j ∈ P ∨ ((w + 15000 ≤ j ∧ j < w + 15000) ∨ (w + 15001 ≤ j ∧ j < w + 15001 + 1) ∨ (w + 15001 + 1 ≤ j ∧ j < w + 15001 + 2) ∨ (w + 15003 ≤ j ∧ j < w + 15003 + 1)) := fun j hj => by
      rcases hq41 j hj with h | h
      · rcases hQ25 j h with q | q
        · exact Or.inl q
        · exact Or.inr (by omega)
      · exact Or.inr (by omega)
  have hB47 : ∀ j, ¬ ((w + 15000 ≤ j ∧ j < w + 15000) ∨ (w + 15001 ≤ j ∧ j < w + 15001 + 1) ∨ (w + 15001 + 1 ≤ j ∧ j < w + 15001 + 2) ∨ (w + 15003 ≤ j ∧ j < w + 15003 + 1)) → A39 j = A j := fun j hj => (ha42 j (by omega)).trans (hB26 j (by omega))
  have hF48 : ∀ j, j ≠ w + 15000 → ¬ ((w + 15000 ≤ j ∧ j < w + 15000) ∨ (w + 15001 ≤ j ∧ j < w + 15001 + 1) ∨ (w + 15001 + 1 ≤ j ∧ j < w + 15001 + 2) ∨ (w + 15003 ≤ j ∧ j < w + 15003 + 1)) → g40 j = g j := fun j hk hj => (hg43 j (by omega)).trans (hF37 j hk (by omega))
  have h49 : g40 w = ob 9 (x0 :: .ref (A39 (w + 1)) :: y0) := by
      have z := (hg43 _ (by omega)).trans h34
      rw [show A17 (w + 1) = A39 (w + 1) from (ha42 _ (by omega)).symm] at z
      exact z
  have h50 : NLN A39 g40 (w + 15001) 8 [] := h35.xt hx44
  have h51 : g40 (w + 15000) = ob 8 [.null, .null, .ref (A39 (w + 15001)), .null] := by
      have z := (hg43 _ (by omega)).trans hO36
      rw [show A17 (w + 15001) = A39 (w + 15001) from (ha42 _ (by omega)).symm] at z
      exact z
  refine g_dup (pc := 21) C dX8_init_21 rfl ?_
  refine g_iconst (pc := 22) C dX8_init_22 (v := nI 5) rfl ?_
  refine v_p0 fun h052 => ?_
  have hf53 : ∀ j ∈ P38, ¬ (w + 15003 + 1 ≤ j ∧ j < w + 15003 + 2) ∧ ¬ (0 ≤ j ∧ j < 0) := fun j hj => by
      rcases hQ46 j hj with q | q
      · have z := hP j q
        omega
      · omega
  refine g_callI (pc := 23) C (As := [.int (nI 5)]) (rest := [.ref (A39 (w + 15003)), .ref (A39 (w + 15000))]) (b := (w + 15003)) (c_X4_init A39 P38 g40 (w + 15003) 5 (by omega) hk45 hf53) u_87 u_6 u_88 u_299 rfl N_X4_init ⟨Nat.le_of_ble_eq_true rfl, Nat.le_of_ble_eq_true rfl⟩ ⟨show 3 + 1 ≤ 4 by omega, show 12 + 5 ≤ 17 by omega⟩ (Nat.le_of_ble_eq_true rfl) rfl dX8_init_23 ?_
  rintro _ P54 A55 g56 ⟨rfl, hc57, hq58, ha59, hg60⟩
  have hx61 : Ext A39 (va_up g40 (w + 15003) p0) A55 g56 := Mk.ext ⟨hq58, ha59, hg60⟩ h052 hf53
  have hu62 : Fr g40 (va_up g40 (w + 15003) p0) (w + 15003) (w + 15003 + 1) := Fr.up (by omega) (by omega)
  rw [show A39 (w + 15000) = A55 (w + 15000) from (ha59 _ (by omega) (by omega)).symm, show A39 w = A55 w from (ha59 _ (by omega) (by omega)).symm, show A39 (w + 15003) = A55 (w + 15003) from (ha59 _ (by omega) (by omega)).symm]
  show V K 4 17 P54 A55 g56 [(0, .ref (A55 (w + 15000))), (1, .ref (A55 w))] 26 [.ref (A55 (w + 15003)), .ref (A55 (w + 15000))]
  have hQ63 : ∀ j ∈ P54, j ∈ P ∨ ((w + 15000 ≤ j ∧ j < w + 15000) ∨ (w + 15001 ≤ j ∧ j < w + 15001 + 1) ∨ (w + 15001 + 1 ≤ j ∧ j < w + 15001 + 2) ∨ (w + 15003 ≤ j ∧ j < w + 15003 + 1) ∨ (w + 15003 + 1 ≤ j ∧ j < w + 15003 + 2)) := fun j hj => by
      rcases hq58 j hj with h | h
      · rcases hQ46 j h with q | q
        · exact Or.inl q
        · exact Or.inr (by omega)
      · exact Or.inr (by omega)
  have hB64 : ∀ j, ¬ ((w + 15000 ≤ j ∧ j < w + 15000) ∨ (w + 15001 ≤ j ∧ j < w + 15001 + 1) ∨ (w + 15001 + 1 ≤ j ∧ j < w + 15001 + 2) ∨ (w + 15003 ≤ j ∧ j < w + 15003 + 1) ∨ (w + 15003 + 1 ≤ j ∧ j < w + 15003 + 2)) → A55 j = A j := fun j hj => (ha59 j (by omega) (by omega)).trans (hB47 j (by omega))
  have hF65 : ∀ j, j ≠ w + 15000 → ¬ ((w + 15000 ≤ j ∧ j < w + 15000) ∨ (w + 15001 ≤ j ∧ j < w + 15001 + 1) ∨ (w + 15001 + 1 ≤ j ∧ j < w + 15001 + 2) ∨ (w + 15003 ≤ j ∧ j < w + 15003 + 1) ∨ (w + 15003 + 1 ≤ j ∧ j < w + 15003 + 2)) → g56 j = g j := fun j hk hj => (hg60 j (by omega) (by omega) (by omega)).trans (hF48 j hk (by omega))
  have h66 : g56 w = ob 9 (x0 :: .ref (A55 (w + 1)) :: y0) := by
      have z := (hg60 _ (by omega) (by omega) (by omega)).trans h49
      rw [show A39 (w + 1) = A55 (w + 1) from (ha59 _ (by omega) (by omega)).symm] at z
      exact z
  have h67 : NLN A55 g56 (w + 15001) 8 [] := (h50.fr hu62 (by omega)).xt hx61
  have h68 : g56 (w + 15000) = ob 8 [.null, .null, .ref (A55 (w + 15001)), .null] := by
      have z := (hg60 _ (by omega) (by omega) (by omega)).trans h51
      rw [show A39 (w + 15001) = A55 (w + 15001) from (ha59 _ (by omega) (by omega)).symm] at z
      exact z
  refine k_putF (pc := 26) C (j := 3) R.2.2.2.2.2 h68 rfl (by decide) (Nat.le_of_ble_eq_true rfl) u_303 rfl rfl (tyX8_ok 3 (by decide)) rfl rfl dX8_init_26 (fun g69 hu70 hO71 => ?_)
  show V K 4 17 P54 A55 g69 [(0, .ref (A55 (w + 15000))), (1, .ref (A55 w))] 29 []
  have hp72 : Fr g56 g69 (w + 15000) (w + 15000 + 1) := fun j hj => hu70 j (by omega)
  have h73 : g69 w = ob 9 (x0 :: .ref (A55 (w + 1)) :: y0) := (hu70 _ (by omega)).trans h66
  have h74 : NLN A55 g69 (w + 15001) 8 [] := h67.fr hp72 (by omega)
  have h75 : NLN A55 g69 (w + 15003) 5 [] := hc57.fr hp72 (by omega)
  have hO76 : g69 (w + 15000) = ob 8 [.null, .null, .ref (A55 (w + 15001)), .ref (A55 (w + 15003))] := hO71
  have hF77 : ∀ j, j ≠ w + 15000 → ¬ ((w + 15000 ≤ j ∧ j < w + 15000) ∨ (w + 15001 ≤ j ∧ j < w + 15001 + 1) ∨ (w + 15001 + 1 ≤ j ∧ j < w + 15001 + 2) ∨ (w + 15003 ≤ j ∧ j < w + 15003 + 1) ∨ (w + 15003 + 1 ≤ j ∧ j < w + 15003 + 2)) → g69 j = g j := fun j hk hj => (hu70 j hk).trans (hF65 j hk hj)
  refine g_aload_n (pc := 29) C dX8_init_29 0 rfl ?_
  refine g_aload_n (pc := 30) C dX8_init_30 1 rfl ?_
  refine k_putF (pc := 31) C (j := 0) R.2.2.2.2.2 hO76 rfl (by decide) (Nat.le_of_ble_eq_true rfl) u_300 rfl rfl (tyX8_ok 0 (by decide)) rfl rfl dX8_init_31 (fun g78 hu79 hO80 => ?_)
  show V K 4 17 P54 A55 g78 [(0, .ref (A55 (w + 15000))), (1, .ref (A55 w))] 34 []
  have hp81 : Fr g69 g78 (w + 15000) (w + 15000 + 1) := fun j hj => hu79 j (by omega)
  have h82 : g78 w = ob 9 (x0 :: .ref (A55 (w + 1)) :: y0) := (hu79 _ (by omega)).trans h73
  have h83 : NLN A55 g78 (w + 15001) 8 [] := h74.fr hp81 (by omega)
  have h84 : NLN A55 g78 (w + 15003) 5 [] := h75.fr hp81 (by omega)
  have hO85 : g78 (w + 15000) = ob 8 [.ref (A55 w), .null, .ref (A55 (w + 15001)), .ref (A55 (w + 15003))] := hO80
  have hF86 : ∀ j, j ≠ w + 15000 → ¬ ((w + 15000 ≤ j ∧ j < w + 15000) ∨ (w + 15001 ≤ j ∧ j < w + 15001 + 1) ∨ (w + 15001 + 1 ≤ j ∧ j < w + 15001 + 2) ∨ (w + 15003 ≤ j ∧ j < w + 15003 + 1) ∨ (w + 15003 + 1 ≤ j ∧ j < w + 15003 + 2)) → g78 j = g j := fun j hk hj => (hu79 j hk).trans (hF77 j hk hj)
  refine g_aload_n (pc := 34) C dX8_init_34 0 rfl ?_
  refine g_aload_n (pc := 35) C dX8_init_35 1 rfl ?_
  refine g_get (pc := 36) C (j := 1) h82 rfl rfl (by decide) u_248 dX8_init_36 ?_
  show V K 4 17 P54 A55 g78 [(0, .ref (A55 (w + 15000))), (1, .ref (A55 w))] 39 [.ref (A55 (w + 1)), .ref (A55 (w + 15000))]
  refine k_putF (pc := 39) C (j := 1) R.2.2.2.2.2 hO85 rfl (by decide) (Nat.le_of_ble_eq_true rfl) u_301 rfl rfl (tyX8_ok 1 (by decide)) rfl rfl dX8_init_39 (fun g87 hu88 hO89 => ?_)
  show V K 4 17 P54 A55 g87 [(0, .ref (A55 (w + 15000))), (1, .ref (A55 w))] 42 []
  have hp90 : Fr g78 g87 (w + 15000) (w + 15000 + 1) := fun j hj => hu88 j (by omega)
  have h91 : g87 w = ob 9 (x0 :: .ref (A55 (w + 1)) :: y0) := (hu88 _ (by omega)).trans h82
  have h92 : NLN A55 g87 (w + 15001) 8 [] := h83.fr hp90 (by omega)
  have h93 : NLN A55 g87 (w + 15003) 5 [] := h84.fr hp90 (by omega)
  have hO94 : g87 (w + 15000) = ob 8 [.ref (A55 w), .ref (A55 (w + 1)), .ref (A55 (w + 15001)), .ref (A55 (w + 15003))] := hO89
  have hF95 : ∀ j, j ≠ w + 15000 → ¬ ((w + 15000 ≤ j ∧ j < w + 15000) ∨ (w + 15001 ≤ j ∧ j < w + 15001 + 1) ∨ (w + 15001 + 1 ≤ j ∧ j < w + 15001 + 2) ∨ (w + 15003 ≤ j ∧ j < w + 15003 + 1) ∨ (w + 15003 + 1 ≤ j ∧ j < w + 15003 + 2)) → g87 j = g j := fun j hk hj => (hu88 j hk).trans (hF86 j hk hj)
  exact g_vret (pc := 42) C R ⟨rfl, ⟨hO94, h92, h93⟩, fun j hj => by
      rcases hQ63 j hj with q | q
      · exact Or.inl q
      · exact Or.inr (by omega), fun j h1 h2 => hB64 j (by omega), fun j h0 h1 h2 => hF95 j h0 (by omega)⟩ (show 4 ≤ 4 by omega) (show 17 ≤ 17 by omega) dX8_init_42
theorem rz_0 : RZ (fun _ => 0) sg0 :=
  ⟨fun r hr => absurd hr (Nat.not_lt_zero _), fun r _ _ => ⟨rfl, rfl, rfl, rfl, fun t ht => ⟨rfl, rfl⟩⟩, ⟨Nat.zero_le _, fun i t h => by cases h⟩, fun k hk => rfl, ⟨Nat.zero_le _, Nat.zero_le _, rfl, rfl⟩, ⟨rfl, rfl⟩, rfl, rfl⟩
abbrev rm_X11_init : Room := { frames := 1, cells := 8, slots := 31635, locals := 20 }
theorem N_X11_init : yX11_init.cls ≠ "java/lang/invoke/MethodHandle" ∧ yX11_init.cls ≠ "java/lang/invoke/VarHandle" ∧ (parseMethodDescriptor yX11_init.desc).map (fun d => d.parameters.length) = some 0 := by decide +kernel
theorem df_X11 : ∀ j, j < 16 → defaultValue (tyX11 j) = vp_V [.null, .int 0, .int 0, .int 0, .int 0, .int 0, .null, .int 0, .null, .int 0, .null, .null, .int 0, .null, .null, .null] j := by
  intro j hj
  match j, hj with
  | 0, _ => exact rfl
  | 1, _ => exact rfl
  | 2, _ => exact rfl
  | 3, _ => exact rfl
  | 4, _ => exact rfl
  | 5, _ => exact rfl
  | 6, _ => exact rfl
  | 7, _ => exact rfl
  | 8, _ => exact rfl
  | 9, _ => exact rfl
  | 10, _ => exact rfl
  | 11, _ => exact rfl
  | 12, _ => exact rfl
  | 13, _ => exact rfl
  | 14, _ => exact rfl
  | 15, _ => exact rfl
  | n + 16, h => exact absurd h (by omega)
set_option maxRecDepth 20000 in
set_option maxHeartbeats 4000000 in
theorem c_X11_init (A : Nat → Nat) (P : List Nat) (g : pM) (m : Nat) (hO : g m = ob 11 [.null, .int 0, .int 0, .int 0, .int 0, .int 0, .null, .int 0, .null, .int 0, .null, .null, .int 0, .null, .null, .null]) (hP : ∀ j ∈ P, ¬ (m + 1 ≤ j ∧ j < m + 9) ∧ ¬ (0 ≤ j ∧ j < 0)) : PX yX11_init cX11_init 1 (Option.none : Option Jvm.ClassFile.FieldType) rm_X11_init [.ref (A m)] P A g (fun v P' A' g' => v = none ∧ (MM A' g' m [] sg0 ∧ KP g' m (fun _ => none)) ∧ Mk m (m + 1) (m + 9) 0 0 P A g P' A' g') := by
  refine px_intro (by decide +kernel) (Nat.le_of_ble_eq_true rfl) (fun K sz C R => ?_)
  have hQ0 : ∀ j ∈ P, j ∈ P ∨ ((m ≤ j ∧ j < m)) := fun j hj => Or.inl hj
  have hB0 : ∀ j, ¬ ((m ≤ j ∧ j < m)) → A j = A j := fun j hj => rfl
  have hF0 : ∀ j, j ≠ m → ¬ ((m ≤ j ∧ j < m)) → g j = g j := fun j hk hj => rfl
  show V K 0 0 P A g [(0, .ref (A m))] 0 []
  refine g_aload_n (pc := 0) C dX11_init_0 0 rfl ?_
  refine g_objInit (pc := 1) C u_851 u_21 u_22 (Nat.le_of_ble_eq_true rfl) (Nat.le_of_ble_eq_true rfl) dX11_init_1 ?_
  refine g_aload_n (pc := 4) C dX11_init_4 0 rfl ?_
  refine g_sipush (pc := 5) C dX11_init_5 (v := nI 10511) rfl ?_
  refine k_newi (pc := 8) C (m + 1) (N' := 10511) (fun h => (hQ0 _ h).elim (fun q => by have z := hP _ q; omega) (fun q => by omega)) (nI_pos (by omega)) (nI_clamp (by omega)) (show 10511 * 4 ≤ 536870912 by omega) ⟨show 0 + 1 ≤ 8 by omega, show 0 + 10511 ≤ 31635 by omega⟩ dX11_init_8 (fun P1 A2 g3 hq4 ha5 hg6 hx7 hk8 => ?_)
  rw [show A m = A2 m from (ha5 _ (by omega)).symm]
  show V K 1 10511 P1 A2 g3 [(0, .ref (A2 m))] 10 [.ref (A2 (m + 1)), .ref (A2 m)]
  have hQ9 : ∀ j ∈ P1, j ∈ P ∨ ((m ≤ j ∧ j < m) ∨ (m + 1 ≤ j ∧ j < m + 1 + 1)) := fun j hj => by
      rcases hq4 j hj with h | h
      · rcases hQ0 j h with q | q
        · exact Or.inl q
        · exact Or.inr (by omega)
      · exact Or.inr (by omega)
  have hB10 : ∀ j, ¬ ((m ≤ j ∧ j < m) ∨ (m + 1 ≤ j ∧ j < m + 1 + 1)) → A2 j = A j := fun j hj => (ha5 j (by omega)).trans (hB0 j (by omega))
  have hF11 : ∀ j, j ≠ m → ¬ ((m ≤ j ∧ j < m) ∨ (m + 1 ≤ j ∧ j < m + 1 + 1)) → g3 j = g j := fun j hk hj => (hg6 j (by omega)).trans (hF0 j hk (by omega))
  have h12 : g3 m = ob 11 [.null, .int 0, .int 0, .int 0, .int 0, .int 0, .null, .int 0, .null, .int 0, .null, .null, .int 0, .null, .null, .null] := (hg6 _ (by omega)).trans hO
  refine k_putF (pc := 10) C (j := 0) R.2.2.2.2.2 h12 rfl (by decide) (Nat.le_of_ble_eq_true rfl) u_852 rfl rfl (tyX11_ok 0 (by decide)) rfl rfl dX11_init_10 (fun g13 hu14 hO15 => ?_)
  show V K 1 10511 P1 A2 g13 [(0, .ref (A2 m))] 13 []
  have hp16 : Fr g3 g13 m (m + 1) := fun j hj => hu14 j (by omega)
  have h17 : g13 (m + 1) = ai 0 10511 (fun _ => 0) := (hu14 _ (by omega)).trans hk8
  have hO18 : g13 m = ob 11 [.ref (A2 (m + 1)), .int 0, .int 0, .int 0, .int 0, .int 0, .null, .int 0, .null, .int 0, .null, .null, .int 0, .null, .null, .null] := hO15
  have hF19 : ∀ j, j ≠ m → ¬ ((m ≤ j ∧ j < m) ∨ (m + 1 ≤ j ∧ j < m + 1 + 1)) → g13 j = g j := fun j hk hj => (hu14 j hk).trans (hF11 j hk hj)
  refine g_aload_n (pc := 13) C dX11_init_13 0 rfl ?_
  refine g_iconst (pc := 14) C dX11_init_14 (v := nI 3) rfl ?_
  refine k_put (pc := 15) C (j := 1) hO18 rfl (by decide) (Nat.le_of_ble_eq_true rfl) u_853 rfl (tyX11_ok 1 (by decide)) rfl rfl dX11_init_15 (fun g20 hu21 hO22 => ?_)
  show V K 1 10511 P1 A2 g20 [(0, .ref (A2 m))] 18 []
  have hp23 : Fr g13 g20 m (m + 1) := fun j hj => hu21 j (by omega)
  have h24 : g20 (m + 1) = ai 0 10511 (fun _ => 0) := (hu21 _ (by omega)).trans h17
  have hO25 : g20 m = ob 11 [.ref (A2 (m + 1)), .int (nI 3), .int 0, .int 0, .int 0, .int 0, .null, .int 0, .null, .int 0, .null, .null, .int 0, .null, .null, .null] := hO22
  have hF26 : ∀ j, j ≠ m → ¬ ((m ≤ j ∧ j < m) ∨ (m + 1 ≤ j ∧ j < m + 1 + 1)) → g20 j = g j := fun j hk hj => (hu21 j hk).trans (hF19 j hk hj)
  refine g_aload_n (pc := 18) C dX11_init_18 0 rfl ?_
  refine g_iconst (pc := 19) C dX11_init_19 (v := nI 5) rfl ?_
  refine k_put (pc := 20) C (j := 2) hO25 rfl (by decide) (Nat.le_of_ble_eq_true rfl) u_854 rfl (tyX11_ok 2 (by decide)) rfl rfl dX11_init_20 (fun g27 hu28 hO29 => ?_)
  show V K 1 10511 P1 A2 g27 [(0, .ref (A2 m))] 23 []
  have hp30 : Fr g20 g27 m (m + 1) := fun j hj => hu28 j (by omega)
  have h31 : g27 (m + 1) = ai 0 10511 (fun _ => 0) := (hu28 _ (by omega)).trans h24
  have hO32 : g27 m = ob 11 [.ref (A2 (m + 1)), .int (nI 3), .int (nI 5), .int 0, .int 0, .int 0, .null, .int 0, .null, .int 0, .null, .null, .int 0, .null, .null, .null] := hO29
  have hF33 : ∀ j, j ≠ m → ¬ ((m ≤ j ∧ j < m) ∨ (m + 1 ≤ j ∧ j < m + 1 + 1)) → g27 j = g j := fun j hk hj => (hu28 j hk).trans (hF26 j hk hj)
  refine g_aload_n (pc := 23) C dX11_init_23 0 rfl ?_
  refine g_iconst (pc := 24) C dX11_init_24 (v := nI 4) rfl ?_
  refine k_put (pc := 25) C (j := 3) hO32 rfl (by decide) (Nat.le_of_ble_eq_true rfl) u_855 rfl (tyX11_ok 3 (by decide)) rfl rfl dX11_init_25 (fun g34 hu35 hO36 => ?_)
  show V K 1 10511 P1 A2 g34 [(0, .ref (A2 m))] 28 []
  have hp37 : Fr g27 g34 m (m + 1) := fun j hj => hu35 j (by omega)
  have h38 : g34 (m + 1) = ai 0 10511 (fun _ => 0) := (hu35 _ (by omega)).trans h31
  have hO39 : g34 m = ob 11 [.ref (A2 (m + 1)), .int (nI 3), .int (nI 5), .int (nI 4), .int 0, .int 0, .null, .int 0, .null, .int 0, .null, .null, .int 0, .null, .null, .null] := hO36
  have hF40 : ∀ j, j ≠ m → ¬ ((m ≤ j ∧ j < m) ∨ (m + 1 ≤ j ∧ j < m + 1 + 1)) → g34 j = g j := fun j hk hj => (hu35 j hk).trans (hF33 j hk hj)
  refine g_aload_n (pc := 28) C dX11_init_28 0 rfl ?_
  refine g_iconst (pc := 29) C dX11_init_29 (v := nI 2) rfl ?_
  refine k_put (pc := 30) C (j := 4) hO39 rfl (by decide) (Nat.le_of_ble_eq_true rfl) u_856 rfl (tyX11_ok 4 (by decide)) rfl rfl dX11_init_30 (fun g41 hu42 hO43 => ?_)
  show V K 1 10511 P1 A2 g41 [(0, .ref (A2 m))] 33 []
  have hp44 : Fr g34 g41 m (m + 1) := fun j hj => hu42 j (by omega)
  have h45 : g41 (m + 1) = ai 0 10511 (fun _ => 0) := (hu42 _ (by omega)).trans h38
  have hO46 : g41 m = ob 11 [.ref (A2 (m + 1)), .int (nI 3), .int (nI 5), .int (nI 4), .int (nI 2), .int 0, .null, .int 0, .null, .int 0, .null, .null, .int 0, .null, .null, .null] := hO43
  have hF47 : ∀ j, j ≠ m → ¬ ((m ≤ j ∧ j < m) ∨ (m + 1 ≤ j ∧ j < m + 1 + 1)) → g41 j = g j := fun j hk hj => (hu42 j hk).trans (hF40 j hk hj)
  refine g_aload_n (pc := 33) C dX11_init_33 0 rfl ?_
  refine g_iconst (pc := 34) C dX11_init_34 (v := nI 4) rfl ?_
  refine k_put (pc := 35) C (j := 5) hO46 rfl (by decide) (Nat.le_of_ble_eq_true rfl) u_857 rfl (tyX11_ok 5 (by decide)) rfl rfl dX11_init_35 (fun g48 hu49 hO50 => ?_)
  show V K 1 10511 P1 A2 g48 [(0, .ref (A2 m))] 38 []
  have hp51 : Fr g41 g48 m (m + 1) := fun j hj => hu49 j (by omega)
  have h52 : g48 (m + 1) = ai 0 10511 (fun _ => 0) := (hu49 _ (by omega)).trans h45
  have hO53 : g48 m = ob 11 [.ref (A2 (m + 1)), .int (nI 3), .int (nI 5), .int (nI 4), .int (nI 2), .int (nI 4), .null, .int 0, .null, .int 0, .null, .null, .int 0, .null, .null, .null] := hO50
  have hF54 : ∀ j, j ≠ m → ¬ ((m ≤ j ∧ j < m) ∨ (m + 1 ≤ j ∧ j < m + 1 + 1)) → g48 j = g j := fun j hk hj => (hu49 j hk).trans (hF47 j hk hj)
  refine g_aload_n (pc := 38) C dX11_init_38 0 rfl ?_
  refine g_bipush (pc := 39) C dX11_init_39 (v := nI 64) rfl ?_
  refine k_newi (pc := 41) C (m + 2) (N' := 64) (fun h => (hQ9 _ h).elim (fun q => by have z := hP _ q; omega) (fun q => by omega)) (nI_pos (by omega)) (nI_clamp (by omega)) (show 64 * 4 ≤ 536870912 by omega) ⟨show 1 + 1 ≤ 8 by omega, show 10511 + 64 ≤ 31635 by omega⟩ dX11_init_41 (fun P55 A56 g57 hq58 ha59 hg60 hx61 hk62 => ?_)
  rw [show A2 m = A56 m from (ha59 _ (by omega)).symm]
  show V K 2 10575 P55 A56 g57 [(0, .ref (A56 m))] 43 [.ref (A56 (m + 2)), .ref (A56 m)]
  have hQ63 : ∀ j ∈ P55, j ∈ P ∨ ((m ≤ j ∧ j < m) ∨ (m + 1 ≤ j ∧ j < m + 1 + 1) ∨ (m + 2 ≤ j ∧ j < m + 2 + 1)) := fun j hj => by
      rcases hq58 j hj with h | h
      · rcases hQ9 j h with q | q
        · exact Or.inl q
        · exact Or.inr (by omega)
      · exact Or.inr (by omega)
  have hB64 : ∀ j, ¬ ((m ≤ j ∧ j < m) ∨ (m + 1 ≤ j ∧ j < m + 1 + 1) ∨ (m + 2 ≤ j ∧ j < m + 2 + 1)) → A56 j = A j := fun j hj => (ha59 j (by omega)).trans (hB10 j (by omega))
  have hF65 : ∀ j, j ≠ m → ¬ ((m ≤ j ∧ j < m) ∨ (m + 1 ≤ j ∧ j < m + 1 + 1) ∨ (m + 2 ≤ j ∧ j < m + 2 + 1)) → g57 j = g j := fun j hk hj => (hg60 j (by omega)).trans (hF54 j hk (by omega))
  have h66 : g57 (m + 1) = ai 0 10511 (fun _ => 0) := hx61.at h52 p_nil
  have h67 : g57 m = ob 11 [.ref (A56 (m + 1)), .int (nI 3), .int (nI 5), .int (nI 4), .int (nI 2), .int (nI 4), .null, .int 0, .null, .int 0, .null, .null, .int 0, .null, .null, .null] := by
      have z := (hg60 _ (by omega)).trans hO53
      rw [show A2 (m + 1) = A56 (m + 1) from (ha59 _ (by omega)).symm] at z
      exact z
  refine k_putF (pc := 43) C (j := 6) R.2.2.2.2.2 h67 rfl (by decide) (Nat.le_of_ble_eq_true rfl) u_858 rfl rfl (tyX11_ok 6 (by decide)) rfl rfl dX11_init_43 (fun g68 hu69 hO70 => ?_)
  show V K 2 10575 P55 A56 g68 [(0, .ref (A56 m))] 46 []
  have hp71 : Fr g57 g68 m (m + 1) := fun j hj => hu69 j (by omega)
  have h72 : g68 (m + 1) = ai 0 10511 (fun _ => 0) := (hu69 _ (by omega)).trans h66
  have h73 : g68 (m + 2) = ai 0 64 (fun _ => 0) := (hu69 _ (by omega)).trans hk62
  have hO74 : g68 m = ob 11 [.ref (A56 (m + 1)), .int (nI 3), .int (nI 5), .int (nI 4), .int (nI 2), .int (nI 4), .ref (A56 (m + 2)), .int 0, .null, .int 0, .null, .null, .int 0, .null, .null, .null] := hO70
  have hF75 : ∀ j, j ≠ m → ¬ ((m ≤ j ∧ j < m) ∨ (m + 1 ≤ j ∧ j < m + 1 + 1) ∨ (m + 2 ≤ j ∧ j < m + 2 + 1)) → g68 j = g j := fun j hk hj => (hu69 j hk).trans (hF65 j hk hj)
  refine g_aload_n (pc := 46) C dX11_init_46 0 rfl ?_
  refine g_iconst (pc := 47) C dX11_init_47 (v := nI 5) rfl ?_
  refine k_newi (pc := 48) C (m + 3) (N' := 5) (fun h => (hQ63 _ h).elim (fun q => by have z := hP _ q; omega) (fun q => by omega)) (nI_pos (by omega)) (nI_clamp (by omega)) (show 5 * 4 ≤ 536870912 by omega) ⟨show 2 + 1 ≤ 8 by omega, show 10575 + 5 ≤ 31635 by omega⟩ dX11_init_48 (fun P76 A77 g78 hq79 ha80 hg81 hx82 hk83 => ?_)
  rw [show A56 m = A77 m from (ha80 _ (by omega)).symm]
  show V K 3 10580 P76 A77 g78 [(0, .ref (A77 m))] 50 [.ref (A77 (m + 3)), .ref (A77 m)]
  have hQ84 : ∀ j ∈ P76, j ∈ P ∨ ((m ≤ j ∧ j < m) ∨ (m + 1 ≤ j ∧ j < m + 1 + 1) ∨ (m + 2 ≤ j ∧ j < m + 2 + 1) ∨ (m + 3 ≤ j ∧ j < m + 3 + 1)) := fun j hj => by
      rcases hq79 j hj with h | h
      · rcases hQ63 j h with q | q
        · exact Or.inl q
        · exact Or.inr (by omega)
      · exact Or.inr (by omega)
  have hB85 : ∀ j, ¬ ((m ≤ j ∧ j < m) ∨ (m + 1 ≤ j ∧ j < m + 1 + 1) ∨ (m + 2 ≤ j ∧ j < m + 2 + 1) ∨ (m + 3 ≤ j ∧ j < m + 3 + 1)) → A77 j = A j := fun j hj => (ha80 j (by omega)).trans (hB64 j (by omega))
  have hF86 : ∀ j, j ≠ m → ¬ ((m ≤ j ∧ j < m) ∨ (m + 1 ≤ j ∧ j < m + 1 + 1) ∨ (m + 2 ≤ j ∧ j < m + 2 + 1) ∨ (m + 3 ≤ j ∧ j < m + 3 + 1)) → g78 j = g j := fun j hk hj => (hg81 j (by omega)).trans (hF75 j hk (by omega))
  have h87 : g78 (m + 1) = ai 0 10511 (fun _ => 0) := hx82.at h72 p_nil
  have h88 : g78 (m + 2) = ai 0 64 (fun _ => 0) := hx82.at h73 p_nil
  have h89 : g78 m = ob 11 [.ref (A77 (m + 1)), .int (nI 3), .int (nI 5), .int (nI 4), .int (nI 2), .int (nI 4), .ref (A77 (m + 2)), .int 0, .null, .int 0, .null, .null, .int 0, .null, .null, .null] := by
      have z := (hg81 _ (by omega)).trans hO74
      rw [show A56 (m + 1) = A77 (m + 1) from (ha80 _ (by omega)).symm, show A56 (m + 2) = A77 (m + 2) from (ha80 _ (by omega)).symm] at z
      exact z
  refine k_putF (pc := 50) C (j := 8) R.2.2.2.2.2 h89 rfl (by decide) (Nat.le_of_ble_eq_true rfl) u_860 rfl rfl (tyX11_ok 8 (by decide)) rfl rfl dX11_init_50 (fun g90 hu91 hO92 => ?_)
  show V K 3 10580 P76 A77 g90 [(0, .ref (A77 m))] 53 []
  have hp93 : Fr g78 g90 m (m + 1) := fun j hj => hu91 j (by omega)
  have h94 : g90 (m + 1) = ai 0 10511 (fun _ => 0) := (hu91 _ (by omega)).trans h87
  have h95 : g90 (m + 2) = ai 0 64 (fun _ => 0) := (hu91 _ (by omega)).trans h88
  have h96 : g90 (m + 3) = ai 0 5 (fun _ => 0) := (hu91 _ (by omega)).trans hk83
  have hO97 : g90 m = ob 11 [.ref (A77 (m + 1)), .int (nI 3), .int (nI 5), .int (nI 4), .int (nI 2), .int (nI 4), .ref (A77 (m + 2)), .int 0, .ref (A77 (m + 3)), .int 0, .null, .null, .int 0, .null, .null, .null] := hO92
  have hF98 : ∀ j, j ≠ m → ¬ ((m ≤ j ∧ j < m) ∨ (m + 1 ≤ j ∧ j < m + 1 + 1) ∨ (m + 2 ≤ j ∧ j < m + 2 + 1) ∨ (m + 3 ≤ j ∧ j < m + 3 + 1)) → g90 j = g j := fun j hk hj => (hu91 j hk).trans (hF86 j hk hj)
  refine g_aload_n (pc := 53) C dX11_init_53 0 rfl ?_
  refine g_bipush (pc := 54) C dX11_init_54 (v := nI 16) rfl ?_
  refine k_newi (pc := 56) C (m + 4) (N' := 16) (fun h => (hQ84 _ h).elim (fun q => by have z := hP _ q; omega) (fun q => by omega)) (nI_pos (by omega)) (nI_clamp (by omega)) (show 16 * 4 ≤ 536870912 by omega) ⟨show 3 + 1 ≤ 8 by omega, show 10580 + 16 ≤ 31635 by omega⟩ dX11_init_56 (fun P99 A100 g101 hq102 ha103 hg104 hx105 hk106 => ?_)
  rw [show A77 m = A100 m from (ha103 _ (by omega)).symm]
  show V K 4 10596 P99 A100 g101 [(0, .ref (A100 m))] 58 [.ref (A100 (m + 4)), .ref (A100 m)]
  have hQ107 : ∀ j ∈ P99, j ∈ P ∨ ((m ≤ j ∧ j < m) ∨ (m + 1 ≤ j ∧ j < m + 1 + 1) ∨ (m + 2 ≤ j ∧ j < m + 2 + 1) ∨ (m + 3 ≤ j ∧ j < m + 3 + 1) ∨ (m + 4 ≤ j ∧ j < m + 4 + 1)) := fun j hj => by
      rcases hq102 j hj with h | h
      · rcases hQ84 j h with q | q
        · exact Or.inl q
        · exact Or.inr (by omega)
      · exact Or.inr (by omega)
  have hB108 : ∀ j, ¬ ((m ≤ j ∧ j < m) ∨ (m + 1 ≤ j ∧ j < m + 1 + 1) ∨ (m + 2 ≤ j ∧ j < m + 2 + 1) ∨ (m + 3 ≤ j ∧ j < m + 3 + 1) ∨ (m + 4 ≤ j ∧ j < m + 4 + 1)) → A100 j = A j := fun j hj => (ha103 j (by omega)).trans (hB85 j (by omega))
  have hF109 : ∀ j, j ≠ m → ¬ ((m ≤ j ∧ j < m) ∨ (m + 1 ≤ j ∧ j < m + 1 + 1) ∨ (m + 2 ≤ j ∧ j < m + 2 + 1) ∨ (m + 3 ≤ j ∧ j < m + 3 + 1) ∨ (m + 4 ≤ j ∧ j < m + 4 + 1)) → g101 j = g j := fun j hk hj => (hg104 j (by omega)).trans (hF98 j hk (by omega))
  have h110 : g101 (m + 1) = ai 0 10511 (fun _ => 0) := hx105.at h94 p_nil
  have h111 : g101 (m + 2) = ai 0 64 (fun _ => 0) := hx105.at h95 p_nil
  have h112 : g101 (m + 3) = ai 0 5 (fun _ => 0) := hx105.at h96 p_nil
  have h113 : g101 m = ob 11 [.ref (A100 (m + 1)), .int (nI 3), .int (nI 5), .int (nI 4), .int (nI 2), .int (nI 4), .ref (A100 (m + 2)), .int 0, .ref (A100 (m + 3)), .int 0, .null, .null, .int 0, .null, .null, .null] := by
      have z := (hg104 _ (by omega)).trans hO97
      rw [show A77 (m + 1) = A100 (m + 1) from (ha103 _ (by omega)).symm, show A77 (m + 2) = A100 (m + 2) from (ha103 _ (by omega)).symm, show A77 (m + 3) = A100 (m + 3) from (ha103 _ (by omega)).symm] at z
      exact z
  refine k_putF (pc := 58) C (j := 10) R.2.2.2.2.2 h113 rfl (by decide) (Nat.le_of_ble_eq_true rfl) u_862 rfl rfl (tyX11_ok 10 (by decide)) rfl rfl dX11_init_58 (fun g114 hu115 hO116 => ?_)
  show V K 4 10596 P99 A100 g114 [(0, .ref (A100 m))] 61 []
  have hp117 : Fr g101 g114 m (m + 1) := fun j hj => hu115 j (by omega)
  have h118 : g114 (m + 1) = ai 0 10511 (fun _ => 0) := (hu115 _ (by omega)).trans h110
  have h119 : g114 (m + 2) = ai 0 64 (fun _ => 0) := (hu115 _ (by omega)).trans h111
  have h120 : g114 (m + 3) = ai 0 5 (fun _ => 0) := (hu115 _ (by omega)).trans h112
  have h121 : g114 (m + 4) = ai 0 16 (fun _ => 0) := (hu115 _ (by omega)).trans hk106
  have hO122 : g114 m = ob 11 [.ref (A100 (m + 1)), .int (nI 3), .int (nI 5), .int (nI 4), .int (nI 2), .int (nI 4), .ref (A100 (m + 2)), .int 0, .ref (A100 (m + 3)), .int 0, .ref (A100 (m + 4)), .null, .int 0, .null, .null, .null] := hO116
  have hF123 : ∀ j, j ≠ m → ¬ ((m ≤ j ∧ j < m) ∨ (m + 1 ≤ j ∧ j < m + 1 + 1) ∨ (m + 2 ≤ j ∧ j < m + 2 + 1) ∨ (m + 3 ≤ j ∧ j < m + 3 + 1) ∨ (m + 4 ≤ j ∧ j < m + 4 + 1)) → g114 j = g j := fun j hk hj => (hu115 j hk).trans (hF109 j hk hj)
  refine g_aload_n (pc := 61) C dX11_init_61 0 rfl ?_
  refine g_iconst (pc := 62) C dX11_init_62 (v := nI 5) rfl ?_
  refine k_newi (pc := 63) C (m + 5) (N' := 5) (fun h => (hQ107 _ h).elim (fun q => by have z := hP _ q; omega) (fun q => by omega)) (nI_pos (by omega)) (nI_clamp (by omega)) (show 5 * 4 ≤ 536870912 by omega) ⟨show 4 + 1 ≤ 8 by omega, show 10596 + 5 ≤ 31635 by omega⟩ dX11_init_63 (fun P124 A125 g126 hq127 ha128 hg129 hx130 hk131 => ?_)
  rw [show A100 m = A125 m from (ha128 _ (by omega)).symm]
  show V K 5 10601 P124 A125 g126 [(0, .ref (A125 m))] 65 [.ref (A125 (m + 5)), .ref (A125 m)]
  have hQ132 : ∀ j ∈ P124, j ∈ P ∨ ((m ≤ j ∧ j < m) ∨ (m + 1 ≤ j ∧ j < m + 1 + 1) ∨ (m + 2 ≤ j ∧ j < m + 2 + 1) ∨ (m + 3 ≤ j ∧ j < m + 3 + 1) ∨ (m + 4 ≤ j ∧ j < m + 4 + 1) ∨ (m + 5 ≤ j ∧ j < m + 5 + 1)) := fun j hj => by
      rcases hq127 j hj with h | h
      · rcases hQ107 j h with q | q
        · exact Or.inl q
        · exact Or.inr (by omega)
      · exact Or.inr (by omega)
  have hB133 : ∀ j, ¬ ((m ≤ j ∧ j < m) ∨ (m + 1 ≤ j ∧ j < m + 1 + 1) ∨ (m + 2 ≤ j ∧ j < m + 2 + 1) ∨ (m + 3 ≤ j ∧ j < m + 3 + 1) ∨ (m + 4 ≤ j ∧ j < m + 4 + 1) ∨ (m + 5 ≤ j ∧ j < m + 5 + 1)) → A125 j = A j := fun j hj => (ha128 j (by omega)).trans (hB108 j (by omega))
  have hF134 : ∀ j, j ≠ m → ¬ ((m ≤ j ∧ j < m) ∨ (m + 1 ≤ j ∧ j < m + 1 + 1) ∨ (m + 2 ≤ j ∧ j < m + 2 + 1) ∨ (m + 3 ≤ j ∧ j < m + 3 + 1) ∨ (m + 4 ≤ j ∧ j < m + 4 + 1) ∨ (m + 5 ≤ j ∧ j < m + 5 + 1)) → g126 j = g j := fun j hk hj => (hg129 j (by omega)).trans (hF123 j hk (by omega))
  have h135 : g126 (m + 1) = ai 0 10511 (fun _ => 0) := hx130.at h118 p_nil
  have h136 : g126 (m + 2) = ai 0 64 (fun _ => 0) := hx130.at h119 p_nil
  have h137 : g126 (m + 3) = ai 0 5 (fun _ => 0) := hx130.at h120 p_nil
  have h138 : g126 (m + 4) = ai 0 16 (fun _ => 0) := hx130.at h121 p_nil
  have h139 : g126 m = ob 11 [.ref (A125 (m + 1)), .int (nI 3), .int (nI 5), .int (nI 4), .int (nI 2), .int (nI 4), .ref (A125 (m + 2)), .int 0, .ref (A125 (m + 3)), .int 0, .ref (A125 (m + 4)), .null, .int 0, .null, .null, .null] := by
      have z := (hg129 _ (by omega)).trans hO122
      rw [show A100 (m + 1) = A125 (m + 1) from (ha128 _ (by omega)).symm, show A100 (m + 2) = A125 (m + 2) from (ha128 _ (by omega)).symm, show A100 (m + 3) = A125 (m + 3) from (ha128 _ (by omega)).symm, show A100 (m + 4) = A125 (m + 4) from (ha128 _ (by omega)).symm] at z
      exact z
  refine k_putF (pc := 65) C (j := 11) R.2.2.2.2.2 h139 rfl (by decide) (Nat.le_of_ble_eq_true rfl) u_863 rfl rfl (tyX11_ok 11 (by decide)) rfl rfl dX11_init_65 (fun g140 hu141 hO142 => ?_)
  show V K 5 10601 P124 A125 g140 [(0, .ref (A125 m))] 68 []
  have hp143 : Fr g126 g140 m (m + 1) := fun j hj => hu141 j (by omega)
  have h144 : g140 (m + 1) = ai 0 10511 (fun _ => 0) := (hu141 _ (by omega)).trans h135
  have h145 : g140 (m + 2) = ai 0 64 (fun _ => 0) := (hu141 _ (by omega)).trans h136
  have h146 : g140 (m + 3) = ai 0 5 (fun _ => 0) := (hu141 _ (by omega)).trans h137
  have h147 : g140 (m + 4) = ai 0 16 (fun _ => 0) := (hu141 _ (by omega)).trans h138
  have h148 : g140 (m + 5) = ai 0 5 (fun _ => 0) := (hu141 _ (by omega)).trans hk131
  have hO149 : g140 m = ob 11 [.ref (A125 (m + 1)), .int (nI 3), .int (nI 5), .int (nI 4), .int (nI 2), .int (nI 4), .ref (A125 (m + 2)), .int 0, .ref (A125 (m + 3)), .int 0, .ref (A125 (m + 4)), .ref (A125 (m + 5)), .int 0, .null, .null, .null] := hO142
  have hF150 : ∀ j, j ≠ m → ¬ ((m ≤ j ∧ j < m) ∨ (m + 1 ≤ j ∧ j < m + 1 + 1) ∨ (m + 2 ≤ j ∧ j < m + 2 + 1) ∨ (m + 3 ≤ j ∧ j < m + 3 + 1) ∨ (m + 4 ≤ j ∧ j < m + 4 + 1) ∨ (m + 5 ≤ j ∧ j < m + 5 + 1)) → g140 j = g j := fun j hk hj => (hu141 j hk).trans (hF134 j hk hj)
  refine g_aload_n (pc := 68) C dX11_init_68 0 rfl ?_
  refine g_sipush (pc := 69) C dX11_init_69 (v := nI 21022) rfl ?_
  refine k_newi (pc := 72) C (m + 6) (N' := 21022) (fun h => (hQ132 _ h).elim (fun q => by have z := hP _ q; omega) (fun q => by omega)) (nI_pos (by omega)) (nI_clamp (by omega)) (show 21022 * 4 ≤ 536870912 by omega) ⟨show 5 + 1 ≤ 8 by omega, show 10601 + 21022 ≤ 31635 by omega⟩ dX11_init_72 (fun P151 A152 g153 hq154 ha155 hg156 hx157 hk158 => ?_)
  rw [show A125 m = A152 m from (ha155 _ (by omega)).symm]
  show V K 6 31623 P151 A152 g153 [(0, .ref (A152 m))] 74 [.ref (A152 (m + 6)), .ref (A152 m)]
  have hQ159 : ∀ j ∈ P151, j ∈ P ∨ ((m ≤ j ∧ j < m) ∨ (m + 1 ≤ j ∧ j < m + 1 + 1) ∨ (m + 2 ≤ j ∧ j < m + 2 + 1) ∨ (m + 3 ≤ j ∧ j < m + 3 + 1) ∨ (m + 4 ≤ j ∧ j < m + 4 + 1) ∨ (m + 5 ≤ j ∧ j < m + 5 + 1) ∨ (m + 6 ≤ j ∧ j < m + 6 + 1)) := fun j hj => by
      rcases hq154 j hj with h | h
      · rcases hQ132 j h with q | q
        · exact Or.inl q
        · exact Or.inr (by omega)
      · exact Or.inr (by omega)
  have hB160 : ∀ j, ¬ ((m ≤ j ∧ j < m) ∨ (m + 1 ≤ j ∧ j < m + 1 + 1) ∨ (m + 2 ≤ j ∧ j < m + 2 + 1) ∨ (m + 3 ≤ j ∧ j < m + 3 + 1) ∨ (m + 4 ≤ j ∧ j < m + 4 + 1) ∨ (m + 5 ≤ j ∧ j < m + 5 + 1) ∨ (m + 6 ≤ j ∧ j < m + 6 + 1)) → A152 j = A j := fun j hj => (ha155 j (by omega)).trans (hB133 j (by omega))
  have hF161 : ∀ j, j ≠ m → ¬ ((m ≤ j ∧ j < m) ∨ (m + 1 ≤ j ∧ j < m + 1 + 1) ∨ (m + 2 ≤ j ∧ j < m + 2 + 1) ∨ (m + 3 ≤ j ∧ j < m + 3 + 1) ∨ (m + 4 ≤ j ∧ j < m + 4 + 1) ∨ (m + 5 ≤ j ∧ j < m + 5 + 1) ∨ (m + 6 ≤ j ∧ j < m + 6 + 1)) → g153 j = g j := fun j hk hj => (hg156 j (by omega)).trans (hF150 j hk (by omega))
  have h162 : g153 (m + 1) = ai 0 10511 (fun _ => 0) := hx157.at h144 p_nil
  have h163 : g153 (m + 2) = ai 0 64 (fun _ => 0) := hx157.at h145 p_nil
  have h164 : g153 (m + 3) = ai 0 5 (fun _ => 0) := hx157.at h146 p_nil
  have h165 : g153 (m + 4) = ai 0 16 (fun _ => 0) := hx157.at h147 p_nil
  have h166 : g153 (m + 5) = ai 0 5 (fun _ => 0) := hx157.at h148 p_nil
  have h167 : g153 m = ob 11 [.ref (A152 (m + 1)), .int (nI 3), .int (nI 5), .int (nI 4), .int (nI 2), .int (nI 4), .ref (A152 (m + 2)), .int 0, .ref (A152 (m + 3)), .int 0, .ref (A152 (m + 4)), .ref (A152 (m + 5)), .int 0, .null, .null, .null] := by
      have z := (hg156 _ (by omega)).trans hO149
      rw [show A125 (m + 1) = A152 (m + 1) from (ha155 _ (by omega)).symm, show A125 (m + 2) = A152 (m + 2) from (ha155 _ (by omega)).symm, show A125 (m + 3) = A152 (m + 3) from (ha155 _ (by omega)).symm, show A125 (m + 4) = A152 (m + 4) from (ha155 _ (by omega)).symm, show A125 (m + 5) = A152 (m + 5) from (ha155 _ (by omega)).symm] at z
      exact z
  refine k_putF (pc := 74) C (j := 13) R.2.2.2.2.2 h167 rfl (by decide) (Nat.le_of_ble_eq_true rfl) u_865 rfl rfl (tyX11_ok 13 (by decide)) rfl rfl dX11_init_74 (fun g168 hu169 hO170 => ?_)
  show V K 6 31623 P151 A152 g168 [(0, .ref (A152 m))] 77 []
  have hp171 : Fr g153 g168 m (m + 1) := fun j hj => hu169 j (by omega)
  have h172 : g168 (m + 1) = ai 0 10511 (fun _ => 0) := (hu169 _ (by omega)).trans h162
  have h173 : g168 (m + 2) = ai 0 64 (fun _ => 0) := (hu169 _ (by omega)).trans h163
  have h174 : g168 (m + 3) = ai 0 5 (fun _ => 0) := (hu169 _ (by omega)).trans h164
  have h175 : g168 (m + 4) = ai 0 16 (fun _ => 0) := (hu169 _ (by omega)).trans h165
  have h176 : g168 (m + 5) = ai 0 5 (fun _ => 0) := (hu169 _ (by omega)).trans h166
  have h177 : g168 (m + 6) = ai 0 21022 (fun _ => 0) := (hu169 _ (by omega)).trans hk158
  have hO178 : g168 m = ob 11 [.ref (A152 (m + 1)), .int (nI 3), .int (nI 5), .int (nI 4), .int (nI 2), .int (nI 4), .ref (A152 (m + 2)), .int 0, .ref (A152 (m + 3)), .int 0, .ref (A152 (m + 4)), .ref (A152 (m + 5)), .int 0, .ref (A152 (m + 6)), .null, .null] := hO170
  have hF179 : ∀ j, j ≠ m → ¬ ((m ≤ j ∧ j < m) ∨ (m + 1 ≤ j ∧ j < m + 1 + 1) ∨ (m + 2 ≤ j ∧ j < m + 2 + 1) ∨ (m + 3 ≤ j ∧ j < m + 3 + 1) ∨ (m + 4 ≤ j ∧ j < m + 4 + 1) ∨ (m + 5 ≤ j ∧ j < m + 5 + 1) ∨ (m + 6 ≤ j ∧ j < m + 6 + 1)) → g168 j = g j := fun j hk hj => (hu169 j hk).trans (hF161 j hk hj)
  refine g_aload_n (pc := 77) C dX11_init_77 0 rfl ?_
  refine g_iconst (pc := 78) C dX11_init_78 (v := nI 2) rfl ?_
  refine k_newz (pc := 79) C (m + 7) (N' := 2) (fun h => (hQ159 _ h).elim (fun q => by have z := hP _ q; omega) (fun q => by omega)) (nI_pos (by omega)) (nI_clamp (by omega)) (show 2 * 1 ≤ 536870912 by omega) ⟨show 6 + 1 ≤ 8 by omega, show 31623 + 2 ≤ 31635 by omega⟩ dX11_init_79 (fun P180 A181 g182 hq183 ha184 hg185 hx186 hk187 => ?_)
  rw [show A152 m = A181 m from (ha184 _ (by omega)).symm]
  show V K 7 31625 P180 A181 g182 [(0, .ref (A181 m))] 81 [.ref (A181 (m + 7)), .ref (A181 m)]
  have hQ188 : ∀ j ∈ P180, j ∈ P ∨ ((m ≤ j ∧ j < m) ∨ (m + 1 ≤ j ∧ j < m + 1 + 1) ∨ (m + 2 ≤ j ∧ j < m + 2 + 1) ∨ (m + 3 ≤ j ∧ j < m + 3 + 1) ∨ (m + 4 ≤ j ∧ j < m + 4 + 1) ∨ (m + 5 ≤ j ∧ j < m + 5 + 1) ∨ (m + 6 ≤ j ∧ j < m + 6 + 1) ∨ (m + 7 ≤ j ∧ j < m + 7 + 1)) := fun j hj => by
      rcases hq183 j hj with h | h
      · rcases hQ159 j h with q | q
        · exact Or.inl q
        · exact Or.inr (by omega)
      · exact Or.inr (by omega)
  have hB189 : ∀ j, ¬ ((m ≤ j ∧ j < m) ∨ (m + 1 ≤ j ∧ j < m + 1 + 1) ∨ (m + 2 ≤ j ∧ j < m + 2 + 1) ∨ (m + 3 ≤ j ∧ j < m + 3 + 1) ∨ (m + 4 ≤ j ∧ j < m + 4 + 1) ∨ (m + 5 ≤ j ∧ j < m + 5 + 1) ∨ (m + 6 ≤ j ∧ j < m + 6 + 1) ∨ (m + 7 ≤ j ∧ j < m + 7 + 1)) → A181 j = A j := fun j hj => (ha184 j (by omega)).trans (hB160 j (by omega))
  have hF190 : ∀ j, j ≠ m → ¬ ((m ≤ j ∧ j < m) ∨ (m + 1 ≤ j ∧ j < m + 1 + 1) ∨ (m + 2 ≤ j ∧ j < m + 2 + 1) ∨ (m + 3 ≤ j ∧ j < m + 3 + 1) ∨ (m + 4 ≤ j ∧ j < m + 4 + 1) ∨ (m + 5 ≤ j ∧ j < m + 5 + 1) ∨ (m + 6 ≤ j ∧ j < m + 6 + 1) ∨ (m + 7 ≤ j ∧ j < m + 7 + 1)) → g182 j = g j := fun j hk hj => (hg185 j (by omega)).trans (hF179 j hk (by omega))
  have h191 : g182 (m + 1) = ai 0 10511 (fun _ => 0) := hx186.at h172 p_nil
  have h192 : g182 (m + 2) = ai 0 64 (fun _ => 0) := hx186.at h173 p_nil
  have h193 : g182 (m + 3) = ai 0 5 (fun _ => 0) := hx186.at h174 p_nil
  have h194 : g182 (m + 4) = ai 0 16 (fun _ => 0) := hx186.at h175 p_nil
  have h195 : g182 (m + 5) = ai 0 5 (fun _ => 0) := hx186.at h176 p_nil
  have h196 : g182 (m + 6) = ai 0 21022 (fun _ => 0) := hx186.at h177 p_nil
  have h197 : g182 m = ob 11 [.ref (A181 (m + 1)), .int (nI 3), .int (nI 5), .int (nI 4), .int (nI 2), .int (nI 4), .ref (A181 (m + 2)), .int 0, .ref (A181 (m + 3)), .int 0, .ref (A181 (m + 4)), .ref (A181 (m + 5)), .int 0, .ref (A181 (m + 6)), .null, .null] := by
      have z := (hg185 _ (by omega)).trans hO178
      rw [show A152 (m + 1) = A181 (m + 1) from (ha184 _ (by omega)).symm, show A152 (m + 2) = A181 (m + 2) from (ha184 _ (by omega)).symm, show A152 (m + 3) = A181 (m + 3) from (ha184 _ (by omega)).symm, show A152 (m + 4) = A181 (m + 4) from (ha184 _ (by omega)).symm, show A152 (m + 5) = A181 (m + 5) from (ha184 _ (by omega)).symm, show A152 (m + 6) = A181 (m + 6) from (ha184 _ (by omega)).symm] at z
      exact z
  refine k_putF (pc := 81) C (j := 14) R.2.2.2.2.2 h197 rfl (by decide) (Nat.le_of_ble_eq_true rfl) u_866 rfl rfl (tyX11_ok 14 (by decide)) rfl rfl dX11_init_81 (fun g198 hu199 hO200 => ?_)
  show V K 7 31625 P180 A181 g198 [(0, .ref (A181 m))] 84 []
  have hp201 : Fr g182 g198 m (m + 1) := fun j hj => hu199 j (by omega)
  have h202 : g198 (m + 1) = ai 0 10511 (fun _ => 0) := (hu199 _ (by omega)).trans h191
  have h203 : g198 (m + 2) = ai 0 64 (fun _ => 0) := (hu199 _ (by omega)).trans h192
  have h204 : g198 (m + 3) = ai 0 5 (fun _ => 0) := (hu199 _ (by omega)).trans h193
  have h205 : g198 (m + 4) = ai 0 16 (fun _ => 0) := (hu199 _ (by omega)).trans h194
  have h206 : g198 (m + 5) = ai 0 5 (fun _ => 0) := (hu199 _ (by omega)).trans h195
  have h207 : g198 (m + 6) = ai 0 21022 (fun _ => 0) := (hu199 _ (by omega)).trans h196
  have h208 : g198 (m + 7) = ai 1 2 (fun _ => 0) := (hu199 _ (by omega)).trans hk187
  have hO209 : g198 m = ob 11 [.ref (A181 (m + 1)), .int (nI 3), .int (nI 5), .int (nI 4), .int (nI 2), .int (nI 4), .ref (A181 (m + 2)), .int 0, .ref (A181 (m + 3)), .int 0, .ref (A181 (m + 4)), .ref (A181 (m + 5)), .int 0, .ref (A181 (m + 6)), .ref (A181 (m + 7)), .null] := hO200
  have hF210 : ∀ j, j ≠ m → ¬ ((m ≤ j ∧ j < m) ∨ (m + 1 ≤ j ∧ j < m + 1 + 1) ∨ (m + 2 ≤ j ∧ j < m + 2 + 1) ∨ (m + 3 ≤ j ∧ j < m + 3 + 1) ∨ (m + 4 ≤ j ∧ j < m + 4 + 1) ∨ (m + 5 ≤ j ∧ j < m + 5 + 1) ∨ (m + 6 ≤ j ∧ j < m + 6 + 1) ∨ (m + 7 ≤ j ∧ j < m + 7 + 1)) → g198 j = g j := fun j hk hj => (hu199 j hk).trans (hF190 j hk hj)
  refine g_aload_n (pc := 84) C dX11_init_84 0 rfl ?_
  refine g_bipush (pc := 85) C dX11_init_85 (v := nI 10) rfl ?_
  refine k_newi (pc := 87) C (m + 8) (N' := 10) (fun h => (hQ188 _ h).elim (fun q => by have z := hP _ q; omega) (fun q => by omega)) (nI_pos (by omega)) (nI_clamp (by omega)) (show 10 * 4 ≤ 536870912 by omega) ⟨show 7 + 1 ≤ 8 by omega, show 31625 + 10 ≤ 31635 by omega⟩ dX11_init_87 (fun P211 A212 g213 hq214 ha215 hg216 hx217 hk218 => ?_)
  rw [show A181 m = A212 m from (ha215 _ (by omega)).symm]
  show V K 8 31635 P211 A212 g213 [(0, .ref (A212 m))] 89 [.ref (A212 (m + 8)), .ref (A212 m)]
  have hQ219 : ∀ j ∈ P211, j ∈ P ∨ ((m ≤ j ∧ j < m) ∨ (m + 1 ≤ j ∧ j < m + 1 + 1) ∨ (m + 2 ≤ j ∧ j < m + 2 + 1) ∨ (m + 3 ≤ j ∧ j < m + 3 + 1) ∨ (m + 4 ≤ j ∧ j < m + 4 + 1) ∨ (m + 5 ≤ j ∧ j < m + 5 + 1) ∨ (m + 6 ≤ j ∧ j < m + 6 + 1) ∨ (m + 7 ≤ j ∧ j < m + 7 + 1) ∨ (m + 8 ≤ j ∧ j < m + 8 + 1)) := fun j hj => by
      rcases hq214 j hj with h | h
      · rcases hQ188 j h with q | q
        · exact Or.inl q
        · exact Or.inr (by omega)
      · exact Or.inr (by omega)
  have hB220 : ∀ j, ¬ ((m ≤ j ∧ j < m) ∨ (m + 1 ≤ j ∧ j < m + 1 + 1) ∨ (m + 2 ≤ j ∧ j < m + 2 + 1) ∨ (m + 3 ≤ j ∧ j < m + 3 + 1) ∨ (m + 4 ≤ j ∧ j < m + 4 + 1) ∨ (m + 5 ≤ j ∧ j < m + 5 + 1) ∨ (m + 6 ≤ j ∧ j < m + 6 + 1) ∨ (m + 7 ≤ j ∧ j < m + 7 + 1) ∨ (m + 8 ≤ j ∧ j < m + 8 + 1)) → A212 j = A j := fun j hj => (ha215 j (by omega)).trans (hB189 j (by omega))
  have hF221 : ∀ j, j ≠ m → ¬ ((m ≤ j ∧ j < m) ∨ (m + 1 ≤ j ∧ j < m + 1 + 1) ∨ (m + 2 ≤ j ∧ j < m + 2 + 1) ∨ (m + 3 ≤ j ∧ j < m + 3 + 1) ∨ (m + 4 ≤ j ∧ j < m + 4 + 1) ∨ (m + 5 ≤ j ∧ j < m + 5 + 1) ∨ (m + 6 ≤ j ∧ j < m + 6 + 1) ∨ (m + 7 ≤ j ∧ j < m + 7 + 1) ∨ (m + 8 ≤ j ∧ j < m + 8 + 1)) → g213 j = g j := fun j hk hj => (hg216 j (by omega)).trans (hF210 j hk (by omega))
  have h222 : g213 (m + 1) = ai 0 10511 (fun _ => 0) := hx217.at h202 p_nil
  have h223 : g213 (m + 2) = ai 0 64 (fun _ => 0) := hx217.at h203 p_nil
  have h224 : g213 (m + 3) = ai 0 5 (fun _ => 0) := hx217.at h204 p_nil
  have h225 : g213 (m + 4) = ai 0 16 (fun _ => 0) := hx217.at h205 p_nil
  have h226 : g213 (m + 5) = ai 0 5 (fun _ => 0) := hx217.at h206 p_nil
  have h227 : g213 (m + 6) = ai 0 21022 (fun _ => 0) := hx217.at h207 p_nil
  have h228 : g213 (m + 7) = ai 1 2 (fun _ => 0) := hx217.at h208 p_nil
  have h229 : g213 m = ob 11 [.ref (A212 (m + 1)), .int (nI 3), .int (nI 5), .int (nI 4), .int (nI 2), .int (nI 4), .ref (A212 (m + 2)), .int 0, .ref (A212 (m + 3)), .int 0, .ref (A212 (m + 4)), .ref (A212 (m + 5)), .int 0, .ref (A212 (m + 6)), .ref (A212 (m + 7)), .null] := by
      have z := (hg216 _ (by omega)).trans hO209
      rw [show A181 (m + 1) = A212 (m + 1) from (ha215 _ (by omega)).symm, show A181 (m + 2) = A212 (m + 2) from (ha215 _ (by omega)).symm, show A181 (m + 3) = A212 (m + 3) from (ha215 _ (by omega)).symm, show A181 (m + 4) = A212 (m + 4) from (ha215 _ (by omega)).symm, show A181 (m + 5) = A212 (m + 5) from (ha215 _ (by omega)).symm, show A181 (m + 6) = A212 (m + 6) from (ha215 _ (by omega)).symm, show A181 (m + 7) = A212 (m + 7) from (ha215 _ (by omega)).symm] at z
      exact z
  refine k_putF (pc := 89) C (j := 15) R.2.2.2.2.2 h229 rfl (by decide) (Nat.le_of_ble_eq_true rfl) u_867 rfl rfl (tyX11_ok 15 (by decide)) rfl rfl dX11_init_89 (fun g230 hu231 hO232 => ?_)
  show V K 8 31635 P211 A212 g230 [(0, .ref (A212 m))] 92 []
  have hp233 : Fr g213 g230 m (m + 1) := fun j hj => hu231 j (by omega)
  have h234 : g230 (m + 1) = ai 0 10511 (fun _ => 0) := (hu231 _ (by omega)).trans h222
  have h235 : g230 (m + 2) = ai 0 64 (fun _ => 0) := (hu231 _ (by omega)).trans h223
  have h236 : g230 (m + 3) = ai 0 5 (fun _ => 0) := (hu231 _ (by omega)).trans h224
  have h237 : g230 (m + 4) = ai 0 16 (fun _ => 0) := (hu231 _ (by omega)).trans h225
  have h238 : g230 (m + 5) = ai 0 5 (fun _ => 0) := (hu231 _ (by omega)).trans h226
  have h239 : g230 (m + 6) = ai 0 21022 (fun _ => 0) := (hu231 _ (by omega)).trans h227
  have h240 : g230 (m + 7) = ai 1 2 (fun _ => 0) := (hu231 _ (by omega)).trans h228
  have h241 : g230 (m + 8) = ai 0 10 (fun _ => 0) := (hu231 _ (by omega)).trans hk218
  have hO242 : g230 m = ob 11 [.ref (A212 (m + 1)), .int (nI 3), .int (nI 5), .int (nI 4), .int (nI 2), .int (nI 4), .ref (A212 (m + 2)), .int 0, .ref (A212 (m + 3)), .int 0, .ref (A212 (m + 4)), .ref (A212 (m + 5)), .int 0, .ref (A212 (m + 6)), .ref (A212 (m + 7)), .ref (A212 (m + 8))] := hO232
  have hF243 : ∀ j, j ≠ m → ¬ ((m ≤ j ∧ j < m) ∨ (m + 1 ≤ j ∧ j < m + 1 + 1) ∨ (m + 2 ≤ j ∧ j < m + 2 + 1) ∨ (m + 3 ≤ j ∧ j < m + 3 + 1) ∨ (m + 4 ≤ j ∧ j < m + 4 + 1) ∨ (m + 5 ≤ j ∧ j < m + 5 + 1) ∨ (m + 6 ≤ j ∧ j < m + 6 + 1) ∨ (m + 7 ≤ j ∧ j < m + 7 + 1) ∨ (m + 8 ≤ j ∧ j < m + 8 + 1)) → g230 j = g j := fun j hk hj => (hu231 j hk).trans (hF221 j hk hj)
  exact g_vret (pc := 92) C R ⟨rfl, ⟨⟨⟨0, 0, [], [], [], hO242, ⟨Nat.zero_le _, _, h236, fun k hk => absurd hk (Nat.not_lt_zero _)⟩, ⟨Nat.zero_le _, _, h237, fun k hk => absurd hk (Nat.not_lt_zero _)⟩, ⟨Nat.zero_le _, _, h238, fun k hk => absurd hk (Nat.not_lt_zero _)⟩⟩, ⟨_, h234, rz_0⟩, ⟨Nat.zero_le _, _, h235, fun k hk => absurd hk (Nat.not_lt_zero _)⟩, fun x hx => absurd hx List.not_mem_nil⟩, ⟨_, _, _, h239, h240, h241, fun k hk => ⟨rfl, fun s h => by cases h⟩⟩⟩, fun j hj => by
      rcases hQ219 j hj with q | q
      · exact Or.inl q
      · exact Or.inr (by omega), fun j h1 h2 => hB220 j (by omega), fun j h0 h1 h2 => hF243 j h0 (by omega)⟩ (show 8 ≤ 8 by omega) (show 31635 ≤ 31635 by omega) dX11_init_92
