-- PART 16: the calls of the class, in words of a state
def krow (A : Nat → Nat) (w : Nat) : Nat → Option Nat := fun k => if k < 2 then some (A (w + 5000 + 5000 * k)) else none
theorem krow_at {A : Nat → Nat} {w k : Nat} (h : k < 2) : krow A w k = some (A (w + 5000 + 5000 * k)) := by simp [krow, h]
/-- the class's object: the coins cs, the state, the kept states -/
def VB (A : Nat → Nat) (g : pM) (w : Nat) (cs : List Nat) (σ : Sg) (ks : Nat → Option Sg) : Prop :=
  g (w + 15010) = vOb A w ∧ g (w + 15007) = ob 7 [.ref (A w)] ∧ (∃ pl ll, VW A g w cs σ pl ll) ∧ g (w + 15008) = aq 5 2 (krow A w) ∧ (∃ r : Nat → Int32, g (w + 15009) = ai 1 2 r ∧ ∀ k, k < 2 → r k = b32 (ks k).isSome) ∧ ∀ k, k < 2 → ∃ σk, WD A g (w + 5000 + 5000 * k) (w + 15005) σk ∧ ∀ s, ks k = some s → s = σk
theorem WD.fr' {A : Nat → Nat} {g g' : pM} {w cq : Nat} {σ : Sg} (h : WD A g w cq σ) (hf : ∀ k, w ≤ k → k < w + 5000 → g' k = g k) : WD A g' w cq σ := by
  obtain ⟨h1, h2, h3, h4, h5, ⟨t, h6⟩, ⟨r, h7, h7b⟩, h8⟩ := h
  refine ⟨(hf _ (by omega) (by omega)).trans h1, (hf _ (by omega) (by omega)).trans h2, (hf _ (by omega) (by omega)).trans h3, fun i hi => ?_, h5.fr' (fun k hk => hf k (by omega) (by omega)), ⟨t, h6.fr' (fun k k1 k2 => hf k (by omega) (by omega))⟩, ⟨r, (hf _ (by omega) (by omega)).trans h7, h7b⟩, h8⟩
  obtain ⟨d, m1, m2⟩ := h4 i hi
  exact ⟨d, m1.fr' (fun k k1 k2 => hf k (by omega) (by omega)), m2⟩
theorem FrS.t {g g' : pM} {w : Nat} (h : FrS g g' w) : FrT g g' w := fun k hk => h k (by omega)
theorem FrV.t {g g' : pM} {w : Nat} (h : FrV g g' w) : FrT g g' w := fun k hk => h k (by omega)
theorem Fr.t {g g' : pM} {w : Nat} (h : Fr g g' w (w + 5000)) : FrT g g' w := fun k hk => h k (by omega)
theorem FrT.rf {g : pM} {w : Nat} : FrT g g w := fun _ _ => rfl
theorem FrT.tr {g g1 g2 : pM} {w : Nat} (h : FrT g g1 w) (h2 : FrT g1 g2 w) : FrT g g2 w := fun k hk => (h2 k hk).trans (h k hk)
/-- a call that changes the world and the views' scratch -/
theorem VB.t {A : Nat → Nat} {g g' : pM} {w : Nat} {cs : List Nat} {σ σ' : Sg} {ks : Nat → Option Sg} (h : VB A g w cs σ ks) (hf : FrT g g' w) (hv : ∃ pl ll, VW A g' w cs σ' pl ll) : VB A g' w cs σ' ks := by
  obtain ⟨h1, h2, h3, h4, ⟨r, h5, h6⟩, h7⟩ := h
  refine ⟨(hf _ (by omega)).trans h1, (hf _ (by omega)).trans h2, hv, (hf _ (by omega)).trans h4, ⟨r, (hf _ (by omega)).trans h5, h6⟩, fun k hk => ?_⟩
  obtain ⟨s, m1, m2⟩ := h7 k hk
  exact ⟨s, m1.fr' (fun k k1 k2 => hf k (by omega)), m2⟩
/-- a call that changes the world alone -/
theorem VB.v {A : Nat → Nat} {g g' : pM} {w : Nat} {cs : List Nat} {σ σ' : Sg} {ks : Nat → Option Sg} (h : VB A g w cs σ ks) (hf : Fr g g' w (w + 5000)) (hv : WD A g' w (w + 15005) σ') : VB A g' w cs σ' ks := by
  obtain ⟨pl, ll, v1, v2, v3, v4, v5⟩ := h.2.2.1
  exact h.t hf.t ⟨pl, ll, hf.at (by omega) v1, hv, v3.fr hf (by omega), v4.fr hf (by omega), v5.fr hf (by omega)⟩
theorem isN_ex {x : Int32} {K : Nat} (hK : K ≤ 16) (h : decide (¬ x < 0 ∧ x < nI K) = true) : ∃ i, i < K ∧ x = nI i := by
  have h2 := of_decide_eq_true h
  rcases pk_ix x (n := K) (by omega) with q | q | q
  · exact absurd q h2.1
  · exact absurd h2.2 (i32_nlt q)
  · exact q
def isN (σ : Sg) (x : Int32) : Bool := decide (¬ x < 0 ∧ x < nI (gK σ))
theorem isN_n {σ : Sg} {i : Nat} (hK : gK σ ≤ 16) (hi : i < gK σ) : isN σ (nI i) = true := decide_eq_true ⟨nI_pos (by omega), (nI_ltI (by omega) (by omega)).mpr hi⟩
/-- what a call by a node that must be live is refused with, or 0 -/
def rfA (σ : Sg) (x : Int32) : Int32 := if isN σ x then (if lvd σ x.toNatClampNeg then 0 else -3) else -1
theorem rfA_no {σ : Sg} {x : Int32} (h : isN σ x = false) : rfA σ x = -1 := by simp [rfA, h]
theorem rfA_n {σ : Sg} {i : Nat} (hK : gK σ ≤ 16) (hi : i < gK σ) : rfA σ (nI i) = if lvd σ i then 0 else -3 := by
  simp only [rfA, isN_n hK hi, if_true]
  rw [nI_clamp (by omega)]
theorem rfA_0 {σ : Sg} {x : Int32} (hK : gK σ ≤ 16) (h : rfA σ x = 0) : ∃ i, i < gK σ ∧ x = nI i ∧ lvd σ i = true := by
  cases e : isN σ x with
  | false => rw [rfA_no e] at h; exact absurd h (by decide)
  | true =>
    obtain ⟨i, hi, rfl⟩ := isN_ex hK e
    rw [rfA_n hK hi] at h
    cases q : lvd σ i with
    | true => exact ⟨i, hi, rfl, q⟩
    | false => rw [q] at h; exact absurd h (by decide)
abbrev rm_X10_refusedActor : Room := { frames := 2, cells := 0, slots := 0, locals := 42 }
theorem Y_X10_refusedActor : pY yX10_refusedActor cX10_refusedActor 2 (Option.some Jvm.ClassFile.FieldType.int) := ⟨u_418, us_0, u_1, u_419⟩
theorem N_X10_refusedActor : yX10_refusedActor.cls ≠ "java/lang/invoke/MethodHandle" ∧ yX10_refusedActor.cls ≠ "java/lang/invoke/VarHandle" ∧ (parseMethodDescriptor yX10_refusedActor.desc).map (fun d => d.parameters.length) = some 1 := by decide +kernel
set_option maxRecDepth 20000 in
set_option maxHeartbeats 4000000 in
theorem c_X10_refusedActor (A : Nat → Nat) (P : List Nat) (g : pM) (w : Nat) {σ : Sg} (x : Int32) (hO : g (w + 15010) = vOb A w) (hW : WD A g w (w + 15005) σ) : PM yX10_refusedActor cX10_refusedActor 2 (Option.some Jvm.ClassFile.FieldType.int) rm_X10_refusedActor [.ref (A (w + 15010)), .int x] P A g (fun v g' => v = some (.int (rfA σ x)) ∧ g = g') := by
  have hK := hW.k16
  refine px_intro (by decide +kernel) (Nat.le_of_ble_eq_true rfl) (fun K sz C R => ?_)
  show V K 0 0 P A g [(0, .ref (A (w + 15010))), (1, .int x)] 0 []
  refine g_aload_n (pc := 0) C dX10_refusedActor_0 0 rfl ?_
  refine g_get (pc := 1) C (j := 1) hO rfl rfl (by decide) u_325 dX10_refusedActor_1 ?_
  refine g_iload_n (pc := 4) C dX10_refusedActor_4 1 rfl ?_
  refine g_callV (pc := 5) C (As := [.int x]) (rest := []) (b := w) (c_X9_isNode A P g w x (WD.wb hW)) (WD.wb hW).1 rfl rfl Y_X9_isNode u_385 N_X9_isNode ⟨by decide, by decide⟩ ⟨by decide, by decide⟩ (Nat.le_of_ble_eq_true rfl) rfl dX10_refusedActor_5 ?_
  rintro _ _ _ _ ⟨rfl, rfl, rfl, rfl⟩
  show V K 0 0 P A g [(0, .ref (A (w + 15010))), (1, .int x)] 8 [.int (b32 (decide (¬ x < 0 ∧ x < nI (gK σ))))]
  refine g_if_ne (pc := 8) C dX10_refusedActor_8 (tgt := 13) (by decide) (fun c_8 => ?_) (fun c_8 => ?_)
  ·
    obtain ⟨i, hi, rfl⟩ := isN_ex hK (b32_no c_8)
    refine g_aload_n (pc := 13) C dX10_refusedActor_13 0 rfl ?_
    refine g_get (pc := 14) C (j := 1) hO rfl rfl (by decide) u_325 dX10_refusedActor_14 ?_
    refine g_iload_n (pc := 17) C dX10_refusedActor_17 1 rfl ?_
    refine g_callV (pc := 18) C (As := [.int (nI i)]) (rest := []) (b := w) (c_X9_nodeAt A P g w i (by omega) (WD.wb hW)) (WD.wb hW).1 rfl rfl Y_X9_nodeAt u_389 N_X9_nodeAt ⟨by decide, by decide⟩ ⟨by decide, by decide⟩ (Nat.le_of_ble_eq_true rfl) rfl dX10_refusedActor_18 ?_
    rintro _ _ _ _ ⟨rfl, rfl, rfl, rfl⟩
    show V K 0 0 P A g [(0, .ref (A (w + 15010))), (1, .int (nI i))] 21 [.ref (A (w + 100 + 100 * i))]
    refine g_get (pc := 21) C (j := 1) (WD.nd (i := i) hW (by omega)).1 rfl rfl (by decide) u_134 dX10_refusedActor_21 ?_
    refine g_if_eq (pc := 24) C dX10_refusedActor_24 (tgt := 31) (by decide) (fun c_24 => ?_) (fun c_24 => ?_)
    ·
      refine g_bipush (pc := 31) C dX10_refusedActor_31 (v := (-3)) rfl ?_
      exact g_iret (pc := 33) C R ⟨rfl, rfl, by rw [rfA_n hK hi, show lvd σ i = false from b32_yes c_24]; rfl, rfl⟩ (by decide) (by decide) dX10_refusedActor_33
    ·
      refine g_iconst (pc := 27) C dX10_refusedActor_27 (v := nI 0) rfl ?_
      refine g_goto (pc := 28) C dX10_refusedActor_28 (tgt := 33) (by decide) ?_
      exact g_iret (pc := 33) C R ⟨rfl, rfl, by rw [rfA_n hK hi, show lvd σ i = true from b32_no c_24]; rfl, rfl⟩ (by decide) (by decide) dX10_refusedActor_33
  ·
    refine g_iconst (pc := 11) C dX10_refusedActor_11 (v := (-1)) rfl ?_
    exact g_iret (pc := 12) C R ⟨rfl, rfl, by rw [rfA_no (b32_yes c_8)], rfl⟩ (by decide) (by decide) dX10_refusedActor_12
abbrev rm_X10_isPlace : Room := { frames := 0, cells := 0, slots := 0, locals := 0 }
theorem N_X10_isPlace : yX10_isPlace.cls ≠ "java/lang/invoke/MethodHandle" ∧ yX10_isPlace.cls ≠ "java/lang/invoke/VarHandle" ∧ (parseMethodDescriptor yX10_isPlace.desc).map (fun d => d.parameters.length) = some 1 := by decide +kernel
set_option maxRecDepth 20000 in
set_option maxHeartbeats 4000000 in
theorem c_X10_isPlace (A : Nat → Nat) (P : List Nat) (g : pM) (x : Int32) : PM yX10_isPlace cX10_isPlace 1 (Option.some Jvm.ClassFile.FieldType.boolean) rm_X10_isPlace [.int x] P A g (fun v g' => v = some (.int (b32 (decide (¬ x < 0 ∧ x < 2)))) ∧ g = g') := by
  refine px_intro (by decide +kernel) (Nat.le_of_ble_eq_true rfl) (fun K sz C R => ?_)
  show V K 0 0 P A g [(0, .int x)] 0 []
  refine g_iload_n (pc := 0) C dX10_isPlace_0 0 rfl ?_
  refine g_if_lt (pc := 1) C dX10_isPlace_1 (tgt := 13) (by decide) (fun c_1 => ?_) (fun c_1 => ?_)
  ·
    refine g_iconst (pc := 13) C dX10_isPlace_13 (v := nI 0) rfl ?_
    exact g_zret (pc := 14) C R (Or.inl rfl) ⟨rfl, rfl, by rw [decide_eq_false (fun q => q.1 c_1)]; rfl, rfl⟩ (by decide) (by decide) dX10_isPlace_14
  ·
    refine g_iload_n (pc := 4) C dX10_isPlace_4 0 rfl ?_
    refine g_iconst (pc := 5) C dX10_isPlace_5 (v := nI 2) rfl ?_
    refine g_icmp_ge (pc := 6) C dX10_isPlace_6 (tgt := 13) (by decide) (fun c_6 => ?_) (fun c_6 => ?_)
    ·
      refine g_iconst (pc := 13) C dX10_isPlace_13 (v := nI 0) rfl ?_
      exact g_zret (pc := 14) C R (Or.inl rfl) ⟨rfl, rfl, by rw [decide_eq_false (fun q => i32_nlt c_6 q.2)]; rfl, rfl⟩ (by decide) (by decide) dX10_isPlace_14
    ·
      refine g_iconst (pc := 9) C dX10_isPlace_9 (v := nI 1) rfl ?_
      refine g_goto (pc := 10) C dX10_isPlace_10 (tgt := 14) (by decide) ?_
      exact g_zret (pc := 14) C R (Or.inr rfl) ⟨rfl, rfl, by rw [decide_eq_true ⟨c_1, i32_lt c_6⟩]; rfl, rfl⟩ (by decide) (by decide) dX10_isPlace_14
abbrev rm_X10_node : Room := { frames := 4, cells := 0, slots := 0, locals := 81 }
theorem Y_X10_node : pY yX10_node cX10_node 1 (Option.some Jvm.ClassFile.FieldType.int) := ⟨u_361, u_362, u_1, u_363⟩
theorem N_X10_node : yX10_node.cls ≠ "java/lang/invoke/MethodHandle" ∧ yX10_node.cls ≠ "java/lang/invoke/VarHandle" ∧ (parseMethodDescriptor yX10_node.desc).map (fun d => d.parameters.length) = some 0 := by decide +kernel
set_option maxRecDepth 20000 in
set_option maxHeartbeats 4000000 in
theorem c_X10_node (A : Nat → Nat) (P : List Nat) (g : pM) (w : Nat) {B : Nat} {cs : List Nat} {σ : Sg} {ks : Nat → Option Sg} (hS : SW B cs σ) (hX : VB A g w cs σ ks) : PM yX10_node cX10_node 1 (Option.some Jvm.ClassFile.FieldType.int) rm_X10_node [.ref (A (w + 15010))] P A g (fun v g' => (16 ≤ gK σ ∧ v = some (.int (-4)) ∧ g = g') ∨ (gK σ < 16 ∧ v = some (.int (nI (gK σ))) ∧ VB A g' w cs (sK (sNd σ (gK σ) nd0) (gK σ + 1)) ks)) := by
  obtain ⟨hO, hT, ⟨pl, ll, hV, hW, hC, hP, hL⟩, hXr⟩ := id hX
  have hK := hW.k16
  refine px_intro (by decide +kernel) (Nat.le_of_ble_eq_true rfl) (fun K sz C R => ?_)
  show V K 0 0 P A g [(0, .ref (A (w + 15010)))] 0 []
  refine g_aload_n (pc := 0) C dX10_node_0 0 rfl ?_
  refine g_get (pc := 1) C (j := 1) hO rfl rfl (by decide) u_325 dX10_node_1 ?_
  refine g_callV (pc := 4) C (As := []) (rest := []) (b := w) (c_X9_openNode A P g w hW) (WD.wb hW).1 rfl rfl Y_X9_openNode u_364 N_X9_openNode ⟨by decide, by decide⟩ ⟨by decide, by decide⟩ (Nat.le_of_ble_eq_true rfl) rfl dX10_node_4 ?_
  rintro v0 _ _ g1 ⟨rfl, rfl, hc⟩
  rcases hc with ⟨hfull, rfl, rfl⟩ | ⟨hroom, rfl, hW1, hf1⟩
  ·
    show V K 0 0 P A g [(0, .ref (A (w + 15010)))] 7 [.int (-4)]
    exact g_iret (pc := 7) C R ⟨rfl, rfl, Or.inl ⟨hfull, rfl, rfl⟩⟩ (by decide) (by decide) dX10_node_7
  ·
    show V K 0 0 P A g1 [(0, .ref (A (w + 15010)))] 7 [.int (nI (gK σ))]
    exact g_iret (pc := 7) C R ⟨rfl, rfl, Or.inr ⟨hroom, rfl, hX.v hf1 hW1⟩⟩ (by decide) (by decide) dX10_node_7
abbrev rm_X10_stop : Room := { frames := 5, cells := 0, slots := 0, locals := 112 }
theorem Y_X10_stop : pY yX10_stop cX10_stop 3 (Option.some Jvm.ClassFile.FieldType.int) := ⟨u_413, u_414, u_1, u_415⟩
theorem N_X10_stop : yX10_stop.cls ≠ "java/lang/invoke/MethodHandle" ∧ yX10_stop.cls ≠ "java/lang/invoke/VarHandle" ∧ (parseMethodDescriptor yX10_stop.desc).map (fun d => d.parameters.length) = some 1 := by decide +kernel
set_option maxRecDepth 20000 in
set_option maxHeartbeats 4000000 in
theorem c_X10_stop (A : Nat → Nat) (P : List Nat) (g : pM) (w : Nat) {B : Nat} {cs : List Nat} {σ : Sg} {ks : Nat → Option Sg} (x : Int32) (hS : SW B cs σ) (hX : VB A g w cs σ ks) : PM yX10_stop cX10_stop 3 (Option.some Jvm.ClassFile.FieldType.int) rm_X10_stop [.ref (A (w + 15010)), .int x] P A g (fun v g' => (rfA σ x ≠ 0 ∧ v = some (.int (rfA σ x)) ∧ g = g') ∨ (∃ i, i < gK σ ∧ x = nI i ∧ lvd σ i = true ∧ v = some (.int (nI ((gR σ).length - ((gR σ).filter (fun t => !(t.2.1 == i))).length))) ∧ VB A g' w cs (hlt σ i) ks)) := by
  obtain ⟨hO, hT, ⟨pl, ll, hV, hW, hC, hP, hL⟩, hXr⟩ := id hX
  have hK := hW.k16
  refine px_intro (by decide +kernel) (Nat.le_of_ble_eq_true rfl) (fun K sz C R => ?_)
  show V K 0 0 P A g [(0, .ref (A (w + 15010))), (1, .int x)] 0 []
  refine g_aload_n (pc := 0) C dX10_stop_0 0 rfl ?_
  refine g_iload_n (pc := 1) C dX10_stop_1 1 rfl ?_
  refine g_callV (pc := 2) C (As := [.int x]) (rest := []) (b := (w + 15010)) (c_X10_refusedActor A P g w x hO hW) hO rfl rfl Y_X10_refusedActor u_416 N_X10_refusedActor ⟨by decide, by decide⟩ ⟨by decide, by decide⟩ (Nat.le_of_ble_eq_true rfl) rfl dX10_stop_2 ?_
  rintro _ _ _ _ ⟨rfl, rfl, rfl, rfl⟩
  show V K 0 0 P A g [(0, .ref (A (w + 15010))), (1, .int x)] 5 [.int (rfA σ x)]
  refine g_istore_n (pc := 5) C dX10_stop_5 (by decide) (lv' := [(0, .ref (A (w + 15010))), (1, .int x), (2, .int (rfA σ x))]) [1, 2, 0] rfl ?_
  refine g_iload_n (pc := 6) C dX10_stop_6 2 rfl ?_
  refine g_if_eq (pc := 7) C dX10_stop_7 (tgt := 14) (by decide) (fun c_7 => ?_) (fun c_7 => ?_)
  ·
    obtain ⟨i, hi, rfl, hlv⟩ := rfA_0 hK c_7
    refine g_aload_n (pc := 14) C dX10_stop_14 0 rfl ?_
    refine g_get (pc := 15) C (j := 1) hO rfl rfl (by decide) u_325 dX10_stop_15 ?_
    refine g_aload_n (pc := 18) C dX10_stop_18 0 rfl ?_
    refine g_get (pc := 19) C (j := 1) hO rfl rfl (by decide) u_325 dX10_stop_19 ?_
    refine g_iload_n (pc := 22) C dX10_stop_22 1 rfl ?_
    refine g_callV (pc := 23) C (As := [.int (nI i)]) (rest := [.ref (A w)]) (b := w) (c_X9_nodeAt A P g w i (by omega) (WD.wb hW)) (WD.wb hW).1 rfl rfl Y_X9_nodeAt u_389 N_X9_nodeAt ⟨by decide, by decide⟩ ⟨by decide, by decide⟩ (Nat.le_of_ble_eq_true rfl) rfl dX10_stop_23 ?_
    rintro _ _ _ _ ⟨rfl, rfl, rfl, rfl⟩
    show V K 0 0 P A g [(0, .ref (A (w + 15010))), (1, .int (nI i)), (2, .int (rfA σ (nI i)))] 26 [.ref (A (w + 100 + 100 * i)), .ref (A w)]
    refine g_callV (pc := 26) C (As := [.ref (A (w + 100 + 100 * i))]) (rest := []) (b := w) (c_X9_halt A P g w i hi (fun m hm => hS.dw hm) hW) (WD.wb hW).1 rfl rfl Y_X9_halt u_420 N_X9_halt ⟨by decide, by decide⟩ ⟨by decide, by decide⟩ (Nat.le_of_ble_eq_true rfl) rfl dX10_stop_26 ?_
    rintro _ _ _ g1 ⟨rfl, rfl, rfl, hW1, hf1⟩
    show V K 0 0 P A g1 [(0, .ref (A (w + 15010))), (1, .int (nI i)), (2, .int (rfA σ (nI i)))] 29 [.int (nI ((gR σ).length - ((gR σ).filter (fun t => !(t.2.1 == i))).length))]
    exact g_iret (pc := 29) C R ⟨rfl, rfl, Or.inr ⟨i, hi, rfl, hlv, rfl, hX.v hf1.w hW1⟩⟩ (by decide) (by decide) dX10_stop_29
  ·
    refine g_iload_n (pc := 10) C dX10_stop_10 2 rfl ?_
    refine g_goto (pc := 11) C dX10_stop_11 (tgt := 29) (by decide) ?_
    exact g_iret (pc := 29) C R ⟨rfl, rfl, Or.inl ⟨c_7, rfl, rfl⟩⟩ (by decide) (by decide) dX10_stop_29
abbrev rm_X10_mix : Room := { frames := 5, cells := 0, slots := 0, locals := 120 }
theorem Y_X10_mix : pY yX10_mix cX10_mix 3 (Option.some Jvm.ClassFile.FieldType.int) := ⟨u_450, u_451, u_1, u_452⟩
theorem N_X10_mix : yX10_mix.cls ≠ "java/lang/invoke/MethodHandle" ∧ yX10_mix.cls ≠ "java/lang/invoke/VarHandle" ∧ (parseMethodDescriptor yX10_mix.desc).map (fun d => d.parameters.length) = some 1 := by decide +kernel
set_option maxRecDepth 20000 in
set_option maxHeartbeats 4000000 in
theorem c_X10_mix (A : Nat → Nat) (P : List Nat) (g : pM) (w : Nat) {B : Nat} {cs : List Nat} {σ : Sg} {ks : Nat → Option Sg} (x : Int32) (hS : SW B cs σ) (hX : VB A g w cs σ ks) : PM yX10_mix cX10_mix 3 (Option.some Jvm.ClassFile.FieldType.int) rm_X10_mix [.ref (A (w + 15010)), .int x] P A g (fun v g' => (rfA σ x ≠ 0 ∧ v = some (.int (rfA σ x)) ∧ g = g') ∨ (∃ i, i < gK σ ∧ x = nI i ∧ lvd σ i = true ∧ v = some (.int (match (bgm cs σ i).1 with | none => -5 | some q => nI q)) ∧ VB A g' w cs (bgm cs σ i).2 ks)) := by
  obtain ⟨hO, hT, ⟨pl, ll, hV, hW, hC, hP, hL⟩, hXr⟩ := id hX
  have hK := hW.k16
  refine px_intro (by decide +kernel) (Nat.le_of_ble_eq_true rfl) (fun K sz C R => ?_)
  show V K 0 0 P A g [(0, .ref (A (w + 15010))), (1, .int x)] 0 []
  refine g_aload_n (pc := 0) C dX10_mix_0 0 rfl ?_
  refine g_iload_n (pc := 1) C dX10_mix_1 1 rfl ?_
  refine g_callV (pc := 2) C (As := [.int x]) (rest := []) (b := (w + 15010)) (c_X10_refusedActor A P g w x hO hW) hO rfl rfl Y_X10_refusedActor u_416 N_X10_refusedActor ⟨by decide, by decide⟩ ⟨by decide, by decide⟩ (Nat.le_of_ble_eq_true rfl) rfl dX10_mix_2 ?_
  rintro _ _ _ _ ⟨rfl, rfl, rfl, rfl⟩
  show V K 0 0 P A g [(0, .ref (A (w + 15010))), (1, .int x)] 5 [.int (rfA σ x)]
  refine g_istore_n (pc := 5) C dX10_mix_5 (by decide) (lv' := [(0, .ref (A (w + 15010))), (1, .int x), (2, .int (rfA σ x))]) [1, 2, 0] rfl ?_
  refine g_iload_n (pc := 6) C dX10_mix_6 2 rfl ?_
  refine g_if_eq (pc := 7) C dX10_mix_7 (tgt := 14) (by decide) (fun c_7 => ?_) (fun c_7 => ?_)
  ·
    obtain ⟨i, hi, rfl, hlv⟩ := rfA_0 hK c_7
    refine g_aload_n (pc := 14) C dX10_mix_14 0 rfl ?_
    refine g_get (pc := 15) C (j := 2) hO rfl rfl (by decide) u_326 dX10_mix_15 ?_
    refine g_aload_n (pc := 18) C dX10_mix_18 0 rfl ?_
    refine g_get (pc := 19) C (j := 1) hO rfl rfl (by decide) u_325 dX10_mix_19 ?_
    refine g_iload_n (pc := 22) C dX10_mix_22 1 rfl ?_
    refine g_callV (pc := 23) C (As := [.int (nI i)]) (rest := [.ref (A (w + 15000))]) (b := w) (c_X9_nodeAt A P g w i (by omega) (WD.wb hW)) (WD.wb hW).1 rfl rfl Y_X9_nodeAt u_389 N_X9_nodeAt ⟨by decide, by decide⟩ ⟨by decide, by decide⟩ (Nat.le_of_ble_eq_true rfl) rfl dX10_mix_23 ?_
    rintro _ _ _ _ ⟨rfl, rfl, rfl, rfl⟩
    show V K 0 0 P A g [(0, .ref (A (w + 15010))), (1, .int (nI i)), (2, .int (rfA σ (nI i)))] 26 [.ref (A (w + 100 + 100 * i)), .ref (A (w + 15000))]
    refine g_callV (pc := 26) C (As := [.ref (A (w + 100 + 100 * i))]) (rest := []) (b := (w + 15000)) (c_X8_beginMix A P g w i hi hS ⟨hV, hW, hC, hP, hL⟩) hV rfl rfl Y_X8_beginMix u_453 N_X8_beginMix ⟨by decide, by decide⟩ ⟨by decide, by decide⟩ (Nat.le_of_ble_eq_true rfl) rfl dX10_mix_26 ?_
    rintro _ _ _ g1 ⟨rfl, rfl, rfl, hv1, hf1⟩
    show V K 0 0 P A g1 [(0, .ref (A (w + 15010))), (1, .int (nI i)), (2, .int (rfA σ (nI i)))] 29 [.int (match (bgm cs σ i).1 with | none => -5 | some q => nI q)]
    exact g_iret (pc := 29) C R ⟨rfl, rfl, Or.inr ⟨i, hi, rfl, hlv, rfl, hX.t hf1.t hv1⟩⟩ (by decide) (by decide) dX10_mix_29
  ·
    refine g_iload_n (pc := 10) C dX10_mix_10 2 rfl ?_
    refine g_goto (pc := 11) C dX10_mix_11 (tgt := 29) (by decide) ?_
    exact g_iret (pc := 29) C R ⟨rfl, rfl, Or.inl ⟨c_7, rfl, rfl⟩⟩ (by decide) (by decide) dX10_mix_29
abbrev rm_X10_tick : Room := { frames := 7, cells := 0, slots := 0, locals := 164 }
theorem Y_X10_tick : pY yX10_tick cX10_tick 1 (Option.some Jvm.ClassFile.FieldType.int) := ⟨u_529, u_530, u_1, u_531⟩
theorem N_X10_tick : yX10_tick.cls ≠ "java/lang/invoke/MethodHandle" ∧ yX10_tick.cls ≠ "java/lang/invoke/VarHandle" ∧ (parseMethodDescriptor yX10_tick.desc).map (fun d => d.parameters.length) = some 0 := by decide +kernel
set_option maxRecDepth 20000 in
set_option maxHeartbeats 4000000 in
theorem c_X10_tick (A : Nat → Nat) (P : List Nat) (g : pM) (w : Nat) {B : Nat} {cs : List Nat} {σ : Sg} {ks : Nat → Option Sg} (hS : SW B cs σ) (hX : VB A g w cs σ ks) : PM yX10_tick cX10_tick 1 (Option.some Jvm.ClassFile.FieldType.int) rm_X10_tick [.ref (A (w + 15010))] P A g (fun v g' => v = some (.int (gTi (pss σ))) ∧ VB A g' w cs (pss σ) ks) := by
  obtain ⟨hO, hT, ⟨pl, ll, hV, hW, hC, hP, hL⟩, hXr⟩ := id hX
  have hK := hW.k16
  refine px_intro (by decide +kernel) (Nat.le_of_ble_eq_true rfl) (fun K sz C R => ?_)
  show V K 0 0 P A g [(0, .ref (A (w + 15010)))] 0 []
  refine g_aload_n (pc := 0) C dX10_tick_0 0 rfl ?_
  refine g_get (pc := 1) C (j := 3) hO rfl rfl (by decide) u_327 dX10_tick_1 ?_
  refine g_callV (pc := 4) C (As := []) (rest := []) (b := (w + 15007)) (c_X7_pass A P g w hS hT hW) hT rfl rfl Y_X7_pass u_532 N_X7_pass ⟨by decide, by decide⟩ ⟨by decide, by decide⟩ (Nat.le_of_ble_eq_true rfl) rfl dX10_tick_4 ?_
  rintro _ _ _ g1 ⟨rfl, rfl, rfl, hW1, hf1⟩
  show V K 0 0 P A g1 [(0, .ref (A (w + 15010)))] 7 [.int (gTi (pss σ))]
  exact g_iret (pc := 7) C R ⟨rfl, rfl, rfl, hX.v hf1.w hW1⟩ (by decide) (by decide) dX10_tick_7
