-- PART 05: the lists of numbers (NodeList)
/-- the object at a is a NodeList that holds l; its array stands at the code behind it -/
def NL (A : Nat → Nat) (g : pM) (a cap : Nat) (l : List Int32) : Prop :=
  l.length ≤ cap ∧ cap < 1000 ∧ g a = ob 4 [.ref (A (a + 1)), .int (nI l.length)] ∧ ∃ row : Nat → Int32, g (a + 1) = ai 0 cap row ∧ ∀ i, i < l.length → l[i]? = some (row i)
def nlAt (l : List Int32) (i : Int32) : Int32 := if i < 0 then -6 else (l[i.toNatClampNeg]?).getD (-6)
def nlPl (l : List Int32) (q : Int32) : Int32 := if q ∈ l then nI (l.idxOf q) else -6
def b32 (b : Bool) : Int32 := if b then 1 else 0
theorem NL.get {A : Nat → Nat} {g : pM} {a cap : Nat} {l : List Int32} (h : NL A g a cap l) : g a = ob 4 [.ref (A (a + 1)), .int (nI l.length)] := h.2.2.1
/-- a list is the same in a memory that is the same at its two cells -/
theorem NL.cong {A : Nat → Nat} {g g' : pM} {a cap : Nat} {l : List Int32} (h : NL A g a cap l) (h1 : g' a = g a) (h2 : g' (a + 1) = g (a + 1)) : NL A g' a cap l := by
  obtain ⟨p1, p2, p3, row, p4, p5⟩ := h
  exact ⟨p1, p2, h1.trans p3, row, h2.trans p4, p5⟩
theorem nlAt_neg {l : List Int32} {i : Int32} (h : i < 0) : nlAt l i = -6 := by simp [nlAt, h]
theorem nlAt_in {l : List Int32} {j : Nat} {x : Int32} (hj : j < 2 ^ 31) (h : l[j]? = some x) : nlAt l (nI j) = x := by
  simp [nlAt, nI_pos hj, nI_clamp hj, h]
theorem nlAt_out {l : List Int32} {i : Int32} (hl : l.length < 2 ^ 31) (h : nI l.length ≤ i) : nlAt l i = -6 := by
  by_cases h0 : i < 0
  · exact nlAt_neg h0
  · obtain ⟨j, hj, rfl⟩ := nI_of h0
    have := (nI_leI hl hj).mp h
    simp [nlAt, nI_clamp hj, List.getElem?_eq_none this]
theorem nlPl_hit {l : List Int32} {q : Int32} {i : Nat} (h : l[i]? = some q) (hn : ∀ j, j < i → l[j]? ≠ some q) : nlPl l q = nI i := by
  have hi : i < l.length := (List.getElem?_eq_some_iff.mp h).1
  have hm : q ∈ l := List.mem_of_getElem? h
  have h1 : l.idxOf q < l.length := List.idxOf_lt_length_of_mem hm
  have h2 : l[l.idxOf q]? = some q := by
    rw [List.getElem?_eq_getElem h1]
    simp
  have h3 : ¬ l.idxOf q < i := fun hh => hn _ hh h2
  have h4 : ¬ i < l.idxOf q := by
    intro hh
    have := List.not_of_lt_findIdx (p := (· == q)) (xs := l) (i := i) hh
    have e := (List.getElem?_eq_some_iff.mp h).2
    simp [e] at this
  have : l.idxOf q = i := by omega
  simp [nlPl, hm, this]
theorem nlPl_miss {l : List Int32} {q : Int32} (hn : ∀ j, j < l.length → l[j]? ≠ some q) : nlPl l q = -6 := by
  have : q ∉ l := by
    intro h
    obtain ⟨i, hi⟩ := List.mem_iff_getElem?.mp h
    exact hn i (List.getElem?_eq_some_iff.mp hi).1 hi
  simp [nlPl, this]
theorem nlPl_none {l : List Int32} {q : Int32} (hl : l.length < 2 ^ 31) : nlPl l q = -6 ↔ q ∉ l := by
  by_cases h : q ∈ l
  · have h1 : l.idxOf q < l.length := List.idxOf_lt_length_of_mem h
    simp only [nlPl, h, if_true, not_true, iff_false]
    intro e
    have := nI_pos (n := l.idxOf q) (by omega)
    rw [e] at this
    exact this (by decide)
  · simp [nlPl, h]
theorem nlRm {l : List Int32} {q : Int32} (hl : l.length < 2 ^ 31) : (if nlPl l q < 0 then l else l.eraseIdx (nlPl l q).toNatClampNeg) = l.erase q := by
  by_cases h : q ∈ l
  · have h1 : l.idxOf q < l.length := List.idxOf_lt_length_of_mem h
    have e : nlPl l q = nI (l.idxOf q) := by simp [nlPl, h]
    rw [e, if_neg (nI_pos (by omega)), nI_clamp (by omega)]
    exact (List.erase_eq_eraseIdx_of_idxOf rfl).symm
  · have e : nlPl l q = -6 := by simp [nlPl, h]
    rw [e, if_pos (by decide), List.erase_of_not_mem h]
/-- shifted down from s to j -/
def sh (row : Nat → Int32) (s j : Nat) : Nat → Int32 := fun k => if s ≤ k ∧ k < j then row (k + 1) else row k
theorem sh_0 (row : Nat → Int32) (s : Nat) : sh row s s = row := by
  funext k
  simp only [sh]
  rw [if_neg (by omega)]
theorem sh_s {row : Nat → Int32} {s j : Nat} (h : s ≤ j) : upd (sh row s j) j (sh row s j (j + 1)) = sh row s (j + 1) := by
  funext k
  simp only [upd, sh]
  by_cases hk : k = j
  · subst hk
    rw [if_pos rfl, if_neg (by omega), if_pos (by omega)]
  · rw [if_neg hk]
    by_cases h2 : s ≤ k ∧ k < j
    · rw [if_pos h2, if_pos (by omega)]
    · rw [if_neg h2, if_neg (by omega)]
theorem NL_erase {l : List Int32} {row : Nat → Int32} {s j : Nat} (hs : s < l.length) (hj : l.length ≤ j + 1) (hrow : ∀ i, i < l.length → l[i]? = some (row i)) : ∀ i, i < (l.eraseIdx s).length → (l.eraseIdx s)[i]? = some (sh row s j i) := by
  intro i hi
  rw [List.length_eraseIdx_of_lt hs] at hi
  rw [List.getElem?_eraseIdx]
  simp only [sh]
  by_cases h : i < s
  · rw [if_pos h, if_neg (by omega)]
    exact hrow i (by omega)
  · rw [if_neg h, if_pos (by omega)]
    exact hrow (i + 1) (by omega)
theorem NL_push {l : List Int32} {row : Nat → Int32} {q : Int32} (hrow : ∀ i, i < l.length → l[i]? = some (row i)) : ∀ i, i < (l ++ [q]).length → (l ++ [q])[i]? = some (upd row l.length q i) := by
  intro i hi
  simp only [List.length_append, List.length_singleton] at hi
  by_cases h : i < l.length
  · rw [List.getElem?_append_left h, hrow i h]
    simp [upd, Nat.ne_of_lt h]
  · have : i = l.length := by omega
    subst this
    simp [upd]
/-- the first i of l2, then row -/
def cp (l2 : List Int32) (row : Nat → Int32) (i : Nat) : Nat → Int32 := fun k => if k < i then nlAt l2 (nI k) else row k
theorem cp_s {l2 : List Int32} {row : Nat → Int32} {i : Nat} : upd (cp l2 row i) i (nlAt l2 (nI i)) = cp l2 row (i + 1) := by
  funext k
  simp only [upd, cp]
  by_cases hk : k = i
  · subst hk
    simp
  · rw [if_neg hk]
    by_cases h2 : k < i
    · rw [if_pos h2, if_pos (by omega)]
    · rw [if_neg h2, if_neg (by omega)]
theorem cp_0 {l2 : List Int32} {row : Nat → Int32} : cp l2 row 0 = row := by
  funext k
  simp [cp]
theorem NL_copy {l2 : List Int32} {row : Nat → Int32} {cap i : Nat} (hc : cap < 1000) (hi : min l2.length cap ≤ i) : ∀ k, k < (l2.take cap).length → (l2.take cap)[k]? = some (cp l2 row i k) := by
  intro k hk
  simp only [List.length_take] at hk
  have h1 : k < l2.length := by omega
  rw [List.getElem?_take_of_lt (by omega)]
  simp only [cp, if_pos (show k < i by omega)]
  rw [nlAt_in (by omega) (List.getElem?_eq_getElem h1), List.getElem?_eq_getElem h1]
theorem nI_min {a b : Nat} (ha : a < 2 ^ 31) (hb : b < 2 ^ 31) : (if nI b < nI a then nI b else nI a) = nI (min a b) := by
  by_cases h : b < a
  · rw [if_pos ((nI_ltI hb ha).mpr h), Nat.min_eq_right (by omega)]
  · rw [if_neg (fun q => h ((nI_ltI hb ha).mp q)), Nat.min_eq_left (by omega)]
theorem list_ext {l l2 : List Int32} (h1 : l.length = l2.length) (h : ∀ j, j < l.length → l[j]? = l2[j]?) : l = l2 := by
  apply List.ext_getElem?
  intro j
  by_cases hj : j < l.length
  · exact h j hj
  · rw [List.getElem?_eq_none (by omega), List.getElem?_eq_none (by omega)]
theorem i32_nlt {x y : Int32} (h : y ≤ x) : ¬ x < y := by
  rw [Int32.lt_iff_toInt_lt]
  rw [Int32.le_iff_toInt_le] at h
  omega
theorem i32_le {x y : Int32} (h : ¬ x < y) : y ≤ x := by
  rw [Int32.lt_iff_toInt_lt] at h
  rw [Int32.le_iff_toInt_le]
  omega
theorem nl_er_out {l : List Int32} {i : Int32} (h0 : ¬ i < 0) (hl : l.length < 2 ^ 31) (h : ¬ i < nI l.length) : l.eraseIdx i.toNatClampNeg = l := by
  obtain ⟨j, hj, rfl⟩ := nI_of h0
  rw [nI_clamp hj]
  exact List.eraseIdx_of_length_le ((nI_leI hl hj).mp (i32_le h))
abbrev rm_X4_at : Room := { frames := 0, cells := 0, slots := 0, locals := 0 }
theorem Y_X4_at : pY yX4_at cX4_at 2 (Option.some Jvm.ClassFile.FieldType.int) := ⟨u_463, u_464, u_6, u_465⟩
theorem N_X4_at : yX4_at.cls ≠ "java/lang/invoke/MethodHandle" ∧ yX4_at.cls ≠ "java/lang/invoke/VarHandle" ∧ (parseMethodDescriptor yX4_at.desc).map (fun d => d.parameters.length) = some 1 := by decide +kernel
set_option maxRecDepth 20000 in
set_option maxHeartbeats 4000000 in
theorem c_X4_at (A : Nat → Nat) (P : List Nat) (g : pM) (a : Nat) {cap : Nat} {l : List Int32} (i : Int32) (h : NL A g a cap l) : PM yX4_at cX4_at 2 (Option.some Jvm.ClassFile.FieldType.int) rm_X4_at [.ref (A a), .int i] P A g (fun v g' => v = some (.int (nlAt l i)) ∧ g = g') := by
  have hNL := h
  obtain ⟨hlen, hcap, ha, row, hb, hrow⟩ := h
  refine px_intro (by decide +kernel) (Nat.le_of_ble_eq_true rfl) (fun K sz C R => ?_)
  show V K 0 0 P A g [(0, .ref (A a)), (1, .int i)] 0 []
  refine g_iload_n (pc := 0) C dX4_at_0 1 rfl ?_
  refine g_if_lt (pc := 1) C dX4_at_1 (tgt := 21) (by decide) (fun c_1 => ?_) (fun c_1 => ?_)
  ·
    refine g_bipush (pc := 21) C dX4_at_21 (v := (-6)) rfl ?_
    exact g_iret (pc := 23) C R ⟨rfl, rfl, by rw [nlAt_neg c_1], rfl⟩ (by decide) (by decide) dX4_at_23
  ·
    refine g_iload_n (pc := 4) C dX4_at_4 1 rfl ?_
    refine g_aload_n (pc := 5) C dX4_at_5 0 rfl ?_
    refine g_get (pc := 6) C (j := 1) ha rfl rfl (by decide) u_94 dX4_at_6 ?_
    refine g_icmp_ge (pc := 9) C dX4_at_9 (tgt := 21) (by decide) (fun c_9 => ?_) (fun c_9 => ?_)
    ·
      refine g_bipush (pc := 21) C dX4_at_21 (v := (-6)) rfl ?_
      exact g_iret (pc := 23) C R ⟨rfl, rfl, by rw [nlAt_out (by omega) c_9], rfl⟩ (by decide) (by decide) dX4_at_23
    ·
      obtain ⟨j, hj, hij⟩ : ∃ j : Nat, j < l.length ∧ i = nI j := by rcases pk_ix i (n := l.length) (by omega) with q | q | q; exact absurd q c_1; exact absurd q c_9; exact q
      refine g_aload_n (pc := 12) C dX4_at_12 0 rfl ?_
      refine g_get (pc := 13) C (j := 0) ha rfl rfl (by decide) u_93 dX4_at_13 ?_
      refine g_iload_n (pc := 16) C dX4_at_16 1 rfl ?_
      refine g_iald (pc := 17) C hb (by rw [hij]; exact nI_clamp (by omega)) (by rw [hij]; exact nI_in0 (by omega) (by omega)) dX4_at_17 (x := row j) rfl ?_
      refine g_goto (pc := 18) C dX4_at_18 (tgt := 23) (by decide) ?_
      exact g_iret (pc := 23) C R ⟨rfl, rfl, by rw [hij, nlAt_in (by omega) (hrow j hj)], rfl⟩ (by decide) (by decide) dX4_at_23
abbrev rm_X4_placeOf : Room := { frames := 0, cells := 0, slots := 0, locals := 0 }
theorem Y_X4_placeOf : pY yX4_placeOf cX4_placeOf 3 (Option.some Jvm.ClassFile.FieldType.int) := ⟨u_441, u_442, u_6, u_443⟩
theorem N_X4_placeOf : yX4_placeOf.cls ≠ "java/lang/invoke/MethodHandle" ∧ yX4_placeOf.cls ≠ "java/lang/invoke/VarHandle" ∧ (parseMethodDescriptor yX4_placeOf.desc).map (fun d => d.parameters.length) = some 1 := by decide +kernel
set_option maxRecDepth 20000 in
set_option maxHeartbeats 4000000 in
theorem c_X4_placeOf (A : Nat → Nat) (P : List Nat) (g : pM) (a : Nat) {cap : Nat} {l : List Int32} (q : Int32) (h : NL A g a cap l) : PM yX4_placeOf cX4_placeOf 3 (Option.some Jvm.ClassFile.FieldType.int) rm_X4_placeOf [.ref (A a), .int q] P A g (fun v g' => v = some (.int (nlPl l q)) ∧ g = g') := by
  have hNL := h
  obtain ⟨hlen, hcap, ha, row, hb, hrow⟩ := h
  refine px_intro (by decide +kernel) (Nat.le_of_ble_eq_true rfl) (fun K sz C R => ?_)
  show V K 0 0 P A g [(0, .ref (A a)), (1, .int q)] 0 []
  refine g_iconst (pc := 0) C dX4_placeOf_0 (v := nI 0) rfl ?_
  refine g_istore_n (pc := 1) C dX4_placeOf_1 (by decide) (lv' := [(0, .ref (A a)), (1, .int q), (2, .int (nI 0))]) [1, 2, 0] rfl ?_
  have lp_2 : ∀ (n : Nat) (i : Nat) (hi : i ≤ l.length) (hq : ∀ j, j < i → l[j]? ≠ some q), l.length - i < n → V K 0 0 P A g [(0, .ref (A a)), (1, .int q), (2, .int (nI i))] 2 [] := by
    intro n
    induction n with
    | zero => intro i hi hq hμ; exact absurd hμ (Nat.not_lt_zero _)
    | succ n ih =>
      intro i hi hq hμ
      refine g_iload_n (pc := 2) C dX4_placeOf_2 2 rfl ?_
      refine g_aload_n (pc := 3) C dX4_placeOf_3 0 rfl ?_
      refine g_get (pc := 4) C (j := 1) ha rfl rfl (by decide) u_94 dX4_placeOf_4 ?_
      refine g_icmp_ge (pc := 7) C dX4_placeOf_7 (tgt := 28) (by decide) (fun c_7 => ?_) (fun c_7 => ?_)
      ·
        have c_7 : l.length ≤ i := (nI_leI (by omega) (by omega)).mp c_7
        refine g_bipush (pc := 28) C dX4_placeOf_28 (v := (-6)) rfl ?_
        exact g_iret (pc := 30) C R ⟨rfl, rfl, by rw [nlPl_miss (fun j hj => hq j (by omega))], rfl⟩ (by decide) (by decide) dX4_placeOf_30
      ·
        have c_7 : ¬ l.length ≤ i := fun h => c_7 ((nI_leI (by omega) (by omega)).mpr h)
        refine g_aload_n (pc := 10) C dX4_placeOf_10 0 rfl ?_
        refine g_get (pc := 11) C (j := 0) ha rfl rfl (by decide) u_93 dX4_placeOf_11 ?_
        refine g_iload_n (pc := 14) C dX4_placeOf_14 2 rfl ?_
        refine g_iald (pc := 15) C hb (nI_clamp (by omega)) (nI_in0 (n := cap) (by omega) (by omega)) dX4_placeOf_15 (x := row i) rfl ?_
        refine g_iload_n (pc := 16) C dX4_placeOf_16 1 rfl ?_
        refine g_icmp_ne (pc := 17) C dX4_placeOf_17 (tgt := 22) (by decide) (fun c_17 => ?_) (fun c_17 => ?_)
        ·
          refine g_iinc (pc := 22) C dX4_placeOf_22 (by decide) 2 rfl (v := nI (i + 1)) (nI_i1 _) (lv' := [(0, .ref (A a)), (1, .int q), (2, .int (nI (i + 1)))]) [1, 2, 0] rfl ?_
          refine g_goto (pc := 25) C dX4_placeOf_25 (tgt := 2) (by decide) ?_
          exact ih (i + 1) (by omega) (fun j hj => by rcases Nat.lt_succ_iff_lt_or_eq.mp hj with h | rfl; exact hq j h; rw [hrow j (by omega)]; intro h; exact c_17 (Option.some.inj h)) (by omega)
        ·
          refine g_iload_n (pc := 20) C dX4_placeOf_20 2 rfl ?_
          exact g_iret (pc := 21) C R ⟨rfl, rfl, by rw [nlPl_hit ((hrow i (by omega)).trans (by rw [c_17])) hq], rfl⟩ (by decide) (by decide) dX4_placeOf_21
  exact lp_2 (_ + 1) 0 (Nat.zero_le _) (fun j hj => absurd hj (Nat.not_lt_zero j)) (Nat.lt_succ_self _)
abbrev rm_X4_has : Room := { frames := 1, cells := 0, slots := 0, locals := 22 }
theorem Y_X4_has : pY yX4_has cX4_has 2 (Option.some Jvm.ClassFile.FieldType.boolean) := ⟨u_437, u_438, u_6, u_439⟩
theorem N_X4_has : yX4_has.cls ≠ "java/lang/invoke/MethodHandle" ∧ yX4_has.cls ≠ "java/lang/invoke/VarHandle" ∧ (parseMethodDescriptor yX4_has.desc).map (fun d => d.parameters.length) = some 1 := by decide +kernel
set_option maxRecDepth 20000 in
set_option maxHeartbeats 4000000 in
theorem c_X4_has (A : Nat → Nat) (P : List Nat) (g : pM) (a : Nat) {cap : Nat} {l : List Int32} (q : Int32) (h : NL A g a cap l) : PM yX4_has cX4_has 2 (Option.some Jvm.ClassFile.FieldType.boolean) rm_X4_has [.ref (A a), .int q] P A g (fun v g' => v = some (.int (b32 (decide (q ∈ l)))) ∧ g = g') := by
  have hNL := h
  obtain ⟨hlen, hcap, ha, row, hb, hrow⟩ := h
  refine px_intro (by decide +kernel) (Nat.le_of_ble_eq_true rfl) (fun K sz C R => ?_)
  show V K 0 0 P A g [(0, .ref (A a)), (1, .int q)] 0 []
  refine g_aload_n (pc := 0) C dX4_has_0 0 rfl ?_
  refine g_iload_n (pc := 1) C dX4_has_1 1 rfl ?_
  refine g_callV (pc := 2) C (As := [.int q]) (rest := []) (b := a) (c_X4_placeOf A P g a q hNL) ha rfl rfl Y_X4_placeOf u_440 N_X4_placeOf ⟨by decide, by decide⟩ ⟨by decide, by decide⟩ (Nat.le_of_ble_eq_true rfl) rfl dX4_has_2 ?_
  rintro _ _ _ _ ⟨rfl, rfl, rfl, rfl⟩
  show V K 0 0 P A g [(0, .ref (A a)), (1, .int q)] 5 [.int (nlPl l q)]
  refine g_bipush (pc := 5) C dX4_has_5 (v := (-6)) rfl ?_
  refine g_icmp_eq (pc := 7) C dX4_has_7 (tgt := 14) (by decide) (fun c_7 => ?_) (fun c_7 => ?_)
  ·
    refine g_iconst (pc := 14) C dX4_has_14 (v := nI 0) rfl ?_
    exact g_zret (pc := 15) C R (Or.inl rfl) ⟨rfl, rfl, by rw [show decide (q ∈ l) = false from decide_eq_false ((nlPl_none (by omega)).mp c_7)]; rfl, rfl⟩ (by decide) (by decide) dX4_has_15
  ·
    refine g_iconst (pc := 10) C dX4_has_10 (v := nI 1) rfl ?_
    refine g_goto (pc := 11) C dX4_has_11 (tgt := 15) (by decide) ?_
    exact g_zret (pc := 15) C R (Or.inr rfl) ⟨rfl, rfl, by rw [show decide (q ∈ l) = true from decide_eq_true (Classical.byContradiction (fun hh => c_7 ((nlPl_none (by omega)).mpr hh)))]; rfl, rfl⟩ (by decide) (by decide) dX4_has_15
abbrev rm_X4_put : Room := { frames := 0, cells := 0, slots := 0, locals := 0 }
theorem Y_X4_put : pY yX4_put cX4_put 2 (Option.none : Option Jvm.ClassFile.FieldType) := ⟨u_467, u_468, u_6, u_469⟩
theorem N_X4_put : yX4_put.cls ≠ "java/lang/invoke/MethodHandle" ∧ yX4_put.cls ≠ "java/lang/invoke/VarHandle" ∧ (parseMethodDescriptor yX4_put.desc).map (fun d => d.parameters.length) = some 1 := by decide +kernel
set_option maxRecDepth 20000 in
set_option maxHeartbeats 4000000 in
theorem c_X4_put (A : Nat → Nat) (P : List Nat) (g : pM) (a : Nat) {cap : Nat} {l : List Int32} (q : Int32) (h : NL A g a cap l) : PM yX4_put cX4_put 2 (Option.none : Option Jvm.ClassFile.FieldType) rm_X4_put [.ref (A a), .int q] P A g (fun v g' => v = none ∧ NL A g' a cap (if l.length < cap then l ++ [q] else l) ∧ ∀ k, k ≠ a → k ≠ a + 1 → g' k = g k) := by
  have hNL := h
  obtain ⟨hlen, hcap, ha, row, hb, hrow⟩ := h
  refine px_intro (by decide +kernel) (Nat.le_of_ble_eq_true rfl) (fun K sz C R => ?_)
  show V K 0 0 P A g [(0, .ref (A a)), (1, .int q)] 0 []
  refine g_aload_n (pc := 0) C dX4_put_0 0 rfl ?_
  refine g_get (pc := 1) C (j := 1) ha rfl rfl (by decide) u_94 dX4_put_1 ?_
  refine g_aload_n (pc := 4) C dX4_put_4 0 rfl ?_
  refine g_get (pc := 5) C (j := 0) ha rfl rfl (by decide) u_93 dX4_put_5 ?_
  refine g_alen (pc := 8) C hb dX4_put_8 ?_
  refine g_icmp_ge (pc := 9) C dX4_put_9 (tgt := 32) (by decide) (fun c_9 => ?_) (fun c_9 => ?_)
  ·
    have c_9 : cap ≤ l.length := (nI_leI (by omega) (by omega)).mp c_9
    have c_9 : ¬ l.length < cap := by omega
    exact g_vret (pc := 32) C R ⟨rfl, rfl, rfl, by rw [if_neg c_9]; exact hNL, fun _ _ _ => rfl⟩ (by decide) (by decide) dX4_put_32
  ·
    have c_9 : ¬ cap ≤ l.length := fun h => c_9 ((nI_leI (by omega) (by omega)).mpr h)
    have c_9 : l.length < cap := by omega
    refine g_aload_n (pc := 12) C dX4_put_12 0 rfl ?_
    refine g_get (pc := 13) C (j := 0) ha rfl rfl (by decide) u_93 dX4_put_13 ?_
    refine g_aload_n (pc := 16) C dX4_put_16 0 rfl ?_
    refine g_get (pc := 17) C (j := 1) ha rfl rfl (by decide) u_94 dX4_put_17 ?_
    refine g_iload_n (pc := 20) C dX4_put_20 1 rfl ?_
    refine g_iast (pc := 21) C hb (nI_clamp (by omega)) (nI_in0 (n := cap) (by omega) (by omega)) dX4_put_21 ?_
    obtain ⟨g_1, hg_1⟩ : ∃ y : pM, y = va_up g (a + 1) (ai 0 cap (upd row l.length q)) := ⟨_, rfl⟩
    show V K 0 0 P A (va_up g (a + 1) (ai 0 cap (upd row l.length q))) [(0, .ref (A a)), (1, .int q)] 22 []
    rw [← hg_1]
    have h_2 : g_1 a = ob 4 [.ref (A (a + 1)), .int (nI l.length)] := by rw [hg_1, va_up_ne _ _ (show a ≠ a + 1 from by omega)]; exact ha
    have h_3 : g_1 (a + 1) = ai 0 cap (upd row l.length q) := by rw [hg_1]; exact va_up_self _ _ _
    refine g_aload_n (pc := 22) C dX4_put_22 0 rfl ?_
    refine g_dup (pc := 23) C dX4_put_23 rfl ?_
    refine g_get (pc := 24) C (j := 1) h_2 rfl rfl (by decide) u_94 dX4_put_24 ?_
    refine g_iconst (pc := 27) C dX4_put_27 (v := nI 1) rfl ?_
    refine g_iadd (pc := 28) C dX4_put_28 (z := nI (l.length + 1)) (nI_add _ _) ?_
    refine g_put (pc := 29) C (j := 1) h_2 rfl (by decide) (Nat.le_of_ble_eq_true rfl) u_94 rfl pfd_I rfl rfl dX4_put_29 ?_
    obtain ⟨g_4, hg_4⟩ : ∃ y : pM, y = va_up g_1 a (ob 4 [.ref (A (a + 1)), .int (nI (l.length + 1))]) := ⟨_, rfl⟩
    show V K 0 0 P A (va_up g_1 a (ob 4 [.ref (A (a + 1)), .int (nI (l.length + 1))])) [(0, .ref (A a)), (1, .int q)] 32 []
    rw [← hg_4]
    have h_5 : g_4 a = ob 4 [.ref (A (a + 1)), .int (nI (l.length + 1))] := by rw [hg_4]; exact va_up_self _ _ _
    have h_6 : g_4 (a + 1) = ai 0 cap (upd row l.length q) := by rw [hg_4, va_up_ne _ _ (show a + 1 ≠ a from by omega)]; exact h_3
    exact g_vret (pc := 32) C R ⟨rfl, rfl, rfl, by rw [if_pos c_9]; exact ⟨by simp; omega, hcap, by rw [h_5]; simp, _, h_6, NL_push hrow⟩, fun k h1 h2 => by rw [hg_4, va_up_ne _ _ (by assumption), hg_1, va_up_ne _ _ (by assumption)]⟩ (by decide) (by decide) dX4_put_32
abbrev rm_X4_removeAt : Room := { frames := 0, cells := 0, slots := 0, locals := 0 }
theorem Y_X4_removeAt : pY yX4_removeAt cX4_removeAt 3 (Option.none : Option Jvm.ClassFile.FieldType) := ⟨u_487, u_488, u_6, u_489⟩
theorem N_X4_removeAt : yX4_removeAt.cls ≠ "java/lang/invoke/MethodHandle" ∧ yX4_removeAt.cls ≠ "java/lang/invoke/VarHandle" ∧ (parseMethodDescriptor yX4_removeAt.desc).map (fun d => d.parameters.length) = some 1 := by decide +kernel
set_option maxRecDepth 20000 in
set_option maxHeartbeats 4000000 in
theorem c_X4_removeAt (A : Nat → Nat) (P : List Nat) (g : pM) (a : Nat) {cap : Nat} {l : List Int32} (i : Int32) (h : NL A g a cap l) : PM yX4_removeAt cX4_removeAt 3 (Option.none : Option Jvm.ClassFile.FieldType) rm_X4_removeAt [.ref (A a), .int i] P A g (fun v g' => v = none ∧ NL A g' a cap (if i < 0 then l else l.eraseIdx i.toNatClampNeg) ∧ ∀ k, k ≠ a → k ≠ a + 1 → g' k = g k) := by
  have hNL := h
  obtain ⟨hlen, hcap, ha, row, hb, hrow⟩ := h
  refine px_intro (by decide +kernel) (Nat.le_of_ble_eq_true rfl) (fun K sz C R => ?_)
  show V K 0 0 P A g [(0, .ref (A a)), (1, .int i)] 0 []
  refine g_iload_n (pc := 0) C dX4_removeAt_0 1 rfl ?_
  refine g_if_lt (pc := 1) C dX4_removeAt_1 (tgt := 12) (by decide) (fun c_1 => ?_) (fun c_1 => ?_)
  ·
    exact g_vret (pc := 12) C R ⟨rfl, rfl, rfl, by rw [if_pos c_1]; exact hNL, fun _ _ _ => rfl⟩ (by decide) (by decide) dX4_removeAt_12
  ·
    refine g_iload_n (pc := 4) C dX4_removeAt_4 1 rfl ?_
    refine g_aload_n (pc := 5) C dX4_removeAt_5 0 rfl ?_
    refine g_get (pc := 6) C (j := 1) ha rfl rfl (by decide) u_94 dX4_removeAt_6 ?_
    refine g_icmp_lt (pc := 9) C dX4_removeAt_9 (tgt := 13) (by decide) (fun c_9 => ?_) (fun c_9 => ?_)
    ·
      obtain ⟨j, hj, hij⟩ : ∃ j : Nat, j < l.length ∧ i = nI j := by rcases pk_ix i (n := l.length) (by omega) with q | q | q; exact absurd q c_1; exact absurd c_9 (i32_nlt q); exact q
      refine g_iload_n (pc := 13) C dX4_removeAt_13 1 rfl ?_
      refine g_istore_n (pc := 14) C dX4_removeAt_14 (by decide) (lv' := [(0, .ref (A a)), (1, .int i), (2, .int i)]) [1, 2, 0] rfl ?_
      have lp_15 : ∀ (n : Nat) (t : Nat) (ht : j ≤ t) (ht2 : t < l.length), l.length - t < n → V K 0 0 P A (va_up g (a + 1) (ai 0 cap (sh row j t))) [(0, .ref (A a)), (1, .int i), (2, .int (nI t))] 15 [] := by
        intro n
        induction n with
        | zero => intro t ht ht2 hμ; exact absurd hμ (Nat.not_lt_zero _)
        | succ n ih =>
          intro t ht ht2 hμ
          obtain ⟨gl, hgl⟩ : ∃ y : pM, y = va_up g (a + 1) (ai 0 cap (sh row j t)) := ⟨_, rfl⟩
          rw [← hgl]
          have hla : gl a = ob 4 [.ref (A (a + 1)), .int (nI l.length)] := by rw [hgl, va_up_ne _ _ (by omega)]; exact ha
          have hlb : gl (a + 1) = ai 0 cap (sh row j t) := by rw [hgl]; exact va_up_self _ _ _
          refine g_iload_n (pc := 15) C dX4_removeAt_15 2 rfl ?_
          refine g_iconst (pc := 16) C dX4_removeAt_16 (v := nI 1) rfl ?_
          refine g_iadd (pc := 17) C dX4_removeAt_17 (z := nI (t + 1)) (nI_add _ _) ?_
          refine g_aload_n (pc := 18) C dX4_removeAt_18 0 rfl ?_
          refine g_get (pc := 19) C (j := 1) hla rfl rfl (by decide) u_94 dX4_removeAt_19 ?_
          refine g_icmp_ge (pc := 22) C dX4_removeAt_22 (tgt := 45) (by decide) (fun c_22 => ?_) (fun c_22 => ?_)
          ·
            have c_22 : l.length ≤ (t + 1) := (nI_leI (by omega) (by omega)).mp c_22
            refine g_aload_n (pc := 45) C dX4_removeAt_45 0 rfl ?_
            refine g_dup (pc := 46) C dX4_removeAt_46 rfl ?_
            refine g_get (pc := 47) C (j := 1) hla rfl rfl (by decide) u_94 dX4_removeAt_47 ?_
            refine g_iconst (pc := 50) C dX4_removeAt_50 (v := nI 1) rfl ?_
            refine g_isub (pc := 51) C dX4_removeAt_51 (z := nI (l.length - 1)) (pk_sub (by omega)) ?_
            refine g_put (pc := 52) C (j := 1) hla rfl (by decide) (Nat.le_of_ble_eq_true rfl) u_94 rfl pfd_I rfl rfl dX4_removeAt_52 ?_
            obtain ⟨g_1, hg_1⟩ : ∃ y : pM, y = va_up gl a (ob 4 [.ref (A (a + 1)), .int (nI (l.length - 1))]) := ⟨_, rfl⟩
            show V K 0 0 P A (va_up gl a (ob 4 [.ref (A (a + 1)), .int (nI (l.length - 1))])) [(0, .ref (A a)), (1, .int i), (2, .int (nI t))] 55 []
            rw [← hg_1]
            have h_2 : g_1 a = ob 4 [.ref (A (a + 1)), .int (nI (l.length - 1))] := by rw [hg_1]; exact va_up_self _ _ _
            have h_3 : g_1 (a + 1) = ai 0 cap (sh row j t) := by rw [hg_1, va_up_ne _ _ (show a + 1 ≠ a from by omega)]; exact hlb
            exact g_vret (pc := 55) C R ⟨rfl, rfl, rfl, by rw [if_neg c_1, hij, nI_clamp (by omega)]; exact ⟨by rw [List.length_eraseIdx_of_lt hj]; omega, hcap, by rw [h_2, List.length_eraseIdx_of_lt hj], _, h_3, NL_erase hj (by omega) hrow⟩, fun k h1 h2 => by rw [hg_1, va_up_ne _ _ h1, hgl, va_up_ne _ _ h2]⟩ (by decide) (by decide) dX4_removeAt_55
          ·
            have c_22 : ¬ l.length ≤ (t + 1) := fun h => c_22 ((nI_leI (by omega) (by omega)).mpr h)
            refine g_aload_n (pc := 25) C dX4_removeAt_25 0 rfl ?_
            refine g_get (pc := 26) C (j := 0) hla rfl rfl (by decide) u_93 dX4_removeAt_26 ?_
            refine g_iload_n (pc := 29) C dX4_removeAt_29 2 rfl ?_
            refine g_aload_n (pc := 30) C dX4_removeAt_30 0 rfl ?_
            refine g_get (pc := 31) C (j := 0) hla rfl rfl (by decide) u_93 dX4_removeAt_31 ?_
            refine g_iload_n (pc := 34) C dX4_removeAt_34 2 rfl ?_
            refine g_iconst (pc := 35) C dX4_removeAt_35 (v := nI 1) rfl ?_
            refine g_iadd (pc := 36) C dX4_removeAt_36 (z := nI (t + 1)) (nI_add _ _) ?_
            refine g_iald (pc := 37) C hlb (nI_clamp (by omega)) (nI_in0 (n := cap) (by omega) (by omega)) dX4_removeAt_37 (x := (sh row j t) (t + 1)) rfl ?_
            refine g_iast (pc := 38) C hlb (nI_clamp (by omega)) (nI_in0 (n := cap) (by omega) (by omega)) dX4_removeAt_38 ?_
            obtain ⟨g_4, hg_4⟩ : ∃ y : pM, y = va_up gl (a + 1) (ai 0 cap (upd (sh row j t) t ((sh row j t) (t + 1)))) := ⟨_, rfl⟩
            show V K 0 0 P A (va_up gl (a + 1) (ai 0 cap (upd (sh row j t) t ((sh row j t) (t + 1))))) [(0, .ref (A a)), (1, .int i), (2, .int (nI t))] 39 []
            rw [← hg_4]
            have h_5 : g_4 a = ob 4 [.ref (A (a + 1)), .int (nI l.length)] := by rw [hg_4, va_up_ne _ _ (show a ≠ a + 1 from by omega)]; exact hla
            have h_6 : g_4 (a + 1) = ai 0 cap (upd (sh row j t) t ((sh row j t) (t + 1))) := by rw [hg_4]; exact va_up_self _ _ _
            refine g_iinc (pc := 39) C dX4_removeAt_39 (by decide) 2 rfl (v := nI (t + 1)) (nI_i1 _) (lv' := [(0, .ref (A a)), (1, .int i), (2, .int (nI (t + 1)))]) [1, 2, 0] rfl ?_
            refine g_goto (pc := 42) C dX4_removeAt_42 (tgt := 15) (by decide) ?_
            rw [show g_4 = va_up g (a + 1) (ai 0 cap (sh row j (t + 1))) from by rw [hg_4, hgl, bx_uu, sh_s ht]]
            exact ih (t + 1) (by omega) (by omega) (by omega)
      rw [show g = va_up g (a + 1) (ai 0 cap (sh row j j)) from (va_up_id (by rw [hb, sh_0])).symm]
      rw [show V K 0 0 P A (va_up g (a + 1) (ai 0 cap (sh row j j))) [(0, .ref (A a)), (1, .int i), (2, .int i)] 15 [] = V K 0 0 P A (va_up g (a + 1) (ai 0 cap (sh row j j))) [(0, .ref (A a)), (1, .int i), (2, .int (nI j))] 15 [] from by rw [hij]]
      exact lp_15 (_ + 1) j (Nat.le_refl _) hj (Nat.lt_succ_self _)
    ·
      exact g_vret (pc := 12) C R ⟨rfl, rfl, rfl, by rw [if_neg c_1, nl_er_out c_1 (by omega) c_9]; exact hNL, fun _ _ _ => rfl⟩ (by decide) (by decide) dX4_removeAt_12
abbrev rm_X4_remove : Room := { frames := 1, cells := 0, slots := 0, locals := 22 }
theorem Y_X4_remove : pY yX4_remove cX4_remove 2 (Option.none : Option Jvm.ClassFile.FieldType) := ⟨u_599, u_600, u_6, u_601⟩
theorem N_X4_remove : yX4_remove.cls ≠ "java/lang/invoke/MethodHandle" ∧ yX4_remove.cls ≠ "java/lang/invoke/VarHandle" ∧ (parseMethodDescriptor yX4_remove.desc).map (fun d => d.parameters.length) = some 1 := by decide +kernel
set_option maxRecDepth 20000 in
set_option maxHeartbeats 4000000 in
theorem c_X4_remove (A : Nat → Nat) (P : List Nat) (g : pM) (a : Nat) {cap : Nat} {l : List Int32} (q : Int32) (h : NL A g a cap l) : PM yX4_remove cX4_remove 2 (Option.none : Option Jvm.ClassFile.FieldType) rm_X4_remove [.ref (A a), .int q] P A g (fun v g' => v = none ∧ NL A g' a cap (l.erase q) ∧ ∀ k, k ≠ a → k ≠ a + 1 → g' k = g k) := by
  have hNL := h
  obtain ⟨hlen, hcap, ha, row, hb, hrow⟩ := h
  refine px_intro (by decide +kernel) (Nat.le_of_ble_eq_true rfl) (fun K sz C R => ?_)
  show V K 0 0 P A g [(0, .ref (A a)), (1, .int q)] 0 []
  refine g_aload_n (pc := 0) C dX4_remove_0 0 rfl ?_
  refine g_aload_n (pc := 1) C dX4_remove_1 0 rfl ?_
  refine g_iload_n (pc := 2) C dX4_remove_2 1 rfl ?_
  refine g_callV (pc := 3) C (As := [.int q]) (rest := [.ref (A a)]) (b := a) (c_X4_placeOf A P g a q hNL) ha rfl rfl Y_X4_placeOf u_440 N_X4_placeOf ⟨by decide, by decide⟩ ⟨by decide, by decide⟩ (Nat.le_of_ble_eq_true rfl) rfl dX4_remove_3 ?_
  rintro _ _ _ _ ⟨rfl, rfl, rfl, rfl⟩
  show V K 0 0 P A g [(0, .ref (A a)), (1, .int q)] 6 [.int (nlPl l q), .ref (A a)]
  refine g_callV (pc := 6) C (As := [.int (nlPl l q)]) (rest := []) (b := a) (c_X4_removeAt A P g a (nlPl l q) hNL) ha rfl rfl Y_X4_removeAt u_602 N_X4_removeAt ⟨by decide, by decide⟩ ⟨by decide, by decide⟩ (Nat.le_of_ble_eq_true rfl) rfl dX4_remove_6 ?_
  rintro _ _ _ g1 ⟨rfl, rfl, rfl, h1, h2⟩
  rw [nlRm (by omega)] at h1
  show V K 0 0 P A g1 [(0, .ref (A a)), (1, .int q)] 9 []
  exact g_vret (pc := 9) C R ⟨rfl, rfl, rfl, h1, h2⟩ (by decide) (by decide) dX4_remove_9
abbrev rm_X4_clear : Room := { frames := 0, cells := 0, slots := 0, locals := 0 }
theorem Y_X4_clear : pY yX4_clear cX4_clear 1 (Option.none : Option Jvm.ClassFile.FieldType) := ⟨u_373, u_374, u_6, u_375⟩
theorem N_X4_clear : yX4_clear.cls ≠ "java/lang/invoke/MethodHandle" ∧ yX4_clear.cls ≠ "java/lang/invoke/VarHandle" ∧ (parseMethodDescriptor yX4_clear.desc).map (fun d => d.parameters.length) = some 0 := by decide +kernel
set_option maxRecDepth 20000 in
set_option maxHeartbeats 4000000 in
theorem c_X4_clear (A : Nat → Nat) (P : List Nat) (g : pM) (a : Nat) {cap : Nat} {l : List Int32} (h : NL A g a cap l) : PM yX4_clear cX4_clear 1 (Option.none : Option Jvm.ClassFile.FieldType) rm_X4_clear [.ref (A a)] P A g (fun v g' => v = none ∧ NL A g' a cap ([]) ∧ ∀ k, k ≠ a → k ≠ a + 1 → g' k = g k) := by
  have hNL := h
  obtain ⟨hlen, hcap, ha, row, hb, hrow⟩ := h
  refine px_intro (by decide +kernel) (Nat.le_of_ble_eq_true rfl) (fun K sz C R => ?_)
  show V K 0 0 P A g [(0, .ref (A a))] 0 []
  refine g_aload_n (pc := 0) C dX4_clear_0 0 rfl ?_
  refine g_iconst (pc := 1) C dX4_clear_1 (v := nI 0) rfl ?_
  refine g_put (pc := 2) C (j := 1) ha rfl (by decide) (Nat.le_of_ble_eq_true rfl) u_94 rfl pfd_I rfl rfl dX4_clear_2 ?_
  obtain ⟨g_1, hg_1⟩ : ∃ y : pM, y = va_up g a (ob 4 [.ref (A (a + 1)), .int (nI 0)]) := ⟨_, rfl⟩
  show V K 0 0 P A (va_up g a (ob 4 [.ref (A (a + 1)), .int (nI 0)])) [(0, .ref (A a))] 5 []
  rw [← hg_1]
  have h_2 : g_1 a = ob 4 [.ref (A (a + 1)), .int (nI 0)] := by rw [hg_1]; exact va_up_self _ _ _
  have h_3 : g_1 (a + 1) = ai 0 cap row := by rw [hg_1, va_up_ne _ _ (show a + 1 ≠ a from by omega)]; exact hb
  exact g_vret (pc := 5) C R ⟨rfl, rfl, rfl, ⟨Nat.zero_le _, hcap, h_2, row, h_3, fun i hi => absurd hi (Nat.not_lt_zero i)⟩, fun k h1 h2 => by rw [hg_1, va_up_ne _ _ h1]⟩ (by decide) (by decide) dX4_clear_5
abbrev rm_X4_isSameAs : Room := { frames := 1, cells := 0, slots := 0, locals := 21 }
theorem Y_X4_isSameAs : pY yX4_isSameAs cX4_isSameAs 3 (Option.some Jvm.ClassFile.FieldType.boolean) := ⟨u_843, u_844, u_6, u_845⟩
theorem N_X4_isSameAs : yX4_isSameAs.cls ≠ "java/lang/invoke/MethodHandle" ∧ yX4_isSameAs.cls ≠ "java/lang/invoke/VarHandle" ∧ (parseMethodDescriptor yX4_isSameAs.desc).map (fun d => d.parameters.length) = some 1 := by decide +kernel
set_option maxRecDepth 20000 in
set_option maxHeartbeats 4000000 in
theorem c_X4_isSameAs (A : Nat → Nat) (P : List Nat) (g : pM) (a : Nat) {cap : Nat} {l : List Int32} (o : Nat) {cap2 : Nat} {l2 : List Int32} (h : NL A g a cap l) (hb2 : NL A g o cap2 l2) : PM yX4_isSameAs cX4_isSameAs 3 (Option.some Jvm.ClassFile.FieldType.boolean) rm_X4_isSameAs [.ref (A a), .ref (A o)] P A g (fun v g' => v = some (.int (b32 (decide (l = l2)))) ∧ g = g') := by
  have hNL := h
  obtain ⟨hlen, hcap, ha, row, hb, hrow⟩ := h
  have hNL2 := hb2
  obtain ⟨hlen2, hcap2, ha2, row2, hb2, hrow2⟩ := hb2
  refine px_intro (by decide +kernel) (Nat.le_of_ble_eq_true rfl) (fun K sz C R => ?_)
  show V K 0 0 P A g [(0, .ref (A a)), (1, .ref (A o))] 0 []
  refine g_aload_n (pc := 0) C dX4_isSameAs_0 0 rfl ?_
  refine g_get (pc := 1) C (j := 1) ha rfl rfl (by decide) u_94 dX4_isSameAs_1 ?_
  refine g_aload_n (pc := 4) C dX4_isSameAs_4 1 rfl ?_
  refine g_get (pc := 5) C (j := 1) ha2 rfl rfl (by decide) u_94 dX4_isSameAs_5 ?_
  refine g_icmp_eq (pc := 8) C dX4_isSameAs_8 (tgt := 13) (by decide) (fun c_8 => ?_) (fun c_8 => ?_)
  ·
    have c_8 : l.length = l2.length := (nI_eq (by omega) (by omega)).mp c_8
    refine g_iconst (pc := 13) C dX4_isSameAs_13 (v := nI 0) rfl ?_
    refine g_istore_n (pc := 14) C dX4_isSameAs_14 (by decide) (lv' := [(0, .ref (A a)), (1, .ref (A o)), (2, .int (nI 0))]) [1, 2, 0] rfl ?_
    have lp_15 : ∀ (n : Nat) (i : Nat) (hi : i ≤ l.length) (hq : ∀ j, j < i → l[j]? = l2[j]?), l.length - i < n → V K 0 0 P A g [(0, .ref (A a)), (1, .ref (A o)), (2, .int (nI i))] 15 [] := by
      intro n
      induction n with
      | zero => intro i hi hq hμ; exact absurd hμ (Nat.not_lt_zero _)
      | succ n ih =>
        intro i hi hq hμ
        refine g_iload_n (pc := 15) C dX4_isSameAs_15 2 rfl ?_
        refine g_aload_n (pc := 16) C dX4_isSameAs_16 0 rfl ?_
        refine g_get (pc := 17) C (j := 1) ha rfl rfl (by decide) u_94 dX4_isSameAs_17 ?_
        refine g_icmp_ge (pc := 20) C dX4_isSameAs_20 (tgt := 45) (by decide) (fun c_20 => ?_) (fun c_20 => ?_)
        ·
          have c_20 : l.length ≤ i := (nI_leI (by omega) (by omega)).mp c_20
          refine g_iconst (pc := 45) C dX4_isSameAs_45 (v := nI 1) rfl ?_
          exact g_zret (pc := 46) C R (Or.inr rfl) ⟨rfl, rfl, by rw [show decide (l = l2) = true from decide_eq_true (list_ext c_8 (fun j hj => hq j (by omega)))]; rfl, rfl⟩ (by decide) (by decide) dX4_isSameAs_46
        ·
          have c_20 : ¬ l.length ≤ i := fun h => c_20 ((nI_leI (by omega) (by omega)).mpr h)
          refine g_aload_n (pc := 23) C dX4_isSameAs_23 0 rfl ?_
          refine g_get (pc := 24) C (j := 0) ha rfl rfl (by decide) u_93 dX4_isSameAs_24 ?_
          refine g_iload_n (pc := 27) C dX4_isSameAs_27 2 rfl ?_
          refine g_iald (pc := 28) C hb (nI_clamp (by omega)) (nI_in0 (n := cap) (by omega) (by omega)) dX4_isSameAs_28 (x := row i) rfl ?_
          refine g_aload_n (pc := 29) C dX4_isSameAs_29 1 rfl ?_
          refine g_iload_n (pc := 30) C dX4_isSameAs_30 2 rfl ?_
          refine g_callV (pc := 31) C (As := [.int (nI i)]) (rest := [.int (row i)]) (b := o) (c_X4_at A P g o (nI i) hNL2) ha2 rfl rfl Y_X4_at u_505 N_X4_at ⟨by decide, by decide⟩ ⟨by decide, by decide⟩ (Nat.le_of_ble_eq_true rfl) rfl dX4_isSameAs_31 ?_
          rintro _ _ _ _ ⟨rfl, rfl, rfl, rfl⟩
          show V K 0 0 P A g [(0, .ref (A a)), (1, .ref (A o)), (2, .int (nI i))] 34 [.int (nlAt l2 (nI i)), .int (row i)]
          refine g_icmp_eq (pc := 34) C dX4_isSameAs_34 (tgt := 39) (by decide) (fun c_34 => ?_) (fun c_34 => ?_)
          ·
            refine g_iinc (pc := 39) C dX4_isSameAs_39 (by decide) 2 rfl (v := nI (i + 1)) (nI_i1 _) (lv' := [(0, .ref (A a)), (1, .ref (A o)), (2, .int (nI (i + 1)))]) [1, 2, 0] rfl ?_
            refine g_goto (pc := 42) C dX4_isSameAs_42 (tgt := 15) (by decide) ?_
            exact ih (i + 1) (by omega) (fun j hj => by rcases Nat.lt_succ_iff_lt_or_eq.mp hj with h | rfl; exact hq j h; rw [hrow j (by omega), c_34, nlAt_in (by omega) (hrow2 j (by omega)), hrow2 j (by omega)]) (by omega)
          ·
            refine g_iconst (pc := 37) C dX4_isSameAs_37 (v := nI 0) rfl ?_
            exact g_zret (pc := 38) C R (Or.inl rfl) ⟨rfl, rfl, by rw [show decide (l = l2) = false from decide_eq_false (fun e => c_34 (by subst e; exact (nlAt_in (by omega) (hrow i (by omega))).symm))]; rfl, rfl⟩ (by decide) (by decide) dX4_isSameAs_38
    exact lp_15 (_ + 1) 0 (Nat.zero_le _) (fun j hj => absurd hj (Nat.not_lt_zero j)) (Nat.lt_succ_self _)
  ·
    have c_8 : ¬ l.length = l2.length := fun h => c_8 ((nI_eq (by omega) (by omega)).mpr h)
    refine g_iconst (pc := 11) C dX4_isSameAs_11 (v := nI 0) rfl ?_
    exact g_zret (pc := 12) C R (Or.inl rfl) ⟨rfl, rfl, by rw [show decide (l = l2) = false from decide_eq_false (fun e => c_8 (by rw [e]))]; rfl, rfl⟩ (by decide) (by decide) dX4_isSameAs_12
abbrev rm_X4_copyFrom : Room := { frames := 1, cells := 0, slots := 0, locals := 21 }
theorem Y_X4_copyFrom : pY yX4_copyFrom cX4_copyFrom 3 (Option.none : Option Jvm.ClassFile.FieldType) := ⟨u_499, u_500, u_6, u_501⟩
theorem N_X4_copyFrom : yX4_copyFrom.cls ≠ "java/lang/invoke/MethodHandle" ∧ yX4_copyFrom.cls ≠ "java/lang/invoke/VarHandle" ∧ (parseMethodDescriptor yX4_copyFrom.desc).map (fun d => d.parameters.length) = some 1 := by decide +kernel
set_option maxRecDepth 20000 in
set_option maxHeartbeats 4000000 in
theorem c_X4_copyFrom (A : Nat → Nat) (P : List Nat) (g : pM) (a : Nat) {cap : Nat} {l : List Int32} (o : Nat) {cap2 : Nat} {l2 : List Int32} (hx : o + 1 < a ∨ a + 1 < o) (h : NL A g a cap l) (hb2 : NL A g o cap2 l2) : PM yX4_copyFrom cX4_copyFrom 3 (Option.none : Option Jvm.ClassFile.FieldType) rm_X4_copyFrom [.ref (A a), .ref (A o)] P A g (fun v g' => v = none ∧ NL A g' a cap (l2.take cap) ∧ ∀ k, k ≠ a → k ≠ a + 1 → g' k = g k) := by
  have hNL := h
  obtain ⟨hlen, hcap, ha, row, hb, hrow⟩ := h
  have hNL2 := hb2
  obtain ⟨hlen2, hcap2, ha2, row2, hb2, hrow2⟩ := hb2
  refine px_intro (by decide +kernel) (Nat.le_of_ble_eq_true rfl) (fun K sz C R => ?_)
  show V K 0 0 P A g [(0, .ref (A a)), (1, .ref (A o))] 0 []
  refine g_aload_n (pc := 0) C dX4_copyFrom_0 0 rfl ?_
  refine g_aload_n (pc := 1) C dX4_copyFrom_1 1 rfl ?_
  refine g_get (pc := 2) C (j := 1) ha2 rfl rfl (by decide) u_94 dX4_copyFrom_2 ?_
  refine g_aload_n (pc := 5) C dX4_copyFrom_5 0 rfl ?_
  refine g_get (pc := 6) C (j := 0) ha rfl rfl (by decide) u_93 dX4_copyFrom_6 ?_
  refine g_alen (pc := 9) C hb dX4_copyFrom_9 ?_
  refine g_mmin (pc := 10) C u_502 u_503 u_7 u_504 (by decide) (Nat.le_of_ble_eq_true rfl) ⟨by decide, by decide⟩ dX4_copyFrom_10 (z := nI (min l2.length cap)) (nI_min (by omega) (by omega)) ?_
  refine g_put (pc := 13) C (j := 1) ha rfl (by decide) (Nat.le_of_ble_eq_true rfl) u_94 rfl pfd_I rfl rfl dX4_copyFrom_13 ?_
  obtain ⟨g_1, hg_1⟩ : ∃ y : pM, y = va_up g a (ob 4 [.ref (A (a + 1)), .int (nI (min l2.length cap))]) := ⟨_, rfl⟩
  show V K 0 0 P A (va_up g a (ob 4 [.ref (A (a + 1)), .int (nI (min l2.length cap))])) [(0, .ref (A a)), (1, .ref (A o))] 16 []
  rw [← hg_1]
  have h_2 : g_1 a = ob 4 [.ref (A (a + 1)), .int (nI (min l2.length cap))] := by rw [hg_1]; exact va_up_self _ _ _
  have h_3 : g_1 (a + 1) = ai 0 cap row := by rw [hg_1, va_up_ne _ _ (show a + 1 ≠ a from by omega)]; exact hb
  have h_4 : g_1 o = ob 4 [.ref (A (o + 1)), .int (nI l2.length)] := by rw [hg_1, va_up_ne _ _ (show o ≠ a from by omega)]; exact ha2
  have h_5 : g_1 (o + 1) = ai 0 cap2 row2 := by rw [hg_1, va_up_ne _ _ (show o + 1 ≠ a from by omega)]; exact hb2
  refine g_iconst (pc := 16) C dX4_copyFrom_16 (v := nI 0) rfl ?_
  refine g_istore_n (pc := 17) C dX4_copyFrom_17 (by decide) (lv' := [(0, .ref (A a)), (1, .ref (A o)), (2, .int (nI 0))]) [1, 2, 0] rfl ?_
  have lp_18 : ∀ (n : Nat) (i : Nat) (hi : i ≤ min l2.length cap), min l2.length cap - i < n → V K 0 0 P A (va_up g_1 (a + 1) (ai 0 cap (cp l2 row i))) [(0, .ref (A a)), (1, .ref (A o)), (2, .int (nI i))] 18 [] := by
    intro n
    induction n with
    | zero => intro i hi hμ; exact absurd hμ (Nat.not_lt_zero _)
    | succ n ih =>
      intro i hi hμ
      obtain ⟨gl, hgl⟩ : ∃ y : pM, y = va_up g_1 (a + 1) (ai 0 cap (cp l2 row i)) := ⟨_, rfl⟩
      rw [← hgl]
      have hla : gl a = ob 4 [.ref (A (a + 1)), .int (nI (min l2.length cap))] := by rw [hgl, va_up_ne _ _ (by omega)]; assumption
      have hlb : gl (a + 1) = ai 0 cap (cp l2 row i) := by rw [hgl]; exact va_up_self _ _ _
      have hla2 : gl o = ob 4 [.ref (A (o + 1)), .int (nI l2.length)] := by rw [hgl, va_up_ne _ _ (by omega)]; assumption
      have hlb2 : gl (o + 1) = ai 0 cap2 row2 := by rw [hgl, va_up_ne _ _ (by omega)]; assumption
      have hNLl : NL A gl o cap2 l2 := ⟨hlen2, hcap2, hla2, row2, hlb2, hrow2⟩
      refine g_iload_n (pc := 18) C dX4_copyFrom_18 2 rfl ?_
      refine g_aload_n (pc := 19) C dX4_copyFrom_19 0 rfl ?_
      refine g_get (pc := 20) C (j := 1) hla rfl rfl (by decide) u_94 dX4_copyFrom_20 ?_
      refine g_icmp_ge (pc := 23) C dX4_copyFrom_23 (tgt := 43) (by decide) (fun c_23 => ?_) (fun c_23 => ?_)
      ·
        have c_23 : (min l2.length cap) ≤ i := (nI_leI (by omega) (by omega)).mp c_23
        exact g_vret (pc := 43) C R ⟨rfl, rfl, rfl, ⟨by simp; omega, hcap, by rw [hla]; simp [Nat.min_comm], _, hlb, NL_copy hcap (by omega)⟩, fun k h1 h2 => by rw [hgl, va_up_ne _ _ h2, hg_1, va_up_ne _ _ h1]⟩ (by decide) (by decide) dX4_copyFrom_43
      ·
        have c_23 : ¬ (min l2.length cap) ≤ i := fun h => c_23 ((nI_leI (by omega) (by omega)).mpr h)
        refine g_aload_n (pc := 26) C dX4_copyFrom_26 0 rfl ?_
        refine g_get (pc := 27) C (j := 0) hla rfl rfl (by decide) u_93 dX4_copyFrom_27 ?_
        refine g_iload_n (pc := 30) C dX4_copyFrom_30 2 rfl ?_
        refine g_aload_n (pc := 31) C dX4_copyFrom_31 1 rfl ?_
        refine g_iload_n (pc := 32) C dX4_copyFrom_32 2 rfl ?_
        refine g_callV (pc := 33) C (As := [.int (nI i)]) (rest := [.int (nI i), .ref (A (a + 1))]) (b := o) (c_X4_at A P gl o (nI i) hNLl) hla2 rfl rfl Y_X4_at u_505 N_X4_at ⟨by decide, by decide⟩ ⟨by decide, by decide⟩ (Nat.le_of_ble_eq_true rfl) rfl dX4_copyFrom_33 ?_
        rintro _ _ _ _ ⟨rfl, rfl, rfl, rfl⟩
        show V K 0 0 P A gl [(0, .ref (A a)), (1, .ref (A o)), (2, .int (nI i))] 36 [.int (nlAt l2 (nI i)), .int (nI i), .ref (A (a + 1))]
        refine g_iast (pc := 36) C hlb (nI_clamp (by omega)) (nI_in0 (n := cap) (by omega) (by omega)) dX4_copyFrom_36 ?_
        obtain ⟨g_6, hg_6⟩ : ∃ y : pM, y = va_up gl (a + 1) (ai 0 cap (upd (cp l2 row i) i (nlAt l2 (nI i)))) := ⟨_, rfl⟩
        show V K 0 0 P A (va_up gl (a + 1) (ai 0 cap (upd (cp l2 row i) i (nlAt l2 (nI i))))) [(0, .ref (A a)), (1, .ref (A o)), (2, .int (nI i))] 37 []
        rw [← hg_6]
        have h_7 : g_6 a = ob 4 [.ref (A (a + 1)), .int (nI (min l2.length cap))] := by rw [hg_6, va_up_ne _ _ (show a ≠ a + 1 from by omega)]; exact hla
        have h_8 : g_6 (a + 1) = ai 0 cap (upd (cp l2 row i) i (nlAt l2 (nI i))) := by rw [hg_6]; exact va_up_self _ _ _
        have h_9 : g_6 o = ob 4 [.ref (A (o + 1)), .int (nI l2.length)] := by rw [hg_6, va_up_ne _ _ (show o ≠ a + 1 from by omega)]; exact hla2
        have h_10 : g_6 (o + 1) = ai 0 cap2 row2 := by rw [hg_6, va_up_ne _ _ (show o + 1 ≠ a + 1 from by omega)]; exact hlb2
        refine g_iinc (pc := 37) C dX4_copyFrom_37 (by decide) 2 rfl (v := nI (i + 1)) (nI_i1 _) (lv' := [(0, .ref (A a)), (1, .ref (A o)), (2, .int (nI (i + 1)))]) [1, 2, 0] rfl ?_
        refine g_goto (pc := 40) C dX4_copyFrom_40 (tgt := 18) (by decide) ?_
        rw [show g_6 = va_up g_1 (a + 1) (ai 0 cap (cp l2 row (i + 1))) from by rw [hg_6, hgl, bx_uu, cp_s]]
        exact ih (i + 1) (by omega) (by omega)
  rw [show g_1 = va_up g_1 (a + 1) (ai 0 cap (cp l2 row 0)) from (va_up_id (by rw [h_3, cp_0])).symm]
  exact lp_18 (_ + 1) 0 (Nat.zero_le _) (Nat.lt_succ_self _)
