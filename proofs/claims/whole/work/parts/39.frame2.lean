-- PART 39: the frame rule for contracts over a part of the pool
def cut (P : List Nat) (g : pM) : pM := fun k => if k ∈ P then g k else p0
theorem cut_in {P : List Nat} {g : pM} {k : Nat} (h : k ∈ P) : cut P g k = g k := if_pos h
/-- two memories together: the second where its codes are -/
def jnA {α : Type} (P2 : List Nat) (f2 f : Nat → α) : Nat → α := fun k => if k ∈ P2 then f2 k else f k
theorem jnA_2 {α : Type} {P2 : List Nat} {f2 f : Nat → α} {k : Nat} (h : k ∈ P2) : jnA P2 f2 f k = f2 k := if_pos h
theorem jnA_1 {α : Type} {P2 : List Nat} {f2 f : Nat → α} {k : Nat} (h : k ∉ P2) : jnA P2 f2 f k = f k := if_neg h
theorem pP_all {D : va_G} {P : List Nat} {A : Nat → Nat} {g : pM} {H : Heap} : va_P D vwCl (pws D P A g) H ↔ ∀ k ∈ P, va_at D vwCl (A k, pcv D (g k)) H := by
  constructor
  · intro h k hk
    obtain ⟨i, hi⟩ := p_ix hk
    exact h i _ (p_at hi)
  · intro h i q hq
    simp only [pws, List.getElem?_map, Option.map_eq_some_iff] at hq
    obtain ⟨k, hk, rfl⟩ := hq
    exact h k (List.mem_of_getElem? hk)
theorem px_frame {y : MethodName} {cc : ByteArray} {nL : Nat} {ret : Option FieldType} {rm : Room} {av : List Value} {P1 P2 : List Nat} {A : Nat → Nat} {g : pM} {post : pP} (hdis : ∀ k ∈ P1, k ∉ P2)
    (hpost : ∀ v P' A' g', post v P' A' g' → ∀ k ∈ P', k ∉ P2) (h : PX y cc nL ret rm av P1 A (cut P1 g) post) :
    PX y cc nL ret rm av (P1 ++ P2) A g (fun v Q B f => ∃ P' A' g', post v P' A' g' ∧ Q = P' ++ P2 ∧ B = jnA P2 A A' ∧ f = jnA P2 g g') := by
  intro l D sz
  have hm : ∀ q, pF P1 A sz q → pF (P1 ++ P2) A sz q := fun q hq => by
    rcases hq with ⟨j, hj, e⟩ | hq
    · exact Or.inl ⟨j, List.mem_append_left _ hj, e⟩
    · exact Or.inr hq
  refine MetFree.mono (h l D sz) (fun a s hp => ?_) (fun _ _ _ _ _ h => h) (fun a s o s' hp hq => ?_)
  · obtain ⟨ha, hsz, hI, hK, hN⟩ := hp
    refine ⟨ha, hsz, ⟨pP_all.mpr (fun k hk => ?_), fun k hk => if_neg hk⟩, hK, (List.nodup_append.mp hN.1).1, fun i hi j hj => hN.2 i (List.mem_append_left _ hi) j (List.mem_append_left _ hj)⟩
    rw [cut_in hk]
    exact pP_all.mp hI.1 k (List.mem_append_left _ hk)
  · obtain ⟨ha, hsz, hI, hK, hN⟩ := hp
    obtain ⟨⟨v, P', A', g', e1, e2, e3, e4, e5, e6⟩, L, hL1, hL2⟩ := hq
    have hd := hpost _ _ _ _ e2
    have hap : ∀ k ∈ P2, ¬ pF P1 A sz (A k) := fun k hk hq => by
      rcases hq with ⟨j, hj, e⟩ | hq
      · have := hN.2 k (List.mem_append_right _ hk) j (List.mem_append_left _ hj) e
        exact hdis j hj (this ▸ hk)
      · have := (pP_all.mp hI.1 k (List.mem_append_right _ hk)).lt
        rw [← hsz] at hq
        exact absurd this (Nat.not_lt.mpr hq)
    refine ⟨⟨v, P' ++ P2, jnA P2 A A', jnA P2 g g', e1, ⟨P', A', g', e2, rfl, rfl, rfl⟩, ⟨pP_all.mpr (fun k hk => ?_), fun k hk => ?_⟩, ⟨?_, fun i hi j hj e => ?_⟩, fun k hk => ?_, e6.1, fun q h1 h2 => e6.2 q h1 (fun z => h2 (hm q z))⟩, L, hL1, fun q hq => hm _ (hL2 q hq)⟩
    · by_cases k2 : k ∈ P2
      · rw [jnA_2 k2, jnA_2 k2]
        have h0 := pP_all.mp hI.1 k (List.mem_append_right _ k2)
        exact h0.kept (e6.2 _ h0.lt (hap k k2))
      · rw [jnA_1 k2, jnA_1 k2]
        exact pP_all.mp e3.1 k ((List.mem_append.mp hk).resolve_right k2)
    · rw [jnA_1 (fun z => hk (List.mem_append_right _ z))]
      exact e3.2 k (fun z => hk (List.mem_append_left _ z))
    · exact List.nodup_append.mpr ⟨e4.1, (List.nodup_append.mp hN.1).2.1, fun a ha b hb e => hd a ha (e ▸ hb)⟩
    · have cr : ∀ i j, i ∈ P' → i ∉ P2 → j ∈ P2 → A' i = A j → False := fun i j hi hi2 hj e => hap j hj (e ▸ e5 i hi)
      by_cases i2 : i ∈ P2
      · by_cases j2 : j ∈ P2
        · rw [jnA_2 i2, jnA_2 j2] at e
          exact hN.2 i (List.mem_append_right _ i2) j (List.mem_append_right _ j2) e
        · rw [jnA_2 i2, jnA_1 j2] at e
          exact (cr j i ((List.mem_append.mp hj).resolve_right j2) j2 i2 e.symm).elim
      · by_cases j2 : j ∈ P2
        · rw [jnA_1 i2, jnA_2 j2] at e
          exact (cr i j ((List.mem_append.mp hi).resolve_right i2) i2 j2 e).elim
        · rw [jnA_1 i2, jnA_1 j2] at e
          exact e4.2 i ((List.mem_append.mp hi).resolve_right i2) j ((List.mem_append.mp hj).resolve_right j2) e
    · by_cases k2 : k ∈ P2
      · rw [jnA_2 k2]
        exact Or.inl ⟨k, List.mem_append_right _ k2, rfl⟩
      · rw [jnA_1 k2]
        exact hm _ (e5 k ((List.mem_append.mp hk).resolve_right k2))
