-- PART 17: what the calls leave keeps what a state must keep
section KQ
variable {B i : Nat} {cs : List Nat} {σ : Sg}
theorem hlt1_SW (h : SW B cs σ) : SW B cs (hlt1 σ i) := by
  refine ⟨h.1, h.2.1, h.2.2.1, h.2.2.2.1, fun j hj => ?_, fun u hu => h.2.2.2.2.2.1 u (List.mem_filter.mp hu).1, h.2.2.2.2.2.2⟩
  show NW B (gK σ) (gT σ) (gZ σ) j (va_up (gN σ) i (sLv (gN σ i) false) j)
  by_cases e : j = i
  · subst e
    rw [va_up_self]
    exact h.nw hj
  · rw [va_up_ne _ _ e]
    exact h.nw hj
theorem hltF_SW (h : SW B cs σ) (hi : i < gK σ) : ∀ m, m ≤ gK σ → SW B cs (hltF σ i m)
  | 0, _ => h
  | m + 1, hm => by
    have h0 := hltF_SW h hi m (by omega)
    simp only [hltF]
    split
    · exact sd0_SW h0 (by rw [hltF_K]; exact hi) (by rw [hltF_K]; exact hm) (by omega)
    · exact h0
theorem hlt_SW (h : SW B cs σ) (hi : i < gK σ) : SW B cs (hlt σ i) := hltF_SW (hlt1_SW h) hi (gK σ) (Nat.le_refl _)
theorem bgm_SW (h : SW B cs σ) (hi : i < gK σ) : SW B cs (bgm cs σ i).2 := by
  have hk := h.2.1
  have hz := h.2.2.2.1
  cases e : dpV cs σ (wof none none (nAc (gN σ i))) with
  | none =>
    rw [bgm_n e]
    exact h.drw
  | some q =>
    have hq : q < gK σ := (h.nw hi).2.1 q (wof_mem (dpV_mem e).1)
    have h1 : SW B cs (dS cs σ (wof none none (nAc (gN σ i))).length) := h.drw
    have k1 : gK (dS cs σ (wof none none (nAc (gN σ i))).length) = gK σ := dS_K
    obtain ⟨⟨s2, p2, l2⟩, e2⟩ : ∃ R : Sg × List Nat × List Nat, lfp cs 2 (dS cs σ (wof none none (nAc (gN σ i))).length) (dpL cs σ (wof none none (nAc (gN σ i)))) ([] ++ [i]) = R := ⟨_, rfl⟩
    have h2 := lfp_S (n := 2) (p := dpL cs σ (wof none none (nAc (gN σ i)))) (l := [] ++ [i]) h1
    have k2 : gK (lfp cs 2 (dS cs σ (wof none none (nAc (gN σ i))).length) (dpL cs σ (wof none none (nAc (gN σ i)))) ([] ++ [i])).1 = gK σ := lfp_K.trans k1
    have m2 : ∀ z ∈ (lfp cs 2 (dS cs σ (wof none none (nAc (gN σ i))).length) (dpL cs σ (wof none none (nAc (gN σ i)))) ([] ++ [i])).2.2, z < gK σ := lfp_mem (Q := fun z => z < gK σ) (fun z hz => (h.nw hi).2.1 z (wof_mem (dpL_mem hz))) (fun z hz => by simp at hz; omega)
    have n2 := lfp_len (cs := cs) (n := 2) (σ := dS cs σ (wof none none (nAc (gN σ i))).length) (p := dpL cs σ (wof none none (nAc (gN σ i)))) (l := [] ++ [i])
    rw [e2] at h2 k2 m2 n2
    dsimp only at h2 k2 m2 n2
    obtain ⟨⟨s3, p3, l3⟩, e3⟩ : ∃ R : Sg × List Nat × List Nat, lfp cs 2 s2 (wof none none (nPa (gN s2 i))) l2 = R := ⟨_, rfl⟩
    have h3 := lfp_S (n := 2) (p := wof none none (nPa (gN s2 i))) (l := l2) h2
    have k3 : gK (lfp cs 2 s2 (wof none none (nPa (gN s2 i))) l2).1 = gK σ := lfp_K.trans k2
    have m3 : ∀ z ∈ (lfp cs 2 s2 (wof none none (nPa (gN s2 i))) l2).2.2, z < gK σ := lfp_mem (Q := fun z => z < gK σ) (fun z hz => by have := (h2.nw (i := i) (by omega)).2.2.1 z (wof_mem hz); omega) m2
    have n3 := lfp_len (cs := cs) (n := 2) (σ := s2) (p := wof none none (nPa (gN s2 i))) (l := l2)
    rw [e3] at h3 k3 m3 n3
    dsimp only at h3 k3 m3 n3
    rw [bgm_s e rfl rfl e2 e3 rfl]
    have hz6 := hz.2.2.2.2.2.1
    simp only [List.nil_append, List.length_singleton] at n2
    exact SW.sent h3 (by rw [k3]; exact hi) (by rw [k3]; exact hq) (lw_mk (by rw [k3]; exact hi) (by rw [k3]; exact hq) (by omega) (by omega) (by omega) (by omega) (fun _ => by rw [k3]; exact hi) (by omega) (by omega) (fun z hz => by rw [k3]; exact m3 z hz) (by omega))
theorem psF_K : ∀ {n : Nat}, gK (psF σ n) = gK σ
  | 0 => rfl
  | n + 1 => by
    simp only [psF]
    split
    · exact fdF_K.trans psF_K
    · exact psF_K
theorem psF_SW (h : SW B cs σ) : ∀ n, n ≤ gK σ → SW B cs (psF σ n)
  | 0, _ => h
  | n + 1, hn => by
    have h0 := psF_SW h n (by omega)
    simp only [psF]
    split
    · exact fdF_SW h0 (by rw [psF_K]; exact hn) _
    · exact h0
theorem pss_SW (h : SW B cs σ) : SW B cs (pss σ) := psF_SW (sTi_SW h) (gK σ) (Nat.le_refl _)
theorem NW.upK {K T j : Nat} {z : Sz} {d : Nd} (n : NW B K T z j d) : NW B (K + 1) T z j d := by
  obtain ⟨a1, a2, a3, a4, a5, a6, a7, a8, a9, a10, a11, a12⟩ := n
  exact ⟨a1, fun q hq => Nat.lt_succ_of_lt (a2 q hq), fun q hq => Nat.lt_succ_of_lt (a3 q hq), a4, a5, a6, fun q hq => Nat.lt_succ_of_lt (a7 q hq), a8, a9, a10, a11, a12⟩
theorem nd0_NW {K T j : Nat} {z : Sz} : NW B K T z j nd0 := by
  refine ⟨⟨(by decide : 0 < 65536), (by decide : 0 < 65536)⟩, fun q hq => (by cases hq), fun q hq => (by cases hq), (show List.Nodup ([] : List Nat) from by simp), Nat.zero_le _, Nat.zero_le _, fun q hq => (by cases hq), fun q hq => ?_, fun t h hh => (by cases hh), fun t h tl hh => (by cases hh), fun t hh => rfl, fun hh => (by cases hh)⟩
  have e : Nat.testBit 0 q = true := hq
  rw [Nat.zero_testBit] at e
  cases e
theorem node_SW (h : SW B cs σ) (hK : gK σ < 16) : SW B cs (sK (sNd σ (gK σ) nd0) (gK σ + 1)) := by
  refine ⟨h.1, Nat.succ_le_of_lt hK, h.2.2.1, h.2.2.2.1, fun j hj => ?_, fun t hu => ?_, h.2.2.2.2.2.2⟩
  · show NW B (gK σ + 1) (gT σ) (gZ σ) j (va_up (gN σ) (gK σ) nd0 j)
    by_cases e : j = gK σ
    · rw [e, va_up_self]
      exact nd0_NW
    · rw [va_up_ne _ _ e]
      have hj : j < gK σ + 1 := hj
      exact (h.nw (by omega)).upK
  · obtain ⟨a1, a2, a3, a4, a5, a6, a7, a8, a9, a10, a11⟩ := h.2.2.2.2.2.1 t hu
    exact ⟨Nat.lt_succ_of_lt a1, Nat.lt_succ_of_lt a2, a3, a4, a5, a6, fun e => Nat.lt_succ_of_lt (a7 e), a8, a9, fun q hq => Nat.lt_succ_of_lt (a10 q hq), a11⟩
theorem coin_SW {c : Nat} (h : SW B cs σ) : SW B (cs ++ [c]) σ := by
  refine ⟨h.1, h.2.1, h.2.2.1, h.2.2.2.1, h.2.2.2.2.1, h.2.2.2.2.2.1, Or.inl ?_⟩
  rw [List.length_append, List.length_singleton]
  rcases h.2.2.2.2.2.2 with q | q <;> omega
theorem size_SW {n m : Nat} (h : SW B cs σ) (hK : gK σ ≤ 0) (h1 : 2 ≤ n) (h2 : n ≤ 5) (h3 : 2 ≤ m) (h4 : m ≤ 8) : SW B cs (sZ σ (n, m, (gZ σ).2.2)) := by
  have hz := h.2.2.2.1
  exact ⟨h.1, h.2.1, h.2.2.1, ⟨h1, h2, h3, h4, hz.2.2.2.2⟩, fun i hi => absurd (show i < gK σ from hi) (by omega), h.2.2.2.2.2.1, h.2.2.2.2.2.2⟩
theorem walk_SW {n m k : Nat} (h : SW B cs σ) (hK : gK σ ≤ 0) (h1 : 1 ≤ n) (h2 : n ≤ 6) (h3 : m ≤ n) (h4 : 1 ≤ k) (h5 : k ≤ 20) : SW B cs (sZ σ ((gZ σ).1, (gZ σ).2.1, n, m, k)) := by
  have hz := h.2.2.2.1
  exact ⟨h.1, h.2.1, h.2.2.1, ⟨hz.1, hz.2.1, hz.2.2.1, hz.2.2.2.1, h1, h2, h3, h4, h5⟩, fun i hi => absurd (show i < gK σ from hi) (by omega), h.2.2.2.2.2.1, h.2.2.2.2.2.2⟩
theorem tale_SW (h : SW B cs σ) (hi : i < gK σ) (ht : gT σ < 24) : SW B cs (her (sT σ (gT σ + 1)) i (gT σ) 0 none) := her_SW (sT_SW h ht) hi (Nat.lt_succ_self _) (Nat.zero_le _)
end KQ
