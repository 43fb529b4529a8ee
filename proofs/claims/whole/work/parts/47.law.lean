-- PART 47: both objects in one memory: the class below, the reference above
def lo (w : Nat) (g : pM) : pM := fun k => if k < w + 15011 then g k else p0
def hi (w : Nat) (g : pM) : pM := fun k => if k < w + 15011 then p0 else g k
theorem lo_at {w k : Nat} {g : pM} {e : pE} (h : lo w g k = e) (hk : k < w + 15011) : g k = e := by
  simp only [lo] at h
  rwa [if_pos hk] at h
theorem hi_at {w k : Nat} {g : pM} {e : pE} (h : hi w g k = e) (hk : w + 15011 ≤ k) : g k = e := by
  simp only [hi] at h
  rwa [if_neg (Nat.not_lt.mpr hk)] at h
/-- a contract over a part of the pool, used in the whole of it -/
theorem pm_part {y : MethodName} {cc : ByteArray} {nL : Nat} {ret : Option FieldType} {rm : Room} {av : List Value} {P : List Nat} {A : Nat → Nat} {g : pM} {post : Option Value → pM → Prop} (p : Nat → Bool) (h : PM y cc nL ret rm av (P.filter p) A (fun k => if p k then g k else p0) post) :
    PM y cc nL ret rm av P A g (fun v f => post v (fun k => if p k then f k else p0) ∧ ∀ k, p k = false → f k = g k) := by
  intro l D sz
  have hs : ∀ k ∈ P.filter p, k ∈ P := fun k hk => (List.mem_filter.mp hk).1
  have hm : ∀ q, pF (P.filter p) A sz q → pF P A sz q := fun q hq => by
    rcases hq with ⟨j, hj, e⟩ | hq
    · exact Or.inl ⟨j, hs j hj, e⟩
    · exact Or.inr hq
  refine MetFree.mono (h l D sz) (fun a s hp => ?_) (fun _ _ _ _ _ h => h) (fun a s o s' hp hq => ?_)
  · obtain ⟨ha, hsz, hI, hK, hN⟩ := hp
    refine ⟨ha, hsz, ⟨pP_all.mpr (fun k hk => ?_), fun k hk => ?_⟩, hK, hN.1.filter _, fun i hi j hj => hN.2 i (hs i hi) j (hs j hj)⟩
    · rw [if_pos (List.mem_filter.mp hk).2]
      exact pP_all.mp hI.1 k (hs k hk)
    · show (if p k = true then g k else p0) = p0
      by_cases e : p k = true
      · rw [if_pos e]
        exact hI.2 k (fun z => hk (List.mem_filter.mpr ⟨z, e⟩))
      · rw [if_neg e]
  · obtain ⟨ha, hsz, hI, hK, hN⟩ := hp
    obtain ⟨⟨v, P', A', g', e1, ⟨rfl, rfl, e2⟩, e3, e4, e5, e6⟩, L, hL1, hL2⟩ := hq
    have hap : ∀ k ∈ P, p k = false → ¬ pF (P.filter p) A sz (A k) := fun k hk hf hq => by
      rcases hq with ⟨j, hj, e⟩ | hq
      · have := hN.2 k hk j (hs j hj) e
        subst this
        have := (List.mem_filter.mp hj).2
        rw [hf] at this
        cases this
      · have := (pP_all.mp hI.1 k hk).lt
        rw [← hsz] at hq
        exact absurd this (Nat.not_lt.mpr hq)
    have hc : (fun k => if p k then (if p k then g' k else g k) else p0) = g' := by
      funext k
      by_cases e : p k = true
      · rw [if_pos e, if_pos e]
      · rw [if_neg e]
        exact (e3.2 k (fun z => e (List.mem_filter.mp z).2)).symm
    refine ⟨⟨v, P, A, fun k => if p k then g' k else g k, e1, ⟨rfl, rfl, ?_, fun k hk => ?_⟩, ⟨pP_all.mpr (fun k hk => ?_), fun k hk => ?_⟩, hN, fun k hk => Or.inl ⟨k, hk, rfl⟩, e6.1, fun q h1 h2 => e6.2 q h1 (fun z => h2 (hm q z))⟩, L, hL1, fun q hq => hm _ (hL2 q hq)⟩
    · rw [hc]
      exact e2
    · show (if p k = true then g' k else g k) = g k
      rw [hk]
      rfl
    · by_cases e : p k = true
      · rw [if_pos e]
        exact pP_all.mp e3.1 k (List.mem_filter.mpr ⟨hk, e⟩)
      · rw [if_neg e]
        have hf : p k = false := by
          cases z : p k
          · rfl
          · exact absurd z e
        have h0 := pP_all.mp hI.1 k hk
        exact h0.kept (e6.2 _ h0.lt (hap k hk hf))
    · show (if p k = true then g' k else g k) = p0
      by_cases e : p k = true
      · rw [if_pos e]
        exact e3.2 k (fun z => hk (hs k z))
      · rw [if_neg e]
        exact hI.2 k hk
theorem PM.mo {y : MethodName} {cc : ByteArray} {nL : Nat} {ret : Option FieldType} {rm : Room} {av : List Value} {P : List Nat} {A : Nat → Nat} {g : pM} {post post2 : Option Value → pM → Prop} (h : PM y cc nL ret rm av P A g post) (hp : ∀ v f, post v f → post2 v f) : PM y cc nL ret rm av P A g post2 := pm_mono h hp
abbrev Plo (w : Nat) (P : List Nat) : List Nat := P.filter (fun k => decide (k < w + 15011))
abbrev Phi (w : Nat) (P : List Nat) : List Nat := P.filter (fun k => !decide (k < w + 15011))
theorem lo_if {w : Nat} {g : pM} : (fun k => if (decide (k < w + 15011)) = true then g k else p0) = lo w g := by
  funext k
  simp [lo]
theorem hi_if {w : Nat} {g : pM} : (fun k => if (!decide (k < w + 15011)) = true then g k else p0) = hi w g := by
  funext k
  simp only [hi]
  by_cases h : k < w + 15011
  · simp [h]
  · simp [h]
theorem pm_lo {y : MethodName} {cc : ByteArray} {nL : Nat} {ret : Option FieldType} {rm : Room} {av : List Value} {P : List Nat} {A : Nat → Nat} {g : pM} {post : Option Value → pM → Prop} {w : Nat} (h : PM y cc nL ret rm av (Plo w P) A (lo w g) post) :
    PM y cc nL ret rm av P A g (fun v f => post v (lo w f) ∧ hi w f = hi w g) := by
  rw [← lo_if] at h
  refine (pm_part _ h).mo (fun v f q => ⟨by rw [← lo_if]; exact q.1, ?_⟩)
  funext k
  simp only [hi]
  by_cases e : k < w + 15011
  · rw [if_pos e, if_pos e]
  · rw [if_neg e, if_neg e]
    exact q.2 k (by simp [e])
theorem pm_hi {y : MethodName} {cc : ByteArray} {nL : Nat} {ret : Option FieldType} {rm : Room} {av : List Value} {P : List Nat} {A : Nat → Nat} {g : pM} {post : Option Value → pM → Prop} {w : Nat} (h : PM y cc nL ret rm av (Phi w P) A (hi w g) post) :
    PM y cc nL ret rm av P A g (fun v f => post v (hi w f) ∧ lo w f = lo w g) := by
  rw [← hi_if] at h
  refine (pm_part _ h).mo (fun v f q => ⟨by rw [← hi_if]; exact q.1, ?_⟩)
  funext k
  simp only [lo]
  by_cases e : k < w + 15011
  · rw [if_pos e, if_pos e]
    exact q.2 k (by simp [e])
  · rw [if_neg e, if_neg e]
/-- between two calls of the law: both objects hold the same state, the same kept states -/
def NX (A : Nat → Nat) (w : Nat) (g1 g2 : pM) (B : Nat) : Prop :=
  ∃ (cs : List Nat) (σ : Sg) (ks : Nat → Option Sg), VB A g1 w cs σ ks ∧ MM A g2 (w + 15100) cs σ ∧ KP g2 (w + 15100) ks ∧ SW B cs σ ∧ ∀ k s, ks k = some s → SW B cs s
theorem VB.wd {A : Nat → Nat} {g : pM} {w : Nat} {cs : List Nat} {σ : Sg} {ks : Nat → Option Sg} (h : VB A g w cs σ ks) : WD A g w (w + 15005) σ := by
  obtain ⟨pl, ll, hv⟩ := h.2.2.1
  exact hv.2.1
theorem MM.ob {A : Nat → Nat} {g : pM} {m : Nat} {cs : List Nat} {σ : Sg} (h : MM A g m cs σ) : ∃ fs, g m = ob 11 fs := by
  obtain ⟨⟨lm, gm, l3, l4, l5, h1, -⟩, -⟩ := h
  exact ⟨_, h1⟩
-- the law's script
def LX (K : vT) (b L : Nat) (xs : Nat → Int32) : Prop := va_X b L xs (ks K) (kH K) ∧ b < (kH K).size ∧ ¬ kA K b
section LW
variable {K : vT} {cc : ByteArray} {own : String} {nL : Nat} {rm : Room} {cells slots : Nat} {P : List Nat} {A : Nat → Nat} {g : pM} {lv : List (Nat × Value)} {pc : Nat} {st : List Value}
theorem g_sld (C : vC K cc own nL rm) {b L : Nat} {xs : Nat → Int32} (X : LX K b L xs) {i : Int32} {iv : Nat} (hix : i.toNatClampNeg = iv) (hin : vp_in i L) (hd : decode cc pc = .ok (.iaload, 1)) (kk : V K cells slots P A g lv (pc + 1) (.int (xs iv) :: st)) : V K cells slots P A g lv pc (.int i :: .ref b :: st) := by
  subst hix
  intro H locs ls a b' c d e
  exact va_sld C.ex C.co X.1 X.2.1 X.2.2 d hin hd (kk H locs ls a b' c d e)
theorem g_slen (C : vC K cc own nL rm) {b L : Nat} {xs : Nat → Int32} (X : LX K b L xs) (hd : decode cc pc = .ok (.arraylength, 1)) (kk : V K cells slots P A g lv (pc + 1) (.int (nI L) :: st)) : V K cells slots P A g lv pc (.ref b :: st) := by
  intro H locs ls a b' c d e
  exact va_slen C.ex C.co X.1 X.2.1 X.2.2 d hd (kk H locs ls a b' c d e)
end LW
theorem nIe {a b : Nat} (h : nI a = nI b) (ha : a < 2 ^ 31) (hb : b < 2 ^ 31) : a = b := (nI_eq ha hb).mp h
theorem isN_no {σ : Sg} {i : Nat} (h : isN σ (nI i) = false) (hi : i < gK σ) (hK : gK σ ≤ 16) : False := by
  rw [isN_n hK hi] at h
  cases h
theorem isT_no {σ : Sg} {i : Nat} (h : isT σ (nI i) = false) (hi : i < gT σ) (hT : gT σ ≤ 24) : False := by
  rw [isT_n hT hi] at h
  cases h
theorem rfA_no0 {σ : Sg} {i : Nat} (h : rfA σ (nI i) ≠ 0) (hi : i < gK σ) (hK : gK σ ≤ 16) (hl : lvd σ i = true) : False := by
  rw [rfA_n hK hi, hl] at h
  exact h rfl
theorem rw_no {i n : Nat} (h : decide (¬ nI i < 0 ∧ nI i < nI n) = false) (hi : i < n) (hn : n < 2 ^ 31) : False :=
  of_decide_eq_false h ⟨nI_pos (by omega), (nI_ltI (by omega) hn).mpr hi⟩
theorem out_no {k n : Nat} (hk : k < n) (hn : n < 2 ^ 31) (h : nI k < 0 ∨ nI n ≤ nI k) : False := by
  rcases h with h | h
  · exact nI_pos (by omega) h
  · have := (nI_leI hn (by omega)).mp h
    omega
theorem le_no {k n : Nat} (hk : k ≤ n) (hn : n < 2 ^ 31) (h : nI k < 0 ∨ ¬ nI k ≤ nI n) : False := by
  rcases h with h | h
  · exact nI_pos (by omega) h
  · exact h ((nI_leI (by omega) hn).mpr hk)
theorem sz_no {n m : Nat} (h1 : 2 ≤ n) (h2 : n ≤ 5) (h3 : 2 ≤ m) (h4 : m ≤ 8) (h : nI n < nI 2 ∨ nI 5 < nI n ∨ nI m < nI 2 ∨ ¬ nI m ≤ nI 8) : False := by
  rcases h with h | h | h | h
  · have := (nI_ltI (by omega) (by omega)).mp h
    omega
  · have := (nI_ltI (by omega) (by omega)).mp h
    omega
  · have := (nI_ltI (by omega) (by omega)).mp h
    omega
  · exact h ((nI_leI (by omega) (by omega)).mpr h4)
theorem wk_no {n m k : Nat} (h1 : 1 ≤ n) (h2 : n ≤ 6) (h3 : m ≤ n) (h4 : 1 ≤ k) (h5 : k ≤ 20) (h : nI n < nI 1 ∨ nI 6 < nI n ∨ nI m < 0 ∨ ¬ nI m ≤ nI n ∨ nI k < nI 1 ∨ ¬ nI k ≤ nI 20) : False := by
  rcases h with h | h | h | h | h | h
  · have := (nI_ltI (by omega) (by omega)).mp h
    omega
  · have := (nI_ltI (by omega) (by omega)).mp h
    omega
  · exact nI_pos (by omega) h
  · exact h ((nI_leI (by omega) (by omega)).mpr h3)
  · have := (nI_ltI (by omega) (by omega)).mp h
    omega
  · exact h ((nI_leI (by omega) (by omega)).mpr h5)
