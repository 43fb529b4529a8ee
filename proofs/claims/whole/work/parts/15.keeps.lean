-- PART 15: what each letter does keeps what a state must keep
section KP
variable {B i s t x y k : Nat} {cs l : List Nat} {σ : Sg}
theorem sd0_SW (h : SW B cs σ) (hi : i < gK σ) (ht : t < gK σ) (hk : k = 3 ∨ k = 4 ∨ k = 6 ∨ k = 12 ∨ k = 1) : SW B cs (snd σ i t k 0 0 []) := SW.sent h hi ht (lw_0 hi ht hk)
theorem jnF_SW {lw : Nat} : ∀ {σ : Sg}, SW B cs σ → i < gK σ → s < gK σ → lw ≤ 6 → (∀ q ∈ l, q < gK σ) → SW B cs (jnF σ i s lw l) ∧ gK (jnF σ i s lw l) = gK σ := by
  induction l with
  | nil => intro σ h _ _ _ _; exact ⟨h, rfl⟩
  | cons a l ih =>
    intro σ h hi hs hl hm
    have hk := h.2.1
    have ha := hm a (by simp)
    show SW B cs (jnF (if a = s then σ else snd σ i a 2 s lw []) i s lw l) ∧ gK (jnF (if a = s then σ else snd σ i a 2 s lw []) i s lw l) = gK σ
    by_cases e : a = s
    · rw [if_pos e]
      exact ih h hi hs hl (fun q hq => hm q (by simp [hq]))
    · rw [if_neg e]
      have h1 : SW B cs (snd σ i a 2 s lw []) := SW.sent h hi ha (lw_mk hi ha (by omega) (by omega) (by omega) (by omega) (fun _ => hs) (by omega) (by omega) (fun _ h => by cases h) (by simp))
      have h2 := ih h1 (by rw [snd_K]; exact hi) (by rw [snd_K]; exact hs) hl (fun q hq => by rw [snd_K]; exact hm q (by simp [hq]))
      exact ⟨h2.1, h2.2.trans snd_K⟩
theorem jnS_SW (h : SW B cs σ) (hi : i < gK σ) (hs : s < gK σ) : SW B cs (jnS cs σ i s) := by
  have h1 := add_SW (q := s) h hi hs
  have hz := h.2.2.2.1
  have hk : gK (add cs σ i s) = gK σ := add_K
  have h2 := jnF_SW (l := nAc (gN (add cs σ i s) i)) (lw := (gZ σ).2.2.1) (s := s) h1 (by rw [hk]; exact hi) (by rw [hk]; exact hs) hz.2.2.2.2.2.1 (fun q hq => (h1.nw (by rw [hk]; exact hi)).2.1 q hq)
  exact sd0_SW h2.1 (by rw [h2.2, hk]; exact hi) (by rw [h2.2, hk]; exact hs) (by omega)
theorem wend_SW (h : SW B cs σ) (hi : i < gK σ) (hx : x < gK σ) : SW B cs (wend cs σ i x) := by
  by_cases e : x ∈ nAc (gN σ i)
  · rw [wend_y e]
    exact h
  · rw [wend_n e]
    have h1 := add_SW (q := x) h hi hx
    exact sd0_SW h1 (by rw [add_K]; exact hi) (by rw [add_K]; exact hx) (by omega)
theorem wlk2_SW (h : SW B cs σ) (hi : i < gK σ) (hx : x < gK σ) (hy : y ≤ B + 6) : SW B cs (wlk2 cs σ i s x y) := by
  have hk := h.2.1
  cases e : dpV cs σ (wof (some s) (some x) (nAc (gN σ i))) with
  | none =>
    rw [wlk2_n e]
    exact wend_SW h.drw (by rw [dS_K]; exact hi) (by rw [dS_K]; exact hx)
  | some q =>
    rw [wlk2_s e]
    have hq : q < gK σ := (h.nw hi).2.1 q (wof_mem (dpV_mem e).1)
    have h1 : SW B cs (dS cs σ (wof (some s) (some x) (nAc (gN σ i))).length) := h.drw
    have hK : gK (dS cs σ (wof (some s) (some x) (nAc (gN σ i))).length) = gK σ := dS_K
    exact SW.sent h1 (by rw [hK]; exact hi) (by rw [hK]; exact hq) (lw_mk (by rw [hK]; exact hi) (by rw [hK]; exact hq) (by omega) (by omega) (by omega) (by omega) (fun _ => by rw [hK]; exact hx) (by omega) (by omega) (fun _ h => by cases h) (by simp))
theorem wlk_SW (h : SW B cs σ) (hi : i < gK σ) (hx : x < gK σ) (hy : y ≤ B + 6) : SW B cs (wlk cs σ i s x y) := by
  by_cases e : x = i
  · rw [wlk_i e]
    exact h
  · by_cases e2 : 0 < y ∧ 1 < (nAc (gN σ i)).length
    · rw [wlk_b e e2.1 e2.2]
      by_cases e3 : y = (gZ σ).2.2.2.1
      · rw [if_pos e3]
        exact wlk2_SW (nte_SW h hi hx) (by rw [nte_K]; exact hi) (by rw [nte_K]; exact hx) hy
      · rw [if_neg e3]
        exact wlk2_SW h hi hx hy
    · rw [wlk_a e e2]
      exact wend_SW h hi hx
theorem wlc_SW (h : SW B cs σ) (hi : i < gK σ) (hs : s < gK σ) : SW B cs (wlc cs σ i s) := SW.akS (add_SW h hi hs) (by rw [add_K]; exact hi) (by omega)
theorem prt_SW (h : SW B cs σ) (hi : i < gK σ) (hs : s < gK σ) : SW B cs (prt cs σ i s) := by
  by_cases e : s ∈ nAc (gN σ i)
  · rw [show prt cs σ i s = mnd cs (nte cs (ulS σ i s) i s) i from if_pos e]
    exact SW.mnd (nte_SW (SW.ulS h hi hs) hi hs) (by rw [nte_K]; exact hi)
  · rw [show prt cs σ i s = σ from if_neg e]
    exact h
theorem askS_SW (h : SW B cs σ) (hi : i < gK σ) (hs : s < gK σ) : SW B cs (askS cs σ i s x) := by
  simp only [askS]
  split
  · exact sd0_SW (add_SW h hi hs) (by rw [add_K]; exact hi) (by rw [add_K]; exact hs) (by omega)
  · exact sd0_SW h hi hs (by omega)
theorem rfs_SW (h : SW B cs σ) (hi : i < gK σ) (hs : s < gK σ) : SW B cs (rfs cs σ i s) := by
  have hk := h.2.1
  by_cases e : nAs (gN σ i) = some s
  · rw [show rfs cs σ i s = mnd cs (akS (asS σ i none) i (nAk (gN (asS σ i none) i) ||| 2 ^ s)) i from if_pos e]
    have h1 : SW B cs (asS σ i none) := SW.asS h hi (fun q hq => by cases hq)
    exact SW.mnd (SW.akS h1 hi (or_lt (h1.nw hi).1.2 (by omega))) hi
  · rw [show rfs cs σ i s = σ from if_neg e]
    exact h
theorem tkL_SW : ∀ {σ : Sg}, SW B cs σ → i < gK σ → (∀ q ∈ l, q < gK σ) → SW B cs (tkL cs σ i l) := by
  induction l with
  | nil => intro σ h _ _; exact h
  | cons a l ih =>
    intro σ h hi hm
    exact ih (σ := nte cs σ i a) (nte_SW h hi (hm a (by simp))) (by rw [nte_K]; exact hi) (fun q hq => by rw [nte_K]; exact hm q (by simp [hq]))
theorem mixS_SW (h : SW B cs σ) (hi : i < gK σ) (hx : x < gK σ) (hy : y ≤ B + 6) (hl : ∀ q ∈ l, q < gK σ) (hl5 : l.length ≤ 5) : SW B cs (mixS cs σ i s x y l) := by
  have hk := h.2.1
  have key : SW B cs (tkL cs (if x = i then σ else ansS cs σ i x l.length) i l) := by
    by_cases e : x = i
    · rw [if_pos e]
      exact tkL_SW h hi hl
    · rw [if_neg e]
      exact tkL_SW (SW.ansS h hi hx hl5) (by rw [ansS_K]; exact hi) (fun q hq => by rw [ansS_K]; exact hl q hq)
  by_cases e1 : 1 < y
  · cases e : dpV cs σ (wof (some s) (some x) (nAc (gN σ i))) with
    | none =>
      have e2 : mixS cs σ i s x y l = tkL cs (if x = i then σ else ansS cs σ i x l.length) i l := by simp only [mixS, if_pos e1, e]
      rw [e2]
      exact key
    | some q =>
      rw [mixS_s e1 e]
      have hq : q < gK σ := (h.nw hi).2.1 q (wof_mem (dpV_mem e).1)
      have h1 : SW B cs (dS cs σ (wof (some s) (some x) (nAc (gN σ i))).length) := h.drw
      have hK : gK (dS cs σ (wof (some s) (some x) (nAc (gN σ i))).length) = gK σ := dS_K
      exact SW.sent h1 (by rw [hK]; exact hi) (by rw [hK]; exact hq) (lw_mk (by rw [hK]; exact hi) (by rw [hK]; exact hq) (by omega) (by omega) (by omega) (by omega) (fun _ => by rw [hK]; exact hx) (by omega) (by omega) (fun z hz => by rw [hK]; exact hl z hz) hl5)
  · rw [mixS_1 e1]
    exact key
theorem stp_SW (h : SW B cs σ) (hi : i < gK σ) (hs : s < gK σ) : SW B cs (stp cs σ i s) := by
  have h1 : SW B cs (paRem (ulS σ i s) i s) := SW.paRem (SW.ulS h hi hs) hi
  simp only [stp]
  split
  · exact SW.mnd (SW.asS h1 hi (fun q hq => by cases hq)) hi
  · exact SW.mnd h1 hi
theorem tfE_SW {m h0 : Nat} {o : Option Nat} : ∀ {σ : Sg}, SW B cs σ → i < gK σ → t < gT σ → h0 ≤ B → (∀ q ∈ l, q < gK σ) → SW B cs (tfE i t h0 m o l σ) := by
  induction l with
  | nil => intro σ h _ _ _ _; exact h
  | cons a l ih =>
    intro σ h hi ht hh hm
    have hT := h.2.2.1
    have ha := hm a (by simp)
    show SW B cs (tfE i t h0 m o l (if o = some a ∨ m.testBit a = true then σ else snd σ i a 9 t (h0 + 1) []))
    by_cases e : o = some a ∨ m.testBit a = true
    · rw [if_pos e]
      exact ih h hi ht hh (fun q hq => hm q (by simp [hq]))
    · rw [if_neg e]
      exact ih (SW.sent h hi ha (lw_t hi ha hT ht (Or.inl ⟨rfl, by omega⟩))) (by rw [snd_K]; exact hi) (by rw [snd_T]; exact ht) hh (fun q hq => by rw [snd_K]; exact hm q (by simp [hq]))
theorem tfL_SW {m : Nat} {o : Option Nat} : ∀ {σ : Sg}, SW B cs σ → i < gK σ → t < gT σ → (∀ q ∈ l, q < gK σ) → SW B cs (tfL i t m o l σ) := by
  induction l with
  | nil => intro σ h _ _ _; exact h
  | cons a l ih =>
    intro σ h hi ht hm
    have hT := h.2.2.1
    have ha := hm a (by simp)
    show SW B cs (tfL i t m o l (if o = some a ∨ m.testBit a = false then σ else snd σ i a 10 t 0 []))
    by_cases e : o = some a ∨ m.testBit a = false
    · rw [if_pos e]
      exact ih h hi ht (fun q hq => hm q (by simp [hq]))
    · rw [if_neg e]
      exact ih (SW.sent h hi ha (lw_t hi ha hT ht (Or.inr (Or.inl ⟨rfl, rfl⟩)))) (by rw [snd_K]; exact hi) (by rw [snd_T]; exact ht) (fun q hq => by rw [snd_K]; exact hm q (by simp [hq]))
theorem her_SW {h0 : Nat} {o : Option Nat} (h : SW B cs σ) (hi : i < gK σ) (ht : t < gT σ) (hh : h0 ≤ B) : SW B cs (her σ i t h0 o) := by
  have h1 : SW B cs (lrn σ i t h0) := SW.lrn h hi hh ht
  have hm : ∀ q ∈ nAc (gN (lrn σ i t h0) i), q < gK σ := (h1.nw hi).2.1
  have h2 := tfE_SW (l := nAc (gN (lrn σ i t h0) i)) (m := nLz (gN (lrn σ i t h0) i)) (o := o) h1 hi ht hh hm
  exact tfL_SW h2 (by rw [tfE_K]; exact hi) (by rw [tfE_T]; exact ht) (fun q hq => by rw [tfE_K]; exact hm q hq)
theorem tel_SW (h : SW B cs σ) (hi : i < gK σ) (hs : s < gK σ) (ht : t < gT σ) (hy : y ≤ B + 1) (hB : B + 1 < 2 ^ 30) : SW (B + 1) cs (tel σ i s t y) := by
  by_cases e : s ∈ nAc (gN σ i)
  · by_cases e2 : (nHo (gN σ i) t).isSome = true
    · rw [show tel σ i s t y = snd (lzS σ i s) i s 11 0 0 [] from (if_neg (fun q => q e)).trans (if_pos e2)]
      exact (SW.sent (SW.lzS h hi e) hi hs (lw_c hi hs)).up (Nat.le_add_right B 1) hB
    · rw [show tel σ i s t y = her (egS σ i s) i t y (some s) from (if_neg (fun q => q e)).trans (if_neg e2)]
      exact her_SW ((SW.egS h hi).up (Nat.le_add_right B 1) hB) hi ht hy
  · rw [show tel σ i s t y = σ from if_pos e]
    exact h.up (Nat.le_add_right B 1) hB
theorem nto_SW (h : SW B cs σ) (hi : i < gK σ) (ht : t < gT σ) : SW B cs (nto σ i s t) := by
  by_cases e : ¬ s ∈ nAc (gN σ i) ∨ (nHo (gN σ i) t).isSome = true
  · rw [show nto σ i s t = σ from if_pos e]
    exact h
  · rw [show nto σ i s t = _ from if_neg e]
    have e1 : s ∈ nAc (gN σ i) := Classical.byContradiction fun q => e (Or.inl q)
    have e2 : nHo (gN σ i) t = none := by
      cases q : nHo (gN σ i) t with
      | none => rfl
      | some p => exact absurd (Or.inr (by rw [q]; rfl)) e
    cases q : nMi (gN σ i) t with
    | none =>
      exact SW.sn h (NW.mi (h.nw hi) ht e2 (by simp) (fun z hz => by rw [List.mem_singleton.mp hz]; exact e1))
    | some p =>
      obtain ⟨x0, tl⟩ := p
      have k := (h.nw hi).2.2.2.2.2.2.2.2.2.1 t x0 tl q
      refine SW.sn h (NW.mi (h.nw hi) ht e2 ?_ ?_)
      · by_cases e3 : s ∈ tl
        · simp only [if_pos e3]
          exact k.2.1
        · simp only [if_neg e3]
          refine List.nodup_append.mpr ⟨k.2.1, by simp, fun a ha b hb e => ?_⟩
          rw [List.mem_singleton.mp hb] at e
          exact e3 (e ▸ ha)
      · intro z hz
        by_cases e3 : s ∈ tl
        · simp only [if_pos e3] at hz
          exact k.2.2 z hz
        · simp only [if_neg e3] at hz
          rcases List.mem_append.mp hz with hz | hz
          · exact k.2.2 z hz
          · rw [List.mem_singleton.mp hz]
            exact e1
theorem cho_SW (h : SW B cs σ) (hi : i < gK σ) (hs : s < gK σ) (ht : y ≠ 0 → t < gT σ) : SW B cs (cho σ i s t y) := by
  have hT := h.2.2.1
  by_cases e : s ∈ nAc (gN σ i)
  · by_cases e2 : y = 0
    · rw [show cho σ i s t y = lzS σ i s from (if_neg (fun q => q e)).trans (if_pos e2)]
      exact SW.lzS h hi e
    · have h1 : SW B cs (egS σ i s) := SW.egS h hi
      cases q : nHo (gN (egS σ i s) i) t with
      | none =>
        rw [cho_n e e2 rfl (by rw [q]; rfl)]
        exact h1
      | some p =>
        rw [cho_s e e2 rfl q rfl]
        have hp := ((h1.nw hi).2.2.2.2.2.2.2.2.1 t p q).1
        exact SW.sent h1 hi hs (lw_t hi hs hT (ht e2) (Or.inl ⟨rfl, by omega⟩))
  · rw [show cho σ i s t y = σ from if_pos e]
    exact h
theorem cme_SW {u : Lt} (h : SW B cs σ) (hB : B + 1 < 2 ^ 30) (hu : (gR σ)[i]? = some u) : SW (B + 1) cs (cme cs σ i u) := by
  obtain ⟨s0, r0, k0, x0, y0, l0⟩ := u
  obtain ⟨hs0, hr0, hk1, hk12, hx24, hy6, hx7, hx9, hy9, hl0, hl5⟩ := h.2.2.2.2.2.1 _ (List.mem_of_getElem? hu)
  dsimp only at hs0 hr0 hk1 hk12 hx24 hy6 hx7 hx9 hy9 hl0 hl5
  have h1 : SW B cs (tak σ i (s0, r0, k0, x0, y0, l0)) := tak_SW h
  have up : ∀ {σ' : Sg}, SW B cs σ' → SW (B + 1) cs σ' := fun h => h.up (Nat.le_add_right B 1) hB
  have hkk : k0 = 1 ∨ k0 = 2 ∨ k0 = 3 ∨ k0 = 4 ∨ k0 = 5 ∨ k0 = 6 ∨ k0 = 7 ∨ k0 = 8 ∨ k0 = 9 ∨ k0 = 10 ∨ k0 = 11 ∨ k0 = 12 := by omega
  rcases hkk with rfl | rfl | rfl | rfl | rfl | rfl | rfl | rfl | rfl | rfl | rfl | rfl
  · exact up (jnS_SW h1 hr0 hs0)
  · exact up (wlk_SW h1 hr0 (hx7 (Or.inl rfl)) hy6)
  · exact up (wlc_SW h1 hr0 hs0)
  · exact up (prt_SW h1 hr0 hs0)
  · exact up (askS_SW h1 hr0 hs0)
  · exact up (rfs_SW h1 hr0 hs0)
  · exact up (mixS_SW h1 hr0 (hx7 (Or.inr rfl)) hy6 hl0 hl5)
  · exact up (tkL_SW h1 hr0 hl0)
  · exact tel_SW h1 hr0 hs0 (hx9 (Or.inl rfl)) (hy9 rfl) hB
  · exact up (nto_SW h1 hr0 (hx9 (Or.inr (Or.inl rfl))))
  · exact up (cho_SW h1 hr0 hs0 (fun e => hx9 (Or.inr (Or.inr ⟨rfl, e⟩))))
  · exact up (stp_SW h1 hr0 hs0)
end KP
