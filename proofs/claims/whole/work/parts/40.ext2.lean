-- PART 40: the greater pictures stand in a greater memory
theorem AR.ne {g : pM} {a : Nat} {c : Nat → Int32} (h : AR g a c) : g a ≠ p0 := by
  obtain ⟨r, h1, -⟩ := h
  rw [h1]
  exact p_nil
theorem LT.ne {A : Nat → Nat} {g : pM} {a : Nat} {t : Lt} (h : LT A g a t) : g a ≠ p0 := by
  rw [h.1]
  exact ob_ne (by omega)
theorem ND.ne {A : Nat → Nat} {g : pM} {a i : Nat} {d : Nd} (h : ND A g a i d) : g a ≠ p0 := by
  rw [h.1]
  exact ob_ne (by omega)
theorem RW.ne {A : Nat → Nat} {g : pM} {w : Nat} {row : List Lt} {sp : Int32} (h : RW A g w row sp) : g (w + 3) ≠ p0 := by
  obtain ⟨fi, r, ρ, L, h1, ⟨o1, o2, o3⟩, h3⟩ := h
  rw [o1]
  exact ob_ne (by omega)
/-- a world's own object names the coins and the node that nobody is: these two stand apart -/
theorem WD.xt {A A' : Nat → Nat} {g g' : pM} {w cq : Nat} {σ : Sg} (h : WD A g w cq σ) (x : Ext A g A' g') (hc : A' cq = A cq) (hn : A' (w + 1700) = A (w + 1700)) : WD A' g' w cq σ := by
  obtain ⟨h1, h2, h3, h4, h5, ⟨t, h6⟩, h7, h8⟩ := h
  have hm : ∀ i, i < 16 → A' (w + 100 + 100 * i) = A (w + 100 + 100 * i) := fun i hi => by
    obtain ⟨d, m1, -⟩ := h4 i hi
    exact (x _ m1.ne).2
  refine ⟨?_, h2.xt x, ?_, fun i hi => ?_, h5.xt x, ⟨t, h6.xt x⟩, h7.xt x, h8⟩
  · have e1 := (x _ h2.ne).2
    have e2 := x.ad h3 p_nil
    have e3 := (x _ h5.ne).2
    have e6 := (x _ h6.ne).2
    have e5 := (x _ h7.ne).2
    rw [x.at h1 (ob_ne (by omega))]
    simp only [wOb, hc, hn, e1, e2, e3, e5, e6]
  · rw [nrow_e hm]
    exact x.at h3 p_nil
  · obtain ⟨d, m1, m2⟩ := h4 i hi
    exact ⟨d, m1.xt x, m2⟩
theorem WD.ne {A : Nat → Nat} {g : pM} {w cq : Nat} {σ : Sg} (h : WD A g w cq σ) : g w ≠ p0 := by
  rw [h.1]
  exact ob_ne (by omega)
theorem CO.ne {A : Nat → Nat} {g : pM} {a : Nat} {cs : List Nat} (h : CO A g a cs) : g a ≠ p0 := by
  rw [h.2.2.1]
  exact ob_ne (by omega)
theorem VW.xt {A A' : Nat → Nat} {g g' : pM} {w : Nat} {cs : List Nat} {σ : Sg} {pl ll : List Nat} (h : VW A g w cs σ pl ll) (x : Ext A g A' g') (hn : A' (w + 1700) = A (w + 1700)) : VW A' g' w cs σ pl ll := by
  obtain ⟨h1, h2, h3, h4, h5⟩ := h
  have ec := (x _ h3.ne).2
  refine ⟨?_, h2.xt x ec hn, h3.xt x, h4.xt x, h5.xt x⟩
  have e0 := (x _ h2.ne).2
  have e1 := (x _ h2.2.1.ne).2
  have e2 := (x _ h4.1.ne).2
  have e3 := (x _ h5.1.ne).2
  rw [x.at h1 (ob_ne (by omega)), e0, e1, e2, e3]
theorem krow_e {A A' : Nat → Nat} {w : Nat} (h : ∀ k, k < 2 → A' (w + 5000 + 5000 * k) = A (w + 5000 + 5000 * k)) : krow A' w = krow A w := by
  funext k
  simp only [krow]
  by_cases hk : k < 2
  · rw [if_pos hk, if_pos hk, h k hk]
  · rw [if_neg hk, if_neg hk]
theorem VB.xt {A A' : Nat → Nat} {g g' : pM} {w : Nat} {cs : List Nat} {σ : Sg} {ks : Nat → Option Sg} (h : VB A g w cs σ ks) (x : Ext A g A' g') (hn : ∀ k, k < 3 → A' (w + 5000 * k + 1700) = A (w + 5000 * k + 1700)) : VB A' g' w cs σ ks := by
  obtain ⟨h1, h2, ⟨pl, ll, hv⟩, h4, ⟨r, h5, h6⟩, h7⟩ := h
  have ec := (x _ hv.2.2.1.ne).2
  have ew := (x _ hv.2.1.ne).2
  have ev := x.ad hv.1 (ob_ne (by omega))
  have et := x.ad h2 (ob_ne (by omega))
  have e8 := x.ad h4 p_nil
  have e9 := x.ad h5 p_nil
  refine ⟨?_, ?_, ⟨pl, ll, hv.xt x (hn 0 (by omega))⟩, ?_, ⟨r, x.at h5 p_nil, h6⟩, fun k hk => ?_⟩
  · rw [x.at h1 (ob_ne (by omega))]
    simp only [vOb, ec, ew, ev, et, e8, e9]
  · rw [ew]
    exact x.at h2 (ob_ne (by omega))
  · rw [krow_e (fun k hk => by obtain ⟨s, m1, -⟩ := h7 k hk; exact (x _ m1.ne).2)]
    exact x.at h4 p_nil
  · obtain ⟨s, m1, m2⟩ := h7 k hk
    exact ⟨s, m1.xt x ec (by have := hn (k + 1) (by omega); rw [show w + 5000 * (k + 1) + 1700 = w + 5000 + 5000 * k + 1700 by omega] at this; exact this), m2⟩
/-- the reference's object: its rows' addresses are given apart where they don't stand in the picture -/
theorem MM.xt {A A' : Nat → Nat} {g g' : pM} {m : Nat} {cs : List Nat} {σ : Sg} (h : MM A g m cs σ) (x : Ext A g A' g') (hk : A' (m + 6) = A (m + 6) ∧ A' (m + 7) = A (m + 7) ∧ A' (m + 8) = A (m + 8)) : MM A' g' m cs σ := by
  obtain ⟨⟨lm, gm, l3, l4, l5, h1, h2, h3, h4⟩, h5, h6⟩ := h
  have e1 : A' (m + 1) = A (m + 1) := by
    obtain ⟨Z, hZ, -⟩ := h5
    exact x.ad hZ p_nil
  have so : ∀ {c cap : Nat} {l : List Nat}, SO g c cap l → A' c = A c := fun q => by
    obtain ⟨-, r, hr, -⟩ := q
    exact x.ad hr p_nil
  refine ⟨⟨lm, gm, l3, l4, l5, ?_, h2.xt x, h3.xt x, h4.xt x⟩, h5.xt x, h6.xt x⟩
  rw [x.at h1 (ob_ne (by omega))]
  simp only [mOb, e1, so h2, so h3, so h4, so h6.1, hk.1, hk.2.1, hk.2.2]
