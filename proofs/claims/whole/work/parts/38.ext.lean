-- PART 38: contracts over a part of the pool
/-- what stands in g stands in g' too, at the same addresses -/
def Ext (A : Nat → Nat) (g : pM) (A' : Nat → Nat) (g' : pM) : Prop := ∀ k, g k ≠ p0 → g' k = g k ∧ A' k = A k
theorem Ext.at {A A' : Nat → Nat} {g g' : pM} {k : Nat} {e : pE} (h : Ext A g A' g') (he : g k = e) (hn : e ≠ p0) : g' k = e := (h k (by rw [he]; exact hn)).1.trans he
theorem Ext.ad {A A' : Nat → Nat} {g g' : pM} {k : Nat} {e : pE} (h : Ext A g A' g') (he : g k = e) (hn : e ≠ p0) : A' k = A k := (h k (by rw [he]; exact hn)).2
theorem Ext.rf {A : Nat → Nat} {g : pM} : Ext A g A g := fun _ _ => ⟨rfl, rfl⟩
theorem Ext.tr {A A1 A2 : Nat → Nat} {g g1 g2 : pM} (h : Ext A g A1 g1) (h2 : Ext A1 g1 A2 g2) : Ext A g A2 g2 := fun k hk => by
  obtain ⟨a, b⟩ := h k hk
  obtain ⟨c, d⟩ := h2 k (by rw [a]; exact hk)
  exact ⟨c.trans a, d.trans b⟩
theorem ob_ne {c : Nat} {fs : List Value} (h : c < 12) : (ob c fs : pE) ≠ p0 := by
  intro e
  have e2 : c = 999 := congrArg Prod.fst (Sum.inr.inj e)
  omega
theorem NL.xt {A A' : Nat → Nat} {g g' : pM} {a cap : Nat} {l : List Int32} (h : NL A g a cap l) (x : Ext A g A' g') : NL A' g' a cap l := by
  obtain ⟨h1, h2, h3, row, h4, h5⟩ := h
  exact ⟨h1, h2, by rw [x.ad h4 p_nil]; exact x.at h3 (ob_ne (by omega)), row, x.at h4 p_nil, h5⟩
theorem NLN.xt {A A' : Nat → Nat} {g g' : pM} {a cap : Nat} {l : List Nat} (h : NLN A g a cap l) (x : Ext A g A' g') : NLN A' g' a cap l := ⟨h.1.xt x, h.2⟩
theorem NL.ne {A : Nat → Nat} {g : pM} {a cap : Nat} {l : List Int32} (h : NL A g a cap l) : g a ≠ p0 := by rw [h.get]; exact ob_ne (by omega)
theorem CO.xt {A A' : Nat → Nat} {g g' : pM} {a : Nat} {cs : List Nat} (h : CO A g a cs) (x : Ext A g A' g') : CO A' g' a cs := by
  obtain ⟨h1, h2, h3, row, h4, h5⟩ := h
  exact ⟨h1, h2, by rw [x.ad h4 p_nil]; exact x.at h3 (ob_ne (by omega)), row, x.at h4 p_nil, h5⟩
theorem SZ.xt {A A' : Nat → Nat} {g g' : pM} {a : Nat} {s : Sz} (h : SZ g a s) (x : Ext A g A' g') : SZ g' a s := x.at h (ob_ne (by omega))
theorem LT.xt {A A' : Nat → Nat} {g g' : pM} {a : Nat} {t : Lt} (h : LT A g a t) (x : Ext A g A' g') : LT A' g' a t :=
  ⟨by rw [(x (a + 1) h.2.1.ne).2]; exact x.at h.1 (ob_ne (by omega)), h.2.xt x⟩
theorem MS.xt {A A' : Nat → Nat} {g g' : pM} {a : Nat} {m : Mi} (h : MS A g a m) (x : Ext A g A' g') : MS A' g' a m :=
  ⟨by rw [(x (a + 1) h.2.1.ne).2]; exact x.at h.1 (ob_ne (by omega)), h.2.xt x⟩
theorem HO.xt {A A' : Nat → Nat} {g g' : pM} {a : Nat} {f : Nat → Option Nat} (h : HO g a f) (x : Ext A g A' g') : HO g' a f := by
  obtain ⟨row, h1, h2⟩ := h
  exact ⟨row, x.at h1 p_nil, h2⟩
theorem mrow_e {A A' : Nat → Nat} {a : Nat} (h : ∀ t, t < 24 → A' (a + 10 + 3 * t) = A (a + 10 + 3 * t)) : mrow A' a = mrow A a := by
  funext t
  simp only [mrow]
  by_cases ht : t < 24
  · rw [if_pos ht, if_pos ht, h t ht]
  · rw [if_neg ht, if_neg ht]
theorem ND.xt {A A' : Nat → Nat} {g g' : pM} {a i : Nat} {d : Nd} (h : ND A g a i d) (x : Ext A g A' g') : ND A' g' a i d := by
  obtain ⟨h1, h2, h3, h4, h5, h6⟩ := h
  have hm : ∀ t, t < 24 → A' (a + 10 + 3 * t) = A (a + 10 + 3 * t) := fun t ht => x.ad (h6 t ht).1 (ob_ne (by omega))
  refine ⟨?_, h2.xt x, h3.xt x, h4.xt x, ?_, fun t ht => (h6 t ht).xt x⟩
  · obtain ⟨row, hr, -⟩ := h4
    have e1 := (x (a + 1) h2.1.ne).2
    have e3 := (x (a + 3) h3.1.ne).2
    have e5 := x.ad hr p_nil
    have e6 := x.ad h5 p_nil
    have := x.at h1 (ob_ne (by omega))
    rw [this]
    simp only [ndOb, e1, e3, e5, e6]
  · rw [mrow_e hm]
    exact x.at h5 p_nil
theorem RW.xt {A A' : Nat → Nat} {g g' : pM} {w : Nat} {row : List Lt} {sp : Int32} (h : RW A g w row sp) (x : Ext A g A' g') : RW A' g' w row sp := by
  obtain ⟨fi, r, ρ, L, h1, ⟨o1, o2, o3⟩, h3, h4, h5⟩ := h
  refine ⟨fi, r, ρ, L, h1, ⟨?_, x.at o2 p_nil, fun k hk => ?_⟩, fun j hj => (h3 j hj).xt x, h4, h5⟩
  · rw [x.ad o2 p_nil]
    exact x.at o1 (ob_ne (by omega))
  · rw [o3 k hk, x.ad (h3 (ρ k) (h1.2.2.1 k hk)).1 (ob_ne (by omega))]
theorem AR.xt {A A' : Nat → Nat} {g g' : pM} {a : Nat} {c : Nat → Int32} (h : AR g a c) (x : Ext A g A' g') : AR g' a c := by
  obtain ⟨r, h1, h2⟩ := h
  exact ⟨r, x.at h1 p_nil, h2⟩
theorem nrow_e {A A' : Nat → Nat} {w : Nat} (h : ∀ i, i < 16 → A' (w + 100 + 100 * i) = A (w + 100 + 100 * i)) : nrow A' w = nrow A w := by
  funext i
  simp only [nrow]
  by_cases hi : i < 16
  · rw [if_pos hi, if_pos hi, h i hi]
  · rw [if_neg hi, if_neg hi]
theorem SZ.ne {g : pM} {a : Nat} {s : Sz} (h : SZ g a s) : g a ≠ p0 := by
  rw [show g a = ob 6 _ from h]
  exact ob_ne (by omega)
theorem SO.xt {A A' : Nat → Nat} {g g' : pM} {c cap : Nat} {l : List Nat} (h : SO g c cap l) (x : Ext A g A' g') : SO g' c cap l := by
  obtain ⟨h1, r, h2, h3⟩ := h
  exact ⟨h1, r, x.at h2 p_nil, h3⟩
theorem ZS.xt {A A' : Nat → Nat} {g g' : pM} {m : Nat} {σ : Sg} (h : ZS g m σ) (x : Ext A g A' g') : ZS g' m σ := by
  obtain ⟨Z, h1, h2⟩ := h
  exact ⟨Z, x.at h1 p_nil, h2⟩
theorem MC.xt {A A' : Nat → Nat} {g g' : pM} {m : Nat} {cs : List Nat} (h : MC g m cs) (x : Ext A g A' g') : MC g' m cs := ⟨h.1.xt x, h.2⟩
theorem KP.xt {A A' : Nat → Nat} {g g' : pM} {m : Nat} {ks : Nat → Option Sg} (h : KP g m ks) (x : Ext A g A' g') : KP g' m ks := by
  obtain ⟨Kp, rk, sz, h1, h2, h3, h4⟩ := h
  exact ⟨Kp, rk, sz, x.at h1 p_nil, x.at h2 p_nil, x.at h3 p_nil, h4⟩
