-- PART 08: a world: sizes, nodes, the row, what is counted
abbrev Sg : Type := (Nat → Nd) × Nat × Nat × Int32 × Nat × List Lt × Int32 × (Nat → Int32) × Sz
abbrev gN (σ : Sg) : Nat → Nd := σ.1
abbrev gK (σ : Sg) : Nat := σ.2.1
abbrev gT (σ : Sg) : Nat := σ.2.2.1
abbrev gTi (σ : Sg) : Int32 := σ.2.2.2.1
abbrev gX (σ : Sg) : Nat := σ.2.2.2.2.1
abbrev gR (σ : Sg) : List Lt := σ.2.2.2.2.2.1
abbrev gS (σ : Sg) : Int32 := σ.2.2.2.2.2.2.1
abbrev gC (σ : Sg) : Nat → Int32 := σ.2.2.2.2.2.2.2.1
abbrev gZ (σ : Sg) : Sz := σ.2.2.2.2.2.2.2.2
abbrev sN (σ : Sg) (v : Nat → Nd) : Sg := (v, σ.2)
abbrev sK (σ : Sg) (v : Nat) : Sg := (σ.1, v, σ.2.2)
abbrev sT (σ : Sg) (v : Nat) : Sg := (σ.1, σ.2.1, v, σ.2.2.2)
abbrev sTi (σ : Sg) (v : Int32) : Sg := (σ.1, σ.2.1, σ.2.2.1, v, σ.2.2.2.2)
abbrev sX (σ : Sg) (v : Nat) : Sg := (σ.1, σ.2.1, σ.2.2.1, σ.2.2.2.1, v, σ.2.2.2.2.2)
abbrev sR (σ : Sg) (v : List Lt) : Sg := (σ.1, σ.2.1, σ.2.2.1, σ.2.2.2.1, σ.2.2.2.2.1, v, σ.2.2.2.2.2.2)
abbrev sS (σ : Sg) (v : Int32) : Sg := (σ.1, σ.2.1, σ.2.2.1, σ.2.2.2.1, σ.2.2.2.2.1, σ.2.2.2.2.2.1, v, σ.2.2.2.2.2.2.2)
abbrev sC (σ : Sg) (v : Nat → Int32) : Sg := (σ.1, σ.2.1, σ.2.2.1, σ.2.2.2.1, σ.2.2.2.2.1, σ.2.2.2.2.2.1, σ.2.2.2.2.2.2.1, v, σ.2.2.2.2.2.2.2.2)
abbrev sZ (σ : Sg) (v : Sz) : Sg := (σ.1, σ.2.1, σ.2.2.1, σ.2.2.2.1, σ.2.2.2.2.1, σ.2.2.2.2.2.1, σ.2.2.2.2.2.2.1, σ.2.2.2.2.2.2.2.1, v)
/-- one node anew -/
abbrev sNd (σ : Sg) (i : Nat) (d : Nd) : Sg := sN σ (va_up (gN σ) i d)
abbrev wOb (A : Nat → Nat) (w cq : Nat) (σ : Sg) : pE := ob 9 [.ref (A cq), .ref (A (w + 1)), .ref (A (w + 2)), .ref (A (w + 1700)), .ref (A (w + 3)), .ref (A (w + 6)), .ref (A (w + 5)), .int (nI (gK σ)), .int (nI (gT σ)), .int (gTi σ), .int (nI (gX σ))]
def nrow (A : Nat → Nat) (w : Nat) : Nat → Option Nat := fun i => if i < 16 then some (A (w + 100 + 100 * i)) else none
theorem nrow_at {A : Nat → Nat} {w i : Nat} (h : i < 16) : nrow A w i = some (A (w + 100 + 100 * i)) := by simp [nrow, h]
def AR (g : pM) (a : Nat) (c : Nat → Int32) : Prop := ∃ r : Nat → Int32, g a = ai 0 13 r ∧ ∀ k, k < 13 → r k = c k
theorem AR.fr {g g' : pM} {a lo hi : Nat} {c : Nat → Int32} (h : AR g a c) (hf : Fr g g' lo hi) (hd : hi ≤ a ∨ a + 1 ≤ lo) : AR g' a c := by
  obtain ⟨r, h1, h2⟩ := h
  exact ⟨r, hf.at (by omega) h1, h2⟩
def WN (A : Nat → Nat) (g : pM) (w : Nat) (σ : Sg) : Prop := ∀ i, i < 16 → ∃ d : Nd, ND A g (w + 100 + 100 * i) i d ∧ (i < gK σ → d = gN σ i)
theorem WN.fr {A : Nat → Nat} {g g' : pM} {w lo hi : Nat} {σ : Sg} (h : WN A g w σ) (hf : Fr g g' lo hi) (hd : hi ≤ w + 100 ∨ w + 1700 ≤ lo) : WN A g' w σ := by
  intro i hi
  obtain ⟨d, h1, h2⟩ := h i hi
  exact ⟨d, h1.fr hf (by omega), h2⟩
def WD (A : Nat → Nat) (g : pM) (w cq : Nat) (σ : Sg) : Prop :=
  g w = wOb A w cq σ ∧ SZ g (w + 1) (gZ σ) ∧ g (w + 2) = aq 4 16 (nrow A w) ∧ WN A g w σ ∧ RW A g w (gR σ) (gS σ) ∧ (∃ t, LT A g (w + 6) t) ∧ AR g (w + 5) (gC σ) ∧ gK σ ≤ 16 ∧ gT σ ≤ 24
theorem WD.fr {A : Nat → Nat} {g g' : pM} {w cq lo hi : Nat} {σ : Sg} (h : WD A g w cq σ) (hf : Fr g g' lo hi) (hd : hi ≤ w ∨ w + 5000 ≤ lo) : WD A g' w cq σ := by
  obtain ⟨h1, h2, h3, h4, h5, ⟨t, h6⟩, h7, h8⟩ := h
  exact ⟨hf.at (by omega) h1, h2.fr hf (by omega), hf.at (by omega) h3, h4.fr hf (by omega), h5.fr hf (by omega), ⟨t, h6.fr hf (by omega)⟩, h7.fr hf (by omega), h8⟩
theorem WD.nd {A : Nat → Nat} {g : pM} {w cq i : Nat} {σ : Sg} (h : WD A g w cq σ) (hi : i < gK σ) : ND A g (w + 100 + 100 * i) i (gN σ i) := by
  obtain ⟨d, h1, h2⟩ := h.2.2.2.1 i (Nat.lt_of_lt_of_le hi h.2.2.2.2.2.2.2.1)
  exact h2 hi ▸ h1
theorem WD.rw {A : Nat → Nat} {g : pM} {w cq : Nat} {σ : Sg} (h : WD A g w cq σ) : RW A g w (gR σ) (gS σ) := h.2.2.2.2.1
theorem RW.ex {A : Nat → Nat} {g : pM} {w : Nat} {row : List Lt} {sp : Int32} (h : RW A g w row sp) : ∃ fi : Nat, g (w + 3) = ob 5 [.ref (A (w + 4)), .int (nI fi), .int (nI row.length), .int sp] := by
  obtain ⟨fi, r, ρ, L, h1, h2, h3, h4, h5⟩ := h
  exact ⟨fi, h2.1⟩
theorem RW.le {A : Nat → Nat} {g : pM} {w : Nat} {row : List Lt} {sp : Int32} (h : RW A g w row sp) : row.length ≤ 500 := by
  obtain ⟨fi, r, ρ, L, h1, h2, h3, h4, h5⟩ := h
  exact h1.2.1
theorem NLN.fr' {A : Nat → Nat} {g g' : pM} {a cap : Nat} {l : List Nat} (h : NLN A g a cap l) (hf : ∀ k, a ≤ k → k < a + 2 → g' k = g k) : NLN A g' a cap l := ⟨h.1.cong (hf _ (by omega) (by omega)) (hf _ (by omega) (by omega)), h.2⟩
theorem ND.fr' {A : Nat → Nat} {g g' : pM} {a i : Nat} {d : Nd} (h : ND A g a i d) (hf : ∀ k, a ≤ k → k < a + 100 → g' k = g k) : ND A g' a i d := by
  obtain ⟨h1, h2, h3, ⟨row, h4, h5⟩, h6, h7⟩ := h
  refine ⟨(hf _ (by omega) (by omega)).trans h1, h2.fr' (fun k k1 k2 => hf k (by omega) (by omega)), h3.fr' (fun k k1 k2 => hf k (by omega) (by omega)), ⟨row, (hf _ (by omega) (by omega)).trans h4, h5⟩, (hf _ (by omega) (by omega)).trans h6, fun t ht => ?_⟩
  have := h7 t ht
  exact ⟨(hf _ (by omega) (by omega)).trans this.1, this.2.fr' (fun k k1 k2 => hf k (by omega) (by omega))⟩
theorem LT.fr' {A : Nat → Nat} {g g' : pM} {a : Nat} {t : Lt} (h : LT A g a t) (hf : ∀ k, a ≤ k → k < a + 3 → g' k = g k) : LT A g' a t := ⟨(hf _ (by omega) (by omega)).trans h.1, h.2.fr' (fun k k1 k2 => hf k (by omega) (by omega))⟩
theorem RW.fr' {A : Nat → Nat} {g g' : pM} {w : Nat} {row : List Lt} {sp : Int32} (h : RW A g w row sp) (hf : ∀ k, k = w + 3 ∨ k = w + 4 ∨ (w + 2000 ≤ k ∧ k < w + 3500) → g' k = g k) : RW A g' w row sp := by
  obtain ⟨fi, r, ρ, L, h1, h2, h3, h4, h5⟩ := h
  exact ⟨fi, r, ρ, L, h1, ⟨(hf _ (by omega)).trans h2.1, (hf _ (by omega)).trans h2.2.1, h2.2.2⟩, fun j hj => (h3 j hj).fr' (fun k k1 k2 => hf k (by omega)), h4, h5⟩
/-- a node of it is put anew -/
theorem WD.sn {A : Nat → Nat} {g g' : pM} {w cq i : Nat} {σ : Sg} {d : Nd} (h : WD A g w cq σ) (hi : i < 16) (hf : Fr g g' (w + 100 + 100 * i) (w + 200 + 100 * i)) (hd : ND A g' (w + 100 + 100 * i) i d) : WD A g' w cq (sNd σ i d) := by
  obtain ⟨h1, h2, h3, h4, h5, ⟨t, h6⟩, h7, h8⟩ := h
  refine ⟨hf.at (by omega) h1, h2.fr hf (by omega), hf.at (by omega) h3, fun j hj => ?_, h5.fr' ?_, ⟨t, h6.fr hf (by omega)⟩, h7.fr hf (by omega), h8⟩
  · by_cases e : j = i
    · subst e
      exact ⟨d, hd, fun _ => (va_up_self _ _ _).symm⟩
    · obtain ⟨d2, k1, k2⟩ := h4 j hj
      exact ⟨d2, k1.fr hf (by omega), fun q => (k2 q).trans (va_up_ne _ _ e).symm⟩
  · intro k hk
    exact hf k (by omega)
/-- its own object is put anew, the nodes that count stay the same -/
theorem WD.ob {A : Nat → Nat} {g g' : pM} {w cq : Nat} {σ σ' : Sg} (h : WD A g w cq σ) (hg : g' = va_up g w (wOb A w cq σ')) (h1 : σ'.1 = σ.1) (h2 : gK σ' = gK σ) (h3 : gR σ' = gR σ) (h4 : gS σ' = gS σ) (h5 : gC σ' = gC σ) (h6 : gZ σ' = gZ σ) (h7 : gT σ' ≤ 24) : WD A g' w cq σ' := by
  have hf : Fr g g' w (w + 1) := by rw [hg]; exact Fr.up (by omega) (by omega)
  obtain ⟨k1, k2, k3, k4, k5, ⟨t, k6⟩, k7, k8, k9⟩ := h
  refine ⟨by rw [hg]; exact va_up_self _ _ _, by rw [h6]; exact k2.fr hf (by omega), hf.at (by omega) k3, ?_, by rw [h3, h4]; exact k5.fr hf (by omega), ⟨t, k6.fr hf (by omega)⟩, by rw [h5]; exact k7.fr hf (by omega), by rw [h2]; exact k8, h7⟩
  intro i hi
  obtain ⟨d, m1, m2⟩ := k4 i hi
  exact ⟨d, m1.fr hf (by omega), fun q => by rw [h2] at q; exact (m2 q).trans (by show gN σ i = σ'.1 i; rw [h1])⟩
/-- only the row changed: its object, its ring, its letters -/
def FrR (g g' : pM) (w : Nat) : Prop := ∀ k, k < w + 3 ∨ (w + 5 ≤ k ∧ k < w + 2000) ∨ w + 3500 ≤ k → g' k = g k
theorem FrR.a {g g' : pM} {w lo hi : Nat} (h : Fr g g' lo hi) (h1 : w + 3 ≤ lo) (h2 : hi ≤ w + 5) : FrR g g' w := fun k hk => h k (by omega)
theorem FrR.b {g g' : pM} {w lo hi : Nat} (h : Fr g g' lo hi) (h1 : w + 2000 ≤ lo) (h2 : hi ≤ w + 3500) : FrR g g' w := fun k hk => h k (by omega)
theorem FrR.tr {g g1 g2 : pM} {w : Nat} (h : FrR g g1 w) (h2 : FrR g1 g2 w) : FrR g g2 w := fun k hk => (h2 k hk).trans (h k hk)
theorem FrR.fr {g g' : pM} {w : Nat} (h : FrR g g' w) : Fr g g' (w + 3) (w + 3500) := fun k hk => h k (by omega)
theorem WD.row {A : Nat → Nat} {g g' : pM} {w cq : Nat} {σ : Sg} {row : List Lt} {sp : Int32} (h : WD A g w cq σ) (hf : FrR g g' w) (hr : RW A g' w row sp) : WD A g' w cq (sS (sR σ row) sp) := by
  obtain ⟨h1, h2, h3, h4, h5, ⟨t, h6⟩, h7, h8⟩ := h
  refine ⟨(hf _ (by omega)).trans h1, (hf _ (by omega)).trans h2, (hf _ (by omega)).trans h3, fun i hi => ?_, hr, ⟨t, (hf _ (by omega)).trans h6.1, h6.2.1.cong (hf _ (by omega)) (hf _ (by omega)), h6.2.2⟩, ?_, h8⟩
  · obtain ⟨d, m1, m2⟩ := h4 i hi
    exact ⟨d, m1.fr' (fun k k1 k2 => hf k (by omega)), m2⟩
  · obtain ⟨r, m1, m2⟩ := h7
    exact ⟨r, (hf _ (by omega)).trans m1, m2⟩
/-- what of a world does not change while it works: its object, its row of nodes -/
def WB (A : Nat → Nat) (g : pM) (w cq : Nat) (σ : Sg) : Prop := g w = wOb A w cq σ ∧ g (w + 2) = aq 4 16 (nrow A w) ∧ gK σ ≤ 16
theorem WB.fr {A : Nat → Nat} {g g' : pM} {w cq lo hi : Nat} {σ : Sg} (h : WB A g w cq σ) (hf : Fr g g' lo hi) (hd : hi ≤ w ∨ w + 3 ≤ lo) : WB A g' w cq σ := ⟨hf.at (by omega) h.1, hf.at (by omega) h.2.1, h.2.2⟩
theorem WD.wb {A : Nat → Nat} {g : pM} {w cq : Nat} {σ : Sg} (h : WD A g w cq σ) : WB A g w cq σ := ⟨h.1, h.2.2.1, h.2.2.2.2.2.2.2.1⟩
theorem WD.k16 {A : Nat → Nat} {g : pM} {w cq : Nat} {σ : Sg} (h : WD A g w cq σ) : gK σ ≤ 16 := h.2.2.2.2.2.2.2.1
theorem WD.cm {A : Nat → Nat} {g g' : pM} {w cq : Nat} {σ : Sg} {t : Lt} (h : WD A g w cq σ) (hf : Fr g g' (w + 6) (w + 9)) (ht : LT A g' (w + 6) t) : WD A g' w cq σ := by
  obtain ⟨h1, h2, h3, h4, h5, h6, h7, h8⟩ := h
  exact ⟨hf.at (by omega) h1, h2.fr hf (by omega), hf.at (by omega) h3, h4.fr hf (by omega), h5.fr' (fun k hk => hf k (by omega)), ⟨t, ht⟩, h7.fr hf (by omega), h8⟩
theorem WD.ar {A : Nat → Nat} {g g' : pM} {w cq : Nat} {σ : Sg} {c : Nat → Int32} (h : WD A g w cq σ) (hf : Fr g g' (w + 5) (w + 6)) (ht : AR g' (w + 5) c) : WD A g' w cq (sC σ c) := by
  obtain ⟨h1, h2, h3, h4, h5, ⟨t, h6⟩, h7, h8⟩ := h
  exact ⟨hf.at (by omega) h1, h2.fr hf (by omega), hf.at (by omega) h3, h4.fr hf (by omega), h5.fr' (fun k hk => hf k (by omega)), ⟨t, h6.fr hf (by omega)⟩, ht, h8⟩
theorem WD.sz {A : Nat → Nat} {g g' : pM} {w cq : Nat} {σ : Sg} {z : Sz} (h : WD A g w cq σ) (hf : Fr g g' (w + 1) (w + 2)) (ht : SZ g' (w + 1) z) : WD A g' w cq (sZ σ z) := by
  obtain ⟨h1, h2, h3, h4, h5, ⟨t, h6⟩, h7, h8⟩ := h
  exact ⟨hf.at (by omega) h1, ht, hf.at (by omega) h3, h4.fr hf (by omega), h5.fr' (fun k hk => hf k (by omega)), ⟨t, h6.fr hf (by omega)⟩, h7.fr hf (by omega), h8⟩
/-- the number that is drawn, and the world behind it -/
def dI (cs : List Nat) (σ : Sg) (n : Nat) : Nat := if n ≤ 1 ∨ cs.length = 0 then 0 else cs.getD (gX σ) 0 % n
def dS (cs : List Nat) (σ : Sg) (n : Nat) : Sg := if n ≤ 1 ∨ cs.length = 0 then σ else sX σ (if gX σ + 1 < cs.length then gX σ + 1 else 0)
theorem dI_lt {cs : List Nat} {σ : Sg} {n : Nat} (hn : 0 < n) : dI cs σ n < n := by
  simp only [dI]
  split
  · exact hn
  · exact Nat.mod_lt _ hn
def lvd (σ : Sg) (i : Nat) : Bool := nLv (gN σ i)
def ltr (σ : Sg) (f t k x y : Nat) (l : List Nat) : Lt := if lvd σ t then (f, t, k, x, y, l) else (t, f, 12, 0, 0, [])
def snd (σ : Sg) (f t k x y : Nat) (l : List Nat) : Sg := if 500 ≤ (gR σ).length then sS σ (gS σ + 1) else sR σ (gR σ ++ [ltr σ f t k x y l])
def ltl (t : Lt) (l : List Nat) : Lt := (t.1, t.2.1, t.2.2.1, t.2.2.2.1, t.2.2.2.2.1, l)
theorem snd_full {σ : Sg} {f t k x y : Nat} {l : List Nat} (h : 500 ≤ (gR σ).length) : snd σ f t k x y l = sS σ (gS σ + 1) := by simp only [snd, if_pos h]
theorem snd_room {σ : Sg} {f t k x y : Nat} {l : List Nat} (h : (gR σ).length < 500) : snd σ f t k x y l = sR σ (gR σ ++ [ltr σ f t k x y l]) := by simp only [snd, if_neg (Nat.not_le.mpr h)]
theorem ltr_live {σ : Sg} {f t k x y : Nat} {l : List Nat} (h : lvd σ t = true) : ltr σ f t k x y l = (f, t, k, x, y, l) := by simp [ltr, h]
theorem ltr_dead {σ : Sg} {f t k x y : Nat} {l : List Nat} (h : lvd σ t = false) : ltr σ f t k x y l = (t, f, 12, 0, 0, []) := by simp [ltr, h]
theorem b32_no {b : Bool} (h : ¬ b32 b = 0) : b = true := by
  cases b
  · exact absurd rfl h
  · rfl
theorem b32_yes {b : Bool} (h : b32 b = 0) : b = false := (b32_0 b).mp h
theorem AR.bmp {g' : pM} {a k : Nat} {c r : Nat → Int32} (hk : k < 13) (hr : ∀ j, j < 13 → r j = c j) (hg : g' a = ai 0 13 (upd r k (r k + 1))) : AR g' a (va_up c k (c k + 1)) := by
  refine ⟨_, hg, fun j hj => ?_⟩
  by_cases e : j = k
  · subst e
    rw [va_up_self]
    simp [upd, hr j hk]
  · rw [va_up_ne _ _ e]
    simp only [upd, if_neg e]
    exact hr j hj
def bmp (c : Nat → Int32) (k : Nat) : Nat → Int32 := va_up c k (c k + 1)
/-- letter i, which is t, leaves the row and is counted -/
def tak (σ : Sg) (i : Nat) (t : Lt) : Sg := sNd (sC (sR σ ((gR σ).eraseIdx i)) (bmp (bmp (gC σ) 0) t.2.2.1)) t.2.1 (sGo (gN σ t.2.1) (nGo (gN σ t.2.1) + 1))
/-- whether node m must learn that node i stops -/
def mls (σ : Sg) (m i : Nat) : Bool := decide (i ∈ nAc (gN σ m)) || decide (nAs (gN σ m) = some i) || (gR σ).any (fun q => q.1 == i && q.2.1 == m)
def hltF (σ : Sg) (i : Nat) : Nat → Sg
  | 0 => σ
  | m + 1 => if lvd (hltF σ i m) m && mls (hltF σ i m) m i then snd (hltF σ i m) i m 12 0 0 [] else hltF σ i m
/-- node i stops: the letters to it go, then those who must learn of it are told -/
def hlt1 (σ : Sg) (i : Nat) : Sg := sR (sNd σ i (sLv (gN σ i) false)) ((gR σ).filter (fun t => !(t.2.1 == i)))
def hlt (σ : Sg) (i : Nat) : Sg := hltF (hlt1 σ i) i (gK σ)
theorem snd_K {σ : Sg} {f t k x y : Nat} {l : List Nat} : gK (snd σ f t k x y l) = gK σ := by
  simp only [snd]
  split <;> rfl
theorem snd_N {σ : Sg} {f t k x y : Nat} {l : List Nat} : gN (snd σ f t k x y l) = gN σ := by
  simp only [snd]
  split <;> rfl
theorem hltF_K {σ : Sg} {i : Nat} : ∀ m, gK (hltF σ i m) = gK σ
  | 0 => rfl
  | m + 1 => by
    simp only [hltF]
    split
    · rw [snd_K]; exact hltF_K m
    · exact hltF_K m
theorem hltF_N {σ : Sg} {i : Nat} : ∀ m, gN (hltF σ i m) = gN σ
  | 0 => rfl
  | m + 1 => by
    simp only [hltF]
    split
    · rw [snd_N]; exact hltF_N m
    · exact hltF_N m
theorem onv_eq {o : Option Nat} {q : Nat} (h : ∀ q, o = some q → q < 2 ^ 31) (hq : q < 2 ^ 31) : onv o = nI q ↔ o = some q := by
  cases o with
  | none =>
    simp only [onv, reduceCtorEq, iff_false]
    intro e
    have := nI_pos hq
    rw [← e] at this
    exact this (by decide)
  | some a =>
    simp only [onv, Option.some.injEq]
    exact nI_eq (h a rfl) hq
def evnP (σ : Sg) (i : Nat) : Bool := (nAc (gN σ i)).any (fun q => lvd σ q && !(decide (i ∈ nAc (gN σ q))))
def evn (σ : Sg) : Bool := (List.range (gK σ)).all (fun i => !(lvd σ i && evnP σ i))
/-- the live ones linked with node i, as bits -/
def lnk (σ : Sg) (i : Nat) : Nat := (nAc (gN σ i)).foldl (fun m q => m ||| (if lvd σ q then 2 ^ q else 0)) 0
def rch1 (σ : Sg) : Nat → Nat → Nat
  | 0, m => m
  | n + 1, m => if (rch1 σ n m).testBit n then rch1 σ n m ||| lnk σ n else rch1 σ n m
def rch (σ : Sg) : Nat → Nat → Nat
  | 0, m => m
  | n + 1, m => rch1 σ (gK σ) (rch σ n m)
/-- the first number below n with p -/
def firstB (p : Nat → Bool) : Nat → Option Nat
  | 0 => none
  | n + 1 => match firstB p n with
    | some i => some i
    | none => if p n then some n else none
theorem firstB_none {p : Nat → Bool} : ∀ {n : Nat}, (∀ j, j < n → p j = false) → firstB p n = none
  | 0, _ => rfl
  | n + 1, h => by simp only [firstB, firstB_none (fun j hj => h j (Nat.lt_succ_of_lt hj)), h n (Nat.lt_succ_self n)]; rfl
theorem firstB_hit {p : Nat → Bool} {i : Nat} (hi : p i = true) (hj : ∀ j, j < i → p j = false) : ∀ {n : Nat}, i < n → firstB p n = some i
  | 0, h => absurd h (Nat.not_lt_zero _)
  | n + 1, h => by
    rcases Nat.lt_succ_iff_lt_or_eq.mp h with q | q
    · simp only [firstB, firstB_hit hi hj q]
    · subst q
      simp only [firstB, firstB_none hj, hi]
      rfl
def fonP (σ σ2 : Sg) (n : Nat) : Bool := !(decide (n < gK σ) && decide (n < gK σ2) && ndSame (gN σ n) (gN σ2 n))
def fon (σ σ2 : Sg) : Option Nat := firstB (fonP σ σ2) (max (gK σ) (gK σ2))
theorem i32_trans {x y z : Int32} (h : x ≤ y) (h2 : y ≤ z) : x ≤ z := by
  rw [Int32.le_iff_toInt_le] at *
  omega
theorem getD_lt {l : List Nat} {i b : Nat} (h : ∀ x ∈ l, x < b) (hb : 0 < b := by omega) : l.getD i 0 < b := by
  by_cases hi : i < l.length
  · rw [List.getD, List.getElem?_eq_getElem hi]
    exact h _ (List.getElem_mem hi)
  · rw [List.getD, List.getElem?_eq_none (by omega)]
    exact hb
theorem wd_open {A : Nat → Nat} {g g1 g2 : pM} {w cq : Nat} {σ : Sg} (hK : gK σ < 16) (h : WD A g w cq σ) (hf1 : Fr g g1 (w + 100 + 100 * gK σ) (w + 100 + 100 * gK σ + 100)) (hn1 : ND A g1 (w + 100 + 100 * gK σ) (gK σ) nd0) (hg : g2 = va_up g1 w (wOb A w cq (sK (sNd σ (gK σ) nd0) (gK σ + 1)))) : WD A g2 w cq (sK (sNd σ (gK σ) nd0) (gK σ + 1)) := by
  have hf2 : Fr g1 g2 w (w + 1) := by rw [hg]; exact Fr.up (by omega) (by omega)
  obtain ⟨k1, k2, k3, k4, k5, ⟨t, k6⟩, ⟨ra, k7, k8⟩, k9, k10⟩ := h
  refine ⟨by rw [hg]; exact va_up_self _ _ _, hf2.at (by omega) (hf1.at (by omega) k2), hf2.at (by omega) (hf1.at (by omega) k3), fun i hi => ?_, k5.fr' (fun k hk => (hf2 k (by omega)).trans (hf1 k (by omega))), ⟨t, k6.fr' (fun k m1 m2 => (hf2 k (by omega)).trans (hf1 k (by omega)))⟩, ⟨ra, hf2.at (by omega) (hf1.at (by omega) k7), k8⟩, hK, k10⟩
  by_cases e : i = gK σ
  · subst e
    exact ⟨nd0, hn1.fr hf2 (by omega), fun _ => (va_up_self _ _ _).symm⟩
  · obtain ⟨d, m1, m2⟩ := k4 i hi
    exact ⟨d, (m1.fr hf1 (by omega)).fr hf2 (by omega), fun q => (m2 (by have : i < gK σ + 1 := q; omega)).trans (va_up_ne _ _ e).symm⟩
theorem send_end {A : Nat → Nat} {g g1 g2 : pM} {w cq j f t k x y : Nat} {σ : Sg} (hf1 : Fr g g1 (w + 3) (w + 4)) (hroom : (gR σ).length < 500) (hj : j < 500) (h : WD A g w cq σ)
    (hwand : ∀ (g2 : pM) (t : Lt), Fr g1 g2 (w + 2000 + 3 * j) (w + 2000 + 3 * j + 3) → LT A g2 (w + 2000 + 3 * j) t → ltW t → RW A g2 w (gR σ ++ [t]) (gS σ)) (hw : ltW (ltr σ f t k x y [])) (hf2 : Fr g1 g2 (w + 2000 + 3 * j) (w + 2000 + 3 * j + 3)) (hn2 : LT A g2 (w + 2000 + 3 * j) (ltr σ f t k x y [])) :
    FrR g g2 w ∧ ((500 ≤ (gR σ).length ∧ some (Value.ref (A (w + 2000 + 3 * j))) = some .null ∧ WD A g2 w cq (snd σ f t k x y [])) ∨ ((gR σ).length < 500 ∧ ∃ j', j' < 500 ∧ some (Value.ref (A (w + 2000 + 3 * j))) = some (.ref (A (w + 2000 + 3 * j'))) ∧ LT A g2 (w + 2000 + 3 * j') (ltr σ f t k x y []) ∧ WD A g2 w cq (snd σ f t k x y []) ∧ ∀ g3 l, Fr g2 g3 (w + 2000 + 3 * j' + 1) (w + 2000 + 3 * j' + 3) → NLN A g3 (w + 2000 + 3 * j' + 1) 5 l → WD A g3 w cq (sR σ (gR σ ++ [ltl (ltr σ f t k x y []) l])))) := by
  have hR : FrR g g2 w := (FrR.a hf1 (by omega) (by omega)).tr (FrR.b hf2 (by omega) (by omega))
  refine ⟨hR, Or.inr ⟨hroom, j, hj, rfl, hn2, by rw [snd_room hroom]; exact h.row hR (hwand g2 _ hf2 hn2 hw), fun g3 l hf3 hl => ?_⟩⟩
  exact h.row (hR.tr (FrR.b hf3 (by omega) (by omega))) (hwand g3 (ltl (ltr σ f t k x y []) l) (hf2.tr (hf3.mo (by omega) (by omega))) ⟨hf3.at (by omega) hn2.1, hl⟩ hw)
theorem mls_a {σ : Sg} {m i : Nat} (h : i ∈ nAc (gN σ m)) : mls σ m i = true := by simp [mls, h]
theorem mls_b {σ : Sg} {m i : Nat} (h : nAs (gN σ m) = some i) : mls σ m i = true := by simp [mls, h]
theorem mls_c {σ : Sg} {m i : Nat} (h : ¬ i ∈ nAc (gN σ m)) (h2 : ¬ nAs (gN σ m) = some i) : mls σ m i = (gR σ).any (fun q => q.1 == i && q.2.1 == m) := by simp [mls, h, h2]
theorem getD_mem {l : List Nat} {k : Nat} (h : k < l.length) : l.getD k 0 ∈ l := by
  rw [List.getD, List.getElem?_eq_getElem h]
  exact List.getElem_mem h
theorem evn_yes {σ : Sg} {i k : Nat} (hk : k < (nAc (gN σ i)).length) (h1 : lvd σ ((nAc (gN σ i)).getD k 0) = true) (h2 : decide (i ∈ nAc (gN σ ((nAc (gN σ i)).getD k 0))) = false) : evnP σ i = true := by
  simp only [evnP, List.any_eq_true]
  exact ⟨_, getD_mem hk, by rw [h1, h2]; rfl⟩
theorem evn_no {σ : Sg} {i : Nat} (h : ∀ j, j < (nAc (gN σ i)).length → (lvd σ ((nAc (gN σ i)).getD j 0) && !(decide (i ∈ nAc (gN σ ((nAc (gN σ i)).getD j 0))))) = false) : evnP σ i = false := by
  simp only [evnP, List.any_eq_false]
  intro q hq
  obtain ⟨j, hj⟩ := List.mem_iff_getElem?.mp hq
  have hlt := (List.getElem?_eq_some_iff.mp hj).1
  have := h j hlt
  rw [List.getD, hj] at this
  simp only [Option.getD_some] at this
  rw [this]
  decide
theorem evn_f {σ : Sg} {i : Nat} (hi : i < gK σ) (h1 : lvd σ i = true) (h2 : evnP σ i = true) : evn σ = false := by
  simp only [evn, List.all_eq_false]
  exact ⟨i, List.mem_range.mpr hi, by rw [h1, h2]; decide⟩
theorem evn_t {σ : Sg} (h : ∀ j, j < gK σ → (lvd σ j && evnP σ j) = false) : evn σ = true := by
  simp only [evn, List.all_eq_true]
  intro i hi
  rw [h i (List.mem_range.mp hi)]
  rfl
theorem foldl_take {l : List Nat} {k : Nat} {f : Nat → Nat → Nat} {a : Nat} (h : k < l.length) : (l.take (k + 1)).foldl f a = f ((l.take k).foldl f a) (l.getD k 0) := by
  rw [List.take_succ, List.getElem?_eq_getElem h, List.foldl_append]
  simp [List.getD, List.getElem?_eq_getElem h]
theorem isN_lt {n K : Nat} (hn : n < 2 ^ 31) (hK : K < 2 ^ 31) (h : decide (¬ nI n < 0 ∧ nI n < nI K) = true) : n < K := (nI_ltI hn hK).mp (of_decide_eq_true h).2
theorem fonP_1 {σ σ2 : Sg} {i : Nat} (h : ¬ i < gK σ) : fonP σ σ2 i = true := by simp [fonP, h]
theorem fonP_2 {σ σ2 : Sg} {i : Nat} (h : ¬ i < gK σ2) : fonP σ σ2 i = true := by simp [fonP, h]
theorem fonP_3 {σ σ2 : Sg} {i : Nat} (h : ndSame (gN σ i) (gN σ2 i) = false) : fonP σ σ2 i = true := by simp [fonP, h]
theorem fonP_f {σ σ2 : Sg} {i : Nat} (h1 : i < gK σ) (h2 : i < gK σ2) (h : ndSame (gN σ i) (gN σ2 i) = true) : fonP σ σ2 i = false := by simp [fonP, h1, h2, h]
/-- what a world's work changes: all its cells but the letter that comes -/
def FrV (g g' : pM) (w : Nat) : Prop := ∀ k, k < w ∨ w + 5000 ≤ k ∨ (w + 6 ≤ k ∧ k < w + 9) → g' k = g k
theorem FrV.rf {g : pM} {w : Nat} : FrV g g w := fun _ _ => rfl
theorem FrV.tr {g g1 g2 : pM} {w : Nat} (h : FrV g g1 w) (h2 : FrV g1 g2 w) : FrV g g2 w := fun k hk => (h2 k hk).trans (h k hk)
theorem FrR.v {g g' : pM} {w : Nat} (h : FrR g g' w) : FrV g g' w := fun k hk => h k (by omega)
theorem Fr.v {g g' : pM} {w lo hi : Nat} (h : Fr g g' lo hi) (h1 : w ≤ lo) (h2 : hi ≤ w + 6 ∨ (w + 9 ≤ lo ∧ hi ≤ w + 5000)) : FrV g g' w := fun k hk => h k (by omega)
theorem FrV.w {g g' : pM} {w : Nat} (h : FrV g g' w) : Fr g g' w (w + 5000) := fun k hk => h k (by omega)
theorem hltF_f {σ : Sg} {i m : Nat} (h : (lvd (hltF σ i m) m && mls (hltF σ i m) m i) = false) : hltF σ i (m + 1) = hltF σ i m := by
  simp only [hltF, h]
  rfl
theorem hltF_t {σ : Sg} {i m : Nat} (h : lvd (hltF σ i m) m = true) (h2 : mls (hltF σ i m) m i = true) : hltF σ i (m + 1) = snd (hltF σ i m) i m 12 0 0 [] := by
  simp only [hltF, h, h2]
  rfl
theorem ht_w {σ : Sg} {i : Nat} (hw : ∀ m, m < gK σ → ndW (gN σ m)) (m : Nat) (hm : m < gK σ) : ndW (gN (hlt1 σ i) m) := by
  show ndW (va_up (gN σ) i (sLv (gN σ i) false) m)
  by_cases e : m = i
  · subst e
    rw [va_up_self]
    exact hw m hm
  · rw [va_up_ne _ _ e]
    exact hw m hm
theorem lc_c {w lc k : Nat} (h : lc + 2 ≤ w + 3 ∨ (w + 5 ≤ lc ∧ lc + 2 ≤ w + 2000) ∨ w + 3500 ≤ lc) (h1 : lc ≤ k) (h2 : k < lc + 2) : k < w + 3 ∨ (w + 5 ≤ k ∧ k < w + 2000) ∨ w + 3500 ≤ k := by omega
abbrev rm_X9_isNode : Room := { frames := 0, cells := 0, slots := 0, locals := 0 }
theorem Y_X9_isNode : pY yX9_isNode cX9_isNode 2 (Option.some Jvm.ClassFile.FieldType.boolean) := ⟨u_386, u_387, u_3, u_388⟩
theorem N_X9_isNode : yX9_isNode.cls ≠ "java/lang/invoke/MethodHandle" ∧ yX9_isNode.cls ≠ "java/lang/invoke/VarHandle" ∧ (parseMethodDescriptor yX9_isNode.desc).map (fun d => d.parameters.length) = some 1 := by decide +kernel
set_option maxRecDepth 20000 in
set_option maxHeartbeats 4000000 in
theorem c_X9_isNode (A : Nat → Nat) (P : List Nat) (g : pM) (w : Nat) {cq : Nat} {σ : Sg} (x : Int32) (h : WB A g w cq σ) : PM yX9_isNode cX9_isNode 2 (Option.some Jvm.ClassFile.FieldType.boolean) rm_X9_isNode [.ref (A w), .int x] P A g (fun v g' => v = some (.int (b32 (decide (¬ x < 0 ∧ x < nI (gK σ))))) ∧ g = g') := by
  have hK : gK σ ≤ 16 := h.2.2
  refine px_intro (by decide +kernel) (Nat.le_of_ble_eq_true rfl) (fun K sz C R => ?_)
  show V K 0 0 P A g [(0, .ref (A w)), (1, .int x)] 0 []
  refine g_iload_n (pc := 0) C dX9_isNode_0 1 rfl ?_
  refine g_if_lt (pc := 1) C dX9_isNode_1 (tgt := 22) (by decide) (fun c_1 => ?_) (fun c_1 => ?_)
  ·
    refine g_iconst (pc := 22) C dX9_isNode_22 (v := nI 0) rfl ?_
    exact g_zret (pc := 23) C R (Or.inl rfl) ⟨rfl, rfl, by rw [decide_eq_false (fun q => q.1 c_1)]; rfl, rfl⟩ (by decide) (by decide) dX9_isNode_23
  ·
    refine g_iload_n (pc := 4) C dX9_isNode_4 1 rfl ?_
    refine g_aload_n (pc := 5) C dX9_isNode_5 0 rfl ?_
    refine g_get (pc := 6) C (j := 7) h.1 rfl rfl (by decide) u_258 dX9_isNode_6 ?_
    refine g_icmp_ge (pc := 9) C dX9_isNode_9 (tgt := 22) (by decide) (fun c_9 => ?_) (fun c_9 => ?_)
    ·
      refine g_iconst (pc := 22) C dX9_isNode_22 (v := nI 0) rfl ?_
      exact g_zret (pc := 23) C R (Or.inl rfl) ⟨rfl, rfl, by rw [decide_eq_false (fun q => i32_nlt c_9 q.2)]; rfl, rfl⟩ (by decide) (by decide) dX9_isNode_23
    ·
      refine g_iload_n (pc := 12) C dX9_isNode_12 1 rfl ?_
      refine g_bipush (pc := 13) C dX9_isNode_13 (v := nI 16) rfl ?_
      refine g_icmp_ge (pc := 15) C dX9_isNode_15 (tgt := 22) (by decide) (fun c_15 => ?_) (fun c_15 => ?_)
      ·
        exact absurd (i32_trans ((nI_leI (by omega) (by omega)).mpr hK) c_15) c_9
      ·
        refine g_iconst (pc := 18) C dX9_isNode_18 (v := nI 1) rfl ?_
        refine g_goto (pc := 19) C dX9_isNode_19 (tgt := 23) (by decide) ?_
        exact g_zret (pc := 23) C R (Or.inr rfl) ⟨rfl, rfl, by rw [decide_eq_true ⟨c_1, i32_lt c_9⟩]; rfl, rfl⟩ (by decide) (by decide) dX9_isNode_23
abbrev rm_X9_isTale : Room := { frames := 0, cells := 0, slots := 0, locals := 0 }
theorem Y_X9_isTale : pY yX9_isTale cX9_isTale 2 (Option.some Jvm.ClassFile.FieldType.boolean) := ⟨u_716, u_717, u_3, u_718⟩
theorem N_X9_isTale : yX9_isTale.cls ≠ "java/lang/invoke/MethodHandle" ∧ yX9_isTale.cls ≠ "java/lang/invoke/VarHandle" ∧ (parseMethodDescriptor yX9_isTale.desc).map (fun d => d.parameters.length) = some 1 := by decide +kernel
set_option maxRecDepth 20000 in
set_option maxHeartbeats 4000000 in
theorem c_X9_isTale (A : Nat → Nat) (P : List Nat) (g : pM) (w : Nat) {cq : Nat} {σ : Sg} (x : Int32) (h : WB A g w cq σ) : PM yX9_isTale cX9_isTale 2 (Option.some Jvm.ClassFile.FieldType.boolean) rm_X9_isTale [.ref (A w), .int x] P A g (fun v g' => v = some (.int (b32 (decide (¬ x < 0 ∧ x < nI (gT σ))))) ∧ g = g') := by
  refine px_intro (by decide +kernel) (Nat.le_of_ble_eq_true rfl) (fun K sz C R => ?_)
  show V K 0 0 P A g [(0, .ref (A w)), (1, .int x)] 0 []
  refine g_iload_n (pc := 0) C dX9_isTale_0 1 rfl ?_
  refine g_if_lt (pc := 1) C dX9_isTale_1 (tgt := 16) (by decide) (fun c_1 => ?_) (fun c_1 => ?_)
  ·
    refine g_iconst (pc := 16) C dX9_isTale_16 (v := nI 0) rfl ?_
    exact g_zret (pc := 17) C R (Or.inl rfl) ⟨rfl, rfl, by rw [decide_eq_false (fun q => q.1 c_1)]; rfl, rfl⟩ (by decide) (by decide) dX9_isTale_17
  ·
    refine g_iload_n (pc := 4) C dX9_isTale_4 1 rfl ?_
    refine g_aload_n (pc := 5) C dX9_isTale_5 0 rfl ?_
    refine g_get (pc := 6) C (j := 8) h.1 rfl rfl (by decide) u_261 dX9_isTale_6 ?_
    refine g_icmp_ge (pc := 9) C dX9_isTale_9 (tgt := 16) (by decide) (fun c_9 => ?_) (fun c_9 => ?_)
    ·
      refine g_iconst (pc := 16) C dX9_isTale_16 (v := nI 0) rfl ?_
      exact g_zret (pc := 17) C R (Or.inl rfl) ⟨rfl, rfl, by rw [decide_eq_false (fun q => i32_nlt c_9 q.2)]; rfl, rfl⟩ (by decide) (by decide) dX9_isTale_17
    ·
      refine g_iconst (pc := 12) C dX9_isTale_12 (v := nI 1) rfl ?_
      refine g_goto (pc := 13) C dX9_isTale_13 (tgt := 17) (by decide) ?_
      exact g_zret (pc := 17) C R (Or.inr rfl) ⟨rfl, rfl, by rw [decide_eq_true ⟨c_1, i32_lt c_9⟩]; rfl, rfl⟩ (by decide) (by decide) dX9_isTale_17
abbrev rm_X9_nodeAt : Room := { frames := 1, cells := 0, slots := 0, locals := 21 }
theorem Y_X9_nodeAt : pY yX9_nodeAt cX9_nodeAt 2 (Option.some (Jvm.ClassFile.FieldType.object "ViewBroadcast$Node")) := ⟨u_390, u_391, u_3, u_392⟩
theorem N_X9_nodeAt : yX9_nodeAt.cls ≠ "java/lang/invoke/MethodHandle" ∧ yX9_nodeAt.cls ≠ "java/lang/invoke/VarHandle" ∧ (parseMethodDescriptor yX9_nodeAt.desc).map (fun d => d.parameters.length) = some 1 := by decide +kernel
set_option maxRecDepth 20000 in
set_option maxHeartbeats 4000000 in
theorem c_X9_nodeAt (A : Nat → Nat) (P : List Nat) (g : pM) (w : Nat) {cq : Nat} {σ : Sg} (i : Nat) (hi : i < gK σ) (h : WB A g w cq σ) : PM yX9_nodeAt cX9_nodeAt 2 (Option.some (Jvm.ClassFile.FieldType.object "ViewBroadcast$Node")) rm_X9_nodeAt [.ref (A w), .int (nI i)] P A g (fun v g' => v = some (.ref (A (w + 100 + 100 * i))) ∧ g = g') := by
  have hK : gK σ ≤ 16 := h.2.2
  refine px_intro (by decide +kernel) (Nat.le_of_ble_eq_true rfl) (fun K sz C R => ?_)
  show V K 0 0 P A g [(0, .ref (A w)), (1, .int (nI i))] 0 []
  refine g_aload_n (pc := 0) C dX9_nodeAt_0 0 rfl ?_
  refine g_iload_n (pc := 1) C dX9_nodeAt_1 1 rfl ?_
  refine g_callV (pc := 2) C (As := [.int (nI i)]) (rest := []) (b := w) (c_X9_isNode A P g w (nI i) h) h.1 rfl rfl Y_X9_isNode u_393 N_X9_isNode ⟨by decide, by decide⟩ ⟨by decide, by decide⟩ (Nat.le_of_ble_eq_true rfl) rfl dX9_nodeAt_2 ?_
  rintro _ _ _ _ ⟨rfl, rfl, rfl, rfl⟩
  show V K 0 0 P A g [(0, .ref (A w)), (1, .int (nI i))] 5 [.int (b32 (decide (¬ nI i < 0 ∧ nI i < nI (gK σ))))]
  refine g_if_eq (pc := 5) C dX9_nodeAt_5 (tgt := 17) (by decide) (fun c_5 => ?_) (fun c_5 => ?_)
  ·
    exact absurd c_5 (by rw [decide_eq_true ⟨nI_pos (by omega), (nI_ltI (by omega) (by omega)).mpr hi⟩]; decide)
  ·
    refine g_aload_n (pc := 8) C dX9_nodeAt_8 0 rfl ?_
    refine g_get (pc := 9) C (j := 2) h.1 rfl rfl (by decide) u_251 dX9_nodeAt_9 ?_
    refine g_iload_n (pc := 12) C dX9_nodeAt_12 1 rfl ?_
    refine g_aldq (pc := 13) C h.2.1 (fun _ => rfl) (nI_clamp (by omega)) (nI_in0 (by omega) (by omega)) dX9_nodeAt_13 (x := A (w + 100 + 100 * i)) (nrow_at (by omega)) ?_
    refine g_goto (pc := 14) C dX9_nodeAt_14 (tgt := 21) (by decide) ?_
    exact g_aret (pc := 21) C R (Or.inr ⟨_, rfl⟩) ⟨rfl, rfl, ⟨rfl, rfl⟩⟩ (by decide) (by decide) dX9_nodeAt_21
abbrev rm_X9_openNode : Room := { frames := 3, cells := 0, slots := 0, locals := 61 }
theorem Y_X9_openNode : pY yX9_openNode cX9_openNode 1 (Option.some Jvm.ClassFile.FieldType.int) := ⟨u_365, u_366, u_3, u_367⟩
theorem N_X9_openNode : yX9_openNode.cls ≠ "java/lang/invoke/MethodHandle" ∧ yX9_openNode.cls ≠ "java/lang/invoke/VarHandle" ∧ (parseMethodDescriptor yX9_openNode.desc).map (fun d => d.parameters.length) = some 0 := by decide +kernel
set_option maxRecDepth 20000 in
set_option maxHeartbeats 4000000 in
theorem c_X9_openNode (A : Nat → Nat) (P : List Nat) (g : pM) (w : Nat) {cq : Nat} {σ : Sg} (h : WD A g w cq σ) : PM yX9_openNode cX9_openNode 1 (Option.some Jvm.ClassFile.FieldType.int) rm_X9_openNode [.ref (A w)] P A g (fun v g' => (16 ≤ gK σ ∧ v = some (.int (-4)) ∧ g = g') ∨ (gK σ < 16 ∧ v = some (.int (nI (gK σ))) ∧ WD A g' w cq (sK (sNd σ (gK σ) nd0) (gK σ + 1)) ∧ Fr g g' w (w + 5000))) := by
  have hK : gK σ ≤ 16 := h.k16
  refine px_intro (by decide +kernel) (Nat.le_of_ble_eq_true rfl) (fun K sz C R => ?_)
  show V K 0 0 P A g [(0, .ref (A w))] 0 []
  refine g_aload_n (pc := 0) C dX9_openNode_0 0 rfl ?_
  refine g_get (pc := 1) C (j := 7) (WD.wb h).1 rfl rfl (by decide) u_258 dX9_openNode_1 ?_
  refine g_bipush (pc := 4) C dX9_openNode_4 (v := nI 16) rfl ?_
  refine g_icmp_lt (pc := 6) C dX9_openNode_6 (tgt := 12) (by decide) (fun c_6 => ?_) (fun c_6 => ?_)
  ·
    have c_6 : (gK σ) < 16 := (nI_ltI (by omega) (by omega)).mp c_6
    obtain ⟨d0, hd0, -⟩ := h.2.2.2.1 (gK σ) c_6
    refine g_aload_n (pc := 12) C dX9_openNode_12 0 rfl ?_
    refine g_get (pc := 13) C (j := 2) (WD.wb h).1 rfl rfl (by decide) u_251 dX9_openNode_13 ?_
    refine g_aload_n (pc := 16) C dX9_openNode_16 0 rfl ?_
    refine g_get (pc := 17) C (j := 7) (WD.wb h).1 rfl rfl (by decide) u_258 dX9_openNode_17 ?_
    refine g_aldq (pc := 20) C h.2.2.1 (fun _ => rfl) (nI_clamp (by omega)) (nI_in0 (by omega) (by omega)) dX9_openNode_20 (x := A (w + 100 + 100 * (gK σ))) (nrow_at (by omega)) ?_
    refine g_callV (pc := 21) C (As := []) (rest := []) (b := (w + 100 + 100 * (gK σ))) (c_X3_begin A P g (w + 100 + 100 * gK σ) hd0) hd0.1 rfl rfl Y_X3_begin u_368 N_X3_begin ⟨by decide, by decide⟩ ⟨by decide, by decide⟩ (Nat.le_of_ble_eq_true rfl) rfl dX9_openNode_21 ?_
    rintro _ _ _ g1 ⟨rfl, rfl, rfl, hn1, hf1⟩
    have hB1 : WB A g1 w cq σ := h.wb.fr hf1 (by omega)
    show V K 0 0 P A g1 [(0, .ref (A w))] 24 []
    refine g_aload_n (pc := 24) C dX9_openNode_24 0 rfl ?_
    refine g_dup (pc := 25) C dX9_openNode_25 rfl ?_
    refine g_get (pc := 26) C (j := 7) hB1.1 rfl rfl (by decide) u_258 dX9_openNode_26 ?_
    refine g_iconst (pc := 29) C dX9_openNode_29 (v := nI 1) rfl ?_
    refine g_iadd (pc := 30) C dX9_openNode_30 (z := nI (gK σ + 1)) (nI_add _ _) ?_
    refine g_put (pc := 31) C (j := 7) hB1.1 rfl (by decide) (Nat.le_of_ble_eq_true rfl) u_258 rfl pfd_I rfl rfl dX9_openNode_31 ?_
    obtain ⟨g_1, hg_1⟩ : ∃ yM : pM, yM = va_up g1 w (ob 9 [.ref (A cq), .ref (A (w + 1)), .ref (A (w + 2)), .ref (A (w + 1700)), .ref (A (w + 3)), .ref (A (w + 6)), .ref (A (w + 5)), .int (nI (gK σ + 1)), .int (nI (gT σ)), .int (gTi σ), .int (nI (gX σ))]) := ⟨_, rfl⟩
    show V K 0 0 P A (va_up g1 w (ob 9 [.ref (A cq), .ref (A (w + 1)), .ref (A (w + 2)), .ref (A (w + 1700)), .ref (A (w + 3)), .ref (A (w + 6)), .ref (A (w + 5)), .int (nI (gK σ + 1)), .int (nI (gT σ)), .int (gTi σ), .int (nI (gX σ))])) [(0, .ref (A w))] 34 []
    rw [← hg_1]
    have h_2 : g_1 w = ob 9 [.ref (A cq), .ref (A (w + 1)), .ref (A (w + 2)), .ref (A (w + 1700)), .ref (A (w + 3)), .ref (A (w + 6)), .ref (A (w + 5)), .int (nI (gK σ + 1)), .int (nI (gT σ)), .int (gTi σ), .int (nI (gX σ))] := by rw [hg_1]; exact va_up_self _ _ _
    refine g_aload_n (pc := 34) C dX9_openNode_34 0 rfl ?_
    refine g_get (pc := 35) C (j := 7) h_2 rfl rfl (by decide) u_258 dX9_openNode_35 ?_
    refine g_iconst (pc := 38) C dX9_openNode_38 (v := nI 1) rfl ?_
    refine g_isub (pc := 39) C dX9_openNode_39 (z := nI (gK σ)) (by rw [pk_sub (by omega)]; rfl) ?_
    exact g_iret (pc := 40) C R ⟨rfl, rfl, Or.inr ⟨c_6, rfl, wd_open c_6 h hf1 hn1 hg_1, (hf1.mo (by omega) (by omega)).tr (show Fr g1 _ w (w + 5000) from fun k hk => by rw [hg_1, va_up_ne _ _ (by omega)])⟩⟩ (by decide) (by decide) dX9_openNode_40
  ·
    have c_6 : ¬ (gK σ) < 16 := fun h => c_6 ((nI_ltI (a := (gK σ)) (b := 16) (by omega) (by omega)).mpr h)
    have c_6 : 16 ≤ gK σ := by omega
    refine g_bipush (pc := 9) C dX9_openNode_9 (v := (-4)) rfl ?_
    exact g_iret (pc := 11) C R ⟨rfl, rfl, Or.inl ⟨c_6, rfl, rfl⟩⟩ (by decide) (by decide) dX9_openNode_11
abbrev rm_X9_draw : Room := { frames := 1, cells := 0, slots := 0, locals := 21 }
theorem Y_X9_draw : pY yX9_draw cX9_draw 3 (Option.some Jvm.ClassFile.FieldType.int) := ⟨u_475, u_476, u_3, u_477⟩
theorem N_X9_draw : yX9_draw.cls ≠ "java/lang/invoke/MethodHandle" ∧ yX9_draw.cls ≠ "java/lang/invoke/VarHandle" ∧ (parseMethodDescriptor yX9_draw.desc).map (fun d => d.parameters.length) = some 1 := by decide +kernel
set_option maxRecDepth 20000 in
set_option maxHeartbeats 4000000 in
theorem c_X9_draw (A : Nat → Nat) (P : List Nat) (g : pM) (w : Nat) {cq : Nat} {σ : Sg} {cs : List Nat} (n : Nat) (hn : n < 2 ^ 31) (h : WD A g w cq σ) (hc : CO A g cq cs) (hx : cs.length = 0 ∨ gX σ < cs.length) (hd : cq + 2 ≤ w ∨ w + 5000 ≤ cq) : PM yX9_draw cX9_draw 3 (Option.some Jvm.ClassFile.FieldType.int) rm_X9_draw [.ref (A w), .int (nI n)] P A g (fun v g' => v = some (.int (if n = 0 then -6 else nI (dI cs σ n))) ∧ WD A g' w cq (dS cs σ n) ∧ Fr g g' w (w + 1)) := by
  have hK : gK σ ≤ 16 := h.k16
  have hcl := hc.1
  have hcb : cs.getD (gX σ) 0 < 2 ^ 31 := getD_lt hc.2.1
  refine px_intro (by decide +kernel) (Nat.le_of_ble_eq_true rfl) (fun K sz C R => ?_)
  show V K 0 0 P A g [(0, .ref (A w)), (1, .int (nI n))] 0 []
  refine g_iload_n (pc := 0) C dX9_draw_0 1 rfl ?_
  refine g_if_gt (pc := 1) C dX9_draw_1 (tgt := 7) (by decide) (fun c_1 => ?_) (fun c_1 => ?_)
  ·
    have c_1 : 0 < n := (nI_ltI (by omega) (by omega)).mp c_1
    refine g_iload_n (pc := 7) C dX9_draw_7 1 rfl ?_
    refine g_iconst (pc := 8) C dX9_draw_8 (v := nI 1) rfl ?_
    refine g_icmp_eq (pc := 9) C dX9_draw_9 (tgt := 22) (by decide) (fun c_9 => ?_) (fun c_9 => ?_)
    ·
      have c_9 : n = 1 := (nI_eq (by omega) (by omega)).mp c_9
      refine g_iconst (pc := 22) C dX9_draw_22 (v := nI 0) rfl ?_
      exact g_iret (pc := 23) C R ⟨rfl, rfl, by rw [if_neg (by omega)]; simp only [dI]; rw [if_pos (Or.inl (by omega))], by simp only [dS]; rw [if_pos (Or.inl (by omega))]; exact h, Fr.rf⟩ (by decide) (by decide) dX9_draw_23
    ·
      have c_9 : ¬ n = 1 := fun h => c_9 ((nI_eq (a := n) (b := 1) (by omega) (by omega)).mpr h)
      refine g_aload_n (pc := 12) C dX9_draw_12 0 rfl ?_
      refine g_get (pc := 13) C (j := 0) (WD.wb h).1 rfl rfl (by decide) u_246 dX9_draw_13 ?_
      refine g_get (pc := 16) C (j := 1) hc.2.2.1 rfl rfl (by decide) u_32 dX9_draw_16 ?_
      refine g_if_ne (pc := 19) C dX9_draw_19 (tgt := 24) (by decide) (fun c_19 => ?_) (fun c_19 => ?_)
      ·
        have c_19 : ¬ cs.length = 0 := fun h => c_19 ((nI_eq (a := cs.length) (b := 0) (by omega) (by omega)).mpr h)
        refine g_aload_n (pc := 24) C dX9_draw_24 0 rfl ?_
        refine g_get (pc := 25) C (j := 0) (WD.wb h).1 rfl rfl (by decide) u_246 dX9_draw_25 ?_
        refine g_aload_n (pc := 28) C dX9_draw_28 0 rfl ?_
        refine g_get (pc := 29) C (j := 10) (WD.wb h).1 rfl rfl (by decide) u_267 dX9_draw_29 ?_
        refine g_callV (pc := 32) C (As := [.int (nI (gX σ))]) (rest := []) (b := cq) (c_X0_at A P g cq (gX σ) (by omega) hc) hc.2.2.1 rfl rfl Y_X0_at u_478 N_X0_at ⟨by decide, by decide⟩ ⟨by decide, by decide⟩ (Nat.le_of_ble_eq_true rfl) rfl dX9_draw_32 ?_
        rintro _ _ _ _ ⟨rfl, rfl, rfl, rfl⟩
        show V K 0 0 P A g [(0, .ref (A w)), (1, .int (nI n))] 35 [.int (nI (cs.getD (gX σ) 0))]
        refine g_istore_n (pc := 35) C dX9_draw_35 (by decide) (lv' := [(0, .ref (A w)), (1, .int (nI n)), (2, .int (nI (cs.getD (gX σ) 0)))]) [1, 2, 0] rfl ?_
        refine g_aload_n (pc := 36) C dX9_draw_36 0 rfl ?_
        refine g_aload_n (pc := 37) C dX9_draw_37 0 rfl ?_
        refine g_get (pc := 38) C (j := 0) (WD.wb h).1 rfl rfl (by decide) u_246 dX9_draw_38 ?_
        refine g_aload_n (pc := 41) C dX9_draw_41 0 rfl ?_
        refine g_get (pc := 42) C (j := 10) (WD.wb h).1 rfl rfl (by decide) u_267 dX9_draw_42 ?_
        refine g_callV (pc := 45) C (As := [.int (nI (gX σ))]) (rest := [.ref (A w)]) (b := cq) (c_X0_behind A P g cq (gX σ) (by omega) hc) hc.2.2.1 rfl rfl Y_X0_behind u_482 N_X0_behind ⟨by decide, by decide⟩ ⟨by decide, by decide⟩ (Nat.le_of_ble_eq_true rfl) rfl dX9_draw_45 ?_
        rintro _ _ _ _ ⟨rfl, rfl, rfl, rfl⟩
        show V K 0 0 P A g [(0, .ref (A w)), (1, .int (nI n)), (2, .int (nI (cs.getD (gX σ) 0)))] 48 [.int (nI (if gX σ + 1 < cs.length then gX σ + 1 else 0)), .ref (A w)]
        refine g_put (pc := 48) C (j := 10) (WD.wb h).1 rfl (by decide) (Nat.le_of_ble_eq_true rfl) u_267 rfl pfd_I rfl rfl dX9_draw_48 ?_
        obtain ⟨g_1, hg_1⟩ : ∃ yM : pM, yM = va_up g w (ob 9 [.ref (A cq), .ref (A (w + 1)), .ref (A (w + 2)), .ref (A (w + 1700)), .ref (A (w + 3)), .ref (A (w + 6)), .ref (A (w + 5)), .int (nI (gK σ)), .int (nI (gT σ)), .int (gTi σ), .int (nI (if gX σ + 1 < cs.length then gX σ + 1 else 0))]) := ⟨_, rfl⟩
        show V K 0 0 P A (va_up g w (ob 9 [.ref (A cq), .ref (A (w + 1)), .ref (A (w + 2)), .ref (A (w + 1700)), .ref (A (w + 3)), .ref (A (w + 6)), .ref (A (w + 5)), .int (nI (gK σ)), .int (nI (gT σ)), .int (gTi σ), .int (nI (if gX σ + 1 < cs.length then gX σ + 1 else 0))])) [(0, .ref (A w)), (1, .int (nI n)), (2, .int (nI (cs.getD (gX σ) 0)))] 51 []
        rw [← hg_1]
        have hW_2 : WD A g_1 w cq (sX σ (if gX σ + 1 < cs.length then gX σ + 1 else 0)) := WD.ob h hg_1 rfl rfl rfl rfl rfl rfl (by first | exact h.2.2.2.2.2.2.2.2 | omega)
        have hf_3 : Fr g g_1 w (w + 1) := by rw [hg_1]; exact Fr.up (by omega) (by omega)
        have hp_4 := CO.fr hc hf_3 (by omega)
        refine g_iload_n (pc := 51) C dX9_draw_51 2 rfl ?_
        refine g_iload_n (pc := 52) C dX9_draw_52 1 rfl ?_
        refine g_irem (pc := 53) C dX9_draw_53 (nI_ne0 (by omega) hn) (z := nI (cs.getD (gX σ) 0 % n)) (pk_rem hcb (by omega) hn) ?_
        exact g_iret (pc := 54) C R ⟨rfl, rfl, by rw [if_neg (by omega)]; simp only [dI]; rw [if_neg (by omega)], by simp only [dS]; rw [if_neg (by omega)]; exact hW_2, fun k hk => by rw [hg_1, va_up_ne _ _ (by omega)]⟩ (by decide) (by decide) dX9_draw_54
      ·
        have c_19 : cs.length = 0 := (nI_eq (by omega) (by omega)).mp c_19
        refine g_iconst (pc := 22) C dX9_draw_22 (v := nI 0) rfl ?_
        exact g_iret (pc := 23) C R ⟨rfl, rfl, by rw [if_neg (by omega)]; simp only [dI]; rw [if_pos (Or.inr (by omega))], by simp only [dS]; rw [if_pos (Or.inr (by omega))]; exact h, Fr.rf⟩ (by decide) (by decide) dX9_draw_23
  ·
    have c_1 : ¬ 0 < n := fun h => c_1 ((nI_ltI (a := 0) (b := n) (by omega) (by omega)).mpr h)
    refine g_bipush (pc := 4) C dX9_draw_4 (v := (-6)) rfl ?_
    exact g_iret (pc := 6) C R ⟨rfl, rfl, by rw [if_pos (show n = 0 by omega)], by simp only [dS]; rw [if_pos (by omega)]; exact h, Fr.rf⟩ (by decide) (by decide) dX9_draw_6
abbrev rm_X9_send : Room := { frames := 2, cells := 0, slots := 0, locals := 45 }
theorem Y_X9_send : pY yX9_send cX9_send 7 (Option.some (Jvm.ClassFile.FieldType.object "ViewBroadcast$Letter")) := ⟨u_395, u_396, u_3, u_397⟩
theorem N_X9_send : yX9_send.cls ≠ "java/lang/invoke/MethodHandle" ∧ yX9_send.cls ≠ "java/lang/invoke/VarHandle" ∧ (parseMethodDescriptor yX9_send.desc).map (fun d => d.parameters.length) = some 5 := by decide +kernel
set_option maxRecDepth 20000 in
set_option maxHeartbeats 4000000 in
theorem c_X9_send (A : Nat → Nat) (P : List Nat) (g : pM) (w : Nat) {cq : Nat} {σ : Sg} (f t k x y : Nat) (hf0 : f < 16) (ht : t < gK σ) (hk : k ≤ 12) (hx : x < 2 ^ 31) (hy : y < 2 ^ 31) (h : WD A g w cq σ) : PM yX9_send cX9_send 7 (Option.some (Jvm.ClassFile.FieldType.object "ViewBroadcast$Letter")) rm_X9_send [.ref (A w), .int (nI f), .int (nI t), .int (nI k), .int (nI x), .int (nI y)] P A g (fun v g' => FrR g g' w ∧ ((500 ≤ (gR σ).length ∧ v = some .null ∧ WD A g' w cq (snd σ f t k x y [])) ∨ ((gR σ).length < 500 ∧ ∃ j, j < 500 ∧ v = some (.ref (A (w + 2000 + 3 * j))) ∧ LT A g' (w + 2000 + 3 * j) (ltr σ f t k x y []) ∧ WD A g' w cq (snd σ f t k x y []) ∧ ∀ g2 l, Fr g' g2 (w + 2000 + 3 * j + 1) (w + 2000 + 3 * j + 3) → NLN A g2 (w + 2000 + 3 * j + 1) 5 l → WD A g2 w cq (sR σ (gR σ ++ [ltl (ltr σ f t k x y []) l]))))) := by
  have hK : gK σ ≤ 16 := h.k16
  refine px_intro (by decide +kernel) (Nat.le_of_ble_eq_true rfl) (fun K sz C R => ?_)
  show V K 0 0 P A g [(0, .ref (A w)), (1, .int (nI f)), (2, .int (nI t)), (3, .int (nI k)), (4, .int (nI x)), (5, .int (nI y))] 0 []
  refine g_aload_n (pc := 0) C dX9_send_0 0 rfl ?_
  refine g_get (pc := 1) C (j := 4) (WD.wb h).1 rfl rfl (by decide) u_253 dX9_send_1 ?_
  refine g_callV (pc := 4) C (As := []) (rest := []) (b := (w + 3)) (c_X5_open A P g w (WD.rw h)) (RW.ex (WD.rw h)).choose_spec rfl rfl Y_X5_open u_398 N_X5_open ⟨by decide, by decide⟩ ⟨by decide, by decide⟩ (Nat.le_of_ble_eq_true rfl) rfl dX9_send_4 ?_
  rintro _ _ _ g1 ⟨rfl, rfl, hf1, hcase⟩
  have hB1 : WB A g1 w cq σ := h.wb.fr hf1 (by omega)
  have hNt := (h.nd ht).fr hf1 (by omega)
  rcases hcase with ⟨hfull, rfl, hR⟩ | ⟨hroom, j, t0, hj, rfl, hL, hwand⟩
  ·
    show V K 0 0 P A g1 [(0, .ref (A w)), (1, .int (nI f)), (2, .int (nI t)), (3, .int (nI k)), (4, .int (nI x)), (5, .int (nI y))] 7 [.null]
    refine g_astoreN (pc := 7) C dX9_send_7 (by decide) (lv' := [(0, .ref (A w)), (1, .int (nI f)), (2, .int (nI t)), (3, .int (nI k)), (4, .int (nI x)), (5, .int (nI y)), (6, .null)]) [1, 2, 3, 4, 5, 6, 0] rfl ?_
    refine g_aloadN (pc := 9) C dX9_send_9 6 rfl ?_
    refine g_ifnonnullN (pc := 11) C dX9_send_11 ?_
    refine g_null (pc := 14) C dX9_send_14 ?_
    exact g_aret (pc := 15) C R (Or.inl rfl) ⟨rfl, rfl, FrR.a hf1 (by omega) (by omega), Or.inl ⟨hfull, rfl, by rw [snd_full hfull]; exact h.row (FrR.a hf1 (by omega) (by omega)) hR⟩⟩ (by decide) (by decide) dX9_send_15
  ·
    show V K 0 0 P A g1 [(0, .ref (A w)), (1, .int (nI f)), (2, .int (nI t)), (3, .int (nI k)), (4, .int (nI x)), (5, .int (nI y))] 7 [.ref (A (w + 2000 + 3 * j))]
    refine g_astore (pc := 7) C dX9_send_7 (by decide) (lv' := [(0, .ref (A w)), (1, .int (nI f)), (2, .int (nI t)), (3, .int (nI k)), (4, .int (nI x)), (5, .int (nI y)), (6, .ref (A (w + 2000 + 3 * j)))]) [1, 2, 3, 4, 5, 6, 0] rfl ?_
    refine g_aload (pc := 9) C dX9_send_9 6 rfl ?_
    refine g_ifnonnullR (pc := 11) C dX9_send_11 (tgt := 16) (by decide) ?_
    refine g_aload_n (pc := 16) C dX9_send_16 0 rfl ?_
    refine g_iload_n (pc := 17) C dX9_send_17 2 rfl ?_
    refine g_callV (pc := 18) C (As := [.int (nI t)]) (rest := []) (b := w) (c_X9_nodeAt A P g1 w t (by omega) hB1) hB1.1 rfl rfl Y_X9_nodeAt u_406 N_X9_nodeAt ⟨by decide, by decide⟩ ⟨by decide, by decide⟩ (Nat.le_of_ble_eq_true rfl) rfl dX9_send_18 ?_
    rintro _ _ _ _ ⟨rfl, rfl, rfl, rfl⟩
    show V K 0 0 P A g1 [(0, .ref (A w)), (1, .int (nI f)), (2, .int (nI t)), (3, .int (nI k)), (4, .int (nI x)), (5, .int (nI y)), (6, .ref (A (w + 2000 + 3 * j)))] 21 [.ref (A (w + 100 + 100 * t))]
    refine g_get (pc := 21) C (j := 1) hNt.1 rfl rfl (by decide) u_135 dX9_send_21 ?_
    refine g_if_eq (pc := 24) C dX9_send_24 (tgt := 42) (by decide) (fun c_24 => ?_) (fun c_24 => ?_)
    ·
      refine g_aload (pc := 42) C dX9_send_42 6 rfl ?_
      refine g_iload_n (pc := 44) C dX9_send_44 2 rfl ?_
      refine g_iload_n (pc := 45) C dX9_send_45 1 rfl ?_
      refine g_bipush (pc := 46) C dX9_send_46 (v := nI 12) rfl ?_
      refine g_iconst (pc := 48) C dX9_send_48 (v := nI 0) rfl ?_
      refine g_iconst (pc := 49) C dX9_send_49 (v := nI 0) rfl ?_
      refine g_callV (pc := 50) C (As := [.int (nI t), .int (nI f), .int (nI 12), .int (nI 0), .int (nI 0)]) (rest := []) (b := (w + 2000 + 3 * j)) (c_X1_write A P g1 (w + 2000 + 3 * j) t f 12 0 0 hL) hL.1 rfl rfl Y_X1_write u_407 N_X1_write ⟨by decide, by decide⟩ ⟨by decide, by decide⟩ (Nat.le_of_ble_eq_true rfl) rfl dX9_send_50 ?_
      rintro _ _ _ g_1 ⟨rfl, rfl, rfl, hn_2, hf_3⟩
      show V K 0 0 P A g_1 [(0, .ref (A w)), (1, .int (nI f)), (2, .int (nI t)), (3, .int (nI k)), (4, .int (nI x)), (5, .int (nI y)), (6, .ref (A (w + 2000 + 3 * j)))] 53 []
      refine g_aload (pc := 53) C dX9_send_53 6 rfl ?_
      exact g_aret (pc := 55) C R (Or.inr ⟨_, rfl⟩) ⟨rfl, rfl, send_end hf1 hroom hj h hwand (by rw [ltr_dead (b32_yes c_24)]; exact ⟨(by omega : t < 16), hf0, Nat.le_refl _, (by decide : 0 < 2 ^ 31), (by decide : 0 < 2 ^ 31)⟩) hf_3 (by rw [ltr_dead (b32_yes c_24)]; exact hn_2)⟩ (by decide) (by decide) dX9_send_55
    ·
      refine g_aload (pc := 27) C dX9_send_27 6 rfl ?_
      refine g_iload_n (pc := 29) C dX9_send_29 1 rfl ?_
      refine g_iload_n (pc := 30) C dX9_send_30 2 rfl ?_
      refine g_iload_n (pc := 31) C dX9_send_31 3 rfl ?_
      refine g_iload (pc := 32) C dX9_send_32 4 rfl ?_
      refine g_iload (pc := 34) C dX9_send_34 5 rfl ?_
      refine g_callV (pc := 36) C (As := [.int (nI f), .int (nI t), .int (nI k), .int (nI x), .int (nI y)]) (rest := []) (b := (w + 2000 + 3 * j)) (c_X1_write A P g1 (w + 2000 + 3 * j) f t k x y hL) hL.1 rfl rfl Y_X1_write u_407 N_X1_write ⟨by decide, by decide⟩ ⟨by decide, by decide⟩ (Nat.le_of_ble_eq_true rfl) rfl dX9_send_36 ?_
      rintro _ _ _ g_4 ⟨rfl, rfl, rfl, hn_5, hf_6⟩
      show V K 0 0 P A g_4 [(0, .ref (A w)), (1, .int (nI f)), (2, .int (nI t)), (3, .int (nI k)), (4, .int (nI x)), (5, .int (nI y)), (6, .ref (A (w + 2000 + 3 * j)))] 39 []
      refine g_goto (pc := 39) C dX9_send_39 (tgt := 53) (by decide) ?_
      refine g_aload (pc := 53) C dX9_send_53 6 rfl ?_
      exact g_aret (pc := 55) C R (Or.inr ⟨_, rfl⟩) ⟨rfl, rfl, send_end hf1 hroom hj h hwand (by rw [ltr_live (b32_no c_24)]; exact ⟨hf0, (by omega : t < 16), hk, hx, hy⟩) hf_6 (by rw [ltr_live (b32_no c_24)]; exact hn_5)⟩ (by decide) (by decide) dX9_send_55
abbrev rm_X9_mustLearnOfStop : Room := { frames := 3, cells := 0, slots := 0, locals := 67 }
theorem Y_X9_mustLearnOfStop : pY yX9_mustLearnOfStop cX9_mustLearnOfStop 3 (Option.some Jvm.ClassFile.FieldType.boolean) := ⟨u_433, u_434, u_3, u_435⟩
theorem N_X9_mustLearnOfStop : yX9_mustLearnOfStop.cls ≠ "java/lang/invoke/MethodHandle" ∧ yX9_mustLearnOfStop.cls ≠ "java/lang/invoke/VarHandle" ∧ (parseMethodDescriptor yX9_mustLearnOfStop.desc).map (fun d => d.parameters.length) = some 2 := by decide +kernel
set_option maxRecDepth 20000 in
set_option maxHeartbeats 4000000 in
theorem c_X9_mustLearnOfStop (A : Nat → Nat) (P : List Nat) (g : pM) (w : Nat) {cq : Nat} {σ : Sg} (m i : Nat) (hm : m < gK σ) (hi : i < 16) (hw : ndW (gN σ m)) (h : WD A g w cq σ) : PM yX9_mustLearnOfStop cX9_mustLearnOfStop 3 (Option.some Jvm.ClassFile.FieldType.boolean) rm_X9_mustLearnOfStop [.ref (A w), .ref (A (w + 100 + 100 * m)), .int (nI i)] P A g (fun v g' => v = some (.int (b32 (mls σ m i))) ∧ g = g') := by
  have hK : gK σ ≤ 16 := h.k16
  have hle := h.rw.le
  refine px_intro (by decide +kernel) (Nat.le_of_ble_eq_true rfl) (fun K sz C R => ?_)
  show V K 0 0 P A g [(0, .ref (A w)), (1, .ref (A (w + 100 + 100 * m))), (2, .int (nI i))] 0 []
  refine g_aload_n (pc := 0) C dX9_mustLearnOfStop_0 1 rfl ?_
  refine g_get (pc := 1) C (j := 2) (WD.nd (i := m) h (by omega)).1 rfl rfl (by decide) u_140 dX9_mustLearnOfStop_1 ?_
  refine g_iload_n (pc := 4) C dX9_mustLearnOfStop_4 2 rfl ?_
  refine g_callV (pc := 5) C (As := [.int (nI i)]) (rest := []) (b := (w + 100 + 100 * m + 1)) (n_X4_has A P g (w + 100 + 100 * m + 1) i (by omega) (WD.nd (i := m) h (by omega)).2.1) (NLN.o (WD.nd (i := m) h (by omega)).2.1) rfl rfl Y_X4_has u_436 N_X4_has ⟨by decide, by decide⟩ ⟨by decide, by decide⟩ (Nat.le_of_ble_eq_true rfl) rfl dX9_mustLearnOfStop_5 ?_
  rintro _ _ _ _ ⟨rfl, rfl, rfl, rfl⟩
  show V K 0 0 P A g [(0, .ref (A w)), (1, .ref (A (w + 100 + 100 * m))), (2, .int (nI i))] 8 [.int (b32 (decide (i ∈ nAc (gN σ m))))]
  refine g_if_ne (pc := 8) C dX9_mustLearnOfStop_8 (tgt := 19) (by decide) (fun c_8 => ?_) (fun c_8 => ?_)
  ·
    refine g_iconst (pc := 19) C dX9_mustLearnOfStop_19 (v := nI 1) rfl ?_
    exact g_zret (pc := 20) C R (Or.inr rfl) ⟨rfl, rfl, by rw [mls_a (of_decide_eq_true (b32_no c_8))]; rfl, rfl⟩ (by decide) (by decide) dX9_mustLearnOfStop_20
  ·
    refine g_aload_n (pc := 11) C dX9_mustLearnOfStop_11 1 rfl ?_
    refine g_get (pc := 12) C (j := 5) (WD.nd (i := m) h (by omega)).1 rfl rfl (by decide) u_148 dX9_mustLearnOfStop_12 ?_
    refine g_iload_n (pc := 15) C dX9_mustLearnOfStop_15 2 rfl ?_
    refine g_icmp_ne (pc := 16) C dX9_mustLearnOfStop_16 (tgt := 21) (by decide) (fun c_16 => ?_) (fun c_16 => ?_)
    ·
      have c_16 : ¬ nAs (gN σ m) = some i := fun e => c_16 ((onv_eq (fun q hq => by have := hw.2.2.1 q hq; omega) (by omega)).mpr e)
      refine g_aload_n (pc := 21) C dX9_mustLearnOfStop_21 0 rfl ?_
      refine g_get (pc := 22) C (j := 4) (WD.wb h).1 rfl rfl (by decide) u_253 dX9_mustLearnOfStop_22 ?_
      refine g_aload_n (pc := 25) C dX9_mustLearnOfStop_25 0 rfl ?_
      refine g_get (pc := 26) C (j := 4) (WD.wb h).1 rfl rfl (by decide) u_253 dX9_mustLearnOfStop_26 ?_
      refine g_get (pc := 29) C (j := 2) (RW.ex (WD.rw h)).choose_spec rfl rfl (by decide) u_232 dX9_mustLearnOfStop_29 ?_
      refine g_iload_n (pc := 32) C dX9_mustLearnOfStop_32 2 rfl ?_
      refine g_aload_n (pc := 33) C dX9_mustLearnOfStop_33 1 rfl ?_
      refine g_get (pc := 34) C (j := 0) (WD.nd (i := m) h (by omega)).1 rfl rfl (by decide) u_132 dX9_mustLearnOfStop_34 ?_
      refine g_callV (pc := 37) C (As := [.int (nI (gR σ).length), .int (nI i), .int (nI m)]) (rest := []) (b := (w + 3)) (c_X5_hasAhead A P g w (gR σ).length i m (by omega) (by omega) (by omega) h.rw) (RW.ex (WD.rw h)).choose_spec rfl rfl Y_X5_hasAhead u_444 N_X5_hasAhead ⟨by decide, by decide⟩ ⟨by decide, by decide⟩ (Nat.le_of_ble_eq_true rfl) rfl dX9_mustLearnOfStop_37 ?_
      rintro _ _ _ _ ⟨rfl, rfl, rfl, rfl⟩
      show V K 0 0 P A g [(0, .ref (A w)), (1, .ref (A (w + 100 + 100 * m))), (2, .int (nI i))] 40 [.int (b32 (((gR σ).take (gR σ).length).any (fun q => q.1 == i && q.2.1 == m)))]
      exact g_zret (pc := 40) C R (b32_z _) ⟨rfl, rfl, by rw [List.take_length, mls_c (of_decide_eq_false (b32_yes c_8)) c_16], rfl⟩ (by decide) (by decide) dX9_mustLearnOfStop_40
    ·
      have c_16 : nAs (gN σ m) = some i := (onv_eq (fun q hq => by have := hw.2.2.1 q hq; omega) (by omega)).mp c_16
      refine g_iconst (pc := 19) C dX9_mustLearnOfStop_19 (v := nI 1) rfl ?_
      exact g_zret (pc := 20) C R (Or.inr rfl) ⟨rfl, rfl, by rw [mls_b c_16]; rfl, rfl⟩ (by decide) (by decide) dX9_mustLearnOfStop_20
abbrev rm_X9_liveCount : Room := { frames := 2, cells := 0, slots := 0, locals := 42 }
theorem Y_X9_liveCount : pY yX9_liveCount cX9_liveCount 3 (Option.some Jvm.ClassFile.FieldType.int) := ⟨u_792, u_793, u_3, u_794⟩
theorem N_X9_liveCount : yX9_liveCount.cls ≠ "java/lang/invoke/MethodHandle" ∧ yX9_liveCount.cls ≠ "java/lang/invoke/VarHandle" ∧ (parseMethodDescriptor yX9_liveCount.desc).map (fun d => d.parameters.length) = some 0 := by decide +kernel
set_option maxRecDepth 20000 in
set_option maxHeartbeats 4000000 in
theorem c_X9_liveCount (A : Nat → Nat) (P : List Nat) (g : pM) (w : Nat) {cq : Nat} {σ : Sg} (h : WD A g w cq σ) : PM yX9_liveCount cX9_liveCount 3 (Option.some Jvm.ClassFile.FieldType.int) rm_X9_liveCount [.ref (A w)] P A g (fun v g' => v = some (.int (nI (ct (fun i => lvd σ i) (gK σ)))) ∧ g = g') := by
  have hK : gK σ ≤ 16 := h.k16
  refine px_intro (by decide +kernel) (Nat.le_of_ble_eq_true rfl) (fun K sz C R => ?_)
  show V K 0 0 P A g [(0, .ref (A w))] 0 []
  refine g_iconst (pc := 0) C dX9_liveCount_0 (v := nI 0) rfl ?_
  refine g_istore_n (pc := 1) C dX9_liveCount_1 (by decide) (lv' := [(0, .ref (A w)), (1, .int (nI 0))]) [1, 0] rfl ?_
  refine g_iconst (pc := 2) C dX9_liveCount_2 (v := nI 0) rfl ?_
  refine g_istore_n (pc := 3) C dX9_liveCount_3 (by decide) (lv' := [(0, .ref (A w)), (1, .int (nI 0)), (2, .int (nI 0))]) [1, 2, 0] rfl ?_
  have lp_4 : ∀ (fuel : Nat) (i : Nat) (hi : i ≤ gK σ), gK σ - i < fuel → V K 0 0 P A g [(0, .ref (A w)), (1, .int (nI (ct (fun i => lvd σ i) i))), (2, .int (nI i))] 4 [] := by
    intro fuel
    induction fuel with
    | zero => intro i hi hμ; exact absurd hμ (Nat.not_lt_zero _)
    | succ fuel ih =>
      intro i hi hμ
      refine g_iload_n (pc := 4) C dX9_liveCount_4 2 rfl ?_
      refine g_aload_n (pc := 5) C dX9_liveCount_5 0 rfl ?_
      refine g_get (pc := 6) C (j := 7) (WD.wb h).1 rfl rfl (by decide) u_258 dX9_liveCount_6 ?_
      refine g_icmp_ge (pc := 9) C dX9_liveCount_9 (tgt := 37) (by decide) (fun c_9 => ?_) (fun c_9 => ?_)
      ·
        have c_9 : (gK σ) ≤ i := (nI_leI (by omega) (by omega)).mp c_9
        refine g_iload_n (pc := 37) C dX9_liveCount_37 1 rfl ?_
        exact g_iret (pc := 38) C R ⟨rfl, rfl, by rw [show i = gK σ by omega], rfl⟩ (by decide) (by decide) dX9_liveCount_38
      ·
        have c_9 : ¬ (gK σ) ≤ i := fun h => c_9 ((nI_leI (a := (gK σ)) (b := i) (by omega) (by omega)).mpr h)
        refine g_iload_n (pc := 12) C dX9_liveCount_12 1 rfl ?_
        refine g_aload_n (pc := 13) C dX9_liveCount_13 0 rfl ?_
        refine g_iload_n (pc := 14) C dX9_liveCount_14 2 rfl ?_
        refine g_callV (pc := 15) C (As := [.int (nI i)]) (rest := [.int (nI (ct (fun i => lvd σ i) i))]) (b := w) (c_X9_nodeAt A P g w i (by omega) (WD.wb h)) (WD.wb h).1 rfl rfl Y_X9_nodeAt u_406 N_X9_nodeAt ⟨by decide, by decide⟩ ⟨by decide, by decide⟩ (Nat.le_of_ble_eq_true rfl) rfl dX9_liveCount_15 ?_
        rintro _ _ _ _ ⟨rfl, rfl, rfl, rfl⟩
        show V K 0 0 P A g [(0, .ref (A w)), (1, .int (nI (ct (fun i => lvd σ i) i))), (2, .int (nI i))] 18 [.ref (A (w + 100 + 100 * i)), .int (nI (ct (fun i => lvd σ i) i))]
        refine g_get (pc := 18) C (j := 1) (WD.nd (i := i) h (by omega)).1 rfl rfl (by decide) u_135 dX9_liveCount_18 ?_
        refine g_if_eq (pc := 21) C dX9_liveCount_21 (tgt := 28) (by decide) (fun c_21 => ?_) (fun c_21 => ?_)
        ·
          refine g_iconst (pc := 28) C dX9_liveCount_28 (v := nI 0) rfl ?_
          refine g_iadd (pc := 29) C dX9_liveCount_29 (z := nI (ct (fun i => lvd σ i) (i + 1))) (by rw [nI_add]; congr 1; simp only [ct]; rw [if_neg (by rw [show lvd σ i = false from b32_yes c_21]; decide)]) ?_
          refine g_istore_n (pc := 30) C dX9_liveCount_30 (by decide) (lv' := [(0, .ref (A w)), (1, .int (nI (ct (fun i => lvd σ i) (i + 1)))), (2, .int (nI i))]) [1, 0, 2] rfl ?_
          refine g_iinc (pc := 31) C dX9_liveCount_31 (by decide) 2 rfl (v := nI (i + 1)) (nI_i1 _) (lv' := [(0, .ref (A w)), (1, .int (nI (ct (fun i => lvd σ i) (i + 1)))), (2, .int (nI (i + 1)))]) [1, 2, 0] rfl ?_
          refine g_goto (pc := 34) C dX9_liveCount_34 (tgt := 4) (by decide) ?_
          exact ih (i + 1) (by omega) (by omega)
        ·
          refine g_iconst (pc := 24) C dX9_liveCount_24 (v := nI 1) rfl ?_
          refine g_goto (pc := 25) C dX9_liveCount_25 (tgt := 29) (by decide) ?_
          refine g_iadd (pc := 29) C dX9_liveCount_29 (z := nI (ct (fun i => lvd σ i) (i + 1))) (by rw [nI_add]; congr 1; simp only [ct]; rw [if_pos (show lvd σ i = true from b32_no c_21)]) ?_
          refine g_istore_n (pc := 30) C dX9_liveCount_30 (by decide) (lv' := [(0, .ref (A w)), (1, .int (nI (ct (fun i => lvd σ i) (i + 1)))), (2, .int (nI i))]) [1, 0, 2] rfl ?_
          refine g_iinc (pc := 31) C dX9_liveCount_31 (by decide) 2 rfl (v := nI (i + 1)) (nI_i1 _) (lv' := [(0, .ref (A w)), (1, .int (nI (ct (fun i => lvd σ i) (i + 1)))), (2, .int (nI (i + 1)))]) [1, 2, 0] rfl ?_
          refine g_goto (pc := 34) C dX9_liveCount_34 (tgt := 4) (by decide) ?_
          exact ih (i + 1) (by omega) (by omega)
  exact lp_4 (_ + 1) 0 (Nat.zero_le _) (Nat.lt_succ_self _)
abbrev rm_X9_hearersOf : Room := { frames := 2, cells := 0, slots := 0, locals := 42 }
theorem Y_X9_hearersOf : pY yX9_hearersOf cX9_hearersOf 4 (Option.some Jvm.ClassFile.FieldType.int) := ⟨u_783, u_784, u_3, u_785⟩
theorem N_X9_hearersOf : yX9_hearersOf.cls ≠ "java/lang/invoke/MethodHandle" ∧ yX9_hearersOf.cls ≠ "java/lang/invoke/VarHandle" ∧ (parseMethodDescriptor yX9_hearersOf.desc).map (fun d => d.parameters.length) = some 1 := by decide +kernel
set_option maxRecDepth 20000 in
set_option maxHeartbeats 4000000 in
theorem c_X9_hearersOf (A : Nat → Nat) (P : List Nat) (g : pM) (w : Nat) {cq : Nat} {σ : Sg} (t : Nat) (ht : t < 24) (hw : ∀ i, i < gK σ → ndW (gN σ i)) (h : WD A g w cq σ) : PM yX9_hearersOf cX9_hearersOf 4 (Option.some Jvm.ClassFile.FieldType.int) rm_X9_hearersOf [.ref (A w), .int (nI t)] P A g (fun v g' => v = some (.int (nI (ct (fun i => lvd σ i && (nHo (gN σ i) t).isSome) (gK σ)))) ∧ g = g') := by
  have hK : gK σ ≤ 16 := h.k16
  refine px_intro (by decide +kernel) (Nat.le_of_ble_eq_true rfl) (fun K sz C R => ?_)
  show V K 0 0 P A g [(0, .ref (A w)), (1, .int (nI t))] 0 []
  refine g_iconst (pc := 0) C dX9_hearersOf_0 (v := nI 0) rfl ?_
  refine g_istore_n (pc := 1) C dX9_hearersOf_1 (by decide) (lv' := [(0, .ref (A w)), (1, .int (nI t)), (2, .int (nI 0))]) [1, 2, 0] rfl ?_
  refine g_iconst (pc := 2) C dX9_hearersOf_2 (v := nI 0) rfl ?_
  refine g_istore_n (pc := 3) C dX9_hearersOf_3 (by decide) (lv' := [(0, .ref (A w)), (1, .int (nI t)), (2, .int (nI 0)), (3, .int (nI 0))]) [1, 2, 3, 0] rfl ?_
  have lp_4 : ∀ (fuel : Nat) (i : Nat) (hi : i ≤ gK σ), gK σ - i < fuel → V K 0 0 P A g [(0, .ref (A w)), (1, .int (nI t)), (2, .int (nI (ct (fun i => lvd σ i && (nHo (gN σ i) t).isSome) i))), (3, .int (nI i))] 4 [] := by
    intro fuel
    induction fuel with
    | zero => intro i hi hμ; exact absurd hμ (Nat.not_lt_zero _)
    | succ fuel ih =>
      intro i hi hμ
      refine g_iload_n (pc := 4) C dX9_hearersOf_4 3 rfl ?_
      refine g_aload_n (pc := 5) C dX9_hearersOf_5 0 rfl ?_
      refine g_get (pc := 6) C (j := 7) (WD.wb h).1 rfl rfl (by decide) u_258 dX9_hearersOf_6 ?_
      refine g_icmp_ge (pc := 9) C dX9_hearersOf_9 (tgt := 49) (by decide) (fun c_9 => ?_) (fun c_9 => ?_)
      ·
        have c_9 : (gK σ) ≤ i := (nI_leI (by omega) (by omega)).mp c_9
        refine g_iload_n (pc := 49) C dX9_hearersOf_49 2 rfl ?_
        exact g_iret (pc := 50) C R ⟨rfl, rfl, by rw [show i = gK σ by omega], rfl⟩ (by decide) (by decide) dX9_hearersOf_50
      ·
        have c_9 : ¬ (gK σ) ≤ i := fun h => c_9 ((nI_leI (a := (gK σ)) (b := i) (by omega) (by omega)).mpr h)
        have hwi := hw i (by omega)
        refine g_iload_n (pc := 12) C dX9_hearersOf_12 2 rfl ?_
        refine g_aload_n (pc := 13) C dX9_hearersOf_13 0 rfl ?_
        refine g_iload_n (pc := 14) C dX9_hearersOf_14 3 rfl ?_
        refine g_callV (pc := 15) C (As := [.int (nI i)]) (rest := [.int (nI (ct (fun i => lvd σ i && (nHo (gN σ i) t).isSome) i))]) (b := w) (c_X9_nodeAt A P g w i (by omega) (WD.wb h)) (WD.wb h).1 rfl rfl Y_X9_nodeAt u_406 N_X9_nodeAt ⟨by decide, by decide⟩ ⟨by decide, by decide⟩ (Nat.le_of_ble_eq_true rfl) rfl dX9_hearersOf_15 ?_
        rintro _ _ _ _ ⟨rfl, rfl, rfl, rfl⟩
        show V K 0 0 P A g [(0, .ref (A w)), (1, .int (nI t)), (2, .int (nI (ct (fun i => lvd σ i && (nHo (gN σ i) t).isSome) i))), (3, .int (nI i))] 18 [.ref (A (w + 100 + 100 * i)), .int (nI (ct (fun i => lvd σ i && (nHo (gN σ i) t).isSome) i))]
        refine g_get (pc := 18) C (j := 1) (WD.nd (i := i) h (by omega)).1 rfl rfl (by decide) u_135 dX9_hearersOf_18 ?_
        refine g_if_eq (pc := 21) C dX9_hearersOf_21 (tgt := 40) (by decide) (fun c_21 => ?_) (fun c_21 => ?_)
        ·
          refine g_iconst (pc := 40) C dX9_hearersOf_40 (v := nI 0) rfl ?_
          refine g_iadd (pc := 41) C dX9_hearersOf_41 (z := nI (ct (fun i => lvd σ i && (nHo (gN σ i) t).isSome) (i + 1))) (by rw [nI_add]; congr 1; simp only [ct]; rw [if_neg (by rw [show lvd σ i = false from b32_yes c_21]; simp)]) ?_
          refine g_istore_n (pc := 42) C dX9_hearersOf_42 (by decide) (lv' := [(0, .ref (A w)), (1, .int (nI t)), (2, .int (nI (ct (fun i => lvd σ i && (nHo (gN σ i) t).isSome) (i + 1)))), (3, .int (nI i))]) [1, 2, 0, 3] rfl ?_
          refine g_iinc (pc := 43) C dX9_hearersOf_43 (by decide) 3 rfl (v := nI (i + 1)) (nI_i1 _) (lv' := [(0, .ref (A w)), (1, .int (nI t)), (2, .int (nI (ct (fun i => lvd σ i && (nHo (gN σ i) t).isSome) (i + 1)))), (3, .int (nI (i + 1)))]) [1, 2, 3, 0] rfl ?_
          refine g_goto (pc := 46) C dX9_hearersOf_46 (tgt := 4) (by decide) ?_
          exact ih (i + 1) (by omega) (by omega)
        ·
          refine g_aload_n (pc := 24) C dX9_hearersOf_24 0 rfl ?_
          refine g_iload_n (pc := 25) C dX9_hearersOf_25 3 rfl ?_
          refine g_callV (pc := 26) C (As := [.int (nI i)]) (rest := [.int (nI (ct (fun i => lvd σ i && (nHo (gN σ i) t).isSome) i))]) (b := w) (c_X9_nodeAt A P g w i (by omega) (WD.wb h)) (WD.wb h).1 rfl rfl Y_X9_nodeAt u_406 N_X9_nodeAt ⟨by decide, by decide⟩ ⟨by decide, by decide⟩ (Nat.le_of_ble_eq_true rfl) rfl dX9_hearersOf_26 ?_
          rintro _ _ _ _ ⟨rfl, rfl, rfl, rfl⟩
          show V K 0 0 P A g [(0, .ref (A w)), (1, .int (nI t)), (2, .int (nI (ct (fun i => lvd σ i && (nHo (gN σ i) t).isSome) i))), (3, .int (nI i))] 29 [.ref (A (w + 100 + 100 * i)), .int (nI (ct (fun i => lvd σ i && (nHo (gN σ i) t).isSome) i))]
          refine g_iload_n (pc := 29) C dX9_hearersOf_29 1 rfl ?_
          refine g_callV (pc := 30) C (As := [.int (nI t)]) (rest := [.int (nI (ct (fun i => lvd σ i && (nHo (gN σ i) t).isSome) i))]) (b := (w + 100 + 100 * i)) (c_X3_knows A P g (w + 100 + 100 * i) t (by omega) (by assumption) (WD.nd (i := i) h (by omega))) (WD.nd (i := i) h (by omega)).1 rfl rfl Y_X3_knows u_786 N_X3_knows ⟨by decide, by decide⟩ ⟨by decide, by decide⟩ (Nat.le_of_ble_eq_true rfl) rfl dX9_hearersOf_30 ?_
          rintro _ _ _ _ ⟨rfl, rfl, rfl, rfl⟩
          show V K 0 0 P A g [(0, .ref (A w)), (1, .int (nI t)), (2, .int (nI (ct (fun i => lvd σ i && (nHo (gN σ i) t).isSome) i))), (3, .int (nI i))] 33 [.int (b32 (nHo (gN σ i) t).isSome), .int (nI (ct (fun i => lvd σ i && (nHo (gN σ i) t).isSome) i))]
          refine g_if_eq (pc := 33) C dX9_hearersOf_33 (tgt := 40) (by decide) (fun c_33 => ?_) (fun c_33 => ?_)
          ·
            refine g_iconst (pc := 40) C dX9_hearersOf_40 (v := nI 0) rfl ?_
            refine g_iadd (pc := 41) C dX9_hearersOf_41 (z := nI (ct (fun i => lvd σ i && (nHo (gN σ i) t).isSome) (i + 1))) (by rw [nI_add]; congr 1; simp only [ct]; rw [if_neg (by rw [b32_yes c_33, Bool.and_false]; decide)]) ?_
            refine g_istore_n (pc := 42) C dX9_hearersOf_42 (by decide) (lv' := [(0, .ref (A w)), (1, .int (nI t)), (2, .int (nI (ct (fun i => lvd σ i && (nHo (gN σ i) t).isSome) (i + 1)))), (3, .int (nI i))]) [1, 2, 0, 3] rfl ?_
            refine g_iinc (pc := 43) C dX9_hearersOf_43 (by decide) 3 rfl (v := nI (i + 1)) (nI_i1 _) (lv' := [(0, .ref (A w)), (1, .int (nI t)), (2, .int (nI (ct (fun i => lvd σ i && (nHo (gN σ i) t).isSome) (i + 1)))), (3, .int (nI (i + 1)))]) [1, 2, 3, 0] rfl ?_
            refine g_goto (pc := 46) C dX9_hearersOf_46 (tgt := 4) (by decide) ?_
            exact ih (i + 1) (by omega) (by omega)
          ·
            refine g_iconst (pc := 36) C dX9_hearersOf_36 (v := nI 1) rfl ?_
            refine g_goto (pc := 37) C dX9_hearersOf_37 (tgt := 41) (by decide) ?_
            refine g_iadd (pc := 41) C dX9_hearersOf_41 (z := nI (ct (fun i => lvd σ i && (nHo (gN σ i) t).isSome) (i + 1))) (by rw [nI_add]; congr 1; simp only [ct]; rw [if_pos (by rw [show lvd σ i = true from b32_no c_21, b32_no c_33]; rfl)]) ?_
            refine g_istore_n (pc := 42) C dX9_hearersOf_42 (by decide) (lv' := [(0, .ref (A w)), (1, .int (nI t)), (2, .int (nI (ct (fun i => lvd σ i && (nHo (gN σ i) t).isSome) (i + 1)))), (3, .int (nI i))]) [1, 2, 0, 3] rfl ?_
            refine g_iinc (pc := 43) C dX9_hearersOf_43 (by decide) 3 rfl (v := nI (i + 1)) (nI_i1 _) (lv' := [(0, .ref (A w)), (1, .int (nI t)), (2, .int (nI (ct (fun i => lvd σ i && (nHo (gN σ i) t).isSome) (i + 1)))), (3, .int (nI (i + 1)))]) [1, 2, 3, 0] rfl ?_
            refine g_goto (pc := 46) C dX9_hearersOf_46 (tgt := 4) (by decide) ?_
            exact ih (i + 1) (by omega) (by omega)
  exact lp_4 (_ + 1) 0 (Nat.zero_le _) (Nat.lt_succ_self _)
abbrev rm_X9_hasOneSidedLink : Room := { frames := 2, cells := 0, slots := 0, locals := 43 }
theorem Y_X9_hasOneSidedLink : pY yX9_hasOneSidedLink cX9_hasOneSidedLink 4 (Option.some Jvm.ClassFile.FieldType.boolean) := ⟨u_752, u_753, u_3, u_754⟩
theorem N_X9_hasOneSidedLink : yX9_hasOneSidedLink.cls ≠ "java/lang/invoke/MethodHandle" ∧ yX9_hasOneSidedLink.cls ≠ "java/lang/invoke/VarHandle" ∧ (parseMethodDescriptor yX9_hasOneSidedLink.desc).map (fun d => d.parameters.length) = some 1 := by decide +kernel
set_option maxRecDepth 20000 in
set_option maxHeartbeats 4000000 in
theorem c_X9_hasOneSidedLink (A : Nat → Nat) (P : List Nat) (g : pM) (w : Nat) {cq : Nat} {σ : Sg} (i : Nat) (hi : i < gK σ) (ha : ∀ q ∈ nAc (gN σ i), q < gK σ) (h : WD A g w cq σ) : PM yX9_hasOneSidedLink cX9_hasOneSidedLink 4 (Option.some Jvm.ClassFile.FieldType.boolean) rm_X9_hasOneSidedLink [.ref (A w), .ref (A (w + 100 + 100 * i))] P A g (fun v g' => v = some (.int (b32 (evnP σ i))) ∧ g = g') := by
  have hK : gK σ ≤ 16 := h.k16
  have hlc := (h.nd hi).2.1.le
  refine px_intro (by decide +kernel) (Nat.le_of_ble_eq_true rfl) (fun K sz C R => ?_)
  show V K 0 0 P A g [(0, .ref (A w)), (1, .ref (A (w + 100 + 100 * i)))] 0 []
  refine g_iconst (pc := 0) C dX9_hasOneSidedLink_0 (v := nI 0) rfl ?_
  refine g_istore_n (pc := 1) C dX9_hasOneSidedLink_1 (by decide) (lv' := [(0, .ref (A w)), (1, .ref (A (w + 100 + 100 * i))), (2, .int (nI 0))]) [1, 2, 0] rfl ?_
  have lp_2 : ∀ (fuel : Nat) (k : Nat) (hk : k ≤ (nAc (gN σ i)).length) (hq : ∀ j, j < k → (lvd σ ((nAc (gN σ i)).getD j 0) && !(decide (i ∈ nAc (gN σ ((nAc (gN σ i)).getD j 0))))) = false), (nAc (gN σ i)).length - k < fuel → V K 0 0 P A g [(0, .ref (A w)), (1, .ref (A (w + 100 + 100 * i))), (2, .int (nI k))] 2 [] := by
    intro fuel
    induction fuel with
    | zero => intro k hk hq hμ; exact absurd hμ (Nat.not_lt_zero _)
    | succ fuel ih =>
      intro k hk hq hμ
      refine g_iload_n (pc := 2) C dX9_hasOneSidedLink_2 2 rfl ?_
      refine g_aload_n (pc := 3) C dX9_hasOneSidedLink_3 1 rfl ?_
      refine g_get (pc := 4) C (j := 2) (WD.nd (i := i) h (by omega)).1 rfl rfl (by decide) u_140 dX9_hasOneSidedLink_4 ?_
      refine g_get (pc := 7) C (j := 1) (NLN.o (WD.nd (i := i) h (by omega)).2.1) rfl rfl (by decide) u_98 dX9_hasOneSidedLink_7 ?_
      refine g_icmp_ge (pc := 10) C dX9_hasOneSidedLink_10 (tgt := 55) (by decide) (fun c_10 => ?_) (fun c_10 => ?_)
      ·
        have c_10 : (nAc (gN σ i)).length ≤ k := (nI_leI (by omega) (by omega)).mp c_10
        refine g_iconst (pc := 55) C dX9_hasOneSidedLink_55 (v := nI 0) rfl ?_
        exact g_zret (pc := 56) C R (Or.inl rfl) ⟨rfl, rfl, by rw [evn_no (fun j hj => hq j (by omega))]; rfl, rfl⟩ (by decide) (by decide) dX9_hasOneSidedLink_56
      ·
        have c_10 : ¬ (nAc (gN σ i)).length ≤ k := fun h => c_10 ((nI_leI (a := (nAc (gN σ i)).length) (b := k) (by omega) (by omega)).mpr h)
        refine g_aload_n (pc := 13) C dX9_hasOneSidedLink_13 0 rfl ?_
        refine g_aload_n (pc := 14) C dX9_hasOneSidedLink_14 1 rfl ?_
        refine g_get (pc := 15) C (j := 2) (WD.nd (i := i) h (by omega)).1 rfl rfl (by decide) u_140 dX9_hasOneSidedLink_15 ?_
        refine g_iload_n (pc := 18) C dX9_hasOneSidedLink_18 2 rfl ?_
        refine g_callV (pc := 19) C (As := [.int (nI k)]) (rest := [.ref (A w)]) (b := (w + 100 + 100 * i + 1)) (n_X4_at A P g (w + 100 + 100 * i + 1) k (by omega) (WD.nd (i := i) h (by omega)).2.1) (NLN.o (WD.nd (i := i) h (by omega)).2.1) rfl rfl Y_X4_at u_755 N_X4_at ⟨by decide, by decide⟩ ⟨by decide, by decide⟩ (Nat.le_of_ble_eq_true rfl) rfl dX9_hasOneSidedLink_19 ?_
        rintro _ _ _ _ ⟨rfl, rfl, rfl, rfl⟩
        show V K 0 0 P A g [(0, .ref (A w)), (1, .ref (A (w + 100 + 100 * i))), (2, .int (nI k))] 22 [.int (nI ((nAc (gN σ i)).getD k 0)), .ref (A w)]
        have hqk := ha _ (getD_mem (show k < (nAc (gN σ i)).length by omega))
        refine g_callV (pc := 22) C (As := [.int (nI ((nAc (gN σ i)).getD k 0))]) (rest := []) (b := w) (c_X9_nodeAt A P g w ((nAc (gN σ i)).getD k 0) (by omega) (WD.wb h)) (WD.wb h).1 rfl rfl Y_X9_nodeAt u_406 N_X9_nodeAt ⟨by decide, by decide⟩ ⟨by decide, by decide⟩ (Nat.le_of_ble_eq_true rfl) rfl dX9_hasOneSidedLink_22 ?_
        rintro _ _ _ _ ⟨rfl, rfl, rfl, rfl⟩
        show V K 0 0 P A g [(0, .ref (A w)), (1, .ref (A (w + 100 + 100 * i))), (2, .int (nI k))] 25 [.ref (A (w + 100 + 100 * ((nAc (gN σ i)).getD k 0)))]
        refine g_astore_n (pc := 25) C dX9_hasOneSidedLink_25 (by decide) (lv' := [(0, .ref (A w)), (1, .ref (A (w + 100 + 100 * i))), (2, .int (nI k)), (3, .ref (A (w + 100 + 100 * ((nAc (gN σ i)).getD k 0))))]) [1, 2, 3, 0] rfl ?_
        refine g_aload_n (pc := 26) C dX9_hasOneSidedLink_26 3 rfl ?_
        refine g_get (pc := 27) C (j := 1) (WD.nd (i := ((nAc (gN σ i)).getD k 0)) h (by omega)).1 rfl rfl (by decide) u_135 dX9_hasOneSidedLink_27 ?_
        refine g_if_eq (pc := 30) C dX9_hasOneSidedLink_30 (tgt := 49) (by decide) (fun c_30 => ?_) (fun c_30 => ?_)
        ·
          refine g_iinc (pc := 49) C dX9_hasOneSidedLink_49 (by decide) 2 rfl (v := nI (k + 1)) (nI_i1 _) (lv' := [(0, .ref (A w)), (1, .ref (A (w + 100 + 100 * i))), (2, .int (nI (k + 1))), (3, .ref (A (w + 100 + 100 * ((nAc (gN σ i)).getD k 0))))]) [1, 2, 0, 3] rfl ?_
          refine g_goto (pc := 52) C dX9_hasOneSidedLink_52 (tgt := 2) (by decide) ?_
          refine g_sub [0, 1, 2] rfl ?_
          exact ih (k + 1) (by omega) (fun j hj => by rcases Nat.lt_succ_iff_lt_or_eq.mp hj with e | e; exact hq j e; rw [e]; rw [show lvd σ _ = false from b32_yes c_30]; rfl) (by omega)
        ·
          refine g_aload_n (pc := 33) C dX9_hasOneSidedLink_33 3 rfl ?_
          refine g_get (pc := 34) C (j := 2) (WD.nd (i := ((nAc (gN σ i)).getD k 0)) h (by omega)).1 rfl rfl (by decide) u_140 dX9_hasOneSidedLink_34 ?_
          refine g_aload_n (pc := 37) C dX9_hasOneSidedLink_37 1 rfl ?_
          refine g_get (pc := 38) C (j := 0) (WD.nd (i := i) h (by omega)).1 rfl rfl (by decide) u_132 dX9_hasOneSidedLink_38 ?_
          refine g_callV (pc := 41) C (As := [.int (nI i)]) (rest := []) (b := (w + 100 + 100 * ((nAc (gN σ i)).getD k 0) + 1)) (n_X4_has A P g (w + 100 + 100 * ((nAc (gN σ i)).getD k 0) + 1) i (by omega) (WD.nd (i := ((nAc (gN σ i)).getD k 0)) h (by omega)).2.1) (NLN.o (WD.nd (i := ((nAc (gN σ i)).getD k 0)) h (by omega)).2.1) rfl rfl Y_X4_has u_436 N_X4_has ⟨by decide, by decide⟩ ⟨by decide, by decide⟩ (Nat.le_of_ble_eq_true rfl) rfl dX9_hasOneSidedLink_41 ?_
          rintro _ _ _ _ ⟨rfl, rfl, rfl, rfl⟩
          show V K 0 0 P A g [(0, .ref (A w)), (1, .ref (A (w + 100 + 100 * i))), (2, .int (nI k)), (3, .ref (A (w + 100 + 100 * ((nAc (gN σ i)).getD k 0))))] 44 [.int (b32 (decide (i ∈ nAc (gN σ ((nAc (gN σ i)).getD k 0)))))]
          refine g_if_ne (pc := 44) C dX9_hasOneSidedLink_44 (tgt := 49) (by decide) (fun c_44 => ?_) (fun c_44 => ?_)
          ·
            refine g_iinc (pc := 49) C dX9_hasOneSidedLink_49 (by decide) 2 rfl (v := nI (k + 1)) (nI_i1 _) (lv' := [(0, .ref (A w)), (1, .ref (A (w + 100 + 100 * i))), (2, .int (nI (k + 1))), (3, .ref (A (w + 100 + 100 * ((nAc (gN σ i)).getD k 0))))]) [1, 2, 0, 3] rfl ?_
            refine g_goto (pc := 52) C dX9_hasOneSidedLink_52 (tgt := 2) (by decide) ?_
            refine g_sub [0, 1, 2] rfl ?_
            exact ih (k + 1) (by omega) (fun j hj => by rcases Nat.lt_succ_iff_lt_or_eq.mp hj with e | e; exact hq j e; rw [e]; rw [b32_no c_44]; simp) (by omega)
          ·
            refine g_iconst (pc := 47) C dX9_hasOneSidedLink_47 (v := nI 1) rfl ?_
            exact g_zret (pc := 48) C R (Or.inr rfl) ⟨rfl, rfl, by rw [evn_yes (show k < (nAc (gN σ i)).length by omega) (show lvd σ _ = true from b32_no c_30) (b32_yes c_44)]; rfl, rfl⟩ (by decide) (by decide) dX9_hasOneSidedLink_48
  exact lp_2 (_ + 1) 0 (Nat.zero_le _) (fun j hj => absurd hj (Nat.not_lt_zero j)) (Nat.lt_succ_self _)
abbrev rm_X9_isEven : Room := { frames := 3, cells := 0, slots := 0, locals := 66 }
theorem Y_X9_isEven : pY yX9_isEven cX9_isEven 2 (Option.some Jvm.ClassFile.FieldType.boolean) := ⟨u_748, u_749, u_3, u_750⟩
theorem N_X9_isEven : yX9_isEven.cls ≠ "java/lang/invoke/MethodHandle" ∧ yX9_isEven.cls ≠ "java/lang/invoke/VarHandle" ∧ (parseMethodDescriptor yX9_isEven.desc).map (fun d => d.parameters.length) = some 0 := by decide +kernel
set_option maxRecDepth 20000 in
set_option maxHeartbeats 4000000 in
theorem c_X9_isEven (A : Nat → Nat) (P : List Nat) (g : pM) (w : Nat) {cq : Nat} {σ : Sg} (ha : ∀ i, i < gK σ → ∀ q ∈ nAc (gN σ i), q < gK σ) (h : WD A g w cq σ) : PM yX9_isEven cX9_isEven 2 (Option.some Jvm.ClassFile.FieldType.boolean) rm_X9_isEven [.ref (A w)] P A g (fun v g' => v = some (.int (b32 (evn σ))) ∧ g = g') := by
  have hK : gK σ ≤ 16 := h.k16
  refine px_intro (by decide +kernel) (Nat.le_of_ble_eq_true rfl) (fun K sz C R => ?_)
  show V K 0 0 P A g [(0, .ref (A w))] 0 []
  refine g_iconst (pc := 0) C dX9_isEven_0 (v := nI 0) rfl ?_
  refine g_istore_n (pc := 1) C dX9_isEven_1 (by decide) (lv' := [(0, .ref (A w)), (1, .int (nI 0))]) [1, 0] rfl ?_
  have lp_2 : ∀ (fuel : Nat) (i : Nat) (hi : i ≤ gK σ) (hq : ∀ j, j < i → (lvd σ j && evnP σ j) = false), gK σ - i < fuel → V K 0 0 P A g [(0, .ref (A w)), (1, .int (nI i))] 2 [] := by
    intro fuel
    induction fuel with
    | zero => intro i hi hq hμ; exact absurd hμ (Nat.not_lt_zero _)
    | succ fuel ih =>
      intro i hi hq hμ
      refine g_iload_n (pc := 2) C dX9_isEven_2 1 rfl ?_
      refine g_aload_n (pc := 3) C dX9_isEven_3 0 rfl ?_
      refine g_get (pc := 4) C (j := 7) (WD.wb h).1 rfl rfl (by decide) u_258 dX9_isEven_4 ?_
      refine g_icmp_ge (pc := 7) C dX9_isEven_7 (tgt := 41) (by decide) (fun c_7 => ?_) (fun c_7 => ?_)
      ·
        have c_7 : (gK σ) ≤ i := (nI_leI (by omega) (by omega)).mp c_7
        refine g_iconst (pc := 41) C dX9_isEven_41 (v := nI 1) rfl ?_
        exact g_zret (pc := 42) C R (Or.inr rfl) ⟨rfl, rfl, by rw [evn_t (fun j hj => hq j (by omega))]; rfl, rfl⟩ (by decide) (by decide) dX9_isEven_42
      ·
        have c_7 : ¬ (gK σ) ≤ i := fun h => c_7 ((nI_leI (a := (gK σ)) (b := i) (by omega) (by omega)).mpr h)
        refine g_aload_n (pc := 10) C dX9_isEven_10 0 rfl ?_
        refine g_iload_n (pc := 11) C dX9_isEven_11 1 rfl ?_
        refine g_callV (pc := 12) C (As := [.int (nI i)]) (rest := []) (b := w) (c_X9_nodeAt A P g w i (by omega) (WD.wb h)) (WD.wb h).1 rfl rfl Y_X9_nodeAt u_406 N_X9_nodeAt ⟨by decide, by decide⟩ ⟨by decide, by decide⟩ (Nat.le_of_ble_eq_true rfl) rfl dX9_isEven_12 ?_
        rintro _ _ _ _ ⟨rfl, rfl, rfl, rfl⟩
        show V K 0 0 P A g [(0, .ref (A w)), (1, .int (nI i))] 15 [.ref (A (w + 100 + 100 * i))]
        refine g_get (pc := 15) C (j := 1) (WD.nd (i := i) h (by omega)).1 rfl rfl (by decide) u_135 dX9_isEven_15 ?_
        refine g_if_eq (pc := 18) C dX9_isEven_18 (tgt := 35) (by decide) (fun c_18 => ?_) (fun c_18 => ?_)
        ·
          refine g_iinc (pc := 35) C dX9_isEven_35 (by decide) 1 rfl (v := nI (i + 1)) (nI_i1 _) (lv' := [(0, .ref (A w)), (1, .int (nI (i + 1)))]) [1, 0] rfl ?_
          refine g_goto (pc := 38) C dX9_isEven_38 (tgt := 2) (by decide) ?_
          exact ih (i + 1) (by omega) (fun j hj => by rcases Nat.lt_succ_iff_lt_or_eq.mp hj with e | e; exact hq j e; rw [e]; rw [show lvd σ i = false from b32_yes c_18]; rfl) (by omega)
        ·
          refine g_aload_n (pc := 21) C dX9_isEven_21 0 rfl ?_
          refine g_aload_n (pc := 22) C dX9_isEven_22 0 rfl ?_
          refine g_iload_n (pc := 23) C dX9_isEven_23 1 rfl ?_
          refine g_callV (pc := 24) C (As := [.int (nI i)]) (rest := [.ref (A w)]) (b := w) (c_X9_nodeAt A P g w i (by omega) (WD.wb h)) (WD.wb h).1 rfl rfl Y_X9_nodeAt u_406 N_X9_nodeAt ⟨by decide, by decide⟩ ⟨by decide, by decide⟩ (Nat.le_of_ble_eq_true rfl) rfl dX9_isEven_24 ?_
          rintro _ _ _ _ ⟨rfl, rfl, rfl, rfl⟩
          show V K 0 0 P A g [(0, .ref (A w)), (1, .int (nI i))] 27 [.ref (A (w + 100 + 100 * i)), .ref (A w)]
          refine g_callV (pc := 27) C (As := [.ref (A (w + 100 + 100 * i))]) (rest := []) (b := w) (c_X9_hasOneSidedLink A P g w i (by omega) (ha i (by omega)) h) (WD.wb h).1 rfl rfl Y_X9_hasOneSidedLink u_751 N_X9_hasOneSidedLink ⟨by decide, by decide⟩ ⟨by decide, by decide⟩ (Nat.le_of_ble_eq_true rfl) rfl dX9_isEven_27 ?_
          rintro _ _ _ _ ⟨rfl, rfl, rfl, rfl⟩
          show V K 0 0 P A g [(0, .ref (A w)), (1, .int (nI i))] 30 [.int (b32 (evnP σ i))]
          refine g_if_eq (pc := 30) C dX9_isEven_30 (tgt := 35) (by decide) (fun c_30 => ?_) (fun c_30 => ?_)
          ·
            refine g_iinc (pc := 35) C dX9_isEven_35 (by decide) 1 rfl (v := nI (i + 1)) (nI_i1 _) (lv' := [(0, .ref (A w)), (1, .int (nI (i + 1)))]) [1, 0] rfl ?_
            refine g_goto (pc := 38) C dX9_isEven_38 (tgt := 2) (by decide) ?_
            exact ih (i + 1) (by omega) (fun j hj => by rcases Nat.lt_succ_iff_lt_or_eq.mp hj with e | e; exact hq j e; rw [e]; rw [b32_yes c_30]; simp) (by omega)
          ·
            refine g_iconst (pc := 33) C dX9_isEven_33 (v := nI 0) rfl ?_
            exact g_zret (pc := 34) C R (Or.inl rfl) ⟨rfl, rfl, by rw [evn_f (show i < gK σ by omega) (show lvd σ i = true from b32_no c_18) (b32_no c_30)]; rfl, rfl⟩ (by decide) (by decide) dX9_isEven_34
  exact lp_2 (_ + 1) 0 (Nat.zero_le _) (fun j hj => absurd hj (Nat.not_lt_zero j)) (Nat.lt_succ_self _)
abbrev rm_X9_liveLinksOf : Room := { frames := 2, cells := 0, slots := 0, locals := 42 }
theorem Y_X9_liveLinksOf : pY yX9_liveLinksOf cX9_liveLinksOf 5 (Option.some Jvm.ClassFile.FieldType.int) := ⟨u_765, u_766, u_3, u_767⟩
theorem N_X9_liveLinksOf : yX9_liveLinksOf.cls ≠ "java/lang/invoke/MethodHandle" ∧ yX9_liveLinksOf.cls ≠ "java/lang/invoke/VarHandle" ∧ (parseMethodDescriptor yX9_liveLinksOf.desc).map (fun d => d.parameters.length) = some 1 := by decide +kernel
set_option maxRecDepth 20000 in
set_option maxHeartbeats 4000000 in
theorem c_X9_liveLinksOf (A : Nat → Nat) (P : List Nat) (g : pM) (w : Nat) {cq : Nat} {σ : Sg} (i : Nat) (hi : i < gK σ) (ha : ∀ q ∈ nAc (gN σ i), q < gK σ) (h : WD A g w cq σ) : PM yX9_liveLinksOf cX9_liveLinksOf 5 (Option.some Jvm.ClassFile.FieldType.int) rm_X9_liveLinksOf [.ref (A w), .ref (A (w + 100 + 100 * i))] P A g (fun v g' => v = some (.int (nI (lnk σ i))) ∧ g = g') := by
  have hK : gK σ ≤ 16 := h.k16
  have hlc := (h.nd hi).2.1.le
  refine px_intro (by decide +kernel) (Nat.le_of_ble_eq_true rfl) (fun K sz C R => ?_)
  show V K 0 0 P A g [(0, .ref (A w)), (1, .ref (A (w + 100 + 100 * i)))] 0 []
  refine g_iconst (pc := 0) C dX9_liveLinksOf_0 (v := nI 0) rfl ?_
  refine g_istore_n (pc := 1) C dX9_liveLinksOf_1 (by decide) (lv' := [(0, .ref (A w)), (1, .ref (A (w + 100 + 100 * i))), (2, .int (nI 0))]) [1, 2, 0] rfl ?_
  refine g_iconst (pc := 2) C dX9_liveLinksOf_2 (v := nI 0) rfl ?_
  refine g_istore_n (pc := 3) C dX9_liveLinksOf_3 (by decide) (lv' := [(0, .ref (A w)), (1, .ref (A (w + 100 + 100 * i))), (2, .int (nI 0)), (3, .int (nI 0))]) [1, 2, 3, 0] rfl ?_
  have lp_4 : ∀ (fuel : Nat) (k : Nat) (hk : k ≤ (nAc (gN σ i)).length), (nAc (gN σ i)).length - k < fuel → V K 0 0 P A g [(0, .ref (A w)), (1, .ref (A (w + 100 + 100 * i))), (2, .int (nI (((nAc (gN σ i)).take k).foldl (fun m q => m ||| (if lvd σ q then 2 ^ q else 0)) 0))), (3, .int (nI k))] 4 [] := by
    intro fuel
    induction fuel with
    | zero => intro k hk hμ; exact absurd hμ (Nat.not_lt_zero _)
    | succ fuel ih =>
      intro k hk hμ
      refine g_iload_n (pc := 4) C dX9_liveLinksOf_4 3 rfl ?_
      refine g_aload_n (pc := 5) C dX9_liveLinksOf_5 1 rfl ?_
      refine g_get (pc := 6) C (j := 2) (WD.nd (i := i) h (by omega)).1 rfl rfl (by decide) u_140 dX9_liveLinksOf_6 ?_
      refine g_get (pc := 9) C (j := 1) (NLN.o (WD.nd (i := i) h (by omega)).2.1) rfl rfl (by decide) u_98 dX9_liveLinksOf_9 ?_
      refine g_icmp_ge (pc := 12) C dX9_liveLinksOf_12 (tgt := 54) (by decide) (fun c_12 => ?_) (fun c_12 => ?_)
      ·
        have c_12 : (nAc (gN σ i)).length ≤ k := (nI_leI (by omega) (by omega)).mp c_12
        refine g_iload_n (pc := 54) C dX9_liveLinksOf_54 2 rfl ?_
        exact g_iret (pc := 55) C R ⟨rfl, rfl, by rw [show k = (nAc (gN σ i)).length by omega, List.take_length]; rfl, rfl⟩ (by decide) (by decide) dX9_liveLinksOf_55
      ·
        have c_12 : ¬ (nAc (gN σ i)).length ≤ k := fun h => c_12 ((nI_leI (a := (nAc (gN σ i)).length) (b := k) (by omega) (by omega)).mpr h)
        refine g_aload_n (pc := 15) C dX9_liveLinksOf_15 1 rfl ?_
        refine g_get (pc := 16) C (j := 2) (WD.nd (i := i) h (by omega)).1 rfl rfl (by decide) u_140 dX9_liveLinksOf_16 ?_
        refine g_iload_n (pc := 19) C dX9_liveLinksOf_19 3 rfl ?_
        refine g_callV (pc := 20) C (As := [.int (nI k)]) (rest := []) (b := (w + 100 + 100 * i + 1)) (n_X4_at A P g (w + 100 + 100 * i + 1) k (by omega) (WD.nd (i := i) h (by omega)).2.1) (NLN.o (WD.nd (i := i) h (by omega)).2.1) rfl rfl Y_X4_at u_755 N_X4_at ⟨by decide, by decide⟩ ⟨by decide, by decide⟩ (Nat.le_of_ble_eq_true rfl) rfl dX9_liveLinksOf_20 ?_
        rintro _ _ _ _ ⟨rfl, rfl, rfl, rfl⟩
        show V K 0 0 P A g [(0, .ref (A w)), (1, .ref (A (w + 100 + 100 * i))), (2, .int (nI (((nAc (gN σ i)).take k).foldl (fun m q => m ||| (if lvd σ q then 2 ^ q else 0)) 0))), (3, .int (nI k))] 23 [.int (nI ((nAc (gN σ i)).getD k 0))]
        have hqk := ha _ (getD_mem (show k < (nAc (gN σ i)).length by omega))
        refine g_istore (pc := 23) C dX9_liveLinksOf_23 (by decide) (lv' := [(0, .ref (A w)), (1, .ref (A (w + 100 + 100 * i))), (2, .int (nI (((nAc (gN σ i)).take k).foldl (fun m q => m ||| (if lvd σ q then 2 ^ q else 0)) 0))), (3, .int (nI k)), (4, .int (nI ((nAc (gN σ i)).getD k 0)))]) [1, 2, 3, 4, 0] rfl ?_
        refine g_iload_n (pc := 25) C dX9_liveLinksOf_25 2 rfl ?_
        refine g_aload_n (pc := 26) C dX9_liveLinksOf_26 0 rfl ?_
        refine g_iload (pc := 27) C dX9_liveLinksOf_27 4 rfl ?_
        refine g_callV (pc := 29) C (As := [.int (nI ((nAc (gN σ i)).getD k 0))]) (rest := [.int (nI (((nAc (gN σ i)).take k).foldl (fun m q => m ||| (if lvd σ q then 2 ^ q else 0)) 0))]) (b := w) (c_X9_nodeAt A P g w ((nAc (gN σ i)).getD k 0) (by omega) (WD.wb h)) (WD.wb h).1 rfl rfl Y_X9_nodeAt u_406 N_X9_nodeAt ⟨by decide, by decide⟩ ⟨by decide, by decide⟩ (Nat.le_of_ble_eq_true rfl) rfl dX9_liveLinksOf_29 ?_
        rintro _ _ _ _ ⟨rfl, rfl, rfl, rfl⟩
        show V K 0 0 P A g [(0, .ref (A w)), (1, .ref (A (w + 100 + 100 * i))), (2, .int (nI (((nAc (gN σ i)).take k).foldl (fun m q => m ||| (if lvd σ q then 2 ^ q else 0)) 0))), (3, .int (nI k)), (4, .int (nI ((nAc (gN σ i)).getD k 0)))] 32 [.ref (A (w + 100 + 100 * ((nAc (gN σ i)).getD k 0))), .int (nI (((nAc (gN σ i)).take k).foldl (fun m q => m ||| (if lvd σ q then 2 ^ q else 0)) 0))]
        refine g_get (pc := 32) C (j := 1) (WD.nd (i := ((nAc (gN σ i)).getD k 0)) h (by omega)).1 rfl rfl (by decide) u_135 dX9_liveLinksOf_32 ?_
        refine g_if_eq (pc := 35) C dX9_liveLinksOf_35 (tgt := 45) (by decide) (fun c_35 => ?_) (fun c_35 => ?_)
        ·
          refine g_iconst (pc := 45) C dX9_liveLinksOf_45 (v := nI 0) rfl ?_
          refine g_ior (pc := 46) C dX9_liveLinksOf_46 (z := nI (((nAc (gN σ i)).take (k + 1)).foldl (fun m q => m ||| (if lvd σ q then 2 ^ q else 0)) 0)) (by rw [fa_or, foldl_take (show k < (nAc (gN σ i)).length by omega), show lvd σ ((nAc (gN σ i)).getD k 0) = false from b32_yes c_35]; simp []) ?_
          refine g_istore_n (pc := 47) C dX9_liveLinksOf_47 (by decide) (lv' := [(0, .ref (A w)), (1, .ref (A (w + 100 + 100 * i))), (2, .int (nI (((nAc (gN σ i)).take (k + 1)).foldl (fun m q => m ||| (if lvd σ q then 2 ^ q else 0)) 0))), (3, .int (nI k)), (4, .int (nI ((nAc (gN σ i)).getD k 0)))]) [1, 2, 0, 3, 4] rfl ?_
          refine g_iinc (pc := 48) C dX9_liveLinksOf_48 (by decide) 3 rfl (v := nI (k + 1)) (nI_i1 _) (lv' := [(0, .ref (A w)), (1, .ref (A (w + 100 + 100 * i))), (2, .int (nI (((nAc (gN σ i)).take (k + 1)).foldl (fun m q => m ||| (if lvd σ q then 2 ^ q else 0)) 0))), (3, .int (nI (k + 1))), (4, .int (nI ((nAc (gN σ i)).getD k 0)))]) [1, 2, 3, 0, 4] rfl ?_
          refine g_goto (pc := 51) C dX9_liveLinksOf_51 (tgt := 4) (by decide) ?_
          refine g_sub [0, 1, 2, 3] rfl ?_
          exact ih (k + 1) (by omega) (by omega)
        ·
          refine g_iconst (pc := 38) C dX9_liveLinksOf_38 (v := nI 1) rfl ?_
          refine g_iload (pc := 39) C dX9_liveLinksOf_39 4 rfl ?_
          refine g_ishl (pc := 41) C dX9_liveLinksOf_41 (z := nI (2 ^ (nAc (gN σ i)).getD k 0)) (shl_nI (by omega)) ?_
          refine g_goto (pc := 42) C dX9_liveLinksOf_42 (tgt := 46) (by decide) ?_
          refine g_ior (pc := 46) C dX9_liveLinksOf_46 (z := nI (((nAc (gN σ i)).take (k + 1)).foldl (fun m q => m ||| (if lvd σ q then 2 ^ q else 0)) 0)) (by rw [fa_or, foldl_take (show k < (nAc (gN σ i)).length by omega), show lvd σ ((nAc (gN σ i)).getD k 0) = true from b32_no c_35]; simp []) ?_
          refine g_istore_n (pc := 47) C dX9_liveLinksOf_47 (by decide) (lv' := [(0, .ref (A w)), (1, .ref (A (w + 100 + 100 * i))), (2, .int (nI (((nAc (gN σ i)).take (k + 1)).foldl (fun m q => m ||| (if lvd σ q then 2 ^ q else 0)) 0))), (3, .int (nI k)), (4, .int (nI ((nAc (gN σ i)).getD k 0)))]) [1, 2, 0, 3, 4] rfl ?_
          refine g_iinc (pc := 48) C dX9_liveLinksOf_48 (by decide) 3 rfl (v := nI (k + 1)) (nI_i1 _) (lv' := [(0, .ref (A w)), (1, .ref (A (w + 100 + 100 * i))), (2, .int (nI (((nAc (gN σ i)).take (k + 1)).foldl (fun m q => m ||| (if lvd σ q then 2 ^ q else 0)) 0))), (3, .int (nI (k + 1))), (4, .int (nI ((nAc (gN σ i)).getD k 0)))]) [1, 2, 3, 0, 4] rfl ?_
          refine g_goto (pc := 51) C dX9_liveLinksOf_51 (tgt := 4) (by decide) ?_
          refine g_sub [0, 1, 2, 3] rfl ?_
          exact ih (k + 1) (by omega) (by omega)
  exact lp_4 (_ + 1) 0 (Nat.zero_le _) (Nat.lt_succ_self _)
abbrev rm_X9_firstOtherNode : Room := { frames := 3, cells := 0, slots := 0, locals := 65 }
theorem Y_X9_firstOtherNode : pY yX9_firstOtherNode cX9_firstOtherNode 3 (Option.some Jvm.ClassFile.FieldType.int) := ⟨u_835, u_836, u_3, u_837⟩
theorem N_X9_firstOtherNode : yX9_firstOtherNode.cls ≠ "java/lang/invoke/MethodHandle" ∧ yX9_firstOtherNode.cls ≠ "java/lang/invoke/VarHandle" ∧ (parseMethodDescriptor yX9_firstOtherNode.desc).map (fun d => d.parameters.length) = some 1 := by decide +kernel
set_option maxRecDepth 20000 in
set_option maxHeartbeats 4000000 in
theorem c_X9_firstOtherNode (A : Nat → Nat) (P : List Nat) (g : pM) (w : Nat) {cq : Nat} {σ : Sg} (w2 : Nat) {σ2 : Sg} (h : WD A g w cq σ) (h2 : WD A g w2 cq σ2) (hw : ∀ i, i < gK σ → ndW (gN σ i)) (hw2 : ∀ i, i < gK σ2 → ndW (gN σ2 i)) : PM yX9_firstOtherNode cX9_firstOtherNode 3 (Option.some Jvm.ClassFile.FieldType.int) rm_X9_firstOtherNode [.ref (A w), .ref (A w2)] P A g (fun v g' => v = some (.int (onv (fon σ σ2))) ∧ g = g') := by
  have hK : gK σ ≤ 16 := h.k16
  have hK2 : gK σ2 ≤ 16 := h2.k16
  refine px_intro (by decide +kernel) (Nat.le_of_ble_eq_true rfl) (fun K sz C R => ?_)
  show V K 0 0 P A g [(0, .ref (A w)), (1, .ref (A w2))] 0 []
  refine g_iconst (pc := 0) C dX9_firstOtherNode_0 (v := nI 0) rfl ?_
  refine g_istore_n (pc := 1) C dX9_firstOtherNode_1 (by decide) (lv' := [(0, .ref (A w)), (1, .ref (A w2)), (2, .int (nI 0))]) [1, 2, 0] rfl ?_
  have lp_2 : ∀ (fuel : Nat) (i : Nat) (hi : i ≤ 16) (hq : ∀ j, j < i → fonP σ σ2 j = false), 16 - i < fuel → V K 0 0 P A g [(0, .ref (A w)), (1, .ref (A w2)), (2, .int (nI i))] 2 [] := by
    intro fuel
    induction fuel with
    | zero => intro i hi hq hμ; exact absurd hμ (Nat.not_lt_zero _)
    | succ fuel ih =>
      intro i hi hq hμ
      refine g_iload_n (pc := 2) C dX9_firstOtherNode_2 2 rfl ?_
      refine g_aload_n (pc := 3) C dX9_firstOtherNode_3 0 rfl ?_
      refine g_get (pc := 4) C (j := 7) (WD.wb h).1 rfl rfl (by decide) u_258 dX9_firstOtherNode_4 ?_
      refine g_icmp_lt (pc := 7) C dX9_firstOtherNode_7 (tgt := 18) (by decide) (fun c_7 => ?_) (fun c_7 => ?_)
      ·
        have c_7 : i < (gK σ) := (nI_ltI (by omega) (by omega)).mp c_7
        refine g_aload_n (pc := 18) C dX9_firstOtherNode_18 0 rfl ?_
        refine g_iload_n (pc := 19) C dX9_firstOtherNode_19 2 rfl ?_
        refine g_callV (pc := 20) C (As := [.int (nI i)]) (rest := []) (b := w) (c_X9_isNode A P g w (nI i) (WD.wb h)) (WD.wb h).1 rfl rfl Y_X9_isNode u_393 N_X9_isNode ⟨by decide, by decide⟩ ⟨by decide, by decide⟩ (Nat.le_of_ble_eq_true rfl) rfl dX9_firstOtherNode_20 ?_
        rintro _ _ _ _ ⟨rfl, rfl, rfl, rfl⟩
        show V K 0 0 P A g [(0, .ref (A w)), (1, .ref (A w2)), (2, .int (nI i))] 23 [.int (b32 (decide (¬ nI i < 0 ∧ nI i < nI (gK σ))))]
        refine g_if_eq (pc := 23) C dX9_firstOtherNode_23 (tgt := 50) (by decide) (fun c_23 => ?_) (fun c_23 => ?_)
        ·
          have hi1 : ¬ i < gK σ := fun q => by have e := b32_yes c_23; rw [decide_eq_true ⟨nI_pos (by omega), (nI_ltI (by omega) (by omega)).mpr q⟩] at e; cases e
          refine g_iload_n (pc := 50) C dX9_firstOtherNode_50 2 rfl ?_
          exact g_iret (pc := 51) C R ⟨rfl, rfl, by rw [show fon σ σ2 = some i from firstB_hit (fonP_1 hi1) hq (by omega)]; rfl, rfl⟩ (by decide) (by decide) dX9_firstOtherNode_51
        ·
          have hi1 : i < gK σ := isN_lt (by omega) (by omega) (b32_no c_23)
          refine g_aload_n (pc := 26) C dX9_firstOtherNode_26 1 rfl ?_
          refine g_iload_n (pc := 27) C dX9_firstOtherNode_27 2 rfl ?_
          refine g_callV (pc := 28) C (As := [.int (nI i)]) (rest := []) (b := w2) (c_X9_isNode A P g w2 (nI i) (WD.wb h2)) (WD.wb h2).1 rfl rfl Y_X9_isNode u_393 N_X9_isNode ⟨by decide, by decide⟩ ⟨by decide, by decide⟩ (Nat.le_of_ble_eq_true rfl) rfl dX9_firstOtherNode_28 ?_
          rintro _ _ _ _ ⟨rfl, rfl, rfl, rfl⟩
          show V K 0 0 P A g [(0, .ref (A w)), (1, .ref (A w2)), (2, .int (nI i))] 31 [.int (b32 (decide (¬ nI i < 0 ∧ nI i < nI (gK σ2))))]
          refine g_if_eq (pc := 31) C dX9_firstOtherNode_31 (tgt := 50) (by decide) (fun c_31 => ?_) (fun c_31 => ?_)
          ·
            have hi2 : ¬ i < gK σ2 := fun q => by have e := b32_yes c_31; rw [decide_eq_true ⟨nI_pos (by omega), (nI_ltI (by omega) (by omega)).mpr q⟩] at e; cases e
            refine g_iload_n (pc := 50) C dX9_firstOtherNode_50 2 rfl ?_
            exact g_iret (pc := 51) C R ⟨rfl, rfl, by rw [show fon σ σ2 = some i from firstB_hit (fonP_2 hi2) hq (by omega)]; rfl, rfl⟩ (by decide) (by decide) dX9_firstOtherNode_51
          ·
            have hi2 : i < gK σ2 := isN_lt (by omega) (by omega) (b32_no c_31)
            refine g_aload_n (pc := 34) C dX9_firstOtherNode_34 0 rfl ?_
            refine g_iload_n (pc := 35) C dX9_firstOtherNode_35 2 rfl ?_
            refine g_callV (pc := 36) C (As := [.int (nI i)]) (rest := []) (b := w) (c_X9_nodeAt A P g w i (by omega) (WD.wb h)) (WD.wb h).1 rfl rfl Y_X9_nodeAt u_406 N_X9_nodeAt ⟨by decide, by decide⟩ ⟨by decide, by decide⟩ (Nat.le_of_ble_eq_true rfl) rfl dX9_firstOtherNode_36 ?_
            rintro _ _ _ _ ⟨rfl, rfl, rfl, rfl⟩
            show V K 0 0 P A g [(0, .ref (A w)), (1, .ref (A w2)), (2, .int (nI i))] 39 [.ref (A (w + 100 + 100 * i))]
            refine g_aload_n (pc := 39) C dX9_firstOtherNode_39 1 rfl ?_
            refine g_iload_n (pc := 40) C dX9_firstOtherNode_40 2 rfl ?_
            refine g_callV (pc := 41) C (As := [.int (nI i)]) (rest := [.ref (A (w + 100 + 100 * i))]) (b := w2) (c_X9_nodeAt A P g w2 i (by omega) (WD.wb h2)) (WD.wb h2).1 rfl rfl Y_X9_nodeAt u_406 N_X9_nodeAt ⟨by decide, by decide⟩ ⟨by decide, by decide⟩ (Nat.le_of_ble_eq_true rfl) rfl dX9_firstOtherNode_41 ?_
            rintro _ _ _ _ ⟨rfl, rfl, rfl, rfl⟩
            show V K 0 0 P A g [(0, .ref (A w)), (1, .ref (A w2)), (2, .int (nI i))] 44 [.ref (A (w2 + 100 + 100 * i)), .ref (A (w + 100 + 100 * i))]
            refine g_callV (pc := 44) C (As := [.ref (A (w2 + 100 + 100 * i))]) (rest := []) (b := (w + 100 + 100 * i)) (c_X3_looksLike A P g (w + 100 + 100 * i) (w2 + 100 + 100 * i) (hw i hi1) (hw2 i hi2) (h.nd hi1) (h2.nd hi2)) (WD.nd (i := i) h (by omega)).1 rfl rfl Y_X3_looksLike u_838 N_X3_looksLike ⟨by decide, by decide⟩ ⟨by decide, by decide⟩ (Nat.le_of_ble_eq_true rfl) rfl dX9_firstOtherNode_44 ?_
            rintro _ _ _ _ ⟨rfl, rfl, rfl, rfl⟩
            show V K 0 0 P A g [(0, .ref (A w)), (1, .ref (A w2)), (2, .int (nI i))] 47 [.int (b32 (ndSame (gN σ i) (gN σ2 i)))]
            refine g_if_ne (pc := 47) C dX9_firstOtherNode_47 (tgt := 52) (by decide) (fun c_47 => ?_) (fun c_47 => ?_)
            ·
              refine g_iinc (pc := 52) C dX9_firstOtherNode_52 (by decide) 2 rfl (v := nI (i + 1)) (nI_i1 _) (lv' := [(0, .ref (A w)), (1, .ref (A w2)), (2, .int (nI (i + 1)))]) [1, 2, 0] rfl ?_
              refine g_goto (pc := 55) C dX9_firstOtherNode_55 (tgt := 2) (by decide) ?_
              exact ih (i + 1) (by omega) (fun j hj => by rcases Nat.lt_succ_iff_lt_or_eq.mp hj with e | e; exact hq j e; rw [e]; exact fonP_f hi1 hi2 (b32_no c_47)) (by omega)
            ·
              refine g_iload_n (pc := 50) C dX9_firstOtherNode_50 2 rfl ?_
              exact g_iret (pc := 51) C R ⟨rfl, rfl, by rw [show fon σ σ2 = some i from firstB_hit (fonP_3 (b32_yes c_47)) hq (by omega)]; rfl, rfl⟩ (by decide) (by decide) dX9_firstOtherNode_51
      ·
        have c_7 : ¬ i < (gK σ) := fun h => c_7 ((nI_ltI (a := i) (b := (gK σ)) (by omega) (by omega)).mpr h)
        refine g_iload_n (pc := 10) C dX9_firstOtherNode_10 2 rfl ?_
        refine g_aload_n (pc := 11) C dX9_firstOtherNode_11 1 rfl ?_
        refine g_get (pc := 12) C (j := 7) (WD.wb h2).1 rfl rfl (by decide) u_258 dX9_firstOtherNode_12 ?_
        refine g_icmp_ge (pc := 15) C dX9_firstOtherNode_15 (tgt := 58) (by decide) (fun c_15 => ?_) (fun c_15 => ?_)
        ·
          have c_15 : (gK σ2) ≤ i := (nI_leI (by omega) (by omega)).mp c_15
          refine g_bipush (pc := 58) C dX9_firstOtherNode_58 (v := (-6)) rfl ?_
          exact g_iret (pc := 60) C R ⟨rfl, rfl, by rw [show fon σ σ2 = none from firstB_none (fun j hj => hq j (by omega))]; rfl, rfl⟩ (by decide) (by decide) dX9_firstOtherNode_60
        ·
          have c_15 : ¬ (gK σ2) ≤ i := fun h => c_15 ((nI_leI (a := (gK σ2)) (b := i) (by omega) (by omega)).mpr h)
          refine g_aload_n (pc := 18) C dX9_firstOtherNode_18 0 rfl ?_
          refine g_iload_n (pc := 19) C dX9_firstOtherNode_19 2 rfl ?_
          refine g_callV (pc := 20) C (As := [.int (nI i)]) (rest := []) (b := w) (c_X9_isNode A P g w (nI i) (WD.wb h)) (WD.wb h).1 rfl rfl Y_X9_isNode u_393 N_X9_isNode ⟨by decide, by decide⟩ ⟨by decide, by decide⟩ (Nat.le_of_ble_eq_true rfl) rfl dX9_firstOtherNode_20 ?_
          rintro _ _ _ _ ⟨rfl, rfl, rfl, rfl⟩
          show V K 0 0 P A g [(0, .ref (A w)), (1, .ref (A w2)), (2, .int (nI i))] 23 [.int (b32 (decide (¬ nI i < 0 ∧ nI i < nI (gK σ))))]
          refine g_if_eq (pc := 23) C dX9_firstOtherNode_23 (tgt := 50) (by decide) (fun c_23 => ?_) (fun c_23 => ?_)
          ·
            have hi1 : ¬ i < gK σ := fun q => by have e := b32_yes c_23; rw [decide_eq_true ⟨nI_pos (by omega), (nI_ltI (by omega) (by omega)).mpr q⟩] at e; cases e
            refine g_iload_n (pc := 50) C dX9_firstOtherNode_50 2 rfl ?_
            exact g_iret (pc := 51) C R ⟨rfl, rfl, by rw [show fon σ σ2 = some i from firstB_hit (fonP_1 hi1) hq (by omega)]; rfl, rfl⟩ (by decide) (by decide) dX9_firstOtherNode_51
          ·
            have hi1 : i < gK σ := isN_lt (by omega) (by omega) (b32_no c_23)
            refine g_aload_n (pc := 26) C dX9_firstOtherNode_26 1 rfl ?_
            refine g_iload_n (pc := 27) C dX9_firstOtherNode_27 2 rfl ?_
            refine g_callV (pc := 28) C (As := [.int (nI i)]) (rest := []) (b := w2) (c_X9_isNode A P g w2 (nI i) (WD.wb h2)) (WD.wb h2).1 rfl rfl Y_X9_isNode u_393 N_X9_isNode ⟨by decide, by decide⟩ ⟨by decide, by decide⟩ (Nat.le_of_ble_eq_true rfl) rfl dX9_firstOtherNode_28 ?_
            rintro _ _ _ _ ⟨rfl, rfl, rfl, rfl⟩
            show V K 0 0 P A g [(0, .ref (A w)), (1, .ref (A w2)), (2, .int (nI i))] 31 [.int (b32 (decide (¬ nI i < 0 ∧ nI i < nI (gK σ2))))]
            refine g_if_eq (pc := 31) C dX9_firstOtherNode_31 (tgt := 50) (by decide) (fun c_31 => ?_) (fun c_31 => ?_)
            ·
              have hi2 : ¬ i < gK σ2 := fun q => by have e := b32_yes c_31; rw [decide_eq_true ⟨nI_pos (by omega), (nI_ltI (by omega) (by omega)).mpr q⟩] at e; cases e
              refine g_iload_n (pc := 50) C dX9_firstOtherNode_50 2 rfl ?_
              exact g_iret (pc := 51) C R ⟨rfl, rfl, by rw [show fon σ σ2 = some i from firstB_hit (fonP_2 hi2) hq (by omega)]; rfl, rfl⟩ (by decide) (by decide) dX9_firstOtherNode_51
            ·
              have hi2 : i < gK σ2 := isN_lt (by omega) (by omega) (b32_no c_31)
              refine g_aload_n (pc := 34) C dX9_firstOtherNode_34 0 rfl ?_
              refine g_iload_n (pc := 35) C dX9_firstOtherNode_35 2 rfl ?_
              refine g_callV (pc := 36) C (As := [.int (nI i)]) (rest := []) (b := w) (c_X9_nodeAt A P g w i (by omega) (WD.wb h)) (WD.wb h).1 rfl rfl Y_X9_nodeAt u_406 N_X9_nodeAt ⟨by decide, by decide⟩ ⟨by decide, by decide⟩ (Nat.le_of_ble_eq_true rfl) rfl dX9_firstOtherNode_36 ?_
              rintro _ _ _ _ ⟨rfl, rfl, rfl, rfl⟩
              show V K 0 0 P A g [(0, .ref (A w)), (1, .ref (A w2)), (2, .int (nI i))] 39 [.ref (A (w + 100 + 100 * i))]
              refine g_aload_n (pc := 39) C dX9_firstOtherNode_39 1 rfl ?_
              refine g_iload_n (pc := 40) C dX9_firstOtherNode_40 2 rfl ?_
              refine g_callV (pc := 41) C (As := [.int (nI i)]) (rest := [.ref (A (w + 100 + 100 * i))]) (b := w2) (c_X9_nodeAt A P g w2 i (by omega) (WD.wb h2)) (WD.wb h2).1 rfl rfl Y_X9_nodeAt u_406 N_X9_nodeAt ⟨by decide, by decide⟩ ⟨by decide, by decide⟩ (Nat.le_of_ble_eq_true rfl) rfl dX9_firstOtherNode_41 ?_
              rintro _ _ _ _ ⟨rfl, rfl, rfl, rfl⟩
              show V K 0 0 P A g [(0, .ref (A w)), (1, .ref (A w2)), (2, .int (nI i))] 44 [.ref (A (w2 + 100 + 100 * i)), .ref (A (w + 100 + 100 * i))]
              refine g_callV (pc := 44) C (As := [.ref (A (w2 + 100 + 100 * i))]) (rest := []) (b := (w + 100 + 100 * i)) (c_X3_looksLike A P g (w + 100 + 100 * i) (w2 + 100 + 100 * i) (hw i hi1) (hw2 i hi2) (h.nd hi1) (h2.nd hi2)) (WD.nd (i := i) h (by omega)).1 rfl rfl Y_X3_looksLike u_838 N_X3_looksLike ⟨by decide, by decide⟩ ⟨by decide, by decide⟩ (Nat.le_of_ble_eq_true rfl) rfl dX9_firstOtherNode_44 ?_
              rintro _ _ _ _ ⟨rfl, rfl, rfl, rfl⟩
              show V K 0 0 P A g [(0, .ref (A w)), (1, .ref (A w2)), (2, .int (nI i))] 47 [.int (b32 (ndSame (gN σ i) (gN σ2 i)))]
              refine g_if_ne (pc := 47) C dX9_firstOtherNode_47 (tgt := 52) (by decide) (fun c_47 => ?_) (fun c_47 => ?_)
              ·
                refine g_iinc (pc := 52) C dX9_firstOtherNode_52 (by decide) 2 rfl (v := nI (i + 1)) (nI_i1 _) (lv' := [(0, .ref (A w)), (1, .ref (A w2)), (2, .int (nI (i + 1)))]) [1, 2, 0] rfl ?_
                refine g_goto (pc := 55) C dX9_firstOtherNode_55 (tgt := 2) (by decide) ?_
                exact ih (i + 1) (by omega) (fun j hj => by rcases Nat.lt_succ_iff_lt_or_eq.mp hj with e | e; exact hq j e; rw [e]; exact fonP_f hi1 hi2 (b32_no c_47)) (by omega)
              ·
                refine g_iload_n (pc := 50) C dX9_firstOtherNode_50 2 rfl ?_
                exact g_iret (pc := 51) C R ⟨rfl, rfl, by rw [show fon σ σ2 = some i from firstB_hit (fonP_3 (b32_yes c_47)) hq (by omega)]; rfl, rfl⟩ (by decide) (by decide) dX9_firstOtherNode_51
  exact lp_2 (_ + 1) 0 (Nat.zero_le _) (fun j hj => absurd hj (Nat.not_lt_zero j)) (Nat.lt_succ_self _)
abbrev rm_X9_sendList : Room := { frames := 3, cells := 0, slots := 0, locals := 71 }
theorem Y_X9_sendList : pY yX9_sendList cX9_sendList 8 (Option.none : Option Jvm.ClassFile.FieldType) := ⟨u_495, u_496, u_3, u_497⟩
theorem N_X9_sendList : yX9_sendList.cls ≠ "java/lang/invoke/MethodHandle" ∧ yX9_sendList.cls ≠ "java/lang/invoke/VarHandle" ∧ (parseMethodDescriptor yX9_sendList.desc).map (fun d => d.parameters.length) = some 6 := by decide +kernel
set_option maxRecDepth 20000 in
set_option maxHeartbeats 4000000 in
theorem c_X9_sendList (A : Nat → Nat) (P : List Nat) (g : pM) (w : Nat) {cq : Nat} {σ : Sg} (f t k x y lc : Nat) {cap2 : Nat} {l : List Nat} (hf0 : f < 16) (ht : t < gK σ) (hk : k < 12) (hx : x < 2 ^ 31) (hy : y < 2 ^ 31) (hlc : lc + 2 ≤ w + 3 ∨ (w + 5 ≤ lc ∧ lc + 2 ≤ w + 2000) ∨ w + 3500 ≤ lc) (h : WD A g w cq σ) (hl : NLN A g lc cap2 l) (hl5 : l.length ≤ 5) : PM yX9_sendList cX9_sendList 8 (Option.none : Option Jvm.ClassFile.FieldType) rm_X9_sendList [.ref (A w), .int (nI f), .int (nI t), .int (nI k), .int (nI x), .int (nI y), .ref (A lc)] P A g (fun v g' => v = none ∧ WD A g' w cq (snd σ f t k x y l) ∧ FrR g g' w) := by
  have hK : gK σ ≤ 16 := h.k16
  refine px_intro (by decide +kernel) (Nat.le_of_ble_eq_true rfl) (fun K sz C R => ?_)
  show V K 0 0 P A g [(0, .ref (A w)), (1, .int (nI f)), (2, .int (nI t)), (3, .int (nI k)), (4, .int (nI x)), (5, .int (nI y)), (6, .ref (A lc))] 0 []
  refine g_aload_n (pc := 0) C dX9_sendList_0 0 rfl ?_
  refine g_iload_n (pc := 1) C dX9_sendList_1 1 rfl ?_
  refine g_iload_n (pc := 2) C dX9_sendList_2 2 rfl ?_
  refine g_iload_n (pc := 3) C dX9_sendList_3 3 rfl ?_
  refine g_iload (pc := 4) C dX9_sendList_4 4 rfl ?_
  refine g_iload (pc := 6) C dX9_sendList_6 5 rfl ?_
  refine g_callV (pc := 8) C (As := [.int (nI f), .int (nI t), .int (nI k), .int (nI x), .int (nI y)]) (rest := []) (b := w) (c_X9_send A P g w f t k x y hf0 ht (by omega) hx hy h) (WD.wb h).1 rfl rfl Y_X9_send u_448 N_X9_send ⟨by decide, by decide⟩ ⟨by decide, by decide⟩ (Nat.le_of_ble_eq_true rfl) rfl dX9_sendList_8 ?_
  rintro _ _ _ g1 ⟨rfl, rfl, hf1, hcase⟩
  have hl1 : NLN A g1 lc cap2 l := hl.fr' (fun k k1 k2 => hf1 k (lc_c hlc k1 k2))
  rcases hcase with ⟨hfull, rfl, hR⟩ | ⟨hroom, j, hj, rfl, hL, hW1, hwand⟩
  ·
    show V K 0 0 P A g1 [(0, .ref (A w)), (1, .int (nI f)), (2, .int (nI t)), (3, .int (nI k)), (4, .int (nI x)), (5, .int (nI y)), (6, .ref (A lc))] 11 [.null]
    refine g_astoreN (pc := 11) C dX9_sendList_11 (by decide) (lv' := [(0, .ref (A w)), (1, .int (nI f)), (2, .int (nI t)), (3, .int (nI k)), (4, .int (nI x)), (5, .int (nI y)), (6, .ref (A lc)), (7, .null)]) [1, 2, 3, 4, 5, 6, 7, 0] rfl ?_
    refine g_aloadN (pc := 13) C dX9_sendList_13 7 rfl ?_
    refine g_ifnullN (pc := 15) C dX9_sendList_15 (tgt := 37) (by decide) ?_
    exact g_vret (pc := 37) C R ⟨rfl, rfl, rfl, by rw [snd_full hfull] at hR ⊢; exact hR, hf1⟩ (by decide) (by decide) dX9_sendList_37
  ·
    cases hlv : lvd σ t
    ·
      rw [ltr_dead hlv] at hL
      show V K 0 0 P A g1 [(0, .ref (A w)), (1, .int (nI f)), (2, .int (nI t)), (3, .int (nI k)), (4, .int (nI x)), (5, .int (nI y)), (6, .ref (A lc))] 11 [.ref (A (w + 2000 + 3 * j))]
      refine g_astore (pc := 11) C dX9_sendList_11 (by decide) (lv' := [(0, .ref (A w)), (1, .int (nI f)), (2, .int (nI t)), (3, .int (nI k)), (4, .int (nI x)), (5, .int (nI y)), (6, .ref (A lc)), (7, .ref (A (w + 2000 + 3 * j)))]) [1, 2, 3, 4, 5, 6, 7, 0] rfl ?_
      refine g_aload (pc := 13) C dX9_sendList_13 7 rfl ?_
      refine g_ifnullR (pc := 15) C dX9_sendList_15 ?_
      refine g_aload (pc := 18) C dX9_sendList_18 7 rfl ?_
      refine g_get (pc := 20) C (j := 2) hL.1 rfl rfl (by decide) u_203 dX9_sendList_20 ?_
      refine g_iload_n (pc := 23) C dX9_sendList_23 3 rfl ?_
      refine g_icmp_ne (pc := 24) C dX9_sendList_24 (tgt := 37) (by decide) (fun c_24 => ?_) (fun c_24 => ?_)
      ·
        have c_24 : ¬ 12 = k := fun h => c_24 ((nI_eq (a := 12) (b := k) (by omega) (by omega)).mpr h)
        exact g_vret (pc := 37) C R ⟨rfl, rfl, rfl, by rw [snd_room hroom, ltr_dead hlv]; rw [snd_room hroom, ltr_dead hlv] at hW1; exact hW1, hf1⟩ (by decide) (by decide) dX9_sendList_37
      ·
        have c_24 : 12 = k := (nI_eq (by omega) (by omega)).mp c_24
        exfalso; omega
    ·
      rw [ltr_live hlv] at hL
      show V K 0 0 P A g1 [(0, .ref (A w)), (1, .int (nI f)), (2, .int (nI t)), (3, .int (nI k)), (4, .int (nI x)), (5, .int (nI y)), (6, .ref (A lc))] 11 [.ref (A (w + 2000 + 3 * j))]
      refine g_astore (pc := 11) C dX9_sendList_11 (by decide) (lv' := [(0, .ref (A w)), (1, .int (nI f)), (2, .int (nI t)), (3, .int (nI k)), (4, .int (nI x)), (5, .int (nI y)), (6, .ref (A lc)), (7, .ref (A (w + 2000 + 3 * j)))]) [1, 2, 3, 4, 5, 6, 7, 0] rfl ?_
      refine g_aload (pc := 13) C dX9_sendList_13 7 rfl ?_
      refine g_ifnullR (pc := 15) C dX9_sendList_15 ?_
      refine g_aload (pc := 18) C dX9_sendList_18 7 rfl ?_
      refine g_get (pc := 20) C (j := 2) hL.1 rfl rfl (by decide) u_203 dX9_sendList_20 ?_
      refine g_iload_n (pc := 23) C dX9_sendList_23 3 rfl ?_
      refine g_icmp_ne (pc := 24) C dX9_sendList_24 (tgt := 37) (by decide) (fun c_24 => ?_) (fun c_24 => ?_)
      ·
        have c_24 : ¬ k = k := fun h => c_24 ((nI_eq (a := k) (b := k) (by omega) (by omega)).mpr h)
        exact absurd rfl c_24
      ·
        have c_24 : k = k := (nI_eq (by omega) (by omega)).mp c_24
        refine g_aload (pc := 27) C dX9_sendList_27 7 rfl ?_
        refine g_get (pc := 29) C (j := 5) hL.1 rfl rfl (by decide) u_212 dX9_sendList_29 ?_
        refine g_aload (pc := 32) C dX9_sendList_32 6 rfl ?_
        refine g_callV (pc := 34) C (As := [.ref (A lc)]) (rest := []) (b := (w + 2000 + 3 * j + 1)) (n_X4_copyFrom' A P g1 (w + 2000 + 3 * j + 1) lc (by omega) hL.2 hl1 hl5) (NLN.o hL.2) rfl rfl Y_X4_copyFrom u_498 N_X4_copyFrom ⟨by decide, by decide⟩ ⟨by decide, by decide⟩ (Nat.le_of_ble_eq_true rfl) rfl dX9_sendList_34 ?_
        rintro _ _ _ g2 ⟨rfl, rfl, rfl, hn2, hf2⟩
        show V K 0 0 P A g2 [(0, .ref (A w)), (1, .int (nI f)), (2, .int (nI t)), (3, .int (nI k)), (4, .int (nI x)), (5, .int (nI y)), (6, .ref (A lc)), (7, .ref (A (w + 2000 + 3 * j)))] 37 []
        exact g_vret (pc := 37) C R ⟨rfl, rfl, rfl, by rw [snd_room hroom, ltr_live hlv]; have := hwand g2 l hf2 hn2; rw [ltr_live hlv] at this; exact this, hf1.tr (FrR.b hf2 (by omega) (by omega))⟩ (by decide) (by decide) dX9_sendList_37
abbrev rm_X9_takeLetter : Room := { frames := 3, cells := 0, slots := 0, locals := 66 }
theorem Y_X9_takeLetter : pY yX9_takeLetter cX9_takeLetter 2 (Option.some (Jvm.ClassFile.FieldType.object "ViewBroadcast$Letter")) := ⟨u_574, u_575, u_3, u_576⟩
theorem N_X9_takeLetter : yX9_takeLetter.cls ≠ "java/lang/invoke/MethodHandle" ∧ yX9_takeLetter.cls ≠ "java/lang/invoke/VarHandle" ∧ (parseMethodDescriptor yX9_takeLetter.desc).map (fun d => d.parameters.length) = some 1 := by decide +kernel
set_option maxRecDepth 20000 in
set_option maxHeartbeats 4000000 in
theorem c_X9_takeLetter (A : Nat → Nat) (P : List Nat) (g : pM) (w : Nat) {cq : Nat} {σ : Sg} (i : Nat) (t : Lt) (hi : (gR σ)[i]? = some t) (hk1 : 1 ≤ t.2.2.1) (hr : t.2.1 < gK σ) (h : WD A g w cq σ) : PM yX9_takeLetter cX9_takeLetter 2 (Option.some (Jvm.ClassFile.FieldType.object "ViewBroadcast$Letter")) rm_X9_takeLetter [.ref (A w), .int (nI i)] P A g (fun v g' => v = some (.ref (A (w + 6))) ∧ LT A g' (w + 6) t ∧ WD A g' w cq (tak σ i t) ∧ Fr g g' w (w + 5000)) := by
  have hK : gK σ ≤ 16 := h.k16
  obtain ⟨fi, r, ρ, L, r1, r2, r3, r4, r5⟩ := h.rw
  have hil := (List.getElem?_eq_some_iff.mp hi).1
  have hrl : (gR σ).length ≤ 500 := r1.2.1
  have hLi : L (ρ i) = t := by have := r4 i hil; rw [hi] at this; exact (Option.some.inj this).symm
  have hρ := r1.2.2.1 i (by omega)
  obtain ⟨t0, hcm⟩ := h.2.2.2.2.2.1
  obtain ⟨ra, ha1, ha2⟩ := h.2.2.2.2.2.2.1
  have hlt : ltW t := r5 t (List.mem_of_getElem? hi)
  have hk12 := hlt.2.2.1
  refine px_intro (by decide +kernel) (Nat.le_of_ble_eq_true rfl) (fun K sz C R => ?_)
  show V K 0 0 P A g [(0, .ref (A w)), (1, .int (nI i))] 0 []
  refine g_aload_n (pc := 0) C dX9_takeLetter_0 0 rfl ?_
  refine g_get (pc := 1) C (j := 5) (WD.wb h).1 rfl rfl (by decide) u_255 dX9_takeLetter_1 ?_
  refine g_aload_n (pc := 4) C dX9_takeLetter_4 0 rfl ?_
  refine g_get (pc := 5) C (j := 4) (WD.wb h).1 rfl rfl (by decide) u_253 dX9_takeLetter_5 ?_
  refine g_iload_n (pc := 8) C dX9_takeLetter_8 1 rfl ?_
  refine g_callV (pc := 9) C (As := [.int (nI i)]) (rest := [.ref (A (w + 6))]) (b := (w + 3)) (c_X5_at A P g w i (by omega) r1.1 r2) r2.1 rfl rfl Y_X5_at u_577 N_X5_at ⟨by decide, by decide⟩ ⟨by decide, by decide⟩ (Nat.le_of_ble_eq_true rfl) rfl dX9_takeLetter_9 ?_
  rintro _ _ _ _ ⟨rfl, rfl, rfl, rfl⟩
  show V K 0 0 P A g [(0, .ref (A w)), (1, .int (nI i))] 12 [.ref (A (w + 2000 + 3 * ρ i)), .ref (A (w + 6))]
  refine g_callV (pc := 12) C (As := [.ref (A (w + 2000 + 3 * ρ i))]) (rest := []) (b := (w + 6)) (c_X1_copyFrom A P g (w + 6) (w + 2000 + 3 * ρ i) (by omega) hcm (r3 (ρ i) hρ)) hcm.1 rfl rfl Y_X1_copyFrom u_578 N_X1_copyFrom ⟨by decide, by decide⟩ ⟨by decide, by decide⟩ (Nat.le_of_ble_eq_true rfl) rfl dX9_takeLetter_12 ?_
  rintro _ _ _ g1 ⟨rfl, rfl, rfl, hc1, hf1⟩
  rw [hLi] at hc1
  have hW1 := h.cm hf1 hc1
  have ha1b := hf1.at (k := w + 5) (by omega) ha1
  show V K 0 0 P A g1 [(0, .ref (A w)), (1, .int (nI i))] 15 []
  refine g_aload_n (pc := 15) C dX9_takeLetter_15 0 rfl ?_
  refine g_get (pc := 16) C (j := 4) (WD.wb hW1).1 rfl rfl (by decide) u_253 dX9_takeLetter_16 ?_
  refine g_iload_n (pc := 19) C dX9_takeLetter_19 1 rfl ?_
  refine g_callV (pc := 20) C (As := [.int (nI i)]) (rest := []) (b := (w + 3)) (c_X5_removeAt A P g1 w i hil hW1.rw) (RW.ex (WD.rw hW1)).choose_spec rfl rfl Y_X5_removeAt u_584 N_X5_removeAt ⟨by decide, by decide⟩ ⟨by decide, by decide⟩ (Nat.le_of_ble_eq_true rfl) rfl dX9_takeLetter_20 ?_
  rintro _ _ _ g2 ⟨rfl, rfl, rfl, hR2, hf2⟩
  have hW2 : WD A g2 w cq (sR σ ((gR σ).eraseIdx i)) := hW1.row (FrR.a hf2 (by omega) (by omega)) hR2
  have hc2 := hc1.fr hf2 (by omega)
  have ha1c := hf2.at (k := w + 5) (by omega) ha1b
  show V K 0 0 P A g2 [(0, .ref (A w)), (1, .int (nI i))] 23 []
  refine g_aload_n (pc := 23) C dX9_takeLetter_23 0 rfl ?_
  refine g_get (pc := 24) C (j := 6) (WD.wb hW2).1 rfl rfl (by decide) u_256 dX9_takeLetter_24 ?_
  refine g_iconst (pc := 27) C dX9_takeLetter_27 (v := nI 0) rfl ?_
  refine g_dup2 (pc := 28) C dX9_takeLetter_28 rfl rfl ?_
  refine g_iald (pc := 29) C ha1c (nI_clamp (by omega)) (nI_in0 (n := 13) (by omega) (by omega)) dX9_takeLetter_29 (x := ra 0) rfl ?_
  refine g_iconst (pc := 30) C dX9_takeLetter_30 (v := nI 1) rfl ?_
  refine g_iadd (pc := 31) C dX9_takeLetter_31 (z := (ra 0) + (nI 1)) rfl ?_
  refine g_iast (pc := 32) C ha1c (nI_clamp (by omega)) (nI_in0 (n := 13) (by omega) (by omega)) dX9_takeLetter_32 ?_
  obtain ⟨g_1, hg_1⟩ : ∃ yM : pM, yM = va_up g2 (w + 5) (ai 0 13 (upd ra 0 ((ra 0) + (nI 1)))) := ⟨_, rfl⟩
  show V K 0 0 P A (va_up g2 (w + 5) (ai 0 13 (upd ra 0 ((ra 0) + (nI 1))))) [(0, .ref (A w)), (1, .int (nI i))] 33 []
  rw [← hg_1]
  have h_2 : g_1 (w + 5) = ai 0 13 (upd ra 0 ((ra 0) + (nI 1))) := by rw [hg_1]; exact va_up_self _ _ _
  have hf_3 : Fr g2 g_1 (w + 5) (w + 5 + 1) := by rw [hg_1]; exact Fr.up (by omega) (by omega)
  have hp_4 := LT.fr hc2 hf_3 (by omega)
  have hfa : Fr g2 g_1 (w + 5) (w + 6) := by rw [hg_1]; exact Fr.up (by omega) (by omega)
  have hW3 : WD A g_1 w cq (sC (sR σ ((gR σ).eraseIdx i)) (bmp (gC σ) 0)) := WD.ar hW2 hfa (AR.bmp (k := 0) (by omega) ha2 h_2)
  obtain ⟨rb, hb1, hb2⟩ := hW3.2.2.2.2.2.2.1
  refine g_aload_n (pc := 33) C dX9_takeLetter_33 0 rfl ?_
  refine g_get (pc := 34) C (j := 5) (WD.wb hW3).1 rfl rfl (by decide) u_255 dX9_takeLetter_34 ?_
  refine g_get (pc := 37) C (j := 2) hp_4.1 rfl rfl (by decide) u_203 dX9_takeLetter_37 ?_
  refine g_iconst (pc := 40) C dX9_takeLetter_40 (v := nI 1) rfl ?_
  refine g_icmp_lt (pc := 41) C dX9_takeLetter_41 (tgt := 72) (by decide) (fun c_41 => ?_) (fun c_41 => ?_)
  ·
    have c_41 : t.2.2.1 < 1 := (nI_ltI (by omega) (by omega)).mp c_41
    exfalso; omega
  ·
    have c_41 : ¬ t.2.2.1 < 1 := fun h => c_41 ((nI_ltI (a := t.2.2.1) (b := 1) (by omega) (by omega)).mpr h)
    refine g_aload_n (pc := 44) C dX9_takeLetter_44 0 rfl ?_
    refine g_get (pc := 45) C (j := 5) (WD.wb hW3).1 rfl rfl (by decide) u_255 dX9_takeLetter_45 ?_
    refine g_get (pc := 48) C (j := 2) hp_4.1 rfl rfl (by decide) u_203 dX9_takeLetter_48 ?_
    refine g_bipush (pc := 51) C dX9_takeLetter_51 (v := nI 12) rfl ?_
    refine g_icmp_gt (pc := 53) C dX9_takeLetter_53 (tgt := 72) (by decide) (fun c_53 => ?_) (fun c_53 => ?_)
    ·
      have c_53 : 12 < t.2.2.1 := (nI_ltI (by omega) (by omega)).mp c_53
      exfalso; omega
    ·
      have c_53 : ¬ 12 < t.2.2.1 := fun h => c_53 ((nI_ltI (a := 12) (b := t.2.2.1) (by omega) (by omega)).mpr h)
      refine g_aload_n (pc := 56) C dX9_takeLetter_56 0 rfl ?_
      refine g_get (pc := 57) C (j := 6) (WD.wb hW3).1 rfl rfl (by decide) u_256 dX9_takeLetter_57 ?_
      refine g_aload_n (pc := 60) C dX9_takeLetter_60 0 rfl ?_
      refine g_get (pc := 61) C (j := 5) (WD.wb hW3).1 rfl rfl (by decide) u_255 dX9_takeLetter_61 ?_
      refine g_get (pc := 64) C (j := 2) hp_4.1 rfl rfl (by decide) u_203 dX9_takeLetter_64 ?_
      refine g_dup2 (pc := 67) C dX9_takeLetter_67 rfl rfl ?_
      refine g_iald (pc := 68) C hb1 (nI_clamp (by omega)) (nI_in0 (n := 13) (by omega) (by omega)) dX9_takeLetter_68 (x := rb t.2.2.1) rfl ?_
      refine g_iconst (pc := 69) C dX9_takeLetter_69 (v := nI 1) rfl ?_
      refine g_iadd (pc := 70) C dX9_takeLetter_70 (z := (rb t.2.2.1) + (nI 1)) rfl ?_
      refine g_iast (pc := 71) C hb1 (nI_clamp (by omega)) (nI_in0 (n := 13) (by omega) (by omega)) dX9_takeLetter_71 ?_
      obtain ⟨g_5, hg_5⟩ : ∃ yM : pM, yM = va_up g_1 (w + 5) (ai 0 13 (upd rb t.2.2.1 ((rb t.2.2.1) + (nI 1)))) := ⟨_, rfl⟩
      show V K 0 0 P A (va_up g_1 (w + 5) (ai 0 13 (upd rb t.2.2.1 ((rb t.2.2.1) + (nI 1))))) [(0, .ref (A w)), (1, .int (nI i))] 72 []
      rw [← hg_5]
      have h_6 : g_5 (w + 5) = ai 0 13 (upd rb t.2.2.1 ((rb t.2.2.1) + (nI 1))) := by rw [hg_5]; exact va_up_self _ _ _
      have hf_7 : Fr g_1 g_5 (w + 5) (w + 5 + 1) := by rw [hg_5]; exact Fr.up (by omega) (by omega)
      have hp_8 := LT.fr hp_4 hf_7 (by omega)
      have hfb : Fr g_1 g_5 (w + 5) (w + 6) := by rw [hg_5]; exact Fr.up (by omega) (by omega)
      have hW4 : WD A g_5 w cq (sC (sR σ ((gR σ).eraseIdx i)) (bmp (bmp (gC σ) 0) t.2.2.1)) := WD.ar (σ := (sC (sR σ ((gR σ).eraseIdx i)) (bmp (gC σ) 0))) hW3 hfb (AR.bmp (k := t.2.2.1) (by omega) hb2 h_6)
      refine g_aload_n (pc := 72) C dX9_takeLetter_72 0 rfl ?_
      refine g_aload_n (pc := 73) C dX9_takeLetter_73 0 rfl ?_
      refine g_get (pc := 74) C (j := 5) (WD.wb hW4).1 rfl rfl (by decide) u_255 dX9_takeLetter_74 ?_
      refine g_get (pc := 77) C (j := 1) hp_8.1 rfl rfl (by decide) u_200 dX9_takeLetter_77 ?_
      refine g_callV (pc := 80) C (As := [.int (nI t.2.1)]) (rest := []) (b := w) (c_X9_nodeAt A P g_5 w t.2.1 (by omega) (WD.wb hW4)) (WD.wb hW4).1 rfl rfl Y_X9_nodeAt u_406 N_X9_nodeAt ⟨by decide, by decide⟩ ⟨by decide, by decide⟩ (Nat.le_of_ble_eq_true rfl) rfl dX9_takeLetter_80 ?_
      rintro _ _ _ _ ⟨rfl, rfl, rfl, rfl⟩
      show V K 0 0 P A g_5 [(0, .ref (A w)), (1, .int (nI i))] 83 [.ref (A (w + 100 + 100 * t.2.1))]
      refine g_dup (pc := 83) C dX9_takeLetter_83 rfl ?_
      refine g_get (pc := 84) C (j := 7) (WD.nd (i := t.2.1) hW4 (by omega)).1 rfl rfl (by decide) u_154 dX9_takeLetter_84 ?_
      refine g_iconst (pc := 87) C dX9_takeLetter_87 (v := nI 1) rfl ?_
      refine g_iadd (pc := 88) C dX9_takeLetter_88 (z := (nGo (gN (sC (sR σ ((gR σ).eraseIdx i)) (bmp (bmp (gC σ) 0) t.2.2.1)) t.2.1)) + (nI 1)) rfl ?_
      refine g_put (pc := 89) C (j := 7) (WD.nd (i := t.2.1) hW4 (by omega)).1 rfl (by decide) (Nat.le_of_ble_eq_true rfl) u_154 rfl pfd_I rfl rfl dX9_takeLetter_89 ?_
      obtain ⟨g_9, hg_9⟩ : ∃ yM : pM, yM = va_up g_5 (w + 100 + 100 * t.2.1) (ob 3 [.int (nI t.2.1), .int (b32 (nLv (gN (sC (sR σ ((gR σ).eraseIdx i)) (bmp (bmp (gC σ) 0) t.2.2.1)) t.2.1))), .ref (A (w + 100 + 100 * t.2.1 + 1)), .ref (A (w + 100 + 100 * t.2.1 + 3)), .int (nI (nLz (gN (sC (sR σ ((gR σ).eraseIdx i)) (bmp (bmp (gC σ) 0) t.2.2.1)) t.2.1))), .int (onv (nAs (gN (sC (sR σ ((gR σ).eraseIdx i)) (bmp (bmp (gC σ) 0) t.2.2.1)) t.2.1))), .int (nI (nAk (gN (sC (sR σ ((gR σ).eraseIdx i)) (bmp (bmp (gC σ) 0) t.2.2.1)) t.2.1))), .int ((nGo (gN (sC (sR σ ((gR σ).eraseIdx i)) (bmp (bmp (gC σ) 0) t.2.2.1)) t.2.1)) + (nI 1)), .ref (A (w + 100 + 100 * t.2.1 + 5)), .ref (A (w + 100 + 100 * t.2.1 + 6))]) := ⟨_, rfl⟩
      show V K 0 0 P A (va_up g_5 (w + 100 + 100 * t.2.1) (ob 3 [.int (nI t.2.1), .int (b32 (nLv (gN (sC (sR σ ((gR σ).eraseIdx i)) (bmp (bmp (gC σ) 0) t.2.2.1)) t.2.1))), .ref (A (w + 100 + 100 * t.2.1 + 1)), .ref (A (w + 100 + 100 * t.2.1 + 3)), .int (nI (nLz (gN (sC (sR σ ((gR σ).eraseIdx i)) (bmp (bmp (gC σ) 0) t.2.2.1)) t.2.1))), .int (onv (nAs (gN (sC (sR σ ((gR σ).eraseIdx i)) (bmp (bmp (gC σ) 0) t.2.2.1)) t.2.1))), .int (nI (nAk (gN (sC (sR σ ((gR σ).eraseIdx i)) (bmp (bmp (gC σ) 0) t.2.2.1)) t.2.1))), .int ((nGo (gN (sC (sR σ ((gR σ).eraseIdx i)) (bmp (bmp (gC σ) 0) t.2.2.1)) t.2.1)) + (nI 1)), .ref (A (w + 100 + 100 * t.2.1 + 5)), .ref (A (w + 100 + 100 * t.2.1 + 6))])) [(0, .ref (A w)), (1, .int (nI i))] 92 []
      rw [← hg_9]
      have hf_10 : Fr g_5 g_9 (w + 100 + 100 * t.2.1) (w + 100 + 100 * t.2.1 + 1) := by rw [hg_9]; exact Fr.up (by omega) (by omega)
      have hN_11 : ND A g_9 (w + 100 + 100 * t.2.1) t.2.1 (sGo (gN σ t.2.1) (nGo (gN σ t.2.1) + 1)) := ND.put (WD.nd (i := t.2.1) hW4 (by omega)) hg_9 rfl rfl rfl rfl
      have hW_12 := WD.sn (i := t.2.1) hW4 (by omega) (hf_10.mo (by omega) (by omega)) hN_11
      have hp_13 := LT.fr hp_8 hf_10 (by omega)
      refine g_aload_n (pc := 92) C dX9_takeLetter_92 0 rfl ?_
      refine g_get (pc := 93) C (j := 5) (WD.wb hW_12).1 rfl rfl (by decide) u_255 dX9_takeLetter_93 ?_
      exact g_aret (pc := 96) C R (Or.inr ⟨_, rfl⟩) ⟨rfl, rfl, rfl, hp_13, hW_12, fun k hk => by rw [hg_9, va_up_ne _ _ (by omega), hg_5, va_up_ne _ _ (by omega), hg_1, va_up_ne _ _ (by omega), hf2 k (by omega), hf1 k (by omega)]⟩ (by decide) (by decide) dX9_takeLetter_96
abbrev rm_X9_halt : Room := { frames := 4, cells := 0, slots := 0, locals := 89 }
theorem Y_X9_halt : pY yX9_halt cX9_halt 4 (Option.some Jvm.ClassFile.FieldType.int) := ⟨u_421, u_422, u_3, u_423⟩
theorem N_X9_halt : yX9_halt.cls ≠ "java/lang/invoke/MethodHandle" ∧ yX9_halt.cls ≠ "java/lang/invoke/VarHandle" ∧ (parseMethodDescriptor yX9_halt.desc).map (fun d => d.parameters.length) = some 1 := by decide +kernel
set_option maxRecDepth 20000 in
set_option maxHeartbeats 4000000 in
theorem c_X9_halt (A : Nat → Nat) (P : List Nat) (g : pM) (w : Nat) {cq : Nat} {σ : Sg} (i : Nat) (hi : i < gK σ) (hw : ∀ m, m < gK σ → ndW (gN σ m)) (h : WD A g w cq σ) : PM yX9_halt cX9_halt 4 (Option.some Jvm.ClassFile.FieldType.int) rm_X9_halt [.ref (A w), .ref (A (w + 100 + 100 * i))] P A g (fun v g' => v = some (.int (nI ((gR σ).length - ((gR σ).filter (fun t => !(t.2.1 == i))).length))) ∧ WD A g' w cq (hlt σ i) ∧ FrV g g' w) := by
  have hK : gK σ ≤ 16 := h.k16
  refine px_intro (by decide +kernel) (Nat.le_of_ble_eq_true rfl) (fun K sz C R => ?_)
  show V K 0 0 P A g [(0, .ref (A w)), (1, .ref (A (w + 100 + 100 * i)))] 0 []
  refine g_aload_n (pc := 0) C dX9_halt_0 1 rfl ?_
  refine g_iconst (pc := 1) C dX9_halt_1 (v := nI 0) rfl ?_
  refine g_put (pc := 2) C (j := 1) (WD.nd (i := i) h (by omega)).1 rfl (by decide) (Nat.le_of_ble_eq_true rfl) u_135 rfl pfd_Z rfl rfl dX9_halt_2 ?_
  obtain ⟨g_1, hg_1⟩ : ∃ yM : pM, yM = va_up g (w + 100 + 100 * i) (ob 3 [.int (nI i), .int (nI 0), .ref (A (w + 100 + 100 * i + 1)), .ref (A (w + 100 + 100 * i + 3)), .int (nI (nLz (gN σ i))), .int (onv (nAs (gN σ i))), .int (nI (nAk (gN σ i))), .int (nGo (gN σ i)), .ref (A (w + 100 + 100 * i + 5)), .ref (A (w + 100 + 100 * i + 6))]) := ⟨_, rfl⟩
  show V K 0 0 P A (va_up g (w + 100 + 100 * i) (ob 3 [.int (nI i), .int (nI 0), .ref (A (w + 100 + 100 * i + 1)), .ref (A (w + 100 + 100 * i + 3)), .int (nI (nLz (gN σ i))), .int (onv (nAs (gN σ i))), .int (nI (nAk (gN σ i))), .int (nGo (gN σ i)), .ref (A (w + 100 + 100 * i + 5)), .ref (A (w + 100 + 100 * i + 6))])) [(0, .ref (A w)), (1, .ref (A (w + 100 + 100 * i)))] 5 []
  rw [← hg_1]
  have hf_2 : Fr g g_1 (w + 100 + 100 * i) (w + 100 + 100 * i + 1) := by rw [hg_1]; exact Fr.up (by omega) (by omega)
  have hN_3 : ND A g_1 (w + 100 + 100 * i) i (sLv (gN σ i) false) := ND.put (WD.nd (i := i) h (by omega)) hg_1 rfl rfl rfl rfl
  have hW_4 := WD.sn (i := i) h (by omega) (hf_2.mo (by omega) (by omega)) hN_3
  refine g_aload_n (pc := 5) C dX9_halt_5 0 rfl ?_
  refine g_get (pc := 6) C (j := 4) (WD.wb hW_4).1 rfl rfl (by decide) u_253 dX9_halt_6 ?_
  refine g_aload_n (pc := 9) C dX9_halt_9 1 rfl ?_
  refine g_get (pc := 10) C (j := 0) (WD.nd (i := i) hW_4 (by omega)).1 rfl rfl (by decide) u_132 dX9_halt_10 ?_
  refine g_callV (pc := 13) C (As := [.int (nI i)]) (rest := []) (b := (w + 3)) (c_X5_removeTo A P g_1 w i (by omega) (WD.rw hW_4)) (RW.ex (WD.rw hW_4)).choose_spec rfl rfl Y_X5_removeTo u_424 N_X5_removeTo ⟨by decide, by decide⟩ ⟨by decide, by decide⟩ (Nat.le_of_ble_eq_true rfl) rfl dX9_halt_13 ?_
  rintro _ _ _ g2 ⟨rfl, rfl, rfl, hR2, hf2⟩
  have hW2 : WD A g2 w cq (hlt1 σ i) := hW_4.row (FrR.a hf2 (by omega) (by omega)) hR2
  show V K 0 0 P A g2 [(0, .ref (A w)), (1, .ref (A (w + 100 + 100 * i)))] 16 [.int (nI ((gR σ).length - ((gR σ).filter (fun t => !(t.2.1 == i))).length))]
  refine g_istore_n (pc := 16) C dX9_halt_16 (by decide) (lv' := [(0, .ref (A w)), (1, .ref (A (w + 100 + 100 * i))), (2, .int (nI ((gR σ).length - ((gR σ).filter (fun t => !(t.2.1 == i))).length)))]) [1, 2, 0] rfl ?_
  refine g_iconst (pc := 17) C dX9_halt_17 (v := nI 0) rfl ?_
  refine g_istore_n (pc := 18) C dX9_halt_18 (by decide) (lv' := [(0, .ref (A w)), (1, .ref (A (w + 100 + 100 * i))), (2, .int (nI ((gR σ).length - ((gR σ).filter (fun t => !(t.2.1 == i))).length))), (3, .int (nI 0))]) [1, 2, 3, 0] rfl ?_
  have lp_19 : ∀ (fuel : Nat) (m : Nat) (hm : m ≤ gK σ) (gl : pM) (hW : WD A gl w cq (hltF (hlt1 σ i) i m)) (hf : FrV g gl w), gK σ - m < fuel → V K 0 0 P A gl [(0, .ref (A w)), (1, .ref (A (w + 100 + 100 * i))), (2, .int (nI ((gR σ).length - ((gR σ).filter (fun t => !(t.2.1 == i))).length))), (3, .int (nI m))] 19 [] := by
    intro fuel
    induction fuel with
    | zero => intro m hm gl hW hf hμ; exact absurd hμ (Nat.not_lt_zero _)
    | succ fuel ih =>
      intro m hm gl hW hf hμ
      have hKm : gK (hltF (hlt1 σ i) i m) = gK σ := hltF_K m
      refine g_iload_n (pc := 19) C dX9_halt_19 3 rfl ?_
      refine g_aload_n (pc := 20) C dX9_halt_20 0 rfl ?_
      refine g_get (pc := 21) C (j := 7) (WD.wb hW).1 rfl rfl (by decide) u_258 dX9_halt_21 ?_
      refine g_icmp_ge (pc := 24) C dX9_halt_24 (tgt := 74) (by decide) (fun c_24 => ?_) (fun c_24 => ?_)
      ·
        have c_24 : (gK (hltF (hlt1 σ i) i m)) ≤ m := (nI_leI (by omega) (by omega)).mp c_24
        refine g_iload_n (pc := 74) C dX9_halt_74 2 rfl ?_
        exact g_iret (pc := 75) C R ⟨rfl, rfl, rfl, by rw [show m = gK σ by omega] at hW; exact hW, hf⟩ (by decide) (by decide) dX9_halt_75
      ·
        have c_24 : ¬ (gK (hltF (hlt1 σ i) i m)) ≤ m := fun h => c_24 ((nI_leI (a := (gK (hltF (hlt1 σ i) i m))) (b := m) (by omega) (by omega)).mpr h)
        have hm2 : m < gK σ := by omega
        refine g_aload_n (pc := 27) C dX9_halt_27 0 rfl ?_
        refine g_iload_n (pc := 28) C dX9_halt_28 3 rfl ?_
        refine g_callV (pc := 29) C (As := [.int (nI m)]) (rest := []) (b := w) (c_X9_nodeAt A P gl w m (by omega) (WD.wb hW)) (WD.wb hW).1 rfl rfl Y_X9_nodeAt u_406 N_X9_nodeAt ⟨by decide, by decide⟩ ⟨by decide, by decide⟩ (Nat.le_of_ble_eq_true rfl) rfl dX9_halt_29 ?_
        rintro _ _ _ _ ⟨rfl, rfl, rfl, rfl⟩
        show V K 0 0 P A gl [(0, .ref (A w)), (1, .ref (A (w + 100 + 100 * i))), (2, .int (nI ((gR σ).length - ((gR σ).filter (fun t => !(t.2.1 == i))).length))), (3, .int (nI m))] 32 [.ref (A (w + 100 + 100 * m))]
        refine g_get (pc := 32) C (j := 1) (WD.nd (i := m) hW (by omega)).1 rfl rfl (by decide) u_135 dX9_halt_32 ?_
        refine g_if_eq (pc := 35) C dX9_halt_35 (tgt := 68) (by decide) (fun c_35 => ?_) (fun c_35 => ?_)
        ·
          refine g_iinc (pc := 68) C dX9_halt_68 (by decide) 3 rfl (v := nI (m + 1)) (nI_i1 _) (lv' := [(0, .ref (A w)), (1, .ref (A (w + 100 + 100 * i))), (2, .int (nI ((gR σ).length - ((gR σ).filter (fun t => !(t.2.1 == i))).length))), (3, .int (nI (m + 1)))]) [1, 2, 3, 0] rfl ?_
          refine g_goto (pc := 71) C dX9_halt_71 (tgt := 19) (by decide) ?_
          exact ih (m + 1) (by omega) gl (by rw [hltF_f (by rw [show lvd (hltF (hlt1 σ i) i m) m = false from b32_yes c_35]; rfl)]; exact hW) hf (by omega)
        ·
          refine g_aload_n (pc := 38) C dX9_halt_38 0 rfl ?_
          refine g_aload_n (pc := 39) C dX9_halt_39 0 rfl ?_
          refine g_iload_n (pc := 40) C dX9_halt_40 3 rfl ?_
          refine g_callV (pc := 41) C (As := [.int (nI m)]) (rest := [.ref (A w)]) (b := w) (c_X9_nodeAt A P gl w m (by omega) (WD.wb hW)) (WD.wb hW).1 rfl rfl Y_X9_nodeAt u_406 N_X9_nodeAt ⟨by decide, by decide⟩ ⟨by decide, by decide⟩ (Nat.le_of_ble_eq_true rfl) rfl dX9_halt_41 ?_
          rintro _ _ _ _ ⟨rfl, rfl, rfl, rfl⟩
          show V K 0 0 P A gl [(0, .ref (A w)), (1, .ref (A (w + 100 + 100 * i))), (2, .int (nI ((gR σ).length - ((gR σ).filter (fun t => !(t.2.1 == i))).length))), (3, .int (nI m))] 44 [.ref (A (w + 100 + 100 * m)), .ref (A w)]
          refine g_aload_n (pc := 44) C dX9_halt_44 1 rfl ?_
          refine g_get (pc := 45) C (j := 0) (WD.nd (i := i) hW (by omega)).1 rfl rfl (by decide) u_132 dX9_halt_45 ?_
          refine g_callV (pc := 48) C (As := [.ref (A (w + 100 + 100 * m)), .int (nI i)]) (rest := []) (b := w) (c_X9_mustLearnOfStop A P gl w m i (by rw [hltF_K]; exact hm2) (by omega) (by rw [hltF_N]; exact ht_w hw m hm2) hW) (WD.wb hW).1 rfl rfl Y_X9_mustLearnOfStop u_432 N_X9_mustLearnOfStop ⟨by decide, by decide⟩ ⟨by decide, by decide⟩ (Nat.le_of_ble_eq_true rfl) rfl dX9_halt_48 ?_
          rintro _ _ _ _ ⟨rfl, rfl, rfl, rfl⟩
          show V K 0 0 P A gl [(0, .ref (A w)), (1, .ref (A (w + 100 + 100 * i))), (2, .int (nI ((gR σ).length - ((gR σ).filter (fun t => !(t.2.1 == i))).length))), (3, .int (nI m))] 51 [.int (b32 (mls (hltF (hlt1 σ i) i m) m i))]
          refine g_if_eq (pc := 51) C dX9_halt_51 (tgt := 68) (by decide) (fun c_51 => ?_) (fun c_51 => ?_)
          ·
            refine g_iinc (pc := 68) C dX9_halt_68 (by decide) 3 rfl (v := nI (m + 1)) (nI_i1 _) (lv' := [(0, .ref (A w)), (1, .ref (A (w + 100 + 100 * i))), (2, .int (nI ((gR σ).length - ((gR σ).filter (fun t => !(t.2.1 == i))).length))), (3, .int (nI (m + 1)))]) [1, 2, 3, 0] rfl ?_
            refine g_goto (pc := 71) C dX9_halt_71 (tgt := 19) (by decide) ?_
            exact ih (m + 1) (by omega) gl (by rw [hltF_f (by rw [b32_yes c_51]; simp)]; exact hW) hf (by omega)
          ·
            refine g_aload_n (pc := 54) C dX9_halt_54 0 rfl ?_
            refine g_aload_n (pc := 55) C dX9_halt_55 1 rfl ?_
            refine g_get (pc := 56) C (j := 0) (WD.nd (i := i) hW (by omega)).1 rfl rfl (by decide) u_132 dX9_halt_56 ?_
            refine g_iload_n (pc := 59) C dX9_halt_59 3 rfl ?_
            refine g_bipush (pc := 60) C dX9_halt_60 (v := nI 12) rfl ?_
            refine g_iconst (pc := 62) C dX9_halt_62 (v := nI 0) rfl ?_
            refine g_iconst (pc := 63) C dX9_halt_63 (v := nI 0) rfl ?_
            refine g_callV (pc := 64) C (As := [.int (nI i), .int (nI m), .int (nI 12), .int (nI 0), .int (nI 0)]) (rest := []) (b := w) (c_X9_send A P gl w i m 12 0 0 (by omega) (by rw [hltF_K]; exact hm2) (Nat.le_refl _) (by decide) (by decide) hW) (WD.wb hW).1 rfl rfl Y_X9_send u_448 N_X9_send ⟨by decide, by decide⟩ ⟨by decide, by decide⟩ (Nat.le_of_ble_eq_true rfl) rfl dX9_halt_64 ?_
            rintro v0 _ _ g3 ⟨rfl, rfl, hf3, hcase⟩
            have hW3 : WD A g3 w cq (snd (hltF (hlt1 σ i) i m) i m 12 0 0 []) := by rcases hcase with ⟨_, _, q⟩ | ⟨_, _, _, _, _, q, _⟩; exact q; exact q
            obtain ⟨vv, hvc, hvv⟩ : ∃ vv : Value, vv.category = 1 ∧ v0 = some vv := by rcases hcase with ⟨_, e, _⟩ | ⟨_, _, _, e, _, _, _⟩; exact ⟨_, rfl, e⟩; exact ⟨_, rfl, e⟩
            subst hvv
            show V K 0 0 P A g3 [(0, .ref (A w)), (1, .ref (A (w + 100 + 100 * i))), (2, .int (nI ((gR σ).length - ((gR σ).filter (fun t => !(t.2.1 == i))).length))), (3, .int (nI m))] 67 [vv]
            refine g_pop (pc := 67) C dX9_halt_67 hvc ?_
            refine g_iinc (pc := 68) C dX9_halt_68 (by decide) 3 rfl (v := nI (m + 1)) (nI_i1 _) (lv' := [(0, .ref (A w)), (1, .ref (A (w + 100 + 100 * i))), (2, .int (nI ((gR σ).length - ((gR σ).filter (fun t => !(t.2.1 == i))).length))), (3, .int (nI (m + 1)))]) [1, 2, 3, 0] rfl ?_
            refine g_goto (pc := 71) C dX9_halt_71 (tgt := 19) (by decide) ?_
            exact ih (m + 1) (by omega) g3 (by rw [hltF_t (b32_no c_35) (b32_no c_51)]; exact hW3) (hf.tr (FrR.v hf3)) (by omega)
  exact lp_19 (_ + 1) 0 (Nat.zero_le _) g2 hW2 (fun k hk => by rw [hf2 k (by omega), hg_1, va_up_ne _ _ (by omega)]) (Nat.lt_succ_self _)
