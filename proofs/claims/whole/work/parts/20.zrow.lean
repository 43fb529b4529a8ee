-- PART 20: the reference's long row, read as a state
theorem zne {Z Z' : Nat → Int32} {i j : Nat} {v x : Int32} (h : Z' = upd Z i v) (hn : j ≠ i) (hx : Z j = x) : Z' j = x := by
  rw [h]
  simp only [upd, if_neg hn]
  exact hx
theorem zeq {Z Z' : Nat → Int32} {i j : Nat} {v : Int32} (h : Z' = upd Z i v) (e : j = i) : Z' j = v := by
  rw [h, e]
  simp [upd]
theorem zix {Z : Nat → Int32} {j k : Nat} {x : Int32} (h : Z k = x) (e : j = k) : Z j = x := e ▸ h
/-- a node's plain cells -/
def NZa (Z : Nat → Int32) (r : Nat) (d : Nd) : Prop := Z r = b32 (nLv d) ∧ Z (48 + r) = onv (nAs d) ∧ Z (64 + r) = nI (nAk d) ∧ Z (80 + r) = nGo d
/-- its active view -/
def NZb (Z : Nat → Int32) (r : Nat) (l : List Nat) (m : Nat) : Prop := l.length ≤ 5 ∧ Z (16 + r) = nI l.length ∧ l.Nodup ∧ ∀ k, k < l.length → Z (96 + 5 * r + k) = nI (l.getD k 0) ∧ Z (176 + 5 * r + k) = b32 (m.testBit (l.getD k 0))
/-- its passive view -/
def NZc (Z : Nat → Int32) (r : Nat) (l : List Nat) : Prop := l.length ≤ 8 ∧ Z (32 + r) = nI l.length ∧ l.Nodup ∧ ∀ k, k < l.length → Z (256 + 8 * r + k) = nI (l.getD k 0)
/-- a tale that is missed -/
def NZm (Z : Nat → Int32) (a : Nat) (m : Mi) : Prop := (miL m).length ≤ 5 ∧ Z (768 + a) = miO m ∧ (∀ p, m = some p → Z (1152 + a) = p.1) ∧ Z (1536 + a) = nI (miL m).length ∧ (miL m).Nodup ∧ ∀ k, k < (miL m).length → Z (1920 + 8 * a + k) = nI ((miL m).getD k 0)
def NZ (Z : Nat → Int32) (r : Nat) (d : Nd) : Prop := NZa Z r d ∧ NZb Z r (nAc d) (nLz d) ∧ NZc Z r (nPa d) ∧ (∀ t, t < 24 → Z (384 + (24 * r + t)) = onv (nHo d t)) ∧ ∀ t, t < 24 → NZm Z (24 * r + t) (nMi d t)
/-- a place where no node is yet -/
def NZ0 (Z : Nat → Int32) (r : Nat) : Prop := Z (16 + r) = 0 ∧ Z (32 + r) = 0 ∧ Z (64 + r) = 0 ∧ Z (80 + r) = 0 ∧ ∀ t, t < 24 → Z (768 + (24 * r + t)) = 0 ∧ Z (1536 + (24 * r + t)) = 0
/-- letter i -/
def LZ (Z : Nat → Int32) (i : Nat) (t : Lt) : Prop := t.2.2.2.2.2.length ≤ 5 ∧ (∀ c, c < 6 → Z (4992 + 11 * i + c) = leK t c) ∧ ∀ k, k < t.2.2.2.2.2.length → Z (4992 + 11 * i + 6 + k) = nI (t.2.2.2.2.2.getD k 0)
def RZ (Z : Nat → Int32) (σ : Sg) : Prop :=
  (∀ r, r < gK σ → NZ Z r (gN σ r)) ∧ (∀ r, gK σ ≤ r → r < 16 → NZ0 Z r) ∧ ((gR σ).length ≤ 500 ∧ ∀ i t, (gR σ)[i]? = some t → LZ Z i t) ∧ (∀ k, k < 13 → Z (10492 + k) = gC σ k) ∧
  (gK σ ≤ 16 ∧ gT σ ≤ 24 ∧ Z 10505 = nI (gK σ) ∧ Z 10506 = nI (gT σ)) ∧ (Z 10507 = nI (gR σ).length ∧ Z 10508 = gS σ) ∧ Z 10509 = gTi σ ∧ Z 10510 = nI (gX σ)
section RZr
variable {Z : Nat → Int32} {σ : Sg} {j r k t c i : Nat}
theorem RZ.k16 (h : RZ Z σ) : gK σ ≤ 16 := h.2.2.2.2.1.1
theorem RZ.t24 (h : RZ Z σ) : gT σ ≤ 24 := h.2.2.2.2.1.2.1
theorem RZ.le (h : RZ Z σ) : (gR σ).length ≤ 500 := h.2.2.1.1
theorem RZ.ac5 (h : RZ Z σ) (hr : r < gK σ) : (nAc (gN σ r)).length ≤ 5 := (h.1 r hr).2.1.1
theorem RZ.pa8 (h : RZ Z σ) (hr : r < gK σ) : (nPa (gN σ r)).length ≤ 8 := (h.1 r hr).2.2.1.1
theorem RZ.ml5 (h : RZ Z σ) (hr : r < gK σ) (ht : t < 24) : (miL (nMi (gN σ r) t)).length ≤ 5 := ((h.1 r hr).2.2.2.2 t ht).1
theorem RZ.acN (h : RZ Z σ) (hr : r < gK σ) : (nAc (gN σ r)).Nodup := (h.1 r hr).2.1.2.2.1
theorem RZ.paN (h : RZ Z σ) (hr : r < gK σ) : (nPa (gN σ r)).Nodup := (h.1 r hr).2.2.1.2.2.1
theorem RZ.mlN (h : RZ Z σ) (hr : r < gK σ) (ht : t < 24) : (miL (nMi (gN σ r) t)).Nodup := ((h.1 r hr).2.2.2.2 t ht).2.2.2.2.1
theorem RZ.rLv (h : RZ Z σ) (e : j = r) (hr : r < gK σ) : Z j = b32 (lvd σ r) := e ▸ (h.1 r hr).1.1
theorem RZ.rAs (h : RZ Z σ) (e : j = 48 + r) (hr : r < gK σ) : Z j = onv (nAs (gN σ r)) := e ▸ (h.1 r hr).1.2.1
theorem RZ.rAk (h : RZ Z σ) (e : j = 64 + r) (hr : r < gK σ) : Z j = nI (nAk (gN σ r)) := e ▸ (h.1 r hr).1.2.2.1
theorem RZ.rGo (h : RZ Z σ) (e : j = 80 + r) (hr : r < gK σ) : Z j = nGo (gN σ r) := e ▸ (h.1 r hr).1.2.2.2
theorem RZ.rAn (h : RZ Z σ) (e : j = 16 + r) (hr : r < gK σ) : Z j = nI (nAc (gN σ r)).length := e ▸ (h.1 r hr).2.1.2.1
theorem RZ.rAc (h : RZ Z σ) (e : j = 96 + 5 * r + k) (hr : r < gK σ) (hk : k < (nAc (gN σ r)).length) : Z j = nI ((nAc (gN σ r)).getD k 0) := e ▸ ((h.1 r hr).2.1.2.2.2 k hk).1
theorem RZ.rLz (h : RZ Z σ) (e : j = 176 + 5 * r + k) (hr : r < gK σ) (hk : k < (nAc (gN σ r)).length) : Z j = b32 ((nLz (gN σ r)).testBit ((nAc (gN σ r)).getD k 0)) := e ▸ ((h.1 r hr).2.1.2.2.2 k hk).2
theorem RZ.rPn (h : RZ Z σ) (e : j = 32 + r) (hr : r < gK σ) : Z j = nI (nPa (gN σ r)).length := e ▸ (h.1 r hr).2.2.1.2.1
theorem RZ.rPa (h : RZ Z σ) (e : j = 256 + 8 * r + k) (hr : r < gK σ) (hk : k < (nPa (gN σ r)).length) : Z j = nI ((nPa (gN σ r)).getD k 0) := e ▸ (h.1 r hr).2.2.1.2.2.2 k hk
theorem RZ.rHo (h : RZ Z σ) (e : j = 384 + (24 * r + t)) (hr : r < gK σ) (ht : t < 24) : Z j = onv (nHo (gN σ r) t) := e ▸ (h.1 r hr).2.2.2.1 t ht
theorem RZ.rMi (h : RZ Z σ) (e : j = 768 + (24 * r + t)) (hr : r < gK σ) (ht : t < 24) : Z j = miO (nMi (gN σ r) t) := e ▸ ((h.1 r hr).2.2.2.2 t ht).2.1
theorem RZ.rHr (h : RZ Z σ) {p : Int32 × List Nat} (e : j = 1152 + (24 * r + t)) (hr : r < gK σ) (ht : t < 24) (hp : nMi (gN σ r) t = some p) : Z j = p.1 := e ▸ ((h.1 r hr).2.2.2.2 t ht).2.2.1 p hp
theorem RZ.rMn (h : RZ Z σ) (e : j = 1536 + (24 * r + t)) (hr : r < gK σ) (ht : t < 24) : Z j = nI (miL (nMi (gN σ r) t)).length := e ▸ ((h.1 r hr).2.2.2.2 t ht).2.2.2.1
theorem RZ.rMt (h : RZ Z σ) (e : j = 1920 + 8 * (24 * r + t) + k) (hr : r < gK σ) (ht : t < 24) (hk : k < (miL (nMi (gN σ r) t)).length) : Z j = nI ((miL (nMi (gN σ r) t)).getD k 0) := e ▸ ((h.1 r hr).2.2.2.2 t ht).2.2.2.2.2 k hk
theorem RZ.rL (h : RZ Z σ) {u : Lt} (c : Nat) (e : j = 4992 + 11 * i + c) (hu : (gR σ)[i]? = some u) (hc : c < 6) : Z j = leK u c := e ▸ (h.2.2.1.2 i u hu).2.1 c hc
theorem RZ.rLl (h : RZ Z σ) {u : Lt} (e : j = 4992 + 11 * i + 6 + k) (hu : (gR σ)[i]? = some u) (hk : k < u.2.2.2.2.2.length) : Z j = nI (u.2.2.2.2.2.getD k 0) := e ▸ (h.2.2.1.2 i u hu).2.2 k hk
theorem RZ.l5 (h : RZ Z σ) {u : Lt} (hu : (gR σ)[i]? = some u) : u.2.2.2.2.2.length ≤ 5 := (h.2.2.1.2 i u hu).1
theorem RZ.rC (h : RZ Z σ) (e : j = 10492 + k) (hk : k < 13) : Z j = gC σ k := e ▸ h.2.2.2.1 k hk
theorem RZ.rK (h : RZ Z σ) (e : j = 10505) : Z j = nI (gK σ) := e ▸ h.2.2.2.2.1.2.2.1
theorem RZ.rT (h : RZ Z σ) (e : j = 10506) : Z j = nI (gT σ) := e ▸ h.2.2.2.2.1.2.2.2
theorem RZ.rRn (h : RZ Z σ) (e : j = 10507) : Z j = nI (gR σ).length := e ▸ h.2.2.2.2.2.1.1
theorem RZ.rS (h : RZ Z σ) (e : j = 10508) : Z j = gS σ := e ▸ h.2.2.2.2.2.1.2
theorem RZ.rTi (h : RZ Z σ) (e : j = 10509) : Z j = gTi σ := e ▸ h.2.2.2.2.2.2.1
theorem RZ.rX (h : RZ Z σ) (e : j = 10510) : Z j = nI (gX σ) := e ▸ h.2.2.2.2.2.2.2
end RZr
section RZc
variable {Z Z' : Nat → Int32} {r : Nat}
theorem NZa.cg {d : Nd} (h : NZa Z r d) (hf : ∀ j, j = r ∨ j = 48 + r ∨ j = 64 + r ∨ j = 80 + r → Z' j = Z j) : NZa Z' r d :=
  ⟨(hf _ (by omega)).trans h.1, (hf _ (by omega)).trans h.2.1, (hf _ (by omega)).trans h.2.2.1, (hf _ (by omega)).trans h.2.2.2⟩
theorem NZb.cg {l : List Nat} {m : Nat} (h : NZb Z r l m) (hf : ∀ j, j = 16 + r ∨ (96 + 5 * r ≤ j ∧ j < 101 + 5 * r) ∨ (176 + 5 * r ≤ j ∧ j < 181 + 5 * r) → Z' j = Z j) : NZb Z' r l m := by
  have h5 := h.1
  exact ⟨h.1, (hf _ (by omega)).trans h.2.1, h.2.2.1, fun k hk => ⟨(hf _ (by omega)).trans (h.2.2.2 k hk).1, (hf _ (by omega)).trans (h.2.2.2 k hk).2⟩⟩
theorem NZc.cg {l : List Nat} (h : NZc Z r l) (hf : ∀ j, j = 32 + r ∨ (256 + 8 * r ≤ j ∧ j < 264 + 8 * r) → Z' j = Z j) : NZc Z' r l := by
  have h5 := h.1
  exact ⟨h.1, (hf _ (by omega)).trans h.2.1, h.2.2.1, fun k hk => (hf _ (by omega)).trans (h.2.2.2 k hk)⟩
theorem NZm.cg {a : Nat} {m : Mi} (h : NZm Z a m) (hf : ∀ j, j = 768 + a ∨ j = 1152 + a ∨ j = 1536 + a ∨ (1920 + 8 * a ≤ j ∧ j < 1928 + 8 * a) → Z' j = Z j) : NZm Z' a m := by
  have h5 := h.1
  exact ⟨h.1, (hf _ (by omega)).trans h.2.1, fun p hp => (hf _ (by omega)).trans (h.2.2.1 p hp), (hf _ (by omega)).trans h.2.2.2.1, h.2.2.2.2.1, fun k hk => (hf _ (by omega)).trans (h.2.2.2.2.2 k hk)⟩
theorem LZ.cg {i : Nat} {t : Lt} (h : LZ Z i t) (hf : ∀ j, 4992 + 11 * i ≤ j ∧ j < 4992 + 11 * i + 11 → Z' j = Z j) : LZ Z' i t := by
  have h5 := h.1
  exact ⟨h.1, fun c hc => (hf _ (by omega)).trans (h.2.1 c hc), fun k hk => (hf _ (by omega)).trans (h.2.2 k hk)⟩
/-- the cells of node r -/
def inN (r j : Nat) : Prop := j = r ∨ j = 16 + r ∨ j = 32 + r ∨ j = 48 + r ∨ j = 64 + r ∨ j = 80 + r ∨ (96 + 5 * r ≤ j ∧ j < 101 + 5 * r) ∨ (176 + 5 * r ≤ j ∧ j < 181 + 5 * r) ∨ (256 + 8 * r ≤ j ∧ j < 264 + 8 * r) ∨ (384 + 24 * r ≤ j ∧ j < 408 + 24 * r) ∨ (768 + 24 * r ≤ j ∧ j < 792 + 24 * r) ∨ (1152 + 24 * r ≤ j ∧ j < 1176 + 24 * r) ∨ (1536 + 24 * r ≤ j ∧ j < 1560 + 24 * r) ∨ (1920 + 192 * r ≤ j ∧ j < 2112 + 192 * r)
theorem NZ.cg {d : Nd} (h : NZ Z r d) (hf : ∀ j, inN r j → Z' j = Z j) : NZ Z' r d := by
  unfold inN at hf
  exact ⟨h.1.cg (fun j hj => hf j (by omega)), h.2.1.cg (fun j hj => hf j (by omega)), h.2.2.1.cg (fun j hj => hf j (by omega)), fun t ht => (hf _ (by omega)).trans (h.2.2.2.1 t ht), fun t ht => (h.2.2.2.2 t ht).cg (fun j hj => hf j (by omega))⟩
theorem NZ0.cg (h : NZ0 Z r) (hf : ∀ j, inN r j → Z' j = Z j) : NZ0 Z' r := by
  unfold inN at hf
  exact ⟨(hf _ (by omega)).trans h.1, (hf _ (by omega)).trans h.2.1, (hf _ (by omega)).trans h.2.2.1, (hf _ (by omega)).trans h.2.2.2.1, fun t ht => ⟨(hf _ (by omega)).trans (h.2.2.2.2 t ht).1, (hf _ (by omega)).trans (h.2.2.2.2 t ht).2⟩⟩
theorem inN_ap {r r2 j : Nat} (hr : r < 16) (hr2 : r2 < 16) (h : r2 ≠ r) (hj : inN r2 j) : ¬ inN r j := by
  unfold inN at *
  omega
theorem inN_lt {r j : Nat} (hr : r < 16) (hj : inN r j) : j < 4992 := by
  unfold inN at hj
  omega
end RZc
section RZu
variable {Z Z' : Nat → Int32} {σ : Sg} {r : Nat}
theorem RZ.nd {d : Nd} (h : RZ Z σ) (hr : r < gK σ) (hf : ∀ j, ¬ inN r j → Z' j = Z j) (hd : NZ Z' r d) : RZ Z' (sNd σ r d) := by
  have hk := h.k16
  have hi : ∀ j, 4992 ≤ j → Z' j = Z j := fun j hj => hf j (fun q => by have := inN_lt (by omega) q; omega)
  obtain ⟨h1, h2, h3, h4, ⟨h5a, h5b, h5, h6⟩, ⟨h7, h8⟩, h9, h10⟩ := h
  refine ⟨fun r2 hr2 => ?_, fun r2 a b => (h2 r2 a b).cg (fun j hj => hf j (inN_ap (by omega) b (show r2 ≠ r from fun e => by subst e; exact absurd hr (Nat.not_lt.mpr a)) hj)), ⟨h3.1, fun i t ht => (h3.2 i t ht).cg (fun j hj => hi j (by omega))⟩, fun k hk => (hi _ (by omega)).trans (h4 k hk), ⟨h5a, h5b, (hi _ (by omega)).trans h5, (hi _ (by omega)).trans h6⟩, ⟨(hi _ (by omega)).trans h7, (hi _ (by omega)).trans h8⟩, (hi _ (by omega)).trans h9, (hi _ (by omega)).trans h10⟩
  by_cases e : r2 = r
  · subst e
    show NZ Z' r2 (va_up (gN σ) r2 d r2)
    rw [va_up_self]
    exact hd
  · show NZ Z' r2 (va_up (gN σ) r d r2)
    rw [va_up_ne _ _ e]
    have hr2 : r2 < gK σ := hr2
    exact (h1 r2 hr2).cg (fun j hj => hf j (inN_ap (by omega) (by omega) e hj))
/-- the letters' part put anew -/
theorem RZ.row {l : List Lt} {sp : Int32} (h : RZ Z σ) (hf : ∀ j, j < 4992 ∨ 10492 ≤ j → j ≠ 10507 → j ≠ 10508 → Z' j = Z j) (hl : l.length ≤ 500) (hL : ∀ i t, l[i]? = some t → LZ Z' i t) (hn : Z' 10507 = nI l.length) (hs : Z' 10508 = sp) : RZ Z' (sS (sR σ l) sp) := by
  obtain ⟨h1, h2, h3, h4, ⟨h5a, h5b, h5, h6⟩, ⟨h7, h8⟩, h9, h10⟩ := h
  refine ⟨fun r2 (hr2 : r2 < gK σ) => (h1 r2 hr2).cg (fun j hj => ?_), fun r2 a b => (h2 r2 a b).cg (fun j hj => ?_), ⟨hl, hL⟩, fun k hk => (hf _ (by omega) (by omega) (by omega)).trans (h4 k hk), ⟨h5a, h5b, (hf _ (by omega) (by omega) (by omega)).trans h5, (hf _ (by omega) (by omega) (by omega)).trans h6⟩, ⟨hn, hs⟩, (hf _ (by omega) (by omega) (by omega)).trans h9, (hf _ (by omega) (by omega) (by omega)).trans h10⟩
  · have := inN_lt (by omega) hj
    exact hf j (by omega) (by omega) (by omega)
  · have := inN_lt b hj
    exact hf j (by omega) (by omega) (by omega)
/-- single cells behind the letters put anew -/
theorem RZ.ct {T X : Nat} {ti : Int32} {c : Nat → Int32} (h : RZ Z σ) (hf : ∀ j, j < 10492 ∨ j = 10505 ∨ j = 10507 ∨ j = 10508 → Z' j = Z j) (hT : T ≤ 24) (e1 : ∀ k, k < 13 → Z' (10492 + k) = c k) (e2 : Z' 10506 = nI T) (e3 : Z' 10509 = ti) (e4 : Z' 10510 = nI X) : RZ Z' (sC (sTi (sX (sT σ T) X) ti) c) := by
  obtain ⟨h1, h2, h3, h4, ⟨h5a, h5b, h5, h6⟩, ⟨h7, h8⟩, h9, h10⟩ := h
  refine ⟨fun r2 (hr2 : r2 < gK σ) => (h1 r2 hr2).cg (fun j hj => ?_), fun r2 a b => (h2 r2 a b).cg (fun j hj => ?_), ⟨h3.1, fun i t ht => (h3.2 i t ht).cg (fun j hj => ?_)⟩, e1, ⟨h5a, hT, (hf _ (by omega)).trans h5, e2⟩, ⟨(hf _ (by omega)).trans h7, (hf _ (by omega)).trans h8⟩, e3, e4⟩
  · have := inN_lt (by omega) hj
    exact hf j (by omega)
  · have := inN_lt b hj
    exact hf j (by omega)
  · have hi : i < (gR σ).length := (List.getElem?_eq_some_iff.mp ht).1
    exact hf j (by omega)
theorem RZ.sX {X : Nat} (h : RZ Z σ) (e : Z' = upd Z 10510 (nI X)) : RZ Z' (sX σ X) :=
  RZ.ct (T := gT σ) (ti := gTi σ) (c := gC σ) h (fun j hj => zne e (by omega) rfl) h.t24 (fun k hk => zne e (by omega) (h.rC rfl hk)) (zne e (by omega) (h.rT rfl)) (zne e (by omega) (h.rTi rfl)) (zeq e rfl)
theorem RZ.sTi {ti : Int32} (h : RZ Z σ) (e : Z' = upd Z 10509 ti) : RZ Z' (sTi σ ti) :=
  RZ.ct (T := gT σ) (X := gX σ) (c := gC σ) h (fun j hj => zne e (by omega) rfl) h.t24 (fun k hk => zne e (by omega) (h.rC rfl hk)) (zne e (by omega) (h.rT rfl)) (zeq e rfl) (zne e (by omega) (h.rX rfl))
theorem RZ.sT {T : Nat} (h : RZ Z σ) (hT : T ≤ 24) (e : Z' = upd Z 10506 (nI T)) : RZ Z' (sT σ T) :=
  RZ.ct (X := gX σ) (ti := gTi σ) (c := gC σ) h (fun j hj => zne e (by omega) rfl) hT (fun k hk => zne e (by omega) (h.rC rfl hk)) (zeq e rfl) (zne e (by omega) (h.rTi rfl)) (zne e (by omega) (h.rX rfl))
theorem RZ.sC {k : Nat} {v : Int32} (h : RZ Z σ) (hk : k < 13) (e : Z' = upd Z (10492 + k) v) : RZ Z' (sC σ (va_up (gC σ) k v)) := by
  refine RZ.ct (T := gT σ) (ti := gTi σ) (X := gX σ) h (fun j hj => zne e (by omega) rfl) h.t24 (fun q hq => ?_) (zne e (by omega) (h.rT rfl)) (zne e (by omega) (h.rTi rfl)) (zne e (by omega) (h.rX rfl))
  by_cases hh : q = k
  · subst hh
    rw [va_up_self]
    exact zeq e rfl
  · rw [va_up_ne _ _ hh]
    exact zne e (by omega) (h.rC rfl hq)
theorem RZ.sS {v : Int32} (h : RZ Z σ) (e : Z' = upd Z 10508 v) : RZ Z' (sS σ v) :=
  RZ.row (l := gR σ) h (fun j hj h1 h2 => zne e h2 rfl) h.le (fun i t ht => (h.2.2.1.2 i t ht).cg (fun j hj => by
    have hi : i < (gR σ).length := (List.getElem?_eq_some_iff.mp ht).1
    have := h.le
    exact zne e (by omega) rfl)) (zne e (by omega) (h.rRn rfl)) (zeq e rfl)
-- a node's pieces
theorem RZ.n (h : RZ Z σ) (hr : r < gK σ) : NZ Z r (gN σ r) := h.1 r hr
theorem RZ.wLv {b : Bool} (h : RZ Z σ) (hr : r < gK σ) (e : Z' = upd Z r (b32 b)) : RZ Z' (sNd σ r (sLv (gN σ r) b)) := by
  have hk := h.k16
  have n := h.n hr
  refine h.nd hr (fun j hj => zne e (fun q => hj (Or.inl q)) rfl) ⟨⟨zeq e rfl, zne e (by omega) n.1.2.1, zne e (by omega) n.1.2.2.1, zne e (by omega) n.1.2.2.2⟩, n.2.1.cg (fun j hj => zne e (by omega) rfl), n.2.2.1.cg (fun j hj => zne e (by omega) rfl), fun t ht => zne e (by omega) (n.2.2.2.1 t ht), fun t ht => (n.2.2.2.2 t ht).cg (fun j hj => zne e (by omega) rfl)⟩
theorem inN_48 {r j : Nat} (h : ¬ inN r j) : j ≠ 48 + r := fun q => h (by unfold inN; omega)
theorem inN_64 {r j : Nat} (h : ¬ inN r j) : j ≠ 64 + r := fun q => h (by unfold inN; omega)
theorem inN_80 {r j : Nat} (h : ¬ inN r j) : j ≠ 80 + r := fun q => h (by unfold inN; omega)
theorem RZ.wAs {o : Option Nat} (h : RZ Z σ) (hr : r < gK σ) (e : Z' = upd Z (48 + r) (onv o)) : RZ Z' (asS σ r o) := by
  have hk := h.k16
  have n := h.n hr
  refine h.nd hr (fun j hj => zne e (inN_48 hj) rfl) ⟨⟨zne e (by omega) n.1.1, zeq e rfl, zne e (by omega) n.1.2.2.1, zne e (by omega) n.1.2.2.2⟩, n.2.1.cg (fun j hj => zne e (by omega) rfl), n.2.2.1.cg (fun j hj => zne e (by omega) rfl), fun t ht => zne e (by omega) (n.2.2.2.1 t ht), fun t ht => (n.2.2.2.2 t ht).cg (fun j hj => zne e (by omega) rfl)⟩
theorem RZ.wAk {m : Nat} (h : RZ Z σ) (hr : r < gK σ) (e : Z' = upd Z (64 + r) (nI m)) : RZ Z' (akS σ r m) := by
  have hk := h.k16
  have n := h.n hr
  refine h.nd hr (fun j hj => zne e (inN_64 hj) rfl) ⟨⟨zne e (by omega) n.1.1, zne e (by omega) n.1.2.1, zeq e rfl, zne e (by omega) n.1.2.2.2⟩, n.2.1.cg (fun j hj => zne e (by omega) rfl), n.2.2.1.cg (fun j hj => zne e (by omega) rfl), fun t ht => zne e (by omega) (n.2.2.2.1 t ht), fun t ht => (n.2.2.2.2 t ht).cg (fun j hj => zne e (by omega) rfl)⟩
theorem RZ.wGo {v : Int32} (h : RZ Z σ) (hr : r < gK σ) (e : Z' = upd Z (80 + r) v) : RZ Z' (sNd σ r (sGo (gN σ r) v)) := by
  have hk := h.k16
  have n := h.n hr
  refine h.nd hr (fun j hj => zne e (inN_80 hj) rfl) ⟨⟨zne e (by omega) n.1.1, zne e (by omega) n.1.2.1, zne e (by omega) n.1.2.2.1, zeq e rfl⟩, n.2.1.cg (fun j hj => zne e (by omega) rfl), n.2.2.1.cg (fun j hj => zne e (by omega) rfl), fun t ht => zne e (by omega) (n.2.2.2.1 t ht), fun t ht => (n.2.2.2.2 t ht).cg (fun j hj => zne e (by omega) rfl)⟩
/-- the active view put anew, lazy bits with it -/
theorem RZ.wAc {l : List Nat} {m : Nat} (h : RZ Z σ) (hr : r < gK σ) (hf : ∀ j, ¬ (j = 16 + r ∨ (96 + 5 * r ≤ j ∧ j < 101 + 5 * r) ∨ (176 + 5 * r ≤ j ∧ j < 181 + 5 * r)) → Z' j = Z j) (hb : NZb Z' r l m) : RZ Z' (sNd σ r (sLz (sAc (gN σ r) l) m)) := by
  have hk := h.k16
  have n := h.n hr
  exact h.nd hr (fun j hj => hf j (fun q => hj (by unfold inN; omega))) ⟨n.1.cg (fun j hj => hf j (by omega)), hb, n.2.2.1.cg (fun j hj => hf j (by omega)), fun t ht => (hf _ (by omega)).trans (n.2.2.2.1 t ht), fun t ht => (n.2.2.2.2 t ht).cg (fun j hj => hf j (by omega))⟩
/-- the passive view put anew -/
theorem RZ.wPa {l : List Nat} (h : RZ Z σ) (hr : r < gK σ) (hf : ∀ j, ¬ (j = 32 + r ∨ (256 + 8 * r ≤ j ∧ j < 264 + 8 * r)) → Z' j = Z j) (hb : NZc Z' r l) : RZ Z' (sNd σ r (sPa (gN σ r) l)) := by
  have hk := h.k16
  have n := h.n hr
  exact h.nd hr (fun j hj => hf j (fun q => hj (by unfold inN; omega))) ⟨n.1.cg (fun j hj => hf j (by omega)), n.2.1.cg (fun j hj => hf j (by omega)), hb, fun t ht => (hf _ (by omega)).trans (n.2.2.2.1 t ht), fun t ht => (n.2.2.2.2 t ht).cg (fun j hj => hf j (by omega))⟩
theorem RZ.wHo {t : Nat} {o : Option Nat} (h : RZ Z σ) (hr : r < gK σ) (ht : t < 24) (e : Z' = upd Z (384 + (24 * r + t)) (onv o)) : RZ Z' (sNd σ r (sHo (gN σ r) (va_up (nHo (gN σ r)) t o))) := by
  have hk := h.k16
  have n := h.n hr
  refine h.nd hr (fun j hj => zne e (fun q => hj (by unfold inN; omega)) rfl) ⟨n.1.cg (fun j hj => zne e (by omega) rfl), n.2.1.cg (fun j hj => zne e (by omega) rfl), n.2.2.1.cg (fun j hj => zne e (by omega) rfl), fun t2 ht2 => ?_, fun t ht => (n.2.2.2.2 t ht).cg (fun j hj => zne e (by omega) rfl)⟩
  show Z' _ = onv (va_up (nHo (gN σ r)) t o t2)
  by_cases q : t2 = t
  · subst q
    rw [va_up_self]
    exact zeq e rfl
  · rw [va_up_ne _ _ q]
    exact zne e (by omega) (n.2.2.2.1 t2 ht2)
/-- what it misses of tale t put anew -/
theorem RZ.wMi {t : Nat} {m : Mi} (h : RZ Z σ) (hr : r < gK σ) (ht : t < 24) (hf : ∀ j, ¬ (j = 768 + (24 * r + t) ∨ j = 1152 + (24 * r + t) ∨ j = 1536 + (24 * r + t) ∨ (1920 + 8 * (24 * r + t) ≤ j ∧ j < 1928 + 8 * (24 * r + t))) → Z' j = Z j) (hm : NZm Z' (24 * r + t) m) : RZ Z' (miS σ r t m) := by
  have hk := h.k16
  have n := h.n hr
  refine h.nd hr (fun j hj => hf j (fun q => hj (by unfold inN; omega))) ⟨n.1.cg (fun j hj => hf j (by omega)), n.2.1.cg (fun j hj => hf j (by omega)), n.2.2.1.cg (fun j hj => hf j (by omega)), fun t ht => (hf _ (by omega)).trans (n.2.2.2.1 t ht), fun t2 ht2 => ?_⟩
  show NZm Z' _ (va_up (nMi (gN σ r)) t m t2)
  by_cases q : t2 = t
  · subst q
    rw [va_up_self]
    exact hm
  · rw [va_up_ne _ _ q]
    exact (n.2.2.2.2 t2 ht2).cg (fun j hj => hf j (by omega))
end RZu
