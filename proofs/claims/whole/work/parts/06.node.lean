-- PART 06: the words for a state's small pieces: lists of node numbers, coins, sizes, letters, what is missed, nodes
/-- nothing changed but the codes from lo up to hi -/
def Fr (g g' : pM) (lo hi : Nat) : Prop := ∀ k, k < lo ∨ hi ≤ k → g' k = g k
theorem Fr.rf {g : pM} {lo hi : Nat} : Fr g g lo hi := fun _ _ => rfl
theorem Fr.tr {g g1 g2 : pM} {lo hi : Nat} (h : Fr g g1 lo hi) (h2 : Fr g1 g2 lo hi) : Fr g g2 lo hi := fun k hk => (h2 k hk).trans (h k hk)
theorem Fr.mo {g g' : pM} {lo hi lo2 hi2 : Nat} (h : Fr g g' lo2 hi2) (h1 : lo ≤ lo2) (h2 : hi2 ≤ hi) : Fr g g' lo hi := fun k hk => h k (by omega)
theorem Fr.up {g : pM} {k lo hi : Nat} {e : pE} (h : lo ≤ k) (h2 : k < hi) : Fr g (va_up g k e) lo hi := fun j hj => va_up_ne _ _ (by omega)
theorem Fr.at {g g' : pM} {lo hi k : Nat} {e : pE} (h : Fr g g' lo hi) (hk : k < lo ∨ hi ≤ k) (he : g k = e) : g' k = e := (h k hk).trans he
def NLN (A : Nat → Nat) (g : pM) (a cap : Nat) (l : List Nat) : Prop := NL A g a cap (l.map nI) ∧ ∀ x ∈ l, x < 16
theorem NLN.o {A : Nat → Nat} {g : pM} {a cap : Nat} {l : List Nat} (h : NLN A g a cap l) : g a = ob 4 [.ref (A (a + 1)), .int (nI l.length)] := by
  have := h.1.get
  rwa [List.length_map] at this
theorem NLN.fr {A : Nat → Nat} {g g' : pM} {a cap lo hi : Nat} {l : List Nat} (h : NLN A g a cap l) (hf : Fr g g' lo hi) (hd : hi ≤ a ∨ a + 2 ≤ lo) : NLN A g' a cap l :=
  ⟨h.1.cong (hf _ (by omega)) (hf _ (by omega)), h.2⟩
theorem NLN.le {A : Nat → Nat} {g : pM} {a cap : Nat} {l : List Nat} (h : NLN A g a cap l) : l.length ≤ cap := by
  have := h.1.1
  rwa [List.length_map] at this
theorem NLN.cap {A : Nat → Nat} {g : pM} {a cap : Nat} {l : List Nat} (h : NLN A g a cap l) : cap < 1000 := h.1.2.1
theorem nI_inj {a b : Nat} (ha : a < 16) (hb : b < 16) : nI a = nI b ↔ a = b := nI_eq (by omega) (by omega)
theorem map_mem {l : List Nat} {q : Nat} (hl : ∀ x ∈ l, x < 16) (hq : q < 16) : nI q ∈ l.map nI ↔ q ∈ l := by
  simp only [List.mem_map]
  constructor
  · rintro ⟨x, hx, e⟩
    rw [nI_inj (hl x hx) hq] at e
    exact e ▸ hx
  · exact fun h => ⟨q, h, rfl⟩
theorem map_erase {l : List Nat} {q : Nat} (hl : ∀ x ∈ l, x < 16) (hq : q < 16) : (l.map nI).erase (nI q) = (l.erase q).map nI := by
  induction l with
  | nil => rfl
  | cons x l ih =>
    have hx := hl x (by simp)
    by_cases h : x = q
    · subst h
      simp
    · have h2 : ¬ nI x = nI q := fun e => h ((nI_inj hx hq).mp e)
      rw [List.map_cons, List.erase_cons_tail (by simpa using h2), List.erase_cons_tail (by simpa using h), List.map_cons, ih (fun y hy => hl y (by simp [hy]))]
theorem map_eraseIdx {l : List Nat} {i : Nat} : (l.map nI).eraseIdx i = (l.eraseIdx i).map nI := by
  induction l generalizing i with
  | nil => rfl
  | cons x l ih =>
    cases i with
    | zero => rfl
    | succ i => simp [ih]
theorem map_nlAt {l : List Nat} {i : Nat} (hi : i < l.length) (hb : l.length < 1000) : nlAt (l.map nI) (nI i) = nI (l.getD i 0) := by
  rw [nlAt_in (x := nI (l.getD i 0)) (by omega)]
  simp [List.getD, hi]
theorem map_eq {l l2 : List Nat} (h : ∀ x ∈ l, x < 16) (h2 : ∀ x ∈ l2, x < 16) : l.map nI = l2.map nI ↔ l = l2 := by
  constructor
  · intro e
    apply List.ext_getElem?
    intro i
    have := congrArg (fun l => l[i]?) e
    simp only [List.getElem?_map] at this
    cases h3 : l[i]? with
    | none =>
      cases h4 : l2[i]? with
      | none => rfl
      | some y => rw [h3, h4] at this; cases this
    | some x =>
      cases h4 : l2[i]? with
      | none => rw [h3, h4] at this; cases this
      | some y =>
        rw [h3, h4] at this
        have e2 := (nI_inj (h x (List.mem_of_getElem? h3)) (h2 y (List.mem_of_getElem? h4))).mp (Option.some.inj this)
        rw [e2]
  · exact fun e => e ▸ rfl
theorem Fr.of2 {g g' : pM} {a : Nat} (h : ∀ k, k ≠ a → k ≠ a + 1 → g' k = g k) : Fr g g' a (a + 2) := fun k hk => h k (by omega) (by omega)
/-- the coins that were told -/
def CO (A : Nat → Nat) (g : pM) (a : Nat) (cs : List Nat) : Prop :=
  cs.length ≤ 64 ∧ (∀ x ∈ cs, x < 2 ^ 31) ∧ g a = ob 0 [.ref (A (a + 1)), .int (nI cs.length)] ∧ ∃ row : Nat → Int32, g (a + 1) = ai 0 64 row ∧ ∀ i, i < cs.length → row i = nI (cs.getD i 0)
theorem CO.fr {A : Nat → Nat} {g g' : pM} {a lo hi : Nat} {cs : List Nat} (h : CO A g a cs) (hf : Fr g g' lo hi) (hd : hi ≤ a ∨ a + 2 ≤ lo) : CO A g' a cs := by
  obtain ⟨h1, h2, h3, row, h4, h5⟩ := h
  exact ⟨h1, h2, hf.at (by omega) h3, row, hf.at (by omega) h4, h5⟩
abbrev Sz : Type := Nat × Nat × Nat × Nat × Nat
def SZ (g : pM) (a : Nat) (s : Sz) : Prop := g a = ob 6 [.int (nI s.1), .int (nI s.2.1), .int (nI s.2.2.1), .int (nI s.2.2.2.1), .int (nI s.2.2.2.2)]
theorem SZ.fr {g g' : pM} {a lo hi : Nat} {s : Sz} (h : SZ g a s) (hf : Fr g g' lo hi) (hd : hi ≤ a ∨ a + 1 ≤ lo) : SZ g' a s := hf.at (by omega) h
/-- a letter: sender, receiver, kind, x, y, its list -/
abbrev Lt : Type := Nat × Nat × Nat × Nat × Nat × List Nat
def LT (A : Nat → Nat) (g : pM) (a : Nat) (t : Lt) : Prop :=
  g a = ob 1 [.int (nI t.1), .int (nI t.2.1), .int (nI t.2.2.1), .int (nI t.2.2.2.1), .int (nI t.2.2.2.2.1), .ref (A (a + 1))] ∧ NLN A g (a + 1) 5 t.2.2.2.2.2
theorem LT.fr {A : Nat → Nat} {g g' : pM} {a lo hi : Nat} {t : Lt} (h : LT A g a t) (hf : Fr g g' lo hi) (hd : hi ≤ a ∨ a + 3 ≤ lo) : LT A g' a t := ⟨hf.at (by omega) h.1, h.2.fr hf (by omega)⟩
/-- what is missed of a tale: none, or its hour and who told of it -/
abbrev Mi : Type := Option (Int32 × List Nat)
def miO (m : Mi) : Int32 := match m with | none => 0 | some _ => 1
def miH (m : Mi) : Int32 := match m with | none => 0 | some q => q.1
def miL (m : Mi) : List Nat := match m with | none => [] | some q => q.2
def MS (A : Nat → Nat) (g : pM) (a : Nat) (m : Mi) : Prop := g a = ob 2 [.int (miO m), .int (miH m), .ref (A (a + 1))] ∧ NLN A g (a + 1) 5 (miL m)
theorem MS.fr {A : Nat → Nat} {g g' : pM} {a lo hi : Nat} {m : Mi} (h : MS A g a m) (hf : Fr g g' lo hi) (hd : hi ≤ a ∨ a + 3 ≤ lo) : MS A g' a m := ⟨hf.at (by omega) h.1, h.2.fr hf (by omega)⟩
/-- a node: live, active, passive, the lazy ones as bits, the one asked, those that refused as bits, letters that came, hops, what is missed -/
abbrev Nd : Type := Bool × List Nat × List Nat × Nat × Option Nat × Nat × Int32 × (Nat → Option Nat) × (Nat → Mi)
abbrev nLv (d : Nd) : Bool := d.1
abbrev nAc (d : Nd) : List Nat := d.2.1
abbrev nPa (d : Nd) : List Nat := d.2.2.1
abbrev nLz (d : Nd) : Nat := d.2.2.2.1
abbrev nAs (d : Nd) : Option Nat := d.2.2.2.2.1
abbrev nAk (d : Nd) : Nat := d.2.2.2.2.2.1
abbrev nGo (d : Nd) : Int32 := d.2.2.2.2.2.2.1
abbrev nHo (d : Nd) : Nat → Option Nat := d.2.2.2.2.2.2.2.1
abbrev nMi (d : Nd) : Nat → Mi := d.2.2.2.2.2.2.2.2
abbrev sLv (d : Nd) (v : Bool) : Nd := (v, d.2)
abbrev sAc (d : Nd) (v : List Nat) : Nd := (d.1, v, d.2.2)
abbrev sPa (d : Nd) (v : List Nat) : Nd := (d.1, d.2.1, v, d.2.2.2)
abbrev sLz (d : Nd) (v : Nat) : Nd := (d.1, d.2.1, d.2.2.1, v, d.2.2.2.2)
abbrev sAs (d : Nd) (v : Option Nat) : Nd := (d.1, d.2.1, d.2.2.1, d.2.2.2.1, v, d.2.2.2.2.2)
abbrev sAk (d : Nd) (v : Nat) : Nd := (d.1, d.2.1, d.2.2.1, d.2.2.2.1, d.2.2.2.2.1, v, d.2.2.2.2.2.2)
abbrev sGo (d : Nd) (v : Int32) : Nd := (d.1, d.2.1, d.2.2.1, d.2.2.2.1, d.2.2.2.2.1, d.2.2.2.2.2.1, v, d.2.2.2.2.2.2.2)
abbrev sHo (d : Nd) (v : Nat → Option Nat) : Nd := (d.1, d.2.1, d.2.2.1, d.2.2.2.1, d.2.2.2.2.1, d.2.2.2.2.2.1, d.2.2.2.2.2.2.1, v, d.2.2.2.2.2.2.2.2)
abbrev sMi (d : Nd) (v : Nat → Mi) : Nd := (d.1, d.2.1, d.2.2.1, d.2.2.2.1, d.2.2.2.2.1, d.2.2.2.2.2.1, d.2.2.2.2.2.2.1, d.2.2.2.2.2.2.2.1, v)
def onv (o : Option Nat) : Int32 := match o with | none => -6 | some q => nI q
def mrow (A : Nat → Nat) (a : Nat) : Nat → Option Nat := fun t => if t < 24 then some (A (a + 10 + 3 * t)) else none
abbrev ndOb (A : Nat → Nat) (a i : Nat) (d : Nd) : pE := ob 3 [.int (nI i), .int (b32 (nLv d)), .ref (A (a + 1)), .ref (A (a + 3)), .int (nI (nLz d)), .int (onv (nAs d)), .int (nI (nAk d)), .int (nGo d), .ref (A (a + 5)), .ref (A (a + 6))]
def HO (g : pM) (a : Nat) (f : Nat → Option Nat) : Prop := ∃ row : Nat → Int32, g a = ai 0 24 row ∧ ∀ t, t < 24 → row t = onv (f t)
theorem HO.fr {g g' : pM} {a lo hi : Nat} {f : Nat → Option Nat} (h : HO g a f) (hf : Fr g g' lo hi) (hd : hi ≤ a ∨ a + 1 ≤ lo) : HO g' a f := by
  obtain ⟨row, h1, h2⟩ := h
  exact ⟨row, hf.at (by omega) h1, h2⟩
def ND (A : Nat → Nat) (g : pM) (a i : Nat) (d : Nd) : Prop :=
  g a = ndOb A a i d ∧ NLN A g (a + 1) 5 (nAc d) ∧ NLN A g (a + 3) 8 (nPa d) ∧ HO g (a + 5) (nHo d) ∧ g (a + 6) = aq 3 24 (mrow A a) ∧ ∀ t, t < 24 → MS A g (a + 10 + 3 * t) (nMi d t)
theorem ND.fr {A : Nat → Nat} {g g' : pM} {a i lo hi : Nat} {d : Nd} (h : ND A g a i d) (hf : Fr g g' lo hi) (hd : hi ≤ a ∨ a + 100 ≤ lo) : ND A g' a i d :=
  ⟨hf.at (by omega) h.1, h.2.1.fr hf (by omega), h.2.2.1.fr hf (by omega), h.2.2.2.1.fr hf (by omega), hf.at (by omega) h.2.2.2.2.1, fun t ht => (h.2.2.2.2.2 t ht).fr hf (by omega)⟩
/-- the numbers in a node are small -/
def ndW (d : Nd) : Prop := nLz d < 65536 ∧ nAk d < 65536 ∧ (∀ q, nAs d = some q → q < 16) ∧ ∀ t h, nHo d t = some h → h < 2 ^ 31
-- a piece of a node is put anew
theorem ND.put {A : Nat → Nat} {g : pM} {a i : Nat} {d d' : Nd} {g' : pM} (h : ND A g a i d) (hg : g' = va_up g a (ndOb A a i d')) (h1 : nAc d' = nAc d) (h2 : nPa d' = nPa d) (h3 : nHo d' = nHo d) (h4 : nMi d' = nMi d) : ND A g' a i d' := by
  have hf : Fr g g' a (a + 1) := by rw [hg]; exact Fr.up (by omega) (by omega)
  refine ⟨by rw [hg]; exact va_up_self _ _ _, ?_, ?_, ?_, hf.at (by omega) h.2.2.2.2.1, fun t ht => ?_⟩
  · rw [h1]; exact h.2.1.fr hf (by omega)
  · rw [h2]; exact h.2.2.1.fr hf (by omega)
  · rw [h3]; exact h.2.2.2.1.fr hf (by omega)
  · rw [h4]; exact (h.2.2.2.2.2 t ht).fr hf (by omega)
theorem ND.ac {A : Nat → Nat} {g g' : pM} {a i : Nat} {d : Nd} {l : List Nat} (h : ND A g a i d) (hf : Fr g g' (a + 1) (a + 3)) (hl : NLN A g' (a + 1) 5 l) : ND A g' a i (sAc d l) :=
  ⟨hf.at (by omega) h.1, hl, h.2.2.1.fr hf (by omega), h.2.2.2.1.fr hf (by omega), hf.at (by omega) h.2.2.2.2.1, fun t ht => (h.2.2.2.2.2 t ht).fr hf (by omega)⟩
theorem ND.pa {A : Nat → Nat} {g g' : pM} {a i : Nat} {d : Nd} {l : List Nat} (h : ND A g a i d) (hf : Fr g g' (a + 3) (a + 5)) (hl : NLN A g' (a + 3) 8 l) : ND A g' a i (sPa d l) :=
  ⟨hf.at (by omega) h.1, h.2.1.fr hf (by omega), hl, h.2.2.2.1.fr hf (by omega), hf.at (by omega) h.2.2.2.2.1, fun t ht => (h.2.2.2.2.2 t ht).fr hf (by omega)⟩
theorem ND.ho {A : Nat → Nat} {g g' : pM} {a i : Nat} {d : Nd} {f : Nat → Option Nat} (h : ND A g a i d) (hf : Fr g g' (a + 5) (a + 6)) (hl : HO g' (a + 5) f) : ND A g' a i (sHo d f) :=
  ⟨hf.at (by omega) h.1, h.2.1.fr hf (by omega), h.2.2.1.fr hf (by omega), hl, hf.at (by omega) h.2.2.2.2.1, fun t ht => (h.2.2.2.2.2 t ht).fr hf (by omega)⟩
theorem ND.mi {A : Nat → Nat} {g g' : pM} {a i t0 : Nat} {d : Nd} {m : Mi} (h : ND A g a i d) (ht0 : t0 < 24) (hf : Fr g g' (a + 10 + 3 * t0) (a + 10 + 3 * t0 + 3)) (hl : MS A g' (a + 10 + 3 * t0) m) : ND A g' a i (sMi d (va_up (nMi d) t0 m)) := by
  refine ⟨hf.at (by omega) h.1, h.2.1.fr hf (by omega), h.2.2.1.fr hf (by omega), h.2.2.2.1.fr hf (by omega), hf.at (by omega) h.2.2.2.2.1, fun t ht => ?_⟩
  by_cases e : t = t0
  · subst e
    show MS A g' _ (va_up (nMi d) t m t)
    rw [va_up_self]
    exact hl
  · show MS A g' _ (va_up (nMi d) t0 m t)
    rw [va_up_ne _ _ e]
    exact (h.2.2.2.2.2 t ht).fr hf (by omega)
theorem ND.aco {A : Nat → Nat} {g : pM} {a i : Nat} {d : Nd} (h : ND A g a i d) : g (a + 1) = ob 4 [.ref (A (a + 1 + 1)), .int (nI (nAc d).length)] := h.2.1.o
theorem ND.pao {A : Nat → Nat} {g : pM} {a i : Nat} {d : Nd} (h : ND A g a i d) : g (a + 3) = ob 4 [.ref (A (a + 3 + 1)), .int (nI (nPa d).length)] := h.2.2.1.o
theorem mrow_at {A : Nat → Nat} {a t : Nat} (h : t < 24) : mrow A a t = some (A (a + 10 + 3 * t)) := by simp [mrow, h]
-- bits (fa_and, fa_or, fa_bit: begun from the kit's texts for pasting)
theorem fa_and (a b : Nat) : nI a &&& nI b = nI (a &&& b) := by
  apply Int32.toBitVec_inj.1
  show BitVec.ofNat 32 a &&& BitVec.ofNat 32 b = BitVec.ofNat 32 (a &&& b)
  apply BitVec.eq_of_getLsbD_eq
  intro i hi
  simp [hi]
theorem fa_or (a b : Nat) : nI a ||| nI b = nI (a ||| b) := by
  apply Int32.toBitVec_inj.1
  show BitVec.ofNat 32 a ||| BitVec.ofNat 32 b = BitVec.ofNat 32 (a ||| b)
  apply BitVec.eq_of_getLsbD_eq
  intro i hi
  simp [hi]
theorem fa_bit {n j : Nat} (hj : j < 31) : nI n &&& nI (2 ^ j) = 0 ↔ n.testBit j = false := by
  have h2 : (2 : Nat) ^ j < 2 ^ 31 := Nat.pow_lt_pow_right (by decide) hj
  have hle : n &&& 2 ^ j ≤ 2 ^ j := Nat.and_le_right
  have e : n &&& 2 ^ j = 0 ↔ n.testBit j = false := by
    constructor
    · intro h
      have h1 : (n &&& 2 ^ j).testBit j = false := by rw [h]; simp
      rw [Nat.testBit_and] at h1
      first | simpa using h1 | simpa [Nat.testBit_two_pow_self] using h1 | simpa [Nat.testBit_two_pow] using h1
    · intro h
      apply Nat.eq_of_testBit_eq
      intro i
      rw [Nat.testBit_and]
      by_cases hi : j = i
      · subst hi; simp [h]
      · first | (simp [Nat.testBit_two_pow, hi]; done) | (simp [Nat.testBit_two_pow_of_ne hi]; done)
  rw [fa_and]
  constructor
  · intro h
    apply e.mp
    rcases Nat.eq_zero_or_pos (n &&& 2 ^ j) with z | z
    · exact z
    · exact absurd h (nI_ne0 z (Nat.lt_of_le_of_lt hle h2))
  · intro h
    rw [e.mpr h]; exact nI_0
theorem bit_nI (m : Nat) (q : Nat) (hm : m < 65536) (hq : q < 16) : (nI m &&& nI (2 ^ q)) = 0 ↔ m.testBit q = false := fa_bit (by omega)
theorem shl_nI {q : Nat} (hq : q < 16) : nI 1 <<< (nI q &&& 31) = nI (2 ^ q) := by
  have h : ∀ q : Fin 16, nI 1 <<< (nI q.val &&& 31) = nI (2 ^ q.val) := by decide +kernel
  exact h ⟨q, hq⟩
/-- a bit out -/
def bo (m q : Nat) : Nat := m &&& (65535 ^^^ 2 ^ q)
theorem not_nI {q : Nat} (hq : q < 16) : nI (2 ^ q) ^^^ (-1) = nI (4294967295 ^^^ 2 ^ q) := by
  have h : ∀ q : Fin 16, nI (2 ^ q.val) ^^^ (-1) = nI (4294967295 ^^^ 2 ^ q.val) := by decide +kernel
  exact h ⟨q, hq⟩
theorem bo_nI {m q : Nat} (hm : m < 65536) (hq : q < 16) : nI m &&& (nI (2 ^ q) ^^^ (-1)) = nI (bo m q) := by
  rw [not_nI hq, fa_and]
  congr 1
  apply Nat.eq_of_testBit_eq
  intro i
  simp only [bo, Nat.testBit_and, Nat.testBit_xor]
  by_cases h : i < 16
  · have e1 : Nat.testBit 4294967295 i = true := by
      have : ∀ i : Fin 16, Nat.testBit 4294967295 i.val = true := by decide +kernel
      exact this ⟨i, h⟩
    have e2 : Nat.testBit 65535 i = true := by
      have : ∀ i : Fin 16, Nat.testBit 65535 i.val = true := by decide +kernel
      exact this ⟨i, h⟩
    rw [e1, e2]
  · have : m.testBit i = false := Nat.testBit_lt_two_pow (Nat.lt_of_lt_of_le hm (show 65536 ≤ 2 ^ i from Nat.le_trans (show 65536 ≤ 2 ^ 16 from Nat.le_refl _) (Nat.pow_le_pow_right (by omega) (by omega))))
    simp [this]
theorem or_nI (m q : Nat) : nI m ||| nI (2 ^ q) = nI (m ||| 2 ^ q) := fa_or m (2 ^ q)
theorem onv_none {o : Option Nat} (h : ∀ q, o = some q → q < 2 ^ 31) : onv o = -6 ↔ o = none := by
  cases o with
  | none => simp [onv]
  | some q =>
    simp only [onv, reduceCtorEq, iff_false]
    intro e
    have := nI_pos (h q rfl)
    rw [e] at this
    exact this (by decide)
theorem b32_z (b : Bool) : b32 b = 0 ∨ b32 b = 1 := by cases b <;> simp [b32]
theorem b32_n (b : Bool) : narrow .boolean (.int (b32 b)) = .int (b32 b) := by cases b <;> rfl
theorem b32_f (b : Bool) : fits .boolean (.int (b32 b)) = true := by cases b <;> rfl
theorem b32_0 (b : Bool) : b32 b = 0 ↔ b = false := by cases b <;> simp [b32]
theorem miO_n (m : Mi) : narrow .boolean (.int (miO m)) = .int (miO m) := by
  cases m
  · exact b32_n false
  · exact b32_n true
theorem miO_f (m : Mi) : fits .boolean (.int (miO m)) = true := by
  cases m
  · exact b32_f false
  · exact b32_f true
theorem px_mono {y : MethodName} {cc : ByteArray} {nL : Nat} {ret : Option FieldType} {rm : Room} {av : List Value} {P : List Nat} {A : Nat → Nat} {g : pM} {post post' : pP} (h : PX y cc nL ret rm av P A g post) (hp : ∀ v P' A' g', post v P' A' g' → post' v P' A' g') : PX y cc nL ret rm av P A g post' := by
  intro l D sz
  refine MetFree.mono (h l D sz) (fun _ _ h => h) (fun _ _ _ _ _ h => h) (fun a s o s' _ hq => ?_)
  obtain ⟨⟨v, P1, A1, g1, e1, e2, e3, e4, e5, e6⟩, hL⟩ := hq
  exact ⟨⟨v, P1, A1, g1, e1, hp _ _ _ _ e2, e3, e4, e5, e6⟩, hL⟩
theorem pm_mono {y : MethodName} {cc : ByteArray} {nL : Nat} {ret : Option FieldType} {rm : Room} {av : List Value} {P : List Nat} {A : Nat → Nat} {g : pM} {post post' : Option Value → pM → Prop} (h : PM y cc nL ret rm av P A g post) (hp : ∀ v g', post v g' → post' v g') : PM y cc nL ret rm av P A g post' :=
  px_mono h (fun _ _ _ _ q => ⟨q.1, q.2.1, hp _ _ q.2.2⟩)
-- NodeList's contracts in words of node numbers
section NN
variable (A : Nat → Nat) (P : List Nat) (g : pM) (a : Nat) {cap : Nat} {l : List Nat}
theorem n_X4_at (i : Nat) (hi : i < l.length) (h : NLN A g a cap l) : PM yX4_at cX4_at 2 (Option.some Jvm.ClassFile.FieldType.int) rm_X4_at [.ref (A a), .int (nI i)] P A g (fun v g' => v = some (.int (nI (l.getD i 0))) ∧ g = g') :=
  pm_mono (c_X4_at A P g a (nI i) h.1) (fun v g' q => ⟨by rw [q.1, map_nlAt hi (by have := h.le; have := h.cap; omega)], q.2⟩)
theorem n_X4_has (q : Nat) (hq : q < 16) (h : NLN A g a cap l) : PM yX4_has cX4_has 2 (Option.some Jvm.ClassFile.FieldType.boolean) rm_X4_has [.ref (A a), .int (nI q)] P A g (fun v g' => v = some (.int (b32 (decide (q ∈ l)))) ∧ g = g') :=
  pm_mono (c_X4_has A P g a (nI q) h.1) (fun v g' p => ⟨by rw [p.1]; simp only [map_mem h.2 hq], p.2⟩)
theorem n_X4_put (q : Nat) (hq : q < 16) (h : NLN A g a cap l) (hc : l.length < cap) : PM yX4_put cX4_put 2 none rm_X4_put [.ref (A a), .int (nI q)] P A g (fun v g' => v = none ∧ NLN A g' a cap (l ++ [q]) ∧ Fr g g' a (a + 2)) :=
  pm_mono (c_X4_put A P g a (nI q) h.1) (fun v g' p => ⟨p.1, ⟨by have := p.2.1; rw [List.length_map, if_pos hc] at this; simpa using this, fun x hx => by
    rcases List.mem_append.mp hx with hx | hx
    · exact h.2 x hx
    · simp at hx; omega⟩, Fr.of2 p.2.2⟩)
theorem n_X4_put' (q : Nat) (hq : q < 16) (h : NLN A g a cap l) (hc : ¬ l.length < cap) : PM yX4_put cX4_put 2 none rm_X4_put [.ref (A a), .int (nI q)] P A g (fun v g' => v = none ∧ NLN A g' a cap l ∧ Fr g g' a (a + 2)) :=
  pm_mono (c_X4_put A P g a (nI q) h.1) (fun v g' p => ⟨p.1, ⟨by have := p.2.1; rw [List.length_map, if_neg hc] at this; exact this, h.2⟩, Fr.of2 p.2.2⟩)
theorem n_X4_removeAt (i : Nat) (hi : i < 2 ^ 31) (h : NLN A g a cap l) : PM yX4_removeAt cX4_removeAt 3 none rm_X4_removeAt [.ref (A a), .int (nI i)] P A g (fun v g' => v = none ∧ NLN A g' a cap (l.eraseIdx i) ∧ Fr g g' a (a + 2)) :=
  pm_mono (c_X4_removeAt A P g a (nI i) h.1) (fun v g' p => ⟨p.1, ⟨by have := p.2.1; rw [if_neg (nI_pos hi), nI_clamp hi, map_eraseIdx] at this; exact this, fun x hx => h.2 x (List.mem_of_mem_eraseIdx hx)⟩, Fr.of2 p.2.2⟩)
theorem n_X4_remove (q : Nat) (hq : q < 16) (h : NLN A g a cap l) : PM yX4_remove cX4_remove 2 none rm_X4_remove [.ref (A a), .int (nI q)] P A g (fun v g' => v = none ∧ NLN A g' a cap (l.erase q) ∧ Fr g g' a (a + 2)) :=
  pm_mono (c_X4_remove A P g a (nI q) h.1) (fun v g' p => ⟨p.1, ⟨by rw [← map_erase h.2 hq]; exact p.2.1, fun x hx => h.2 x (List.mem_of_mem_erase hx)⟩, Fr.of2 p.2.2⟩)
theorem n_X4_clear (h : NLN A g a cap l) : PM yX4_clear cX4_clear 1 none rm_X4_clear [.ref (A a)] P A g (fun v g' => v = none ∧ NLN A g' a cap [] ∧ Fr g g' a (a + 2)) :=
  pm_mono (c_X4_clear A P g a h.1) (fun v g' p => ⟨p.1, ⟨p.2.1, fun x hx => by cases hx⟩, Fr.of2 p.2.2⟩)
theorem n_X4_copyFrom (o : Nat) {l2 : List Nat} (hx : o + 1 < a ∨ a + 1 < o) (h : NLN A g a cap l) (h2 : NLN A g o cap l2) : PM yX4_copyFrom cX4_copyFrom 3 none rm_X4_copyFrom [.ref (A a), .ref (A o)] P A g (fun v g' => v = none ∧ NLN A g' a cap l2 ∧ Fr g g' a (a + 2)) :=
  pm_mono (c_X4_copyFrom A P g a o hx h.1 h2.1) (fun v g' p => ⟨p.1, ⟨by have := p.2.1; rw [List.take_of_length_le h2.1.1] at this; exact this, h2.2⟩, Fr.of2 p.2.2⟩)
theorem n_X4_copyFrom' (o : Nat) {cap2 : Nat} {l2 : List Nat} (hx : o + 1 < a ∨ a + 1 < o) (h : NLN A g a cap l) (h2 : NLN A g o cap2 l2) (hc : l2.length ≤ cap) : PM yX4_copyFrom cX4_copyFrom 3 none rm_X4_copyFrom [.ref (A a), .ref (A o)] P A g (fun v g' => v = none ∧ NLN A g' a cap l2 ∧ Fr g g' a (a + 2)) :=
  pm_mono (c_X4_copyFrom A P g a o hx h.1 h2.1) (fun v g' p => ⟨p.1, ⟨by have := p.2.1; rw [List.take_of_length_le (by rw [List.length_map]; exact hc)] at this; exact this, h2.2⟩, Fr.of2 p.2.2⟩)
theorem n_X4_isSameAs (o : Nat) {cap2 : Nat} {l2 : List Nat} (h : NLN A g a cap l) (h2 : NLN A g o cap2 l2) : PM yX4_isSameAs cX4_isSameAs 3 (Option.some Jvm.ClassFile.FieldType.boolean) rm_X4_isSameAs [.ref (A a), .ref (A o)] P A g (fun v g' => v = some (.int (b32 (decide (l = l2)))) ∧ g = g') :=
  pm_mono (c_X4_isSameAs A P g a o h.1 h2.1) (fun v g' p => ⟨by rw [p.1]; simp only [map_eq h.2 h2.2], p.2⟩)
end NN
/-- how many below n -/
def ct (p : Nat → Bool) : Nat → Nat
  | 0 => 0
  | n + 1 => ct p n + (if p n then 1 else 0)
theorem ct_le (p : Nat → Bool) : ∀ n, ct p n ≤ n
  | 0 => Nat.le_refl 0
  | n + 1 => by have := ct_le p n; simp only [ct]; split <;> omega
def muq (q : Nat) (m : Mi) : Mi := match m with | none => none | some p => some (p.1, p.2.erase q)
/-- a node without one more link -/
def uln (d : Nd) (q : Nat) : Nd := (d.1, (nAc d).erase q, nPa d, bo (nLz d) q, nAs d, nAk d, nGo d, nHo d, fun t => muq q (nMi d t))
def nd0 : Nd := (true, [], [], 0, none, 0, 0, fun _ => none, fun _ => none)
/-- the functions f below t, else g -/
def mix2 {α : Type} (f g : Nat → α) (t : Nat) : Nat → α := fun j => if j < t then f j else g j
theorem mix2_0 {α : Type} (f g : Nat → α) : mix2 f g 0 = g := by funext j; simp [mix2]
theorem mix2_s {α : Type} (f g : Nat → α) (t : Nat) : va_up (mix2 f g t) t (f t) = mix2 f g (t + 1) := by
  funext j
  by_cases h : j = t
  · subst h; rw [va_up_self]; simp [mix2]
  · rw [va_up_ne _ _ h]
    simp only [mix2]
    by_cases h2 : j < t
    · rw [if_pos h2, if_pos (by omega)]
    · rw [if_neg h2, if_neg (by omega)]
theorem mix2_e {α : Type} (f g : Nat → α) {t j : Nat} (h : j < t) : mix2 f g t j = f j := by simp [mix2, h]
theorem mix2_g {α : Type} (f g : Nat → α) {t : Nat} : mix2 f g t t = g t := by simp [mix2]
/-- below 24 alone a node's functions count -/
theorem ND.ext {A : Nat → Nat} {g : pM} {a i : Nat} {d : Nd} {f : Nat → Option Nat} {m : Nat → Mi} (h : ND A g a i d) (hf : ∀ t, t < 24 → nHo d t = f t) (hm : ∀ t, t < 24 → nMi d t = m t) : ND A g a i (sMi (sHo d f) m) := by
  obtain ⟨h1, h2, h3, ⟨row, h4, h5⟩, h6, h7⟩ := h
  exact ⟨h1, h2, h3, ⟨row, h4, fun t ht => by rw [h5 t ht, hf t ht]⟩, h6, fun t ht => by have := h7 t ht; rw [hm t ht] at this; exact this⟩
theorem HO.up {g' : pM} {a t : Nat} {f : Nat → Option Nat} {row : Nat → Int32} (o : Option Nat) (hr : ∀ j, j < 24 → row j = onv (f j)) (hg : g' a = ai 0 24 (upd row t (onv o))) : HO g' a (va_up f t o) := by
  refine ⟨_, hg, fun j hj => ?_⟩
  by_cases h : j = t
  · subst h
    rw [va_up_self]
    simp [upd]
  · rw [va_up_ne _ _ h]
    simp only [upd, if_neg h]
    exact hr j hj
theorem co_push {l : List Nat} {row : Nat → Int32} {v : Nat} (hrow : ∀ i, i < l.length → row i = nI (l.getD i 0)) : ∀ i, i < (l ++ [v]).length → upd row l.length (nI v) i = nI ((l ++ [v]).getD i 0) := by
  intro i hi
  simp only [List.length_append, List.length_singleton] at hi
  by_cases h : i = l.length
  · subst h
    simp [upd]
  · have h2 : i < l.length := by omega
    simp only [upd, if_neg h]
    rw [hrow i h2]
    simp [List.getD, List.getElem?_append_left h2]
theorem ms_unl {A : Nat → Nat} {g g2 : pM} {b q : Nat} {m : Mi} (h : MS A g b m) (hf : Fr g g2 (b + 1) (b + 1 + 2)) (hl : NLN A g2 (b + 1) 5 ((miL m).erase q)) : MS A g2 b (muq q m) := by
  cases m with
  | none => exact ⟨hf.at (by omega) h.1, hl⟩
  | some p => exact ⟨hf.at (by omega) h.1, hl⟩
theorem nd_unl {A : Nat → Nat} {g : pM} {a i t q : Nat} {d : Nd} (ht : t = 24) (h : ND A g a i (sMi (uln d q) (mix2 (fun t => muq q (nMi d t)) (nMi d) t))) : ND A g a i (uln d q) := by
  subst ht
  exact h.ext (f := nHo d) (m := fun t => muq q (nMi d t)) (fun _ _ => rfl) (fun t ht => mix2_e (fun t => muq q (nMi d t)) (nMi d) ht)
theorem nd_beg {A : Nat → Nat} {g : pM} {a i t : Nat} {d : Nd} (ht : t = 24) (h : ND A g a i (sMi (sHo nd0 (mix2 (fun _ => none) (nHo d) t)) (mix2 (fun _ => none) (nMi d) t))) : ND A g a i nd0 := by
  subst ht
  exact h.ext (f := fun _ => none) (m := fun _ => none) (fun t ht => mix2_e (fun _ => none) (nHo d) ht) (fun t ht => mix2_e (fun _ => none) (nMi d) ht)
theorem nd_cop {A : Nat → Nat} {g : pM} {a i t : Nat} {d d2 : Nd} (ht : t = 24) (h : ND A g a i (sMi (sHo (d2.1, nAc d2, nPa d2, nLz d2, nAs d2, nAk d2, nGo d2, nHo d, nMi d) (mix2 (nHo d2) (nHo d) t)) (mix2 (nMi d2) (nMi d) t))) : ND A g a i d2 := by
  subst ht
  exact h.ext (f := nHo d2) (m := nMi d2) (fun t ht => mix2_e (nHo d2) (nHo d) ht) (fun t ht => mix2_e (nMi d2) (nMi d) ht)
/-- two nodes that look alike: views in order, eager or lazy, what they heard -/
def ndSame (d d2 : Nd) : Bool := decide (nAc d = nAc d2 ∧ nPa d = nPa d2 ∧ nLz d = nLz d2 ∧ ∀ t : Fin 24, nHo d t.val = nHo d2 t.val)
theorem ndSame_ac {d d2 : Nd} (h : ¬ nAc d = nAc d2) : ndSame d d2 = false := decide_eq_false (fun e => h e.1)
theorem ndSame_pa {d d2 : Nd} (h : ¬ nPa d = nPa d2) : ndSame d d2 = false := decide_eq_false (fun e => h e.2.1)
theorem ndSame_lz {d d2 : Nd} (h : ¬ nLz d = nLz d2) : ndSame d d2 = false := decide_eq_false (fun e => h e.2.2.1)
theorem ndSame_ho {d d2 : Nd} {t : Nat} (ht : t < 24) (h : ¬ nHo d t = nHo d2 t) : ndSame d d2 = false := decide_eq_false (fun e => h (e.2.2.2 ⟨t, ht⟩))
theorem ndSame_all {d d2 : Nd} (h1 : nAc d = nAc d2) (h2 : nPa d = nPa d2) (h3 : nLz d = nLz d2) (h4 : ∀ t, t < 24 → nHo d t = nHo d2 t) : ndSame d d2 = true := decide_eq_true ⟨h1, h2, h3, fun t => h4 t.val t.isLt⟩
theorem onv_inj {o o2 : Option Nat} (h : ∀ q, o = some q → q < 2 ^ 31) (h2 : ∀ q, o2 = some q → q < 2 ^ 31) (e : onv o = onv o2) : o = o2 := by
  cases o with
  | none => exact ((onv_none h2).mp e.symm).symm
  | some a =>
    cases o2 with
    | none => exact absurd ((onv_none h).mp e) (by simp)
    | some b => rw [(nI_eq (h a rfl) (h2 b rfl)).mp e]
theorem miO_0 (m : Mi) : miO m = 0 ↔ m.isSome = false := by cases m <;> simp [miO]
abbrev rm_X0_put : Room := { frames := 0, cells := 0, slots := 0, locals := 0 }
theorem Y_X0_put : pY yX0_put cX0_put 2 (Option.some Jvm.ClassFile.FieldType.boolean) := ⟨u_357, u_358, u_2, u_359⟩
theorem N_X0_put : yX0_put.cls ≠ "java/lang/invoke/MethodHandle" ∧ yX0_put.cls ≠ "java/lang/invoke/VarHandle" ∧ (parseMethodDescriptor yX0_put.desc).map (fun d => d.parameters.length) = some 1 := by decide +kernel
set_option maxRecDepth 20000 in
set_option maxHeartbeats 4000000 in
theorem c_X0_put (A : Nat → Nat) (P : List Nat) (g : pM) (a : Nat) {cs : List Nat} (v : Nat) (hv : v < 2 ^ 31) (h : CO A g a cs) : PM yX0_put cX0_put 2 (Option.some Jvm.ClassFile.FieldType.boolean) rm_X0_put [.ref (A a), .int (nI v)] P A g (fun r g' => r = some (.int (b32 (decide (cs.length < 64)))) ∧ CO A g' a (if cs.length < 64 then cs ++ [v] else cs) ∧ Fr g g' a (a + 2)) := by
  have hCO := h
  obtain ⟨hlen, hsm, ha, row, hb, hrow⟩ := h
  refine px_intro (by decide +kernel) (Nat.le_of_ble_eq_true rfl) (fun K sz C R => ?_)
  show V K 0 0 P A g [(0, .ref (A a)), (1, .int (nI v))] 0 []
  refine g_aload_n (pc := 0) C dX0_put_0 0 rfl ?_
  refine g_get (pc := 1) C (j := 1) ha rfl rfl (by decide) u_30 dX0_put_1 ?_
  refine g_bipush (pc := 4) C dX0_put_4 (v := nI 64) rfl ?_
  refine g_icmp_lt (pc := 6) C dX0_put_6 (tgt := 11) (by decide) (fun c_6 => ?_) (fun c_6 => ?_)
  ·
    have c_6 : cs.length < 64 := (nI_ltI (by omega) (by omega)).mp c_6
    have ha1 := ha
    refine g_aload_n (pc := 11) C dX0_put_11 0 rfl ?_
    refine g_get (pc := 12) C (j := 0) ha rfl rfl (by decide) u_29 dX0_put_12 ?_
    refine g_aload_n (pc := 15) C dX0_put_15 0 rfl ?_
    refine g_get (pc := 16) C (j := 1) ha rfl rfl (by decide) u_30 dX0_put_16 ?_
    refine g_iload_n (pc := 19) C dX0_put_19 1 rfl ?_
    refine g_iast (pc := 20) C hb (nI_clamp (by omega)) (nI_in0 (n := 64) (by omega) (by omega)) dX0_put_20 ?_
    obtain ⟨g_1, hg_1⟩ : ∃ yM : pM, yM = va_up g (a + 1) (ai 0 64 (upd row cs.length (nI v))) := ⟨_, rfl⟩
    show V K 0 0 P A (va_up g (a + 1) (ai 0 64 (upd row cs.length (nI v)))) [(0, .ref (A a)), (1, .int (nI v))] 21 []
    rw [← hg_1]
    have h_2 : g_1 (a + 1) = ai 0 64 (upd row cs.length (nI v)) := by rw [hg_1]; exact va_up_self _ _ _
    have h_3 : g_1 a = ob 0 [.ref (A (a + 1)), .int (nI cs.length)] := by rw [hg_1, va_up_ne _ _ (show a ≠ a + 1 from by omega)]; exact ha
    refine g_aload_n (pc := 21) C dX0_put_21 0 rfl ?_
    refine g_dup (pc := 22) C dX0_put_22 rfl ?_
    refine g_get (pc := 23) C (j := 1) h_3 rfl rfl (by decide) u_30 dX0_put_23 ?_
    refine g_iconst (pc := 26) C dX0_put_26 (v := nI 1) rfl ?_
    refine g_iadd (pc := 27) C dX0_put_27 (z := nI (cs.length + 1)) (nI_add _ _) ?_
    refine g_put (pc := 28) C (j := 1) h_3 rfl (by decide) (Nat.le_of_ble_eq_true rfl) u_30 rfl pfd_I rfl rfl dX0_put_28 ?_
    obtain ⟨g_4, hg_4⟩ : ∃ yM : pM, yM = va_up g_1 a (ob 0 [.ref (A (a + 1)), .int (nI (cs.length + 1))]) := ⟨_, rfl⟩
    show V K 0 0 P A (va_up g_1 a (ob 0 [.ref (A (a + 1)), .int (nI (cs.length + 1))])) [(0, .ref (A a)), (1, .int (nI v))] 31 []
    rw [← hg_4]
    have h_5 : g_4 (a + 1) = ai 0 64 (upd row cs.length (nI v)) := by rw [hg_4, va_up_ne _ _ (show a + 1 ≠ a from by omega)]; exact h_2
    have h_6 : g_4 a = ob 0 [.ref (A (a + 1)), .int (nI (cs.length + 1))] := by rw [hg_4]; exact va_up_self _ _ _
    refine g_iconst (pc := 31) C dX0_put_31 (v := nI 1) rfl ?_
    exact g_zret (pc := 32) C R (Or.inr rfl) ⟨rfl, rfl, by rw [show decide (cs.length < 64) = true from decide_eq_true (by omega)]; rfl, by rw [if_pos (by omega)]; exact ⟨by simp; omega, fun x hx => by rcases List.mem_append.mp hx with q | q; exact hsm x q; simp at q; omega, by rw [h_6]; simp, _, h_5, co_push hrow⟩, Fr.of2 (fun k h1 h2 => by rw [hg_4, va_up_ne _ _ (by assumption), hg_1, va_up_ne _ _ (by assumption)])⟩ (by decide) (by decide) dX0_put_32
  ·
    have c_6 : ¬ cs.length < 64 := fun h => c_6 ((nI_ltI (by omega) (by omega)).mpr h)
    refine g_iconst (pc := 9) C dX0_put_9 (v := nI 0) rfl ?_
    exact g_zret (pc := 10) C R (Or.inl rfl) ⟨rfl, rfl, by rw [show decide (cs.length < 64) = false from decide_eq_false (by omega)]; rfl, by rw [if_neg (by omega)]; exact hCO, Fr.rf⟩ (by decide) (by decide) dX0_put_10
abbrev rm_X0_at : Room := { frames := 0, cells := 0, slots := 0, locals := 0 }
theorem Y_X0_at : pY yX0_at cX0_at 2 (Option.some Jvm.ClassFile.FieldType.int) := ⟨u_479, u_480, u_2, u_481⟩
theorem N_X0_at : yX0_at.cls ≠ "java/lang/invoke/MethodHandle" ∧ yX0_at.cls ≠ "java/lang/invoke/VarHandle" ∧ (parseMethodDescriptor yX0_at.desc).map (fun d => d.parameters.length) = some 1 := by decide +kernel
set_option maxRecDepth 20000 in
set_option maxHeartbeats 4000000 in
theorem c_X0_at (A : Nat → Nat) (P : List Nat) (g : pM) (a : Nat) {cs : List Nat} (i : Nat) (hi : i < cs.length) (h : CO A g a cs) : PM yX0_at cX0_at 2 (Option.some Jvm.ClassFile.FieldType.int) rm_X0_at [.ref (A a), .int (nI i)] P A g (fun r g' => r = some (.int (nI (cs.getD i 0))) ∧ g = g') := by
  have hCO := h
  obtain ⟨hlen, hsm, ha, row, hb, hrow⟩ := h
  refine px_intro (by decide +kernel) (Nat.le_of_ble_eq_true rfl) (fun K sz C R => ?_)
  show V K 0 0 P A g [(0, .ref (A a)), (1, .int (nI i))] 0 []
  refine g_iload_n (pc := 0) C dX0_at_0 1 rfl ?_
  refine g_if_lt (pc := 1) C dX0_at_1 (tgt := 21) (by decide) (fun c_1 => ?_) (fun c_1 => ?_)
  ·
    have c_1 : i < 0 := (nI_ltI (by omega) (by omega)).mp c_1
    exfalso; omega
  ·
    have c_1 : ¬ i < 0 := fun h => c_1 ((nI_ltI (by omega) (by omega)).mpr h)
    refine g_iload_n (pc := 4) C dX0_at_4 1 rfl ?_
    refine g_aload_n (pc := 5) C dX0_at_5 0 rfl ?_
    refine g_get (pc := 6) C (j := 1) ha rfl rfl (by decide) u_30 dX0_at_6 ?_
    refine g_icmp_ge (pc := 9) C dX0_at_9 (tgt := 21) (by decide) (fun c_9 => ?_) (fun c_9 => ?_)
    ·
      have c_9 : cs.length ≤ i := (nI_leI (by omega) (by omega)).mp c_9
      exfalso; omega
    ·
      have c_9 : ¬ cs.length ≤ i := fun h => c_9 ((nI_leI (by omega) (by omega)).mpr h)
      refine g_aload_n (pc := 12) C dX0_at_12 0 rfl ?_
      refine g_get (pc := 13) C (j := 0) ha rfl rfl (by decide) u_29 dX0_at_13 ?_
      refine g_iload_n (pc := 16) C dX0_at_16 1 rfl ?_
      refine g_iald (pc := 17) C hb (nI_clamp (by omega)) (nI_in0 (n := 64) (by omega) (by omega)) dX0_at_17 (x := row i) rfl ?_
      refine g_goto (pc := 18) C dX0_at_18 (tgt := 22) (by decide) ?_
      exact g_iret (pc := 22) C R ⟨rfl, rfl, by rw [hrow i hi], rfl⟩ (by decide) (by decide) dX0_at_22
abbrev rm_X0_behind : Room := { frames := 0, cells := 0, slots := 0, locals := 0 }
theorem Y_X0_behind : pY yX0_behind cX0_behind 2 (Option.some Jvm.ClassFile.FieldType.int) := ⟨u_483, u_484, u_2, u_485⟩
theorem N_X0_behind : yX0_behind.cls ≠ "java/lang/invoke/MethodHandle" ∧ yX0_behind.cls ≠ "java/lang/invoke/VarHandle" ∧ (parseMethodDescriptor yX0_behind.desc).map (fun d => d.parameters.length) = some 1 := by decide +kernel
set_option maxRecDepth 20000 in
set_option maxHeartbeats 4000000 in
theorem c_X0_behind (A : Nat → Nat) (P : List Nat) (g : pM) (a : Nat) {cs : List Nat} (i : Nat) (hi : i < 1000) (h : CO A g a cs) : PM yX0_behind cX0_behind 2 (Option.some Jvm.ClassFile.FieldType.int) rm_X0_behind [.ref (A a), .int (nI i)] P A g (fun r g' => r = some (.int (nI (if i + 1 < cs.length then i + 1 else 0))) ∧ g = g') := by
  have hCO := h
  obtain ⟨hlen, hsm, ha, row, hb, hrow⟩ := h
  refine px_intro (by decide +kernel) (Nat.le_of_ble_eq_true rfl) (fun K sz C R => ?_)
  show V K 0 0 P A g [(0, .ref (A a)), (1, .int (nI i))] 0 []
  refine g_iload_n (pc := 0) C dX0_behind_0 1 rfl ?_
  refine g_iconst (pc := 1) C dX0_behind_1 (v := nI 1) rfl ?_
  refine g_iadd (pc := 2) C dX0_behind_2 (z := nI (i + 1)) (nI_add _ _) ?_
  refine g_aload_n (pc := 3) C dX0_behind_3 0 rfl ?_
  refine g_get (pc := 4) C (j := 1) ha rfl rfl (by decide) u_30 dX0_behind_4 ?_
  refine g_icmp_ge (pc := 7) C dX0_behind_7 (tgt := 16) (by decide) (fun c_7 => ?_) (fun c_7 => ?_)
  ·
    have c_7 : cs.length ≤ (i + 1) := (nI_leI (by omega) (by omega)).mp c_7
    refine g_iconst (pc := 16) C dX0_behind_16 (v := nI 0) rfl ?_
    exact g_iret (pc := 17) C R ⟨rfl, rfl, by rw [if_neg (by omega)], rfl⟩ (by decide) (by decide) dX0_behind_17
  ·
    have c_7 : ¬ cs.length ≤ (i + 1) := fun h => c_7 ((nI_leI (by omega) (by omega)).mpr h)
    refine g_iload_n (pc := 10) C dX0_behind_10 1 rfl ?_
    refine g_iconst (pc := 11) C dX0_behind_11 (v := nI 1) rfl ?_
    refine g_iadd (pc := 12) C dX0_behind_12 (z := nI (i + 1)) (nI_add _ _) ?_
    refine g_goto (pc := 13) C dX0_behind_13 (tgt := 17) (by decide) ?_
    exact g_iret (pc := 17) C R ⟨rfl, rfl, by rw [if_pos (by omega)], rfl⟩ (by decide) (by decide) dX0_behind_17
abbrev rm_X6_copyFrom : Room := { frames := 0, cells := 0, slots := 0, locals := 0 }
theorem Y_X6_copyFrom : pY yX6_copyFrom cX6_copyFrom 2 (Option.none : Option Jvm.ClassFile.FieldType) := ⟨u_807, u_808, u_4, u_809⟩
theorem N_X6_copyFrom : yX6_copyFrom.cls ≠ "java/lang/invoke/MethodHandle" ∧ yX6_copyFrom.cls ≠ "java/lang/invoke/VarHandle" ∧ (parseMethodDescriptor yX6_copyFrom.desc).map (fun d => d.parameters.length) = some 1 := by decide +kernel
set_option maxRecDepth 20000 in
set_option maxHeartbeats 4000000 in
theorem c_X6_copyFrom (A : Nat → Nat) (P : List Nat) (g : pM) (a : Nat) (o : Nat) {s1 s2 : Sz} (hx : a ≠ o) (h : SZ g a s1) (h2 : SZ g o s2) : PM yX6_copyFrom cX6_copyFrom 2 (Option.none : Option Jvm.ClassFile.FieldType) rm_X6_copyFrom [.ref (A a), .ref (A o)] P A g (fun r g' => r = none ∧ SZ g' a s2 ∧ Fr g g' a (a + 1)) := by
  refine px_intro (by decide +kernel) (Nat.le_of_ble_eq_true rfl) (fun K sz C R => ?_)
  show V K 0 0 P A g [(0, .ref (A a)), (1, .ref (A o))] 0 []
  refine g_aload_n (pc := 0) C dX6_copyFrom_0 0 rfl ?_
  refine g_aload_n (pc := 1) C dX6_copyFrom_1 1 rfl ?_
  refine g_get (pc := 2) C (j := 0) (show g o = ob 6 _ from h2) rfl rfl (by decide) u_51 dX6_copyFrom_2 ?_
  refine g_put (pc := 5) C (j := 0) (show g a = ob 6 _ from h) rfl (by decide) (Nat.le_of_ble_eq_true rfl) u_51 rfl pfd_I rfl rfl dX6_copyFrom_5 ?_
  obtain ⟨g_1, hg_1⟩ : ∃ yM : pM, yM = va_up g a (ob 6 [.int (nI s2.1), .int (nI s1.2.1), .int (nI s1.2.2.1), .int (nI s1.2.2.2.1), .int (nI s1.2.2.2.2)]) := ⟨_, rfl⟩
  show V K 0 0 P A (va_up g a (ob 6 [.int (nI s2.1), .int (nI s1.2.1), .int (nI s1.2.2.1), .int (nI s1.2.2.2.1), .int (nI s1.2.2.2.2)])) [(0, .ref (A a)), (1, .ref (A o))] 8 []
  rw [← hg_1]
  have h_2 : g_1 a = ob 6 [.int (nI s2.1), .int (nI s1.2.1), .int (nI s1.2.2.1), .int (nI s1.2.2.2.1), .int (nI s1.2.2.2.2)] := by rw [hg_1]; exact va_up_self _ _ _
  have hf_3 : Fr g g_1 a (a + 1) := by rw [hg_1]; exact Fr.up (by omega) (by omega)
  have hp_4 := SZ.fr h2 hf_3 (by omega)
  refine g_aload_n (pc := 8) C dX6_copyFrom_8 0 rfl ?_
  refine g_aload_n (pc := 9) C dX6_copyFrom_9 1 rfl ?_
  refine g_get (pc := 10) C (j := 1) (show g_1 o = ob 6 _ from hp_4) rfl rfl (by decide) u_54 dX6_copyFrom_10 ?_
  refine g_put (pc := 13) C (j := 1) h_2 rfl (by decide) (Nat.le_of_ble_eq_true rfl) u_54 rfl pfd_I rfl rfl dX6_copyFrom_13 ?_
  obtain ⟨g_5, hg_5⟩ : ∃ yM : pM, yM = va_up g_1 a (ob 6 [.int (nI s2.1), .int (nI s2.2.1), .int (nI s1.2.2.1), .int (nI s1.2.2.2.1), .int (nI s1.2.2.2.2)]) := ⟨_, rfl⟩
  show V K 0 0 P A (va_up g_1 a (ob 6 [.int (nI s2.1), .int (nI s2.2.1), .int (nI s1.2.2.1), .int (nI s1.2.2.2.1), .int (nI s1.2.2.2.2)])) [(0, .ref (A a)), (1, .ref (A o))] 16 []
  rw [← hg_5]
  have h_6 : g_5 a = ob 6 [.int (nI s2.1), .int (nI s2.2.1), .int (nI s1.2.2.1), .int (nI s1.2.2.2.1), .int (nI s1.2.2.2.2)] := by rw [hg_5]; exact va_up_self _ _ _
  have hf_7 : Fr g_1 g_5 a (a + 1) := by rw [hg_5]; exact Fr.up (by omega) (by omega)
  have hp_8 := SZ.fr hp_4 hf_7 (by omega)
  refine g_aload_n (pc := 16) C dX6_copyFrom_16 0 rfl ?_
  refine g_aload_n (pc := 17) C dX6_copyFrom_17 1 rfl ?_
  refine g_get (pc := 18) C (j := 2) (show g_5 o = ob 6 _ from hp_8) rfl rfl (by decide) u_57 dX6_copyFrom_18 ?_
  refine g_put (pc := 21) C (j := 2) h_6 rfl (by decide) (Nat.le_of_ble_eq_true rfl) u_57 rfl pfd_I rfl rfl dX6_copyFrom_21 ?_
  obtain ⟨g_9, hg_9⟩ : ∃ yM : pM, yM = va_up g_5 a (ob 6 [.int (nI s2.1), .int (nI s2.2.1), .int (nI s2.2.2.1), .int (nI s1.2.2.2.1), .int (nI s1.2.2.2.2)]) := ⟨_, rfl⟩
  show V K 0 0 P A (va_up g_5 a (ob 6 [.int (nI s2.1), .int (nI s2.2.1), .int (nI s2.2.2.1), .int (nI s1.2.2.2.1), .int (nI s1.2.2.2.2)])) [(0, .ref (A a)), (1, .ref (A o))] 24 []
  rw [← hg_9]
  have h_10 : g_9 a = ob 6 [.int (nI s2.1), .int (nI s2.2.1), .int (nI s2.2.2.1), .int (nI s1.2.2.2.1), .int (nI s1.2.2.2.2)] := by rw [hg_9]; exact va_up_self _ _ _
  have hf_11 : Fr g_5 g_9 a (a + 1) := by rw [hg_9]; exact Fr.up (by omega) (by omega)
  have hp_12 := SZ.fr hp_8 hf_11 (by omega)
  refine g_aload_n (pc := 24) C dX6_copyFrom_24 0 rfl ?_
  refine g_aload_n (pc := 25) C dX6_copyFrom_25 1 rfl ?_
  refine g_get (pc := 26) C (j := 3) (show g_9 o = ob 6 _ from hp_12) rfl rfl (by decide) u_60 dX6_copyFrom_26 ?_
  refine g_put (pc := 29) C (j := 3) h_10 rfl (by decide) (Nat.le_of_ble_eq_true rfl) u_60 rfl pfd_I rfl rfl dX6_copyFrom_29 ?_
  obtain ⟨g_13, hg_13⟩ : ∃ yM : pM, yM = va_up g_9 a (ob 6 [.int (nI s2.1), .int (nI s2.2.1), .int (nI s2.2.2.1), .int (nI s2.2.2.2.1), .int (nI s1.2.2.2.2)]) := ⟨_, rfl⟩
  show V K 0 0 P A (va_up g_9 a (ob 6 [.int (nI s2.1), .int (nI s2.2.1), .int (nI s2.2.2.1), .int (nI s2.2.2.2.1), .int (nI s1.2.2.2.2)])) [(0, .ref (A a)), (1, .ref (A o))] 32 []
  rw [← hg_13]
  have h_14 : g_13 a = ob 6 [.int (nI s2.1), .int (nI s2.2.1), .int (nI s2.2.2.1), .int (nI s2.2.2.2.1), .int (nI s1.2.2.2.2)] := by rw [hg_13]; exact va_up_self _ _ _
  have hf_15 : Fr g_9 g_13 a (a + 1) := by rw [hg_13]; exact Fr.up (by omega) (by omega)
  have hp_16 := SZ.fr hp_12 hf_15 (by omega)
  refine g_aload_n (pc := 32) C dX6_copyFrom_32 0 rfl ?_
  refine g_aload_n (pc := 33) C dX6_copyFrom_33 1 rfl ?_
  refine g_get (pc := 34) C (j := 4) (show g_13 o = ob 6 _ from hp_16) rfl rfl (by decide) u_63 dX6_copyFrom_34 ?_
  refine g_put (pc := 37) C (j := 4) h_14 rfl (by decide) (Nat.le_of_ble_eq_true rfl) u_63 rfl pfd_I rfl rfl dX6_copyFrom_37 ?_
  obtain ⟨g_17, hg_17⟩ : ∃ yM : pM, yM = va_up g_13 a (ob 6 [.int (nI s2.1), .int (nI s2.2.1), .int (nI s2.2.2.1), .int (nI s2.2.2.2.1), .int (nI s2.2.2.2.2)]) := ⟨_, rfl⟩
  show V K 0 0 P A (va_up g_13 a (ob 6 [.int (nI s2.1), .int (nI s2.2.1), .int (nI s2.2.2.1), .int (nI s2.2.2.2.1), .int (nI s2.2.2.2.2)])) [(0, .ref (A a)), (1, .ref (A o))] 40 []
  rw [← hg_17]
  have h_18 : g_17 a = ob 6 [.int (nI s2.1), .int (nI s2.2.1), .int (nI s2.2.2.1), .int (nI s2.2.2.2.1), .int (nI s2.2.2.2.2)] := by rw [hg_17]; exact va_up_self _ _ _
  have hf_19 : Fr g_13 g_17 a (a + 1) := by rw [hg_17]; exact Fr.up (by omega) (by omega)
  have hp_20 := SZ.fr hp_16 hf_19 (by omega)
  exact g_vret (pc := 40) C R ⟨rfl, rfl, rfl, h_18, fun k hk => by rw [hg_17, va_up_ne _ _ (by omega), hg_13, va_up_ne _ _ (by omega), hg_9, va_up_ne _ _ (by omega), hg_5, va_up_ne _ _ (by omega), hg_1, va_up_ne _ _ (by omega)]⟩ (by decide) (by decide) dX6_copyFrom_40
abbrev rm_X1_write : Room := { frames := 1, cells := 0, slots := 0, locals := 20 }
theorem Y_X1_write : pY yX1_write cX1_write 6 (Option.none : Option Jvm.ClassFile.FieldType) := ⟨u_408, u_409, u_10, u_410⟩
theorem N_X1_write : yX1_write.cls ≠ "java/lang/invoke/MethodHandle" ∧ yX1_write.cls ≠ "java/lang/invoke/VarHandle" ∧ (parseMethodDescriptor yX1_write.desc).map (fun d => d.parameters.length) = some 5 := by decide +kernel
set_option maxRecDepth 20000 in
set_option maxHeartbeats 4000000 in
theorem c_X1_write (A : Nat → Nat) (P : List Nat) (g : pM) (a : Nat) {t : Lt} (s r k x y : Nat) (h : LT A g a t) : PM yX1_write cX1_write 6 (Option.none : Option Jvm.ClassFile.FieldType) rm_X1_write [.ref (A a), .int (nI s), .int (nI r), .int (nI k), .int (nI x), .int (nI y)] P A g (fun v g' => v = none ∧ LT A g' a (s, r, k, x, y, []) ∧ Fr g g' a (a + 3)) := by
  have hl := h.2
  refine px_intro (by decide +kernel) (Nat.le_of_ble_eq_true rfl) (fun K sz C R => ?_)
  show V K 0 0 P A g [(0, .ref (A a)), (1, .int (nI s)), (2, .int (nI r)), (3, .int (nI k)), (4, .int (nI x)), (5, .int (nI y))] 0 []
  refine g_aload_n (pc := 0) C dX1_write_0 0 rfl ?_
  refine g_iload_n (pc := 1) C dX1_write_1 1 rfl ?_
  refine g_put (pc := 2) C (j := 0) h.1 rfl (by decide) (Nat.le_of_ble_eq_true rfl) u_194 rfl pfd_I rfl rfl dX1_write_2 ?_
  obtain ⟨g_1, hg_1⟩ : ∃ yM : pM, yM = va_up g a (ob 1 [.int (nI s), .int (nI t.2.1), .int (nI t.2.2.1), .int (nI t.2.2.2.1), .int (nI t.2.2.2.2.1), .ref (A (a + 1))]) := ⟨_, rfl⟩
  show V K 0 0 P A (va_up g a (ob 1 [.int (nI s), .int (nI t.2.1), .int (nI t.2.2.1), .int (nI t.2.2.2.1), .int (nI t.2.2.2.2.1), .ref (A (a + 1))])) [(0, .ref (A a)), (1, .int (nI s)), (2, .int (nI r)), (3, .int (nI k)), (4, .int (nI x)), (5, .int (nI y))] 5 []
  rw [← hg_1]
  have h_2 : g_1 a = ob 1 [.int (nI s), .int (nI t.2.1), .int (nI t.2.2.1), .int (nI t.2.2.2.1), .int (nI t.2.2.2.2.1), .ref (A (a + 1))] := by rw [hg_1]; exact va_up_self _ _ _
  have hf_3 : Fr g g_1 a (a + 1) := by rw [hg_1]; exact Fr.up (by omega) (by omega)
  have hp_4 := NLN.fr hl hf_3 (by omega)
  refine g_aload_n (pc := 5) C dX1_write_5 0 rfl ?_
  refine g_iload_n (pc := 6) C dX1_write_6 2 rfl ?_
  refine g_put (pc := 7) C (j := 1) h_2 rfl (by decide) (Nat.le_of_ble_eq_true rfl) u_198 rfl pfd_I rfl rfl dX1_write_7 ?_
  obtain ⟨g_5, hg_5⟩ : ∃ yM : pM, yM = va_up g_1 a (ob 1 [.int (nI s), .int (nI r), .int (nI t.2.2.1), .int (nI t.2.2.2.1), .int (nI t.2.2.2.2.1), .ref (A (a + 1))]) := ⟨_, rfl⟩
  show V K 0 0 P A (va_up g_1 a (ob 1 [.int (nI s), .int (nI r), .int (nI t.2.2.1), .int (nI t.2.2.2.1), .int (nI t.2.2.2.2.1), .ref (A (a + 1))])) [(0, .ref (A a)), (1, .int (nI s)), (2, .int (nI r)), (3, .int (nI k)), (4, .int (nI x)), (5, .int (nI y))] 10 []
  rw [← hg_5]
  have h_6 : g_5 a = ob 1 [.int (nI s), .int (nI r), .int (nI t.2.2.1), .int (nI t.2.2.2.1), .int (nI t.2.2.2.2.1), .ref (A (a + 1))] := by rw [hg_5]; exact va_up_self _ _ _
  have hf_7 : Fr g_1 g_5 a (a + 1) := by rw [hg_5]; exact Fr.up (by omega) (by omega)
  have hp_8 := NLN.fr hp_4 hf_7 (by omega)
  refine g_aload_n (pc := 10) C dX1_write_10 0 rfl ?_
  refine g_iload_n (pc := 11) C dX1_write_11 3 rfl ?_
  refine g_put (pc := 12) C (j := 2) h_6 rfl (by decide) (Nat.le_of_ble_eq_true rfl) u_202 rfl pfd_I rfl rfl dX1_write_12 ?_
  obtain ⟨g_9, hg_9⟩ : ∃ yM : pM, yM = va_up g_5 a (ob 1 [.int (nI s), .int (nI r), .int (nI k), .int (nI t.2.2.2.1), .int (nI t.2.2.2.2.1), .ref (A (a + 1))]) := ⟨_, rfl⟩
  show V K 0 0 P A (va_up g_5 a (ob 1 [.int (nI s), .int (nI r), .int (nI k), .int (nI t.2.2.2.1), .int (nI t.2.2.2.2.1), .ref (A (a + 1))])) [(0, .ref (A a)), (1, .int (nI s)), (2, .int (nI r)), (3, .int (nI k)), (4, .int (nI x)), (5, .int (nI y))] 15 []
  rw [← hg_9]
  have h_10 : g_9 a = ob 1 [.int (nI s), .int (nI r), .int (nI k), .int (nI t.2.2.2.1), .int (nI t.2.2.2.2.1), .ref (A (a + 1))] := by rw [hg_9]; exact va_up_self _ _ _
  have hf_11 : Fr g_5 g_9 a (a + 1) := by rw [hg_9]; exact Fr.up (by omega) (by omega)
  have hp_12 := NLN.fr hp_8 hf_11 (by omega)
  refine g_aload_n (pc := 15) C dX1_write_15 0 rfl ?_
  refine g_iload (pc := 16) C dX1_write_16 4 rfl ?_
  refine g_put (pc := 18) C (j := 3) h_10 rfl (by decide) (Nat.le_of_ble_eq_true rfl) u_205 rfl pfd_I rfl rfl dX1_write_18 ?_
  obtain ⟨g_13, hg_13⟩ : ∃ yM : pM, yM = va_up g_9 a (ob 1 [.int (nI s), .int (nI r), .int (nI k), .int (nI x), .int (nI t.2.2.2.2.1), .ref (A (a + 1))]) := ⟨_, rfl⟩
  show V K 0 0 P A (va_up g_9 a (ob 1 [.int (nI s), .int (nI r), .int (nI k), .int (nI x), .int (nI t.2.2.2.2.1), .ref (A (a + 1))])) [(0, .ref (A a)), (1, .int (nI s)), (2, .int (nI r)), (3, .int (nI k)), (4, .int (nI x)), (5, .int (nI y))] 21 []
  rw [← hg_13]
  have h_14 : g_13 a = ob 1 [.int (nI s), .int (nI r), .int (nI k), .int (nI x), .int (nI t.2.2.2.2.1), .ref (A (a + 1))] := by rw [hg_13]; exact va_up_self _ _ _
  have hf_15 : Fr g_9 g_13 a (a + 1) := by rw [hg_13]; exact Fr.up (by omega) (by omega)
  have hp_16 := NLN.fr hp_12 hf_15 (by omega)
  refine g_aload_n (pc := 21) C dX1_write_21 0 rfl ?_
  refine g_iload (pc := 22) C dX1_write_22 5 rfl ?_
  refine g_put (pc := 24) C (j := 4) h_14 rfl (by decide) (Nat.le_of_ble_eq_true rfl) u_208 rfl pfd_I rfl rfl dX1_write_24 ?_
  obtain ⟨g_17, hg_17⟩ : ∃ yM : pM, yM = va_up g_13 a (ob 1 [.int (nI s), .int (nI r), .int (nI k), .int (nI x), .int (nI y), .ref (A (a + 1))]) := ⟨_, rfl⟩
  show V K 0 0 P A (va_up g_13 a (ob 1 [.int (nI s), .int (nI r), .int (nI k), .int (nI x), .int (nI y), .ref (A (a + 1))])) [(0, .ref (A a)), (1, .int (nI s)), (2, .int (nI r)), (3, .int (nI k)), (4, .int (nI x)), (5, .int (nI y))] 27 []
  rw [← hg_17]
  have h_18 : g_17 a = ob 1 [.int (nI s), .int (nI r), .int (nI k), .int (nI x), .int (nI y), .ref (A (a + 1))] := by rw [hg_17]; exact va_up_self _ _ _
  have hf_19 : Fr g_13 g_17 a (a + 1) := by rw [hg_17]; exact Fr.up (by omega) (by omega)
  have hp_20 := NLN.fr hp_16 hf_19 (by omega)
  refine g_aload_n (pc := 27) C dX1_write_27 0 rfl ?_
  refine g_get (pc := 28) C (j := 5) h_18 rfl rfl (by decide) u_211 dX1_write_28 ?_
  refine g_callV (pc := 31) C (As := []) (rest := []) (b := (a + 1)) (n_X4_clear A P g_17 (a + 1) hp_20) (NLN.o hp_20) rfl rfl Y_X4_clear u_411 N_X4_clear ⟨by decide, by decide⟩ ⟨by decide, by decide⟩ (Nat.le_of_ble_eq_true rfl) rfl dX1_write_31 ?_
  rintro _ _ _ g_21 ⟨rfl, rfl, rfl, hn_22, hf_23⟩
  have h_24 := hf_23.at (by omega) h_18
  show V K 0 0 P A g_21 [(0, .ref (A a)), (1, .int (nI s)), (2, .int (nI r)), (3, .int (nI k)), (4, .int (nI x)), (5, .int (nI y))] 34 []
  exact g_vret (pc := 34) C R ⟨rfl, rfl, rfl, ⟨h_24, hn_22⟩, (show Fr g _ a (a + 3) from fun k hk => by rw [hg_17, va_up_ne _ _ (by omega), hg_13, va_up_ne _ _ (by omega), hg_9, va_up_ne _ _ (by omega), hg_5, va_up_ne _ _ (by omega), hg_1, va_up_ne _ _ (by omega)]).tr (Fr.mo hf_23 (by omega) (by omega))⟩ (by decide) (by decide) dX1_write_34
abbrev rm_X1_copyFrom : Room := { frames := 2, cells := 0, slots := 0, locals := 45 }
theorem Y_X1_copyFrom : pY yX1_copyFrom cX1_copyFrom 2 (Option.none : Option Jvm.ClassFile.FieldType) := ⟨u_579, u_580, u_10, u_581⟩
theorem N_X1_copyFrom : yX1_copyFrom.cls ≠ "java/lang/invoke/MethodHandle" ∧ yX1_copyFrom.cls ≠ "java/lang/invoke/VarHandle" ∧ (parseMethodDescriptor yX1_copyFrom.desc).map (fun d => d.parameters.length) = some 1 := by decide +kernel
set_option maxRecDepth 20000 in
set_option maxHeartbeats 4000000 in
theorem c_X1_copyFrom (A : Nat → Nat) (P : List Nat) (g : pM) (a : Nat) (o : Nat) {t u : Lt} (hx : o + 3 ≤ a ∨ a + 3 ≤ o) (h : LT A g a t) (h2 : LT A g o u) : PM yX1_copyFrom cX1_copyFrom 2 (Option.none : Option Jvm.ClassFile.FieldType) rm_X1_copyFrom [.ref (A a), .ref (A o)] P A g (fun v g' => v = none ∧ LT A g' a u ∧ Fr g g' a (a + 3)) := by
  refine px_intro (by decide +kernel) (Nat.le_of_ble_eq_true rfl) (fun K sz C R => ?_)
  show V K 0 0 P A g [(0, .ref (A a)), (1, .ref (A o))] 0 []
  refine g_aload_n (pc := 0) C dX1_copyFrom_0 0 rfl ?_
  refine g_aload_n (pc := 1) C dX1_copyFrom_1 1 rfl ?_
  refine g_get (pc := 2) C (j := 0) h2.1 rfl rfl (by decide) u_194 dX1_copyFrom_2 ?_
  refine g_aload_n (pc := 5) C dX1_copyFrom_5 1 rfl ?_
  refine g_get (pc := 6) C (j := 1) h2.1 rfl rfl (by decide) u_198 dX1_copyFrom_6 ?_
  refine g_aload_n (pc := 9) C dX1_copyFrom_9 1 rfl ?_
  refine g_get (pc := 10) C (j := 2) h2.1 rfl rfl (by decide) u_202 dX1_copyFrom_10 ?_
  refine g_aload_n (pc := 13) C dX1_copyFrom_13 1 rfl ?_
  refine g_get (pc := 14) C (j := 3) h2.1 rfl rfl (by decide) u_205 dX1_copyFrom_14 ?_
  refine g_aload_n (pc := 17) C dX1_copyFrom_17 1 rfl ?_
  refine g_get (pc := 18) C (j := 4) h2.1 rfl rfl (by decide) u_208 dX1_copyFrom_18 ?_
  refine g_callV (pc := 21) C (As := [.int (nI u.1), .int (nI u.2.1), .int (nI u.2.2.1), .int (nI u.2.2.2.1), .int (nI u.2.2.2.2.1)]) (rest := []) (b := a) (c_X1_write A P g a u.1 u.2.1 u.2.2.1 u.2.2.2.1 u.2.2.2.2.1 h) h.1 rfl rfl Y_X1_write u_582 N_X1_write ⟨by decide, by decide⟩ ⟨by decide, by decide⟩ (Nat.le_of_ble_eq_true rfl) rfl dX1_copyFrom_21 ?_
  rintro _ _ _ g_1 ⟨rfl, rfl, rfl, hn_2, hf_3⟩
  have hp_4 := LT.fr h2 hf_3 (by omega)
  show V K 0 0 P A g_1 [(0, .ref (A a)), (1, .ref (A o))] 24 []
  refine g_aload_n (pc := 24) C dX1_copyFrom_24 0 rfl ?_
  refine g_get (pc := 25) C (j := 5) hn_2.1 rfl rfl (by decide) u_211 dX1_copyFrom_25 ?_
  refine g_aload_n (pc := 28) C dX1_copyFrom_28 1 rfl ?_
  refine g_get (pc := 29) C (j := 5) hp_4.1 rfl rfl (by decide) u_211 dX1_copyFrom_29 ?_
  refine g_callV (pc := 32) C (As := [.ref (A (o + 1))]) (rest := []) (b := (a + 1)) (n_X4_copyFrom A P g_1 (a + 1) (o + 1) (by omega) hn_2.2 hp_4.2) (NLN.o hn_2.2) rfl rfl Y_X4_copyFrom u_583 N_X4_copyFrom ⟨by decide, by decide⟩ ⟨by decide, by decide⟩ (Nat.le_of_ble_eq_true rfl) rfl dX1_copyFrom_32 ?_
  rintro _ _ _ g_5 ⟨rfl, rfl, rfl, hn_6, hf_7⟩
  have h_8 := hf_7.at (by omega) hn_2.1
  have hp_9 := LT.fr hp_4 hf_7 (by omega)
  show V K 0 0 P A g_5 [(0, .ref (A a)), (1, .ref (A o))] 35 []
  exact g_vret (pc := 35) C R ⟨rfl, rfl, rfl, ⟨h_8, hn_6⟩, hf_3.tr (Fr.mo hf_7 (by omega) (by omega))⟩ (by decide) (by decide) dX1_copyFrom_35
abbrev rm_X2_end : Room := { frames := 1, cells := 0, slots := 0, locals := 20 }
theorem Y_X2_end : pY yX2_end cX2_end 1 (Option.none : Option Jvm.ClassFile.FieldType) := ⟨u_377, u_378, u_8, u_379⟩
theorem N_X2_end : yX2_end.cls ≠ "java/lang/invoke/MethodHandle" ∧ yX2_end.cls ≠ "java/lang/invoke/VarHandle" ∧ (parseMethodDescriptor yX2_end.desc).map (fun d => d.parameters.length) = some 0 := by decide +kernel
set_option maxRecDepth 20000 in
set_option maxHeartbeats 4000000 in
theorem c_X2_end (A : Nat → Nat) (P : List Nat) (g : pM) (a : Nat) {m : Mi} (h : MS A g a m) : PM yX2_end cX2_end 1 (Option.none : Option Jvm.ClassFile.FieldType) rm_X2_end [.ref (A a)] P A g (fun v g' => v = none ∧ MS A g' a none ∧ Fr g g' a (a + 3)) := by
  have hl := h.2
  refine px_intro (by decide +kernel) (Nat.le_of_ble_eq_true rfl) (fun K sz C R => ?_)
  show V K 0 0 P A g [(0, .ref (A a))] 0 []
  refine g_aload_n (pc := 0) C dX2_end_0 0 rfl ?_
  refine g_iconst (pc := 1) C dX2_end_1 (v := nI 0) rfl ?_
  refine g_put (pc := 2) C (j := 0) h.1 rfl (by decide) (Nat.le_of_ble_eq_true rfl) u_113 rfl pfd_Z rfl rfl dX2_end_2 ?_
  obtain ⟨g_1, hg_1⟩ : ∃ yM : pM, yM = va_up g a (ob 2 [.int (nI 0), .int (miH m), .ref (A (a + 1))]) := ⟨_, rfl⟩
  show V K 0 0 P A (va_up g a (ob 2 [.int (nI 0), .int (miH m), .ref (A (a + 1))])) [(0, .ref (A a))] 5 []
  rw [← hg_1]
  have h_2 : g_1 a = ob 2 [.int (nI 0), .int (miH m), .ref (A (a + 1))] := by rw [hg_1]; exact va_up_self _ _ _
  have hf_3 : Fr g g_1 a (a + 1) := by rw [hg_1]; exact Fr.up (by omega) (by omega)
  have hp_4 := NLN.fr hl hf_3 (by omega)
  refine g_aload_n (pc := 5) C dX2_end_5 0 rfl ?_
  refine g_iconst (pc := 6) C dX2_end_6 (v := nI 0) rfl ?_
  refine g_put (pc := 7) C (j := 1) h_2 rfl (by decide) (Nat.le_of_ble_eq_true rfl) u_116 rfl pfd_I rfl rfl dX2_end_7 ?_
  obtain ⟨g_5, hg_5⟩ : ∃ yM : pM, yM = va_up g_1 a (ob 2 [.int (nI 0), .int (nI 0), .ref (A (a + 1))]) := ⟨_, rfl⟩
  show V K 0 0 P A (va_up g_1 a (ob 2 [.int (nI 0), .int (nI 0), .ref (A (a + 1))])) [(0, .ref (A a))] 10 []
  rw [← hg_5]
  have h_6 : g_5 a = ob 2 [.int (nI 0), .int (nI 0), .ref (A (a + 1))] := by rw [hg_5]; exact va_up_self _ _ _
  have hf_7 : Fr g_1 g_5 a (a + 1) := by rw [hg_5]; exact Fr.up (by omega) (by omega)
  have hp_8 := NLN.fr hp_4 hf_7 (by omega)
  refine g_aload_n (pc := 10) C dX2_end_10 0 rfl ?_
  refine g_get (pc := 11) C (j := 2) h_6 rfl rfl (by decide) u_118 dX2_end_11 ?_
  refine g_callV (pc := 14) C (As := []) (rest := []) (b := (a + 1)) (n_X4_clear A P g_5 (a + 1) hp_8) (NLN.o hp_8) rfl rfl Y_X4_clear u_380 N_X4_clear ⟨by decide, by decide⟩ ⟨by decide, by decide⟩ (Nat.le_of_ble_eq_true rfl) rfl dX2_end_14 ?_
  rintro _ _ _ g_9 ⟨rfl, rfl, rfl, hn_10, hf_11⟩
  have h_12 := hf_11.at (by omega) h_6
  show V K 0 0 P A g_9 [(0, .ref (A a))] 17 []
  exact g_vret (pc := 17) C R ⟨rfl, rfl, rfl, ⟨h_12, hn_10⟩, (show Fr g _ a (a + 3) from fun k hk => by rw [hg_5, va_up_ne _ _ (by omega), hg_1, va_up_ne _ _ (by omega)]).tr (Fr.mo hf_11 (by omega) (by omega))⟩ (by decide) (by decide) dX2_end_17
abbrev rm_X2_copyFrom : Room := { frames := 2, cells := 0, slots := 0, locals := 43 }
theorem Y_X2_copyFrom : pY yX2_copyFrom cX2_copyFrom 2 (Option.none : Option Jvm.ClassFile.FieldType) := ⟨u_817, u_818, u_8, u_819⟩
theorem N_X2_copyFrom : yX2_copyFrom.cls ≠ "java/lang/invoke/MethodHandle" ∧ yX2_copyFrom.cls ≠ "java/lang/invoke/VarHandle" ∧ (parseMethodDescriptor yX2_copyFrom.desc).map (fun d => d.parameters.length) = some 1 := by decide +kernel
set_option maxRecDepth 20000 in
set_option maxHeartbeats 4000000 in
theorem c_X2_copyFrom (A : Nat → Nat) (P : List Nat) (g : pM) (a : Nat) (o : Nat) {m m2 : Mi} (hx : o + 3 ≤ a ∨ a + 3 ≤ o) (h : MS A g a m) (h2 : MS A g o m2) : PM yX2_copyFrom cX2_copyFrom 2 (Option.none : Option Jvm.ClassFile.FieldType) rm_X2_copyFrom [.ref (A a), .ref (A o)] P A g (fun v g' => v = none ∧ MS A g' a m2 ∧ Fr g g' a (a + 3)) := by
  have hl := h.2
  have hl2 := h2.2
  refine px_intro (by decide +kernel) (Nat.le_of_ble_eq_true rfl) (fun K sz C R => ?_)
  show V K 0 0 P A g [(0, .ref (A a)), (1, .ref (A o))] 0 []
  refine g_aload_n (pc := 0) C dX2_copyFrom_0 0 rfl ?_
  refine g_aload_n (pc := 1) C dX2_copyFrom_1 1 rfl ?_
  refine g_get (pc := 2) C (j := 0) h2.1 rfl rfl (by decide) u_113 dX2_copyFrom_2 ?_
  refine g_put (pc := 5) C (j := 0) h.1 rfl (by decide) (Nat.le_of_ble_eq_true rfl) u_113 rfl pfd_Z (miO_n _) (miO_f _) dX2_copyFrom_5 ?_
  obtain ⟨g_1, hg_1⟩ : ∃ yM : pM, yM = va_up g a (ob 2 [.int (miO m2), .int (miH m), .ref (A (a + 1))]) := ⟨_, rfl⟩
  show V K 0 0 P A (va_up g a (ob 2 [.int (miO m2), .int (miH m), .ref (A (a + 1))])) [(0, .ref (A a)), (1, .ref (A o))] 8 []
  rw [← hg_1]
  have h_2 : g_1 a = ob 2 [.int (miO m2), .int (miH m), .ref (A (a + 1))] := by rw [hg_1]; exact va_up_self _ _ _
  have h_3 : g_1 o = ob 2 [.int (miO m2), .int (miH m2), .ref (A (o + 1))] := by rw [hg_1, va_up_ne _ _ (show o ≠ a from by omega)]; exact h2.1
  have hf_4 : Fr g g_1 a (a + 1) := by rw [hg_1]; exact Fr.up (by omega) (by omega)
  have hp_5 := NLN.fr hl hf_4 (by omega)
  have hp_6 := NLN.fr hl2 hf_4 (by omega)
  refine g_aload_n (pc := 8) C dX2_copyFrom_8 0 rfl ?_
  refine g_aload_n (pc := 9) C dX2_copyFrom_9 1 rfl ?_
  refine g_get (pc := 10) C (j := 1) h_3 rfl rfl (by decide) u_116 dX2_copyFrom_10 ?_
  refine g_put (pc := 13) C (j := 1) h_2 rfl (by decide) (Nat.le_of_ble_eq_true rfl) u_116 rfl pfd_I rfl rfl dX2_copyFrom_13 ?_
  obtain ⟨g_7, hg_7⟩ : ∃ yM : pM, yM = va_up g_1 a (ob 2 [.int (miO m2), .int (miH m2), .ref (A (a + 1))]) := ⟨_, rfl⟩
  show V K 0 0 P A (va_up g_1 a (ob 2 [.int (miO m2), .int (miH m2), .ref (A (a + 1))])) [(0, .ref (A a)), (1, .ref (A o))] 16 []
  rw [← hg_7]
  have h_8 : g_7 a = ob 2 [.int (miO m2), .int (miH m2), .ref (A (a + 1))] := by rw [hg_7]; exact va_up_self _ _ _
  have h_9 : g_7 o = ob 2 [.int (miO m2), .int (miH m2), .ref (A (o + 1))] := by rw [hg_7, va_up_ne _ _ (show o ≠ a from by omega)]; exact h_3
  have hf_10 : Fr g_1 g_7 a (a + 1) := by rw [hg_7]; exact Fr.up (by omega) (by omega)
  have hp_11 := NLN.fr hp_5 hf_10 (by omega)
  have hp_12 := NLN.fr hp_6 hf_10 (by omega)
  refine g_aload_n (pc := 16) C dX2_copyFrom_16 0 rfl ?_
  refine g_get (pc := 17) C (j := 2) h_8 rfl rfl (by decide) u_118 dX2_copyFrom_17 ?_
  refine g_aload_n (pc := 20) C dX2_copyFrom_20 1 rfl ?_
  refine g_get (pc := 21) C (j := 2) h_9 rfl rfl (by decide) u_118 dX2_copyFrom_21 ?_
  refine g_callV (pc := 24) C (As := [.ref (A (o + 1))]) (rest := []) (b := (a + 1)) (n_X4_copyFrom A P g_7 (a + 1) (o + 1) (by omega) hp_11 hp_12) (NLN.o hp_11) rfl rfl Y_X4_copyFrom u_820 N_X4_copyFrom ⟨by decide, by decide⟩ ⟨by decide, by decide⟩ (Nat.le_of_ble_eq_true rfl) rfl dX2_copyFrom_24 ?_
  rintro _ _ _ g_13 ⟨rfl, rfl, rfl, hn_14, hf_15⟩
  have h_16 := hf_15.at (by omega) h_8
  have h_17 := hf_15.at (by omega) h_9
  have hp_18 := NLN.fr hp_12 hf_15 (by omega)
  show V K 0 0 P A g_13 [(0, .ref (A a)), (1, .ref (A o))] 27 []
  exact g_vret (pc := 27) C R ⟨rfl, rfl, rfl, ⟨h_16, hn_14⟩, (show Fr g _ a (a + 3) from fun k hk => by rw [hg_7, va_up_ne _ _ (by omega), hg_1, va_up_ne _ _ (by omega)]).tr (Fr.mo hf_15 (by omega) (by omega))⟩ (by decide) (by decide) dX2_copyFrom_27
abbrev rm_X3_isLazy : Room := { frames := 0, cells := 0, slots := 0, locals := 0 }
theorem Y_X3_isLazy : pY yX3_isLazy cX3_isLazy 2 (Option.some Jvm.ClassFile.FieldType.boolean) := ⟨u_520, u_521, u_5, u_522⟩
theorem N_X3_isLazy : yX3_isLazy.cls ≠ "java/lang/invoke/MethodHandle" ∧ yX3_isLazy.cls ≠ "java/lang/invoke/VarHandle" ∧ (parseMethodDescriptor yX3_isLazy.desc).map (fun d => d.parameters.length) = some 1 := by decide +kernel
set_option maxRecDepth 20000 in
set_option maxHeartbeats 4000000 in
theorem c_X3_isLazy (A : Nat → Nat) (P : List Nat) (g : pM) (a : Nat) {i : Nat} {d : Nd} (q : Nat) (hq : q < 16) (hw : ndW d) (h : ND A g a i d) : PM yX3_isLazy cX3_isLazy 2 (Option.some Jvm.ClassFile.FieldType.boolean) rm_X3_isLazy [.ref (A a), .int (nI q)] P A g (fun v g' => v = some (.int (b32 ((nLz d).testBit q))) ∧ g = g') := by
  obtain ⟨hw1, hw2, hw3, hw4⟩ := hw
  refine px_intro (by decide +kernel) (Nat.le_of_ble_eq_true rfl) (fun K sz C R => ?_)
  show V K 0 0 P A g [(0, .ref (A a)), (1, .int (nI q))] 0 []
  refine g_aload_n (pc := 0) C dX3_isLazy_0 0 rfl ?_
  refine g_get (pc := 1) C (j := 4) h.1 rfl rfl (by decide) u_145 dX3_isLazy_1 ?_
  refine g_iconst (pc := 4) C dX3_isLazy_4 (v := nI 1) rfl ?_
  refine g_iload_n (pc := 5) C dX3_isLazy_5 1 rfl ?_
  refine g_ishl (pc := 6) C dX3_isLazy_6 (z := nI (2 ^ q)) (shl_nI (by omega)) ?_
  refine g_iand (pc := 7) C dX3_isLazy_7 (z := nI (nLz d) &&& nI (2 ^ q)) rfl ?_
  refine g_if_eq (pc := 8) C dX3_isLazy_8 (tgt := 15) (by decide) (fun c_8 => ?_) (fun c_8 => ?_)
  ·
    refine g_iconst (pc := 15) C dX3_isLazy_15 (v := nI 0) rfl ?_
    exact g_zret (pc := 16) C R (Or.inl rfl) ⟨rfl, rfl, by rw [(bit_nI _ _ hw1 hq).mp c_8]; rfl, rfl⟩ (by decide) (by decide) dX3_isLazy_16
  ·
    refine g_iconst (pc := 11) C dX3_isLazy_11 (v := nI 1) rfl ?_
    refine g_goto (pc := 12) C dX3_isLazy_12 (tgt := 16) (by decide) ?_
    exact g_zret (pc := 16) C R (Or.inr rfl) ⟨rfl, rfl, by rw [show (nLz d).testBit q = true from by cases e : (nLz d).testBit q; exact absurd ((bit_nI _ _ hw1 hq).mpr e) c_8; rfl]; rfl, rfl⟩ (by decide) (by decide) dX3_isLazy_16
abbrev rm_X3_makeLazy : Room := { frames := 0, cells := 0, slots := 0, locals := 0 }
theorem Y_X3_makeLazy : pY yX3_makeLazy cX3_makeLazy 2 (Option.none : Option Jvm.ClassFile.FieldType) := ⟨u_678, u_679, u_5, u_680⟩
theorem N_X3_makeLazy : yX3_makeLazy.cls ≠ "java/lang/invoke/MethodHandle" ∧ yX3_makeLazy.cls ≠ "java/lang/invoke/VarHandle" ∧ (parseMethodDescriptor yX3_makeLazy.desc).map (fun d => d.parameters.length) = some 1 := by decide +kernel
set_option maxRecDepth 20000 in
set_option maxHeartbeats 4000000 in
theorem c_X3_makeLazy (A : Nat → Nat) (P : List Nat) (g : pM) (a : Nat) {i : Nat} {d : Nd} (q : Nat) (hq : q < 16) (h : ND A g a i d) : PM yX3_makeLazy cX3_makeLazy 2 (Option.none : Option Jvm.ClassFile.FieldType) rm_X3_makeLazy [.ref (A a), .int (nI q)] P A g (fun v g' => v = none ∧ ND A g' a i (sLz d (nLz d ||| 2 ^ q)) ∧ Fr g g' a (a + 1)) := by
  refine px_intro (by decide +kernel) (Nat.le_of_ble_eq_true rfl) (fun K sz C R => ?_)
  show V K 0 0 P A g [(0, .ref (A a)), (1, .int (nI q))] 0 []
  refine g_aload_n (pc := 0) C dX3_makeLazy_0 0 rfl ?_
  refine g_dup (pc := 1) C dX3_makeLazy_1 rfl ?_
  refine g_get (pc := 2) C (j := 4) h.1 rfl rfl (by decide) u_145 dX3_makeLazy_2 ?_
  refine g_iconst (pc := 5) C dX3_makeLazy_5 (v := nI 1) rfl ?_
  refine g_iload_n (pc := 6) C dX3_makeLazy_6 1 rfl ?_
  refine g_ishl (pc := 7) C dX3_makeLazy_7 (z := nI (2 ^ q)) (shl_nI (by omega)) ?_
  refine g_ior (pc := 8) C dX3_makeLazy_8 (z := nI (nLz d ||| 2 ^ q)) (or_nI _ _) ?_
  refine g_put (pc := 9) C (j := 4) h.1 rfl (by decide) (Nat.le_of_ble_eq_true rfl) u_145 rfl pfd_I rfl rfl dX3_makeLazy_9 ?_
  obtain ⟨g_1, hg_1⟩ : ∃ yM : pM, yM = va_up g a (ob 3 [.int (nI i), .int (b32 (nLv d)), .ref (A (a + 1)), .ref (A (a + 3)), .int (nI (nLz d ||| 2 ^ q)), .int (onv (nAs d)), .int (nI (nAk d)), .int (nGo d), .ref (A (a + 5)), .ref (A (a + 6))]) := ⟨_, rfl⟩
  show V K 0 0 P A (va_up g a (ob 3 [.int (nI i), .int (b32 (nLv d)), .ref (A (a + 1)), .ref (A (a + 3)), .int (nI (nLz d ||| 2 ^ q)), .int (onv (nAs d)), .int (nI (nAk d)), .int (nGo d), .ref (A (a + 5)), .ref (A (a + 6))])) [(0, .ref (A a)), (1, .int (nI q))] 12 []
  rw [← hg_1]
  have hN_2 : ND A g_1 a i (sLz d (nLz d ||| 2 ^ q)) := ND.put h hg_1 rfl rfl rfl rfl
  exact g_vret (pc := 12) C R ⟨rfl, rfl, rfl, hN_2, by rw [hg_1]; exact Fr.up (by omega) (by omega)⟩ (by decide) (by decide) dX3_makeLazy_12
abbrev rm_X3_makeEager : Room := { frames := 0, cells := 0, slots := 0, locals := 0 }
theorem Y_X3_makeEager : pY yX3_makeEager cX3_makeEager 2 (Option.none : Option Jvm.ClassFile.FieldType) := ⟨u_552, u_553, u_5, u_554⟩
theorem N_X3_makeEager : yX3_makeEager.cls ≠ "java/lang/invoke/MethodHandle" ∧ yX3_makeEager.cls ≠ "java/lang/invoke/VarHandle" ∧ (parseMethodDescriptor yX3_makeEager.desc).map (fun d => d.parameters.length) = some 1 := by decide +kernel
set_option maxRecDepth 20000 in
set_option maxHeartbeats 4000000 in
theorem c_X3_makeEager (A : Nat → Nat) (P : List Nat) (g : pM) (a : Nat) {i : Nat} {d : Nd} (q : Nat) (hq : q < 16) (hw : ndW d) (h : ND A g a i d) : PM yX3_makeEager cX3_makeEager 2 (Option.none : Option Jvm.ClassFile.FieldType) rm_X3_makeEager [.ref (A a), .int (nI q)] P A g (fun v g' => v = none ∧ ND A g' a i (sLz d (bo (nLz d) q)) ∧ Fr g g' a (a + 1)) := by
  obtain ⟨hw1, hw2, hw3, hw4⟩ := hw
  refine px_intro (by decide +kernel) (Nat.le_of_ble_eq_true rfl) (fun K sz C R => ?_)
  show V K 0 0 P A g [(0, .ref (A a)), (1, .int (nI q))] 0 []
  refine g_aload_n (pc := 0) C dX3_makeEager_0 0 rfl ?_
  refine g_dup (pc := 1) C dX3_makeEager_1 rfl ?_
  refine g_get (pc := 2) C (j := 4) h.1 rfl rfl (by decide) u_145 dX3_makeEager_2 ?_
  refine g_iconst (pc := 5) C dX3_makeEager_5 (v := nI 1) rfl ?_
  refine g_iload_n (pc := 6) C dX3_makeEager_6 1 rfl ?_
  refine g_ishl (pc := 7) C dX3_makeEager_7 (z := nI (2 ^ q)) (shl_nI (by omega)) ?_
  refine g_iconst (pc := 8) C dX3_makeEager_8 (v := (-1)) rfl ?_
  refine g_ixor (pc := 9) C dX3_makeEager_9 (z := nI (2 ^ q) ^^^ (-1)) rfl ?_
  refine g_iand (pc := 10) C dX3_makeEager_10 (z := nI (bo (nLz d) q)) (bo_nI hw1 hq) ?_
  refine g_put (pc := 11) C (j := 4) h.1 rfl (by decide) (Nat.le_of_ble_eq_true rfl) u_145 rfl pfd_I rfl rfl dX3_makeEager_11 ?_
  obtain ⟨g_1, hg_1⟩ : ∃ yM : pM, yM = va_up g a (ob 3 [.int (nI i), .int (b32 (nLv d)), .ref (A (a + 1)), .ref (A (a + 3)), .int (nI (bo (nLz d) q)), .int (onv (nAs d)), .int (nI (nAk d)), .int (nGo d), .ref (A (a + 5)), .ref (A (a + 6))]) := ⟨_, rfl⟩
  show V K 0 0 P A (va_up g a (ob 3 [.int (nI i), .int (b32 (nLv d)), .ref (A (a + 1)), .ref (A (a + 3)), .int (nI (bo (nLz d) q)), .int (onv (nAs d)), .int (nI (nAk d)), .int (nGo d), .ref (A (a + 5)), .ref (A (a + 6))])) [(0, .ref (A a)), (1, .int (nI q))] 14 []
  rw [← hg_1]
  have hN_2 : ND A g_1 a i (sLz d (bo (nLz d) q)) := ND.put h hg_1 rfl rfl rfl rfl
  exact g_vret (pc := 14) C R ⟨rfl, rfl, rfl, hN_2, by rw [hg_1]; exact Fr.up (by omega) (by omega)⟩ (by decide) (by decide) dX3_makeEager_14
abbrev rm_X3_hopsOf : Room := { frames := 0, cells := 0, slots := 0, locals := 0 }
theorem Y_X3_hopsOf : pY yX3_hopsOf cX3_hopsOf 2 (Option.some Jvm.ClassFile.FieldType.int) := ⟨u_674, u_675, u_5, u_676⟩
theorem N_X3_hopsOf : yX3_hopsOf.cls ≠ "java/lang/invoke/MethodHandle" ∧ yX3_hopsOf.cls ≠ "java/lang/invoke/VarHandle" ∧ (parseMethodDescriptor yX3_hopsOf.desc).map (fun d => d.parameters.length) = some 1 := by decide +kernel
set_option maxRecDepth 20000 in
set_option maxHeartbeats 4000000 in
theorem c_X3_hopsOf (A : Nat → Nat) (P : List Nat) (g : pM) (a : Nat) {i : Nat} {d : Nd} (t : Nat) (ht : t < 24) (h : ND A g a i d) : PM yX3_hopsOf cX3_hopsOf 2 (Option.some Jvm.ClassFile.FieldType.int) rm_X3_hopsOf [.ref (A a), .int (nI t)] P A g (fun v g' => v = some (.int (onv (nHo d t))) ∧ g = g') := by
  obtain ⟨hrow, hho, hhr⟩ := h.2.2.2.1
  refine px_intro (by decide +kernel) (Nat.le_of_ble_eq_true rfl) (fun K sz C R => ?_)
  show V K 0 0 P A g [(0, .ref (A a)), (1, .int (nI t))] 0 []
  refine g_iload_n (pc := 0) C dX3_hopsOf_0 1 rfl ?_
  refine g_if_lt (pc := 1) C dX3_hopsOf_1 (tgt := 19) (by decide) (fun c_1 => ?_) (fun c_1 => ?_)
  ·
    have c_1 : t < 0 := (nI_ltI (by omega) (by omega)).mp c_1
    exfalso; omega
  ·
    have c_1 : ¬ t < 0 := fun h => c_1 ((nI_ltI (by omega) (by omega)).mpr h)
    refine g_iload_n (pc := 4) C dX3_hopsOf_4 1 rfl ?_
    refine g_bipush (pc := 5) C dX3_hopsOf_5 (v := nI 24) rfl ?_
    refine g_icmp_ge (pc := 7) C dX3_hopsOf_7 (tgt := 19) (by decide) (fun c_7 => ?_) (fun c_7 => ?_)
    ·
      have c_7 : 24 ≤ t := (nI_leI (by omega) (by omega)).mp c_7
      exfalso; omega
    ·
      have c_7 : ¬ 24 ≤ t := fun h => c_7 ((nI_leI (by omega) (by omega)).mpr h)
      refine g_aload_n (pc := 10) C dX3_hopsOf_10 0 rfl ?_
      refine g_get (pc := 11) C (j := 8) h.1 rfl rfl (by decide) u_156 dX3_hopsOf_11 ?_
      refine g_iload_n (pc := 14) C dX3_hopsOf_14 1 rfl ?_
      refine g_iald (pc := 15) C hho (nI_clamp (by omega)) (nI_in0 (n := 24) (by omega) (by omega)) dX3_hopsOf_15 (x := hrow t) rfl ?_
      refine g_goto (pc := 16) C dX3_hopsOf_16 (tgt := 21) (by decide) ?_
      exact g_iret (pc := 21) C R ⟨rfl, rfl, by rw [hhr t ht], rfl⟩ (by decide) (by decide) dX3_hopsOf_21
abbrev rm_X3_missOf : Room := { frames := 0, cells := 0, slots := 0, locals := 0 }
theorem Y_X3_missOf : pY yX3_missOf cX3_missOf 2 (Option.some (Jvm.ClassFile.FieldType.object "ViewBroadcast$Miss")) := ⟨u_542, u_543, u_5, u_544⟩
theorem N_X3_missOf : yX3_missOf.cls ≠ "java/lang/invoke/MethodHandle" ∧ yX3_missOf.cls ≠ "java/lang/invoke/VarHandle" ∧ (parseMethodDescriptor yX3_missOf.desc).map (fun d => d.parameters.length) = some 1 := by decide +kernel
set_option maxRecDepth 20000 in
set_option maxHeartbeats 4000000 in
theorem c_X3_missOf (A : Nat → Nat) (P : List Nat) (g : pM) (a : Nat) {i : Nat} {d : Nd} (t : Nat) (ht : t < 24) (h : ND A g a i d) : PM yX3_missOf cX3_missOf 2 (Option.some (Jvm.ClassFile.FieldType.object "ViewBroadcast$Miss")) rm_X3_missOf [.ref (A a), .int (nI t)] P A g (fun v g' => v = some (.ref (A (a + 10 + 3 * t))) ∧ g = g') := by
  refine px_intro (by decide +kernel) (Nat.le_of_ble_eq_true rfl) (fun K sz C R => ?_)
  show V K 0 0 P A g [(0, .ref (A a)), (1, .int (nI t))] 0 []
  refine g_iload_n (pc := 0) C dX3_missOf_0 1 rfl ?_
  refine g_if_lt (pc := 1) C dX3_missOf_1 (tgt := 19) (by decide) (fun c_1 => ?_) (fun c_1 => ?_)
  ·
    have c_1 : t < 0 := (nI_ltI (by omega) (by omega)).mp c_1
    exfalso; omega
  ·
    have c_1 : ¬ t < 0 := fun h => c_1 ((nI_ltI (by omega) (by omega)).mpr h)
    refine g_iload_n (pc := 4) C dX3_missOf_4 1 rfl ?_
    refine g_bipush (pc := 5) C dX3_missOf_5 (v := nI 24) rfl ?_
    refine g_icmp_ge (pc := 7) C dX3_missOf_7 (tgt := 19) (by decide) (fun c_7 => ?_) (fun c_7 => ?_)
    ·
      have c_7 : 24 ≤ t := (nI_leI (by omega) (by omega)).mp c_7
      exfalso; omega
    ·
      have c_7 : ¬ 24 ≤ t := fun h => c_7 ((nI_leI (by omega) (by omega)).mpr h)
      refine g_aload_n (pc := 10) C dX3_missOf_10 0 rfl ?_
      refine g_get (pc := 11) C (j := 9) h.1 rfl rfl (by decide) u_157 dX3_missOf_11 ?_
      refine g_iload_n (pc := 14) C dX3_missOf_14 1 rfl ?_
      refine g_aldq (pc := 15) C h.2.2.2.2.1 (fun _ => rfl) (nI_clamp (by omega)) (nI_in0 (by omega) (by omega)) dX3_missOf_15 (x := A (a + 10 + 3 * t)) (mrow_at (by omega)) ?_
      refine g_goto (pc := 16) C dX3_missOf_16 (tgt := 25) (by decide) ?_
      exact g_aret (pc := 25) C R (Or.inr ⟨_, rfl⟩) ⟨rfl, rfl, ⟨rfl, rfl⟩⟩ (by decide) (by decide) dX3_missOf_25
abbrev rm_X3_knows : Room := { frames := 1, cells := 0, slots := 0, locals := 21 }
theorem Y_X3_knows : pY yX3_knows cX3_knows 2 (Option.some Jvm.ClassFile.FieldType.boolean) := ⟨u_670, u_671, u_5, u_672⟩
theorem N_X3_knows : yX3_knows.cls ≠ "java/lang/invoke/MethodHandle" ∧ yX3_knows.cls ≠ "java/lang/invoke/VarHandle" ∧ (parseMethodDescriptor yX3_knows.desc).map (fun d => d.parameters.length) = some 1 := by decide +kernel
set_option maxRecDepth 20000 in
set_option maxHeartbeats 4000000 in
theorem c_X3_knows (A : Nat → Nat) (P : List Nat) (g : pM) (a : Nat) {i : Nat} {d : Nd} (t : Nat) (ht : t < 24) (hw : ndW d) (h : ND A g a i d) : PM yX3_knows cX3_knows 2 (Option.some Jvm.ClassFile.FieldType.boolean) rm_X3_knows [.ref (A a), .int (nI t)] P A g (fun v g' => v = some (.int (b32 (nHo d t).isSome)) ∧ g = g') := by
  obtain ⟨hw1, hw2, hw3, hw4⟩ := hw
  refine px_intro (by decide +kernel) (Nat.le_of_ble_eq_true rfl) (fun K sz C R => ?_)
  show V K 0 0 P A g [(0, .ref (A a)), (1, .int (nI t))] 0 []
  refine g_aload_n (pc := 0) C dX3_knows_0 0 rfl ?_
  refine g_iload_n (pc := 1) C dX3_knows_1 1 rfl ?_
  refine g_callV (pc := 2) C (As := [.int (nI t)]) (rest := []) (b := a) (c_X3_hopsOf A P g a t (by omega) h) h.1 rfl rfl Y_X3_hopsOf u_673 N_X3_hopsOf ⟨by decide, by decide⟩ ⟨by decide, by decide⟩ (Nat.le_of_ble_eq_true rfl) rfl dX3_knows_2 ?_
  rintro _ _ _ _ ⟨rfl, rfl, rfl, rfl⟩
  show V K 0 0 P A g [(0, .ref (A a)), (1, .int (nI t))] 5 [.int (onv (nHo d t))]
  refine g_bipush (pc := 5) C dX3_knows_5 (v := (-6)) rfl ?_
  refine g_icmp_eq (pc := 7) C dX3_knows_7 (tgt := 14) (by decide) (fun c_7 => ?_) (fun c_7 => ?_)
  ·
    refine g_iconst (pc := 14) C dX3_knows_14 (v := nI 0) rfl ?_
    exact g_zret (pc := 15) C R (Or.inl rfl) ⟨rfl, rfl, by rw [(onv_none (hw4 t)).mp c_7]; rfl, rfl⟩ (by decide) (by decide) dX3_knows_15
  ·
    refine g_iconst (pc := 10) C dX3_knows_10 (v := nI 1) rfl ?_
    refine g_goto (pc := 11) C dX3_knows_11 (tgt := 15) (by decide) ?_
    exact g_zret (pc := 15) C R (Or.inr rfl) ⟨rfl, rfl, by rw [show (nHo d t).isSome = true from by cases e : nHo d t; exact absurd ((onv_none (hw4 t)).mpr e) c_7; rfl]; rfl, rfl⟩ (by decide) (by decide) dX3_knows_15
abbrev rm_X3_learn : Room := { frames := 2, cells := 0, slots := 0, locals := 40 }
theorem Y_X3_learn : pY yX3_learn cX3_learn 3 (Option.none : Option Jvm.ClassFile.FieldType) := ⟨u_515, u_516, u_5, u_517⟩
theorem N_X3_learn : yX3_learn.cls ≠ "java/lang/invoke/MethodHandle" ∧ yX3_learn.cls ≠ "java/lang/invoke/VarHandle" ∧ (parseMethodDescriptor yX3_learn.desc).map (fun d => d.parameters.length) = some 2 := by decide +kernel
set_option maxRecDepth 20000 in
set_option maxHeartbeats 4000000 in
theorem c_X3_learn (A : Nat → Nat) (P : List Nat) (g : pM) (a : Nat) {i : Nat} {d : Nd} (t n : Nat) (ht : t < 24) (h : ND A g a i d) : PM yX3_learn cX3_learn 3 (Option.none : Option Jvm.ClassFile.FieldType) rm_X3_learn [.ref (A a), .int (nI t), .int (nI n)] P A g (fun v g' => v = none ∧ ND A g' a i (sMi (sHo d (va_up (nHo d) t (some n))) (va_up (nMi d) t none)) ∧ Fr g g' a (a + 100)) := by
  obtain ⟨hrow, hho, hhr⟩ := h.2.2.2.1
  refine px_intro (by decide +kernel) (Nat.le_of_ble_eq_true rfl) (fun K sz C R => ?_)
  show V K 0 0 P A g [(0, .ref (A a)), (1, .int (nI t)), (2, .int (nI n))] 0 []
  refine g_iload_n (pc := 0) C dX3_learn_0 1 rfl ?_
  refine g_if_lt (pc := 1) C dX3_learn_1 (tgt := 26) (by decide) (fun c_1 => ?_) (fun c_1 => ?_)
  ·
    have c_1 : t < 0 := (nI_ltI (by omega) (by omega)).mp c_1
    exfalso; omega
  ·
    have c_1 : ¬ t < 0 := fun h => c_1 ((nI_ltI (by omega) (by omega)).mpr h)
    refine g_iload_n (pc := 4) C dX3_learn_4 1 rfl ?_
    refine g_bipush (pc := 5) C dX3_learn_5 (v := nI 24) rfl ?_
    refine g_icmp_ge (pc := 7) C dX3_learn_7 (tgt := 26) (by decide) (fun c_7 => ?_) (fun c_7 => ?_)
    ·
      have c_7 : 24 ≤ t := (nI_leI (by omega) (by omega)).mp c_7
      exfalso; omega
    ·
      have c_7 : ¬ 24 ≤ t := fun h => c_7 ((nI_leI (by omega) (by omega)).mpr h)
      refine g_aload_n (pc := 10) C dX3_learn_10 0 rfl ?_
      refine g_get (pc := 11) C (j := 8) h.1 rfl rfl (by decide) u_156 dX3_learn_11 ?_
      refine g_iload_n (pc := 14) C dX3_learn_14 1 rfl ?_
      refine g_iload_n (pc := 15) C dX3_learn_15 2 rfl ?_
      refine g_iast (pc := 16) C hho (nI_clamp (by omega)) (nI_in0 (n := 24) (by omega) (by omega)) dX3_learn_16 ?_
      obtain ⟨g_1, hg_1⟩ : ∃ yM : pM, yM = va_up g (a + 5) (ai 0 24 (upd hrow t (nI n))) := ⟨_, rfl⟩
      show V K 0 0 P A (va_up g (a + 5) (ai 0 24 (upd hrow t (nI n)))) [(0, .ref (A a)), (1, .int (nI t)), (2, .int (nI n))] 17 []
      rw [← hg_1]
      have h_2 : g_1 (a + 5) = ai 0 24 (upd hrow t (nI n)) := by rw [hg_1]; exact va_up_self _ _ _
      have hfa : Fr g g_1 (a + 5) (a + 6) := by rw [hg_1]; exact Fr.up (by omega) (by omega)
      have hNa := ND.ho h hfa (HO.up (some n) hhr h_2)
      refine g_aload_n (pc := 17) C dX3_learn_17 0 rfl ?_
      refine g_get (pc := 18) C (j := 9) hNa.1 rfl rfl (by decide) u_157 dX3_learn_18 ?_
      refine g_iload_n (pc := 21) C dX3_learn_21 1 rfl ?_
      refine g_aldq (pc := 22) C hNa.2.2.2.2.1 (fun _ => rfl) (nI_clamp (by omega)) (nI_in0 (by omega) (by omega)) dX3_learn_22 (x := A (a + 10 + 3 * t)) (mrow_at (by omega)) ?_
      refine g_callV (pc := 23) C (As := []) (rest := []) (b := (a + 10 + 3 * t)) (c_X2_end A P g_1 (a + 10 + 3 * t) (hNa.2.2.2.2.2 t (by omega))) (hNa.2.2.2.2.2 t (by omega)).1 rfl rfl Y_X2_end u_376 N_X2_end ⟨by decide, by decide⟩ ⟨by decide, by decide⟩ (Nat.le_of_ble_eq_true rfl) rfl dX3_learn_23 ?_
      rintro _ _ _ g_3 ⟨rfl, rfl, rfl, hn_4, hf_5⟩
      have hN_6 := ND.mi hNa (by omega) hf_5 hn_4
      show V K 0 0 P A g_3 [(0, .ref (A a)), (1, .int (nI t)), (2, .int (nI n))] 26 []
      exact g_vret (pc := 26) C R ⟨rfl, rfl, rfl, hN_6, (Fr.mo hfa (by omega) (by omega)).tr (Fr.mo hf_5 (by omega) (by omega))⟩ (by decide) (by decide) dX3_learn_26
abbrev rm_X3_heardCount : Room := { frames := 2, cells := 0, slots := 0, locals := 42 }
theorem Y_X3_heardCount : pY yX3_heardCount cX3_heardCount 3 (Option.some Jvm.ClassFile.FieldType.int) := ⟨u_730, u_731, u_5, u_732⟩
theorem N_X3_heardCount : yX3_heardCount.cls ≠ "java/lang/invoke/MethodHandle" ∧ yX3_heardCount.cls ≠ "java/lang/invoke/VarHandle" ∧ (parseMethodDescriptor yX3_heardCount.desc).map (fun d => d.parameters.length) = some 0 := by decide +kernel
set_option maxRecDepth 20000 in
set_option maxHeartbeats 4000000 in
theorem c_X3_heardCount (A : Nat → Nat) (P : List Nat) (g : pM) (a : Nat) {i : Nat} {d : Nd} (hw : ndW d) (h : ND A g a i d) : PM yX3_heardCount cX3_heardCount 3 (Option.some Jvm.ClassFile.FieldType.int) rm_X3_heardCount [.ref (A a)] P A g (fun v g' => v = some (.int (nI (ct (fun t => (nHo d t).isSome) 24))) ∧ g = g') := by
  refine px_intro (by decide +kernel) (Nat.le_of_ble_eq_true rfl) (fun K sz C R => ?_)
  show V K 0 0 P A g [(0, .ref (A a))] 0 []
  refine g_iconst (pc := 0) C dX3_heardCount_0 (v := nI 0) rfl ?_
  refine g_istore_n (pc := 1) C dX3_heardCount_1 (by decide) (lv' := [(0, .ref (A a)), (1, .int (nI 0))]) [1, 0] rfl ?_
  refine g_iconst (pc := 2) C dX3_heardCount_2 (v := nI 0) rfl ?_
  refine g_istore_n (pc := 3) C dX3_heardCount_3 (by decide) (lv' := [(0, .ref (A a)), (1, .int (nI 0)), (2, .int (nI 0))]) [1, 2, 0] rfl ?_
  have lp_4 : ∀ (n : Nat) (t : Nat) (ht : t ≤ 24), 24 - t < n → V K 0 0 P A g [(0, .ref (A a)), (1, .int (nI (ct (fun t => (nHo d t).isSome) t))), (2, .int (nI t))] 4 [] := by
    intro n
    induction n with
    | zero => intro t ht hμ; exact absurd hμ (Nat.not_lt_zero _)
    | succ n ih =>
      intro t ht hμ
      refine g_iload_n (pc := 4) C dX3_heardCount_4 2 rfl ?_
      refine g_bipush (pc := 5) C dX3_heardCount_5 (v := nI 24) rfl ?_
      refine g_icmp_ge (pc := 7) C dX3_heardCount_7 (tgt := 32) (by decide) (fun c_7 => ?_) (fun c_7 => ?_)
      ·
        have c_7 : 24 ≤ t := (nI_leI (by omega) (by omega)).mp c_7
        refine g_iload_n (pc := 32) C dX3_heardCount_32 1 rfl ?_
        exact g_iret (pc := 33) C R ⟨rfl, rfl, by rw [show t = 24 by omega], rfl⟩ (by decide) (by decide) dX3_heardCount_33
      ·
        have c_7 : ¬ 24 ≤ t := fun h => c_7 ((nI_leI (by omega) (by omega)).mpr h)
        refine g_iload_n (pc := 10) C dX3_heardCount_10 1 rfl ?_
        refine g_aload_n (pc := 11) C dX3_heardCount_11 0 rfl ?_
        refine g_iload_n (pc := 12) C dX3_heardCount_12 2 rfl ?_
        refine g_callV (pc := 13) C (As := [.int (nI t)]) (rest := [.int (nI (ct (fun t => (nHo d t).isSome) t))]) (b := a) (c_X3_knows A P g a t (by omega) (by assumption) h) h.1 rfl rfl Y_X3_knows u_733 N_X3_knows ⟨by decide, by decide⟩ ⟨by decide, by decide⟩ (Nat.le_of_ble_eq_true rfl) rfl dX3_heardCount_13 ?_
        rintro _ _ _ _ ⟨rfl, rfl, rfl, rfl⟩
        show V K 0 0 P A g [(0, .ref (A a)), (1, .int (nI (ct (fun t => (nHo d t).isSome) t))), (2, .int (nI t))] 16 [.int (b32 (nHo d t).isSome), .int (nI (ct (fun t => (nHo d t).isSome) t))]
        refine g_if_eq (pc := 16) C dX3_heardCount_16 (tgt := 23) (by decide) (fun c_16 => ?_) (fun c_16 => ?_)
        ·
          refine g_iconst (pc := 23) C dX3_heardCount_23 (v := nI 0) rfl ?_
          refine g_iadd (pc := 24) C dX3_heardCount_24 (z := nI (ct (fun t => (nHo d t).isSome) (t + 1))) (by rw [nI_add]; congr 1; simp only [ct]; rw [if_neg (by rw [(b32_0 _).mp c_16]; decide)]) ?_
          refine g_istore_n (pc := 25) C dX3_heardCount_25 (by decide) (lv' := [(0, .ref (A a)), (1, .int (nI (ct (fun t => (nHo d t).isSome) (t + 1)))), (2, .int (nI t))]) [1, 0, 2] rfl ?_
          refine g_iinc (pc := 26) C dX3_heardCount_26 (by decide) 2 rfl (v := nI (t + 1)) (nI_i1 _) (lv' := [(0, .ref (A a)), (1, .int (nI (ct (fun t => (nHo d t).isSome) (t + 1)))), (2, .int (nI (t + 1)))]) [1, 2, 0] rfl ?_
          refine g_goto (pc := 29) C dX3_heardCount_29 (tgt := 4) (by decide) ?_
          exact ih (t + 1) (by omega) (by omega)
        ·
          refine g_iconst (pc := 19) C dX3_heardCount_19 (v := nI 1) rfl ?_
          refine g_goto (pc := 20) C dX3_heardCount_20 (tgt := 24) (by decide) ?_
          refine g_iadd (pc := 24) C dX3_heardCount_24 (z := nI (ct (fun t => (nHo d t).isSome) (t + 1))) (by rw [nI_add]; congr 1; simp only [ct]; rw [if_pos (by cases e : (nHo d t).isSome; exact absurd ((b32_0 _).mpr e) c_16; rfl)]) ?_
          refine g_istore_n (pc := 25) C dX3_heardCount_25 (by decide) (lv' := [(0, .ref (A a)), (1, .int (nI (ct (fun t => (nHo d t).isSome) (t + 1)))), (2, .int (nI t))]) [1, 0, 2] rfl ?_
          refine g_iinc (pc := 26) C dX3_heardCount_26 (by decide) 2 rfl (v := nI (t + 1)) (nI_i1 _) (lv' := [(0, .ref (A a)), (1, .int (nI (ct (fun t => (nHo d t).isSome) (t + 1)))), (2, .int (nI (t + 1)))]) [1, 2, 0] rfl ?_
          refine g_goto (pc := 29) C dX3_heardCount_29 (tgt := 4) (by decide) ?_
          exact ih (t + 1) (by omega) (by omega)
  exact lp_4 (_ + 1) 0 (Nat.zero_le _) (Nat.lt_succ_self _)
abbrev rm_X3_missedCount : Room := { frames := 0, cells := 0, slots := 0, locals := 0 }
theorem Y_X3_missedCount : pY yX3_missedCount cX3_missedCount 3 (Option.some Jvm.ClassFile.FieldType.int) := ⟨u_735, u_736, u_5, u_737⟩
theorem N_X3_missedCount : yX3_missedCount.cls ≠ "java/lang/invoke/MethodHandle" ∧ yX3_missedCount.cls ≠ "java/lang/invoke/VarHandle" ∧ (parseMethodDescriptor yX3_missedCount.desc).map (fun d => d.parameters.length) = some 0 := by decide +kernel
set_option maxRecDepth 20000 in
set_option maxHeartbeats 4000000 in
theorem c_X3_missedCount (A : Nat → Nat) (P : List Nat) (g : pM) (a : Nat) {i : Nat} {d : Nd} (h : ND A g a i d) : PM yX3_missedCount cX3_missedCount 3 (Option.some Jvm.ClassFile.FieldType.int) rm_X3_missedCount [.ref (A a)] P A g (fun v g' => v = some (.int (nI (ct (fun t => (nMi d t).isSome) 24))) ∧ g = g') := by
  refine px_intro (by decide +kernel) (Nat.le_of_ble_eq_true rfl) (fun K sz C R => ?_)
  show V K 0 0 P A g [(0, .ref (A a))] 0 []
  refine g_iconst (pc := 0) C dX3_missedCount_0 (v := nI 0) rfl ?_
  refine g_istore_n (pc := 1) C dX3_missedCount_1 (by decide) (lv' := [(0, .ref (A a)), (1, .int (nI 0))]) [1, 0] rfl ?_
  refine g_iconst (pc := 2) C dX3_missedCount_2 (v := nI 0) rfl ?_
  refine g_istore_n (pc := 3) C dX3_missedCount_3 (by decide) (lv' := [(0, .ref (A a)), (1, .int (nI 0)), (2, .int (nI 0))]) [1, 2, 0] rfl ?_
  have lp_4 : ∀ (n : Nat) (t : Nat) (ht : t ≤ 24), 24 - t < n → V K 0 0 P A g [(0, .ref (A a)), (1, .int (nI (ct (fun t => (nMi d t).isSome) t))), (2, .int (nI t))] 4 [] := by
    intro n
    induction n with
    | zero => intro t ht hμ; exact absurd hμ (Nat.not_lt_zero _)
    | succ n ih =>
      intro t ht hμ
      refine g_iload_n (pc := 4) C dX3_missedCount_4 2 rfl ?_
      refine g_bipush (pc := 5) C dX3_missedCount_5 (v := nI 24) rfl ?_
      refine g_icmp_ge (pc := 7) C dX3_missedCount_7 (tgt := 36) (by decide) (fun c_7 => ?_) (fun c_7 => ?_)
      ·
        have c_7 : 24 ≤ t := (nI_leI (by omega) (by omega)).mp c_7
        refine g_iload_n (pc := 36) C dX3_missedCount_36 1 rfl ?_
        exact g_iret (pc := 37) C R ⟨rfl, rfl, by rw [show t = 24 by omega], rfl⟩ (by decide) (by decide) dX3_missedCount_37
      ·
        have c_7 : ¬ 24 ≤ t := fun h => c_7 ((nI_leI (by omega) (by omega)).mpr h)
        refine g_iload_n (pc := 10) C dX3_missedCount_10 1 rfl ?_
        refine g_aload_n (pc := 11) C dX3_missedCount_11 0 rfl ?_
        refine g_get (pc := 12) C (j := 9) h.1 rfl rfl (by decide) u_157 dX3_missedCount_12 ?_
        refine g_iload_n (pc := 15) C dX3_missedCount_15 2 rfl ?_
        refine g_aldq (pc := 16) C h.2.2.2.2.1 (fun _ => rfl) (nI_clamp (by omega)) (nI_in0 (by omega) (by omega)) dX3_missedCount_16 (x := A (a + 10 + 3 * t)) (mrow_at (by omega)) ?_
        refine g_get (pc := 17) C (j := 0) (h.2.2.2.2.2 t (by omega)).1 rfl rfl (by decide) u_115 dX3_missedCount_17 ?_
        refine g_if_eq (pc := 20) C dX3_missedCount_20 (tgt := 27) (by decide) (fun c_20 => ?_) (fun c_20 => ?_)
        ·
          refine g_iconst (pc := 27) C dX3_missedCount_27 (v := nI 0) rfl ?_
          refine g_iadd (pc := 28) C dX3_missedCount_28 (z := nI (ct (fun t => (nMi d t).isSome) (t + 1))) (by rw [nI_add]; congr 1; simp only [ct]; rw [if_neg (by rw [(miO_0 _).mp c_20]; decide)]) ?_
          refine g_istore_n (pc := 29) C dX3_missedCount_29 (by decide) (lv' := [(0, .ref (A a)), (1, .int (nI (ct (fun t => (nMi d t).isSome) (t + 1)))), (2, .int (nI t))]) [1, 0, 2] rfl ?_
          refine g_iinc (pc := 30) C dX3_missedCount_30 (by decide) 2 rfl (v := nI (t + 1)) (nI_i1 _) (lv' := [(0, .ref (A a)), (1, .int (nI (ct (fun t => (nMi d t).isSome) (t + 1)))), (2, .int (nI (t + 1)))]) [1, 2, 0] rfl ?_
          refine g_goto (pc := 33) C dX3_missedCount_33 (tgt := 4) (by decide) ?_
          exact ih (t + 1) (by omega) (by omega)
        ·
          refine g_iconst (pc := 23) C dX3_missedCount_23 (v := nI 1) rfl ?_
          refine g_goto (pc := 24) C dX3_missedCount_24 (tgt := 28) (by decide) ?_
          refine g_iadd (pc := 28) C dX3_missedCount_28 (z := nI (ct (fun t => (nMi d t).isSome) (t + 1))) (by rw [nI_add]; congr 1; simp only [ct]; rw [if_pos (by cases e : (nMi d t).isSome; exact absurd ((miO_0 _).mpr e) c_20; rfl)]) ?_
          refine g_istore_n (pc := 29) C dX3_missedCount_29 (by decide) (lv' := [(0, .ref (A a)), (1, .int (nI (ct (fun t => (nMi d t).isSome) (t + 1)))), (2, .int (nI t))]) [1, 0, 2] rfl ?_
          refine g_iinc (pc := 30) C dX3_missedCount_30 (by decide) 2 rfl (v := nI (t + 1)) (nI_i1 _) (lv' := [(0, .ref (A a)), (1, .int (nI (ct (fun t => (nMi d t).isSome) (t + 1)))), (2, .int (nI (t + 1)))]) [1, 2, 0] rfl ?_
          refine g_goto (pc := 33) C dX3_missedCount_33 (tgt := 4) (by decide) ?_
          exact ih (t + 1) (by omega) (by omega)
  exact lp_4 (_ + 1) 0 (Nat.zero_le _) (Nat.lt_succ_self _)
abbrev rm_X3_unlink : Room := { frames := 2, cells := 0, slots := 0, locals := 43 }
theorem Y_X3_unlink : pY yX3_unlink cX3_unlink 3 (Option.none : Option Jvm.ClassFile.FieldType) := ⟨u_613, u_614, u_5, u_615⟩
theorem N_X3_unlink : yX3_unlink.cls ≠ "java/lang/invoke/MethodHandle" ∧ yX3_unlink.cls ≠ "java/lang/invoke/VarHandle" ∧ (parseMethodDescriptor yX3_unlink.desc).map (fun d => d.parameters.length) = some 1 := by decide +kernel
set_option maxRecDepth 20000 in
set_option maxHeartbeats 4000000 in
theorem c_X3_unlink (A : Nat → Nat) (P : List Nat) (g : pM) (a : Nat) {i : Nat} {d : Nd} (q : Nat) (hq : q < 16) (hw : ndW d) (h : ND A g a i d) : PM yX3_unlink cX3_unlink 3 (Option.none : Option Jvm.ClassFile.FieldType) rm_X3_unlink [.ref (A a), .int (nI q)] P A g (fun v g' => v = none ∧ ND A g' a i (uln d q) ∧ Fr g g' a (a + 100)) := by
  refine px_intro (by decide +kernel) (Nat.le_of_ble_eq_true rfl) (fun K sz C R => ?_)
  show V K 0 0 P A g [(0, .ref (A a)), (1, .int (nI q))] 0 []
  refine g_aload_n (pc := 0) C dX3_unlink_0 0 rfl ?_
  refine g_get (pc := 1) C (j := 2) h.1 rfl rfl (by decide) u_137 dX3_unlink_1 ?_
  refine g_iload_n (pc := 4) C dX3_unlink_4 1 rfl ?_
  refine g_callV (pc := 5) C (As := [.int (nI q)]) (rest := []) (b := (a + 1)) (n_X4_remove A P g (a + 1) q (by omega) h.2.1) (NLN.o h.2.1) rfl rfl Y_X4_remove u_616 N_X4_remove ⟨by decide, by decide⟩ ⟨by decide, by decide⟩ (Nat.le_of_ble_eq_true rfl) rfl dX3_unlink_5 ?_
  rintro _ _ _ g_1 ⟨rfl, rfl, rfl, hn_2, hf_3⟩
  have hN_4 := ND.ac h hf_3 hn_2
  show V K 0 0 P A g_1 [(0, .ref (A a)), (1, .int (nI q))] 8 []
  have hw_2 : ndW (sAc d ((nAc d).erase q)) := hw
  refine g_aload_n (pc := 8) C dX3_unlink_8 0 rfl ?_
  refine g_iload_n (pc := 9) C dX3_unlink_9 1 rfl ?_
  refine g_callV (pc := 10) C (As := [.int (nI q)]) (rest := []) (b := a) (c_X3_makeEager A P g_1 a q (by omega) (by assumption) hN_4) hN_4.1 rfl rfl Y_X3_makeEager u_617 N_X3_makeEager ⟨by decide, by decide⟩ ⟨by decide, by decide⟩ (Nat.le_of_ble_eq_true rfl) rfl dX3_unlink_10 ?_
  rintro _ _ _ g_5 ⟨rfl, rfl, rfl, hn_6, hf_7⟩
  show V K 0 0 P A g_5 [(0, .ref (A a)), (1, .int (nI q))] 13 []
  refine g_iconst (pc := 13) C dX3_unlink_13 (v := nI 0) rfl ?_
  refine g_istore_n (pc := 14) C dX3_unlink_14 (by decide) (lv' := [(0, .ref (A a)), (1, .int (nI q)), (2, .int (nI 0))]) [1, 2, 0] rfl ?_
  have lp_15 : ∀ (n : Nat) (t : Nat) (ht : t ≤ 24) (gl : pM) (hN : ND A gl a i (sMi (uln d q) (mix2 (fun t => muq q (nMi d t)) (nMi d) t))) (hf : Fr g gl a (a + 100)), 24 - t < n → V K 0 0 P A gl [(0, .ref (A a)), (1, .int (nI q)), (2, .int (nI t))] 15 [] := by
    intro n
    induction n with
    | zero => intro t ht gl hN hf hμ; exact absurd hμ (Nat.not_lt_zero _)
    | succ n ih =>
      intro t ht gl hN hf hμ
      refine g_iload_n (pc := 15) C dX3_unlink_15 2 rfl ?_
      refine g_bipush (pc := 16) C dX3_unlink_16 (v := nI 24) rfl ?_
      refine g_icmp_ge (pc := 18) C dX3_unlink_18 (tgt := 40) (by decide) (fun c_18 => ?_) (fun c_18 => ?_)
      ·
        have c_18 : 24 ≤ t := (nI_leI (by omega) (by omega)).mp c_18
        exact g_vret (pc := 40) C R ⟨rfl, rfl, rfl, nd_unl (show t = 24 by omega) hN, hf⟩ (by decide) (by decide) dX3_unlink_40
      ·
        have c_18 : ¬ 24 ≤ t := fun h => c_18 ((nI_leI (by omega) (by omega)).mpr h)
        refine g_aload_n (pc := 21) C dX3_unlink_21 0 rfl ?_
        refine g_get (pc := 22) C (j := 9) hN.1 rfl rfl (by decide) u_157 dX3_unlink_22 ?_
        refine g_iload_n (pc := 25) C dX3_unlink_25 2 rfl ?_
        refine g_aldq (pc := 26) C hN.2.2.2.2.1 (fun _ => rfl) (nI_clamp (by omega)) (nI_in0 (by omega) (by omega)) dX3_unlink_26 (x := A (a + 10 + 3 * t)) (mrow_at (by omega)) ?_
        refine g_get (pc := 27) C (j := 2) (hN.2.2.2.2.2 t (by omega)).1 rfl rfl (by decide) u_120 dX3_unlink_27 ?_
        refine g_iload_n (pc := 30) C dX3_unlink_30 1 rfl ?_
        refine g_callV (pc := 31) C (As := [.int (nI q)]) (rest := []) (b := (a + 10 + 3 * t + 1)) (n_X4_remove A P gl (a + 10 + 3 * t + 1) q hq (hN.2.2.2.2.2 t (by omega)).2) (NLN.o (hN.2.2.2.2.2 t (by omega)).2) rfl rfl Y_X4_remove u_616 N_X4_remove ⟨by decide, by decide⟩ ⟨by decide, by decide⟩ (Nat.le_of_ble_eq_true rfl) rfl dX3_unlink_31 ?_
        rintro _ _ _ g2 ⟨rfl, rfl, rfl, hn2, hf2⟩
        have hm2 : MS A g2 (a + 10 + 3 * t) (muq q (nMi d t)) := ms_unl (by have := hN.2.2.2.2.2 t (by omega); rw [show nMi (sMi (uln d q) (mix2 (fun t => muq q (nMi d t)) (nMi d) t)) t = nMi d t from mix2_g (fun t => muq q (nMi d t)) (nMi d)] at this; exact this) hf2 (by rw [show nMi (sMi (uln d q) (mix2 (fun t => muq q (nMi d t)) (nMi d) t)) t = nMi d t from mix2_g (fun t => muq q (nMi d t)) (nMi d)] at hn2; exact hn2)
        have hN2 := ND.mi hN (by omega) (hf2.mo (by omega) (by omega)) hm2
        show V K 0 0 P A g2 [(0, .ref (A a)), (1, .int (nI q)), (2, .int (nI t))] 34 []
        refine g_iinc (pc := 34) C dX3_unlink_34 (by decide) 2 rfl (v := nI (t + 1)) (nI_i1 _) (lv' := [(0, .ref (A a)), (1, .int (nI q)), (2, .int (nI (t + 1)))]) [1, 2, 0] rfl ?_
        refine g_goto (pc := 37) C dX3_unlink_37 (tgt := 15) (by decide) ?_
        exact ih (t + 1) (by omega) _ (by rw [← mix2_s]; exact hN2) (hf.tr (hf2.mo (by omega) (by omega))) (by omega)
  exact lp_15 (_ + 1) 0 (Nat.zero_le _) _ (by rw [mix2_0]; exact hn_6) ((Fr.tr (Fr.mo hf_3 (by omega) (by omega)) (Fr.mo hf_7 (by omega) (by omega)) : Fr g _ a (a + 100)).mo (by omega) (by omega)) (Nat.lt_succ_self _)
abbrev rm_X3_begin : Room := { frames := 2, cells := 0, slots := 0, locals := 40 }
theorem Y_X3_begin : pY yX3_begin cX3_begin 2 (Option.none : Option Jvm.ClassFile.FieldType) := ⟨u_369, u_370, u_5, u_371⟩
theorem N_X3_begin : yX3_begin.cls ≠ "java/lang/invoke/MethodHandle" ∧ yX3_begin.cls ≠ "java/lang/invoke/VarHandle" ∧ (parseMethodDescriptor yX3_begin.desc).map (fun d => d.parameters.length) = some 0 := by decide +kernel
set_option maxRecDepth 20000 in
set_option maxHeartbeats 4000000 in
theorem c_X3_begin (A : Nat → Nat) (P : List Nat) (g : pM) (a : Nat) {i : Nat} {d : Nd} (h : ND A g a i d) : PM yX3_begin cX3_begin 2 (Option.none : Option Jvm.ClassFile.FieldType) rm_X3_begin [.ref (A a)] P A g (fun v g' => v = none ∧ ND A g' a i (nd0) ∧ Fr g g' a (a + 100)) := by
  refine px_intro (by decide +kernel) (Nat.le_of_ble_eq_true rfl) (fun K sz C R => ?_)
  show V K 0 0 P A g [(0, .ref (A a))] 0 []
  refine g_aload_n (pc := 0) C dX3_begin_0 0 rfl ?_
  refine g_iconst (pc := 1) C dX3_begin_1 (v := nI 1) rfl ?_
  refine g_put (pc := 2) C (j := 1) h.1 rfl (by decide) (Nat.le_of_ble_eq_true rfl) u_133 rfl pfd_Z rfl rfl dX3_begin_2 ?_
  obtain ⟨g_1, hg_1⟩ : ∃ yM : pM, yM = va_up g a (ob 3 [.int (nI i), .int (nI 1), .ref (A (a + 1)), .ref (A (a + 3)), .int (nI (nLz d)), .int (onv (nAs d)), .int (nI (nAk d)), .int (nGo d), .ref (A (a + 5)), .ref (A (a + 6))]) := ⟨_, rfl⟩
  show V K 0 0 P A (va_up g a (ob 3 [.int (nI i), .int (nI 1), .ref (A (a + 1)), .ref (A (a + 3)), .int (nI (nLz d)), .int (onv (nAs d)), .int (nI (nAk d)), .int (nGo d), .ref (A (a + 5)), .ref (A (a + 6))])) [(0, .ref (A a))] 5 []
  rw [← hg_1]
  have hN_2 : ND A g_1 a i (sLv d true) := ND.put h hg_1 rfl rfl rfl rfl
  refine g_aload_n (pc := 5) C dX3_begin_5 0 rfl ?_
  refine g_get (pc := 6) C (j := 2) hN_2.1 rfl rfl (by decide) u_137 dX3_begin_6 ?_
  refine g_callV (pc := 9) C (As := []) (rest := []) (b := (a + 1)) (n_X4_clear A P g_1 (a + 1) hN_2.2.1) (NLN.o hN_2.2.1) rfl rfl Y_X4_clear u_372 N_X4_clear ⟨by decide, by decide⟩ ⟨by decide, by decide⟩ (Nat.le_of_ble_eq_true rfl) rfl dX3_begin_9 ?_
  rintro _ _ _ g_3 ⟨rfl, rfl, rfl, hn_4, hf_5⟩
  have hN_6 := ND.ac hN_2 hf_5 hn_4
  show V K 0 0 P A g_3 [(0, .ref (A a))] 12 []
  refine g_aload_n (pc := 12) C dX3_begin_12 0 rfl ?_
  refine g_get (pc := 13) C (j := 3) hN_6.1 rfl rfl (by decide) u_142 dX3_begin_13 ?_
  refine g_callV (pc := 16) C (As := []) (rest := []) (b := (a + 3)) (n_X4_clear A P g_3 (a + 3) hN_6.2.2.1) (NLN.o hN_6.2.2.1) rfl rfl Y_X4_clear u_372 N_X4_clear ⟨by decide, by decide⟩ ⟨by decide, by decide⟩ (Nat.le_of_ble_eq_true rfl) rfl dX3_begin_16 ?_
  rintro _ _ _ g_7 ⟨rfl, rfl, rfl, hn_8, hf_9⟩
  have hN_10 := ND.pa hN_6 hf_9 hn_8
  show V K 0 0 P A g_7 [(0, .ref (A a))] 19 []
  refine g_aload_n (pc := 19) C dX3_begin_19 0 rfl ?_
  refine g_iconst (pc := 20) C dX3_begin_20 (v := nI 0) rfl ?_
  refine g_put (pc := 21) C (j := 4) hN_10.1 rfl (by decide) (Nat.le_of_ble_eq_true rfl) u_145 rfl pfd_I rfl rfl dX3_begin_21 ?_
  obtain ⟨g_11, hg_11⟩ : ∃ yM : pM, yM = va_up g_7 a (ob 3 [.int (nI i), .int (b32 (nLv (sPa (sAc (sLv d true) ([])) ([])))), .ref (A (a + 1)), .ref (A (a + 3)), .int (nI 0), .int (onv (nAs (sPa (sAc (sLv d true) ([])) ([])))), .int (nI (nAk (sPa (sAc (sLv d true) ([])) ([])))), .int (nGo (sPa (sAc (sLv d true) ([])) ([]))), .ref (A (a + 5)), .ref (A (a + 6))]) := ⟨_, rfl⟩
  show V K 0 0 P A (va_up g_7 a (ob 3 [.int (nI i), .int (b32 (nLv (sPa (sAc (sLv d true) ([])) ([])))), .ref (A (a + 1)), .ref (A (a + 3)), .int (nI 0), .int (onv (nAs (sPa (sAc (sLv d true) ([])) ([])))), .int (nI (nAk (sPa (sAc (sLv d true) ([])) ([])))), .int (nGo (sPa (sAc (sLv d true) ([])) ([]))), .ref (A (a + 5)), .ref (A (a + 6))])) [(0, .ref (A a))] 24 []
  rw [← hg_11]
  have hN_12 : ND A g_11 a i (sLz (sPa (sAc (sLv d true) ([])) ([])) 0) := ND.put hN_10 hg_11 rfl rfl rfl rfl
  refine g_aload_n (pc := 24) C dX3_begin_24 0 rfl ?_
  refine g_bipush (pc := 25) C dX3_begin_25 (v := (-6)) rfl ?_
  refine g_put (pc := 27) C (j := 5) hN_12.1 rfl (by decide) (Nat.le_of_ble_eq_true rfl) u_146 rfl pfd_I rfl rfl dX3_begin_27 ?_
  obtain ⟨g_13, hg_13⟩ : ∃ yM : pM, yM = va_up g_11 a (ob 3 [.int (nI i), .int (b32 (nLv (sLz (sPa (sAc (sLv d true) ([])) ([])) 0))), .ref (A (a + 1)), .ref (A (a + 3)), .int (nI (nLz (sLz (sPa (sAc (sLv d true) ([])) ([])) 0))), .int (-6), .int (nI (nAk (sLz (sPa (sAc (sLv d true) ([])) ([])) 0))), .int (nGo (sLz (sPa (sAc (sLv d true) ([])) ([])) 0)), .ref (A (a + 5)), .ref (A (a + 6))]) := ⟨_, rfl⟩
  show V K 0 0 P A (va_up g_11 a (ob 3 [.int (nI i), .int (b32 (nLv (sLz (sPa (sAc (sLv d true) ([])) ([])) 0))), .ref (A (a + 1)), .ref (A (a + 3)), .int (nI (nLz (sLz (sPa (sAc (sLv d true) ([])) ([])) 0))), .int (-6), .int (nI (nAk (sLz (sPa (sAc (sLv d true) ([])) ([])) 0))), .int (nGo (sLz (sPa (sAc (sLv d true) ([])) ([])) 0)), .ref (A (a + 5)), .ref (A (a + 6))])) [(0, .ref (A a))] 30 []
  rw [← hg_13]
  have hN_14 : ND A g_13 a i (sAs (sLz (sPa (sAc (sLv d true) ([])) ([])) 0) none) := ND.put hN_12 hg_13 rfl rfl rfl rfl
  refine g_aload_n (pc := 30) C dX3_begin_30 0 rfl ?_
  refine g_iconst (pc := 31) C dX3_begin_31 (v := nI 0) rfl ?_
  refine g_put (pc := 32) C (j := 6) hN_14.1 rfl (by decide) (Nat.le_of_ble_eq_true rfl) u_150 rfl pfd_I rfl rfl dX3_begin_32 ?_
  obtain ⟨g_15, hg_15⟩ : ∃ yM : pM, yM = va_up g_13 a (ob 3 [.int (nI i), .int (b32 (nLv (sAs (sLz (sPa (sAc (sLv d true) ([])) ([])) 0) none))), .ref (A (a + 1)), .ref (A (a + 3)), .int (nI (nLz (sAs (sLz (sPa (sAc (sLv d true) ([])) ([])) 0) none))), .int (onv (nAs (sAs (sLz (sPa (sAc (sLv d true) ([])) ([])) 0) none))), .int (nI 0), .int (nGo (sAs (sLz (sPa (sAc (sLv d true) ([])) ([])) 0) none)), .ref (A (a + 5)), .ref (A (a + 6))]) := ⟨_, rfl⟩
  show V K 0 0 P A (va_up g_13 a (ob 3 [.int (nI i), .int (b32 (nLv (sAs (sLz (sPa (sAc (sLv d true) ([])) ([])) 0) none))), .ref (A (a + 1)), .ref (A (a + 3)), .int (nI (nLz (sAs (sLz (sPa (sAc (sLv d true) ([])) ([])) 0) none))), .int (onv (nAs (sAs (sLz (sPa (sAc (sLv d true) ([])) ([])) 0) none))), .int (nI 0), .int (nGo (sAs (sLz (sPa (sAc (sLv d true) ([])) ([])) 0) none)), .ref (A (a + 5)), .ref (A (a + 6))])) [(0, .ref (A a))] 35 []
  rw [← hg_15]
  have hN_16 : ND A g_15 a i (sAk (sAs (sLz (sPa (sAc (sLv d true) ([])) ([])) 0) none) 0) := ND.put hN_14 hg_15 rfl rfl rfl rfl
  refine g_aload_n (pc := 35) C dX3_begin_35 0 rfl ?_
  refine g_iconst (pc := 36) C dX3_begin_36 (v := nI 0) rfl ?_
  refine g_put (pc := 37) C (j := 7) hN_16.1 rfl (by decide) (Nat.le_of_ble_eq_true rfl) u_153 rfl pfd_I rfl rfl dX3_begin_37 ?_
  obtain ⟨g_17, hg_17⟩ : ∃ yM : pM, yM = va_up g_15 a (ob 3 [.int (nI i), .int (b32 (nLv (sAk (sAs (sLz (sPa (sAc (sLv d true) ([])) ([])) 0) none) 0))), .ref (A (a + 1)), .ref (A (a + 3)), .int (nI (nLz (sAk (sAs (sLz (sPa (sAc (sLv d true) ([])) ([])) 0) none) 0))), .int (onv (nAs (sAk (sAs (sLz (sPa (sAc (sLv d true) ([])) ([])) 0) none) 0))), .int (nI (nAk (sAk (sAs (sLz (sPa (sAc (sLv d true) ([])) ([])) 0) none) 0))), .int (nI 0), .ref (A (a + 5)), .ref (A (a + 6))]) := ⟨_, rfl⟩
  show V K 0 0 P A (va_up g_15 a (ob 3 [.int (nI i), .int (b32 (nLv (sAk (sAs (sLz (sPa (sAc (sLv d true) ([])) ([])) 0) none) 0))), .ref (A (a + 1)), .ref (A (a + 3)), .int (nI (nLz (sAk (sAs (sLz (sPa (sAc (sLv d true) ([])) ([])) 0) none) 0))), .int (onv (nAs (sAk (sAs (sLz (sPa (sAc (sLv d true) ([])) ([])) 0) none) 0))), .int (nI (nAk (sAk (sAs (sLz (sPa (sAc (sLv d true) ([])) ([])) 0) none) 0))), .int (nI 0), .ref (A (a + 5)), .ref (A (a + 6))])) [(0, .ref (A a))] 40 []
  rw [← hg_17]
  have hN_18 : ND A g_17 a i (sGo (sAk (sAs (sLz (sPa (sAc (sLv d true) ([])) ([])) 0) none) 0) 0) := ND.put hN_16 hg_17 rfl rfl rfl rfl
  refine g_iconst (pc := 40) C dX3_begin_40 (v := nI 0) rfl ?_
  refine g_istore_n (pc := 41) C dX3_begin_41 (by decide) (lv' := [(0, .ref (A a)), (1, .int (nI 0))]) [1, 0] rfl ?_
  have lp_42 : ∀ (n : Nat) (t : Nat) (ht : t ≤ 24) (gl : pM) (hN : ND A gl a i (sMi (sHo nd0 (mix2 (fun _ => none) (nHo d) t)) (mix2 (fun _ => none) (nMi d) t))) (hf : Fr g gl a (a + 100)), 24 - t < n → V K 0 0 P A gl [(0, .ref (A a)), (1, .int (nI t))] 42 [] := by
    intro n
    induction n with
    | zero => intro t ht gl hN hf hμ; exact absurd hμ (Nat.not_lt_zero _)
    | succ n ih =>
      intro t ht gl hN hf hμ
      obtain ⟨hrow, hho, hhr⟩ := hN.2.2.2.1
      refine g_iload_n (pc := 42) C dX3_begin_42 1 rfl ?_
      refine g_bipush (pc := 43) C dX3_begin_43 (v := nI 24) rfl ?_
      refine g_icmp_ge (pc := 45) C dX3_begin_45 (tgt := 71) (by decide) (fun c_45 => ?_) (fun c_45 => ?_)
      ·
        have c_45 : 24 ≤ t := (nI_leI (by omega) (by omega)).mp c_45
        exact g_vret (pc := 71) C R ⟨rfl, rfl, rfl, nd_beg (show t = 24 by omega) hN, hf⟩ (by decide) (by decide) dX3_begin_71
      ·
        have c_45 : ¬ 24 ≤ t := fun h => c_45 ((nI_leI (by omega) (by omega)).mpr h)
        refine g_aload_n (pc := 48) C dX3_begin_48 0 rfl ?_
        refine g_get (pc := 49) C (j := 8) hN.1 rfl rfl (by decide) u_156 dX3_begin_49 ?_
        refine g_iload_n (pc := 52) C dX3_begin_52 1 rfl ?_
        refine g_bipush (pc := 53) C dX3_begin_53 (v := (-6)) rfl ?_
        refine g_iast (pc := 55) C hho (nI_clamp (by omega)) (nI_in0 (n := 24) (by omega) (by omega)) dX3_begin_55 ?_
        obtain ⟨g_19, hg_19⟩ : ∃ yM : pM, yM = va_up gl (a + 5) (ai 0 24 (upd hrow t (-6))) := ⟨_, rfl⟩
        show V K 0 0 P A (va_up gl (a + 5) (ai 0 24 (upd hrow t (-6)))) [(0, .ref (A a)), (1, .int (nI t))] 56 []
        rw [← hg_19]
        have h_20 : g_19 (a + 5) = ai 0 24 (upd hrow t (-6)) := by rw [hg_19]; exact va_up_self _ _ _
        have hfa : Fr gl g_19 (a + 5) (a + 6) := by rw [hg_19]; exact Fr.up (by omega) (by omega)
        have hNa := ND.ho hN hfa (HO.up none hhr h_20)
        refine g_aload_n (pc := 56) C dX3_begin_56 0 rfl ?_
        refine g_get (pc := 57) C (j := 9) hNa.1 rfl rfl (by decide) u_157 dX3_begin_57 ?_
        refine g_iload_n (pc := 60) C dX3_begin_60 1 rfl ?_
        refine g_aldq (pc := 61) C hNa.2.2.2.2.1 (fun _ => rfl) (nI_clamp (by omega)) (nI_in0 (by omega) (by omega)) dX3_begin_61 (x := A (a + 10 + 3 * t)) (mrow_at (by omega)) ?_
        refine g_callV (pc := 62) C (As := []) (rest := []) (b := (a + 10 + 3 * t)) (c_X2_end A P g_19 (a + 10 + 3 * t) (hNa.2.2.2.2.2 t (by omega))) (hNa.2.2.2.2.2 t (by omega)).1 rfl rfl Y_X2_end u_376 N_X2_end ⟨by decide, by decide⟩ ⟨by decide, by decide⟩ (Nat.le_of_ble_eq_true rfl) rfl dX3_begin_62 ?_
        rintro _ _ _ g_21 ⟨rfl, rfl, rfl, hn_22, hf_23⟩
        have hN_24 := ND.mi hNa (by omega) hf_23 hn_22
        show V K 0 0 P A g_21 [(0, .ref (A a)), (1, .int (nI t))] 65 []
        refine g_iinc (pc := 65) C dX3_begin_65 (by decide) 1 rfl (v := nI (t + 1)) (nI_i1 _) (lv' := [(0, .ref (A a)), (1, .int (nI (t + 1)))]) [1, 0] rfl ?_
        refine g_goto (pc := 68) C dX3_begin_68 (tgt := 42) (by decide) ?_
        exact ih (t + 1) (by omega) _ (by rw [← mix2_s (fun _ => none) (nHo d), ← mix2_s (fun _ => none) (nMi d)]; exact hN_24) (hf.tr ((hfa.mo (by omega) (by omega)).tr (hf_23.mo (by omega) (by omega)))) (by omega)
  exact lp_42 (_ + 1) 0 (Nat.zero_le _) _ (by rw [mix2_0, mix2_0]; exact hN_18) (by first | exact Fr.rf | (intro k hk; rw [hg_17, va_up_ne _ _ (by omega), hg_15, va_up_ne _ _ (by omega), hg_13, va_up_ne _ _ (by omega), hg_11, va_up_ne _ _ (by omega), hf_9 k (by omega), hf_5 k (by omega), hg_1, va_up_ne _ _ (by omega)])) (Nat.lt_succ_self _)
abbrev rm_X3_copyFrom : Room := { frames := 3, cells := 0, slots := 0, locals := 64 }
theorem Y_X3_copyFrom : pY yX3_copyFrom cX3_copyFrom 3 (Option.none : Option Jvm.ClassFile.FieldType) := ⟨u_811, u_812, u_5, u_813⟩
theorem N_X3_copyFrom : yX3_copyFrom.cls ≠ "java/lang/invoke/MethodHandle" ∧ yX3_copyFrom.cls ≠ "java/lang/invoke/VarHandle" ∧ (parseMethodDescriptor yX3_copyFrom.desc).map (fun d => d.parameters.length) = some 1 := by decide +kernel
set_option maxRecDepth 20000 in
set_option maxHeartbeats 4000000 in
theorem c_X3_copyFrom (A : Nat → Nat) (P : List Nat) (g : pM) (a : Nat) {i : Nat} {d : Nd} (o : Nat) {j : Nat} {d2 : Nd} (hx : o + 100 ≤ a ∨ a + 100 ≤ o) (h : ND A g a i d) (h2 : ND A g o j d2) : PM yX3_copyFrom cX3_copyFrom 3 (Option.none : Option Jvm.ClassFile.FieldType) rm_X3_copyFrom [.ref (A a), .ref (A o)] P A g (fun v g' => v = none ∧ ND A g' a i (d2) ∧ Fr g g' a (a + 100)) := by
  refine px_intro (by decide +kernel) (Nat.le_of_ble_eq_true rfl) (fun K sz C R => ?_)
  show V K 0 0 P A g [(0, .ref (A a)), (1, .ref (A o))] 0 []
  refine g_aload_n (pc := 0) C dX3_copyFrom_0 0 rfl ?_
  refine g_aload_n (pc := 1) C dX3_copyFrom_1 1 rfl ?_
  refine g_get (pc := 2) C (j := 1) h2.1 rfl rfl (by decide) u_133 dX3_copyFrom_2 ?_
  refine g_put (pc := 5) C (j := 1) h.1 rfl (by decide) (Nat.le_of_ble_eq_true rfl) u_133 rfl pfd_Z (b32_n _) (b32_f _) dX3_copyFrom_5 ?_
  obtain ⟨g_1, hg_1⟩ : ∃ yM : pM, yM = va_up g a (ob 3 [.int (nI i), .int (b32 (nLv d2)), .ref (A (a + 1)), .ref (A (a + 3)), .int (nI (nLz d)), .int (onv (nAs d)), .int (nI (nAk d)), .int (nGo d), .ref (A (a + 5)), .ref (A (a + 6))]) := ⟨_, rfl⟩
  show V K 0 0 P A (va_up g a (ob 3 [.int (nI i), .int (b32 (nLv d2)), .ref (A (a + 1)), .ref (A (a + 3)), .int (nI (nLz d)), .int (onv (nAs d)), .int (nI (nAk d)), .int (nGo d), .ref (A (a + 5)), .ref (A (a + 6))])) [(0, .ref (A a)), (1, .ref (A o))] 8 []
  rw [← hg_1]
  have hN_2 : ND A g_1 a i (sLv d (nLv d2)) := ND.put h hg_1 rfl rfl rfl rfl
  have hf_3 : Fr g g_1 a (a + 1) := by rw [hg_1]; exact Fr.up (by omega) (by omega)
  have hp_4 := ND.fr h2 hf_3 (by omega)
  refine g_aload_n (pc := 8) C dX3_copyFrom_8 0 rfl ?_
  refine g_get (pc := 9) C (j := 2) hN_2.1 rfl rfl (by decide) u_137 dX3_copyFrom_9 ?_
  refine g_aload_n (pc := 12) C dX3_copyFrom_12 1 rfl ?_
  refine g_get (pc := 13) C (j := 2) hp_4.1 rfl rfl (by decide) u_137 dX3_copyFrom_13 ?_
  refine g_callV (pc := 16) C (As := [.ref (A (o + 1))]) (rest := []) (b := (a + 1)) (n_X4_copyFrom A P g_1 (a + 1) (o + 1) (by omega) hN_2.2.1 hp_4.2.1) (NLN.o hN_2.2.1) rfl rfl Y_X4_copyFrom u_814 N_X4_copyFrom ⟨by decide, by decide⟩ ⟨by decide, by decide⟩ (Nat.le_of_ble_eq_true rfl) rfl dX3_copyFrom_16 ?_
  rintro _ _ _ g_5 ⟨rfl, rfl, rfl, hn_6, hf_7⟩
  have hN_8 := ND.ac hN_2 hf_7 hn_6
  have hp_9 := ND.fr hp_4 hf_7 (by omega)
  show V K 0 0 P A g_5 [(0, .ref (A a)), (1, .ref (A o))] 19 []
  refine g_aload_n (pc := 19) C dX3_copyFrom_19 0 rfl ?_
  refine g_get (pc := 20) C (j := 3) hN_8.1 rfl rfl (by decide) u_142 dX3_copyFrom_20 ?_
  refine g_aload_n (pc := 23) C dX3_copyFrom_23 1 rfl ?_
  refine g_get (pc := 24) C (j := 3) hp_9.1 rfl rfl (by decide) u_142 dX3_copyFrom_24 ?_
  refine g_callV (pc := 27) C (As := [.ref (A (o + 3))]) (rest := []) (b := (a + 3)) (n_X4_copyFrom A P g_5 (a + 3) (o + 3) (by omega) hN_8.2.2.1 hp_9.2.2.1) (NLN.o hN_8.2.2.1) rfl rfl Y_X4_copyFrom u_814 N_X4_copyFrom ⟨by decide, by decide⟩ ⟨by decide, by decide⟩ (Nat.le_of_ble_eq_true rfl) rfl dX3_copyFrom_27 ?_
  rintro _ _ _ g_10 ⟨rfl, rfl, rfl, hn_11, hf_12⟩
  have hN_13 := ND.pa hN_8 hf_12 hn_11
  have hp_14 := ND.fr hp_9 hf_12 (by omega)
  show V K 0 0 P A g_10 [(0, .ref (A a)), (1, .ref (A o))] 30 []
  refine g_aload_n (pc := 30) C dX3_copyFrom_30 0 rfl ?_
  refine g_aload_n (pc := 31) C dX3_copyFrom_31 1 rfl ?_
  refine g_get (pc := 32) C (j := 4) hp_14.1 rfl rfl (by decide) u_145 dX3_copyFrom_32 ?_
  refine g_put (pc := 35) C (j := 4) hN_13.1 rfl (by decide) (Nat.le_of_ble_eq_true rfl) u_145 rfl pfd_I rfl rfl dX3_copyFrom_35 ?_
  obtain ⟨g_15, hg_15⟩ : ∃ yM : pM, yM = va_up g_10 a (ob 3 [.int (nI i), .int (b32 (nLv (sPa (sAc (sLv d (nLv d2)) (nAc d2)) (nPa d2)))), .ref (A (a + 1)), .ref (A (a + 3)), .int (nI (nLz d2)), .int (onv (nAs (sPa (sAc (sLv d (nLv d2)) (nAc d2)) (nPa d2)))), .int (nI (nAk (sPa (sAc (sLv d (nLv d2)) (nAc d2)) (nPa d2)))), .int (nGo (sPa (sAc (sLv d (nLv d2)) (nAc d2)) (nPa d2))), .ref (A (a + 5)), .ref (A (a + 6))]) := ⟨_, rfl⟩
  show V K 0 0 P A (va_up g_10 a (ob 3 [.int (nI i), .int (b32 (nLv (sPa (sAc (sLv d (nLv d2)) (nAc d2)) (nPa d2)))), .ref (A (a + 1)), .ref (A (a + 3)), .int (nI (nLz d2)), .int (onv (nAs (sPa (sAc (sLv d (nLv d2)) (nAc d2)) (nPa d2)))), .int (nI (nAk (sPa (sAc (sLv d (nLv d2)) (nAc d2)) (nPa d2)))), .int (nGo (sPa (sAc (sLv d (nLv d2)) (nAc d2)) (nPa d2))), .ref (A (a + 5)), .ref (A (a + 6))])) [(0, .ref (A a)), (1, .ref (A o))] 38 []
  rw [← hg_15]
  have hf_16 : Fr g_10 g_15 a (a + 1) := by rw [hg_15]; exact Fr.up (by omega) (by omega)
  have hp_17 := ND.fr hp_14 hf_16 (by omega)
  have hN_18 : ND A g_15 a i (sLz (sPa (sAc (sLv d (nLv d2)) (nAc d2)) (nPa d2)) (nLz d2)) := ND.put hN_13 hg_15 rfl rfl rfl rfl
  refine g_aload_n (pc := 38) C dX3_copyFrom_38 0 rfl ?_
  refine g_aload_n (pc := 39) C dX3_copyFrom_39 1 rfl ?_
  refine g_get (pc := 40) C (j := 5) hp_17.1 rfl rfl (by decide) u_146 dX3_copyFrom_40 ?_
  refine g_put (pc := 43) C (j := 5) hN_18.1 rfl (by decide) (Nat.le_of_ble_eq_true rfl) u_146 rfl pfd_I rfl rfl dX3_copyFrom_43 ?_
  obtain ⟨g_19, hg_19⟩ : ∃ yM : pM, yM = va_up g_15 a (ob 3 [.int (nI i), .int (b32 (nLv (sLz (sPa (sAc (sLv d (nLv d2)) (nAc d2)) (nPa d2)) (nLz d2)))), .ref (A (a + 1)), .ref (A (a + 3)), .int (nI (nLz (sLz (sPa (sAc (sLv d (nLv d2)) (nAc d2)) (nPa d2)) (nLz d2)))), .int (onv (nAs d2)), .int (nI (nAk (sLz (sPa (sAc (sLv d (nLv d2)) (nAc d2)) (nPa d2)) (nLz d2)))), .int (nGo (sLz (sPa (sAc (sLv d (nLv d2)) (nAc d2)) (nPa d2)) (nLz d2))), .ref (A (a + 5)), .ref (A (a + 6))]) := ⟨_, rfl⟩
  show V K 0 0 P A (va_up g_15 a (ob 3 [.int (nI i), .int (b32 (nLv (sLz (sPa (sAc (sLv d (nLv d2)) (nAc d2)) (nPa d2)) (nLz d2)))), .ref (A (a + 1)), .ref (A (a + 3)), .int (nI (nLz (sLz (sPa (sAc (sLv d (nLv d2)) (nAc d2)) (nPa d2)) (nLz d2)))), .int (onv (nAs d2)), .int (nI (nAk (sLz (sPa (sAc (sLv d (nLv d2)) (nAc d2)) (nPa d2)) (nLz d2)))), .int (nGo (sLz (sPa (sAc (sLv d (nLv d2)) (nAc d2)) (nPa d2)) (nLz d2))), .ref (A (a + 5)), .ref (A (a + 6))])) [(0, .ref (A a)), (1, .ref (A o))] 46 []
  rw [← hg_19]
  have hf_20 : Fr g_15 g_19 a (a + 1) := by rw [hg_19]; exact Fr.up (by omega) (by omega)
  have hp_21 := ND.fr hp_17 hf_20 (by omega)
  have hN_22 : ND A g_19 a i (sAs (sLz (sPa (sAc (sLv d (nLv d2)) (nAc d2)) (nPa d2)) (nLz d2)) (nAs d2)) := ND.put hN_18 hg_19 rfl rfl rfl rfl
  refine g_aload_n (pc := 46) C dX3_copyFrom_46 0 rfl ?_
  refine g_aload_n (pc := 47) C dX3_copyFrom_47 1 rfl ?_
  refine g_get (pc := 48) C (j := 6) hp_21.1 rfl rfl (by decide) u_150 dX3_copyFrom_48 ?_
  refine g_put (pc := 51) C (j := 6) hN_22.1 rfl (by decide) (Nat.le_of_ble_eq_true rfl) u_150 rfl pfd_I rfl rfl dX3_copyFrom_51 ?_
  obtain ⟨g_23, hg_23⟩ : ∃ yM : pM, yM = va_up g_19 a (ob 3 [.int (nI i), .int (b32 (nLv (sAs (sLz (sPa (sAc (sLv d (nLv d2)) (nAc d2)) (nPa d2)) (nLz d2)) (nAs d2)))), .ref (A (a + 1)), .ref (A (a + 3)), .int (nI (nLz (sAs (sLz (sPa (sAc (sLv d (nLv d2)) (nAc d2)) (nPa d2)) (nLz d2)) (nAs d2)))), .int (onv (nAs (sAs (sLz (sPa (sAc (sLv d (nLv d2)) (nAc d2)) (nPa d2)) (nLz d2)) (nAs d2)))), .int (nI (nAk d2)), .int (nGo (sAs (sLz (sPa (sAc (sLv d (nLv d2)) (nAc d2)) (nPa d2)) (nLz d2)) (nAs d2))), .ref (A (a + 5)), .ref (A (a + 6))]) := ⟨_, rfl⟩
  show V K 0 0 P A (va_up g_19 a (ob 3 [.int (nI i), .int (b32 (nLv (sAs (sLz (sPa (sAc (sLv d (nLv d2)) (nAc d2)) (nPa d2)) (nLz d2)) (nAs d2)))), .ref (A (a + 1)), .ref (A (a + 3)), .int (nI (nLz (sAs (sLz (sPa (sAc (sLv d (nLv d2)) (nAc d2)) (nPa d2)) (nLz d2)) (nAs d2)))), .int (onv (nAs (sAs (sLz (sPa (sAc (sLv d (nLv d2)) (nAc d2)) (nPa d2)) (nLz d2)) (nAs d2)))), .int (nI (nAk d2)), .int (nGo (sAs (sLz (sPa (sAc (sLv d (nLv d2)) (nAc d2)) (nPa d2)) (nLz d2)) (nAs d2))), .ref (A (a + 5)), .ref (A (a + 6))])) [(0, .ref (A a)), (1, .ref (A o))] 54 []
  rw [← hg_23]
  have hf_24 : Fr g_19 g_23 a (a + 1) := by rw [hg_23]; exact Fr.up (by omega) (by omega)
  have hp_25 := ND.fr hp_21 hf_24 (by omega)
  have hN_26 : ND A g_23 a i (sAk (sAs (sLz (sPa (sAc (sLv d (nLv d2)) (nAc d2)) (nPa d2)) (nLz d2)) (nAs d2)) (nAk d2)) := ND.put hN_22 hg_23 rfl rfl rfl rfl
  refine g_aload_n (pc := 54) C dX3_copyFrom_54 0 rfl ?_
  refine g_aload_n (pc := 55) C dX3_copyFrom_55 1 rfl ?_
  refine g_get (pc := 56) C (j := 7) hp_25.1 rfl rfl (by decide) u_153 dX3_copyFrom_56 ?_
  refine g_put (pc := 59) C (j := 7) hN_26.1 rfl (by decide) (Nat.le_of_ble_eq_true rfl) u_153 rfl pfd_I rfl rfl dX3_copyFrom_59 ?_
  obtain ⟨g_27, hg_27⟩ : ∃ yM : pM, yM = va_up g_23 a (ob 3 [.int (nI i), .int (b32 (nLv (sAk (sAs (sLz (sPa (sAc (sLv d (nLv d2)) (nAc d2)) (nPa d2)) (nLz d2)) (nAs d2)) (nAk d2)))), .ref (A (a + 1)), .ref (A (a + 3)), .int (nI (nLz (sAk (sAs (sLz (sPa (sAc (sLv d (nLv d2)) (nAc d2)) (nPa d2)) (nLz d2)) (nAs d2)) (nAk d2)))), .int (onv (nAs (sAk (sAs (sLz (sPa (sAc (sLv d (nLv d2)) (nAc d2)) (nPa d2)) (nLz d2)) (nAs d2)) (nAk d2)))), .int (nI (nAk (sAk (sAs (sLz (sPa (sAc (sLv d (nLv d2)) (nAc d2)) (nPa d2)) (nLz d2)) (nAs d2)) (nAk d2)))), .int (nGo d2), .ref (A (a + 5)), .ref (A (a + 6))]) := ⟨_, rfl⟩
  show V K 0 0 P A (va_up g_23 a (ob 3 [.int (nI i), .int (b32 (nLv (sAk (sAs (sLz (sPa (sAc (sLv d (nLv d2)) (nAc d2)) (nPa d2)) (nLz d2)) (nAs d2)) (nAk d2)))), .ref (A (a + 1)), .ref (A (a + 3)), .int (nI (nLz (sAk (sAs (sLz (sPa (sAc (sLv d (nLv d2)) (nAc d2)) (nPa d2)) (nLz d2)) (nAs d2)) (nAk d2)))), .int (onv (nAs (sAk (sAs (sLz (sPa (sAc (sLv d (nLv d2)) (nAc d2)) (nPa d2)) (nLz d2)) (nAs d2)) (nAk d2)))), .int (nI (nAk (sAk (sAs (sLz (sPa (sAc (sLv d (nLv d2)) (nAc d2)) (nPa d2)) (nLz d2)) (nAs d2)) (nAk d2)))), .int (nGo d2), .ref (A (a + 5)), .ref (A (a + 6))])) [(0, .ref (A a)), (1, .ref (A o))] 62 []
  rw [← hg_27]
  have hf_28 : Fr g_23 g_27 a (a + 1) := by rw [hg_27]; exact Fr.up (by omega) (by omega)
  have hp_29 := ND.fr hp_25 hf_28 (by omega)
  have hN_30 : ND A g_27 a i (sGo (sAk (sAs (sLz (sPa (sAc (sLv d (nLv d2)) (nAc d2)) (nPa d2)) (nLz d2)) (nAs d2)) (nAk d2)) (nGo d2)) := ND.put hN_26 hg_27 rfl rfl rfl rfl
  refine g_iconst (pc := 62) C dX3_copyFrom_62 (v := nI 0) rfl ?_
  refine g_istore_n (pc := 63) C dX3_copyFrom_63 (by decide) (lv' := [(0, .ref (A a)), (1, .ref (A o)), (2, .int (nI 0))]) [1, 2, 0] rfl ?_
  have lp_64 : ∀ (n : Nat) (t : Nat) (ht : t ≤ 24) (gl : pM) (hN : ND A gl a i (sMi (sHo (d2.1, nAc d2, nPa d2, nLz d2, nAs d2, nAk d2, nGo d2, nHo d, nMi d) (mix2 (nHo d2) (nHo d) t)) (mix2 (nMi d2) (nMi d) t))) (hO : ND A gl o j d2) (hf : Fr g gl a (a + 100)), 24 - t < n → V K 0 0 P A gl [(0, .ref (A a)), (1, .ref (A o)), (2, .int (nI t))] 64 [] := by
    intro n
    induction n with
    | zero => intro t ht gl hN hO hf hμ; exact absurd hμ (Nat.not_lt_zero _)
    | succ n ih =>
      intro t ht gl hN hO hf hμ
      obtain ⟨hrow, hho, hhr⟩ := hN.2.2.2.1
      refine g_iload_n (pc := 64) C dX3_copyFrom_64 2 rfl ?_
      refine g_bipush (pc := 65) C dX3_copyFrom_65 (v := nI 24) rfl ?_
      refine g_icmp_ge (pc := 67) C dX3_copyFrom_67 (tgt := 101) (by decide) (fun c_67 => ?_) (fun c_67 => ?_)
      ·
        have c_67 : 24 ≤ t := (nI_leI (by omega) (by omega)).mp c_67
        exact g_vret (pc := 101) C R ⟨rfl, rfl, rfl, nd_cop (show t = 24 by omega) hN, hf⟩ (by decide) (by decide) dX3_copyFrom_101
      ·
        have c_67 : ¬ 24 ≤ t := fun h => c_67 ((nI_leI (by omega) (by omega)).mpr h)
        refine g_aload_n (pc := 70) C dX3_copyFrom_70 0 rfl ?_
        refine g_get (pc := 71) C (j := 8) hN.1 rfl rfl (by decide) u_156 dX3_copyFrom_71 ?_
        refine g_iload_n (pc := 74) C dX3_copyFrom_74 2 rfl ?_
        refine g_aload_n (pc := 75) C dX3_copyFrom_75 1 rfl ?_
        refine g_iload_n (pc := 76) C dX3_copyFrom_76 2 rfl ?_
        refine g_callV (pc := 77) C (As := [.int (nI t)]) (rest := [.int (nI t), .ref (A (a + 5))]) (b := o) (c_X3_hopsOf A P gl o t (by omega) hO) hO.1 rfl rfl Y_X3_hopsOf u_673 N_X3_hopsOf ⟨by decide, by decide⟩ ⟨by decide, by decide⟩ (Nat.le_of_ble_eq_true rfl) rfl dX3_copyFrom_77 ?_
        rintro _ _ _ _ ⟨rfl, rfl, rfl, rfl⟩
        show V K 0 0 P A gl [(0, .ref (A a)), (1, .ref (A o)), (2, .int (nI t))] 80 [.int (onv (nHo d2 t)), .int (nI t), .ref (A (a + 5))]
        refine g_iast (pc := 80) C hho (nI_clamp (by omega)) (nI_in0 (n := 24) (by omega) (by omega)) dX3_copyFrom_80 ?_
        obtain ⟨g_31, hg_31⟩ : ∃ yM : pM, yM = va_up gl (a + 5) (ai 0 24 (upd hrow t (onv (nHo d2 t)))) := ⟨_, rfl⟩
        show V K 0 0 P A (va_up gl (a + 5) (ai 0 24 (upd hrow t (onv (nHo d2 t))))) [(0, .ref (A a)), (1, .ref (A o)), (2, .int (nI t))] 81 []
        rw [← hg_31]
        have h_32 : g_31 (a + 5) = ai 0 24 (upd hrow t (onv (nHo d2 t))) := by rw [hg_31]; exact va_up_self _ _ _
        have hf_33 : Fr gl g_31 (a + 5) (a + 5 + 1) := by rw [hg_31]; exact Fr.up (by omega) (by omega)
        have hp_34 := ND.fr hO hf_33 (by omega)
        have hfa : Fr gl g_31 (a + 5) (a + 6) := by rw [hg_31]; exact Fr.up (by omega) (by omega)
        have hNa := ND.ho hN hfa (HO.up (nHo d2 t) hhr h_32)
        have hOa := hO.fr hfa (by omega)
        refine g_aload_n (pc := 81) C dX3_copyFrom_81 0 rfl ?_
        refine g_get (pc := 82) C (j := 9) hNa.1 rfl rfl (by decide) u_157 dX3_copyFrom_82 ?_
        refine g_iload_n (pc := 85) C dX3_copyFrom_85 2 rfl ?_
        refine g_aldq (pc := 86) C hNa.2.2.2.2.1 (fun _ => rfl) (nI_clamp (by omega)) (nI_in0 (by omega) (by omega)) dX3_copyFrom_86 (x := A (a + 10 + 3 * t)) (mrow_at (by omega)) ?_
        refine g_aload_n (pc := 87) C dX3_copyFrom_87 1 rfl ?_
        refine g_iload_n (pc := 88) C dX3_copyFrom_88 2 rfl ?_
        refine g_callV (pc := 89) C (As := [.int (nI t)]) (rest := [.ref (A (a + 10 + 3 * t))]) (b := o) (c_X3_missOf A P g_31 o t (by omega) hOa) hOa.1 rfl rfl Y_X3_missOf u_815 N_X3_missOf ⟨by decide, by decide⟩ ⟨by decide, by decide⟩ (Nat.le_of_ble_eq_true rfl) rfl dX3_copyFrom_89 ?_
        rintro _ _ _ _ ⟨rfl, rfl, rfl, rfl⟩
        show V K 0 0 P A g_31 [(0, .ref (A a)), (1, .ref (A o)), (2, .int (nI t))] 92 [.ref (A (o + 10 + 3 * t)), .ref (A (a + 10 + 3 * t))]
        refine g_callV (pc := 92) C (As := [.ref (A (o + 10 + 3 * t))]) (rest := []) (b := (a + 10 + 3 * t)) (c_X2_copyFrom A P g_31 (a + 10 + 3 * t) (o + 10 + 3 * t) (by omega) (hNa.2.2.2.2.2 t (by omega)) (hOa.2.2.2.2.2 t (by omega))) (hNa.2.2.2.2.2 t (by omega)).1 rfl rfl Y_X2_copyFrom u_816 N_X2_copyFrom ⟨by decide, by decide⟩ ⟨by decide, by decide⟩ (Nat.le_of_ble_eq_true rfl) rfl dX3_copyFrom_92 ?_
        rintro _ _ _ g2 ⟨rfl, rfl, rfl, hn2, hf2⟩
        have hN2 := ND.mi hNa (by omega) hf2 hn2
        have hO2 := hOa.fr hf2 (by omega)
        show V K 0 0 P A g2 [(0, .ref (A a)), (1, .ref (A o)), (2, .int (nI t))] 95 []
        refine g_iinc (pc := 95) C dX3_copyFrom_95 (by decide) 2 rfl (v := nI (t + 1)) (nI_i1 _) (lv' := [(0, .ref (A a)), (1, .ref (A o)), (2, .int (nI (t + 1)))]) [1, 2, 0] rfl ?_
        refine g_goto (pc := 98) C dX3_copyFrom_98 (tgt := 64) (by decide) ?_
        exact ih (t + 1) (by omega) _ (by rw [← mix2_s (nHo d2) (nHo d), ← mix2_s (nMi d2) (nMi d)]; exact hN2) hO2 (hf.tr ((hfa.mo (by omega) (by omega)).tr (hf2.mo (by omega) (by omega)))) (by omega)
  exact lp_64 (_ + 1) 0 (Nat.zero_le _) _ (by rw [mix2_0, mix2_0]; exact hN_30) hp_29 (by first | exact Fr.rf | (intro k hk; rw [hg_27, va_up_ne _ _ (by omega), hg_23, va_up_ne _ _ (by omega), hg_19, va_up_ne _ _ (by omega), hg_15, va_up_ne _ _ (by omega), hf_12 k (by omega), hf_7 k (by omega), hg_1, va_up_ne _ _ (by omega)])) (Nat.lt_succ_self _)
abbrev rm_X3_looksLike : Room := { frames := 2, cells := 0, slots := 0, locals := 43 }
theorem Y_X3_looksLike : pY yX3_looksLike cX3_looksLike 3 (Option.some Jvm.ClassFile.FieldType.boolean) := ⟨u_839, u_840, u_5, u_841⟩
theorem N_X3_looksLike : yX3_looksLike.cls ≠ "java/lang/invoke/MethodHandle" ∧ yX3_looksLike.cls ≠ "java/lang/invoke/VarHandle" ∧ (parseMethodDescriptor yX3_looksLike.desc).map (fun d => d.parameters.length) = some 1 := by decide +kernel
set_option maxRecDepth 20000 in
set_option maxHeartbeats 4000000 in
theorem c_X3_looksLike (A : Nat → Nat) (P : List Nat) (g : pM) (a : Nat) {i : Nat} {d : Nd} (o : Nat) {j : Nat} {d2 : Nd} (hw : ndW d) (hw2 : ndW d2) (h : ND A g a i d) (h2 : ND A g o j d2) : PM yX3_looksLike cX3_looksLike 3 (Option.some Jvm.ClassFile.FieldType.boolean) rm_X3_looksLike [.ref (A a), .ref (A o)] P A g (fun v g' => v = some (.int (b32 (ndSame d d2))) ∧ g = g') := by
  obtain ⟨hrow, hho, hhr⟩ := h.2.2.2.1
  have hw1 : nLz d < 65536 := hw.1
  have hw21 : nLz d2 < 65536 := hw2.1
  refine px_intro (by decide +kernel) (Nat.le_of_ble_eq_true rfl) (fun K sz C R => ?_)
  show V K 0 0 P A g [(0, .ref (A a)), (1, .ref (A o))] 0 []
  refine g_aload_n (pc := 0) C dX3_looksLike_0 0 rfl ?_
  refine g_get (pc := 1) C (j := 2) h.1 rfl rfl (by decide) u_137 dX3_looksLike_1 ?_
  refine g_aload_n (pc := 4) C dX3_looksLike_4 1 rfl ?_
  refine g_get (pc := 5) C (j := 2) h2.1 rfl rfl (by decide) u_137 dX3_looksLike_5 ?_
  refine g_callV (pc := 8) C (As := [.ref (A (o + 1))]) (rest := []) (b := (a + 1)) (n_X4_isSameAs A P g (a + 1) (o + 1) h.2.1 h2.2.1) (NLN.o h.2.1) rfl rfl Y_X4_isSameAs u_842 N_X4_isSameAs ⟨by decide, by decide⟩ ⟨by decide, by decide⟩ (Nat.le_of_ble_eq_true rfl) rfl dX3_looksLike_8 ?_
  rintro _ _ _ _ ⟨rfl, rfl, rfl, rfl⟩
  show V K 0 0 P A g [(0, .ref (A a)), (1, .ref (A o))] 11 [.int (b32 (decide (nAc d = nAc d2)))]
  refine g_if_eq (pc := 11) C dX3_looksLike_11 (tgt := 28) (by decide) (fun c_11 => ?_) (fun c_11 => ?_)
  ·
    have c_11 := of_decide_eq_false ((b32_0 _).mp c_11)
    refine g_iconst (pc := 28) C dX3_looksLike_28 (v := nI 0) rfl ?_
    exact g_zret (pc := 29) C R (Or.inl rfl) ⟨rfl, rfl, by rw [ndSame_ac c_11]; rfl, rfl⟩ (by decide) (by decide) dX3_looksLike_29
  ·
    have c_11 : nAc d = nAc d2 := Classical.byContradiction (fun hh => c_11 (by rw [decide_eq_false hh]; rfl))
    refine g_aload_n (pc := 14) C dX3_looksLike_14 0 rfl ?_
    refine g_get (pc := 15) C (j := 3) h.1 rfl rfl (by decide) u_142 dX3_looksLike_15 ?_
    refine g_aload_n (pc := 18) C dX3_looksLike_18 1 rfl ?_
    refine g_get (pc := 19) C (j := 3) h2.1 rfl rfl (by decide) u_142 dX3_looksLike_19 ?_
    refine g_callV (pc := 22) C (As := [.ref (A (o + 3))]) (rest := []) (b := (a + 3)) (n_X4_isSameAs A P g (a + 3) (o + 3) h.2.2.1 h2.2.2.1) (NLN.o h.2.2.1) rfl rfl Y_X4_isSameAs u_842 N_X4_isSameAs ⟨by decide, by decide⟩ ⟨by decide, by decide⟩ (Nat.le_of_ble_eq_true rfl) rfl dX3_looksLike_22 ?_
    rintro _ _ _ _ ⟨rfl, rfl, rfl, rfl⟩
    show V K 0 0 P A g [(0, .ref (A a)), (1, .ref (A o))] 25 [.int (b32 (decide (nPa d = nPa d2)))]
    refine g_if_ne (pc := 25) C dX3_looksLike_25 (tgt := 30) (by decide) (fun c_25 => ?_) (fun c_25 => ?_)
    ·
      have c_25 : nPa d = nPa d2 := Classical.byContradiction (fun hh => c_25 (by rw [decide_eq_false hh]; rfl))
      refine g_aload_n (pc := 30) C dX3_looksLike_30 0 rfl ?_
      refine g_get (pc := 31) C (j := 4) h.1 rfl rfl (by decide) u_145 dX3_looksLike_31 ?_
      refine g_aload_n (pc := 34) C dX3_looksLike_34 1 rfl ?_
      refine g_get (pc := 35) C (j := 4) h2.1 rfl rfl (by decide) u_145 dX3_looksLike_35 ?_
      refine g_icmp_eq (pc := 38) C dX3_looksLike_38 (tgt := 43) (by decide) (fun c_38 => ?_) (fun c_38 => ?_)
      ·
        have c_38 : (nLz d) = (nLz d2) := (nI_eq (by omega) (by omega)).mp c_38
        refine g_iconst (pc := 43) C dX3_looksLike_43 (v := nI 0) rfl ?_
        refine g_istore_n (pc := 44) C dX3_looksLike_44 (by decide) (lv' := [(0, .ref (A a)), (1, .ref (A o)), (2, .int (nI 0))]) [1, 2, 0] rfl ?_
        have lp_45 : ∀ (n : Nat) (t : Nat) (ht : t ≤ 24) (hq : ∀ k, k < t → nHo d k = nHo d2 k), 24 - t < n → V K 0 0 P A g [(0, .ref (A a)), (1, .ref (A o)), (2, .int (nI t))] 45 [] := by
          intro n
          induction n with
          | zero => intro t ht hq hμ; exact absurd hμ (Nat.not_lt_zero _)
          | succ n ih =>
            intro t ht hq hμ
            refine g_iload_n (pc := 45) C dX3_looksLike_45 2 rfl ?_
            refine g_bipush (pc := 46) C dX3_looksLike_46 (v := nI 24) rfl ?_
            refine g_icmp_ge (pc := 48) C dX3_looksLike_48 (tgt := 73) (by decide) (fun c_48 => ?_) (fun c_48 => ?_)
            ·
              have c_48 : 24 ≤ t := (nI_leI (by omega) (by omega)).mp c_48
              refine g_iconst (pc := 73) C dX3_looksLike_73 (v := nI 1) rfl ?_
              exact g_zret (pc := 74) C R (Or.inr rfl) ⟨rfl, rfl, by rw [ndSame_all c_11 c_25 c_38 (fun k hk => hq k (by omega))]; rfl, rfl⟩ (by decide) (by decide) dX3_looksLike_74
            ·
              have c_48 : ¬ 24 ≤ t := fun h => c_48 ((nI_leI (by omega) (by omega)).mpr h)
              refine g_aload_n (pc := 51) C dX3_looksLike_51 0 rfl ?_
              refine g_get (pc := 52) C (j := 8) h.1 rfl rfl (by decide) u_156 dX3_looksLike_52 ?_
              refine g_iload_n (pc := 55) C dX3_looksLike_55 2 rfl ?_
              refine g_iald (pc := 56) C hho (nI_clamp (by omega)) (nI_in0 (n := 24) (by omega) (by omega)) dX3_looksLike_56 (x := hrow t) rfl ?_
              refine g_aload_n (pc := 57) C dX3_looksLike_57 1 rfl ?_
              refine g_iload_n (pc := 58) C dX3_looksLike_58 2 rfl ?_
              refine g_callV (pc := 59) C (As := [.int (nI t)]) (rest := [.int (hrow t)]) (b := o) (c_X3_hopsOf A P g o t (by omega) h2) h2.1 rfl rfl Y_X3_hopsOf u_673 N_X3_hopsOf ⟨by decide, by decide⟩ ⟨by decide, by decide⟩ (Nat.le_of_ble_eq_true rfl) rfl dX3_looksLike_59 ?_
              rintro _ _ _ _ ⟨rfl, rfl, rfl, rfl⟩
              show V K 0 0 P A g [(0, .ref (A a)), (1, .ref (A o)), (2, .int (nI t))] 62 [.int (onv (nHo d2 t)), .int (hrow t)]
              refine g_icmp_eq (pc := 62) C dX3_looksLike_62 (tgt := 67) (by decide) (fun c_62 => ?_) (fun c_62 => ?_)
              ·
                refine g_iinc (pc := 67) C dX3_looksLike_67 (by decide) 2 rfl (v := nI (t + 1)) (nI_i1 _) (lv' := [(0, .ref (A a)), (1, .ref (A o)), (2, .int (nI (t + 1)))]) [1, 2, 0] rfl ?_
                refine g_goto (pc := 70) C dX3_looksLike_70 (tgt := 45) (by decide) ?_
                exact ih (t + 1) (by omega) (fun k hk => by rcases Nat.lt_succ_iff_lt_or_eq.mp hk with q | q; exact hq k q; rw [q]; exact onv_inj (hw.2.2.2 t) (hw2.2.2.2 t) ((hhr t (by omega)).symm.trans c_62)) (by omega)
              ·
                refine g_iconst (pc := 65) C dX3_looksLike_65 (v := nI 0) rfl ?_
                exact g_zret (pc := 66) C R (Or.inl rfl) ⟨rfl, rfl, by rw [ndSame_ho (t := t) (by omega) (fun e => c_62 ((hhr t (by omega)).trans (by rw [e])))]; rfl, rfl⟩ (by decide) (by decide) dX3_looksLike_66
        exact lp_45 (_ + 1) 0 (Nat.zero_le _) (fun k hk => absurd hk (Nat.not_lt_zero k)) (Nat.lt_succ_self _)
      ·
        have c_38 : ¬ (nLz d) = (nLz d2) := fun h => c_38 ((nI_eq (by omega) (by omega)).mpr h)
        refine g_iconst (pc := 41) C dX3_looksLike_41 (v := nI 0) rfl ?_
        exact g_zret (pc := 42) C R (Or.inl rfl) ⟨rfl, rfl, by rw [ndSame_lz (fun e => c_38 (by rw [e]))]; rfl, rfl⟩ (by decide) (by decide) dX3_looksLike_42
    ·
      have c_25 := of_decide_eq_false ((b32_0 _).mp c_25)
      refine g_iconst (pc := 28) C dX3_looksLike_28 (v := nI 0) rfl ?_
      exact g_zret (pc := 29) C R (Or.inl rfl) ⟨rfl, rfl, by rw [ndSame_pa c_25]; rfl, rfl⟩ (by decide) (by decide) dX3_looksLike_29
