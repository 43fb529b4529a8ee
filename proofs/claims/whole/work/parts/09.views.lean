-- PART 09: views: what a state must keep (SW); the steps of the views in words of a state
/-- a node of a state of K nodes, T tales; B: no tale came by more hops -/
def NW (B K T : Nat) (z : Sz) (i : Nat) (d : Nd) : Prop :=
  (nLz d < 65536 ∧ nAk d < 65536) ∧ (∀ q ∈ nAc d, q < K) ∧ (∀ q ∈ nPa d, q < K) ∧ (nAc d).Nodup ∧ (nAc d).length ≤ z.1 ∧ (nPa d).length ≤ z.2.1 ∧ (∀ q, nAs d = some q → q < K) ∧ (∀ q, (nLz d).testBit q = true → q ∈ nAc d) ∧
  (∀ t h, nHo d t = some h → h ≤ B ∧ t < T) ∧ (∀ t h tl, nMi d t = some (h, tl) → t < T ∧ tl.Nodup ∧ ∀ q ∈ tl, q ∈ nAc d) ∧ (∀ t, (nHo d t).isSome → nMi d t = none) ∧ i ∉ nAc d
/-- a letter of such a state -/
def LW (B K T : Nat) (t : Lt) : Prop :=
  t.1 < K ∧ t.2.1 < K ∧ 1 ≤ t.2.2.1 ∧ t.2.2.1 ≤ 12 ∧ t.2.2.2.1 ≤ 24 ∧ t.2.2.2.2.1 ≤ B + 6 ∧ (t.2.2.1 = 2 ∨ t.2.2.1 = 7 → t.2.2.2.1 < K) ∧ (t.2.2.1 = 9 ∨ t.2.2.1 = 10 ∨ (t.2.2.1 = 11 ∧ t.2.2.2.2.1 ≠ 0) → t.2.2.2.1 < T) ∧ (t.2.2.1 = 9 → t.2.2.2.2.1 ≤ B + 1) ∧ (∀ q ∈ t.2.2.2.2.2, q < K) ∧ t.2.2.2.2.2.length ≤ 5
def ZW (z : Sz) : Prop := 2 ≤ z.1 ∧ z.1 ≤ 5 ∧ 2 ≤ z.2.1 ∧ z.2.1 ≤ 8 ∧ 1 ≤ z.2.2.1 ∧ z.2.2.1 ≤ 6 ∧ z.2.2.2.1 ≤ z.2.2.1 ∧ 1 ≤ z.2.2.2.2 ∧ z.2.2.2.2 ≤ 20
def SW (B : Nat) (cs : List Nat) (σ : Sg) : Prop :=
  B < 2 ^ 30 ∧ gK σ ≤ 16 ∧ gT σ ≤ 24 ∧ ZW (gZ σ) ∧ (∀ i, i < gK σ → NW B (gK σ) (gT σ) (gZ σ) i (gN σ i)) ∧ (∀ t ∈ gR σ, LW B (gK σ) (gT σ) t) ∧ (gX σ < cs.length ∨ (gX σ = 0 ∧ cs.length = 0))
theorem SW.nx {B : Nat} {cs : List Nat} {σ : Sg} (h : SW B cs σ) : cs.length = 0 ∨ gX σ < cs.length := by
  rcases h.2.2.2.2.2.2 with q | q
  · exact Or.inr q
  · exact Or.inl q.2
theorem SW.nw {B i : Nat} {cs : List Nat} {σ : Sg} (h : SW B cs σ) (hi : i < gK σ) : NW B (gK σ) (gT σ) (gZ σ) i (gN σ i) := h.2.2.2.2.1 i hi
theorem SW.dw {B i : Nat} {cs : List Nat} {σ : Sg} (h : SW B cs σ) (hi : i < gK σ) : ndW (gN σ i) := by
  have n := h.nw hi
  have k := h.2.1
  have b := h.1
  refine ⟨n.1.1, n.1.2, fun q hq => ?_, fun t m hm => ?_⟩
  · have := n.2.2.2.2.2.2.1 q hq
    omega
  · have := (n.2.2.2.2.2.2.2.2.1 t m hm).1
    omega
-- the steps
def paErase (σ : Sg) (i k : Nat) : Sg := sNd σ i (sPa (gN σ i) ((nPa (gN σ i)).eraseIdx k))
def paRem (σ : Sg) (i q : Nat) : Sg := sNd σ i (sPa (gN σ i) ((nPa (gN σ i)).erase q))
def paPut (σ : Sg) (i q : Nat) : Sg := sNd σ i (sPa (gN σ i) (nPa (gN σ i) ++ [q]))
def acPut (σ : Sg) (i q : Nat) : Sg := sNd σ i (sAc (gN σ i) (nAc (gN σ i) ++ [q]))
def ulS (σ : Sg) (i q : Nat) : Sg := sNd σ i (uln (gN σ i) q)
def egS (σ : Sg) (i q : Nat) : Sg := sNd σ i (sLz (gN σ i) (bo (nLz (gN σ i)) q))
def lzS (σ : Sg) (i q : Nat) : Sg := sNd σ i (sLz (gN σ i) (nLz (gN σ i) ||| 2 ^ q))
def asS (σ : Sg) (i : Nat) (o : Option Nat) : Sg := sNd σ i (sAs (gN σ i) o)
def akS (σ : Sg) (i m : Nat) : Sg := sNd σ i (sAk (gN σ i) m)
/-- q is noted in the passive view of node i -/
def nte (cs : List Nat) (σ : Sg) (i q : Nat) : Sg :=
  if q = i ∨ q ∈ nAc (gN σ i) ∨ q ∈ nPa (gN σ i) then σ
  else if (gZ σ).2.1 ≤ (nPa (gN σ i)).length then paPut (paErase (dS cs σ (nPa (gN σ i)).length) i (dI cs σ (nPa (gN σ i)).length)) i q
  else paPut σ i q
/-- q is dropped out of the active view of node i -/
def drp (cs : List Nat) (σ : Sg) (i q : Nat) : Sg := nte cs (ulS (snd σ i q 4 0 0 []) i q) i q
/-- what comes behind the room is made: q comes last, eager -/
def ad2 (σ : Sg) (i q : Nat) : Sg :=
  if nAs (gN (egS (acPut σ i q) i q) i) = some q then asS (egS (acPut σ i q) i q) i none else egS (acPut σ i q) i q
/-- q is added to the active view of node i -/
def add (cs : List Nat) (σ : Sg) (i q : Nat) : Sg :=
  if q = i ∨ q ∈ nAc (gN σ i) then σ
  else if (gZ σ).1 ≤ (nAc (gN σ i)).length then
    ad2 (drp cs (dS cs (paRem σ i q) (nAc (gN (paRem σ i q) i)).length) i ((nAc (gN (paRem σ i q) i)).getD (dI cs (paRem σ i q) (nAc (gN (paRem σ i q) i)).length) 0)) i q
  else ad2 (paRem σ i q) i q
/-- the views' own object, the world, the coins, the two lists that it works with -/
def VW (A : Nat → Nat) (g : pM) (w : Nat) (cs : List Nat) (σ : Sg) (pl ll : List Nat) : Prop :=
  g (w + 15000) = ob 8 [.ref (A w), .ref (A (w + 1)), .ref (A (w + 15001)), .ref (A (w + 15003))] ∧ WD A g w (w + 15005) σ ∧ CO A g (w + 15005) cs ∧ NLN A g (w + 15001) 8 pl ∧ NLN A g (w + 15003) 5 ll
/-- what the views' work changes -/
def FrS (g g' : pM) (w : Nat) : Prop := ∀ k, k < w ∨ (w + 5000 ≤ k ∧ k < w + 15001) ∨ w + 15005 ≤ k ∨ (w + 6 ≤ k ∧ k < w + 9) → g' k = g k
theorem FrS.tr {g g1 g2 : pM} {w : Nat} (h : FrS g g1 w) (h2 : FrS g1 g2 w) : FrS g g2 w := fun k hk => (h2 k hk).trans (h k hk)
theorem FrS.rf {g : pM} {w : Nat} : FrS g g w := fun _ _ => rfl
theorem FrV.s {g g' : pM} {w : Nat} (h : FrV g g' w) : FrS g g' w := fun k hk => h k (by omega)
theorem Fr.s {g g' : pM} {w lo hi : Nat} (h : Fr g g' lo hi) (h1 : w + 15001 ≤ lo) (h2 : hi ≤ w + 15005) : FrS g g' w := fun k hk => h k (by omega)
-- what the steps leave as it is
theorem dS_K {cs : List Nat} {σ : Sg} {n : Nat} : gK (dS cs σ n) = gK σ := by simp only [dS]; split <;> rfl
theorem dS_N {cs : List Nat} {σ : Sg} {n : Nat} : gN (dS cs σ n) = gN σ := by simp only [dS]; split <;> rfl
theorem dS_Z {cs : List Nat} {σ : Sg} {n : Nat} : gZ (dS cs σ n) = gZ σ := by simp only [dS]; split <;> rfl
theorem dS_T {cs : List Nat} {σ : Sg} {n : Nat} : gT (dS cs σ n) = gT σ := by simp only [dS]; split <;> rfl
theorem dS_R {cs : List Nat} {σ : Sg} {n : Nat} : gR (dS cs σ n) = gR σ := by simp only [dS]; split <;> rfl
theorem snd_Z {σ : Sg} {f t k x y : Nat} {l : List Nat} : gZ (snd σ f t k x y l) = gZ σ := by simp only [snd]; split <;> rfl
theorem snd_T {σ : Sg} {f t k x y : Nat} {l : List Nat} : gT (snd σ f t k x y l) = gT σ := by simp only [snd]; split <;> rfl
theorem snd_X {σ : Sg} {f t k x y : Nat} {l : List Nat} : gX (snd σ f t k x y l) = gX σ := by simp only [snd]; split <;> rfl
theorem nte_K {cs : List Nat} {σ : Sg} {i q : Nat} : gK (nte cs σ i q) = gK σ := by
  simp only [nte]
  split
  · rfl
  · split
    · exact dS_K
    · rfl
theorem nte_T {cs : List Nat} {σ : Sg} {i q : Nat} : gT (nte cs σ i q) = gT σ := by
  simp only [nte]
  split
  · rfl
  · split
    · exact dS_T
    · rfl
theorem nte_Z {cs : List Nat} {σ : Sg} {i q : Nat} : gZ (nte cs σ i q) = gZ σ := by
  simp only [nte]
  split
  · rfl
  · split
    · exact dS_Z
    · rfl
theorem drp_K {cs : List Nat} {σ : Sg} {i q : Nat} : gK (drp cs σ i q) = gK σ := nte_K.trans (snd_K)
theorem drp_Z {cs : List Nat} {σ : Sg} {i q : Nat} : gZ (drp cs σ i q) = gZ σ := nte_Z.trans (snd_Z)
theorem drp_T {cs : List Nat} {σ : Sg} {i q : Nat} : gT (drp cs σ i q) = gT σ := nte_T.trans (snd_T)
theorem ad2_K {σ : Sg} {i q : Nat} : gK (ad2 σ i q) = gK σ := by simp only [ad2]; split <;> rfl
theorem ad2_T {σ : Sg} {i q : Nat} : gT (ad2 σ i q) = gT σ := by simp only [ad2]; split <;> rfl
theorem ad2_Z {σ : Sg} {i q : Nat} : gZ (ad2 σ i q) = gZ σ := by simp only [ad2]; split <;> rfl
theorem add_K {cs : List Nat} {σ : Sg} {i q : Nat} : gK (add cs σ i q) = gK σ := by
  simp only [add]
  split
  · rfl
  · split
    · exact ad2_K.trans (drp_K.trans dS_K)
    · exact ad2_K
theorem add_T {cs : List Nat} {σ : Sg} {i q : Nat} : gT (add cs σ i q) = gT σ := by
  simp only [add]
  split
  · rfl
  · split
    · exact ad2_T.trans (drp_T.trans dS_T)
    · exact ad2_T
theorem add_Z {cs : List Nat} {σ : Sg} {i q : Nat} : gZ (add cs σ i q) = gZ σ := by
  simp only [add]
  split
  · rfl
  · split
    · exact ad2_Z.trans (drp_Z.trans dS_Z)
    · exact ad2_Z
/-- a node of a state that keeps SW is put anew -/
theorem SW.sn {B i : Nat} {cs : List Nat} {σ : Sg} {d : Nd} (h : SW B cs σ) (hd : NW B (gK σ) (gT σ) (gZ σ) i d) : SW B cs (sNd σ i d) := by
  refine ⟨h.1, h.2.1, h.2.2.1, h.2.2.2.1, fun j hj => ?_, h.2.2.2.2.2⟩
  show NW B (gK σ) (gT σ) (gZ σ) j (va_up (gN σ) i d j)
  by_cases e : j = i
  · subst e
    rw [va_up_self]
    exact hd
  · rw [va_up_ne _ _ e]
    exact h.nw hj
theorem SW.drw {B n : Nat} {cs : List Nat} {σ : Sg} (h : SW B cs σ) : SW B cs (dS cs σ n) := by
  have e := h.nx
  refine ⟨h.1, by rw [dS_K]; exact h.2.1, by rw [dS_T]; exact h.2.2.1, by rw [dS_Z]; exact h.2.2.2.1, by rw [dS_K, dS_T, dS_Z, dS_N]; exact h.2.2.2.2.1, by rw [dS_R, dS_K, dS_T]; exact h.2.2.2.2.2.1, ?_⟩
  simp only [dS]
  split
  · exact h.2.2.2.2.2.2
  · rename_i q
    left
    show (if gX σ + 1 < cs.length then gX σ + 1 else 0) < cs.length
    split <;> omega
theorem NW.lz {B K T i m : Nat} {z : Sz} {d : Nd} (n : NW B K T z i d) (hm : m < 65536) (h : ∀ q, m.testBit q = true → q ∈ nAc d) : NW B K T z i (sLz d m) := by
  obtain ⟨a1, a2, a3, a4, a5, a6, a7, a8, a9, a10, a11, a12⟩ := n
  exact ⟨⟨hm, a1.2⟩, a2, a3, a4, a5, a6, a7, h, a9, a10, a11, a12⟩
theorem bo_lt {m q : Nat} (hm : m < 65536) : bo m q < 65536 := Nat.lt_of_le_of_lt Nat.and_le_left hm
theorem bo_bit {m q x : Nat} (h : (bo m q).testBit x = true) : m.testBit x = true := by
  simp only [bo, Nat.testBit_and, Bool.and_eq_true] at h
  exact h.1
theorem SW.egS {B i q : Nat} {cs : List Nat} {σ : Sg} (h : SW B cs σ) (hi : i < gK σ) : SW B cs (egS σ i q) :=
  SW.sn h (NW.lz (h.nw hi) (bo_lt (h.nw hi).1.1) (fun x hx => (h.nw hi).2.2.2.2.2.2.2.1 x (bo_bit hx)))
theorem NW.pa {B K T i : Nat} {z : Sz} {d : Nd} {l : List Nat} (n : NW B K T z i d) (h : ∀ q ∈ l, q < K) (h2 : l.length ≤ z.2.1) : NW B K T z i (sPa d l) := by
  obtain ⟨a1, a2, a3, a4, a5, a6, a7, a8, a9, a10, a11, a12⟩ := n
  exact ⟨a1, a2, h, a4, a5, h2, a7, a8, a9, a10, a11, a12⟩
theorem NW.asq {B K T i : Nat} {z : Sz} {d : Nd} {o : Option Nat} (n : NW B K T z i d) (h : ∀ q, o = some q → q < K) : NW B K T z i (sAs d o) := by
  obtain ⟨a1, a2, a3, a4, a5, a6, a7, a8, a9, a10, a11, a12⟩ := n
  exact ⟨a1, a2, a3, a4, a5, a6, h, a8, a9, a10, a11, a12⟩
theorem NW.ak {B K T i m : Nat} {z : Sz} {d : Nd} (n : NW B K T z i d) (h : m < 65536) : NW B K T z i (sAk d m) := by
  obtain ⟨a1, a2, a3, a4, a5, a6, a7, a8, a9, a10, a11, a12⟩ := n
  exact ⟨⟨a1.1, h⟩, a2, a3, a4, a5, a6, a7, a8, a9, a10, a11, a12⟩
theorem NW.acp {B K T i q : Nat} {z : Sz} {d : Nd} (n : NW B K T z i d) (hq : q < K) (h1 : q ∉ nAc d) (h2 : (nAc d).length < z.1) (h3 : q ≠ i) : NW B K T z i (sAc d (nAc d ++ [q])) := by
  obtain ⟨a1, a2, a3, a4, a5, a6, a7, a8, a9, a10, a11, a12⟩ := n
  refine ⟨a1, fun x hx => ?_, a3, ?_, ?_, a6, a7, fun x hx => List.mem_append_left _ (a8 x hx), a9, fun t h tl e => ⟨(a10 t h tl e).1, (a10 t h tl e).2.1, fun x hx => List.mem_append_left _ ((a10 t h tl e).2.2 x hx)⟩, a11, ?_⟩
  · rcases List.mem_append.mp hx with hx | hx
    · exact a2 x hx
    · rw [List.mem_singleton.mp hx]
      exact hq
  · refine List.nodup_append.mpr ⟨a4, (by simp), fun x hx y hy e => ?_⟩
    rw [List.mem_singleton.mp hy] at e
    exact h1 (e ▸ hx)
  · show (nAc d ++ [q]).length ≤ z.1
    rw [List.length_append, List.length_singleton]
    omega
  · intro hx
    rcases List.mem_append.mp hx with hx | hx
    · exact a12 hx
    · exact h3 (List.mem_singleton.mp hx).symm
theorem bo_self {m q : Nat} (hq : q < 16) : (bo m q).testBit q = false := by
  have e2 : Nat.testBit 65535 q = true := by
    have : ∀ i : Fin 16, Nat.testBit 65535 i.val = true := by decide +kernel
    exact this ⟨q, hq⟩
  simp only [bo, Nat.testBit_and, Nat.testBit_xor, e2, Nat.testBit_two_pow_self]
  simp
theorem nw_uln {B K T i q : Nat} {z : Sz} {d : Nd} (n : NW B K T z i d) (hq : q < 16) : NW B K T z i (uln d q) := by
  obtain ⟨a1, a2, a3, a4, a5, a6, a7, a8, a9, a10, a11, a12⟩ := n
  refine ⟨⟨bo_lt a1.1, a1.2⟩, fun x hx => a2 x (List.mem_of_mem_erase hx), a3, a4.erase q, Nat.le_trans List.length_erase_le a5, a6, a7, fun x hx => ?_, a9, fun t h tl e => ?_, fun t e => ?_, fun hx => a12 (List.mem_of_mem_erase hx)⟩
  · have hx : (bo (nLz d) q).testBit x = true := hx
    have hne : x ≠ q := fun e => by
      rw [e, bo_self hq] at hx
      cases hx
    exact (List.mem_erase_of_ne hne).mpr (a8 x (bo_bit hx))
  · have e : muq q (nMi d t) = some (h, tl) := e
    cases hm : nMi d t with
    | none => rw [hm] at e; cases e
    | some p =>
      obtain ⟨h0, tl0⟩ := p
      rw [hm] at e
      cases e
      have k := a10 t h0 tl0 hm
      refine ⟨k.1, k.2.1.erase q, fun x hx => ?_⟩
      have hne : x ≠ q := fun e => by
        rw [e] at hx
        exact k.2.1.not_mem_erase hx
      exact (List.mem_erase_of_ne hne).mpr (k.2.2 x (List.mem_of_mem_erase hx))
  · show muq q (nMi d t) = none
    rw [a11 t e]
    rfl
theorem SW.sent {B f t k x y : Nat} {l : List Nat} {cs : List Nat} {σ : Sg} (h : SW B cs σ) (hf : f < gK σ) (ht : t < gK σ) (hl : LW B (gK σ) (gT σ) (f, t, k, x, y, l)) : SW B cs (snd σ f t k x y l) := by
  simp only [snd]
  split
  · exact h
  · refine ⟨h.1, h.2.1, h.2.2.1, h.2.2.2.1, h.2.2.2.2.1, fun u hu => ?_, h.2.2.2.2.2.2⟩
    rcases List.mem_append.mp hu with hu | hu
    · exact h.2.2.2.2.2.1 u hu
    · rw [List.mem_singleton.mp hu]
      cases e : lvd σ t with
      | true => rw [ltr_live e]; exact hl
      | false =>
        rw [ltr_dead e]
        exact ⟨ht, hf, (show 1 ≤ 12 by omega), (show 12 ≤ 12 by omega), (show 0 ≤ 24 by omega), Nat.zero_le _, fun e => (by rcases e with e | e <;> cases e), fun e => (by rcases e with e | e | e; cases e; cases e; exact absurd e.1 (show ¬ 12 = 11 by omega)), fun e => (absurd e (show ¬ 12 = 9 by omega)), (fun q hq => by cases hq), Nat.zero_le _⟩
theorem wof_n {p : Option Nat} {x : Nat} (hp : ∀ q, p = some q → q < 16) (hx : x < 16) : nI x = onv p ↔ p = some x := by
  rw [eq_comm, onv_eq (fun q hq => by have := hp q hq; omega) (by omega)]
/-- those of l without two -/
def wof (p q : Option Nat) (l : List Nat) : List Nat := l.filter (fun x => !(p == some x) && !(q == some x))
theorem wof_s {p q : Option Nat} {l : List Nat} {k : Nat} (h : k < l.length) : wof p q (l.take (k + 1)) = if p = some (l.getD k 0) ∨ q = some (l.getD k 0) then wof p q (l.take k) else wof p q (l.take k) ++ [l.getD k 0] := by
  rw [List.take_succ, List.getElem?_eq_getElem h]
  have e : l.getD k 0 = l[k] := by simp [List.getD, List.getElem?_eq_getElem h]
  rw [e]
  simp only [wof, List.filter_append]
  by_cases h1 : p = some l[k] ∨ q = some l[k]
  · rw [if_pos h1]
    rcases h1 with h1 | h1 <;> simp [h1]
  · rw [if_neg h1]
    have h2 : ¬ p = some l[k] := fun e => h1 (Or.inl e)
    have h3 : ¬ q = some l[k] := fun e => h1 (Or.inr e)
    simp [h2, h3]
theorem wof_le (p q : Option Nat) (l : List Nat) (k : Nat) : (wof p q (l.take k)).length ≤ k := Nat.le_trans (List.length_filter_le _ _) (by rw [List.length_take]; omega)
theorem wof_mem {p q : Option Nat} {l : List Nat} {x : Nat} (h : x ∈ wof p q l) : x ∈ l := (List.mem_filter.mp h).1
/-- what is drawn out of the pool -/
def dpV (cs : List Nat) (σ : Sg) (l : List Nat) : Option Nat := if l.length = 0 then none else some (l.getD (dI cs σ l.length) 0)
def dpL (cs : List Nat) (σ : Sg) (l : List Nat) : List Nat := l.eraseIdx (dI cs σ l.length)
/-- up to n of the pool come to the list -/
def lfp (cs : List Nat) : Nat → Sg → List Nat → List Nat → Sg × List Nat × List Nat
  | 0, σ, p, l => (σ, p, l)
  | n + 1, σ, p, l => if p.length = 0 then (σ, p, l) else lfp cs n (dS cs σ p.length) (dpL cs σ p) (l ++ [p.getD (dI cs σ p.length) 0])
theorem nte_full {cs : List Nat} {σ : Sg} {i q : Nat} (h : ¬ (q = i ∨ q ∈ nAc (gN σ i) ∨ q ∈ nPa (gN σ i))) (h2 : (gZ σ).2.1 ≤ (nPa (gN σ i)).length) : nte cs σ i q = paPut (paErase (dS cs σ (nPa (gN σ i)).length) i (dI cs σ (nPa (gN σ i)).length)) i q := by
  simp only [nte]
  rw [if_neg h, if_pos h2]
theorem nte_room {cs : List Nat} {σ : Sg} {i q : Nat} (h : ¬ (q = i ∨ q ∈ nAc (gN σ i) ∨ q ∈ nPa (gN σ i))) (h2 : ¬ (gZ σ).2.1 ≤ (nPa (gN σ i)).length) : nte cs σ i q = paPut σ i q := by
  simp only [nte]
  rw [if_neg h, if_neg h2]
theorem gN_self {σ : Sg} {i : Nat} {d : Nd} : gN (sNd σ i d) i = d := va_up_self _ _ _
theorem gN_ne {σ : Sg} {i j : Nat} {d : Nd} (h : j ≠ i) : gN (sNd σ i d) j = gN σ j := va_up_ne _ _ h
theorem wofO {l : List Nat} {p q : Option Nat} (h : ∀ x ∈ l, x < 16) : ∀ x ∈ wof p q l, x < 16 := fun x hx => h x (wof_mem hx)
theorem dp_at {cs : List Nat} {σ : Sg} {pl : List Nat} (hle : pl.length ≤ 8) (h : ∀ x ∈ pl, x < 16) : nlAt (pl.map nI) (if pl.length = 0 then -6 else nI (dI cs σ pl.length)) = onv (dpV cs σ pl) := by
  by_cases e : pl.length = 0
  · rw [if_pos e]
    simp only [dpV, if_pos e]
    exact nlAt_neg (by decide)
  · rw [if_neg e]
    simp only [dpV, if_neg e]
    exact map_nlAt (dI_lt (by omega)) (by omega)
theorem dp_rm {A : Nat → Nat} {g : pM} {b : Nat} {cs : List Nat} {σ : Sg} {pl : List Nat} (hle : pl.length ≤ 8) (h : ∀ x ∈ pl, x < 16) (hN : NL A g b 8 (if (if pl.length = 0 then (-6 : Int32) else nI (dI cs σ pl.length)) < 0 then pl.map nI else (pl.map nI).eraseIdx (if pl.length = 0 then (-6 : Int32) else nI (dI cs σ pl.length)).toNatClampNeg)) : NLN A g b 8 (dpL cs σ pl) := by
  by_cases e : pl.length = 0
  · have e2 : pl = [] := List.length_eq_zero_iff.mp e
    subst e2
    exact ⟨hN, fun x hx => by simp [dpL] at hx⟩
  · have hd : dI cs σ pl.length < pl.length := dI_lt (by omega)
    rw [if_neg e, if_neg (nI_pos (by omega)), nI_clamp (by omega), map_eraseIdx] at hN
    exact ⟨hN, fun x hx => h x (List.mem_of_mem_eraseIdx hx)⟩
theorem add_no {cs : List Nat} {σ : Sg} {i q : Nat} (h : q = i ∨ q ∈ nAc (gN σ i)) : add cs σ i q = σ := by simp only [add, if_pos h]
theorem add_full {cs : List Nat} {σ : Sg} {i q : Nat} (h : ¬ (q = i ∨ q ∈ nAc (gN σ i))) (h2 : (gZ σ).1 ≤ (nAc (gN (paRem σ i q) i)).length) : add cs σ i q = ad2 (drp cs (dS cs (paRem σ i q) (nAc (gN (paRem σ i q) i)).length) i ((nAc (gN (paRem σ i q) i)).getD (dI cs (paRem σ i q) (nAc (gN (paRem σ i q) i)).length) 0)) i q := by
  have h3 : (gZ σ).1 ≤ (nAc (gN σ i)).length := by
    rw [show nAc (gN (paRem σ i q) i) = nAc (gN σ i) from by simp only [paRem, gN_self]] at h2
    exact h2
  simp only [add]
  rw [if_neg h, if_pos h3]
theorem add_room {cs : List Nat} {σ : Sg} {i q : Nat} (h : ¬ (q = i ∨ q ∈ nAc (gN σ i))) (h2 : ¬ (gZ σ).1 ≤ (nAc (gN (paRem σ i q) i)).length) : add cs σ i q = ad2 (paRem σ i q) i q := by
  have h3 : ¬ (gZ σ).1 ≤ (nAc (gN σ i)).length := by
    rw [show nAc (gN (paRem σ i q) i) = nAc (gN σ i) from by simp only [paRem, gN_self]] at h2
    exact h2
  simp only [add]
  rw [if_neg h, if_neg h3]
theorem ad2_t {σ : Sg} {i q : Nat} (h : nAs (gN (egS (acPut σ i q) i q) i) = some q) : ad2 σ i q = asS (egS (acPut σ i q) i q) i none := by simp only [ad2, if_pos h]
theorem ad2_f {σ : Sg} {i q : Nat} (h : ¬ nAs (gN (egS (acPut σ i q) i q) i) = some q) : ad2 σ i q = egS (acPut σ i q) i q := by simp only [ad2, if_neg h]
theorem lw_mk {B K T f t k x y : Nat} {l : List Nat} (h1 : f < K) (h2 : t < K) (h3 : 1 ≤ k) (h4 : k ≤ 12) (h5 : x ≤ 24) (h6 : y ≤ B + 6) (h7 : k = 2 ∨ k = 7 → x < K) (h8 : k = 9 ∨ k = 10 ∨ (k = 11 ∧ y ≠ 0) → x < T) (h9 : k = 9 → y ≤ B + 1) (h10 : ∀ q ∈ l, q < K) (h11 : l.length ≤ 5) : LW B K T (f, t, k, x, y, l) := ⟨h1, h2, h3, h4, h5, h6, h7, h8, h9, h10, h11⟩
theorem lw_0 {B K T f t k : Nat} (h1 : f < K) (h2 : t < K) (h3 : k = 3 ∨ k = 4 ∨ k = 6 ∨ k = 12 ∨ k = 1) : LW B K T (f, t, k, 0, 0, []) := lw_mk h1 h2 (by omega) (by omega) (by omega) (by omega) (by omega) (by omega) (by omega) (fun _ h => by cases h) (by simp)
theorem SW.ulS {B i q : Nat} {cs : List Nat} {σ : Sg} (h : SW B cs σ) (hi : i < gK σ) (hq : q < gK σ) : SW B cs (ulS σ i q) := by
  have hk := h.2.1
  exact SW.sn h (nw_uln (h.nw hi) (by omega))
theorem SW.paRem {B i q : Nat} {cs : List Nat} {σ : Sg} (h : SW B cs σ) (hi : i < gK σ) : SW B cs (paRem σ i q) := by
  exact SW.sn h (NW.pa (h.nw hi) (fun x hx => (h.nw hi).2.2.1 x (List.mem_of_mem_erase hx)) (Nat.le_trans List.length_erase_le (h.nw hi).2.2.2.2.2.1))
theorem nte_SW {B i q : Nat} {cs : List Nat} {σ : Sg} (h : SW B cs σ) (hi : i < gK σ) (hq : q < gK σ) : SW B cs (nte cs σ i q) := by
  by_cases e : q = i ∨ q ∈ nAc (gN σ i) ∨ q ∈ nPa (gN σ i)
  · rw [show nte cs σ i q = σ from if_pos e]
    exact h
  · have hz := h.2.2.2.1
    have n := h.nw hi
    have hz2 := hz.2.2.1
    have hl := n.2.2.2.2.2.1
    have hm : ∀ l : List Nat, (∀ x ∈ l, x < gK σ) → ∀ x ∈ l ++ [q], x < gK σ := fun l hl x hx => by
      rcases List.mem_append.mp hx with hx | hx
      · exact hl x hx
      · rw [List.mem_singleton.mp hx]; exact hq
    by_cases e2 : (gZ σ).2.1 ≤ (nPa (gN σ i)).length
    · rw [nte_full e e2]
      have h1 : SW B cs (dS cs σ (nPa (gN σ i)).length) := h.drw
      have hi1 : i < gK (dS cs σ (nPa (gN σ i)).length) := by rw [dS_K]; exact hi
      have hd : dI cs σ (nPa (gN σ i)).length < (nPa (gN σ i)).length := dI_lt (by omega)
      have hlen : ((nPa (gN σ i)).eraseIdx (dI cs σ (nPa (gN σ i)).length)).length = (nPa (gN σ i)).length - 1 := List.length_eraseIdx_of_lt hd
      have h2 : SW B cs (paErase (dS cs σ (nPa (gN σ i)).length) i (dI cs σ (nPa (gN σ i)).length)) := SW.sn h1 (NW.pa (h1.nw hi1) (fun x hx => (h1.nw hi1).2.2.1 x (List.mem_of_mem_eraseIdx hx)) (by rw [dS_N, dS_Z, hlen]; omega))
      refine SW.sn h2 (NW.pa (h2.nw hi1) ?_ ?_)
      · simp only [paErase, gN_self, dS_N]
        show ∀ x ∈ (nPa (gN σ i)).eraseIdx _ ++ [q], x < gK (dS cs σ _)
        rw [dS_K]
        exact hm _ (fun x hx => n.2.2.1 x (List.mem_of_mem_eraseIdx hx))
      · simp only [paErase, gN_self, dS_N]
        show ((nPa (gN σ i)).eraseIdx _ ++ [q]).length ≤ (gZ (dS cs σ _)).2.1
        rw [dS_Z, List.length_append, hlen, List.length_singleton]
        omega
    · rw [nte_room e e2]
      refine SW.sn h (NW.pa n (hm _ n.2.2.1) ?_)
      rw [List.length_append, List.length_singleton]
      omega
theorem SW.nte {B i q : Nat} {cs : List Nat} {σ : Sg} (h : SW B cs σ) (hi : i < gK σ) (hq : q < gK σ) : SW B cs (nte cs σ i q) := nte_SW h hi hq
theorem SW.drp {B i q : Nat} {cs : List Nat} {σ : Sg} (h : SW B cs σ) (hi : i < gK σ) (hq : q < gK σ) : SW B cs (drp cs σ i q) := by
  have h1 : SW B cs (snd σ i q 4 0 0 []) := h.sent hi hq (lw_0 hi hq (by omega))
  have h2 := SW.ulS (i := i) (q := q) h1 (by rw [snd_K]; exact hi) (by rw [snd_K]; exact hq)
  exact SW.nte h2 (by show i < gK (snd σ i q 4 0 0 []); rw [snd_K]; exact hi) (by show q < gK (snd σ i q 4 0 0 []); rw [snd_K]; exact hq)
theorem nte_ac {cs : List Nat} {σ : Sg} {i q j : Nat} : nAc (gN (nte cs σ i q) j) = nAc (gN σ j) := by
  have key : ∀ (σ : Sg) (l : List Nat), nAc (gN (sNd σ i (sPa (gN σ i) l)) j) = nAc (gN σ j) := fun σ l => by
    by_cases e : j = i
    · subst e
      rw [gN_self]
    · rw [gN_ne e]
  simp only [nte]
  split
  · rfl
  · split
    · exact (key _ _).trans ((key _ _).trans (by rw [dS_N]))
    · exact key _ _
theorem drp_ac {cs : List Nat} {σ : Sg} {i q : Nat} : nAc (gN (drp cs σ i q) i) = (nAc (gN σ i)).erase q := by
  simp only [drp]
  rw [nte_ac]
  simp only [ulS, gN_self, snd_N]
  rfl
theorem ad2_SW {B i q : Nat} {cs : List Nat} {σ : Sg} (h : SW B cs σ) (hi : i < gK σ) (hq : q < gK σ) (h1 : q ≠ i) (h2 : q ∉ nAc (gN σ i)) (h3 : (nAc (gN σ i)).length < (gZ σ).1) : SW B cs (ad2 σ i q) := by
  have k1 : SW B cs (acPut σ i q) := SW.sn h (NW.acp (h.nw hi) hq h2 h3 h1)
  have k2 : SW B cs (egS (acPut σ i q) i q) := SW.egS k1 hi
  simp only [ad2]
  split
  · exact SW.sn k2 (NW.asq (k2.nw hi) (fun q e => by cases e))
  · exact k2
theorem add_SW {B i q : Nat} {cs : List Nat} {σ : Sg} (h : SW B cs σ) (hi : i < gK σ) (hq : q < gK σ) : SW B cs (add cs σ i q) := by
  by_cases e : q = i ∨ q ∈ nAc (gN σ i)
  · rw [add_no e]
    exact h
  · have h1 : SW B cs (paRem σ i q) := SW.paRem h hi
    have e1 : nAc (gN (paRem σ i q) i) = nAc (gN σ i) := by simp only [paRem, gN_self]
    have n1 := h1.nw hi
    have hl1 := n1.2.2.2.2.1
    have hz := h1.2.2.2.1
    have hz1 := hz.1
    by_cases e2 : (gZ σ).1 ≤ (nAc (gN (paRem σ i q) i)).length
    · rw [add_full e e2]
      have h2 : SW B cs (dS cs (paRem σ i q) (nAc (gN (paRem σ i q) i)).length) := h1.drw
      have hz3 : 2 ≤ (gZ σ).1 := h.2.2.2.1.1
      have hm : (nAc (gN (paRem σ i q) i)).getD (dI cs (paRem σ i q) (nAc (gN (paRem σ i q) i)).length) 0 ∈ nAc (gN (paRem σ i q) i) := getD_mem (dI_lt (by omega))
      generalize hp : (nAc (gN (paRem σ i q) i)).getD (dI cs (paRem σ i q) (nAc (gN (paRem σ i q) i)).length) 0 = p at hm ⊢
      have hK : gK (dS cs (paRem σ i q) (nAc (gN (paRem σ i q) i)).length) = gK σ := dS_K
      have hpK : p < gK σ := n1.2.1 p hm
      have h3 := SW.drp (i := i) (q := p) h2 (by rw [hK]; exact hi) (by rw [hK]; exact hpK)
      have e3 : nAc (gN (drp cs (dS cs (paRem σ i q) (nAc (gN (paRem σ i q) i)).length) i p) i) = (nAc (gN σ i)).erase p := by
        rw [drp_ac, dS_N, e1]
      refine ad2_SW h3 (by rw [drp_K, hK]; exact hi) (by rw [drp_K, hK]; exact hq) (fun x => e (Or.inl x)) ?_ ?_
      · rw [e3]
        exact fun x => e (Or.inr (List.mem_of_mem_erase x))
      · rw [e3, drp_Z, dS_Z, List.length_erase_of_mem (e1 ▸ hm)]
        have : (nAc (gN σ i)).length ≤ (gZ σ).1 := (h.nw hi).2.2.2.2.1
        show (nAc (gN σ i)).length - 1 < (gZ σ).1
        omega
    · rw [add_room e e2]
      exact ad2_SW h1 hi hq (fun x => e (Or.inl x)) (by rw [e1]; exact fun x => e (Or.inr x)) (Nat.not_le.mp e2)
theorem SW.add {B i q : Nat} {cs : List Nat} {σ : Sg} (h : SW B cs σ) (hi : i < gK σ) (hq : q < gK σ) : SW B cs (add cs σ i q) := add_SW h hi hq
theorem drp_room {B i q : Nat} {cs : List Nat} {σ : Sg} (h : SW B cs σ) (hi : i < gK σ) (hq : q < gK σ) (hm : q ∈ nAc (gN σ i)) : (nAc (gN (drp cs σ i q) i)).length < 5 := by
  rw [drp_ac, List.length_erase_of_mem hm]
  have h1 := (h.nw hi).2.2.2.2.1
  have h2 := h.2.2.2.1.2.1
  omega
theorem ad_w {B i q : Nat} {cs : List Nat} {σ : Sg} (h : SW B cs σ) (hi : i < gK σ) : ndW (gN (acPut σ i q) i) := by
  simp only [acPut, gN_self]
  exact h.dw hi
theorem add_rf {cs : List Nat} {σ σ1 σ2 σ3 : Sg} {i q : Nat} (h : ¬ (q = i ∨ q ∈ nAc (gN σ i))) (h2 : ¬ (gZ σ).1 ≤ (nAc (gN σ1 i)).length) (e1 : σ1 = paRem σ i q) (e2 : σ2 = acPut σ1 i q) (e3 : σ3 = egS σ2 i q) (hc : ¬ nAs (gN σ3 i) = some q) : add cs σ i q = σ3 := by
  subst e3 e2 e1
  rw [add_room h h2, ad2_f hc]
theorem add_rt {cs : List Nat} {σ σ1 σ2 σ3 σ4 : Sg} {i q : Nat} (h : ¬ (q = i ∨ q ∈ nAc (gN σ i))) (h2 : ¬ (gZ σ).1 ≤ (nAc (gN σ1 i)).length) (e1 : σ1 = paRem σ i q) (e2 : σ2 = acPut σ1 i q) (e3 : σ3 = egS σ2 i q) (e4 : σ4 = asS σ3 i none) (hc : nAs (gN σ3 i) = some q) : add cs σ i q = σ4 := by
  subst e4 e3 e2 e1
  rw [add_room h h2, ad2_t hc]
theorem add_ff {cs : List Nat} {σ σ1 σ2 σ3 σ4 σ5 : Sg} {i q : Nat} (h : ¬ (q = i ∨ q ∈ nAc (gN σ i))) (h2 : (gZ σ).1 ≤ (nAc (gN σ1 i)).length) (e1 : σ1 = paRem σ i q) (e2 : σ2 = dS cs σ1 (nAc (gN σ1 i)).length) (e3 : σ3 = drp cs σ2 i ((nAc (gN σ2 i)).getD (dI cs σ1 (nAc (gN σ1 i)).length) 0)) (e4 : σ4 = acPut σ3 i q) (e5 : σ5 = egS σ4 i q) (hc : ¬ nAs (gN σ5 i) = some q) : add cs σ i q = σ5 := by
  have e : gN σ2 = gN σ1 := by rw [e2, dS_N]
  rw [e] at e3
  subst e5 e4 e3 e2 e1
  rw [add_full h h2, ad2_f hc]
theorem add_ft {cs : List Nat} {σ σ1 σ2 σ3 σ4 σ5 σ6 : Sg} {i q : Nat} (h : ¬ (q = i ∨ q ∈ nAc (gN σ i))) (h2 : (gZ σ).1 ≤ (nAc (gN σ1 i)).length) (e1 : σ1 = paRem σ i q) (e2 : σ2 = dS cs σ1 (nAc (gN σ1 i)).length) (e3 : σ3 = drp cs σ2 i ((nAc (gN σ2 i)).getD (dI cs σ1 (nAc (gN σ1 i)).length) 0)) (e4 : σ4 = acPut σ3 i q) (e5 : σ5 = egS σ4 i q) (e6 : σ6 = asS σ5 i none) (hc : nAs (gN σ5 i) = some q) : add cs σ i q = σ6 := by
  have e : gN σ2 = gN σ1 := by rw [e2, dS_N]
  rw [e] at e3
  subst e6 e5 e4 e3 e2 e1
  rw [add_full h h2, ad2_t hc]
abbrev rm_X8_send : Room := { frames := 3, cells := 0, slots := 0, locals := 71 }
theorem Y_X8_send : pY yX8_send cX8_send 6 (Option.none : Option Jvm.ClassFile.FieldType) := ⟨u_624, u_625, u_11, u_626⟩
theorem N_X8_send : yX8_send.cls ≠ "java/lang/invoke/MethodHandle" ∧ yX8_send.cls ≠ "java/lang/invoke/VarHandle" ∧ (parseMethodDescriptor yX8_send.desc).map (fun d => d.parameters.length) = some 5 := by decide +kernel
set_option maxRecDepth 20000 in
set_option maxHeartbeats 4000000 in
theorem c_X8_send (A : Nat → Nat) (P : List Nat) (g : pM) (w : Nat) {cs : List Nat} {σ : Sg} {pl ll : List Nat} (i t k x y : Nat) (hi : i < gK σ) (ht : t < gK σ) (hk : k ≤ 12) (hx : x < 2 ^ 31) (hy : y < 2 ^ 31) (h : VW A g w cs σ pl ll) : PM yX8_send cX8_send 6 (Option.none : Option Jvm.ClassFile.FieldType) rm_X8_send [.ref (A (w + 15000)), .ref (A (w + 100 + 100 * i)), .int (nI t), .int (nI k), .int (nI x), .int (nI y)] P A g (fun v g' => v = none ∧ VW A g' w cs (snd σ i t k x y []) pl ll ∧ FrS g g' w) := by
  obtain ⟨hV, hW, hC, hP, hL⟩ := h
  have hK := hW.k16
  refine px_intro (by decide +kernel) (Nat.le_of_ble_eq_true rfl) (fun K sz C R => ?_)
  show V K 0 0 P A g [(0, .ref (A (w + 15000))), (1, .ref (A (w + 100 + 100 * i))), (2, .int (nI t)), (3, .int (nI k)), (4, .int (nI x)), (5, .int (nI y))] 0 []
  refine g_aload_n (pc := 0) C dX8_send_0 0 rfl ?_
  refine g_get (pc := 1) C (j := 0) hV rfl rfl (by decide) u_300 dX8_send_1 ?_
  refine g_aload_n (pc := 4) C dX8_send_4 1 rfl ?_
  refine g_get (pc := 5) C (j := 0) (WD.nd (i := i) hW (by omega)).1 rfl rfl (by decide) u_131 dX8_send_5 ?_
  refine g_iload_n (pc := 8) C dX8_send_8 2 rfl ?_
  refine g_iload_n (pc := 9) C dX8_send_9 3 rfl ?_
  refine g_iload (pc := 10) C dX8_send_10 4 rfl ?_
  refine g_iload (pc := 12) C dX8_send_12 5 rfl ?_
  refine g_callV (pc := 14) C (As := [.int (nI i), .int (nI t), .int (nI k), .int (nI x), .int (nI y)]) (rest := []) (b := w) (c_X9_send A P g w i t k x y (by omega) (by omega) (by omega) (by omega) (by omega) hW) (WD.wb hW).1 rfl rfl Y_X9_send u_611 N_X9_send ⟨by decide, by decide⟩ ⟨by decide, by decide⟩ (Nat.le_of_ble_eq_true rfl) rfl dX8_send_14 ?_
  rintro v0 _ _ g_1 ⟨rfl, rfl, hf_2, hcase⟩
  have hW_3 : WD A g_1 w (w + 15005) (snd σ i t k x y []) := by rcases hcase with ⟨_, _, q⟩ | ⟨_, _, _, _, _, q, _⟩; exact q; exact q
  obtain ⟨vv, hvc, hvv⟩ : ∃ vv : Value, vv.category = 1 ∧ v0 = some vv := by rcases hcase with ⟨_, e, _⟩ | ⟨_, _, _, e, _, _, _⟩; exact ⟨_, rfl, e⟩; exact ⟨_, rfl, e⟩
  subst hvv
  clear hcase
  have hf_4 : Fr g g_1 (w + 3) (w + 3500) := FrR.fr hf_2
  have h_5 := hf_4.at (by omega) hV
  have hp_6 := CO.fr hC hf_4 (by omega)
  have hp_7 := NLN.fr hP hf_4 (by omega)
  have hp_8 := NLN.fr hL hf_4 (by omega)
  show V K 0 0 P A g_1 [(0, .ref (A (w + 15000))), (1, .ref (A (w + 100 + 100 * i))), (2, .int (nI t)), (3, .int (nI k)), (4, .int (nI x)), (5, .int (nI y))] 17 [vv]
  refine g_pop (pc := 17) C dX8_send_17 hvc ?_
  exact g_vret (pc := 18) C R ⟨rfl, rfl, rfl, ⟨h_5, hW_3, hp_6, hp_7, hp_8⟩, fun k hk => by rw [hf_2 k (by omega)]⟩ (by decide) (by decide) dX8_send_18
abbrev rm_X8_isFull : Room := { frames := 0, cells := 0, slots := 0, locals := 0 }
theorem Y_X8_isFull : pY yX8_isFull cX8_isFull 2 (Option.some Jvm.ClassFile.FieldType.boolean) := ⟨u_604, u_605, u_11, u_606⟩
theorem N_X8_isFull : yX8_isFull.cls ≠ "java/lang/invoke/MethodHandle" ∧ yX8_isFull.cls ≠ "java/lang/invoke/VarHandle" ∧ (parseMethodDescriptor yX8_isFull.desc).map (fun d => d.parameters.length) = some 1 := by decide +kernel
set_option maxRecDepth 20000 in
set_option maxHeartbeats 4000000 in
theorem c_X8_isFull (A : Nat → Nat) (P : List Nat) (g : pM) (w : Nat) {cs : List Nat} {σ : Sg} {pl ll : List Nat} (i : Nat) (hi : i < gK σ) (hz : (gZ σ).1 < 2 ^ 31) (h : VW A g w cs σ pl ll) : PM yX8_isFull cX8_isFull 2 (Option.some Jvm.ClassFile.FieldType.boolean) rm_X8_isFull [.ref (A (w + 15000)), .ref (A (w + 100 + 100 * i))] P A g (fun v g' => v = some (.int (b32 (decide ((gZ σ).1 ≤ (nAc (gN σ i)).length)))) ∧ g = g') := by
  obtain ⟨hV, hW, hC, hP, hL⟩ := h
  have hK := hW.k16
  have hle := (hW.nd hi).2.1.le
  refine px_intro (by decide +kernel) (Nat.le_of_ble_eq_true rfl) (fun K sz C R => ?_)
  show V K 0 0 P A g [(0, .ref (A (w + 15000))), (1, .ref (A (w + 100 + 100 * i)))] 0 []
  refine g_aload_n (pc := 0) C dX8_isFull_0 1 rfl ?_
  refine g_get (pc := 1) C (j := 2) (WD.nd (i := i) hW (by omega)).1 rfl rfl (by decide) u_139 dX8_isFull_1 ?_
  refine g_get (pc := 4) C (j := 1) (NLN.o (WD.nd (i := i) hW (by omega)).2.1) rfl rfl (by decide) u_95 dX8_isFull_4 ?_
  refine g_aload_n (pc := 7) C dX8_isFull_7 0 rfl ?_
  refine g_get (pc := 8) C (j := 1) hV rfl rfl (by decide) u_301 dX8_isFull_8 ?_
  refine g_get (pc := 11) C (j := 0) (show g (w + 1) = ob 6 _ from hW.2.1) rfl rfl (by decide) u_53 dX8_isFull_11 ?_
  refine g_icmp_lt (pc := 14) C dX8_isFull_14 (tgt := 21) (by decide) (fun c_14 => ?_) (fun c_14 => ?_)
  ·
    have c_14 : (nAc (gN σ i)).length < (gZ σ).1 := (nI_ltI (by omega) (by omega)).mp c_14
    refine g_iconst (pc := 21) C dX8_isFull_21 (v := nI 0) rfl ?_
    exact g_zret (pc := 22) C R (Or.inl rfl) ⟨rfl, rfl, by rw [decide_eq_false (by omega)]; rfl, rfl⟩ (by decide) (by decide) dX8_isFull_22
  ·
    have c_14 : ¬ (nAc (gN σ i)).length < (gZ σ).1 := fun h => c_14 ((nI_ltI (a := (nAc (gN σ i)).length) (b := (gZ σ).1) (by omega) (by omega)).mpr h)
    refine g_iconst (pc := 17) C dX8_isFull_17 (v := nI 1) rfl ?_
    refine g_goto (pc := 18) C dX8_isFull_18 (tgt := 22) (by decide) ?_
    exact g_zret (pc := 22) C R (Or.inr rfl) ⟨rfl, rfl, by rw [decide_eq_true (by omega)]; rfl, rfl⟩ (by decide) (by decide) dX8_isFull_22
abbrev rm_X8_note : Room := { frames := 2, cells := 0, slots := 0, locals := 43 }
theorem Y_X8_note : pY yX8_note cX8_note 3 (Option.none : Option Jvm.ClassFile.FieldType) := ⟨u_619, u_620, u_11, u_621⟩
theorem N_X8_note : yX8_note.cls ≠ "java/lang/invoke/MethodHandle" ∧ yX8_note.cls ≠ "java/lang/invoke/VarHandle" ∧ (parseMethodDescriptor yX8_note.desc).map (fun d => d.parameters.length) = some 2 := by decide +kernel
set_option maxRecDepth 20000 in
set_option maxHeartbeats 4000000 in
theorem c_X8_note (A : Nat → Nat) (P : List Nat) (g : pM) (w : Nat) {B : Nat} {cs : List Nat} {σ : Sg} {pl ll : List Nat} (i q : Nat) (hi : i < gK σ) (hq : q < 16) (hS : SW B cs σ) (h : VW A g w cs σ pl ll) : PM yX8_note cX8_note 3 (Option.none : Option Jvm.ClassFile.FieldType) rm_X8_note [.ref (A (w + 15000)), .ref (A (w + 100 + 100 * i)), .int (nI q)] P A g (fun v g' => v = none ∧ VW A g' w cs (nte cs σ i q) pl ll ∧ FrS g g' w) := by
  obtain ⟨hV, hW, hC, hP, hL⟩ := h
  have hK := hS.2.1
  obtain ⟨hz1, hz2, hz3, hz4, hz5, hz6, hz7, hz8, hz9⟩ := hS.2.2.2.1
  have hle := (hW.nd hi).2.2.1.le
  refine px_intro (by decide +kernel) (Nat.le_of_ble_eq_true rfl) (fun K sz C R => ?_)
  show V K 0 0 P A g [(0, .ref (A (w + 15000))), (1, .ref (A (w + 100 + 100 * i))), (2, .int (nI q))] 0 []
  refine g_iload_n (pc := 0) C dX8_note_0 2 rfl ?_
  refine g_aload_n (pc := 1) C dX8_note_1 1 rfl ?_
  refine g_get (pc := 2) C (j := 0) (WD.nd (i := i) hW (by omega)).1 rfl rfl (by decide) u_131 dX8_note_2 ?_
  refine g_icmp_eq (pc := 5) C dX8_note_5 (tgt := 30) (by decide) (fun c_5 => ?_) (fun c_5 => ?_)
  ·
    have c_5 : q = i := (nI_eq (by omega) (by omega)).mp c_5
    exact g_vret (pc := 30) C R ⟨rfl, rfl, rfl, by simp only [nte]; rw [if_pos (Or.inl (by omega))]; exact ⟨hV, hW, hC, hP, hL⟩, FrS.rf⟩ (by decide) (by decide) dX8_note_30
  ·
    have c_5 : ¬ q = i := fun h => c_5 ((nI_eq (a := q) (b := i) (by omega) (by omega)).mpr h)
    refine g_aload_n (pc := 8) C dX8_note_8 1 rfl ?_
    refine g_get (pc := 9) C (j := 2) (WD.nd (i := i) hW (by omega)).1 rfl rfl (by decide) u_139 dX8_note_9 ?_
    refine g_iload_n (pc := 12) C dX8_note_12 2 rfl ?_
    refine g_callV (pc := 13) C (As := [.int (nI q)]) (rest := []) (b := (w + 100 + 100 * i + 1)) (n_X4_has A P g (w + 100 + 100 * i + 1) q (by omega) (WD.nd (i := i) hW (by omega)).2.1) (NLN.o (WD.nd (i := i) hW (by omega)).2.1) rfl rfl Y_X4_has u_597 N_X4_has ⟨by decide, by decide⟩ ⟨by decide, by decide⟩ (Nat.le_of_ble_eq_true rfl) rfl dX8_note_13 ?_
    rintro _ _ _ _ ⟨rfl, rfl, rfl, rfl⟩
    show V K 0 0 P A g [(0, .ref (A (w + 15000))), (1, .ref (A (w + 100 + 100 * i))), (2, .int (nI q))] 16 [.int (b32 (decide (q ∈ nAc (gN σ i))))]
    refine g_if_ne (pc := 16) C dX8_note_16 (tgt := 30) (by decide) (fun c_16 => ?_) (fun c_16 => ?_)
    ·
      exact g_vret (pc := 30) C R ⟨rfl, rfl, rfl, by simp only [nte]; rw [if_pos (Or.inr (Or.inl (of_decide_eq_true (b32_no c_16))))]; exact ⟨hV, hW, hC, hP, hL⟩, FrS.rf⟩ (by decide) (by decide) dX8_note_30
    ·
      refine g_aload_n (pc := 19) C dX8_note_19 1 rfl ?_
      refine g_get (pc := 20) C (j := 3) (WD.nd (i := i) hW (by omega)).1 rfl rfl (by decide) u_143 dX8_note_20 ?_
      refine g_iload_n (pc := 23) C dX8_note_23 2 rfl ?_
      refine g_callV (pc := 24) C (As := [.int (nI q)]) (rest := []) (b := (w + 100 + 100 * i + 3)) (n_X4_has A P g (w + 100 + 100 * i + 3) q (by omega) (WD.nd (i := i) hW (by omega)).2.2.1) (NLN.o (WD.nd (i := i) hW (by omega)).2.2.1) rfl rfl Y_X4_has u_597 N_X4_has ⟨by decide, by decide⟩ ⟨by decide, by decide⟩ (Nat.le_of_ble_eq_true rfl) rfl dX8_note_24 ?_
      rintro _ _ _ _ ⟨rfl, rfl, rfl, rfl⟩
      show V K 0 0 P A g [(0, .ref (A (w + 15000))), (1, .ref (A (w + 100 + 100 * i))), (2, .int (nI q))] 27 [.int (b32 (decide (q ∈ nPa (gN σ i))))]
      refine g_if_eq (pc := 27) C dX8_note_27 (tgt := 31) (by decide) (fun c_27 => ?_) (fun c_27 => ?_)
      ·
        have hnn : ¬ (q = i ∨ q ∈ nAc (gN σ i) ∨ q ∈ nPa (gN σ i)) := fun e => by rcases e with e | e | e; exact c_5 (by omega); exact absurd (decide_eq_true e) (by rw [b32_yes c_16]; decide); exact absurd (decide_eq_true e) (by rw [b32_yes c_27]; decide)
        refine g_aload_n (pc := 31) C dX8_note_31 1 rfl ?_
        refine g_get (pc := 32) C (j := 3) (WD.nd (i := i) hW (by omega)).1 rfl rfl (by decide) u_143 dX8_note_32 ?_
        refine g_get (pc := 35) C (j := 1) (NLN.o (WD.nd (i := i) hW (by omega)).2.2.1) rfl rfl (by decide) u_95 dX8_note_35 ?_
        refine g_aload_n (pc := 38) C dX8_note_38 0 rfl ?_
        refine g_get (pc := 39) C (j := 1) hV rfl rfl (by decide) u_301 dX8_note_39 ?_
        refine g_get (pc := 42) C (j := 1) (show g (w + 1) = ob 6 _ from hW.2.1) rfl rfl (by decide) u_56 dX8_note_42 ?_
        refine g_icmp_lt (pc := 45) C dX8_note_45 (tgt := 69) (by decide) (fun c_45 => ?_) (fun c_45 => ?_)
        ·
          have c_45 : (nPa (gN σ i)).length < (gZ σ).2.1 := (nI_ltI (by omega) (by omega)).mp c_45
          have hroom : (nPa (gN σ i)).length < 8 := by omega
          refine g_aload_n (pc := 69) C dX8_note_69 1 rfl ?_
          refine g_get (pc := 70) C (j := 3) (WD.nd (i := i) hW (by omega)).1 rfl rfl (by decide) u_143 dX8_note_70 ?_
          refine g_iload_n (pc := 73) C dX8_note_73 2 rfl ?_
          refine g_callV (pc := 74) C (As := [.int (nI q)]) (rest := []) (b := (w + 100 + 100 * i + 3)) (n_X4_put A P g (w + 100 + 100 * i + 3) q (by omega) (WD.nd (i := i) hW (by omega)).2.2.1 hroom) (NLN.o (WD.nd (i := i) hW (by omega)).2.2.1) rfl rfl Y_X4_put u_466 N_X4_put ⟨by decide, by decide⟩ ⟨by decide, by decide⟩ (Nat.le_of_ble_eq_true rfl) rfl dX8_note_74 ?_
          rintro _ _ _ g_1 ⟨rfl, rfl, rfl, hn_2, hf_3⟩
          have hN_4 := ND.pa (WD.nd (i := i) hW (by omega)) hf_3 hn_2
          have hW_5 := WD.sn (i := i) hW (by omega) (hf_3.mo (by omega) (by omega)) hN_4
          have h_6 := hf_3.at (by omega) hV
          have hp_7 := CO.fr hC hf_3 (by omega)
          have hp_8 := NLN.fr hP hf_3 (by omega)
          have hp_9 := NLN.fr hL hf_3 (by omega)
          obtain ⟨σ10, hσ10⟩ : ∃ sM : Sg, sM = sNd σ i (sPa (gN σ i) ((nPa (gN σ i)) ++ [q])) := ⟨_, rfl⟩
          have hW_11 : WD A g_1 w (w + 15005) σ10 := by rw [hσ10]; exact hW_5
          clear hW_5
          have hK_σ10 : gK σ10 = gK σ := (congrArg gK hσ10).trans (rfl : gK σ = gK σ)
          have hT_σ10 : gT σ10 = gT σ := (congrArg gT hσ10).trans (rfl : gT σ = gT σ)
          have hZ_σ10 : gZ σ10 = gZ σ := (congrArg gZ hσ10).trans (rfl : gZ σ = gZ σ)
          show V K 0 0 P A g_1 [(0, .ref (A (w + 15000))), (1, .ref (A (w + 100 + 100 * i))), (2, .int (nI q))] 77 []
          subst hσ10
          exact g_vret (pc := 77) C R ⟨rfl, rfl, rfl, by rw [nte_room hnn (by omega)]; exact ⟨h_6, hW_11, hp_7, hp_8, hp_9⟩, fun k hk => by rw [hf_3 k (by omega)]⟩ (by decide) (by decide) dX8_note_77
        ·
          have c_45 : ¬ (nPa (gN σ i)).length < (gZ σ).2.1 := fun h => c_45 ((nI_ltI (a := (nPa (gN σ i)).length) (b := (gZ σ).2.1) (by omega) (by omega)).mpr h)
          refine g_aload_n (pc := 48) C dX8_note_48 1 rfl ?_
          refine g_get (pc := 49) C (j := 3) (WD.nd (i := i) hW (by omega)).1 rfl rfl (by decide) u_143 dX8_note_49 ?_
          refine g_aload_n (pc := 52) C dX8_note_52 0 rfl ?_
          refine g_get (pc := 53) C (j := 0) hV rfl rfl (by decide) u_300 dX8_note_53 ?_
          refine g_aload_n (pc := 56) C dX8_note_56 1 rfl ?_
          refine g_get (pc := 57) C (j := 3) (WD.nd (i := i) hW (by omega)).1 rfl rfl (by decide) u_143 dX8_note_57 ?_
          refine g_get (pc := 60) C (j := 1) (NLN.o (WD.nd (i := i) hW (by omega)).2.2.1) rfl rfl (by decide) u_95 dX8_note_60 ?_
          refine g_callV (pc := 63) C (As := [.int (nI (nPa (gN σ i)).length)]) (rest := [.ref (A (w + 100 + 100 * i + 3))]) (b := w) (c_X9_draw A P g w (nPa (gN σ i)).length (by omega) hW hC hS.nx (by omega)) (WD.wb hW).1 rfl rfl Y_X9_draw u_474 N_X9_draw ⟨by decide, by decide⟩ ⟨by decide, by decide⟩ (Nat.le_of_ble_eq_true rfl) rfl dX8_note_63 ?_
          rintro _ _ _ g_12 ⟨rfl, rfl, rfl, hW_13, hf_14⟩
          rw [if_neg (by omega)]
          have h_15 := hf_14.at (by omega) hV
          have hp_16 := CO.fr hC hf_14 (by omega)
          have hp_17 := NLN.fr hP hf_14 (by omega)
          have hp_18 := NLN.fr hL hf_14 (by omega)
          obtain ⟨σ19, hσ19⟩ : ∃ sM : Sg, sM = dS cs σ (nPa (gN σ i)).length := ⟨_, rfl⟩
          have hW_20 : WD A g_12 w (w + 15005) σ19 := by rw [hσ19]; exact hW_13
          clear hW_13
          have hK_σ19 : gK σ19 = gK σ := (congrArg gK hσ19).trans (dS_K.trans (rfl : gK σ = gK σ))
          have hT_σ19 : gT σ19 = gT σ := (congrArg gT hσ19).trans (dS_T.trans (rfl : gT σ = gT σ))
          have hZ_σ19 : gZ σ19 = gZ σ := (congrArg gZ hσ19).trans (dS_Z.trans (rfl : gZ σ = gZ σ))
          have hlthW_13 : dI cs σ (nPa (gN σ i)).length < (nPa (gN σ i)).length := dI_lt (by omega)
          show V K 0 0 P A g_12 [(0, .ref (A (w + 15000))), (1, .ref (A (w + 100 + 100 * i))), (2, .int (nI q))] 66 [.int (nI (dI cs σ (nPa (gN σ i)).length)), .ref (A (w + 100 + 100 * i + 3))]
          refine g_callV (pc := 66) C (As := [.int (nI (dI cs σ (nPa (gN σ i)).length))]) (rest := []) (b := (w + 100 + 100 * i + 3)) (n_X4_removeAt A P g_12 (w + 100 + 100 * i + 3) (dI cs σ (nPa (gN σ i)).length) (by omega) (WD.nd (i := i) hW_20 (by omega)).2.2.1) (NLN.o (WD.nd (i := i) hW_20 (by omega)).2.2.1) rfl rfl Y_X4_removeAt u_486 N_X4_removeAt ⟨by decide, by decide⟩ ⟨by decide, by decide⟩ (Nat.le_of_ble_eq_true rfl) rfl dX8_note_66 ?_
          rintro _ _ _ g_21 ⟨rfl, rfl, rfl, hn_22, hf_23⟩
          have hN_24 := ND.pa (WD.nd (i := i) hW_20 (by omega)) hf_23 hn_22
          have hW_25 := WD.sn (i := i) hW_20 (by omega) (hf_23.mo (by omega) (by omega)) hN_24
          have h_26 := hf_23.at (by omega) h_15
          have hp_27 := CO.fr hp_16 hf_23 (by omega)
          have hp_28 := NLN.fr hp_17 hf_23 (by omega)
          have hp_29 := NLN.fr hp_18 hf_23 (by omega)
          obtain ⟨σ30, hσ30⟩ : ∃ sM : Sg, sM = sNd σ19 i (sPa (gN σ19 i) ((nPa (gN σ19 i)).eraseIdx (dI cs σ (nPa (gN σ i)).length))) := ⟨_, rfl⟩
          have hW_31 : WD A g_21 w (w + 15005) σ30 := by rw [hσ30]; exact hW_25
          clear hW_25
          have hK_σ30 : gK σ30 = gK σ := (congrArg gK hσ30).trans hK_σ19
          have hT_σ30 : gT σ30 = gT σ := (congrArg gT hσ30).trans hT_σ19
          have hZ_σ30 : gZ σ30 = gZ σ := (congrArg gZ hσ30).trans hZ_σ19
          show V K 0 0 P A g_21 [(0, .ref (A (w + 15000))), (1, .ref (A (w + 100 + 100 * i))), (2, .int (nI q))] 69 []
          have hroom2 : (nPa (gN σ30 i)).length < 8 := by rw [hσ30, gN_self, hσ19, dS_N]; show ((nPa (gN σ i)).eraseIdx _).length < 8; rw [List.length_eraseIdx_of_lt (by assumption)]; omega
          refine g_aload_n (pc := 69) C dX8_note_69 1 rfl ?_
          refine g_get (pc := 70) C (j := 3) (WD.nd (i := i) hW_31 (by omega)).1 rfl rfl (by decide) u_143 dX8_note_70 ?_
          refine g_iload_n (pc := 73) C dX8_note_73 2 rfl ?_
          refine g_callV (pc := 74) C (As := [.int (nI q)]) (rest := []) (b := (w + 100 + 100 * i + 3)) (n_X4_put A P g_21 (w + 100 + 100 * i + 3) q hq (WD.nd (i := i) hW_31 (by omega)).2.2.1 hroom2) (NLN.o (WD.nd (i := i) hW_31 (by omega)).2.2.1) rfl rfl Y_X4_put u_466 N_X4_put ⟨by decide, by decide⟩ ⟨by decide, by decide⟩ (Nat.le_of_ble_eq_true rfl) rfl dX8_note_74 ?_
          rintro _ _ _ g_32 ⟨rfl, rfl, rfl, hn_33, hf_34⟩
          have hN_35 := ND.pa (WD.nd (i := i) hW_31 (by omega)) hf_34 hn_33
          have hW_36 := WD.sn (i := i) hW_31 (by omega) (hf_34.mo (by omega) (by omega)) hN_35
          have h_37 := hf_34.at (by omega) h_26
          have hp_38 := CO.fr hp_27 hf_34 (by omega)
          have hp_39 := NLN.fr hp_28 hf_34 (by omega)
          have hp_40 := NLN.fr hp_29 hf_34 (by omega)
          obtain ⟨σ41, hσ41⟩ : ∃ sM : Sg, sM = sNd σ30 i (sPa (gN σ30 i) ((nPa (gN σ30 i)) ++ [q])) := ⟨_, rfl⟩
          have hW_42 : WD A g_32 w (w + 15005) σ41 := by rw [hσ41]; exact hW_36
          clear hW_36
          have hK_σ41 : gK σ41 = gK σ := (congrArg gK hσ41).trans hK_σ30
          have hT_σ41 : gT σ41 = gT σ := (congrArg gT hσ41).trans hT_σ30
          have hZ_σ41 : gZ σ41 = gZ σ := (congrArg gZ hσ41).trans hZ_σ30
          show V K 0 0 P A g_32 [(0, .ref (A (w + 15000))), (1, .ref (A (w + 100 + 100 * i))), (2, .int (nI q))] 77 []
          subst hσ41 hσ30 hσ19
          exact g_vret (pc := 77) C R ⟨rfl, rfl, rfl, by rw [nte_full hnn (by omega)]; exact ⟨h_37, hW_42, hp_38, hp_39, hp_40⟩, fun k hk => by rw [hf_34 k (by omega), hf_23 k (by omega), hf_14 k (by omega)]⟩ (by decide) (by decide) dX8_note_77
      ·
        exact g_vret (pc := 30) C R ⟨rfl, rfl, rfl, by simp only [nte]; rw [if_pos (Or.inr (Or.inr (of_decide_eq_true (b32_no c_27))))]; exact ⟨hV, hW, hC, hP, hL⟩, FrS.rf⟩ (by decide) (by decide) dX8_note_30
abbrev rm_X8_fillPool : Room := { frames := 1, cells := 0, slots := 0, locals := 21 }
theorem Y_X8_fillPool : pY yX8_fillPool cX8_fillPool 6 (Option.none : Option Jvm.ClassFile.FieldType) := ⟨u_458, u_459, u_11, u_460⟩
theorem N_X8_fillPool : yX8_fillPool.cls ≠ "java/lang/invoke/MethodHandle" ∧ yX8_fillPool.cls ≠ "java/lang/invoke/VarHandle" ∧ (parseMethodDescriptor yX8_fillPool.desc).map (fun d => d.parameters.length) = some 3 := by decide +kernel
set_option maxRecDepth 20000 in
set_option maxHeartbeats 4000000 in
theorem c_X8_fillPool (A : Nat → Nat) (P : List Nat) (g : pM) (w : Nat) {pl : List Nat} (b : Nat) {cap : Nat} {l : List Nat} (p q : Option Nat) (hp : ∀ x, p = some x → x < 16) (hq : ∀ x, q = some x → x < 16) (hb : b + 2 ≤ w + 15000) (hl8 : l.length ≤ 8) (hV : g (w + 15000) = ob 8 [.ref (A w), .ref (A (w + 1)), .ref (A (w + 15001)), .ref (A (w + 15003))]) (hP : NLN A g (w + 15001) 8 pl) (h : NLN A g b cap l) : PM yX8_fillPool cX8_fillPool 6 (Option.none : Option Jvm.ClassFile.FieldType) rm_X8_fillPool [.ref (A (w + 15000)), .ref (A b), .int (onv p), .int (onv q)] P A g (fun v g' => v = none ∧ NLN A g' (w + 15001) 8 (wof p q l) ∧ Fr g g' (w + 15001) (w + 15003)) := by
  refine px_intro (by decide +kernel) (Nat.le_of_ble_eq_true rfl) (fun K sz C R => ?_)
  show V K 0 0 P A g [(0, .ref (A (w + 15000))), (1, .ref (A b)), (2, .int (onv p)), (3, .int (onv q))] 0 []
  refine g_aload_n (pc := 0) C dX8_fillPool_0 0 rfl ?_
  refine g_get (pc := 1) C (j := 2) hV rfl rfl (by decide) u_302 dX8_fillPool_1 ?_
  refine g_callV (pc := 4) C (As := []) (rest := []) (b := (w + 15001)) (n_X4_clear A P g (w + 15001) hP) (NLN.o hP) rfl rfl Y_X4_clear u_461 N_X4_clear ⟨by decide, by decide⟩ ⟨by decide, by decide⟩ (Nat.le_of_ble_eq_true rfl) rfl dX8_fillPool_4 ?_
  rintro _ _ _ g_1 ⟨rfl, rfl, rfl, hn_2, hf_3⟩
  have h_4 := hf_3.at (by omega) hV
  have hp_5 := NLN.fr h hf_3 (by omega)
  show V K 0 0 P A g_1 [(0, .ref (A (w + 15000))), (1, .ref (A b)), (2, .int (onv p)), (3, .int (onv q))] 7 []
  refine g_iconst (pc := 7) C dX8_fillPool_7 (v := nI 0) rfl ?_
  refine g_istore (pc := 8) C dX8_fillPool_8 (by decide) (lv' := [(0, .ref (A (w + 15000))), (1, .ref (A b)), (2, .int (onv p)), (3, .int (onv q)), (4, .int (nI 0))]) [1, 2, 3, 4, 0] rfl ?_
  have lp_10 : ∀ (fuel : Nat) (k : Nat) (hk : k ≤ l.length) (gl : pM) (hVl : gl (w + 15000) = ob 8 [.ref (A w), .ref (A (w + 1)), .ref (A (w + 15001)), .ref (A (w + 15003))]) (hPl : NLN A gl (w + 15001) 8 (wof p q (l.take k))) (hbl : NLN A gl b cap l) (hf : Fr g gl (w + 15001) (w + 15003)), l.length - k < fuel → V K 0 0 P A gl [(0, .ref (A (w + 15000))), (1, .ref (A b)), (2, .int (onv p)), (3, .int (onv q)), (4, .int (nI k))] 10 [] := by
    intro fuel
    induction fuel with
    | zero => intro k hk gl hVl hPl hbl hf hμ; exact absurd hμ (Nat.not_lt_zero _)
    | succ fuel ih =>
      intro k hk gl hVl hPl hbl hf hμ
      refine g_iload (pc := 10) C dX8_fillPool_10 4 rfl ?_
      refine g_aload_n (pc := 12) C dX8_fillPool_12 1 rfl ?_
      refine g_get (pc := 13) C (j := 1) (NLN.o hbl) rfl rfl (by decide) u_95 dX8_fillPool_13 ?_
      refine g_icmp_ge (pc := 16) C dX8_fillPool_16 (tgt := 54) (by decide) (fun c_16 => ?_) (fun c_16 => ?_)
      ·
        have c_16 : l.length ≤ k := (nI_leI (by omega) (by omega)).mp c_16
        exact g_vret (pc := 54) C R ⟨rfl, rfl, rfl, by rw [show k = l.length by omega, List.take_length] at hPl; exact hPl, hf⟩ (by decide) (by decide) dX8_fillPool_54
      ·
        have c_16 : ¬ l.length ≤ k := fun h => c_16 ((nI_leI (a := l.length) (b := k) (by omega) (by omega)).mpr h)
        refine g_aload_n (pc := 19) C dX8_fillPool_19 1 rfl ?_
        refine g_iload (pc := 20) C dX8_fillPool_20 4 rfl ?_
        have hkl : k < l.length := by omega
        have hx16 : l.getD k 0 < 16 := h.2 _ (getD_mem hkl)
        have hwl : (wof p q (l.take k)).length < 8 := by have := wof_le p q l k; omega
        refine g_callV (pc := 22) C (As := [.int (nI k)]) (rest := []) (b := b) (n_X4_at A P gl b k (by omega) hbl) (NLN.o hbl) rfl rfl Y_X4_at u_462 N_X4_at ⟨by decide, by decide⟩ ⟨by decide, by decide⟩ (Nat.le_of_ble_eq_true rfl) rfl dX8_fillPool_22 ?_
        rintro _ _ _ _ ⟨rfl, rfl, rfl, rfl⟩
        show V K 0 0 P A gl [(0, .ref (A (w + 15000))), (1, .ref (A b)), (2, .int (onv p)), (3, .int (onv q)), (4, .int (nI k))] 25 [.int (nI (l.getD k 0))]
        refine g_istore (pc := 25) C dX8_fillPool_25 (by decide) (lv' := [(0, .ref (A (w + 15000))), (1, .ref (A b)), (2, .int (onv p)), (3, .int (onv q)), (4, .int (nI k)), (5, .int (nI (l.getD k 0)))]) [1, 2, 3, 4, 5, 0] rfl ?_
        refine g_iload (pc := 27) C dX8_fillPool_27 5 rfl ?_
        refine g_iload_n (pc := 29) C dX8_fillPool_29 2 rfl ?_
        refine g_icmp_eq (pc := 30) C dX8_fillPool_30 (tgt := 48) (by decide) (fun c_30 => ?_) (fun c_30 => ?_)
        ·
          refine g_iinc (pc := 48) C dX8_fillPool_48 (by decide) 4 rfl (v := nI (k + 1)) (nI_i1 _) (lv' := [(0, .ref (A (w + 15000))), (1, .ref (A b)), (2, .int (onv p)), (3, .int (onv q)), (4, .int (nI (k + 1))), (5, .int (nI (l.getD k 0)))]) [1, 2, 3, 4, 0, 5] rfl ?_
          refine g_goto (pc := 51) C dX8_fillPool_51 (tgt := 10) (by decide) ?_
          refine g_sub [0, 1, 2, 3, 4] rfl ?_
          exact ih (k + 1) (by omega) gl hVl (by rw [wof_s hkl, if_pos (Or.inl ((wof_n hp hx16).mp c_30))]; exact hPl) hbl hf (by omega)
        ·
          refine g_iload (pc := 33) C dX8_fillPool_33 5 rfl ?_
          refine g_iload_n (pc := 35) C dX8_fillPool_35 3 rfl ?_
          refine g_icmp_eq (pc := 36) C dX8_fillPool_36 (tgt := 48) (by decide) (fun c_36 => ?_) (fun c_36 => ?_)
          ·
            refine g_iinc (pc := 48) C dX8_fillPool_48 (by decide) 4 rfl (v := nI (k + 1)) (nI_i1 _) (lv' := [(0, .ref (A (w + 15000))), (1, .ref (A b)), (2, .int (onv p)), (3, .int (onv q)), (4, .int (nI (k + 1))), (5, .int (nI (l.getD k 0)))]) [1, 2, 3, 4, 0, 5] rfl ?_
            refine g_goto (pc := 51) C dX8_fillPool_51 (tgt := 10) (by decide) ?_
            refine g_sub [0, 1, 2, 3, 4] rfl ?_
            exact ih (k + 1) (by omega) gl hVl (by rw [wof_s hkl, if_pos (Or.inr ((wof_n hq hx16).mp c_36))]; exact hPl) hbl hf (by omega)
          ·
            refine g_aload_n (pc := 39) C dX8_fillPool_39 0 rfl ?_
            refine g_get (pc := 40) C (j := 2) hVl rfl rfl (by decide) u_302 dX8_fillPool_40 ?_
            refine g_iload (pc := 43) C dX8_fillPool_43 5 rfl ?_
            refine g_callV (pc := 45) C (As := [.int (nI (l.getD k 0))]) (rest := []) (b := (w + 15001)) (n_X4_put A P gl (w + 15001) (l.getD k 0) (by omega) hPl (by assumption)) (NLN.o hPl) rfl rfl Y_X4_put u_466 N_X4_put ⟨by decide, by decide⟩ ⟨by decide, by decide⟩ (Nat.le_of_ble_eq_true rfl) rfl dX8_fillPool_45 ?_
            rintro _ _ _ g_6 ⟨rfl, rfl, rfl, hn_7, hf_8⟩
            have h_9 := hf_8.at (by omega) hVl
            have hp_10 := NLN.fr hbl hf_8 (by omega)
            show V K 0 0 P A g_6 [(0, .ref (A (w + 15000))), (1, .ref (A b)), (2, .int (onv p)), (3, .int (onv q)), (4, .int (nI k)), (5, .int (nI (l.getD k 0)))] 48 []
            refine g_iinc (pc := 48) C dX8_fillPool_48 (by decide) 4 rfl (v := nI (k + 1)) (nI_i1 _) (lv' := [(0, .ref (A (w + 15000))), (1, .ref (A b)), (2, .int (onv p)), (3, .int (onv q)), (4, .int (nI (k + 1))), (5, .int (nI (l.getD k 0)))]) [1, 2, 3, 4, 0, 5] rfl ?_
            refine g_goto (pc := 51) C dX8_fillPool_51 (tgt := 10) (by decide) ?_
            refine g_sub [0, 1, 2, 3, 4] rfl ?_
            exact ih (k + 1) (by omega) _ h_9 (by rw [wof_s hkl, if_neg (fun e => by rcases e with e | e; exact c_30 ((wof_n hp hx16).mpr e); exact c_36 ((wof_n hq hx16).mpr e))]; exact hn_7) hp_10 (hf.tr (fun k hk => by rw [hf_8 k (by omega)])) (by omega)
  exact lp_10 (_ + 1) 0 (Nat.zero_le _) _ h_4 (by rw [List.take_zero]; exact hn_2) hp_5 (fun k hk => by rw [hf_3 k (by omega)]) (Nat.lt_succ_self _)
abbrev rm_X8_drawOfPool : Room := { frames := 2, cells := 0, slots := 0, locals := 43 }
theorem Y_X8_drawOfPool : pY yX8_drawOfPool cX8_drawOfPool 3 (Option.some Jvm.ClassFile.FieldType.int) := ⟨u_471, u_472, u_11, u_473⟩
theorem N_X8_drawOfPool : yX8_drawOfPool.cls ≠ "java/lang/invoke/MethodHandle" ∧ yX8_drawOfPool.cls ≠ "java/lang/invoke/VarHandle" ∧ (parseMethodDescriptor yX8_drawOfPool.desc).map (fun d => d.parameters.length) = some 0 := by decide +kernel
set_option maxRecDepth 20000 in
set_option maxHeartbeats 4000000 in
theorem c_X8_drawOfPool (A : Nat → Nat) (P : List Nat) (g : pM) (w : Nat) {B : Nat} {cs : List Nat} {σ : Sg} {pl : List Nat} (hS : SW B cs σ) (hV : g (w + 15000) = ob 8 [.ref (A w), .ref (A (w + 1)), .ref (A (w + 15001)), .ref (A (w + 15003))]) (hW : WD A g w (w + 15005) σ) (hC : CO A g (w + 15005) cs) (hP : NLN A g (w + 15001) 8 pl) : PM yX8_drawOfPool cX8_drawOfPool 3 (Option.some Jvm.ClassFile.FieldType.int) rm_X8_drawOfPool [.ref (A (w + 15000))] P A g (fun v g' => v = some (.int (onv (dpV cs σ pl))) ∧ WD A g' w (w + 15005) (dS cs σ pl.length) ∧ NLN A g' (w + 15001) 8 (dpL cs σ pl) ∧ Fr g g' w (w + 15003) ∧ FrS g g' w) := by
  have hle := hP.le
  refine px_intro (by decide +kernel) (Nat.le_of_ble_eq_true rfl) (fun K sz C R => ?_)
  show V K 0 0 P A g [(0, .ref (A (w + 15000)))] 0 []
  refine g_aload_n (pc := 0) C dX8_drawOfPool_0 0 rfl ?_
  refine g_get (pc := 1) C (j := 0) hV rfl rfl (by decide) u_300 dX8_drawOfPool_1 ?_
  refine g_aload_n (pc := 4) C dX8_drawOfPool_4 0 rfl ?_
  refine g_get (pc := 5) C (j := 2) hV rfl rfl (by decide) u_302 dX8_drawOfPool_5 ?_
  refine g_get (pc := 8) C (j := 1) (NLN.o hP) rfl rfl (by decide) u_95 dX8_drawOfPool_8 ?_
  refine g_callV (pc := 11) C (As := [.int (nI pl.length)]) (rest := []) (b := w) (c_X9_draw A P g w pl.length (by omega) hW hC hS.nx (by omega)) (WD.wb hW).1 rfl rfl Y_X9_draw u_474 N_X9_draw ⟨by decide, by decide⟩ ⟨by decide, by decide⟩ (Nat.le_of_ble_eq_true rfl) rfl dX8_drawOfPool_11 ?_
  rintro _ _ _ g1 ⟨rfl, rfl, rfl, hW1, hf1⟩
  have hP1 := hP.fr hf1 (by omega)
  have hV1 := hf1.at (k := w + 15000) (by omega) hV
  show V K 0 0 P A g1 [(0, .ref (A (w + 15000)))] 14 [.int (if pl.length = 0 then -6 else nI (dI cs σ pl.length))]
  refine g_istore_n (pc := 14) C dX8_drawOfPool_14 (by decide) (lv' := [(0, .ref (A (w + 15000))), (1, .int (if pl.length = 0 then -6 else nI (dI cs σ pl.length)))]) [1, 0] rfl ?_
  refine g_aload_n (pc := 15) C dX8_drawOfPool_15 0 rfl ?_
  refine g_get (pc := 16) C (j := 2) hV1 rfl rfl (by decide) u_302 dX8_drawOfPool_16 ?_
  refine g_iload_n (pc := 19) C dX8_drawOfPool_19 1 rfl ?_
  refine g_callV (pc := 20) C (As := [.int (if pl.length = 0 then -6 else nI (dI cs σ pl.length))]) (rest := []) (b := (w + 15001)) (pm_mono (c_X4_at A P g1 (w + 15001) (if pl.length = 0 then -6 else nI (dI cs σ pl.length)) hP1.1) (fun v g' e => ⟨e.1.trans (by rw [dp_at hle hP1.2]), e.2⟩) : PM yX4_at cX4_at 2 (Option.some Jvm.ClassFile.FieldType.int) rm_X4_at _ P A g1 (fun v g' => v = some (.int (onv (dpV cs σ pl))) ∧ g1 = g')) (NLN.o hP1) rfl rfl Y_X4_at u_462 N_X4_at ⟨by decide, by decide⟩ ⟨by decide, by decide⟩ (Nat.le_of_ble_eq_true rfl) rfl dX8_drawOfPool_20 ?_
  rintro _ _ _ _ ⟨rfl, rfl, rfl, rfl⟩
  show V K 0 0 P A g1 [(0, .ref (A (w + 15000))), (1, .int (if pl.length = 0 then -6 else nI (dI cs σ pl.length)))] 23 [.int (onv (dpV cs σ pl))]
  refine g_istore_n (pc := 23) C dX8_drawOfPool_23 (by decide) (lv' := [(0, .ref (A (w + 15000))), (1, .int (if pl.length = 0 then -6 else nI (dI cs σ pl.length))), (2, .int (onv (dpV cs σ pl)))]) [1, 2, 0] rfl ?_
  refine g_aload_n (pc := 24) C dX8_drawOfPool_24 0 rfl ?_
  refine g_get (pc := 25) C (j := 2) hV1 rfl rfl (by decide) u_302 dX8_drawOfPool_25 ?_
  refine g_iload_n (pc := 28) C dX8_drawOfPool_28 1 rfl ?_
  refine g_callV (pc := 29) C (As := [.int (if pl.length = 0 then -6 else nI (dI cs σ pl.length))]) (rest := []) (b := (w + 15001)) (pm_mono (c_X4_removeAt A P g1 (w + 15001) (if pl.length = 0 then -6 else nI (dI cs σ pl.length)) hP1.1) (fun v g' e => ⟨e.1, dp_rm hle hP1.2 e.2.1, Fr.of2 e.2.2⟩) : PM yX4_removeAt cX4_removeAt 3 none rm_X4_removeAt _ P A g1 (fun v g' => v = none ∧ NLN A g' (w + 15001) 8 (dpL cs σ pl) ∧ Fr g1 g' (w + 15001) (w + 15001 + 2))) (NLN.o hP1) rfl rfl Y_X4_removeAt u_486 N_X4_removeAt ⟨by decide, by decide⟩ ⟨by decide, by decide⟩ (Nat.le_of_ble_eq_true rfl) rfl dX8_drawOfPool_29 ?_
  rintro _ _ _ g2 ⟨rfl, rfl, rfl, hn2, hf2⟩
  show V K 0 0 P A g2 [(0, .ref (A (w + 15000))), (1, .int (if pl.length = 0 then -6 else nI (dI cs σ pl.length))), (2, .int (onv (dpV cs σ pl)))] 32 []
  refine g_iload_n (pc := 32) C dX8_drawOfPool_32 2 rfl ?_
  exact g_iret (pc := 33) C R ⟨rfl, rfl, rfl, hW1.fr hf2 (by omega), hn2, fun k hk => by rw [hf2 k (by omega), hf1 k (by omega)], fun k hk => by rw [hf2 k (by omega), hf1 k (by omega)]⟩ (by decide) (by decide) dX8_drawOfPool_33
abbrev rm_X8_drop : Room := { frames := 3, cells := 0, slots := 0, locals := 71 }
theorem Y_X8_drop : pY yX8_drop cX8_drop 3 (Option.none : Option Jvm.ClassFile.FieldType) := ⟨u_608, u_609, u_11, u_610⟩
theorem N_X8_drop : yX8_drop.cls ≠ "java/lang/invoke/MethodHandle" ∧ yX8_drop.cls ≠ "java/lang/invoke/VarHandle" ∧ (parseMethodDescriptor yX8_drop.desc).map (fun d => d.parameters.length) = some 2 := by decide +kernel
set_option maxRecDepth 20000 in
set_option maxHeartbeats 4000000 in
theorem c_X8_drop (A : Nat → Nat) (P : List Nat) (g : pM) (w : Nat) {B : Nat} {cs : List Nat} {σ : Sg} {pl ll : List Nat} (i q : Nat) (hi : i < gK σ) (hq : q < gK σ) (hS : SW B cs σ) (h : VW A g w cs σ pl ll) : PM yX8_drop cX8_drop 3 (Option.none : Option Jvm.ClassFile.FieldType) rm_X8_drop [.ref (A (w + 15000)), .ref (A (w + 100 + 100 * i)), .int (nI q)] P A g (fun v g' => v = none ∧ VW A g' w cs (drp cs σ i q) pl ll ∧ FrS g g' w) := by
  obtain ⟨hV, hW, hC, hP, hL⟩ := h
  have hK := hS.2.1
  obtain ⟨hz1, hz2, hz3, hz4, hz5, hz6, hz7, hz8, hz9⟩ := hS.2.2.2.1
  refine px_intro (by decide +kernel) (Nat.le_of_ble_eq_true rfl) (fun K sz C R => ?_)
  show V K 0 0 P A g [(0, .ref (A (w + 15000))), (1, .ref (A (w + 100 + 100 * i))), (2, .int (nI q))] 0 []
  refine g_aload_n (pc := 0) C dX8_drop_0 0 rfl ?_
  refine g_get (pc := 1) C (j := 0) hV rfl rfl (by decide) u_300 dX8_drop_1 ?_
  refine g_aload_n (pc := 4) C dX8_drop_4 1 rfl ?_
  refine g_get (pc := 5) C (j := 0) (WD.nd (i := i) hW (by omega)).1 rfl rfl (by decide) u_131 dX8_drop_5 ?_
  refine g_iload_n (pc := 8) C dX8_drop_8 2 rfl ?_
  refine g_iconst (pc := 9) C dX8_drop_9 (v := nI 4) rfl ?_
  refine g_iconst (pc := 10) C dX8_drop_10 (v := nI 0) rfl ?_
  refine g_iconst (pc := 11) C dX8_drop_11 (v := nI 0) rfl ?_
  refine g_callV (pc := 12) C (As := [.int (nI i), .int (nI q), .int (nI 4), .int (nI 0), .int (nI 0)]) (rest := []) (b := w) (c_X9_send A P g w i q 4 0 0 (by omega) (by omega) (by omega) (by omega) (by omega) hW) (WD.wb hW).1 rfl rfl Y_X9_send u_611 N_X9_send ⟨by decide, by decide⟩ ⟨by decide, by decide⟩ (Nat.le_of_ble_eq_true rfl) rfl dX8_drop_12 ?_
  rintro v0 _ _ g_1 ⟨rfl, rfl, hf_2, hcase⟩
  have hW_3 : WD A g_1 w (w + 15005) (snd σ i q 4 0 0 []) := by rcases hcase with ⟨_, _, q⟩ | ⟨_, _, _, _, _, q, _⟩; exact q; exact q
  obtain ⟨vv, hvc, hvv⟩ : ∃ vv : Value, vv.category = 1 ∧ v0 = some vv := by rcases hcase with ⟨_, e, _⟩ | ⟨_, _, _, e, _, _, _⟩; exact ⟨_, rfl, e⟩; exact ⟨_, rfl, e⟩
  subst hvv
  clear hcase
  have hf_4 : Fr g g_1 (w + 3) (w + 3500) := FrR.fr hf_2
  have h_5 := hf_4.at (by omega) hV
  have hp_6 := CO.fr hC hf_4 (by omega)
  have hp_7 := NLN.fr hP hf_4 (by omega)
  have hp_8 := NLN.fr hL hf_4 (by omega)
  obtain ⟨σ9, hσ9⟩ : ∃ sM : Sg, sM = snd σ i q 4 0 0 [] := ⟨_, rfl⟩
  have hW_10 : WD A g_1 w (w + 15005) σ9 := by rw [hσ9]; exact hW_3
  clear hW_3
  have hK_σ9 : gK σ9 = gK σ := (congrArg gK hσ9).trans (snd_K.trans (rfl : gK σ = gK σ))
  have hT_σ9 : gT σ9 = gT σ := (congrArg gT hσ9).trans (snd_T.trans (rfl : gT σ = gT σ))
  have hZ_σ9 : gZ σ9 = gZ σ := (congrArg gZ hσ9).trans (snd_Z.trans (rfl : gZ σ = gZ σ))
  show V K 0 0 P A g_1 [(0, .ref (A (w + 15000))), (1, .ref (A (w + 100 + 100 * i))), (2, .int (nI q))] 15 [vv]
  refine g_pop (pc := 15) C dX8_drop_15 hvc ?_
  have hS_11 : SW B cs (σ9) := by rw [hσ9]; exact hS.sent (by omega) (by omega) (lw_0 (by omega) (by omega) (by omega))
  have hw_12 := SW.dw hS_11 (i := i) (by omega)
  refine g_aload_n (pc := 16) C dX8_drop_16 1 rfl ?_
  refine g_iload_n (pc := 17) C dX8_drop_17 2 rfl ?_
  refine g_callV (pc := 18) C (As := [.int (nI q)]) (rest := []) (b := (w + 100 + 100 * i)) (c_X3_unlink A P g_1 (w + 100 + 100 * i) q (by omega) (by assumption) (WD.nd (i := i) hW_10 (by omega))) (WD.nd (i := i) hW_10 (by omega)).1 rfl rfl Y_X3_unlink u_612 N_X3_unlink ⟨by decide, by decide⟩ ⟨by decide, by decide⟩ (Nat.le_of_ble_eq_true rfl) rfl dX8_drop_18 ?_
  rintro _ _ _ g_13 ⟨rfl, rfl, rfl, hn_14, hf_15⟩
  have hW_16 := WD.sn (i := i) hW_10 (by omega) (hf_15.mo (by omega) (by omega)) hn_14
  have h_17 := hf_15.at (by omega) h_5
  have hp_18 := CO.fr hp_6 hf_15 (by omega)
  have hp_19 := NLN.fr hp_7 hf_15 (by omega)
  have hp_20 := NLN.fr hp_8 hf_15 (by omega)
  obtain ⟨σ21, hσ21⟩ : ∃ sM : Sg, sM = sNd σ9 i (uln (gN σ9 i) q) := ⟨_, rfl⟩
  have hW_22 : WD A g_13 w (w + 15005) σ21 := by rw [hσ21]; exact hW_16
  clear hW_16
  have hK_σ21 : gK σ21 = gK σ := (congrArg gK hσ21).trans hK_σ9
  have hT_σ21 : gT σ21 = gT σ := (congrArg gT hσ21).trans hT_σ9
  have hZ_σ21 : gZ σ21 = gZ σ := (congrArg gZ hσ21).trans hZ_σ9
  show V K 0 0 P A g_13 [(0, .ref (A (w + 15000))), (1, .ref (A (w + 100 + 100 * i))), (2, .int (nI q))] 21 []
  have hS_23 : SW B cs (σ21) := by rw [hσ21]; exact SW.ulS hS_11 (by omega) (by omega)
  refine g_aload_n (pc := 21) C dX8_drop_21 0 rfl ?_
  refine g_aload_n (pc := 22) C dX8_drop_22 1 rfl ?_
  refine g_iload_n (pc := 23) C dX8_drop_23 2 rfl ?_
  refine g_callV (pc := 24) C (As := [.ref (A (w + 100 + 100 * i)), .int (nI q)]) (rest := []) (b := (w + 15000)) (c_X8_note A P g_13 w i q (by omega) (by omega) hS_23 ⟨h_17, hW_22, hp_18, hp_19, hp_20⟩) h_17 rfl rfl Y_X8_note u_618 N_X8_note ⟨by decide, by decide⟩ ⟨by decide, by decide⟩ (Nat.le_of_ble_eq_true rfl) rfl dX8_drop_24 ?_
  rintro _ _ _ g_24 ⟨rfl, rfl, rfl, hw_25, hf_26⟩
  obtain ⟨v_27, v_28, v_29, v_30, v_31⟩ := hw_25
  obtain ⟨σ32, hσ32⟩ : ∃ sM : Sg, sM = nte cs σ21 i q := ⟨_, rfl⟩
  have hW_33 : WD A g_24 w (w + 15005) σ32 := by rw [hσ32]; exact v_28
  skip
  have hK_σ32 : gK σ32 = gK σ := (congrArg gK hσ32).trans (nte_K.trans hK_σ21)
  have hT_σ32 : gT σ32 = gT σ := (congrArg gT hσ32).trans (nte_T.trans hT_σ21)
  have hZ_σ32 : gZ σ32 = gZ σ := (congrArg gZ hσ32).trans (nte_Z.trans hZ_σ21)
  show V K 0 0 P A g_24 [(0, .ref (A (w + 15000))), (1, .ref (A (w + 100 + 100 * i))), (2, .int (nI q))] 27 []
  subst hσ32 hσ21 hσ9
  exact g_vret (pc := 27) C R ⟨rfl, rfl, rfl, ⟨v_27, hW_33, v_29, v_30, v_31⟩, fun k hk => by rw [hf_26 k (by omega), hf_15 k (by omega), hf_2 k (by omega)]⟩ (by decide) (by decide) dX8_drop_27
abbrev rm_X8_add : Room := { frames := 4, cells := 0, slots := 0, locals := 93 }
theorem Y_X8_add : pY yX8_add cX8_add 3 (Option.none : Option Jvm.ClassFile.FieldType) := ⟨u_594, u_595, u_11, u_596⟩
theorem N_X8_add : yX8_add.cls ≠ "java/lang/invoke/MethodHandle" ∧ yX8_add.cls ≠ "java/lang/invoke/VarHandle" ∧ (parseMethodDescriptor yX8_add.desc).map (fun d => d.parameters.length) = some 2 := by decide +kernel
set_option maxRecDepth 20000 in
set_option maxHeartbeats 4000000 in
theorem c_X8_add (A : Nat → Nat) (P : List Nat) (g : pM) (w : Nat) {B : Nat} {cs : List Nat} {σ : Sg} {pl ll : List Nat} (i q : Nat) (hi : i < gK σ) (hq : q < gK σ) (hq16 : q < 16) (hS : SW B cs σ) (h : VW A g w cs σ pl ll) : PM yX8_add cX8_add 3 (Option.none : Option Jvm.ClassFile.FieldType) rm_X8_add [.ref (A (w + 15000)), .ref (A (w + 100 + 100 * i)), .int (nI q)] P A g (fun v g' => v = none ∧ VW A g' w cs (add cs σ i q) pl ll ∧ FrS g g' w) := by
  obtain ⟨hV, hW, hC, hP, hL⟩ := h
  have hK := hS.2.1
  obtain ⟨hz1, hz2, hz3, hz4, hz5, hz6, hz7, hz8, hz9⟩ := hS.2.2.2.1
  refine px_intro (by decide +kernel) (Nat.le_of_ble_eq_true rfl) (fun K sz C R => ?_)
  show V K 0 0 P A g [(0, .ref (A (w + 15000))), (1, .ref (A (w + 100 + 100 * i))), (2, .int (nI q))] 0 []
  refine g_iload_n (pc := 0) C dX8_add_0 2 rfl ?_
  refine g_aload_n (pc := 1) C dX8_add_1 1 rfl ?_
  refine g_get (pc := 2) C (j := 0) (WD.nd (i := i) hW (by omega)).1 rfl rfl (by decide) u_131 dX8_add_2 ?_
  refine g_icmp_eq (pc := 5) C dX8_add_5 (tgt := 19) (by decide) (fun c_5 => ?_) (fun c_5 => ?_)
  ·
    have c_5 : q = i := (nI_eq (by omega) (by omega)).mp c_5
    exact g_vret (pc := 19) C R ⟨rfl, rfl, rfl, by rw [add_no (Or.inl (by omega))]; exact ⟨hV, hW, hC, hP, hL⟩, FrS.rf⟩ (by decide) (by decide) dX8_add_19
  ·
    have c_5 : ¬ q = i := fun h => c_5 ((nI_eq (a := q) (b := i) (by omega) (by omega)).mpr h)
    refine g_aload_n (pc := 8) C dX8_add_8 1 rfl ?_
    refine g_get (pc := 9) C (j := 2) (WD.nd (i := i) hW (by omega)).1 rfl rfl (by decide) u_139 dX8_add_9 ?_
    refine g_iload_n (pc := 12) C dX8_add_12 2 rfl ?_
    refine g_callV (pc := 13) C (As := [.int (nI q)]) (rest := []) (b := (w + 100 + 100 * i + 1)) (n_X4_has A P g (w + 100 + 100 * i + 1) q (by omega) (WD.nd (i := i) hW (by omega)).2.1) (NLN.o (WD.nd (i := i) hW (by omega)).2.1) rfl rfl Y_X4_has u_597 N_X4_has ⟨by decide, by decide⟩ ⟨by decide, by decide⟩ (Nat.le_of_ble_eq_true rfl) rfl dX8_add_13 ?_
    rintro _ _ _ _ ⟨rfl, rfl, rfl, rfl⟩
    show V K 0 0 P A g [(0, .ref (A (w + 15000))), (1, .ref (A (w + 100 + 100 * i))), (2, .int (nI q))] 16 [.int (b32 (decide (q ∈ nAc (gN σ i))))]
    refine g_if_eq (pc := 16) C dX8_add_16 (tgt := 20) (by decide) (fun c_16 => ?_) (fun c_16 => ?_)
    ·
      have hnn : ¬ (q = i ∨ q ∈ nAc (gN σ i)) := fun e => by rcases e with e | e; exact c_5 (by omega); exact absurd (decide_eq_true e) (by rw [b32_yes c_16]; decide)
      refine g_aload_n (pc := 20) C dX8_add_20 1 rfl ?_
      refine g_get (pc := 21) C (j := 3) (WD.nd (i := i) hW (by omega)).1 rfl rfl (by decide) u_143 dX8_add_21 ?_
      refine g_iload_n (pc := 24) C dX8_add_24 2 rfl ?_
      refine g_callV (pc := 25) C (As := [.int (nI q)]) (rest := []) (b := (w + 100 + 100 * i + 3)) (n_X4_remove A P g (w + 100 + 100 * i + 3) q (by omega) (WD.nd (i := i) hW (by omega)).2.2.1) (NLN.o (WD.nd (i := i) hW (by omega)).2.2.1) rfl rfl Y_X4_remove u_598 N_X4_remove ⟨by decide, by decide⟩ ⟨by decide, by decide⟩ (Nat.le_of_ble_eq_true rfl) rfl dX8_add_25 ?_
      rintro _ _ _ g_1 ⟨rfl, rfl, rfl, hn_2, hf_3⟩
      have hN_4 := ND.pa (WD.nd (i := i) hW (by omega)) hf_3 hn_2
      have hW_5 := WD.sn (i := i) hW (by omega) (hf_3.mo (by omega) (by omega)) hN_4
      have h_6 := hf_3.at (by omega) hV
      have hp_7 := CO.fr hC hf_3 (by omega)
      have hp_8 := NLN.fr hP hf_3 (by omega)
      have hp_9 := NLN.fr hL hf_3 (by omega)
      obtain ⟨σ10, hσ10⟩ : ∃ sM : Sg, sM = sNd σ i (sPa (gN σ i) ((nPa (gN σ i)).erase q)) := ⟨_, rfl⟩
      have hW_11 : WD A g_1 w (w + 15005) σ10 := by rw [hσ10]; exact hW_5
      clear hW_5
      have hK_σ10 : gK σ10 = gK σ := (congrArg gK hσ10).trans (rfl : gK σ = gK σ)
      have hT_σ10 : gT σ10 = gT σ := (congrArg gT hσ10).trans (rfl : gT σ = gT σ)
      have hZ_σ10 : gZ σ10 = gZ σ := (congrArg gZ hσ10).trans (rfl : gZ σ = gZ σ)
      show V K 0 0 P A g_1 [(0, .ref (A (w + 15000))), (1, .ref (A (w + 100 + 100 * i))), (2, .int (nI q))] 28 []
      have hZp := hZ_σ10
      have hS_12 : SW B cs (σ10) := by rw [hσ10]; exact SW.paRem hS hi
      refine g_aload_n (pc := 28) C dX8_add_28 0 rfl ?_
      refine g_aload_n (pc := 29) C dX8_add_29 1 rfl ?_
      refine g_callV (pc := 30) C (As := [.ref (A (w + 100 + 100 * i))]) (rest := []) (b := (w + 15000)) (c_X8_isFull A P g_1 w i (by omega) (by rw [hZ_σ10]; omega) ⟨h_6, hW_11, hp_7, hp_8, hp_9⟩) h_6 rfl rfl Y_X8_isFull u_603 N_X8_isFull ⟨by decide, by decide⟩ ⟨by decide, by decide⟩ (Nat.le_of_ble_eq_true rfl) rfl dX8_add_30 ?_
      rintro _ _ _ _ ⟨rfl, rfl, rfl, rfl⟩
      show V K 0 0 P A g_1 [(0, .ref (A (w + 15000))), (1, .ref (A (w + 100 + 100 * i))), (2, .int (nI q))] 33 [.int (b32 (decide ((gZ σ10).1 ≤ (nAc (gN σ10 i)).length)))]
      refine g_if_eq (pc := 33) C dX8_add_33 (tgt := 62) (by decide) (fun c_33 => ?_) (fun c_33 => ?_)
      ·
        have hroom : (nAc (gN σ10 i)).length < 5 := by have e := of_decide_eq_false (b32_yes c_33); rw [hZ_σ10] at e; omega
        refine g_aload_n (pc := 62) C dX8_add_62 1 rfl ?_
        refine g_get (pc := 63) C (j := 2) (WD.nd (i := i) hW_11 (by omega)).1 rfl rfl (by decide) u_139 dX8_add_63 ?_
        refine g_iload_n (pc := 66) C dX8_add_66 2 rfl ?_
        refine g_callV (pc := 67) C (As := [.int (nI q)]) (rest := []) (b := (w + 100 + 100 * i + 1)) (n_X4_put A P g_1 (w + 100 + 100 * i + 1) q (by omega) (WD.nd (i := i) hW_11 (by omega)).2.1 hroom) (NLN.o (WD.nd (i := i) hW_11 (by omega)).2.1) rfl rfl Y_X4_put u_466 N_X4_put ⟨by decide, by decide⟩ ⟨by decide, by decide⟩ (Nat.le_of_ble_eq_true rfl) rfl dX8_add_67 ?_
        rintro _ _ _ g_13 ⟨rfl, rfl, rfl, hn_14, hf_15⟩
        have hN_16 := ND.ac (WD.nd (i := i) hW_11 (by omega)) hf_15 hn_14
        have hW_17 := WD.sn (i := i) hW_11 (by omega) (hf_15.mo (by omega) (by omega)) hN_16
        have h_18 := hf_15.at (by omega) h_6
        have hp_19 := CO.fr hp_7 hf_15 (by omega)
        have hp_20 := NLN.fr hp_8 hf_15 (by omega)
        have hp_21 := NLN.fr hp_9 hf_15 (by omega)
        obtain ⟨σ22, hσ22⟩ : ∃ sM : Sg, sM = sNd σ10 i (sAc (gN σ10 i) ((nAc (gN σ10 i)) ++ [q])) := ⟨_, rfl⟩
        have hW_23 : WD A g_13 w (w + 15005) σ22 := by rw [hσ22]; exact hW_17
        clear hW_17
        have hK_σ22 : gK σ22 = gK σ := (congrArg gK hσ22).trans hK_σ10
        have hT_σ22 : gT σ22 = gT σ := (congrArg gT hσ22).trans hT_σ10
        have hZ_σ22 : gZ σ22 = gZ σ := (congrArg gZ hσ22).trans hZ_σ10
        show V K 0 0 P A g_13 [(0, .ref (A (w + 15000))), (1, .ref (A (w + 100 + 100 * i))), (2, .int (nI q))] 70 []
        have hwn : ndW (gN σ22 i) := by rw [hσ22]; exact ad_w hS_12 (by omega)
        refine g_aload_n (pc := 70) C dX8_add_70 1 rfl ?_
        refine g_iload_n (pc := 71) C dX8_add_71 2 rfl ?_
        refine g_callV (pc := 72) C (As := [.int (nI q)]) (rest := []) (b := (w + 100 + 100 * i)) (c_X3_makeEager A P g_13 (w + 100 + 100 * i) q (by omega) (by assumption) (WD.nd (i := i) hW_23 (by omega))) (WD.nd (i := i) hW_23 (by omega)).1 rfl rfl Y_X3_makeEager u_622 N_X3_makeEager ⟨by decide, by decide⟩ ⟨by decide, by decide⟩ (Nat.le_of_ble_eq_true rfl) rfl dX8_add_72 ?_
        rintro _ _ _ g_24 ⟨rfl, rfl, rfl, hn_25, hf_26⟩
        have hW_27 := WD.sn (i := i) hW_23 (by omega) (hf_26.mo (by omega) (by omega)) hn_25
        have h_28 := hf_26.at (by omega) h_18
        have hp_29 := CO.fr hp_19 hf_26 (by omega)
        have hp_30 := NLN.fr hp_20 hf_26 (by omega)
        have hp_31 := NLN.fr hp_21 hf_26 (by omega)
        obtain ⟨σ32, hσ32⟩ : ∃ sM : Sg, sM = sNd σ22 i (sLz (gN σ22 i) (bo (nLz (gN σ22 i)) q)) := ⟨_, rfl⟩
        have hW_33 : WD A g_24 w (w + 15005) σ32 := by rw [hσ32]; exact hW_27
        clear hW_27
        have hK_σ32 : gK σ32 = gK σ := (congrArg gK hσ32).trans hK_σ22
        have hT_σ32 : gT σ32 = gT σ := (congrArg gT hσ32).trans hT_σ22
        have hZ_σ32 : gZ σ32 = gZ σ := (congrArg gZ hσ32).trans hZ_σ22
        show V K 0 0 P A g_24 [(0, .ref (A (w + 15000))), (1, .ref (A (w + 100 + 100 * i))), (2, .int (nI q))] 75 []
        have hwas : ∀ x, nAs (gN σ32 i) = some x → x < 16 := by rw [hσ32]; simp only [gN_self]; exact hwn.2.2.1
        refine g_aload_n (pc := 75) C dX8_add_75 1 rfl ?_
        refine g_get (pc := 76) C (j := 5) (WD.nd (i := i) hW_33 (by omega)).1 rfl rfl (by decide) u_147 dX8_add_76 ?_
        refine g_iload_n (pc := 79) C dX8_add_79 2 rfl ?_
        refine g_icmp_ne (pc := 80) C dX8_add_80 (tgt := 89) (by decide) (fun c_80 => ?_) (fun c_80 => ?_)
        ·
          have c_80 : ¬ nAs (gN (σ32) i) = some q := fun e => c_80 ((onv_eq (fun x hx => by have := hwas x hx; omega) (by omega)).mpr e)
          exact g_vret (pc := 89) C R ⟨rfl, rfl, rfl, by rw [add_rf hnn (by rw [← hZp]; exact of_decide_eq_false (b32_yes c_33)) hσ10 hσ22 hσ32 c_80]; exact ⟨h_28, hW_33, hp_29, hp_30, hp_31⟩, fun k hk => by rw [hf_26 k (by omega), hf_15 k (by omega), hf_3 k (by omega)]⟩ (by decide) (by decide) dX8_add_89
        ·
          have c_80 : nAs (gN (σ32) i) = some q := (onv_eq (fun x hx => by have := hwas x hx; omega) (by omega)).mp c_80
          refine g_aload_n (pc := 83) C dX8_add_83 1 rfl ?_
          refine g_bipush (pc := 84) C dX8_add_84 (v := (-6)) rfl ?_
          refine g_put (pc := 86) C (j := 5) (WD.nd (i := i) hW_33 (by omega)).1 rfl (by decide) (Nat.le_of_ble_eq_true rfl) u_147 rfl pfd_I rfl rfl dX8_add_86 ?_
          obtain ⟨g_34, hg_34⟩ : ∃ yM : pM, yM = va_up g_24 (w + 100 + 100 * i) (ob 3 [.int (nI i), .int (b32 (nLv (gN σ32 i))), .ref (A (w + 100 + 100 * i + 1)), .ref (A (w + 100 + 100 * i + 3)), .int (nI (nLz (gN σ32 i))), .int (-6), .int (nI (nAk (gN σ32 i))), .int (nGo (gN σ32 i)), .ref (A (w + 100 + 100 * i + 5)), .ref (A (w + 100 + 100 * i + 6))]) := ⟨_, rfl⟩
          show V K 0 0 P A (va_up g_24 (w + 100 + 100 * i) (ob 3 [.int (nI i), .int (b32 (nLv (gN σ32 i))), .ref (A (w + 100 + 100 * i + 1)), .ref (A (w + 100 + 100 * i + 3)), .int (nI (nLz (gN σ32 i))), .int (-6), .int (nI (nAk (gN σ32 i))), .int (nGo (gN σ32 i)), .ref (A (w + 100 + 100 * i + 5)), .ref (A (w + 100 + 100 * i + 6))])) [(0, .ref (A (w + 15000))), (1, .ref (A (w + 100 + 100 * i))), (2, .int (nI q))] 89 []
          rw [← hg_34]
          have h_35 : g_34 (w + 15000) = ob 8 [.ref (A w), .ref (A (w + 1)), .ref (A (w + 15001)), .ref (A (w + 15003))] := by rw [hg_34, va_up_ne _ _ (show w + 15000 ≠ w + 100 + 100 * i from by omega)]; exact h_28
          have hf_36 : Fr g_24 g_34 (w + 100 + 100 * i) (w + 100 + 100 * i + 1) := by rw [hg_34]; exact Fr.up (by omega) (by omega)
          have hN_37 : ND A g_34 (w + 100 + 100 * i) i (sAs (gN (σ32) i) none) := ND.put (WD.nd (i := i) hW_33 (by omega)) hg_34 rfl rfl rfl rfl
          have hW_38 := WD.sn (i := i) hW_33 (by omega) (hf_36.mo (by omega) (by omega)) hN_37
          have hp_39 := CO.fr hp_29 hf_36 (by omega)
          have hp_40 := NLN.fr hp_30 hf_36 (by omega)
          have hp_41 := NLN.fr hp_31 hf_36 (by omega)
          obtain ⟨σ42, hσ42⟩ : ∃ sM : Sg, sM = sNd σ32 i (sAs (gN (σ32) i) none) := ⟨_, rfl⟩
          have hW_43 : WD A g_34 w (w + 15005) σ42 := by rw [hσ42]; exact hW_38
          clear hW_38
          have hK_σ42 : gK σ42 = gK σ := (congrArg gK hσ42).trans hK_σ32
          have hT_σ42 : gT σ42 = gT σ := (congrArg gT hσ42).trans hT_σ32
          have hZ_σ42 : gZ σ42 = gZ σ := (congrArg gZ hσ42).trans hZ_σ32
          exact g_vret (pc := 89) C R ⟨rfl, rfl, rfl, by rw [add_rt hnn (by rw [← hZp]; exact of_decide_eq_false (b32_yes c_33)) hσ10 hσ22 hσ32 hσ42 c_80]; exact ⟨h_35, hW_43, hp_39, hp_40, hp_41⟩, fun k hk => by rw [hg_34, va_up_ne _ _ (by omega), hf_26 k (by omega), hf_15 k (by omega), hf_3 k (by omega)]⟩ (by decide) (by decide) dX8_add_89
      ·
        have hle2 := (WD.nd (i := i) hW_11 (by omega)).2.1.le
        have c_33 := of_decide_eq_true (b32_no c_33)
        have hlen : 2 ≤ (nAc (gN (σ10) i)).length := by rw [hZp] at c_33; omega
        refine g_aload_n (pc := 36) C dX8_add_36 0 rfl ?_
        refine g_aload_n (pc := 37) C dX8_add_37 1 rfl ?_
        refine g_aload_n (pc := 38) C dX8_add_38 1 rfl ?_
        refine g_get (pc := 39) C (j := 2) (WD.nd (i := i) hW_11 (by omega)).1 rfl rfl (by decide) u_139 dX8_add_39 ?_
        refine g_aload_n (pc := 42) C dX8_add_42 0 rfl ?_
        refine g_get (pc := 43) C (j := 0) h_6 rfl rfl (by decide) u_300 dX8_add_43 ?_
        refine g_aload_n (pc := 46) C dX8_add_46 1 rfl ?_
        refine g_get (pc := 47) C (j := 2) (WD.nd (i := i) hW_11 (by omega)).1 rfl rfl (by decide) u_139 dX8_add_47 ?_
        refine g_get (pc := 50) C (j := 1) (NLN.o (WD.nd (i := i) hW_11 (by omega)).2.1) rfl rfl (by decide) u_95 dX8_add_50 ?_
        refine g_callV (pc := 53) C (As := [.int (nI (nAc (gN σ10 i)).length)]) (rest := [.ref (A (w + 100 + 100 * i + 1)), .ref (A (w + 100 + 100 * i)), .ref (A (w + 15000))]) (b := w) (c_X9_draw A P g_1 w (nAc (gN σ10 i)).length (by omega) hW_11 hp_7 (SW.nx hS_12) (by omega)) (WD.wb hW_11).1 rfl rfl Y_X9_draw u_474 N_X9_draw ⟨by decide, by decide⟩ ⟨by decide, by decide⟩ (Nat.le_of_ble_eq_true rfl) rfl dX8_add_53 ?_
        rintro _ _ _ g_44 ⟨rfl, rfl, rfl, hW_45, hf_46⟩
        rw [if_neg (by omega)]
        have h_47 := hf_46.at (by omega) h_6
        have hp_48 := CO.fr hp_7 hf_46 (by omega)
        have hp_49 := NLN.fr hp_8 hf_46 (by omega)
        have hp_50 := NLN.fr hp_9 hf_46 (by omega)
        obtain ⟨σ51, hσ51⟩ : ∃ sM : Sg, sM = dS cs σ10 (nAc (gN σ10 i)).length := ⟨_, rfl⟩
        have hW_52 : WD A g_44 w (w + 15005) σ51 := by rw [hσ51]; exact hW_45
        clear hW_45
        have hK_σ51 : gK σ51 = gK σ := (congrArg gK hσ51).trans (dS_K.trans hK_σ10)
        have hT_σ51 : gT σ51 = gT σ := (congrArg gT hσ51).trans (dS_T.trans hT_σ10)
        have hZ_σ51 : gZ σ51 = gZ σ := (congrArg gZ hσ51).trans (dS_Z.trans hZ_σ10)
        have hlthW_45 : dI cs σ10 (nAc (gN σ10 i)).length < (nAc (gN σ10 i)).length := dI_lt (by omega)
        show V K 0 0 P A g_44 [(0, .ref (A (w + 15000))), (1, .ref (A (w + 100 + 100 * i))), (2, .int (nI q))] 56 [.int (nI (dI cs σ10 (nAc (gN σ10 i)).length)), .ref (A (w + 100 + 100 * i + 1)), .ref (A (w + 100 + 100 * i)), .ref (A (w + 15000))]
        have hS_53 : SW B cs (σ51) := by rw [hσ51]; exact SW.drw hS_12
        refine g_callV (pc := 56) C (As := [.int (nI (dI cs σ10 (nAc (gN σ10 i)).length))]) (rest := [.ref (A (w + 100 + 100 * i)), .ref (A (w + 15000))]) (b := (w + 100 + 100 * i + 1)) (n_X4_at A P g_44 (w + 100 + 100 * i + 1) (dI cs σ10 (nAc (gN σ10 i)).length) (by rw [hσ51, dS_N]; exact dI_lt (by omega)) (WD.nd (i := i) hW_52 (by omega)).2.1) (NLN.o (WD.nd (i := i) hW_52 (by omega)).2.1) rfl rfl Y_X4_at u_462 N_X4_at ⟨by decide, by decide⟩ ⟨by decide, by decide⟩ (Nat.le_of_ble_eq_true rfl) rfl dX8_add_56 ?_
        rintro _ _ _ _ ⟨rfl, rfl, rfl, rfl⟩
        show V K 0 0 P A g_44 [(0, .ref (A (w + 15000))), (1, .ref (A (w + 100 + 100 * i))), (2, .int (nI q))] 59 [.int (nI ((nAc (gN σ51 i)).getD (dI cs σ10 (nAc (gN σ10 i)).length) 0)), .ref (A (w + 100 + 100 * i)), .ref (A (w + 15000))]
        have hmem : ((nAc (gN σ51 i)).getD (dI cs σ10 (nAc (gN σ10 i)).length) 0) ∈ nAc (gN (σ51) i) := by rw [hσ51, dS_N]; exact getD_mem (dI_lt (by omega))
        have hdK : ((nAc (gN σ51 i)).getD (dI cs σ10 (nAc (gN σ10 i)).length) 0) < gK (σ51) := (hS_53.nw (by omega)).2.1 _ hmem
        refine g_callV (pc := 59) C (As := [.ref (A (w + 100 + 100 * i)), .int (nI ((nAc (gN σ51 i)).getD (dI cs σ10 (nAc (gN σ10 i)).length) 0))]) (rest := []) (b := (w + 15000)) (c_X8_drop A P g_44 w i ((nAc (gN σ51 i)).getD (dI cs σ10 (nAc (gN σ10 i)).length) 0) (by omega) (by omega) hS_53 ⟨h_47, hW_52, hp_48, hp_49, hp_50⟩) h_47 rfl rfl Y_X8_drop u_607 N_X8_drop ⟨by decide, by decide⟩ ⟨by decide, by decide⟩ (Nat.le_of_ble_eq_true rfl) rfl dX8_add_59 ?_
        rintro _ _ _ g_54 ⟨rfl, rfl, rfl, hw_55, hf_56⟩
        obtain ⟨v_57, v_58, v_59, v_60, v_61⟩ := hw_55
        obtain ⟨σ62, hσ62⟩ : ∃ sM : Sg, sM = drp cs σ51 i ((nAc (gN σ51 i)).getD (dI cs σ10 (nAc (gN σ10 i)).length) 0) := ⟨_, rfl⟩
        have hW_63 : WD A g_54 w (w + 15005) σ62 := by rw [hσ62]; exact v_58
        skip
        have hK_σ62 : gK σ62 = gK σ := (congrArg gK hσ62).trans (drp_K.trans hK_σ51)
        have hT_σ62 : gT σ62 = gT σ := (congrArg gT hσ62).trans (drp_T.trans hT_σ51)
        have hZ_σ62 : gZ σ62 = gZ σ := (congrArg gZ hσ62).trans (drp_Z.trans hZ_σ51)
        show V K 0 0 P A g_54 [(0, .ref (A (w + 15000))), (1, .ref (A (w + 100 + 100 * i))), (2, .int (nI q))] 62 []
        have hS_64 : SW B cs (σ62) := by rw [hσ62]; exact SW.drp hS_53 (by omega) (by omega)
        have hroom : (nAc (gN σ62 i)).length < 5 := by rw [hσ62]; exact drp_room hS_53 (by omega) (by omega) hmem
        refine g_aload_n (pc := 62) C dX8_add_62 1 rfl ?_
        refine g_get (pc := 63) C (j := 2) (WD.nd (i := i) hW_63 (by omega)).1 rfl rfl (by decide) u_139 dX8_add_63 ?_
        refine g_iload_n (pc := 66) C dX8_add_66 2 rfl ?_
        refine g_callV (pc := 67) C (As := [.int (nI q)]) (rest := []) (b := (w + 100 + 100 * i + 1)) (n_X4_put A P g_54 (w + 100 + 100 * i + 1) q (by omega) (WD.nd (i := i) hW_63 (by omega)).2.1 hroom) (NLN.o (WD.nd (i := i) hW_63 (by omega)).2.1) rfl rfl Y_X4_put u_466 N_X4_put ⟨by decide, by decide⟩ ⟨by decide, by decide⟩ (Nat.le_of_ble_eq_true rfl) rfl dX8_add_67 ?_
        rintro _ _ _ g_65 ⟨rfl, rfl, rfl, hn_66, hf_67⟩
        have hN_68 := ND.ac (WD.nd (i := i) hW_63 (by omega)) hf_67 hn_66
        have hW_69 := WD.sn (i := i) hW_63 (by omega) (hf_67.mo (by omega) (by omega)) hN_68
        have h_70 := hf_67.at (by omega) v_57
        have hp_71 := CO.fr v_59 hf_67 (by omega)
        have hp_72 := NLN.fr v_60 hf_67 (by omega)
        have hp_73 := NLN.fr v_61 hf_67 (by omega)
        obtain ⟨σ74, hσ74⟩ : ∃ sM : Sg, sM = sNd σ62 i (sAc (gN σ62 i) ((nAc (gN σ62 i)) ++ [q])) := ⟨_, rfl⟩
        have hW_75 : WD A g_65 w (w + 15005) σ74 := by rw [hσ74]; exact hW_69
        clear hW_69
        have hK_σ74 : gK σ74 = gK σ := (congrArg gK hσ74).trans hK_σ62
        have hT_σ74 : gT σ74 = gT σ := (congrArg gT hσ74).trans hT_σ62
        have hZ_σ74 : gZ σ74 = gZ σ := (congrArg gZ hσ74).trans hZ_σ62
        show V K 0 0 P A g_65 [(0, .ref (A (w + 15000))), (1, .ref (A (w + 100 + 100 * i))), (2, .int (nI q))] 70 []
        have hwn : ndW (gN σ74 i) := by rw [hσ74]; exact ad_w hS_64 (by omega)
        refine g_aload_n (pc := 70) C dX8_add_70 1 rfl ?_
        refine g_iload_n (pc := 71) C dX8_add_71 2 rfl ?_
        refine g_callV (pc := 72) C (As := [.int (nI q)]) (rest := []) (b := (w + 100 + 100 * i)) (c_X3_makeEager A P g_65 (w + 100 + 100 * i) q (by omega) (by assumption) (WD.nd (i := i) hW_75 (by omega))) (WD.nd (i := i) hW_75 (by omega)).1 rfl rfl Y_X3_makeEager u_622 N_X3_makeEager ⟨by decide, by decide⟩ ⟨by decide, by decide⟩ (Nat.le_of_ble_eq_true rfl) rfl dX8_add_72 ?_
        rintro _ _ _ g_76 ⟨rfl, rfl, rfl, hn_77, hf_78⟩
        have hW_79 := WD.sn (i := i) hW_75 (by omega) (hf_78.mo (by omega) (by omega)) hn_77
        have h_80 := hf_78.at (by omega) h_70
        have hp_81 := CO.fr hp_71 hf_78 (by omega)
        have hp_82 := NLN.fr hp_72 hf_78 (by omega)
        have hp_83 := NLN.fr hp_73 hf_78 (by omega)
        obtain ⟨σ84, hσ84⟩ : ∃ sM : Sg, sM = sNd σ74 i (sLz (gN σ74 i) (bo (nLz (gN σ74 i)) q)) := ⟨_, rfl⟩
        have hW_85 : WD A g_76 w (w + 15005) σ84 := by rw [hσ84]; exact hW_79
        clear hW_79
        have hK_σ84 : gK σ84 = gK σ := (congrArg gK hσ84).trans hK_σ74
        have hT_σ84 : gT σ84 = gT σ := (congrArg gT hσ84).trans hT_σ74
        have hZ_σ84 : gZ σ84 = gZ σ := (congrArg gZ hσ84).trans hZ_σ74
        show V K 0 0 P A g_76 [(0, .ref (A (w + 15000))), (1, .ref (A (w + 100 + 100 * i))), (2, .int (nI q))] 75 []
        have hwas : ∀ x, nAs (gN σ84 i) = some x → x < 16 := by rw [hσ84]; simp only [gN_self]; exact hwn.2.2.1
        refine g_aload_n (pc := 75) C dX8_add_75 1 rfl ?_
        refine g_get (pc := 76) C (j := 5) (WD.nd (i := i) hW_85 (by omega)).1 rfl rfl (by decide) u_147 dX8_add_76 ?_
        refine g_iload_n (pc := 79) C dX8_add_79 2 rfl ?_
        refine g_icmp_ne (pc := 80) C dX8_add_80 (tgt := 89) (by decide) (fun c_80 => ?_) (fun c_80 => ?_)
        ·
          have c_80 : ¬ nAs (gN (σ84) i) = some q := fun e => c_80 ((onv_eq (fun x hx => by have := hwas x hx; omega) (by omega)).mpr e)
          exact g_vret (pc := 89) C R ⟨rfl, rfl, rfl, by rw [add_ff hnn (by rw [← hZp]; exact c_33) hσ10 hσ51 hσ62 hσ74 hσ84 c_80]; exact ⟨h_80, hW_85, hp_81, hp_82, hp_83⟩, fun k hk => by rw [hf_78 k (by omega), hf_67 k (by omega), hf_56 k (by omega), hf_46 k (by omega), hf_3 k (by omega)]⟩ (by decide) (by decide) dX8_add_89
        ·
          have c_80 : nAs (gN (σ84) i) = some q := (onv_eq (fun x hx => by have := hwas x hx; omega) (by omega)).mp c_80
          refine g_aload_n (pc := 83) C dX8_add_83 1 rfl ?_
          refine g_bipush (pc := 84) C dX8_add_84 (v := (-6)) rfl ?_
          refine g_put (pc := 86) C (j := 5) (WD.nd (i := i) hW_85 (by omega)).1 rfl (by decide) (Nat.le_of_ble_eq_true rfl) u_147 rfl pfd_I rfl rfl dX8_add_86 ?_
          obtain ⟨g_86, hg_86⟩ : ∃ yM : pM, yM = va_up g_76 (w + 100 + 100 * i) (ob 3 [.int (nI i), .int (b32 (nLv (gN σ84 i))), .ref (A (w + 100 + 100 * i + 1)), .ref (A (w + 100 + 100 * i + 3)), .int (nI (nLz (gN σ84 i))), .int (-6), .int (nI (nAk (gN σ84 i))), .int (nGo (gN σ84 i)), .ref (A (w + 100 + 100 * i + 5)), .ref (A (w + 100 + 100 * i + 6))]) := ⟨_, rfl⟩
          show V K 0 0 P A (va_up g_76 (w + 100 + 100 * i) (ob 3 [.int (nI i), .int (b32 (nLv (gN σ84 i))), .ref (A (w + 100 + 100 * i + 1)), .ref (A (w + 100 + 100 * i + 3)), .int (nI (nLz (gN σ84 i))), .int (-6), .int (nI (nAk (gN σ84 i))), .int (nGo (gN σ84 i)), .ref (A (w + 100 + 100 * i + 5)), .ref (A (w + 100 + 100 * i + 6))])) [(0, .ref (A (w + 15000))), (1, .ref (A (w + 100 + 100 * i))), (2, .int (nI q))] 89 []
          rw [← hg_86]
          have h_87 : g_86 (w + 15000) = ob 8 [.ref (A w), .ref (A (w + 1)), .ref (A (w + 15001)), .ref (A (w + 15003))] := by rw [hg_86, va_up_ne _ _ (show w + 15000 ≠ w + 100 + 100 * i from by omega)]; exact h_80
          have hf_88 : Fr g_76 g_86 (w + 100 + 100 * i) (w + 100 + 100 * i + 1) := by rw [hg_86]; exact Fr.up (by omega) (by omega)
          have hN_89 : ND A g_86 (w + 100 + 100 * i) i (sAs (gN (σ84) i) none) := ND.put (WD.nd (i := i) hW_85 (by omega)) hg_86 rfl rfl rfl rfl
          have hW_90 := WD.sn (i := i) hW_85 (by omega) (hf_88.mo (by omega) (by omega)) hN_89
          have hp_91 := CO.fr hp_81 hf_88 (by omega)
          have hp_92 := NLN.fr hp_82 hf_88 (by omega)
          have hp_93 := NLN.fr hp_83 hf_88 (by omega)
          obtain ⟨σ94, hσ94⟩ : ∃ sM : Sg, sM = sNd σ84 i (sAs (gN (σ84) i) none) := ⟨_, rfl⟩
          have hW_95 : WD A g_86 w (w + 15005) σ94 := by rw [hσ94]; exact hW_90
          clear hW_90
          have hK_σ94 : gK σ94 = gK σ := (congrArg gK hσ94).trans hK_σ84
          have hT_σ94 : gT σ94 = gT σ := (congrArg gT hσ94).trans hT_σ84
          have hZ_σ94 : gZ σ94 = gZ σ := (congrArg gZ hσ94).trans hZ_σ84
          exact g_vret (pc := 89) C R ⟨rfl, rfl, rfl, by rw [add_ft hnn (by rw [← hZp]; exact c_33) hσ10 hσ51 hσ62 hσ74 hσ84 hσ94 c_80]; exact ⟨h_87, hW_95, hp_91, hp_92, hp_93⟩, fun k hk => by rw [hg_86, va_up_ne _ _ (by omega), hf_78 k (by omega), hf_67 k (by omega), hf_56 k (by omega), hf_46 k (by omega), hf_3 k (by omega)]⟩ (by decide) (by decide) dX8_add_89
    ·
      exact g_vret (pc := 19) C R ⟨rfl, rfl, rfl, by rw [add_no (Or.inr (of_decide_eq_true (b32_no c_16)))]; exact ⟨hV, hW, hC, hP, hL⟩, FrS.rf⟩ (by decide) (by decide) dX8_add_19
