-- PART 12: tales: what a tale's letters do, the tick
/-- node i hears tale t by h hops -/
def lrn (σ : Sg) (i t h : Nat) : Sg := sNd σ i (sMi (sHo (gN σ i) (va_up (nHo (gN σ i)) t (some h))) (va_up (nMi (gN σ i)) t none))
/-- the eager ones of l are told, the one who told it left out -/
def tfE (i t h m : Nat) (s : Option Nat) (l : List Nat) (σ : Sg) : Sg := l.foldl (fun σ q => if s = some q ∨ m.testBit q = true then σ else snd σ i q 9 t (h + 1) []) σ
/-- the lazy ones of l get a note -/
def tfL (i t m : Nat) (s : Option Nat) (l : List Nat) (σ : Sg) : Sg := l.foldl (fun σ q => if s = some q ∨ m.testBit q = false then σ else snd σ i q 10 t 0 []) σ
def her2 (σ : Sg) (i t h : Nat) (s : Option Nat) : Sg := tfL i t (nLz (gN σ i)) s (nAc (gN σ i)) (tfE i t h (nLz (gN σ i)) s (nAc (gN σ i)) σ)
def her (σ : Sg) (i t h : Nat) (s : Option Nat) : Sg := her2 (lrn σ i t h) i t h s
def tel (σ : Sg) (i s t h : Nat) : Sg :=
  if ¬ s ∈ nAc (gN σ i) then σ
  else if (nHo (gN σ i) t).isSome = true then snd (lzS σ i s) i s 11 0 0 [] else her (egS σ i s) i t h (some s)
/-- a note of tale t by s -/
def ntm (σ : Sg) (m : Mi) (s : Nat) : Mi := match m with
  | none => some (gTi σ + nI (gZ σ).2.2.2.2, [s])
  | some p => some (p.1, if s ∈ p.2 then p.2 else p.2 ++ [s])
def nto (σ : Sg) (i s t : Nat) : Sg :=
  if ¬ s ∈ nAc (gN σ i) ∨ (nHo (gN σ i) t).isSome = true then σ else sNd σ i (sMi (gN σ i) (va_up (nMi (gN σ i)) t (ntm σ (nMi (gN σ i) t) s)))
def cho (σ : Sg) (i s t y : Nat) : Sg :=
  if ¬ s ∈ nAc (gN σ i) then σ
  else if y = 0 then lzS σ i s
  else match nHo (gN (egS σ i s) i) t with
    | none => egS σ i s
    | some h => snd (egS σ i s) i s 9 t (h + 1) []
theorem tfE_s {i t h m k : Nat} {s : Option Nat} {l : List Nat} {σ : Sg} (hk : k < l.length) : tfE i t h m s (l.take (k + 1)) σ = if s = some (l.getD k 0) ∨ m.testBit (l.getD k 0) = true then tfE i t h m s (l.take k) σ else snd (tfE i t h m s (l.take k) σ) i (l.getD k 0) 9 t (h + 1) [] := foldl_tk hk
theorem tfL_s {i t m k : Nat} {s : Option Nat} {l : List Nat} {σ : Sg} (hk : k < l.length) : tfL i t m s (l.take (k + 1)) σ = if s = some (l.getD k 0) ∨ m.testBit (l.getD k 0) = false then tfL i t m s (l.take k) σ else snd (tfL i t m s (l.take k) σ) i (l.getD k 0) 10 t 0 [] := foldl_tk hk
theorem NW.lrn {B K T i t h : Nat} {z : Sz} {d : Nd} (n : NW B K T z i d) (hh : h ≤ B) (ht : t < T) : NW B K T z i (sMi (sHo d (va_up (nHo d) t (some h))) (va_up (nMi d) t none)) := by
  obtain ⟨a1, a2, a3, a4, a5, a6, a7, a8, a9, a10, a11, a12⟩ := n
  refine ⟨a1, a2, a3, a4, a5, a6, a7, a8, fun t2 h2 e => ?_, fun t2 h2 tl e => ?_, fun t2 e => ?_, a12⟩
  · have e : va_up (nHo d) t (some h) t2 = some h2 := e
    by_cases q : t2 = t
    · subst q
      rw [va_up_self] at e
      cases e
      exact ⟨hh, ht⟩
    · rw [va_up_ne _ _ q] at e
      exact a9 t2 h2 e
  · have e : va_up (nMi d) t none t2 = some (h2, tl) := e
    by_cases q : t2 = t
    · subst q
      rw [va_up_self] at e
      cases e
    · rw [va_up_ne _ _ q] at e
      exact a10 t2 h2 tl e
  · have e : (va_up (nHo d) t (some h) t2).isSome := e
    show va_up (nMi d) t none t2 = none
    by_cases q : t2 = t
    · subst q
      rw [va_up_self]
    · rw [va_up_ne _ _ q] at e ⊢
      exact a11 t2 e
theorem SW.lrn {B i t h : Nat} {cs : List Nat} {σ : Sg} (hS : SW B cs σ) (hi : i < gK σ) (hh : h ≤ B) (ht : t < gT σ) : SW B cs (lrn σ i t h) := SW.sn hS (NW.lrn (hS.nw hi) hh ht)
theorem NW.up {B B' K T i : Nat} {z : Sz} {d : Nd} (n : NW B K T z i d) (hB : B ≤ B') : NW B' K T z i d := by
  obtain ⟨a1, a2, a3, a4, a5, a6, a7, a8, a9, a10, a11, a12⟩ := n
  exact ⟨a1, a2, a3, a4, a5, a6, a7, a8, fun t h e => ⟨Nat.le_trans (a9 t h e).1 hB, (a9 t h e).2⟩, a10, a11, a12⟩
theorem LW.up {B B' K T : Nat} {t : Lt} (n : LW B K T t) (hB : B ≤ B') : LW B' K T t := by
  obtain ⟨a1, a2, a3, a4, a5, a6, a7, a8, a9, a10⟩ := n
  exact ⟨a1, a2, a3, a4, a5, by omega, a7, a8, fun e => by have := a9 e; omega, a10⟩
theorem SW.up {B B' : Nat} {cs : List Nat} {σ : Sg} (h : SW B cs σ) (hB : B ≤ B') (h2 : B' < 2 ^ 30) : SW B' cs σ :=
  ⟨h2, h.2.1, h.2.2.1, h.2.2.2.1, fun i hi => (h.nw hi).up hB, fun t ht => (h.2.2.2.2.2.1 t ht).up hB, h.2.2.2.2.2.2⟩
theorem SW.lzS {B i q : Nat} {cs : List Nat} {σ : Sg} (h : SW B cs σ) (hi : i < gK σ) (hq : q ∈ nAc (gN σ i)) : SW B cs (lzS σ i q) := by
  have hk := h.2.1
  have h16 := (h.nw hi).2.1 q hq
  refine SW.sn h (NW.lz (h.nw hi) (or_lt (h.nw hi).1.1 (by omega)) (fun x hx => ?_))
  rw [Nat.testBit_or, Bool.or_eq_true] at hx
  rcases hx with hx | hx
  · exact (h.nw hi).2.2.2.2.2.2.2.1 x hx
  · rw [Nat.testBit_two_pow] at hx
    exact of_decide_eq_true hx ▸ hq
theorem lw_t {B K T f t k x y : Nat} (h1 : f < K) (h2 : t < K) (hT : T ≤ 24) (h5 : x < T) (h3 : (k = 9 ∧ y ≤ B + 1) ∨ (k = 10 ∧ y = 0) ∨ (k = 11 ∧ y = 1)) : LW B K T (f, t, k, x, y, []) := lw_mk h1 h2 (by omega) (by omega) (by omega) (by omega) (by omega) (by omega) (by omega) (fun _ h => by cases h) (by simp)
theorem lw_c {B K T f t : Nat} (h1 : f < K) (h2 : t < K) : LW B K T (f, t, 11, 0, 0, []) := lw_mk h1 h2 (by omega) (by omega) (by omega) (by omega) (by omega) (by omega) (by omega) (fun _ h => by cases h) (by simp)
theorem lzS_K {σ : Sg} {i q : Nat} : gK (lzS σ i q) = gK σ := rfl
theorem tfE_K {i t h m : Nat} {s : Option Nat} {l : List Nat} : ∀ {σ : Sg}, gK (tfE i t h m s l σ) = gK σ := by
  induction l with
  | nil => intro σ; rfl
  | cons x l ih =>
    intro σ
    refine ih.trans ?_
    dsimp only
    split
    · rfl
    · exact snd_K
theorem tfE_T {i t h m : Nat} {s : Option Nat} {l : List Nat} : ∀ {σ : Sg}, gT (tfE i t h m s l σ) = gT σ := by
  induction l with
  | nil => intro σ; rfl
  | cons x l ih =>
    intro σ
    refine ih.trans ?_
    dsimp only
    split
    · rfl
    · exact snd_T
theorem tfE_Z {i t h m : Nat} {s : Option Nat} {l : List Nat} : ∀ {σ : Sg}, gZ (tfE i t h m s l σ) = gZ σ := by
  induction l with
  | nil => intro σ; rfl
  | cons x l ih =>
    intro σ
    refine ih.trans ?_
    dsimp only
    split
    · rfl
    · exact snd_Z
theorem tfL_K {i t m : Nat} {s : Option Nat} {l : List Nat} : ∀ {σ : Sg}, gK (tfL i t m s l σ) = gK σ := by
  induction l with
  | nil => intro σ; rfl
  | cons x l ih =>
    intro σ
    refine ih.trans ?_
    dsimp only
    split
    · rfl
    · exact snd_K
theorem tfL_T {i t m : Nat} {s : Option Nat} {l : List Nat} : ∀ {σ : Sg}, gT (tfL i t m s l σ) = gT σ := by
  induction l with
  | nil => intro σ; rfl
  | cons x l ih =>
    intro σ
    refine ih.trans ?_
    dsimp only
    split
    · rfl
    · exact snd_T
theorem tfL_Z {i t m : Nat} {s : Option Nat} {l : List Nat} : ∀ {σ : Sg}, gZ (tfL i t m s l σ) = gZ σ := by
  induction l with
  | nil => intro σ; rfl
  | cons x l ih =>
    intro σ
    refine ih.trans ?_
    dsimp only
    split
    · rfl
    · exact snd_Z
theorem her_K {σ : Sg} {i t h : Nat} {s : Option Nat} : gK (her σ i t h s) = gK σ := tfL_K.trans tfE_K
theorem her_T {σ : Sg} {i t h : Nat} {s : Option Nat} : gT (her σ i t h s) = gT σ := tfL_T.trans tfE_T
theorem her_Z {σ : Sg} {i t h : Nat} {s : Option Nat} : gZ (her σ i t h s) = gZ σ := tfL_Z.trans tfE_Z
theorem nd_len {l : List Nat} : ∀ {l2 : List Nat}, l.Nodup → (∀ x ∈ l, x ∈ l2) → l.length ≤ l2.length := by
  induction l with
  | nil => intro l2 _ _; exact Nat.zero_le _
  | cons x l ih =>
    intro l2 hn hs
    have hx := hs x (by simp)
    have h1 : l.length ≤ (l2.erase x).length := ih (List.nodup_cons.mp hn).2 (fun y hy => by
      have hne : y ≠ x := fun e => (List.nodup_cons.mp hn).1 (e ▸ hy)
      exact (List.mem_erase_of_ne hne).mpr (hs y (by simp [hy])))
    rw [List.length_erase_of_mem hx] at h1
    have h2 : 0 < l2.length := List.length_pos_of_mem hx
    rw [List.length_cons]
    omega
theorem MS.put {A : Nat → Nat} {g g' : pM} {a : Nat} {m m' : Mi} (h : MS A g a m) (hg : g' = va_up g a (ob 2 [.int (miO m'), .int (miH m'), .ref (A (a + 1))])) (hl : miL m' = miL m) : MS A g' a m' := by
  subst hg
  exact ⟨va_up_self _ _ _, by rw [hl]; exact h.2.fr (Fr.up (lo := a) (hi := a + 1) (by omega) (by omega)) (by omega)⟩
theorem MS.ml {A : Nat → Nat} {g g' : pM} {a : Nat} {x : Int32} {tl l : List Nat} (h : MS A g a (some (x, tl))) (hf : Fr g g' (a + 1) (a + 1 + 2)) (hl : NLN A g' (a + 1) 5 l) : MS A g' a (some (x, l)) := ⟨hf.at (by omega) h.1, hl⟩
theorem nt_end {A : Nat → Nat} {g g' : pM} {w cq i t : Nat} {σ : Sg} (m : Mi) (hW : WD A g w cq σ) (hi : i < gK σ) (ht : t < 24) (hf : Fr g g' (w + 100 + 100 * i + 10 + 3 * t) (w + 100 + 100 * i + 10 + 3 * t + 3)) (hO : g' (w + 100 + 100 * i + 10 + 3 * t) = ob 2 [.int (miO m), .int (miH m), .ref (A (w + 100 + 100 * i + 10 + 3 * t + 1))]) (hl : NLN A g' (w + 100 + 100 * i + 10 + 3 * t + 1) 5 (miL m)) : WD A g' w cq (sNd σ i (sMi (gN σ i) (va_up (nMi (gN σ i)) t m))) := by
  have hk := hW.k16
  exact WD.sn hW (by omega) (hf.mo (by omega) (by omega)) (ND.mi (hW.nd hi) ht hf ⟨hO, hl⟩)
theorem miO_none {m : Mi} (h : miO m = 0) : m = none := by
  cases m with
  | none => rfl
  | some p => exact absurd h (show ¬ (1 : Int32) = 0 by decide)
theorem miO_some {m : Mi} (h : ¬ miO m = 0) : ∃ p, m = some p := by
  cases m with
  | none => exact absurd rfl h
  | some p => exact ⟨p, rfl⟩
theorem mi_room {B i s t : Nat} {cs : List Nat} {σ : Sg} (h : SW B cs σ) (hi : i < gK σ) (hs : s ∈ nAc (gN σ i)) (hn : ¬ s ∈ miL (nMi (gN σ i) t)) : (miL (nMi (gN σ i) t)).length < 5 := by
  have hz := h.2.2.2.1
  have n := h.nw hi
  have hl := n.2.2.2.2.1
  have hz5 := hz.2.1
  cases e : nMi (gN σ i) t with
  | none => exact Nat.zero_lt_succ _
  | some p =>
    obtain ⟨x, tl⟩ := p
    have k := n.2.2.2.2.2.2.2.2.2.1 t x tl e
    rw [e] at hn
    have hn : ¬ s ∈ tl := hn
    show tl.length < 5
    have := nd_len (l := s :: tl) (l2 := nAc (gN σ i)) (List.nodup_cons.mpr ⟨hn, k.2.1⟩) (fun y hy => by
      rcases List.mem_cons.mp hy with hy | hy
      · exact hy ▸ hs
      · exact k.2.2 y hy)
    rw [List.length_cons] at this
    omega
theorem NW.mi {B K T i t : Nat} {z : Sz} {d : Nd} {x : Int32} {tl : List Nat} (n : NW B K T z i d) (ht : t < T) (hh : nHo d t = none) (hn : tl.Nodup) (hs : ∀ q ∈ tl, q ∈ nAc d) : NW B K T z i (sMi d (va_up (nMi d) t (some (x, tl)))) := by
  obtain ⟨a1, a2, a3, a4, a5, a6, a7, a8, a9, a10, a11, a12⟩ := n
  refine ⟨a1, a2, a3, a4, a5, a6, a7, a8, a9, fun t2 h2 tl2 e => ?_, fun t2 e => ?_, a12⟩
  · have e : va_up (nMi d) t (some (x, tl)) t2 = some (h2, tl2) := e
    by_cases q : t2 = t
    · subst q
      rw [va_up_self] at e
      cases e
      exact ⟨ht, hn, hs⟩
    · rw [va_up_ne _ _ q] at e
      exact a10 t2 h2 tl2 e
  · have e : (nHo d t2).isSome := e
    show va_up (nMi d) t (some (x, tl)) t2 = none
    by_cases q : t2 = t
    · subst q
      rw [hh] at e
      cases e
    · rw [va_up_ne _ _ q]
      exact a11 t2 e
theorem NW.mi0 {B K T i t : Nat} {z : Sz} {d : Nd} (n : NW B K T z i d) : NW B K T z i (sMi d (va_up (nMi d) t none)) := by
  obtain ⟨a1, a2, a3, a4, a5, a6, a7, a8, a9, a10, a11, a12⟩ := n
  refine ⟨a1, a2, a3, a4, a5, a6, a7, a8, a9, fun t2 h2 tl2 e => ?_, fun t2 e => ?_, a12⟩
  · have e : va_up (nMi d) t none t2 = some (h2, tl2) := e
    by_cases q : t2 = t
    · subst q
      rw [va_up_self] at e
      cases e
    · rw [va_up_ne _ _ q] at e
      exact a10 t2 h2 tl2 e
  · have e : (nHo d t2).isSome := e
    show va_up (nMi d) t none t2 = none
    by_cases q : t2 = t
    · subst q
      rw [va_up_self]
    · rw [va_up_ne _ _ q]
      exact a11 t2 e
/-- one missed tale of node i put anew -/
def miS (σ : Sg) (i t : Nat) (m : Mi) : Sg := sNd σ i (sMi (gN σ i) (va_up (nMi (gN σ i)) t m))
theorem miS_K {σ : Sg} {i t : Nat} {m : Mi} : gK (miS σ i t m) = gK σ := rfl
theorem nto_K {σ : Sg} {i s t : Nat} : gK (nto σ i s t) = gK σ := by simp only [nto]; split <;> rfl
theorem nto_T {σ : Sg} {i s t : Nat} : gT (nto σ i s t) = gT σ := by simp only [nto]; split <;> rfl
theorem nto_Z {σ : Sg} {i s t : Nat} : gZ (nto σ i s t) = gZ σ := by simp only [nto]; split <;> rfl
/-- node i asks the first teller of tale t, or it gives up -/
def ftc2 (σ : Sg) (i t : Nat) (x : Int32) (q : Nat) (tl : List Nat) : Sg :=
  miS (snd (egS (miS σ i t (some (x, tl))) i q) i q 11 t 1 []) i t (some (gTi (snd (egS (miS σ i t (some (x, tl))) i q) i q 11 t 1 []) + nI (max ((gZ (snd (egS (miS σ i t (some (x, tl))) i q) i q 11 t 1 [])).2.2.2.2 / 2) 1), tl))
def ftc (σ : Sg) (i t : Nat) (x : Int32) (tl : List Nat) : Sg := if tl.length = 0 then miS σ i t none else ftc2 σ i t x (tl.getD 0 0) (tl.eraseIdx 0)
def fd1 (σ : Sg) (i t : Nat) : Sg := match nMi (gN σ i) t with
  | none => σ
  | some p => if gTi σ < p.1 then σ else ftc σ i t p.1 p.2
def fdF (σ : Sg) (i : Nat) : Nat → Sg
  | 0 => σ
  | t + 1 => fd1 (fdF σ i t) i t
def psF (σ : Sg) : Nat → Sg
  | 0 => σ
  | i + 1 => if lvd (psF σ i) i then fdF (psF σ i) i (gT (psF σ i)) else psF σ i
/-- the time goes on by one: who waited long enough asks -/
def pss (σ : Sg) : Sg := psF (sTi σ (gTi σ + 1)) (gK σ)
theorem ftc_K {σ : Sg} {i t : Nat} {x : Int32} {tl : List Nat} : gK (ftc σ i t x tl) = gK σ := by
  simp only [ftc]
  split
  · rfl
  · exact miS_K.trans snd_K
theorem ftc_T {σ : Sg} {i t : Nat} {x : Int32} {tl : List Nat} : gT (ftc σ i t x tl) = gT σ := by
  simp only [ftc]
  split
  · rfl
  · exact (show gT (miS _ _ _ _) = _ from rfl).trans snd_T
theorem ftc_Z {σ : Sg} {i t : Nat} {x : Int32} {tl : List Nat} : gZ (ftc σ i t x tl) = gZ σ := by
  simp only [ftc]
  split
  · rfl
  · exact (show gZ (miS _ _ _ _) = _ from rfl).trans snd_Z
theorem fdF_K {σ : Sg} {i : Nat} : ∀ {t : Nat}, gK (fdF σ i t) = gK σ
  | 0 => rfl
  | t + 1 => by
    simp only [fdF, fd1]
    split
    · exact fdF_K
    · split
      · exact fdF_K
      · exact ftc_K.trans fdF_K
theorem fdF_T {σ : Sg} {i : Nat} : ∀ {t : Nat}, gT (fdF σ i t) = gT σ
  | 0 => rfl
  | t + 1 => by
    simp only [fdF, fd1]
    split
    · exact fdF_T
    · split
      · exact fdF_T
      · exact ftc_T.trans fdF_T
theorem fdF_Z {σ : Sg} {i : Nat} : ∀ {t : Nat}, gZ (fdF σ i t) = gZ σ
  | 0 => rfl
  | t + 1 => by
    simp only [fdF, fd1]
    split
    · exact fdF_Z
    · split
      · exact fdF_Z
      · exact ftc_Z.trans fdF_Z
theorem miS_SW {B i t : Nat} {cs : List Nat} {σ : Sg} {x : Int32} {tl : List Nat} (h : SW B cs σ) (hi : i < gK σ) (ht : t < gT σ) (hh : nHo (gN σ i) t = none) (hn : tl.Nodup) (hs : ∀ q ∈ tl, q ∈ nAc (gN σ i)) : SW B cs (miS σ i t (some (x, tl))) := SW.sn h (NW.mi (h.nw hi) ht hh hn hs)
theorem nMi_ho {B i t : Nat} {cs : List Nat} {σ : Sg} {p : Int32 × List Nat} (h : SW B cs σ) (hi : i < gK σ) (hm : nMi (gN σ i) t = some p) : nHo (gN σ i) t = none := by
  cases e : nHo (gN σ i) t with
  | none => rfl
  | some k =>
    have := (h.nw hi).2.2.2.2.2.2.2.2.2.2.1 t (by rw [e]; rfl)
    rw [hm] at this
    cases this
theorem ftc_SW {B i t : Nat} {cs : List Nat} {σ : Sg} {x : Int32} {tl : List Nat} (h : SW B cs σ) (hi : i < gK σ) (hm : nMi (gN σ i) t = some (x, tl)) : SW B cs (ftc σ i t x tl) := by
  have k := (h.nw hi).2.2.2.2.2.2.2.2.2.1 t x tl hm
  have hT := h.2.2.1
  by_cases e : tl.length = 0
  · rw [show ftc σ i t x tl = miS σ i t none from by simp only [ftc, if_pos e]]
    exact SW.sn h (NW.mi0 (h.nw hi))
  · rw [show ftc σ i t x tl = ftc2 σ i t x (tl.getD 0 0) (tl.eraseIdx 0) from by simp only [ftc, if_neg e]]
    have hho := nMi_ho h hi hm
    have hq : tl.getD 0 0 ∈ tl := getD_mem (by omega)
    have hnd : (tl.eraseIdx 0).Nodup := List.Pairwise.sublist (List.eraseIdx_sublist tl 0) k.2.1
    have hqK : tl.getD 0 0 < gK σ := (h.nw hi).2.1 _ (k.2.2 _ hq)
    have h1 : SW B cs (miS σ i t (some (x, tl.eraseIdx 0))) := miS_SW h hi k.1 hho hnd (fun q hq => k.2.2 q (List.mem_of_mem_eraseIdx hq))
    have h2 := SW.egS (q := tl.getD 0 0) h1 hi
    have h3 := SW.sent (f := i) (t := tl.getD 0 0) (k := 11) (x := t) (y := 1) (l := []) h2 hi hqK (lw_t hi hqK hT k.1 (Or.inr (Or.inr ⟨rfl, rfl⟩)))
    refine miS_SW h3 (by rw [snd_K]; exact hi) (by rw [snd_T]; exact k.1) ?_ hnd ?_
    · rw [snd_N]
      simp only [egS, miS, gN_self]
      exact hho
    · rw [snd_N]
      simp only [egS, miS, gN_self]
      exact fun q hq => k.2.2 q (List.mem_of_mem_eraseIdx hq)
theorem fd1_n {σ : Sg} {i t : Nat} (h : nMi (gN σ i) t = none) : fd1 σ i t = σ := by simp only [fd1, h]
theorem fd1_w {σ : Sg} {i t : Nat} {p : Int32 × List Nat} (h : nMi (gN σ i) t = some p) (h2 : gTi σ < p.1) : fd1 σ i t = σ := by simp only [fd1, h, if_pos h2]
theorem fd1_d {σ : Sg} {i t : Nat} {p : Int32 × List Nat} (h : nMi (gN σ i) t = some p) (h2 : ¬ gTi σ < p.1) : fd1 σ i t = ftc σ i t p.1 p.2 := by simp only [fd1, h, if_neg h2]
theorem fdF_SW {B i : Nat} {cs : List Nat} {σ : Sg} (h : SW B cs σ) (hi : i < gK σ) : ∀ t, SW B cs (fdF σ i t)
  | 0 => h
  | t + 1 => by
    have h0 := fdF_SW h hi t
    have hk : i < gK (fdF σ i t) := by rw [fdF_K]; exact hi
    show SW B cs (fd1 (fdF σ i t) i t)
    cases e : nMi (gN (fdF σ i t) i) t with
    | none => rw [fd1_n e]; exact h0
    | some p =>
      by_cases q : gTi (fdF σ i t) < p.1
      · rw [fd1_w e q]; exact h0
      · rw [fd1_d e q]; exact ftc_SW h0 hk e
theorem ftc_e {σ : Sg} {i t : Nat} {x : Int32} {tl : List Nat} (e : tl.length = 0) : ftc σ i t x tl = miS σ i t none := by simp only [ftc, if_pos e]
theorem ftc_s {σ σ1 σ2 σ3 σ4 : Sg} {i t q : Nat} {x : Int32} {tl tl2 : List Nat} (e : ¬ tl.length = 0) (hq : q = tl.getD 0 0) (ht : tl2 = tl.eraseIdx 0) (e1 : σ1 = miS σ i t (some (x, tl2))) (e2 : σ2 = egS σ1 i q) (e3 : σ3 = snd σ2 i q 11 t 1 []) (e4 : σ4 = miS σ3 i t (some (gTi σ3 + nI (max ((gZ σ3).2.2.2.2 / 2) 1), tl2))) : ftc σ i t x tl = σ4 := by
  subst e4 e3 e2 e1 ht hq
  simp only [ftc, if_neg e, ftc2]
theorem cho_s {σ σ1 σ2 : Sg} {i s t y h : Nat} (hs : s ∈ nAc (gN σ i)) (hy : ¬ y = 0) (e1 : σ1 = egS σ i s) (hh : nHo (gN σ1 i) t = some h) (e2 : σ2 = snd σ1 i s 9 t (h + 1) []) : cho σ i s t y = σ2 := by
  subst e2 e1
  simp only [cho, if_neg (fun e : ¬ s ∈ nAc (gN σ i) => e hs), if_neg hy, hh]
theorem cho_n {σ σ1 : Sg} {i s t y : Nat} (hs : s ∈ nAc (gN σ i)) (hy : ¬ y = 0) (e1 : σ1 = egS σ i s) (hh : (nHo (gN σ1 i) t).isSome = false) : cho σ i s t y = σ1 := by
  subst e1
  have h2 : nHo (gN (egS σ i s) i) t = none := by
    cases e : nHo (gN (egS σ i s) i) t with
    | none => rfl
    | some q => rw [e] at hh; cases hh
  simp only [cho, if_neg (fun e : ¬ s ∈ nAc (gN σ i) => e hs), if_neg hy, h2]
theorem nI_max {a b : Nat} (ha : a < 2 ^ 31) (hb : b < 2 ^ 31) : (if nI a < nI b then nI b else nI a) = nI (max a b) := by
  by_cases h : a < b
  · rw [if_pos ((nI_ltI ha hb).mpr h), Nat.max_eq_right (by omega)]
  · rw [if_neg (fun e => h ((nI_ltI ha hb).mp e)), Nat.max_eq_left (by omega)]
theorem sTi_SW {B : Nat} {cs : List Nat} {σ : Sg} {v : Int32} (h : SW B cs σ) : SW B cs (sTi σ v) := h
abbrev rm_X7_send : Room := { frames := 3, cells := 0, slots := 0, locals := 71 }
theorem Y_X7_send : pY yX7_send cX7_send 6 (Option.none : Option Jvm.ClassFile.FieldType) := ⟨u_524, u_525, u_12, u_526⟩
theorem N_X7_send : yX7_send.cls ≠ "java/lang/invoke/MethodHandle" ∧ yX7_send.cls ≠ "java/lang/invoke/VarHandle" ∧ (parseMethodDescriptor yX7_send.desc).map (fun d => d.parameters.length) = some 5 := by decide +kernel
set_option maxRecDepth 20000 in
set_option maxHeartbeats 4000000 in
theorem c_X7_send (A : Nat → Nat) (P : List Nat) (g : pM) (w : Nat) {σ : Sg} (i t k x y : Nat) (hi : i < gK σ) (ht : t < gK σ) (hk : k ≤ 12) (hx : x < 2 ^ 31) (hy : y < 2 ^ 31) (hV : g (w + 15007) = ob 7 [.ref (A w)]) (hW : WD A g w (w + 15005) σ) : PM yX7_send cX7_send 6 (Option.none : Option Jvm.ClassFile.FieldType) rm_X7_send [.ref (A (w + 15007)), .ref (A (w + 100 + 100 * i)), .int (nI t), .int (nI k), .int (nI x), .int (nI y)] P A g (fun v g' => v = none ∧ WD A g' w (w + 15005) (snd σ i t k x y []) ∧ FrR g g' w) := by
  have hK := hW.k16
  refine px_intro (by decide +kernel) (Nat.le_of_ble_eq_true rfl) (fun K sz C R => ?_)
  show V K 0 0 P A g [(0, .ref (A (w + 15007))), (1, .ref (A (w + 100 + 100 * i))), (2, .int (nI t)), (3, .int (nI k)), (4, .int (nI x)), (5, .int (nI y))] 0 []
  refine g_aload_n (pc := 0) C dX7_send_0 0 rfl ?_
  refine g_get (pc := 1) C (j := 0) hV rfl rfl (by decide) u_319 dX7_send_1 ?_
  refine g_aload_n (pc := 4) C dX7_send_4 1 rfl ?_
  refine g_get (pc := 5) C (j := 0) (WD.nd (i := i) hW (by omega)).1 rfl rfl (by decide) u_130 dX7_send_5 ?_
  refine g_iload_n (pc := 8) C dX7_send_8 2 rfl ?_
  refine g_iload_n (pc := 9) C dX7_send_9 3 rfl ?_
  refine g_iload (pc := 10) C dX7_send_10 4 rfl ?_
  refine g_iload (pc := 12) C dX7_send_12 5 rfl ?_
  refine g_callV (pc := 14) C (As := [.int (nI i), .int (nI t), .int (nI k), .int (nI x), .int (nI y)]) (rest := []) (b := w) (c_X9_send A P g w i t k x y (by omega) (by omega) (by omega) (by omega) (by omega) hW) (WD.wb hW).1 rfl rfl Y_X9_send u_527 N_X9_send ⟨by decide, by decide⟩ ⟨by decide, by decide⟩ (Nat.le_of_ble_eq_true rfl) rfl dX7_send_14 ?_
  rintro v0 _ _ g_1 ⟨rfl, rfl, hf_2, hcase⟩
  have hW_3 : WD A g_1 w (w + 15005) (snd σ i t k x y []) := by rcases hcase with ⟨_, _, q⟩ | ⟨_, _, _, _, _, q, _⟩; exact q; exact q
  obtain ⟨vv, hvc, hvv⟩ : ∃ vv : Value, vv.category = 1 ∧ v0 = some vv := by rcases hcase with ⟨_, e, _⟩ | ⟨_, _, _, e, _, _, _⟩; exact ⟨_, rfl, e⟩; exact ⟨_, rfl, e⟩
  subst hvv
  clear hcase
  have hf_4 : Fr g g_1 (w + 3) (w + 3500) := FrR.fr hf_2
  have h_5 := hf_4.at (by omega) hV
  show V K 0 0 P A g_1 [(0, .ref (A (w + 15007))), (1, .ref (A (w + 100 + 100 * i))), (2, .int (nI t)), (3, .int (nI k)), (4, .int (nI x)), (5, .int (nI y))] 17 [vv]
  refine g_pop (pc := 17) C dX7_send_17 hvc ?_
  exact g_vret (pc := 18) C R ⟨rfl, rfl, rfl, hW_3, fun k hk => by rw [hf_2 k (by omega)]⟩ (by decide) (by decide) dX7_send_18
abbrev rm_X7_hear : Room := { frames := 4, cells := 0, slots := 0, locals := 96 }
theorem Y_X7_hear : pY yX7_hear cX7_hear 7 (Option.none : Option Jvm.ClassFile.FieldType) := ⟨u_511, u_512, u_12, u_513⟩
theorem N_X7_hear : yX7_hear.cls ≠ "java/lang/invoke/MethodHandle" ∧ yX7_hear.cls ≠ "java/lang/invoke/VarHandle" ∧ (parseMethodDescriptor yX7_hear.desc).map (fun d => d.parameters.length) = some 4 := by decide +kernel
set_option maxRecDepth 20000 in
set_option maxHeartbeats 4000000 in
theorem c_X7_hear (A : Nat → Nat) (P : List Nat) (g : pM) (w : Nat) {B : Nat} {cs : List Nat} {σ : Sg} (i t h : Nat) (s : Option Nat) (hi : i < gK σ) (ht : t < gT σ) (hh : h ≤ B) (hs16 : ∀ x, s = some x → x < 16) (hS : SW B cs σ) (hV : g (w + 15007) = ob 7 [.ref (A w)]) (hW : WD A g w (w + 15005) σ) : PM yX7_hear cX7_hear 7 (Option.none : Option Jvm.ClassFile.FieldType) rm_X7_hear [.ref (A (w + 15007)), .ref (A (w + 100 + 100 * i)), .int (nI t), .int (nI h), .int (onv s)] P A g (fun v g' => v = none ∧ WD A g' w (w + 15005) (her σ i t h s) ∧ FrV g g' w) := by
  have hK := hS.2.1
  obtain ⟨hz1, hz2, hz3, hz4, hz5, hz6, hz7, hz8, hz9⟩ := hS.2.2.2.1
  have hB := hS.1
  have ht24 := hS.2.2.1
  refine px_intro (by decide +kernel) (Nat.le_of_ble_eq_true rfl) (fun K sz C R => ?_)
  show V K 0 0 P A g [(0, .ref (A (w + 15007))), (1, .ref (A (w + 100 + 100 * i))), (2, .int (nI t)), (3, .int (nI h)), (4, .int (onv s))] 0 []
  refine g_aload_n (pc := 0) C dX7_hear_0 1 rfl ?_
  refine g_iload_n (pc := 1) C dX7_hear_1 2 rfl ?_
  refine g_iload_n (pc := 2) C dX7_hear_2 3 rfl ?_
  refine g_callV (pc := 3) C (As := [.int (nI t), .int (nI h)]) (rest := []) (b := (w + 100 + 100 * i)) (c_X3_learn A P g (w + 100 + 100 * i) t h (by omega) (WD.nd (i := i) hW (by omega))) (WD.nd (i := i) hW (by omega)).1 rfl rfl Y_X3_learn u_514 N_X3_learn ⟨by decide, by decide⟩ ⟨by decide, by decide⟩ (Nat.le_of_ble_eq_true rfl) rfl dX7_hear_3 ?_
  rintro _ _ _ g_1 ⟨rfl, rfl, rfl, hn_2, hf_3⟩
  have hW_4 := WD.sn (i := i) hW (by omega) (hf_3.mo (by omega) (by omega)) hn_2
  have h_5 := hf_3.at (by omega) hV
  obtain ⟨σ6, hσ6⟩ : ∃ sM : Sg, sM = sNd σ i (sMi (sHo (gN σ i) (va_up (nHo (gN σ i)) t (some h))) (va_up (nMi (gN σ i)) t none)) := ⟨_, rfl⟩
  have hW_7 : WD A g_1 w (w + 15005) σ6 := by rw [hσ6]; exact hW_4
  clear hW_4
  have hK_σ6 : gK σ6 = gK σ := (congrArg gK hσ6).trans (rfl : gK σ = gK σ)
  have hT_σ6 : gT σ6 = gT σ := (congrArg gT hσ6).trans (rfl : gT σ = gT σ)
  have hZ_σ6 : gZ σ6 = gZ σ := (congrArg gZ hσ6).trans (rfl : gZ σ = gZ σ)
  show V K 0 0 P A g_1 [(0, .ref (A (w + 15007))), (1, .ref (A (w + 100 + 100 * i))), (2, .int (nI t)), (3, .int (nI h)), (4, .int (onv s))] 6 []
  obtain ⟨σ1, hs1⟩ : ∃ sM : Sg, sM = σ6 := ⟨_, rfl⟩
  rw [← hs1] at hW_7
  rw [← hs1] at hK_σ6
  rw [← hs1] at hT_σ6
  rw [← hs1] at hZ_σ6
  have hS1 : SW B cs σ1 := by rw [hs1, hσ6]; exact SW.lrn hS hi hh ht
  refine g_iconst (pc := 6) C dX7_hear_6 (v := nI 0) rfl ?_
  refine g_istore (pc := 7) C dX7_hear_7 (by decide) (lv' := [(0, .ref (A (w + 15007))), (1, .ref (A (w + 100 + 100 * i))), (2, .int (nI t)), (3, .int (nI h)), (4, .int (onv s)), (5, .int (nI 0))]) [1, 2, 3, 4, 5, 0] rfl ?_
  have lp_9 : ∀ (fuel : Nat) (k : Nat) (hk : k ≤ (nAc (gN σ1 i)).length) (σ2 : Sg) (he : σ2 = tfE i t h (nLz (gN σ1 i)) s ((nAc (gN σ1 i)).take k) σ1) (hN : gN σ2 = gN σ1) (hS2 : SW B cs σ2) (hK2 : gK σ2 = gK σ) (hT2 : gT σ2 = gT σ) (hZ2 : gZ σ2 = gZ σ) (gl : pM) (hVl : gl (w + 15007) = ob 7 [.ref (A w)]) (hWl : WD A gl w (w + 15005) σ2) (hf : FrV g gl w), (nAc (gN σ1 i)).length - k < fuel → V K 0 0 P A gl [(0, .ref (A (w + 15007))), (1, .ref (A (w + 100 + 100 * i))), (2, .int (nI t)), (3, .int (nI h)), (4, .int (onv s)), (5, .int (nI k))] 9 [] := by
    intro fuel
    induction fuel with
    | zero => intro k hk σ2 he hN hS2 hK2 hT2 hZ2 gl hVl hWl hf hμ; exact absurd hμ (Nat.not_lt_zero _)
    | succ fuel ih =>
      intro k hk σ2 he hN hS2 hK2 hT2 hZ2 gl hVl hWl hf hμ
      have hle2 : (nAc (gN σ2 i)).length ≤ 5 := (hWl.nd (i := i) (by omega)).2.1.le
      have hlen2 : (nAc (gN σ2 i)).length = (nAc (gN σ1 i)).length := by rw [hN]
      have hw2 : ndW (gN σ2 i) := SW.dw hS2 (i := i) (by omega)
      refine g_iload (pc := 9) C dX7_hear_9 5 rfl ?_
      refine g_aload_n (pc := 11) C dX7_hear_11 1 rfl ?_
      refine g_get (pc := 12) C (j := 2) (WD.nd (i := i) hWl (by omega)).1 rfl rfl (by decide) u_138 dX7_hear_12 ?_
      refine g_get (pc := 15) C (j := 1) (NLN.o (WD.nd (i := i) hWl (by omega)).2.1) rfl rfl (by decide) u_96 dX7_hear_15 ?_
      refine g_icmp_ge (pc := 18) C dX7_hear_18 (tgt := 67) (by decide) (fun c_18 => ?_) (fun c_18 => ?_)
      ·
        have c_18 : (nAc (gN σ2 i)).length ≤ k := (nI_leI (by omega) (by omega)).mp c_18
        refine g_iconst (pc := 67) C dX7_hear_67 (v := nI 0) rfl ?_
        refine g_istore (pc := 68) C dX7_hear_68 (by decide) (lv' := [(0, .ref (A (w + 15007))), (1, .ref (A (w + 100 + 100 * i))), (2, .int (nI t)), (3, .int (nI h)), (4, .int (onv s)), (5, .int (nI 0))]) [1, 2, 3, 4, 5, 0] rfl ?_
        have lp_70 : ∀ (fuel : Nat) (k : Nat) (hk : k ≤ (nAc (gN σ1 i)).length) (σ2 : Sg) (he : σ2 = tfL i t (nLz (gN σ1 i)) s ((nAc (gN σ1 i)).take k) (tfE i t h (nLz (gN σ1 i)) s (nAc (gN σ1 i)) σ1)) (hN : gN σ2 = gN σ1) (hS2 : SW B cs σ2) (hK2 : gK σ2 = gK σ) (hT2 : gT σ2 = gT σ) (hZ2 : gZ σ2 = gZ σ) (gl : pM) (hVl : gl (w + 15007) = ob 7 [.ref (A w)]) (hWl : WD A gl w (w + 15005) σ2) (hf : FrV g gl w), (nAc (gN σ1 i)).length - k < fuel → V K 0 0 P A gl [(0, .ref (A (w + 15007))), (1, .ref (A (w + 100 + 100 * i))), (2, .int (nI t)), (3, .int (nI h)), (4, .int (onv s)), (5, .int (nI k))] 70 [] := by
          intro fuel
          induction fuel with
          | zero => intro k hk σ2 he hN hS2 hK2 hT2 hZ2 gl hVl hWl hf hμ; exact absurd hμ (Nat.not_lt_zero _)
          | succ fuel ih =>
            intro k hk σ2 he hN hS2 hK2 hT2 hZ2 gl hVl hWl hf hμ
            have hle2 : (nAc (gN σ2 i)).length ≤ 5 := (hWl.nd (i := i) (by omega)).2.1.le
            have hlen2 : (nAc (gN σ2 i)).length = (nAc (gN σ1 i)).length := by rw [hN]
            have hw2 : ndW (gN σ2 i) := SW.dw hS2 (i := i) (by omega)
            refine g_iload (pc := 70) C dX7_hear_70 5 rfl ?_
            refine g_aload_n (pc := 72) C dX7_hear_72 1 rfl ?_
            refine g_get (pc := 73) C (j := 2) (WD.nd (i := i) hWl (by omega)).1 rfl rfl (by decide) u_138 dX7_hear_73 ?_
            refine g_get (pc := 76) C (j := 1) (NLN.o (WD.nd (i := i) hWl (by omega)).2.1) rfl rfl (by decide) u_96 dX7_hear_76 ?_
            refine g_icmp_ge (pc := 79) C dX7_hear_79 (tgt := 126) (by decide) (fun c_79 => ?_) (fun c_79 => ?_)
            ·
              have c_79 : (nAc (gN σ2 i)).length ≤ k := (nI_leI (by omega) (by omega)).mp c_79
              exact g_vret (pc := 126) C R ⟨rfl, rfl, rfl, by rw [show her σ i t h s = σ2 from by rw [he, show (nAc (gN σ1 i)).take k = (nAc (gN σ1 i)) from List.take_of_length_le (by omega), hs1, hσ6]; rfl]; exact hWl, hf⟩ (by decide) (by decide) dX7_hear_126
            ·
              have c_79 : ¬ (nAc (gN σ2 i)).length ≤ k := fun h => c_79 ((nI_leI (a := (nAc (gN σ2 i)).length) (b := k) (by omega) (by omega)).mpr h)
              refine g_aload_n (pc := 82) C dX7_hear_82 1 rfl ?_
              refine g_get (pc := 83) C (j := 2) (WD.nd (i := i) hWl (by omega)).1 rfl rfl (by decide) u_138 dX7_hear_83 ?_
              refine g_iload (pc := 86) C dX7_hear_86 5 rfl ?_
              refine g_callV (pc := 88) C (As := [.int (nI k)]) (rest := []) (b := (w + 100 + 100 * i + 1)) (n_X4_at A P gl (w + 100 + 100 * i + 1) k (by omega) (WD.nd (i := i) hWl (by omega)).2.1) (NLN.o (WD.nd (i := i) hWl (by omega)).2.1) rfl rfl Y_X4_at u_518 N_X4_at ⟨by decide, by decide⟩ ⟨by decide, by decide⟩ (Nat.le_of_ble_eq_true rfl) rfl dX7_hear_88 ?_
              rintro _ _ _ _ ⟨rfl, rfl, rfl, rfl⟩
              show V K 0 0 P A gl [(0, .ref (A (w + 15007))), (1, .ref (A (w + 100 + 100 * i))), (2, .int (nI t)), (3, .int (nI h)), (4, .int (onv s)), (5, .int (nI k))] 91 [.int (nI ((nAc (gN σ2 i)).getD k 0))]
              have hqK : (nAc (gN σ2 i)).getD k 0 < gK σ := by have := (SW.nw hS2 (i := i) (by omega)).2.1 _ (getD_mem (show k < (nAc (gN σ2 i)).length by omega)); omega
              have hq16 : (nAc (gN σ2 i)).getD k 0 < 16 := by omega
              refine g_istore (pc := 91) C dX7_hear_91 (by decide) (lv' := [(0, .ref (A (w + 15007))), (1, .ref (A (w + 100 + 100 * i))), (2, .int (nI t)), (3, .int (nI h)), (4, .int (onv s)), (5, .int (nI k)), (6, .int (nI ((nAc (gN σ2 i)).getD k 0)))]) [1, 2, 3, 4, 5, 6, 0] rfl ?_
              refine g_iload (pc := 93) C dX7_hear_93 6 rfl ?_
              refine g_iload (pc := 95) C dX7_hear_95 4 rfl ?_
              refine g_icmp_eq (pc := 97) C dX7_hear_97 (tgt := 120) (by decide) (fun c_97 => ?_) (fun c_97 => ?_)
              ·
                refine g_iinc (pc := 120) C dX7_hear_120 (by decide) 5 rfl (v := nI (k + 1)) (nI_i1 _) (lv' := [(0, .ref (A (w + 15007))), (1, .ref (A (w + 100 + 100 * i))), (2, .int (nI t)), (3, .int (nI h)), (4, .int (onv s)), (5, .int (nI (k + 1))), (6, .int (nI ((nAc (gN σ2 i)).getD k 0)))]) [1, 2, 3, 4, 5, 0, 6] rfl ?_
                refine g_goto (pc := 123) C dX7_hear_123 (tgt := 70) (by decide) ?_
                refine g_sub [0, 1, 2, 3, 4, 5] rfl ?_
                exact ih (k + 1) (by omega) σ2 (by rw [he]; exact ((tfL_s (show k < (nAc (gN σ1 i)).length by omega)).trans (if_pos (Or.inl (by rw [← hN]; exact (wof_n hs16 hq16).mp c_97)))).symm) hN hS2 hK2 hT2 hZ2 gl hVl hWl hf (by omega)
              ·
                refine g_aload_n (pc := 100) C dX7_hear_100 1 rfl ?_
                refine g_iload (pc := 101) C dX7_hear_101 6 rfl ?_
                refine g_callV (pc := 103) C (As := [.int (nI ((nAc (gN σ2 i)).getD k 0))]) (rest := []) (b := (w + 100 + 100 * i)) (c_X3_isLazy A P gl (w + 100 + 100 * i) ((nAc (gN σ2 i)).getD k 0) (by omega) (by assumption) (WD.nd (i := i) hWl (by omega))) (WD.nd (i := i) hWl (by omega)).1 rfl rfl Y_X3_isLazy u_519 N_X3_isLazy ⟨by decide, by decide⟩ ⟨by decide, by decide⟩ (Nat.le_of_ble_eq_true rfl) rfl dX7_hear_103 ?_
                rintro _ _ _ _ ⟨rfl, rfl, rfl, rfl⟩
                show V K 0 0 P A gl [(0, .ref (A (w + 15007))), (1, .ref (A (w + 100 + 100 * i))), (2, .int (nI t)), (3, .int (nI h)), (4, .int (onv s)), (5, .int (nI k)), (6, .int (nI ((nAc (gN σ2 i)).getD k 0)))] 106 [.int (b32 ((nLz (gN σ2 i)).testBit ((nAc (gN σ2 i)).getD k 0)))]
                refine g_if_eq (pc := 106) C dX7_hear_106 (tgt := 120) (by decide) (fun c_106 => ?_) (fun c_106 => ?_)
                ·
                  refine g_iinc (pc := 120) C dX7_hear_120 (by decide) 5 rfl (v := nI (k + 1)) (nI_i1 _) (lv' := [(0, .ref (A (w + 15007))), (1, .ref (A (w + 100 + 100 * i))), (2, .int (nI t)), (3, .int (nI h)), (4, .int (onv s)), (5, .int (nI (k + 1))), (6, .int (nI ((nAc (gN σ2 i)).getD k 0)))]) [1, 2, 3, 4, 5, 0, 6] rfl ?_
                  refine g_goto (pc := 123) C dX7_hear_123 (tgt := 70) (by decide) ?_
                  refine g_sub [0, 1, 2, 3, 4, 5] rfl ?_
                  exact ih (k + 1) (by omega) σ2 (by rw [he]; exact ((tfL_s (show k < (nAc (gN σ1 i)).length by omega)).trans (if_pos (Or.inr (by rw [← hN]; exact b32_yes c_106)))).symm) hN hS2 hK2 hT2 hZ2 gl hVl hWl hf (by omega)
                ·
                  refine g_aload_n (pc := 109) C dX7_hear_109 0 rfl ?_
                  refine g_aload_n (pc := 110) C dX7_hear_110 1 rfl ?_
                  refine g_iload (pc := 111) C dX7_hear_111 6 rfl ?_
                  refine g_bipush (pc := 113) C dX7_hear_113 (v := nI 10) rfl ?_
                  refine g_iload_n (pc := 115) C dX7_hear_115 2 rfl ?_
                  refine g_iconst (pc := 116) C dX7_hear_116 (v := nI 0) rfl ?_
                  refine g_callV (pc := 117) C (As := [.ref (A (w + 100 + 100 * i)), .int (nI ((nAc (gN σ2 i)).getD k 0)), .int (nI 10), .int (nI t), .int (nI 0)]) (rest := []) (b := (w + 15007)) (c_X7_send A P gl w i ((nAc (gN σ2 i)).getD k 0) 10 t 0 (by omega) (by omega) (by omega) (by omega) (by omega) hVl hWl) hVl rfl rfl Y_X7_send u_523 N_X7_send ⟨by decide, by decide⟩ ⟨by decide, by decide⟩ (Nat.le_of_ble_eq_true rfl) rfl dX7_hear_117 ?_
                  rintro _ _ _ g_8 ⟨rfl, rfl, rfl, hW_9, hf_10⟩
                  have hf_11 : Fr gl g_8 (w + 3) (w + 3500) := FrR.fr hf_10
                  have h_12 := hf_11.at (by omega) hVl
                  obtain ⟨σ13, hσ13⟩ : ∃ sM : Sg, sM = snd σ2 i ((nAc (gN σ2 i)).getD k 0) 10 t 0 [] := ⟨_, rfl⟩
                  have hW_14 : WD A g_8 w (w + 15005) σ13 := by rw [hσ13]; exact hW_9
                  clear hW_9
                  have hK_σ13 : gK σ13 = gK σ := (congrArg gK hσ13).trans (snd_K.trans hK2)
                  have hT_σ13 : gT σ13 = gT σ := (congrArg gT hσ13).trans (snd_T.trans hT2)
                  have hZ_σ13 : gZ σ13 = gZ σ := (congrArg gZ hσ13).trans (snd_Z.trans hZ2)
                  show V K 0 0 P A g_8 [(0, .ref (A (w + 15007))), (1, .ref (A (w + 100 + 100 * i))), (2, .int (nI t)), (3, .int (nI h)), (4, .int (onv s)), (5, .int (nI k)), (6, .int (nI ((nAc (gN σ2 i)).getD k 0)))] 120 []
                  refine g_iinc (pc := 120) C dX7_hear_120 (by decide) 5 rfl (v := nI (k + 1)) (nI_i1 _) (lv' := [(0, .ref (A (w + 15007))), (1, .ref (A (w + 100 + 100 * i))), (2, .int (nI t)), (3, .int (nI h)), (4, .int (onv s)), (5, .int (nI (k + 1))), (6, .int (nI ((nAc (gN σ2 i)).getD k 0)))]) [1, 2, 3, 4, 5, 0, 6] rfl ?_
                  refine g_goto (pc := 123) C dX7_hear_123 (tgt := 70) (by decide) ?_
                  refine g_sub [0, 1, 2, 3, 4, 5] rfl ?_
                  exact ih (k + 1) (by omega) σ13 (by rw [hσ13, hN, he]; exact ((tfL_s (show k < (nAc (gN σ1 i)).length by omega)).trans (if_neg (by rw [← hN]; exact fun e => by rcases e with e | e; exact c_97 ((wof_n hs16 hq16).mpr e); exact absurd e (by rw [b32_no c_106]; decide)))).symm) (by rw [hσ13, snd_N]; exact hN) (by rw [hσ13]; exact SW.sent hS2 (by omega) (by omega) (lw_t (by omega) (by omega) (by omega) (by omega) (Or.inr (Or.inl ⟨rfl, rfl⟩)))) hK_σ13 hT_σ13 hZ_σ13 _ h_12 hW_14 (hf.tr (fun k hk => by rw [hf_10 k (by omega)])) (by omega)
        exact lp_70 (_ + 1) 0 (Nat.zero_le _) σ2 (by rw [he, show (nAc (gN σ1 i)).take k = (nAc (gN σ1 i)) from List.take_of_length_le (by omega)]; rfl) hN hS2 hK2 hT2 hZ2 gl hVl hWl hf (Nat.lt_succ_self _)
      ·
        have c_18 : ¬ (nAc (gN σ2 i)).length ≤ k := fun h => c_18 ((nI_leI (a := (nAc (gN σ2 i)).length) (b := k) (by omega) (by omega)).mpr h)
        refine g_aload_n (pc := 21) C dX7_hear_21 1 rfl ?_
        refine g_get (pc := 22) C (j := 2) (WD.nd (i := i) hWl (by omega)).1 rfl rfl (by decide) u_138 dX7_hear_22 ?_
        refine g_iload (pc := 25) C dX7_hear_25 5 rfl ?_
        refine g_callV (pc := 27) C (As := [.int (nI k)]) (rest := []) (b := (w + 100 + 100 * i + 1)) (n_X4_at A P gl (w + 100 + 100 * i + 1) k (by omega) (WD.nd (i := i) hWl (by omega)).2.1) (NLN.o (WD.nd (i := i) hWl (by omega)).2.1) rfl rfl Y_X4_at u_518 N_X4_at ⟨by decide, by decide⟩ ⟨by decide, by decide⟩ (Nat.le_of_ble_eq_true rfl) rfl dX7_hear_27 ?_
        rintro _ _ _ _ ⟨rfl, rfl, rfl, rfl⟩
        show V K 0 0 P A gl [(0, .ref (A (w + 15007))), (1, .ref (A (w + 100 + 100 * i))), (2, .int (nI t)), (3, .int (nI h)), (4, .int (onv s)), (5, .int (nI k))] 30 [.int (nI ((nAc (gN σ2 i)).getD k 0))]
        have hqK : (nAc (gN σ2 i)).getD k 0 < gK σ := by have := (SW.nw hS2 (i := i) (by omega)).2.1 _ (getD_mem (show k < (nAc (gN σ2 i)).length by omega)); omega
        have hq16 : (nAc (gN σ2 i)).getD k 0 < 16 := by omega
        refine g_istore (pc := 30) C dX7_hear_30 (by decide) (lv' := [(0, .ref (A (w + 15007))), (1, .ref (A (w + 100 + 100 * i))), (2, .int (nI t)), (3, .int (nI h)), (4, .int (onv s)), (5, .int (nI k)), (6, .int (nI ((nAc (gN σ2 i)).getD k 0)))]) [1, 2, 3, 4, 5, 6, 0] rfl ?_
        refine g_iload (pc := 32) C dX7_hear_32 6 rfl ?_
        refine g_iload (pc := 34) C dX7_hear_34 4 rfl ?_
        refine g_icmp_eq (pc := 36) C dX7_hear_36 (tgt := 61) (by decide) (fun c_36 => ?_) (fun c_36 => ?_)
        ·
          refine g_iinc (pc := 61) C dX7_hear_61 (by decide) 5 rfl (v := nI (k + 1)) (nI_i1 _) (lv' := [(0, .ref (A (w + 15007))), (1, .ref (A (w + 100 + 100 * i))), (2, .int (nI t)), (3, .int (nI h)), (4, .int (onv s)), (5, .int (nI (k + 1))), (6, .int (nI ((nAc (gN σ2 i)).getD k 0)))]) [1, 2, 3, 4, 5, 0, 6] rfl ?_
          refine g_goto (pc := 64) C dX7_hear_64 (tgt := 9) (by decide) ?_
          refine g_sub [0, 1, 2, 3, 4, 5] rfl ?_
          exact ih (k + 1) (by omega) σ2 (by rw [he]; exact ((tfE_s (show k < (nAc (gN σ1 i)).length by omega)).trans (if_pos (Or.inl (by rw [← hN]; exact (wof_n hs16 hq16).mp c_36)))).symm) hN hS2 hK2 hT2 hZ2 gl hVl hWl hf (by omega)
        ·
          refine g_aload_n (pc := 39) C dX7_hear_39 1 rfl ?_
          refine g_iload (pc := 40) C dX7_hear_40 6 rfl ?_
          refine g_callV (pc := 42) C (As := [.int (nI ((nAc (gN σ2 i)).getD k 0))]) (rest := []) (b := (w + 100 + 100 * i)) (c_X3_isLazy A P gl (w + 100 + 100 * i) ((nAc (gN σ2 i)).getD k 0) (by omega) (by assumption) (WD.nd (i := i) hWl (by omega))) (WD.nd (i := i) hWl (by omega)).1 rfl rfl Y_X3_isLazy u_519 N_X3_isLazy ⟨by decide, by decide⟩ ⟨by decide, by decide⟩ (Nat.le_of_ble_eq_true rfl) rfl dX7_hear_42 ?_
          rintro _ _ _ _ ⟨rfl, rfl, rfl, rfl⟩
          show V K 0 0 P A gl [(0, .ref (A (w + 15007))), (1, .ref (A (w + 100 + 100 * i))), (2, .int (nI t)), (3, .int (nI h)), (4, .int (onv s)), (5, .int (nI k)), (6, .int (nI ((nAc (gN σ2 i)).getD k 0)))] 45 [.int (b32 ((nLz (gN σ2 i)).testBit ((nAc (gN σ2 i)).getD k 0)))]
          refine g_if_ne (pc := 45) C dX7_hear_45 (tgt := 61) (by decide) (fun c_45 => ?_) (fun c_45 => ?_)
          ·
            refine g_iinc (pc := 61) C dX7_hear_61 (by decide) 5 rfl (v := nI (k + 1)) (nI_i1 _) (lv' := [(0, .ref (A (w + 15007))), (1, .ref (A (w + 100 + 100 * i))), (2, .int (nI t)), (3, .int (nI h)), (4, .int (onv s)), (5, .int (nI (k + 1))), (6, .int (nI ((nAc (gN σ2 i)).getD k 0)))]) [1, 2, 3, 4, 5, 0, 6] rfl ?_
            refine g_goto (pc := 64) C dX7_hear_64 (tgt := 9) (by decide) ?_
            refine g_sub [0, 1, 2, 3, 4, 5] rfl ?_
            exact ih (k + 1) (by omega) σ2 (by rw [he]; exact ((tfE_s (show k < (nAc (gN σ1 i)).length by omega)).trans (if_pos (Or.inr (by rw [← hN]; exact b32_no c_45)))).symm) hN hS2 hK2 hT2 hZ2 gl hVl hWl hf (by omega)
          ·
            refine g_aload_n (pc := 48) C dX7_hear_48 0 rfl ?_
            refine g_aload_n (pc := 49) C dX7_hear_49 1 rfl ?_
            refine g_iload (pc := 50) C dX7_hear_50 6 rfl ?_
            refine g_bipush (pc := 52) C dX7_hear_52 (v := nI 9) rfl ?_
            refine g_iload_n (pc := 54) C dX7_hear_54 2 rfl ?_
            refine g_iload_n (pc := 55) C dX7_hear_55 3 rfl ?_
            refine g_iconst (pc := 56) C dX7_hear_56 (v := nI 1) rfl ?_
            refine g_iadd (pc := 57) C dX7_hear_57 (z := nI (h + 1)) (nI_add _ _) ?_
            refine g_callV (pc := 58) C (As := [.ref (A (w + 100 + 100 * i)), .int (nI ((nAc (gN σ2 i)).getD k 0)), .int (nI 9), .int (nI t), .int (nI (h + 1))]) (rest := []) (b := (w + 15007)) (c_X7_send A P gl w i ((nAc (gN σ2 i)).getD k 0) 9 t (h + 1) (by omega) (by omega) (by omega) (by omega) (by omega) hVl hWl) hVl rfl rfl Y_X7_send u_523 N_X7_send ⟨by decide, by decide⟩ ⟨by decide, by decide⟩ (Nat.le_of_ble_eq_true rfl) rfl dX7_hear_58 ?_
            rintro _ _ _ g_15 ⟨rfl, rfl, rfl, hW_16, hf_17⟩
            have hf_18 : Fr gl g_15 (w + 3) (w + 3500) := FrR.fr hf_17
            have h_19 := hf_18.at (by omega) hVl
            obtain ⟨σ20, hσ20⟩ : ∃ sM : Sg, sM = snd σ2 i ((nAc (gN σ2 i)).getD k 0) 9 t (h + 1) [] := ⟨_, rfl⟩
            have hW_21 : WD A g_15 w (w + 15005) σ20 := by rw [hσ20]; exact hW_16
            clear hW_16
            have hK_σ20 : gK σ20 = gK σ := (congrArg gK hσ20).trans (snd_K.trans hK2)
            have hT_σ20 : gT σ20 = gT σ := (congrArg gT hσ20).trans (snd_T.trans hT2)
            have hZ_σ20 : gZ σ20 = gZ σ := (congrArg gZ hσ20).trans (snd_Z.trans hZ2)
            show V K 0 0 P A g_15 [(0, .ref (A (w + 15007))), (1, .ref (A (w + 100 + 100 * i))), (2, .int (nI t)), (3, .int (nI h)), (4, .int (onv s)), (5, .int (nI k)), (6, .int (nI ((nAc (gN σ2 i)).getD k 0)))] 61 []
            refine g_iinc (pc := 61) C dX7_hear_61 (by decide) 5 rfl (v := nI (k + 1)) (nI_i1 _) (lv' := [(0, .ref (A (w + 15007))), (1, .ref (A (w + 100 + 100 * i))), (2, .int (nI t)), (3, .int (nI h)), (4, .int (onv s)), (5, .int (nI (k + 1))), (6, .int (nI ((nAc (gN σ2 i)).getD k 0)))]) [1, 2, 3, 4, 5, 0, 6] rfl ?_
            refine g_goto (pc := 64) C dX7_hear_64 (tgt := 9) (by decide) ?_
            refine g_sub [0, 1, 2, 3, 4, 5] rfl ?_
            exact ih (k + 1) (by omega) σ20 (by rw [hσ20, hN, he]; exact ((tfE_s (show k < (nAc (gN σ1 i)).length by omega)).trans (if_neg (by rw [← hN]; exact fun e => by rcases e with e | e; exact c_36 ((wof_n hs16 hq16).mpr e); exact absurd e (by rw [b32_yes c_45]; decide)))).symm) (by rw [hσ20, snd_N]; exact hN) (by rw [hσ20]; exact SW.sent hS2 (by omega) (by omega) (lw_t (by omega) (by omega) (by omega) (by omega) (Or.inl ⟨rfl, by omega⟩))) hK_σ20 hT_σ20 hZ_σ20 _ h_19 hW_21 (hf.tr (fun k hk => by rw [hf_17 k (by omega)])) (by omega)
  exact lp_9 (_ + 1) 0 (Nat.zero_le _) σ1 rfl rfl hS1 hK_σ6 hT_σ6 hZ_σ6 _ h_5 hW_7 (fun k hk => by rw [hf_3 k (by omega)]) (Nat.lt_succ_self _)
abbrev rm_X7_onTell : Room := { frames := 5, cells := 0, slots := 0, locals := 122 }
theorem Y_X7_onTell : pY yX7_onTell cX7_onTell 5 (Option.none : Option Jvm.ClassFile.FieldType) := ⟨u_665, u_666, u_12, u_667⟩
theorem N_X7_onTell : yX7_onTell.cls ≠ "java/lang/invoke/MethodHandle" ∧ yX7_onTell.cls ≠ "java/lang/invoke/VarHandle" ∧ (parseMethodDescriptor yX7_onTell.desc).map (fun d => d.parameters.length) = some 4 := by decide +kernel
set_option maxRecDepth 20000 in
set_option maxHeartbeats 4000000 in
theorem c_X7_onTell (A : Nat → Nat) (P : List Nat) (g : pM) (w : Nat) {B : Nat} {cs : List Nat} {σ : Sg} (i s t y : Nat) (hi : i < gK σ) (hs : s < gK σ) (ht : t < gT σ) (hy : y ≤ B + 1) (hB2 : B + 1 < 2 ^ 30) (hS : SW B cs σ) (hV : g (w + 15007) = ob 7 [.ref (A w)]) (hW : WD A g w (w + 15005) σ) : PM yX7_onTell cX7_onTell 5 (Option.none : Option Jvm.ClassFile.FieldType) rm_X7_onTell [.ref (A (w + 15007)), .ref (A (w + 100 + 100 * i)), .int (nI s), .int (nI t), .int (nI y)] P A g (fun v g' => v = none ∧ WD A g' w (w + 15005) (tel σ i s t y) ∧ FrV g g' w) := by
  have hK := hS.2.1
  obtain ⟨hz1, hz2, hz3, hz4, hz5, hz6, hz7, hz8, hz9⟩ := hS.2.2.2.1
  have hw0 : ndW (gN σ i) := hS.dw hi
  have ht24 := hS.2.2.1
  refine px_intro (by decide +kernel) (Nat.le_of_ble_eq_true rfl) (fun K sz C R => ?_)
  show V K 0 0 P A g [(0, .ref (A (w + 15007))), (1, .ref (A (w + 100 + 100 * i))), (2, .int (nI s)), (3, .int (nI t)), (4, .int (nI y))] 0 []
  refine g_aload_n (pc := 0) C dX7_onTell_0 1 rfl ?_
  refine g_get (pc := 1) C (j := 2) (WD.nd (i := i) hW (by omega)).1 rfl rfl (by decide) u_138 dX7_onTell_1 ?_
  refine g_iload_n (pc := 4) C dX7_onTell_4 2 rfl ?_
  refine g_callV (pc := 5) C (As := [.int (nI s)]) (rest := []) (b := (w + 100 + 100 * i + 1)) (n_X4_has A P g (w + 100 + 100 * i + 1) s (by omega) (WD.nd (i := i) hW (by omega)).2.1) (NLN.o (WD.nd (i := i) hW (by omega)).2.1) rfl rfl Y_X4_has u_668 N_X4_has ⟨by decide, by decide⟩ ⟨by decide, by decide⟩ (Nat.le_of_ble_eq_true rfl) rfl dX7_onTell_5 ?_
  rintro _ _ _ _ ⟨rfl, rfl, rfl, rfl⟩
  show V K 0 0 P A g [(0, .ref (A (w + 15007))), (1, .ref (A (w + 100 + 100 * i))), (2, .int (nI s)), (3, .int (nI t)), (4, .int (nI y))] 8 [.int (b32 (decide (s ∈ nAc (gN σ i))))]
  refine g_if_ne (pc := 8) C dX7_onTell_8 (tgt := 12) (by decide) (fun c_8 => ?_) (fun c_8 => ?_)
  ·
    have c_8 := of_decide_eq_true (b32_no c_8)
    refine g_aload_n (pc := 12) C dX7_onTell_12 1 rfl ?_
    refine g_iload_n (pc := 13) C dX7_onTell_13 3 rfl ?_
    refine g_callV (pc := 14) C (As := [.int (nI t)]) (rest := []) (b := (w + 100 + 100 * i)) (c_X3_knows A P g (w + 100 + 100 * i) t (by omega) (by assumption) (WD.nd (i := i) hW (by omega))) (WD.nd (i := i) hW (by omega)).1 rfl rfl Y_X3_knows u_669 N_X3_knows ⟨by decide, by decide⟩ ⟨by decide, by decide⟩ (Nat.le_of_ble_eq_true rfl) rfl dX7_onTell_14 ?_
    rintro _ _ _ _ ⟨rfl, rfl, rfl, rfl⟩
    show V K 0 0 P A g [(0, .ref (A (w + 15007))), (1, .ref (A (w + 100 + 100 * i))), (2, .int (nI s)), (3, .int (nI t)), (4, .int (nI y))] 17 [.int (b32 (nHo (gN σ i) t).isSome)]
    refine g_if_eq (pc := 17) C dX7_onTell_17 (tgt := 38) (by decide) (fun c_17 => ?_) (fun c_17 => ?_)
    ·
      refine g_aload_n (pc := 38) C dX7_onTell_38 1 rfl ?_
      refine g_iload_n (pc := 39) C dX7_onTell_39 2 rfl ?_
      refine g_callV (pc := 40) C (As := [.int (nI s)]) (rest := []) (b := (w + 100 + 100 * i)) (c_X3_makeEager A P g (w + 100 + 100 * i) s (by omega) (by assumption) (WD.nd (i := i) hW (by omega))) (WD.nd (i := i) hW (by omega)).1 rfl rfl Y_X3_makeEager u_551 N_X3_makeEager ⟨by decide, by decide⟩ ⟨by decide, by decide⟩ (Nat.le_of_ble_eq_true rfl) rfl dX7_onTell_40 ?_
      rintro _ _ _ g_1 ⟨rfl, rfl, rfl, hn_2, hf_3⟩
      have hW_4 := WD.sn (i := i) hW (by omega) (hf_3.mo (by omega) (by omega)) hn_2
      have h_5 := hf_3.at (by omega) hV
      obtain ⟨σ6, hσ6⟩ : ∃ sM : Sg, sM = sNd σ i (sLz (gN σ i) (bo (nLz (gN σ i)) s)) := ⟨_, rfl⟩
      have hW_7 : WD A g_1 w (w + 15005) σ6 := by rw [hσ6]; exact hW_4
      clear hW_4
      have hK_σ6 : gK σ6 = gK σ := (congrArg gK hσ6).trans (rfl : gK σ = gK σ)
      have hT_σ6 : gT σ6 = gT σ := (congrArg gT hσ6).trans (rfl : gT σ = gT σ)
      have hZ_σ6 : gZ σ6 = gZ σ := (congrArg gZ hσ6).trans (rfl : gZ σ = gZ σ)
      show V K 0 0 P A g_1 [(0, .ref (A (w + 15007))), (1, .ref (A (w + 100 + 100 * i))), (2, .int (nI s)), (3, .int (nI t)), (4, .int (nI y))] 43 []
      have hS8 : SW (B + 1) cs σ6 := by rw [hσ6]; exact SW.up (SW.egS hS hi) (Nat.le_add_right B 1) (by omega)
      refine g_aload_n (pc := 43) C dX7_onTell_43 0 rfl ?_
      refine g_aload_n (pc := 44) C dX7_onTell_44 1 rfl ?_
      refine g_iload_n (pc := 45) C dX7_onTell_45 3 rfl ?_
      refine g_iload (pc := 46) C dX7_onTell_46 4 rfl ?_
      refine g_iload_n (pc := 48) C dX7_onTell_48 2 rfl ?_
      refine g_callV (pc := 49) C (As := [.ref (A (w + 100 + 100 * i)), .int (nI t), .int (nI y), .int (nI s)]) (rest := []) (b := (w + 15007)) (c_X7_hear A P g_1 w i t y (some s) (by omega) (by omega) (by omega) (fun x hx => by cases hx <;> omega) hS8 h_5 hW_7) h_5 rfl rfl Y_X7_hear u_681 N_X7_hear ⟨by decide, by decide⟩ ⟨by decide, by decide⟩ (Nat.le_of_ble_eq_true rfl) rfl dX7_onTell_49 ?_
      rintro _ _ _ g_9 ⟨rfl, rfl, rfl, hw_10, hf_11⟩
      have h_12 := (hf_11 (w + 15007) (by omega)).trans h_5
      obtain ⟨σ13, hσ13⟩ : ∃ sM : Sg, sM = her σ6 i t y (some s) := ⟨_, rfl⟩
      have hW_14 : WD A g_9 w (w + 15005) σ13 := by rw [hσ13]; exact hw_10
      clear hw_10
      have hK_σ13 : gK σ13 = gK σ := (congrArg gK hσ13).trans (her_K.trans hK_σ6)
      have hT_σ13 : gT σ13 = gT σ := (congrArg gT hσ13).trans (her_T.trans hT_σ6)
      have hZ_σ13 : gZ σ13 = gZ σ := (congrArg gZ hσ13).trans (her_Z.trans hZ_σ6)
      show V K 0 0 P A g_9 [(0, .ref (A (w + 15007))), (1, .ref (A (w + 100 + 100 * i))), (2, .int (nI s)), (3, .int (nI t)), (4, .int (nI y))] 52 []
      exact g_vret (pc := 52) C R ⟨rfl, rfl, rfl, by rw [show tel σ i s t y = σ13 from by rw [hσ13, hσ6]; exact (if_neg (fun e => e c_8)).trans (if_neg (by rw [b32_yes c_17]; decide))]; exact hW_14, fun k hk => by rw [hf_11 k (by omega), hf_3 k (by omega)]⟩ (by decide) (by decide) dX7_onTell_52
    ·
      refine g_aload_n (pc := 20) C dX7_onTell_20 1 rfl ?_
      refine g_iload_n (pc := 21) C dX7_onTell_21 2 rfl ?_
      refine g_callV (pc := 22) C (As := [.int (nI s)]) (rest := []) (b := (w + 100 + 100 * i)) (c_X3_makeLazy A P g (w + 100 + 100 * i) s (by omega) (WD.nd (i := i) hW (by omega))) (WD.nd (i := i) hW (by omega)).1 rfl rfl Y_X3_makeLazy u_677 N_X3_makeLazy ⟨by decide, by decide⟩ ⟨by decide, by decide⟩ (Nat.le_of_ble_eq_true rfl) rfl dX7_onTell_22 ?_
      rintro _ _ _ g_15 ⟨rfl, rfl, rfl, hn_16, hf_17⟩
      have hW_18 := WD.sn (i := i) hW (by omega) (hf_17.mo (by omega) (by omega)) hn_16
      have h_19 := hf_17.at (by omega) hV
      obtain ⟨σ20, hσ20⟩ : ∃ sM : Sg, sM = sNd σ i (sLz (gN σ i) (nLz (gN σ i) ||| 2 ^ s)) := ⟨_, rfl⟩
      have hW_21 : WD A g_15 w (w + 15005) σ20 := by rw [hσ20]; exact hW_18
      clear hW_18
      have hK_σ20 : gK σ20 = gK σ := (congrArg gK hσ20).trans (rfl : gK σ = gK σ)
      have hT_σ20 : gT σ20 = gT σ := (congrArg gT hσ20).trans (rfl : gT σ = gT σ)
      have hZ_σ20 : gZ σ20 = gZ σ := (congrArg gZ hσ20).trans (rfl : gZ σ = gZ σ)
      show V K 0 0 P A g_15 [(0, .ref (A (w + 15007))), (1, .ref (A (w + 100 + 100 * i))), (2, .int (nI s)), (3, .int (nI t)), (4, .int (nI y))] 25 []
      refine g_aload_n (pc := 25) C dX7_onTell_25 0 rfl ?_
      refine g_aload_n (pc := 26) C dX7_onTell_26 1 rfl ?_
      refine g_iload_n (pc := 27) C dX7_onTell_27 2 rfl ?_
      refine g_bipush (pc := 28) C dX7_onTell_28 (v := nI 11) rfl ?_
      refine g_iconst (pc := 30) C dX7_onTell_30 (v := nI 0) rfl ?_
      refine g_iconst (pc := 31) C dX7_onTell_31 (v := nI 0) rfl ?_
      refine g_callV (pc := 32) C (As := [.ref (A (w + 100 + 100 * i)), .int (nI s), .int (nI 11), .int (nI 0), .int (nI 0)]) (rest := []) (b := (w + 15007)) (c_X7_send A P g_15 w i s 11 0 0 (by omega) (by omega) (by omega) (by omega) (by omega) h_19 hW_21) h_19 rfl rfl Y_X7_send u_523 N_X7_send ⟨by decide, by decide⟩ ⟨by decide, by decide⟩ (Nat.le_of_ble_eq_true rfl) rfl dX7_onTell_32 ?_
      rintro _ _ _ g_22 ⟨rfl, rfl, rfl, hW_23, hf_24⟩
      have hf_25 : Fr g_15 g_22 (w + 3) (w + 3500) := FrR.fr hf_24
      have h_26 := hf_25.at (by omega) h_19
      obtain ⟨σ27, hσ27⟩ : ∃ sM : Sg, sM = snd σ20 i s 11 0 0 [] := ⟨_, rfl⟩
      have hW_28 : WD A g_22 w (w + 15005) σ27 := by rw [hσ27]; exact hW_23
      clear hW_23
      have hK_σ27 : gK σ27 = gK σ := (congrArg gK hσ27).trans (snd_K.trans hK_σ20)
      have hT_σ27 : gT σ27 = gT σ := (congrArg gT hσ27).trans (snd_T.trans hT_σ20)
      have hZ_σ27 : gZ σ27 = gZ σ := (congrArg gZ hσ27).trans (snd_Z.trans hZ_σ20)
      show V K 0 0 P A g_22 [(0, .ref (A (w + 15007))), (1, .ref (A (w + 100 + 100 * i))), (2, .int (nI s)), (3, .int (nI t)), (4, .int (nI y))] 35 []
      refine g_goto (pc := 35) C dX7_onTell_35 (tgt := 52) (by decide) ?_
      exact g_vret (pc := 52) C R ⟨rfl, rfl, rfl, by rw [show tel σ i s t y = σ27 from by rw [hσ27, hσ20]; exact (if_neg (fun e => e c_8)).trans (if_pos (b32_no c_17))]; exact hW_28, fun k hk => by rw [hf_24 k (by omega), hf_17 k (by omega)]⟩ (by decide) (by decide) dX7_onTell_52
  ·
    have c_8 := of_decide_eq_false (b32_yes c_8)
    exact g_vret (pc := 11) C R ⟨rfl, rfl, rfl, by rw [show tel σ i s t y = σ from if_pos c_8]; exact hW, FrV.rf⟩ (by decide) (by decide) dX7_onTell_11
abbrev rm_X7_onNote : Room := { frames := 2, cells := 0, slots := 0, locals := 43 }
theorem Y_X7_onNote : pY yX7_onNote cX7_onNote 5 (Option.none : Option Jvm.ClassFile.FieldType) := ⟨u_683, u_684, u_12, u_685⟩
theorem N_X7_onNote : yX7_onNote.cls ≠ "java/lang/invoke/MethodHandle" ∧ yX7_onNote.cls ≠ "java/lang/invoke/VarHandle" ∧ (parseMethodDescriptor yX7_onNote.desc).map (fun d => d.parameters.length) = some 3 := by decide +kernel
set_option maxRecDepth 20000 in
set_option maxHeartbeats 4000000 in
theorem c_X7_onNote (A : Nat → Nat) (P : List Nat) (g : pM) (w : Nat) {B : Nat} {cs : List Nat} {σ : Sg} (i s t : Nat) (hi : i < gK σ) (hs : s < gK σ) (ht : t < gT σ) (hS : SW B cs σ) (hV : g (w + 15007) = ob 7 [.ref (A w)]) (hW : WD A g w (w + 15005) σ) : PM yX7_onNote cX7_onNote 5 (Option.none : Option Jvm.ClassFile.FieldType) rm_X7_onNote [.ref (A (w + 15007)), .ref (A (w + 100 + 100 * i)), .int (nI s), .int (nI t)] P A g (fun v g' => v = none ∧ WD A g' w (w + 15005) (nto σ i s t) ∧ FrV g g' w) := by
  have hK := hS.2.1
  obtain ⟨hz1, hz2, hz3, hz4, hz5, hz6, hz7, hz8, hz9⟩ := hS.2.2.2.1
  have hw0 : ndW (gN σ i) := hS.dw hi
  have ht24 := hS.2.2.1
  have hml := ((hW.nd hi).2.2.2.2.2 t (by omega)).2
  refine px_intro (by decide +kernel) (Nat.le_of_ble_eq_true rfl) (fun K sz C R => ?_)
  show V K 0 0 P A g [(0, .ref (A (w + 15007))), (1, .ref (A (w + 100 + 100 * i))), (2, .int (nI s)), (3, .int (nI t))] 0 []
  refine g_aload_n (pc := 0) C dX7_onNote_0 1 rfl ?_
  refine g_get (pc := 1) C (j := 2) (WD.nd (i := i) hW (by omega)).1 rfl rfl (by decide) u_138 dX7_onNote_1 ?_
  refine g_iload_n (pc := 4) C dX7_onNote_4 2 rfl ?_
  refine g_callV (pc := 5) C (As := [.int (nI s)]) (rest := []) (b := (w + 100 + 100 * i + 1)) (n_X4_has A P g (w + 100 + 100 * i + 1) s (by omega) (WD.nd (i := i) hW (by omega)).2.1) (NLN.o (WD.nd (i := i) hW (by omega)).2.1) rfl rfl Y_X4_has u_668 N_X4_has ⟨by decide, by decide⟩ ⟨by decide, by decide⟩ (Nat.le_of_ble_eq_true rfl) rfl dX7_onNote_5 ?_
  rintro _ _ _ _ ⟨rfl, rfl, rfl, rfl⟩
  show V K 0 0 P A g [(0, .ref (A (w + 15007))), (1, .ref (A (w + 100 + 100 * i))), (2, .int (nI s)), (3, .int (nI t))] 8 [.int (b32 (decide (s ∈ nAc (gN σ i))))]
  refine g_if_eq (pc := 8) C dX7_onNote_8 (tgt := 19) (by decide) (fun c_8 => ?_) (fun c_8 => ?_)
  ·
    have c_8 := of_decide_eq_false (b32_yes c_8)
    exact g_vret (pc := 19) C R ⟨rfl, rfl, rfl, by rw [show nto σ i s t = σ from if_pos (Or.inl c_8)]; exact hW, FrV.rf⟩ (by decide) (by decide) dX7_onNote_19
  ·
    have c_8 := of_decide_eq_true (b32_no c_8)
    refine g_aload_n (pc := 11) C dX7_onNote_11 1 rfl ?_
    refine g_iload_n (pc := 12) C dX7_onNote_12 3 rfl ?_
    refine g_callV (pc := 13) C (As := [.int (nI t)]) (rest := []) (b := (w + 100 + 100 * i)) (c_X3_knows A P g (w + 100 + 100 * i) t (by omega) (by assumption) (WD.nd (i := i) hW (by omega))) (WD.nd (i := i) hW (by omega)).1 rfl rfl Y_X3_knows u_669 N_X3_knows ⟨by decide, by decide⟩ ⟨by decide, by decide⟩ (Nat.le_of_ble_eq_true rfl) rfl dX7_onNote_13 ?_
    rintro _ _ _ _ ⟨rfl, rfl, rfl, rfl⟩
    show V K 0 0 P A g [(0, .ref (A (w + 15007))), (1, .ref (A (w + 100 + 100 * i))), (2, .int (nI s)), (3, .int (nI t))] 16 [.int (b32 (nHo (gN σ i) t).isSome)]
    refine g_if_eq (pc := 16) C dX7_onNote_16 (tgt := 20) (by decide) (fun c_16 => ?_) (fun c_16 => ?_)
    ·
      refine g_aload_n (pc := 20) C dX7_onNote_20 1 rfl ?_
      refine g_iload_n (pc := 21) C dX7_onNote_21 3 rfl ?_
      refine g_callV (pc := 22) C (As := [.int (nI t)]) (rest := []) (b := (w + 100 + 100 * i)) (c_X3_missOf A P g (w + 100 + 100 * i) t (by omega) (WD.nd (i := i) hW (by omega))) (WD.nd (i := i) hW (by omega)).1 rfl rfl Y_X3_missOf u_541 N_X3_missOf ⟨by decide, by decide⟩ ⟨by decide, by decide⟩ (Nat.le_of_ble_eq_true rfl) rfl dX7_onNote_22 ?_
      rintro _ _ _ _ ⟨rfl, rfl, rfl, rfl⟩
      show V K 0 0 P A g [(0, .ref (A (w + 15007))), (1, .ref (A (w + 100 + 100 * i))), (2, .int (nI s)), (3, .int (nI t))] 25 [.ref (A (w + 100 + 100 * i + 10 + 3 * t))]
      refine g_astore (pc := 25) C dX7_onNote_25 (by decide) (lv' := [(0, .ref (A (w + 15007))), (1, .ref (A (w + 100 + 100 * i))), (2, .int (nI s)), (3, .int (nI t)), (4, .ref (A (w + 100 + 100 * i + 10 + 3 * t)))]) [1, 2, 3, 4, 0] rfl ?_
      refine g_aload (pc := 27) C dX7_onNote_27 4 rfl ?_
      refine g_get (pc := 29) C (j := 0) ((WD.nd (i := i) hW (by omega)).2.2.2.2.2 t (by omega)).1 rfl rfl (by decide) u_114 dX7_onNote_29 ?_
      refine g_if_ne (pc := 32) C dX7_onNote_32 (tgt := 64) (by decide) (fun c_32 => ?_) (fun c_32 => ?_)
      ·
        obtain ⟨p0, hp0⟩ := miO_some c_32
        refine g_aload (pc := 64) C dX7_onNote_64 4 rfl ?_
        refine g_get (pc := 66) C (j := 2) ((WD.nd (i := i) hW (by omega)).2.2.2.2.2 t (by omega)).1 rfl rfl (by decide) u_119 dX7_onNote_66 ?_
        refine g_iload_n (pc := 69) C dX7_onNote_69 2 rfl ?_
        refine g_callV (pc := 70) C (As := [.int (nI s)]) (rest := []) (b := (w + 100 + 100 * i + 10 + 3 * t + 1)) (n_X4_has A P g (w + 100 + 100 * i + 10 + 3 * t + 1) s (by omega) hml) (NLN.o hml) rfl rfl Y_X4_has u_668 N_X4_has ⟨by decide, by decide⟩ ⟨by decide, by decide⟩ (Nat.le_of_ble_eq_true rfl) rfl dX7_onNote_70 ?_
        rintro _ _ _ _ ⟨rfl, rfl, rfl, rfl⟩
        show V K 0 0 P A g [(0, .ref (A (w + 15007))), (1, .ref (A (w + 100 + 100 * i))), (2, .int (nI s)), (3, .int (nI t)), (4, .ref (A (w + 100 + 100 * i + 10 + 3 * t)))] 73 [.int (b32 (decide (s ∈ miL (nMi (gN σ i) t))))]
        refine g_if_ne (pc := 73) C dX7_onNote_73 (tgt := 85) (by decide) (fun c_73 => ?_) (fun c_73 => ?_)
        ·
          have hnt : ntm σ (nMi (gN σ i) t) s = some (p0.1, p0.2) := by rw [hp0]; exact congrArg (fun l => some (p0.1, l)) (show (if s ∈ p0.2 then p0.2 else p0.2 ++ [s]) = p0.2 from if_pos (by have e := of_decide_eq_true (b32_no c_73); rw [hp0] at e; exact e))
          have hO2 : g (w + 100 + 100 * i + 10 + 3 * t) = ob 2 [.int (miO (some (p0.1, p0.2))), .int (miH (some (p0.1, p0.2))), .ref (A (w + 100 + 100 * i + 10 + 3 * t + 1))] := by have e := ((WD.nd (i := i) hW (by omega)).2.2.2.2.2 t (by omega)).1; rw [hp0] at e; exact e
          have hl2 : NLN A g (w + 100 + 100 * i + 10 + 3 * t + 1) 5 (miL (some (p0.1, p0.2))) := by have e := hml; rw [hp0] at e; exact e
          have hf2 : Fr g g (w + 100 + 100 * i + 10 + 3 * t) (w + 100 + 100 * i + 10 + 3 * t + 3) := fun k hk => rfl
          have hW2 := nt_end (some (p0.1, p0.2)) hW hi (by omega) hf2 hO2 hl2
          exact g_vret (pc := 85) C R ⟨rfl, rfl, rfl, by rw [show nto σ i s t = _ from if_neg (fun e => by rcases e with e | e; exact e c_8; rw [b32_yes c_16] at e; cases e), hnt]; exact hW2, fun k hk => hf2 k (by omega)⟩ (by decide) (by decide) dX7_onNote_85
        ·
          refine g_aload (pc := 76) C dX7_onNote_76 4 rfl ?_
          refine g_get (pc := 78) C (j := 2) ((WD.nd (i := i) hW (by omega)).2.2.2.2.2 t (by omega)).1 rfl rfl (by decide) u_119 dX7_onNote_78 ?_
          refine g_iload_n (pc := 81) C dX7_onNote_81 2 rfl ?_
          refine g_callV (pc := 82) C (As := [.int (nI s)]) (rest := []) (b := (w + 100 + 100 * i + 10 + 3 * t + 1)) (n_X4_put A P g (w + 100 + 100 * i + 10 + 3 * t + 1) s (by omega) hml (mi_room hS hi c_8 (of_decide_eq_false (b32_yes c_73)))) (NLN.o hml) rfl rfl Y_X4_put u_686 N_X4_put ⟨by decide, by decide⟩ ⟨by decide, by decide⟩ (Nat.le_of_ble_eq_true rfl) rfl dX7_onNote_82 ?_
          rintro _ _ _ g_1 ⟨rfl, rfl, rfl, hn_2, hf_3⟩
          have h_4 := hf_3.at (by omega) hV
          have h_5 := hf_3.at (by omega) (WD.wb hW).1
          have h_6 := hf_3.at (by omega) (show g (w + 1) = ob 6 _ from hW.2.1)
          have h_7 := hf_3.at (by omega) ((WD.nd (i := i) hW (by omega)).2.2.2.2.2 t (by omega)).1
          show V K 0 0 P A g_1 [(0, .ref (A (w + 15007))), (1, .ref (A (w + 100 + 100 * i))), (2, .int (nI s)), (3, .int (nI t)), (4, .ref (A (w + 100 + 100 * i + 10 + 3 * t)))] 85 []
          have hnt : ntm σ (nMi (gN σ i) t) s = some (p0.1, p0.2 ++ [s]) := by rw [hp0]; exact congrArg (fun l => some (p0.1, l)) (show (if s ∈ p0.2 then p0.2 else p0.2 ++ [s]) = p0.2 ++ [s] from if_neg (by have e := of_decide_eq_false (b32_yes c_73); rw [hp0] at e; exact e))
          have hO2 : g_1 (w + 100 + 100 * i + 10 + 3 * t) = ob 2 [.int (miO (some (p0.1, p0.2 ++ [s]))), .int (miH (some (p0.1, p0.2 ++ [s]))), .ref (A (w + 100 + 100 * i + 10 + 3 * t + 1))] := by have e := h_7; rw [hp0] at e; exact e
          have hl2 : NLN A g_1 (w + 100 + 100 * i + 10 + 3 * t + 1) 5 (miL (some (p0.1, p0.2 ++ [s]))) := by have e := hn_2; rw [hp0] at e; exact e
          have hf2 : Fr g g_1 (w + 100 + 100 * i + 10 + 3 * t) (w + 100 + 100 * i + 10 + 3 * t + 3) := fun k hk => by rw [hf_3 k (by omega)]
          have hW2 := nt_end (some (p0.1, p0.2 ++ [s])) hW hi (by omega) hf2 hO2 hl2
          exact g_vret (pc := 85) C R ⟨rfl, rfl, rfl, by rw [show nto σ i s t = _ from if_neg (fun e => by rcases e with e | e; exact e c_8; rw [b32_yes c_16] at e; cases e), hnt]; exact hW2, fun k hk => hf2 k (by omega)⟩ (by decide) (by decide) dX7_onNote_85
      ·
        have hp0 := miO_none (by simpa using c_32)
        refine g_aload (pc := 35) C dX7_onNote_35 4 rfl ?_
        refine g_iconst (pc := 37) C dX7_onNote_37 (v := nI 1) rfl ?_
        refine g_put (pc := 38) C (j := 0) ((WD.nd (i := i) hW (by omega)).2.2.2.2.2 t (by omega)).1 rfl (by decide) (Nat.le_of_ble_eq_true rfl) u_114 rfl pfd_Z rfl rfl dX7_onNote_38 ?_
        obtain ⟨g_8, hg_8⟩ : ∃ yM : pM, yM = va_up g (w + 100 + 100 * i + 10 + 3 * t) (ob 2 [.int (nI 1), .int (miH (nMi (gN σ i) t)), .ref (A (w + 100 + 100 * i + 10 + 3 * t + 1))]) := ⟨_, rfl⟩
        show V K 0 0 P A (va_up g (w + 100 + 100 * i + 10 + 3 * t) (ob 2 [.int (nI 1), .int (miH (nMi (gN σ i) t)), .ref (A (w + 100 + 100 * i + 10 + 3 * t + 1))])) [(0, .ref (A (w + 15007))), (1, .ref (A (w + 100 + 100 * i))), (2, .int (nI s)), (3, .int (nI t)), (4, .ref (A (w + 100 + 100 * i + 10 + 3 * t)))] 41 []
        rw [← hg_8]
        have h_9 : g_8 (w + 15007) = ob 7 [.ref (A w)] := by rw [hg_8, va_up_ne _ _ (show w + 15007 ≠ w + 100 + 100 * i + 10 + 3 * t from by omega)]; exact hV
        have h_10 : g_8 w = ob 9 [.ref (A (w + 15005)), .ref (A (w + 1)), .ref (A (w + 2)), .ref (A (w + 1700)), .ref (A (w + 3)), .ref (A (w + 6)), .ref (A (w + 5)), .int (nI (gK σ)), .int (nI (gT σ)), .int (gTi σ), .int (nI (gX σ))] := by rw [hg_8, va_up_ne _ _ (show w ≠ w + 100 + 100 * i + 10 + 3 * t from by omega)]; exact (WD.wb hW).1
        have h_11 : g_8 (w + 1) = ob 6 [.int (nI (gZ σ).1), .int (nI (gZ σ).2.1), .int (nI (gZ σ).2.2.1), .int (nI (gZ σ).2.2.2.1), .int (nI (gZ σ).2.2.2.2)] := by rw [hg_8, va_up_ne _ _ (show w + 1 ≠ w + 100 + 100 * i + 10 + 3 * t from by omega)]; exact (show g (w + 1) = ob 6 _ from hW.2.1)
        have h_12 : g_8 (w + 100 + 100 * i + 10 + 3 * t) = ob 2 [.int (nI 1), .int (miH (nMi (gN σ i) t)), .ref (A (w + 100 + 100 * i + 10 + 3 * t + 1))] := by rw [hg_8]; exact va_up_self _ _ _
        have hf_13 : Fr g g_8 (w + 100 + 100 * i + 10 + 3 * t) (w + 100 + 100 * i + 10 + 3 * t + 1) := by rw [hg_8]; exact Fr.up (by omega) (by omega)
        have hp_14 := NLN.fr hml hf_13 (by omega)
        refine g_aload (pc := 41) C dX7_onNote_41 4 rfl ?_
        refine g_aload_n (pc := 43) C dX7_onNote_43 0 rfl ?_
        refine g_get (pc := 44) C (j := 0) h_9 rfl rfl (by decide) u_319 dX7_onNote_44 ?_
        refine g_get (pc := 47) C (j := 9) h_10 rfl rfl (by decide) u_265 dX7_onNote_47 ?_
        refine g_aload_n (pc := 50) C dX7_onNote_50 0 rfl ?_
        refine g_get (pc := 51) C (j := 0) h_9 rfl rfl (by decide) u_319 dX7_onNote_51 ?_
        refine g_get (pc := 54) C (j := 1) h_10 rfl rfl (by decide) u_250 dX7_onNote_54 ?_
        refine g_get (pc := 57) C (j := 4) h_11 rfl rfl (by decide) u_65 dX7_onNote_57 ?_
        refine g_iadd (pc := 60) C dX7_onNote_60 (z := (gTi σ) + (nI (gZ σ).2.2.2.2)) rfl ?_
        refine g_put (pc := 61) C (j := 1) h_12 rfl (by decide) (Nat.le_of_ble_eq_true rfl) u_117 rfl pfd_I rfl rfl dX7_onNote_61 ?_
        obtain ⟨g_15, hg_15⟩ : ∃ yM : pM, yM = va_up g_8 (w + 100 + 100 * i + 10 + 3 * t) (ob 2 [.int (nI 1), .int ((gTi σ) + (nI (gZ σ).2.2.2.2)), .ref (A (w + 100 + 100 * i + 10 + 3 * t + 1))]) := ⟨_, rfl⟩
        show V K 0 0 P A (va_up g_8 (w + 100 + 100 * i + 10 + 3 * t) (ob 2 [.int (nI 1), .int ((gTi σ) + (nI (gZ σ).2.2.2.2)), .ref (A (w + 100 + 100 * i + 10 + 3 * t + 1))])) [(0, .ref (A (w + 15007))), (1, .ref (A (w + 100 + 100 * i))), (2, .int (nI s)), (3, .int (nI t)), (4, .ref (A (w + 100 + 100 * i + 10 + 3 * t)))] 64 []
        rw [← hg_15]
        have h_16 : g_15 (w + 15007) = ob 7 [.ref (A w)] := by rw [hg_15, va_up_ne _ _ (show w + 15007 ≠ w + 100 + 100 * i + 10 + 3 * t from by omega)]; exact h_9
        have h_17 : g_15 w = ob 9 [.ref (A (w + 15005)), .ref (A (w + 1)), .ref (A (w + 2)), .ref (A (w + 1700)), .ref (A (w + 3)), .ref (A (w + 6)), .ref (A (w + 5)), .int (nI (gK σ)), .int (nI (gT σ)), .int (gTi σ), .int (nI (gX σ))] := by rw [hg_15, va_up_ne _ _ (show w ≠ w + 100 + 100 * i + 10 + 3 * t from by omega)]; exact h_10
        have h_18 : g_15 (w + 1) = ob 6 [.int (nI (gZ σ).1), .int (nI (gZ σ).2.1), .int (nI (gZ σ).2.2.1), .int (nI (gZ σ).2.2.2.1), .int (nI (gZ σ).2.2.2.2)] := by rw [hg_15, va_up_ne _ _ (show w + 1 ≠ w + 100 + 100 * i + 10 + 3 * t from by omega)]; exact h_11
        have h_19 : g_15 (w + 100 + 100 * i + 10 + 3 * t) = ob 2 [.int (nI 1), .int ((gTi σ) + (nI (gZ σ).2.2.2.2)), .ref (A (w + 100 + 100 * i + 10 + 3 * t + 1))] := by rw [hg_15]; exact va_up_self _ _ _
        have hf_20 : Fr g_8 g_15 (w + 100 + 100 * i + 10 + 3 * t) (w + 100 + 100 * i + 10 + 3 * t + 1) := by rw [hg_15]; exact Fr.up (by omega) (by omega)
        have hp_21 := NLN.fr hp_14 hf_20 (by omega)
        refine g_aload (pc := 64) C dX7_onNote_64 4 rfl ?_
        refine g_get (pc := 66) C (j := 2) h_19 rfl rfl (by decide) u_119 dX7_onNote_66 ?_
        refine g_iload_n (pc := 69) C dX7_onNote_69 2 rfl ?_
        refine g_callV (pc := 70) C (As := [.int (nI s)]) (rest := []) (b := (w + 100 + 100 * i + 10 + 3 * t + 1)) (n_X4_has A P g_15 (w + 100 + 100 * i + 10 + 3 * t + 1) s (by omega) hp_21) (NLN.o hp_21) rfl rfl Y_X4_has u_668 N_X4_has ⟨by decide, by decide⟩ ⟨by decide, by decide⟩ (Nat.le_of_ble_eq_true rfl) rfl dX7_onNote_70 ?_
        rintro _ _ _ _ ⟨rfl, rfl, rfl, rfl⟩
        show V K 0 0 P A g_15 [(0, .ref (A (w + 15007))), (1, .ref (A (w + 100 + 100 * i))), (2, .int (nI s)), (3, .int (nI t)), (4, .ref (A (w + 100 + 100 * i + 10 + 3 * t)))] 73 [.int (b32 (decide (s ∈ miL (nMi (gN σ i) t))))]
        refine g_if_ne (pc := 73) C dX7_onNote_73 (tgt := 85) (by decide) (fun c_73 => ?_) (fun c_73 => ?_)
        ·
          have e := of_decide_eq_true (b32_no c_73)
          rw [hp0] at e
          cases e
        ·
          refine g_aload (pc := 76) C dX7_onNote_76 4 rfl ?_
          refine g_get (pc := 78) C (j := 2) h_19 rfl rfl (by decide) u_119 dX7_onNote_78 ?_
          refine g_iload_n (pc := 81) C dX7_onNote_81 2 rfl ?_
          refine g_callV (pc := 82) C (As := [.int (nI s)]) (rest := []) (b := (w + 100 + 100 * i + 10 + 3 * t + 1)) (n_X4_put A P g_15 (w + 100 + 100 * i + 10 + 3 * t + 1) s (by omega) hp_21 (mi_room hS hi c_8 (of_decide_eq_false (b32_yes c_73)))) (NLN.o hp_21) rfl rfl Y_X4_put u_686 N_X4_put ⟨by decide, by decide⟩ ⟨by decide, by decide⟩ (Nat.le_of_ble_eq_true rfl) rfl dX7_onNote_82 ?_
          rintro _ _ _ g_22 ⟨rfl, rfl, rfl, hn_23, hf_24⟩
          have h_25 := hf_24.at (by omega) h_16
          have h_26 := hf_24.at (by omega) h_17
          have h_27 := hf_24.at (by omega) h_18
          have h_28 := hf_24.at (by omega) h_19
          show V K 0 0 P A g_22 [(0, .ref (A (w + 15007))), (1, .ref (A (w + 100 + 100 * i))), (2, .int (nI s)), (3, .int (nI t)), (4, .ref (A (w + 100 + 100 * i + 10 + 3 * t)))] 85 []
          have hnt : ntm σ (nMi (gN σ i) t) s = some (gTi σ + nI (gZ σ).2.2.2.2, [s]) := by rw [hp0]; rfl
          have hO2 : g_22 (w + 100 + 100 * i + 10 + 3 * t) = ob 2 [.int (miO (some (gTi σ + nI (gZ σ).2.2.2.2, [s]))), .int (miH (some (gTi σ + nI (gZ σ).2.2.2.2, [s]))), .ref (A (w + 100 + 100 * i + 10 + 3 * t + 1))] := h_28
          have hl2 : NLN A g_22 (w + 100 + 100 * i + 10 + 3 * t + 1) 5 (miL (some (gTi σ + nI (gZ σ).2.2.2.2, [s]))) := by have e := hn_23; rw [hp0] at e; exact e
          have hf2 : Fr g g_22 (w + 100 + 100 * i + 10 + 3 * t) (w + 100 + 100 * i + 10 + 3 * t + 3) := fun k hk => by rw [hf_24 k (by omega), hg_15, va_up_ne _ _ (by omega), hg_8, va_up_ne _ _ (by omega)]
          have hW2 := nt_end (some (gTi σ + nI (gZ σ).2.2.2.2, [s])) hW hi (by omega) hf2 hO2 hl2
          exact g_vret (pc := 85) C R ⟨rfl, rfl, rfl, by rw [show nto σ i s t = _ from if_neg (fun e => by rcases e with e | e; exact e c_8; rw [b32_yes c_16] at e; cases e), hnt]; exact hW2, fun k hk => hf2 k (by omega)⟩ (by decide) (by decide) dX7_onNote_85
    ·
      exact g_vret (pc := 19) C R ⟨rfl, rfl, rfl, by rw [show nto σ i s t = σ from if_pos (Or.inr (b32_no c_16))]; exact hW, FrV.rf⟩ (by decide) (by decide) dX7_onNote_19
abbrev rm_X7_onChoice : Room := { frames := 4, cells := 0, slots := 0, locals := 96 }
theorem Y_X7_onChoice : pY yX7_onChoice cX7_onChoice 5 (Option.none : Option Jvm.ClassFile.FieldType) := ⟨u_688, u_689, u_12, u_690⟩
theorem N_X7_onChoice : yX7_onChoice.cls ≠ "java/lang/invoke/MethodHandle" ∧ yX7_onChoice.cls ≠ "java/lang/invoke/VarHandle" ∧ (parseMethodDescriptor yX7_onChoice.desc).map (fun d => d.parameters.length) = some 4 := by decide +kernel
set_option maxRecDepth 20000 in
set_option maxHeartbeats 4000000 in
theorem c_X7_onChoice (A : Nat → Nat) (P : List Nat) (g : pM) (w : Nat) {B : Nat} {cs : List Nat} {σ : Sg} (i s t y : Nat) (hi : i < gK σ) (hs : s < gK σ) (ht : y ≠ 0 → t < gT σ) (hy : y < 2 ^ 31) (hS : SW B cs σ) (hV : g (w + 15007) = ob 7 [.ref (A w)]) (hW : WD A g w (w + 15005) σ) : PM yX7_onChoice cX7_onChoice 5 (Option.none : Option Jvm.ClassFile.FieldType) rm_X7_onChoice [.ref (A (w + 15007)), .ref (A (w + 100 + 100 * i)), .int (nI s), .int (nI t), .int (nI y)] P A g (fun v g' => v = none ∧ WD A g' w (w + 15005) (cho σ i s t y) ∧ FrV g g' w) := by
  have hK := hS.2.1
  obtain ⟨hz1, hz2, hz3, hz4, hz5, hz6, hz7, hz8, hz9⟩ := hS.2.2.2.1
  have hw0 : ndW (gN σ i) := hS.dw hi
  have ht24 := hS.2.2.1
  have hB := hS.1
  refine px_intro (by decide +kernel) (Nat.le_of_ble_eq_true rfl) (fun K sz C R => ?_)
  show V K 0 0 P A g [(0, .ref (A (w + 15007))), (1, .ref (A (w + 100 + 100 * i))), (2, .int (nI s)), (3, .int (nI t)), (4, .int (nI y))] 0 []
  refine g_aload_n (pc := 0) C dX7_onChoice_0 1 rfl ?_
  refine g_get (pc := 1) C (j := 2) (WD.nd (i := i) hW (by omega)).1 rfl rfl (by decide) u_138 dX7_onChoice_1 ?_
  refine g_iload_n (pc := 4) C dX7_onChoice_4 2 rfl ?_
  refine g_callV (pc := 5) C (As := [.int (nI s)]) (rest := []) (b := (w + 100 + 100 * i + 1)) (n_X4_has A P g (w + 100 + 100 * i + 1) s (by omega) (WD.nd (i := i) hW (by omega)).2.1) (NLN.o (WD.nd (i := i) hW (by omega)).2.1) rfl rfl Y_X4_has u_668 N_X4_has ⟨by decide, by decide⟩ ⟨by decide, by decide⟩ (Nat.le_of_ble_eq_true rfl) rfl dX7_onChoice_5 ?_
  rintro _ _ _ _ ⟨rfl, rfl, rfl, rfl⟩
  show V K 0 0 P A g [(0, .ref (A (w + 15007))), (1, .ref (A (w + 100 + 100 * i))), (2, .int (nI s)), (3, .int (nI t)), (4, .int (nI y))] 8 [.int (b32 (decide (s ∈ nAc (gN σ i))))]
  refine g_if_ne (pc := 8) C dX7_onChoice_8 (tgt := 12) (by decide) (fun c_8 => ?_) (fun c_8 => ?_)
  ·
    have c_8 := of_decide_eq_true (b32_no c_8)
    refine g_iload (pc := 12) C dX7_onChoice_12 4 rfl ?_
    refine g_if_ne (pc := 14) C dX7_onChoice_14 (tgt := 23) (by decide) (fun c_14 => ?_) (fun c_14 => ?_)
    ·
      have c_14 : ¬ y = 0 := fun h => c_14 ((nI_eq (a := y) (b := 0) (by omega) (by omega)).mpr h)
      have ht2 : t < gT σ := ht (by omega)
      refine g_aload_n (pc := 23) C dX7_onChoice_23 1 rfl ?_
      refine g_iload_n (pc := 24) C dX7_onChoice_24 2 rfl ?_
      refine g_callV (pc := 25) C (As := [.int (nI s)]) (rest := []) (b := (w + 100 + 100 * i)) (c_X3_makeEager A P g (w + 100 + 100 * i) s (by omega) (by assumption) (WD.nd (i := i) hW (by omega))) (WD.nd (i := i) hW (by omega)).1 rfl rfl Y_X3_makeEager u_551 N_X3_makeEager ⟨by decide, by decide⟩ ⟨by decide, by decide⟩ (Nat.le_of_ble_eq_true rfl) rfl dX7_onChoice_25 ?_
      rintro _ _ _ g_1 ⟨rfl, rfl, rfl, hn_2, hf_3⟩
      have hW_4 := WD.sn (i := i) hW (by omega) (hf_3.mo (by omega) (by omega)) hn_2
      have h_5 := hf_3.at (by omega) hV
      obtain ⟨σ6, hσ6⟩ : ∃ sM : Sg, sM = sNd σ i (sLz (gN σ i) (bo (nLz (gN σ i)) s)) := ⟨_, rfl⟩
      have hW_7 : WD A g_1 w (w + 15005) σ6 := by rw [hσ6]; exact hW_4
      clear hW_4
      have hK_σ6 : gK σ6 = gK σ := (congrArg gK hσ6).trans (rfl : gK σ = gK σ)
      have hT_σ6 : gT σ6 = gT σ := (congrArg gT hσ6).trans (rfl : gT σ = gT σ)
      have hZ_σ6 : gZ σ6 = gZ σ := (congrArg gZ hσ6).trans (rfl : gZ σ = gZ σ)
      show V K 0 0 P A g_1 [(0, .ref (A (w + 15007))), (1, .ref (A (w + 100 + 100 * i))), (2, .int (nI s)), (3, .int (nI t)), (4, .int (nI y))] 28 []
      have hS_8 : SW B cs (σ6) := by rw [hσ6]; exact SW.egS hS hi
      have hw1 : ndW (gN σ6 i) := SW.dw hS_8 (i := i) (by omega)
      refine g_aload_n (pc := 28) C dX7_onChoice_28 1 rfl ?_
      refine g_iload_n (pc := 29) C dX7_onChoice_29 3 rfl ?_
      refine g_callV (pc := 30) C (As := [.int (nI t)]) (rest := []) (b := (w + 100 + 100 * i)) (c_X3_knows A P g_1 (w + 100 + 100 * i) t (by omega) (by assumption) (WD.nd (i := i) hW_7 (by omega))) (WD.nd (i := i) hW_7 (by omega)).1 rfl rfl Y_X3_knows u_669 N_X3_knows ⟨by decide, by decide⟩ ⟨by decide, by decide⟩ (Nat.le_of_ble_eq_true rfl) rfl dX7_onChoice_30 ?_
      rintro _ _ _ _ ⟨rfl, rfl, rfl, rfl⟩
      show V K 0 0 P A g_1 [(0, .ref (A (w + 15007))), (1, .ref (A (w + 100 + 100 * i))), (2, .int (nI s)), (3, .int (nI t)), (4, .int (nI y))] 33 [.int (b32 (nHo (gN σ6 i) t).isSome)]
      refine g_if_eq (pc := 33) C dX7_onChoice_33 (tgt := 52) (by decide) (fun c_33 => ?_) (fun c_33 => ?_)
      ·
        exact g_vret (pc := 52) C R ⟨rfl, rfl, rfl, by rw [cho_n c_8 c_14 hσ6 (b32_yes c_33)]; exact hW_7, fun k hk => by rw [hf_3 k (by omega)]⟩ (by decide) (by decide) dX7_onChoice_52
      ·
        obtain ⟨ho, hho⟩ : ∃ h, nHo (gN σ6 i) t = some h := Option.isSome_iff_exists.mp (b32_no c_33)
        have hob := (SW.nw hS_8 (i := i) (by omega)).2.2.2.2.2.2.2.2.1 t ho hho
        refine g_aload_n (pc := 36) C dX7_onChoice_36 0 rfl ?_
        refine g_aload_n (pc := 37) C dX7_onChoice_37 1 rfl ?_
        refine g_iload_n (pc := 38) C dX7_onChoice_38 2 rfl ?_
        refine g_bipush (pc := 39) C dX7_onChoice_39 (v := nI 9) rfl ?_
        refine g_iload_n (pc := 41) C dX7_onChoice_41 3 rfl ?_
        refine g_aload_n (pc := 42) C dX7_onChoice_42 1 rfl ?_
        refine g_iload_n (pc := 43) C dX7_onChoice_43 3 rfl ?_
        refine g_callV (pc := 44) C (As := [.int (nI t)]) (rest := [.int (nI t), .int (nI 9), .int (nI s), .ref (A (w + 100 + 100 * i)), .ref (A (w + 15007))]) (b := (w + 100 + 100 * i)) (c_X3_hopsOf A P g_1 (w + 100 + 100 * i) t (by omega) (WD.nd (i := i) hW_7 (by omega))) (WD.nd (i := i) hW_7 (by omega)).1 rfl rfl Y_X3_hopsOf u_691 N_X3_hopsOf ⟨by decide, by decide⟩ ⟨by decide, by decide⟩ (Nat.le_of_ble_eq_true rfl) rfl dX7_onChoice_44 ?_
        rintro _ _ _ _ ⟨rfl, rfl, rfl, rfl⟩
        show V K 0 0 P A g_1 [(0, .ref (A (w + 15007))), (1, .ref (A (w + 100 + 100 * i))), (2, .int (nI s)), (3, .int (nI t)), (4, .int (nI y))] 47 [.int (onv (nHo (gN σ6 i) t)), .int (nI t), .int (nI 9), .int (nI s), .ref (A (w + 100 + 100 * i)), .ref (A (w + 15007))]
        rw [hho]
        show V K 0 0 P A g_1 [(0, .ref (A (w + 15007))), (1, .ref (A (w + 100 + 100 * i))), (2, .int (nI s)), (3, .int (nI t)), (4, .int (nI y))] 47 [.int (nI ho), .int (nI t), .int (nI 9), .int (nI s), .ref (A (w + 100 + 100 * i)), .ref (A (w + 15007))]
        refine g_iconst (pc := 47) C dX7_onChoice_47 (v := nI 1) rfl ?_
        refine g_iadd (pc := 48) C dX7_onChoice_48 (z := nI (ho + 1)) (nI_add _ _) ?_
        refine g_callV (pc := 49) C (As := [.ref (A (w + 100 + 100 * i)), .int (nI s), .int (nI 9), .int (nI t), .int (nI (ho + 1))]) (rest := []) (b := (w + 15007)) (c_X7_send A P g_1 w i s 9 t (ho + 1) (by omega) (by omega) (by omega) (by omega) (by omega) h_5 hW_7) h_5 rfl rfl Y_X7_send u_523 N_X7_send ⟨by decide, by decide⟩ ⟨by decide, by decide⟩ (Nat.le_of_ble_eq_true rfl) rfl dX7_onChoice_49 ?_
        rintro _ _ _ g_9 ⟨rfl, rfl, rfl, hW_10, hf_11⟩
        have hf_12 : Fr g_1 g_9 (w + 3) (w + 3500) := FrR.fr hf_11
        have h_13 := hf_12.at (by omega) h_5
        obtain ⟨σ14, hσ14⟩ : ∃ sM : Sg, sM = snd σ6 i s 9 t (ho + 1) [] := ⟨_, rfl⟩
        have hW_15 : WD A g_9 w (w + 15005) σ14 := by rw [hσ14]; exact hW_10
        clear hW_10
        have hK_σ14 : gK σ14 = gK σ := (congrArg gK hσ14).trans (snd_K.trans hK_σ6)
        have hT_σ14 : gT σ14 = gT σ := (congrArg gT hσ14).trans (snd_T.trans hT_σ6)
        have hZ_σ14 : gZ σ14 = gZ σ := (congrArg gZ hσ14).trans (snd_Z.trans hZ_σ6)
        show V K 0 0 P A g_9 [(0, .ref (A (w + 15007))), (1, .ref (A (w + 100 + 100 * i))), (2, .int (nI s)), (3, .int (nI t)), (4, .int (nI y))] 52 []
        exact g_vret (pc := 52) C R ⟨rfl, rfl, rfl, by rw [cho_s c_8 c_14 hσ6 hho hσ14]; exact hW_15, fun k hk => by rw [hf_11 k (by omega), hf_3 k (by omega)]⟩ (by decide) (by decide) dX7_onChoice_52
    ·
      have c_14 : y = 0 := (nI_eq (by omega) (by omega)).mp c_14
      refine g_aload_n (pc := 17) C dX7_onChoice_17 1 rfl ?_
      refine g_iload_n (pc := 18) C dX7_onChoice_18 2 rfl ?_
      refine g_callV (pc := 19) C (As := [.int (nI s)]) (rest := []) (b := (w + 100 + 100 * i)) (c_X3_makeLazy A P g (w + 100 + 100 * i) s (by omega) (WD.nd (i := i) hW (by omega))) (WD.nd (i := i) hW (by omega)).1 rfl rfl Y_X3_makeLazy u_677 N_X3_makeLazy ⟨by decide, by decide⟩ ⟨by decide, by decide⟩ (Nat.le_of_ble_eq_true rfl) rfl dX7_onChoice_19 ?_
      rintro _ _ _ g_16 ⟨rfl, rfl, rfl, hn_17, hf_18⟩
      have hW_19 := WD.sn (i := i) hW (by omega) (hf_18.mo (by omega) (by omega)) hn_17
      have h_20 := hf_18.at (by omega) hV
      obtain ⟨σ21, hσ21⟩ : ∃ sM : Sg, sM = sNd σ i (sLz (gN σ i) (nLz (gN σ i) ||| 2 ^ s)) := ⟨_, rfl⟩
      have hW_22 : WD A g_16 w (w + 15005) σ21 := by rw [hσ21]; exact hW_19
      clear hW_19
      have hK_σ21 : gK σ21 = gK σ := (congrArg gK hσ21).trans (rfl : gK σ = gK σ)
      have hT_σ21 : gT σ21 = gT σ := (congrArg gT hσ21).trans (rfl : gT σ = gT σ)
      have hZ_σ21 : gZ σ21 = gZ σ := (congrArg gZ hσ21).trans (rfl : gZ σ = gZ σ)
      show V K 0 0 P A g_16 [(0, .ref (A (w + 15007))), (1, .ref (A (w + 100 + 100 * i))), (2, .int (nI s)), (3, .int (nI t)), (4, .int (nI y))] 22 []
      exact g_vret (pc := 22) C R ⟨rfl, rfl, rfl, by rw [show cho σ i s t y = σ21 from by rw [hσ21]; exact (if_neg (fun e => e c_8)).trans (if_pos (by omega))]; exact hW_22, fun k hk => by rw [hf_18 k (by omega)]⟩ (by decide) (by decide) dX7_onChoice_22
  ·
    have c_8 := of_decide_eq_false (b32_yes c_8)
    exact g_vret (pc := 11) C R ⟨rfl, rfl, rfl, by rw [show cho σ i s t y = σ from if_pos c_8]; exact hW, FrV.rf⟩ (by decide) (by decide) dX7_onChoice_11
abbrev rm_X7_fetch : Room := { frames := 4, cells := 0, slots := 0, locals := 96 }
theorem Y_X7_fetch : pY yX7_fetch cX7_fetch 5 (Option.none : Option Jvm.ClassFile.FieldType) := ⟨u_546, u_547, u_12, u_548⟩
theorem N_X7_fetch : yX7_fetch.cls ≠ "java/lang/invoke/MethodHandle" ∧ yX7_fetch.cls ≠ "java/lang/invoke/VarHandle" ∧ (parseMethodDescriptor yX7_fetch.desc).map (fun d => d.parameters.length) = some 3 := by decide +kernel
set_option maxRecDepth 20000 in
set_option maxHeartbeats 4000000 in
theorem c_X7_fetch (A : Nat → Nat) (P : List Nat) (g : pM) (w : Nat) {B : Nat} {cs : List Nat} {σ : Sg} (i t : Nat) (x : Int32) (tl : List Nat) (hi : i < gK σ) (ht : t < gT σ) (hm : nMi (gN σ i) t = some (x, tl)) (hS : SW B cs σ) (hV : g (w + 15007) = ob 7 [.ref (A w)]) (hW : WD A g w (w + 15005) σ) : PM yX7_fetch cX7_fetch 5 (Option.none : Option Jvm.ClassFile.FieldType) rm_X7_fetch [.ref (A (w + 15007)), .ref (A (w + 100 + 100 * i)), .int (nI t), .ref (A (w + 100 + 100 * i + 10 + 3 * t))] P A g (fun v g' => v = none ∧ WD A g' w (w + 15005) (ftc σ i t x tl) ∧ FrV g g' w) := by
  have hK := hS.2.1
  obtain ⟨hz1, hz2, hz3, hz4, hz5, hz6, hz7, hz8, hz9⟩ := hS.2.2.2.1
  have hw0 : ndW (gN σ i) := hS.dw hi
  have ht24 := hS.2.2.1
  have hML : MS A g (w + 100 + 100 * i + 10 + 3 * t) (some (x, tl)) := hm ▸ (hW.nd hi).2.2.2.2.2 t (by omega)
  have hL0 : NLN A g (w + 100 + 100 * i + 10 + 3 * t + 1) 5 tl := hML.2
  have htl := hL0.le
  have hk := (hS.nw hi).2.2.2.2.2.2.2.2.2.1 t x tl hm
  refine px_intro (by decide +kernel) (Nat.le_of_ble_eq_true rfl) (fun K sz C R => ?_)
  show V K 0 0 P A g [(0, .ref (A (w + 15007))), (1, .ref (A (w + 100 + 100 * i))), (2, .int (nI t)), (3, .ref (A (w + 100 + 100 * i + 10 + 3 * t)))] 0 []
  refine g_aload_n (pc := 0) C dX7_fetch_0 3 rfl ?_
  refine g_get (pc := 1) C (j := 2) ((WD.nd (i := i) hW (by omega)).2.2.2.2.2 t (by omega)).1 rfl rfl (by decide) u_119 dX7_fetch_1 ?_
  refine g_get (pc := 4) C (j := 1) (NLN.o hL0) rfl rfl (by decide) u_96 dX7_fetch_4 ?_
  refine g_if_ne (pc := 7) C dX7_fetch_7 (tgt := 15) (by decide) (fun c_7 => ?_) (fun c_7 => ?_)
  ·
    have c_7 : ¬ tl.length = 0 := fun h => c_7 ((nI_eq (a := tl.length) (b := 0) (by omega) (by omega)).mpr h)
    refine g_aload_n (pc := 15) C dX7_fetch_15 3 rfl ?_
    refine g_get (pc := 16) C (j := 2) ((WD.nd (i := i) hW (by omega)).2.2.2.2.2 t (by omega)).1 rfl rfl (by decide) u_119 dX7_fetch_16 ?_
    have hqa := hk.2.2 _ (getD_mem (show 0 < tl.length by omega))
    have hqK := (hS.nw hi).2.1 _ hqa
    refine g_iconst (pc := 19) C dX7_fetch_19 (v := nI 0) rfl ?_
    refine g_callV (pc := 20) C (As := [.int (nI 0)]) (rest := []) (b := (w + 100 + 100 * i + 10 + 3 * t + 1)) (n_X4_at A P g (w + 100 + 100 * i + 10 + 3 * t + 1) 0 (by omega) hL0) (NLN.o hL0) rfl rfl Y_X4_at u_518 N_X4_at ⟨by decide, by decide⟩ ⟨by decide, by decide⟩ (Nat.le_of_ble_eq_true rfl) rfl dX7_fetch_20 ?_
    rintro _ _ _ _ ⟨rfl, rfl, rfl, rfl⟩
    show V K 0 0 P A g [(0, .ref (A (w + 15007))), (1, .ref (A (w + 100 + 100 * i))), (2, .int (nI t)), (3, .ref (A (w + 100 + 100 * i + 10 + 3 * t)))] 23 [.int (nI (tl.getD 0 0))]
    refine g_istore (pc := 23) C dX7_fetch_23 (by decide) (lv' := [(0, .ref (A (w + 15007))), (1, .ref (A (w + 100 + 100 * i))), (2, .int (nI t)), (3, .ref (A (w + 100 + 100 * i + 10 + 3 * t))), (4, .int (nI (tl.getD 0 0)))]) [1, 2, 3, 4, 0] rfl ?_
    refine g_aload_n (pc := 25) C dX7_fetch_25 3 rfl ?_
    refine g_get (pc := 26) C (j := 2) ((WD.nd (i := i) hW (by omega)).2.2.2.2.2 t (by omega)).1 rfl rfl (by decide) u_119 dX7_fetch_26 ?_
    refine g_iconst (pc := 29) C dX7_fetch_29 (v := nI 0) rfl ?_
    refine g_callV (pc := 30) C (As := [.int (nI 0)]) (rest := []) (b := (w + 100 + 100 * i + 10 + 3 * t + 1)) (n_X4_removeAt A P g (w + 100 + 100 * i + 10 + 3 * t + 1) 0 (by omega) hL0) (NLN.o hL0) rfl rfl Y_X4_removeAt u_550 N_X4_removeAt ⟨by decide, by decide⟩ ⟨by decide, by decide⟩ (Nat.le_of_ble_eq_true rfl) rfl dX7_fetch_30 ?_
    rintro _ _ _ g_1 ⟨rfl, rfl, rfl, hn_2, hf_3⟩
    have hM1 := MS.ml hML hf_3 hn_2
    have hfM : Fr g g_1 (w + 100 + 100 * i + 10 + 3 * t) (w + 100 + 100 * i + 10 + 3 * t + 3) := hf_3.mo (by omega) (by omega)
    have hN_4 := ND.mi (WD.nd (i := i) hW (by omega)) (by omega) hfM hM1
    have hW_5 := WD.sn (i := i) hW (by omega) (hfM.mo (by omega) (by omega)) hN_4
    have h_6 := hf_3.at (by omega) hV
    obtain ⟨σ7, hσ7⟩ : ∃ sM : Sg, sM = sNd σ i (sMi (gN σ i) (va_up (nMi (gN σ i)) t (some (x, tl.eraseIdx 0)))) := ⟨_, rfl⟩
    have hW_8 : WD A g_1 w (w + 15005) σ7 := by rw [hσ7]; exact hW_5
    clear hW_5
    have hK_σ7 : gK σ7 = gK σ := (congrArg gK hσ7).trans (rfl : gK σ = gK σ)
    have hT_σ7 : gT σ7 = gT σ := (congrArg gT hσ7).trans (rfl : gT σ = gT σ)
    have hZ_σ7 : gZ σ7 = gZ σ := (congrArg gZ hσ7).trans (rfl : gZ σ = gZ σ)
    have hw1 : ndW (gN σ7 i) := by rw [hσ7, gN_self]; exact hw0
    show V K 0 0 P A g_1 [(0, .ref (A (w + 15007))), (1, .ref (A (w + 100 + 100 * i))), (2, .int (nI t)), (3, .ref (A (w + 100 + 100 * i + 10 + 3 * t))), (4, .int (nI (tl.getD 0 0)))] 33 []
    refine g_aload_n (pc := 33) C dX7_fetch_33 1 rfl ?_
    refine g_iload (pc := 34) C dX7_fetch_34 4 rfl ?_
    refine g_callV (pc := 36) C (As := [.int (nI (tl.getD 0 0))]) (rest := []) (b := (w + 100 + 100 * i)) (c_X3_makeEager A P g_1 (w + 100 + 100 * i) (tl.getD 0 0) (by omega) (by assumption) (WD.nd (i := i) hW_8 (by omega))) (WD.nd (i := i) hW_8 (by omega)).1 rfl rfl Y_X3_makeEager u_551 N_X3_makeEager ⟨by decide, by decide⟩ ⟨by decide, by decide⟩ (Nat.le_of_ble_eq_true rfl) rfl dX7_fetch_36 ?_
    rintro _ _ _ g_9 ⟨rfl, rfl, rfl, hn_10, hf_11⟩
    have hW_12 := WD.sn (i := i) hW_8 (by omega) (hf_11.mo (by omega) (by omega)) hn_10
    have h_13 := hf_11.at (by omega) h_6
    obtain ⟨σ14, hσ14⟩ : ∃ sM : Sg, sM = sNd σ7 i (sLz (gN σ7 i) (bo (nLz (gN σ7 i)) (tl.getD 0 0))) := ⟨_, rfl⟩
    have hW_15 : WD A g_9 w (w + 15005) σ14 := by rw [hσ14]; exact hW_12
    clear hW_12
    have hK_σ14 : gK σ14 = gK σ := (congrArg gK hσ14).trans hK_σ7
    have hT_σ14 : gT σ14 = gT σ := (congrArg gT hσ14).trans hT_σ7
    have hZ_σ14 : gZ σ14 = gZ σ := (congrArg gZ hσ14).trans hZ_σ7
    show V K 0 0 P A g_9 [(0, .ref (A (w + 15007))), (1, .ref (A (w + 100 + 100 * i))), (2, .int (nI t)), (3, .ref (A (w + 100 + 100 * i + 10 + 3 * t))), (4, .int (nI (tl.getD 0 0)))] 39 []
    refine g_aload_n (pc := 39) C dX7_fetch_39 0 rfl ?_
    refine g_aload_n (pc := 40) C dX7_fetch_40 1 rfl ?_
    refine g_iload (pc := 41) C dX7_fetch_41 4 rfl ?_
    refine g_bipush (pc := 43) C dX7_fetch_43 (v := nI 11) rfl ?_
    refine g_iload_n (pc := 45) C dX7_fetch_45 2 rfl ?_
    refine g_iconst (pc := 46) C dX7_fetch_46 (v := nI 1) rfl ?_
    refine g_callV (pc := 47) C (As := [.ref (A (w + 100 + 100 * i)), .int (nI (tl.getD 0 0)), .int (nI 11), .int (nI t), .int (nI 1)]) (rest := []) (b := (w + 15007)) (c_X7_send A P g_9 w i (tl.getD 0 0) 11 t 1 (by omega) (by omega) (by omega) (by omega) (by omega) h_13 hW_15) h_13 rfl rfl Y_X7_send u_523 N_X7_send ⟨by decide, by decide⟩ ⟨by decide, by decide⟩ (Nat.le_of_ble_eq_true rfl) rfl dX7_fetch_47 ?_
    rintro _ _ _ g_16 ⟨rfl, rfl, rfl, hW_17, hf_18⟩
    have hf_19 : Fr g_9 g_16 (w + 3) (w + 3500) := FrR.fr hf_18
    have h_20 := hf_19.at (by omega) h_13
    obtain ⟨σ21, hσ21⟩ : ∃ sM : Sg, sM = snd σ14 i (tl.getD 0 0) 11 t 1 [] := ⟨_, rfl⟩
    have hW_22 : WD A g_16 w (w + 15005) σ21 := by rw [hσ21]; exact hW_17
    clear hW_17
    have hK_σ21 : gK σ21 = gK σ := (congrArg gK hσ21).trans (snd_K.trans hK_σ14)
    have hT_σ21 : gT σ21 = gT σ := (congrArg gT hσ21).trans (snd_T.trans hT_σ14)
    have hZ_σ21 : gZ σ21 = gZ σ := (congrArg gZ hσ21).trans (snd_Z.trans hZ_σ14)
    show V K 0 0 P A g_16 [(0, .ref (A (w + 15007))), (1, .ref (A (w + 100 + 100 * i))), (2, .int (nI t)), (3, .ref (A (w + 100 + 100 * i + 10 + 3 * t))), (4, .int (nI (tl.getD 0 0)))] 50 []
    have hm3 : nMi (gN σ21 i) t = some (x, tl.eraseIdx 0) := by rw [hσ21, snd_N, hσ14, gN_self]; show nMi (gN σ7 i) t = _; rw [hσ7, gN_self]; exact va_up_self _ _ _
    have hz5 : (gZ σ21).2.2.2.2 < 2 ^ 31 := by rw [hZ_σ21]; omega
    refine g_aload_n (pc := 50) C dX7_fetch_50 3 rfl ?_
    refine g_aload_n (pc := 51) C dX7_fetch_51 0 rfl ?_
    refine g_get (pc := 52) C (j := 0) h_20 rfl rfl (by decide) u_319 dX7_fetch_52 ?_
    refine g_get (pc := 55) C (j := 9) (WD.wb hW_22).1 rfl rfl (by decide) u_265 dX7_fetch_55 ?_
    refine g_aload_n (pc := 58) C dX7_fetch_58 0 rfl ?_
    refine g_get (pc := 59) C (j := 0) h_20 rfl rfl (by decide) u_319 dX7_fetch_59 ?_
    refine g_get (pc := 62) C (j := 1) (WD.wb hW_22).1 rfl rfl (by decide) u_250 dX7_fetch_62 ?_
    refine g_get (pc := 65) C (j := 4) (show g_16 (w + 1) = ob 6 _ from hW_22.2.1) rfl rfl (by decide) u_65 dX7_fetch_65 ?_
    refine g_iconst (pc := 68) C dX7_fetch_68 (v := nI 2) rfl ?_
    refine g_idiv (pc := 69) C dX7_fetch_69 (by decide) (z := nI ((gZ σ21).2.2.2.2 / 2)) (pk_div hz5 (by decide) (by decide)) ?_
    refine g_iconst (pc := 70) C dX7_fetch_70 (v := nI 1) rfl ?_
    refine g_mmax (pc := 71) C u_555 u_91 u_7 u_92 (by decide) (Nat.le_of_ble_eq_true rfl) ⟨by decide, by decide⟩ dX7_fetch_71 (z := nI (max ((gZ σ21).2.2.2.2 / 2) 1)) (nI_max (a := (gZ σ21).2.2.2.2 / 2) (b := 1) (by omega) (by omega)) ?_
    refine g_iadd (pc := 74) C dX7_fetch_74 (z := gTi σ21 + nI (max ((gZ σ21).2.2.2.2 / 2) 1)) rfl ?_
    refine g_put (pc := 75) C (j := 1) ((WD.nd (i := i) hW_22 (by omega)).2.2.2.2.2 t (by omega)).1 rfl (by decide) (Nat.le_of_ble_eq_true rfl) u_117 rfl pfd_I rfl rfl dX7_fetch_75 ?_
    obtain ⟨g_23, hg_23⟩ : ∃ yM : pM, yM = va_up g_16 (w + 100 + 100 * i + 10 + 3 * t) (ob 2 [.int (miO (nMi (gN σ21 i) t)), .int (gTi σ21 + nI (max ((gZ σ21).2.2.2.2 / 2) 1)), .ref (A (w + 100 + 100 * i + 10 + 3 * t + 1))]) := ⟨_, rfl⟩
    show V K 0 0 P A (va_up g_16 (w + 100 + 100 * i + 10 + 3 * t) (ob 2 [.int (miO (nMi (gN σ21 i) t)), .int (gTi σ21 + nI (max ((gZ σ21).2.2.2.2 / 2) 1)), .ref (A (w + 100 + 100 * i + 10 + 3 * t + 1))])) [(0, .ref (A (w + 15007))), (1, .ref (A (w + 100 + 100 * i))), (2, .int (nI t)), (3, .ref (A (w + 100 + 100 * i + 10 + 3 * t))), (4, .int (nI (tl.getD 0 0)))] 78 []
    rw [← hg_23]
    have h_24 : g_23 (w + 15007) = ob 7 [.ref (A w)] := by rw [hg_23, va_up_ne _ _ (show w + 15007 ≠ w + 100 + 100 * i + 10 + 3 * t from by omega)]; exact h_20
    have hf_25 : Fr g_16 g_23 (w + 100 + 100 * i + 10 + 3 * t) (w + 100 + 100 * i + 10 + 3 * t + 1) := by rw [hg_23]; exact Fr.up (by omega) (by omega)
    have hf_26 : Fr g_16 g_23 (w + 100 + 100 * i + 10 + 3 * t) (w + 100 + 100 * i + 10 + 3 * t + 3) := hf_25.mo (by omega) (by omega)
    have hM_27 : MS A g_23 (w + 100 + 100 * i + 10 + 3 * t) (some (gTi σ21 + nI (max ((gZ σ21).2.2.2.2 / 2) 1), tl.eraseIdx 0)) := MS.put ((WD.nd (i := i) hW_22 (by omega)).2.2.2.2.2 t (by omega)) (hg_23.trans (by rw [hm3]; rfl)) (by rw [hm3]; rfl)
    have hN_28 := ND.mi (WD.nd (i := i) hW_22 (by omega)) (by omega) hf_26 hM_27
    have hW_29 := WD.sn (i := i) hW_22 (by omega) (hf_26.mo (by omega) (by omega)) hN_28
    obtain ⟨σ30, hσ30⟩ : ∃ sM : Sg, sM = sNd σ21 i (sMi (gN σ21 i) (va_up (nMi (gN σ21 i)) t (some (gTi σ21 + nI (max ((gZ σ21).2.2.2.2 / 2) 1), tl.eraseIdx 0)))) := ⟨_, rfl⟩
    have hW_31 : WD A g_23 w (w + 15005) σ30 := by rw [hσ30]; exact hW_29
    clear hW_29
    have hK_σ30 : gK σ30 = gK σ := (congrArg gK hσ30).trans hK_σ21
    have hT_σ30 : gT σ30 = gT σ := (congrArg gT hσ30).trans hT_σ21
    have hZ_σ30 : gZ σ30 = gZ σ := (congrArg gZ hσ30).trans hZ_σ21
    exact g_vret (pc := 78) C R ⟨rfl, rfl, rfl, by rw [ftc_s (show ¬ tl.length = 0 by omega) rfl rfl hσ7 hσ14 hσ21 hσ30]; exact hW_31, fun k hk => by rw [hg_23, va_up_ne _ _ (by omega), hf_18 k (by omega), hf_11 k (by omega), hf_3 k (by omega)]⟩ (by decide) (by decide) dX7_fetch_78
  ·
    have c_7 : tl.length = 0 := (nI_eq (by omega) (by omega)).mp c_7
    refine g_aload_n (pc := 10) C dX7_fetch_10 3 rfl ?_
    refine g_callV (pc := 11) C (As := []) (rest := []) (b := (w + 100 + 100 * i + 10 + 3 * t)) (c_X2_end A P g (w + 100 + 100 * i + 10 + 3 * t) ((WD.nd (i := i) hW (by omega)).2.2.2.2.2 t (by omega))) ((WD.nd (i := i) hW (by omega)).2.2.2.2.2 t (by omega)).1 rfl rfl Y_X2_end u_549 N_X2_end ⟨by decide, by decide⟩ ⟨by decide, by decide⟩ (Nat.le_of_ble_eq_true rfl) rfl dX7_fetch_11 ?_
    rintro _ _ _ g_32 ⟨rfl, rfl, rfl, hn_33, hf_34⟩
    have hN_35 := ND.mi (WD.nd (i := i) hW (by omega)) (by omega) hf_34 hn_33
    have hW_36 := WD.sn (i := i) hW (by omega) (hf_34.mo (by omega) (by omega)) hN_35
    have h_37 := hf_34.at (by omega) hV
    obtain ⟨σ38, hσ38⟩ : ∃ sM : Sg, sM = sNd σ i (sMi (gN σ i) (va_up (nMi (gN σ i)) t none)) := ⟨_, rfl⟩
    have hW_39 : WD A g_32 w (w + 15005) σ38 := by rw [hσ38]; exact hW_36
    clear hW_36
    have hK_σ38 : gK σ38 = gK σ := (congrArg gK hσ38).trans (rfl : gK σ = gK σ)
    have hT_σ38 : gT σ38 = gT σ := (congrArg gT hσ38).trans (rfl : gT σ = gT σ)
    have hZ_σ38 : gZ σ38 = gZ σ := (congrArg gZ hσ38).trans (rfl : gZ σ = gZ σ)
    show V K 0 0 P A g_32 [(0, .ref (A (w + 15007))), (1, .ref (A (w + 100 + 100 * i))), (2, .int (nI t)), (3, .ref (A (w + 100 + 100 * i + 10 + 3 * t)))] 14 []
    exact g_vret (pc := 14) C R ⟨rfl, rfl, rfl, by rw [ftc_e (show tl.length = 0 by omega)]; rw [hσ38] at hW_39; exact hW_39, fun k hk => by rw [hf_34 k (by omega)]⟩ (by decide) (by decide) dX7_fetch_14
abbrev rm_X7_fetchDue : Room := { frames := 5, cells := 0, slots := 0, locals := 120 }
theorem Y_X7_fetchDue : pY yX7_fetchDue cX7_fetchDue 4 (Option.none : Option Jvm.ClassFile.FieldType) := ⟨u_538, u_539, u_12, u_540⟩
theorem N_X7_fetchDue : yX7_fetchDue.cls ≠ "java/lang/invoke/MethodHandle" ∧ yX7_fetchDue.cls ≠ "java/lang/invoke/VarHandle" ∧ (parseMethodDescriptor yX7_fetchDue.desc).map (fun d => d.parameters.length) = some 1 := by decide +kernel
set_option maxRecDepth 20000 in
set_option maxHeartbeats 4000000 in
theorem c_X7_fetchDue (A : Nat → Nat) (P : List Nat) (g : pM) (w : Nat) {B : Nat} {cs : List Nat} {σ : Sg} (i : Nat) (hi : i < gK σ) (hS : SW B cs σ) (hV : g (w + 15007) = ob 7 [.ref (A w)]) (hW : WD A g w (w + 15005) σ) : PM yX7_fetchDue cX7_fetchDue 4 (Option.none : Option Jvm.ClassFile.FieldType) rm_X7_fetchDue [.ref (A (w + 15007)), .ref (A (w + 100 + 100 * i))] P A g (fun v g' => v = none ∧ WD A g' w (w + 15005) (fdF σ i (gT σ)) ∧ FrV g g' w) := by
  have hK := hS.2.1
  obtain ⟨hz1, hz2, hz3, hz4, hz5, hz6, hz7, hz8, hz9⟩ := hS.2.2.2.1
  have ht24 := hS.2.2.1
  refine px_intro (by decide +kernel) (Nat.le_of_ble_eq_true rfl) (fun K sz C R => ?_)
  show V K 0 0 P A g [(0, .ref (A (w + 15007))), (1, .ref (A (w + 100 + 100 * i)))] 0 []
  refine g_iconst (pc := 0) C dX7_fetchDue_0 (v := nI 0) rfl ?_
  refine g_istore_n (pc := 1) C dX7_fetchDue_1 (by decide) (lv' := [(0, .ref (A (w + 15007))), (1, .ref (A (w + 100 + 100 * i))), (2, .int (nI 0))]) [1, 2, 0] rfl ?_
  have lp_2 : ∀ (fuel : Nat) (t : Nat) (ht : t ≤ gT σ) (σ1 : Sg) (he : σ1 = fdF σ i t) (hS1 : SW B cs σ1) (hK1 : gK σ1 = gK σ) (hT1 : gT σ1 = gT σ) (hZ1 : gZ σ1 = gZ σ) (gl : pM) (hVl : gl (w + 15007) = ob 7 [.ref (A w)]) (hWl : WD A gl w (w + 15005) (σ1)) (hf : FrV g gl w), gT σ - t < fuel → V K 0 0 P A gl [(0, .ref (A (w + 15007))), (1, .ref (A (w + 100 + 100 * i))), (2, .int (nI t))] 2 [] := by
    intro fuel
    induction fuel with
    | zero => intro t ht σ1 he hS1 hK1 hT1 hZ1 gl hVl hWl hf hμ; exact absurd hμ (Nat.not_lt_zero _)
    | succ fuel ih =>
      intro t ht σ1 he hS1 hK1 hT1 hZ1 gl hVl hWl hf hμ
      refine g_iload_n (pc := 2) C dX7_fetchDue_2 2 rfl ?_
      refine g_aload_n (pc := 3) C dX7_fetchDue_3 0 rfl ?_
      refine g_get (pc := 4) C (j := 0) hVl rfl rfl (by decide) u_319 dX7_fetchDue_4 ?_
      refine g_get (pc := 7) C (j := 8) (WD.wb hWl).1 rfl rfl (by decide) u_262 dX7_fetchDue_7 ?_
      refine g_icmp_ge (pc := 10) C dX7_fetchDue_10 (tgt := 53) (by decide) (fun c_10 => ?_) (fun c_10 => ?_)
      ·
        have c_10 : (gT σ1) ≤ t := (nI_leI (by omega) (by omega)).mp c_10
        exact g_vret (pc := 53) C R ⟨rfl, rfl, rfl, by rw [show gT σ = t by omega, ← he]; exact hWl, hf⟩ (by decide) (by decide) dX7_fetchDue_53
      ·
        have c_10 : ¬ (gT σ1) ≤ t := fun h => c_10 ((nI_leI (a := (gT σ1)) (b := t) (by omega) (by omega)).mpr h)
        refine g_aload_n (pc := 13) C dX7_fetchDue_13 1 rfl ?_
        refine g_iload_n (pc := 14) C dX7_fetchDue_14 2 rfl ?_
        refine g_callV (pc := 15) C (As := [.int (nI t)]) (rest := []) (b := (w + 100 + 100 * i)) (c_X3_missOf A P gl (w + 100 + 100 * i) t (by omega) (WD.nd (i := i) hWl (by omega))) (WD.nd (i := i) hWl (by omega)).1 rfl rfl Y_X3_missOf u_541 N_X3_missOf ⟨by decide, by decide⟩ ⟨by decide, by decide⟩ (Nat.le_of_ble_eq_true rfl) rfl dX7_fetchDue_15 ?_
        rintro _ _ _ _ ⟨rfl, rfl, rfl, rfl⟩
        show V K 0 0 P A gl [(0, .ref (A (w + 15007))), (1, .ref (A (w + 100 + 100 * i))), (2, .int (nI t))] 18 [.ref (A (w + 100 + 100 * i + 10 + 3 * t))]
        refine g_astore_n (pc := 18) C dX7_fetchDue_18 (by decide) (lv' := [(0, .ref (A (w + 15007))), (1, .ref (A (w + 100 + 100 * i))), (2, .int (nI t)), (3, .ref (A (w + 100 + 100 * i + 10 + 3 * t)))]) [1, 2, 3, 0] rfl ?_
        refine g_aload_n (pc := 19) C dX7_fetchDue_19 3 rfl ?_
        refine g_get (pc := 20) C (j := 0) ((WD.nd (i := i) hWl (by omega)).2.2.2.2.2 t (by omega)).1 rfl rfl (by decide) u_114 dX7_fetchDue_20 ?_
        refine g_if_eq (pc := 23) C dX7_fetchDue_23 (tgt := 47) (by decide) (fun c_23 => ?_) (fun c_23 => ?_)
        ·
          refine g_iinc (pc := 47) C dX7_fetchDue_47 (by decide) 2 rfl (v := nI (t + 1)) (nI_i1 _) (lv' := [(0, .ref (A (w + 15007))), (1, .ref (A (w + 100 + 100 * i))), (2, .int (nI (t + 1))), (3, .ref (A (w + 100 + 100 * i + 10 + 3 * t)))]) [1, 2, 0, 3] rfl ?_
          refine g_goto (pc := 50) C dX7_fetchDue_50 (tgt := 2) (by decide) ?_
          refine g_sub [0, 1, 2] rfl ?_
          exact ih (t + 1) (by omega) σ1 (by rw [he]; exact (fd1_n (by rw [← he]; exact miO_none c_23)).symm) hS1 hK1 hT1 hZ1 gl hVl hWl hf (by omega)
        ·
          obtain ⟨p0, hp0⟩ := miO_some c_23
          refine g_aload_n (pc := 26) C dX7_fetchDue_26 3 rfl ?_
          refine g_get (pc := 27) C (j := 1) ((WD.nd (i := i) hWl (by omega)).2.2.2.2.2 t (by omega)).1 rfl rfl (by decide) u_117 dX7_fetchDue_27 ?_
          refine g_aload_n (pc := 30) C dX7_fetchDue_30 0 rfl ?_
          refine g_get (pc := 31) C (j := 0) hVl rfl rfl (by decide) u_319 dX7_fetchDue_31 ?_
          refine g_get (pc := 34) C (j := 9) (WD.wb hWl).1 rfl rfl (by decide) u_265 dX7_fetchDue_34 ?_
          refine g_icmp_gt (pc := 37) C dX7_fetchDue_37 (tgt := 47) (by decide) (fun c_37 => ?_) (fun c_37 => ?_)
          ·
            rw [hp0] at c_37
            refine g_iinc (pc := 47) C dX7_fetchDue_47 (by decide) 2 rfl (v := nI (t + 1)) (nI_i1 _) (lv' := [(0, .ref (A (w + 15007))), (1, .ref (A (w + 100 + 100 * i))), (2, .int (nI (t + 1))), (3, .ref (A (w + 100 + 100 * i + 10 + 3 * t)))]) [1, 2, 0, 3] rfl ?_
            refine g_goto (pc := 50) C dX7_fetchDue_50 (tgt := 2) (by decide) ?_
            refine g_sub [0, 1, 2] rfl ?_
            exact ih (t + 1) (by omega) σ1 (by rw [he]; exact (fd1_w (by rw [← he]; exact hp0) (by rw [← he]; exact c_37)).symm) hS1 hK1 hT1 hZ1 gl hVl hWl hf (by omega)
          ·
            rw [hp0] at c_37
            refine g_aload_n (pc := 40) C dX7_fetchDue_40 0 rfl ?_
            refine g_aload_n (pc := 41) C dX7_fetchDue_41 1 rfl ?_
            refine g_iload_n (pc := 42) C dX7_fetchDue_42 2 rfl ?_
            refine g_aload_n (pc := 43) C dX7_fetchDue_43 3 rfl ?_
            refine g_callV (pc := 44) C (As := [.ref (A (w + 100 + 100 * i)), .int (nI t), .ref (A (w + 100 + 100 * i + 10 + 3 * t))]) (rest := []) (b := (w + 15007)) (c_X7_fetch A P gl w i t p0.1 p0.2 (by omega) (by omega) hp0 hS1 hVl hWl) hVl rfl rfl Y_X7_fetch u_545 N_X7_fetch ⟨by decide, by decide⟩ ⟨by decide, by decide⟩ (Nat.le_of_ble_eq_true rfl) rfl dX7_fetchDue_44 ?_
            rintro _ _ _ g_1 ⟨rfl, rfl, rfl, hw_2, hf_3⟩
            have h_4 := (hf_3 (w + 15007) (by omega)).trans hVl
            obtain ⟨σ5, hσ5⟩ : ∃ sM : Sg, sM = ftc σ1 i t p0.1 p0.2 := ⟨_, rfl⟩
            have hW_6 : WD A g_1 w (w + 15005) σ5 := by rw [hσ5]; exact hw_2
            clear hw_2
            have hK_σ5 : gK σ5 = gK σ := (congrArg gK hσ5).trans (ftc_K.trans hK1)
            have hT_σ5 : gT σ5 = gT σ := (congrArg gT hσ5).trans (ftc_T.trans hT1)
            have hZ_σ5 : gZ σ5 = gZ σ := (congrArg gZ hσ5).trans (ftc_Z.trans hZ1)
            show V K 0 0 P A g_1 [(0, .ref (A (w + 15007))), (1, .ref (A (w + 100 + 100 * i))), (2, .int (nI t)), (3, .ref (A (w + 100 + 100 * i + 10 + 3 * t)))] 47 []
            refine g_iinc (pc := 47) C dX7_fetchDue_47 (by decide) 2 rfl (v := nI (t + 1)) (nI_i1 _) (lv' := [(0, .ref (A (w + 15007))), (1, .ref (A (w + 100 + 100 * i))), (2, .int (nI (t + 1))), (3, .ref (A (w + 100 + 100 * i + 10 + 3 * t)))]) [1, 2, 0, 3] rfl ?_
            refine g_goto (pc := 50) C dX7_fetchDue_50 (tgt := 2) (by decide) ?_
            refine g_sub [0, 1, 2] rfl ?_
            exact ih (t + 1) (by omega) σ5 (by rw [hσ5, he]; exact (fd1_d (by rw [← he]; exact hp0) (by rw [← he]; exact fun e => c_37 e)).symm) (by rw [hσ5]; exact ftc_SW hS1 (by omega) hp0) hK_σ5 hT_σ5 hZ_σ5 _ h_4 hW_6 (hf.tr (fun k hk => by rw [hf_3 k (by omega)])) (by omega)
  exact lp_2 (_ + 1) 0 (Nat.zero_le _) σ rfl hS rfl rfl rfl _ hV hW FrV.rf (Nat.lt_succ_self _)
abbrev rm_X7_pass : Room := { frames := 6, cells := 0, slots := 0, locals := 143 }
theorem Y_X7_pass : pY yX7_pass cX7_pass 2 (Option.some Jvm.ClassFile.FieldType.int) := ⟨u_533, u_534, u_12, u_535⟩
theorem N_X7_pass : yX7_pass.cls ≠ "java/lang/invoke/MethodHandle" ∧ yX7_pass.cls ≠ "java/lang/invoke/VarHandle" ∧ (parseMethodDescriptor yX7_pass.desc).map (fun d => d.parameters.length) = some 0 := by decide +kernel
set_option maxRecDepth 20000 in
set_option maxHeartbeats 4000000 in
theorem c_X7_pass (A : Nat → Nat) (P : List Nat) (g : pM) (w : Nat) {B : Nat} {cs : List Nat} {σ : Sg} (hS : SW B cs σ) (hV : g (w + 15007) = ob 7 [.ref (A w)]) (hW : WD A g w (w + 15005) σ) : PM yX7_pass cX7_pass 2 (Option.some Jvm.ClassFile.FieldType.int) rm_X7_pass [.ref (A (w + 15007))] P A g (fun v g' => v = some (.int (gTi (pss σ))) ∧ WD A g' w (w + 15005) (pss σ) ∧ FrV g g' w) := by
  have hK := hS.2.1
  obtain ⟨hz1, hz2, hz3, hz4, hz5, hz6, hz7, hz8, hz9⟩ := hS.2.2.2.1
  refine px_intro (by decide +kernel) (Nat.le_of_ble_eq_true rfl) (fun K sz C R => ?_)
  show V K 0 0 P A g [(0, .ref (A (w + 15007)))] 0 []
  refine g_aload_n (pc := 0) C dX7_pass_0 0 rfl ?_
  refine g_get (pc := 1) C (j := 0) hV rfl rfl (by decide) u_319 dX7_pass_1 ?_
  refine g_dup (pc := 4) C dX7_pass_4 rfl ?_
  refine g_get (pc := 5) C (j := 9) (WD.wb hW).1 rfl rfl (by decide) u_265 dX7_pass_5 ?_
  refine g_iconst (pc := 8) C dX7_pass_8 (v := nI 1) rfl ?_
  refine g_iadd (pc := 9) C dX7_pass_9 (z := (gTi σ) + (nI 1)) rfl ?_
  refine g_put (pc := 10) C (j := 9) (WD.wb hW).1 rfl (by decide) (Nat.le_of_ble_eq_true rfl) u_265 rfl pfd_I rfl rfl dX7_pass_10 ?_
  obtain ⟨g_1, hg_1⟩ : ∃ yM : pM, yM = va_up g w (ob 9 [.ref (A (w + 15005)), .ref (A (w + 1)), .ref (A (w + 2)), .ref (A (w + 1700)), .ref (A (w + 3)), .ref (A (w + 6)), .ref (A (w + 5)), .int (nI (gK σ)), .int (nI (gT σ)), .int ((gTi σ) + (nI 1)), .int (nI (gX σ))]) := ⟨_, rfl⟩
  show V K 0 0 P A (va_up g w (ob 9 [.ref (A (w + 15005)), .ref (A (w + 1)), .ref (A (w + 2)), .ref (A (w + 1700)), .ref (A (w + 3)), .ref (A (w + 6)), .ref (A (w + 5)), .int (nI (gK σ)), .int (nI (gT σ)), .int ((gTi σ) + (nI 1)), .int (nI (gX σ))])) [(0, .ref (A (w + 15007)))] 13 []
  rw [← hg_1]
  have h_2 : g_1 (w + 15007) = ob 7 [.ref (A w)] := by rw [hg_1, va_up_ne _ _ (show w + 15007 ≠ w from by omega)]; exact hV
  have hW_3 : WD A g_1 w (w + 15005) (sTi σ (gTi σ + 1)) := WD.ob hW hg_1 rfl rfl rfl rfl rfl rfl (by first | exact hW.2.2.2.2.2.2.2.2 | omega)
  obtain ⟨σ4, hσ4⟩ : ∃ sM : Sg, sM = sTi σ (gTi σ + 1) := ⟨_, rfl⟩
  have hW_5 : WD A g_1 w (w + 15005) σ4 := by rw [hσ4]; exact hW_3
  clear hW_3
  have hK_σ4 : gK σ4 = gK σ := (congrArg gK hσ4).trans (rfl : gK σ = gK σ)
  have hT_σ4 : gT σ4 = gT σ := (congrArg gT hσ4).trans (rfl : gT σ = gT σ)
  have hZ_σ4 : gZ σ4 = gZ σ := (congrArg gZ hσ4).trans (rfl : gZ σ = gZ σ)
  obtain ⟨σ0, hs0⟩ : ∃ sM : Sg, sM = σ4 := ⟨_, rfl⟩
  rw [← hs0] at hW_5
  rw [← hs0] at hK_σ4
  rw [← hs0] at hT_σ4
  rw [← hs0] at hZ_σ4
  have e0 : σ0 = sTi σ (gTi σ + 1) := by rw [hs0, hσ4]
  have hS0 : SW B cs σ0 := by rw [e0]; exact sTi_SW hS
  refine g_iconst (pc := 13) C dX7_pass_13 (v := nI 0) rfl ?_
  refine g_istore_n (pc := 14) C dX7_pass_14 (by decide) (lv' := [(0, .ref (A (w + 15007))), (1, .int (nI 0))]) [1, 0] rfl ?_
  have lp_15 : ∀ (fuel : Nat) (i : Nat) (hi : i ≤ gK σ) (σ1 : Sg) (he : σ1 = psF σ0 i) (hS1 : SW B cs σ1) (hK1 : gK σ1 = gK σ) (hT1 : gT σ1 = gT σ) (hZ1 : gZ σ1 = gZ σ) (gl : pM) (hVl : gl (w + 15007) = ob 7 [.ref (A w)]) (hWl : WD A gl w (w + 15005) (σ1)) (hf : FrV g gl w), gK σ - i < fuel → V K 0 0 P A gl [(0, .ref (A (w + 15007))), (1, .int (nI i))] 15 [] := by
    intro fuel
    induction fuel with
    | zero => intro i hi σ1 he hS1 hK1 hT1 hZ1 gl hVl hWl hf hμ; exact absurd hμ (Nat.not_lt_zero _)
    | succ fuel ih =>
      intro i hi σ1 he hS1 hK1 hT1 hZ1 gl hVl hWl hf hμ
      refine g_iload_n (pc := 15) C dX7_pass_15 1 rfl ?_
      refine g_aload_n (pc := 16) C dX7_pass_16 0 rfl ?_
      refine g_get (pc := 17) C (j := 0) hVl rfl rfl (by decide) u_319 dX7_pass_17 ?_
      refine g_get (pc := 20) C (j := 7) (WD.wb hWl).1 rfl rfl (by decide) u_260 dX7_pass_20 ?_
      refine g_icmp_ge (pc := 23) C dX7_pass_23 (tgt := 58) (by decide) (fun c_23 => ?_) (fun c_23 => ?_)
      ·
        have c_23 : (gK σ1) ≤ i := (nI_leI (by omega) (by omega)).mp c_23
        refine g_aload_n (pc := 58) C dX7_pass_58 0 rfl ?_
        refine g_get (pc := 59) C (j := 0) hVl rfl rfl (by decide) u_319 dX7_pass_59 ?_
        refine g_get (pc := 62) C (j := 9) (WD.wb hWl).1 rfl rfl (by decide) u_265 dX7_pass_62 ?_
        exact g_iret (pc := 65) C R ⟨rfl, rfl, by rw [show pss σ = σ1 from by rw [he, e0, show i = gK σ by omega]; rfl], by rw [show pss σ = σ1 from by rw [he, e0, show i = gK σ by omega]; rfl]; exact hWl, hf⟩ (by decide) (by decide) dX7_pass_65
      ·
        have c_23 : ¬ (gK σ1) ≤ i := fun h => c_23 ((nI_leI (a := (gK σ1)) (b := i) (by omega) (by omega)).mpr h)
        refine g_aload_n (pc := 26) C dX7_pass_26 0 rfl ?_
        refine g_get (pc := 27) C (j := 0) hVl rfl rfl (by decide) u_319 dX7_pass_27 ?_
        refine g_iload_n (pc := 30) C dX7_pass_30 1 rfl ?_
        refine g_callV (pc := 31) C (As := [.int (nI i)]) (rest := []) (b := w) (c_X9_nodeAt A P gl w i (by omega) (WD.wb hWl)) (WD.wb hWl).1 rfl rfl Y_X9_nodeAt u_536 N_X9_nodeAt ⟨by decide, by decide⟩ ⟨by decide, by decide⟩ (Nat.le_of_ble_eq_true rfl) rfl dX7_pass_31 ?_
        rintro _ _ _ _ ⟨rfl, rfl, rfl, rfl⟩
        show V K 0 0 P A gl [(0, .ref (A (w + 15007))), (1, .int (nI i))] 34 [.ref (A (w + 100 + 100 * i))]
        refine g_get (pc := 34) C (j := 1) (WD.nd (i := i) hWl (by omega)).1 rfl rfl (by decide) u_136 dX7_pass_34 ?_
        refine g_if_eq (pc := 37) C dX7_pass_37 (tgt := 52) (by decide) (fun c_37 => ?_) (fun c_37 => ?_)
        ·
          refine g_iinc (pc := 52) C dX7_pass_52 (by decide) 1 rfl (v := nI (i + 1)) (nI_i1 _) (lv' := [(0, .ref (A (w + 15007))), (1, .int (nI (i + 1)))]) [1, 0] rfl ?_
          refine g_goto (pc := 55) C dX7_pass_55 (tgt := 15) (by decide) ?_
          exact ih (i + 1) (by omega) σ1 (by rw [he]; exact (if_neg (by rw [← he, show lvd σ1 i = false from b32_yes c_37]; decide)).symm) hS1 hK1 hT1 hZ1 gl hVl hWl hf (by omega)
        ·
          refine g_aload_n (pc := 40) C dX7_pass_40 0 rfl ?_
          refine g_aload_n (pc := 41) C dX7_pass_41 0 rfl ?_
          refine g_get (pc := 42) C (j := 0) hVl rfl rfl (by decide) u_319 dX7_pass_42 ?_
          refine g_iload_n (pc := 45) C dX7_pass_45 1 rfl ?_
          refine g_callV (pc := 46) C (As := [.int (nI i)]) (rest := [.ref (A (w + 15007))]) (b := w) (c_X9_nodeAt A P gl w i (by omega) (WD.wb hWl)) (WD.wb hWl).1 rfl rfl Y_X9_nodeAt u_536 N_X9_nodeAt ⟨by decide, by decide⟩ ⟨by decide, by decide⟩ (Nat.le_of_ble_eq_true rfl) rfl dX7_pass_46 ?_
          rintro _ _ _ _ ⟨rfl, rfl, rfl, rfl⟩
          show V K 0 0 P A gl [(0, .ref (A (w + 15007))), (1, .int (nI i))] 49 [.ref (A (w + 100 + 100 * i)), .ref (A (w + 15007))]
          refine g_callV (pc := 49) C (As := [.ref (A (w + 100 + 100 * i))]) (rest := []) (b := (w + 15007)) (c_X7_fetchDue A P gl w i (by omega) hS1 hVl hWl) hVl rfl rfl Y_X7_fetchDue u_537 N_X7_fetchDue ⟨by decide, by decide⟩ ⟨by decide, by decide⟩ (Nat.le_of_ble_eq_true rfl) rfl dX7_pass_49 ?_
          rintro _ _ _ g_6 ⟨rfl, rfl, rfl, hw_7, hf_8⟩
          have h_9 := (hf_8 (w + 15007) (by omega)).trans hVl
          obtain ⟨σ10, hσ10⟩ : ∃ sM : Sg, sM = fdF σ1 i (gT σ1) := ⟨_, rfl⟩
          have hW_11 : WD A g_6 w (w + 15005) σ10 := by rw [hσ10]; exact hw_7
          clear hw_7
          have hK_σ10 : gK σ10 = gK σ := (congrArg gK hσ10).trans (fdF_K.trans hK1)
          have hT_σ10 : gT σ10 = gT σ := (congrArg gT hσ10).trans (fdF_T.trans hT1)
          have hZ_σ10 : gZ σ10 = gZ σ := (congrArg gZ hσ10).trans (fdF_Z.trans hZ1)
          show V K 0 0 P A g_6 [(0, .ref (A (w + 15007))), (1, .int (nI i))] 52 []
          refine g_iinc (pc := 52) C dX7_pass_52 (by decide) 1 rfl (v := nI (i + 1)) (nI_i1 _) (lv' := [(0, .ref (A (w + 15007))), (1, .int (nI (i + 1)))]) [1, 0] rfl ?_
          refine g_goto (pc := 55) C dX7_pass_55 (tgt := 15) (by decide) ?_
          exact ih (i + 1) (by omega) σ10 (by rw [hσ10, he]; exact (if_pos (by rw [← he]; exact b32_no c_37)).symm) (by rw [hσ10]; exact fdF_SW hS1 (by omega) _) hK_σ10 hT_σ10 hZ_σ10 _ h_9 hW_11 (hf.tr (fun k hk => by rw [hf_8 k (by omega)])) (by omega)
  exact lp_15 (_ + 1) 0 (Nat.zero_le _) σ0 rfl hS0 hK_σ4 hT_σ4 hZ_σ4 _ h_2 hW_5 (fun k hk => by rw [hg_1, va_up_ne _ _ (by omega)]) (Nat.lt_succ_self _)
