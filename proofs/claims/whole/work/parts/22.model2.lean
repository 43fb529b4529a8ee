-- PART 22: the reference's views
theorem SW.a16 {B r : Nat} {cs : List Nat} {σ : Sg} (h : SW B cs σ) (hr : r < gK σ) : ∀ x ∈ nAc (gN σ r), x < 16 := fun x hx => Nat.lt_of_lt_of_le ((h.nw hr).2.1 x hx) h.2.1
theorem SW.p16 {B r : Nat} {cs : List Nat} {σ : Sg} (h : SW B cs σ) (hr : r < gK σ) : ∀ x ∈ nPa (gN σ r), x < 16 := fun x hx => Nat.lt_of_lt_of_le ((h.nw hr).2.2.1 x hx) h.2.1
theorem SW.s16 {B r : Nat} {cs : List Nat} {σ : Sg} (h : SW B cs σ) (hr : r < gK σ) : ∀ q, nAs (gN σ r) = some q → q < 16 := fun x hx => Nat.lt_of_lt_of_le ((h.nw hr).2.2.2.2.2.2.1 x hx) h.2.1
theorem dS_nx {cs : List Nat} {σ : Sg} {n : Nat} (h : cs.length = 0 ∨ gX σ < cs.length) : cs.length = 0 ∨ gX (dS cs σ n) < cs.length := by
  simp only [dS]
  split
  · exact h
  · rename_i e
    have : ¬ cs.length = 0 := fun q => e (Or.inr q)
    refine Or.inr ?_
    show (if gX σ + 1 < cs.length then gX σ + 1 else 0) < cs.length
    split
    · assumption
    · omega
theorem wof_er {l : List Nat} {q : Nat} (h : l.Nodup) : wof (some q) none l = l.erase q := by
  rw [List.Nodup.erase_eq_filter h]
  simp only [wof]
  congr 1
  funext x
  by_cases e : x = q
  · subst e; simp
  · have e2 : ¬ q = x := fun z => e z.symm
    have h1 : (some q == some x) = false := by simp [e2]
    have h2 : (x != q) = true := by simp [e]
    rw [h1, h2]
    rfl
theorem wof_sub {p q : Option Nat} {l : List Nat} (h : l.Nodup) : (wof p q l).Nodup := List.Pairwise.sublist List.filter_sublist h
/-- a row's cells from b on are those of l, then what they were -/
theorem zls_p {Z : Nat → Int32} {b c d : Nat} {l : List Nat} {v : Nat} (hc : c = b + l.length) (hd : d = l.length + 1) : upd (zls Z b l l.length) c (nI v) = zls Z b (l ++ [v]) d := by
  subst hc hd
  funext j
  simp only [upd, zls]
  by_cases h : j = b + l.length
  · subst h
    rw [if_pos rfl, if_pos (show b ≤ b + l.length ∧ b + l.length < b + (l.length + 1) by omega), show b + l.length - b = l.length by omega, if_pos (by simp)]
    simp [List.getD]
  · rw [if_neg h]
    by_cases h2 : b ≤ j ∧ j < b + l.length
    · rw [if_pos h2, if_pos (show b ≤ j ∧ j < b + (l.length + 1) by omega), if_pos (show j - b < l.length by omega), if_pos (show j - b < (l ++ [v]).length by rw [List.length_append]; omega)]
      simp [List.getD, List.getElem?_append_left (show j - b < l.length by omega)]
    · rw [if_neg h2, if_neg (by omega)]
theorem RZ.fgt {Z Y Z1 : Nat → Int32} {σ : Sg} {r t q c n : Nat} (h : RZ Z σ) (hr : r < gK σ) (ht : t < 24) {l : List Nat} (hl : l = wof (some q) none (miL (nMi (gN σ r) t))) (hn : n = l.length) (hc : c = n) (ey : Y = zls Z (1920 + 8 * (24 * r + t)) l c) (e1 : Z1 = upd Y (1536 + (24 * r + t)) (nI n)) : RZ Z1 (miS σ r t (muq q (nMi (gN σ r) t))) := by
  subst hn hc
  have hk := h.k16
  have h5 := h.ml5 hr ht
  have hlen : l.length ≤ (miL (nMi (gN σ r) t)).length := by rw [hl]; exact List.length_filter_le _ _
  have e : miL (muq q (nMi (gN σ r) t)) = l := by
    rw [hl, wof_er (h.mlN hr ht)]
    cases hm : nMi (gN σ r) t with
    | none => rfl
    | some p => rfl
  have o : ∀ j, ¬ (j = 1536 + (24 * r + t) ∨ (1920 + 8 * (24 * r + t) ≤ j ∧ j < 1928 + 8 * (24 * r + t))) → Z1 j = Z j := fun j hj => zne e1 (by omega) (zls_o ey (by omega) rfl)
  refine h.wMi hr ht (fun j hj => o j (by omega)) ⟨by rw [e]; omega, (o _ (by omega)).trans ((h.rMi rfl hr ht).trans ?_), fun p hp => (o _ (by omega)).trans ?_, by rw [e]; exact zeq e1 rfl, by rw [e, hl]; exact wof_sub (h.mlN hr ht), fun k hk => by rw [e] at hk ⊢; exact zne e1 (by omega) (zls_i ey hk hk)⟩
  · cases nMi (gN σ r) t <;> rfl
  · cases hm : nMi (gN σ r) t with
    | none => rw [hm] at hp; cases hp
    | some p0 => rw [hm] at hp; cases hp; exact h.rHr (p := p0) rfl hr ht hm
theorem bo_tb {m q x : Nat} (hx : x < 16) (hq : q < 16) : (bo m q).testBit x = (m.testBit x && !(decide (q = x))) := by
  have h : ∀ q x : Fin 16, (65535 ^^^ 2 ^ q.val).testBit x.val = !(decide (q.val = x.val)) := by decide +kernel
  simp only [bo, Nat.testBit_and]
  rw [h ⟨q, hq⟩ ⟨x, hx⟩]
theorem bo_no {m q : Nat} (hm : m < 65536) (hq : q < 16) (h : m.testBit q = false) : bo m q = m := by
  apply Nat.eq_of_testBit_eq
  intro i
  by_cases hi : i < 16
  · rw [bo_tb hi hq]
    by_cases e : q = i
    · subst e; rw [h]; rfl
    · simp [e]
  · have e1 : m.testBit i = false := Nat.testBit_lt_two_pow (Nat.lt_of_lt_of_le hm (show 65536 ≤ 2 ^ i from Nat.le_trans (show 65536 ≤ 2 ^ 16 from Nat.le_refl _) (Nat.pow_le_pow_right (by omega) (by omega))))
    simp only [bo, Nat.testBit_and, e1]
    rfl
theorem getD_er {l : List Nat} {k j : Nat} : (l.eraseIdx k).getD j 0 = if j < k then l.getD j 0 else l.getD (j + 1) 0 := by
  simp only [List.getD, List.getElem?_eraseIdx]
  split <;> rfl
/-- the active view without its k-th, which was q: bit and place -/
theorem RZ.eAc {Z Z1 Y : Nat → Int32} {σ : Sg} {r q k b : Nat} (h : RZ Z σ) (hr : r < gK σ) (hk : k < (nAc (gN σ r)).length) (hi : (nAc (gN σ r)).idxOf q = k) (hq : (nAc (gN σ r)).getD k 0 = q) (h16 : ∀ x ∈ nAc (gN σ r), x < 16) (e1 : Z1 = upd Z (16 + r) (nI ((nAc (gN σ r)).length - 1))) (ey : Y = sh (sh Z1 (96 + 5 * r + k) (96 + 5 * r + b)) (176 + 5 * r + k) (176 + 5 * r + b)) (hb : b + 1 = (nAc (gN σ r)).length) : RZ Y (sNd σ r (sLz (sAc (gN σ r) ((nAc (gN σ r)).erase q)) (bo (nLz (gN σ r)) q))) := by
  have hk16 := h.k16
  have h8 := h.ac5 hr
  have hlen : ((nAc (gN σ r)).eraseIdx k).length = (nAc (gN σ r)).length - 1 := List.length_eraseIdx_of_lt hk
  rw [List.erase_eq_eraseIdx_of_idxOf hi]
  have hnd := h.acN hr
  obtain ⟨Y1, hY1⟩ : ∃ y, y = sh Z1 (96 + 5 * r + k) (96 + 5 * r + b) := ⟨_, rfl⟩
  rw [← hY1] at ey
  refine h.wAc hr (fun j hj => zsh ey (by omega) (zsh hY1 (by omega) (zne e1 (by omega) rfl))) ⟨by omega, by rw [hlen]; exact zsh ey (by omega) (zsh hY1 (by omega) (zeq e1 rfl)), List.Pairwise.sublist (List.eraseIdx_sublist _ k) hnd, fun j hj => ?_⟩
  have hjl := hj
  rw [hlen] at hj
  have hne : ((nAc (gN σ r)).eraseIdx k).getD j 0 ≠ q := by
    intro e
    have hm : q ∈ (nAc (gN σ r)).eraseIdx k := e ▸ getD_mem hjl
    rw [← List.erase_eq_eraseIdx_of_idxOf hi] at hm
    exact (List.Nodup.mem_erase_iff hnd).mp hm |>.1 rfl
  have hx16 : ((nAc (gN σ r)).eraseIdx k).getD j 0 < 16 := h16 _ (List.mem_of_mem_eraseIdx (getD_mem hjl))
  have hqm : q ∈ nAc (gN σ r) := hq ▸ getD_mem hk
  rw [bo_tb hx16 (h16 q hqm)]
  have hd : decide (q = ((nAc (gN σ r)).eraseIdx k).getD j 0) = false := decide_eq_false (fun e => hne e.symm)
  rw [hd, Bool.not_false, Bool.and_true, getD_er]
  by_cases c : j < k
  · rw [if_pos c]
    exact ⟨zsh ey (by omega) (zsh hY1 (by omega) (zne e1 (by omega) (h.rAc rfl hr (by omega)))), zsh ey (by omega) (zsh hY1 (by omega) (zne e1 (by omega) (h.rLz rfl hr (by omega))))⟩
  · rw [if_neg c]
    exact ⟨zsh ey (by omega) (zshi hY1 (by omega) (by omega) (zne e1 (by omega) (h.rAc (by omega) hr (by omega)))), zshi ey (by omega) (by omega) (zsh hY1 (by omega) (zne e1 (by omega) (h.rLz (by omega) hr (by omega))))⟩
theorem zsh2 {Z Z' : Nat → Int32} {a b c d j : Nat} {x : Int32} (h : Z' = sh (sh Z a b) c d) (hn : (j < a ∨ b ≤ j) ∧ (j < c ∨ d ≤ j)) (hx : Z j = x) : Z' j = x := zsh h hn.2 (zsh rfl hn.1 hx)
theorem upd_sh {S : Nat → Int32} {a b k : Nat} {v : Int32} (h : k < a) : upd (sh S a b) k v = sh (upd S k v) a b := by
  funext j
  simp only [upd, sh]
  by_cases e : j = k
  · subst e
    rw [if_pos rfl, if_neg (show ¬ (a ≤ j ∧ j < b) by omega), if_pos rfl]
  · by_cases q : a ≤ j ∧ j < b
    · simp only [if_neg e, if_pos q, if_neg (show ¬ j + 1 = k by omega)]
    · simp only [if_neg e, if_neg q]
/-- both views' rows go one place down -/
theorem sh2_s {Z : Nat → Int32} {a1 b1 a2 b2 : Nat} {v1 v2 : Int32} (c1 c2 d1 d2 : Nat) (h1 : a1 ≤ b1) (h2 : a2 ≤ b2) (hab : b1 + 1 < a2) (hc1 : c1 = b1 + 1) (hc2 : c2 = b2 + 1) (hd1 : d1 = b1 + 1) (hd2 : d2 = b2 + 1) (hv1 : Z c1 = v1) (hv2 : Z c2 = v2) : upd (upd (sh (sh Z a1 b1) a2 b2) b1 v1) b2 v2 = sh (sh Z a1 d1) a2 d2 := by
  rw [upd_sh (by omega), zsh_s c1 d1 h1 hc1 hd1 hv1, zsh_s c2 d2 h2 hc2 hd2 (zsh rfl (by omega) hv2)]
/-- node r without link q, its first t missed tales freed of q -/
def ulF (σ : Sg) (r q t : Nat) : Sg := sNd σ r (sMi (sLz (sAc (gN σ r) ((nAc (gN σ r)).erase q)) (bo (nLz (gN σ r)) q)) (mix2 (fun t => muq q (nMi (gN σ r) t)) (nMi (gN σ r)) t))
theorem ulF_0 {σ : Sg} {r q : Nat} : ulF σ r q 0 = sNd σ r (sLz (sAc (gN σ r) ((nAc (gN σ r)).erase q)) (bo (nLz (gN σ r)) q)) := by
  simp only [ulF, mix2_0]
theorem sNd_2 {σ : Sg} {r : Nat} {d e : Nd} : sNd (sNd σ r d) r e = sNd σ r e := by
  have h : va_up (va_up (gN σ) r d) r e = va_up (gN σ) r e := bx_uu ..
  show (va_up (va_up (gN σ) r d) r e, σ.2) = _
  rw [h]
theorem ulF_s {σ : Sg} {r q t : Nat} : miS (ulF σ r q t) r t (muq q (nMi (gN (ulF σ r q t) r) t)) = ulF σ r q (t + 1) := by
  have e : nMi (gN (ulF σ r q t) r) t = nMi (gN σ r) t := by
    simp only [ulF, gN_self]
    exact mix2_g (fun t => muq q (nMi (gN σ r) t)) (nMi (gN σ r))
  rw [e]
  show sNd (ulF σ r q t) r (sMi (gN (ulF σ r q t) r) (va_up (nMi (gN (ulF σ r q t) r)) t (muq q (nMi (gN σ r) t)))) = _
  simp only [ulF, gN_self, sNd_2]
  rw [← mix2_s]
theorem ulF_K {σ : Sg} {r q t : Nat} : gK (ulF σ r q t) = gK σ := rfl
theorem ulF_a {σ : Sg} {r q t : Nat} : nAc (gN (ulF σ r q t) r) = (nAc (gN σ r)).erase q := by simp only [ulF, gN_self]
theorem ulF_m {B r q : Nat} {cs : List Nat} {σ : Sg} (h : SW B cs σ) (hr : r < gK σ) (t : Nat) : ∀ x ∈ miL (nMi (gN (ulF σ r q t) r) t), x < 16 := by
  have e : nMi (gN (ulF σ r q t) r) t = nMi (gN σ r) t := by
    simp only [ulF, gN_self]
    exact mix2_g (fun t => muq q (nMi (gN σ r) t)) (nMi (gN σ r))
  rw [e]
  intro x hx
  cases hm : nMi (gN σ r) t with
  | none => rw [hm] at hx; cases hx
  | some p => rw [hm] at hx; exact h.a16 hr x (((h.nw hr).2.2.2.2.2.2.2.2.2.1 t p.1 p.2 hm).2.2 x hx)
/-- tales are numbered below 24 -/
theorem ulF_e {B r q : Nat} {cs : List Nat} {σ : Sg} (h : SW B cs σ) (hr : r < gK σ) : ulF σ r q 24 = ulS σ r q := by
  have e : mix2 (fun t => muq q (nMi (gN σ r) t)) (nMi (gN σ r)) 24 = fun t => muq q (nMi (gN σ r) t) := by
    funext t
    by_cases ht : t < 24
    · exact mix2_e (fun t => muq q (nMi (gN σ r) t)) (nMi (gN σ r)) ht
    · simp only [mix2, if_neg ht]
      cases hm : nMi (gN σ r) t with
      | none => rfl
      | some p => exact absurd (Nat.lt_of_lt_of_le ((h.nw hr).2.2.2.2.2.2.2.2.2.1 t p.1 p.2 hm).1 h.2.2.1) ht
  simp only [ulF, e]
  rfl
theorem ulS_n {B r q : Nat} {cs : List Nat} {σ : Sg} (h : SW B cs σ) (hr : r < gK σ) (hq : q < 16) (hn : q ∉ nAc (gN σ r)) : ulS σ r q = σ := by
  have n := h.nw hr
  have e : uln (gN σ r) q = gN σ r := by
    have e1 : (nAc (gN σ r)).erase q = nAc (gN σ r) := List.erase_of_not_mem hn
    have e2 : bo (nLz (gN σ r)) q = nLz (gN σ r) := bo_no n.1.1 hq (by
      cases e : (nLz (gN σ r)).testBit q with
      | false => rfl
      | true => exact absurd (n.2.2.2.2.2.2.2.1 q e) hn)
    have e3 : (fun t => muq q (nMi (gN σ r) t)) = nMi (gN σ r) := by
      funext t
      cases hm : nMi (gN σ r) t with
      | none => rfl
      | some p =>
        show some (p.1, p.2.erase q) = some p
        rw [List.erase_of_not_mem (fun z => hn ((n.2.2.2.2.2.2.2.2.2.1 t p.1 p.2 hm).2.2 q z))]
    show ((gN σ r).1, (nAc (gN σ r)).erase q, nPa (gN σ r), bo (nLz (gN σ r)) q, nAs (gN σ r), nAk (gN σ r), nGo (gN σ r), nHo (gN σ r), fun t => muq q (nMi (gN σ r) t)) = gN σ r
    rw [e1, e2, e3]
  show sNd σ r (uln (gN σ r) q) = σ
  rw [e]
  exact sNd_id
theorem RZ.lzz {Z Z1 : Nat → Int32} {σ : Sg} {r q k m : Nat} {b : Bool} (h : RZ Z σ) (hr : r < gK σ) (hk : k < (nAc (gN σ r)).length) (hq : (nAc (gN σ r)).getD k 0 = q) (h16 : ∀ x ∈ nAc (gN σ r), x < 16) (hm : ∀ x, x < 16 → m.testBit x = if q = x then b else (nLz (gN σ r)).testBit x) (e1 : Z1 = upd Z (176 + 5 * r + k) (b32 b)) : RZ Z1 (sNd σ r (sLz (gN σ r) m)) := by
  have hk16 := h.k16
  have h8 := h.ac5 hr
  have hnd := h.acN hr
  refine h.wAc (l := nAc (gN σ r)) hr (fun j hj => zne e1 (by omega) rfl) ⟨h8, zne e1 (by omega) (h.rAn rfl hr), hnd, fun j hj => ⟨zne e1 (by omega) (h.rAc rfl hr hj), ?_⟩⟩
  rw [hm _ (h16 _ (getD_mem hj))]
  by_cases e : j = k
  · subst e
    rw [if_pos hq.symm]
    exact zeq e1 rfl
  · have hne : ¬ q = (nAc (gN σ r)).getD j 0 := by
      intro z
      rw [← hq] at z
      rw [List.getD, List.getD, List.getElem?_eq_getElem hj, List.getElem?_eq_getElem hk] at z
      exact e ((List.getElem_inj hnd).mp z).symm
    rw [if_neg hne]
    exact zne e1 (by omega) (h.rLz rfl hr hj)
theorem RZ.sEg {Z Z1 : Nat → Int32} {σ : Sg} {r q k : Nat} (h : RZ Z σ) (hr : r < gK σ) (hk : k < (nAc (gN σ r)).length) (hq : (nAc (gN σ r)).getD k 0 = q) (h16 : ∀ x ∈ nAc (gN σ r), x < 16) (e1 : Z1 = upd Z (176 + 5 * r + k) (nI 0)) : RZ Z1 (egS σ r q) := by
  have hq16 : q < 16 := hq ▸ h16 _ (getD_mem hk)
  refine RZ.lzz (b := false) h hr hk hq h16 (fun x hx => ?_) e1
  rw [bo_tb hx hq16]
  by_cases e : q = x
  · rw [if_pos e]; simp [e]
  · rw [if_neg e]; simp [e]
theorem RZ.sLa {Z Z1 : Nat → Int32} {σ : Sg} {r q k : Nat} (h : RZ Z σ) (hr : r < gK σ) (hk : k < (nAc (gN σ r)).length) (hq : (nAc (gN σ r)).getD k 0 = q) (h16 : ∀ x ∈ nAc (gN σ r), x < 16) (e1 : Z1 = upd Z (176 + 5 * r + k) (nI 1)) : RZ Z1 (lzS σ r q) := by
  have hq16 : q < 16 := hq ▸ h16 _ (getD_mem hk)
  refine RZ.lzz (b := true) h hr hk hq h16 (fun x hx => ?_) e1
  rw [Nat.testBit_or, Nat.testBit_two_pow]
  by_cases e : q = x
  · rw [if_pos e]; simp [e]
  · rw [if_neg e]; simp [e]
-- the two scratch rows
/-- what a method changes that works with some of the numbers -/
def FrZ (g g' : pM) (m : Nat) : Prop := ∀ k, k ≠ m + 1 → k ≠ m + 4 → g' k = g k
theorem FrZ.rf {g : pM} {m : Nat} : FrZ g g m := fun _ _ _ => rfl
theorem FrZ.tr {g g1 g2 : pM} {m : Nat} (h : FrZ g g1 m) (h2 : FrZ g1 g2 m) : FrZ g g2 m := fun k a b => (h2 k a b).trans (h k a b)
theorem FrZ.at {g g' : pM} {m k : Nat} {e : pE} (h : FrZ g g' m) (hk : k ≠ m + 1 ∧ k ≠ m + 4) (he : g k = e) : g' k = e := (h k hk.1 hk.2).trans he
theorem SO.frz {g g' : pM} {c cap m : Nat} {l : List Nat} (h : SO g c cap l) (hf : FrZ g g' m) (hd : c ≠ m + 1 ∧ c ≠ m + 4) : SO g' c cap l := by
  obtain ⟨h1, r, h2, h3⟩ := h
  exact ⟨h1, r, hf.at hd h2, h3⟩
theorem MC.frz {g g' : pM} {m m2 : Nat} {cs : List Nat} (h : MC g m cs) (hf : FrZ g g' m2) (hd : m + 2 ≠ m2 + 1 ∧ m + 2 ≠ m2 + 4) : MC g' m cs := ⟨h.1.frz hf hd, h.2⟩
theorem Fr.z {g g' : pM} {m lo hi : Nat} (h : Fr g g' lo hi) (hd : (lo = m + 1 ∧ hi = m + 2) ∨ (lo = m + 4 ∧ hi = m + 5)) : FrZ g g' m := fun k a b => h k (by omega)
theorem SO.push {g' : pM} {c cap v : Nat} {l : List Nat} {r : Nat → Int32} (hr : ∀ k, k < l.length → r k = nI (l.getD k 0)) (hc : l.length < cap) (hg : g' c = ai 0 cap (upd r l.length (nI v))) : SO g' c cap (l ++ [v]) :=
  ⟨by rw [List.length_append, List.length_singleton]; omega, _, hg, co_push hr⟩
theorem so_er {l : List Nat} {row : Nat → Int32} {s j : Nat} (hs : s < l.length) (hj : l.length ≤ j + 1) (hrow : ∀ i, i < l.length → row i = nI (l.getD i 0)) : ∀ i, i < (l.eraseIdx s).length → sh row s j i = nI ((l.eraseIdx s).getD i 0) := by
  intro i hi
  rw [List.length_eraseIdx_of_lt hs] at hi
  rw [getD_er]
  simp only [sh]
  by_cases h : i < s
  · rw [if_pos h, if_neg (by omega)]
    exact hrow i (by omega)
  · rw [if_neg h, if_pos (by omega)]
    exact hrow (i + 1) (by omega)
theorem shr_bit {m q : Nat} (hm : m < 65536) (hq : q < 16) : (nI m >>> (nI q &&& 31)) &&& nI 1 = b32 (m.testBit q) := by
  have e1 : nI m >>> (nI q &&& 31) = nI (m / 2 ^ q) := pk_shrN (by omega) _ q (by
    have h : ∀ q : Fin 16, (((nI q.val &&& 31 : Int32).toBitVec).smod 32).toNat = q.val := by decide +kernel
    exact h ⟨q, hq⟩)
  rw [e1, fa_and]
  have e2 : m / 2 ^ q &&& 1 = (m.testBit q).toNat := by
    rw [Nat.and_one_is_mod, Nat.testBit_eq_decide_div_mod_eq]
    have : m / 2 ^ q % 2 = 0 ∨ m / 2 ^ q % 2 = 1 := by omega
    rcases this with h | h <;> simp [h]
  rw [e2]
  cases m.testBit q <;> rfl
/-- what a call of the reference changes: not the coins, not what is kept -/
def FrA (g g' : pM) (m : Nat) : Prop := ∀ k, k < m ∨ k = m + 2 ∨ m + 6 ≤ k → g' k = g k
theorem FrA.rf {g : pM} {m : Nat} : FrA g g m := fun _ _ => rfl
theorem FrA.tr {g g1 g2 : pM} {m : Nat} (h : FrA g g1 m) (h2 : FrA g1 g2 m) : FrA g g2 m := fun k a => (h2 k a).trans (h k a)
theorem FrA.at {g g' : pM} {m k : Nat} {e : pE} (h : FrA g g' m) (hk : k < m ∨ k = m + 2 ∨ m + 6 ≤ k) (he : g k = e) : g' k = e := (h k hk).trans he
theorem SO.fra {g g' : pM} {c cap m : Nat} {l : List Nat} (h : SO g c cap l) (hf : FrA g g' m) (hd : c < m ∨ c = m + 2 ∨ m + 6 ≤ c) : SO g' c cap l := by
  obtain ⟨h1, r, h2, h3⟩ := h
  exact ⟨h1, r, hf.at hd h2, h3⟩
theorem MC.fra {g g' : pM} {m m2 : Nat} {cs : List Nat} (h : MC g m cs) (hf : FrA g g' m2) (hd : m + 2 < m2 ∨ m + 2 = m2 + 2 ∨ m2 + 6 ≤ m + 2) : MC g' m cs := ⟨h.1.fra hf hd, h.2⟩
theorem Fr.a {g g' : pM} {m lo hi : Nat} (h : Fr g g' lo hi) (hd : m ≤ lo ∧ hi ≤ m + 6 ∧ (hi ≤ m + 2 ∨ m + 3 ≤ lo)) : FrA g g' m := fun k a => h k (by omega)
theorem FrZ.a {g g' : pM} {m : Nat} (h : FrZ g g' m) : FrA g g' m := fun k a => h k (by omega) (by omega)
abbrev rm_X11_forgetTeller : Room := { frames := 0, cells := 0, slots := 0, locals := 0 }
theorem Y_X11_forgetTeller : pY yX11_forgetTeller cX11_forgetTeller 6 (Option.none : Option Jvm.ClassFile.FieldType) := ⟨u_1043, us_25, u_13, u_1044⟩
theorem N_X11_forgetTeller : yX11_forgetTeller.cls ≠ "java/lang/invoke/MethodHandle" ∧ yX11_forgetTeller.cls ≠ "java/lang/invoke/VarHandle" ∧ (parseMethodDescriptor yX11_forgetTeller.desc).map (fun d => d.parameters.length) = some 2 := by decide +kernel
set_option maxRecDepth 20000 in
set_option maxHeartbeats 4000000 in
theorem c_X11_forgetTeller (A : Nat → Nat) (P : List Nat) (g : pM) (m : Nat) {cs : List Nat} {lm gm : Nat} {Z : Nat → Int32} {σ : Sg} (r t q : Nat) (hr : r < gK σ) (ht : t < 24) (hq : q < 16) (h16 : ∀ x ∈ (miL (nMi (gN σ r) t)), x < 16) (hO : g m = mOb A m (gZ σ) cs.length lm gm) (hZ : g (m + 1) = ai 0 10511 Z) (hR : RZ Z σ) : PM yX11_forgetTeller cX11_forgetTeller 6 (Option.none : Option Jvm.ClassFile.FieldType) rm_X11_forgetTeller [.ref (A m), .int (nI (24 * r + t)), .int (nI q)] P A g (fun v g' => v = none ∧ ZS g' m (miS σ r t (muq q (nMi (gN σ r) t))) ∧ Fr g g' (m + 1) (m + 2)) := by
  have hK := hR.k16
  have hT := hR.t24
  have hL := hR.le
  have hcap := hR.ml5 hr ht
  refine px_intro (by decide +kernel) (Nat.le_of_ble_eq_true rfl) (fun K sz C R => ?_)
  show V K 0 0 P A g [(0, .ref (A m)), (1, .int (nI (24 * r + t))), (2, .int (nI q))] 0 []
  refine g_iconst (pc := 0) C dX11_forgetTeller_0 (v := nI 0) rfl ?_
  refine g_istore_n (pc := 1) C dX11_forgetTeller_1 (by decide) (lv' := [(0, .ref (A m)), (1, .int (nI (24 * r + t))), (2, .int (nI q)), (3, .int (nI 0))]) [1, 2, 3, 0] rfl ?_
  refine g_iconst (pc := 2) C dX11_forgetTeller_2 (v := nI 0) rfl ?_
  refine g_istore (pc := 3) C dX11_forgetTeller_3 (by decide) (lv' := [(0, .ref (A m)), (1, .int (nI (24 * r + t))), (2, .int (nI q)), (3, .int (nI 0)), (4, .int (nI 0))]) [1, 2, 3, 4, 0] rfl ?_
  have lp_5 : ∀ (fuel : Nat) (k : Nat) (hk : k ≤ (miL (nMi (gN σ r) t)).length), (miL (nMi (gN σ r) t)).length - k < fuel → V K 0 0 P A (va_up g (m + 1) (ai 0 10511 (zls Z (1920 + 8 * (24 * r + t)) (wof (some q) none ((miL (nMi (gN σ r) t)).take k)) (wof (some q) none ((miL (nMi (gN σ r) t)).take k)).length))) [(0, .ref (A m)), (1, .int (nI (24 * r + t))), (2, .int (nI q)), (3, .int (nI (wof (some q) none ((miL (nMi (gN σ r) t)).take k)).length)), (4, .int (nI k))] 5 [] := by
    intro fuel
    induction fuel with
    | zero => intro k hk hμ; exact absurd hμ (Nat.not_lt_zero _)
    | succ fuel ih =>
      intro k hk hμ
      obtain ⟨Y5, hY5⟩ : ∃ yZ : Nat → Int32, yZ = zls Z (1920 + 8 * (24 * r + t)) (wof (some q) none ((miL (nMi (gN σ r) t)).take k)) (wof (some q) none ((miL (nMi (gN σ r) t)).take k)).length := ⟨_, rfl⟩
      rw [← hY5]
      obtain ⟨gl5, hgl5⟩ : ∃ y : pM, y = va_up g (m + 1) (ai 0 10511 Y5) := ⟨_, rfl⟩
      rw [← hgl5]
      have hfl5 : Fr g gl5 (m + 1) (m + 2) := by rw [hgl5]; exact Fr.up (by omega) (by omega)
      have hz5 : gl5 (m + 1) = ai 0 10511 Y5 := by rw [hgl5]; exact va_up_self _ _ _
      have h_1 := hfl5.at (by omega) hO
      have hwl := wof_le (some q) none (miL (nMi (gN σ r) t)) k
      refine g_iload (pc := 5) C dX11_forgetTeller_5 4 rfl ?_
      refine g_aload_n (pc := 7) C dX11_forgetTeller_7 0 rfl ?_
      refine g_get (pc := 8) C (j := 0) h_1 rfl rfl (by decide) u_852 dX11_forgetTeller_8 ?_
      refine g_sipush (pc := 11) C dX11_forgetTeller_11 (v := nI 1536) rfl ?_
      refine g_iload_n (pc := 14) C dX11_forgetTeller_14 1 rfl ?_
      refine g_iadd (pc := 15) C dX11_forgetTeller_15 (z := nI (1536 + (24 * r + t))) (nI_add _ _) ?_
      refine g_iald (pc := 16) C hz5 (nI_clamp (by omega)) (nI_in0 (n := 10511) (by omega) (by omega)) dX11_forgetTeller_16 (x := nI (miL (nMi (gN σ r) t)).length) (zls_o hY5 (by omega) (RZ.rMn hR (r := r) (t := t) (by omega) (by omega) (by omega))) ?_
      refine g_icmp_ge (pc := 17) C dX11_forgetTeller_17 (tgt := 70) (by decide) (fun c_17 => ?_) (fun c_17 => ?_)
      ·
        have c_17 : (miL (nMi (gN σ r) t)).length ≤ k := (nI_leI (by omega) (by omega)).mp c_17
        refine g_aload_n (pc := 70) C dX11_forgetTeller_70 0 rfl ?_
        refine g_get (pc := 71) C (j := 0) h_1 rfl rfl (by decide) u_852 dX11_forgetTeller_71 ?_
        refine g_sipush (pc := 74) C dX11_forgetTeller_74 (v := nI 1536) rfl ?_
        refine g_iload_n (pc := 77) C dX11_forgetTeller_77 1 rfl ?_
        refine g_iadd (pc := 78) C dX11_forgetTeller_78 (z := nI (1536 + (24 * r + t))) (nI_add _ _) ?_
        refine g_iload_n (pc := 79) C dX11_forgetTeller_79 3 rfl ?_
        refine g_iast (pc := 80) C hz5 (nI_clamp (by omega)) (nI_in0 (n := 10511) (by omega) (by omega)) dX11_forgetTeller_80 ?_
        obtain ⟨Z_2, hZ_2⟩ : ∃ yZ : Nat → Int32, yZ = upd Y5 (1536 + (24 * r + t)) (nI (wof (some q) none ((miL (nMi (gN σ r) t)).take k)).length) := ⟨_, rfl⟩
        show V K 0 0 P A (va_up gl5 (m + 1) (ai 0 10511 (upd Y5 (1536 + (24 * r + t)) (nI (wof (some q) none ((miL (nMi (gN σ r) t)).take k)).length)))) [(0, .ref (A m)), (1, .int (nI (24 * r + t))), (2, .int (nI q)), (3, .int (nI (wof (some q) none ((miL (nMi (gN σ r) t)).take k)).length)), (4, .int (nI k))] 81 []
        rw [← hZ_2]
        obtain ⟨g_3, hg_3⟩ : ∃ yM : pM, yM = va_up gl5 (m + 1) (ai 0 10511 Z_2) := ⟨_, rfl⟩
        show V K 0 0 P A (va_up gl5 (m + 1) (ai 0 10511 Z_2)) [(0, .ref (A m)), (1, .int (nI (24 * r + t))), (2, .int (nI q)), (3, .int (nI (wof (some q) none ((miL (nMi (gN σ r) t)).take k)).length)), (4, .int (nI k))] 81 []
        rw [← hg_3]
        have h_4 : g_3 m = ob 11 [.ref (A (m + 1)), .int (nI (gZ σ).1), .int (nI (gZ σ).2.1), .int (nI (gZ σ).2.2.1), .int (nI (gZ σ).2.2.2.1), .int (nI (gZ σ).2.2.2.2), .ref (A (m + 2)), .int (nI cs.length), .ref (A (m + 3)), .int (nI lm), .ref (A (m + 4)), .ref (A (m + 5)), .int (nI gm), .ref (A (m + 6)), .ref (A (m + 7)), .ref (A (m + 8))] := by rw [hg_3, va_up_ne _ _ (show m ≠ m + 1 from by omega)]; exact h_1
        have h_5 : g_3 (m + 1) = ai 0 10511 Z_2 := by rw [hg_3]; exact va_up_self _ _ _
        exact g_vret (pc := 81) C R ⟨rfl, rfl, rfl, ⟨_, h_5, RZ.fgt hR hr ht (l := wof (some q) none ((miL (nMi (gN σ r) t)).take k)) (by rw [List.take_of_length_le (by omega)]) rfl rfl hY5 hZ_2⟩, fun k hk => by rw [hg_3, va_up_ne _ _ (by omega), hfl5 k (by omega)]⟩ (by decide) (by decide) dX11_forgetTeller_81
      ·
        have c_17 : ¬ (miL (nMi (gN σ r) t)).length ≤ k := fun h => c_17 ((nI_leI (a := (miL (nMi (gN σ r) t)).length) (b := k) (by omega) (by omega)).mpr h)
        have hlt : k < (miL (nMi (gN σ r) t)).length := by omega
        have hv16 := getD_lt (i := k) h16
        refine g_aload_n (pc := 20) C dX11_forgetTeller_20 0 rfl ?_
        refine g_get (pc := 21) C (j := 0) h_1 rfl rfl (by decide) u_852 dX11_forgetTeller_21 ?_
        refine g_sipush (pc := 24) C dX11_forgetTeller_24 (v := nI 1920) rfl ?_
        refine g_bipush (pc := 27) C dX11_forgetTeller_27 (v := nI 8) rfl ?_
        refine g_iload_n (pc := 29) C dX11_forgetTeller_29 1 rfl ?_
        refine g_imul (pc := 30) C dX11_forgetTeller_30 (z := nI (8 * (24 * r + t))) (pk_mul _ _) ?_
        refine g_iadd (pc := 31) C dX11_forgetTeller_31 (z := nI (1920 + (8 * (24 * r + t)))) (nI_add _ _) ?_
        refine g_iload (pc := 32) C dX11_forgetTeller_32 4 rfl ?_
        refine g_iadd (pc := 34) C dX11_forgetTeller_34 (z := nI (1920 + (8 * (24 * r + t)) + k)) (nI_add _ _) ?_
        refine g_iald (pc := 35) C hz5 (nI_clamp (by omega)) (nI_in0 (n := 10511) (by omega) (by omega)) dX11_forgetTeller_35 (x := nI ((miL (nMi (gN σ r) t)).getD k 0)) (zls_o hY5 (by omega) (RZ.rMt hR (r := r) (t := t) (k := k) (by omega) (by omega) (by omega) (by omega))) ?_
        refine g_istore (pc := 36) C dX11_forgetTeller_36 (by decide) (lv' := [(0, .ref (A m)), (1, .int (nI (24 * r + t))), (2, .int (nI q)), (3, .int (nI (wof (some q) none ((miL (nMi (gN σ r) t)).take k)).length)), (4, .int (nI k)), (5, .int (nI ((miL (nMi (gN σ r) t)).getD k 0)))]) [1, 2, 3, 4, 5, 0] rfl ?_
        refine g_iload (pc := 38) C dX11_forgetTeller_38 5 rfl ?_
        refine g_iload_n (pc := 40) C dX11_forgetTeller_40 2 rfl ?_
        refine g_icmp_eq (pc := 41) C dX11_forgetTeller_41 (tgt := 64) (by decide) (fun c_41 => ?_) (fun c_41 => ?_)
        ·
          have c_41 : ((miL (nMi (gN σ r) t)).getD k 0) = q := (nI_eq (by omega) (by omega)).mp c_41
          refine g_iinc (pc := 64) C dX11_forgetTeller_64 (by decide) 4 rfl (v := nI (k + 1)) (nI_i1 _) (lv' := [(0, .ref (A m)), (1, .int (nI (24 * r + t))), (2, .int (nI q)), (3, .int (nI (wof (some q) none ((miL (nMi (gN σ r) t)).take k)).length)), (4, .int (nI (k + 1))), (5, .int (nI ((miL (nMi (gN σ r) t)).getD k 0)))]) [1, 2, 3, 4, 0, 5] rfl ?_
          refine g_goto (pc := 67) C dX11_forgetTeller_67 (tgt := 5) (by decide) ?_
          refine g_sub [0, 1, 2, 3, 4] rfl ?_
          have hw : wof (some q) none ((miL (nMi (gN σ r) t)).take (k + 1)) = wof (some q) none ((miL (nMi (gN σ r) t)).take k) := by rw [wof_s hlt, if_pos (Or.inl (by rw [c_41]))]
          rw [← hw] at hY5 ⊢
          rw [show gl5 = va_up g (m + 1) (ai 0 10511 (zls Z (1920 + 8 * (24 * r + t)) (wof (some q) none ((miL (nMi (gN σ r) t)).take (k + 1))) (wof (some q) none ((miL (nMi (gN σ r) t)).take (k + 1))).length)) from by rw [hgl5, hY5]]
          exact ih (k + 1) (by omega) (by omega)
        ·
          have c_41 : ¬ ((miL (nMi (gN σ r) t)).getD k 0) = q := fun h => c_41 ((nI_eq (a := ((miL (nMi (gN σ r) t)).getD k 0)) (b := q) (by omega) (by omega)).mpr h)
          refine g_aload_n (pc := 44) C dX11_forgetTeller_44 0 rfl ?_
          refine g_get (pc := 45) C (j := 0) h_1 rfl rfl (by decide) u_852 dX11_forgetTeller_45 ?_
          refine g_sipush (pc := 48) C dX11_forgetTeller_48 (v := nI 1920) rfl ?_
          refine g_bipush (pc := 51) C dX11_forgetTeller_51 (v := nI 8) rfl ?_
          refine g_iload_n (pc := 53) C dX11_forgetTeller_53 1 rfl ?_
          refine g_imul (pc := 54) C dX11_forgetTeller_54 (z := nI (8 * (24 * r + t))) (pk_mul _ _) ?_
          refine g_iadd (pc := 55) C dX11_forgetTeller_55 (z := nI (1920 + (8 * (24 * r + t)))) (nI_add _ _) ?_
          refine g_iload_n (pc := 56) C dX11_forgetTeller_56 3 rfl ?_
          refine g_iadd (pc := 57) C dX11_forgetTeller_57 (z := nI (1920 + (8 * (24 * r + t)) + (wof (some q) none ((miL (nMi (gN σ r) t)).take k)).length)) (nI_add _ _) ?_
          refine g_iload (pc := 58) C dX11_forgetTeller_58 5 rfl ?_
          refine g_iast (pc := 60) C hz5 (nI_clamp (by omega)) (nI_in0 (n := 10511) (by omega) (by omega)) dX11_forgetTeller_60 ?_
          obtain ⟨Z_6, hZ_6⟩ : ∃ yZ : Nat → Int32, yZ = upd Y5 (1920 + (8 * (24 * r + t)) + (wof (some q) none ((miL (nMi (gN σ r) t)).take k)).length) (nI ((miL (nMi (gN σ r) t)).getD k 0)) := ⟨_, rfl⟩
          show V K 0 0 P A (va_up gl5 (m + 1) (ai 0 10511 (upd Y5 (1920 + (8 * (24 * r + t)) + (wof (some q) none ((miL (nMi (gN σ r) t)).take k)).length) (nI ((miL (nMi (gN σ r) t)).getD k 0))))) [(0, .ref (A m)), (1, .int (nI (24 * r + t))), (2, .int (nI q)), (3, .int (nI (wof (some q) none ((miL (nMi (gN σ r) t)).take k)).length)), (4, .int (nI k)), (5, .int (nI ((miL (nMi (gN σ r) t)).getD k 0)))] 61 []
          rw [← hZ_6]
          obtain ⟨g_7, hg_7⟩ : ∃ yM : pM, yM = va_up gl5 (m + 1) (ai 0 10511 Z_6) := ⟨_, rfl⟩
          show V K 0 0 P A (va_up gl5 (m + 1) (ai 0 10511 Z_6)) [(0, .ref (A m)), (1, .int (nI (24 * r + t))), (2, .int (nI q)), (3, .int (nI (wof (some q) none ((miL (nMi (gN σ r) t)).take k)).length)), (4, .int (nI k)), (5, .int (nI ((miL (nMi (gN σ r) t)).getD k 0)))] 61 []
          rw [← hg_7]
          have h_8 : g_7 m = ob 11 [.ref (A (m + 1)), .int (nI (gZ σ).1), .int (nI (gZ σ).2.1), .int (nI (gZ σ).2.2.1), .int (nI (gZ σ).2.2.2.1), .int (nI (gZ σ).2.2.2.2), .ref (A (m + 2)), .int (nI cs.length), .ref (A (m + 3)), .int (nI lm), .ref (A (m + 4)), .ref (A (m + 5)), .int (nI gm), .ref (A (m + 6)), .ref (A (m + 7)), .ref (A (m + 8))] := by rw [hg_7, va_up_ne _ _ (show m ≠ m + 1 from by omega)]; exact h_1
          have h_9 : g_7 (m + 1) = ai 0 10511 Z_6 := by rw [hg_7]; exact va_up_self _ _ _
          refine g_iinc (pc := 61) C dX11_forgetTeller_61 (by decide) 3 rfl (v := nI ((wof (some q) none ((miL (nMi (gN σ r) t)).take k)).length + 1)) (nI_i1 _) (lv' := [(0, .ref (A m)), (1, .int (nI (24 * r + t))), (2, .int (nI q)), (3, .int (nI ((wof (some q) none ((miL (nMi (gN σ r) t)).take k)).length + 1))), (4, .int (nI k)), (5, .int (nI ((miL (nMi (gN σ r) t)).getD k 0)))]) [1, 2, 3, 0, 4, 5] rfl ?_
          refine g_iinc (pc := 64) C dX11_forgetTeller_64 (by decide) 4 rfl (v := nI (k + 1)) (nI_i1 _) (lv' := [(0, .ref (A m)), (1, .int (nI (24 * r + t))), (2, .int (nI q)), (3, .int (nI ((wof (some q) none ((miL (nMi (gN σ r) t)).take k)).length + 1))), (4, .int (nI (k + 1))), (5, .int (nI ((miL (nMi (gN σ r) t)).getD k 0)))]) [1, 2, 3, 4, 0, 5] rfl ?_
          refine g_goto (pc := 67) C dX11_forgetTeller_67 (tgt := 5) (by decide) ?_
          refine g_sub [0, 1, 2, 3, 4] rfl ?_
          have hw : wof (some q) none ((miL (nMi (gN σ r) t)).take (k + 1)) = wof (some q) none ((miL (nMi (gN σ r) t)).take k) ++ [(miL (nMi (gN σ r) t)).getD k 0] := by rw [wof_s hlt, if_neg (by intro z; rcases z with z | z; exact c_41 (Option.some.inj z).symm; cases z)]
          have hw2 : (wof (some q) none ((miL (nMi (gN σ r) t)).take (k + 1))).length = (wof (some q) none ((miL (nMi (gN σ r) t)).take k)).length + 1 := by rw [hw, List.length_append]; rfl
          rw [show g_7 = va_up g (m + 1) (ai 0 10511 (zls Z (1920 + 8 * (24 * r + t)) (wof (some q) none ((miL (nMi (gN σ r) t)).take (k + 1))) (wof (some q) none ((miL (nMi (gN σ r) t)).take (k + 1))).length)) from by rw [hg_7, hgl5, bx_uu, hZ_6, hY5, hw2, hw]; exact congrArg (fun y => va_up g (m + 1) (ai 0 10511 y)) (zls_p (by omega) (by omega))]
          rw [← hw2]
          exact ih (k + 1) (by omega) (by omega)
  rw [show g = va_up g (m + 1) (ai 0 10511 (zls Z (1920 + 8 * (24 * r + t)) (wof (some q) none ((miL (nMi (gN σ r) t)).take 0)) (wof (some q) none ((miL (nMi (gN σ r) t)).take 0)).length)) from (va_up_id (by rw [hZ, show zls Z (1920 + 8 * (24 * r + t)) (wof (some q) none ((miL (nMi (gN σ r) t)).take 0)) (wof (some q) none ((miL (nMi (gN σ r) t)).take 0)).length = Z from zls_0])).symm]
  exact lp_5 (_ + 1) 0 (Nat.zero_le _) (Nat.lt_succ_self _)
abbrev rm_X11_leavesActive : Room := { frames := 1, cells := 0, slots := 0, locals := 25 }
theorem Y_X11_leavesActive : pY yX11_leavesActive cX11_leavesActive 5 (Option.none : Option Jvm.ClassFile.FieldType) := ⟨u_1039, us_24, u_13, u_1040⟩
theorem N_X11_leavesActive : yX11_leavesActive.cls ≠ "java/lang/invoke/MethodHandle" ∧ yX11_leavesActive.cls ≠ "java/lang/invoke/VarHandle" ∧ (parseMethodDescriptor yX11_leavesActive.desc).map (fun d => d.parameters.length) = some 2 := by decide +kernel
set_option maxRecDepth 20000 in
set_option maxHeartbeats 4000000 in
theorem c_X11_leavesActive (A : Nat → Nat) (P : List Nat) (g : pM) (m : Nat) {cs : List Nat} {lm gm : Nat} {Z : Nat → Int32} {σ : Sg} {B : Nat} (r q : Nat) (hr : r < gK σ) (hq : q < gK σ) (hS : SW B cs σ) (hO : g m = mOb A m (gZ σ) cs.length lm gm) (hZ : g (m + 1) = ai 0 10511 Z) (hR : RZ Z σ) : PM yX11_leavesActive cX11_leavesActive 5 (Option.none : Option Jvm.ClassFile.FieldType) rm_X11_leavesActive [.ref (A m), .int (nI r), .int (nI q)] P A g (fun v g' => v = none ∧ ZS g' m (ulS σ r q) ∧ Fr g g' (m + 1) (m + 2)) := by
  have hK := hR.k16
  have hT := hR.t24
  have hL := hR.le
  have hcap := hR.ac5 hr
  have hl := hS.a16 hr
  refine px_intro (by decide +kernel) (Nat.le_of_ble_eq_true rfl) (fun K sz C R => ?_)
  show V K 0 0 P A g [(0, .ref (A m)), (1, .int (nI r)), (2, .int (nI q))] 0 []
  refine g_aload_n (pc := 0) C dX11_leavesActive_0 0 rfl ?_
  refine g_iload_n (pc := 1) C dX11_leavesActive_1 1 rfl ?_
  refine g_iload_n (pc := 2) C dX11_leavesActive_2 2 rfl ?_
  refine g_callV (pc := 3) C (As := [.int (nI r), .int (nI q)]) (rest := []) (b := m) (c_X11_activeAt A P g m r q (by omega) (by omega) hl hO hZ hR) hO rfl rfl Y_X11_activeAt u_961 N_X11_activeAt ⟨by decide, by decide⟩ ⟨by decide, by decide⟩ (Nat.le_of_ble_eq_true rfl) rfl dX11_leavesActive_3 ?_
  rintro _ _ _ _ ⟨rfl, rfl, rfl, rfl⟩
  rcases zPl_c (nAc (gN σ r)) q with ⟨hppk_1, hqpk_1⟩ | ⟨pk1, hkpk_1, hppk_1, hxpk_1, hipk_1, hmpk_1⟩
  ·
    rw [hppk_1]
    show V K 0 0 P A g [(0, .ref (A m)), (1, .int (nI r)), (2, .int (nI q))] 6 [.int (-1)]
    refine g_istore_n (pc := 6) C dX11_leavesActive_6 (by decide) (lv' := [(0, .ref (A m)), (1, .int (nI r)), (2, .int (nI q)), (3, .int (-1))]) [1, 2, 3, 0] rfl ?_
    refine g_iload_n (pc := 7) C dX11_leavesActive_7 3 rfl ?_
    refine g_if_ge (pc := 8) C dX11_leavesActive_8 (tgt := 12) (by decide) (fun c_8 => ?_) (fun c_8 => ?_)
    ·
      exfalso
      revert c_8; decide
    ·
      exact g_vret (pc := 11) C R ⟨rfl, rfl, rfl, ⟨Z, hZ, by rw [ulS_n hS hr (by omega) hqpk_1]; exact hR⟩, Fr.rf⟩ (by decide) (by decide) dX11_leavesActive_11
  ·
    rw [hppk_1]
    show V K 0 0 P A g [(0, .ref (A m)), (1, .int (nI r)), (2, .int (nI q))] 6 [.int (nI pk1)]
    refine g_istore_n (pc := 6) C dX11_leavesActive_6 (by decide) (lv' := [(0, .ref (A m)), (1, .int (nI r)), (2, .int (nI q)), (3, .int (nI pk1))]) [1, 2, 3, 0] rfl ?_
    refine g_iload_n (pc := 7) C dX11_leavesActive_7 3 rfl ?_
    refine g_if_ge (pc := 8) C dX11_leavesActive_8 (tgt := 12) (by decide) (fun c_8 => ?_) (fun c_8 => ?_)
    ·
      have c_8 : 0 ≤ pk1 := (nI_leI (by omega) (by omega)).mp c_8
      refine g_aload_n (pc := 12) C dX11_leavesActive_12 0 rfl ?_
      refine g_get (pc := 13) C (j := 0) hO rfl rfl (by decide) u_852 dX11_leavesActive_13 ?_
      refine g_bipush (pc := 16) C dX11_leavesActive_16 (v := nI 16) rfl ?_
      refine g_iload_n (pc := 18) C dX11_leavesActive_18 1 rfl ?_
      refine g_iadd (pc := 19) C dX11_leavesActive_19 (z := nI (16 + r)) (nI_add _ _) ?_
      refine g_dup2 (pc := 20) C dX11_leavesActive_20 rfl rfl ?_
      refine g_iald (pc := 21) C hZ (nI_clamp (by omega)) (nI_in0 (n := 10511) (by omega) (by omega)) dX11_leavesActive_21 (x := nI (nAc (gN σ r)).length) (RZ.rAn hR (r := r) (by omega) (by omega)) ?_
      refine g_iconst (pc := 22) C dX11_leavesActive_22 (v := nI 1) rfl ?_
      refine g_isub (pc := 23) C dX11_leavesActive_23 (z := nI ((nAc (gN σ r)).length - 1)) (pk_sub (by omega)) ?_
      refine g_iast (pc := 24) C hZ (nI_clamp (by omega)) (nI_in0 (n := 10511) (by omega) (by omega)) dX11_leavesActive_24 ?_
      obtain ⟨Z_2, hZ_2⟩ : ∃ yZ : Nat → Int32, yZ = upd Z (16 + r) (nI ((nAc (gN σ r)).length - 1)) := ⟨_, rfl⟩
      show V K 0 0 P A (va_up g (m + 1) (ai 0 10511 (upd Z (16 + r) (nI ((nAc (gN σ r)).length - 1))))) [(0, .ref (A m)), (1, .int (nI r)), (2, .int (nI q)), (3, .int (nI pk1))] 25 []
      rw [← hZ_2]
      obtain ⟨g_3, hg_3⟩ : ∃ yM : pM, yM = va_up g (m + 1) (ai 0 10511 Z_2) := ⟨_, rfl⟩
      show V K 0 0 P A (va_up g (m + 1) (ai 0 10511 Z_2)) [(0, .ref (A m)), (1, .int (nI r)), (2, .int (nI q)), (3, .int (nI pk1))] 25 []
      rw [← hg_3]
      have h_4 : g_3 m = ob 11 [.ref (A (m + 1)), .int (nI (gZ σ).1), .int (nI (gZ σ).2.1), .int (nI (gZ σ).2.2.1), .int (nI (gZ σ).2.2.2.1), .int (nI (gZ σ).2.2.2.2), .ref (A (m + 2)), .int (nI cs.length), .ref (A (m + 3)), .int (nI lm), .ref (A (m + 4)), .ref (A (m + 5)), .int (nI gm), .ref (A (m + 6)), .ref (A (m + 7)), .ref (A (m + 8))] := by rw [hg_3, va_up_ne _ _ (show m ≠ m + 1 from by omega)]; exact hO
      have h_5 : g_3 (m + 1) = ai 0 10511 Z_2 := by rw [hg_3]; exact va_up_self _ _ _
      refine g_iload_n (pc := 25) C dX11_leavesActive_25 3 rfl ?_
      refine g_istore (pc := 26) C dX11_leavesActive_26 (by decide) (lv' := [(0, .ref (A m)), (1, .int (nI r)), (2, .int (nI q)), (3, .int (nI pk1)), (4, .int (nI pk1))]) [1, 2, 3, 4, 0] rfl ?_
      have lp_28 : ∀ (fuel : Nat) (b : Nat) (hb1 : pk1 ≤ b) (hb2 : b < (nAc (gN σ r)).length), (nAc (gN σ r)).length - b < fuel → V K 0 0 P A (va_up g_3 (m + 1) (ai 0 10511 (sh (sh Z_2 (96 + 5 * r + pk1) (96 + 5 * r + b)) (176 + 5 * r + pk1) (176 + 5 * r + b)))) [(0, .ref (A m)), (1, .int (nI r)), (2, .int (nI q)), (3, .int (nI pk1)), (4, .int (nI b))] 28 [] := by
        intro fuel
        induction fuel with
        | zero => intro b hb1 hb2 hμ; exact absurd hμ (Nat.not_lt_zero _)
        | succ fuel ih =>
          intro b hb1 hb2 hμ
          obtain ⟨Y28, hY28⟩ : ∃ yZ : Nat → Int32, yZ = sh (sh Z_2 (96 + 5 * r + pk1) (96 + 5 * r + b)) (176 + 5 * r + pk1) (176 + 5 * r + b) := ⟨_, rfl⟩
          rw [← hY28]
          obtain ⟨gl28, hgl28⟩ : ∃ y : pM, y = va_up g_3 (m + 1) (ai 0 10511 Y28) := ⟨_, rfl⟩
          rw [← hgl28]
          have hfl28 : Fr g_3 gl28 (m + 1) (m + 2) := by rw [hgl28]; exact Fr.up (by omega) (by omega)
          have hz28 : gl28 (m + 1) = ai 0 10511 Y28 := by rw [hgl28]; exact va_up_self _ _ _
          have h_6 := hfl28.at (by omega) h_4
          refine g_iload (pc := 28) C dX11_leavesActive_28 4 rfl ?_
          refine g_aload_n (pc := 30) C dX11_leavesActive_30 0 rfl ?_
          refine g_get (pc := 31) C (j := 0) h_6 rfl rfl (by decide) u_852 dX11_leavesActive_31 ?_
          refine g_bipush (pc := 34) C dX11_leavesActive_34 (v := nI 16) rfl ?_
          refine g_iload_n (pc := 36) C dX11_leavesActive_36 1 rfl ?_
          refine g_iadd (pc := 37) C dX11_leavesActive_37 (z := nI (16 + r)) (nI_add _ _) ?_
          refine g_iald (pc := 38) C hz28 (nI_clamp (by omega)) (nI_in0 (n := 10511) (by omega) (by omega)) dX11_leavesActive_38 (x := nI ((nAc (gN σ r)).length - 1)) (zsh2 hY28 (by omega) (zeq hZ_2 (by omega))) ?_
          refine g_icmp_ge (pc := 39) C dX11_leavesActive_39 (tgt := 110) (by decide) (fun c_39 => ?_) (fun c_39 => ?_)
          ·
            have c_39 : ((nAc (gN σ r)).length - 1) ≤ b := (nI_leI (by omega) (by omega)).mp c_39
            refine g_iconst (pc := 110) C dX11_leavesActive_110 (v := nI 0) rfl ?_
            refine g_istore (pc := 111) C dX11_leavesActive_111 (by decide) (lv' := [(0, .ref (A m)), (1, .int (nI r)), (2, .int (nI q)), (3, .int (nI pk1)), (4, .int (nI 0))]) [1, 2, 3, 4, 0] rfl ?_
            have lp_113 : ∀ (fuel : Nat) (gm113 : pM) (hm113 : Fr gl28 gm113 (m + 1) (m + 2)) (t : Nat) (ht : t ≤ 24) (hs113 : ZS gm113 m (ulF σ r q t)), 24 - t < fuel → V K 0 0 P A gm113 [(0, .ref (A m)), (1, .int (nI r)), (2, .int (nI q)), (3, .int (nI pk1)), (4, .int (nI t))] 113 [] := by
              intro fuel
              induction fuel with
              | zero => intro gm113 hm113 t ht hs113 hμ; exact absurd hμ (Nat.not_lt_zero _)
              | succ fuel ih =>
                intro gm113 hm113 t ht hs113 hμ
                have h_7 := hm113.at (by omega) h_6
                obtain ⟨Zl, hZl, hRl⟩ := hs113
                refine g_iload (pc := 113) C dX11_leavesActive_113 4 rfl ?_
                refine g_bipush (pc := 115) C dX11_leavesActive_115 (v := nI 24) rfl ?_
                refine g_icmp_ge (pc := 117) C dX11_leavesActive_117 (tgt := 138) (by decide) (fun c_117 => ?_) (fun c_117 => ?_)
                ·
                  have c_117 : 24 ≤ t := (nI_leI (by omega) (by omega)).mp c_117
                  exact g_vret (pc := 138) C R ⟨rfl, rfl, rfl, ⟨Zl, hZl, (ulF_e hS hr) ▸ ((show t = 24 by omega) ▸ hRl)⟩, fun k hk => by rw [hm113 k (by omega), hfl28 k (by omega), hg_3, va_up_ne _ _ (by omega)]⟩ (by decide) (by decide) dX11_leavesActive_138
                ·
                  have c_117 : ¬ 24 ≤ t := fun h => c_117 ((nI_leI (a := 24) (b := t) (by omega) (by omega)).mpr h)
                  have hml : ∀ x ∈ miL (nMi (gN (ulF σ r q t) r) t), x < 16 := ulF_m hS hr t
                  refine g_aload_n (pc := 120) C dX11_leavesActive_120 0 rfl ?_
                  refine g_bipush (pc := 121) C dX11_leavesActive_121 (v := nI 24) rfl ?_
                  refine g_iload_n (pc := 123) C dX11_leavesActive_123 1 rfl ?_
                  refine g_imul (pc := 124) C dX11_leavesActive_124 (z := nI (24 * r)) (pk_mul _ _) ?_
                  refine g_iload (pc := 125) C dX11_leavesActive_125 4 rfl ?_
                  refine g_iadd (pc := 127) C dX11_leavesActive_127 (z := nI (24 * r + t)) (nI_add _ _) ?_
                  refine g_iload_n (pc := 128) C dX11_leavesActive_128 2 rfl ?_
                  refine g_callV (pc := 129) C (As := [.int (nI (24 * r + t)), .int (nI q)]) (rest := []) (b := m) (c_X11_forgetTeller A P gm113 m r t q (by rw [ulF_K]; omega) (by omega) (by omega) hml h_7 hZl hRl) h_7 rfl rfl Y_X11_forgetTeller u_1041 N_X11_forgetTeller ⟨by decide, by decide⟩ ⟨by decide, by decide⟩ (Nat.le_of_ble_eq_true rfl) rfl dX11_leavesActive_129 ?_
                  rintro _ _ _ g_8 ⟨rfl, rfl, rfl, ⟨Z_9, hZ_9, hR_10⟩, hf_11⟩
                  have h_12 := hf_11.at (by omega) h_7
                  show V K 0 0 P A g_8 [(0, .ref (A m)), (1, .int (nI r)), (2, .int (nI q)), (3, .int (nI pk1)), (4, .int (nI t))] 132 []
                  refine g_iinc (pc := 132) C dX11_leavesActive_132 (by decide) 4 rfl (v := nI (t + 1)) (nI_i1 _) (lv' := [(0, .ref (A m)), (1, .int (nI r)), (2, .int (nI q)), (3, .int (nI pk1)), (4, .int (nI (t + 1)))]) [1, 2, 3, 4, 0] rfl ?_
                  refine g_goto (pc := 135) C dX11_leavesActive_135 (tgt := 113) (by decide) ?_
                  exact ih g_8 (hm113.tr (fun k hk => by rw [hf_11 k (by omega)])) (t + 1) (by omega) ⟨_, hZ_9, by rw [← ulF_s]; exact hR_10⟩ (by omega)
            exact lp_113 (_ + 1) gl28 Fr.rf 0 (Nat.zero_le _) ⟨_, hz28, by rw [ulF_0]; exact RZ.eAc hR hr (by omega) hipk_1 hxpk_1 hl hZ_2 hY28 (by omega)⟩ (Nat.lt_succ_self _)
          ·
            have c_39 : ¬ ((nAc (gN σ r)).length - 1) ≤ b := fun h => c_39 ((nI_leI (a := ((nAc (gN σ r)).length - 1)) (b := b) (by omega) (by omega)).mpr h)
            refine g_aload_n (pc := 42) C dX11_leavesActive_42 0 rfl ?_
            refine g_get (pc := 43) C (j := 0) h_6 rfl rfl (by decide) u_852 dX11_leavesActive_43 ?_
            refine g_bipush (pc := 46) C dX11_leavesActive_46 (v := nI 96) rfl ?_
            refine g_iconst (pc := 48) C dX11_leavesActive_48 (v := nI 5) rfl ?_
            refine g_iload_n (pc := 49) C dX11_leavesActive_49 1 rfl ?_
            refine g_imul (pc := 50) C dX11_leavesActive_50 (z := nI (5 * r)) (pk_mul _ _) ?_
            refine g_iadd (pc := 51) C dX11_leavesActive_51 (z := nI (96 + 5 * r)) (nI_add _ _) ?_
            refine g_iload (pc := 52) C dX11_leavesActive_52 4 rfl ?_
            refine g_iadd (pc := 54) C dX11_leavesActive_54 (z := nI (96 + 5 * r + b)) (nI_add _ _) ?_
            refine g_aload_n (pc := 55) C dX11_leavesActive_55 0 rfl ?_
            refine g_get (pc := 56) C (j := 0) h_6 rfl rfl (by decide) u_852 dX11_leavesActive_56 ?_
            refine g_bipush (pc := 59) C dX11_leavesActive_59 (v := nI 96) rfl ?_
            refine g_iconst (pc := 61) C dX11_leavesActive_61 (v := nI 5) rfl ?_
            refine g_iload_n (pc := 62) C dX11_leavesActive_62 1 rfl ?_
            refine g_imul (pc := 63) C dX11_leavesActive_63 (z := nI (5 * r)) (pk_mul _ _) ?_
            refine g_iadd (pc := 64) C dX11_leavesActive_64 (z := nI (96 + 5 * r)) (nI_add _ _) ?_
            refine g_iload (pc := 65) C dX11_leavesActive_65 4 rfl ?_
            refine g_iadd (pc := 67) C dX11_leavesActive_67 (z := nI (96 + 5 * r + b)) (nI_add _ _) ?_
            refine g_iconst (pc := 68) C dX11_leavesActive_68 (v := nI 1) rfl ?_
            refine g_iadd (pc := 69) C dX11_leavesActive_69 (z := nI (96 + 5 * r + b + 1)) (nI_add _ _) ?_
            refine g_iald (pc := 70) C hz28 (nI_clamp (by omega)) (nI_in0 (n := 10511) (by omega) (by omega)) dX11_leavesActive_70 (x := nI ((nAc (gN σ r)).getD (b + 1) 0)) (zsh2 hY28 (by omega) (zne hZ_2 (by omega) (RZ.rAc hR (r := r) (k := (b + 1)) (by omega) (by omega) (by omega)))) ?_
            refine g_iast (pc := 71) C hz28 (nI_clamp (by omega)) (nI_in0 (n := 10511) (by omega) (by omega)) dX11_leavesActive_71 ?_
            obtain ⟨Z_13, hZ_13⟩ : ∃ yZ : Nat → Int32, yZ = upd Y28 (96 + 5 * r + b) (nI ((nAc (gN σ r)).getD (b + 1) 0)) := ⟨_, rfl⟩
            show V K 0 0 P A (va_up gl28 (m + 1) (ai 0 10511 (upd Y28 (96 + 5 * r + b) (nI ((nAc (gN σ r)).getD (b + 1) 0))))) [(0, .ref (A m)), (1, .int (nI r)), (2, .int (nI q)), (3, .int (nI pk1)), (4, .int (nI b))] 72 []
            rw [← hZ_13]
            obtain ⟨g_14, hg_14⟩ : ∃ yM : pM, yM = va_up gl28 (m + 1) (ai 0 10511 Z_13) := ⟨_, rfl⟩
            show V K 0 0 P A (va_up gl28 (m + 1) (ai 0 10511 Z_13)) [(0, .ref (A m)), (1, .int (nI r)), (2, .int (nI q)), (3, .int (nI pk1)), (4, .int (nI b))] 72 []
            rw [← hg_14]
            have h_15 : g_14 m = ob 11 [.ref (A (m + 1)), .int (nI (gZ σ).1), .int (nI (gZ σ).2.1), .int (nI (gZ σ).2.2.1), .int (nI (gZ σ).2.2.2.1), .int (nI (gZ σ).2.2.2.2), .ref (A (m + 2)), .int (nI cs.length), .ref (A (m + 3)), .int (nI lm), .ref (A (m + 4)), .ref (A (m + 5)), .int (nI gm), .ref (A (m + 6)), .ref (A (m + 7)), .ref (A (m + 8))] := by rw [hg_14, va_up_ne _ _ (show m ≠ m + 1 from by omega)]; exact h_6
            have h_16 : g_14 (m + 1) = ai 0 10511 Z_13 := by rw [hg_14]; exact va_up_self _ _ _
            refine g_aload_n (pc := 72) C dX11_leavesActive_72 0 rfl ?_
            refine g_get (pc := 73) C (j := 0) h_15 rfl rfl (by decide) u_852 dX11_leavesActive_73 ?_
            refine g_sipush (pc := 76) C dX11_leavesActive_76 (v := nI 176) rfl ?_
            refine g_iconst (pc := 79) C dX11_leavesActive_79 (v := nI 5) rfl ?_
            refine g_iload_n (pc := 80) C dX11_leavesActive_80 1 rfl ?_
            refine g_imul (pc := 81) C dX11_leavesActive_81 (z := nI (5 * r)) (pk_mul _ _) ?_
            refine g_iadd (pc := 82) C dX11_leavesActive_82 (z := nI (176 + 5 * r)) (nI_add _ _) ?_
            refine g_iload (pc := 83) C dX11_leavesActive_83 4 rfl ?_
            refine g_iadd (pc := 85) C dX11_leavesActive_85 (z := nI (176 + 5 * r + b)) (nI_add _ _) ?_
            refine g_aload_n (pc := 86) C dX11_leavesActive_86 0 rfl ?_
            refine g_get (pc := 87) C (j := 0) h_15 rfl rfl (by decide) u_852 dX11_leavesActive_87 ?_
            refine g_sipush (pc := 90) C dX11_leavesActive_90 (v := nI 176) rfl ?_
            refine g_iconst (pc := 93) C dX11_leavesActive_93 (v := nI 5) rfl ?_
            refine g_iload_n (pc := 94) C dX11_leavesActive_94 1 rfl ?_
            refine g_imul (pc := 95) C dX11_leavesActive_95 (z := nI (5 * r)) (pk_mul _ _) ?_
            refine g_iadd (pc := 96) C dX11_leavesActive_96 (z := nI (176 + 5 * r)) (nI_add _ _) ?_
            refine g_iload (pc := 97) C dX11_leavesActive_97 4 rfl ?_
            refine g_iadd (pc := 99) C dX11_leavesActive_99 (z := nI (176 + 5 * r + b)) (nI_add _ _) ?_
            refine g_iconst (pc := 100) C dX11_leavesActive_100 (v := nI 1) rfl ?_
            refine g_iadd (pc := 101) C dX11_leavesActive_101 (z := nI (176 + 5 * r + b + 1)) (nI_add _ _) ?_
            refine g_iald (pc := 102) C h_16 (nI_clamp (by omega)) (nI_in0 (n := 10511) (by omega) (by omega)) dX11_leavesActive_102 (x := b32 ((nLz (gN σ r)).testBit ((nAc (gN σ r)).getD (b + 1) 0))) (zne hZ_13 (by omega) (zsh2 hY28 (by omega) (zne hZ_2 (by omega) (RZ.rLz hR (r := r) (k := (b + 1)) (by omega) (by omega) (by omega))))) ?_
            refine g_iast (pc := 103) C h_16 (nI_clamp (by omega)) (nI_in0 (n := 10511) (by omega) (by omega)) dX11_leavesActive_103 ?_
            obtain ⟨Z_17, hZ_17⟩ : ∃ yZ : Nat → Int32, yZ = upd Z_13 (176 + 5 * r + b) (b32 ((nLz (gN σ r)).testBit ((nAc (gN σ r)).getD (b + 1) 0))) := ⟨_, rfl⟩
            show V K 0 0 P A (va_up g_14 (m + 1) (ai 0 10511 (upd Z_13 (176 + 5 * r + b) (b32 ((nLz (gN σ r)).testBit ((nAc (gN σ r)).getD (b + 1) 0)))))) [(0, .ref (A m)), (1, .int (nI r)), (2, .int (nI q)), (3, .int (nI pk1)), (4, .int (nI b))] 104 []
            rw [← hZ_17]
            obtain ⟨g_18, hg_18⟩ : ∃ yM : pM, yM = va_up g_14 (m + 1) (ai 0 10511 Z_17) := ⟨_, rfl⟩
            show V K 0 0 P A (va_up g_14 (m + 1) (ai 0 10511 Z_17)) [(0, .ref (A m)), (1, .int (nI r)), (2, .int (nI q)), (3, .int (nI pk1)), (4, .int (nI b))] 104 []
            rw [← hg_18]
            have h_19 : g_18 m = ob 11 [.ref (A (m + 1)), .int (nI (gZ σ).1), .int (nI (gZ σ).2.1), .int (nI (gZ σ).2.2.1), .int (nI (gZ σ).2.2.2.1), .int (nI (gZ σ).2.2.2.2), .ref (A (m + 2)), .int (nI cs.length), .ref (A (m + 3)), .int (nI lm), .ref (A (m + 4)), .ref (A (m + 5)), .int (nI gm), .ref (A (m + 6)), .ref (A (m + 7)), .ref (A (m + 8))] := by rw [hg_18, va_up_ne _ _ (show m ≠ m + 1 from by omega)]; exact h_15
            have h_20 : g_18 (m + 1) = ai 0 10511 Z_17 := by rw [hg_18]; exact va_up_self _ _ _
            refine g_iinc (pc := 104) C dX11_leavesActive_104 (by decide) 4 rfl (v := nI (b + 1)) (nI_i1 _) (lv' := [(0, .ref (A m)), (1, .int (nI r)), (2, .int (nI q)), (3, .int (nI pk1)), (4, .int (nI (b + 1)))]) [1, 2, 3, 4, 0] rfl ?_
            refine g_goto (pc := 107) C dX11_leavesActive_107 (tgt := 28) (by decide) ?_
            rw [show g_18 = va_up g_3 (m + 1) (ai 0 10511 (sh (sh Z_2 (96 + 5 * r + pk1) (96 + 5 * r + (b + 1))) (176 + 5 * r + pk1) (176 + 5 * r + (b + 1)))) from by rw [hg_18, hg_14, hgl28, bx_uu, bx_uu, hZ_17, hZ_13, hY28, sh2_s (96 + 5 * r + b + 1) (176 + 5 * r + b + 1) (96 + 5 * r + (b + 1)) (176 + 5 * r + (b + 1)) (by omega) (by omega) (by omega) (by omega) (by omega) (by omega) (by omega) (zne hZ_2 (by omega) (RZ.rAc hR (r := r) (k := b + 1) (by omega) (by omega) (by omega))) (zne hZ_2 (by omega) (RZ.rLz hR (r := r) (k := b + 1) (by omega) (by omega) (by omega)))]]
            exact ih (b + 1) (by omega) (by omega) (by omega)
      rw [show g_3 = va_up g_3 (m + 1) (ai 0 10511 (sh (sh Z_2 (96 + 5 * r + pk1) (96 + 5 * r + pk1)) (176 + 5 * r + pk1) (176 + 5 * r + pk1))) from (va_up_id (by rw [h_5, sh_0, sh_0])).symm]
      exact lp_28 (_ + 1) pk1 (Nat.le_refl _) (by omega) (Nat.lt_succ_self _)
    ·
      exfalso
      exact c_8 (nI_pos' (by omega))
abbrev rm_X11_setLazy : Room := { frames := 1, cells := 0, slots := 0, locals := 23 }
theorem Y_X11_setLazy : pY yX11_setLazy cX11_setLazy 5 (Option.none : Option Jvm.ClassFile.FieldType) := ⟨u_1007, us_17, u_13, u_1008⟩
theorem N_X11_setLazy : yX11_setLazy.cls ≠ "java/lang/invoke/MethodHandle" ∧ yX11_setLazy.cls ≠ "java/lang/invoke/VarHandle" ∧ (parseMethodDescriptor yX11_setLazy.desc).map (fun d => d.parameters.length) = some 3 := by decide +kernel
set_option maxRecDepth 20000 in
set_option maxHeartbeats 4000000 in
theorem c_X11_setLazy (A : Nat → Nat) (P : List Nat) (g : pM) (m : Nat) {cs : List Nat} {lm gm : Nat} {Z : Nat → Int32} {σ : Sg} {B : Nat} (r q b : Nat) (hr : r < gK σ) (hb : b = 0 ∨ b = 1) (hm : q ∈ nAc (gN σ r)) (hS : SW B cs σ) (hO : g m = mOb A m (gZ σ) cs.length lm gm) (hZ : g (m + 1) = ai 0 10511 Z) (hR : RZ Z σ) : PM yX11_setLazy cX11_setLazy 5 (Option.none : Option Jvm.ClassFile.FieldType) rm_X11_setLazy [.ref (A m), .int (nI r), .int (nI q), .int (nI b)] P A g (fun v g' => v = none ∧ ZS g' m (if b = 0 then egS σ r q else lzS σ r q) ∧ Fr g g' (m + 1) (m + 2)) := by
  have hK := hR.k16
  have hT := hR.t24
  have hL := hR.le
  have hcap := hR.ac5 hr
  have hl := hS.a16 hr
  have hq16 := hl q hm
  refine px_intro (by decide +kernel) (Nat.le_of_ble_eq_true rfl) (fun K sz C R => ?_)
  show V K 0 0 P A g [(0, .ref (A m)), (1, .int (nI r)), (2, .int (nI q)), (3, .int (nI b))] 0 []
  refine g_aload_n (pc := 0) C dX11_setLazy_0 0 rfl ?_
  refine g_iload_n (pc := 1) C dX11_setLazy_1 1 rfl ?_
  refine g_iload_n (pc := 2) C dX11_setLazy_2 2 rfl ?_
  refine g_callV (pc := 3) C (As := [.int (nI r), .int (nI q)]) (rest := []) (b := m) (c_X11_activeAt A P g m r q (by omega) (by omega) hl hO hZ hR) hO rfl rfl Y_X11_activeAt u_961 N_X11_activeAt ⟨by decide, by decide⟩ ⟨by decide, by decide⟩ (Nat.le_of_ble_eq_true rfl) rfl dX11_setLazy_3 ?_
  rintro _ _ _ _ ⟨rfl, rfl, rfl, rfl⟩
  rcases zPl_c (nAc (gN σ r)) q with ⟨hppk_1, hqpk_1⟩ | ⟨pk1, hkpk_1, hppk_1, hxpk_1, hipk_1, hmpk_1⟩
  ·
    rw [hppk_1]
    show V K 0 0 P A g [(0, .ref (A m)), (1, .int (nI r)), (2, .int (nI q)), (3, .int (nI b))] 6 [.int (-1)]
    exact absurd hm hqpk_1
  ·
    rw [hppk_1]
    show V K 0 0 P A g [(0, .ref (A m)), (1, .int (nI r)), (2, .int (nI q)), (3, .int (nI b))] 6 [.int (nI pk1)]
    refine g_istore (pc := 6) C dX11_setLazy_6 (by decide) (lv' := [(0, .ref (A m)), (1, .int (nI r)), (2, .int (nI q)), (3, .int (nI b)), (4, .int (nI pk1))]) [1, 2, 3, 4, 0] rfl ?_
    refine g_iload (pc := 8) C dX11_setLazy_8 4 rfl ?_
    refine g_if_lt (pc := 10) C dX11_setLazy_10 (tgt := 29) (by decide) (fun c_10 => ?_) (fun c_10 => ?_)
    ·
      exfalso
      exact nI_pos (by omega) c_10
    ·
      have c_10 : ¬ pk1 < 0 := fun h => c_10 ((nI_ltI (a := pk1) (b := 0) (by omega) (by omega)).mpr h)
      refine g_aload_n (pc := 13) C dX11_setLazy_13 0 rfl ?_
      refine g_get (pc := 14) C (j := 0) hO rfl rfl (by decide) u_852 dX11_setLazy_14 ?_
      refine g_sipush (pc := 17) C dX11_setLazy_17 (v := nI 176) rfl ?_
      refine g_iconst (pc := 20) C dX11_setLazy_20 (v := nI 5) rfl ?_
      refine g_iload_n (pc := 21) C dX11_setLazy_21 1 rfl ?_
      refine g_imul (pc := 22) C dX11_setLazy_22 (z := nI (5 * r)) (pk_mul _ _) ?_
      refine g_iadd (pc := 23) C dX11_setLazy_23 (z := nI (176 + 5 * r)) (nI_add _ _) ?_
      refine g_iload (pc := 24) C dX11_setLazy_24 4 rfl ?_
      refine g_iadd (pc := 26) C dX11_setLazy_26 (z := nI (176 + 5 * r + pk1)) (nI_add _ _) ?_
      refine g_iload_n (pc := 27) C dX11_setLazy_27 3 rfl ?_
      refine g_iast (pc := 28) C hZ (nI_clamp (by omega)) (nI_in0 (n := 10511) (by omega) (by omega)) dX11_setLazy_28 ?_
      obtain ⟨Z_2, hZ_2⟩ : ∃ yZ : Nat → Int32, yZ = upd Z (176 + 5 * r + pk1) (nI b) := ⟨_, rfl⟩
      show V K 0 0 P A (va_up g (m + 1) (ai 0 10511 (upd Z (176 + 5 * r + pk1) (nI b)))) [(0, .ref (A m)), (1, .int (nI r)), (2, .int (nI q)), (3, .int (nI b)), (4, .int (nI pk1))] 29 []
      rw [← hZ_2]
      obtain ⟨g_3, hg_3⟩ : ∃ yM : pM, yM = va_up g (m + 1) (ai 0 10511 Z_2) := ⟨_, rfl⟩
      show V K 0 0 P A (va_up g (m + 1) (ai 0 10511 Z_2)) [(0, .ref (A m)), (1, .int (nI r)), (2, .int (nI q)), (3, .int (nI b)), (4, .int (nI pk1))] 29 []
      rw [← hg_3]
      have h_4 : g_3 m = ob 11 [.ref (A (m + 1)), .int (nI (gZ σ).1), .int (nI (gZ σ).2.1), .int (nI (gZ σ).2.2.1), .int (nI (gZ σ).2.2.2.1), .int (nI (gZ σ).2.2.2.2), .ref (A (m + 2)), .int (nI cs.length), .ref (A (m + 3)), .int (nI lm), .ref (A (m + 4)), .ref (A (m + 5)), .int (nI gm), .ref (A (m + 6)), .ref (A (m + 7)), .ref (A (m + 8))] := by rw [hg_3, va_up_ne _ _ (show m ≠ m + 1 from by omega)]; exact hO
      have h_5 : g_3 (m + 1) = ai 0 10511 Z_2 := by rw [hg_3]; exact va_up_self _ _ _
      have hfin : RZ Z_2 (if b = 0 then egS σ r q else lzS σ r q) := by
        rcases hb with rfl | rfl
        · rw [if_pos rfl]; exact RZ.sEg hR hr hkpk_1 hxpk_1 hl hZ_2
        · rw [if_neg (by decide)]; exact RZ.sLa hR hr hkpk_1 hxpk_1 hl hZ_2
      exact g_vret (pc := 29) C R ⟨rfl, rfl, rfl, ⟨_, h_5, hfin⟩, fun k hk => by rw [hg_3, va_up_ne _ _ (by omega)]⟩ (by decide) (by decide) dX11_setLazy_29
theorem c_X11_setLazy0 (A : Nat → Nat) (P : List Nat) (g : pM) (m : Nat) {cs : List Nat} {lm gm : Nat} {Z : Nat → Int32} {σ : Sg} {B : Nat} (r q : Nat) (hr : r < gK σ) (hm : q ∈ nAc (gN σ r)) (hS : SW B cs σ) (hO : g m = mOb A m (gZ σ) cs.length lm gm) (hZ : g (m + 1) = ai 0 10511 Z) (hR : RZ Z σ) : PM yX11_setLazy cX11_setLazy 5 none rm_X11_setLazy [.ref (A m), .int (nI r), .int (nI q), .int (nI 0)] P A g (fun v g' => v = none ∧ ZS g' m (egS σ r q) ∧ Fr g g' (m + 1) (m + 2)) := c_X11_setLazy A P g m r q 0 hr (Or.inl rfl) hm hS hO hZ hR
theorem c_X11_setLazy1 (A : Nat → Nat) (P : List Nat) (g : pM) (m : Nat) {cs : List Nat} {lm gm : Nat} {Z : Nat → Int32} {σ : Sg} {B : Nat} (r q : Nat) (hr : r < gK σ) (hm : q ∈ nAc (gN σ r)) (hS : SW B cs σ) (hO : g m = mOb A m (gZ σ) cs.length lm gm) (hZ : g (m + 1) = ai 0 10511 Z) (hR : RZ Z σ) : PM yX11_setLazy cX11_setLazy 5 none rm_X11_setLazy [.ref (A m), .int (nI r), .int (nI q), .int (nI 1)] P A g (fun v g' => v = none ∧ ZS g' m (lzS σ r q) ∧ Fr g g' (m + 1) (m + 2)) := c_X11_setLazy A P g m r q 1 hr (Or.inr rfl) hm hS hO hZ hR
abbrev rm_X11_without : Room := { frames := 0, cells := 0, slots := 0, locals := 0 }
theorem Y_X11_without : pY yX11_without cX11_without 7 (Option.some Jvm.ClassFile.FieldType.int) := ⟨u_979, us_12, u_13, u_980⟩
theorem N_X11_without : yX11_without.cls ≠ "java/lang/invoke/MethodHandle" ∧ yX11_without.cls ≠ "java/lang/invoke/VarHandle" ∧ (parseMethodDescriptor yX11_without.desc).map (fun d => d.parameters.length) = some 3 := by decide +kernel
set_option maxRecDepth 20000 in
set_option maxHeartbeats 4000000 in
theorem c_X11_without (A : Nat → Nat) (P : List Nat) (g : pM) (m : Nat) {cs : List Nat} {lm gm : Nat} {Z : Nat → Int32} {σ : Sg} (r p q : Nat) (hr : r < gK σ) (hp16 : p < 16) (hq16 : q < 16) (hl : ∀ x ∈ nAc (gN σ r), x < 16) {l0 : List Nat} (hso : SO g (m + 4) 16 l0) (hO : g m = mOb A m (gZ σ) cs.length lm gm) (hZ : g (m + 1) = ai 0 10511 Z) (hR : RZ Z σ) : PM yX11_without cX11_without 7 (Option.some Jvm.ClassFile.FieldType.int) rm_X11_without [.ref (A m), .int (nI r), .int (nI p), .int (nI q)] P A g (fun v g' => v = some (.int (nI (wof (some p) (some q) (nAc (gN σ r))).length)) ∧ SO g' (m + 4) 16 (wof (some p) (some q) (nAc (gN σ r))) ∧ Fr g g' (m + 4) (m + 5)) := by
  have hK := hR.k16
  have hT := hR.t24
  have hL := hR.le
  have hcap := hR.ac5 hr
  refine px_intro (by decide +kernel) (Nat.le_of_ble_eq_true rfl) (fun K sz C R => ?_)
  show V K 0 0 P A g [(0, .ref (A m)), (1, .int (nI r)), (2, .int (nI p)), (3, .int (nI q))] 0 []
  refine g_iconst (pc := 0) C dX11_without_0 (v := nI 0) rfl ?_
  refine g_istore (pc := 1) C dX11_without_1 (by decide) (lv' := [(0, .ref (A m)), (1, .int (nI r)), (2, .int (nI p)), (3, .int (nI q)), (4, .int (nI 0))]) [1, 2, 3, 4, 0] rfl ?_
  refine g_iconst (pc := 3) C dX11_without_3 (v := nI 0) rfl ?_
  refine g_istore (pc := 4) C dX11_without_4 (by decide) (lv' := [(0, .ref (A m)), (1, .int (nI r)), (2, .int (nI p)), (3, .int (nI q)), (4, .int (nI 0)), (5, .int (nI 0))]) [1, 2, 3, 4, 5, 0] rfl ?_
  have lp_6 : ∀ (fuel : Nat) (gm6 : pM) (hm6 : Fr g gm6 (m + 4) (m + 5)) (k : Nat) (hk : k ≤ (nAc (gN σ r)).length) (hs6 : SO gm6 (m + 4) 16 (wof (some p) (some q) ((nAc (gN σ r)).take k))), (nAc (gN σ r)).length - k < fuel → V K 0 0 P A gm6 [(0, .ref (A m)), (1, .int (nI r)), (2, .int (nI p)), (3, .int (nI q)), (4, .int (nI (wof (some p) (some q) ((nAc (gN σ r)).take k)).length)), (5, .int (nI k))] 6 [] := by
    intro fuel
    induction fuel with
    | zero => intro gm6 hm6 k hk hs6 hμ; exact absurd hμ (Nat.not_lt_zero _)
    | succ fuel ih =>
      intro gm6 hm6 k hk hs6 hμ
      have h_1 := hm6.at (by omega) hO
      have h_2 := hm6.at (by omega) hZ
      obtain ⟨hs0, rs, hs1, hs2⟩ := hs6
      have hwl := wof_le (some p) (some q) (nAc (gN σ r)) k
      refine g_iload (pc := 6) C dX11_without_6 5 rfl ?_
      refine g_aload_n (pc := 8) C dX11_without_8 0 rfl ?_
      refine g_get (pc := 9) C (j := 0) h_1 rfl rfl (by decide) u_852 dX11_without_9 ?_
      refine g_bipush (pc := 12) C dX11_without_12 (v := nI 16) rfl ?_
      refine g_iload_n (pc := 14) C dX11_without_14 1 rfl ?_
      refine g_iadd (pc := 15) C dX11_without_15 (z := nI (16 + r)) (nI_add _ _) ?_
      refine g_iald (pc := 16) C h_2 (nI_clamp (by omega)) (nI_in0 (n := 10511) (by omega) (by omega)) dX11_without_16 (x := nI (nAc (gN σ r)).length) (RZ.rAn hR (r := r) (by omega) (by omega)) ?_
      refine g_icmp_ge (pc := 17) C dX11_without_17 (tgt := 66) (by decide) (fun c_17 => ?_) (fun c_17 => ?_)
      ·
        have c_17 : (nAc (gN σ r)).length ≤ k := (nI_leI (by omega) (by omega)).mp c_17
        refine g_iload (pc := 66) C dX11_without_66 4 rfl ?_
        have hfull : (nAc (gN σ r)).take k = (nAc (gN σ r)) := List.take_of_length_le (by omega)
        exact g_iret (pc := 68) C R ⟨rfl, rfl, by rw [hfull], by rw [← hfull]; exact ⟨hs0, rs, hs1, hs2⟩, fun k hk => by rw [hm6 k (by omega)]⟩ (by decide) (by decide) dX11_without_68
      ·
        have c_17 : ¬ (nAc (gN σ r)).length ≤ k := fun h => c_17 ((nI_leI (a := (nAc (gN σ r)).length) (b := k) (by omega) (by omega)).mpr h)
        have hlt : k < (nAc (gN σ r)).length := by omega
        have hv16 := getD_lt (i := k) hl
        refine g_aload_n (pc := 20) C dX11_without_20 0 rfl ?_
        refine g_get (pc := 21) C (j := 0) h_1 rfl rfl (by decide) u_852 dX11_without_21 ?_
        refine g_bipush (pc := 24) C dX11_without_24 (v := nI 96) rfl ?_
        refine g_iconst (pc := 26) C dX11_without_26 (v := nI 5) rfl ?_
        refine g_iload_n (pc := 27) C dX11_without_27 1 rfl ?_
        refine g_imul (pc := 28) C dX11_without_28 (z := nI (5 * r)) (pk_mul _ _) ?_
        refine g_iadd (pc := 29) C dX11_without_29 (z := nI (96 + 5 * r)) (nI_add _ _) ?_
        refine g_iload (pc := 30) C dX11_without_30 5 rfl ?_
        refine g_iadd (pc := 32) C dX11_without_32 (z := nI (96 + 5 * r + k)) (nI_add _ _) ?_
        refine g_iald (pc := 33) C h_2 (nI_clamp (by omega)) (nI_in0 (n := 10511) (by omega) (by omega)) dX11_without_33 (x := nI ((nAc (gN σ r)).getD k 0)) (RZ.rAc hR (r := r) (k := k) (by omega) (by omega) (by omega)) ?_
        refine g_istore (pc := 34) C dX11_without_34 (by decide) (lv' := [(0, .ref (A m)), (1, .int (nI r)), (2, .int (nI p)), (3, .int (nI q)), (4, .int (nI (wof (some p) (some q) ((nAc (gN σ r)).take k)).length)), (5, .int (nI k)), (6, .int (nI ((nAc (gN σ r)).getD k 0)))]) [1, 2, 3, 4, 5, 6, 0] rfl ?_
        refine g_iload (pc := 36) C dX11_without_36 6 rfl ?_
        refine g_iload_n (pc := 38) C dX11_without_38 2 rfl ?_
        refine g_icmp_eq (pc := 39) C dX11_without_39 (tgt := 60) (by decide) (fun c_39 => ?_) (fun c_39 => ?_)
        ·
          have c_39 : ((nAc (gN σ r)).getD k 0) = p := (nI_eq (by omega) (by omega)).mp c_39
          have hw : wof (some p) (some q) ((nAc (gN σ r)).take (k + 1)) = (wof (some p) (some q) ((nAc (gN σ r)).take k)) := by rw [wof_s hlt, if_pos (Or.inl (by rw [c_39]))]
          rw [← hw]
          refine g_iinc (pc := 60) C dX11_without_60 (by decide) 5 rfl (v := nI (k + 1)) (nI_i1 _) (lv' := [(0, .ref (A m)), (1, .int (nI r)), (2, .int (nI p)), (3, .int (nI q)), (4, .int (nI (wof (some p) (some q) ((nAc (gN σ r)).take (k + 1))).length)), (5, .int (nI (k + 1))), (6, .int (nI ((nAc (gN σ r)).getD k 0)))]) [1, 2, 3, 4, 5, 0, 6] rfl ?_
          refine g_goto (pc := 63) C dX11_without_63 (tgt := 6) (by decide) ?_
          refine g_sub [0, 1, 2, 3, 4, 5] rfl ?_
          exact ih gm6 hm6 (k + 1) (by omega) (by rw [hw]; exact ⟨hs0, rs, hs1, hs2⟩) (by omega)
        ·
          have c_39 : ¬ ((nAc (gN σ r)).getD k 0) = p := fun h => c_39 ((nI_eq (a := ((nAc (gN σ r)).getD k 0)) (b := p) (by omega) (by omega)).mpr h)
          refine g_iload (pc := 42) C dX11_without_42 6 rfl ?_
          refine g_iload_n (pc := 44) C dX11_without_44 3 rfl ?_
          refine g_icmp_eq (pc := 45) C dX11_without_45 (tgt := 60) (by decide) (fun c_45 => ?_) (fun c_45 => ?_)
          ·
            have c_45 : ((nAc (gN σ r)).getD k 0) = q := (nI_eq (by omega) (by omega)).mp c_45
            have hw : wof (some p) (some q) ((nAc (gN σ r)).take (k + 1)) = (wof (some p) (some q) ((nAc (gN σ r)).take k)) := by rw [wof_s hlt, if_pos (Or.inr (by rw [c_45]))]
            rw [← hw]
            refine g_iinc (pc := 60) C dX11_without_60 (by decide) 5 rfl (v := nI (k + 1)) (nI_i1 _) (lv' := [(0, .ref (A m)), (1, .int (nI r)), (2, .int (nI p)), (3, .int (nI q)), (4, .int (nI (wof (some p) (some q) ((nAc (gN σ r)).take (k + 1))).length)), (5, .int (nI (k + 1))), (6, .int (nI ((nAc (gN σ r)).getD k 0)))]) [1, 2, 3, 4, 5, 0, 6] rfl ?_
            refine g_goto (pc := 63) C dX11_without_63 (tgt := 6) (by decide) ?_
            refine g_sub [0, 1, 2, 3, 4, 5] rfl ?_
            exact ih gm6 hm6 (k + 1) (by omega) (by rw [hw]; exact ⟨hs0, rs, hs1, hs2⟩) (by omega)
          ·
            have c_45 : ¬ ((nAc (gN σ r)).getD k 0) = q := fun h => c_45 ((nI_eq (a := ((nAc (gN σ r)).getD k 0)) (b := q) (by omega) (by omega)).mpr h)
            have hw : wof (some p) (some q) ((nAc (gN σ r)).take (k + 1)) = (wof (some p) (some q) ((nAc (gN σ r)).take k)) ++ [(nAc (gN σ r)).getD k 0] := by rw [wof_s hlt, if_neg (by intro z; rcases z with z | z; exact c_39 (Option.some.inj z).symm; exact c_45 (Option.some.inj z).symm)]
            have hw2 : (wof (some p) (some q) ((nAc (gN σ r)).take (k + 1))).length = (wof (some p) (some q) ((nAc (gN σ r)).take k)).length + 1 := by rw [hw, List.length_append]; rfl
            refine g_aload_n (pc := 48) C dX11_without_48 0 rfl ?_
            refine g_get (pc := 49) C (j := 10) h_1 rfl rfl (by decide) u_862 dX11_without_49 ?_
            refine g_iload (pc := 52) C dX11_without_52 4 rfl ?_
            refine g_iload (pc := 54) C dX11_without_54 6 rfl ?_
            refine g_iast (pc := 56) C hs1 (nI_clamp (by omega)) (nI_in0 (n := 16) (by omega) (by omega)) dX11_without_56 ?_
            obtain ⟨g_3, hg_3⟩ : ∃ yM : pM, yM = va_up gm6 (m + 4) (ai 0 16 (upd rs (wof (some p) (some q) ((nAc (gN σ r)).take k)).length (nI ((nAc (gN σ r)).getD k 0)))) := ⟨_, rfl⟩
            show V K 0 0 P A (va_up gm6 (m + 4) (ai 0 16 (upd rs (wof (some p) (some q) ((nAc (gN σ r)).take k)).length (nI ((nAc (gN σ r)).getD k 0))))) [(0, .ref (A m)), (1, .int (nI r)), (2, .int (nI p)), (3, .int (nI q)), (4, .int (nI (wof (some p) (some q) ((nAc (gN σ r)).take k)).length)), (5, .int (nI k)), (6, .int (nI ((nAc (gN σ r)).getD k 0)))] 57 []
            rw [← hg_3]
            have h_4 : g_3 m = ob 11 [.ref (A (m + 1)), .int (nI (gZ σ).1), .int (nI (gZ σ).2.1), .int (nI (gZ σ).2.2.1), .int (nI (gZ σ).2.2.2.1), .int (nI (gZ σ).2.2.2.2), .ref (A (m + 2)), .int (nI cs.length), .ref (A (m + 3)), .int (nI lm), .ref (A (m + 4)), .ref (A (m + 5)), .int (nI gm), .ref (A (m + 6)), .ref (A (m + 7)), .ref (A (m + 8))] := by rw [hg_3, va_up_ne _ _ (show m ≠ m + 4 from by omega)]; exact h_1
            have h_5 : g_3 (m + 1) = ai 0 10511 Z := by rw [hg_3, va_up_ne _ _ (show m + 1 ≠ m + 4 from by omega)]; exact h_2
            have h_6 : g_3 (m + 4) = ai 0 16 (upd rs (wof (some p) (some q) ((nAc (gN σ r)).take k)).length (nI ((nAc (gN σ r)).getD k 0))) := by rw [hg_3]; exact va_up_self _ _ _
            refine g_iinc (pc := 57) C dX11_without_57 (by decide) 4 rfl (v := nI ((wof (some p) (some q) ((nAc (gN σ r)).take k)).length + 1)) (nI_i1 _) (lv' := [(0, .ref (A m)), (1, .int (nI r)), (2, .int (nI p)), (3, .int (nI q)), (4, .int (nI ((wof (some p) (some q) ((nAc (gN σ r)).take k)).length + 1))), (5, .int (nI k)), (6, .int (nI ((nAc (gN σ r)).getD k 0)))]) [1, 2, 3, 4, 0, 5, 6] rfl ?_
            refine g_iinc (pc := 60) C dX11_without_60 (by decide) 5 rfl (v := nI (k + 1)) (nI_i1 _) (lv' := [(0, .ref (A m)), (1, .int (nI r)), (2, .int (nI p)), (3, .int (nI q)), (4, .int (nI ((wof (some p) (some q) ((nAc (gN σ r)).take k)).length + 1))), (5, .int (nI (k + 1))), (6, .int (nI ((nAc (gN σ r)).getD k 0)))]) [1, 2, 3, 4, 5, 0, 6] rfl ?_
            refine g_goto (pc := 63) C dX11_without_63 (tgt := 6) (by decide) ?_
            refine g_sub [0, 1, 2, 3, 4, 5] rfl ?_
            rw [← hw2]
            exact ih g_3 (hm6.tr (fun k hk => by rw [hg_3, va_up_ne _ _ (by omega)])) (k + 1) (by omega) (by rw [hw]; exact SO.push hs2 (by omega) h_6) (by omega)
  exact lp_6 (_ + 1) g Fr.rf 0 (Nat.zero_le _) hso.nil (Nat.lt_succ_self _)
