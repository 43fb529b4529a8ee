-- PART 21: the reference's small methods
abbrev mOb (A : Nat → Nat) (m : Nat) (z : Sz) (n lm gm : Nat) : pE := ob 11 [.ref (A (m + 1)), .int (nI z.1), .int (nI z.2.1), .int (nI z.2.2.1), .int (nI z.2.2.2.1), .int (nI z.2.2.2.2), .ref (A (m + 2)), .int (nI n), .ref (A (m + 3)), .int (nI lm), .ref (A (m + 4)), .ref (A (m + 5)), .int (nI gm), .ref (A (m + 6)), .ref (A (m + 7)), .ref (A (m + 8))]
def ZS (g : pM) (m : Nat) (σ : Sg) : Prop := ∃ Z, g (m + 1) = ai 0 10511 Z ∧ RZ Z σ
/-- a row of numbers begins with l -/
def SO (g : pM) (c cap : Nat) (l : List Nat) : Prop := l.length ≤ cap ∧ ∃ r : Nat → Int32, g c = ai 0 cap r ∧ ∀ k, k < l.length → r k = nI (l.getD k 0)
theorem SO.fr {g g' : pM} {c cap lo hi : Nat} {l : List Nat} (h : SO g c cap l) (hf : Fr g g' lo hi) (hd : hi ≤ c ∨ c + 1 ≤ lo) : SO g' c cap l := by
  obtain ⟨h1, r, h2, h3⟩ := h
  exact ⟨h1, r, hf.at (by omega) h2, h3⟩
theorem SO.nil {g : pM} {c cap : Nat} {l : List Nat} (h : SO g c cap l) : SO g c cap [] := by
  obtain ⟨h1, r, h2, h3⟩ := h
  exact ⟨Nat.zero_le _, r, h2, fun k hk => absurd hk (Nat.not_lt_zero k)⟩
/-- the coins -/
def MC (g : pM) (m : Nat) (cs : List Nat) : Prop := SO g (m + 2) 64 cs ∧ ∀ x ∈ cs, x < 2 ^ 31
theorem MC.fr {g g' : pM} {m lo hi : Nat} {cs : List Nat} (h : MC g m cs) (hf : Fr g g' lo hi) (hd : hi ≤ m + 2 ∨ m + 3 ≤ lo) : MC g' m cs := ⟨h.1.fr hf (by omega), h.2⟩
theorem zsh {Z Z' : Nat → Int32} {a b j : Nat} {x : Int32} (h : Z' = sh Z a b) (hn : j < a ∨ b ≤ j) (hx : Z j = x) : Z' j = x := by
  rw [h]
  simp only [sh]
  rw [if_neg (by omega)]
  exact hx
theorem zshi {Z Z' : Nat → Int32} {a b j : Nat} {x : Int32} (h : Z' = sh Z a b) (h1 : a ≤ j) (h2 : j < b) (hx : Z (j + 1) = x) : Z' j = x := by
  rw [h]
  simp only [sh]
  rw [if_pos (by omega)]
  exact hx
theorem zsh_s {Z : Nat → Int32} {a b : Nat} {v : Int32} (c d : Nat) (h : a ≤ b) (hc : c = b + 1) (hd : d = b + 1) (hv : Z c = v) : upd (sh Z a b) b v = sh Z a d := by
  subst hc hd
  rw [← hv]
  have : sh Z a b (b + 1) = Z (b + 1) := by simp only [sh]; rw [if_neg (by omega)]
  rw [← this]
  exact sh_s h
theorem b32_y1 {b : Bool} (h : b32 b = nI 1) : b = true := by
  cases b
  · exact absurd h (by decide)
  · rfl
theorem b32_n1 {b : Bool} (h : ¬ b32 b = nI 1) : b = false := by
  cases b
  · rfl
  · exact absurd rfl h
def zPl (l : List Nat) (q : Nat) : Int32 := if q ∈ l then nI (l.idxOf q) else -1
theorem zPl_hit {l : List Nat} {q i : Nat} (hi : i < l.length) (h : l.getD i 0 = q) (hn : ∀ j, j < i → ¬ l.getD j 0 = q) : zPl l q = nI i := by
  have hm : q ∈ l := h ▸ getD_mem hi
  have h1 : l.idxOf q < l.length := List.idxOf_lt_length_of_mem hm
  have h2 : l.getD (l.idxOf q) 0 = q := by
    rw [List.getD, List.getElem?_eq_getElem h1]
    simp
  have h3 : ¬ l.idxOf q < i := fun hh => hn _ hh h2
  have h4 : ¬ i < l.idxOf q := by
    intro hh
    have := List.not_of_lt_findIdx (p := (· == q)) (xs := l) (i := i) hh
    rw [List.getD, List.getElem?_eq_getElem hi] at h
    have h : l[i] = q := h
    simp [h] at this
  have : l.idxOf q = i := by omega
  simp [zPl, hm, this]
theorem zPl_miss {l : List Nat} {q : Nat} (hn : ∀ j, j < l.length → ¬ l.getD j 0 = q) : zPl l q = -1 := by
  have : q ∉ l := by
    intro h
    obtain ⟨i, hi⟩ := List.mem_iff_getElem?.mp h
    refine hn i (List.getElem?_eq_some_iff.mp hi).1 ?_
    rw [List.getD, hi]
    rfl
  simp [zPl, this]
theorem zPl_c (l : List Nat) (q : Nat) : (zPl l q = -1 ∧ q ∉ l) ∨ ∃ k, k < l.length ∧ zPl l q = nI k ∧ l.getD k 0 = q ∧ l.idxOf q = k ∧ q ∈ l := by
  by_cases h : q ∈ l
  · have h1 : l.idxOf q < l.length := List.idxOf_lt_length_of_mem h
    refine Or.inr ⟨_, h1, by simp [zPl, h], ?_, rfl, h⟩
    rw [List.getD, List.getElem?_eq_getElem h1]
    simp
  · exact Or.inl ⟨by simp [zPl, h], h⟩
-- whether a number lies between two
theorem i64_0 : (0 : Int64).toInt = 0 := by decide
theorem in_64 {x lo hi : Int32} : decide (lo.toInt64 ≤ x.toInt64 ∧ x.toInt64 ≤ hi.toInt64) = decide (lo ≤ x ∧ x ≤ hi) := by
  have e : (lo.toInt64 ≤ x.toInt64 ∧ x.toInt64 ≤ hi.toInt64) ↔ (lo ≤ x ∧ x ≤ hi) := by
    rw [Int64.le_iff_toInt_le, Int64.le_iff_toInt_le, Int32.le_iff_toInt_le, Int32.le_iff_toInt_le]
    simp only [Int32.toInt_toInt64]
  simp only [e]
theorem in_c {x lo hi : Int32} {a b : Int64} (ha : a = lo.toInt64) (hb : b = hi.toInt64) : decide (a ≤ x.toInt64 ∧ x.toInt64 ≤ b) = decide (lo ≤ x ∧ x ≤ hi) := by
  subst ha hb
  exact in_64
/-- x lies between lo and n less 1 -/
theorem in_K {x : Int32} {n : Nat} (hn : n < 2 ^ 30) : decide ((0 : Int64) ≤ x.toInt64 ∧ x.toInt64 ≤ (nI n - nI 1).toInt64) = decide (¬ x < 0 ∧ x < nI n) := by
  rw [in_c (lo := 0) (hi := nI n - nI 1) (by decide) rfl]
  have e1 := pk_sub_toInt (a := n) (b := 1) hn (by omega)
  have e2 := nI_toInt (n := n) (by omega)
  have e3 : (0 : Int32).toInt = 0 := by decide
  have e : (0 ≤ x ∧ x ≤ nI n - nI 1) ↔ (¬ x < 0 ∧ x < nI n) := by
    rw [Int32.le_iff_toInt_le, Int32.le_iff_toInt_le, Int32.lt_iff_toInt_lt, Int32.lt_iff_toInt_lt, e1, e2, e3]
    omega
  simp only [e]
theorem lc_lt {a b : Int64} (h : ¬ lg_cmp a b < 0) : b ≤ a := by
  rw [lg_cmp_lt] at h
  rw [Int64.lt_iff_toInt_lt] at h
  rw [Int64.le_iff_toInt_le]
  omega
theorem lc_gt {a b : Int64} (h : ¬ 0 < lg_cmp a b) : a ≤ b := by
  rw [lg_cmp_gt] at h
  rw [Int64.lt_iff_toInt_lt] at h
  rw [Int64.le_iff_toInt_le]
  omega
theorem lc_ltn {a b : Int64} (h : lg_cmp a b < 0) : ¬ b ≤ a := by
  rw [lg_cmp_lt, Int64.lt_iff_toInt_lt] at h
  rw [Int64.le_iff_toInt_le]
  omega
theorem lc_gtn {a b : Int64} (h : 0 < lg_cmp a b) : ¬ a ≤ b := by
  rw [lg_cmp_gt, Int64.lt_iff_toInt_lt] at h
  rw [Int64.le_iff_toInt_le]
  omega
/-- a letter is put behind the others -/
def pst (σ : Sg) (t : Lt) : Sg := if 500 ≤ (gR σ).length then sS σ (gS σ + 1) else sR σ (gR σ ++ [t])
theorem pst_full {σ : Sg} {t : Lt} (h : 500 ≤ (gR σ).length) : pst σ t = sS σ (gS σ + 1) := by simp only [pst, if_pos h]
theorem pst_room {σ : Sg} {t : Lt} (h : ¬ 500 ≤ (gR σ).length) : pst σ t = sR σ (gR σ ++ [t]) := by simp only [pst, if_neg h]
theorem pst_K {σ : Sg} {t : Lt} : gK (pst σ t) = gK σ := by simp only [pst]; split <;> rfl
theorem pst_T {σ : Sg} {t : Lt} : gT (pst σ t) = gT σ := by simp only [pst]; split <;> rfl
theorem pst_Z {σ : Sg} {t : Lt} : gZ (pst σ t) = gZ σ := by simp only [pst]; split <;> rfl
theorem snd_pst {σ : Sg} {f t k x y : Nat} {l : List Nat} : snd σ f t k x y l = pst σ (ltr σ f t k x y l) := rfl
/-- the letter's list, its first c numbers written -/
def zls (Z : Nat → Int32) (b : Nat) (l : List Nat) (c : Nat) : Nat → Int32 := fun j => if b ≤ j ∧ j < b + c then (if j - b < l.length then nI (l.getD (j - b) 0) else 0) else Z j
theorem zls_0 {Z : Nat → Int32} {b : Nat} {l : List Nat} : zls Z b l 0 = Z := by
  funext j
  simp only [zls]
  rw [if_neg (by omega)]
theorem zls_s {Z : Nat → Int32} {b c : Nat} {l : List Nat} {v : Int32} (hv : v = if c < l.length then nI (l.getD c 0) else 0) : upd (zls Z b l c) (b + c) v = zls Z b l (c + 1) := by
  funext j
  simp only [upd, zls]
  by_cases h : j = b + c
  · subst h
    rw [if_pos rfl, if_pos (by omega), show b + c - b = c by omega, hv]
  · rw [if_neg h]
    by_cases h2 : b ≤ j ∧ j < b + c
    · rw [if_pos h2, if_pos (show b ≤ j ∧ j < b + (c + 1) from ⟨h2.1, by omega⟩)]
    · rw [if_neg h2, if_neg (by omega)]
theorem zls_o {Z Z' : Nat → Int32} {b c j : Nat} {l : List Nat} {x : Int32} (h : Z' = zls Z b l c) (hn : j < b ∨ b + c ≤ j) (hx : Z j = x) : Z' j = x := by
  rw [h]
  simp only [zls]
  rw [if_neg (by omega)]
  exact hx
theorem zls_i {Z Z' : Nat → Int32} {b c k : Nat} {l : List Nat} (h : Z' = zls Z b l c) (h1 : k < c) (h2 : k < l.length) : Z' (b + k) = nI (l.getD k 0) := by
  rw [h]
  simp only [zls]
  rw [if_pos (by omega), show b + k - b = k by omega, if_pos h2]
theorem RZ.post {Z Z1 Z2 Z3 Z4 Z5 Z6 Y Z7 : Nat → Int32} {σ : Sg} {n c : Nat} {t : Lt} (h : RZ Z σ) (hn : n = (gR σ).length) (hroom : ¬ 500 ≤ n) (hl : t.2.2.2.2.2.length ≤ 5) (hc : c = 5)
    (e1 : Z1 = upd Z (4992 + 11 * n + 0 + 0) (nI t.1)) (e2 : Z2 = upd Z1 (4992 + 11 * n + 0 + 1) (nI t.2.1)) (e3 : Z3 = upd Z2 (4992 + 11 * n + 0 + 2) (nI t.2.2.1)) (e4 : Z4 = upd Z3 (4992 + 11 * n + 0 + 3) (nI t.2.2.2.1)) (e5 : Z5 = upd Z4 (4992 + 11 * n + 0 + 4) (nI t.2.2.2.2.1)) (e6 : Z6 = upd Z5 (4992 + 11 * n + 0 + 5) (nI t.2.2.2.2.2.length)) (ey : Y = zls Z6 (4992 + 11 * n + 0 + 6) t.2.2.2.2.2 c) (e7 : Z7 = upd Y 10507 (nI (n + 1))) : RZ Z7 (pst σ t) := by
  subst hn hc
  rw [pst_room hroom]
  have o : ∀ j, ¬ (4992 + 11 * (gR σ).length ≤ j ∧ j < 4992 + 11 * (gR σ).length + 11) → j ≠ 10507 → Z7 j = Z j := fun j h1 h2 => zne e7 h2 (zls_o ey (by omega) (zne e6 (by omega) (zne e5 (by omega) (zne e4 (by omega) (zne e3 (by omega) (zne e2 (by omega) (zne e1 (by omega) rfl)))))))
  have hle := h.le
  refine RZ.row (l := gR σ ++ [t]) h (fun j hj h1 h2 => o j (by omega) h1) (by rw [List.length_append, List.length_singleton]; omega) (fun i u hu => ?_) (by rw [List.length_append, List.length_singleton]; exact zeq e7 rfl) ((o _ (by omega) (by omega)).trans (h.rS rfl))
  by_cases hi : i < (gR σ).length
  · rw [List.getElem?_append_left hi] at hu
    exact (h.2.2.1.2 i u hu).cg (fun j hj => o j (by omega) (by omega))
  · have hi2 : i = (gR σ).length := by
      have := (List.getElem?_eq_some_iff.mp hu).1
      rw [List.length_append, List.length_singleton] at this
      omega
    subst hi2
    rw [List.getElem?_append_right (Nat.le_refl _), Nat.sub_self] at hu
    obtain rfl : t = u := Option.some.inj hu
    refine ⟨hl, fun c hc => ?_, fun k hk => zne e7 (by omega) (zix (zls_i ey (by omega) hk) (by omega))⟩
    have hcc : c = 0 ∨ c = 1 ∨ c = 2 ∨ c = 3 ∨ c = 4 ∨ c = 5 := by omega
    have y : ∀ {x}, Z6 (4992 + 11 * (gR σ).length + c) = x → Z7 (4992 + 11 * (gR σ).length + c) = x := fun hx => zne e7 (by omega) (zls_o ey (by omega) hx)
    rcases hcc with rfl | rfl | rfl | rfl | rfl | rfl
    · exact y (zne e6 (by omega) (zne e5 (by omega) (zne e4 (by omega) (zne e3 (by omega) (zne e2 (by omega) (zeq e1 (by omega)))))))
    · exact y (zne e6 (by omega) (zne e5 (by omega) (zne e4 (by omega) (zne e3 (by omega) (zeq e2 (by omega))))))
    · exact y (zne e6 (by omega) (zne e5 (by omega) (zne e4 (by omega) (zeq e3 (by omega)))))
    · exact y (zne e6 (by omega) (zne e5 (by omega) (zeq e4 (by omega))))
    · exact y (zne e6 (by omega) (zeq e5 (by omega)))
    · exact y (zeq e6 (by omega))
/-- the row from a on stands 11 lower, up to b -/
def s11 (Z : Nat → Int32) (a b : Nat) : Nat → Int32 := fun j => if a ≤ j + 11 ∧ j + 11 < b then Z (j + 11) else Z j
theorem s11_0 {Z : Nat → Int32} {a : Nat} : s11 Z a a = Z := by
  funext j
  simp only [s11]
  rw [if_neg (by omega)]
theorem s11_s {Z : Nat → Int32} {a b c : Nat} {v : Int32} (h : a ≤ b) (ha : 11 ≤ a) (hc : c = b - 11) (hv : Z b = v) : upd (s11 Z a b) c v = s11 Z a (b + 1) := by
  subst hc
  funext j
  simp only [upd, s11]
  by_cases h1 : j = b - 11
  · subst h1
    rw [if_pos rfl, if_pos (by omega), show b - 11 + 11 = b by omega, hv]
  · rw [if_neg h1]
    by_cases h2 : a ≤ j + 11 ∧ j + 11 < b
    · rw [if_pos h2, if_pos (by omega)]
    · rw [if_neg h2, if_neg (by omega)]
theorem s11_o {Z Z' : Nat → Int32} {a b j : Nat} {x : Int32} (h : Z' = s11 Z a b) (hn : j + 11 < a ∨ b ≤ j + 11) (hx : Z j = x) : Z' j = x := by
  rw [h]
  simp only [s11]
  rw [if_neg (by omega)]
  exact hx
theorem s11_i {Z Z' : Nat → Int32} {a b j : Nat} {x : Int32} (h : Z' = s11 Z a b) (h1 : a ≤ j + 11) (h2 : j + 11 < b) (hx : Z (j + 11) = x) : Z' j = x := by
  rw [h]
  simp only [s11]
  rw [if_pos (by omega)]
  exact hx
theorem RZ.toL {Z Y Z2 : Nat → Int32} {σ : Sg} {n i b : Nat} (h : RZ Z σ) (hn : n = (gR σ).length) (hi : i < n) (hb : b = 4992 + 11 * n) (ey : Y = s11 Z (4992 + 11 * (i + 1)) b) (e2 : Z2 = upd Y 10507 (nI (n - 1))) : RZ Z2 (sR σ ((gR σ).eraseIdx i)) := by
  subst hn hb
  have hle := h.le
  have hlen : ((gR σ).eraseIdx i).length = (gR σ).length - 1 := List.length_eraseIdx_of_lt hi
  refine RZ.row (l := (gR σ).eraseIdx i) h (fun j hj h1 h2 => zne e2 h1 (s11_o ey (by omega) rfl)) (by omega) (fun k u hu => ?_) (by rw [hlen]; exact zeq e2 rfl) (zne e2 (by omega) (s11_o ey (by omega) (h.rS rfl)))
  have hk := (List.getElem?_eq_some_iff.mp hu).1
  rw [hlen] at hk
  rw [List.getElem?_eraseIdx] at hu
  by_cases hki : k < i
  · rw [if_pos hki] at hu
    exact (h.2.2.1.2 k u hu).cg (fun j hj => zne e2 (by omega) (s11_o ey (by omega) rfl))
  · rw [if_neg hki] at hu
    obtain ⟨l1, l2, l3⟩ := h.2.2.1.2 (k + 1) u hu
    exact ⟨l1, fun c hc => zne e2 (by omega) (s11_i ey (by omega) (by omega) (zix (l2 c hc) (by omega))), fun q hq => zne e2 (by omega) (s11_i ey (by omega) (by omega) (zix (l3 q hq) (by omega)))⟩
theorem paRem_e {σ : Sg} {r q k : Nat} (h : (nPa (gN σ r)).idxOf q = k) : paRem σ r q = paErase σ r k := by
  simp only [paRem, paErase]
  rw [List.erase_eq_eraseIdx_of_idxOf h]
theorem sNd_id {σ : Sg} {r : Nat} : sNd σ r (gN σ r) = σ := by
  have e : va_up (gN σ) r (gN σ r) = gN σ := va_up_id rfl
  show (va_up (gN σ) r (gN σ r), σ.2) = σ
  rw [e]
theorem paRem_n {σ : Sg} {r q : Nat} (h : q ∉ nPa (gN σ r)) : paRem σ r q = σ := by
  simp only [paRem]
  rw [List.erase_of_not_mem h]
  exact sNd_id
theorem RZ.ePa {Z Z1 Y : Nat → Int32} {σ : Sg} {r k b : Nat} (h : RZ Z σ) (hr : r < gK σ) (hk : k < (nPa (gN σ r)).length) (e1 : Z1 = upd Z (32 + r) (nI ((nPa (gN σ r)).length - 1))) (ey : Y = sh Z1 (256 + 8 * r + k) (256 + 8 * r + b)) (hb : b + 1 = (nPa (gN σ r)).length) : RZ Y (paErase σ r k) := by
  have hk16 := h.k16
  have h8 := h.pa8 hr
  have hlen : ((nPa (gN σ r)).eraseIdx k).length = (nPa (gN σ r)).length - 1 := List.length_eraseIdx_of_lt hk
  refine h.wPa hr (fun j hj => zsh ey (by omega) (zne e1 (by omega) rfl)) ⟨by omega, by rw [hlen]; exact zsh ey (by omega) (zeq e1 rfl), List.Pairwise.sublist (List.eraseIdx_sublist _ k) (h.paN hr), fun j hj => ?_⟩
  rw [hlen] at hj
  have e : ((nPa (gN σ r)).eraseIdx k).getD j 0 = if j < k then (nPa (gN σ r)).getD j 0 else (nPa (gN σ r)).getD (j + 1) 0 := by
    simp only [List.getD, List.getElem?_eraseIdx]
    split <;> rfl
  rw [e]
  by_cases q : j < k
  · rw [if_pos q]
    exact zsh ey (by omega) (zne e1 (by omega) (h.rPa rfl hr (by omega)))
  · rw [if_neg q]
    exact zshi ey (by omega) (by omega) (zne e1 (by omega) (h.rPa (by omega) hr (by omega)))
abbrev rm_X11_in : Room := { frames := 0, cells := 0, slots := 0, locals := 0 }
theorem N_X11_in : yX11_in.cls ≠ "java/lang/invoke/MethodHandle" ∧ yX11_in.cls ≠ "java/lang/invoke/VarHandle" ∧ (parseMethodDescriptor yX11_in.desc).map (fun d => d.parameters.length) = some 3 := by decide +kernel
set_option maxRecDepth 20000 in
set_option maxHeartbeats 4000000 in
theorem c_X11_in (A : Nat → Nat) (P : List Nat) (g : pM) (a b c : Int64) : PM yX11_in cX11_in 6 (Option.some Jvm.ClassFile.FieldType.boolean) rm_X11_in [.long a, .long b, .long c] P A g (fun v g' => v = some (.int (b32 (decide (b ≤ a ∧ a ≤ c)))) ∧ g = g') := by
  refine px_intro (by decide +kernel) (Nat.le_of_ble_eq_true rfl) (fun K sz C R => ?_)
  show V K 0 0 P A g [(0, .long a), (2, .long b), (4, .long c)] 0 []
  refine g_lload_n (pc := 0) C dX11_in_0 0 rfl ?_
  refine g_lload_n (pc := 1) C dX11_in_1 1 rfl ?_
  refine g_lcmp (pc := 2) C dX11_in_2 ?_
  refine g_if_lt (pc := 3) C dX11_in_3 (tgt := 17) (by decide) (fun c_3 => ?_) (fun c_3 => ?_)
  ·
    refine g_iconst (pc := 17) C dX11_in_17 (v := nI 0) rfl ?_
    exact g_zret (pc := 18) C R (Or.inl rfl) ⟨rfl, rfl, by rw [show decide (b ≤ a ∧ a ≤ c) = false from decide_eq_false (fun q => lc_ltn c_3 q.1)]; rfl, rfl⟩ (by decide) (by decide) dX11_in_18
  ·
    refine g_lload_n (pc := 6) C dX11_in_6 0 rfl ?_
    refine g_lload (pc := 7) C dX11_in_7 2 rfl ?_
    refine g_lcmp (pc := 9) C dX11_in_9 ?_
    refine g_if_gt (pc := 10) C dX11_in_10 (tgt := 17) (by decide) (fun c_10 => ?_) (fun c_10 => ?_)
    ·
      refine g_iconst (pc := 17) C dX11_in_17 (v := nI 0) rfl ?_
      exact g_zret (pc := 18) C R (Or.inl rfl) ⟨rfl, rfl, by rw [show decide (b ≤ a ∧ a ≤ c) = false from decide_eq_false (fun q => lc_gtn c_10 q.2)]; rfl, rfl⟩ (by decide) (by decide) dX11_in_18
    ·
      refine g_iconst (pc := 13) C dX11_in_13 (v := nI 1) rfl ?_
      refine g_goto (pc := 14) C dX11_in_14 (tgt := 18) (by decide) ?_
      exact g_zret (pc := 18) C R (Or.inr rfl) ⟨rfl, rfl, by rw [show decide (b ≤ a ∧ a ≤ c) = true from decide_eq_true ⟨lc_lt c_3, lc_gt c_10⟩]; rfl, rfl⟩ (by decide) (by decide) dX11_in_18
abbrev rm_X11_isNode : Room := { frames := 1, cells := 0, slots := 0, locals := 25 }
theorem Y_X11_isNode : pY yX11_isNode cX11_isNode 2 (Option.some Jvm.ClassFile.FieldType.boolean) := ⟨u_931, us_2, u_13, u_932⟩
theorem N_X11_isNode : yX11_isNode.cls ≠ "java/lang/invoke/MethodHandle" ∧ yX11_isNode.cls ≠ "java/lang/invoke/VarHandle" ∧ (parseMethodDescriptor yX11_isNode.desc).map (fun d => d.parameters.length) = some 1 := by decide +kernel
set_option maxRecDepth 20000 in
set_option maxHeartbeats 4000000 in
theorem c_X11_isNode (A : Nat → Nat) (P : List Nat) (g : pM) (m : Nat) {cs : List Nat} {lm gm : Nat} {Z : Nat → Int32} {σ : Sg} (x : Int32) (hO : g m = mOb A m (gZ σ) cs.length lm gm) (hZ : g (m + 1) = ai 0 10511 Z) (hR : RZ Z σ) : PM yX11_isNode cX11_isNode 2 (Option.some Jvm.ClassFile.FieldType.boolean) rm_X11_isNode [.ref (A m), .int x] P A g (fun v g' => v = some (.int (b32 (isN σ x))) ∧ g = g') := by
  have hK := hR.k16
  have hT := hR.t24
  have hL := hR.le
  refine px_intro (by decide +kernel) (Nat.le_of_ble_eq_true rfl) (fun K sz C R => ?_)
  show V K 0 0 P A g [(0, .ref (A m)), (1, .int x)] 0 []
  refine g_iload_n (pc := 0) C dX11_isNode_0 1 rfl ?_
  refine g_i2l (pc := 1) C dX11_isNode_1 ?_
  refine g_lconst (pc := 2) C dX11_isNode_2 (v := 0) rfl ?_
  refine g_aload_n (pc := 3) C dX11_isNode_3 0 rfl ?_
  refine g_get (pc := 4) C (j := 0) hO rfl rfl (by decide) u_852 dX11_isNode_4 ?_
  refine g_sipush (pc := 7) C dX11_isNode_7 (v := nI 10505) rfl ?_
  refine g_iald (pc := 10) C hZ (nI_clamp (by omega)) (nI_in0 (n := 10511) (by omega) (by omega)) dX11_isNode_10 (x := nI (gK σ)) (RZ.rK hR (by omega)) ?_
  refine g_iconst (pc := 11) C dX11_isNode_11 (v := nI 1) rfl ?_
  refine g_isub (pc := 12) C dX11_isNode_12 (z := nI (gK σ) - nI 1) rfl ?_
  refine g_i2l (pc := 13) C dX11_isNode_13 ?_
  refine g_callS (pc := 14) C (As := [.long (x).toInt64, .long 0, .long (nI (gK σ) - nI 1).toInt64]) (rest := []) (c_X11_in A P g (x).toInt64 0 (nI (gK σ) - nI 1).toInt64) rfl u_908 u_13 u_909 u_907 N_X11_in ⟨by decide, by decide⟩ ⟨by decide, by decide⟩ (Nat.le_of_ble_eq_true rfl) rfl dX11_isNode_14 ?_
  rintro _ _ _ _ ⟨rfl, rfl, rfl, rfl⟩
  show V K 0 0 P A g [(0, .ref (A m)), (1, .int x)] 17 [.int (b32 (decide (0 ≤ (x).toInt64 ∧ (x).toInt64 ≤ (nI (gK σ) - nI 1).toInt64)))]
  exact g_zret (pc := 17) C R (b32_z _) ⟨rfl, rfl, by rw [in_K (by omega)]; rfl, rfl⟩ (by decide) (by decide) dX11_isNode_17
abbrev rm_X11_isTale : Room := { frames := 1, cells := 0, slots := 0, locals := 25 }
theorem Y_X11_isTale : pY yX11_isTale cX11_isTale 2 (Option.some Jvm.ClassFile.FieldType.boolean) := ⟨u_1088, us_32, u_13, u_1089⟩
theorem N_X11_isTale : yX11_isTale.cls ≠ "java/lang/invoke/MethodHandle" ∧ yX11_isTale.cls ≠ "java/lang/invoke/VarHandle" ∧ (parseMethodDescriptor yX11_isTale.desc).map (fun d => d.parameters.length) = some 1 := by decide +kernel
set_option maxRecDepth 20000 in
set_option maxHeartbeats 4000000 in
theorem c_X11_isTale (A : Nat → Nat) (P : List Nat) (g : pM) (m : Nat) {cs : List Nat} {lm gm : Nat} {Z : Nat → Int32} {σ : Sg} (x : Int32) (hO : g m = mOb A m (gZ σ) cs.length lm gm) (hZ : g (m + 1) = ai 0 10511 Z) (hR : RZ Z σ) : PM yX11_isTale cX11_isTale 2 (Option.some Jvm.ClassFile.FieldType.boolean) rm_X11_isTale [.ref (A m), .int x] P A g (fun v g' => v = some (.int (b32 (isT σ x))) ∧ g = g') := by
  have hK := hR.k16
  have hT := hR.t24
  have hL := hR.le
  refine px_intro (by decide +kernel) (Nat.le_of_ble_eq_true rfl) (fun K sz C R => ?_)
  show V K 0 0 P A g [(0, .ref (A m)), (1, .int x)] 0 []
  refine g_iload_n (pc := 0) C dX11_isTale_0 1 rfl ?_
  refine g_i2l (pc := 1) C dX11_isTale_1 ?_
  refine g_lconst (pc := 2) C dX11_isTale_2 (v := 0) rfl ?_
  refine g_aload_n (pc := 3) C dX11_isTale_3 0 rfl ?_
  refine g_get (pc := 4) C (j := 0) hO rfl rfl (by decide) u_852 dX11_isTale_4 ?_
  refine g_sipush (pc := 7) C dX11_isTale_7 (v := nI 10506) rfl ?_
  refine g_iald (pc := 10) C hZ (nI_clamp (by omega)) (nI_in0 (n := 10511) (by omega) (by omega)) dX11_isTale_10 (x := nI (gT σ)) (RZ.rT hR (by omega)) ?_
  refine g_iconst (pc := 11) C dX11_isTale_11 (v := nI 1) rfl ?_
  refine g_isub (pc := 12) C dX11_isTale_12 (z := nI (gT σ) - nI 1) rfl ?_
  refine g_i2l (pc := 13) C dX11_isTale_13 ?_
  refine g_callS (pc := 14) C (As := [.long (x).toInt64, .long 0, .long (nI (gT σ) - nI 1).toInt64]) (rest := []) (c_X11_in A P g (x).toInt64 0 (nI (gT σ) - nI 1).toInt64) rfl u_908 u_13 u_909 u_907 N_X11_in ⟨by decide, by decide⟩ ⟨by decide, by decide⟩ (Nat.le_of_ble_eq_true rfl) rfl dX11_isTale_14 ?_
  rintro _ _ _ _ ⟨rfl, rfl, rfl, rfl⟩
  show V K 0 0 P A g [(0, .ref (A m)), (1, .int x)] 17 [.int (b32 (decide (0 ≤ (x).toInt64 ∧ (x).toInt64 ≤ (nI (gT σ) - nI 1).toInt64)))]
  exact g_zret (pc := 17) C R (b32_z _) ⟨rfl, rfl, by rw [in_K (by omega)]; rfl, rfl⟩ (by decide) (by decide) dX11_isTale_17
abbrev rm_X11_draw : Room := { frames := 0, cells := 0, slots := 0, locals := 0 }
theorem Y_X11_draw : pY yX11_draw cX11_draw 3 (Option.some Jvm.ClassFile.FieldType.int) := ⟨u_975, us_11, u_13, u_976⟩
theorem N_X11_draw : yX11_draw.cls ≠ "java/lang/invoke/MethodHandle" ∧ yX11_draw.cls ≠ "java/lang/invoke/VarHandle" ∧ (parseMethodDescriptor yX11_draw.desc).map (fun d => d.parameters.length) = some 1 := by decide +kernel
set_option maxRecDepth 20000 in
set_option maxHeartbeats 4000000 in
theorem c_X11_draw (A : Nat → Nat) (P : List Nat) (g : pM) (m : Nat) {cs : List Nat} {lm gm : Nat} {Z : Nat → Int32} {σ : Sg} (n : Nat) (h0 : 0 < n) (h1 : n < 2 ^ 31) (hC : MC g m cs) (hX : cs.length = 0 ∨ gX σ < cs.length) (hO : g m = mOb A m (gZ σ) cs.length lm gm) (hZ : g (m + 1) = ai 0 10511 Z) (hR : RZ Z σ) : PM yX11_draw cX11_draw 3 (Option.some Jvm.ClassFile.FieldType.int) rm_X11_draw [.ref (A m), .int (nI n)] P A g (fun v g' => v = some (.int (nI (dI cs σ n))) ∧ ZS g' m (dS cs σ n) ∧ Fr g g' (m + 1) (m + 2)) := by
  have hK := hR.k16
  have hT := hR.t24
  have hL := hR.le
  obtain ⟨⟨hc0, rc, hc1, hc2⟩, hc3⟩ := hC
  refine px_intro (by decide +kernel) (Nat.le_of_ble_eq_true rfl) (fun K sz C R => ?_)
  show V K 0 0 P A g [(0, .ref (A m)), (1, .int (nI n))] 0 []
  refine g_iload_n (pc := 0) C dX11_draw_0 1 rfl ?_
  refine g_iconst (pc := 1) C dX11_draw_1 (v := nI 1) rfl ?_
  refine g_icmp_eq (pc := 2) C dX11_draw_2 (tgt := 12) (by decide) (fun c_2 => ?_) (fun c_2 => ?_)
  ·
    have c_2 : n = 1 := (nI_eq (by omega) (by omega)).mp c_2
    refine g_iconst (pc := 12) C dX11_draw_12 (v := nI 0) rfl ?_
    exact g_iret (pc := 13) C R ⟨rfl, rfl, by rw [show dI cs σ n = 0 from by simp only [dI]; exact if_pos (by omega)], ⟨Z, hZ, by rw [show dS cs σ n = σ from by simp only [dS]; exact if_pos (by omega)]; exact hR⟩, Fr.rf⟩ (by decide) (by decide) dX11_draw_13
  ·
    have c_2 : ¬ n = 1 := fun h => c_2 ((nI_eq (a := n) (b := 1) (by omega) (by omega)).mpr h)
    refine g_aload_n (pc := 5) C dX11_draw_5 0 rfl ?_
    refine g_get (pc := 6) C (j := 7) hO rfl rfl (by decide) u_859 dX11_draw_6 ?_
    refine g_if_ne (pc := 9) C dX11_draw_9 (tgt := 14) (by decide) (fun c_9 => ?_) (fun c_9 => ?_)
    ·
      have c_9 : ¬ cs.length = 0 := fun h => c_9 ((nI_eq (a := cs.length) (b := 0) (by omega) (by omega)).mpr h)
      have hcv : cs.getD (gX σ) 0 < 2 ^ 31 := hc3 _ (getD_mem (by omega))
      have hne : ¬ (n ≤ 1 ∨ cs.length = 0) := by omega
      refine g_aload_n (pc := 14) C dX11_draw_14 0 rfl ?_
      refine g_get (pc := 15) C (j := 6) hO rfl rfl (by decide) u_858 dX11_draw_15 ?_
      refine g_aload_n (pc := 18) C dX11_draw_18 0 rfl ?_
      refine g_get (pc := 19) C (j := 0) hO rfl rfl (by decide) u_852 dX11_draw_19 ?_
      refine g_sipush (pc := 22) C dX11_draw_22 (v := nI 10510) rfl ?_
      refine g_iald (pc := 25) C hZ (nI_clamp (by omega)) (nI_in0 (n := 10511) (by omega) (by omega)) dX11_draw_25 (x := nI (gX σ)) (RZ.rX hR (by omega)) ?_
      refine g_iald (pc := 26) C hc1 (nI_clamp (by omega)) (nI_in0 (by omega) (by omega)) dX11_draw_26 (x := nI (cs.getD (gX σ) 0)) (hc2 _ (by omega)) ?_
      refine g_iload_n (pc := 27) C dX11_draw_27 1 rfl ?_
      refine g_irem (pc := 28) C dX11_draw_28 (nI_ne0 (by omega) (by omega)) (z := nI (cs.getD (gX σ) 0 % n)) (pk_rem hcv (by omega) (by omega)) ?_
      refine g_istore_n (pc := 29) C dX11_draw_29 (by decide) (lv' := [(0, .ref (A m)), (1, .int (nI n)), (2, .int (nI (cs.getD (gX σ) 0 % n)))]) [1, 2, 0] rfl ?_
      refine g_aload_n (pc := 30) C dX11_draw_30 0 rfl ?_
      refine g_get (pc := 31) C (j := 0) hO rfl rfl (by decide) u_852 dX11_draw_31 ?_
      refine g_sipush (pc := 34) C dX11_draw_34 (v := nI 10510) rfl ?_
      refine g_aload_n (pc := 37) C dX11_draw_37 0 rfl ?_
      refine g_get (pc := 38) C (j := 0) hO rfl rfl (by decide) u_852 dX11_draw_38 ?_
      refine g_sipush (pc := 41) C dX11_draw_41 (v := nI 10510) rfl ?_
      refine g_iald (pc := 44) C hZ (nI_clamp (by omega)) (nI_in0 (n := 10511) (by omega) (by omega)) dX11_draw_44 (x := nI (gX σ)) (RZ.rX hR (by omega)) ?_
      refine g_iconst (pc := 45) C dX11_draw_45 (v := nI 1) rfl ?_
      refine g_iadd (pc := 46) C dX11_draw_46 (z := nI (gX σ + 1)) (nI_add _ _) ?_
      refine g_aload_n (pc := 47) C dX11_draw_47 0 rfl ?_
      refine g_get (pc := 48) C (j := 7) hO rfl rfl (by decide) u_859 dX11_draw_48 ?_
      refine g_icmp_ne (pc := 51) C dX11_draw_51 (tgt := 58) (by decide) (fun c_51 => ?_) (fun c_51 => ?_)
      ·
        have c_51 : ¬ (gX σ + 1) = cs.length := fun h => c_51 ((nI_eq (a := (gX σ + 1)) (b := cs.length) (by omega) (by omega)).mpr h)
        refine g_aload_n (pc := 58) C dX11_draw_58 0 rfl ?_
        refine g_get (pc := 59) C (j := 0) hO rfl rfl (by decide) u_852 dX11_draw_59 ?_
        refine g_sipush (pc := 62) C dX11_draw_62 (v := nI 10510) rfl ?_
        refine g_iald (pc := 65) C hZ (nI_clamp (by omega)) (nI_in0 (n := 10511) (by omega) (by omega)) dX11_draw_65 (x := nI (gX σ)) (RZ.rX hR (by omega)) ?_
        refine g_iconst (pc := 66) C dX11_draw_66 (v := nI 1) rfl ?_
        refine g_iadd (pc := 67) C dX11_draw_67 (z := nI (gX σ + 1)) (nI_add _ _) ?_
        refine g_iast (pc := 68) C hZ (nI_clamp (by omega)) (nI_in0 (n := 10511) (by omega) (by omega)) dX11_draw_68 ?_
        obtain ⟨Z_1, hZ_1⟩ : ∃ yZ : Nat → Int32, yZ = upd Z 10510 (nI (gX σ + 1)) := ⟨_, rfl⟩
        show V K 0 0 P A (va_up g (m + 1) (ai 0 10511 (upd Z 10510 (nI (gX σ + 1))))) [(0, .ref (A m)), (1, .int (nI n)), (2, .int (nI (cs.getD (gX σ) 0 % n)))] 69 []
        rw [← hZ_1]
        obtain ⟨g_2, hg_2⟩ : ∃ yM : pM, yM = va_up g (m + 1) (ai 0 10511 Z_1) := ⟨_, rfl⟩
        show V K 0 0 P A (va_up g (m + 1) (ai 0 10511 Z_1)) [(0, .ref (A m)), (1, .int (nI n)), (2, .int (nI (cs.getD (gX σ) 0 % n)))] 69 []
        rw [← hg_2]
        have h_3 : g_2 m = ob 11 [.ref (A (m + 1)), .int (nI (gZ σ).1), .int (nI (gZ σ).2.1), .int (nI (gZ σ).2.2.1), .int (nI (gZ σ).2.2.2.1), .int (nI (gZ σ).2.2.2.2), .ref (A (m + 2)), .int (nI cs.length), .ref (A (m + 3)), .int (nI lm), .ref (A (m + 4)), .ref (A (m + 5)), .int (nI gm), .ref (A (m + 6)), .ref (A (m + 7)), .ref (A (m + 8))] := by rw [hg_2, va_up_ne _ _ (show m ≠ m + 1 from by omega)]; exact hO
        have h_4 : g_2 (m + 1) = ai 0 10511 Z_1 := by rw [hg_2]; exact va_up_self _ _ _
        have h_5 : g_2 (m + 2) = ai 0 64 rc := by rw [hg_2, va_up_ne _ _ (show m + 2 ≠ m + 1 from by omega)]; exact hc1
        refine g_iload_n (pc := 69) C dX11_draw_69 2 rfl ?_
        exact g_iret (pc := 70) C R ⟨rfl, rfl, by rw [show dI cs σ n = cs.getD (gX σ) 0 % n from by simp only [dI]; exact if_neg hne], ⟨_, h_4, by rw [show dS cs σ n = sX σ (if gX σ + 1 < cs.length then gX σ + 1 else 0) from by simp only [dS]; exact if_neg hne]; exact RZ.sX hR (hZ_1.trans (by rw [if_pos (by omega)]))⟩, fun k hk => by rw [hg_2, va_up_ne _ _ (by omega)]⟩ (by decide) (by decide) dX11_draw_70
      ·
        have c_51 : (gX σ + 1) = cs.length := (nI_eq (by omega) (by omega)).mp c_51
        refine g_iconst (pc := 54) C dX11_draw_54 (v := nI 0) rfl ?_
        refine g_goto (pc := 55) C dX11_draw_55 (tgt := 68) (by decide) ?_
        refine g_iast (pc := 68) C hZ (nI_clamp (by omega)) (nI_in0 (n := 10511) (by omega) (by omega)) dX11_draw_68 ?_
        obtain ⟨Z_6, hZ_6⟩ : ∃ yZ : Nat → Int32, yZ = upd Z 10510 (nI 0) := ⟨_, rfl⟩
        show V K 0 0 P A (va_up g (m + 1) (ai 0 10511 (upd Z 10510 (nI 0)))) [(0, .ref (A m)), (1, .int (nI n)), (2, .int (nI (cs.getD (gX σ) 0 % n)))] 69 []
        rw [← hZ_6]
        obtain ⟨g_7, hg_7⟩ : ∃ yM : pM, yM = va_up g (m + 1) (ai 0 10511 Z_6) := ⟨_, rfl⟩
        show V K 0 0 P A (va_up g (m + 1) (ai 0 10511 Z_6)) [(0, .ref (A m)), (1, .int (nI n)), (2, .int (nI (cs.getD (gX σ) 0 % n)))] 69 []
        rw [← hg_7]
        have h_8 : g_7 m = ob 11 [.ref (A (m + 1)), .int (nI (gZ σ).1), .int (nI (gZ σ).2.1), .int (nI (gZ σ).2.2.1), .int (nI (gZ σ).2.2.2.1), .int (nI (gZ σ).2.2.2.2), .ref (A (m + 2)), .int (nI cs.length), .ref (A (m + 3)), .int (nI lm), .ref (A (m + 4)), .ref (A (m + 5)), .int (nI gm), .ref (A (m + 6)), .ref (A (m + 7)), .ref (A (m + 8))] := by rw [hg_7, va_up_ne _ _ (show m ≠ m + 1 from by omega)]; exact hO
        have h_9 : g_7 (m + 1) = ai 0 10511 Z_6 := by rw [hg_7]; exact va_up_self _ _ _
        have h_10 : g_7 (m + 2) = ai 0 64 rc := by rw [hg_7, va_up_ne _ _ (show m + 2 ≠ m + 1 from by omega)]; exact hc1
        refine g_iload_n (pc := 69) C dX11_draw_69 2 rfl ?_
        exact g_iret (pc := 70) C R ⟨rfl, rfl, by rw [show dI cs σ n = cs.getD (gX σ) 0 % n from by simp only [dI]; exact if_neg hne], ⟨_, h_9, by rw [show dS cs σ n = sX σ (if gX σ + 1 < cs.length then gX σ + 1 else 0) from by simp only [dS]; exact if_neg hne]; exact RZ.sX hR (hZ_6.trans (by rw [if_neg (by omega)]))⟩, fun k hk => by rw [hg_7, va_up_ne _ _ (by omega)]⟩ (by decide) (by decide) dX11_draw_70
    ·
      have c_9 : cs.length = 0 := (nI_eq (by omega) (by omega)).mp c_9
      refine g_iconst (pc := 12) C dX11_draw_12 (v := nI 0) rfl ?_
      exact g_iret (pc := 13) C R ⟨rfl, rfl, by rw [show dI cs σ n = 0 from by simp only [dI]; exact if_pos (by omega)], ⟨Z, hZ, by rw [show dS cs σ n = σ from by simp only [dS]; exact if_pos (by omega)]; exact hR⟩, Fr.rf⟩ (by decide) (by decide) dX11_draw_13
abbrev rm_X11_ofLetter : Room := { frames := 0, cells := 0, slots := 0, locals := 0 }
theorem Y_X11_ofLetter : pY yX11_ofLetter cX11_ofLetter 3 (Option.some Jvm.ClassFile.FieldType.int) := ⟨u_947, us_6, u_13, u_948⟩
theorem N_X11_ofLetter : yX11_ofLetter.cls ≠ "java/lang/invoke/MethodHandle" ∧ yX11_ofLetter.cls ≠ "java/lang/invoke/VarHandle" ∧ (parseMethodDescriptor yX11_ofLetter.desc).map (fun d => d.parameters.length) = some 2 := by decide +kernel
set_option maxRecDepth 20000 in
set_option maxHeartbeats 4000000 in
theorem c_X11_ofLetter (A : Nat → Nat) (P : List Nat) (g : pM) (m i c : Nat) : PM yX11_ofLetter cX11_ofLetter 3 (Option.some Jvm.ClassFile.FieldType.int) rm_X11_ofLetter [.ref (A m), .int (nI i), .int (nI c)] P A g (fun v g' => v = some (.int (nI (4992 + 11 * i + c))) ∧ g = g') := by
  refine px_intro (by decide +kernel) (Nat.le_of_ble_eq_true rfl) (fun K sz C R => ?_)
  show V K 0 0 P A g [(0, .ref (A m)), (1, .int (nI i)), (2, .int (nI c))] 0 []
  refine g_sipush (pc := 0) C dX11_ofLetter_0 (v := nI 4992) rfl ?_
  refine g_bipush (pc := 3) C dX11_ofLetter_3 (v := nI 11) rfl ?_
  refine g_iload_n (pc := 5) C dX11_ofLetter_5 1 rfl ?_
  refine g_imul (pc := 6) C dX11_ofLetter_6 (z := nI (11 * i)) (pk_mul _ _) ?_
  refine g_iadd (pc := 7) C dX11_ofLetter_7 (z := nI (4992 + 11 * i)) (nI_add _ _) ?_
  refine g_iload_n (pc := 8) C dX11_ofLetter_8 2 rfl ?_
  refine g_iadd (pc := 9) C dX11_ofLetter_9 (z := nI (4992 + 11 * i + c)) (nI_add _ _) ?_
  exact g_iret (pc := 10) C R ⟨rfl, rfl, ⟨rfl, rfl⟩⟩ (by decide) (by decide) dX11_ofLetter_10
abbrev rm_X11_post : Room := { frames := 1, cells := 0, slots := 0, locals := 22 }
theorem Y_X11_post : pY yX11_post cX11_post 9 (Option.none : Option Jvm.ClassFile.FieldType) := ⟨u_943, us_5, u_13, u_944⟩
theorem N_X11_post : yX11_post.cls ≠ "java/lang/invoke/MethodHandle" ∧ yX11_post.cls ≠ "java/lang/invoke/VarHandle" ∧ (parseMethodDescriptor yX11_post.desc).map (fun d => d.parameters.length) = some 6 := by decide +kernel
set_option maxRecDepth 20000 in
set_option maxHeartbeats 4000000 in
theorem c_X11_post (A : Nat → Nat) (P : List Nat) (g : pM) (m : Nat) {cs : List Nat} {lm gm : Nat} {Z : Nat → Int32} {σ : Sg} (f t k x y : Nat) (l : List Nat) (hl : SO g (m + 3) 5 l) (hO : g m = mOb A m (gZ σ) cs.length lm gm) (hZ : g (m + 1) = ai 0 10511 Z) (hR : RZ Z σ) : PM yX11_post cX11_post 9 (Option.none : Option Jvm.ClassFile.FieldType) rm_X11_post [.ref (A m), .int (nI f), .int (nI t), .int (nI k), .int (nI x), .int (nI y), .int (nI l.length)] P A g (fun v g' => v = none ∧ ZS g' m (pst σ (f, t, k, x, y, l)) ∧ Fr g g' (m + 1) (m + 2)) := by
  have hK := hR.k16
  have hT := hR.t24
  have hL := hR.le
  obtain ⟨hl0, rl, hl1, hl2⟩ := hl
  refine px_intro (by decide +kernel) (Nat.le_of_ble_eq_true rfl) (fun K sz C R => ?_)
  show V K 0 0 P A g [(0, .ref (A m)), (1, .int (nI f)), (2, .int (nI t)), (3, .int (nI k)), (4, .int (nI x)), (5, .int (nI y)), (6, .int (nI l.length))] 0 []
  refine g_aload_n (pc := 0) C dX11_post_0 0 rfl ?_
  refine g_get (pc := 1) C (j := 0) hO rfl rfl (by decide) u_852 dX11_post_1 ?_
  refine g_sipush (pc := 4) C dX11_post_4 (v := nI 10507) rfl ?_
  refine g_iald (pc := 7) C hZ (nI_clamp (by omega)) (nI_in0 (n := 10511) (by omega) (by omega)) dX11_post_7 (x := nI (gR σ).length) (RZ.rRn hR (by omega)) ?_
  refine g_sipush (pc := 8) C dX11_post_8 (v := nI 500) rfl ?_
  refine g_icmp_ne (pc := 11) C dX11_post_11 (tgt := 27) (by decide) (fun c_11 => ?_) (fun c_11 => ?_)
  ·
    have c_11 : ¬ (gR σ).length = 500 := fun h => c_11 ((nI_eq (a := (gR σ).length) (b := 500) (by omega) (by omega)).mpr h)
    refine g_aload_n (pc := 27) C dX11_post_27 0 rfl ?_
    refine g_aload_n (pc := 28) C dX11_post_28 0 rfl ?_
    refine g_get (pc := 29) C (j := 0) hO rfl rfl (by decide) u_852 dX11_post_29 ?_
    refine g_sipush (pc := 32) C dX11_post_32 (v := nI 10507) rfl ?_
    refine g_iald (pc := 35) C hZ (nI_clamp (by omega)) (nI_in0 (n := 10511) (by omega) (by omega)) dX11_post_35 (x := nI (gR σ).length) (RZ.rRn hR (by omega)) ?_
    refine g_iconst (pc := 36) C dX11_post_36 (v := nI 0) rfl ?_
    refine g_callV (pc := 37) C (As := [.int (nI (gR σ).length), .int (nI 0)]) (rest := []) (b := m) (c_X11_ofLetter A P g m (gR σ).length 0) hO rfl rfl Y_X11_ofLetter u_945 N_X11_ofLetter ⟨by decide, by decide⟩ ⟨by decide, by decide⟩ (Nat.le_of_ble_eq_true rfl) rfl dX11_post_37 ?_
    rintro _ _ _ _ ⟨rfl, rfl, rfl, rfl⟩
    show V K 0 0 P A g [(0, .ref (A m)), (1, .int (nI f)), (2, .int (nI t)), (3, .int (nI k)), (4, .int (nI x)), (5, .int (nI y)), (6, .int (nI l.length))] 40 [.int (nI (4992 + 11 * (gR σ).length + 0))]
    refine g_istore (pc := 40) C dX11_post_40 (by decide) (lv' := [(0, .ref (A m)), (1, .int (nI f)), (2, .int (nI t)), (3, .int (nI k)), (4, .int (nI x)), (5, .int (nI y)), (6, .int (nI l.length)), (7, .int (nI (4992 + 11 * (gR σ).length + 0)))]) [1, 2, 3, 4, 5, 6, 7, 0] rfl ?_
    refine g_aload_n (pc := 42) C dX11_post_42 0 rfl ?_
    refine g_get (pc := 43) C (j := 0) hO rfl rfl (by decide) u_852 dX11_post_43 ?_
    refine g_iload (pc := 46) C dX11_post_46 7 rfl ?_
    refine g_iconst (pc := 48) C dX11_post_48 (v := nI 0) rfl ?_
    refine g_iadd (pc := 49) C dX11_post_49 (z := nI (4992 + 11 * (gR σ).length + 0 + 0)) (nI_add _ _) ?_
    refine g_iload_n (pc := 50) C dX11_post_50 1 rfl ?_
    refine g_iast (pc := 51) C hZ (nI_clamp (by omega)) (nI_in0 (n := 10511) (by omega) (by omega)) dX11_post_51 ?_
    obtain ⟨Z_1, hZ_1⟩ : ∃ yZ : Nat → Int32, yZ = upd Z (4992 + 11 * (gR σ).length + 0 + 0) (nI f) := ⟨_, rfl⟩
    show V K 0 0 P A (va_up g (m + 1) (ai 0 10511 (upd Z (4992 + 11 * (gR σ).length + 0 + 0) (nI f)))) [(0, .ref (A m)), (1, .int (nI f)), (2, .int (nI t)), (3, .int (nI k)), (4, .int (nI x)), (5, .int (nI y)), (6, .int (nI l.length)), (7, .int (nI (4992 + 11 * (gR σ).length + 0)))] 52 []
    rw [← hZ_1]
    obtain ⟨g_2, hg_2⟩ : ∃ yM : pM, yM = va_up g (m + 1) (ai 0 10511 Z_1) := ⟨_, rfl⟩
    show V K 0 0 P A (va_up g (m + 1) (ai 0 10511 Z_1)) [(0, .ref (A m)), (1, .int (nI f)), (2, .int (nI t)), (3, .int (nI k)), (4, .int (nI x)), (5, .int (nI y)), (6, .int (nI l.length)), (7, .int (nI (4992 + 11 * (gR σ).length + 0)))] 52 []
    rw [← hg_2]
    have h_3 : g_2 m = ob 11 [.ref (A (m + 1)), .int (nI (gZ σ).1), .int (nI (gZ σ).2.1), .int (nI (gZ σ).2.2.1), .int (nI (gZ σ).2.2.2.1), .int (nI (gZ σ).2.2.2.2), .ref (A (m + 2)), .int (nI cs.length), .ref (A (m + 3)), .int (nI lm), .ref (A (m + 4)), .ref (A (m + 5)), .int (nI gm), .ref (A (m + 6)), .ref (A (m + 7)), .ref (A (m + 8))] := by rw [hg_2, va_up_ne _ _ (show m ≠ m + 1 from by omega)]; exact hO
    have h_4 : g_2 (m + 1) = ai 0 10511 Z_1 := by rw [hg_2]; exact va_up_self _ _ _
    have h_5 : g_2 (m + 3) = ai 0 5 rl := by rw [hg_2, va_up_ne _ _ (show m + 3 ≠ m + 1 from by omega)]; exact hl1
    refine g_aload_n (pc := 52) C dX11_post_52 0 rfl ?_
    refine g_get (pc := 53) C (j := 0) h_3 rfl rfl (by decide) u_852 dX11_post_53 ?_
    refine g_iload (pc := 56) C dX11_post_56 7 rfl ?_
    refine g_iconst (pc := 58) C dX11_post_58 (v := nI 1) rfl ?_
    refine g_iadd (pc := 59) C dX11_post_59 (z := nI (4992 + 11 * (gR σ).length + 0 + 1)) (nI_add _ _) ?_
    refine g_iload_n (pc := 60) C dX11_post_60 2 rfl ?_
    refine g_iast (pc := 61) C h_4 (nI_clamp (by omega)) (nI_in0 (n := 10511) (by omega) (by omega)) dX11_post_61 ?_
    obtain ⟨Z_6, hZ_6⟩ : ∃ yZ : Nat → Int32, yZ = upd Z_1 (4992 + 11 * (gR σ).length + 0 + 1) (nI t) := ⟨_, rfl⟩
    show V K 0 0 P A (va_up g_2 (m + 1) (ai 0 10511 (upd Z_1 (4992 + 11 * (gR σ).length + 0 + 1) (nI t)))) [(0, .ref (A m)), (1, .int (nI f)), (2, .int (nI t)), (3, .int (nI k)), (4, .int (nI x)), (5, .int (nI y)), (6, .int (nI l.length)), (7, .int (nI (4992 + 11 * (gR σ).length + 0)))] 62 []
    rw [← hZ_6]
    obtain ⟨g_7, hg_7⟩ : ∃ yM : pM, yM = va_up g_2 (m + 1) (ai 0 10511 Z_6) := ⟨_, rfl⟩
    show V K 0 0 P A (va_up g_2 (m + 1) (ai 0 10511 Z_6)) [(0, .ref (A m)), (1, .int (nI f)), (2, .int (nI t)), (3, .int (nI k)), (4, .int (nI x)), (5, .int (nI y)), (6, .int (nI l.length)), (7, .int (nI (4992 + 11 * (gR σ).length + 0)))] 62 []
    rw [← hg_7]
    have h_8 : g_7 m = ob 11 [.ref (A (m + 1)), .int (nI (gZ σ).1), .int (nI (gZ σ).2.1), .int (nI (gZ σ).2.2.1), .int (nI (gZ σ).2.2.2.1), .int (nI (gZ σ).2.2.2.2), .ref (A (m + 2)), .int (nI cs.length), .ref (A (m + 3)), .int (nI lm), .ref (A (m + 4)), .ref (A (m + 5)), .int (nI gm), .ref (A (m + 6)), .ref (A (m + 7)), .ref (A (m + 8))] := by rw [hg_7, va_up_ne _ _ (show m ≠ m + 1 from by omega)]; exact h_3
    have h_9 : g_7 (m + 1) = ai 0 10511 Z_6 := by rw [hg_7]; exact va_up_self _ _ _
    have h_10 : g_7 (m + 3) = ai 0 5 rl := by rw [hg_7, va_up_ne _ _ (show m + 3 ≠ m + 1 from by omega)]; exact h_5
    refine g_aload_n (pc := 62) C dX11_post_62 0 rfl ?_
    refine g_get (pc := 63) C (j := 0) h_8 rfl rfl (by decide) u_852 dX11_post_63 ?_
    refine g_iload (pc := 66) C dX11_post_66 7 rfl ?_
    refine g_iconst (pc := 68) C dX11_post_68 (v := nI 2) rfl ?_
    refine g_iadd (pc := 69) C dX11_post_69 (z := nI (4992 + 11 * (gR σ).length + 0 + 2)) (nI_add _ _) ?_
    refine g_iload_n (pc := 70) C dX11_post_70 3 rfl ?_
    refine g_iast (pc := 71) C h_9 (nI_clamp (by omega)) (nI_in0 (n := 10511) (by omega) (by omega)) dX11_post_71 ?_
    obtain ⟨Z_11, hZ_11⟩ : ∃ yZ : Nat → Int32, yZ = upd Z_6 (4992 + 11 * (gR σ).length + 0 + 2) (nI k) := ⟨_, rfl⟩
    show V K 0 0 P A (va_up g_7 (m + 1) (ai 0 10511 (upd Z_6 (4992 + 11 * (gR σ).length + 0 + 2) (nI k)))) [(0, .ref (A m)), (1, .int (nI f)), (2, .int (nI t)), (3, .int (nI k)), (4, .int (nI x)), (5, .int (nI y)), (6, .int (nI l.length)), (7, .int (nI (4992 + 11 * (gR σ).length + 0)))] 72 []
    rw [← hZ_11]
    obtain ⟨g_12, hg_12⟩ : ∃ yM : pM, yM = va_up g_7 (m + 1) (ai 0 10511 Z_11) := ⟨_, rfl⟩
    show V K 0 0 P A (va_up g_7 (m + 1) (ai 0 10511 Z_11)) [(0, .ref (A m)), (1, .int (nI f)), (2, .int (nI t)), (3, .int (nI k)), (4, .int (nI x)), (5, .int (nI y)), (6, .int (nI l.length)), (7, .int (nI (4992 + 11 * (gR σ).length + 0)))] 72 []
    rw [← hg_12]
    have h_13 : g_12 m = ob 11 [.ref (A (m + 1)), .int (nI (gZ σ).1), .int (nI (gZ σ).2.1), .int (nI (gZ σ).2.2.1), .int (nI (gZ σ).2.2.2.1), .int (nI (gZ σ).2.2.2.2), .ref (A (m + 2)), .int (nI cs.length), .ref (A (m + 3)), .int (nI lm), .ref (A (m + 4)), .ref (A (m + 5)), .int (nI gm), .ref (A (m + 6)), .ref (A (m + 7)), .ref (A (m + 8))] := by rw [hg_12, va_up_ne _ _ (show m ≠ m + 1 from by omega)]; exact h_8
    have h_14 : g_12 (m + 1) = ai 0 10511 Z_11 := by rw [hg_12]; exact va_up_self _ _ _
    have h_15 : g_12 (m + 3) = ai 0 5 rl := by rw [hg_12, va_up_ne _ _ (show m + 3 ≠ m + 1 from by omega)]; exact h_10
    refine g_aload_n (pc := 72) C dX11_post_72 0 rfl ?_
    refine g_get (pc := 73) C (j := 0) h_13 rfl rfl (by decide) u_852 dX11_post_73 ?_
    refine g_iload (pc := 76) C dX11_post_76 7 rfl ?_
    refine g_iconst (pc := 78) C dX11_post_78 (v := nI 3) rfl ?_
    refine g_iadd (pc := 79) C dX11_post_79 (z := nI (4992 + 11 * (gR σ).length + 0 + 3)) (nI_add _ _) ?_
    refine g_iload (pc := 80) C dX11_post_80 4 rfl ?_
    refine g_iast (pc := 82) C h_14 (nI_clamp (by omega)) (nI_in0 (n := 10511) (by omega) (by omega)) dX11_post_82 ?_
    obtain ⟨Z_16, hZ_16⟩ : ∃ yZ : Nat → Int32, yZ = upd Z_11 (4992 + 11 * (gR σ).length + 0 + 3) (nI x) := ⟨_, rfl⟩
    show V K 0 0 P A (va_up g_12 (m + 1) (ai 0 10511 (upd Z_11 (4992 + 11 * (gR σ).length + 0 + 3) (nI x)))) [(0, .ref (A m)), (1, .int (nI f)), (2, .int (nI t)), (3, .int (nI k)), (4, .int (nI x)), (5, .int (nI y)), (6, .int (nI l.length)), (7, .int (nI (4992 + 11 * (gR σ).length + 0)))] 83 []
    rw [← hZ_16]
    obtain ⟨g_17, hg_17⟩ : ∃ yM : pM, yM = va_up g_12 (m + 1) (ai 0 10511 Z_16) := ⟨_, rfl⟩
    show V K 0 0 P A (va_up g_12 (m + 1) (ai 0 10511 Z_16)) [(0, .ref (A m)), (1, .int (nI f)), (2, .int (nI t)), (3, .int (nI k)), (4, .int (nI x)), (5, .int (nI y)), (6, .int (nI l.length)), (7, .int (nI (4992 + 11 * (gR σ).length + 0)))] 83 []
    rw [← hg_17]
    have h_18 : g_17 m = ob 11 [.ref (A (m + 1)), .int (nI (gZ σ).1), .int (nI (gZ σ).2.1), .int (nI (gZ σ).2.2.1), .int (nI (gZ σ).2.2.2.1), .int (nI (gZ σ).2.2.2.2), .ref (A (m + 2)), .int (nI cs.length), .ref (A (m + 3)), .int (nI lm), .ref (A (m + 4)), .ref (A (m + 5)), .int (nI gm), .ref (A (m + 6)), .ref (A (m + 7)), .ref (A (m + 8))] := by rw [hg_17, va_up_ne _ _ (show m ≠ m + 1 from by omega)]; exact h_13
    have h_19 : g_17 (m + 1) = ai 0 10511 Z_16 := by rw [hg_17]; exact va_up_self _ _ _
    have h_20 : g_17 (m + 3) = ai 0 5 rl := by rw [hg_17, va_up_ne _ _ (show m + 3 ≠ m + 1 from by omega)]; exact h_15
    refine g_aload_n (pc := 83) C dX11_post_83 0 rfl ?_
    refine g_get (pc := 84) C (j := 0) h_18 rfl rfl (by decide) u_852 dX11_post_84 ?_
    refine g_iload (pc := 87) C dX11_post_87 7 rfl ?_
    refine g_iconst (pc := 89) C dX11_post_89 (v := nI 4) rfl ?_
    refine g_iadd (pc := 90) C dX11_post_90 (z := nI (4992 + 11 * (gR σ).length + 0 + 4)) (nI_add _ _) ?_
    refine g_iload (pc := 91) C dX11_post_91 5 rfl ?_
    refine g_iast (pc := 93) C h_19 (nI_clamp (by omega)) (nI_in0 (n := 10511) (by omega) (by omega)) dX11_post_93 ?_
    obtain ⟨Z_21, hZ_21⟩ : ∃ yZ : Nat → Int32, yZ = upd Z_16 (4992 + 11 * (gR σ).length + 0 + 4) (nI y) := ⟨_, rfl⟩
    show V K 0 0 P A (va_up g_17 (m + 1) (ai 0 10511 (upd Z_16 (4992 + 11 * (gR σ).length + 0 + 4) (nI y)))) [(0, .ref (A m)), (1, .int (nI f)), (2, .int (nI t)), (3, .int (nI k)), (4, .int (nI x)), (5, .int (nI y)), (6, .int (nI l.length)), (7, .int (nI (4992 + 11 * (gR σ).length + 0)))] 94 []
    rw [← hZ_21]
    obtain ⟨g_22, hg_22⟩ : ∃ yM : pM, yM = va_up g_17 (m + 1) (ai 0 10511 Z_21) := ⟨_, rfl⟩
    show V K 0 0 P A (va_up g_17 (m + 1) (ai 0 10511 Z_21)) [(0, .ref (A m)), (1, .int (nI f)), (2, .int (nI t)), (3, .int (nI k)), (4, .int (nI x)), (5, .int (nI y)), (6, .int (nI l.length)), (7, .int (nI (4992 + 11 * (gR σ).length + 0)))] 94 []
    rw [← hg_22]
    have h_23 : g_22 m = ob 11 [.ref (A (m + 1)), .int (nI (gZ σ).1), .int (nI (gZ σ).2.1), .int (nI (gZ σ).2.2.1), .int (nI (gZ σ).2.2.2.1), .int (nI (gZ σ).2.2.2.2), .ref (A (m + 2)), .int (nI cs.length), .ref (A (m + 3)), .int (nI lm), .ref (A (m + 4)), .ref (A (m + 5)), .int (nI gm), .ref (A (m + 6)), .ref (A (m + 7)), .ref (A (m + 8))] := by rw [hg_22, va_up_ne _ _ (show m ≠ m + 1 from by omega)]; exact h_18
    have h_24 : g_22 (m + 1) = ai 0 10511 Z_21 := by rw [hg_22]; exact va_up_self _ _ _
    have h_25 : g_22 (m + 3) = ai 0 5 rl := by rw [hg_22, va_up_ne _ _ (show m + 3 ≠ m + 1 from by omega)]; exact h_20
    refine g_aload_n (pc := 94) C dX11_post_94 0 rfl ?_
    refine g_get (pc := 95) C (j := 0) h_23 rfl rfl (by decide) u_852 dX11_post_95 ?_
    refine g_iload (pc := 98) C dX11_post_98 7 rfl ?_
    refine g_iconst (pc := 100) C dX11_post_100 (v := nI 5) rfl ?_
    refine g_iadd (pc := 101) C dX11_post_101 (z := nI (4992 + 11 * (gR σ).length + 0 + 5)) (nI_add _ _) ?_
    refine g_iload (pc := 102) C dX11_post_102 6 rfl ?_
    refine g_iast (pc := 104) C h_24 (nI_clamp (by omega)) (nI_in0 (n := 10511) (by omega) (by omega)) dX11_post_104 ?_
    obtain ⟨Z_26, hZ_26⟩ : ∃ yZ : Nat → Int32, yZ = upd Z_21 (4992 + 11 * (gR σ).length + 0 + 5) (nI l.length) := ⟨_, rfl⟩
    show V K 0 0 P A (va_up g_22 (m + 1) (ai 0 10511 (upd Z_21 (4992 + 11 * (gR σ).length + 0 + 5) (nI l.length)))) [(0, .ref (A m)), (1, .int (nI f)), (2, .int (nI t)), (3, .int (nI k)), (4, .int (nI x)), (5, .int (nI y)), (6, .int (nI l.length)), (7, .int (nI (4992 + 11 * (gR σ).length + 0)))] 105 []
    rw [← hZ_26]
    obtain ⟨g_27, hg_27⟩ : ∃ yM : pM, yM = va_up g_22 (m + 1) (ai 0 10511 Z_26) := ⟨_, rfl⟩
    show V K 0 0 P A (va_up g_22 (m + 1) (ai 0 10511 Z_26)) [(0, .ref (A m)), (1, .int (nI f)), (2, .int (nI t)), (3, .int (nI k)), (4, .int (nI x)), (5, .int (nI y)), (6, .int (nI l.length)), (7, .int (nI (4992 + 11 * (gR σ).length + 0)))] 105 []
    rw [← hg_27]
    have h_28 : g_27 m = ob 11 [.ref (A (m + 1)), .int (nI (gZ σ).1), .int (nI (gZ σ).2.1), .int (nI (gZ σ).2.2.1), .int (nI (gZ σ).2.2.2.1), .int (nI (gZ σ).2.2.2.2), .ref (A (m + 2)), .int (nI cs.length), .ref (A (m + 3)), .int (nI lm), .ref (A (m + 4)), .ref (A (m + 5)), .int (nI gm), .ref (A (m + 6)), .ref (A (m + 7)), .ref (A (m + 8))] := by rw [hg_27, va_up_ne _ _ (show m ≠ m + 1 from by omega)]; exact h_23
    have h_29 : g_27 (m + 1) = ai 0 10511 Z_26 := by rw [hg_27]; exact va_up_self _ _ _
    have h_30 : g_27 (m + 3) = ai 0 5 rl := by rw [hg_27, va_up_ne _ _ (show m + 3 ≠ m + 1 from by omega)]; exact h_25
    refine g_iconst (pc := 105) C dX11_post_105 (v := nI 0) rfl ?_
    refine g_istore (pc := 106) C dX11_post_106 (by decide) (lv' := [(0, .ref (A m)), (1, .int (nI f)), (2, .int (nI t)), (3, .int (nI k)), (4, .int (nI x)), (5, .int (nI y)), (6, .int (nI l.length)), (7, .int (nI (4992 + 11 * (gR σ).length + 0))), (8, .int (nI 0))]) [1, 2, 3, 4, 5, 6, 7, 8, 0] rfl ?_
    have lp_108 : ∀ (fuel : Nat) (c : Nat) (hc : c ≤ 5), 5 - c < fuel → V K 0 0 P A (va_up g_27 (m + 1) (ai 0 10511 (zls Z_26 (4992 + 11 * (gR σ).length + 0 + 6) l c))) [(0, .ref (A m)), (1, .int (nI f)), (2, .int (nI t)), (3, .int (nI k)), (4, .int (nI x)), (5, .int (nI y)), (6, .int (nI l.length)), (7, .int (nI (4992 + 11 * (gR σ).length + 0))), (8, .int (nI c))] 108 [] := by
      intro fuel
      induction fuel with
      | zero => intro c hc hμ; exact absurd hμ (Nat.not_lt_zero _)
      | succ fuel ih =>
        intro c hc hμ
        obtain ⟨Y108, hY108⟩ : ∃ yZ : Nat → Int32, yZ = zls Z_26 (4992 + 11 * (gR σ).length + 0 + 6) l c := ⟨_, rfl⟩
        rw [← hY108]
        obtain ⟨gl108, hgl108⟩ : ∃ y : pM, y = va_up g_27 (m + 1) (ai 0 10511 Y108) := ⟨_, rfl⟩
        rw [← hgl108]
        have hfl108 : Fr g_27 gl108 (m + 1) (m + 2) := by rw [hgl108]; exact Fr.up (by omega) (by omega)
        have hz108 : gl108 (m + 1) = ai 0 10511 Y108 := by rw [hgl108]; exact va_up_self _ _ _
        have h_31 := hfl108.at (by omega) h_28
        have h_32 := hfl108.at (by omega) h_30
        refine g_iload (pc := 108) C dX11_post_108 8 rfl ?_
        refine g_iconst (pc := 110) C dX11_post_110 (v := nI 5) rfl ?_
        refine g_icmp_ge (pc := 111) C dX11_post_111 (tgt := 151) (by decide) (fun c_111 => ?_) (fun c_111 => ?_)
        ·
          have c_111 : 5 ≤ c := (nI_leI (by omega) (by omega)).mp c_111
          refine g_aload_n (pc := 151) C dX11_post_151 0 rfl ?_
          refine g_get (pc := 152) C (j := 0) h_31 rfl rfl (by decide) u_852 dX11_post_152 ?_
          refine g_sipush (pc := 155) C dX11_post_155 (v := nI 10507) rfl ?_
          refine g_dup2 (pc := 158) C dX11_post_158 rfl rfl ?_
          refine g_iald (pc := 159) C hz108 (nI_clamp (by omega)) (nI_in0 (n := 10511) (by omega) (by omega)) dX11_post_159 (x := nI (gR σ).length) (zls_o hY108 (by omega) (zne hZ_26 (by omega) (zne hZ_21 (by omega) (zne hZ_16 (by omega) (zne hZ_11 (by omega) (zne hZ_6 (by omega) (zne hZ_1 (by omega) (RZ.rRn hR (by omega))))))))) ?_
          refine g_iconst (pc := 160) C dX11_post_160 (v := nI 1) rfl ?_
          refine g_iadd (pc := 161) C dX11_post_161 (z := nI ((gR σ).length + 1)) (nI_add _ _) ?_
          refine g_iast (pc := 162) C hz108 (nI_clamp (by omega)) (nI_in0 (n := 10511) (by omega) (by omega)) dX11_post_162 ?_
          obtain ⟨Z_33, hZ_33⟩ : ∃ yZ : Nat → Int32, yZ = upd Y108 10507 (nI ((gR σ).length + 1)) := ⟨_, rfl⟩
          show V K 0 0 P A (va_up gl108 (m + 1) (ai 0 10511 (upd Y108 10507 (nI ((gR σ).length + 1))))) [(0, .ref (A m)), (1, .int (nI f)), (2, .int (nI t)), (3, .int (nI k)), (4, .int (nI x)), (5, .int (nI y)), (6, .int (nI l.length)), (7, .int (nI (4992 + 11 * (gR σ).length + 0))), (8, .int (nI c))] 163 []
          rw [← hZ_33]
          obtain ⟨g_34, hg_34⟩ : ∃ yM : pM, yM = va_up gl108 (m + 1) (ai 0 10511 Z_33) := ⟨_, rfl⟩
          show V K 0 0 P A (va_up gl108 (m + 1) (ai 0 10511 Z_33)) [(0, .ref (A m)), (1, .int (nI f)), (2, .int (nI t)), (3, .int (nI k)), (4, .int (nI x)), (5, .int (nI y)), (6, .int (nI l.length)), (7, .int (nI (4992 + 11 * (gR σ).length + 0))), (8, .int (nI c))] 163 []
          rw [← hg_34]
          have h_35 : g_34 m = ob 11 [.ref (A (m + 1)), .int (nI (gZ σ).1), .int (nI (gZ σ).2.1), .int (nI (gZ σ).2.2.1), .int (nI (gZ σ).2.2.2.1), .int (nI (gZ σ).2.2.2.2), .ref (A (m + 2)), .int (nI cs.length), .ref (A (m + 3)), .int (nI lm), .ref (A (m + 4)), .ref (A (m + 5)), .int (nI gm), .ref (A (m + 6)), .ref (A (m + 7)), .ref (A (m + 8))] := by rw [hg_34, va_up_ne _ _ (show m ≠ m + 1 from by omega)]; exact h_31
          have h_36 : g_34 (m + 3) = ai 0 5 rl := by rw [hg_34, va_up_ne _ _ (show m + 3 ≠ m + 1 from by omega)]; exact h_32
          have h_37 : g_34 (m + 1) = ai 0 10511 Z_33 := by rw [hg_34]; exact va_up_self _ _ _
          exact g_vret (pc := 163) C R ⟨rfl, rfl, rfl, ⟨_, h_37, RZ.post (n := (gR σ).length) (t := (f, t, k, x, y, l)) hR rfl (by omega) hl0 (by omega : c = 5) hZ_1 hZ_6 hZ_11 hZ_16 hZ_21 hZ_26 hY108 hZ_33⟩, fun k hk => by rw [hg_34, va_up_ne _ _ (by omega), hfl108 k (by omega), hg_27, va_up_ne _ _ (by omega), hg_22, va_up_ne _ _ (by omega), hg_17, va_up_ne _ _ (by omega), hg_12, va_up_ne _ _ (by omega), hg_7, va_up_ne _ _ (by omega), hg_2, va_up_ne _ _ (by omega)]⟩ (by decide) (by decide) dX11_post_163
        ·
          have c_111 : ¬ 5 ≤ c := fun h => c_111 ((nI_leI (a := 5) (b := c) (by omega) (by omega)).mpr h)
          refine g_aload_n (pc := 114) C dX11_post_114 0 rfl ?_
          refine g_get (pc := 115) C (j := 0) h_31 rfl rfl (by decide) u_852 dX11_post_115 ?_
          refine g_iload (pc := 118) C dX11_post_118 7 rfl ?_
          refine g_bipush (pc := 120) C dX11_post_120 (v := nI 6) rfl ?_
          refine g_iadd (pc := 122) C dX11_post_122 (z := nI (4992 + 11 * (gR σ).length + 0 + 6)) (nI_add _ _) ?_
          refine g_iload (pc := 123) C dX11_post_123 8 rfl ?_
          refine g_iadd (pc := 125) C dX11_post_125 (z := nI (4992 + 11 * (gR σ).length + 0 + 6 + c)) (nI_add _ _) ?_
          refine g_iload (pc := 126) C dX11_post_126 8 rfl ?_
          refine g_iload (pc := 128) C dX11_post_128 6 rfl ?_
          refine g_icmp_ge (pc := 130) C dX11_post_130 (tgt := 143) (by decide) (fun c_130 => ?_) (fun c_130 => ?_)
          ·
            have c_130 : l.length ≤ c := (nI_leI (by omega) (by omega)).mp c_130
            refine g_iconst (pc := 143) C dX11_post_143 (v := nI 0) rfl ?_
            refine g_iast (pc := 144) C hz108 (nI_clamp (by omega)) (nI_in0 (n := 10511) (by omega) (by omega)) dX11_post_144 ?_
            obtain ⟨Z_38, hZ_38⟩ : ∃ yZ : Nat → Int32, yZ = upd Y108 (4992 + 11 * (gR σ).length + 0 + 6 + c) (nI 0) := ⟨_, rfl⟩
            show V K 0 0 P A (va_up gl108 (m + 1) (ai 0 10511 (upd Y108 (4992 + 11 * (gR σ).length + 0 + 6 + c) (nI 0)))) [(0, .ref (A m)), (1, .int (nI f)), (2, .int (nI t)), (3, .int (nI k)), (4, .int (nI x)), (5, .int (nI y)), (6, .int (nI l.length)), (7, .int (nI (4992 + 11 * (gR σ).length + 0))), (8, .int (nI c))] 145 []
            rw [← hZ_38]
            obtain ⟨g_39, hg_39⟩ : ∃ yM : pM, yM = va_up gl108 (m + 1) (ai 0 10511 Z_38) := ⟨_, rfl⟩
            show V K 0 0 P A (va_up gl108 (m + 1) (ai 0 10511 Z_38)) [(0, .ref (A m)), (1, .int (nI f)), (2, .int (nI t)), (3, .int (nI k)), (4, .int (nI x)), (5, .int (nI y)), (6, .int (nI l.length)), (7, .int (nI (4992 + 11 * (gR σ).length + 0))), (8, .int (nI c))] 145 []
            rw [← hg_39]
            have h_40 : g_39 m = ob 11 [.ref (A (m + 1)), .int (nI (gZ σ).1), .int (nI (gZ σ).2.1), .int (nI (gZ σ).2.2.1), .int (nI (gZ σ).2.2.2.1), .int (nI (gZ σ).2.2.2.2), .ref (A (m + 2)), .int (nI cs.length), .ref (A (m + 3)), .int (nI lm), .ref (A (m + 4)), .ref (A (m + 5)), .int (nI gm), .ref (A (m + 6)), .ref (A (m + 7)), .ref (A (m + 8))] := by rw [hg_39, va_up_ne _ _ (show m ≠ m + 1 from by omega)]; exact h_31
            have h_41 : g_39 (m + 3) = ai 0 5 rl := by rw [hg_39, va_up_ne _ _ (show m + 3 ≠ m + 1 from by omega)]; exact h_32
            have h_42 : g_39 (m + 1) = ai 0 10511 Z_38 := by rw [hg_39]; exact va_up_self _ _ _
            refine g_iinc (pc := 145) C dX11_post_145 (by decide) 8 rfl (v := nI (c + 1)) (nI_i1 _) (lv' := [(0, .ref (A m)), (1, .int (nI f)), (2, .int (nI t)), (3, .int (nI k)), (4, .int (nI x)), (5, .int (nI y)), (6, .int (nI l.length)), (7, .int (nI (4992 + 11 * (gR σ).length + 0))), (8, .int (nI (c + 1)))]) [1, 2, 3, 4, 5, 6, 7, 8, 0] rfl ?_
            refine g_goto (pc := 148) C dX11_post_148 (tgt := 108) (by decide) ?_
            rw [show g_39 = va_up g_27 (m + 1) (ai 0 10511 (zls Z_26 (4992 + 11 * (gR σ).length + 0 + 6) l (c + 1))) from by rw [hg_39, hgl108, bx_uu, hZ_38, hY108, zls_s (by rw [if_neg (by omega)]; exact nI_0)]]
            exact ih (c + 1) (by omega) (by omega)
          ·
            have c_130 : ¬ l.length ≤ c := fun h => c_130 ((nI_leI (a := l.length) (b := c) (by omega) (by omega)).mpr h)
            refine g_aload_n (pc := 133) C dX11_post_133 0 rfl ?_
            refine g_get (pc := 134) C (j := 8) h_31 rfl rfl (by decide) u_860 dX11_post_134 ?_
            refine g_iload (pc := 137) C dX11_post_137 8 rfl ?_
            refine g_iald (pc := 139) C h_32 (nI_clamp (by omega)) (nI_in0 (by omega) (by omega)) dX11_post_139 (x := nI (l.getD c 0)) (hl2 _ (by omega)) ?_
            refine g_goto (pc := 140) C dX11_post_140 (tgt := 144) (by decide) ?_
            refine g_iast (pc := 144) C hz108 (nI_clamp (by omega)) (nI_in0 (n := 10511) (by omega) (by omega)) dX11_post_144 ?_
            obtain ⟨Z_43, hZ_43⟩ : ∃ yZ : Nat → Int32, yZ = upd Y108 (4992 + 11 * (gR σ).length + 0 + 6 + c) (nI (l.getD c 0)) := ⟨_, rfl⟩
            show V K 0 0 P A (va_up gl108 (m + 1) (ai 0 10511 (upd Y108 (4992 + 11 * (gR σ).length + 0 + 6 + c) (nI (l.getD c 0))))) [(0, .ref (A m)), (1, .int (nI f)), (2, .int (nI t)), (3, .int (nI k)), (4, .int (nI x)), (5, .int (nI y)), (6, .int (nI l.length)), (7, .int (nI (4992 + 11 * (gR σ).length + 0))), (8, .int (nI c))] 145 []
            rw [← hZ_43]
            obtain ⟨g_44, hg_44⟩ : ∃ yM : pM, yM = va_up gl108 (m + 1) (ai 0 10511 Z_43) := ⟨_, rfl⟩
            show V K 0 0 P A (va_up gl108 (m + 1) (ai 0 10511 Z_43)) [(0, .ref (A m)), (1, .int (nI f)), (2, .int (nI t)), (3, .int (nI k)), (4, .int (nI x)), (5, .int (nI y)), (6, .int (nI l.length)), (7, .int (nI (4992 + 11 * (gR σ).length + 0))), (8, .int (nI c))] 145 []
            rw [← hg_44]
            have h_45 : g_44 m = ob 11 [.ref (A (m + 1)), .int (nI (gZ σ).1), .int (nI (gZ σ).2.1), .int (nI (gZ σ).2.2.1), .int (nI (gZ σ).2.2.2.1), .int (nI (gZ σ).2.2.2.2), .ref (A (m + 2)), .int (nI cs.length), .ref (A (m + 3)), .int (nI lm), .ref (A (m + 4)), .ref (A (m + 5)), .int (nI gm), .ref (A (m + 6)), .ref (A (m + 7)), .ref (A (m + 8))] := by rw [hg_44, va_up_ne _ _ (show m ≠ m + 1 from by omega)]; exact h_31
            have h_46 : g_44 (m + 3) = ai 0 5 rl := by rw [hg_44, va_up_ne _ _ (show m + 3 ≠ m + 1 from by omega)]; exact h_32
            have h_47 : g_44 (m + 1) = ai 0 10511 Z_43 := by rw [hg_44]; exact va_up_self _ _ _
            refine g_iinc (pc := 145) C dX11_post_145 (by decide) 8 rfl (v := nI (c + 1)) (nI_i1 _) (lv' := [(0, .ref (A m)), (1, .int (nI f)), (2, .int (nI t)), (3, .int (nI k)), (4, .int (nI x)), (5, .int (nI y)), (6, .int (nI l.length)), (7, .int (nI (4992 + 11 * (gR σ).length + 0))), (8, .int (nI (c + 1)))]) [1, 2, 3, 4, 5, 6, 7, 8, 0] rfl ?_
            refine g_goto (pc := 148) C dX11_post_148 (tgt := 108) (by decide) ?_
            rw [show g_44 = va_up g_27 (m + 1) (ai 0 10511 (zls Z_26 (4992 + 11 * (gR σ).length + 0 + 6) l (c + 1))) from by rw [hg_44, hgl108, bx_uu, hZ_43, hY108, zls_s (by rw [if_pos (by omega)])]]
            exact ih (c + 1) (by omega) (by omega)
    rw [show g_27 = va_up g_27 (m + 1) (ai 0 10511 (zls Z_26 (4992 + 11 * (gR σ).length + 0 + 6) l 0)) from (va_up_id (by rw [h_29, zls_0])).symm]
    exact lp_108 (_ + 1) 0 (Nat.zero_le _) (Nat.lt_succ_self _)
  ·
    have c_11 : (gR σ).length = 500 := (nI_eq (by omega) (by omega)).mp c_11
    refine g_aload_n (pc := 14) C dX11_post_14 0 rfl ?_
    refine g_get (pc := 15) C (j := 0) hO rfl rfl (by decide) u_852 dX11_post_15 ?_
    refine g_sipush (pc := 18) C dX11_post_18 (v := nI 10508) rfl ?_
    refine g_dup2 (pc := 21) C dX11_post_21 rfl rfl ?_
    refine g_iald (pc := 22) C hZ (nI_clamp (by omega)) (nI_in0 (n := 10511) (by omega) (by omega)) dX11_post_22 (x := gS σ) (RZ.rS hR (by omega)) ?_
    refine g_iconst (pc := 23) C dX11_post_23 (v := nI 1) rfl ?_
    refine g_iadd (pc := 24) C dX11_post_24 (z := (gS σ) + (nI 1)) rfl ?_
    refine g_iast (pc := 25) C hZ (nI_clamp (by omega)) (nI_in0 (n := 10511) (by omega) (by omega)) dX11_post_25 ?_
    obtain ⟨Z_48, hZ_48⟩ : ∃ yZ : Nat → Int32, yZ = upd Z 10508 ((gS σ) + (nI 1)) := ⟨_, rfl⟩
    show V K 0 0 P A (va_up g (m + 1) (ai 0 10511 (upd Z 10508 ((gS σ) + (nI 1))))) [(0, .ref (A m)), (1, .int (nI f)), (2, .int (nI t)), (3, .int (nI k)), (4, .int (nI x)), (5, .int (nI y)), (6, .int (nI l.length))] 26 []
    rw [← hZ_48]
    obtain ⟨g_49, hg_49⟩ : ∃ yM : pM, yM = va_up g (m + 1) (ai 0 10511 Z_48) := ⟨_, rfl⟩
    show V K 0 0 P A (va_up g (m + 1) (ai 0 10511 Z_48)) [(0, .ref (A m)), (1, .int (nI f)), (2, .int (nI t)), (3, .int (nI k)), (4, .int (nI x)), (5, .int (nI y)), (6, .int (nI l.length))] 26 []
    rw [← hg_49]
    have h_50 : g_49 m = ob 11 [.ref (A (m + 1)), .int (nI (gZ σ).1), .int (nI (gZ σ).2.1), .int (nI (gZ σ).2.2.1), .int (nI (gZ σ).2.2.2.1), .int (nI (gZ σ).2.2.2.2), .ref (A (m + 2)), .int (nI cs.length), .ref (A (m + 3)), .int (nI lm), .ref (A (m + 4)), .ref (A (m + 5)), .int (nI gm), .ref (A (m + 6)), .ref (A (m + 7)), .ref (A (m + 8))] := by rw [hg_49, va_up_ne _ _ (show m ≠ m + 1 from by omega)]; exact hO
    have h_51 : g_49 (m + 1) = ai 0 10511 Z_48 := by rw [hg_49]; exact va_up_self _ _ _
    have h_52 : g_49 (m + 3) = ai 0 5 rl := by rw [hg_49, va_up_ne _ _ (show m + 3 ≠ m + 1 from by omega)]; exact hl1
    exact g_vret (pc := 26) C R ⟨rfl, rfl, rfl, ⟨_, h_51, by rw [pst_full (by omega)]; exact RZ.sS hR hZ_48⟩, fun k hk => by rw [hg_49, va_up_ne _ _ (by omega)]⟩ (by decide) (by decide) dX11_post_26
abbrev rm_X11_sendList : Room := { frames := 2, cells := 0, slots := 0, locals := 50 }
theorem Y_X11_sendList : pY yX11_sendList cX11_sendList 7 (Option.none : Option Jvm.ClassFile.FieldType) := ⟨u_939, us_4, u_13, u_940⟩
theorem N_X11_sendList : yX11_sendList.cls ≠ "java/lang/invoke/MethodHandle" ∧ yX11_sendList.cls ≠ "java/lang/invoke/VarHandle" ∧ (parseMethodDescriptor yX11_sendList.desc).map (fun d => d.parameters.length) = some 6 := by decide +kernel
set_option maxRecDepth 20000 in
set_option maxHeartbeats 4000000 in
theorem c_X11_sendList (A : Nat → Nat) (P : List Nat) (g : pM) (m : Nat) {cs : List Nat} {lm gm : Nat} {Z : Nat → Int32} {σ : Sg} (f t k x y : Nat) (l : List Nat) (hl : SO g (m + 3) 5 l) (ht : t < gK σ) (hO : g m = mOb A m (gZ σ) cs.length lm gm) (hZ : g (m + 1) = ai 0 10511 Z) (hR : RZ Z σ) : PM yX11_sendList cX11_sendList 7 (Option.none : Option Jvm.ClassFile.FieldType) rm_X11_sendList [.ref (A m), .int (nI f), .int (nI t), .int (nI k), .int (nI x), .int (nI y), .int (nI l.length)] P A g (fun v g' => v = none ∧ ZS g' m (snd σ f t k x y l) ∧ Fr g g' (m + 1) (m + 2)) := by
  have hK := hR.k16
  have hT := hR.t24
  have hL := hR.le
  refine px_intro (by decide +kernel) (Nat.le_of_ble_eq_true rfl) (fun K sz C R => ?_)
  show V K 0 0 P A g [(0, .ref (A m)), (1, .int (nI f)), (2, .int (nI t)), (3, .int (nI k)), (4, .int (nI x)), (5, .int (nI y)), (6, .int (nI l.length))] 0 []
  refine g_aload_n (pc := 0) C dX11_sendList_0 0 rfl ?_
  refine g_get (pc := 1) C (j := 0) hO rfl rfl (by decide) u_852 dX11_sendList_1 ?_
  refine g_iconst (pc := 4) C dX11_sendList_4 (v := nI 0) rfl ?_
  refine g_iload_n (pc := 5) C dX11_sendList_5 2 rfl ?_
  refine g_iadd (pc := 6) C dX11_sendList_6 (z := nI (0 + t)) (nI_add _ _) ?_
  refine g_iald (pc := 7) C hZ (nI_clamp (by omega)) (nI_in0 (n := 10511) (by omega) (by omega)) dX11_sendList_7 (x := b32 (lvd σ t)) (RZ.rLv hR (r := t) (by omega) (by omega)) ?_
  refine g_iconst (pc := 8) C dX11_sendList_8 (v := nI 1) rfl ?_
  refine g_icmp_ne (pc := 9) C dX11_sendList_9 (tgt := 28) (by decide) (fun c_9 => ?_) (fun c_9 => ?_)
  ·
    have c_9 : (lvd σ t) = false := b32_n1 c_9
    refine g_aload_n (pc := 28) C dX11_sendList_28 0 rfl ?_
    refine g_iload_n (pc := 29) C dX11_sendList_29 2 rfl ?_
    refine g_iload_n (pc := 30) C dX11_sendList_30 1 rfl ?_
    refine g_bipush (pc := 31) C dX11_sendList_31 (v := nI 12) rfl ?_
    refine g_iconst (pc := 33) C dX11_sendList_33 (v := nI 0) rfl ?_
    refine g_iconst (pc := 34) C dX11_sendList_34 (v := nI 0) rfl ?_
    refine g_iconst (pc := 35) C dX11_sendList_35 (v := nI 0) rfl ?_
    refine g_callV (pc := 36) C (As := [.int (nI t), .int (nI f), .int (nI 12), .int (nI 0), .int (nI 0), .int (nI 0)]) (rest := []) (b := m) (c_X11_post A P g m t f 12 0 0 ([]) (hl.nil) hO hZ hR) hO rfl rfl Y_X11_post u_941 N_X11_post ⟨by decide, by decide⟩ ⟨by decide, by decide⟩ (Nat.le_of_ble_eq_true rfl) rfl dX11_sendList_36 ?_
    rintro _ _ _ g_1 ⟨rfl, rfl, rfl, ⟨Z_2, hZ_2, hR_3⟩, hf_4⟩
    have h_5 := hf_4.at (by omega) hO
    have hp_6 := SO.fr hl hf_4 (by omega)
    obtain ⟨σ7, hσ7⟩ : ∃ sM : Sg, sM = pst σ (t, f, 12, 0, 0, []) := ⟨_, rfl⟩
    rw [← hσ7] at hR_3
    have hK_σ7 : gK σ7 = gK σ := (congrArg gK hσ7).trans (pst_K.trans (rfl : gK σ = gK σ))
    have hT_σ7 : gT σ7 = gT σ := (congrArg gT hσ7).trans (pst_T.trans (rfl : gT σ = gT σ))
    have hZ_σ7 : gZ σ7 = gZ σ := (congrArg gZ hσ7).trans (pst_Z.trans (rfl : gZ σ = gZ σ))
    show V K 0 0 P A g_1 [(0, .ref (A m)), (1, .int (nI f)), (2, .int (nI t)), (3, .int (nI k)), (4, .int (nI x)), (5, .int (nI y)), (6, .int (nI l.length))] 39 []
    exact g_vret (pc := 39) C R ⟨rfl, rfl, rfl, ⟨_, hZ_2, by rw [snd_pst, ltr_dead c_9, ← hσ7]; exact hR_3⟩, fun k hk => by rw [hf_4 k (by omega)]⟩ (by decide) (by decide) dX11_sendList_39
  ·
    have c_9 : (lvd σ t) = true := b32_y1 c_9
    refine g_aload_n (pc := 12) C dX11_sendList_12 0 rfl ?_
    refine g_iload_n (pc := 13) C dX11_sendList_13 1 rfl ?_
    refine g_iload_n (pc := 14) C dX11_sendList_14 2 rfl ?_
    refine g_iload_n (pc := 15) C dX11_sendList_15 3 rfl ?_
    refine g_iload (pc := 16) C dX11_sendList_16 4 rfl ?_
    refine g_iload (pc := 18) C dX11_sendList_18 5 rfl ?_
    refine g_iload (pc := 20) C dX11_sendList_20 6 rfl ?_
    refine g_callV (pc := 22) C (As := [.int (nI f), .int (nI t), .int (nI k), .int (nI x), .int (nI y), .int (nI l.length)]) (rest := []) (b := m) (c_X11_post A P g m f t k x y l hl hO hZ hR) hO rfl rfl Y_X11_post u_941 N_X11_post ⟨by decide, by decide⟩ ⟨by decide, by decide⟩ (Nat.le_of_ble_eq_true rfl) rfl dX11_sendList_22 ?_
    rintro _ _ _ g_8 ⟨rfl, rfl, rfl, ⟨Z_9, hZ_9, hR_10⟩, hf_11⟩
    have h_12 := hf_11.at (by omega) hO
    have hp_13 := SO.fr hl hf_11 (by omega)
    obtain ⟨σ14, hσ14⟩ : ∃ sM : Sg, sM = pst σ (f, t, k, x, y, l) := ⟨_, rfl⟩
    rw [← hσ14] at hR_10
    have hK_σ14 : gK σ14 = gK σ := (congrArg gK hσ14).trans (pst_K.trans (rfl : gK σ = gK σ))
    have hT_σ14 : gT σ14 = gT σ := (congrArg gT hσ14).trans (pst_T.trans (rfl : gT σ = gT σ))
    have hZ_σ14 : gZ σ14 = gZ σ := (congrArg gZ hσ14).trans (pst_Z.trans (rfl : gZ σ = gZ σ))
    show V K 0 0 P A g_8 [(0, .ref (A m)), (1, .int (nI f)), (2, .int (nI t)), (3, .int (nI k)), (4, .int (nI x)), (5, .int (nI y)), (6, .int (nI l.length))] 25 []
    refine g_goto (pc := 25) C dX11_sendList_25 (tgt := 39) (by decide) ?_
    exact g_vret (pc := 39) C R ⟨rfl, rfl, rfl, ⟨_, hZ_9, by rw [snd_pst, ltr_live c_9, ← hσ14]; exact hR_10⟩, fun k hk => by rw [hf_11 k (by omega)]⟩ (by decide) (by decide) dX11_sendList_39
abbrev rm_X11_send : Room := { frames := 3, cells := 0, slots := 0, locals := 76 }
theorem Y_X11_send : pY yX11_send cX11_send 6 (Option.none : Option Jvm.ClassFile.FieldType) := ⟨u_935, us_3, u_13, u_936⟩
theorem N_X11_send : yX11_send.cls ≠ "java/lang/invoke/MethodHandle" ∧ yX11_send.cls ≠ "java/lang/invoke/VarHandle" ∧ (parseMethodDescriptor yX11_send.desc).map (fun d => d.parameters.length) = some 5 := by decide +kernel
set_option maxRecDepth 20000 in
set_option maxHeartbeats 4000000 in
theorem c_X11_send (A : Nat → Nat) (P : List Nat) (g : pM) (m : Nat) {cs : List Nat} {lm gm : Nat} {Z : Nat → Int32} {σ : Sg} (f t k x y : Nat) {l : List Nat} (hl : SO g (m + 3) 5 l) (ht : t < gK σ) (hO : g m = mOb A m (gZ σ) cs.length lm gm) (hZ : g (m + 1) = ai 0 10511 Z) (hR : RZ Z σ) : PM yX11_send cX11_send 6 (Option.none : Option Jvm.ClassFile.FieldType) rm_X11_send [.ref (A m), .int (nI f), .int (nI t), .int (nI k), .int (nI x), .int (nI y)] P A g (fun v g' => v = none ∧ ZS g' m (snd σ f t k x y []) ∧ Fr g g' (m + 1) (m + 2)) := by
  have hK := hR.k16
  have hT := hR.t24
  have hL := hR.le
  refine px_intro (by decide +kernel) (Nat.le_of_ble_eq_true rfl) (fun K sz C R => ?_)
  show V K 0 0 P A g [(0, .ref (A m)), (1, .int (nI f)), (2, .int (nI t)), (3, .int (nI k)), (4, .int (nI x)), (5, .int (nI y))] 0 []
  refine g_aload_n (pc := 0) C dX11_send_0 0 rfl ?_
  refine g_iload_n (pc := 1) C dX11_send_1 1 rfl ?_
  refine g_iload_n (pc := 2) C dX11_send_2 2 rfl ?_
  refine g_iload_n (pc := 3) C dX11_send_3 3 rfl ?_
  refine g_iload (pc := 4) C dX11_send_4 4 rfl ?_
  refine g_iload (pc := 6) C dX11_send_6 5 rfl ?_
  refine g_iconst (pc := 8) C dX11_send_8 (v := nI 0) rfl ?_
  refine g_callV (pc := 9) C (As := [.int (nI f), .int (nI t), .int (nI k), .int (nI x), .int (nI y), .int (nI 0)]) (rest := []) (b := m) (c_X11_sendList A P g m f t k x y ([]) (hl.nil) (by omega) hO hZ hR) hO rfl rfl Y_X11_sendList u_937 N_X11_sendList ⟨by decide, by decide⟩ ⟨by decide, by decide⟩ (Nat.le_of_ble_eq_true rfl) rfl dX11_send_9 ?_
  rintro _ _ _ g_1 ⟨rfl, rfl, rfl, ⟨Z_2, hZ_2, hR_3⟩, hf_4⟩
  have h_5 := hf_4.at (by omega) hO
  have hp_6 := SO.fr hl hf_4 (by omega)
  obtain ⟨σ7, hσ7⟩ : ∃ sM : Sg, sM = snd σ f t k x y ([]) := ⟨_, rfl⟩
  rw [← hσ7] at hR_3
  have hK_σ7 : gK σ7 = gK σ := (congrArg gK hσ7).trans (snd_K.trans (rfl : gK σ = gK σ))
  have hT_σ7 : gT σ7 = gT σ := (congrArg gT hσ7).trans (snd_T.trans (rfl : gT σ = gT σ))
  have hZ_σ7 : gZ σ7 = gZ σ := (congrArg gZ hσ7).trans (snd_Z.trans (rfl : gZ σ = gZ σ))
  show V K 0 0 P A g_1 [(0, .ref (A m)), (1, .int (nI f)), (2, .int (nI t)), (3, .int (nI k)), (4, .int (nI x)), (5, .int (nI y))] 12 []
  exact g_vret (pc := 12) C R ⟨rfl, rfl, rfl, ⟨_, hZ_2, by rw [← hσ7]; exact hR_3⟩, fun k hk => by rw [hf_4 k (by omega)]⟩ (by decide) (by decide) dX11_send_12
abbrev rm_X11_takeOutLetter : Room := { frames := 1, cells := 0, slots := 0, locals := 22 }
theorem Y_X11_takeOutLetter : pY yX11_takeOutLetter cX11_takeOutLetter 5 (Option.none : Option Jvm.ClassFile.FieldType) := ⟨u_955, us_7, u_13, u_956⟩
theorem N_X11_takeOutLetter : yX11_takeOutLetter.cls ≠ "java/lang/invoke/MethodHandle" ∧ yX11_takeOutLetter.cls ≠ "java/lang/invoke/VarHandle" ∧ (parseMethodDescriptor yX11_takeOutLetter.desc).map (fun d => d.parameters.length) = some 1 := by decide +kernel
set_option maxRecDepth 20000 in
set_option maxHeartbeats 4000000 in
theorem c_X11_takeOutLetter (A : Nat → Nat) (P : List Nat) (g : pM) (m : Nat) {cs : List Nat} {lm gm : Nat} {Z : Nat → Int32} {σ : Sg} (i : Nat) (hi : i < (gR σ).length) (hO : g m = mOb A m (gZ σ) cs.length lm gm) (hZ : g (m + 1) = ai 0 10511 Z) (hR : RZ Z σ) : PM yX11_takeOutLetter cX11_takeOutLetter 5 (Option.none : Option Jvm.ClassFile.FieldType) rm_X11_takeOutLetter [.ref (A m), .int (nI i)] P A g (fun v g' => v = none ∧ ZS g' m (sR σ ((gR σ).eraseIdx i)) ∧ Fr g g' (m + 1) (m + 2)) := by
  have hK := hR.k16
  have hT := hR.t24
  have hL := hR.le
  refine px_intro (by decide +kernel) (Nat.le_of_ble_eq_true rfl) (fun K sz C R => ?_)
  show V K 0 0 P A g [(0, .ref (A m)), (1, .int (nI i))] 0 []
  refine g_aload_n (pc := 0) C dX11_takeOutLetter_0 0 rfl ?_
  refine g_iload_n (pc := 1) C dX11_takeOutLetter_1 1 rfl ?_
  refine g_iconst (pc := 2) C dX11_takeOutLetter_2 (v := nI 1) rfl ?_
  refine g_iadd (pc := 3) C dX11_takeOutLetter_3 (z := nI (i + 1)) (nI_add _ _) ?_
  refine g_iconst (pc := 4) C dX11_takeOutLetter_4 (v := nI 0) rfl ?_
  refine g_callV (pc := 5) C (As := [.int (nI (i + 1)), .int (nI 0)]) (rest := []) (b := m) (c_X11_ofLetter A P g m (i + 1) 0) hO rfl rfl Y_X11_ofLetter u_945 N_X11_ofLetter ⟨by decide, by decide⟩ ⟨by decide, by decide⟩ (Nat.le_of_ble_eq_true rfl) rfl dX11_takeOutLetter_5 ?_
  rintro _ _ _ _ ⟨rfl, rfl, rfl, rfl⟩
  show V K 0 0 P A g [(0, .ref (A m)), (1, .int (nI i))] 8 [.int (nI (4992 + 11 * (i + 1) + 0))]
  refine g_istore_n (pc := 8) C dX11_takeOutLetter_8 (by decide) (lv' := [(0, .ref (A m)), (1, .int (nI i)), (2, .int (nI (4992 + 11 * (i + 1) + 0)))]) [1, 2, 0] rfl ?_
  refine g_aload_n (pc := 9) C dX11_takeOutLetter_9 0 rfl ?_
  refine g_aload_n (pc := 10) C dX11_takeOutLetter_10 0 rfl ?_
  refine g_get (pc := 11) C (j := 0) hO rfl rfl (by decide) u_852 dX11_takeOutLetter_11 ?_
  refine g_sipush (pc := 14) C dX11_takeOutLetter_14 (v := nI 10507) rfl ?_
  refine g_iald (pc := 17) C hZ (nI_clamp (by omega)) (nI_in0 (n := 10511) (by omega) (by omega)) dX11_takeOutLetter_17 (x := nI (gR σ).length) (RZ.rRn hR (by omega)) ?_
  refine g_iconst (pc := 18) C dX11_takeOutLetter_18 (v := nI 0) rfl ?_
  refine g_callV (pc := 19) C (As := [.int (nI (gR σ).length), .int (nI 0)]) (rest := []) (b := m) (c_X11_ofLetter A P g m (gR σ).length 0) hO rfl rfl Y_X11_ofLetter u_945 N_X11_ofLetter ⟨by decide, by decide⟩ ⟨by decide, by decide⟩ (Nat.le_of_ble_eq_true rfl) rfl dX11_takeOutLetter_19 ?_
  rintro _ _ _ _ ⟨rfl, rfl, rfl, rfl⟩
  show V K 0 0 P A g [(0, .ref (A m)), (1, .int (nI i)), (2, .int (nI (4992 + 11 * (i + 1) + 0)))] 22 [.int (nI (4992 + 11 * (gR σ).length + 0))]
  refine g_istore_n (pc := 22) C dX11_takeOutLetter_22 (by decide) (lv' := [(0, .ref (A m)), (1, .int (nI i)), (2, .int (nI (4992 + 11 * (i + 1) + 0))), (3, .int (nI (4992 + 11 * (gR σ).length + 0)))]) [1, 2, 3, 0] rfl ?_
  refine g_iload_n (pc := 23) C dX11_takeOutLetter_23 2 rfl ?_
  refine g_istore (pc := 24) C dX11_takeOutLetter_24 (by decide) (lv' := [(0, .ref (A m)), (1, .int (nI i)), (2, .int (nI (4992 + 11 * (i + 1) + 0))), (3, .int (nI (4992 + 11 * (gR σ).length + 0))), (4, .int (nI (4992 + 11 * (i + 1) + 0)))]) [1, 2, 3, 4, 0] rfl ?_
  have lp_26 : ∀ (fuel : Nat) (b : Nat) (hb1 : 4992 + 11 * (i + 1) ≤ b) (hb2 : b ≤ 4992 + 11 * (gR σ).length), 4992 + 11 * (gR σ).length - b < fuel → V K 0 0 P A (va_up g (m + 1) (ai 0 10511 (s11 Z (4992 + 11 * (i + 1)) b))) [(0, .ref (A m)), (1, .int (nI i)), (2, .int (nI (4992 + 11 * (i + 1) + 0))), (3, .int (nI (4992 + 11 * (gR σ).length + 0))), (4, .int (nI b))] 26 [] := by
    intro fuel
    induction fuel with
    | zero => intro b hb1 hb2 hμ; exact absurd hμ (Nat.not_lt_zero _)
    | succ fuel ih =>
      intro b hb1 hb2 hμ
      obtain ⟨Y26, hY26⟩ : ∃ yZ : Nat → Int32, yZ = s11 Z (4992 + 11 * (i + 1)) b := ⟨_, rfl⟩
      rw [← hY26]
      obtain ⟨gl26, hgl26⟩ : ∃ y : pM, y = va_up g (m + 1) (ai 0 10511 Y26) := ⟨_, rfl⟩
      rw [← hgl26]
      have hfl26 : Fr g gl26 (m + 1) (m + 2) := by rw [hgl26]; exact Fr.up (by omega) (by omega)
      have hz26 : gl26 (m + 1) = ai 0 10511 Y26 := by rw [hgl26]; exact va_up_self _ _ _
      have h_1 := hfl26.at (by omega) hO
      refine g_iload (pc := 26) C dX11_takeOutLetter_26 4 rfl ?_
      refine g_iload_n (pc := 28) C dX11_takeOutLetter_28 3 rfl ?_
      refine g_icmp_ge (pc := 29) C dX11_takeOutLetter_29 (tgt := 55) (by decide) (fun c_29 => ?_) (fun c_29 => ?_)
      ·
        have c_29 : (4992 + 11 * (gR σ).length + 0) ≤ b := (nI_leI (by omega) (by omega)).mp c_29
        refine g_aload_n (pc := 55) C dX11_takeOutLetter_55 0 rfl ?_
        refine g_get (pc := 56) C (j := 0) h_1 rfl rfl (by decide) u_852 dX11_takeOutLetter_56 ?_
        refine g_sipush (pc := 59) C dX11_takeOutLetter_59 (v := nI 10507) rfl ?_
        refine g_dup2 (pc := 62) C dX11_takeOutLetter_62 rfl rfl ?_
        refine g_iald (pc := 63) C hz26 (nI_clamp (by omega)) (nI_in0 (n := 10511) (by omega) (by omega)) dX11_takeOutLetter_63 (x := nI (gR σ).length) (s11_o hY26 (by omega) (RZ.rRn hR (by omega))) ?_
        refine g_iconst (pc := 64) C dX11_takeOutLetter_64 (v := nI 1) rfl ?_
        refine g_isub (pc := 65) C dX11_takeOutLetter_65 (z := nI ((gR σ).length - 1)) (pk_sub (by omega)) ?_
        refine g_iast (pc := 66) C hz26 (nI_clamp (by omega)) (nI_in0 (n := 10511) (by omega) (by omega)) dX11_takeOutLetter_66 ?_
        obtain ⟨Z_2, hZ_2⟩ : ∃ yZ : Nat → Int32, yZ = upd Y26 10507 (nI ((gR σ).length - 1)) := ⟨_, rfl⟩
        show V K 0 0 P A (va_up gl26 (m + 1) (ai 0 10511 (upd Y26 10507 (nI ((gR σ).length - 1))))) [(0, .ref (A m)), (1, .int (nI i)), (2, .int (nI (4992 + 11 * (i + 1) + 0))), (3, .int (nI (4992 + 11 * (gR σ).length + 0))), (4, .int (nI b))] 67 []
        rw [← hZ_2]
        obtain ⟨g_3, hg_3⟩ : ∃ yM : pM, yM = va_up gl26 (m + 1) (ai 0 10511 Z_2) := ⟨_, rfl⟩
        show V K 0 0 P A (va_up gl26 (m + 1) (ai 0 10511 Z_2)) [(0, .ref (A m)), (1, .int (nI i)), (2, .int (nI (4992 + 11 * (i + 1) + 0))), (3, .int (nI (4992 + 11 * (gR σ).length + 0))), (4, .int (nI b))] 67 []
        rw [← hg_3]
        have h_4 : g_3 m = ob 11 [.ref (A (m + 1)), .int (nI (gZ σ).1), .int (nI (gZ σ).2.1), .int (nI (gZ σ).2.2.1), .int (nI (gZ σ).2.2.2.1), .int (nI (gZ σ).2.2.2.2), .ref (A (m + 2)), .int (nI cs.length), .ref (A (m + 3)), .int (nI lm), .ref (A (m + 4)), .ref (A (m + 5)), .int (nI gm), .ref (A (m + 6)), .ref (A (m + 7)), .ref (A (m + 8))] := by rw [hg_3, va_up_ne _ _ (show m ≠ m + 1 from by omega)]; exact h_1
        have h_5 : g_3 (m + 1) = ai 0 10511 Z_2 := by rw [hg_3]; exact va_up_self _ _ _
        exact g_vret (pc := 67) C R ⟨rfl, rfl, rfl, ⟨_, h_5, RZ.toL hR rfl hi (by omega : b = _) hY26 hZ_2⟩, fun k hk => by rw [hg_3, va_up_ne _ _ (by omega), hfl26 k (by omega)]⟩ (by decide) (by decide) dX11_takeOutLetter_67
      ·
        have c_29 : ¬ (4992 + 11 * (gR σ).length + 0) ≤ b := fun h => c_29 ((nI_leI (a := (4992 + 11 * (gR σ).length + 0)) (b := b) (by omega) (by omega)).mpr h)
        refine g_aload_n (pc := 32) C dX11_takeOutLetter_32 0 rfl ?_
        refine g_get (pc := 33) C (j := 0) h_1 rfl rfl (by decide) u_852 dX11_takeOutLetter_33 ?_
        refine g_iload (pc := 36) C dX11_takeOutLetter_36 4 rfl ?_
        refine g_bipush (pc := 38) C dX11_takeOutLetter_38 (v := nI 11) rfl ?_
        refine g_isub (pc := 40) C dX11_takeOutLetter_40 (z := nI (b - 11)) (pk_sub (by omega)) ?_
        refine g_aload_n (pc := 41) C dX11_takeOutLetter_41 0 rfl ?_
        refine g_get (pc := 42) C (j := 0) h_1 rfl rfl (by decide) u_852 dX11_takeOutLetter_42 ?_
        refine g_iload (pc := 45) C dX11_takeOutLetter_45 4 rfl ?_
        refine g_iald (pc := 47) C hz26 (nI_clamp (by omega)) (nI_in0 (n := 10511) (by omega) (by omega)) dX11_takeOutLetter_47 (x := Y26 b) rfl ?_
        refine g_iast (pc := 48) C hz26 (nI_clamp (by omega)) (nI_in0 (n := 10511) (by omega) (by omega)) dX11_takeOutLetter_48 ?_
        obtain ⟨Z_6, hZ_6⟩ : ∃ yZ : Nat → Int32, yZ = upd Y26 (b - 11) (Y26 b) := ⟨_, rfl⟩
        show V K 0 0 P A (va_up gl26 (m + 1) (ai 0 10511 (upd Y26 (b - 11) (Y26 b)))) [(0, .ref (A m)), (1, .int (nI i)), (2, .int (nI (4992 + 11 * (i + 1) + 0))), (3, .int (nI (4992 + 11 * (gR σ).length + 0))), (4, .int (nI b))] 49 []
        rw [← hZ_6]
        obtain ⟨g_7, hg_7⟩ : ∃ yM : pM, yM = va_up gl26 (m + 1) (ai 0 10511 Z_6) := ⟨_, rfl⟩
        show V K 0 0 P A (va_up gl26 (m + 1) (ai 0 10511 Z_6)) [(0, .ref (A m)), (1, .int (nI i)), (2, .int (nI (4992 + 11 * (i + 1) + 0))), (3, .int (nI (4992 + 11 * (gR σ).length + 0))), (4, .int (nI b))] 49 []
        rw [← hg_7]
        have h_8 : g_7 m = ob 11 [.ref (A (m + 1)), .int (nI (gZ σ).1), .int (nI (gZ σ).2.1), .int (nI (gZ σ).2.2.1), .int (nI (gZ σ).2.2.2.1), .int (nI (gZ σ).2.2.2.2), .ref (A (m + 2)), .int (nI cs.length), .ref (A (m + 3)), .int (nI lm), .ref (A (m + 4)), .ref (A (m + 5)), .int (nI gm), .ref (A (m + 6)), .ref (A (m + 7)), .ref (A (m + 8))] := by rw [hg_7, va_up_ne _ _ (show m ≠ m + 1 from by omega)]; exact h_1
        have h_9 : g_7 (m + 1) = ai 0 10511 Z_6 := by rw [hg_7]; exact va_up_self _ _ _
        refine g_iinc (pc := 49) C dX11_takeOutLetter_49 (by decide) 4 rfl (v := nI (b + 1)) (nI_i1 _) (lv' := [(0, .ref (A m)), (1, .int (nI i)), (2, .int (nI (4992 + 11 * (i + 1) + 0))), (3, .int (nI (4992 + 11 * (gR σ).length + 0))), (4, .int (nI (b + 1)))]) [1, 2, 3, 4, 0] rfl ?_
        refine g_goto (pc := 52) C dX11_takeOutLetter_52 (tgt := 26) (by decide) ?_
        rw [show g_7 = va_up g (m + 1) (ai 0 10511 (s11 Z (4992 + 11 * (i + 1)) (b + 1))) from by rw [hg_7, hgl26, bx_uu, hZ_6, hY26, s11_s (by omega) (by omega) rfl (by simp only [s11]; rw [if_neg (by omega)])]]
        exact ih (b + 1) (by omega) (by omega) (by omega)
  rw [show g = va_up g (m + 1) (ai 0 10511 (s11 Z (4992 + 11 * (i + 1)) (4992 + 11 * (i + 1) + 0))) from (va_up_id (by rw [hZ, show s11 Z (4992 + 11 * (i + 1)) (4992 + 11 * (i + 1) + 0) = Z from s11_0])).symm]
  exact lp_26 (_ + 1) _ (Nat.le_refl _) (by omega) (Nat.lt_succ_self _)
abbrev rm_X11_activeAt : Room := { frames := 0, cells := 0, slots := 0, locals := 0 }
theorem Y_X11_activeAt : pY yX11_activeAt cX11_activeAt 4 (Option.some Jvm.ClassFile.FieldType.int) := ⟨u_963, us_9, u_13, u_964⟩
theorem N_X11_activeAt : yX11_activeAt.cls ≠ "java/lang/invoke/MethodHandle" ∧ yX11_activeAt.cls ≠ "java/lang/invoke/VarHandle" ∧ (parseMethodDescriptor yX11_activeAt.desc).map (fun d => d.parameters.length) = some 2 := by decide +kernel
set_option maxRecDepth 20000 in
set_option maxHeartbeats 4000000 in
theorem c_X11_activeAt (A : Nat → Nat) (P : List Nat) (g : pM) (m : Nat) {cs : List Nat} {lm gm : Nat} {Z : Nat → Int32} {σ : Sg} (r q : Nat) (hr : r < gK σ) (hq : q < 16) (hl : ∀ x ∈ (nAc (gN σ r)), x < 16) (hO : g m = mOb A m (gZ σ) cs.length lm gm) (hZ : g (m + 1) = ai 0 10511 Z) (hR : RZ Z σ) : PM yX11_activeAt cX11_activeAt 4 (Option.some Jvm.ClassFile.FieldType.int) rm_X11_activeAt [.ref (A m), .int (nI r), .int (nI q)] P A g (fun v g' => v = some (.int (zPl (nAc (gN σ r)) q)) ∧ g = g') := by
  have hK := hR.k16
  have hT := hR.t24
  have hL := hR.le
  have hcap := hR.ac5 hr
  refine px_intro (by decide +kernel) (Nat.le_of_ble_eq_true rfl) (fun K sz C R => ?_)
  show V K 0 0 P A g [(0, .ref (A m)), (1, .int (nI r)), (2, .int (nI q))] 0 []
  refine g_iconst (pc := 0) C dX11_activeAt_0 (v := nI 0) rfl ?_
  refine g_istore_n (pc := 1) C dX11_activeAt_1 (by decide) (lv' := [(0, .ref (A m)), (1, .int (nI r)), (2, .int (nI q)), (3, .int (nI 0))]) [1, 2, 3, 0] rfl ?_
  have lp_2 : ∀ (fuel : Nat) (k : Nat) (hk : k ≤ (nAc (gN σ r)).length) (hn : ∀ j, j < k → ¬ (nAc (gN σ r)).getD j 0 = q), (nAc (gN σ r)).length - k < fuel → V K 0 0 P A g [(0, .ref (A m)), (1, .int (nI r)), (2, .int (nI q)), (3, .int (nI k))] 2 [] := by
    intro fuel
    induction fuel with
    | zero => intro k hk hn hμ; exact absurd hμ (Nat.not_lt_zero _)
    | succ fuel ih =>
      intro k hk hn hμ
      refine g_iload_n (pc := 2) C dX11_activeAt_2 3 rfl ?_
      refine g_aload_n (pc := 3) C dX11_activeAt_3 0 rfl ?_
      refine g_get (pc := 4) C (j := 0) hO rfl rfl (by decide) u_852 dX11_activeAt_4 ?_
      refine g_bipush (pc := 7) C dX11_activeAt_7 (v := nI 16) rfl ?_
      refine g_iload_n (pc := 9) C dX11_activeAt_9 1 rfl ?_
      refine g_iadd (pc := 10) C dX11_activeAt_10 (z := nI (16 + r)) (nI_add _ _) ?_
      refine g_iald (pc := 11) C hZ (nI_clamp (by omega)) (nI_in0 (n := 10511) (by omega) (by omega)) dX11_activeAt_11 (x := nI (nAc (gN σ r)).length) (RZ.rAn hR (r := r) (by omega) (by omega)) ?_
      refine g_icmp_ge (pc := 12) C dX11_activeAt_12 (tgt := 40) (by decide) (fun c_12 => ?_) (fun c_12 => ?_)
      ·
        have c_12 : (nAc (gN σ r)).length ≤ k := (nI_leI (by omega) (by omega)).mp c_12
        refine g_iconst (pc := 40) C dX11_activeAt_40 (v := (-1)) rfl ?_
        exact g_iret (pc := 41) C R ⟨rfl, rfl, by rw [zPl_miss (fun j hj => hn j (by omega))], rfl⟩ (by decide) (by decide) dX11_activeAt_41
      ·
        have c_12 : ¬ (nAc (gN σ r)).length ≤ k := fun h => c_12 ((nI_leI (a := (nAc (gN σ r)).length) (b := k) (by omega) (by omega)).mpr h)
        refine g_aload_n (pc := 15) C dX11_activeAt_15 0 rfl ?_
        refine g_get (pc := 16) C (j := 0) hO rfl rfl (by decide) u_852 dX11_activeAt_16 ?_
        refine g_bipush (pc := 19) C dX11_activeAt_19 (v := nI 96) rfl ?_
        refine g_iconst (pc := 21) C dX11_activeAt_21 (v := nI 5) rfl ?_
        refine g_iload_n (pc := 22) C dX11_activeAt_22 1 rfl ?_
        refine g_imul (pc := 23) C dX11_activeAt_23 (z := nI (5 * r)) (pk_mul _ _) ?_
        refine g_iadd (pc := 24) C dX11_activeAt_24 (z := nI (96 + 5 * r)) (nI_add _ _) ?_
        refine g_iload_n (pc := 25) C dX11_activeAt_25 3 rfl ?_
        refine g_iadd (pc := 26) C dX11_activeAt_26 (z := nI (96 + 5 * r + k)) (nI_add _ _) ?_
        refine g_iald (pc := 27) C hZ (nI_clamp (by omega)) (nI_in0 (n := 10511) (by omega) (by omega)) dX11_activeAt_27 (x := nI ((nAc (gN σ r)).getD k 0)) (RZ.rAc hR (r := r) (k := k) (by omega) (by omega) (by omega)) ?_
        refine g_iload_n (pc := 28) C dX11_activeAt_28 2 rfl ?_
        have hv := getD_lt (i := k) hl
        refine g_icmp_ne (pc := 29) C dX11_activeAt_29 (tgt := 34) (by decide) (fun c_29 => ?_) (fun c_29 => ?_)
        ·
          have c_29 : ¬ ((nAc (gN σ r)).getD k 0) = q := fun h => c_29 ((nI_eq (a := ((nAc (gN σ r)).getD k 0)) (b := q) (by omega) (by omega)).mpr h)
          refine g_iinc (pc := 34) C dX11_activeAt_34 (by decide) 3 rfl (v := nI (k + 1)) (nI_i1 _) (lv' := [(0, .ref (A m)), (1, .int (nI r)), (2, .int (nI q)), (3, .int (nI (k + 1)))]) [1, 2, 3, 0] rfl ?_
          refine g_goto (pc := 37) C dX11_activeAt_37 (tgt := 2) (by decide) ?_
          exact ih (k + 1) (by omega) (fun j hj => by rcases Nat.lt_succ_iff_lt_or_eq.mp hj with h | rfl; exact hn j h; exact c_29) (by omega)
        ·
          have c_29 : ((nAc (gN σ r)).getD k 0) = q := (nI_eq (by omega) (by omega)).mp c_29
          refine g_iload_n (pc := 32) C dX11_activeAt_32 3 rfl ?_
          exact g_iret (pc := 33) C R ⟨rfl, rfl, by rw [zPl_hit (by omega) c_29 hn], rfl⟩ (by decide) (by decide) dX11_activeAt_33
  exact lp_2 (_ + 1) 0 (Nat.zero_le _) (fun j hj => absurd hj (Nat.not_lt_zero j)) (Nat.lt_succ_self _)
abbrev rm_X11_passiveAt : Room := { frames := 0, cells := 0, slots := 0, locals := 0 }
theorem Y_X11_passiveAt : pY yX11_passiveAt cX11_passiveAt 4 (Option.some Jvm.ClassFile.FieldType.int) := ⟨u_1035, us_23, u_13, u_1036⟩
theorem N_X11_passiveAt : yX11_passiveAt.cls ≠ "java/lang/invoke/MethodHandle" ∧ yX11_passiveAt.cls ≠ "java/lang/invoke/VarHandle" ∧ (parseMethodDescriptor yX11_passiveAt.desc).map (fun d => d.parameters.length) = some 2 := by decide +kernel
set_option maxRecDepth 20000 in
set_option maxHeartbeats 4000000 in
theorem c_X11_passiveAt (A : Nat → Nat) (P : List Nat) (g : pM) (m : Nat) {cs : List Nat} {lm gm : Nat} {Z : Nat → Int32} {σ : Sg} (r q : Nat) (hr : r < gK σ) (hq : q < 16) (hl : ∀ x ∈ (nPa (gN σ r)), x < 16) (hO : g m = mOb A m (gZ σ) cs.length lm gm) (hZ : g (m + 1) = ai 0 10511 Z) (hR : RZ Z σ) : PM yX11_passiveAt cX11_passiveAt 4 (Option.some Jvm.ClassFile.FieldType.int) rm_X11_passiveAt [.ref (A m), .int (nI r), .int (nI q)] P A g (fun v g' => v = some (.int (zPl (nPa (gN σ r)) q)) ∧ g = g') := by
  have hK := hR.k16
  have hT := hR.t24
  have hL := hR.le
  have hcap := hR.pa8 hr
  refine px_intro (by decide +kernel) (Nat.le_of_ble_eq_true rfl) (fun K sz C R => ?_)
  show V K 0 0 P A g [(0, .ref (A m)), (1, .int (nI r)), (2, .int (nI q))] 0 []
  refine g_iconst (pc := 0) C dX11_passiveAt_0 (v := nI 0) rfl ?_
  refine g_istore_n (pc := 1) C dX11_passiveAt_1 (by decide) (lv' := [(0, .ref (A m)), (1, .int (nI r)), (2, .int (nI q)), (3, .int (nI 0))]) [1, 2, 3, 0] rfl ?_
  have lp_2 : ∀ (fuel : Nat) (k : Nat) (hk : k ≤ (nPa (gN σ r)).length) (hn : ∀ j, j < k → ¬ (nPa (gN σ r)).getD j 0 = q), (nPa (gN σ r)).length - k < fuel → V K 0 0 P A g [(0, .ref (A m)), (1, .int (nI r)), (2, .int (nI q)), (3, .int (nI k))] 2 [] := by
    intro fuel
    induction fuel with
    | zero => intro k hk hn hμ; exact absurd hμ (Nat.not_lt_zero _)
    | succ fuel ih =>
      intro k hk hn hμ
      refine g_iload_n (pc := 2) C dX11_passiveAt_2 3 rfl ?_
      refine g_aload_n (pc := 3) C dX11_passiveAt_3 0 rfl ?_
      refine g_get (pc := 4) C (j := 0) hO rfl rfl (by decide) u_852 dX11_passiveAt_4 ?_
      refine g_bipush (pc := 7) C dX11_passiveAt_7 (v := nI 32) rfl ?_
      refine g_iload_n (pc := 9) C dX11_passiveAt_9 1 rfl ?_
      refine g_iadd (pc := 10) C dX11_passiveAt_10 (z := nI (32 + r)) (nI_add _ _) ?_
      refine g_iald (pc := 11) C hZ (nI_clamp (by omega)) (nI_in0 (n := 10511) (by omega) (by omega)) dX11_passiveAt_11 (x := nI (nPa (gN σ r)).length) (RZ.rPn hR (r := r) (by omega) (by omega)) ?_
      refine g_icmp_ge (pc := 12) C dX11_passiveAt_12 (tgt := 42) (by decide) (fun c_12 => ?_) (fun c_12 => ?_)
      ·
        have c_12 : (nPa (gN σ r)).length ≤ k := (nI_leI (by omega) (by omega)).mp c_12
        refine g_iconst (pc := 42) C dX11_passiveAt_42 (v := (-1)) rfl ?_
        exact g_iret (pc := 43) C R ⟨rfl, rfl, by rw [zPl_miss (fun j hj => hn j (by omega))], rfl⟩ (by decide) (by decide) dX11_passiveAt_43
      ·
        have c_12 : ¬ (nPa (gN σ r)).length ≤ k := fun h => c_12 ((nI_leI (a := (nPa (gN σ r)).length) (b := k) (by omega) (by omega)).mpr h)
        refine g_aload_n (pc := 15) C dX11_passiveAt_15 0 rfl ?_
        refine g_get (pc := 16) C (j := 0) hO rfl rfl (by decide) u_852 dX11_passiveAt_16 ?_
        refine g_sipush (pc := 19) C dX11_passiveAt_19 (v := nI 256) rfl ?_
        refine g_bipush (pc := 22) C dX11_passiveAt_22 (v := nI 8) rfl ?_
        refine g_iload_n (pc := 24) C dX11_passiveAt_24 1 rfl ?_
        refine g_imul (pc := 25) C dX11_passiveAt_25 (z := nI (8 * r)) (pk_mul _ _) ?_
        refine g_iadd (pc := 26) C dX11_passiveAt_26 (z := nI (256 + 8 * r)) (nI_add _ _) ?_
        refine g_iload_n (pc := 27) C dX11_passiveAt_27 3 rfl ?_
        refine g_iadd (pc := 28) C dX11_passiveAt_28 (z := nI (256 + 8 * r + k)) (nI_add _ _) ?_
        refine g_iald (pc := 29) C hZ (nI_clamp (by omega)) (nI_in0 (n := 10511) (by omega) (by omega)) dX11_passiveAt_29 (x := nI ((nPa (gN σ r)).getD k 0)) (RZ.rPa hR (r := r) (k := k) (by omega) (by omega) (by omega)) ?_
        refine g_iload_n (pc := 30) C dX11_passiveAt_30 2 rfl ?_
        have hv := getD_lt (i := k) hl
        refine g_icmp_ne (pc := 31) C dX11_passiveAt_31 (tgt := 36) (by decide) (fun c_31 => ?_) (fun c_31 => ?_)
        ·
          have c_31 : ¬ ((nPa (gN σ r)).getD k 0) = q := fun h => c_31 ((nI_eq (a := ((nPa (gN σ r)).getD k 0)) (b := q) (by omega) (by omega)).mpr h)
          refine g_iinc (pc := 36) C dX11_passiveAt_36 (by decide) 3 rfl (v := nI (k + 1)) (nI_i1 _) (lv' := [(0, .ref (A m)), (1, .int (nI r)), (2, .int (nI q)), (3, .int (nI (k + 1)))]) [1, 2, 3, 0] rfl ?_
          refine g_goto (pc := 39) C dX11_passiveAt_39 (tgt := 2) (by decide) ?_
          exact ih (k + 1) (by omega) (fun j hj => by rcases Nat.lt_succ_iff_lt_or_eq.mp hj with h | rfl; exact hn j h; exact c_31) (by omega)
        ·
          have c_31 : ((nPa (gN σ r)).getD k 0) = q := (nI_eq (by omega) (by omega)).mp c_31
          refine g_iload_n (pc := 34) C dX11_passiveAt_34 3 rfl ?_
          exact g_iret (pc := 35) C R ⟨rfl, rfl, by rw [zPl_hit (by omega) c_31 hn], rfl⟩ (by decide) (by decide) dX11_passiveAt_35
  exact lp_2 (_ + 1) 0 (Nat.zero_le _) (fun j hj => absurd hj (Nat.not_lt_zero j)) (Nat.lt_succ_self _)
abbrev rm_X11_isActive : Room := { frames := 1, cells := 0, slots := 0, locals := 23 }
theorem Y_X11_isActive : pY yX11_isActive cX11_isActive 3 (Option.some Jvm.ClassFile.FieldType.boolean) := ⟨u_959, us_8, u_13, u_960⟩
theorem N_X11_isActive : yX11_isActive.cls ≠ "java/lang/invoke/MethodHandle" ∧ yX11_isActive.cls ≠ "java/lang/invoke/VarHandle" ∧ (parseMethodDescriptor yX11_isActive.desc).map (fun d => d.parameters.length) = some 2 := by decide +kernel
set_option maxRecDepth 20000 in
set_option maxHeartbeats 4000000 in
theorem c_X11_isActive (A : Nat → Nat) (P : List Nat) (g : pM) (m : Nat) {cs : List Nat} {lm gm : Nat} {Z : Nat → Int32} {σ : Sg} (r q : Nat) (hr : r < gK σ) (hq : q < 16) (hl : ∀ x ∈ nAc (gN σ r), x < 16) (hO : g m = mOb A m (gZ σ) cs.length lm gm) (hZ : g (m + 1) = ai 0 10511 Z) (hR : RZ Z σ) : PM yX11_isActive cX11_isActive 3 (Option.some Jvm.ClassFile.FieldType.boolean) rm_X11_isActive [.ref (A m), .int (nI r), .int (nI q)] P A g (fun v g' => v = some (.int (b32 (decide (q ∈ nAc (gN σ r))))) ∧ g = g') := by
  have hK := hR.k16
  have hT := hR.t24
  have hL := hR.le
  have hcap := hR.ac5 hr
  refine px_intro (by decide +kernel) (Nat.le_of_ble_eq_true rfl) (fun K sz C R => ?_)
  show V K 0 0 P A g [(0, .ref (A m)), (1, .int (nI r)), (2, .int (nI q))] 0 []
  refine g_aload_n (pc := 0) C dX11_isActive_0 0 rfl ?_
  refine g_iload_n (pc := 1) C dX11_isActive_1 1 rfl ?_
  refine g_iload_n (pc := 2) C dX11_isActive_2 2 rfl ?_
  refine g_callV (pc := 3) C (As := [.int (nI r), .int (nI q)]) (rest := []) (b := m) (c_X11_activeAt A P g m r q (by omega) (by omega) hl hO hZ hR) hO rfl rfl Y_X11_activeAt u_961 N_X11_activeAt ⟨by decide, by decide⟩ ⟨by decide, by decide⟩ (Nat.le_of_ble_eq_true rfl) rfl dX11_isActive_3 ?_
  rintro _ _ _ _ ⟨rfl, rfl, rfl, rfl⟩
  rcases zPl_c (nAc (gN σ r)) q with ⟨hppk_1, hqpk_1⟩ | ⟨pk1, hkpk_1, hppk_1, hxpk_1, hipk_1, hmpk_1⟩
  ·
    rw [hppk_1]
    show V K 0 0 P A g [(0, .ref (A m)), (1, .int (nI r)), (2, .int (nI q))] 6 [.int (-1)]
    refine g_if_lt (pc := 6) C dX11_isActive_6 (tgt := 13) (by decide) (fun c_6 => ?_) (fun c_6 => ?_)
    ·
      refine g_iconst (pc := 13) C dX11_isActive_13 (v := nI 0) rfl ?_
      exact g_zret (pc := 14) C R (Or.inl rfl) ⟨rfl, rfl, by rw [show decide (q ∈ nAc (gN σ r)) = false from decide_eq_false hqpk_1]; rfl, rfl⟩ (by decide) (by decide) dX11_isActive_14
    ·
      exfalso
      revert c_6; decide
  ·
    rw [hppk_1]
    show V K 0 0 P A g [(0, .ref (A m)), (1, .int (nI r)), (2, .int (nI q))] 6 [.int (nI pk1)]
    refine g_if_lt (pc := 6) C dX11_isActive_6 (tgt := 13) (by decide) (fun c_6 => ?_) (fun c_6 => ?_)
    ·
      exfalso
      exact nI_pos (by omega) c_6
    ·
      have c_6 : ¬ pk1 < 0 := fun h => c_6 ((nI_ltI (a := pk1) (b := 0) (by omega) (by omega)).mpr h)
      refine g_iconst (pc := 9) C dX11_isActive_9 (v := nI 1) rfl ?_
      refine g_goto (pc := 10) C dX11_isActive_10 (tgt := 14) (by decide) ?_
      exact g_zret (pc := 14) C R (Or.inr rfl) ⟨rfl, rfl, by rw [show decide (q ∈ nAc (gN σ r)) = true from decide_eq_true hmpk_1]; rfl, rfl⟩ (by decide) (by decide) dX11_isActive_14
abbrev rm_X11_leavesPassive : Room := { frames := 1, cells := 0, slots := 0, locals := 23 }
theorem Y_X11_leavesPassive : pY yX11_leavesPassive cX11_leavesPassive 5 (Option.none : Option Jvm.ClassFile.FieldType) := ⟨u_1031, us_22, u_13, u_1032⟩
theorem N_X11_leavesPassive : yX11_leavesPassive.cls ≠ "java/lang/invoke/MethodHandle" ∧ yX11_leavesPassive.cls ≠ "java/lang/invoke/VarHandle" ∧ (parseMethodDescriptor yX11_leavesPassive.desc).map (fun d => d.parameters.length) = some 2 := by decide +kernel
set_option maxRecDepth 20000 in
set_option maxHeartbeats 4000000 in
theorem c_X11_leavesPassive (A : Nat → Nat) (P : List Nat) (g : pM) (m : Nat) {cs : List Nat} {lm gm : Nat} {Z : Nat → Int32} {σ : Sg} (r q : Nat) (hr : r < gK σ) (hq : q < 16) (hl : ∀ x ∈ nPa (gN σ r), x < 16) (hO : g m = mOb A m (gZ σ) cs.length lm gm) (hZ : g (m + 1) = ai 0 10511 Z) (hR : RZ Z σ) : PM yX11_leavesPassive cX11_leavesPassive 5 (Option.none : Option Jvm.ClassFile.FieldType) rm_X11_leavesPassive [.ref (A m), .int (nI r), .int (nI q)] P A g (fun v g' => v = none ∧ ZS g' m (paRem σ r q) ∧ Fr g g' (m + 1) (m + 2)) := by
  have hK := hR.k16
  have hT := hR.t24
  have hL := hR.le
  have hcap := hR.pa8 hr
  refine px_intro (by decide +kernel) (Nat.le_of_ble_eq_true rfl) (fun K sz C R => ?_)
  show V K 0 0 P A g [(0, .ref (A m)), (1, .int (nI r)), (2, .int (nI q))] 0 []
  refine g_aload_n (pc := 0) C dX11_leavesPassive_0 0 rfl ?_
  refine g_iload_n (pc := 1) C dX11_leavesPassive_1 1 rfl ?_
  refine g_iload_n (pc := 2) C dX11_leavesPassive_2 2 rfl ?_
  refine g_callV (pc := 3) C (As := [.int (nI r), .int (nI q)]) (rest := []) (b := m) (c_X11_passiveAt A P g m r q (by omega) (by omega) hl hO hZ hR) hO rfl rfl Y_X11_passiveAt u_1033 N_X11_passiveAt ⟨by decide, by decide⟩ ⟨by decide, by decide⟩ (Nat.le_of_ble_eq_true rfl) rfl dX11_leavesPassive_3 ?_
  rintro _ _ _ _ ⟨rfl, rfl, rfl, rfl⟩
  rcases zPl_c (nPa (gN σ r)) q with ⟨hppk_1, hqpk_1⟩ | ⟨pk1, hkpk_1, hppk_1, hxpk_1, hipk_1, hmpk_1⟩
  ·
    rw [hppk_1]
    show V K 0 0 P A g [(0, .ref (A m)), (1, .int (nI r)), (2, .int (nI q))] 6 [.int (-1)]
    refine g_istore_n (pc := 6) C dX11_leavesPassive_6 (by decide) (lv' := [(0, .ref (A m)), (1, .int (nI r)), (2, .int (nI q)), (3, .int (-1))]) [1, 2, 3, 0] rfl ?_
    refine g_iload_n (pc := 7) C dX11_leavesPassive_7 3 rfl ?_
    refine g_if_lt (pc := 8) C dX11_leavesPassive_8 (tgt := 81) (by decide) (fun c_8 => ?_) (fun c_8 => ?_)
    ·
      exact g_vret (pc := 81) C R ⟨rfl, rfl, rfl, ⟨Z, hZ, by rw [paRem_n hqpk_1]; exact hR⟩, Fr.rf⟩ (by decide) (by decide) dX11_leavesPassive_81
    ·
      exfalso
      revert c_8; decide
  ·
    rw [hppk_1]
    show V K 0 0 P A g [(0, .ref (A m)), (1, .int (nI r)), (2, .int (nI q))] 6 [.int (nI pk1)]
    refine g_istore_n (pc := 6) C dX11_leavesPassive_6 (by decide) (lv' := [(0, .ref (A m)), (1, .int (nI r)), (2, .int (nI q)), (3, .int (nI pk1))]) [1, 2, 3, 0] rfl ?_
    refine g_iload_n (pc := 7) C dX11_leavesPassive_7 3 rfl ?_
    refine g_if_lt (pc := 8) C dX11_leavesPassive_8 (tgt := 81) (by decide) (fun c_8 => ?_) (fun c_8 => ?_)
    ·
      exfalso
      exact nI_pos (by omega) c_8
    ·
      have c_8 : ¬ pk1 < 0 := fun h => c_8 ((nI_ltI (a := pk1) (b := 0) (by omega) (by omega)).mpr h)
      refine g_aload_n (pc := 11) C dX11_leavesPassive_11 0 rfl ?_
      refine g_get (pc := 12) C (j := 0) hO rfl rfl (by decide) u_852 dX11_leavesPassive_12 ?_
      refine g_bipush (pc := 15) C dX11_leavesPassive_15 (v := nI 32) rfl ?_
      refine g_iload_n (pc := 17) C dX11_leavesPassive_17 1 rfl ?_
      refine g_iadd (pc := 18) C dX11_leavesPassive_18 (z := nI (32 + r)) (nI_add _ _) ?_
      refine g_dup2 (pc := 19) C dX11_leavesPassive_19 rfl rfl ?_
      refine g_iald (pc := 20) C hZ (nI_clamp (by omega)) (nI_in0 (n := 10511) (by omega) (by omega)) dX11_leavesPassive_20 (x := nI (nPa (gN σ r)).length) (RZ.rPn hR (r := r) (by omega) (by omega)) ?_
      refine g_iconst (pc := 21) C dX11_leavesPassive_21 (v := nI 1) rfl ?_
      refine g_isub (pc := 22) C dX11_leavesPassive_22 (z := nI ((nPa (gN σ r)).length - 1)) (pk_sub (by omega)) ?_
      refine g_iast (pc := 23) C hZ (nI_clamp (by omega)) (nI_in0 (n := 10511) (by omega) (by omega)) dX11_leavesPassive_23 ?_
      obtain ⟨Z_2, hZ_2⟩ : ∃ yZ : Nat → Int32, yZ = upd Z (32 + r) (nI ((nPa (gN σ r)).length - 1)) := ⟨_, rfl⟩
      show V K 0 0 P A (va_up g (m + 1) (ai 0 10511 (upd Z (32 + r) (nI ((nPa (gN σ r)).length - 1))))) [(0, .ref (A m)), (1, .int (nI r)), (2, .int (nI q)), (3, .int (nI pk1))] 24 []
      rw [← hZ_2]
      obtain ⟨g_3, hg_3⟩ : ∃ yM : pM, yM = va_up g (m + 1) (ai 0 10511 Z_2) := ⟨_, rfl⟩
      show V K 0 0 P A (va_up g (m + 1) (ai 0 10511 Z_2)) [(0, .ref (A m)), (1, .int (nI r)), (2, .int (nI q)), (3, .int (nI pk1))] 24 []
      rw [← hg_3]
      have h_4 : g_3 m = ob 11 [.ref (A (m + 1)), .int (nI (gZ σ).1), .int (nI (gZ σ).2.1), .int (nI (gZ σ).2.2.1), .int (nI (gZ σ).2.2.2.1), .int (nI (gZ σ).2.2.2.2), .ref (A (m + 2)), .int (nI cs.length), .ref (A (m + 3)), .int (nI lm), .ref (A (m + 4)), .ref (A (m + 5)), .int (nI gm), .ref (A (m + 6)), .ref (A (m + 7)), .ref (A (m + 8))] := by rw [hg_3, va_up_ne _ _ (show m ≠ m + 1 from by omega)]; exact hO
      have h_5 : g_3 (m + 1) = ai 0 10511 Z_2 := by rw [hg_3]; exact va_up_self _ _ _
      refine g_iload_n (pc := 24) C dX11_leavesPassive_24 3 rfl ?_
      refine g_istore (pc := 25) C dX11_leavesPassive_25 (by decide) (lv' := [(0, .ref (A m)), (1, .int (nI r)), (2, .int (nI q)), (3, .int (nI pk1)), (4, .int (nI pk1))]) [1, 2, 3, 4, 0] rfl ?_
      have lp_27 : ∀ (fuel : Nat) (b : Nat) (hb1 : pk1 ≤ b) (hb2 : b < (nPa (gN σ r)).length), (nPa (gN σ r)).length - b < fuel → V K 0 0 P A (va_up g_3 (m + 1) (ai 0 10511 (sh Z_2 (256 + 8 * r + pk1) (256 + 8 * r + b)))) [(0, .ref (A m)), (1, .int (nI r)), (2, .int (nI q)), (3, .int (nI pk1)), (4, .int (nI b))] 27 [] := by
        intro fuel
        induction fuel with
        | zero => intro b hb1 hb2 hμ; exact absurd hμ (Nat.not_lt_zero _)
        | succ fuel ih =>
          intro b hb1 hb2 hμ
          obtain ⟨Y27, hY27⟩ : ∃ yZ : Nat → Int32, yZ = sh Z_2 (256 + 8 * r + pk1) (256 + 8 * r + b) := ⟨_, rfl⟩
          rw [← hY27]
          obtain ⟨gl27, hgl27⟩ : ∃ y : pM, y = va_up g_3 (m + 1) (ai 0 10511 Y27) := ⟨_, rfl⟩
          rw [← hgl27]
          have hfl27 : Fr g_3 gl27 (m + 1) (m + 2) := by rw [hgl27]; exact Fr.up (by omega) (by omega)
          have hz27 : gl27 (m + 1) = ai 0 10511 Y27 := by rw [hgl27]; exact va_up_self _ _ _
          have h_6 := hfl27.at (by omega) h_4
          refine g_iload (pc := 27) C dX11_leavesPassive_27 4 rfl ?_
          refine g_aload_n (pc := 29) C dX11_leavesPassive_29 0 rfl ?_
          refine g_get (pc := 30) C (j := 0) h_6 rfl rfl (by decide) u_852 dX11_leavesPassive_30 ?_
          refine g_bipush (pc := 33) C dX11_leavesPassive_33 (v := nI 32) rfl ?_
          refine g_iload_n (pc := 35) C dX11_leavesPassive_35 1 rfl ?_
          refine g_iadd (pc := 36) C dX11_leavesPassive_36 (z := nI (32 + r)) (nI_add _ _) ?_
          refine g_iald (pc := 37) C hz27 (nI_clamp (by omega)) (nI_in0 (n := 10511) (by omega) (by omega)) dX11_leavesPassive_37 (x := nI ((nPa (gN σ r)).length - 1)) (zsh hY27 (by omega) (zeq hZ_2 (by omega))) ?_
          refine g_icmp_ge (pc := 38) C dX11_leavesPassive_38 (tgt := 81) (by decide) (fun c_38 => ?_) (fun c_38 => ?_)
          ·
            have c_38 : ((nPa (gN σ r)).length - 1) ≤ b := (nI_leI (by omega) (by omega)).mp c_38
            exact g_vret (pc := 81) C R ⟨rfl, rfl, rfl, ⟨_, hz27, by rw [paRem_e hipk_1]; exact RZ.ePa hR hr (by omega) hZ_2 hY27 (by omega)⟩, fun k hk => by rw [hfl27 k (by omega), hg_3, va_up_ne _ _ (by omega)]⟩ (by decide) (by decide) dX11_leavesPassive_81
          ·
            have c_38 : ¬ ((nPa (gN σ r)).length - 1) ≤ b := fun h => c_38 ((nI_leI (a := ((nPa (gN σ r)).length - 1)) (b := b) (by omega) (by omega)).mpr h)
            refine g_aload_n (pc := 41) C dX11_leavesPassive_41 0 rfl ?_
            refine g_get (pc := 42) C (j := 0) h_6 rfl rfl (by decide) u_852 dX11_leavesPassive_42 ?_
            refine g_sipush (pc := 45) C dX11_leavesPassive_45 (v := nI 256) rfl ?_
            refine g_bipush (pc := 48) C dX11_leavesPassive_48 (v := nI 8) rfl ?_
            refine g_iload_n (pc := 50) C dX11_leavesPassive_50 1 rfl ?_
            refine g_imul (pc := 51) C dX11_leavesPassive_51 (z := nI (8 * r)) (pk_mul _ _) ?_
            refine g_iadd (pc := 52) C dX11_leavesPassive_52 (z := nI (256 + 8 * r)) (nI_add _ _) ?_
            refine g_iload (pc := 53) C dX11_leavesPassive_53 4 rfl ?_
            refine g_iadd (pc := 55) C dX11_leavesPassive_55 (z := nI (256 + 8 * r + b)) (nI_add _ _) ?_
            refine g_aload_n (pc := 56) C dX11_leavesPassive_56 0 rfl ?_
            refine g_get (pc := 57) C (j := 0) h_6 rfl rfl (by decide) u_852 dX11_leavesPassive_57 ?_
            refine g_sipush (pc := 60) C dX11_leavesPassive_60 (v := nI 256) rfl ?_
            refine g_bipush (pc := 63) C dX11_leavesPassive_63 (v := nI 8) rfl ?_
            refine g_iload_n (pc := 65) C dX11_leavesPassive_65 1 rfl ?_
            refine g_imul (pc := 66) C dX11_leavesPassive_66 (z := nI (8 * r)) (pk_mul _ _) ?_
            refine g_iadd (pc := 67) C dX11_leavesPassive_67 (z := nI (256 + 8 * r)) (nI_add _ _) ?_
            refine g_iload (pc := 68) C dX11_leavesPassive_68 4 rfl ?_
            refine g_iadd (pc := 70) C dX11_leavesPassive_70 (z := nI (256 + 8 * r + b)) (nI_add _ _) ?_
            refine g_iconst (pc := 71) C dX11_leavesPassive_71 (v := nI 1) rfl ?_
            refine g_iadd (pc := 72) C dX11_leavesPassive_72 (z := nI (256 + 8 * r + b + 1)) (nI_add _ _) ?_
            refine g_iald (pc := 73) C hz27 (nI_clamp (by omega)) (nI_in0 (n := 10511) (by omega) (by omega)) dX11_leavesPassive_73 (x := nI ((nPa (gN σ r)).getD (b + 1) 0)) (zsh hY27 (by omega) (zne hZ_2 (by omega) (RZ.rPa hR (r := r) (k := (b + 1)) (by omega) (by omega) (by omega)))) ?_
            refine g_iast (pc := 74) C hz27 (nI_clamp (by omega)) (nI_in0 (n := 10511) (by omega) (by omega)) dX11_leavesPassive_74 ?_
            obtain ⟨Z_7, hZ_7⟩ : ∃ yZ : Nat → Int32, yZ = upd Y27 (256 + 8 * r + b) (nI ((nPa (gN σ r)).getD (b + 1) 0)) := ⟨_, rfl⟩
            show V K 0 0 P A (va_up gl27 (m + 1) (ai 0 10511 (upd Y27 (256 + 8 * r + b) (nI ((nPa (gN σ r)).getD (b + 1) 0))))) [(0, .ref (A m)), (1, .int (nI r)), (2, .int (nI q)), (3, .int (nI pk1)), (4, .int (nI b))] 75 []
            rw [← hZ_7]
            obtain ⟨g_8, hg_8⟩ : ∃ yM : pM, yM = va_up gl27 (m + 1) (ai 0 10511 Z_7) := ⟨_, rfl⟩
            show V K 0 0 P A (va_up gl27 (m + 1) (ai 0 10511 Z_7)) [(0, .ref (A m)), (1, .int (nI r)), (2, .int (nI q)), (3, .int (nI pk1)), (4, .int (nI b))] 75 []
            rw [← hg_8]
            have h_9 : g_8 m = ob 11 [.ref (A (m + 1)), .int (nI (gZ σ).1), .int (nI (gZ σ).2.1), .int (nI (gZ σ).2.2.1), .int (nI (gZ σ).2.2.2.1), .int (nI (gZ σ).2.2.2.2), .ref (A (m + 2)), .int (nI cs.length), .ref (A (m + 3)), .int (nI lm), .ref (A (m + 4)), .ref (A (m + 5)), .int (nI gm), .ref (A (m + 6)), .ref (A (m + 7)), .ref (A (m + 8))] := by rw [hg_8, va_up_ne _ _ (show m ≠ m + 1 from by omega)]; exact h_6
            have h_10 : g_8 (m + 1) = ai 0 10511 Z_7 := by rw [hg_8]; exact va_up_self _ _ _
            refine g_iinc (pc := 75) C dX11_leavesPassive_75 (by decide) 4 rfl (v := nI (b + 1)) (nI_i1 _) (lv' := [(0, .ref (A m)), (1, .int (nI r)), (2, .int (nI q)), (3, .int (nI pk1)), (4, .int (nI (b + 1)))]) [1, 2, 3, 4, 0] rfl ?_
            refine g_goto (pc := 78) C dX11_leavesPassive_78 (tgt := 27) (by decide) ?_
            rw [show g_8 = va_up g_3 (m + 1) (ai 0 10511 (sh Z_2 (256 + 8 * r + pk1) (256 + 8 * r + (b + 1)))) from by rw [hg_8, hgl27, bx_uu, hZ_7, hY27, zsh_s (256 + 8 * r + b + 1) (256 + 8 * r + (b + 1)) (by omega) (by omega) (by omega) (zne hZ_2 (by omega) (RZ.rPa hR (r := r) (k := b + 1) (by omega) (by omega) (by omega)))]]
            exact ih (b + 1) (by omega) (by omega) (by omega)
      rw [show g_3 = va_up g_3 (m + 1) (ai 0 10511 (sh Z_2 (256 + 8 * r + pk1) (256 + 8 * r + pk1))) from (va_up_id (by rw [h_5, sh_0])).symm]
      exact lp_27 (_ + 1) pk1 (Nat.le_refl _) (by omega) (Nat.lt_succ_self _)
