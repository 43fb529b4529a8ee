-- PART 07: the row of letters (a ring)
/-- the ring's own object and array: place (fi + k) % 500 holds the letter numbered rho k -/
def RO (A : Nat → Nat) (g : pM) (w fi n : Nat) (sp : Int32) (r : Nat → Option Nat) (ρ : Nat → Nat) : Prop :=
  g (w + 3) = ob 5 [.ref (A (w + 4)), .int (nI fi), .int (nI n), .int sp] ∧ g (w + 4) = aq 2 500 r ∧ ∀ k, k < 500 → r ((fi + k) % 500) = some (A (w + 2000 + 3 * ρ k))
def RI (fi n : Nat) (ρ : Nat → Nat) : Prop := fi < 500 ∧ n ≤ 500 ∧ (∀ k, k < 500 → ρ k < 500) ∧ ∀ i j, i < 500 → j < 500 → ρ i = ρ j → i = j
def RLt (A : Nat → Nat) (g : pM) (w : Nat) (L : Nat → Lt) : Prop := ∀ j, j < 500 → LT A g (w + 2000 + 3 * j) (L j)
def ltW (t : Lt) : Prop := t.1 < 16 ∧ t.2.1 < 16 ∧ t.2.2.1 ≤ 12 ∧ t.2.2.2.1 < 2 ^ 31 ∧ t.2.2.2.2.1 < 2 ^ 31
def RW (A : Nat → Nat) (g : pM) (w : Nat) (row : List Lt) (sp : Int32) : Prop :=
  ∃ (fi : Nat) (r : Nat → Option Nat) (ρ : Nat → Nat) (L : Nat → Lt), RI fi row.length ρ ∧ RO A g w fi row.length sp r ρ ∧ RLt A g w L ∧ (∀ k, k < row.length → row[k]? = some (L (ρ k))) ∧ ∀ t ∈ row, ltW t
theorem RO.fr {A : Nat → Nat} {g g' : pM} {w fi n lo hi : Nat} {sp : Int32} {r : Nat → Option Nat} {ρ : Nat → Nat} (h : RO A g w fi n sp r ρ) (hf : Fr g g' lo hi) (hd : hi ≤ w + 3 ∨ w + 5 ≤ lo) : RO A g' w fi n sp r ρ := ⟨hf.at (by omega) h.1, hf.at (by omega) h.2.1, h.2.2⟩
theorem RLt.fr {A : Nat → Nat} {g g' : pM} {w lo hi : Nat} {L : Nat → Lt} (h : RLt A g w L) (hf : Fr g g' lo hi) (hd : hi ≤ w + 2000 ∨ w + 3500 ≤ lo) : RLt A g' w L := fun j hj => (h j hj).fr hf (by omega)
theorem RLt.up {A : Nat → Nat} {g g' : pM} {w j0 : Nat} {L : Nat → Lt} {t : Lt} (h : RLt A g w L) (hf : Fr g g' (w + 2000 + 3 * j0) (w + 2000 + 3 * j0 + 3)) (ht : LT A g' (w + 2000 + 3 * j0) t) : RLt A g' w (va_up L j0 t) := by
  intro j hj
  by_cases e : j = j0
  · subst e
    rw [va_up_self]
    exact ht
  · rw [va_up_ne _ _ e]
    exact (h j hj).fr hf (by omega)
theorem RW.fr {A : Nat → Nat} {g g' : pM} {w lo hi : Nat} {row : List Lt} {sp : Int32} (h : RW A g w row sp) (hf : Fr g g' lo hi) (hd : hi ≤ w + 3 ∨ w + 3500 ≤ lo) : RW A g' w row sp := by
  obtain ⟨fi, r, ρ, L, h1, h2, h3, h4, h5⟩ := h
  exact ⟨fi, r, ρ, L, h1, h2.fr hf (by omega), h3.fr hf (by omega), h4, h5⟩
theorem rem500 {a : Nat} (ha : a < 2 ^ 31) : nI a - nI a / nI 500 * nI 500 = nI (a % 500) := pk_rem ha (by omega) (by omega)
/-- a place in the ring, by its number from the first on -/
theorem RO.pl {A : Nat → Nat} {g : pM} {w fi n : Nat} {sp : Int32} {r : Nat → Option Nat} {ρ : Nat → Nat} (h : RO A g w fi n sp r ρ) {k : Nat} (hk : k < 500) : r ((fi + k) % 500) = some (A (w + 2000 + 3 * ρ k)) := h.2.2 k hk
theorem any_no {row : List Lt} {n s t : Nat} (h : ∀ k q, k < n → row[k]? = some q → ¬ (q.1 = s ∧ q.2.1 = t)) : (row.take n).any (fun q => q.1 == s && q.2.1 == t) = false := by
  rw [List.any_eq_false]
  intro q hq
  obtain ⟨k, hk⟩ := List.mem_iff_getElem?.mp hq
  have hlt := (List.getElem?_eq_some_iff.mp hk).1
  simp only [List.length_take] at hlt
  rw [List.getElem?_take_of_lt (by omega)] at hk
  have := h k q (by omega) hk
  simpa using this
theorem any_yes {row : List Lt} {n s t k : Nat} {q : Lt} (hk : k < n) (hq : row[k]? = some q) (h1 : q.1 = s) (h2 : q.2.1 = t) : (row.take n).any (fun q => q.1 == s && q.2.1 == t) = true := by
  rw [List.any_eq_true]
  refine ⟨q, List.mem_iff_getElem?.mpr ⟨k, ?_⟩, by simp [h1, h2]⟩
  rw [List.getElem?_take_of_lt hk]
  exact hq
-- the ring behind a removal: from i on each letter goes one place down, the one that went stands at the last
def rhoR (ρ : Nat → Nat) (i n : Nat) : Nat → Nat := fun k => if i ≤ k ∧ k + 1 < n then ρ (k + 1) else if k + 1 = n then ρ i else ρ k
theorem rhoR_I {fi n i : Nat} {ρ : Nat → Nat} (h : RI fi n ρ) (hi : i < n) : RI fi (n - 1) (rhoR ρ i n) := by
  obtain ⟨h1, h2, h3, h4⟩ := h
  refine ⟨h1, by omega, fun k hk => ?_, fun a b ha hb e => ?_⟩
  · simp only [rhoR]
    split
    · exact h3 _ (by omega)
    · split
      · exact h3 _ (by omega)
      · exact h3 _ hk
  · simp only [rhoR] at e
    split at e <;> split at e <;> (try split at e) <;> (try split at e) <;> (have := h4 _ _ (by omega) (by omega) e) <;> omega
theorem rhoR_row {row : List Lt} {ρ : Nat → Nat} {L : Nat → Lt} {i : Nat} (hi : i < row.length) (h : ∀ k, k < row.length → row[k]? = some (L (ρ k))) : ∀ k, k < (row.eraseIdx i).length → (row.eraseIdx i)[k]? = some (L (rhoR ρ i row.length k)) := by
  intro k hk
  rw [List.length_eraseIdx_of_lt hi] at hk
  rw [List.getElem?_eraseIdx]
  simp only [rhoR]
  by_cases h2 : k < i
  · rw [if_pos h2, if_neg (by omega), if_neg (by omega)]
    exact h k (by omega)
  · rw [if_neg h2, if_pos (by omega)]
    exact h (k + 1) (by omega)
theorem mod_ne {fi a b : Nat} (ha : a < 500) (hb : b < 500) (h : a ≠ b) : (fi + a) % 500 ≠ (fi + b) % 500 := by omega
/-- while it is shifted, the numbers -/
def rhoM (ρ : Nat → Nat) (i j : Nat) : Nat → Nat := fun k => if i ≤ k ∧ k < j then ρ (k + 1) else ρ k
theorem rhoM_n {ρ : Nat → Nat} {i j : Nat} : rhoM ρ i j (j + 1) = ρ (j + 1) := by
  simp only [rhoM]
  rw [if_neg (by omega)]
theorem rhoM_0 {ρ : Nat → Nat} {i : Nat} : rhoM ρ i i = ρ := by
  funext k
  simp only [rhoM]
  rw [if_neg (by omega)]
/-- counted from the ring's start -/
def rz (ρ : Nat → Nat) (fi : Nat) : Nat → Nat := fun k => ρ ((k + 500 - fi) % 500)
/-- while it is shifted: places i up to j hold what the next ones held -/
def rsh (A : Nat → Nat) (w fi i j : Nat) (ρ : Nat → Nat) (r' : Nat → Option Nat) : Prop := ∀ k, k < 500 → r' ((fi + k) % 500) = some (A (w + 2000 + 3 * rhoM ρ i j k))
theorem rsh_s {r' : Nat → Option Nat} {A : Nat → Nat} {w fi i j : Nat} {ρ : Nat → Nat} (hj : j < 500) (hi : i ≤ j) (h : rsh A w fi i j ρ r') : rsh A w fi i (j + 1) ρ (va_up r' ((fi + j) % 500) (some (A (w + 2000 + 3 * ρ (j + 1))))) := by
  intro k hk
  by_cases e : k = j
  · subst e
    rw [va_up_self]
    simp only [rhoM]
    rw [if_pos (by omega)]
  · rw [va_up_ne _ _ (mod_ne hk hj e), h k hk]
    simp only [rhoM]
    by_cases h2 : i ≤ k ∧ k < j
    · rw [if_pos h2, if_pos (by omega)]
    · rw [if_neg h2, if_neg (by omega)]
theorem rsh_e {r' : Nat → Option Nat} {A : Nat → Nat} {w fi i j n : Nat} {ρ : Nat → Nat} (hn : n ≤ 500) (hin : i < n) (hj : j + 1 = n) (h : rsh A w fi i j ρ r') : ∀ k, k < 500 → va_up r' ((fi + (n - 1)) % 500) (some (A (w + 2000 + 3 * ρ i))) ((fi + k) % 500) = some (A (w + 2000 + 3 * rhoR ρ i n k)) := by
  intro k hk
  simp only [rhoR]
  by_cases e : k = n - 1
  · subst e
    rw [va_up_self, if_neg (by omega), if_pos (by omega)]
  · rw [va_up_ne _ _ (mod_ne hk (by omega) e), h k hk]
    simp only [rhoM]
    by_cases h2 : i ≤ k ∧ k < j
    · rw [if_pos h2, if_pos (by omega)]
    · rw [if_neg h2, if_neg (by omega), if_neg (by omega)]
/-- one on: the first letter goes -/
theorem rot_I {fi n : Nat} {ρ : Nat → Nat} (h : RI fi n ρ) (hn : 0 < n) : RI ((fi + 1) % 500) (n - 1) (fun k => ρ ((k + 1) % 500)) := by
  obtain ⟨h1, h2, h3, h4⟩ := h
  refine ⟨by omega, by omega, fun k hk => h3 _ (by omega), fun a b ha hb e => ?_⟩
  have := h4 _ _ (by omega) (by omega) e
  omega
theorem rot_O {A : Nat → Nat} {w fi : Nat} {r : Nat → Option Nat} {ρ : Nat → Nat} (h : ∀ k, k < 500 → r ((fi + k) % 500) = some (A (w + 2000 + 3 * ρ k))) : ∀ k, k < 500 → r (((fi + 1) % 500 + k) % 500) = some (A (w + 2000 + 3 * ρ ((k + 1) % 500))) := by
  intro k hk
  have e : ((fi + 1) % 500 + k) % 500 = (fi + (k + 1) % 500) % 500 := by omega
  rw [e]
  exact h _ (by omega)
theorem rot_row {row : List Lt} {ρ : Nat → Nat} {L : Nat → Lt} (hn : row.length ≤ 500) (h : ∀ k, k < row.length → row[k]? = some (L (ρ k))) : ∀ k, k < (row.eraseIdx 0).length → (row.eraseIdx 0)[k]? = some (L (ρ ((k + 1) % 500))) := by
  intro k hk
  cases row with
  | nil => simp at hk
  | cons t row =>
    simp only [List.eraseIdx_cons_zero] at hk ⊢
    simp only [List.length_cons] at h hn
    have := h (k + 1) (by omega)
    rw [Nat.mod_eq_of_lt (by omega)]
    simpa using this
/-- the ring counted from its start -/
theorem zero_I {fi n n2 : Nat} {ρ : Nat → Nat} (h : RI fi n ρ) (hn : n2 ≤ 500) : RI 0 n2 (rz ρ fi) := by
  obtain ⟨h1, h2, h3, h4⟩ := h
  refine ⟨by omega, hn, fun k hk => h3 _ (by omega), fun a b ha hb e => ?_⟩
  have := h4 _ _ (by omega) (by omega) e
  omega
theorem zero_O {A : Nat → Nat} {w fi : Nat} {r : Nat → Option Nat} {ρ : Nat → Nat} (hf : fi < 500) (h : ∀ k, k < 500 → r ((fi + k) % 500) = some (A (w + 2000 + 3 * ρ k))) : ∀ k, k < 500 → r ((0 + k) % 500) = some (A (w + 2000 + 3 * rz ρ fi k)) := by
  intro k hk
  have e : (0 + k) % 500 = (fi + (k + 500 - fi) % 500) % 500 := by omega
  rw [e]
  exact h _ (by omega)
-- letters to one go: those that stay come forward
def swp (ρ : Nat → Nat) (a b : Nat) : Nat → Nat := fun k => if k = b then ρ a else if k = a then ρ b else ρ k
theorem swp_I {fi n a b : Nat} {ρ : Nat → Nat} (h : RI fi n ρ) (ha : a < 500) (hb : b < 500) : RI fi n (swp ρ a b) := by
  obtain ⟨h1, h2, h3, h4⟩ := h
  refine ⟨h1, h2, fun k hk => ?_, fun x y hx hy e => ?_⟩
  · simp only [swp]
    split
    · exact h3 _ ha
    · split
      · exact h3 _ hb
      · exact h3 _ hk
  · simp only [swp] at e
    split at e <;> split at e <;> (try split at e) <;> (try split at e) <;> (have := h4 _ _ (by omega) (by omega) e) <;> omega
theorem swp_O {A : Nat → Nat} {w fi a b : Nat} {r : Nat → Option Nat} {ρ : Nat → Nat} (ha : a < 500) (hb : b < 500) (h : ∀ k, k < 500 → r ((fi + k) % 500) = some (A (w + 2000 + 3 * ρ k))) : ∀ k, k < 500 → va_up (va_up r ((fi + b) % 500) (some (A (w + 2000 + 3 * ρ a)))) ((fi + a) % 500) (some (A (w + 2000 + 3 * ρ b))) ((fi + k) % 500) = some (A (w + 2000 + 3 * swp ρ a b k)) := by
  intro k hk
  simp only [swp]
  by_cases e : k = a
  · subst e
    rw [va_up_self]
    by_cases e2 : k = b
    · subst e2; simp
    · rw [if_neg e2, if_pos rfl]
  · rw [va_up_ne _ _ (mod_ne hk ha e)]
    by_cases e2 : k = b
    · subst e2
      rw [va_up_self, if_pos rfl]
    · rw [va_up_ne _ _ (mod_ne hk hb e2), if_neg e2, if_neg e]
      exact h k hk
/-- how far it is: the first n letters that stay -/
def kept1 (row : List Lt) (q i : Nat) : List Lt := (row.take i).filter (fun t => !(t.2.1 == q))
theorem kept1_le (row : List Lt) (q i : Nat) : (kept1 row q i).length ≤ i := Nat.le_trans (List.length_filter_le _ _) (by rw [List.length_take]; omega)
theorem kept1_s {row : List Lt} {q i : Nat} {t : Lt} (h : row[i]? = some t) : kept1 row q (i + 1) = if t.2.1 = q then kept1 row q i else kept1 row q i ++ [t] := by
  have hlt := (List.getElem?_eq_some_iff.mp h).1
  have e : row.take (i + 1) = row.take i ++ [t] := by
    rw [List.take_succ, h]
    rfl
  simp only [kept1, e, List.filter_append]
  by_cases h2 : t.2.1 = q
  · rw [if_pos h2]
    simp [h2]
  · rw [if_neg h2]
    simp [h2]
theorem kept1_all {row : List Lt} {q i : Nat} (h : row.length ≤ i) : kept1 row q i = row.filter (fun t => !(t.2.1 == q)) := by
  simp only [kept1, List.take_of_length_le h]
theorem i32_lt {x y : Int32} (h : ¬ y ≤ x) : x < y := by
  rw [Int32.le_iff_toInt_le] at h
  rw [Int32.lt_iff_toInt_lt]
  omega
/-- letter i can come: none ahead of it has the same sender and receiver -/
def cancome (row : List Lt) (i : Nat) : Bool := match row[i]? with
  | none => false
  | some t => !((row.take i).any (fun q => q.1 == t.1 && q.2.1 == t.2.1))
theorem cancome_of {row : List Lt} {i : Nat} {t : Lt} (h : row[i]? = some t) : cancome row i = !((row.take i).any (fun q => q.1 == t.1 && q.2.1 == t.2.1)) := by simp [cancome, h]
theorem cc_t {b : Bool} (h : ¬ b32 b = 0) : some (Value.int (nI 0)) = some (Value.int (b32 (!b))) := by
  cases b
  · exact absurd rfl h
  · rfl
theorem cc_f {b : Bool} (h : b32 b = 0) : some (Value.int (nI 1)) = some (Value.int (b32 (!b))) := by
  cases b
  · rfl
  · exact absurd h (by decide)
theorem rw_push {A : Nat → Nat} {g : pM} {w fi : Nat} {row : List Lt} {sp : Int32} {r : Nat → Option Nat} {ρ : Nat → Nat} {L : Nat → Lt} {t : Lt} (hn : row.length < 500) (h1 : RI fi (row.length + 1) ρ) (h2 : RO A g w fi (row.length + 1) sp r ρ) (h3 : RLt A g w (va_up L (ρ row.length) t)) (h4 : ∀ k, k < row.length → row[k]? = some (L (ρ k))) (h5 : ∀ t ∈ row, ltW t) (hw : ltW t) : RW A g w (row ++ [t]) sp := by
  refine ⟨fi, r, ρ, _, by simpa using h1, by simpa using h2, h3, fun k hk => ?_, fun q hq => ?_⟩
  · simp only [List.length_append, List.length_singleton] at hk
    by_cases e : k = row.length
    · subst e
      rw [va_up_self]
      simp
    · rw [va_up_ne _ _ (fun q => e (h1.2.2.2 _ _ (by omega) (by omega) q)), List.getElem?_append_left (by omega)]
      exact h4 k (by omega)
  · rcases List.mem_append.mp hq with hq | hq
    · exact h5 q hq
    · simp at hq
      exact hq ▸ hw
theorem kept1_0 (row : List Lt) (q : Nat) : kept1 row q 0 = [] := by simp [kept1]
theorem swp_row {row : List Lt} {q i : Nat} {L : Nat → Lt} {ρ : Nat → Nat} (hr : row[i]? = some (L (ρ i))) (hne : ¬ (L (ρ i)).2.1 = q) (hk : ∀ k, k < (kept1 row q i).length → (kept1 row q i)[k]? = some (L (ρ k))) : ∀ k, k < (kept1 row q (i + 1)).length → (kept1 row q (i + 1))[k]? = some (L (swp ρ (kept1 row q i).length i k)) := by
  intro k hlt
  have hle := kept1_le row q i
  rw [kept1_s hr, if_neg hne] at hlt ⊢
  simp only [List.length_append, List.length_singleton] at hlt
  simp only [swp]
  by_cases e : k = (kept1 row q i).length
  · subst e
    by_cases e2 : (kept1 row q i).length = i
    · rw [if_pos e2, e2]
      simp [e2]
    · rw [if_neg e2, if_pos rfl]
      simp
  · rw [if_neg (by omega), if_neg e, List.getElem?_append_left (by omega)]
    exact hk k (by omega)
theorem kept1_W {row : List Lt} {q i : Nat} (h : ∀ t ∈ row, ltW t) : ∀ t ∈ kept1 row q i, ltW t := fun t ht => h t (List.mem_of_mem_take (List.mem_filter.mp ht).1)
theorem cpy_row {row2 : List Lt} {L : Nat → Lt} {ρ : Nat → Nat} {i : Nat} {t : Lt} (hi : i < 500) (hinj : ∀ a b, a < 500 → b < 500 → ρ a = ρ b → a = b) (hr : row2[i]? = some t) (hk : ∀ k, k < i → row2[k]? = some (L (ρ k))) : ∀ k, k < i + 1 → row2[k]? = some (va_up L (ρ i) t (ρ k)) := by
  intro k hk2
  by_cases e : k = i
  · subst e
    rw [va_up_self]
    exact hr
  · rw [va_up_ne _ _ (fun q => e (hinj _ _ (by omega) hi q))]
    exact hk k (by omega)
abbrev rm_X5_place : Room := { frames := 0, cells := 0, slots := 0, locals := 0 }
theorem Y_X5_place : pY yX5_place cX5_place 2 (Option.some Jvm.ClassFile.FieldType.int) := ⟨u_403, u_404, u_9, u_405⟩
theorem N_X5_place : yX5_place.cls ≠ "java/lang/invoke/MethodHandle" ∧ yX5_place.cls ≠ "java/lang/invoke/VarHandle" ∧ (parseMethodDescriptor yX5_place.desc).map (fun d => d.parameters.length) = some 1 := by decide +kernel
set_option maxRecDepth 20000 in
set_option maxHeartbeats 4000000 in
theorem c_X5_place (A : Nat → Nat) (P : List Nat) (g : pM) (w : Nat) {fi n : Nat} {sp : Int32} (i : Nat) (hi : i < 500) (hfi : fi < 500) (h2 : g (w + 3) = ob 5 [.ref (A (w + 4)), .int (nI fi), .int (nI n), .int sp]) : PM yX5_place cX5_place 2 (Option.some Jvm.ClassFile.FieldType.int) rm_X5_place [.ref (A (w + 3)), .int (nI i)] P A g (fun v g' => v = some (.int (nI ((fi + i) % 500))) ∧ g = g') := by
  refine px_intro (by decide +kernel) (Nat.le_of_ble_eq_true rfl) (fun K sz C R => ?_)
  show V K 0 0 P A g [(0, .ref (A (w + 3))), (1, .int (nI i))] 0 []
  refine g_iload_n (pc := 0) C dX5_place_0 1 rfl ?_
  refine g_if_le (pc := 1) C dX5_place_1 (tgt := 24) (by decide) (fun c_1 => ?_) (fun c_1 => ?_)
  ·
    have c_1 : i ≤ 0 := (nI_leI (by omega) (by omega)).mp c_1
    refine g_aload_n (pc := 24) C dX5_place_24 0 rfl ?_
    refine g_get (pc := 25) C (j := 1) h2 rfl rfl (by decide) u_229 dX5_place_25 ?_
    exact g_iret (pc := 28) C R ⟨rfl, rfl, by rw [show (fi + i) % 500 = fi by omega], rfl⟩ (by decide) (by decide) dX5_place_28
  ·
    have c_1 : ¬ i ≤ 0 := fun h => c_1 ((nI_leI (a := i) (b := 0) (by omega) (by omega)).mpr h)
    refine g_iload_n (pc := 4) C dX5_place_4 1 rfl ?_
    refine g_sipush (pc := 5) C dX5_place_5 (v := nI 500) rfl ?_
    refine g_icmp_ge (pc := 8) C dX5_place_8 (tgt := 24) (by decide) (fun c_8 => ?_) (fun c_8 => ?_)
    ·
      have c_8 : 500 ≤ i := (nI_leI (by omega) (by omega)).mp c_8
      exfalso; omega
    ·
      have c_8 : ¬ 500 ≤ i := fun h => c_8 ((nI_leI (a := 500) (b := i) (by omega) (by omega)).mpr h)
      refine g_aload_n (pc := 11) C dX5_place_11 0 rfl ?_
      refine g_get (pc := 12) C (j := 1) h2 rfl rfl (by decide) u_229 dX5_place_12 ?_
      refine g_iload_n (pc := 15) C dX5_place_15 1 rfl ?_
      refine g_iadd (pc := 16) C dX5_place_16 (z := nI (fi + i)) (nI_add _ _) ?_
      refine g_sipush (pc := 17) C dX5_place_17 (v := nI 500) rfl ?_
      refine g_irem (pc := 20) C dX5_place_20 (by decide) (z := nI ((fi + i) % 500)) (rem500 (by omega)) ?_
      refine g_goto (pc := 21) C dX5_place_21 (tgt := 28) (by decide) ?_
      exact g_iret (pc := 28) C R ⟨rfl, rfl, rfl, rfl⟩ (by decide) (by decide) dX5_place_28
abbrev rm_X5_isLetter : Room := { frames := 0, cells := 0, slots := 0, locals := 0 }
theorem Y_X5_isLetter : pY yX5_isLetter cX5_isLetter 2 (Option.some Jvm.ClassFile.FieldType.boolean) := ⟨u_561, u_562, u_9, u_563⟩
theorem N_X5_isLetter : yX5_isLetter.cls ≠ "java/lang/invoke/MethodHandle" ∧ yX5_isLetter.cls ≠ "java/lang/invoke/VarHandle" ∧ (parseMethodDescriptor yX5_isLetter.desc).map (fun d => d.parameters.length) = some 1 := by decide +kernel
set_option maxRecDepth 20000 in
set_option maxHeartbeats 4000000 in
theorem c_X5_isLetter (A : Nat → Nat) (P : List Nat) (g : pM) (w : Nat) {fi n : Nat} {sp : Int32} {r : Nat → Option Nat} {ρ : Nat → Nat} (x : Int32) (hn : n ≤ 500) (h2 : RO A g w fi n sp r ρ) : PM yX5_isLetter cX5_isLetter 2 (Option.some Jvm.ClassFile.FieldType.boolean) rm_X5_isLetter [.ref (A (w + 3)), .int x] P A g (fun v g' => v = some (.int (b32 (decide (¬ x < 0 ∧ x < nI n)))) ∧ g = g') := by
  refine px_intro (by decide +kernel) (Nat.le_of_ble_eq_true rfl) (fun K sz C R => ?_)
  show V K 0 0 P A g [(0, .ref (A (w + 3))), (1, .int x)] 0 []
  refine g_iload_n (pc := 0) C dX5_isLetter_0 1 rfl ?_
  refine g_if_lt (pc := 1) C dX5_isLetter_1 (tgt := 16) (by decide) (fun c_1 => ?_) (fun c_1 => ?_)
  ·
    refine g_iconst (pc := 16) C dX5_isLetter_16 (v := nI 0) rfl ?_
    exact g_zret (pc := 17) C R (Or.inl rfl) ⟨rfl, rfl, by rw [decide_eq_false (fun q => q.1 c_1)]; rfl, rfl⟩ (by decide) (by decide) dX5_isLetter_17
  ·
    refine g_iload_n (pc := 4) C dX5_isLetter_4 1 rfl ?_
    refine g_aload_n (pc := 5) C dX5_isLetter_5 0 rfl ?_
    refine g_get (pc := 6) C (j := 2) h2.1 rfl rfl (by decide) u_230 dX5_isLetter_6 ?_
    refine g_icmp_ge (pc := 9) C dX5_isLetter_9 (tgt := 16) (by decide) (fun c_9 => ?_) (fun c_9 => ?_)
    ·
      refine g_iconst (pc := 16) C dX5_isLetter_16 (v := nI 0) rfl ?_
      exact g_zret (pc := 17) C R (Or.inl rfl) ⟨rfl, rfl, by rw [decide_eq_false (fun q => i32_nlt c_9 q.2)]; rfl, rfl⟩ (by decide) (by decide) dX5_isLetter_17
    ·
      refine g_iconst (pc := 12) C dX5_isLetter_12 (v := nI 1) rfl ?_
      refine g_goto (pc := 13) C dX5_isLetter_13 (tgt := 17) (by decide) ?_
      exact g_zret (pc := 17) C R (Or.inr rfl) ⟨rfl, rfl, by rw [decide_eq_true ⟨c_1, i32_lt c_9⟩]; rfl, rfl⟩ (by decide) (by decide) dX5_isLetter_17
abbrev rm_X5_at : Room := { frames := 1, cells := 0, slots := 0, locals := 21 }
theorem Y_X5_at : pY yX5_at cX5_at 2 (Option.some (Jvm.ClassFile.FieldType.object "ViewBroadcast$Letter")) := ⟨u_429, u_430, u_9, u_431⟩
theorem N_X5_at : yX5_at.cls ≠ "java/lang/invoke/MethodHandle" ∧ yX5_at.cls ≠ "java/lang/invoke/VarHandle" ∧ (parseMethodDescriptor yX5_at.desc).map (fun d => d.parameters.length) = some 1 := by decide +kernel
set_option maxRecDepth 20000 in
set_option maxHeartbeats 4000000 in
theorem c_X5_at (A : Nat → Nat) (P : List Nat) (g : pM) (w : Nat) {fi n : Nat} {sp : Int32} {r : Nat → Option Nat} {ρ : Nat → Nat} (i : Nat) (hi : i < 500) (hfi : fi < 500) (h2 : RO A g w fi n sp r ρ) : PM yX5_at cX5_at 2 (Option.some (Jvm.ClassFile.FieldType.object "ViewBroadcast$Letter")) rm_X5_at [.ref (A (w + 3)), .int (nI i)] P A g (fun v g' => v = some (.ref (A (w + 2000 + 3 * ρ i))) ∧ g = g') := by
  refine px_intro (by decide +kernel) (Nat.le_of_ble_eq_true rfl) (fun K sz C R => ?_)
  show V K 0 0 P A g [(0, .ref (A (w + 3))), (1, .int (nI i))] 0 []
  refine g_aload_n (pc := 0) C dX5_at_0 0 rfl ?_
  refine g_get (pc := 1) C (j := 0) h2.1 rfl rfl (by decide) u_228 dX5_at_1 ?_
  refine g_aload_n (pc := 4) C dX5_at_4 0 rfl ?_
  refine g_iload_n (pc := 5) C dX5_at_5 1 rfl ?_
  refine g_callV (pc := 6) C (As := [.int (nI i)]) (rest := [.ref (A (w + 4))]) (b := (w + 3)) (c_X5_place A P g w i (by omega) hfi h2.1) h2.1 rfl rfl Y_X5_place u_402 N_X5_place ⟨by decide, by decide⟩ ⟨by decide, by decide⟩ (Nat.le_of_ble_eq_true rfl) rfl dX5_at_6 ?_
  rintro _ _ _ _ ⟨rfl, rfl, rfl, rfl⟩
  show V K 0 0 P A g [(0, .ref (A (w + 3))), (1, .int (nI i))] 9 [.int (nI ((fi + i) % 500)), .ref (A (w + 4))]
  refine g_aldq (pc := 9) C h2.2.1 (fun _ => rfl) (nI_clamp (by omega)) (nI_in0 (by omega) (by omega)) dX5_at_9 (x := A (w + 2000 + 3 * ρ i)) (h2.pl (by omega)) ?_
  exact g_aret (pc := 10) C R (Or.inr ⟨_, rfl⟩) ⟨rfl, rfl, ⟨rfl, rfl⟩⟩ (by decide) (by decide) dX5_at_10
abbrev rm_X5_hasAhead : Room := { frames := 2, cells := 0, slots := 0, locals := 42 }
theorem Y_X5_hasAhead : pY yX5_hasAhead cX5_hasAhead 6 (Option.some Jvm.ClassFile.FieldType.boolean) := ⟨u_445, u_446, u_9, u_447⟩
theorem N_X5_hasAhead : yX5_hasAhead.cls ≠ "java/lang/invoke/MethodHandle" ∧ yX5_hasAhead.cls ≠ "java/lang/invoke/VarHandle" ∧ (parseMethodDescriptor yX5_hasAhead.desc).map (fun d => d.parameters.length) = some 3 := by decide +kernel
set_option maxRecDepth 20000 in
set_option maxHeartbeats 4000000 in
theorem c_X5_hasAhead (A : Nat → Nat) (P : List Nat) (g : pM) (w : Nat) {row : List Lt} {sp : Int32} (n s t : Nat) (hnn : n < 2 ^ 31) (hs : s < 16) (ht : t < 16) (h : RW A g w row sp) : PM yX5_hasAhead cX5_hasAhead 6 (Option.some Jvm.ClassFile.FieldType.boolean) rm_X5_hasAhead [.ref (A (w + 3)), .int (nI n), .int (nI s), .int (nI t)] P A g (fun v g' => v = some (.int (b32 ((row.take n).any (fun q => q.1 == s && q.2.1 == t)))) ∧ g = g') := by
  have hRW := h
  obtain ⟨fi, r, ρ, L, h1, h2, h3, h4, h5⟩ := h
  have hfi : fi < 500 := h1.1
  have hn : row.length ≤ 500 := h1.2.1
  refine px_intro (by decide +kernel) (Nat.le_of_ble_eq_true rfl) (fun K sz C R => ?_)
  show V K 0 0 P A g [(0, .ref (A (w + 3))), (1, .int (nI n)), (2, .int (nI s)), (3, .int (nI t))] 0 []
  refine g_iconst (pc := 0) C dX5_hasAhead_0 (v := nI 0) rfl ?_
  refine g_istore (pc := 1) C dX5_hasAhead_1 (by decide) (lv' := [(0, .ref (A (w + 3))), (1, .int (nI n)), (2, .int (nI s)), (3, .int (nI t)), (4, .int (nI 0))]) [1, 2, 3, 4, 0] rfl ?_
  have lp_3 : ∀ (fuel : Nat) (i : Nat) (hi : i ≤ row.length) (hq : ∀ k q, k < i → row[k]? = some q → ¬ (q.1 = s ∧ q.2.1 = t)), row.length - i < fuel → V K 0 0 P A g [(0, .ref (A (w + 3))), (1, .int (nI n)), (2, .int (nI s)), (3, .int (nI t)), (4, .int (nI i))] 3 [] := by
    intro fuel
    induction fuel with
    | zero => intro i hi hq hμ; exact absurd hμ (Nat.not_lt_zero _)
    | succ fuel ih =>
      intro i hi hq hμ
      refine g_iload (pc := 3) C dX5_hasAhead_3 4 rfl ?_
      refine g_iload_n (pc := 5) C dX5_hasAhead_5 1 rfl ?_
      refine g_icmp_ge (pc := 6) C dX5_hasAhead_6 (tgt := 52) (by decide) (fun c_6 => ?_) (fun c_6 => ?_)
      ·
        have c_6 : n ≤ i := (nI_leI (by omega) (by omega)).mp c_6
        refine g_iconst (pc := 52) C dX5_hasAhead_52 (v := nI 0) rfl ?_
        exact g_zret (pc := 53) C R (Or.inl rfl) ⟨rfl, rfl, by rw [any_no (fun k q hk hkq => hq k q (by omega) hkq)]; rfl, rfl⟩ (by decide) (by decide) dX5_hasAhead_53
      ·
        have c_6 : ¬ n ≤ i := fun h => c_6 ((nI_leI (a := n) (b := i) (by omega) (by omega)).mpr h)
        refine g_iload (pc := 9) C dX5_hasAhead_9 4 rfl ?_
        refine g_aload_n (pc := 11) C dX5_hasAhead_11 0 rfl ?_
        refine g_get (pc := 12) C (j := 2) h2.1 rfl rfl (by decide) u_230 dX5_hasAhead_12 ?_
        refine g_icmp_ge (pc := 15) C dX5_hasAhead_15 (tgt := 52) (by decide) (fun c_15 => ?_) (fun c_15 => ?_)
        ·
          have c_15 : row.length ≤ i := (nI_leI (by omega) (by omega)).mp c_15
          refine g_iconst (pc := 52) C dX5_hasAhead_52 (v := nI 0) rfl ?_
          exact g_zret (pc := 53) C R (Or.inl rfl) ⟨rfl, rfl, by rw [any_no (fun k q hk hkq => hq k q (by have := (List.getElem?_eq_some_iff.mp hkq).1; omega) hkq)]; rfl, rfl⟩ (by decide) (by decide) dX5_hasAhead_53
        ·
          have c_15 : ¬ row.length ≤ i := fun h => c_15 ((nI_leI (a := row.length) (b := i) (by omega) (by omega)).mpr h)
          have hlw := h5 _ (List.mem_of_getElem? (h4 i (by omega)))
          have hlw1 := hlw.1
          have hlw2 := hlw.2.1
          refine g_aload_n (pc := 18) C dX5_hasAhead_18 0 rfl ?_
          refine g_iload (pc := 19) C dX5_hasAhead_19 4 rfl ?_
          refine g_callV (pc := 21) C (As := [.int (nI i)]) (rest := []) (b := (w + 3)) (c_X5_at A P g w i (by omega) hfi h2) h2.1 rfl rfl Y_X5_at u_428 N_X5_at ⟨by decide, by decide⟩ ⟨by decide, by decide⟩ (Nat.le_of_ble_eq_true rfl) rfl dX5_hasAhead_21 ?_
          rintro _ _ _ _ ⟨rfl, rfl, rfl, rfl⟩
          show V K 0 0 P A g [(0, .ref (A (w + 3))), (1, .int (nI n)), (2, .int (nI s)), (3, .int (nI t)), (4, .int (nI i))] 24 [.ref (A (w + 2000 + 3 * ρ i))]
          refine g_astore (pc := 24) C dX5_hasAhead_24 (by decide) (lv' := [(0, .ref (A (w + 3))), (1, .int (nI n)), (2, .int (nI s)), (3, .int (nI t)), (4, .int (nI i)), (5, .ref (A (w + 2000 + 3 * ρ i)))]) [1, 2, 3, 4, 5, 0] rfl ?_
          refine g_aload (pc := 26) C dX5_hasAhead_26 5 rfl ?_
          refine g_get (pc := 28) C (j := 0) (h3 (ρ i) (h1.2.2.1 _ (by omega))).1 rfl rfl (by decide) u_195 dX5_hasAhead_28 ?_
          refine g_iload_n (pc := 31) C dX5_hasAhead_31 2 rfl ?_
          refine g_icmp_ne (pc := 32) C dX5_hasAhead_32 (tgt := 46) (by decide) (fun c_32 => ?_) (fun c_32 => ?_)
          ·
            have c_32 : ¬ (L (ρ i)).1 = s := fun h => c_32 ((nI_eq (a := (L (ρ i)).1) (b := s) (by omega) (by omega)).mpr h)
            refine g_iinc (pc := 46) C dX5_hasAhead_46 (by decide) 4 rfl (v := nI (i + 1)) (nI_i1 _) (lv' := [(0, .ref (A (w + 3))), (1, .int (nI n)), (2, .int (nI s)), (3, .int (nI t)), (4, .int (nI (i + 1))), (5, .ref (A (w + 2000 + 3 * ρ i)))]) [1, 2, 3, 4, 0, 5] rfl ?_
            refine g_goto (pc := 49) C dX5_hasAhead_49 (tgt := 3) (by decide) ?_
            refine g_sub [0, 1, 2, 3, 4] rfl ?_
            exact ih (i + 1) (by omega) (fun k q hk hkq => by rcases Nat.lt_succ_iff_lt_or_eq.mp hk with e | e; exact hq k q e hkq; subst e; rw [h4 k (by omega)] at hkq; cases hkq; exact fun e => c_32 e.1) (by omega)
          ·
            have c_32 : (L (ρ i)).1 = s := (nI_eq (by omega) (by omega)).mp c_32
            refine g_aload (pc := 35) C dX5_hasAhead_35 5 rfl ?_
            refine g_get (pc := 37) C (j := 1) (h3 (ρ i) (h1.2.2.1 _ (by omega))).1 rfl rfl (by decide) u_199 dX5_hasAhead_37 ?_
            refine g_iload_n (pc := 40) C dX5_hasAhead_40 3 rfl ?_
            refine g_icmp_ne (pc := 41) C dX5_hasAhead_41 (tgt := 46) (by decide) (fun c_41 => ?_) (fun c_41 => ?_)
            ·
              have c_41 : ¬ (L (ρ i)).2.1 = t := fun h => c_41 ((nI_eq (a := (L (ρ i)).2.1) (b := t) (by omega) (by omega)).mpr h)
              refine g_iinc (pc := 46) C dX5_hasAhead_46 (by decide) 4 rfl (v := nI (i + 1)) (nI_i1 _) (lv' := [(0, .ref (A (w + 3))), (1, .int (nI n)), (2, .int (nI s)), (3, .int (nI t)), (4, .int (nI (i + 1))), (5, .ref (A (w + 2000 + 3 * ρ i)))]) [1, 2, 3, 4, 0, 5] rfl ?_
              refine g_goto (pc := 49) C dX5_hasAhead_49 (tgt := 3) (by decide) ?_
              refine g_sub [0, 1, 2, 3, 4] rfl ?_
              exact ih (i + 1) (by omega) (fun k q hk hkq => by rcases Nat.lt_succ_iff_lt_or_eq.mp hk with e | e; exact hq k q e hkq; subst e; rw [h4 k (by omega)] at hkq; cases hkq; exact fun e => c_41 e.2) (by omega)
            ·
              have c_41 : (L (ρ i)).2.1 = t := (nI_eq (by omega) (by omega)).mp c_41
              refine g_iconst (pc := 44) C dX5_hasAhead_44 (v := nI 1) rfl ?_
              exact g_zret (pc := 45) C R (Or.inr rfl) ⟨rfl, rfl, by rw [any_yes (k := i) (by omega) (h4 i (by omega)) c_32 c_41]; rfl, rfl⟩ (by decide) (by decide) dX5_hasAhead_45
  exact lp_3 (_ + 1) 0 (Nat.zero_le _) (fun k q hk => absurd hk (Nat.not_lt_zero k)) (Nat.lt_succ_self _)
abbrev rm_X5_canCome : Room := { frames := 3, cells := 0, slots := 0, locals := 67 }
theorem Y_X5_canCome : pY yX5_canCome cX5_canCome 3 (Option.some Jvm.ClassFile.FieldType.boolean) := ⟨u_565, u_566, u_9, u_567⟩
theorem N_X5_canCome : yX5_canCome.cls ≠ "java/lang/invoke/MethodHandle" ∧ yX5_canCome.cls ≠ "java/lang/invoke/VarHandle" ∧ (parseMethodDescriptor yX5_canCome.desc).map (fun d => d.parameters.length) = some 1 := by decide +kernel
set_option maxRecDepth 20000 in
set_option maxHeartbeats 4000000 in
theorem c_X5_canCome (A : Nat → Nat) (P : List Nat) (g : pM) (w : Nat) {row : List Lt} {sp : Int32} (i : Nat) (hi : i < row.length) (h : RW A g w row sp) : PM yX5_canCome cX5_canCome 3 (Option.some Jvm.ClassFile.FieldType.boolean) rm_X5_canCome [.ref (A (w + 3)), .int (nI i)] P A g (fun v g' => v = some (.int (b32 (cancome row i))) ∧ g = g') := by
  have hRW := h
  obtain ⟨fi, r, ρ, L, h1, h2, h3, h4, h5⟩ := h
  have hfi : fi < 500 := h1.1
  have hn : row.length ≤ 500 := h1.2.1
  have hlw := h5 _ (List.mem_of_getElem? (h4 i hi))
  have hlw1 := hlw.1
  have hlw2 := hlw.2.1
  refine px_intro (by decide +kernel) (Nat.le_of_ble_eq_true rfl) (fun K sz C R => ?_)
  show V K 0 0 P A g [(0, .ref (A (w + 3))), (1, .int (nI i))] 0 []
  refine g_aload_n (pc := 0) C dX5_canCome_0 0 rfl ?_
  refine g_iload_n (pc := 1) C dX5_canCome_1 1 rfl ?_
  refine g_callV (pc := 2) C (As := [.int (nI i)]) (rest := []) (b := (w + 3)) (c_X5_at A P g w i (by omega) hfi h2) h2.1 rfl rfl Y_X5_at u_428 N_X5_at ⟨by decide, by decide⟩ ⟨by decide, by decide⟩ (Nat.le_of_ble_eq_true rfl) rfl dX5_canCome_2 ?_
  rintro _ _ _ _ ⟨rfl, rfl, rfl, rfl⟩
  show V K 0 0 P A g [(0, .ref (A (w + 3))), (1, .int (nI i))] 5 [.ref (A (w + 2000 + 3 * ρ i))]
  refine g_astore_n (pc := 5) C dX5_canCome_5 (by decide) (lv' := [(0, .ref (A (w + 3))), (1, .int (nI i)), (2, .ref (A (w + 2000 + 3 * ρ i)))]) [1, 2, 0] rfl ?_
  refine g_aload_n (pc := 6) C dX5_canCome_6 0 rfl ?_
  refine g_iload_n (pc := 7) C dX5_canCome_7 1 rfl ?_
  refine g_aload_n (pc := 8) C dX5_canCome_8 2 rfl ?_
  refine g_get (pc := 9) C (j := 0) (h3 (ρ i) (h1.2.2.1 _ (by omega))).1 rfl rfl (by decide) u_195 dX5_canCome_9 ?_
  refine g_aload_n (pc := 12) C dX5_canCome_12 2 rfl ?_
  refine g_get (pc := 13) C (j := 1) (h3 (ρ i) (h1.2.2.1 _ (by omega))).1 rfl rfl (by decide) u_199 dX5_canCome_13 ?_
  refine g_callV (pc := 16) C (As := [.int (nI i), .int (nI (L (ρ i)).1), .int (nI (L (ρ i)).2.1)]) (rest := []) (b := (w + 3)) (c_X5_hasAhead A P g w i (L (ρ i)).1 (L (ρ i)).2.1 (by omega) (by omega) (by omega) hRW) h2.1 rfl rfl Y_X5_hasAhead u_568 N_X5_hasAhead ⟨by decide, by decide⟩ ⟨by decide, by decide⟩ (Nat.le_of_ble_eq_true rfl) rfl dX5_canCome_16 ?_
  rintro _ _ _ _ ⟨rfl, rfl, rfl, rfl⟩
  show V K 0 0 P A g [(0, .ref (A (w + 3))), (1, .int (nI i)), (2, .ref (A (w + 2000 + 3 * ρ i)))] 19 [.int (b32 ((row.take i).any (fun q => q.1 == (L (ρ i)).1 && q.2.1 == (L (ρ i)).2.1)))]
  refine g_if_ne (pc := 19) C dX5_canCome_19 (tgt := 26) (by decide) (fun c_19 => ?_) (fun c_19 => ?_)
  ·
    refine g_iconst (pc := 26) C dX5_canCome_26 (v := nI 0) rfl ?_
    exact g_zret (pc := 27) C R (Or.inl rfl) ⟨rfl, rfl, by rw [cancome_of (h4 i hi)]; exact cc_t c_19, rfl⟩ (by decide) (by decide) dX5_canCome_27
  ·
    refine g_iconst (pc := 22) C dX5_canCome_22 (v := nI 1) rfl ?_
    refine g_goto (pc := 23) C dX5_canCome_23 (tgt := 27) (by decide) ?_
    exact g_zret (pc := 27) C R (Or.inr rfl) ⟨rfl, rfl, by rw [cancome_of (h4 i hi)]; exact cc_f c_19, rfl⟩ (by decide) (by decide) dX5_canCome_27
abbrev rm_X5_open : Room := { frames := 1, cells := 0, slots := 0, locals := 21 }
theorem Y_X5_open : pY yX5_open cX5_open 1 (Option.some (Jvm.ClassFile.FieldType.object "ViewBroadcast$Letter")) := ⟨u_399, u_400, u_9, u_401⟩
theorem N_X5_open : yX5_open.cls ≠ "java/lang/invoke/MethodHandle" ∧ yX5_open.cls ≠ "java/lang/invoke/VarHandle" ∧ (parseMethodDescriptor yX5_open.desc).map (fun d => d.parameters.length) = some 0 := by decide +kernel
set_option maxRecDepth 20000 in
set_option maxHeartbeats 4000000 in
theorem c_X5_open (A : Nat → Nat) (P : List Nat) (g : pM) (w : Nat) {row : List Lt} {sp : Int32} (h : RW A g w row sp) : PM yX5_open cX5_open 1 (Option.some (Jvm.ClassFile.FieldType.object "ViewBroadcast$Letter")) rm_X5_open [.ref (A (w + 3))] P A g (fun v g' => Fr g g' (w + 3) (w + 4) ∧ ((500 ≤ row.length ∧ v = some .null ∧ RW A g' w row (sp + 1)) ∨ (row.length < 500 ∧ ∃ j t0, j < 500 ∧ v = some (.ref (A (w + 2000 + 3 * j))) ∧ LT A g' (w + 2000 + 3 * j) t0 ∧ ∀ g2 t, Fr g' g2 (w + 2000 + 3 * j) (w + 2000 + 3 * j + 3) → LT A g2 (w + 2000 + 3 * j) t → ltW t → RW A g2 w (row ++ [t]) sp))) := by
  have hRW := h
  obtain ⟨fi, r, ρ, L, h1, h2, h3, h4, h5⟩ := h
  have hfi : fi < 500 := h1.1
  have hn : row.length ≤ 500 := h1.2.1
  refine px_intro (by decide +kernel) (Nat.le_of_ble_eq_true rfl) (fun K sz C R => ?_)
  show V K 0 0 P A g [(0, .ref (A (w + 3)))] 0 []
  refine g_aload_n (pc := 0) C dX5_open_0 0 rfl ?_
  refine g_get (pc := 1) C (j := 2) h2.1 rfl rfl (by decide) u_230 dX5_open_1 ?_
  refine g_sipush (pc := 4) C dX5_open_4 (v := nI 500) rfl ?_
  refine g_icmp_lt (pc := 7) C dX5_open_7 (tgt := 22) (by decide) (fun c_7 => ?_) (fun c_7 => ?_)
  ·
    have c_7 : row.length < 500 := (nI_ltI (by omega) (by omega)).mp c_7
    refine g_aload_n (pc := 22) C dX5_open_22 0 rfl ?_
    refine g_dup (pc := 23) C dX5_open_23 rfl ?_
    refine g_get (pc := 24) C (j := 2) h2.1 rfl rfl (by decide) u_230 dX5_open_24 ?_
    refine g_iconst (pc := 27) C dX5_open_27 (v := nI 1) rfl ?_
    refine g_iadd (pc := 28) C dX5_open_28 (z := nI (row.length + 1)) (nI_add _ _) ?_
    refine g_put (pc := 29) C (j := 2) h2.1 rfl (by decide) (Nat.le_of_ble_eq_true rfl) u_230 rfl pfd_I rfl rfl dX5_open_29 ?_
    obtain ⟨g_1, hg_1⟩ : ∃ yM : pM, yM = va_up g (w + 3) (ob 5 [.ref (A (w + 4)), .int (nI fi), .int (nI (row.length + 1)), .int sp]) := ⟨_, rfl⟩
    show V K 0 0 P A (va_up g (w + 3) (ob 5 [.ref (A (w + 4)), .int (nI fi), .int (nI (row.length + 1)), .int sp])) [(0, .ref (A (w + 3)))] 32 []
    rw [← hg_1]
    have h_2 : g_1 (w + 3) = ob 5 [.ref (A (w + 4)), .int (nI fi), .int (nI (row.length + 1)), .int sp] := by rw [hg_1]; exact va_up_self _ _ _
    have h_3 : g_1 (w + 4) = aq 2 500 r := by rw [hg_1, va_up_ne _ _ (show w + 4 ≠ w + 3 from by omega)]; exact h2.2.1
    have hO2 : RO A g_1 w fi (row.length + 1) sp r ρ := ⟨h_2, h_3, h2.2.2⟩
    have h12 : RI fi (row.length + 1) ρ := ⟨h1.1, by omega, h1.2.2⟩
    refine g_aload_n (pc := 32) C dX5_open_32 0 rfl ?_
    refine g_get (pc := 33) C (j := 0) hO2.1 rfl rfl (by decide) u_228 dX5_open_33 ?_
    refine g_aload_n (pc := 36) C dX5_open_36 0 rfl ?_
    refine g_aload_n (pc := 37) C dX5_open_37 0 rfl ?_
    refine g_get (pc := 38) C (j := 2) hO2.1 rfl rfl (by decide) u_230 dX5_open_38 ?_
    refine g_iconst (pc := 41) C dX5_open_41 (v := nI 1) rfl ?_
    refine g_isub (pc := 42) C dX5_open_42 (z := nI row.length) (by rw [pk_sub (by omega)]; rfl) ?_
    refine g_callV (pc := 43) C (As := [.int (nI row.length)]) (rest := [.ref (A (w + 4))]) (b := (w + 3)) (c_X5_place A P g_1 w row.length (by omega) hfi hO2.1) hO2.1 rfl rfl Y_X5_place u_402 N_X5_place ⟨by decide, by decide⟩ ⟨by decide, by decide⟩ (Nat.le_of_ble_eq_true rfl) rfl dX5_open_43 ?_
    rintro _ _ _ _ ⟨rfl, rfl, rfl, rfl⟩
    show V K 0 0 P A g_1 [(0, .ref (A (w + 3)))] 46 [.int (nI ((fi + row.length) % 500)), .ref (A (w + 4))]
    refine g_aldq (pc := 46) C hO2.2.1 (fun _ => rfl) (nI_clamp (by omega)) (nI_in0 (by omega) (by omega)) dX5_open_46 (x := A (w + 2000 + 3 * ρ row.length)) (h2.pl (by omega)) ?_
    exact g_aret (pc := 47) C R (Or.inr ⟨_, rfl⟩) ⟨rfl, rfl, by rw [hg_1]; exact Fr.up (by omega) (by omega), Or.inr ⟨c_7, ρ row.length, L (ρ row.length), h1.2.2.1 _ c_7, rfl, (h3 _ (h1.2.2.1 _ c_7)).fr (show Fr g g_1 (w + 3) (w + 4) from by rw [hg_1]; exact Fr.up (by omega) (by omega)) (by omega), fun g2 t hf ht hw => rw_push c_7 h12 (hO2.fr hf (by omega)) ((h3.fr (show Fr g g_1 (w + 3) (w + 4) from by rw [hg_1]; exact Fr.up (by omega) (by omega)) (by omega)).up hf ht) h4 h5 hw⟩⟩ (by decide) (by decide) dX5_open_47
  ·
    have c_7 : ¬ row.length < 500 := fun h => c_7 ((nI_ltI (a := row.length) (b := 500) (by omega) (by omega)).mpr h)
    have c_7 : 500 ≤ row.length := by omega
    refine g_aload_n (pc := 10) C dX5_open_10 0 rfl ?_
    refine g_dup (pc := 11) C dX5_open_11 rfl ?_
    refine g_get (pc := 12) C (j := 3) h2.1 rfl rfl (by decide) u_233 dX5_open_12 ?_
    refine g_iconst (pc := 15) C dX5_open_15 (v := nI 1) rfl ?_
    refine g_iadd (pc := 16) C dX5_open_16 (z := sp + (nI 1)) rfl ?_
    refine g_put (pc := 17) C (j := 3) h2.1 rfl (by decide) (Nat.le_of_ble_eq_true rfl) u_233 rfl pfd_I rfl rfl dX5_open_17 ?_
    obtain ⟨g_4, hg_4⟩ : ∃ yM : pM, yM = va_up g (w + 3) (ob 5 [.ref (A (w + 4)), .int (nI fi), .int (nI row.length), .int (sp + (nI 1))]) := ⟨_, rfl⟩
    show V K 0 0 P A (va_up g (w + 3) (ob 5 [.ref (A (w + 4)), .int (nI fi), .int (nI row.length), .int (sp + (nI 1))])) [(0, .ref (A (w + 3)))] 20 []
    rw [← hg_4]
    have h_5 : g_4 (w + 3) = ob 5 [.ref (A (w + 4)), .int (nI fi), .int (nI row.length), .int (sp + (nI 1))] := by rw [hg_4]; exact va_up_self _ _ _
    have h_6 : g_4 (w + 4) = aq 2 500 r := by rw [hg_4, va_up_ne _ _ (show w + 4 ≠ w + 3 from by omega)]; exact h2.2.1
    refine g_null (pc := 20) C dX5_open_20 ?_
    exact g_aret (pc := 21) C R (Or.inl rfl) ⟨rfl, rfl, by rw [hg_4]; exact Fr.up (by omega) (by omega), Or.inl ⟨c_7, rfl, fi, r, ρ, L, h1, ⟨h_5, h_6, h2.2.2⟩, h3.fr (show Fr g g_4 (w + 3) (w + 4) from by rw [hg_4]; exact Fr.up (by omega) (by omega)) (by omega), h4, h5⟩⟩ (by decide) (by decide) dX5_open_21
abbrev rm_X5_removeAt : Room := { frames := 2, cells := 0, slots := 0, locals := 42 }
theorem Y_X5_removeAt : pY yX5_removeAt cX5_removeAt 4 (Option.none : Option Jvm.ClassFile.FieldType) := ⟨u_585, u_586, u_9, u_587⟩
theorem N_X5_removeAt : yX5_removeAt.cls ≠ "java/lang/invoke/MethodHandle" ∧ yX5_removeAt.cls ≠ "java/lang/invoke/VarHandle" ∧ (parseMethodDescriptor yX5_removeAt.desc).map (fun d => d.parameters.length) = some 1 := by decide +kernel
set_option maxRecDepth 20000 in
set_option maxHeartbeats 4000000 in
theorem c_X5_removeAt (A : Nat → Nat) (P : List Nat) (g : pM) (w : Nat) {row : List Lt} {sp : Int32} (i : Nat) (hi : i < row.length) (h : RW A g w row sp) : PM yX5_removeAt cX5_removeAt 4 (Option.none : Option Jvm.ClassFile.FieldType) rm_X5_removeAt [.ref (A (w + 3)), .int (nI i)] P A g (fun v g' => v = none ∧ RW A g' w (row.eraseIdx i) sp ∧ Fr g g' (w + 3) (w + 5)) := by
  have hRW := h
  obtain ⟨fi, r, ρ, L, h1, h2, h3, h4, h5⟩ := h
  have hfi : fi < 500 := h1.1
  have hn : row.length ≤ 500 := h1.2.1
  refine px_intro (by decide +kernel) (Nat.le_of_ble_eq_true rfl) (fun K sz C R => ?_)
  show V K 0 0 P A g [(0, .ref (A (w + 3))), (1, .int (nI i))] 0 []
  refine g_aload_n (pc := 0) C dX5_removeAt_0 0 rfl ?_
  refine g_iload_n (pc := 1) C dX5_removeAt_1 1 rfl ?_
  refine g_callV (pc := 2) C (As := [.int (nI i)]) (rest := []) (b := (w + 3)) (c_X5_isLetter A P g w (nI i) hn h2) h2.1 rfl rfl Y_X5_isLetter u_588 N_X5_isLetter ⟨by decide, by decide⟩ ⟨by decide, by decide⟩ (Nat.le_of_ble_eq_true rfl) rfl dX5_removeAt_2 ?_
  rintro _ _ _ _ ⟨rfl, rfl, rfl, rfl⟩
  show V K 0 0 P A g [(0, .ref (A (w + 3))), (1, .int (nI i))] 5 [.int (b32 (decide (¬ nI i < 0 ∧ nI i < nI row.length)))]
  refine g_if_ne (pc := 5) C dX5_removeAt_5 (tgt := 9) (by decide) (fun c_5 => ?_) (fun c_5 => ?_)
  ·
    refine g_iload_n (pc := 9) C dX5_removeAt_9 1 rfl ?_
    refine g_if_ne (pc := 10) C dX5_removeAt_10 (tgt := 25) (by decide) (fun c_10 => ?_) (fun c_10 => ?_)
    ·
      have c_10 : ¬ i = 0 := fun h => c_10 ((nI_eq (a := i) (b := 0) (by omega) (by omega)).mpr h)
      refine g_aload_n (pc := 25) C dX5_removeAt_25 0 rfl ?_
      refine g_iload_n (pc := 26) C dX5_removeAt_26 1 rfl ?_
      refine g_callV (pc := 27) C (As := [.int (nI i)]) (rest := []) (b := (w + 3)) (c_X5_at A P g w i (by omega) hfi h2) h2.1 rfl rfl Y_X5_at u_428 N_X5_at ⟨by decide, by decide⟩ ⟨by decide, by decide⟩ (Nat.le_of_ble_eq_true rfl) rfl dX5_removeAt_27 ?_
      rintro _ _ _ _ ⟨rfl, rfl, rfl, rfl⟩
      show V K 0 0 P A g [(0, .ref (A (w + 3))), (1, .int (nI i))] 30 [.ref (A (w + 2000 + 3 * ρ i))]
      refine g_astore_n (pc := 30) C dX5_removeAt_30 (by decide) (lv' := [(0, .ref (A (w + 3))), (1, .int (nI i)), (2, .ref (A (w + 2000 + 3 * ρ i)))]) [1, 2, 0] rfl ?_
      refine g_iload_n (pc := 31) C dX5_removeAt_31 1 rfl ?_
      refine g_istore_n (pc := 32) C dX5_removeAt_32 (by decide) (lv' := [(0, .ref (A (w + 3))), (1, .int (nI i)), (2, .ref (A (w + 2000 + 3 * ρ i))), (3, .int (nI i))]) [1, 2, 3, 0] rfl ?_
      have lp_33 : ∀ (fuel : Nat) (j : Nat) (hij : i ≤ j) (hjn : j < row.length) (r' : Nat → Option Nat) (hsh : rsh A w fi i j ρ r'), row.length - j < fuel → V K 0 0 P A (va_up g (w + 4) (aq 2 500 r')) [(0, .ref (A (w + 3))), (1, .int (nI i)), (2, .ref (A (w + 2000 + 3 * ρ i))), (3, .int (nI j))] 33 [] := by
        intro fuel
        induction fuel with
        | zero => intro j hij hjn r' hsh hμ; exact absurd hμ (Nat.not_lt_zero _)
        | succ fuel ih =>
          intro j hij hjn r' hsh hμ
          obtain ⟨gl, hgl⟩ : ∃ yM : pM, yM = va_up g (w + 4) (aq 2 500 r') := ⟨_, rfl⟩
          rw [← hgl]
          have hfl : Fr g gl (w + 4) (w + 5) := by rw [hgl]; exact Fr.up (by omega) (by omega)
          have hOl : RO A gl w fi row.length sp r' (rhoM ρ i j) := ⟨hfl.at (by omega) h2.1, by rw [hgl]; exact va_up_self _ _ _, hsh⟩
          have h3l := h3.fr hfl (by omega)
          refine g_iload_n (pc := 33) C dX5_removeAt_33 3 rfl ?_
          refine g_iconst (pc := 34) C dX5_removeAt_34 (v := nI 1) rfl ?_
          refine g_iadd (pc := 35) C dX5_removeAt_35 (z := nI (j + 1)) (nI_add _ _) ?_
          refine g_aload_n (pc := 36) C dX5_removeAt_36 0 rfl ?_
          refine g_get (pc := 37) C (j := 2) hOl.1 rfl rfl (by decide) u_230 dX5_removeAt_37 ?_
          refine g_icmp_ge (pc := 40) C dX5_removeAt_40 (tgt := 66) (by decide) (fun c_40 => ?_) (fun c_40 => ?_)
          ·
            have c_40 : row.length ≤ (j + 1) := (nI_leI (by omega) (by omega)).mp c_40
            refine g_aload_n (pc := 66) C dX5_removeAt_66 0 rfl ?_
            refine g_get (pc := 67) C (j := 0) hOl.1 rfl rfl (by decide) u_228 dX5_removeAt_67 ?_
            refine g_aload_n (pc := 70) C dX5_removeAt_70 0 rfl ?_
            refine g_aload_n (pc := 71) C dX5_removeAt_71 0 rfl ?_
            refine g_get (pc := 72) C (j := 2) hOl.1 rfl rfl (by decide) u_230 dX5_removeAt_72 ?_
            refine g_iconst (pc := 75) C dX5_removeAt_75 (v := nI 1) rfl ?_
            refine g_isub (pc := 76) C dX5_removeAt_76 (z := nI (row.length - 1)) (pk_sub (by omega)) ?_
            refine g_callV (pc := 77) C (As := [.int (nI (row.length - 1))]) (rest := [.ref (A (w + 4))]) (b := (w + 3)) (c_X5_place A P gl w (row.length - 1) (by omega) hfi hOl.1) hOl.1 rfl rfl Y_X5_place u_402 N_X5_place ⟨by decide, by decide⟩ ⟨by decide, by decide⟩ (Nat.le_of_ble_eq_true rfl) rfl dX5_removeAt_77 ?_
            rintro _ _ _ _ ⟨rfl, rfl, rfl, rfl⟩
            show V K 0 0 P A gl [(0, .ref (A (w + 3))), (1, .int (nI i)), (2, .ref (A (w + 2000 + 3 * ρ i))), (3, .int (nI j))] 80 [.int (nI ((fi + (row.length - 1)) % 500)), .ref (A (w + 4))]
            refine g_aload_n (pc := 80) C dX5_removeAt_80 2 rfl ?_
            refine g_astq (pc := 81) C hOl.2.1 (h3l (ρ i) (h1.2.2.1 _ (by omega))).1 rfl (fun _ => rfl) (nI_clamp (by omega)) (nI_in0 (n := 500) (by omega) (by omega)) dX5_removeAt_81 ?_
            obtain ⟨g_1, hg_1⟩ : ∃ yM : pM, yM = va_up gl (w + 4) (aq 2 500 (va_up r' ((fi + (row.length - 1)) % 500) (some (A (w + 2000 + 3 * ρ i))))) := ⟨_, rfl⟩
            show V K 0 0 P A (va_up gl (w + 4) (aq 2 500 (va_up r' ((fi + (row.length - 1)) % 500) (some (A (w + 2000 + 3 * ρ i)))))) [(0, .ref (A (w + 3))), (1, .int (nI i)), (2, .ref (A (w + 2000 + 3 * ρ i))), (3, .int (nI j))] 82 []
            rw [← hg_1]
            have h_2 : g_1 (w + 3) = ob 5 [.ref (A (w + 4)), .int (nI fi), .int (nI row.length), .int sp] := by rw [hg_1, va_up_ne _ _ (show w + 3 ≠ w + 4 from by omega)]; exact hOl.1
            have h_3 : g_1 (w + 4) = aq 2 500 (va_up r' ((fi + (row.length - 1)) % 500) (some (A (w + 2000 + 3 * ρ i)))) := by rw [hg_1]; exact va_up_self _ _ _
            have hf_4 : Fr gl g_1 (w + 4) (w + 4 + 1) := by rw [hg_1]; exact Fr.up (by omega) (by omega)
            have hp_5 := LT.fr (h3l (ρ i) (h1.2.2.1 _ (by omega))) hf_4 (by omega)
            refine g_aload_n (pc := 82) C dX5_removeAt_82 0 rfl ?_
            refine g_dup (pc := 83) C dX5_removeAt_83 rfl ?_
            refine g_get (pc := 84) C (j := 2) h_2 rfl rfl (by decide) u_230 dX5_removeAt_84 ?_
            refine g_iconst (pc := 87) C dX5_removeAt_87 (v := nI 1) rfl ?_
            refine g_isub (pc := 88) C dX5_removeAt_88 (z := nI (row.length - 1)) (pk_sub (by omega)) ?_
            refine g_put (pc := 89) C (j := 2) h_2 rfl (by decide) (Nat.le_of_ble_eq_true rfl) u_230 rfl pfd_I rfl rfl dX5_removeAt_89 ?_
            obtain ⟨g_6, hg_6⟩ : ∃ yM : pM, yM = va_up g_1 (w + 3) (ob 5 [.ref (A (w + 4)), .int (nI fi), .int (nI (row.length - 1)), .int sp]) := ⟨_, rfl⟩
            show V K 0 0 P A (va_up g_1 (w + 3) (ob 5 [.ref (A (w + 4)), .int (nI fi), .int (nI (row.length - 1)), .int sp])) [(0, .ref (A (w + 3))), (1, .int (nI i)), (2, .ref (A (w + 2000 + 3 * ρ i))), (3, .int (nI j))] 92 []
            rw [← hg_6]
            have h_7 : g_6 (w + 3) = ob 5 [.ref (A (w + 4)), .int (nI fi), .int (nI (row.length - 1)), .int sp] := by rw [hg_6]; exact va_up_self _ _ _
            have h_8 : g_6 (w + 4) = aq 2 500 (va_up r' ((fi + (row.length - 1)) % 500) (some (A (w + 2000 + 3 * ρ i)))) := by rw [hg_6, va_up_ne _ _ (show w + 4 ≠ w + 3 from by omega)]; exact h_3
            have hf_9 : Fr g_1 g_6 (w + 3) (w + 3 + 1) := by rw [hg_6]; exact Fr.up (by omega) (by omega)
            have hp_10 := LT.fr hp_5 hf_9 (by omega)
            exact g_vret (pc := 92) C R ⟨rfl, rfl, rfl, ⟨fi, _, rhoR ρ i row.length, L, by rw [List.length_eraseIdx_of_lt hi]; exact rhoR_I h1 hi, ⟨by rw [h_7, List.length_eraseIdx_of_lt hi], h_8, rsh_e hn hi (by omega) hsh⟩, h3l.fr (show Fr gl _ (w + 3) (w + 5) from fun k hk => by rw [hg_6, va_up_ne _ _ (by omega), hg_1, va_up_ne _ _ (by omega)]) (by omega), rhoR_row hi h4, fun t ht => h5 t (List.mem_of_mem_eraseIdx ht)⟩, (hfl.mo (by omega) (by omega)).tr (show Fr gl _ (w + 3) (w + 5) from fun k hk => by rw [hg_6, va_up_ne _ _ (by omega), hg_1, va_up_ne _ _ (by omega)])⟩ (by decide) (by decide) dX5_removeAt_92
          ·
            have c_40 : ¬ row.length ≤ (j + 1) := fun h => c_40 ((nI_leI (a := row.length) (b := (j + 1)) (by omega) (by omega)).mpr h)
            refine g_aload_n (pc := 43) C dX5_removeAt_43 0 rfl ?_
            refine g_get (pc := 44) C (j := 0) hOl.1 rfl rfl (by decide) u_228 dX5_removeAt_44 ?_
            refine g_aload_n (pc := 47) C dX5_removeAt_47 0 rfl ?_
            refine g_iload_n (pc := 48) C dX5_removeAt_48 3 rfl ?_
            refine g_callV (pc := 49) C (As := [.int (nI j)]) (rest := [.ref (A (w + 4))]) (b := (w + 3)) (c_X5_place A P gl w j (by omega) hfi hOl.1) hOl.1 rfl rfl Y_X5_place u_402 N_X5_place ⟨by decide, by decide⟩ ⟨by decide, by decide⟩ (Nat.le_of_ble_eq_true rfl) rfl dX5_removeAt_49 ?_
            rintro _ _ _ _ ⟨rfl, rfl, rfl, rfl⟩
            show V K 0 0 P A gl [(0, .ref (A (w + 3))), (1, .int (nI i)), (2, .ref (A (w + 2000 + 3 * ρ i))), (3, .int (nI j))] 52 [.int (nI ((fi + j) % 500)), .ref (A (w + 4))]
            refine g_aload_n (pc := 52) C dX5_removeAt_52 0 rfl ?_
            refine g_iload_n (pc := 53) C dX5_removeAt_53 3 rfl ?_
            refine g_iconst (pc := 54) C dX5_removeAt_54 (v := nI 1) rfl ?_
            refine g_iadd (pc := 55) C dX5_removeAt_55 (z := nI (j + 1)) (nI_add _ _) ?_
            refine g_callV (pc := 56) C (As := [.int (nI (j + 1))]) (rest := [.int (nI ((fi + j) % 500)), .ref (A (w + 4))]) (b := (w + 3)) (c_X5_at A P gl w (j + 1) (by omega) hfi hOl) hOl.1 rfl rfl Y_X5_at u_428 N_X5_at ⟨by decide, by decide⟩ ⟨by decide, by decide⟩ (Nat.le_of_ble_eq_true rfl) rfl dX5_removeAt_56 ?_
            rintro _ _ _ _ ⟨rfl, rfl, rfl, rfl⟩
            rw [rhoM_n]
            show V K 0 0 P A gl [(0, .ref (A (w + 3))), (1, .int (nI i)), (2, .ref (A (w + 2000 + 3 * ρ i))), (3, .int (nI j))] 59 [.ref (A (w + 2000 + 3 * ρ (j + 1))), .int (nI ((fi + j) % 500)), .ref (A (w + 4))]
            refine g_astq (pc := 59) C hOl.2.1 (h3l (ρ (j + 1)) (h1.2.2.1 _ (by omega))).1 rfl (fun _ => rfl) (nI_clamp (by omega)) (nI_in0 (n := 500) (by omega) (by omega)) dX5_removeAt_59 ?_
            obtain ⟨g_11, hg_11⟩ : ∃ yM : pM, yM = va_up gl (w + 4) (aq 2 500 (va_up r' ((fi + j) % 500) (some (A (w + 2000 + 3 * ρ (j + 1)))))) := ⟨_, rfl⟩
            show V K 0 0 P A (va_up gl (w + 4) (aq 2 500 (va_up r' ((fi + j) % 500) (some (A (w + 2000 + 3 * ρ (j + 1))))))) [(0, .ref (A (w + 3))), (1, .int (nI i)), (2, .ref (A (w + 2000 + 3 * ρ i))), (3, .int (nI j))] 60 []
            rw [← hg_11]
            have h_12 : g_11 (w + 3) = ob 5 [.ref (A (w + 4)), .int (nI fi), .int (nI row.length), .int sp] := by rw [hg_11, va_up_ne _ _ (show w + 3 ≠ w + 4 from by omega)]; exact hOl.1
            have h_13 : g_11 (w + 4) = aq 2 500 (va_up r' ((fi + j) % 500) (some (A (w + 2000 + 3 * ρ (j + 1))))) := by rw [hg_11]; exact va_up_self _ _ _
            have hf_14 : Fr gl g_11 (w + 4) (w + 4 + 1) := by rw [hg_11]; exact Fr.up (by omega) (by omega)
            have hp_15 := LT.fr (h3l (ρ (j + 1)) (h1.2.2.1 _ (by omega))) hf_14 (by omega)
            have hp_16 := LT.fr (h3l (ρ i) (h1.2.2.1 _ (by omega))) hf_14 (by omega)
            refine g_iinc (pc := 60) C dX5_removeAt_60 (by decide) 3 rfl (v := nI (j + 1)) (nI_i1 _) (lv' := [(0, .ref (A (w + 3))), (1, .int (nI i)), (2, .ref (A (w + 2000 + 3 * ρ i))), (3, .int (nI (j + 1)))]) [1, 2, 3, 0] rfl ?_
            refine g_goto (pc := 63) C dX5_removeAt_63 (tgt := 33) (by decide) ?_
            rw [show g_11 = va_up g (w + 4) (aq 2 500 (va_up r' ((fi + j) % 500) (some (A (w + 2000 + 3 * ρ (j + 1)))))) from by rw [hg_11, hgl, bx_uu]]
            exact ih (j + 1) (by omega) (by omega) _ (rsh_s (by omega) hij hsh) (by omega)
      rw [show g = va_up g (w + 4) (aq 2 500 r) from (va_up_id h2.2.1).symm]
      exact lp_33 (_ + 1) i (Nat.le_refl _) hi r (by intro k hk; rw [rhoM_0]; exact h2.2.2 k hk) (Nat.lt_succ_self _)
    ·
      have c_10 : i = 0 := (nI_eq (by omega) (by omega)).mp c_10
      refine g_aload_n (pc := 13) C dX5_removeAt_13 0 rfl ?_
      refine g_aload_n (pc := 14) C dX5_removeAt_14 0 rfl ?_
      refine g_iconst (pc := 15) C dX5_removeAt_15 (v := nI 1) rfl ?_
      refine g_callV (pc := 16) C (As := [.int (nI 1)]) (rest := [.ref (A (w + 3))]) (b := (w + 3)) (c_X5_place A P g w 1 (by omega) hfi h2.1) h2.1 rfl rfl Y_X5_place u_402 N_X5_place ⟨by decide, by decide⟩ ⟨by decide, by decide⟩ (Nat.le_of_ble_eq_true rfl) rfl dX5_removeAt_16 ?_
      rintro _ _ _ _ ⟨rfl, rfl, rfl, rfl⟩
      show V K 0 0 P A g [(0, .ref (A (w + 3))), (1, .int (nI i))] 19 [.int (nI ((fi + 1) % 500)), .ref (A (w + 3))]
      refine g_put (pc := 19) C (j := 1) h2.1 rfl (by decide) (Nat.le_of_ble_eq_true rfl) u_229 rfl pfd_I rfl rfl dX5_removeAt_19 ?_
      obtain ⟨g_17, hg_17⟩ : ∃ yM : pM, yM = va_up g (w + 3) (ob 5 [.ref (A (w + 4)), .int (nI ((fi + 1) % 500)), .int (nI row.length), .int sp]) := ⟨_, rfl⟩
      show V K 0 0 P A (va_up g (w + 3) (ob 5 [.ref (A (w + 4)), .int (nI ((fi + 1) % 500)), .int (nI row.length), .int sp])) [(0, .ref (A (w + 3))), (1, .int (nI i))] 22 []
      rw [← hg_17]
      have h_18 : g_17 (w + 3) = ob 5 [.ref (A (w + 4)), .int (nI ((fi + 1) % 500)), .int (nI row.length), .int sp] := by rw [hg_17]; exact va_up_self _ _ _
      have h_19 : g_17 (w + 4) = aq 2 500 r := by rw [hg_17, va_up_ne _ _ (show w + 4 ≠ w + 3 from by omega)]; exact h2.2.1
      have hf_20 : Fr g g_17 (w + 3) (w + 3 + 1) := by rw [hg_17]; exact Fr.up (by omega) (by omega)
      have hp_21 := LT.fr (h3 (ρ i) (h1.2.2.1 _ (by omega))) hf_20 (by omega)
      refine g_goto (pc := 22) C dX5_removeAt_22 (tgt := 82) (by decide) ?_
      refine g_aload_n (pc := 82) C dX5_removeAt_82 0 rfl ?_
      refine g_dup (pc := 83) C dX5_removeAt_83 rfl ?_
      refine g_get (pc := 84) C (j := 2) h_18 rfl rfl (by decide) u_230 dX5_removeAt_84 ?_
      refine g_iconst (pc := 87) C dX5_removeAt_87 (v := nI 1) rfl ?_
      refine g_isub (pc := 88) C dX5_removeAt_88 (z := nI (row.length - 1)) (pk_sub (by omega)) ?_
      refine g_put (pc := 89) C (j := 2) h_18 rfl (by decide) (Nat.le_of_ble_eq_true rfl) u_230 rfl pfd_I rfl rfl dX5_removeAt_89 ?_
      obtain ⟨g_22, hg_22⟩ : ∃ yM : pM, yM = va_up g_17 (w + 3) (ob 5 [.ref (A (w + 4)), .int (nI ((fi + 1) % 500)), .int (nI (row.length - 1)), .int sp]) := ⟨_, rfl⟩
      show V K 0 0 P A (va_up g_17 (w + 3) (ob 5 [.ref (A (w + 4)), .int (nI ((fi + 1) % 500)), .int (nI (row.length - 1)), .int sp])) [(0, .ref (A (w + 3))), (1, .int (nI i))] 92 []
      rw [← hg_22]
      have h_23 : g_22 (w + 3) = ob 5 [.ref (A (w + 4)), .int (nI ((fi + 1) % 500)), .int (nI (row.length - 1)), .int sp] := by rw [hg_22]; exact va_up_self _ _ _
      have h_24 : g_22 (w + 4) = aq 2 500 r := by rw [hg_22, va_up_ne _ _ (show w + 4 ≠ w + 3 from by omega)]; exact h_19
      have hf_25 : Fr g_17 g_22 (w + 3) (w + 3 + 1) := by rw [hg_22]; exact Fr.up (by omega) (by omega)
      have hp_26 := LT.fr hp_21 hf_25 (by omega)
      exact g_vret (pc := 92) C R ⟨rfl, rfl, rfl, ⟨(fi + 1) % 500, r, _, L, by rw [List.length_eraseIdx_of_lt hi]; exact rot_I h1 (by omega), ⟨by rw [h_23, List.length_eraseIdx_of_lt hi], h_24, rot_O h2.2.2⟩, h3.fr (show Fr g _ (w + 3) (w + 5) from fun k hk => by rw [hg_22, va_up_ne _ _ (by omega), hg_17, va_up_ne _ _ (by omega)]) (by omega), by subst c_10; exact rot_row hn h4, fun t ht => h5 t (List.mem_of_mem_eraseIdx ht)⟩, fun k hk => by rw [hg_22, va_up_ne _ _ (by omega), hg_17, va_up_ne _ _ (by omega)]⟩ (by decide) (by decide) dX5_removeAt_92
  ·
    exact absurd c_5 (by rw [decide_eq_true ⟨nI_pos (by omega), (nI_ltI (by omega) (by omega)).mpr hi⟩]; decide)
abbrev rm_X5_removeTo : Room := { frames := 2, cells := 0, slots := 0, locals := 42 }
theorem Y_X5_removeTo : pY yX5_removeTo cX5_removeTo 5 (Option.some Jvm.ClassFile.FieldType.int) := ⟨u_425, u_426, u_9, u_427⟩
theorem N_X5_removeTo : yX5_removeTo.cls ≠ "java/lang/invoke/MethodHandle" ∧ yX5_removeTo.cls ≠ "java/lang/invoke/VarHandle" ∧ (parseMethodDescriptor yX5_removeTo.desc).map (fun d => d.parameters.length) = some 1 := by decide +kernel
set_option maxRecDepth 20000 in
set_option maxHeartbeats 4000000 in
theorem c_X5_removeTo (A : Nat → Nat) (P : List Nat) (g : pM) (w : Nat) {row : List Lt} {sp : Int32} (q : Nat) (hq : q < 16) (h : RW A g w row sp) : PM yX5_removeTo cX5_removeTo 5 (Option.some Jvm.ClassFile.FieldType.int) rm_X5_removeTo [.ref (A (w + 3)), .int (nI q)] P A g (fun v g' => v = some (.int (nI (row.length - (row.filter (fun t => !(t.2.1 == q))).length))) ∧ RW A g' w (row.filter (fun t => !(t.2.1 == q))) sp ∧ Fr g g' (w + 3) (w + 5)) := by
  have hRW := h
  obtain ⟨fi, r, ρ, L, h1, h2, h3, h4, h5⟩ := h
  have hfi : fi < 500 := h1.1
  have hn : row.length ≤ 500 := h1.2.1
  refine px_intro (by decide +kernel) (Nat.le_of_ble_eq_true rfl) (fun K sz C R => ?_)
  show V K 0 0 P A g [(0, .ref (A (w + 3))), (1, .int (nI q))] 0 []
  refine g_iconst (pc := 0) C dX5_removeTo_0 (v := nI 0) rfl ?_
  refine g_istore_n (pc := 1) C dX5_removeTo_1 (by decide) (lv' := [(0, .ref (A (w + 3))), (1, .int (nI q)), (2, .int (nI 0))]) [1, 2, 0] rfl ?_
  refine g_iconst (pc := 2) C dX5_removeTo_2 (v := nI 0) rfl ?_
  refine g_istore_n (pc := 3) C dX5_removeTo_3 (by decide) (lv' := [(0, .ref (A (w + 3))), (1, .int (nI q)), (2, .int (nI 0)), (3, .int (nI 0))]) [1, 2, 3, 0] rfl ?_
  have lp_4 : ∀ (fuel : Nat) (i : Nat) (hi : i ≤ row.length) (r' : Nat → Option Nat) (ρ' : Nat → Nat) (hI : RI fi row.length ρ') (hO : ∀ k, k < 500 → r' ((fi + k) % 500) = some (A (w + 2000 + 3 * ρ' k))) (hk : ∀ k, k < (kept1 row q i).length → (kept1 row q i)[k]? = some (L (ρ' k))) (hu : ∀ k, i ≤ k → k < 500 → ρ' k = ρ k), row.length - i < fuel → V K 0 0 P A (va_up g (w + 4) (aq 2 500 r')) [(0, .ref (A (w + 3))), (1, .int (nI q)), (2, .int (nI (kept1 row q i).length)), (3, .int (nI i))] 4 [] := by
    intro fuel
    induction fuel with
    | zero => intro i hi r' ρ' hI hO hk hu hμ; exact absurd hμ (Nat.not_lt_zero _)
    | succ fuel ih =>
      intro i hi r' ρ' hI hO hk hu hμ
      obtain ⟨gl, hgl⟩ : ∃ yM : pM, yM = va_up g (w + 4) (aq 2 500 r') := ⟨_, rfl⟩
      rw [← hgl]
      have hfl : Fr g gl (w + 4) (w + 5) := by rw [hgl]; exact Fr.up (by omega) (by omega)
      have hOl : RO A gl w fi row.length sp r' ρ' := ⟨hfl.at (by omega) h2.1, by rw [hgl]; exact va_up_self _ _ _, hO⟩
      have h3l := h3.fr hfl (by omega)
      have hkl := kept1_le row q i
      refine g_iload_n (pc := 4) C dX5_removeTo_4 3 rfl ?_
      refine g_aload_n (pc := 5) C dX5_removeTo_5 0 rfl ?_
      refine g_get (pc := 6) C (j := 2) hOl.1 rfl rfl (by decide) u_230 dX5_removeTo_6 ?_
      refine g_icmp_ge (pc := 9) C dX5_removeTo_9 (tgt := 64) (by decide) (fun c_9 => ?_) (fun c_9 => ?_)
      ·
        have c_9 : row.length ≤ i := (nI_leI (by omega) (by omega)).mp c_9
        refine g_aload_n (pc := 64) C dX5_removeTo_64 0 rfl ?_
        refine g_get (pc := 65) C (j := 2) hOl.1 rfl rfl (by decide) u_230 dX5_removeTo_65 ?_
        refine g_iload_n (pc := 68) C dX5_removeTo_68 2 rfl ?_
        refine g_isub (pc := 69) C dX5_removeTo_69 (z := nI (row.length - (kept1 row q i).length)) (pk_sub (by omega)) ?_
        refine g_istore_n (pc := 70) C dX5_removeTo_70 (by decide) (lv' := [(0, .ref (A (w + 3))), (1, .int (nI q)), (2, .int (nI (kept1 row q i).length)), (3, .int (nI (row.length - (kept1 row q i).length)))]) [1, 2, 3, 0] rfl ?_
        refine g_aload_n (pc := 71) C dX5_removeTo_71 0 rfl ?_
        refine g_iload_n (pc := 72) C dX5_removeTo_72 2 rfl ?_
        refine g_put (pc := 73) C (j := 2) hOl.1 rfl (by decide) (Nat.le_of_ble_eq_true rfl) u_230 rfl pfd_I rfl rfl dX5_removeTo_73 ?_
        obtain ⟨g_1, hg_1⟩ : ∃ yM : pM, yM = va_up gl (w + 3) (ob 5 [.ref (A (w + 4)), .int (nI fi), .int (nI (kept1 row q i).length), .int sp]) := ⟨_, rfl⟩
        show V K 0 0 P A (va_up gl (w + 3) (ob 5 [.ref (A (w + 4)), .int (nI fi), .int (nI (kept1 row q i).length), .int sp])) [(0, .ref (A (w + 3))), (1, .int (nI q)), (2, .int (nI (kept1 row q i).length)), (3, .int (nI (row.length - (kept1 row q i).length)))] 76 []
        rw [← hg_1]
        have h_2 : g_1 (w + 3) = ob 5 [.ref (A (w + 4)), .int (nI fi), .int (nI (kept1 row q i).length), .int sp] := by rw [hg_1]; exact va_up_self _ _ _
        have h_3 : g_1 (w + 4) = aq 2 500 r' := by rw [hg_1, va_up_ne _ _ (show w + 4 ≠ w + 3 from by omega)]; exact hOl.2.1
        refine g_iload_n (pc := 76) C dX5_removeTo_76 3 rfl ?_
        exact g_iret (pc := 77) C R ⟨rfl, rfl, by rw [← kept1_all (show row.length ≤ i by omega)], ⟨fi, r', ρ', L, by rw [← kept1_all (show row.length ≤ i by omega)]; exact ⟨hI.1, by omega, hI.2.2⟩, ⟨by rw [h_2, ← kept1_all (show row.length ≤ i by omega)], h_3, hO⟩, h3l.fr (show Fr gl _ (w + 3) (w + 5) from fun k hk => by rw [hg_1, va_up_ne _ _ (by omega)]) (by omega), by rw [← kept1_all (show row.length ≤ i by omega)]; exact hk, by rw [← kept1_all (show row.length ≤ i by omega)]; exact kept1_W h5⟩, (hfl.mo (by omega) (by omega)).tr (show Fr gl _ (w + 3) (w + 5) from fun k hk => by rw [hg_1, va_up_ne _ _ (by omega)])⟩ (by decide) (by decide) dX5_removeTo_77
      ·
        have c_9 : ¬ row.length ≤ i := fun h => c_9 ((nI_leI (a := row.length) (b := i) (by omega) (by omega)).mpr h)
        refine g_aload_n (pc := 12) C dX5_removeTo_12 0 rfl ?_
        refine g_iload_n (pc := 13) C dX5_removeTo_13 3 rfl ?_
        refine g_callV (pc := 14) C (As := [.int (nI i)]) (rest := []) (b := (w + 3)) (c_X5_at A P gl w i (by omega) hfi hOl) hOl.1 rfl rfl Y_X5_at u_428 N_X5_at ⟨by decide, by decide⟩ ⟨by decide, by decide⟩ (Nat.le_of_ble_eq_true rfl) rfl dX5_removeTo_14 ?_
        rintro _ _ _ _ ⟨rfl, rfl, rfl, rfl⟩
        show V K 0 0 P A gl [(0, .ref (A (w + 3))), (1, .int (nI q)), (2, .int (nI (kept1 row q i).length)), (3, .int (nI i))] 17 [.ref (A (w + 2000 + 3 * ρ' i))]
        refine g_astore (pc := 17) C dX5_removeTo_17 (by decide) (lv' := [(0, .ref (A (w + 3))), (1, .int (nI q)), (2, .int (nI (kept1 row q i).length)), (3, .int (nI i)), (4, .ref (A (w + 2000 + 3 * ρ' i)))]) [1, 2, 3, 4, 0] rfl ?_
        refine g_aload (pc := 19) C dX5_removeTo_19 4 rfl ?_
        refine g_get (pc := 21) C (j := 1) (h3l (ρ' i) (hI.2.2.1 _ (by omega))).1 rfl rfl (by decide) u_199 dX5_removeTo_21 ?_
        have hri : row[i]? = some (L (ρ' i)) := by rw [hu i (Nat.le_refl _) (by omega)]; exact h4 i (by omega)
        have hlw := (h5 _ (List.mem_of_getElem? hri)).2.1
        refine g_iload_n (pc := 24) C dX5_removeTo_24 1 rfl ?_
        refine g_icmp_eq (pc := 25) C dX5_removeTo_25 (tgt := 58) (by decide) (fun c_25 => ?_) (fun c_25 => ?_)
        ·
          have c_25 : (L (ρ' i)).2.1 = q := (nI_eq (by omega) (by omega)).mp c_25
          refine g_iinc (pc := 58) C dX5_removeTo_58 (by decide) 3 rfl (v := nI (i + 1)) (nI_i1 _) (lv' := [(0, .ref (A (w + 3))), (1, .int (nI q)), (2, .int (nI (kept1 row q i).length)), (3, .int (nI (i + 1))), (4, .ref (A (w + 2000 + 3 * ρ' i)))]) [1, 2, 3, 0, 4] rfl ?_
          refine g_goto (pc := 61) C dX5_removeTo_61 (tgt := 4) (by decide) ?_
          refine g_sub [0, 1, 2, 3] rfl ?_
          have hks : kept1 row q (i + 1) = kept1 row q i := by rw [kept1_s hri, if_pos c_25]
          rw [hgl]
          rw [← hks]
          exact ih (i + 1) (by omega) r' ρ' hI hO (by rw [hks]; exact hk) (fun k h1 h2 => hu k (by omega) h2) (by omega)
        ·
          have c_25 : ¬ (L (ρ' i)).2.1 = q := fun h => c_25 ((nI_eq (a := (L (ρ' i)).2.1) (b := q) (by omega) (by omega)).mpr h)
          refine g_aload_n (pc := 28) C dX5_removeTo_28 0 rfl ?_
          refine g_get (pc := 29) C (j := 0) hOl.1 rfl rfl (by decide) u_228 dX5_removeTo_29 ?_
          refine g_aload_n (pc := 32) C dX5_removeTo_32 0 rfl ?_
          refine g_iload_n (pc := 33) C dX5_removeTo_33 3 rfl ?_
          refine g_callV (pc := 34) C (As := [.int (nI i)]) (rest := [.ref (A (w + 4))]) (b := (w + 3)) (c_X5_place A P gl w i (by omega) hfi hOl.1) hOl.1 rfl rfl Y_X5_place u_402 N_X5_place ⟨by decide, by decide⟩ ⟨by decide, by decide⟩ (Nat.le_of_ble_eq_true rfl) rfl dX5_removeTo_34 ?_
          rintro _ _ _ _ ⟨rfl, rfl, rfl, rfl⟩
          show V K 0 0 P A gl [(0, .ref (A (w + 3))), (1, .int (nI q)), (2, .int (nI (kept1 row q i).length)), (3, .int (nI i)), (4, .ref (A (w + 2000 + 3 * ρ' i)))] 37 [.int (nI ((fi + i) % 500)), .ref (A (w + 4))]
          refine g_aload_n (pc := 37) C dX5_removeTo_37 0 rfl ?_
          refine g_iload_n (pc := 38) C dX5_removeTo_38 2 rfl ?_
          refine g_callV (pc := 39) C (As := [.int (nI (kept1 row q i).length)]) (rest := [.int (nI ((fi + i) % 500)), .ref (A (w + 4))]) (b := (w + 3)) (c_X5_at A P gl w (kept1 row q i).length (by omega) hfi hOl) hOl.1 rfl rfl Y_X5_at u_428 N_X5_at ⟨by decide, by decide⟩ ⟨by decide, by decide⟩ (Nat.le_of_ble_eq_true rfl) rfl dX5_removeTo_39 ?_
          rintro _ _ _ _ ⟨rfl, rfl, rfl, rfl⟩
          show V K 0 0 P A gl [(0, .ref (A (w + 3))), (1, .int (nI q)), (2, .int (nI (kept1 row q i).length)), (3, .int (nI i)), (4, .ref (A (w + 2000 + 3 * ρ' i)))] 42 [.ref (A (w + 2000 + 3 * ρ' (kept1 row q i).length)), .int (nI ((fi + i) % 500)), .ref (A (w + 4))]
          refine g_astq (pc := 42) C hOl.2.1 (h3l (ρ' (kept1 row q i).length) (hI.2.2.1 _ (by omega))).1 rfl (fun _ => rfl) (nI_clamp (by omega)) (nI_in0 (n := 500) (by omega) (by omega)) dX5_removeTo_42 ?_
          obtain ⟨g_4, hg_4⟩ : ∃ yM : pM, yM = va_up gl (w + 4) (aq 2 500 (va_up r' ((fi + i) % 500) (some (A (w + 2000 + 3 * ρ' (kept1 row q i).length))))) := ⟨_, rfl⟩
          show V K 0 0 P A (va_up gl (w + 4) (aq 2 500 (va_up r' ((fi + i) % 500) (some (A (w + 2000 + 3 * ρ' (kept1 row q i).length)))))) [(0, .ref (A (w + 3))), (1, .int (nI q)), (2, .int (nI (kept1 row q i).length)), (3, .int (nI i)), (4, .ref (A (w + 2000 + 3 * ρ' i)))] 43 []
          rw [← hg_4]
          have h_5 : g_4 (w + 3) = ob 5 [.ref (A (w + 4)), .int (nI fi), .int (nI row.length), .int sp] := by rw [hg_4, va_up_ne _ _ (show w + 3 ≠ w + 4 from by omega)]; exact hOl.1
          have h_6 : g_4 (w + 4) = aq 2 500 (va_up r' ((fi + i) % 500) (some (A (w + 2000 + 3 * ρ' (kept1 row q i).length)))) := by rw [hg_4]; exact va_up_self _ _ _
          have hf_7 : Fr gl g_4 (w + 4) (w + 4 + 1) := by rw [hg_4]; exact Fr.up (by omega) (by omega)
          have hp_8 := LT.fr (h3l (ρ' i) (hI.2.2.1 _ (by omega))) hf_7 (by omega)
          have hp_9 := LT.fr (h3l (ρ' (kept1 row q i).length) (hI.2.2.1 _ (by omega))) hf_7 (by omega)
          refine g_aload_n (pc := 43) C dX5_removeTo_43 0 rfl ?_
          refine g_get (pc := 44) C (j := 0) h_5 rfl rfl (by decide) u_228 dX5_removeTo_44 ?_
          refine g_aload_n (pc := 47) C dX5_removeTo_47 0 rfl ?_
          refine g_iload_n (pc := 48) C dX5_removeTo_48 2 rfl ?_
          refine g_callV (pc := 49) C (As := [.int (nI (kept1 row q i).length)]) (rest := [.ref (A (w + 4))]) (b := (w + 3)) (c_X5_place A P g_4 w (kept1 row q i).length (by omega) hfi h_5) h_5 rfl rfl Y_X5_place u_402 N_X5_place ⟨by decide, by decide⟩ ⟨by decide, by decide⟩ (Nat.le_of_ble_eq_true rfl) rfl dX5_removeTo_49 ?_
          rintro _ _ _ _ ⟨rfl, rfl, rfl, rfl⟩
          show V K 0 0 P A g_4 [(0, .ref (A (w + 3))), (1, .int (nI q)), (2, .int (nI (kept1 row q i).length)), (3, .int (nI i)), (4, .ref (A (w + 2000 + 3 * ρ' i)))] 52 [.int (nI ((fi + (kept1 row q i).length) % 500)), .ref (A (w + 4))]
          refine g_aload (pc := 52) C dX5_removeTo_52 4 rfl ?_
          refine g_astq (pc := 54) C h_6 hp_8.1 rfl (fun _ => rfl) (nI_clamp (by omega)) (nI_in0 (n := 500) (by omega) (by omega)) dX5_removeTo_54 ?_
          obtain ⟨g_10, hg_10⟩ : ∃ yM : pM, yM = va_up g_4 (w + 4) (aq 2 500 (va_up (va_up r' ((fi + i) % 500) (some (A (w + 2000 + 3 * ρ' (kept1 row q i).length)))) ((fi + (kept1 row q i).length) % 500) (some (A (w + 2000 + 3 * ρ' i))))) := ⟨_, rfl⟩
          show V K 0 0 P A (va_up g_4 (w + 4) (aq 2 500 (va_up (va_up r' ((fi + i) % 500) (some (A (w + 2000 + 3 * ρ' (kept1 row q i).length)))) ((fi + (kept1 row q i).length) % 500) (some (A (w + 2000 + 3 * ρ' i)))))) [(0, .ref (A (w + 3))), (1, .int (nI q)), (2, .int (nI (kept1 row q i).length)), (3, .int (nI i)), (4, .ref (A (w + 2000 + 3 * ρ' i)))] 55 []
          rw [← hg_10]
          have h_11 : g_10 (w + 3) = ob 5 [.ref (A (w + 4)), .int (nI fi), .int (nI row.length), .int sp] := by rw [hg_10, va_up_ne _ _ (show w + 3 ≠ w + 4 from by omega)]; exact h_5
          have h_12 : g_10 (w + 4) = aq 2 500 (va_up (va_up r' ((fi + i) % 500) (some (A (w + 2000 + 3 * ρ' (kept1 row q i).length)))) ((fi + (kept1 row q i).length) % 500) (some (A (w + 2000 + 3 * ρ' i)))) := by rw [hg_10]; exact va_up_self _ _ _
          have hf_13 : Fr g_4 g_10 (w + 4) (w + 4 + 1) := by rw [hg_10]; exact Fr.up (by omega) (by omega)
          have hp_14 := LT.fr hp_8 hf_13 (by omega)
          have hp_15 := LT.fr hp_9 hf_13 (by omega)
          refine g_iinc (pc := 55) C dX5_removeTo_55 (by decide) 2 rfl (v := nI ((kept1 row q i).length + 1)) (nI_i1 _) (lv' := [(0, .ref (A (w + 3))), (1, .int (nI q)), (2, .int (nI ((kept1 row q i).length + 1))), (3, .int (nI i)), (4, .ref (A (w + 2000 + 3 * ρ' i)))]) [1, 2, 0, 3, 4] rfl ?_
          refine g_iinc (pc := 58) C dX5_removeTo_58 (by decide) 3 rfl (v := nI (i + 1)) (nI_i1 _) (lv' := [(0, .ref (A (w + 3))), (1, .int (nI q)), (2, .int (nI ((kept1 row q i).length + 1))), (3, .int (nI (i + 1))), (4, .ref (A (w + 2000 + 3 * ρ' i)))]) [1, 2, 3, 0, 4] rfl ?_
          refine g_goto (pc := 61) C dX5_removeTo_61 (tgt := 4) (by decide) ?_
          refine g_sub [0, 1, 2, 3] rfl ?_
          rw [show g_10 = va_up g (w + 4) (aq 2 500 (va_up (va_up r' ((fi + i) % 500) (some (A (w + 2000 + 3 * ρ' (kept1 row q i).length)))) ((fi + (kept1 row q i).length) % 500) (some (A (w + 2000 + 3 * ρ' i))))) from by rw [hg_10, hg_4, hgl, bx_uu, bx_uu]]
          rw [show (kept1 row q i).length + 1 = (kept1 row q (i + 1)).length from by rw [kept1_s hri, if_neg c_25]; simp]
          exact ih (i + 1) (by omega) _ (swp ρ' (kept1 row q i).length i) (swp_I hI (by omega) (by omega)) (swp_O (by omega) (by omega) hO) (swp_row hri c_25 hk) (fun k h1 h2 => by simp only [swp]; rw [if_neg (by omega), if_neg (by omega)]; exact hu k (by omega) h2) (by omega)
  rw [show g = va_up g (w + 4) (aq 2 500 r) from (va_up_id h2.2.1).symm]
  exact lp_4 (_ + 1) 0 (Nat.zero_le _) r ρ h1 h2.2.2 (fun k hk => absurd hk (Nat.not_lt_zero k)) (fun _ _ _ => rfl) (Nat.lt_succ_self _)
abbrev rm_X5_copyFrom : Room := { frames := 3, cells := 0, slots := 0, locals := 66 }
theorem Y_X5_copyFrom : pY yX5_copyFrom cX5_copyFrom 3 (Option.none : Option Jvm.ClassFile.FieldType) := ⟨u_822, u_823, u_9, u_824⟩
theorem N_X5_copyFrom : yX5_copyFrom.cls ≠ "java/lang/invoke/MethodHandle" ∧ yX5_copyFrom.cls ≠ "java/lang/invoke/VarHandle" ∧ (parseMethodDescriptor yX5_copyFrom.desc).map (fun d => d.parameters.length) = some 1 := by decide +kernel
set_option maxRecDepth 20000 in
set_option maxHeartbeats 4000000 in
theorem c_X5_copyFrom (A : Nat → Nat) (P : List Nat) (g : pM) (w : Nat) {row : List Lt} {sp : Int32} (w2 : Nat) {row2 : List Lt} {sp2 : Int32} (hx : w + 5000 ≤ w2 ∨ w2 + 5000 ≤ w) (h : RW A g w row sp) (hh : RW A g w2 row2 sp2) : PM yX5_copyFrom cX5_copyFrom 3 (Option.none : Option Jvm.ClassFile.FieldType) rm_X5_copyFrom [.ref (A (w + 3)), .ref (A (w2 + 3))] P A g (fun v g' => v = none ∧ RW A g' w row2 sp2 ∧ Fr g g' (w + 3) (w + 3500) ∧ ∀ k, k < w + 3 ∨ (w + 5 ≤ k ∧ k < w + 2000) ∨ w + 3500 ≤ k → g' k = g k) := by
  have hRW := h
  obtain ⟨fi, r, ρ, L, h1, h2, h3, h4, h5⟩ := h
  have hfi : fi < 500 := h1.1
  have hn : row.length ≤ 500 := h1.2.1
  obtain ⟨fi2, r2, ρ2, L2, k1, k2, k3, k4, k5⟩ := hh
  have hfi2 : fi2 < 500 := k1.1
  have hn2 : row2.length ≤ 500 := k1.2.1
  have hz : RI 0 row2.length (rz ρ fi) := zero_I h1 hn2
  refine px_intro (by decide +kernel) (Nat.le_of_ble_eq_true rfl) (fun K sz C R => ?_)
  show V K 0 0 P A g [(0, .ref (A (w + 3))), (1, .ref (A (w2 + 3)))] 0 []
  refine g_aload_n (pc := 0) C dX5_copyFrom_0 0 rfl ?_
  refine g_iconst (pc := 1) C dX5_copyFrom_1 (v := nI 0) rfl ?_
  refine g_put (pc := 2) C (j := 1) h2.1 rfl (by decide) (Nat.le_of_ble_eq_true rfl) u_229 rfl pfd_I rfl rfl dX5_copyFrom_2 ?_
  obtain ⟨g_1, hg_1⟩ : ∃ yM : pM, yM = va_up g (w + 3) (ob 5 [.ref (A (w + 4)), .int (nI 0), .int (nI row.length), .int sp]) := ⟨_, rfl⟩
  show V K 0 0 P A (va_up g (w + 3) (ob 5 [.ref (A (w + 4)), .int (nI 0), .int (nI row.length), .int sp])) [(0, .ref (A (w + 3))), (1, .ref (A (w2 + 3)))] 5 []
  rw [← hg_1]
  have h_2 : g_1 (w + 3) = ob 5 [.ref (A (w + 4)), .int (nI 0), .int (nI row.length), .int sp] := by rw [hg_1]; exact va_up_self _ _ _
  have h_3 : g_1 (w + 4) = aq 2 500 r := by rw [hg_1, va_up_ne _ _ (show w + 4 ≠ w + 3 from by omega)]; exact h2.2.1
  have h_4 : g_1 (w2 + 3) = ob 5 [.ref (A (w2 + 4)), .int (nI fi2), .int (nI row2.length), .int sp2] := by rw [hg_1, va_up_ne _ _ (show w2 + 3 ≠ w + 3 from by omega)]; exact k2.1
  have h_5 : g_1 (w2 + 4) = aq 2 500 r2 := by rw [hg_1, va_up_ne _ _ (show w2 + 4 ≠ w + 3 from by omega)]; exact k2.2.1
  refine g_aload_n (pc := 5) C dX5_copyFrom_5 0 rfl ?_
  refine g_aload_n (pc := 6) C dX5_copyFrom_6 1 rfl ?_
  refine g_get (pc := 7) C (j := 2) h_4 rfl rfl (by decide) u_230 dX5_copyFrom_7 ?_
  refine g_put (pc := 10) C (j := 2) h_2 rfl (by decide) (Nat.le_of_ble_eq_true rfl) u_230 rfl pfd_I rfl rfl dX5_copyFrom_10 ?_
  obtain ⟨g_6, hg_6⟩ : ∃ yM : pM, yM = va_up g_1 (w + 3) (ob 5 [.ref (A (w + 4)), .int (nI 0), .int (nI row2.length), .int sp]) := ⟨_, rfl⟩
  show V K 0 0 P A (va_up g_1 (w + 3) (ob 5 [.ref (A (w + 4)), .int (nI 0), .int (nI row2.length), .int sp])) [(0, .ref (A (w + 3))), (1, .ref (A (w2 + 3)))] 13 []
  rw [← hg_6]
  have h_7 : g_6 (w + 3) = ob 5 [.ref (A (w + 4)), .int (nI 0), .int (nI row2.length), .int sp] := by rw [hg_6]; exact va_up_self _ _ _
  have h_8 : g_6 (w + 4) = aq 2 500 r := by rw [hg_6, va_up_ne _ _ (show w + 4 ≠ w + 3 from by omega)]; exact h_3
  have h_9 : g_6 (w2 + 3) = ob 5 [.ref (A (w2 + 4)), .int (nI fi2), .int (nI row2.length), .int sp2] := by rw [hg_6, va_up_ne _ _ (show w2 + 3 ≠ w + 3 from by omega)]; exact h_4
  have h_10 : g_6 (w2 + 4) = aq 2 500 r2 := by rw [hg_6, va_up_ne _ _ (show w2 + 4 ≠ w + 3 from by omega)]; exact h_5
  refine g_aload_n (pc := 13) C dX5_copyFrom_13 0 rfl ?_
  refine g_aload_n (pc := 14) C dX5_copyFrom_14 1 rfl ?_
  refine g_get (pc := 15) C (j := 3) h_9 rfl rfl (by decide) u_233 dX5_copyFrom_15 ?_
  refine g_put (pc := 18) C (j := 3) h_7 rfl (by decide) (Nat.le_of_ble_eq_true rfl) u_233 rfl pfd_I rfl rfl dX5_copyFrom_18 ?_
  obtain ⟨g_11, hg_11⟩ : ∃ yM : pM, yM = va_up g_6 (w + 3) (ob 5 [.ref (A (w + 4)), .int (nI 0), .int (nI row2.length), .int sp2]) := ⟨_, rfl⟩
  show V K 0 0 P A (va_up g_6 (w + 3) (ob 5 [.ref (A (w + 4)), .int (nI 0), .int (nI row2.length), .int sp2])) [(0, .ref (A (w + 3))), (1, .ref (A (w2 + 3)))] 21 []
  rw [← hg_11]
  have h_12 : g_11 (w + 3) = ob 5 [.ref (A (w + 4)), .int (nI 0), .int (nI row2.length), .int sp2] := by rw [hg_11]; exact va_up_self _ _ _
  have h_13 : g_11 (w + 4) = aq 2 500 r := by rw [hg_11, va_up_ne _ _ (show w + 4 ≠ w + 3 from by omega)]; exact h_8
  have h_14 : g_11 (w2 + 3) = ob 5 [.ref (A (w2 + 4)), .int (nI fi2), .int (nI row2.length), .int sp2] := by rw [hg_11, va_up_ne _ _ (show w2 + 3 ≠ w + 3 from by omega)]; exact h_9
  have h_15 : g_11 (w2 + 4) = aq 2 500 r2 := by rw [hg_11, va_up_ne _ _ (show w2 + 4 ≠ w + 3 from by omega)]; exact h_10
  refine g_iconst (pc := 21) C dX5_copyFrom_21 (v := nI 0) rfl ?_
  refine g_istore_n (pc := 22) C dX5_copyFrom_22 (by decide) (lv' := [(0, .ref (A (w + 3))), (1, .ref (A (w2 + 3))), (2, .int (nI 0))]) [1, 2, 0] rfl ?_
  have lp_23 : ∀ (fuel : Nat) (i : Nat) (hi : i ≤ row2.length) (gl : pM) (L' : Nat → Lt) (hO : RO A gl w 0 row2.length sp2 r (rz ρ fi)) (hL : RLt A gl w L') (hk : ∀ k, k < i → row2[k]? = some (L' (rz ρ fi k))) (hOb : RO A gl w2 fi2 row2.length sp2 r2 ρ2) (hLb : RLt A gl w2 L2) (hf : Fr g gl (w + 3) (w + 3500)) (hfk : ∀ k, k < w + 3 ∨ (w + 5 ≤ k ∧ k < w + 2000) ∨ w + 3500 ≤ k → gl k = g k), row2.length - i < fuel → V K 0 0 P A gl [(0, .ref (A (w + 3))), (1, .ref (A (w2 + 3))), (2, .int (nI i))] 23 [] := by
    intro fuel
    induction fuel with
    | zero => intro i hi gl L' hO hL hk hOb hLb hf hfk hμ; exact absurd hμ (Nat.not_lt_zero _)
    | succ fuel ih =>
      intro i hi gl L' hO hL hk hOb hLb hf hfk hμ
      refine g_iload_n (pc := 23) C dX5_copyFrom_23 2 rfl ?_
      refine g_aload_n (pc := 24) C dX5_copyFrom_24 0 rfl ?_
      refine g_get (pc := 25) C (j := 2) hO.1 rfl rfl (by decide) u_230 dX5_copyFrom_25 ?_
      refine g_icmp_ge (pc := 28) C dX5_copyFrom_28 (tgt := 50) (by decide) (fun c_28 => ?_) (fun c_28 => ?_)
      ·
        have c_28 : row2.length ≤ i := (nI_leI (by omega) (by omega)).mp c_28
        exact g_vret (pc := 50) C R ⟨rfl, rfl, rfl, ⟨0, r, rz ρ fi, L', hz, hO, hL, fun k hk2 => hk k (by omega), k5⟩, hf, hfk⟩ (by decide) (by decide) dX5_copyFrom_50
      ·
        have c_28 : ¬ row2.length ≤ i := fun h => c_28 ((nI_leI (a := row2.length) (b := i) (by omega) (by omega)).mpr h)
        refine g_aload_n (pc := 31) C dX5_copyFrom_31 0 rfl ?_
        refine g_iload_n (pc := 32) C dX5_copyFrom_32 2 rfl ?_
        refine g_callV (pc := 33) C (As := [.int (nI i)]) (rest := []) (b := (w + 3)) (c_X5_at A P gl w i (by omega) (by decide) hO) hO.1 rfl rfl Y_X5_at u_428 N_X5_at ⟨by decide, by decide⟩ ⟨by decide, by decide⟩ (Nat.le_of_ble_eq_true rfl) rfl dX5_copyFrom_33 ?_
        rintro _ _ _ _ ⟨rfl, rfl, rfl, rfl⟩
        show V K 0 0 P A gl [(0, .ref (A (w + 3))), (1, .ref (A (w2 + 3))), (2, .int (nI i))] 36 [.ref (A (w + 2000 + 3 * rz ρ fi i))]
        refine g_aload_n (pc := 36) C dX5_copyFrom_36 1 rfl ?_
        refine g_iload_n (pc := 37) C dX5_copyFrom_37 2 rfl ?_
        refine g_callV (pc := 38) C (As := [.int (nI i)]) (rest := [.ref (A (w + 2000 + 3 * rz ρ fi i))]) (b := (w2 + 3)) (c_X5_at A P gl w2 i (by omega) hfi2 hOb) hOb.1 rfl rfl Y_X5_at u_428 N_X5_at ⟨by decide, by decide⟩ ⟨by decide, by decide⟩ (Nat.le_of_ble_eq_true rfl) rfl dX5_copyFrom_38 ?_
        rintro _ _ _ _ ⟨rfl, rfl, rfl, rfl⟩
        show V K 0 0 P A gl [(0, .ref (A (w + 3))), (1, .ref (A (w2 + 3))), (2, .int (nI i))] 41 [.ref (A (w2 + 2000 + 3 * ρ2 i)), .ref (A (w + 2000 + 3 * rz ρ fi i))]
        refine g_callV (pc := 41) C (As := [.ref (A (w2 + 2000 + 3 * ρ2 i))]) (rest := []) (b := (w + 2000 + 3 * rz ρ fi i)) (c_X1_copyFrom A P gl (w + 2000 + 3 * rz ρ fi i) (w2 + 2000 + 3 * ρ2 i) (by have := hz.2.2.1 i (by omega); have := k1.2.2.1 i (by omega); omega) (hL _ (hz.2.2.1 _ (by omega))) (hLb _ (k1.2.2.1 _ (by omega)))) (hL (rz ρ fi i) (hz.2.2.1 _ (by omega))).1 rfl rfl Y_X1_copyFrom u_825 N_X1_copyFrom ⟨by decide, by decide⟩ ⟨by decide, by decide⟩ (Nat.le_of_ble_eq_true rfl) rfl dX5_copyFrom_41 ?_
        rintro _ _ _ g2 ⟨rfl, rfl, rfl, hn2c, hf2⟩
        show V K 0 0 P A g2 [(0, .ref (A (w + 3))), (1, .ref (A (w2 + 3))), (2, .int (nI i))] 44 []
        refine g_iinc (pc := 44) C dX5_copyFrom_44 (by decide) 2 rfl (v := nI (i + 1)) (nI_i1 _) (lv' := [(0, .ref (A (w + 3))), (1, .ref (A (w2 + 3))), (2, .int (nI (i + 1)))]) [1, 2, 0] rfl ?_
        refine g_goto (pc := 47) C dX5_copyFrom_47 (tgt := 23) (by decide) ?_
        exact ih (i + 1) (by omega) g2 (va_up L' (rz ρ fi i) (L2 (ρ2 i))) (hO.fr hf2 (by omega)) (hL.up hf2 hn2c) (cpy_row (by omega) hz.2.2.2 (k4 i (by omega)) hk) (hOb.fr hf2 (by have := hz.2.2.1 i (by omega); omega)) (hLb.fr hf2 (by have := hz.2.2.1 i (by omega); omega)) (hf.tr (hf2.mo (by omega) (by have := hz.2.2.1 i (by omega); omega))) (fun k hk3 => (hf2 k (by have := hz.2.2.1 i (by omega); omega)).trans (hfk k hk3)) (by omega)
  have hf0 : Fr g g_11 (w + 3) (w + 4) := fun k hk => by rw [hg_11, va_up_ne _ _ (by omega), hg_6, va_up_ne _ _ (by omega), hg_1, va_up_ne _ _ (by omega)]
  exact lp_23 (_ + 1) 0 (Nat.zero_le _) _ L ⟨h_12, h_13, zero_O hfi h2.2.2⟩ (h3.fr hf0 (by omega)) (fun k hk => absurd hk (Nat.not_lt_zero k)) (k2.fr hf0 (by omega)) (k3.fr hf0 (by omega)) (hf0.mo (by omega) (by omega)) (fun k hk3 => hf0 k (by omega)) (Nat.lt_succ_self _)
