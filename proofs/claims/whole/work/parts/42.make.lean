-- PART 42: what constructors leave
/-- what is new lies in one of two regions; nothing else changed but there and at a -/
def Mk (a l1 h1 l2 h2 : Nat) (P : List Nat) (A : Nat → Nat) (g : pM) (P' : List Nat) (A' : Nat → Nat) (g' : pM) : Prop :=
  (∀ j ∈ P', j ∈ P ∨ (l1 ≤ j ∧ j < h1) ∨ (l2 ≤ j ∧ j < h2)) ∧ (∀ j, ¬ (l1 ≤ j ∧ j < h1) → ¬ (l2 ≤ j ∧ j < h2) → A' j = A j) ∧ (∀ j, j ≠ a → ¬ (l1 ≤ j ∧ j < h1) → ¬ (l2 ≤ j ∧ j < h2) → g' j = g j)
theorem Mk.ext {a l1 h1 l2 h2 : Nat} {P P' : List Nat} {A A' : Nat → Nat} {g g' : pM} (h : Mk a l1 h1 l2 h2 P A g P' A' g') (h0 : ∀ j, j ∉ P → g j = p0) (hf : ∀ j ∈ P, ¬ (l1 ≤ j ∧ j < h1) ∧ ¬ (l2 ≤ j ∧ j < h2)) : Ext A (va_up g a p0) A' g' := by
  intro j hj
  by_cases e : j = a
  · subst e
    rw [va_up_self] at hj
    exact absurd rfl hj
  · rw [va_up_ne _ _ e] at hj
    rw [va_up_ne _ _ e]
    have hm : j ∈ P := by
      by_cases hp : j ∈ P
      · exact hp
      · exact absurd (h0 j hp) hj
    exact ⟨h.2.2 j e (hf j hm).1 (hf j hm).2, h.2.1 j (hf j hm).1 (hf j hm).2⟩
section KN
variable {K : vT} {cc : ByteArray} {own : String} {nL : Nat} {rm : Room} {cells slots : Nat} {P : List Nat} {A : Nat → Nat} {g : pM} {lv : List (Nat × Value)} {pc : Nat} {st : List Value}
theorem v_p0 (kk : (∀ j, j ∉ P → g j = p0) → V K cells slots P A g lv pc st) : V K cells slots P A g lv pc st := fun H locs ls a b c d e => kk a.2 H locs ls a b c d e
theorem k_ext {A' : Nat → Nat} {k : Nat} {e : pE} (h0 : ∀ j, j ∉ P → g j = p0) (hk : k ∉ P) (hA : ∀ j, j ≠ k → A' j = A j) : Ext A g A' (va_up g k e) := by
  intro j hj
  have hne : j ≠ k := fun z => hj (z ▸ h0 k hk)
  exact ⟨va_up_ne _ _ hne, hA j hne⟩
theorem k_mem {k : Nat} : ∀ j ∈ P ++ [k], j ∈ P ∨ j = k := fun j hj => by
  rcases List.mem_append.mp hj with h | h
  · exact Or.inl h
  · exact Or.inr (List.mem_singleton.mp h)
theorem k_new (C : vC K cc own nL rm) (k : Nat) {ci idx : Nat} {fs : List Value} {q : vw_C} {ty : Nat → FieldType} (hk : k ∉ P) (hc : vwCl[ci]? = some q) (hcl : Cond.classLink own idx q.1 ∈ pU) (hinst : Cond.instantiable q.1 q.2.2 ∈ pU) (hini : Cond.initialized q.1 ∈ pU)
    (hty : ∀ j, j < q.2.2 → parseFieldDescriptor (q.2.1 j).2.2.1 = some (ty j)) (hfs : ∀ j, j < q.2.2 → defaultValue (ty j) = vp_V fs j) (hcs : cells + 1 ≤ rm.cells ∧ slots + q.2.2 ≤ rm.slots) (hd : decode cc pc = .ok (.new idx, 3))
    (kk : ∀ (P' : List Nat) (A' : Nat → Nat) (g' : pM), (∀ j ∈ P', j ∈ P ∨ j = k) → (∀ j, j ≠ k → A' j = A j) → (∀ j, j ≠ k → g' j = g j) → Ext A g A' g' → g' k = ob ci fs → V K (cells + 1) (slots + q.2.2) P' A' g' lv (pc + 3) (.ref (A' k) :: st)) : V K cells slots P A g lv pc st :=
  v_p0 fun h0 => g_new C hk hc hcl hinst hini hty hfs hcs hd (fun A' hA => kk (P ++ [k]) A' (va_up g k (ob ci fs)) k_mem hA (fun j hj => va_up_ne _ _ hj) (k_ext h0 hk hA) (va_up_self _ _ _))
theorem k_newq (C : vC K cc own nL rm) (k : Nat) {c1 idx N' : Nat} {E : String} {n : Int32} (hk : k ∉ P) (hE : E ∈ pAOs) (ht : ∀ D : va_G, (pty D)[c1]? = some (D.1 (20 + c1), .object E)) (hcl : Cond.classLink own idx E ∈ pU) (hn : ¬ n < 0) (hN : n.toNatClampNeg = N') (hb : N' * 4 ≤ 536870912) (hcs : cells + 1 ≤ rm.cells ∧ slots + N' ≤ rm.slots) (hd : decode cc pc = .ok (.anewarray idx, 3))
    (kk : ∀ (P' : List Nat) (A' : Nat → Nat) (g' : pM), (∀ j ∈ P', j ∈ P ∨ j = k) → (∀ j, j ≠ k → A' j = A j) → (∀ j, j ≠ k → g' j = g j) → Ext A g A' g' → g' k = aq c1 N' (fun _ => none) → V K (cells + 1) (slots + N') P' A' g' lv (pc + 3) (.ref (A' k) :: st)) : V K cells slots P A g lv pc (.int n :: st) :=
  v_p0 fun h0 => g_newq C hk hE ht hcl hn hN hb hcs hd (fun A' hA => kk (P ++ [k]) A' (va_up g k (aq c1 N' (fun _ => none))) k_mem hA (fun j hj => va_up_ne _ _ hj) (k_ext h0 hk hA) (va_up_self _ _ _))
theorem k_newi (C : vC K cc own nL rm) (k : Nat) {N' : Nat} {n : Int32} (hk : k ∉ P) (hn : ¬ n < 0) (hN : n.toNatClampNeg = N') (hb : N' * componentBytes .int ≤ 536870912) (hcs : cells + 1 ≤ rm.cells ∧ slots + N' ≤ rm.slots) (hd : decode cc pc = .ok (.newarray .int, 2))
    (kk : ∀ (P' : List Nat) (A' : Nat → Nat) (g' : pM), (∀ j ∈ P', j ∈ P ∨ j = k) → (∀ j, j ≠ k → A' j = A j) → (∀ j, j ≠ k → g' j = g j) → Ext A g A' g' → g' k = ai 0 N' (fun _ => 0) → V K (cells + 1) (slots + N') P' A' g' lv (pc + 2) (.ref (A' k) :: st)) : V K cells slots P A g lv pc (.int n :: st) :=
  v_p0 fun h0 => g_newa C (c1 := 0) (atype := .int) (ty := .int) hk rfl (fun _ => rfl) (fun _ => rfl) u_38 hn hN hb hcs hd (fun A' hA => kk (P ++ [k]) A' (va_up g k (ai 0 N' (fun _ => 0))) k_mem hA (fun j hj => va_up_ne _ _ hj) (k_ext h0 hk hA) (va_up_self _ _ _))
theorem k_newz (C : vC K cc own nL rm) (k : Nat) {N' : Nat} {n : Int32} (hk : k ∉ P) (hn : ¬ n < 0) (hN : n.toNatClampNeg = N') (hb : N' * componentBytes .boolean ≤ 536870912) (hcs : cells + 1 ≤ rm.cells ∧ slots + N' ≤ rm.slots) (hd : decode cc pc = .ok (.newarray .boolean, 2))
    (kk : ∀ (P' : List Nat) (A' : Nat → Nat) (g' : pM), (∀ j ∈ P', j ∈ P ∨ j = k) → (∀ j, j ≠ k → A' j = A j) → (∀ j, j ≠ k → g' j = g j) → Ext A g A' g' → g' k = ai 1 N' (fun _ => 0) → V K (cells + 1) (slots + N') P' A' g' lv (pc + 2) (.ref (A' k) :: st)) : V K cells slots P A g lv pc (.int n :: st) :=
  v_p0 fun h0 => g_newa C (c1 := 1) (atype := .boolean) (ty := .boolean) hk rfl (fun _ => rfl) (fun _ => rfl) u_343 hn hN hb hcs hd (fun A' hA => kk (P ++ [k]) A' (va_up g k (ai 1 N' (fun _ => 0))) k_mem hA (fun j hj => va_up_ne _ _ hj) (k_ext h0 hk hA) (va_up_self _ _ _))
/-- a written field: the new memory has a name -/
theorem k_put (C : vC K cc own nL rm) {k ci j idx : Nat} {fs : List Value} {v : Value} {q : vw_C} {ty : FieldType} (hg : g k = ob ci fs) (hc : vwCl[ci]? = some q) (hj : j < q.2.2) (hl : j < fs.length) (hw : Cond.fieldLink own idx (q.2.1 j).1 (q.2.1 j).2.1 (q.2.1 j).2.2.1 ∈ pU) (hfin : (q.2.1 j).2.2.2 = false) (hty : parseFieldDescriptor (q.2.1 j).2.2.1 = some ty) (hn : narrow ty v = v) (hfit : fits ty v = true) (hd : decode cc pc = .ok (.putfield idx, 3))
    (kk : ∀ g' : pM, (∀ i, i ≠ k → g' i = g i) → g' k = ob ci (fs.set j v) → V K cells slots P A g' lv (pc + 3) st) : V K cells slots P A g lv pc (v :: .ref (A k) :: st) :=
  g_put C hg hc hj hl hw hfin hty hn hfit hd (kk _ (fun i hi => va_up_ne _ _ hi) (va_up_self _ _ _))
theorem k_putF (C : vC K cc own nL rm) {k ci j idx : Nat} {fs : List Value} {v : Value} {q : vw_C} {ty : FieldType} (hinit : (kM K).name = "<init>") (hg : g k = ob ci fs) (hc : vwCl[ci]? = some q) (hj : j < q.2.2) (hl : j < fs.length) (hw : Cond.fieldLink own idx (q.2.1 j).1 (q.2.1 j).2.1 (q.2.1 j).2.2.1 ∈ pU) (hfin : (q.2.1 j).2.2.2 = true) (hown : (q.2.1 j).1 = own) (hty : parseFieldDescriptor (q.2.1 j).2.2.1 = some ty) (hn : narrow ty v = v) (hfit : fits ty v = true) (hd : decode cc pc = .ok (.putfield idx, 3))
    (kk : ∀ g' : pM, (∀ i, i ≠ k → g' i = g i) → g' k = ob ci (fs.set j v) → V K cells slots P A g' lv (pc + 3) st) : V K cells slots P A g lv pc (v :: .ref (A k) :: st) :=
  g_putF C hinit hg hc hj hl hw hfin hown hty hn hfit hd (kk _ (fun i hi => va_up_ne _ _ hi) (va_up_self _ _ _))
theorem k_iast (C : vC K cc own nL rm) {k n : Nat} {r : Nat → Int32} {i x : Int32} (hg : g k = ai 0 n r) {iv : Nat} (hix : i.toNatClampNeg = iv) (hin : vp_in i n) (hd : decode cc pc = .ok (.iastore, 1)) (kk : ∀ g' : pM, (∀ i, i ≠ k → g' i = g i) → g' k = ai 0 n (upd r iv x) → V K cells slots P A g' lv (pc + 1) st) : V K cells slots P A g lv pc (.int x :: .int i :: .ref (A k) :: st) :=
  g_iast C hg hix hin hd (kk _ (fun i hi => va_up_ne _ _ hi) (va_up_self _ _ _))
theorem k_astq (C : vC K cc own nL rm) {k c1 n j ci : Nat} {r : Nat → Option Nat} {fs : List Value} {i : Int32} {q : vw_C} (hg : g k = aq c1 n r) (hj : g j = ob ci fs) (hc : vwCl[ci]? = some q) (ht : ∀ D : va_G, (pty D)[c1]? = some (D.1 (20 + c1), .object q.1)) {iv : Nat} (hix : i.toNatClampNeg = iv) (hin : vp_in i n) (hd : decode cc pc = .ok (.aastore, 1)) (kk : ∀ g' : pM, (∀ i, i ≠ k → g' i = g i) → g' k = aq c1 n (va_up r iv (some (A j))) → V K cells slots P A g' lv (pc + 1) st) : V K cells slots P A g lv pc (.ref (A j) :: .int i :: .ref (A k) :: st) :=
  g_astq C hg hj hc ht hix hin hd (kk _ (fun i hi => va_up_ne _ _ hi) (va_up_self _ _ _))
end KN
