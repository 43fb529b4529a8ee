-- PART 41: new objects in the pool
theorem p_ext {D : va_G} {P : List Nat} {A : Nat → Nat} {g : pM} {H : Heap} {Af : Nat → Prop} {k qa : Nat} {e : pE} (hk : k ∉ P) (hg : ∀ j, j ∉ P → g j = p0) (hN : P.Nodup) (hP : va_P D vwCl (pws D P A g ++ [(qa, pcv D e)]) H) (hD : va_D Af (pws D P A g ++ [(qa, pcv D e)])) :
    pI D (P ++ [k]) (va_up A k qa) (va_up g k e) H ∧ pN (P ++ [k]) (va_up A k qa) ∧ ∀ j ∈ P ++ [k], Af (va_up A k qa j) := by
  have hw : pws D (P ++ [k]) (va_up A k qa) (va_up g k e) = pws D P A g ++ [(qa, pcv D e)] := by
    simp only [pws, List.map_append, List.map_cons, List.map_nil, va_up_self]
    congr 1
    apply List.map_congr_left
    intro j hj
    have : j ≠ k := fun z => hk (z ▸ hj)
    rw [va_up_ne _ _ this, va_up_ne _ _ this]
  have hNd : (P ++ [k]).Nodup := List.nodup_append.mpr ⟨hN, by simp, fun a ha b hb => by rw [List.mem_singleton.mp hb]; exact fun z => hk (z ▸ ha)⟩
  rw [← hw] at hP hD
  refine ⟨⟨hP, fun j hj => ?_⟩, ⟨hNd, fun i hi j hj ea => ?_⟩, fun j hj => ?_⟩
  · have h1 : j ≠ k := fun z => hj (by rw [z]; exact List.mem_append_right _ (List.mem_singleton.mpr rfl))
    rw [va_up_ne _ _ h1]
    exact hg j (fun z => hj (List.mem_append_left _ z))
  · obtain ⟨a, ha⟩ := p_ix hi
    obtain ⟨b, hb⟩ := p_ix hj
    have hab := hD.1 a b _ _ (p_at ha) (p_at hb) ea
    subst hab
    exact Option.some.inj (ha.symm.trans hb)
  · obtain ⟨a, ha⟩ := p_ix hj
    exact hD.2 a _ (p_at ha)
theorem g_new {K : vT} {cc : ByteArray} {own : String} {nL : Nat} {rm : Room} {cells slots : Nat} {P : List Nat} {A : Nat → Nat} {g : pM} {lv : List (Nat × Value)} {pc : Nat} {st : List Value} (C : vC K cc own nL rm) {k ci idx : Nat} {fs : List Value} {q : vw_C} {ty : Nat → FieldType} (hk : k ∉ P) (hc : vwCl[ci]? = some q) (hcl : Cond.classLink own idx q.1 ∈ pU) (hinst : Cond.instantiable q.1 q.2.2 ∈ pU) (hini : Cond.initialized q.1 ∈ pU)
    (hty : ∀ j, j < q.2.2 → parseFieldDescriptor (q.2.1 j).2.2.1 = some (ty j)) (hfs : ∀ j, j < q.2.2 → defaultValue (ty j) = vp_V fs j) (hcs : cells + 1 ≤ rm.cells ∧ slots + q.2.2 ≤ rm.slots) (hd : decode cc pc = .ok (.new idx, 3))
    (kk : ∀ A' : Nat → Nat, (∀ j, j ≠ k → A' j = A j) → V K (cells + 1) (slots + q.2.2) (P ++ [k]) A' (va_up g k (ob ci fs)) lv (pc + 3) (.ref (A' k) :: st)) : V K cells slots P A g lv pc st := by
  intro H locs ls a b c d e
  obtain ⟨C1, T1, N1⟩ := q
  refine va_new C.ex C.co C.ts (in_all hc) ty hty C.ow (C.ts _ hcl) (C.ts _ hinst) (C.ts _ hini) C.kk.1 a.1 (p_D b c) d C.fr hc hfs (by rw [C.hr]; exact hcs.1) (by rw [C.hr]; exact hcs.2) hd (fun qa H1 hP hD hS => ?_)
  obtain ⟨x1, x2, x3⟩ := p_ext (e := ob ci fs) hk a.2 b.1 hP hD
  have h := kk (va_up A k qa) (fun j hj => va_up_ne _ _ hj) H1 locs ls x1 x2 x3 hS e
  rw [va_up_self] at h
  exact h
theorem ra_uq {U : State} {c1 c2 : ClassId} {ty : FieldType} (h1 : va_RA U c1 ty) (h2 : va_RA U c2 ty) : c1 = c2 := by
  cases ty with
  | object C =>
    obtain ⟨_, _, _, _, _, a⟩ := h1
    obtain ⟨_, _, _, _, _, b⟩ := h2
    exact Option.some.inj (a.symm.trans b)
  | _ => exact Option.some.inj ((show U.vm.findClass _ = some c1 from h1).symm.trans h2)
theorem k_last {D : va_G} {cl : List vw_C} {tys : List (ClassId × FieldType)} {x : ClassId × FieldType} {U : State} (h : va_K D cl (tys ++ [x]) U) : va_RA U x.1 x.2 :=
  (h.2 tys.length x (by rw [List.getElem?_append_right (Nat.le_refl _), Nat.sub_self]; rfl)).2
section NA
variable {K : vT} {cc : ByteArray} {own : String} {nL : Nat} {rm : Room} {cells slots : Nat} {P : List Nat} {A : Nat → Nat} {g : pM} {lv : List (Nat × Value)} {pc : Nat} {st : List Value}
theorem g_newq (C : vC K cc own nL rm) {k c1 idx N' : Nat} {E : String} {n : Int32} (hk : k ∉ P) (hE : E ∈ pAOs) (ht : ∀ D : va_G, (pty D)[c1]? = some (D.1 (20 + c1), .object E)) (hcl : Cond.classLink own idx E ∈ pU) (hn : ¬ n < 0) (hN : n.toNatClampNeg = N') (hb : N' * 4 ≤ 536870912) (hcs : cells + 1 ≤ rm.cells ∧ slots + N' ≤ rm.slots) (hd : decode cc pc = .ok (.anewarray idx, 3))
    (kk : ∀ A' : Nat → Nat, (∀ j, j ≠ k → A' j = A j) → V K (cells + 1) (slots + N') (P ++ [k]) A' (va_up g k (aq c1 N' (fun _ => none))) lv (pc + 3) (.ref (A' k) :: st)) : V K cells slots P A g lv pc (.int n :: st) := by
  intro H locs ls a b c d e
  refine va_newq C.ex C.co C.ow (C.ts _ hcl) (C.kk.2.1 E hE) C.kk.1 a.1 (p_D b c) d C.fr hn hN hb (by rw [C.hr]; exact hcs.1) (by rw [C.hr]; exact hcs.2) hd (fun qa cA H1 hK hP hD hS => ?_)
  have hcA : cA = (kD K).1 (20 + c1) := ra_uq (k_last hK) (C.kk.1.2 c1 _ (ht _)).2
  subst hcA
  obtain ⟨x1, x2, x3⟩ := p_ext (e := aq c1 N' (fun _ => none)) hk a.2 b.1 hP hD
  have h := kk (va_up A k qa) (fun j hj => va_up_ne _ _ hj) H1 locs ls x1 x2 x3 hS e
  rw [va_up_self] at h
  exact h
theorem g_newa (C : vC K cc own nL rm) {k c1 N' : Nat} {atype : ArrayType} {ty : FieldType} {n : Int32} (hk : k ∉ P) (hty : newarray.typeOf atype = ty) (ht : ∀ D : va_G, (pty D)[c1]? = some (D.1 (20 + c1), ty)) (ha : ∀ cA : ClassId, vp_cell cA (N', .inl (fun _ => 0)) = arrV cA N' (fun _ => defaultValue ty)) (harr : Cond.arrayClass (newarray.typeOf atype) ∈ pU) (hn : ¬ n < 0) (hN : n.toNatClampNeg = N') (hb : N' * componentBytes ty ≤ 536870912) (hcs : cells + 1 ≤ rm.cells ∧ slots + N' ≤ rm.slots) (hd : decode cc pc = .ok (.newarray atype, 2))
    (kk : ∀ A' : Nat → Nat, (∀ j, j ≠ k → A' j = A j) → V K (cells + 1) (slots + N') (P ++ [k]) A' (va_up g k (ai c1 N' (fun _ => 0))) lv (pc + 2) (.ref (A' k) :: st)) : V K cells slots P A g lv pc (.int n :: st) := by
  intro H locs ls a b c d e
  refine va_newa (atype := atype) C.ex C.co (C.ts _ harr) hty C.kk.1 a.1 (p_D b c) d C.fr (a0 := (N', .inl (fun _ => 0))) ha hn hN hb (by rw [C.hr]; exact hcs.1) (by rw [C.hr]; exact hcs.2) hd (fun qa cA H1 hK hP hD hS => ?_)
  have hcA : cA = (kD K).1 (20 + c1) := ra_uq (k_last hK) (C.kk.1.2 c1 _ (ht _)).2
  subst hcA
  obtain ⟨x1, x2, x3⟩ := p_ext (e := ai c1 N' (fun _ => 0)) hk a.2 b.1 hP hD
  have h := kk (va_up A k qa) (fun j hj => va_up_ne _ _ hj) H1 locs ls x1 x2 x3 hS e
  rw [va_up_self] at h
  exact h
end NA
