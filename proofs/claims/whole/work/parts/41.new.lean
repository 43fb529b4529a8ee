-- PART 41: new objects in the pool
theorem p_ext {D : va_G} {P : List Nat} {A : Nat → Nat} {g : pM} {H : Heap} {Af : Nat → Prop} {k qa : Nat} {e : pE} (hk : k ∉ P) (hg : ∀ j, j ∉ P → g j = p0) (hN : P.Nodup) (hP : va_P D vwCl (pws D P A g ++ [(qa, pcv D e)]) H) (hD : va_D Af (pws D P A g ++ [(qa, pcv D e)])) :
    pI D (P ++ [k]) (va_up A k qa) (va_up g k e) H ∧ pN (P ++ [k]) (va_up A k qa) ∧ ∀ j ∈ P ++ [k], Af (va_up A k qa j) := by
  have hw : pws D (P ++ [k]) (va_up A k qa) (va_up g k e) = pws D P A g ++ [(qa, pcv D e)] := by
    simp only [pws, List.map_append, List.map_cons, List.map_nil, va_up_self]
    congr 1
    apply List.map_congr_left
    intro j hj
    have : j ≠ k := fun z => hk (z ▸ hj)
    rw [va_up_ne _ _ this, va_up_ne _ _ this]
  have hNd : (P ++ [k]).Nodup := List.nodup_append.mpr ⟨hN, by simp, fun a ha b hb => by rw [List.mem_singleton.mp hb]; exact fun z => hk (z ▸ ha)⟩
  rw [← hw] at hP hD
  refine ⟨⟨hP, fun j hj => ?_⟩, ⟨hNd, fun i hi j hj ea => ?_⟩, fun j hj => ?_⟩
  · have h1 : j ≠ k := fun z => hj (by rw [z]; exact List.mem_append_right _ (List.mem_singleton.mpr rfl))
    rw [va_up_ne _ _ h1]
    exact hg j (fun z => hj (List.mem_append_left _ z))
  · obtain ⟨a, ha⟩ := p_ix hi
    obtain ⟨b, hb⟩ := p_ix hj
    have hab := hD.1 a b _ _ (p_at ha) (p_at hb) ea
    subst hab
    exact Option.some.inj (ha.symm.trans hb)
  · obtain ⟨a, ha⟩ := p_ix hj
    exact hD.2 a _ (p_at ha)
theorem g_new {K : vT} {cc : ByteArray} {own : String} {nL : Nat} {rm : Room} {cells slots : Nat} {P : List Nat} {A : Nat → Nat} {g : pM} {lv : List (Nat × Value)} {pc : Nat} {st : List Value} (C : vC K cc own nL rm) {k ci idx : Nat} {fs : List Value} {q : vw_C} {ty : Nat → FieldType} (hk : k ∉ P) (hc : vwCl[ci]? = some q) (hcl : Cond.classLink own idx q.1 ∈ pU) (hinst : Cond.instantiable q.1 q.2.2 ∈ pU) (hini : Cond.initialized q.1 ∈ pU)
    (hty : ∀ j, j < q.2.2 → parseFieldDescriptor (q.2.1 j).2.2.1 = some (ty j)) (hfs : ∀ j, j < q.2.2 → defaultValue (ty j) = vp_V fs j) (hcs : cells + 1 ≤ rm.cells ∧ slots + q.2.2 ≤ rm.slots) (hd : decode cc pc = .ok (.new idx, 3))
    (kk : ∀ A' : Nat → Nat, (∀ j, j ≠ k → A' j = A j) → V K (cells + 1) (slots + q.2.2) (P ++ [k]) A' (va_up g k (ob ci fs)) lv (pc + 3) (.ref (A' k) :: st)) : V K cells slots P A g lv pc st := by
  intro H locs ls a b c d e
  obtain ⟨C1, T1, N1⟩ := q
  refine va_new C.ex C.co C.ts (in_all hc) ty hty C.ow (C.ts _ hcl) (C.ts _ hinst) (C.ts _ hini) C.kk.1 a.1 (p_D b c) d C.fr hc hfs (by rw [C.hr]; exact hcs.1) (by rw [C.hr]; exact hcs.2) hd (fun qa H1 hP hD hS => ?_)
  obtain ⟨x1, x2, x3⟩ := p_ext (e := ob ci fs) hk a.2 b.1 hP hD
  have h := kk (va_up A k qa) (fun j hj => va_up_ne _ _ hj) H1 locs ls x1 x2 x3 hS e
  rw [va_up_self] at h
  exact h
