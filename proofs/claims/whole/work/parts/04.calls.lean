-- PART 04: contracts over the pool; returns; calls
theorem pK_warm {D : va_G} {s U : State} (hW : s.WarmedH U.vm) (h : pK D s) : pK D U := by
  refine ⟨va_K.moved hW.alike h.1, fun C hC => va_AO.moved hW.alike (h.2.1 C hC), fun w hw => ?_⟩
  have h2 := h.2.2 w hw
  simp only [pNws, List.mem_cons, List.not_mem_nil, or_false] at hw
  rcases hw with rfl | rfl | rfl | rfl | rfl <;> exact va_Nw.warmM hW h2
theorem pK_blind {D : va_G} {U : State} {g : JFrame} {mk : MethodId} {a : Array Value} (h : pK D U) : pK D (U.calling g mk a) := by
  refine ⟨va_K.moved (u := U) (U := U.calling g mk a) (Vm.Alike.refl U.vm) h.1, fun C hC => va_AO.moved (u := U) (U := U.calling g mk a) (Vm.Alike.refl U.vm) (h.2.1 C hC), fun w hw => ?_⟩
  have h2 := h.2.2 w hw
  simp only [pNws, List.mem_cons, List.not_mem_nil, or_false] at hw
  rcases hw with rfl | rfl | rfl | rfl | rfl <;> exact va_Nw.same (u := U) (U := U.calling g mk a) rfl rfl h2
abbrev pP : Type := Option Value → List Nat → (Nat → Nat) → pM → Prop
def pQ (D : va_G) (P0 : List Nat) (A0 : Nat → Nat) (sz : Nat) (post : pP) : Array Value → State → Outcome → State → Prop := fun _ st oc t =>
  ∃ (v : Option Value) (P : List Nat) (A : Nat → Nat) (g : pM), oc = .returned v ∧ post v P A g ∧ pI D P A g t.heap ∧ pN P A ∧ (∀ k ∈ P, pF P0 A0 sz (A k)) ∧ va_F (pF P0 A0 sz) st t
/-- a method's contract over the pool -/
def PX (y : MethodName) (cc : ByteArray) (nL : Nat) (ret : Option FieldType) (rm : Room) (av : List Value) (P : List Nat) (A : Nat → Nat) (g : pM) (post : pP) : Prop :=
  ∀ (l : Launch) (D : va_G) (sz : Nat), Met l y (.code y cc nL ret :: pU) rm (va_Pc av (fun U => U.heap.size = sz ∧ pI D P A g U.heap ∧ pK D U ∧ pN P A)) (pQ D P A sz post) rm.cells rm.slots (pF P A sz)
/-- ... that makes nothing new -/
def PM (y : MethodName) (cc : ByteArray) (nL : Nat) (ret : Option FieldType) (rm : Room) (av : List Value) (P : List Nat) (A : Nat → Nat) (g : pM) (post : Option Value → pM → Prop) : Prop :=
  PX y cc nL ret rm av P A g (fun v P' A' g' => P = P' ∧ A = A' ∧ post v g')
/-- what is known of the method's own end -/
def vR (K : vT) (P0 : List Nat) (A0 : Nat → Nat) (sz : Nat) (ret : Option FieldType) (post : pP) (rm : Room) (nm : String) : Prop :=
  kQ K = MQ (kb K) (pQ (kD K) P0 A0 sz post) (ka K) (ks K) rm.cells rm.slots (pF P0 A0 sz) ∧ kA K = pF P0 A0 sz ∧ kH K = (ks K).heap ∧ (kM K).sig.returnType = ret ∧ sz = (ks K).heap.size ∧ (kM K).name = nm
theorem px_intro {y : MethodName} {cc : ByteArray} {nL : Nat} {ret : Option FieldType} {rm : Room} {av : List Value} {P : List Nat} {A : Nat → Nat} {g : pM} {post : pP} (hy : plainName y.cls = true) (hav : (lg_sl av).length ≤ nL)
    (h : ∀ (K : vT) (sz : Nat), vC K cc y.cls nL rm → vR K P A sz ret post rm y.name → V K 0 0 P A g (lv_args 0 av) 0 []) : PX y cc nL ret rm av P A g post := by
  intro l D sz
  refine Met.ofW (cc := cc) (maxL := nL) (ret := ret) hy rfl ?_
  intro p e s m args below meth c s₁ B hml hv
  obtain ⟨rfl, hsz, hI, hK, hN⟩ := hv
  have hts := atoms_spec (ws := .code y cc nL ret :: pU) B.pre
  have hl := lv_entry av (n := nL) hav
  rw [lg_entry_eq]
  have hin : meth.name = y.name := (name_of_methodNamed B.named B.method).1
  exact h (p, l, e, rm, s, m, av.toArray, below, meth, c, D, pF P A sz, s.heap, nL, MQ below (pQ D P A sz post) av.toArray s rm.cells rm.slots (pF P A sz)) sz
    ⟨B.exec, B.bytes, fun w hw => hts w (List.mem_cons_of_mem _ hw), findClass_of_methodNamed B.named, hK, fun q hq => Or.inr (by rw [← hsz]; exact hq), B.notSynchronized, hml, rfl, rfl⟩
    ⟨rfl, rfl, rfl, B.returns, hsz.symm, hin⟩ s.heap [] _ hI hN (fun k hk => Or.inl ⟨k, hk, rfl⟩) va_S.rf hl
section VR
variable {K : vT} {cc : ByteArray} {own nm : String} {nL sz : Nat} {rm : Room} {cells slots : Nat} {P P0 : List Nat} {A A0 : Nat → Nat} {g : pM} {lv : List (Nat × Value)} {pc : Nat} {st rest : List Value} {ret : Option FieldType} {post : pP}
theorem vR_q (R : vR K P0 A0 sz ret post rm nm) {H : Heap} {locs : List Loc} {v : Option Value} {t : State} (hp : post v P A g) (a : pI (kD K) P A g H) (b : pN P A) (c : ∀ k ∈ P, kA K (A k)) (d : va_S (kA K) (kH K) H locs) (ht : t.heap = H) : pQ (kD K) P0 A0 sz post (ka K) (ks K) (.returned v) t := by
  refine ⟨v, P, A, g, rfl, hp, by rw [ht]; exact a, b, fun k hk => ?_, ?_⟩
  · have := c k hk
    rw [R.2.1] at this
    exact this
  · rw [R.2.1, R.2.2.1] at d
    exact d.F ht
theorem vR_l (R : vR K P0 A0 sz ret post rm nm) {H : Heap} {locs : List Loc} (d : va_S (kA K) (kH K) H locs) : ∀ q ∈ locs, pF P0 A0 sz q.base := by
  rw [R.2.1] at d
  exact d.2.2
theorem g_iret (C : vC K cc own nL rm) (R : vR K P0 A0 sz (some .int) post rm nm) {v : Int32} (hp : post (some (.int v)) P A g) (hc : cells ≤ rm.cells) (hs : slots ≤ rm.slots) (hd : decode cc pc = .ok (.ireturn, 1)) : V K cells slots P A g lv pc [.int v] := by
  intro H locs ls a b c d e
  unfold kW
  rw [R.1]
  exact W.widen hc hs (W.iret C.ex C.co R.2.2.2.1 (fun t ht hW => vR_q R hp a b c d ht) (vR_l R d) hd C.lo)
theorem g_zret (C : vC K cc own nL rm) (R : vR K P0 A0 sz (some .boolean) post rm nm) {v : Int32} (hz : v = 0 ∨ v = 1) (hp : post (some (.int v)) P A g) (hc : cells ≤ rm.cells) (hs : slots ≤ rm.slots) (hd : decode cc pc = .ok (.ireturn, 1)) : V K cells slots P A g lv pc [.int v] := by
  intro H locs ls a b c d e
  unfold kW
  rw [R.1]
  exact W.widen hc hs (W.zret C.ex C.co R.2.2.2.1 (by rcases hz with rfl | rfl <;> rfl) (fun t ht hW => vR_q R hp a b c d ht) (vR_l R d) hd C.lo)
theorem g_vret (C : vC K cc own nL rm) (R : vR K P0 A0 sz none post rm nm) (hp : post none P A g) (hc : cells ≤ rm.cells) (hs : slots ≤ rm.slots) (hd : decode cc pc = .ok (.return_, 1)) : V K cells slots P A g lv pc [] := by
  intro H locs ls a b c d e
  unfold kW
  rw [R.1]
  exact W.widen hc hs (W.vret C.ex C.co R.2.2.2.1 (fun t ht hW => vR_q R hp a b c d ht) (vR_l R d) hd C.lo)
theorem g_aret (C : vC K cc own nL rm) {o : String} (R : vR K P0 A0 sz (some (.object o)) post rm nm) {v : Value} (hv : v = .null ∨ ∃ a, v = .ref a) (hp : post (some v) P A g) (hc : cells ≤ rm.cells) (hs : slots ≤ rm.slots) (hd : decode cc pc = .ok (.areturn, 1)) : V K cells slots P A g lv pc [v] := by
  intro H locs ls a b c d e
  unfold kW
  rw [R.1]
  exact W.widen hc hs (W.aret C.ex C.co R.2.2.2.1 (Or.inl ⟨o, rfl⟩) hv (fun t ht hW => vR_q R hp a b c d ht) (vR_l R d) hd C.lo)
-- calls
def pY (y : MethodName) (cc : ByteArray) (nL : Nat) (ret : Option FieldType) : Prop := Cond.instanceMethod y ∈ pU ∧ Cond.selects y.cls y y ∈ pU ∧ Cond.initialized y.cls ∈ pU ∧ Cond.code y cc nL ret ∈ pU
theorem pU_gi {y : MethodName} {cc : ByteArray} {nL : Nat} {ret : Option FieldType} (h : Cond.code y cc nL ret ∈ pU) : GoodIn pU (.code y cc nL ret :: pU) := by
  intro w hw
  rcases List.mem_cons.mp hw with rfl | hw
  · exact ⟨h, good_of_word (pU_good _ h)⟩
  · exact ⟨hw, good_of_word (pU_good _ hw)⟩
theorem pU_gV {own : String} {idx : Nat} {y : MethodName} {cc : ByteArray} {nL : Nat} {ret : Option FieldType} {C : String} (hC : y.cls = C) (hY : pY y cc nL ret) (hl : Cond.methodLink own idx y ∈ pU) : GoodIn pU (wsV own idx C y (.code y cc nL ret :: pU)) := by
  subst hC
  intro w hw
  rcases List.mem_append.mp hw with hw | hw
  · have hm : w ∈ pU := by
      simp only [List.mem_cons, List.not_mem_nil, or_false] at hw
      rcases hw with rfl | rfl | rfl | rfl
      · exact hl
      · exact hY.1
      · exact hY.2.1
      · exact hY.2.2.1
    exact ⟨hm, good_of_word (pU_good _ hm)⟩
  · exact pU_gi hY.2.2.2 w hw
theorem pre_blind {D : va_G} {av : List Value} {sz : Nat} : FrameBlind (va_Pc av (fun U => U.heap.size = sz ∧ pI D P A g U.heap ∧ pK D U ∧ pN P A)) := by
  intro a U fr mk h
  exact ⟨h.1, h.2.1, h.2.2.1, pK_blind h.2.2.2.1, h.2.2.2.2⟩
/-- what goes on behind a call -/
theorem g_back {av : Array Value} (C : vC K cc own nL rm) {H : Heap} {locs : List Loc} {ls : Array Slot} {mc ms : Nat} {post2 : pP} {free : Addr → Prop}
    (hr : va_Run (kp K) (kl K) (ke K) (kR K) (ks K) (km K) (ka K) (kb K) (kM K) (kc K) H locs cells slots mc ms (F0 (km K) pc ls st) rest (pQ (kD K) P A H.size post2 av) free) (hfree : ∀ q, free q → pF P A H.size q)
    (a : pI (kD K) P A g H) (b : pN P A) (c : ∀ k ∈ P, kA K (A k)) (d : va_S (kA K) (kH K) H locs) (e : lv_has ls (kn K) lv)
    (kk : ∀ v P' A' g', post2 v P' A' g' → V K (cells + mc) (slots + ms) P' A' g' lv (pc + 3) (v.toList ++ rest)) : kW K H locs cells slots (F0 (km K) pc ls st) := by
  have hin : ∀ q, pF P A H.size q → kA K q := by
    intro q hq
    rcases hq with ⟨j, hj, rfl⟩ | hq
    · exact c j hj
    · exact C.fr q (Nat.le_trans d.1 hq)
  intro T hT X
  obtain ⟨v, st₀, t, T', L, h0, X', hL, e1, e2, ⟨v', P', A', g', hv, hp, hI, hN, hAk, hF⟩, stp⟩ := hr T hT X
  cases hv
  have hz := hF.1
  have hk := hF.2
  rw [h0] at hz hk
  obtain ⟨t2, a1, b1⟩ := kk v P' A' g' hp T'.heap (locs ++ L) ls (by rw [e1]; exact hI) hN (fun k hk => hin _ (hAk k hk))
    ⟨Nat.le_trans d.1 (by rw [e1]; exact hz), fun q h1 h2 => by rw [e1, hk q (Nat.lt_of_lt_of_le h1 d.1) (fun z => h2 (hin q z))]; exact d.2.1 q h1 h2, fun q hq => by
      rcases List.mem_append.mp hq with h | h
      · exact d.2.2 q h
      · exact hin _ (hfree _ (hL q h))⟩ e T' rfl X'
  exact ⟨t2, stp t2 a1, b1⟩
theorem g_callV (C : vC K cc own nL rm) {y2 : MethodName} {cc2 : ByteArray} {nL2 : Nat} {ret2 : Option FieldType} {rm2 : Room} {As : List Value} {b ci idx : Nat} {fs : List Value} {q : vw_C} {post2 : pP} (hM : PX y2 cc2 nL2 ret2 rm2 (.ref (A b) :: As) P A g post2)
    (hg : g b = ob ci fs) (hc : vwCl[ci]? = some q) (hq : y2.cls = q.1) (hY : pY y2 cc2 nL2 ret2) (hl : Cond.methodLink own idx y2 ∈ pU)
    (hn : y2.cls ≠ "java/lang/invoke/MethodHandle" ∧ y2.cls ≠ "java/lang/invoke/VarHandle" ∧ (parseMethodDescriptor y2.desc).map (fun d => d.parameters.length) = some As.length)
    (hR : rm2.frames + 1 ≤ rm.frames ∧ 8 + (nL2 + 11) + rm2.locals ≤ rm.locals) (hcs : cells + rm2.cells ≤ rm.cells ∧ slots + rm2.slots ≤ rm.slots) (hcat : (rest.map fun v => v.category).sum ≤ 8)
    (hst : st = As.reverse ++ .ref (A b) :: rest) (hd : decode cc pc = .ok (.invokevirtual idx, 3))
    (kk : ∀ v P' A' g', post2 v P' A' g' → V K (cells + rm2.cells) (slots + rm2.slots) P' A' g' lv (pc + 3) (v.toList ++ rest)) : V K cells slots P A g lv pc st := by
  intro H locs ls a b' c d e
  obtain ⟨i, hi⟩ := p_ix (p_in a (by rw [hg]; exact p_nob hc))
  refine g_back C (va_runV (As := As) (rest := rest) (b := A b) (C := q.1) ⟨C.ex, C.co, C.ml, C.ow, C.ts⟩ (hM (kl K) (kD K) H.size) (cwV As.length C.ts (pU_gV hq hY hl) rfl rfl rfl ⟨hq, hn.1, hn.2.1, hn.2.2⟩ (by rw [C.hr]; exact hR))
    ⟨pre_blind, va_recv C.kk.1 a.1 (q0 := i) hc (by rw [p_at hi, hg]; rfl), fun U hU hW => ⟨rfl, by rw [hU], by rw [hU]; exact a, pK_warm hW C.kk, b'⟩⟩ rfl rfl (e.1.trans C.nn) hst (lv_room hcat) hd (by rw [C.hr]; exact hcs)) (fun q h => h) a b' c d e kk
theorem g_callS (C : vC K cc own nL rm) {y2 : MethodName} {cc2 : ByteArray} {nL2 : Nat} {ret2 : Option FieldType} {rm2 : Room} {As : List Value} {idx : Nat} {post2 : pP} (hM : PX y2 cc2 nL2 ret2 rm2 As P A g post2)
    (hq : y2.cls = own) (hs2 : Cond.static y2 ∈ pU) (hi2 : Cond.initialized own ∈ pU) (hco : Cond.code y2 cc2 nL2 ret2 ∈ pU) (hl : Cond.methodLink own idx y2 ∈ pU)
    (hn : y2.cls ≠ "java/lang/invoke/MethodHandle" ∧ y2.cls ≠ "java/lang/invoke/VarHandle" ∧ (parseMethodDescriptor y2.desc).map (fun d => d.parameters.length) = some As.length)
    (hR : rm2.frames + 1 ≤ rm.frames ∧ 8 + (nL2 + 11) + rm2.locals ≤ rm.locals) (hcs : cells + rm2.cells ≤ rm.cells ∧ slots + rm2.slots ≤ rm.slots) (hcat : (rest.map fun v => v.category).sum ≤ 8)
    (hst : st = As.reverse ++ rest) (hd : decode cc pc = .ok (.invokestatic idx, 3))
    (kk : ∀ v P' A' g', post2 v P' A' g' → V K (cells + rm2.cells) (slots + rm2.slots) P' A' g' lv (pc + 3) (v.toList ++ rest)) : V K cells slots P A g lv pc st := by
  intro H locs ls a b' c d e
  have hG : GoodIn pU (wsS own idx y2 (.code y2 cc2 nL2 ret2 :: pU)) := by
    intro w hw
    rcases List.mem_append.mp hw with hw | hw
    · have hm : w ∈ pU := by
        simp only [List.mem_cons, List.not_mem_nil, or_false] at hw
        rcases hw with rfl | rfl | rfl
        · exact hl
        · exact hs2
        · exact hi2
      exact ⟨hm, good_of_word (pU_good _ hm)⟩
    · exact pU_gi hco w hw
  exact g_back C (va_runS (As := As) (rest := rest) ⟨C.ex, C.co, C.ml, C.ow, C.ts⟩ (hM (kl K) (kD K) H.size) (cwS As.length C.ts hG rfl rfl rfl ⟨hq, hn.1, hn.2.1, hn.2.2⟩ (by rw [C.hr]; exact hR))
    ⟨pre_blind, fun U hU hW => ⟨rfl, by rw [hU], by rw [hU]; exact a, pK_warm hW C.kk, b'⟩⟩ rfl rfl (e.1.trans C.nn) hst (lv_room hcat) hd (by rw [C.hr]; exact hcs)) (fun q h => h) a b' c d e kk
theorem g_callI (C : vC K cc own nL rm) {y2 : MethodName} {cc2 : ByteArray} {nL2 : Nat} {rm2 : Room} {As : List Value} {b idx : Nat} {post2 : pP} (hM : PX y2 cc2 nL2 none rm2 (.ref (A b) :: As) P A g post2)
    (hin : Cond.instanceMethod y2 ∈ pU) (hi2 : Cond.initialized y2.cls ∈ pU) (hco : Cond.code y2 cc2 nL2 none ∈ pU) (hl : Cond.methodLink own idx y2 ∈ pU) (hnm : y2.name = "<init>")
    (hn : y2.cls ≠ "java/lang/invoke/MethodHandle" ∧ y2.cls ≠ "java/lang/invoke/VarHandle" ∧ (parseMethodDescriptor y2.desc).map (fun d => d.parameters.length) = some As.length)
    (hR : rm2.frames + 1 ≤ rm.frames ∧ 8 + (nL2 + 11) + rm2.locals ≤ rm.locals) (hcs : cells + rm2.cells ≤ rm.cells ∧ slots + rm2.slots ≤ rm.slots) (hcat : (rest.map fun v => v.category).sum ≤ 8)
    (hst : st = As.reverse ++ .ref (A b) :: rest) (hd : decode cc pc = .ok (.invokespecial idx, 3))
    (kk : ∀ v P' A' g', post2 v P' A' g' → V K (cells + rm2.cells) (slots + rm2.slots) P' A' g' lv (pc + 3) (v.toList ++ rest)) : V K cells slots P A g lv pc st := by
  intro H locs ls a b' c d e
  exact g_back C (va_runI (As := As) (rest := rest) (b := A b) ⟨C.ex, C.co, C.ml, C.ow, C.ts⟩ (hM (kl K) (kD K) H.size) (cwI As.length C.ts (pU_gi hco) rfl rfl rfl (C.ts _ hi2) (C.ts _ hl) (C.ts _ hin) hnm ⟨hn.1, hn.2.1, hn.2.2⟩ (by rw [C.hr]; exact hR))
    ⟨pre_blind, fun U hU hW => ⟨rfl, by rw [hU], by rw [hU]; exact a, pK_warm hW C.kk, b'⟩⟩ rfl rfl (e.1.trans C.nn) hst (lv_room hcat) hd (by rw [C.hr]; exact hcs)) (fun q h => h) a b' c d e kk
theorem g_callIN (C : vC K cc own nL rm) {y2 : MethodName} {cc2 : ByteArray} {nL2 : Nat} {rm2 : Room} {As : List Value} {b idx : Nat} {host : String} {post2 : pP} (hM : PX y2 cc2 nL2 none rm2 (.ref (A b) :: As) P A g post2)
    (hin : Cond.instanceMethod y2 ∈ pU) (hi2 : Cond.initialized y2.cls ∈ pU) (hco : Cond.code y2 cc2 nL2 none ∈ pU) (hl : Cond.methodLinkNest own idx y2 host ∈ pNws) (hnm : y2.name = "<init>")
    (hn : y2.cls ≠ "java/lang/invoke/MethodHandle" ∧ y2.cls ≠ "java/lang/invoke/VarHandle" ∧ (parseMethodDescriptor y2.desc).map (fun d => d.parameters.length) = some As.length)
    (hR : rm2.frames + 1 ≤ rm.frames ∧ 8 + (nL2 + 11) + rm2.locals ≤ rm.locals) (hcs : cells + rm2.cells ≤ rm.cells ∧ slots + rm2.slots ≤ rm.slots) (hcat : (rest.map fun v => v.category).sum ≤ 8)
    (hst : st = As.reverse ++ .ref (A b) :: rest) (hd : decode cc pc = .ok (.invokespecial idx, 3))
    (kk : ∀ v P' A' g', post2 v P' A' g' → V K (cells + rm2.cells) (slots + rm2.slots) P' A' g' lv (pc + 3) (v.toList ++ rest)) : V K cells slots P A g lv pc st := by
  intro H locs ls a b' c d e
  exact g_back C (va_runIN (As := As) (rest := rest) (b := A b) (host := host) ⟨C.ex, C.co, C.ml, C.ow, C.ts⟩ (hM (kl K) (kD K) H.size) ⟨va_cnB As.length C.ts (pU_gi hco) rfl rfl rfl (C.kk.2.2 _ hl) (C.ts _ hi2) ⟨hn.1, hn.2.1, hn.2.2⟩ (by rw [C.hr]; exact hR), hnm, C.ts _ hin⟩
    ⟨pre_blind, fun U hU hW => ⟨rfl, by rw [hU], by rw [hU]; exact a, pK_warm hW C.kk, b'⟩⟩ rfl rfl (e.1.trans C.nn) hst (lv_room hcat) hd (by rw [C.hr]; exact hcs)) (fun q h => h) a b' c d e kk
theorem g_objInit (C : vC K cc own nL rm) {a0 idx : Nat} (hl : Cond.methodLink own idx Lib.objectInit ∈ pU) (hin : Cond.instanceMethod Lib.objectInit ∈ pU) (hco : Cond.code Lib.objectInit ⟨#[0xb1]⟩ 1 none ∈ pU) (hfr : 1 ≤ rm.frames) (hlo : 12 + (rest.map fun v => v.category).sum ≤ rm.locals) (hd : decode cc pc = .ok (.invokespecial idx, 3)) (kk : V K cells slots P A g lv (pc + 3) rest) : V K cells slots P A g lv pc (.ref a0 :: rest) := by
  intro H locs ls a b c d e
  exact W.objInit C.ex C.co C.ow (C.ts _ hl) (C.ts _ hin) (C.ts _ hco) rfl (e.1.trans (C.nn.trans C.ml.symm)) rfl hd (by rw [C.hr]; exact hfr) (by rw [C.hr]; show 2 * 0 + _ + 12 ≤ _; omega) (kk H locs ls a b c d e)
theorem g_mmax (C : vC K cc own nL rm) {x y z : Int32} {idx : Nat} (hl : Cond.methodLink own idx Lib.Math.max.name ∈ pU) (hs2 : Cond.static Lib.Math.max.name ∈ pU) (hi2 : Cond.initialized "java/lang/Math" ∈ pU) (hco : Cond.code Lib.Math.max.name Lib.Math.max.code 2 (some .int) ∈ pU) (hfr : 1 ≤ rm.frames) (hlo : (rest.map fun v => v.category).sum + 13 ≤ rm.locals) (hcs : cells ≤ rm.cells ∧ slots ≤ rm.slots) (hd : decode cc pc = .ok (.invokestatic idx, 3)) (hz : (if x < y then y else x) = z) (kk : V K cells slots P A g lv (pc + 3) (.int z :: rest)) : V K cells slots P A g lv pc (.int y :: .int x :: rest) := by
  intro H locs ls a b c d e
  exact va_mmax C.ex C.co (C.ml.trans (C.nn.symm.trans e.1.symm)) C.ow (C.ts _ hl) (C.ts _ hs2) (C.ts _ hi2) (C.ts _ hco) (by rw [C.hr]; exact hfr) (by rw [C.hr]; exact hlo) (by rw [C.hr]; exact hcs.1) (by rw [C.hr]; exact hcs.2) hd (by rw [hz]; exact kk H locs ls a b c d e)
theorem g_mmin (C : vC K cc own nL rm) {x y z : Int32} {idx : Nat} (hl : Cond.methodLink own idx Lib.Math.min.name ∈ pU) (hs2 : Cond.static Lib.Math.min.name ∈ pU) (hi2 : Cond.initialized "java/lang/Math" ∈ pU) (hco : Cond.code Lib.Math.min.name Lib.Math.min.code 2 (some .int) ∈ pU) (hfr : 1 ≤ rm.frames) (hlo : (rest.map fun v => v.category).sum + 13 ≤ rm.locals) (hcs : cells ≤ rm.cells ∧ slots ≤ rm.slots) (hd : decode cc pc = .ok (.invokestatic idx, 3)) (hz : (if y < x then y else x) = z) (kk : V K cells slots P A g lv (pc + 3) (.int z :: rest)) : V K cells slots P A g lv pc (.int y :: .int x :: rest) := by
  intro H locs ls a b c d e
  exact va_mmin C.ex C.co (C.ml.trans (C.nn.symm.trans e.1.symm)) C.ow (C.ts _ hl) (C.ts _ hs2) (C.ts _ hi2) (C.ts _ hco) (by rw [C.hr]; exact hfr) (by rw [C.hr]; exact hlo) (by rw [C.hr]; exact hcs.1) (by rw [C.hr]; exact hcs.2) hd (by rw [hz]; exact kk H locs ls a b c d e)
end VR
