-- PART 03: the pool (all cells by their codes), the judgement V over it, a rule for each instruction
abbrev pE : Type := (Nat × vp_A) ⊕ (Nat × List Value)
abbrev pM : Type := Nat → pE
def pcv (D : va_G) : pE → va_E
  | .inl q => .inl (D.1 (20 + q.1), q.2)
  | .inr o => .inr o
def p0 : pE := .inr (999, [])
abbrev ob (c : Nat) (fs : List Value) : pE := .inr (c, fs)
abbrev ai (k n : Nat) (r : Nat → Int32) : pE := .inl (k, n, .inl r)
abbrev aq (k n : Nat) (r : Nat → Option Nat) : pE := .inl (k, n, .inr (.inr (.inr (.inr r))))
abbrev pty (D : va_G) : List (ClassId × FieldType) := [(D.1 20, .int), (D.1 21, .boolean), (D.1 22, .object "ViewBroadcast$Letter"), (D.1 23, .object "ViewBroadcast$Miss"), (D.1 24, .object "ViewBroadcast$Node"), (D.1 25, .object "ViewBroadcast$World")]
def pAOs : List String := ["ViewBroadcast$Letter", "ViewBroadcast$Miss", "ViewBroadcast$Node", "ViewBroadcast$World"]
def pNws : List Cond := [(Jvm.Cond.methodLinkNest "ViewBroadcast" (9 : Nat) ({ cls := "ViewBroadcast$Coins", name := "<init>", desc := "()V" } : Jvm.MethodName) "ViewBroadcast"), (Jvm.Cond.methodLinkNest "ViewBroadcast$World" (11 : Nat) ({ cls := "ViewBroadcast$Sizes", name := "<init>", desc := "()V" } : Jvm.MethodName) "ViewBroadcast"), (Jvm.Cond.methodLinkNest "ViewBroadcast$Node" (53 : Nat) ({ cls := "ViewBroadcast$Miss", name := "<init>", desc := "()V" } : Jvm.MethodName) "ViewBroadcast"), (Jvm.Cond.methodLinkNest "ViewBroadcast$Row" (27 : Nat) ({ cls := "ViewBroadcast$Letter", name := "<init>", desc := "()V" } : Jvm.MethodName) "ViewBroadcast"), (Jvm.Cond.methodLinkNest "ViewBroadcast$World" (40 : Nat) ({ cls := "ViewBroadcast$Letter", name := "<init>", desc := "()V" } : Jvm.MethodName) "ViewBroadcast")]
def pK (D : va_G) (U : State) : Prop := va_K D vwCl (pty D) U ∧ (∀ C ∈ pAOs, va_AO C U) ∧ ∀ w ∈ pNws, va_Nw w U
def pws (D : va_G) (P : List Nat) (A : Nat → Nat) (g : pM) : va_W := P.map (fun k => (A k, pcv D (g k)))
def pI (D : va_G) (P : List Nat) (A : Nat → Nat) (g : pM) (H : Heap) : Prop := va_P D vwCl (pws D P A g) H ∧ ∀ k, k ∉ P → g k = p0
def pN (P : List Nat) (A : Nat → Nat) : Prop := P.Nodup ∧ ∀ i ∈ P, ∀ j ∈ P, A i = A j → i = j
/-- what a method may write: the pool's cells and what is new -/
def pF (P : List Nat) (A : Nat → Nat) (sz : Nat) : Nat → Prop := fun q => (∃ j ∈ P, q = A j) ∨ sz ≤ q
theorem p_ix {P : List Nat} {k : Nat} (h : k ∈ P) : ∃ i : Nat, P[i]? = some k := List.mem_iff_getElem?.mp h
theorem p_at {D : va_G} {P : List Nat} {A : Nat → Nat} {g : pM} {i k : Nat} (h : P[i]? = some k) : (pws D P A g)[i]? = some (A k, pcv D (g k)) := by
  simp [pws, h]
theorem p_up {D : va_G} {P : List Nat} {A : Nat → Nat} {g : pM} {i k : Nat} (hn : P.Nodup) (h : P[i]? = some k) (e : pE) : (pws D P A g).set i (A k, pcv D e) = pws D P A (va_up g k e) := by
  have hlt : i < P.length := (List.getElem?_eq_some_iff.mp h).1
  apply List.ext_getElem?
  intro j
  by_cases hj : j = i
  · subst hj
    rw [List.getElem?_set_self (by simpa [pws] using hlt)]
    simp [pws, h, va_up]
  · rw [List.getElem?_set_ne (Ne.symm hj)]
    simp only [pws, List.getElem?_map]
    cases hb : P[j]? with
    | none => rfl
    | some b =>
      have hne : b ≠ k := by
        intro hbk
        subst hbk
        exact hj ((List.getElem?_inj hlt hn).mp (h.trans hb.symm)).symm
      simp [va_up, hne]
theorem p_D {D : va_G} {P : List Nat} {A : Nat → Nat} {g : pM} {Af : Nat → Prop} (hN : pN P A) (hA : ∀ k ∈ P, Af (A k)) : va_D Af (pws D P A g) := by
  refine ⟨fun i j x y hx hy hxy => ?_, fun i x hx => ?_⟩
  · simp only [pws, List.getElem?_map, Option.map_eq_some_iff] at hx hy
    obtain ⟨a, ha, rfl⟩ := hx
    obtain ⟨b, hb, rfl⟩ := hy
    have hab : a = b := hN.2 a (List.mem_of_getElem? ha) b (List.mem_of_getElem? hb) hxy
    subst hab
    exact (List.getElem?_inj (List.getElem?_eq_some_iff.mp ha).1 hN.1).mp (ha.trans hb.symm)
  · simp only [pws, List.getElem?_map, Option.map_eq_some_iff] at hx
    obtain ⟨a, ha, rfl⟩ := hx
    exact hA a (List.mem_of_getElem? ha)
theorem p_in {D : va_G} {P : List Nat} {A : Nat → Nat} {g : pM} {H : Heap} {k : Nat} (h : pI D P A g H) (hne : g k ≠ p0) : k ∈ P := by
  by_cases hk : k ∈ P
  · exact hk
  · exact absurd (h.2 k hk) hne
theorem p_nil {ar : Nat × vp_A} : (Sum.inl ar : pE) ≠ p0 := by intro h; cases h
theorem p_nob {c : Nat} {fs : List Value} {q : vw_C} (hc : vwCl[c]? = some q) : (Sum.inr (c, fs) : pE) ≠ p0 := by
  intro h
  have h2 : c = 999 := congrArg Prod.fst (Sum.inr.inj h)
  subst h2
  cases hc
theorem p_out {D : va_G} {P : List Nat} {A : Nat → Nat} {g : pM} {H : Heap} {k : Nat} (h : pI D P A g H) (hk : k ∈ P) (e : pE) : ∀ j, j ∉ P → va_up g k e j = p0 := by
  intro j hj
  have : j ≠ k := fun q => hj (q ▸ hk)
  rw [va_up_ne _ _ this]
  exact h.2 j hj
-- the judgement
abbrev vT : Type := Program × Launch × Env × Room × State × MethodId × Array Value × List Frame × Method × Code × va_G × (Nat → Prop) × Heap × Nat × (State → Prop)
abbrev kp (K : vT) : Program := K.1
abbrev kl (K : vT) : Launch := K.2.1
abbrev ke (K : vT) : Env := K.2.2.1
abbrev kR (K : vT) : Room := K.2.2.2.1
abbrev ks (K : vT) : State := K.2.2.2.2.1
abbrev km (K : vT) : MethodId := K.2.2.2.2.2.1
abbrev ka (K : vT) : Array Value := K.2.2.2.2.2.2.1
abbrev kb (K : vT) : List Frame := K.2.2.2.2.2.2.2.1
abbrev kM (K : vT) : Method := K.2.2.2.2.2.2.2.2.1
abbrev kc (K : vT) : Code := K.2.2.2.2.2.2.2.2.2.1
abbrev kD (K : vT) : va_G := K.2.2.2.2.2.2.2.2.2.2.1
abbrev kA (K : vT) : Nat → Prop := K.2.2.2.2.2.2.2.2.2.2.2.1
abbrev kH (K : vT) : Heap := K.2.2.2.2.2.2.2.2.2.2.2.2.1
abbrev kn (K : vT) : Nat := K.2.2.2.2.2.2.2.2.2.2.2.2.2.1
abbrev kQ (K : vT) : State → Prop := K.2.2.2.2.2.2.2.2.2.2.2.2.2.2
/-- the machine at a frame of this method, over this heap, comes to its end -/
def kW (K : vT) (H : Heap) (locs : List Loc) (cells slots : Nat) (g : JFrame) : Prop := W (kp K) (kl K) (ke K) (kR K) (ks K) (km K) (ka K) (kb K) (kM K) (kc K) H locs cells slots (kQ K) g
def V (K : vT) (cells slots : Nat) (P : List Nat) (A : Nat → Nat) (g : pM) (lv : List (Nat × Value)) (pc : Nat) (st : List Value) : Prop :=
  ∀ (H : Heap) (locs : List Loc) (ls : Array Slot), pI (kD K) P A g H → pN P A → (∀ k ∈ P, kA K (A k)) → va_S (kA K) (kH K) H locs → lv_has ls (kn K) lv → kW K H locs cells slots (F0 (km K) pc ls st)
/-- what is known of the machine while a method runs -/
def vC (K : vT) (cc : ByteArray) (own : String) (nL : Nat) (rm : Room) : Prop :=
  (kp K).tables.exec = Jvm.exec ∧ (kc K).code = cc ∧ (∀ w ∈ pU, w.before (ka K) (ks K) = true) ∧ (ks K).vm.findClass own = some (km K).cls ∧ pK (kD K) (ks K) ∧ (∀ q, (kH K).size ≤ q → kA K q) ∧ (kM K).locks = false ∧ (kc K).maxLocals = nL ∧ kn K = nL ∧ kR K = rm
section VC
variable {K : vT} {cc : ByteArray} {own : String} {nL : Nat} {rm : Room} {cells slots : Nat} {P : List Nat} {A : Nat → Nat} {g : pM} {lv : List (Nat × Value)} {pc : Nat} {st rest : List Value}
theorem vC.ex (C : vC K cc own nL rm) : (kp K).tables.exec = Jvm.exec := C.1
theorem vC.co (C : vC K cc own nL rm) : (kc K).code = cc := C.2.1
theorem vC.ts (C : vC K cc own nL rm) : ∀ w ∈ pU, w.before (ka K) (ks K) = true := C.2.2.1
theorem vC.ow (C : vC K cc own nL rm) : (ks K).vm.findClass own = some (km K).cls := C.2.2.2.1
theorem vC.kk (C : vC K cc own nL rm) : pK (kD K) (ks K) := C.2.2.2.2.1
theorem vC.fr (C : vC K cc own nL rm) : ∀ q, (kH K).size ≤ q → kA K q := C.2.2.2.2.2.1
theorem vC.lo (C : vC K cc own nL rm) : (kM K).locks = false := C.2.2.2.2.2.2.1
theorem vC.ml (C : vC K cc own nL rm) : (kc K).maxLocals = nL := C.2.2.2.2.2.2.2.1
theorem vC.nn (C : vC K cc own nL rm) : kn K = nL := C.2.2.2.2.2.2.2.2.1
theorem vC.hr (C : vC K cc own nL rm) : kR K = rm := C.2.2.2.2.2.2.2.2.2
-- constants, locals, stack, arithmetic
theorem g_iconst (C : vC K cc own nL rm) {n : Int} {v : Int32} (hd : decode cc pc = .ok (.iconst n, 1)) (hv : Int32.ofInt n = v) (k : V K cells slots P A g lv (pc + 1) (.int v :: st)) : V K cells slots P A g lv pc st :=
  fun H locs ls a b c d e => lv_iconst C.ex C.co hd hv (k H locs ls a b c d e)
theorem g_bipush (C : vC K cc own nL rm) {n : Int} {v : Int32} (hd : decode cc pc = .ok (.bipush n, 2)) (hv : (Int8.ofInt n).toInt32 = v) (k : V K cells slots P A g lv (pc + 2) (.int v :: st)) : V K cells slots P A g lv pc st :=
  fun H locs ls a b c d e => lv_bipush C.ex C.co hd hv (k H locs ls a b c d e)
theorem g_sipush (C : vC K cc own nL rm) {n : Int} {v : Int32} (hd : decode cc pc = .ok (.sipush n, 3)) (hv : (Int16.ofInt n).toInt32 = v) (k : V K cells slots P A g lv (pc + 3) (.int v :: st)) : V K cells slots P A g lv pc st :=
  fun H locs ls a b c d e => lv_sipush C.ex C.co hd hv (k H locs ls a b c d e)
theorem g_lconst (C : vC K cc own nL rm) {n : Fin 2} {v : Int64} (hd : decode cc pc = .ok (.lconst n, 1)) (hv : Int64.ofNat (n : Nat) = v) (k : V K cells slots P A g lv (pc + 1) (.long v :: st)) : V K cells slots P A g lv pc st :=
  fun H locs ls a b c d e => lv_lconst C.ex C.co hd hv (k H locs ls a b c d e)
theorem g_ldc2 (C : vC K cc own nL rm) {idx : Nat} {v : Int64} (hd : decode cc pc = .ok (.ldc2_w idx, 3)) (hw : Cond.constantLong own idx v ∈ pU) (k : V K cells slots P A g lv (pc + 3) (.long v :: st)) : V K cells slots P A g lv pc st :=
  fun H locs ls a b c d e => lv_ldc2 C.ex C.co C.ow (C.ts _ hw) hd (k H locs ls a b c d e)
theorem g_iload_n (C : vC K cc own nL rm) {k : Fin 4} {x : Int32} (hd : decode cc pc = .ok (.iload_n k, 1)) (j : Nat) (hl : lv[j]? = some ((k : Nat), .int x)) (kk : V K cells slots P A g lv (pc + 1) (.int x :: st)) : V K cells slots P A g lv pc st :=
  fun H locs ls a b c d e => lv_iload_n C.ex C.co hd rfl (lv_at e j hl) (kk H locs ls a b c d e)
theorem g_iload (C : vC K cc own nL rm) {i : Nat} {x : Int32} (hd : decode cc pc = .ok (.iload i, 2)) (j : Nat) (hl : lv[j]? = some (i, .int x)) (kk : V K cells slots P A g lv (pc + 2) (.int x :: st)) : V K cells slots P A g lv pc st :=
  fun H locs ls a b c d e => lv_iload C.ex C.co hd (lv_at e j hl) (kk H locs ls a b c d e)
theorem g_aload_n (C : vC K cc own nL rm) {k : Fin 4} {x : Nat} (hd : decode cc pc = .ok (.aload_n k, 1)) (j : Nat) (hl : lv[j]? = some ((k : Nat), .ref x)) (kk : V K cells slots P A g lv (pc + 1) (.ref x :: st)) : V K cells slots P A g lv pc st :=
  fun H locs ls a b c d e => lv_aload_n C.ex C.co hd rfl (lv_at e j hl) (kk H locs ls a b c d e)
theorem g_aload (C : vC K cc own nL rm) {i : Nat} {x : Nat} (hd : decode cc pc = .ok (.aload i, 2)) (j : Nat) (hl : lv[j]? = some (i, .ref x)) (kk : V K cells slots P A g lv (pc + 2) (.ref x :: st)) : V K cells slots P A g lv pc st :=
  fun H locs ls a b c d e => lv_aload C.ex C.co hd (lv_at e j hl) (kk H locs ls a b c d e)
theorem g_aloadN (C : vC K cc own nL rm) {i : Nat} (hd : decode cc pc = .ok (.aload i, 2)) (j : Nat) (hl : lv[j]? = some (i, .null)) (kk : V K cells slots P A g lv (pc + 2) (.null :: st)) : V K cells slots P A g lv pc st :=
  fun H locs ls a b c d e => lv_aloadN C.ex C.co hd (lv_at e j hl) (kk H locs ls a b c d e)
theorem g_lload_n (C : vC K cc own nL rm) {k : Fin 4} {x : Int64} (hd : decode cc pc = .ok (.lload_n k, 1)) (j : Nat) (hl : lv[j]? = some ((k : Nat), .long x)) (kk : V K cells slots P A g lv (pc + 1) (.long x :: st)) : V K cells slots P A g lv pc st :=
  fun H locs ls a b c d e => lv_lload_n C.ex C.co hd rfl (lv_at e j hl) (kk H locs ls a b c d e)
theorem g_lload (C : vC K cc own nL rm) {i : Nat} {x : Int64} (hd : decode cc pc = .ok (.lload i, 2)) (j : Nat) (hl : lv[j]? = some (i, .long x)) (kk : V K cells slots P A g lv (pc + 2) (.long x :: st)) : V K cells slots P A g lv pc st :=
  fun H locs ls a b c d e => lv_lload C.ex C.co hd (lv_at e j hl) (kk H locs ls a b c d e)
/-- the list of locals behind a store: shorter or re-ordered lists do as well -/
theorem lv_le {ls : Array Slot} {n : Nat} {l l' : List (Nat × Value)} (h : lv_has ls n l) (hs : ∀ q ∈ l', q ∈ l) : lv_has ls n l' := ⟨h.1, h.2.1, fun q hq => h.2.2 q (hs q hq)⟩
def lvst (lv : List (Nat × Value)) (i : Nat) (v : Value) : List (Nat × Value) := (i, v) :: lv.filter (fun q => !(q.1 == i) && !(q.1 + 1 == i && q.2.category == 2))
theorem g_istore_n (C : vC K cc own nL rm) {k : Fin 4} {x : Int32} (hd : decode cc pc = .ok (.istore_n k, 1)) (hn : (k : Nat) < nL) {lv' : List (Nat × Value)} (ps : List Nat) (hl : lv_pick (lvst lv k (.int x)) ps = lv') (kk : V K cells slots P A g lv' (pc + 1) st) : V K cells slots P A g lv pc (.int x :: st) :=
  fun H locs ls a b c d e => lv_istore_n C.ex C.co hd rfl e (by rw [C.nn]; exact hn) rfl (fun ls' hl' => kk H locs ls' a b c d (lv_sub hl' ps hl))
theorem g_istore (C : vC K cc own nL rm) {i : Nat} {x : Int32} (hd : decode cc pc = .ok (.istore i, 2)) (hn : i < nL) {lv' : List (Nat × Value)} (ps : List Nat) (hl : lv_pick (lvst lv i (.int x)) ps = lv') (kk : V K cells slots P A g lv' (pc + 2) st) : V K cells slots P A g lv pc (.int x :: st) :=
  fun H locs ls a b c d e => lv_istore C.ex C.co hd e (by rw [C.nn]; exact hn) rfl (fun ls' hl' => kk H locs ls' a b c d (lv_sub hl' ps hl))
theorem g_astore_n (C : vC K cc own nL rm) {k : Fin 4} {x : Nat} (hd : decode cc pc = .ok (.astore_n k, 1)) (hn : (k : Nat) < nL) {lv' : List (Nat × Value)} (ps : List Nat) (hl : lv_pick (lvst lv k (.ref x)) ps = lv') (kk : V K cells slots P A g lv' (pc + 1) st) : V K cells slots P A g lv pc (.ref x :: st) :=
  fun H locs ls a b c d e => lv_astore_n C.ex C.co hd rfl e (by rw [C.nn]; exact hn) rfl (fun ls' hl' => kk H locs ls' a b c d (lv_sub hl' ps hl))
theorem g_astore (C : vC K cc own nL rm) {i : Nat} {x : Nat} (hd : decode cc pc = .ok (.astore i, 2)) (hn : i < nL) {lv' : List (Nat × Value)} (ps : List Nat) (hl : lv_pick (lvst lv i (.ref x)) ps = lv') (kk : V K cells slots P A g lv' (pc + 2) st) : V K cells slots P A g lv pc (.ref x :: st) :=
  fun H locs ls a b c d e => lv_astore C.ex C.co hd e (by rw [C.nn]; exact hn) rfl (fun ls' hl' => kk H locs ls' a b c d (lv_sub hl' ps hl))
theorem g_astoreN (C : vC K cc own nL rm) {i : Nat} (hd : decode cc pc = .ok (.astore i, 2)) (hn : i < nL) {lv' : List (Nat × Value)} (ps : List Nat) (hl : lv_pick (lvst lv i .null) ps = lv') (kk : V K cells slots P A g lv' (pc + 2) st) : V K cells slots P A g lv pc (.null :: st) :=
  fun H locs ls a b c d e => lv_astoreN C.ex C.co hd e (by rw [C.nn]; exact hn) rfl (fun ls' hl' => kk H locs ls' a b c d (lv_sub hl' ps hl))
theorem g_iinc (C : vC K cc own nL rm) {i : Nat} {n : Int} {x v : Int32} (hd : decode cc pc = .ok (.iinc i n, 3)) (hn : i < nL) (j : Nat) (hk : lv[j]? = some (i, .int x)) (hv : x + Int32.ofInt n = v) {lv' : List (Nat × Value)} (ps : List Nat) (hl : lv_pick (lvst lv i (.int v)) ps = lv') (kk : V K cells slots P A g lv' (pc + 3) st) : V K cells slots P A g lv pc st :=
  fun H locs ls a b c d e => lv_iinc C.ex C.co hd e hk hv (by rw [C.nn]; exact hn) rfl (fun ls' hl' => kk H locs ls' a b c d (lv_sub hl' ps hl))
theorem g_sub (ps : List Nat) {lv' : List (Nat × Value)} (h : lv_pick lv ps = lv') (kk : V K cells slots P A g lv' pc st) : V K cells slots P A g lv pc st :=
  fun H locs ls a b c d e => kk H locs ls a b c d (lv_sub e ps h)
theorem g_iadd (C : vC K cc own nL rm) {x y z : Int32} (hd : decode cc pc = .ok (.iadd, 1)) (hz : x + y = z) (k : V K cells slots P A g lv (pc + 1) (.int z :: st)) : V K cells slots P A g lv pc (.int y :: .int x :: st) :=
  fun H locs ls a b c d e => lv_iadd C.ex C.co hd (by rw [hz]; exact k H locs ls a b c d e)
theorem g_isub (C : vC K cc own nL rm) {x y z : Int32} (hd : decode cc pc = .ok (.isub, 1)) (hz : x - y = z) (k : V K cells slots P A g lv (pc + 1) (.int z :: st)) : V K cells slots P A g lv pc (.int y :: .int x :: st) :=
  fun H locs ls a b c d e => lv_isub C.ex C.co hd (by rw [hz]; exact k H locs ls a b c d e)
theorem g_imul (C : vC K cc own nL rm) {x y z : Int32} (hd : decode cc pc = .ok (.imul, 1)) (hz : x * y = z) (k : V K cells slots P A g lv (pc + 1) (.int z :: st)) : V K cells slots P A g lv pc (.int y :: .int x :: st) :=
  fun H locs ls a b c d e => lv_imul C.ex C.co hd (by rw [hz]; exact k H locs ls a b c d e)
theorem g_iand (C : vC K cc own nL rm) {x y z : Int32} (hd : decode cc pc = .ok (.iand, 1)) (hz : x &&& y = z) (k : V K cells slots P A g lv (pc + 1) (.int z :: st)) : V K cells slots P A g lv pc (.int y :: .int x :: st) :=
  fun H locs ls a b c d e => lv_iand C.ex C.co hd (by rw [hz]; exact k H locs ls a b c d e)
theorem g_ior (C : vC K cc own nL rm) {x y z : Int32} (hd : decode cc pc = .ok (.ior, 1)) (hz : x ||| y = z) (k : V K cells slots P A g lv (pc + 1) (.int z :: st)) : V K cells slots P A g lv pc (.int y :: .int x :: st) :=
  fun H locs ls a b c d e => lv_ior C.ex C.co hd (by rw [hz]; exact k H locs ls a b c d e)
theorem g_ixor (C : vC K cc own nL rm) {x y z : Int32} (hd : decode cc pc = .ok (.ixor, 1)) (hz : x ^^^ y = z) (k : V K cells slots P A g lv (pc + 1) (.int z :: st)) : V K cells slots P A g lv pc (.int y :: .int x :: st) :=
  fun H locs ls a b c d e => lv_ixor C.ex C.co hd (by rw [hz]; exact k H locs ls a b c d e)
theorem g_ishl (C : vC K cc own nL rm) {x y z : Int32} (hd : decode cc pc = .ok (.ishl, 1)) (hz : x <<< (y &&& 31) = z) (k : V K cells slots P A g lv (pc + 1) (.int z :: st)) : V K cells slots P A g lv pc (.int y :: .int x :: st) :=
  fun H locs ls a b c d e => lv_ishl C.ex C.co hd (by rw [hz]; exact k H locs ls a b c d e)
theorem g_ishr (C : vC K cc own nL rm) {x y z : Int32} (hd : decode cc pc = .ok (.ishr, 1)) (hz : x >>> (y &&& 31) = z) (k : V K cells slots P A g lv (pc + 1) (.int z :: st)) : V K cells slots P A g lv pc (.int y :: .int x :: st) :=
  fun H locs ls a b c d e => lv_ishr C.ex C.co hd (by rw [hz]; exact k H locs ls a b c d e)
theorem g_idiv (C : vC K cc own nL rm) {x y z : Int32} (hd : decode cc pc = .ok (.idiv, 1)) (hne : ¬ y = 0) (hz : x / y = z) (k : V K cells slots P A g lv (pc + 1) (.int z :: st)) : V K cells slots P A g lv pc (.int y :: .int x :: st) :=
  fun H locs ls a b c d e => lv_idiv C.ex C.co hd hne (by rw [hz]; exact k H locs ls a b c d e)
theorem g_irem (C : vC K cc own nL rm) {x y z : Int32} (hd : decode cc pc = .ok (.irem, 1)) (hne : ¬ y = 0) (hz : x - x / y * y = z) (k : V K cells slots P A g lv (pc + 1) (.int z :: st)) : V K cells slots P A g lv pc (.int y :: .int x :: st) :=
  fun H locs ls a b c d e => lv_irem C.ex C.co hd hne (by rw [hz]; exact k H locs ls a b c d e)
theorem g_i2l (C : vC K cc own nL rm) {x : Int32} (hd : decode cc pc = .ok (.i2l, 1)) (k : V K cells slots P A g lv (pc + 1) (.long x.toInt64 :: st)) : V K cells slots P A g lv pc (.int x :: st) :=
  fun H locs ls a b c d e => lv_i2l C.ex C.co hd rfl (k H locs ls a b c d e)
theorem g_lcmp (C : vC K cc own nL rm) {x y : Int64} (hd : decode cc pc = .ok (.lcmp, 1)) (k : V K cells slots P A g lv (pc + 1) (.int (lg_cmp x y) :: st)) : V K cells slots P A g lv pc (.long y :: .long x :: st) :=
  fun H locs ls a b c d e => W.lcmp C.ex C.co hd (k H locs ls a b c d e)
theorem g_dup (C : vC K cc own nL rm) {v : Value} (hd : decode cc pc = .ok (.dup, 1)) (hv : v.category = 1) (k : V K cells slots P A g lv (pc + 1) (v :: v :: st)) : V K cells slots P A g lv pc (v :: st) :=
  fun H locs ls a b c d e => lv_dup C.ex C.co hd hv (k H locs ls a b c d e)
theorem g_dup2 (C : vC K cc own nL rm) {v w : Value} (hd : decode cc pc = .ok (.dup2, 1)) (hv : v.category = 1) (hw : w.category = 1) (k : V K cells slots P A g lv (pc + 1) (v :: w :: v :: w :: st)) : V K cells slots P A g lv pc (v :: w :: st) :=
  fun H locs ls a b c d e => lv_dup2_11 C.ex C.co hd hv hw (k H locs ls a b c d e)
theorem g_pop (C : vC K cc own nL rm) {v : Value} (hd : decode cc pc = .ok (.pop, 1)) (hv : v.category = 1) (k : V K cells slots P A g lv (pc + 1) st) : V K cells slots P A g lv pc (v :: st) :=
  fun H locs ls a b c d e => lv_pop C.ex C.co hd hv (k H locs ls a b c d e)
theorem g_null (C : vC K cc own nL rm) (hd : decode cc pc = .ok (.aconst_null, 1)) (k : V K cells slots P A g lv (pc + 1) (.null :: st)) : V K cells slots P A g lv pc st :=
  fun H locs ls a b c d e => lv_null C.ex C.co hd (k H locs ls a b c d e)
theorem g_goto (C : vC K cc own nL rm) {off : Int} {tgt : Nat} (hd : decode cc pc = .ok (.goto off, 3)) (ht : (pc : Int) + off = (tgt : Int)) (k : V K cells slots P A g lv tgt st) : V K cells slots P A g lv pc st :=
  fun H locs ls a b c d e => lv_goto C.ex C.co hd ht (k H locs ls a b c d e)
theorem g_if_eq (C : vC K cc own nL rm) {x : Int32} {off : Int} {tgt : Nat} (hd : decode cc pc = .ok (.ifCond .eq off, 3)) (ht : (pc : Int) + off = (tgt : Int)) (kt : x = 0 → V K cells slots P A g lv tgt st) (kf : ¬ x = 0 → V K cells slots P A g lv (pc + 3) st) : V K cells slots P A g lv pc (.int x :: st) :=
  fun H locs ls a b c d e => lv_if_eq C.ex C.co hd ht (fun h => kt h H locs ls a b c d e) (fun h => kf h H locs ls a b c d e)
theorem g_if_ne (C : vC K cc own nL rm) {x : Int32} {off : Int} {tgt : Nat} (hd : decode cc pc = .ok (.ifCond .ne off, 3)) (ht : (pc : Int) + off = (tgt : Int)) (kt : ¬ x = 0 → V K cells slots P A g lv tgt st) (kf : x = 0 → V K cells slots P A g lv (pc + 3) st) : V K cells slots P A g lv pc (.int x :: st) :=
  fun H locs ls a b c d e => lv_if_ne C.ex C.co hd ht (fun h => kt h H locs ls a b c d e) (fun h => kf h H locs ls a b c d e)
theorem g_if_lt (C : vC K cc own nL rm) {x : Int32} {off : Int} {tgt : Nat} (hd : decode cc pc = .ok (.ifCond .lt off, 3)) (ht : (pc : Int) + off = (tgt : Int)) (kt : x < 0 → V K cells slots P A g lv tgt st) (kf : ¬ x < 0 → V K cells slots P A g lv (pc + 3) st) : V K cells slots P A g lv pc (.int x :: st) :=
  fun H locs ls a b c d e => lv_if_lt C.ex C.co hd ht (fun h => kt h H locs ls a b c d e) (fun h => kf h H locs ls a b c d e)
theorem g_if_ge (C : vC K cc own nL rm) {x : Int32} {off : Int} {tgt : Nat} (hd : decode cc pc = .ok (.ifCond .ge off, 3)) (ht : (pc : Int) + off = (tgt : Int)) (kt : 0 ≤ x → V K cells slots P A g lv tgt st) (kf : ¬ 0 ≤ x → V K cells slots P A g lv (pc + 3) st) : V K cells slots P A g lv pc (.int x :: st) :=
  fun H locs ls a b c d e => lv_if_ge C.ex C.co hd ht (fun h => kt h H locs ls a b c d e) (fun h => kf h H locs ls a b c d e)
theorem g_if_gt (C : vC K cc own nL rm) {x : Int32} {off : Int} {tgt : Nat} (hd : decode cc pc = .ok (.ifCond .gt off, 3)) (ht : (pc : Int) + off = (tgt : Int)) (kt : 0 < x → V K cells slots P A g lv tgt st) (kf : ¬ 0 < x → V K cells slots P A g lv (pc + 3) st) : V K cells slots P A g lv pc (.int x :: st) :=
  fun H locs ls a b c d e => lv_if_gt C.ex C.co hd ht (fun h => kt h H locs ls a b c d e) (fun h => kf h H locs ls a b c d e)
theorem g_if_le (C : vC K cc own nL rm) {x : Int32} {off : Int} {tgt : Nat} (hd : decode cc pc = .ok (.ifCond .le off, 3)) (ht : (pc : Int) + off = (tgt : Int)) (kt : x ≤ 0 → V K cells slots P A g lv tgt st) (kf : ¬ x ≤ 0 → V K cells slots P A g lv (pc + 3) st) : V K cells slots P A g lv pc (.int x :: st) :=
  fun H locs ls a b c d e => lv_if_le C.ex C.co hd ht (fun h => kt h H locs ls a b c d e) (fun h => kf h H locs ls a b c d e)
theorem g_icmp_eq (C : vC K cc own nL rm) {x y : Int32} {off : Int} {tgt : Nat} (hd : decode cc pc = .ok (.if_icmp .eq off, 3)) (ht : (pc : Int) + off = (tgt : Int)) (kt : x = y → V K cells slots P A g lv tgt st) (kf : ¬ x = y → V K cells slots P A g lv (pc + 3) st) : V K cells slots P A g lv pc (.int y :: .int x :: st) :=
  fun H locs ls a b c d e => lv_icmp_eq C.ex C.co hd ht (fun h => kt h H locs ls a b c d e) (fun h => kf h H locs ls a b c d e)
theorem g_icmp_ne (C : vC K cc own nL rm) {x y : Int32} {off : Int} {tgt : Nat} (hd : decode cc pc = .ok (.if_icmp .ne off, 3)) (ht : (pc : Int) + off = (tgt : Int)) (kt : ¬ x = y → V K cells slots P A g lv tgt st) (kf : x = y → V K cells slots P A g lv (pc + 3) st) : V K cells slots P A g lv pc (.int y :: .int x :: st) :=
  fun H locs ls a b c d e => lv_icmp_ne C.ex C.co hd ht (fun h => kt h H locs ls a b c d e) (fun h => kf h H locs ls a b c d e)
theorem g_icmp_lt (C : vC K cc own nL rm) {x y : Int32} {off : Int} {tgt : Nat} (hd : decode cc pc = .ok (.if_icmp .lt off, 3)) (ht : (pc : Int) + off = (tgt : Int)) (kt : x < y → V K cells slots P A g lv tgt st) (kf : ¬ x < y → V K cells slots P A g lv (pc + 3) st) : V K cells slots P A g lv pc (.int y :: .int x :: st) :=
  fun H locs ls a b c d e => lv_icmp_lt C.ex C.co hd ht (fun h => kt h H locs ls a b c d e) (fun h => kf h H locs ls a b c d e)
theorem g_icmp_ge (C : vC K cc own nL rm) {x y : Int32} {off : Int} {tgt : Nat} (hd : decode cc pc = .ok (.if_icmp .ge off, 3)) (ht : (pc : Int) + off = (tgt : Int)) (kt : y ≤ x → V K cells slots P A g lv tgt st) (kf : ¬ y ≤ x → V K cells slots P A g lv (pc + 3) st) : V K cells slots P A g lv pc (.int y :: .int x :: st) :=
  fun H locs ls a b c d e => lv_icmp_ge C.ex C.co hd ht (fun h => kt h H locs ls a b c d e) (fun h => kf h H locs ls a b c d e)
theorem g_icmp_gt (C : vC K cc own nL rm) {x y : Int32} {off : Int} {tgt : Nat} (hd : decode cc pc = .ok (.if_icmp .gt off, 3)) (ht : (pc : Int) + off = (tgt : Int)) (kt : y < x → V K cells slots P A g lv tgt st) (kf : ¬ y < x → V K cells slots P A g lv (pc + 3) st) : V K cells slots P A g lv pc (.int y :: .int x :: st) :=
  fun H locs ls a b c d e => lv_icmp_gt C.ex C.co hd ht (fun h => kt h H locs ls a b c d e) (fun h => kf h H locs ls a b c d e)
theorem g_icmp_le (C : vC K cc own nL rm) {x y : Int32} {off : Int} {tgt : Nat} (hd : decode cc pc = .ok (.if_icmp .le off, 3)) (ht : (pc : Int) + off = (tgt : Int)) (kt : x ≤ y → V K cells slots P A g lv tgt st) (kf : ¬ x ≤ y → V K cells slots P A g lv (pc + 3) st) : V K cells slots P A g lv pc (.int y :: .int x :: st) :=
  fun H locs ls a b c d e => lv_icmp_le C.ex C.co hd ht (fun h => kt h H locs ls a b c d e) (fun h => kf h H locs ls a b c d e)
theorem g_ifnullR (C : vC K cc own nL rm) {x : Nat} {off : Int} (hd : decode cc pc = .ok (.ifnull off, 3)) (k : V K cells slots P A g lv (pc + 3) st) : V K cells slots P A g lv pc (.ref x :: st) :=
  fun H locs ls a b c d e => lv_ifnull C.ex C.co hd (k H locs ls a b c d e)
theorem g_ifnullN (C : vC K cc own nL rm) {off : Int} {tgt : Nat} (hd : decode cc pc = .ok (.ifnull off, 3)) (ht : (pc : Int) + off = (tgt : Int)) (k : V K cells slots P A g lv tgt st) : V K cells slots P A g lv pc (.null :: st) :=
  fun H locs ls a b c d e => lv_ifnullN C.ex C.co hd ht (k H locs ls a b c d e)
theorem g_ifnonnullR (C : vC K cc own nL rm) {x : Nat} {off : Int} {tgt : Nat} (hd : decode cc pc = .ok (.ifnonnull off, 3)) (ht : (pc : Int) + off = (tgt : Int)) (k : V K cells slots P A g lv tgt st) : V K cells slots P A g lv pc (.ref x :: st) :=
  fun H locs ls a b c d e => lv_ifnonnull C.ex C.co hd ht (k H locs ls a b c d e)
theorem g_ifnonnullN (C : vC K cc own nL rm) {off : Int} (hd : decode cc pc = .ok (.ifnonnull off, 3)) (k : V K cells slots P A g lv (pc + 3) st) : V K cells slots P A g lv pc (.null :: st) :=
  fun H locs ls a b c d e => lv_ifnonnullN C.ex C.co hd (k H locs ls a b c d e)
theorem g_tswO (C : vC K cc own nL rm) {dflt lo hi : Int} {offs : Array Int} {len : Nat} {x : Int32} {tgt : Nat} (hd : decode cc pc = .ok (.tableswitch dflt lo hi offs, len)) (h : x.toInt < lo ∨ hi < x.toInt) (ht : (pc : Int) + dflt = (tgt : Int)) (k : V K cells slots P A g lv tgt st) : V K cells slots P A g lv pc (.int x :: st) :=
  fun H locs ls a b c d e => lv_tableOut C.ex C.co hd h ht (k H locs ls a b c d e)
theorem g_tswI (C : vC K cc own nL rm) {dflt lo hi : Int} {offs : Array Int} {len : Nat} {x : Int32} {off : Int} {tgt : Nat} (hd : decode cc pc = .ok (.tableswitch dflt lo hi offs, len)) (h1 : ¬ x.toInt < lo) (h2 : ¬ hi < x.toInt) (ho : offs[(x.toInt - lo).toNat]? = some off) (ht : (pc : Int) + off = (tgt : Int)) (k : V K cells slots P A g lv tgt st) : V K cells slots P A g lv pc (.int x :: st) :=
  fun H locs ls a b c d e => lv_tableIn C.ex C.co hd h1 h2 ho ht (k H locs ls a b c d e)
-- fields
theorem in_all {ci : Nat} {q : vw_C} (hc : vwCl[ci]? = some q) : ∀ w ∈ u_ws q.1 q.2.1 q.2.2, w ∈ pU := by
  match ci, hc with
  | 0, hc => cases hc; exact in_X0
  | 1, hc => cases hc; exact in_X1
  | 2, hc => cases hc; exact in_X2
  | 3, hc => cases hc; exact in_X3
  | 4, hc => cases hc; exact in_X4
  | 5, hc => cases hc; exact in_X5
  | 6, hc => cases hc; exact in_X6
  | 7, hc => cases hc; exact in_X7
  | 8, hc => cases hc; exact in_X8
  | 9, hc => cases hc; exact in_X9
  | 10, hc => cases hc; exact in_X10
  | 11, hc => cases hc; exact in_X11
  | n + 12, hc => exact absurd hc (by simp [vwCl])
theorem ty_all {ci : Nat} {q : vw_C} (hc : vwCl[ci]? = some q) : ∃ ty : Nat → FieldType, ∀ k, k < q.2.2 → parseFieldDescriptor (q.2.1 k).2.2.1 = some (ty k) := by
  match ci, hc with
  | 0, hc => cases hc; exact ⟨tyX0, tyX0_ok⟩
  | 1, hc => cases hc; exact ⟨tyX1, tyX1_ok⟩
  | 2, hc => cases hc; exact ⟨tyX2, tyX2_ok⟩
  | 3, hc => cases hc; exact ⟨tyX3, tyX3_ok⟩
  | 4, hc => cases hc; exact ⟨tyX4, tyX4_ok⟩
  | 5, hc => cases hc; exact ⟨tyX5, tyX5_ok⟩
  | 6, hc => cases hc; exact ⟨tyX6, tyX6_ok⟩
  | 7, hc => cases hc; exact ⟨tyX7, tyX7_ok⟩
  | 8, hc => cases hc; exact ⟨tyX8, tyX8_ok⟩
  | 9, hc => cases hc; exact ⟨tyX9, tyX9_ok⟩
  | 10, hc => cases hc; exact ⟨tyX10, tyX10_ok⟩
  | 11, hc => cases hc; exact ⟨tyX11, tyX11_ok⟩
  | n + 12, hc => exact absurd hc (by simp [vwCl])
theorem nm_all {ci : Nat} {q : vw_C} (hc : vwCl[ci]? = some q) : ∀ a, a < q.2.2 → ∀ b, b < q.2.2 → a ≠ b → (q.2.1 a).2.1 ≠ (q.2.1 b).2.1 := by
  match ci, hc with
  | 0, hc => cases hc; exact nmX0
  | 1, hc => cases hc; exact nmX1
  | 2, hc => cases hc; exact nmX2
  | 3, hc => cases hc; exact nmX3
  | 4, hc => cases hc; exact nmX4
  | 5, hc => cases hc; exact nmX5
  | 6, hc => cases hc; exact nmX6
  | 7, hc => cases hc; exact nmX7
  | 8, hc => cases hc; exact nmX8
  | 9, hc => cases hc; exact nmX9
  | 10, hc => cases hc; exact nmX10
  | 11, hc => cases hc; exact nmX11
  | n + 12, hc => exact absurd hc (by simp [vwCl])
theorem g_get (C : vC K cc own nL rm) {k ci j idx : Nat} {fs : List Value} {v : Value} {q : vw_C} (hg : g k = ob ci fs) (hc : vwCl[ci]? = some q) (hv : fs[j]? = some v) (hj : j < q.2.2) (hw : Cond.fieldLink own idx (q.2.1 j).1 (q.2.1 j).2.1 (q.2.1 j).2.2.1 ∈ pU) (hd : decode cc pc = .ok (.getfield idx, 3)) (kk : V K cells slots P A g lv (pc + 3) (v :: st)) : V K cells slots P A g lv pc (.ref (A k) :: st) := by
  intro H locs ls a b c d e
  obtain ⟨i, hi⟩ := p_ix (p_in a (by rw [hg]; exact p_nob hc))
  obtain ⟨C1, T1, N1⟩ := q
  exact va_get C.ex C.co C.ts (in_all hc) C.ow C.kk.1 a.1 i (by rw [p_at hi, hg]; rfl) hc j hj (C.ts _ hw) (fun _ h => h) hv hd (kk H locs ls a b c d e)
theorem g_put (C : vC K cc own nL rm) {k ci j idx : Nat} {fs : List Value} {v : Value} {q : vw_C} {ty : FieldType} (hg : g k = ob ci fs) (hc : vwCl[ci]? = some q) (hj : j < q.2.2) (hl : j < fs.length) (hw : Cond.fieldLink own idx (q.2.1 j).1 (q.2.1 j).2.1 (q.2.1 j).2.2.1 ∈ pU) (hfin : (q.2.1 j).2.2.2 = false) (hty : parseFieldDescriptor (q.2.1 j).2.2.1 = some ty) (hn : narrow ty v = v) (hfit : fits ty v = true) (hd : decode cc pc = .ok (.putfield idx, 3)) (kk : V K cells slots P A (va_up g k (ob ci (fs.set j v))) lv (pc + 3) st) : V K cells slots P A g lv pc (v :: .ref (A k) :: st) := by
  intro H locs ls a b c d e
  have hk : k ∈ P := p_in a (by rw [hg]; exact p_nob hc)
  obtain ⟨i, hi⟩ := p_ix hk
  obtain ⟨C1, T1, N1⟩ := q
  obtain ⟨ty0, hty0⟩ := ty_all hc
  refine va_put C.ex C.co C.ts (in_all hc) ty0 hty0 (nm_all hc) C.ow C.kk.1 a.1 (p_D b c) d i (fs := fs) (by rw [p_at hi, hg]; rfl) hc j hj (C.ts _ hw) (fun _ h => h) hfin hty hn hfit hl hd (fun H1 locs1 hP hD hS => ?_)
  refine kk H1 locs1 ls ⟨?_, p_out a hk _⟩ b c hS e
  have := p_up (D := kD K) (A := A) (g := g) b.1 hi (ob ci (fs.set j v))
  rw [← this]
  exact hP
theorem g_putF (C : vC K cc own nL rm) {k ci j idx : Nat} {fs : List Value} {v : Value} {q : vw_C} {ty : FieldType} (hinit : (kM K).name = "<init>") (hg : g k = ob ci fs) (hc : vwCl[ci]? = some q) (hj : j < q.2.2) (hl : j < fs.length) (hw : Cond.fieldLink own idx (q.2.1 j).1 (q.2.1 j).2.1 (q.2.1 j).2.2.1 ∈ pU) (hfin : (q.2.1 j).2.2.2 = true) (hown : (q.2.1 j).1 = own) (hty : parseFieldDescriptor (q.2.1 j).2.2.1 = some ty) (hn : narrow ty v = v) (hfit : fits ty v = true) (hd : decode cc pc = .ok (.putfield idx, 3)) (kk : V K cells slots P A (va_up g k (ob ci (fs.set j v))) lv (pc + 3) st) : V K cells slots P A g lv pc (v :: .ref (A k) :: st) := by
  intro H locs ls a b c d e
  have hk : k ∈ P := p_in a (by rw [hg]; exact p_nob hc)
  obtain ⟨i, hi⟩ := p_ix hk
  obtain ⟨C1, T1, N1⟩ := q
  obtain ⟨ty0, hty0⟩ := ty_all hc
  refine va_putF C.ex C.co C.ts (in_all hc) ty0 hty0 (nm_all hc) C.ow C.kk.1 a.1 (p_D b c) d i (fs := fs) (by rw [p_at hi, hg]; rfl) hc j hj (C.ts _ hw) (fun _ h => h) hfin hinit hown hty hn hfit hl hd (fun H1 locs1 hP hD hS => ?_)
  refine kk H1 locs1 ls ⟨?_, p_out a hk _⟩ b c hS e
  have := p_up (D := kD K) (A := A) (g := g) b.1 hi (ob ci (fs.set j v))
  rw [← this]
  exact hP
-- arrays
theorem g_iald (C : vC K cc own nL rm) {k n : Nat} {r : Nat → Int32} {i : Int32} (hg : g k = ai 0 n r) {iv : Nat} (hix : i.toNatClampNeg = iv) (hin : vp_in i n) (hd : decode cc pc = .ok (.iaload, 1)) {x : Int32} (hx : r iv = x) (kk : V K cells slots P A g lv (pc + 1) (.int x :: st)) : V K cells slots P A g lv pc (.int i :: .ref (A k) :: st) := by
  subst hix
  intro H locs ls a b c d e
  obtain ⟨ix, hi⟩ := p_ix (p_in a (by rw [hg]; exact p_nil))
  exact va_iald C.ex C.co C.kk.1 a.1 ix 0 (by rw [p_at hi, hg]; rfl) rfl hin hd (by rw [hx]; exact kk H locs ls a b c d e)
theorem g_zald (C : vC K cc own nL rm) {k n : Nat} {r : Nat → Int32} {i : Int32} (hg : g k = ai 1 n r) {iv : Nat} (hix : i.toNatClampNeg = iv) (hin : vp_in i n) (hd : decode cc pc = .ok (.baload, 1)) {x : Int32} (hx : r iv = x) (kk : V K cells slots P A g lv (pc + 1) (.int x :: st)) : V K cells slots P A g lv pc (.int i :: .ref (A k) :: st) := by
  subst hix
  intro H locs ls a b c d e
  obtain ⟨ix, hi⟩ := p_ix (p_in a (by rw [hg]; exact p_nil))
  exact va_zald C.ex C.co C.kk.1 a.1 ix 1 (by rw [p_at hi, hg]; rfl) rfl hin hd (by rw [hx]; exact kk H locs ls a b c d e)
theorem g_iast (C : vC K cc own nL rm) {k n : Nat} {r : Nat → Int32} {i x : Int32} (hg : g k = ai 0 n r) {iv : Nat} (hix : i.toNatClampNeg = iv) (hin : vp_in i n) (hd : decode cc pc = .ok (.iastore, 1)) (kk : V K cells slots P A (va_up g k (ai 0 n (upd r iv x))) lv (pc + 1) st) : V K cells slots P A g lv pc (.int x :: .int i :: .ref (A k) :: st) := by
  subst hix
  intro H locs ls a b c d e
  have hk : k ∈ P := p_in a (by rw [hg]; exact p_nil)
  obtain ⟨ix, hi⟩ := p_ix hk
  refine va_iast C.ex C.co C.kk.1 a.1 (p_D b c) d ix 0 (by rw [p_at hi, hg]; rfl) rfl hin hd (fun H1 locs1 hP hD hS => ?_)
  refine kk H1 locs1 ls ⟨?_, p_out a hk _⟩ b c hS e
  rw [← p_up (D := kD K) (A := A) (g := g) b.1 hi (ai 0 n (upd r i.toNatClampNeg x))]
  exact hP
theorem g_zast (C : vC K cc own nL rm) {k n : Nat} {r : Nat → Int32} {i x : Int32} (hg : g k = ai 1 n r) {iv : Nat} (hix : i.toNatClampNeg = iv) (hin : vp_in i n) (hd : decode cc pc = .ok (.bastore, 1)) (kk : V K cells slots P A (va_up g k (ai 1 n (upd r iv (vp_nar .boolean x)))) lv (pc + 1) st) : V K cells slots P A g lv pc (.int x :: .int i :: .ref (A k) :: st) := by
  subst hix
  intro H locs ls a b c d e
  have hk : k ∈ P := p_in a (by rw [hg]; exact p_nil)
  obtain ⟨ix, hi⟩ := p_ix hk
  refine va_zast C.ex C.co C.kk.1 a.1 (p_D b c) d ix 1 (by rw [p_at hi, hg]; rfl) rfl hin hd (fun H1 locs1 hP hD hS => ?_)
  refine kk H1 locs1 ls ⟨?_, p_out a hk _⟩ b c hS e
  rw [← p_up (D := kD K) (A := A) (g := g) b.1 hi (ai 1 n (upd r i.toNatClampNeg (vp_nar .boolean x)))]
  exact hP
theorem g_alen (C : vC K cc own nL rm) {k n : Nat} {r : Nat → Int32} (hg : g k = ai 0 n r) (hd : decode cc pc = .ok (.arraylength, 1)) (kk : V K cells slots P A g lv (pc + 1) (.int (nI n) :: st)) : V K cells slots P A g lv pc (.ref (A k) :: st) := by
  intro H locs ls a b c d e
  obtain ⟨ix, hi⟩ := p_ix (p_in a (by rw [hg]; exact p_nil))
  exact va_alen C.ex C.co C.kk.1 a.1 ix 0 (x := (n, .inl r)) (by rw [p_at hi, hg]; rfl) rfl rfl hd (kk H locs ls a b c d e)
theorem g_aldq (C : vC K cc own nL rm) {k c1 n : Nat} {r : Nat → Option Nat} {i : Int32} {E : String} (hg : g k = aq c1 n r) (ht : ∀ D : va_G, (pty D)[c1]? = some (D.1 (20 + c1), .object E)) {iv : Nat} (hix : i.toNatClampNeg = iv) (hin : vp_in i n) (hd : decode cc pc = .ok (.aaload, 1)) {x : Nat} (hx : r iv = some x) (kk : V K cells slots P A g lv (pc + 1) (.ref x :: st)) : V K cells slots P A g lv pc (.int i :: .ref (A k) :: st) := by
  subst hix
  intro H locs ls a b c d e
  obtain ⟨ix, hi⟩ := p_ix (p_in a (by rw [hg]; exact p_nil))
  exact va_aldq C.ex C.co C.kk.1 a.1 ix c1 (by rw [p_at hi, hg]; rfl) (ht _) hin hd (by rw [hx]; exact kk H locs ls a b c d e)
theorem g_astq (C : vC K cc own nL rm) {k c1 n j ci : Nat} {r : Nat → Option Nat} {fs : List Value} {i : Int32} {q : vw_C} (hg : g k = aq c1 n r) (hj : g j = ob ci fs) (hc : vwCl[ci]? = some q) (ht : ∀ D : va_G, (pty D)[c1]? = some (D.1 (20 + c1), .object q.1)) {iv : Nat} (hix : i.toNatClampNeg = iv) (hin : vp_in i n) (hd : decode cc pc = .ok (.aastore, 1)) (kk : V K cells slots P A (va_up g k (aq c1 n (va_up r iv (some (A j))))) lv (pc + 1) st) : V K cells slots P A g lv pc (.ref (A j) :: .int i :: .ref (A k) :: st) := by
  subst hix
  intro H locs ls a b c d e
  have hk : k ∈ P := p_in a (by rw [hg]; exact p_nil)
  obtain ⟨ix, hi⟩ := p_ix hk
  obtain ⟨jx, hjx⟩ := p_ix (p_in a (by rw [hj]; exact p_nob hc))
  refine va_astq C.ex C.co C.kk.1 a.1 (p_D b c) d ix c1 jx ci (r := q) (by rw [p_at hi, hg]; rfl) (ht _) (by rw [p_at hjx, hj]; rfl) hc hin hd (fun H1 locs1 hP hD hS => ?_)
  refine kk H1 locs1 ls ⟨?_, p_out a hk _⟩ b c hS e
  rw [← p_up (D := kD K) (A := A) (g := g) b.1 hi (aq c1 n (va_up r i.toNatClampNeg (some (A j))))]
  exact hP
theorem nI_i1 (i : Nat) : nI i + Int32.ofInt 1 = nI (i + 1) := nI_1 i
theorem va_up_id {α : Type} {f : Nat → α} {k : Nat} {v : α} (h : f k = v) : va_up f k v = f := by
  funext j
  by_cases hj : j = k
  · subst hj; rw [va_up_self, h]
  · rw [va_up_ne _ _ hj]
theorem nI_in0 {i n : Nat} (h : i < n) (hn : n < 2 ^ 31) : vp_in (nI i) n := vp_in_nI h hn
end VC
theorem pfd_I : parseFieldDescriptor "I" = some .int := by decide +kernel
theorem pfd_Z : parseFieldDescriptor "Z" = some .boolean := by decide +kernel
