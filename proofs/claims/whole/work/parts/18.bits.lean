-- PART 18: the count of bits of an int (a method of the JDK: its class's name has a slash)
theorem Met.ofWF {y : MethodName} {l : Launch} {ws ws' : List Cond} {rm : Room} {Pc : Array Value → State → Prop} {Qc : Array Value → State → Outcome → State → Prop} {mc ms : Nat} {free : Addr → Prop} {cc : ByteArray} {maxL : Nat} {ret : Option FieldType}
    (hy : plainFor y = true) (hw : ws = Cond.code y cc maxL ret :: ws')
    (body : ∀ p e s m args below meth c s₁, BodyLoose p l y (headSpec ws rm) cc maxL ret e s m args below meth c s₁ → c.maxLocals = maxL → Pc args s →
      W p l e (headSpec ws rm).room s m args below meth c s.heap [] 0 0 (MQ below Qc args s mc ms free) (entryFrame m args maxL)) : Met l y ws rm Pc Qc mc ms free := by
  refine Jvm.Free.MetFree.of_bodySF (code := cc) (maxLocals := maxL) (ret := ret) hy ?_ ?_
  · intro args s m h hn
    obtain ⟨meth, c, h1, h2, h3, h4, h5, h6, -, -⟩ := Cond.code_spec hn (atoms_spec (ws := ws) h _ (by rw [hw]; exact List.mem_cons_self))
    exact ⟨meth, c, h1, h2, h3, h4, h5, h6⟩
  · intro p e s m args below meth c s₁ B hml hP _
    have hh0 : s₁.heap = s.heap := by rw [B.state]; rfl
    obtain ⟨t, a1, o, b1, b2, b3⟩ := body p e s m args below meth c s₁ B hml hP s₁ hh0 (Stand.of_body B)
    exact ⟨t, o, a1, b1, b2, ⟨b3.1, b3.2⟩⟩
theorem px_introF {y : MethodName} {cc : ByteArray} {nL : Nat} {ret : Option FieldType} {rm : Room} {av : List Value} {P : List Nat} {A : Nat → Nat} {g : pM} {post : pP} (hy : plainFor y = true) (hav : (lg_sl av).length ≤ nL)
    (h : ∀ (K : vT) (sz : Nat), vC K cc y.cls nL rm → vR K P A sz ret post rm y.name → V K 0 0 P A g (lv_args 0 av) 0 []) : PX y cc nL ret rm av P A g post := by
  intro l D sz
  refine Met.ofWF (cc := cc) (maxL := nL) (ret := ret) hy rfl ?_
  intro p e s m args below meth c s₁ B hml hv
  obtain ⟨rfl, hsz, hI, hK, hN⟩ := hv
  have hts := atoms_spec (ws := .code y cc nL ret :: pU) B.pre
  have hl := lv_entry av (n := nL) hav
  rw [lg_entry_eq]
  have hin : meth.name = y.name := (name_of_methodNamed B.named B.method).1
  exact h (p, l, e, rm, s, m, av.toArray, below, meth, c, D, pF P A sz, s.heap, nL, MQ below (pQ D P A sz post) av.toArray s rm.cells rm.slots (pF P A sz)) sz
    ⟨B.exec, B.bytes, fun w hw => hts w (List.mem_cons_of_mem _ hw), findClass_of_methodNamed B.named, hK, fun q hq => Or.inr (by rw [← hsz]; exact hq), B.notSynchronized, hml, rfl, rfl⟩
    ⟨rfl, rfl, rfl, B.returns, hsz.symm, hin⟩ s.heap [] _ hI hN (fun k hk => Or.inl ⟨k, hk, rfl⟩) va_S.rf hl
section BC
variable {K : vT} {cc : ByteArray} {own : String} {nL : Nat} {rm : Room} {cells slots : Nat} {P : List Nat} {A : Nat → Nat} {g : pM} {lv : List (Nat × Value)} {pc : Nat} {st : List Value}
def ush (x y : Int32) : Int32 := (x.toUInt32 >>> (y.toUInt32 &&& Int32.toUInt32 31)).toInt32
theorem g_iushr (C : vC K cc own nL rm) {x y z : Int32} (hd : decode cc pc = .ok (.iushr, 1)) (hz : ush x y = z) (k : V K cells slots P A g lv (pc + 1) (.int z :: st)) : V K cells slots P A g lv pc (.int y :: .int x :: st) :=
  fun H locs ls a b c d e => lv_iushr C.ex C.co hd hz (k H locs ls a b c d e)
theorem g_ldcw (C : vC K cc own nL rm) {idx : Nat} {v : Int32} (hd : decode cc pc = .ok (.ldc_w idx, 3)) (hw : Cond.constant own idx v ∈ pU) (k : V K cells slots P A g lv (pc + 3) (.int v :: st)) : V K cells slots P A g lv pc st :=
  fun H locs ls a b c d e => lv_ldcw C.ex C.co C.ow (C.ts _ hw) hd (k H locs ls a b c d e)
end BC
def bc1 (x : Int32) : Int32 := x - (ush x 1 &&& 1431655765)
def bc2 (x : Int32) : Int32 := (x &&& 858993459) + (ush x 2 &&& 858993459)
def bc3 (x : Int32) : Int32 := (x + ush x 4) &&& 252645135
def bc4 (x : Int32) : Int32 := x + ush x 8
def bc5 (x : Int32) : Int32 := x + ush x 16
def bcn (x : Int32) : Int32 := bc5 (bc4 (bc3 (bc2 (bc1 x)))) &&& 63
abbrev yJbc : MethodName := ⟨"java/lang/Integer","bitCount","(I)I"⟩
abbrev cJbc : ByteArray := prog_14_method_49_code
abbrev rm_Jbc : Room := { frames := 0, cells := 0, slots := 0, locals := 0 }
theorem dJbc_0 : decode cJbc 0 = .ok (.iload_n 0, 1) := by decide +kernel
theorem dJbc_1 : decode cJbc 1 = .ok (.iload_n 0, 1) := by decide +kernel
theorem dJbc_2 : decode cJbc 2 = .ok (.iconst 1, 1) := by decide +kernel
theorem dJbc_3 : decode cJbc 3 = .ok (.iushr, 1) := by decide +kernel
theorem dJbc_4 : decode cJbc 4 = .ok (.ldc_w 265, 3) := by decide +kernel
theorem dJbc_7 : decode cJbc 7 = .ok (.iand, 1) := by decide +kernel
theorem dJbc_8 : decode cJbc 8 = .ok (.isub, 1) := by decide +kernel
theorem dJbc_9 : decode cJbc 9 = .ok (.istore_n 0, 1) := by decide +kernel
theorem dJbc_10 : decode cJbc 10 = .ok (.iload_n 0, 1) := by decide +kernel
theorem dJbc_11 : decode cJbc 11 = .ok (.ldc_w 266, 3) := by decide +kernel
theorem dJbc_14 : decode cJbc 14 = .ok (.iand, 1) := by decide +kernel
theorem dJbc_15 : decode cJbc 15 = .ok (.iload_n 0, 1) := by decide +kernel
theorem dJbc_16 : decode cJbc 16 = .ok (.iconst 2, 1) := by decide +kernel
theorem dJbc_17 : decode cJbc 17 = .ok (.iushr, 1) := by decide +kernel
theorem dJbc_18 : decode cJbc 18 = .ok (.ldc_w 266, 3) := by decide +kernel
theorem dJbc_21 : decode cJbc 21 = .ok (.iand, 1) := by decide +kernel
theorem dJbc_22 : decode cJbc 22 = .ok (.iadd, 1) := by decide +kernel
theorem dJbc_23 : decode cJbc 23 = .ok (.istore_n 0, 1) := by decide +kernel
theorem dJbc_24 : decode cJbc 24 = .ok (.iload_n 0, 1) := by decide +kernel
theorem dJbc_25 : decode cJbc 25 = .ok (.iload_n 0, 1) := by decide +kernel
theorem dJbc_26 : decode cJbc 26 = .ok (.iconst 4, 1) := by decide +kernel
theorem dJbc_27 : decode cJbc 27 = .ok (.iushr, 1) := by decide +kernel
theorem dJbc_28 : decode cJbc 28 = .ok (.iadd, 1) := by decide +kernel
theorem dJbc_29 : decode cJbc 29 = .ok (.ldc_w 267, 3) := by decide +kernel
theorem dJbc_32 : decode cJbc 32 = .ok (.iand, 1) := by decide +kernel
theorem dJbc_33 : decode cJbc 33 = .ok (.istore_n 0, 1) := by decide +kernel
theorem dJbc_34 : decode cJbc 34 = .ok (.iload_n 0, 1) := by decide +kernel
theorem dJbc_35 : decode cJbc 35 = .ok (.iload_n 0, 1) := by decide +kernel
theorem dJbc_36 : decode cJbc 36 = .ok (.bipush 8, 2) := by decide +kernel
theorem dJbc_38 : decode cJbc 38 = .ok (.iushr, 1) := by decide +kernel
theorem dJbc_39 : decode cJbc 39 = .ok (.iadd, 1) := by decide +kernel
theorem dJbc_40 : decode cJbc 40 = .ok (.istore_n 0, 1) := by decide +kernel
theorem dJbc_41 : decode cJbc 41 = .ok (.iload_n 0, 1) := by decide +kernel
theorem dJbc_42 : decode cJbc 42 = .ok (.iload_n 0, 1) := by decide +kernel
theorem dJbc_43 : decode cJbc 43 = .ok (.bipush 16, 2) := by decide +kernel
theorem dJbc_45 : decode cJbc 45 = .ok (.iushr, 1) := by decide +kernel
theorem dJbc_46 : decode cJbc 46 = .ok (.iadd, 1) := by decide +kernel
theorem dJbc_47 : decode cJbc 47 = .ok (.istore_n 0, 1) := by decide +kernel
theorem dJbc_48 : decode cJbc 48 = .ok (.iload_n 0, 1) := by decide +kernel
theorem dJbc_49 : decode cJbc 49 = .ok (.bipush 63, 2) := by decide +kernel
theorem dJbc_51 : decode cJbc 51 = .ok (.iand, 1) := by decide +kernel
theorem dJbc_52 : decode cJbc 52 = .ok (.ireturn, 1) := by decide +kernel
theorem c_bitCount (A : Nat → Nat) (P : List Nat) (g : pM) (x : Int32) : PM yJbc cJbc 1 (Option.some Jvm.ClassFile.FieldType.int) rm_Jbc [.int x] P A g (fun v g' => v = some (.int (bcn x)) ∧ g = g') := by
  refine px_introF (by decide +kernel) (Nat.le_of_ble_eq_true rfl) (fun K sz C R => ?_)
  show V K 0 0 P A g [(0, .int x)] 0 []
  refine g_iload_n (pc := 0) C dJbc_0 0 rfl ?_
  refine g_iload_n (pc := 1) C dJbc_1 0 rfl ?_
  refine g_iconst (pc := 2) C dJbc_2 (v := 1) rfl ?_
  refine g_iushr (pc := 3) C dJbc_3 (z := ush x 1) rfl ?_
  refine g_ldcw (pc := 4) C dJbc_4 u_771 ?_
  refine g_iand (pc := 7) C dJbc_7 (z := (ush x 1) &&& 1431655765) rfl ?_
  refine g_isub (pc := 8) C dJbc_8 (z := x - ((ush x 1) &&& 1431655765)) rfl ?_
  refine g_istore_n (pc := 9) C dJbc_9 (by decide) (lv' := [(0, .int (bc1 x))]) [0] rfl ?_
  show V K 0 0 P A g [(0, .int (bc1 x))] 10 []
  refine g_iload_n (pc := 10) C dJbc_10 0 rfl ?_
  refine g_ldcw (pc := 11) C dJbc_11 u_772 ?_
  refine g_iand (pc := 14) C dJbc_14 (z := (bc1 x) &&& 858993459) rfl ?_
  refine g_iload_n (pc := 15) C dJbc_15 0 rfl ?_
  refine g_iconst (pc := 16) C dJbc_16 (v := 2) rfl ?_
  refine g_iushr (pc := 17) C dJbc_17 (z := ush (bc1 x) 2) rfl ?_
  refine g_ldcw (pc := 18) C dJbc_18 u_772 ?_
  refine g_iand (pc := 21) C dJbc_21 (z := (ush (bc1 x) 2) &&& 858993459) rfl ?_
  refine g_iadd (pc := 22) C dJbc_22 (z := ((bc1 x) &&& 858993459) + ((ush (bc1 x) 2) &&& 858993459)) rfl ?_
  refine g_istore_n (pc := 23) C dJbc_23 (by decide) (lv' := [(0, .int (bc2 (bc1 x)))]) [0] rfl ?_
  show V K 0 0 P A g [(0, .int (bc2 (bc1 x)))] 24 []
  refine g_iload_n (pc := 24) C dJbc_24 0 rfl ?_
  refine g_iload_n (pc := 25) C dJbc_25 0 rfl ?_
  refine g_iconst (pc := 26) C dJbc_26 (v := 4) rfl ?_
  refine g_iushr (pc := 27) C dJbc_27 (z := ush (bc2 (bc1 x)) 4) rfl ?_
  refine g_iadd (pc := 28) C dJbc_28 (z := (bc2 (bc1 x)) + (ush (bc2 (bc1 x)) 4)) rfl ?_
  refine g_ldcw (pc := 29) C dJbc_29 u_773 ?_
  refine g_iand (pc := 32) C dJbc_32 (z := ((bc2 (bc1 x)) + (ush (bc2 (bc1 x)) 4)) &&& 252645135) rfl ?_
  refine g_istore_n (pc := 33) C dJbc_33 (by decide) (lv' := [(0, .int (bc3 (bc2 (bc1 x))))]) [0] rfl ?_
  show V K 0 0 P A g [(0, .int (bc3 (bc2 (bc1 x))))] 34 []
  refine g_iload_n (pc := 34) C dJbc_34 0 rfl ?_
  refine g_iload_n (pc := 35) C dJbc_35 0 rfl ?_
  refine g_bipush (pc := 36) C dJbc_36 (v := 8) rfl ?_
  refine g_iushr (pc := 38) C dJbc_38 (z := ush (bc3 (bc2 (bc1 x))) 8) rfl ?_
  refine g_iadd (pc := 39) C dJbc_39 (z := (bc3 (bc2 (bc1 x))) + (ush (bc3 (bc2 (bc1 x))) 8)) rfl ?_
  refine g_istore_n (pc := 40) C dJbc_40 (by decide) (lv' := [(0, .int (bc4 (bc3 (bc2 (bc1 x)))))]) [0] rfl ?_
  show V K 0 0 P A g [(0, .int (bc4 (bc3 (bc2 (bc1 x)))))] 41 []
  refine g_iload_n (pc := 41) C dJbc_41 0 rfl ?_
  refine g_iload_n (pc := 42) C dJbc_42 0 rfl ?_
  refine g_bipush (pc := 43) C dJbc_43 (v := 16) rfl ?_
  refine g_iushr (pc := 45) C dJbc_45 (z := ush (bc4 (bc3 (bc2 (bc1 x)))) 16) rfl ?_
  refine g_iadd (pc := 46) C dJbc_46 (z := (bc4 (bc3 (bc2 (bc1 x)))) + (ush (bc4 (bc3 (bc2 (bc1 x)))) 16)) rfl ?_
  refine g_istore_n (pc := 47) C dJbc_47 (by decide) (lv' := [(0, .int (bc5 (bc4 (bc3 (bc2 (bc1 x))))))]) [0] rfl ?_
  show V K 0 0 P A g [(0, .int (bc5 (bc4 (bc3 (bc2 (bc1 x))))))] 48 []
  refine g_iload_n (pc := 48) C dJbc_48 0 rfl ?_
  refine g_bipush (pc := 49) C dJbc_49 (v := 63) rfl ?_
  refine g_iand (pc := 51) C dJbc_51 (z := (bc5 (bc4 (bc3 (bc2 (bc1 x))))) &&& 63) rfl ?_
  exact g_iret (pc := 52) C R ⟨rfl, rfl, rfl, rfl⟩ (by decide) (by decide) dJbc_52
