-- PART 34: the reference: what differs
def otA (Z Kp : Nat → Int32) (k a n : Nat) : Bool := (List.range n).any (fun i => !decide (Z (a + i) = Kp (10511 * k + a + i)))
theorem otA_s {Z Kp : Nat → Int32} {k a n : Nat} : otA Z Kp k a (n + 1) = (otA Z Kp k a n || !decide (Z (a + n) = Kp (10511 * k + a + n))) := by
  simp only [otA]
  rw [List.range_succ, List.any_append]
  simp
theorem otA_f {Z Kp : Nat → Int32} {k a n : Nat} : otA Z Kp k a n = false ↔ ∀ i, i < n → Z (a + i) = Kp (10511 * k + (a + i)) := by
  simp only [otA, List.any_eq_false, List.mem_range]
  constructor
  · intro h i hi
    have := h i hi
    simp only [Bool.not_eq_true, Bool.not_eq_false', decide_eq_true_eq] at this
    rw [this, Nat.add_assoc]
  · intro h i hi
    rw [h i hi, ← Nat.add_assoc]
    simp
theorem nd_ot {B B2 r k : Nat} {cs : List Nat} {Z Kp : Nat → Int32} {σ s : Sg} (hR : RZ Z σ) (hR2 : RZ (fun j => Kp (10511 * k + j)) s) (hS : SW B cs σ) (hS2 : SW B2 cs s) (h1 : r < gK σ) (h2 : r < gK s) :
    (ndSame (gN σ r) (gN s r) = true → otA Z Kp k (16 + r) 1 = false ∧ otA Z Kp k (32 + r) 1 = false ∧ otA Z Kp k (96 + 5 * r) (nAc (gN σ r)).length = false ∧ otA Z Kp k (176 + 5 * r) (nAc (gN σ r)).length = false ∧ otA Z Kp k (256 + 8 * r) (nPa (gN σ r)).length = false ∧ otA Z Kp k (384 + 24 * r) 24 = false) ∧
    (otA Z Kp k (16 + r) 1 = false → otA Z Kp k (32 + r) 1 = false → otA Z Kp k (96 + 5 * r) (nAc (gN σ r)).length = false → otA Z Kp k (176 + 5 * r) (nAc (gN σ r)).length = false → otA Z Kp k (256 + 8 * r) (nPa (gN σ r)).length = false → otA Z Kp k (384 + 24 * r) 24 = false → ndSame (gN σ r) (gN s r) = true) := by
  have a5 := hR.ac5 h1
  have b5 := hR2.ac5 h2
  have a8 := hR.pa8 h1
  have b8 := hR2.pa8 h2
  have hb1 := hS.1
  have hb2 := hS2.1
  constructor
  · intro h
    obtain ⟨e1, e2, e3, e4⟩ := of_decide_eq_true h
    refine ⟨otA_f.mpr (fun i hi => ?_), otA_f.mpr (fun i hi => ?_), otA_f.mpr (fun i hi => ?_), otA_f.mpr (fun i hi => ?_), otA_f.mpr (fun i hi => ?_), otA_f.mpr (fun i hi => ?_)⟩
    · exact (hR.rAn (by omega) h1).trans (by rw [e1]; exact (hR2.rAn (j := 16 + r + i) (by omega) h2).symm)
    · exact (hR.rPn (by omega) h1).trans (by rw [e2]; exact (hR2.rPn (j := 32 + r + i) (by omega) h2).symm)
    · exact (hR.rAc rfl h1 hi).trans (by rw [e1] at hi ⊢; exact (hR2.rAc rfl h2 hi).symm)
    · exact (hR.rLz rfl h1 hi).trans (by rw [e1] at hi ⊢; rw [e3]; exact (hR2.rLz rfl h2 hi).symm)
    · exact (hR.rPa rfl h1 hi).trans (by rw [e2] at hi ⊢; exact (hR2.rPa rfl h2 hi).symm)
    · exact (hR.rHo (t := i) (by omega) h1 hi).trans (by rw [e4 ⟨i, hi⟩]; exact (hR2.rHo (j := 384 + 24 * r + i) (t := i) (by omega) h2 hi).symm)
  · intro o1 o2 o3 o4 o5 o6
    have l1 : (nAc (gN σ r)).length = (nAc (gN s r)).length := by
      have := (hR.rAn (j := 16 + r + 0) (by omega) h1).symm.trans ((otA_f.mp o1 0 (by omega)).trans (hR2.rAn (j := 16 + r + 0) (by omega) h2))
      exact (nI_eq (by omega) (by omega)).mp this
    have l2 : (nPa (gN σ r)).length = (nPa (gN s r)).length := by
      have := (hR.rPn (j := 32 + r + 0) (by omega) h1).symm.trans ((otA_f.mp o2 0 (by omega)).trans (hR2.rPn (j := 32 + r + 0) (by omega) h2))
      exact (nI_eq (by omega) (by omega)).mp this
    have gx : ∀ {l l2 : List Nat}, l.length = l2.length → (∀ i, i < l.length → l.getD i 0 = l2.getD i 0) → l = l2 := by
      intro l l2 hl hd
      apply List.ext_getElem hl
      intro i hi hi2
      have := hd i hi
      rw [List.getD, List.getD, List.getElem?_eq_getElem hi, List.getElem?_eq_getElem hi2] at this
      exact this
    have e1 : nAc (gN σ r) = nAc (gN s r) := gx l1 (fun i hi => by
      have h3 := (hR.rAc (k := i) rfl h1 hi).symm.trans ((otA_f.mp o3 i hi).trans (hR2.rAc (k := i) rfl h2 (by omega)))
      exact (nI_eq (by have := hS.a16 h1 _ (getD_mem hi); omega) (by have := hS2.a16 h2 _ (getD_mem (k := i) (by omega)); omega)).mp h3)
    have e2 : nPa (gN σ r) = nPa (gN s r) := gx l2 (fun i hi => by
      have h3 := (hR.rPa (k := i) rfl h1 hi).symm.trans ((otA_f.mp o5 i hi).trans (hR2.rPa (k := i) rfl h2 (by omega)))
      exact (nI_eq (by have := hS.p16 h1 _ (getD_mem hi); omega) (by have := hS2.p16 h2 _ (getD_mem (k := i) (by omega)); omega)).mp h3)
    have e3 : nLz (gN σ r) = nLz (gN s r) := by
      apply Nat.eq_of_testBit_eq
      intro q
      by_cases hq : q ∈ nAc (gN σ r)
      · obtain ⟨i, hi⟩ := List.mem_iff_getElem?.mp hq
        have hlt := (List.getElem?_eq_some_iff.mp hi).1
        have hd : (nAc (gN σ r)).getD i 0 = q := by rw [List.getD, hi]; rfl
        have h3 := (hR.rLz (k := i) rfl h1 hlt).symm.trans ((otA_f.mp o4 i hlt).trans (hR2.rLz (k := i) rfl h2 (by omega)))
        rw [← e1, hd] at h3
        cases ea : (nLz (gN σ r)).testBit q <;> cases eb : (nLz (gN s r)).testBit q <;> rw [ea, eb] at h3 <;> first | rfl | exact absurd h3 (by decide)
      · have f1 : (nLz (gN σ r)).testBit q = false := by
          cases ea : (nLz (gN σ r)).testBit q with
          | false => rfl
          | true => exact absurd ((hS.nw h1).2.2.2.2.2.2.2.1 q ea) hq
        have f2 : (nLz (gN s r)).testBit q = false := by
          cases ea : (nLz (gN s r)).testBit q with
          | false => rfl
          | true => exact absurd (e1 ▸ (hS2.nw h2).2.2.2.2.2.2.2.1 q ea) hq
        rw [f1, f2]
    refine ndSame_all e1 e2 e3 (fun t ht => ?_)
    have h3 := (hR.rHo (j := 384 + 24 * r + t) (t := t) (by omega) h1 ht).symm.trans ((otA_f.mp o6 t ht).trans (hR2.rHo (j := 384 + 24 * r + t) (t := t) (by omega) h2 ht))
    exact onv_inj (fun q hq => by have := ((hS.nw h1).2.2.2.2.2.2.2.2.1 t q hq).1; omega) (fun q hq => by have := ((hS2.nw h2).2.2.2.2.2.2.2.2.1 t q hq).1; omega) h3
theorem ndSame_no {d d2 : Nd} {P : Prop} (h : ndSame d d2 = true → P) (hn : ¬ P) : ndSame d d2 = false := by
  cases e : ndSame d d2 with
  | false => rfl
  | true => exact absurd (h e) hn
abbrev rm_X11_isOther : Room := { frames := 0, cells := 0, slots := 0, locals := 0 }
theorem Y_X11_isOther : pY yX11_isOther cX11_isOther 6 (Option.some Jvm.ClassFile.FieldType.boolean) := ⟨u_1137, us_33, u_13, u_1138⟩
theorem N_X11_isOther : yX11_isOther.cls ≠ "java/lang/invoke/MethodHandle" ∧ yX11_isOther.cls ≠ "java/lang/invoke/VarHandle" ∧ (parseMethodDescriptor yX11_isOther.desc).map (fun d => d.parameters.length) = some 3 := by decide +kernel
set_option maxRecDepth 20000 in
set_option maxHeartbeats 4000000 in
theorem c_X11_isOther (A : Nat → Nat) (P : List Nat) (g : pM) (m : Nat) {cs : List Nat} {lm gm : Nat} {Z Kp : Nat → Int32} {σ : Sg} (k a n : Nat) (hk : k < 2) (han : a + n ≤ 10511) (hO : g m = mOb A m (gZ σ) cs.length lm gm) (hZ : g (m + 1) = ai 0 10511 Z) (hk6 : g (m + 6) = ai 0 21022 Kp) : PM yX11_isOther cX11_isOther 6 (Option.some Jvm.ClassFile.FieldType.boolean) rm_X11_isOther [.ref (A m), .int (nI k), .int (nI a), .int (nI n)] P A g (fun v g' => v = some (.int (b32 (otA Z Kp k a n))) ∧ g = g') := by
  refine px_intro (by decide +kernel) (Nat.le_of_ble_eq_true rfl) (fun K sz C R => ?_)
  show V K 0 0 P A g [(0, .ref (A m)), (1, .int (nI k)), (2, .int (nI a)), (3, .int (nI n))] 0 []
  refine g_iconst (pc := 0) C dX11_isOther_0 (v := nI 0) rfl ?_
  refine g_istore (pc := 1) C dX11_isOther_1 (by decide) (lv' := [(0, .ref (A m)), (1, .int (nI k)), (2, .int (nI a)), (3, .int (nI n)), (4, .int (nI 0))]) [1, 2, 3, 4, 0] rfl ?_
  refine g_iconst (pc := 3) C dX11_isOther_3 (v := nI 0) rfl ?_
  refine g_istore (pc := 4) C dX11_isOther_4 (by decide) (lv' := [(0, .ref (A m)), (1, .int (nI k)), (2, .int (nI a)), (3, .int (nI n)), (4, .int (nI 0)), (5, .int (nI 0))]) [1, 2, 3, 4, 5, 0] rfl ?_
  have lp_6 : ∀ (fuel : Nat) (i : Nat) (hi : i ≤ n), n - i < fuel → V K 0 0 P A g [(0, .ref (A m)), (1, .int (nI k)), (2, .int (nI a)), (3, .int (nI n)), (4, .int (b32 (otA Z Kp k a i))), (5, .int (nI i))] 6 [] := by
    intro fuel
    induction fuel with
    | zero => intro i hi hμ; exact absurd hμ (Nat.not_lt_zero _)
    | succ fuel ih_6 =>
      intro i hi hμ
      refine g_iload (pc := 6) C dX11_isOther_6 5 rfl ?_
      refine g_iload_n (pc := 8) C dX11_isOther_8 3 rfl ?_
      refine g_icmp_ge (pc := 9) C dX11_isOther_9 (tgt := 57) (by decide) (fun c_9 => ?_) (fun c_9 => ?_)
      ·
        have c_9 : n ≤ i := (nI_leI (by omega) (by omega)).mp c_9
        refine g_iload (pc := 57) C dX11_isOther_57 4 rfl ?_
        exact g_zret (pc := 59) C R (b32_z _) ⟨rfl, rfl, by rw [show i = n by omega], rfl⟩ (by decide) (by decide) dX11_isOther_59
      ·
        have c_9 : ¬ n ≤ i := fun h => c_9 ((nI_leI (a := n) (b := i) (by omega) (by omega)).mpr h)
        refine g_iload (pc := 12) C dX11_isOther_12 4 rfl ?_
        refine g_if_ne (pc := 14) C dX11_isOther_14 (tgt := 44) (by decide) (fun c_14 => ?_) (fun c_14 => ?_)
        ·
          have c_14 : (otA Z Kp k a i) = true := b32_no c_14
          refine g_iconst (pc := 44) C dX11_isOther_44 (v := nI 1) rfl ?_
          refine g_goto (pc := 45) C dX11_isOther_45 (tgt := 49) (by decide) ?_
          refine g_istore (pc := 49) C dX11_isOther_49 (by decide) (lv' := [(0, .ref (A m)), (1, .int (nI k)), (2, .int (nI a)), (3, .int (nI n)), (4, .int (nI 1)), (5, .int (nI i))]) [1, 2, 3, 4, 0, 5] rfl ?_
          refine g_iinc (pc := 51) C dX11_isOther_51 (by decide) 5 rfl (v := nI (i + 1)) (nI_i1 _) (lv' := [(0, .ref (A m)), (1, .int (nI k)), (2, .int (nI a)), (3, .int (nI n)), (4, .int (nI 1)), (5, .int (nI (i + 1)))]) [1, 2, 3, 4, 5, 0] rfl ?_
          refine g_goto (pc := 54) C dX11_isOther_54 (tgt := 6) (by decide) ?_
          have hbk : (nI 1 : Int32) = b32 (otA Z Kp k a (i + 1)) := by rw [otA_s, c_14]; rfl
          rw [hbk]
          exact ih_6 (i + 1) (by omega) (by omega)
        ·
          have c_14 : (otA Z Kp k a i) = false := b32_yes c_14
          refine g_aload_n (pc := 17) C dX11_isOther_17 0 rfl ?_
          refine g_get (pc := 18) C (j := 0) hO rfl rfl (by decide) u_852 dX11_isOther_18 ?_
          refine g_iload_n (pc := 21) C dX11_isOther_21 2 rfl ?_
          refine g_iload (pc := 22) C dX11_isOther_22 5 rfl ?_
          refine g_iadd (pc := 24) C dX11_isOther_24 (z := nI (a + i)) (nI_add _ _) ?_
          refine g_iald (pc := 25) C hZ (nI_clamp (by omega)) (nI_in0 (n := 10511) (by omega) (by omega)) dX11_isOther_25 (x := Z (a + i)) rfl ?_
          refine g_aload_n (pc := 26) C dX11_isOther_26 0 rfl ?_
          refine g_get (pc := 27) C (j := 13) hO rfl rfl (by decide) u_865 dX11_isOther_27 ?_
          refine g_sipush (pc := 30) C dX11_isOther_30 (v := nI 10511) rfl ?_
          refine g_iload_n (pc := 33) C dX11_isOther_33 1 rfl ?_
          refine g_imul (pc := 34) C dX11_isOther_34 (z := nI (10511 * k)) (pk_mul _ _) ?_
          refine g_iload_n (pc := 35) C dX11_isOther_35 2 rfl ?_
          refine g_iadd (pc := 36) C dX11_isOther_36 (z := nI (10511 * k + a)) (nI_add _ _) ?_
          refine g_iload (pc := 37) C dX11_isOther_37 5 rfl ?_
          refine g_iadd (pc := 39) C dX11_isOther_39 (z := nI (10511 * k + a + i)) (nI_add _ _) ?_
          refine g_iald (pc := 40) C hk6 (nI_clamp (by omega)) (nI_in0 (n := 21022) (by omega) (by omega)) dX11_isOther_40 (x := Kp (10511 * k + a + i)) rfl ?_
          refine g_icmp_eq (pc := 41) C dX11_isOther_41 (tgt := 48) (by decide) (fun c_41 => ?_) (fun c_41 => ?_)
          ·
            refine g_iconst (pc := 48) C dX11_isOther_48 (v := nI 0) rfl ?_
            refine g_istore (pc := 49) C dX11_isOther_49 (by decide) (lv' := [(0, .ref (A m)), (1, .int (nI k)), (2, .int (nI a)), (3, .int (nI n)), (4, .int (nI 0)), (5, .int (nI i))]) [1, 2, 3, 4, 0, 5] rfl ?_
            refine g_iinc (pc := 51) C dX11_isOther_51 (by decide) 5 rfl (v := nI (i + 1)) (nI_i1 _) (lv' := [(0, .ref (A m)), (1, .int (nI k)), (2, .int (nI a)), (3, .int (nI n)), (4, .int (nI 0)), (5, .int (nI (i + 1)))]) [1, 2, 3, 4, 5, 0] rfl ?_
            refine g_goto (pc := 54) C dX11_isOther_54 (tgt := 6) (by decide) ?_
            have hbk : (nI 0 : Int32) = b32 (otA Z Kp k a (i + 1)) := by rw [otA_s, c_14, decide_eq_true c_41]; rfl
            rw [hbk]
            exact ih_6 (i + 1) (by omega) (by omega)
          ·
            refine g_iconst (pc := 44) C dX11_isOther_44 (v := nI 1) rfl ?_
            refine g_goto (pc := 45) C dX11_isOther_45 (tgt := 49) (by decide) ?_
            refine g_istore (pc := 49) C dX11_isOther_49 (by decide) (lv' := [(0, .ref (A m)), (1, .int (nI k)), (2, .int (nI a)), (3, .int (nI n)), (4, .int (nI 1)), (5, .int (nI i))]) [1, 2, 3, 4, 0, 5] rfl ?_
            refine g_iinc (pc := 51) C dX11_isOther_51 (by decide) 5 rfl (v := nI (i + 1)) (nI_i1 _) (lv' := [(0, .ref (A m)), (1, .int (nI k)), (2, .int (nI a)), (3, .int (nI n)), (4, .int (nI 1)), (5, .int (nI (i + 1)))]) [1, 2, 3, 4, 5, 0] rfl ?_
            refine g_goto (pc := 54) C dX11_isOther_54 (tgt := 6) (by decide) ?_
            have hbk : (nI 1 : Int32) = b32 (otA Z Kp k a (i + 1)) := by rw [otA_s, c_14, decide_eq_false c_41]; rfl
            rw [hbk]
            exact ih_6 (i + 1) (by omega) (by omega)
  exact lp_6 (_ + 1) 0 (Nat.zero_le _) (Nat.lt_succ_self _)
abbrev rm_X11_heardOther : Room := { frames := 1, cells := 0, slots := 0, locals := 25 }
theorem Y_X11_heardOther : pY yX11_heardOther cX11_heardOther 3 (Option.some Jvm.ClassFile.FieldType.boolean) := ⟨u_1141, us_34, u_13, u_1142⟩
theorem N_X11_heardOther : yX11_heardOther.cls ≠ "java/lang/invoke/MethodHandle" ∧ yX11_heardOther.cls ≠ "java/lang/invoke/VarHandle" ∧ (parseMethodDescriptor yX11_heardOther.desc).map (fun d => d.parameters.length) = some 2 := by decide +kernel
set_option maxRecDepth 20000 in
set_option maxHeartbeats 4000000 in
theorem c_X11_heardOther (A : Nat → Nat) (P : List Nat) (g : pM) (m : Nat) {cs : List Nat} {lm gm : Nat} {Z Kp : Nat → Int32} {σ : Sg} (k r : Nat) (hk : k < 2) (hr : r < 16) (hO : g m = mOb A m (gZ σ) cs.length lm gm) (hZ : g (m + 1) = ai 0 10511 Z) (hk6 : g (m + 6) = ai 0 21022 Kp) : PM yX11_heardOther cX11_heardOther 3 (Option.some Jvm.ClassFile.FieldType.boolean) rm_X11_heardOther [.ref (A m), .int (nI k), .int (nI r)] P A g (fun v g' => v = some (.int (b32 (otA Z Kp k (384 + 24 * r) 24))) ∧ g = g') := by
  refine px_intro (by decide +kernel) (Nat.le_of_ble_eq_true rfl) (fun K sz C R => ?_)
  show V K 0 0 P A g [(0, .ref (A m)), (1, .int (nI k)), (2, .int (nI r))] 0 []
  refine g_aload_n (pc := 0) C dX11_heardOther_0 0 rfl ?_
  refine g_iload_n (pc := 1) C dX11_heardOther_1 1 rfl ?_
  refine g_sipush (pc := 2) C dX11_heardOther_2 (v := nI 384) rfl ?_
  refine g_bipush (pc := 5) C dX11_heardOther_5 (v := nI 24) rfl ?_
  refine g_iload_n (pc := 7) C dX11_heardOther_7 2 rfl ?_
  refine g_imul (pc := 8) C dX11_heardOther_8 (z := nI (24 * r)) (pk_mul _ _) ?_
  refine g_iadd (pc := 9) C dX11_heardOther_9 (z := nI (384 + 24 * r)) (nI_add _ _) ?_
  refine g_bipush (pc := 10) C dX11_heardOther_10 (v := nI 24) rfl ?_
  refine g_callV (pc := 12) C (As := [.int (nI k), .int (nI (384 + 24 * r)), .int (nI 24)]) (rest := []) (b := m) (c_X11_isOther A P g m (lm := lm) (gm := gm) (cs := cs) (σ := σ) k (384 + 24 * r) 24 (by omega) (by omega) hO hZ hk6) hO rfl rfl Y_X11_isOther u_1135 N_X11_isOther ⟨by decide, by decide⟩ ⟨by decide, by decide⟩ (Nat.le_of_ble_eq_true rfl) rfl dX11_heardOther_12 ?_
  rintro _ _ _ _ ⟨rfl, rfl, rfl, rfl⟩
  show V K 0 0 P A g [(0, .ref (A m)), (1, .int (nI k)), (2, .int (nI r))] 15 [.int (b32 (otA Z Kp k (384 + 24 * r) 24))]
  exact g_zret (pc := 15) C R (b32_z _) ⟨rfl, rfl, ⟨rfl, rfl⟩⟩ (by decide) (by decide) dX11_heardOther_15
abbrev rm_X11_differs : Room := { frames := 2, cells := 0, slots := 0, locals := 47 }
theorem Y_X11_differs : pY yX11_differs cX11_differs 6 (Option.some Jvm.ClassFile.FieldType.int) := ⟨u_1132, u_1133, u_13, u_1134⟩
theorem N_X11_differs : yX11_differs.cls ≠ "java/lang/invoke/MethodHandle" ∧ yX11_differs.cls ≠ "java/lang/invoke/VarHandle" ∧ (parseMethodDescriptor yX11_differs.desc).map (fun d => d.parameters.length) = some 1 := by decide +kernel
set_option maxRecDepth 20000 in
set_option maxHeartbeats 4000000 in
theorem c_X11_differs (A : Nat → Nat) (P : List Nat) (g : pM) (m : Nat) {cs : List Nat} {σ : Sg} {B : Nat} {ks : Nat → Option Sg} (x : Int32) (hKP : KP g m ks) (hk2 : ∀ k s, ks k = some s → ∃ B2, SW B2 cs s) (hS : SW B cs σ) (hM : MM A g m cs σ) : PM yX11_differs cX11_differs 6 (Option.some Jvm.ClassFile.FieldType.int) rm_X11_differs [.ref (A m), .int x] P A g (fun v g' => ((decide (¬ x < 0 ∧ x < 2) = false ∨ ∃ k, k < 2 ∧ x = nI k ∧ ks k = none) ∧ v = some (.int (-1)) ∧ g = g') ∨ (∃ k s, k < 2 ∧ x = nI k ∧ ks k = some s ∧ v = some (.int (onv (fon σ s))) ∧ g = g')) := by
  obtain ⟨⟨lm, gm, l3, l4, l5, hO, hl3, hl4, hl5⟩, ⟨Z, hZ, hR⟩, hC⟩ := id hM
  have hK := hR.k16
  have hT := hR.t24
  have hL := hR.le
  obtain ⟨Kp, rk, szz, hk6, hk7, hk8, hkk⟩ := id hKP
  refine px_intro (by decide +kernel) (Nat.le_of_ble_eq_true rfl) (fun K sz C R => ?_)
  show V K 0 0 P A g [(0, .ref (A m)), (1, .int x)] 0 []
  refine g_iload_n (pc := 0) C dX11_differs_0 1 rfl ?_
  refine g_i2l (pc := 1) C dX11_differs_1 ?_
  refine g_lconst (pc := 2) C dX11_differs_2 (v := 0) rfl ?_
  refine g_lconst (pc := 3) C dX11_differs_3 (v := 1) rfl ?_
  refine g_callS (pc := 4) C (As := [.long (x).toInt64, .long 0, .long 1]) (rest := []) (c_X11_in A P g (x).toInt64 0 1) rfl u_908 u_13 u_909 u_907 N_X11_in ⟨by decide, by decide⟩ ⟨by decide, by decide⟩ (Nat.le_of_ble_eq_true rfl) rfl dX11_differs_4 ?_
  rintro _ _ _ _ ⟨rfl, rfl, rfl, rfl⟩
  rw [in_c (lo := nI 0) (hi := nI 1) (by decide) (by decide)]
  show V K 0 0 P A g [(0, .ref (A m)), (1, .int x)] 7 [.int (b32 (decide (nI 0 ≤ x ∧ x ≤ nI 1)))]
  refine g_if_eq (pc := 7) C dX11_differs_7 (tgt := 19) (by decide) (fun c_7 => ?_) (fun c_7 => ?_)
  ·
    have c_7 : (decide (nI 0 ≤ x ∧ x ≤ nI 1)) = false := b32_yes c_7
    have c_7 : ¬ (nI 0 ≤ x ∧ x ≤ nI 1) := of_decide_eq_false c_7
    refine g_iconst (pc := 19) C dX11_differs_19 (v := (-1)) rfl ?_
    exact g_iret (pc := 20) C R ⟨rfl, rfl, Or.inl ⟨Or.inl (decide_eq_false (fun z => c_7 ⟨i32_le z.1, by have := z.2; rw [Int32.le_iff_toInt_le, nI_toInt (by omega)]; rw [Int32.lt_iff_toInt_lt] at this; have e2 : (2 : Int32).toInt = 2 := (by decide); omega⟩)), rfl, rfl⟩⟩ (by decide) (by decide) dX11_differs_20
  ·
    have c_7 : (decide (nI 0 ≤ x ∧ x ≤ nI 1)) = true := b32_no c_7
    have c_7 : (nI 0 ≤ x ∧ x ≤ nI 1) := of_decide_eq_true c_7
    obtain ⟨k, -, hk, rfl⟩ := rg_ex (lo := 0) (hi := 1) (by omega) (by omega) (i32_nlt c_7.1) (i32_nlt c_7.2)
    refine g_aload_n (pc := 10) C dX11_differs_10 0 rfl ?_
    refine g_get (pc := 11) C (j := 14) hO rfl rfl (by decide) u_866 dX11_differs_11 ?_
    refine g_iload_n (pc := 14) C dX11_differs_14 1 rfl ?_
    refine g_zald (pc := 15) C hk7 (nI_clamp (by omega)) (nI_in0 (by omega) (by omega)) dX11_differs_15 (x := b32 (ks k).isSome) (hkk k (by omega)).1 ?_
    refine g_if_ne (pc := 16) C dX11_differs_16 (tgt := 21) (by decide) (fun c_16 => ?_) (fun c_16 => ?_)
    ·
      have c_16 : (ks k).isSome = true := b32_no c_16
      obtain ⟨s, hs⟩ := Option.isSome_iff_exists.mp c_16
      obtain ⟨kz, -⟩ := (hkk k (by omega)).2 s hs
      obtain ⟨B2, hS2⟩ := hk2 k s hs
      have hK2 := kz.k16
      refine g_aload_n (pc := 21) C dX11_differs_21 0 rfl ?_
      refine g_get (pc := 22) C (j := 13) hO rfl rfl (by decide) u_865 dX11_differs_22 ?_
      refine g_sipush (pc := 25) C dX11_differs_25 (v := nI 10511) rfl ?_
      refine g_iload_n (pc := 28) C dX11_differs_28 1 rfl ?_
      refine g_imul (pc := 29) C dX11_differs_29 (z := nI (10511 * k)) (pk_mul _ _) ?_
      refine g_sipush (pc := 30) C dX11_differs_30 (v := nI 10505) rfl ?_
      refine g_iadd (pc := 33) C dX11_differs_33 (z := nI (10511 * k + 10505)) (nI_add _ _) ?_
      refine g_iald (pc := 34) C hk6 (nI_clamp (by omega)) (nI_in0 (by omega) (by omega)) dX11_differs_34 (x := nI (gK s)) (kz.rK (j := 10505) rfl) ?_
      refine g_istore_n (pc := 35) C dX11_differs_35 (by decide) (lv' := [(0, .ref (A m)), (1, .int (nI k)), (2, .int (nI (gK s)))]) [1, 2, 0] rfl ?_
      refine g_iconst (pc := 36) C dX11_differs_36 (v := nI 0) rfl ?_
      refine g_istore_n (pc := 37) C dX11_differs_37 (by decide) (lv' := [(0, .ref (A m)), (1, .int (nI k)), (2, .int (nI (gK s))), (3, .int (nI 0))]) [1, 2, 3, 0] rfl ?_
      have lp_38 : ∀ (fuel : Nat) (r : Nat) (hr : r ≤ 16) (hf : ∀ j, j < r → j < max (gK σ) (gK s) → fonP σ s j = false), 16 - r < fuel → V K 0 0 P A g [(0, .ref (A m)), (1, .int (nI k)), (2, .int (nI (gK s))), (3, .int (nI r))] 38 [] := by
        intro fuel
        induction fuel with
        | zero => intro r hr hf hμ; exact absurd hμ (Nat.not_lt_zero _)
        | succ fuel ih_38 =>
          intro r hr hf hμ
          refine g_iload_n (pc := 38) C dX11_differs_38 3 rfl ?_
          refine g_bipush (pc := 39) C dX11_differs_39 (v := nI 16) rfl ?_
          refine g_icmp_ge (pc := 41) C dX11_differs_41 (tgt := 204) (by decide) (fun c_41 => ?_) (fun c_41 => ?_)
          ·
            have c_41 : 16 ≤ r := (nI_leI (by omega) (by omega)).mp c_41
            refine g_bipush (pc := 204) C dX11_differs_204 (v := (-6)) rfl ?_
            exact g_iret (pc := 206) C R ⟨rfl, rfl, Or.inr ⟨k, s, by omega, rfl, hs, by rw [show fon σ s = none from firstB_none (fun j hj => hf j (by omega) hj)]; rfl, rfl⟩⟩ (by decide) (by decide) dX11_differs_206
          ·
            have c_41 : ¬ 16 ≤ r := fun h => c_41 ((nI_leI (a := 16) (b := r) (by omega) (by omega)).mpr h)
            refine g_iload_n (pc := 44) C dX11_differs_44 3 rfl ?_
            refine g_aload_n (pc := 45) C dX11_differs_45 0 rfl ?_
            refine g_get (pc := 46) C (j := 0) hO rfl rfl (by decide) u_852 dX11_differs_46 ?_
            refine g_sipush (pc := 49) C dX11_differs_49 (v := nI 10505) rfl ?_
            refine g_iald (pc := 52) C hZ (nI_clamp (by omega)) (nI_in0 (n := 10511) (by omega) (by omega)) dX11_differs_52 (x := nI (gK σ)) (RZ.rK hR (by omega)) ?_
            refine g_icmp_ge (pc := 53) C dX11_differs_53 (tgt := 60) (by decide) (fun c_53 => ?_) (fun c_53 => ?_)
            ·
              have c_53 : (gK σ) ≤ r := (nI_leI (by omega) (by omega)).mp c_53
              refine g_iconst (pc := 60) C dX11_differs_60 (v := nI 0) rfl ?_
              refine g_istore (pc := 61) C dX11_differs_61 (by decide) (lv' := [(0, .ref (A m)), (1, .int (nI k)), (2, .int (nI (gK s))), (3, .int (nI r)), (4, .int (nI 0))]) [1, 2, 3, 4, 0] rfl ?_
              refine g_iload_n (pc := 63) C dX11_differs_63 3 rfl ?_
              refine g_iload_n (pc := 64) C dX11_differs_64 2 rfl ?_
              refine g_icmp_ge (pc := 65) C dX11_differs_65 (tgt := 72) (by decide) (fun c_65 => ?_) (fun c_65 => ?_)
              ·
                have c_65 : (gK s) ≤ r := (nI_leI (by omega) (by omega)).mp c_65
                refine g_iconst (pc := 72) C dX11_differs_72 (v := nI 0) rfl ?_
                refine g_istore (pc := 73) C dX11_differs_73 (by decide) (lv' := [(0, .ref (A m)), (1, .int (nI k)), (2, .int (nI (gK s))), (3, .int (nI r)), (4, .int (nI 0)), (5, .int (nI 0))]) [1, 2, 3, 4, 5, 0] rfl ?_
                refine g_iload (pc := 75) C dX11_differs_75 4 rfl ?_
                refine g_iload (pc := 77) C dX11_differs_77 5 rfl ?_
                refine g_icmp_eq (pc := 79) C dX11_differs_79 (tgt := 84) (by decide) (fun c_79 => ?_) (fun c_79 => ?_)
                ·
                  have c_79 : 0 = 0 := (nI_eq (by omega) (by omega)).mp c_79
                  refine g_iload (pc := 84) C dX11_differs_84 4 rfl ?_
                  refine g_if_eq (pc := 86) C dX11_differs_86 (tgt := 198) (by decide) (fun c_86 => ?_) (fun c_86 => ?_)
                  ·
                    have c_86 : 0 = 0 := (nI_eq (by omega) (by omega)).mp c_86
                    refine g_iinc (pc := 198) C dX11_differs_198 (by decide) 3 rfl (v := nI (r + 1)) (nI_i1 _) (lv' := [(0, .ref (A m)), (1, .int (nI k)), (2, .int (nI (gK s))), (3, .int (nI (r + 1))), (4, .int (nI 0)), (5, .int (nI 0))]) [1, 2, 3, 0, 4, 5] rfl ?_
                    refine g_goto (pc := 201) C dX11_differs_201 (tgt := 38) (by decide) ?_
                    refine g_sub [0, 1, 2, 3] rfl ?_
                    exact ih_38 (r + 1) (by omega) (fun j hj hj2 => by rcases Nat.lt_succ_iff_lt_or_eq.mp hj with h | rfl; exact hf j h hj2; exact absurd hj2 (by omega)) (by omega)
                  ·
                    exfalso
                    revert c_86; decide
                ·
                  exfalso
                  revert c_79; decide
              ·
                have c_65 : ¬ (gK s) ≤ r := fun h => c_65 ((nI_leI (a := (gK s)) (b := r) (by omega) (by omega)).mpr h)
                refine g_iconst (pc := 68) C dX11_differs_68 (v := nI 1) rfl ?_
                refine g_goto (pc := 69) C dX11_differs_69 (tgt := 73) (by decide) ?_
                refine g_istore (pc := 73) C dX11_differs_73 (by decide) (lv' := [(0, .ref (A m)), (1, .int (nI k)), (2, .int (nI (gK s))), (3, .int (nI r)), (4, .int (nI 0)), (5, .int (nI 1))]) [1, 2, 3, 4, 5, 0] rfl ?_
                refine g_iload (pc := 75) C dX11_differs_75 4 rfl ?_
                refine g_iload (pc := 77) C dX11_differs_77 5 rfl ?_
                refine g_icmp_eq (pc := 79) C dX11_differs_79 (tgt := 84) (by decide) (fun c_79 => ?_) (fun c_79 => ?_)
                ·
                  exfalso
                  revert c_79; decide
                ·
                  have c_79 : ¬ 0 = 1 := fun h => c_79 ((nI_eq (a := 0) (b := 1) (by omega) (by omega)).mpr h)
                  refine g_iload_n (pc := 82) C dX11_differs_82 3 rfl ?_
                  exact g_iret (pc := 83) C R ⟨rfl, rfl, Or.inr ⟨k, s, by omega, rfl, hs, by rw [show fon σ s = some r from firstB_hit (fonP_1 (by omega)) (fun j hj => hf j hj (by omega)) (by omega)]; rfl, rfl⟩⟩ (by decide) (by decide) dX11_differs_83
            ·
              have c_53 : ¬ (gK σ) ≤ r := fun h => c_53 ((nI_leI (a := (gK σ)) (b := r) (by omega) (by omega)).mpr h)
              refine g_iconst (pc := 56) C dX11_differs_56 (v := nI 1) rfl ?_
              refine g_goto (pc := 57) C dX11_differs_57 (tgt := 61) (by decide) ?_
              refine g_istore (pc := 61) C dX11_differs_61 (by decide) (lv' := [(0, .ref (A m)), (1, .int (nI k)), (2, .int (nI (gK s))), (3, .int (nI r)), (4, .int (nI 1))]) [1, 2, 3, 4, 0] rfl ?_
              refine g_iload_n (pc := 63) C dX11_differs_63 3 rfl ?_
              refine g_iload_n (pc := 64) C dX11_differs_64 2 rfl ?_
              refine g_icmp_ge (pc := 65) C dX11_differs_65 (tgt := 72) (by decide) (fun c_65 => ?_) (fun c_65 => ?_)
              ·
                have c_65 : (gK s) ≤ r := (nI_leI (by omega) (by omega)).mp c_65
                refine g_iconst (pc := 72) C dX11_differs_72 (v := nI 0) rfl ?_
                refine g_istore (pc := 73) C dX11_differs_73 (by decide) (lv' := [(0, .ref (A m)), (1, .int (nI k)), (2, .int (nI (gK s))), (3, .int (nI r)), (4, .int (nI 1)), (5, .int (nI 0))]) [1, 2, 3, 4, 5, 0] rfl ?_
                refine g_iload (pc := 75) C dX11_differs_75 4 rfl ?_
                refine g_iload (pc := 77) C dX11_differs_77 5 rfl ?_
                refine g_icmp_eq (pc := 79) C dX11_differs_79 (tgt := 84) (by decide) (fun c_79 => ?_) (fun c_79 => ?_)
                ·
                  exfalso
                  revert c_79; decide
                ·
                  have c_79 : ¬ 1 = 0 := fun h => c_79 ((nI_eq (a := 1) (b := 0) (by omega) (by omega)).mpr h)
                  refine g_iload_n (pc := 82) C dX11_differs_82 3 rfl ?_
                  exact g_iret (pc := 83) C R ⟨rfl, rfl, Or.inr ⟨k, s, by omega, rfl, hs, by rw [show fon σ s = some r from firstB_hit (fonP_2 (by omega)) (fun j hj => hf j hj (by omega)) (by omega)]; rfl, rfl⟩⟩ (by decide) (by decide) dX11_differs_83
              ·
                have c_65 : ¬ (gK s) ≤ r := fun h => c_65 ((nI_leI (a := (gK s)) (b := r) (by omega) (by omega)).mpr h)
                refine g_iconst (pc := 68) C dX11_differs_68 (v := nI 1) rfl ?_
                refine g_goto (pc := 69) C dX11_differs_69 (tgt := 73) (by decide) ?_
                refine g_istore (pc := 73) C dX11_differs_73 (by decide) (lv' := [(0, .ref (A m)), (1, .int (nI k)), (2, .int (nI (gK s))), (3, .int (nI r)), (4, .int (nI 1)), (5, .int (nI 1))]) [1, 2, 3, 4, 5, 0] rfl ?_
                refine g_iload (pc := 75) C dX11_differs_75 4 rfl ?_
                refine g_iload (pc := 77) C dX11_differs_77 5 rfl ?_
                refine g_icmp_eq (pc := 79) C dX11_differs_79 (tgt := 84) (by decide) (fun c_79 => ?_) (fun c_79 => ?_)
                ·
                  have c_79 : 1 = 1 := (nI_eq (by omega) (by omega)).mp c_79
                  refine g_iload (pc := 84) C dX11_differs_84 4 rfl ?_
                  refine g_if_eq (pc := 86) C dX11_differs_86 (tgt := 198) (by decide) (fun c_86 => ?_) (fun c_86 => ?_)
                  ·
                    exfalso
                    revert c_86; decide
                  ·
                    have c_86 : ¬ 1 = 0 := fun h => c_86 ((nI_eq (a := 1) (b := 0) (by omega) (by omega)).mpr h)
                    have hno := nd_ot hR kz hS hS2 (r := r) (by omega) (by omega)
                    have hc5 := hR.ac5 (r := r) (by omega)
                    have hc8 := hR.pa8 (r := r) (by omega)
                    refine g_aload_n (pc := 89) C dX11_differs_89 0 rfl ?_
                    refine g_iload_n (pc := 90) C dX11_differs_90 1 rfl ?_
                    refine g_bipush (pc := 91) C dX11_differs_91 (v := nI 16) rfl ?_
                    refine g_iload_n (pc := 93) C dX11_differs_93 3 rfl ?_
                    refine g_iadd (pc := 94) C dX11_differs_94 (z := nI (16 + r)) (nI_add _ _) ?_
                    refine g_iconst (pc := 95) C dX11_differs_95 (v := nI 1) rfl ?_
                    refine g_callV (pc := 96) C (As := [.int (nI k), .int (nI (16 + r)), .int (nI 1)]) (rest := []) (b := m) (c_X11_isOther A P g m (lm := lm) (gm := gm) (cs := cs) (σ := σ) k (16 + r) 1 (by omega) (by omega) hO hZ hk6) hO rfl rfl Y_X11_isOther u_1135 N_X11_isOther ⟨by decide, by decide⟩ ⟨by decide, by decide⟩ (Nat.le_of_ble_eq_true rfl) rfl dX11_differs_96 ?_
                    rintro _ _ _ _ ⟨rfl, rfl, rfl, rfl⟩
                    show V K 0 0 P A g [(0, .ref (A m)), (1, .int (nI k)), (2, .int (nI (gK s))), (3, .int (nI r)), (4, .int (nI 1)), (5, .int (nI 1))] 99 [.int (b32 (otA Z Kp k (16 + r) 1))]
                    refine g_if_ne (pc := 99) C dX11_differs_99 (tgt := 196) (by decide) (fun c_99 => ?_) (fun c_99 => ?_)
                    ·
                      have c_99 : (otA Z Kp k (16 + r) 1) = true := b32_no c_99
                      refine g_iload_n (pc := 196) C dX11_differs_196 3 rfl ?_
                      exact g_iret (pc := 197) C R ⟨rfl, rfl, Or.inr ⟨k, s, by omega, rfl, hs, by rw [show fon σ s = some r from firstB_hit (fonP_3 (ndSame_no (fun z => (hno.1 z).1) (by rw [c_99]; decide))) (fun j hj => hf j hj (by omega)) (by omega)]; rfl, rfl⟩⟩ (by decide) (by decide) dX11_differs_197
                    ·
                      have c_99 : (otA Z Kp k (16 + r) 1) = false := b32_yes c_99
                      refine g_aload_n (pc := 102) C dX11_differs_102 0 rfl ?_
                      refine g_iload_n (pc := 103) C dX11_differs_103 1 rfl ?_
                      refine g_bipush (pc := 104) C dX11_differs_104 (v := nI 32) rfl ?_
                      refine g_iload_n (pc := 106) C dX11_differs_106 3 rfl ?_
                      refine g_iadd (pc := 107) C dX11_differs_107 (z := nI (32 + r)) (nI_add _ _) ?_
                      refine g_iconst (pc := 108) C dX11_differs_108 (v := nI 1) rfl ?_
                      refine g_callV (pc := 109) C (As := [.int (nI k), .int (nI (32 + r)), .int (nI 1)]) (rest := []) (b := m) (c_X11_isOther A P g m (lm := lm) (gm := gm) (cs := cs) (σ := σ) k (32 + r) 1 (by omega) (by omega) hO hZ hk6) hO rfl rfl Y_X11_isOther u_1135 N_X11_isOther ⟨by decide, by decide⟩ ⟨by decide, by decide⟩ (Nat.le_of_ble_eq_true rfl) rfl dX11_differs_109 ?_
                      rintro _ _ _ _ ⟨rfl, rfl, rfl, rfl⟩
                      show V K 0 0 P A g [(0, .ref (A m)), (1, .int (nI k)), (2, .int (nI (gK s))), (3, .int (nI r)), (4, .int (nI 1)), (5, .int (nI 1))] 112 [.int (b32 (otA Z Kp k (32 + r) 1))]
                      refine g_if_ne (pc := 112) C dX11_differs_112 (tgt := 196) (by decide) (fun c_112 => ?_) (fun c_112 => ?_)
                      ·
                        have c_112 : (otA Z Kp k (32 + r) 1) = true := b32_no c_112
                        refine g_iload_n (pc := 196) C dX11_differs_196 3 rfl ?_
                        exact g_iret (pc := 197) C R ⟨rfl, rfl, Or.inr ⟨k, s, by omega, rfl, hs, by rw [show fon σ s = some r from firstB_hit (fonP_3 (ndSame_no (fun z => (hno.1 z).2.1) (by rw [c_112]; decide))) (fun j hj => hf j hj (by omega)) (by omega)]; rfl, rfl⟩⟩ (by decide) (by decide) dX11_differs_197
                      ·
                        have c_112 : (otA Z Kp k (32 + r) 1) = false := b32_yes c_112
                        refine g_aload_n (pc := 115) C dX11_differs_115 0 rfl ?_
                        refine g_iload_n (pc := 116) C dX11_differs_116 1 rfl ?_
                        refine g_bipush (pc := 117) C dX11_differs_117 (v := nI 96) rfl ?_
                        refine g_iconst (pc := 119) C dX11_differs_119 (v := nI 5) rfl ?_
                        refine g_iload_n (pc := 120) C dX11_differs_120 3 rfl ?_
                        refine g_imul (pc := 121) C dX11_differs_121 (z := nI (5 * r)) (pk_mul _ _) ?_
                        refine g_iadd (pc := 122) C dX11_differs_122 (z := nI (96 + 5 * r)) (nI_add _ _) ?_
                        refine g_aload_n (pc := 123) C dX11_differs_123 0 rfl ?_
                        refine g_get (pc := 124) C (j := 0) hO rfl rfl (by decide) u_852 dX11_differs_124 ?_
                        refine g_bipush (pc := 127) C dX11_differs_127 (v := nI 16) rfl ?_
                        refine g_iload_n (pc := 129) C dX11_differs_129 3 rfl ?_
                        refine g_iadd (pc := 130) C dX11_differs_130 (z := nI (16 + r)) (nI_add _ _) ?_
                        refine g_iald (pc := 131) C hZ (nI_clamp (by omega)) (nI_in0 (n := 10511) (by omega) (by omega)) dX11_differs_131 (x := nI (nAc (gN σ r)).length) (RZ.rAn hR (r := r) (by omega) (by omega)) ?_
                        refine g_callV (pc := 132) C (As := [.int (nI k), .int (nI (96 + 5 * r)), .int (nI (nAc (gN σ r)).length)]) (rest := []) (b := m) (c_X11_isOther A P g m (lm := lm) (gm := gm) (cs := cs) (σ := σ) k (96 + 5 * r) (nAc (gN σ r)).length (by omega) (by omega) hO hZ hk6) hO rfl rfl Y_X11_isOther u_1135 N_X11_isOther ⟨by decide, by decide⟩ ⟨by decide, by decide⟩ (Nat.le_of_ble_eq_true rfl) rfl dX11_differs_132 ?_
                        rintro _ _ _ _ ⟨rfl, rfl, rfl, rfl⟩
                        show V K 0 0 P A g [(0, .ref (A m)), (1, .int (nI k)), (2, .int (nI (gK s))), (3, .int (nI r)), (4, .int (nI 1)), (5, .int (nI 1))] 135 [.int (b32 (otA Z Kp k (96 + 5 * r) (nAc (gN σ r)).length))]
                        refine g_if_ne (pc := 135) C dX11_differs_135 (tgt := 196) (by decide) (fun c_135 => ?_) (fun c_135 => ?_)
                        ·
                          have c_135 : (otA Z Kp k (96 + 5 * r) (nAc (gN σ r)).length) = true := b32_no c_135
                          refine g_iload_n (pc := 196) C dX11_differs_196 3 rfl ?_
                          exact g_iret (pc := 197) C R ⟨rfl, rfl, Or.inr ⟨k, s, by omega, rfl, hs, by rw [show fon σ s = some r from firstB_hit (fonP_3 (ndSame_no (fun z => (hno.1 z).2.2.1) (by rw [c_135]; decide))) (fun j hj => hf j hj (by omega)) (by omega)]; rfl, rfl⟩⟩ (by decide) (by decide) dX11_differs_197
                        ·
                          have c_135 : (otA Z Kp k (96 + 5 * r) (nAc (gN σ r)).length) = false := b32_yes c_135
                          refine g_aload_n (pc := 138) C dX11_differs_138 0 rfl ?_
                          refine g_iload_n (pc := 139) C dX11_differs_139 1 rfl ?_
                          refine g_sipush (pc := 140) C dX11_differs_140 (v := nI 176) rfl ?_
                          refine g_iconst (pc := 143) C dX11_differs_143 (v := nI 5) rfl ?_
                          refine g_iload_n (pc := 144) C dX11_differs_144 3 rfl ?_
                          refine g_imul (pc := 145) C dX11_differs_145 (z := nI (5 * r)) (pk_mul _ _) ?_
                          refine g_iadd (pc := 146) C dX11_differs_146 (z := nI (176 + 5 * r)) (nI_add _ _) ?_
                          refine g_aload_n (pc := 147) C dX11_differs_147 0 rfl ?_
                          refine g_get (pc := 148) C (j := 0) hO rfl rfl (by decide) u_852 dX11_differs_148 ?_
                          refine g_bipush (pc := 151) C dX11_differs_151 (v := nI 16) rfl ?_
                          refine g_iload_n (pc := 153) C dX11_differs_153 3 rfl ?_
                          refine g_iadd (pc := 154) C dX11_differs_154 (z := nI (16 + r)) (nI_add _ _) ?_
                          refine g_iald (pc := 155) C hZ (nI_clamp (by omega)) (nI_in0 (n := 10511) (by omega) (by omega)) dX11_differs_155 (x := nI (nAc (gN σ r)).length) (RZ.rAn hR (r := r) (by omega) (by omega)) ?_
                          refine g_callV (pc := 156) C (As := [.int (nI k), .int (nI (176 + 5 * r)), .int (nI (nAc (gN σ r)).length)]) (rest := []) (b := m) (c_X11_isOther A P g m (lm := lm) (gm := gm) (cs := cs) (σ := σ) k (176 + 5 * r) (nAc (gN σ r)).length (by omega) (by omega) hO hZ hk6) hO rfl rfl Y_X11_isOther u_1135 N_X11_isOther ⟨by decide, by decide⟩ ⟨by decide, by decide⟩ (Nat.le_of_ble_eq_true rfl) rfl dX11_differs_156 ?_
                          rintro _ _ _ _ ⟨rfl, rfl, rfl, rfl⟩
                          show V K 0 0 P A g [(0, .ref (A m)), (1, .int (nI k)), (2, .int (nI (gK s))), (3, .int (nI r)), (4, .int (nI 1)), (5, .int (nI 1))] 159 [.int (b32 (otA Z Kp k (176 + 5 * r) (nAc (gN σ r)).length))]
                          refine g_if_ne (pc := 159) C dX11_differs_159 (tgt := 196) (by decide) (fun c_159 => ?_) (fun c_159 => ?_)
                          ·
                            have c_159 : (otA Z Kp k (176 + 5 * r) (nAc (gN σ r)).length) = true := b32_no c_159
                            refine g_iload_n (pc := 196) C dX11_differs_196 3 rfl ?_
                            exact g_iret (pc := 197) C R ⟨rfl, rfl, Or.inr ⟨k, s, by omega, rfl, hs, by rw [show fon σ s = some r from firstB_hit (fonP_3 (ndSame_no (fun z => (hno.1 z).2.2.2.1) (by rw [c_159]; decide))) (fun j hj => hf j hj (by omega)) (by omega)]; rfl, rfl⟩⟩ (by decide) (by decide) dX11_differs_197
                          ·
                            have c_159 : (otA Z Kp k (176 + 5 * r) (nAc (gN σ r)).length) = false := b32_yes c_159
                            refine g_aload_n (pc := 162) C dX11_differs_162 0 rfl ?_
                            refine g_iload_n (pc := 163) C dX11_differs_163 1 rfl ?_
                            refine g_sipush (pc := 164) C dX11_differs_164 (v := nI 256) rfl ?_
                            refine g_bipush (pc := 167) C dX11_differs_167 (v := nI 8) rfl ?_
                            refine g_iload_n (pc := 169) C dX11_differs_169 3 rfl ?_
                            refine g_imul (pc := 170) C dX11_differs_170 (z := nI (8 * r)) (pk_mul _ _) ?_
                            refine g_iadd (pc := 171) C dX11_differs_171 (z := nI (256 + 8 * r)) (nI_add _ _) ?_
                            refine g_aload_n (pc := 172) C dX11_differs_172 0 rfl ?_
                            refine g_get (pc := 173) C (j := 0) hO rfl rfl (by decide) u_852 dX11_differs_173 ?_
                            refine g_bipush (pc := 176) C dX11_differs_176 (v := nI 32) rfl ?_
                            refine g_iload_n (pc := 178) C dX11_differs_178 3 rfl ?_
                            refine g_iadd (pc := 179) C dX11_differs_179 (z := nI (32 + r)) (nI_add _ _) ?_
                            refine g_iald (pc := 180) C hZ (nI_clamp (by omega)) (nI_in0 (n := 10511) (by omega) (by omega)) dX11_differs_180 (x := nI (nPa (gN σ r)).length) (RZ.rPn hR (r := r) (by omega) (by omega)) ?_
                            refine g_callV (pc := 181) C (As := [.int (nI k), .int (nI (256 + 8 * r)), .int (nI (nPa (gN σ r)).length)]) (rest := []) (b := m) (c_X11_isOther A P g m (lm := lm) (gm := gm) (cs := cs) (σ := σ) k (256 + 8 * r) (nPa (gN σ r)).length (by omega) (by omega) hO hZ hk6) hO rfl rfl Y_X11_isOther u_1135 N_X11_isOther ⟨by decide, by decide⟩ ⟨by decide, by decide⟩ (Nat.le_of_ble_eq_true rfl) rfl dX11_differs_181 ?_
                            rintro _ _ _ _ ⟨rfl, rfl, rfl, rfl⟩
                            show V K 0 0 P A g [(0, .ref (A m)), (1, .int (nI k)), (2, .int (nI (gK s))), (3, .int (nI r)), (4, .int (nI 1)), (5, .int (nI 1))] 184 [.int (b32 (otA Z Kp k (256 + 8 * r) (nPa (gN σ r)).length))]
                            refine g_if_ne (pc := 184) C dX11_differs_184 (tgt := 196) (by decide) (fun c_184 => ?_) (fun c_184 => ?_)
                            ·
                              have c_184 : (otA Z Kp k (256 + 8 * r) (nPa (gN σ r)).length) = true := b32_no c_184
                              refine g_iload_n (pc := 196) C dX11_differs_196 3 rfl ?_
                              exact g_iret (pc := 197) C R ⟨rfl, rfl, Or.inr ⟨k, s, by omega, rfl, hs, by rw [show fon σ s = some r from firstB_hit (fonP_3 (ndSame_no (fun z => (hno.1 z).2.2.2.2.1) (by rw [c_184]; decide))) (fun j hj => hf j hj (by omega)) (by omega)]; rfl, rfl⟩⟩ (by decide) (by decide) dX11_differs_197
                            ·
                              have c_184 : (otA Z Kp k (256 + 8 * r) (nPa (gN σ r)).length) = false := b32_yes c_184
                              refine g_aload_n (pc := 187) C dX11_differs_187 0 rfl ?_
                              refine g_iload_n (pc := 188) C dX11_differs_188 1 rfl ?_
                              refine g_iload_n (pc := 189) C dX11_differs_189 3 rfl ?_
                              refine g_callV (pc := 190) C (As := [.int (nI k), .int (nI r)]) (rest := []) (b := m) (c_X11_heardOther A P g m (lm := lm) (gm := gm) (cs := cs) (σ := σ) k r (by omega) (by omega) hO hZ hk6) hO rfl rfl Y_X11_heardOther u_1139 N_X11_heardOther ⟨by decide, by decide⟩ ⟨by decide, by decide⟩ (Nat.le_of_ble_eq_true rfl) rfl dX11_differs_190 ?_
                              rintro _ _ _ _ ⟨rfl, rfl, rfl, rfl⟩
                              show V K 0 0 P A g [(0, .ref (A m)), (1, .int (nI k)), (2, .int (nI (gK s))), (3, .int (nI r)), (4, .int (nI 1)), (5, .int (nI 1))] 193 [.int (b32 (otA Z Kp k (384 + 24 * r) 24))]
                              refine g_if_eq (pc := 193) C dX11_differs_193 (tgt := 198) (by decide) (fun c_193 => ?_) (fun c_193 => ?_)
                              ·
                                have c_193 : (otA Z Kp k (384 + 24 * r) 24) = false := b32_yes c_193
                                refine g_iinc (pc := 198) C dX11_differs_198 (by decide) 3 rfl (v := nI (r + 1)) (nI_i1 _) (lv' := [(0, .ref (A m)), (1, .int (nI k)), (2, .int (nI (gK s))), (3, .int (nI (r + 1))), (4, .int (nI 1)), (5, .int (nI 1))]) [1, 2, 3, 0, 4, 5] rfl ?_
                                refine g_goto (pc := 201) C dX11_differs_201 (tgt := 38) (by decide) ?_
                                refine g_sub [0, 1, 2, 3] rfl ?_
                                exact ih_38 (r + 1) (by omega) (fun j hj hj2 => by rcases Nat.lt_succ_iff_lt_or_eq.mp hj with h | rfl; exact hf j h hj2; exact fonP_f (by omega) (by omega) (hno.2 c_99 c_112 c_135 c_159 c_184 c_193)) (by omega)
                              ·
                                have c_193 : (otA Z Kp k (384 + 24 * r) 24) = true := b32_no c_193
                                refine g_iload_n (pc := 196) C dX11_differs_196 3 rfl ?_
                                exact g_iret (pc := 197) C R ⟨rfl, rfl, Or.inr ⟨k, s, by omega, rfl, hs, by rw [show fon σ s = some r from firstB_hit (fonP_3 (ndSame_no (fun z => (hno.1 z).2.2.2.2.2) (by rw [c_193]; decide))) (fun j hj => hf j hj (by omega)) (by omega)]; rfl, rfl⟩⟩ (by decide) (by decide) dX11_differs_197
                ·
                  exfalso
                  revert c_79; decide
      exact lp_38 (_ + 1) 0 (Nat.zero_le _) (fun j hj => absurd hj (Nat.not_lt_zero j)) (Nat.lt_succ_self _)
    ·
      have c_16 : (ks k).isSome = false := b32_yes c_16
      refine g_iconst (pc := 19) C dX11_differs_19 (v := (-1)) rfl ?_
      exact g_iret (pc := 20) C R ⟨rfl, rfl, Or.inl ⟨Or.inr ⟨k, by omega, rfl, Option.isSome_eq_false_iff.mp c_16 |> Option.isNone_iff_eq_none.mp⟩, rfl, rfl⟩⟩ (by decide) (by decide) dX11_differs_20
