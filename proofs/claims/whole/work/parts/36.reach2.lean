-- PART 36: who is reached: the class
theorem N_Jbc : yJbc.cls ≠ "java/lang/invoke/MethodHandle" ∧ yJbc.cls ≠ "java/lang/invoke/VarHandle" ∧ (parseMethodDescriptor yJbc.desc).map (fun d => d.parameters.length) = some 1 := by decide +kernel
theorem g_callSO {K : vT} {cc : ByteArray} {own : String} {nL : Nat} {rm : Room} {cells slots : Nat} {P : List Nat} {A : Nat → Nat} {g : pM} {lv : List (Nat × Value)} {pc : Nat} {st rest : List Value} (C : vC K cc own nL rm) {y2 : MethodName} {cc2 : ByteArray} {nL2 : Nat} {ret2 : Option FieldType} {rm2 : Room} {As : List Value} {idx : Nat} {post2 : pP} (hM : PX y2 cc2 nL2 ret2 rm2 As P A g post2)
    (hs2 : Cond.static y2 ∈ pU) (hi2 : Cond.initialized y2.cls ∈ pU) (hco : Cond.code y2 cc2 nL2 ret2 ∈ pU) (hl : Cond.methodLink own idx y2 ∈ pU)
    (hn : y2.cls ≠ "java/lang/invoke/MethodHandle" ∧ y2.cls ≠ "java/lang/invoke/VarHandle" ∧ (parseMethodDescriptor y2.desc).map (fun d => d.parameters.length) = some As.length)
    (hR : rm2.frames + 1 ≤ rm.frames ∧ 8 + (nL2 + 11) + rm2.locals ≤ rm.locals) (hcs : cells + rm2.cells ≤ rm.cells ∧ slots + rm2.slots ≤ rm.slots) (hcat : (rest.map fun v => v.category).sum ≤ 8)
    (hst : st = As.reverse ++ rest) (hd : decode cc pc = .ok (.invokestatic idx, 3))
    (kk : ∀ v P' A' g', post2 v P' A' g' → V K (cells + rm2.cells) (slots + rm2.slots) P' A' g' lv (pc + 3) (v.toList ++ rest)) : V K cells slots P A g lv pc st := by
  intro H locs ls a b' c d e
  exact g_back C (va_runS (As := As) (rest := rest) ⟨C.ex, C.co, C.ml, C.ow, C.ts⟩ (hM (kl K) (kD K) H.size) ⟨callB_of As.length C.ts (pU_gi hco) rfl rfl rfl (C.ts _ hi2) (C.ts _ hl) ⟨hn.1, hn.2.1, hn.2.2⟩ (by rw [C.hr]; exact hR), C.ts _ hs2⟩
    ⟨pre_blind, fun U hU hW => ⟨rfl, by rw [hU], by rw [hU]; exact a, pK_warm hW C.kk, b'⟩⟩ rfl rfl (e.1.trans C.nn) hst (lv_room hcat) hd (by rw [C.hr]; exact hcs)) (fun q h => h) a b' c d e kk
abbrev rm_X9_reachFrom : Room := { frames := 3, cells := 0, slots := 0, locals := 66 }
theorem Y_X9_reachFrom : pY yX9_reachFrom cX9_reachFrom 5 (Option.some Jvm.ClassFile.FieldType.int) := ⟨u_761, u_762, u_3, u_763⟩
theorem N_X9_reachFrom : yX9_reachFrom.cls ≠ "java/lang/invoke/MethodHandle" ∧ yX9_reachFrom.cls ≠ "java/lang/invoke/VarHandle" ∧ (parseMethodDescriptor yX9_reachFrom.desc).map (fun d => d.parameters.length) = some 1 := by decide +kernel
set_option maxRecDepth 20000 in
set_option maxHeartbeats 4000000 in
theorem c_X9_reachFrom (A : Nat → Nat) (P : List Nat) (g : pM) (w : Nat) {cq : Nat} {σ : Sg} (i : Nat) (hi : i < gK σ) (ha : ∀ j, j < gK σ → ∀ q ∈ nAc (gN σ j), q < gK σ) (h : WD A g w cq σ) : PM yX9_reachFrom cX9_reachFrom 5 (Option.some Jvm.ClassFile.FieldType.int) rm_X9_reachFrom [.ref (A w), .int (nI i)] P A g (fun v g' => v = some (.int (bcn (nI (rch σ 16 (2 ^ i))))) ∧ g = g') := by
  have hK := h.k16
  have hlk : ∀ j, j < gK σ → lnk σ j < 65536 := fun j hj => lnkF_lt (by omega) (fun q hq => by have := ha j hj q hq; omega)
  have hm0 : 2 ^ i < 65536 := Nat.pow_lt_pow_right (by omega) (show i < 16 by omega)
  refine px_intro (by decide +kernel) (Nat.le_of_ble_eq_true rfl) (fun K sz C R => ?_)
  show V K 0 0 P A g [(0, .ref (A w)), (1, .int (nI i))] 0 []
  refine g_iconst (pc := 0) C dX9_reachFrom_0 (v := nI 1) rfl ?_
  refine g_iload_n (pc := 1) C dX9_reachFrom_1 1 rfl ?_
  refine g_ishl (pc := 2) C dX9_reachFrom_2 (z := nI (2 ^ i)) (shl_nI (by omega)) ?_
  refine g_istore_n (pc := 3) C dX9_reachFrom_3 (by decide) (lv' := [(0, .ref (A w)), (1, .int (nI i)), (2, .int (nI (2 ^ i)))]) [1, 2, 0] rfl ?_
  refine g_iconst (pc := 4) C dX9_reachFrom_4 (v := nI 0) rfl ?_
  refine g_istore_n (pc := 5) C dX9_reachFrom_5 (by decide) (lv' := [(0, .ref (A w)), (1, .int (nI i)), (2, .int (nI (2 ^ i))), (3, .int (nI 0))]) [1, 2, 3, 0] rfl ?_
  have lp_6 : ∀ (fuel : Nat) (r : Nat) (hr : r ≤ 16), 16 - r < fuel → V K 0 0 P A g [(0, .ref (A w)), (1, .int (nI i)), (2, .int (nI (rch σ r (2 ^ i)))), (3, .int (nI r))] 6 [] := by
    intro fuel
    induction fuel with
    | zero => intro r hr hμ; exact absurd hμ (Nat.not_lt_zero _)
    | succ fuel ih_6 =>
      intro r hr hμ
      refine g_iload_n (pc := 6) C dX9_reachFrom_6 3 rfl ?_
      refine g_bipush (pc := 7) C dX9_reachFrom_7 (v := nI 16) rfl ?_
      refine g_icmp_ge (pc := 9) C dX9_reachFrom_9 (tgt := 58) (by decide) (fun c_9 => ?_) (fun c_9 => ?_)
      ·
        have c_9 : 16 ≤ r := (nI_leI (by omega) (by omega)).mp c_9
        refine g_iload_n (pc := 58) C dX9_reachFrom_58 2 rfl ?_
        have hr16 : r = 16 := by omega
        rw [hr16]
        refine g_callSO (pc := 59) C (As := [.int (nI (rch σ 16 (2 ^ i)))]) (rest := []) (c_bitCount A P g (nI (rch σ 16 (2 ^ i)))) u_769 u_14 u_770 u_768 N_Jbc ⟨by decide, by decide⟩ ⟨by decide, by decide⟩ (Nat.le_of_ble_eq_true rfl) rfl dX9_reachFrom_59 ?_
        rintro _ _ _ _ ⟨rfl, rfl, rfl, rfl⟩
        exact g_iret (pc := 62) C R ⟨rfl, rfl, rfl, rfl⟩ (by decide) (by decide) dX9_reachFrom_62
      ·
        have c_9 : ¬ 16 ≤ r := fun h => c_9 ((nI_leI (a := 16) (b := r) (by omega) (by omega)).mpr h)
        refine g_iconst (pc := 12) C dX9_reachFrom_12 (v := nI 0) rfl ?_
        refine g_istore (pc := 13) C dX9_reachFrom_13 (by decide) (lv' := [(0, .ref (A w)), (1, .int (nI i)), (2, .int (nI (rch σ r (2 ^ i)))), (3, .int (nI r)), (4, .int (nI 0))]) [1, 2, 3, 4, 0] rfl ?_
        have lp_15 : ∀ (fuel : Nat) (n : Nat) (hn : n ≤ gK σ), gK σ - n < fuel → V K 0 0 P A g [(0, .ref (A w)), (1, .int (nI i)), (2, .int (nI (rch1 σ n (rch σ r (2 ^ i))))), (3, .int (nI r)), (4, .int (nI n))] 15 [] := by
          intro fuel
          induction fuel with
          | zero => intro n hn hμ; exact absurd hμ (Nat.not_lt_zero _)
          | succ fuel ih_15 =>
            intro n hn hμ
            refine g_iload (pc := 15) C dX9_reachFrom_15 4 rfl ?_
            refine g_aload_n (pc := 17) C dX9_reachFrom_17 0 rfl ?_
            refine g_get (pc := 18) C (j := 7) (WD.wb h).1 rfl rfl (by decide) u_258 dX9_reachFrom_18 ?_
            refine g_icmp_ge (pc := 21) C dX9_reachFrom_21 (tgt := 52) (by decide) (fun c_21 => ?_) (fun c_21 => ?_)
            ·
              have c_21 : (gK σ) ≤ n := (nI_leI (by omega) (by omega)).mp c_21
              refine g_iinc (pc := 52) C dX9_reachFrom_52 (by decide) 3 rfl (v := nI (r + 1)) (nI_i1 _) (lv' := [(0, .ref (A w)), (1, .int (nI i)), (2, .int (nI (rch1 σ n (rch σ r (2 ^ i))))), (3, .int (nI (r + 1))), (4, .int (nI n))]) [1, 2, 3, 0, 4] rfl ?_
              refine g_goto (pc := 55) C dX9_reachFrom_55 (tgt := 6) (by decide) ?_
              refine g_sub [0, 1, 2, 3] rfl ?_
              have he : n = gK σ := by omega
              rw [show rch1 σ n (rch σ r (2 ^ i)) = rch σ (r + 1) (2 ^ i) from by rw [he]; rfl]
              exact ih_6 (r + 1) (by omega) (by omega)
            ·
              have c_21 : ¬ (gK σ) ≤ n := fun h => c_21 ((nI_leI (a := (gK σ)) (b := n) (by omega) (by omega)).mpr h)
              have hml : rch1 σ n (rch σ r (2 ^ i)) < 65536 := rch1_lt (rch_lt hm0 hlk) (fun j hj => hlk j (by omega))
              refine g_iload_n (pc := 24) C dX9_reachFrom_24 2 rfl ?_
              refine g_iconst (pc := 25) C dX9_reachFrom_25 (v := nI 1) rfl ?_
              refine g_iload (pc := 26) C dX9_reachFrom_26 4 rfl ?_
              refine g_ishl (pc := 28) C dX9_reachFrom_28 (z := nI (2 ^ n)) (shl_nI (by omega)) ?_
              refine g_iand (pc := 29) C dX9_reachFrom_29 (z := nI (rch1 σ n (rch σ r (2 ^ i))) &&& nI (2 ^ n)) rfl ?_
              refine g_if_eq (pc := 30) C dX9_reachFrom_30 (tgt := 46) (by decide) (fun c_30 => ?_) (fun c_30 => ?_)
              ·
                have hb := (bit_nI _ _ hml (by omega)).mp c_30
                rw [← rch1_n hb]
                refine g_iinc (pc := 46) C dX9_reachFrom_46 (by decide) 4 rfl (v := nI (n + 1)) (nI_i1 _) (lv' := [(0, .ref (A w)), (1, .int (nI i)), (2, .int (nI (rch1 σ (n + 1) (rch σ r (2 ^ i))))), (3, .int (nI r)), (4, .int (nI (n + 1)))]) [1, 2, 3, 4, 0] rfl ?_
                refine g_goto (pc := 49) C dX9_reachFrom_49 (tgt := 15) (by decide) ?_
                exact ih_15 (n + 1) (by omega) (by omega)
              ·
                have hb : (rch1 σ n (rch σ r (2 ^ i))).testBit n = true := by cases e : (rch1 σ n (rch σ r (2 ^ i))).testBit n; exact absurd ((bit_nI _ _ hml (by omega)).mpr e) c_30; rfl
                refine g_iload_n (pc := 33) C dX9_reachFrom_33 2 rfl ?_
                refine g_aload_n (pc := 34) C dX9_reachFrom_34 0 rfl ?_
                refine g_aload_n (pc := 35) C dX9_reachFrom_35 0 rfl ?_
                refine g_iload (pc := 36) C dX9_reachFrom_36 4 rfl ?_
                refine g_callV (pc := 38) C (As := [.int (nI n)]) (rest := [.ref (A w), .int (nI (rch1 σ n (rch σ r (2 ^ i))))]) (b := w) (c_X9_nodeAt A P g w n (by omega) (WD.wb h)) (WD.wb h).1 rfl rfl Y_X9_nodeAt u_406 N_X9_nodeAt ⟨by decide, by decide⟩ ⟨by decide, by decide⟩ (Nat.le_of_ble_eq_true rfl) rfl dX9_reachFrom_38 ?_
                rintro _ _ _ _ ⟨rfl, rfl, rfl, rfl⟩
                show V K 0 0 P A g [(0, .ref (A w)), (1, .int (nI i)), (2, .int (nI (rch1 σ n (rch σ r (2 ^ i))))), (3, .int (nI r)), (4, .int (nI n))] 41 [.ref (A (w + 100 + 100 * n)), .ref (A w), .int (nI (rch1 σ n (rch σ r (2 ^ i))))]
                refine g_callV (pc := 41) C (As := [.ref (A (w + 100 + 100 * n))]) (rest := [.int (nI (rch1 σ n (rch σ r (2 ^ i))))]) (b := w) (c_X9_liveLinksOf A P g w n (by omega) (ha n (by omega)) h) (WD.wb h).1 rfl rfl Y_X9_liveLinksOf u_764 N_X9_liveLinksOf ⟨by decide, by decide⟩ ⟨by decide, by decide⟩ (Nat.le_of_ble_eq_true rfl) rfl dX9_reachFrom_41 ?_
                rintro _ _ _ _ ⟨rfl, rfl, rfl, rfl⟩
                show V K 0 0 P A g [(0, .ref (A w)), (1, .int (nI i)), (2, .int (nI (rch1 σ n (rch σ r (2 ^ i))))), (3, .int (nI r)), (4, .int (nI n))] 44 [.int (nI (lnk σ n)), .int (nI (rch1 σ n (rch σ r (2 ^ i))))]
                refine g_ior (pc := 44) C dX9_reachFrom_44 (z := nI (rch1 σ (n + 1) (rch σ r (2 ^ i)))) ((fa_or _ _).trans (by rw [rch1_y hb])) ?_
                refine g_istore_n (pc := 45) C dX9_reachFrom_45 (by decide) (lv' := [(0, .ref (A w)), (1, .int (nI i)), (2, .int (nI (rch1 σ (n + 1) (rch σ r (2 ^ i))))), (3, .int (nI r)), (4, .int (nI n))]) [1, 2, 0, 3, 4] rfl ?_
                refine g_iinc (pc := 46) C dX9_reachFrom_46 (by decide) 4 rfl (v := nI (n + 1)) (nI_i1 _) (lv' := [(0, .ref (A w)), (1, .int (nI i)), (2, .int (nI (rch1 σ (n + 1) (rch σ r (2 ^ i))))), (3, .int (nI r)), (4, .int (nI (n + 1)))]) [1, 2, 3, 4, 0] rfl ?_
                refine g_goto (pc := 49) C dX9_reachFrom_49 (tgt := 15) (by decide) ?_
                exact ih_15 (n + 1) (by omega) (by omega)
        exact lp_15 (_ + 1) 0 (Nat.zero_le _) (Nat.lt_succ_self _)
  exact lp_6 (_ + 1) 0 (Nat.zero_le _) (Nat.lt_succ_self _)
abbrev rm_X10_reach : Room := { frames := 4, cells := 0, slots := 0, locals := 90 }
theorem Y_X10_reach : pY yX10_reach cX10_reach 3 (Option.some Jvm.ClassFile.FieldType.int) := ⟨u_757, u_758, u_1, u_759⟩
theorem N_X10_reach : yX10_reach.cls ≠ "java/lang/invoke/MethodHandle" ∧ yX10_reach.cls ≠ "java/lang/invoke/VarHandle" ∧ (parseMethodDescriptor yX10_reach.desc).map (fun d => d.parameters.length) = some 1 := by decide +kernel
set_option maxRecDepth 20000 in
set_option maxHeartbeats 4000000 in
theorem c_X10_reach (A : Nat → Nat) (P : List Nat) (g : pM) (w : Nat) {σ : Sg} (x : Int32) (ha : ∀ j, j < gK σ → ∀ q ∈ nAc (gN σ j), q < gK σ) (hO : g (w + 15010) = vOb A w) (hW : WD A g w (w + 15005) σ) : PM yX10_reach cX10_reach 3 (Option.some Jvm.ClassFile.FieldType.int) rm_X10_reach [.ref (A (w + 15010)), .int x] P A g (fun v g' => ((rfA σ x ≠ 0 ∧ v = some (.int (rfA σ x))) ∨ (∃ i, i < gK σ ∧ x = nI i ∧ lvd σ i = true ∧ v = some (.int (bcn (nI (rch σ 16 (2 ^ i))))))) ∧ g = g') := by
  have hK := hW.k16
  refine px_intro (by decide +kernel) (Nat.le_of_ble_eq_true rfl) (fun K sz C R => ?_)
  show V K 0 0 P A g [(0, .ref (A (w + 15010))), (1, .int x)] 0 []
  refine g_aload_n (pc := 0) C dX10_reach_0 0 rfl ?_
  refine g_iload_n (pc := 1) C dX10_reach_1 1 rfl ?_
  refine g_callV (pc := 2) C (As := [.int x]) (rest := []) (b := (w + 15010)) (c_X10_refusedActor A P g w x hO hW) hO rfl rfl Y_X10_refusedActor u_416 N_X10_refusedActor ⟨by decide, by decide⟩ ⟨by decide, by decide⟩ (Nat.le_of_ble_eq_true rfl) rfl dX10_reach_2 ?_
  rintro _ _ _ _ ⟨rfl, rfl, rfl, rfl⟩
  show V K 0 0 P A g [(0, .ref (A (w + 15010))), (1, .int x)] 5 [.int (rfA σ x)]
  refine g_istore_n (pc := 5) C dX10_reach_5 (by decide) (lv' := [(0, .ref (A (w + 15010))), (1, .int x), (2, .int (rfA σ x))]) [1, 2, 0] rfl ?_
  refine g_iload_n (pc := 6) C dX10_reach_6 2 rfl ?_
  refine g_if_eq (pc := 7) C dX10_reach_7 (tgt := 14) (by decide) (fun c_7 => ?_) (fun c_7 => ?_)
  ·
    obtain ⟨i, hi, rfl, hlv⟩ := rfA_0 hK c_7
    refine g_aload_n (pc := 14) C dX10_reach_14 0 rfl ?_
    refine g_get (pc := 15) C (j := 1) hO rfl rfl (by decide) u_325 dX10_reach_15 ?_
    refine g_iload_n (pc := 18) C dX10_reach_18 1 rfl ?_
    refine g_callV (pc := 19) C (As := [.int (nI i)]) (rest := []) (b := w) (c_X9_reachFrom A P g w i hi ha hW) (WD.wb hW).1 rfl rfl Y_X9_reachFrom u_760 N_X9_reachFrom ⟨by decide, by decide⟩ ⟨by decide, by decide⟩ (Nat.le_of_ble_eq_true rfl) rfl dX10_reach_19 ?_
    rintro _ _ _ _ ⟨rfl, rfl, rfl, rfl⟩
    show V K 0 0 P A g [(0, .ref (A (w + 15010))), (1, .int (nI i)), (2, .int (rfA σ (nI i)))] 22 [.int (bcn (nI (rch σ 16 (2 ^ i))))]
    exact g_iret (pc := 22) C R ⟨rfl, rfl, Or.inr ⟨i, hi, rfl, hlv, rfl⟩, rfl⟩ (by decide) (by decide) dX10_reach_22
  ·
    refine g_iload_n (pc := 10) C dX10_reach_10 2 rfl ?_
    refine g_goto (pc := 11) C dX10_reach_11 (tgt := 22) (by decide) ?_
    exact g_iret (pc := 22) C R ⟨rfl, rfl, Or.inl ⟨c_7, rfl⟩, rfl⟩ (by decide) (by decide) dX10_reach_22
