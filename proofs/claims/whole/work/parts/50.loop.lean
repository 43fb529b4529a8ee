-- PART 50: the law's loop
theorem lx_i {L i : Nat} (hL : L ≤ 2048) (hi : i ≤ 4096) : nI L - nI 4 < nI i ↔ L < i + 4 := by
  rw [Int32.lt_iff_toInt_lt, pk_sub_toInt (by omega) (by omega), nI_toInt (by omega)]
  omega
theorem NX.up {A : Nat → Nat} {w : Nat} {g1 g2 : pM} {B : Nat} (h : NX A w g1 g2 B) (hB : B + 2001 < 2 ^ 30) : NX A w g1 g2 (B + 2000) := by
  obtain ⟨cs, σ, ks, hX, hM, hKP, hS, hk2⟩ := h
  exact NX.of hB (by omega) (by omega) hX hM hKP hS hk2
theorem g_tswK {K : vT} {cc : ByteArray} {own : String} {nL : Nat} {rm : Room} {cells slots : Nat} {P : List Nat} {A : Nat → Nat} {g : pM} {lv : List (Nat × Value)} {pc : Nat} {st : List Value} (C : vC K cc own nL rm) {dflt ub : Int} {offs : Array Int} {len k : Nat} {off : Int} {tgt : Nat} (hd : decode cc pc = .ok (.tableswitch dflt 0 ub offs, len)) (hk : k < 2 ^ 31) (h2 : (k : Int) ≤ ub) (ho : offs[k]? = some off) (ht : (pc : Int) + off = (tgt : Int)) (kk : V K cells slots P A g lv tgt st) : V K cells slots P A g lv pc (.int (nI k) :: st) :=
  g_tswI C hd (by rw [nI_toInt hk]; omega) (by rw [nI_toInt hk]; omega) (by rw [nI_toInt hk, show ((k : Int) - 0).toNat = k by omega]; exact ho) ht kk
set_option maxRecDepth 20000 in
set_option maxHeartbeats 4000000 in
theorem law_loop {K : vT} {P : List Nat} {A : Nat → Nat} {b L w c s : Nat} {xs : Nat → Int32} (C : vC K cL_law RL 4 room_1) (X : LX K b L xs) (hL : L ≤ 2048) (hcs : c ≤ 628067 ∧ s ≤ 7218046) (hend : ∀ (g : pM) (lv : List (Nat × Value)), V K c s P A g lv 810 [.int (nI 1)]) :
    ∀ (n i B : Nat) (g : pM), L < i + n → i ≤ 2052 → B ≤ 500 * i → NX A w (lo w g) (hi w g) B → V K c s P A g [(0, .ref b), (1, .ref (A (w + 15010))), (2, .ref (A (w + 15100))), (3, .int (nI i))] 18 [] := by
  intro n
  induction n with
  | zero =>
    intro i B g hn hi0 hB hN
    refine g_iload_n (pc := 18) C dL_law_18 3 rfl ?_
    refine g_aload_n (pc := 19) C dL_law_19 0 rfl ?_
    refine g_slen (pc := 20) C X dL_law_20 ?_
    refine g_iconst (pc := 21) C dL_law_21 (v := nI 4) rfl ?_
    refine g_isub (pc := 22) C dL_law_22 (z := nI L - nI 4) rfl ?_
    refine g_icmp_gt (pc := 23) C dL_law_23 (tgt := 809) (by decide) (fun _ => ?_) (fun q => ?_)
    · refine g_iconst (pc := 809) C dL_law_809 (v := nI 1) rfl ?_
      exact hend g _
    · exact absurd ((lx_i hL (by omega)).mpr (by omega)) q
  | succ n ih =>
    intro i B g hn hi0 hB hN
    refine g_iload_n (pc := 18) C dL_law_18 3 rfl ?_
    refine g_aload_n (pc := 19) C dL_law_19 0 rfl ?_
    refine g_slen (pc := 20) C X dL_law_20 ?_
    refine g_iconst (pc := 21) C dL_law_21 (v := nI 4) rfl ?_
    refine g_isub (pc := 22) C dL_law_22 (z := nI L - nI 4) rfl ?_
    refine g_icmp_gt (pc := 23) C dL_law_23 (tgt := 809) (by decide) (fun _ => ?_) (fun q => ?_)
    · refine g_iconst (pc := 809) C dL_law_809 (v := nI 1) rfl ?_
      exact hend g _
    · have h4 : i + 4 ≤ L := by
        have z : ¬ L < i + 4 := fun z => q ((lx_i hL (by omega)).mpr z)
        omega
      have hB2 : B + 2001 < 2 ^ 30 := by omega
      refine g_aload_n (pc := 26) C dL_law_26 0 rfl ?_
      refine g_iload_n (pc := 27) C dL_law_27 3 rfl ?_
      refine g_sld (pc := 28) C X (iv := i) (nI_clamp (by omega)) (nI_in0 (by omega) (by omega)) dL_law_28 ?_
      refine g_bipush (pc := 29) C dL_law_29 (v := nI 31) rfl ?_
      obtain ⟨j, hj, ej⟩ := pk_andE (xs i) 5 (m := nI 31) (by decide +kernel)
      refine g_iand (pc := 31) C dL_law_31 (z := nI j) ej ?_
      have kk : ∀ g' : pM, NX A w (lo w g') (hi w g') (B + 2000) → V K c s P A g' [(0, .ref b), (1, .ref (A (w + 15010))), (2, .ref (A (w + 15100))), (3, .int (nI i))] 803 [] := by
        intro g' hN'
        refine g_iinc (pc := 803) C dL_law_803 (by decide) 3 rfl (v := nI (i + 4)) (nI_add i 4) (lv' := [(0, .ref b), (1, .ref (A (w + 15010))), (2, .ref (A (w + 15100))), (3, .int (nI (i + 4)))]) [1, 2, 3, 0] rfl ?_
        refine g_goto (pc := 806) C dL_law_806 (tgt := 18) (by decide) ?_
        exact ih (i + 4) (B + 2000) g' (by omega) (by omega) (by omega) hN'
      have hj2 : j = 0 ∨ j = 1 ∨ j = 2 ∨ j = 3 ∨ j = 4 ∨ j = 5 ∨ j = 6 ∨ j = 7 ∨ j = 8 ∨ j = 9 ∨ j = 10 ∨ j = 11 ∨ j = 12 ∨ j = 13 ∨ j = 14 ∨ j = 15 ∨ j = 16 ∨ j = 17 ∨ j = 18 ∨ j = 19 ∨ j = 20 ∨ j = 21 ∨ j = 22 ∨ j = 23 ∨ j = 24 ∨ 25 ≤ j := by omega
      rcases hj2 with rfl | rfl | rfl | rfl | rfl | rfl | rfl | rfl | rfl | rfl | rfl | rfl | rfl | rfl | rfl | rfl | rfl | rfl | rfl | rfl | rfl | rfl | rfl | rfl | rfl | hj2
      · exact g_tswK (pc := 32) C (k := 0) dL_law_32 (by omega) (by omega) (off := 116) (by decide +kernel) (tgt := 148) (by decide) (l_sizes C X h4 hL hB2 hN hcs kk)
      · exact g_tswK (pc := 32) C (k := 1) dL_law_32 (by omega) (by omega) (off := 149) (by decide +kernel) (tgt := 181) (by decide) (l_walks C X h4 hL hB2 hN hcs kk)
      · exact g_tswK (pc := 32) C (k := 2) dL_law_32 (by omega) (by omega) (off := 192) (by decide +kernel) (tgt := 224) (by decide) (l_coin C X h4 hL hB2 hN hcs kk)
      · exact g_tswK (pc := 32) C (k := 3) dL_law_32 (by omega) (by omega) (off := 215) (by decide +kernel) (tgt := 247) (by decide) (l_node C X h4 hL hB2 hN hcs kk)
      · exact g_tswK (pc := 32) C (k := 4) dL_law_32 (by omega) (by omega) (off := 228) (by decide +kernel) (tgt := 260) (by decide) (l_join C X h4 hL hB2 hN hcs kk)
      · exact g_tswK (pc := 32) C (k := 5) dL_law_32 (by omega) (by omega) (off := 261) (by decide +kernel) (tgt := 293) (by decide) (l_stop C X h4 hL hB2 hN hcs kk)
      · exact g_tswK (pc := 32) C (k := 6) dL_law_32 (by omega) (by omega) (off := 284) (by decide +kernel) (tgt := 316) (by decide) (l_mix C X h4 hL hB2 hN hcs kk)
      · exact g_tswK (pc := 32) C (k := 7) dL_law_32 (by omega) (by omega) (off := 307) (by decide +kernel) (tgt := 339) (by decide) (l_tale C X h4 hL hB2 hN hcs kk)
      · exact g_tswK (pc := 32) C (k := 8) dL_law_32 (by omega) (by omega) (off := 330) (by decide +kernel) (tgt := 362) (by decide) (l_tick C X h4 hL hB2 hN hcs kk)
      · exact g_tswK (pc := 32) C (k := 9) dL_law_32 (by omega) (by omega) (off := 343) (by decide +kernel) (tgt := 375) (by decide) (l_deliver C X h4 hL hB2 hN hcs kk)
      · exact g_tswK (pc := 32) C (k := 10) dL_law_32 (by omega) (by omega) (off := 366) (by decide +kernel) (tgt := 398) (by decide) (l_go C X h4 hL hB2 hN hcs kk)
      · exact g_tswK (pc := 32) C (k := 11) dL_law_32 (by omega) (by omega) (off := 389) (by decide +kernel) (tgt := 421) (by decide) (l_view C X h4 hL hB2 hN hcs kk)
      · exact g_tswK (pc := 32) C (k := 12) dL_law_32 (by omega) (by omega) (off := 432) (by decide +kernel) (tgt := 464) (by decide) (l_how C X h4 hL hB2 hN hcs kk)
      · exact g_tswK (pc := 32) C (k := 13) dL_law_32 (by omega) (by omega) (off := 465) (by decide +kernel) (tgt := 497) (by decide) (l_heard C X h4 hL hB2 hN hcs kk)
      · exact g_tswK (pc := 32) C (k := 14) dL_law_32 (by omega) (by omega) (off := 498) (by decide +kernel) (tgt := 530) (by decide) (l_missed C X h4 hL hB2 hN hcs kk)
      · exact g_tswK (pc := 32) C (k := 15) dL_law_32 (by omega) (by omega) (off := 531) (by decide +kernel) (tgt := 563) (by decide) (l_about C X h4 hL hB2 hN hcs kk)
      · exact g_tswK (pc := 32) C (k := 16) dL_law_32 (by omega) (by omega) (off := 564) (by decide +kernel) (tgt := 596) (by decide) (l_letter C X h4 hL hB2 hN hcs kk)
      · exact g_tswK (pc := 32) C (k := 17) dL_law_32 (by omega) (by omega) (off := 597) (by decide +kernel) (tgt := 629) (by decide) (l_even C X h4 hL hB2 hN hcs kk)
      · exact g_tswK (pc := 32) C (k := 18) dL_law_32 (by omega) (by omega) (off := 610) (by decide +kernel) (tgt := 642) (by decide) (l_reach C X h4 hL hB2 hN hcs kk)
      · exact g_tswK (pc := 32) C (k := 19) dL_law_32 (by omega) (by omega) (off := 633) (by decide +kernel) (tgt := 665) (by decide) (l_came C X h4 hL hB2 hN hcs kk)
      · exact g_tswK (pc := 32) C (k := 20) dL_law_32 (by omega) (by omega) (off := 656) (by decide +kernel) (tgt := 688) (by decide) (l_spread C X h4 hL hB2 hN hcs kk)
      · exact g_tswK (pc := 32) C (k := 21) dL_law_32 (by omega) (by omega) (off := 679) (by decide +kernel) (tgt := 711) (by decide) (l_told C X h4 hL hB2 hN hcs kk)
      · exact g_tswK (pc := 32) C (k := 22) dL_law_32 (by omega) (by omega) (off := 702) (by decide +kernel) (tgt := 734) (by decide) (l_keep C X h4 hL hB2 hN hcs kk)
      · exact g_tswK (pc := 32) C (k := 23) dL_law_32 (by omega) (by omega) (off := 725) (by decide +kernel) (tgt := 757) (by decide) (l_back C X h4 hL hB2 hN hcs kk)
      · exact g_tswK (pc := 32) C (k := 24) dL_law_32 (by omega) (by omega) (off := 748) (by decide +kernel) (tgt := 780) (by decide) (l_differs C X h4 hL hB2 hN hcs kk)
      · exact g_tswO (pc := 32) C dL_law_32 (x := nI j) (Or.inr (by rw [nI_toInt (by omega)]; omega)) (tgt := 803) (by decide) (kk g (hN.up hB2))
