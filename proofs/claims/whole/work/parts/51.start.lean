-- PART 51: the law's start
theorem MM.fr {A : Nat → Nat} {g g' : pM} {m l h : Nat} {cs : List Nat} {σ : Sg} (x : MM A g m cs σ) (hf : Fr g g' l h) (hd : h ≤ m) : MM A g' m cs σ := by
  obtain ⟨⟨lm, gm, l3, l4, l5, h1, h2, h3, h4⟩, ⟨Z, hz, hr⟩, h6⟩ := x
  exact ⟨⟨lm, gm, l3, l4, l5, hf.at (by omega) h1, h2.fr hf (by omega), h3.fr hf (by omega), h4.fr hf (by omega)⟩, ⟨Z, hf.at (by omega) hz, hr⟩, h6.fr hf (by omega)⟩
theorem hi_fr {w : Nat} {g : pM} : Fr g (hi w g) 0 (w + 15011) := by
  intro k hk
  simp only [hi]
  rw [if_neg (by omega)]
theorem SW.start : SW 0 [] sg0 := ⟨by omega, Nat.zero_le _, Nat.zero_le _, ⟨by decide, by decide, by decide, by decide, by decide, by decide, by decide, by decide, by decide⟩, fun i hi => absurd hi (Nat.not_lt_zero _), fun t ht => absurd ht List.not_mem_nil, Or.inr ⟨rfl, rfl⟩⟩
set_option maxRecDepth 20000 in
set_option maxHeartbeats 4000000 in
theorem law_all {K : vT} {b L w : Nat} {xs : Nat → Int32} (C : vC K cL_law RL 4 room_1) (X : LX K b L xs) (hL : L ≤ 2048) (hend : ∀ (P : List Nat) (A : Nat → Nat) (g : pM) (lv : List (Nat × Value)) (c s : Nat), c ≤ 628067 → s ≤ 7218046 → V K c s P A g lv 810 [.int (nI 1)]) (A : Nat → Nat) : V K 0 0 [] A (fun _ => p0) [(0, .ref b)] 0 [] := by
  refine k_new (pc := 0) C (w + 15010) (ci := 10) (fs := [.null, .null, .null, .null, .null, .null]) (q := (RX10, TX10, 6)) (ty := tyX10) List.not_mem_nil rfl u_15 u_16 u_1 tyX10_ok df_X10 ⟨show 0 + 1 ≤ 628067 by omega, show 0 + 6 ≤ 7218046 by omega⟩ dL_law_0 (fun P1 A1 g1 hq1 ha1 hg1 hx1 hk1 => ?_)
  have hm1 : ∀ j ∈ P1, j = w + 15010 := fun j hj => (hq1 j hj).resolve_left List.not_mem_nil
  show V K 1 6 P1 A1 g1 [(0, .ref b)] 3 [.ref (A1 (w + 15010))]
  refine g_dup (pc := 3) C dL_law_3 rfl ?_
  refine g_callI (pc := 4) C (As := []) (rest := [.ref (A1 (w + 15010))]) (b := w + 15010) (c_X10_init A1 P1 g1 w hk1 (fun j hj => by have z := hm1 j hj; omega)) u_18 u_1 u_19 u_17 rfl N_X10_init ⟨Nat.le_of_ble_eq_true rfl, Nat.le_of_ble_eq_true rfl⟩ ⟨show 1 + 8566 ≤ 628067 by omega, show 6 + 37343 ≤ 7218046 by omega⟩ (Nat.le_of_ble_eq_true rfl) rfl dL_law_4 ?_
  rintro _ P2 A2 g2 ⟨rfl, hVB, hq2, ha2, hg2⟩
  have hm2 : ∀ j ∈ P2, w ≤ j ∧ j < w + 15011 := fun j hj => by
    rcases hq2 j hj with q | q
    · have z := hm1 j q
      omega
    · omega
  rw [show A1 (w + 15010) = A2 (w + 15010) from (ha2 _ (by omega) (by omega)).symm]
  show V K 8567 37349 P2 A2 g2 [(0, .ref b)] 7 [.ref (A2 (w + 15010))]
  refine g_astore_n (pc := 7) C dL_law_7 (by decide) (lv' := [(0, .ref b), (1, .ref (A2 (w + 15010)))]) [1, 0] rfl ?_
  refine v_p0 fun h02 => ?_
  refine k_new (pc := 8) C (w + 15100) (ci := 11) (fs := [.null, .int 0, .int 0, .int 0, .int 0, .int 0, .null, .int 0, .null, .int 0, .null, .null, .int 0, .null, .null, .null]) (q := (RX11, TX11, 16)) (ty := tyX11) (fun h => by have z := hm2 _ h; omega) rfl u_846 u_847 u_13 tyX11_ok df_X11 ⟨show 8567 + 1 ≤ 628067 by omega, show 37349 + 16 ≤ 7218046 by omega⟩ dL_law_8 (fun P3 A3 g3 hq3 ha3 hg3 hx3 hk3 => ?_)
  rw [show A2 (w + 15010) = A3 (w + 15010) from (ha3 _ (by omega)).symm]
  show V K 8568 37365 P3 A3 g3 [(0, .ref b), (1, .ref (A3 (w + 15010)))] 11 [.ref (A3 (w + 15100))]
  refine g_dup (pc := 11) C dL_law_11 rfl ?_
  refine g_callI (pc := 12) C (As := []) (rest := [.ref (A3 (w + 15100))]) (b := w + 15100) (c_X11_init A3 P3 g3 (w + 15100) hk3 (fun j hj => by
      rcases hq3 j hj with q | q
      · have z := hm2 j q
        omega
      · omega)) u_849 u_13 u_850 u_848 rfl N_X11_init ⟨Nat.le_of_ble_eq_true rfl, Nat.le_of_ble_eq_true rfl⟩ ⟨show 8568 + 8 ≤ 628067 by omega, show 37365 + 31635 ≤ 7218046 by omega⟩ (Nat.le_of_ble_eq_true rfl) rfl dL_law_12 ?_
  rintro _ P4 A4 g4 ⟨rfl, ⟨hMM, hKP⟩, hq4, ha4, hg4⟩
  rw [show A3 (w + 15010) = A4 (w + 15010) from (ha4 _ (by omega) (by omega)).symm, show A3 (w + 15100) = A4 (w + 15100) from (ha4 _ (by omega) (by omega)).symm]
  show V K 8576 69000 P4 A4 g4 [(0, .ref b), (1, .ref (A4 (w + 15010)))] 15 [.ref (A4 (w + 15100))]
  refine g_astore_n (pc := 15) C dL_law_15 (by decide) (lv' := [(0, .ref b), (1, .ref (A4 (w + 15010))), (2, .ref (A4 (w + 15100)))]) [1, 2, 0] rfl ?_
  refine g_iconst (pc := 16) C dL_law_16 (v := nI 0) rfl ?_
  refine g_istore_n (pc := 17) C dL_law_17 (by decide) (lv' := [(0, .ref b), (1, .ref (A4 (w + 15010))), (2, .ref (A4 (w + 15100))), (3, .int (nI 0))]) [1, 2, 3, 0] rfl ?_
  have hAA : ∀ j, j < w + 15011 → A4 j = A2 j := fun j hj => (ha4 j (by omega) (by omega)).trans (ha3 j (by omega))
  have hx : Ext A2 g2 A4 (lo w g4) := fun j hj => by
    have hm : j ∈ P2 := by
      by_cases z : j ∈ P2
      · exact z
      · exact absurd (h02 j z) hj
    have z := hm2 j hm
    refine ⟨?_, hAA j z.2⟩
    simp only [lo]
    rw [if_pos z.2, hg4 j (by omega) (by omega) (by omega), hg3 j (by omega)]
  refine law_loop C X hL ⟨by omega, by omega⟩ (fun g lv => hend P4 A4 g lv 8576 69000 (by omega) (by omega)) (L + 1) 0 0 g4 (by omega) (by omega) (by omega) ⟨[], sg0, fun _ => none, hVB.xt hx (fun k hk => hAA _ (by omega)), hMM.fr hi_fr (by omega), hKP.fr hi_fr (by omega), SW.start, fun k s h => by cases h⟩
