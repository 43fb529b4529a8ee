-- PART 14: a letter comes
abbrev vOb (A : Nat → Nat) (w : Nat) : pE := ob 10 [.ref (A (w + 15005)), .ref (A w), .ref (A (w + 15000)), .ref (A (w + 15007)), .ref (A (w + 15008)), .ref (A (w + 15009))]
def cme2 (cs : List Nat) (σ : Sg) (r s k x y : Nat) (l : List Nat) : Sg := match k with
  | 1 => jnS cs σ r s
  | 2 => wlk cs σ r s x y
  | 3 => wlc cs σ r s
  | 4 => prt cs σ r s
  | 5 => askS cs σ r s x
  | 6 => rfs cs σ r s
  | 7 => mixS cs σ r s x y l
  | 8 => tkL cs σ r l
  | 9 => tel σ r s x y
  | 10 => nto σ r s x
  | 11 => cho σ r s x y
  | 12 => stp cs σ r s
  | _ => σ
/-- letter i, which is t, leaves the row and does what its kind does -/
def cme (cs : List Nat) (σ : Sg) (i : Nat) (t : Lt) : Sg := cme2 cs (tak σ i t) t.2.1 t.1 t.2.2.1 t.2.2.2.1 t.2.2.2.2.1 t.2.2.2.2.2
/-- what a letter that comes changes -/
def FrT (g g' : pM) (w : Nat) : Prop := ∀ k, k < w ∨ (w + 5000 ≤ k ∧ k < w + 15001) ∨ w + 15005 ≤ k → g' k = g k
theorem tak_SW {B i : Nat} {cs : List Nat} {σ : Sg} {t : Lt} (h : SW B cs σ) : SW B cs (tak σ i t) := by
  refine ⟨h.1, h.2.1, h.2.2.1, h.2.2.2.1, fun j hj => ?_, fun u hu => h.2.2.2.2.2.1 u (List.mem_of_mem_eraseIdx hu), h.2.2.2.2.2.2⟩
  show NW B (gK σ) (gT σ) (gZ σ) j (va_up (gN σ) t.2.1 (sGo (gN σ t.2.1) (nGo (gN σ t.2.1) + 1)) j)
  by_cases e : j = t.2.1
  · subst e
    rw [va_up_self]
    exact h.nw hj
  · rw [va_up_ne _ _ e]
    exact h.nw hj
abbrev rm_X10_come : Room := { frames := 6, cells := 0, slots := 0, locals := 146 }
theorem Y_X10_come : pY yX10_come cX10_come 4 (Option.some Jvm.ClassFile.FieldType.int) := ⟨u_571, us_1, u_1, u_572⟩
theorem N_X10_come : yX10_come.cls ≠ "java/lang/invoke/MethodHandle" ∧ yX10_come.cls ≠ "java/lang/invoke/VarHandle" ∧ (parseMethodDescriptor yX10_come.desc).map (fun d => d.parameters.length) = some 1 := by decide +kernel
set_option maxRecDepth 20000 in
set_option maxHeartbeats 4000000 in
theorem c_X10_come (A : Nat → Nat) (P : List Nat) (g : pM) (w : Nat) {B : Nat} {cs : List Nat} {σ : Sg} {pl ll : List Nat} (i s0 r0 k0 x0 y0 : Nat) (l0 : List Nat) (hi : (gR σ)[i]? = some (s0, r0, k0, x0, y0, l0)) (hB2 : B + 1 < 2 ^ 30) (hS : SW B cs σ) (hO : g (w + 15010) = vOb A w) (hT : g (w + 15007) = ob 7 [.ref (A w)]) (h : VW A g w cs σ pl ll) : PM yX10_come cX10_come 4 (Option.some Jvm.ClassFile.FieldType.int) rm_X10_come [.ref (A (w + 15010)), .int (nI i)] P A g (fun v g' => v = some (.int (nI k0)) ∧ (∃ pl' ll', VW A g' w cs (cme cs σ i (s0, r0, k0, x0, y0, l0)) pl' ll') ∧ FrT g g' w) := by
  obtain ⟨hV, hW, hC, hP, hL⟩ := h
  have hK := hS.2.1
  obtain ⟨hz1, hz2, hz3, hz4, hz5, hz6, hz7, hz8, hz9⟩ := hS.2.2.2.1
  obtain ⟨hs0, hr0, hk1, hk12, hx24, hy6, hx7, hx9, hy9, hl0, hl5⟩ := hS.2.2.2.2.2.1 _ (List.mem_of_getElem? hi)
  dsimp only at hs0 hr0 hk1 hk12 hx24 hy6 hx7 hx9 hy9 hl0 hl5
  refine px_intro (by decide +kernel) (Nat.le_of_ble_eq_true rfl) (fun K sz C R => ?_)
  show V K 0 0 P A g [(0, .ref (A (w + 15010))), (1, .int (nI i))] 0 []
  refine g_aload_n (pc := 0) C dX10_come_0 0 rfl ?_
  refine g_get (pc := 1) C (j := 1) hO rfl rfl (by decide) u_325 dX10_come_1 ?_
  refine g_iload_n (pc := 4) C dX10_come_4 1 rfl ?_
  refine g_callV (pc := 5) C (As := [.int (nI i)]) (rest := []) (b := w) (c_X9_takeLetter A P g w i (s0, r0, k0, x0, y0, l0) hi hk1 hr0 hW) (WD.wb hW).1 rfl rfl Y_X9_takeLetter u_573 N_X9_takeLetter ⟨by decide, by decide⟩ ⟨by decide, by decide⟩ (Nat.le_of_ble_eq_true rfl) rfl dX10_come_5 ?_
  rintro _ _ _ g1 ⟨rfl, rfl, rfl, hc1, hW1, hf1⟩
  obtain ⟨σ1, hσ1⟩ : ∃ sM : Sg, sM = tak σ i (s0, r0, k0, x0, y0, l0) := ⟨_, rfl⟩
  rw [← hσ1] at hW1
  have hK1 : gK σ1 = gK σ := by rw [hσ1]; rfl
  have hT1 : gT σ1 = gT σ := by rw [hσ1]; rfl
  have hS1 : SW B cs σ1 := by rw [hσ1]; exact tak_SW hS
  have h_1 := hf1.at (by omega) hO
  have h_2 := hf1.at (by omega) hT
  have h_3 := hf1.at (by omega) hV
  have hp_4 := CO.fr hC hf1 (by omega)
  have hp_5 := NLN.fr hP hf1 (by omega)
  have hp_6 := NLN.fr hL hf1 (by omega)
  show V K 0 0 P A g1 [(0, .ref (A (w + 15010))), (1, .int (nI i))] 8 [.ref (A (w + 6))]
  refine g_astore_n (pc := 8) C dX10_come_8 (by decide) (lv' := [(0, .ref (A (w + 15010))), (1, .int (nI i)), (2, .ref (A (w + 6)))]) [1, 2, 0] rfl ?_
  refine g_aload_n (pc := 9) C dX10_come_9 0 rfl ?_
  refine g_get (pc := 10) C (j := 1) h_1 rfl rfl (by decide) u_325 dX10_come_10 ?_
  refine g_aload_n (pc := 13) C dX10_come_13 2 rfl ?_
  refine g_get (pc := 14) C (j := 1) hc1.1 rfl rfl (by decide) u_201 dX10_come_14 ?_
  refine g_callV (pc := 17) C (As := [.int (nI r0)]) (rest := []) (b := w) (c_X9_nodeAt A P g1 w r0 (by omega) (WD.wb hW1)) (WD.wb hW1).1 rfl rfl Y_X9_nodeAt u_389 N_X9_nodeAt ⟨by decide, by decide⟩ ⟨by decide, by decide⟩ (Nat.le_of_ble_eq_true rfl) rfl dX10_come_17 ?_
  rintro _ _ _ _ ⟨rfl, rfl, rfl, rfl⟩
  show V K 0 0 P A g1 [(0, .ref (A (w + 15010))), (1, .int (nI i)), (2, .ref (A (w + 6)))] 20 [.ref (A (w + 100 + 100 * r0))]
  refine g_astore_n (pc := 20) C dX10_come_20 (by decide) (lv' := [(0, .ref (A (w + 15010))), (1, .int (nI i)), (2, .ref (A (w + 6))), (3, .ref (A (w + 100 + 100 * r0)))]) [1, 2, 3, 0] rfl ?_
  refine g_aload_n (pc := 21) C dX10_come_21 2 rfl ?_
  refine g_get (pc := 22) C (j := 2) hc1.1 rfl rfl (by decide) u_204 dX10_come_22 ?_
  have hkk : k0 = 1 ∨ k0 = 2 ∨ k0 = 3 ∨ k0 = 4 ∨ k0 = 5 ∨ k0 = 6 ∨ k0 = 7 ∨ k0 = 8 ∨ k0 = 9 ∨ k0 = 10 ∨ k0 = 11 ∨ k0 = 12 := by omega
  rcases hkk with rfl | rfl | rfl | rfl | rfl | rfl | rfl | rfl | rfl | rfl | rfl | rfl
  ·
    refine g_tswI (pc := 25) C dX10_come_25 (x := nI 1) (by decide) (by decide) (off := 63) rfl (tgt := 88) (by decide) ?_
    refine g_aload_n (pc := 88) C dX10_come_88 0 rfl ?_
    refine g_get (pc := 89) C (j := 2) h_1 rfl rfl (by decide) u_326 dX10_come_89 ?_
    refine g_aload_n (pc := 92) C dX10_come_92 3 rfl ?_
    refine g_aload_n (pc := 93) C dX10_come_93 2 rfl ?_
    refine g_get (pc := 94) C (j := 0) hc1.1 rfl rfl (by decide) u_197 dX10_come_94 ?_
    refine g_callV (pc := 97) C (As := [.ref (A (w + 100 + 100 * r0)), .int (nI s0)]) (rest := []) (b := (w + 15000)) (c_X8_onJoin A P g1 w r0 s0 (by omega) (by omega) hS1 ⟨h_3, hW1, hp_4, hp_5, hp_6⟩) h_3 rfl rfl Y_X8_onJoin u_589 N_X8_onJoin ⟨by decide, by decide⟩ ⟨by decide, by decide⟩ (Nat.le_of_ble_eq_true rfl) rfl dX10_come_97 ?_
    rintro _ _ _ g_7 ⟨rfl, rfl, rfl, ⟨plg_7, llg_7, hw_8⟩, hf_9⟩
    obtain ⟨v_10, v_11, v_12, v_13, v_14⟩ := hw_8
    have hp_15 := hc1.fr' (fun k k1 k2 => hf_9 k (by omega))
    have h_16 := (hf_9 (w + 15010) (by omega)).trans h_1
    have h_17 := (hf_9 (w + 15007) (by omega)).trans h_2
    show V K 0 0 P A g_7 [(0, .ref (A (w + 15010))), (1, .int (nI i)), (2, .ref (A (w + 6))), (3, .ref (A (w + 100 + 100 * r0)))] 100 []
    refine g_goto (pc := 100) C dX10_come_100 (tgt := 297) (by decide) ?_
    refine g_aload_n (pc := 297) C dX10_come_297 2 rfl ?_
    refine g_get (pc := 298) C (j := 2) hp_15.1 rfl rfl (by decide) u_204 dX10_come_298 ?_
    exact g_iret (pc := 301) C R ⟨rfl, rfl, rfl, by rw [show cme cs σ i (s0, r0, 1, x0, y0, l0) = jnS cs σ1 r0 s0 from by rw [hσ1]; rfl]; exact ⟨_, _, ⟨v_10, v_11, v_12, v_13, v_14⟩⟩, fun k hk => by rw [hf_9 k (by omega), hf1 k (by omega)]⟩ (by decide) (by decide) dX10_come_301
  ·
    refine g_tswI (pc := 25) C dX10_come_25 (x := nI 2) (by decide) (by decide) (off := 78) rfl (tgt := 103) (by decide) ?_
    refine g_aload_n (pc := 103) C dX10_come_103 0 rfl ?_
    refine g_get (pc := 104) C (j := 2) h_1 rfl rfl (by decide) u_326 dX10_come_104 ?_
    refine g_aload_n (pc := 107) C dX10_come_107 3 rfl ?_
    refine g_aload_n (pc := 108) C dX10_come_108 2 rfl ?_
    refine g_get (pc := 109) C (j := 0) hc1.1 rfl rfl (by decide) u_197 dX10_come_109 ?_
    refine g_aload_n (pc := 112) C dX10_come_112 2 rfl ?_
    refine g_get (pc := 113) C (j := 3) hc1.1 rfl rfl (by decide) u_207 dX10_come_113 ?_
    refine g_aload_n (pc := 116) C dX10_come_116 2 rfl ?_
    refine g_get (pc := 117) C (j := 4) hc1.1 rfl rfl (by decide) u_210 dX10_come_117 ?_
    refine g_callV (pc := 120) C (As := [.ref (A (w + 100 + 100 * r0)), .int (nI s0), .int (nI x0), .int (nI y0)]) (rest := []) (b := (w + 15000)) (c_X8_onWalk A P g1 w r0 s0 x0 y0 (by omega) (by omega) (by have := hx7 (Or.inl rfl); omega) (by omega) (by omega) hS1 ⟨h_3, hW1, hp_4, hp_5, hp_6⟩) h_3 rfl rfl Y_X8_onWalk u_627 N_X8_onWalk ⟨by decide, by decide⟩ ⟨by decide, by decide⟩ (Nat.le_of_ble_eq_true rfl) rfl dX10_come_120 ?_
    rintro _ _ _ g_18 ⟨rfl, rfl, rfl, ⟨plg_18, llg_18, hw_19⟩, hf_20⟩
    obtain ⟨v_21, v_22, v_23, v_24, v_25⟩ := hw_19
    have hp_26 := hc1.fr' (fun k k1 k2 => hf_20 k (by omega))
    have h_27 := (hf_20 (w + 15010) (by omega)).trans h_1
    have h_28 := (hf_20 (w + 15007) (by omega)).trans h_2
    show V K 0 0 P A g_18 [(0, .ref (A (w + 15010))), (1, .int (nI i)), (2, .ref (A (w + 6))), (3, .ref (A (w + 100 + 100 * r0)))] 123 []
    refine g_goto (pc := 123) C dX10_come_123 (tgt := 297) (by decide) ?_
    refine g_aload_n (pc := 297) C dX10_come_297 2 rfl ?_
    refine g_get (pc := 298) C (j := 2) hp_26.1 rfl rfl (by decide) u_204 dX10_come_298 ?_
    exact g_iret (pc := 301) C R ⟨rfl, rfl, rfl, by rw [show cme cs σ i (s0, r0, 2, x0, y0, l0) = wlk cs σ1 r0 s0 x0 y0 from by rw [hσ1]; rfl]; exact ⟨_, _, ⟨v_21, v_22, v_23, v_24, v_25⟩⟩, fun k hk => by rw [hf_20 k (by omega), hf1 k (by omega)]⟩ (by decide) (by decide) dX10_come_301
  ·
    refine g_tswI (pc := 25) C dX10_come_25 (x := nI 3) (by decide) (by decide) (off := 101) rfl (tgt := 126) (by decide) ?_
    refine g_aload_n (pc := 126) C dX10_come_126 0 rfl ?_
    refine g_get (pc := 127) C (j := 2) h_1 rfl rfl (by decide) u_326 dX10_come_127 ?_
    refine g_aload_n (pc := 130) C dX10_come_130 3 rfl ?_
    refine g_aload_n (pc := 131) C dX10_come_131 2 rfl ?_
    refine g_get (pc := 132) C (j := 0) hc1.1 rfl rfl (by decide) u_197 dX10_come_132 ?_
    refine g_callV (pc := 135) C (As := [.ref (A (w + 100 + 100 * r0)), .int (nI s0)]) (rest := []) (b := (w + 15000)) (c_X8_onWelcome A P g1 w r0 s0 (by omega) (by omega) hS1 ⟨h_3, hW1, hp_4, hp_5, hp_6⟩) h_3 rfl rfl Y_X8_onWelcome u_631 N_X8_onWelcome ⟨by decide, by decide⟩ ⟨by decide, by decide⟩ (Nat.le_of_ble_eq_true rfl) rfl dX10_come_135 ?_
    rintro _ _ _ g_29 ⟨rfl, rfl, rfl, ⟨plg_29, llg_29, hw_30⟩, hf_31⟩
    obtain ⟨v_32, v_33, v_34, v_35, v_36⟩ := hw_30
    have hp_37 := hc1.fr' (fun k k1 k2 => hf_31 k (by omega))
    have h_38 := (hf_31 (w + 15010) (by omega)).trans h_1
    have h_39 := (hf_31 (w + 15007) (by omega)).trans h_2
    show V K 0 0 P A g_29 [(0, .ref (A (w + 15010))), (1, .int (nI i)), (2, .ref (A (w + 6))), (3, .ref (A (w + 100 + 100 * r0)))] 138 []
    refine g_goto (pc := 138) C dX10_come_138 (tgt := 297) (by decide) ?_
    refine g_aload_n (pc := 297) C dX10_come_297 2 rfl ?_
    refine g_get (pc := 298) C (j := 2) hp_37.1 rfl rfl (by decide) u_204 dX10_come_298 ?_
    exact g_iret (pc := 301) C R ⟨rfl, rfl, rfl, by rw [show cme cs σ i (s0, r0, 3, x0, y0, l0) = wlc cs σ1 r0 s0 from by rw [hσ1]; rfl]; exact ⟨_, _, ⟨v_32, v_33, v_34, v_35, v_36⟩⟩, fun k hk => by rw [hf_31 k (by omega), hf1 k (by omega)]⟩ (by decide) (by decide) dX10_come_301
  ·
    refine g_tswI (pc := 25) C dX10_come_25 (x := nI 4) (by decide) (by decide) (off := 116) rfl (tgt := 141) (by decide) ?_
    refine g_aload_n (pc := 141) C dX10_come_141 0 rfl ?_
    refine g_get (pc := 142) C (j := 2) h_1 rfl rfl (by decide) u_326 dX10_come_142 ?_
    refine g_aload_n (pc := 145) C dX10_come_145 3 rfl ?_
    refine g_aload_n (pc := 146) C dX10_come_146 2 rfl ?_
    refine g_get (pc := 147) C (j := 0) hc1.1 rfl rfl (by decide) u_197 dX10_come_147 ?_
    refine g_callV (pc := 150) C (As := [.ref (A (w + 100 + 100 * r0)), .int (nI s0)]) (rest := []) (b := (w + 15000)) (c_X8_onParting A P g1 w r0 s0 (by omega) (by omega) hS1 ⟨h_3, hW1, hp_4, hp_5, hp_6⟩) h_3 rfl rfl Y_X8_onParting u_635 N_X8_onParting ⟨by decide, by decide⟩ ⟨by decide, by decide⟩ (Nat.le_of_ble_eq_true rfl) rfl dX10_come_150 ?_
    rintro _ _ _ g_40 ⟨rfl, rfl, rfl, ⟨plg_40, llg_40, hw_41⟩, hf_42⟩
    obtain ⟨v_43, v_44, v_45, v_46, v_47⟩ := hw_41
    have hp_48 := hc1.fr' (fun k k1 k2 => hf_42 k (by omega))
    have h_49 := (hf_42 (w + 15010) (by omega)).trans h_1
    have h_50 := (hf_42 (w + 15007) (by omega)).trans h_2
    show V K 0 0 P A g_40 [(0, .ref (A (w + 15010))), (1, .int (nI i)), (2, .ref (A (w + 6))), (3, .ref (A (w + 100 + 100 * r0)))] 153 []
    refine g_goto (pc := 153) C dX10_come_153 (tgt := 297) (by decide) ?_
    refine g_aload_n (pc := 297) C dX10_come_297 2 rfl ?_
    refine g_get (pc := 298) C (j := 2) hp_48.1 rfl rfl (by decide) u_204 dX10_come_298 ?_
    exact g_iret (pc := 301) C R ⟨rfl, rfl, rfl, by rw [show cme cs σ i (s0, r0, 4, x0, y0, l0) = prt cs σ1 r0 s0 from by rw [hσ1]; rfl]; exact ⟨_, _, ⟨v_43, v_44, v_45, v_46, v_47⟩⟩, fun k hk => by rw [hf_42 k (by omega), hf1 k (by omega)]⟩ (by decide) (by decide) dX10_come_301
  ·
    refine g_tswI (pc := 25) C dX10_come_25 (x := nI 5) (by decide) (by decide) (off := 131) rfl (tgt := 156) (by decide) ?_
    refine g_aload_n (pc := 156) C dX10_come_156 0 rfl ?_
    refine g_get (pc := 157) C (j := 2) h_1 rfl rfl (by decide) u_326 dX10_come_157 ?_
    refine g_aload_n (pc := 160) C dX10_come_160 3 rfl ?_
    refine g_aload_n (pc := 161) C dX10_come_161 2 rfl ?_
    refine g_get (pc := 162) C (j := 0) hc1.1 rfl rfl (by decide) u_197 dX10_come_162 ?_
    refine g_aload_n (pc := 165) C dX10_come_165 2 rfl ?_
    refine g_get (pc := 166) C (j := 3) hc1.1 rfl rfl (by decide) u_207 dX10_come_166 ?_
    refine g_callV (pc := 169) C (As := [.ref (A (w + 100 + 100 * r0)), .int (nI s0), .int (nI x0)]) (rest := []) (b := (w + 15000)) (c_X8_onAsking A P g1 w r0 s0 x0 (by omega) (by omega) (by omega) hS1 ⟨h_3, hW1, hp_4, hp_5, hp_6⟩) h_3 rfl rfl Y_X8_onAsking u_643 N_X8_onAsking ⟨by decide, by decide⟩ ⟨by decide, by decide⟩ (Nat.le_of_ble_eq_true rfl) rfl dX10_come_169 ?_
    rintro _ _ _ g_51 ⟨rfl, rfl, rfl, ⟨plg_51, llg_51, hw_52⟩, hf_53⟩
    obtain ⟨v_54, v_55, v_56, v_57, v_58⟩ := hw_52
    have hp_59 := hc1.fr' (fun k k1 k2 => hf_53 k (by omega))
    have h_60 := (hf_53 (w + 15010) (by omega)).trans h_1
    have h_61 := (hf_53 (w + 15007) (by omega)).trans h_2
    show V K 0 0 P A g_51 [(0, .ref (A (w + 15010))), (1, .int (nI i)), (2, .ref (A (w + 6))), (3, .ref (A (w + 100 + 100 * r0)))] 172 []
    refine g_goto (pc := 172) C dX10_come_172 (tgt := 297) (by decide) ?_
    refine g_aload_n (pc := 297) C dX10_come_297 2 rfl ?_
    refine g_get (pc := 298) C (j := 2) hp_59.1 rfl rfl (by decide) u_204 dX10_come_298 ?_
    exact g_iret (pc := 301) C R ⟨rfl, rfl, rfl, by rw [show cme cs σ i (s0, r0, 5, x0, y0, l0) = askS cs σ1 r0 s0 x0 from by rw [hσ1]; rfl]; exact ⟨_, _, ⟨v_54, v_55, v_56, v_57, v_58⟩⟩, fun k hk => by rw [hf_53 k (by omega), hf1 k (by omega)]⟩ (by decide) (by decide) dX10_come_301
  ·
    refine g_tswI (pc := 25) C dX10_come_25 (x := nI 6) (by decide) (by decide) (off := 150) rfl (tgt := 175) (by decide) ?_
    refine g_aload_n (pc := 175) C dX10_come_175 0 rfl ?_
    refine g_get (pc := 176) C (j := 2) h_1 rfl rfl (by decide) u_326 dX10_come_176 ?_
    refine g_aload_n (pc := 179) C dX10_come_179 3 rfl ?_
    refine g_aload_n (pc := 180) C dX10_come_180 2 rfl ?_
    refine g_get (pc := 181) C (j := 0) hc1.1 rfl rfl (by decide) u_197 dX10_come_181 ?_
    refine g_callV (pc := 184) C (As := [.ref (A (w + 100 + 100 * r0)), .int (nI s0)]) (rest := []) (b := (w + 15000)) (c_X8_onRefusal A P g1 w r0 s0 (by omega) (by omega) hS1 ⟨h_3, hW1, hp_4, hp_5, hp_6⟩) h_3 rfl rfl Y_X8_onRefusal u_647 N_X8_onRefusal ⟨by decide, by decide⟩ ⟨by decide, by decide⟩ (Nat.le_of_ble_eq_true rfl) rfl dX10_come_184 ?_
    rintro _ _ _ g_62 ⟨rfl, rfl, rfl, ⟨plg_62, llg_62, hw_63⟩, hf_64⟩
    obtain ⟨v_65, v_66, v_67, v_68, v_69⟩ := hw_63
    have hp_70 := hc1.fr' (fun k k1 k2 => hf_64 k (by omega))
    have h_71 := (hf_64 (w + 15010) (by omega)).trans h_1
    have h_72 := (hf_64 (w + 15007) (by omega)).trans h_2
    show V K 0 0 P A g_62 [(0, .ref (A (w + 15010))), (1, .int (nI i)), (2, .ref (A (w + 6))), (3, .ref (A (w + 100 + 100 * r0)))] 187 []
    refine g_goto (pc := 187) C dX10_come_187 (tgt := 297) (by decide) ?_
    refine g_aload_n (pc := 297) C dX10_come_297 2 rfl ?_
    refine g_get (pc := 298) C (j := 2) hp_70.1 rfl rfl (by decide) u_204 dX10_come_298 ?_
    exact g_iret (pc := 301) C R ⟨rfl, rfl, rfl, by rw [show cme cs σ i (s0, r0, 6, x0, y0, l0) = rfs cs σ1 r0 s0 from by rw [hσ1]; rfl]; exact ⟨_, _, ⟨v_65, v_66, v_67, v_68, v_69⟩⟩, fun k hk => by rw [hf_64 k (by omega), hf1 k (by omega)]⟩ (by decide) (by decide) dX10_come_301
  ·
    refine g_tswI (pc := 25) C dX10_come_25 (x := nI 7) (by decide) (by decide) (off := 165) rfl (tgt := 190) (by decide) ?_
    refine g_aload_n (pc := 190) C dX10_come_190 0 rfl ?_
    refine g_get (pc := 191) C (j := 2) h_1 rfl rfl (by decide) u_326 dX10_come_191 ?_
    refine g_aload_n (pc := 194) C dX10_come_194 3 rfl ?_
    refine g_aload_n (pc := 195) C dX10_come_195 2 rfl ?_
    refine g_callV (pc := 196) C (As := [.ref (A (w + 100 + 100 * r0)), .ref (A (w + 6))]) (rest := []) (b := (w + 15000)) (c_X8_onMix A P g1 w r0 s0 x0 y0 r0 7 l0 (by omega) (by omega) (by have := hx7 (Or.inr rfl); omega) (by omega) (by omega) (fun q hq => by have := hl0 q hq; omega) hl5 hS1 hc1 ⟨h_3, hW1, hp_4, hp_5, hp_6⟩) h_3 rfl rfl Y_X8_onMix u_651 N_X8_onMix ⟨by decide, by decide⟩ ⟨by decide, by decide⟩ (Nat.le_of_ble_eq_true rfl) rfl dX10_come_196 ?_
    rintro _ _ _ g_73 ⟨rfl, rfl, rfl, ⟨plg_73, llg_73, hw_74⟩, hf_75⟩
    obtain ⟨v_76, v_77, v_78, v_79, v_80⟩ := hw_74
    have hp_81 := hc1.fr' (fun k k1 k2 => hf_75 k (by omega))
    have h_82 := (hf_75 (w + 15010) (by omega)).trans h_1
    have h_83 := (hf_75 (w + 15007) (by omega)).trans h_2
    show V K 0 0 P A g_73 [(0, .ref (A (w + 15010))), (1, .int (nI i)), (2, .ref (A (w + 6))), (3, .ref (A (w + 100 + 100 * r0)))] 199 []
    refine g_goto (pc := 199) C dX10_come_199 (tgt := 297) (by decide) ?_
    refine g_aload_n (pc := 297) C dX10_come_297 2 rfl ?_
    refine g_get (pc := 298) C (j := 2) hp_81.1 rfl rfl (by decide) u_204 dX10_come_298 ?_
    exact g_iret (pc := 301) C R ⟨rfl, rfl, rfl, by rw [show cme cs σ i (s0, r0, 7, x0, y0, l0) = mixS cs σ1 r0 s0 x0 y0 l0 from by rw [hσ1]; rfl]; exact ⟨_, _, ⟨v_76, v_77, v_78, v_79, v_80⟩⟩, fun k hk => by rw [hf_75 k (by omega), hf1 k (by omega)]⟩ (by decide) (by decide) dX10_come_301
  ·
    refine g_tswI (pc := 25) C dX10_come_25 (x := nI 8) (by decide) (by decide) (off := 177) rfl (tgt := 202) (by decide) ?_
    refine g_aload_n (pc := 202) C dX10_come_202 0 rfl ?_
    refine g_get (pc := 203) C (j := 2) h_1 rfl rfl (by decide) u_326 dX10_come_203 ?_
    refine g_aload_n (pc := 206) C dX10_come_206 3 rfl ?_
    refine g_aload_n (pc := 207) C dX10_come_207 2 rfl ?_
    refine g_get (pc := 208) C (j := 5) hc1.1 rfl rfl (by decide) u_214 dX10_come_208 ?_
    refine g_callV (pc := 211) C (As := [.ref (A (w + 100 + 100 * r0)), .ref (A (w + 6 + 1))]) (rest := []) (b := (w + 15000)) (c_X8_takeList A P g1 w r0 (w + 6 + 1) (by omega) (by omega) (fun q hq => by have := hl0 q hq; omega) hS1 hc1.2 ⟨h_3, hW1, hp_4, hp_5, hp_6⟩) h_3 rfl rfl Y_X8_takeList u_663 N_X8_takeList ⟨by decide, by decide⟩ ⟨by decide, by decide⟩ (Nat.le_of_ble_eq_true rfl) rfl dX10_come_211 ?_
    rintro _ _ _ g_84 ⟨rfl, rfl, rfl, hw_85, hf_86⟩
    obtain ⟨v_87, v_88, v_89, v_90, v_91⟩ := hw_85
    have hp_92 := hc1.fr' (fun k k1 k2 => hf_86 k (by omega))
    have h_93 := (hf_86 (w + 15010) (by omega)).trans h_1
    have h_94 := (hf_86 (w + 15007) (by omega)).trans h_2
    show V K 0 0 P A g_84 [(0, .ref (A (w + 15010))), (1, .int (nI i)), (2, .ref (A (w + 6))), (3, .ref (A (w + 100 + 100 * r0)))] 214 []
    refine g_goto (pc := 214) C dX10_come_214 (tgt := 297) (by decide) ?_
    refine g_aload_n (pc := 297) C dX10_come_297 2 rfl ?_
    refine g_get (pc := 298) C (j := 2) hp_92.1 rfl rfl (by decide) u_204 dX10_come_298 ?_
    exact g_iret (pc := 301) C R ⟨rfl, rfl, rfl, by rw [show cme cs σ i (s0, r0, 8, x0, y0, l0) = tkL cs σ1 r0 l0 from by rw [hσ1]; rfl]; exact ⟨_, _, ⟨v_87, v_88, v_89, v_90, v_91⟩⟩, fun k hk => by rw [hf_86 k (by omega), hf1 k (by omega)]⟩ (by decide) (by decide) dX10_come_301
  ·
    refine g_tswI (pc := 25) C dX10_come_25 (x := nI 9) (by decide) (by decide) (off := 192) rfl (tgt := 217) (by decide) ?_
    refine g_aload_n (pc := 217) C dX10_come_217 0 rfl ?_
    refine g_get (pc := 218) C (j := 3) h_1 rfl rfl (by decide) u_327 dX10_come_218 ?_
    refine g_aload_n (pc := 221) C dX10_come_221 3 rfl ?_
    refine g_aload_n (pc := 222) C dX10_come_222 2 rfl ?_
    refine g_get (pc := 223) C (j := 0) hc1.1 rfl rfl (by decide) u_197 dX10_come_223 ?_
    refine g_aload_n (pc := 226) C dX10_come_226 2 rfl ?_
    refine g_get (pc := 227) C (j := 3) hc1.1 rfl rfl (by decide) u_207 dX10_come_227 ?_
    refine g_aload_n (pc := 230) C dX10_come_230 2 rfl ?_
    refine g_get (pc := 231) C (j := 4) hc1.1 rfl rfl (by decide) u_210 dX10_come_231 ?_
    refine g_callV (pc := 234) C (As := [.ref (A (w + 100 + 100 * r0)), .int (nI s0), .int (nI x0), .int (nI y0)]) (rest := []) (b := (w + 15007)) (c_X7_onTell A P g1 w r0 s0 x0 y0 (by omega) (by omega) (by have := hx9 (Or.inl rfl); omega) (hy9 rfl) hB2 hS1 h_2 hW1) h_2 rfl rfl Y_X7_onTell u_664 N_X7_onTell ⟨by decide, by decide⟩ ⟨by decide, by decide⟩ (Nat.le_of_ble_eq_true rfl) rfl dX10_come_234 ?_
    rintro _ _ _ g_95 ⟨rfl, rfl, rfl, hw_96, hf_97⟩
    have hp_98 := hp_4.fr (FrV.w hf_97) (by omega)
    have hp_99 := hp_5.fr' (fun k k1 k2 => hf_97 k (by omega))
    have hp_100 := hp_6.fr' (fun k k1 k2 => hf_97 k (by omega))
    have hp_101 := hc1.fr' (fun k k1 k2 => hf_97 k (by omega))
    have h_102 := (hf_97 (w + 15010) (by omega)).trans h_1
    have h_103 := (hf_97 (w + 15007) (by omega)).trans h_2
    have h_104 := (hf_97 (w + 15000) (by omega)).trans h_3
    show V K 0 0 P A g_95 [(0, .ref (A (w + 15010))), (1, .int (nI i)), (2, .ref (A (w + 6))), (3, .ref (A (w + 100 + 100 * r0)))] 237 []
    refine g_goto (pc := 237) C dX10_come_237 (tgt := 297) (by decide) ?_
    refine g_aload_n (pc := 297) C dX10_come_297 2 rfl ?_
    refine g_get (pc := 298) C (j := 2) hp_101.1 rfl rfl (by decide) u_204 dX10_come_298 ?_
    exact g_iret (pc := 301) C R ⟨rfl, rfl, rfl, by rw [show cme cs σ i (s0, r0, 9, x0, y0, l0) = tel σ1 r0 s0 x0 y0 from by rw [hσ1]; rfl]; exact ⟨_, _, ⟨h_104, hw_96, hp_98, hp_99, hp_100⟩⟩, fun k hk => by rw [hf_97 k (by omega), hf1 k (by omega)]⟩ (by decide) (by decide) dX10_come_301
  ·
    refine g_tswI (pc := 25) C dX10_come_25 (x := nI 10) (by decide) (by decide) (off := 215) rfl (tgt := 240) (by decide) ?_
    refine g_aload_n (pc := 240) C dX10_come_240 0 rfl ?_
    refine g_get (pc := 241) C (j := 3) h_1 rfl rfl (by decide) u_327 dX10_come_241 ?_
    refine g_aload_n (pc := 244) C dX10_come_244 3 rfl ?_
    refine g_aload_n (pc := 245) C dX10_come_245 2 rfl ?_
    refine g_get (pc := 246) C (j := 0) hc1.1 rfl rfl (by decide) u_197 dX10_come_246 ?_
    refine g_aload_n (pc := 249) C dX10_come_249 2 rfl ?_
    refine g_get (pc := 250) C (j := 3) hc1.1 rfl rfl (by decide) u_207 dX10_come_250 ?_
    refine g_callV (pc := 253) C (As := [.ref (A (w + 100 + 100 * r0)), .int (nI s0), .int (nI x0)]) (rest := []) (b := (w + 15007)) (c_X7_onNote A P g1 w r0 s0 x0 (by omega) (by omega) (by have := hx9 (Or.inr (Or.inl rfl)); omega) hS1 h_2 hW1) h_2 rfl rfl Y_X7_onNote u_682 N_X7_onNote ⟨by decide, by decide⟩ ⟨by decide, by decide⟩ (Nat.le_of_ble_eq_true rfl) rfl dX10_come_253 ?_
    rintro _ _ _ g_105 ⟨rfl, rfl, rfl, hw_106, hf_107⟩
    have hp_108 := hp_4.fr (FrV.w hf_107) (by omega)
    have hp_109 := hp_5.fr' (fun k k1 k2 => hf_107 k (by omega))
    have hp_110 := hp_6.fr' (fun k k1 k2 => hf_107 k (by omega))
    have hp_111 := hc1.fr' (fun k k1 k2 => hf_107 k (by omega))
    have h_112 := (hf_107 (w + 15010) (by omega)).trans h_1
    have h_113 := (hf_107 (w + 15007) (by omega)).trans h_2
    have h_114 := (hf_107 (w + 15000) (by omega)).trans h_3
    show V K 0 0 P A g_105 [(0, .ref (A (w + 15010))), (1, .int (nI i)), (2, .ref (A (w + 6))), (3, .ref (A (w + 100 + 100 * r0)))] 256 []
    refine g_goto (pc := 256) C dX10_come_256 (tgt := 297) (by decide) ?_
    refine g_aload_n (pc := 297) C dX10_come_297 2 rfl ?_
    refine g_get (pc := 298) C (j := 2) hp_111.1 rfl rfl (by decide) u_204 dX10_come_298 ?_
    exact g_iret (pc := 301) C R ⟨rfl, rfl, rfl, by rw [show cme cs σ i (s0, r0, 10, x0, y0, l0) = nto σ1 r0 s0 x0 from by rw [hσ1]; rfl]; exact ⟨_, _, ⟨h_114, hw_106, hp_108, hp_109, hp_110⟩⟩, fun k hk => by rw [hf_107 k (by omega), hf1 k (by omega)]⟩ (by decide) (by decide) dX10_come_301
  ·
    refine g_tswI (pc := 25) C dX10_come_25 (x := nI 11) (by decide) (by decide) (off := 234) rfl (tgt := 259) (by decide) ?_
    refine g_aload_n (pc := 259) C dX10_come_259 0 rfl ?_
    refine g_get (pc := 260) C (j := 3) h_1 rfl rfl (by decide) u_327 dX10_come_260 ?_
    refine g_aload_n (pc := 263) C dX10_come_263 3 rfl ?_
    refine g_aload_n (pc := 264) C dX10_come_264 2 rfl ?_
    refine g_get (pc := 265) C (j := 0) hc1.1 rfl rfl (by decide) u_197 dX10_come_265 ?_
    refine g_aload_n (pc := 268) C dX10_come_268 2 rfl ?_
    refine g_get (pc := 269) C (j := 3) hc1.1 rfl rfl (by decide) u_207 dX10_come_269 ?_
    refine g_aload_n (pc := 272) C dX10_come_272 2 rfl ?_
    refine g_get (pc := 273) C (j := 4) hc1.1 rfl rfl (by decide) u_210 dX10_come_273 ?_
    refine g_callV (pc := 276) C (As := [.ref (A (w + 100 + 100 * r0)), .int (nI s0), .int (nI x0), .int (nI y0)]) (rest := []) (b := (w + 15007)) (c_X7_onChoice A P g1 w r0 s0 x0 y0 (by omega) (by omega) (fun e => by have := hx9 (Or.inr (Or.inr ⟨rfl, e⟩)); omega) (by omega) hS1 h_2 hW1) h_2 rfl rfl Y_X7_onChoice u_687 N_X7_onChoice ⟨by decide, by decide⟩ ⟨by decide, by decide⟩ (Nat.le_of_ble_eq_true rfl) rfl dX10_come_276 ?_
    rintro _ _ _ g_115 ⟨rfl, rfl, rfl, hw_116, hf_117⟩
    have hp_118 := hp_4.fr (FrV.w hf_117) (by omega)
    have hp_119 := hp_5.fr' (fun k k1 k2 => hf_117 k (by omega))
    have hp_120 := hp_6.fr' (fun k k1 k2 => hf_117 k (by omega))
    have hp_121 := hc1.fr' (fun k k1 k2 => hf_117 k (by omega))
    have h_122 := (hf_117 (w + 15010) (by omega)).trans h_1
    have h_123 := (hf_117 (w + 15007) (by omega)).trans h_2
    have h_124 := (hf_117 (w + 15000) (by omega)).trans h_3
    show V K 0 0 P A g_115 [(0, .ref (A (w + 15010))), (1, .int (nI i)), (2, .ref (A (w + 6))), (3, .ref (A (w + 100 + 100 * r0)))] 279 []
    refine g_goto (pc := 279) C dX10_come_279 (tgt := 297) (by decide) ?_
    refine g_aload_n (pc := 297) C dX10_come_297 2 rfl ?_
    refine g_get (pc := 298) C (j := 2) hp_121.1 rfl rfl (by decide) u_204 dX10_come_298 ?_
    exact g_iret (pc := 301) C R ⟨rfl, rfl, rfl, by rw [show cme cs σ i (s0, r0, 11, x0, y0, l0) = cho σ1 r0 s0 x0 y0 from by rw [hσ1]; rfl]; exact ⟨_, _, ⟨h_124, hw_116, hp_118, hp_119, hp_120⟩⟩, fun k hk => by rw [hf_117 k (by omega), hf1 k (by omega)]⟩ (by decide) (by decide) dX10_come_301
  ·
    refine g_tswI (pc := 25) C dX10_come_25 (x := nI 12) (by decide) (by decide) (off := 257) rfl (tgt := 282) (by decide) ?_
    refine g_aload_n (pc := 282) C dX10_come_282 0 rfl ?_
    refine g_get (pc := 283) C (j := 2) h_1 rfl rfl (by decide) u_326 dX10_come_283 ?_
    refine g_aload_n (pc := 286) C dX10_come_286 3 rfl ?_
    refine g_aload_n (pc := 287) C dX10_come_287 2 rfl ?_
    refine g_get (pc := 288) C (j := 0) hc1.1 rfl rfl (by decide) u_197 dX10_come_288 ?_
    refine g_callV (pc := 291) C (As := [.ref (A (w + 100 + 100 * r0)), .int (nI s0)]) (rest := []) (b := (w + 15000)) (c_X8_onStopped A P g1 w r0 s0 (by omega) (by omega) hS1 ⟨h_3, hW1, hp_4, hp_5, hp_6⟩) h_3 rfl rfl Y_X8_onStopped u_692 N_X8_onStopped ⟨by decide, by decide⟩ ⟨by decide, by decide⟩ (Nat.le_of_ble_eq_true rfl) rfl dX10_come_291 ?_
    rintro _ _ _ g_125 ⟨rfl, rfl, rfl, ⟨plg_125, llg_125, hw_126⟩, hf_127⟩
    obtain ⟨v_128, v_129, v_130, v_131, v_132⟩ := hw_126
    have hp_133 := hc1.fr' (fun k k1 k2 => hf_127 k (by omega))
    have h_134 := (hf_127 (w + 15010) (by omega)).trans h_1
    have h_135 := (hf_127 (w + 15007) (by omega)).trans h_2
    show V K 0 0 P A g_125 [(0, .ref (A (w + 15010))), (1, .int (nI i)), (2, .ref (A (w + 6))), (3, .ref (A (w + 100 + 100 * r0)))] 294 []
    refine g_goto (pc := 294) C dX10_come_294 (tgt := 297) (by decide) ?_
    refine g_aload_n (pc := 297) C dX10_come_297 2 rfl ?_
    refine g_get (pc := 298) C (j := 2) hp_133.1 rfl rfl (by decide) u_204 dX10_come_298 ?_
    exact g_iret (pc := 301) C R ⟨rfl, rfl, rfl, by rw [show cme cs σ i (s0, r0, 12, x0, y0, l0) = stp cs σ1 r0 s0 from by rw [hσ1]; rfl]; exact ⟨_, _, ⟨v_128, v_129, v_130, v_131, v_132⟩⟩, fun k hk => by rw [hf_127 k (by omega), hf1 k (by omega)]⟩ (by decide) (by decide) dX10_come_301
