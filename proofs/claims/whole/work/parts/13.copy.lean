-- PART 13: a world becomes like another; what is reached
/-- a world on its way to be like another: nodes below j are alike -/
def WC (A : Nat → Nat) (g : pM) (w cq : Nat) (σ2 : Sg) (j : Nat) : Prop :=
  g w = wOb A w cq σ2 ∧ SZ g (w + 1) (gZ σ2) ∧ g (w + 2) = aq 4 16 (nrow A w) ∧ (∀ i, i < 16 → ∃ d : Nd, ND A g (w + 100 + 100 * i) i d ∧ (i < j → d = gN σ2 i)) ∧ (∃ r s, RW A g w r s) ∧ (∃ t, LT A g (w + 6) t) ∧ (∃ r : Nat → Int32, g (w + 5) = ai 0 13 r)
theorem WC.st {A : Nat → Nat} {g g' : pM} {w cq : Nat} {σ σ2 : Sg} (h : WD A g w cq σ) (hz : gZ σ = gZ σ2) (hf : Fr g g' w (w + 1)) (ho : g' w = wOb A w cq σ2) : WC A g' w cq σ2 0 := by
  obtain ⟨h1, h2, h3, h4, h5, ⟨t, h6⟩, ⟨r, h7, h7b⟩, h8⟩ := h
  refine ⟨ho, hz ▸ h2.fr hf (by omega), hf.at (by omega) h3, fun i hi => ?_, ⟨_, _, h5.fr hf (by omega)⟩, ⟨t, h6.fr hf (by omega)⟩, r, hf.at (by omega) h7⟩
  obtain ⟨d, m1, m2⟩ := h4 i hi
  exact ⟨d, m1.fr hf (by omega), fun q => absurd q (Nat.not_lt_zero i)⟩
theorem WC.nx {A : Nat → Nat} {g g' : pM} {w cq j : Nat} {σ2 : Sg} (h : WC A g w cq σ2 j) (hj : j < 16) (hf : Fr g g' (w + 100 + 100 * j) (w + 100 + 100 * j + 100)) (hd : ND A g' (w + 100 + 100 * j) j (gN σ2 j)) : WC A g' w cq σ2 (j + 1) := by
  obtain ⟨h1, h2, h3, h4, ⟨r0, s0, h5⟩, ⟨t, h6⟩, r, h7⟩ := h
  refine ⟨hf.at (by omega) h1, h2.fr hf (by omega), hf.at (by omega) h3, fun i hi => ?_, ⟨r0, s0, h5.fr' (fun k hk => hf k (by omega))⟩, ⟨t, h6.fr hf (by omega)⟩, r, hf.at (by omega) h7⟩
  by_cases e : i = j
  · subst e
    exact ⟨_, hd, fun _ => rfl⟩
  · obtain ⟨d, m1, m2⟩ := h4 i hi
    exact ⟨d, m1.fr hf (by omega), fun q => m2 (by omega)⟩
/-- at the end: behind the row, the arrivals -/
theorem WC.en {A : Nat → Nat} {g g1 g2 : pM} {w cq j : Nat} {σ2 : Sg} {r : Nat → Int32} (h : WC A g w cq σ2 j) (hj : gK σ2 ≤ j) (hK : gK σ2 ≤ 16) (hT : gT σ2 ≤ 24) (hf : FrR g g1 w) (hr : RW A g1 w (gR σ2) (gS σ2)) (hf2 : Fr g1 g2 (w + 5) (w + 6)) (ha : g2 (w + 5) = ai 0 13 r) (hr2 : ∀ k, k < 13 → r k = gC σ2 k) : WD A g2 w cq σ2 := by
  obtain ⟨h1, h2, h3, h4, h5, ⟨t, h6⟩, h7⟩ := h
  have e : ∀ k, k < w + 3 ∨ (w + 6 ≤ k ∧ k < w + 2000) → g2 k = g k := fun k hk => (hf2 k (by omega)).trans (hf k (by omega))
  refine ⟨(e _ (by omega)).trans h1, (e _ (by omega)).trans h2, (e _ (by omega)).trans h3, fun i hi => ?_, hr.fr' (fun k hk => hf2 k (by omega)), ⟨t, h6.fr' (fun k k1 k2 => e k (by omega))⟩, ⟨r, ha, hr2⟩, hK, hT⟩
  obtain ⟨d, m1, m2⟩ := h4 i hi
  exact ⟨d, m1.fr' (fun k k1 k2 => e k (by omega)), fun q => m2 (by omega)⟩
theorem WC.wb {A : Nat → Nat} {g : pM} {w cq j : Nat} {σ2 : Sg} (h : WC A g w cq σ2 j) (hK : gK σ2 ≤ 16) : WB A g w cq σ2 := ⟨h.1, h.2.2.1, hK⟩
theorem row_cp {r c : Nat → Int32} {k : Nat} {v : Int32} (hr : ∀ j, j < k → r j = c j) (hv : v = c k) : ∀ j, j < k + 1 → upd r k v j = c j := by
  intro j hj
  by_cases e : j = k
  · subst e
    simp [upd, hv]
  · simp only [upd, if_neg e]
    exact hr j (by omega)
abbrev rm_X9_copyFrom : Room := { frames := 4, cells := 0, slots := 0, locals := 88 }
theorem Y_X9_copyFrom : pY yX9_copyFrom cX9_copyFrom 3 (Option.none : Option Jvm.ClassFile.FieldType) := ⟨u_803, u_804, u_3, u_805⟩
theorem N_X9_copyFrom : yX9_copyFrom.cls ≠ "java/lang/invoke/MethodHandle" ∧ yX9_copyFrom.cls ≠ "java/lang/invoke/VarHandle" ∧ (parseMethodDescriptor yX9_copyFrom.desc).map (fun d => d.parameters.length) = some 1 := by decide +kernel
set_option maxRecDepth 20000 in
set_option maxHeartbeats 4000000 in
theorem c_X9_copyFrom (A : Nat → Nat) (P : List Nat) (g : pM) (w : Nat) {cq : Nat} {σ : Sg} (w2 : Nat) {σ2 : Sg} (h : WD A g w cq σ) (h2 : WD A g w2 cq σ2) (hd : w + 5000 ≤ w2 ∨ w2 + 5000 ≤ w) : PM yX9_copyFrom cX9_copyFrom 3 (Option.none : Option Jvm.ClassFile.FieldType) rm_X9_copyFrom [.ref (A w), .ref (A w2)] P A g (fun v g' => v = none ∧ WD A g' w cq σ2 ∧ FrV g g' w) := by
  have hK2 : gK σ2 ≤ 16 := h2.k16
  have hT2 : gT σ2 ≤ 24 := h2.2.2.2.2.2.2.2.2
  refine px_intro (by decide +kernel) (Nat.le_of_ble_eq_true rfl) (fun K sz C R => ?_)
  show V K 0 0 P A g [(0, .ref (A w)), (1, .ref (A w2))] 0 []
  refine g_aload_n (pc := 0) C dX9_copyFrom_0 0 rfl ?_
  refine g_get (pc := 1) C (j := 1) (WD.wb h).1 rfl rfl (by decide) u_247 dX9_copyFrom_1 ?_
  refine g_aload_n (pc := 4) C dX9_copyFrom_4 1 rfl ?_
  refine g_get (pc := 5) C (j := 1) (WD.wb h2).1 rfl rfl (by decide) u_247 dX9_copyFrom_5 ?_
  refine g_callV (pc := 8) C (As := [.ref (A (w2 + 1))]) (rest := []) (b := (w + 1)) (c_X6_copyFrom A P g (w + 1) (w2 + 1) (by omega) h.2.1 h2.2.1) (show g (w + 1) = ob 6 _ from h.2.1) rfl rfl Y_X6_copyFrom u_806 N_X6_copyFrom ⟨by decide, by decide⟩ ⟨by decide, by decide⟩ (Nat.le_of_ble_eq_true rfl) rfl dX9_copyFrom_8 ?_
  rintro _ _ _ g1 ⟨rfl, rfl, rfl, hz1, hf1⟩
  have hW1 : WD A g1 w cq (sZ σ (gZ σ2)) := h.sz hf1 hz1
  have hO1 := h2.fr hf1 (by omega)
  show V K 0 0 P A g1 [(0, .ref (A w)), (1, .ref (A w2))] 11 []
  refine g_aload_n (pc := 11) C dX9_copyFrom_11 0 rfl ?_
  refine g_aload_n (pc := 12) C dX9_copyFrom_12 1 rfl ?_
  refine g_get (pc := 13) C (j := 7) (WD.wb hO1).1 rfl rfl (by decide) u_258 dX9_copyFrom_13 ?_
  refine g_put (pc := 16) C (j := 7) (WD.wb hW1).1 rfl (by decide) (Nat.le_of_ble_eq_true rfl) u_258 rfl pfd_I rfl rfl dX9_copyFrom_16 ?_
  obtain ⟨g_1, hg_1⟩ : ∃ yM : pM, yM = va_up g1 w (ob 9 [.ref (A cq), .ref (A (w + 1)), .ref (A (w + 2)), .ref (A (w + 1700)), .ref (A (w + 3)), .ref (A (w + 6)), .ref (A (w + 5)), .int (nI (gK σ2)), .int (nI (gT (sZ σ (gZ σ2)))), .int (gTi (sZ σ (gZ σ2))), .int (nI (gX (sZ σ (gZ σ2))))]) := ⟨_, rfl⟩
  show V K 0 0 P A (va_up g1 w (ob 9 [.ref (A cq), .ref (A (w + 1)), .ref (A (w + 2)), .ref (A (w + 1700)), .ref (A (w + 3)), .ref (A (w + 6)), .ref (A (w + 5)), .int (nI (gK σ2)), .int (nI (gT (sZ σ (gZ σ2)))), .int (gTi (sZ σ (gZ σ2))), .int (nI (gX (sZ σ (gZ σ2))))])) [(0, .ref (A w)), (1, .ref (A w2))] 19 []
  rw [← hg_1]
  have h_2 : g_1 w = ob 9 [.ref (A cq), .ref (A (w + 1)), .ref (A (w + 2)), .ref (A (w + 1700)), .ref (A (w + 3)), .ref (A (w + 6)), .ref (A (w + 5)), .int (nI (gK σ2)), .int (nI (gT (sZ σ (gZ σ2)))), .int (gTi (sZ σ (gZ σ2))), .int (nI (gX (sZ σ (gZ σ2))))] := by rw [hg_1]; exact va_up_self _ _ _
  have hf_3 : Fr g1 g_1 w (w + 1) := by rw [hg_1]; exact Fr.up (by omega) (by omega)
  have hp_4 := WD.fr hO1 hf_3 (by omega)
  refine g_aload_n (pc := 19) C dX9_copyFrom_19 0 rfl ?_
  refine g_aload_n (pc := 20) C dX9_copyFrom_20 1 rfl ?_
  refine g_get (pc := 21) C (j := 8) (WD.wb hp_4).1 rfl rfl (by decide) u_261 dX9_copyFrom_21 ?_
  refine g_put (pc := 24) C (j := 8) h_2 rfl (by decide) (Nat.le_of_ble_eq_true rfl) u_261 rfl pfd_I rfl rfl dX9_copyFrom_24 ?_
  obtain ⟨g_5, hg_5⟩ : ∃ yM : pM, yM = va_up g_1 w (ob 9 [.ref (A cq), .ref (A (w + 1)), .ref (A (w + 2)), .ref (A (w + 1700)), .ref (A (w + 3)), .ref (A (w + 6)), .ref (A (w + 5)), .int (nI (gK σ2)), .int (nI (gT σ2)), .int (gTi (sZ σ (gZ σ2))), .int (nI (gX (sZ σ (gZ σ2))))]) := ⟨_, rfl⟩
  show V K 0 0 P A (va_up g_1 w (ob 9 [.ref (A cq), .ref (A (w + 1)), .ref (A (w + 2)), .ref (A (w + 1700)), .ref (A (w + 3)), .ref (A (w + 6)), .ref (A (w + 5)), .int (nI (gK σ2)), .int (nI (gT σ2)), .int (gTi (sZ σ (gZ σ2))), .int (nI (gX (sZ σ (gZ σ2))))])) [(0, .ref (A w)), (1, .ref (A w2))] 27 []
  rw [← hg_5]
  have h_6 : g_5 w = ob 9 [.ref (A cq), .ref (A (w + 1)), .ref (A (w + 2)), .ref (A (w + 1700)), .ref (A (w + 3)), .ref (A (w + 6)), .ref (A (w + 5)), .int (nI (gK σ2)), .int (nI (gT σ2)), .int (gTi (sZ σ (gZ σ2))), .int (nI (gX (sZ σ (gZ σ2))))] := by rw [hg_5]; exact va_up_self _ _ _
  have hf_7 : Fr g_1 g_5 w (w + 1) := by rw [hg_5]; exact Fr.up (by omega) (by omega)
  have hp_8 := WD.fr hp_4 hf_7 (by omega)
  refine g_aload_n (pc := 27) C dX9_copyFrom_27 0 rfl ?_
  refine g_aload_n (pc := 28) C dX9_copyFrom_28 1 rfl ?_
  refine g_get (pc := 29) C (j := 9) (WD.wb hp_8).1 rfl rfl (by decide) u_264 dX9_copyFrom_29 ?_
  refine g_put (pc := 32) C (j := 9) h_6 rfl (by decide) (Nat.le_of_ble_eq_true rfl) u_264 rfl pfd_I rfl rfl dX9_copyFrom_32 ?_
  obtain ⟨g_9, hg_9⟩ : ∃ yM : pM, yM = va_up g_5 w (ob 9 [.ref (A cq), .ref (A (w + 1)), .ref (A (w + 2)), .ref (A (w + 1700)), .ref (A (w + 3)), .ref (A (w + 6)), .ref (A (w + 5)), .int (nI (gK σ2)), .int (nI (gT σ2)), .int (gTi σ2), .int (nI (gX (sZ σ (gZ σ2))))]) := ⟨_, rfl⟩
  show V K 0 0 P A (va_up g_5 w (ob 9 [.ref (A cq), .ref (A (w + 1)), .ref (A (w + 2)), .ref (A (w + 1700)), .ref (A (w + 3)), .ref (A (w + 6)), .ref (A (w + 5)), .int (nI (gK σ2)), .int (nI (gT σ2)), .int (gTi σ2), .int (nI (gX (sZ σ (gZ σ2))))])) [(0, .ref (A w)), (1, .ref (A w2))] 35 []
  rw [← hg_9]
  have h_10 : g_9 w = ob 9 [.ref (A cq), .ref (A (w + 1)), .ref (A (w + 2)), .ref (A (w + 1700)), .ref (A (w + 3)), .ref (A (w + 6)), .ref (A (w + 5)), .int (nI (gK σ2)), .int (nI (gT σ2)), .int (gTi σ2), .int (nI (gX (sZ σ (gZ σ2))))] := by rw [hg_9]; exact va_up_self _ _ _
  have hf_11 : Fr g_5 g_9 w (w + 1) := by rw [hg_9]; exact Fr.up (by omega) (by omega)
  have hp_12 := WD.fr hp_8 hf_11 (by omega)
  refine g_aload_n (pc := 35) C dX9_copyFrom_35 0 rfl ?_
  refine g_aload_n (pc := 36) C dX9_copyFrom_36 1 rfl ?_
  refine g_get (pc := 37) C (j := 10) (WD.wb hp_12).1 rfl rfl (by decide) u_267 dX9_copyFrom_37 ?_
  refine g_put (pc := 40) C (j := 10) h_10 rfl (by decide) (Nat.le_of_ble_eq_true rfl) u_267 rfl pfd_I rfl rfl dX9_copyFrom_40 ?_
  obtain ⟨g_13, hg_13⟩ : ∃ yM : pM, yM = va_up g_9 w (ob 9 [.ref (A cq), .ref (A (w + 1)), .ref (A (w + 2)), .ref (A (w + 1700)), .ref (A (w + 3)), .ref (A (w + 6)), .ref (A (w + 5)), .int (nI (gK σ2)), .int (nI (gT σ2)), .int (gTi σ2), .int (nI (gX σ2))]) := ⟨_, rfl⟩
  show V K 0 0 P A (va_up g_9 w (ob 9 [.ref (A cq), .ref (A (w + 1)), .ref (A (w + 2)), .ref (A (w + 1700)), .ref (A (w + 3)), .ref (A (w + 6)), .ref (A (w + 5)), .int (nI (gK σ2)), .int (nI (gT σ2)), .int (gTi σ2), .int (nI (gX σ2))])) [(0, .ref (A w)), (1, .ref (A w2))] 43 []
  rw [← hg_13]
  have h_14 : g_13 w = ob 9 [.ref (A cq), .ref (A (w + 1)), .ref (A (w + 2)), .ref (A (w + 1700)), .ref (A (w + 3)), .ref (A (w + 6)), .ref (A (w + 5)), .int (nI (gK σ2)), .int (nI (gT σ2)), .int (gTi σ2), .int (nI (gX σ2))] := by rw [hg_13]; exact va_up_self _ _ _
  have hf_15 : Fr g_9 g_13 w (w + 1) := by rw [hg_13]; exact Fr.up (by omega) (by omega)
  have hp_16 := WD.fr hp_12 hf_15 (by omega)
  have hfw : Fr g1 g_13 w (w + 1) := fun k hk => by rw [hg_13, va_up_ne _ _ (by omega), hg_9, va_up_ne _ _ (by omega), hg_5, va_up_ne _ _ (by omega), hg_1, va_up_ne _ _ (by omega)]
  have hC0 : WC A g_13 w cq σ2 0 := WC.st (σ := sZ σ (gZ σ2)) hW1 rfl hfw h_14
  refine g_iconst (pc := 43) C dX9_copyFrom_43 (v := nI 0) rfl ?_
  refine g_istore_n (pc := 44) C dX9_copyFrom_44 (by decide) (lv' := [(0, .ref (A w)), (1, .ref (A w2)), (2, .int (nI 0))]) [1, 2, 0] rfl ?_
  have lp_45 : ∀ (fuel : Nat) (i : Nat) (hi : i ≤ gK σ2) (gl : pM) (hC : WC A gl w cq σ2 i) (hO : WD A gl w2 cq σ2) (hf : FrV g gl w), gK σ2 - i < fuel → V K 0 0 P A gl [(0, .ref (A w)), (1, .ref (A w2)), (2, .int (nI i))] 45 [] := by
    intro fuel
    induction fuel with
    | zero => intro i hi gl hC hO hf hμ; exact absurd hμ (Nat.not_lt_zero _)
    | succ fuel ih =>
      intro i hi gl hC hO hf hμ
      refine g_iload_n (pc := 45) C dX9_copyFrom_45 2 rfl ?_
      refine g_aload_n (pc := 46) C dX9_copyFrom_46 0 rfl ?_
      refine g_get (pc := 47) C (j := 7) (hC.wb hK2).1 rfl rfl (by decide) u_258 dX9_copyFrom_47 ?_
      refine g_icmp_ge (pc := 50) C dX9_copyFrom_50 (tgt := 72) (by decide) (fun c_50 => ?_) (fun c_50 => ?_)
      ·
        have c_50 : (gK σ2) ≤ i := (nI_leI (by omega) (by omega)).mp c_50
        obtain ⟨r0, s0, hR0⟩ := hC.2.2.2.2.1
        refine g_aload_n (pc := 72) C dX9_copyFrom_72 0 rfl ?_
        refine g_get (pc := 73) C (j := 4) hC.1 rfl rfl (by decide) u_253 dX9_copyFrom_73 ?_
        refine g_aload_n (pc := 76) C dX9_copyFrom_76 1 rfl ?_
        refine g_get (pc := 77) C (j := 4) (WD.wb hO).1 rfl rfl (by decide) u_253 dX9_copyFrom_77 ?_
        refine g_callV (pc := 80) C (As := [.ref (A (w2 + 3))]) (rest := []) (b := (w + 3)) (c_X5_copyFrom A P gl w w2 hd hR0 hO.rw) (RW.ex hR0).choose_spec rfl rfl Y_X5_copyFrom u_821 N_X5_copyFrom ⟨by decide, by decide⟩ ⟨by decide, by decide⟩ (Nat.le_of_ble_eq_true rfl) rfl dX9_copyFrom_80 ?_
        rintro _ _ _ g6 ⟨rfl, rfl, rfl, hR6, hf6, hf6k⟩
        have hO6 := hO.fr hf6 (by omega)
        have hF6 : FrR gl g6 w := hf6k
        obtain ⟨ra, ha⟩ := hC.2.2.2.2.2.2
        have ha6 := (hF6 (w + 5) (by omega)).trans ha
        have hw6 := (hF6 w (by omega)).trans hC.1
        obtain ⟨r2, hb, hb2⟩ := hO6.2.2.2.2.2.2.1
        show V K 0 0 P A g6 [(0, .ref (A w)), (1, .ref (A w2)), (2, .int (nI i))] 83 []
        refine g_iconst (pc := 83) C dX9_copyFrom_83 (v := nI 0) rfl ?_
        refine g_istore_n (pc := 84) C dX9_copyFrom_84 (by decide) (lv' := [(0, .ref (A w)), (1, .ref (A w2)), (2, .int (nI 0))]) [1, 2, 0] rfl ?_
        have lp_85 : ∀ (fuel : Nat) (k : Nat) (hk : k ≤ 13) (ge : pM) (r : Nat → Int32) (hwl : ge w = wOb A w cq σ2) (hal : ge (w + 5) = ai 0 13 r) (hr : ∀ j, j < k → r j = gC σ2 j) (hbl : ge (w2 + 5) = ai 0 13 r2) (hOl : WD A ge w2 cq σ2) (hfe : Fr g6 ge (w + 5) (w + 6)), 13 - k < fuel → V K 0 0 P A ge [(0, .ref (A w)), (1, .ref (A w2)), (2, .int (nI k))] 85 [] := by
          intro fuel
          induction fuel with
          | zero => intro k hk ge r hwl hal hr hbl hOl hfe hμ; exact absurd hμ (Nat.not_lt_zero _)
          | succ fuel ih =>
            intro k hk ge r hwl hal hr hbl hOl hfe hμ
            refine g_iload_n (pc := 85) C dX9_copyFrom_85 2 rfl ?_
            refine g_bipush (pc := 86) C dX9_copyFrom_86 (v := nI 12) rfl ?_
            refine g_icmp_gt (pc := 88) C dX9_copyFrom_88 (tgt := 109) (by decide) (fun c_88 => ?_) (fun c_88 => ?_)
            ·
              have c_88 : 12 < k := (nI_ltI (by omega) (by omega)).mp c_88
              exact g_vret (pc := 109) C R ⟨rfl, rfl, rfl, WC.en hC (by omega) hK2 hT2 hF6 hR6 hfe hal (fun j hj => hr j (by omega)), hf.tr (fun k hk => (hfe k (by omega)).trans (hF6 k (by omega)))⟩ (by decide) (by decide) dX9_copyFrom_109
            ·
              have c_88 : ¬ 12 < k := fun h => c_88 ((nI_ltI (a := 12) (b := k) (by omega) (by omega)).mpr h)
              refine g_aload_n (pc := 91) C dX9_copyFrom_91 0 rfl ?_
              refine g_get (pc := 92) C (j := 6) hwl rfl rfl (by decide) u_256 dX9_copyFrom_92 ?_
              refine g_iload_n (pc := 95) C dX9_copyFrom_95 2 rfl ?_
              refine g_aload_n (pc := 96) C dX9_copyFrom_96 1 rfl ?_
              refine g_get (pc := 97) C (j := 6) (WD.wb hOl).1 rfl rfl (by decide) u_256 dX9_copyFrom_97 ?_
              refine g_iload_n (pc := 100) C dX9_copyFrom_100 2 rfl ?_
              refine g_iald (pc := 101) C hbl (nI_clamp (by omega)) (nI_in0 (n := 13) (by omega) (by omega)) dX9_copyFrom_101 (x := r2 k) rfl ?_
              refine g_iast (pc := 102) C hal (nI_clamp (by omega)) (nI_in0 (n := 13) (by omega) (by omega)) dX9_copyFrom_102 ?_
              obtain ⟨g_17, hg_17⟩ : ∃ yM : pM, yM = va_up ge (w + 5) (ai 0 13 (upd r k (r2 k))) := ⟨_, rfl⟩
              show V K 0 0 P A (va_up ge (w + 5) (ai 0 13 (upd r k (r2 k)))) [(0, .ref (A w)), (1, .ref (A w2)), (2, .int (nI k))] 103 []
              rw [← hg_17]
              have h_18 : g_17 w = ob 9 [.ref (A cq), .ref (A (w + 1)), .ref (A (w + 2)), .ref (A (w + 1700)), .ref (A (w + 3)), .ref (A (w + 6)), .ref (A (w + 5)), .int (nI (gK σ2)), .int (nI (gT σ2)), .int (gTi σ2), .int (nI (gX σ2))] := by rw [hg_17, va_up_ne _ _ (show w ≠ w + 5 from by omega)]; exact hwl
              have h_19 : g_17 (w + 5) = ai 0 13 (upd r k (r2 k)) := by rw [hg_17]; exact va_up_self _ _ _
              have h_20 : g_17 (w2 + 5) = ai 0 13 r2 := by rw [hg_17, va_up_ne _ _ (show w2 + 5 ≠ w + 5 from by omega)]; exact hbl
              have hf_21 : Fr ge g_17 (w + 5) (w + 5 + 1) := by rw [hg_17]; exact Fr.up (by omega) (by omega)
              have hp_22 := WD.fr hOl hf_21 (by omega)
              refine g_iinc (pc := 103) C dX9_copyFrom_103 (by decide) 2 rfl (v := nI (k + 1)) (nI_i1 _) (lv' := [(0, .ref (A w)), (1, .ref (A w2)), (2, .int (nI (k + 1)))]) [1, 2, 0] rfl ?_
              refine g_goto (pc := 106) C dX9_copyFrom_106 (tgt := 85) (by decide) ?_
              exact ih (k + 1) (by omega) _ _ h_18 h_19 (row_cp hr (hb2 k (by omega))) h_20 hp_22 (hfe.tr (fun k hk => by rw [hg_17, va_up_ne _ _ (by omega)])) (by omega)
        exact lp_85 (_ + 1) 0 (by omega) g6 ra hw6 ha6 (fun j hj => absurd hj (Nat.not_lt_zero j)) hb hO6 Fr.rf (Nat.lt_succ_self _)
      ·
        have c_50 : ¬ (gK σ2) ≤ i := fun h => c_50 ((nI_leI (a := (gK σ2)) (b := i) (by omega) (by omega)).mpr h)
        refine g_aload_n (pc := 53) C dX9_copyFrom_53 0 rfl ?_
        refine g_iload_n (pc := 54) C dX9_copyFrom_54 2 rfl ?_
        refine g_callV (pc := 55) C (As := [.int (nI i)]) (rest := []) (b := w) (c_X9_nodeAt A P gl w i (by omega) (hC.wb hK2)) (hC.wb hK2).1 rfl rfl Y_X9_nodeAt u_406 N_X9_nodeAt ⟨by decide, by decide⟩ ⟨by decide, by decide⟩ (Nat.le_of_ble_eq_true rfl) rfl dX9_copyFrom_55 ?_
        rintro _ _ _ _ ⟨rfl, rfl, rfl, rfl⟩
        show V K 0 0 P A gl [(0, .ref (A w)), (1, .ref (A w2)), (2, .int (nI i))] 58 [.ref (A (w + 100 + 100 * i))]
        refine g_aload_n (pc := 58) C dX9_copyFrom_58 1 rfl ?_
        refine g_iload_n (pc := 59) C dX9_copyFrom_59 2 rfl ?_
        refine g_callV (pc := 60) C (As := [.int (nI i)]) (rest := [.ref (A (w + 100 + 100 * i))]) (b := w2) (c_X9_nodeAt A P gl w2 i (by omega) (WD.wb hO)) (WD.wb hO).1 rfl rfl Y_X9_nodeAt u_406 N_X9_nodeAt ⟨by decide, by decide⟩ ⟨by decide, by decide⟩ (Nat.le_of_ble_eq_true rfl) rfl dX9_copyFrom_60 ?_
        rintro _ _ _ _ ⟨rfl, rfl, rfl, rfl⟩
        show V K 0 0 P A gl [(0, .ref (A w)), (1, .ref (A w2)), (2, .int (nI i))] 63 [.ref (A (w2 + 100 + 100 * i)), .ref (A (w + 100 + 100 * i))]
        obtain ⟨d0, hd0, -⟩ := hC.2.2.2.1 i (by omega)
        refine g_callV (pc := 63) C (As := [.ref (A (w2 + 100 + 100 * i))]) (rest := []) (b := (w + 100 + 100 * i)) (c_X3_copyFrom A P gl (w + 100 + 100 * i) (w2 + 100 + 100 * i) (by omega) hd0 (hO.nd (by omega))) hd0.1 rfl rfl Y_X3_copyFrom u_810 N_X3_copyFrom ⟨by decide, by decide⟩ ⟨by decide, by decide⟩ (Nat.le_of_ble_eq_true rfl) rfl dX9_copyFrom_63 ?_
        rintro _ _ _ g5 ⟨rfl, rfl, rfl, hn5, hf5⟩
        have hC5 := hC.nx (by omega) hf5 hn5
        have hO5 := hO.fr hf5 (by omega)
        show V K 0 0 P A g5 [(0, .ref (A w)), (1, .ref (A w2)), (2, .int (nI i))] 66 []
        refine g_iinc (pc := 66) C dX9_copyFrom_66 (by decide) 2 rfl (v := nI (i + 1)) (nI_i1 _) (lv' := [(0, .ref (A w)), (1, .ref (A w2)), (2, .int (nI (i + 1)))]) [1, 2, 0] rfl ?_
        refine g_goto (pc := 69) C dX9_copyFrom_69 (tgt := 45) (by decide) ?_
        exact ih (i + 1) (by omega) g5 hC5 hO5 (hf.tr (fun k hk => hf5 k (by omega))) (by omega)
  exact lp_45 (_ + 1) 0 (Nat.zero_le _) _ hC0 hp_16 (fun k hk => (hfw k (by omega)).trans (hf1 k (by omega))) (Nat.lt_succ_self _)
