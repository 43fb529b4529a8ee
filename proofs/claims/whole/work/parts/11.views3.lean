-- PART 11: walks and mixings
theorem wlk_i {cs : List Nat} {σ : Sg} {i s x y : Nat} (h : x = i) : wlk cs σ i s x y = σ := by simp only [wlk, if_pos h]
theorem wlk_a {cs : List Nat} {σ : Sg} {i s x y : Nat} (h : ¬ x = i) (h2 : ¬ (0 < y ∧ 1 < (nAc (gN σ i)).length)) : wlk cs σ i s x y = wend cs σ i x := by simp only [wlk, if_neg h, if_neg h2]
theorem wlk_b {cs : List Nat} {σ : Sg} {i s x y : Nat} (h : ¬ x = i) (h2 : 0 < y) (h3 : 1 < (nAc (gN σ i)).length) : wlk cs σ i s x y = wlk2 cs (if y = (gZ σ).2.2.2.1 then nte cs σ i x else σ) i s x y := by simp only [wlk, if_neg h, if_pos (And.intro h2 h3)]
theorem wlk2_n {cs : List Nat} {σ : Sg} {i s x y : Nat} (h : dpV cs σ (wof (some s) (some x) (nAc (gN σ i))) = none) : wlk2 cs σ i s x y = wend cs (dS cs σ (wof (some s) (some x) (nAc (gN σ i))).length) i x := by simp only [wlk2, h]
theorem wlk2_s {cs : List Nat} {σ : Sg} {i s x y q : Nat} (h : dpV cs σ (wof (some s) (some x) (nAc (gN σ i))) = some q) : wlk2 cs σ i s x y = snd (dS cs σ (wof (some s) (some x) (nAc (gN σ i))).length) i q 2 x (y - 1) [] := by simp only [wlk2, h]
theorem wend_y {cs : List Nat} {σ : Sg} {i x : Nat} (h : x ∈ nAc (gN σ i)) : wend cs σ i x = σ := by simp only [wend, if_pos h]
theorem wend_n {cs : List Nat} {σ : Sg} {i x : Nat} (h : ¬ x ∈ nAc (gN σ i)) : wend cs σ i x = snd (add cs σ i x) i x 3 0 0 [] := by simp only [wend, if_neg h]
theorem mixS_s {cs : List Nat} {σ : Sg} {i s x y q : Nat} {l : List Nat} (hy : 1 < y) (h : dpV cs σ (wof (some s) (some x) (nAc (gN σ i))) = some q) : mixS cs σ i s x y l = snd (dS cs σ (wof (some s) (some x) (nAc (gN σ i))).length) i q 7 x (y - 1) l := by simp only [mixS, if_pos hy, h]
theorem mixS_n {cs : List Nat} {σ σ1 : Sg} {i s x y : Nat} {l : List Nat} (hy : 1 < y) (h : dpV cs σ (wof (some s) (some x) (nAc (gN σ i))) = none) (e : σ1 = dS cs σ (wof (some s) (some x) (nAc (gN σ i))).length) : mixS cs σ i s x y l = tkL cs (if x = i then σ1 else ansS cs σ1 i x l.length) i l := by
  have e2 : σ1 = σ := by rw [e, dpV_none h, dS_0]
  subst e2
  simp only [mixS, if_pos hy, h]
theorem mixS_1 {cs : List Nat} {σ : Sg} {i s x y : Nat} {l : List Nat} (hy : ¬ 1 < y) : mixS cs σ i s x y l = tkL cs (if x = i then σ else ansS cs σ i x l.length) i l := by simp only [mixS, if_neg hy]
/-- node i begins to mix: whom it sent to, and the state -/
def bgm (cs : List Nat) (σ : Sg) (i : Nat) : Option Nat × Sg :=
  match dpV cs σ (wof none none (nAc (gN σ i))) with
  | none => (none, dS cs σ (wof none none (nAc (gN σ i))).length)
  | some q => (some q, snd (lfp cs 2 (lfp cs 2 (dS cs σ (wof none none (nAc (gN σ i))).length) (dpL cs σ (wof none none (nAc (gN σ i)))) ([] ++ [i])).1 (wof none none (nPa (gN (lfp cs 2 (dS cs σ (wof none none (nAc (gN σ i))).length) (dpL cs σ (wof none none (nAc (gN σ i)))) ([] ++ [i])).1 i))) (lfp cs 2 (dS cs σ (wof none none (nAc (gN σ i))).length) (dpL cs σ (wof none none (nAc (gN σ i)))) ([] ++ [i])).2.2).1 i q 7 i (gZ σ).2.2.1 (lfp cs 2 (lfp cs 2 (dS cs σ (wof none none (nAc (gN σ i))).length) (dpL cs σ (wof none none (nAc (gN σ i)))) ([] ++ [i])).1 (wof none none (nPa (gN (lfp cs 2 (dS cs σ (wof none none (nAc (gN σ i))).length) (dpL cs σ (wof none none (nAc (gN σ i)))) ([] ++ [i])).1 i))) (lfp cs 2 (dS cs σ (wof none none (nAc (gN σ i))).length) (dpL cs σ (wof none none (nAc (gN σ i)))) ([] ++ [i])).2.2).2.2)
theorem bgm_n {cs : List Nat} {σ : Sg} {i : Nat} (h : dpV cs σ (wof none none (nAc (gN σ i))) = none) : bgm cs σ i = (none, dS cs σ (wof none none (nAc (gN σ i))).length) := by simp only [bgm, h]
theorem bgm_s {cs : List Nat} {σ σ1 σ2 σ3 σ4 : Sg} {i q : Nat} {p1 p2 l2 p3 l3 : List Nat} (h : dpV cs σ (wof none none (nAc (gN σ i))) = some q) (e1 : σ1 = dS cs σ (wof none none (nAc (gN σ i))).length) (hp1 : p1 = dpL cs σ (wof none none (nAc (gN σ i)))) (h2 : lfp cs 2 σ1 p1 ([] ++ [i]) = (σ2, p2, l2)) (h3 : lfp cs 2 σ2 (wof none none (nPa (gN σ2 i))) l2 = (σ3, p3, l3)) (e4 : σ4 = snd σ3 i q 7 i (gZ σ).2.2.1 l3) : bgm cs σ i = (some q, σ4) := by
  subst e4 hp1 e1
  simp only [bgm, h, h2, h3]
theorem ansS_K {cs : List Nat} {σ : Sg} {i t n : Nat} : gK (ansS cs σ i t n) = gK σ := snd_K.trans lfp_K
theorem ansS_T {cs : List Nat} {σ : Sg} {i t n : Nat} : gT (ansS cs σ i t n) = gT σ := snd_T.trans lfp_T
theorem ansS_Z {cs : List Nat} {σ : Sg} {i t n : Nat} : gZ (ansS cs σ i t n) = gZ σ := snd_Z.trans lfp_Z
theorem SW.ansS {B i t n : Nat} {cs : List Nat} {σ : Sg} (h : SW B cs σ) (hi : i < gK σ) (ht : t < gK σ) (hn : n ≤ 5) : SW B cs (ansS cs σ i t n) := by
  refine SW.sent (lfp_S h) (by rw [lfp_K]; exact hi) (by rw [lfp_K]; exact ht) (lw_mk (by rw [lfp_K]; exact hi) (by rw [lfp_K]; exact ht) (by omega) (by omega) (by omega) (by omega) (by omega) (by omega) (by omega) (fun q hq => ?_) ?_)
  · rw [lfp_K]
    exact lfp_mem (Q := fun q => q < gK σ) (fun z hz => (h.nw hi).2.2.1 z (wof_mem hz)) (fun z hz => by cases hz) q hq
  · have := lfp_len (cs := cs) (n := n) (σ := σ) (p := wof none none (nPa (gN σ i))) (l := [])
    simp only [List.length_nil] at this
    omega
theorem tkL_K {cs : List Nat} {i : Nat} {l : List Nat} : ∀ {σ : Sg}, gK (tkL cs σ i l) = gK σ := by
  induction l with
  | nil => intro σ; rfl
  | cons x l ih => intro σ; exact ih.trans nte_K
theorem tkL_T {cs : List Nat} {i : Nat} {l : List Nat} : ∀ {σ : Sg}, gT (tkL cs σ i l) = gT σ := by
  induction l with
  | nil => intro σ; rfl
  | cons x l ih => intro σ; exact ih.trans nte_T
theorem tkL_Z {cs : List Nat} {i : Nat} {l : List Nat} : ∀ {σ : Sg}, gZ (tkL cs σ i l) = gZ σ := by
  induction l with
  | nil => intro σ; rfl
  | cons x l ih => intro σ; exact ih.trans nte_Z
abbrev rm_X8_onWalk : Room := { frames := 5, cells := 0, slots := 0, locals := 115 }
theorem Y_X8_onWalk : pY yX8_onWalk cX8_onWalk 6 (Option.none : Option Jvm.ClassFile.FieldType) := ⟨u_628, u_629, u_11, u_630⟩
theorem N_X8_onWalk : yX8_onWalk.cls ≠ "java/lang/invoke/MethodHandle" ∧ yX8_onWalk.cls ≠ "java/lang/invoke/VarHandle" ∧ (parseMethodDescriptor yX8_onWalk.desc).map (fun d => d.parameters.length) = some 4 := by decide +kernel
set_option maxRecDepth 20000 in
set_option maxHeartbeats 4000000 in
theorem c_X8_onWalk (A : Nat → Nat) (P : List Nat) (g : pM) (w : Nat) {B : Nat} {cs : List Nat} {σ : Sg} {pl ll : List Nat} (i s x y : Nat) (hi : i < gK σ) (hs : s < gK σ) (hx : x < gK σ) (hx24 : x ≤ 24) (hy : y ≤ B + 6) (hS : SW B cs σ) (h : VW A g w cs σ pl ll) : PM yX8_onWalk cX8_onWalk 6 (Option.none : Option Jvm.ClassFile.FieldType) rm_X8_onWalk [.ref (A (w + 15000)), .ref (A (w + 100 + 100 * i)), .int (nI s), .int (nI x), .int (nI y)] P A g (fun v g' => v = none ∧ (∃ pl' ll', VW A g' w cs (wlk cs σ i s x y) pl' ll') ∧ FrS g g' w) := by
  obtain ⟨hV, hW, hC, hP, hL⟩ := h
  have hK := hS.2.1
  obtain ⟨hz1, hz2, hz3, hz4, hz5, hz6, hz7, hz8, hz9⟩ := hS.2.2.2.1
  have hB := hS.1
  have hle := (hW.nd hi).2.1.le
  refine px_intro (by decide +kernel) (Nat.le_of_ble_eq_true rfl) (fun K sz C R => ?_)
  show V K 0 0 P A g [(0, .ref (A (w + 15000))), (1, .ref (A (w + 100 + 100 * i))), (2, .int (nI s)), (3, .int (nI x)), (4, .int (nI y))] 0 []
  refine g_iload_n (pc := 0) C dX8_onWalk_0 3 rfl ?_
  refine g_aload_n (pc := 1) C dX8_onWalk_1 1 rfl ?_
  refine g_get (pc := 2) C (j := 0) (WD.nd (i := i) hW (by omega)).1 rfl rfl (by decide) u_131 dX8_onWalk_2 ?_
  refine g_icmp_ne (pc := 5) C dX8_onWalk_5 (tgt := 9) (by decide) (fun c_5 => ?_) (fun c_5 => ?_)
  ·
    have c_5 : ¬ x = i := fun h => c_5 ((nI_eq (a := x) (b := i) (by omega) (by omega)).mpr h)
    refine g_bipush (pc := 9) C dX8_onWalk_9 (v := (-6)) rfl ?_
    refine g_istore (pc := 11) C dX8_onWalk_11 (by decide) (lv' := [(0, .ref (A (w + 15000))), (1, .ref (A (w + 100 + 100 * i))), (2, .int (nI s)), (3, .int (nI x)), (4, .int (nI y)), (5, .int (-6))]) [1, 2, 3, 4, 5, 0] rfl ?_
    refine g_iload (pc := 13) C dX8_onWalk_13 4 rfl ?_
    refine g_if_le (pc := 15) C dX8_onWalk_15 (tgt := 63) (by decide) (fun c_15 => ?_) (fun c_15 => ?_)
    ·
      have c_15 : y ≤ 0 := (nI_leI (by omega) (by omega)).mp c_15
      refine g_iload (pc := 63) C dX8_onWalk_63 5 rfl ?_
      refine g_bipush (pc := 65) C dX8_onWalk_65 (v := (-6)) rfl ?_
      refine g_icmp_eq (pc := 67) C dX8_onWalk_67 (tgt := 86) (by decide) (fun c_67 => ?_) (fun c_67 => ?_)
      ·
        refine g_aload_n (pc := 86) C dX8_onWalk_86 1 rfl ?_
        refine g_get (pc := 87) C (j := 2) (WD.nd (i := i) hW (by omega)).1 rfl rfl (by decide) u_139 dX8_onWalk_87 ?_
        refine g_iload_n (pc := 90) C dX8_onWalk_90 3 rfl ?_
        refine g_callV (pc := 91) C (As := [.int (nI x)]) (rest := []) (b := (w + 100 + 100 * i + 1)) (n_X4_has A P g (w + 100 + 100 * i + 1) x (by omega) (WD.nd (i := i) hW (by omega)).2.1) (NLN.o (WD.nd (i := i) hW (by omega)).2.1) rfl rfl Y_X4_has u_597 N_X4_has ⟨by decide, by decide⟩ ⟨by decide, by decide⟩ (Nat.le_of_ble_eq_true rfl) rfl dX8_onWalk_91 ?_
        rintro _ _ _ _ ⟨rfl, rfl, rfl, rfl⟩
        show V K 0 0 P A g [(0, .ref (A (w + 15000))), (1, .ref (A (w + 100 + 100 * i))), (2, .int (nI s)), (3, .int (nI x)), (4, .int (nI y)), (5, .int (-6))] 94 [.int (b32 (decide (x ∈ nAc (gN σ i))))]
        refine g_if_ne (pc := 94) C dX8_onWalk_94 (tgt := 112) (by decide) (fun c_94 => ?_) (fun c_94 => ?_)
        ·
          have c_94 := of_decide_eq_true (b32_no c_94)
          exact g_vret (pc := 112) C R ⟨rfl, rfl, rfl, by rw [wlk_a c_5 (by omega), wend_y c_94]; exact ⟨_, _, ⟨hV, hW, hC, hP, hL⟩⟩, fun k hk => rfl⟩ (by decide) (by decide) dX8_onWalk_112
        ·
          have c_94 := of_decide_eq_false (b32_yes c_94)
          refine g_aload_n (pc := 97) C dX8_onWalk_97 0 rfl ?_
          refine g_aload_n (pc := 98) C dX8_onWalk_98 1 rfl ?_
          refine g_iload_n (pc := 99) C dX8_onWalk_99 3 rfl ?_
          refine g_callV (pc := 100) C (As := [.ref (A (w + 100 + 100 * i)), .int (nI x)]) (rest := []) (b := (w + 15000)) (c_X8_add A P g w i x (by omega) (by omega) (by omega) hS ⟨hV, hW, hC, hP, hL⟩) hV rfl rfl Y_X8_add u_593 N_X8_add ⟨by decide, by decide⟩ ⟨by decide, by decide⟩ (Nat.le_of_ble_eq_true rfl) rfl dX8_onWalk_100 ?_
          rintro _ _ _ g_1 ⟨rfl, rfl, rfl, hw_2, hf_3⟩
          obtain ⟨v_4, v_5, v_6, v_7, v_8⟩ := hw_2
          obtain ⟨σ9, hσ9⟩ : ∃ sM : Sg, sM = add cs σ i x := ⟨_, rfl⟩
          have hW_10 : WD A g_1 w (w + 15005) σ9 := by rw [hσ9]; exact v_5
          skip
          have hK_σ9 : gK σ9 = gK σ := (congrArg gK hσ9).trans (add_K.trans (rfl : gK σ = gK σ))
          have hT_σ9 : gT σ9 = gT σ := (congrArg gT hσ9).trans (add_T.trans (rfl : gT σ = gT σ))
          have hZ_σ9 : gZ σ9 = gZ σ := (congrArg gZ hσ9).trans (add_Z.trans (rfl : gZ σ = gZ σ))
          show V K 0 0 P A g_1 [(0, .ref (A (w + 15000))), (1, .ref (A (w + 100 + 100 * i))), (2, .int (nI s)), (3, .int (nI x)), (4, .int (nI y)), (5, .int (-6))] 103 []
          have hS_11 : SW B cs (σ9) := by rw [hσ9]; exact SW.add hS (by omega) (by omega)
          refine g_aload_n (pc := 103) C dX8_onWalk_103 0 rfl ?_
          refine g_aload_n (pc := 104) C dX8_onWalk_104 1 rfl ?_
          refine g_iload_n (pc := 105) C dX8_onWalk_105 3 rfl ?_
          refine g_iconst (pc := 106) C dX8_onWalk_106 (v := nI 3) rfl ?_
          refine g_iconst (pc := 107) C dX8_onWalk_107 (v := nI 0) rfl ?_
          refine g_iconst (pc := 108) C dX8_onWalk_108 (v := nI 0) rfl ?_
          refine g_callV (pc := 109) C (As := [.ref (A (w + 100 + 100 * i)), .int (nI x), .int (nI 3), .int (nI 0), .int (nI 0)]) (rest := []) (b := (w + 15000)) (c_X8_send A P g_1 w i x 3 0 0 (by omega) (by omega) (by omega) (by omega) (by omega) ⟨v_4, hW_10, v_6, v_7, v_8⟩) v_4 rfl rfl Y_X8_send u_623 N_X8_send ⟨by decide, by decide⟩ ⟨by decide, by decide⟩ (Nat.le_of_ble_eq_true rfl) rfl dX8_onWalk_109 ?_
          rintro _ _ _ g_12 ⟨rfl, rfl, rfl, hw_13, hf_14⟩
          obtain ⟨v_15, v_16, v_17, v_18, v_19⟩ := hw_13
          obtain ⟨σ20, hσ20⟩ : ∃ sM : Sg, sM = snd σ9 i x 3 0 0 [] := ⟨_, rfl⟩
          have hW_21 : WD A g_12 w (w + 15005) σ20 := by rw [hσ20]; exact v_16
          skip
          have hK_σ20 : gK σ20 = gK σ := (congrArg gK hσ20).trans (snd_K.trans hK_σ9)
          have hT_σ20 : gT σ20 = gT σ := (congrArg gT hσ20).trans (snd_T.trans hT_σ9)
          have hZ_σ20 : gZ σ20 = gZ σ := (congrArg gZ hσ20).trans (snd_Z.trans hZ_σ9)
          show V K 0 0 P A g_12 [(0, .ref (A (w + 15000))), (1, .ref (A (w + 100 + 100 * i))), (2, .int (nI s)), (3, .int (nI x)), (4, .int (nI y)), (5, .int (-6))] 112 []
          exact g_vret (pc := 112) C R ⟨rfl, rfl, rfl, by rw [wlk_a c_5 (by omega), wend_n c_94, ← hσ9, ← hσ20]; exact ⟨_, _, ⟨v_15, hW_21, v_17, v_18, v_19⟩⟩, fun k hk => by rw [hf_14 k (by omega), hf_3 k (by omega)]⟩ (by decide) (by decide) dX8_onWalk_112
      ·
        exact absurd rfl c_67
    ·
      have c_15 : ¬ y ≤ 0 := fun h => c_15 ((nI_leI (a := y) (b := 0) (by omega) (by omega)).mpr h)
      refine g_aload_n (pc := 18) C dX8_onWalk_18 1 rfl ?_
      refine g_get (pc := 19) C (j := 2) (WD.nd (i := i) hW (by omega)).1 rfl rfl (by decide) u_139 dX8_onWalk_19 ?_
      refine g_get (pc := 22) C (j := 1) (NLN.o (WD.nd (i := i) hW (by omega)).2.1) rfl rfl (by decide) u_95 dX8_onWalk_22 ?_
      refine g_iconst (pc := 25) C dX8_onWalk_25 (v := nI 1) rfl ?_
      refine g_icmp_le (pc := 26) C dX8_onWalk_26 (tgt := 63) (by decide) (fun c_26 => ?_) (fun c_26 => ?_)
      ·
        have c_26 : (nAc (gN σ i)).length ≤ 1 := (nI_leI (by omega) (by omega)).mp c_26
        refine g_iload (pc := 63) C dX8_onWalk_63 5 rfl ?_
        refine g_bipush (pc := 65) C dX8_onWalk_65 (v := (-6)) rfl ?_
        refine g_icmp_eq (pc := 67) C dX8_onWalk_67 (tgt := 86) (by decide) (fun c_67 => ?_) (fun c_67 => ?_)
        ·
          refine g_aload_n (pc := 86) C dX8_onWalk_86 1 rfl ?_
          refine g_get (pc := 87) C (j := 2) (WD.nd (i := i) hW (by omega)).1 rfl rfl (by decide) u_139 dX8_onWalk_87 ?_
          refine g_iload_n (pc := 90) C dX8_onWalk_90 3 rfl ?_
          refine g_callV (pc := 91) C (As := [.int (nI x)]) (rest := []) (b := (w + 100 + 100 * i + 1)) (n_X4_has A P g (w + 100 + 100 * i + 1) x (by omega) (WD.nd (i := i) hW (by omega)).2.1) (NLN.o (WD.nd (i := i) hW (by omega)).2.1) rfl rfl Y_X4_has u_597 N_X4_has ⟨by decide, by decide⟩ ⟨by decide, by decide⟩ (Nat.le_of_ble_eq_true rfl) rfl dX8_onWalk_91 ?_
          rintro _ _ _ _ ⟨rfl, rfl, rfl, rfl⟩
          show V K 0 0 P A g [(0, .ref (A (w + 15000))), (1, .ref (A (w + 100 + 100 * i))), (2, .int (nI s)), (3, .int (nI x)), (4, .int (nI y)), (5, .int (-6))] 94 [.int (b32 (decide (x ∈ nAc (gN σ i))))]
          refine g_if_ne (pc := 94) C dX8_onWalk_94 (tgt := 112) (by decide) (fun c_94 => ?_) (fun c_94 => ?_)
          ·
            have c_94 := of_decide_eq_true (b32_no c_94)
            exact g_vret (pc := 112) C R ⟨rfl, rfl, rfl, by rw [wlk_a c_5 (by omega), wend_y c_94]; exact ⟨_, _, ⟨hV, hW, hC, hP, hL⟩⟩, fun k hk => rfl⟩ (by decide) (by decide) dX8_onWalk_112
          ·
            have c_94 := of_decide_eq_false (b32_yes c_94)
            refine g_aload_n (pc := 97) C dX8_onWalk_97 0 rfl ?_
            refine g_aload_n (pc := 98) C dX8_onWalk_98 1 rfl ?_
            refine g_iload_n (pc := 99) C dX8_onWalk_99 3 rfl ?_
            refine g_callV (pc := 100) C (As := [.ref (A (w + 100 + 100 * i)), .int (nI x)]) (rest := []) (b := (w + 15000)) (c_X8_add A P g w i x (by omega) (by omega) (by omega) hS ⟨hV, hW, hC, hP, hL⟩) hV rfl rfl Y_X8_add u_593 N_X8_add ⟨by decide, by decide⟩ ⟨by decide, by decide⟩ (Nat.le_of_ble_eq_true rfl) rfl dX8_onWalk_100 ?_
            rintro _ _ _ g_22 ⟨rfl, rfl, rfl, hw_23, hf_24⟩
            obtain ⟨v_25, v_26, v_27, v_28, v_29⟩ := hw_23
            obtain ⟨σ30, hσ30⟩ : ∃ sM : Sg, sM = add cs σ i x := ⟨_, rfl⟩
            have hW_31 : WD A g_22 w (w + 15005) σ30 := by rw [hσ30]; exact v_26
            skip
            have hK_σ30 : gK σ30 = gK σ := (congrArg gK hσ30).trans (add_K.trans (rfl : gK σ = gK σ))
            have hT_σ30 : gT σ30 = gT σ := (congrArg gT hσ30).trans (add_T.trans (rfl : gT σ = gT σ))
            have hZ_σ30 : gZ σ30 = gZ σ := (congrArg gZ hσ30).trans (add_Z.trans (rfl : gZ σ = gZ σ))
            show V K 0 0 P A g_22 [(0, .ref (A (w + 15000))), (1, .ref (A (w + 100 + 100 * i))), (2, .int (nI s)), (3, .int (nI x)), (4, .int (nI y)), (5, .int (-6))] 103 []
            have hS_32 : SW B cs (σ30) := by rw [hσ30]; exact SW.add hS (by omega) (by omega)
            refine g_aload_n (pc := 103) C dX8_onWalk_103 0 rfl ?_
            refine g_aload_n (pc := 104) C dX8_onWalk_104 1 rfl ?_
            refine g_iload_n (pc := 105) C dX8_onWalk_105 3 rfl ?_
            refine g_iconst (pc := 106) C dX8_onWalk_106 (v := nI 3) rfl ?_
            refine g_iconst (pc := 107) C dX8_onWalk_107 (v := nI 0) rfl ?_
            refine g_iconst (pc := 108) C dX8_onWalk_108 (v := nI 0) rfl ?_
            refine g_callV (pc := 109) C (As := [.ref (A (w + 100 + 100 * i)), .int (nI x), .int (nI 3), .int (nI 0), .int (nI 0)]) (rest := []) (b := (w + 15000)) (c_X8_send A P g_22 w i x 3 0 0 (by omega) (by omega) (by omega) (by omega) (by omega) ⟨v_25, hW_31, v_27, v_28, v_29⟩) v_25 rfl rfl Y_X8_send u_623 N_X8_send ⟨by decide, by decide⟩ ⟨by decide, by decide⟩ (Nat.le_of_ble_eq_true rfl) rfl dX8_onWalk_109 ?_
            rintro _ _ _ g_33 ⟨rfl, rfl, rfl, hw_34, hf_35⟩
            obtain ⟨v_36, v_37, v_38, v_39, v_40⟩ := hw_34
            obtain ⟨σ41, hσ41⟩ : ∃ sM : Sg, sM = snd σ30 i x 3 0 0 [] := ⟨_, rfl⟩
            have hW_42 : WD A g_33 w (w + 15005) σ41 := by rw [hσ41]; exact v_37
            skip
            have hK_σ41 : gK σ41 = gK σ := (congrArg gK hσ41).trans (snd_K.trans hK_σ30)
            have hT_σ41 : gT σ41 = gT σ := (congrArg gT hσ41).trans (snd_T.trans hT_σ30)
            have hZ_σ41 : gZ σ41 = gZ σ := (congrArg gZ hσ41).trans (snd_Z.trans hZ_σ30)
            show V K 0 0 P A g_33 [(0, .ref (A (w + 15000))), (1, .ref (A (w + 100 + 100 * i))), (2, .int (nI s)), (3, .int (nI x)), (4, .int (nI y)), (5, .int (-6))] 112 []
            exact g_vret (pc := 112) C R ⟨rfl, rfl, rfl, by rw [wlk_a c_5 (by omega), wend_n c_94, ← hσ30, ← hσ41]; exact ⟨_, _, ⟨v_36, hW_42, v_38, v_39, v_40⟩⟩, fun k hk => by rw [hf_35 k (by omega), hf_24 k (by omega)]⟩ (by decide) (by decide) dX8_onWalk_112
        ·
          exact absurd rfl c_67
      ·
        have c_26 : ¬ (nAc (gN σ i)).length ≤ 1 := fun h => c_26 ((nI_leI (a := (nAc (gN σ i)).length) (b := 1) (by omega) (by omega)).mpr h)
        refine g_iload (pc := 29) C dX8_onWalk_29 4 rfl ?_
        refine g_aload_n (pc := 31) C dX8_onWalk_31 0 rfl ?_
        refine g_get (pc := 32) C (j := 1) hV rfl rfl (by decide) u_301 dX8_onWalk_32 ?_
        refine g_get (pc := 35) C (j := 3) (show g (w + 1) = ob 6 _ from hW.2.1) rfl rfl (by decide) u_62 dX8_onWalk_35 ?_
        refine g_icmp_ne (pc := 38) C dX8_onWalk_38 (tgt := 47) (by decide) (fun c_38 => ?_) (fun c_38 => ?_)
        ·
          have c_38 : ¬ y = (gZ σ).2.2.2.1 := fun h => c_38 ((nI_eq (a := y) (b := (gZ σ).2.2.2.1) (by omega) (by omega)).mpr h)
          refine g_aload_n (pc := 47) C dX8_onWalk_47 0 rfl ?_
          refine g_aload_n (pc := 48) C dX8_onWalk_48 1 rfl ?_
          refine g_get (pc := 49) C (j := 2) (WD.nd (i := i) hW (by omega)).1 rfl rfl (by decide) u_139 dX8_onWalk_49 ?_
          refine g_iload_n (pc := 52) C dX8_onWalk_52 2 rfl ?_
          refine g_iload_n (pc := 53) C dX8_onWalk_53 3 rfl ?_
          refine g_callV (pc := 54) C (As := [.ref (A (w + 100 + 100 * i + 1)), .int (nI s), .int (nI x)]) (rest := []) (b := (w + 15000)) (c_X8_fillPool A P g w (w + 100 + 100 * i + 1) (some s) (some x) (fun _ h => by cases h <;> omega) (fun _ h => by cases h <;> omega) (by omega) (by have := (WD.nd (i := i) hW (by omega)).2.1.le; omega) hV hP (WD.nd (i := i) hW (by omega)).2.1) hV rfl rfl Y_X8_fillPool u_457 N_X8_fillPool ⟨by decide, by decide⟩ ⟨by decide, by decide⟩ (Nat.le_of_ble_eq_true rfl) rfl dX8_onWalk_54 ?_
          rintro _ _ _ g_43 ⟨rfl, rfl, rfl, hn_44, hf_45⟩
          have h_46 := hf_45.at (by omega) hV
          have hp_47 := WD.fr hW hf_45 (by omega)
          have hp_48 := CO.fr hC hf_45 (by omega)
          have hp_49 := NLN.fr hL hf_45 (by omega)
          show V K 0 0 P A g_43 [(0, .ref (A (w + 15000))), (1, .ref (A (w + 100 + 100 * i))), (2, .int (nI s)), (3, .int (nI x)), (4, .int (nI y)), (5, .int (-6))] 57 []
          refine g_aload_n (pc := 57) C dX8_onWalk_57 0 rfl ?_
          refine g_callV (pc := 58) C (As := []) (rest := []) (b := (w + 15000)) (c_X8_drawOfPool A P g_43 w hS h_46 hp_47 hp_48 hn_44) h_46 rfl rfl Y_X8_drawOfPool u_470 N_X8_drawOfPool ⟨by decide, by decide⟩ ⟨by decide, by decide⟩ (Nat.le_of_ble_eq_true rfl) rfl dX8_onWalk_58 ?_
          rintro _ _ _ g_50 ⟨rfl, rfl, rfl, hW_51, hn_52, hf_53, hf_54⟩
          have hp_55 := CO.fr hp_48 hf_53 (by omega)
          have hp_56 := NLN.fr hp_49 hf_53 (by omega)
          obtain ⟨σ57, hσ57⟩ : ∃ sM : Sg, sM = dS cs σ (wof (some s) (some x) (nAc (gN σ i))).length := ⟨_, rfl⟩
          have hW_58 : WD A g_50 w (w + 15005) σ57 := by rw [hσ57]; exact hW_51
          clear hW_51
          have hK_σ57 : gK σ57 = gK σ := (congrArg gK hσ57).trans (dS_K.trans (rfl : gK σ = gK σ))
          have hT_σ57 : gT σ57 = gT σ := (congrArg gT hσ57).trans (dS_T.trans (rfl : gT σ = gT σ))
          have hZ_σ57 : gZ σ57 = gZ σ := (congrArg gZ hσ57).trans (dS_Z.trans (rfl : gZ σ = gZ σ))
          have h_59 := (hf_54 (w + 15000) (by omega)).trans h_46
          show V K 0 0 P A g_50 [(0, .ref (A (w + 15000))), (1, .ref (A (w + 100 + 100 * i))), (2, .int (nI s)), (3, .int (nI x)), (4, .int (nI y)), (5, .int (-6))] 61 [.int (onv (dpV cs σ (wof (some s) (some x) (nAc (gN σ i)))))]
          refine g_istore (pc := 61) C dX8_onWalk_61 (by decide) (lv' := [(0, .ref (A (w + 15000))), (1, .ref (A (w + 100 + 100 * i))), (2, .int (nI s)), (3, .int (nI x)), (4, .int (nI y)), (5, .int (onv (dpV cs σ (wof (some s) (some x) (nAc (gN σ i))))))]) [1, 2, 3, 4, 5, 0] rfl ?_
          have hS_60 : SW B cs (σ57) := by rw [hσ57]; exact SW.drw hS
          refine g_iload (pc := 63) C dX8_onWalk_63 5 rfl ?_
          refine g_bipush (pc := 65) C dX8_onWalk_65 (v := (-6)) rfl ?_
          refine g_icmp_eq (pc := 67) C dX8_onWalk_67 (tgt := 86) (by decide) (fun c_67 => ?_) (fun c_67 => ?_)
          ·
            have hnv : (dpV cs σ (wof (some s) (some x) (nAc (gN σ i)))) = none := (onv_none (dpV_b (fun z hz => by have e := (SW.nw hS (i := i) (by omega)).2.1 z (wof_mem hz); omega))).mp c_67
            refine g_aload_n (pc := 86) C dX8_onWalk_86 1 rfl ?_
            refine g_get (pc := 87) C (j := 2) (WD.nd (i := i) hW_58 (by omega)).1 rfl rfl (by decide) u_139 dX8_onWalk_87 ?_
            refine g_iload_n (pc := 90) C dX8_onWalk_90 3 rfl ?_
            refine g_callV (pc := 91) C (As := [.int (nI x)]) (rest := []) (b := (w + 100 + 100 * i + 1)) (n_X4_has A P g_50 (w + 100 + 100 * i + 1) x (by omega) (WD.nd (i := i) hW_58 (by omega)).2.1) (NLN.o (WD.nd (i := i) hW_58 (by omega)).2.1) rfl rfl Y_X4_has u_597 N_X4_has ⟨by decide, by decide⟩ ⟨by decide, by decide⟩ (Nat.le_of_ble_eq_true rfl) rfl dX8_onWalk_91 ?_
            rintro _ _ _ _ ⟨rfl, rfl, rfl, rfl⟩
            show V K 0 0 P A g_50 [(0, .ref (A (w + 15000))), (1, .ref (A (w + 100 + 100 * i))), (2, .int (nI s)), (3, .int (nI x)), (4, .int (nI y)), (5, .int (onv (dpV cs σ (wof (some s) (some x) (nAc (gN σ i))))))] 94 [.int (b32 (decide (x ∈ nAc (gN σ57 i))))]
            refine g_if_ne (pc := 94) C dX8_onWalk_94 (tgt := 112) (by decide) (fun c_94 => ?_) (fun c_94 => ?_)
            ·
              have c_94 := of_decide_eq_true (b32_no c_94)
              exact g_vret (pc := 112) C R ⟨rfl, rfl, rfl, by rw [wlk_b c_5 (by omega) (by omega), if_neg c_38, wlk2_n hnv, ← hσ57, wend_y c_94]; exact ⟨_, _, ⟨h_59, hW_58, hp_55, hn_52, hp_56⟩⟩, fun k hk => by rw [hf_54 k (by omega), hf_45 k (by omega)]⟩ (by decide) (by decide) dX8_onWalk_112
            ·
              have c_94 := of_decide_eq_false (b32_yes c_94)
              refine g_aload_n (pc := 97) C dX8_onWalk_97 0 rfl ?_
              refine g_aload_n (pc := 98) C dX8_onWalk_98 1 rfl ?_
              refine g_iload_n (pc := 99) C dX8_onWalk_99 3 rfl ?_
              refine g_callV (pc := 100) C (As := [.ref (A (w + 100 + 100 * i)), .int (nI x)]) (rest := []) (b := (w + 15000)) (c_X8_add A P g_50 w i x (by omega) (by omega) (by omega) hS_60 ⟨h_59, hW_58, hp_55, hn_52, hp_56⟩) h_59 rfl rfl Y_X8_add u_593 N_X8_add ⟨by decide, by decide⟩ ⟨by decide, by decide⟩ (Nat.le_of_ble_eq_true rfl) rfl dX8_onWalk_100 ?_
              rintro _ _ _ g_61 ⟨rfl, rfl, rfl, hw_62, hf_63⟩
              obtain ⟨v_64, v_65, v_66, v_67, v_68⟩ := hw_62
              obtain ⟨σ69, hσ69⟩ : ∃ sM : Sg, sM = add cs σ57 i x := ⟨_, rfl⟩
              have hW_70 : WD A g_61 w (w + 15005) σ69 := by rw [hσ69]; exact v_65
              skip
              have hK_σ69 : gK σ69 = gK σ := (congrArg gK hσ69).trans (add_K.trans hK_σ57)
              have hT_σ69 : gT σ69 = gT σ := (congrArg gT hσ69).trans (add_T.trans hT_σ57)
              have hZ_σ69 : gZ σ69 = gZ σ := (congrArg gZ hσ69).trans (add_Z.trans hZ_σ57)
              show V K 0 0 P A g_61 [(0, .ref (A (w + 15000))), (1, .ref (A (w + 100 + 100 * i))), (2, .int (nI s)), (3, .int (nI x)), (4, .int (nI y)), (5, .int (onv (dpV cs σ (wof (some s) (some x) (nAc (gN σ i))))))] 103 []
              have hS_71 : SW B cs (σ69) := by rw [hσ69]; exact SW.add hS_60 (by omega) (by omega)
              refine g_aload_n (pc := 103) C dX8_onWalk_103 0 rfl ?_
              refine g_aload_n (pc := 104) C dX8_onWalk_104 1 rfl ?_
              refine g_iload_n (pc := 105) C dX8_onWalk_105 3 rfl ?_
              refine g_iconst (pc := 106) C dX8_onWalk_106 (v := nI 3) rfl ?_
              refine g_iconst (pc := 107) C dX8_onWalk_107 (v := nI 0) rfl ?_
              refine g_iconst (pc := 108) C dX8_onWalk_108 (v := nI 0) rfl ?_
              refine g_callV (pc := 109) C (As := [.ref (A (w + 100 + 100 * i)), .int (nI x), .int (nI 3), .int (nI 0), .int (nI 0)]) (rest := []) (b := (w + 15000)) (c_X8_send A P g_61 w i x 3 0 0 (by omega) (by omega) (by omega) (by omega) (by omega) ⟨v_64, hW_70, v_66, v_67, v_68⟩) v_64 rfl rfl Y_X8_send u_623 N_X8_send ⟨by decide, by decide⟩ ⟨by decide, by decide⟩ (Nat.le_of_ble_eq_true rfl) rfl dX8_onWalk_109 ?_
              rintro _ _ _ g_72 ⟨rfl, rfl, rfl, hw_73, hf_74⟩
              obtain ⟨v_75, v_76, v_77, v_78, v_79⟩ := hw_73
              obtain ⟨σ80, hσ80⟩ : ∃ sM : Sg, sM = snd σ69 i x 3 0 0 [] := ⟨_, rfl⟩
              have hW_81 : WD A g_72 w (w + 15005) σ80 := by rw [hσ80]; exact v_76
              skip
              have hK_σ80 : gK σ80 = gK σ := (congrArg gK hσ80).trans (snd_K.trans hK_σ69)
              have hT_σ80 : gT σ80 = gT σ := (congrArg gT hσ80).trans (snd_T.trans hT_σ69)
              have hZ_σ80 : gZ σ80 = gZ σ := (congrArg gZ hσ80).trans (snd_Z.trans hZ_σ69)
              show V K 0 0 P A g_72 [(0, .ref (A (w + 15000))), (1, .ref (A (w + 100 + 100 * i))), (2, .int (nI s)), (3, .int (nI x)), (4, .int (nI y)), (5, .int (onv (dpV cs σ (wof (some s) (some x) (nAc (gN σ i))))))] 112 []
              exact g_vret (pc := 112) C R ⟨rfl, rfl, rfl, by rw [wlk_b c_5 (by omega) (by omega), if_neg c_38, wlk2_n hnv, ← hσ57, wend_n c_94, ← hσ69, ← hσ80]; exact ⟨_, _, ⟨v_75, hW_81, v_77, v_78, v_79⟩⟩, fun k hk => by rw [hf_74 k (by omega), hf_63 k (by omega), hf_54 k (by omega), hf_45 k (by omega)]⟩ (by decide) (by decide) dX8_onWalk_112
          ·
            obtain ⟨q, hq⟩ : ∃ q, (dpV cs σ (wof (some s) (some x) (nAc (gN σ i)))) = some q := by cases e : (dpV cs σ (wof (some s) (some x) (nAc (gN σ i)))); exact absurd ((onv_none (dpV_b (fun z hz => by have e := (SW.nw hS (i := i) (by omega)).2.1 z (wof_mem hz); omega))).mpr e) c_67; exact ⟨_, rfl⟩
            have hqK : q < gK σ := by have e := (SW.nw hS (i := i) (by omega)).2.1 q (wof_mem (dpV_mem hq).1); omega
            rw [hq]
            show V K 0 0 P A g_50 [(0, .ref (A (w + 15000))), (1, .ref (A (w + 100 + 100 * i))), (2, .int (nI s)), (3, .int (nI x)), (4, .int (nI y)), (5, .int (nI q))] 70 []
            refine g_aload_n (pc := 70) C dX8_onWalk_70 0 rfl ?_
            refine g_aload_n (pc := 71) C dX8_onWalk_71 1 rfl ?_
            refine g_iload (pc := 72) C dX8_onWalk_72 5 rfl ?_
            refine g_iconst (pc := 74) C dX8_onWalk_74 (v := nI 2) rfl ?_
            refine g_iload_n (pc := 75) C dX8_onWalk_75 3 rfl ?_
            refine g_iload (pc := 76) C dX8_onWalk_76 4 rfl ?_
            refine g_iconst (pc := 78) C dX8_onWalk_78 (v := nI 1) rfl ?_
            refine g_isub (pc := 79) C dX8_onWalk_79 (z := nI (y - 1)) (pk_sub (by omega)) ?_
            refine g_callV (pc := 80) C (As := [.ref (A (w + 100 + 100 * i)), .int (nI q), .int (nI 2), .int (nI x), .int (nI (y - 1))]) (rest := []) (b := (w + 15000)) (c_X8_send A P g_50 w i q 2 x (y - 1) (by omega) (by omega) (by omega) (by omega) (by omega) ⟨h_59, hW_58, hp_55, hn_52, hp_56⟩) h_59 rfl rfl Y_X8_send u_623 N_X8_send ⟨by decide, by decide⟩ ⟨by decide, by decide⟩ (Nat.le_of_ble_eq_true rfl) rfl dX8_onWalk_80 ?_
            rintro _ _ _ g_82 ⟨rfl, rfl, rfl, hw_83, hf_84⟩
            obtain ⟨v_85, v_86, v_87, v_88, v_89⟩ := hw_83
            obtain ⟨σ90, hσ90⟩ : ∃ sM : Sg, sM = snd σ57 i q 2 x (y - 1) [] := ⟨_, rfl⟩
            have hW_91 : WD A g_82 w (w + 15005) σ90 := by rw [hσ90]; exact v_86
            skip
            have hK_σ90 : gK σ90 = gK σ := (congrArg gK hσ90).trans (snd_K.trans hK_σ57)
            have hT_σ90 : gT σ90 = gT σ := (congrArg gT hσ90).trans (snd_T.trans hT_σ57)
            have hZ_σ90 : gZ σ90 = gZ σ := (congrArg gZ hσ90).trans (snd_Z.trans hZ_σ57)
            show V K 0 0 P A g_82 [(0, .ref (A (w + 15000))), (1, .ref (A (w + 100 + 100 * i))), (2, .int (nI s)), (3, .int (nI x)), (4, .int (nI y)), (5, .int (nI q))] 83 []
            refine g_goto (pc := 83) C dX8_onWalk_83 (tgt := 112) (by decide) ?_
            exact g_vret (pc := 112) C R ⟨rfl, rfl, rfl, by rw [wlk_b c_5 (by omega) (by omega), if_neg c_38, wlk2_s hq, ← hσ57, ← hσ90]; exact ⟨_, _, ⟨v_85, hW_91, v_87, v_88, v_89⟩⟩, fun k hk => by rw [hf_84 k (by omega), hf_54 k (by omega), hf_45 k (by omega)]⟩ (by decide) (by decide) dX8_onWalk_112
        ·
          have c_38 : y = (gZ σ).2.2.2.1 := (nI_eq (by omega) (by omega)).mp c_38
          refine g_aload_n (pc := 41) C dX8_onWalk_41 0 rfl ?_
          refine g_aload_n (pc := 42) C dX8_onWalk_42 1 rfl ?_
          refine g_iload_n (pc := 43) C dX8_onWalk_43 3 rfl ?_
          refine g_callV (pc := 44) C (As := [.ref (A (w + 100 + 100 * i)), .int (nI x)]) (rest := []) (b := (w + 15000)) (c_X8_note A P g w i x (by omega) (by omega) hS ⟨hV, hW, hC, hP, hL⟩) hV rfl rfl Y_X8_note u_618 N_X8_note ⟨by decide, by decide⟩ ⟨by decide, by decide⟩ (Nat.le_of_ble_eq_true rfl) rfl dX8_onWalk_44 ?_
          rintro _ _ _ g_92 ⟨rfl, rfl, rfl, hw_93, hf_94⟩
          obtain ⟨v_95, v_96, v_97, v_98, v_99⟩ := hw_93
          obtain ⟨σ100, hσ100⟩ : ∃ sM : Sg, sM = nte cs σ i x := ⟨_, rfl⟩
          have hW_101 : WD A g_92 w (w + 15005) σ100 := by rw [hσ100]; exact v_96
          skip
          have hK_σ100 : gK σ100 = gK σ := (congrArg gK hσ100).trans (nte_K.trans (rfl : gK σ = gK σ))
          have hT_σ100 : gT σ100 = gT σ := (congrArg gT hσ100).trans (nte_T.trans (rfl : gT σ = gT σ))
          have hZ_σ100 : gZ σ100 = gZ σ := (congrArg gZ hσ100).trans (nte_Z.trans (rfl : gZ σ = gZ σ))
          show V K 0 0 P A g_92 [(0, .ref (A (w + 15000))), (1, .ref (A (w + 100 + 100 * i))), (2, .int (nI s)), (3, .int (nI x)), (4, .int (nI y)), (5, .int (-6))] 47 []
          have hS_102 : SW B cs (σ100) := by rw [hσ100]; exact SW.nte hS (by omega) (by omega)
          refine g_aload_n (pc := 47) C dX8_onWalk_47 0 rfl ?_
          refine g_aload_n (pc := 48) C dX8_onWalk_48 1 rfl ?_
          refine g_get (pc := 49) C (j := 2) (WD.nd (i := i) hW_101 (by omega)).1 rfl rfl (by decide) u_139 dX8_onWalk_49 ?_
          refine g_iload_n (pc := 52) C dX8_onWalk_52 2 rfl ?_
          refine g_iload_n (pc := 53) C dX8_onWalk_53 3 rfl ?_
          refine g_callV (pc := 54) C (As := [.ref (A (w + 100 + 100 * i + 1)), .int (nI s), .int (nI x)]) (rest := []) (b := (w + 15000)) (c_X8_fillPool A P g_92 w (w + 100 + 100 * i + 1) (some s) (some x) (fun _ h => by cases h <;> omega) (fun _ h => by cases h <;> omega) (by omega) (by have := (WD.nd (i := i) hW_101 (by omega)).2.1.le; omega) v_95 v_98 (WD.nd (i := i) hW_101 (by omega)).2.1) v_95 rfl rfl Y_X8_fillPool u_457 N_X8_fillPool ⟨by decide, by decide⟩ ⟨by decide, by decide⟩ (Nat.le_of_ble_eq_true rfl) rfl dX8_onWalk_54 ?_
          rintro _ _ _ g_103 ⟨rfl, rfl, rfl, hn_104, hf_105⟩
          have h_106 := hf_105.at (by omega) v_95
          have hp_107 := WD.fr hW_101 hf_105 (by omega)
          have hp_108 := CO.fr v_97 hf_105 (by omega)
          have hp_109 := NLN.fr v_99 hf_105 (by omega)
          show V K 0 0 P A g_103 [(0, .ref (A (w + 15000))), (1, .ref (A (w + 100 + 100 * i))), (2, .int (nI s)), (3, .int (nI x)), (4, .int (nI y)), (5, .int (-6))] 57 []
          refine g_aload_n (pc := 57) C dX8_onWalk_57 0 rfl ?_
          refine g_callV (pc := 58) C (As := []) (rest := []) (b := (w + 15000)) (c_X8_drawOfPool A P g_103 w hS_102 h_106 hp_107 hp_108 hn_104) h_106 rfl rfl Y_X8_drawOfPool u_470 N_X8_drawOfPool ⟨by decide, by decide⟩ ⟨by decide, by decide⟩ (Nat.le_of_ble_eq_true rfl) rfl dX8_onWalk_58 ?_
          rintro _ _ _ g_110 ⟨rfl, rfl, rfl, hW_111, hn_112, hf_113, hf_114⟩
          have hp_115 := CO.fr hp_108 hf_113 (by omega)
          have hp_116 := NLN.fr hp_109 hf_113 (by omega)
          obtain ⟨σ117, hσ117⟩ : ∃ sM : Sg, sM = dS cs σ100 (wof (some s) (some x) (nAc (gN σ100 i))).length := ⟨_, rfl⟩
          have hW_118 : WD A g_110 w (w + 15005) σ117 := by rw [hσ117]; exact hW_111
          clear hW_111
          have hK_σ117 : gK σ117 = gK σ := (congrArg gK hσ117).trans (dS_K.trans hK_σ100)
          have hT_σ117 : gT σ117 = gT σ := (congrArg gT hσ117).trans (dS_T.trans hT_σ100)
          have hZ_σ117 : gZ σ117 = gZ σ := (congrArg gZ hσ117).trans (dS_Z.trans hZ_σ100)
          have h_119 := (hf_114 (w + 15000) (by omega)).trans h_106
          show V K 0 0 P A g_110 [(0, .ref (A (w + 15000))), (1, .ref (A (w + 100 + 100 * i))), (2, .int (nI s)), (3, .int (nI x)), (4, .int (nI y)), (5, .int (-6))] 61 [.int (onv (dpV cs σ100 (wof (some s) (some x) (nAc (gN σ100 i)))))]
          refine g_istore (pc := 61) C dX8_onWalk_61 (by decide) (lv' := [(0, .ref (A (w + 15000))), (1, .ref (A (w + 100 + 100 * i))), (2, .int (nI s)), (3, .int (nI x)), (4, .int (nI y)), (5, .int (onv (dpV cs σ100 (wof (some s) (some x) (nAc (gN σ100 i))))))]) [1, 2, 3, 4, 5, 0] rfl ?_
          have hS_120 : SW B cs (σ117) := by rw [hσ117]; exact SW.drw hS_102
          refine g_iload (pc := 63) C dX8_onWalk_63 5 rfl ?_
          refine g_bipush (pc := 65) C dX8_onWalk_65 (v := (-6)) rfl ?_
          refine g_icmp_eq (pc := 67) C dX8_onWalk_67 (tgt := 86) (by decide) (fun c_67 => ?_) (fun c_67 => ?_)
          ·
            have hnv : (dpV cs σ100 (wof (some s) (some x) (nAc (gN σ100 i)))) = none := (onv_none (dpV_b (fun z hz => by have e := (SW.nw hS_102 (i := i) (by omega)).2.1 z (wof_mem hz); omega))).mp c_67
            refine g_aload_n (pc := 86) C dX8_onWalk_86 1 rfl ?_
            refine g_get (pc := 87) C (j := 2) (WD.nd (i := i) hW_118 (by omega)).1 rfl rfl (by decide) u_139 dX8_onWalk_87 ?_
            refine g_iload_n (pc := 90) C dX8_onWalk_90 3 rfl ?_
            refine g_callV (pc := 91) C (As := [.int (nI x)]) (rest := []) (b := (w + 100 + 100 * i + 1)) (n_X4_has A P g_110 (w + 100 + 100 * i + 1) x (by omega) (WD.nd (i := i) hW_118 (by omega)).2.1) (NLN.o (WD.nd (i := i) hW_118 (by omega)).2.1) rfl rfl Y_X4_has u_597 N_X4_has ⟨by decide, by decide⟩ ⟨by decide, by decide⟩ (Nat.le_of_ble_eq_true rfl) rfl dX8_onWalk_91 ?_
            rintro _ _ _ _ ⟨rfl, rfl, rfl, rfl⟩
            show V K 0 0 P A g_110 [(0, .ref (A (w + 15000))), (1, .ref (A (w + 100 + 100 * i))), (2, .int (nI s)), (3, .int (nI x)), (4, .int (nI y)), (5, .int (onv (dpV cs σ100 (wof (some s) (some x) (nAc (gN σ100 i))))))] 94 [.int (b32 (decide (x ∈ nAc (gN σ117 i))))]
            refine g_if_ne (pc := 94) C dX8_onWalk_94 (tgt := 112) (by decide) (fun c_94 => ?_) (fun c_94 => ?_)
            ·
              have c_94 := of_decide_eq_true (b32_no c_94)
              exact g_vret (pc := 112) C R ⟨rfl, rfl, rfl, by rw [wlk_b c_5 (by omega) (by omega), if_pos c_38, ← hσ100, wlk2_n hnv, ← hσ117, wend_y c_94]; exact ⟨_, _, ⟨h_119, hW_118, hp_115, hn_112, hp_116⟩⟩, fun k hk => by rw [hf_114 k (by omega), hf_105 k (by omega), hf_94 k (by omega)]⟩ (by decide) (by decide) dX8_onWalk_112
            ·
              have c_94 := of_decide_eq_false (b32_yes c_94)
              refine g_aload_n (pc := 97) C dX8_onWalk_97 0 rfl ?_
              refine g_aload_n (pc := 98) C dX8_onWalk_98 1 rfl ?_
              refine g_iload_n (pc := 99) C dX8_onWalk_99 3 rfl ?_
              refine g_callV (pc := 100) C (As := [.ref (A (w + 100 + 100 * i)), .int (nI x)]) (rest := []) (b := (w + 15000)) (c_X8_add A P g_110 w i x (by omega) (by omega) (by omega) hS_120 ⟨h_119, hW_118, hp_115, hn_112, hp_116⟩) h_119 rfl rfl Y_X8_add u_593 N_X8_add ⟨by decide, by decide⟩ ⟨by decide, by decide⟩ (Nat.le_of_ble_eq_true rfl) rfl dX8_onWalk_100 ?_
              rintro _ _ _ g_121 ⟨rfl, rfl, rfl, hw_122, hf_123⟩
              obtain ⟨v_124, v_125, v_126, v_127, v_128⟩ := hw_122
              obtain ⟨σ129, hσ129⟩ : ∃ sM : Sg, sM = add cs σ117 i x := ⟨_, rfl⟩
              have hW_130 : WD A g_121 w (w + 15005) σ129 := by rw [hσ129]; exact v_125
              skip
              have hK_σ129 : gK σ129 = gK σ := (congrArg gK hσ129).trans (add_K.trans hK_σ117)
              have hT_σ129 : gT σ129 = gT σ := (congrArg gT hσ129).trans (add_T.trans hT_σ117)
              have hZ_σ129 : gZ σ129 = gZ σ := (congrArg gZ hσ129).trans (add_Z.trans hZ_σ117)
              show V K 0 0 P A g_121 [(0, .ref (A (w + 15000))), (1, .ref (A (w + 100 + 100 * i))), (2, .int (nI s)), (3, .int (nI x)), (4, .int (nI y)), (5, .int (onv (dpV cs σ100 (wof (some s) (some x) (nAc (gN σ100 i))))))] 103 []
              have hS_131 : SW B cs (σ129) := by rw [hσ129]; exact SW.add hS_120 (by omega) (by omega)
              refine g_aload_n (pc := 103) C dX8_onWalk_103 0 rfl ?_
              refine g_aload_n (pc := 104) C dX8_onWalk_104 1 rfl ?_
              refine g_iload_n (pc := 105) C dX8_onWalk_105 3 rfl ?_
              refine g_iconst (pc := 106) C dX8_onWalk_106 (v := nI 3) rfl ?_
              refine g_iconst (pc := 107) C dX8_onWalk_107 (v := nI 0) rfl ?_
              refine g_iconst (pc := 108) C dX8_onWalk_108 (v := nI 0) rfl ?_
              refine g_callV (pc := 109) C (As := [.ref (A (w + 100 + 100 * i)), .int (nI x), .int (nI 3), .int (nI 0), .int (nI 0)]) (rest := []) (b := (w + 15000)) (c_X8_send A P g_121 w i x 3 0 0 (by omega) (by omega) (by omega) (by omega) (by omega) ⟨v_124, hW_130, v_126, v_127, v_128⟩) v_124 rfl rfl Y_X8_send u_623 N_X8_send ⟨by decide, by decide⟩ ⟨by decide, by decide⟩ (Nat.le_of_ble_eq_true rfl) rfl dX8_onWalk_109 ?_
              rintro _ _ _ g_132 ⟨rfl, rfl, rfl, hw_133, hf_134⟩
              obtain ⟨v_135, v_136, v_137, v_138, v_139⟩ := hw_133
              obtain ⟨σ140, hσ140⟩ : ∃ sM : Sg, sM = snd σ129 i x 3 0 0 [] := ⟨_, rfl⟩
              have hW_141 : WD A g_132 w (w + 15005) σ140 := by rw [hσ140]; exact v_136
              skip
              have hK_σ140 : gK σ140 = gK σ := (congrArg gK hσ140).trans (snd_K.trans hK_σ129)
              have hT_σ140 : gT σ140 = gT σ := (congrArg gT hσ140).trans (snd_T.trans hT_σ129)
              have hZ_σ140 : gZ σ140 = gZ σ := (congrArg gZ hσ140).trans (snd_Z.trans hZ_σ129)
              show V K 0 0 P A g_132 [(0, .ref (A (w + 15000))), (1, .ref (A (w + 100 + 100 * i))), (2, .int (nI s)), (3, .int (nI x)), (4, .int (nI y)), (5, .int (onv (dpV cs σ100 (wof (some s) (some x) (nAc (gN σ100 i))))))] 112 []
              exact g_vret (pc := 112) C R ⟨rfl, rfl, rfl, by rw [wlk_b c_5 (by omega) (by omega), if_pos c_38, ← hσ100, wlk2_n hnv, ← hσ117, wend_n c_94, ← hσ129, ← hσ140]; exact ⟨_, _, ⟨v_135, hW_141, v_137, v_138, v_139⟩⟩, fun k hk => by rw [hf_134 k (by omega), hf_123 k (by omega), hf_114 k (by omega), hf_105 k (by omega), hf_94 k (by omega)]⟩ (by decide) (by decide) dX8_onWalk_112
          ·
            obtain ⟨q, hq⟩ : ∃ q, (dpV cs σ100 (wof (some s) (some x) (nAc (gN σ100 i)))) = some q := by cases e : (dpV cs σ100 (wof (some s) (some x) (nAc (gN σ100 i)))); exact absurd ((onv_none (dpV_b (fun z hz => by have e := (SW.nw hS_102 (i := i) (by omega)).2.1 z (wof_mem hz); omega))).mpr e) c_67; exact ⟨_, rfl⟩
            have hqK : q < gK σ := by have e := (SW.nw hS_102 (i := i) (by omega)).2.1 q (wof_mem (dpV_mem hq).1); omega
            rw [hq]
            show V K 0 0 P A g_110 [(0, .ref (A (w + 15000))), (1, .ref (A (w + 100 + 100 * i))), (2, .int (nI s)), (3, .int (nI x)), (4, .int (nI y)), (5, .int (nI q))] 70 []
            refine g_aload_n (pc := 70) C dX8_onWalk_70 0 rfl ?_
            refine g_aload_n (pc := 71) C dX8_onWalk_71 1 rfl ?_
            refine g_iload (pc := 72) C dX8_onWalk_72 5 rfl ?_
            refine g_iconst (pc := 74) C dX8_onWalk_74 (v := nI 2) rfl ?_
            refine g_iload_n (pc := 75) C dX8_onWalk_75 3 rfl ?_
            refine g_iload (pc := 76) C dX8_onWalk_76 4 rfl ?_
            refine g_iconst (pc := 78) C dX8_onWalk_78 (v := nI 1) rfl ?_
            refine g_isub (pc := 79) C dX8_onWalk_79 (z := nI (y - 1)) (pk_sub (by omega)) ?_
            refine g_callV (pc := 80) C (As := [.ref (A (w + 100 + 100 * i)), .int (nI q), .int (nI 2), .int (nI x), .int (nI (y - 1))]) (rest := []) (b := (w + 15000)) (c_X8_send A P g_110 w i q 2 x (y - 1) (by omega) (by omega) (by omega) (by omega) (by omega) ⟨h_119, hW_118, hp_115, hn_112, hp_116⟩) h_119 rfl rfl Y_X8_send u_623 N_X8_send ⟨by decide, by decide⟩ ⟨by decide, by decide⟩ (Nat.le_of_ble_eq_true rfl) rfl dX8_onWalk_80 ?_
            rintro _ _ _ g_142 ⟨rfl, rfl, rfl, hw_143, hf_144⟩
            obtain ⟨v_145, v_146, v_147, v_148, v_149⟩ := hw_143
            obtain ⟨σ150, hσ150⟩ : ∃ sM : Sg, sM = snd σ117 i q 2 x (y - 1) [] := ⟨_, rfl⟩
            have hW_151 : WD A g_142 w (w + 15005) σ150 := by rw [hσ150]; exact v_146
            skip
            have hK_σ150 : gK σ150 = gK σ := (congrArg gK hσ150).trans (snd_K.trans hK_σ117)
            have hT_σ150 : gT σ150 = gT σ := (congrArg gT hσ150).trans (snd_T.trans hT_σ117)
            have hZ_σ150 : gZ σ150 = gZ σ := (congrArg gZ hσ150).trans (snd_Z.trans hZ_σ117)
            show V K 0 0 P A g_142 [(0, .ref (A (w + 15000))), (1, .ref (A (w + 100 + 100 * i))), (2, .int (nI s)), (3, .int (nI x)), (4, .int (nI y)), (5, .int (nI q))] 83 []
            refine g_goto (pc := 83) C dX8_onWalk_83 (tgt := 112) (by decide) ?_
            exact g_vret (pc := 112) C R ⟨rfl, rfl, rfl, by rw [wlk_b c_5 (by omega) (by omega), if_pos c_38, ← hσ100, wlk2_s hq, ← hσ117, ← hσ150]; exact ⟨_, _, ⟨v_145, hW_151, v_147, v_148, v_149⟩⟩, fun k hk => by rw [hf_144 k (by omega), hf_114 k (by omega), hf_105 k (by omega), hf_94 k (by omega)]⟩ (by decide) (by decide) dX8_onWalk_112
  ·
    have c_5 : x = i := (nI_eq (by omega) (by omega)).mp c_5
    exact g_vret (pc := 8) C R ⟨rfl, rfl, rfl, by rw [wlk_i (show x = i by omega)]; exact ⟨_, _, ⟨hV, hW, hC, hP, hL⟩⟩, FrS.rf⟩ (by decide) (by decide) dX8_onWalk_8
abbrev rm_X8_answerMix : Room := { frames := 4, cells := 0, slots := 0, locals := 98 }
theorem Y_X8_answerMix : pY yX8_answerMix cX8_answerMix 4 (Option.none : Option Jvm.ClassFile.FieldType) := ⟨u_656, u_657, u_11, u_658⟩
theorem N_X8_answerMix : yX8_answerMix.cls ≠ "java/lang/invoke/MethodHandle" ∧ yX8_answerMix.cls ≠ "java/lang/invoke/VarHandle" ∧ (parseMethodDescriptor yX8_answerMix.desc).map (fun d => d.parameters.length) = some 3 := by decide +kernel
set_option maxRecDepth 20000 in
set_option maxHeartbeats 4000000 in
theorem c_X8_answerMix (A : Nat → Nat) (P : List Nat) (g : pM) (w : Nat) {B : Nat} {cs : List Nat} {σ : Sg} {pl ll : List Nat} (i t n : Nat) (hi : i < gK σ) (ht : t < gK σ) (hn : n ≤ 5) (hS : SW B cs σ) (h : VW A g w cs σ pl ll) : PM yX8_answerMix cX8_answerMix 4 (Option.none : Option Jvm.ClassFile.FieldType) rm_X8_answerMix [.ref (A (w + 15000)), .ref (A (w + 100 + 100 * i)), .int (nI t), .int (nI n)] P A g (fun v g' => v = none ∧ (∃ pl' ll', VW A g' w cs (ansS cs σ i t n) pl' ll') ∧ FrS g g' w) := by
  obtain ⟨hV, hW, hC, hP, hL⟩ := h
  have hK := hS.2.1
  obtain ⟨hz1, hz2, hz3, hz4, hz5, hz6, hz7, hz8, hz9⟩ := hS.2.2.2.1
  refine px_intro (by decide +kernel) (Nat.le_of_ble_eq_true rfl) (fun K sz C R => ?_)
  show V K 0 0 P A g [(0, .ref (A (w + 15000))), (1, .ref (A (w + 100 + 100 * i))), (2, .int (nI t)), (3, .int (nI n))] 0 []
  refine g_aload_n (pc := 0) C dX8_answerMix_0 0 rfl ?_
  refine g_get (pc := 1) C (j := 3) hV rfl rfl (by decide) u_303 dX8_answerMix_1 ?_
  refine g_callV (pc := 4) C (As := []) (rest := []) (b := (w + 15003)) (n_X4_clear A P g (w + 15003) hL) (NLN.o hL) rfl rfl Y_X4_clear u_461 N_X4_clear ⟨by decide, by decide⟩ ⟨by decide, by decide⟩ (Nat.le_of_ble_eq_true rfl) rfl dX8_answerMix_4 ?_
  rintro _ _ _ g_1 ⟨rfl, rfl, rfl, hn_2, hf_3⟩
  have h_4 := hf_3.at (by omega) hV
  have hp_5 := WD.fr hW hf_3 (by omega)
  have hp_6 := CO.fr hC hf_3 (by omega)
  have hp_7 := NLN.fr hP hf_3 (by omega)
  show V K 0 0 P A g_1 [(0, .ref (A (w + 15000))), (1, .ref (A (w + 100 + 100 * i))), (2, .int (nI t)), (3, .int (nI n))] 7 []
  refine g_aload_n (pc := 7) C dX8_answerMix_7 0 rfl ?_
  refine g_aload_n (pc := 8) C dX8_answerMix_8 1 rfl ?_
  refine g_get (pc := 9) C (j := 3) (WD.nd (i := i) hp_5 (by omega)).1 rfl rfl (by decide) u_143 dX8_answerMix_9 ?_
  refine g_bipush (pc := 12) C dX8_answerMix_12 (v := (-6)) rfl ?_
  refine g_bipush (pc := 14) C dX8_answerMix_14 (v := (-6)) rfl ?_
  refine g_callV (pc := 16) C (As := [.ref (A (w + 100 + 100 * i + 3)), .int (-6), .int (-6)]) (rest := []) (b := (w + 15000)) (c_X8_fillPool A P g_1 w (w + 100 + 100 * i + 3) none none (fun _ h => by cases h <;> omega) (fun _ h => by cases h <;> omega) (by omega) (by have := (WD.nd (i := i) hp_5 (by omega)).2.2.1.le; omega) h_4 hp_7 (WD.nd (i := i) hp_5 (by omega)).2.2.1) h_4 rfl rfl Y_X8_fillPool u_457 N_X8_fillPool ⟨by decide, by decide⟩ ⟨by decide, by decide⟩ (Nat.le_of_ble_eq_true rfl) rfl dX8_answerMix_16 ?_
  rintro _ _ _ g_8 ⟨rfl, rfl, rfl, hn_9, hf_10⟩
  have h_11 := hf_10.at (by omega) h_4
  have hp_12 := WD.fr hp_5 hf_10 (by omega)
  have hp_13 := CO.fr hp_6 hf_10 (by omega)
  have hp_14 := NLN.fr hn_2 hf_10 (by omega)
  show V K 0 0 P A g_8 [(0, .ref (A (w + 15000))), (1, .ref (A (w + 100 + 100 * i))), (2, .int (nI t)), (3, .int (nI n))] 19 []
  refine g_aload_n (pc := 19) C dX8_answerMix_19 0 rfl ?_
  refine g_iload_n (pc := 20) C dX8_answerMix_20 3 rfl ?_
  refine g_callV (pc := 21) C (As := [.int (nI n)]) (rest := []) (b := (w + 15000)) (c_X8_listFromPool A P g_8 w n (by simpa using hn) hS ⟨h_11, hp_12, hp_13, hn_9, hp_14⟩) h_11 rfl rfl Y_X8_listFromPool u_490 N_X8_listFromPool ⟨by decide, by decide⟩ ⟨by decide, by decide⟩ (Nat.le_of_ble_eq_true rfl) rfl dX8_answerMix_21 ?_
  rintro _ _ _ g_15 ⟨rfl, rfl, rfl, hw_16, hf_17⟩
  have hSq18 := lfp_S (n := n) (p := (wof none none (nPa (gN σ i)))) (l := ([])) hS
  have hMq18 : ∀ z ∈ (lfp cs n σ (wof none none (nPa (gN σ i))) ([])).2.2, z < gK σ := lfp_mem (fun z hz => (hS.nw hi).2.2.1 z (wof_mem hz)) (fun z hz => by cases hz)
  have hNq18 : gN (lfp cs n σ (wof none none (nPa (gN σ i))) ([])).1 = gN σ := lfp_N
  have hEq18 := lfp_len (cs := cs) (n := n) (σ := σ) (p := (wof none none (nPa (gN σ i)))) (l := ([]))
  have hKq18 : gK (lfp cs n σ (wof none none (nPa (gN σ i))) ([])).1 = gK σ := lfp_K.trans (rfl : gK σ = gK σ)
  have hTq18 : gT (lfp cs n σ (wof none none (nPa (gN σ i))) ([])).1 = gT σ := lfp_T.trans (rfl : gT σ = gT σ)
  have hZq18 : gZ (lfp cs n σ (wof none none (nPa (gN σ i))) ([])).1 = gZ σ := lfp_Z.trans (rfl : gZ σ = gZ σ)
  obtain ⟨⟨sq18, pq18, lq18⟩, hRq18⟩ : ∃ R : Sg × List Nat × List Nat, lfp cs n σ (wof none none (nPa (gN σ i))) ([]) = R := ⟨_, rfl⟩
  rw [hRq18] at hw_16 hSq18 hMq18 hNq18 hKq18 hTq18 hZq18 hEq18
  dsimp only at hw_16 hSq18 hMq18 hNq18 hKq18 hTq18 hZq18 hEq18
  obtain ⟨v_19, v_20, v_21, v_22, v_23⟩ := hw_16
  show V K 0 0 P A g_15 [(0, .ref (A (w + 15000))), (1, .ref (A (w + 100 + 100 * i))), (2, .int (nI t)), (3, .int (nI n))] 24 []
  have hl5 : (lq18).length ≤ 5 := by simp at hEq18; omega
  refine g_aload_n (pc := 24) C dX8_answerMix_24 0 rfl ?_
  refine g_get (pc := 25) C (j := 0) v_19 rfl rfl (by decide) u_300 dX8_answerMix_25 ?_
  refine g_aload_n (pc := 28) C dX8_answerMix_28 1 rfl ?_
  refine g_get (pc := 29) C (j := 0) (WD.nd (i := i) v_20 (by omega)).1 rfl rfl (by decide) u_131 dX8_answerMix_29 ?_
  refine g_iload_n (pc := 32) C dX8_answerMix_32 2 rfl ?_
  refine g_bipush (pc := 33) C dX8_answerMix_33 (v := nI 8) rfl ?_
  refine g_iconst (pc := 35) C dX8_answerMix_35 (v := nI 0) rfl ?_
  refine g_iconst (pc := 36) C dX8_answerMix_36 (v := nI 0) rfl ?_
  refine g_aload_n (pc := 37) C dX8_answerMix_37 0 rfl ?_
  refine g_get (pc := 38) C (j := 3) v_19 rfl rfl (by decide) u_303 dX8_answerMix_38 ?_
  refine g_callV (pc := 41) C (As := [.int (nI i), .int (nI t), .int (nI 8), .int (nI 0), .int (nI 0), .ref (A (w + 15003))]) (rest := []) (b := w) (c_X9_sendList A P g_15 w i t 8 0 0 (w + 15003) (by omega) (by omega) (by omega) (by omega) (by omega) (by omega) v_20 v_23 (by omega)) (WD.wb v_20).1 rfl rfl Y_X9_sendList u_494 N_X9_sendList ⟨by decide, by decide⟩ ⟨by decide, by decide⟩ (Nat.le_of_ble_eq_true rfl) rfl dX8_answerMix_41 ?_
  rintro _ _ _ g_24 ⟨rfl, rfl, rfl, hW_25, hf_26⟩
  have hf_27 : Fr g_15 g_24 (w + 3) (w + 3500) := FrR.fr hf_26
  have h_28 := hf_27.at (by omega) v_19
  have hp_29 := CO.fr v_21 hf_27 (by omega)
  have hp_30 := NLN.fr v_22 hf_27 (by omega)
  have hp_31 := NLN.fr v_23 hf_27 (by omega)
  obtain ⟨σ32, hσ32⟩ : ∃ sM : Sg, sM = snd sq18 i t 8 0 0 lq18 := ⟨_, rfl⟩
  have hW_33 : WD A g_24 w (w + 15005) σ32 := by rw [hσ32]; exact hW_25
  clear hW_25
  have hK_σ32 : gK σ32 = gK σ := (congrArg gK hσ32).trans (snd_K.trans hKq18)
  have hT_σ32 : gT σ32 = gT σ := (congrArg gT hσ32).trans (snd_T.trans hTq18)
  have hZ_σ32 : gZ σ32 = gZ σ := (congrArg gZ hσ32).trans (snd_Z.trans hZq18)
  show V K 0 0 P A g_24 [(0, .ref (A (w + 15000))), (1, .ref (A (w + 100 + 100 * i))), (2, .int (nI t)), (3, .int (nI n))] 44 []
  exact g_vret (pc := 44) C R ⟨rfl, rfl, rfl, by rw [show ansS cs σ i t n = σ32 from by rw [hσ32]; simp only [ansS, hRq18]]; exact ⟨_, _, ⟨h_28, hW_33, hp_29, hp_30, hp_31⟩⟩, fun k hk => by rw [hf_26 k (by omega), hf_17 k (by omega), hf_10 k (by omega), hf_3 k (by omega)]⟩ (by decide) (by decide) dX8_answerMix_44
abbrev rm_X8_onMix : Room := { frames := 5, cells := 0, slots := 0, locals := 121 }
theorem Y_X8_onMix : pY yX8_onMix cX8_onMix 4 (Option.none : Option Jvm.ClassFile.FieldType) := ⟨u_652, u_653, u_11, u_654⟩
theorem N_X8_onMix : yX8_onMix.cls ≠ "java/lang/invoke/MethodHandle" ∧ yX8_onMix.cls ≠ "java/lang/invoke/VarHandle" ∧ (parseMethodDescriptor yX8_onMix.desc).map (fun d => d.parameters.length) = some 2 := by decide +kernel
set_option maxRecDepth 20000 in
set_option maxHeartbeats 4000000 in
theorem c_X8_onMix (A : Nat → Nat) (P : List Nat) (g : pM) (w : Nat) {B : Nat} {cs : List Nat} {σ : Sg} {pl ll : List Nat} (i s x y r0 k0 : Nat) (l : List Nat) (hi : i < gK σ) (hs : s < gK σ) (hx : x < gK σ) (hx24 : x ≤ 24) (hy : y ≤ B + 6) (hl : ∀ q ∈ l, q < gK σ) (hl5 : l.length ≤ 5) (hS : SW B cs σ) (hc : LT A g (w + 6) (s, r0, k0, x, y, l)) (h : VW A g w cs σ pl ll) : PM yX8_onMix cX8_onMix 4 (Option.none : Option Jvm.ClassFile.FieldType) rm_X8_onMix [.ref (A (w + 15000)), .ref (A (w + 100 + 100 * i)), .ref (A (w + 6))] P A g (fun v g' => v = none ∧ (∃ pl' ll', VW A g' w cs (mixS cs σ i s x y l) pl' ll') ∧ FrS g g' w) := by
  obtain ⟨hV, hW, hC, hP, hL⟩ := h
  have hK := hS.2.1
  obtain ⟨hz1, hz2, hz3, hz4, hz5, hz6, hz7, hz8, hz9⟩ := hS.2.2.2.1
  have hB := hS.1
  refine px_intro (by decide +kernel) (Nat.le_of_ble_eq_true rfl) (fun K sz C R => ?_)
  show V K 0 0 P A g [(0, .ref (A (w + 15000))), (1, .ref (A (w + 100 + 100 * i))), (2, .ref (A (w + 6)))] 0 []
  refine g_bipush (pc := 0) C dX8_onMix_0 (v := (-6)) rfl ?_
  refine g_istore_n (pc := 2) C dX8_onMix_2 (by decide) (lv' := [(0, .ref (A (w + 15000))), (1, .ref (A (w + 100 + 100 * i))), (2, .ref (A (w + 6))), (3, .int (-6))]) [1, 2, 3, 0] rfl ?_
  refine g_aload_n (pc := 3) C dX8_onMix_3 2 rfl ?_
  refine g_get (pc := 4) C (j := 4) hc.1 rfl rfl (by decide) u_209 dX8_onMix_4 ?_
  refine g_iconst (pc := 7) C dX8_onMix_7 (v := nI 1) rfl ?_
  refine g_icmp_le (pc := 8) C dX8_onMix_8 (tgt := 32) (by decide) (fun c_8 => ?_) (fun c_8 => ?_)
  ·
    have c_8 : y ≤ 1 := (nI_leI (by omega) (by omega)).mp c_8
    refine g_iload_n (pc := 32) C dX8_onMix_32 3 rfl ?_
    refine g_bipush (pc := 33) C dX8_onMix_33 (v := (-6)) rfl ?_
    refine g_icmp_eq (pc := 35) C dX8_onMix_35 (tgt := 67) (by decide) (fun c_35 => ?_) (fun c_35 => ?_)
    ·
      refine g_aload_n (pc := 67) C dX8_onMix_67 2 rfl ?_
      refine g_get (pc := 68) C (j := 3) hc.1 rfl rfl (by decide) u_206 dX8_onMix_68 ?_
      refine g_aload_n (pc := 71) C dX8_onMix_71 1 rfl ?_
      refine g_get (pc := 72) C (j := 0) (WD.nd (i := i) hW (by omega)).1 rfl rfl (by decide) u_131 dX8_onMix_72 ?_
      refine g_icmp_eq (pc := 75) C dX8_onMix_75 (tgt := 94) (by decide) (fun c_75 => ?_) (fun c_75 => ?_)
      ·
        have c_75 : x = i := (nI_eq (by omega) (by omega)).mp c_75
        refine g_aload_n (pc := 94) C dX8_onMix_94 0 rfl ?_
        refine g_aload_n (pc := 95) C dX8_onMix_95 1 rfl ?_
        refine g_aload_n (pc := 96) C dX8_onMix_96 2 rfl ?_
        refine g_get (pc := 97) C (j := 5) hc.1 rfl rfl (by decide) u_213 dX8_onMix_97 ?_
        refine g_callV (pc := 100) C (As := [.ref (A (w + 100 + 100 * i)), .ref (A (w + 6 + 1))]) (rest := []) (b := (w + 15000)) (c_X8_takeList A P g w i (w + 6 + 1) (by omega) (by omega) (fun z hz => by have e := hl z hz; omega) hS hc.2 ⟨hV, hW, hC, hP, hL⟩) hV rfl rfl Y_X8_takeList u_659 N_X8_takeList ⟨by decide, by decide⟩ ⟨by decide, by decide⟩ (Nat.le_of_ble_eq_true rfl) rfl dX8_onMix_100 ?_
        rintro _ _ _ g_1 ⟨rfl, rfl, rfl, hw_2, hf_3⟩
        obtain ⟨v_4, v_5, v_6, v_7, v_8⟩ := hw_2
        have hp_9 := hc.fr' (fun k k1 k2 => hf_3 k (by omega))
        obtain ⟨σ10, hσ10⟩ : ∃ sM : Sg, sM = tkL cs σ i l := ⟨_, rfl⟩
        have hW_11 : WD A g_1 w (w + 15005) σ10 := by rw [hσ10]; exact v_5
        skip
        have hK_σ10 : gK σ10 = gK σ := (congrArg gK hσ10).trans (tkL_K.trans (rfl : gK σ = gK σ))
        have hT_σ10 : gT σ10 = gT σ := (congrArg gT hσ10).trans (tkL_T.trans (rfl : gT σ = gT σ))
        have hZ_σ10 : gZ σ10 = gZ σ := (congrArg gZ hσ10).trans (tkL_Z.trans (rfl : gZ σ = gZ σ))
        show V K 0 0 P A g_1 [(0, .ref (A (w + 15000))), (1, .ref (A (w + 100 + 100 * i))), (2, .ref (A (w + 6))), (3, .int (-6))] 103 []
        exact g_vret (pc := 103) C R ⟨rfl, rfl, rfl, by rw [mixS_1 (by omega), if_pos c_75, ← hσ10]; exact ⟨_, _, ⟨v_4, hW_11, v_6, v_7, v_8⟩⟩, fun k hk => by rw [hf_3 k (by omega)]⟩ (by decide) (by decide) dX8_onMix_103
      ·
        have c_75 : ¬ x = i := fun h => c_75 ((nI_eq (a := x) (b := i) (by omega) (by omega)).mpr h)
        refine g_aload_n (pc := 78) C dX8_onMix_78 0 rfl ?_
        refine g_aload_n (pc := 79) C dX8_onMix_79 1 rfl ?_
        refine g_aload_n (pc := 80) C dX8_onMix_80 2 rfl ?_
        refine g_get (pc := 81) C (j := 3) hc.1 rfl rfl (by decide) u_206 dX8_onMix_81 ?_
        refine g_aload_n (pc := 84) C dX8_onMix_84 2 rfl ?_
        refine g_get (pc := 85) C (j := 5) hc.1 rfl rfl (by decide) u_213 dX8_onMix_85 ?_
        refine g_get (pc := 88) C (j := 1) (NLN.o hc.2) rfl rfl (by decide) u_95 dX8_onMix_88 ?_
        refine g_callV (pc := 91) C (As := [.ref (A (w + 100 + 100 * i)), .int (nI x), .int (nI l.length)]) (rest := []) (b := (w + 15000)) (c_X8_answerMix A P g w i x l.length (by omega) (by omega) (by omega) hS ⟨hV, hW, hC, hP, hL⟩) hV rfl rfl Y_X8_answerMix u_655 N_X8_answerMix ⟨by decide, by decide⟩ ⟨by decide, by decide⟩ (Nat.le_of_ble_eq_true rfl) rfl dX8_onMix_91 ?_
        rintro _ _ _ g_12 ⟨rfl, rfl, rfl, ⟨plg_12, llg_12, hw_13⟩, hf_14⟩
        obtain ⟨v_15, v_16, v_17, v_18, v_19⟩ := hw_13
        have hp_20 := hc.fr' (fun k k1 k2 => hf_14 k (by omega))
        obtain ⟨σ21, hσ21⟩ : ∃ sM : Sg, sM = ansS cs σ i x l.length := ⟨_, rfl⟩
        have hW_22 : WD A g_12 w (w + 15005) σ21 := by rw [hσ21]; exact v_16
        skip
        have hK_σ21 : gK σ21 = gK σ := (congrArg gK hσ21).trans (ansS_K.trans (rfl : gK σ = gK σ))
        have hT_σ21 : gT σ21 = gT σ := (congrArg gT hσ21).trans (ansS_T.trans (rfl : gT σ = gT σ))
        have hZ_σ21 : gZ σ21 = gZ σ := (congrArg gZ hσ21).trans (ansS_Z.trans (rfl : gZ σ = gZ σ))
        show V K 0 0 P A g_12 [(0, .ref (A (w + 15000))), (1, .ref (A (w + 100 + 100 * i))), (2, .ref (A (w + 6))), (3, .int (-6))] 94 []
        have hS_23 : SW B cs (σ21) := by rw [hσ21]; exact SW.ansS hS (by omega) (by omega) (by omega)
        refine g_aload_n (pc := 94) C dX8_onMix_94 0 rfl ?_
        refine g_aload_n (pc := 95) C dX8_onMix_95 1 rfl ?_
        refine g_aload_n (pc := 96) C dX8_onMix_96 2 rfl ?_
        refine g_get (pc := 97) C (j := 5) hp_20.1 rfl rfl (by decide) u_213 dX8_onMix_97 ?_
        refine g_callV (pc := 100) C (As := [.ref (A (w + 100 + 100 * i)), .ref (A (w + 6 + 1))]) (rest := []) (b := (w + 15000)) (c_X8_takeList A P g_12 w i (w + 6 + 1) (by omega) (by omega) (fun z hz => by have e := hl z hz; omega) hS_23 hp_20.2 ⟨v_15, hW_22, v_17, v_18, v_19⟩) v_15 rfl rfl Y_X8_takeList u_659 N_X8_takeList ⟨by decide, by decide⟩ ⟨by decide, by decide⟩ (Nat.le_of_ble_eq_true rfl) rfl dX8_onMix_100 ?_
        rintro _ _ _ g_24 ⟨rfl, rfl, rfl, hw_25, hf_26⟩
        obtain ⟨v_27, v_28, v_29, v_30, v_31⟩ := hw_25
        have hp_32 := hp_20.fr' (fun k k1 k2 => hf_26 k (by omega))
        obtain ⟨σ33, hσ33⟩ : ∃ sM : Sg, sM = tkL cs σ21 i l := ⟨_, rfl⟩
        have hW_34 : WD A g_24 w (w + 15005) σ33 := by rw [hσ33]; exact v_28
        skip
        have hK_σ33 : gK σ33 = gK σ := (congrArg gK hσ33).trans (tkL_K.trans hK_σ21)
        have hT_σ33 : gT σ33 = gT σ := (congrArg gT hσ33).trans (tkL_T.trans hT_σ21)
        have hZ_σ33 : gZ σ33 = gZ σ := (congrArg gZ hσ33).trans (tkL_Z.trans hZ_σ21)
        show V K 0 0 P A g_24 [(0, .ref (A (w + 15000))), (1, .ref (A (w + 100 + 100 * i))), (2, .ref (A (w + 6))), (3, .int (-6))] 103 []
        exact g_vret (pc := 103) C R ⟨rfl, rfl, rfl, by rw [mixS_1 (by omega), if_neg c_75, ← hσ21, ← hσ33]; exact ⟨_, _, ⟨v_27, hW_34, v_29, v_30, v_31⟩⟩, fun k hk => by rw [hf_26 k (by omega), hf_14 k (by omega)]⟩ (by decide) (by decide) dX8_onMix_103
    ·
      exact absurd rfl c_35
  ·
    have c_8 : ¬ y ≤ 1 := fun h => c_8 ((nI_leI (a := y) (b := 1) (by omega) (by omega)).mpr h)
    refine g_aload_n (pc := 11) C dX8_onMix_11 0 rfl ?_
    refine g_aload_n (pc := 12) C dX8_onMix_12 1 rfl ?_
    refine g_get (pc := 13) C (j := 2) (WD.nd (i := i) hW (by omega)).1 rfl rfl (by decide) u_139 dX8_onMix_13 ?_
    refine g_aload_n (pc := 16) C dX8_onMix_16 2 rfl ?_
    refine g_get (pc := 17) C (j := 0) hc.1 rfl rfl (by decide) u_196 dX8_onMix_17 ?_
    refine g_aload_n (pc := 20) C dX8_onMix_20 2 rfl ?_
    refine g_get (pc := 21) C (j := 3) hc.1 rfl rfl (by decide) u_206 dX8_onMix_21 ?_
    refine g_callV (pc := 24) C (As := [.ref (A (w + 100 + 100 * i + 1)), .int (nI s), .int (nI x)]) (rest := []) (b := (w + 15000)) (c_X8_fillPool A P g w (w + 100 + 100 * i + 1) (some s) (some x) (fun _ h => by cases h <;> omega) (fun _ h => by cases h <;> omega) (by omega) (by have := (WD.nd (i := i) hW (by omega)).2.1.le; omega) hV hP (WD.nd (i := i) hW (by omega)).2.1) hV rfl rfl Y_X8_fillPool u_457 N_X8_fillPool ⟨by decide, by decide⟩ ⟨by decide, by decide⟩ (Nat.le_of_ble_eq_true rfl) rfl dX8_onMix_24 ?_
    rintro _ _ _ g_35 ⟨rfl, rfl, rfl, hn_36, hf_37⟩
    have h_38 := hf_37.at (by omega) hV
    have hp_39 := WD.fr hW hf_37 (by omega)
    have hp_40 := CO.fr hC hf_37 (by omega)
    have hp_41 := NLN.fr hL hf_37 (by omega)
    have hp_42 := LT.fr hc hf_37 (by omega)
    show V K 0 0 P A g_35 [(0, .ref (A (w + 15000))), (1, .ref (A (w + 100 + 100 * i))), (2, .ref (A (w + 6))), (3, .int (-6))] 27 []
    refine g_aload_n (pc := 27) C dX8_onMix_27 0 rfl ?_
    refine g_callV (pc := 28) C (As := []) (rest := []) (b := (w + 15000)) (c_X8_drawOfPool A P g_35 w hS h_38 hp_39 hp_40 hn_36) h_38 rfl rfl Y_X8_drawOfPool u_470 N_X8_drawOfPool ⟨by decide, by decide⟩ ⟨by decide, by decide⟩ (Nat.le_of_ble_eq_true rfl) rfl dX8_onMix_28 ?_
    rintro _ _ _ g_43 ⟨rfl, rfl, rfl, hW_44, hn_45, hf_46, hf_47⟩
    have hp_48 := CO.fr hp_40 hf_46 (by omega)
    have hp_49 := NLN.fr hp_41 hf_46 (by omega)
    obtain ⟨σ50, hσ50⟩ : ∃ sM : Sg, sM = dS cs σ (wof (some s) (some x) (nAc (gN σ i))).length := ⟨_, rfl⟩
    have hW_51 : WD A g_43 w (w + 15005) σ50 := by rw [hσ50]; exact hW_44
    clear hW_44
    have hK_σ50 : gK σ50 = gK σ := (congrArg gK hσ50).trans (dS_K.trans (rfl : gK σ = gK σ))
    have hT_σ50 : gT σ50 = gT σ := (congrArg gT hσ50).trans (dS_T.trans (rfl : gT σ = gT σ))
    have hZ_σ50 : gZ σ50 = gZ σ := (congrArg gZ hσ50).trans (dS_Z.trans (rfl : gZ σ = gZ σ))
    have hp_52 := hp_42.fr' (fun k k1 k2 => hf_47 k (by omega))
    have h_53 := (hf_47 (w + 15000) (by omega)).trans h_38
    show V K 0 0 P A g_43 [(0, .ref (A (w + 15000))), (1, .ref (A (w + 100 + 100 * i))), (2, .ref (A (w + 6))), (3, .int (-6))] 31 [.int (onv (dpV cs σ (wof (some s) (some x) (nAc (gN σ i)))))]
    refine g_istore_n (pc := 31) C dX8_onMix_31 (by decide) (lv' := [(0, .ref (A (w + 15000))), (1, .ref (A (w + 100 + 100 * i))), (2, .ref (A (w + 6))), (3, .int (onv (dpV cs σ (wof (some s) (some x) (nAc (gN σ i))))))]) [1, 2, 3, 0] rfl ?_
    have hS_54 : SW B cs (σ50) := by rw [hσ50]; exact SW.drw hS
    refine g_iload_n (pc := 32) C dX8_onMix_32 3 rfl ?_
    refine g_bipush (pc := 33) C dX8_onMix_33 (v := (-6)) rfl ?_
    refine g_icmp_eq (pc := 35) C dX8_onMix_35 (tgt := 67) (by decide) (fun c_35 => ?_) (fun c_35 => ?_)
    ·
      have hnv : (dpV cs σ (wof (some s) (some x) (nAc (gN σ i)))) = none := (onv_none (dpV_b (fun z hz => by have e := (SW.nw hS (i := i) (by omega)).2.1 z (wof_mem hz); omega))).mp c_35
      refine g_aload_n (pc := 67) C dX8_onMix_67 2 rfl ?_
      refine g_get (pc := 68) C (j := 3) hp_52.1 rfl rfl (by decide) u_206 dX8_onMix_68 ?_
      refine g_aload_n (pc := 71) C dX8_onMix_71 1 rfl ?_
      refine g_get (pc := 72) C (j := 0) (WD.nd (i := i) hW_51 (by omega)).1 rfl rfl (by decide) u_131 dX8_onMix_72 ?_
      refine g_icmp_eq (pc := 75) C dX8_onMix_75 (tgt := 94) (by decide) (fun c_75 => ?_) (fun c_75 => ?_)
      ·
        have c_75 : x = i := (nI_eq (by omega) (by omega)).mp c_75
        refine g_aload_n (pc := 94) C dX8_onMix_94 0 rfl ?_
        refine g_aload_n (pc := 95) C dX8_onMix_95 1 rfl ?_
        refine g_aload_n (pc := 96) C dX8_onMix_96 2 rfl ?_
        refine g_get (pc := 97) C (j := 5) hp_52.1 rfl rfl (by decide) u_213 dX8_onMix_97 ?_
        refine g_callV (pc := 100) C (As := [.ref (A (w + 100 + 100 * i)), .ref (A (w + 6 + 1))]) (rest := []) (b := (w + 15000)) (c_X8_takeList A P g_43 w i (w + 6 + 1) (by omega) (by omega) (fun z hz => by have e := hl z hz; omega) hS_54 hp_52.2 ⟨h_53, hW_51, hp_48, hn_45, hp_49⟩) h_53 rfl rfl Y_X8_takeList u_659 N_X8_takeList ⟨by decide, by decide⟩ ⟨by decide, by decide⟩ (Nat.le_of_ble_eq_true rfl) rfl dX8_onMix_100 ?_
        rintro _ _ _ g_55 ⟨rfl, rfl, rfl, hw_56, hf_57⟩
        obtain ⟨v_58, v_59, v_60, v_61, v_62⟩ := hw_56
        have hp_63 := hp_52.fr' (fun k k1 k2 => hf_57 k (by omega))
        obtain ⟨σ64, hσ64⟩ : ∃ sM : Sg, sM = tkL cs σ50 i l := ⟨_, rfl⟩
        have hW_65 : WD A g_55 w (w + 15005) σ64 := by rw [hσ64]; exact v_59
        skip
        have hK_σ64 : gK σ64 = gK σ := (congrArg gK hσ64).trans (tkL_K.trans hK_σ50)
        have hT_σ64 : gT σ64 = gT σ := (congrArg gT hσ64).trans (tkL_T.trans hT_σ50)
        have hZ_σ64 : gZ σ64 = gZ σ := (congrArg gZ hσ64).trans (tkL_Z.trans hZ_σ50)
        show V K 0 0 P A g_55 [(0, .ref (A (w + 15000))), (1, .ref (A (w + 100 + 100 * i))), (2, .ref (A (w + 6))), (3, .int (onv (dpV cs σ (wof (some s) (some x) (nAc (gN σ i))))))] 103 []
        exact g_vret (pc := 103) C R ⟨rfl, rfl, rfl, by rw [mixS_n (by omega) hnv hσ50, if_pos c_75, ← hσ64]; exact ⟨_, _, ⟨v_58, hW_65, v_60, v_61, v_62⟩⟩, fun k hk => by rw [hf_57 k (by omega), hf_47 k (by omega), hf_37 k (by omega)]⟩ (by decide) (by decide) dX8_onMix_103
      ·
        have c_75 : ¬ x = i := fun h => c_75 ((nI_eq (a := x) (b := i) (by omega) (by omega)).mpr h)
        refine g_aload_n (pc := 78) C dX8_onMix_78 0 rfl ?_
        refine g_aload_n (pc := 79) C dX8_onMix_79 1 rfl ?_
        refine g_aload_n (pc := 80) C dX8_onMix_80 2 rfl ?_
        refine g_get (pc := 81) C (j := 3) hp_52.1 rfl rfl (by decide) u_206 dX8_onMix_81 ?_
        refine g_aload_n (pc := 84) C dX8_onMix_84 2 rfl ?_
        refine g_get (pc := 85) C (j := 5) hp_52.1 rfl rfl (by decide) u_213 dX8_onMix_85 ?_
        refine g_get (pc := 88) C (j := 1) (NLN.o hp_52.2) rfl rfl (by decide) u_95 dX8_onMix_88 ?_
        refine g_callV (pc := 91) C (As := [.ref (A (w + 100 + 100 * i)), .int (nI x), .int (nI l.length)]) (rest := []) (b := (w + 15000)) (c_X8_answerMix A P g_43 w i x l.length (by omega) (by omega) (by omega) hS_54 ⟨h_53, hW_51, hp_48, hn_45, hp_49⟩) h_53 rfl rfl Y_X8_answerMix u_655 N_X8_answerMix ⟨by decide, by decide⟩ ⟨by decide, by decide⟩ (Nat.le_of_ble_eq_true rfl) rfl dX8_onMix_91 ?_
        rintro _ _ _ g_66 ⟨rfl, rfl, rfl, ⟨plg_66, llg_66, hw_67⟩, hf_68⟩
        obtain ⟨v_69, v_70, v_71, v_72, v_73⟩ := hw_67
        have hp_74 := hp_52.fr' (fun k k1 k2 => hf_68 k (by omega))
        obtain ⟨σ75, hσ75⟩ : ∃ sM : Sg, sM = ansS cs σ50 i x l.length := ⟨_, rfl⟩
        have hW_76 : WD A g_66 w (w + 15005) σ75 := by rw [hσ75]; exact v_70
        skip
        have hK_σ75 : gK σ75 = gK σ := (congrArg gK hσ75).trans (ansS_K.trans hK_σ50)
        have hT_σ75 : gT σ75 = gT σ := (congrArg gT hσ75).trans (ansS_T.trans hT_σ50)
        have hZ_σ75 : gZ σ75 = gZ σ := (congrArg gZ hσ75).trans (ansS_Z.trans hZ_σ50)
        show V K 0 0 P A g_66 [(0, .ref (A (w + 15000))), (1, .ref (A (w + 100 + 100 * i))), (2, .ref (A (w + 6))), (3, .int (onv (dpV cs σ (wof (some s) (some x) (nAc (gN σ i))))))] 94 []
        have hS_77 : SW B cs (σ75) := by rw [hσ75]; exact SW.ansS hS_54 (by omega) (by omega) (by omega)
        refine g_aload_n (pc := 94) C dX8_onMix_94 0 rfl ?_
        refine g_aload_n (pc := 95) C dX8_onMix_95 1 rfl ?_
        refine g_aload_n (pc := 96) C dX8_onMix_96 2 rfl ?_
        refine g_get (pc := 97) C (j := 5) hp_74.1 rfl rfl (by decide) u_213 dX8_onMix_97 ?_
        refine g_callV (pc := 100) C (As := [.ref (A (w + 100 + 100 * i)), .ref (A (w + 6 + 1))]) (rest := []) (b := (w + 15000)) (c_X8_takeList A P g_66 w i (w + 6 + 1) (by omega) (by omega) (fun z hz => by have e := hl z hz; omega) hS_77 hp_74.2 ⟨v_69, hW_76, v_71, v_72, v_73⟩) v_69 rfl rfl Y_X8_takeList u_659 N_X8_takeList ⟨by decide, by decide⟩ ⟨by decide, by decide⟩ (Nat.le_of_ble_eq_true rfl) rfl dX8_onMix_100 ?_
        rintro _ _ _ g_78 ⟨rfl, rfl, rfl, hw_79, hf_80⟩
        obtain ⟨v_81, v_82, v_83, v_84, v_85⟩ := hw_79
        have hp_86 := hp_74.fr' (fun k k1 k2 => hf_80 k (by omega))
        obtain ⟨σ87, hσ87⟩ : ∃ sM : Sg, sM = tkL cs σ75 i l := ⟨_, rfl⟩
        have hW_88 : WD A g_78 w (w + 15005) σ87 := by rw [hσ87]; exact v_82
        skip
        have hK_σ87 : gK σ87 = gK σ := (congrArg gK hσ87).trans (tkL_K.trans hK_σ75)
        have hT_σ87 : gT σ87 = gT σ := (congrArg gT hσ87).trans (tkL_T.trans hT_σ75)
        have hZ_σ87 : gZ σ87 = gZ σ := (congrArg gZ hσ87).trans (tkL_Z.trans hZ_σ75)
        show V K 0 0 P A g_78 [(0, .ref (A (w + 15000))), (1, .ref (A (w + 100 + 100 * i))), (2, .ref (A (w + 6))), (3, .int (onv (dpV cs σ (wof (some s) (some x) (nAc (gN σ i))))))] 103 []
        exact g_vret (pc := 103) C R ⟨rfl, rfl, rfl, by rw [mixS_n (by omega) hnv hσ50, if_neg c_75, ← hσ75, ← hσ87]; exact ⟨_, _, ⟨v_81, hW_88, v_83, v_84, v_85⟩⟩, fun k hk => by rw [hf_80 k (by omega), hf_68 k (by omega), hf_47 k (by omega), hf_37 k (by omega)]⟩ (by decide) (by decide) dX8_onMix_103
    ·
      obtain ⟨q, hq⟩ : ∃ q, (dpV cs σ (wof (some s) (some x) (nAc (gN σ i)))) = some q := by cases e : (dpV cs σ (wof (some s) (some x) (nAc (gN σ i)))); exact absurd ((onv_none (dpV_b (fun z hz => by have e := (SW.nw hS (i := i) (by omega)).2.1 z (wof_mem hz); omega))).mpr e) c_35; exact ⟨_, rfl⟩
      have hqK : q < gK σ := by have e := (SW.nw hS (i := i) (by omega)).2.1 q (wof_mem (dpV_mem hq).1); omega
      rw [hq]
      show V K 0 0 P A g_43 [(0, .ref (A (w + 15000))), (1, .ref (A (w + 100 + 100 * i))), (2, .ref (A (w + 6))), (3, .int (nI q))] 38 []
      refine g_aload_n (pc := 38) C dX8_onMix_38 0 rfl ?_
      refine g_get (pc := 39) C (j := 0) h_53 rfl rfl (by decide) u_300 dX8_onMix_39 ?_
      refine g_aload_n (pc := 42) C dX8_onMix_42 1 rfl ?_
      refine g_get (pc := 43) C (j := 0) (WD.nd (i := i) hW_51 (by omega)).1 rfl rfl (by decide) u_131 dX8_onMix_43 ?_
      refine g_iload_n (pc := 46) C dX8_onMix_46 3 rfl ?_
      refine g_bipush (pc := 47) C dX8_onMix_47 (v := nI 7) rfl ?_
      refine g_aload_n (pc := 49) C dX8_onMix_49 2 rfl ?_
      refine g_get (pc := 50) C (j := 3) hp_52.1 rfl rfl (by decide) u_206 dX8_onMix_50 ?_
      refine g_aload_n (pc := 53) C dX8_onMix_53 2 rfl ?_
      refine g_get (pc := 54) C (j := 4) hp_52.1 rfl rfl (by decide) u_209 dX8_onMix_54 ?_
      refine g_iconst (pc := 57) C dX8_onMix_57 (v := nI 1) rfl ?_
      refine g_isub (pc := 58) C dX8_onMix_58 (z := nI (y - 1)) (pk_sub (a := y) (b := 1) (by omega)) ?_
      refine g_aload_n (pc := 59) C dX8_onMix_59 2 rfl ?_
      refine g_get (pc := 60) C (j := 5) hp_52.1 rfl rfl (by decide) u_213 dX8_onMix_60 ?_
      refine g_callV (pc := 63) C (As := [.int (nI i), .int (nI q), .int (nI 7), .int (nI x), .int (nI (y - 1)), .ref (A (w + 6 + 1))]) (rest := []) (b := w) (c_X9_sendList A P g_43 w i q 7 x (y - 1) (w + 6 + 1) (by omega) (by omega) (by omega) (by omega) (by omega) (by omega) hW_51 hp_52.2 (by omega)) (WD.wb hW_51).1 rfl rfl Y_X9_sendList u_494 N_X9_sendList ⟨by decide, by decide⟩ ⟨by decide, by decide⟩ (Nat.le_of_ble_eq_true rfl) rfl dX8_onMix_63 ?_
      rintro _ _ _ g_89 ⟨rfl, rfl, rfl, hW_90, hf_91⟩
      have hf_92 : Fr g_43 g_89 (w + 3) (w + 3500) := FrR.fr hf_91
      have h_93 := hf_92.at (by omega) h_53
      have hp_94 := CO.fr hp_48 hf_92 (by omega)
      have hp_95 := NLN.fr hp_49 hf_92 (by omega)
      have hp_96 := NLN.fr hn_45 hf_92 (by omega)
      obtain ⟨σ97, hσ97⟩ : ∃ sM : Sg, sM = snd σ50 i q 7 x (y - 1) l := ⟨_, rfl⟩
      have hW_98 : WD A g_89 w (w + 15005) σ97 := by rw [hσ97]; exact hW_90
      clear hW_90
      have hK_σ97 : gK σ97 = gK σ := (congrArg gK hσ97).trans (snd_K.trans hK_σ50)
      have hT_σ97 : gT σ97 = gT σ := (congrArg gT hσ97).trans (snd_T.trans hT_σ50)
      have hZ_σ97 : gZ σ97 = gZ σ := (congrArg gZ hσ97).trans (snd_Z.trans hZ_σ50)
      show V K 0 0 P A g_89 [(0, .ref (A (w + 15000))), (1, .ref (A (w + 100 + 100 * i))), (2, .ref (A (w + 6))), (3, .int (nI q))] 66 []
      exact g_vret (pc := 66) C R ⟨rfl, rfl, rfl, by rw [mixS_s (by omega) hq, ← hσ50, ← hσ97]; exact ⟨_, _, ⟨h_93, hW_98, hp_94, hp_96, hp_95⟩⟩, fun k hk => by rw [hf_91 k (by omega), hf_47 k (by omega), hf_37 k (by omega)]⟩ (by decide) (by decide) dX8_onMix_66
abbrev rm_X8_beginMix : Room := { frames := 4, cells := 0, slots := 0, locals := 98 }
theorem Y_X8_beginMix : pY yX8_beginMix cX8_beginMix 3 (Option.some Jvm.ClassFile.FieldType.int) := ⟨u_454, u_455, u_11, u_456⟩
theorem N_X8_beginMix : yX8_beginMix.cls ≠ "java/lang/invoke/MethodHandle" ∧ yX8_beginMix.cls ≠ "java/lang/invoke/VarHandle" ∧ (parseMethodDescriptor yX8_beginMix.desc).map (fun d => d.parameters.length) = some 1 := by decide +kernel
set_option maxRecDepth 20000 in
set_option maxHeartbeats 4000000 in
theorem c_X8_beginMix (A : Nat → Nat) (P : List Nat) (g : pM) (w : Nat) {B : Nat} {cs : List Nat} {σ : Sg} {pl ll : List Nat} (i : Nat) (hi : i < gK σ) (hS : SW B cs σ) (h : VW A g w cs σ pl ll) : PM yX8_beginMix cX8_beginMix 3 (Option.some Jvm.ClassFile.FieldType.int) rm_X8_beginMix [.ref (A (w + 15000)), .ref (A (w + 100 + 100 * i))] P A g (fun v g' => v = some (.int (match (bgm cs σ i).1 with | none => -5 | some q => nI q)) ∧ (∃ pl' ll', VW A g' w cs (bgm cs σ i).2 pl' ll') ∧ FrS g g' w) := by
  obtain ⟨hV, hW, hC, hP, hL⟩ := h
  have hK := hS.2.1
  obtain ⟨hz1, hz2, hz3, hz4, hz5, hz6, hz7, hz8, hz9⟩ := hS.2.2.2.1
  refine px_intro (by decide +kernel) (Nat.le_of_ble_eq_true rfl) (fun K sz C R => ?_)
  show V K 0 0 P A g [(0, .ref (A (w + 15000))), (1, .ref (A (w + 100 + 100 * i)))] 0 []
  refine g_aload_n (pc := 0) C dX8_beginMix_0 0 rfl ?_
  refine g_aload_n (pc := 1) C dX8_beginMix_1 1 rfl ?_
  refine g_get (pc := 2) C (j := 2) (WD.nd (i := i) hW (by omega)).1 rfl rfl (by decide) u_139 dX8_beginMix_2 ?_
  refine g_bipush (pc := 5) C dX8_beginMix_5 (v := (-6)) rfl ?_
  refine g_bipush (pc := 7) C dX8_beginMix_7 (v := (-6)) rfl ?_
  refine g_callV (pc := 9) C (As := [.ref (A (w + 100 + 100 * i + 1)), .int (-6), .int (-6)]) (rest := []) (b := (w + 15000)) (c_X8_fillPool A P g w (w + 100 + 100 * i + 1) none none (fun _ h => by cases h <;> omega) (fun _ h => by cases h <;> omega) (by omega) (by have := (WD.nd (i := i) hW (by omega)).2.1.le; omega) hV hP (WD.nd (i := i) hW (by omega)).2.1) hV rfl rfl Y_X8_fillPool u_457 N_X8_fillPool ⟨by decide, by decide⟩ ⟨by decide, by decide⟩ (Nat.le_of_ble_eq_true rfl) rfl dX8_beginMix_9 ?_
  rintro _ _ _ g_1 ⟨rfl, rfl, rfl, hn_2, hf_3⟩
  have h_4 := hf_3.at (by omega) hV
  have hp_5 := WD.fr hW hf_3 (by omega)
  have hp_6 := CO.fr hC hf_3 (by omega)
  have hp_7 := NLN.fr hL hf_3 (by omega)
  show V K 0 0 P A g_1 [(0, .ref (A (w + 15000))), (1, .ref (A (w + 100 + 100 * i)))] 12 []
  refine g_aload_n (pc := 12) C dX8_beginMix_12 0 rfl ?_
  refine g_callV (pc := 13) C (As := []) (rest := []) (b := (w + 15000)) (c_X8_drawOfPool A P g_1 w hS h_4 hp_5 hp_6 hn_2) h_4 rfl rfl Y_X8_drawOfPool u_470 N_X8_drawOfPool ⟨by decide, by decide⟩ ⟨by decide, by decide⟩ (Nat.le_of_ble_eq_true rfl) rfl dX8_beginMix_13 ?_
  rintro _ _ _ g_8 ⟨rfl, rfl, rfl, hW_9, hn_10, hf_11, hf_12⟩
  have hp_13 := CO.fr hp_6 hf_11 (by omega)
  have hp_14 := NLN.fr hp_7 hf_11 (by omega)
  obtain ⟨σ15, hσ15⟩ : ∃ sM : Sg, sM = dS cs σ (wof none none (nAc (gN σ i))).length := ⟨_, rfl⟩
  have hW_16 : WD A g_8 w (w + 15005) σ15 := by rw [hσ15]; exact hW_9
  clear hW_9
  have hK_σ15 : gK σ15 = gK σ := (congrArg gK hσ15).trans (dS_K.trans (rfl : gK σ = gK σ))
  have hT_σ15 : gT σ15 = gT σ := (congrArg gT hσ15).trans (dS_T.trans (rfl : gT σ = gT σ))
  have hZ_σ15 : gZ σ15 = gZ σ := (congrArg gZ hσ15).trans (dS_Z.trans (rfl : gZ σ = gZ σ))
  have h_17 := (hf_12 (w + 15000) (by omega)).trans h_4
  show V K 0 0 P A g_8 [(0, .ref (A (w + 15000))), (1, .ref (A (w + 100 + 100 * i)))] 16 [.int (onv (dpV cs σ (wof none none (nAc (gN σ i)))))]
  refine g_istore_n (pc := 16) C dX8_beginMix_16 (by decide) (lv' := [(0, .ref (A (w + 15000))), (1, .ref (A (w + 100 + 100 * i))), (2, .int (onv (dpV cs σ (wof none none (nAc (gN σ i))))))]) [1, 2, 0] rfl ?_
  have hS_18 : SW B cs (σ15) := by rw [hσ15]; exact SW.drw hS
  refine g_iload_n (pc := 17) C dX8_beginMix_17 2 rfl ?_
  refine g_bipush (pc := 18) C dX8_beginMix_18 (v := (-6)) rfl ?_
  refine g_icmp_ne (pc := 20) C dX8_beginMix_20 (tgt := 26) (by decide) (fun c_20 => ?_) (fun c_20 => ?_)
  ·
    obtain ⟨q, hq⟩ : ∃ q, (dpV cs σ (wof none none (nAc (gN σ i)))) = some q := by cases e : (dpV cs σ (wof none none (nAc (gN σ i)))); exact absurd ((onv_none (dpV_b (fun z hz => by have e := (SW.nw hS (i := i) (by omega)).2.1 z (wof_mem hz); omega))).mpr e) c_20; exact ⟨_, rfl⟩
    have hqK : q < gK σ := by have e := (SW.nw hS (i := i) (by omega)).2.1 q (wof_mem (dpV_mem hq).1); omega
    rw [hq]
    show V K 0 0 P A g_8 [(0, .ref (A (w + 15000))), (1, .ref (A (w + 100 + 100 * i))), (2, .int (nI q))] 26 []
    refine g_aload_n (pc := 26) C dX8_beginMix_26 0 rfl ?_
    refine g_get (pc := 27) C (j := 3) h_17 rfl rfl (by decide) u_303 dX8_beginMix_27 ?_
    refine g_callV (pc := 30) C (As := []) (rest := []) (b := (w + 15003)) (n_X4_clear A P g_8 (w + 15003) hp_14) (NLN.o hp_14) rfl rfl Y_X4_clear u_461 N_X4_clear ⟨by decide, by decide⟩ ⟨by decide, by decide⟩ (Nat.le_of_ble_eq_true rfl) rfl dX8_beginMix_30 ?_
    rintro _ _ _ g_19 ⟨rfl, rfl, rfl, hn_20, hf_21⟩
    have h_22 := hf_21.at (by omega) h_17
    have hp_23 := CO.fr hp_13 hf_21 (by omega)
    have hp_24 := WD.fr hW_16 hf_21 (by omega)
    have hp_25 := NLN.fr hn_10 hf_21 (by omega)
    show V K 0 0 P A g_19 [(0, .ref (A (w + 15000))), (1, .ref (A (w + 100 + 100 * i))), (2, .int (nI q))] 33 []
    refine g_aload_n (pc := 33) C dX8_beginMix_33 0 rfl ?_
    refine g_get (pc := 34) C (j := 3) h_22 rfl rfl (by decide) u_303 dX8_beginMix_34 ?_
    refine g_aload_n (pc := 37) C dX8_beginMix_37 1 rfl ?_
    refine g_get (pc := 38) C (j := 0) (WD.nd (i := i) hp_24 (by omega)).1 rfl rfl (by decide) u_131 dX8_beginMix_38 ?_
    refine g_callV (pc := 41) C (As := [.int (nI i)]) (rest := []) (b := (w + 15003)) (n_X4_put A P g_19 (w + 15003) i (by omega) hn_20 (by decide)) (NLN.o hn_20) rfl rfl Y_X4_put u_466 N_X4_put ⟨by decide, by decide⟩ ⟨by decide, by decide⟩ (Nat.le_of_ble_eq_true rfl) rfl dX8_beginMix_41 ?_
    rintro _ _ _ g_26 ⟨rfl, rfl, rfl, hn_27, hf_28⟩
    have h_29 := hf_28.at (by omega) h_22
    have hp_30 := CO.fr hp_23 hf_28 (by omega)
    have hp_31 := WD.fr hp_24 hf_28 (by omega)
    have hp_32 := NLN.fr hp_25 hf_28 (by omega)
    show V K 0 0 P A g_26 [(0, .ref (A (w + 15000))), (1, .ref (A (w + 100 + 100 * i))), (2, .int (nI q))] 44 []
    refine g_aload_n (pc := 44) C dX8_beginMix_44 0 rfl ?_
    refine g_iconst (pc := 45) C dX8_beginMix_45 (v := nI 2) rfl ?_
    refine g_callV (pc := 46) C (As := [.int (nI 2)]) (rest := []) (b := (w + 15000)) (c_X8_listFromPool A P g_26 w 2 (by simp) hS_18 ⟨h_29, hp_31, hp_30, hp_32, hn_27⟩) h_29 rfl rfl Y_X8_listFromPool u_490 N_X8_listFromPool ⟨by decide, by decide⟩ ⟨by decide, by decide⟩ (Nat.le_of_ble_eq_true rfl) rfl dX8_beginMix_46 ?_
    rintro _ _ _ g_33 ⟨rfl, rfl, rfl, hw_34, hf_35⟩
    have hSq36 := lfp_S (n := 2) (p := (dpL cs σ (wof none none (nAc (gN σ i))))) (l := ([] ++ [i])) hS_18
    have hMq36 : ∀ z ∈ (lfp cs 2 σ15 (dpL cs σ (wof none none (nAc (gN σ i)))) ([] ++ [i])).2.2, z < gK σ := lfp_mem (fun z hz => (hS.nw hi).2.1 z (wof_mem (dpL_mem hz))) (fun z hz => by simp at hz; omega)
    have hNq36 : gN (lfp cs 2 σ15 (dpL cs σ (wof none none (nAc (gN σ i)))) ([] ++ [i])).1 = gN σ15 := lfp_N
    have hEq36 := lfp_len (cs := cs) (n := 2) (σ := σ15) (p := (dpL cs σ (wof none none (nAc (gN σ i))))) (l := ([] ++ [i]))
    have hKq36 : gK (lfp cs 2 σ15 (dpL cs σ (wof none none (nAc (gN σ i)))) ([] ++ [i])).1 = gK σ := lfp_K.trans hK_σ15
    have hTq36 : gT (lfp cs 2 σ15 (dpL cs σ (wof none none (nAc (gN σ i)))) ([] ++ [i])).1 = gT σ := lfp_T.trans hT_σ15
    have hZq36 : gZ (lfp cs 2 σ15 (dpL cs σ (wof none none (nAc (gN σ i)))) ([] ++ [i])).1 = gZ σ := lfp_Z.trans hZ_σ15
    obtain ⟨⟨sq36, pq36, lq36⟩, hRq36⟩ : ∃ R : Sg × List Nat × List Nat, lfp cs 2 σ15 (dpL cs σ (wof none none (nAc (gN σ i)))) ([] ++ [i]) = R := ⟨_, rfl⟩
    rw [hRq36] at hw_34 hSq36 hMq36 hNq36 hKq36 hTq36 hZq36 hEq36
    dsimp only at hw_34 hSq36 hMq36 hNq36 hKq36 hTq36 hZq36 hEq36
    obtain ⟨v_37, v_38, v_39, v_40, v_41⟩ := hw_34
    show V K 0 0 P A g_33 [(0, .ref (A (w + 15000))), (1, .ref (A (w + 100 + 100 * i))), (2, .int (nI q))] 49 []
    refine g_aload_n (pc := 49) C dX8_beginMix_49 0 rfl ?_
    refine g_aload_n (pc := 50) C dX8_beginMix_50 1 rfl ?_
    refine g_get (pc := 51) C (j := 3) (WD.nd (i := i) v_38 (by omega)).1 rfl rfl (by decide) u_143 dX8_beginMix_51 ?_
    refine g_bipush (pc := 54) C dX8_beginMix_54 (v := (-6)) rfl ?_
    refine g_bipush (pc := 56) C dX8_beginMix_56 (v := (-6)) rfl ?_
    refine g_callV (pc := 58) C (As := [.ref (A (w + 100 + 100 * i + 3)), .int (-6), .int (-6)]) (rest := []) (b := (w + 15000)) (c_X8_fillPool A P g_33 w (w + 100 + 100 * i + 3) none none (fun _ h => by cases h <;> omega) (fun _ h => by cases h <;> omega) (by omega) (by have := (WD.nd (i := i) v_38 (by omega)).2.2.1.le; omega) v_37 v_40 (WD.nd (i := i) v_38 (by omega)).2.2.1) v_37 rfl rfl Y_X8_fillPool u_457 N_X8_fillPool ⟨by decide, by decide⟩ ⟨by decide, by decide⟩ (Nat.le_of_ble_eq_true rfl) rfl dX8_beginMix_58 ?_
    rintro _ _ _ g_42 ⟨rfl, rfl, rfl, hn_43, hf_44⟩
    have h_45 := hf_44.at (by omega) v_37
    have hp_46 := WD.fr v_38 hf_44 (by omega)
    have hp_47 := CO.fr v_39 hf_44 (by omega)
    have hp_48 := NLN.fr v_41 hf_44 (by omega)
    show V K 0 0 P A g_42 [(0, .ref (A (w + 15000))), (1, .ref (A (w + 100 + 100 * i))), (2, .int (nI q))] 61 []
    refine g_aload_n (pc := 61) C dX8_beginMix_61 0 rfl ?_
    refine g_iconst (pc := 62) C dX8_beginMix_62 (v := nI 2) rfl ?_
    refine g_callV (pc := 63) C (As := [.int (nI 2)]) (rest := []) (b := (w + 15000)) (c_X8_listFromPool A P g_42 w 2 (by simp at hEq36; omega) hSq36 ⟨h_45, hp_46, hp_47, hn_43, hp_48⟩) h_45 rfl rfl Y_X8_listFromPool u_490 N_X8_listFromPool ⟨by decide, by decide⟩ ⟨by decide, by decide⟩ (Nat.le_of_ble_eq_true rfl) rfl dX8_beginMix_63 ?_
    rintro _ _ _ g_49 ⟨rfl, rfl, rfl, hw_50, hf_51⟩
    have hSq52 := lfp_S (n := 2) (p := (wof none none (nPa (gN sq36 i)))) (l := lq36) hSq36
    have hMq52 : ∀ z ∈ (lfp cs 2 sq36 (wof none none (nPa (gN sq36 i))) lq36).2.2, z < gK σ := lfp_mem (fun z hz => by have e := (SW.nw hSq36 (i := i) (by omega)).2.2.1 z (wof_mem hz); omega) (fun z hz => hMq36 z hz)
    have hNq52 : gN (lfp cs 2 sq36 (wof none none (nPa (gN sq36 i))) lq36).1 = gN sq36 := lfp_N
    have hEq52 := lfp_len (cs := cs) (n := 2) (σ := sq36) (p := (wof none none (nPa (gN sq36 i)))) (l := lq36)
    have hKq52 : gK (lfp cs 2 sq36 (wof none none (nPa (gN sq36 i))) lq36).1 = gK σ := lfp_K.trans hKq36
    have hTq52 : gT (lfp cs 2 sq36 (wof none none (nPa (gN sq36 i))) lq36).1 = gT σ := lfp_T.trans hTq36
    have hZq52 : gZ (lfp cs 2 sq36 (wof none none (nPa (gN sq36 i))) lq36).1 = gZ σ := lfp_Z.trans hZq36
    obtain ⟨⟨sq52, pq52, lq52⟩, hRq52⟩ : ∃ R : Sg × List Nat × List Nat, lfp cs 2 sq36 (wof none none (nPa (gN sq36 i))) lq36 = R := ⟨_, rfl⟩
    rw [hRq52] at hw_50 hSq52 hMq52 hNq52 hKq52 hTq52 hZq52 hEq52
    dsimp only at hw_50 hSq52 hMq52 hNq52 hKq52 hTq52 hZq52 hEq52
    obtain ⟨v_53, v_54, v_55, v_56, v_57⟩ := hw_50
    show V K 0 0 P A g_49 [(0, .ref (A (w + 15000))), (1, .ref (A (w + 100 + 100 * i))), (2, .int (nI q))] 66 []
    have hl5 : (lq52).length ≤ 5 := by simp at hEq36; omega
    have hz26 : (gZ sq52).2.2.1 ≤ 6 := by rw [hZq52]; omega
    refine g_aload_n (pc := 66) C dX8_beginMix_66 0 rfl ?_
    refine g_get (pc := 67) C (j := 0) v_53 rfl rfl (by decide) u_300 dX8_beginMix_67 ?_
    refine g_aload_n (pc := 70) C dX8_beginMix_70 1 rfl ?_
    refine g_get (pc := 71) C (j := 0) (WD.nd (i := i) v_54 (by omega)).1 rfl rfl (by decide) u_131 dX8_beginMix_71 ?_
    refine g_iload_n (pc := 74) C dX8_beginMix_74 2 rfl ?_
    refine g_bipush (pc := 75) C dX8_beginMix_75 (v := nI 7) rfl ?_
    refine g_aload_n (pc := 77) C dX8_beginMix_77 1 rfl ?_
    refine g_get (pc := 78) C (j := 0) (WD.nd (i := i) v_54 (by omega)).1 rfl rfl (by decide) u_131 dX8_beginMix_78 ?_
    refine g_aload_n (pc := 81) C dX8_beginMix_81 0 rfl ?_
    refine g_get (pc := 82) C (j := 1) v_53 rfl rfl (by decide) u_301 dX8_beginMix_82 ?_
    refine g_get (pc := 85) C (j := 2) (show g_49 (w + 1) = ob 6 _ from v_54.2.1) rfl rfl (by decide) u_59 dX8_beginMix_85 ?_
    refine g_aload_n (pc := 88) C dX8_beginMix_88 0 rfl ?_
    refine g_get (pc := 89) C (j := 3) v_53 rfl rfl (by decide) u_303 dX8_beginMix_89 ?_
    refine g_callV (pc := 92) C (As := [.int (nI i), .int (nI q), .int (nI 7), .int (nI i), .int (nI (gZ sq52).2.2.1), .ref (A (w + 15003))]) (rest := []) (b := w) (c_X9_sendList A P g_49 w i q 7 i (gZ sq52).2.2.1 (w + 15003) (by omega) (by omega) (by omega) (by omega) (by omega) (by omega) v_54 v_57 (by omega)) (WD.wb v_54).1 rfl rfl Y_X9_sendList u_494 N_X9_sendList ⟨by decide, by decide⟩ ⟨by decide, by decide⟩ (Nat.le_of_ble_eq_true rfl) rfl dX8_beginMix_92 ?_
    rintro _ _ _ g_58 ⟨rfl, rfl, rfl, hW_59, hf_60⟩
    have hf_61 : Fr g_49 g_58 (w + 3) (w + 3500) := FrR.fr hf_60
    have h_62 := hf_61.at (by omega) v_53
    have hp_63 := CO.fr v_55 hf_61 (by omega)
    have hp_64 := NLN.fr v_56 hf_61 (by omega)
    have hp_65 := NLN.fr v_57 hf_61 (by omega)
    obtain ⟨σ66, hσ66⟩ : ∃ sM : Sg, sM = snd sq52 i q 7 i (gZ sq52).2.2.1 lq52 := ⟨_, rfl⟩
    have hW_67 : WD A g_58 w (w + 15005) σ66 := by rw [hσ66]; exact hW_59
    clear hW_59
    have hK_σ66 : gK σ66 = gK σ := (congrArg gK hσ66).trans (snd_K.trans hKq52)
    have hT_σ66 : gT σ66 = gT σ := (congrArg gT hσ66).trans (snd_T.trans hTq52)
    have hZ_σ66 : gZ σ66 = gZ σ := (congrArg gZ hσ66).trans (snd_Z.trans hZq52)
    show V K 0 0 P A g_58 [(0, .ref (A (w + 15000))), (1, .ref (A (w + 100 + 100 * i))), (2, .int (nI q))] 95 []
    refine g_iload_n (pc := 95) C dX8_beginMix_95 2 rfl ?_
    have hb : bgm cs σ i = (some q, σ66) := bgm_s hq hσ15 rfl hRq36 hRq52 (hσ66.trans (by rw [hZq52]))
    exact g_iret (pc := 96) C R ⟨rfl, rfl, by rw [hb], by rw [hb]; exact ⟨_, _, ⟨h_62, hW_67, hp_63, hp_64, hp_65⟩⟩, fun k hk => by rw [hf_60 k (by omega), hf_51 k (by omega), hf_44 k (by omega), hf_35 k (by omega), hf_28 k (by omega), hf_21 k (by omega), hf_12 k (by omega), hf_3 k (by omega)]⟩ (by decide) (by decide) dX8_beginMix_96
  ·
    have hnv : (dpV cs σ (wof none none (nAc (gN σ i)))) = none := (onv_none (dpV_b (fun z hz => by have e := (SW.nw hS (i := i) (by omega)).2.1 z (wof_mem hz); omega))).mp c_20
    refine g_bipush (pc := 23) C dX8_beginMix_23 (v := (-5)) rfl ?_
    exact g_iret (pc := 25) C R ⟨rfl, rfl, by rw [bgm_n hnv], by rw [bgm_n hnv, ← hσ15]; exact ⟨_, _, ⟨h_17, hW_16, hp_13, hn_10, hp_14⟩⟩, fun k hk => by rw [hf_12 k (by omega), hf_3 k (by omega)]⟩ (by decide) (by decide) dX8_beginMix_25
