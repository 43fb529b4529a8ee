-- PART 26: the reference: letters 7 to 11
theorem tel_no {σ : Sg} {i s t h : Nat} (h1 : ¬ s ∈ nAc (gN σ i)) : tel σ i s t h = σ := by simp only [tel, if_pos h1]
theorem tel_y {σ σ1 σ2 : Sg} {i s t h : Nat} (h1 : s ∈ nAc (gN σ i)) (h2 : ¬ nHo (gN σ i) t = none) (e1 : σ1 = lzS σ i s) (e2 : σ2 = snd σ1 i s 11 0 0 []) : tel σ i s t h = σ2 := by
  subst e2 e1
  have h3 : (nHo (gN σ i) t).isSome = true := by
    cases e : nHo (gN σ i) t with
    | none => exact absurd e h2
    | some q => rfl
  simp only [tel, if_neg (fun z : ¬ s ∈ nAc (gN σ i) => z h1), if_pos h3]
theorem tel_n {σ σ1 σ2 : Sg} {i s t h : Nat} (h1 : s ∈ nAc (gN σ i)) (h2 : nHo (gN σ i) t = none) (e1 : σ1 = egS σ i s) (e2 : σ2 = her σ1 i t h (some s)) : tel σ i s t h = σ2 := by
  subst e2 e1
  have h3 : ¬ (nHo (gN σ i) t).isSome = true := by rw [h2]; decide
  simp only [tel, if_neg (fun z : ¬ s ∈ nAc (gN σ i) => z h1), if_neg h3]
theorem nto_no {σ : Sg} {i s t : Nat} (h : ¬ s ∈ nAc (gN σ i) ∨ ¬ nHo (gN σ i) t = none) : nto σ i s t = σ := by
  have h2 : ¬ s ∈ nAc (gN σ i) ∨ (nHo (gN σ i) t).isSome = true := by
    rcases h with h | h
    · exact Or.inl h
    · refine Or.inr ?_
      cases e : nHo (gN σ i) t with
      | none => exact absurd e h
      | some q => rfl
  simp only [nto, if_pos h2]
theorem nto_y {σ : Sg} {i s t : Nat} (h1 : s ∈ nAc (gN σ i)) (h2 : nHo (gN σ i) t = none) : nto σ i s t = miS σ i t (ntm σ (nMi (gN σ i) t) s) := by
  have h3 : ¬ (¬ s ∈ nAc (gN σ i) ∨ (nHo (gN σ i) t).isSome = true) := fun z => by
    rcases z with z | z
    · exact z h1
    · rw [h2] at z; cases z
  simp only [nto, if_neg h3]
  rfl
theorem cho_no {σ : Sg} {i s t y : Nat} (h1 : ¬ s ∈ nAc (gN σ i)) : cho σ i s t y = σ := by simp only [cho, if_pos h1]
theorem cho_0 {σ : Sg} {i s t y : Nat} (h1 : s ∈ nAc (gN σ i)) (hy : y = 0) : cho σ i s t y = lzS σ i s := by simp only [cho, if_neg (fun z : ¬ s ∈ nAc (gN σ i) => z h1), if_pos hy]
theorem lzS_ho {σ : Sg} {i s : Nat} : nHo (gN (egS σ i s) i) = nHo (gN σ i) := by simp only [egS, gN_self]
theorem bor_n {b c : Bool} (h : b = true) : (b || c) = true := by rw [h]; rfl
theorem tkL_e {cs : List Nat} {σ : Sg} {i k : Nat} {l : List Nat} (h : l.length ≤ k) : tkL cs σ i (l.take k) = tkL cs σ i l := by rw [List.take_of_length_le h]
abbrev rm_X11_tells : Room := { frames := 5, cells := 0, slots := 0, locals := 129 }
theorem Y_X11_tells : pY yX11_tells cX11_tells 9 (Option.none : Option Jvm.ClassFile.FieldType) := ⟨u_1067, us_31, u_13, u_1068⟩
theorem N_X11_tells : yX11_tells.cls ≠ "java/lang/invoke/MethodHandle" ∧ yX11_tells.cls ≠ "java/lang/invoke/VarHandle" ∧ (parseMethodDescriptor yX11_tells.desc).map (fun d => d.parameters.length) = some 5 := by decide +kernel
set_option maxRecDepth 20000 in
set_option maxHeartbeats 4000000 in
theorem c_X11_tells (A : Nat → Nat) (P : List Nat) (g : pM) (m : Nat) {cs : List Nat} {lm gm : Nat} {Z : Nat → Int32} {σ : Sg} {B : Nat} (r s k x y : Nat) (l : List Nat) (hr : r < gK σ) (hs : s < gK σ) (hk : k = 9 ∨ k = 10 ∨ k = 11) (hx24o : x < 24 ∨ (k = 11 ∧ y = 0)) (hx25 : x ≤ 24) (hy : y < 2 ^ 31) (hy9 : k = 9 → y < 2 ^ 30) (hB : B + 1 < 2 ^ 30) (hS : SW B cs σ) {l3 : List Nat} (hl3 : SO g (m + 3) 5 l3) (hO : g m = mOb A m (gZ σ) cs.length lm gm) (hZ : g (m + 1) = ai 0 10511 Z) (hR : RZ Z σ) : PM yX11_tells cX11_tells 9 (Option.none : Option Jvm.ClassFile.FieldType) rm_X11_tells [.ref (A m), .int (nI r), .int (nI s), .int (nI k), .int (nI x), .int (nI y)] P A g (fun v g' => v = none ∧ ZS g' m (cme2 cs σ r s k x y l) ∧ Fr g g' (m + 1) (m + 2)) := by
  have hK := hR.k16
  have hT := hR.t24
  have hL := hR.le
  have hzw := hS.2.2.2.1
  have hz0 := hzw.1
  have hz1 := hzw.2.1
  have hz2 := hzw.2.2.1
  have hz3 := hzw.2.2.2.1
  have hn := hS.nw hr
  have hle1 := hn.2.2.2.2.1
  have hle2 := hn.2.2.2.2.2.1
  have hc5 := hR.ac5 hr
  have hc8 := hR.pa8 hr
  have ha16 := hS.a16 hr
  have hp16 := hS.p16 hr
  have hz8 := hzw.2.2.2.2.2.2.2
  refine px_intro (by decide +kernel) (Nat.le_of_ble_eq_true rfl) (fun K sz C R => ?_)
  show V K 0 0 P A g [(0, .ref (A m)), (1, .int (nI r)), (2, .int (nI s)), (3, .int (nI k)), (4, .int (nI x)), (5, .int (nI y))] 0 []
  refine g_aload_n (pc := 0) C dX11_tells_0 0 rfl ?_
  refine g_iload_n (pc := 1) C dX11_tells_1 1 rfl ?_
  refine g_iload_n (pc := 2) C dX11_tells_2 2 rfl ?_
  refine g_callV (pc := 3) C (As := [.int (nI r), .int (nI s)]) (rest := []) (b := m) (c_X11_isActive A P g m r s (by omega) (by omega) (hS.a16 (by omega)) hO hZ hR) hO rfl rfl Y_X11_isActive u_957 N_X11_isActive ⟨by decide, by decide⟩ ⟨by decide, by decide⟩ (Nat.le_of_ble_eq_true rfl) rfl dX11_tells_3 ?_
  rintro _ _ _ _ ⟨rfl, rfl, rfl, rfl⟩
  show V K 0 0 P A g [(0, .ref (A m)), (1, .int (nI r)), (2, .int (nI s)), (3, .int (nI k)), (4, .int (nI x)), (5, .int (nI y))] 6 [.int (b32 (decide (s ∈ nAc (gN σ r))))]
  refine g_if_ne (pc := 6) C dX11_tells_6 (tgt := 10) (by decide) (fun c_6 => ?_) (fun c_6 => ?_)
  ·
    have c_6 : (decide (s ∈ nAc (gN σ r))) = true := b32_no c_6
    have c_6 : (s ∈ nAc (gN σ r)) := of_decide_eq_true c_6
    refine g_bipush (pc := 10) C dX11_tells_10 (v := nI 24) rfl ?_
    refine g_iload_n (pc := 12) C dX11_tells_12 1 rfl ?_
    refine g_imul (pc := 13) C dX11_tells_13 (z := nI (24 * r)) (pk_mul _ _) ?_
    refine g_iload (pc := 14) C dX11_tells_14 4 rfl ?_
    refine g_iadd (pc := 16) C dX11_tells_16 (z := nI (24 * r + x)) (nI_add _ _) ?_
    refine g_istore (pc := 17) C dX11_tells_17 (by decide) (lv' := [(0, .ref (A m)), (1, .int (nI r)), (2, .int (nI s)), (3, .int (nI k)), (4, .int (nI x)), (5, .int (nI y)), (6, .int (nI (24 * r + x)))]) [1, 2, 3, 4, 5, 6, 0] rfl ?_
    refine g_iload_n (pc := 19) C dX11_tells_19 3 rfl ?_
    refine g_bipush (pc := 20) C dX11_tells_20 (v := nI 9) rfl ?_
    refine g_icmp_ne (pc := 22) C dX11_tells_22 (tgt := 79) (by decide) (fun c_22 => ?_) (fun c_22 => ?_)
    ·
      have c_22 : ¬ k = 9 := fun h => c_22 ((nI_eq (a := k) (b := 9) (by omega) (by omega)).mpr h)
      refine g_iload_n (pc := 79) C dX11_tells_79 3 rfl ?_
      refine g_bipush (pc := 80) C dX11_tells_80 (v := nI 10) rfl ?_
      refine g_icmp_ne (pc := 82) C dX11_tells_82 (tgt := 272) (by decide) (fun c_82 => ?_) (fun c_82 => ?_)
      ·
        have c_82 : ¬ k = 10 := fun h => c_82 ((nI_eq (a := k) (b := 10) (by omega) (by omega)).mpr h)
        have hk11 : k = 11 := by omega
        refine g_iload (pc := 272) C dX11_tells_272 5 rfl ?_
        refine g_if_ne (pc := 274) C dX11_tells_274 (tgt := 287) (by decide) (fun c_274 => ?_) (fun c_274 => ?_)
        ·
          have c_274 : ¬ y = 0 := fun h => c_274 ((nI_eq (a := y) (b := 0) (by omega) (by omega)).mpr h)
          have hx24 : x < 24 := by omega
          refine g_aload_n (pc := 287) C dX11_tells_287 0 rfl ?_
          refine g_iload_n (pc := 288) C dX11_tells_288 1 rfl ?_
          refine g_iload_n (pc := 289) C dX11_tells_289 2 rfl ?_
          refine g_iconst (pc := 290) C dX11_tells_290 (v := nI 0) rfl ?_
          refine g_callV (pc := 291) C (As := [.int (nI r), .int (nI s), .int (nI 0)]) (rest := []) (b := m) (c_X11_setLazy0 A P g m r s (by omega) c_6 hS hO hZ hR) hO rfl rfl Y_X11_setLazy u_1005 N_X11_setLazy ⟨by decide, by decide⟩ ⟨by decide, by decide⟩ (Nat.le_of_ble_eq_true rfl) rfl dX11_tells_291 ?_
          rintro _ _ _ g_1 ⟨rfl, rfl, rfl, ⟨Z_2, hZ_2, hR_3⟩, hf_4⟩
          have h_5 := hf_4.at (by omega) hO
          have hp_6 := SO.fr hl3 hf_4 (by omega)
          obtain ⟨σ7, hσ7⟩ : ∃ sM : Sg, sM = egS σ r s := ⟨_, rfl⟩
          rw [← hσ7] at hR_3
          have hK_σ7 : gK σ7 = gK σ := (congrArg gK hσ7).trans (rfl : gK σ = gK σ)
          have hT_σ7 : gT σ7 = gT σ := (congrArg gT hσ7).trans (rfl : gT σ = gT σ)
          have hZ_σ7 : gZ σ7 = gZ σ := (congrArg gZ hσ7).trans (rfl : gZ σ = gZ σ)
          have hS_σ7 : SW B cs σ7 := by rw [hσ7]; exact SW.egS hS (by omega)
          show V K 0 0 P A g_1 [(0, .ref (A m)), (1, .int (nI r)), (2, .int (nI s)), (3, .int (nI k)), (4, .int (nI x)), (5, .int (nI y)), (6, .int (nI (24 * r + x)))] 294 []
          have hho2 : nHo (gN σ7 r) = nHo (gN σ r) := by rw [hσ7]; exact lzS_ho
          refine g_aload_n (pc := 294) C dX11_tells_294 0 rfl ?_
          refine g_get (pc := 295) C (j := 0) h_5 rfl rfl (by decide) u_852 dX11_tells_295 ?_
          refine g_sipush (pc := 298) C dX11_tells_298 (v := nI 384) rfl ?_
          refine g_iload (pc := 301) C dX11_tells_301 6 rfl ?_
          refine g_iadd (pc := 303) C dX11_tells_303 (z := nI (384 + (24 * r + x))) (nI_add _ _) ?_
          refine g_iald (pc := 304) C hZ_2 (nI_clamp (by omega)) (nI_in0 (n := 10511) (by omega) (by omega)) dX11_tells_304 (x := onv (nHo (gN σ7 r) x)) (RZ.rHo hR_3 (r := r) (t := x) (by omega) (by omega) (by omega)) ?_
          refine g_if_lt (pc := 305) C dX11_tells_305 (tgt := 331) (by decide) (fun c_305 => ?_) (fun c_305 => ?_)
          ·
            have hh := (onv_ltb (fun q hq => by rw [hho2] at hq; have := hn.2.2.2.2.2.2.2.2.1 x q hq; omega)).mp c_305
            exact g_vret (pc := 331) C R ⟨rfl, rfl, rfl, ⟨_, hZ_2, by rw [hk11]; show RZ _ (cho σ r s x y); rw [cho_n c_6 c_274 hσ7 (by rw [hh]; rfl)]; exact hR_3⟩, fun k hk => by rw [hf_4 k (by omega)]⟩ (by decide) (by decide) dX11_tells_331
          ·
            have hne : ¬ nHo (gN σ7 r) x = none := fun z => c_305 ((onv_ltb (fun q hq => by rw [hho2] at hq; have := hn.2.2.2.2.2.2.2.2.1 x q hq; omega)).mpr z)
            obtain ⟨hv, hhs⟩ : ∃ hv, nHo (gN σ7 r) x = some hv := by cases e : nHo (gN σ7 r) x with | none => exact absurd e hne | some q => exact ⟨q, rfl⟩
            have hvb := hn.2.2.2.2.2.2.2.2.1 x hv (by rw [← hho2]; exact hhs)
            refine g_aload_n (pc := 308) C dX11_tells_308 0 rfl ?_
            refine g_iload_n (pc := 309) C dX11_tells_309 1 rfl ?_
            refine g_iload_n (pc := 310) C dX11_tells_310 2 rfl ?_
            refine g_bipush (pc := 311) C dX11_tells_311 (v := nI 9) rfl ?_
            refine g_iload (pc := 313) C dX11_tells_313 4 rfl ?_
            refine g_aload_n (pc := 315) C dX11_tells_315 0 rfl ?_
            refine g_get (pc := 316) C (j := 0) h_5 rfl rfl (by decide) u_852 dX11_tells_316 ?_
            refine g_sipush (pc := 319) C dX11_tells_319 (v := nI 384) rfl ?_
            refine g_iload (pc := 322) C dX11_tells_322 6 rfl ?_
            refine g_iadd (pc := 324) C dX11_tells_324 (z := nI (384 + (24 * r + x))) (nI_add _ _) ?_
            refine g_iald (pc := 325) C hZ_2 (nI_clamp (by omega)) (nI_in0 (n := 10511) (by omega) (by omega)) dX11_tells_325 (x := nI hv) ((RZ.rHo hR_3 (r := r) (t := x) (by omega) (by omega) hx24).trans (by rw [hhs]; rfl)) ?_
            refine g_iconst (pc := 326) C dX11_tells_326 (v := nI 1) rfl ?_
            refine g_iadd (pc := 327) C dX11_tells_327 (z := nI (hv + 1)) (nI_add _ _) ?_
            refine g_callV (pc := 328) C (As := [.int (nI r), .int (nI s), .int (nI 9), .int (nI x), .int (nI (hv + 1))]) (rest := []) (b := m) (c_X11_send A P g_1 m r s 9 x (hv + 1) hp_6 (by omega) (by rw [hZ_σ7]; exact h_5) hZ_2 hR_3) h_5 rfl rfl Y_X11_send u_933 N_X11_send ⟨by decide, by decide⟩ ⟨by decide, by decide⟩ (Nat.le_of_ble_eq_true rfl) rfl dX11_tells_328 ?_
            rintro _ _ _ g_8 ⟨rfl, rfl, rfl, ⟨Z_9, hZ_9, hR_10⟩, hf_11⟩
            have h_12 := hf_11.at (by omega) h_5
            have hp_13 := SO.fr hp_6 hf_11 (by omega)
            obtain ⟨σ14, hσ14⟩ : ∃ sM : Sg, sM = snd σ7 r s 9 x (hv + 1) [] := ⟨_, rfl⟩
            rw [← hσ14] at hR_10
            have hK_σ14 : gK σ14 = gK σ := (congrArg gK hσ14).trans (snd_K.trans hK_σ7)
            have hT_σ14 : gT σ14 = gT σ := (congrArg gT hσ14).trans (snd_T.trans hT_σ7)
            have hZ_σ14 : gZ σ14 = gZ σ := (congrArg gZ hσ14).trans (snd_Z.trans hZ_σ7)
            show V K 0 0 P A g_8 [(0, .ref (A m)), (1, .int (nI r)), (2, .int (nI s)), (3, .int (nI k)), (4, .int (nI x)), (5, .int (nI y)), (6, .int (nI (24 * r + x)))] 331 []
            exact g_vret (pc := 331) C R ⟨rfl, rfl, rfl, ⟨_, hZ_9, by rw [hk11]; show RZ _ (cho σ r s x y); rw [cho_s c_6 c_274 hσ7 hhs hσ14]; exact hR_10⟩, fun k hk => by rw [hf_11 k (by omega), hf_4 k (by omega)]⟩ (by decide) (by decide) dX11_tells_331
        ·
          have c_274 : y = 0 := (nI_eq (by omega) (by omega)).mp c_274
          refine g_aload_n (pc := 277) C dX11_tells_277 0 rfl ?_
          refine g_iload_n (pc := 278) C dX11_tells_278 1 rfl ?_
          refine g_iload_n (pc := 279) C dX11_tells_279 2 rfl ?_
          refine g_iconst (pc := 280) C dX11_tells_280 (v := nI 1) rfl ?_
          refine g_callV (pc := 281) C (As := [.int (nI r), .int (nI s), .int (nI 1)]) (rest := []) (b := m) (c_X11_setLazy1 A P g m r s (by omega) c_6 hS hO hZ hR) hO rfl rfl Y_X11_setLazy u_1005 N_X11_setLazy ⟨by decide, by decide⟩ ⟨by decide, by decide⟩ (Nat.le_of_ble_eq_true rfl) rfl dX11_tells_281 ?_
          rintro _ _ _ g_15 ⟨rfl, rfl, rfl, ⟨Z_16, hZ_16, hR_17⟩, hf_18⟩
          have h_19 := hf_18.at (by omega) hO
          have hp_20 := SO.fr hl3 hf_18 (by omega)
          obtain ⟨σ21, hσ21⟩ : ∃ sM : Sg, sM = lzS σ r s := ⟨_, rfl⟩
          rw [← hσ21] at hR_17
          have hK_σ21 : gK σ21 = gK σ := (congrArg gK hσ21).trans (rfl : gK σ = gK σ)
          have hT_σ21 : gT σ21 = gT σ := (congrArg gT hσ21).trans (rfl : gT σ = gT σ)
          have hZ_σ21 : gZ σ21 = gZ σ := (congrArg gZ hσ21).trans (rfl : gZ σ = gZ σ)
          have hS_σ21 : SW B cs σ21 := by rw [hσ21]; exact SW.lzS hS (by omega) c_6
          show V K 0 0 P A g_15 [(0, .ref (A m)), (1, .int (nI r)), (2, .int (nI s)), (3, .int (nI k)), (4, .int (nI x)), (5, .int (nI y)), (6, .int (nI (24 * r + x)))] 284 []
          refine g_goto (pc := 284) C dX11_tells_284 (tgt := 331) (by decide) ?_
          exact g_vret (pc := 331) C R ⟨rfl, rfl, rfl, ⟨_, hZ_16, by rw [hk11]; show RZ _ (cho σ r s x y); rw [cho_0 c_6 c_274, ← hσ21]; exact hR_17⟩, fun k hk => by rw [hf_18 k (by omega)]⟩ (by decide) (by decide) dX11_tells_331
      ·
        have c_82 : k = 10 := (nI_eq (by omega) (by omega)).mp c_82
        have hx24 : x < 24 := by omega
        have hm5 := hR.ml5 hr hx24
        refine g_aload_n (pc := 85) C dX11_tells_85 0 rfl ?_
        refine g_get (pc := 86) C (j := 0) hO rfl rfl (by decide) u_852 dX11_tells_86 ?_
        refine g_sipush (pc := 89) C dX11_tells_89 (v := nI 384) rfl ?_
        refine g_iload (pc := 92) C dX11_tells_92 6 rfl ?_
        refine g_iadd (pc := 94) C dX11_tells_94 (z := nI (384 + (24 * r + x))) (nI_add _ _) ?_
        refine g_iald (pc := 95) C hZ (nI_clamp (by omega)) (nI_in0 (n := 10511) (by omega) (by omega)) dX11_tells_95 (x := onv (nHo (gN σ r) x)) (RZ.rHo hR (r := r) (t := x) (by omega) (by omega) (by omega)) ?_
        refine g_if_ge (pc := 96) C dX11_tells_96 (tgt := 331) (by decide) (fun c_96 => ?_) (fun c_96 => ?_)
        ·
          have hh : ¬ nHo (gN σ r) x = none := fun z => i32_nlt c_96 ((onv_ltb (fun q hq => by have := hn.2.2.2.2.2.2.2.2.1 x q hq; omega)).mpr z)
          exact g_vret (pc := 331) C R ⟨rfl, rfl, rfl, ⟨_, hZ, by rw [c_82]; show RZ _ (nto σ r s x); rw [nto_no (Or.inr hh)]; exact hR⟩, fun k hk => rfl⟩ (by decide) (by decide) dX11_tells_331
        ·
          have hh := (onv_ltb (fun q hq => by have := hn.2.2.2.2.2.2.2.2.1 x q hq; omega)).mp (i32_lt c_96)
          refine g_aload_n (pc := 99) C dX11_tells_99 0 rfl ?_
          refine g_get (pc := 100) C (j := 0) hO rfl rfl (by decide) u_852 dX11_tells_100 ?_
          refine g_sipush (pc := 103) C dX11_tells_103 (v := nI 768) rfl ?_
          refine g_iload (pc := 106) C dX11_tells_106 6 rfl ?_
          refine g_iadd (pc := 108) C dX11_tells_108 (z := nI (768 + (24 * r + x))) (nI_add _ _) ?_
          refine g_iald (pc := 109) C hZ (nI_clamp (by omega)) (nI_in0 (n := 10511) (by omega) (by omega)) dX11_tells_109 (x := miO (nMi (gN σ r) x)) (RZ.rMi hR (r := r) (t := x) (by omega) (by omega) (by omega)) ?_
          refine g_if_ne (pc := 110) C dX11_tells_110 (tgt := 161) (by decide) (fun c_110 => ?_) (fun c_110 => ?_)
          ·
            obtain ⟨p, hm⟩ := miO_some c_110
            have hml16 : ∀ q ∈ (miL (nMi (gN σ r) x)), q < 16 := fun q hq => ha16 q ((hn.2.2.2.2.2.2.2.2.2.1 x p.1 p.2 hm).2.2 q (by rw [hm] at hq; exact hq))
            refine g_iconst (pc := 161) C dX11_tells_161 (v := nI 0) rfl ?_
            refine g_istore (pc := 162) C dX11_tells_162 (by decide) (lv' := [(0, .ref (A m)), (1, .int (nI r)), (2, .int (nI s)), (3, .int (nI k)), (4, .int (nI x)), (5, .int (nI y)), (6, .int (nI (24 * r + x))), (7, .int (nI 0))]) [1, 2, 3, 4, 5, 6, 7, 0] rfl ?_
            refine g_iconst (pc := 164) C dX11_tells_164 (v := nI 0) rfl ?_
            refine g_istore (pc := 165) C dX11_tells_165 (by decide) (lv' := [(0, .ref (A m)), (1, .int (nI r)), (2, .int (nI s)), (3, .int (nI k)), (4, .int (nI x)), (5, .int (nI y)), (6, .int (nI (24 * r + x))), (7, .int (nI 0)), (8, .int (nI 0))]) [1, 2, 3, 4, 5, 6, 7, 8, 0] rfl ?_
            have lp_167 : ∀ (fuel : Nat) (j : Nat) (hj : j ≤ (miL (nMi (gN σ r) x)).length), (miL (nMi (gN σ r) x)).length - j < fuel → V K 0 0 P A g [(0, .ref (A m)), (1, .int (nI r)), (2, .int (nI s)), (3, .int (nI k)), (4, .int (nI x)), (5, .int (nI y)), (6, .int (nI (24 * r + x))), (7, .int (b32 (decide (s ∈ (miL (nMi (gN σ r) x)).take j)))), (8, .int (nI j))] 167 [] := by
              intro fuel
              induction fuel with
              | zero => intro j hj hμ; exact absurd hμ (Nat.not_lt_zero _)
              | succ fuel ih =>
                intro j hj hμ
                refine g_iload (pc := 167) C dX11_tells_167 8 rfl ?_
                refine g_aload_n (pc := 169) C dX11_tells_169 0 rfl ?_
                refine g_get (pc := 170) C (j := 0) hO rfl rfl (by decide) u_852 dX11_tells_170 ?_
                refine g_sipush (pc := 173) C dX11_tells_173 (v := nI 1536) rfl ?_
                refine g_iload (pc := 176) C dX11_tells_176 6 rfl ?_
                refine g_iadd (pc := 178) C dX11_tells_178 (z := nI (1536 + (24 * r + x))) (nI_add _ _) ?_
                refine g_iald (pc := 179) C hZ (nI_clamp (by omega)) (nI_in0 (n := 10511) (by omega) (by omega)) dX11_tells_179 (x := nI (miL (nMi (gN σ r) x)).length) (RZ.rMn hR (r := r) (t := x) (by omega) (by omega) (by omega)) ?_
                refine g_icmp_ge (pc := 180) C dX11_tells_180 (tgt := 222) (by decide) (fun c_180 => ?_) (fun c_180 => ?_)
                ·
                  have c_180 : (miL (nMi (gN σ r) x)).length ≤ j := (nI_leI (by omega) (by omega)).mp c_180
                  have hjf : (miL (nMi (gN σ r) x)).take j = p.2 := (List.take_of_length_le (by omega)).trans (by rw [hm]; rfl)
                  refine g_iload (pc := 222) C dX11_tells_222 7 rfl ?_
                  refine g_if_ne (pc := 224) C dX11_tells_224 (tgt := 269) (by decide) (fun c_224 => ?_) (fun c_224 => ?_)
                  ·
                    have c_224 : (decide (s ∈ (miL (nMi (gN σ r) x)).take j)) = true := b32_no c_224
                    have c_224 : (s ∈ (miL (nMi (gN σ r) x)).take j) := of_decide_eq_true c_224
                    have hmem : s ∈ p.2 := by rw [← hjf]; exact c_224
                    refine g_goto (pc := 269) C dX11_tells_269 (tgt := 331) (by decide) ?_
                    exact g_vret (pc := 331) C R ⟨rfl, rfl, rfl, ⟨_, hZ, by rw [c_82]; show RZ _ (nto σ r s x); rw [nto_y c_6 hh, hm, show ntm σ (some p) s = some p from by show some (p.1, if s ∈ p.2 then p.2 else p.2 ++ [s]) = _; rw [if_pos hmem], ← hm, miS_id]; exact hR⟩, fun k hk => rfl⟩ (by decide) (by decide) dX11_tells_331
                  ·
                    have c_224 : (decide (s ∈ (miL (nMi (gN σ r) x)).take j)) = false := b32_yes c_224
                    have c_224 : ¬ (s ∈ (miL (nMi (gN σ r) x)).take j) := of_decide_eq_false c_224
                    have hmem : ¬ s ∈ p.2 := by rw [← hjf]; exact c_224
                    refine g_aload_n (pc := 227) C dX11_tells_227 0 rfl ?_
                    refine g_get (pc := 228) C (j := 0) hO rfl rfl (by decide) u_852 dX11_tells_228 ?_
                    refine g_sipush (pc := 231) C dX11_tells_231 (v := nI 1920) rfl ?_
                    refine g_bipush (pc := 234) C dX11_tells_234 (v := nI 8) rfl ?_
                    refine g_iload (pc := 236) C dX11_tells_236 6 rfl ?_
                    refine g_imul (pc := 238) C dX11_tells_238 (z := nI (8 * (24 * r + x))) (pk_mul _ _) ?_
                    refine g_iadd (pc := 239) C dX11_tells_239 (z := nI (1920 + (8 * (24 * r + x)))) (nI_add _ _) ?_
                    refine g_aload_n (pc := 240) C dX11_tells_240 0 rfl ?_
                    refine g_get (pc := 241) C (j := 0) hO rfl rfl (by decide) u_852 dX11_tells_241 ?_
                    refine g_sipush (pc := 244) C dX11_tells_244 (v := nI 1536) rfl ?_
                    refine g_iload (pc := 247) C dX11_tells_247 6 rfl ?_
                    refine g_iadd (pc := 249) C dX11_tells_249 (z := nI (1536 + (24 * r + x))) (nI_add _ _) ?_
                    refine g_iald (pc := 250) C hZ (nI_clamp (by omega)) (nI_in0 (n := 10511) (by omega) (by omega)) dX11_tells_250 (x := nI (miL (nMi (gN σ r) x)).length) (RZ.rMn hR (r := r) (t := x) (by omega) (by omega) (by omega)) ?_
                    refine g_iadd (pc := 251) C dX11_tells_251 (z := nI (1920 + (8 * (24 * r + x)) + (miL (nMi (gN σ r) x)).length)) (nI_add _ _) ?_
                    refine g_iload_n (pc := 252) C dX11_tells_252 2 rfl ?_
                    refine g_iast (pc := 253) C hZ (nI_clamp (by omega)) (nI_in0 (n := 10511) (by omega) (by omega)) dX11_tells_253 ?_
                    obtain ⟨Z_22, hZ_22⟩ : ∃ yZ : Nat → Int32, yZ = upd Z (1920 + (8 * (24 * r + x)) + (miL (nMi (gN σ r) x)).length) (nI s) := ⟨_, rfl⟩
                    show V K 0 0 P A (va_up g (m + 1) (ai 0 10511 (upd Z (1920 + (8 * (24 * r + x)) + (miL (nMi (gN σ r) x)).length) (nI s)))) [(0, .ref (A m)), (1, .int (nI r)), (2, .int (nI s)), (3, .int (nI k)), (4, .int (nI x)), (5, .int (nI y)), (6, .int (nI (24 * r + x))), (7, .int (b32 (decide (s ∈ (miL (nMi (gN σ r) x)).take j)))), (8, .int (nI j))] 254 []
                    rw [← hZ_22]
                    obtain ⟨g_23, hg_23⟩ : ∃ yM : pM, yM = va_up g (m + 1) (ai 0 10511 Z_22) := ⟨_, rfl⟩
                    show V K 0 0 P A (va_up g (m + 1) (ai 0 10511 Z_22)) [(0, .ref (A m)), (1, .int (nI r)), (2, .int (nI s)), (3, .int (nI k)), (4, .int (nI x)), (5, .int (nI y)), (6, .int (nI (24 * r + x))), (7, .int (b32 (decide (s ∈ (miL (nMi (gN σ r) x)).take j)))), (8, .int (nI j))] 254 []
                    rw [← hg_23]
                    have h_24 : g_23 m = ob 11 [.ref (A (m + 1)), .int (nI (gZ σ).1), .int (nI (gZ σ).2.1), .int (nI (gZ σ).2.2.1), .int (nI (gZ σ).2.2.2.1), .int (nI (gZ σ).2.2.2.2), .ref (A (m + 2)), .int (nI cs.length), .ref (A (m + 3)), .int (nI lm), .ref (A (m + 4)), .ref (A (m + 5)), .int (nI gm), .ref (A (m + 6)), .ref (A (m + 7)), .ref (A (m + 8))] := by rw [hg_23, va_up_ne _ _ (show m ≠ m + 1 from by omega)]; exact hO
                    have h_25 : g_23 (m + 1) = ai 0 10511 Z_22 := by rw [hg_23]; exact va_up_self _ _ _
                    have hf_26 : Fr g g_23 (m + 1) (m + 1 + 1) := by rw [hg_23]; exact Fr.up (by omega) (by omega)
                    have hp_27 := SO.fr hl3 hf_26 (by omega)
                    refine g_aload_n (pc := 254) C dX11_tells_254 0 rfl ?_
                    refine g_get (pc := 255) C (j := 0) h_24 rfl rfl (by decide) u_852 dX11_tells_255 ?_
                    refine g_sipush (pc := 258) C dX11_tells_258 (v := nI 1536) rfl ?_
                    refine g_iload (pc := 261) C dX11_tells_261 6 rfl ?_
                    refine g_iadd (pc := 263) C dX11_tells_263 (z := nI (1536 + (24 * r + x))) (nI_add _ _) ?_
                    refine g_dup2 (pc := 264) C dX11_tells_264 rfl rfl ?_
                    refine g_iald (pc := 265) C h_25 (nI_clamp (by omega)) (nI_in0 (n := 10511) (by omega) (by omega)) dX11_tells_265 (x := nI (miL (nMi (gN σ r) x)).length) (zne hZ_22 (by omega) (RZ.rMn hR (r := r) (t := x) (by omega) (by omega) (by omega))) ?_
                    refine g_iconst (pc := 266) C dX11_tells_266 (v := nI 1) rfl ?_
                    refine g_iadd (pc := 267) C dX11_tells_267 (z := nI ((miL (nMi (gN σ r) x)).length + 1)) (nI_add _ _) ?_
                    refine g_iast (pc := 268) C h_25 (nI_clamp (by omega)) (nI_in0 (n := 10511) (by omega) (by omega)) dX11_tells_268 ?_
                    obtain ⟨Z_28, hZ_28⟩ : ∃ yZ : Nat → Int32, yZ = upd Z_22 (1536 + (24 * r + x)) (nI ((miL (nMi (gN σ r) x)).length + 1)) := ⟨_, rfl⟩
                    show V K 0 0 P A (va_up g_23 (m + 1) (ai 0 10511 (upd Z_22 (1536 + (24 * r + x)) (nI ((miL (nMi (gN σ r) x)).length + 1))))) [(0, .ref (A m)), (1, .int (nI r)), (2, .int (nI s)), (3, .int (nI k)), (4, .int (nI x)), (5, .int (nI y)), (6, .int (nI (24 * r + x))), (7, .int (b32 (decide (s ∈ (miL (nMi (gN σ r) x)).take j)))), (8, .int (nI j))] 269 []
                    rw [← hZ_28]
                    obtain ⟨g_29, hg_29⟩ : ∃ yM : pM, yM = va_up g_23 (m + 1) (ai 0 10511 Z_28) := ⟨_, rfl⟩
                    show V K 0 0 P A (va_up g_23 (m + 1) (ai 0 10511 Z_28)) [(0, .ref (A m)), (1, .int (nI r)), (2, .int (nI s)), (3, .int (nI k)), (4, .int (nI x)), (5, .int (nI y)), (6, .int (nI (24 * r + x))), (7, .int (b32 (decide (s ∈ (miL (nMi (gN σ r) x)).take j)))), (8, .int (nI j))] 269 []
                    rw [← hg_29]
                    have h_30 : g_29 m = ob 11 [.ref (A (m + 1)), .int (nI (gZ σ).1), .int (nI (gZ σ).2.1), .int (nI (gZ σ).2.2.1), .int (nI (gZ σ).2.2.2.1), .int (nI (gZ σ).2.2.2.2), .ref (A (m + 2)), .int (nI cs.length), .ref (A (m + 3)), .int (nI lm), .ref (A (m + 4)), .ref (A (m + 5)), .int (nI gm), .ref (A (m + 6)), .ref (A (m + 7)), .ref (A (m + 8))] := by rw [hg_29, va_up_ne _ _ (show m ≠ m + 1 from by omega)]; exact h_24
                    have h_31 : g_29 (m + 1) = ai 0 10511 Z_28 := by rw [hg_29]; exact va_up_self _ _ _
                    have hf_32 : Fr g_23 g_29 (m + 1) (m + 1 + 1) := by rw [hg_29]; exact Fr.up (by omega) (by omega)
                    have hp_33 := SO.fr hp_27 hf_32 (by omega)
                    refine g_goto (pc := 269) C dX11_tells_269 (tgt := 331) (by decide) ?_
                    exact g_vret (pc := 331) C R ⟨rfl, rfl, rfl, ⟨_, h_31, by rw [c_82]; show RZ _ (nto σ r s x); rw [nto_y c_6 hh, hm, show ntm σ (some p) s = some (p.1, p.2 ++ [s]) from by show some (p.1, if s ∈ p.2 then p.2 else p.2 ++ [s]) = _; rw [if_neg hmem]]; exact RZ.mi5 hR hr hx24 hm (mi_room hS hr c_6 (by rw [hm]; exact hmem)) (by rw [hm]; exact hmem) hZ_22 hZ_28⟩, fun k hk => by rw [hg_29, va_up_ne _ _ (by omega), hg_23, va_up_ne _ _ (by omega)]⟩ (by decide) (by decide) dX11_tells_331
                ·
                  have c_180 : ¬ (miL (nMi (gN σ r) x)).length ≤ j := fun h => c_180 ((nI_leI (a := (miL (nMi (gN σ r) x)).length) (b := j) (by omega) (by omega)).mpr h)
                  have hjl : j < (miL (nMi (gN σ r) x)).length := by omega
                  have hjv := getD_lt (i := j) hml16
                  refine g_iload (pc := 183) C dX11_tells_183 7 rfl ?_
                  refine g_if_ne (pc := 185) C dX11_tells_185 (tgt := 209) (by decide) (fun c_185 => ?_) (fun c_185 => ?_)
                  ·
                    have c_185 : (decide (s ∈ (miL (nMi (gN σ r) x)).take j)) = true := b32_no c_185
                    have c_185 : (s ∈ (miL (nMi (gN σ r) x)).take j) := of_decide_eq_true c_185
                    refine g_iconst (pc := 209) C dX11_tells_209 (v := nI 1) rfl ?_
                    refine g_goto (pc := 210) C dX11_tells_210 (tgt := 214) (by decide) ?_
                    refine g_istore (pc := 214) C dX11_tells_214 (by decide) (lv' := [(0, .ref (A m)), (1, .int (nI r)), (2, .int (nI s)), (3, .int (nI k)), (4, .int (nI x)), (5, .int (nI y)), (6, .int (nI (24 * r + x))), (7, .int (nI 1)), (8, .int (nI j))]) [1, 2, 3, 4, 5, 6, 7, 0, 8] rfl ?_
                    refine g_iinc (pc := 216) C dX11_tells_216 (by decide) 8 rfl (v := nI (j + 1)) (nI_i1 _) (lv' := [(0, .ref (A m)), (1, .int (nI r)), (2, .int (nI s)), (3, .int (nI k)), (4, .int (nI x)), (5, .int (nI y)), (6, .int (nI (24 * r + x))), (7, .int (nI 1)), (8, .int (nI (j + 1)))]) [1, 2, 3, 4, 5, 6, 7, 8, 0] rfl ?_
                    refine g_goto (pc := 219) C dX11_tells_219 (tgt := 167) (by decide) ?_
                    have hbk : (nI 1 : Int32) = b32 (decide (s ∈ (miL (nMi (gN σ r) x)).take (j + 1))) := by rw [take_mem hjl, decide_eq_true c_185]; rfl
                    rw [hbk]
                    exact ih (j + 1) (by omega) (by omega)
                  ·
                    have c_185 : (decide (s ∈ (miL (nMi (gN σ r) x)).take j)) = false := b32_yes c_185
                    have c_185 : ¬ (s ∈ (miL (nMi (gN σ r) x)).take j) := of_decide_eq_false c_185
                    refine g_aload_n (pc := 188) C dX11_tells_188 0 rfl ?_
                    refine g_get (pc := 189) C (j := 0) hO rfl rfl (by decide) u_852 dX11_tells_189 ?_
                    refine g_sipush (pc := 192) C dX11_tells_192 (v := nI 1920) rfl ?_
                    refine g_bipush (pc := 195) C dX11_tells_195 (v := nI 8) rfl ?_
                    refine g_iload (pc := 197) C dX11_tells_197 6 rfl ?_
                    refine g_imul (pc := 199) C dX11_tells_199 (z := nI (8 * (24 * r + x))) (pk_mul _ _) ?_
                    refine g_iadd (pc := 200) C dX11_tells_200 (z := nI (1920 + (8 * (24 * r + x)))) (nI_add _ _) ?_
                    refine g_iload (pc := 201) C dX11_tells_201 8 rfl ?_
                    refine g_iadd (pc := 203) C dX11_tells_203 (z := nI (1920 + (8 * (24 * r + x)) + j)) (nI_add _ _) ?_
                    refine g_iald (pc := 204) C hZ (nI_clamp (by omega)) (nI_in0 (n := 10511) (by omega) (by omega)) dX11_tells_204 (x := nI ((miL (nMi (gN σ r) x)).getD j 0)) (RZ.rMt hR (r := r) (t := x) (k := j) (by omega) (by omega) (by omega) (by omega)) ?_
                    refine g_iload_n (pc := 205) C dX11_tells_205 2 rfl ?_
                    refine g_icmp_ne (pc := 206) C dX11_tells_206 (tgt := 213) (by decide) (fun c_206 => ?_) (fun c_206 => ?_)
                    ·
                      have c_206 : ¬ ((miL (nMi (gN σ r) x)).getD j 0) = s := fun h => c_206 ((nI_eq (a := ((miL (nMi (gN σ r) x)).getD j 0)) (b := s) (by omega) (by omega)).mpr h)
                      refine g_iconst (pc := 213) C dX11_tells_213 (v := nI 0) rfl ?_
                      refine g_istore (pc := 214) C dX11_tells_214 (by decide) (lv' := [(0, .ref (A m)), (1, .int (nI r)), (2, .int (nI s)), (3, .int (nI k)), (4, .int (nI x)), (5, .int (nI y)), (6, .int (nI (24 * r + x))), (7, .int (nI 0)), (8, .int (nI j))]) [1, 2, 3, 4, 5, 6, 7, 0, 8] rfl ?_
                      refine g_iinc (pc := 216) C dX11_tells_216 (by decide) 8 rfl (v := nI (j + 1)) (nI_i1 _) (lv' := [(0, .ref (A m)), (1, .int (nI r)), (2, .int (nI s)), (3, .int (nI k)), (4, .int (nI x)), (5, .int (nI y)), (6, .int (nI (24 * r + x))), (7, .int (nI 0)), (8, .int (nI (j + 1)))]) [1, 2, 3, 4, 5, 6, 7, 8, 0] rfl ?_
                      refine g_goto (pc := 219) C dX11_tells_219 (tgt := 167) (by decide) ?_
                      have hbk : (nI 0 : Int32) = b32 (decide (s ∈ (miL (nMi (gN σ r) x)).take (j + 1))) := by rw [take_mem hjl, decide_eq_false c_185, decide_eq_false c_206]; rfl
                      rw [hbk]
                      exact ih (j + 1) (by omega) (by omega)
                    ·
                      have c_206 : ((miL (nMi (gN σ r) x)).getD j 0) = s := (nI_eq (by omega) (by omega)).mp c_206
                      refine g_iconst (pc := 209) C dX11_tells_209 (v := nI 1) rfl ?_
                      refine g_goto (pc := 210) C dX11_tells_210 (tgt := 214) (by decide) ?_
                      refine g_istore (pc := 214) C dX11_tells_214 (by decide) (lv' := [(0, .ref (A m)), (1, .int (nI r)), (2, .int (nI s)), (3, .int (nI k)), (4, .int (nI x)), (5, .int (nI y)), (6, .int (nI (24 * r + x))), (7, .int (nI 1)), (8, .int (nI j))]) [1, 2, 3, 4, 5, 6, 7, 0, 8] rfl ?_
                      refine g_iinc (pc := 216) C dX11_tells_216 (by decide) 8 rfl (v := nI (j + 1)) (nI_i1 _) (lv' := [(0, .ref (A m)), (1, .int (nI r)), (2, .int (nI s)), (3, .int (nI k)), (4, .int (nI x)), (5, .int (nI y)), (6, .int (nI (24 * r + x))), (7, .int (nI 1)), (8, .int (nI (j + 1)))]) [1, 2, 3, 4, 5, 6, 7, 8, 0] rfl ?_
                      refine g_goto (pc := 219) C dX11_tells_219 (tgt := 167) (by decide) ?_
                      have hbk : (nI 1 : Int32) = b32 (decide (s ∈ (miL (nMi (gN σ r) x)).take (j + 1))) := by rw [take_mem hjl, decide_eq_true c_206, Bool.or_true]; rfl
                      rw [hbk]
                      exact ih (j + 1) (by omega) (by omega)
            exact lp_167 (_ + 1) 0 (Nat.zero_le _) (Nat.lt_succ_self _)
          ·
            have hm := miO_none c_110
            refine g_aload_n (pc := 113) C dX11_tells_113 0 rfl ?_
            refine g_get (pc := 114) C (j := 0) hO rfl rfl (by decide) u_852 dX11_tells_114 ?_
            refine g_sipush (pc := 117) C dX11_tells_117 (v := nI 768) rfl ?_
            refine g_iload (pc := 120) C dX11_tells_120 6 rfl ?_
            refine g_iadd (pc := 122) C dX11_tells_122 (z := nI (768 + (24 * r + x))) (nI_add _ _) ?_
            refine g_iconst (pc := 123) C dX11_tells_123 (v := nI 1) rfl ?_
            refine g_iast (pc := 124) C hZ (nI_clamp (by omega)) (nI_in0 (n := 10511) (by omega) (by omega)) dX11_tells_124 ?_
            obtain ⟨Z_34, hZ_34⟩ : ∃ yZ : Nat → Int32, yZ = upd Z (768 + (24 * r + x)) (nI 1) := ⟨_, rfl⟩
            show V K 0 0 P A (va_up g (m + 1) (ai 0 10511 (upd Z (768 + (24 * r + x)) (nI 1)))) [(0, .ref (A m)), (1, .int (nI r)), (2, .int (nI s)), (3, .int (nI k)), (4, .int (nI x)), (5, .int (nI y)), (6, .int (nI (24 * r + x)))] 125 []
            rw [← hZ_34]
            obtain ⟨g_35, hg_35⟩ : ∃ yM : pM, yM = va_up g (m + 1) (ai 0 10511 Z_34) := ⟨_, rfl⟩
            show V K 0 0 P A (va_up g (m + 1) (ai 0 10511 Z_34)) [(0, .ref (A m)), (1, .int (nI r)), (2, .int (nI s)), (3, .int (nI k)), (4, .int (nI x)), (5, .int (nI y)), (6, .int (nI (24 * r + x)))] 125 []
            rw [← hg_35]
            have h_36 : g_35 m = ob 11 [.ref (A (m + 1)), .int (nI (gZ σ).1), .int (nI (gZ σ).2.1), .int (nI (gZ σ).2.2.1), .int (nI (gZ σ).2.2.2.1), .int (nI (gZ σ).2.2.2.2), .ref (A (m + 2)), .int (nI cs.length), .ref (A (m + 3)), .int (nI lm), .ref (A (m + 4)), .ref (A (m + 5)), .int (nI gm), .ref (A (m + 6)), .ref (A (m + 7)), .ref (A (m + 8))] := by rw [hg_35, va_up_ne _ _ (show m ≠ m + 1 from by omega)]; exact hO
            have h_37 : g_35 (m + 1) = ai 0 10511 Z_34 := by rw [hg_35]; exact va_up_self _ _ _
            have hf_38 : Fr g g_35 (m + 1) (m + 1 + 1) := by rw [hg_35]; exact Fr.up (by omega) (by omega)
            have hp_39 := SO.fr hl3 hf_38 (by omega)
            refine g_aload_n (pc := 125) C dX11_tells_125 0 rfl ?_
            refine g_get (pc := 126) C (j := 0) h_36 rfl rfl (by decide) u_852 dX11_tells_126 ?_
            refine g_sipush (pc := 129) C dX11_tells_129 (v := nI 1152) rfl ?_
            refine g_iload (pc := 132) C dX11_tells_132 6 rfl ?_
            refine g_iadd (pc := 134) C dX11_tells_134 (z := nI (1152 + (24 * r + x))) (nI_add _ _) ?_
            refine g_aload_n (pc := 135) C dX11_tells_135 0 rfl ?_
            refine g_get (pc := 136) C (j := 0) h_36 rfl rfl (by decide) u_852 dX11_tells_136 ?_
            refine g_sipush (pc := 139) C dX11_tells_139 (v := nI 10509) rfl ?_
            refine g_iald (pc := 142) C h_37 (nI_clamp (by omega)) (nI_in0 (n := 10511) (by omega) (by omega)) dX11_tells_142 (x := gTi σ) (zne hZ_34 (by omega) (RZ.rTi hR (by omega))) ?_
            refine g_aload_n (pc := 143) C dX11_tells_143 0 rfl ?_
            refine g_get (pc := 144) C (j := 5) h_36 rfl rfl (by decide) u_857 dX11_tells_144 ?_
            refine g_iadd (pc := 147) C dX11_tells_147 (z := (gTi σ) + (nI (gZ σ).2.2.2.2)) rfl ?_
            refine g_iast (pc := 148) C h_37 (nI_clamp (by omega)) (nI_in0 (n := 10511) (by omega) (by omega)) dX11_tells_148 ?_
            obtain ⟨Z_40, hZ_40⟩ : ∃ yZ : Nat → Int32, yZ = upd Z_34 (1152 + (24 * r + x)) ((gTi σ) + (nI (gZ σ).2.2.2.2)) := ⟨_, rfl⟩
            show V K 0 0 P A (va_up g_35 (m + 1) (ai 0 10511 (upd Z_34 (1152 + (24 * r + x)) ((gTi σ) + (nI (gZ σ).2.2.2.2))))) [(0, .ref (A m)), (1, .int (nI r)), (2, .int (nI s)), (3, .int (nI k)), (4, .int (nI x)), (5, .int (nI y)), (6, .int (nI (24 * r + x)))] 149 []
            rw [← hZ_40]
            obtain ⟨g_41, hg_41⟩ : ∃ yM : pM, yM = va_up g_35 (m + 1) (ai 0 10511 Z_40) := ⟨_, rfl⟩
            show V K 0 0 P A (va_up g_35 (m + 1) (ai 0 10511 Z_40)) [(0, .ref (A m)), (1, .int (nI r)), (2, .int (nI s)), (3, .int (nI k)), (4, .int (nI x)), (5, .int (nI y)), (6, .int (nI (24 * r + x)))] 149 []
            rw [← hg_41]
            have h_42 : g_41 m = ob 11 [.ref (A (m + 1)), .int (nI (gZ σ).1), .int (nI (gZ σ).2.1), .int (nI (gZ σ).2.2.1), .int (nI (gZ σ).2.2.2.1), .int (nI (gZ σ).2.2.2.2), .ref (A (m + 2)), .int (nI cs.length), .ref (A (m + 3)), .int (nI lm), .ref (A (m + 4)), .ref (A (m + 5)), .int (nI gm), .ref (A (m + 6)), .ref (A (m + 7)), .ref (A (m + 8))] := by rw [hg_41, va_up_ne _ _ (show m ≠ m + 1 from by omega)]; exact h_36
            have h_43 : g_41 (m + 1) = ai 0 10511 Z_40 := by rw [hg_41]; exact va_up_self _ _ _
            have hf_44 : Fr g_35 g_41 (m + 1) (m + 1 + 1) := by rw [hg_41]; exact Fr.up (by omega) (by omega)
            have hp_45 := SO.fr hp_39 hf_44 (by omega)
            refine g_aload_n (pc := 149) C dX11_tells_149 0 rfl ?_
            refine g_get (pc := 150) C (j := 0) h_42 rfl rfl (by decide) u_852 dX11_tells_150 ?_
            refine g_sipush (pc := 153) C dX11_tells_153 (v := nI 1536) rfl ?_
            refine g_iload (pc := 156) C dX11_tells_156 6 rfl ?_
            refine g_iadd (pc := 158) C dX11_tells_158 (z := nI (1536 + (24 * r + x))) (nI_add _ _) ?_
            refine g_iconst (pc := 159) C dX11_tells_159 (v := nI 0) rfl ?_
            refine g_iast (pc := 160) C h_43 (nI_clamp (by omega)) (nI_in0 (n := 10511) (by omega) (by omega)) dX11_tells_160 ?_
            obtain ⟨Z_46, hZ_46⟩ : ∃ yZ : Nat → Int32, yZ = upd Z_40 (1536 + (24 * r + x)) (nI 0) := ⟨_, rfl⟩
            show V K 0 0 P A (va_up g_41 (m + 1) (ai 0 10511 (upd Z_40 (1536 + (24 * r + x)) (nI 0)))) [(0, .ref (A m)), (1, .int (nI r)), (2, .int (nI s)), (3, .int (nI k)), (4, .int (nI x)), (5, .int (nI y)), (6, .int (nI (24 * r + x)))] 161 []
            rw [← hZ_46]
            obtain ⟨g_47, hg_47⟩ : ∃ yM : pM, yM = va_up g_41 (m + 1) (ai 0 10511 Z_46) := ⟨_, rfl⟩
            show V K 0 0 P A (va_up g_41 (m + 1) (ai 0 10511 Z_46)) [(0, .ref (A m)), (1, .int (nI r)), (2, .int (nI s)), (3, .int (nI k)), (4, .int (nI x)), (5, .int (nI y)), (6, .int (nI (24 * r + x)))] 161 []
            rw [← hg_47]
            have h_48 : g_47 m = ob 11 [.ref (A (m + 1)), .int (nI (gZ σ).1), .int (nI (gZ σ).2.1), .int (nI (gZ σ).2.2.1), .int (nI (gZ σ).2.2.2.1), .int (nI (gZ σ).2.2.2.2), .ref (A (m + 2)), .int (nI cs.length), .ref (A (m + 3)), .int (nI lm), .ref (A (m + 4)), .ref (A (m + 5)), .int (nI gm), .ref (A (m + 6)), .ref (A (m + 7)), .ref (A (m + 8))] := by rw [hg_47, va_up_ne _ _ (show m ≠ m + 1 from by omega)]; exact h_42
            have h_49 : g_47 (m + 1) = ai 0 10511 Z_46 := by rw [hg_47]; exact va_up_self _ _ _
            have hf_50 : Fr g_41 g_47 (m + 1) (m + 1 + 1) := by rw [hg_47]; exact Fr.up (by omega) (by omega)
            have hp_51 := SO.fr hp_45 hf_50 (by omega)
            refine g_iconst (pc := 161) C dX11_tells_161 (v := nI 0) rfl ?_
            refine g_istore (pc := 162) C dX11_tells_162 (by decide) (lv' := [(0, .ref (A m)), (1, .int (nI r)), (2, .int (nI s)), (3, .int (nI k)), (4, .int (nI x)), (5, .int (nI y)), (6, .int (nI (24 * r + x))), (7, .int (nI 0))]) [1, 2, 3, 4, 5, 6, 7, 0] rfl ?_
            refine g_iconst (pc := 164) C dX11_tells_164 (v := nI 0) rfl ?_
            refine g_istore (pc := 165) C dX11_tells_165 (by decide) (lv' := [(0, .ref (A m)), (1, .int (nI r)), (2, .int (nI s)), (3, .int (nI k)), (4, .int (nI x)), (5, .int (nI y)), (6, .int (nI (24 * r + x))), (7, .int (nI 0)), (8, .int (nI 0))]) [1, 2, 3, 4, 5, 6, 7, 8, 0] rfl ?_
            refine g_iload (pc := 167) C dX11_tells_167 8 rfl ?_
            refine g_aload_n (pc := 169) C dX11_tells_169 0 rfl ?_
            refine g_get (pc := 170) C (j := 0) h_48 rfl rfl (by decide) u_852 dX11_tells_170 ?_
            refine g_sipush (pc := 173) C dX11_tells_173 (v := nI 1536) rfl ?_
            refine g_iload (pc := 176) C dX11_tells_176 6 rfl ?_
            refine g_iadd (pc := 178) C dX11_tells_178 (z := nI (1536 + (24 * r + x))) (nI_add _ _) ?_
            refine g_iald (pc := 179) C h_49 (nI_clamp (by omega)) (nI_in0 (n := 10511) (by omega) (by omega)) dX11_tells_179 (x := nI 0) (zeq hZ_46 (by omega)) ?_
            refine g_icmp_ge (pc := 180) C dX11_tells_180 (tgt := 222) (by decide) (fun c_180 => ?_) (fun c_180 => ?_)
            ·
              have c_180 : 0 ≤ 0 := (nI_leI (by omega) (by omega)).mp c_180
              refine g_iload (pc := 222) C dX11_tells_222 7 rfl ?_
              refine g_if_ne (pc := 224) C dX11_tells_224 (tgt := 269) (by decide) (fun c_224 => ?_) (fun c_224 => ?_)
              ·
                exfalso
                revert c_224; decide
              ·
                have c_224 : 0 = 0 := (nI_eq (by omega) (by omega)).mp c_224
                refine g_aload_n (pc := 227) C dX11_tells_227 0 rfl ?_
                refine g_get (pc := 228) C (j := 0) h_48 rfl rfl (by decide) u_852 dX11_tells_228 ?_
                refine g_sipush (pc := 231) C dX11_tells_231 (v := nI 1920) rfl ?_
                refine g_bipush (pc := 234) C dX11_tells_234 (v := nI 8) rfl ?_
                refine g_iload (pc := 236) C dX11_tells_236 6 rfl ?_
                refine g_imul (pc := 238) C dX11_tells_238 (z := nI (8 * (24 * r + x))) (pk_mul _ _) ?_
                refine g_iadd (pc := 239) C dX11_tells_239 (z := nI (1920 + (8 * (24 * r + x)))) (nI_add _ _) ?_
                refine g_aload_n (pc := 240) C dX11_tells_240 0 rfl ?_
                refine g_get (pc := 241) C (j := 0) h_48 rfl rfl (by decide) u_852 dX11_tells_241 ?_
                refine g_sipush (pc := 244) C dX11_tells_244 (v := nI 1536) rfl ?_
                refine g_iload (pc := 247) C dX11_tells_247 6 rfl ?_
                refine g_iadd (pc := 249) C dX11_tells_249 (z := nI (1536 + (24 * r + x))) (nI_add _ _) ?_
                refine g_iald (pc := 250) C h_49 (nI_clamp (by omega)) (nI_in0 (n := 10511) (by omega) (by omega)) dX11_tells_250 (x := nI 0) (zeq hZ_46 (by omega)) ?_
                refine g_iadd (pc := 251) C dX11_tells_251 (z := nI (1920 + (8 * (24 * r + x)) + 0)) (nI_add _ _) ?_
                refine g_iload_n (pc := 252) C dX11_tells_252 2 rfl ?_
                refine g_iast (pc := 253) C h_49 (nI_clamp (by omega)) (nI_in0 (n := 10511) (by omega) (by omega)) dX11_tells_253 ?_
                obtain ⟨Z_52, hZ_52⟩ : ∃ yZ : Nat → Int32, yZ = upd Z_46 (1920 + (8 * (24 * r + x)) + 0) (nI s) := ⟨_, rfl⟩
                show V K 0 0 P A (va_up g_47 (m + 1) (ai 0 10511 (upd Z_46 (1920 + (8 * (24 * r + x)) + 0) (nI s)))) [(0, .ref (A m)), (1, .int (nI r)), (2, .int (nI s)), (3, .int (nI k)), (4, .int (nI x)), (5, .int (nI y)), (6, .int (nI (24 * r + x))), (7, .int (nI 0)), (8, .int (nI 0))] 254 []
                rw [← hZ_52]
                obtain ⟨g_53, hg_53⟩ : ∃ yM : pM, yM = va_up g_47 (m + 1) (ai 0 10511 Z_52) := ⟨_, rfl⟩
                show V K 0 0 P A (va_up g_47 (m + 1) (ai 0 10511 Z_52)) [(0, .ref (A m)), (1, .int (nI r)), (2, .int (nI s)), (3, .int (nI k)), (4, .int (nI x)), (5, .int (nI y)), (6, .int (nI (24 * r + x))), (7, .int (nI 0)), (8, .int (nI 0))] 254 []
                rw [← hg_53]
                have h_54 : g_53 m = ob 11 [.ref (A (m + 1)), .int (nI (gZ σ).1), .int (nI (gZ σ).2.1), .int (nI (gZ σ).2.2.1), .int (nI (gZ σ).2.2.2.1), .int (nI (gZ σ).2.2.2.2), .ref (A (m + 2)), .int (nI cs.length), .ref (A (m + 3)), .int (nI lm), .ref (A (m + 4)), .ref (A (m + 5)), .int (nI gm), .ref (A (m + 6)), .ref (A (m + 7)), .ref (A (m + 8))] := by rw [hg_53, va_up_ne _ _ (show m ≠ m + 1 from by omega)]; exact h_48
                have h_55 : g_53 (m + 1) = ai 0 10511 Z_52 := by rw [hg_53]; exact va_up_self _ _ _
                have hf_56 : Fr g_47 g_53 (m + 1) (m + 1 + 1) := by rw [hg_53]; exact Fr.up (by omega) (by omega)
                have hp_57 := SO.fr hp_51 hf_56 (by omega)
                refine g_aload_n (pc := 254) C dX11_tells_254 0 rfl ?_
                refine g_get (pc := 255) C (j := 0) h_54 rfl rfl (by decide) u_852 dX11_tells_255 ?_
                refine g_sipush (pc := 258) C dX11_tells_258 (v := nI 1536) rfl ?_
                refine g_iload (pc := 261) C dX11_tells_261 6 rfl ?_
                refine g_iadd (pc := 263) C dX11_tells_263 (z := nI (1536 + (24 * r + x))) (nI_add _ _) ?_
                refine g_dup2 (pc := 264) C dX11_tells_264 rfl rfl ?_
                refine g_iald (pc := 265) C h_55 (nI_clamp (by omega)) (nI_in0 (n := 10511) (by omega) (by omega)) dX11_tells_265 (x := nI 0) (zne hZ_52 (by omega) (zeq hZ_46 (by omega))) ?_
                refine g_iconst (pc := 266) C dX11_tells_266 (v := nI 1) rfl ?_
                refine g_iadd (pc := 267) C dX11_tells_267 (z := nI 1) (nI_add _ _) ?_
                refine g_iast (pc := 268) C h_55 (nI_clamp (by omega)) (nI_in0 (n := 10511) (by omega) (by omega)) dX11_tells_268 ?_
                obtain ⟨Z_58, hZ_58⟩ : ∃ yZ : Nat → Int32, yZ = upd Z_52 (1536 + (24 * r + x)) (nI 1) := ⟨_, rfl⟩
                show V K 0 0 P A (va_up g_53 (m + 1) (ai 0 10511 (upd Z_52 (1536 + (24 * r + x)) (nI 1)))) [(0, .ref (A m)), (1, .int (nI r)), (2, .int (nI s)), (3, .int (nI k)), (4, .int (nI x)), (5, .int (nI y)), (6, .int (nI (24 * r + x))), (7, .int (nI 0)), (8, .int (nI 0))] 269 []
                rw [← hZ_58]
                obtain ⟨g_59, hg_59⟩ : ∃ yM : pM, yM = va_up g_53 (m + 1) (ai 0 10511 Z_58) := ⟨_, rfl⟩
                show V K 0 0 P A (va_up g_53 (m + 1) (ai 0 10511 Z_58)) [(0, .ref (A m)), (1, .int (nI r)), (2, .int (nI s)), (3, .int (nI k)), (4, .int (nI x)), (5, .int (nI y)), (6, .int (nI (24 * r + x))), (7, .int (nI 0)), (8, .int (nI 0))] 269 []
                rw [← hg_59]
                have h_60 : g_59 m = ob 11 [.ref (A (m + 1)), .int (nI (gZ σ).1), .int (nI (gZ σ).2.1), .int (nI (gZ σ).2.2.1), .int (nI (gZ σ).2.2.2.1), .int (nI (gZ σ).2.2.2.2), .ref (A (m + 2)), .int (nI cs.length), .ref (A (m + 3)), .int (nI lm), .ref (A (m + 4)), .ref (A (m + 5)), .int (nI gm), .ref (A (m + 6)), .ref (A (m + 7)), .ref (A (m + 8))] := by rw [hg_59, va_up_ne _ _ (show m ≠ m + 1 from by omega)]; exact h_54
                have h_61 : g_59 (m + 1) = ai 0 10511 Z_58 := by rw [hg_59]; exact va_up_self _ _ _
                have hf_62 : Fr g_53 g_59 (m + 1) (m + 1 + 1) := by rw [hg_59]; exact Fr.up (by omega) (by omega)
                have hp_63 := SO.fr hp_57 hf_62 (by omega)
                refine g_goto (pc := 269) C dX11_tells_269 (tgt := 331) (by decide) ?_
                exact g_vret (pc := 331) C R ⟨rfl, rfl, rfl, ⟨_, h_61, by rw [c_82]; show RZ _ (nto σ r s x); rw [nto_y c_6 hh, hm, show ntm σ none s = some (gTi σ + nI (gZ σ).2.2.2.2, [s]) from rfl]; exact RZ.mi4 hR hr hx24 hZ_34 hZ_40 hZ_46 hZ_52 hZ_58⟩, fun k hk => by rw [hg_59, va_up_ne _ _ (by omega), hg_53, va_up_ne _ _ (by omega), hg_47, va_up_ne _ _ (by omega), hg_41, va_up_ne _ _ (by omega), hg_35, va_up_ne _ _ (by omega)]⟩ (by decide) (by decide) dX11_tells_331
            ·
              exfalso
              revert c_180; decide
    ·
      have c_22 : k = 9 := (nI_eq (by omega) (by omega)).mp c_22
      have hx24 : x < 24 := by omega
      have hy30 := hy9 c_22
      refine g_aload_n (pc := 25) C dX11_tells_25 0 rfl ?_
      refine g_get (pc := 26) C (j := 0) hO rfl rfl (by decide) u_852 dX11_tells_26 ?_
      refine g_sipush (pc := 29) C dX11_tells_29 (v := nI 384) rfl ?_
      refine g_iload (pc := 32) C dX11_tells_32 6 rfl ?_
      refine g_iadd (pc := 34) C dX11_tells_34 (z := nI (384 + (24 * r + x))) (nI_add _ _) ?_
      refine g_iald (pc := 35) C hZ (nI_clamp (by omega)) (nI_in0 (n := 10511) (by omega) (by omega)) dX11_tells_35 (x := onv (nHo (gN σ r) x)) (RZ.rHo hR (r := r) (t := x) (by omega) (by omega) (by omega)) ?_
      refine g_if_ge (pc := 36) C dX11_tells_36 (tgt := 59) (by decide) (fun c_36 => ?_) (fun c_36 => ?_)
      ·
        have hh : ¬ nHo (gN σ r) x = none := fun z => i32_nlt c_36 ((onv_ltb (fun q hq => by have := hn.2.2.2.2.2.2.2.2.1 x q hq; omega)).mpr z)
        refine g_aload_n (pc := 59) C dX11_tells_59 0 rfl ?_
        refine g_iload_n (pc := 60) C dX11_tells_60 1 rfl ?_
        refine g_iload_n (pc := 61) C dX11_tells_61 2 rfl ?_
        refine g_iconst (pc := 62) C dX11_tells_62 (v := nI 1) rfl ?_
        refine g_callV (pc := 63) C (As := [.int (nI r), .int (nI s), .int (nI 1)]) (rest := []) (b := m) (c_X11_setLazy1 A P g m r s (by omega) c_6 hS hO hZ hR) hO rfl rfl Y_X11_setLazy u_1005 N_X11_setLazy ⟨by decide, by decide⟩ ⟨by decide, by decide⟩ (Nat.le_of_ble_eq_true rfl) rfl dX11_tells_63 ?_
        rintro _ _ _ g_64 ⟨rfl, rfl, rfl, ⟨Z_65, hZ_65, hR_66⟩, hf_67⟩
        have h_68 := hf_67.at (by omega) hO
        have hp_69 := SO.fr hl3 hf_67 (by omega)
        obtain ⟨σ70, hσ70⟩ : ∃ sM : Sg, sM = lzS σ r s := ⟨_, rfl⟩
        rw [← hσ70] at hR_66
        have hK_σ70 : gK σ70 = gK σ := (congrArg gK hσ70).trans (rfl : gK σ = gK σ)
        have hT_σ70 : gT σ70 = gT σ := (congrArg gT hσ70).trans (rfl : gT σ = gT σ)
        have hZ_σ70 : gZ σ70 = gZ σ := (congrArg gZ hσ70).trans (rfl : gZ σ = gZ σ)
        have hS_σ70 : SW B cs σ70 := by rw [hσ70]; exact SW.lzS hS (by omega) c_6
        show V K 0 0 P A g_64 [(0, .ref (A m)), (1, .int (nI r)), (2, .int (nI s)), (3, .int (nI k)), (4, .int (nI x)), (5, .int (nI y)), (6, .int (nI (24 * r + x)))] 66 []
        refine g_aload_n (pc := 66) C dX11_tells_66 0 rfl ?_
        refine g_iload_n (pc := 67) C dX11_tells_67 1 rfl ?_
        refine g_iload_n (pc := 68) C dX11_tells_68 2 rfl ?_
        refine g_bipush (pc := 69) C dX11_tells_69 (v := nI 11) rfl ?_
        refine g_iconst (pc := 71) C dX11_tells_71 (v := nI 0) rfl ?_
        refine g_iconst (pc := 72) C dX11_tells_72 (v := nI 0) rfl ?_
        refine g_callV (pc := 73) C (As := [.int (nI r), .int (nI s), .int (nI 11), .int (nI 0), .int (nI 0)]) (rest := []) (b := m) (c_X11_send A P g_64 m r s 11 0 0 hp_69 (by omega) (by rw [hZ_σ70]; exact h_68) hZ_65 hR_66) h_68 rfl rfl Y_X11_send u_933 N_X11_send ⟨by decide, by decide⟩ ⟨by decide, by decide⟩ (Nat.le_of_ble_eq_true rfl) rfl dX11_tells_73 ?_
        rintro _ _ _ g_71 ⟨rfl, rfl, rfl, ⟨Z_72, hZ_72, hR_73⟩, hf_74⟩
        have h_75 := hf_74.at (by omega) h_68
        have hp_76 := SO.fr hp_69 hf_74 (by omega)
        obtain ⟨σ77, hσ77⟩ : ∃ sM : Sg, sM = snd σ70 r s 11 0 0 [] := ⟨_, rfl⟩
        rw [← hσ77] at hR_73
        have hK_σ77 : gK σ77 = gK σ := (congrArg gK hσ77).trans (snd_K.trans hK_σ70)
        have hT_σ77 : gT σ77 = gT σ := (congrArg gT hσ77).trans (snd_T.trans hT_σ70)
        have hZ_σ77 : gZ σ77 = gZ σ := (congrArg gZ hσ77).trans (snd_Z.trans hZ_σ70)
        have hS_σ77 : SW B cs σ77 := by rw [hσ77]; exact SW.sent hS_σ70 (by omega) (by omega) (lw_c (by omega) (by omega))
        show V K 0 0 P A g_71 [(0, .ref (A m)), (1, .int (nI r)), (2, .int (nI s)), (3, .int (nI k)), (4, .int (nI x)), (5, .int (nI y)), (6, .int (nI (24 * r + x)))] 76 []
        refine g_goto (pc := 76) C dX11_tells_76 (tgt := 331) (by decide) ?_
        exact g_vret (pc := 331) C R ⟨rfl, rfl, rfl, ⟨_, hZ_72, by rw [c_22]; show RZ _ (tel σ r s x y); rw [tel_y c_6 hh hσ70 hσ77]; exact hR_73⟩, fun k hk => by rw [hf_74 k (by omega), hf_67 k (by omega)]⟩ (by decide) (by decide) dX11_tells_331
      ·
        have hh := (onv_ltb (fun q hq => by have := hn.2.2.2.2.2.2.2.2.1 x q hq; omega)).mp (i32_lt c_36)
        refine g_aload_n (pc := 39) C dX11_tells_39 0 rfl ?_
        refine g_iload_n (pc := 40) C dX11_tells_40 1 rfl ?_
        refine g_iload_n (pc := 41) C dX11_tells_41 2 rfl ?_
        refine g_iconst (pc := 42) C dX11_tells_42 (v := nI 0) rfl ?_
        refine g_callV (pc := 43) C (As := [.int (nI r), .int (nI s), .int (nI 0)]) (rest := []) (b := m) (c_X11_setLazy0 A P g m r s (by omega) c_6 hS hO hZ hR) hO rfl rfl Y_X11_setLazy u_1005 N_X11_setLazy ⟨by decide, by decide⟩ ⟨by decide, by decide⟩ (Nat.le_of_ble_eq_true rfl) rfl dX11_tells_43 ?_
        rintro _ _ _ g_78 ⟨rfl, rfl, rfl, ⟨Z_79, hZ_79, hR_80⟩, hf_81⟩
        have h_82 := hf_81.at (by omega) hO
        have hp_83 := SO.fr hl3 hf_81 (by omega)
        obtain ⟨σ84, hσ84⟩ : ∃ sM : Sg, sM = egS σ r s := ⟨_, rfl⟩
        rw [← hσ84] at hR_80
        have hK_σ84 : gK σ84 = gK σ := (congrArg gK hσ84).trans (rfl : gK σ = gK σ)
        have hT_σ84 : gT σ84 = gT σ := (congrArg gT hσ84).trans (rfl : gT σ = gT σ)
        have hZ_σ84 : gZ σ84 = gZ σ := (congrArg gZ hσ84).trans (rfl : gZ σ = gZ σ)
        have hS_σ84 : SW B cs σ84 := by rw [hσ84]; exact SW.egS hS (by omega)
        show V K 0 0 P A g_78 [(0, .ref (A m)), (1, .int (nI r)), (2, .int (nI s)), (3, .int (nI k)), (4, .int (nI x)), (5, .int (nI y)), (6, .int (nI (24 * r + x)))] 46 []
        refine g_aload_n (pc := 46) C dX11_tells_46 0 rfl ?_
        refine g_iload_n (pc := 47) C dX11_tells_47 1 rfl ?_
        refine g_iload (pc := 48) C dX11_tells_48 4 rfl ?_
        refine g_iload_n (pc := 50) C dX11_tells_50 2 rfl ?_
        refine g_iload (pc := 51) C dX11_tells_51 5 rfl ?_
        refine g_callV (pc := 53) C (As := [.int (nI r), .int (nI x), .int (nI s), .int (nI y)]) (rest := []) (b := m) (c_X11_hear A P g_78 m r x y (some s) (by omega) (by omega) (by omega) (fun q hq => by cases hq; omega) hS_σ84 hp_83 (by rw [hZ_σ84]; exact h_82) hZ_79 hR_80) h_82 rfl rfl Y_X11_hear u_993 N_X11_hear ⟨by decide, by decide⟩ ⟨by decide, by decide⟩ (Nat.le_of_ble_eq_true rfl) rfl dX11_tells_53 ?_
        rintro _ _ _ g_85 ⟨rfl, rfl, rfl, ⟨Z_86, hZ_86, hR_87⟩, hf_88⟩
        have h_89 := hf_88.at (by omega) h_82
        have hp_90 := SO.fr hp_83 hf_88 (by omega)
        obtain ⟨σ91, hσ91⟩ : ∃ sM : Sg, sM = her σ84 r x y (some s) := ⟨_, rfl⟩
        rw [← hσ91] at hR_87
        have hK_σ91 : gK σ91 = gK σ := (congrArg gK hσ91).trans (her_K.trans hK_σ84)
        have hT_σ91 : gT σ91 = gT σ := (congrArg gT hσ91).trans (her_T.trans hT_σ84)
        have hZ_σ91 : gZ σ91 = gZ σ := (congrArg gZ hσ91).trans (her_Z.trans hZ_σ84)
        show V K 0 0 P A g_85 [(0, .ref (A m)), (1, .int (nI r)), (2, .int (nI s)), (3, .int (nI k)), (4, .int (nI x)), (5, .int (nI y)), (6, .int (nI (24 * r + x)))] 56 []
        refine g_goto (pc := 56) C dX11_tells_56 (tgt := 331) (by decide) ?_
        exact g_vret (pc := 331) C R ⟨rfl, rfl, rfl, ⟨_, hZ_86, by rw [c_22]; show RZ _ (tel σ r s x y); rw [tel_n c_6 hh hσ84 hσ91]; exact hR_87⟩, fun k hk => by rw [hf_88 k (by omega), hf_81 k (by omega)]⟩ (by decide) (by decide) dX11_tells_331
  ·
    have c_6 : (decide (s ∈ nAc (gN σ r))) = false := b32_yes c_6
    have c_6 : ¬ (s ∈ nAc (gN σ r)) := of_decide_eq_false c_6
    exact g_vret (pc := 9) C R ⟨rfl, rfl, rfl, ⟨_, hZ, by rw [show cme2 cs σ r s k x y l = σ from by rcases hk with rfl | rfl | rfl; exact tel_no c_6; exact nto_no (Or.inl c_6); exact cho_no c_6]; exact hR⟩, fun k hk => rfl⟩ (by decide) (by decide) dX11_tells_9
abbrev rm_X11_mixes : Room := { frames := 3, cells := 0, slots := 0, locals := 76 }
theorem Y_X11_mixes : pY yX11_mixes cX11_mixes 9 (Option.none : Option Jvm.ClassFile.FieldType) := ⟨u_1063, us_30, u_13, u_1064⟩
theorem N_X11_mixes : yX11_mixes.cls ≠ "java/lang/invoke/MethodHandle" ∧ yX11_mixes.cls ≠ "java/lang/invoke/VarHandle" ∧ (parseMethodDescriptor yX11_mixes.desc).map (fun d => d.parameters.length) = some 5 := by decide +kernel
set_option maxRecDepth 20000 in
set_option maxHeartbeats 4000000 in
theorem c_X11_mixes (A : Nat → Nat) (P : List Nat) (g : pM) (m : Nat) {cs : List Nat} {lm : Nat} {Z : Nat → Int32} {σ : Sg} {B : Nat} (r s k x y : Nat) (l : List Nat) (hr : r < gK σ) (hs : s < gK σ) (hk : k = 7 ∨ k = 8) (hx31 : x < 2 ^ 31) (hxK : k = 7 → x < gK σ) (hy : y < 2 ^ 31) (hlK : ∀ q ∈ l, q < gK σ) (hgot : SO g (m + 5) 5 l) (hS : SW B cs σ) (hC : MC g m cs) {l3 : List Nat} (hl3 : SO g (m + 3) 5 l3) {l4 : List Nat} (hl4 : SO g (m + 4) 16 l4) (hO : g m = mOb A m (gZ σ) cs.length lm l.length) (hZ : g (m + 1) = ai 0 10511 Z) (hR : RZ Z σ) : PM yX11_mixes cX11_mixes 9 (Option.none : Option Jvm.ClassFile.FieldType) rm_X11_mixes [.ref (A m), .int (nI r), .int (nI s), .int (nI k), .int (nI x), .int (nI y)] P A g (fun v g' => v = none ∧ ZS g' m (cme2 cs σ r s k x y l) ∧ ∃ lm' l3' l4', g' m = mOb A m (gZ σ) cs.length lm' l.length ∧ SO g' (m + 3) 5 l3' ∧ SO g' (m + 4) 16 l4' ∧ SO g' (m + 5) 5 l ∧ FrA g g' m) := by
  have hK := hR.k16
  have hT := hR.t24
  have hL := hR.le
  have hzw := hS.2.2.2.1
  have hz0 := hzw.1
  have hz1 := hzw.2.1
  have hz2 := hzw.2.2.1
  have hz3 := hzw.2.2.2.1
  have hn := hS.nw hr
  have hle1 := hn.2.2.2.2.1
  have hle2 := hn.2.2.2.2.2.1
  have hc5 := hR.ac5 hr
  have hc8 := hR.pa8 hr
  have ha16 := hS.a16 hr
  have hp16 := hS.p16 hr
  obtain ⟨hg0, rg, hg1, hg2⟩ := hgot
  refine px_intro (by decide +kernel) (Nat.le_of_ble_eq_true rfl) (fun K sz C R => ?_)
  show V K 0 0 P A g [(0, .ref (A m)), (1, .int (nI r)), (2, .int (nI s)), (3, .int (nI k)), (4, .int (nI x)), (5, .int (nI y))] 0 []
  refine g_iload_n (pc := 0) C dX11_mixes_0 3 rfl ?_
  refine g_bipush (pc := 1) C dX11_mixes_1 (v := nI 7) rfl ?_
  refine g_icmp_ne (pc := 3) C dX11_mixes_3 (tgt := 178) (by decide) (fun c_3 => ?_) (fun c_3 => ?_)
  ·
    have c_3 : ¬ k = 7 := fun h => c_3 ((nI_eq (a := k) (b := 7) (by omega) (by omega)).mpr h)
    refine g_iconst (pc := 178) C dX11_mixes_178 (v := nI 0) rfl ?_
    refine g_istore (pc := 179) C dX11_mixes_179 (by decide) (lv' := [(0, .ref (A m)), (1, .int (nI r)), (2, .int (nI s)), (3, .int (nI k)), (4, .int (nI x)), (5, .int (nI y)), (6, .int (nI 0))]) [1, 2, 3, 4, 5, 6, 0] rfl ?_
    have lp_181 : ∀ (fuel : Nat) (gm181 : pM) (hm181 : Fr g gm181 (m + 1) (m + 2)) (j : Nat) (hj : j ≤ l.length) (hz181 : ZS gm181 m (tkL cs σ r (l.take j))) (hS181 : SW B cs (tkL cs σ r (l.take j))), l.length - j < fuel → V K 0 0 P A gm181 [(0, .ref (A m)), (1, .int (nI r)), (2, .int (nI s)), (3, .int (nI k)), (4, .int (nI x)), (5, .int (nI y)), (6, .int (nI j))] 181 [] := by
      intro fuel
      induction fuel with
      | zero => intro gm181 hm181 j hj hz181 hS181 hμ; exact absurd hμ (Nat.not_lt_zero _)
      | succ fuel ih =>
        intro gm181 hm181 j hj hz181 hS181 hμ
        have h_1 := hm181.at (by omega) hO
        have h_2 := hm181.at (by omega) hg1
        have hp_3 := MC.fr hC hm181 (by omega)
        have hp_4 := SO.fr hl3 hm181 (by omega)
        have hp_5 := SO.fr hl4 hm181 (by omega)
        obtain ⟨Zl, hZl, hRl⟩ := hz181
        obtain ⟨σ6, hσ6⟩ : ∃ sM : Sg, sM = tkL cs σ r (l.take j) := ⟨_, rfl⟩
        rw [← hσ6] at hRl
        have hK_σ6 : gK σ6 = gK σ := (congrArg gK hσ6).trans (tkL_K.trans (rfl : gK σ = gK σ))
        have hT_σ6 : gT σ6 = gT σ := (congrArg gT hσ6).trans (tkL_T.trans (rfl : gT σ = gT σ))
        have hZ_σ6 : gZ σ6 = gZ σ := (congrArg gZ hσ6).trans (tkL_Z.trans (rfl : gZ σ = gZ σ))
        have hS_σ6 : SW B cs σ6 := by rw [hσ6]; exact hS181
        refine g_iload (pc := 181) C dX11_mixes_181 6 rfl ?_
        refine g_aload_n (pc := 183) C dX11_mixes_183 0 rfl ?_
        refine g_get (pc := 184) C (j := 12) h_1 rfl rfl (by decide) u_864 dX11_mixes_184 ?_
        refine g_icmp_ge (pc := 187) C dX11_mixes_187 (tgt := 208) (by decide) (fun c_187 => ?_) (fun c_187 => ?_)
        ·
          have c_187 : l.length ≤ j := (nI_leI (by omega) (by omega)).mp c_187
          exact g_vret (pc := 208) C R ⟨rfl, rfl, rfl, ⟨_, hZl, by rw [show k = 8 by omega]; show RZ _ (tkL cs σ r l); rw [← tkL_e (show l.length ≤ j by omega), ← hσ6]; exact hRl⟩, _, _, _, h_1, hp_4, hp_5, ⟨hg0, rg, h_2, hg2⟩, fun k hk => by rw [hm181 k (by omega)]⟩ (by decide) (by decide) dX11_mixes_208
        ·
          have c_187 : ¬ l.length ≤ j := fun h => c_187 ((nI_leI (a := l.length) (b := j) (by omega) (by omega)).mpr h)
          have hjv := hlK _ (getD_mem (k := j) (by omega))
          refine g_aload_n (pc := 190) C dX11_mixes_190 0 rfl ?_
          refine g_iload_n (pc := 191) C dX11_mixes_191 1 rfl ?_
          refine g_aload_n (pc := 192) C dX11_mixes_192 0 rfl ?_
          refine g_get (pc := 193) C (j := 11) h_1 rfl rfl (by decide) u_863 dX11_mixes_193 ?_
          refine g_iload (pc := 196) C dX11_mixes_196 6 rfl ?_
          refine g_iald (pc := 198) C h_2 (nI_clamp (by omega)) (nI_in0 (by omega) (by omega)) dX11_mixes_198 (x := nI (l.getD j 0)) (hg2 _ (by omega)) ?_
          refine g_callV (pc := 199) C (As := [.int (nI r), .int (nI (l.getD j 0))]) (rest := []) (b := m) (c_X11_note A P gm181 m r (l.getD j 0) (by omega) (by omega) hS_σ6 hp_3 (by rw [hZ_σ6]; exact h_1) hZl hRl) h_1 rfl rfl Y_X11_note u_1045 N_X11_note ⟨by decide, by decide⟩ ⟨by decide, by decide⟩ (Nat.le_of_ble_eq_true rfl) rfl dX11_mixes_199 ?_
          rintro _ _ _ g_7 ⟨rfl, rfl, rfl, ⟨Z_8, hZ_8, hR_9⟩, hf_10⟩
          have h_11 := hf_10.at (by omega) h_1
          have h_12 := hf_10.at (by omega) h_2
          have hp_13 := MC.fr hp_3 hf_10 (by omega)
          have hp_14 := SO.fr hp_4 hf_10 (by omega)
          have hp_15 := SO.fr hp_5 hf_10 (by omega)
          obtain ⟨σ16, hσ16⟩ : ∃ sM : Sg, sM = nte cs σ6 r (l.getD j 0) := ⟨_, rfl⟩
          rw [← hσ16] at hR_9
          have hK_σ16 : gK σ16 = gK σ := (congrArg gK hσ16).trans (nte_K.trans hK_σ6)
          have hT_σ16 : gT σ16 = gT σ := (congrArg gT hσ16).trans (nte_T.trans hT_σ6)
          have hZ_σ16 : gZ σ16 = gZ σ := (congrArg gZ hσ16).trans (nte_Z.trans hZ_σ6)
          have hS_σ16 : SW B cs σ16 := by rw [hσ16]; exact nte_SW hS_σ6 (by omega) (by omega)
          show V K 0 0 P A g_7 [(0, .ref (A m)), (1, .int (nI r)), (2, .int (nI s)), (3, .int (nI k)), (4, .int (nI x)), (5, .int (nI y)), (6, .int (nI j))] 202 []
          refine g_iinc (pc := 202) C dX11_mixes_202 (by decide) 6 rfl (v := nI (j + 1)) (nI_i1 _) (lv' := [(0, .ref (A m)), (1, .int (nI r)), (2, .int (nI s)), (3, .int (nI k)), (4, .int (nI x)), (5, .int (nI y)), (6, .int (nI (j + 1)))]) [1, 2, 3, 4, 5, 6, 0] rfl ?_
          refine g_goto (pc := 205) C dX11_mixes_205 (tgt := 181) (by decide) ?_
          exact ih g_7 (hm181.tr (fun k hk => by rw [hf_10 k (by omega)])) (j + 1) (by omega) ⟨_, hZ_8, by rw [tkL_s (by omega), ← hσ6, ← hσ16]; exact hR_9⟩ (by rw [tkL_s (by omega), ← hσ6, ← hσ16]; exact hS_σ16) (by omega)
    exact lp_181 (_ + 1) g Fr.rf 0 (Nat.zero_le _) ⟨_, hZ, hR⟩ hS (Nat.lt_succ_self _)
  ·
    have c_3 : k = 7 := (nI_eq (by omega) (by omega)).mp c_3
    have hxk := hxK (by omega)
    refine g_aload_n (pc := 6) C dX11_mixes_6 0 rfl ?_
    refine g_iload_n (pc := 7) C dX11_mixes_7 1 rfl ?_
    refine g_iload_n (pc := 8) C dX11_mixes_8 2 rfl ?_
    refine g_iload (pc := 9) C dX11_mixes_9 4 rfl ?_
    refine g_callV (pc := 11) C (As := [.int (nI r), .int (nI s), .int (nI x)]) (rest := []) (b := m) (c_X11_without A P g m r s x (by omega) (by omega) (by omega) (hS.a16 (by omega)) hl4 hO hZ hR) hO rfl rfl Y_X11_without u_977 N_X11_without ⟨by decide, by decide⟩ ⟨by decide, by decide⟩ (Nat.le_of_ble_eq_true rfl) rfl dX11_mixes_11 ?_
    rintro _ _ _ g_17 ⟨rfl, rfl, rfl, hs_19, hf_18⟩
    have h_20 := hf_18.at (by omega) hO
    have h_21 := hf_18.at (by omega) hZ
    have h_22 := hf_18.at (by omega) hg1
    have hp_23 := MC.fr hC hf_18 (by omega)
    have hp_24 := SO.fr hl3 hf_18 (by omega)
    show V K 0 0 P A g_17 [(0, .ref (A m)), (1, .int (nI r)), (2, .int (nI s)), (3, .int (nI k)), (4, .int (nI x)), (5, .int (nI y))] 14 [.int (nI (wof (some s) (some x) (nAc (gN σ r))).length)]
    have hwl : (wof (some s) (some x) (nAc (gN σ r))).length ≤ 5 := Nat.le_trans (List.length_filter_le _ _) (RZ.ac5 hR (r := r) (by omega))
    have hsx := hs_19
    obtain ⟨hw0, rw4, hw1, hw2⟩ := hsx
    refine g_istore (pc := 14) C dX11_mixes_14 (by decide) (lv' := [(0, .ref (A m)), (1, .int (nI r)), (2, .int (nI s)), (3, .int (nI k)), (4, .int (nI x)), (5, .int (nI y)), (6, .int (nI (wof (some s) (some x) (nAc (gN σ r))).length))]) [1, 2, 3, 4, 5, 6, 0] rfl ?_
    refine g_iload (pc := 16) C dX11_mixes_16 5 rfl ?_
    refine g_iconst (pc := 18) C dX11_mixes_18 (v := nI 1) rfl ?_
    refine g_icmp_le (pc := 19) C dX11_mixes_19 (tgt := 92) (by decide) (fun c_19 => ?_) (fun c_19 => ?_)
    ·
      have c_19 : y ≤ 1 := (nI_leI (by omega) (by omega)).mp c_19
      have hxk := hxK (by omega)
      refine g_iload (pc := 92) C dX11_mixes_92 4 rfl ?_
      refine g_iload_n (pc := 94) C dX11_mixes_94 1 rfl ?_
      refine g_icmp_eq (pc := 95) C dX11_mixes_95 (tgt := 178) (by decide) (fun c_95 => ?_) (fun c_95 => ?_)
      ·
        have c_95 : x = r := (nI_eq (by omega) (by omega)).mp c_95
        refine g_iconst (pc := 178) C dX11_mixes_178 (v := nI 0) rfl ?_
        refine g_istore (pc := 179) C dX11_mixes_179 (by decide) (lv' := [(0, .ref (A m)), (1, .int (nI r)), (2, .int (nI s)), (3, .int (nI k)), (4, .int (nI x)), (5, .int (nI y)), (6, .int (nI 0))]) [1, 2, 3, 4, 5, 6, 0] rfl ?_
        have lp_181 : ∀ (fuel : Nat) (gm181 : pM) (hm181 : Fr g_17 gm181 (m + 1) (m + 2)) (j : Nat) (hj : j ≤ l.length) (hz181 : ZS gm181 m (tkL cs σ r (l.take j))) (hS181 : SW B cs (tkL cs σ r (l.take j))), l.length - j < fuel → V K 0 0 P A gm181 [(0, .ref (A m)), (1, .int (nI r)), (2, .int (nI s)), (3, .int (nI k)), (4, .int (nI x)), (5, .int (nI y)), (6, .int (nI j))] 181 [] := by
          intro fuel
          induction fuel with
          | zero => intro gm181 hm181 j hj hz181 hS181 hμ; exact absurd hμ (Nat.not_lt_zero _)
          | succ fuel ih =>
            intro gm181 hm181 j hj hz181 hS181 hμ
            have h_25 := hm181.at (by omega) h_20
            have h_26 := hm181.at (by omega) h_22
            have h_27 := hm181.at (by omega) hw1
            have hp_28 := MC.fr hp_23 hm181 (by omega)
            have hp_29 := SO.fr hp_24 hm181 (by omega)
            have hp_30 := SO.fr hs_19 hm181 (by omega)
            obtain ⟨Zl, hZl, hRl⟩ := hz181
            obtain ⟨σ31, hσ31⟩ : ∃ sM : Sg, sM = tkL cs σ r (l.take j) := ⟨_, rfl⟩
            rw [← hσ31] at hRl
            have hK_σ31 : gK σ31 = gK σ := (congrArg gK hσ31).trans (tkL_K.trans (rfl : gK σ = gK σ))
            have hT_σ31 : gT σ31 = gT σ := (congrArg gT hσ31).trans (tkL_T.trans (rfl : gT σ = gT σ))
            have hZ_σ31 : gZ σ31 = gZ σ := (congrArg gZ hσ31).trans (tkL_Z.trans (rfl : gZ σ = gZ σ))
            have hS_σ31 : SW B cs σ31 := by rw [hσ31]; exact hS181
            refine g_iload (pc := 181) C dX11_mixes_181 6 rfl ?_
            refine g_aload_n (pc := 183) C dX11_mixes_183 0 rfl ?_
            refine g_get (pc := 184) C (j := 12) h_25 rfl rfl (by decide) u_864 dX11_mixes_184 ?_
            refine g_icmp_ge (pc := 187) C dX11_mixes_187 (tgt := 208) (by decide) (fun c_187 => ?_) (fun c_187 => ?_)
            ·
              have c_187 : l.length ≤ j := (nI_leI (by omega) (by omega)).mp c_187
              exact g_vret (pc := 208) C R ⟨rfl, rfl, rfl, ⟨_, hZl, by rw [show k = 7 by omega]; show RZ _ (mixS cs σ r s x y l); rw [mixS_t (by omega), if_pos c_95, ← tkL_e (show l.length ≤ j by omega), ← hσ31]; exact hRl⟩, _, _, _, h_25, hp_29, hp_30, ⟨hg0, rg, h_26, hg2⟩, fun k hk => by rw [hm181 k (by omega), hf_18 k (by omega)]⟩ (by decide) (by decide) dX11_mixes_208
            ·
              have c_187 : ¬ l.length ≤ j := fun h => c_187 ((nI_leI (a := l.length) (b := j) (by omega) (by omega)).mpr h)
              have hjv := hlK _ (getD_mem (k := j) (by omega))
              refine g_aload_n (pc := 190) C dX11_mixes_190 0 rfl ?_
              refine g_iload_n (pc := 191) C dX11_mixes_191 1 rfl ?_
              refine g_aload_n (pc := 192) C dX11_mixes_192 0 rfl ?_
              refine g_get (pc := 193) C (j := 11) h_25 rfl rfl (by decide) u_863 dX11_mixes_193 ?_
              refine g_iload (pc := 196) C dX11_mixes_196 6 rfl ?_
              refine g_iald (pc := 198) C h_26 (nI_clamp (by omega)) (nI_in0 (by omega) (by omega)) dX11_mixes_198 (x := nI (l.getD j 0)) (hg2 _ (by omega)) ?_
              refine g_callV (pc := 199) C (As := [.int (nI r), .int (nI (l.getD j 0))]) (rest := []) (b := m) (c_X11_note A P gm181 m r (l.getD j 0) (by omega) (by omega) hS_σ31 hp_28 (by rw [hZ_σ31]; exact h_25) hZl hRl) h_25 rfl rfl Y_X11_note u_1045 N_X11_note ⟨by decide, by decide⟩ ⟨by decide, by decide⟩ (Nat.le_of_ble_eq_true rfl) rfl dX11_mixes_199 ?_
              rintro _ _ _ g_32 ⟨rfl, rfl, rfl, ⟨Z_33, hZ_33, hR_34⟩, hf_35⟩
              have h_36 := hf_35.at (by omega) h_25
              have h_37 := hf_35.at (by omega) h_26
              have h_38 := hf_35.at (by omega) h_27
              have hp_39 := MC.fr hp_28 hf_35 (by omega)
              have hp_40 := SO.fr hp_29 hf_35 (by omega)
              have hp_41 := SO.fr hp_30 hf_35 (by omega)
              obtain ⟨σ42, hσ42⟩ : ∃ sM : Sg, sM = nte cs σ31 r (l.getD j 0) := ⟨_, rfl⟩
              rw [← hσ42] at hR_34
              have hK_σ42 : gK σ42 = gK σ := (congrArg gK hσ42).trans (nte_K.trans hK_σ31)
              have hT_σ42 : gT σ42 = gT σ := (congrArg gT hσ42).trans (nte_T.trans hT_σ31)
              have hZ_σ42 : gZ σ42 = gZ σ := (congrArg gZ hσ42).trans (nte_Z.trans hZ_σ31)
              have hS_σ42 : SW B cs σ42 := by rw [hσ42]; exact nte_SW hS_σ31 (by omega) (by omega)
              show V K 0 0 P A g_32 [(0, .ref (A m)), (1, .int (nI r)), (2, .int (nI s)), (3, .int (nI k)), (4, .int (nI x)), (5, .int (nI y)), (6, .int (nI j))] 202 []
              refine g_iinc (pc := 202) C dX11_mixes_202 (by decide) 6 rfl (v := nI (j + 1)) (nI_i1 _) (lv' := [(0, .ref (A m)), (1, .int (nI r)), (2, .int (nI s)), (3, .int (nI k)), (4, .int (nI x)), (5, .int (nI y)), (6, .int (nI (j + 1)))]) [1, 2, 3, 4, 5, 6, 0] rfl ?_
              refine g_goto (pc := 205) C dX11_mixes_205 (tgt := 181) (by decide) ?_
              exact ih g_32 (hm181.tr (fun k hk => by rw [hf_35 k (by omega)])) (j + 1) (by omega) ⟨_, hZ_33, by rw [tkL_s (by omega), ← hσ31, ← hσ42]; exact hR_34⟩ (by rw [tkL_s (by omega), ← hσ31, ← hσ42]; exact hS_σ42) (by omega)
        exact lp_181 (_ + 1) g_17 Fr.rf 0 (Nat.zero_le _) ⟨_, h_21, hR⟩ hS (Nat.lt_succ_self _)
      ·
        have c_95 : ¬ x = r := fun h => c_95 ((nI_eq (a := x) (b := r) (by omega) (by omega)).mpr h)
        refine g_aload_n (pc := 98) C dX11_mixes_98 0 rfl ?_
        refine g_get (pc := 99) C (j := 0) h_20 rfl rfl (by decide) u_852 dX11_mixes_99 ?_
        refine g_bipush (pc := 102) C dX11_mixes_102 (v := nI 32) rfl ?_
        refine g_iload_n (pc := 104) C dX11_mixes_104 1 rfl ?_
        refine g_iadd (pc := 105) C dX11_mixes_105 (z := nI (32 + r)) (nI_add _ _) ?_
        refine g_iald (pc := 106) C h_21 (nI_clamp (by omega)) (nI_in0 (n := 10511) (by omega) (by omega)) dX11_mixes_106 (x := nI (nPa (gN σ r)).length) (RZ.rPn hR (r := r) (by omega) (by omega)) ?_
        refine g_istore (pc := 107) C dX11_mixes_107 (by decide) (lv' := [(0, .ref (A m)), (1, .int (nI r)), (2, .int (nI s)), (3, .int (nI k)), (4, .int (nI x)), (5, .int (nI y)), (6, .int (nI (wof (some s) (some x) (nAc (gN σ r))).length)), (7, .int (nI (nPa (gN σ r)).length))]) [1, 2, 3, 4, 5, 6, 7, 0] rfl ?_
        refine g_iconst (pc := 109) C dX11_mixes_109 (v := nI 0) rfl ?_
        refine g_istore (pc := 110) C dX11_mixes_110 (by decide) (lv' := [(0, .ref (A m)), (1, .int (nI r)), (2, .int (nI s)), (3, .int (nI k)), (4, .int (nI x)), (5, .int (nI y)), (6, .int (nI (wof (some s) (some x) (nAc (gN σ r))).length)), (7, .int (nI (nPa (gN σ r)).length)), (8, .int (nI 0))]) [1, 2, 3, 4, 5, 6, 7, 8, 0] rfl ?_
        have lp_112 : ∀ (fuel : Nat) (gm112 : pM) (hm112 : Fr g_17 gm112 (m + 4) (m + 5)) (j : Nat) (hj : j ≤ (nPa (gN σ r)).length) (hs112 : SO gm112 (m + 4) 16 ((nPa (gN σ r)).take j)), (nPa (gN σ r)).length - j < fuel → V K 0 0 P A gm112 [(0, .ref (A m)), (1, .int (nI r)), (2, .int (nI s)), (3, .int (nI k)), (4, .int (nI x)), (5, .int (nI y)), (6, .int (nI (wof (some s) (some x) (nAc (gN σ r))).length)), (7, .int (nI (nPa (gN σ r)).length)), (8, .int (nI j))] 112 [] := by
          intro fuel
          induction fuel with
          | zero => intro gm112 hm112 j hj hs112 hμ; exact absurd hμ (Nat.not_lt_zero _)
          | succ fuel ih =>
            intro gm112 hm112 j hj hs112 hμ
            have h_43 := hm112.at (by omega) h_20
            have h_44 := hm112.at (by omega) h_21
            have h_45 := hm112.at (by omega) h_22
            have hp_46 := MC.fr hp_23 hm112 (by omega)
            have hp_47 := SO.fr hp_24 hm112 (by omega)
            obtain ⟨hd0, rd4, hd1, hd2⟩ := hs112
            refine g_iload (pc := 112) C dX11_mixes_112 8 rfl ?_
            refine g_iload (pc := 114) C dX11_mixes_114 7 rfl ?_
            refine g_icmp_ge (pc := 116) C dX11_mixes_116 (tgt := 148) (by decide) (fun c_116 => ?_) (fun c_116 => ?_)
            ·
              have c_116 : (nPa (gN σ r)).length ≤ j := (nI_leI (by omega) (by omega)).mp c_116
              have hs112b : SO gm112 (m + 4) 16 (nPa (gN σ r)) := SO.take ⟨hd0, rd4, hd1, hd2⟩ (show (nPa (gN σ r)).length ≤ j by omega)
              refine g_aload_n (pc := 148) C dX11_mixes_148 0 rfl ?_
              refine g_iconst (pc := 149) C dX11_mixes_149 (v := nI 0) rfl ?_
              refine g_put (pc := 150) C (j := 9) h_43 rfl (by decide) (Nat.le_of_ble_eq_true rfl) u_861 rfl pfd_I rfl rfl dX11_mixes_150 ?_
              obtain ⟨g_48, hg_48⟩ : ∃ yM : pM, yM = va_up gm112 m (ob 11 [.ref (A (m + 1)), .int (nI (gZ σ).1), .int (nI (gZ σ).2.1), .int (nI (gZ σ).2.2.1), .int (nI (gZ σ).2.2.2.1), .int (nI (gZ σ).2.2.2.2), .ref (A (m + 2)), .int (nI cs.length), .ref (A (m + 3)), .int (nI 0), .ref (A (m + 4)), .ref (A (m + 5)), .int (nI l.length), .ref (A (m + 6)), .ref (A (m + 7)), .ref (A (m + 8))]) := ⟨_, rfl⟩
              show V K 0 0 P A (va_up gm112 m (ob 11 [.ref (A (m + 1)), .int (nI (gZ σ).1), .int (nI (gZ σ).2.1), .int (nI (gZ σ).2.2.1), .int (nI (gZ σ).2.2.2.1), .int (nI (gZ σ).2.2.2.2), .ref (A (m + 2)), .int (nI cs.length), .ref (A (m + 3)), .int (nI 0), .ref (A (m + 4)), .ref (A (m + 5)), .int (nI l.length), .ref (A (m + 6)), .ref (A (m + 7)), .ref (A (m + 8))])) [(0, .ref (A m)), (1, .int (nI r)), (2, .int (nI s)), (3, .int (nI k)), (4, .int (nI x)), (5, .int (nI y)), (6, .int (nI (wof (some s) (some x) (nAc (gN σ r))).length)), (7, .int (nI (nPa (gN σ r)).length)), (8, .int (nI j))] 153 []
              rw [← hg_48]
              have h_49 : g_48 m = ob 11 [.ref (A (m + 1)), .int (nI (gZ σ).1), .int (nI (gZ σ).2.1), .int (nI (gZ σ).2.2.1), .int (nI (gZ σ).2.2.2.1), .int (nI (gZ σ).2.2.2.2), .ref (A (m + 2)), .int (nI cs.length), .ref (A (m + 3)), .int (nI 0), .ref (A (m + 4)), .ref (A (m + 5)), .int (nI l.length), .ref (A (m + 6)), .ref (A (m + 7)), .ref (A (m + 8))] := by rw [hg_48]; exact va_up_self _ _ _
              have h_50 : g_48 (m + 1) = ai 0 10511 Z := by rw [hg_48, va_up_ne _ _ (show m + 1 ≠ m from by omega)]; exact h_44
              have h_51 : g_48 (m + 5) = ai 0 5 rg := by rw [hg_48, va_up_ne _ _ (show m + 5 ≠ m from by omega)]; exact h_45
              have hf_52 : Fr gm112 g_48 m (m + 1) := by rw [hg_48]; exact Fr.up (by omega) (by omega)
              have hp_53 := MC.fr hp_46 hf_52 (by omega)
              have hp_54 := SO.fr (hp_47.nil) hf_52 (by omega)
              have hp_55 := SO.fr hs112b hf_52 (by omega)
              refine g_aload_n (pc := 153) C dX11_mixes_153 0 rfl ?_
              refine g_iload (pc := 154) C dX11_mixes_154 7 rfl ?_
              refine g_aload_n (pc := 156) C dX11_mixes_156 0 rfl ?_
              refine g_get (pc := 157) C (j := 12) h_49 rfl rfl (by decide) u_864 dX11_mixes_157 ?_
              refine g_callV (pc := 160) C (As := [.int (nI (nPa (gN σ r)).length), .int (nI l.length)]) (rest := []) (b := m) (c_X11_drawSome A P g_48 m l.length (nPa (gN σ r)) ([]) hp_55 hp_54 (by show _ + _ ≤ 5; first | omega | (simp only [List.length_nil, List.length_cons]; omega)) hS hp_53 h_49 h_50 hR) h_49 rfl rfl Y_X11_drawSome u_981 N_X11_drawSome ⟨by decide, by decide⟩ ⟨by decide, by decide⟩ (Nat.le_of_ble_eq_true rfl) rfl dX11_mixes_160 ?_
              rintro _ _ _ g_56 ⟨rfl, rfl, rfl, σ60, p61, l62, hlf_σ60, hO_63, ⟨Z_57, hZ_57, hR_58⟩, hp_64, hl_65, hf_59⟩
              have h_66 := hf_59.at (by omega) h_51
              have hp_67 := MC.frd hp_53 hf_59 (by omega)
              have hK_σ60 : gK σ60 = gK σ := (congrArg (fun z => gK z.1) hlf_σ60).symm.trans (lfp_K.trans (rfl : gK σ = gK σ))
              have hT_σ60 : gT σ60 = gT σ := (congrArg (fun z => gT z.1) hlf_σ60).symm.trans (lfp_T.trans (rfl : gT σ = gT σ))
              have hZ_σ60 : gZ σ60 = gZ σ := (congrArg (fun z => gZ z.1) hlf_σ60).symm.trans (lfp_Z.trans (rfl : gZ σ = gZ σ))
              have hN_σ60 : gN σ60 = gN σ := (congrArg (fun z => gN z.1) hlf_σ60).symm.trans lfp_N
              have hS_σ60 : SW B cs σ60 := by have hq := lfp_S (n := l.length) (p := (nPa (gN σ r))) (l := ([])) hS; rw [hlf_σ60] at hq; exact hq
              show V K 0 0 P A g_56 [(0, .ref (A m)), (1, .int (nI r)), (2, .int (nI s)), (3, .int (nI k)), (4, .int (nI x)), (5, .int (nI y)), (6, .int (nI (wof (some s) (some x) (nAc (gN σ r))).length)), (7, .int (nI (nPa (gN σ r)).length)), (8, .int (nI j))] 163 []
              refine g_aload_n (pc := 163) C dX11_mixes_163 0 rfl ?_
              refine g_iload_n (pc := 164) C dX11_mixes_164 1 rfl ?_
              refine g_iload (pc := 165) C dX11_mixes_165 4 rfl ?_
              refine g_bipush (pc := 167) C dX11_mixes_167 (v := nI 8) rfl ?_
              refine g_iconst (pc := 169) C dX11_mixes_169 (v := nI 0) rfl ?_
              refine g_iconst (pc := 170) C dX11_mixes_170 (v := nI 0) rfl ?_
              refine g_aload_n (pc := 171) C dX11_mixes_171 0 rfl ?_
              refine g_get (pc := 172) C (j := 9) hO_63 rfl rfl (by decide) u_861 dX11_mixes_172 ?_
              refine g_callV (pc := 175) C (As := [.int (nI r), .int (nI x), .int (nI 8), .int (nI 0), .int (nI 0), .int (nI l62.length)]) (rest := []) (b := m) (c_X11_sendList A P g_56 m r x 8 0 0 l62 hl_65 (by omega) (by rw [hZ_σ60]; exact hO_63) hZ_57 hR_58) hO_63 rfl rfl Y_X11_sendList u_937 N_X11_sendList ⟨by decide, by decide⟩ ⟨by decide, by decide⟩ (Nat.le_of_ble_eq_true rfl) rfl dX11_mixes_175 ?_
              rintro _ _ _ g_68 ⟨rfl, rfl, rfl, ⟨Z_69, hZ_69, hR_70⟩, hf_71⟩
              have h_72 := hf_71.at (by omega) h_66
              have h_73 := hf_71.at (by omega) hO_63
              have hp_74 := MC.fr hp_67 hf_71 (by omega)
              have hp_75 := SO.fr hp_64 hf_71 (by omega)
              have hp_76 := SO.fr hl_65 hf_71 (by omega)
              obtain ⟨σ77, hσ77⟩ : ∃ sM : Sg, sM = snd σ60 r x 8 0 0 l62 := ⟨_, rfl⟩
              rw [← hσ77] at hR_70
              have hK_σ77 : gK σ77 = gK σ := (congrArg gK hσ77).trans (snd_K.trans hK_σ60)
              have hT_σ77 : gT σ77 = gT σ := (congrArg gT hσ77).trans (snd_T.trans hT_σ60)
              have hZ_σ77 : gZ σ77 = gZ σ := (congrArg gZ hσ77).trans (snd_Z.trans hZ_σ60)
              show V K 0 0 P A g_68 [(0, .ref (A m)), (1, .int (nI r)), (2, .int (nI s)), (3, .int (nI k)), (4, .int (nI x)), (5, .int (nI y)), (6, .int (nI (wof (some s) (some x) (nAc (gN σ r))).length)), (7, .int (nI (nPa (gN σ r)).length)), (8, .int (nI j))] 178 []
              have hl1K : ∀ q ∈ l62, q < gK σ := fun q hq => by have hq2 := lfp_mem (cs := cs) (Q := fun q => q < gK σ) (n := l.length) (σ := σ) (p := nPa (gN σ r)) (l := []) (fun z hz => hn.2.2.1 z hz) (fun z hz => by cases hz) q; rw [hlf_σ60] at hq2; exact hq2 hq
              have hl1n : l62.length ≤ 5 := hp_76.1
              have hS_σ77 : SW B cs σ77 := by rw [hσ77]; exact SW.sent hS_σ60 (by omega) (by omega) (lw_mk (by omega) (by omega) (by omega) (by omega) (by omega) (by omega) (by omega) (by omega) (by omega) (fun q hq => by rw [hK_σ60]; exact hl1K q hq) hl1n)
              refine g_iconst (pc := 178) C dX11_mixes_178 (v := nI 0) rfl ?_
              refine g_istore (pc := 179) C dX11_mixes_179 (by decide) (lv' := [(0, .ref (A m)), (1, .int (nI r)), (2, .int (nI s)), (3, .int (nI k)), (4, .int (nI x)), (5, .int (nI y)), (6, .int (nI 0)), (7, .int (nI (nPa (gN σ r)).length)), (8, .int (nI j))]) [1, 2, 3, 4, 5, 6, 0, 7, 8] rfl ?_
              have lp_181 : ∀ (fuel : Nat) (gm181 : pM) (hm181 : Fr g_68 gm181 (m + 1) (m + 2)) (j : Nat) (hj : j ≤ l.length) (hz181 : ZS gm181 m (tkL cs σ77 r (l.take j))) (hS181 : SW B cs (tkL cs σ77 r (l.take j))), l.length - j < fuel → V K 0 0 P A gm181 [(0, .ref (A m)), (1, .int (nI r)), (2, .int (nI s)), (3, .int (nI k)), (4, .int (nI x)), (5, .int (nI y)), (6, .int (nI j))] 181 [] := by
                intro fuel
                induction fuel with
                | zero => intro gm181 hm181 j hj hz181 hS181 hμ; exact absurd hμ (Nat.not_lt_zero _)
                | succ fuel ih =>
                  intro gm181 hm181 j hj hz181 hS181 hμ
                  have h_78 := hm181.at (by omega) h_72
                  have h_79 := hm181.at (by omega) h_73
                  have hp_80 := MC.fr hp_74 hm181 (by omega)
                  have hp_81 := SO.fr hp_75 hm181 (by omega)
                  have hp_82 := SO.fr hp_76 hm181 (by omega)
                  obtain ⟨Zl, hZl, hRl⟩ := hz181
                  obtain ⟨σ83, hσ83⟩ : ∃ sM : Sg, sM = tkL cs σ77 r (l.take j) := ⟨_, rfl⟩
                  rw [← hσ83] at hRl
                  have hK_σ83 : gK σ83 = gK σ := (congrArg gK hσ83).trans (tkL_K.trans hK_σ77)
                  have hT_σ83 : gT σ83 = gT σ := (congrArg gT hσ83).trans (tkL_T.trans hT_σ77)
                  have hZ_σ83 : gZ σ83 = gZ σ := (congrArg gZ hσ83).trans (tkL_Z.trans hZ_σ77)
                  have hS_σ83 : SW B cs σ83 := by rw [hσ83]; exact hS181
                  refine g_iload (pc := 181) C dX11_mixes_181 6 rfl ?_
                  refine g_aload_n (pc := 183) C dX11_mixes_183 0 rfl ?_
                  refine g_get (pc := 184) C (j := 12) h_79 rfl rfl (by decide) u_864 dX11_mixes_184 ?_
                  refine g_icmp_ge (pc := 187) C dX11_mixes_187 (tgt := 208) (by decide) (fun c_187 => ?_) (fun c_187 => ?_)
                  ·
                    have c_187 : l.length ≤ j := (nI_leI (by omega) (by omega)).mp c_187
                    exact g_vret (pc := 208) C R ⟨rfl, rfl, rfl, ⟨_, hZl, by rw [show k = 7 by omega]; show RZ _ (mixS cs σ r s x y l); rw [mixS_t (by omega), if_neg c_95, ansS_e hlf_σ60 hσ77, ← tkL_e (show l.length ≤ j by omega), ← hσ83]; exact hRl⟩, _, _, _, h_79, hp_82, hp_81, ⟨hg0, rg, h_78, hg2⟩, fun k hk => by rw [hm181 k (by omega), hf_71 k (by omega), hf_59 k (by omega) (by omega) (by omega) (by omega), hg_48, va_up_ne _ _ (by omega), hm112 k (by omega), hf_18 k (by omega)]⟩ (by decide) (by decide) dX11_mixes_208
                  ·
                    have c_187 : ¬ l.length ≤ j := fun h => c_187 ((nI_leI (a := l.length) (b := j) (by omega) (by omega)).mpr h)
                    have hjv := hlK _ (getD_mem (k := j) (by omega))
                    refine g_aload_n (pc := 190) C dX11_mixes_190 0 rfl ?_
                    refine g_iload_n (pc := 191) C dX11_mixes_191 1 rfl ?_
                    refine g_aload_n (pc := 192) C dX11_mixes_192 0 rfl ?_
                    refine g_get (pc := 193) C (j := 11) h_79 rfl rfl (by decide) u_863 dX11_mixes_193 ?_
                    refine g_iload (pc := 196) C dX11_mixes_196 6 rfl ?_
                    refine g_iald (pc := 198) C h_78 (nI_clamp (by omega)) (nI_in0 (by omega) (by omega)) dX11_mixes_198 (x := nI (l.getD j 0)) (hg2 _ (by omega)) ?_
                    refine g_callV (pc := 199) C (As := [.int (nI r), .int (nI (l.getD j 0))]) (rest := []) (b := m) (c_X11_note A P gm181 m r (l.getD j 0) (by omega) (by omega) hS_σ83 hp_80 (by rw [hZ_σ83]; exact h_79) hZl hRl) h_79 rfl rfl Y_X11_note u_1045 N_X11_note ⟨by decide, by decide⟩ ⟨by decide, by decide⟩ (Nat.le_of_ble_eq_true rfl) rfl dX11_mixes_199 ?_
                    rintro _ _ _ g_84 ⟨rfl, rfl, rfl, ⟨Z_85, hZ_85, hR_86⟩, hf_87⟩
                    have h_88 := hf_87.at (by omega) h_78
                    have h_89 := hf_87.at (by omega) h_79
                    have hp_90 := MC.fr hp_80 hf_87 (by omega)
                    have hp_91 := SO.fr hp_81 hf_87 (by omega)
                    have hp_92 := SO.fr hp_82 hf_87 (by omega)
                    obtain ⟨σ93, hσ93⟩ : ∃ sM : Sg, sM = nte cs σ83 r (l.getD j 0) := ⟨_, rfl⟩
                    rw [← hσ93] at hR_86
                    have hK_σ93 : gK σ93 = gK σ := (congrArg gK hσ93).trans (nte_K.trans hK_σ83)
                    have hT_σ93 : gT σ93 = gT σ := (congrArg gT hσ93).trans (nte_T.trans hT_σ83)
                    have hZ_σ93 : gZ σ93 = gZ σ := (congrArg gZ hσ93).trans (nte_Z.trans hZ_σ83)
                    have hS_σ93 : SW B cs σ93 := by rw [hσ93]; exact nte_SW hS_σ83 (by omega) (by omega)
                    show V K 0 0 P A g_84 [(0, .ref (A m)), (1, .int (nI r)), (2, .int (nI s)), (3, .int (nI k)), (4, .int (nI x)), (5, .int (nI y)), (6, .int (nI j))] 202 []
                    refine g_iinc (pc := 202) C dX11_mixes_202 (by decide) 6 rfl (v := nI (j + 1)) (nI_i1 _) (lv' := [(0, .ref (A m)), (1, .int (nI r)), (2, .int (nI s)), (3, .int (nI k)), (4, .int (nI x)), (5, .int (nI y)), (6, .int (nI (j + 1)))]) [1, 2, 3, 4, 5, 6, 0] rfl ?_
                    refine g_goto (pc := 205) C dX11_mixes_205 (tgt := 181) (by decide) ?_
                    exact ih g_84 (hm181.tr (fun k hk => by rw [hf_87 k (by omega)])) (j + 1) (by omega) ⟨_, hZ_85, by rw [tkL_s (by omega), ← hσ83, ← hσ93]; exact hR_86⟩ (by rw [tkL_s (by omega), ← hσ83, ← hσ93]; exact hS_σ93) (by omega)
              refine g_sub [0, 1, 2, 3, 4, 5, 6] rfl ?_
              exact lp_181 (_ + 1) g_68 Fr.rf 0 (Nat.zero_le _) ⟨_, hZ_69, hR_70⟩ hS_σ77 (Nat.lt_succ_self _)
            ·
              have c_116 : ¬ (nPa (gN σ r)).length ≤ j := fun h => c_116 ((nI_leI (a := (nPa (gN σ r)).length) (b := j) (by omega) (by omega)).mpr h)
              refine g_aload_n (pc := 119) C dX11_mixes_119 0 rfl ?_
              refine g_get (pc := 120) C (j := 10) h_43 rfl rfl (by decide) u_862 dX11_mixes_120 ?_
              refine g_iload (pc := 123) C dX11_mixes_123 8 rfl ?_
              refine g_aload_n (pc := 125) C dX11_mixes_125 0 rfl ?_
              refine g_get (pc := 126) C (j := 0) h_43 rfl rfl (by decide) u_852 dX11_mixes_126 ?_
              refine g_sipush (pc := 129) C dX11_mixes_129 (v := nI 256) rfl ?_
              refine g_bipush (pc := 132) C dX11_mixes_132 (v := nI 8) rfl ?_
              refine g_iload_n (pc := 134) C dX11_mixes_134 1 rfl ?_
              refine g_imul (pc := 135) C dX11_mixes_135 (z := nI (8 * r)) (pk_mul _ _) ?_
              refine g_iadd (pc := 136) C dX11_mixes_136 (z := nI (256 + 8 * r)) (nI_add _ _) ?_
              refine g_iload (pc := 137) C dX11_mixes_137 8 rfl ?_
              refine g_iadd (pc := 139) C dX11_mixes_139 (z := nI (256 + 8 * r + j)) (nI_add _ _) ?_
              refine g_iald (pc := 140) C h_44 (nI_clamp (by omega)) (nI_in0 (n := 10511) (by omega) (by omega)) dX11_mixes_140 (x := nI ((nPa (gN σ r)).getD j 0)) (RZ.rPa hR (r := r) (k := j) (by omega) (by omega) (by omega)) ?_
              refine g_iast (pc := 141) C hd1 (nI_clamp (by omega)) (nI_in0 (n := 16) (by omega) (by omega)) dX11_mixes_141 ?_
              obtain ⟨g_94, hg_94⟩ : ∃ yM : pM, yM = va_up gm112 (m + 4) (ai 0 16 (upd rd4 j (nI ((nPa (gN σ r)).getD j 0)))) := ⟨_, rfl⟩
              show V K 0 0 P A (va_up gm112 (m + 4) (ai 0 16 (upd rd4 j (nI ((nPa (gN σ r)).getD j 0))))) [(0, .ref (A m)), (1, .int (nI r)), (2, .int (nI s)), (3, .int (nI k)), (4, .int (nI x)), (5, .int (nI y)), (6, .int (nI (wof (some s) (some x) (nAc (gN σ r))).length)), (7, .int (nI (nPa (gN σ r)).length)), (8, .int (nI j))] 142 []
              rw [← hg_94]
              have h_95 : g_94 m = ob 11 [.ref (A (m + 1)), .int (nI (gZ σ).1), .int (nI (gZ σ).2.1), .int (nI (gZ σ).2.2.1), .int (nI (gZ σ).2.2.2.1), .int (nI (gZ σ).2.2.2.2), .ref (A (m + 2)), .int (nI cs.length), .ref (A (m + 3)), .int (nI lm), .ref (A (m + 4)), .ref (A (m + 5)), .int (nI l.length), .ref (A (m + 6)), .ref (A (m + 7)), .ref (A (m + 8))] := by rw [hg_94, va_up_ne _ _ (show m ≠ m + 4 from by omega)]; exact h_43
              have h_96 : g_94 (m + 1) = ai 0 10511 Z := by rw [hg_94, va_up_ne _ _ (show m + 1 ≠ m + 4 from by omega)]; exact h_44
              have h_97 : g_94 (m + 5) = ai 0 5 rg := by rw [hg_94, va_up_ne _ _ (show m + 5 ≠ m + 4 from by omega)]; exact h_45
              have h_98 : g_94 (m + 4) = ai 0 16 (upd rd4 j (nI ((nPa (gN σ r)).getD j 0))) := by rw [hg_94]; exact va_up_self _ _ _
              have hf_99 : Fr gm112 g_94 (m + 4) (m + 4 + 1) := by rw [hg_94]; exact Fr.up (by omega) (by omega)
              have hp_100 := MC.fr hp_46 hf_99 (by omega)
              have hp_101 := SO.fr hp_47 hf_99 (by omega)
              refine g_iinc (pc := 142) C dX11_mixes_142 (by decide) 8 rfl (v := nI (j + 1)) (nI_i1 _) (lv' := [(0, .ref (A m)), (1, .int (nI r)), (2, .int (nI s)), (3, .int (nI k)), (4, .int (nI x)), (5, .int (nI y)), (6, .int (nI (wof (some s) (some x) (nAc (gN σ r))).length)), (7, .int (nI (nPa (gN σ r)).length)), (8, .int (nI (j + 1)))]) [1, 2, 3, 4, 5, 6, 7, 8, 0] rfl ?_
              refine g_goto (pc := 145) C dX11_mixes_145 (tgt := 112) (by decide) ?_
              exact ih g_94 (hm112.tr (fun k hk => by rw [hg_94, va_up_ne _ _ (by omega)])) (j + 1) (by omega) (SO.tks hd2 (by omega) (by omega) rfl h_98) (by omega)
        exact lp_112 (_ + 1) g_17 Fr.rf 0 (Nat.zero_le _) hs_19.nil (Nat.lt_succ_self _)
    ·
      have c_19 : ¬ y ≤ 1 := fun h => c_19 ((nI_leI (a := y) (b := 1) (by omega) (by omega)).mpr h)
      refine g_iload (pc := 22) C dX11_mixes_22 6 rfl ?_
      refine g_if_le (pc := 24) C dX11_mixes_24 (tgt := 92) (by decide) (fun c_24 => ?_) (fun c_24 => ?_)
      ·
        have c_24 : (wof (some s) (some x) (nAc (gN σ r))).length ≤ 0 := (nI_leI (by omega) (by omega)).mp c_24
        have hxk := hxK (by omega)
        refine g_iload (pc := 92) C dX11_mixes_92 4 rfl ?_
        refine g_iload_n (pc := 94) C dX11_mixes_94 1 rfl ?_
        refine g_icmp_eq (pc := 95) C dX11_mixes_95 (tgt := 178) (by decide) (fun c_95 => ?_) (fun c_95 => ?_)
        ·
          have c_95 : x = r := (nI_eq (by omega) (by omega)).mp c_95
          refine g_iconst (pc := 178) C dX11_mixes_178 (v := nI 0) rfl ?_
          refine g_istore (pc := 179) C dX11_mixes_179 (by decide) (lv' := [(0, .ref (A m)), (1, .int (nI r)), (2, .int (nI s)), (3, .int (nI k)), (4, .int (nI x)), (5, .int (nI y)), (6, .int (nI 0))]) [1, 2, 3, 4, 5, 6, 0] rfl ?_
          have lp_181 : ∀ (fuel : Nat) (gm181 : pM) (hm181 : Fr g_17 gm181 (m + 1) (m + 2)) (j : Nat) (hj : j ≤ l.length) (hz181 : ZS gm181 m (tkL cs σ r (l.take j))) (hS181 : SW B cs (tkL cs σ r (l.take j))), l.length - j < fuel → V K 0 0 P A gm181 [(0, .ref (A m)), (1, .int (nI r)), (2, .int (nI s)), (3, .int (nI k)), (4, .int (nI x)), (5, .int (nI y)), (6, .int (nI j))] 181 [] := by
            intro fuel
            induction fuel with
            | zero => intro gm181 hm181 j hj hz181 hS181 hμ; exact absurd hμ (Nat.not_lt_zero _)
            | succ fuel ih =>
              intro gm181 hm181 j hj hz181 hS181 hμ
              have h_102 := hm181.at (by omega) h_20
              have h_103 := hm181.at (by omega) h_22
              have h_104 := hm181.at (by omega) hw1
              have hp_105 := MC.fr hp_23 hm181 (by omega)
              have hp_106 := SO.fr hp_24 hm181 (by omega)
              have hp_107 := SO.fr hs_19 hm181 (by omega)
              obtain ⟨Zl, hZl, hRl⟩ := hz181
              obtain ⟨σ108, hσ108⟩ : ∃ sM : Sg, sM = tkL cs σ r (l.take j) := ⟨_, rfl⟩
              rw [← hσ108] at hRl
              have hK_σ108 : gK σ108 = gK σ := (congrArg gK hσ108).trans (tkL_K.trans (rfl : gK σ = gK σ))
              have hT_σ108 : gT σ108 = gT σ := (congrArg gT hσ108).trans (tkL_T.trans (rfl : gT σ = gT σ))
              have hZ_σ108 : gZ σ108 = gZ σ := (congrArg gZ hσ108).trans (tkL_Z.trans (rfl : gZ σ = gZ σ))
              have hS_σ108 : SW B cs σ108 := by rw [hσ108]; exact hS181
              refine g_iload (pc := 181) C dX11_mixes_181 6 rfl ?_
              refine g_aload_n (pc := 183) C dX11_mixes_183 0 rfl ?_
              refine g_get (pc := 184) C (j := 12) h_102 rfl rfl (by decide) u_864 dX11_mixes_184 ?_
              refine g_icmp_ge (pc := 187) C dX11_mixes_187 (tgt := 208) (by decide) (fun c_187 => ?_) (fun c_187 => ?_)
              ·
                have c_187 : l.length ≤ j := (nI_leI (by omega) (by omega)).mp c_187
                exact g_vret (pc := 208) C R ⟨rfl, rfl, rfl, ⟨_, hZl, by rw [show k = 7 by omega]; show RZ _ (mixS cs σ r s x y l); rw [mixS_t (by omega), if_pos c_95, ← tkL_e (show l.length ≤ j by omega), ← hσ108]; exact hRl⟩, _, _, _, h_102, hp_106, hp_107, ⟨hg0, rg, h_103, hg2⟩, fun k hk => by rw [hm181 k (by omega), hf_18 k (by omega)]⟩ (by decide) (by decide) dX11_mixes_208
              ·
                have c_187 : ¬ l.length ≤ j := fun h => c_187 ((nI_leI (a := l.length) (b := j) (by omega) (by omega)).mpr h)
                have hjv := hlK _ (getD_mem (k := j) (by omega))
                refine g_aload_n (pc := 190) C dX11_mixes_190 0 rfl ?_
                refine g_iload_n (pc := 191) C dX11_mixes_191 1 rfl ?_
                refine g_aload_n (pc := 192) C dX11_mixes_192 0 rfl ?_
                refine g_get (pc := 193) C (j := 11) h_102 rfl rfl (by decide) u_863 dX11_mixes_193 ?_
                refine g_iload (pc := 196) C dX11_mixes_196 6 rfl ?_
                refine g_iald (pc := 198) C h_103 (nI_clamp (by omega)) (nI_in0 (by omega) (by omega)) dX11_mixes_198 (x := nI (l.getD j 0)) (hg2 _ (by omega)) ?_
                refine g_callV (pc := 199) C (As := [.int (nI r), .int (nI (l.getD j 0))]) (rest := []) (b := m) (c_X11_note A P gm181 m r (l.getD j 0) (by omega) (by omega) hS_σ108 hp_105 (by rw [hZ_σ108]; exact h_102) hZl hRl) h_102 rfl rfl Y_X11_note u_1045 N_X11_note ⟨by decide, by decide⟩ ⟨by decide, by decide⟩ (Nat.le_of_ble_eq_true rfl) rfl dX11_mixes_199 ?_
                rintro _ _ _ g_109 ⟨rfl, rfl, rfl, ⟨Z_110, hZ_110, hR_111⟩, hf_112⟩
                have h_113 := hf_112.at (by omega) h_102
                have h_114 := hf_112.at (by omega) h_103
                have h_115 := hf_112.at (by omega) h_104
                have hp_116 := MC.fr hp_105 hf_112 (by omega)
                have hp_117 := SO.fr hp_106 hf_112 (by omega)
                have hp_118 := SO.fr hp_107 hf_112 (by omega)
                obtain ⟨σ119, hσ119⟩ : ∃ sM : Sg, sM = nte cs σ108 r (l.getD j 0) := ⟨_, rfl⟩
                rw [← hσ119] at hR_111
                have hK_σ119 : gK σ119 = gK σ := (congrArg gK hσ119).trans (nte_K.trans hK_σ108)
                have hT_σ119 : gT σ119 = gT σ := (congrArg gT hσ119).trans (nte_T.trans hT_σ108)
                have hZ_σ119 : gZ σ119 = gZ σ := (congrArg gZ hσ119).trans (nte_Z.trans hZ_σ108)
                have hS_σ119 : SW B cs σ119 := by rw [hσ119]; exact nte_SW hS_σ108 (by omega) (by omega)
                show V K 0 0 P A g_109 [(0, .ref (A m)), (1, .int (nI r)), (2, .int (nI s)), (3, .int (nI k)), (4, .int (nI x)), (5, .int (nI y)), (6, .int (nI j))] 202 []
                refine g_iinc (pc := 202) C dX11_mixes_202 (by decide) 6 rfl (v := nI (j + 1)) (nI_i1 _) (lv' := [(0, .ref (A m)), (1, .int (nI r)), (2, .int (nI s)), (3, .int (nI k)), (4, .int (nI x)), (5, .int (nI y)), (6, .int (nI (j + 1)))]) [1, 2, 3, 4, 5, 6, 0] rfl ?_
                refine g_goto (pc := 205) C dX11_mixes_205 (tgt := 181) (by decide) ?_
                exact ih g_109 (hm181.tr (fun k hk => by rw [hf_112 k (by omega)])) (j + 1) (by omega) ⟨_, hZ_110, by rw [tkL_s (by omega), ← hσ108, ← hσ119]; exact hR_111⟩ (by rw [tkL_s (by omega), ← hσ108, ← hσ119]; exact hS_σ119) (by omega)
          exact lp_181 (_ + 1) g_17 Fr.rf 0 (Nat.zero_le _) ⟨_, h_21, hR⟩ hS (Nat.lt_succ_self _)
        ·
          have c_95 : ¬ x = r := fun h => c_95 ((nI_eq (a := x) (b := r) (by omega) (by omega)).mpr h)
          refine g_aload_n (pc := 98) C dX11_mixes_98 0 rfl ?_
          refine g_get (pc := 99) C (j := 0) h_20 rfl rfl (by decide) u_852 dX11_mixes_99 ?_
          refine g_bipush (pc := 102) C dX11_mixes_102 (v := nI 32) rfl ?_
          refine g_iload_n (pc := 104) C dX11_mixes_104 1 rfl ?_
          refine g_iadd (pc := 105) C dX11_mixes_105 (z := nI (32 + r)) (nI_add _ _) ?_
          refine g_iald (pc := 106) C h_21 (nI_clamp (by omega)) (nI_in0 (n := 10511) (by omega) (by omega)) dX11_mixes_106 (x := nI (nPa (gN σ r)).length) (RZ.rPn hR (r := r) (by omega) (by omega)) ?_
          refine g_istore (pc := 107) C dX11_mixes_107 (by decide) (lv' := [(0, .ref (A m)), (1, .int (nI r)), (2, .int (nI s)), (3, .int (nI k)), (4, .int (nI x)), (5, .int (nI y)), (6, .int (nI (wof (some s) (some x) (nAc (gN σ r))).length)), (7, .int (nI (nPa (gN σ r)).length))]) [1, 2, 3, 4, 5, 6, 7, 0] rfl ?_
          refine g_iconst (pc := 109) C dX11_mixes_109 (v := nI 0) rfl ?_
          refine g_istore (pc := 110) C dX11_mixes_110 (by decide) (lv' := [(0, .ref (A m)), (1, .int (nI r)), (2, .int (nI s)), (3, .int (nI k)), (4, .int (nI x)), (5, .int (nI y)), (6, .int (nI (wof (some s) (some x) (nAc (gN σ r))).length)), (7, .int (nI (nPa (gN σ r)).length)), (8, .int (nI 0))]) [1, 2, 3, 4, 5, 6, 7, 8, 0] rfl ?_
          have lp_112 : ∀ (fuel : Nat) (gm112 : pM) (hm112 : Fr g_17 gm112 (m + 4) (m + 5)) (j : Nat) (hj : j ≤ (nPa (gN σ r)).length) (hs112 : SO gm112 (m + 4) 16 ((nPa (gN σ r)).take j)), (nPa (gN σ r)).length - j < fuel → V K 0 0 P A gm112 [(0, .ref (A m)), (1, .int (nI r)), (2, .int (nI s)), (3, .int (nI k)), (4, .int (nI x)), (5, .int (nI y)), (6, .int (nI (wof (some s) (some x) (nAc (gN σ r))).length)), (7, .int (nI (nPa (gN σ r)).length)), (8, .int (nI j))] 112 [] := by
            intro fuel
            induction fuel with
            | zero => intro gm112 hm112 j hj hs112 hμ; exact absurd hμ (Nat.not_lt_zero _)
            | succ fuel ih =>
              intro gm112 hm112 j hj hs112 hμ
              have h_120 := hm112.at (by omega) h_20
              have h_121 := hm112.at (by omega) h_21
              have h_122 := hm112.at (by omega) h_22
              have hp_123 := MC.fr hp_23 hm112 (by omega)
              have hp_124 := SO.fr hp_24 hm112 (by omega)
              obtain ⟨hd0, rd4, hd1, hd2⟩ := hs112
              refine g_iload (pc := 112) C dX11_mixes_112 8 rfl ?_
              refine g_iload (pc := 114) C dX11_mixes_114 7 rfl ?_
              refine g_icmp_ge (pc := 116) C dX11_mixes_116 (tgt := 148) (by decide) (fun c_116 => ?_) (fun c_116 => ?_)
              ·
                have c_116 : (nPa (gN σ r)).length ≤ j := (nI_leI (by omega) (by omega)).mp c_116
                have hs112b : SO gm112 (m + 4) 16 (nPa (gN σ r)) := SO.take ⟨hd0, rd4, hd1, hd2⟩ (show (nPa (gN σ r)).length ≤ j by omega)
                refine g_aload_n (pc := 148) C dX11_mixes_148 0 rfl ?_
                refine g_iconst (pc := 149) C dX11_mixes_149 (v := nI 0) rfl ?_
                refine g_put (pc := 150) C (j := 9) h_120 rfl (by decide) (Nat.le_of_ble_eq_true rfl) u_861 rfl pfd_I rfl rfl dX11_mixes_150 ?_
                obtain ⟨g_125, hg_125⟩ : ∃ yM : pM, yM = va_up gm112 m (ob 11 [.ref (A (m + 1)), .int (nI (gZ σ).1), .int (nI (gZ σ).2.1), .int (nI (gZ σ).2.2.1), .int (nI (gZ σ).2.2.2.1), .int (nI (gZ σ).2.2.2.2), .ref (A (m + 2)), .int (nI cs.length), .ref (A (m + 3)), .int (nI 0), .ref (A (m + 4)), .ref (A (m + 5)), .int (nI l.length), .ref (A (m + 6)), .ref (A (m + 7)), .ref (A (m + 8))]) := ⟨_, rfl⟩
                show V K 0 0 P A (va_up gm112 m (ob 11 [.ref (A (m + 1)), .int (nI (gZ σ).1), .int (nI (gZ σ).2.1), .int (nI (gZ σ).2.2.1), .int (nI (gZ σ).2.2.2.1), .int (nI (gZ σ).2.2.2.2), .ref (A (m + 2)), .int (nI cs.length), .ref (A (m + 3)), .int (nI 0), .ref (A (m + 4)), .ref (A (m + 5)), .int (nI l.length), .ref (A (m + 6)), .ref (A (m + 7)), .ref (A (m + 8))])) [(0, .ref (A m)), (1, .int (nI r)), (2, .int (nI s)), (3, .int (nI k)), (4, .int (nI x)), (5, .int (nI y)), (6, .int (nI (wof (some s) (some x) (nAc (gN σ r))).length)), (7, .int (nI (nPa (gN σ r)).length)), (8, .int (nI j))] 153 []
                rw [← hg_125]
                have h_126 : g_125 m = ob 11 [.ref (A (m + 1)), .int (nI (gZ σ).1), .int (nI (gZ σ).2.1), .int (nI (gZ σ).2.2.1), .int (nI (gZ σ).2.2.2.1), .int (nI (gZ σ).2.2.2.2), .ref (A (m + 2)), .int (nI cs.length), .ref (A (m + 3)), .int (nI 0), .ref (A (m + 4)), .ref (A (m + 5)), .int (nI l.length), .ref (A (m + 6)), .ref (A (m + 7)), .ref (A (m + 8))] := by rw [hg_125]; exact va_up_self _ _ _
                have h_127 : g_125 (m + 1) = ai 0 10511 Z := by rw [hg_125, va_up_ne _ _ (show m + 1 ≠ m from by omega)]; exact h_121
                have h_128 : g_125 (m + 5) = ai 0 5 rg := by rw [hg_125, va_up_ne _ _ (show m + 5 ≠ m from by omega)]; exact h_122
                have hf_129 : Fr gm112 g_125 m (m + 1) := by rw [hg_125]; exact Fr.up (by omega) (by omega)
                have hp_130 := MC.fr hp_123 hf_129 (by omega)
                have hp_131 := SO.fr (hp_124.nil) hf_129 (by omega)
                have hp_132 := SO.fr hs112b hf_129 (by omega)
                refine g_aload_n (pc := 153) C dX11_mixes_153 0 rfl ?_
                refine g_iload (pc := 154) C dX11_mixes_154 7 rfl ?_
                refine g_aload_n (pc := 156) C dX11_mixes_156 0 rfl ?_
                refine g_get (pc := 157) C (j := 12) h_126 rfl rfl (by decide) u_864 dX11_mixes_157 ?_
                refine g_callV (pc := 160) C (As := [.int (nI (nPa (gN σ r)).length), .int (nI l.length)]) (rest := []) (b := m) (c_X11_drawSome A P g_125 m l.length (nPa (gN σ r)) ([]) hp_132 hp_131 (by show _ + _ ≤ 5; first | omega | (simp only [List.length_nil, List.length_cons]; omega)) hS hp_130 h_126 h_127 hR) h_126 rfl rfl Y_X11_drawSome u_981 N_X11_drawSome ⟨by decide, by decide⟩ ⟨by decide, by decide⟩ (Nat.le_of_ble_eq_true rfl) rfl dX11_mixes_160 ?_
                rintro _ _ _ g_133 ⟨rfl, rfl, rfl, σ137, p138, l139, hlf_σ137, hO_140, ⟨Z_134, hZ_134, hR_135⟩, hp_141, hl_142, hf_136⟩
                have h_143 := hf_136.at (by omega) h_128
                have hp_144 := MC.frd hp_130 hf_136 (by omega)
                have hK_σ137 : gK σ137 = gK σ := (congrArg (fun z => gK z.1) hlf_σ137).symm.trans (lfp_K.trans (rfl : gK σ = gK σ))
                have hT_σ137 : gT σ137 = gT σ := (congrArg (fun z => gT z.1) hlf_σ137).symm.trans (lfp_T.trans (rfl : gT σ = gT σ))
                have hZ_σ137 : gZ σ137 = gZ σ := (congrArg (fun z => gZ z.1) hlf_σ137).symm.trans (lfp_Z.trans (rfl : gZ σ = gZ σ))
                have hN_σ137 : gN σ137 = gN σ := (congrArg (fun z => gN z.1) hlf_σ137).symm.trans lfp_N
                have hS_σ137 : SW B cs σ137 := by have hq := lfp_S (n := l.length) (p := (nPa (gN σ r))) (l := ([])) hS; rw [hlf_σ137] at hq; exact hq
                show V K 0 0 P A g_133 [(0, .ref (A m)), (1, .int (nI r)), (2, .int (nI s)), (3, .int (nI k)), (4, .int (nI x)), (5, .int (nI y)), (6, .int (nI (wof (some s) (some x) (nAc (gN σ r))).length)), (7, .int (nI (nPa (gN σ r)).length)), (8, .int (nI j))] 163 []
                refine g_aload_n (pc := 163) C dX11_mixes_163 0 rfl ?_
                refine g_iload_n (pc := 164) C dX11_mixes_164 1 rfl ?_
                refine g_iload (pc := 165) C dX11_mixes_165 4 rfl ?_
                refine g_bipush (pc := 167) C dX11_mixes_167 (v := nI 8) rfl ?_
                refine g_iconst (pc := 169) C dX11_mixes_169 (v := nI 0) rfl ?_
                refine g_iconst (pc := 170) C dX11_mixes_170 (v := nI 0) rfl ?_
                refine g_aload_n (pc := 171) C dX11_mixes_171 0 rfl ?_
                refine g_get (pc := 172) C (j := 9) hO_140 rfl rfl (by decide) u_861 dX11_mixes_172 ?_
                refine g_callV (pc := 175) C (As := [.int (nI r), .int (nI x), .int (nI 8), .int (nI 0), .int (nI 0), .int (nI l139.length)]) (rest := []) (b := m) (c_X11_sendList A P g_133 m r x 8 0 0 l139 hl_142 (by omega) (by rw [hZ_σ137]; exact hO_140) hZ_134 hR_135) hO_140 rfl rfl Y_X11_sendList u_937 N_X11_sendList ⟨by decide, by decide⟩ ⟨by decide, by decide⟩ (Nat.le_of_ble_eq_true rfl) rfl dX11_mixes_175 ?_
                rintro _ _ _ g_145 ⟨rfl, rfl, rfl, ⟨Z_146, hZ_146, hR_147⟩, hf_148⟩
                have h_149 := hf_148.at (by omega) h_143
                have h_150 := hf_148.at (by omega) hO_140
                have hp_151 := MC.fr hp_144 hf_148 (by omega)
                have hp_152 := SO.fr hp_141 hf_148 (by omega)
                have hp_153 := SO.fr hl_142 hf_148 (by omega)
                obtain ⟨σ154, hσ154⟩ : ∃ sM : Sg, sM = snd σ137 r x 8 0 0 l139 := ⟨_, rfl⟩
                rw [← hσ154] at hR_147
                have hK_σ154 : gK σ154 = gK σ := (congrArg gK hσ154).trans (snd_K.trans hK_σ137)
                have hT_σ154 : gT σ154 = gT σ := (congrArg gT hσ154).trans (snd_T.trans hT_σ137)
                have hZ_σ154 : gZ σ154 = gZ σ := (congrArg gZ hσ154).trans (snd_Z.trans hZ_σ137)
                show V K 0 0 P A g_145 [(0, .ref (A m)), (1, .int (nI r)), (2, .int (nI s)), (3, .int (nI k)), (4, .int (nI x)), (5, .int (nI y)), (6, .int (nI (wof (some s) (some x) (nAc (gN σ r))).length)), (7, .int (nI (nPa (gN σ r)).length)), (8, .int (nI j))] 178 []
                have hl1K : ∀ q ∈ l139, q < gK σ := fun q hq => by have hq2 := lfp_mem (cs := cs) (Q := fun q => q < gK σ) (n := l.length) (σ := σ) (p := nPa (gN σ r)) (l := []) (fun z hz => hn.2.2.1 z hz) (fun z hz => by cases hz) q; rw [hlf_σ137] at hq2; exact hq2 hq
                have hl1n : l139.length ≤ 5 := hp_153.1
                have hS_σ154 : SW B cs σ154 := by rw [hσ154]; exact SW.sent hS_σ137 (by omega) (by omega) (lw_mk (by omega) (by omega) (by omega) (by omega) (by omega) (by omega) (by omega) (by omega) (by omega) (fun q hq => by rw [hK_σ137]; exact hl1K q hq) hl1n)
                refine g_iconst (pc := 178) C dX11_mixes_178 (v := nI 0) rfl ?_
                refine g_istore (pc := 179) C dX11_mixes_179 (by decide) (lv' := [(0, .ref (A m)), (1, .int (nI r)), (2, .int (nI s)), (3, .int (nI k)), (4, .int (nI x)), (5, .int (nI y)), (6, .int (nI 0)), (7, .int (nI (nPa (gN σ r)).length)), (8, .int (nI j))]) [1, 2, 3, 4, 5, 6, 0, 7, 8] rfl ?_
                have lp_181 : ∀ (fuel : Nat) (gm181 : pM) (hm181 : Fr g_145 gm181 (m + 1) (m + 2)) (j : Nat) (hj : j ≤ l.length) (hz181 : ZS gm181 m (tkL cs σ154 r (l.take j))) (hS181 : SW B cs (tkL cs σ154 r (l.take j))), l.length - j < fuel → V K 0 0 P A gm181 [(0, .ref (A m)), (1, .int (nI r)), (2, .int (nI s)), (3, .int (nI k)), (4, .int (nI x)), (5, .int (nI y)), (6, .int (nI j))] 181 [] := by
                  intro fuel
                  induction fuel with
                  | zero => intro gm181 hm181 j hj hz181 hS181 hμ; exact absurd hμ (Nat.not_lt_zero _)
                  | succ fuel ih =>
                    intro gm181 hm181 j hj hz181 hS181 hμ
                    have h_155 := hm181.at (by omega) h_149
                    have h_156 := hm181.at (by omega) h_150
                    have hp_157 := MC.fr hp_151 hm181 (by omega)
                    have hp_158 := SO.fr hp_152 hm181 (by omega)
                    have hp_159 := SO.fr hp_153 hm181 (by omega)
                    obtain ⟨Zl, hZl, hRl⟩ := hz181
                    obtain ⟨σ160, hσ160⟩ : ∃ sM : Sg, sM = tkL cs σ154 r (l.take j) := ⟨_, rfl⟩
                    rw [← hσ160] at hRl
                    have hK_σ160 : gK σ160 = gK σ := (congrArg gK hσ160).trans (tkL_K.trans hK_σ154)
                    have hT_σ160 : gT σ160 = gT σ := (congrArg gT hσ160).trans (tkL_T.trans hT_σ154)
                    have hZ_σ160 : gZ σ160 = gZ σ := (congrArg gZ hσ160).trans (tkL_Z.trans hZ_σ154)
                    have hS_σ160 : SW B cs σ160 := by rw [hσ160]; exact hS181
                    refine g_iload (pc := 181) C dX11_mixes_181 6 rfl ?_
                    refine g_aload_n (pc := 183) C dX11_mixes_183 0 rfl ?_
                    refine g_get (pc := 184) C (j := 12) h_156 rfl rfl (by decide) u_864 dX11_mixes_184 ?_
                    refine g_icmp_ge (pc := 187) C dX11_mixes_187 (tgt := 208) (by decide) (fun c_187 => ?_) (fun c_187 => ?_)
                    ·
                      have c_187 : l.length ≤ j := (nI_leI (by omega) (by omega)).mp c_187
                      exact g_vret (pc := 208) C R ⟨rfl, rfl, rfl, ⟨_, hZl, by rw [show k = 7 by omega]; show RZ _ (mixS cs σ r s x y l); rw [mixS_t (by omega), if_neg c_95, ansS_e hlf_σ137 hσ154, ← tkL_e (show l.length ≤ j by omega), ← hσ160]; exact hRl⟩, _, _, _, h_156, hp_159, hp_158, ⟨hg0, rg, h_155, hg2⟩, fun k hk => by rw [hm181 k (by omega), hf_148 k (by omega), hf_136 k (by omega) (by omega) (by omega) (by omega), hg_125, va_up_ne _ _ (by omega), hm112 k (by omega), hf_18 k (by omega)]⟩ (by decide) (by decide) dX11_mixes_208
                    ·
                      have c_187 : ¬ l.length ≤ j := fun h => c_187 ((nI_leI (a := l.length) (b := j) (by omega) (by omega)).mpr h)
                      have hjv := hlK _ (getD_mem (k := j) (by omega))
                      refine g_aload_n (pc := 190) C dX11_mixes_190 0 rfl ?_
                      refine g_iload_n (pc := 191) C dX11_mixes_191 1 rfl ?_
                      refine g_aload_n (pc := 192) C dX11_mixes_192 0 rfl ?_
                      refine g_get (pc := 193) C (j := 11) h_156 rfl rfl (by decide) u_863 dX11_mixes_193 ?_
                      refine g_iload (pc := 196) C dX11_mixes_196 6 rfl ?_
                      refine g_iald (pc := 198) C h_155 (nI_clamp (by omega)) (nI_in0 (by omega) (by omega)) dX11_mixes_198 (x := nI (l.getD j 0)) (hg2 _ (by omega)) ?_
                      refine g_callV (pc := 199) C (As := [.int (nI r), .int (nI (l.getD j 0))]) (rest := []) (b := m) (c_X11_note A P gm181 m r (l.getD j 0) (by omega) (by omega) hS_σ160 hp_157 (by rw [hZ_σ160]; exact h_156) hZl hRl) h_156 rfl rfl Y_X11_note u_1045 N_X11_note ⟨by decide, by decide⟩ ⟨by decide, by decide⟩ (Nat.le_of_ble_eq_true rfl) rfl dX11_mixes_199 ?_
                      rintro _ _ _ g_161 ⟨rfl, rfl, rfl, ⟨Z_162, hZ_162, hR_163⟩, hf_164⟩
                      have h_165 := hf_164.at (by omega) h_155
                      have h_166 := hf_164.at (by omega) h_156
                      have hp_167 := MC.fr hp_157 hf_164 (by omega)
                      have hp_168 := SO.fr hp_158 hf_164 (by omega)
                      have hp_169 := SO.fr hp_159 hf_164 (by omega)
                      obtain ⟨σ170, hσ170⟩ : ∃ sM : Sg, sM = nte cs σ160 r (l.getD j 0) := ⟨_, rfl⟩
                      rw [← hσ170] at hR_163
                      have hK_σ170 : gK σ170 = gK σ := (congrArg gK hσ170).trans (nte_K.trans hK_σ160)
                      have hT_σ170 : gT σ170 = gT σ := (congrArg gT hσ170).trans (nte_T.trans hT_σ160)
                      have hZ_σ170 : gZ σ170 = gZ σ := (congrArg gZ hσ170).trans (nte_Z.trans hZ_σ160)
                      have hS_σ170 : SW B cs σ170 := by rw [hσ170]; exact nte_SW hS_σ160 (by omega) (by omega)
                      show V K 0 0 P A g_161 [(0, .ref (A m)), (1, .int (nI r)), (2, .int (nI s)), (3, .int (nI k)), (4, .int (nI x)), (5, .int (nI y)), (6, .int (nI j))] 202 []
                      refine g_iinc (pc := 202) C dX11_mixes_202 (by decide) 6 rfl (v := nI (j + 1)) (nI_i1 _) (lv' := [(0, .ref (A m)), (1, .int (nI r)), (2, .int (nI s)), (3, .int (nI k)), (4, .int (nI x)), (5, .int (nI y)), (6, .int (nI (j + 1)))]) [1, 2, 3, 4, 5, 6, 0] rfl ?_
                      refine g_goto (pc := 205) C dX11_mixes_205 (tgt := 181) (by decide) ?_
                      exact ih g_161 (hm181.tr (fun k hk => by rw [hf_164 k (by omega)])) (j + 1) (by omega) ⟨_, hZ_162, by rw [tkL_s (by omega), ← hσ160, ← hσ170]; exact hR_163⟩ (by rw [tkL_s (by omega), ← hσ160, ← hσ170]; exact hS_σ170) (by omega)
                refine g_sub [0, 1, 2, 3, 4, 5, 6] rfl ?_
                exact lp_181 (_ + 1) g_145 Fr.rf 0 (Nat.zero_le _) ⟨_, hZ_146, hR_147⟩ hS_σ154 (Nat.lt_succ_self _)
              ·
                have c_116 : ¬ (nPa (gN σ r)).length ≤ j := fun h => c_116 ((nI_leI (a := (nPa (gN σ r)).length) (b := j) (by omega) (by omega)).mpr h)
                refine g_aload_n (pc := 119) C dX11_mixes_119 0 rfl ?_
                refine g_get (pc := 120) C (j := 10) h_120 rfl rfl (by decide) u_862 dX11_mixes_120 ?_
                refine g_iload (pc := 123) C dX11_mixes_123 8 rfl ?_
                refine g_aload_n (pc := 125) C dX11_mixes_125 0 rfl ?_
                refine g_get (pc := 126) C (j := 0) h_120 rfl rfl (by decide) u_852 dX11_mixes_126 ?_
                refine g_sipush (pc := 129) C dX11_mixes_129 (v := nI 256) rfl ?_
                refine g_bipush (pc := 132) C dX11_mixes_132 (v := nI 8) rfl ?_
                refine g_iload_n (pc := 134) C dX11_mixes_134 1 rfl ?_
                refine g_imul (pc := 135) C dX11_mixes_135 (z := nI (8 * r)) (pk_mul _ _) ?_
                refine g_iadd (pc := 136) C dX11_mixes_136 (z := nI (256 + 8 * r)) (nI_add _ _) ?_
                refine g_iload (pc := 137) C dX11_mixes_137 8 rfl ?_
                refine g_iadd (pc := 139) C dX11_mixes_139 (z := nI (256 + 8 * r + j)) (nI_add _ _) ?_
                refine g_iald (pc := 140) C h_121 (nI_clamp (by omega)) (nI_in0 (n := 10511) (by omega) (by omega)) dX11_mixes_140 (x := nI ((nPa (gN σ r)).getD j 0)) (RZ.rPa hR (r := r) (k := j) (by omega) (by omega) (by omega)) ?_
                refine g_iast (pc := 141) C hd1 (nI_clamp (by omega)) (nI_in0 (n := 16) (by omega) (by omega)) dX11_mixes_141 ?_
                obtain ⟨g_171, hg_171⟩ : ∃ yM : pM, yM = va_up gm112 (m + 4) (ai 0 16 (upd rd4 j (nI ((nPa (gN σ r)).getD j 0)))) := ⟨_, rfl⟩
                show V K 0 0 P A (va_up gm112 (m + 4) (ai 0 16 (upd rd4 j (nI ((nPa (gN σ r)).getD j 0))))) [(0, .ref (A m)), (1, .int (nI r)), (2, .int (nI s)), (3, .int (nI k)), (4, .int (nI x)), (5, .int (nI y)), (6, .int (nI (wof (some s) (some x) (nAc (gN σ r))).length)), (7, .int (nI (nPa (gN σ r)).length)), (8, .int (nI j))] 142 []
                rw [← hg_171]
                have h_172 : g_171 m = ob 11 [.ref (A (m + 1)), .int (nI (gZ σ).1), .int (nI (gZ σ).2.1), .int (nI (gZ σ).2.2.1), .int (nI (gZ σ).2.2.2.1), .int (nI (gZ σ).2.2.2.2), .ref (A (m + 2)), .int (nI cs.length), .ref (A (m + 3)), .int (nI lm), .ref (A (m + 4)), .ref (A (m + 5)), .int (nI l.length), .ref (A (m + 6)), .ref (A (m + 7)), .ref (A (m + 8))] := by rw [hg_171, va_up_ne _ _ (show m ≠ m + 4 from by omega)]; exact h_120
                have h_173 : g_171 (m + 1) = ai 0 10511 Z := by rw [hg_171, va_up_ne _ _ (show m + 1 ≠ m + 4 from by omega)]; exact h_121
                have h_174 : g_171 (m + 5) = ai 0 5 rg := by rw [hg_171, va_up_ne _ _ (show m + 5 ≠ m + 4 from by omega)]; exact h_122
                have h_175 : g_171 (m + 4) = ai 0 16 (upd rd4 j (nI ((nPa (gN σ r)).getD j 0))) := by rw [hg_171]; exact va_up_self _ _ _
                have hf_176 : Fr gm112 g_171 (m + 4) (m + 4 + 1) := by rw [hg_171]; exact Fr.up (by omega) (by omega)
                have hp_177 := MC.fr hp_123 hf_176 (by omega)
                have hp_178 := SO.fr hp_124 hf_176 (by omega)
                refine g_iinc (pc := 142) C dX11_mixes_142 (by decide) 8 rfl (v := nI (j + 1)) (nI_i1 _) (lv' := [(0, .ref (A m)), (1, .int (nI r)), (2, .int (nI s)), (3, .int (nI k)), (4, .int (nI x)), (5, .int (nI y)), (6, .int (nI (wof (some s) (some x) (nAc (gN σ r))).length)), (7, .int (nI (nPa (gN σ r)).length)), (8, .int (nI (j + 1)))]) [1, 2, 3, 4, 5, 6, 7, 8, 0] rfl ?_
                refine g_goto (pc := 145) C dX11_mixes_145 (tgt := 112) (by decide) ?_
                exact ih g_171 (hm112.tr (fun k hk => by rw [hg_171, va_up_ne _ _ (by omega)])) (j + 1) (by omega) (SO.tks hd2 (by omega) (by omega) rfl h_175) (by omega)
          exact lp_112 (_ + 1) g_17 Fr.rf 0 (Nat.zero_le _) hs_19.nil (Nat.lt_succ_self _)
      ·
        have c_24 : ¬ (wof (some s) (some x) (nAc (gN σ r))).length ≤ 0 := fun h => c_24 ((nI_leI (a := (wof (some s) (some x) (nAc (gN σ r))).length) (b := 0) (by omega) (by omega)).mpr h)
        refine g_aload_n (pc := 27) C dX11_mixes_27 0 rfl ?_
        refine g_get (pc := 28) C (j := 10) h_20 rfl rfl (by decide) u_862 dX11_mixes_28 ?_
        refine g_aload_n (pc := 31) C dX11_mixes_31 0 rfl ?_
        refine g_iload (pc := 32) C dX11_mixes_32 6 rfl ?_
        refine g_callV (pc := 34) C (As := [.int (nI (wof (some s) (some x) (nAc (gN σ r))).length)]) (rest := [.ref (A (m + 4))]) (b := m) (c_X11_draw A P g_17 m (wof (some s) (some x) (nAc (gN σ r))).length (by omega) (by omega) hp_23 hS.nx h_20 h_21 hR) h_20 rfl rfl Y_X11_draw u_973 N_X11_draw ⟨by decide, by decide⟩ ⟨by decide, by decide⟩ (Nat.le_of_ble_eq_true rfl) rfl dX11_mixes_34 ?_
        rintro _ _ _ g_179 ⟨rfl, rfl, rfl, ⟨Z_180, hZ_180, hR_181⟩, hf_182⟩
        have h_183 := hf_182.at (by omega) h_20
        have h_184 := hf_182.at (by omega) h_22
        have h_185 := hf_182.at (by omega) hw1
        have hp_186 := MC.fr hp_23 hf_182 (by omega)
        have hp_187 := SO.fr hp_24 hf_182 (by omega)
        have hp_188 := SO.fr hs_19 hf_182 (by omega)
        obtain ⟨σ189, hσ189⟩ : ∃ sM : Sg, sM = dS cs σ (wof (some s) (some x) (nAc (gN σ r))).length := ⟨_, rfl⟩
        rw [← hσ189] at hR_181
        have hK_σ189 : gK σ189 = gK σ := (congrArg gK hσ189).trans (dS_K.trans (rfl : gK σ = gK σ))
        have hT_σ189 : gT σ189 = gT σ := (congrArg gT hσ189).trans (dS_T.trans (rfl : gT σ = gT σ))
        have hZ_σ189 : gZ σ189 = gZ σ := (congrArg gZ hσ189).trans (dS_Z.trans (rfl : gZ σ = gZ σ))
        have hS_σ189 : SW B cs σ189 := by rw [hσ189]; exact hS.drw
        have hN_σ189 : gN σ189 = gN σ := (congrArg gN hσ189).trans dS_N
        have hd_σ189 := dI_lt (cs := cs) (σ := σ) (n := (wof (some s) (some x) (nAc (gN σ r))).length) (by omega)
        show V K 0 0 P A g_179 [(0, .ref (A m)), (1, .int (nI r)), (2, .int (nI s)), (3, .int (nI k)), (4, .int (nI x)), (5, .int (nI y)), (6, .int (nI (wof (some s) (some x) (nAc (gN σ r))).length))] 37 [.int (nI (dI cs σ (wof (some s) (some x) (nAc (gN σ r))).length)), .ref (A (m + 4))]
        have hqm : (wof (some s) (some x) (nAc (gN σ r))).getD (dI cs σ (wof (some s) (some x) (nAc (gN σ r))).length) 0 ∈ nAc (gN σ r) := wof_mem (getD_mem (by omega))
        have hqK := hn.2.1 _ hqm
        refine g_iald (pc := 37) C h_185 (nI_clamp (by omega)) (nI_in0 (by omega) (by omega)) dX11_mixes_37 (x := nI ((wof (some s) (some x) (nAc (gN σ r))).getD (dI cs σ (wof (some s) (some x) (nAc (gN σ r))).length) 0)) (hw2 _ (by omega)) ?_
        refine g_istore (pc := 38) C dX11_mixes_38 (by decide) (lv' := [(0, .ref (A m)), (1, .int (nI r)), (2, .int (nI s)), (3, .int (nI k)), (4, .int (nI x)), (5, .int (nI y)), (6, .int (nI (wof (some s) (some x) (nAc (gN σ r))).length)), (7, .int (nI ((wof (some s) (some x) (nAc (gN σ r))).getD (dI cs σ (wof (some s) (some x) (nAc (gN σ r))).length) 0)))]) [1, 2, 3, 4, 5, 6, 7, 0] rfl ?_
        refine g_iconst (pc := 40) C dX11_mixes_40 (v := nI 0) rfl ?_
        refine g_istore (pc := 41) C dX11_mixes_41 (by decide) (lv' := [(0, .ref (A m)), (1, .int (nI r)), (2, .int (nI s)), (3, .int (nI k)), (4, .int (nI x)), (5, .int (nI y)), (6, .int (nI (wof (some s) (some x) (nAc (gN σ r))).length)), (7, .int (nI ((wof (some s) (some x) (nAc (gN σ r))).getD (dI cs σ (wof (some s) (some x) (nAc (gN σ r))).length) 0))), (8, .int (nI 0))]) [1, 2, 3, 4, 5, 6, 7, 8, 0] rfl ?_
        have lp_43 : ∀ (fuel : Nat) (gm43 : pM) (hm43 : Fr g_179 gm43 (m + 3) (m + 4)) (j : Nat) (hj : j ≤ l.length) (hs43 : SO gm43 (m + 3) 5 (l.take j)), l.length - j < fuel → V K 0 0 P A gm43 [(0, .ref (A m)), (1, .int (nI r)), (2, .int (nI s)), (3, .int (nI k)), (4, .int (nI x)), (5, .int (nI y)), (6, .int (nI (wof (some s) (some x) (nAc (gN σ r))).length)), (7, .int (nI ((wof (some s) (some x) (nAc (gN σ r))).getD (dI cs σ (wof (some s) (some x) (nAc (gN σ r))).length) 0))), (8, .int (nI j))] 43 [] := by
          intro fuel
          induction fuel with
          | zero => intro gm43 hm43 j hj hs43 hμ; exact absurd hμ (Nat.not_lt_zero _)
          | succ fuel ih =>
            intro gm43 hm43 j hj hs43 hμ
            have h_190 := hm43.at (by omega) h_183
            have h_191 := hm43.at (by omega) h_184
            have h_192 := hm43.at (by omega) h_185
            have h_193 := hm43.at (by omega) hZ_180
            have hp_194 := MC.fr hp_186 hm43 (by omega)
            have hp_195 := SO.fr hp_188 hm43 (by omega)
            obtain ⟨hc0, rc3, hc1, hc2⟩ := hs43
            refine g_iload (pc := 43) C dX11_mixes_43 8 rfl ?_
            refine g_aload_n (pc := 45) C dX11_mixes_45 0 rfl ?_
            refine g_get (pc := 46) C (j := 12) h_190 rfl rfl (by decide) u_864 dX11_mixes_46 ?_
            refine g_icmp_ge (pc := 49) C dX11_mixes_49 (tgt := 72) (by decide) (fun c_49 => ?_) (fun c_49 => ?_)
            ·
              have c_49 : l.length ≤ j := (nI_leI (by omega) (by omega)).mp c_49
              have hs43b : SO gm43 (m + 3) 5 l := SO.take ⟨hc0, rc3, hc1, hc2⟩ (show l.length ≤ j by omega)
              refine g_aload_n (pc := 72) C dX11_mixes_72 0 rfl ?_
              refine g_iload_n (pc := 73) C dX11_mixes_73 1 rfl ?_
              refine g_iload (pc := 74) C dX11_mixes_74 7 rfl ?_
              refine g_bipush (pc := 76) C dX11_mixes_76 (v := nI 7) rfl ?_
              refine g_iload (pc := 78) C dX11_mixes_78 4 rfl ?_
              refine g_iload (pc := 80) C dX11_mixes_80 5 rfl ?_
              refine g_iconst (pc := 82) C dX11_mixes_82 (v := nI 1) rfl ?_
              refine g_isub (pc := 83) C dX11_mixes_83 (z := nI (y - 1)) (pk_sub (by omega)) ?_
              refine g_aload_n (pc := 84) C dX11_mixes_84 0 rfl ?_
              refine g_get (pc := 85) C (j := 12) h_190 rfl rfl (by decide) u_864 dX11_mixes_85 ?_
              refine g_callV (pc := 88) C (As := [.int (nI r), .int (nI ((wof (some s) (some x) (nAc (gN σ r))).getD (dI cs σ (wof (some s) (some x) (nAc (gN σ r))).length) 0)), .int (nI 7), .int (nI x), .int (nI (y - 1)), .int (nI l.length)]) (rest := []) (b := m) (c_X11_sendList A P gm43 m r ((wof (some s) (some x) (nAc (gN σ r))).getD (dI cs σ (wof (some s) (some x) (nAc (gN σ r))).length) 0) 7 x (y - 1) l hs43b (by omega) (by rw [hZ_σ189]; exact h_190) h_193 hR_181) h_190 rfl rfl Y_X11_sendList u_937 N_X11_sendList ⟨by decide, by decide⟩ ⟨by decide, by decide⟩ (Nat.le_of_ble_eq_true rfl) rfl dX11_mixes_88 ?_
              rintro _ _ _ g_196 ⟨rfl, rfl, rfl, ⟨Z_197, hZ_197, hR_198⟩, hf_199⟩
              have h_200 := hf_199.at (by omega) h_190
              have h_201 := hf_199.at (by omega) h_191
              have h_202 := hf_199.at (by omega) h_192
              have hp_203 := MC.fr hp_194 hf_199 (by omega)
              have hp_204 := SO.fr hp_195 hf_199 (by omega)
              have hp_205 := SO.fr hs43b hf_199 (by omega)
              obtain ⟨σ206, hσ206⟩ : ∃ sM : Sg, sM = snd σ189 r ((wof (some s) (some x) (nAc (gN σ r))).getD (dI cs σ (wof (some s) (some x) (nAc (gN σ r))).length) 0) 7 x (y - 1) l := ⟨_, rfl⟩
              rw [← hσ206] at hR_198
              have hK_σ206 : gK σ206 = gK σ := (congrArg gK hσ206).trans (snd_K.trans hK_σ189)
              have hT_σ206 : gT σ206 = gT σ := (congrArg gT hσ206).trans (snd_T.trans hT_σ189)
              have hZ_σ206 : gZ σ206 = gZ σ := (congrArg gZ hσ206).trans (snd_Z.trans hZ_σ189)
              show V K 0 0 P A g_196 [(0, .ref (A m)), (1, .int (nI r)), (2, .int (nI s)), (3, .int (nI k)), (4, .int (nI x)), (5, .int (nI y)), (6, .int (nI (wof (some s) (some x) (nAc (gN σ r))).length)), (7, .int (nI ((wof (some s) (some x) (nAc (gN σ r))).getD (dI cs σ (wof (some s) (some x) (nAc (gN σ r))).length) 0))), (8, .int (nI j))] 91 []
              exact g_vret (pc := 91) C R ⟨rfl, rfl, rfl, ⟨_, hZ_197, by rw [show k = 7 by omega]; show RZ _ (mixS cs σ r s x y l); rw [mixS_s (by omega) (dpV_some (by omega)) , ← hσ189, ← hσ206]; exact hR_198⟩, _, _, _, h_200, hp_205, hp_204, ⟨hg0, rg, h_201, hg2⟩, fun k hk => by rw [hf_199 k (by omega), hm43 k (by omega), hf_182 k (by omega), hf_18 k (by omega)]⟩ (by decide) (by decide) dX11_mixes_91
            ·
              have c_49 : ¬ l.length ≤ j := fun h => c_49 ((nI_leI (a := l.length) (b := j) (by omega) (by omega)).mpr h)
              refine g_aload_n (pc := 52) C dX11_mixes_52 0 rfl ?_
              refine g_get (pc := 53) C (j := 8) h_190 rfl rfl (by decide) u_860 dX11_mixes_53 ?_
              refine g_iload (pc := 56) C dX11_mixes_56 8 rfl ?_
              refine g_aload_n (pc := 58) C dX11_mixes_58 0 rfl ?_
              refine g_get (pc := 59) C (j := 11) h_190 rfl rfl (by decide) u_863 dX11_mixes_59 ?_
              refine g_iload (pc := 62) C dX11_mixes_62 8 rfl ?_
              refine g_iald (pc := 64) C h_191 (nI_clamp (by omega)) (nI_in0 (by omega) (by omega)) dX11_mixes_64 (x := nI (l.getD j 0)) (hg2 _ (by omega)) ?_
              refine g_iast (pc := 65) C hc1 (nI_clamp (by omega)) (nI_in0 (n := 5) (by omega) (by omega)) dX11_mixes_65 ?_
              obtain ⟨g_207, hg_207⟩ : ∃ yM : pM, yM = va_up gm43 (m + 3) (ai 0 5 (upd rc3 j (nI (l.getD j 0)))) := ⟨_, rfl⟩
              show V K 0 0 P A (va_up gm43 (m + 3) (ai 0 5 (upd rc3 j (nI (l.getD j 0))))) [(0, .ref (A m)), (1, .int (nI r)), (2, .int (nI s)), (3, .int (nI k)), (4, .int (nI x)), (5, .int (nI y)), (6, .int (nI (wof (some s) (some x) (nAc (gN σ r))).length)), (7, .int (nI ((wof (some s) (some x) (nAc (gN σ r))).getD (dI cs σ (wof (some s) (some x) (nAc (gN σ r))).length) 0))), (8, .int (nI j))] 66 []
              rw [← hg_207]
              have h_208 : g_207 m = ob 11 [.ref (A (m + 1)), .int (nI (gZ σ).1), .int (nI (gZ σ).2.1), .int (nI (gZ σ).2.2.1), .int (nI (gZ σ).2.2.2.1), .int (nI (gZ σ).2.2.2.2), .ref (A (m + 2)), .int (nI cs.length), .ref (A (m + 3)), .int (nI lm), .ref (A (m + 4)), .ref (A (m + 5)), .int (nI l.length), .ref (A (m + 6)), .ref (A (m + 7)), .ref (A (m + 8))] := by rw [hg_207, va_up_ne _ _ (show m ≠ m + 3 from by omega)]; exact h_190
              have h_209 : g_207 (m + 5) = ai 0 5 rg := by rw [hg_207, va_up_ne _ _ (show m + 5 ≠ m + 3 from by omega)]; exact h_191
              have h_210 : g_207 (m + 4) = ai 0 16 rw4 := by rw [hg_207, va_up_ne _ _ (show m + 4 ≠ m + 3 from by omega)]; exact h_192
              have h_211 : g_207 (m + 1) = ai 0 10511 Z_180 := by rw [hg_207, va_up_ne _ _ (show m + 1 ≠ m + 3 from by omega)]; exact h_193
              have h_212 : g_207 (m + 3) = ai 0 5 (upd rc3 j (nI (l.getD j 0))) := by rw [hg_207]; exact va_up_self _ _ _
              have hf_213 : Fr gm43 g_207 (m + 3) (m + 3 + 1) := by rw [hg_207]; exact Fr.up (by omega) (by omega)
              have hp_214 := MC.fr hp_194 hf_213 (by omega)
              have hp_215 := SO.fr hp_195 hf_213 (by omega)
              refine g_iinc (pc := 66) C dX11_mixes_66 (by decide) 8 rfl (v := nI (j + 1)) (nI_i1 _) (lv' := [(0, .ref (A m)), (1, .int (nI r)), (2, .int (nI s)), (3, .int (nI k)), (4, .int (nI x)), (5, .int (nI y)), (6, .int (nI (wof (some s) (some x) (nAc (gN σ r))).length)), (7, .int (nI ((wof (some s) (some x) (nAc (gN σ r))).getD (dI cs σ (wof (some s) (some x) (nAc (gN σ r))).length) 0))), (8, .int (nI (j + 1)))]) [1, 2, 3, 4, 5, 6, 7, 8, 0] rfl ?_
              refine g_goto (pc := 69) C dX11_mixes_69 (tgt := 43) (by decide) ?_
              exact ih g_207 (hm43.tr (fun k hk => by rw [hg_207, va_up_ne _ _ (by omega)])) (j + 1) (by omega) (SO.tks hc2 (by omega) (by omega) rfl h_212) (by omega)
        exact lp_43 (_ + 1) g_179 Fr.rf 0 (Nat.zero_le _) hp_187.nil (Nat.lt_succ_self _)
