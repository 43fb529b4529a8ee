-- PART 23: the reference: drawing, noting, adding, mending
theorem idx_getD {l : List Nat} {k : Nat} (h : l.Nodup) (hk : k < l.length) : l.idxOf (l.getD k 0) = k := by
  have hm := getD_mem hk
  have h1 : l.idxOf (l.getD k 0) < l.length := List.idxOf_lt_length_of_mem hm
  have h2 : l.getD (l.idxOf (l.getD k 0)) 0 = l.getD k 0 := by
    rw [List.getD, List.getElem?_eq_getElem h1]
    simp
  exact (List.getD_inj h1 hk h).mp h2
theorem RZ.pPa {Z Z1 Z2 : Nat → Int32} {σ : Sg} {r q : Nat} (h : RZ Z σ) (hr : r < gK σ) (hl : (nPa (gN σ r)).length < 8) (hq : q ∉ nPa (gN σ r)) (e1 : Z1 = upd Z (256 + 8 * r + (nPa (gN σ r)).length) (nI q)) (e2 : Z2 = upd Z1 (32 + r) (nI ((nPa (gN σ r)).length + 1))) : RZ Z2 (paPut σ r q) := by
  have hk16 := h.k16
  have hlen : (nPa (gN σ r) ++ [q]).length = (nPa (gN σ r)).length + 1 := by rw [List.length_append]; rfl
  refine h.wPa hr (fun j hj => zne e2 (by omega) (zne e1 (by omega) rfl)) ⟨by omega, by rw [hlen]; exact zeq e2 rfl, List.nodup_append.mpr ⟨h.paN hr, by simp, fun a ha b hb => ?_⟩, fun j hj => ?_⟩
  · rw [List.mem_singleton.mp hb]
    exact fun e => hq (e ▸ ha)
  · rw [hlen] at hj
    by_cases c : j < (nPa (gN σ r)).length
    · have e : (nPa (gN σ r) ++ [q]).getD j 0 = (nPa (gN σ r)).getD j 0 := by simp [List.getD, List.getElem?_append_left c]
      rw [e]
      exact zne e2 (by omega) (zne e1 (by omega) (h.rPa rfl hr c))
    · have hj2 : j = (nPa (gN σ r)).length := by omega
      subst hj2
      have e : (nPa (gN σ r) ++ [q]).getD (nPa (gN σ r)).length 0 = q := by simp [List.getD]
      rw [e]
      exact zne e2 (by omega) (zeq e1 rfl)
theorem RZ.pAc {Z Z1 Z2 Z3 : Nat → Int32} {σ : Sg} {r q : Nat} (h : RZ Z σ) (hr : r < gK σ) (hl : (nAc (gN σ r)).length < 5) (hq : q ∉ nAc (gN σ r)) (hq16 : q < 16) (h16 : ∀ x ∈ nAc (gN σ r), x < 16) (e1 : Z1 = upd Z (96 + 5 * r + (nAc (gN σ r)).length) (nI q)) (e2 : Z2 = upd Z1 (176 + 5 * r + (nAc (gN σ r)).length) (nI 0)) (e3 : Z3 = upd Z2 (16 + r) (nI ((nAc (gN σ r)).length + 1))) : RZ Z3 (egS (acPut σ r q) r q) := by
  have hk16 := h.k16
  have hlen : (nAc (gN σ r) ++ [q]).length = (nAc (gN σ r)).length + 1 := by rw [List.length_append]; rfl
  have e : egS (acPut σ r q) r q = sNd σ r (sLz (sAc (gN σ r) (nAc (gN σ r) ++ [q])) (bo (nLz (gN σ r)) q)) := by
    simp only [egS, acPut, gN_self, sNd_2]
  rw [e]
  refine h.wAc hr (fun j hj => zne e3 (by omega) (zne e2 (by omega) (zne e1 (by omega) rfl))) ⟨by omega, by rw [hlen]; exact zeq e3 rfl, List.nodup_append.mpr ⟨h.acN hr, by simp, fun a ha b hb => ?_⟩, fun j hj => ?_⟩
  · rw [List.mem_singleton.mp hb]
    exact fun e => hq (e ▸ ha)
  · rw [hlen] at hj
    by_cases c : j < (nAc (gN σ r)).length
    · have e : (nAc (gN σ r) ++ [q]).getD j 0 = (nAc (gN σ r)).getD j 0 := by simp [List.getD, List.getElem?_append_left c]
      have hm := getD_mem c
      have hne : ¬ q = (nAc (gN σ r)).getD j 0 := fun z => hq (z ▸ hm)
      rw [e, bo_tb (h16 _ hm) hq16, decide_eq_false hne, Bool.not_false, Bool.and_true]
      exact ⟨zne e3 (by omega) (zne e2 (by omega) (zne e1 (by omega) (h.rAc rfl hr c))), zne e3 (by omega) (zne e2 (by omega) (zne e1 (by omega) (h.rLz rfl hr c)))⟩
    · have hj2 : j = (nAc (gN σ r)).length := by omega
      subst hj2
      have e : (nAc (gN σ r) ++ [q]).getD (nAc (gN σ r)).length 0 = q := by simp [List.getD]
      rw [e, bo_tb hq16 hq16, decide_eq_true rfl, Bool.not_true, Bool.and_false]
      exact ⟨zne e3 (by omega) (zne e2 (by omega) (zeq e1 rfl)), zne e3 (by omega) (zeq e2 rfl)⟩
theorem onv_lt {o : Option Nat} (h : ∀ q, o = some q → q < 16) : onv o < 0 ↔ o = none := by
  cases o with
  | none => exact ⟨fun _ => rfl, fun _ => by decide⟩
  | some q =>
    have := h q rfl
    refine ⟨fun e => absurd e (nI_pos (by omega)), fun e => by cases e⟩
theorem onv_ltb {o : Option Nat} (h : ∀ q, o = some q → q < 2 ^ 31) : onv o < 0 ↔ o = none := by
  cases o with
  | none => exact ⟨fun _ => rfl, fun _ => by decide⟩
  | some q => exact ⟨fun e => absurd e (nI_pos (h q rfl)), fun e => by cases e⟩
theorem dS_e {cs : List Nat} {σ : Sg} {n k : Nat} (h : n = k) : dS cs σ n = dS cs σ k := by rw [h]
theorem nAs_eg {σ : Sg} {r q : Nat} : nAs (gN (egS (acPut σ r q) r q) r) = nAs (gN σ r) := by
  simp only [egS, acPut, gN_self]
theorem nte_fin {cs : List Nat} {σ σ1 σ2 : Sg} {r q k : Nat} (hn : ¬ q = r) (ha : ¬ q ∈ nAc (gN σ r)) (hp : ¬ q ∈ nPa (gN σ r)) (hf : (nPa (gN σ r)).length = (gZ σ).2.1) (h0 : 0 < (gZ σ).2.1) (hd : (nPa (gN σ r)).Nodup) (e1 : σ1 = dS cs σ (gZ σ).2.1) (hk : k = dI cs σ (gZ σ).2.1) (e2 : σ2 = paRem σ1 r ((nPa (gN σ1 r)).getD k 0)) : nte cs σ r q = paPut σ2 r q := by
  subst hk e2 e1
  rw [nte_full (fun z => by rcases z with z | z | z; exact hn z; exact ha z; exact hp z) (by omega), hf]
  have e : gN (dS cs σ (gZ σ).2.1) = gN σ := dS_N
  rw [paRem_e (k := dI cs σ (gZ σ).2.1)]
  rw [e]
  exact idx_getD hd (by rw [hf]; exact dI_lt h0)
theorem paRem_len {σ : Sg} {r q : Nat} (h : q ∈ nPa (gN σ r)) : (nPa (gN (paRem σ r q) r)).length = (nPa (gN σ r)).length - 1 := by
  simp only [paRem, gN_self]
  exact List.length_erase_of_mem h
theorem paRem_mem {σ : Sg} {r q x : Nat} (h : x ∉ nPa (gN σ r)) : x ∉ nPa (gN (paRem σ r q) r) := by
  simp only [paRem, gN_self]
  exact fun z => h (List.mem_of_mem_erase z)
theorem paRem_ac {σ : Sg} {r q : Nat} : nAc (gN (paRem σ r q) r) = nAc (gN σ r) := by simp only [paRem, gN_self]
abbrev rm_X11_drawOut : Room := { frames := 1, cells := 0, slots := 0, locals := 22 }
theorem Y_X11_drawOut : pY yX11_drawOut cX11_drawOut 5 (Option.some Jvm.ClassFile.FieldType.int) := ⟨u_987, us_14, u_13, u_988⟩
theorem N_X11_drawOut : yX11_drawOut.cls ≠ "java/lang/invoke/MethodHandle" ∧ yX11_drawOut.cls ≠ "java/lang/invoke/VarHandle" ∧ (parseMethodDescriptor yX11_drawOut.desc).map (fun d => d.parameters.length) = some 1 := by decide +kernel
set_option maxRecDepth 20000 in
set_option maxHeartbeats 4000000 in
theorem c_X11_drawOut (A : Nat → Nat) (P : List Nat) (g : pM) (m : Nat) {cs : List Nat} {lm gm : Nat} {Z : Nat → Int32} {σ : Sg} (l : List Nat) (h0 : 0 < l.length) (hl : SO g (m + 4) 16 l) (hC : MC g m cs) (hX : cs.length = 0 ∨ gX σ < cs.length) (hO : g m = mOb A m (gZ σ) cs.length lm gm) (hZ : g (m + 1) = ai 0 10511 Z) (hR : RZ Z σ) : PM yX11_drawOut cX11_drawOut 5 (Option.some Jvm.ClassFile.FieldType.int) rm_X11_drawOut [.ref (A m), .int (nI l.length)] P A g (fun v g' => v = some (.int (nI (l.getD (dI cs σ l.length) 0))) ∧ ZS g' m (dS cs σ l.length) ∧ SO g' (m + 4) 16 (dpL cs σ l) ∧ FrZ g g' m) := by
  have hK := hR.k16
  have hT := hR.t24
  have hL := hR.le
  obtain ⟨hs0, rs, hs1, hs2⟩ := hl
  refine px_intro (by decide +kernel) (Nat.le_of_ble_eq_true rfl) (fun K sz C R => ?_)
  show V K 0 0 P A g [(0, .ref (A m)), (1, .int (nI l.length))] 0 []
  refine g_aload_n (pc := 0) C dX11_drawOut_0 0 rfl ?_
  refine g_iload_n (pc := 1) C dX11_drawOut_1 1 rfl ?_
  refine g_callV (pc := 2) C (As := [.int (nI l.length)]) (rest := []) (b := m) (c_X11_draw A P g m l.length (by omega) (by omega) hC hX hO hZ hR) hO rfl rfl Y_X11_draw u_973 N_X11_draw ⟨by decide, by decide⟩ ⟨by decide, by decide⟩ (Nat.le_of_ble_eq_true rfl) rfl dX11_drawOut_2 ?_
  rintro _ _ _ g_1 ⟨rfl, rfl, rfl, ⟨Z_2, hZ_2, hR_3⟩, hf_4⟩
  have h_5 := hf_4.at (by omega) hO
  have h_6 := hf_4.at (by omega) hs1
  have hp_7 := MC.fr hC hf_4 (by omega)
  obtain ⟨σ8, hσ8⟩ : ∃ sM : Sg, sM = dS cs σ l.length := ⟨_, rfl⟩
  rw [← hσ8] at hR_3
  have hK_σ8 : gK σ8 = gK σ := (congrArg gK hσ8).trans (dS_K.trans (rfl : gK σ = gK σ))
  have hT_σ8 : gT σ8 = gT σ := (congrArg gT hσ8).trans (dS_T.trans (rfl : gT σ = gT σ))
  have hZ_σ8 : gZ σ8 = gZ σ := (congrArg gZ hσ8).trans (dS_Z.trans (rfl : gZ σ = gZ σ))
  have hN_σ8 : gN σ8 = gN σ := (congrArg gN hσ8).trans dS_N
  have hd_σ8 := dI_lt (cs := cs) (σ := σ) (n := l.length) (by omega)
  have hX_σ8 : cs.length = 0 ∨ gX σ8 < cs.length := by rw [hσ8]; exact dS_nx hX
  show V K 0 0 P A g_1 [(0, .ref (A m)), (1, .int (nI l.length))] 5 [.int (nI (dI cs σ l.length))]
  refine g_istore_n (pc := 5) C dX11_drawOut_5 (by decide) (lv' := [(0, .ref (A m)), (1, .int (nI l.length)), (2, .int (nI (dI cs σ l.length)))]) [1, 2, 0] rfl ?_
  refine g_aload_n (pc := 6) C dX11_drawOut_6 0 rfl ?_
  refine g_get (pc := 7) C (j := 10) h_5 rfl rfl (by decide) u_862 dX11_drawOut_7 ?_
  refine g_iload_n (pc := 10) C dX11_drawOut_10 2 rfl ?_
  refine g_iald (pc := 11) C h_6 (nI_clamp (by omega)) (nI_in0 (by omega) (by omega)) dX11_drawOut_11 (x := nI (l.getD (dI cs σ l.length) 0)) (hs2 _ (by omega)) ?_
  refine g_istore_n (pc := 12) C dX11_drawOut_12 (by decide) (lv' := [(0, .ref (A m)), (1, .int (nI l.length)), (2, .int (nI (dI cs σ l.length))), (3, .int (nI (l.getD (dI cs σ l.length) 0)))]) [1, 2, 3, 0] rfl ?_
  refine g_iload_n (pc := 13) C dX11_drawOut_13 2 rfl ?_
  refine g_istore (pc := 14) C dX11_drawOut_14 (by decide) (lv' := [(0, .ref (A m)), (1, .int (nI l.length)), (2, .int (nI (dI cs σ l.length))), (3, .int (nI (l.getD (dI cs σ l.length) 0))), (4, .int (nI (dI cs σ l.length)))]) [1, 2, 3, 4, 0] rfl ?_
  have lp_16 : ∀ (fuel : Nat) (gm16 : pM) (hm16 : Fr g_1 gm16 (m + 4) (m + 5)) (k : Nat) (hk1 : dI cs σ l.length ≤ k) (hk2 : k < l.length) (hs16 : gm16 (m + 4) = ai 0 16 (sh rs (dI cs σ l.length) k)), l.length - k < fuel → V K 0 0 P A gm16 [(0, .ref (A m)), (1, .int (nI l.length)), (2, .int (nI (dI cs σ l.length))), (3, .int (nI (l.getD (dI cs σ l.length) 0))), (4, .int (nI k))] 16 [] := by
    intro fuel
    induction fuel with
    | zero => intro gm16 hm16 k hk1 hk2 hs16 hμ; exact absurd hμ (Nat.not_lt_zero _)
    | succ fuel ih =>
      intro gm16 hm16 k hk1 hk2 hs16 hμ
      have h_9 := hm16.at (by omega) h_5
      have h_10 := hm16.at (by omega) hZ_2
      have hp_11 := MC.fr hp_7 hm16 (by omega)
      refine g_iload (pc := 16) C dX11_drawOut_16 4 rfl ?_
      refine g_iload_n (pc := 18) C dX11_drawOut_18 1 rfl ?_
      refine g_iconst (pc := 19) C dX11_drawOut_19 (v := nI 1) rfl ?_
      refine g_isub (pc := 20) C dX11_drawOut_20 (z := nI (l.length - 1)) (pk_sub (by omega)) ?_
      refine g_icmp_ge (pc := 21) C dX11_drawOut_21 (tgt := 46) (by decide) (fun c_21 => ?_) (fun c_21 => ?_)
      ·
        have c_21 : (l.length - 1) ≤ k := (nI_leI (by omega) (by omega)).mp c_21
        refine g_iload_n (pc := 46) C dX11_drawOut_46 3 rfl ?_
        exact g_iret (pc := 47) C R ⟨rfl, rfl, rfl, ⟨_, h_10, by rw [← hσ8]; exact hR_3⟩, ⟨by have := List.length_eraseIdx_le l (dI cs σ l.length); show (l.eraseIdx _).length ≤ 16; omega, _, hs16, so_er (by omega) (by omega) hs2⟩, fun k hk1 hk2 => by rw [hm16 k (by omega), hf_4 k (by omega)]⟩ (by decide) (by decide) dX11_drawOut_47
      ·
        have c_21 : ¬ (l.length - 1) ≤ k := fun h => c_21 ((nI_leI (a := (l.length - 1)) (b := k) (by omega) (by omega)).mpr h)
        refine g_aload_n (pc := 24) C dX11_drawOut_24 0 rfl ?_
        refine g_get (pc := 25) C (j := 10) h_9 rfl rfl (by decide) u_862 dX11_drawOut_25 ?_
        refine g_iload (pc := 28) C dX11_drawOut_28 4 rfl ?_
        refine g_aload_n (pc := 30) C dX11_drawOut_30 0 rfl ?_
        refine g_get (pc := 31) C (j := 10) h_9 rfl rfl (by decide) u_862 dX11_drawOut_31 ?_
        refine g_iload (pc := 34) C dX11_drawOut_34 4 rfl ?_
        refine g_iconst (pc := 36) C dX11_drawOut_36 (v := nI 1) rfl ?_
        refine g_iadd (pc := 37) C dX11_drawOut_37 (z := nI (k + 1)) (nI_add _ _) ?_
        refine g_iald (pc := 38) C hs16 (nI_clamp (by omega)) (nI_in0 (by omega) (by omega)) dX11_drawOut_38 (x := rs (k + 1)) (by simp only [sh]; rw [if_neg (by omega)]) ?_
        refine g_iast (pc := 39) C hs16 (nI_clamp (by omega)) (nI_in0 (n := 16) (by omega) (by omega)) dX11_drawOut_39 ?_
        obtain ⟨g_12, hg_12⟩ : ∃ yM : pM, yM = va_up gm16 (m + 4) (ai 0 16 (upd (sh rs (dI cs σ l.length) k) k (rs (k + 1)))) := ⟨_, rfl⟩
        show V K 0 0 P A (va_up gm16 (m + 4) (ai 0 16 (upd (sh rs (dI cs σ l.length) k) k (rs (k + 1))))) [(0, .ref (A m)), (1, .int (nI l.length)), (2, .int (nI (dI cs σ l.length))), (3, .int (nI (l.getD (dI cs σ l.length) 0))), (4, .int (nI k))] 40 []
        rw [← hg_12]
        have h_13 : g_12 m = ob 11 [.ref (A (m + 1)), .int (nI (gZ σ).1), .int (nI (gZ σ).2.1), .int (nI (gZ σ).2.2.1), .int (nI (gZ σ).2.2.2.1), .int (nI (gZ σ).2.2.2.2), .ref (A (m + 2)), .int (nI cs.length), .ref (A (m + 3)), .int (nI lm), .ref (A (m + 4)), .ref (A (m + 5)), .int (nI gm), .ref (A (m + 6)), .ref (A (m + 7)), .ref (A (m + 8))] := by rw [hg_12, va_up_ne _ _ (show m ≠ m + 4 from by omega)]; exact h_9
        have h_14 : g_12 (m + 1) = ai 0 10511 Z_2 := by rw [hg_12, va_up_ne _ _ (show m + 1 ≠ m + 4 from by omega)]; exact h_10
        have h_15 : g_12 (m + 4) = ai 0 16 (upd (sh rs (dI cs σ l.length) k) k (rs (k + 1))) := by rw [hg_12]; exact va_up_self _ _ _
        have hf_16 : Fr gm16 g_12 (m + 4) (m + 4 + 1) := by rw [hg_12]; exact Fr.up (by omega) (by omega)
        have hp_17 := MC.fr hp_11 hf_16 (by omega)
        refine g_iinc (pc := 40) C dX11_drawOut_40 (by decide) 4 rfl (v := nI (k + 1)) (nI_i1 _) (lv' := [(0, .ref (A m)), (1, .int (nI l.length)), (2, .int (nI (dI cs σ l.length))), (3, .int (nI (l.getD (dI cs σ l.length) 0))), (4, .int (nI (k + 1)))]) [1, 2, 3, 4, 0] rfl ?_
        refine g_goto (pc := 43) C dX11_drawOut_43 (tgt := 16) (by decide) ?_
        exact ih g_12 (hm16.tr (fun k hk => by rw [hg_12, va_up_ne _ _ (by omega)])) (k + 1) (by omega) (by omega) (h_15.trans (congrArg (fun y => ai 0 16 y) (zsh_s (k + 1) (k + 1) (by omega) rfl rfl rfl))) (by omega)
  exact lp_16 (_ + 1) g_1 Fr.rf _ (Nat.le_refl _) (by omega) (by rw [sh_0]; exact h_6) (Nat.lt_succ_self _)
abbrev rm_X11_note : Room := { frames := 2, cells := 0, slots := 0, locals := 47 }
theorem Y_X11_note : pY yX11_note cX11_note 3 (Option.none : Option Jvm.ClassFile.FieldType) := ⟨u_1047, us_26, u_13, u_1048⟩
theorem N_X11_note : yX11_note.cls ≠ "java/lang/invoke/MethodHandle" ∧ yX11_note.cls ≠ "java/lang/invoke/VarHandle" ∧ (parseMethodDescriptor yX11_note.desc).map (fun d => d.parameters.length) = some 2 := by decide +kernel
set_option maxRecDepth 20000 in
set_option maxHeartbeats 4000000 in
theorem c_X11_note (A : Nat → Nat) (P : List Nat) (g : pM) (m : Nat) {cs : List Nat} {lm gm : Nat} {Z : Nat → Int32} {σ : Sg} {B : Nat} (r q : Nat) (hr : r < gK σ) (hq : q < gK σ) (hS : SW B cs σ) (hC : MC g m cs) (hO : g m = mOb A m (gZ σ) cs.length lm gm) (hZ : g (m + 1) = ai 0 10511 Z) (hR : RZ Z σ) : PM yX11_note cX11_note 3 (Option.none : Option Jvm.ClassFile.FieldType) rm_X11_note [.ref (A m), .int (nI r), .int (nI q)] P A g (fun v g' => v = none ∧ ZS g' m (nte cs σ r q) ∧ Fr g g' (m + 1) (m + 2)) := by
  have hK := hR.k16
  have hT := hR.t24
  have hL := hR.le
  have hzw := hS.2.2.2.1
  have hz0 := hzw.1
  have hz1 := hzw.2.1
  have hz2 := hzw.2.2.1
  have hz3 := hzw.2.2.2.1
  have hn := hS.nw hr
  have hle1 := hn.2.2.2.2.1
  have hle2 := hn.2.2.2.2.2.1
  have hc5 := hR.ac5 hr
  have hc8 := hR.pa8 hr
  have ha16 := hS.a16 hr
  have hp16 := hS.p16 hr
  refine px_intro (by decide +kernel) (Nat.le_of_ble_eq_true rfl) (fun K sz C R => ?_)
  show V K 0 0 P A g [(0, .ref (A m)), (1, .int (nI r)), (2, .int (nI q))] 0 []
  refine g_iload_n (pc := 0) C dX11_note_0 2 rfl ?_
  refine g_iload_n (pc := 1) C dX11_note_1 1 rfl ?_
  refine g_icmp_eq (pc := 2) C dX11_note_2 (tgt := 23) (by decide) (fun c_2 => ?_) (fun c_2 => ?_)
  ·
    have c_2 : q = r := (nI_eq (by omega) (by omega)).mp c_2
    exact g_vret (pc := 23) C R ⟨rfl, rfl, rfl, ⟨Z, hZ, by rw [show nte cs σ r q = σ from if_pos (Or.inl c_2)]; exact hR⟩, Fr.rf⟩ (by decide) (by decide) dX11_note_23
  ·
    have c_2 : ¬ q = r := fun h => c_2 ((nI_eq (a := q) (b := r) (by omega) (by omega)).mpr h)
    refine g_aload_n (pc := 5) C dX11_note_5 0 rfl ?_
    refine g_iload_n (pc := 6) C dX11_note_6 1 rfl ?_
    refine g_iload_n (pc := 7) C dX11_note_7 2 rfl ?_
    refine g_callV (pc := 8) C (As := [.int (nI r), .int (nI q)]) (rest := []) (b := m) (c_X11_isActive A P g m r q (by omega) (by omega) (hS.a16 (by omega)) hO hZ hR) hO rfl rfl Y_X11_isActive u_957 N_X11_isActive ⟨by decide, by decide⟩ ⟨by decide, by decide⟩ (Nat.le_of_ble_eq_true rfl) rfl dX11_note_8 ?_
    rintro _ _ _ _ ⟨rfl, rfl, rfl, rfl⟩
    show V K 0 0 P A g [(0, .ref (A m)), (1, .int (nI r)), (2, .int (nI q))] 11 [.int (b32 (decide (q ∈ nAc (gN σ r))))]
    refine g_if_ne (pc := 11) C dX11_note_11 (tgt := 23) (by decide) (fun c_11 => ?_) (fun c_11 => ?_)
    ·
      have c_11 : (decide (q ∈ nAc (gN σ r))) = true := b32_no c_11
      have c_11 : (q ∈ nAc (gN σ r)) := of_decide_eq_true c_11
      exact g_vret (pc := 23) C R ⟨rfl, rfl, rfl, ⟨Z, hZ, by rw [show nte cs σ r q = σ from if_pos (Or.inr (Or.inl c_11))]; exact hR⟩, Fr.rf⟩ (by decide) (by decide) dX11_note_23
    ·
      have c_11 : (decide (q ∈ nAc (gN σ r))) = false := b32_yes c_11
      have c_11 : ¬ (q ∈ nAc (gN σ r)) := of_decide_eq_false c_11
      refine g_aload_n (pc := 14) C dX11_note_14 0 rfl ?_
      refine g_iload_n (pc := 15) C dX11_note_15 1 rfl ?_
      refine g_iload_n (pc := 16) C dX11_note_16 2 rfl ?_
      refine g_callV (pc := 17) C (As := [.int (nI r), .int (nI q)]) (rest := []) (b := m) (c_X11_passiveAt A P g m r q (by omega) (by omega) (hS.p16 (by omega)) hO hZ hR) hO rfl rfl Y_X11_passiveAt u_1033 N_X11_passiveAt ⟨by decide, by decide⟩ ⟨by decide, by decide⟩ (Nat.le_of_ble_eq_true rfl) rfl dX11_note_17 ?_
      rintro _ _ _ _ ⟨rfl, rfl, rfl, rfl⟩
      rcases zPl_c (nPa (gN σ r)) q with ⟨hppk_1, hqpk_1⟩ | ⟨pk1, hkpk_1, hppk_1, hxpk_1, hipk_1, hmpk_1⟩
      ·
        rw [hppk_1]
        show V K 0 0 P A g [(0, .ref (A m)), (1, .int (nI r)), (2, .int (nI q))] 20 [.int (-1)]
        refine g_if_lt (pc := 20) C dX11_note_20 (tgt := 24) (by decide) (fun c_20 => ?_) (fun c_20 => ?_)
        ·
          refine g_aload_n (pc := 24) C dX11_note_24 0 rfl ?_
          refine g_get (pc := 25) C (j := 0) hO rfl rfl (by decide) u_852 dX11_note_25 ?_
          refine g_bipush (pc := 28) C dX11_note_28 (v := nI 32) rfl ?_
          refine g_iload_n (pc := 30) C dX11_note_30 1 rfl ?_
          refine g_iadd (pc := 31) C dX11_note_31 (z := nI (32 + r)) (nI_add _ _) ?_
          refine g_iald (pc := 32) C hZ (nI_clamp (by omega)) (nI_in0 (n := 10511) (by omega) (by omega)) dX11_note_32 (x := nI (nPa (gN σ r)).length) (RZ.rPn hR (r := r) (by omega) (by omega)) ?_
          refine g_aload_n (pc := 33) C dX11_note_33 0 rfl ?_
          refine g_get (pc := 34) C (j := 2) hO rfl rfl (by decide) u_854 dX11_note_34 ?_
          refine g_icmp_ne (pc := 37) C dX11_note_37 (tgt := 67) (by decide) (fun c_37 => ?_) (fun c_37 => ?_)
          ·
            have c_37 : ¬ (nPa (gN σ r)).length = (gZ σ).2.1 := fun h => c_37 ((nI_eq (a := (nPa (gN σ r)).length) (b := (gZ σ).2.1) (by omega) (by omega)).mpr h)
            refine g_aload_n (pc := 67) C dX11_note_67 0 rfl ?_
            refine g_get (pc := 68) C (j := 0) hO rfl rfl (by decide) u_852 dX11_note_68 ?_
            refine g_sipush (pc := 71) C dX11_note_71 (v := nI 256) rfl ?_
            refine g_bipush (pc := 74) C dX11_note_74 (v := nI 8) rfl ?_
            refine g_iload_n (pc := 76) C dX11_note_76 1 rfl ?_
            refine g_imul (pc := 77) C dX11_note_77 (z := nI (8 * r)) (pk_mul _ _) ?_
            refine g_iadd (pc := 78) C dX11_note_78 (z := nI (256 + 8 * r)) (nI_add _ _) ?_
            refine g_aload_n (pc := 79) C dX11_note_79 0 rfl ?_
            refine g_get (pc := 80) C (j := 0) hO rfl rfl (by decide) u_852 dX11_note_80 ?_
            refine g_bipush (pc := 83) C dX11_note_83 (v := nI 32) rfl ?_
            refine g_iload_n (pc := 85) C dX11_note_85 1 rfl ?_
            refine g_iadd (pc := 86) C dX11_note_86 (z := nI (32 + r)) (nI_add _ _) ?_
            refine g_iald (pc := 87) C hZ (nI_clamp (by omega)) (nI_in0 (n := 10511) (by omega) (by omega)) dX11_note_87 (x := nI (nPa (gN σ r)).length) (RZ.rPn hR (r := r) (by omega) (by omega)) ?_
            refine g_iadd (pc := 88) C dX11_note_88 (z := nI (256 + 8 * r + (nPa (gN σ r)).length)) (nI_add _ _) ?_
            refine g_iload_n (pc := 89) C dX11_note_89 2 rfl ?_
            refine g_iast (pc := 90) C hZ (nI_clamp (by omega)) (nI_in0 (n := 10511) (by omega) (by omega)) dX11_note_90 ?_
            obtain ⟨Z_2, hZ_2⟩ : ∃ yZ : Nat → Int32, yZ = upd Z (256 + 8 * r + (nPa (gN σ r)).length) (nI q) := ⟨_, rfl⟩
            show V K 0 0 P A (va_up g (m + 1) (ai 0 10511 (upd Z (256 + 8 * r + (nPa (gN σ r)).length) (nI q)))) [(0, .ref (A m)), (1, .int (nI r)), (2, .int (nI q))] 91 []
            rw [← hZ_2]
            obtain ⟨g_3, hg_3⟩ : ∃ yM : pM, yM = va_up g (m + 1) (ai 0 10511 Z_2) := ⟨_, rfl⟩
            show V K 0 0 P A (va_up g (m + 1) (ai 0 10511 Z_2)) [(0, .ref (A m)), (1, .int (nI r)), (2, .int (nI q))] 91 []
            rw [← hg_3]
            have h_4 : g_3 m = ob 11 [.ref (A (m + 1)), .int (nI (gZ σ).1), .int (nI (gZ σ).2.1), .int (nI (gZ σ).2.2.1), .int (nI (gZ σ).2.2.2.1), .int (nI (gZ σ).2.2.2.2), .ref (A (m + 2)), .int (nI cs.length), .ref (A (m + 3)), .int (nI lm), .ref (A (m + 4)), .ref (A (m + 5)), .int (nI gm), .ref (A (m + 6)), .ref (A (m + 7)), .ref (A (m + 8))] := by rw [hg_3, va_up_ne _ _ (show m ≠ m + 1 from by omega)]; exact hO
            have h_5 : g_3 (m + 1) = ai 0 10511 Z_2 := by rw [hg_3]; exact va_up_self _ _ _
            have hf_6 : Fr g g_3 (m + 1) (m + 1 + 1) := by rw [hg_3]; exact Fr.up (by omega) (by omega)
            have hp_7 := MC.fr hC hf_6 (by omega)
            refine g_aload_n (pc := 91) C dX11_note_91 0 rfl ?_
            refine g_get (pc := 92) C (j := 0) h_4 rfl rfl (by decide) u_852 dX11_note_92 ?_
            refine g_bipush (pc := 95) C dX11_note_95 (v := nI 32) rfl ?_
            refine g_iload_n (pc := 97) C dX11_note_97 1 rfl ?_
            refine g_iadd (pc := 98) C dX11_note_98 (z := nI (32 + r)) (nI_add _ _) ?_
            refine g_dup2 (pc := 99) C dX11_note_99 rfl rfl ?_
            refine g_iald (pc := 100) C h_5 (nI_clamp (by omega)) (nI_in0 (n := 10511) (by omega) (by omega)) dX11_note_100 (x := nI (nPa (gN σ r)).length) (zne hZ_2 (by omega) (RZ.rPn hR (r := r) (by omega) (by omega))) ?_
            refine g_iconst (pc := 101) C dX11_note_101 (v := nI 1) rfl ?_
            refine g_iadd (pc := 102) C dX11_note_102 (z := nI ((nPa (gN σ r)).length + 1)) (nI_add _ _) ?_
            refine g_iast (pc := 103) C h_5 (nI_clamp (by omega)) (nI_in0 (n := 10511) (by omega) (by omega)) dX11_note_103 ?_
            obtain ⟨Z_8, hZ_8⟩ : ∃ yZ : Nat → Int32, yZ = upd Z_2 (32 + r) (nI ((nPa (gN σ r)).length + 1)) := ⟨_, rfl⟩
            show V K 0 0 P A (va_up g_3 (m + 1) (ai 0 10511 (upd Z_2 (32 + r) (nI ((nPa (gN σ r)).length + 1))))) [(0, .ref (A m)), (1, .int (nI r)), (2, .int (nI q))] 104 []
            rw [← hZ_8]
            obtain ⟨g_9, hg_9⟩ : ∃ yM : pM, yM = va_up g_3 (m + 1) (ai 0 10511 Z_8) := ⟨_, rfl⟩
            show V K 0 0 P A (va_up g_3 (m + 1) (ai 0 10511 Z_8)) [(0, .ref (A m)), (1, .int (nI r)), (2, .int (nI q))] 104 []
            rw [← hg_9]
            have h_10 : g_9 m = ob 11 [.ref (A (m + 1)), .int (nI (gZ σ).1), .int (nI (gZ σ).2.1), .int (nI (gZ σ).2.2.1), .int (nI (gZ σ).2.2.2.1), .int (nI (gZ σ).2.2.2.2), .ref (A (m + 2)), .int (nI cs.length), .ref (A (m + 3)), .int (nI lm), .ref (A (m + 4)), .ref (A (m + 5)), .int (nI gm), .ref (A (m + 6)), .ref (A (m + 7)), .ref (A (m + 8))] := by rw [hg_9, va_up_ne _ _ (show m ≠ m + 1 from by omega)]; exact h_4
            have h_11 : g_9 (m + 1) = ai 0 10511 Z_8 := by rw [hg_9]; exact va_up_self _ _ _
            have hf_12 : Fr g_3 g_9 (m + 1) (m + 1 + 1) := by rw [hg_9]; exact Fr.up (by omega) (by omega)
            have hp_13 := MC.fr hp_7 hf_12 (by omega)
            exact g_vret (pc := 104) C R ⟨rfl, rfl, rfl, ⟨_, h_11, by rw [nte_room (fun z => by rcases z with z | z | z; exact c_2 z; exact c_11 z; exact hqpk_1 z) (by omega)]; exact RZ.pPa hR hr (by omega) hqpk_1 hZ_2 hZ_8⟩, fun k hk => by rw [hg_9, va_up_ne _ _ (by omega), hg_3, va_up_ne _ _ (by omega)]⟩ (by decide) (by decide) dX11_note_104
          ·
            have c_37 : (nPa (gN σ r)).length = (gZ σ).2.1 := (nI_eq (by omega) (by omega)).mp c_37
            refine g_aload_n (pc := 40) C dX11_note_40 0 rfl ?_
            refine g_iload_n (pc := 41) C dX11_note_41 1 rfl ?_
            refine g_aload_n (pc := 42) C dX11_note_42 0 rfl ?_
            refine g_get (pc := 43) C (j := 0) hO rfl rfl (by decide) u_852 dX11_note_43 ?_
            refine g_sipush (pc := 46) C dX11_note_46 (v := nI 256) rfl ?_
            refine g_bipush (pc := 49) C dX11_note_49 (v := nI 8) rfl ?_
            refine g_iload_n (pc := 51) C dX11_note_51 1 rfl ?_
            refine g_imul (pc := 52) C dX11_note_52 (z := nI (8 * r)) (pk_mul _ _) ?_
            refine g_iadd (pc := 53) C dX11_note_53 (z := nI (256 + 8 * r)) (nI_add _ _) ?_
            refine g_aload_n (pc := 54) C dX11_note_54 0 rfl ?_
            refine g_aload_n (pc := 55) C dX11_note_55 0 rfl ?_
            refine g_get (pc := 56) C (j := 2) hO rfl rfl (by decide) u_854 dX11_note_56 ?_
            refine g_callV (pc := 59) C (As := [.int (nI (gZ σ).2.1)]) (rest := [.int (nI (256 + 8 * r)), .ref (A (m + 1)), .int (nI r), .ref (A m)]) (b := m) (c_X11_draw A P g m (gZ σ).2.1 (by omega) (by omega) hC hS.nx hO hZ hR) hO rfl rfl Y_X11_draw u_973 N_X11_draw ⟨by decide, by decide⟩ ⟨by decide, by decide⟩ (Nat.le_of_ble_eq_true rfl) rfl dX11_note_59 ?_
            rintro _ _ _ g_14 ⟨rfl, rfl, rfl, ⟨Z_15, hZ_15, hR_16⟩, hf_17⟩
            have h_18 := hf_17.at (by omega) hO
            have hp_19 := MC.fr hC hf_17 (by omega)
            obtain ⟨σ20, hσ20⟩ : ∃ sM : Sg, sM = dS cs σ (gZ σ).2.1 := ⟨_, rfl⟩
            rw [← hσ20] at hR_16
            have hK_σ20 : gK σ20 = gK σ := (congrArg gK hσ20).trans (dS_K.trans (rfl : gK σ = gK σ))
            have hT_σ20 : gT σ20 = gT σ := (congrArg gT hσ20).trans (dS_T.trans (rfl : gT σ = gT σ))
            have hZ_σ20 : gZ σ20 = gZ σ := (congrArg gZ hσ20).trans (dS_Z.trans (rfl : gZ σ = gZ σ))
            have hS_σ20 : SW B cs σ20 := by rw [hσ20]; exact hS.drw
            have hN_σ20 : gN σ20 = gN σ := (congrArg gN hσ20).trans dS_N
            have hd_σ20 := dI_lt (cs := cs) (σ := σ) (n := (gZ σ).2.1) (by omega)
            show V K 0 0 P A g_14 [(0, .ref (A m)), (1, .int (nI r)), (2, .int (nI q))] 62 [.int (nI (dI cs σ (gZ σ).2.1)), .int (nI (256 + 8 * r)), .ref (A (m + 1)), .int (nI r), .ref (A m)]
            have hpl : (nPa (gN σ20 r)).length = (gZ σ).2.1 := by rw [hN_σ20]; exact c_37
            have hpv : (nPa (gN σ20 r)).getD (dI cs σ (gZ σ).2.1) 0 < gK σ := by rw [hN_σ20]; exact hn.2.2.1 _ (getD_mem (by omega))
            have hpm : (nPa (gN σ20 r)).getD (dI cs σ (gZ σ).2.1) 0 ∈ nPa (gN σ20 r) := getD_mem (by omega)
            refine g_iadd (pc := 62) C dX11_note_62 (z := nI (256 + 8 * r + (dI cs σ (gZ σ).2.1))) (nI_add _ _) ?_
            refine g_iald (pc := 63) C hZ_15 (nI_clamp (by omega)) (nI_in0 (n := 10511) (by omega) (by omega)) dX11_note_63 (x := nI ((nPa (gN σ20 r)).getD (dI cs σ (gZ σ).2.1) 0)) (RZ.rPa hR_16 (r := r) (k := (dI cs σ (gZ σ).2.1)) (by omega) (by omega) (by omega)) ?_
            refine g_callV (pc := 64) C (As := [.int (nI r), .int (nI ((nPa (gN σ20 r)).getD (dI cs σ (gZ σ).2.1) 0))]) (rest := []) (b := m) (c_X11_leavesPassive A P g_14 m r ((nPa (gN σ20 r)).getD (dI cs σ (gZ σ).2.1) 0) (by omega) (by omega) (hS_σ20.p16 (by omega)) (by rw [hZ_σ20]; exact h_18) hZ_15 hR_16) h_18 rfl rfl Y_X11_leavesPassive u_1029 N_X11_leavesPassive ⟨by decide, by decide⟩ ⟨by decide, by decide⟩ (Nat.le_of_ble_eq_true rfl) rfl dX11_note_64 ?_
            rintro _ _ _ g_21 ⟨rfl, rfl, rfl, ⟨Z_22, hZ_22, hR_23⟩, hf_24⟩
            have h_25 := hf_24.at (by omega) h_18
            have hp_26 := MC.fr hp_19 hf_24 (by omega)
            obtain ⟨σ27, hσ27⟩ : ∃ sM : Sg, sM = paRem σ20 r ((nPa (gN σ20 r)).getD (dI cs σ (gZ σ).2.1) 0) := ⟨_, rfl⟩
            rw [← hσ27] at hR_23
            have hK_σ27 : gK σ27 = gK σ := (congrArg gK hσ27).trans hK_σ20
            have hT_σ27 : gT σ27 = gT σ := (congrArg gT hσ27).trans hT_σ20
            have hZ_σ27 : gZ σ27 = gZ σ := (congrArg gZ hσ27).trans hZ_σ20
            have hS_σ27 : SW B cs σ27 := by rw [hσ27]; exact SW.paRem hS_σ20 (by omega)
            show V K 0 0 P A g_21 [(0, .ref (A m)), (1, .int (nI r)), (2, .int (nI q))] 67 []
            have hpl2 : (nPa (gN σ27 r)).length = (gZ σ).2.1 - 1 := by rw [hσ27, paRem_len hpm, hpl]
            refine g_aload_n (pc := 67) C dX11_note_67 0 rfl ?_
            refine g_get (pc := 68) C (j := 0) h_25 rfl rfl (by decide) u_852 dX11_note_68 ?_
            refine g_sipush (pc := 71) C dX11_note_71 (v := nI 256) rfl ?_
            refine g_bipush (pc := 74) C dX11_note_74 (v := nI 8) rfl ?_
            refine g_iload_n (pc := 76) C dX11_note_76 1 rfl ?_
            refine g_imul (pc := 77) C dX11_note_77 (z := nI (8 * r)) (pk_mul _ _) ?_
            refine g_iadd (pc := 78) C dX11_note_78 (z := nI (256 + 8 * r)) (nI_add _ _) ?_
            refine g_aload_n (pc := 79) C dX11_note_79 0 rfl ?_
            refine g_get (pc := 80) C (j := 0) h_25 rfl rfl (by decide) u_852 dX11_note_80 ?_
            refine g_bipush (pc := 83) C dX11_note_83 (v := nI 32) rfl ?_
            refine g_iload_n (pc := 85) C dX11_note_85 1 rfl ?_
            refine g_iadd (pc := 86) C dX11_note_86 (z := nI (32 + r)) (nI_add _ _) ?_
            refine g_iald (pc := 87) C hZ_22 (nI_clamp (by omega)) (nI_in0 (n := 10511) (by omega) (by omega)) dX11_note_87 (x := nI (nPa (gN σ27 r)).length) (RZ.rPn hR_23 (r := r) (by omega) (by omega)) ?_
            refine g_iadd (pc := 88) C dX11_note_88 (z := nI (256 + 8 * r + (nPa (gN σ27 r)).length)) (nI_add _ _) ?_
            refine g_iload_n (pc := 89) C dX11_note_89 2 rfl ?_
            refine g_iast (pc := 90) C hZ_22 (nI_clamp (by omega)) (nI_in0 (n := 10511) (by omega) (by omega)) dX11_note_90 ?_
            obtain ⟨Z_28, hZ_28⟩ : ∃ yZ : Nat → Int32, yZ = upd Z_22 (256 + 8 * r + (nPa (gN σ27 r)).length) (nI q) := ⟨_, rfl⟩
            show V K 0 0 P A (va_up g_21 (m + 1) (ai 0 10511 (upd Z_22 (256 + 8 * r + (nPa (gN σ27 r)).length) (nI q)))) [(0, .ref (A m)), (1, .int (nI r)), (2, .int (nI q))] 91 []
            rw [← hZ_28]
            obtain ⟨g_29, hg_29⟩ : ∃ yM : pM, yM = va_up g_21 (m + 1) (ai 0 10511 Z_28) := ⟨_, rfl⟩
            show V K 0 0 P A (va_up g_21 (m + 1) (ai 0 10511 Z_28)) [(0, .ref (A m)), (1, .int (nI r)), (2, .int (nI q))] 91 []
            rw [← hg_29]
            have h_30 : g_29 m = ob 11 [.ref (A (m + 1)), .int (nI (gZ σ).1), .int (nI (gZ σ).2.1), .int (nI (gZ σ).2.2.1), .int (nI (gZ σ).2.2.2.1), .int (nI (gZ σ).2.2.2.2), .ref (A (m + 2)), .int (nI cs.length), .ref (A (m + 3)), .int (nI lm), .ref (A (m + 4)), .ref (A (m + 5)), .int (nI gm), .ref (A (m + 6)), .ref (A (m + 7)), .ref (A (m + 8))] := by rw [hg_29, va_up_ne _ _ (show m ≠ m + 1 from by omega)]; exact h_25
            have h_31 : g_29 (m + 1) = ai 0 10511 Z_28 := by rw [hg_29]; exact va_up_self _ _ _
            have hf_32 : Fr g_21 g_29 (m + 1) (m + 1 + 1) := by rw [hg_29]; exact Fr.up (by omega) (by omega)
            have hp_33 := MC.fr hp_26 hf_32 (by omega)
            refine g_aload_n (pc := 91) C dX11_note_91 0 rfl ?_
            refine g_get (pc := 92) C (j := 0) h_30 rfl rfl (by decide) u_852 dX11_note_92 ?_
            refine g_bipush (pc := 95) C dX11_note_95 (v := nI 32) rfl ?_
            refine g_iload_n (pc := 97) C dX11_note_97 1 rfl ?_
            refine g_iadd (pc := 98) C dX11_note_98 (z := nI (32 + r)) (nI_add _ _) ?_
            refine g_dup2 (pc := 99) C dX11_note_99 rfl rfl ?_
            refine g_iald (pc := 100) C h_31 (nI_clamp (by omega)) (nI_in0 (n := 10511) (by omega) (by omega)) dX11_note_100 (x := nI (nPa (gN σ27 r)).length) (zne hZ_28 (by omega) (RZ.rPn hR_23 (r := r) (by omega) (by omega))) ?_
            refine g_iconst (pc := 101) C dX11_note_101 (v := nI 1) rfl ?_
            refine g_iadd (pc := 102) C dX11_note_102 (z := nI ((nPa (gN σ27 r)).length + 1)) (nI_add _ _) ?_
            refine g_iast (pc := 103) C h_31 (nI_clamp (by omega)) (nI_in0 (n := 10511) (by omega) (by omega)) dX11_note_103 ?_
            obtain ⟨Z_34, hZ_34⟩ : ∃ yZ : Nat → Int32, yZ = upd Z_28 (32 + r) (nI ((nPa (gN σ27 r)).length + 1)) := ⟨_, rfl⟩
            show V K 0 0 P A (va_up g_29 (m + 1) (ai 0 10511 (upd Z_28 (32 + r) (nI ((nPa (gN σ27 r)).length + 1))))) [(0, .ref (A m)), (1, .int (nI r)), (2, .int (nI q))] 104 []
            rw [← hZ_34]
            obtain ⟨g_35, hg_35⟩ : ∃ yM : pM, yM = va_up g_29 (m + 1) (ai 0 10511 Z_34) := ⟨_, rfl⟩
            show V K 0 0 P A (va_up g_29 (m + 1) (ai 0 10511 Z_34)) [(0, .ref (A m)), (1, .int (nI r)), (2, .int (nI q))] 104 []
            rw [← hg_35]
            have h_36 : g_35 m = ob 11 [.ref (A (m + 1)), .int (nI (gZ σ).1), .int (nI (gZ σ).2.1), .int (nI (gZ σ).2.2.1), .int (nI (gZ σ).2.2.2.1), .int (nI (gZ σ).2.2.2.2), .ref (A (m + 2)), .int (nI cs.length), .ref (A (m + 3)), .int (nI lm), .ref (A (m + 4)), .ref (A (m + 5)), .int (nI gm), .ref (A (m + 6)), .ref (A (m + 7)), .ref (A (m + 8))] := by rw [hg_35, va_up_ne _ _ (show m ≠ m + 1 from by omega)]; exact h_30
            have h_37 : g_35 (m + 1) = ai 0 10511 Z_34 := by rw [hg_35]; exact va_up_self _ _ _
            have hf_38 : Fr g_29 g_35 (m + 1) (m + 1 + 1) := by rw [hg_35]; exact Fr.up (by omega) (by omega)
            have hp_39 := MC.fr hp_33 hf_38 (by omega)
            exact g_vret (pc := 104) C R ⟨rfl, rfl, rfl, ⟨_, h_37, by rw [nte_fin c_2 c_11 hqpk_1 c_37 (by omega) (hR.paN hr) hσ20 rfl hσ27]; exact RZ.pPa hR_23 (by omega) (by omega) (by rw [hσ27]; exact paRem_mem (by rw [hN_σ20]; exact hqpk_1)) hZ_28 hZ_34⟩, fun k hk => by rw [hg_35, va_up_ne _ _ (by omega), hg_29, va_up_ne _ _ (by omega), hf_24 k (by omega), hf_17 k (by omega)]⟩ (by decide) (by decide) dX11_note_104
        ·
          exfalso
          revert c_20; decide
      ·
        rw [hppk_1]
        show V K 0 0 P A g [(0, .ref (A m)), (1, .int (nI r)), (2, .int (nI q))] 20 [.int (nI pk1)]
        refine g_if_lt (pc := 20) C dX11_note_20 (tgt := 24) (by decide) (fun c_20 => ?_) (fun c_20 => ?_)
        ·
          exfalso
          exact nI_pos (by omega) c_20
        ·
          have c_20 : ¬ pk1 < 0 := fun h => c_20 ((nI_ltI (a := pk1) (b := 0) (by omega) (by omega)).mpr h)
          exact g_vret (pc := 23) C R ⟨rfl, rfl, rfl, ⟨Z, hZ, by rw [show nte cs σ r q = σ from if_pos (Or.inr (Or.inr hmpk_1))]; exact hR⟩, Fr.rf⟩ (by decide) (by decide) dX11_note_23
abbrev rm_X11_add : Room := { frames := 4, cells := 0, slots := 0, locals := 101 }
theorem Y_X11_add : pY yX11_add cX11_add 4 (Option.none : Option Jvm.ClassFile.FieldType) := ⟨u_1027, us_21, u_13, u_1028⟩
theorem N_X11_add : yX11_add.cls ≠ "java/lang/invoke/MethodHandle" ∧ yX11_add.cls ≠ "java/lang/invoke/VarHandle" ∧ (parseMethodDescriptor yX11_add.desc).map (fun d => d.parameters.length) = some 2 := by decide +kernel
set_option maxRecDepth 20000 in
set_option maxHeartbeats 4000000 in
theorem c_X11_add (A : Nat → Nat) (P : List Nat) (g : pM) (m : Nat) {cs : List Nat} {lm gm : Nat} {Z : Nat → Int32} {σ : Sg} {B : Nat} (r q : Nat) (hr : r < gK σ) (hq : q < gK σ) (hS : SW B cs σ) (hC : MC g m cs) {l3 : List Nat} (hl3 : SO g (m + 3) 5 l3) (hO : g m = mOb A m (gZ σ) cs.length lm gm) (hZ : g (m + 1) = ai 0 10511 Z) (hR : RZ Z σ) : PM yX11_add cX11_add 4 (Option.none : Option Jvm.ClassFile.FieldType) rm_X11_add [.ref (A m), .int (nI r), .int (nI q)] P A g (fun v g' => v = none ∧ ZS g' m (add cs σ r q) ∧ Fr g g' (m + 1) (m + 2)) := by
  have hK := hR.k16
  have hT := hR.t24
  have hL := hR.le
  have hzw := hS.2.2.2.1
  have hz0 := hzw.1
  have hz1 := hzw.2.1
  have hz2 := hzw.2.2.1
  have hz3 := hzw.2.2.2.1
  have hn := hS.nw hr
  have hle1 := hn.2.2.2.2.1
  have hle2 := hn.2.2.2.2.2.1
  have hc5 := hR.ac5 hr
  have hc8 := hR.pa8 hr
  have ha16 := hS.a16 hr
  have hp16 := hS.p16 hr
  refine px_intro (by decide +kernel) (Nat.le_of_ble_eq_true rfl) (fun K sz C R => ?_)
  show V K 0 0 P A g [(0, .ref (A m)), (1, .int (nI r)), (2, .int (nI q))] 0 []
  refine g_iload_n (pc := 0) C dX11_add_0 2 rfl ?_
  refine g_iload_n (pc := 1) C dX11_add_1 1 rfl ?_
  refine g_icmp_eq (pc := 2) C dX11_add_2 (tgt := 14) (by decide) (fun c_2 => ?_) (fun c_2 => ?_)
  ·
    have c_2 : q = r := (nI_eq (by omega) (by omega)).mp c_2
    exact g_vret (pc := 14) C R ⟨rfl, rfl, rfl, ⟨Z, hZ, by rw [add_no (Or.inl c_2)]; exact hR⟩, Fr.rf⟩ (by decide) (by decide) dX11_add_14
  ·
    have c_2 : ¬ q = r := fun h => c_2 ((nI_eq (a := q) (b := r) (by omega) (by omega)).mpr h)
    refine g_aload_n (pc := 5) C dX11_add_5 0 rfl ?_
    refine g_iload_n (pc := 6) C dX11_add_6 1 rfl ?_
    refine g_iload_n (pc := 7) C dX11_add_7 2 rfl ?_
    refine g_callV (pc := 8) C (As := [.int (nI r), .int (nI q)]) (rest := []) (b := m) (c_X11_isActive A P g m r q (by omega) (by omega) (hS.a16 (by omega)) hO hZ hR) hO rfl rfl Y_X11_isActive u_957 N_X11_isActive ⟨by decide, by decide⟩ ⟨by decide, by decide⟩ (Nat.le_of_ble_eq_true rfl) rfl dX11_add_8 ?_
    rintro _ _ _ _ ⟨rfl, rfl, rfl, rfl⟩
    show V K 0 0 P A g [(0, .ref (A m)), (1, .int (nI r)), (2, .int (nI q))] 11 [.int (b32 (decide (q ∈ nAc (gN σ r))))]
    refine g_if_eq (pc := 11) C dX11_add_11 (tgt := 15) (by decide) (fun c_11 => ?_) (fun c_11 => ?_)
    ·
      have c_11 : (decide (q ∈ nAc (gN σ r))) = false := b32_yes c_11
      have c_11 : ¬ (q ∈ nAc (gN σ r)) := of_decide_eq_false c_11
      refine g_aload_n (pc := 15) C dX11_add_15 0 rfl ?_
      refine g_iload_n (pc := 16) C dX11_add_16 1 rfl ?_
      refine g_iload_n (pc := 17) C dX11_add_17 2 rfl ?_
      refine g_callV (pc := 18) C (As := [.int (nI r), .int (nI q)]) (rest := []) (b := m) (c_X11_leavesPassive A P g m r q (by omega) (by omega) (hS.p16 (by omega)) hO hZ hR) hO rfl rfl Y_X11_leavesPassive u_1029 N_X11_leavesPassive ⟨by decide, by decide⟩ ⟨by decide, by decide⟩ (Nat.le_of_ble_eq_true rfl) rfl dX11_add_18 ?_
      rintro _ _ _ g_1 ⟨rfl, rfl, rfl, ⟨Z_2, hZ_2, hR_3⟩, hf_4⟩
      have h_5 := hf_4.at (by omega) hO
      have hp_6 := MC.fr hC hf_4 (by omega)
      have hp_7 := SO.fr hl3 hf_4 (by omega)
      obtain ⟨σ8, hσ8⟩ : ∃ sM : Sg, sM = paRem σ r q := ⟨_, rfl⟩
      rw [← hσ8] at hR_3
      have hK_σ8 : gK σ8 = gK σ := (congrArg gK hσ8).trans (rfl : gK σ = gK σ)
      have hT_σ8 : gT σ8 = gT σ := (congrArg gT hσ8).trans (rfl : gT σ = gT σ)
      have hZ_σ8 : gZ σ8 = gZ σ := (congrArg gZ hσ8).trans (rfl : gZ σ = gZ σ)
      have hS_σ8 : SW B cs σ8 := by rw [hσ8]; exact SW.paRem hS (by omega)
      show V K 0 0 P A g_1 [(0, .ref (A m)), (1, .int (nI r)), (2, .int (nI q))] 21 []
      have hA1 : nAc (gN σ8 r) = nAc (gN σ r) := by rw [hσ8]; exact paRem_ac
      have hA1l : (nAc (gN σ8 r)).length = (nAc (gN σ r)).length := by rw [hA1]
      refine g_aload_n (pc := 21) C dX11_add_21 0 rfl ?_
      refine g_get (pc := 22) C (j := 0) h_5 rfl rfl (by decide) u_852 dX11_add_22 ?_
      refine g_bipush (pc := 25) C dX11_add_25 (v := nI 16) rfl ?_
      refine g_iload_n (pc := 27) C dX11_add_27 1 rfl ?_
      refine g_iadd (pc := 28) C dX11_add_28 (z := nI (16 + r)) (nI_add _ _) ?_
      refine g_iald (pc := 29) C hZ_2 (nI_clamp (by omega)) (nI_in0 (n := 10511) (by omega) (by omega)) dX11_add_29 (x := nI (nAc (gN σ8 r)).length) (RZ.rAn hR_3 (r := r) (by omega) (by omega)) ?_
      refine g_aload_n (pc := 30) C dX11_add_30 0 rfl ?_
      refine g_get (pc := 31) C (j := 1) h_5 rfl rfl (by decide) u_853 dX11_add_31 ?_
      refine g_icmp_ne (pc := 34) C dX11_add_34 (tgt := 79) (by decide) (fun c_34 => ?_) (fun c_34 => ?_)
      ·
        have c_34 : ¬ (nAc (gN σ8 r)).length = (gZ σ).1 := fun h => c_34 ((nI_eq (a := (nAc (gN σ8 r)).length) (b := (gZ σ).1) (by omega) (by omega)).mpr h)
        have hl5 : (nAc (gN σ8 r)).length < 5 := by omega
        have hq5 : q ∉ nAc (gN σ8 r) := by rw [hA1]; exact c_11
        refine g_aload_n (pc := 79) C dX11_add_79 0 rfl ?_
        refine g_get (pc := 80) C (j := 0) h_5 rfl rfl (by decide) u_852 dX11_add_80 ?_
        refine g_bipush (pc := 83) C dX11_add_83 (v := nI 96) rfl ?_
        refine g_iconst (pc := 85) C dX11_add_85 (v := nI 5) rfl ?_
        refine g_iload_n (pc := 86) C dX11_add_86 1 rfl ?_
        refine g_imul (pc := 87) C dX11_add_87 (z := nI (5 * r)) (pk_mul _ _) ?_
        refine g_iadd (pc := 88) C dX11_add_88 (z := nI (96 + 5 * r)) (nI_add _ _) ?_
        refine g_aload_n (pc := 89) C dX11_add_89 0 rfl ?_
        refine g_get (pc := 90) C (j := 0) h_5 rfl rfl (by decide) u_852 dX11_add_90 ?_
        refine g_bipush (pc := 93) C dX11_add_93 (v := nI 16) rfl ?_
        refine g_iload_n (pc := 95) C dX11_add_95 1 rfl ?_
        refine g_iadd (pc := 96) C dX11_add_96 (z := nI (16 + r)) (nI_add _ _) ?_
        refine g_iald (pc := 97) C hZ_2 (nI_clamp (by omega)) (nI_in0 (n := 10511) (by omega) (by omega)) dX11_add_97 (x := nI (nAc (gN σ8 r)).length) (RZ.rAn hR_3 (r := r) (by omega) (by omega)) ?_
        refine g_iadd (pc := 98) C dX11_add_98 (z := nI (96 + 5 * r + (nAc (gN σ8 r)).length)) (nI_add _ _) ?_
        refine g_iload_n (pc := 99) C dX11_add_99 2 rfl ?_
        refine g_iast (pc := 100) C hZ_2 (nI_clamp (by omega)) (nI_in0 (n := 10511) (by omega) (by omega)) dX11_add_100 ?_
        obtain ⟨Z_9, hZ_9⟩ : ∃ yZ : Nat → Int32, yZ = upd Z_2 (96 + 5 * r + (nAc (gN σ8 r)).length) (nI q) := ⟨_, rfl⟩
        show V K 0 0 P A (va_up g_1 (m + 1) (ai 0 10511 (upd Z_2 (96 + 5 * r + (nAc (gN σ8 r)).length) (nI q)))) [(0, .ref (A m)), (1, .int (nI r)), (2, .int (nI q))] 101 []
        rw [← hZ_9]
        obtain ⟨g_10, hg_10⟩ : ∃ yM : pM, yM = va_up g_1 (m + 1) (ai 0 10511 Z_9) := ⟨_, rfl⟩
        show V K 0 0 P A (va_up g_1 (m + 1) (ai 0 10511 Z_9)) [(0, .ref (A m)), (1, .int (nI r)), (2, .int (nI q))] 101 []
        rw [← hg_10]
        have h_11 : g_10 m = ob 11 [.ref (A (m + 1)), .int (nI (gZ σ).1), .int (nI (gZ σ).2.1), .int (nI (gZ σ).2.2.1), .int (nI (gZ σ).2.2.2.1), .int (nI (gZ σ).2.2.2.2), .ref (A (m + 2)), .int (nI cs.length), .ref (A (m + 3)), .int (nI lm), .ref (A (m + 4)), .ref (A (m + 5)), .int (nI gm), .ref (A (m + 6)), .ref (A (m + 7)), .ref (A (m + 8))] := by rw [hg_10, va_up_ne _ _ (show m ≠ m + 1 from by omega)]; exact h_5
        have h_12 : g_10 (m + 1) = ai 0 10511 Z_9 := by rw [hg_10]; exact va_up_self _ _ _
        have hf_13 : Fr g_1 g_10 (m + 1) (m + 1 + 1) := by rw [hg_10]; exact Fr.up (by omega) (by omega)
        have hp_14 := MC.fr hp_6 hf_13 (by omega)
        have hp_15 := SO.fr hp_7 hf_13 (by omega)
        refine g_aload_n (pc := 101) C dX11_add_101 0 rfl ?_
        refine g_get (pc := 102) C (j := 0) h_11 rfl rfl (by decide) u_852 dX11_add_102 ?_
        refine g_sipush (pc := 105) C dX11_add_105 (v := nI 176) rfl ?_
        refine g_iconst (pc := 108) C dX11_add_108 (v := nI 5) rfl ?_
        refine g_iload_n (pc := 109) C dX11_add_109 1 rfl ?_
        refine g_imul (pc := 110) C dX11_add_110 (z := nI (5 * r)) (pk_mul _ _) ?_
        refine g_iadd (pc := 111) C dX11_add_111 (z := nI (176 + 5 * r)) (nI_add _ _) ?_
        refine g_aload_n (pc := 112) C dX11_add_112 0 rfl ?_
        refine g_get (pc := 113) C (j := 0) h_11 rfl rfl (by decide) u_852 dX11_add_113 ?_
        refine g_bipush (pc := 116) C dX11_add_116 (v := nI 16) rfl ?_
        refine g_iload_n (pc := 118) C dX11_add_118 1 rfl ?_
        refine g_iadd (pc := 119) C dX11_add_119 (z := nI (16 + r)) (nI_add _ _) ?_
        refine g_iald (pc := 120) C h_12 (nI_clamp (by omega)) (nI_in0 (n := 10511) (by omega) (by omega)) dX11_add_120 (x := nI (nAc (gN σ8 r)).length) (zne hZ_9 (by omega) (RZ.rAn hR_3 (r := r) (by omega) (by omega))) ?_
        refine g_iadd (pc := 121) C dX11_add_121 (z := nI (176 + 5 * r + (nAc (gN σ8 r)).length)) (nI_add _ _) ?_
        refine g_iconst (pc := 122) C dX11_add_122 (v := nI 0) rfl ?_
        refine g_iast (pc := 123) C h_12 (nI_clamp (by omega)) (nI_in0 (n := 10511) (by omega) (by omega)) dX11_add_123 ?_
        obtain ⟨Z_16, hZ_16⟩ : ∃ yZ : Nat → Int32, yZ = upd Z_9 (176 + 5 * r + (nAc (gN σ8 r)).length) (nI 0) := ⟨_, rfl⟩
        show V K 0 0 P A (va_up g_10 (m + 1) (ai 0 10511 (upd Z_9 (176 + 5 * r + (nAc (gN σ8 r)).length) (nI 0)))) [(0, .ref (A m)), (1, .int (nI r)), (2, .int (nI q))] 124 []
        rw [← hZ_16]
        obtain ⟨g_17, hg_17⟩ : ∃ yM : pM, yM = va_up g_10 (m + 1) (ai 0 10511 Z_16) := ⟨_, rfl⟩
        show V K 0 0 P A (va_up g_10 (m + 1) (ai 0 10511 Z_16)) [(0, .ref (A m)), (1, .int (nI r)), (2, .int (nI q))] 124 []
        rw [← hg_17]
        have h_18 : g_17 m = ob 11 [.ref (A (m + 1)), .int (nI (gZ σ).1), .int (nI (gZ σ).2.1), .int (nI (gZ σ).2.2.1), .int (nI (gZ σ).2.2.2.1), .int (nI (gZ σ).2.2.2.2), .ref (A (m + 2)), .int (nI cs.length), .ref (A (m + 3)), .int (nI lm), .ref (A (m + 4)), .ref (A (m + 5)), .int (nI gm), .ref (A (m + 6)), .ref (A (m + 7)), .ref (A (m + 8))] := by rw [hg_17, va_up_ne _ _ (show m ≠ m + 1 from by omega)]; exact h_11
        have h_19 : g_17 (m + 1) = ai 0 10511 Z_16 := by rw [hg_17]; exact va_up_self _ _ _
        have hf_20 : Fr g_10 g_17 (m + 1) (m + 1 + 1) := by rw [hg_17]; exact Fr.up (by omega) (by omega)
        have hp_21 := MC.fr hp_14 hf_20 (by omega)
        have hp_22 := SO.fr hp_15 hf_20 (by omega)
        refine g_aload_n (pc := 124) C dX11_add_124 0 rfl ?_
        refine g_get (pc := 125) C (j := 0) h_18 rfl rfl (by decide) u_852 dX11_add_125 ?_
        refine g_bipush (pc := 128) C dX11_add_128 (v := nI 16) rfl ?_
        refine g_iload_n (pc := 130) C dX11_add_130 1 rfl ?_
        refine g_iadd (pc := 131) C dX11_add_131 (z := nI (16 + r)) (nI_add _ _) ?_
        refine g_dup2 (pc := 132) C dX11_add_132 rfl rfl ?_
        refine g_iald (pc := 133) C h_19 (nI_clamp (by omega)) (nI_in0 (n := 10511) (by omega) (by omega)) dX11_add_133 (x := nI (nAc (gN σ8 r)).length) (zne hZ_16 (by omega) (zne hZ_9 (by omega) (RZ.rAn hR_3 (r := r) (by omega) (by omega)))) ?_
        refine g_iconst (pc := 134) C dX11_add_134 (v := nI 1) rfl ?_
        refine g_iadd (pc := 135) C dX11_add_135 (z := nI ((nAc (gN σ8 r)).length + 1)) (nI_add _ _) ?_
        refine g_iast (pc := 136) C h_19 (nI_clamp (by omega)) (nI_in0 (n := 10511) (by omega) (by omega)) dX11_add_136 ?_
        obtain ⟨Z_23, hZ_23⟩ : ∃ yZ : Nat → Int32, yZ = upd Z_16 (16 + r) (nI ((nAc (gN σ8 r)).length + 1)) := ⟨_, rfl⟩
        show V K 0 0 P A (va_up g_17 (m + 1) (ai 0 10511 (upd Z_16 (16 + r) (nI ((nAc (gN σ8 r)).length + 1))))) [(0, .ref (A m)), (1, .int (nI r)), (2, .int (nI q))] 137 []
        rw [← hZ_23]
        obtain ⟨g_24, hg_24⟩ : ∃ yM : pM, yM = va_up g_17 (m + 1) (ai 0 10511 Z_23) := ⟨_, rfl⟩
        show V K 0 0 P A (va_up g_17 (m + 1) (ai 0 10511 Z_23)) [(0, .ref (A m)), (1, .int (nI r)), (2, .int (nI q))] 137 []
        rw [← hg_24]
        have h_25 : g_24 m = ob 11 [.ref (A (m + 1)), .int (nI (gZ σ).1), .int (nI (gZ σ).2.1), .int (nI (gZ σ).2.2.1), .int (nI (gZ σ).2.2.2.1), .int (nI (gZ σ).2.2.2.2), .ref (A (m + 2)), .int (nI cs.length), .ref (A (m + 3)), .int (nI lm), .ref (A (m + 4)), .ref (A (m + 5)), .int (nI gm), .ref (A (m + 6)), .ref (A (m + 7)), .ref (A (m + 8))] := by rw [hg_24, va_up_ne _ _ (show m ≠ m + 1 from by omega)]; exact h_18
        have h_26 : g_24 (m + 1) = ai 0 10511 Z_23 := by rw [hg_24]; exact va_up_self _ _ _
        have hf_27 : Fr g_17 g_24 (m + 1) (m + 1 + 1) := by rw [hg_24]; exact Fr.up (by omega) (by omega)
        have hp_28 := MC.fr hp_21 hf_27 (by omega)
        have hp_29 := SO.fr hp_22 hf_27 (by omega)
        have hR_30 : RZ Z_23 (egS (acPut σ8 r q) r q) := RZ.pAc hR_3 (by omega) hl5 hq5 (by omega) (hS_σ8.a16 (by omega)) hZ_9 hZ_16 hZ_23
        obtain ⟨σ31, hσ31⟩ : ∃ sM : Sg, sM = egS (acPut σ8 r q) r q := ⟨_, rfl⟩
        rw [← hσ31] at hR_30
        have hK_σ31 : gK σ31 = gK σ := (congrArg gK hσ31).trans hK_σ8
        have hT_σ31 : gT σ31 = gT σ := (congrArg gT hσ31).trans hT_σ8
        have hZ_σ31 : gZ σ31 = gZ σ := (congrArg gZ hσ31).trans hZ_σ8
        have hs6 : ∀ x, nAs (gN σ31 r) = some x → x < 2 ^ 31 := fun x hx => by rw [hσ31, nAs_eg] at hx; have := hS_σ8.s16 (by omega) x hx; omega
        refine g_aload_n (pc := 137) C dX11_add_137 0 rfl ?_
        refine g_get (pc := 138) C (j := 0) h_25 rfl rfl (by decide) u_852 dX11_add_138 ?_
        refine g_bipush (pc := 141) C dX11_add_141 (v := nI 48) rfl ?_
        refine g_iload_n (pc := 143) C dX11_add_143 1 rfl ?_
        refine g_iadd (pc := 144) C dX11_add_144 (z := nI (48 + r)) (nI_add _ _) ?_
        refine g_iald (pc := 145) C h_26 (nI_clamp (by omega)) (nI_in0 (n := 10511) (by omega) (by omega)) dX11_add_145 (x := onv (nAs (gN σ31 r))) (RZ.rAs hR_30 (r := r) (by omega) (by omega)) ?_
        refine g_iload_n (pc := 146) C dX11_add_146 2 rfl ?_
        refine g_icmp_ne (pc := 147) C dX11_add_147 (tgt := 161) (by decide) (fun c_147 => ?_) (fun c_147 => ?_)
        ·
          exact g_vret (pc := 161) C R ⟨rfl, rfl, rfl, ⟨_, h_26, by rw [add_rf (cs := cs) (fun z => by rcases z with z | z; exact c_2 z; exact c_11 z) (by omega) hσ8 rfl hσ31 (fun z => c_147 ((onv_eq hs6 (by omega)).mpr z))]; exact hR_30⟩, fun k hk => by rw [hg_24, va_up_ne _ _ (by omega), hg_17, va_up_ne _ _ (by omega), hg_10, va_up_ne _ _ (by omega), hf_4 k (by omega)]⟩ (by decide) (by decide) dX11_add_161
        ·
          refine g_aload_n (pc := 150) C dX11_add_150 0 rfl ?_
          refine g_get (pc := 151) C (j := 0) h_25 rfl rfl (by decide) u_852 dX11_add_151 ?_
          refine g_bipush (pc := 154) C dX11_add_154 (v := nI 48) rfl ?_
          refine g_iload_n (pc := 156) C dX11_add_156 1 rfl ?_
          refine g_iadd (pc := 157) C dX11_add_157 (z := nI (48 + r)) (nI_add _ _) ?_
          refine g_bipush (pc := 158) C dX11_add_158 (v := (-6)) rfl ?_
          refine g_iast (pc := 160) C h_26 (nI_clamp (by omega)) (nI_in0 (n := 10511) (by omega) (by omega)) dX11_add_160 ?_
          obtain ⟨Z_32, hZ_32⟩ : ∃ yZ : Nat → Int32, yZ = upd Z_23 (48 + r) (-6) := ⟨_, rfl⟩
          show V K 0 0 P A (va_up g_24 (m + 1) (ai 0 10511 (upd Z_23 (48 + r) (-6)))) [(0, .ref (A m)), (1, .int (nI r)), (2, .int (nI q))] 161 []
          rw [← hZ_32]
          obtain ⟨g_33, hg_33⟩ : ∃ yM : pM, yM = va_up g_24 (m + 1) (ai 0 10511 Z_32) := ⟨_, rfl⟩
          show V K 0 0 P A (va_up g_24 (m + 1) (ai 0 10511 Z_32)) [(0, .ref (A m)), (1, .int (nI r)), (2, .int (nI q))] 161 []
          rw [← hg_33]
          have h_34 : g_33 m = ob 11 [.ref (A (m + 1)), .int (nI (gZ σ).1), .int (nI (gZ σ).2.1), .int (nI (gZ σ).2.2.1), .int (nI (gZ σ).2.2.2.1), .int (nI (gZ σ).2.2.2.2), .ref (A (m + 2)), .int (nI cs.length), .ref (A (m + 3)), .int (nI lm), .ref (A (m + 4)), .ref (A (m + 5)), .int (nI gm), .ref (A (m + 6)), .ref (A (m + 7)), .ref (A (m + 8))] := by rw [hg_33, va_up_ne _ _ (show m ≠ m + 1 from by omega)]; exact h_25
          have h_35 : g_33 (m + 1) = ai 0 10511 Z_32 := by rw [hg_33]; exact va_up_self _ _ _
          have hf_36 : Fr g_24 g_33 (m + 1) (m + 1 + 1) := by rw [hg_33]; exact Fr.up (by omega) (by omega)
          have hp_37 := MC.fr hp_28 hf_36 (by omega)
          have hp_38 := SO.fr hp_29 hf_36 (by omega)
          exact g_vret (pc := 161) C R ⟨rfl, rfl, rfl, ⟨_, h_35, by rw [add_rt (cs := cs) (fun z => by rcases z with z | z; exact c_2 z; exact c_11 z) (by omega) hσ8 rfl hσ31 rfl ((onv_eq hs6 (by omega)).mp c_147)]; exact RZ.wAs (o := none) hR_30 (by omega) hZ_32⟩, fun k hk => by rw [hg_33, va_up_ne _ _ (by omega), hg_24, va_up_ne _ _ (by omega), hg_17, va_up_ne _ _ (by omega), hg_10, va_up_ne _ _ (by omega), hf_4 k (by omega)]⟩ (by decide) (by decide) dX11_add_161
      ·
        have c_34 : (nAc (gN σ8 r)).length = (gZ σ).1 := (nI_eq (by omega) (by omega)).mp c_34
        refine g_aload_n (pc := 37) C dX11_add_37 0 rfl ?_
        refine g_get (pc := 38) C (j := 0) h_5 rfl rfl (by decide) u_852 dX11_add_38 ?_
        refine g_bipush (pc := 41) C dX11_add_41 (v := nI 96) rfl ?_
        refine g_iconst (pc := 43) C dX11_add_43 (v := nI 5) rfl ?_
        refine g_iload_n (pc := 44) C dX11_add_44 1 rfl ?_
        refine g_imul (pc := 45) C dX11_add_45 (z := nI (5 * r)) (pk_mul _ _) ?_
        refine g_iadd (pc := 46) C dX11_add_46 (z := nI (96 + 5 * r)) (nI_add _ _) ?_
        refine g_aload_n (pc := 47) C dX11_add_47 0 rfl ?_
        refine g_aload_n (pc := 48) C dX11_add_48 0 rfl ?_
        refine g_get (pc := 49) C (j := 1) h_5 rfl rfl (by decide) u_853 dX11_add_49 ?_
        refine g_callV (pc := 52) C (As := [.int (nI (gZ σ).1)]) (rest := [.int (nI (96 + 5 * r)), .ref (A (m + 1))]) (b := m) (c_X11_draw A P g_1 m (gZ σ).1 (by omega) (by omega) hp_6 hS_σ8.nx (by rw [hZ_σ8]; exact h_5) hZ_2 hR_3) h_5 rfl rfl Y_X11_draw u_973 N_X11_draw ⟨by decide, by decide⟩ ⟨by decide, by decide⟩ (Nat.le_of_ble_eq_true rfl) rfl dX11_add_52 ?_
        rintro _ _ _ g_39 ⟨rfl, rfl, rfl, ⟨Z_40, hZ_40, hR_41⟩, hf_42⟩
        have h_43 := hf_42.at (by omega) h_5
        have hp_44 := MC.fr hp_6 hf_42 (by omega)
        have hp_45 := SO.fr hp_7 hf_42 (by omega)
        obtain ⟨σ46, hσ46⟩ : ∃ sM : Sg, sM = dS cs σ8 (gZ σ).1 := ⟨_, rfl⟩
        rw [← hσ46] at hR_41
        have hK_σ46 : gK σ46 = gK σ := (congrArg gK hσ46).trans (dS_K.trans hK_σ8)
        have hT_σ46 : gT σ46 = gT σ := (congrArg gT hσ46).trans (dS_T.trans hT_σ8)
        have hZ_σ46 : gZ σ46 = gZ σ := (congrArg gZ hσ46).trans (dS_Z.trans hZ_σ8)
        have hS_σ46 : SW B cs σ46 := by rw [hσ46]; exact hS_σ8.drw
        have hN_σ46 : gN σ46 = gN σ8 := (congrArg gN hσ46).trans dS_N
        have hd_σ46 := dI_lt (cs := cs) (σ := σ8) (n := (gZ σ).1) (by omega)
        show V K 0 0 P A g_39 [(0, .ref (A m)), (1, .int (nI r)), (2, .int (nI q))] 55 [.int (nI (dI cs σ8 (gZ σ).1)), .int (nI (96 + 5 * r)), .ref (A (m + 1))]
        have hL2 : (nAc (gN σ46 r)).length = (gZ σ).1 := by rw [hN_σ46]; exact c_34
        have hom : (nAc (gN σ46 r)).getD (dI cs σ8 (gZ σ).1) 0 ∈ nAc (gN σ46 r) := getD_mem (by omega)
        have hoK : (nAc (gN σ46 r)).getD (dI cs σ8 (gZ σ).1) 0 < gK σ46 := (hS_σ46.nw (by omega)).2.1 _ hom
        refine g_iadd (pc := 55) C dX11_add_55 (z := nI (96 + 5 * r + (dI cs σ8 (gZ σ).1))) (nI_add _ _) ?_
        refine g_iald (pc := 56) C hZ_40 (nI_clamp (by omega)) (nI_in0 (n := 10511) (by omega) (by omega)) dX11_add_56 (x := nI ((nAc (gN σ46 r)).getD (dI cs σ8 (gZ σ).1) 0)) (RZ.rAc hR_41 (r := r) (k := (dI cs σ8 (gZ σ).1)) (by omega) (by omega) (by omega)) ?_
        refine g_istore_n (pc := 57) C dX11_add_57 (by decide) (lv' := [(0, .ref (A m)), (1, .int (nI r)), (2, .int (nI q)), (3, .int (nI ((nAc (gN σ46 r)).getD (dI cs σ8 (gZ σ).1) 0)))]) [1, 2, 3, 0] rfl ?_
        refine g_aload_n (pc := 58) C dX11_add_58 0 rfl ?_
        refine g_iload_n (pc := 59) C dX11_add_59 1 rfl ?_
        refine g_iload_n (pc := 60) C dX11_add_60 3 rfl ?_
        refine g_iconst (pc := 61) C dX11_add_61 (v := nI 4) rfl ?_
        refine g_iconst (pc := 62) C dX11_add_62 (v := nI 0) rfl ?_
        refine g_iconst (pc := 63) C dX11_add_63 (v := nI 0) rfl ?_
        refine g_callV (pc := 64) C (As := [.int (nI r), .int (nI ((nAc (gN σ46 r)).getD (dI cs σ8 (gZ σ).1) 0)), .int (nI 4), .int (nI 0), .int (nI 0)]) (rest := []) (b := m) (c_X11_send A P g_39 m r ((nAc (gN σ46 r)).getD (dI cs σ8 (gZ σ).1) 0) 4 0 0 hp_45 (by omega) (by rw [hZ_σ46]; exact h_43) hZ_40 hR_41) h_43 rfl rfl Y_X11_send u_933 N_X11_send ⟨by decide, by decide⟩ ⟨by decide, by decide⟩ (Nat.le_of_ble_eq_true rfl) rfl dX11_add_64 ?_
        rintro _ _ _ g_47 ⟨rfl, rfl, rfl, ⟨Z_48, hZ_48, hR_49⟩, hf_50⟩
        have h_51 := hf_50.at (by omega) h_43
        have hp_52 := MC.fr hp_44 hf_50 (by omega)
        have hp_53 := SO.fr hp_45 hf_50 (by omega)
        obtain ⟨σ54, hσ54⟩ : ∃ sM : Sg, sM = snd σ46 r ((nAc (gN σ46 r)).getD (dI cs σ8 (gZ σ).1) 0) 4 0 0 [] := ⟨_, rfl⟩
        rw [← hσ54] at hR_49
        have hK_σ54 : gK σ54 = gK σ := (congrArg gK hσ54).trans (snd_K.trans hK_σ46)
        have hT_σ54 : gT σ54 = gT σ := (congrArg gT hσ54).trans (snd_T.trans hT_σ46)
        have hZ_σ54 : gZ σ54 = gZ σ := (congrArg gZ hσ54).trans (snd_Z.trans hZ_σ46)
        have hS_σ54 : SW B cs σ54 := by rw [hσ54]; exact SW.sent hS_σ46 (by omega) (by omega) (lw_0 (by omega) (by omega) (by omega))
        show V K 0 0 P A g_47 [(0, .ref (A m)), (1, .int (nI r)), (2, .int (nI q)), (3, .int (nI ((nAc (gN σ46 r)).getD (dI cs σ8 (gZ σ).1) 0)))] 67 []
        refine g_aload_n (pc := 67) C dX11_add_67 0 rfl ?_
        refine g_iload_n (pc := 68) C dX11_add_68 1 rfl ?_
        refine g_iload_n (pc := 69) C dX11_add_69 3 rfl ?_
        refine g_callV (pc := 70) C (As := [.int (nI r), .int (nI ((nAc (gN σ46 r)).getD (dI cs σ8 (gZ σ).1) 0))]) (rest := []) (b := m) (c_X11_leavesActive A P g_47 m r ((nAc (gN σ46 r)).getD (dI cs σ8 (gZ σ).1) 0) (by omega) (by omega) hS_σ54 (by rw [hZ_σ54]; exact h_51) hZ_48 hR_49) h_51 rfl rfl Y_X11_leavesActive u_1037 N_X11_leavesActive ⟨by decide, by decide⟩ ⟨by decide, by decide⟩ (Nat.le_of_ble_eq_true rfl) rfl dX11_add_70 ?_
        rintro _ _ _ g_55 ⟨rfl, rfl, rfl, ⟨Z_56, hZ_56, hR_57⟩, hf_58⟩
        have h_59 := hf_58.at (by omega) h_51
        have hp_60 := MC.fr hp_52 hf_58 (by omega)
        have hp_61 := SO.fr hp_53 hf_58 (by omega)
        obtain ⟨σ62, hσ62⟩ : ∃ sM : Sg, sM = ulS σ54 r ((nAc (gN σ46 r)).getD (dI cs σ8 (gZ σ).1) 0) := ⟨_, rfl⟩
        rw [← hσ62] at hR_57
        have hK_σ62 : gK σ62 = gK σ := (congrArg gK hσ62).trans hK_σ54
        have hT_σ62 : gT σ62 = gT σ := (congrArg gT hσ62).trans hT_σ54
        have hZ_σ62 : gZ σ62 = gZ σ := (congrArg gZ hσ62).trans hZ_σ54
        have hS_σ62 : SW B cs σ62 := by rw [hσ62]; exact SW.ulS hS_σ54 (by omega) (by omega)
        show V K 0 0 P A g_55 [(0, .ref (A m)), (1, .int (nI r)), (2, .int (nI q)), (3, .int (nI ((nAc (gN σ46 r)).getD (dI cs σ8 (gZ σ).1) 0)))] 73 []
        refine g_aload_n (pc := 73) C dX11_add_73 0 rfl ?_
        refine g_iload_n (pc := 74) C dX11_add_74 1 rfl ?_
        refine g_iload_n (pc := 75) C dX11_add_75 3 rfl ?_
        refine g_callV (pc := 76) C (As := [.int (nI r), .int (nI ((nAc (gN σ46 r)).getD (dI cs σ8 (gZ σ).1) 0))]) (rest := []) (b := m) (c_X11_note A P g_55 m r ((nAc (gN σ46 r)).getD (dI cs σ8 (gZ σ).1) 0) (by omega) (by omega) hS_σ62 hp_60 (by rw [hZ_σ62]; exact h_59) hZ_56 hR_57) h_59 rfl rfl Y_X11_note u_1045 N_X11_note ⟨by decide, by decide⟩ ⟨by decide, by decide⟩ (Nat.le_of_ble_eq_true rfl) rfl dX11_add_76 ?_
        rintro _ _ _ g_63 ⟨rfl, rfl, rfl, ⟨Z_64, hZ_64, hR_65⟩, hf_66⟩
        have h_67 := hf_66.at (by omega) h_59
        have hp_68 := MC.fr hp_60 hf_66 (by omega)
        have hp_69 := SO.fr hp_61 hf_66 (by omega)
        obtain ⟨σ70, hσ70⟩ : ∃ sM : Sg, sM = nte cs σ62 r ((nAc (gN σ46 r)).getD (dI cs σ8 (gZ σ).1) 0) := ⟨_, rfl⟩
        rw [← hσ70] at hR_65
        have hK_σ70 : gK σ70 = gK σ := (congrArg gK hσ70).trans (nte_K.trans hK_σ62)
        have hT_σ70 : gT σ70 = gT σ := (congrArg gT hσ70).trans (nte_T.trans hT_σ62)
        have hZ_σ70 : gZ σ70 = gZ σ := (congrArg gZ hσ70).trans (nte_Z.trans hZ_σ62)
        have hS_σ70 : SW B cs σ70 := by rw [hσ70]; exact nte_SW hS_σ62 (by omega) (by omega)
        show V K 0 0 P A g_63 [(0, .ref (A m)), (1, .int (nI r)), (2, .int (nI q)), (3, .int (nI ((nAc (gN σ46 r)).getD (dI cs σ8 (gZ σ).1) 0)))] 79 []
        have hD : σ70 = drp cs σ46 r ((nAc (gN σ46 r)).getD (dI cs σ8 (gZ σ).1) 0) := by rw [hσ70, hσ62, hσ54]; rfl
        have hA5 : nAc (gN σ70 r) = (nAc (gN σ46 r)).erase ((nAc (gN σ46 r)).getD (dI cs σ8 (gZ σ).1) 0) := by rw [hD]; exact drp_ac
        have hl5 : (nAc (gN σ70 r)).length < 5 := by rw [hD]; exact drp_room hS_σ46 (by omega) (by omega) hom
        have hq5 : q ∉ nAc (gN σ70 r) := by rw [hA5, hN_σ46, hA1]; exact fun z => c_11 (List.mem_of_mem_erase z)
        refine g_aload_n (pc := 79) C dX11_add_79 0 rfl ?_
        refine g_get (pc := 80) C (j := 0) h_67 rfl rfl (by decide) u_852 dX11_add_80 ?_
        refine g_bipush (pc := 83) C dX11_add_83 (v := nI 96) rfl ?_
        refine g_iconst (pc := 85) C dX11_add_85 (v := nI 5) rfl ?_
        refine g_iload_n (pc := 86) C dX11_add_86 1 rfl ?_
        refine g_imul (pc := 87) C dX11_add_87 (z := nI (5 * r)) (pk_mul _ _) ?_
        refine g_iadd (pc := 88) C dX11_add_88 (z := nI (96 + 5 * r)) (nI_add _ _) ?_
        refine g_aload_n (pc := 89) C dX11_add_89 0 rfl ?_
        refine g_get (pc := 90) C (j := 0) h_67 rfl rfl (by decide) u_852 dX11_add_90 ?_
        refine g_bipush (pc := 93) C dX11_add_93 (v := nI 16) rfl ?_
        refine g_iload_n (pc := 95) C dX11_add_95 1 rfl ?_
        refine g_iadd (pc := 96) C dX11_add_96 (z := nI (16 + r)) (nI_add _ _) ?_
        refine g_iald (pc := 97) C hZ_64 (nI_clamp (by omega)) (nI_in0 (n := 10511) (by omega) (by omega)) dX11_add_97 (x := nI (nAc (gN σ70 r)).length) (RZ.rAn hR_65 (r := r) (by omega) (by omega)) ?_
        refine g_iadd (pc := 98) C dX11_add_98 (z := nI (96 + 5 * r + (nAc (gN σ70 r)).length)) (nI_add _ _) ?_
        refine g_iload_n (pc := 99) C dX11_add_99 2 rfl ?_
        refine g_iast (pc := 100) C hZ_64 (nI_clamp (by omega)) (nI_in0 (n := 10511) (by omega) (by omega)) dX11_add_100 ?_
        obtain ⟨Z_71, hZ_71⟩ : ∃ yZ : Nat → Int32, yZ = upd Z_64 (96 + 5 * r + (nAc (gN σ70 r)).length) (nI q) := ⟨_, rfl⟩
        show V K 0 0 P A (va_up g_63 (m + 1) (ai 0 10511 (upd Z_64 (96 + 5 * r + (nAc (gN σ70 r)).length) (nI q)))) [(0, .ref (A m)), (1, .int (nI r)), (2, .int (nI q)), (3, .int (nI ((nAc (gN σ46 r)).getD (dI cs σ8 (gZ σ).1) 0)))] 101 []
        rw [← hZ_71]
        obtain ⟨g_72, hg_72⟩ : ∃ yM : pM, yM = va_up g_63 (m + 1) (ai 0 10511 Z_71) := ⟨_, rfl⟩
        show V K 0 0 P A (va_up g_63 (m + 1) (ai 0 10511 Z_71)) [(0, .ref (A m)), (1, .int (nI r)), (2, .int (nI q)), (3, .int (nI ((nAc (gN σ46 r)).getD (dI cs σ8 (gZ σ).1) 0)))] 101 []
        rw [← hg_72]
        have h_73 : g_72 m = ob 11 [.ref (A (m + 1)), .int (nI (gZ σ).1), .int (nI (gZ σ).2.1), .int (nI (gZ σ).2.2.1), .int (nI (gZ σ).2.2.2.1), .int (nI (gZ σ).2.2.2.2), .ref (A (m + 2)), .int (nI cs.length), .ref (A (m + 3)), .int (nI lm), .ref (A (m + 4)), .ref (A (m + 5)), .int (nI gm), .ref (A (m + 6)), .ref (A (m + 7)), .ref (A (m + 8))] := by rw [hg_72, va_up_ne _ _ (show m ≠ m + 1 from by omega)]; exact h_67
        have h_74 : g_72 (m + 1) = ai 0 10511 Z_71 := by rw [hg_72]; exact va_up_self _ _ _
        have hf_75 : Fr g_63 g_72 (m + 1) (m + 1 + 1) := by rw [hg_72]; exact Fr.up (by omega) (by omega)
        have hp_76 := MC.fr hp_68 hf_75 (by omega)
        have hp_77 := SO.fr hp_69 hf_75 (by omega)
        refine g_aload_n (pc := 101) C dX11_add_101 0 rfl ?_
        refine g_get (pc := 102) C (j := 0) h_73 rfl rfl (by decide) u_852 dX11_add_102 ?_
        refine g_sipush (pc := 105) C dX11_add_105 (v := nI 176) rfl ?_
        refine g_iconst (pc := 108) C dX11_add_108 (v := nI 5) rfl ?_
        refine g_iload_n (pc := 109) C dX11_add_109 1 rfl ?_
        refine g_imul (pc := 110) C dX11_add_110 (z := nI (5 * r)) (pk_mul _ _) ?_
        refine g_iadd (pc := 111) C dX11_add_111 (z := nI (176 + 5 * r)) (nI_add _ _) ?_
        refine g_aload_n (pc := 112) C dX11_add_112 0 rfl ?_
        refine g_get (pc := 113) C (j := 0) h_73 rfl rfl (by decide) u_852 dX11_add_113 ?_
        refine g_bipush (pc := 116) C dX11_add_116 (v := nI 16) rfl ?_
        refine g_iload_n (pc := 118) C dX11_add_118 1 rfl ?_
        refine g_iadd (pc := 119) C dX11_add_119 (z := nI (16 + r)) (nI_add _ _) ?_
        refine g_iald (pc := 120) C h_74 (nI_clamp (by omega)) (nI_in0 (n := 10511) (by omega) (by omega)) dX11_add_120 (x := nI (nAc (gN σ70 r)).length) (zne hZ_71 (by omega) (RZ.rAn hR_65 (r := r) (by omega) (by omega))) ?_
        refine g_iadd (pc := 121) C dX11_add_121 (z := nI (176 + 5 * r + (nAc (gN σ70 r)).length)) (nI_add _ _) ?_
        refine g_iconst (pc := 122) C dX11_add_122 (v := nI 0) rfl ?_
        refine g_iast (pc := 123) C h_74 (nI_clamp (by omega)) (nI_in0 (n := 10511) (by omega) (by omega)) dX11_add_123 ?_
        obtain ⟨Z_78, hZ_78⟩ : ∃ yZ : Nat → Int32, yZ = upd Z_71 (176 + 5 * r + (nAc (gN σ70 r)).length) (nI 0) := ⟨_, rfl⟩
        show V K 0 0 P A (va_up g_72 (m + 1) (ai 0 10511 (upd Z_71 (176 + 5 * r + (nAc (gN σ70 r)).length) (nI 0)))) [(0, .ref (A m)), (1, .int (nI r)), (2, .int (nI q)), (3, .int (nI ((nAc (gN σ46 r)).getD (dI cs σ8 (gZ σ).1) 0)))] 124 []
        rw [← hZ_78]
        obtain ⟨g_79, hg_79⟩ : ∃ yM : pM, yM = va_up g_72 (m + 1) (ai 0 10511 Z_78) := ⟨_, rfl⟩
        show V K 0 0 P A (va_up g_72 (m + 1) (ai 0 10511 Z_78)) [(0, .ref (A m)), (1, .int (nI r)), (2, .int (nI q)), (3, .int (nI ((nAc (gN σ46 r)).getD (dI cs σ8 (gZ σ).1) 0)))] 124 []
        rw [← hg_79]
        have h_80 : g_79 m = ob 11 [.ref (A (m + 1)), .int (nI (gZ σ).1), .int (nI (gZ σ).2.1), .int (nI (gZ σ).2.2.1), .int (nI (gZ σ).2.2.2.1), .int (nI (gZ σ).2.2.2.2), .ref (A (m + 2)), .int (nI cs.length), .ref (A (m + 3)), .int (nI lm), .ref (A (m + 4)), .ref (A (m + 5)), .int (nI gm), .ref (A (m + 6)), .ref (A (m + 7)), .ref (A (m + 8))] := by rw [hg_79, va_up_ne _ _ (show m ≠ m + 1 from by omega)]; exact h_73
        have h_81 : g_79 (m + 1) = ai 0 10511 Z_78 := by rw [hg_79]; exact va_up_self _ _ _
        have hf_82 : Fr g_72 g_79 (m + 1) (m + 1 + 1) := by rw [hg_79]; exact Fr.up (by omega) (by omega)
        have hp_83 := MC.fr hp_76 hf_82 (by omega)
        have hp_84 := SO.fr hp_77 hf_82 (by omega)
        refine g_aload_n (pc := 124) C dX11_add_124 0 rfl ?_
        refine g_get (pc := 125) C (j := 0) h_80 rfl rfl (by decide) u_852 dX11_add_125 ?_
        refine g_bipush (pc := 128) C dX11_add_128 (v := nI 16) rfl ?_
        refine g_iload_n (pc := 130) C dX11_add_130 1 rfl ?_
        refine g_iadd (pc := 131) C dX11_add_131 (z := nI (16 + r)) (nI_add _ _) ?_
        refine g_dup2 (pc := 132) C dX11_add_132 rfl rfl ?_
        refine g_iald (pc := 133) C h_81 (nI_clamp (by omega)) (nI_in0 (n := 10511) (by omega) (by omega)) dX11_add_133 (x := nI (nAc (gN σ70 r)).length) (zne hZ_78 (by omega) (zne hZ_71 (by omega) (RZ.rAn hR_65 (r := r) (by omega) (by omega)))) ?_
        refine g_iconst (pc := 134) C dX11_add_134 (v := nI 1) rfl ?_
        refine g_iadd (pc := 135) C dX11_add_135 (z := nI ((nAc (gN σ70 r)).length + 1)) (nI_add _ _) ?_
        refine g_iast (pc := 136) C h_81 (nI_clamp (by omega)) (nI_in0 (n := 10511) (by omega) (by omega)) dX11_add_136 ?_
        obtain ⟨Z_85, hZ_85⟩ : ∃ yZ : Nat → Int32, yZ = upd Z_78 (16 + r) (nI ((nAc (gN σ70 r)).length + 1)) := ⟨_, rfl⟩
        show V K 0 0 P A (va_up g_79 (m + 1) (ai 0 10511 (upd Z_78 (16 + r) (nI ((nAc (gN σ70 r)).length + 1))))) [(0, .ref (A m)), (1, .int (nI r)), (2, .int (nI q)), (3, .int (nI ((nAc (gN σ46 r)).getD (dI cs σ8 (gZ σ).1) 0)))] 137 []
        rw [← hZ_85]
        obtain ⟨g_86, hg_86⟩ : ∃ yM : pM, yM = va_up g_79 (m + 1) (ai 0 10511 Z_85) := ⟨_, rfl⟩
        show V K 0 0 P A (va_up g_79 (m + 1) (ai 0 10511 Z_85)) [(0, .ref (A m)), (1, .int (nI r)), (2, .int (nI q)), (3, .int (nI ((nAc (gN σ46 r)).getD (dI cs σ8 (gZ σ).1) 0)))] 137 []
        rw [← hg_86]
        have h_87 : g_86 m = ob 11 [.ref (A (m + 1)), .int (nI (gZ σ).1), .int (nI (gZ σ).2.1), .int (nI (gZ σ).2.2.1), .int (nI (gZ σ).2.2.2.1), .int (nI (gZ σ).2.2.2.2), .ref (A (m + 2)), .int (nI cs.length), .ref (A (m + 3)), .int (nI lm), .ref (A (m + 4)), .ref (A (m + 5)), .int (nI gm), .ref (A (m + 6)), .ref (A (m + 7)), .ref (A (m + 8))] := by rw [hg_86, va_up_ne _ _ (show m ≠ m + 1 from by omega)]; exact h_80
        have h_88 : g_86 (m + 1) = ai 0 10511 Z_85 := by rw [hg_86]; exact va_up_self _ _ _
        have hf_89 : Fr g_79 g_86 (m + 1) (m + 1 + 1) := by rw [hg_86]; exact Fr.up (by omega) (by omega)
        have hp_90 := MC.fr hp_83 hf_89 (by omega)
        have hp_91 := SO.fr hp_84 hf_89 (by omega)
        have hR_92 : RZ Z_85 (egS (acPut σ70 r q) r q) := RZ.pAc hR_65 (by omega) hl5 hq5 (by omega) (hS_σ70.a16 (by omega)) hZ_71 hZ_78 hZ_85
        obtain ⟨σ93, hσ93⟩ : ∃ sM : Sg, sM = egS (acPut σ70 r q) r q := ⟨_, rfl⟩
        rw [← hσ93] at hR_92
        have hK_σ93 : gK σ93 = gK σ := (congrArg gK hσ93).trans hK_σ70
        have hT_σ93 : gT σ93 = gT σ := (congrArg gT hσ93).trans hT_σ70
        have hZ_σ93 : gZ σ93 = gZ σ := (congrArg gZ hσ93).trans hZ_σ70
        have hs6 : ∀ x, nAs (gN σ93 r) = some x → x < 2 ^ 31 := fun x hx => by rw [hσ93, nAs_eg] at hx; have := hS_σ70.s16 (by omega) x hx; omega
        refine g_aload_n (pc := 137) C dX11_add_137 0 rfl ?_
        refine g_get (pc := 138) C (j := 0) h_87 rfl rfl (by decide) u_852 dX11_add_138 ?_
        refine g_bipush (pc := 141) C dX11_add_141 (v := nI 48) rfl ?_
        refine g_iload_n (pc := 143) C dX11_add_143 1 rfl ?_
        refine g_iadd (pc := 144) C dX11_add_144 (z := nI (48 + r)) (nI_add _ _) ?_
        refine g_iald (pc := 145) C h_88 (nI_clamp (by omega)) (nI_in0 (n := 10511) (by omega) (by omega)) dX11_add_145 (x := onv (nAs (gN σ93 r))) (RZ.rAs hR_92 (r := r) (by omega) (by omega)) ?_
        refine g_iload_n (pc := 146) C dX11_add_146 2 rfl ?_
        refine g_icmp_ne (pc := 147) C dX11_add_147 (tgt := 161) (by decide) (fun c_147 => ?_) (fun c_147 => ?_)
        ·
          exact g_vret (pc := 161) C R ⟨rfl, rfl, rfl, ⟨_, h_88, by rw [add_ff (cs := cs) (fun z => by rcases z with z | z; exact c_2 z; exact c_11 z) (by omega) hσ8 (hσ46.trans (dS_e c_34.symm)) (by rw [c_34]; exact hD) rfl hσ93 (fun z => c_147 ((onv_eq hs6 (by omega)).mpr z))]; exact hR_92⟩, fun k hk => by rw [hg_86, va_up_ne _ _ (by omega), hg_79, va_up_ne _ _ (by omega), hg_72, va_up_ne _ _ (by omega), hf_66 k (by omega), hf_58 k (by omega), hf_50 k (by omega), hf_42 k (by omega), hf_4 k (by omega)]⟩ (by decide) (by decide) dX11_add_161
        ·
          refine g_aload_n (pc := 150) C dX11_add_150 0 rfl ?_
          refine g_get (pc := 151) C (j := 0) h_87 rfl rfl (by decide) u_852 dX11_add_151 ?_
          refine g_bipush (pc := 154) C dX11_add_154 (v := nI 48) rfl ?_
          refine g_iload_n (pc := 156) C dX11_add_156 1 rfl ?_
          refine g_iadd (pc := 157) C dX11_add_157 (z := nI (48 + r)) (nI_add _ _) ?_
          refine g_bipush (pc := 158) C dX11_add_158 (v := (-6)) rfl ?_
          refine g_iast (pc := 160) C h_88 (nI_clamp (by omega)) (nI_in0 (n := 10511) (by omega) (by omega)) dX11_add_160 ?_
          obtain ⟨Z_94, hZ_94⟩ : ∃ yZ : Nat → Int32, yZ = upd Z_85 (48 + r) (-6) := ⟨_, rfl⟩
          show V K 0 0 P A (va_up g_86 (m + 1) (ai 0 10511 (upd Z_85 (48 + r) (-6)))) [(0, .ref (A m)), (1, .int (nI r)), (2, .int (nI q)), (3, .int (nI ((nAc (gN σ46 r)).getD (dI cs σ8 (gZ σ).1) 0)))] 161 []
          rw [← hZ_94]
          obtain ⟨g_95, hg_95⟩ : ∃ yM : pM, yM = va_up g_86 (m + 1) (ai 0 10511 Z_94) := ⟨_, rfl⟩
          show V K 0 0 P A (va_up g_86 (m + 1) (ai 0 10511 Z_94)) [(0, .ref (A m)), (1, .int (nI r)), (2, .int (nI q)), (3, .int (nI ((nAc (gN σ46 r)).getD (dI cs σ8 (gZ σ).1) 0)))] 161 []
          rw [← hg_95]
          have h_96 : g_95 m = ob 11 [.ref (A (m + 1)), .int (nI (gZ σ).1), .int (nI (gZ σ).2.1), .int (nI (gZ σ).2.2.1), .int (nI (gZ σ).2.2.2.1), .int (nI (gZ σ).2.2.2.2), .ref (A (m + 2)), .int (nI cs.length), .ref (A (m + 3)), .int (nI lm), .ref (A (m + 4)), .ref (A (m + 5)), .int (nI gm), .ref (A (m + 6)), .ref (A (m + 7)), .ref (A (m + 8))] := by rw [hg_95, va_up_ne _ _ (show m ≠ m + 1 from by omega)]; exact h_87
          have h_97 : g_95 (m + 1) = ai 0 10511 Z_94 := by rw [hg_95]; exact va_up_self _ _ _
          have hf_98 : Fr g_86 g_95 (m + 1) (m + 1 + 1) := by rw [hg_95]; exact Fr.up (by omega) (by omega)
          have hp_99 := MC.fr hp_90 hf_98 (by omega)
          have hp_100 := SO.fr hp_91 hf_98 (by omega)
          exact g_vret (pc := 161) C R ⟨rfl, rfl, rfl, ⟨_, h_97, by rw [add_ft (cs := cs) (fun z => by rcases z with z | z; exact c_2 z; exact c_11 z) (by omega) hσ8 (hσ46.trans (dS_e c_34.symm)) (by rw [c_34]; exact hD) rfl hσ93 rfl ((onv_eq hs6 (by omega)).mp c_147)]; exact RZ.wAs (o := none) hR_92 (by omega) hZ_94⟩, fun k hk => by rw [hg_95, va_up_ne _ _ (by omega), hg_86, va_up_ne _ _ (by omega), hg_79, va_up_ne _ _ (by omega), hg_72, va_up_ne _ _ (by omega), hf_66 k (by omega), hf_58 k (by omega), hf_50 k (by omega), hf_42 k (by omega), hf_4 k (by omega)]⟩ (by decide) (by decide) dX11_add_161
    ·
      have c_11 : (decide (q ∈ nAc (gN σ r))) = true := b32_no c_11
      have c_11 : (q ∈ nAc (gN σ r)) := of_decide_eq_true c_11
      exact g_vret (pc := 14) C R ⟨rfl, rfl, rfl, ⟨Z, hZ, by rw [add_no (Or.inr c_11)]; exact hR⟩, Fr.rf⟩ (by decide) (by decide) dX11_add_14
abbrev rm_X11_mend : Room := { frames := 4, cells := 0, slots := 0, locals := 101 }
theorem Y_X11_mend : pY yX11_mend cX11_mend 5 (Option.none : Option Jvm.ClassFile.FieldType) := ⟨u_1059, us_29, u_13, u_1060⟩
theorem N_X11_mend : yX11_mend.cls ≠ "java/lang/invoke/MethodHandle" ∧ yX11_mend.cls ≠ "java/lang/invoke/VarHandle" ∧ (parseMethodDescriptor yX11_mend.desc).map (fun d => d.parameters.length) = some 1 := by decide +kernel
set_option maxRecDepth 20000 in
set_option maxHeartbeats 4000000 in
theorem c_X11_mend (A : Nat → Nat) (P : List Nat) (g : pM) (m : Nat) {cs : List Nat} {lm gm : Nat} {Z : Nat → Int32} {σ : Sg} {B : Nat} (r : Nat) (hr : r < gK σ) (hS : SW B cs σ) (hC : MC g m cs) {l3 : List Nat} (hl3 : SO g (m + 3) 5 l3) {l4 : List Nat} (hl4 : SO g (m + 4) 16 l4) (hO : g m = mOb A m (gZ σ) cs.length lm gm) (hZ : g (m + 1) = ai 0 10511 Z) (hR : RZ Z σ) : PM yX11_mend cX11_mend 5 (Option.none : Option Jvm.ClassFile.FieldType) rm_X11_mend [.ref (A m), .int (nI r)] P A g (fun v g' => v = none ∧ ZS g' m (mnd cs σ r) ∧ (∃ l, SO g' (m + 4) 16 l) ∧ FrZ g g' m) := by
  have hK := hR.k16
  have hT := hR.t24
  have hL := hR.le
  have hzw := hS.2.2.2.1
  have hz0 := hzw.1
  have hz1 := hzw.2.1
  have hz2 := hzw.2.2.1
  have hz3 := hzw.2.2.2.1
  have hn := hS.nw hr
  have hle1 := hn.2.2.2.2.1
  have hle2 := hn.2.2.2.2.2.1
  have hc5 := hR.ac5 hr
  have hc8 := hR.pa8 hr
  have ha16 := hS.a16 hr
  have hp16 := hS.p16 hr
  have hs16 := hS.s16 hr
  refine px_intro (by decide +kernel) (Nat.le_of_ble_eq_true rfl) (fun K sz C R => ?_)
  show V K 0 0 P A g [(0, .ref (A m)), (1, .int (nI r))] 0 []
  refine g_aload_n (pc := 0) C dX11_mend_0 0 rfl ?_
  refine g_get (pc := 1) C (j := 0) hO rfl rfl (by decide) u_852 dX11_mend_1 ?_
  refine g_bipush (pc := 4) C dX11_mend_4 (v := nI 16) rfl ?_
  refine g_iload_n (pc := 6) C dX11_mend_6 1 rfl ?_
  refine g_iadd (pc := 7) C dX11_mend_7 (z := nI (16 + r)) (nI_add _ _) ?_
  refine g_iald (pc := 8) C hZ (nI_clamp (by omega)) (nI_in0 (n := 10511) (by omega) (by omega)) dX11_mend_8 (x := nI (nAc (gN σ r)).length) (RZ.rAn hR (r := r) (by omega) (by omega)) ?_
  refine g_aload_n (pc := 9) C dX11_mend_9 0 rfl ?_
  refine g_get (pc := 10) C (j := 1) hO rfl rfl (by decide) u_853 dX11_mend_10 ?_
  refine g_icmp_eq (pc := 13) C dX11_mend_13 (tgt := 28) (by decide) (fun c_13 => ?_) (fun c_13 => ?_)
  ·
    have c_13 : (nAc (gN σ r)).length = (gZ σ).1 := (nI_eq (by omega) (by omega)).mp c_13
    exact g_vret (pc := 28) C R ⟨rfl, rfl, rfl, ⟨Z, hZ, by rw [mnd_no (Or.inl (by omega))]; exact hR⟩, ⟨_, hl4⟩, FrZ.rf⟩ (by decide) (by decide) dX11_mend_28
  ·
    have c_13 : ¬ (nAc (gN σ r)).length = (gZ σ).1 := fun h => c_13 ((nI_eq (a := (nAc (gN σ r)).length) (b := (gZ σ).1) (by omega) (by omega)).mpr h)
    refine g_aload_n (pc := 16) C dX11_mend_16 0 rfl ?_
    refine g_get (pc := 17) C (j := 0) hO rfl rfl (by decide) u_852 dX11_mend_17 ?_
    refine g_bipush (pc := 20) C dX11_mend_20 (v := nI 48) rfl ?_
    refine g_iload_n (pc := 22) C dX11_mend_22 1 rfl ?_
    refine g_iadd (pc := 23) C dX11_mend_23 (z := nI (48 + r)) (nI_add _ _) ?_
    refine g_iald (pc := 24) C hZ (nI_clamp (by omega)) (nI_in0 (n := 10511) (by omega) (by omega)) dX11_mend_24 (x := onv (nAs (gN σ r))) (RZ.rAs hR (r := r) (by omega) (by omega)) ?_
    refine g_if_lt (pc := 25) C dX11_mend_25 (tgt := 29) (by decide) (fun c_25 => ?_) (fun c_25 => ?_)
    ·
      have c_25 := (onv_lt hs16).mp c_25
      refine g_iconst (pc := 29) C dX11_mend_29 (v := nI 0) rfl ?_
      refine g_istore_n (pc := 30) C dX11_mend_30 (by decide) (lv' := [(0, .ref (A m)), (1, .int (nI r)), (2, .int (nI 0))]) [1, 2, 0] rfl ?_
      refine g_iconst (pc := 31) C dX11_mend_31 (v := nI 0) rfl ?_
      refine g_istore_n (pc := 32) C dX11_mend_32 (by decide) (lv' := [(0, .ref (A m)), (1, .int (nI r)), (2, .int (nI 0)), (3, .int (nI 0))]) [1, 2, 3, 0] rfl ?_
      have lp_33 : ∀ (fuel : Nat) (gm33 : pM) (hm33 : Fr g gm33 (m + 4) (m + 5)) (k : Nat) (hk : k ≤ (nPa (gN σ r)).length) (hs33 : SO gm33 (m + 4) 16 (mpl (nAk (gN σ r)) ((nPa (gN σ r)).take k))), (nPa (gN σ r)).length - k < fuel → V K 0 0 P A gm33 [(0, .ref (A m)), (1, .int (nI r)), (2, .int (nI (mpl (nAk (gN σ r)) ((nPa (gN σ r)).take k)).length)), (3, .int (nI k))] 33 [] := by
        intro fuel
        induction fuel with
        | zero => intro gm33 hm33 k hk hs33 hμ; exact absurd hμ (Nat.not_lt_zero _)
        | succ fuel ih =>
          intro gm33 hm33 k hk hs33 hμ
          have h_1 := hm33.at (by omega) hO
          have h_2 := hm33.at (by omega) hZ
          have hp_3 := MC.fr hC hm33 (by omega)
          have hp_4 := SO.fr hl3 hm33 (by omega)
          obtain ⟨hs0, rs, hs1, hs2⟩ := hs33
          have hwl := mpl_le (nAk (gN σ r)) (nPa (gN σ r)) k
          refine g_iload_n (pc := 33) C dX11_mend_33 3 rfl ?_
          refine g_aload_n (pc := 34) C dX11_mend_34 0 rfl ?_
          refine g_get (pc := 35) C (j := 0) h_1 rfl rfl (by decide) u_852 dX11_mend_35 ?_
          refine g_bipush (pc := 38) C dX11_mend_38 (v := nI 32) rfl ?_
          refine g_iload_n (pc := 40) C dX11_mend_40 1 rfl ?_
          refine g_iadd (pc := 41) C dX11_mend_41 (z := nI (32 + r)) (nI_add _ _) ?_
          refine g_iald (pc := 42) C h_2 (nI_clamp (by omega)) (nI_in0 (n := 10511) (by omega) (by omega)) dX11_mend_42 (x := nI (nPa (gN σ r)).length) (RZ.rPn hR (r := r) (by omega) (by omega)) ?_
          refine g_icmp_ge (pc := 43) C dX11_mend_43 (tgt := 97) (by decide) (fun c_43 => ?_) (fun c_43 => ?_)
          ·
            have c_43 : (nPa (gN σ r)).length ≤ k := (nI_leI (by omega) (by omega)).mp c_43
            have hfull : (nPa (gN σ r)).take k = nPa (gN σ r) := List.take_of_length_le (by omega)
            rw [hfull] at hs2 hwl hs0
            have hs33 : SO gm33 (m + 4) 16 (mpl (nAk (gN σ r)) (nPa (gN σ r))) := ⟨hs0, rs, hs1, hs2⟩
            rw [hfull]
            refine g_iload_n (pc := 97) C dX11_mend_97 2 rfl ?_
            refine g_if_ne (pc := 98) C dX11_mend_98 (tgt := 112) (by decide) (fun c_98 => ?_) (fun c_98 => ?_)
            ·
              have c_98 : ¬ (mpl (nAk (gN σ r)) (nPa (gN σ r))).length = 0 := fun h => c_98 ((nI_eq (a := (mpl (nAk (gN σ r)) (nPa (gN σ r))).length) (b := 0) (by omega) (by omega)).mpr h)
              refine g_aload_n (pc := 112) C dX11_mend_112 0 rfl ?_
              refine g_get (pc := 113) C (j := 10) h_1 rfl rfl (by decide) u_862 dX11_mend_113 ?_
              refine g_aload_n (pc := 116) C dX11_mend_116 0 rfl ?_
              refine g_iload_n (pc := 117) C dX11_mend_117 2 rfl ?_
              refine g_callV (pc := 118) C (As := [.int (nI (mpl (nAk (gN σ r)) (nPa (gN σ r))).length)]) (rest := [.ref (A (m + 4))]) (b := m) (c_X11_draw A P gm33 m (mpl (nAk (gN σ r)) (nPa (gN σ r))).length (by omega) (by omega) hp_3 hS.nx h_1 h_2 hR) h_1 rfl rfl Y_X11_draw u_973 N_X11_draw ⟨by decide, by decide⟩ ⟨by decide, by decide⟩ (Nat.le_of_ble_eq_true rfl) rfl dX11_mend_118 ?_
              rintro _ _ _ g_5 ⟨rfl, rfl, rfl, ⟨Z_6, hZ_6, hR_7⟩, hf_8⟩
              have h_9 := hf_8.at (by omega) h_1
              have h_10 := hf_8.at (by omega) hs1
              have hp_11 := MC.fr hp_3 hf_8 (by omega)
              have hp_12 := SO.fr hp_4 hf_8 (by omega)
              have hp_13 := SO.fr hs33 hf_8 (by omega)
              obtain ⟨σ14, hσ14⟩ : ∃ sM : Sg, sM = dS cs σ (mpl (nAk (gN σ r)) (nPa (gN σ r))).length := ⟨_, rfl⟩
              rw [← hσ14] at hR_7
              have hK_σ14 : gK σ14 = gK σ := (congrArg gK hσ14).trans (dS_K.trans (rfl : gK σ = gK σ))
              have hT_σ14 : gT σ14 = gT σ := (congrArg gT hσ14).trans (dS_T.trans (rfl : gT σ = gT σ))
              have hZ_σ14 : gZ σ14 = gZ σ := (congrArg gZ hσ14).trans (dS_Z.trans (rfl : gZ σ = gZ σ))
              have hS_σ14 : SW B cs σ14 := by rw [hσ14]; exact hS.drw
              have hN_σ14 : gN σ14 = gN σ := (congrArg gN hσ14).trans dS_N
              have hd_σ14 := dI_lt (cs := cs) (σ := σ) (n := (mpl (nAk (gN σ r)) (nPa (gN σ r))).length) (by omega)
              show V K 0 0 P A g_5 [(0, .ref (A m)), (1, .int (nI r)), (2, .int (nI (mpl (nAk (gN σ r)) (nPa (gN σ r))).length)), (3, .int (nI k))] 121 [.int (nI (dI cs σ (mpl (nAk (gN σ r)) (nPa (gN σ r))).length)), .ref (A (m + 4))]
              have hv : dpV cs σ (mpl (nAk (gN σ r)) (nPa (gN σ r))) = some ((mpl (nAk (gN σ r)) (nPa (gN σ r))).getD (dI cs σ (mpl (nAk (gN σ r)) (nPa (gN σ r))).length) 0) := dpV_some (by omega)
              have hqm : (mpl (nAk (gN σ r)) (nPa (gN σ r))).getD (dI cs σ (mpl (nAk (gN σ r)) (nPa (gN σ r))).length) 0 ∈ nPa (gN σ r) := mpl_mem (getD_mem (by omega))
              have hqK := hn.2.2.1 _ hqm
              refine g_iald (pc := 121) C h_10 (nI_clamp (by omega)) (nI_in0 (by omega) (by omega)) dX11_mend_121 (x := nI ((mpl (nAk (gN σ r)) (nPa (gN σ r))).getD (dI cs σ (mpl (nAk (gN σ r)) (nPa (gN σ r))).length) 0)) (hs2 _ (by omega)) ?_
              refine g_istore_n (pc := 122) C dX11_mend_122 (by decide) (lv' := [(0, .ref (A m)), (1, .int (nI r)), (2, .int (nI (mpl (nAk (gN σ r)) (nPa (gN σ r))).length)), (3, .int (nI ((mpl (nAk (gN σ r)) (nPa (gN σ r))).getD (dI cs σ (mpl (nAk (gN σ r)) (nPa (gN σ r))).length) 0)))]) [1, 2, 3, 0] rfl ?_
              refine g_aload_n (pc := 123) C dX11_mend_123 0 rfl ?_
              refine g_get (pc := 124) C (j := 0) h_9 rfl rfl (by decide) u_852 dX11_mend_124 ?_
              refine g_bipush (pc := 127) C dX11_mend_127 (v := nI 48) rfl ?_
              refine g_iload_n (pc := 129) C dX11_mend_129 1 rfl ?_
              refine g_iadd (pc := 130) C dX11_mend_130 (z := nI (48 + r)) (nI_add _ _) ?_
              refine g_iload_n (pc := 131) C dX11_mend_131 3 rfl ?_
              refine g_iast (pc := 132) C hZ_6 (nI_clamp (by omega)) (nI_in0 (n := 10511) (by omega) (by omega)) dX11_mend_132 ?_
              obtain ⟨Z_15, hZ_15⟩ : ∃ yZ : Nat → Int32, yZ = upd Z_6 (48 + r) (nI ((mpl (nAk (gN σ r)) (nPa (gN σ r))).getD (dI cs σ (mpl (nAk (gN σ r)) (nPa (gN σ r))).length) 0)) := ⟨_, rfl⟩
              show V K 0 0 P A (va_up g_5 (m + 1) (ai 0 10511 (upd Z_6 (48 + r) (nI ((mpl (nAk (gN σ r)) (nPa (gN σ r))).getD (dI cs σ (mpl (nAk (gN σ r)) (nPa (gN σ r))).length) 0))))) [(0, .ref (A m)), (1, .int (nI r)), (2, .int (nI (mpl (nAk (gN σ r)) (nPa (gN σ r))).length)), (3, .int (nI ((mpl (nAk (gN σ r)) (nPa (gN σ r))).getD (dI cs σ (mpl (nAk (gN σ r)) (nPa (gN σ r))).length) 0)))] 133 []
              rw [← hZ_15]
              obtain ⟨g_16, hg_16⟩ : ∃ yM : pM, yM = va_up g_5 (m + 1) (ai 0 10511 Z_15) := ⟨_, rfl⟩
              show V K 0 0 P A (va_up g_5 (m + 1) (ai 0 10511 Z_15)) [(0, .ref (A m)), (1, .int (nI r)), (2, .int (nI (mpl (nAk (gN σ r)) (nPa (gN σ r))).length)), (3, .int (nI ((mpl (nAk (gN σ r)) (nPa (gN σ r))).getD (dI cs σ (mpl (nAk (gN σ r)) (nPa (gN σ r))).length) 0)))] 133 []
              rw [← hg_16]
              have h_17 : g_16 m = ob 11 [.ref (A (m + 1)), .int (nI (gZ σ).1), .int (nI (gZ σ).2.1), .int (nI (gZ σ).2.2.1), .int (nI (gZ σ).2.2.2.1), .int (nI (gZ σ).2.2.2.2), .ref (A (m + 2)), .int (nI cs.length), .ref (A (m + 3)), .int (nI lm), .ref (A (m + 4)), .ref (A (m + 5)), .int (nI gm), .ref (A (m + 6)), .ref (A (m + 7)), .ref (A (m + 8))] := by rw [hg_16, va_up_ne _ _ (show m ≠ m + 1 from by omega)]; exact h_9
              have h_18 : g_16 (m + 4) = ai 0 16 rs := by rw [hg_16, va_up_ne _ _ (show m + 4 ≠ m + 1 from by omega)]; exact h_10
              have h_19 : g_16 (m + 1) = ai 0 10511 Z_15 := by rw [hg_16]; exact va_up_self _ _ _
              have hf_20 : Fr g_5 g_16 (m + 1) (m + 1 + 1) := by rw [hg_16]; exact Fr.up (by omega) (by omega)
              have hp_21 := MC.fr hp_11 hf_20 (by omega)
              have hp_22 := SO.fr hp_12 hf_20 (by omega)
              have hp_23 := SO.fr hp_13 hf_20 (by omega)
              have hR_24 : RZ Z_15 (asS σ14 r (some ((mpl (nAk (gN σ r)) (nPa (gN σ r))).getD (dI cs σ (mpl (nAk (gN σ r)) (nPa (gN σ r))).length) 0))) := RZ.wAs (o := some _) hR_7 (by omega) hZ_15
              obtain ⟨σ25, hσ25⟩ : ∃ sM : Sg, sM = asS σ14 r (some ((mpl (nAk (gN σ r)) (nPa (gN σ r))).getD (dI cs σ (mpl (nAk (gN σ r)) (nPa (gN σ r))).length) 0)) := ⟨_, rfl⟩
              rw [← hσ25] at hR_24
              have hK_σ25 : gK σ25 = gK σ := (congrArg gK hσ25).trans hK_σ14
              have hT_σ25 : gT σ25 = gT σ := (congrArg gT hσ25).trans hT_σ14
              have hZ_σ25 : gZ σ25 = gZ σ := (congrArg gZ hσ25).trans hZ_σ14
              refine g_aload_n (pc := 133) C dX11_mend_133 0 rfl ?_
              refine g_iload_n (pc := 134) C dX11_mend_134 1 rfl ?_
              refine g_iload_n (pc := 135) C dX11_mend_135 3 rfl ?_
              refine g_iconst (pc := 136) C dX11_mend_136 (v := nI 5) rfl ?_
              refine g_aload_n (pc := 137) C dX11_mend_137 0 rfl ?_
              refine g_get (pc := 138) C (j := 0) h_17 rfl rfl (by decide) u_852 dX11_mend_138 ?_
              refine g_bipush (pc := 141) C dX11_mend_141 (v := nI 16) rfl ?_
              refine g_iload_n (pc := 143) C dX11_mend_143 1 rfl ?_
              refine g_iadd (pc := 144) C dX11_mend_144 (z := nI (16 + r)) (nI_add _ _) ?_
              have hAe : (nAc (gN σ25 r)).length = (nAc (gN σ r)).length := by rw [hσ25]; simp only [asS, gN_self]; rw [hN_σ14]
              refine g_iald (pc := 145) C h_19 (nI_clamp (by omega)) (nI_in0 (n := 10511) (by omega) (by omega)) dX11_mend_145 (x := nI (nAc (gN σ25 r)).length) (RZ.rAn hR_24 (r := r) (by omega) (by omega)) ?_
              refine g_if_ne (pc := 146) C dX11_mend_146 (tgt := 153) (by decide) (fun c_146 => ?_) (fun c_146 => ?_)
              ·
                have c_146 : ¬ (nAc (gN σ25 r)).length = 0 := fun h => c_146 ((nI_eq (a := (nAc (gN σ25 r)).length) (b := 0) (by omega) (by omega)).mpr h)
                refine g_iconst (pc := 153) C dX11_mend_153 (v := nI 0) rfl ?_
                refine g_iconst (pc := 154) C dX11_mend_154 (v := nI 0) rfl ?_
                refine g_callV (pc := 155) C (As := [.int (nI r), .int (nI ((mpl (nAk (gN σ r)) (nPa (gN σ r))).getD (dI cs σ (mpl (nAk (gN σ r)) (nPa (gN σ r))).length) 0)), .int (nI 5), .int (nI 0), .int (nI 0)]) (rest := []) (b := m) (c_X11_send A P g_16 m r ((mpl (nAk (gN σ r)) (nPa (gN σ r))).getD (dI cs σ (mpl (nAk (gN σ r)) (nPa (gN σ r))).length) 0) 5 0 0 hp_22 (by omega) (by rw [hZ_σ25]; exact h_17) h_19 hR_24) h_17 rfl rfl Y_X11_send u_933 N_X11_send ⟨by decide, by decide⟩ ⟨by decide, by decide⟩ (Nat.le_of_ble_eq_true rfl) rfl dX11_mend_155 ?_
                rintro _ _ _ g_26 ⟨rfl, rfl, rfl, ⟨Z_27, hZ_27, hR_28⟩, hf_29⟩
                have h_30 := hf_29.at (by omega) h_17
                have h_31 := hf_29.at (by omega) h_18
                have hp_32 := MC.fr hp_21 hf_29 (by omega)
                have hp_33 := SO.fr hp_22 hf_29 (by omega)
                have hp_34 := SO.fr hp_23 hf_29 (by omega)
                obtain ⟨σ35, hσ35⟩ : ∃ sM : Sg, sM = snd σ25 r ((mpl (nAk (gN σ r)) (nPa (gN σ r))).getD (dI cs σ (mpl (nAk (gN σ r)) (nPa (gN σ r))).length) 0) 5 0 0 [] := ⟨_, rfl⟩
                rw [← hσ35] at hR_28
                have hK_σ35 : gK σ35 = gK σ := (congrArg gK hσ35).trans (snd_K.trans hK_σ25)
                have hT_σ35 : gT σ35 = gT σ := (congrArg gT hσ35).trans (snd_T.trans hT_σ25)
                have hZ_σ35 : gZ σ35 = gZ σ := (congrArg gZ hσ35).trans (snd_Z.trans hZ_σ25)
                show V K 0 0 P A g_26 [(0, .ref (A m)), (1, .int (nI r)), (2, .int (nI (mpl (nAk (gN σ r)) (nPa (gN σ r))).length)), (3, .int (nI ((mpl (nAk (gN σ r)) (nPa (gN σ r))).getD (dI cs σ (mpl (nAk (gN σ r)) (nPa (gN σ r))).length) 0)))] 158 []
                exact g_vret (pc := 158) C R ⟨rfl, rfl, rfl, ⟨_, hZ_27, by rw [mnd_1 (fun z => by rcases z with z | z; exact c_13 (by omega); exact z c_25) hv ((if_neg (by rw [hAe] at c_146; exact c_146)).symm) hσ14 hσ25 hσ35]; exact hR_28⟩, ⟨_, hp_34⟩, fun k hk1 hk2 => by rw [hf_29 k (by omega), hg_16, va_up_ne _ _ (by omega), hf_8 k (by omega), hm33 k (by omega)]⟩ (by decide) (by decide) dX11_mend_158
              ·
                have c_146 : (nAc (gN σ25 r)).length = 0 := (nI_eq (by omega) (by omega)).mp c_146
                refine g_iconst (pc := 149) C dX11_mend_149 (v := nI 1) rfl ?_
                refine g_goto (pc := 150) C dX11_mend_150 (tgt := 154) (by decide) ?_
                refine g_iconst (pc := 154) C dX11_mend_154 (v := nI 0) rfl ?_
                refine g_callV (pc := 155) C (As := [.int (nI r), .int (nI ((mpl (nAk (gN σ r)) (nPa (gN σ r))).getD (dI cs σ (mpl (nAk (gN σ r)) (nPa (gN σ r))).length) 0)), .int (nI 5), .int (nI 1), .int (nI 0)]) (rest := []) (b := m) (c_X11_send A P g_16 m r ((mpl (nAk (gN σ r)) (nPa (gN σ r))).getD (dI cs σ (mpl (nAk (gN σ r)) (nPa (gN σ r))).length) 0) 5 1 0 hp_22 (by omega) (by rw [hZ_σ25]; exact h_17) h_19 hR_24) h_17 rfl rfl Y_X11_send u_933 N_X11_send ⟨by decide, by decide⟩ ⟨by decide, by decide⟩ (Nat.le_of_ble_eq_true rfl) rfl dX11_mend_155 ?_
                rintro _ _ _ g_36 ⟨rfl, rfl, rfl, ⟨Z_37, hZ_37, hR_38⟩, hf_39⟩
                have h_40 := hf_39.at (by omega) h_17
                have h_41 := hf_39.at (by omega) h_18
                have hp_42 := MC.fr hp_21 hf_39 (by omega)
                have hp_43 := SO.fr hp_22 hf_39 (by omega)
                have hp_44 := SO.fr hp_23 hf_39 (by omega)
                obtain ⟨σ45, hσ45⟩ : ∃ sM : Sg, sM = snd σ25 r ((mpl (nAk (gN σ r)) (nPa (gN σ r))).getD (dI cs σ (mpl (nAk (gN σ r)) (nPa (gN σ r))).length) 0) 5 1 0 [] := ⟨_, rfl⟩
                rw [← hσ45] at hR_38
                have hK_σ45 : gK σ45 = gK σ := (congrArg gK hσ45).trans (snd_K.trans hK_σ25)
                have hT_σ45 : gT σ45 = gT σ := (congrArg gT hσ45).trans (snd_T.trans hT_σ25)
                have hZ_σ45 : gZ σ45 = gZ σ := (congrArg gZ hσ45).trans (snd_Z.trans hZ_σ25)
                show V K 0 0 P A g_36 [(0, .ref (A m)), (1, .int (nI r)), (2, .int (nI (mpl (nAk (gN σ r)) (nPa (gN σ r))).length)), (3, .int (nI ((mpl (nAk (gN σ r)) (nPa (gN σ r))).getD (dI cs σ (mpl (nAk (gN σ r)) (nPa (gN σ r))).length) 0)))] 158 []
                exact g_vret (pc := 158) C R ⟨rfl, rfl, rfl, ⟨_, hZ_37, by rw [mnd_1 (fun z => by rcases z with z | z; exact c_13 (by omega); exact z c_25) hv ((if_pos (by rw [hAe] at c_146; exact c_146)).symm) hσ14 hσ25 hσ45]; exact hR_38⟩, ⟨_, hp_44⟩, fun k hk1 hk2 => by rw [hf_39 k (by omega), hg_16, va_up_ne _ _ (by omega), hf_8 k (by omega), hm33 k (by omega)]⟩ (by decide) (by decide) dX11_mend_158
            ·
              have c_98 : (mpl (nAk (gN σ r)) (nPa (gN σ r))).length = 0 := (nI_eq (by omega) (by omega)).mp c_98
              refine g_aload_n (pc := 101) C dX11_mend_101 0 rfl ?_
              refine g_get (pc := 102) C (j := 0) h_1 rfl rfl (by decide) u_852 dX11_mend_102 ?_
              refine g_bipush (pc := 105) C dX11_mend_105 (v := nI 64) rfl ?_
              refine g_iload_n (pc := 107) C dX11_mend_107 1 rfl ?_
              refine g_iadd (pc := 108) C dX11_mend_108 (z := nI (64 + r)) (nI_add _ _) ?_
              refine g_iconst (pc := 109) C dX11_mend_109 (v := nI 0) rfl ?_
              refine g_iast (pc := 110) C h_2 (nI_clamp (by omega)) (nI_in0 (n := 10511) (by omega) (by omega)) dX11_mend_110 ?_
              obtain ⟨Z_46, hZ_46⟩ : ∃ yZ : Nat → Int32, yZ = upd Z (64 + r) (nI 0) := ⟨_, rfl⟩
              show V K 0 0 P A (va_up gm33 (m + 1) (ai 0 10511 (upd Z (64 + r) (nI 0)))) [(0, .ref (A m)), (1, .int (nI r)), (2, .int (nI (mpl (nAk (gN σ r)) (nPa (gN σ r))).length)), (3, .int (nI k))] 111 []
              rw [← hZ_46]
              obtain ⟨g_47, hg_47⟩ : ∃ yM : pM, yM = va_up gm33 (m + 1) (ai 0 10511 Z_46) := ⟨_, rfl⟩
              show V K 0 0 P A (va_up gm33 (m + 1) (ai 0 10511 Z_46)) [(0, .ref (A m)), (1, .int (nI r)), (2, .int (nI (mpl (nAk (gN σ r)) (nPa (gN σ r))).length)), (3, .int (nI k))] 111 []
              rw [← hg_47]
              have h_48 : g_47 m = ob 11 [.ref (A (m + 1)), .int (nI (gZ σ).1), .int (nI (gZ σ).2.1), .int (nI (gZ σ).2.2.1), .int (nI (gZ σ).2.2.2.1), .int (nI (gZ σ).2.2.2.2), .ref (A (m + 2)), .int (nI cs.length), .ref (A (m + 3)), .int (nI lm), .ref (A (m + 4)), .ref (A (m + 5)), .int (nI gm), .ref (A (m + 6)), .ref (A (m + 7)), .ref (A (m + 8))] := by rw [hg_47, va_up_ne _ _ (show m ≠ m + 1 from by omega)]; exact h_1
              have h_49 : g_47 (m + 1) = ai 0 10511 Z_46 := by rw [hg_47]; exact va_up_self _ _ _
              have h_50 : g_47 (m + 4) = ai 0 16 rs := by rw [hg_47, va_up_ne _ _ (show m + 4 ≠ m + 1 from by omega)]; exact hs1
              have hf_51 : Fr gm33 g_47 (m + 1) (m + 1 + 1) := by rw [hg_47]; exact Fr.up (by omega) (by omega)
              have hp_52 := MC.fr hp_3 hf_51 (by omega)
              have hp_53 := SO.fr hp_4 hf_51 (by omega)
              have hp_54 := SO.fr hs33 hf_51 (by omega)
              exact g_vret (pc := 111) C R ⟨rfl, rfl, rfl, ⟨_, h_49, by rw [mnd_0 (fun z => by rcases z with z | z; exact c_13 (by omega); exact z c_25) (show dpV cs σ (mpl (nAk (gN σ r)) (nPa (gN σ r))) = none from if_pos c_98) (show σ = dS cs σ (mpl (nAk (gN σ r)) (nPa (gN σ r))).length from by rw [c_98, dS_0]) rfl]; exact RZ.wAk hR (by omega) hZ_46⟩, ⟨_, hp_54⟩, fun k hk1 hk2 => by rw [hg_47, va_up_ne _ _ (by omega), hm33 k (by omega)]⟩ (by decide) (by decide) dX11_mend_111
          ·
            have c_43 : ¬ (nPa (gN σ r)).length ≤ k := fun h => c_43 ((nI_leI (a := (nPa (gN σ r)).length) (b := k) (by omega) (by omega)).mpr h)
            have hlt : k < (nPa (gN σ r)).length := by omega
            have hv16 := getD_lt (i := k) hp16
            refine g_aload_n (pc := 46) C dX11_mend_46 0 rfl ?_
            refine g_get (pc := 47) C (j := 0) h_1 rfl rfl (by decide) u_852 dX11_mend_47 ?_
            refine g_sipush (pc := 50) C dX11_mend_50 (v := nI 256) rfl ?_
            refine g_bipush (pc := 53) C dX11_mend_53 (v := nI 8) rfl ?_
            refine g_iload_n (pc := 55) C dX11_mend_55 1 rfl ?_
            refine g_imul (pc := 56) C dX11_mend_56 (z := nI (8 * r)) (pk_mul _ _) ?_
            refine g_iadd (pc := 57) C dX11_mend_57 (z := nI (256 + 8 * r)) (nI_add _ _) ?_
            refine g_iload_n (pc := 58) C dX11_mend_58 3 rfl ?_
            refine g_iadd (pc := 59) C dX11_mend_59 (z := nI (256 + 8 * r + k)) (nI_add _ _) ?_
            refine g_iald (pc := 60) C h_2 (nI_clamp (by omega)) (nI_in0 (n := 10511) (by omega) (by omega)) dX11_mend_60 (x := nI ((nPa (gN σ r)).getD k 0)) (RZ.rPa hR (r := r) (k := k) (by omega) (by omega) (by omega)) ?_
            refine g_istore (pc := 61) C dX11_mend_61 (by decide) (lv' := [(0, .ref (A m)), (1, .int (nI r)), (2, .int (nI (mpl (nAk (gN σ r)) ((nPa (gN σ r)).take k)).length)), (3, .int (nI k)), (4, .int (nI ((nPa (gN σ r)).getD k 0)))]) [1, 2, 3, 4, 0] rfl ?_
            refine g_aload_n (pc := 63) C dX11_mend_63 0 rfl ?_
            refine g_get (pc := 64) C (j := 0) h_1 rfl rfl (by decide) u_852 dX11_mend_64 ?_
            refine g_bipush (pc := 67) C dX11_mend_67 (v := nI 64) rfl ?_
            refine g_iload_n (pc := 69) C dX11_mend_69 1 rfl ?_
            refine g_iadd (pc := 70) C dX11_mend_70 (z := nI (64 + r)) (nI_add _ _) ?_
            refine g_iald (pc := 71) C h_2 (nI_clamp (by omega)) (nI_in0 (n := 10511) (by omega) (by omega)) dX11_mend_71 (x := nI (nAk (gN σ r))) (RZ.rAk hR (r := r) (by omega) (by omega)) ?_
            refine g_iload (pc := 72) C dX11_mend_72 4 rfl ?_
            refine g_ishr (pc := 74) C dX11_mend_74 (z := (nI (nAk (gN σ r))) >>> ((nI ((nPa (gN σ r)).getD k 0)) &&& 31)) rfl ?_
            refine g_iconst (pc := 75) C dX11_mend_75 (v := nI 1) rfl ?_
            refine g_iand (pc := 76) C dX11_mend_76 (z := b32 ((nAk (gN σ r)).testBit ((nPa (gN σ r)).getD k 0))) (shr_bit hn.1.2 (by omega)) ?_
            refine g_if_ne (pc := 77) C dX11_mend_77 (tgt := 91) (by decide) (fun c_77 => ?_) (fun c_77 => ?_)
            ·
              have c_77 : ((nAk (gN σ r)).testBit ((nPa (gN σ r)).getD k 0)) = true := b32_no c_77
              have hw : mpl (nAk (gN σ r)) ((nPa (gN σ r)).take (k + 1)) = (mpl (nAk (gN σ r)) ((nPa (gN σ r)).take k)) := by rw [mpl_s hlt, if_pos c_77]
              rw [← hw]
              refine g_iinc (pc := 91) C dX11_mend_91 (by decide) 3 rfl (v := nI (k + 1)) (nI_i1 _) (lv' := [(0, .ref (A m)), (1, .int (nI r)), (2, .int (nI (mpl (nAk (gN σ r)) ((nPa (gN σ r)).take (k + 1))).length)), (3, .int (nI (k + 1))), (4, .int (nI ((nPa (gN σ r)).getD k 0)))]) [1, 2, 3, 0, 4] rfl ?_
              refine g_goto (pc := 94) C dX11_mend_94 (tgt := 33) (by decide) ?_
              refine g_sub [0, 1, 2, 3] rfl ?_
              exact ih gm33 hm33 (k + 1) (by omega) (by rw [hw]; exact ⟨hs0, rs, hs1, hs2⟩) (by omega)
            ·
              have c_77 : ((nAk (gN σ r)).testBit ((nPa (gN σ r)).getD k 0)) = false := b32_yes c_77
              have hw : mpl (nAk (gN σ r)) ((nPa (gN σ r)).take (k + 1)) = (mpl (nAk (gN σ r)) ((nPa (gN σ r)).take k)) ++ [(nPa (gN σ r)).getD k 0] := by rw [mpl_s hlt, if_neg (by rw [c_77]; decide)]
              have hw2 : (mpl (nAk (gN σ r)) ((nPa (gN σ r)).take (k + 1))).length = (mpl (nAk (gN σ r)) ((nPa (gN σ r)).take k)).length + 1 := by rw [hw, List.length_append]; rfl
              refine g_aload_n (pc := 80) C dX11_mend_80 0 rfl ?_
              refine g_get (pc := 81) C (j := 10) h_1 rfl rfl (by decide) u_862 dX11_mend_81 ?_
              refine g_iload_n (pc := 84) C dX11_mend_84 2 rfl ?_
              refine g_iload (pc := 85) C dX11_mend_85 4 rfl ?_
              refine g_iast (pc := 87) C hs1 (nI_clamp (by omega)) (nI_in0 (n := 16) (by omega) (by omega)) dX11_mend_87 ?_
              obtain ⟨g_55, hg_55⟩ : ∃ yM : pM, yM = va_up gm33 (m + 4) (ai 0 16 (upd rs (mpl (nAk (gN σ r)) ((nPa (gN σ r)).take k)).length (nI ((nPa (gN σ r)).getD k 0)))) := ⟨_, rfl⟩
              show V K 0 0 P A (va_up gm33 (m + 4) (ai 0 16 (upd rs (mpl (nAk (gN σ r)) ((nPa (gN σ r)).take k)).length (nI ((nPa (gN σ r)).getD k 0))))) [(0, .ref (A m)), (1, .int (nI r)), (2, .int (nI (mpl (nAk (gN σ r)) ((nPa (gN σ r)).take k)).length)), (3, .int (nI k)), (4, .int (nI ((nPa (gN σ r)).getD k 0)))] 88 []
              rw [← hg_55]
              have h_56 : g_55 m = ob 11 [.ref (A (m + 1)), .int (nI (gZ σ).1), .int (nI (gZ σ).2.1), .int (nI (gZ σ).2.2.1), .int (nI (gZ σ).2.2.2.1), .int (nI (gZ σ).2.2.2.2), .ref (A (m + 2)), .int (nI cs.length), .ref (A (m + 3)), .int (nI lm), .ref (A (m + 4)), .ref (A (m + 5)), .int (nI gm), .ref (A (m + 6)), .ref (A (m + 7)), .ref (A (m + 8))] := by rw [hg_55, va_up_ne _ _ (show m ≠ m + 4 from by omega)]; exact h_1
              have h_57 : g_55 (m + 1) = ai 0 10511 Z := by rw [hg_55, va_up_ne _ _ (show m + 1 ≠ m + 4 from by omega)]; exact h_2
              have h_58 : g_55 (m + 4) = ai 0 16 (upd rs (mpl (nAk (gN σ r)) ((nPa (gN σ r)).take k)).length (nI ((nPa (gN σ r)).getD k 0))) := by rw [hg_55]; exact va_up_self _ _ _
              have hf_59 : Fr gm33 g_55 (m + 4) (m + 4 + 1) := by rw [hg_55]; exact Fr.up (by omega) (by omega)
              have hp_60 := MC.fr hp_3 hf_59 (by omega)
              have hp_61 := SO.fr hp_4 hf_59 (by omega)
              refine g_iinc (pc := 88) C dX11_mend_88 (by decide) 2 rfl (v := nI ((mpl (nAk (gN σ r)) ((nPa (gN σ r)).take k)).length + 1)) (nI_i1 _) (lv' := [(0, .ref (A m)), (1, .int (nI r)), (2, .int (nI ((mpl (nAk (gN σ r)) ((nPa (gN σ r)).take k)).length + 1))), (3, .int (nI k)), (4, .int (nI ((nPa (gN σ r)).getD k 0)))]) [1, 2, 0, 3, 4] rfl ?_
              refine g_iinc (pc := 91) C dX11_mend_91 (by decide) 3 rfl (v := nI (k + 1)) (nI_i1 _) (lv' := [(0, .ref (A m)), (1, .int (nI r)), (2, .int (nI ((mpl (nAk (gN σ r)) ((nPa (gN σ r)).take k)).length + 1))), (3, .int (nI (k + 1))), (4, .int (nI ((nPa (gN σ r)).getD k 0)))]) [1, 2, 3, 0, 4] rfl ?_
              refine g_goto (pc := 94) C dX11_mend_94 (tgt := 33) (by decide) ?_
              refine g_sub [0, 1, 2, 3] rfl ?_
              rw [← hw2]
              exact ih g_55 (hm33.tr (fun k hk => by rw [hg_55, va_up_ne _ _ (by omega)])) (k + 1) (by omega) (by rw [hw]; exact SO.push hs2 (by omega) h_58) (by omega)
      exact lp_33 (_ + 1) g Fr.rf 0 (Nat.zero_le _) hl4.nil (Nat.lt_succ_self _)
    ·
      have c_25 : ¬ nAs (gN σ r) = none := fun z => c_25 ((onv_lt hs16).mpr z)
      exact g_vret (pc := 28) C R ⟨rfl, rfl, rfl, ⟨Z, hZ, by rw [mnd_no (Or.inr c_25)]; exact hR⟩, ⟨_, hl4⟩, FrZ.rf⟩ (by decide) (by decide) dX11_mend_28
