-- PART 24: the reference: letters 1 to 8, 12
theorem nI_dec {n : Nat} (h : 0 < n) : nI n + Int32.ofInt (-1) = nI (n - 1) := by
  have e : Int32.ofInt (-1) = -(nI 1) := by decide
  rw [e, ← Int32.sub_eq_add_neg]
  exact pk_sub (a := n) (b := 1) h
theorem dpL_len {cs : List Nat} {σ : Sg} {l : List Nat} (h : 0 < l.length) : (dpL cs σ l).length = l.length - 1 := List.length_eraseIdx_of_lt (dI_lt h)
/-- all of l get a walk -/
def jnW (σ : Sg) (i s lw : Nat) (l : List Nat) : Sg := l.foldl (fun σ q => snd σ i q 2 s lw []) σ
theorem jnF_w {i s lw : Nat} {l : List Nat} : ∀ {σ : Sg}, jnF σ i s lw l = jnW σ i s lw (wof (some s) (some s) l) := by
  induction l with
  | nil => intro σ; rfl
  | cons a l ih =>
    intro σ
    by_cases e : a = s
    · have e1 : wof (some s) (some s) (a :: l) = wof (some s) (some s) l := by simp [wof, e]
      rw [e1, ← ih]
      show jnF (if a = s then σ else snd σ i a 2 s lw []) i s lw l = _
      rw [if_pos e]
    · have h : ¬ s = a := fun z => e z.symm
      have e1 : wof (some s) (some s) (a :: l) = a :: wof (some s) (some s) l := by simp [wof, h]
      rw [e1]
      show jnF (if a = s then σ else snd σ i a 2 s lw []) i s lw l = jnW (snd σ i a 2 s lw []) i s lw (wof (some s) (some s) l)
      rw [if_neg e]
      exact ih
theorem jnW_s {σ : Sg} {i s lw k : Nat} {l : List Nat} (h : k < l.length) : jnW σ i s lw (l.take (k + 1)) = snd (jnW σ i s lw (l.take k)) i (l.getD k 0) 2 s lw [] := foldl_tk h
theorem jnW_K {i s lw : Nat} {l : List Nat} : ∀ {σ : Sg}, gK (jnW σ i s lw l) = gK σ := by
  induction l with
  | nil => intro σ; rfl
  | cons a l ih => intro σ; exact ih.trans snd_K
theorem jnW_T {i s lw : Nat} {l : List Nat} : ∀ {σ : Sg}, gT (jnW σ i s lw l) = gT σ := by
  induction l with
  | nil => intro σ; rfl
  | cons a l ih => intro σ; exact ih.trans snd_T
theorem jnW_Z {i s lw : Nat} {l : List Nat} : ∀ {σ : Sg}, gZ (jnW σ i s lw l) = gZ σ := by
  induction l with
  | nil => intro σ; rfl
  | cons a l ih => intro σ; exact ih.trans snd_Z
theorem wlk_s {cs : List Nat} {σ σ1 σ2 : Sg} {i s x y q : Nat} (h : ¬ x = i) (h2 : ¬ y = 0) (h3 : ¬ (nAc (gN σ i)).length < 2) (e1 : σ1 = if y = (gZ σ).2.2.2.1 then nte cs σ i x else σ) (hv : dpV cs σ1 (wof (some s) (some x) (nAc (gN σ1 i))) = some q) (e2 : σ2 = dS cs σ1 (wof (some s) (some x) (nAc (gN σ1 i))).length) : wlk cs σ i s x y = snd σ2 i q 2 x (y - 1) [] := by
  subst e2 e1
  rw [wlk_b h (by omega) (by omega), wlk2_s hv]
theorem wlk_e {cs : List Nat} {σ σ1 : Sg} {i s x y : Nat} (h : ¬ x = i) (h2 : ¬ y = 0) (h3 : ¬ (nAc (gN σ i)).length < 2) (e1 : σ1 = if y = (gZ σ).2.2.2.1 then nte cs σ i x else σ) (hv : (wof (some s) (some x) (nAc (gN σ1 i))).length = 0) : wlk cs σ i s x y = wend cs σ1 i x := by
  subst e1
  rw [wlk_b h (by omega) (by omega), wlk2_n (show dpV cs _ _ = none from if_pos hv), hv, dS_0]
abbrev rm_X11_drawSome : Room := { frames := 2, cells := 0, slots := 0, locals := 46 }
theorem Y_X11_drawSome : pY yX11_drawSome cX11_drawSome 5 (Option.none : Option Jvm.ClassFile.FieldType) := ⟨u_983, us_13, u_13, u_984⟩
theorem N_X11_drawSome : yX11_drawSome.cls ≠ "java/lang/invoke/MethodHandle" ∧ yX11_drawSome.cls ≠ "java/lang/invoke/VarHandle" ∧ (parseMethodDescriptor yX11_drawSome.desc).map (fun d => d.parameters.length) = some 2 := by decide +kernel
set_option maxRecDepth 20000 in
set_option maxHeartbeats 4000000 in
theorem c_X11_drawSome (A : Nat → Nat) (P : List Nat) (g : pM) (m : Nat) {cs : List Nat} {gm : Nat} {Z : Nat → Int32} {σ : Sg} {B : Nat} (most : Nat) (p l : List Nat) (hp : SO g (m + 4) 16 p) (hl : SO g (m + 3) 5 l) (hcap : l.length + most ≤ 5) (hS : SW B cs σ) (hC : MC g m cs) (hO : g m = mOb A m (gZ σ) cs.length l.length gm) (hZ : g (m + 1) = ai 0 10511 Z) (hR : RZ Z σ) : PM yX11_drawSome cX11_drawSome 5 (Option.none : Option Jvm.ClassFile.FieldType) rm_X11_drawSome [.ref (A m), .int (nI p.length), .int (nI most)] P A g (fun v g' => v = none ∧ ∃ σ1 p1 l1, lfp cs most σ p l = (σ1, p1, l1) ∧ g' m = mOb A m (gZ σ) cs.length l1.length gm ∧ ZS g' m σ1 ∧ SO g' (m + 4) 16 p1 ∧ SO g' (m + 3) 5 l1 ∧ FrA g g' m) := by
  have hK := hR.k16
  have hp16 := hp.1
  refine px_intro (by decide +kernel) (Nat.le_of_ble_eq_true rfl) (fun K sz C R => ?_)
  show V K 0 0 P A g [(0, .ref (A m)), (1, .int (nI p.length)), (2, .int (nI most))] 0 []
  refine g_iload_n (pc := 0) C dX11_drawSome_0 1 rfl ?_
  refine g_istore_n (pc := 1) C dX11_drawSome_1 (by decide) (lv' := [(0, .ref (A m)), (1, .int (nI p.length)), (2, .int (nI most)), (3, .int (nI p.length))]) [1, 2, 3, 0] rfl ?_
  refine g_iconst (pc := 2) C dX11_drawSome_2 (v := nI 0) rfl ?_
  refine g_istore (pc := 3) C dX11_drawSome_3 (by decide) (lv' := [(0, .ref (A m)), (1, .int (nI p.length)), (2, .int (nI most)), (3, .int (nI p.length)), (4, .int (nI 0))]) [1, 2, 3, 4, 0] rfl ?_
  have lp_5 : ∀ (fuel : Nat) (gm5 : pM) (hm5 : FrA g gm5 m) (k : Nat) (σ1 : Sg) (p1 l1 : List Nat) (hi5 : lfp cs (most - k) σ1 p1 l1 = lfp cs most σ p l) (hk : k ≤ most) (hO5 : gm5 m = mOb A m (gZ σ) cs.length l1.length gm) (hz5 : ZS gm5 m σ1) (hp5 : SO gm5 (m + 4) 16 p1) (hl5 : SO gm5 (m + 3) 5 l1) (hS5 : SW B cs σ1) (hcap5 : l1.length + (most - k) ≤ 5) (hK5 : gK σ1 = gK σ) (hz51 : gZ σ1 = gZ σ) (hT5 : gT σ1 = gT σ), most - k < fuel → V K 0 0 P A gm5 [(0, .ref (A m)), (1, .int (nI p.length)), (2, .int (nI most)), (3, .int (nI p1.length)), (4, .int (nI k))] 5 [] := by
    intro fuel
    induction fuel with
    | zero => intro gm5 hm5 k σ1 p1 l1 hi5 hk hO5 hz5 hp5 hl5 hS5 hcap5 hK5 hz51 hT5 hμ; exact absurd hμ (Nat.not_lt_zero _)
    | succ fuel ih =>
      intro gm5 hm5 k σ1 p1 l1 hi5 hk hO5 hz5 hp5 hl5 hS5 hcap5 hK5 hz51 hT5 hμ
      have hp_1 := MC.fra hC hm5 (by omega)
      obtain ⟨Zl, hZl, hRl⟩ := hz5
      obtain ⟨hl5a, rl, hl5b, hl5c⟩ := hl5
      have hK1 := hRl.k16
      have hp5b := hp5.1
      refine g_iload (pc := 5) C dX11_drawSome_5 4 rfl ?_
      refine g_iload_n (pc := 7) C dX11_drawSome_7 2 rfl ?_
      refine g_icmp_ge (pc := 8) C dX11_drawSome_8 (tgt := 48) (by decide) (fun c_8 => ?_) (fun c_8 => ?_)
      ·
        have c_8 : most ≤ k := (nI_leI (by omega) (by omega)).mp c_8
        exact g_vret (pc := 48) C R ⟨rfl, rfl, rfl, σ1, p1, l1, hi5.symm.trans (by rw [show most - k = 0 by omega]; rfl), hO5, ⟨_, hZl, hRl⟩, hp5, ⟨hl5a, rl, hl5b, hl5c⟩, fun k hk => by rw [hm5 k (by omega)]⟩ (by decide) (by decide) dX11_drawSome_48
      ·
        have c_8 : ¬ most ≤ k := fun h => c_8 ((nI_leI (a := most) (b := k) (by omega) (by omega)).mpr h)
        refine g_iload_n (pc := 11) C dX11_drawSome_11 3 rfl ?_
        refine g_if_le (pc := 12) C dX11_drawSome_12 (tgt := 48) (by decide) (fun c_12 => ?_) (fun c_12 => ?_)
        ·
          have c_12 : p1.length ≤ 0 := (nI_leI (by omega) (by omega)).mp c_12
          exact g_vret (pc := 48) C R ⟨rfl, rfl, rfl, σ1, p1, l1, hi5.symm.trans (lfp_e (by omega)), hO5, ⟨_, hZl, hRl⟩, hp5, ⟨hl5a, rl, hl5b, hl5c⟩, fun k hk => by rw [hm5 k (by omega)]⟩ (by decide) (by decide) dX11_drawSome_48
        ·
          have c_12 : ¬ p1.length ≤ 0 := fun h => c_12 ((nI_leI (a := p1.length) (b := 0) (by omega) (by omega)).mpr h)
          refine g_aload_n (pc := 15) C dX11_drawSome_15 0 rfl ?_
          refine g_get (pc := 16) C (j := 8) hO5 rfl rfl (by decide) u_860 dX11_drawSome_16 ?_
          refine g_aload_n (pc := 19) C dX11_drawSome_19 0 rfl ?_
          refine g_get (pc := 20) C (j := 9) hO5 rfl rfl (by decide) u_861 dX11_drawSome_20 ?_
          refine g_aload_n (pc := 23) C dX11_drawSome_23 0 rfl ?_
          refine g_iload_n (pc := 24) C dX11_drawSome_24 3 rfl ?_
          refine g_callV (pc := 25) C (As := [.int (nI p1.length)]) (rest := [.int (nI l1.length), .ref (A (m + 3))]) (b := m) (c_X11_drawOut A P gm5 m p1 (by omega) hp5 hp_1 hS5.nx (by rw [hz51]; exact hO5) hZl hRl) hO5 rfl rfl Y_X11_drawOut u_985 N_X11_drawOut ⟨by decide, by decide⟩ ⟨by decide, by decide⟩ (Nat.le_of_ble_eq_true rfl) rfl dX11_drawSome_25 ?_
          rintro _ _ _ g_2 ⟨rfl, rfl, rfl, ⟨Z_3, hZ_3, hR_4⟩, hs_6, hf_5⟩
          have h_7 := hf_5.at (by omega) hO5
          have h_8 := hf_5.at (by omega) hl5b
          have hp_9 := MC.frz hp_1 hf_5 (by omega)
          obtain ⟨σ10, hσ10⟩ : ∃ sM : Sg, sM = dS cs σ1 p1.length := ⟨_, rfl⟩
          rw [← hσ10] at hR_4
          have hK_σ10 : gK σ10 = gK σ := (congrArg gK hσ10).trans (dS_K.trans hK5)
          have hT_σ10 : gT σ10 = gT σ := (congrArg gT hσ10).trans (dS_T.trans hT5)
          have hZ_σ10 : gZ σ10 = gZ σ := (congrArg gZ hσ10).trans (dS_Z.trans hz51)
          have hS_σ10 : SW B cs σ10 := by rw [hσ10]; exact hS5.drw
          have hN_σ10 : gN σ10 = gN σ1 := (congrArg gN hσ10).trans dS_N
          have hd_σ10 := dI_lt (cs := cs) (σ := σ1) (n := p1.length) (by omega)
          show V K 0 0 P A g_2 [(0, .ref (A m)), (1, .int (nI p.length)), (2, .int (nI most)), (3, .int (nI p1.length)), (4, .int (nI k))] 28 [.int (nI (p1.getD (dI cs σ1 p1.length) 0)), .int (nI l1.length), .ref (A (m + 3))]
          refine g_iast (pc := 28) C h_8 (nI_clamp (by omega)) (nI_in0 (n := 5) (by omega) (by omega)) dX11_drawSome_28 ?_
          obtain ⟨g_11, hg_11⟩ : ∃ yM : pM, yM = va_up g_2 (m + 3) (ai 0 5 (upd rl l1.length (nI (p1.getD (dI cs σ1 p1.length) 0)))) := ⟨_, rfl⟩
          show V K 0 0 P A (va_up g_2 (m + 3) (ai 0 5 (upd rl l1.length (nI (p1.getD (dI cs σ1 p1.length) 0))))) [(0, .ref (A m)), (1, .int (nI p.length)), (2, .int (nI most)), (3, .int (nI p1.length)), (4, .int (nI k))] 29 []
          rw [← hg_11]
          have h_12 : g_11 m = ob 11 [.ref (A (m + 1)), .int (nI (gZ σ).1), .int (nI (gZ σ).2.1), .int (nI (gZ σ).2.2.1), .int (nI (gZ σ).2.2.2.1), .int (nI (gZ σ).2.2.2.2), .ref (A (m + 2)), .int (nI cs.length), .ref (A (m + 3)), .int (nI l1.length), .ref (A (m + 4)), .ref (A (m + 5)), .int (nI gm), .ref (A (m + 6)), .ref (A (m + 7)), .ref (A (m + 8))] := by rw [hg_11, va_up_ne _ _ (show m ≠ m + 3 from by omega)]; exact h_7
          have h_13 : g_11 (m + 3) = ai 0 5 (upd rl l1.length (nI (p1.getD (dI cs σ1 p1.length) 0))) := by rw [hg_11]; exact va_up_self _ _ _
          have h_14 : g_11 (m + 1) = ai 0 10511 Z_3 := by rw [hg_11, va_up_ne _ _ (show m + 1 ≠ m + 3 from by omega)]; exact hZ_3
          have hf_15 : Fr g_2 g_11 (m + 3) (m + 3 + 1) := by rw [hg_11]; exact Fr.up (by omega) (by omega)
          have hp_16 := MC.fr hp_9 hf_15 (by omega)
          have hp_17 := SO.fr hs_6 hf_15 (by omega)
          refine g_aload_n (pc := 29) C dX11_drawSome_29 0 rfl ?_
          refine g_dup (pc := 30) C dX11_drawSome_30 rfl ?_
          refine g_get (pc := 31) C (j := 9) h_12 rfl rfl (by decide) u_861 dX11_drawSome_31 ?_
          refine g_iconst (pc := 34) C dX11_drawSome_34 (v := nI 1) rfl ?_
          refine g_iadd (pc := 35) C dX11_drawSome_35 (z := nI (l1.length + 1)) (nI_add _ _) ?_
          refine g_put (pc := 36) C (j := 9) h_12 rfl (by decide) (Nat.le_of_ble_eq_true rfl) u_861 rfl pfd_I rfl rfl dX11_drawSome_36 ?_
          obtain ⟨g_18, hg_18⟩ : ∃ yM : pM, yM = va_up g_11 m (ob 11 [.ref (A (m + 1)), .int (nI (gZ σ).1), .int (nI (gZ σ).2.1), .int (nI (gZ σ).2.2.1), .int (nI (gZ σ).2.2.2.1), .int (nI (gZ σ).2.2.2.2), .ref (A (m + 2)), .int (nI cs.length), .ref (A (m + 3)), .int (nI (l1.length + 1)), .ref (A (m + 4)), .ref (A (m + 5)), .int (nI gm), .ref (A (m + 6)), .ref (A (m + 7)), .ref (A (m + 8))]) := ⟨_, rfl⟩
          show V K 0 0 P A (va_up g_11 m (ob 11 [.ref (A (m + 1)), .int (nI (gZ σ).1), .int (nI (gZ σ).2.1), .int (nI (gZ σ).2.2.1), .int (nI (gZ σ).2.2.2.1), .int (nI (gZ σ).2.2.2.2), .ref (A (m + 2)), .int (nI cs.length), .ref (A (m + 3)), .int (nI (l1.length + 1)), .ref (A (m + 4)), .ref (A (m + 5)), .int (nI gm), .ref (A (m + 6)), .ref (A (m + 7)), .ref (A (m + 8))])) [(0, .ref (A m)), (1, .int (nI p.length)), (2, .int (nI most)), (3, .int (nI p1.length)), (4, .int (nI k))] 39 []
          rw [← hg_18]
          have h_19 : g_18 m = ob 11 [.ref (A (m + 1)), .int (nI (gZ σ).1), .int (nI (gZ σ).2.1), .int (nI (gZ σ).2.2.1), .int (nI (gZ σ).2.2.2.1), .int (nI (gZ σ).2.2.2.2), .ref (A (m + 2)), .int (nI cs.length), .ref (A (m + 3)), .int (nI (l1.length + 1)), .ref (A (m + 4)), .ref (A (m + 5)), .int (nI gm), .ref (A (m + 6)), .ref (A (m + 7)), .ref (A (m + 8))] := by rw [hg_18]; exact va_up_self _ _ _
          have h_20 : g_18 (m + 3) = ai 0 5 (upd rl l1.length (nI (p1.getD (dI cs σ1 p1.length) 0))) := by rw [hg_18, va_up_ne _ _ (show m + 3 ≠ m from by omega)]; exact h_13
          have h_21 : g_18 (m + 1) = ai 0 10511 Z_3 := by rw [hg_18, va_up_ne _ _ (show m + 1 ≠ m from by omega)]; exact h_14
          have hf_22 : Fr g_11 g_18 m (m + 1) := by rw [hg_18]; exact Fr.up (by omega) (by omega)
          have hp_23 := SO.fr hp_17 hf_22 (by omega)
          refine g_iinc (pc := 39) C dX11_drawSome_39 (by decide) 3 rfl (v := nI (p1.length - 1)) (nI_dec (by omega)) (lv' := [(0, .ref (A m)), (1, .int (nI p.length)), (2, .int (nI most)), (3, .int (nI (p1.length - 1))), (4, .int (nI k))]) [1, 2, 3, 0, 4] rfl ?_
          refine g_iinc (pc := 42) C dX11_drawSome_42 (by decide) 4 rfl (v := nI (k + 1)) (nI_i1 _) (lv' := [(0, .ref (A m)), (1, .int (nI p.length)), (2, .int (nI most)), (3, .int (nI (p1.length - 1))), (4, .int (nI (k + 1)))]) [1, 2, 3, 4, 0] rfl ?_
          refine g_goto (pc := 45) C dX11_drawSome_45 (tgt := 5) (by decide) ?_
          rw [show p1.length - 1 = (dpL cs σ1 p1).length from (dpL_len (by omega)).symm]
          exact ih g_18 (hm5.tr (fun k hk => by rw [hg_18, va_up_ne _ _ (by omega), hg_11, va_up_ne _ _ (by omega), hf_5 k (by omega) (by omega)])) (k + 1) σ10 (dpL cs σ1 p1) (l1 ++ [p1.getD (dI cs σ1 p1.length) 0]) (by rw [hσ10]; exact lfp_s (by omega) (by omega) hi5) (by omega) (h_19.trans (by rw [List.length_append]; rfl)) ⟨_, h_21, hR_4⟩ hp_23 (SO.push hl5c (by omega) h_20) hS_σ10 (by rw [List.length_append, List.length_singleton]; omega) hK_σ10 hZ_σ10 hT_σ10 (by omega)
  exact lp_5 (_ + 1) g FrA.rf 0 σ p l (by rw [Nat.sub_zero]) (Nat.zero_le _) hO ⟨Z, hZ, hR⟩ hp hl hS (by omega) rfl rfl rfl (Nat.lt_succ_self _)
abbrev rm_X11_goesOn : Room := { frames := 5, cells := 0, slots := 0, locals := 124 }
theorem Y_X11_goesOn : pY yX11_goesOn cX11_goesOn 8 (Option.none : Option Jvm.ClassFile.FieldType) := ⟨u_1051, us_27, u_13, u_1052⟩
theorem N_X11_goesOn : yX11_goesOn.cls ≠ "java/lang/invoke/MethodHandle" ∧ yX11_goesOn.cls ≠ "java/lang/invoke/VarHandle" ∧ (parseMethodDescriptor yX11_goesOn.desc).map (fun d => d.parameters.length) = some 4 := by decide +kernel
set_option maxRecDepth 20000 in
set_option maxHeartbeats 4000000 in
theorem c_X11_goesOn (A : Nat → Nat) (P : List Nat) (g : pM) (m : Nat) {cs : List Nat} {lm gm : Nat} {Z : Nat → Int32} {σ : Sg} {B : Nat} (r s x y : Nat) (hr : r < gK σ) (hs : s < gK σ) (hxK : x < gK σ) (hy : y < 2 ^ 31) (hx : ¬ x = r) (hS : SW B cs σ) (hC : MC g m cs) {l3 : List Nat} (hl3 : SO g (m + 3) 5 l3) {l4 : List Nat} (hl4 : SO g (m + 4) 16 l4) (hO : g m = mOb A m (gZ σ) cs.length lm gm) (hZ : g (m + 1) = ai 0 10511 Z) (hR : RZ Z σ) : PM yX11_goesOn cX11_goesOn 8 (Option.none : Option Jvm.ClassFile.FieldType) rm_X11_goesOn [.ref (A m), .int (nI r), .int (nI s), .int (nI x), .int (nI y)] P A g (fun v g' => v = none ∧ ZS g' m (wlk cs σ r s x y) ∧ (∃ l, SO g' (m + 4) 16 l) ∧ FrZ g g' m) := by
  have hK := hR.k16
  have hT := hR.t24
  have hL := hR.le
  have hzw := hS.2.2.2.1
  have hz0 := hzw.1
  have hz1 := hzw.2.1
  have hz2 := hzw.2.2.1
  have hz3 := hzw.2.2.2.1
  have hn := hS.nw hr
  have hle1 := hn.2.2.2.2.1
  have hle2 := hn.2.2.2.2.2.1
  have hc5 := hR.ac5 hr
  have hc8 := hR.pa8 hr
  have ha16 := hS.a16 hr
  have hp16 := hS.p16 hr
  have hz5 := hzw.2.2.2.2.2.1
  have hz6 := hzw.2.2.2.2.2.2.1
  refine px_intro (by decide +kernel) (Nat.le_of_ble_eq_true rfl) (fun K sz C R => ?_)
  show V K 0 0 P A g [(0, .ref (A m)), (1, .int (nI r)), (2, .int (nI s)), (3, .int (nI x)), (4, .int (nI y))] 0 []
  refine g_iload (pc := 0) C dX11_goesOn_0 4 rfl ?_
  refine g_if_eq (pc := 2) C dX11_goesOn_2 (tgt := 18) (by decide) (fun c_2 => ?_) (fun c_2 => ?_)
  ·
    have c_2 : y = 0 := (nI_eq (by omega) (by omega)).mp c_2
    refine g_iconst (pc := 18) C dX11_goesOn_18 (v := nI 1) rfl ?_
    refine g_goto (pc := 19) C dX11_goesOn_19 (tgt := 23) (by decide) ?_
    refine g_istore (pc := 23) C dX11_goesOn_23 (by decide) (lv' := [(0, .ref (A m)), (1, .int (nI r)), (2, .int (nI s)), (3, .int (nI x)), (4, .int (nI y)), (5, .int (nI 1))]) [1, 2, 3, 4, 5, 0] rfl ?_
    refine g_iload (pc := 25) C dX11_goesOn_25 5 rfl ?_
    refine g_if_ne (pc := 27) C dX11_goesOn_27 (tgt := 97) (by decide) (fun c_27 => ?_) (fun c_27 => ?_)
    ·
      have c_27 : ¬ 1 = 0 := fun h => c_27 ((nI_eq (a := 1) (b := 0) (by omega) (by omega)).mpr h)
      refine g_iload (pc := 97) C dX11_goesOn_97 5 rfl ?_
      refine g_if_eq (pc := 99) C dX11_goesOn_99 (tgt := 126) (by decide) (fun c_99 => ?_) (fun c_99 => ?_)
      ·
        exfalso
        revert c_99; decide
      ·
        have c_99 : ¬ 1 = 0 := fun h => c_99 ((nI_eq (a := 1) (b := 0) (by omega) (by omega)).mpr h)
        refine g_aload_n (pc := 102) C dX11_goesOn_102 0 rfl ?_
        refine g_iload_n (pc := 103) C dX11_goesOn_103 1 rfl ?_
        refine g_iload_n (pc := 104) C dX11_goesOn_104 3 rfl ?_
        refine g_callV (pc := 105) C (As := [.int (nI r), .int (nI x)]) (rest := []) (b := m) (c_X11_isActive A P g m r x (by omega) (by omega) (hS.a16 (by omega)) hO hZ hR) hO rfl rfl Y_X11_isActive u_957 N_X11_isActive ⟨by decide, by decide⟩ ⟨by decide, by decide⟩ (Nat.le_of_ble_eq_true rfl) rfl dX11_goesOn_105 ?_
        rintro _ _ _ _ ⟨rfl, rfl, rfl, rfl⟩
        show V K 0 0 P A g [(0, .ref (A m)), (1, .int (nI r)), (2, .int (nI s)), (3, .int (nI x)), (4, .int (nI y)), (5, .int (nI 1))] 108 [.int (b32 (decide (x ∈ nAc (gN σ r))))]
        refine g_if_ne (pc := 108) C dX11_goesOn_108 (tgt := 126) (by decide) (fun c_108 => ?_) (fun c_108 => ?_)
        ·
          have c_108 : (decide (x ∈ nAc (gN σ r))) = true := b32_no c_108
          have c_108 : (x ∈ nAc (gN σ r)) := of_decide_eq_true c_108
          exact g_vret (pc := 126) C R ⟨rfl, rfl, rfl, ⟨_, hZ, by rw [wlk_a hx (by omega)]; rw [wend_y c_108]; exact hR⟩, ⟨_, hl4⟩, fun k hk1 hk2 => rfl⟩ (by decide) (by decide) dX11_goesOn_126
        ·
          have c_108 : (decide (x ∈ nAc (gN σ r))) = false := b32_yes c_108
          have c_108 : ¬ (x ∈ nAc (gN σ r)) := of_decide_eq_false c_108
          refine g_aload_n (pc := 111) C dX11_goesOn_111 0 rfl ?_
          refine g_iload_n (pc := 112) C dX11_goesOn_112 1 rfl ?_
          refine g_iload_n (pc := 113) C dX11_goesOn_113 3 rfl ?_
          refine g_callV (pc := 114) C (As := [.int (nI r), .int (nI x)]) (rest := []) (b := m) (c_X11_add A P g m r x (by omega) (by omega) hS hC hl3 hO hZ hR) hO rfl rfl Y_X11_add u_1025 N_X11_add ⟨by decide, by decide⟩ ⟨by decide, by decide⟩ (Nat.le_of_ble_eq_true rfl) rfl dX11_goesOn_114 ?_
          rintro _ _ _ g_1 ⟨rfl, rfl, rfl, ⟨Z_2, hZ_2, hR_3⟩, hf_4⟩
          have h_5 := hf_4.at (by omega) hO
          have hp_6 := MC.fr hC hf_4 (by omega)
          have hp_7 := SO.fr hl3 hf_4 (by omega)
          have hp_8 := SO.fr hl4 hf_4 (by omega)
          obtain ⟨σ9, hσ9⟩ : ∃ sM : Sg, sM = add cs σ r x := ⟨_, rfl⟩
          rw [← hσ9] at hR_3
          have hK_σ9 : gK σ9 = gK σ := (congrArg gK hσ9).trans (add_K.trans (rfl : gK σ = gK σ))
          have hT_σ9 : gT σ9 = gT σ := (congrArg gT hσ9).trans (add_T.trans (rfl : gT σ = gT σ))
          have hZ_σ9 : gZ σ9 = gZ σ := (congrArg gZ hσ9).trans (add_Z.trans (rfl : gZ σ = gZ σ))
          have hS_σ9 : SW B cs σ9 := by rw [hσ9]; exact add_SW hS (by omega) (by omega)
          show V K 0 0 P A g_1 [(0, .ref (A m)), (1, .int (nI r)), (2, .int (nI s)), (3, .int (nI x)), (4, .int (nI y)), (5, .int (nI 1))] 117 []
          refine g_aload_n (pc := 117) C dX11_goesOn_117 0 rfl ?_
          refine g_iload_n (pc := 118) C dX11_goesOn_118 1 rfl ?_
          refine g_iload_n (pc := 119) C dX11_goesOn_119 3 rfl ?_
          refine g_iconst (pc := 120) C dX11_goesOn_120 (v := nI 3) rfl ?_
          refine g_iconst (pc := 121) C dX11_goesOn_121 (v := nI 0) rfl ?_
          refine g_iconst (pc := 122) C dX11_goesOn_122 (v := nI 0) rfl ?_
          refine g_callV (pc := 123) C (As := [.int (nI r), .int (nI x), .int (nI 3), .int (nI 0), .int (nI 0)]) (rest := []) (b := m) (c_X11_send A P g_1 m r x 3 0 0 hp_7 (by omega) (by rw [hZ_σ9]; exact h_5) hZ_2 hR_3) h_5 rfl rfl Y_X11_send u_933 N_X11_send ⟨by decide, by decide⟩ ⟨by decide, by decide⟩ (Nat.le_of_ble_eq_true rfl) rfl dX11_goesOn_123 ?_
          rintro _ _ _ g_10 ⟨rfl, rfl, rfl, ⟨Z_11, hZ_11, hR_12⟩, hf_13⟩
          have h_14 := hf_13.at (by omega) h_5
          have hp_15 := MC.fr hp_6 hf_13 (by omega)
          have hp_16 := SO.fr hp_7 hf_13 (by omega)
          have hp_17 := SO.fr hp_8 hf_13 (by omega)
          obtain ⟨σ18, hσ18⟩ : ∃ sM : Sg, sM = snd σ9 r x 3 0 0 [] := ⟨_, rfl⟩
          rw [← hσ18] at hR_12
          have hK_σ18 : gK σ18 = gK σ := (congrArg gK hσ18).trans (snd_K.trans hK_σ9)
          have hT_σ18 : gT σ18 = gT σ := (congrArg gT hσ18).trans (snd_T.trans hT_σ9)
          have hZ_σ18 : gZ σ18 = gZ σ := (congrArg gZ hσ18).trans (snd_Z.trans hZ_σ9)
          have hS_σ18 : SW B cs σ18 := by rw [hσ18]; exact SW.sent hS_σ9 (by omega) (by omega) (lw_0 (by omega) (by omega) (by omega))
          show V K 0 0 P A g_10 [(0, .ref (A m)), (1, .int (nI r)), (2, .int (nI s)), (3, .int (nI x)), (4, .int (nI y)), (5, .int (nI 1))] 126 []
          exact g_vret (pc := 126) C R ⟨rfl, rfl, rfl, ⟨_, hZ_11, by rw [wlk_a hx (by omega)]; rw [wend_n c_108, ← hσ9, ← hσ18]; exact hR_12⟩, ⟨_, hp_17⟩, fun k hk1 hk2 => by rw [hf_13 k (by omega), hf_4 k (by omega)]⟩ (by decide) (by decide) dX11_goesOn_126
    ·
      exfalso
      revert c_27; decide
  ·
    have c_2 : ¬ y = 0 := fun h => c_2 ((nI_eq (a := y) (b := 0) (by omega) (by omega)).mpr h)
    refine g_aload_n (pc := 5) C dX11_goesOn_5 0 rfl ?_
    refine g_get (pc := 6) C (j := 0) hO rfl rfl (by decide) u_852 dX11_goesOn_6 ?_
    refine g_bipush (pc := 9) C dX11_goesOn_9 (v := nI 16) rfl ?_
    refine g_iload_n (pc := 11) C dX11_goesOn_11 1 rfl ?_
    refine g_iadd (pc := 12) C dX11_goesOn_12 (z := nI (16 + r)) (nI_add _ _) ?_
    refine g_iald (pc := 13) C hZ (nI_clamp (by omega)) (nI_in0 (n := 10511) (by omega) (by omega)) dX11_goesOn_13 (x := nI (nAc (gN σ r)).length) (RZ.rAn hR (r := r) (by omega) (by omega)) ?_
    refine g_iconst (pc := 14) C dX11_goesOn_14 (v := nI 2) rfl ?_
    refine g_icmp_ge (pc := 15) C dX11_goesOn_15 (tgt := 22) (by decide) (fun c_15 => ?_) (fun c_15 => ?_)
    ·
      have c_15 : 2 ≤ (nAc (gN σ r)).length := (nI_leI (by omega) (by omega)).mp c_15
      refine g_iconst (pc := 22) C dX11_goesOn_22 (v := nI 0) rfl ?_
      refine g_istore (pc := 23) C dX11_goesOn_23 (by decide) (lv' := [(0, .ref (A m)), (1, .int (nI r)), (2, .int (nI s)), (3, .int (nI x)), (4, .int (nI y)), (5, .int (nI 0))]) [1, 2, 3, 4, 5, 0] rfl ?_
      refine g_iload (pc := 25) C dX11_goesOn_25 5 rfl ?_
      refine g_if_ne (pc := 27) C dX11_goesOn_27 (tgt := 97) (by decide) (fun c_27 => ?_) (fun c_27 => ?_)
      ·
        exfalso
        revert c_27; decide
      ·
        have c_27 : 0 = 0 := (nI_eq (by omega) (by omega)).mp c_27
        refine g_iload (pc := 30) C dX11_goesOn_30 4 rfl ?_
        refine g_aload_n (pc := 32) C dX11_goesOn_32 0 rfl ?_
        refine g_get (pc := 33) C (j := 4) hO rfl rfl (by decide) u_856 dX11_goesOn_33 ?_
        refine g_icmp_ne (pc := 36) C dX11_goesOn_36 (tgt := 45) (by decide) (fun c_36 => ?_) (fun c_36 => ?_)
        ·
          have c_36 : ¬ y = (gZ σ).2.2.2.1 := fun h => c_36 ((nI_eq (a := y) (b := (gZ σ).2.2.2.1) (by omega) (by omega)).mpr h)
          refine g_aload_n (pc := 45) C dX11_goesOn_45 0 rfl ?_
          refine g_iload_n (pc := 46) C dX11_goesOn_46 1 rfl ?_
          refine g_iload_n (pc := 47) C dX11_goesOn_47 2 rfl ?_
          refine g_iload_n (pc := 48) C dX11_goesOn_48 3 rfl ?_
          refine g_callV (pc := 49) C (As := [.int (nI r), .int (nI s), .int (nI x)]) (rest := []) (b := m) (c_X11_without A P g m r s x (by omega) (by omega) (by omega) (hS.a16 (by omega)) hl4 hO hZ hR) hO rfl rfl Y_X11_without u_977 N_X11_without ⟨by decide, by decide⟩ ⟨by decide, by decide⟩ (Nat.le_of_ble_eq_true rfl) rfl dX11_goesOn_49 ?_
          rintro _ _ _ g_19 ⟨rfl, rfl, rfl, hs_21, hf_20⟩
          have h_22 := hf_20.at (by omega) hO
          have h_23 := hf_20.at (by omega) hZ
          have hp_24 := MC.fr hC hf_20 (by omega)
          have hp_25 := SO.fr hl3 hf_20 (by omega)
          show V K 0 0 P A g_19 [(0, .ref (A m)), (1, .int (nI r)), (2, .int (nI s)), (3, .int (nI x)), (4, .int (nI y)), (5, .int (nI 0))] 52 [.int (nI (wof (some s) (some x) (nAc (gN σ r))).length)]
          have hnt : σ = (if y = (gZ σ).2.2.2.1 then nte cs σ r x else σ) := by rw [if_neg c_36]
          have hwl : (wof (some s) (some x) (nAc (gN σ r))).length ≤ 5 := Nat.le_trans (List.length_filter_le _ _) (RZ.ac5 hR (r := r) (by omega))
          have hsx := hs_21
          obtain ⟨hw0, rw4, hw1, hw2⟩ := hsx
          refine g_istore (pc := 52) C dX11_goesOn_52 (by decide) (lv' := [(0, .ref (A m)), (1, .int (nI r)), (2, .int (nI s)), (3, .int (nI x)), (4, .int (nI y)), (5, .int (nI 0)), (6, .int (nI (wof (some s) (some x) (nAc (gN σ r))).length))]) [1, 2, 3, 4, 5, 6, 0] rfl ?_
          refine g_iload (pc := 54) C dX11_goesOn_54 6 rfl ?_
          refine g_if_le (pc := 56) C dX11_goesOn_56 (tgt := 85) (by decide) (fun c_56 => ?_) (fun c_56 => ?_)
          ·
            have c_56 : (wof (some s) (some x) (nAc (gN σ r))).length ≤ 0 := (nI_leI (by omega) (by omega)).mp c_56
            refine g_iload (pc := 85) C dX11_goesOn_85 6 rfl ?_
            refine g_if_ne (pc := 87) C dX11_goesOn_87 (tgt := 94) (by decide) (fun c_87 => ?_) (fun c_87 => ?_)
            ·
              have c_87 : ¬ (wof (some s) (some x) (nAc (gN σ r))).length = 0 := fun h => c_87 ((nI_eq (a := (wof (some s) (some x) (nAc (gN σ r))).length) (b := 0) (by omega) (by omega)).mpr h)
              exfalso; omega
            ·
              have c_87 : (wof (some s) (some x) (nAc (gN σ r))).length = 0 := (nI_eq (by omega) (by omega)).mp c_87
              refine g_iconst (pc := 90) C dX11_goesOn_90 (v := nI 1) rfl ?_
              refine g_goto (pc := 91) C dX11_goesOn_91 (tgt := 95) (by decide) ?_
              refine g_istore (pc := 95) C dX11_goesOn_95 (by decide) (lv' := [(0, .ref (A m)), (1, .int (nI r)), (2, .int (nI s)), (3, .int (nI x)), (4, .int (nI y)), (5, .int (nI 1)), (6, .int (nI (wof (some s) (some x) (nAc (gN σ r))).length))]) [1, 2, 3, 4, 5, 0, 6] rfl ?_
              refine g_iload (pc := 97) C dX11_goesOn_97 5 rfl ?_
              refine g_if_eq (pc := 99) C dX11_goesOn_99 (tgt := 126) (by decide) (fun c_99 => ?_) (fun c_99 => ?_)
              ·
                exfalso
                revert c_99; decide
              ·
                have c_99 : ¬ 1 = 0 := fun h => c_99 ((nI_eq (a := 1) (b := 0) (by omega) (by omega)).mpr h)
                refine g_aload_n (pc := 102) C dX11_goesOn_102 0 rfl ?_
                refine g_iload_n (pc := 103) C dX11_goesOn_103 1 rfl ?_
                refine g_iload_n (pc := 104) C dX11_goesOn_104 3 rfl ?_
                refine g_callV (pc := 105) C (As := [.int (nI r), .int (nI x)]) (rest := []) (b := m) (c_X11_isActive A P g_19 m r x (by omega) (by omega) (hS.a16 (by omega)) h_22 h_23 hR) h_22 rfl rfl Y_X11_isActive u_957 N_X11_isActive ⟨by decide, by decide⟩ ⟨by decide, by decide⟩ (Nat.le_of_ble_eq_true rfl) rfl dX11_goesOn_105 ?_
                rintro _ _ _ _ ⟨rfl, rfl, rfl, rfl⟩
                show V K 0 0 P A g_19 [(0, .ref (A m)), (1, .int (nI r)), (2, .int (nI s)), (3, .int (nI x)), (4, .int (nI y)), (5, .int (nI 1)), (6, .int (nI (wof (some s) (some x) (nAc (gN σ r))).length))] 108 [.int (b32 (decide (x ∈ nAc (gN σ r))))]
                refine g_if_ne (pc := 108) C dX11_goesOn_108 (tgt := 126) (by decide) (fun c_108 => ?_) (fun c_108 => ?_)
                ·
                  have c_108 : (decide (x ∈ nAc (gN σ r))) = true := b32_no c_108
                  have c_108 : (x ∈ nAc (gN σ r)) := of_decide_eq_true c_108
                  exact g_vret (pc := 126) C R ⟨rfl, rfl, rfl, ⟨_, h_23, by rw [wlk_e hx c_2 (by omega) hnt (by omega)]; rw [wend_y c_108]; exact hR⟩, ⟨_, hs_21⟩, fun k hk1 hk2 => by rw [hf_20 k (by omega)]⟩ (by decide) (by decide) dX11_goesOn_126
                ·
                  have c_108 : (decide (x ∈ nAc (gN σ r))) = false := b32_yes c_108
                  have c_108 : ¬ (x ∈ nAc (gN σ r)) := of_decide_eq_false c_108
                  refine g_aload_n (pc := 111) C dX11_goesOn_111 0 rfl ?_
                  refine g_iload_n (pc := 112) C dX11_goesOn_112 1 rfl ?_
                  refine g_iload_n (pc := 113) C dX11_goesOn_113 3 rfl ?_
                  refine g_callV (pc := 114) C (As := [.int (nI r), .int (nI x)]) (rest := []) (b := m) (c_X11_add A P g_19 m r x (by omega) (by omega) hS hp_24 hp_25 h_22 h_23 hR) h_22 rfl rfl Y_X11_add u_1025 N_X11_add ⟨by decide, by decide⟩ ⟨by decide, by decide⟩ (Nat.le_of_ble_eq_true rfl) rfl dX11_goesOn_114 ?_
                  rintro _ _ _ g_26 ⟨rfl, rfl, rfl, ⟨Z_27, hZ_27, hR_28⟩, hf_29⟩
                  have h_30 := hf_29.at (by omega) h_22
                  have h_31 := hf_29.at (by omega) hw1
                  have hp_32 := MC.fr hp_24 hf_29 (by omega)
                  have hp_33 := SO.fr hp_25 hf_29 (by omega)
                  have hp_34 := SO.fr hs_21 hf_29 (by omega)
                  obtain ⟨σ35, hσ35⟩ : ∃ sM : Sg, sM = add cs σ r x := ⟨_, rfl⟩
                  rw [← hσ35] at hR_28
                  have hK_σ35 : gK σ35 = gK σ := (congrArg gK hσ35).trans (add_K.trans (rfl : gK σ = gK σ))
                  have hT_σ35 : gT σ35 = gT σ := (congrArg gT hσ35).trans (add_T.trans (rfl : gT σ = gT σ))
                  have hZ_σ35 : gZ σ35 = gZ σ := (congrArg gZ hσ35).trans (add_Z.trans (rfl : gZ σ = gZ σ))
                  have hS_σ35 : SW B cs σ35 := by rw [hσ35]; exact add_SW hS (by omega) (by omega)
                  show V K 0 0 P A g_26 [(0, .ref (A m)), (1, .int (nI r)), (2, .int (nI s)), (3, .int (nI x)), (4, .int (nI y)), (5, .int (nI 1)), (6, .int (nI (wof (some s) (some x) (nAc (gN σ r))).length))] 117 []
                  refine g_aload_n (pc := 117) C dX11_goesOn_117 0 rfl ?_
                  refine g_iload_n (pc := 118) C dX11_goesOn_118 1 rfl ?_
                  refine g_iload_n (pc := 119) C dX11_goesOn_119 3 rfl ?_
                  refine g_iconst (pc := 120) C dX11_goesOn_120 (v := nI 3) rfl ?_
                  refine g_iconst (pc := 121) C dX11_goesOn_121 (v := nI 0) rfl ?_
                  refine g_iconst (pc := 122) C dX11_goesOn_122 (v := nI 0) rfl ?_
                  refine g_callV (pc := 123) C (As := [.int (nI r), .int (nI x), .int (nI 3), .int (nI 0), .int (nI 0)]) (rest := []) (b := m) (c_X11_send A P g_26 m r x 3 0 0 hp_33 (by omega) (by rw [hZ_σ35]; exact h_30) hZ_27 hR_28) h_30 rfl rfl Y_X11_send u_933 N_X11_send ⟨by decide, by decide⟩ ⟨by decide, by decide⟩ (Nat.le_of_ble_eq_true rfl) rfl dX11_goesOn_123 ?_
                  rintro _ _ _ g_36 ⟨rfl, rfl, rfl, ⟨Z_37, hZ_37, hR_38⟩, hf_39⟩
                  have h_40 := hf_39.at (by omega) h_30
                  have h_41 := hf_39.at (by omega) h_31
                  have hp_42 := MC.fr hp_32 hf_39 (by omega)
                  have hp_43 := SO.fr hp_33 hf_39 (by omega)
                  have hp_44 := SO.fr hp_34 hf_39 (by omega)
                  obtain ⟨σ45, hσ45⟩ : ∃ sM : Sg, sM = snd σ35 r x 3 0 0 [] := ⟨_, rfl⟩
                  rw [← hσ45] at hR_38
                  have hK_σ45 : gK σ45 = gK σ := (congrArg gK hσ45).trans (snd_K.trans hK_σ35)
                  have hT_σ45 : gT σ45 = gT σ := (congrArg gT hσ45).trans (snd_T.trans hT_σ35)
                  have hZ_σ45 : gZ σ45 = gZ σ := (congrArg gZ hσ45).trans (snd_Z.trans hZ_σ35)
                  have hS_σ45 : SW B cs σ45 := by rw [hσ45]; exact SW.sent hS_σ35 (by omega) (by omega) (lw_0 (by omega) (by omega) (by omega))
                  show V K 0 0 P A g_36 [(0, .ref (A m)), (1, .int (nI r)), (2, .int (nI s)), (3, .int (nI x)), (4, .int (nI y)), (5, .int (nI 1)), (6, .int (nI (wof (some s) (some x) (nAc (gN σ r))).length))] 126 []
                  exact g_vret (pc := 126) C R ⟨rfl, rfl, rfl, ⟨_, hZ_37, by rw [wlk_e hx c_2 (by omega) hnt (by omega)]; rw [wend_n c_108, ← hσ35, ← hσ45]; exact hR_38⟩, ⟨_, hp_44⟩, fun k hk1 hk2 => by rw [hf_39 k (by omega), hf_29 k (by omega), hf_20 k (by omega)]⟩ (by decide) (by decide) dX11_goesOn_126
          ·
            have c_56 : ¬ (wof (some s) (some x) (nAc (gN σ r))).length ≤ 0 := fun h => c_56 ((nI_leI (a := (wof (some s) (some x) (nAc (gN σ r))).length) (b := 0) (by omega) (by omega)).mpr h)
            refine g_aload_n (pc := 59) C dX11_goesOn_59 0 rfl ?_
            refine g_get (pc := 60) C (j := 10) h_22 rfl rfl (by decide) u_862 dX11_goesOn_60 ?_
            refine g_aload_n (pc := 63) C dX11_goesOn_63 0 rfl ?_
            refine g_iload (pc := 64) C dX11_goesOn_64 6 rfl ?_
            refine g_callV (pc := 66) C (As := [.int (nI (wof (some s) (some x) (nAc (gN σ r))).length)]) (rest := [.ref (A (m + 4))]) (b := m) (c_X11_draw A P g_19 m (wof (some s) (some x) (nAc (gN σ r))).length (by omega) (by omega) hp_24 hS.nx h_22 h_23 hR) h_22 rfl rfl Y_X11_draw u_973 N_X11_draw ⟨by decide, by decide⟩ ⟨by decide, by decide⟩ (Nat.le_of_ble_eq_true rfl) rfl dX11_goesOn_66 ?_
            rintro _ _ _ g_46 ⟨rfl, rfl, rfl, ⟨Z_47, hZ_47, hR_48⟩, hf_49⟩
            have h_50 := hf_49.at (by omega) h_22
            have h_51 := hf_49.at (by omega) hw1
            have hp_52 := MC.fr hp_24 hf_49 (by omega)
            have hp_53 := SO.fr hp_25 hf_49 (by omega)
            have hp_54 := SO.fr hs_21 hf_49 (by omega)
            obtain ⟨σ55, hσ55⟩ : ∃ sM : Sg, sM = dS cs σ (wof (some s) (some x) (nAc (gN σ r))).length := ⟨_, rfl⟩
            rw [← hσ55] at hR_48
            have hK_σ55 : gK σ55 = gK σ := (congrArg gK hσ55).trans (dS_K.trans (rfl : gK σ = gK σ))
            have hT_σ55 : gT σ55 = gT σ := (congrArg gT hσ55).trans (dS_T.trans (rfl : gT σ = gT σ))
            have hZ_σ55 : gZ σ55 = gZ σ := (congrArg gZ hσ55).trans (dS_Z.trans (rfl : gZ σ = gZ σ))
            have hS_σ55 : SW B cs σ55 := by rw [hσ55]; exact hS.drw
            have hN_σ55 : gN σ55 = gN σ := (congrArg gN hσ55).trans dS_N
            have hd_σ55 := dI_lt (cs := cs) (σ := σ) (n := (wof (some s) (some x) (nAc (gN σ r))).length) (by omega)
            show V K 0 0 P A g_46 [(0, .ref (A m)), (1, .int (nI r)), (2, .int (nI s)), (3, .int (nI x)), (4, .int (nI y)), (5, .int (nI 0)), (6, .int (nI (wof (some s) (some x) (nAc (gN σ r))).length))] 69 [.int (nI (dI cs σ (wof (some s) (some x) (nAc (gN σ r))).length)), .ref (A (m + 4))]
            have hqm : (wof (some s) (some x) (nAc (gN σ r))).getD (dI cs σ (wof (some s) (some x) (nAc (gN σ r))).length) 0 ∈ nAc (gN σ r) := wof_mem (getD_mem (by omega))
            have hqK := (hS.nw (i := r) (by omega)).2.1 _ hqm
            refine g_iald (pc := 69) C h_51 (nI_clamp (by omega)) (nI_in0 (by omega) (by omega)) dX11_goesOn_69 (x := nI ((wof (some s) (some x) (nAc (gN σ r))).getD (dI cs σ (wof (some s) (some x) (nAc (gN σ r))).length) 0)) (hw2 _ (by omega)) ?_
            refine g_istore (pc := 70) C dX11_goesOn_70 (by decide) (lv' := [(0, .ref (A m)), (1, .int (nI r)), (2, .int (nI s)), (3, .int (nI x)), (4, .int (nI y)), (5, .int (nI 0)), (6, .int (nI (wof (some s) (some x) (nAc (gN σ r))).length)), (7, .int (nI ((wof (some s) (some x) (nAc (gN σ r))).getD (dI cs σ (wof (some s) (some x) (nAc (gN σ r))).length) 0)))]) [1, 2, 3, 4, 5, 6, 7, 0] rfl ?_
            refine g_aload_n (pc := 72) C dX11_goesOn_72 0 rfl ?_
            refine g_iload_n (pc := 73) C dX11_goesOn_73 1 rfl ?_
            refine g_iload (pc := 74) C dX11_goesOn_74 7 rfl ?_
            refine g_iconst (pc := 76) C dX11_goesOn_76 (v := nI 2) rfl ?_
            refine g_iload_n (pc := 77) C dX11_goesOn_77 3 rfl ?_
            refine g_iload (pc := 78) C dX11_goesOn_78 4 rfl ?_
            refine g_iconst (pc := 80) C dX11_goesOn_80 (v := nI 1) rfl ?_
            refine g_isub (pc := 81) C dX11_goesOn_81 (z := nI (y - 1)) (pk_sub (by omega)) ?_
            refine g_callV (pc := 82) C (As := [.int (nI r), .int (nI ((wof (some s) (some x) (nAc (gN σ r))).getD (dI cs σ (wof (some s) (some x) (nAc (gN σ r))).length) 0)), .int (nI 2), .int (nI x), .int (nI (y - 1))]) (rest := []) (b := m) (c_X11_send A P g_46 m r ((wof (some s) (some x) (nAc (gN σ r))).getD (dI cs σ (wof (some s) (some x) (nAc (gN σ r))).length) 0) 2 x (y - 1) hp_53 (by omega) (by rw [hZ_σ55]; exact h_50) hZ_47 hR_48) h_50 rfl rfl Y_X11_send u_933 N_X11_send ⟨by decide, by decide⟩ ⟨by decide, by decide⟩ (Nat.le_of_ble_eq_true rfl) rfl dX11_goesOn_82 ?_
            rintro _ _ _ g_56 ⟨rfl, rfl, rfl, ⟨Z_57, hZ_57, hR_58⟩, hf_59⟩
            have h_60 := hf_59.at (by omega) h_50
            have h_61 := hf_59.at (by omega) h_51
            have hp_62 := MC.fr hp_52 hf_59 (by omega)
            have hp_63 := SO.fr hp_53 hf_59 (by omega)
            have hp_64 := SO.fr hp_54 hf_59 (by omega)
            obtain ⟨σ65, hσ65⟩ : ∃ sM : Sg, sM = snd σ55 r ((wof (some s) (some x) (nAc (gN σ r))).getD (dI cs σ (wof (some s) (some x) (nAc (gN σ r))).length) 0) 2 x (y - 1) [] := ⟨_, rfl⟩
            rw [← hσ65] at hR_58
            have hK_σ65 : gK σ65 = gK σ := (congrArg gK hσ65).trans (snd_K.trans hK_σ55)
            have hT_σ65 : gT σ65 = gT σ := (congrArg gT hσ65).trans (snd_T.trans hT_σ55)
            have hZ_σ65 : gZ σ65 = gZ σ := (congrArg gZ hσ65).trans (snd_Z.trans hZ_σ55)
            show V K 0 0 P A g_56 [(0, .ref (A m)), (1, .int (nI r)), (2, .int (nI s)), (3, .int (nI x)), (4, .int (nI y)), (5, .int (nI 0)), (6, .int (nI (wof (some s) (some x) (nAc (gN σ r))).length)), (7, .int (nI ((wof (some s) (some x) (nAc (gN σ r))).getD (dI cs σ (wof (some s) (some x) (nAc (gN σ r))).length) 0)))] 85 []
            refine g_iload (pc := 85) C dX11_goesOn_85 6 rfl ?_
            refine g_if_ne (pc := 87) C dX11_goesOn_87 (tgt := 94) (by decide) (fun c_87 => ?_) (fun c_87 => ?_)
            ·
              have c_87 : ¬ (wof (some s) (some x) (nAc (gN σ r))).length = 0 := fun h => c_87 ((nI_eq (a := (wof (some s) (some x) (nAc (gN σ r))).length) (b := 0) (by omega) (by omega)).mpr h)
              refine g_iconst (pc := 94) C dX11_goesOn_94 (v := nI 0) rfl ?_
              refine g_istore (pc := 95) C dX11_goesOn_95 (by decide) (lv' := [(0, .ref (A m)), (1, .int (nI r)), (2, .int (nI s)), (3, .int (nI x)), (4, .int (nI y)), (5, .int (nI 0)), (6, .int (nI (wof (some s) (some x) (nAc (gN σ r))).length)), (7, .int (nI ((wof (some s) (some x) (nAc (gN σ r))).getD (dI cs σ (wof (some s) (some x) (nAc (gN σ r))).length) 0)))]) [1, 2, 3, 4, 5, 0, 6, 7] rfl ?_
              refine g_iload (pc := 97) C dX11_goesOn_97 5 rfl ?_
              refine g_if_eq (pc := 99) C dX11_goesOn_99 (tgt := 126) (by decide) (fun c_99 => ?_) (fun c_99 => ?_)
              ·
                have c_99 : 0 = 0 := (nI_eq (by omega) (by omega)).mp c_99
                exact g_vret (pc := 126) C R ⟨rfl, rfl, rfl, ⟨_, hZ_57, by rw [wlk_s hx c_2 (by omega) hnt (dpV_some (by omega)) hσ55, ← hσ65]; exact hR_58⟩, ⟨_, hp_64⟩, fun k hk1 hk2 => by rw [hf_59 k (by omega), hf_49 k (by omega), hf_20 k (by omega)]⟩ (by decide) (by decide) dX11_goesOn_126
              ·
                exfalso
                revert c_99; decide
            ·
              have c_87 : (wof (some s) (some x) (nAc (gN σ r))).length = 0 := (nI_eq (by omega) (by omega)).mp c_87
              exfalso; omega
        ·
          have c_36 : y = (gZ σ).2.2.2.1 := (nI_eq (by omega) (by omega)).mp c_36
          refine g_aload_n (pc := 39) C dX11_goesOn_39 0 rfl ?_
          refine g_iload_n (pc := 40) C dX11_goesOn_40 1 rfl ?_
          refine g_iload_n (pc := 41) C dX11_goesOn_41 3 rfl ?_
          refine g_callV (pc := 42) C (As := [.int (nI r), .int (nI x)]) (rest := []) (b := m) (c_X11_note A P g m r x (by omega) (by omega) hS hC hO hZ hR) hO rfl rfl Y_X11_note u_1045 N_X11_note ⟨by decide, by decide⟩ ⟨by decide, by decide⟩ (Nat.le_of_ble_eq_true rfl) rfl dX11_goesOn_42 ?_
          rintro _ _ _ g_66 ⟨rfl, rfl, rfl, ⟨Z_67, hZ_67, hR_68⟩, hf_69⟩
          have h_70 := hf_69.at (by omega) hO
          have hp_71 := MC.fr hC hf_69 (by omega)
          have hp_72 := SO.fr hl3 hf_69 (by omega)
          have hp_73 := SO.fr hl4 hf_69 (by omega)
          obtain ⟨σ74, hσ74⟩ : ∃ sM : Sg, sM = nte cs σ r x := ⟨_, rfl⟩
          rw [← hσ74] at hR_68
          have hK_σ74 : gK σ74 = gK σ := (congrArg gK hσ74).trans (nte_K.trans (rfl : gK σ = gK σ))
          have hT_σ74 : gT σ74 = gT σ := (congrArg gT hσ74).trans (nte_T.trans (rfl : gT σ = gT σ))
          have hZ_σ74 : gZ σ74 = gZ σ := (congrArg gZ hσ74).trans (nte_Z.trans (rfl : gZ σ = gZ σ))
          have hS_σ74 : SW B cs σ74 := by rw [hσ74]; exact nte_SW hS (by omega) (by omega)
          show V K 0 0 P A g_66 [(0, .ref (A m)), (1, .int (nI r)), (2, .int (nI s)), (3, .int (nI x)), (4, .int (nI y)), (5, .int (nI 0))] 45 []
          refine g_aload_n (pc := 45) C dX11_goesOn_45 0 rfl ?_
          refine g_iload_n (pc := 46) C dX11_goesOn_46 1 rfl ?_
          refine g_iload_n (pc := 47) C dX11_goesOn_47 2 rfl ?_
          refine g_iload_n (pc := 48) C dX11_goesOn_48 3 rfl ?_
          refine g_callV (pc := 49) C (As := [.int (nI r), .int (nI s), .int (nI x)]) (rest := []) (b := m) (c_X11_without A P g_66 m r s x (by omega) (by omega) (by omega) (hS_σ74.a16 (by omega)) hp_73 (by rw [hZ_σ74]; exact h_70) hZ_67 hR_68) h_70 rfl rfl Y_X11_without u_977 N_X11_without ⟨by decide, by decide⟩ ⟨by decide, by decide⟩ (Nat.le_of_ble_eq_true rfl) rfl dX11_goesOn_49 ?_
          rintro _ _ _ g_75 ⟨rfl, rfl, rfl, hs_77, hf_76⟩
          have h_78 := hf_76.at (by omega) h_70
          have h_79 := hf_76.at (by omega) hZ_67
          have hp_80 := MC.fr hp_71 hf_76 (by omega)
          have hp_81 := SO.fr hp_72 hf_76 (by omega)
          show V K 0 0 P A g_75 [(0, .ref (A m)), (1, .int (nI r)), (2, .int (nI s)), (3, .int (nI x)), (4, .int (nI y)), (5, .int (nI 0))] 52 [.int (nI (wof (some s) (some x) (nAc (gN σ74 r))).length)]
          have hnt : σ74 = (if y = (gZ σ).2.2.2.1 then nte cs σ r x else σ) := by rw [if_pos c_36]; exact hσ74
          have hwl : (wof (some s) (some x) (nAc (gN σ74 r))).length ≤ 5 := Nat.le_trans (List.length_filter_le _ _) (RZ.ac5 hR_68 (r := r) (by omega))
          have hsx := hs_77
          obtain ⟨hw0, rw4, hw1, hw2⟩ := hsx
          refine g_istore (pc := 52) C dX11_goesOn_52 (by decide) (lv' := [(0, .ref (A m)), (1, .int (nI r)), (2, .int (nI s)), (3, .int (nI x)), (4, .int (nI y)), (5, .int (nI 0)), (6, .int (nI (wof (some s) (some x) (nAc (gN σ74 r))).length))]) [1, 2, 3, 4, 5, 6, 0] rfl ?_
          refine g_iload (pc := 54) C dX11_goesOn_54 6 rfl ?_
          refine g_if_le (pc := 56) C dX11_goesOn_56 (tgt := 85) (by decide) (fun c_56 => ?_) (fun c_56 => ?_)
          ·
            have c_56 : (wof (some s) (some x) (nAc (gN σ74 r))).length ≤ 0 := (nI_leI (by omega) (by omega)).mp c_56
            refine g_iload (pc := 85) C dX11_goesOn_85 6 rfl ?_
            refine g_if_ne (pc := 87) C dX11_goesOn_87 (tgt := 94) (by decide) (fun c_87 => ?_) (fun c_87 => ?_)
            ·
              have c_87 : ¬ (wof (some s) (some x) (nAc (gN σ74 r))).length = 0 := fun h => c_87 ((nI_eq (a := (wof (some s) (some x) (nAc (gN σ74 r))).length) (b := 0) (by omega) (by omega)).mpr h)
              exfalso; omega
            ·
              have c_87 : (wof (some s) (some x) (nAc (gN σ74 r))).length = 0 := (nI_eq (by omega) (by omega)).mp c_87
              refine g_iconst (pc := 90) C dX11_goesOn_90 (v := nI 1) rfl ?_
              refine g_goto (pc := 91) C dX11_goesOn_91 (tgt := 95) (by decide) ?_
              refine g_istore (pc := 95) C dX11_goesOn_95 (by decide) (lv' := [(0, .ref (A m)), (1, .int (nI r)), (2, .int (nI s)), (3, .int (nI x)), (4, .int (nI y)), (5, .int (nI 1)), (6, .int (nI (wof (some s) (some x) (nAc (gN σ74 r))).length))]) [1, 2, 3, 4, 5, 0, 6] rfl ?_
              refine g_iload (pc := 97) C dX11_goesOn_97 5 rfl ?_
              refine g_if_eq (pc := 99) C dX11_goesOn_99 (tgt := 126) (by decide) (fun c_99 => ?_) (fun c_99 => ?_)
              ·
                exfalso
                revert c_99; decide
              ·
                have c_99 : ¬ 1 = 0 := fun h => c_99 ((nI_eq (a := 1) (b := 0) (by omega) (by omega)).mpr h)
                refine g_aload_n (pc := 102) C dX11_goesOn_102 0 rfl ?_
                refine g_iload_n (pc := 103) C dX11_goesOn_103 1 rfl ?_
                refine g_iload_n (pc := 104) C dX11_goesOn_104 3 rfl ?_
                refine g_callV (pc := 105) C (As := [.int (nI r), .int (nI x)]) (rest := []) (b := m) (c_X11_isActive A P g_75 m r x (by omega) (by omega) (hS_σ74.a16 (by omega)) (by rw [hZ_σ74]; exact h_78) h_79 hR_68) h_78 rfl rfl Y_X11_isActive u_957 N_X11_isActive ⟨by decide, by decide⟩ ⟨by decide, by decide⟩ (Nat.le_of_ble_eq_true rfl) rfl dX11_goesOn_105 ?_
                rintro _ _ _ _ ⟨rfl, rfl, rfl, rfl⟩
                show V K 0 0 P A g_75 [(0, .ref (A m)), (1, .int (nI r)), (2, .int (nI s)), (3, .int (nI x)), (4, .int (nI y)), (5, .int (nI 1)), (6, .int (nI (wof (some s) (some x) (nAc (gN σ74 r))).length))] 108 [.int (b32 (decide (x ∈ nAc (gN σ74 r))))]
                refine g_if_ne (pc := 108) C dX11_goesOn_108 (tgt := 126) (by decide) (fun c_108 => ?_) (fun c_108 => ?_)
                ·
                  have c_108 : (decide (x ∈ nAc (gN σ74 r))) = true := b32_no c_108
                  have c_108 : (x ∈ nAc (gN σ74 r)) := of_decide_eq_true c_108
                  exact g_vret (pc := 126) C R ⟨rfl, rfl, rfl, ⟨_, h_79, by rw [wlk_e hx c_2 (by omega) hnt (by omega)]; rw [wend_y c_108]; exact hR_68⟩, ⟨_, hs_77⟩, fun k hk1 hk2 => by rw [hf_76 k (by omega), hf_69 k (by omega)]⟩ (by decide) (by decide) dX11_goesOn_126
                ·
                  have c_108 : (decide (x ∈ nAc (gN σ74 r))) = false := b32_yes c_108
                  have c_108 : ¬ (x ∈ nAc (gN σ74 r)) := of_decide_eq_false c_108
                  refine g_aload_n (pc := 111) C dX11_goesOn_111 0 rfl ?_
                  refine g_iload_n (pc := 112) C dX11_goesOn_112 1 rfl ?_
                  refine g_iload_n (pc := 113) C dX11_goesOn_113 3 rfl ?_
                  refine g_callV (pc := 114) C (As := [.int (nI r), .int (nI x)]) (rest := []) (b := m) (c_X11_add A P g_75 m r x (by omega) (by omega) hS_σ74 hp_80 hp_81 (by rw [hZ_σ74]; exact h_78) h_79 hR_68) h_78 rfl rfl Y_X11_add u_1025 N_X11_add ⟨by decide, by decide⟩ ⟨by decide, by decide⟩ (Nat.le_of_ble_eq_true rfl) rfl dX11_goesOn_114 ?_
                  rintro _ _ _ g_82 ⟨rfl, rfl, rfl, ⟨Z_83, hZ_83, hR_84⟩, hf_85⟩
                  have h_86 := hf_85.at (by omega) h_78
                  have h_87 := hf_85.at (by omega) hw1
                  have hp_88 := MC.fr hp_80 hf_85 (by omega)
                  have hp_89 := SO.fr hp_81 hf_85 (by omega)
                  have hp_90 := SO.fr hs_77 hf_85 (by omega)
                  obtain ⟨σ91, hσ91⟩ : ∃ sM : Sg, sM = add cs σ74 r x := ⟨_, rfl⟩
                  rw [← hσ91] at hR_84
                  have hK_σ91 : gK σ91 = gK σ := (congrArg gK hσ91).trans (add_K.trans hK_σ74)
                  have hT_σ91 : gT σ91 = gT σ := (congrArg gT hσ91).trans (add_T.trans hT_σ74)
                  have hZ_σ91 : gZ σ91 = gZ σ := (congrArg gZ hσ91).trans (add_Z.trans hZ_σ74)
                  have hS_σ91 : SW B cs σ91 := by rw [hσ91]; exact add_SW hS_σ74 (by omega) (by omega)
                  show V K 0 0 P A g_82 [(0, .ref (A m)), (1, .int (nI r)), (2, .int (nI s)), (3, .int (nI x)), (4, .int (nI y)), (5, .int (nI 1)), (6, .int (nI (wof (some s) (some x) (nAc (gN σ74 r))).length))] 117 []
                  refine g_aload_n (pc := 117) C dX11_goesOn_117 0 rfl ?_
                  refine g_iload_n (pc := 118) C dX11_goesOn_118 1 rfl ?_
                  refine g_iload_n (pc := 119) C dX11_goesOn_119 3 rfl ?_
                  refine g_iconst (pc := 120) C dX11_goesOn_120 (v := nI 3) rfl ?_
                  refine g_iconst (pc := 121) C dX11_goesOn_121 (v := nI 0) rfl ?_
                  refine g_iconst (pc := 122) C dX11_goesOn_122 (v := nI 0) rfl ?_
                  refine g_callV (pc := 123) C (As := [.int (nI r), .int (nI x), .int (nI 3), .int (nI 0), .int (nI 0)]) (rest := []) (b := m) (c_X11_send A P g_82 m r x 3 0 0 hp_89 (by omega) (by rw [hZ_σ91]; exact h_86) hZ_83 hR_84) h_86 rfl rfl Y_X11_send u_933 N_X11_send ⟨by decide, by decide⟩ ⟨by decide, by decide⟩ (Nat.le_of_ble_eq_true rfl) rfl dX11_goesOn_123 ?_
                  rintro _ _ _ g_92 ⟨rfl, rfl, rfl, ⟨Z_93, hZ_93, hR_94⟩, hf_95⟩
                  have h_96 := hf_95.at (by omega) h_86
                  have h_97 := hf_95.at (by omega) h_87
                  have hp_98 := MC.fr hp_88 hf_95 (by omega)
                  have hp_99 := SO.fr hp_89 hf_95 (by omega)
                  have hp_100 := SO.fr hp_90 hf_95 (by omega)
                  obtain ⟨σ101, hσ101⟩ : ∃ sM : Sg, sM = snd σ91 r x 3 0 0 [] := ⟨_, rfl⟩
                  rw [← hσ101] at hR_94
                  have hK_σ101 : gK σ101 = gK σ := (congrArg gK hσ101).trans (snd_K.trans hK_σ91)
                  have hT_σ101 : gT σ101 = gT σ := (congrArg gT hσ101).trans (snd_T.trans hT_σ91)
                  have hZ_σ101 : gZ σ101 = gZ σ := (congrArg gZ hσ101).trans (snd_Z.trans hZ_σ91)
                  have hS_σ101 : SW B cs σ101 := by rw [hσ101]; exact SW.sent hS_σ91 (by omega) (by omega) (lw_0 (by omega) (by omega) (by omega))
                  show V K 0 0 P A g_92 [(0, .ref (A m)), (1, .int (nI r)), (2, .int (nI s)), (3, .int (nI x)), (4, .int (nI y)), (5, .int (nI 1)), (6, .int (nI (wof (some s) (some x) (nAc (gN σ74 r))).length))] 126 []
                  exact g_vret (pc := 126) C R ⟨rfl, rfl, rfl, ⟨_, hZ_93, by rw [wlk_e hx c_2 (by omega) hnt (by omega)]; rw [wend_n c_108, ← hσ91, ← hσ101]; exact hR_94⟩, ⟨_, hp_100⟩, fun k hk1 hk2 => by rw [hf_95 k (by omega), hf_85 k (by omega), hf_76 k (by omega), hf_69 k (by omega)]⟩ (by decide) (by decide) dX11_goesOn_126
          ·
            have c_56 : ¬ (wof (some s) (some x) (nAc (gN σ74 r))).length ≤ 0 := fun h => c_56 ((nI_leI (a := (wof (some s) (some x) (nAc (gN σ74 r))).length) (b := 0) (by omega) (by omega)).mpr h)
            refine g_aload_n (pc := 59) C dX11_goesOn_59 0 rfl ?_
            refine g_get (pc := 60) C (j := 10) h_78 rfl rfl (by decide) u_862 dX11_goesOn_60 ?_
            refine g_aload_n (pc := 63) C dX11_goesOn_63 0 rfl ?_
            refine g_iload (pc := 64) C dX11_goesOn_64 6 rfl ?_
            refine g_callV (pc := 66) C (As := [.int (nI (wof (some s) (some x) (nAc (gN σ74 r))).length)]) (rest := [.ref (A (m + 4))]) (b := m) (c_X11_draw A P g_75 m (wof (some s) (some x) (nAc (gN σ74 r))).length (by omega) (by omega) hp_80 hS_σ74.nx (by rw [hZ_σ74]; exact h_78) h_79 hR_68) h_78 rfl rfl Y_X11_draw u_973 N_X11_draw ⟨by decide, by decide⟩ ⟨by decide, by decide⟩ (Nat.le_of_ble_eq_true rfl) rfl dX11_goesOn_66 ?_
            rintro _ _ _ g_102 ⟨rfl, rfl, rfl, ⟨Z_103, hZ_103, hR_104⟩, hf_105⟩
            have h_106 := hf_105.at (by omega) h_78
            have h_107 := hf_105.at (by omega) hw1
            have hp_108 := MC.fr hp_80 hf_105 (by omega)
            have hp_109 := SO.fr hp_81 hf_105 (by omega)
            have hp_110 := SO.fr hs_77 hf_105 (by omega)
            obtain ⟨σ111, hσ111⟩ : ∃ sM : Sg, sM = dS cs σ74 (wof (some s) (some x) (nAc (gN σ74 r))).length := ⟨_, rfl⟩
            rw [← hσ111] at hR_104
            have hK_σ111 : gK σ111 = gK σ := (congrArg gK hσ111).trans (dS_K.trans hK_σ74)
            have hT_σ111 : gT σ111 = gT σ := (congrArg gT hσ111).trans (dS_T.trans hT_σ74)
            have hZ_σ111 : gZ σ111 = gZ σ := (congrArg gZ hσ111).trans (dS_Z.trans hZ_σ74)
            have hS_σ111 : SW B cs σ111 := by rw [hσ111]; exact hS_σ74.drw
            have hN_σ111 : gN σ111 = gN σ74 := (congrArg gN hσ111).trans dS_N
            have hd_σ111 := dI_lt (cs := cs) (σ := σ74) (n := (wof (some s) (some x) (nAc (gN σ74 r))).length) (by omega)
            show V K 0 0 P A g_102 [(0, .ref (A m)), (1, .int (nI r)), (2, .int (nI s)), (3, .int (nI x)), (4, .int (nI y)), (5, .int (nI 0)), (6, .int (nI (wof (some s) (some x) (nAc (gN σ74 r))).length))] 69 [.int (nI (dI cs σ74 (wof (some s) (some x) (nAc (gN σ74 r))).length)), .ref (A (m + 4))]
            have hqm : (wof (some s) (some x) (nAc (gN σ74 r))).getD (dI cs σ74 (wof (some s) (some x) (nAc (gN σ74 r))).length) 0 ∈ nAc (gN σ74 r) := wof_mem (getD_mem (by omega))
            have hqK := (hS_σ74.nw (i := r) (by omega)).2.1 _ hqm
            refine g_iald (pc := 69) C h_107 (nI_clamp (by omega)) (nI_in0 (by omega) (by omega)) dX11_goesOn_69 (x := nI ((wof (some s) (some x) (nAc (gN σ74 r))).getD (dI cs σ74 (wof (some s) (some x) (nAc (gN σ74 r))).length) 0)) (hw2 _ (by omega)) ?_
            refine g_istore (pc := 70) C dX11_goesOn_70 (by decide) (lv' := [(0, .ref (A m)), (1, .int (nI r)), (2, .int (nI s)), (3, .int (nI x)), (4, .int (nI y)), (5, .int (nI 0)), (6, .int (nI (wof (some s) (some x) (nAc (gN σ74 r))).length)), (7, .int (nI ((wof (some s) (some x) (nAc (gN σ74 r))).getD (dI cs σ74 (wof (some s) (some x) (nAc (gN σ74 r))).length) 0)))]) [1, 2, 3, 4, 5, 6, 7, 0] rfl ?_
            refine g_aload_n (pc := 72) C dX11_goesOn_72 0 rfl ?_
            refine g_iload_n (pc := 73) C dX11_goesOn_73 1 rfl ?_
            refine g_iload (pc := 74) C dX11_goesOn_74 7 rfl ?_
            refine g_iconst (pc := 76) C dX11_goesOn_76 (v := nI 2) rfl ?_
            refine g_iload_n (pc := 77) C dX11_goesOn_77 3 rfl ?_
            refine g_iload (pc := 78) C dX11_goesOn_78 4 rfl ?_
            refine g_iconst (pc := 80) C dX11_goesOn_80 (v := nI 1) rfl ?_
            refine g_isub (pc := 81) C dX11_goesOn_81 (z := nI (y - 1)) (pk_sub (by omega)) ?_
            refine g_callV (pc := 82) C (As := [.int (nI r), .int (nI ((wof (some s) (some x) (nAc (gN σ74 r))).getD (dI cs σ74 (wof (some s) (some x) (nAc (gN σ74 r))).length) 0)), .int (nI 2), .int (nI x), .int (nI (y - 1))]) (rest := []) (b := m) (c_X11_send A P g_102 m r ((wof (some s) (some x) (nAc (gN σ74 r))).getD (dI cs σ74 (wof (some s) (some x) (nAc (gN σ74 r))).length) 0) 2 x (y - 1) hp_109 (by omega) (by rw [hZ_σ111]; exact h_106) hZ_103 hR_104) h_106 rfl rfl Y_X11_send u_933 N_X11_send ⟨by decide, by decide⟩ ⟨by decide, by decide⟩ (Nat.le_of_ble_eq_true rfl) rfl dX11_goesOn_82 ?_
            rintro _ _ _ g_112 ⟨rfl, rfl, rfl, ⟨Z_113, hZ_113, hR_114⟩, hf_115⟩
            have h_116 := hf_115.at (by omega) h_106
            have h_117 := hf_115.at (by omega) h_107
            have hp_118 := MC.fr hp_108 hf_115 (by omega)
            have hp_119 := SO.fr hp_109 hf_115 (by omega)
            have hp_120 := SO.fr hp_110 hf_115 (by omega)
            obtain ⟨σ121, hσ121⟩ : ∃ sM : Sg, sM = snd σ111 r ((wof (some s) (some x) (nAc (gN σ74 r))).getD (dI cs σ74 (wof (some s) (some x) (nAc (gN σ74 r))).length) 0) 2 x (y - 1) [] := ⟨_, rfl⟩
            rw [← hσ121] at hR_114
            have hK_σ121 : gK σ121 = gK σ := (congrArg gK hσ121).trans (snd_K.trans hK_σ111)
            have hT_σ121 : gT σ121 = gT σ := (congrArg gT hσ121).trans (snd_T.trans hT_σ111)
            have hZ_σ121 : gZ σ121 = gZ σ := (congrArg gZ hσ121).trans (snd_Z.trans hZ_σ111)
            show V K 0 0 P A g_112 [(0, .ref (A m)), (1, .int (nI r)), (2, .int (nI s)), (3, .int (nI x)), (4, .int (nI y)), (5, .int (nI 0)), (6, .int (nI (wof (some s) (some x) (nAc (gN σ74 r))).length)), (7, .int (nI ((wof (some s) (some x) (nAc (gN σ74 r))).getD (dI cs σ74 (wof (some s) (some x) (nAc (gN σ74 r))).length) 0)))] 85 []
            refine g_iload (pc := 85) C dX11_goesOn_85 6 rfl ?_
            refine g_if_ne (pc := 87) C dX11_goesOn_87 (tgt := 94) (by decide) (fun c_87 => ?_) (fun c_87 => ?_)
            ·
              have c_87 : ¬ (wof (some s) (some x) (nAc (gN σ74 r))).length = 0 := fun h => c_87 ((nI_eq (a := (wof (some s) (some x) (nAc (gN σ74 r))).length) (b := 0) (by omega) (by omega)).mpr h)
              refine g_iconst (pc := 94) C dX11_goesOn_94 (v := nI 0) rfl ?_
              refine g_istore (pc := 95) C dX11_goesOn_95 (by decide) (lv' := [(0, .ref (A m)), (1, .int (nI r)), (2, .int (nI s)), (3, .int (nI x)), (4, .int (nI y)), (5, .int (nI 0)), (6, .int (nI (wof (some s) (some x) (nAc (gN σ74 r))).length)), (7, .int (nI ((wof (some s) (some x) (nAc (gN σ74 r))).getD (dI cs σ74 (wof (some s) (some x) (nAc (gN σ74 r))).length) 0)))]) [1, 2, 3, 4, 5, 0, 6, 7] rfl ?_
              refine g_iload (pc := 97) C dX11_goesOn_97 5 rfl ?_
              refine g_if_eq (pc := 99) C dX11_goesOn_99 (tgt := 126) (by decide) (fun c_99 => ?_) (fun c_99 => ?_)
              ·
                have c_99 : 0 = 0 := (nI_eq (by omega) (by omega)).mp c_99
                exact g_vret (pc := 126) C R ⟨rfl, rfl, rfl, ⟨_, hZ_113, by rw [wlk_s hx c_2 (by omega) hnt (dpV_some (by omega)) hσ111, ← hσ121]; exact hR_114⟩, ⟨_, hp_120⟩, fun k hk1 hk2 => by rw [hf_115 k (by omega), hf_105 k (by omega), hf_76 k (by omega), hf_69 k (by omega)]⟩ (by decide) (by decide) dX11_goesOn_126
              ·
                exfalso
                revert c_99; decide
            ·
              have c_87 : (wof (some s) (some x) (nAc (gN σ74 r))).length = 0 := (nI_eq (by omega) (by omega)).mp c_87
              exfalso; omega
    ·
      have c_15 : ¬ 2 ≤ (nAc (gN σ r)).length := fun h => c_15 ((nI_leI (a := 2) (b := (nAc (gN σ r)).length) (by omega) (by omega)).mpr h)
      refine g_iconst (pc := 18) C dX11_goesOn_18 (v := nI 1) rfl ?_
      refine g_goto (pc := 19) C dX11_goesOn_19 (tgt := 23) (by decide) ?_
      refine g_istore (pc := 23) C dX11_goesOn_23 (by decide) (lv' := [(0, .ref (A m)), (1, .int (nI r)), (2, .int (nI s)), (3, .int (nI x)), (4, .int (nI y)), (5, .int (nI 1))]) [1, 2, 3, 4, 5, 0] rfl ?_
      refine g_iload (pc := 25) C dX11_goesOn_25 5 rfl ?_
      refine g_if_ne (pc := 27) C dX11_goesOn_27 (tgt := 97) (by decide) (fun c_27 => ?_) (fun c_27 => ?_)
      ·
        have c_27 : ¬ 1 = 0 := fun h => c_27 ((nI_eq (a := 1) (b := 0) (by omega) (by omega)).mpr h)
        refine g_iload (pc := 97) C dX11_goesOn_97 5 rfl ?_
        refine g_if_eq (pc := 99) C dX11_goesOn_99 (tgt := 126) (by decide) (fun c_99 => ?_) (fun c_99 => ?_)
        ·
          exfalso
          revert c_99; decide
        ·
          have c_99 : ¬ 1 = 0 := fun h => c_99 ((nI_eq (a := 1) (b := 0) (by omega) (by omega)).mpr h)
          refine g_aload_n (pc := 102) C dX11_goesOn_102 0 rfl ?_
          refine g_iload_n (pc := 103) C dX11_goesOn_103 1 rfl ?_
          refine g_iload_n (pc := 104) C dX11_goesOn_104 3 rfl ?_
          refine g_callV (pc := 105) C (As := [.int (nI r), .int (nI x)]) (rest := []) (b := m) (c_X11_isActive A P g m r x (by omega) (by omega) (hS.a16 (by omega)) hO hZ hR) hO rfl rfl Y_X11_isActive u_957 N_X11_isActive ⟨by decide, by decide⟩ ⟨by decide, by decide⟩ (Nat.le_of_ble_eq_true rfl) rfl dX11_goesOn_105 ?_
          rintro _ _ _ _ ⟨rfl, rfl, rfl, rfl⟩
          show V K 0 0 P A g [(0, .ref (A m)), (1, .int (nI r)), (2, .int (nI s)), (3, .int (nI x)), (4, .int (nI y)), (5, .int (nI 1))] 108 [.int (b32 (decide (x ∈ nAc (gN σ r))))]
          refine g_if_ne (pc := 108) C dX11_goesOn_108 (tgt := 126) (by decide) (fun c_108 => ?_) (fun c_108 => ?_)
          ·
            have c_108 : (decide (x ∈ nAc (gN σ r))) = true := b32_no c_108
            have c_108 : (x ∈ nAc (gN σ r)) := of_decide_eq_true c_108
            exact g_vret (pc := 126) C R ⟨rfl, rfl, rfl, ⟨_, hZ, by rw [wlk_a hx (by omega)]; rw [wend_y c_108]; exact hR⟩, ⟨_, hl4⟩, fun k hk1 hk2 => rfl⟩ (by decide) (by decide) dX11_goesOn_126
          ·
            have c_108 : (decide (x ∈ nAc (gN σ r))) = false := b32_yes c_108
            have c_108 : ¬ (x ∈ nAc (gN σ r)) := of_decide_eq_false c_108
            refine g_aload_n (pc := 111) C dX11_goesOn_111 0 rfl ?_
            refine g_iload_n (pc := 112) C dX11_goesOn_112 1 rfl ?_
            refine g_iload_n (pc := 113) C dX11_goesOn_113 3 rfl ?_
            refine g_callV (pc := 114) C (As := [.int (nI r), .int (nI x)]) (rest := []) (b := m) (c_X11_add A P g m r x (by omega) (by omega) hS hC hl3 hO hZ hR) hO rfl rfl Y_X11_add u_1025 N_X11_add ⟨by decide, by decide⟩ ⟨by decide, by decide⟩ (Nat.le_of_ble_eq_true rfl) rfl dX11_goesOn_114 ?_
            rintro _ _ _ g_122 ⟨rfl, rfl, rfl, ⟨Z_123, hZ_123, hR_124⟩, hf_125⟩
            have h_126 := hf_125.at (by omega) hO
            have hp_127 := MC.fr hC hf_125 (by omega)
            have hp_128 := SO.fr hl3 hf_125 (by omega)
            have hp_129 := SO.fr hl4 hf_125 (by omega)
            obtain ⟨σ130, hσ130⟩ : ∃ sM : Sg, sM = add cs σ r x := ⟨_, rfl⟩
            rw [← hσ130] at hR_124
            have hK_σ130 : gK σ130 = gK σ := (congrArg gK hσ130).trans (add_K.trans (rfl : gK σ = gK σ))
            have hT_σ130 : gT σ130 = gT σ := (congrArg gT hσ130).trans (add_T.trans (rfl : gT σ = gT σ))
            have hZ_σ130 : gZ σ130 = gZ σ := (congrArg gZ hσ130).trans (add_Z.trans (rfl : gZ σ = gZ σ))
            have hS_σ130 : SW B cs σ130 := by rw [hσ130]; exact add_SW hS (by omega) (by omega)
            show V K 0 0 P A g_122 [(0, .ref (A m)), (1, .int (nI r)), (2, .int (nI s)), (3, .int (nI x)), (4, .int (nI y)), (5, .int (nI 1))] 117 []
            refine g_aload_n (pc := 117) C dX11_goesOn_117 0 rfl ?_
            refine g_iload_n (pc := 118) C dX11_goesOn_118 1 rfl ?_
            refine g_iload_n (pc := 119) C dX11_goesOn_119 3 rfl ?_
            refine g_iconst (pc := 120) C dX11_goesOn_120 (v := nI 3) rfl ?_
            refine g_iconst (pc := 121) C dX11_goesOn_121 (v := nI 0) rfl ?_
            refine g_iconst (pc := 122) C dX11_goesOn_122 (v := nI 0) rfl ?_
            refine g_callV (pc := 123) C (As := [.int (nI r), .int (nI x), .int (nI 3), .int (nI 0), .int (nI 0)]) (rest := []) (b := m) (c_X11_send A P g_122 m r x 3 0 0 hp_128 (by omega) (by rw [hZ_σ130]; exact h_126) hZ_123 hR_124) h_126 rfl rfl Y_X11_send u_933 N_X11_send ⟨by decide, by decide⟩ ⟨by decide, by decide⟩ (Nat.le_of_ble_eq_true rfl) rfl dX11_goesOn_123 ?_
            rintro _ _ _ g_131 ⟨rfl, rfl, rfl, ⟨Z_132, hZ_132, hR_133⟩, hf_134⟩
            have h_135 := hf_134.at (by omega) h_126
            have hp_136 := MC.fr hp_127 hf_134 (by omega)
            have hp_137 := SO.fr hp_128 hf_134 (by omega)
            have hp_138 := SO.fr hp_129 hf_134 (by omega)
            obtain ⟨σ139, hσ139⟩ : ∃ sM : Sg, sM = snd σ130 r x 3 0 0 [] := ⟨_, rfl⟩
            rw [← hσ139] at hR_133
            have hK_σ139 : gK σ139 = gK σ := (congrArg gK hσ139).trans (snd_K.trans hK_σ130)
            have hT_σ139 : gT σ139 = gT σ := (congrArg gT hσ139).trans (snd_T.trans hT_σ130)
            have hZ_σ139 : gZ σ139 = gZ σ := (congrArg gZ hσ139).trans (snd_Z.trans hZ_σ130)
            have hS_σ139 : SW B cs σ139 := by rw [hσ139]; exact SW.sent hS_σ130 (by omega) (by omega) (lw_0 (by omega) (by omega) (by omega))
            show V K 0 0 P A g_131 [(0, .ref (A m)), (1, .int (nI r)), (2, .int (nI s)), (3, .int (nI x)), (4, .int (nI y)), (5, .int (nI 1))] 126 []
            exact g_vret (pc := 126) C R ⟨rfl, rfl, rfl, ⟨_, hZ_132, by rw [wlk_a hx (by omega)]; rw [wend_n c_108, ← hσ130, ← hσ139]; exact hR_133⟩, ⟨_, hp_138⟩, fun k hk1 hk2 => by rw [hf_134 k (by omega), hf_125 k (by omega)]⟩ (by decide) (by decide) dX11_goesOn_126
      ·
        exfalso
        revert c_27; decide
