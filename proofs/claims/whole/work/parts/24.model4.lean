-- PART 24: the reference: letters 1 to 8, 12
/-- what drawing into the list changes -/
def FrD (g g' : pM) (m : Nat) : Prop := ∀ k, k ≠ m → k ≠ m + 1 → k ≠ m + 3 → k ≠ m + 4 → g' k = g k
theorem FrD.rf {g : pM} {m : Nat} : FrD g g m := fun _ _ _ _ _ => rfl
theorem FrD.tr {g g1 g2 : pM} {m : Nat} (h : FrD g g1 m) (h2 : FrD g1 g2 m) : FrD g g2 m := fun k a b c d => (h2 k a b c d).trans (h k a b c d)
theorem FrD.at {g g' : pM} {m k : Nat} {e : pE} (h : FrD g g' m) (hk : k ≠ m ∧ k ≠ m + 1 ∧ k ≠ m + 3 ∧ k ≠ m + 4) (he : g k = e) : g' k = e := (h k hk.1 hk.2.1 hk.2.2.1 hk.2.2.2).trans he
theorem SO.frd {g g' : pM} {c cap m : Nat} {l : List Nat} (h : SO g c cap l) (hf : FrD g g' m) (hd : c ≠ m ∧ c ≠ m + 1 ∧ c ≠ m + 3 ∧ c ≠ m + 4) : SO g' c cap l := by
  obtain ⟨h1, r, h2, h3⟩ := h
  exact ⟨h1, r, hf.at hd h2, h3⟩
theorem MC.frd {g g' : pM} {m m2 : Nat} {cs : List Nat} (h : MC g m cs) (hf : FrD g g' m2) (hd : m + 2 ≠ m2 ∧ m + 2 ≠ m2 + 1 ∧ m + 2 ≠ m2 + 3 ∧ m + 2 ≠ m2 + 4) : MC g' m cs := ⟨h.1.frd hf hd, h.2⟩
theorem nI_dec {n : Nat} (h : 0 < n) : nI n + Int32.ofInt (-1) = nI (n - 1) := by
  have e : Int32.ofInt (-1) = -(nI 1) := by decide
  rw [e, ← Int32.sub_eq_add_neg]
  exact pk_sub (a := n) (b := 1) h
theorem dpL_len {cs : List Nat} {σ : Sg} {l : List Nat} (h : 0 < l.length) : (dpL cs σ l).length = l.length - 1 := List.length_eraseIdx_of_lt (dI_lt h)
/-- all of l get a walk -/
def jnW (σ : Sg) (i s lw : Nat) (l : List Nat) : Sg := l.foldl (fun σ q => snd σ i q 2 s lw []) σ
theorem jnF_w {i s lw : Nat} {l : List Nat} : ∀ {σ : Sg}, jnF σ i s lw l = jnW σ i s lw (wof (some s) (some s) l) := by
  induction l with
  | nil => intro σ; rfl
  | cons a l ih =>
    intro σ
    by_cases e : a = s
    · have e1 : wof (some s) (some s) (a :: l) = wof (some s) (some s) l := by simp [wof, e]
      rw [e1, ← ih]
      show jnF (if a = s then σ else snd σ i a 2 s lw []) i s lw l = _
      rw [if_pos e]
    · have h : ¬ s = a := fun z => e z.symm
      have e1 : wof (some s) (some s) (a :: l) = a :: wof (some s) (some s) l := by simp [wof, h]
      rw [e1]
      show jnF (if a = s then σ else snd σ i a 2 s lw []) i s lw l = jnW (snd σ i a 2 s lw []) i s lw (wof (some s) (some s) l)
      rw [if_neg e]
      exact ih
theorem jnW_s {σ : Sg} {i s lw k : Nat} {l : List Nat} (h : k < l.length) : jnW σ i s lw (l.take (k + 1)) = snd (jnW σ i s lw (l.take k)) i (l.getD k 0) 2 s lw [] := foldl_tk h
theorem jnW_K {i s lw : Nat} {l : List Nat} : ∀ {σ : Sg}, gK (jnW σ i s lw l) = gK σ := by
  induction l with
  | nil => intro σ; rfl
  | cons a l ih => intro σ; exact ih.trans snd_K
theorem jnW_T {i s lw : Nat} {l : List Nat} : ∀ {σ : Sg}, gT (jnW σ i s lw l) = gT σ := by
  induction l with
  | nil => intro σ; rfl
  | cons a l ih => intro σ; exact ih.trans snd_T
theorem jnW_Z {i s lw : Nat} {l : List Nat} : ∀ {σ : Sg}, gZ (jnW σ i s lw l) = gZ σ := by
  induction l with
  | nil => intro σ; rfl
  | cons a l ih => intro σ; exact ih.trans snd_Z
theorem wlk_s {cs : List Nat} {σ σ1 σ2 : Sg} {i s x y q : Nat} (h : ¬ x = i) (h2 : ¬ y = 0) (h3 : ¬ (nAc (gN σ i)).length < 2) (e1 : σ1 = if y = (gZ σ).2.2.2.1 then nte cs σ i x else σ) (hv : dpV cs σ1 (wof (some s) (some x) (nAc (gN σ1 i))) = some q) (e2 : σ2 = dS cs σ1 (wof (some s) (some x) (nAc (gN σ1 i))).length) : wlk cs σ i s x y = snd σ2 i q 2 x (y - 1) [] := by
  subst e2 e1
  rw [wlk_b h (by omega) (by omega), wlk2_s hv]
theorem wlk_e {cs : List Nat} {σ σ1 : Sg} {i s x y : Nat} (h : ¬ x = i) (h2 : ¬ y = 0) (h3 : ¬ (nAc (gN σ i)).length < 2) (e1 : σ1 = if y = (gZ σ).2.2.2.1 then nte cs σ i x else σ) (hv : (wof (some s) (some x) (nAc (gN σ1 i))).length = 0) : wlk cs σ i s x y = wend cs σ1 i x := by
  subst e1
  rw [wlk_b h (by omega) (by omega), wlk2_n (show dpV cs _ _ = none from if_pos hv), hv, dS_0]
/-- what one of the letters 4 to 6, 12 does: by its kind -/
theorem cme2_1 {cs : List Nat} {σ σ1 σ2 : Sg} {r s x y k : Nat} {l : List Nat} (hk : k = 1) (e1 : σ1 = add cs σ r s) (e2 : σ2 = jnW σ1 r s (gZ σ).2.2.1 (wof (some s) (some s) (nAc (gN σ1 r)))) : cme2 cs σ r s k x y l = snd σ2 r s 3 0 0 [] := by
  subst hk e2 e1
  show jnS cs σ r s = _
  simp only [jnS]
  rw [jnF_w]
theorem cme2_2 {cs : List Nat} {σ : Sg} {r s x y k : Nat} {l : List Nat} (hk : k = 2) : cme2 cs σ r s k x y l = wlk cs σ r s x y := by subst hk; rfl
theorem cme2_3 {cs : List Nat} {σ : Sg} {r s x y k : Nat} {l : List Nat} (hk : k = 3) : cme2 cs σ r s k x y l = akS (add cs σ r s) r 0 := by subst hk; rfl
theorem prt_y {cs : List Nat} {σ σ1 σ2 σ3 : Sg} {r s : Nat} (h : s ∈ nAc (gN σ r)) (e1 : σ1 = ulS σ r s) (e2 : σ2 = nte cs σ1 r s) (e3 : σ3 = mnd cs σ2 r) : prt cs σ r s = σ3 := by
  subst e3 e2 e1
  simp only [prt, if_pos h]
theorem prt_n {cs : List Nat} {σ : Sg} {r s : Nat} (h : ¬ s ∈ nAc (gN σ r)) : prt cs σ r s = σ := by simp only [prt, if_neg h]
theorem ask_y {cs : List Nat} {σ σ1 σ2 : Sg} {r s x : Nat} (h : x = 1 ∨ ¬ (gZ σ).1 ≤ (nAc (gN σ r)).length ∨ s ∈ nAc (gN σ r)) (e1 : σ1 = add cs σ r s) (e2 : σ2 = snd σ1 r s 3 0 0 []) : askS cs σ r s x = σ2 := by
  subst e2 e1
  simp only [askS, if_pos h]
theorem ask_n {cs : List Nat} {σ σ2 : Sg} {r s x : Nat} (h : ¬ (x = 1 ∨ ¬ (gZ σ).1 ≤ (nAc (gN σ r)).length ∨ s ∈ nAc (gN σ r))) (e2 : σ2 = snd σ r s 6 0 0 []) : askS cs σ r s x = σ2 := by
  subst e2
  simp only [askS, if_neg h]
theorem rfs_y {cs : List Nat} {σ σ1 σ2 σ3 : Sg} {r s : Nat} (h : nAs (gN σ r) = some s) (e1 : σ1 = asS σ r none) (e2 : σ2 = akS σ1 r (nAk (gN σ1 r) ||| 2 ^ s)) (e3 : σ3 = mnd cs σ2 r) : rfs cs σ r s = σ3 := by
  subst e3 e2 e1
  simp only [rfs, if_pos h]
theorem rfs_n {cs : List Nat} {σ : Sg} {r s : Nat} (h : ¬ nAs (gN σ r) = some s) : rfs cs σ r s = σ := by simp only [rfs, if_neg h]
abbrev rm_X11_drawSome : Room := { frames := 2, cells := 0, slots := 0, locals := 46 }
theorem Y_X11_drawSome : pY yX11_drawSome cX11_drawSome 5 (Option.none : Option Jvm.ClassFile.FieldType) := ⟨u_983, us_13, u_13, u_984⟩
theorem N_X11_drawSome : yX11_drawSome.cls ≠ "java/lang/invoke/MethodHandle" ∧ yX11_drawSome.cls ≠ "java/lang/invoke/VarHandle" ∧ (parseMethodDescriptor yX11_drawSome.desc).map (fun d => d.parameters.length) = some 2 := by decide +kernel
set_option maxRecDepth 20000 in
set_option maxHeartbeats 4000000 in
theorem c_X11_drawSome (A : Nat → Nat) (P : List Nat) (g : pM) (m : Nat) {cs : List Nat} {gm : Nat} {Z : Nat → Int32} {σ : Sg} {B : Nat} (most : Nat) (p l : List Nat) (hp : SO g (m + 4) 16 p) (hl : SO g (m + 3) 5 l) (hcap : l.length + most ≤ 5) (hS : SW B cs σ) (hC : MC g m cs) (hO : g m = mOb A m (gZ σ) cs.length l.length gm) (hZ : g (m + 1) = ai 0 10511 Z) (hR : RZ Z σ) : PM yX11_drawSome cX11_drawSome 5 (Option.none : Option Jvm.ClassFile.FieldType) rm_X11_drawSome [.ref (A m), .int (nI p.length), .int (nI most)] P A g (fun v g' => v = none ∧ ∃ σ1 p1 l1, lfp cs most σ p l = (σ1, p1, l1) ∧ g' m = mOb A m (gZ σ) cs.length l1.length gm ∧ ZS g' m σ1 ∧ SO g' (m + 4) 16 p1 ∧ SO g' (m + 3) 5 l1 ∧ FrD g g' m) := by
  have hK := hR.k16
  have hp16 := hp.1
  refine px_intro (by decide +kernel) (Nat.le_of_ble_eq_true rfl) (fun K sz C R => ?_)
  show V K 0 0 P A g [(0, .ref (A m)), (1, .int (nI p.length)), (2, .int (nI most))] 0 []
  refine g_iload_n (pc := 0) C dX11_drawSome_0 1 rfl ?_
  refine g_istore_n (pc := 1) C dX11_drawSome_1 (by decide) (lv' := [(0, .ref (A m)), (1, .int (nI p.length)), (2, .int (nI most)), (3, .int (nI p.length))]) [1, 2, 3, 0] rfl ?_
  refine g_iconst (pc := 2) C dX11_drawSome_2 (v := nI 0) rfl ?_
  refine g_istore (pc := 3) C dX11_drawSome_3 (by decide) (lv' := [(0, .ref (A m)), (1, .int (nI p.length)), (2, .int (nI most)), (3, .int (nI p.length)), (4, .int (nI 0))]) [1, 2, 3, 4, 0] rfl ?_
  have lp_5 : ∀ (fuel : Nat) (gm5 : pM) (hm5 : FrD g gm5 m) (k : Nat) (σ1 : Sg) (p1 l1 : List Nat) (hi5 : lfp cs (most - k) σ1 p1 l1 = lfp cs most σ p l) (hk : k ≤ most) (hO5 : gm5 m = mOb A m (gZ σ) cs.length l1.length gm) (hz5 : ZS gm5 m σ1) (hp5 : SO gm5 (m + 4) 16 p1) (hl5 : SO gm5 (m + 3) 5 l1) (hS5 : SW B cs σ1) (hcap5 : l1.length + (most - k) ≤ 5) (hK5 : gK σ1 = gK σ) (hz51 : gZ σ1 = gZ σ) (hT5 : gT σ1 = gT σ), most - k < fuel → V K 0 0 P A gm5 [(0, .ref (A m)), (1, .int (nI p.length)), (2, .int (nI most)), (3, .int (nI p1.length)), (4, .int (nI k))] 5 [] := by
    intro fuel
    induction fuel with
    | zero => intro gm5 hm5 k σ1 p1 l1 hi5 hk hO5 hz5 hp5 hl5 hS5 hcap5 hK5 hz51 hT5 hμ; exact absurd hμ (Nat.not_lt_zero _)
    | succ fuel ih =>
      intro gm5 hm5 k σ1 p1 l1 hi5 hk hO5 hz5 hp5 hl5 hS5 hcap5 hK5 hz51 hT5 hμ
      have hp_1 := MC.frd hC hm5 (by omega)
      obtain ⟨Zl, hZl, hRl⟩ := hz5
      obtain ⟨hl5a, rl, hl5b, hl5c⟩ := hl5
      have hK1 := hRl.k16
      have hp5b := hp5.1
      refine g_iload (pc := 5) C dX11_drawSome_5 4 rfl ?_
      refine g_iload_n (pc := 7) C dX11_drawSome_7 2 rfl ?_
      refine g_icmp_ge (pc := 8) C dX11_drawSome_8 (tgt := 48) (by decide) (fun c_8 => ?_) (fun c_8 => ?_)
      ·
        have c_8 : most ≤ k := (nI_leI (by omega) (by omega)).mp c_8
        exact g_vret (pc := 48) C R ⟨rfl, rfl, rfl, σ1, p1, l1, hi5.symm.trans (by rw [show most - k = 0 by omega]; rfl), hO5, ⟨_, hZl, hRl⟩, hp5, ⟨hl5a, rl, hl5b, hl5c⟩, fun k hk1 hk2 hk3 hk4 => by rw [hm5 k (by omega) (by omega) (by omega) (by omega)]⟩ (by decide) (by decide) dX11_drawSome_48
      ·
        have c_8 : ¬ most ≤ k := fun h => c_8 ((nI_leI (a := most) (b := k) (by omega) (by omega)).mpr h)
        refine g_iload_n (pc := 11) C dX11_drawSome_11 3 rfl ?_
        refine g_if_le (pc := 12) C dX11_drawSome_12 (tgt := 48) (by decide) (fun c_12 => ?_) (fun c_12 => ?_)
        ·
          have c_12 : p1.length ≤ 0 := (nI_leI (by omega) (by omega)).mp c_12
          exact g_vret (pc := 48) C R ⟨rfl, rfl, rfl, σ1, p1, l1, hi5.symm.trans (lfp_e (by omega)), hO5, ⟨_, hZl, hRl⟩, hp5, ⟨hl5a, rl, hl5b, hl5c⟩, fun k hk1 hk2 hk3 hk4 => by rw [hm5 k (by omega) (by omega) (by omega) (by omega)]⟩ (by decide) (by decide) dX11_drawSome_48
        ·
          have c_12 : ¬ p1.length ≤ 0 := fun h => c_12 ((nI_leI (a := p1.length) (b := 0) (by omega) (by omega)).mpr h)
          refine g_aload_n (pc := 15) C dX11_drawSome_15 0 rfl ?_
          refine g_get (pc := 16) C (j := 8) hO5 rfl rfl (by decide) u_860 dX11_drawSome_16 ?_
          refine g_aload_n (pc := 19) C dX11_drawSome_19 0 rfl ?_
          refine g_get (pc := 20) C (j := 9) hO5 rfl rfl (by decide) u_861 dX11_drawSome_20 ?_
          refine g_aload_n (pc := 23) C dX11_drawSome_23 0 rfl ?_
          refine g_iload_n (pc := 24) C dX11_drawSome_24 3 rfl ?_
          refine g_callV (pc := 25) C (As := [.int (nI p1.length)]) (rest := [.int (nI l1.length), .ref (A (m + 3))]) (b := m) (c_X11_drawOut A P gm5 m p1 (by omega) hp5 hp_1 hS5.nx (by rw [hz51]; exact hO5) hZl hRl) hO5 rfl rfl Y_X11_drawOut u_985 N_X11_drawOut ⟨by decide, by decide⟩ ⟨by decide, by decide⟩ (Nat.le_of_ble_eq_true rfl) rfl dX11_drawSome_25 ?_
          rintro _ _ _ g_2 ⟨rfl, rfl, rfl, ⟨Z_3, hZ_3, hR_4⟩, hs_6, hf_5⟩
          have h_7 := hf_5.at (by omega) hO5
          have h_8 := hf_5.at (by omega) hl5b
          have hp_9 := MC.frz hp_1 hf_5 (by omega)
          obtain ⟨σ10, hσ10⟩ : ∃ sM : Sg, sM = dS cs σ1 p1.length := ⟨_, rfl⟩
          rw [← hσ10] at hR_4
          have hK_σ10 : gK σ10 = gK σ := (congrArg gK hσ10).trans (dS_K.trans hK5)
          have hT_σ10 : gT σ10 = gT σ := (congrArg gT hσ10).trans (dS_T.trans hT5)
          have hZ_σ10 : gZ σ10 = gZ σ := (congrArg gZ hσ10).trans (dS_Z.trans hz51)
          have hS_σ10 : SW B cs σ10 := by rw [hσ10]; exact hS5.drw
          have hN_σ10 : gN σ10 = gN σ1 := (congrArg gN hσ10).trans dS_N
          have hd_σ10 := dI_lt (cs := cs) (σ := σ1) (n := p1.length) (by omega)
          show V K 0 0 P A g_2 [(0, .ref (A m)), (1, .int (nI p.length)), (2, .int (nI most)), (3, .int (nI p1.length)), (4, .int (nI k))] 28 [.int (nI (p1.getD (dI cs σ1 p1.length) 0)), .int (nI l1.length), .ref (A (m + 3))]
          refine g_iast (pc := 28) C h_8 (nI_clamp (by omega)) (nI_in0 (n := 5) (by omega) (by omega)) dX11_drawSome_28 ?_
          obtain ⟨g_11, hg_11⟩ : ∃ yM : pM, yM = va_up g_2 (m + 3) (ai 0 5 (upd rl l1.length (nI (p1.getD (dI cs σ1 p1.length) 0)))) := ⟨_, rfl⟩
          show V K 0 0 P A (va_up g_2 (m + 3) (ai 0 5 (upd rl l1.length (nI (p1.getD (dI cs σ1 p1.length) 0))))) [(0, .ref (A m)), (1, .int (nI p.length)), (2, .int (nI most)), (3, .int (nI p1.length)), (4, .int (nI k))] 29 []
          rw [← hg_11]
          have h_12 : g_11 m = ob 11 [.ref (A (m + 1)), .int (nI (gZ σ).1), .int (nI (gZ σ).2.1), .int (nI (gZ σ).2.2.1), .int (nI (gZ σ).2.2.2.1), .int (nI (gZ σ).2.2.2.2), .ref (A (m + 2)), .int (nI cs.length), .ref (A (m + 3)), .int (nI l1.length), .ref (A (m + 4)), .ref (A (m + 5)), .int (nI gm), .ref (A (m + 6)), .ref (A (m + 7)), .ref (A (m + 8))] := by rw [hg_11, va_up_ne _ _ (show m ≠ m + 3 from by omega)]; exact h_7
          have h_13 : g_11 (m + 3) = ai 0 5 (upd rl l1.length (nI (p1.getD (dI cs σ1 p1.length) 0))) := by rw [hg_11]; exact va_up_self _ _ _
          have h_14 : g_11 (m + 1) = ai 0 10511 Z_3 := by rw [hg_11, va_up_ne _ _ (show m + 1 ≠ m + 3 from by omega)]; exact hZ_3
          have hf_15 : Fr g_2 g_11 (m + 3) (m + 3 + 1) := by rw [hg_11]; exact Fr.up (by omega) (by omega)
          have hp_16 := MC.fr hp_9 hf_15 (by omega)
          have hp_17 := SO.fr hs_6 hf_15 (by omega)
          refine g_aload_n (pc := 29) C dX11_drawSome_29 0 rfl ?_
          refine g_dup (pc := 30) C dX11_drawSome_30 rfl ?_
          refine g_get (pc := 31) C (j := 9) h_12 rfl rfl (by decide) u_861 dX11_drawSome_31 ?_
          refine g_iconst (pc := 34) C dX11_drawSome_34 (v := nI 1) rfl ?_
          refine g_iadd (pc := 35) C dX11_drawSome_35 (z := nI (l1.length + 1)) (nI_add _ _) ?_
          refine g_put (pc := 36) C (j := 9) h_12 rfl (by decide) (Nat.le_of_ble_eq_true rfl) u_861 rfl pfd_I rfl rfl dX11_drawSome_36 ?_
          obtain ⟨g_18, hg_18⟩ : ∃ yM : pM, yM = va_up g_11 m (ob 11 [.ref (A (m + 1)), .int (nI (gZ σ).1), .int (nI (gZ σ).2.1), .int (nI (gZ σ).2.2.1), .int (nI (gZ σ).2.2.2.1), .int (nI (gZ σ).2.2.2.2), .ref (A (m + 2)), .int (nI cs.length), .ref (A (m + 3)), .int (nI (l1.length + 1)), .ref (A (m + 4)), .ref (A (m + 5)), .int (nI gm), .ref (A (m + 6)), .ref (A (m + 7)), .ref (A (m + 8))]) := ⟨_, rfl⟩
          show V K 0 0 P A (va_up g_11 m (ob 11 [.ref (A (m + 1)), .int (nI (gZ σ).1), .int (nI (gZ σ).2.1), .int (nI (gZ σ).2.2.1), .int (nI (gZ σ).2.2.2.1), .int (nI (gZ σ).2.2.2.2), .ref (A (m + 2)), .int (nI cs.length), .ref (A (m + 3)), .int (nI (l1.length + 1)), .ref (A (m + 4)), .ref (A (m + 5)), .int (nI gm), .ref (A (m + 6)), .ref (A (m + 7)), .ref (A (m + 8))])) [(0, .ref (A m)), (1, .int (nI p.length)), (2, .int (nI most)), (3, .int (nI p1.length)), (4, .int (nI k))] 39 []
          rw [← hg_18]
          have h_19 : g_18 m = ob 11 [.ref (A (m + 1)), .int (nI (gZ σ).1), .int (nI (gZ σ).2.1), .int (nI (gZ σ).2.2.1), .int (nI (gZ σ).2.2.2.1), .int (nI (gZ σ).2.2.2.2), .ref (A (m + 2)), .int (nI cs.length), .ref (A (m + 3)), .int (nI (l1.length + 1)), .ref (A (m + 4)), .ref (A (m + 5)), .int (nI gm), .ref (A (m + 6)), .ref (A (m + 7)), .ref (A (m + 8))] := by rw [hg_18]; exact va_up_self _ _ _
          have h_20 : g_18 (m + 3) = ai 0 5 (upd rl l1.length (nI (p1.getD (dI cs σ1 p1.length) 0))) := by rw [hg_18, va_up_ne _ _ (show m + 3 ≠ m from by omega)]; exact h_13
          have h_21 : g_18 (m + 1) = ai 0 10511 Z_3 := by rw [hg_18, va_up_ne _ _ (show m + 1 ≠ m from by omega)]; exact h_14
          have hf_22 : Fr g_11 g_18 m (m + 1) := by rw [hg_18]; exact Fr.up (by omega) (by omega)
          have hp_23 := SO.fr hp_17 hf_22 (by omega)
          refine g_iinc (pc := 39) C dX11_drawSome_39 (by decide) 3 rfl (v := nI (p1.length - 1)) (nI_dec (by omega)) (lv' := [(0, .ref (A m)), (1, .int (nI p.length)), (2, .int (nI most)), (3, .int (nI (p1.length - 1))), (4, .int (nI k))]) [1, 2, 3, 0, 4] rfl ?_
          refine g_iinc (pc := 42) C dX11_drawSome_42 (by decide) 4 rfl (v := nI (k + 1)) (nI_i1 _) (lv' := [(0, .ref (A m)), (1, .int (nI p.length)), (2, .int (nI most)), (3, .int (nI (p1.length - 1))), (4, .int (nI (k + 1)))]) [1, 2, 3, 4, 0] rfl ?_
          refine g_goto (pc := 45) C dX11_drawSome_45 (tgt := 5) (by decide) ?_
          rw [show p1.length - 1 = (dpL cs σ1 p1).length from (dpL_len (by omega)).symm]
          exact ih g_18 (hm5.tr (fun k hk1 hk2 hk3 hk4 => by rw [hg_18, va_up_ne _ _ (by omega), hg_11, va_up_ne _ _ (by omega), hf_5 k (by omega) (by omega)])) (k + 1) σ10 (dpL cs σ1 p1) (l1 ++ [p1.getD (dI cs σ1 p1.length) 0]) (by rw [hσ10]; exact lfp_s (by omega) (by omega) hi5) (by omega) (h_19.trans (by rw [List.length_append]; rfl)) ⟨_, h_21, hR_4⟩ hp_23 (SO.push hl5c (by omega) h_20) hS_σ10 (by rw [List.length_append, List.length_singleton]; omega) hK_σ10 hZ_σ10 hT_σ10 (by omega)
  exact lp_5 (_ + 1) g FrD.rf 0 σ p l (by rw [Nat.sub_zero]) (Nat.zero_le _) hO ⟨Z, hZ, hR⟩ hp hl hS (by omega) rfl rfl rfl (Nat.lt_succ_self _)
abbrev rm_X11_goesOn : Room := { frames := 5, cells := 0, slots := 0, locals := 124 }
theorem Y_X11_goesOn : pY yX11_goesOn cX11_goesOn 8 (Option.none : Option Jvm.ClassFile.FieldType) := ⟨u_1051, us_27, u_13, u_1052⟩
theorem N_X11_goesOn : yX11_goesOn.cls ≠ "java/lang/invoke/MethodHandle" ∧ yX11_goesOn.cls ≠ "java/lang/invoke/VarHandle" ∧ (parseMethodDescriptor yX11_goesOn.desc).map (fun d => d.parameters.length) = some 4 := by decide +kernel
set_option maxRecDepth 20000 in
set_option maxHeartbeats 4000000 in
theorem c_X11_goesOn (A : Nat → Nat) (P : List Nat) (g : pM) (m : Nat) {cs : List Nat} {lm gm : Nat} {Z : Nat → Int32} {σ : Sg} {B : Nat} (r s x y : Nat) (hr : r < gK σ) (hs : s < gK σ) (hxK : x < gK σ) (hy : y < 2 ^ 31) (hx : ¬ x = r) (hS : SW B cs σ) (hC : MC g m cs) {l3 : List Nat} (hl3 : SO g (m + 3) 5 l3) {l4 : List Nat} (hl4 : SO g (m + 4) 16 l4) (hO : g m = mOb A m (gZ σ) cs.length lm gm) (hZ : g (m + 1) = ai 0 10511 Z) (hR : RZ Z σ) : PM yX11_goesOn cX11_goesOn 8 (Option.none : Option Jvm.ClassFile.FieldType) rm_X11_goesOn [.ref (A m), .int (nI r), .int (nI s), .int (nI x), .int (nI y)] P A g (fun v g' => v = none ∧ ZS g' m (wlk cs σ r s x y) ∧ (∃ l, SO g' (m + 4) 16 l) ∧ FrZ g g' m) := by
  have hK := hR.k16
  have hT := hR.t24
  have hL := hR.le
  have hzw := hS.2.2.2.1
  have hz0 := hzw.1
  have hz1 := hzw.2.1
  have hz2 := hzw.2.2.1
  have hz3 := hzw.2.2.2.1
  have hn := hS.nw hr
  have hle1 := hn.2.2.2.2.1
  have hle2 := hn.2.2.2.2.2.1
  have hc5 := hR.ac5 hr
  have hc8 := hR.pa8 hr
  have ha16 := hS.a16 hr
  have hp16 := hS.p16 hr
  have hz5 := hzw.2.2.2.2.2.1
  have hz6 := hzw.2.2.2.2.2.2.1
  refine px_intro (by decide +kernel) (Nat.le_of_ble_eq_true rfl) (fun K sz C R => ?_)
  show V K 0 0 P A g [(0, .ref (A m)), (1, .int (nI r)), (2, .int (nI s)), (3, .int (nI x)), (4, .int (nI y))] 0 []
  refine g_iload (pc := 0) C dX11_goesOn_0 4 rfl ?_
  refine g_if_eq (pc := 2) C dX11_goesOn_2 (tgt := 18) (by decide) (fun c_2 => ?_) (fun c_2 => ?_)
  ·
    have c_2 : y = 0 := (nI_eq (by omega) (by omega)).mp c_2
    refine g_iconst (pc := 18) C dX11_goesOn_18 (v := nI 1) rfl ?_
    refine g_goto (pc := 19) C dX11_goesOn_19 (tgt := 23) (by decide) ?_
    refine g_istore (pc := 23) C dX11_goesOn_23 (by decide) (lv' := [(0, .ref (A m)), (1, .int (nI r)), (2, .int (nI s)), (3, .int (nI x)), (4, .int (nI y)), (5, .int (nI 1))]) [1, 2, 3, 4, 5, 0] rfl ?_
    refine g_iload (pc := 25) C dX11_goesOn_25 5 rfl ?_
    refine g_if_ne (pc := 27) C dX11_goesOn_27 (tgt := 97) (by decide) (fun c_27 => ?_) (fun c_27 => ?_)
    ·
      have c_27 : ¬ 1 = 0 := fun h => c_27 ((nI_eq (a := 1) (b := 0) (by omega) (by omega)).mpr h)
      refine g_iload (pc := 97) C dX11_goesOn_97 5 rfl ?_
      refine g_if_eq (pc := 99) C dX11_goesOn_99 (tgt := 126) (by decide) (fun c_99 => ?_) (fun c_99 => ?_)
      ·
        exfalso
        revert c_99; decide
      ·
        have c_99 : ¬ 1 = 0 := fun h => c_99 ((nI_eq (a := 1) (b := 0) (by omega) (by omega)).mpr h)
        refine g_aload_n (pc := 102) C dX11_goesOn_102 0 rfl ?_
        refine g_iload_n (pc := 103) C dX11_goesOn_103 1 rfl ?_
        refine g_iload_n (pc := 104) C dX11_goesOn_104 3 rfl ?_
        refine g_callV (pc := 105) C (As := [.int (nI r), .int (nI x)]) (rest := []) (b := m) (c_X11_isActive A P g m r x (by omega) (by omega) (hS.a16 (by omega)) hO hZ hR) hO rfl rfl Y_X11_isActive u_957 N_X11_isActive ⟨by decide, by decide⟩ ⟨by decide, by decide⟩ (Nat.le_of_ble_eq_true rfl) rfl dX11_goesOn_105 ?_
        rintro _ _ _ _ ⟨rfl, rfl, rfl, rfl⟩
        show V K 0 0 P A g [(0, .ref (A m)), (1, .int (nI r)), (2, .int (nI s)), (3, .int (nI x)), (4, .int (nI y)), (5, .int (nI 1))] 108 [.int (b32 (decide (x ∈ nAc (gN σ r))))]
        refine g_if_ne (pc := 108) C dX11_goesOn_108 (tgt := 126) (by decide) (fun c_108 => ?_) (fun c_108 => ?_)
        ·
          have c_108 : (decide (x ∈ nAc (gN σ r))) = true := b32_no c_108
          have c_108 : (x ∈ nAc (gN σ r)) := of_decide_eq_true c_108
          exact g_vret (pc := 126) C R ⟨rfl, rfl, rfl, ⟨_, hZ, by rw [wlk_a hx (by omega)]; rw [wend_y c_108]; exact hR⟩, ⟨_, hl4⟩, fun k hk1 hk2 => rfl⟩ (by decide) (by decide) dX11_goesOn_126
        ·
          have c_108 : (decide (x ∈ nAc (gN σ r))) = false := b32_yes c_108
          have c_108 : ¬ (x ∈ nAc (gN σ r)) := of_decide_eq_false c_108
          refine g_aload_n (pc := 111) C dX11_goesOn_111 0 rfl ?_
          refine g_iload_n (pc := 112) C dX11_goesOn_112 1 rfl ?_
          refine g_iload_n (pc := 113) C dX11_goesOn_113 3 rfl ?_
          refine g_callV (pc := 114) C (As := [.int (nI r), .int (nI x)]) (rest := []) (b := m) (c_X11_add A P g m r x (by omega) (by omega) hS hC hl3 hO hZ hR) hO rfl rfl Y_X11_add u_1025 N_X11_add ⟨by decide, by decide⟩ ⟨by decide, by decide⟩ (Nat.le_of_ble_eq_true rfl) rfl dX11_goesOn_114 ?_
          rintro _ _ _ g_1 ⟨rfl, rfl, rfl, ⟨Z_2, hZ_2, hR_3⟩, hf_4⟩
          have h_5 := hf_4.at (by omega) hO
          have hp_6 := MC.fr hC hf_4 (by omega)
          have hp_7 := SO.fr hl3 hf_4 (by omega)
          have hp_8 := SO.fr hl4 hf_4 (by omega)
          obtain ⟨σ9, hσ9⟩ : ∃ sM : Sg, sM = add cs σ r x := ⟨_, rfl⟩
          rw [← hσ9] at hR_3
          have hK_σ9 : gK σ9 = gK σ := (congrArg gK hσ9).trans (add_K.trans (rfl : gK σ = gK σ))
          have hT_σ9 : gT σ9 = gT σ := (congrArg gT hσ9).trans (add_T.trans (rfl : gT σ = gT σ))
          have hZ_σ9 : gZ σ9 = gZ σ := (congrArg gZ hσ9).trans (add_Z.trans (rfl : gZ σ = gZ σ))
          have hS_σ9 : SW B cs σ9 := by rw [hσ9]; exact add_SW hS (by omega) (by omega)
          show V K 0 0 P A g_1 [(0, .ref (A m)), (1, .int (nI r)), (2, .int (nI s)), (3, .int (nI x)), (4, .int (nI y)), (5, .int (nI 1))] 117 []
          refine g_aload_n (pc := 117) C dX11_goesOn_117 0 rfl ?_
          refine g_iload_n (pc := 118) C dX11_goesOn_118 1 rfl ?_
          refine g_iload_n (pc := 119) C dX11_goesOn_119 3 rfl ?_
          refine g_iconst (pc := 120) C dX11_goesOn_120 (v := nI 3) rfl ?_
          refine g_iconst (pc := 121) C dX11_goesOn_121 (v := nI 0) rfl ?_
          refine g_iconst (pc := 122) C dX11_goesOn_122 (v := nI 0) rfl ?_
          refine g_callV (pc := 123) C (As := [.int (nI r), .int (nI x), .int (nI 3), .int (nI 0), .int (nI 0)]) (rest := []) (b := m) (c_X11_send A P g_1 m r x 3 0 0 hp_7 (by omega) (by rw [hZ_σ9]; exact h_5) hZ_2 hR_3) h_5 rfl rfl Y_X11_send u_933 N_X11_send ⟨by decide, by decide⟩ ⟨by decide, by decide⟩ (Nat.le_of_ble_eq_true rfl) rfl dX11_goesOn_123 ?_
          rintro _ _ _ g_10 ⟨rfl, rfl, rfl, ⟨Z_11, hZ_11, hR_12⟩, hf_13⟩
          have h_14 := hf_13.at (by omega) h_5
          have hp_15 := MC.fr hp_6 hf_13 (by omega)
          have hp_16 := SO.fr hp_7 hf_13 (by omega)
          have hp_17 := SO.fr hp_8 hf_13 (by omega)
          obtain ⟨σ18, hσ18⟩ : ∃ sM : Sg, sM = snd σ9 r x 3 0 0 [] := ⟨_, rfl⟩
          rw [← hσ18] at hR_12
          have hK_σ18 : gK σ18 = gK σ := (congrArg gK hσ18).trans (snd_K.trans hK_σ9)
          have hT_σ18 : gT σ18 = gT σ := (congrArg gT hσ18).trans (snd_T.trans hT_σ9)
          have hZ_σ18 : gZ σ18 = gZ σ := (congrArg gZ hσ18).trans (snd_Z.trans hZ_σ9)
          have hS_σ18 : SW B cs σ18 := by rw [hσ18]; exact SW.sent hS_σ9 (by omega) (by omega) (lw_0 (by omega) (by omega) (by omega))
          show V K 0 0 P A g_10 [(0, .ref (A m)), (1, .int (nI r)), (2, .int (nI s)), (3, .int (nI x)), (4, .int (nI y)), (5, .int (nI 1))] 126 []
          exact g_vret (pc := 126) C R ⟨rfl, rfl, rfl, ⟨_, hZ_11, by rw [wlk_a hx (by omega)]; rw [wend_n c_108, ← hσ9, ← hσ18]; exact hR_12⟩, ⟨_, hp_17⟩, fun k hk1 hk2 => by rw [hf_13 k (by omega), hf_4 k (by omega)]⟩ (by decide) (by decide) dX11_goesOn_126
    ·
      exfalso
      revert c_27; decide
  ·
    have c_2 : ¬ y = 0 := fun h => c_2 ((nI_eq (a := y) (b := 0) (by omega) (by omega)).mpr h)
    refine g_aload_n (pc := 5) C dX11_goesOn_5 0 rfl ?_
    refine g_get (pc := 6) C (j := 0) hO rfl rfl (by decide) u_852 dX11_goesOn_6 ?_
    refine g_bipush (pc := 9) C dX11_goesOn_9 (v := nI 16) rfl ?_
    refine g_iload_n (pc := 11) C dX11_goesOn_11 1 rfl ?_
    refine g_iadd (pc := 12) C dX11_goesOn_12 (z := nI (16 + r)) (nI_add _ _) ?_
    refine g_iald (pc := 13) C hZ (nI_clamp (by omega)) (nI_in0 (n := 10511) (by omega) (by omega)) dX11_goesOn_13 (x := nI (nAc (gN σ r)).length) (RZ.rAn hR (r := r) (by omega) (by omega)) ?_
    refine g_iconst (pc := 14) C dX11_goesOn_14 (v := nI 2) rfl ?_
    refine g_icmp_ge (pc := 15) C dX11_goesOn_15 (tgt := 22) (by decide) (fun c_15 => ?_) (fun c_15 => ?_)
    ·
      have c_15 : 2 ≤ (nAc (gN σ r)).length := (nI_leI (by omega) (by omega)).mp c_15
      refine g_iconst (pc := 22) C dX11_goesOn_22 (v := nI 0) rfl ?_
      refine g_istore (pc := 23) C dX11_goesOn_23 (by decide) (lv' := [(0, .ref (A m)), (1, .int (nI r)), (2, .int (nI s)), (3, .int (nI x)), (4, .int (nI y)), (5, .int (nI 0))]) [1, 2, 3, 4, 5, 0] rfl ?_
      refine g_iload (pc := 25) C dX11_goesOn_25 5 rfl ?_
      refine g_if_ne (pc := 27) C dX11_goesOn_27 (tgt := 97) (by decide) (fun c_27 => ?_) (fun c_27 => ?_)
      ·
        exfalso
        revert c_27; decide
      ·
        have c_27 : 0 = 0 := (nI_eq (by omega) (by omega)).mp c_27
        refine g_iload (pc := 30) C dX11_goesOn_30 4 rfl ?_
        refine g_aload_n (pc := 32) C dX11_goesOn_32 0 rfl ?_
        refine g_get (pc := 33) C (j := 4) hO rfl rfl (by decide) u_856 dX11_goesOn_33 ?_
        refine g_icmp_ne (pc := 36) C dX11_goesOn_36 (tgt := 45) (by decide) (fun c_36 => ?_) (fun c_36 => ?_)
        ·
          have c_36 : ¬ y = (gZ σ).2.2.2.1 := fun h => c_36 ((nI_eq (a := y) (b := (gZ σ).2.2.2.1) (by omega) (by omega)).mpr h)
          refine g_aload_n (pc := 45) C dX11_goesOn_45 0 rfl ?_
          refine g_iload_n (pc := 46) C dX11_goesOn_46 1 rfl ?_
          refine g_iload_n (pc := 47) C dX11_goesOn_47 2 rfl ?_
          refine g_iload_n (pc := 48) C dX11_goesOn_48 3 rfl ?_
          refine g_callV (pc := 49) C (As := [.int (nI r), .int (nI s), .int (nI x)]) (rest := []) (b := m) (c_X11_without A P g m r s x (by omega) (by omega) (by omega) (hS.a16 (by omega)) hl4 hO hZ hR) hO rfl rfl Y_X11_without u_977 N_X11_without ⟨by decide, by decide⟩ ⟨by decide, by decide⟩ (Nat.le_of_ble_eq_true rfl) rfl dX11_goesOn_49 ?_
          rintro _ _ _ g_19 ⟨rfl, rfl, rfl, hs_21, hf_20⟩
          have h_22 := hf_20.at (by omega) hO
          have h_23 := hf_20.at (by omega) hZ
          have hp_24 := MC.fr hC hf_20 (by omega)
          have hp_25 := SO.fr hl3 hf_20 (by omega)
          show V K 0 0 P A g_19 [(0, .ref (A m)), (1, .int (nI r)), (2, .int (nI s)), (3, .int (nI x)), (4, .int (nI y)), (5, .int (nI 0))] 52 [.int (nI (wof (some s) (some x) (nAc (gN σ r))).length)]
          have hnt : σ = (if y = (gZ σ).2.2.2.1 then nte cs σ r x else σ) := by rw [if_neg c_36]
          have hwl : (wof (some s) (some x) (nAc (gN σ r))).length ≤ 5 := Nat.le_trans (List.length_filter_le _ _) (RZ.ac5 hR (r := r) (by omega))
          have hsx := hs_21
          obtain ⟨hw0, rw4, hw1, hw2⟩ := hsx
          refine g_istore (pc := 52) C dX11_goesOn_52 (by decide) (lv' := [(0, .ref (A m)), (1, .int (nI r)), (2, .int (nI s)), (3, .int (nI x)), (4, .int (nI y)), (5, .int (nI 0)), (6, .int (nI (wof (some s) (some x) (nAc (gN σ r))).length))]) [1, 2, 3, 4, 5, 6, 0] rfl ?_
          refine g_iload (pc := 54) C dX11_goesOn_54 6 rfl ?_
          refine g_if_le (pc := 56) C dX11_goesOn_56 (tgt := 85) (by decide) (fun c_56 => ?_) (fun c_56 => ?_)
          ·
            have c_56 : (wof (some s) (some x) (nAc (gN σ r))).length ≤ 0 := (nI_leI (by omega) (by omega)).mp c_56
            refine g_iload (pc := 85) C dX11_goesOn_85 6 rfl ?_
            refine g_if_ne (pc := 87) C dX11_goesOn_87 (tgt := 94) (by decide) (fun c_87 => ?_) (fun c_87 => ?_)
            ·
              have c_87 : ¬ (wof (some s) (some x) (nAc (gN σ r))).length = 0 := fun h => c_87 ((nI_eq (a := (wof (some s) (some x) (nAc (gN σ r))).length) (b := 0) (by omega) (by omega)).mpr h)
              exfalso; omega
            ·
              have c_87 : (wof (some s) (some x) (nAc (gN σ r))).length = 0 := (nI_eq (by omega) (by omega)).mp c_87
              refine g_iconst (pc := 90) C dX11_goesOn_90 (v := nI 1) rfl ?_
              refine g_goto (pc := 91) C dX11_goesOn_91 (tgt := 95) (by decide) ?_
              refine g_istore (pc := 95) C dX11_goesOn_95 (by decide) (lv' := [(0, .ref (A m)), (1, .int (nI r)), (2, .int (nI s)), (3, .int (nI x)), (4, .int (nI y)), (5, .int (nI 1)), (6, .int (nI (wof (some s) (some x) (nAc (gN σ r))).length))]) [1, 2, 3, 4, 5, 0, 6] rfl ?_
              refine g_iload (pc := 97) C dX11_goesOn_97 5 rfl ?_
              refine g_if_eq (pc := 99) C dX11_goesOn_99 (tgt := 126) (by decide) (fun c_99 => ?_) (fun c_99 => ?_)
              ·
                exfalso
                revert c_99; decide
              ·
                have c_99 : ¬ 1 = 0 := fun h => c_99 ((nI_eq (a := 1) (b := 0) (by omega) (by omega)).mpr h)
                refine g_aload_n (pc := 102) C dX11_goesOn_102 0 rfl ?_
                refine g_iload_n (pc := 103) C dX11_goesOn_103 1 rfl ?_
                refine g_iload_n (pc := 104) C dX11_goesOn_104 3 rfl ?_
                refine g_callV (pc := 105) C (As := [.int (nI r), .int (nI x)]) (rest := []) (b := m) (c_X11_isActive A P g_19 m r x (by omega) (by omega) (hS.a16 (by omega)) h_22 h_23 hR) h_22 rfl rfl Y_X11_isActive u_957 N_X11_isActive ⟨by decide, by decide⟩ ⟨by decide, by decide⟩ (Nat.le_of_ble_eq_true rfl) rfl dX11_goesOn_105 ?_
                rintro _ _ _ _ ⟨rfl, rfl, rfl, rfl⟩
                show V K 0 0 P A g_19 [(0, .ref (A m)), (1, .int (nI r)), (2, .int (nI s)), (3, .int (nI x)), (4, .int (nI y)), (5, .int (nI 1)), (6, .int (nI (wof (some s) (some x) (nAc (gN σ r))).length))] 108 [.int (b32 (decide (x ∈ nAc (gN σ r))))]
                refine g_if_ne (pc := 108) C dX11_goesOn_108 (tgt := 126) (by decide) (fun c_108 => ?_) (fun c_108 => ?_)
                ·
                  have c_108 : (decide (x ∈ nAc (gN σ r))) = true := b32_no c_108
                  have c_108 : (x ∈ nAc (gN σ r)) := of_decide_eq_true c_108
                  exact g_vret (pc := 126) C R ⟨rfl, rfl, rfl, ⟨_, h_23, by rw [wlk_e hx c_2 (by omega) hnt (by omega)]; rw [wend_y c_108]; exact hR⟩, ⟨_, hs_21⟩, fun k hk1 hk2 => by rw [hf_20 k (by omega)]⟩ (by decide) (by decide) dX11_goesOn_126
                ·
                  have c_108 : (decide (x ∈ nAc (gN σ r))) = false := b32_yes c_108
                  have c_108 : ¬ (x ∈ nAc (gN σ r)) := of_decide_eq_false c_108
                  refine g_aload_n (pc := 111) C dX11_goesOn_111 0 rfl ?_
                  refine g_iload_n (pc := 112) C dX11_goesOn_112 1 rfl ?_
                  refine g_iload_n (pc := 113) C dX11_goesOn_113 3 rfl ?_
                  refine g_callV (pc := 114) C (As := [.int (nI r), .int (nI x)]) (rest := []) (b := m) (c_X11_add A P g_19 m r x (by omega) (by omega) hS hp_24 hp_25 h_22 h_23 hR) h_22 rfl rfl Y_X11_add u_1025 N_X11_add ⟨by decide, by decide⟩ ⟨by decide, by decide⟩ (Nat.le_of_ble_eq_true rfl) rfl dX11_goesOn_114 ?_
                  rintro _ _ _ g_26 ⟨rfl, rfl, rfl, ⟨Z_27, hZ_27, hR_28⟩, hf_29⟩
                  have h_30 := hf_29.at (by omega) h_22
                  have h_31 := hf_29.at (by omega) hw1
                  have hp_32 := MC.fr hp_24 hf_29 (by omega)
                  have hp_33 := SO.fr hp_25 hf_29 (by omega)
                  have hp_34 := SO.fr hs_21 hf_29 (by omega)
                  obtain ⟨σ35, hσ35⟩ : ∃ sM : Sg, sM = add cs σ r x := ⟨_, rfl⟩
                  rw [← hσ35] at hR_28
                  have hK_σ35 : gK σ35 = gK σ := (congrArg gK hσ35).trans (add_K.trans (rfl : gK σ = gK σ))
                  have hT_σ35 : gT σ35 = gT σ := (congrArg gT hσ35).trans (add_T.trans (rfl : gT σ = gT σ))
                  have hZ_σ35 : gZ σ35 = gZ σ := (congrArg gZ hσ35).trans (add_Z.trans (rfl : gZ σ = gZ σ))
                  have hS_σ35 : SW B cs σ35 := by rw [hσ35]; exact add_SW hS (by omega) (by omega)
                  show V K 0 0 P A g_26 [(0, .ref (A m)), (1, .int (nI r)), (2, .int (nI s)), (3, .int (nI x)), (4, .int (nI y)), (5, .int (nI 1)), (6, .int (nI (wof (some s) (some x) (nAc (gN σ r))).length))] 117 []
                  refine g_aload_n (pc := 117) C dX11_goesOn_117 0 rfl ?_
                  refine g_iload_n (pc := 118) C dX11_goesOn_118 1 rfl ?_
                  refine g_iload_n (pc := 119) C dX11_goesOn_119 3 rfl ?_
                  refine g_iconst (pc := 120) C dX11_goesOn_120 (v := nI 3) rfl ?_
                  refine g_iconst (pc := 121) C dX11_goesOn_121 (v := nI 0) rfl ?_
                  refine g_iconst (pc := 122) C dX11_goesOn_122 (v := nI 0) rfl ?_
                  refine g_callV (pc := 123) C (As := [.int (nI r), .int (nI x), .int (nI 3), .int (nI 0), .int (nI 0)]) (rest := []) (b := m) (c_X11_send A P g_26 m r x 3 0 0 hp_33 (by omega) (by rw [hZ_σ35]; exact h_30) hZ_27 hR_28) h_30 rfl rfl Y_X11_send u_933 N_X11_send ⟨by decide, by decide⟩ ⟨by decide, by decide⟩ (Nat.le_of_ble_eq_true rfl) rfl dX11_goesOn_123 ?_
                  rintro _ _ _ g_36 ⟨rfl, rfl, rfl, ⟨Z_37, hZ_37, hR_38⟩, hf_39⟩
                  have h_40 := hf_39.at (by omega) h_30
                  have h_41 := hf_39.at (by omega) h_31
                  have hp_42 := MC.fr hp_32 hf_39 (by omega)
                  have hp_43 := SO.fr hp_33 hf_39 (by omega)
                  have hp_44 := SO.fr hp_34 hf_39 (by omega)
                  obtain ⟨σ45, hσ45⟩ : ∃ sM : Sg, sM = snd σ35 r x 3 0 0 [] := ⟨_, rfl⟩
                  rw [← hσ45] at hR_38
                  have hK_σ45 : gK σ45 = gK σ := (congrArg gK hσ45).trans (snd_K.trans hK_σ35)
                  have hT_σ45 : gT σ45 = gT σ := (congrArg gT hσ45).trans (snd_T.trans hT_σ35)
                  have hZ_σ45 : gZ σ45 = gZ σ := (congrArg gZ hσ45).trans (snd_Z.trans hZ_σ35)
                  have hS_σ45 : SW B cs σ45 := by rw [hσ45]; exact SW.sent hS_σ35 (by omega) (by omega) (lw_0 (by omega) (by omega) (by omega))
                  show V K 0 0 P A g_36 [(0, .ref (A m)), (1, .int (nI r)), (2, .int (nI s)), (3, .int (nI x)), (4, .int (nI y)), (5, .int (nI 1)), (6, .int (nI (wof (some s) (some x) (nAc (gN σ r))).length))] 126 []
                  exact g_vret (pc := 126) C R ⟨rfl, rfl, rfl, ⟨_, hZ_37, by rw [wlk_e hx c_2 (by omega) hnt (by omega)]; rw [wend_n c_108, ← hσ35, ← hσ45]; exact hR_38⟩, ⟨_, hp_44⟩, fun k hk1 hk2 => by rw [hf_39 k (by omega), hf_29 k (by omega), hf_20 k (by omega)]⟩ (by decide) (by decide) dX11_goesOn_126
          ·
            have c_56 : ¬ (wof (some s) (some x) (nAc (gN σ r))).length ≤ 0 := fun h => c_56 ((nI_leI (a := (wof (some s) (some x) (nAc (gN σ r))).length) (b := 0) (by omega) (by omega)).mpr h)
            refine g_aload_n (pc := 59) C dX11_goesOn_59 0 rfl ?_
            refine g_get (pc := 60) C (j := 10) h_22 rfl rfl (by decide) u_862 dX11_goesOn_60 ?_
            refine g_aload_n (pc := 63) C dX11_goesOn_63 0 rfl ?_
            refine g_iload (pc := 64) C dX11_goesOn_64 6 rfl ?_
            refine g_callV (pc := 66) C (As := [.int (nI (wof (some s) (some x) (nAc (gN σ r))).length)]) (rest := [.ref (A (m + 4))]) (b := m) (c_X11_draw A P g_19 m (wof (some s) (some x) (nAc (gN σ r))).length (by omega) (by omega) hp_24 hS.nx h_22 h_23 hR) h_22 rfl rfl Y_X11_draw u_973 N_X11_draw ⟨by decide, by decide⟩ ⟨by decide, by decide⟩ (Nat.le_of_ble_eq_true rfl) rfl dX11_goesOn_66 ?_
            rintro _ _ _ g_46 ⟨rfl, rfl, rfl, ⟨Z_47, hZ_47, hR_48⟩, hf_49⟩
            have h_50 := hf_49.at (by omega) h_22
            have h_51 := hf_49.at (by omega) hw1
            have hp_52 := MC.fr hp_24 hf_49 (by omega)
            have hp_53 := SO.fr hp_25 hf_49 (by omega)
            have hp_54 := SO.fr hs_21 hf_49 (by omega)
            obtain ⟨σ55, hσ55⟩ : ∃ sM : Sg, sM = dS cs σ (wof (some s) (some x) (nAc (gN σ r))).length := ⟨_, rfl⟩
            rw [← hσ55] at hR_48
            have hK_σ55 : gK σ55 = gK σ := (congrArg gK hσ55).trans (dS_K.trans (rfl : gK σ = gK σ))
            have hT_σ55 : gT σ55 = gT σ := (congrArg gT hσ55).trans (dS_T.trans (rfl : gT σ = gT σ))
            have hZ_σ55 : gZ σ55 = gZ σ := (congrArg gZ hσ55).trans (dS_Z.trans (rfl : gZ σ = gZ σ))
            have hS_σ55 : SW B cs σ55 := by rw [hσ55]; exact hS.drw
            have hN_σ55 : gN σ55 = gN σ := (congrArg gN hσ55).trans dS_N
            have hd_σ55 := dI_lt (cs := cs) (σ := σ) (n := (wof (some s) (some x) (nAc (gN σ r))).length) (by omega)
            show V K 0 0 P A g_46 [(0, .ref (A m)), (1, .int (nI r)), (2, .int (nI s)), (3, .int (nI x)), (4, .int (nI y)), (5, .int (nI 0)), (6, .int (nI (wof (some s) (some x) (nAc (gN σ r))).length))] 69 [.int (nI (dI cs σ (wof (some s) (some x) (nAc (gN σ r))).length)), .ref (A (m + 4))]
            have hqm : (wof (some s) (some x) (nAc (gN σ r))).getD (dI cs σ (wof (some s) (some x) (nAc (gN σ r))).length) 0 ∈ nAc (gN σ r) := wof_mem (getD_mem (by omega))
            have hqK := (hS.nw (i := r) (by omega)).2.1 _ hqm
            refine g_iald (pc := 69) C h_51 (nI_clamp (by omega)) (nI_in0 (by omega) (by omega)) dX11_goesOn_69 (x := nI ((wof (some s) (some x) (nAc (gN σ r))).getD (dI cs σ (wof (some s) (some x) (nAc (gN σ r))).length) 0)) (hw2 _ (by omega)) ?_
            refine g_istore (pc := 70) C dX11_goesOn_70 (by decide) (lv' := [(0, .ref (A m)), (1, .int (nI r)), (2, .int (nI s)), (3, .int (nI x)), (4, .int (nI y)), (5, .int (nI 0)), (6, .int (nI (wof (some s) (some x) (nAc (gN σ r))).length)), (7, .int (nI ((wof (some s) (some x) (nAc (gN σ r))).getD (dI cs σ (wof (some s) (some x) (nAc (gN σ r))).length) 0)))]) [1, 2, 3, 4, 5, 6, 7, 0] rfl ?_
            refine g_aload_n (pc := 72) C dX11_goesOn_72 0 rfl ?_
            refine g_iload_n (pc := 73) C dX11_goesOn_73 1 rfl ?_
            refine g_iload (pc := 74) C dX11_goesOn_74 7 rfl ?_
            refine g_iconst (pc := 76) C dX11_goesOn_76 (v := nI 2) rfl ?_
            refine g_iload_n (pc := 77) C dX11_goesOn_77 3 rfl ?_
            refine g_iload (pc := 78) C dX11_goesOn_78 4 rfl ?_
            refine g_iconst (pc := 80) C dX11_goesOn_80 (v := nI 1) rfl ?_
            refine g_isub (pc := 81) C dX11_goesOn_81 (z := nI (y - 1)) (pk_sub (by omega)) ?_
            refine g_callV (pc := 82) C (As := [.int (nI r), .int (nI ((wof (some s) (some x) (nAc (gN σ r))).getD (dI cs σ (wof (some s) (some x) (nAc (gN σ r))).length) 0)), .int (nI 2), .int (nI x), .int (nI (y - 1))]) (rest := []) (b := m) (c_X11_send A P g_46 m r ((wof (some s) (some x) (nAc (gN σ r))).getD (dI cs σ (wof (some s) (some x) (nAc (gN σ r))).length) 0) 2 x (y - 1) hp_53 (by omega) (by rw [hZ_σ55]; exact h_50) hZ_47 hR_48) h_50 rfl rfl Y_X11_send u_933 N_X11_send ⟨by decide, by decide⟩ ⟨by decide, by decide⟩ (Nat.le_of_ble_eq_true rfl) rfl dX11_goesOn_82 ?_
            rintro _ _ _ g_56 ⟨rfl, rfl, rfl, ⟨Z_57, hZ_57, hR_58⟩, hf_59⟩
            have h_60 := hf_59.at (by omega) h_50
            have h_61 := hf_59.at (by omega) h_51
            have hp_62 := MC.fr hp_52 hf_59 (by omega)
            have hp_63 := SO.fr hp_53 hf_59 (by omega)
            have hp_64 := SO.fr hp_54 hf_59 (by omega)
            obtain ⟨σ65, hσ65⟩ : ∃ sM : Sg, sM = snd σ55 r ((wof (some s) (some x) (nAc (gN σ r))).getD (dI cs σ (wof (some s) (some x) (nAc (gN σ r))).length) 0) 2 x (y - 1) [] := ⟨_, rfl⟩
            rw [← hσ65] at hR_58
            have hK_σ65 : gK σ65 = gK σ := (congrArg gK hσ65).trans (snd_K.trans hK_σ55)
            have hT_σ65 : gT σ65 = gT σ := (congrArg gT hσ65).trans (snd_T.trans hT_σ55)
            have hZ_σ65 : gZ σ65 = gZ σ := (congrArg gZ hσ65).trans (snd_Z.trans hZ_σ55)
            show V K 0 0 P A g_56 [(0, .ref (A m)), (1, .int (nI r)), (2, .int (nI s)), (3, .int (nI x)), (4, .int (nI y)), (5, .int (nI 0)), (6, .int (nI (wof (some s) (some x) (nAc (gN σ r))).length)), (7, .int (nI ((wof (some s) (some x) (nAc (gN σ r))).getD (dI cs σ (wof (some s) (some x) (nAc (gN σ r))).length) 0)))] 85 []
            refine g_iload (pc := 85) C dX11_goesOn_85 6 rfl ?_
            refine g_if_ne (pc := 87) C dX11_goesOn_87 (tgt := 94) (by decide) (fun c_87 => ?_) (fun c_87 => ?_)
            ·
              have c_87 : ¬ (wof (some s) (some x) (nAc (gN σ r))).length = 0 := fun h => c_87 ((nI_eq (a := (wof (some s) (some x) (nAc (gN σ r))).length) (b := 0) (by omega) (by omega)).mpr h)
              refine g_iconst (pc := 94) C dX11_goesOn_94 (v := nI 0) rfl ?_
              refine g_istore (pc := 95) C dX11_goesOn_95 (by decide) (lv' := [(0, .ref (A m)), (1, .int (nI r)), (2, .int (nI s)), (3, .int (nI x)), (4, .int (nI y)), (5, .int (nI 0)), (6, .int (nI (wof (some s) (some x) (nAc (gN σ r))).length)), (7, .int (nI ((wof (some s) (some x) (nAc (gN σ r))).getD (dI cs σ (wof (some s) (some x) (nAc (gN σ r))).length) 0)))]) [1, 2, 3, 4, 5, 0, 6, 7] rfl ?_
              refine g_iload (pc := 97) C dX11_goesOn_97 5 rfl ?_
              refine g_if_eq (pc := 99) C dX11_goesOn_99 (tgt := 126) (by decide) (fun c_99 => ?_) (fun c_99 => ?_)
              ·
                have c_99 : 0 = 0 := (nI_eq (by omega) (by omega)).mp c_99
                exact g_vret (pc := 126) C R ⟨rfl, rfl, rfl, ⟨_, hZ_57, by rw [wlk_s hx c_2 (by omega) hnt (dpV_some (by omega)) hσ55, ← hσ65]; exact hR_58⟩, ⟨_, hp_64⟩, fun k hk1 hk2 => by rw [hf_59 k (by omega), hf_49 k (by omega), hf_20 k (by omega)]⟩ (by decide) (by decide) dX11_goesOn_126
              ·
                exfalso
                revert c_99; decide
            ·
              have c_87 : (wof (some s) (some x) (nAc (gN σ r))).length = 0 := (nI_eq (by omega) (by omega)).mp c_87
              exfalso; omega
        ·
          have c_36 : y = (gZ σ).2.2.2.1 := (nI_eq (by omega) (by omega)).mp c_36
          refine g_aload_n (pc := 39) C dX11_goesOn_39 0 rfl ?_
          refine g_iload_n (pc := 40) C dX11_goesOn_40 1 rfl ?_
          refine g_iload_n (pc := 41) C dX11_goesOn_41 3 rfl ?_
          refine g_callV (pc := 42) C (As := [.int (nI r), .int (nI x)]) (rest := []) (b := m) (c_X11_note A P g m r x (by omega) (by omega) hS hC hO hZ hR) hO rfl rfl Y_X11_note u_1045 N_X11_note ⟨by decide, by decide⟩ ⟨by decide, by decide⟩ (Nat.le_of_ble_eq_true rfl) rfl dX11_goesOn_42 ?_
          rintro _ _ _ g_66 ⟨rfl, rfl, rfl, ⟨Z_67, hZ_67, hR_68⟩, hf_69⟩
          have h_70 := hf_69.at (by omega) hO
          have hp_71 := MC.fr hC hf_69 (by omega)
          have hp_72 := SO.fr hl3 hf_69 (by omega)
          have hp_73 := SO.fr hl4 hf_69 (by omega)
          obtain ⟨σ74, hσ74⟩ : ∃ sM : Sg, sM = nte cs σ r x := ⟨_, rfl⟩
          rw [← hσ74] at hR_68
          have hK_σ74 : gK σ74 = gK σ := (congrArg gK hσ74).trans (nte_K.trans (rfl : gK σ = gK σ))
          have hT_σ74 : gT σ74 = gT σ := (congrArg gT hσ74).trans (nte_T.trans (rfl : gT σ = gT σ))
          have hZ_σ74 : gZ σ74 = gZ σ := (congrArg gZ hσ74).trans (nte_Z.trans (rfl : gZ σ = gZ σ))
          have hS_σ74 : SW B cs σ74 := by rw [hσ74]; exact nte_SW hS (by omega) (by omega)
          show V K 0 0 P A g_66 [(0, .ref (A m)), (1, .int (nI r)), (2, .int (nI s)), (3, .int (nI x)), (4, .int (nI y)), (5, .int (nI 0))] 45 []
          refine g_aload_n (pc := 45) C dX11_goesOn_45 0 rfl ?_
          refine g_iload_n (pc := 46) C dX11_goesOn_46 1 rfl ?_
          refine g_iload_n (pc := 47) C dX11_goesOn_47 2 rfl ?_
          refine g_iload_n (pc := 48) C dX11_goesOn_48 3 rfl ?_
          refine g_callV (pc := 49) C (As := [.int (nI r), .int (nI s), .int (nI x)]) (rest := []) (b := m) (c_X11_without A P g_66 m r s x (by omega) (by omega) (by omega) (hS_σ74.a16 (by omega)) hp_73 (by rw [hZ_σ74]; exact h_70) hZ_67 hR_68) h_70 rfl rfl Y_X11_without u_977 N_X11_without ⟨by decide, by decide⟩ ⟨by decide, by decide⟩ (Nat.le_of_ble_eq_true rfl) rfl dX11_goesOn_49 ?_
          rintro _ _ _ g_75 ⟨rfl, rfl, rfl, hs_77, hf_76⟩
          have h_78 := hf_76.at (by omega) h_70
          have h_79 := hf_76.at (by omega) hZ_67
          have hp_80 := MC.fr hp_71 hf_76 (by omega)
          have hp_81 := SO.fr hp_72 hf_76 (by omega)
          show V K 0 0 P A g_75 [(0, .ref (A m)), (1, .int (nI r)), (2, .int (nI s)), (3, .int (nI x)), (4, .int (nI y)), (5, .int (nI 0))] 52 [.int (nI (wof (some s) (some x) (nAc (gN σ74 r))).length)]
          have hnt : σ74 = (if y = (gZ σ).2.2.2.1 then nte cs σ r x else σ) := by rw [if_pos c_36]; exact hσ74
          have hwl : (wof (some s) (some x) (nAc (gN σ74 r))).length ≤ 5 := Nat.le_trans (List.length_filter_le _ _) (RZ.ac5 hR_68 (r := r) (by omega))
          have hsx := hs_77
          obtain ⟨hw0, rw4, hw1, hw2⟩ := hsx
          refine g_istore (pc := 52) C dX11_goesOn_52 (by decide) (lv' := [(0, .ref (A m)), (1, .int (nI r)), (2, .int (nI s)), (3, .int (nI x)), (4, .int (nI y)), (5, .int (nI 0)), (6, .int (nI (wof (some s) (some x) (nAc (gN σ74 r))).length))]) [1, 2, 3, 4, 5, 6, 0] rfl ?_
          refine g_iload (pc := 54) C dX11_goesOn_54 6 rfl ?_
          refine g_if_le (pc := 56) C dX11_goesOn_56 (tgt := 85) (by decide) (fun c_56 => ?_) (fun c_56 => ?_)
          ·
            have c_56 : (wof (some s) (some x) (nAc (gN σ74 r))).length ≤ 0 := (nI_leI (by omega) (by omega)).mp c_56
            refine g_iload (pc := 85) C dX11_goesOn_85 6 rfl ?_
            refine g_if_ne (pc := 87) C dX11_goesOn_87 (tgt := 94) (by decide) (fun c_87 => ?_) (fun c_87 => ?_)
            ·
              have c_87 : ¬ (wof (some s) (some x) (nAc (gN σ74 r))).length = 0 := fun h => c_87 ((nI_eq (a := (wof (some s) (some x) (nAc (gN σ74 r))).length) (b := 0) (by omega) (by omega)).mpr h)
              exfalso; omega
            ·
              have c_87 : (wof (some s) (some x) (nAc (gN σ74 r))).length = 0 := (nI_eq (by omega) (by omega)).mp c_87
              refine g_iconst (pc := 90) C dX11_goesOn_90 (v := nI 1) rfl ?_
              refine g_goto (pc := 91) C dX11_goesOn_91 (tgt := 95) (by decide) ?_
              refine g_istore (pc := 95) C dX11_goesOn_95 (by decide) (lv' := [(0, .ref (A m)), (1, .int (nI r)), (2, .int (nI s)), (3, .int (nI x)), (4, .int (nI y)), (5, .int (nI 1)), (6, .int (nI (wof (some s) (some x) (nAc (gN σ74 r))).length))]) [1, 2, 3, 4, 5, 0, 6] rfl ?_
              refine g_iload (pc := 97) C dX11_goesOn_97 5 rfl ?_
              refine g_if_eq (pc := 99) C dX11_goesOn_99 (tgt := 126) (by decide) (fun c_99 => ?_) (fun c_99 => ?_)
              ·
                exfalso
                revert c_99; decide
              ·
                have c_99 : ¬ 1 = 0 := fun h => c_99 ((nI_eq (a := 1) (b := 0) (by omega) (by omega)).mpr h)
                refine g_aload_n (pc := 102) C dX11_goesOn_102 0 rfl ?_
                refine g_iload_n (pc := 103) C dX11_goesOn_103 1 rfl ?_
                refine g_iload_n (pc := 104) C dX11_goesOn_104 3 rfl ?_
                refine g_callV (pc := 105) C (As := [.int (nI r), .int (nI x)]) (rest := []) (b := m) (c_X11_isActive A P g_75 m r x (by omega) (by omega) (hS_σ74.a16 (by omega)) (by rw [hZ_σ74]; exact h_78) h_79 hR_68) h_78 rfl rfl Y_X11_isActive u_957 N_X11_isActive ⟨by decide, by decide⟩ ⟨by decide, by decide⟩ (Nat.le_of_ble_eq_true rfl) rfl dX11_goesOn_105 ?_
                rintro _ _ _ _ ⟨rfl, rfl, rfl, rfl⟩
                show V K 0 0 P A g_75 [(0, .ref (A m)), (1, .int (nI r)), (2, .int (nI s)), (3, .int (nI x)), (4, .int (nI y)), (5, .int (nI 1)), (6, .int (nI (wof (some s) (some x) (nAc (gN σ74 r))).length))] 108 [.int (b32 (decide (x ∈ nAc (gN σ74 r))))]
                refine g_if_ne (pc := 108) C dX11_goesOn_108 (tgt := 126) (by decide) (fun c_108 => ?_) (fun c_108 => ?_)
                ·
                  have c_108 : (decide (x ∈ nAc (gN σ74 r))) = true := b32_no c_108
                  have c_108 : (x ∈ nAc (gN σ74 r)) := of_decide_eq_true c_108
                  exact g_vret (pc := 126) C R ⟨rfl, rfl, rfl, ⟨_, h_79, by rw [wlk_e hx c_2 (by omega) hnt (by omega)]; rw [wend_y c_108]; exact hR_68⟩, ⟨_, hs_77⟩, fun k hk1 hk2 => by rw [hf_76 k (by omega), hf_69 k (by omega)]⟩ (by decide) (by decide) dX11_goesOn_126
                ·
                  have c_108 : (decide (x ∈ nAc (gN σ74 r))) = false := b32_yes c_108
                  have c_108 : ¬ (x ∈ nAc (gN σ74 r)) := of_decide_eq_false c_108
                  refine g_aload_n (pc := 111) C dX11_goesOn_111 0 rfl ?_
                  refine g_iload_n (pc := 112) C dX11_goesOn_112 1 rfl ?_
                  refine g_iload_n (pc := 113) C dX11_goesOn_113 3 rfl ?_
                  refine g_callV (pc := 114) C (As := [.int (nI r), .int (nI x)]) (rest := []) (b := m) (c_X11_add A P g_75 m r x (by omega) (by omega) hS_σ74 hp_80 hp_81 (by rw [hZ_σ74]; exact h_78) h_79 hR_68) h_78 rfl rfl Y_X11_add u_1025 N_X11_add ⟨by decide, by decide⟩ ⟨by decide, by decide⟩ (Nat.le_of_ble_eq_true rfl) rfl dX11_goesOn_114 ?_
                  rintro _ _ _ g_82 ⟨rfl, rfl, rfl, ⟨Z_83, hZ_83, hR_84⟩, hf_85⟩
                  have h_86 := hf_85.at (by omega) h_78
                  have h_87 := hf_85.at (by omega) hw1
                  have hp_88 := MC.fr hp_80 hf_85 (by omega)
                  have hp_89 := SO.fr hp_81 hf_85 (by omega)
                  have hp_90 := SO.fr hs_77 hf_85 (by omega)
                  obtain ⟨σ91, hσ91⟩ : ∃ sM : Sg, sM = add cs σ74 r x := ⟨_, rfl⟩
                  rw [← hσ91] at hR_84
                  have hK_σ91 : gK σ91 = gK σ := (congrArg gK hσ91).trans (add_K.trans hK_σ74)
                  have hT_σ91 : gT σ91 = gT σ := (congrArg gT hσ91).trans (add_T.trans hT_σ74)
                  have hZ_σ91 : gZ σ91 = gZ σ := (congrArg gZ hσ91).trans (add_Z.trans hZ_σ74)
                  have hS_σ91 : SW B cs σ91 := by rw [hσ91]; exact add_SW hS_σ74 (by omega) (by omega)
                  show V K 0 0 P A g_82 [(0, .ref (A m)), (1, .int (nI r)), (2, .int (nI s)), (3, .int (nI x)), (4, .int (nI y)), (5, .int (nI 1)), (6, .int (nI (wof (some s) (some x) (nAc (gN σ74 r))).length))] 117 []
                  refine g_aload_n (pc := 117) C dX11_goesOn_117 0 rfl ?_
                  refine g_iload_n (pc := 118) C dX11_goesOn_118 1 rfl ?_
                  refine g_iload_n (pc := 119) C dX11_goesOn_119 3 rfl ?_
                  refine g_iconst (pc := 120) C dX11_goesOn_120 (v := nI 3) rfl ?_
                  refine g_iconst (pc := 121) C dX11_goesOn_121 (v := nI 0) rfl ?_
                  refine g_iconst (pc := 122) C dX11_goesOn_122 (v := nI 0) rfl ?_
                  refine g_callV (pc := 123) C (As := [.int (nI r), .int (nI x), .int (nI 3), .int (nI 0), .int (nI 0)]) (rest := []) (b := m) (c_X11_send A P g_82 m r x 3 0 0 hp_89 (by omega) (by rw [hZ_σ91]; exact h_86) hZ_83 hR_84) h_86 rfl rfl Y_X11_send u_933 N_X11_send ⟨by decide, by decide⟩ ⟨by decide, by decide⟩ (Nat.le_of_ble_eq_true rfl) rfl dX11_goesOn_123 ?_
                  rintro _ _ _ g_92 ⟨rfl, rfl, rfl, ⟨Z_93, hZ_93, hR_94⟩, hf_95⟩
                  have h_96 := hf_95.at (by omega) h_86
                  have h_97 := hf_95.at (by omega) h_87
                  have hp_98 := MC.fr hp_88 hf_95 (by omega)
                  have hp_99 := SO.fr hp_89 hf_95 (by omega)
                  have hp_100 := SO.fr hp_90 hf_95 (by omega)
                  obtain ⟨σ101, hσ101⟩ : ∃ sM : Sg, sM = snd σ91 r x 3 0 0 [] := ⟨_, rfl⟩
                  rw [← hσ101] at hR_94
                  have hK_σ101 : gK σ101 = gK σ := (congrArg gK hσ101).trans (snd_K.trans hK_σ91)
                  have hT_σ101 : gT σ101 = gT σ := (congrArg gT hσ101).trans (snd_T.trans hT_σ91)
                  have hZ_σ101 : gZ σ101 = gZ σ := (congrArg gZ hσ101).trans (snd_Z.trans hZ_σ91)
                  have hS_σ101 : SW B cs σ101 := by rw [hσ101]; exact SW.sent hS_σ91 (by omega) (by omega) (lw_0 (by omega) (by omega) (by omega))
                  show V K 0 0 P A g_92 [(0, .ref (A m)), (1, .int (nI r)), (2, .int (nI s)), (3, .int (nI x)), (4, .int (nI y)), (5, .int (nI 1)), (6, .int (nI (wof (some s) (some x) (nAc (gN σ74 r))).length))] 126 []
                  exact g_vret (pc := 126) C R ⟨rfl, rfl, rfl, ⟨_, hZ_93, by rw [wlk_e hx c_2 (by omega) hnt (by omega)]; rw [wend_n c_108, ← hσ91, ← hσ101]; exact hR_94⟩, ⟨_, hp_100⟩, fun k hk1 hk2 => by rw [hf_95 k (by omega), hf_85 k (by omega), hf_76 k (by omega), hf_69 k (by omega)]⟩ (by decide) (by decide) dX11_goesOn_126
          ·
            have c_56 : ¬ (wof (some s) (some x) (nAc (gN σ74 r))).length ≤ 0 := fun h => c_56 ((nI_leI (a := (wof (some s) (some x) (nAc (gN σ74 r))).length) (b := 0) (by omega) (by omega)).mpr h)
            refine g_aload_n (pc := 59) C dX11_goesOn_59 0 rfl ?_
            refine g_get (pc := 60) C (j := 10) h_78 rfl rfl (by decide) u_862 dX11_goesOn_60 ?_
            refine g_aload_n (pc := 63) C dX11_goesOn_63 0 rfl ?_
            refine g_iload (pc := 64) C dX11_goesOn_64 6 rfl ?_
            refine g_callV (pc := 66) C (As := [.int (nI (wof (some s) (some x) (nAc (gN σ74 r))).length)]) (rest := [.ref (A (m + 4))]) (b := m) (c_X11_draw A P g_75 m (wof (some s) (some x) (nAc (gN σ74 r))).length (by omega) (by omega) hp_80 hS_σ74.nx (by rw [hZ_σ74]; exact h_78) h_79 hR_68) h_78 rfl rfl Y_X11_draw u_973 N_X11_draw ⟨by decide, by decide⟩ ⟨by decide, by decide⟩ (Nat.le_of_ble_eq_true rfl) rfl dX11_goesOn_66 ?_
            rintro _ _ _ g_102 ⟨rfl, rfl, rfl, ⟨Z_103, hZ_103, hR_104⟩, hf_105⟩
            have h_106 := hf_105.at (by omega) h_78
            have h_107 := hf_105.at (by omega) hw1
            have hp_108 := MC.fr hp_80 hf_105 (by omega)
            have hp_109 := SO.fr hp_81 hf_105 (by omega)
            have hp_110 := SO.fr hs_77 hf_105 (by omega)
            obtain ⟨σ111, hσ111⟩ : ∃ sM : Sg, sM = dS cs σ74 (wof (some s) (some x) (nAc (gN σ74 r))).length := ⟨_, rfl⟩
            rw [← hσ111] at hR_104
            have hK_σ111 : gK σ111 = gK σ := (congrArg gK hσ111).trans (dS_K.trans hK_σ74)
            have hT_σ111 : gT σ111 = gT σ := (congrArg gT hσ111).trans (dS_T.trans hT_σ74)
            have hZ_σ111 : gZ σ111 = gZ σ := (congrArg gZ hσ111).trans (dS_Z.trans hZ_σ74)
            have hS_σ111 : SW B cs σ111 := by rw [hσ111]; exact hS_σ74.drw
            have hN_σ111 : gN σ111 = gN σ74 := (congrArg gN hσ111).trans dS_N
            have hd_σ111 := dI_lt (cs := cs) (σ := σ74) (n := (wof (some s) (some x) (nAc (gN σ74 r))).length) (by omega)
            show V K 0 0 P A g_102 [(0, .ref (A m)), (1, .int (nI r)), (2, .int (nI s)), (3, .int (nI x)), (4, .int (nI y)), (5, .int (nI 0)), (6, .int (nI (wof (some s) (some x) (nAc (gN σ74 r))).length))] 69 [.int (nI (dI cs σ74 (wof (some s) (some x) (nAc (gN σ74 r))).length)), .ref (A (m + 4))]
            have hqm : (wof (some s) (some x) (nAc (gN σ74 r))).getD (dI cs σ74 (wof (some s) (some x) (nAc (gN σ74 r))).length) 0 ∈ nAc (gN σ74 r) := wof_mem (getD_mem (by omega))
            have hqK := (hS_σ74.nw (i := r) (by omega)).2.1 _ hqm
            refine g_iald (pc := 69) C h_107 (nI_clamp (by omega)) (nI_in0 (by omega) (by omega)) dX11_goesOn_69 (x := nI ((wof (some s) (some x) (nAc (gN σ74 r))).getD (dI cs σ74 (wof (some s) (some x) (nAc (gN σ74 r))).length) 0)) (hw2 _ (by omega)) ?_
            refine g_istore (pc := 70) C dX11_goesOn_70 (by decide) (lv' := [(0, .ref (A m)), (1, .int (nI r)), (2, .int (nI s)), (3, .int (nI x)), (4, .int (nI y)), (5, .int (nI 0)), (6, .int (nI (wof (some s) (some x) (nAc (gN σ74 r))).length)), (7, .int (nI ((wof (some s) (some x) (nAc (gN σ74 r))).getD (dI cs σ74 (wof (some s) (some x) (nAc (gN σ74 r))).length) 0)))]) [1, 2, 3, 4, 5, 6, 7, 0] rfl ?_
            refine g_aload_n (pc := 72) C dX11_goesOn_72 0 rfl ?_
            refine g_iload_n (pc := 73) C dX11_goesOn_73 1 rfl ?_
            refine g_iload (pc := 74) C dX11_goesOn_74 7 rfl ?_
            refine g_iconst (pc := 76) C dX11_goesOn_76 (v := nI 2) rfl ?_
            refine g_iload_n (pc := 77) C dX11_goesOn_77 3 rfl ?_
            refine g_iload (pc := 78) C dX11_goesOn_78 4 rfl ?_
            refine g_iconst (pc := 80) C dX11_goesOn_80 (v := nI 1) rfl ?_
            refine g_isub (pc := 81) C dX11_goesOn_81 (z := nI (y - 1)) (pk_sub (by omega)) ?_
            refine g_callV (pc := 82) C (As := [.int (nI r), .int (nI ((wof (some s) (some x) (nAc (gN σ74 r))).getD (dI cs σ74 (wof (some s) (some x) (nAc (gN σ74 r))).length) 0)), .int (nI 2), .int (nI x), .int (nI (y - 1))]) (rest := []) (b := m) (c_X11_send A P g_102 m r ((wof (some s) (some x) (nAc (gN σ74 r))).getD (dI cs σ74 (wof (some s) (some x) (nAc (gN σ74 r))).length) 0) 2 x (y - 1) hp_109 (by omega) (by rw [hZ_σ111]; exact h_106) hZ_103 hR_104) h_106 rfl rfl Y_X11_send u_933 N_X11_send ⟨by decide, by decide⟩ ⟨by decide, by decide⟩ (Nat.le_of_ble_eq_true rfl) rfl dX11_goesOn_82 ?_
            rintro _ _ _ g_112 ⟨rfl, rfl, rfl, ⟨Z_113, hZ_113, hR_114⟩, hf_115⟩
            have h_116 := hf_115.at (by omega) h_106
            have h_117 := hf_115.at (by omega) h_107
            have hp_118 := MC.fr hp_108 hf_115 (by omega)
            have hp_119 := SO.fr hp_109 hf_115 (by omega)
            have hp_120 := SO.fr hp_110 hf_115 (by omega)
            obtain ⟨σ121, hσ121⟩ : ∃ sM : Sg, sM = snd σ111 r ((wof (some s) (some x) (nAc (gN σ74 r))).getD (dI cs σ74 (wof (some s) (some x) (nAc (gN σ74 r))).length) 0) 2 x (y - 1) [] := ⟨_, rfl⟩
            rw [← hσ121] at hR_114
            have hK_σ121 : gK σ121 = gK σ := (congrArg gK hσ121).trans (snd_K.trans hK_σ111)
            have hT_σ121 : gT σ121 = gT σ := (congrArg gT hσ121).trans (snd_T.trans hT_σ111)
            have hZ_σ121 : gZ σ121 = gZ σ := (congrArg gZ hσ121).trans (snd_Z.trans hZ_σ111)
            show V K 0 0 P A g_112 [(0, .ref (A m)), (1, .int (nI r)), (2, .int (nI s)), (3, .int (nI x)), (4, .int (nI y)), (5, .int (nI 0)), (6, .int (nI (wof (some s) (some x) (nAc (gN σ74 r))).length)), (7, .int (nI ((wof (some s) (some x) (nAc (gN σ74 r))).getD (dI cs σ74 (wof (some s) (some x) (nAc (gN σ74 r))).length) 0)))] 85 []
            refine g_iload (pc := 85) C dX11_goesOn_85 6 rfl ?_
            refine g_if_ne (pc := 87) C dX11_goesOn_87 (tgt := 94) (by decide) (fun c_87 => ?_) (fun c_87 => ?_)
            ·
              have c_87 : ¬ (wof (some s) (some x) (nAc (gN σ74 r))).length = 0 := fun h => c_87 ((nI_eq (a := (wof (some s) (some x) (nAc (gN σ74 r))).length) (b := 0) (by omega) (by omega)).mpr h)
              refine g_iconst (pc := 94) C dX11_goesOn_94 (v := nI 0) rfl ?_
              refine g_istore (pc := 95) C dX11_goesOn_95 (by decide) (lv' := [(0, .ref (A m)), (1, .int (nI r)), (2, .int (nI s)), (3, .int (nI x)), (4, .int (nI y)), (5, .int (nI 0)), (6, .int (nI (wof (some s) (some x) (nAc (gN σ74 r))).length)), (7, .int (nI ((wof (some s) (some x) (nAc (gN σ74 r))).getD (dI cs σ74 (wof (some s) (some x) (nAc (gN σ74 r))).length) 0)))]) [1, 2, 3, 4, 5, 0, 6, 7] rfl ?_
              refine g_iload (pc := 97) C dX11_goesOn_97 5 rfl ?_
              refine g_if_eq (pc := 99) C dX11_goesOn_99 (tgt := 126) (by decide) (fun c_99 => ?_) (fun c_99 => ?_)
              ·
                have c_99 : 0 = 0 := (nI_eq (by omega) (by omega)).mp c_99
                exact g_vret (pc := 126) C R ⟨rfl, rfl, rfl, ⟨_, hZ_113, by rw [wlk_s hx c_2 (by omega) hnt (dpV_some (by omega)) hσ111, ← hσ121]; exact hR_114⟩, ⟨_, hp_120⟩, fun k hk1 hk2 => by rw [hf_115 k (by omega), hf_105 k (by omega), hf_76 k (by omega), hf_69 k (by omega)]⟩ (by decide) (by decide) dX11_goesOn_126
              ·
                exfalso
                revert c_99; decide
            ·
              have c_87 : (wof (some s) (some x) (nAc (gN σ74 r))).length = 0 := (nI_eq (by omega) (by omega)).mp c_87
              exfalso; omega
    ·
      have c_15 : ¬ 2 ≤ (nAc (gN σ r)).length := fun h => c_15 ((nI_leI (a := 2) (b := (nAc (gN σ r)).length) (by omega) (by omega)).mpr h)
      refine g_iconst (pc := 18) C dX11_goesOn_18 (v := nI 1) rfl ?_
      refine g_goto (pc := 19) C dX11_goesOn_19 (tgt := 23) (by decide) ?_
      refine g_istore (pc := 23) C dX11_goesOn_23 (by decide) (lv' := [(0, .ref (A m)), (1, .int (nI r)), (2, .int (nI s)), (3, .int (nI x)), (4, .int (nI y)), (5, .int (nI 1))]) [1, 2, 3, 4, 5, 0] rfl ?_
      refine g_iload (pc := 25) C dX11_goesOn_25 5 rfl ?_
      refine g_if_ne (pc := 27) C dX11_goesOn_27 (tgt := 97) (by decide) (fun c_27 => ?_) (fun c_27 => ?_)
      ·
        have c_27 : ¬ 1 = 0 := fun h => c_27 ((nI_eq (a := 1) (b := 0) (by omega) (by omega)).mpr h)
        refine g_iload (pc := 97) C dX11_goesOn_97 5 rfl ?_
        refine g_if_eq (pc := 99) C dX11_goesOn_99 (tgt := 126) (by decide) (fun c_99 => ?_) (fun c_99 => ?_)
        ·
          exfalso
          revert c_99; decide
        ·
          have c_99 : ¬ 1 = 0 := fun h => c_99 ((nI_eq (a := 1) (b := 0) (by omega) (by omega)).mpr h)
          refine g_aload_n (pc := 102) C dX11_goesOn_102 0 rfl ?_
          refine g_iload_n (pc := 103) C dX11_goesOn_103 1 rfl ?_
          refine g_iload_n (pc := 104) C dX11_goesOn_104 3 rfl ?_
          refine g_callV (pc := 105) C (As := [.int (nI r), .int (nI x)]) (rest := []) (b := m) (c_X11_isActive A P g m r x (by omega) (by omega) (hS.a16 (by omega)) hO hZ hR) hO rfl rfl Y_X11_isActive u_957 N_X11_isActive ⟨by decide, by decide⟩ ⟨by decide, by decide⟩ (Nat.le_of_ble_eq_true rfl) rfl dX11_goesOn_105 ?_
          rintro _ _ _ _ ⟨rfl, rfl, rfl, rfl⟩
          show V K 0 0 P A g [(0, .ref (A m)), (1, .int (nI r)), (2, .int (nI s)), (3, .int (nI x)), (4, .int (nI y)), (5, .int (nI 1))] 108 [.int (b32 (decide (x ∈ nAc (gN σ r))))]
          refine g_if_ne (pc := 108) C dX11_goesOn_108 (tgt := 126) (by decide) (fun c_108 => ?_) (fun c_108 => ?_)
          ·
            have c_108 : (decide (x ∈ nAc (gN σ r))) = true := b32_no c_108
            have c_108 : (x ∈ nAc (gN σ r)) := of_decide_eq_true c_108
            exact g_vret (pc := 126) C R ⟨rfl, rfl, rfl, ⟨_, hZ, by rw [wlk_a hx (by omega)]; rw [wend_y c_108]; exact hR⟩, ⟨_, hl4⟩, fun k hk1 hk2 => rfl⟩ (by decide) (by decide) dX11_goesOn_126
          ·
            have c_108 : (decide (x ∈ nAc (gN σ r))) = false := b32_yes c_108
            have c_108 : ¬ (x ∈ nAc (gN σ r)) := of_decide_eq_false c_108
            refine g_aload_n (pc := 111) C dX11_goesOn_111 0 rfl ?_
            refine g_iload_n (pc := 112) C dX11_goesOn_112 1 rfl ?_
            refine g_iload_n (pc := 113) C dX11_goesOn_113 3 rfl ?_
            refine g_callV (pc := 114) C (As := [.int (nI r), .int (nI x)]) (rest := []) (b := m) (c_X11_add A P g m r x (by omega) (by omega) hS hC hl3 hO hZ hR) hO rfl rfl Y_X11_add u_1025 N_X11_add ⟨by decide, by decide⟩ ⟨by decide, by decide⟩ (Nat.le_of_ble_eq_true rfl) rfl dX11_goesOn_114 ?_
            rintro _ _ _ g_122 ⟨rfl, rfl, rfl, ⟨Z_123, hZ_123, hR_124⟩, hf_125⟩
            have h_126 := hf_125.at (by omega) hO
            have hp_127 := MC.fr hC hf_125 (by omega)
            have hp_128 := SO.fr hl3 hf_125 (by omega)
            have hp_129 := SO.fr hl4 hf_125 (by omega)
            obtain ⟨σ130, hσ130⟩ : ∃ sM : Sg, sM = add cs σ r x := ⟨_, rfl⟩
            rw [← hσ130] at hR_124
            have hK_σ130 : gK σ130 = gK σ := (congrArg gK hσ130).trans (add_K.trans (rfl : gK σ = gK σ))
            have hT_σ130 : gT σ130 = gT σ := (congrArg gT hσ130).trans (add_T.trans (rfl : gT σ = gT σ))
            have hZ_σ130 : gZ σ130 = gZ σ := (congrArg gZ hσ130).trans (add_Z.trans (rfl : gZ σ = gZ σ))
            have hS_σ130 : SW B cs σ130 := by rw [hσ130]; exact add_SW hS (by omega) (by omega)
            show V K 0 0 P A g_122 [(0, .ref (A m)), (1, .int (nI r)), (2, .int (nI s)), (3, .int (nI x)), (4, .int (nI y)), (5, .int (nI 1))] 117 []
            refine g_aload_n (pc := 117) C dX11_goesOn_117 0 rfl ?_
            refine g_iload_n (pc := 118) C dX11_goesOn_118 1 rfl ?_
            refine g_iload_n (pc := 119) C dX11_goesOn_119 3 rfl ?_
            refine g_iconst (pc := 120) C dX11_goesOn_120 (v := nI 3) rfl ?_
            refine g_iconst (pc := 121) C dX11_goesOn_121 (v := nI 0) rfl ?_
            refine g_iconst (pc := 122) C dX11_goesOn_122 (v := nI 0) rfl ?_
            refine g_callV (pc := 123) C (As := [.int (nI r), .int (nI x), .int (nI 3), .int (nI 0), .int (nI 0)]) (rest := []) (b := m) (c_X11_send A P g_122 m r x 3 0 0 hp_128 (by omega) (by rw [hZ_σ130]; exact h_126) hZ_123 hR_124) h_126 rfl rfl Y_X11_send u_933 N_X11_send ⟨by decide, by decide⟩ ⟨by decide, by decide⟩ (Nat.le_of_ble_eq_true rfl) rfl dX11_goesOn_123 ?_
            rintro _ _ _ g_131 ⟨rfl, rfl, rfl, ⟨Z_132, hZ_132, hR_133⟩, hf_134⟩
            have h_135 := hf_134.at (by omega) h_126
            have hp_136 := MC.fr hp_127 hf_134 (by omega)
            have hp_137 := SO.fr hp_128 hf_134 (by omega)
            have hp_138 := SO.fr hp_129 hf_134 (by omega)
            obtain ⟨σ139, hσ139⟩ : ∃ sM : Sg, sM = snd σ130 r x 3 0 0 [] := ⟨_, rfl⟩
            rw [← hσ139] at hR_133
            have hK_σ139 : gK σ139 = gK σ := (congrArg gK hσ139).trans (snd_K.trans hK_σ130)
            have hT_σ139 : gT σ139 = gT σ := (congrArg gT hσ139).trans (snd_T.trans hT_σ130)
            have hZ_σ139 : gZ σ139 = gZ σ := (congrArg gZ hσ139).trans (snd_Z.trans hZ_σ130)
            have hS_σ139 : SW B cs σ139 := by rw [hσ139]; exact SW.sent hS_σ130 (by omega) (by omega) (lw_0 (by omega) (by omega) (by omega))
            show V K 0 0 P A g_131 [(0, .ref (A m)), (1, .int (nI r)), (2, .int (nI s)), (3, .int (nI x)), (4, .int (nI y)), (5, .int (nI 1))] 126 []
            exact g_vret (pc := 126) C R ⟨rfl, rfl, rfl, ⟨_, hZ_132, by rw [wlk_a hx (by omega)]; rw [wend_n c_108, ← hσ130, ← hσ139]; exact hR_133⟩, ⟨_, hp_138⟩, fun k hk1 hk2 => by rw [hf_134 k (by omega), hf_125 k (by omega)]⟩ (by decide) (by decide) dX11_goesOn_126
      ·
        exfalso
        revert c_27; decide
abbrev rm_X11_joins : Room := { frames := 6, cells := 0, slots := 0, locals := 151 }
theorem Y_X11_joins : pY yX11_joins cX11_joins 8 (Option.none : Option Jvm.ClassFile.FieldType) := ⟨u_1023, us_20, u_13, u_1024⟩
theorem N_X11_joins : yX11_joins.cls ≠ "java/lang/invoke/MethodHandle" ∧ yX11_joins.cls ≠ "java/lang/invoke/VarHandle" ∧ (parseMethodDescriptor yX11_joins.desc).map (fun d => d.parameters.length) = some 5 := by decide +kernel
set_option maxRecDepth 20000 in
set_option maxHeartbeats 4000000 in
theorem c_X11_joins (A : Nat → Nat) (P : List Nat) (g : pM) (m : Nat) {cs : List Nat} {lm gm : Nat} {Z : Nat → Int32} {σ : Sg} {B : Nat} (r s k x y : Nat) (l : List Nat) (hr : r < gK σ) (hs : s < gK σ) (hk : k = 1 ∨ k = 2 ∨ k = 3) (hxK : k = 2 → x < gK σ) (hx30 : x < 2 ^ 31) (hy : y < 2 ^ 31) (hS : SW B cs σ) (hC : MC g m cs) {l3 : List Nat} (hl3 : SO g (m + 3) 5 l3) {l4 : List Nat} (hl4 : SO g (m + 4) 16 l4) (hO : g m = mOb A m (gZ σ) cs.length lm gm) (hZ : g (m + 1) = ai 0 10511 Z) (hR : RZ Z σ) : PM yX11_joins cX11_joins 8 (Option.none : Option Jvm.ClassFile.FieldType) rm_X11_joins [.ref (A m), .int (nI r), .int (nI s), .int (nI k), .int (nI x), .int (nI y)] P A g (fun v g' => v = none ∧ ZS g' m (cme2 cs σ r s k x y l) ∧ (∃ l, SO g' (m + 4) 16 l) ∧ FrZ g g' m) := by
  have hK := hR.k16
  have hT := hR.t24
  have hL := hR.le
  have hzw := hS.2.2.2.1
  have hz0 := hzw.1
  have hz1 := hzw.2.1
  have hz2 := hzw.2.2.1
  have hz3 := hzw.2.2.2.1
  have hn := hS.nw hr
  have hle1 := hn.2.2.2.2.1
  have hle2 := hn.2.2.2.2.2.1
  have hc5 := hR.ac5 hr
  have hc8 := hR.pa8 hr
  have ha16 := hS.a16 hr
  have hp16 := hS.p16 hr
  have hz5 := hzw.2.2.2.2.2.1
  refine px_intro (by decide +kernel) (Nat.le_of_ble_eq_true rfl) (fun K sz C R => ?_)
  show V K 0 0 P A g [(0, .ref (A m)), (1, .int (nI r)), (2, .int (nI s)), (3, .int (nI k)), (4, .int (nI x)), (5, .int (nI y))] 0 []
  refine g_iload_n (pc := 0) C dX11_joins_0 3 rfl ?_
  refine g_iconst (pc := 1) C dX11_joins_1 (v := nI 1) rfl ?_
  refine g_icmp_ne (pc := 2) C dX11_joins_2 (tgt := 66) (by decide) (fun c_2 => ?_) (fun c_2 => ?_)
  ·
    have c_2 : ¬ k = 1 := fun h => c_2 ((nI_eq (a := k) (b := 1) (by omega) (by omega)).mpr h)
    refine g_iload_n (pc := 66) C dX11_joins_66 3 rfl ?_
    refine g_iconst (pc := 67) C dX11_joins_67 (v := nI 3) rfl ?_
    refine g_icmp_ne (pc := 68) C dX11_joins_68 (tgt := 90) (by decide) (fun c_68 => ?_) (fun c_68 => ?_)
    ·
      have c_68 : ¬ k = 3 := fun h => c_68 ((nI_eq (a := k) (b := 3) (by omega) (by omega)).mpr h)
      refine g_iload (pc := 90) C dX11_joins_90 4 rfl ?_
      refine g_iload_n (pc := 92) C dX11_joins_92 1 rfl ?_
      refine g_icmp_eq (pc := 93) C dX11_joins_93 (tgt := 106) (by decide) (fun c_93 => ?_) (fun c_93 => ?_)
      ·
        have c_93 : x = r := (nI_eq (by omega) (by omega)).mp c_93
        exact g_vret (pc := 106) C R ⟨rfl, rfl, rfl, ⟨_, hZ, by rw [cme2_2 (by omega), wlk_i c_93]; exact hR⟩, ⟨_, hl4⟩, fun k hk1 hk2 => rfl⟩ (by decide) (by decide) dX11_joins_106
      ·
        have c_93 : ¬ x = r := fun h => c_93 ((nI_eq (a := x) (b := r) (by omega) (by omega)).mpr h)
        have hxk := hxK (by omega)
        have c_93 : ¬ x = r := c_93
        refine g_aload_n (pc := 96) C dX11_joins_96 0 rfl ?_
        refine g_iload_n (pc := 97) C dX11_joins_97 1 rfl ?_
        refine g_iload_n (pc := 98) C dX11_joins_98 2 rfl ?_
        refine g_iload (pc := 99) C dX11_joins_99 4 rfl ?_
        refine g_iload (pc := 101) C dX11_joins_101 5 rfl ?_
        refine g_callV (pc := 103) C (As := [.int (nI r), .int (nI s), .int (nI x), .int (nI y)]) (rest := []) (b := m) (c_X11_goesOn A P g m r s x y (by omega) (by omega) (by omega) (by omega) (by assumption) hS hC hl3 hl4 hO hZ hR) hO rfl rfl Y_X11_goesOn u_1049 N_X11_goesOn ⟨by decide, by decide⟩ ⟨by decide, by decide⟩ (Nat.le_of_ble_eq_true rfl) rfl dX11_joins_103 ?_
        rintro _ _ _ g_1 ⟨rfl, rfl, rfl, ⟨Z_2, hZ_2, hR_3⟩, ⟨lx_6, hs_5⟩, hf_4⟩
        have h_7 := hf_4.at (by omega) hO
        have hp_8 := MC.frz hC hf_4 (by omega)
        have hp_9 := SO.frz hl3 hf_4 (by omega)
        show V K 0 0 P A g_1 [(0, .ref (A m)), (1, .int (nI r)), (2, .int (nI s)), (3, .int (nI k)), (4, .int (nI x)), (5, .int (nI y))] 106 []
        exact g_vret (pc := 106) C R ⟨rfl, rfl, rfl, ⟨_, hZ_2, by rw [cme2_2 (by omega)]; exact hR_3⟩, ⟨_, hs_5⟩, fun k hk1 hk2 => by rw [hf_4 k (by omega) (by omega)]⟩ (by decide) (by decide) dX11_joins_106
    ·
      have c_68 : k = 3 := (nI_eq (by omega) (by omega)).mp c_68
      refine g_aload_n (pc := 71) C dX11_joins_71 0 rfl ?_
      refine g_iload_n (pc := 72) C dX11_joins_72 1 rfl ?_
      refine g_iload_n (pc := 73) C dX11_joins_73 2 rfl ?_
      refine g_callV (pc := 74) C (As := [.int (nI r), .int (nI s)]) (rest := []) (b := m) (c_X11_add A P g m r s (by omega) (by omega) hS hC hl3 hO hZ hR) hO rfl rfl Y_X11_add u_1025 N_X11_add ⟨by decide, by decide⟩ ⟨by decide, by decide⟩ (Nat.le_of_ble_eq_true rfl) rfl dX11_joins_74 ?_
      rintro _ _ _ g_10 ⟨rfl, rfl, rfl, ⟨Z_11, hZ_11, hR_12⟩, hf_13⟩
      have h_14 := hf_13.at (by omega) hO
      have hp_15 := MC.fr hC hf_13 (by omega)
      have hp_16 := SO.fr hl3 hf_13 (by omega)
      have hp_17 := SO.fr hl4 hf_13 (by omega)
      obtain ⟨σ18, hσ18⟩ : ∃ sM : Sg, sM = add cs σ r s := ⟨_, rfl⟩
      rw [← hσ18] at hR_12
      have hK_σ18 : gK σ18 = gK σ := (congrArg gK hσ18).trans (add_K.trans (rfl : gK σ = gK σ))
      have hT_σ18 : gT σ18 = gT σ := (congrArg gT hσ18).trans (add_T.trans (rfl : gT σ = gT σ))
      have hZ_σ18 : gZ σ18 = gZ σ := (congrArg gZ hσ18).trans (add_Z.trans (rfl : gZ σ = gZ σ))
      have hS_σ18 : SW B cs σ18 := by rw [hσ18]; exact add_SW hS (by omega) (by omega)
      show V K 0 0 P A g_10 [(0, .ref (A m)), (1, .int (nI r)), (2, .int (nI s)), (3, .int (nI k)), (4, .int (nI x)), (5, .int (nI y))] 77 []
      refine g_aload_n (pc := 77) C dX11_joins_77 0 rfl ?_
      refine g_get (pc := 78) C (j := 0) h_14 rfl rfl (by decide) u_852 dX11_joins_78 ?_
      refine g_bipush (pc := 81) C dX11_joins_81 (v := nI 64) rfl ?_
      refine g_iload_n (pc := 83) C dX11_joins_83 1 rfl ?_
      refine g_iadd (pc := 84) C dX11_joins_84 (z := nI (64 + r)) (nI_add _ _) ?_
      refine g_iconst (pc := 85) C dX11_joins_85 (v := nI 0) rfl ?_
      refine g_iast (pc := 86) C hZ_11 (nI_clamp (by omega)) (nI_in0 (n := 10511) (by omega) (by omega)) dX11_joins_86 ?_
      obtain ⟨Z_19, hZ_19⟩ : ∃ yZ : Nat → Int32, yZ = upd Z_11 (64 + r) (nI 0) := ⟨_, rfl⟩
      show V K 0 0 P A (va_up g_10 (m + 1) (ai 0 10511 (upd Z_11 (64 + r) (nI 0)))) [(0, .ref (A m)), (1, .int (nI r)), (2, .int (nI s)), (3, .int (nI k)), (4, .int (nI x)), (5, .int (nI y))] 87 []
      rw [← hZ_19]
      obtain ⟨g_20, hg_20⟩ : ∃ yM : pM, yM = va_up g_10 (m + 1) (ai 0 10511 Z_19) := ⟨_, rfl⟩
      show V K 0 0 P A (va_up g_10 (m + 1) (ai 0 10511 Z_19)) [(0, .ref (A m)), (1, .int (nI r)), (2, .int (nI s)), (3, .int (nI k)), (4, .int (nI x)), (5, .int (nI y))] 87 []
      rw [← hg_20]
      have h_21 : g_20 m = ob 11 [.ref (A (m + 1)), .int (nI (gZ σ).1), .int (nI (gZ σ).2.1), .int (nI (gZ σ).2.2.1), .int (nI (gZ σ).2.2.2.1), .int (nI (gZ σ).2.2.2.2), .ref (A (m + 2)), .int (nI cs.length), .ref (A (m + 3)), .int (nI lm), .ref (A (m + 4)), .ref (A (m + 5)), .int (nI gm), .ref (A (m + 6)), .ref (A (m + 7)), .ref (A (m + 8))] := by rw [hg_20, va_up_ne _ _ (show m ≠ m + 1 from by omega)]; exact h_14
      have h_22 : g_20 (m + 1) = ai 0 10511 Z_19 := by rw [hg_20]; exact va_up_self _ _ _
      have hf_23 : Fr g_10 g_20 (m + 1) (m + 1 + 1) := by rw [hg_20]; exact Fr.up (by omega) (by omega)
      have hp_24 := MC.fr hp_15 hf_23 (by omega)
      have hp_25 := SO.fr hp_16 hf_23 (by omega)
      have hp_26 := SO.fr hp_17 hf_23 (by omega)
      refine g_goto (pc := 87) C dX11_joins_87 (tgt := 106) (by decide) ?_
      exact g_vret (pc := 106) C R ⟨rfl, rfl, rfl, ⟨_, h_22, by rw [cme2_3 c_68, ← hσ18]; exact RZ.wAk (m := 0) hR_12 (by omega) hZ_19⟩, ⟨_, hp_26⟩, fun k hk1 hk2 => by rw [hg_20, va_up_ne _ _ (by omega), hf_13 k (by omega)]⟩ (by decide) (by decide) dX11_joins_106
  ·
    have c_2 : k = 1 := (nI_eq (by omega) (by omega)).mp c_2
    refine g_aload_n (pc := 5) C dX11_joins_5 0 rfl ?_
    refine g_iload_n (pc := 6) C dX11_joins_6 1 rfl ?_
    refine g_iload_n (pc := 7) C dX11_joins_7 2 rfl ?_
    refine g_callV (pc := 8) C (As := [.int (nI r), .int (nI s)]) (rest := []) (b := m) (c_X11_add A P g m r s (by omega) (by omega) hS hC hl3 hO hZ hR) hO rfl rfl Y_X11_add u_1025 N_X11_add ⟨by decide, by decide⟩ ⟨by decide, by decide⟩ (Nat.le_of_ble_eq_true rfl) rfl dX11_joins_8 ?_
    rintro _ _ _ g_27 ⟨rfl, rfl, rfl, ⟨Z_28, hZ_28, hR_29⟩, hf_30⟩
    have h_31 := hf_30.at (by omega) hO
    have hp_32 := MC.fr hC hf_30 (by omega)
    have hp_33 := SO.fr hl3 hf_30 (by omega)
    have hp_34 := SO.fr hl4 hf_30 (by omega)
    obtain ⟨σ35, hσ35⟩ : ∃ sM : Sg, sM = add cs σ r s := ⟨_, rfl⟩
    rw [← hσ35] at hR_29
    have hK_σ35 : gK σ35 = gK σ := (congrArg gK hσ35).trans (add_K.trans (rfl : gK σ = gK σ))
    have hT_σ35 : gT σ35 = gT σ := (congrArg gT hσ35).trans (add_T.trans (rfl : gT σ = gT σ))
    have hZ_σ35 : gZ σ35 = gZ σ := (congrArg gZ hσ35).trans (add_Z.trans (rfl : gZ σ = gZ σ))
    have hS_σ35 : SW B cs σ35 := by rw [hσ35]; exact add_SW hS (by omega) (by omega)
    show V K 0 0 P A g_27 [(0, .ref (A m)), (1, .int (nI r)), (2, .int (nI s)), (3, .int (nI k)), (4, .int (nI x)), (5, .int (nI y))] 11 []
    refine g_aload_n (pc := 11) C dX11_joins_11 0 rfl ?_
    refine g_iload_n (pc := 12) C dX11_joins_12 1 rfl ?_
    refine g_iload_n (pc := 13) C dX11_joins_13 2 rfl ?_
    refine g_iload_n (pc := 14) C dX11_joins_14 2 rfl ?_
    refine g_callV (pc := 15) C (As := [.int (nI r), .int (nI s), .int (nI s)]) (rest := []) (b := m) (c_X11_without A P g_27 m r s s (by omega) (by omega) (by omega) (hS_σ35.a16 (by omega)) hp_34 (by rw [hZ_σ35]; exact h_31) hZ_28 hR_29) h_31 rfl rfl Y_X11_without u_977 N_X11_without ⟨by decide, by decide⟩ ⟨by decide, by decide⟩ (Nat.le_of_ble_eq_true rfl) rfl dX11_joins_15 ?_
    rintro _ _ _ g_36 ⟨rfl, rfl, rfl, hs_38, hf_37⟩
    have h_39 := hf_37.at (by omega) h_31
    have h_40 := hf_37.at (by omega) hZ_28
    have hp_41 := MC.fr hp_32 hf_37 (by omega)
    have hp_42 := SO.fr hp_33 hf_37 (by omega)
    show V K 0 0 P A g_36 [(0, .ref (A m)), (1, .int (nI r)), (2, .int (nI s)), (3, .int (nI k)), (4, .int (nI x)), (5, .int (nI y))] 18 [.int (nI (wof (some s) (some s) (nAc (gN σ35 r))).length)]
    have hwl : (wof (some s) (some s) (nAc (gN σ35 r))).length ≤ 5 := Nat.le_trans (List.length_filter_le _ _) (RZ.ac5 hR_29 (r := r) (by omega))
    have hwm : ∀ x ∈ (wof (some s) (some s) (nAc (gN σ35 r))), x < gK σ35 := fun x hx => (hS_σ35.nw (i := r) (by omega)).2.1 x (wof_mem hx)
    obtain ⟨hw0, rw4, hw1, hw2⟩ := hs_38
    refine g_istore (pc := 18) C dX11_joins_18 (by decide) (lv' := [(0, .ref (A m)), (1, .int (nI r)), (2, .int (nI s)), (3, .int (nI k)), (4, .int (nI x)), (5, .int (nI y)), (6, .int (nI (wof (some s) (some s) (nAc (gN σ35 r))).length))]) [1, 2, 3, 4, 5, 6, 0] rfl ?_
    refine g_iconst (pc := 20) C dX11_joins_20 (v := nI 0) rfl ?_
    refine g_istore (pc := 21) C dX11_joins_21 (by decide) (lv' := [(0, .ref (A m)), (1, .int (nI r)), (2, .int (nI s)), (3, .int (nI k)), (4, .int (nI x)), (5, .int (nI y)), (6, .int (nI (wof (some s) (some s) (nAc (gN σ35 r))).length)), (7, .int (nI 0))]) [1, 2, 3, 4, 5, 6, 7, 0] rfl ?_
    have lp_23 : ∀ (fuel : Nat) (gm23 : pM) (hm23 : Fr g_36 gm23 (m + 1) (m + 2)) (j : Nat) (hj : j ≤ (wof (some s) (some s) (nAc (gN σ35 r))).length) (hz23 : ZS gm23 m (jnW σ35 r s (gZ σ).2.2.1 ((wof (some s) (some s) (nAc (gN σ35 r))).take j))), (wof (some s) (some s) (nAc (gN σ35 r))).length - j < fuel → V K 0 0 P A gm23 [(0, .ref (A m)), (1, .int (nI r)), (2, .int (nI s)), (3, .int (nI k)), (4, .int (nI x)), (5, .int (nI y)), (6, .int (nI (wof (some s) (some s) (nAc (gN σ35 r))).length)), (7, .int (nI j))] 23 [] := by
      intro fuel
      induction fuel with
      | zero => intro gm23 hm23 j hj hz23 hμ; exact absurd hμ (Nat.not_lt_zero _)
      | succ fuel ih =>
        intro gm23 hm23 j hj hz23 hμ
        have h_43 := hm23.at (by omega) h_39
        have h_44 := hm23.at (by omega) hw1
        have hp_45 := MC.fr hp_41 hm23 (by omega)
        have hp_46 := SO.fr hp_42 hm23 (by omega)
        obtain ⟨Zl, hZl, hRl⟩ := hz23
        obtain ⟨σ47, hσ47⟩ : ∃ sM : Sg, sM = jnW σ35 r s (gZ σ).2.2.1 ((wof (some s) (some s) (nAc (gN σ35 r))).take j) := ⟨_, rfl⟩
        rw [← hσ47] at hRl
        have hK_σ47 : gK σ47 = gK σ := (congrArg gK hσ47).trans (jnW_K.trans hK_σ35)
        have hT_σ47 : gT σ47 = gT σ := (congrArg gT hσ47).trans (jnW_T.trans hT_σ35)
        have hZ_σ47 : gZ σ47 = gZ σ := (congrArg gZ hσ47).trans (jnW_Z.trans hZ_σ35)
        refine g_iload (pc := 23) C dX11_joins_23 7 rfl ?_
        refine g_iload (pc := 25) C dX11_joins_25 6 rfl ?_
        refine g_icmp_ge (pc := 27) C dX11_joins_27 (tgt := 54) (by decide) (fun c_27 => ?_) (fun c_27 => ?_)
        ·
          have c_27 : (wof (some s) (some s) (nAc (gN σ35 r))).length ≤ j := (nI_leI (by omega) (by omega)).mp c_27
          refine g_aload_n (pc := 54) C dX11_joins_54 0 rfl ?_
          refine g_iload_n (pc := 55) C dX11_joins_55 1 rfl ?_
          refine g_iload_n (pc := 56) C dX11_joins_56 2 rfl ?_
          refine g_iconst (pc := 57) C dX11_joins_57 (v := nI 3) rfl ?_
          refine g_iconst (pc := 58) C dX11_joins_58 (v := nI 0) rfl ?_
          refine g_iconst (pc := 59) C dX11_joins_59 (v := nI 0) rfl ?_
          refine g_callV (pc := 60) C (As := [.int (nI r), .int (nI s), .int (nI 3), .int (nI 0), .int (nI 0)]) (rest := []) (b := m) (c_X11_send A P gm23 m r s 3 0 0 hp_46 (by omega) (by rw [hZ_σ47]; exact h_43) hZl hRl) h_43 rfl rfl Y_X11_send u_933 N_X11_send ⟨by decide, by decide⟩ ⟨by decide, by decide⟩ (Nat.le_of_ble_eq_true rfl) rfl dX11_joins_60 ?_
          rintro _ _ _ g_48 ⟨rfl, rfl, rfl, ⟨Z_49, hZ_49, hR_50⟩, hf_51⟩
          have h_52 := hf_51.at (by omega) h_43
          have h_53 := hf_51.at (by omega) h_44
          have hp_54 := MC.fr hp_45 hf_51 (by omega)
          have hp_55 := SO.fr hp_46 hf_51 (by omega)
          obtain ⟨σ56, hσ56⟩ : ∃ sM : Sg, sM = snd σ47 r s 3 0 0 [] := ⟨_, rfl⟩
          rw [← hσ56] at hR_50
          have hK_σ56 : gK σ56 = gK σ := (congrArg gK hσ56).trans (snd_K.trans hK_σ47)
          have hT_σ56 : gT σ56 = gT σ := (congrArg gT hσ56).trans (snd_T.trans hT_σ47)
          have hZ_σ56 : gZ σ56 = gZ σ := (congrArg gZ hσ56).trans (snd_Z.trans hZ_σ47)
          show V K 0 0 P A g_48 [(0, .ref (A m)), (1, .int (nI r)), (2, .int (nI s)), (3, .int (nI k)), (4, .int (nI x)), (5, .int (nI y)), (6, .int (nI (wof (some s) (some s) (nAc (gN σ35 r))).length)), (7, .int (nI j))] 63 []
          refine g_goto (pc := 63) C dX11_joins_63 (tgt := 106) (by decide) ?_
          exact g_vret (pc := 106) C R ⟨rfl, rfl, rfl, ⟨_, hZ_49, by rw [cme2_1 c_2 hσ35 (hσ47.trans (by rw [List.take_of_length_le (by omega)])), ← hσ56]; exact hR_50⟩, ⟨(wof (some s) (some s) (nAc (gN σ35 r))), hw0, rw4, h_53, hw2⟩, fun k hk1 hk2 => by rw [hf_51 k (by omega), hm23 k (by omega), hf_37 k (by omega), hf_30 k (by omega)]⟩ (by decide) (by decide) dX11_joins_106
        ·
          have c_27 : ¬ (wof (some s) (some s) (nAc (gN σ35 r))).length ≤ j := fun h => c_27 ((nI_leI (a := (wof (some s) (some s) (nAc (gN σ35 r))).length) (b := j) (by omega) (by omega)).mpr h)
          have hjv := hwm _ (getD_mem (k := j) (by omega))
          refine g_aload_n (pc := 30) C dX11_joins_30 0 rfl ?_
          refine g_iload_n (pc := 31) C dX11_joins_31 1 rfl ?_
          refine g_aload_n (pc := 32) C dX11_joins_32 0 rfl ?_
          refine g_get (pc := 33) C (j := 10) h_43 rfl rfl (by decide) u_862 dX11_joins_33 ?_
          refine g_iload (pc := 36) C dX11_joins_36 7 rfl ?_
          refine g_iald (pc := 38) C h_44 (nI_clamp (by omega)) (nI_in0 (by omega) (by omega)) dX11_joins_38 (x := nI ((wof (some s) (some s) (nAc (gN σ35 r))).getD j 0)) (hw2 _ (by omega)) ?_
          refine g_iconst (pc := 39) C dX11_joins_39 (v := nI 2) rfl ?_
          refine g_iload_n (pc := 40) C dX11_joins_40 2 rfl ?_
          refine g_aload_n (pc := 41) C dX11_joins_41 0 rfl ?_
          refine g_get (pc := 42) C (j := 3) h_43 rfl rfl (by decide) u_855 dX11_joins_42 ?_
          refine g_callV (pc := 45) C (As := [.int (nI r), .int (nI ((wof (some s) (some s) (nAc (gN σ35 r))).getD j 0)), .int (nI 2), .int (nI s), .int (nI (gZ σ).2.2.1)]) (rest := []) (b := m) (c_X11_send A P gm23 m r ((wof (some s) (some s) (nAc (gN σ35 r))).getD j 0) 2 s (gZ σ).2.2.1 hp_46 (by omega) (by rw [hZ_σ47]; exact h_43) hZl hRl) h_43 rfl rfl Y_X11_send u_933 N_X11_send ⟨by decide, by decide⟩ ⟨by decide, by decide⟩ (Nat.le_of_ble_eq_true rfl) rfl dX11_joins_45 ?_
          rintro _ _ _ g_57 ⟨rfl, rfl, rfl, ⟨Z_58, hZ_58, hR_59⟩, hf_60⟩
          have h_61 := hf_60.at (by omega) h_43
          have h_62 := hf_60.at (by omega) h_44
          have hp_63 := MC.fr hp_45 hf_60 (by omega)
          have hp_64 := SO.fr hp_46 hf_60 (by omega)
          obtain ⟨σ65, hσ65⟩ : ∃ sM : Sg, sM = snd σ47 r ((wof (some s) (some s) (nAc (gN σ35 r))).getD j 0) 2 s (gZ σ).2.2.1 [] := ⟨_, rfl⟩
          rw [← hσ65] at hR_59
          have hK_σ65 : gK σ65 = gK σ := (congrArg gK hσ65).trans (snd_K.trans hK_σ47)
          have hT_σ65 : gT σ65 = gT σ := (congrArg gT hσ65).trans (snd_T.trans hT_σ47)
          have hZ_σ65 : gZ σ65 = gZ σ := (congrArg gZ hσ65).trans (snd_Z.trans hZ_σ47)
          show V K 0 0 P A g_57 [(0, .ref (A m)), (1, .int (nI r)), (2, .int (nI s)), (3, .int (nI k)), (4, .int (nI x)), (5, .int (nI y)), (6, .int (nI (wof (some s) (some s) (nAc (gN σ35 r))).length)), (7, .int (nI j))] 48 []
          refine g_iinc (pc := 48) C dX11_joins_48 (by decide) 7 rfl (v := nI (j + 1)) (nI_i1 _) (lv' := [(0, .ref (A m)), (1, .int (nI r)), (2, .int (nI s)), (3, .int (nI k)), (4, .int (nI x)), (5, .int (nI y)), (6, .int (nI (wof (some s) (some s) (nAc (gN σ35 r))).length)), (7, .int (nI (j + 1)))]) [1, 2, 3, 4, 5, 6, 7, 0] rfl ?_
          refine g_goto (pc := 51) C dX11_joins_51 (tgt := 23) (by decide) ?_
          exact ih g_57 (hm23.tr (fun k hk => by rw [hf_60 k (by omega)])) (j + 1) (by omega) ⟨_, hZ_58, by rw [jnW_s (by omega), ← hσ47, ← hσ65]; exact hR_59⟩ (by omega)
    exact lp_23 (_ + 1) g_36 Fr.rf 0 (Nat.zero_le _) ⟨_, h_40, hR_29⟩ (Nat.lt_succ_self _)
abbrev rm_X11_mends : Room := { frames := 5, cells := 0, slots := 0, locals := 125 }
theorem Y_X11_mends : pY yX11_mends cX11_mends 5 (Option.none : Option Jvm.ClassFile.FieldType) := ⟨u_1055, us_28, u_13, u_1056⟩
theorem N_X11_mends : yX11_mends.cls ≠ "java/lang/invoke/MethodHandle" ∧ yX11_mends.cls ≠ "java/lang/invoke/VarHandle" ∧ (parseMethodDescriptor yX11_mends.desc).map (fun d => d.parameters.length) = some 4 := by decide +kernel
set_option maxRecDepth 20000 in
set_option maxHeartbeats 4000000 in
theorem c_X11_mends (A : Nat → Nat) (P : List Nat) (g : pM) (m : Nat) {cs : List Nat} {lm gm : Nat} {Z : Nat → Int32} {σ : Sg} {B : Nat} (r s k x y : Nat) (l : List Nat) (hr : r < gK σ) (hs : s < gK σ) (hk : k = 4 ∨ k = 5 ∨ k = 6 ∨ k = 12) (hx30 : x < 2 ^ 31) (hS : SW B cs σ) (hC : MC g m cs) {l3 : List Nat} (hl3 : SO g (m + 3) 5 l3) {l4 : List Nat} (hl4 : SO g (m + 4) 16 l4) (hO : g m = mOb A m (gZ σ) cs.length lm gm) (hZ : g (m + 1) = ai 0 10511 Z) (hR : RZ Z σ) : PM yX11_mends cX11_mends 5 (Option.none : Option Jvm.ClassFile.FieldType) rm_X11_mends [.ref (A m), .int (nI r), .int (nI s), .int (nI k), .int (nI x)] P A g (fun v g' => v = none ∧ ZS g' m (cme2 cs σ r s k x y l) ∧ (∃ l, SO g' (m + 4) 16 l) ∧ FrZ g g' m) := by
  have hK := hR.k16
  have hT := hR.t24
  have hL := hR.le
  have hzw := hS.2.2.2.1
  have hz0 := hzw.1
  have hz1 := hzw.2.1
  have hz2 := hzw.2.2.1
  have hz3 := hzw.2.2.2.1
  have hn := hS.nw hr
  have hle1 := hn.2.2.2.2.1
  have hle2 := hn.2.2.2.2.2.1
  have hc5 := hR.ac5 hr
  have hc8 := hR.pa8 hr
  have ha16 := hS.a16 hr
  have hp16 := hS.p16 hr
  have hb31 : ∀ q, nAs (gN σ r) = some q → q < 2 ^ 31 := fun q hq => by have := hS.s16 hr q hq; omega
  refine px_intro (by decide +kernel) (Nat.le_of_ble_eq_true rfl) (fun K sz C R => ?_)
  show V K 0 0 P A g [(0, .ref (A m)), (1, .int (nI r)), (2, .int (nI s)), (3, .int (nI k)), (4, .int (nI x))] 0 []
  refine g_iload_n (pc := 0) C dX11_mends_0 3 rfl ?_
  rcases hk with rfl | rfl | rfl | rfl
  ·
    refine g_tswI (pc := 1) C dX11_mends_1 (x := nI 4) (by decide) (by decide) (off := 27) rfl (tgt := 28) (by decide) ?_
    refine g_aload_n (pc := 28) C dX11_mends_28 0 rfl ?_
    refine g_iload_n (pc := 29) C dX11_mends_29 1 rfl ?_
    refine g_iload_n (pc := 30) C dX11_mends_30 2 rfl ?_
    refine g_callV (pc := 31) C (As := [.int (nI r), .int (nI s)]) (rest := []) (b := m) (c_X11_isActive A P g m r s (by omega) (by omega) (hS.a16 (by omega)) hO hZ hR) hO rfl rfl Y_X11_isActive u_957 N_X11_isActive ⟨by decide, by decide⟩ ⟨by decide, by decide⟩ (Nat.le_of_ble_eq_true rfl) rfl dX11_mends_31 ?_
    rintro _ _ _ _ ⟨rfl, rfl, rfl, rfl⟩
    show V K 0 0 P A g [(0, .ref (A m)), (1, .int (nI r)), (2, .int (nI s)), (3, .int (nI 4)), (4, .int (nI x))] 34 [.int (b32 (decide (s ∈ nAc (gN σ r))))]
    refine g_if_eq (pc := 34) C dX11_mends_34 (tgt := 214) (by decide) (fun c_34 => ?_) (fun c_34 => ?_)
    ·
      have c_34 : (decide (s ∈ nAc (gN σ r))) = false := b32_yes c_34
      have c_34 : ¬ (s ∈ nAc (gN σ r)) := of_decide_eq_false c_34
      exact g_vret (pc := 214) C R ⟨rfl, rfl, rfl, ⟨_, hZ, by show RZ _ (prt cs σ r s); rw [prt_n c_34]; exact hR⟩, ⟨_, hl4⟩, fun k hk1 hk2 => rfl⟩ (by decide) (by decide) dX11_mends_214
    ·
      have c_34 : (decide (s ∈ nAc (gN σ r))) = true := b32_no c_34
      have c_34 : (s ∈ nAc (gN σ r)) := of_decide_eq_true c_34
      refine g_aload_n (pc := 37) C dX11_mends_37 0 rfl ?_
      refine g_iload_n (pc := 38) C dX11_mends_38 1 rfl ?_
      refine g_iload_n (pc := 39) C dX11_mends_39 2 rfl ?_
      refine g_callV (pc := 40) C (As := [.int (nI r), .int (nI s)]) (rest := []) (b := m) (c_X11_leavesActive A P g m r s (by omega) (by omega) hS hO hZ hR) hO rfl rfl Y_X11_leavesActive u_1037 N_X11_leavesActive ⟨by decide, by decide⟩ ⟨by decide, by decide⟩ (Nat.le_of_ble_eq_true rfl) rfl dX11_mends_40 ?_
      rintro _ _ _ g_1 ⟨rfl, rfl, rfl, ⟨Z_2, hZ_2, hR_3⟩, hf_4⟩
      have h_5 := hf_4.at (by omega) hO
      have hp_6 := MC.fr hC hf_4 (by omega)
      have hp_7 := SO.fr hl3 hf_4 (by omega)
      have hp_8 := SO.fr hl4 hf_4 (by omega)
      obtain ⟨σ9, hσ9⟩ : ∃ sM : Sg, sM = ulS σ r s := ⟨_, rfl⟩
      rw [← hσ9] at hR_3
      have hK_σ9 : gK σ9 = gK σ := (congrArg gK hσ9).trans (rfl : gK σ = gK σ)
      have hT_σ9 : gT σ9 = gT σ := (congrArg gT hσ9).trans (rfl : gT σ = gT σ)
      have hZ_σ9 : gZ σ9 = gZ σ := (congrArg gZ hσ9).trans (rfl : gZ σ = gZ σ)
      have hS_σ9 : SW B cs σ9 := by rw [hσ9]; exact SW.ulS hS (by omega) (by omega)
      show V K 0 0 P A g_1 [(0, .ref (A m)), (1, .int (nI r)), (2, .int (nI s)), (3, .int (nI 4)), (4, .int (nI x))] 43 []
      refine g_aload_n (pc := 43) C dX11_mends_43 0 rfl ?_
      refine g_iload_n (pc := 44) C dX11_mends_44 1 rfl ?_
      refine g_iload_n (pc := 45) C dX11_mends_45 2 rfl ?_
      refine g_callV (pc := 46) C (As := [.int (nI r), .int (nI s)]) (rest := []) (b := m) (c_X11_note A P g_1 m r s (by omega) (by omega) hS_σ9 hp_6 (by rw [hZ_σ9]; exact h_5) hZ_2 hR_3) h_5 rfl rfl Y_X11_note u_1045 N_X11_note ⟨by decide, by decide⟩ ⟨by decide, by decide⟩ (Nat.le_of_ble_eq_true rfl) rfl dX11_mends_46 ?_
      rintro _ _ _ g_10 ⟨rfl, rfl, rfl, ⟨Z_11, hZ_11, hR_12⟩, hf_13⟩
      have h_14 := hf_13.at (by omega) h_5
      have hp_15 := MC.fr hp_6 hf_13 (by omega)
      have hp_16 := SO.fr hp_7 hf_13 (by omega)
      have hp_17 := SO.fr hp_8 hf_13 (by omega)
      obtain ⟨σ18, hσ18⟩ : ∃ sM : Sg, sM = nte cs σ9 r s := ⟨_, rfl⟩
      rw [← hσ18] at hR_12
      have hK_σ18 : gK σ18 = gK σ := (congrArg gK hσ18).trans (nte_K.trans hK_σ9)
      have hT_σ18 : gT σ18 = gT σ := (congrArg gT hσ18).trans (nte_T.trans hT_σ9)
      have hZ_σ18 : gZ σ18 = gZ σ := (congrArg gZ hσ18).trans (nte_Z.trans hZ_σ9)
      have hS_σ18 : SW B cs σ18 := by rw [hσ18]; exact nte_SW hS_σ9 (by omega) (by omega)
      show V K 0 0 P A g_10 [(0, .ref (A m)), (1, .int (nI r)), (2, .int (nI s)), (3, .int (nI 4)), (4, .int (nI x))] 49 []
      refine g_aload_n (pc := 49) C dX11_mends_49 0 rfl ?_
      refine g_iload_n (pc := 50) C dX11_mends_50 1 rfl ?_
      refine g_callV (pc := 51) C (As := [.int (nI r)]) (rest := []) (b := m) (c_X11_mend A P g_10 m r (by omega) hS_σ18 hp_15 hp_16 hp_17 (by rw [hZ_σ18]; exact h_14) hZ_11 hR_12) h_14 rfl rfl Y_X11_mend u_1057 N_X11_mend ⟨by decide, by decide⟩ ⟨by decide, by decide⟩ (Nat.le_of_ble_eq_true rfl) rfl dX11_mends_51 ?_
      rintro _ _ _ g_19 ⟨rfl, rfl, rfl, ⟨Z_20, hZ_20, hR_21⟩, ⟨lx_24, hs_23⟩, hf_22⟩
      have h_25 := hf_22.at (by omega) h_14
      have hp_26 := MC.frz hp_15 hf_22 (by omega)
      have hp_27 := SO.frz hp_16 hf_22 (by omega)
      obtain ⟨σ28, hσ28⟩ : ∃ sM : Sg, sM = mnd cs σ18 r := ⟨_, rfl⟩
      rw [← hσ28] at hR_21
      have hK_σ28 : gK σ28 = gK σ := (congrArg gK hσ28).trans (mnd_K.trans hK_σ18)
      have hT_σ28 : gT σ28 = gT σ := (congrArg gT hσ28).trans (mnd_T.trans hT_σ18)
      have hZ_σ28 : gZ σ28 = gZ σ := (congrArg gZ hσ28).trans (mnd_Z.trans hZ_σ18)
      have hS_σ28 : SW B cs σ28 := by rw [hσ28]; exact SW.mnd hS_σ18 (by omega)
      show V K 0 0 P A g_19 [(0, .ref (A m)), (1, .int (nI r)), (2, .int (nI s)), (3, .int (nI 4)), (4, .int (nI x))] 54 []
      refine g_goto (pc := 54) C dX11_mends_54 (tgt := 214) (by decide) ?_
      exact g_vret (pc := 214) C R ⟨rfl, rfl, rfl, ⟨_, hZ_20, by show RZ _ (prt cs σ r s); rw [prt_y c_34 hσ9 hσ18 hσ28]; exact hR_21⟩, ⟨_, hs_23⟩, fun k hk1 hk2 => by rw [hf_22 k (by omega) (by omega), hf_13 k (by omega), hf_4 k (by omega)]⟩ (by decide) (by decide) dX11_mends_214
  ·
    refine g_tswI (pc := 1) C dX11_mends_1 (x := nI 5) (by decide) (by decide) (off := 56) rfl (tgt := 57) (by decide) ?_
    refine g_iload (pc := 57) C dX11_mends_57 4 rfl ?_
    refine g_iconst (pc := 59) C dX11_mends_59 (v := nI 1) rfl ?_
    refine g_icmp_eq (pc := 60) C dX11_mends_60 (tgt := 88) (by decide) (fun c_60 => ?_) (fun c_60 => ?_)
    ·
      have c_60 : x = 1 := (nI_eq (by omega) (by omega)).mp c_60
      refine g_aload_n (pc := 88) C dX11_mends_88 0 rfl ?_
      refine g_iload_n (pc := 89) C dX11_mends_89 1 rfl ?_
      refine g_iload_n (pc := 90) C dX11_mends_90 2 rfl ?_
      refine g_callV (pc := 91) C (As := [.int (nI r), .int (nI s)]) (rest := []) (b := m) (c_X11_add A P g m r s (by omega) (by omega) hS hC hl3 hO hZ hR) hO rfl rfl Y_X11_add u_1025 N_X11_add ⟨by decide, by decide⟩ ⟨by decide, by decide⟩ (Nat.le_of_ble_eq_true rfl) rfl dX11_mends_91 ?_
      rintro _ _ _ g_29 ⟨rfl, rfl, rfl, ⟨Z_30, hZ_30, hR_31⟩, hf_32⟩
      have h_33 := hf_32.at (by omega) hO
      have hp_34 := MC.fr hC hf_32 (by omega)
      have hp_35 := SO.fr hl3 hf_32 (by omega)
      have hp_36 := SO.fr hl4 hf_32 (by omega)
      obtain ⟨σ37, hσ37⟩ : ∃ sM : Sg, sM = add cs σ r s := ⟨_, rfl⟩
      rw [← hσ37] at hR_31
      have hK_σ37 : gK σ37 = gK σ := (congrArg gK hσ37).trans (add_K.trans (rfl : gK σ = gK σ))
      have hT_σ37 : gT σ37 = gT σ := (congrArg gT hσ37).trans (add_T.trans (rfl : gT σ = gT σ))
      have hZ_σ37 : gZ σ37 = gZ σ := (congrArg gZ hσ37).trans (add_Z.trans (rfl : gZ σ = gZ σ))
      have hS_σ37 : SW B cs σ37 := by rw [hσ37]; exact add_SW hS (by omega) (by omega)
      show V K 0 0 P A g_29 [(0, .ref (A m)), (1, .int (nI r)), (2, .int (nI s)), (3, .int (nI 5)), (4, .int (nI x))] 94 []
      refine g_aload_n (pc := 94) C dX11_mends_94 0 rfl ?_
      refine g_iload_n (pc := 95) C dX11_mends_95 1 rfl ?_
      refine g_iload_n (pc := 96) C dX11_mends_96 2 rfl ?_
      refine g_iconst (pc := 97) C dX11_mends_97 (v := nI 3) rfl ?_
      refine g_iconst (pc := 98) C dX11_mends_98 (v := nI 0) rfl ?_
      refine g_iconst (pc := 99) C dX11_mends_99 (v := nI 0) rfl ?_
      refine g_callV (pc := 100) C (As := [.int (nI r), .int (nI s), .int (nI 3), .int (nI 0), .int (nI 0)]) (rest := []) (b := m) (c_X11_send A P g_29 m r s 3 0 0 hp_35 (by omega) (by rw [hZ_σ37]; exact h_33) hZ_30 hR_31) h_33 rfl rfl Y_X11_send u_933 N_X11_send ⟨by decide, by decide⟩ ⟨by decide, by decide⟩ (Nat.le_of_ble_eq_true rfl) rfl dX11_mends_100 ?_
      rintro _ _ _ g_38 ⟨rfl, rfl, rfl, ⟨Z_39, hZ_39, hR_40⟩, hf_41⟩
      have h_42 := hf_41.at (by omega) h_33
      have hp_43 := MC.fr hp_34 hf_41 (by omega)
      have hp_44 := SO.fr hp_35 hf_41 (by omega)
      have hp_45 := SO.fr hp_36 hf_41 (by omega)
      obtain ⟨σ46, hσ46⟩ : ∃ sM : Sg, sM = snd σ37 r s 3 0 0 [] := ⟨_, rfl⟩
      rw [← hσ46] at hR_40
      have hK_σ46 : gK σ46 = gK σ := (congrArg gK hσ46).trans (snd_K.trans hK_σ37)
      have hT_σ46 : gT σ46 = gT σ := (congrArg gT hσ46).trans (snd_T.trans hT_σ37)
      have hZ_σ46 : gZ σ46 = gZ σ := (congrArg gZ hσ46).trans (snd_Z.trans hZ_σ37)
      have hS_σ46 : SW B cs σ46 := by rw [hσ46]; exact SW.sent hS_σ37 (by omega) (by omega) (lw_0 (by omega) (by omega) (by omega))
      show V K 0 0 P A g_38 [(0, .ref (A m)), (1, .int (nI r)), (2, .int (nI s)), (3, .int (nI 5)), (4, .int (nI x))] 103 []
      refine g_goto (pc := 103) C dX11_mends_103 (tgt := 214) (by decide) ?_
      exact g_vret (pc := 214) C R ⟨rfl, rfl, rfl, ⟨_, hZ_39, by show RZ _ (askS cs σ r s x); rw [ask_y (Or.inl c_60) hσ37 hσ46]; exact hR_40⟩, ⟨_, hp_45⟩, fun k hk1 hk2 => by rw [hf_41 k (by omega), hf_32 k (by omega)]⟩ (by decide) (by decide) dX11_mends_214
    ·
      have c_60 : ¬ x = 1 := fun h => c_60 ((nI_eq (a := x) (b := 1) (by omega) (by omega)).mpr h)
      refine g_aload_n (pc := 63) C dX11_mends_63 0 rfl ?_
      refine g_get (pc := 64) C (j := 0) hO rfl rfl (by decide) u_852 dX11_mends_64 ?_
      refine g_bipush (pc := 67) C dX11_mends_67 (v := nI 16) rfl ?_
      refine g_iload_n (pc := 69) C dX11_mends_69 1 rfl ?_
      refine g_iadd (pc := 70) C dX11_mends_70 (z := nI (16 + r)) (nI_add _ _) ?_
      refine g_iald (pc := 71) C hZ (nI_clamp (by omega)) (nI_in0 (n := 10511) (by omega) (by omega)) dX11_mends_71 (x := nI (nAc (gN σ r)).length) (RZ.rAn hR (r := r) (by omega) (by omega)) ?_
      refine g_aload_n (pc := 72) C dX11_mends_72 0 rfl ?_
      refine g_get (pc := 73) C (j := 1) hO rfl rfl (by decide) u_853 dX11_mends_73 ?_
      refine g_icmp_lt (pc := 76) C dX11_mends_76 (tgt := 88) (by decide) (fun c_76 => ?_) (fun c_76 => ?_)
      ·
        have c_76 : (nAc (gN σ r)).length < (gZ σ).1 := (nI_ltI (by omega) (by omega)).mp c_76
        refine g_aload_n (pc := 88) C dX11_mends_88 0 rfl ?_
        refine g_iload_n (pc := 89) C dX11_mends_89 1 rfl ?_
        refine g_iload_n (pc := 90) C dX11_mends_90 2 rfl ?_
        refine g_callV (pc := 91) C (As := [.int (nI r), .int (nI s)]) (rest := []) (b := m) (c_X11_add A P g m r s (by omega) (by omega) hS hC hl3 hO hZ hR) hO rfl rfl Y_X11_add u_1025 N_X11_add ⟨by decide, by decide⟩ ⟨by decide, by decide⟩ (Nat.le_of_ble_eq_true rfl) rfl dX11_mends_91 ?_
        rintro _ _ _ g_47 ⟨rfl, rfl, rfl, ⟨Z_48, hZ_48, hR_49⟩, hf_50⟩
        have h_51 := hf_50.at (by omega) hO
        have hp_52 := MC.fr hC hf_50 (by omega)
        have hp_53 := SO.fr hl3 hf_50 (by omega)
        have hp_54 := SO.fr hl4 hf_50 (by omega)
        obtain ⟨σ55, hσ55⟩ : ∃ sM : Sg, sM = add cs σ r s := ⟨_, rfl⟩
        rw [← hσ55] at hR_49
        have hK_σ55 : gK σ55 = gK σ := (congrArg gK hσ55).trans (add_K.trans (rfl : gK σ = gK σ))
        have hT_σ55 : gT σ55 = gT σ := (congrArg gT hσ55).trans (add_T.trans (rfl : gT σ = gT σ))
        have hZ_σ55 : gZ σ55 = gZ σ := (congrArg gZ hσ55).trans (add_Z.trans (rfl : gZ σ = gZ σ))
        have hS_σ55 : SW B cs σ55 := by rw [hσ55]; exact add_SW hS (by omega) (by omega)
        show V K 0 0 P A g_47 [(0, .ref (A m)), (1, .int (nI r)), (2, .int (nI s)), (3, .int (nI 5)), (4, .int (nI x))] 94 []
        refine g_aload_n (pc := 94) C dX11_mends_94 0 rfl ?_
        refine g_iload_n (pc := 95) C dX11_mends_95 1 rfl ?_
        refine g_iload_n (pc := 96) C dX11_mends_96 2 rfl ?_
        refine g_iconst (pc := 97) C dX11_mends_97 (v := nI 3) rfl ?_
        refine g_iconst (pc := 98) C dX11_mends_98 (v := nI 0) rfl ?_
        refine g_iconst (pc := 99) C dX11_mends_99 (v := nI 0) rfl ?_
        refine g_callV (pc := 100) C (As := [.int (nI r), .int (nI s), .int (nI 3), .int (nI 0), .int (nI 0)]) (rest := []) (b := m) (c_X11_send A P g_47 m r s 3 0 0 hp_53 (by omega) (by rw [hZ_σ55]; exact h_51) hZ_48 hR_49) h_51 rfl rfl Y_X11_send u_933 N_X11_send ⟨by decide, by decide⟩ ⟨by decide, by decide⟩ (Nat.le_of_ble_eq_true rfl) rfl dX11_mends_100 ?_
        rintro _ _ _ g_56 ⟨rfl, rfl, rfl, ⟨Z_57, hZ_57, hR_58⟩, hf_59⟩
        have h_60 := hf_59.at (by omega) h_51
        have hp_61 := MC.fr hp_52 hf_59 (by omega)
        have hp_62 := SO.fr hp_53 hf_59 (by omega)
        have hp_63 := SO.fr hp_54 hf_59 (by omega)
        obtain ⟨σ64, hσ64⟩ : ∃ sM : Sg, sM = snd σ55 r s 3 0 0 [] := ⟨_, rfl⟩
        rw [← hσ64] at hR_58
        have hK_σ64 : gK σ64 = gK σ := (congrArg gK hσ64).trans (snd_K.trans hK_σ55)
        have hT_σ64 : gT σ64 = gT σ := (congrArg gT hσ64).trans (snd_T.trans hT_σ55)
        have hZ_σ64 : gZ σ64 = gZ σ := (congrArg gZ hσ64).trans (snd_Z.trans hZ_σ55)
        have hS_σ64 : SW B cs σ64 := by rw [hσ64]; exact SW.sent hS_σ55 (by omega) (by omega) (lw_0 (by omega) (by omega) (by omega))
        show V K 0 0 P A g_56 [(0, .ref (A m)), (1, .int (nI r)), (2, .int (nI s)), (3, .int (nI 5)), (4, .int (nI x))] 103 []
        refine g_goto (pc := 103) C dX11_mends_103 (tgt := 214) (by decide) ?_
        exact g_vret (pc := 214) C R ⟨rfl, rfl, rfl, ⟨_, hZ_57, by show RZ _ (askS cs σ r s x); rw [ask_y (Or.inr (Or.inl (by omega))) hσ55 hσ64]; exact hR_58⟩, ⟨_, hp_63⟩, fun k hk1 hk2 => by rw [hf_59 k (by omega), hf_50 k (by omega)]⟩ (by decide) (by decide) dX11_mends_214
      ·
        have c_76 : ¬ (nAc (gN σ r)).length < (gZ σ).1 := fun h => c_76 ((nI_ltI (a := (nAc (gN σ r)).length) (b := (gZ σ).1) (by omega) (by omega)).mpr h)
        refine g_aload_n (pc := 79) C dX11_mends_79 0 rfl ?_
        refine g_iload_n (pc := 80) C dX11_mends_80 1 rfl ?_
        refine g_iload_n (pc := 81) C dX11_mends_81 2 rfl ?_
        refine g_callV (pc := 82) C (As := [.int (nI r), .int (nI s)]) (rest := []) (b := m) (c_X11_isActive A P g m r s (by omega) (by omega) (hS.a16 (by omega)) hO hZ hR) hO rfl rfl Y_X11_isActive u_957 N_X11_isActive ⟨by decide, by decide⟩ ⟨by decide, by decide⟩ (Nat.le_of_ble_eq_true rfl) rfl dX11_mends_82 ?_
        rintro _ _ _ _ ⟨rfl, rfl, rfl, rfl⟩
        show V K 0 0 P A g [(0, .ref (A m)), (1, .int (nI r)), (2, .int (nI s)), (3, .int (nI 5)), (4, .int (nI x))] 85 [.int (b32 (decide (s ∈ nAc (gN σ r))))]
        refine g_if_eq (pc := 85) C dX11_mends_85 (tgt := 106) (by decide) (fun c_85 => ?_) (fun c_85 => ?_)
        ·
          have c_85 : (decide (s ∈ nAc (gN σ r))) = false := b32_yes c_85
          have c_85 : ¬ (s ∈ nAc (gN σ r)) := of_decide_eq_false c_85
          refine g_aload_n (pc := 106) C dX11_mends_106 0 rfl ?_
          refine g_iload_n (pc := 107) C dX11_mends_107 1 rfl ?_
          refine g_iload_n (pc := 108) C dX11_mends_108 2 rfl ?_
          refine g_bipush (pc := 109) C dX11_mends_109 (v := nI 6) rfl ?_
          refine g_iconst (pc := 111) C dX11_mends_111 (v := nI 0) rfl ?_
          refine g_iconst (pc := 112) C dX11_mends_112 (v := nI 0) rfl ?_
          refine g_callV (pc := 113) C (As := [.int (nI r), .int (nI s), .int (nI 6), .int (nI 0), .int (nI 0)]) (rest := []) (b := m) (c_X11_send A P g m r s 6 0 0 hl3 (by omega) hO hZ hR) hO rfl rfl Y_X11_send u_933 N_X11_send ⟨by decide, by decide⟩ ⟨by decide, by decide⟩ (Nat.le_of_ble_eq_true rfl) rfl dX11_mends_113 ?_
          rintro _ _ _ g_65 ⟨rfl, rfl, rfl, ⟨Z_66, hZ_66, hR_67⟩, hf_68⟩
          have h_69 := hf_68.at (by omega) hO
          have hp_70 := MC.fr hC hf_68 (by omega)
          have hp_71 := SO.fr hl3 hf_68 (by omega)
          have hp_72 := SO.fr hl4 hf_68 (by omega)
          obtain ⟨σ73, hσ73⟩ : ∃ sM : Sg, sM = snd σ r s 6 0 0 [] := ⟨_, rfl⟩
          rw [← hσ73] at hR_67
          have hK_σ73 : gK σ73 = gK σ := (congrArg gK hσ73).trans (snd_K.trans (rfl : gK σ = gK σ))
          have hT_σ73 : gT σ73 = gT σ := (congrArg gT hσ73).trans (snd_T.trans (rfl : gT σ = gT σ))
          have hZ_σ73 : gZ σ73 = gZ σ := (congrArg gZ hσ73).trans (snd_Z.trans (rfl : gZ σ = gZ σ))
          have hS_σ73 : SW B cs σ73 := by rw [hσ73]; exact SW.sent hS (by omega) (by omega) (lw_0 (by omega) (by omega) (by omega))
          show V K 0 0 P A g_65 [(0, .ref (A m)), (1, .int (nI r)), (2, .int (nI s)), (3, .int (nI 5)), (4, .int (nI x))] 116 []
          refine g_goto (pc := 116) C dX11_mends_116 (tgt := 214) (by decide) ?_
          exact g_vret (pc := 214) C R ⟨rfl, rfl, rfl, ⟨_, hZ_66, by show RZ _ (askS cs σ r s x); rw [ask_n (fun z => by rcases z with z | z | z; exact c_60 z; exact z (by omega); exact c_85 z) hσ73]; exact hR_67⟩, ⟨_, hp_72⟩, fun k hk1 hk2 => by rw [hf_68 k (by omega)]⟩ (by decide) (by decide) dX11_mends_214
        ·
          have c_85 : (decide (s ∈ nAc (gN σ r))) = true := b32_no c_85
          have c_85 : (s ∈ nAc (gN σ r)) := of_decide_eq_true c_85
          refine g_aload_n (pc := 88) C dX11_mends_88 0 rfl ?_
          refine g_iload_n (pc := 89) C dX11_mends_89 1 rfl ?_
          refine g_iload_n (pc := 90) C dX11_mends_90 2 rfl ?_
          refine g_callV (pc := 91) C (As := [.int (nI r), .int (nI s)]) (rest := []) (b := m) (c_X11_add A P g m r s (by omega) (by omega) hS hC hl3 hO hZ hR) hO rfl rfl Y_X11_add u_1025 N_X11_add ⟨by decide, by decide⟩ ⟨by decide, by decide⟩ (Nat.le_of_ble_eq_true rfl) rfl dX11_mends_91 ?_
          rintro _ _ _ g_74 ⟨rfl, rfl, rfl, ⟨Z_75, hZ_75, hR_76⟩, hf_77⟩
          have h_78 := hf_77.at (by omega) hO
          have hp_79 := MC.fr hC hf_77 (by omega)
          have hp_80 := SO.fr hl3 hf_77 (by omega)
          have hp_81 := SO.fr hl4 hf_77 (by omega)
          obtain ⟨σ82, hσ82⟩ : ∃ sM : Sg, sM = add cs σ r s := ⟨_, rfl⟩
          rw [← hσ82] at hR_76
          have hK_σ82 : gK σ82 = gK σ := (congrArg gK hσ82).trans (add_K.trans (rfl : gK σ = gK σ))
          have hT_σ82 : gT σ82 = gT σ := (congrArg gT hσ82).trans (add_T.trans (rfl : gT σ = gT σ))
          have hZ_σ82 : gZ σ82 = gZ σ := (congrArg gZ hσ82).trans (add_Z.trans (rfl : gZ σ = gZ σ))
          have hS_σ82 : SW B cs σ82 := by rw [hσ82]; exact add_SW hS (by omega) (by omega)
          show V K 0 0 P A g_74 [(0, .ref (A m)), (1, .int (nI r)), (2, .int (nI s)), (3, .int (nI 5)), (4, .int (nI x))] 94 []
          refine g_aload_n (pc := 94) C dX11_mends_94 0 rfl ?_
          refine g_iload_n (pc := 95) C dX11_mends_95 1 rfl ?_
          refine g_iload_n (pc := 96) C dX11_mends_96 2 rfl ?_
          refine g_iconst (pc := 97) C dX11_mends_97 (v := nI 3) rfl ?_
          refine g_iconst (pc := 98) C dX11_mends_98 (v := nI 0) rfl ?_
          refine g_iconst (pc := 99) C dX11_mends_99 (v := nI 0) rfl ?_
          refine g_callV (pc := 100) C (As := [.int (nI r), .int (nI s), .int (nI 3), .int (nI 0), .int (nI 0)]) (rest := []) (b := m) (c_X11_send A P g_74 m r s 3 0 0 hp_80 (by omega) (by rw [hZ_σ82]; exact h_78) hZ_75 hR_76) h_78 rfl rfl Y_X11_send u_933 N_X11_send ⟨by decide, by decide⟩ ⟨by decide, by decide⟩ (Nat.le_of_ble_eq_true rfl) rfl dX11_mends_100 ?_
          rintro _ _ _ g_83 ⟨rfl, rfl, rfl, ⟨Z_84, hZ_84, hR_85⟩, hf_86⟩
          have h_87 := hf_86.at (by omega) h_78
          have hp_88 := MC.fr hp_79 hf_86 (by omega)
          have hp_89 := SO.fr hp_80 hf_86 (by omega)
          have hp_90 := SO.fr hp_81 hf_86 (by omega)
          obtain ⟨σ91, hσ91⟩ : ∃ sM : Sg, sM = snd σ82 r s 3 0 0 [] := ⟨_, rfl⟩
          rw [← hσ91] at hR_85
          have hK_σ91 : gK σ91 = gK σ := (congrArg gK hσ91).trans (snd_K.trans hK_σ82)
          have hT_σ91 : gT σ91 = gT σ := (congrArg gT hσ91).trans (snd_T.trans hT_σ82)
          have hZ_σ91 : gZ σ91 = gZ σ := (congrArg gZ hσ91).trans (snd_Z.trans hZ_σ82)
          have hS_σ91 : SW B cs σ91 := by rw [hσ91]; exact SW.sent hS_σ82 (by omega) (by omega) (lw_0 (by omega) (by omega) (by omega))
          show V K 0 0 P A g_83 [(0, .ref (A m)), (1, .int (nI r)), (2, .int (nI s)), (3, .int (nI 5)), (4, .int (nI x))] 103 []
          refine g_goto (pc := 103) C dX11_mends_103 (tgt := 214) (by decide) ?_
          exact g_vret (pc := 214) C R ⟨rfl, rfl, rfl, ⟨_, hZ_84, by show RZ _ (askS cs σ r s x); rw [ask_y (Or.inr (Or.inr c_85)) hσ82 hσ91]; exact hR_85⟩, ⟨_, hp_90⟩, fun k hk1 hk2 => by rw [hf_86 k (by omega), hf_77 k (by omega)]⟩ (by decide) (by decide) dX11_mends_214
  ·
    refine g_tswI (pc := 1) C dX11_mends_1 (x := nI 6) (by decide) (by decide) (off := 118) rfl (tgt := 119) (by decide) ?_
    refine g_aload_n (pc := 119) C dX11_mends_119 0 rfl ?_
    refine g_get (pc := 120) C (j := 0) hO rfl rfl (by decide) u_852 dX11_mends_120 ?_
    refine g_bipush (pc := 123) C dX11_mends_123 (v := nI 48) rfl ?_
    refine g_iload_n (pc := 125) C dX11_mends_125 1 rfl ?_
    refine g_iadd (pc := 126) C dX11_mends_126 (z := nI (48 + r)) (nI_add _ _) ?_
    refine g_iald (pc := 127) C hZ (nI_clamp (by omega)) (nI_in0 (n := 10511) (by omega) (by omega)) dX11_mends_127 (x := onv (nAs (gN σ r))) (RZ.rAs hR (r := r) (by omega) (by omega)) ?_
    refine g_iload_n (pc := 128) C dX11_mends_128 2 rfl ?_
    refine g_icmp_ne (pc := 129) C dX11_mends_129 (tgt := 214) (by decide) (fun c_129 => ?_) (fun c_129 => ?_)
    ·
      exact g_vret (pc := 214) C R ⟨rfl, rfl, rfl, ⟨_, hZ, by show RZ _ (rfs cs σ r s); rw [rfs_n (fun z => c_129 ((onv_eq hb31 (by omega)).mpr z))]; exact hR⟩, ⟨_, hl4⟩, fun k hk1 hk2 => rfl⟩ (by decide) (by decide) dX11_mends_214
    ·
      refine g_aload_n (pc := 132) C dX11_mends_132 0 rfl ?_
      refine g_get (pc := 133) C (j := 0) hO rfl rfl (by decide) u_852 dX11_mends_133 ?_
      refine g_bipush (pc := 136) C dX11_mends_136 (v := nI 48) rfl ?_
      refine g_iload_n (pc := 138) C dX11_mends_138 1 rfl ?_
      refine g_iadd (pc := 139) C dX11_mends_139 (z := nI (48 + r)) (nI_add _ _) ?_
      refine g_bipush (pc := 140) C dX11_mends_140 (v := (-6)) rfl ?_
      refine g_iast (pc := 142) C hZ (nI_clamp (by omega)) (nI_in0 (n := 10511) (by omega) (by omega)) dX11_mends_142 ?_
      obtain ⟨Z_92, hZ_92⟩ : ∃ yZ : Nat → Int32, yZ = upd Z (48 + r) (-6) := ⟨_, rfl⟩
      show V K 0 0 P A (va_up g (m + 1) (ai 0 10511 (upd Z (48 + r) (-6)))) [(0, .ref (A m)), (1, .int (nI r)), (2, .int (nI s)), (3, .int (nI 6)), (4, .int (nI x))] 143 []
      rw [← hZ_92]
      obtain ⟨g_93, hg_93⟩ : ∃ yM : pM, yM = va_up g (m + 1) (ai 0 10511 Z_92) := ⟨_, rfl⟩
      show V K 0 0 P A (va_up g (m + 1) (ai 0 10511 Z_92)) [(0, .ref (A m)), (1, .int (nI r)), (2, .int (nI s)), (3, .int (nI 6)), (4, .int (nI x))] 143 []
      rw [← hg_93]
      have h_94 : g_93 m = ob 11 [.ref (A (m + 1)), .int (nI (gZ σ).1), .int (nI (gZ σ).2.1), .int (nI (gZ σ).2.2.1), .int (nI (gZ σ).2.2.2.1), .int (nI (gZ σ).2.2.2.2), .ref (A (m + 2)), .int (nI cs.length), .ref (A (m + 3)), .int (nI lm), .ref (A (m + 4)), .ref (A (m + 5)), .int (nI gm), .ref (A (m + 6)), .ref (A (m + 7)), .ref (A (m + 8))] := by rw [hg_93, va_up_ne _ _ (show m ≠ m + 1 from by omega)]; exact hO
      have h_95 : g_93 (m + 1) = ai 0 10511 Z_92 := by rw [hg_93]; exact va_up_self _ _ _
      have hf_96 : Fr g g_93 (m + 1) (m + 1 + 1) := by rw [hg_93]; exact Fr.up (by omega) (by omega)
      have hp_97 := MC.fr hC hf_96 (by omega)
      have hp_98 := SO.fr hl3 hf_96 (by omega)
      have hp_99 := SO.fr hl4 hf_96 (by omega)
      have hR_100 : RZ Z_92 (asS σ r none) := RZ.wAs (o := none) hR hr hZ_92
      obtain ⟨σ101, hσ101⟩ : ∃ sM : Sg, sM = asS σ r none := ⟨_, rfl⟩
      rw [← hσ101] at hR_100
      have hK_σ101 : gK σ101 = gK σ := (congrArg gK hσ101).trans (rfl : gK σ = gK σ)
      have hT_σ101 : gT σ101 = gT σ := (congrArg gT hσ101).trans (rfl : gT σ = gT σ)
      have hZ_σ101 : gZ σ101 = gZ σ := (congrArg gZ hσ101).trans (rfl : gZ σ = gZ σ)
      have hS_σ101 : SW B cs σ101 := by rw [hσ101]; exact SW.asS hS hr (fun _ z => by cases z)
      have hak : nAk (gN σ101 r) < 65536 := (hS_σ101.nw (i := r) (by omega)).1.2
      refine g_aload_n (pc := 143) C dX11_mends_143 0 rfl ?_
      refine g_get (pc := 144) C (j := 0) h_94 rfl rfl (by decide) u_852 dX11_mends_144 ?_
      refine g_bipush (pc := 147) C dX11_mends_147 (v := nI 64) rfl ?_
      refine g_iload_n (pc := 149) C dX11_mends_149 1 rfl ?_
      refine g_iadd (pc := 150) C dX11_mends_150 (z := nI (64 + r)) (nI_add _ _) ?_
      refine g_aload_n (pc := 151) C dX11_mends_151 0 rfl ?_
      refine g_get (pc := 152) C (j := 0) h_94 rfl rfl (by decide) u_852 dX11_mends_152 ?_
      refine g_bipush (pc := 155) C dX11_mends_155 (v := nI 64) rfl ?_
      refine g_iload_n (pc := 157) C dX11_mends_157 1 rfl ?_
      refine g_iadd (pc := 158) C dX11_mends_158 (z := nI (64 + r)) (nI_add _ _) ?_
      refine g_iald (pc := 159) C h_95 (nI_clamp (by omega)) (nI_in0 (n := 10511) (by omega) (by omega)) dX11_mends_159 (x := nI (nAk (gN σ101 r))) (RZ.rAk hR_100 (r := r) (by omega) (by omega)) ?_
      refine g_iconst (pc := 160) C dX11_mends_160 (v := nI 1) rfl ?_
      refine g_iload_n (pc := 161) C dX11_mends_161 2 rfl ?_
      refine g_ishl (pc := 162) C dX11_mends_162 (z := nI (2 ^ s)) (shl_nI (by omega)) ?_
      refine g_ior (pc := 163) C dX11_mends_163 (z := nI (nAk (gN σ101 r) ||| 2 ^ s)) (fa_or _ _) ?_
      refine g_iast (pc := 164) C h_95 (nI_clamp (by omega)) (nI_in0 (n := 10511) (by omega) (by omega)) dX11_mends_164 ?_
      obtain ⟨Z_102, hZ_102⟩ : ∃ yZ : Nat → Int32, yZ = upd Z_92 (64 + r) (nI (nAk (gN σ101 r) ||| 2 ^ s)) := ⟨_, rfl⟩
      show V K 0 0 P A (va_up g_93 (m + 1) (ai 0 10511 (upd Z_92 (64 + r) (nI (nAk (gN σ101 r) ||| 2 ^ s))))) [(0, .ref (A m)), (1, .int (nI r)), (2, .int (nI s)), (3, .int (nI 6)), (4, .int (nI x))] 165 []
      rw [← hZ_102]
      obtain ⟨g_103, hg_103⟩ : ∃ yM : pM, yM = va_up g_93 (m + 1) (ai 0 10511 Z_102) := ⟨_, rfl⟩
      show V K 0 0 P A (va_up g_93 (m + 1) (ai 0 10511 Z_102)) [(0, .ref (A m)), (1, .int (nI r)), (2, .int (nI s)), (3, .int (nI 6)), (4, .int (nI x))] 165 []
      rw [← hg_103]
      have h_104 : g_103 m = ob 11 [.ref (A (m + 1)), .int (nI (gZ σ).1), .int (nI (gZ σ).2.1), .int (nI (gZ σ).2.2.1), .int (nI (gZ σ).2.2.2.1), .int (nI (gZ σ).2.2.2.2), .ref (A (m + 2)), .int (nI cs.length), .ref (A (m + 3)), .int (nI lm), .ref (A (m + 4)), .ref (A (m + 5)), .int (nI gm), .ref (A (m + 6)), .ref (A (m + 7)), .ref (A (m + 8))] := by rw [hg_103, va_up_ne _ _ (show m ≠ m + 1 from by omega)]; exact h_94
      have h_105 : g_103 (m + 1) = ai 0 10511 Z_102 := by rw [hg_103]; exact va_up_self _ _ _
      have hf_106 : Fr g_93 g_103 (m + 1) (m + 1 + 1) := by rw [hg_103]; exact Fr.up (by omega) (by omega)
      have hp_107 := MC.fr hp_97 hf_106 (by omega)
      have hp_108 := SO.fr hp_98 hf_106 (by omega)
      have hp_109 := SO.fr hp_99 hf_106 (by omega)
      have hR_110 : RZ Z_102 (akS σ101 r (nAk (gN σ101 r) ||| 2 ^ s)) := RZ.wAk hR_100 (by omega) hZ_102
      obtain ⟨σ111, hσ111⟩ : ∃ sM : Sg, sM = akS σ101 r (nAk (gN σ101 r) ||| 2 ^ s) := ⟨_, rfl⟩
      rw [← hσ111] at hR_110
      have hK_σ111 : gK σ111 = gK σ := (congrArg gK hσ111).trans hK_σ101
      have hT_σ111 : gT σ111 = gT σ := (congrArg gT hσ111).trans hT_σ101
      have hZ_σ111 : gZ σ111 = gZ σ := (congrArg gZ hσ111).trans hZ_σ101
      have hS_σ111 : SW B cs σ111 := by rw [hσ111]; exact SW.akS hS_σ101 (by omega) (or_lt hak (by omega))
      refine g_aload_n (pc := 165) C dX11_mends_165 0 rfl ?_
      refine g_iload_n (pc := 166) C dX11_mends_166 1 rfl ?_
      refine g_callV (pc := 167) C (As := [.int (nI r)]) (rest := []) (b := m) (c_X11_mend A P g_103 m r (by omega) hS_σ111 hp_107 hp_108 hp_109 (by rw [hZ_σ111]; exact h_104) h_105 hR_110) h_104 rfl rfl Y_X11_mend u_1057 N_X11_mend ⟨by decide, by decide⟩ ⟨by decide, by decide⟩ (Nat.le_of_ble_eq_true rfl) rfl dX11_mends_167 ?_
      rintro _ _ _ g_112 ⟨rfl, rfl, rfl, ⟨Z_113, hZ_113, hR_114⟩, ⟨lx_117, hs_116⟩, hf_115⟩
      have h_118 := hf_115.at (by omega) h_104
      have hp_119 := MC.frz hp_107 hf_115 (by omega)
      have hp_120 := SO.frz hp_108 hf_115 (by omega)
      obtain ⟨σ121, hσ121⟩ : ∃ sM : Sg, sM = mnd cs σ111 r := ⟨_, rfl⟩
      rw [← hσ121] at hR_114
      have hK_σ121 : gK σ121 = gK σ := (congrArg gK hσ121).trans (mnd_K.trans hK_σ111)
      have hT_σ121 : gT σ121 = gT σ := (congrArg gT hσ121).trans (mnd_T.trans hT_σ111)
      have hZ_σ121 : gZ σ121 = gZ σ := (congrArg gZ hσ121).trans (mnd_Z.trans hZ_σ111)
      have hS_σ121 : SW B cs σ121 := by rw [hσ121]; exact SW.mnd hS_σ111 (by omega)
      show V K 0 0 P A g_112 [(0, .ref (A m)), (1, .int (nI r)), (2, .int (nI s)), (3, .int (nI 6)), (4, .int (nI x))] 170 []
      refine g_goto (pc := 170) C dX11_mends_170 (tgt := 214) (by decide) ?_
      exact g_vret (pc := 214) C R ⟨rfl, rfl, rfl, ⟨_, hZ_113, by show RZ _ (rfs cs σ r s); rw [rfs_y ((onv_eq hb31 (by omega)).mp c_129) hσ101 hσ111 hσ121]; exact hR_114⟩, ⟨_, hs_116⟩, fun k hk1 hk2 => by rw [hf_115 k (by omega) (by omega), hg_103, va_up_ne _ _ (by omega), hg_93, va_up_ne _ _ (by omega)]⟩ (by decide) (by decide) dX11_mends_214
  ·
    refine g_tswO (pc := 1) C dX11_mends_1 (x := nI 12) (by decide) (tgt := 173) (by decide) ?_
    refine g_aload_n (pc := 173) C dX11_mends_173 0 rfl ?_
    refine g_iload_n (pc := 174) C dX11_mends_174 1 rfl ?_
    refine g_iload_n (pc := 175) C dX11_mends_175 2 rfl ?_
    refine g_callV (pc := 176) C (As := [.int (nI r), .int (nI s)]) (rest := []) (b := m) (c_X11_leavesActive A P g m r s (by omega) (by omega) hS hO hZ hR) hO rfl rfl Y_X11_leavesActive u_1037 N_X11_leavesActive ⟨by decide, by decide⟩ ⟨by decide, by decide⟩ (Nat.le_of_ble_eq_true rfl) rfl dX11_mends_176 ?_
    rintro _ _ _ g_122 ⟨rfl, rfl, rfl, ⟨Z_123, hZ_123, hR_124⟩, hf_125⟩
    have h_126 := hf_125.at (by omega) hO
    have hp_127 := MC.fr hC hf_125 (by omega)
    have hp_128 := SO.fr hl3 hf_125 (by omega)
    have hp_129 := SO.fr hl4 hf_125 (by omega)
    obtain ⟨σ130, hσ130⟩ : ∃ sM : Sg, sM = ulS σ r s := ⟨_, rfl⟩
    rw [← hσ130] at hR_124
    have hK_σ130 : gK σ130 = gK σ := (congrArg gK hσ130).trans (rfl : gK σ = gK σ)
    have hT_σ130 : gT σ130 = gT σ := (congrArg gT hσ130).trans (rfl : gT σ = gT σ)
    have hZ_σ130 : gZ σ130 = gZ σ := (congrArg gZ hσ130).trans (rfl : gZ σ = gZ σ)
    have hS_σ130 : SW B cs σ130 := by rw [hσ130]; exact SW.ulS hS (by omega) (by omega)
    show V K 0 0 P A g_122 [(0, .ref (A m)), (1, .int (nI r)), (2, .int (nI s)), (3, .int (nI 12)), (4, .int (nI x))] 179 []
    refine g_aload_n (pc := 179) C dX11_mends_179 0 rfl ?_
    refine g_iload_n (pc := 180) C dX11_mends_180 1 rfl ?_
    refine g_iload_n (pc := 181) C dX11_mends_181 2 rfl ?_
    refine g_callV (pc := 182) C (As := [.int (nI r), .int (nI s)]) (rest := []) (b := m) (c_X11_leavesPassive A P g_122 m r s (by omega) (by omega) (hS_σ130.p16 (by omega)) (by rw [hZ_σ130]; exact h_126) hZ_123 hR_124) h_126 rfl rfl Y_X11_leavesPassive u_1029 N_X11_leavesPassive ⟨by decide, by decide⟩ ⟨by decide, by decide⟩ (Nat.le_of_ble_eq_true rfl) rfl dX11_mends_182 ?_
    rintro _ _ _ g_131 ⟨rfl, rfl, rfl, ⟨Z_132, hZ_132, hR_133⟩, hf_134⟩
    have h_135 := hf_134.at (by omega) h_126
    have hp_136 := MC.fr hp_127 hf_134 (by omega)
    have hp_137 := SO.fr hp_128 hf_134 (by omega)
    have hp_138 := SO.fr hp_129 hf_134 (by omega)
    obtain ⟨σ139, hσ139⟩ : ∃ sM : Sg, sM = paRem σ130 r s := ⟨_, rfl⟩
    rw [← hσ139] at hR_133
    have hK_σ139 : gK σ139 = gK σ := (congrArg gK hσ139).trans hK_σ130
    have hT_σ139 : gT σ139 = gT σ := (congrArg gT hσ139).trans hT_σ130
    have hZ_σ139 : gZ σ139 = gZ σ := (congrArg gZ hσ139).trans hZ_σ130
    have hS_σ139 : SW B cs σ139 := by rw [hσ139]; exact SW.paRem hS_σ130 (by omega)
    show V K 0 0 P A g_131 [(0, .ref (A m)), (1, .int (nI r)), (2, .int (nI s)), (3, .int (nI 12)), (4, .int (nI x))] 185 []
    have hb2 : ∀ q, nAs (gN σ139 r) = some q → q < 2 ^ 31 := fun q hq => by have := hS_σ139.s16 (r := r) (by omega) q hq; omega
    refine g_aload_n (pc := 185) C dX11_mends_185 0 rfl ?_
    refine g_get (pc := 186) C (j := 0) h_135 rfl rfl (by decide) u_852 dX11_mends_186 ?_
    refine g_bipush (pc := 189) C dX11_mends_189 (v := nI 48) rfl ?_
    refine g_iload_n (pc := 191) C dX11_mends_191 1 rfl ?_
    refine g_iadd (pc := 192) C dX11_mends_192 (z := nI (48 + r)) (nI_add _ _) ?_
    refine g_iald (pc := 193) C hZ_132 (nI_clamp (by omega)) (nI_in0 (n := 10511) (by omega) (by omega)) dX11_mends_193 (x := onv (nAs (gN σ139 r))) (RZ.rAs hR_133 (r := r) (by omega) (by omega)) ?_
    refine g_iload_n (pc := 194) C dX11_mends_194 2 rfl ?_
    refine g_icmp_ne (pc := 195) C dX11_mends_195 (tgt := 209) (by decide) (fun c_195 => ?_) (fun c_195 => ?_)
    ·
      refine g_aload_n (pc := 209) C dX11_mends_209 0 rfl ?_
      refine g_iload_n (pc := 210) C dX11_mends_210 1 rfl ?_
      refine g_callV (pc := 211) C (As := [.int (nI r)]) (rest := []) (b := m) (c_X11_mend A P g_131 m r (by omega) hS_σ139 hp_136 hp_137 hp_138 (by rw [hZ_σ139]; exact h_135) hZ_132 hR_133) h_135 rfl rfl Y_X11_mend u_1057 N_X11_mend ⟨by decide, by decide⟩ ⟨by decide, by decide⟩ (Nat.le_of_ble_eq_true rfl) rfl dX11_mends_211 ?_
      rintro _ _ _ g_140 ⟨rfl, rfl, rfl, ⟨Z_141, hZ_141, hR_142⟩, ⟨lx_145, hs_144⟩, hf_143⟩
      have h_146 := hf_143.at (by omega) h_135
      have hp_147 := MC.frz hp_136 hf_143 (by omega)
      have hp_148 := SO.frz hp_137 hf_143 (by omega)
      obtain ⟨σ149, hσ149⟩ : ∃ sM : Sg, sM = mnd cs σ139 r := ⟨_, rfl⟩
      rw [← hσ149] at hR_142
      have hK_σ149 : gK σ149 = gK σ := (congrArg gK hσ149).trans (mnd_K.trans hK_σ139)
      have hT_σ149 : gT σ149 = gT σ := (congrArg gT hσ149).trans (mnd_T.trans hT_σ139)
      have hZ_σ149 : gZ σ149 = gZ σ := (congrArg gZ hσ149).trans (mnd_Z.trans hZ_σ139)
      have hS_σ149 : SW B cs σ149 := by rw [hσ149]; exact SW.mnd hS_σ139 (by omega)
      show V K 0 0 P A g_140 [(0, .ref (A m)), (1, .int (nI r)), (2, .int (nI s)), (3, .int (nI 12)), (4, .int (nI x))] 214 []
      exact g_vret (pc := 214) C R ⟨rfl, rfl, rfl, ⟨_, hZ_141, by show RZ _ (stp cs σ r s); rw [stp_f hσ130 hσ139 hσ149 (fun z => c_195 ((onv_eq hb2 (by omega)).mpr z))]; exact hR_142⟩, ⟨_, hs_144⟩, fun k hk1 hk2 => by rw [hf_143 k (by omega) (by omega), hf_134 k (by omega), hf_125 k (by omega)]⟩ (by decide) (by decide) dX11_mends_214
    ·
      refine g_aload_n (pc := 198) C dX11_mends_198 0 rfl ?_
      refine g_get (pc := 199) C (j := 0) h_135 rfl rfl (by decide) u_852 dX11_mends_199 ?_
      refine g_bipush (pc := 202) C dX11_mends_202 (v := nI 48) rfl ?_
      refine g_iload_n (pc := 204) C dX11_mends_204 1 rfl ?_
      refine g_iadd (pc := 205) C dX11_mends_205 (z := nI (48 + r)) (nI_add _ _) ?_
      refine g_bipush (pc := 206) C dX11_mends_206 (v := (-6)) rfl ?_
      refine g_iast (pc := 208) C hZ_132 (nI_clamp (by omega)) (nI_in0 (n := 10511) (by omega) (by omega)) dX11_mends_208 ?_
      obtain ⟨Z_150, hZ_150⟩ : ∃ yZ : Nat → Int32, yZ = upd Z_132 (48 + r) (-6) := ⟨_, rfl⟩
      show V K 0 0 P A (va_up g_131 (m + 1) (ai 0 10511 (upd Z_132 (48 + r) (-6)))) [(0, .ref (A m)), (1, .int (nI r)), (2, .int (nI s)), (3, .int (nI 12)), (4, .int (nI x))] 209 []
      rw [← hZ_150]
      obtain ⟨g_151, hg_151⟩ : ∃ yM : pM, yM = va_up g_131 (m + 1) (ai 0 10511 Z_150) := ⟨_, rfl⟩
      show V K 0 0 P A (va_up g_131 (m + 1) (ai 0 10511 Z_150)) [(0, .ref (A m)), (1, .int (nI r)), (2, .int (nI s)), (3, .int (nI 12)), (4, .int (nI x))] 209 []
      rw [← hg_151]
      have h_152 : g_151 m = ob 11 [.ref (A (m + 1)), .int (nI (gZ σ).1), .int (nI (gZ σ).2.1), .int (nI (gZ σ).2.2.1), .int (nI (gZ σ).2.2.2.1), .int (nI (gZ σ).2.2.2.2), .ref (A (m + 2)), .int (nI cs.length), .ref (A (m + 3)), .int (nI lm), .ref (A (m + 4)), .ref (A (m + 5)), .int (nI gm), .ref (A (m + 6)), .ref (A (m + 7)), .ref (A (m + 8))] := by rw [hg_151, va_up_ne _ _ (show m ≠ m + 1 from by omega)]; exact h_135
      have h_153 : g_151 (m + 1) = ai 0 10511 Z_150 := by rw [hg_151]; exact va_up_self _ _ _
      have hf_154 : Fr g_131 g_151 (m + 1) (m + 1 + 1) := by rw [hg_151]; exact Fr.up (by omega) (by omega)
      have hp_155 := MC.fr hp_136 hf_154 (by omega)
      have hp_156 := SO.fr hp_137 hf_154 (by omega)
      have hp_157 := SO.fr hp_138 hf_154 (by omega)
      have hR_158 : RZ Z_150 (asS σ139 r none) := RZ.wAs (o := none) hR_133 (by omega) hZ_150
      obtain ⟨σ159, hσ159⟩ : ∃ sM : Sg, sM = asS σ139 r none := ⟨_, rfl⟩
      rw [← hσ159] at hR_158
      have hK_σ159 : gK σ159 = gK σ := (congrArg gK hσ159).trans hK_σ139
      have hT_σ159 : gT σ159 = gT σ := (congrArg gT hσ159).trans hT_σ139
      have hZ_σ159 : gZ σ159 = gZ σ := (congrArg gZ hσ159).trans hZ_σ139
      have hS_σ159 : SW B cs σ159 := by rw [hσ159]; exact SW.asS hS_σ139 (by omega) (fun _ z => by cases z)
      refine g_aload_n (pc := 209) C dX11_mends_209 0 rfl ?_
      refine g_iload_n (pc := 210) C dX11_mends_210 1 rfl ?_
      refine g_callV (pc := 211) C (As := [.int (nI r)]) (rest := []) (b := m) (c_X11_mend A P g_151 m r (by omega) hS_σ159 hp_155 hp_156 hp_157 (by rw [hZ_σ159]; exact h_152) h_153 hR_158) h_152 rfl rfl Y_X11_mend u_1057 N_X11_mend ⟨by decide, by decide⟩ ⟨by decide, by decide⟩ (Nat.le_of_ble_eq_true rfl) rfl dX11_mends_211 ?_
      rintro _ _ _ g_160 ⟨rfl, rfl, rfl, ⟨Z_161, hZ_161, hR_162⟩, ⟨lx_165, hs_164⟩, hf_163⟩
      have h_166 := hf_163.at (by omega) h_152
      have hp_167 := MC.frz hp_155 hf_163 (by omega)
      have hp_168 := SO.frz hp_156 hf_163 (by omega)
      obtain ⟨σ169, hσ169⟩ : ∃ sM : Sg, sM = mnd cs σ159 r := ⟨_, rfl⟩
      rw [← hσ169] at hR_162
      have hK_σ169 : gK σ169 = gK σ := (congrArg gK hσ169).trans (mnd_K.trans hK_σ159)
      have hT_σ169 : gT σ169 = gT σ := (congrArg gT hσ169).trans (mnd_T.trans hT_σ159)
      have hZ_σ169 : gZ σ169 = gZ σ := (congrArg gZ hσ169).trans (mnd_Z.trans hZ_σ159)
      have hS_σ169 : SW B cs σ169 := by rw [hσ169]; exact SW.mnd hS_σ159 (by omega)
      show V K 0 0 P A g_160 [(0, .ref (A m)), (1, .int (nI r)), (2, .int (nI s)), (3, .int (nI 12)), (4, .int (nI x))] 214 []
      exact g_vret (pc := 214) C R ⟨rfl, rfl, rfl, ⟨_, hZ_161, by show RZ _ (stp cs σ r s); rw [stp_t hσ130 hσ139 hσ159 hσ169 ((onv_eq hb2 (by omega)).mp c_195)]; exact hR_162⟩, ⟨_, hs_164⟩, fun k hk1 hk2 => by rw [hf_163 k (by omega) (by omega), hg_151, va_up_ne _ _ (by omega), hf_134 k (by omega), hf_125 k (by omega)]⟩ (by decide) (by decide) dX11_mends_214
