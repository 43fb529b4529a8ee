-- PART 28: the reference's calls
theorem wlk_Z {cs : List Nat} {σ : Sg} {i s x y : Nat} : gZ (wlk cs σ i s x y) = gZ σ := by
  have we : ∀ {σ : Sg}, gZ (wend cs σ i x) = gZ σ := fun {σ} => by
    simp only [wend]
    split
    · rfl
    · exact snd_Z.trans add_Z
  simp only [wlk]
  split
  · rfl
  · split
    · have e1 : gZ (if y = (gZ σ).2.2.2.1 then nte cs σ i x else σ) = gZ σ := by
        split
        · exact nte_Z
        · rfl
      generalize (if y = (gZ σ).2.2.2.1 then nte cs σ i x else σ) = σ1 at e1 ⊢
      refine Eq.trans ?_ e1
      simp only [wlk2]
      split
      · exact we.trans dS_Z
      · exact snd_Z.trans dS_Z
    · exact we
theorem mixS_Z {cs : List Nat} {σ : Sg} {i s x y : Nat} {l : List Nat} : gZ (mixS cs σ i s x y l) = gZ σ := by
  simp only [mixS]
  split
  · exact snd_Z.trans dS_Z
  · refine tkL_Z.trans ?_
    split
    · rfl
    · exact ansS_Z
theorem cme_Z {cs : List Nat} {σ : Sg} {i : Nat} {u : Lt} : gZ (cme cs σ i u) = gZ σ := by
  show gZ (cme2 cs (tak σ i u) u.2.1 u.1 u.2.2.1 u.2.2.2.1 u.2.2.2.2.1 u.2.2.2.2.2) = gZ (tak σ i u)
  generalize tak σ i u = σ
  generalize u.2.1 = r
  generalize u.1 = s
  generalize u.2.2.2.1 = x
  generalize u.2.2.2.2.1 = y
  generalize u.2.2.2.2.2 = l
  generalize u.2.2.1 = k
  unfold cme2
  split
  · exact snd_Z.trans (by rw [jnF_w]; exact jnW_Z.trans add_Z)
  · exact wlk_Z
  · exact add_Z
  · simp only [prt]; split
    · exact mnd_Z.trans nte_Z
    · rfl
  · simp only [askS]; split
    · exact snd_Z.trans add_Z
    · exact snd_Z
  · simp only [rfs]; split
    · exact mnd_Z
    · rfl
  · exact mixS_Z
  · exact tkL_Z
  · simp only [tel]; split
    · rfl
    · split
      · exact snd_Z
      · exact her_Z
  · exact nto_Z
  · simp only [cho]; split
    · rfl
    · split
      · rfl
      · split
        · rfl
        · exact snd_Z
  · simp only [stp]
    refine mnd_Z.trans ?_
    split <;> rfl
  · rfl
theorem mm_cme {A : Nat → Nat} {g : pM} {m i : Nat} {cs : List Nat} {σ : Sg} {u : Lt} (h1 : MSc A g m (gZ σ) cs.length) (h2 : ZS g m (cme cs σ i u)) (h3 : MC g m cs) : MM A g m cs (cme cs σ i u) := by
  refine ⟨?_, h2, h3⟩
  rw [cme_Z]
  exact h1
theorem any_mono {row : List Lt} {p : Lt → Bool} {k i : Nat} (h : k ≤ i) (h2 : (row.take k).any p = true) : (row.take i).any p = true := by
  rw [List.any_eq_true] at h2 ⊢
  obtain ⟨x, hx, hp⟩ := h2
  refine ⟨x, ?_, hp⟩
  have : row.take k = (row.take i).take k := by rw [List.take_take, Nat.min_eq_left h]
  rw [this] at hx
  exact List.mem_of_mem_take hx
abbrev rm_X11_canCome : Room := { frames := 1, cells := 0, slots := 0, locals := 22 }
theorem Y_X11_canCome : pY yX11_canCome cX11_canCome 4 (Option.some Jvm.ClassFile.FieldType.boolean) := ⟨u_1015, us_18, u_13, u_1016⟩
theorem N_X11_canCome : yX11_canCome.cls ≠ "java/lang/invoke/MethodHandle" ∧ yX11_canCome.cls ≠ "java/lang/invoke/VarHandle" ∧ (parseMethodDescriptor yX11_canCome.desc).map (fun d => d.parameters.length) = some 1 := by decide +kernel
set_option maxRecDepth 20000 in
set_option maxHeartbeats 4000000 in
theorem c_X11_canCome (A : Nat → Nat) (P : List Nat) (g : pM) (m : Nat) {cs : List Nat} {σ : Sg} {B : Nat} (i : Nat) (u : Lt) (hu : (gR σ)[i]? = some u) (hS : SW B cs σ) (hM : MM A g m cs σ) : PM yX11_canCome cX11_canCome 4 (Option.some Jvm.ClassFile.FieldType.boolean) rm_X11_canCome [.ref (A m), .int (nI i)] P A g (fun v g' => v = some (.int (b32 (cancome (gR σ) i))) ∧ g = g') := by
  obtain ⟨⟨lm, gm, l3, l4, l5, hO, hl3, hl4, hl5⟩, ⟨Z, hZ, hR⟩, hC⟩ := id hM
  have hK := hR.k16
  have hT := hR.t24
  have hL := hR.le
  have hi := (List.getElem?_eq_some_iff.mp hu).1
  obtain ⟨hu1, hu2, -⟩ := hS.2.2.2.2.2.1 u (List.mem_of_getElem? hu)
  refine px_intro (by decide +kernel) (Nat.le_of_ble_eq_true rfl) (fun K sz C R => ?_)
  show V K 0 0 P A g [(0, .ref (A m)), (1, .int (nI i))] 0 []
  refine g_iconst (pc := 0) C dX11_canCome_0 (v := nI 1) rfl ?_
  refine g_istore_n (pc := 1) C dX11_canCome_1 (by decide) (lv' := [(0, .ref (A m)), (1, .int (nI i)), (2, .int (nI 1))]) [1, 2, 0] rfl ?_
  refine g_iconst (pc := 2) C dX11_canCome_2 (v := nI 0) rfl ?_
  refine g_istore_n (pc := 3) C dX11_canCome_3 (by decide) (lv' := [(0, .ref (A m)), (1, .int (nI i)), (2, .int (nI 1)), (3, .int (nI 0))]) [1, 2, 3, 0] rfl ?_
  have lp_4 : ∀ (fuel : Nat) (k : Nat) (hk : k ≤ i), i - k < fuel → V K 0 0 P A g [(0, .ref (A m)), (1, .int (nI i)), (2, .int (b32 (!(((gR σ).take k).any (fun q => q.1 == u.1 && q.2.1 == u.2.1))))), (3, .int (nI k))] 4 [] := by
    intro fuel
    induction fuel with
    | zero => intro k hk hμ; exact absurd hμ (Nat.not_lt_zero _)
    | succ fuel ih_4 =>
      intro k hk hμ
      refine g_iload_n (pc := 4) C dX11_canCome_4 3 rfl ?_
      refine g_iload_n (pc := 5) C dX11_canCome_5 1 rfl ?_
      refine g_icmp_ge (pc := 6) C dX11_canCome_6 (tgt := 75) (by decide) (fun c_6 => ?_) (fun c_6 => ?_)
      ·
        have c_6 : i ≤ k := (nI_leI (by omega) (by omega)).mp c_6
        refine g_iload_n (pc := 75) C dX11_canCome_75 2 rfl ?_
        exact g_zret (pc := 76) C R (b32_z _) ⟨rfl, rfl, by rw [cancome_of hu, show i = k by omega], rfl⟩ (by decide) (by decide) dX11_canCome_76
      ·
        have c_6 : ¬ i ≤ k := fun h => c_6 ((nI_leI (a := i) (b := k) (by omega) (by omega)).mpr h)
        refine g_iload_n (pc := 9) C dX11_canCome_9 2 rfl ?_
        refine g_if_eq (pc := 10) C dX11_canCome_10 (tgt := 75) (by decide) (fun c_10 => ?_) (fun c_10 => ?_)
        ·
          have c_10 : (!(((gR σ).take k).any (fun q => q.1 == u.1 && q.2.1 == u.2.1))) = false := b32_yes c_10
          refine g_iload_n (pc := 75) C dX11_canCome_75 2 rfl ?_
          exact g_zret (pc := 76) C R (b32_z _) ⟨rfl, rfl, by rw [cancome_of hu, c_10, any_mono hk (by cases e : (((gR σ).take k).any (fun q => q.1 == u.1 && q.2.1 == u.2.1)); rw [e] at c_10; cases c_10; rfl)]; rfl, rfl⟩ (by decide) (by decide) dX11_canCome_76
        ·
          have c_10 : (!(((gR σ).take k).any (fun q => q.1 == u.1 && q.2.1 == u.2.1))) = true := b32_no c_10
          have hcn : (((gR σ).take k).any (fun q => q.1 == u.1 && q.2.1 == u.2.1)) = false := by cases e : (((gR σ).take k).any (fun q => q.1 == u.1 && q.2.1 == u.2.1)); rfl; rw [e] at c_10; cases c_10
          obtain ⟨v, hv⟩ : ∃ v, (gR σ)[k]? = some v := ⟨_, List.getElem?_eq_getElem (show k < (gR σ).length by omega)⟩
          obtain ⟨hw1, hw2, -⟩ := hS.2.2.2.2.2.1 v (List.mem_of_getElem? hv)
          refine g_aload_n (pc := 13) C dX11_canCome_13 0 rfl ?_
          refine g_get (pc := 14) C (j := 0) hO rfl rfl (by decide) u_852 dX11_canCome_14 ?_
          refine g_aload_n (pc := 17) C dX11_canCome_17 0 rfl ?_
          refine g_iload_n (pc := 18) C dX11_canCome_18 3 rfl ?_
          refine g_iconst (pc := 19) C dX11_canCome_19 (v := nI 0) rfl ?_
          refine g_callV (pc := 20) C (As := [.int (nI k), .int (nI 0)]) (rest := [.ref (A (m + 1))]) (b := m) (c_X11_ofLetter A P g m k 0) hO rfl rfl Y_X11_ofLetter u_945 N_X11_ofLetter ⟨by decide, by decide⟩ ⟨by decide, by decide⟩ (Nat.le_of_ble_eq_true rfl) rfl dX11_canCome_20 ?_
          rintro _ _ _ _ ⟨rfl, rfl, rfl, rfl⟩
          show V K 0 0 P A g [(0, .ref (A m)), (1, .int (nI i)), (2, .int (b32 (!(((gR σ).take k).any (fun q => q.1 == u.1 && q.2.1 == u.2.1))))), (3, .int (nI k))] 23 [.int (nI (4992 + 11 * k + 0)), .ref (A (m + 1))]
          refine g_iald (pc := 23) C hZ (nI_clamp (by omega)) (nI_in0 (n := 10511) (by omega) (by omega)) dX11_canCome_23 (x := nI v.1) (RZ.rL hR (i := k) 0 (by omega) hv (by omega)) ?_
          refine g_aload_n (pc := 24) C dX11_canCome_24 0 rfl ?_
          refine g_get (pc := 25) C (j := 0) hO rfl rfl (by decide) u_852 dX11_canCome_25 ?_
          refine g_aload_n (pc := 28) C dX11_canCome_28 0 rfl ?_
          refine g_iload_n (pc := 29) C dX11_canCome_29 1 rfl ?_
          refine g_iconst (pc := 30) C dX11_canCome_30 (v := nI 0) rfl ?_
          refine g_callV (pc := 31) C (As := [.int (nI i), .int (nI 0)]) (rest := [.ref (A (m + 1)), .int (nI v.1)]) (b := m) (c_X11_ofLetter A P g m i 0) hO rfl rfl Y_X11_ofLetter u_945 N_X11_ofLetter ⟨by decide, by decide⟩ ⟨by decide, by decide⟩ (Nat.le_of_ble_eq_true rfl) rfl dX11_canCome_31 ?_
          rintro _ _ _ _ ⟨rfl, rfl, rfl, rfl⟩
          show V K 0 0 P A g [(0, .ref (A m)), (1, .int (nI i)), (2, .int (b32 (!(((gR σ).take k).any (fun q => q.1 == u.1 && q.2.1 == u.2.1))))), (3, .int (nI k))] 34 [.int (nI (4992 + 11 * i + 0)), .ref (A (m + 1)), .int (nI v.1)]
          refine g_iald (pc := 34) C hZ (nI_clamp (by omega)) (nI_in0 (n := 10511) (by omega) (by omega)) dX11_canCome_34 (x := nI u.1) (RZ.rL hR (i := i) 0 (by omega) hu (by omega)) ?_
          refine g_icmp_ne (pc := 35) C dX11_canCome_35 (tgt := 63) (by decide) (fun c_35 => ?_) (fun c_35 => ?_)
          ·
            have c_35 : ¬ v.1 = u.1 := fun h => c_35 ((nI_eq (a := v.1) (b := u.1) (by omega) (by omega)).mpr h)
            refine g_iconst (pc := 63) C dX11_canCome_63 (v := nI 1) rfl ?_
            refine g_goto (pc := 64) C dX11_canCome_64 (tgt := 68) (by decide) ?_
            refine g_istore_n (pc := 68) C dX11_canCome_68 (by decide) (lv' := [(0, .ref (A m)), (1, .int (nI i)), (2, .int (nI 1)), (3, .int (nI k))]) [1, 2, 0, 3] rfl ?_
            refine g_iinc (pc := 69) C dX11_canCome_69 (by decide) 3 rfl (v := nI (k + 1)) (nI_i1 _) (lv' := [(0, .ref (A m)), (1, .int (nI i)), (2, .int (nI 1)), (3, .int (nI (k + 1)))]) [1, 2, 3, 0] rfl ?_
            refine g_goto (pc := 72) C dX11_canCome_72 (tgt := 4) (by decide) ?_
            have hbk : (nI 1 : Int32) = b32 (!(((gR σ).take (k + 1)).any (fun q => q.1 == u.1 && q.2.1 == u.2.1))) := by rw [any_take hv, hcn, show (v.1 == u.1 && v.2.1 == u.2.1) = false from by rw [show (v.1 == u.1) = false from beq_eq_false_iff_ne.mpr c_35]; rfl]; rfl
            rw [hbk]
            exact ih_4 (k + 1) (by omega) (by omega)
          ·
            have c_35 : v.1 = u.1 := (nI_eq (by omega) (by omega)).mp c_35
            refine g_aload_n (pc := 38) C dX11_canCome_38 0 rfl ?_
            refine g_get (pc := 39) C (j := 0) hO rfl rfl (by decide) u_852 dX11_canCome_39 ?_
            refine g_aload_n (pc := 42) C dX11_canCome_42 0 rfl ?_
            refine g_iload_n (pc := 43) C dX11_canCome_43 3 rfl ?_
            refine g_iconst (pc := 44) C dX11_canCome_44 (v := nI 1) rfl ?_
            refine g_callV (pc := 45) C (As := [.int (nI k), .int (nI 1)]) (rest := [.ref (A (m + 1))]) (b := m) (c_X11_ofLetter A P g m k 1) hO rfl rfl Y_X11_ofLetter u_945 N_X11_ofLetter ⟨by decide, by decide⟩ ⟨by decide, by decide⟩ (Nat.le_of_ble_eq_true rfl) rfl dX11_canCome_45 ?_
            rintro _ _ _ _ ⟨rfl, rfl, rfl, rfl⟩
            show V K 0 0 P A g [(0, .ref (A m)), (1, .int (nI i)), (2, .int (b32 (!(((gR σ).take k).any (fun q => q.1 == u.1 && q.2.1 == u.2.1))))), (3, .int (nI k))] 48 [.int (nI (4992 + 11 * k + 1)), .ref (A (m + 1))]
            refine g_iald (pc := 48) C hZ (nI_clamp (by omega)) (nI_in0 (n := 10511) (by omega) (by omega)) dX11_canCome_48 (x := nI v.2.1) (RZ.rL hR (i := k) 1 (by omega) hv (by omega)) ?_
            refine g_aload_n (pc := 49) C dX11_canCome_49 0 rfl ?_
            refine g_get (pc := 50) C (j := 0) hO rfl rfl (by decide) u_852 dX11_canCome_50 ?_
            refine g_aload_n (pc := 53) C dX11_canCome_53 0 rfl ?_
            refine g_iload_n (pc := 54) C dX11_canCome_54 1 rfl ?_
            refine g_iconst (pc := 55) C dX11_canCome_55 (v := nI 1) rfl ?_
            refine g_callV (pc := 56) C (As := [.int (nI i), .int (nI 1)]) (rest := [.ref (A (m + 1)), .int (nI v.2.1)]) (b := m) (c_X11_ofLetter A P g m i 1) hO rfl rfl Y_X11_ofLetter u_945 N_X11_ofLetter ⟨by decide, by decide⟩ ⟨by decide, by decide⟩ (Nat.le_of_ble_eq_true rfl) rfl dX11_canCome_56 ?_
            rintro _ _ _ _ ⟨rfl, rfl, rfl, rfl⟩
            show V K 0 0 P A g [(0, .ref (A m)), (1, .int (nI i)), (2, .int (b32 (!(((gR σ).take k).any (fun q => q.1 == u.1 && q.2.1 == u.2.1))))), (3, .int (nI k))] 59 [.int (nI (4992 + 11 * i + 1)), .ref (A (m + 1)), .int (nI v.2.1)]
            refine g_iald (pc := 59) C hZ (nI_clamp (by omega)) (nI_in0 (n := 10511) (by omega) (by omega)) dX11_canCome_59 (x := nI u.2.1) (RZ.rL hR (i := i) 1 (by omega) hu (by omega)) ?_
            refine g_icmp_eq (pc := 60) C dX11_canCome_60 (tgt := 67) (by decide) (fun c_60 => ?_) (fun c_60 => ?_)
            ·
              have c_60 : v.2.1 = u.2.1 := (nI_eq (by omega) (by omega)).mp c_60
              refine g_iconst (pc := 67) C dX11_canCome_67 (v := nI 0) rfl ?_
              refine g_istore_n (pc := 68) C dX11_canCome_68 (by decide) (lv' := [(0, .ref (A m)), (1, .int (nI i)), (2, .int (nI 0)), (3, .int (nI k))]) [1, 2, 0, 3] rfl ?_
              refine g_iinc (pc := 69) C dX11_canCome_69 (by decide) 3 rfl (v := nI (k + 1)) (nI_i1 _) (lv' := [(0, .ref (A m)), (1, .int (nI i)), (2, .int (nI 0)), (3, .int (nI (k + 1)))]) [1, 2, 3, 0] rfl ?_
              refine g_goto (pc := 72) C dX11_canCome_72 (tgt := 4) (by decide) ?_
              have hbk : (nI 0 : Int32) = b32 (!(((gR σ).take (k + 1)).any (fun q => q.1 == u.1 && q.2.1 == u.2.1))) := by rw [any_take hv, hcn, show (v.1 == u.1 && v.2.1 == u.2.1) = true from by rw [c_35, c_60]; simp]; rfl
              rw [hbk]
              exact ih_4 (k + 1) (by omega) (by omega)
            ·
              have c_60 : ¬ v.2.1 = u.2.1 := fun h => c_60 ((nI_eq (a := v.2.1) (b := u.2.1) (by omega) (by omega)).mpr h)
              refine g_iconst (pc := 63) C dX11_canCome_63 (v := nI 1) rfl ?_
              refine g_goto (pc := 64) C dX11_canCome_64 (tgt := 68) (by decide) ?_
              refine g_istore_n (pc := 68) C dX11_canCome_68 (by decide) (lv' := [(0, .ref (A m)), (1, .int (nI i)), (2, .int (nI 1)), (3, .int (nI k))]) [1, 2, 0, 3] rfl ?_
              refine g_iinc (pc := 69) C dX11_canCome_69 (by decide) 3 rfl (v := nI (k + 1)) (nI_i1 _) (lv' := [(0, .ref (A m)), (1, .int (nI i)), (2, .int (nI 1)), (3, .int (nI (k + 1)))]) [1, 2, 3, 0] rfl ?_
              refine g_goto (pc := 72) C dX11_canCome_72 (tgt := 4) (by decide) ?_
              have hbk : (nI 1 : Int32) = b32 (!(((gR σ).take (k + 1)).any (fun q => q.1 == u.1 && q.2.1 == u.2.1))) := by rw [any_take hv, hcn, show (v.1 == u.1 && v.2.1 == u.2.1) = false from by rw [show (v.2.1 == u.2.1) = false from beq_eq_false_iff_ne.mpr c_60, Bool.and_false]]; rfl
              rw [hbk]
              exact ih_4 (k + 1) (by omega) (by omega)
  exact lp_4 (_ + 1) 0 (Nat.zero_le _) (Nat.lt_succ_self _)
abbrev rm_X11_deliver : Room := { frames := 8, cells := 0, slots := 0, locals := 206 }
theorem Y_X11_deliver : pY yX11_deliver cX11_deliver 2 (Option.some Jvm.ClassFile.FieldType.int) := ⟨u_1010, u_1011, u_13, u_1012⟩
theorem N_X11_deliver : yX11_deliver.cls ≠ "java/lang/invoke/MethodHandle" ∧ yX11_deliver.cls ≠ "java/lang/invoke/VarHandle" ∧ (parseMethodDescriptor yX11_deliver.desc).map (fun d => d.parameters.length) = some 1 := by decide +kernel
set_option maxRecDepth 20000 in
set_option maxHeartbeats 4000000 in
theorem c_X11_deliver (A : Nat → Nat) (P : List Nat) (g : pM) (m : Nat) {cs : List Nat} {σ : Sg} {B : Nat} (x : Int32) (hB2 : B + 1 < 2 ^ 30) (hS : SW B cs σ) (hM : MM A g m cs σ) : PM yX11_deliver cX11_deliver 2 (Option.some Jvm.ClassFile.FieldType.int) rm_X11_deliver [.ref (A m), .int x] P A g (fun v g' => (decide (¬ x < 0 ∧ x < nI (gR σ).length) = false ∧ v = some (.int (-1)) ∧ g = g') ∨ (∃ i, i < (gR σ).length ∧ x = nI i ∧ ((cancome (gR σ) i = false ∧ v = some (.int (-5)) ∧ g = g') ∨ (cancome (gR σ) i = true ∧ ∃ t, (gR σ)[i]? = some t ∧ v = some (.int (nI t.2.2.1)) ∧ MM A g' m cs (cme cs σ i t) ∧ FrA g g' m)))) := by
  obtain ⟨⟨lm, gm, l3, l4, l5, hO, hl3, hl4, hl5⟩, ⟨Z, hZ, hR⟩, hC⟩ := id hM
  have hK := hR.k16
  have hT := hR.t24
  have hL := hR.le
  refine px_intro (by decide +kernel) (Nat.le_of_ble_eq_true rfl) (fun K sz C R => ?_)
  show V K 0 0 P A g [(0, .ref (A m)), (1, .int x)] 0 []
  refine g_iload_n (pc := 0) C dX11_deliver_0 1 rfl ?_
  refine g_i2l (pc := 1) C dX11_deliver_1 ?_
  refine g_lconst (pc := 2) C dX11_deliver_2 (v := 0) rfl ?_
  refine g_aload_n (pc := 3) C dX11_deliver_3 0 rfl ?_
  refine g_get (pc := 4) C (j := 0) hO rfl rfl (by decide) u_852 dX11_deliver_4 ?_
  refine g_sipush (pc := 7) C dX11_deliver_7 (v := nI 10507) rfl ?_
  refine g_iald (pc := 10) C hZ (nI_clamp (by omega)) (nI_in0 (n := 10511) (by omega) (by omega)) dX11_deliver_10 (x := nI (gR σ).length) (RZ.rRn hR (by omega)) ?_
  refine g_iconst (pc := 11) C dX11_deliver_11 (v := nI 1) rfl ?_
  refine g_isub (pc := 12) C dX11_deliver_12 (z := nI (gR σ).length - nI 1) rfl ?_
  refine g_i2l (pc := 13) C dX11_deliver_13 ?_
  refine g_callS (pc := 14) C (As := [.long (x).toInt64, .long 0, .long (nI (gR σ).length - nI 1).toInt64]) (rest := []) (c_X11_in A P g (x).toInt64 0 (nI (gR σ).length - nI 1).toInt64) rfl u_908 u_13 u_909 u_907 N_X11_in ⟨by decide, by decide⟩ ⟨by decide, by decide⟩ (Nat.le_of_ble_eq_true rfl) rfl dX11_deliver_14 ?_
  rintro _ _ _ _ ⟨rfl, rfl, rfl, rfl⟩
  show V K 0 0 P A g [(0, .ref (A m)), (1, .int x)] 17 [.int (b32 (decide (0 ≤ (x).toInt64 ∧ (x).toInt64 ≤ (nI (gR σ).length - nI 1).toInt64)))]
  refine g_if_ne (pc := 17) C dX11_deliver_17 (tgt := 22) (by decide) (fun c_17 => ?_) (fun c_17 => ?_)
  ·
    have c_17 : (decide (0 ≤ (x).toInt64 ∧ (x).toInt64 ≤ (nI (gR σ).length - nI 1).toInt64)) = true := b32_no c_17
    have c_17 : (0 ≤ (x).toInt64 ∧ (x).toInt64 ≤ (nI (gR σ).length - nI 1).toInt64) := of_decide_eq_true c_17
    obtain ⟨i, hi, rfl⟩ := isK_ex (K := (gR σ).length) (by omega) ((in_K (n := (gR σ).length) (by omega)).symm.trans (decide_eq_true c_17))
    obtain ⟨u, hu⟩ : ∃ u, (gR σ)[i]? = some u := ⟨_, List.getElem?_eq_getElem hi⟩
    refine g_aload_n (pc := 22) C dX11_deliver_22 0 rfl ?_
    refine g_iload_n (pc := 23) C dX11_deliver_23 1 rfl ?_
    refine g_callV (pc := 24) C (As := [.int (nI i)]) (rest := []) (b := m) (c_X11_canCome A P g m i u hu hS hM) hO rfl rfl Y_X11_canCome u_1013 N_X11_canCome ⟨by decide, by decide⟩ ⟨by decide, by decide⟩ (Nat.le_of_ble_eq_true rfl) rfl dX11_deliver_24 ?_
    rintro _ _ _ _ ⟨rfl, rfl, rfl, rfl⟩
    show V K 0 0 P A g [(0, .ref (A m)), (1, .int (nI i))] 27 [.int (b32 (cancome (gR σ) i))]
    refine g_if_eq (pc := 27) C dX11_deliver_27 (tgt := 38) (by decide) (fun c_27 => ?_) (fun c_27 => ?_)
    ·
      have c_27 : (cancome (gR σ) i) = false := b32_yes c_27
      refine g_bipush (pc := 38) C dX11_deliver_38 (v := (-5)) rfl ?_
      exact g_iret (pc := 40) C R ⟨rfl, rfl, Or.inr ⟨i, hi, rfl, Or.inl ⟨c_27, rfl, rfl⟩⟩⟩ (by decide) (by decide) dX11_deliver_40
    ·
      have c_27 : (cancome (gR σ) i) = true := b32_no c_27
      refine g_aload_n (pc := 30) C dX11_deliver_30 0 rfl ?_
      refine g_iload_n (pc := 31) C dX11_deliver_31 1 rfl ?_
      refine g_callV (pc := 32) C (As := [.int (nI i)]) (rest := []) (b := m) (c_X11_comes A P g m i u hu hS hB2 hC hl3 hl4 hl5 hO hZ hR) hO rfl rfl Y_X11_comes u_1017 N_X11_comes ⟨by decide, by decide⟩ ⟨by decide, by decide⟩ (Nat.le_of_ble_eq_true rfl) rfl dX11_deliver_32 ?_
      rintro _ _ _ g_1 ⟨rfl, rfl, rfl, hzs_3, hms_2, hf_4⟩
      have hMCg_1 := MC.fra hC hf_4 (by omega)
      show V K 0 0 P A g_1 [(0, .ref (A m)), (1, .int (nI i))] 35 [.int (nI u.2.2.1)]
      refine g_goto (pc := 35) C dX11_deliver_35 (tgt := 40) (by decide) ?_
      exact g_iret (pc := 40) C R ⟨rfl, rfl, Or.inr ⟨i, hi, rfl, Or.inr ⟨c_27, u, hu, rfl, mm_cme hms_2 hzs_3 hMCg_1, hf_4⟩⟩⟩ (by decide) (by decide) dX11_deliver_40
  ·
    have c_17 : (decide (0 ≤ (x).toInt64 ∧ (x).toInt64 ≤ (nI (gR σ).length - nI 1).toInt64)) = false := b32_yes c_17
    have c_17 : ¬ (0 ≤ (x).toInt64 ∧ (x).toInt64 ≤ (nI (gR σ).length - nI 1).toInt64) := of_decide_eq_false c_17
    refine g_iconst (pc := 20) C dX11_deliver_20 (v := (-1)) rfl ?_
    exact g_iret (pc := 21) C R ⟨rfl, rfl, Or.inl ⟨(in_K (by omega)).symm.trans (decide_eq_false c_17), rfl, rfl⟩⟩ (by decide) (by decide) dX11_deliver_21
abbrev rm_X11_join : Room := { frames := 4, cells := 0, slots := 0, locals := 101 }
theorem Y_X11_join : pY yX11_join cX11_join 3 (Option.some Jvm.ClassFile.FieldType.int) := ⟨u_926, u_927, u_13, u_928⟩
theorem N_X11_join : yX11_join.cls ≠ "java/lang/invoke/MethodHandle" ∧ yX11_join.cls ≠ "java/lang/invoke/VarHandle" ∧ (parseMethodDescriptor yX11_join.desc).map (fun d => d.parameters.length) = some 2 := by decide +kernel
set_option maxRecDepth 20000 in
set_option maxHeartbeats 4000000 in
theorem c_X11_join (A : Nat → Nat) (P : List Nat) (g : pM) (m : Nat) {cs : List Nat} {σ : Sg} {B : Nat} (x y : Int32) (hS : SW B cs σ) (hM : MM A g m cs σ) : PM yX11_join cX11_join 3 (Option.some Jvm.ClassFile.FieldType.int) rm_X11_join [.ref (A m), .int x, .int y] P A g (fun v g' => ((isN σ x = false ∨ isN σ y = false) ∧ v = some (.int (-1)) ∧ g = g') ∨ (∃ i j, i < gK σ ∧ j < gK σ ∧ x = nI i ∧ y = nI j ∧ (((lvd σ i = false ∨ lvd σ j = false) ∧ v = some (.int (-3)) ∧ g = g') ∨ (lvd σ i = true ∧ lvd σ j = true ∧ ((i = j ∧ v = some (.int (-5)) ∧ g = g') ∨ (¬ i = j ∧ v = some (.int (nI (gR (snd σ i j 1 0 0 [])).length)) ∧ MM A g' m cs (snd σ i j 1 0 0 []) ∧ FrA g g' m)))))) := by
  obtain ⟨⟨lm, gm, l3, l4, l5, hO, hl3, hl4, hl5⟩, ⟨Z, hZ, hR⟩, hC⟩ := id hM
  have hK := hR.k16
  have hT := hR.t24
  have hL := hR.le
  refine px_intro (by decide +kernel) (Nat.le_of_ble_eq_true rfl) (fun K sz C R => ?_)
  show V K 0 0 P A g [(0, .ref (A m)), (1, .int x), (2, .int y)] 0 []
  refine g_aload_n (pc := 0) C dX11_join_0 0 rfl ?_
  refine g_iload_n (pc := 1) C dX11_join_1 1 rfl ?_
  refine g_callV (pc := 2) C (As := [.int x]) (rest := []) (b := m) (c_X11_isNode A P g m x hO hZ hR) hO rfl rfl Y_X11_isNode u_929 N_X11_isNode ⟨by decide, by decide⟩ ⟨by decide, by decide⟩ (Nat.le_of_ble_eq_true rfl) rfl dX11_join_2 ?_
  rintro _ _ _ _ ⟨rfl, rfl, rfl, rfl⟩
  show V K 0 0 P A g [(0, .ref (A m)), (1, .int x), (2, .int y)] 5 [.int (b32 (isN σ x))]
  refine g_if_eq (pc := 5) C dX11_join_5 (tgt := 16) (by decide) (fun c_5 => ?_) (fun c_5 => ?_)
  ·
    have c_5 : (isN σ x) = false := b32_yes c_5
    refine g_iconst (pc := 16) C dX11_join_16 (v := (-1)) rfl ?_
    exact g_iret (pc := 17) C R ⟨rfl, rfl, Or.inl ⟨Or.inl c_5, rfl, rfl⟩⟩ (by decide) (by decide) dX11_join_17
  ·
    have c_5 : (isN σ x) = true := b32_no c_5
    obtain ⟨i, hi, rfl⟩ := isN_ex hK c_5
    refine g_aload_n (pc := 8) C dX11_join_8 0 rfl ?_
    refine g_iload_n (pc := 9) C dX11_join_9 2 rfl ?_
    refine g_callV (pc := 10) C (As := [.int y]) (rest := []) (b := m) (c_X11_isNode A P g m y hO hZ hR) hO rfl rfl Y_X11_isNode u_929 N_X11_isNode ⟨by decide, by decide⟩ ⟨by decide, by decide⟩ (Nat.le_of_ble_eq_true rfl) rfl dX11_join_10 ?_
    rintro _ _ _ _ ⟨rfl, rfl, rfl, rfl⟩
    show V K 0 0 P A g [(0, .ref (A m)), (1, .int (nI i)), (2, .int y)] 13 [.int (b32 (isN σ y))]
    refine g_if_ne (pc := 13) C dX11_join_13 (tgt := 18) (by decide) (fun c_13 => ?_) (fun c_13 => ?_)
    ·
      have c_13 : (isN σ y) = true := b32_no c_13
      obtain ⟨j, hj, rfl⟩ := isN_ex hK c_13
      refine g_aload_n (pc := 18) C dX11_join_18 0 rfl ?_
      refine g_get (pc := 19) C (j := 0) hO rfl rfl (by decide) u_852 dX11_join_19 ?_
      refine g_iconst (pc := 22) C dX11_join_22 (v := nI 0) rfl ?_
      refine g_iload_n (pc := 23) C dX11_join_23 1 rfl ?_
      refine g_iadd (pc := 24) C dX11_join_24 (z := nI (0 + i)) (nI_add _ _) ?_
      refine g_iald (pc := 25) C hZ (nI_clamp (by omega)) (nI_in0 (n := 10511) (by omega) (by omega)) dX11_join_25 (x := b32 (lvd σ i)) (RZ.rLv hR (r := i) (by omega) (by omega)) ?_
      refine g_if_eq (pc := 26) C dX11_join_26 (tgt := 40) (by decide) (fun c_26 => ?_) (fun c_26 => ?_)
      ·
        have c_26 : (lvd σ i) = false := b32_yes c_26
        refine g_bipush (pc := 40) C dX11_join_40 (v := (-3)) rfl ?_
        exact g_iret (pc := 42) C R ⟨rfl, rfl, Or.inr ⟨i, j, hi, hj, rfl, rfl, Or.inl ⟨Or.inl c_26, rfl, rfl⟩⟩⟩ (by decide) (by decide) dX11_join_42
      ·
        have c_26 : (lvd σ i) = true := b32_no c_26
        refine g_aload_n (pc := 29) C dX11_join_29 0 rfl ?_
        refine g_get (pc := 30) C (j := 0) hO rfl rfl (by decide) u_852 dX11_join_30 ?_
        refine g_iconst (pc := 33) C dX11_join_33 (v := nI 0) rfl ?_
        refine g_iload_n (pc := 34) C dX11_join_34 2 rfl ?_
        refine g_iadd (pc := 35) C dX11_join_35 (z := nI (0 + j)) (nI_add _ _) ?_
        refine g_iald (pc := 36) C hZ (nI_clamp (by omega)) (nI_in0 (n := 10511) (by omega) (by omega)) dX11_join_36 (x := b32 (lvd σ j)) (RZ.rLv hR (r := j) (by omega) (by omega)) ?_
        refine g_if_ne (pc := 37) C dX11_join_37 (tgt := 43) (by decide) (fun c_37 => ?_) (fun c_37 => ?_)
        ·
          have c_37 : (lvd σ j) = true := b32_no c_37
          refine g_iload_n (pc := 43) C dX11_join_43 1 rfl ?_
          refine g_iload_n (pc := 44) C dX11_join_44 2 rfl ?_
          refine g_icmp_ne (pc := 45) C dX11_join_45 (tgt := 51) (by decide) (fun c_45 => ?_) (fun c_45 => ?_)
          ·
            have c_45 : ¬ i = j := fun h => c_45 ((nI_eq (a := i) (b := j) (by omega) (by omega)).mpr h)
            refine g_aload_n (pc := 51) C dX11_join_51 0 rfl ?_
            refine g_iload_n (pc := 52) C dX11_join_52 1 rfl ?_
            refine g_iload_n (pc := 53) C dX11_join_53 2 rfl ?_
            refine g_iconst (pc := 54) C dX11_join_54 (v := nI 1) rfl ?_
            refine g_iconst (pc := 55) C dX11_join_55 (v := nI 0) rfl ?_
            refine g_iconst (pc := 56) C dX11_join_56 (v := nI 0) rfl ?_
            refine g_callV (pc := 57) C (As := [.int (nI i), .int (nI j), .int (nI 1), .int (nI 0), .int (nI 0)]) (rest := []) (b := m) (c_X11_send A P g m i j 1 0 0 hl3 (by omega) hO hZ hR) hO rfl rfl Y_X11_send u_933 N_X11_send ⟨by decide, by decide⟩ ⟨by decide, by decide⟩ (Nat.le_of_ble_eq_true rfl) rfl dX11_join_57 ?_
            rintro _ _ _ g_1 ⟨rfl, rfl, rfl, ⟨Z_2, hZ_2, hR_3⟩, hf_4⟩
            have h_5 := hf_4.at (by omega) hO
            have hp_6 := MC.fr hC hf_4 (by omega)
            have hp_7 := SO.fr hl3 hf_4 (by omega)
            have hp_8 := SO.fr hl4 hf_4 (by omega)
            have hp_9 := SO.fr hl5 hf_4 (by omega)
            obtain ⟨σ10, hσ10⟩ : ∃ sM : Sg, sM = snd σ i j 1 0 0 [] := ⟨_, rfl⟩
            rw [← hσ10] at hR_3
            have hK_σ10 : gK σ10 = gK σ := (congrArg gK hσ10).trans (snd_K.trans (rfl : gK σ = gK σ))
            have hT_σ10 : gT σ10 = gT σ := (congrArg gT hσ10).trans (snd_T.trans (rfl : gT σ = gT σ))
            have hZ_σ10 : gZ σ10 = gZ σ := (congrArg gZ hσ10).trans (snd_Z.trans (rfl : gZ σ = gZ σ))
            have hS_σ10 : SW B cs σ10 := by rw [hσ10]; exact SW.sent hS (by omega) (by omega) (lw_0 (by omega) (by omega) (by omega))
            show V K 0 0 P A g_1 [(0, .ref (A m)), (1, .int (nI i)), (2, .int (nI j))] 60 []
            refine g_aload_n (pc := 60) C dX11_join_60 0 rfl ?_
            refine g_get (pc := 61) C (j := 0) h_5 rfl rfl (by decide) u_852 dX11_join_61 ?_
            refine g_sipush (pc := 64) C dX11_join_64 (v := nI 10507) rfl ?_
            refine g_iald (pc := 67) C hZ_2 (nI_clamp (by omega)) (nI_in0 (n := 10511) (by omega) (by omega)) dX11_join_67 (x := nI (gR σ10).length) (RZ.rRn hR_3 (by omega)) ?_
            exact g_iret (pc := 68) C R ⟨rfl, rfl, Or.inr ⟨i, j, hi, hj, rfl, rfl, Or.inr ⟨c_26, c_37, Or.inr ⟨c_45, by rw [← hσ10], by rw [← hσ10]; exact ⟨⟨_, _, _, _, _, (by rw [hZ_σ10]; exact h_5), hp_7, hp_8, hp_9⟩, ⟨_, hZ_2, hR_3⟩, hp_6⟩, (show Fr _ _ (m + 1) (m + 2) from fun k hk => by rw [hf_4 k (by omega)]).a (by omega)⟩⟩⟩⟩ (by decide) (by decide) dX11_join_68
          ·
            have c_45 : i = j := (nI_eq (by omega) (by omega)).mp c_45
            refine g_bipush (pc := 48) C dX11_join_48 (v := (-5)) rfl ?_
            exact g_iret (pc := 50) C R ⟨rfl, rfl, Or.inr ⟨i, j, hi, hj, rfl, rfl, Or.inr ⟨c_26, c_37, Or.inl ⟨c_45, rfl, rfl⟩⟩⟩⟩ (by decide) (by decide) dX11_join_50
        ·
          have c_37 : (lvd σ j) = false := b32_yes c_37
          refine g_bipush (pc := 40) C dX11_join_40 (v := (-3)) rfl ?_
          exact g_iret (pc := 42) C R ⟨rfl, rfl, Or.inr ⟨i, j, hi, hj, rfl, rfl, Or.inl ⟨Or.inr c_37, rfl, rfl⟩⟩⟩ (by decide) (by decide) dX11_join_42
    ·
      have c_13 : (isN σ y) = false := b32_yes c_13
      refine g_iconst (pc := 16) C dX11_join_16 (v := (-1)) rfl ?_
      exact g_iret (pc := 17) C R ⟨rfl, rfl, Or.inl ⟨Or.inr c_13, rfl, rfl⟩⟩ (by decide) (by decide) dX11_join_17
abbrev rm_X11_tale : Room := { frames := 5, cells := 0, slots := 0, locals := 129 }
theorem Y_X11_tale : pY yX11_tale cX11_tale 2 (Option.some Jvm.ClassFile.FieldType.int) := ⟨u_990, u_991, u_13, u_992⟩
theorem N_X11_tale : yX11_tale.cls ≠ "java/lang/invoke/MethodHandle" ∧ yX11_tale.cls ≠ "java/lang/invoke/VarHandle" ∧ (parseMethodDescriptor yX11_tale.desc).map (fun d => d.parameters.length) = some 1 := by decide +kernel
set_option maxRecDepth 20000 in
set_option maxHeartbeats 4000000 in
theorem c_X11_tale (A : Nat → Nat) (P : List Nat) (g : pM) (m : Nat) {cs : List Nat} {σ : Sg} {B : Nat} (x : Int32) (hS : SW B cs σ) (hM : MM A g m cs σ) : PM yX11_tale cX11_tale 2 (Option.some Jvm.ClassFile.FieldType.int) rm_X11_tale [.ref (A m), .int x] P A g (fun v g' => (rfA σ x ≠ 0 ∧ v = some (.int (rfA σ x)) ∧ g = g') ∨ (∃ i, i < gK σ ∧ x = nI i ∧ lvd σ i = true ∧ ((24 ≤ gT σ ∧ v = some (.int (-4)) ∧ g = g') ∨ (gT σ < 24 ∧ v = some (.int (nI (gT σ))) ∧ MM A g' m cs (her (sT σ (gT σ + 1)) i (gT σ) 0 none) ∧ FrA g g' m)))) := by
  obtain ⟨⟨lm, gm, l3, l4, l5, hO, hl3, hl4, hl5⟩, ⟨Z, hZ, hR⟩, hC⟩ := id hM
  have hK := hR.k16
  have hT := hR.t24
  have hL := hR.le
  refine px_intro (by decide +kernel) (Nat.le_of_ble_eq_true rfl) (fun K sz C R => ?_)
  show V K 0 0 P A g [(0, .ref (A m)), (1, .int x)] 0 []
  refine g_aload_n (pc := 0) C dX11_tale_0 0 rfl ?_
  refine g_iload_n (pc := 1) C dX11_tale_1 1 rfl ?_
  refine g_callV (pc := 2) C (As := [.int x]) (rest := []) (b := m) (c_X11_isNode A P g m x hO hZ hR) hO rfl rfl Y_X11_isNode u_929 N_X11_isNode ⟨by decide, by decide⟩ ⟨by decide, by decide⟩ (Nat.le_of_ble_eq_true rfl) rfl dX11_tale_2 ?_
  rintro _ _ _ _ ⟨rfl, rfl, rfl, rfl⟩
  show V K 0 0 P A g [(0, .ref (A m)), (1, .int x)] 5 [.int (b32 (isN σ x))]
  refine g_if_ne (pc := 5) C dX11_tale_5 (tgt := 10) (by decide) (fun c_5 => ?_) (fun c_5 => ?_)
  ·
    have c_5 : (isN σ x) = true := b32_no c_5
    obtain ⟨i, hi, rfl⟩ := isN_ex hK c_5
    refine g_aload_n (pc := 10) C dX11_tale_10 0 rfl ?_
    refine g_get (pc := 11) C (j := 0) hO rfl rfl (by decide) u_852 dX11_tale_11 ?_
    refine g_iconst (pc := 14) C dX11_tale_14 (v := nI 0) rfl ?_
    refine g_iload_n (pc := 15) C dX11_tale_15 1 rfl ?_
    refine g_iadd (pc := 16) C dX11_tale_16 (z := nI (0 + i)) (nI_add _ _) ?_
    refine g_iald (pc := 17) C hZ (nI_clamp (by omega)) (nI_in0 (n := 10511) (by omega) (by omega)) dX11_tale_17 (x := b32 (lvd σ i)) (RZ.rLv hR (r := i) (by omega) (by omega)) ?_
    refine g_if_ne (pc := 18) C dX11_tale_18 (tgt := 24) (by decide) (fun c_18 => ?_) (fun c_18 => ?_)
    ·
      have c_18 : (lvd σ i) = true := b32_no c_18
      refine g_aload_n (pc := 24) C dX11_tale_24 0 rfl ?_
      refine g_get (pc := 25) C (j := 0) hO rfl rfl (by decide) u_852 dX11_tale_25 ?_
      refine g_sipush (pc := 28) C dX11_tale_28 (v := nI 10506) rfl ?_
      refine g_iald (pc := 31) C hZ (nI_clamp (by omega)) (nI_in0 (n := 10511) (by omega) (by omega)) dX11_tale_31 (x := nI (gT σ)) (RZ.rT hR (by omega)) ?_
      refine g_bipush (pc := 32) C dX11_tale_32 (v := nI 24) rfl ?_
      refine g_icmp_ne (pc := 34) C dX11_tale_34 (tgt := 40) (by decide) (fun c_34 => ?_) (fun c_34 => ?_)
      ·
        have c_34 : ¬ (gT σ) = 24 := fun h => c_34 ((nI_eq (a := (gT σ)) (b := 24) (by omega) (by omega)).mpr h)
        refine g_aload_n (pc := 40) C dX11_tale_40 0 rfl ?_
        refine g_get (pc := 41) C (j := 0) hO rfl rfl (by decide) u_852 dX11_tale_41 ?_
        refine g_sipush (pc := 44) C dX11_tale_44 (v := nI 10506) rfl ?_
        refine g_dup2 (pc := 47) C dX11_tale_47 rfl rfl ?_
        refine g_iald (pc := 48) C hZ (nI_clamp (by omega)) (nI_in0 (n := 10511) (by omega) (by omega)) dX11_tale_48 (x := nI (gT σ)) (RZ.rT hR (by omega)) ?_
        refine g_iconst (pc := 49) C dX11_tale_49 (v := nI 1) rfl ?_
        refine g_iadd (pc := 50) C dX11_tale_50 (z := nI (gT σ + 1)) (nI_add _ _) ?_
        refine g_iast (pc := 51) C hZ (nI_clamp (by omega)) (nI_in0 (n := 10511) (by omega) (by omega)) dX11_tale_51 ?_
        obtain ⟨Z_1, hZ_1⟩ : ∃ yZ : Nat → Int32, yZ = upd Z 10506 (nI (gT σ + 1)) := ⟨_, rfl⟩
        show V K 0 0 P A (va_up g (m + 1) (ai 0 10511 (upd Z 10506 (nI (gT σ + 1))))) [(0, .ref (A m)), (1, .int (nI i))] 52 []
        rw [← hZ_1]
        obtain ⟨g_2, hg_2⟩ : ∃ yM : pM, yM = va_up g (m + 1) (ai 0 10511 Z_1) := ⟨_, rfl⟩
        show V K 0 0 P A (va_up g (m + 1) (ai 0 10511 Z_1)) [(0, .ref (A m)), (1, .int (nI i))] 52 []
        rw [← hg_2]
        have h_3 : g_2 m = ob 11 [.ref (A (m + 1)), .int (nI (gZ σ).1), .int (nI (gZ σ).2.1), .int (nI (gZ σ).2.2.1), .int (nI (gZ σ).2.2.2.1), .int (nI (gZ σ).2.2.2.2), .ref (A (m + 2)), .int (nI cs.length), .ref (A (m + 3)), .int (nI lm), .ref (A (m + 4)), .ref (A (m + 5)), .int (nI gm), .ref (A (m + 6)), .ref (A (m + 7)), .ref (A (m + 8))] := by rw [hg_2, va_up_ne _ _ (show m ≠ m + 1 from by omega)]; exact hO
        have h_4 : g_2 (m + 1) = ai 0 10511 Z_1 := by rw [hg_2]; exact va_up_self _ _ _
        have hf_5 : Fr g g_2 (m + 1) (m + 1 + 1) := by rw [hg_2]; exact Fr.up (by omega) (by omega)
        have hp_6 := MC.fr hC hf_5 (by omega)
        have hp_7 := SO.fr hl3 hf_5 (by omega)
        have hp_8 := SO.fr hl4 hf_5 (by omega)
        have hp_9 := SO.fr hl5 hf_5 (by omega)
        have hR_10 : RZ Z_1 (sT σ (gT σ + 1)) := RZ.sT hR (by omega) hZ_1
        obtain ⟨σ11, hσ11⟩ : ∃ sM : Sg, sM = sT σ (gT σ + 1) := ⟨_, rfl⟩
        rw [← hσ11] at hR_10
        have hK_σ11 : gK σ11 = gK σ := (congrArg gK hσ11).trans (rfl : gK σ = gK σ)
        have hZ_σ11 : gZ σ11 = gZ σ := (congrArg gZ hσ11).trans (rfl : gZ σ = gZ σ)
        have hS_σ11 : SW B cs σ11 := by rw [hσ11]; exact sT_SW hS (by omega)
        have hT1 : gT σ11 = gT σ + 1 := by rw [hσ11]
        refine g_aload_n (pc := 52) C dX11_tale_52 0 rfl ?_
        refine g_iload_n (pc := 53) C dX11_tale_53 1 rfl ?_
        refine g_aload_n (pc := 54) C dX11_tale_54 0 rfl ?_
        refine g_get (pc := 55) C (j := 0) h_3 rfl rfl (by decide) u_852 dX11_tale_55 ?_
        refine g_sipush (pc := 58) C dX11_tale_58 (v := nI 10506) rfl ?_
        refine g_iald (pc := 61) C h_4 (nI_clamp (by omega)) (nI_in0 (n := 10511) (by omega) (by omega)) dX11_tale_61 (x := nI (gT σ11)) (RZ.rT hR_10 (by omega)) ?_
        refine g_iconst (pc := 62) C dX11_tale_62 (v := nI 1) rfl ?_
        refine g_isub (pc := 63) C dX11_tale_63 (z := nI (gT σ)) ((congrArg (fun z => nI z - nI 1) hT1).trans (pk_sub (a := gT σ + 1) (b := 1) (by omega))) ?_
        refine g_bipush (pc := 64) C dX11_tale_64 (v := (-6)) rfl ?_
        refine g_iconst (pc := 66) C dX11_tale_66 (v := nI 0) rfl ?_
        refine g_callV (pc := 67) C (As := [.int (nI i), .int (nI (gT σ)), .int (-6), .int (nI 0)]) (rest := []) (b := m) (c_X11_hear A P g_2 m i (gT σ) 0 none (by omega) (by omega) (by omega) (fun q hq => by cases hq) hS_σ11 hp_7 (by rw [hZ_σ11]; exact h_3) h_4 hR_10) h_3 rfl rfl Y_X11_hear u_993 N_X11_hear ⟨by decide, by decide⟩ ⟨by decide, by decide⟩ (Nat.le_of_ble_eq_true rfl) rfl dX11_tale_67 ?_
        rintro _ _ _ g_12 ⟨rfl, rfl, rfl, ⟨Z_13, hZ_13, hR_14⟩, hf_15⟩
        have h_16 := hf_15.at (by omega) h_3
        have hp_17 := MC.fr hp_6 hf_15 (by omega)
        have hp_18 := SO.fr hp_7 hf_15 (by omega)
        have hp_19 := SO.fr hp_8 hf_15 (by omega)
        have hp_20 := SO.fr hp_9 hf_15 (by omega)
        obtain ⟨σ21, hσ21⟩ : ∃ sM : Sg, sM = her σ11 i (gT σ) 0 none := ⟨_, rfl⟩
        rw [← hσ21] at hR_14
        have hK_σ21 : gK σ21 = gK σ := (congrArg gK hσ21).trans (her_K.trans hK_σ11)
        have hZ_σ21 : gZ σ21 = gZ σ := (congrArg gZ hσ21).trans (her_Z.trans hZ_σ11)
        show V K 0 0 P A g_12 [(0, .ref (A m)), (1, .int (nI i))] 70 []
        have hT2 : gT σ21 = gT σ11 := by rw [hσ21]; exact her_T
        refine g_aload_n (pc := 70) C dX11_tale_70 0 rfl ?_
        refine g_get (pc := 71) C (j := 0) h_16 rfl rfl (by decide) u_852 dX11_tale_71 ?_
        refine g_sipush (pc := 74) C dX11_tale_74 (v := nI 10506) rfl ?_
        refine g_iald (pc := 77) C hZ_13 (nI_clamp (by omega)) (nI_in0 (n := 10511) (by omega) (by omega)) dX11_tale_77 (x := nI (gT σ21)) (RZ.rT hR_14 (by omega)) ?_
        refine g_iconst (pc := 78) C dX11_tale_78 (v := nI 1) rfl ?_
        refine g_isub (pc := 79) C dX11_tale_79 (z := nI (gT σ)) ((congrArg (fun z => nI z - nI 1) (hT2.trans hT1)).trans (pk_sub (a := gT σ + 1) (b := 1) (by omega))) ?_
        exact g_iret (pc := 80) C R ⟨rfl, rfl, Or.inr ⟨i, hi, rfl, c_18, Or.inr ⟨by omega, rfl, by rw [← hσ11, ← hσ21]; exact ⟨⟨_, _, _, _, _, (by rw [hZ_σ21]; exact h_16), hp_18, hp_19, hp_20⟩, ⟨_, hZ_13, hR_14⟩, hp_17⟩, (show Fr _ _ (m + 1) (m + 2) from fun k hk => by rw [hf_15 k (by omega), hg_2, va_up_ne _ _ (by omega)]).a (by omega)⟩⟩⟩ (by decide) (by decide) dX11_tale_80
      ·
        have c_34 : (gT σ) = 24 := (nI_eq (by omega) (by omega)).mp c_34
        refine g_bipush (pc := 37) C dX11_tale_37 (v := (-4)) rfl ?_
        exact g_iret (pc := 39) C R ⟨rfl, rfl, Or.inr ⟨i, hi, rfl, c_18, Or.inl ⟨by omega, rfl, rfl⟩⟩⟩ (by decide) (by decide) dX11_tale_39
    ·
      have c_18 : (lvd σ i) = false := b32_yes c_18
      refine g_bipush (pc := 21) C dX11_tale_21 (v := (-3)) rfl ?_
      exact g_iret (pc := 23) C R ⟨rfl, rfl, Or.inl ⟨by rw [rfA_n hK hi, c_18]; decide, by rw [rfA_n hK hi, c_18]; rfl, rfl⟩⟩ (by decide) (by decide) dX11_tale_23
  ·
    have c_5 : (isN σ x) = false := b32_yes c_5
    refine g_iconst (pc := 8) C dX11_tale_8 (v := (-1)) rfl ?_
    exact g_iret (pc := 9) C R ⟨rfl, rfl, Or.inl ⟨by rw [rfA_no c_5]; decide, by rw [rfA_no c_5], rfl⟩⟩ (by decide) (by decide) dX11_tale_9
