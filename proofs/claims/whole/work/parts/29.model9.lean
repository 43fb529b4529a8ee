-- PART 29: the reference's calls, on
theorem miO_y1 {m : Mi} (h : miO m = nI 1) : ∃ p, m = some p := by
  cases m with
  | none => exact absurd h (by decide)
  | some p => exact ⟨p, rfl⟩
theorem miO_n1 {m : Mi} (h : ¬ miO m = nI 1) : m = none := by
  cases m with
  | none => rfl
  | some p => exact absurd rfl h
theorem ftc_lv {σ : Sg} {i t j : Nat} {x : Int32} {tl : List Nat} : lvd (ftc σ i t x tl) j = lvd σ j := by
  have e : ∀ {σ : Sg} {m : Mi}, lvd (miS σ i t m) j = lvd σ j := fun {σ m} => lvd_mi
  have e2 : ∀ {σ : Sg} {q : Nat}, lvd (egS σ i q) j = lvd σ j := fun {σ q} => by
    show nLv (va_up (gN σ) i _ j) = nLv (gN σ j)
    by_cases h : j = i
    · subst h; rw [va_up_self]
    · rw [va_up_ne _ _ h]
  have e3 : ∀ {σ : Sg} {f t k x y : Nat} {l : List Nat}, lvd (snd σ f t k x y l) j = lvd σ j := fun {σ f t k x y l} => by
    show nLv (gN (snd σ f t k x y l) j) = _
    rw [snd_N]
    rfl
  simp only [ftc]
  split
  · exact e
  · simp only [ftc2]
    rw [e, e3, e2, e]
theorem fdF_lv {σ : Sg} {i j : Nat} : ∀ {t : Nat}, lvd (fdF σ i t) j = lvd σ j
  | 0 => rfl
  | t + 1 => by
    simp only [fdF, fd1]
    split
    · exact fdF_lv
    · split
      · exact fdF_lv
      · exact ftc_lv.trans fdF_lv
theorem psF_T {σ : Sg} : ∀ {n : Nat}, gT (psF σ n) = gT σ
  | 0 => rfl
  | n + 1 => by
    simp only [psF]
    split
    · exact fdF_T.trans psF_T
    · exact psF_T
theorem psF_Z {σ : Sg} : ∀ {n : Nat}, gZ (psF σ n) = gZ σ
  | 0 => rfl
  | n + 1 => by
    simp only [psF]
    split
    · exact fdF_Z.trans psF_Z
    · exact psF_Z
theorem psF_l {σ σr : Sg} {r T t : Nat} (e : σr = psF σ r) (hT : gT σr = T) (ht : T ≤ t) (ht2 : t ≤ T) (hl : 0 < t → lvd σr r = true) : psF σ (r + 1) = fdF σr r t := by
  have e1 : t = gT σr := by omega
  subst e1
  subst e
  simp only [psF]
  by_cases h : lvd (psF σ r) r = true
  · rw [if_pos h]
  · rw [if_neg h]
    have h0 : gT (psF σ r) = 0 := by
      rcases Nat.eq_zero_or_pos (gT (psF σ r)) with z | z
      · exact z
      · exact absurd (hl z) h
    rw [h0]
    rfl
theorem psF_d {σ σr : Sg} {r t : Nat} (e : σr = psF σ r) (hd : lvd (fdF σr r t) r = false) (hl : 0 < t → lvd σr r = true) : psF σ (r + 1) = fdF σr r t := by
  rw [fdF_lv] at hd
  have h0 : t = 0 := by
    rcases Nat.eq_zero_or_pos t with z | z
    · exact z
    · rw [hl z] at hd; cases hd
  subst h0
  subst e
  simp only [psF]
  rw [if_neg (by rw [hd]; decide)]
  rfl
/-- a stretch of the row is -6 -/
def zfl (Z : Nat → Int32) (b t : Nat) : Nat → Int32 := fun j => if b ≤ j ∧ j < b + t then -6 else Z j
theorem zfl_0 {Z : Nat → Int32} {b : Nat} : zfl Z b 0 = Z := by
  funext j
  simp only [zfl]
  rw [if_neg (by omega)]
theorem zfl_s {Z : Nat → Int32} {b t c : Nat} (hc : c = b + t) : upd (zfl Z b t) c (-6) = zfl Z b (t + 1) := by
  subst hc
  funext j
  simp only [upd, zfl]
  by_cases h : j = b + t
  · rw [if_pos h, if_pos (by omega)]
  · rw [if_neg h]
    by_cases h2 : b ≤ j ∧ j < b + t
    · rw [if_pos h2, if_pos (by omega)]
    · rw [if_neg h2, if_neg (by omega)]
theorem zfl_o {Z Z' : Nat → Int32} {b t j : Nat} {x : Int32} (h : Z' = zfl Z b t) (hn : j < b ∨ b + t ≤ j) (hx : Z j = x) : Z' j = x := by
  rw [h]
  simp only [zfl]
  rw [if_neg (by omega)]
  exact hx
theorem zfl_i {Z Z' : Nat → Int32} {b t j : Nat} (h : Z' = zfl Z b t) (h1 : b ≤ j) (h2 : j < b + t) : Z' j = -6 := by
  rw [h]
  simp only [zfl]
  rw [if_pos ⟨h1, h2⟩]
theorem rz_node {Z Z1 Z2 Y Z3 : Nat → Int32} {σ : Sg} {t : Nat} (h : RZ Z σ) (hK : gK σ < 16) (ht : t = 24) (e1 : Z1 = upd Z (0 + gK σ) (nI 1)) (e2 : Z2 = upd Z1 (48 + gK σ) (-6)) (ey : Y = zfl Z2 (384 + 24 * gK σ) t) (e3 : Z3 = upd Y 10505 (nI (gK σ + 1))) : RZ Z3 (sK (sNd σ (gK σ) nd0) (gK σ + 1)) := by
  subst ht
  have o : ∀ j, ¬ inN (gK σ) j → j ≠ 10505 → Z3 j = Z j := fun j hj h5 => zne e3 h5 (zfl_o ey (by have hj2 := hj; unfold inN at hj2; omega) (zne e2 (by have hj2 := hj; unfold inN at hj2; omega) (zne e1 (by have hj2 := hj; unfold inN at hj2; omega) rfl)))
  have hi : ∀ j, 4992 ≤ j → j ≠ 10505 → Z3 j = Z j := fun j hj h5 => o j (fun q => by have := inN_lt hK q; omega) h5
  obtain ⟨h1, h2, h3, h4, ⟨h5a, h5b, h5, h6⟩, ⟨h7, h8⟩, h9, h10⟩ := h
  obtain ⟨k1, k2, k3, k4, k5⟩ := h2 (gK σ) (Nat.le_refl _) hK
  refine ⟨fun r hr => ?_, fun r a b => ?_, ⟨h3.1, fun i t ht => (h3.2 i t ht).cg (fun j hj => hi j (by omega) (by have hh : i < (gR σ).length := (List.getElem?_eq_some_iff.mp ht).1; have := h3.1; omega))⟩, fun k hk => (hi _ (by omega) (by omega)).trans (h4 k hk), ⟨hK, h5b, zeq e3 rfl, (hi _ (by omega) (by omega)).trans h6⟩, ⟨(hi _ (by omega) (by omega)).trans h7, (hi _ (by omega) (by omega)).trans h8⟩, (hi _ (by omega) (by omega)).trans h9, (hi _ (by omega) (by omega)).trans h10⟩
  · have hr : r < gK σ + 1 := hr
    show NZ Z3 r (va_up (gN σ) (gK σ) nd0 r)
    by_cases e : r = gK σ
    · subst e
      rw [va_up_self]
      have p : ∀ {j x}, (j ≠ 10505) → (j < 384 + 24 * gK σ ∨ 384 + 24 * gK σ + 24 ≤ j) → j ≠ 48 + gK σ → j ≠ 0 + gK σ → Z j = x → Z3 j = x := fun a b c d e => zne e3 a (zfl_o ey b (zne e2 c (zne e1 d e)))
      refine ⟨⟨zne e3 (by omega) (zfl_o ey (by omega) (zne e2 (by omega) (zeq e1 (by omega)))), zne e3 (by omega) (zfl_o ey (by omega) (zeq e2 rfl)), p (by omega) (by omega) (by omega) (by omega) k3, p (by omega) (by omega) (by omega) (by omega) k4⟩, ⟨Nat.zero_le _, p (by omega) (by omega) (by omega) (by omega) k1, List.Pairwise.nil, fun k hk => absurd hk (Nat.not_lt_zero k)⟩, ⟨Nat.zero_le _, p (by omega) (by omega) (by omega) (by omega) k2, List.Pairwise.nil, fun k hk => absurd hk (Nat.not_lt_zero k)⟩, fun t ht => zne e3 (by omega) (zfl_i ey (by omega) (by omega)), fun t ht => ⟨Nat.zero_le _, p (by omega) (by omega) (by omega) (by omega) (k5 t ht).1, fun p hp => (by cases hp), p (by omega) (by omega) (by omega) (by omega) (k5 t ht).2, List.Pairwise.nil, fun k hk => absurd hk (Nat.not_lt_zero k)⟩⟩
    · rw [va_up_ne _ _ e]
      exact (h1 r (by omega)).cg (fun j hj => o j (inN_ap hK (by omega) e hj) (by have := inN_lt (by omega) hj; omega))
  · have a : gK σ + 1 ≤ r := a
    exact (h2 r (by omega) b).cg (fun j hj => o j (inN_ap hK b (by omega) hj) (by have := inN_lt b hj; omega))
theorem dec_lt {j : Nat} (hj : j < 2 ^ 30) : nI j - nI 1 < 0 ↔ j = 0 := by
  rw [Int32.lt_iff_toInt_lt, pk_sub_toInt hj (by omega)]
  have e3 : (0 : Int32).toInt = 0 := by decide
  rw [e3]
  omega
theorem dec_i {j : Nat} (h : 0 < j) : nI (j - 1) + Int32.ofInt (-1) = nI (j - 1) - nI 1 := by
  have e : Int32.ofInt (-1) = -(nI 1) := by decide
  rw [e, ← Int32.sub_eq_add_neg]
/-- letters to i among those behind the first j are gone -/
def stL (i : Nat) (R : List Lt) (j : Nat) : List Lt := R.take j ++ (R.drop j).filter (fun t => !(t.2.1 == i))
theorem stL_n {i : Nat} {R : List Lt} : stL i R R.length = R := by simp [stL]
theorem stL_0 {i : Nat} {R : List Lt} : stL i R 0 = R.filter (fun t => !(t.2.1 == i)) := by simp [stL]
theorem stL_len {i j : Nat} {R : List Lt} (h : j ≤ R.length) : j ≤ (stL i R j).length := by simp [stL]; omega
theorem stL_at {i j : Nat} {R : List Lt} (h : j + 1 ≤ R.length) : (stL i R (j + 1))[j]? = R[j]? := by
  simp only [stL]
  rw [List.getElem?_append_left (by rw [List.length_take]; omega), List.getElem?_take_of_lt (by omega)]
theorem stL_drop {i j : Nat} {R : List Lt} {u : Lt} (hu : R[j]? = some u) : (R.drop j).filter (fun t => !(t.2.1 == i)) = if u.2.1 = i then (R.drop (j + 1)).filter (fun t => !(t.2.1 == i)) else u :: (R.drop (j + 1)).filter (fun t => !(t.2.1 == i)) := by
  have hj := (List.getElem?_eq_some_iff.mp hu).1
  have e : R.drop j = u :: R.drop (j + 1) := by
    rw [List.drop_eq_getElem_cons hj, (List.getElem?_eq_some_iff.mp hu).2]
  rw [e]
  by_cases h : u.2.1 = i
  · rw [if_pos h]
    simp [h]
  · rw [if_neg h]
    simp [h]
theorem stL_k {i j : Nat} {R : List Lt} {u : Lt} (hu : R[j]? = some u) (h : ¬ u.2.1 = i) : stL i R j = stL i R (j + 1) := by
  have hj := (List.getElem?_eq_some_iff.mp hu).1
  simp only [stL]
  rw [stL_drop hu, if_neg h, List.take_succ, hu]
  simp
theorem stL_r {i j : Nat} {R : List Lt} {u : Lt} (hu : R[j]? = some u) (h : u.2.1 = i) : stL i R j = (stL i R (j + 1)).eraseIdx j := by
  have hj := (List.getElem?_eq_some_iff.mp hu).1
  simp only [stL]
  rw [stL_drop hu, if_pos h, List.take_succ, hu]
  have hl : (R.take j).length = j := by rw [List.length_take]; omega
  simp only [Option.toList_some, List.append_assoc, List.singleton_append]
  rw [List.eraseIdx_append_of_length_le (by omega), hl, Nat.sub_self]
  rfl
theorem stL_c {i j : Nat} {R : List Lt} {u : Lt} (hu : R[j]? = some u) (h : u.2.1 = i) : (stL i R (j + 1)).length = (stL i R j).length + 1 := by
  have hj := (List.getElem?_eq_some_iff.mp hu).1
  have h1 := stL_len (i := i) (j := j + 1) (R := R) (by omega)
  rw [stL_r hu h, List.length_eraseIdx_of_lt (by omega)]
  omega
theorem dp_er {l : List Nat} {k : Nat} (h : l.Nodup) (hk : k < l.length) : wof (some (l.getD k 0)) (some (l.getD k 0)) l = l.eraseIdx k := by
  have e : wof (some (l.getD k 0)) (some (l.getD k 0)) l = wof (some (l.getD k 0)) none l := by
    simp only [wof]
    congr 1
    funext x
    cases (some (l.getD k 0) == some x) <;> rfl
  rw [e, wof_er h, List.erase_eq_eraseIdx_of_idxOf (idx_getD h hk)]
abbrev rm_X11_node : Room := { frames := 0, cells := 0, slots := 0, locals := 0 }
theorem Y_X11_node : pY yX11_node cX11_node 3 (Option.some Jvm.ClassFile.FieldType.int) := ⟨u_922, u_923, u_13, u_924⟩
theorem N_X11_node : yX11_node.cls ≠ "java/lang/invoke/MethodHandle" ∧ yX11_node.cls ≠ "java/lang/invoke/VarHandle" ∧ (parseMethodDescriptor yX11_node.desc).map (fun d => d.parameters.length) = some 0 := by decide +kernel
set_option maxRecDepth 20000 in
set_option maxHeartbeats 4000000 in
theorem c_X11_node (A : Nat → Nat) (P : List Nat) (g : pM) (m : Nat) {cs : List Nat} {σ : Sg} {B : Nat}  (hS : SW B cs σ) (hM : MM A g m cs σ) : PM yX11_node cX11_node 3 (Option.some Jvm.ClassFile.FieldType.int) rm_X11_node [.ref (A m)] P A g (fun v g' => (16 ≤ gK σ ∧ v = some (.int (-4)) ∧ g = g') ∨ (gK σ < 16 ∧ v = some (.int (nI (gK σ))) ∧ MM A g' m cs (sK (sNd σ (gK σ) nd0) (gK σ + 1)) ∧ FrA g g' m)) := by
  obtain ⟨⟨lm, gm, l3, l4, l5, hO, hl3, hl4, hl5⟩, ⟨Z, hZ, hR⟩, hC⟩ := id hM
  have hK := hR.k16
  have hT := hR.t24
  have hL := hR.le
  refine px_intro (by decide +kernel) (Nat.le_of_ble_eq_true rfl) (fun K sz C R => ?_)
  show V K 0 0 P A g [(0, .ref (A m))] 0 []
  refine g_aload_n (pc := 0) C dX11_node_0 0 rfl ?_
  refine g_get (pc := 1) C (j := 0) hO rfl rfl (by decide) u_852 dX11_node_1 ?_
  refine g_sipush (pc := 4) C dX11_node_4 (v := nI 10505) rfl ?_
  refine g_iald (pc := 7) C hZ (nI_clamp (by omega)) (nI_in0 (n := 10511) (by omega) (by omega)) dX11_node_7 (x := nI (gK σ)) (RZ.rK hR (by omega)) ?_
  refine g_istore_n (pc := 8) C dX11_node_8 (by decide) (lv' := [(0, .ref (A m)), (1, .int (nI (gK σ)))]) [1, 0] rfl ?_
  refine g_iload_n (pc := 9) C dX11_node_9 1 rfl ?_
  refine g_bipush (pc := 10) C dX11_node_10 (v := nI 16) rfl ?_
  refine g_icmp_ne (pc := 12) C dX11_node_12 (tgt := 18) (by decide) (fun c_12 => ?_) (fun c_12 => ?_)
  ·
    have c_12 : ¬ (gK σ) = 16 := fun h => c_12 ((nI_eq (a := (gK σ)) (b := 16) (by omega) (by omega)).mpr h)
    refine g_aload_n (pc := 18) C dX11_node_18 0 rfl ?_
    refine g_get (pc := 19) C (j := 0) hO rfl rfl (by decide) u_852 dX11_node_19 ?_
    refine g_iconst (pc := 22) C dX11_node_22 (v := nI 0) rfl ?_
    refine g_iload_n (pc := 23) C dX11_node_23 1 rfl ?_
    refine g_iadd (pc := 24) C dX11_node_24 (z := nI (0 + (gK σ))) (nI_add _ _) ?_
    refine g_iconst (pc := 25) C dX11_node_25 (v := nI 1) rfl ?_
    refine g_iast (pc := 26) C hZ (nI_clamp (by omega)) (nI_in0 (n := 10511) (by omega) (by omega)) dX11_node_26 ?_
    obtain ⟨Z_1, hZ_1⟩ : ∃ yZ : Nat → Int32, yZ = upd Z (0 + (gK σ)) (nI 1) := ⟨_, rfl⟩
    show V K 0 0 P A (va_up g (m + 1) (ai 0 10511 (upd Z (0 + (gK σ)) (nI 1)))) [(0, .ref (A m)), (1, .int (nI (gK σ)))] 27 []
    rw [← hZ_1]
    obtain ⟨g_2, hg_2⟩ : ∃ yM : pM, yM = va_up g (m + 1) (ai 0 10511 Z_1) := ⟨_, rfl⟩
    show V K 0 0 P A (va_up g (m + 1) (ai 0 10511 Z_1)) [(0, .ref (A m)), (1, .int (nI (gK σ)))] 27 []
    rw [← hg_2]
    have h_3 : g_2 m = ob 11 [.ref (A (m + 1)), .int (nI (gZ σ).1), .int (nI (gZ σ).2.1), .int (nI (gZ σ).2.2.1), .int (nI (gZ σ).2.2.2.1), .int (nI (gZ σ).2.2.2.2), .ref (A (m + 2)), .int (nI cs.length), .ref (A (m + 3)), .int (nI lm), .ref (A (m + 4)), .ref (A (m + 5)), .int (nI gm), .ref (A (m + 6)), .ref (A (m + 7)), .ref (A (m + 8))] := by rw [hg_2, va_up_ne _ _ (show m ≠ m + 1 from by omega)]; exact hO
    have h_4 : g_2 (m + 1) = ai 0 10511 Z_1 := by rw [hg_2]; exact va_up_self _ _ _
    have hf_5 : Fr g g_2 (m + 1) (m + 1 + 1) := by rw [hg_2]; exact Fr.up (by omega) (by omega)
    have hp_6 := MC.fr hC hf_5 (by omega)
    have hp_7 := SO.fr hl3 hf_5 (by omega)
    have hp_8 := SO.fr hl4 hf_5 (by omega)
    have hp_9 := SO.fr hl5 hf_5 (by omega)
    refine g_aload_n (pc := 27) C dX11_node_27 0 rfl ?_
    refine g_get (pc := 28) C (j := 0) h_3 rfl rfl (by decide) u_852 dX11_node_28 ?_
    refine g_bipush (pc := 31) C dX11_node_31 (v := nI 48) rfl ?_
    refine g_iload_n (pc := 33) C dX11_node_33 1 rfl ?_
    refine g_iadd (pc := 34) C dX11_node_34 (z := nI (48 + (gK σ))) (nI_add _ _) ?_
    refine g_bipush (pc := 35) C dX11_node_35 (v := (-6)) rfl ?_
    refine g_iast (pc := 37) C h_4 (nI_clamp (by omega)) (nI_in0 (n := 10511) (by omega) (by omega)) dX11_node_37 ?_
    obtain ⟨Z_10, hZ_10⟩ : ∃ yZ : Nat → Int32, yZ = upd Z_1 (48 + (gK σ)) (-6) := ⟨_, rfl⟩
    show V K 0 0 P A (va_up g_2 (m + 1) (ai 0 10511 (upd Z_1 (48 + (gK σ)) (-6)))) [(0, .ref (A m)), (1, .int (nI (gK σ)))] 38 []
    rw [← hZ_10]
    obtain ⟨g_11, hg_11⟩ : ∃ yM : pM, yM = va_up g_2 (m + 1) (ai 0 10511 Z_10) := ⟨_, rfl⟩
    show V K 0 0 P A (va_up g_2 (m + 1) (ai 0 10511 Z_10)) [(0, .ref (A m)), (1, .int (nI (gK σ)))] 38 []
    rw [← hg_11]
    have h_12 : g_11 m = ob 11 [.ref (A (m + 1)), .int (nI (gZ σ).1), .int (nI (gZ σ).2.1), .int (nI (gZ σ).2.2.1), .int (nI (gZ σ).2.2.2.1), .int (nI (gZ σ).2.2.2.2), .ref (A (m + 2)), .int (nI cs.length), .ref (A (m + 3)), .int (nI lm), .ref (A (m + 4)), .ref (A (m + 5)), .int (nI gm), .ref (A (m + 6)), .ref (A (m + 7)), .ref (A (m + 8))] := by rw [hg_11, va_up_ne _ _ (show m ≠ m + 1 from by omega)]; exact h_3
    have h_13 : g_11 (m + 1) = ai 0 10511 Z_10 := by rw [hg_11]; exact va_up_self _ _ _
    have hf_14 : Fr g_2 g_11 (m + 1) (m + 1 + 1) := by rw [hg_11]; exact Fr.up (by omega) (by omega)
    have hp_15 := MC.fr hp_6 hf_14 (by omega)
    have hp_16 := SO.fr hp_7 hf_14 (by omega)
    have hp_17 := SO.fr hp_8 hf_14 (by omega)
    have hp_18 := SO.fr hp_9 hf_14 (by omega)
    refine g_iconst (pc := 38) C dX11_node_38 (v := nI 0) rfl ?_
    refine g_istore_n (pc := 39) C dX11_node_39 (by decide) (lv' := [(0, .ref (A m)), (1, .int (nI (gK σ))), (2, .int (nI 0))]) [1, 2, 0] rfl ?_
    have lp_40 : ∀ (fuel : Nat) (t : Nat) (ht : t ≤ 24), 24 - t < fuel → V K 0 0 P A (va_up g_11 (m + 1) (ai 0 10511 (zfl Z_10 (384 + 24 * gK σ) t))) [(0, .ref (A m)), (1, .int (nI (gK σ))), (2, .int (nI t))] 40 [] := by
      intro fuel
      induction fuel with
      | zero => intro t ht hμ; exact absurd hμ (Nat.not_lt_zero _)
      | succ fuel ih_40 =>
        intro t ht hμ
        obtain ⟨Y40, hY40⟩ : ∃ yZ : Nat → Int32, yZ = zfl Z_10 (384 + 24 * gK σ) t := ⟨_, rfl⟩
        rw [← hY40]
        obtain ⟨gl40, hgl40⟩ : ∃ y : pM, y = va_up g_11 (m + 1) (ai 0 10511 Y40) := ⟨_, rfl⟩
        rw [← hgl40]
        have hfl40 : Fr g_11 gl40 (m + 1) (m + 2) := by rw [hgl40]; exact Fr.up (by omega) (by omega)
        have hz40 : gl40 (m + 1) = ai 0 10511 Y40 := by rw [hgl40]; exact va_up_self _ _ _
        have h_19 := hfl40.at (by omega) h_12
        have hp_20 := MC.fr hp_15 hfl40 (by omega)
        have hp_21 := SO.fr hp_16 hfl40 (by omega)
        have hp_22 := SO.fr hp_17 hfl40 (by omega)
        have hp_23 := SO.fr hp_18 hfl40 (by omega)
        refine g_iload_n (pc := 40) C dX11_node_40 2 rfl ?_
        refine g_bipush (pc := 41) C dX11_node_41 (v := nI 24) rfl ?_
        refine g_icmp_ge (pc := 43) C dX11_node_43 (tgt := 69) (by decide) (fun c_43 => ?_) (fun c_43 => ?_)
        ·
          have c_43 : 24 ≤ t := (nI_leI (by omega) (by omega)).mp c_43
          refine g_aload_n (pc := 69) C dX11_node_69 0 rfl ?_
          refine g_get (pc := 70) C (j := 0) h_19 rfl rfl (by decide) u_852 dX11_node_70 ?_
          refine g_sipush (pc := 73) C dX11_node_73 (v := nI 10505) rfl ?_
          refine g_dup2 (pc := 76) C dX11_node_76 rfl rfl ?_
          refine g_iald (pc := 77) C hz40 (nI_clamp (by omega)) (nI_in0 (n := 10511) (by omega) (by omega)) dX11_node_77 (x := nI (gK σ)) (zfl_o hY40 (by omega) (zne hZ_10 (by omega) (zne hZ_1 (by omega) (RZ.rK hR (by omega))))) ?_
          refine g_iconst (pc := 78) C dX11_node_78 (v := nI 1) rfl ?_
          refine g_iadd (pc := 79) C dX11_node_79 (z := nI (gK σ + 1)) (nI_add _ _) ?_
          refine g_iast (pc := 80) C hz40 (nI_clamp (by omega)) (nI_in0 (n := 10511) (by omega) (by omega)) dX11_node_80 ?_
          obtain ⟨Z_24, hZ_24⟩ : ∃ yZ : Nat → Int32, yZ = upd Y40 10505 (nI (gK σ + 1)) := ⟨_, rfl⟩
          show V K 0 0 P A (va_up gl40 (m + 1) (ai 0 10511 (upd Y40 10505 (nI (gK σ + 1))))) [(0, .ref (A m)), (1, .int (nI (gK σ))), (2, .int (nI t))] 81 []
          rw [← hZ_24]
          obtain ⟨g_25, hg_25⟩ : ∃ yM : pM, yM = va_up gl40 (m + 1) (ai 0 10511 Z_24) := ⟨_, rfl⟩
          show V K 0 0 P A (va_up gl40 (m + 1) (ai 0 10511 Z_24)) [(0, .ref (A m)), (1, .int (nI (gK σ))), (2, .int (nI t))] 81 []
          rw [← hg_25]
          have h_26 : g_25 m = ob 11 [.ref (A (m + 1)), .int (nI (gZ σ).1), .int (nI (gZ σ).2.1), .int (nI (gZ σ).2.2.1), .int (nI (gZ σ).2.2.2.1), .int (nI (gZ σ).2.2.2.2), .ref (A (m + 2)), .int (nI cs.length), .ref (A (m + 3)), .int (nI lm), .ref (A (m + 4)), .ref (A (m + 5)), .int (nI gm), .ref (A (m + 6)), .ref (A (m + 7)), .ref (A (m + 8))] := by rw [hg_25, va_up_ne _ _ (show m ≠ m + 1 from by omega)]; exact h_19
          have h_27 : g_25 (m + 1) = ai 0 10511 Z_24 := by rw [hg_25]; exact va_up_self _ _ _
          have hf_28 : Fr gl40 g_25 (m + 1) (m + 1 + 1) := by rw [hg_25]; exact Fr.up (by omega) (by omega)
          have hp_29 := MC.fr hp_20 hf_28 (by omega)
          have hp_30 := SO.fr hp_21 hf_28 (by omega)
          have hp_31 := SO.fr hp_22 hf_28 (by omega)
          have hp_32 := SO.fr hp_23 hf_28 (by omega)
          refine g_iload_n (pc := 81) C dX11_node_81 1 rfl ?_
          exact g_iret (pc := 82) C R ⟨rfl, rfl, Or.inr ⟨by omega, rfl, ⟨⟨_, _, _, _, _, h_26, hp_30, hp_31, hp_32⟩, ⟨_, h_27, rz_node hR (by omega) (by omega : t = 24) hZ_1 hZ_10 hY40 hZ_24⟩, hp_29⟩, (show Fr _ _ (m + 1) (m + 2) from fun k hk => by rw [hg_25, va_up_ne _ _ (by omega), hfl40 k (by omega), hg_11, va_up_ne _ _ (by omega), hg_2, va_up_ne _ _ (by omega)]).a (by omega)⟩⟩ (by decide) (by decide) dX11_node_82
        ·
          have c_43 : ¬ 24 ≤ t := fun h => c_43 ((nI_leI (a := 24) (b := t) (by omega) (by omega)).mpr h)
          refine g_aload_n (pc := 46) C dX11_node_46 0 rfl ?_
          refine g_get (pc := 47) C (j := 0) h_19 rfl rfl (by decide) u_852 dX11_node_47 ?_
          refine g_sipush (pc := 50) C dX11_node_50 (v := nI 384) rfl ?_
          refine g_bipush (pc := 53) C dX11_node_53 (v := nI 24) rfl ?_
          refine g_iload_n (pc := 55) C dX11_node_55 1 rfl ?_
          refine g_imul (pc := 56) C dX11_node_56 (z := nI (24 * (gK σ))) (pk_mul _ _) ?_
          refine g_iadd (pc := 57) C dX11_node_57 (z := nI (384 + 24 * (gK σ))) (nI_add _ _) ?_
          refine g_iload_n (pc := 58) C dX11_node_58 2 rfl ?_
          refine g_iadd (pc := 59) C dX11_node_59 (z := nI (384 + 24 * (gK σ) + t)) (nI_add _ _) ?_
          refine g_bipush (pc := 60) C dX11_node_60 (v := (-6)) rfl ?_
          refine g_iast (pc := 62) C hz40 (nI_clamp (by omega)) (nI_in0 (n := 10511) (by omega) (by omega)) dX11_node_62 ?_
          obtain ⟨Z_33, hZ_33⟩ : ∃ yZ : Nat → Int32, yZ = upd Y40 (384 + 24 * (gK σ) + t) (-6) := ⟨_, rfl⟩
          show V K 0 0 P A (va_up gl40 (m + 1) (ai 0 10511 (upd Y40 (384 + 24 * (gK σ) + t) (-6)))) [(0, .ref (A m)), (1, .int (nI (gK σ))), (2, .int (nI t))] 63 []
          rw [← hZ_33]
          obtain ⟨g_34, hg_34⟩ : ∃ yM : pM, yM = va_up gl40 (m + 1) (ai 0 10511 Z_33) := ⟨_, rfl⟩
          show V K 0 0 P A (va_up gl40 (m + 1) (ai 0 10511 Z_33)) [(0, .ref (A m)), (1, .int (nI (gK σ))), (2, .int (nI t))] 63 []
          rw [← hg_34]
          have h_35 : g_34 m = ob 11 [.ref (A (m + 1)), .int (nI (gZ σ).1), .int (nI (gZ σ).2.1), .int (nI (gZ σ).2.2.1), .int (nI (gZ σ).2.2.2.1), .int (nI (gZ σ).2.2.2.2), .ref (A (m + 2)), .int (nI cs.length), .ref (A (m + 3)), .int (nI lm), .ref (A (m + 4)), .ref (A (m + 5)), .int (nI gm), .ref (A (m + 6)), .ref (A (m + 7)), .ref (A (m + 8))] := by rw [hg_34, va_up_ne _ _ (show m ≠ m + 1 from by omega)]; exact h_19
          have h_36 : g_34 (m + 1) = ai 0 10511 Z_33 := by rw [hg_34]; exact va_up_self _ _ _
          have hf_37 : Fr gl40 g_34 (m + 1) (m + 1 + 1) := by rw [hg_34]; exact Fr.up (by omega) (by omega)
          have hp_38 := MC.fr hp_20 hf_37 (by omega)
          have hp_39 := SO.fr hp_21 hf_37 (by omega)
          have hp_40 := SO.fr hp_22 hf_37 (by omega)
          have hp_41 := SO.fr hp_23 hf_37 (by omega)
          refine g_iinc (pc := 63) C dX11_node_63 (by decide) 2 rfl (v := nI (t + 1)) (nI_i1 _) (lv' := [(0, .ref (A m)), (1, .int (nI (gK σ))), (2, .int (nI (t + 1)))]) [1, 2, 0] rfl ?_
          refine g_goto (pc := 66) C dX11_node_66 (tgt := 40) (by decide) ?_
          rw [show g_34 = va_up g_11 (m + 1) (ai 0 10511 (zfl Z_10 (384 + 24 * gK σ) (t + 1))) from by rw [hg_34, hgl40, bx_uu, hZ_33, hY40, zfl_s (by omega)]]
          exact ih_40 (t + 1) (by omega) (by omega)
    rw [show g_11 = va_up g_11 (m + 1) (ai 0 10511 (zfl Z_10 (384 + 24 * gK σ) 0)) from (va_up_id (by rw [h_13, zfl_0])).symm]
    exact lp_40 (_ + 1) 0 (Nat.zero_le _) (Nat.lt_succ_self _)
  ·
    have c_12 : (gK σ) = 16 := (nI_eq (by omega) (by omega)).mp c_12
    refine g_bipush (pc := 15) C dX11_node_15 (v := (-4)) rfl ?_
    exact g_iret (pc := 17) C R ⟨rfl, rfl, Or.inl ⟨by omega, rfl, rfl⟩⟩ (by decide) (by decide) dX11_node_17
abbrev rm_X11_tick : Room := { frames := 5, cells := 0, slots := 0, locals := 126 }
theorem Y_X11_tick : pY yX11_tick cX11_tick 4 (Option.some Jvm.ClassFile.FieldType.int) := ⟨u_998, u_999, u_13, u_1000⟩
theorem N_X11_tick : yX11_tick.cls ≠ "java/lang/invoke/MethodHandle" ∧ yX11_tick.cls ≠ "java/lang/invoke/VarHandle" ∧ (parseMethodDescriptor yX11_tick.desc).map (fun d => d.parameters.length) = some 0 := by decide +kernel
set_option maxRecDepth 20000 in
set_option maxHeartbeats 4000000 in
theorem c_X11_tick (A : Nat → Nat) (P : List Nat) (g : pM) (m : Nat) {cs : List Nat} {σ : Sg} {B : Nat}  (hS : SW B cs σ) (hM : MM A g m cs σ) : PM yX11_tick cX11_tick 4 (Option.some Jvm.ClassFile.FieldType.int) rm_X11_tick [.ref (A m)] P A g (fun v g' => v = some (.int (gTi (pss σ))) ∧ MM A g' m cs (pss σ) ∧ FrA g g' m) := by
  obtain ⟨⟨lm, gm, l3, l4, l5, hO, hl3, hl4, hl5⟩, ⟨Z, hZ, hR⟩, hC⟩ := id hM
  have hK := hR.k16
  have hT := hR.t24
  have hL := hR.le
  refine px_intro (by decide +kernel) (Nat.le_of_ble_eq_true rfl) (fun K sz C R => ?_)
  show V K 0 0 P A g [(0, .ref (A m))] 0 []
  refine g_aload_n (pc := 0) C dX11_tick_0 0 rfl ?_
  refine g_get (pc := 1) C (j := 0) hO rfl rfl (by decide) u_852 dX11_tick_1 ?_
  refine g_sipush (pc := 4) C dX11_tick_4 (v := nI 10509) rfl ?_
  refine g_dup2 (pc := 7) C dX11_tick_7 rfl rfl ?_
  refine g_iald (pc := 8) C hZ (nI_clamp (by omega)) (nI_in0 (n := 10511) (by omega) (by omega)) dX11_tick_8 (x := gTi σ) (RZ.rTi hR (by omega)) ?_
  refine g_iconst (pc := 9) C dX11_tick_9 (v := nI 1) rfl ?_
  refine g_iadd (pc := 10) C dX11_tick_10 (z := (gTi σ) + (nI 1)) rfl ?_
  refine g_iast (pc := 11) C hZ (nI_clamp (by omega)) (nI_in0 (n := 10511) (by omega) (by omega)) dX11_tick_11 ?_
  obtain ⟨Z_1, hZ_1⟩ : ∃ yZ : Nat → Int32, yZ = upd Z 10509 ((gTi σ) + (nI 1)) := ⟨_, rfl⟩
  show V K 0 0 P A (va_up g (m + 1) (ai 0 10511 (upd Z 10509 ((gTi σ) + (nI 1))))) [(0, .ref (A m))] 12 []
  rw [← hZ_1]
  obtain ⟨g_2, hg_2⟩ : ∃ yM : pM, yM = va_up g (m + 1) (ai 0 10511 Z_1) := ⟨_, rfl⟩
  show V K 0 0 P A (va_up g (m + 1) (ai 0 10511 Z_1)) [(0, .ref (A m))] 12 []
  rw [← hg_2]
  have h_3 : g_2 m = ob 11 [.ref (A (m + 1)), .int (nI (gZ σ).1), .int (nI (gZ σ).2.1), .int (nI (gZ σ).2.2.1), .int (nI (gZ σ).2.2.2.1), .int (nI (gZ σ).2.2.2.2), .ref (A (m + 2)), .int (nI cs.length), .ref (A (m + 3)), .int (nI lm), .ref (A (m + 4)), .ref (A (m + 5)), .int (nI gm), .ref (A (m + 6)), .ref (A (m + 7)), .ref (A (m + 8))] := by rw [hg_2, va_up_ne _ _ (show m ≠ m + 1 from by omega)]; exact hO
  have h_4 : g_2 (m + 1) = ai 0 10511 Z_1 := by rw [hg_2]; exact va_up_self _ _ _
  have hf_5 : Fr g g_2 (m + 1) (m + 1 + 1) := by rw [hg_2]; exact Fr.up (by omega) (by omega)
  have hp_6 := MC.fr hC hf_5 (by omega)
  have hp_7 := SO.fr hl3 hf_5 (by omega)
  have hp_8 := SO.fr hl4 hf_5 (by omega)
  have hp_9 := SO.fr hl5 hf_5 (by omega)
  have hR_10 : RZ Z_1 (sTi σ (gTi σ + nI 1)) := RZ.sTi hR hZ_1
  obtain ⟨σ11, hσ11⟩ : ∃ sM : Sg, sM = sTi σ (gTi σ + nI 1) := ⟨_, rfl⟩
  rw [← hσ11] at hR_10
  have hK_σ11 : gK σ11 = gK σ := (congrArg gK hσ11).trans (rfl : gK σ = gK σ)
  have hT_σ11 : gT σ11 = gT σ := (congrArg gT hσ11).trans (rfl : gT σ = gT σ)
  have hZ_σ11 : gZ σ11 = gZ σ := (congrArg gZ hσ11).trans (rfl : gZ σ = gZ σ)
  have hS_σ11 : SW B cs σ11 := by rw [hσ11]; exact sTi_SW hS
  refine g_iconst (pc := 12) C dX11_tick_12 (v := nI 0) rfl ?_
  refine g_istore_n (pc := 13) C dX11_tick_13 (by decide) (lv' := [(0, .ref (A m)), (1, .int (nI 0))]) [1, 0] rfl ?_
  have lp_14 : ∀ (fuel : Nat) (gm14 : pM) (hm14 : Fr g_2 gm14 (m + 1) (m + 2)) (r : Nat) (hr : r ≤ gK σ) (hz14 : ZS gm14 m (psF σ11 r)), gK σ - r < fuel → V K 0 0 P A gm14 [(0, .ref (A m)), (1, .int (nI r))] 14 [] := by
    intro fuel
    induction fuel with
    | zero => intro gm14 hm14 r hr hz14 hμ; exact absurd hμ (Nat.not_lt_zero _)
    | succ fuel ih_14 =>
      intro gm14 hm14 r hr hz14 hμ
      have h_12 := hm14.at (by omega) h_3
      have hp_13 := MC.fr hp_6 hm14 (by omega)
      have hp_14 := SO.fr hp_7 hm14 (by omega)
      have hp_15 := SO.fr hp_8 hm14 (by omega)
      have hp_16 := SO.fr hp_9 hm14 (by omega)
      obtain ⟨Za, hZa, hRa⟩ := hz14
      obtain ⟨σ17, hσ17⟩ : ∃ sM : Sg, sM = psF σ11 r := ⟨_, rfl⟩
      rw [← hσ17] at hRa
      have hK_σ17 : gK σ17 = gK σ := (congrArg gK hσ17).trans (psF_K.trans hK_σ11)
      have hT_σ17 : gT σ17 = gT σ := (congrArg gT hσ17).trans (psF_T.trans hT_σ11)
      have hZ_σ17 : gZ σ17 = gZ σ := (congrArg gZ hσ17).trans (psF_Z.trans hZ_σ11)
      have hS_σ17 : SW B cs σ17 := by rw [hσ17]; exact psF_SW hS_σ11 r (by omega)
      refine g_iload_n (pc := 14) C dX11_tick_14 1 rfl ?_
      refine g_aload_n (pc := 15) C dX11_tick_15 0 rfl ?_
      refine g_get (pc := 16) C (j := 0) h_12 rfl rfl (by decide) u_852 dX11_tick_16 ?_
      refine g_sipush (pc := 19) C dX11_tick_19 (v := nI 10505) rfl ?_
      refine g_iald (pc := 22) C hZa (nI_clamp (by omega)) (nI_in0 (n := 10511) (by omega) (by omega)) dX11_tick_22 (x := nI (gK σ17)) (RZ.rK hRa (by omega)) ?_
      refine g_icmp_ge (pc := 23) C dX11_tick_23 (tgt := 113) (by decide) (fun c_23 => ?_) (fun c_23 => ?_)
      ·
        have c_23 : (gK σ17) ≤ r := (nI_leI (by omega) (by omega)).mp c_23
        refine g_aload_n (pc := 113) C dX11_tick_113 0 rfl ?_
        refine g_get (pc := 114) C (j := 0) h_12 rfl rfl (by decide) u_852 dX11_tick_114 ?_
        refine g_sipush (pc := 117) C dX11_tick_117 (v := nI 10509) rfl ?_
        refine g_iald (pc := 120) C hZa (nI_clamp (by omega)) (nI_in0 (n := 10511) (by omega) (by omega)) dX11_tick_120 (x := gTi σ17) (RZ.rTi hRa (by omega)) ?_
        have hpe : pss σ = σ17 := by rw [hσ17, show r = gK σ by omega, hσ11]; rfl
        exact g_iret (pc := 121) C R ⟨rfl, rfl, by rw [hpe], by rw [hpe]; exact ⟨⟨_, _, _, _, _, (by rw [hZ_σ17]; exact h_12), hp_14, hp_15, hp_16⟩, ⟨_, hZa, hRa⟩, hp_13⟩, (show Fr _ _ (m + 1) (m + 2) from fun k hk => by rw [hm14 k (by omega), hg_2, va_up_ne _ _ (by omega)]).a (by omega)⟩ (by decide) (by decide) dX11_tick_121
      ·
        have c_23 : ¬ (gK σ17) ≤ r := fun h => c_23 ((nI_leI (a := (gK σ17)) (b := r) (by omega) (by omega)).mpr h)
        refine g_iconst (pc := 26) C dX11_tick_26 (v := nI 0) rfl ?_
        refine g_istore_n (pc := 27) C dX11_tick_27 (by decide) (lv' := [(0, .ref (A m)), (1, .int (nI r)), (2, .int (nI 0))]) [1, 2, 0] rfl ?_
        have lp_28 : ∀ (fuel : Nat) (gm28 : pM) (hm28 : Fr gm14 gm28 (m + 1) (m + 2)) (t : Nat) (ht : t ≤ gT σ) (hz28 : ZS gm28 m (fdF σ17 r t)) (hlv : 0 < t → lvd σ17 r = true), gT σ - t < fuel → V K 0 0 P A gm28 [(0, .ref (A m)), (1, .int (nI r)), (2, .int (nI t))] 28 [] := by
          intro fuel
          induction fuel with
          | zero => intro gm28 hm28 t ht hz28 hlv hμ; exact absurd hμ (Nat.not_lt_zero _)
          | succ fuel ih_28 =>
            intro gm28 hm28 t ht hz28 hlv hμ
            have h_18 := hm28.at (by omega) h_12
            have hp_19 := MC.fr hp_13 hm28 (by omega)
            have hp_20 := SO.fr hp_14 hm28 (by omega)
            have hp_21 := SO.fr hp_15 hm28 (by omega)
            have hp_22 := SO.fr hp_16 hm28 (by omega)
            obtain ⟨Zb, hZb, hRb⟩ := hz28
            obtain ⟨σ23, hσ23⟩ : ∃ sM : Sg, sM = fdF σ17 r t := ⟨_, rfl⟩
            rw [← hσ23] at hRb
            have hK_σ23 : gK σ23 = gK σ := (congrArg gK hσ23).trans (fdF_K.trans hK_σ17)
            have hT_σ23 : gT σ23 = gT σ := (congrArg gT hσ23).trans (fdF_T.trans hT_σ17)
            have hZ_σ23 : gZ σ23 = gZ σ := (congrArg gZ hσ23).trans (fdF_Z.trans hZ_σ17)
            have hS_σ23 : SW B cs σ23 := by rw [hσ23]; exact fdF_SW hS_σ17 (by omega) t
            refine g_iload_n (pc := 28) C dX11_tick_28 2 rfl ?_
            refine g_aload_n (pc := 29) C dX11_tick_29 0 rfl ?_
            refine g_get (pc := 30) C (j := 0) h_18 rfl rfl (by decide) u_852 dX11_tick_30 ?_
            refine g_sipush (pc := 33) C dX11_tick_33 (v := nI 10506) rfl ?_
            refine g_iald (pc := 36) C hZb (nI_clamp (by omega)) (nI_in0 (n := 10511) (by omega) (by omega)) dX11_tick_36 (x := nI (gT σ23)) (RZ.rT hRb (by omega)) ?_
            refine g_icmp_ge (pc := 37) C dX11_tick_37 (tgt := 107) (by decide) (fun c_37 => ?_) (fun c_37 => ?_)
            ·
              have c_37 : (gT σ23) ≤ t := (nI_leI (by omega) (by omega)).mp c_37
              refine g_iinc (pc := 107) C dX11_tick_107 (by decide) 1 rfl (v := nI (r + 1)) (nI_i1 _) (lv' := [(0, .ref (A m)), (1, .int (nI (r + 1))), (2, .int (nI t))]) [1, 0, 2] rfl ?_
              refine g_goto (pc := 110) C dX11_tick_110 (tgt := 14) (by decide) ?_
              refine g_sub [0, 1] rfl ?_
              exact ih_14 gm28 (hm14.tr (fun k hk => by rw [hm28 k (by omega)])) (r + 1) (by omega) ⟨_, hZb, by rw [psF_l hσ17 (hT_σ17 : _ = gT σ) (by omega) (by omega) hlv, ← hσ23]; exact hRb⟩ (by omega)
            ·
              have c_37 : ¬ (gT σ23) ≤ t := fun h => c_37 ((nI_leI (a := (gT σ23)) (b := t) (by omega) (by omega)).mpr h)
              refine g_aload_n (pc := 40) C dX11_tick_40 0 rfl ?_
              refine g_get (pc := 41) C (j := 0) h_18 rfl rfl (by decide) u_852 dX11_tick_41 ?_
              refine g_iconst (pc := 44) C dX11_tick_44 (v := nI 0) rfl ?_
              refine g_iload_n (pc := 45) C dX11_tick_45 1 rfl ?_
              refine g_iadd (pc := 46) C dX11_tick_46 (z := nI (0 + r)) (nI_add _ _) ?_
              refine g_iald (pc := 47) C hZb (nI_clamp (by omega)) (nI_in0 (n := 10511) (by omega) (by omega)) dX11_tick_47 (x := b32 (lvd σ23 r)) (RZ.rLv hRb (r := r) (by omega) (by omega)) ?_
              refine g_iconst (pc := 48) C dX11_tick_48 (v := nI 1) rfl ?_
              refine g_icmp_ne (pc := 49) C dX11_tick_49 (tgt := 107) (by decide) (fun c_49 => ?_) (fun c_49 => ?_)
              ·
                have c_49 : (lvd σ23 r) = false := b32_n1 c_49
                refine g_iinc (pc := 107) C dX11_tick_107 (by decide) 1 rfl (v := nI (r + 1)) (nI_i1 _) (lv' := [(0, .ref (A m)), (1, .int (nI (r + 1))), (2, .int (nI t))]) [1, 0, 2] rfl ?_
                refine g_goto (pc := 110) C dX11_tick_110 (tgt := 14) (by decide) ?_
                refine g_sub [0, 1] rfl ?_
                exact ih_14 gm28 (hm14.tr (fun k hk => by rw [hm28 k (by omega)])) (r + 1) (by omega) ⟨_, hZb, by rw [psF_d hσ17 (by rw [← hσ23]; exact c_49) hlv, ← hσ23]; exact hRb⟩ (by omega)
              ·
                have c_49 : (lvd σ23 r) = true := b32_y1 c_49
                have hlvt : lvd σ23 r = lvd σ17 r := by rw [hσ23]; exact fdF_lv
                refine g_bipush (pc := 52) C dX11_tick_52 (v := nI 24) rfl ?_
                refine g_iload_n (pc := 54) C dX11_tick_54 1 rfl ?_
                refine g_imul (pc := 55) C dX11_tick_55 (z := nI (24 * r)) (pk_mul _ _) ?_
                refine g_iload_n (pc := 56) C dX11_tick_56 2 rfl ?_
                refine g_iadd (pc := 57) C dX11_tick_57 (z := nI (24 * r + t)) (nI_add _ _) ?_
                refine g_istore_n (pc := 58) C dX11_tick_58 (by decide) (lv' := [(0, .ref (A m)), (1, .int (nI r)), (2, .int (nI t)), (3, .int (nI (24 * r + t)))]) [1, 2, 3, 0] rfl ?_
                refine g_aload_n (pc := 59) C dX11_tick_59 0 rfl ?_
                refine g_get (pc := 60) C (j := 0) h_18 rfl rfl (by decide) u_852 dX11_tick_60 ?_
                refine g_sipush (pc := 63) C dX11_tick_63 (v := nI 768) rfl ?_
                refine g_iload_n (pc := 66) C dX11_tick_66 3 rfl ?_
                refine g_iadd (pc := 67) C dX11_tick_67 (z := nI (768 + (24 * r + t))) (nI_add _ _) ?_
                refine g_iald (pc := 68) C hZb (nI_clamp (by omega)) (nI_in0 (n := 10511) (by omega) (by omega)) dX11_tick_68 (x := miO (nMi (gN σ23 r) t)) (RZ.rMi hRb (r := r) (t := t) (by omega) (by omega) (by omega)) ?_
                refine g_iconst (pc := 69) C dX11_tick_69 (v := nI 1) rfl ?_
                refine g_icmp_ne (pc := 70) C dX11_tick_70 (tgt := 101) (by decide) (fun c_70 => ?_) (fun c_70 => ?_)
                ·
                  have hm := miO_n1 c_70
                  refine g_iinc (pc := 101) C dX11_tick_101 (by decide) 2 rfl (v := nI (t + 1)) (nI_i1 _) (lv' := [(0, .ref (A m)), (1, .int (nI r)), (2, .int (nI (t + 1))), (3, .int (nI (24 * r + t)))]) [1, 2, 0, 3] rfl ?_
                  refine g_goto (pc := 104) C dX11_tick_104 (tgt := 28) (by decide) ?_
                  refine g_sub [0, 1, 2] rfl ?_
                  exact ih_28 gm28 hm28 (t + 1) (by omega) ⟨_, hZb, by show RZ _ (fd1 (fdF σ17 r t) r t); rw [← hσ23, fd1_n hm]; exact hRb⟩ (fun _ => by rw [← hlvt]; exact c_49) (by omega)
                ·
                  obtain ⟨p, hm⟩ := miO_y1 c_70
                  refine g_aload_n (pc := 73) C dX11_tick_73 0 rfl ?_
                  refine g_get (pc := 74) C (j := 0) h_18 rfl rfl (by decide) u_852 dX11_tick_74 ?_
                  refine g_sipush (pc := 77) C dX11_tick_77 (v := nI 1152) rfl ?_
                  refine g_iload_n (pc := 80) C dX11_tick_80 3 rfl ?_
                  refine g_iadd (pc := 81) C dX11_tick_81 (z := nI (1152 + (24 * r + t))) (nI_add _ _) ?_
                  refine g_iald (pc := 82) C hZb (nI_clamp (by omega)) (nI_in0 (n := 10511) (by omega) (by omega)) dX11_tick_82 (x := p.1) (RZ.rHr hRb (r := r) (t := t) (by omega) (by omega) (by omega) hm) ?_
                  refine g_aload_n (pc := 83) C dX11_tick_83 0 rfl ?_
                  refine g_get (pc := 84) C (j := 0) h_18 rfl rfl (by decide) u_852 dX11_tick_84 ?_
                  refine g_sipush (pc := 87) C dX11_tick_87 (v := nI 10509) rfl ?_
                  refine g_iald (pc := 90) C hZb (nI_clamp (by omega)) (nI_in0 (n := 10511) (by omega) (by omega)) dX11_tick_90 (x := gTi σ23) (RZ.rTi hRb (by omega)) ?_
                  refine g_icmp_gt (pc := 91) C dX11_tick_91 (tgt := 101) (by decide) (fun c_91 => ?_) (fun c_91 => ?_)
                  ·
                    refine g_iinc (pc := 101) C dX11_tick_101 (by decide) 2 rfl (v := nI (t + 1)) (nI_i1 _) (lv' := [(0, .ref (A m)), (1, .int (nI r)), (2, .int (nI (t + 1))), (3, .int (nI (24 * r + t)))]) [1, 2, 0, 3] rfl ?_
                    refine g_goto (pc := 104) C dX11_tick_104 (tgt := 28) (by decide) ?_
                    refine g_sub [0, 1, 2] rfl ?_
                    exact ih_28 gm28 hm28 (t + 1) (by omega) ⟨_, hZb, by show RZ _ (fd1 (fdF σ17 r t) r t); rw [← hσ23, fd1_w hm c_91]; exact hRb⟩ (fun _ => by rw [← hlvt]; exact c_49) (by omega)
                  ·
                    refine g_aload_n (pc := 94) C dX11_tick_94 0 rfl ?_
                    refine g_iload_n (pc := 95) C dX11_tick_95 1 rfl ?_
                    refine g_iload_n (pc := 96) C dX11_tick_96 2 rfl ?_
                    refine g_iload_n (pc := 97) C dX11_tick_97 3 rfl ?_
                    refine g_callV (pc := 98) C (As := [.int (nI r), .int (nI t), .int (nI (24 * r + t))]) (rest := []) (b := m) (c_X11_fetch A P gm28 m r t p (by omega) (by omega) hm hS_σ23 hp_20 (by rw [hZ_σ23]; exact h_18) hZb hRb) h_18 rfl rfl Y_X11_fetch u_1001 N_X11_fetch ⟨by decide, by decide⟩ ⟨by decide, by decide⟩ (Nat.le_of_ble_eq_true rfl) rfl dX11_tick_98 ?_
                    rintro _ _ _ g_24 ⟨rfl, rfl, rfl, ⟨Z_25, hZ_25, hR_26⟩, hf_27⟩
                    have h_28 := hf_27.at (by omega) h_18
                    have hp_29 := MC.fr hp_19 hf_27 (by omega)
                    have hp_30 := SO.fr hp_20 hf_27 (by omega)
                    have hp_31 := SO.fr hp_21 hf_27 (by omega)
                    have hp_32 := SO.fr hp_22 hf_27 (by omega)
                    obtain ⟨σ33, hσ33⟩ : ∃ sM : Sg, sM = ftc σ23 r t p.1 p.2 := ⟨_, rfl⟩
                    rw [← hσ33] at hR_26
                    have hK_σ33 : gK σ33 = gK σ := (congrArg gK hσ33).trans (ftc_K.trans hK_σ23)
                    have hT_σ33 : gT σ33 = gT σ := (congrArg gT hσ33).trans (ftc_T.trans hT_σ23)
                    have hZ_σ33 : gZ σ33 = gZ σ := (congrArg gZ hσ33).trans (ftc_Z.trans hZ_σ23)
                    show V K 0 0 P A g_24 [(0, .ref (A m)), (1, .int (nI r)), (2, .int (nI t)), (3, .int (nI (24 * r + t)))] 101 []
                    refine g_iinc (pc := 101) C dX11_tick_101 (by decide) 2 rfl (v := nI (t + 1)) (nI_i1 _) (lv' := [(0, .ref (A m)), (1, .int (nI r)), (2, .int (nI (t + 1))), (3, .int (nI (24 * r + t)))]) [1, 2, 0, 3] rfl ?_
                    refine g_goto (pc := 104) C dX11_tick_104 (tgt := 28) (by decide) ?_
                    refine g_sub [0, 1, 2] rfl ?_
                    exact ih_28 g_24 (hm28.tr (fun k hk => by rw [hf_27 k (by omega)])) (t + 1) (by omega) ⟨_, hZ_25, by show RZ _ (fd1 (fdF σ17 r t) r t); rw [← hσ23, fd1_d hm c_91, ← hσ33]; exact hR_26⟩ (fun _ => by rw [← hlvt]; exact c_49) (by omega)
        exact lp_28 (_ + 1) gm14 Fr.rf 0 (Nat.zero_le _) ⟨_, hZa, hRa⟩ (fun z => absurd z (Nat.lt_irrefl 0)) (Nat.lt_succ_self _)
  exact lp_14 (_ + 1) g_2 Fr.rf 0 (Nat.zero_le _) ⟨_, h_4, hR_10⟩ (Nat.lt_succ_self _)
abbrev rm_X11_go : Room := { frames := 8, cells := 0, slots := 0, locals := 206 }
theorem Y_X11_go : pY yX11_go cX11_go 4 (Option.some Jvm.ClassFile.FieldType.int) := ⟨u_1070, u_1071, u_13, u_1072⟩
theorem N_X11_go : yX11_go.cls ≠ "java/lang/invoke/MethodHandle" ∧ yX11_go.cls ≠ "java/lang/invoke/VarHandle" ∧ (parseMethodDescriptor yX11_go.desc).map (fun d => d.parameters.length) = some 1 := by decide +kernel
set_option maxRecDepth 20000 in
set_option maxHeartbeats 4000000 in
theorem c_X11_go (A : Nat → Nat) (P : List Nat) (g : pM) (m : Nat) {cs : List Nat} {σ : Sg} {B : Nat} (x : Int32) (hB2 : B + 2001 < 2 ^ 30) (hS : SW B cs σ) (hM : MM A g m cs σ) : PM yX11_go cX11_go 4 (Option.some Jvm.ClassFile.FieldType.int) rm_X11_go [.ref (A m), .int x] P A g (fun v g' => ((x < 0 ∨ ¬ x ≤ nI 2000) ∧ v = some (.int (-2)) ∧ g = g') ∨ (∃ n, n ≤ 2000 ∧ x = nI n ∧ v = some (.int (nI (gos cs n σ).2)) ∧ MM A g' m cs (gos cs n σ).1 ∧ FrA g g' m)) := by
  obtain ⟨⟨lm, gm, l3, l4, l5, hO, hl3, hl4, hl5⟩, ⟨Z, hZ, hR⟩, hC⟩ := id hM
  have hK := hR.k16
  have hT := hR.t24
  have hL := hR.le
  refine px_intro (by decide +kernel) (Nat.le_of_ble_eq_true rfl) (fun K sz C R => ?_)
  show V K 0 0 P A g [(0, .ref (A m)), (1, .int x)] 0 []
  refine g_iload_n (pc := 0) C dX11_go_0 1 rfl ?_
  refine g_i2l (pc := 1) C dX11_go_1 ?_
  refine g_lconst (pc := 2) C dX11_go_2 (v := 0) rfl ?_
  refine g_ldc2 (pc := 3) C dX11_go_3 u_1073 ?_
  refine g_callS (pc := 6) C (As := [.long (x).toInt64, .long 0, .long 2000]) (rest := []) (c_X11_in A P g x.toInt64 0 2000) rfl u_908 u_13 u_909 u_907 N_X11_in ⟨by decide, by decide⟩ ⟨by decide, by decide⟩ (Nat.le_of_ble_eq_true rfl) rfl dX11_go_6 ?_
  rintro _ _ _ _ ⟨rfl, rfl, rfl, rfl⟩
  rw [in_c (lo := 0) (hi := nI 2000) (by decide) (by decide)]
  show V K 0 0 P A g [(0, .ref (A m)), (1, .int x)] 9 [.int (b32 (decide (0 ≤ x ∧ x ≤ nI 2000)))]
  refine g_if_ne (pc := 9) C dX11_go_9 (tgt := 15) (by decide) (fun c_9 => ?_) (fun c_9 => ?_)
  ·
    have c_9 : (decide (0 ≤ x ∧ x ≤ nI 2000)) = true := b32_no c_9
    have c_9 : (0 ≤ x ∧ x ≤ nI 2000) := of_decide_eq_true c_9
    obtain ⟨n, -, hn, rfl⟩ := rg_ex (lo := 0) (hi := 2000) (by omega) (by omega) (i32_nlt c_9.1) (i32_nlt c_9.2)
    refine g_iconst (pc := 15) C dX11_go_15 (v := nI 0) rfl ?_
    refine g_istore_n (pc := 16) C dX11_go_16 (by decide) (lv' := [(0, .ref (A m)), (1, .int (nI n)), (2, .int (nI 0))]) [1, 2, 0] rfl ?_
    have lp_17 : ∀ (fuel : Nat) (d : Nat) (hd : d ≤ n) (σ1 : Sg) (gl : pM) (hM1 : MM A gl m cs σ1) (hS1 : SW (B + d) cs σ1) (h1 : (gos cs (n - d) σ1).1 = (gos cs n σ).1) (h2 : (gos cs (n - d) σ1).2 + d = (gos cs n σ).2) (hfl : FrA g gl m), n - d < fuel → V K 0 0 P A gl [(0, .ref (A m)), (1, .int (nI n)), (2, .int (nI d))] 17 [] := by
      intro fuel
      induction fuel with
      | zero => intro d hd σ1 gl hM1 hS1 h1 h2 hfl hμ; exact absurd hμ (Nat.not_lt_zero _)
      | succ fuel ih_17 =>
        intro d hd σ1 gl hM1 hS1 h1 h2 hfl hμ
        obtain ⟨⟨lm1, gm1, l31, l41, l51, hO1, hl31, hl41, hl51⟩, ⟨Z1, hZ1, hR1⟩, hC1⟩ := id hM1
        have hL1 := hR1.le
        refine g_iload_n (pc := 17) C dX11_go_17 2 rfl ?_
        refine g_iload_n (pc := 18) C dX11_go_18 1 rfl ?_
        refine g_icmp_ge (pc := 19) C dX11_go_19 (tgt := 54) (by decide) (fun c_19 => ?_) (fun c_19 => ?_)
        ·
          have c_19 : n ≤ d := (nI_leI (by omega) (by omega)).mp c_19
          refine g_iload_n (pc := 54) C dX11_go_54 2 rfl ?_
          have he : gos cs (n - d) σ1 = (σ1, 0) := by rw [show n - d = 0 by omega]; rfl
          rw [he] at h1 h2
          dsimp only at h1 h2
          exact g_iret (pc := 55) C R ⟨rfl, rfl, Or.inr ⟨n, hn, rfl, by rw [← h2, Nat.zero_add], by rw [← h1]; exact hM1, hfl⟩⟩ (by decide) (by decide) dX11_go_55
        ·
          have c_19 : ¬ n ≤ d := fun h => c_19 ((nI_leI (a := n) (b := d) (by omega) (by omega)).mpr h)
          refine g_aload_n (pc := 22) C dX11_go_22 0 rfl ?_
          refine g_get (pc := 23) C (j := 0) hO1 rfl rfl (by decide) u_852 dX11_go_23 ?_
          refine g_sipush (pc := 26) C dX11_go_26 (v := nI 10507) rfl ?_
          refine g_iald (pc := 29) C hZ1 (nI_clamp (by omega)) (nI_in0 (n := 10511) (by omega) (by omega)) dX11_go_29 (x := nI (gR σ1).length) (RZ.rRn hR1 (by omega)) ?_
          refine g_if_le (pc := 30) C dX11_go_30 (tgt := 54) (by decide) (fun c_30 => ?_) (fun c_30 => ?_)
          ·
            have c_30 : (gR σ1).length ≤ 0 := (nI_leI (by omega) (by omega)).mp c_30
            refine g_iload_n (pc := 54) C dX11_go_54 2 rfl ?_
            have he : gos cs (n - d) σ1 = (σ1, 0) := gos_e (by omega)
            rw [he] at h1 h2
            dsimp only at h1 h2
            exact g_iret (pc := 55) C R ⟨rfl, rfl, Or.inr ⟨n, hn, rfl, by rw [← h2, Nat.zero_add], by rw [← h1]; exact hM1, hfl⟩⟩ (by decide) (by decide) dX11_go_55
          ·
            have c_30 : ¬ (gR σ1).length ≤ 0 := fun h => c_30 ((nI_leI (a := (gR σ1).length) (b := 0) (by omega) (by omega)).mpr h)
            obtain ⟨u, hti⟩ : ∃ u, (gR σ1)[0]? = some u := ⟨_, List.getElem?_eq_getElem (by omega)⟩
            have hgs := gos_s (cs := cs) (n := n) (Nat.not_le.mp c_19) hti
            obtain ⟨-, -, hu3, hu4, -⟩ := hS1.2.2.2.2.2.1 u (List.mem_of_getElem? hti)
            refine g_aload_n (pc := 33) C dX11_go_33 0 rfl ?_
            refine g_iconst (pc := 34) C dX11_go_34 (v := nI 0) rfl ?_
            refine g_callV (pc := 35) C (As := [.int (nI 0)]) (rest := []) (b := m) (c_X11_comes A P gl m 0 u hti hS1 (by omega) hC1 hl31 hl41 hl51 hO1 hZ1 hR1) hO1 rfl rfl Y_X11_comes u_1017 N_X11_comes ⟨by decide, by decide⟩ ⟨by decide, by decide⟩ (Nat.le_of_ble_eq_true rfl) rfl dX11_go_35 ?_
            rintro _ _ _ g_1 ⟨rfl, rfl, rfl, hzs_3, hms_2, hf_4⟩
            have hMCg_1 := MC.fra hC1 hf_4 (by omega)
            show V K 0 0 P A g_1 [(0, .ref (A m)), (1, .int (nI n)), (2, .int (nI d))] 38 [.int (nI u.2.2.1)]
            refine g_istore_n (pc := 38) C dX11_go_38 (by decide) (lv' := [(0, .ref (A m)), (1, .int (nI n)), (2, .int (nI d)), (3, .int (nI u.2.2.1))]) [1, 2, 3, 0] rfl ?_
            refine g_iload_n (pc := 39) C dX11_go_39 2 rfl ?_
            refine g_iload_n (pc := 40) C dX11_go_40 3 rfl ?_
            refine g_if_le (pc := 41) C dX11_go_41 (tgt := 48) (by decide) (fun c_41 => ?_) (fun c_41 => ?_)
            ·
              have c_41 : u.2.2.1 ≤ 0 := (nI_leI (by omega) (by omega)).mp c_41
              exfalso; omega
            ·
              have c_41 : ¬ u.2.2.1 ≤ 0 := fun h => c_41 ((nI_leI (a := u.2.2.1) (b := 0) (by omega) (by omega)).mpr h)
              refine g_iconst (pc := 44) C dX11_go_44 (v := nI 1) rfl ?_
              refine g_goto (pc := 45) C dX11_go_45 (tgt := 49) (by decide) ?_
              refine g_iadd (pc := 49) C dX11_go_49 (z := nI (d + 1)) (nI_add _ _) ?_
              refine g_istore_n (pc := 50) C dX11_go_50 (by decide) (lv' := [(0, .ref (A m)), (1, .int (nI n)), (2, .int (nI (d + 1))), (3, .int (nI u.2.2.1))]) [1, 2, 0, 3] rfl ?_
              refine g_goto (pc := 51) C dX11_go_51 (tgt := 17) (by decide) ?_
              refine g_sub [0, 1, 2] rfl ?_
              exact ih_17 (d + 1) (by omega) _ g_1 (mm_cme hms_2 hzs_3 hMCg_1) (by have e := cme_SW hS1 (by omega) hti; rw [Nat.add_assoc] at e; exact e) (hgs.1.symm.trans h1) (by rw [← h2, hgs.2]; omega) (hfl.tr hf_4) (by omega)
    exact lp_17 (_ + 1) 0 (Nat.zero_le _) σ g hM hS rfl rfl FrA.rf (Nat.lt_succ_self _)
  ·
    have c_9 : (decide (0 ≤ x ∧ x ≤ nI 2000)) = false := b32_yes c_9
    have c_9 : ¬ (0 ≤ x ∧ x ≤ nI 2000) := of_decide_eq_false c_9
    refine g_bipush (pc := 12) C dX11_go_12 (v := (-2)) rfl ?_
    exact g_iret (pc := 14) C R ⟨rfl, rfl, Or.inl ⟨by by_cases z : x < 0; exact Or.inl z; exact Or.inr (fun z2 => c_9 ⟨i32_le z, z2⟩), rfl, rfl⟩⟩ (by decide) (by decide) dX11_go_14
