-- PART 35: who is reached: the reference, and the class
theorem lnkF_lt {σ : Sg} {l : List Nat} : ∀ {m : Nat}, m < 65536 → (∀ q ∈ l, q < 16) → l.foldl (fun m q => m ||| (if lvd σ q then 2 ^ q else 0)) m < 65536 := by
  induction l with
  | nil => intro m hm _; exact hm
  | cons a l ih =>
    intro m hm hl
    refine ih (m := m ||| (if lvd σ a then 2 ^ a else 0)) ?_ (fun q hq => hl q (by simp [hq]))
    split
    · exact or_lt hm (hl a (by simp))
    · rw [Nat.or_zero]
      exact hm
theorem rch1_lt {σ : Sg} {m : Nat} (hm : m < 65536) : ∀ {n : Nat}, (∀ j, j < n → lnk σ j < 65536) → rch1 σ n m < 65536
  | 0, _ => hm
  | n + 1, h => by
    have h0 := rch1_lt (σ := σ) hm (n := n) (fun j hj => h j (by omega))
    simp only [rch1]
    split
    · exact Nat.or_lt_two_pow (n := 16) h0 (h n (by omega))
    · exact h0
theorem rch_lt {σ : Sg} {m : Nat} (hm : m < 65536) (h : ∀ j, j < gK σ → lnk σ j < 65536) : ∀ {r : Nat}, rch σ r m < 65536
  | 0 => hm
  | r + 1 => rch1_lt (rch_lt hm h (r := r)) h
theorem rch1_y {σ : Sg} {n m : Nat} (h : (rch1 σ n m).testBit n = true) : rch1 σ (n + 1) m = rch1 σ n m ||| lnk σ n := by simp only [rch1, if_pos h]
theorem rch1_n {σ : Sg} {n m : Nat} (h : (rch1 σ n m).testBit n = false) : rch1 σ (n + 1) m = rch1 σ n m := by
  simp only [rch1]
  rw [if_neg (by rw [h]; decide)]
/-- the links of node r, the first k of them, put to the bits S -/
def rkF (σ : Sg) (l : List Nat) (S : Nat) : Nat := l.foldl (fun m q => m ||| (if lvd σ q then 2 ^ q else 0)) S
theorem rkF_s {σ : Sg} {l : List Nat} {S k : Nat} (h : k < l.length) : rkF σ (l.take (k + 1)) S = rkF σ (l.take k) S ||| (if lvd σ (l.getD k 0) then 2 ^ (l.getD k 0) else 0) := foldl_tk h
theorem rkF_or {σ : Sg} {l : List Nat} : ∀ {S : Nat}, rkF σ l S = S ||| rkF σ l 0 := by
  induction l with
  | nil => intro S; exact (Nat.or_zero S).symm
  | cons a l ih =>
    intro S
    show rkF σ l (S ||| (if lvd σ a then 2 ^ a else 0)) = S ||| rkF σ l (0 ||| (if lvd σ a then 2 ^ a else 0))
    rw [ih, ih (S := 0 ||| (if lvd σ a then 2 ^ a else 0)), Nat.zero_or, Nat.or_assoc]
theorem rkF_bit {σ : Sg} {l : List Nat} {S r : Nat} (h : (rkF σ l S).testBit r = false) : S.testBit r = false := by
  rw [rkF_or, Nat.testBit_or] at h
  exact (Bool.or_eq_false_iff.mp h).1
theorem rkF_e {σ : Sg} {r mm k : Nat} (hk : (nAc (gN σ r)).length ≤ k) (hb : 0 < k → (rch1 σ r mm).testBit r = true) : rkF σ ((nAc (gN σ r)).take k) (rch1 σ r mm) = rch1 σ (r + 1) mm := by
  rw [List.take_of_length_le hk]
  cases e : (rch1 σ r mm).testBit r with
  | true => rw [rch1_y e, rkF_or]; rfl
  | false =>
    have h0 : (nAc (gN σ r)).length = 0 := by
      rcases Nat.eq_zero_or_pos k with z | z
      · omega
      · rw [hb z] at e; cases e
    rw [rch1_n e, List.length_eq_zero_iff.mp h0]
    rfl
theorem rkF_d {σ : Sg} {r mm k : Nat} (hd : (rkF σ ((nAc (gN σ r)).take k) (rch1 σ r mm)).testBit r = false) (hb : 0 < k → (rch1 σ r mm).testBit r = true) : rkF σ ((nAc (gN σ r)).take k) (rch1 σ r mm) = rch1 σ (r + 1) mm := by
  have e := rkF_bit hd
  have h0 : k = 0 := by
    rcases Nat.eq_zero_or_pos k with z | z
    · exact z
    · rw [hb z] at e; cases e
  subst h0
  rw [rch1_n e]
  rfl
theorem rch1_sub {σ : Sg} {m q : Nat} (h : m.testBit q = true) : ∀ {n : Nat}, (rch1 σ n m).testBit q = true
  | 0 => h
  | n + 1 => by
    simp only [rch1]
    split
    · rw [Nat.testBit_or, rch1_sub h, Bool.true_or]
    · exact rch1_sub h
theorem ct_sub {p q : Nat → Bool} (h : ∀ j, p j = true → q j = true) : ∀ {n : Nat}, ct p n ≤ ct q n
  | 0 => Nat.le_refl _
  | n + 1 => by
    have := ct_sub h (n := n)
    simp only [ct]
    cases e : p n with
    | true => rw [h n e]; simp; exact this
    | false => cases q n <;> simp <;> omega
theorem ct_lt {p q : Nat → Bool} (h : ∀ j, p j = true → q j = true) {j : Nat} : ∀ {n : Nat}, j < n → p j = false → q j = true → ct p n < ct q n
  | 0, hj, _, _ => absurd hj (Nat.not_lt_zero j)
  | n + 1, hj, h1, h2 => by
    have h0 := ct_sub h (n := n)
    by_cases e : j = n
    · subst e
      rw [ct_n h1, ct_y h2]
      omega
    · have := ct_lt h (n := n) (by omega) h1 h2
      simp only [ct]
      cases e : p n with
      | true => rw [h n e]; simp; exact this
      | false => cases q n <;> simp <;> omega
/-- how many bits -/
def pcn (m : Nat) : Nat := ct (fun q => m.testBit q) 16
theorem pcn_lt {σ : Sg} {m : Nat} (hm : m < 65536) (h : ∀ j, j < gK σ → lnk σ j < 65536) (hne : rch1 σ (gK σ) m ≠ m) : pcn m < pcn (rch1 σ (gK σ) m) := by
  have h2 := rch1_lt (σ := σ) hm h
  have hx : ∃ j, j < 16 ∧ m.testBit j = false ∧ (rch1 σ (gK σ) m).testBit j = true := by
    refine Classical.byContradiction (fun hc => hne ?_)
    apply Nat.eq_of_testBit_eq
    intro j
    by_cases hj : j < 16
    · cases e : m.testBit j with
      | true => exact rch1_sub e
      | false =>
        cases e2 : (rch1 σ (gK σ) m).testBit j with
        | false => rfl
        | true => exact absurd ⟨j, hj, e, e2⟩ hc
    · have big : 65536 ≤ 2 ^ j := Nat.le_trans (show 65536 ≤ 2 ^ 16 from Nat.le_refl _) (Nat.pow_le_pow_right (by omega) (by omega))
      rw [Nat.testBit_lt_two_pow (Nat.lt_of_lt_of_le h2 big), Nat.testBit_lt_two_pow (Nat.lt_of_lt_of_le hm big)]
  obtain ⟨j, hj, e1, e2⟩ := hx
  exact ct_lt (fun q hq => rch1_sub hq) hj e1 e2
theorem pcn_16 (m : Nat) : pcn m ≤ 16 := ct_le _ 16
theorem rch_fix {σ : Sg} {m j : Nat} (h : rch1 σ (gK σ) (rch σ j m) = rch σ j m) : ∀ d, rch σ (j + d) m = rch σ j m
  | 0 => rfl
  | d + 1 => by
    show rch1 σ (gK σ) (rch σ (j + d) m) = rch σ j m
    rw [rch_fix h d, h]
theorem rch_end {σ : Sg} {m j : Nat} (h : rch1 σ (gK σ) (rch σ j m) = rch σ j m) (hj : j + 1 ≤ pcn (rch σ j m)) : rch σ 16 m = rch σ j m := by
  have := pcn_16 (rch σ j m)
  have e := rch_fix h (16 - j)
  rw [show j + (16 - j) = 16 by omega] at e
  exact e
theorem pcn_1 {i : Nat} (hi : i < 16) : 1 ≤ pcn (2 ^ i) := by
  have h : ∀ i : Fin 16, 1 ≤ pcn (2 ^ i.val) := by decide +kernel
  exact h ⟨i, hi⟩
theorem rch1_ge {σ : Sg} {m : Nat} : ∀ {n : Nat}, m ≤ rch1 σ n m
  | 0 => Nat.le_refl _
  | n + 1 => by
    simp only [rch1]
    split
    · exact Nat.le_trans rch1_ge Nat.left_le_or
    · exact rch1_ge
abbrev rm_X11_reach : Room := { frames := 2, cells := 0, slots := 0, locals := 46 }
theorem Y_X11_reach : pY yX11_reach cX11_reach 8 (Option.some Jvm.ClassFile.FieldType.int) := ⟨u_1107, u_1108, u_13, u_1109⟩
theorem N_X11_reach : yX11_reach.cls ≠ "java/lang/invoke/MethodHandle" ∧ yX11_reach.cls ≠ "java/lang/invoke/VarHandle" ∧ (parseMethodDescriptor yX11_reach.desc).map (fun d => d.parameters.length) = some 1 := by decide +kernel
set_option maxRecDepth 20000 in
set_option maxHeartbeats 4000000 in
theorem c_X11_reach (A : Nat → Nat) (P : List Nat) (g : pM) (m : Nat) {cs : List Nat} {σ : Sg} {B : Nat} (x : Int32) (hS : SW B cs σ) (hM : MM A g m cs σ) : PM yX11_reach cX11_reach 8 (Option.some Jvm.ClassFile.FieldType.int) rm_X11_reach [.ref (A m), .int x] P A g (fun v g' => (rfA σ x ≠ 0 ∧ v = some (.int (rfA σ x)) ∧ g = g') ∨ (∃ i, i < gK σ ∧ x = nI i ∧ lvd σ i = true ∧ v = some (.int (nI (pcn (rch σ 16 (2 ^ i))))) ∧ g = g')) := by
  obtain ⟨⟨lm, gm, l3, l4, l5, hO, hl3, hl4, hl5⟩, ⟨Z, hZ, hR⟩, hC⟩ := id hM
  have hK := hR.k16
  have hT := hR.t24
  have hL := hR.le
  have hlk : ∀ j, j < gK σ → lnk σ j < 65536 := fun j hj => lnkF_lt (by omega) (hS.a16 hj)
  refine px_intro (by decide +kernel) (Nat.le_of_ble_eq_true rfl) (fun K sz C R => ?_)
  show V K 0 0 P A g [(0, .ref (A m)), (1, .int x)] 0 []
  refine g_aload_n (pc := 0) C dX11_reach_0 0 rfl ?_
  refine g_iload_n (pc := 1) C dX11_reach_1 1 rfl ?_
  refine g_callV (pc := 2) C (As := [.int x]) (rest := []) (b := m) (c_X11_isNode A P g m x hO hZ hR) hO rfl rfl Y_X11_isNode u_929 N_X11_isNode ⟨by decide, by decide⟩ ⟨by decide, by decide⟩ (Nat.le_of_ble_eq_true rfl) rfl dX11_reach_2 ?_
  rintro _ _ _ _ ⟨rfl, rfl, rfl, rfl⟩
  show V K 0 0 P A g [(0, .ref (A m)), (1, .int x)] 5 [.int (b32 (isN σ x))]
  refine g_if_ne (pc := 5) C dX11_reach_5 (tgt := 10) (by decide) (fun c_5 => ?_) (fun c_5 => ?_)
  ·
    have c_5 : (isN σ x) = true := b32_no c_5
    obtain ⟨i, hi, rfl⟩ := isN_ex hK c_5
    refine g_aload_n (pc := 10) C dX11_reach_10 0 rfl ?_
    refine g_get (pc := 11) C (j := 0) hO rfl rfl (by decide) u_852 dX11_reach_11 ?_
    refine g_iconst (pc := 14) C dX11_reach_14 (v := nI 0) rfl ?_
    refine g_iload_n (pc := 15) C dX11_reach_15 1 rfl ?_
    refine g_iadd (pc := 16) C dX11_reach_16 (z := nI (0 + i)) (nI_add _ _) ?_
    refine g_iald (pc := 17) C hZ (nI_clamp (by omega)) (nI_in0 (n := 10511) (by omega) (by omega)) dX11_reach_17 (x := b32 (lvd σ i)) (RZ.rLv hR (r := i) (by omega) (by omega)) ?_
    refine g_if_ne (pc := 18) C dX11_reach_18 (tgt := 24) (by decide) (fun c_18 => ?_) (fun c_18 => ?_)
    ·
      have c_18 : (lvd σ i) = true := b32_no c_18
      refine g_iconst (pc := 24) C dX11_reach_24 (v := nI 1) rfl ?_
      refine g_iload_n (pc := 25) C dX11_reach_25 1 rfl ?_
      refine g_ishl (pc := 26) C dX11_reach_26 (z := nI (2 ^ i)) (shl_nI (by omega)) ?_
      refine g_istore_n (pc := 27) C dX11_reach_27 (by decide) (lv' := [(0, .ref (A m)), (1, .int (nI i)), (2, .int (nI (2 ^ i)))]) [1, 2, 0] rfl ?_
      refine g_iconst (pc := 28) C dX11_reach_28 (v := nI 1) rfl ?_
      refine g_istore_n (pc := 29) C dX11_reach_29 (by decide) (lv' := [(0, .ref (A m)), (1, .int (nI i)), (2, .int (nI (2 ^ i))), (3, .int (nI 1))]) [1, 2, 3, 0] rfl ?_
      refine g_iload_n (pc := 30) C dX11_reach_30 3 rfl ?_
      refine g_if_eq (pc := 31) C dX11_reach_31 (tgt := 149) (by decide) (fun c_31 => ?_) (fun c_31 => ?_)
      ·
        exfalso
        revert c_31; decide
      ·
        have c_31 : ¬ 1 = 0 := fun h => c_31 ((nI_eq (a := 1) (b := 0) (by omega) (by omega)).mpr h)
        have lp_34 : ∀ (fuel : Nat) (j mm : Nat) (hm : mm = rch σ j (2 ^ i)) (hpc : j + 1 ≤ pcn mm) (hmm : mm < 65536), 65536 - mm < fuel → V K 0 0 P A g [(0, .ref (A m)), (1, .int (nI i)), (2, .int (nI mm)), (3, .int (nI 1))] 34 [] := by
          intro fuel
          induction fuel with
          | zero => intro j mm hm hpc hmm hμ; exact absurd hμ (Nat.not_lt_zero _)
          | succ fuel ih_34 =>
            intro j mm hm hpc hmm hμ
            refine g_iload_n (pc := 34) C dX11_reach_34 2 rfl ?_
            refine g_istore (pc := 35) C dX11_reach_35 (by decide) (lv' := [(0, .ref (A m)), (1, .int (nI i)), (2, .int (nI mm)), (3, .int (nI 1)), (4, .int (nI mm))]) [1, 2, 3, 4, 0] rfl ?_
            refine g_iconst (pc := 37) C dX11_reach_37 (v := nI 0) rfl ?_
            refine g_istore (pc := 38) C dX11_reach_38 (by decide) (lv' := [(0, .ref (A m)), (1, .int (nI i)), (2, .int (nI mm)), (3, .int (nI 1)), (4, .int (nI mm)), (5, .int (nI 0))]) [1, 2, 3, 4, 5, 0] rfl ?_
            have lp_40 : ∀ (fuel : Nat) (r : Nat) (hr : r ≤ gK σ), gK σ - r < fuel → V K 0 0 P A g [(0, .ref (A m)), (1, .int (nI i)), (2, .int (nI (rch1 σ r mm))), (3, .int (nI 1)), (4, .int (nI mm)), (5, .int (nI r))] 40 [] := by
              intro fuel
              induction fuel with
              | zero => intro r hr hμ; exact absurd hμ (Nat.not_lt_zero _)
              | succ fuel ih_40 =>
                intro r hr hμ
                refine g_iload (pc := 40) C dX11_reach_40 5 rfl ?_
                refine g_aload_n (pc := 42) C dX11_reach_42 0 rfl ?_
                refine g_get (pc := 43) C (j := 0) hO rfl rfl (by decide) u_852 dX11_reach_43 ?_
                refine g_sipush (pc := 46) C dX11_reach_46 (v := nI 10505) rfl ?_
                refine g_iald (pc := 49) C hZ (nI_clamp (by omega)) (nI_in0 (n := 10511) (by omega) (by omega)) dX11_reach_49 (x := nI (gK σ)) (RZ.rK hR (by omega)) ?_
                refine g_icmp_ge (pc := 50) C dX11_reach_50 (tgt := 134) (by decide) (fun c_50 => ?_) (fun c_50 => ?_)
                ·
                  have c_50 : (gK σ) ≤ r := (nI_leI (by omega) (by omega)).mp c_50
                  have hrE : r = gK σ := by omega
                  rw [hrE]
                  have hmm2 := rch1_lt (σ := σ) hmm (n := gK σ) hlk
                  have hge := rch1_ge (σ := σ) (m := mm) (n := gK σ)
                  refine g_iload_n (pc := 134) C dX11_reach_134 2 rfl ?_
                  refine g_iload (pc := 135) C dX11_reach_135 4 rfl ?_
                  refine g_icmp_eq (pc := 137) C dX11_reach_137 (tgt := 144) (by decide) (fun c_137 => ?_) (fun c_137 => ?_)
                  ·
                    have c_137 : (rch1 σ (gK σ) mm) = mm := (nI_eq (by omega) (by omega)).mp c_137
                    have hfx : rch1 σ (gK σ) mm = mm := c_137
                    have hend : rch σ 16 (2 ^ i) = mm := by rw [hm] at hfx hpc ⊢; exact rch_end hfx hpc
                    rw [hfx]
                    refine g_iconst (pc := 144) C dX11_reach_144 (v := nI 0) rfl ?_
                    refine g_istore_n (pc := 145) C dX11_reach_145 (by decide) (lv' := [(0, .ref (A m)), (1, .int (nI i)), (2, .int (nI mm)), (3, .int (nI 0)), (4, .int (nI mm)), (5, .int (nI (gK σ)))]) [1, 2, 3, 0, 4, 5] rfl ?_
                    refine g_goto (pc := 146) C dX11_reach_146 (tgt := 30) (by decide) ?_
                    refine g_iload_n (pc := 30) C dX11_reach_30 3 rfl ?_
                    refine g_if_eq (pc := 31) C dX11_reach_31 (tgt := 149) (by decide) (fun c_31' => ?_) (fun c_31' => ?_)
                    ·
                      have c_31' : 0 = 0 := (nI_eq (by omega) (by omega)).mp c_31'
                      refine g_iconst (pc := 149) C dX11_reach_149 (v := nI 0) rfl ?_
                      refine g_istore (pc := 150) C dX11_reach_150 (by decide) (lv' := [(0, .ref (A m)), (1, .int (nI i)), (2, .int (nI mm)), (3, .int (nI 0)), (4, .int (nI 0)), (5, .int (nI (gK σ)))]) [1, 2, 3, 4, 0, 5] rfl ?_
                      refine g_iconst (pc := 152) C dX11_reach_152 (v := nI 0) rfl ?_
                      refine g_istore (pc := 153) C dX11_reach_153 (by decide) (lv' := [(0, .ref (A m)), (1, .int (nI i)), (2, .int (nI mm)), (3, .int (nI 0)), (4, .int (nI 0)), (5, .int (nI 0))]) [1, 2, 3, 4, 5, 0] rfl ?_
                      have lp_155 : ∀ (fuel : Nat) (q : Nat) (hq : q ≤ 16), 16 - q < fuel → V K 0 0 P A g [(0, .ref (A m)), (1, .int (nI i)), (2, .int (nI mm)), (4, .int (nI (ct (fun q => mm.testBit q) q))), (5, .int (nI q))] 155 [] := by
                        intro fuel
                        induction fuel with
                        | zero => intro q hq hμ; exact absurd hμ (Nat.not_lt_zero _)
                        | succ fuel ih_155 =>
                          intro q hq hμ
                          refine g_iload (pc := 155) C dX11_reach_155 4 rfl ?_
                          refine g_bipush (pc := 157) C dX11_reach_157 (v := nI 16) rfl ?_
                          refine g_icmp_ge (pc := 159) C dX11_reach_159 (tgt := 179) (by decide) (fun c_159 => ?_) (fun c_159 => ?_)
                          ·
                            have c_159 : 16 ≤ q := (nI_leI (by omega) (by omega)).mp c_159
                            refine g_iload (pc := 179) C dX11_reach_179 3 rfl ?_
                            exact g_iret (pc := 181) C R ⟨rfl, rfl, Or.inr ⟨i, hi, rfl, c_18, by rw [hend, show q = 16 by omega]; rfl, rfl⟩⟩ (by decide) (by decide) dX11_reach_181
                          ·
                            have c_159 : ¬ 16 ≤ q := fun h => c_159 ((nI_leI (a := 16) (b := q) (by omega) (by omega)).mpr h)
                            refine g_iload (pc := 162) C dX11_reach_162 3 rfl ?_
                            refine g_iload_n (pc := 164) C dX11_reach_164 2 rfl ?_
                            refine g_iload (pc := 165) C dX11_reach_165 4 rfl ?_
                            refine g_ishr (pc := 167) C dX11_reach_167 (z := (nI mm) >>> ((nI q) &&& 31)) rfl ?_
                            refine g_iconst (pc := 168) C dX11_reach_168 (v := nI 1) rfl ?_
                            refine g_iand (pc := 169) C dX11_reach_169 (z := b32 (mm.testBit q)) (shr_bit hmm (by omega)) ?_
                            refine g_iadd (pc := 170) C dX11_reach_170 (z := nI (ct (fun q => mm.testBit q) (q + 1))) (ct_b (p := fun q => mm.testBit q)) ?_
                            refine g_istore (pc := 171) C dX11_reach_171 (by decide) (lv' := [(0, .ref (A m)), (1, .int (nI i)), (2, .int (nI mm)), (4, .int (nI (ct (fun q => mm.testBit q) (q + 1)))), (5, .int (nI q))]) [1, 2, 3, 0, 4] rfl ?_
                            refine g_iinc (pc := 173) C dX11_reach_173 (by decide) 4 rfl (v := nI (q + 1)) (nI_i1 _) (lv' := [(0, .ref (A m)), (1, .int (nI i)), (2, .int (nI mm)), (4, .int (nI (ct (fun q => mm.testBit q) (q + 1)))), (5, .int (nI (q + 1)))]) [1, 2, 3, 4, 0] rfl ?_
                            refine g_goto (pc := 176) C dX11_reach_176 (tgt := 155) (by decide) ?_
                            exact ih_155 (q + 1) (by omega) (by omega)
                      refine g_sub [0, 1, 2, 4, 5] rfl ?_
                      exact lp_155 (_ + 1) 0 (Nat.zero_le _) (Nat.lt_succ_self _)
                    ·
                      exfalso
                      revert c_31'; decide
                  ·
                    have c_137 : ¬ (rch1 σ (gK σ) mm) = mm := fun h => c_137 ((nI_eq (a := (rch1 σ (gK σ) mm)) (b := mm) (by omega) (by omega)).mpr h)
                    have hne : rch1 σ (gK σ) mm ≠ mm := c_137
                    refine g_iconst (pc := 140) C dX11_reach_140 (v := nI 1) rfl ?_
                    refine g_goto (pc := 141) C dX11_reach_141 (tgt := 145) (by decide) ?_
                    refine g_istore_n (pc := 145) C dX11_reach_145 (by decide) (lv' := [(0, .ref (A m)), (1, .int (nI i)), (2, .int (nI (rch1 σ (gK σ) mm))), (3, .int (nI 1)), (4, .int (nI mm)), (5, .int (nI (gK σ)))]) [1, 2, 3, 0, 4, 5] rfl ?_
                    refine g_goto (pc := 146) C dX11_reach_146 (tgt := 30) (by decide) ?_
                    refine g_iload_n (pc := 30) C dX11_reach_30 3 rfl ?_
                    refine g_if_eq (pc := 31) C dX11_reach_31 (tgt := 149) (by decide) (fun c_31' => ?_) (fun c_31' => ?_)
                    ·
                      exfalso
                      revert c_31'; decide
                    ·
                      have c_31' : ¬ 1 = 0 := fun h => c_31' ((nI_eq (a := 1) (b := 0) (by omega) (by omega)).mpr h)
                      refine g_sub [0, 1, 2, 3] rfl ?_
                      exact ih_34 (j + 1) (rch1 σ (gK σ) mm) (by rw [hm]; rfl) (by have := pcn_lt hmm hlk hne; omega) (rch1_lt hmm hlk) (by omega)
                ·
                  have c_50 : ¬ (gK σ) ≤ r := fun h => c_50 ((nI_leI (a := (gK σ)) (b := r) (by omega) (by omega)).mpr h)
                  have hrK : r < gK σ := by omega
                  have hc5 := hR.ac5 hrK
                  have ha16 := hS.a16 hrK
                  have hSr := rch1_lt (σ := σ) hmm (n := r) (fun j hj => hlk j (by omega))
                  refine g_iconst (pc := 53) C dX11_reach_53 (v := nI 0) rfl ?_
                  refine g_istore (pc := 54) C dX11_reach_54 (by decide) (lv' := [(0, .ref (A m)), (1, .int (nI i)), (2, .int (nI (rch1 σ r mm))), (3, .int (nI 1)), (4, .int (nI mm)), (5, .int (nI r)), (6, .int (nI 0))]) [1, 2, 3, 4, 5, 6, 0] rfl ?_
                  have lp_56 : ∀ (fuel : Nat) (k : Nat) (hk : k ≤ (nAc (gN σ r)).length) (hb : 0 < k → (rch1 σ r mm).testBit r = true), (nAc (gN σ r)).length - k < fuel → V K 0 0 P A g [(0, .ref (A m)), (1, .int (nI i)), (2, .int (nI (rkF σ ((nAc (gN σ r)).take k) (rch1 σ r mm)))), (3, .int (nI 1)), (4, .int (nI mm)), (5, .int (nI r)), (6, .int (nI k))] 56 [] := by
                    intro fuel
                    induction fuel with
                    | zero => intro k hk hb hμ; exact absurd hμ (Nat.not_lt_zero _)
                    | succ fuel ih_56 =>
                      intro k hk hb hμ
                      refine g_iload (pc := 56) C dX11_reach_56 6 rfl ?_
                      refine g_aload_n (pc := 58) C dX11_reach_58 0 rfl ?_
                      refine g_get (pc := 59) C (j := 0) hO rfl rfl (by decide) u_852 dX11_reach_59 ?_
                      refine g_bipush (pc := 62) C dX11_reach_62 (v := nI 16) rfl ?_
                      refine g_iload (pc := 64) C dX11_reach_64 5 rfl ?_
                      refine g_iadd (pc := 66) C dX11_reach_66 (z := nI (16 + r)) (nI_add _ _) ?_
                      refine g_iald (pc := 67) C hZ (nI_clamp (by omega)) (nI_in0 (n := 10511) (by omega) (by omega)) dX11_reach_67 (x := nI (nAc (gN σ r)).length) (RZ.rAn hR (r := r) (by omega) (by omega)) ?_
                      refine g_icmp_ge (pc := 68) C dX11_reach_68 (tgt := 128) (by decide) (fun c_68 => ?_) (fun c_68 => ?_)
                      ·
                        have c_68 : (nAc (gN σ r)).length ≤ k := (nI_leI (by omega) (by omega)).mp c_68
                        refine g_iinc (pc := 128) C dX11_reach_128 (by decide) 5 rfl (v := nI (r + 1)) (nI_i1 _) (lv' := [(0, .ref (A m)), (1, .int (nI i)), (2, .int (nI (rkF σ ((nAc (gN σ r)).take k) (rch1 σ r mm)))), (3, .int (nI 1)), (4, .int (nI mm)), (5, .int (nI (r + 1))), (6, .int (nI k))]) [1, 2, 3, 4, 5, 0, 6] rfl ?_
                        refine g_goto (pc := 131) C dX11_reach_131 (tgt := 40) (by decide) ?_
                        refine g_sub [0, 1, 2, 3, 4, 5] rfl ?_
                        rw [rkF_e (by omega) hb]
                        exact ih_40 (r + 1) (by omega) (by omega)
                      ·
                        have c_68 : ¬ (nAc (gN σ r)).length ≤ k := fun h => c_68 ((nI_leI (a := (nAc (gN σ r)).length) (b := k) (by omega) (by omega)).mpr h)
                        have hlt : k < (nAc (gN σ r)).length := by omega
                        have hv16 := getD_lt (i := k) ha16
                        have hqK := (hS.nw hrK).2.1 _ (getD_mem hlt)
                        have hSk : rkF σ ((nAc (gN σ r)).take k) (rch1 σ r mm) < 65536 := lnkF_lt hSr (fun q hq => ha16 q (List.mem_of_mem_take hq))
                        refine g_iload_n (pc := 71) C dX11_reach_71 2 rfl ?_
                        refine g_iload (pc := 72) C dX11_reach_72 5 rfl ?_
                        refine g_ishr (pc := 74) C dX11_reach_74 (z := (nI (rkF σ ((nAc (gN σ r)).take k) (rch1 σ r mm))) >>> ((nI r) &&& 31)) rfl ?_
                        refine g_iconst (pc := 75) C dX11_reach_75 (v := nI 1) rfl ?_
                        refine g_iand (pc := 76) C dX11_reach_76 (z := b32 ((rkF σ ((nAc (gN σ r)).take k) (rch1 σ r mm)).testBit r)) (shr_bit hSk (by omega)) ?_
                        refine g_iconst (pc := 77) C dX11_reach_77 (v := nI 1) rfl ?_
                        refine g_icmp_ne (pc := 78) C dX11_reach_78 (tgt := 128) (by decide) (fun c_78 => ?_) (fun c_78 => ?_)
                        ·
                          have c_78 : ((rkF σ ((nAc (gN σ r)).take k) (rch1 σ r mm)).testBit r) = false := b32_n1 c_78
                          refine g_iinc (pc := 128) C dX11_reach_128 (by decide) 5 rfl (v := nI (r + 1)) (nI_i1 _) (lv' := [(0, .ref (A m)), (1, .int (nI i)), (2, .int (nI (rkF σ ((nAc (gN σ r)).take k) (rch1 σ r mm)))), (3, .int (nI 1)), (4, .int (nI mm)), (5, .int (nI (r + 1))), (6, .int (nI k))]) [1, 2, 3, 4, 5, 0, 6] rfl ?_
                          refine g_goto (pc := 131) C dX11_reach_131 (tgt := 40) (by decide) ?_
                          refine g_sub [0, 1, 2, 3, 4, 5] rfl ?_
                          rw [rkF_d c_78 hb]
                          exact ih_40 (r + 1) (by omega) (by omega)
                        ·
                          have c_78 : ((rkF σ ((nAc (gN σ r)).take k) (rch1 σ r mm)).testBit r) = true := b32_y1 c_78
                          have hbS : (rch1 σ r mm).testBit r = true := by
                              rcases Nat.eq_zero_or_pos k with z | z
                              · subst z; exact c_78
                              · exact hb z
                          refine g_aload_n (pc := 81) C dX11_reach_81 0 rfl ?_
                          refine g_get (pc := 82) C (j := 0) hO rfl rfl (by decide) u_852 dX11_reach_82 ?_
                          refine g_bipush (pc := 85) C dX11_reach_85 (v := nI 96) rfl ?_
                          refine g_iconst (pc := 87) C dX11_reach_87 (v := nI 5) rfl ?_
                          refine g_iload (pc := 88) C dX11_reach_88 5 rfl ?_
                          refine g_imul (pc := 90) C dX11_reach_90 (z := nI (5 * r)) (pk_mul _ _) ?_
                          refine g_iadd (pc := 91) C dX11_reach_91 (z := nI (96 + 5 * r)) (nI_add _ _) ?_
                          refine g_iload (pc := 92) C dX11_reach_92 6 rfl ?_
                          refine g_iadd (pc := 94) C dX11_reach_94 (z := nI (96 + 5 * r + k)) (nI_add _ _) ?_
                          refine g_iald (pc := 95) C hZ (nI_clamp (by omega)) (nI_in0 (n := 10511) (by omega) (by omega)) dX11_reach_95 (x := nI ((nAc (gN σ r)).getD k 0)) (RZ.rAc hR (r := r) (k := k) (by omega) (by omega) (by omega)) ?_
                          refine g_istore (pc := 96) C dX11_reach_96 (by decide) (lv' := [(0, .ref (A m)), (1, .int (nI i)), (2, .int (nI (rkF σ ((nAc (gN σ r)).take k) (rch1 σ r mm)))), (3, .int (nI 1)), (4, .int (nI mm)), (5, .int (nI r)), (6, .int (nI k)), (7, .int (nI ((nAc (gN σ r)).getD k 0)))]) [1, 2, 3, 4, 5, 6, 7, 0] rfl ?_
                          refine g_aload_n (pc := 98) C dX11_reach_98 0 rfl ?_
                          refine g_get (pc := 99) C (j := 0) hO rfl rfl (by decide) u_852 dX11_reach_99 ?_
                          refine g_iconst (pc := 102) C dX11_reach_102 (v := nI 0) rfl ?_
                          refine g_iload (pc := 103) C dX11_reach_103 7 rfl ?_
                          refine g_iadd (pc := 105) C dX11_reach_105 (z := nI (0 + ((nAc (gN σ r)).getD k 0))) (nI_add _ _) ?_
                          refine g_iald (pc := 106) C hZ (nI_clamp (by omega)) (nI_in0 (n := 10511) (by omega) (by omega)) dX11_reach_106 (x := b32 (lvd σ ((nAc (gN σ r)).getD k 0))) (RZ.rLv hR (r := ((nAc (gN σ r)).getD k 0)) (by omega) (by omega)) ?_
                          refine g_iconst (pc := 107) C dX11_reach_107 (v := nI 1) rfl ?_
                          refine g_icmp_ne (pc := 108) C dX11_reach_108 (tgt := 120) (by decide) (fun c_108 => ?_) (fun c_108 => ?_)
                          ·
                            have c_108 : (lvd σ ((nAc (gN σ r)).getD k 0)) = false := b32_n1 c_108
                            refine g_iload_n (pc := 120) C dX11_reach_120 2 rfl ?_
                            refine g_istore_n (pc := 121) C dX11_reach_121 (by decide) (lv' := [(0, .ref (A m)), (1, .int (nI i)), (2, .int (nI (rkF σ ((nAc (gN σ r)).take k) (rch1 σ r mm)))), (3, .int (nI 1)), (4, .int (nI mm)), (5, .int (nI r)), (6, .int (nI k)), (7, .int (nI ((nAc (gN σ r)).getD k 0)))]) [1, 2, 0, 3, 4, 5, 6, 7] rfl ?_
                            refine g_iinc (pc := 122) C dX11_reach_122 (by decide) 6 rfl (v := nI (k + 1)) (nI_i1 _) (lv' := [(0, .ref (A m)), (1, .int (nI i)), (2, .int (nI (rkF σ ((nAc (gN σ r)).take k) (rch1 σ r mm)))), (3, .int (nI 1)), (4, .int (nI mm)), (5, .int (nI r)), (6, .int (nI (k + 1))), (7, .int (nI ((nAc (gN σ r)).getD k 0)))]) [1, 2, 3, 4, 5, 6, 0, 7] rfl ?_
                            refine g_goto (pc := 125) C dX11_reach_125 (tgt := 56) (by decide) ?_
                            refine g_sub [0, 1, 2, 3, 4, 5, 6] rfl ?_
                            have hbk : rkF σ ((nAc (gN σ r)).take k) (rch1 σ r mm) = rkF σ ((nAc (gN σ r)).take (k + 1)) (rch1 σ r mm) := by rw [rkF_s hlt, c_108]; exact (Nat.or_zero _).symm
                            rw [hbk]
                            exact ih_56 (k + 1) (by omega) (fun _ => hbS) (by omega)
                          ·
                            have c_108 : (lvd σ ((nAc (gN σ r)).getD k 0)) = true := b32_y1 c_108
                            refine g_iload_n (pc := 111) C dX11_reach_111 2 rfl ?_
                            refine g_iconst (pc := 112) C dX11_reach_112 (v := nI 1) rfl ?_
                            refine g_iload (pc := 113) C dX11_reach_113 7 rfl ?_
                            refine g_ishl (pc := 115) C dX11_reach_115 (z := nI (2 ^ ((nAc (gN σ r)).getD k 0))) (shl_nI (by omega)) ?_
                            refine g_ior (pc := 116) C dX11_reach_116 (z := nI (rkF σ ((nAc (gN σ r)).take k) (rch1 σ r mm) ||| 2 ^ ((nAc (gN σ r)).getD k 0))) (fa_or _ _) ?_
                            refine g_goto (pc := 117) C dX11_reach_117 (tgt := 121) (by decide) ?_
                            refine g_istore_n (pc := 121) C dX11_reach_121 (by decide) (lv' := [(0, .ref (A m)), (1, .int (nI i)), (2, .int (nI (rkF σ ((nAc (gN σ r)).take k) (rch1 σ r mm) ||| 2 ^ ((nAc (gN σ r)).getD k 0)))), (3, .int (nI 1)), (4, .int (nI mm)), (5, .int (nI r)), (6, .int (nI k)), (7, .int (nI ((nAc (gN σ r)).getD k 0)))]) [1, 2, 0, 3, 4, 5, 6, 7] rfl ?_
                            refine g_iinc (pc := 122) C dX11_reach_122 (by decide) 6 rfl (v := nI (k + 1)) (nI_i1 _) (lv' := [(0, .ref (A m)), (1, .int (nI i)), (2, .int (nI (rkF σ ((nAc (gN σ r)).take k) (rch1 σ r mm) ||| 2 ^ ((nAc (gN σ r)).getD k 0)))), (3, .int (nI 1)), (4, .int (nI mm)), (5, .int (nI r)), (6, .int (nI (k + 1))), (7, .int (nI ((nAc (gN σ r)).getD k 0)))]) [1, 2, 3, 4, 5, 6, 0, 7] rfl ?_
                            refine g_goto (pc := 125) C dX11_reach_125 (tgt := 56) (by decide) ?_
                            refine g_sub [0, 1, 2, 3, 4, 5, 6] rfl ?_
                            have hbk : rkF σ ((nAc (gN σ r)).take k) (rch1 σ r mm) ||| 2 ^ ((nAc (gN σ r)).getD k 0) = rkF σ ((nAc (gN σ r)).take (k + 1)) (rch1 σ r mm) := by rw [rkF_s hlt, c_108]; rfl
                            rw [hbk]
                            exact ih_56 (k + 1) (by omega) (fun _ => hbS) (by omega)
                  exact lp_56 (_ + 1) 0 (Nat.zero_le _) (fun z => absurd z (Nat.lt_irrefl 0)) (Nat.lt_succ_self _)
            exact lp_40 (_ + 1) 0 (Nat.zero_le _) (Nat.lt_succ_self _)
        exact lp_34 (_ + 1) 0 _ rfl (pcn_1 (by omega)) (Nat.pow_lt_pow_right (by omega) (show i < 16 by omega)) (Nat.lt_succ_self _)
    ·
      have c_18 : (lvd σ i) = false := b32_yes c_18
      refine g_bipush (pc := 21) C dX11_reach_21 (v := (-3)) rfl ?_
      exact g_iret (pc := 23) C R ⟨rfl, rfl, Or.inl ⟨by rw [rfA_n hK hi, c_18]; decide, by rw [rfA_n hK hi, c_18]; rfl, rfl⟩⟩ (by decide) (by decide) dX11_reach_23
  ·
    have c_5 : (isN σ x) = false := b32_yes c_5
    refine g_iconst (pc := 8) C dX11_reach_8 (v := (-1)) rfl ?_
    exact g_iret (pc := 9) C R ⟨rfl, rfl, Or.inl ⟨by rw [rfA_no c_5]; decide, by rw [rfA_no c_5], rfl⟩⟩ (by decide) (by decide) dX11_reach_9
