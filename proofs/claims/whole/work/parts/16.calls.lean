-- PART 16: the calls of the class, in words of a state
def krow (A : Nat → Nat) (w : Nat) : Nat → Option Nat := fun k => if k < 2 then some (A (w + 5000 + 5000 * k)) else none
theorem krow_at {A : Nat → Nat} {w k : Nat} (h : k < 2) : krow A w k = some (A (w + 5000 + 5000 * k)) := by simp [krow, h]
/-- the class's object: the coins cs, the state, the kept states -/
def VB (A : Nat → Nat) (g : pM) (w : Nat) (cs : List Nat) (σ : Sg) (ks : Nat → Option Sg) : Prop :=
  g (w + 15010) = vOb A w ∧ g (w + 15007) = ob 7 [.ref (A w)] ∧ (∃ pl ll, VW A g w cs σ pl ll) ∧ g (w + 15008) = aq 5 2 (krow A w) ∧ (∃ r : Nat → Int32, g (w + 15009) = ai 1 2 r ∧ ∀ k, k < 2 → r k = b32 (ks k).isSome) ∧ ∀ k, k < 2 → ∃ σk, WD A g (w + 5000 + 5000 * k) (w + 15005) σk ∧ ∀ s, ks k = some s → s = σk
theorem WD.fr' {A : Nat → Nat} {g g' : pM} {w cq : Nat} {σ : Sg} (h : WD A g w cq σ) (hf : ∀ k, w ≤ k → k < w + 5000 → g' k = g k) : WD A g' w cq σ := by
  obtain ⟨h1, h2, h3, h4, h5, ⟨t, h6⟩, ⟨r, h7, h7b⟩, h8⟩ := h
  refine ⟨(hf _ (by omega) (by omega)).trans h1, (hf _ (by omega) (by omega)).trans h2, (hf _ (by omega) (by omega)).trans h3, fun i hi => ?_, h5.fr' (fun k hk => hf k (by omega) (by omega)), ⟨t, h6.fr' (fun k k1 k2 => hf k (by omega) (by omega))⟩, ⟨r, (hf _ (by omega) (by omega)).trans h7, h7b⟩, h8⟩
  obtain ⟨d, m1, m2⟩ := h4 i hi
  exact ⟨d, m1.fr' (fun k k1 k2 => hf k (by omega) (by omega)), m2⟩
theorem FrS.t {g g' : pM} {w : Nat} (h : FrS g g' w) : FrT g g' w := fun k hk => h k (by omega)
theorem FrV.t {g g' : pM} {w : Nat} (h : FrV g g' w) : FrT g g' w := fun k hk => h k (by omega)
theorem Fr.t {g g' : pM} {w : Nat} (h : Fr g g' w (w + 5000)) : FrT g g' w := fun k hk => h k (by omega)
theorem FrT.rf {g : pM} {w : Nat} : FrT g g w := fun _ _ => rfl
theorem FrT.tr {g g1 g2 : pM} {w : Nat} (h : FrT g g1 w) (h2 : FrT g1 g2 w) : FrT g g2 w := fun k hk => (h2 k hk).trans (h k hk)
/-- a call that changes the world and the views' scratch -/
theorem VB.t {A : Nat → Nat} {g g' : pM} {w : Nat} {cs : List Nat} {σ σ' : Sg} {ks : Nat → Option Sg} (h : VB A g w cs σ ks) (hf : FrT g g' w) (hv : ∃ pl ll, VW A g' w cs σ' pl ll) : VB A g' w cs σ' ks := by
  obtain ⟨h1, h2, h3, h4, ⟨r, h5, h6⟩, h7⟩ := h
  refine ⟨(hf _ (by omega)).trans h1, (hf _ (by omega)).trans h2, hv, (hf _ (by omega)).trans h4, ⟨r, (hf _ (by omega)).trans h5, h6⟩, fun k hk => ?_⟩
  obtain ⟨s, m1, m2⟩ := h7 k hk
  exact ⟨s, m1.fr' (fun k k1 k2 => hf k (by omega)), m2⟩
/-- a call that changes the world alone -/
theorem VB.v {A : Nat → Nat} {g g' : pM} {w : Nat} {cs : List Nat} {σ σ' : Sg} {ks : Nat → Option Sg} (h : VB A g w cs σ ks) (hf : Fr g g' w (w + 5000)) (hv : WD A g' w (w + 15005) σ') : VB A g' w cs σ' ks := by
  obtain ⟨pl, ll, v1, v2, v3, v4, v5⟩ := h.2.2.1
  exact h.t hf.t ⟨pl, ll, hf.at (by omega) v1, hv, v3.fr hf (by omega), v4.fr hf (by omega), v5.fr hf (by omega)⟩
theorem isN_ex {x : Int32} {K : Nat} (hK : K ≤ 16) (h : decide (¬ x < 0 ∧ x < nI K) = true) : ∃ i, i < K ∧ x = nI i := by
  have h2 := of_decide_eq_true h
  rcases pk_ix x (n := K) (by omega) with q | q | q
  · exact absurd q h2.1
  · exact absurd h2.2 (i32_nlt q)
  · exact q
def isN (σ : Sg) (x : Int32) : Bool := decide (¬ x < 0 ∧ x < nI (gK σ))
theorem isN_n {σ : Sg} {i : Nat} (hK : gK σ ≤ 16) (hi : i < gK σ) : isN σ (nI i) = true := decide_eq_true ⟨nI_pos (by omega), (nI_ltI (by omega) (by omega)).mpr hi⟩
/-- what a call by a node that must be live is refused with, or 0 -/
def rfA (σ : Sg) (x : Int32) : Int32 := if isN σ x then (if lvd σ x.toNatClampNeg then 0 else -3) else -1
theorem rfA_no {σ : Sg} {x : Int32} (h : isN σ x = false) : rfA σ x = -1 := by simp [rfA, h]
theorem rfA_n {σ : Sg} {i : Nat} (hK : gK σ ≤ 16) (hi : i < gK σ) : rfA σ (nI i) = if lvd σ i then 0 else -3 := by
  simp only [rfA, isN_n hK hi, if_true]
  rw [nI_clamp (by omega)]
theorem rfA_0 {σ : Sg} {x : Int32} (hK : gK σ ≤ 16) (h : rfA σ x = 0) : ∃ i, i < gK σ ∧ x = nI i ∧ lvd σ i = true := by
  cases e : isN σ x with
  | false => rw [rfA_no e] at h; exact absurd h (by decide)
  | true =>
    obtain ⟨i, hi, rfl⟩ := isN_ex hK e
    rw [rfA_n hK hi] at h
    cases q : lvd σ i with
    | true => exact ⟨i, hi, rfl, q⟩
    | false => rw [q] at h; exact absurd h (by decide)
theorem isK_ex {x : Int32} {K : Nat} (hK : K < 2 ^ 31) (h : decide (¬ x < 0 ∧ x < nI K) = true) : ∃ i, i < K ∧ x = nI i := by
  have h2 := of_decide_eq_true h
  rcases pk_ix x (n := K) hK with q | q | q
  · exact absurd q h2.1
  · exact absurd h2.2 (i32_nlt q)
  · exact q
def isT (σ : Sg) (x : Int32) : Bool := decide (¬ x < 0 ∧ x < nI (gT σ))
theorem isT_n {σ : Sg} {t : Nat} (hK : gT σ ≤ 24) (hi : t < gT σ) : isT σ (nI t) = true := decide_eq_true ⟨nI_pos (by omega), (nI_ltI (by omega) (by omega)).mpr hi⟩
/-- by how many hops node x heard tale y -/
def hrA (σ : Sg) (x y : Int32) : Int32 := if isN σ x && isT σ y then onv (nHo (gN σ x.toNatClampNeg) y.toNatClampNeg) else -1
theorem hrA_x {σ : Sg} {x y : Int32} (h : isN σ x = false) : hrA σ x y = -1 := by simp [hrA, h]
theorem hrA_y {σ : Sg} {x y : Int32} (h : isT σ y = false) : hrA σ x y = -1 := by simp [hrA, h]
theorem hrA_n {σ : Sg} {i t : Nat} (hK : gK σ ≤ 16) (hT : gT σ ≤ 24) (hi : i < gK σ) (ht : t < gT σ) : hrA σ (nI i) (nI t) = onv (nHo (gN σ i) t) := by
  simp only [hrA, isN_n hK hi, isT_n hT ht, Bool.and_self, if_true]
  rw [nI_clamp (by omega), nI_clamp (by omega)]
/-- how many live ones heard tale x -/
def spA (σ : Sg) (x : Int32) : Int32 := if isT σ x then nI (ct (fun i => lvd σ i && (nHo (gN σ i) x.toNatClampNeg).isSome) (gK σ)) else -1
theorem spA_x {σ : Sg} {x : Int32} (h : isT σ x = false) : spA σ x = -1 := by simp [spA, h]
theorem spA_n {σ : Sg} {t : Nat} (hT : gT σ ≤ 24) (ht : t < gT σ) : spA σ (nI t) = nI (ct (fun i => lvd σ i && (nHo (gN σ i) t).isSome) (gK σ)) := by
  simp only [spA, isT_n hT ht, if_true]
  rw [nI_clamp (by omega)]
theorem NW.upT {B K T i : Nat} {z : Sz} {d : Nd} (n : NW B K T z i d) : NW B K (T + 1) z i d := by
  obtain ⟨a1, a2, a3, a4, a5, a6, a7, a8, a9, a10, a11, a12⟩ := n
  exact ⟨a1, a2, a3, a4, a5, a6, a7, a8, fun t h e => ⟨(a9 t h e).1, Nat.lt_succ_of_lt (a9 t h e).2⟩, fun t h tl e => ⟨Nat.lt_succ_of_lt (a10 t h tl e).1, (a10 t h tl e).2⟩, a11, a12⟩
theorem sT_SW {B : Nat} {cs : List Nat} {σ : Sg} (h : SW B cs σ) (ht : gT σ < 24) : SW B cs (sT σ (gT σ + 1)) := by
  refine ⟨h.1, h.2.1, Nat.succ_le_of_lt ht, h.2.2.2.1, fun i hi => (h.nw hi).upT, fun t hu => ?_, h.2.2.2.2.2.2⟩
  obtain ⟨a1, a2, a3, a4, a5, a6, a7, a8, a9⟩ := h.2.2.2.2.2.1 t hu
  exact ⟨a1, a2, a3, a4, a5, a6, a7, fun e => Nat.lt_succ_of_lt (a8 e), a9⟩
theorem rg_ex {x : Int32} {lo hi : Nat} (hb : hi + 1 < 2 ^ 31) (hl : lo < 2 ^ 31) (h1 : ¬ x < nI lo) (h2 : ¬ nI hi < x) : ∃ n, lo ≤ n ∧ n ≤ hi ∧ x = nI n := by
  have k1 : nI lo ≤ x := i32_le h1
  have k2 : x ≤ nI hi := i32_le h2
  rcases pk_ix x (n := hi + 1) hb with q | q | ⟨j, hj, rfl⟩
  · exact absurd q (i32_nlt (i32_trans (i32_le (nI_pos hl)) k1))
  · exact absurd ((nI_ltI (by omega) (by omega)).mpr (show hi < hi + 1 by omega)) (i32_nlt (i32_trans q k2))
  · exact ⟨j, (nI_leI (by omega) (by omega)).mp k1, by omega, rfl⟩
/-- the first letter comes, up to n times: the state, how often -/
def gos (cs : List Nat) : Nat → Sg → Sg × Nat
  | 0, σ => (σ, 0)
  | n + 1, σ => match (gR σ)[0]? with
    | none => (σ, 0)
    | some t => ((gos cs n (cme cs σ 0 t)).1, (gos cs n (cme cs σ 0 t)).2 + 1)
theorem gos_e {cs : List Nat} {n : Nat} {σ : Sg} (h : (gR σ).length = 0) : gos cs n σ = (σ, 0) := by
  cases n with
  | zero => rfl
  | succ n =>
    have e : (gR σ)[0]? = none := List.getElem?_eq_none (by omega)
    simp only [gos, e]
theorem gos_s {cs : List Nat} {n d : Nat} {σ : Sg} {t : Lt} (hd : d < n) (h : (gR σ)[0]? = some t) : (gos cs (n - d) σ).1 = (gos cs (n - (d + 1)) (cme cs σ 0 t)).1 ∧ (gos cs (n - d) σ).2 = (gos cs (n - (d + 1)) (cme cs σ 0 t)).2 + 1 := by
  rw [show n - d = (n - (d + 1)) + 1 by omega]
  simp only [gos, h]
  exact ⟨trivial, trivial⟩
/-- how node j stands in node i's views -/
def hwA (σ : Sg) (i j : Nat) : Nat := if j ∈ nAc (gN σ i) then (if (nLz (gN σ i)).testBit j = true then 2 else 1) else if j ∈ nPa (gN σ i) then 3 else 0
def lsA (l : List Nat) (z : Int32) : Int32 := if z = -1 then nI l.length else nlAt (l.map nI) z
theorem pl_ex {x : Int32} (h : decide (¬ x < 0 ∧ x < 2) = true) : ∃ k, k < 2 ∧ x = nI k := isK_ex (K := 2) (by omega) h
/-- a state is kept at place k -/
theorem VB.kp {A : Nat → Nat} {g g1 g2 : pM} {w k : Nat} {cs : List Nat} {σ : Sg} {ks : Nat → Option Sg} {r : Nat → Int32} (h : VB A g w cs σ ks) (hk : k < 2) (hf : FrV g g1 (w + 5000 + 5000 * k)) (hW : WD A g1 (w + 5000 + 5000 * k) (w + 15005) σ) (hr : g (w + 15009) = ai 1 2 r) (hr2 : ∀ k, k < 2 → r k = b32 (ks k).isSome) (hg : g2 = va_up g1 (w + 15009) (ai 1 2 (upd r k 1))) : VB A g2 w cs σ (va_up ks k (some σ)) := by
  obtain ⟨h1, h2, ⟨pl, ll, v1, v2, v3, v4, v5⟩, h4, -, h7⟩ := h
  have e : ∀ c, c < w + 5000 + 5000 * k ∨ w + 5000 + 5000 * k + 5000 ≤ c → c ≠ w + 15009 → g2 c = g c := fun c hc hn => by
    rw [hg, va_up_ne _ _ hn]
    exact hf c (by omega)
  have f2 : Fr g1 g2 (w + 15009) (w + 15010) := by rw [hg]; exact Fr.up (by omega) (by omega)
  refine ⟨(e _ (by omega) (by omega)).trans h1, (e _ (by omega) (by omega)).trans h2, ⟨pl, ll, (e _ (by omega) (by omega)).trans v1, v2.fr' (fun c c1 c2 => e c (by omega) (by omega)), ?_, v4.fr' (fun c c1 c2 => e c (by omega) (by omega)), v5.fr' (fun c c1 c2 => e c (by omega) (by omega))⟩, (e _ (by omega) (by omega)).trans h4, ⟨_, by rw [hg]; exact va_up_self _ _ _, fun j hj => ?_⟩, fun j hj => ?_⟩
  · obtain ⟨c1, c2, c3, row, c4, c5⟩ := v3
    exact ⟨c1, c2, (e _ (by omega) (by omega)).trans c3, row, (e _ (by omega) (by omega)).trans c4, c5⟩
  · by_cases q : j = k
    · subst q
      rw [va_up_self]
      simp [upd, b32]
    · rw [va_up_ne _ _ q]
      simp only [upd, if_neg q]
      exact hr2 j hj
  · by_cases q : j = k
    · subst q
      exact ⟨σ, hW.fr f2 (by omega), fun s hs => by rw [va_up_self] at hs; exact (Option.some.inj hs).symm⟩
    · obtain ⟨s, m1, m2⟩ := h7 j hj
      exact ⟨s, m1.fr' (fun c c1 c2 => e c (by omega) (by omega)), fun s2 hs => by rw [va_up_ne _ _ q] at hs; exact m2 s2 hs⟩
theorem ps_ex {x : Int32} (h : ¬ x < 0) : ∃ v, v < 2 ^ 31 ∧ x = nI v := by
  rcases pk_ix x (n := 2147483647) (by omega) with q | q | ⟨j, hj, rfl⟩
  · exact absurd q h
  · refine ⟨2147483647, by omega, Int32.toInt.inj ?_⟩
    have h3 := Int32.le_iff_toInt_le.mp q
    have h4 := Int32.toInt_lt x
    rw [nI_toInt (by omega)] at h3 ⊢
    omega
  · exact ⟨j, by omega, rfl⟩
/-- a call that changes the coins alone -/
theorem VB.c {A : Nat → Nat} {g g' : pM} {w : Nat} {cs cs' : List Nat} {σ : Sg} {ks : Nat → Option Sg} (h : VB A g w cs σ ks) (hf : Fr g g' (w + 15005) (w + 15007)) (hC : CO A g' (w + 15005) cs') : VB A g' w cs' σ ks := by
  obtain ⟨h1, h2, ⟨pl, ll, v1, v2, v3, v4, v5⟩, h4, ⟨r, h5, h6⟩, h7⟩ := h
  refine ⟨hf.at (by omega) h1, hf.at (by omega) h2, ⟨pl, ll, hf.at (by omega) v1, v2.fr hf (by omega), hC, v4.fr hf (by omega), v5.fr hf (by omega)⟩, hf.at (by omega) h4, ⟨r, hf.at (by omega) h5, h6⟩, fun k hk => ?_⟩
  obtain ⟨s, m1, m2⟩ := h7 k hk
  exact ⟨s, m1.fr hf (by omega), m2⟩
def toA (cs : List Nat) (σ : Sg) (k : Nat) : Int32 := match k with
  | 0 => nI (gK σ)
  | 1 => nI (ct (fun i => lvd σ i) (gK σ))
  | 2 => nI (gR σ).length
  | 3 => gS σ
  | 4 => nI (gT σ)
  | 5 => gTi σ
  | 6 => nI cs.length
  | 7 => nI (gX σ)
  | _ => -2
def abA (σ : Sg) (i k : Nat) : Int32 := match k with
  | 0 => b32 (lvd σ i)
  | 1 => onv (nAs (gN σ i))
  | 2 => nI (nAk (gN σ i))
  | 3 => nI (ct (fun t => (nHo (gN σ i) t).isSome) 24)
  | 4 => nI (ct (fun t => (nMi (gN σ i) t).isSome) 24)
  | 5 => nGo (gN σ i)
  | _ => -2
def leK (t : Lt) (k : Nat) : Int32 := match k with
  | 0 => nI t.1
  | 1 => nI t.2.1
  | 2 => nI t.2.2.1
  | 3 => nI t.2.2.2.1
  | 4 => nI t.2.2.2.2.1
  | 5 => nI t.2.2.2.2.2.length
  | _ => -2
abbrev rm_X10_refusedActor : Room := { frames := 2, cells := 0, slots := 0, locals := 42 }
theorem Y_X10_refusedActor : pY yX10_refusedActor cX10_refusedActor 2 (Option.some Jvm.ClassFile.FieldType.int) := ⟨u_418, us_0, u_1, u_419⟩
theorem N_X10_refusedActor : yX10_refusedActor.cls ≠ "java/lang/invoke/MethodHandle" ∧ yX10_refusedActor.cls ≠ "java/lang/invoke/VarHandle" ∧ (parseMethodDescriptor yX10_refusedActor.desc).map (fun d => d.parameters.length) = some 1 := by decide +kernel
set_option maxRecDepth 20000 in
set_option maxHeartbeats 4000000 in
theorem c_X10_refusedActor (A : Nat → Nat) (P : List Nat) (g : pM) (w : Nat) {σ : Sg} (x : Int32) (hO : g (w + 15010) = vOb A w) (hW : WD A g w (w + 15005) σ) : PM yX10_refusedActor cX10_refusedActor 2 (Option.some Jvm.ClassFile.FieldType.int) rm_X10_refusedActor [.ref (A (w + 15010)), .int x] P A g (fun v g' => v = some (.int (rfA σ x)) ∧ g = g') := by
  have hK := hW.k16
  refine px_intro (by decide +kernel) (Nat.le_of_ble_eq_true rfl) (fun K sz C R => ?_)
  show V K 0 0 P A g [(0, .ref (A (w + 15010))), (1, .int x)] 0 []
  refine g_aload_n (pc := 0) C dX10_refusedActor_0 0 rfl ?_
  refine g_get (pc := 1) C (j := 1) hO rfl rfl (by decide) u_325 dX10_refusedActor_1 ?_
  refine g_iload_n (pc := 4) C dX10_refusedActor_4 1 rfl ?_
  refine g_callV (pc := 5) C (As := [.int x]) (rest := []) (b := w) (c_X9_isNode A P g w x (WD.wb hW)) (WD.wb hW).1 rfl rfl Y_X9_isNode u_385 N_X9_isNode ⟨by decide, by decide⟩ ⟨by decide, by decide⟩ (Nat.le_of_ble_eq_true rfl) rfl dX10_refusedActor_5 ?_
  rintro _ _ _ _ ⟨rfl, rfl, rfl, rfl⟩
  show V K 0 0 P A g [(0, .ref (A (w + 15010))), (1, .int x)] 8 [.int (b32 (decide (¬ x < 0 ∧ x < nI (gK σ))))]
  refine g_if_ne (pc := 8) C dX10_refusedActor_8 (tgt := 13) (by decide) (fun c_8 => ?_) (fun c_8 => ?_)
  ·
    obtain ⟨i, hi, rfl⟩ := isN_ex hK (b32_no c_8)
    refine g_aload_n (pc := 13) C dX10_refusedActor_13 0 rfl ?_
    refine g_get (pc := 14) C (j := 1) hO rfl rfl (by decide) u_325 dX10_refusedActor_14 ?_
    refine g_iload_n (pc := 17) C dX10_refusedActor_17 1 rfl ?_
    refine g_callV (pc := 18) C (As := [.int (nI i)]) (rest := []) (b := w) (c_X9_nodeAt A P g w i (by omega) (WD.wb hW)) (WD.wb hW).1 rfl rfl Y_X9_nodeAt u_389 N_X9_nodeAt ⟨by decide, by decide⟩ ⟨by decide, by decide⟩ (Nat.le_of_ble_eq_true rfl) rfl dX10_refusedActor_18 ?_
    rintro _ _ _ _ ⟨rfl, rfl, rfl, rfl⟩
    show V K 0 0 P A g [(0, .ref (A (w + 15010))), (1, .int (nI i))] 21 [.ref (A (w + 100 + 100 * i))]
    refine g_get (pc := 21) C (j := 1) (WD.nd (i := i) hW (by omega)).1 rfl rfl (by decide) u_134 dX10_refusedActor_21 ?_
    refine g_if_eq (pc := 24) C dX10_refusedActor_24 (tgt := 31) (by decide) (fun c_24 => ?_) (fun c_24 => ?_)
    ·
      refine g_bipush (pc := 31) C dX10_refusedActor_31 (v := (-3)) rfl ?_
      exact g_iret (pc := 33) C R ⟨rfl, rfl, by rw [rfA_n hK hi, show lvd σ i = false from b32_yes c_24]; rfl, rfl⟩ (by decide) (by decide) dX10_refusedActor_33
    ·
      refine g_iconst (pc := 27) C dX10_refusedActor_27 (v := nI 0) rfl ?_
      refine g_goto (pc := 28) C dX10_refusedActor_28 (tgt := 33) (by decide) ?_
      exact g_iret (pc := 33) C R ⟨rfl, rfl, by rw [rfA_n hK hi, show lvd σ i = true from b32_no c_24]; rfl, rfl⟩ (by decide) (by decide) dX10_refusedActor_33
  ·
    refine g_iconst (pc := 11) C dX10_refusedActor_11 (v := (-1)) rfl ?_
    exact g_iret (pc := 12) C R ⟨rfl, rfl, by rw [rfA_no (b32_yes c_8)], rfl⟩ (by decide) (by decide) dX10_refusedActor_12
abbrev rm_X10_isPlace : Room := { frames := 0, cells := 0, slots := 0, locals := 0 }
theorem N_X10_isPlace : yX10_isPlace.cls ≠ "java/lang/invoke/MethodHandle" ∧ yX10_isPlace.cls ≠ "java/lang/invoke/VarHandle" ∧ (parseMethodDescriptor yX10_isPlace.desc).map (fun d => d.parameters.length) = some 1 := by decide +kernel
set_option maxRecDepth 20000 in
set_option maxHeartbeats 4000000 in
theorem c_X10_isPlace (A : Nat → Nat) (P : List Nat) (g : pM) (x : Int32) : PM yX10_isPlace cX10_isPlace 1 (Option.some Jvm.ClassFile.FieldType.boolean) rm_X10_isPlace [.int x] P A g (fun v g' => v = some (.int (b32 (decide (¬ x < 0 ∧ x < 2)))) ∧ g = g') := by
  refine px_intro (by decide +kernel) (Nat.le_of_ble_eq_true rfl) (fun K sz C R => ?_)
  show V K 0 0 P A g [(0, .int x)] 0 []
  refine g_iload_n (pc := 0) C dX10_isPlace_0 0 rfl ?_
  refine g_if_lt (pc := 1) C dX10_isPlace_1 (tgt := 13) (by decide) (fun c_1 => ?_) (fun c_1 => ?_)
  ·
    refine g_iconst (pc := 13) C dX10_isPlace_13 (v := nI 0) rfl ?_
    exact g_zret (pc := 14) C R (Or.inl rfl) ⟨rfl, rfl, by rw [decide_eq_false (fun q => q.1 c_1)]; rfl, rfl⟩ (by decide) (by decide) dX10_isPlace_14
  ·
    refine g_iload_n (pc := 4) C dX10_isPlace_4 0 rfl ?_
    refine g_iconst (pc := 5) C dX10_isPlace_5 (v := nI 2) rfl ?_
    refine g_icmp_ge (pc := 6) C dX10_isPlace_6 (tgt := 13) (by decide) (fun c_6 => ?_) (fun c_6 => ?_)
    ·
      refine g_iconst (pc := 13) C dX10_isPlace_13 (v := nI 0) rfl ?_
      exact g_zret (pc := 14) C R (Or.inl rfl) ⟨rfl, rfl, by rw [decide_eq_false (fun q => i32_nlt c_6 q.2)]; rfl, rfl⟩ (by decide) (by decide) dX10_isPlace_14
    ·
      refine g_iconst (pc := 9) C dX10_isPlace_9 (v := nI 1) rfl ?_
      refine g_goto (pc := 10) C dX10_isPlace_10 (tgt := 14) (by decide) ?_
      exact g_zret (pc := 14) C R (Or.inr rfl) ⟨rfl, rfl, by rw [decide_eq_true ⟨c_1, i32_lt c_6⟩]; rfl, rfl⟩ (by decide) (by decide) dX10_isPlace_14
abbrev rm_X10_node : Room := { frames := 4, cells := 0, slots := 0, locals := 81 }
theorem Y_X10_node : pY yX10_node cX10_node 1 (Option.some Jvm.ClassFile.FieldType.int) := ⟨u_361, u_362, u_1, u_363⟩
theorem N_X10_node : yX10_node.cls ≠ "java/lang/invoke/MethodHandle" ∧ yX10_node.cls ≠ "java/lang/invoke/VarHandle" ∧ (parseMethodDescriptor yX10_node.desc).map (fun d => d.parameters.length) = some 0 := by decide +kernel
set_option maxRecDepth 20000 in
set_option maxHeartbeats 4000000 in
theorem c_X10_node (A : Nat → Nat) (P : List Nat) (g : pM) (w : Nat) {B : Nat} {cs : List Nat} {σ : Sg} {ks : Nat → Option Sg} (hS : SW B cs σ) (hX : VB A g w cs σ ks) : PM yX10_node cX10_node 1 (Option.some Jvm.ClassFile.FieldType.int) rm_X10_node [.ref (A (w + 15010))] P A g (fun v g' => (16 ≤ gK σ ∧ v = some (.int (-4)) ∧ g = g') ∨ (gK σ < 16 ∧ v = some (.int (nI (gK σ))) ∧ VB A g' w cs (sK (sNd σ (gK σ) nd0) (gK σ + 1)) ks)) := by
  obtain ⟨hO, hT, ⟨pl, ll, hV, hW, hC, hP, hL⟩, hXr⟩ := id hX
  have hK := hW.k16
  refine px_intro (by decide +kernel) (Nat.le_of_ble_eq_true rfl) (fun K sz C R => ?_)
  show V K 0 0 P A g [(0, .ref (A (w + 15010)))] 0 []
  refine g_aload_n (pc := 0) C dX10_node_0 0 rfl ?_
  refine g_get (pc := 1) C (j := 1) hO rfl rfl (by decide) u_325 dX10_node_1 ?_
  refine g_callV (pc := 4) C (As := []) (rest := []) (b := w) (c_X9_openNode A P g w hW) (WD.wb hW).1 rfl rfl Y_X9_openNode u_364 N_X9_openNode ⟨by decide, by decide⟩ ⟨by decide, by decide⟩ (Nat.le_of_ble_eq_true rfl) rfl dX10_node_4 ?_
  rintro v0 _ _ g1 ⟨rfl, rfl, hc⟩
  rcases hc with ⟨hfull, rfl, rfl⟩ | ⟨hroom, rfl, hW1, hf1⟩
  ·
    show V K 0 0 P A g [(0, .ref (A (w + 15010)))] 7 [.int (-4)]
    exact g_iret (pc := 7) C R ⟨rfl, rfl, Or.inl ⟨hfull, rfl, rfl⟩⟩ (by decide) (by decide) dX10_node_7
  ·
    show V K 0 0 P A g1 [(0, .ref (A (w + 15010)))] 7 [.int (nI (gK σ))]
    exact g_iret (pc := 7) C R ⟨rfl, rfl, Or.inr ⟨hroom, rfl, hX.v hf1 hW1⟩⟩ (by decide) (by decide) dX10_node_7
abbrev rm_X10_stop : Room := { frames := 5, cells := 0, slots := 0, locals := 112 }
theorem Y_X10_stop : pY yX10_stop cX10_stop 3 (Option.some Jvm.ClassFile.FieldType.int) := ⟨u_413, u_414, u_1, u_415⟩
theorem N_X10_stop : yX10_stop.cls ≠ "java/lang/invoke/MethodHandle" ∧ yX10_stop.cls ≠ "java/lang/invoke/VarHandle" ∧ (parseMethodDescriptor yX10_stop.desc).map (fun d => d.parameters.length) = some 1 := by decide +kernel
set_option maxRecDepth 20000 in
set_option maxHeartbeats 4000000 in
theorem c_X10_stop (A : Nat → Nat) (P : List Nat) (g : pM) (w : Nat) {B : Nat} {cs : List Nat} {σ : Sg} {ks : Nat → Option Sg} (x : Int32) (hS : SW B cs σ) (hX : VB A g w cs σ ks) : PM yX10_stop cX10_stop 3 (Option.some Jvm.ClassFile.FieldType.int) rm_X10_stop [.ref (A (w + 15010)), .int x] P A g (fun v g' => (rfA σ x ≠ 0 ∧ v = some (.int (rfA σ x)) ∧ g = g') ∨ (∃ i, i < gK σ ∧ x = nI i ∧ lvd σ i = true ∧ v = some (.int (nI ((gR σ).length - ((gR σ).filter (fun t => !(t.2.1 == i))).length))) ∧ VB A g' w cs (hlt σ i) ks)) := by
  obtain ⟨hO, hT, ⟨pl, ll, hV, hW, hC, hP, hL⟩, hXr⟩ := id hX
  have hK := hW.k16
  refine px_intro (by decide +kernel) (Nat.le_of_ble_eq_true rfl) (fun K sz C R => ?_)
  show V K 0 0 P A g [(0, .ref (A (w + 15010))), (1, .int x)] 0 []
  refine g_aload_n (pc := 0) C dX10_stop_0 0 rfl ?_
  refine g_iload_n (pc := 1) C dX10_stop_1 1 rfl ?_
  refine g_callV (pc := 2) C (As := [.int x]) (rest := []) (b := (w + 15010)) (c_X10_refusedActor A P g w x hO hW) hO rfl rfl Y_X10_refusedActor u_416 N_X10_refusedActor ⟨by decide, by decide⟩ ⟨by decide, by decide⟩ (Nat.le_of_ble_eq_true rfl) rfl dX10_stop_2 ?_
  rintro _ _ _ _ ⟨rfl, rfl, rfl, rfl⟩
  show V K 0 0 P A g [(0, .ref (A (w + 15010))), (1, .int x)] 5 [.int (rfA σ x)]
  refine g_istore_n (pc := 5) C dX10_stop_5 (by decide) (lv' := [(0, .ref (A (w + 15010))), (1, .int x), (2, .int (rfA σ x))]) [1, 2, 0] rfl ?_
  refine g_iload_n (pc := 6) C dX10_stop_6 2 rfl ?_
  refine g_if_eq (pc := 7) C dX10_stop_7 (tgt := 14) (by decide) (fun c_7 => ?_) (fun c_7 => ?_)
  ·
    obtain ⟨i, hi, rfl, hlv⟩ := rfA_0 hK c_7
    refine g_aload_n (pc := 14) C dX10_stop_14 0 rfl ?_
    refine g_get (pc := 15) C (j := 1) hO rfl rfl (by decide) u_325 dX10_stop_15 ?_
    refine g_aload_n (pc := 18) C dX10_stop_18 0 rfl ?_
    refine g_get (pc := 19) C (j := 1) hO rfl rfl (by decide) u_325 dX10_stop_19 ?_
    refine g_iload_n (pc := 22) C dX10_stop_22 1 rfl ?_
    refine g_callV (pc := 23) C (As := [.int (nI i)]) (rest := [.ref (A w)]) (b := w) (c_X9_nodeAt A P g w i (by omega) (WD.wb hW)) (WD.wb hW).1 rfl rfl Y_X9_nodeAt u_389 N_X9_nodeAt ⟨by decide, by decide⟩ ⟨by decide, by decide⟩ (Nat.le_of_ble_eq_true rfl) rfl dX10_stop_23 ?_
    rintro _ _ _ _ ⟨rfl, rfl, rfl, rfl⟩
    show V K 0 0 P A g [(0, .ref (A (w + 15010))), (1, .int (nI i)), (2, .int (rfA σ (nI i)))] 26 [.ref (A (w + 100 + 100 * i)), .ref (A w)]
    refine g_callV (pc := 26) C (As := [.ref (A (w + 100 + 100 * i))]) (rest := []) (b := w) (c_X9_halt A P g w i hi (fun m hm => hS.dw hm) hW) (WD.wb hW).1 rfl rfl Y_X9_halt u_420 N_X9_halt ⟨by decide, by decide⟩ ⟨by decide, by decide⟩ (Nat.le_of_ble_eq_true rfl) rfl dX10_stop_26 ?_
    rintro _ _ _ g1 ⟨rfl, rfl, rfl, hW1, hf1⟩
    show V K 0 0 P A g1 [(0, .ref (A (w + 15010))), (1, .int (nI i)), (2, .int (rfA σ (nI i)))] 29 [.int (nI ((gR σ).length - ((gR σ).filter (fun t => !(t.2.1 == i))).length))]
    exact g_iret (pc := 29) C R ⟨rfl, rfl, Or.inr ⟨i, hi, rfl, hlv, rfl, hX.v hf1.w hW1⟩⟩ (by decide) (by decide) dX10_stop_29
  ·
    refine g_iload_n (pc := 10) C dX10_stop_10 2 rfl ?_
    refine g_goto (pc := 11) C dX10_stop_11 (tgt := 29) (by decide) ?_
    exact g_iret (pc := 29) C R ⟨rfl, rfl, Or.inl ⟨c_7, rfl, rfl⟩⟩ (by decide) (by decide) dX10_stop_29
abbrev rm_X10_mix : Room := { frames := 5, cells := 0, slots := 0, locals := 120 }
theorem Y_X10_mix : pY yX10_mix cX10_mix 3 (Option.some Jvm.ClassFile.FieldType.int) := ⟨u_450, u_451, u_1, u_452⟩
theorem N_X10_mix : yX10_mix.cls ≠ "java/lang/invoke/MethodHandle" ∧ yX10_mix.cls ≠ "java/lang/invoke/VarHandle" ∧ (parseMethodDescriptor yX10_mix.desc).map (fun d => d.parameters.length) = some 1 := by decide +kernel
set_option maxRecDepth 20000 in
set_option maxHeartbeats 4000000 in
theorem c_X10_mix (A : Nat → Nat) (P : List Nat) (g : pM) (w : Nat) {B : Nat} {cs : List Nat} {σ : Sg} {ks : Nat → Option Sg} (x : Int32) (hS : SW B cs σ) (hX : VB A g w cs σ ks) : PM yX10_mix cX10_mix 3 (Option.some Jvm.ClassFile.FieldType.int) rm_X10_mix [.ref (A (w + 15010)), .int x] P A g (fun v g' => (rfA σ x ≠ 0 ∧ v = some (.int (rfA σ x)) ∧ g = g') ∨ (∃ i, i < gK σ ∧ x = nI i ∧ lvd σ i = true ∧ v = some (.int (match (bgm cs σ i).1 with | none => -5 | some q => nI q)) ∧ VB A g' w cs (bgm cs σ i).2 ks)) := by
  obtain ⟨hO, hT, ⟨pl, ll, hV, hW, hC, hP, hL⟩, hXr⟩ := id hX
  have hK := hW.k16
  refine px_intro (by decide +kernel) (Nat.le_of_ble_eq_true rfl) (fun K sz C R => ?_)
  show V K 0 0 P A g [(0, .ref (A (w + 15010))), (1, .int x)] 0 []
  refine g_aload_n (pc := 0) C dX10_mix_0 0 rfl ?_
  refine g_iload_n (pc := 1) C dX10_mix_1 1 rfl ?_
  refine g_callV (pc := 2) C (As := [.int x]) (rest := []) (b := (w + 15010)) (c_X10_refusedActor A P g w x hO hW) hO rfl rfl Y_X10_refusedActor u_416 N_X10_refusedActor ⟨by decide, by decide⟩ ⟨by decide, by decide⟩ (Nat.le_of_ble_eq_true rfl) rfl dX10_mix_2 ?_
  rintro _ _ _ _ ⟨rfl, rfl, rfl, rfl⟩
  show V K 0 0 P A g [(0, .ref (A (w + 15010))), (1, .int x)] 5 [.int (rfA σ x)]
  refine g_istore_n (pc := 5) C dX10_mix_5 (by decide) (lv' := [(0, .ref (A (w + 15010))), (1, .int x), (2, .int (rfA σ x))]) [1, 2, 0] rfl ?_
  refine g_iload_n (pc := 6) C dX10_mix_6 2 rfl ?_
  refine g_if_eq (pc := 7) C dX10_mix_7 (tgt := 14) (by decide) (fun c_7 => ?_) (fun c_7 => ?_)
  ·
    obtain ⟨i, hi, rfl, hlv⟩ := rfA_0 hK c_7
    refine g_aload_n (pc := 14) C dX10_mix_14 0 rfl ?_
    refine g_get (pc := 15) C (j := 2) hO rfl rfl (by decide) u_326 dX10_mix_15 ?_
    refine g_aload_n (pc := 18) C dX10_mix_18 0 rfl ?_
    refine g_get (pc := 19) C (j := 1) hO rfl rfl (by decide) u_325 dX10_mix_19 ?_
    refine g_iload_n (pc := 22) C dX10_mix_22 1 rfl ?_
    refine g_callV (pc := 23) C (As := [.int (nI i)]) (rest := [.ref (A (w + 15000))]) (b := w) (c_X9_nodeAt A P g w i (by omega) (WD.wb hW)) (WD.wb hW).1 rfl rfl Y_X9_nodeAt u_389 N_X9_nodeAt ⟨by decide, by decide⟩ ⟨by decide, by decide⟩ (Nat.le_of_ble_eq_true rfl) rfl dX10_mix_23 ?_
    rintro _ _ _ _ ⟨rfl, rfl, rfl, rfl⟩
    show V K 0 0 P A g [(0, .ref (A (w + 15010))), (1, .int (nI i)), (2, .int (rfA σ (nI i)))] 26 [.ref (A (w + 100 + 100 * i)), .ref (A (w + 15000))]
    refine g_callV (pc := 26) C (As := [.ref (A (w + 100 + 100 * i))]) (rest := []) (b := (w + 15000)) (c_X8_beginMix A P g w i hi hS ⟨hV, hW, hC, hP, hL⟩) hV rfl rfl Y_X8_beginMix u_453 N_X8_beginMix ⟨by decide, by decide⟩ ⟨by decide, by decide⟩ (Nat.le_of_ble_eq_true rfl) rfl dX10_mix_26 ?_
    rintro _ _ _ g1 ⟨rfl, rfl, rfl, hv1, hf1⟩
    show V K 0 0 P A g1 [(0, .ref (A (w + 15010))), (1, .int (nI i)), (2, .int (rfA σ (nI i)))] 29 [.int (match (bgm cs σ i).1 with | none => -5 | some q => nI q)]
    exact g_iret (pc := 29) C R ⟨rfl, rfl, Or.inr ⟨i, hi, rfl, hlv, rfl, hX.t hf1.t hv1⟩⟩ (by decide) (by decide) dX10_mix_29
  ·
    refine g_iload_n (pc := 10) C dX10_mix_10 2 rfl ?_
    refine g_goto (pc := 11) C dX10_mix_11 (tgt := 29) (by decide) ?_
    exact g_iret (pc := 29) C R ⟨rfl, rfl, Or.inl ⟨c_7, rfl, rfl⟩⟩ (by decide) (by decide) dX10_mix_29
abbrev rm_X10_tick : Room := { frames := 7, cells := 0, slots := 0, locals := 164 }
theorem Y_X10_tick : pY yX10_tick cX10_tick 1 (Option.some Jvm.ClassFile.FieldType.int) := ⟨u_529, u_530, u_1, u_531⟩
theorem N_X10_tick : yX10_tick.cls ≠ "java/lang/invoke/MethodHandle" ∧ yX10_tick.cls ≠ "java/lang/invoke/VarHandle" ∧ (parseMethodDescriptor yX10_tick.desc).map (fun d => d.parameters.length) = some 0 := by decide +kernel
set_option maxRecDepth 20000 in
set_option maxHeartbeats 4000000 in
theorem c_X10_tick (A : Nat → Nat) (P : List Nat) (g : pM) (w : Nat) {B : Nat} {cs : List Nat} {σ : Sg} {ks : Nat → Option Sg} (hS : SW B cs σ) (hX : VB A g w cs σ ks) : PM yX10_tick cX10_tick 1 (Option.some Jvm.ClassFile.FieldType.int) rm_X10_tick [.ref (A (w + 15010))] P A g (fun v g' => v = some (.int (gTi (pss σ))) ∧ VB A g' w cs (pss σ) ks) := by
  obtain ⟨hO, hT, ⟨pl, ll, hV, hW, hC, hP, hL⟩, hXr⟩ := id hX
  have hK := hW.k16
  refine px_intro (by decide +kernel) (Nat.le_of_ble_eq_true rfl) (fun K sz C R => ?_)
  show V K 0 0 P A g [(0, .ref (A (w + 15010)))] 0 []
  refine g_aload_n (pc := 0) C dX10_tick_0 0 rfl ?_
  refine g_get (pc := 1) C (j := 3) hO rfl rfl (by decide) u_327 dX10_tick_1 ?_
  refine g_callV (pc := 4) C (As := []) (rest := []) (b := (w + 15007)) (c_X7_pass A P g w hS hT hW) hT rfl rfl Y_X7_pass u_532 N_X7_pass ⟨by decide, by decide⟩ ⟨by decide, by decide⟩ (Nat.le_of_ble_eq_true rfl) rfl dX10_tick_4 ?_
  rintro _ _ _ g1 ⟨rfl, rfl, rfl, hW1, hf1⟩
  show V K 0 0 P A g1 [(0, .ref (A (w + 15010)))] 7 [.int (gTi (pss σ))]
  exact g_iret (pc := 7) C R ⟨rfl, rfl, rfl, hX.v hf1.w hW1⟩ (by decide) (by decide) dX10_tick_7
abbrev rm_X10_tale : Room := { frames := 5, cells := 0, slots := 0, locals := 122 }
theorem Y_X10_tale : pY yX10_tale cX10_tale 4 (Option.some Jvm.ClassFile.FieldType.int) := ⟨u_507, u_508, u_1, u_509⟩
theorem N_X10_tale : yX10_tale.cls ≠ "java/lang/invoke/MethodHandle" ∧ yX10_tale.cls ≠ "java/lang/invoke/VarHandle" ∧ (parseMethodDescriptor yX10_tale.desc).map (fun d => d.parameters.length) = some 1 := by decide +kernel
set_option maxRecDepth 20000 in
set_option maxHeartbeats 4000000 in
theorem c_X10_tale (A : Nat → Nat) (P : List Nat) (g : pM) (w : Nat) {B : Nat} {cs : List Nat} {σ : Sg} {ks : Nat → Option Sg} (x : Int32) (hS : SW B cs σ) (hX : VB A g w cs σ ks) : PM yX10_tale cX10_tale 4 (Option.some Jvm.ClassFile.FieldType.int) rm_X10_tale [.ref (A (w + 15010)), .int x] P A g (fun v g' => (rfA σ x ≠ 0 ∧ v = some (.int (rfA σ x)) ∧ g = g') ∨ (∃ i, i < gK σ ∧ x = nI i ∧ lvd σ i = true ∧ ((24 ≤ gT σ ∧ v = some (.int (-4)) ∧ g = g') ∨ (gT σ < 24 ∧ v = some (.int (nI (gT σ))) ∧ VB A g' w cs (her (sT σ (gT σ + 1)) i (gT σ) 0 none) ks)))) := by
  obtain ⟨hO, hT, ⟨pl, ll, hV, hW, hC, hP, hL⟩, hXr⟩ := id hX
  have hK := hW.k16
  have hT24 := hS.2.2.1
  refine px_intro (by decide +kernel) (Nat.le_of_ble_eq_true rfl) (fun K sz C R => ?_)
  show V K 0 0 P A g [(0, .ref (A (w + 15010))), (1, .int x)] 0 []
  refine g_aload_n (pc := 0) C dX10_tale_0 0 rfl ?_
  refine g_iload_n (pc := 1) C dX10_tale_1 1 rfl ?_
  refine g_callV (pc := 2) C (As := [.int x]) (rest := []) (b := (w + 15010)) (c_X10_refusedActor A P g w x hO hW) hO rfl rfl Y_X10_refusedActor u_416 N_X10_refusedActor ⟨by decide, by decide⟩ ⟨by decide, by decide⟩ (Nat.le_of_ble_eq_true rfl) rfl dX10_tale_2 ?_
  rintro _ _ _ _ ⟨rfl, rfl, rfl, rfl⟩
  show V K 0 0 P A g [(0, .ref (A (w + 15010))), (1, .int x)] 5 [.int (rfA σ x)]
  refine g_istore_n (pc := 5) C dX10_tale_5 (by decide) (lv' := [(0, .ref (A (w + 15010))), (1, .int x), (2, .int (rfA σ x))]) [1, 2, 0] rfl ?_
  refine g_iload_n (pc := 6) C dX10_tale_6 2 rfl ?_
  refine g_if_eq (pc := 7) C dX10_tale_7 (tgt := 12) (by decide) (fun c_7 => ?_) (fun c_7 => ?_)
  ·
    obtain ⟨i, hi, rfl, hlv⟩ := rfA_0 hK c_7
    refine g_aload_n (pc := 12) C dX10_tale_12 0 rfl ?_
    refine g_get (pc := 13) C (j := 1) hO rfl rfl (by decide) u_325 dX10_tale_13 ?_
    refine g_get (pc := 16) C (j := 8) (WD.wb hW).1 rfl rfl (by decide) u_263 dX10_tale_16 ?_
    refine g_bipush (pc := 19) C dX10_tale_19 (v := nI 24) rfl ?_
    refine g_icmp_lt (pc := 21) C dX10_tale_21 (tgt := 27) (by decide) (fun c_21 => ?_) (fun c_21 => ?_)
    ·
      have c_21 : (gT σ) < 24 := (nI_ltI (by omega) (by omega)).mp c_21
      refine g_aload_n (pc := 27) C dX10_tale_27 0 rfl ?_
      refine g_get (pc := 28) C (j := 1) hO rfl rfl (by decide) u_325 dX10_tale_28 ?_
      refine g_get (pc := 31) C (j := 8) (WD.wb hW).1 rfl rfl (by decide) u_263 dX10_tale_31 ?_
      refine g_istore_n (pc := 34) C dX10_tale_34 (by decide) (lv' := [(0, .ref (A (w + 15010))), (1, .int (nI i)), (2, .int (rfA σ (nI i))), (3, .int (nI (gT σ)))]) [1, 2, 3, 0] rfl ?_
      refine g_aload_n (pc := 35) C dX10_tale_35 0 rfl ?_
      refine g_get (pc := 36) C (j := 1) hO rfl rfl (by decide) u_325 dX10_tale_36 ?_
      refine g_dup (pc := 39) C dX10_tale_39 rfl ?_
      refine g_get (pc := 40) C (j := 8) (WD.wb hW).1 rfl rfl (by decide) u_263 dX10_tale_40 ?_
      refine g_iconst (pc := 43) C dX10_tale_43 (v := nI 1) rfl ?_
      refine g_iadd (pc := 44) C dX10_tale_44 (z := nI (gT σ + 1)) (nI_add _ _) ?_
      refine g_put (pc := 45) C (j := 8) (WD.wb hW).1 rfl (by decide) (Nat.le_of_ble_eq_true rfl) u_263 rfl pfd_I rfl rfl dX10_tale_45 ?_
      obtain ⟨g_1, hg_1⟩ : ∃ yM : pM, yM = va_up g w (ob 9 [.ref (A (w + 15005)), .ref (A (w + 1)), .ref (A (w + 2)), .ref (A (w + 1700)), .ref (A (w + 3)), .ref (A (w + 6)), .ref (A (w + 5)), .int (nI (gK σ)), .int (nI (gT σ + 1)), .int (gTi σ), .int (nI (gX σ))]) := ⟨_, rfl⟩
      show V K 0 0 P A (va_up g w (ob 9 [.ref (A (w + 15005)), .ref (A (w + 1)), .ref (A (w + 2)), .ref (A (w + 1700)), .ref (A (w + 3)), .ref (A (w + 6)), .ref (A (w + 5)), .int (nI (gK σ)), .int (nI (gT σ + 1)), .int (gTi σ), .int (nI (gX σ))])) [(0, .ref (A (w + 15010))), (1, .int (nI i)), (2, .int (rfA σ (nI i))), (3, .int (nI (gT σ)))] 48 []
      rw [← hg_1]
      have h_2 : g_1 (w + 15010) = ob 10 [.ref (A (w + 15005)), .ref (A w), .ref (A (w + 15000)), .ref (A (w + 15007)), .ref (A (w + 15008)), .ref (A (w + 15009))] := by rw [hg_1, va_up_ne _ _ (show w + 15010 ≠ w from by omega)]; exact hO
      have h_3 : g_1 (w + 15007) = ob 7 [.ref (A w)] := by rw [hg_1, va_up_ne _ _ (show w + 15007 ≠ w from by omega)]; exact hT
      have h_4 : g_1 (w + 15000) = ob 8 [.ref (A w), .ref (A (w + 1)), .ref (A (w + 15001)), .ref (A (w + 15003))] := by rw [hg_1, va_up_ne _ _ (show w + 15000 ≠ w from by omega)]; exact hV
      have hW_5 : WD A g_1 w (w + 15005) (sT σ (gT σ + 1)) := WD.ob hW hg_1 rfl rfl rfl rfl rfl rfl (by first | exact hW.2.2.2.2.2.2.2.2 | omega | exact Nat.succ_le_of_lt (by assumption))
      have hf_6 : Fr g g_1 w (w + 1) := by rw [hg_1]; exact Fr.up (by omega) (by omega)
      have hp_7 := CO.fr hC hf_6 (by omega)
      have hp_8 := NLN.fr hP hf_6 (by omega)
      have hp_9 := NLN.fr hL hf_6 (by omega)
      refine g_aload_n (pc := 48) C dX10_tale_48 0 rfl ?_
      refine g_get (pc := 49) C (j := 3) h_2 rfl rfl (by decide) u_327 dX10_tale_49 ?_
      refine g_aload_n (pc := 52) C dX10_tale_52 0 rfl ?_
      refine g_get (pc := 53) C (j := 1) h_2 rfl rfl (by decide) u_325 dX10_tale_53 ?_
      refine g_iload_n (pc := 56) C dX10_tale_56 1 rfl ?_
      refine g_callV (pc := 57) C (As := [.int (nI i)]) (rest := [.ref (A (w + 15007))]) (b := w) (c_X9_nodeAt A P g_1 w i (by omega) (WD.wb hW_5)) (WD.wb hW_5).1 rfl rfl Y_X9_nodeAt u_389 N_X9_nodeAt ⟨by decide, by decide⟩ ⟨by decide, by decide⟩ (Nat.le_of_ble_eq_true rfl) rfl dX10_tale_57 ?_
      rintro _ _ _ _ ⟨rfl, rfl, rfl, rfl⟩
      show V K 0 0 P A g_1 [(0, .ref (A (w + 15010))), (1, .int (nI i)), (2, .int (rfA σ (nI i))), (3, .int (nI (gT σ)))] 60 [.ref (A (w + 100 + 100 * i)), .ref (A (w + 15007))]
      refine g_iload_n (pc := 60) C dX10_tale_60 3 rfl ?_
      refine g_iconst (pc := 61) C dX10_tale_61 (v := nI 0) rfl ?_
      refine g_bipush (pc := 62) C dX10_tale_62 (v := (-6)) rfl ?_
      refine g_callV (pc := 64) C (As := [.ref (A (w + 100 + 100 * i)), .int (nI (gT σ)), .int (nI 0), .int (-6)]) (rest := []) (b := (w + 15007)) (c_X7_hear A P g_1 w (σ := sT σ (gT σ + 1)) i (gT σ) 0 none hi (Nat.lt_succ_self _) (Nat.zero_le _) (fun x h => by cases h) (sT_SW hS c_21) h_3 hW_5) h_3 rfl rfl Y_X7_hear u_510 N_X7_hear ⟨by decide, by decide⟩ ⟨by decide, by decide⟩ (Nat.le_of_ble_eq_true rfl) rfl dX10_tale_64 ?_
      rintro _ _ _ g2 ⟨rfl, rfl, rfl, hW2, hf2⟩
      have hf0 : Fr g g_1 w (w + 5000) := fun k hk => by rw [hg_1, va_up_ne _ _ (by omega)]
      show V K 0 0 P A g2 [(0, .ref (A (w + 15010))), (1, .int (nI i)), (2, .int (rfA σ (nI i))), (3, .int (nI (gT σ)))] 67 []
      refine g_iload_n (pc := 67) C dX10_tale_67 3 rfl ?_
      exact g_iret (pc := 68) C R ⟨rfl, rfl, Or.inr ⟨i, hi, rfl, hlv, Or.inr ⟨c_21, rfl, hX.v (hf0.tr hf2.w) hW2⟩⟩⟩ (by decide) (by decide) dX10_tale_68
    ·
      have c_21 : ¬ (gT σ) < 24 := fun h => c_21 ((nI_ltI (a := (gT σ)) (b := 24) (by omega) (by omega)).mpr h)
      refine g_bipush (pc := 24) C dX10_tale_24 (v := (-4)) rfl ?_
      exact g_iret (pc := 26) C R ⟨rfl, rfl, Or.inr ⟨i, hi, rfl, hlv, Or.inl ⟨by omega, rfl, rfl⟩⟩⟩ (by decide) (by decide) dX10_tale_26
  ·
    refine g_iload_n (pc := 10) C dX10_tale_10 2 rfl ?_
    exact g_iret (pc := 11) C R ⟨rfl, rfl, Or.inl ⟨c_7, rfl, rfl⟩⟩ (by decide) (by decide) dX10_tale_11
abbrev rm_X10_deliver : Room := { frames := 7, cells := 0, slots := 0, locals := 169 }
theorem Y_X10_deliver : pY yX10_deliver cX10_deliver 2 (Option.some Jvm.ClassFile.FieldType.int) := ⟨u_557, u_558, u_1, u_559⟩
theorem N_X10_deliver : yX10_deliver.cls ≠ "java/lang/invoke/MethodHandle" ∧ yX10_deliver.cls ≠ "java/lang/invoke/VarHandle" ∧ (parseMethodDescriptor yX10_deliver.desc).map (fun d => d.parameters.length) = some 1 := by decide +kernel
set_option maxRecDepth 20000 in
set_option maxHeartbeats 4000000 in
theorem c_X10_deliver (A : Nat → Nat) (P : List Nat) (g : pM) (w : Nat) {B : Nat} {cs : List Nat} {σ : Sg} {ks : Nat → Option Sg} (x : Int32) (hB2 : B + 1 < 2 ^ 30) (hS : SW B cs σ) (hX : VB A g w cs σ ks) : PM yX10_deliver cX10_deliver 2 (Option.some Jvm.ClassFile.FieldType.int) rm_X10_deliver [.ref (A (w + 15010)), .int x] P A g (fun v g' => (decide (¬ x < 0 ∧ x < nI (gR σ).length) = false ∧ v = some (.int (-1)) ∧ g = g') ∨ (∃ i, i < (gR σ).length ∧ x = nI i ∧ ((cancome (gR σ) i = false ∧ v = some (.int (-5)) ∧ g = g') ∨ (cancome (gR σ) i = true ∧ ∃ t, (gR σ)[i]? = some t ∧ v = some (.int (nI t.2.2.1)) ∧ VB A g' w cs (cme cs σ i t) ks)))) := by
  obtain ⟨hO, hT, ⟨pl, ll, hV, hW, hC, hP, hL⟩, hXr⟩ := id hX
  have hK := hW.k16
  have hrl := hW.rw.le
  obtain ⟨fi, r, ρ, L, r1, r2, r3, r4, r5⟩ := hW.rw
  refine px_intro (by decide +kernel) (Nat.le_of_ble_eq_true rfl) (fun K sz C R => ?_)
  show V K 0 0 P A g [(0, .ref (A (w + 15010))), (1, .int x)] 0 []
  refine g_aload_n (pc := 0) C dX10_deliver_0 0 rfl ?_
  refine g_get (pc := 1) C (j := 1) hO rfl rfl (by decide) u_325 dX10_deliver_1 ?_
  refine g_get (pc := 4) C (j := 4) (WD.wb hW).1 rfl rfl (by decide) u_254 dX10_deliver_4 ?_
  refine g_iload_n (pc := 7) C dX10_deliver_7 1 rfl ?_
  refine g_callV (pc := 8) C (As := [.int x]) (rest := []) (b := (w + 3)) (c_X5_isLetter A P g w x hrl r2) (RW.ex (WD.rw hW)).choose_spec rfl rfl Y_X5_isLetter u_560 N_X5_isLetter ⟨by decide, by decide⟩ ⟨by decide, by decide⟩ (Nat.le_of_ble_eq_true rfl) rfl dX10_deliver_8 ?_
  rintro _ _ _ _ ⟨rfl, rfl, rfl, rfl⟩
  show V K 0 0 P A g [(0, .ref (A (w + 15010))), (1, .int x)] 11 [.int (b32 (decide (¬ x < 0 ∧ x < nI (gR σ).length)))]
  refine g_if_ne (pc := 11) C dX10_deliver_11 (tgt := 16) (by decide) (fun c_11 => ?_) (fun c_11 => ?_)
  ·
    obtain ⟨i, hi, rfl⟩ := isK_ex (by omega) (b32_no c_11)
    refine g_aload_n (pc := 16) C dX10_deliver_16 0 rfl ?_
    refine g_get (pc := 17) C (j := 1) hO rfl rfl (by decide) u_325 dX10_deliver_17 ?_
    refine g_get (pc := 20) C (j := 4) (WD.wb hW).1 rfl rfl (by decide) u_254 dX10_deliver_20 ?_
    refine g_iload_n (pc := 23) C dX10_deliver_23 1 rfl ?_
    refine g_callV (pc := 24) C (As := [.int (nI i)]) (rest := []) (b := (w + 3)) (c_X5_canCome A P g w i hi hW.rw) (RW.ex (WD.rw hW)).choose_spec rfl rfl Y_X5_canCome u_564 N_X5_canCome ⟨by decide, by decide⟩ ⟨by decide, by decide⟩ (Nat.le_of_ble_eq_true rfl) rfl dX10_deliver_24 ?_
    rintro _ _ _ _ ⟨rfl, rfl, rfl, rfl⟩
    show V K 0 0 P A g [(0, .ref (A (w + 15010))), (1, .int (nI i))] 27 [.int (b32 (cancome (gR σ) i))]
    refine g_if_eq (pc := 27) C dX10_deliver_27 (tgt := 38) (by decide) (fun c_27 => ?_) (fun c_27 => ?_)
    ·
      refine g_bipush (pc := 38) C dX10_deliver_38 (v := (-5)) rfl ?_
      exact g_iret (pc := 40) C R ⟨rfl, rfl, Or.inr ⟨i, hi, rfl, Or.inl ⟨b32_yes c_27, rfl, rfl⟩⟩⟩ (by decide) (by decide) dX10_deliver_40
    ·
      obtain ⟨⟨s0, r0, k0, x0, y0, l0⟩, hti⟩ : ∃ t, (gR σ)[i]? = some t := ⟨_, List.getElem?_eq_getElem hi⟩
      refine g_aload_n (pc := 30) C dX10_deliver_30 0 rfl ?_
      refine g_iload_n (pc := 31) C dX10_deliver_31 1 rfl ?_
      refine g_callV (pc := 32) C (As := [.int (nI i)]) (rest := []) (b := (w + 15010)) (c_X10_come A P g w i s0 r0 k0 x0 y0 l0 hti hB2 hS hO hT ⟨hV, hW, hC, hP, hL⟩) hO rfl rfl Y_X10_come u_569 N_X10_come ⟨by decide, by decide⟩ ⟨by decide, by decide⟩ (Nat.le_of_ble_eq_true rfl) rfl dX10_deliver_32 ?_
      rintro _ _ _ g2 ⟨rfl, rfl, rfl, hv2, hf2⟩
      show V K 0 0 P A g2 [(0, .ref (A (w + 15010))), (1, .int (nI i))] 35 [.int (nI k0)]
      refine g_goto (pc := 35) C dX10_deliver_35 (tgt := 40) (by decide) ?_
      exact g_iret (pc := 40) C R ⟨rfl, rfl, Or.inr ⟨i, hi, rfl, Or.inr ⟨b32_no c_27, _, hti, rfl, hX.t hf2 hv2⟩⟩⟩ (by decide) (by decide) dX10_deliver_40
  ·
    refine g_iconst (pc := 14) C dX10_deliver_14 (v := (-1)) rfl ?_
    exact g_iret (pc := 15) C R ⟨rfl, rfl, Or.inl ⟨b32_yes c_11, rfl, rfl⟩⟩ (by decide) (by decide) dX10_deliver_15
abbrev rm_X10_heard : Room := { frames := 2, cells := 0, slots := 0, locals := 42 }
theorem Y_X10_heard : pY yX10_heard cX10_heard 3 (Option.some Jvm.ClassFile.FieldType.int) := ⟨u_712, u_713, u_1, u_714⟩
theorem N_X10_heard : yX10_heard.cls ≠ "java/lang/invoke/MethodHandle" ∧ yX10_heard.cls ≠ "java/lang/invoke/VarHandle" ∧ (parseMethodDescriptor yX10_heard.desc).map (fun d => d.parameters.length) = some 2 := by decide +kernel
set_option maxRecDepth 20000 in
set_option maxHeartbeats 4000000 in
theorem c_X10_heard (A : Nat → Nat) (P : List Nat) (g : pM) (w : Nat) {σ : Sg} (x y : Int32) (hO : g (w + 15010) = vOb A w) (hW : WD A g w (w + 15005) σ) : PM yX10_heard cX10_heard 3 (Option.some Jvm.ClassFile.FieldType.int) rm_X10_heard [.ref (A (w + 15010)), .int x, .int y] P A g (fun v g' => v = some (.int (hrA σ x y)) ∧ g = g') := by
  have hK := hW.k16
  have hT24 : gT σ ≤ 24 := hW.2.2.2.2.2.2.2.2
  refine px_intro (by decide +kernel) (Nat.le_of_ble_eq_true rfl) (fun K sz C R => ?_)
  show V K 0 0 P A g [(0, .ref (A (w + 15010))), (1, .int x), (2, .int y)] 0 []
  refine g_aload_n (pc := 0) C dX10_heard_0 0 rfl ?_
  refine g_get (pc := 1) C (j := 1) hO rfl rfl (by decide) u_325 dX10_heard_1 ?_
  refine g_iload_n (pc := 4) C dX10_heard_4 1 rfl ?_
  refine g_callV (pc := 5) C (As := [.int x]) (rest := []) (b := w) (c_X9_isNode A P g w x (WD.wb hW)) (WD.wb hW).1 rfl rfl Y_X9_isNode u_385 N_X9_isNode ⟨by decide, by decide⟩ ⟨by decide, by decide⟩ (Nat.le_of_ble_eq_true rfl) rfl dX10_heard_5 ?_
  rintro _ _ _ _ ⟨rfl, rfl, rfl, rfl⟩
  show V K 0 0 P A g [(0, .ref (A (w + 15010))), (1, .int x), (2, .int y)] 8 [.int (b32 (decide (¬ x < 0 ∧ x < nI (gK σ))))]
  refine g_if_eq (pc := 8) C dX10_heard_8 (tgt := 22) (by decide) (fun c_8 => ?_) (fun c_8 => ?_)
  ·
    refine g_iconst (pc := 22) C dX10_heard_22 (v := (-1)) rfl ?_
    exact g_iret (pc := 23) C R ⟨rfl, rfl, by rw [hrA_x (b32_yes c_8)], rfl⟩ (by decide) (by decide) dX10_heard_23
  ·
    obtain ⟨i, hi, rfl⟩ := isN_ex hK (b32_no c_8)
    refine g_aload_n (pc := 11) C dX10_heard_11 0 rfl ?_
    refine g_get (pc := 12) C (j := 1) hO rfl rfl (by decide) u_325 dX10_heard_12 ?_
    refine g_iload_n (pc := 15) C dX10_heard_15 2 rfl ?_
    refine g_callV (pc := 16) C (As := [.int y]) (rest := []) (b := w) (c_X9_isTale A P g w y (WD.wb hW)) (WD.wb hW).1 rfl rfl Y_X9_isTale u_715 N_X9_isTale ⟨by decide, by decide⟩ ⟨by decide, by decide⟩ (Nat.le_of_ble_eq_true rfl) rfl dX10_heard_16 ?_
    rintro _ _ _ _ ⟨rfl, rfl, rfl, rfl⟩
    show V K 0 0 P A g [(0, .ref (A (w + 15010))), (1, .int (nI i)), (2, .int y)] 19 [.int (b32 (decide (¬ y < 0 ∧ y < nI (gT σ))))]
    refine g_if_ne (pc := 19) C dX10_heard_19 (tgt := 24) (by decide) (fun c_19 => ?_) (fun c_19 => ?_)
    ·
      obtain ⟨t, ht, rfl⟩ := isK_ex (by omega) (b32_no c_19)
      refine g_aload_n (pc := 24) C dX10_heard_24 0 rfl ?_
      refine g_get (pc := 25) C (j := 1) hO rfl rfl (by decide) u_325 dX10_heard_25 ?_
      refine g_iload_n (pc := 28) C dX10_heard_28 1 rfl ?_
      refine g_callV (pc := 29) C (As := [.int (nI i)]) (rest := []) (b := w) (c_X9_nodeAt A P g w i (by omega) (WD.wb hW)) (WD.wb hW).1 rfl rfl Y_X9_nodeAt u_389 N_X9_nodeAt ⟨by decide, by decide⟩ ⟨by decide, by decide⟩ (Nat.le_of_ble_eq_true rfl) rfl dX10_heard_29 ?_
      rintro _ _ _ _ ⟨rfl, rfl, rfl, rfl⟩
      show V K 0 0 P A g [(0, .ref (A (w + 15010))), (1, .int (nI i)), (2, .int (nI t))] 32 [.ref (A (w + 100 + 100 * i))]
      refine g_iload_n (pc := 32) C dX10_heard_32 2 rfl ?_
      refine g_callV (pc := 33) C (As := [.int (nI t)]) (rest := []) (b := (w + 100 + 100 * i)) (c_X3_hopsOf A P g (w + 100 + 100 * i) t (by omega) (WD.nd (i := i) hW (by omega))) (WD.nd (i := i) hW (by omega)).1 rfl rfl Y_X3_hopsOf u_719 N_X3_hopsOf ⟨by decide, by decide⟩ ⟨by decide, by decide⟩ (Nat.le_of_ble_eq_true rfl) rfl dX10_heard_33 ?_
      rintro _ _ _ _ ⟨rfl, rfl, rfl, rfl⟩
      show V K 0 0 P A g [(0, .ref (A (w + 15010))), (1, .int (nI i)), (2, .int (nI t))] 36 [.int (onv (nHo (gN σ i) t))]
      exact g_iret (pc := 36) C R ⟨rfl, rfl, by rw [hrA_n hK hT24 hi ht], rfl⟩ (by decide) (by decide) dX10_heard_36
    ·
      refine g_iconst (pc := 22) C dX10_heard_22 (v := (-1)) rfl ?_
      exact g_iret (pc := 23) C R ⟨rfl, rfl, by rw [hrA_y (b32_yes c_19)], rfl⟩ (by decide) (by decide) dX10_heard_23
abbrev rm_X10_even : Room := { frames := 4, cells := 0, slots := 0, locals := 87 }
theorem Y_X10_even : pY yX10_even cX10_even 1 (Option.some Jvm.ClassFile.FieldType.int) := ⟨u_744, u_745, u_1, u_746⟩
theorem N_X10_even : yX10_even.cls ≠ "java/lang/invoke/MethodHandle" ∧ yX10_even.cls ≠ "java/lang/invoke/VarHandle" ∧ (parseMethodDescriptor yX10_even.desc).map (fun d => d.parameters.length) = some 0 := by decide +kernel
set_option maxRecDepth 20000 in
set_option maxHeartbeats 4000000 in
theorem c_X10_even (A : Nat → Nat) (P : List Nat) (g : pM) (w : Nat) {σ : Sg} (ha : ∀ i, i < gK σ → ∀ q ∈ nAc (gN σ i), q < gK σ) (hO : g (w + 15010) = vOb A w) (hW : WD A g w (w + 15005) σ) : PM yX10_even cX10_even 1 (Option.some Jvm.ClassFile.FieldType.int) rm_X10_even [.ref (A (w + 15010))] P A g (fun v g' => v = some (.int (b32 (evn σ))) ∧ g = g') := by
  refine px_intro (by decide +kernel) (Nat.le_of_ble_eq_true rfl) (fun K sz C R => ?_)
  show V K 0 0 P A g [(0, .ref (A (w + 15010)))] 0 []
  refine g_aload_n (pc := 0) C dX10_even_0 0 rfl ?_
  refine g_get (pc := 1) C (j := 1) hO rfl rfl (by decide) u_325 dX10_even_1 ?_
  refine g_callV (pc := 4) C (As := []) (rest := []) (b := w) (c_X9_isEven A P g w ha hW) (WD.wb hW).1 rfl rfl Y_X9_isEven u_747 N_X9_isEven ⟨by decide, by decide⟩ ⟨by decide, by decide⟩ (Nat.le_of_ble_eq_true rfl) rfl dX10_even_4 ?_
  rintro _ _ _ _ ⟨rfl, rfl, rfl, rfl⟩
  show V K 0 0 P A g [(0, .ref (A (w + 15010)))] 7 [.int (b32 (evn σ))]
  refine g_if_eq (pc := 7) C dX10_even_7 (tgt := 14) (by decide) (fun c_7 => ?_) (fun c_7 => ?_)
  ·
    refine g_iconst (pc := 14) C dX10_even_14 (v := nI 0) rfl ?_
    exact g_iret (pc := 15) C R ⟨rfl, rfl, by rw [b32_yes c_7]; rfl, rfl⟩ (by decide) (by decide) dX10_even_15
  ·
    refine g_iconst (pc := 10) C dX10_even_10 (v := nI 1) rfl ?_
    refine g_goto (pc := 11) C dX10_even_11 (tgt := 15) (by decide) ?_
    exact g_iret (pc := 15) C R ⟨rfl, rfl, by rw [b32_no c_7]; rfl, rfl⟩ (by decide) (by decide) dX10_even_15
abbrev rm_X10_spread : Room := { frames := 3, cells := 0, slots := 0, locals := 65 }
theorem Y_X10_spread : pY yX10_spread cX10_spread 2 (Option.some Jvm.ClassFile.FieldType.int) := ⟨u_779, u_780, u_1, u_781⟩
theorem N_X10_spread : yX10_spread.cls ≠ "java/lang/invoke/MethodHandle" ∧ yX10_spread.cls ≠ "java/lang/invoke/VarHandle" ∧ (parseMethodDescriptor yX10_spread.desc).map (fun d => d.parameters.length) = some 1 := by decide +kernel
set_option maxRecDepth 20000 in
set_option maxHeartbeats 4000000 in
theorem c_X10_spread (A : Nat → Nat) (P : List Nat) (g : pM) (w : Nat) {σ : Sg} (x : Int32) (hw : ∀ i, i < gK σ → ndW (gN σ i)) (hO : g (w + 15010) = vOb A w) (hW : WD A g w (w + 15005) σ) : PM yX10_spread cX10_spread 2 (Option.some Jvm.ClassFile.FieldType.int) rm_X10_spread [.ref (A (w + 15010)), .int x] P A g (fun v g' => v = some (.int (spA σ x)) ∧ g = g') := by
  have hK := hW.k16
  have hT24 : gT σ ≤ 24 := hW.2.2.2.2.2.2.2.2
  refine px_intro (by decide +kernel) (Nat.le_of_ble_eq_true rfl) (fun K sz C R => ?_)
  show V K 0 0 P A g [(0, .ref (A (w + 15010))), (1, .int x)] 0 []
  refine g_aload_n (pc := 0) C dX10_spread_0 0 rfl ?_
  refine g_get (pc := 1) C (j := 1) hO rfl rfl (by decide) u_325 dX10_spread_1 ?_
  refine g_iload_n (pc := 4) C dX10_spread_4 1 rfl ?_
  refine g_callV (pc := 5) C (As := [.int x]) (rest := []) (b := w) (c_X9_isTale A P g w x (WD.wb hW)) (WD.wb hW).1 rfl rfl Y_X9_isTale u_715 N_X9_isTale ⟨by decide, by decide⟩ ⟨by decide, by decide⟩ (Nat.le_of_ble_eq_true rfl) rfl dX10_spread_5 ?_
  rintro _ _ _ _ ⟨rfl, rfl, rfl, rfl⟩
  show V K 0 0 P A g [(0, .ref (A (w + 15010))), (1, .int x)] 8 [.int (b32 (decide (¬ x < 0 ∧ x < nI (gT σ))))]
  refine g_if_eq (pc := 8) C dX10_spread_8 (tgt := 22) (by decide) (fun c_8 => ?_) (fun c_8 => ?_)
  ·
    refine g_iconst (pc := 22) C dX10_spread_22 (v := (-1)) rfl ?_
    exact g_iret (pc := 23) C R ⟨rfl, rfl, by rw [spA_x (b32_yes c_8)], rfl⟩ (by decide) (by decide) dX10_spread_23
  ·
    obtain ⟨t, ht, rfl⟩ := isK_ex (by omega) (b32_no c_8)
    refine g_aload_n (pc := 11) C dX10_spread_11 0 rfl ?_
    refine g_get (pc := 12) C (j := 1) hO rfl rfl (by decide) u_325 dX10_spread_12 ?_
    refine g_iload_n (pc := 15) C dX10_spread_15 1 rfl ?_
    refine g_callV (pc := 16) C (As := [.int (nI t)]) (rest := []) (b := w) (c_X9_hearersOf A P g w t (by omega) hw hW) (WD.wb hW).1 rfl rfl Y_X9_hearersOf u_782 N_X9_hearersOf ⟨by decide, by decide⟩ ⟨by decide, by decide⟩ (Nat.le_of_ble_eq_true rfl) rfl dX10_spread_16 ?_
    rintro _ _ _ _ ⟨rfl, rfl, rfl, rfl⟩
    show V K 0 0 P A g [(0, .ref (A (w + 15010))), (1, .int (nI t))] 19 [.int (nI (ct (fun i => lvd σ i && (nHo (gN σ i) t).isSome) (gK σ)))]
    refine g_goto (pc := 19) C dX10_spread_19 (tgt := 23) (by decide) ?_
    exact g_iret (pc := 23) C R ⟨rfl, rfl, by rw [spA_n hT24 ht], rfl⟩ (by decide) (by decide) dX10_spread_23
abbrev rm_X10_go : Room := { frames := 7, cells := 0, slots := 0, locals := 169 }
theorem Y_X10_go : pY yX10_go cX10_go 3 (Option.some Jvm.ClassFile.FieldType.int) := ⟨u_697, u_698, u_1, u_699⟩
theorem N_X10_go : yX10_go.cls ≠ "java/lang/invoke/MethodHandle" ∧ yX10_go.cls ≠ "java/lang/invoke/VarHandle" ∧ (parseMethodDescriptor yX10_go.desc).map (fun d => d.parameters.length) = some 1 := by decide +kernel
set_option maxRecDepth 20000 in
set_option maxHeartbeats 4000000 in
theorem c_X10_go (A : Nat → Nat) (P : List Nat) (g : pM) (w : Nat) {B : Nat} {cs : List Nat} {σ : Sg} {ks : Nat → Option Sg} (x : Int32) (hB2 : B + 2001 < 2 ^ 30) (hS : SW B cs σ) (hX : VB A g w cs σ ks) : PM yX10_go cX10_go 3 (Option.some Jvm.ClassFile.FieldType.int) rm_X10_go [.ref (A (w + 15010)), .int x] P A g (fun v g' => ((x < 0 ∨ ¬ x ≤ nI 2000) ∧ v = some (.int (-2)) ∧ g = g') ∨ (∃ n, n ≤ 2000 ∧ x = nI n ∧ v = some (.int (nI (gos cs n σ).2)) ∧ VB A g' w cs (gos cs n σ).1 ks ∧ SW (B + n) cs (gos cs n σ).1)) := by
  obtain ⟨hO, hT, ⟨pl, ll, hV, hW, hC, hP, hL⟩, hXr⟩ := id hX
  have hK := hW.k16
  refine px_intro (by decide +kernel) (Nat.le_of_ble_eq_true rfl) (fun K sz C R => ?_)
  show V K 0 0 P A g [(0, .ref (A (w + 15010))), (1, .int x)] 0 []
  refine g_iload_n (pc := 0) C dX10_go_0 1 rfl ?_
  refine g_if_lt (pc := 1) C dX10_go_1 (tgt := 11) (by decide) (fun c_1 => ?_) (fun c_1 => ?_)
  ·
    refine g_bipush (pc := 11) C dX10_go_11 (v := (-2)) rfl ?_
    exact g_iret (pc := 13) C R ⟨rfl, rfl, Or.inl ⟨Or.inl c_1, rfl, rfl⟩⟩ (by decide) (by decide) dX10_go_13
  ·
    refine g_iload_n (pc := 4) C dX10_go_4 1 rfl ?_
    refine g_sipush (pc := 5) C dX10_go_5 (v := nI 2000) rfl ?_
    refine g_icmp_le (pc := 8) C dX10_go_8 (tgt := 14) (by decide) (fun c_8 => ?_) (fun c_8 => ?_)
    ·
      obtain ⟨n, -, hn, rfl⟩ := rg_ex (lo := 0) (hi := 2000) (by omega) (by omega) c_1 (i32_nlt c_8)
      refine g_iconst (pc := 14) C dX10_go_14 (v := nI 0) rfl ?_
      refine g_istore_n (pc := 15) C dX10_go_15 (by decide) (lv' := [(0, .ref (A (w + 15010))), (1, .int (nI n)), (2, .int (nI 0))]) [1, 2, 0] rfl ?_
      have lp_16 : ∀ (fuel : Nat) (d : Nat) (hd : d ≤ n) (σ1 : Sg) (gl : pM) (hX1 : VB A gl w cs σ1 ks) (hS1 : SW (B + d) cs σ1) (h1 : (gos cs (n - d) σ1).1 = (gos cs n σ).1) (h2 : (gos cs (n - d) σ1).2 + d = (gos cs n σ).2), n - d < fuel → V K 0 0 P A gl [(0, .ref (A (w + 15010))), (1, .int (nI n)), (2, .int (nI d))] 16 [] := by
        intro fuel
        induction fuel with
        | zero => intro d hd σ1 gl hX1 hS1 h1 h2 hμ; exact absurd hμ (Nat.not_lt_zero _)
        | succ fuel ih =>
          intro d hd σ1 gl hX1 hS1 h1 h2 hμ
          obtain ⟨hO1, hT1, ⟨pl1, ll1, hV1, hW1, hC1, hP1, hL1⟩, hXr1⟩ := id hX1
          have hrl := hW1.rw.le
          refine g_iload_n (pc := 16) C dX10_go_16 2 rfl ?_
          refine g_iload_n (pc := 17) C dX10_go_17 1 rfl ?_
          refine g_icmp_ge (pc := 18) C dX10_go_18 (tgt := 46) (by decide) (fun c_18 => ?_) (fun c_18 => ?_)
          ·
            have c_18 : n ≤ d := (nI_leI (by omega) (by omega)).mp c_18
            refine g_iload_n (pc := 46) C dX10_go_46 2 rfl ?_
            have he : gos cs (n - d) σ1 = (σ1, 0) := by rw [show n - d = 0 by omega]; rfl
            rw [he] at h1 h2
            dsimp only at h1 h2
            exact g_iret (pc := 47) C R ⟨rfl, rfl, Or.inr ⟨n, hn, rfl, by rw [← h2, Nat.zero_add], by rw [← h1]; exact hX1, by rw [← h1]; exact hS1.up (by omega) (by omega)⟩⟩ (by decide) (by decide) dX10_go_47
          ·
            have c_18 : ¬ n ≤ d := fun h => c_18 ((nI_leI (a := n) (b := d) (by omega) (by omega)).mpr h)
            refine g_aload_n (pc := 21) C dX10_go_21 0 rfl ?_
            refine g_get (pc := 22) C (j := 1) hO1 rfl rfl (by decide) u_325 dX10_go_22 ?_
            refine g_get (pc := 25) C (j := 4) (WD.wb hW1).1 rfl rfl (by decide) u_254 dX10_go_25 ?_
            refine g_get (pc := 28) C (j := 2) (RW.ex (WD.rw hW1)).choose_spec rfl rfl (by decide) u_231 dX10_go_28 ?_
            refine g_if_le (pc := 31) C dX10_go_31 (tgt := 46) (by decide) (fun c_31 => ?_) (fun c_31 => ?_)
            ·
              have c_31 : (gR σ1).length ≤ 0 := (nI_leI (by omega) (by omega)).mp c_31
              refine g_iload_n (pc := 46) C dX10_go_46 2 rfl ?_
              have he : gos cs (n - d) σ1 = (σ1, 0) := gos_e (by omega)
              rw [he] at h1 h2
              dsimp only at h1 h2
              exact g_iret (pc := 47) C R ⟨rfl, rfl, Or.inr ⟨n, hn, rfl, by rw [← h2, Nat.zero_add], by rw [← h1]; exact hX1, by rw [← h1]; exact hS1.up (by omega) (by omega)⟩⟩ (by decide) (by decide) dX10_go_47
            ·
              have c_31 : ¬ (gR σ1).length ≤ 0 := fun h => c_31 ((nI_leI (a := (gR σ1).length) (b := 0) (by omega) (by omega)).mpr h)
              obtain ⟨⟨s0, r0, k0, x0, y0, l0⟩, hti⟩ : ∃ t, (gR σ1)[0]? = some t := ⟨_, List.getElem?_eq_getElem (by omega)⟩
              have hgs := gos_s (cs := cs) (n := n) (Nat.not_le.mp c_18) hti
              refine g_aload_n (pc := 34) C dX10_go_34 0 rfl ?_
              refine g_iconst (pc := 35) C dX10_go_35 (v := nI 0) rfl ?_
              refine g_callV (pc := 36) C (As := [.int (nI 0)]) (rest := []) (b := (w + 15010)) (c_X10_come A P gl w 0 s0 r0 k0 x0 y0 l0 hti (by omega) hS1 hO1 hT1 ⟨hV1, hW1, hC1, hP1, hL1⟩) hO1 rfl rfl Y_X10_come u_569 N_X10_come ⟨by decide, by decide⟩ ⟨by decide, by decide⟩ (Nat.le_of_ble_eq_true rfl) rfl dX10_go_36 ?_
              rintro _ _ _ g2 ⟨rfl, rfl, rfl, hv2, hf2⟩
              show V K 0 0 P A g2 [(0, .ref (A (w + 15010))), (1, .int (nI n)), (2, .int (nI d))] 39 [.int (nI k0)]
              refine g_pop (pc := 39) C dX10_go_39 rfl ?_
              refine g_iinc (pc := 40) C dX10_go_40 (by decide) 2 rfl (v := nI (d + 1)) (nI_i1 _) (lv' := [(0, .ref (A (w + 15010))), (1, .int (nI n)), (2, .int (nI (d + 1)))]) [1, 2, 0] rfl ?_
              refine g_goto (pc := 43) C dX10_go_43 (tgt := 16) (by decide) ?_
              exact ih (d + 1) (by omega) _ g2 (hX1.t hf2 hv2) (by have e := cme_SW hS1 (by omega) hti; rw [Nat.add_assoc] at e; exact e) (hgs.1.symm.trans h1) (by rw [← h2, hgs.2]; omega) (by omega)
      exact lp_16 (_ + 1) 0 (Nat.zero_le _) σ g hX hS rfl rfl (Nat.lt_succ_self _)
    ·
      refine g_bipush (pc := 11) C dX10_go_11 (v := (-2)) rfl ?_
      exact g_iret (pc := 13) C R ⟨rfl, rfl, Or.inl ⟨Or.inr c_8, rfl, rfl⟩⟩ (by decide) (by decide) dX10_go_13
abbrev rm_X10_sizes : Room := { frames := 0, cells := 0, slots := 0, locals := 0 }
theorem Y_X10_sizes : pY yX10_sizes cX10_sizes 3 (Option.some Jvm.ClassFile.FieldType.int) := ⟨u_345, u_346, u_1, u_347⟩
theorem N_X10_sizes : yX10_sizes.cls ≠ "java/lang/invoke/MethodHandle" ∧ yX10_sizes.cls ≠ "java/lang/invoke/VarHandle" ∧ (parseMethodDescriptor yX10_sizes.desc).map (fun d => d.parameters.length) = some 2 := by decide +kernel
set_option maxRecDepth 20000 in
set_option maxHeartbeats 4000000 in
theorem c_X10_sizes (A : Nat → Nat) (P : List Nat) (g : pM) (w : Nat) {B : Nat} {cs : List Nat} {σ : Sg} {ks : Nat → Option Sg} (x y : Int32) (hS : SW B cs σ) (hX : VB A g w cs σ ks) : PM yX10_sizes cX10_sizes 3 (Option.some Jvm.ClassFile.FieldType.int) rm_X10_sizes [.ref (A (w + 15010)), .int x, .int y] P A g (fun v g' => ((x < nI 2 ∨ nI 5 < x ∨ y < nI 2 ∨ ¬ y ≤ nI 8) ∧ v = some (.int (-2)) ∧ g = g') ∨ (∃ n m, 2 ≤ n ∧ n ≤ 5 ∧ 2 ≤ m ∧ m ≤ 8 ∧ x = nI n ∧ y = nI m ∧ ((¬ gK σ ≤ 0 ∧ v = some (.int (-3)) ∧ g = g') ∨ (gK σ ≤ 0 ∧ v = some (.int (nI 1)) ∧ VB A g' w cs (sZ σ (n, m, (gZ σ).2.2)) ks)))) := by
  obtain ⟨hO, hT, ⟨pl, ll, hV, hW, hC, hP, hL⟩, hXr⟩ := id hX
  have hK := hW.k16
  refine px_intro (by decide +kernel) (Nat.le_of_ble_eq_true rfl) (fun K sz C R => ?_)
  show V K 0 0 P A g [(0, .ref (A (w + 15010))), (1, .int x), (2, .int y)] 0 []
  refine g_iload_n (pc := 0) C dX10_sizes_0 1 rfl ?_
  refine g_iconst (pc := 1) C dX10_sizes_1 (v := nI 2) rfl ?_
  refine g_icmp_lt (pc := 2) C dX10_sizes_2 (tgt := 21) (by decide) (fun c_2 => ?_) (fun c_2 => ?_)
  ·
    refine g_bipush (pc := 21) C dX10_sizes_21 (v := (-2)) rfl ?_
    exact g_iret (pc := 23) C R ⟨rfl, rfl, Or.inl ⟨Or.inl c_2, rfl, rfl⟩⟩ (by decide) (by decide) dX10_sizes_23
  ·
    refine g_iload_n (pc := 5) C dX10_sizes_5 1 rfl ?_
    refine g_iconst (pc := 6) C dX10_sizes_6 (v := nI 5) rfl ?_
    refine g_icmp_gt (pc := 7) C dX10_sizes_7 (tgt := 21) (by decide) (fun c_7 => ?_) (fun c_7 => ?_)
    ·
      refine g_bipush (pc := 21) C dX10_sizes_21 (v := (-2)) rfl ?_
      exact g_iret (pc := 23) C R ⟨rfl, rfl, Or.inl ⟨Or.inr (Or.inl c_7), rfl, rfl⟩⟩ (by decide) (by decide) dX10_sizes_23
    ·
      refine g_iload_n (pc := 10) C dX10_sizes_10 2 rfl ?_
      refine g_iconst (pc := 11) C dX10_sizes_11 (v := nI 2) rfl ?_
      refine g_icmp_lt (pc := 12) C dX10_sizes_12 (tgt := 21) (by decide) (fun c_12 => ?_) (fun c_12 => ?_)
      ·
        refine g_bipush (pc := 21) C dX10_sizes_21 (v := (-2)) rfl ?_
        exact g_iret (pc := 23) C R ⟨rfl, rfl, Or.inl ⟨Or.inr (Or.inr (Or.inl c_12)), rfl, rfl⟩⟩ (by decide) (by decide) dX10_sizes_23
      ·
        refine g_iload_n (pc := 15) C dX10_sizes_15 2 rfl ?_
        refine g_bipush (pc := 16) C dX10_sizes_16 (v := nI 8) rfl ?_
        refine g_icmp_le (pc := 18) C dX10_sizes_18 (tgt := 24) (by decide) (fun c_18 => ?_) (fun c_18 => ?_)
        ·
          obtain ⟨n, hn1, hn2, rfl⟩ := rg_ex (lo := 2) (hi := 5) (by omega) (by omega) c_2 c_7
          obtain ⟨m, hm1, hm2, rfl⟩ := rg_ex (lo := 2) (hi := 8) (by omega) (by omega) c_12 (i32_nlt c_18)
          refine g_aload_n (pc := 24) C dX10_sizes_24 0 rfl ?_
          refine g_get (pc := 25) C (j := 1) hO rfl rfl (by decide) u_325 dX10_sizes_25 ?_
          refine g_get (pc := 28) C (j := 7) (WD.wb hW).1 rfl rfl (by decide) u_259 dX10_sizes_28 ?_
          refine g_if_le (pc := 31) C dX10_sizes_31 (tgt := 37) (by decide) (fun c_31 => ?_) (fun c_31 => ?_)
          ·
            have c_31 : (gK σ) ≤ 0 := (nI_leI (by omega) (by omega)).mp c_31
            refine g_aload_n (pc := 37) C dX10_sizes_37 0 rfl ?_
            refine g_get (pc := 38) C (j := 1) hO rfl rfl (by decide) u_325 dX10_sizes_38 ?_
            refine g_get (pc := 41) C (j := 1) (WD.wb hW).1 rfl rfl (by decide) u_249 dX10_sizes_41 ?_
            refine g_iload_n (pc := 44) C dX10_sizes_44 1 rfl ?_
            refine g_put (pc := 45) C (j := 0) (show g (w + 1) = ob 6 _ from hW.2.1) rfl (by decide) (Nat.le_of_ble_eq_true rfl) u_52 rfl pfd_I rfl rfl dX10_sizes_45 ?_
            obtain ⟨g_1, hg_1⟩ : ∃ yM : pM, yM = va_up g (w + 1) (ob 6 [.int (nI n), .int (nI (gZ σ).2.1), .int (nI (gZ σ).2.2.1), .int (nI (gZ σ).2.2.2.1), .int (nI (gZ σ).2.2.2.2)]) := ⟨_, rfl⟩
            show V K 0 0 P A (va_up g (w + 1) (ob 6 [.int (nI n), .int (nI (gZ σ).2.1), .int (nI (gZ σ).2.2.1), .int (nI (gZ σ).2.2.2.1), .int (nI (gZ σ).2.2.2.2)])) [(0, .ref (A (w + 15010))), (1, .int (nI n)), (2, .int (nI m))] 48 []
            rw [← hg_1]
            have h_2 : g_1 (w + 15010) = ob 10 [.ref (A (w + 15005)), .ref (A w), .ref (A (w + 15000)), .ref (A (w + 15007)), .ref (A (w + 15008)), .ref (A (w + 15009))] := by rw [hg_1, va_up_ne _ _ (show w + 15010 ≠ w + 1 from by omega)]; exact hO
            have h_3 : g_1 w = ob 9 [.ref (A (w + 15005)), .ref (A (w + 1)), .ref (A (w + 2)), .ref (A (w + 1700)), .ref (A (w + 3)), .ref (A (w + 6)), .ref (A (w + 5)), .int (nI (gK σ)), .int (nI (gT σ)), .int (gTi σ), .int (nI (gX σ))] := by rw [hg_1, va_up_ne _ _ (show w ≠ w + 1 from by omega)]; exact (WD.wb hW).1
            have h_4 : g_1 (w + 1) = ob 6 [.int (nI n), .int (nI (gZ σ).2.1), .int (nI (gZ σ).2.2.1), .int (nI (gZ σ).2.2.2.1), .int (nI (gZ σ).2.2.2.2)] := by rw [hg_1]; exact va_up_self _ _ _
            refine g_aload_n (pc := 48) C dX10_sizes_48 0 rfl ?_
            refine g_get (pc := 49) C (j := 1) h_2 rfl rfl (by decide) u_325 dX10_sizes_49 ?_
            refine g_get (pc := 52) C (j := 1) h_3 rfl rfl (by decide) u_249 dX10_sizes_52 ?_
            refine g_iload_n (pc := 55) C dX10_sizes_55 2 rfl ?_
            refine g_put (pc := 56) C (j := 1) h_4 rfl (by decide) (Nat.le_of_ble_eq_true rfl) u_55 rfl pfd_I rfl rfl dX10_sizes_56 ?_
            obtain ⟨g_5, hg_5⟩ : ∃ yM : pM, yM = va_up g_1 (w + 1) (ob 6 [.int (nI n), .int (nI m), .int (nI (gZ σ).2.2.1), .int (nI (gZ σ).2.2.2.1), .int (nI (gZ σ).2.2.2.2)]) := ⟨_, rfl⟩
            show V K 0 0 P A (va_up g_1 (w + 1) (ob 6 [.int (nI n), .int (nI m), .int (nI (gZ σ).2.2.1), .int (nI (gZ σ).2.2.2.1), .int (nI (gZ σ).2.2.2.2)])) [(0, .ref (A (w + 15010))), (1, .int (nI n)), (2, .int (nI m))] 59 []
            rw [← hg_5]
            have h_6 : g_5 (w + 15010) = ob 10 [.ref (A (w + 15005)), .ref (A w), .ref (A (w + 15000)), .ref (A (w + 15007)), .ref (A (w + 15008)), .ref (A (w + 15009))] := by rw [hg_5, va_up_ne _ _ (show w + 15010 ≠ w + 1 from by omega)]; exact h_2
            have h_7 : g_5 w = ob 9 [.ref (A (w + 15005)), .ref (A (w + 1)), .ref (A (w + 2)), .ref (A (w + 1700)), .ref (A (w + 3)), .ref (A (w + 6)), .ref (A (w + 5)), .int (nI (gK σ)), .int (nI (gT σ)), .int (gTi σ), .int (nI (gX σ))] := by rw [hg_5, va_up_ne _ _ (show w ≠ w + 1 from by omega)]; exact h_3
            have h_8 : g_5 (w + 1) = ob 6 [.int (nI n), .int (nI m), .int (nI (gZ σ).2.2.1), .int (nI (gZ σ).2.2.2.1), .int (nI (gZ σ).2.2.2.2)] := by rw [hg_5]; exact va_up_self _ _ _
            refine g_iconst (pc := 59) C dX10_sizes_59 (v := nI 1) rfl ?_
            have hf0 : Fr g g_5 (w + 1) (w + 2) := fun k hk => by rw [hg_5, va_up_ne _ _ (by omega), hg_1, va_up_ne _ _ (by omega)]
            exact g_iret (pc := 60) C R ⟨rfl, rfl, Or.inr ⟨n, m, hn1, hn2, hm1, hm2, rfl, rfl, Or.inr ⟨c_31, rfl, hX.v (hf0.mo (by omega) (by omega)) (hW.sz hf0 h_8)⟩⟩⟩ (by decide) (by decide) dX10_sizes_60
          ·
            have c_31 : ¬ (gK σ) ≤ 0 := fun h => c_31 ((nI_leI (a := (gK σ)) (b := 0) (by omega) (by omega)).mpr h)
            refine g_bipush (pc := 34) C dX10_sizes_34 (v := (-3)) rfl ?_
            exact g_iret (pc := 36) C R ⟨rfl, rfl, Or.inr ⟨n, m, hn1, hn2, hm1, hm2, rfl, rfl, Or.inl ⟨c_31, rfl, rfl⟩⟩⟩ (by decide) (by decide) dX10_sizes_36
        ·
          refine g_bipush (pc := 21) C dX10_sizes_21 (v := (-2)) rfl ?_
          exact g_iret (pc := 23) C R ⟨rfl, rfl, Or.inl ⟨Or.inr (Or.inr (Or.inr c_18)), rfl, rfl⟩⟩ (by decide) (by decide) dX10_sizes_23
abbrev rm_X10_walks : Room := { frames := 0, cells := 0, slots := 0, locals := 0 }
theorem Y_X10_walks : pY yX10_walks cX10_walks 4 (Option.some Jvm.ClassFile.FieldType.int) := ⟨u_349, u_350, u_1, u_351⟩
theorem N_X10_walks : yX10_walks.cls ≠ "java/lang/invoke/MethodHandle" ∧ yX10_walks.cls ≠ "java/lang/invoke/VarHandle" ∧ (parseMethodDescriptor yX10_walks.desc).map (fun d => d.parameters.length) = some 3 := by decide +kernel
set_option maxRecDepth 20000 in
set_option maxHeartbeats 4000000 in
theorem c_X10_walks (A : Nat → Nat) (P : List Nat) (g : pM) (w : Nat) {B : Nat} {cs : List Nat} {σ : Sg} {ks : Nat → Option Sg} (x y z : Int32) (hS : SW B cs σ) (hX : VB A g w cs σ ks) : PM yX10_walks cX10_walks 4 (Option.some Jvm.ClassFile.FieldType.int) rm_X10_walks [.ref (A (w + 15010)), .int x, .int y, .int z] P A g (fun v g' => ((x < nI 1 ∨ nI 6 < x ∨ y < 0 ∨ ¬ y ≤ x ∨ z < nI 1 ∨ ¬ z ≤ nI 20) ∧ v = some (.int (-2)) ∧ g = g') ∨ (∃ n m k, 1 ≤ n ∧ n ≤ 6 ∧ m ≤ n ∧ 1 ≤ k ∧ k ≤ 20 ∧ x = nI n ∧ y = nI m ∧ z = nI k ∧ ((¬ gK σ ≤ 0 ∧ v = some (.int (-3)) ∧ g = g') ∨ (gK σ ≤ 0 ∧ v = some (.int (nI 1)) ∧ VB A g' w cs (sZ σ ((gZ σ).1, (gZ σ).2.1, n, m, k)) ks)))) := by
  obtain ⟨hO, hT, ⟨pl, ll, hV, hW, hC, hP, hL⟩, hXr⟩ := id hX
  have hK := hW.k16
  refine px_intro (by decide +kernel) (Nat.le_of_ble_eq_true rfl) (fun K sz C R => ?_)
  show V K 0 0 P A g [(0, .ref (A (w + 15010))), (1, .int x), (2, .int y), (3, .int z)] 0 []
  refine g_iload_n (pc := 0) C dX10_walks_0 1 rfl ?_
  refine g_iconst (pc := 1) C dX10_walks_1 (v := nI 1) rfl ?_
  refine g_icmp_lt (pc := 2) C dX10_walks_2 (tgt := 20) (by decide) (fun c_2 => ?_) (fun c_2 => ?_)
  ·
    refine g_bipush (pc := 20) C dX10_walks_20 (v := (-2)) rfl ?_
    exact g_iret (pc := 22) C R ⟨rfl, rfl, Or.inl ⟨Or.inl c_2, rfl, rfl⟩⟩ (by decide) (by decide) dX10_walks_22
  ·
    refine g_iload_n (pc := 5) C dX10_walks_5 1 rfl ?_
    refine g_bipush (pc := 6) C dX10_walks_6 (v := nI 6) rfl ?_
    refine g_icmp_gt (pc := 8) C dX10_walks_8 (tgt := 20) (by decide) (fun c_8 => ?_) (fun c_8 => ?_)
    ·
      refine g_bipush (pc := 20) C dX10_walks_20 (v := (-2)) rfl ?_
      exact g_iret (pc := 22) C R ⟨rfl, rfl, Or.inl ⟨Or.inr (Or.inl c_8), rfl, rfl⟩⟩ (by decide) (by decide) dX10_walks_22
    ·
      refine g_iload_n (pc := 11) C dX10_walks_11 2 rfl ?_
      refine g_if_lt (pc := 12) C dX10_walks_12 (tgt := 20) (by decide) (fun c_12 => ?_) (fun c_12 => ?_)
      ·
        refine g_bipush (pc := 20) C dX10_walks_20 (v := (-2)) rfl ?_
        exact g_iret (pc := 22) C R ⟨rfl, rfl, Or.inl ⟨Or.inr (Or.inr (Or.inl c_12)), rfl, rfl⟩⟩ (by decide) (by decide) dX10_walks_22
      ·
        refine g_iload_n (pc := 15) C dX10_walks_15 2 rfl ?_
        refine g_iload_n (pc := 16) C dX10_walks_16 1 rfl ?_
        refine g_icmp_le (pc := 17) C dX10_walks_17 (tgt := 23) (by decide) (fun c_17 => ?_) (fun c_17 => ?_)
        ·
          obtain ⟨n, hn1, hn2, rfl⟩ := rg_ex (lo := 1) (hi := 6) (by omega) (by omega) c_2 c_8
          obtain ⟨m, -, hm2, rfl⟩ := rg_ex (lo := 0) (hi := n) (by omega) (by omega) c_12 (i32_nlt c_17)
          refine g_iload_n (pc := 23) C dX10_walks_23 3 rfl ?_
          refine g_iconst (pc := 24) C dX10_walks_24 (v := nI 1) rfl ?_
          refine g_icmp_lt (pc := 25) C dX10_walks_25 (tgt := 34) (by decide) (fun c_25 => ?_) (fun c_25 => ?_)
          ·
            refine g_bipush (pc := 34) C dX10_walks_34 (v := (-2)) rfl ?_
            exact g_iret (pc := 36) C R ⟨rfl, rfl, Or.inl ⟨Or.inr (Or.inr (Or.inr (Or.inr (Or.inl c_25)))), rfl, rfl⟩⟩ (by decide) (by decide) dX10_walks_36
          ·
            refine g_iload_n (pc := 28) C dX10_walks_28 3 rfl ?_
            refine g_bipush (pc := 29) C dX10_walks_29 (v := nI 20) rfl ?_
            refine g_icmp_le (pc := 31) C dX10_walks_31 (tgt := 37) (by decide) (fun c_31 => ?_) (fun c_31 => ?_)
            ·
              obtain ⟨k, hk1, hk2, rfl⟩ := rg_ex (lo := 1) (hi := 20) (by omega) (by omega) c_25 (i32_nlt c_31)
              refine g_aload_n (pc := 37) C dX10_walks_37 0 rfl ?_
              refine g_get (pc := 38) C (j := 1) hO rfl rfl (by decide) u_325 dX10_walks_38 ?_
              refine g_get (pc := 41) C (j := 7) (WD.wb hW).1 rfl rfl (by decide) u_259 dX10_walks_41 ?_
              refine g_if_le (pc := 44) C dX10_walks_44 (tgt := 50) (by decide) (fun c_44 => ?_) (fun c_44 => ?_)
              ·
                have c_44 : (gK σ) ≤ 0 := (nI_leI (by omega) (by omega)).mp c_44
                refine g_aload_n (pc := 50) C dX10_walks_50 0 rfl ?_
                refine g_get (pc := 51) C (j := 1) hO rfl rfl (by decide) u_325 dX10_walks_51 ?_
                refine g_get (pc := 54) C (j := 1) (WD.wb hW).1 rfl rfl (by decide) u_249 dX10_walks_54 ?_
                refine g_iload_n (pc := 57) C dX10_walks_57 1 rfl ?_
                refine g_put (pc := 58) C (j := 2) (show g (w + 1) = ob 6 _ from hW.2.1) rfl (by decide) (Nat.le_of_ble_eq_true rfl) u_58 rfl pfd_I rfl rfl dX10_walks_58 ?_
                obtain ⟨g_1, hg_1⟩ : ∃ yM : pM, yM = va_up g (w + 1) (ob 6 [.int (nI (gZ σ).1), .int (nI (gZ σ).2.1), .int (nI n), .int (nI (gZ σ).2.2.2.1), .int (nI (gZ σ).2.2.2.2)]) := ⟨_, rfl⟩
                show V K 0 0 P A (va_up g (w + 1) (ob 6 [.int (nI (gZ σ).1), .int (nI (gZ σ).2.1), .int (nI n), .int (nI (gZ σ).2.2.2.1), .int (nI (gZ σ).2.2.2.2)])) [(0, .ref (A (w + 15010))), (1, .int (nI n)), (2, .int (nI m)), (3, .int (nI k))] 61 []
                rw [← hg_1]
                have h_2 : g_1 (w + 15010) = ob 10 [.ref (A (w + 15005)), .ref (A w), .ref (A (w + 15000)), .ref (A (w + 15007)), .ref (A (w + 15008)), .ref (A (w + 15009))] := by rw [hg_1, va_up_ne _ _ (show w + 15010 ≠ w + 1 from by omega)]; exact hO
                have h_3 : g_1 w = ob 9 [.ref (A (w + 15005)), .ref (A (w + 1)), .ref (A (w + 2)), .ref (A (w + 1700)), .ref (A (w + 3)), .ref (A (w + 6)), .ref (A (w + 5)), .int (nI (gK σ)), .int (nI (gT σ)), .int (gTi σ), .int (nI (gX σ))] := by rw [hg_1, va_up_ne _ _ (show w ≠ w + 1 from by omega)]; exact (WD.wb hW).1
                have h_4 : g_1 (w + 1) = ob 6 [.int (nI (gZ σ).1), .int (nI (gZ σ).2.1), .int (nI n), .int (nI (gZ σ).2.2.2.1), .int (nI (gZ σ).2.2.2.2)] := by rw [hg_1]; exact va_up_self _ _ _
                refine g_aload_n (pc := 61) C dX10_walks_61 0 rfl ?_
                refine g_get (pc := 62) C (j := 1) h_2 rfl rfl (by decide) u_325 dX10_walks_62 ?_
                refine g_get (pc := 65) C (j := 1) h_3 rfl rfl (by decide) u_249 dX10_walks_65 ?_
                refine g_iload_n (pc := 68) C dX10_walks_68 2 rfl ?_
                refine g_put (pc := 69) C (j := 3) h_4 rfl (by decide) (Nat.le_of_ble_eq_true rfl) u_61 rfl pfd_I rfl rfl dX10_walks_69 ?_
                obtain ⟨g_5, hg_5⟩ : ∃ yM : pM, yM = va_up g_1 (w + 1) (ob 6 [.int (nI (gZ σ).1), .int (nI (gZ σ).2.1), .int (nI n), .int (nI m), .int (nI (gZ σ).2.2.2.2)]) := ⟨_, rfl⟩
                show V K 0 0 P A (va_up g_1 (w + 1) (ob 6 [.int (nI (gZ σ).1), .int (nI (gZ σ).2.1), .int (nI n), .int (nI m), .int (nI (gZ σ).2.2.2.2)])) [(0, .ref (A (w + 15010))), (1, .int (nI n)), (2, .int (nI m)), (3, .int (nI k))] 72 []
                rw [← hg_5]
                have h_6 : g_5 (w + 15010) = ob 10 [.ref (A (w + 15005)), .ref (A w), .ref (A (w + 15000)), .ref (A (w + 15007)), .ref (A (w + 15008)), .ref (A (w + 15009))] := by rw [hg_5, va_up_ne _ _ (show w + 15010 ≠ w + 1 from by omega)]; exact h_2
                have h_7 : g_5 w = ob 9 [.ref (A (w + 15005)), .ref (A (w + 1)), .ref (A (w + 2)), .ref (A (w + 1700)), .ref (A (w + 3)), .ref (A (w + 6)), .ref (A (w + 5)), .int (nI (gK σ)), .int (nI (gT σ)), .int (gTi σ), .int (nI (gX σ))] := by rw [hg_5, va_up_ne _ _ (show w ≠ w + 1 from by omega)]; exact h_3
                have h_8 : g_5 (w + 1) = ob 6 [.int (nI (gZ σ).1), .int (nI (gZ σ).2.1), .int (nI n), .int (nI m), .int (nI (gZ σ).2.2.2.2)] := by rw [hg_5]; exact va_up_self _ _ _
                refine g_aload_n (pc := 72) C dX10_walks_72 0 rfl ?_
                refine g_get (pc := 73) C (j := 1) h_6 rfl rfl (by decide) u_325 dX10_walks_73 ?_
                refine g_get (pc := 76) C (j := 1) h_7 rfl rfl (by decide) u_249 dX10_walks_76 ?_
                refine g_iload_n (pc := 79) C dX10_walks_79 3 rfl ?_
                refine g_put (pc := 80) C (j := 4) h_8 rfl (by decide) (Nat.le_of_ble_eq_true rfl) u_64 rfl pfd_I rfl rfl dX10_walks_80 ?_
                obtain ⟨g_9, hg_9⟩ : ∃ yM : pM, yM = va_up g_5 (w + 1) (ob 6 [.int (nI (gZ σ).1), .int (nI (gZ σ).2.1), .int (nI n), .int (nI m), .int (nI k)]) := ⟨_, rfl⟩
                show V K 0 0 P A (va_up g_5 (w + 1) (ob 6 [.int (nI (gZ σ).1), .int (nI (gZ σ).2.1), .int (nI n), .int (nI m), .int (nI k)])) [(0, .ref (A (w + 15010))), (1, .int (nI n)), (2, .int (nI m)), (3, .int (nI k))] 83 []
                rw [← hg_9]
                have h_10 : g_9 (w + 15010) = ob 10 [.ref (A (w + 15005)), .ref (A w), .ref (A (w + 15000)), .ref (A (w + 15007)), .ref (A (w + 15008)), .ref (A (w + 15009))] := by rw [hg_9, va_up_ne _ _ (show w + 15010 ≠ w + 1 from by omega)]; exact h_6
                have h_11 : g_9 w = ob 9 [.ref (A (w + 15005)), .ref (A (w + 1)), .ref (A (w + 2)), .ref (A (w + 1700)), .ref (A (w + 3)), .ref (A (w + 6)), .ref (A (w + 5)), .int (nI (gK σ)), .int (nI (gT σ)), .int (gTi σ), .int (nI (gX σ))] := by rw [hg_9, va_up_ne _ _ (show w ≠ w + 1 from by omega)]; exact h_7
                have h_12 : g_9 (w + 1) = ob 6 [.int (nI (gZ σ).1), .int (nI (gZ σ).2.1), .int (nI n), .int (nI m), .int (nI k)] := by rw [hg_9]; exact va_up_self _ _ _
                refine g_iconst (pc := 83) C dX10_walks_83 (v := nI 1) rfl ?_
                have hf0 : Fr g g_9 (w + 1) (w + 2) := fun k hk => by rw [hg_9, va_up_ne _ _ (by omega), hg_5, va_up_ne _ _ (by omega), hg_1, va_up_ne _ _ (by omega)]
                exact g_iret (pc := 84) C R ⟨rfl, rfl, Or.inr ⟨n, m, k, hn1, hn2, hm2, hk1, hk2, rfl, rfl, rfl, Or.inr ⟨c_44, rfl, hX.v (hf0.mo (by omega) (by omega)) (hW.sz hf0 h_12)⟩⟩⟩ (by decide) (by decide) dX10_walks_84
              ·
                have c_44 : ¬ (gK σ) ≤ 0 := fun h => c_44 ((nI_leI (a := (gK σ)) (b := 0) (by omega) (by omega)).mpr h)
                refine g_bipush (pc := 47) C dX10_walks_47 (v := (-3)) rfl ?_
                exact g_iret (pc := 49) C R ⟨rfl, rfl, Or.inr ⟨n, m, k, hn1, hn2, hm2, hk1, hk2, rfl, rfl, rfl, Or.inl ⟨c_44, rfl, rfl⟩⟩⟩ (by decide) (by decide) dX10_walks_49
            ·
              refine g_bipush (pc := 34) C dX10_walks_34 (v := (-2)) rfl ?_
              exact g_iret (pc := 36) C R ⟨rfl, rfl, Or.inl ⟨Or.inr (Or.inr (Or.inr (Or.inr (Or.inr c_31)))), rfl, rfl⟩⟩ (by decide) (by decide) dX10_walks_36
        ·
          refine g_bipush (pc := 20) C dX10_walks_20 (v := (-2)) rfl ?_
          exact g_iret (pc := 22) C R ⟨rfl, rfl, Or.inl ⟨Or.inr (Or.inr (Or.inr (Or.inl c_17))), rfl, rfl⟩⟩ (by decide) (by decide) dX10_walks_22
abbrev rm_X10_join : Room := { frames := 3, cells := 0, slots := 0, locals := 71 }
theorem Y_X10_join : pY yX10_join cX10_join 3 (Option.some Jvm.ClassFile.FieldType.int) := ⟨u_382, u_383, u_1, u_384⟩
theorem N_X10_join : yX10_join.cls ≠ "java/lang/invoke/MethodHandle" ∧ yX10_join.cls ≠ "java/lang/invoke/VarHandle" ∧ (parseMethodDescriptor yX10_join.desc).map (fun d => d.parameters.length) = some 2 := by decide +kernel
set_option maxRecDepth 20000 in
set_option maxHeartbeats 4000000 in
theorem c_X10_join (A : Nat → Nat) (P : List Nat) (g : pM) (w : Nat) {B : Nat} {cs : List Nat} {σ : Sg} {ks : Nat → Option Sg} (x y : Int32) (hS : SW B cs σ) (hX : VB A g w cs σ ks) : PM yX10_join cX10_join 3 (Option.some Jvm.ClassFile.FieldType.int) rm_X10_join [.ref (A (w + 15010)), .int x, .int y] P A g (fun v g' => ((isN σ x = false ∨ isN σ y = false) ∧ v = some (.int (-1)) ∧ g = g') ∨ (∃ i j, i < gK σ ∧ j < gK σ ∧ x = nI i ∧ y = nI j ∧ (((lvd σ i = false ∨ lvd σ j = false) ∧ v = some (.int (-3)) ∧ g = g') ∨ (lvd σ i = true ∧ lvd σ j = true ∧ ((i = j ∧ v = some (.int (-5)) ∧ g = g') ∨ (¬ i = j ∧ v = some (.int (nI (gR (snd σ i j 1 0 0 [])).length)) ∧ VB A g' w cs (snd σ i j 1 0 0 []) ks)))))) := by
  obtain ⟨hO, hT, ⟨pl, ll, hV, hW, hC, hP, hL⟩, hXr⟩ := id hX
  have hK := hW.k16
  refine px_intro (by decide +kernel) (Nat.le_of_ble_eq_true rfl) (fun K sz C R => ?_)
  show V K 0 0 P A g [(0, .ref (A (w + 15010))), (1, .int x), (2, .int y)] 0 []
  refine g_aload_n (pc := 0) C dX10_join_0 0 rfl ?_
  refine g_get (pc := 1) C (j := 1) hO rfl rfl (by decide) u_325 dX10_join_1 ?_
  refine g_iload_n (pc := 4) C dX10_join_4 1 rfl ?_
  refine g_callV (pc := 5) C (As := [.int x]) (rest := []) (b := w) (c_X9_isNode A P g w x (WD.wb hW)) (WD.wb hW).1 rfl rfl Y_X9_isNode u_385 N_X9_isNode ⟨by decide, by decide⟩ ⟨by decide, by decide⟩ (Nat.le_of_ble_eq_true rfl) rfl dX10_join_5 ?_
  rintro _ _ _ _ ⟨rfl, rfl, rfl, rfl⟩
  show V K 0 0 P A g [(0, .ref (A (w + 15010))), (1, .int x), (2, .int y)] 8 [.int (b32 (decide (¬ x < 0 ∧ x < nI (gK σ))))]
  refine g_if_eq (pc := 8) C dX10_join_8 (tgt := 22) (by decide) (fun c_8 => ?_) (fun c_8 => ?_)
  ·
    refine g_iconst (pc := 22) C dX10_join_22 (v := (-1)) rfl ?_
    exact g_iret (pc := 23) C R ⟨rfl, rfl, Or.inl ⟨Or.inl (b32_yes c_8), rfl, rfl⟩⟩ (by decide) (by decide) dX10_join_23
  ·
    obtain ⟨i, hi, rfl⟩ := isN_ex hK (b32_no c_8)
    refine g_aload_n (pc := 11) C dX10_join_11 0 rfl ?_
    refine g_get (pc := 12) C (j := 1) hO rfl rfl (by decide) u_325 dX10_join_12 ?_
    refine g_iload_n (pc := 15) C dX10_join_15 2 rfl ?_
    refine g_callV (pc := 16) C (As := [.int y]) (rest := []) (b := w) (c_X9_isNode A P g w y (WD.wb hW)) (WD.wb hW).1 rfl rfl Y_X9_isNode u_385 N_X9_isNode ⟨by decide, by decide⟩ ⟨by decide, by decide⟩ (Nat.le_of_ble_eq_true rfl) rfl dX10_join_16 ?_
    rintro _ _ _ _ ⟨rfl, rfl, rfl, rfl⟩
    show V K 0 0 P A g [(0, .ref (A (w + 15010))), (1, .int (nI i)), (2, .int y)] 19 [.int (b32 (decide (¬ y < 0 ∧ y < nI (gK σ))))]
    refine g_if_ne (pc := 19) C dX10_join_19 (tgt := 24) (by decide) (fun c_19 => ?_) (fun c_19 => ?_)
    ·
      obtain ⟨j, hj, rfl⟩ := isN_ex hK (b32_no c_19)
      refine g_aload_n (pc := 24) C dX10_join_24 0 rfl ?_
      refine g_get (pc := 25) C (j := 1) hO rfl rfl (by decide) u_325 dX10_join_25 ?_
      refine g_iload_n (pc := 28) C dX10_join_28 1 rfl ?_
      refine g_callV (pc := 29) C (As := [.int (nI i)]) (rest := []) (b := w) (c_X9_nodeAt A P g w i (by omega) (WD.wb hW)) (WD.wb hW).1 rfl rfl Y_X9_nodeAt u_389 N_X9_nodeAt ⟨by decide, by decide⟩ ⟨by decide, by decide⟩ (Nat.le_of_ble_eq_true rfl) rfl dX10_join_29 ?_
      rintro _ _ _ _ ⟨rfl, rfl, rfl, rfl⟩
      show V K 0 0 P A g [(0, .ref (A (w + 15010))), (1, .int (nI i)), (2, .int (nI j))] 32 [.ref (A (w + 100 + 100 * i))]
      refine g_get (pc := 32) C (j := 1) (WD.nd (i := i) hW (by omega)).1 rfl rfl (by decide) u_134 dX10_join_32 ?_
      refine g_if_eq (pc := 35) C dX10_join_35 (tgt := 52) (by decide) (fun c_35 => ?_) (fun c_35 => ?_)
      ·
        refine g_bipush (pc := 52) C dX10_join_52 (v := (-3)) rfl ?_
        exact g_iret (pc := 54) C R ⟨rfl, rfl, Or.inr ⟨i, j, hi, hj, rfl, rfl, Or.inl ⟨Or.inl (b32_yes c_35), rfl, rfl⟩⟩⟩ (by decide) (by decide) dX10_join_54
      ·
        refine g_aload_n (pc := 38) C dX10_join_38 0 rfl ?_
        refine g_get (pc := 39) C (j := 1) hO rfl rfl (by decide) u_325 dX10_join_39 ?_
        refine g_iload_n (pc := 42) C dX10_join_42 2 rfl ?_
        refine g_callV (pc := 43) C (As := [.int (nI j)]) (rest := []) (b := w) (c_X9_nodeAt A P g w j (by omega) (WD.wb hW)) (WD.wb hW).1 rfl rfl Y_X9_nodeAt u_389 N_X9_nodeAt ⟨by decide, by decide⟩ ⟨by decide, by decide⟩ (Nat.le_of_ble_eq_true rfl) rfl dX10_join_43 ?_
        rintro _ _ _ _ ⟨rfl, rfl, rfl, rfl⟩
        show V K 0 0 P A g [(0, .ref (A (w + 15010))), (1, .int (nI i)), (2, .int (nI j))] 46 [.ref (A (w + 100 + 100 * j))]
        refine g_get (pc := 46) C (j := 1) (WD.nd (i := j) hW (by omega)).1 rfl rfl (by decide) u_134 dX10_join_46 ?_
        refine g_if_ne (pc := 49) C dX10_join_49 (tgt := 55) (by decide) (fun c_49 => ?_) (fun c_49 => ?_)
        ·
          refine g_iload_n (pc := 55) C dX10_join_55 1 rfl ?_
          refine g_iload_n (pc := 56) C dX10_join_56 2 rfl ?_
          refine g_icmp_ne (pc := 57) C dX10_join_57 (tgt := 63) (by decide) (fun c_57 => ?_) (fun c_57 => ?_)
          ·
            have c_57 : ¬ i = j := fun h => c_57 ((nI_eq (a := i) (b := j) (by omega) (by omega)).mpr h)
            refine g_aload_n (pc := 63) C dX10_join_63 0 rfl ?_
            refine g_get (pc := 64) C (j := 1) hO rfl rfl (by decide) u_325 dX10_join_64 ?_
            refine g_iload_n (pc := 67) C dX10_join_67 1 rfl ?_
            refine g_iload_n (pc := 68) C dX10_join_68 2 rfl ?_
            refine g_iconst (pc := 69) C dX10_join_69 (v := nI 1) rfl ?_
            refine g_iconst (pc := 70) C dX10_join_70 (v := nI 0) rfl ?_
            refine g_iconst (pc := 71) C dX10_join_71 (v := nI 0) rfl ?_
            refine g_callV (pc := 72) C (As := [.int (nI i), .int (nI j), .int (nI 1), .int (nI 0), .int (nI 0)]) (rest := []) (b := w) (c_X9_send A P g w i j 1 0 0 (by omega) (by omega) (by omega) (by omega) (by omega) hW) (WD.wb hW).1 rfl rfl Y_X9_send u_394 N_X9_send ⟨by decide, by decide⟩ ⟨by decide, by decide⟩ (Nat.le_of_ble_eq_true rfl) rfl dX10_join_72 ?_
            rintro v0 _ _ g_1 ⟨rfl, rfl, hf_2, hcase⟩
            have hW_3 : WD A g_1 w (w + 15005) (snd σ i j 1 0 0 []) := by rcases hcase with ⟨_, _, q⟩ | ⟨_, _, _, _, _, q, _⟩; exact q; exact q
            obtain ⟨vv, hvc, hvv⟩ : ∃ vv : Value, vv.category = 1 ∧ v0 = some vv := by rcases hcase with ⟨_, e, _⟩ | ⟨_, _, _, e, _, _, _⟩; exact ⟨_, rfl, e⟩; exact ⟨_, rfl, e⟩
            subst hvv
            clear hcase
            have hf_4 : Fr g g_1 (w + 3) (w + 3500) := FrR.fr hf_2
            have h_5 := hf_4.at (by omega) hO
            have h_6 := hf_4.at (by omega) hT
            have h_7 := hf_4.at (by omega) hV
            have hp_8 := CO.fr hC hf_4 (by omega)
            have hp_9 := NLN.fr hP hf_4 (by omega)
            have hp_10 := NLN.fr hL hf_4 (by omega)
            show V K 0 0 P A g_1 [(0, .ref (A (w + 15010))), (1, .int (nI i)), (2, .int (nI j))] 75 [vv]
            refine g_pop (pc := 75) C dX10_join_75 hvc ?_
            refine g_aload_n (pc := 76) C dX10_join_76 0 rfl ?_
            refine g_get (pc := 77) C (j := 1) h_5 rfl rfl (by decide) u_325 dX10_join_77 ?_
            refine g_get (pc := 80) C (j := 4) (WD.wb hW_3).1 rfl rfl (by decide) u_254 dX10_join_80 ?_
            refine g_get (pc := 83) C (j := 2) (RW.ex (WD.rw hW_3)).choose_spec rfl rfl (by decide) u_231 dX10_join_83 ?_
            have hf0 : Fr g g_1 w (w + 5000) := fun k hk => by rw [hf_2 k (by omega)]
            exact g_iret (pc := 86) C R ⟨rfl, rfl, Or.inr ⟨i, j, hi, hj, rfl, rfl, Or.inr ⟨b32_no c_35, b32_no c_49, Or.inr ⟨c_57, rfl, hX.v hf0 hW_3⟩⟩⟩⟩ (by decide) (by decide) dX10_join_86
          ·
            have c_57 : i = j := (nI_eq (by omega) (by omega)).mp c_57
            refine g_bipush (pc := 60) C dX10_join_60 (v := (-5)) rfl ?_
            exact g_iret (pc := 62) C R ⟨rfl, rfl, Or.inr ⟨i, j, hi, hj, rfl, rfl, Or.inr ⟨b32_no c_35, b32_no c_49, Or.inl ⟨c_57, rfl, rfl⟩⟩⟩⟩ (by decide) (by decide) dX10_join_62
        ·
          refine g_bipush (pc := 52) C dX10_join_52 (v := (-3)) rfl ?_
          exact g_iret (pc := 54) C R ⟨rfl, rfl, Or.inr ⟨i, j, hi, hj, rfl, rfl, Or.inl ⟨Or.inr (b32_yes c_49), rfl, rfl⟩⟩⟩ (by decide) (by decide) dX10_join_54
    ·
      refine g_iconst (pc := 22) C dX10_join_22 (v := (-1)) rfl ?_
      exact g_iret (pc := 23) C R ⟨rfl, rfl, Or.inl ⟨Or.inr (b32_yes c_19), rfl, rfl⟩⟩ (by decide) (by decide) dX10_join_23
abbrev rm_X10_came : Room := { frames := 0, cells := 0, slots := 0, locals := 0 }
theorem Y_X10_came : pY yX10_came cX10_came 2 (Option.some Jvm.ClassFile.FieldType.int) := ⟨u_775, u_776, u_1, u_777⟩
theorem N_X10_came : yX10_came.cls ≠ "java/lang/invoke/MethodHandle" ∧ yX10_came.cls ≠ "java/lang/invoke/VarHandle" ∧ (parseMethodDescriptor yX10_came.desc).map (fun d => d.parameters.length) = some 1 := by decide +kernel
set_option maxRecDepth 20000 in
set_option maxHeartbeats 4000000 in
theorem c_X10_came (A : Nat → Nat) (P : List Nat) (g : pM) (w : Nat) {σ : Sg} (x : Int32) (hO : g (w + 15010) = vOb A w) (hW : WD A g w (w + 15005) σ) : PM yX10_came cX10_came 2 (Option.some Jvm.ClassFile.FieldType.int) rm_X10_came [.ref (A (w + 15010)), .int x] P A g (fun v g' => (((x < 0 ∨ ¬ x ≤ nI 12) ∧ v = some (.int (-2))) ∨ (∃ k, k ≤ 12 ∧ x = nI k ∧ v = some (.int (gC σ k)))) ∧ g = g') := by
  have hK := hW.k16
  have hT24 : gT σ ≤ 24 := hW.2.2.2.2.2.2.2.2
  obtain ⟨ra, ha1, ha2⟩ := hW.2.2.2.2.2.2.1
  refine px_intro (by decide +kernel) (Nat.le_of_ble_eq_true rfl) (fun K sz C R => ?_)
  show V K 0 0 P A g [(0, .ref (A (w + 15010))), (1, .int x)] 0 []
  refine g_iload_n (pc := 0) C dX10_came_0 1 rfl ?_
  refine g_if_lt (pc := 1) C dX10_came_1 (tgt := 10) (by decide) (fun c_1 => ?_) (fun c_1 => ?_)
  ·
    refine g_bipush (pc := 10) C dX10_came_10 (v := (-2)) rfl ?_
    exact g_iret (pc := 12) C R ⟨rfl, rfl, Or.inl ⟨Or.inl c_1, rfl⟩, rfl⟩ (by decide) (by decide) dX10_came_12
  ·
    refine g_iload_n (pc := 4) C dX10_came_4 1 rfl ?_
    refine g_bipush (pc := 5) C dX10_came_5 (v := nI 12) rfl ?_
    refine g_icmp_le (pc := 7) C dX10_came_7 (tgt := 13) (by decide) (fun c_7 => ?_) (fun c_7 => ?_)
    ·
      obtain ⟨k, -, hk, rfl⟩ := rg_ex (lo := 0) (hi := 12) (by omega) (by omega) c_1 (i32_nlt c_7)
      refine g_aload_n (pc := 13) C dX10_came_13 0 rfl ?_
      refine g_get (pc := 14) C (j := 1) hO rfl rfl (by decide) u_325 dX10_came_14 ?_
      refine g_get (pc := 17) C (j := 6) (WD.wb hW).1 rfl rfl (by decide) u_257 dX10_came_17 ?_
      refine g_iload_n (pc := 20) C dX10_came_20 1 rfl ?_
      refine g_iald (pc := 21) C ha1 (nI_clamp (by omega)) (nI_in0 (n := 13) (by omega) (by omega)) dX10_came_21 (x := ra k) rfl ?_
      exact g_iret (pc := 22) C R ⟨rfl, rfl, Or.inr ⟨k, hk, rfl, by rw [ha2 k (by omega)]⟩, rfl⟩ (by decide) (by decide) dX10_came_22
    ·
      refine g_bipush (pc := 10) C dX10_came_10 (v := (-2)) rfl ?_
      exact g_iret (pc := 12) C R ⟨rfl, rfl, Or.inl ⟨Or.inr c_7, rfl⟩, rfl⟩ (by decide) (by decide) dX10_came_12
abbrev rm_X10_missed : Room := { frames := 2, cells := 0, slots := 0, locals := 42 }
theorem Y_X10_missed : pY yX10_missed cX10_missed 3 (Option.some Jvm.ClassFile.FieldType.int) := ⟨u_721, u_722, u_1, u_723⟩
theorem N_X10_missed : yX10_missed.cls ≠ "java/lang/invoke/MethodHandle" ∧ yX10_missed.cls ≠ "java/lang/invoke/VarHandle" ∧ (parseMethodDescriptor yX10_missed.desc).map (fun d => d.parameters.length) = some 2 := by decide +kernel
set_option maxRecDepth 20000 in
set_option maxHeartbeats 4000000 in
theorem c_X10_missed (A : Nat → Nat) (P : List Nat) (g : pM) (w : Nat) {σ : Sg} (x y : Int32) (hO : g (w + 15010) = vOb A w) (hW : WD A g w (w + 15005) σ) : PM yX10_missed cX10_missed 3 (Option.some Jvm.ClassFile.FieldType.int) rm_X10_missed [.ref (A (w + 15010)), .int x, .int y] P A g (fun v g' => (((isN σ x = false ∨ isT σ y = false) ∧ v = some (.int (-1))) ∨ (∃ i t, i < gK σ ∧ t < gT σ ∧ x = nI i ∧ y = nI t ∧ v = some (.int (nI (miL (nMi (gN σ i) t)).length)))) ∧ g = g') := by
  have hK := hW.k16
  have hT24 : gT σ ≤ 24 := hW.2.2.2.2.2.2.2.2
  refine px_intro (by decide +kernel) (Nat.le_of_ble_eq_true rfl) (fun K sz C R => ?_)
  show V K 0 0 P A g [(0, .ref (A (w + 15010))), (1, .int x), (2, .int y)] 0 []
  refine g_aload_n (pc := 0) C dX10_missed_0 0 rfl ?_
  refine g_get (pc := 1) C (j := 1) hO rfl rfl (by decide) u_325 dX10_missed_1 ?_
  refine g_iload_n (pc := 4) C dX10_missed_4 1 rfl ?_
  refine g_callV (pc := 5) C (As := [.int x]) (rest := []) (b := w) (c_X9_isNode A P g w x (WD.wb hW)) (WD.wb hW).1 rfl rfl Y_X9_isNode u_385 N_X9_isNode ⟨by decide, by decide⟩ ⟨by decide, by decide⟩ (Nat.le_of_ble_eq_true rfl) rfl dX10_missed_5 ?_
  rintro _ _ _ _ ⟨rfl, rfl, rfl, rfl⟩
  show V K 0 0 P A g [(0, .ref (A (w + 15010))), (1, .int x), (2, .int y)] 8 [.int (b32 (decide (¬ x < 0 ∧ x < nI (gK σ))))]
  refine g_if_eq (pc := 8) C dX10_missed_8 (tgt := 22) (by decide) (fun c_8 => ?_) (fun c_8 => ?_)
  ·
    refine g_iconst (pc := 22) C dX10_missed_22 (v := (-1)) rfl ?_
    exact g_iret (pc := 23) C R ⟨rfl, rfl, Or.inl ⟨Or.inl (b32_yes c_8), rfl⟩, rfl⟩ (by decide) (by decide) dX10_missed_23
  ·
    obtain ⟨i, hi, rfl⟩ := isN_ex hK (b32_no c_8)
    refine g_aload_n (pc := 11) C dX10_missed_11 0 rfl ?_
    refine g_get (pc := 12) C (j := 1) hO rfl rfl (by decide) u_325 dX10_missed_12 ?_
    refine g_iload_n (pc := 15) C dX10_missed_15 2 rfl ?_
    refine g_callV (pc := 16) C (As := [.int y]) (rest := []) (b := w) (c_X9_isTale A P g w y (WD.wb hW)) (WD.wb hW).1 rfl rfl Y_X9_isTale u_715 N_X9_isTale ⟨by decide, by decide⟩ ⟨by decide, by decide⟩ (Nat.le_of_ble_eq_true rfl) rfl dX10_missed_16 ?_
    rintro _ _ _ _ ⟨rfl, rfl, rfl, rfl⟩
    show V K 0 0 P A g [(0, .ref (A (w + 15010))), (1, .int (nI i)), (2, .int y)] 19 [.int (b32 (decide (¬ y < 0 ∧ y < nI (gT σ))))]
    refine g_if_ne (pc := 19) C dX10_missed_19 (tgt := 24) (by decide) (fun c_19 => ?_) (fun c_19 => ?_)
    ·
      obtain ⟨t, ht, rfl⟩ := isK_ex (by omega) (b32_no c_19)
      refine g_aload_n (pc := 24) C dX10_missed_24 0 rfl ?_
      refine g_get (pc := 25) C (j := 1) hO rfl rfl (by decide) u_325 dX10_missed_25 ?_
      refine g_iload_n (pc := 28) C dX10_missed_28 1 rfl ?_
      refine g_callV (pc := 29) C (As := [.int (nI i)]) (rest := []) (b := w) (c_X9_nodeAt A P g w i (by omega) (WD.wb hW)) (WD.wb hW).1 rfl rfl Y_X9_nodeAt u_389 N_X9_nodeAt ⟨by decide, by decide⟩ ⟨by decide, by decide⟩ (Nat.le_of_ble_eq_true rfl) rfl dX10_missed_29 ?_
      rintro _ _ _ _ ⟨rfl, rfl, rfl, rfl⟩
      show V K 0 0 P A g [(0, .ref (A (w + 15010))), (1, .int (nI i)), (2, .int (nI t))] 32 [.ref (A (w + 100 + 100 * i))]
      refine g_iload_n (pc := 32) C dX10_missed_32 2 rfl ?_
      refine g_callV (pc := 33) C (As := [.int (nI t)]) (rest := []) (b := (w + 100 + 100 * i)) (c_X3_missOf A P g (w + 100 + 100 * i) t (by omega) (WD.nd (i := i) hW (by omega))) (WD.nd (i := i) hW (by omega)).1 rfl rfl Y_X3_missOf u_724 N_X3_missOf ⟨by decide, by decide⟩ ⟨by decide, by decide⟩ (Nat.le_of_ble_eq_true rfl) rfl dX10_missed_33 ?_
      rintro _ _ _ _ ⟨rfl, rfl, rfl, rfl⟩
      show V K 0 0 P A g [(0, .ref (A (w + 15010))), (1, .int (nI i)), (2, .int (nI t))] 36 [.ref (A (w + 100 + 100 * i + 10 + 3 * t))]
      refine g_get (pc := 36) C (j := 2) ((WD.nd (i := i) hW (by omega)).2.2.2.2.2 t (by omega)).1 rfl rfl (by decide) u_121 dX10_missed_36 ?_
      refine g_get (pc := 39) C (j := 1) (NLN.o ((WD.nd (i := i) hW (by omega)).2.2.2.2.2 t (by omega)).2) rfl rfl (by decide) u_97 dX10_missed_39 ?_
      exact g_iret (pc := 42) C R ⟨rfl, rfl, Or.inr ⟨i, t, hi, ht, rfl, rfl, rfl⟩, rfl⟩ (by decide) (by decide) dX10_missed_42
    ·
      refine g_iconst (pc := 22) C dX10_missed_22 (v := (-1)) rfl ?_
      exact g_iret (pc := 23) C R ⟨rfl, rfl, Or.inl ⟨Or.inr (b32_yes c_19), rfl⟩, rfl⟩ (by decide) (by decide) dX10_missed_23
abbrev rm_X10_how : Room := { frames := 2, cells := 0, slots := 0, locals := 43 }
theorem Y_X10_how : pY yX10_how cX10_how 4 (Option.some Jvm.ClassFile.FieldType.int) := ⟨u_706, u_707, u_1, u_708⟩
theorem N_X10_how : yX10_how.cls ≠ "java/lang/invoke/MethodHandle" ∧ yX10_how.cls ≠ "java/lang/invoke/VarHandle" ∧ (parseMethodDescriptor yX10_how.desc).map (fun d => d.parameters.length) = some 2 := by decide +kernel
set_option maxRecDepth 20000 in
set_option maxHeartbeats 4000000 in
theorem c_X10_how (A : Nat → Nat) (P : List Nat) (g : pM) (w : Nat) {σ : Sg} (x y : Int32) (hw : ∀ i, i < gK σ → ndW (gN σ i)) (hO : g (w + 15010) = vOb A w) (hW : WD A g w (w + 15005) σ) : PM yX10_how cX10_how 4 (Option.some Jvm.ClassFile.FieldType.int) rm_X10_how [.ref (A (w + 15010)), .int x, .int y] P A g (fun v g' => (((isN σ x = false ∨ isN σ y = false) ∧ v = some (.int (-1))) ∨ (∃ i j, i < gK σ ∧ j < gK σ ∧ x = nI i ∧ y = nI j ∧ v = some (.int (nI (hwA σ i j))))) ∧ g = g') := by
  have hK := hW.k16
  have hT24 : gT σ ≤ 24 := hW.2.2.2.2.2.2.2.2
  refine px_intro (by decide +kernel) (Nat.le_of_ble_eq_true rfl) (fun K sz C R => ?_)
  show V K 0 0 P A g [(0, .ref (A (w + 15010))), (1, .int x), (2, .int y)] 0 []
  refine g_aload_n (pc := 0) C dX10_how_0 0 rfl ?_
  refine g_get (pc := 1) C (j := 1) hO rfl rfl (by decide) u_325 dX10_how_1 ?_
  refine g_iload_n (pc := 4) C dX10_how_4 1 rfl ?_
  refine g_callV (pc := 5) C (As := [.int x]) (rest := []) (b := w) (c_X9_isNode A P g w x (WD.wb hW)) (WD.wb hW).1 rfl rfl Y_X9_isNode u_385 N_X9_isNode ⟨by decide, by decide⟩ ⟨by decide, by decide⟩ (Nat.le_of_ble_eq_true rfl) rfl dX10_how_5 ?_
  rintro _ _ _ _ ⟨rfl, rfl, rfl, rfl⟩
  show V K 0 0 P A g [(0, .ref (A (w + 15010))), (1, .int x), (2, .int y)] 8 [.int (b32 (decide (¬ x < 0 ∧ x < nI (gK σ))))]
  refine g_if_eq (pc := 8) C dX10_how_8 (tgt := 22) (by decide) (fun c_8 => ?_) (fun c_8 => ?_)
  ·
    refine g_iconst (pc := 22) C dX10_how_22 (v := (-1)) rfl ?_
    exact g_iret (pc := 23) C R ⟨rfl, rfl, Or.inl ⟨Or.inl (b32_yes c_8), rfl⟩, rfl⟩ (by decide) (by decide) dX10_how_23
  ·
    obtain ⟨i, hi, rfl⟩ := isN_ex hK (b32_no c_8)
    refine g_aload_n (pc := 11) C dX10_how_11 0 rfl ?_
    refine g_get (pc := 12) C (j := 1) hO rfl rfl (by decide) u_325 dX10_how_12 ?_
    refine g_iload_n (pc := 15) C dX10_how_15 2 rfl ?_
    refine g_callV (pc := 16) C (As := [.int y]) (rest := []) (b := w) (c_X9_isNode A P g w y (WD.wb hW)) (WD.wb hW).1 rfl rfl Y_X9_isNode u_385 N_X9_isNode ⟨by decide, by decide⟩ ⟨by decide, by decide⟩ (Nat.le_of_ble_eq_true rfl) rfl dX10_how_16 ?_
    rintro _ _ _ _ ⟨rfl, rfl, rfl, rfl⟩
    show V K 0 0 P A g [(0, .ref (A (w + 15010))), (1, .int (nI i)), (2, .int y)] 19 [.int (b32 (decide (¬ y < 0 ∧ y < nI (gK σ))))]
    refine g_if_ne (pc := 19) C dX10_how_19 (tgt := 24) (by decide) (fun c_19 => ?_) (fun c_19 => ?_)
    ·
      obtain ⟨j, hj, rfl⟩ := isN_ex hK (b32_no c_19)
      have hwi := hw i hi
      refine g_aload_n (pc := 24) C dX10_how_24 0 rfl ?_
      refine g_get (pc := 25) C (j := 1) hO rfl rfl (by decide) u_325 dX10_how_25 ?_
      refine g_iload_n (pc := 28) C dX10_how_28 1 rfl ?_
      refine g_callV (pc := 29) C (As := [.int (nI i)]) (rest := []) (b := w) (c_X9_nodeAt A P g w i (by omega) (WD.wb hW)) (WD.wb hW).1 rfl rfl Y_X9_nodeAt u_389 N_X9_nodeAt ⟨by decide, by decide⟩ ⟨by decide, by decide⟩ (Nat.le_of_ble_eq_true rfl) rfl dX10_how_29 ?_
      rintro _ _ _ _ ⟨rfl, rfl, rfl, rfl⟩
      show V K 0 0 P A g [(0, .ref (A (w + 15010))), (1, .int (nI i)), (2, .int (nI j))] 32 [.ref (A (w + 100 + 100 * i))]
      refine g_astore_n (pc := 32) C dX10_how_32 (by decide) (lv' := [(0, .ref (A (w + 15010))), (1, .int (nI i)), (2, .int (nI j)), (3, .ref (A (w + 100 + 100 * i)))]) [1, 2, 3, 0] rfl ?_
      refine g_aload_n (pc := 33) C dX10_how_33 3 rfl ?_
      refine g_get (pc := 34) C (j := 2) (WD.nd (i := i) hW (by omega)).1 rfl rfl (by decide) u_141 dX10_how_34 ?_
      refine g_iload_n (pc := 37) C dX10_how_37 2 rfl ?_
      refine g_callV (pc := 38) C (As := [.int (nI j)]) (rest := []) (b := (w + 100 + 100 * i + 1)) (n_X4_has A P g (w + 100 + 100 * i + 1) j (by omega) (WD.nd (i := i) hW (by omega)).2.1) (NLN.o (WD.nd (i := i) hW (by omega)).2.1) rfl rfl Y_X4_has u_709 N_X4_has ⟨by decide, by decide⟩ ⟨by decide, by decide⟩ (Nat.le_of_ble_eq_true rfl) rfl dX10_how_38 ?_
      rintro _ _ _ _ ⟨rfl, rfl, rfl, rfl⟩
      show V K 0 0 P A g [(0, .ref (A (w + 15010))), (1, .int (nI i)), (2, .int (nI j)), (3, .ref (A (w + 100 + 100 * i)))] 41 [.int (b32 (decide (j ∈ nAc (gN σ i))))]
      refine g_if_eq (pc := 41) C dX10_how_41 (tgt := 58) (by decide) (fun c_41 => ?_) (fun c_41 => ?_)
      ·
        refine g_aload_n (pc := 58) C dX10_how_58 3 rfl ?_
        refine g_get (pc := 59) C (j := 3) (WD.nd (i := i) hW (by omega)).1 rfl rfl (by decide) u_144 dX10_how_59 ?_
        refine g_iload_n (pc := 62) C dX10_how_62 2 rfl ?_
        refine g_callV (pc := 63) C (As := [.int (nI j)]) (rest := []) (b := (w + 100 + 100 * i + 3)) (n_X4_has A P g (w + 100 + 100 * i + 3) j (by omega) (WD.nd (i := i) hW (by omega)).2.2.1) (NLN.o (WD.nd (i := i) hW (by omega)).2.2.1) rfl rfl Y_X4_has u_709 N_X4_has ⟨by decide, by decide⟩ ⟨by decide, by decide⟩ (Nat.le_of_ble_eq_true rfl) rfl dX10_how_63 ?_
        rintro _ _ _ _ ⟨rfl, rfl, rfl, rfl⟩
        show V K 0 0 P A g [(0, .ref (A (w + 15010))), (1, .int (nI i)), (2, .int (nI j)), (3, .ref (A (w + 100 + 100 * i)))] 66 [.int (b32 (decide (j ∈ nPa (gN σ i))))]
        refine g_if_eq (pc := 66) C dX10_how_66 (tgt := 73) (by decide) (fun c_66 => ?_) (fun c_66 => ?_)
        ·
          refine g_iconst (pc := 73) C dX10_how_73 (v := nI 0) rfl ?_
          exact g_iret (pc := 74) C R ⟨rfl, rfl, Or.inr ⟨i, j, hi, hj, rfl, rfl, by rw [show hwA σ i j = 0 from (if_neg (of_decide_eq_false (b32_yes c_41))).trans (if_neg (of_decide_eq_false (b32_yes c_66)))]⟩, rfl⟩ (by decide) (by decide) dX10_how_74
        ·
          refine g_iconst (pc := 69) C dX10_how_69 (v := nI 3) rfl ?_
          refine g_goto (pc := 70) C dX10_how_70 (tgt := 74) (by decide) ?_
          exact g_iret (pc := 74) C R ⟨rfl, rfl, Or.inr ⟨i, j, hi, hj, rfl, rfl, by rw [show hwA σ i j = 3 from (if_neg (of_decide_eq_false (b32_yes c_41))).trans (if_pos (of_decide_eq_true (b32_no c_66)))]⟩, rfl⟩ (by decide) (by decide) dX10_how_74
      ·
        refine g_aload_n (pc := 44) C dX10_how_44 3 rfl ?_
        refine g_iload_n (pc := 45) C dX10_how_45 2 rfl ?_
        refine g_callV (pc := 46) C (As := [.int (nI j)]) (rest := []) (b := (w + 100 + 100 * i)) (c_X3_isLazy A P g (w + 100 + 100 * i) j (by omega) (by assumption) (WD.nd (i := i) hW (by omega))) (WD.nd (i := i) hW (by omega)).1 rfl rfl Y_X3_isLazy u_710 N_X3_isLazy ⟨by decide, by decide⟩ ⟨by decide, by decide⟩ (Nat.le_of_ble_eq_true rfl) rfl dX10_how_46 ?_
        rintro _ _ _ _ ⟨rfl, rfl, rfl, rfl⟩
        show V K 0 0 P A g [(0, .ref (A (w + 15010))), (1, .int (nI i)), (2, .int (nI j)), (3, .ref (A (w + 100 + 100 * i)))] 49 [.int (b32 ((nLz (gN σ i)).testBit j))]
        refine g_if_eq (pc := 49) C dX10_how_49 (tgt := 56) (by decide) (fun c_49 => ?_) (fun c_49 => ?_)
        ·
          refine g_iconst (pc := 56) C dX10_how_56 (v := nI 1) rfl ?_
          exact g_iret (pc := 57) C R ⟨rfl, rfl, Or.inr ⟨i, j, hi, hj, rfl, rfl, by rw [show hwA σ i j = 1 from (if_pos (of_decide_eq_true (b32_no c_41))).trans (if_neg (by rw [b32_yes c_49]; decide))]⟩, rfl⟩ (by decide) (by decide) dX10_how_57
        ·
          refine g_iconst (pc := 52) C dX10_how_52 (v := nI 2) rfl ?_
          refine g_goto (pc := 53) C dX10_how_53 (tgt := 57) (by decide) ?_
          exact g_iret (pc := 57) C R ⟨rfl, rfl, Or.inr ⟨i, j, hi, hj, rfl, rfl, by rw [show hwA σ i j = 2 from (if_pos (of_decide_eq_true (b32_no c_41))).trans (if_pos (b32_no c_49))]⟩, rfl⟩ (by decide) (by decide) dX10_how_57
    ·
      refine g_iconst (pc := 22) C dX10_how_22 (v := (-1)) rfl ?_
      exact g_iret (pc := 23) C R ⟨rfl, rfl, Or.inl ⟨Or.inr (b32_yes c_19), rfl⟩, rfl⟩ (by decide) (by decide) dX10_how_23
abbrev rm_X10_view : Room := { frames := 2, cells := 0, slots := 0, locals := 42 }
theorem Y_X10_view : pY yX10_view cX10_view 6 (Option.some Jvm.ClassFile.FieldType.int) := ⟨u_701, u_702, u_1, u_703⟩
theorem N_X10_view : yX10_view.cls ≠ "java/lang/invoke/MethodHandle" ∧ yX10_view.cls ≠ "java/lang/invoke/VarHandle" ∧ (parseMethodDescriptor yX10_view.desc).map (fun d => d.parameters.length) = some 3 := by decide +kernel
set_option maxRecDepth 20000 in
set_option maxHeartbeats 4000000 in
theorem c_X10_view (A : Nat → Nat) (P : List Nat) (g : pM) (w : Nat) {σ : Sg} (x y z : Int32) (hO : g (w + 15010) = vOb A w) (hW : WD A g w (w + 15005) σ) : PM yX10_view cX10_view 6 (Option.some Jvm.ClassFile.FieldType.int) rm_X10_view [.ref (A (w + 15010)), .int x, .int y, .int z] P A g (fun v g' => ((isN σ x = false ∧ v = some (.int (-1))) ∨ (∃ i, i < gK σ ∧ x = nI i ∧ ((¬ y = 0 ∧ ¬ y = nI 1 ∧ v = some (.int (-2))) ∨ (y = 0 ∧ v = some (.int (lsA (nAc (gN σ i)) z))) ∨ (y = nI 1 ∧ v = some (.int (lsA (nPa (gN σ i)) z)))))) ∧ g = g') := by
  have hK := hW.k16
  have hT24 : gT σ ≤ 24 := hW.2.2.2.2.2.2.2.2
  refine px_intro (by decide +kernel) (Nat.le_of_ble_eq_true rfl) (fun K sz C R => ?_)
  show V K 0 0 P A g [(0, .ref (A (w + 15010))), (1, .int x), (2, .int y), (3, .int z)] 0 []
  refine g_aload_n (pc := 0) C dX10_view_0 0 rfl ?_
  refine g_get (pc := 1) C (j := 1) hO rfl rfl (by decide) u_325 dX10_view_1 ?_
  refine g_iload_n (pc := 4) C dX10_view_4 1 rfl ?_
  refine g_callV (pc := 5) C (As := [.int x]) (rest := []) (b := w) (c_X9_isNode A P g w x (WD.wb hW)) (WD.wb hW).1 rfl rfl Y_X9_isNode u_385 N_X9_isNode ⟨by decide, by decide⟩ ⟨by decide, by decide⟩ (Nat.le_of_ble_eq_true rfl) rfl dX10_view_5 ?_
  rintro _ _ _ _ ⟨rfl, rfl, rfl, rfl⟩
  show V K 0 0 P A g [(0, .ref (A (w + 15010))), (1, .int x), (2, .int y), (3, .int z)] 8 [.int (b32 (decide (¬ x < 0 ∧ x < nI (gK σ))))]
  refine g_if_ne (pc := 8) C dX10_view_8 (tgt := 13) (by decide) (fun c_8 => ?_) (fun c_8 => ?_)
  ·
    obtain ⟨i, hi, rfl⟩ := isN_ex hK (b32_no c_8)
    refine g_iload_n (pc := 13) C dX10_view_13 2 rfl ?_
    refine g_if_eq (pc := 14) C dX10_view_14 (tgt := 25) (by decide) (fun c_14 => ?_) (fun c_14 => ?_)
    ·
      refine g_aload_n (pc := 25) C dX10_view_25 0 rfl ?_
      refine g_get (pc := 26) C (j := 1) hO rfl rfl (by decide) u_325 dX10_view_26 ?_
      refine g_iload_n (pc := 29) C dX10_view_29 1 rfl ?_
      refine g_callV (pc := 30) C (As := [.int (nI i)]) (rest := []) (b := w) (c_X9_nodeAt A P g w i (by omega) (WD.wb hW)) (WD.wb hW).1 rfl rfl Y_X9_nodeAt u_389 N_X9_nodeAt ⟨by decide, by decide⟩ ⟨by decide, by decide⟩ (Nat.le_of_ble_eq_true rfl) rfl dX10_view_30 ?_
      rintro _ _ _ _ ⟨rfl, rfl, rfl, rfl⟩
      show V K 0 0 P A g [(0, .ref (A (w + 15010))), (1, .int (nI i)), (2, .int y), (3, .int z)] 33 [.ref (A (w + 100 + 100 * i))]
      refine g_astore (pc := 33) C dX10_view_33 (by decide) (lv' := [(0, .ref (A (w + 15010))), (1, .int (nI i)), (2, .int y), (3, .int z), (4, .ref (A (w + 100 + 100 * i)))]) [1, 2, 3, 4, 0] rfl ?_
      refine g_iload_n (pc := 35) C dX10_view_35 2 rfl ?_
      refine g_if_ne (pc := 36) C dX10_view_36 (tgt := 47) (by decide) (fun c_36 => ?_) (fun c_36 => ?_)
      ·
        exact absurd c_14 c_36
      ·
        refine g_aload (pc := 39) C dX10_view_39 4 rfl ?_
        refine g_get (pc := 41) C (j := 2) (WD.nd (i := i) hW (by omega)).1 rfl rfl (by decide) u_141 dX10_view_41 ?_
        refine g_goto (pc := 44) C dX10_view_44 (tgt := 52) (by decide) ?_
        refine g_astore (pc := 52) C dX10_view_52 (by decide) (lv' := [(0, .ref (A (w + 15010))), (1, .int (nI i)), (2, .int y), (3, .int z), (4, .ref (A (w + 100 + 100 * i))), (5, .ref (A (w + 100 + 100 * i + 1)))]) [1, 2, 3, 4, 5, 0] rfl ?_
        refine g_iload_n (pc := 54) C dX10_view_54 3 rfl ?_
        refine g_iconst (pc := 55) C dX10_view_55 (v := (-1)) rfl ?_
        refine g_icmp_ne (pc := 56) C dX10_view_56 (tgt := 67) (by decide) (fun c_56 => ?_) (fun c_56 => ?_)
        ·
          refine g_aload (pc := 67) C dX10_view_67 5 rfl ?_
          refine g_iload_n (pc := 69) C dX10_view_69 3 rfl ?_
          refine g_callV (pc := 70) C (As := [.int z]) (rest := []) (b := (w + 100 + 100 * i + 1)) (c_X4_at A P g (w + 100 + 100 * i + 1) z (hW.nd hi).2.1.1) (NLN.o (WD.nd (i := i) hW (by omega)).2.1) rfl rfl Y_X4_at u_704 N_X4_at ⟨by decide, by decide⟩ ⟨by decide, by decide⟩ (Nat.le_of_ble_eq_true rfl) rfl dX10_view_70 ?_
          rintro _ _ _ _ ⟨rfl, rfl, rfl, rfl⟩
          show V K 0 0 P A g [(0, .ref (A (w + 15010))), (1, .int (nI i)), (2, .int y), (3, .int z), (4, .ref (A (w + 100 + 100 * i))), (5, .ref (A (w + 100 + 100 * i + 1)))] 73 [.int (nlAt (List.map nI (nAc (gN σ i))) z)]
          exact g_iret (pc := 73) C R ⟨rfl, rfl, Or.inr ⟨i, hi, rfl, Or.inr (Or.inl ⟨c_36, by rw [lsA, if_neg (show ¬ z = -1 from c_56)]⟩)⟩, rfl⟩ (by decide) (by decide) dX10_view_73
        ·
          refine g_aload (pc := 59) C dX10_view_59 5 rfl ?_
          refine g_get (pc := 61) C (j := 1) (NLN.o (WD.nd (i := i) hW (by omega)).2.1) rfl rfl (by decide) u_97 dX10_view_61 ?_
          refine g_goto (pc := 64) C dX10_view_64 (tgt := 73) (by decide) ?_
          exact g_iret (pc := 73) C R ⟨rfl, rfl, Or.inr ⟨i, hi, rfl, Or.inr (Or.inl ⟨c_36, by rw [lsA, if_pos (show z = -1 from c_56)]⟩)⟩, rfl⟩ (by decide) (by decide) dX10_view_73
    ·
      refine g_iload_n (pc := 17) C dX10_view_17 2 rfl ?_
      refine g_iconst (pc := 18) C dX10_view_18 (v := nI 1) rfl ?_
      refine g_icmp_eq (pc := 19) C dX10_view_19 (tgt := 25) (by decide) (fun c_19 => ?_) (fun c_19 => ?_)
      ·
        refine g_aload_n (pc := 25) C dX10_view_25 0 rfl ?_
        refine g_get (pc := 26) C (j := 1) hO rfl rfl (by decide) u_325 dX10_view_26 ?_
        refine g_iload_n (pc := 29) C dX10_view_29 1 rfl ?_
        refine g_callV (pc := 30) C (As := [.int (nI i)]) (rest := []) (b := w) (c_X9_nodeAt A P g w i (by omega) (WD.wb hW)) (WD.wb hW).1 rfl rfl Y_X9_nodeAt u_389 N_X9_nodeAt ⟨by decide, by decide⟩ ⟨by decide, by decide⟩ (Nat.le_of_ble_eq_true rfl) rfl dX10_view_30 ?_
        rintro _ _ _ _ ⟨rfl, rfl, rfl, rfl⟩
        show V K 0 0 P A g [(0, .ref (A (w + 15010))), (1, .int (nI i)), (2, .int y), (3, .int z)] 33 [.ref (A (w + 100 + 100 * i))]
        refine g_astore (pc := 33) C dX10_view_33 (by decide) (lv' := [(0, .ref (A (w + 15010))), (1, .int (nI i)), (2, .int y), (3, .int z), (4, .ref (A (w + 100 + 100 * i)))]) [1, 2, 3, 4, 0] rfl ?_
        refine g_iload_n (pc := 35) C dX10_view_35 2 rfl ?_
        refine g_if_ne (pc := 36) C dX10_view_36 (tgt := 47) (by decide) (fun c_36 => ?_) (fun c_36 => ?_)
        ·
          have vi1 : y = nI 1 := c_19
          refine g_aload (pc := 47) C dX10_view_47 4 rfl ?_
          refine g_get (pc := 49) C (j := 3) (WD.nd (i := i) hW (by omega)).1 rfl rfl (by decide) u_144 dX10_view_49 ?_
          refine g_astore (pc := 52) C dX10_view_52 (by decide) (lv' := [(0, .ref (A (w + 15010))), (1, .int (nI i)), (2, .int y), (3, .int z), (4, .ref (A (w + 100 + 100 * i))), (5, .ref (A (w + 100 + 100 * i + 3)))]) [1, 2, 3, 4, 5, 0] rfl ?_
          refine g_iload_n (pc := 54) C dX10_view_54 3 rfl ?_
          refine g_iconst (pc := 55) C dX10_view_55 (v := (-1)) rfl ?_
          refine g_icmp_ne (pc := 56) C dX10_view_56 (tgt := 67) (by decide) (fun c_56 => ?_) (fun c_56 => ?_)
          ·
            refine g_aload (pc := 67) C dX10_view_67 5 rfl ?_
            refine g_iload_n (pc := 69) C dX10_view_69 3 rfl ?_
            refine g_callV (pc := 70) C (As := [.int z]) (rest := []) (b := (w + 100 + 100 * i + 3)) (c_X4_at A P g (w + 100 + 100 * i + 3) z (hW.nd hi).2.2.1.1) (NLN.o (WD.nd (i := i) hW (by omega)).2.2.1) rfl rfl Y_X4_at u_704 N_X4_at ⟨by decide, by decide⟩ ⟨by decide, by decide⟩ (Nat.le_of_ble_eq_true rfl) rfl dX10_view_70 ?_
            rintro _ _ _ _ ⟨rfl, rfl, rfl, rfl⟩
            show V K 0 0 P A g [(0, .ref (A (w + 15010))), (1, .int (nI i)), (2, .int y), (3, .int z), (4, .ref (A (w + 100 + 100 * i))), (5, .ref (A (w + 100 + 100 * i + 3)))] 73 [.int (nlAt (List.map nI (nPa (gN σ i))) z)]
            exact g_iret (pc := 73) C R ⟨rfl, rfl, Or.inr ⟨i, hi, rfl, Or.inr (Or.inr ⟨vi1, by rw [lsA, if_neg (show ¬ z = -1 from c_56)]⟩)⟩, rfl⟩ (by decide) (by decide) dX10_view_73
          ·
            refine g_aload (pc := 59) C dX10_view_59 5 rfl ?_
            refine g_get (pc := 61) C (j := 1) (NLN.o (WD.nd (i := i) hW (by omega)).2.2.1) rfl rfl (by decide) u_97 dX10_view_61 ?_
            refine g_goto (pc := 64) C dX10_view_64 (tgt := 73) (by decide) ?_
            exact g_iret (pc := 73) C R ⟨rfl, rfl, Or.inr ⟨i, hi, rfl, Or.inr (Or.inr ⟨vi1, by rw [lsA, if_pos (show z = -1 from c_56)]⟩)⟩, rfl⟩ (by decide) (by decide) dX10_view_73
        ·
          rw [c_19] at c_36
          exact absurd c_36 (by decide)
      ·
        refine g_bipush (pc := 22) C dX10_view_22 (v := (-2)) rfl ?_
        exact g_iret (pc := 24) C R ⟨rfl, rfl, Or.inr ⟨i, hi, rfl, Or.inl ⟨c_14, c_19, rfl⟩⟩, rfl⟩ (by decide) (by decide) dX10_view_24
  ·
    refine g_iconst (pc := 11) C dX10_view_11 (v := (-1)) rfl ?_
    exact g_iret (pc := 12) C R ⟨rfl, rfl, Or.inl ⟨b32_yes c_8, rfl⟩, rfl⟩ (by decide) (by decide) dX10_view_12
abbrev rm_X10_keep : Room := { frames := 5, cells := 0, slots := 0, locals := 110 }
theorem Y_X10_keep : pY yX10_keep cX10_keep 2 (Option.some Jvm.ClassFile.FieldType.int) := ⟨u_796, u_797, u_1, u_798⟩
theorem N_X10_keep : yX10_keep.cls ≠ "java/lang/invoke/MethodHandle" ∧ yX10_keep.cls ≠ "java/lang/invoke/VarHandle" ∧ (parseMethodDescriptor yX10_keep.desc).map (fun d => d.parameters.length) = some 1 := by decide +kernel
set_option maxRecDepth 20000 in
set_option maxHeartbeats 4000000 in
theorem c_X10_keep (A : Nat → Nat) (P : List Nat) (g : pM) (w : Nat) {B : Nat} {cs : List Nat} {σ : Sg} {ks : Nat → Option Sg} (x : Int32) (hS : SW B cs σ) (hX : VB A g w cs σ ks) : PM yX10_keep cX10_keep 2 (Option.some Jvm.ClassFile.FieldType.int) rm_X10_keep [.ref (A (w + 15010)), .int x] P A g (fun v g' => (decide (¬ x < 0 ∧ x < 2) = false ∧ v = some (.int (-1)) ∧ g = g') ∨ (∃ k, k < 2 ∧ x = nI k ∧ v = some (.int (nI 1)) ∧ VB A g' w cs σ (va_up ks k (some σ)))) := by
  obtain ⟨hO, hT, ⟨pl, ll, hV, hW, hC, hP, hL⟩, hXr⟩ := id hX
  have hK := hW.k16
  refine px_intro (by decide +kernel) (Nat.le_of_ble_eq_true rfl) (fun K sz C R => ?_)
  show V K 0 0 P A g [(0, .ref (A (w + 15010))), (1, .int x)] 0 []
  refine g_iload_n (pc := 0) C dX10_keep_0 1 rfl ?_
  refine g_callS (pc := 1) C (As := [.int x]) (rest := []) (c_X10_isPlace A P g x) rfl u_800 u_1 u_801 u_799 N_X10_isPlace ⟨by decide, by decide⟩ ⟨by decide, by decide⟩ (Nat.le_of_ble_eq_true rfl) rfl dX10_keep_1 ?_
  rintro _ _ _ _ ⟨rfl, rfl, rfl, rfl⟩
  show V K 0 0 P A g [(0, .ref (A (w + 15010))), (1, .int x)] 4 [.int (b32 (decide (¬ x < 0 ∧ x < 2)))]
  refine g_if_ne (pc := 4) C dX10_keep_4 (tgt := 9) (by decide) (fun c_4 => ?_) (fun c_4 => ?_)
  ·
    obtain ⟨k, hk, rfl⟩ := pl_ex (b32_no c_4)
    obtain ⟨hK1, ⟨rk, hK2, hK3⟩, hK4⟩ := hXr
    obtain ⟨σk, hWk, hks⟩ := hK4 k hk
    refine g_aload_n (pc := 9) C dX10_keep_9 0 rfl ?_
    refine g_get (pc := 10) C (j := 4) hO rfl rfl (by decide) u_328 dX10_keep_10 ?_
    refine g_iload_n (pc := 13) C dX10_keep_13 1 rfl ?_
    refine g_aldq (pc := 14) C hK1 (fun _ => rfl) (nI_clamp (by omega)) (nI_in0 (by omega) (by omega)) dX10_keep_14 (x := A (w + 5000 + 5000 * k)) (krow_at hk) ?_
    refine g_aload_n (pc := 15) C dX10_keep_15 0 rfl ?_
    refine g_get (pc := 16) C (j := 1) hO rfl rfl (by decide) u_325 dX10_keep_16 ?_
    refine g_callV (pc := 19) C (As := [.ref (A w)]) (rest := []) (b := (w + 5000 + 5000 * k)) (c_X9_copyFrom A P g (w + 5000 + 5000 * k) w hWk hW (by omega)) (WD.wb hWk).1 rfl rfl Y_X9_copyFrom u_802 N_X9_copyFrom ⟨by decide, by decide⟩ ⟨by decide, by decide⟩ (Nat.le_of_ble_eq_true rfl) rfl dX10_keep_19 ?_
    rintro _ _ _ g1 ⟨rfl, rfl, rfl, hW1, hf1⟩
    have hO1 := (hf1 (w + 15010) (by omega)).trans hO
    have hK5 := (hf1 (w + 15009) (by omega)).trans hK2
    show V K 0 0 P A g1 [(0, .ref (A (w + 15010))), (1, .int (nI k))] 22 []
    refine g_aload_n (pc := 22) C dX10_keep_22 0 rfl ?_
    refine g_get (pc := 23) C (j := 5) hO1 rfl rfl (by decide) u_329 dX10_keep_23 ?_
    refine g_iload_n (pc := 26) C dX10_keep_26 1 rfl ?_
    refine g_iconst (pc := 27) C dX10_keep_27 (v := nI 1) rfl ?_
    refine g_zast (pc := 28) C hK5 (nI_clamp (by omega)) (nI_in0 (n := 2) (by omega) (by omega)) dX10_keep_28 ?_
    obtain ⟨g_1, hg_1⟩ : ∃ yM : pM, yM = va_up g1 (w + 15009) (ai 1 2 (upd rk k (vp_nar .boolean (nI 1)))) := ⟨_, rfl⟩
    show V K 0 0 P A (va_up g1 (w + 15009) (ai 1 2 (upd rk k (vp_nar .boolean (nI 1))))) [(0, .ref (A (w + 15010))), (1, .int (nI k))] 29 []
    rw [← hg_1]
    have h_2 : g_1 (w + 15010) = ob 10 [.ref (A (w + 15005)), .ref (A w), .ref (A (w + 15000)), .ref (A (w + 15007)), .ref (A (w + 15008)), .ref (A (w + 15009))] := by rw [hg_1, va_up_ne _ _ (show w + 15010 ≠ w + 15009 from by omega)]; exact hO1
    have h_3 : g_1 (w + 15009) = ai 1 2 (upd rk k (vp_nar .boolean (nI 1))) := by rw [hg_1]; exact va_up_self _ _ _
    refine g_iconst (pc := 29) C dX10_keep_29 (v := nI 1) rfl ?_
    exact g_iret (pc := 30) C R ⟨rfl, rfl, Or.inr ⟨k, hk, rfl, rfl, hX.kp hk hf1 hW1 hK2 hK3 (hg_1.trans (by rfl))⟩⟩ (by decide) (by decide) dX10_keep_30
  ·
    refine g_iconst (pc := 7) C dX10_keep_7 (v := (-1)) rfl ?_
    exact g_iret (pc := 8) C R ⟨rfl, rfl, Or.inl ⟨b32_yes c_4, rfl, rfl⟩⟩ (by decide) (by decide) dX10_keep_8
abbrev rm_X10_back : Room := { frames := 5, cells := 0, slots := 0, locals := 110 }
theorem Y_X10_back : pY yX10_back cX10_back 2 (Option.some Jvm.ClassFile.FieldType.int) := ⟨u_827, u_828, u_1, u_829⟩
theorem N_X10_back : yX10_back.cls ≠ "java/lang/invoke/MethodHandle" ∧ yX10_back.cls ≠ "java/lang/invoke/VarHandle" ∧ (parseMethodDescriptor yX10_back.desc).map (fun d => d.parameters.length) = some 1 := by decide +kernel
set_option maxRecDepth 20000 in
set_option maxHeartbeats 4000000 in
theorem c_X10_back (A : Nat → Nat) (P : List Nat) (g : pM) (w : Nat) {B : Nat} {cs : List Nat} {σ : Sg} {ks : Nat → Option Sg} (x : Int32) (hS : SW B cs σ) (hX : VB A g w cs σ ks) : PM yX10_back cX10_back 2 (Option.some Jvm.ClassFile.FieldType.int) rm_X10_back [.ref (A (w + 15010)), .int x] P A g (fun v g' => ((decide (¬ x < 0 ∧ x < 2) = false ∨ ∃ k, k < 2 ∧ x = nI k ∧ ks k = none) ∧ v = some (.int (-1)) ∧ g = g') ∨ (∃ k s, k < 2 ∧ x = nI k ∧ ks k = some s ∧ v = some (.int (nI (gK s))) ∧ VB A g' w cs s ks)) := by
  obtain ⟨hO, hT, ⟨pl, ll, hV, hW, hC, hP, hL⟩, hXr⟩ := id hX
  have hK := hW.k16
  refine px_intro (by decide +kernel) (Nat.le_of_ble_eq_true rfl) (fun K sz C R => ?_)
  show V K 0 0 P A g [(0, .ref (A (w + 15010))), (1, .int x)] 0 []
  refine g_iload_n (pc := 0) C dX10_back_0 1 rfl ?_
  refine g_callS (pc := 1) C (As := [.int x]) (rest := []) (c_X10_isPlace A P g x) rfl u_800 u_1 u_801 u_799 N_X10_isPlace ⟨by decide, by decide⟩ ⟨by decide, by decide⟩ (Nat.le_of_ble_eq_true rfl) rfl dX10_back_1 ?_
  rintro _ _ _ _ ⟨rfl, rfl, rfl, rfl⟩
  show V K 0 0 P A g [(0, .ref (A (w + 15010))), (1, .int x)] 4 [.int (b32 (decide (¬ x < 0 ∧ x < 2)))]
  refine g_if_eq (pc := 4) C dX10_back_4 (tgt := 16) (by decide) (fun c_4 => ?_) (fun c_4 => ?_)
  ·
    refine g_iconst (pc := 16) C dX10_back_16 (v := (-1)) rfl ?_
    exact g_iret (pc := 17) C R ⟨rfl, rfl, Or.inl ⟨Or.inl (b32_yes c_4), rfl, rfl⟩⟩ (by decide) (by decide) dX10_back_17
  ·
    obtain ⟨k, hk, rfl⟩ := pl_ex (b32_no c_4)
    obtain ⟨hK1, ⟨rk, hK2, hK3⟩, hK4⟩ := hXr
    obtain ⟨σk, hWk, hks⟩ := hK4 k hk
    refine g_aload_n (pc := 7) C dX10_back_7 0 rfl ?_
    refine g_get (pc := 8) C (j := 5) hO rfl rfl (by decide) u_329 dX10_back_8 ?_
    refine g_iload_n (pc := 11) C dX10_back_11 1 rfl ?_
    refine g_zald (pc := 12) C hK2 (nI_clamp (by omega)) (nI_in0 (n := 2) (by omega) (by omega)) dX10_back_12 (x := rk k) rfl ?_
    refine g_if_ne (pc := 13) C dX10_back_13 (tgt := 18) (by decide) (fun c_13 => ?_) (fun c_13 => ?_)
    ·
      obtain ⟨s, hs⟩ : ∃ s, ks k = some s := by cases q : ks k with | none => exact absurd (by rw [hK3 k hk, q]; rfl) c_13 | some s => exact ⟨s, rfl⟩
      obtain rfl : s = σk := hks s hs
      refine g_aload_n (pc := 18) C dX10_back_18 0 rfl ?_
      refine g_get (pc := 19) C (j := 1) hO rfl rfl (by decide) u_325 dX10_back_19 ?_
      refine g_aload_n (pc := 22) C dX10_back_22 0 rfl ?_
      refine g_get (pc := 23) C (j := 4) hO rfl rfl (by decide) u_328 dX10_back_23 ?_
      refine g_iload_n (pc := 26) C dX10_back_26 1 rfl ?_
      refine g_aldq (pc := 27) C hK1 (fun _ => rfl) (nI_clamp (by omega)) (nI_in0 (by omega) (by omega)) dX10_back_27 (x := A (w + 5000 + 5000 * k)) (krow_at hk) ?_
      refine g_callV (pc := 28) C (As := [.ref (A (w + 5000 + 5000 * k))]) (rest := []) (b := w) (c_X9_copyFrom A P g w (w + 5000 + 5000 * k) hW hWk (by omega)) (WD.wb hW).1 rfl rfl Y_X9_copyFrom u_802 N_X9_copyFrom ⟨by decide, by decide⟩ ⟨by decide, by decide⟩ (Nat.le_of_ble_eq_true rfl) rfl dX10_back_28 ?_
      rintro _ _ _ g1 ⟨rfl, rfl, rfl, hW1, hf1⟩
      have hO1 := (hf1 (w + 15010) (by omega)).trans hO
      show V K 0 0 P A g1 [(0, .ref (A (w + 15010))), (1, .int (nI k))] 31 []
      refine g_aload_n (pc := 31) C dX10_back_31 0 rfl ?_
      refine g_get (pc := 32) C (j := 1) hO1 rfl rfl (by decide) u_325 dX10_back_32 ?_
      refine g_get (pc := 35) C (j := 7) (WD.wb hW1).1 rfl rfl (by decide) u_259 dX10_back_35 ?_
      exact g_iret (pc := 38) C R ⟨rfl, rfl, Or.inr ⟨k, s, hk, rfl, hs, rfl, hX.v hf1.w hW1⟩⟩ (by decide) (by decide) dX10_back_38
    ·
      have hs : ks k = none := by cases q : ks k with | none => rfl | some s => exact absurd c_13 (by rw [hK3 k hk, q]; show ¬ (1 : Int32) = 0; decide)
      refine g_iconst (pc := 16) C dX10_back_16 (v := (-1)) rfl ?_
      exact g_iret (pc := 17) C R ⟨rfl, rfl, Or.inl ⟨Or.inr ⟨k, hk, rfl, hs⟩, rfl, rfl⟩⟩ (by decide) (by decide) dX10_back_17
abbrev rm_X10_differs : Room := { frames := 4, cells := 0, slots := 0, locals := 87 }
theorem Y_X10_differs : pY yX10_differs cX10_differs 2 (Option.some Jvm.ClassFile.FieldType.int) := ⟨u_831, u_832, u_1, u_833⟩
theorem N_X10_differs : yX10_differs.cls ≠ "java/lang/invoke/MethodHandle" ∧ yX10_differs.cls ≠ "java/lang/invoke/VarHandle" ∧ (parseMethodDescriptor yX10_differs.desc).map (fun d => d.parameters.length) = some 1 := by decide +kernel
set_option maxRecDepth 20000 in
set_option maxHeartbeats 4000000 in
theorem c_X10_differs (A : Nat → Nat) (P : List Nat) (g : pM) (w : Nat) {B : Nat} {cs : List Nat} {σ : Sg} {ks : Nat → Option Sg} (x : Int32) (hk2 : ∀ k s, ks k = some s → SW B cs s) (hS : SW B cs σ) (hX : VB A g w cs σ ks) : PM yX10_differs cX10_differs 2 (Option.some Jvm.ClassFile.FieldType.int) rm_X10_differs [.ref (A (w + 15010)), .int x] P A g (fun v g' => ((decide (¬ x < 0 ∧ x < 2) = false ∨ ∃ k, k < 2 ∧ x = nI k ∧ ks k = none) ∧ v = some (.int (-1)) ∧ g = g') ∨ (∃ k s, k < 2 ∧ x = nI k ∧ ks k = some s ∧ v = some (.int (onv (fon σ s))) ∧ g = g')) := by
  obtain ⟨hO, hT, ⟨pl, ll, hV, hW, hC, hP, hL⟩, hXr⟩ := id hX
  have hK := hW.k16
  refine px_intro (by decide +kernel) (Nat.le_of_ble_eq_true rfl) (fun K sz C R => ?_)
  show V K 0 0 P A g [(0, .ref (A (w + 15010))), (1, .int x)] 0 []
  refine g_iload_n (pc := 0) C dX10_differs_0 1 rfl ?_
  refine g_callS (pc := 1) C (As := [.int x]) (rest := []) (c_X10_isPlace A P g x) rfl u_800 u_1 u_801 u_799 N_X10_isPlace ⟨by decide, by decide⟩ ⟨by decide, by decide⟩ (Nat.le_of_ble_eq_true rfl) rfl dX10_differs_1 ?_
  rintro _ _ _ _ ⟨rfl, rfl, rfl, rfl⟩
  show V K 0 0 P A g [(0, .ref (A (w + 15010))), (1, .int x)] 4 [.int (b32 (decide (¬ x < 0 ∧ x < 2)))]
  refine g_if_eq (pc := 4) C dX10_differs_4 (tgt := 16) (by decide) (fun c_4 => ?_) (fun c_4 => ?_)
  ·
    refine g_iconst (pc := 16) C dX10_differs_16 (v := (-1)) rfl ?_
    exact g_iret (pc := 17) C R ⟨rfl, rfl, Or.inl ⟨Or.inl (b32_yes c_4), rfl, rfl⟩⟩ (by decide) (by decide) dX10_differs_17
  ·
    obtain ⟨k, hk, rfl⟩ := pl_ex (b32_no c_4)
    obtain ⟨hK1, ⟨rk, hK2, hK3⟩, hK4⟩ := hXr
    obtain ⟨σk, hWk, hks⟩ := hK4 k hk
    refine g_aload_n (pc := 7) C dX10_differs_7 0 rfl ?_
    refine g_get (pc := 8) C (j := 5) hO rfl rfl (by decide) u_329 dX10_differs_8 ?_
    refine g_iload_n (pc := 11) C dX10_differs_11 1 rfl ?_
    refine g_zald (pc := 12) C hK2 (nI_clamp (by omega)) (nI_in0 (n := 2) (by omega) (by omega)) dX10_differs_12 (x := rk k) rfl ?_
    refine g_if_ne (pc := 13) C dX10_differs_13 (tgt := 18) (by decide) (fun c_13 => ?_) (fun c_13 => ?_)
    ·
      obtain ⟨s, hs⟩ : ∃ s, ks k = some s := by cases q : ks k with | none => exact absurd (by rw [hK3 k hk, q]; rfl) c_13 | some s => exact ⟨s, rfl⟩
      obtain rfl : s = σk := hks s hs
      refine g_aload_n (pc := 18) C dX10_differs_18 0 rfl ?_
      refine g_get (pc := 19) C (j := 1) hO rfl rfl (by decide) u_325 dX10_differs_19 ?_
      refine g_aload_n (pc := 22) C dX10_differs_22 0 rfl ?_
      refine g_get (pc := 23) C (j := 4) hO rfl rfl (by decide) u_328 dX10_differs_23 ?_
      refine g_iload_n (pc := 26) C dX10_differs_26 1 rfl ?_
      refine g_aldq (pc := 27) C hK1 (fun _ => rfl) (nI_clamp (by omega)) (nI_in0 (by omega) (by omega)) dX10_differs_27 (x := A (w + 5000 + 5000 * k)) (krow_at hk) ?_
      refine g_callV (pc := 28) C (As := [.ref (A (w + 5000 + 5000 * k))]) (rest := []) (b := w) (c_X9_firstOtherNode A P g w (w + 5000 + 5000 * k) hW hWk (fun i hi => hS.dw hi) (fun i hi => (hk2 k s hs).dw hi)) (WD.wb hW).1 rfl rfl Y_X9_firstOtherNode u_834 N_X9_firstOtherNode ⟨by decide, by decide⟩ ⟨by decide, by decide⟩ (Nat.le_of_ble_eq_true rfl) rfl dX10_differs_28 ?_
      rintro _ _ _ _ ⟨rfl, rfl, rfl, rfl⟩
      show V K 0 0 P A g [(0, .ref (A (w + 15010))), (1, .int (nI k))] 31 [.int (onv (fon σ s))]
      exact g_iret (pc := 31) C R ⟨rfl, rfl, Or.inr ⟨k, s, hk, rfl, hs, rfl, rfl⟩⟩ (by decide) (by decide) dX10_differs_31
    ·
      have hs : ks k = none := by cases q : ks k with | none => rfl | some s => exact absurd c_13 (by rw [hK3 k hk, q]; show ¬ (1 : Int32) = 0; decide)
      refine g_iconst (pc := 16) C dX10_differs_16 (v := (-1)) rfl ?_
      exact g_iret (pc := 17) C R ⟨rfl, rfl, Or.inl ⟨Or.inr ⟨k, hk, rfl, hs⟩, rfl, rfl⟩⟩ (by decide) (by decide) dX10_differs_17
abbrev rm_X10_coin : Room := { frames := 1, cells := 0, slots := 0, locals := 21 }
theorem Y_X10_coin : pY yX10_coin cX10_coin 2 (Option.some Jvm.ClassFile.FieldType.int) := ⟨u_353, u_354, u_1, u_355⟩
theorem N_X10_coin : yX10_coin.cls ≠ "java/lang/invoke/MethodHandle" ∧ yX10_coin.cls ≠ "java/lang/invoke/VarHandle" ∧ (parseMethodDescriptor yX10_coin.desc).map (fun d => d.parameters.length) = some 1 := by decide +kernel
set_option maxRecDepth 20000 in
set_option maxHeartbeats 4000000 in
theorem c_X10_coin (A : Nat → Nat) (P : List Nat) (g : pM) (w : Nat) {B : Nat} {cs : List Nat} {σ : Sg} {ks : Nat → Option Sg} (x : Int32) (hX : VB A g w cs σ ks) : PM yX10_coin cX10_coin 2 (Option.some Jvm.ClassFile.FieldType.int) rm_X10_coin [.ref (A (w + 15010)), .int x] P A g (fun v g' => (x < 0 ∧ v = some (.int (-2)) ∧ g = g') ∨ (∃ c, c < 2 ^ 31 ∧ x = nI c ∧ ((¬ cs.length < 64 ∧ v = some (.int (-4)) ∧ VB A g' w cs σ ks) ∨ (cs.length < 64 ∧ v = some (.int (nI (cs.length + 1))) ∧ VB A g' w (cs ++ [c]) σ ks)))) := by
  obtain ⟨hO, hT, ⟨pl, ll, hV, hW, hC, hP, hL⟩, hXr⟩ := id hX
  have hK := hW.k16
  refine px_intro (by decide +kernel) (Nat.le_of_ble_eq_true rfl) (fun K sz C R => ?_)
  show V K 0 0 P A g [(0, .ref (A (w + 15010))), (1, .int x)] 0 []
  refine g_iload_n (pc := 0) C dX10_coin_0 1 rfl ?_
  refine g_if_ge (pc := 1) C dX10_coin_1 (tgt := 7) (by decide) (fun c_1 => ?_) (fun c_1 => ?_)
  ·
    obtain ⟨c, hc, rfl⟩ := ps_ex (i32_nlt c_1)
    refine g_aload_n (pc := 7) C dX10_coin_7 0 rfl ?_
    refine g_get (pc := 8) C (j := 0) hO rfl rfl (by decide) u_324 dX10_coin_8 ?_
    refine g_iload_n (pc := 11) C dX10_coin_11 1 rfl ?_
    refine g_callV (pc := 12) C (As := [.int (nI c)]) (rest := []) (b := (w + 15005)) (c_X0_put A P g (w + 15005) c hc hC) hC.2.2.1 rfl rfl Y_X0_put u_356 N_X0_put ⟨by decide, by decide⟩ ⟨by decide, by decide⟩ (Nat.le_of_ble_eq_true rfl) rfl dX10_coin_12 ?_
    rintro _ _ _ g1 ⟨rfl, rfl, rfl, hC1, hf1⟩
    have hO1 := hf1.at (by omega) hO
    show V K 0 0 P A g1 [(0, .ref (A (w + 15010))), (1, .int (nI c))] 15 [.int (b32 (decide (cs.length < 64)))]
    refine g_if_eq (pc := 15) C dX10_coin_15 (tgt := 28) (by decide) (fun c_15 => ?_) (fun c_15 => ?_)
    ·
      refine g_bipush (pc := 28) C dX10_coin_28 (v := (-4)) rfl ?_
      have hlen := of_decide_eq_false (b32_yes c_15)
      rw [if_neg hlen] at hC1
      exact g_iret (pc := 30) C R ⟨rfl, rfl, Or.inr ⟨c, hc, rfl, Or.inl ⟨hlen, rfl, hX.c hf1 hC1⟩⟩⟩ (by decide) (by decide) dX10_coin_30
    ·
      refine g_aload_n (pc := 18) C dX10_coin_18 0 rfl ?_
      refine g_get (pc := 19) C (j := 0) hO1 rfl rfl (by decide) u_324 dX10_coin_19 ?_
      refine g_get (pc := 22) C (j := 1) hC1.2.2.1 rfl rfl (by decide) u_31 dX10_coin_22 ?_
      refine g_goto (pc := 25) C dX10_coin_25 (tgt := 30) (by decide) ?_
      have hlen := of_decide_eq_true (b32_no c_15)
      exact g_iret (pc := 30) C R ⟨rfl, rfl, Or.inr ⟨c, hc, rfl, Or.inr ⟨hlen, by rw [if_pos hlen, List.length_append]; rfl, by rw [if_pos hlen] at hC1; exact hX.c hf1 hC1⟩⟩⟩ (by decide) (by decide) dX10_coin_30
  ·
    refine g_bipush (pc := 4) C dX10_coin_4 (v := (-2)) rfl ?_
    exact g_iret (pc := 6) C R ⟨rfl, rfl, Or.inl ⟨i32_lt c_1, rfl, rfl⟩⟩ (by decide) (by decide) dX10_coin_6
abbrev rm_X10_told : Room := { frames := 3, cells := 0, slots := 0, locals := 64 }
theorem Y_X10_told : pY yX10_told cX10_told 2 (Option.some Jvm.ClassFile.FieldType.int) := ⟨u_788, u_789, u_1, u_790⟩
theorem N_X10_told : yX10_told.cls ≠ "java/lang/invoke/MethodHandle" ∧ yX10_told.cls ≠ "java/lang/invoke/VarHandle" ∧ (parseMethodDescriptor yX10_told.desc).map (fun d => d.parameters.length) = some 1 := by decide +kernel
set_option maxRecDepth 20000 in
set_option maxHeartbeats 4000000 in
theorem c_X10_told (A : Nat → Nat) (P : List Nat) (g : pM) (w : Nat) {cs : List Nat} {σ : Sg} {ks : Nat → Option Sg} (x : Int32) (hX : VB A g w cs σ ks) : PM yX10_told cX10_told 2 (Option.some Jvm.ClassFile.FieldType.int) rm_X10_told [.ref (A (w + 15010)), .int x] P A g (fun v g' => (((x < 0 ∨ nI 8 ≤ x) ∧ v = some (.int (-2))) ∨ (∃ k, k < 8 ∧ x = nI k ∧ v = some (.int (toA cs σ k)))) ∧ g = g') := by
  obtain ⟨hO, hT, ⟨pl, ll, hV, hW, hC, hP, hL⟩, hXr⟩ := id hX
  have hK := hW.k16
  refine px_intro (by decide +kernel) (Nat.le_of_ble_eq_true rfl) (fun K sz C R => ?_)
  show V K 0 0 P A g [(0, .ref (A (w + 15010))), (1, .int x)] 0 []
  refine g_iload_n (pc := 0) C dX10_told_0 1 rfl ?_
  rcases pk_ix x (n := 8) (by omega) with hsw | hsw | ⟨j, hj, rfl⟩
  ·
    refine g_tswO (pc := 1) C dX10_told_1 (Or.inl (by have e := Int32.lt_iff_toInt_lt.mp hsw; have e0 : (0 : Int32).toInt = 0 := (by decide); omega)) (tgt := 118) (by decide) ?_
    refine g_bipush (pc := 118) C dX10_told_118 (v := (-2)) rfl ?_
    exact g_iret (pc := 120) C R ⟨rfl, rfl, Or.inl ⟨Or.inl hsw, rfl⟩, rfl⟩ (by decide) (by decide) dX10_told_120
  ·
    refine g_tswO (pc := 1) C dX10_told_1 (Or.inr (by have e := Int32.le_iff_toInt_le.mp hsw; rw [nI_toInt (by omega)] at e; omega)) (tgt := 118) (by decide) ?_
    refine g_bipush (pc := 118) C dX10_told_118 (v := (-2)) rfl ?_
    exact g_iret (pc := 120) C R ⟨rfl, rfl, Or.inl ⟨Or.inr hsw, rfl⟩, rfl⟩ (by decide) (by decide) dX10_told_120
  ·
    have hjj : j = 0 ∨ j = 1 ∨ j = 2 ∨ j = 3 ∨ j = 4 ∨ j = 5 ∨ j = 6 ∨ j = 7 := by omega
    rcases hjj with rfl | rfl | rfl | rfl | rfl | rfl | rfl | rfl
    ·
      refine g_tswI (pc := 1) C dX10_told_1 (x := nI 0) (by decide) (by decide) (off := 47) rfl (tgt := 48) (by decide) ?_
      refine g_aload_n (pc := 48) C dX10_told_48 0 rfl ?_
      refine g_get (pc := 49) C (j := 1) hO rfl rfl (by decide) u_325 dX10_told_49 ?_
      refine g_get (pc := 52) C (j := 7) (WD.wb hW).1 rfl rfl (by decide) u_259 dX10_told_52 ?_
      exact g_iret (pc := 55) C R ⟨rfl, rfl, Or.inr ⟨0, by omega, rfl, rfl⟩, rfl⟩ (by decide) (by decide) dX10_told_55
    ·
      refine g_tswI (pc := 1) C dX10_told_1 (x := nI 1) (by decide) (by decide) (off := 55) rfl (tgt := 56) (by decide) ?_
      refine g_aload_n (pc := 56) C dX10_told_56 0 rfl ?_
      refine g_get (pc := 57) C (j := 1) hO rfl rfl (by decide) u_325 dX10_told_57 ?_
      refine g_callV (pc := 60) C (As := []) (rest := []) (b := w) (c_X9_liveCount A P g w hW) (WD.wb hW).1 rfl rfl Y_X9_liveCount u_791 N_X9_liveCount ⟨by decide, by decide⟩ ⟨by decide, by decide⟩ (Nat.le_of_ble_eq_true rfl) rfl dX10_told_60 ?_
      rintro _ _ _ _ ⟨rfl, rfl, rfl, rfl⟩
      show V K 0 0 P A g [(0, .ref (A (w + 15010))), (1, .int (nI 1))] 63 [.int (nI (ct (fun i => lvd σ i) (gK σ)))]
      exact g_iret (pc := 63) C R ⟨rfl, rfl, Or.inr ⟨1, by omega, rfl, rfl⟩, rfl⟩ (by decide) (by decide) dX10_told_63
    ·
      refine g_tswI (pc := 1) C dX10_told_1 (x := nI 2) (by decide) (by decide) (off := 63) rfl (tgt := 64) (by decide) ?_
      refine g_aload_n (pc := 64) C dX10_told_64 0 rfl ?_
      refine g_get (pc := 65) C (j := 1) hO rfl rfl (by decide) u_325 dX10_told_65 ?_
      refine g_get (pc := 68) C (j := 4) (WD.wb hW).1 rfl rfl (by decide) u_254 dX10_told_68 ?_
      refine g_get (pc := 71) C (j := 2) (RW.ex (WD.rw hW)).choose_spec rfl rfl (by decide) u_231 dX10_told_71 ?_
      exact g_iret (pc := 74) C R ⟨rfl, rfl, Or.inr ⟨2, by omega, rfl, rfl⟩, rfl⟩ (by decide) (by decide) dX10_told_74
    ·
      refine g_tswI (pc := 1) C dX10_told_1 (x := nI 3) (by decide) (by decide) (off := 74) rfl (tgt := 75) (by decide) ?_
      refine g_aload_n (pc := 75) C dX10_told_75 0 rfl ?_
      refine g_get (pc := 76) C (j := 1) hO rfl rfl (by decide) u_325 dX10_told_76 ?_
      refine g_get (pc := 79) C (j := 4) (WD.wb hW).1 rfl rfl (by decide) u_254 dX10_told_79 ?_
      refine g_get (pc := 82) C (j := 3) (RW.ex (WD.rw hW)).choose_spec rfl rfl (by decide) u_234 dX10_told_82 ?_
      exact g_iret (pc := 85) C R ⟨rfl, rfl, Or.inr ⟨3, by omega, rfl, rfl⟩, rfl⟩ (by decide) (by decide) dX10_told_85
    ·
      refine g_tswI (pc := 1) C dX10_told_1 (x := nI 4) (by decide) (by decide) (off := 85) rfl (tgt := 86) (by decide) ?_
      refine g_aload_n (pc := 86) C dX10_told_86 0 rfl ?_
      refine g_get (pc := 87) C (j := 1) hO rfl rfl (by decide) u_325 dX10_told_87 ?_
      refine g_get (pc := 90) C (j := 8) (WD.wb hW).1 rfl rfl (by decide) u_263 dX10_told_90 ?_
      exact g_iret (pc := 93) C R ⟨rfl, rfl, Or.inr ⟨4, by omega, rfl, rfl⟩, rfl⟩ (by decide) (by decide) dX10_told_93
    ·
      refine g_tswI (pc := 1) C dX10_told_1 (x := nI 5) (by decide) (by decide) (off := 93) rfl (tgt := 94) (by decide) ?_
      refine g_aload_n (pc := 94) C dX10_told_94 0 rfl ?_
      refine g_get (pc := 95) C (j := 1) hO rfl rfl (by decide) u_325 dX10_told_95 ?_
      refine g_get (pc := 98) C (j := 9) (WD.wb hW).1 rfl rfl (by decide) u_266 dX10_told_98 ?_
      exact g_iret (pc := 101) C R ⟨rfl, rfl, Or.inr ⟨5, by omega, rfl, rfl⟩, rfl⟩ (by decide) (by decide) dX10_told_101
    ·
      refine g_tswI (pc := 1) C dX10_told_1 (x := nI 6) (by decide) (by decide) (off := 101) rfl (tgt := 102) (by decide) ?_
      refine g_aload_n (pc := 102) C dX10_told_102 0 rfl ?_
      refine g_get (pc := 103) C (j := 0) hO rfl rfl (by decide) u_324 dX10_told_103 ?_
      refine g_get (pc := 106) C (j := 1) hC.2.2.1 rfl rfl (by decide) u_31 dX10_told_106 ?_
      exact g_iret (pc := 109) C R ⟨rfl, rfl, Or.inr ⟨6, by omega, rfl, rfl⟩, rfl⟩ (by decide) (by decide) dX10_told_109
    ·
      refine g_tswI (pc := 1) C dX10_told_1 (x := nI 7) (by decide) (by decide) (off := 109) rfl (tgt := 110) (by decide) ?_
      refine g_aload_n (pc := 110) C dX10_told_110 0 rfl ?_
      refine g_get (pc := 111) C (j := 1) hO rfl rfl (by decide) u_325 dX10_told_111 ?_
      refine g_get (pc := 114) C (j := 10) (WD.wb hW).1 rfl rfl (by decide) u_268 dX10_told_114 ?_
      exact g_iret (pc := 117) C R ⟨rfl, rfl, Or.inr ⟨7, by omega, rfl, rfl⟩, rfl⟩ (by decide) (by decide) dX10_told_117
abbrev rm_X10_about : Room := { frames := 3, cells := 0, slots := 0, locals := 64 }
theorem Y_X10_about : pY yX10_about cX10_about 4 (Option.some Jvm.ClassFile.FieldType.int) := ⟨u_726, u_727, u_1, u_728⟩
theorem N_X10_about : yX10_about.cls ≠ "java/lang/invoke/MethodHandle" ∧ yX10_about.cls ≠ "java/lang/invoke/VarHandle" ∧ (parseMethodDescriptor yX10_about.desc).map (fun d => d.parameters.length) = some 2 := by decide +kernel
set_option maxRecDepth 20000 in
set_option maxHeartbeats 4000000 in
theorem c_X10_about (A : Nat → Nat) (P : List Nat) (g : pM) (w : Nat) {σ : Sg} (x y : Int32) (hw : ∀ i, i < gK σ → ndW (gN σ i)) (hO : g (w + 15010) = vOb A w) (hW : WD A g w (w + 15005) σ) : PM yX10_about cX10_about 4 (Option.some Jvm.ClassFile.FieldType.int) rm_X10_about [.ref (A (w + 15010)), .int x, .int y] P A g (fun v g' => ((isN σ x = false ∧ v = some (.int (-1))) ∨ (∃ i, i < gK σ ∧ x = nI i ∧ (((y < 0 ∨ nI 6 ≤ y) ∧ v = some (.int (-2))) ∨ (∃ k, k < 6 ∧ y = nI k ∧ v = some (.int (abA σ i k)))))) ∧ g = g') := by
  have hK := hW.k16
  have hT24 : gT σ ≤ 24 := hW.2.2.2.2.2.2.2.2
  refine px_intro (by decide +kernel) (Nat.le_of_ble_eq_true rfl) (fun K sz C R => ?_)
  show V K 0 0 P A g [(0, .ref (A (w + 15010))), (1, .int x), (2, .int y)] 0 []
  refine g_aload_n (pc := 0) C dX10_about_0 0 rfl ?_
  refine g_get (pc := 1) C (j := 1) hO rfl rfl (by decide) u_325 dX10_about_1 ?_
  refine g_iload_n (pc := 4) C dX10_about_4 1 rfl ?_
  refine g_callV (pc := 5) C (As := [.int x]) (rest := []) (b := w) (c_X9_isNode A P g w x (WD.wb hW)) (WD.wb hW).1 rfl rfl Y_X9_isNode u_385 N_X9_isNode ⟨by decide, by decide⟩ ⟨by decide, by decide⟩ (Nat.le_of_ble_eq_true rfl) rfl dX10_about_5 ?_
  rintro _ _ _ _ ⟨rfl, rfl, rfl, rfl⟩
  show V K 0 0 P A g [(0, .ref (A (w + 15010))), (1, .int x), (2, .int y)] 8 [.int (b32 (decide (¬ x < 0 ∧ x < nI (gK σ))))]
  refine g_if_ne (pc := 8) C dX10_about_8 (tgt := 13) (by decide) (fun c_8 => ?_) (fun c_8 => ?_)
  ·
    obtain ⟨i, hi, rfl⟩ := isN_ex hK (b32_no c_8)
    have hwi := hw i hi
    refine g_aload_n (pc := 13) C dX10_about_13 0 rfl ?_
    refine g_get (pc := 14) C (j := 1) hO rfl rfl (by decide) u_325 dX10_about_14 ?_
    refine g_iload_n (pc := 17) C dX10_about_17 1 rfl ?_
    refine g_callV (pc := 18) C (As := [.int (nI i)]) (rest := []) (b := w) (c_X9_nodeAt A P g w i (by omega) (WD.wb hW)) (WD.wb hW).1 rfl rfl Y_X9_nodeAt u_389 N_X9_nodeAt ⟨by decide, by decide⟩ ⟨by decide, by decide⟩ (Nat.le_of_ble_eq_true rfl) rfl dX10_about_18 ?_
    rintro _ _ _ _ ⟨rfl, rfl, rfl, rfl⟩
    show V K 0 0 P A g [(0, .ref (A (w + 15010))), (1, .int (nI i)), (2, .int y)] 21 [.ref (A (w + 100 + 100 * i))]
    refine g_astore_n (pc := 21) C dX10_about_21 (by decide) (lv' := [(0, .ref (A (w + 15010))), (1, .int (nI i)), (2, .int y), (3, .ref (A (w + 100 + 100 * i)))]) [1, 2, 3, 0] rfl ?_
    refine g_iload_n (pc := 22) C dX10_about_22 2 rfl ?_
    rcases pk_ix y (n := 6) (by omega) with hsw | hsw | ⟨j, hj, rfl⟩
    ·
      refine g_tswO (pc := 23) C dX10_about_23 (Or.inl (by have e := Int32.lt_iff_toInt_lt.mp hsw; have e0 : (0 : Int32).toInt = 0 := (by decide); omega)) (tgt := 98) (by decide) ?_
      refine g_bipush (pc := 98) C dX10_about_98 (v := (-2)) rfl ?_
      exact g_iret (pc := 100) C R ⟨rfl, rfl, Or.inr ⟨i, hi, rfl, Or.inl ⟨Or.inl hsw, rfl⟩⟩, rfl⟩ (by decide) (by decide) dX10_about_100
    ·
      refine g_tswO (pc := 23) C dX10_about_23 (Or.inr (by have e := Int32.le_iff_toInt_le.mp hsw; rw [nI_toInt (by omega)] at e; omega)) (tgt := 98) (by decide) ?_
      refine g_bipush (pc := 98) C dX10_about_98 (v := (-2)) rfl ?_
      exact g_iret (pc := 100) C R ⟨rfl, rfl, Or.inr ⟨i, hi, rfl, Or.inl ⟨Or.inr hsw, rfl⟩⟩, rfl⟩ (by decide) (by decide) dX10_about_100
    ·
      have hjj : j = 0 ∨ j = 1 ∨ j = 2 ∨ j = 3 ∨ j = 4 ∨ j = 5 := by omega
      rcases hjj with rfl | rfl | rfl | rfl | rfl | rfl
      ·
        refine g_tswI (pc := 23) C dX10_about_23 (x := nI 0) (by decide) (by decide) (off := 37) rfl (tgt := 60) (by decide) ?_
        refine g_aload_n (pc := 60) C dX10_about_60 3 rfl ?_
        refine g_get (pc := 61) C (j := 1) (WD.nd (i := i) hW (by omega)).1 rfl rfl (by decide) u_134 dX10_about_61 ?_
        refine g_if_eq (pc := 64) C dX10_about_64 (tgt := 71) (by decide) (fun c_64 => ?_) (fun c_64 => ?_)
        ·
          refine g_iconst (pc := 71) C dX10_about_71 (v := nI 0) rfl ?_
          exact g_iret (pc := 72) C R ⟨rfl, rfl, Or.inr ⟨i, hi, rfl, Or.inr ⟨0, by omega, rfl, by rw [show abA σ i 0 = b32 (lvd σ i) from rfl, show lvd σ i = false from b32_yes c_64]; rfl⟩⟩, rfl⟩ (by decide) (by decide) dX10_about_72
        ·
          refine g_iconst (pc := 67) C dX10_about_67 (v := nI 1) rfl ?_
          refine g_goto (pc := 68) C dX10_about_68 (tgt := 72) (by decide) ?_
          exact g_iret (pc := 72) C R ⟨rfl, rfl, Or.inr ⟨i, hi, rfl, Or.inr ⟨0, by omega, rfl, by rw [show abA σ i 0 = b32 (lvd σ i) from rfl, show lvd σ i = true from b32_no c_64]; rfl⟩⟩, rfl⟩ (by decide) (by decide) dX10_about_72
      ·
        refine g_tswI (pc := 23) C dX10_about_23 (x := nI 1) (by decide) (by decide) (off := 50) rfl (tgt := 73) (by decide) ?_
        refine g_aload_n (pc := 73) C dX10_about_73 3 rfl ?_
        refine g_get (pc := 74) C (j := 5) (WD.nd (i := i) hW (by omega)).1 rfl rfl (by decide) u_149 dX10_about_74 ?_
        exact g_iret (pc := 77) C R ⟨rfl, rfl, Or.inr ⟨i, hi, rfl, Or.inr ⟨1, by omega, rfl, rfl⟩⟩, rfl⟩ (by decide) (by decide) dX10_about_77
      ·
        refine g_tswI (pc := 23) C dX10_about_23 (x := nI 2) (by decide) (by decide) (off := 55) rfl (tgt := 78) (by decide) ?_
        refine g_aload_n (pc := 78) C dX10_about_78 3 rfl ?_
        refine g_get (pc := 79) C (j := 6) (WD.nd (i := i) hW (by omega)).1 rfl rfl (by decide) u_152 dX10_about_79 ?_
        exact g_iret (pc := 82) C R ⟨rfl, rfl, Or.inr ⟨i, hi, rfl, Or.inr ⟨2, by omega, rfl, rfl⟩⟩, rfl⟩ (by decide) (by decide) dX10_about_82
      ·
        refine g_tswI (pc := 23) C dX10_about_23 (x := nI 3) (by decide) (by decide) (off := 60) rfl (tgt := 83) (by decide) ?_
        refine g_aload_n (pc := 83) C dX10_about_83 3 rfl ?_
        refine g_callV (pc := 84) C (As := []) (rest := []) (b := (w + 100 + 100 * i)) (c_X3_heardCount A P g (w + 100 + 100 * i) (by assumption) (WD.nd (i := i) hW (by omega))) (WD.nd (i := i) hW (by omega)).1 rfl rfl Y_X3_heardCount u_729 N_X3_heardCount ⟨by decide, by decide⟩ ⟨by decide, by decide⟩ (Nat.le_of_ble_eq_true rfl) rfl dX10_about_84 ?_
        rintro _ _ _ _ ⟨rfl, rfl, rfl, rfl⟩
        show V K 0 0 P A g [(0, .ref (A (w + 15010))), (1, .int (nI i)), (2, .int (nI 3)), (3, .ref (A (w + 100 + 100 * i)))] 87 [.int (nI (ct (fun t => (nHo (gN σ i) t).isSome) 24))]
        exact g_iret (pc := 87) C R ⟨rfl, rfl, Or.inr ⟨i, hi, rfl, Or.inr ⟨3, by omega, rfl, rfl⟩⟩, rfl⟩ (by decide) (by decide) dX10_about_87
      ·
        refine g_tswI (pc := 23) C dX10_about_23 (x := nI 4) (by decide) (by decide) (off := 65) rfl (tgt := 88) (by decide) ?_
        refine g_aload_n (pc := 88) C dX10_about_88 3 rfl ?_
        refine g_callV (pc := 89) C (As := []) (rest := []) (b := (w + 100 + 100 * i)) (c_X3_missedCount A P g (w + 100 + 100 * i) (WD.nd (i := i) hW (by omega))) (WD.nd (i := i) hW (by omega)).1 rfl rfl Y_X3_missedCount u_734 N_X3_missedCount ⟨by decide, by decide⟩ ⟨by decide, by decide⟩ (Nat.le_of_ble_eq_true rfl) rfl dX10_about_89 ?_
        rintro _ _ _ _ ⟨rfl, rfl, rfl, rfl⟩
        show V K 0 0 P A g [(0, .ref (A (w + 15010))), (1, .int (nI i)), (2, .int (nI 4)), (3, .ref (A (w + 100 + 100 * i)))] 92 [.int (nI (ct (fun t => (nMi (gN σ i) t).isSome) 24))]
        exact g_iret (pc := 92) C R ⟨rfl, rfl, Or.inr ⟨i, hi, rfl, Or.inr ⟨4, by omega, rfl, rfl⟩⟩, rfl⟩ (by decide) (by decide) dX10_about_92
      ·
        refine g_tswI (pc := 23) C dX10_about_23 (x := nI 5) (by decide) (by decide) (off := 70) rfl (tgt := 93) (by decide) ?_
        refine g_aload_n (pc := 93) C dX10_about_93 3 rfl ?_
        refine g_get (pc := 94) C (j := 7) (WD.nd (i := i) hW (by omega)).1 rfl rfl (by decide) u_155 dX10_about_94 ?_
        exact g_iret (pc := 97) C R ⟨rfl, rfl, Or.inr ⟨i, hi, rfl, Or.inr ⟨5, by omega, rfl, rfl⟩⟩, rfl⟩ (by decide) (by decide) dX10_about_97
  ·
    refine g_iconst (pc := 11) C dX10_about_11 (v := (-1)) rfl ?_
    exact g_iret (pc := 12) C R ⟨rfl, rfl, Or.inl ⟨b32_yes c_8, rfl⟩, rfl⟩ (by decide) (by decide) dX10_about_12
abbrev rm_X10_letter : Room := { frames := 2, cells := 0, slots := 0, locals := 42 }
theorem Y_X10_letter : pY yX10_letter cX10_letter 4 (Option.some Jvm.ClassFile.FieldType.int) := ⟨u_739, u_740, u_1, u_741⟩
theorem N_X10_letter : yX10_letter.cls ≠ "java/lang/invoke/MethodHandle" ∧ yX10_letter.cls ≠ "java/lang/invoke/VarHandle" ∧ (parseMethodDescriptor yX10_letter.desc).map (fun d => d.parameters.length) = some 2 := by decide +kernel
set_option maxRecDepth 20000 in
set_option maxHeartbeats 4000000 in
theorem c_X10_letter (A : Nat → Nat) (P : List Nat) (g : pM) (w : Nat) {σ : Sg} (x y : Int32) (hO : g (w + 15010) = vOb A w) (hW : WD A g w (w + 15005) σ) : PM yX10_letter cX10_letter 4 (Option.some Jvm.ClassFile.FieldType.int) rm_X10_letter [.ref (A (w + 15010)), .int x, .int y] P A g (fun v g' => ((decide (¬ x < 0 ∧ x < nI (gR σ).length) = false ∧ v = some (.int (-1))) ∨ (∃ i t, (gR σ)[i]? = some t ∧ x = nI i ∧ (((y < 0 ∨ nI 6 ≤ y) ∧ ((¬ nI 10 ≤ y ∧ v = some (.int (-2))) ∨ (nI 10 ≤ y ∧ v = some (.int (nlAt (t.2.2.2.2.2.map nI) (y - nI 10)))))) ∨ (∃ k, k < 6 ∧ y = nI k ∧ v = some (.int (leK t k)))))) ∧ g = g') := by
  have hK := hW.k16
  have hT24 : gT σ ≤ 24 := hW.2.2.2.2.2.2.2.2
  have hrl := hW.rw.le
  obtain ⟨fi, r, ρ, L, r1, r2, r3, r4, r5⟩ := hW.rw
  refine px_intro (by decide +kernel) (Nat.le_of_ble_eq_true rfl) (fun K sz C R => ?_)
  show V K 0 0 P A g [(0, .ref (A (w + 15010))), (1, .int x), (2, .int y)] 0 []
  refine g_aload_n (pc := 0) C dX10_letter_0 0 rfl ?_
  refine g_get (pc := 1) C (j := 1) hO rfl rfl (by decide) u_325 dX10_letter_1 ?_
  refine g_get (pc := 4) C (j := 4) (WD.wb hW).1 rfl rfl (by decide) u_254 dX10_letter_4 ?_
  refine g_iload_n (pc := 7) C dX10_letter_7 1 rfl ?_
  refine g_callV (pc := 8) C (As := [.int x]) (rest := []) (b := (w + 3)) (c_X5_isLetter A P g w x hrl r2) (RW.ex (WD.rw hW)).choose_spec rfl rfl Y_X5_isLetter u_560 N_X5_isLetter ⟨by decide, by decide⟩ ⟨by decide, by decide⟩ (Nat.le_of_ble_eq_true rfl) rfl dX10_letter_8 ?_
  rintro _ _ _ _ ⟨rfl, rfl, rfl, rfl⟩
  show V K 0 0 P A g [(0, .ref (A (w + 15010))), (1, .int x), (2, .int y)] 11 [.int (b32 (decide (¬ x < 0 ∧ x < nI (gR σ).length)))]
  refine g_if_ne (pc := 11) C dX10_letter_11 (tgt := 16) (by decide) (fun c_11 => ?_) (fun c_11 => ?_)
  ·
    obtain ⟨i, hi, rfl⟩ := isK_ex (by omega) (b32_no c_11)
    have hρ := r1.2.2.1 i (by omega)
    have hti := r4 i hi
    have hLi : LT A g (w + 2000 + 3 * ρ i) (L (ρ i)) := r3 (ρ i) hρ
    refine g_aload_n (pc := 16) C dX10_letter_16 0 rfl ?_
    refine g_get (pc := 17) C (j := 1) hO rfl rfl (by decide) u_325 dX10_letter_17 ?_
    refine g_get (pc := 20) C (j := 4) (WD.wb hW).1 rfl rfl (by decide) u_254 dX10_letter_20 ?_
    refine g_iload_n (pc := 23) C dX10_letter_23 1 rfl ?_
    refine g_callV (pc := 24) C (As := [.int (nI i)]) (rest := []) (b := (w + 3)) (c_X5_at A P g w i (by omega) r1.1 r2) (RW.ex (WD.rw hW)).choose_spec rfl rfl Y_X5_at u_742 N_X5_at ⟨by decide, by decide⟩ ⟨by decide, by decide⟩ (Nat.le_of_ble_eq_true rfl) rfl dX10_letter_24 ?_
    rintro _ _ _ _ ⟨rfl, rfl, rfl, rfl⟩
    show V K 0 0 P A g [(0, .ref (A (w + 15010))), (1, .int (nI i)), (2, .int y)] 27 [.ref (A (w + 2000 + 3 * ρ i))]
    refine g_astore_n (pc := 27) C dX10_letter_27 (by decide) (lv' := [(0, .ref (A (w + 15010))), (1, .int (nI i)), (2, .int y), (3, .ref (A (w + 2000 + 3 * ρ i)))]) [1, 2, 3, 0] rfl ?_
    refine g_iload_n (pc := 28) C dX10_letter_28 2 rfl ?_
    rcases pk_ix y (n := 6) (by omega) with hsw | hsw | ⟨j, hj, rfl⟩
    ·
      refine g_tswO (pc := 29) C dX10_letter_29 (Or.inl (by have e := Int32.lt_iff_toInt_lt.mp hsw; have e0 : (0 : Int32).toInt = 0 := (by decide); omega)) (tgt := 101) (by decide) ?_
      refine g_iload_n (pc := 101) C dX10_letter_101 2 rfl ?_
      refine g_bipush (pc := 102) C dX10_letter_102 (v := nI 10) rfl ?_
      refine g_icmp_ge (pc := 104) C dX10_letter_104 (tgt := 112) (by decide) (fun c_104 => ?_) (fun c_104 => ?_)
      ·
        refine g_aload_n (pc := 112) C dX10_letter_112 3 rfl ?_
        refine g_get (pc := 113) C (j := 5) hLi.1 rfl rfl (by decide) u_214 dX10_letter_113 ?_
        refine g_iload_n (pc := 116) C dX10_letter_116 2 rfl ?_
        refine g_bipush (pc := 117) C dX10_letter_117 (v := nI 10) rfl ?_
        refine g_isub (pc := 119) C dX10_letter_119 (z := y - (nI 10)) rfl ?_
        refine g_callV (pc := 120) C (As := [.int (y - (nI 10))]) (rest := []) (b := (w + 2000 + 3 * ρ i + 1)) (c_X4_at A P g (w + 2000 + 3 * ρ i + 1) (y - nI 10) hLi.2.1) (NLN.o hLi.2) rfl rfl Y_X4_at u_704 N_X4_at ⟨by decide, by decide⟩ ⟨by decide, by decide⟩ (Nat.le_of_ble_eq_true rfl) rfl dX10_letter_120 ?_
        rintro _ _ _ _ ⟨rfl, rfl, rfl, rfl⟩
        show V K 0 0 P A g [(0, .ref (A (w + 15010))), (1, .int (nI i)), (2, .int y), (3, .ref (A (w + 2000 + 3 * ρ i)))] 123 [.int (nlAt (List.map nI (L (ρ i)).2.2.2.2.2) (y - nI 10))]
        exact g_iret (pc := 123) C R ⟨rfl, rfl, Or.inr ⟨i, _, hti, rfl, Or.inl ⟨Or.inl hsw, Or.inr ⟨c_104, rfl⟩⟩⟩, rfl⟩ (by decide) (by decide) dX10_letter_123
      ·
        refine g_bipush (pc := 107) C dX10_letter_107 (v := (-2)) rfl ?_
        refine g_goto (pc := 109) C dX10_letter_109 (tgt := 123) (by decide) ?_
        exact g_iret (pc := 123) C R ⟨rfl, rfl, Or.inr ⟨i, _, hti, rfl, Or.inl ⟨Or.inl hsw, Or.inl ⟨c_104, rfl⟩⟩⟩, rfl⟩ (by decide) (by decide) dX10_letter_123
    ·
      refine g_tswO (pc := 29) C dX10_letter_29 (Or.inr (by have e := Int32.le_iff_toInt_le.mp hsw; rw [nI_toInt (by omega)] at e; omega)) (tgt := 101) (by decide) ?_
      refine g_iload_n (pc := 101) C dX10_letter_101 2 rfl ?_
      refine g_bipush (pc := 102) C dX10_letter_102 (v := nI 10) rfl ?_
      refine g_icmp_ge (pc := 104) C dX10_letter_104 (tgt := 112) (by decide) (fun c_104 => ?_) (fun c_104 => ?_)
      ·
        refine g_aload_n (pc := 112) C dX10_letter_112 3 rfl ?_
        refine g_get (pc := 113) C (j := 5) hLi.1 rfl rfl (by decide) u_214 dX10_letter_113 ?_
        refine g_iload_n (pc := 116) C dX10_letter_116 2 rfl ?_
        refine g_bipush (pc := 117) C dX10_letter_117 (v := nI 10) rfl ?_
        refine g_isub (pc := 119) C dX10_letter_119 (z := y - (nI 10)) rfl ?_
        refine g_callV (pc := 120) C (As := [.int (y - (nI 10))]) (rest := []) (b := (w + 2000 + 3 * ρ i + 1)) (c_X4_at A P g (w + 2000 + 3 * ρ i + 1) (y - nI 10) hLi.2.1) (NLN.o hLi.2) rfl rfl Y_X4_at u_704 N_X4_at ⟨by decide, by decide⟩ ⟨by decide, by decide⟩ (Nat.le_of_ble_eq_true rfl) rfl dX10_letter_120 ?_
        rintro _ _ _ _ ⟨rfl, rfl, rfl, rfl⟩
        show V K 0 0 P A g [(0, .ref (A (w + 15010))), (1, .int (nI i)), (2, .int y), (3, .ref (A (w + 2000 + 3 * ρ i)))] 123 [.int (nlAt (List.map nI (L (ρ i)).2.2.2.2.2) (y - nI 10))]
        exact g_iret (pc := 123) C R ⟨rfl, rfl, Or.inr ⟨i, _, hti, rfl, Or.inl ⟨Or.inr hsw, Or.inr ⟨c_104, rfl⟩⟩⟩, rfl⟩ (by decide) (by decide) dX10_letter_123
      ·
        refine g_bipush (pc := 107) C dX10_letter_107 (v := (-2)) rfl ?_
        refine g_goto (pc := 109) C dX10_letter_109 (tgt := 123) (by decide) ?_
        exact g_iret (pc := 123) C R ⟨rfl, rfl, Or.inr ⟨i, _, hti, rfl, Or.inl ⟨Or.inr hsw, Or.inl ⟨c_104, rfl⟩⟩⟩, rfl⟩ (by decide) (by decide) dX10_letter_123
    ·
      have hjj : j = 0 ∨ j = 1 ∨ j = 2 ∨ j = 3 ∨ j = 4 ∨ j = 5 := by omega
      rcases hjj with rfl | rfl | rfl | rfl | rfl | rfl
      ·
        refine g_tswI (pc := 29) C dX10_letter_29 (x := nI 0) (by decide) (by decide) (off := 39) rfl (tgt := 68) (by decide) ?_
        refine g_aload_n (pc := 68) C dX10_letter_68 3 rfl ?_
        refine g_get (pc := 69) C (j := 0) hLi.1 rfl rfl (by decide) u_197 dX10_letter_69 ?_
        exact g_iret (pc := 72) C R ⟨rfl, rfl, Or.inr ⟨i, _, hti, rfl, Or.inr ⟨0, by omega, rfl, rfl⟩⟩, rfl⟩ (by decide) (by decide) dX10_letter_72
      ·
        refine g_tswI (pc := 29) C dX10_letter_29 (x := nI 1) (by decide) (by decide) (off := 44) rfl (tgt := 73) (by decide) ?_
        refine g_aload_n (pc := 73) C dX10_letter_73 3 rfl ?_
        refine g_get (pc := 74) C (j := 1) hLi.1 rfl rfl (by decide) u_201 dX10_letter_74 ?_
        exact g_iret (pc := 77) C R ⟨rfl, rfl, Or.inr ⟨i, _, hti, rfl, Or.inr ⟨1, by omega, rfl, rfl⟩⟩, rfl⟩ (by decide) (by decide) dX10_letter_77
      ·
        refine g_tswI (pc := 29) C dX10_letter_29 (x := nI 2) (by decide) (by decide) (off := 49) rfl (tgt := 78) (by decide) ?_
        refine g_aload_n (pc := 78) C dX10_letter_78 3 rfl ?_
        refine g_get (pc := 79) C (j := 2) hLi.1 rfl rfl (by decide) u_204 dX10_letter_79 ?_
        exact g_iret (pc := 82) C R ⟨rfl, rfl, Or.inr ⟨i, _, hti, rfl, Or.inr ⟨2, by omega, rfl, rfl⟩⟩, rfl⟩ (by decide) (by decide) dX10_letter_82
      ·
        refine g_tswI (pc := 29) C dX10_letter_29 (x := nI 3) (by decide) (by decide) (off := 54) rfl (tgt := 83) (by decide) ?_
        refine g_aload_n (pc := 83) C dX10_letter_83 3 rfl ?_
        refine g_get (pc := 84) C (j := 3) hLi.1 rfl rfl (by decide) u_207 dX10_letter_84 ?_
        exact g_iret (pc := 87) C R ⟨rfl, rfl, Or.inr ⟨i, _, hti, rfl, Or.inr ⟨3, by omega, rfl, rfl⟩⟩, rfl⟩ (by decide) (by decide) dX10_letter_87
      ·
        refine g_tswI (pc := 29) C dX10_letter_29 (x := nI 4) (by decide) (by decide) (off := 59) rfl (tgt := 88) (by decide) ?_
        refine g_aload_n (pc := 88) C dX10_letter_88 3 rfl ?_
        refine g_get (pc := 89) C (j := 4) hLi.1 rfl rfl (by decide) u_210 dX10_letter_89 ?_
        exact g_iret (pc := 92) C R ⟨rfl, rfl, Or.inr ⟨i, _, hti, rfl, Or.inr ⟨4, by omega, rfl, rfl⟩⟩, rfl⟩ (by decide) (by decide) dX10_letter_92
      ·
        refine g_tswI (pc := 29) C dX10_letter_29 (x := nI 5) (by decide) (by decide) (off := 64) rfl (tgt := 93) (by decide) ?_
        refine g_aload_n (pc := 93) C dX10_letter_93 3 rfl ?_
        refine g_get (pc := 94) C (j := 5) hLi.1 rfl rfl (by decide) u_214 dX10_letter_94 ?_
        refine g_get (pc := 97) C (j := 1) (NLN.o hLi.2) rfl rfl (by decide) u_97 dX10_letter_97 ?_
        exact g_iret (pc := 100) C R ⟨rfl, rfl, Or.inr ⟨i, _, hti, rfl, Or.inr ⟨5, by omega, rfl, rfl⟩⟩, rfl⟩ (by decide) (by decide) dX10_letter_100
  ·
    refine g_iconst (pc := 14) C dX10_letter_14 (v := (-1)) rfl ?_
    exact g_iret (pc := 15) C R ⟨rfl, rfl, Or.inl ⟨b32_yes c_11, rfl⟩, rfl⟩ (by decide) (by decide) dX10_letter_15
