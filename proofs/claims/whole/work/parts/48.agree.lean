-- PART 48: at each call class and reference answer alike
theorem NX.of {A : Nat → Nat} {w : Nat} {g1 g2 : pM} {B B1 B2 : Nat} {cs : List Nat} {σ : Sg} {ks : Nat → Option Sg} (hB : B + 2001 < 2 ^ 30) (h1 : B1 ≤ B + 2000) (h2 : B2 ≤ B + 2000) (a : VB A g1 w cs σ ks) (b : MM A g2 (w + 15100) cs σ) (c : KP g2 (w + 15100) ks) (d : SW B1 cs σ) (e : ∀ k s, ks k = some s → SW B2 cs s) : NX A w g1 g2 (B + 2000) :=
  ⟨cs, σ, ks, a, b, c, d.up h1 (by omega), fun k s h => (e k s h).up h2 (by omega)⟩
theorem kp_no {ks : Nat → Option Sg} {k : Nat} {s : Sg} (h : decide (¬ nI k < 0 ∧ nI k < 2) = false ∨ ∃ j, j < 2 ∧ nI k = nI j ∧ ks j = none) (hk : k < 2) (hs : ks k = some s) : False := by
  rcases h with h | ⟨j, h1, h2, h3⟩
  · exact rw_no (n := 2) h hk (by omega)
  · have z := nIe h2 (by omega) (by omega)
    subst z
    rw [hs] at h3
    cases h3
theorem kp_sw {B : Nat} {cs : List Nat} {σ : Sg} {ks : Nat → Option Sg} {k : Nat} (hS : SW B cs σ) (h : ∀ k s, ks k = some s → SW B cs s) : ∀ j s, va_up ks k (some σ) j = some s → SW B cs s := by
  intro j s hj
  by_cases e : j = k
  · subst e
    rw [va_up_self] at hj
    cases hj
    exact hS
  · rw [va_up_ne _ _ e] at hj
    exact h j s hj
set_option maxHeartbeats 1000000 in
theorem a_sizes {A : Nat → Nat} {ga f1 gb f2 : pM} {w B : Nat} {cs : List Nat} {σ : Sg} {ks : Nat → Option Sg} {x y : Int32} (hB : B + 2001 < 2 ^ 30) (hS : SW B cs σ) (hk2 : ∀ k s, ks k = some s → SW B cs s) (hX : VB A ga w cs σ ks) (hM : MM A gb (w + 15100) cs σ) (hKP : KP gb (w + 15100) ks) {r r2 : Int32}
    (h1 : ((x < nI 2 ∨ nI 5 < x ∨ y < nI 2 ∨ ¬ y ≤ nI 8) ∧ (some (.int r) : Option Value) = some (.int (-2)) ∧ ga = f1) ∨ (∃ n m, 2 ≤ n ∧ n ≤ 5 ∧ 2 ≤ m ∧ m ≤ 8 ∧ x = nI n ∧ y = nI m ∧ ((¬ gK σ ≤ 0 ∧ (some (.int r) : Option Value) = some (.int (-3)) ∧ ga = f1) ∨ (gK σ ≤ 0 ∧ (some (.int r) : Option Value) = some (.int (nI 1)) ∧ VB A f1 w cs (sZ σ (n, m, (gZ σ).2.2)) ks))))
    (h2 : ((x < nI 2 ∨ nI 5 < x ∨ y < nI 2 ∨ ¬ y ≤ nI 8) ∧ (some (.int r2) : Option Value) = some (.int (-2)) ∧ gb = f2) ∨ (∃ n k, 2 ≤ n ∧ n ≤ 5 ∧ 2 ≤ k ∧ k ≤ 8 ∧ x = nI n ∧ y = nI k ∧ ((¬ gK σ ≤ 0 ∧ (some (.int r2) : Option Value) = some (.int (-3)) ∧ gb = f2) ∨ (gK σ ≤ 0 ∧ (some (.int r2) : Option Value) = some (.int (nI 1)) ∧ MM A f2 (w + 15100) cs (sZ σ (n, k, (gZ σ).2.2)) ∧ FrA gb f2 (w + 15100))))) : r = r2 ∧ NX A w f1 f2 (B + 2000) := by
  have hK := hS.2.1
  have hT := hS.2.2.1
  have hL := hX.wd.rw.le
  rcases h1 with ⟨a1, ea, rfl⟩ | ⟨n, m, a1, a2, a3, a4, rfl, rfl, (⟨a7, ea, rfl⟩ | ⟨a7, ea, a9⟩)⟩
  ·
    cases ea
    rcases h2 with ⟨b1, eb, rfl⟩ | ⟨n2, k2, b1, b2, b3, b4, rfl, rfl, (⟨b7, eb, rfl⟩ | ⟨b7, eb, b9, b10⟩)⟩
    ·
      cases eb
      exact ⟨rfl, NX.of hB (by omega) (by omega) hX hM hKP hS hk2⟩
    ·
      cases eb
      exfalso
      exact sz_no b1 b2 b3 b4 a1
    ·
      cases eb
      exfalso
      exact sz_no b1 b2 b3 b4 a1
  ·
    cases ea
    rcases h2 with ⟨b1, eb, rfl⟩ | ⟨n2, k2, b1, b2, b3, b4, qx, qy, (⟨b7, eb, rfl⟩ | ⟨b7, eb, b9, b10⟩)⟩
    ·
      cases eb
      exfalso
      exact sz_no a1 a2 a3 a4 b1
    ·
      cases eb
      have zqx := nIe qx (by omega) (by omega)
      subst zqx
      have zqy := nIe qy (by omega) (by omega)
      subst zqy
      exact ⟨rfl, NX.of hB (by omega) (by omega) hX hM hKP hS hk2⟩
    ·
      cases eb
      have zqx := nIe qx (by omega) (by omega)
      subst zqx
      have zqy := nIe qy (by omega) (by omega)
      subst zqy
      exfalso
      omega
  ·
    cases ea
    rcases h2 with ⟨b1, eb, rfl⟩ | ⟨n2, k2, b1, b2, b3, b4, qx, qy, (⟨b7, eb, rfl⟩ | ⟨b7, eb, b9, b10⟩)⟩
    ·
      cases eb
      exfalso
      exact sz_no a1 a2 a3 a4 b1
    ·
      cases eb
      have zqx := nIe qx (by omega) (by omega)
      subst zqx
      have zqy := nIe qy (by omega) (by omega)
      subst zqy
      exfalso
      omega
    ·
      cases eb
      have zqx := nIe qx (by omega) (by omega)
      subst zqx
      have zqy := nIe qy (by omega) (by omega)
      subst zqy
      exact ⟨rfl, NX.of hB (by omega) (by omega) a9 b9 (hKP.fra b10) (size_SW hS a7 a1 a2 a3 a4) hk2⟩
set_option maxHeartbeats 1000000 in
theorem a_walks {A : Nat → Nat} {ga f1 gb f2 : pM} {w B : Nat} {cs : List Nat} {σ : Sg} {ks : Nat → Option Sg} {x y z : Int32} (hB : B + 2001 < 2 ^ 30) (hS : SW B cs σ) (hk2 : ∀ k s, ks k = some s → SW B cs s) (hX : VB A ga w cs σ ks) (hM : MM A gb (w + 15100) cs σ) (hKP : KP gb (w + 15100) ks) {r r2 : Int32}
    (h1 : ((x < nI 1 ∨ nI 6 < x ∨ y < 0 ∨ ¬ y ≤ x ∨ z < nI 1 ∨ ¬ z ≤ nI 20) ∧ (some (.int r) : Option Value) = some (.int (-2)) ∧ ga = f1) ∨ (∃ n m k, 1 ≤ n ∧ n ≤ 6 ∧ m ≤ n ∧ 1 ≤ k ∧ k ≤ 20 ∧ x = nI n ∧ y = nI m ∧ z = nI k ∧ ((¬ gK σ ≤ 0 ∧ (some (.int r) : Option Value) = some (.int (-3)) ∧ ga = f1) ∨ (gK σ ≤ 0 ∧ (some (.int r) : Option Value) = some (.int (nI 1)) ∧ VB A f1 w cs (sZ σ ((gZ σ).1, (gZ σ).2.1, n, m, k)) ks))))
    (h2 : ((x < nI 1 ∨ nI 6 < x ∨ y < 0 ∨ ¬ y ≤ x ∨ z < nI 1 ∨ ¬ z ≤ nI 20) ∧ (some (.int r2) : Option Value) = some (.int (-2)) ∧ gb = f2) ∨ (∃ n k t, 1 ≤ n ∧ n ≤ 6 ∧ k ≤ n ∧ 1 ≤ t ∧ t ≤ 20 ∧ x = nI n ∧ y = nI k ∧ z = nI t ∧ ((¬ gK σ ≤ 0 ∧ (some (.int r2) : Option Value) = some (.int (-3)) ∧ gb = f2) ∨ (gK σ ≤ 0 ∧ (some (.int r2) : Option Value) = some (.int (nI 1)) ∧ MM A f2 (w + 15100) cs (sZ σ ((gZ σ).1, (gZ σ).2.1, n, k, t)) ∧ FrA gb f2 (w + 15100))))) : r = r2 ∧ NX A w f1 f2 (B + 2000) := by
  have hK := hS.2.1
  have hT := hS.2.2.1
  have hL := hX.wd.rw.le
  rcases h1 with ⟨a1, ea, rfl⟩ | ⟨n, m, k, a1, a2, a3, a4, a5, rfl, rfl, rfl, (⟨a9, ea, rfl⟩ | ⟨a9, ea, a11⟩)⟩
  ·
    cases ea
    rcases h2 with ⟨b1, eb, rfl⟩ | ⟨n2, k2, t2, b1, b2, b3, b4, b5, rfl, rfl, rfl, (⟨b9, eb, rfl⟩ | ⟨b9, eb, b11, b12⟩)⟩
    ·
      cases eb
      exact ⟨rfl, NX.of hB (by omega) (by omega) hX hM hKP hS hk2⟩
    ·
      cases eb
      exfalso
      exact wk_no b1 b2 b3 b4 b5 a1
    ·
      cases eb
      exfalso
      exact wk_no b1 b2 b3 b4 b5 a1
  ·
    cases ea
    rcases h2 with ⟨b1, eb, rfl⟩ | ⟨n2, k2, t2, b1, b2, b3, b4, b5, qx, qy, qz, (⟨b9, eb, rfl⟩ | ⟨b9, eb, b11, b12⟩)⟩
    ·
      cases eb
      exfalso
      exact wk_no a1 a2 a3 a4 a5 b1
    ·
      cases eb
      have zqx := nIe qx (by omega) (by omega)
      subst zqx
      have zqy := nIe qy (by omega) (by omega)
      subst zqy
      have zqz := nIe qz (by omega) (by omega)
      subst zqz
      exact ⟨rfl, NX.of hB (by omega) (by omega) hX hM hKP hS hk2⟩
    ·
      cases eb
      have zqx := nIe qx (by omega) (by omega)
      subst zqx
      have zqy := nIe qy (by omega) (by omega)
      subst zqy
      have zqz := nIe qz (by omega) (by omega)
      subst zqz
      exfalso
      omega
  ·
    cases ea
    rcases h2 with ⟨b1, eb, rfl⟩ | ⟨n2, k2, t2, b1, b2, b3, b4, b5, qx, qy, qz, (⟨b9, eb, rfl⟩ | ⟨b9, eb, b11, b12⟩)⟩
    ·
      cases eb
      exfalso
      exact wk_no a1 a2 a3 a4 a5 b1
    ·
      cases eb
      have zqx := nIe qx (by omega) (by omega)
      subst zqx
      have zqy := nIe qy (by omega) (by omega)
      subst zqy
      have zqz := nIe qz (by omega) (by omega)
      subst zqz
      exfalso
      omega
    ·
      cases eb
      have zqx := nIe qx (by omega) (by omega)
      subst zqx
      have zqy := nIe qy (by omega) (by omega)
      subst zqy
      have zqz := nIe qz (by omega) (by omega)
      subst zqz
      exact ⟨rfl, NX.of hB (by omega) (by omega) a11 b11 (hKP.fra b12) (walk_SW hS a9 a1 a2 a3 a4 a5) hk2⟩
set_option maxHeartbeats 1000000 in
theorem a_coin {A : Nat → Nat} {ga f1 gb f2 : pM} {w B : Nat} {cs : List Nat} {σ : Sg} {ks : Nat → Option Sg} {x : Int32} (hB : B + 2001 < 2 ^ 30) (hS : SW B cs σ) (hk2 : ∀ k s, ks k = some s → SW B cs s) (hX : VB A ga w cs σ ks) (hM : MM A gb (w + 15100) cs σ) (hKP : KP gb (w + 15100) ks) {r r2 : Int32}
    (h1 : (x < 0 ∧ (some (.int r) : Option Value) = some (.int (-2)) ∧ ga = f1) ∨ (∃ c, c < 2 ^ 31 ∧ x = nI c ∧ ((¬ cs.length < 64 ∧ (some (.int r) : Option Value) = some (.int (-4)) ∧ VB A f1 w cs σ ks) ∨ (cs.length < 64 ∧ (some (.int r) : Option Value) = some (.int (nI (cs.length + 1))) ∧ VB A f1 w (cs ++ [c]) σ ks))))
    (h2 : (x < 0 ∧ (some (.int r2) : Option Value) = some (.int (-2)) ∧ gb = f2) ∨ (∃ c, c < 2 ^ 31 ∧ x = nI c ∧ ((¬ cs.length < 64 ∧ (some (.int r2) : Option Value) = some (.int (-4)) ∧ MM A f2 (w + 15100) cs σ ∧ gb = f2) ∨ (cs.length < 64 ∧ (some (.int r2) : Option Value) = some (.int (nI (cs.length + 1))) ∧ MM A f2 (w + 15100) (cs ++ [c]) σ ∧ Fr gb f2 (w + 15100) ((w + 15100) + 6))))) : r = r2 ∧ NX A w f1 f2 (B + 2000) := by
  have hK := hS.2.1
  have hT := hS.2.2.1
  have hL := hX.wd.rw.le
  rcases h1 with ⟨a1, ea, rfl⟩ | ⟨c, a1, rfl, (⟨a3, ea, a5⟩ | ⟨a3, ea, a5⟩)⟩
  ·
    cases ea
    rcases h2 with ⟨b1, eb, rfl⟩ | ⟨c2, b1, rfl, (⟨b3, eb, b5, rfl⟩ | ⟨b3, eb, b5, b6⟩)⟩
    ·
      cases eb
      exact ⟨rfl, NX.of hB (by omega) (by omega) hX hM hKP hS hk2⟩
    ·
      cases eb
      exfalso
      exact nI_pos b1 a1
    ·
      cases eb
      exfalso
      exact nI_pos b1 a1
  ·
    cases ea
    rcases h2 with ⟨b1, eb, rfl⟩ | ⟨c2, b1, qx, (⟨b3, eb, b5, rfl⟩ | ⟨b3, eb, b5, b6⟩)⟩
    ·
      cases eb
      exfalso
      exact nI_pos a1 b1
    ·
      cases eb
      have zqx := nIe qx (by omega) (by omega)
      subst zqx
      exact ⟨rfl, NX.of hB (by omega) (by omega) a5 b5 hKP (hS) hk2⟩
    ·
      cases eb
      have zqx := nIe qx (by omega) (by omega)
      subst zqx
      exfalso
      omega
  ·
    cases ea
    rcases h2 with ⟨b1, eb, rfl⟩ | ⟨c2, b1, qx, (⟨b3, eb, b5, rfl⟩ | ⟨b3, eb, b5, b6⟩)⟩
    ·
      cases eb
      exfalso
      exact nI_pos a1 b1
    ·
      cases eb
      have zqx := nIe qx (by omega) (by omega)
      subst zqx
      exfalso
      omega
    ·
      cases eb
      have zqx := nIe qx (by omega) (by omega)
      subst zqx
      exact ⟨rfl, NX.of hB (by omega) (by omega) a5 b5 (hKP.fr b6 (by omega)) (coin_SW hS) (fun k s h => coin_SW (hk2 k s h))⟩
set_option maxHeartbeats 1000000 in
theorem a_node {A : Nat → Nat} {ga f1 gb f2 : pM} {w B : Nat} {cs : List Nat} {σ : Sg} {ks : Nat → Option Sg} (hB : B + 2001 < 2 ^ 30) (hS : SW B cs σ) (hk2 : ∀ k s, ks k = some s → SW B cs s) (hX : VB A ga w cs σ ks) (hM : MM A gb (w + 15100) cs σ) (hKP : KP gb (w + 15100) ks) {r r2 : Int32}
    (h1 : (16 ≤ gK σ ∧ (some (.int r) : Option Value) = some (.int (-4)) ∧ ga = f1) ∨ (gK σ < 16 ∧ (some (.int r) : Option Value) = some (.int (nI (gK σ))) ∧ VB A f1 w cs (sK (sNd σ (gK σ) nd0) (gK σ + 1)) ks))
    (h2 : (16 ≤ gK σ ∧ (some (.int r2) : Option Value) = some (.int (-4)) ∧ gb = f2) ∨ (gK σ < 16 ∧ (some (.int r2) : Option Value) = some (.int (nI (gK σ))) ∧ MM A f2 (w + 15100) cs (sK (sNd σ (gK σ) nd0) (gK σ + 1)) ∧ FrA gb f2 (w + 15100))) : r = r2 ∧ NX A w f1 f2 (B + 2000) := by
  have hK := hS.2.1
  have hT := hS.2.2.1
  have hL := hX.wd.rw.le
  rcases h1 with ⟨a1, ea, rfl⟩ | ⟨a1, ea, a3⟩
  ·
    cases ea
    rcases h2 with ⟨b1, eb, rfl⟩ | ⟨b1, eb, b3, b4⟩
    ·
      cases eb
      exact ⟨rfl, NX.of hB (by omega) (by omega) hX hM hKP hS hk2⟩
    ·
      cases eb
      exfalso
      omega
  ·
    cases ea
    rcases h2 with ⟨b1, eb, rfl⟩ | ⟨b1, eb, b3, b4⟩
    ·
      cases eb
      exfalso
      omega
    ·
      cases eb
      exact ⟨rfl, NX.of hB (by omega) (by omega) a3 b3 (hKP.fra b4) (node_SW hS a1) hk2⟩
set_option maxHeartbeats 1000000 in
theorem a_join {A : Nat → Nat} {ga f1 gb f2 : pM} {w B : Nat} {cs : List Nat} {σ : Sg} {ks : Nat → Option Sg} {x y : Int32} (hB : B + 2001 < 2 ^ 30) (hS : SW B cs σ) (hk2 : ∀ k s, ks k = some s → SW B cs s) (hX : VB A ga w cs σ ks) (hM : MM A gb (w + 15100) cs σ) (hKP : KP gb (w + 15100) ks) {r r2 : Int32}
    (h1 : ((isN σ x = false ∨ isN σ y = false) ∧ (some (.int r) : Option Value) = some (.int (-1)) ∧ ga = f1) ∨ (∃ i j, i < gK σ ∧ j < gK σ ∧ x = nI i ∧ y = nI j ∧ (((lvd σ i = false ∨ lvd σ j = false) ∧ (some (.int r) : Option Value) = some (.int (-3)) ∧ ga = f1) ∨ (lvd σ i = true ∧ lvd σ j = true ∧ ((i = j ∧ (some (.int r) : Option Value) = some (.int (-5)) ∧ ga = f1) ∨ (¬ i = j ∧ (some (.int r) : Option Value) = some (.int (nI (gR (snd σ i j 1 0 0 [])).length)) ∧ VB A f1 w cs (snd σ i j 1 0 0 []) ks))))))
    (h2 : ((isN σ x = false ∨ isN σ y = false) ∧ (some (.int r2) : Option Value) = some (.int (-1)) ∧ gb = f2) ∨ (∃ i j, i < gK σ ∧ j < gK σ ∧ x = nI i ∧ y = nI j ∧ (((lvd σ i = false ∨ lvd σ j = false) ∧ (some (.int r2) : Option Value) = some (.int (-3)) ∧ gb = f2) ∨ (lvd σ i = true ∧ lvd σ j = true ∧ ((i = j ∧ (some (.int r2) : Option Value) = some (.int (-5)) ∧ gb = f2) ∨ (¬ i = j ∧ (some (.int r2) : Option Value) = some (.int (nI (gR (snd σ i j 1 0 0 [])).length)) ∧ MM A f2 (w + 15100) cs (snd σ i j 1 0 0 []) ∧ FrA gb f2 (w + 15100))))))) : r = r2 ∧ NX A w f1 f2 (B + 2000) := by
  have hK := hS.2.1
  have hT := hS.2.2.1
  have hL := hX.wd.rw.le
  rcases h1 with ⟨a1, ea, rfl⟩ | ⟨i, j, a1, a2, rfl, rfl, (⟨a5, ea, rfl⟩ | ⟨a5, a6, (⟨a7, ea, rfl⟩ | ⟨a7, ea, a9⟩)⟩)⟩
  ·
    cases ea
    rcases h2 with ⟨b1, eb, rfl⟩ | ⟨i2, j2, b1, b2, rfl, rfl, (⟨b5, eb, rfl⟩ | ⟨b5, b6, (⟨b7, eb, rfl⟩ | ⟨b7, eb, b9, b10⟩)⟩)⟩
    ·
      cases eb
      exact ⟨rfl, NX.of hB (by omega) (by omega) hX hM hKP hS hk2⟩
    ·
      cases eb
      exfalso
      exact a1.elim (fun z => isN_no z b1 hK) (fun z => isN_no z b2 hK)
    ·
      cases eb
      exfalso
      exact a1.elim (fun z => isN_no z b1 hK) (fun z => isN_no z b2 hK)
    ·
      cases eb
      exfalso
      exact a1.elim (fun z => isN_no z b1 hK) (fun z => isN_no z b2 hK)
  ·
    cases ea
    rcases h2 with ⟨b1, eb, rfl⟩ | ⟨i2, j2, b1, b2, qx, qy, (⟨b5, eb, rfl⟩ | ⟨b5, b6, (⟨b7, eb, rfl⟩ | ⟨b7, eb, b9, b10⟩)⟩)⟩
    ·
      cases eb
      exfalso
      exact b1.elim (fun z => isN_no z a1 hK) (fun z => isN_no z a2 hK)
    ·
      cases eb
      have zqx := nIe qx (by omega) (by omega)
      subst zqx
      have zqy := nIe qy (by omega) (by omega)
      subst zqy
      exact ⟨rfl, NX.of hB (by omega) (by omega) hX hM hKP hS hk2⟩
    ·
      cases eb
      have zqx := nIe qx (by omega) (by omega)
      subst zqx
      have zqy := nIe qy (by omega) (by omega)
      subst zqy
      exfalso
      exact a5.elim (fun z => absurd (z.symm.trans b5) (by decide)) (fun z => absurd (z.symm.trans b6) (by decide))
    ·
      cases eb
      have zqx := nIe qx (by omega) (by omega)
      subst zqx
      have zqy := nIe qy (by omega) (by omega)
      subst zqy
      exfalso
      exact a5.elim (fun z => absurd (z.symm.trans b5) (by decide)) (fun z => absurd (z.symm.trans b6) (by decide))
  ·
    cases ea
    rcases h2 with ⟨b1, eb, rfl⟩ | ⟨i2, j2, b1, b2, qx, qy, (⟨b5, eb, rfl⟩ | ⟨b5, b6, (⟨b7, eb, rfl⟩ | ⟨b7, eb, b9, b10⟩)⟩)⟩
    ·
      cases eb
      exfalso
      exact b1.elim (fun z => isN_no z a1 hK) (fun z => isN_no z a2 hK)
    ·
      cases eb
      have zqx := nIe qx (by omega) (by omega)
      subst zqx
      have zqy := nIe qy (by omega) (by omega)
      subst zqy
      exfalso
      exact b5.elim (fun z => absurd (z.symm.trans a5) (by decide)) (fun z => absurd (z.symm.trans a6) (by decide))
    ·
      cases eb
      have zqx := nIe qx (by omega) (by omega)
      subst zqx
      have zqy := nIe qy (by omega) (by omega)
      subst zqy
      exact ⟨rfl, NX.of hB (by omega) (by omega) hX hM hKP hS hk2⟩
    ·
      cases eb
      have zqx := nIe qx (by omega) (by omega)
      subst zqx
      have zqy := nIe qy (by omega) (by omega)
      subst zqy
      exfalso
      exact b7 a7
  ·
    cases ea
    rcases h2 with ⟨b1, eb, rfl⟩ | ⟨i2, j2, b1, b2, qx, qy, (⟨b5, eb, rfl⟩ | ⟨b5, b6, (⟨b7, eb, rfl⟩ | ⟨b7, eb, b9, b10⟩)⟩)⟩
    ·
      cases eb
      exfalso
      exact b1.elim (fun z => isN_no z a1 hK) (fun z => isN_no z a2 hK)
    ·
      cases eb
      have zqx := nIe qx (by omega) (by omega)
      subst zqx
      have zqy := nIe qy (by omega) (by omega)
      subst zqy
      exfalso
      exact b5.elim (fun z => absurd (z.symm.trans a5) (by decide)) (fun z => absurd (z.symm.trans a6) (by decide))
    ·
      cases eb
      have zqx := nIe qx (by omega) (by omega)
      subst zqx
      have zqy := nIe qy (by omega) (by omega)
      subst zqy
      exfalso
      exact a7 b7
    ·
      cases eb
      have zqx := nIe qx (by omega) (by omega)
      subst zqx
      have zqy := nIe qy (by omega) (by omega)
      subst zqy
      exact ⟨rfl, NX.of hB (by omega) (by omega) a9 b9 (hKP.fra b10) (sd0_SW hS a1 a2 (Or.inr (Or.inr (Or.inr (Or.inr rfl))))) hk2⟩
set_option maxHeartbeats 1000000 in
theorem a_stop {A : Nat → Nat} {ga f1 gb f2 : pM} {w B : Nat} {cs : List Nat} {σ : Sg} {ks : Nat → Option Sg} {x : Int32} (hB : B + 2001 < 2 ^ 30) (hS : SW B cs σ) (hk2 : ∀ k s, ks k = some s → SW B cs s) (hX : VB A ga w cs σ ks) (hM : MM A gb (w + 15100) cs σ) (hKP : KP gb (w + 15100) ks) {r r2 : Int32}
    (h1 : (rfA σ x ≠ 0 ∧ (some (.int r) : Option Value) = some (.int (rfA σ x)) ∧ ga = f1) ∨ (∃ i, i < gK σ ∧ x = nI i ∧ lvd σ i = true ∧ (some (.int r) : Option Value) = some (.int (nI ((gR σ).length - ((gR σ).filter (fun t => !(t.2.1 == i))).length))) ∧ VB A f1 w cs (hlt σ i) ks))
    (h2 : (rfA σ x ≠ 0 ∧ (some (.int r2) : Option Value) = some (.int (rfA σ x)) ∧ gb = f2) ∨ (∃ i, i < gK σ ∧ x = nI i ∧ lvd σ i = true ∧ (some (.int r2) : Option Value) = some (.int (nI ((gR σ).length - ((gR σ).filter (fun t => !(t.2.1 == i))).length))) ∧ MM A f2 (w + 15100) cs (hlt σ i) ∧ FrA gb f2 (w + 15100))) : r = r2 ∧ NX A w f1 f2 (B + 2000) := by
  have hK := hS.2.1
  have hT := hS.2.2.1
  have hL := hX.wd.rw.le
  rcases h1 with ⟨a1, ea, rfl⟩ | ⟨i, a1, rfl, a3, ea, a5⟩
  ·
    cases ea
    rcases h2 with ⟨b1, eb, rfl⟩ | ⟨i2, b1, rfl, b3, eb, b5, b6⟩
    ·
      cases eb
      exact ⟨rfl, NX.of hB (by omega) (by omega) hX hM hKP hS hk2⟩
    ·
      cases eb
      exfalso
      exact rfA_no0 a1 b1 hK b3
  ·
    cases ea
    rcases h2 with ⟨b1, eb, rfl⟩ | ⟨i2, b1, qx, b3, eb, b5, b6⟩
    ·
      cases eb
      exfalso
      exact rfA_no0 b1 a1 hK a3
    ·
      cases eb
      have zqx := nIe qx (by omega) (by omega)
      subst zqx
      exact ⟨rfl, NX.of hB (by omega) (by omega) a5 b5 (hKP.fra b6) (hlt_SW hS a1) hk2⟩
set_option maxHeartbeats 1000000 in
theorem a_mix {A : Nat → Nat} {ga f1 gb f2 : pM} {w B : Nat} {cs : List Nat} {σ : Sg} {ks : Nat → Option Sg} {x : Int32} (hB : B + 2001 < 2 ^ 30) (hS : SW B cs σ) (hk2 : ∀ k s, ks k = some s → SW B cs s) (hX : VB A ga w cs σ ks) (hM : MM A gb (w + 15100) cs σ) (hKP : KP gb (w + 15100) ks) {r r2 : Int32}
    (h1 : (rfA σ x ≠ 0 ∧ (some (.int r) : Option Value) = some (.int (rfA σ x)) ∧ ga = f1) ∨ (∃ i, i < gK σ ∧ x = nI i ∧ lvd σ i = true ∧ (some (.int r) : Option Value) = some (.int (match (bgm cs σ i).1 with | none => -5 | some q => nI q)) ∧ VB A f1 w cs (bgm cs σ i).2 ks))
    (h2 : (rfA σ x ≠ 0 ∧ (some (.int r2) : Option Value) = some (.int (rfA σ x)) ∧ gb = f2) ∨ (∃ i, i < gK σ ∧ x = nI i ∧ lvd σ i = true ∧ (some (.int r2) : Option Value) = some (.int (match (bgm cs σ i).1 with | none => -5 | some q => nI q)) ∧ MM A f2 (w + 15100) cs (bgm cs σ i).2 ∧ FrA gb f2 (w + 15100))) : r = r2 ∧ NX A w f1 f2 (B + 2000) := by
  have hK := hS.2.1
  have hT := hS.2.2.1
  have hL := hX.wd.rw.le
  rcases h1 with ⟨a1, ea, rfl⟩ | ⟨i, a1, rfl, a3, ea, a5⟩
  ·
    cases ea
    rcases h2 with ⟨b1, eb, rfl⟩ | ⟨i2, b1, rfl, b3, eb, b5, b6⟩
    ·
      cases eb
      exact ⟨rfl, NX.of hB (by omega) (by omega) hX hM hKP hS hk2⟩
    ·
      cases eb
      exfalso
      exact rfA_no0 a1 b1 hK b3
  ·
    cases ea
    rcases h2 with ⟨b1, eb, rfl⟩ | ⟨i2, b1, qx, b3, eb, b5, b6⟩
    ·
      cases eb
      exfalso
      exact rfA_no0 b1 a1 hK a3
    ·
      cases eb
      have zqx := nIe qx (by omega) (by omega)
      subst zqx
      exact ⟨rfl, NX.of hB (by omega) (by omega) a5 b5 (hKP.fra b6) (bgm_SW hS a1) hk2⟩
set_option maxHeartbeats 1000000 in
theorem a_tale {A : Nat → Nat} {ga f1 gb f2 : pM} {w B : Nat} {cs : List Nat} {σ : Sg} {ks : Nat → Option Sg} {x : Int32} (hB : B + 2001 < 2 ^ 30) (hS : SW B cs σ) (hk2 : ∀ k s, ks k = some s → SW B cs s) (hX : VB A ga w cs σ ks) (hM : MM A gb (w + 15100) cs σ) (hKP : KP gb (w + 15100) ks) {r r2 : Int32}
    (h1 : (rfA σ x ≠ 0 ∧ (some (.int r) : Option Value) = some (.int (rfA σ x)) ∧ ga = f1) ∨ (∃ i, i < gK σ ∧ x = nI i ∧ lvd σ i = true ∧ ((24 ≤ gT σ ∧ (some (.int r) : Option Value) = some (.int (-4)) ∧ ga = f1) ∨ (gT σ < 24 ∧ (some (.int r) : Option Value) = some (.int (nI (gT σ))) ∧ VB A f1 w cs (her (sT σ (gT σ + 1)) i (gT σ) 0 none) ks))))
    (h2 : (rfA σ x ≠ 0 ∧ (some (.int r2) : Option Value) = some (.int (rfA σ x)) ∧ gb = f2) ∨ (∃ i, i < gK σ ∧ x = nI i ∧ lvd σ i = true ∧ ((24 ≤ gT σ ∧ (some (.int r2) : Option Value) = some (.int (-4)) ∧ gb = f2) ∨ (gT σ < 24 ∧ (some (.int r2) : Option Value) = some (.int (nI (gT σ))) ∧ MM A f2 (w + 15100) cs (her (sT σ (gT σ + 1)) i (gT σ) 0 none) ∧ FrA gb f2 (w + 15100))))) : r = r2 ∧ NX A w f1 f2 (B + 2000) := by
  have hK := hS.2.1
  have hT := hS.2.2.1
  have hL := hX.wd.rw.le
  rcases h1 with ⟨a1, ea, rfl⟩ | ⟨i, a1, rfl, a3, (⟨a4, ea, rfl⟩ | ⟨a4, ea, a6⟩)⟩
  ·
    cases ea
    rcases h2 with ⟨b1, eb, rfl⟩ | ⟨i2, b1, rfl, b3, (⟨b4, eb, rfl⟩ | ⟨b4, eb, b6, b7⟩)⟩
    ·
      cases eb
      exact ⟨rfl, NX.of hB (by omega) (by omega) hX hM hKP hS hk2⟩
    ·
      cases eb
      exfalso
      exact rfA_no0 a1 b1 hK b3
    ·
      cases eb
      exfalso
      exact rfA_no0 a1 b1 hK b3
  ·
    cases ea
    rcases h2 with ⟨b1, eb, rfl⟩ | ⟨i2, b1, qx, b3, (⟨b4, eb, rfl⟩ | ⟨b4, eb, b6, b7⟩)⟩
    ·
      cases eb
      exfalso
      exact rfA_no0 b1 a1 hK a3
    ·
      cases eb
      have zqx := nIe qx (by omega) (by omega)
      subst zqx
      exact ⟨rfl, NX.of hB (by omega) (by omega) hX hM hKP hS hk2⟩
    ·
      cases eb
      have zqx := nIe qx (by omega) (by omega)
      subst zqx
      exfalso
      omega
  ·
    cases ea
    rcases h2 with ⟨b1, eb, rfl⟩ | ⟨i2, b1, qx, b3, (⟨b4, eb, rfl⟩ | ⟨b4, eb, b6, b7⟩)⟩
    ·
      cases eb
      exfalso
      exact rfA_no0 b1 a1 hK a3
    ·
      cases eb
      have zqx := nIe qx (by omega) (by omega)
      subst zqx
      exfalso
      omega
    ·
      cases eb
      have zqx := nIe qx (by omega) (by omega)
      subst zqx
      exact ⟨rfl, NX.of hB (by omega) (by omega) a6 b6 (hKP.fra b7) (tale_SW hS a1 a4) hk2⟩
set_option maxHeartbeats 1000000 in
theorem a_tick {A : Nat → Nat} {ga f1 gb f2 : pM} {w B : Nat} {cs : List Nat} {σ : Sg} {ks : Nat → Option Sg} (hB : B + 2001 < 2 ^ 30) (hS : SW B cs σ) (hk2 : ∀ k s, ks k = some s → SW B cs s) (hX : VB A ga w cs σ ks) (hM : MM A gb (w + 15100) cs σ) (hKP : KP gb (w + 15100) ks) {r r2 : Int32}
    (h1 : (some (.int r) : Option Value) = some (.int (gTi (pss σ))) ∧ VB A f1 w cs (pss σ) ks)
    (h2 : (some (.int r2) : Option Value) = some (.int (gTi (pss σ))) ∧ MM A f2 (w + 15100) cs (pss σ) ∧ FrA gb f2 (w + 15100)) : r = r2 ∧ NX A w f1 f2 (B + 2000) := by
  have hK := hS.2.1
  have hT := hS.2.2.1
  have hL := hX.wd.rw.le
  rcases h1 with ⟨ea, a2⟩
  ·
    cases ea
    rcases h2 with ⟨eb, b2, b3⟩
    ·
      cases eb
      exact ⟨rfl, NX.of hB (by omega) (by omega) a2 b2 (hKP.fra b3) (pss_SW hS) hk2⟩
set_option maxHeartbeats 1000000 in
theorem a_deliver {A : Nat → Nat} {ga f1 gb f2 : pM} {w B : Nat} {cs : List Nat} {σ : Sg} {ks : Nat → Option Sg} {x : Int32} (hB : B + 2001 < 2 ^ 30) (hS : SW B cs σ) (hk2 : ∀ k s, ks k = some s → SW B cs s) (hX : VB A ga w cs σ ks) (hM : MM A gb (w + 15100) cs σ) (hKP : KP gb (w + 15100) ks) {r r2 : Int32}
    (h1 : (decide (¬ x < 0 ∧ x < nI (gR σ).length) = false ∧ (some (.int r) : Option Value) = some (.int (-1)) ∧ ga = f1) ∨ (∃ i, i < (gR σ).length ∧ x = nI i ∧ ((cancome (gR σ) i = false ∧ (some (.int r) : Option Value) = some (.int (-5)) ∧ ga = f1) ∨ (cancome (gR σ) i = true ∧ ∃ t, (gR σ)[i]? = some t ∧ (some (.int r) : Option Value) = some (.int (nI t.2.2.1)) ∧ VB A f1 w cs (cme cs σ i t) ks))))
    (h2 : (decide (¬ x < 0 ∧ x < nI (gR σ).length) = false ∧ (some (.int r2) : Option Value) = some (.int (-1)) ∧ gb = f2) ∨ (∃ i, i < (gR σ).length ∧ x = nI i ∧ ((cancome (gR σ) i = false ∧ (some (.int r2) : Option Value) = some (.int (-5)) ∧ gb = f2) ∨ (cancome (gR σ) i = true ∧ ∃ t, (gR σ)[i]? = some t ∧ (some (.int r2) : Option Value) = some (.int (nI t.2.2.1)) ∧ MM A f2 (w + 15100) cs (cme cs σ i t) ∧ FrA gb f2 (w + 15100))))) : r = r2 ∧ NX A w f1 f2 (B + 2000) := by
  have hK := hS.2.1
  have hT := hS.2.2.1
  have hL := hX.wd.rw.le
  rcases h1 with ⟨a1, ea, rfl⟩ | ⟨i, a1, rfl, (⟨a3, ea, rfl⟩ | ⟨a3, ⟨t, a4, ea, a6⟩⟩)⟩
  ·
    cases ea
    rcases h2 with ⟨b1, eb, rfl⟩ | ⟨i2, b1, rfl, (⟨b3, eb, rfl⟩ | ⟨b3, ⟨t2, b4, eb, b6, b7⟩⟩)⟩
    ·
      cases eb
      exact ⟨rfl, NX.of hB (by omega) (by omega) hX hM hKP hS hk2⟩
    ·
      cases eb
      exfalso
      exact rw_no a1 b1 (by omega)
    ·
      cases eb
      exfalso
      exact rw_no a1 b1 (by omega)
  ·
    cases ea
    rcases h2 with ⟨b1, eb, rfl⟩ | ⟨i2, b1, qx, (⟨b3, eb, rfl⟩ | ⟨b3, ⟨t2, b4, eb, b6, b7⟩⟩)⟩
    ·
      cases eb
      exfalso
      exact rw_no b1 a1 (by omega)
    ·
      cases eb
      have zqx := nIe qx (by omega) (by omega)
      subst zqx
      exact ⟨rfl, NX.of hB (by omega) (by omega) hX hM hKP hS hk2⟩
    ·
      cases eb
      have zqx := nIe qx (by omega) (by omega)
      subst zqx
      exfalso
      exact absurd (a3.symm.trans b3) (by decide)
  ·
    cases ea
    rcases h2 with ⟨b1, eb, rfl⟩ | ⟨i2, b1, qx, (⟨b3, eb, rfl⟩ | ⟨b3, ⟨t2, b4, eb, b6, b7⟩⟩)⟩
    ·
      cases eb
      exfalso
      exact rw_no b1 a1 (by omega)
    ·
      cases eb
      have zqx := nIe qx (by omega) (by omega)
      subst zqx
      exfalso
      exact absurd (b3.symm.trans a3) (by decide)
    ·
      cases eb
      have zqx := nIe qx (by omega) (by omega)
      subst zqx
      have zt := Option.some.inj (a4.symm.trans b4)
      subst zt
      exact ⟨rfl, NX.of hB (by omega) (by omega) a6 b6 (hKP.fra b7) (cme_SW hS (by omega) a4) hk2⟩
set_option maxHeartbeats 1000000 in
theorem a_go {A : Nat → Nat} {ga f1 gb f2 : pM} {w B : Nat} {cs : List Nat} {σ : Sg} {ks : Nat → Option Sg} {x : Int32} (hB : B + 2001 < 2 ^ 30) (hS : SW B cs σ) (hk2 : ∀ k s, ks k = some s → SW B cs s) (hX : VB A ga w cs σ ks) (hM : MM A gb (w + 15100) cs σ) (hKP : KP gb (w + 15100) ks) {r r2 : Int32}
    (h1 : ((x < 0 ∨ ¬ x ≤ nI 2000) ∧ (some (.int r) : Option Value) = some (.int (-2)) ∧ ga = f1) ∨ (∃ n, n ≤ 2000 ∧ x = nI n ∧ (some (.int r) : Option Value) = some (.int (nI (gos cs n σ).2)) ∧ VB A f1 w cs (gos cs n σ).1 ks ∧ SW (B + n) cs (gos cs n σ).1))
    (h2 : ((x < 0 ∨ ¬ x ≤ nI 2000) ∧ (some (.int r2) : Option Value) = some (.int (-2)) ∧ gb = f2) ∨ (∃ n, n ≤ 2000 ∧ x = nI n ∧ (some (.int r2) : Option Value) = some (.int (nI (gos cs n σ).2)) ∧ MM A f2 (w + 15100) cs (gos cs n σ).1 ∧ FrA gb f2 (w + 15100))) : r = r2 ∧ NX A w f1 f2 (B + 2000) := by
  have hK := hS.2.1
  have hT := hS.2.2.1
  have hL := hX.wd.rw.le
  rcases h1 with ⟨a1, ea, rfl⟩ | ⟨n, a1, rfl, ea, a4, a5⟩
  ·
    cases ea
    rcases h2 with ⟨b1, eb, rfl⟩ | ⟨n2, b1, rfl, eb, b4, b5⟩
    ·
      cases eb
      exact ⟨rfl, NX.of hB (by omega) (by omega) hX hM hKP hS hk2⟩
    ·
      cases eb
      exfalso
      exact le_no b1 (by omega) a1
  ·
    cases ea
    rcases h2 with ⟨b1, eb, rfl⟩ | ⟨n2, b1, qx, eb, b4, b5⟩
    ·
      cases eb
      exfalso
      exact le_no a1 (by omega) b1
    ·
      cases eb
      have zqx := nIe qx (by omega) (by omega)
      subst zqx
      exact ⟨rfl, NX.of hB (by omega) (by omega) a4 b4 (hKP.fra b5) (a5) hk2⟩
set_option maxHeartbeats 1000000 in
theorem a_view {A : Nat → Nat} {ga f1 gb f2 : pM} {w B : Nat} {cs : List Nat} {σ : Sg} {ks : Nat → Option Sg} {x y z : Int32} (hB : B + 2001 < 2 ^ 30) (hS : SW B cs σ) (hk2 : ∀ k s, ks k = some s → SW B cs s) (hX : VB A ga w cs σ ks) (hM : MM A gb (w + 15100) cs σ) (hKP : KP gb (w + 15100) ks) {r r2 : Int32}
    (h1 : ((isN σ x = false ∧ (some (.int r) : Option Value) = some (.int (-1))) ∨ (∃ i, i < gK σ ∧ x = nI i ∧ ((¬ y = 0 ∧ ¬ y = nI 1 ∧ (some (.int r) : Option Value) = some (.int (-2))) ∨ (y = 0 ∧ (some (.int r) : Option Value) = some (.int (lsA (nAc (gN σ i)) z))) ∨ (y = nI 1 ∧ (some (.int r) : Option Value) = some (.int (lsA (nPa (gN σ i)) z)))))) ∧ ga = f1)
    (h2 : ((isN σ x = false ∧ (some (.int r2) : Option Value) = some (.int (-1))) ∨ (∃ i, i < gK σ ∧ x = nI i ∧ ((¬ y = 0 ∧ ¬ y = nI 1 ∧ (some (.int r2) : Option Value) = some (.int (-2))) ∨ (y = 0 ∧ (some (.int r2) : Option Value) = some (.int (lsA (nAc (gN σ i)) z))) ∨ (y = nI 1 ∧ (some (.int r2) : Option Value) = some (.int (lsA (nPa (gN σ i)) z)))))) ∧ gb = f2) : r = r2 ∧ NX A w f1 f2 (B + 2000) := by
  have hK := hS.2.1
  have hT := hS.2.2.1
  have hL := hX.wd.rw.le
  rcases h1 with ⟨(⟨a1, ea⟩ | ⟨i, a1, rfl, (⟨a3, a4, ea⟩ | ⟨a3, ea⟩ | ⟨a3, ea⟩)⟩), rfl⟩
  ·
    cases ea
    rcases h2 with ⟨(⟨b1, eb⟩ | ⟨i2, b1, rfl, (⟨b3, b4, eb⟩ | ⟨b3, eb⟩ | ⟨b3, eb⟩)⟩), rfl⟩
    ·
      cases eb
      exact ⟨rfl, NX.of hB (by omega) (by omega) hX hM hKP hS hk2⟩
    ·
      cases eb
      exfalso
      exact isN_no a1 b1 hK
    ·
      cases eb
      exfalso
      exact isN_no a1 b1 hK
    ·
      cases eb
      exfalso
      exact isN_no a1 b1 hK
  ·
    cases ea
    rcases h2 with ⟨(⟨b1, eb⟩ | ⟨i2, b1, qx, (⟨b3, b4, eb⟩ | ⟨b3, eb⟩ | ⟨b3, eb⟩)⟩), rfl⟩
    ·
      cases eb
      exfalso
      exact isN_no b1 a1 hK
    ·
      cases eb
      have zqx := nIe qx (by omega) (by omega)
      subst zqx
      exact ⟨rfl, NX.of hB (by omega) (by omega) hX hM hKP hS hk2⟩
    ·
      cases eb
      have zqx := nIe qx (by omega) (by omega)
      subst zqx
      exfalso
      exact a3 b3
    ·
      cases eb
      have zqx := nIe qx (by omega) (by omega)
      subst zqx
      exfalso
      exact a4 b3
  ·
    cases ea
    rcases h2 with ⟨(⟨b1, eb⟩ | ⟨i2, b1, qx, (⟨b3, b4, eb⟩ | ⟨b3, eb⟩ | ⟨b3, eb⟩)⟩), rfl⟩
    ·
      cases eb
      exfalso
      exact isN_no b1 a1 hK
    ·
      cases eb
      have zqx := nIe qx (by omega) (by omega)
      subst zqx
      exfalso
      exact b3 a3
    ·
      cases eb
      have zqx := nIe qx (by omega) (by omega)
      subst zqx
      exact ⟨rfl, NX.of hB (by omega) (by omega) hX hM hKP hS hk2⟩
    ·
      cases eb
      have zqx := nIe qx (by omega) (by omega)
      subst zqx
      exfalso
      exact absurd (a3.symm.trans b3) (by decide)
  ·
    cases ea
    rcases h2 with ⟨(⟨b1, eb⟩ | ⟨i2, b1, qx, (⟨b3, b4, eb⟩ | ⟨b3, eb⟩ | ⟨b3, eb⟩)⟩), rfl⟩
    ·
      cases eb
      exfalso
      exact isN_no b1 a1 hK
    ·
      cases eb
      have zqx := nIe qx (by omega) (by omega)
      subst zqx
      exfalso
      exact b4 a3
    ·
      cases eb
      have zqx := nIe qx (by omega) (by omega)
      subst zqx
      exfalso
      exact absurd (b3.symm.trans a3) (by decide)
    ·
      cases eb
      have zqx := nIe qx (by omega) (by omega)
      subst zqx
      exact ⟨rfl, NX.of hB (by omega) (by omega) hX hM hKP hS hk2⟩
set_option maxHeartbeats 1000000 in
theorem a_how {A : Nat → Nat} {ga f1 gb f2 : pM} {w B : Nat} {cs : List Nat} {σ : Sg} {ks : Nat → Option Sg} {x y : Int32} (hB : B + 2001 < 2 ^ 30) (hS : SW B cs σ) (hk2 : ∀ k s, ks k = some s → SW B cs s) (hX : VB A ga w cs σ ks) (hM : MM A gb (w + 15100) cs σ) (hKP : KP gb (w + 15100) ks) {r r2 : Int32}
    (h1 : (((isN σ x = false ∨ isN σ y = false) ∧ (some (.int r) : Option Value) = some (.int (-1))) ∨ (∃ i j, i < gK σ ∧ j < gK σ ∧ x = nI i ∧ y = nI j ∧ (some (.int r) : Option Value) = some (.int (nI (hwA σ i j))))) ∧ ga = f1)
    (h2 : (((isN σ x = false ∨ isN σ y = false) ∧ (some (.int r2) : Option Value) = some (.int (-1))) ∨ (∃ i j, i < gK σ ∧ j < gK σ ∧ x = nI i ∧ y = nI j ∧ (some (.int r2) : Option Value) = some (.int (nI (hwA σ i j))))) ∧ gb = f2) : r = r2 ∧ NX A w f1 f2 (B + 2000) := by
  have hK := hS.2.1
  have hT := hS.2.2.1
  have hL := hX.wd.rw.le
  rcases h1 with ⟨(⟨a1, ea⟩ | ⟨i, j, a1, a2, rfl, rfl, ea⟩), rfl⟩
  ·
    cases ea
    rcases h2 with ⟨(⟨b1, eb⟩ | ⟨i2, j2, b1, b2, rfl, rfl, eb⟩), rfl⟩
    ·
      cases eb
      exact ⟨rfl, NX.of hB (by omega) (by omega) hX hM hKP hS hk2⟩
    ·
      cases eb
      exfalso
      exact a1.elim (fun z => isN_no z b1 hK) (fun z => isN_no z b2 hK)
  ·
    cases ea
    rcases h2 with ⟨(⟨b1, eb⟩ | ⟨i2, j2, b1, b2, qx, qy, eb⟩), rfl⟩
    ·
      cases eb
      exfalso
      exact b1.elim (fun z => isN_no z a1 hK) (fun z => isN_no z a2 hK)
    ·
      cases eb
      have zqx := nIe qx (by omega) (by omega)
      subst zqx
      have zqy := nIe qy (by omega) (by omega)
      subst zqy
      exact ⟨rfl, NX.of hB (by omega) (by omega) hX hM hKP hS hk2⟩
set_option maxHeartbeats 1000000 in
theorem a_heard {A : Nat → Nat} {ga f1 gb f2 : pM} {w B : Nat} {cs : List Nat} {σ : Sg} {ks : Nat → Option Sg} {x y : Int32} (hB : B + 2001 < 2 ^ 30) (hS : SW B cs σ) (hk2 : ∀ k s, ks k = some s → SW B cs s) (hX : VB A ga w cs σ ks) (hM : MM A gb (w + 15100) cs σ) (hKP : KP gb (w + 15100) ks) {r r2 : Int32}
    (h1 : (some (.int r) : Option Value) = some (.int (hrA σ x y)) ∧ ga = f1)
    (h2 : (some (.int r2) : Option Value) = some (.int (hrA σ x y)) ∧ gb = f2) : r = r2 ∧ NX A w f1 f2 (B + 2000) := by
  have hK := hS.2.1
  have hT := hS.2.2.1
  have hL := hX.wd.rw.le
  rcases h1 with ⟨ea, rfl⟩
  ·
    cases ea
    rcases h2 with ⟨eb, rfl⟩
    ·
      cases eb
      exact ⟨rfl, NX.of hB (by omega) (by omega) hX hM hKP hS hk2⟩
set_option maxHeartbeats 1000000 in
theorem a_missed {A : Nat → Nat} {ga f1 gb f2 : pM} {w B : Nat} {cs : List Nat} {σ : Sg} {ks : Nat → Option Sg} {x y : Int32} (hB : B + 2001 < 2 ^ 30) (hS : SW B cs σ) (hk2 : ∀ k s, ks k = some s → SW B cs s) (hX : VB A ga w cs σ ks) (hM : MM A gb (w + 15100) cs σ) (hKP : KP gb (w + 15100) ks) {r r2 : Int32}
    (h1 : (((isN σ x = false ∨ isT σ y = false) ∧ (some (.int r) : Option Value) = some (.int (-1))) ∨ (∃ i t, i < gK σ ∧ t < gT σ ∧ x = nI i ∧ y = nI t ∧ (some (.int r) : Option Value) = some (.int (nI (miL (nMi (gN σ i) t)).length)))) ∧ ga = f1)
    (h2 : (((isN σ x = false ∨ isT σ y = false) ∧ (some (.int r2) : Option Value) = some (.int (-1))) ∨ (∃ i t, i < gK σ ∧ t < gT σ ∧ x = nI i ∧ y = nI t ∧ (some (.int r2) : Option Value) = some (.int (nI (miL (nMi (gN σ i) t)).length)))) ∧ gb = f2) : r = r2 ∧ NX A w f1 f2 (B + 2000) := by
  have hK := hS.2.1
  have hT := hS.2.2.1
  have hL := hX.wd.rw.le
  rcases h1 with ⟨(⟨a1, ea⟩ | ⟨i, t, a1, a2, rfl, rfl, ea⟩), rfl⟩
  ·
    cases ea
    rcases h2 with ⟨(⟨b1, eb⟩ | ⟨i2, t2, b1, b2, rfl, rfl, eb⟩), rfl⟩
    ·
      cases eb
      exact ⟨rfl, NX.of hB (by omega) (by omega) hX hM hKP hS hk2⟩
    ·
      cases eb
      exfalso
      exact a1.elim (fun z => isN_no z b1 hK) (fun z => isT_no z b2 hT)
  ·
    cases ea
    rcases h2 with ⟨(⟨b1, eb⟩ | ⟨i2, t2, b1, b2, qx, qy, eb⟩), rfl⟩
    ·
      cases eb
      exfalso
      exact b1.elim (fun z => isN_no z a1 hK) (fun z => isT_no z a2 hT)
    ·
      cases eb
      have zqx := nIe qx (by omega) (by omega)
      subst zqx
      have zqy := nIe qy (by omega) (by omega)
      subst zqy
      exact ⟨rfl, NX.of hB (by omega) (by omega) hX hM hKP hS hk2⟩
set_option maxHeartbeats 1000000 in
theorem a_about {A : Nat → Nat} {ga f1 gb f2 : pM} {w B : Nat} {cs : List Nat} {σ : Sg} {ks : Nat → Option Sg} {x y : Int32} (hB : B + 2001 < 2 ^ 30) (hS : SW B cs σ) (hk2 : ∀ k s, ks k = some s → SW B cs s) (hX : VB A ga w cs σ ks) (hM : MM A gb (w + 15100) cs σ) (hKP : KP gb (w + 15100) ks) {r r2 : Int32}
    (h1 : ((isN σ x = false ∧ (some (.int r) : Option Value) = some (.int (-1))) ∨ (∃ i, i < gK σ ∧ x = nI i ∧ (((y < 0 ∨ nI 6 ≤ y) ∧ (some (.int r) : Option Value) = some (.int (-2))) ∨ (∃ k, k < 6 ∧ y = nI k ∧ (some (.int r) : Option Value) = some (.int (abA σ i k)))))) ∧ ga = f1)
    (h2 : ((isN σ x = false ∧ (some (.int r2) : Option Value) = some (.int (-1))) ∨ (∃ i, i < gK σ ∧ x = nI i ∧ (((y < 0 ∨ nI 6 ≤ y) ∧ (some (.int r2) : Option Value) = some (.int (-2))) ∨ (∃ k, k < 6 ∧ y = nI k ∧ (some (.int r2) : Option Value) = some (.int (abA σ i k)))))) ∧ gb = f2) : r = r2 ∧ NX A w f1 f2 (B + 2000) := by
  have hK := hS.2.1
  have hT := hS.2.2.1
  have hL := hX.wd.rw.le
  rcases h1 with ⟨(⟨a1, ea⟩ | ⟨i, a1, rfl, (⟨a3, ea⟩ | ⟨k, a3, rfl, ea⟩)⟩), rfl⟩
  ·
    cases ea
    rcases h2 with ⟨(⟨b1, eb⟩ | ⟨i2, b1, rfl, (⟨b3, eb⟩ | ⟨k2, b3, rfl, eb⟩)⟩), rfl⟩
    ·
      cases eb
      exact ⟨rfl, NX.of hB (by omega) (by omega) hX hM hKP hS hk2⟩
    ·
      cases eb
      exfalso
      exact isN_no a1 b1 hK
    ·
      cases eb
      exfalso
      exact isN_no a1 b1 hK
  ·
    cases ea
    rcases h2 with ⟨(⟨b1, eb⟩ | ⟨i2, b1, qx, (⟨b3, eb⟩ | ⟨k2, b3, rfl, eb⟩)⟩), rfl⟩
    ·
      cases eb
      exfalso
      exact isN_no b1 a1 hK
    ·
      cases eb
      have zqx := nIe qx (by omega) (by omega)
      subst zqx
      exact ⟨rfl, NX.of hB (by omega) (by omega) hX hM hKP hS hk2⟩
    ·
      cases eb
      have zqx := nIe qx (by omega) (by omega)
      subst zqx
      exfalso
      exact out_no b3 (by omega) a3
  ·
    cases ea
    rcases h2 with ⟨(⟨b1, eb⟩ | ⟨i2, b1, qx, (⟨b3, eb⟩ | ⟨k2, b3, qy, eb⟩)⟩), rfl⟩
    ·
      cases eb
      exfalso
      exact isN_no b1 a1 hK
    ·
      cases eb
      have zqx := nIe qx (by omega) (by omega)
      subst zqx
      exfalso
      exact out_no a3 (by omega) b3
    ·
      cases eb
      have zqx := nIe qx (by omega) (by omega)
      subst zqx
      have zqy := nIe qy (by omega) (by omega)
      subst zqy
      exact ⟨rfl, NX.of hB (by omega) (by omega) hX hM hKP hS hk2⟩
set_option maxHeartbeats 1000000 in
theorem a_letter {A : Nat → Nat} {ga f1 gb f2 : pM} {w B : Nat} {cs : List Nat} {σ : Sg} {ks : Nat → Option Sg} {x y : Int32} (hB : B + 2001 < 2 ^ 30) (hS : SW B cs σ) (hk2 : ∀ k s, ks k = some s → SW B cs s) (hX : VB A ga w cs σ ks) (hM : MM A gb (w + 15100) cs σ) (hKP : KP gb (w + 15100) ks) {r r2 : Int32}
    (h1 : ((decide (¬ x < 0 ∧ x < nI (gR σ).length) = false ∧ (some (.int r) : Option Value) = some (.int (-1))) ∨ (∃ i t, (gR σ)[i]? = some t ∧ x = nI i ∧ (((y < 0 ∨ nI 6 ≤ y) ∧ ((¬ nI 10 ≤ y ∧ (some (.int r) : Option Value) = some (.int (-2))) ∨ (nI 10 ≤ y ∧ (some (.int r) : Option Value) = some (.int (nlAt (t.2.2.2.2.2.map nI) (y - nI 10)))))) ∨ (∃ k, k < 6 ∧ y = nI k ∧ (some (.int r) : Option Value) = some (.int (leK t k)))))) ∧ ga = f1)
    (h2 : ((decide (¬ x < 0 ∧ x < nI (gR σ).length) = false ∧ (some (.int r2) : Option Value) = some (.int (-1))) ∨ (∃ i t, (gR σ)[i]? = some t ∧ x = nI i ∧ (((y < 0 ∨ nI 6 ≤ y) ∧ ((¬ nI 10 ≤ y ∧ (some (.int r2) : Option Value) = some (.int (-2))) ∨ (nI 10 ≤ y ∧ (some (.int r2) : Option Value) = some (.int (nlAt (t.2.2.2.2.2.map nI) (y - nI 10)))))) ∨ (∃ k, k < 6 ∧ y = nI k ∧ (some (.int r2) : Option Value) = some (.int (leK t k)))))) ∧ gb = f2) : r = r2 ∧ NX A w f1 f2 (B + 2000) := by
  have hK := hS.2.1
  have hT := hS.2.2.1
  have hL := hX.wd.rw.le
  rcases h1 with ⟨(⟨a1, ea⟩ | ⟨i, t, a1, rfl, (⟨a3, (⟨a4, ea⟩ | ⟨a4, ea⟩)⟩ | ⟨k, a3, rfl, ea⟩)⟩), rfl⟩
  ·
    cases ea
    rcases h2 with ⟨(⟨b1, eb⟩ | ⟨i2, t2, b1, rfl, (⟨b3, (⟨b4, eb⟩ | ⟨b4, eb⟩)⟩ | ⟨k2, b3, rfl, eb⟩)⟩), rfl⟩
    ·
      cases eb
      exact ⟨rfl, NX.of hB (by omega) (by omega) hX hM hKP hS hk2⟩
    ·
      cases eb
      exfalso
      exact rw_no a1 (List.getElem?_eq_some_iff.mp b1).1 (by omega)
    ·
      cases eb
      exfalso
      exact rw_no a1 (List.getElem?_eq_some_iff.mp b1).1 (by omega)
    ·
      cases eb
      exfalso
      exact rw_no a1 (List.getElem?_eq_some_iff.mp b1).1 (by omega)
  ·
    cases ea
    rcases h2 with ⟨(⟨b1, eb⟩ | ⟨i2, t2, b1, qx, (⟨b3, (⟨b4, eb⟩ | ⟨b4, eb⟩)⟩ | ⟨k2, b3, rfl, eb⟩)⟩), rfl⟩
    ·
      cases eb
      exfalso
      exact rw_no b1 (List.getElem?_eq_some_iff.mp a1).1 (by omega)
    ·
      cases eb
      have j1 := (List.getElem?_eq_some_iff.mp a1).1
      have j2 := (List.getElem?_eq_some_iff.mp b1).1
      have zqx := nIe qx (by omega) (by omega)
      subst zqx
      have zt := Option.some.inj (a1.symm.trans b1)
      subst zt
      exact ⟨rfl, NX.of hB (by omega) (by omega) hX hM hKP hS hk2⟩
    ·
      cases eb
      have j1 := (List.getElem?_eq_some_iff.mp a1).1
      have j2 := (List.getElem?_eq_some_iff.mp b1).1
      have zqx := nIe qx (by omega) (by omega)
      subst zqx
      exfalso
      exact a4 b4
    ·
      cases eb
      have j1 := (List.getElem?_eq_some_iff.mp a1).1
      have j2 := (List.getElem?_eq_some_iff.mp b1).1
      have zqx := nIe qx (by omega) (by omega)
      subst zqx
      exfalso
      exact out_no b3 (by omega) a3
  ·
    cases ea
    rcases h2 with ⟨(⟨b1, eb⟩ | ⟨i2, t2, b1, qx, (⟨b3, (⟨b4, eb⟩ | ⟨b4, eb⟩)⟩ | ⟨k2, b3, rfl, eb⟩)⟩), rfl⟩
    ·
      cases eb
      exfalso
      exact rw_no b1 (List.getElem?_eq_some_iff.mp a1).1 (by omega)
    ·
      cases eb
      have j1 := (List.getElem?_eq_some_iff.mp a1).1
      have j2 := (List.getElem?_eq_some_iff.mp b1).1
      have zqx := nIe qx (by omega) (by omega)
      subst zqx
      exfalso
      exact b4 a4
    ·
      cases eb
      have j1 := (List.getElem?_eq_some_iff.mp a1).1
      have j2 := (List.getElem?_eq_some_iff.mp b1).1
      have zqx := nIe qx (by omega) (by omega)
      subst zqx
      have zt := Option.some.inj (a1.symm.trans b1)
      subst zt
      exact ⟨rfl, NX.of hB (by omega) (by omega) hX hM hKP hS hk2⟩
    ·
      cases eb
      have j1 := (List.getElem?_eq_some_iff.mp a1).1
      have j2 := (List.getElem?_eq_some_iff.mp b1).1
      have zqx := nIe qx (by omega) (by omega)
      subst zqx
      exfalso
      exact out_no b3 (by omega) a3
  ·
    cases ea
    rcases h2 with ⟨(⟨b1, eb⟩ | ⟨i2, t2, b1, qx, (⟨b3, (⟨b4, eb⟩ | ⟨b4, eb⟩)⟩ | ⟨k2, b3, qy, eb⟩)⟩), rfl⟩
    ·
      cases eb
      exfalso
      exact rw_no b1 (List.getElem?_eq_some_iff.mp a1).1 (by omega)
    ·
      cases eb
      have j1 := (List.getElem?_eq_some_iff.mp a1).1
      have j2 := (List.getElem?_eq_some_iff.mp b1).1
      have zqx := nIe qx (by omega) (by omega)
      subst zqx
      exfalso
      exact out_no a3 (by omega) b3
    ·
      cases eb
      have j1 := (List.getElem?_eq_some_iff.mp a1).1
      have j2 := (List.getElem?_eq_some_iff.mp b1).1
      have zqx := nIe qx (by omega) (by omega)
      subst zqx
      exfalso
      exact out_no a3 (by omega) b3
    ·
      cases eb
      have j1 := (List.getElem?_eq_some_iff.mp a1).1
      have j2 := (List.getElem?_eq_some_iff.mp b1).1
      have zqx := nIe qx (by omega) (by omega)
      subst zqx
      have zqy := nIe qy (by omega) (by omega)
      subst zqy
      have zt := Option.some.inj (a1.symm.trans b1)
      subst zt
      exact ⟨rfl, NX.of hB (by omega) (by omega) hX hM hKP hS hk2⟩
set_option maxHeartbeats 1000000 in
theorem a_even {A : Nat → Nat} {ga f1 gb f2 : pM} {w B : Nat} {cs : List Nat} {σ : Sg} {ks : Nat → Option Sg} (hB : B + 2001 < 2 ^ 30) (hS : SW B cs σ) (hk2 : ∀ k s, ks k = some s → SW B cs s) (hX : VB A ga w cs σ ks) (hM : MM A gb (w + 15100) cs σ) (hKP : KP gb (w + 15100) ks) {r r2 : Int32}
    (h1 : (some (.int r) : Option Value) = some (.int (b32 (evn σ))) ∧ ga = f1)
    (h2 : (some (.int r2) : Option Value) = some (.int (b32 (evn σ))) ∧ gb = f2) : r = r2 ∧ NX A w f1 f2 (B + 2000) := by
  have hK := hS.2.1
  have hT := hS.2.2.1
  have hL := hX.wd.rw.le
  rcases h1 with ⟨ea, rfl⟩
  ·
    cases ea
    rcases h2 with ⟨eb, rfl⟩
    ·
      cases eb
      exact ⟨rfl, NX.of hB (by omega) (by omega) hX hM hKP hS hk2⟩
set_option maxHeartbeats 1000000 in
theorem a_reach {A : Nat → Nat} {ga f1 gb f2 : pM} {w B : Nat} {cs : List Nat} {σ : Sg} {ks : Nat → Option Sg} {x : Int32} (hB : B + 2001 < 2 ^ 30) (hS : SW B cs σ) (hk2 : ∀ k s, ks k = some s → SW B cs s) (hX : VB A ga w cs σ ks) (hM : MM A gb (w + 15100) cs σ) (hKP : KP gb (w + 15100) ks) {r r2 : Int32}
    (h1 : ((rfA σ x ≠ 0 ∧ (some (.int r) : Option Value) = some (.int (rfA σ x))) ∨ (∃ i, i < gK σ ∧ x = nI i ∧ lvd σ i = true ∧ (some (.int r) : Option Value) = some (.int (bcn (nI (rch σ 16 (2 ^ i))))))) ∧ ga = f1)
    (h2 : (rfA σ x ≠ 0 ∧ (some (.int r2) : Option Value) = some (.int (rfA σ x)) ∧ gb = f2) ∨ (∃ i, i < gK σ ∧ x = nI i ∧ lvd σ i = true ∧ (some (.int r2) : Option Value) = some (.int (nI (pcn (rch σ 16 (2 ^ i))))) ∧ gb = f2)) : r = r2 ∧ NX A w f1 f2 (B + 2000) := by
  have hK := hS.2.1
  have hT := hS.2.2.1
  have hL := hX.wd.rw.le
  rcases h1 with ⟨(⟨a1, ea⟩ | ⟨i, a1, rfl, a3, ea⟩), rfl⟩
  ·
    cases ea
    rcases h2 with ⟨b1, eb, rfl⟩ | ⟨i2, b1, rfl, b3, eb, rfl⟩
    ·
      cases eb
      exact ⟨rfl, NX.of hB (by omega) (by omega) hX hM hKP hS hk2⟩
    ·
      cases eb
      exfalso
      exact rfA_no0 a1 b1 hK b3
  ·
    cases ea
    rcases h2 with ⟨b1, eb, rfl⟩ | ⟨i2, b1, qx, b3, eb, rfl⟩
    ·
      cases eb
      exfalso
      exact rfA_no0 b1 a1 hK a3
    ·
      cases eb
      have zqx := nIe qx (by omega) (by omega)
      subst zqx
      exact ⟨bcn_p (rch_lt (Nat.pow_lt_pow_right (by omega) (show i < 16 by omega)) (fun j hj => lnkF_lt (by omega) (fun q hq => by have z := (hS.nw hj).2.1 q hq; omega))), NX.of hB (by omega) (by omega) hX hM hKP hS hk2⟩
set_option maxHeartbeats 1000000 in
theorem a_came {A : Nat → Nat} {ga f1 gb f2 : pM} {w B : Nat} {cs : List Nat} {σ : Sg} {ks : Nat → Option Sg} {x : Int32} (hB : B + 2001 < 2 ^ 30) (hS : SW B cs σ) (hk2 : ∀ k s, ks k = some s → SW B cs s) (hX : VB A ga w cs σ ks) (hM : MM A gb (w + 15100) cs σ) (hKP : KP gb (w + 15100) ks) {r r2 : Int32}
    (h1 : (((x < 0 ∨ ¬ x ≤ nI 12) ∧ (some (.int r) : Option Value) = some (.int (-2))) ∨ (∃ k, k ≤ 12 ∧ x = nI k ∧ (some (.int r) : Option Value) = some (.int (gC σ k)))) ∧ ga = f1)
    (h2 : (((x < 0 ∨ ¬ x ≤ nI 12) ∧ (some (.int r2) : Option Value) = some (.int (-2))) ∨ (∃ k, k ≤ 12 ∧ x = nI k ∧ (some (.int r2) : Option Value) = some (.int (gC σ k)))) ∧ gb = f2) : r = r2 ∧ NX A w f1 f2 (B + 2000) := by
  have hK := hS.2.1
  have hT := hS.2.2.1
  have hL := hX.wd.rw.le
  rcases h1 with ⟨(⟨a1, ea⟩ | ⟨k, a1, rfl, ea⟩), rfl⟩
  ·
    cases ea
    rcases h2 with ⟨(⟨b1, eb⟩ | ⟨k2, b1, rfl, eb⟩), rfl⟩
    ·
      cases eb
      exact ⟨rfl, NX.of hB (by omega) (by omega) hX hM hKP hS hk2⟩
    ·
      cases eb
      exfalso
      exact le_no b1 (by omega) a1
  ·
    cases ea
    rcases h2 with ⟨(⟨b1, eb⟩ | ⟨k2, b1, qx, eb⟩), rfl⟩
    ·
      cases eb
      exfalso
      exact le_no a1 (by omega) b1
    ·
      cases eb
      have zqx := nIe qx (by omega) (by omega)
      subst zqx
      exact ⟨rfl, NX.of hB (by omega) (by omega) hX hM hKP hS hk2⟩
set_option maxHeartbeats 1000000 in
theorem a_spread {A : Nat → Nat} {ga f1 gb f2 : pM} {w B : Nat} {cs : List Nat} {σ : Sg} {ks : Nat → Option Sg} {x : Int32} (hB : B + 2001 < 2 ^ 30) (hS : SW B cs σ) (hk2 : ∀ k s, ks k = some s → SW B cs s) (hX : VB A ga w cs σ ks) (hM : MM A gb (w + 15100) cs σ) (hKP : KP gb (w + 15100) ks) {r r2 : Int32}
    (h1 : (some (.int r) : Option Value) = some (.int (spA σ x)) ∧ ga = f1)
    (h2 : (some (.int r2) : Option Value) = some (.int (spA σ x)) ∧ gb = f2) : r = r2 ∧ NX A w f1 f2 (B + 2000) := by
  have hK := hS.2.1
  have hT := hS.2.2.1
  have hL := hX.wd.rw.le
  rcases h1 with ⟨ea, rfl⟩
  ·
    cases ea
    rcases h2 with ⟨eb, rfl⟩
    ·
      cases eb
      exact ⟨rfl, NX.of hB (by omega) (by omega) hX hM hKP hS hk2⟩
set_option maxHeartbeats 1000000 in
theorem a_told {A : Nat → Nat} {ga f1 gb f2 : pM} {w B : Nat} {cs : List Nat} {σ : Sg} {ks : Nat → Option Sg} {x : Int32} (hB : B + 2001 < 2 ^ 30) (hS : SW B cs σ) (hk2 : ∀ k s, ks k = some s → SW B cs s) (hX : VB A ga w cs σ ks) (hM : MM A gb (w + 15100) cs σ) (hKP : KP gb (w + 15100) ks) {r r2 : Int32}
    (h1 : (((x < 0 ∨ nI 8 ≤ x) ∧ (some (.int r) : Option Value) = some (.int (-2))) ∨ (∃ k, k < 8 ∧ x = nI k ∧ (some (.int r) : Option Value) = some (.int (toA cs σ k)))) ∧ ga = f1)
    (h2 : (((x < 0 ∨ nI 8 ≤ x) ∧ (some (.int r2) : Option Value) = some (.int (-2))) ∨ (∃ k, k < 8 ∧ x = nI k ∧ (some (.int r2) : Option Value) = some (.int (toA cs σ k)))) ∧ gb = f2) : r = r2 ∧ NX A w f1 f2 (B + 2000) := by
  have hK := hS.2.1
  have hT := hS.2.2.1
  have hL := hX.wd.rw.le
  rcases h1 with ⟨(⟨a1, ea⟩ | ⟨k, a1, rfl, ea⟩), rfl⟩
  ·
    cases ea
    rcases h2 with ⟨(⟨b1, eb⟩ | ⟨k2, b1, rfl, eb⟩), rfl⟩
    ·
      cases eb
      exact ⟨rfl, NX.of hB (by omega) (by omega) hX hM hKP hS hk2⟩
    ·
      cases eb
      exfalso
      exact out_no b1 (by omega) a1
  ·
    cases ea
    rcases h2 with ⟨(⟨b1, eb⟩ | ⟨k2, b1, qx, eb⟩), rfl⟩
    ·
      cases eb
      exfalso
      exact out_no a1 (by omega) b1
    ·
      cases eb
      have zqx := nIe qx (by omega) (by omega)
      subst zqx
      exact ⟨rfl, NX.of hB (by omega) (by omega) hX hM hKP hS hk2⟩
set_option maxHeartbeats 1000000 in
theorem a_keep {A : Nat → Nat} {ga f1 gb f2 : pM} {w B : Nat} {cs : List Nat} {σ : Sg} {ks : Nat → Option Sg} {x : Int32} (hB : B + 2001 < 2 ^ 30) (hS : SW B cs σ) (hk2 : ∀ k s, ks k = some s → SW B cs s) (hX : VB A ga w cs σ ks) (hM : MM A gb (w + 15100) cs σ) (hKP : KP gb (w + 15100) ks) {r r2 : Int32}
    (h1 : (decide (¬ x < 0 ∧ x < 2) = false ∧ (some (.int r) : Option Value) = some (.int (-1)) ∧ ga = f1) ∨ (∃ k, k < 2 ∧ x = nI k ∧ (some (.int r) : Option Value) = some (.int (nI 1)) ∧ VB A f1 w cs σ (va_up ks k (some σ))))
    (h2 : (decide (¬ x < 0 ∧ x < 2) = false ∧ (some (.int r2) : Option Value) = some (.int (-1)) ∧ gb = f2) ∨ (∃ k, k < 2 ∧ x = nI k ∧ (some (.int r2) : Option Value) = some (.int (nI 1)) ∧ MM A f2 (w + 15100) cs σ ∧ KP f2 (w + 15100) (va_up ks k (some σ)) ∧ Fr gb f2 (w + 15100) ((w + 15100) + 9))) : r = r2 ∧ NX A w f1 f2 (B + 2000) := by
  have hK := hS.2.1
  have hT := hS.2.2.1
  have hL := hX.wd.rw.le
  rcases h1 with ⟨a1, ea, rfl⟩ | ⟨k, a1, rfl, ea, a4⟩
  ·
    cases ea
    rcases h2 with ⟨b1, eb, rfl⟩ | ⟨k2, b1, rfl, eb, b4, b5, b6⟩
    ·
      cases eb
      exact ⟨rfl, NX.of hB (by omega) (by omega) hX hM hKP hS hk2⟩
    ·
      cases eb
      exfalso
      exact rw_no (n := 2) a1 b1 (by omega)
  ·
    cases ea
    rcases h2 with ⟨b1, eb, rfl⟩ | ⟨k2, b1, qx, eb, b4, b5, b6⟩
    ·
      cases eb
      exfalso
      exact rw_no (n := 2) b1 a1 (by omega)
    ·
      cases eb
      have zqx := nIe qx (by omega) (by omega)
      subst zqx
      exact ⟨rfl, NX.of hB (by omega) (by omega) a4 b4 b5 (hS) (kp_sw hS hk2)⟩
set_option maxHeartbeats 1000000 in
theorem a_back {A : Nat → Nat} {ga f1 gb f2 : pM} {w B : Nat} {cs : List Nat} {σ : Sg} {ks : Nat → Option Sg} {x : Int32} (hB : B + 2001 < 2 ^ 30) (hS : SW B cs σ) (hk2 : ∀ k s, ks k = some s → SW B cs s) (hX : VB A ga w cs σ ks) (hM : MM A gb (w + 15100) cs σ) (hKP : KP gb (w + 15100) ks) {r r2 : Int32}
    (h1 : ((decide (¬ x < 0 ∧ x < 2) = false ∨ ∃ k, k < 2 ∧ x = nI k ∧ ks k = none) ∧ (some (.int r) : Option Value) = some (.int (-1)) ∧ ga = f1) ∨ (∃ k s, k < 2 ∧ x = nI k ∧ ks k = some s ∧ (some (.int r) : Option Value) = some (.int (nI (gK s))) ∧ VB A f1 w cs s ks))
    (h2 : ((decide (¬ x < 0 ∧ x < 2) = false ∨ ∃ k, k < 2 ∧ x = nI k ∧ ks k = none) ∧ (some (.int r2) : Option Value) = some (.int (-1)) ∧ gb = f2) ∨ (∃ k s, k < 2 ∧ x = nI k ∧ ks k = some s ∧ (some (.int r2) : Option Value) = some (.int (nI (gK s))) ∧ MM A f2 (w + 15100) cs s ∧ FrA gb f2 (w + 15100))) : r = r2 ∧ NX A w f1 f2 (B + 2000) := by
  have hK := hS.2.1
  have hT := hS.2.2.1
  have hL := hX.wd.rw.le
  rcases h1 with ⟨a1, ea, rfl⟩ | ⟨k, s, a1, rfl, a3, ea, a5⟩
  ·
    cases ea
    rcases h2 with ⟨b1, eb, rfl⟩ | ⟨k2, s2, b1, rfl, b3, eb, b5, b6⟩
    ·
      cases eb
      exact ⟨rfl, NX.of hB (by omega) (by omega) hX hM hKP hS hk2⟩
    ·
      cases eb
      exfalso
      exact kp_no a1 b1 b3
  ·
    cases ea
    rcases h2 with ⟨b1, eb, rfl⟩ | ⟨k2, s2, b1, qx, b3, eb, b5, b6⟩
    ·
      cases eb
      exfalso
      exact kp_no b1 a1 a3
    ·
      cases eb
      have zqx := nIe qx (by omega) (by omega)
      subst zqx
      have zt := Option.some.inj (a3.symm.trans b3)
      subst zt
      exact ⟨rfl, NX.of hB (by omega) (by omega) a5 b5 (hKP.fra b6) (hk2 _ _ a3) hk2⟩
set_option maxHeartbeats 1000000 in
theorem a_differs {A : Nat → Nat} {ga f1 gb f2 : pM} {w B : Nat} {cs : List Nat} {σ : Sg} {ks : Nat → Option Sg} {x : Int32} (hB : B + 2001 < 2 ^ 30) (hS : SW B cs σ) (hk2 : ∀ k s, ks k = some s → SW B cs s) (hX : VB A ga w cs σ ks) (hM : MM A gb (w + 15100) cs σ) (hKP : KP gb (w + 15100) ks) {r r2 : Int32}
    (h1 : ((decide (¬ x < 0 ∧ x < 2) = false ∨ ∃ k, k < 2 ∧ x = nI k ∧ ks k = none) ∧ (some (.int r) : Option Value) = some (.int (-1)) ∧ ga = f1) ∨ (∃ k s, k < 2 ∧ x = nI k ∧ ks k = some s ∧ (some (.int r) : Option Value) = some (.int (onv (fon σ s))) ∧ ga = f1))
    (h2 : ((decide (¬ x < 0 ∧ x < 2) = false ∨ ∃ k, k < 2 ∧ x = nI k ∧ ks k = none) ∧ (some (.int r2) : Option Value) = some (.int (-1)) ∧ gb = f2) ∨ (∃ k s, k < 2 ∧ x = nI k ∧ ks k = some s ∧ (some (.int r2) : Option Value) = some (.int (onv (fon σ s))) ∧ gb = f2)) : r = r2 ∧ NX A w f1 f2 (B + 2000) := by
  have hK := hS.2.1
  have hT := hS.2.2.1
  have hL := hX.wd.rw.le
  rcases h1 with ⟨a1, ea, rfl⟩ | ⟨k, s, a1, rfl, a3, ea, rfl⟩
  ·
    cases ea
    rcases h2 with ⟨b1, eb, rfl⟩ | ⟨k2, s2, b1, rfl, b3, eb, rfl⟩
    ·
      cases eb
      exact ⟨rfl, NX.of hB (by omega) (by omega) hX hM hKP hS hk2⟩
    ·
      cases eb
      exfalso
      exact kp_no a1 b1 b3
  ·
    cases ea
    rcases h2 with ⟨b1, eb, rfl⟩ | ⟨k2, s2, b1, qx, b3, eb, rfl⟩
    ·
      cases eb
      exfalso
      exact kp_no b1 a1 a3
    ·
      cases eb
      have zqx := nIe qx (by omega) (by omega)
      subst zqx
      have zt := Option.some.inj (a3.symm.trans b3)
      subst zt
      exact ⟨rfl, NX.of hB (by omega) (by omega) hX hM hKP hS hk2⟩
