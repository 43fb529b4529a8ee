-- PART 37: how many bits: the JDK's count is the plain one, below 65536
def bcN (m : Nat) : Nat := (((((m - (m / 2 &&& 1431655765)) &&& 858993459) + ((m - (m / 2 &&& 1431655765)) / 4 &&& 858993459)) + (((m - (m / 2 &&& 1431655765)) &&& 858993459) + ((m - (m / 2 &&& 1431655765)) / 4 &&& 858993459)) / 16) &&& 252645135)
theorem ush_N {n k : Nat} {s : Int32} (hn : n < 2 ^ 32) (hs : ((s.toUInt32 &&& Int32.toUInt32 31).toBitVec % 32).toNat = k) : ush (nI n) s = nI (n / 2 ^ k) := pk_ushrN hn s k hs
theorem bcn_N {m : Nat} (hm : m < 65536) : bcn (nI m) = nI ((bcN m + bcN m / 256 + (bcN m + bcN m / 256) / 65536) &&& 63) := by
  have e1 : bc1 (nI m) = nI (m - (m / 2 &&& 1431655765)) := by
    show nI m - (ush (nI m) 1 &&& 1431655765) = _
    rw [ush_N (k := 1) (by omega) (by decide), show (1431655765 : Int32) = nI 1431655765 from rfl, fa_and]
    exact pk_sub (Nat.le_trans Nat.and_le_left (by omega))
  have l1 : m - (m / 2 &&& 1431655765) < 65536 := by omega
  have h2 : bc2 (nI (m - (m / 2 &&& 1431655765))) = nI (((m - (m / 2 &&& 1431655765)) &&& 858993459) + ((m - (m / 2 &&& 1431655765)) / 4 &&& 858993459)) := by
    show (nI _ &&& 858993459) + (ush (nI _) 2 &&& 858993459) = _
    rw [ush_N (k := 2) (by omega) (by decide), show (858993459 : Int32) = nI 858993459 from rfl, fa_and, fa_and]
    exact nI_add _ _
  have l2 : ((m - (m / 2 &&& 1431655765)) &&& 858993459) + ((m - (m / 2 &&& 1431655765)) / 4 &&& 858993459) < 2 ^ 20 := by
    have a1 : (m - (m / 2 &&& 1431655765)) &&& 858993459 ≤ m - (m / 2 &&& 1431655765) := Nat.and_le_left
    have a2 : (m - (m / 2 &&& 1431655765)) / 4 &&& 858993459 ≤ (m - (m / 2 &&& 1431655765)) / 4 := Nat.and_le_left
    omega
  have h3 : ∀ b, b < 2 ^ 20 → bc3 (nI b) = nI ((b + b / 16) &&& 252645135) := by
    intro b hb
    show (nI b + ush (nI b) 4) &&& 252645135 = _
    rw [ush_N (k := 4) (by omega) (by decide), show (252645135 : Int32) = nI 252645135 from rfl, nI_add, fa_and]
  have h4 : ∀ c, c < 2 ^ 30 → bc4 (nI c) = nI (c + c / 256) := by
    intro c hc
    show nI c + ush (nI c) 8 = _
    rw [ush_N (k := 8) (by omega) (by decide), nI_add]
  have h5 : ∀ d, d < 2 ^ 31 → bc5 (nI d) = nI (d + d / 65536) := by
    intro d hd
    show nI d + ush (nI d) 16 = _
    rw [ush_N (k := 16) (by omega) (by decide), nI_add]
  have l3 : bcN m < 2 ^ 28 := Nat.lt_of_le_of_lt Nat.and_le_right (by omega)
  have k3 : bc3 (bc2 (bc1 (nI m))) = nI (bcN m) := by rw [e1, h2, h3 _ l2]; rfl
  show bc5 (bc4 (bc3 (bc2 (bc1 (nI m))))) &&& 63 = _
  rw [k3, h4 _ (by omega), h5 _ (by omega), show (63 : Int32) = nI 63 from rfl, fa_and]
def pcX (m : Nat) : Nat := m % 2 + m / 2 % 2 + m / 4 % 2 + m / 8 % 2 + m / 16 % 2 + m / 32 % 2 + m / 64 % 2 + m / 128 % 2 + m / 256 % 2 + m / 512 % 2 + m / 1024 % 2 + m / 2048 % 2 + m / 4096 % 2 + m / 8192 % 2 + m / 16384 % 2 + m / 32768 % 2
theorem tb_m (m i : Nat) : (if m.testBit i = true then 1 else 0) = m / 2 ^ i % 2 := by
  rw [Nat.testBit_eq_decide_div_mod_eq]
  have : m / 2 ^ i % 2 = 0 ∨ m / 2 ^ i % 2 = 1 := by omega
  rcases this with h | h <;> simp [h]
theorem pcn_X (m : Nat) : pcn m = pcX m := by
  simp only [pcn, ct, tb_m, Nat.zero_add]
  simp only [Nat.pow_zero, Nat.div_one]
  rfl
/-- all numbers from lo on, 2 ^ d of them, are tried -/
def bcT : Nat → Nat → Bool
  | 0, lo => Nat.beq ((bcN lo + bcN lo / 256 + (bcN lo + bcN lo / 256) / 65536) &&& 63) (pcX lo)
  | d + 1, lo => and (bcT d lo) (bcT d (lo + 2 ^ d))
theorem bcT_e : ∀ {d lo : Nat}, bcT d lo = true → ∀ x, x < 2 ^ d → (bcN (lo + x) + bcN (lo + x) / 256 + (bcN (lo + x) + bcN (lo + x) / 256) / 65536) &&& 63 = pcX (lo + x)
  | 0, lo, h, x, hx => by
    have : x = 0 := by simpa using hx
    subst this
    exact Nat.eq_of_beq_eq_true h
  | d + 1, lo, h, x, hx => by
    simp only [bcT, Bool.and_eq_true] at h
    rw [Nat.pow_succ] at hx
    by_cases e : x < 2 ^ d
    · exact bcT_e h.1 x e
    · have := bcT_e h.2 (x - 2 ^ d) (by omega)
      rw [show lo + 2 ^ d + (x - 2 ^ d) = lo + x by omega] at this
      exact this
theorem bcT_16 : bcT 16 0 = true := by decide +kernel
/-- the JDK's count of bits is the plain one -/
theorem bcn_p {m : Nat} (hm : m < 65536) : bcn (nI m) = nI (pcn m) := by
  have h := bcT_e bcT_16 m hm
  rw [Nat.zero_add] at h
  rw [bcn_N hm, h, pcn_X]
