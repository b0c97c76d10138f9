/-- bits of small numbers -/
theorem bz_s : ∀ n, n < 32 → ((nI n &&& 31).toBitVec.smod 32).toNat = n := by decide
theorem bz_shl {k : Nat} (h : k < 31) : nI 1 <<< (nI k &&& 31) = nI (2 ^ k) := by
  have h2 : 1 * 2 ^ k < 2 ^ 32 := by rw [Nat.one_mul]; exact Nat.pow_lt_pow_right (by decide) (by omega)
  have h3 := pk_shlN (n := 1) (nI k &&& 31) k (bz_s k (by omega)) h2
  rw [h3, Nat.one_mul]
theorem bz_shr {s k : Nat} (hs : s < 2 ^ 31) (h : k < 32) : nI s >>> (nI k &&& 31) = nI (s / 2 ^ k) := pk_shrN hs (nI k &&& 31) k (bz_s k h)
theorem bz_and1 (s : Nat) (hs : s < 2 ^ 32) : nI s &&& nI 1 = nI (s % 2) := pk_andN hs 1 (by decide)
theorem bz_bv (n : Nat) : (nI n).toBitVec = BitVec.ofNat 32 n := rfl
theorem bz_or (a b : Nat) : nI a ||| nI b = nI (a ||| b) := by
  apply Int32.toBitVec_inj.mp
  rw [Int32.toBitVec_or, bz_bv, bz_bv, bz_bv]
  apply BitVec.eq_of_toNat_eq
  simp [BitVec.toNat_or, BitVec.toNat_ofNat, Nat.or_mod_two_pow]
theorem bz_xor (a b : Nat) : nI a ^^^ nI b = nI (a ^^^ b) := by
  apply Int32.toBitVec_inj.mp
  rw [Int32.toBitVec_xor, bz_bv, bz_bv, bz_bv]
  apply BitVec.eq_of_toNat_eq
  simp [BitVec.toNat_xor, BitVec.toNat_ofNat, Nat.xor_mod_two_pow]
theorem bz_and (a b : Nat) : nI a &&& nI b = nI (a &&& b) := by
  apply Int32.toBitVec_inj.mp
  rw [Int32.toBitVec_and, bz_bv, bz_bv, bz_bv]
  apply BitVec.eq_of_toNat_eq
  simp [BitVec.toNat_and, BitVec.toNat_ofNat, Nat.and_mod_two_pow]
theorem bz_xm1 (a : Nat) : nI a ^^^ (-1) = nI (a ^^^ 4294967295) := by
  rw [show (-1 : Int32) = nI 4294967295 from by decide]
  exact bz_xor _ _
theorem bz_pow {f : Nat} (h : f ≤ 11) : 2 ^ f ≤ 2048 := Nat.pow_le_pow_right (j := 11) (by decide) h
theorem bz_pow10 {f : Nat} (h : f ≤ 10) : 2 ^ f ≤ 1024 := Nat.pow_le_pow_right (j := 10) (by decide) h
theorem bz_pow1 (f : Nat) : 1 ≤ 2 ^ f := Nat.one_le_two_pow
theorem bz_or_lt {s k f : Nat} (hs : s < 2 ^ f) (hk : k < f) : s ||| 2 ^ k < 2 ^ f := Nat.or_lt_two_pow hs (Nat.pow_lt_pow_right (by decide) hk)
theorem bz_xor_lt {s k f : Nat} (hs : s < 2 ^ f) (hk : k < f) : s ^^^ 2 ^ k < 2 ^ f := Nat.xor_lt_two_pow hs (Nat.pow_lt_pow_right (by decide) hk)
theorem bz_dec (u : Nat) : nI u + Int32.ofInt (-1) = nI u - 1 := by
  rw [Int32.sub_eq_add_neg]; rfl
theorem bz_pd {u : Nat} (h : 0 < u) : nI u - 1 = nI (u - 1) := pk_sub (b := 1) h
theorem bz_ltz {u : Nat} (h : u < 2 ^ 30) : nI u - 1 < 0 ↔ u = 0 := by
  rcases Nat.eq_zero_or_pos u with rfl | z
  · exact ⟨fun _ => rfl, fun _ => by decide⟩
  · rw [bz_pd z]
    exact ⟨fun q => absurd q (nI_pos (by omega)), fun q => by omega⟩
theorem bz_ltn {u v : Nat} (h : u < 2 ^ 30) (hv : v < 2 ^ 30) : nI u - 1 < nI v ↔ u ≤ v := by
  rcases Nat.eq_zero_or_pos u with rfl | z
  · refine ⟨fun _ => Nat.zero_le _, fun _ => ?_⟩
    rw [Int32.lt_iff_toInt_lt, nI_toInt (by omega)]
    have : (nI 0 - 1).toInt = -1 := by decide
    omega
  · rw [bz_pd z, nI_ltI (by omega) (by omega)]
    omega
