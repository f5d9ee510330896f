/-! LONGS: shifts, masks -/
theorem l_sh : ∀ n : Nat, n < 64 → (((nI n).toInt64 &&& 63).toBitVec.smod 64).toNat = n := by decide +kernel
theorem pkl_shl (a s : Int64) (k : Nat) (hs : (s.toBitVec.smod 64).toNat = k) : (a <<< s).toBitVec.toNat = a.toBitVec.toNat * 2 ^ k % 2 ^ 64 := by
  show (a.toBitVec <<< (s.toBitVec.smod 64).toNat).toNat = _
  rw [hs, BitVec.toNat_shiftLeft, Nat.shiftLeft_eq]
theorem pkl_shr (a s : Int64) (k : Nat) (hs : (s.toBitVec.smod 64).toNat = k) : (a >>> s).toInt = a.toInt >>> k := by
  show (a.toBitVec.sshiftRight (s.toBitVec.smod 64).toNat).toInt = _
  rw [hs, BitVec.toInt_sshiftRight]
  rfl
theorem lI_bv (a : Int) : (lI a).toBitVec.toNat = (a % 18446744073709551616).toNat := by
  show (BitVec.ofInt 64 a).toNat = _
  rw [BitVec.toNat_ofInt]
  rfl
theorem lI_shl {a k d : Int} (h0 : 0 ≤ k) (h1 : k < 64) (h2 : (2 : Int) ^ k.toNat = d) : lI a <<< ((iI k).toInt64 &&& 63) = lI (a * d) := by
  obtain ⟨n, rfl⟩ : ∃ n : Nat, k = (n : Int) := ⟨k.toNat, by omega⟩
  rw [Int.toNat_natCast] at h2
  rw [iI_nat, ← h2]
  apply Int64.toBitVec_inj.mp
  apply BitVec.eq_of_toNat_eq
  rw [pkl_shl _ _ n (l_sh n (by omega)), lI_bv, lI_bv]
  apply Int.ofNat.inj
  show (((a % 18446744073709551616).toNat * 2 ^ n % 2 ^ 64 : Nat) : Int) = ((a * 2 ^ n % 18446744073709551616).toNat : Int)
  rw [Int.natCast_emod, Int.natCast_mul, Int.natCast_pow, Int.toNat_of_nonneg (Int.emod_nonneg _ (by omega)), Int.toNat_of_nonneg (Int.emod_nonneg _ (by omega))]
  show a % 18446744073709551616 * 2 ^ n % 18446744073709551616 = a * 2 ^ n % 18446744073709551616
  rw [Int.mul_emod, Int.emod_emod_of_dvd _ (Int.dvd_refl _), ← Int.mul_emod]
theorem lI_shr {a k d : Int} (ha : 0 ≤ a ∧ a < 9223372036854775808) (h0 : 0 ≤ k) (h1 : k < 64) (h2 : (2 : Int) ^ k.toNat = d) : lI a >>> ((iI k).toInt64 &&& 63) = lI (a / d) := by
  obtain ⟨n, rfl⟩ : ∃ n : Nat, k = (n : Int) := ⟨k.toNat, by omega⟩
  rw [Int.toNat_natCast] at h2
  rw [iI_nat, ← h2]
  apply Int64.toInt_inj.mp
  rw [pkl_shr _ _ n (l_sh n (by omega)), lI_toInt (by constructor <;> omega), Int.shiftRight_eq_div_pow]
  have hd : a / ((2 ^ n : Nat) : Int) = a / 2 ^ n := by rw [Int.natCast_pow]; rfl
  have hp : (0 : Int) < 2 ^ n := Int.pow_pos (by omega)
  have b1 : 0 ≤ a / 2 ^ n := Int.ediv_nonneg ha.1 (by omega)
  have b2 : a / 2 ^ n ≤ a := Int.ediv_le_self _ ha.1
  rw [hd, lI_toInt (by constructor <;> omega)]
