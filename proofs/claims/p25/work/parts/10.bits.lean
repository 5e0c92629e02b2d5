/-! rows on bits, shifts and unsigned numbers, to paste: each family out of a closed proof of our own, whole with what it rests on; each by itself clean at Lean in its own claim (generation 39, form 5). Take a family whole -/
/-! ===== Int32 by its bits: bt x i ===== -/
def bt (x : Int32) (i : Nat) : Bool := x.toBitVec.getLsbD i
theorem b_ext {x y : Int32} (h : ∀ i, i < 32 → bt x i = bt y i) : x = y := Int32.toBitVec_inj.mp (BitVec.eq_of_getLsbD_eq (fun i hi => h i hi))
theorem b_or (x y : Int32) (i : Nat) : bt (x ||| y) i = (bt x i || bt y i) := by unfold bt; rw [Int32.toBitVec_or, BitVec.getLsbD_or]
theorem b_and (x y : Int32) (i : Nat) : bt (x &&& y) i = (bt x i && bt y i) := by unfold bt; rw [Int32.toBitVec_and, BitVec.getLsbD_and]
theorem b_xor (x y : Int32) (i : Nat) : bt (x ^^^ y) i = (bt x i ^^ bt y i) := by unfold bt; rw [Int32.toBitVec_xor, BitVec.getLsbD_xor]
theorem b_big {x : Int32} {i : Nat} (h : 32 ≤ i) : bt x i = false := BitVec.getLsbD_of_ge _ _ h
theorem b_255 (i : Nat) : bt 255 i = decide (i < 8) := by
  rcases Nat.lt_or_ge i 32 with h | h
  · exact (by decide +kernel : ∀ i, i < 32 → bt 255 i = decide (i < 8)) i h
  · rw [b_big h, decide_eq_false (by omega)]
theorem b_65535 (i : Nat) : bt 65535 i = decide (i < 16) := by
  rcases Nat.lt_or_ge i 32 with h | h
  · exact (by decide +kernel : ∀ i, i < 32 → bt 65535 i = decide (i < 16)) i h
  · rw [b_big h, decide_eq_false (by omega)]
theorem b_m1 : ∀ i, i < 32 → bt (-1) i = true := by decide +kernel
theorem b_0 (i : Nat) : bt 0 i = false := BitVec.getLsbD_zero
theorem s_l : ∀ n, n < 32 → ((nI n &&& 31).toBitVec.smod 32).toNat = n := by decide +kernel
theorem s_u : ∀ n, n < 32 → (((nI n).toUInt32 &&& Int32.toUInt32 31).toBitVec % 32).toNat = n := by decide +kernel
theorem b_shl (n : Nat) (hn : n < 32) (x : Int32) {i : Nat} (hi : i < 32) : bt (x <<< (nI n &&& 31)) i = (decide (n ≤ i) && bt x (i - n)) := by
  unfold bt
  rw [Int32.toBitVec_shiftLeft]
  show (x.toBitVec <<< ((nI n &&& 31).toBitVec.smod 32).toNat).getLsbD i = _
  rw [s_l n hn, BitVec.getLsbD_shiftLeft]
  rcases Nat.lt_or_ge i n with h | h
  · simp [h, Nat.not_le.mpr h]
  · simp [hi, h, Nat.not_lt.mpr h]
theorem b_ushr (n : Nat) (hn : n < 32) (x : Int32) (i : Nat) : bt ((x.toUInt32 >>> ((nI n).toUInt32 &&& Int32.toUInt32 31)).toInt32) i = bt x (n + i) := by
  show (x.toUInt32 >>> ((nI n).toUInt32 &&& Int32.toUInt32 31)).toBitVec.getLsbD i = x.toUInt32.toBitVec.getLsbD (n + i)
  rw [UInt32.toBitVec_shiftRight]
  show (x.toUInt32.toBitVec >>> (((nI n).toUInt32 &&& Int32.toUInt32 31).toBitVec % 32).toNat).getLsbD i = _
  rw [s_u n hn, BitVec.getLsbD_ushiftRight]
theorem b_sshr (n : Nat) (hn : n < 32) (x : Int32) {i : Nat} (hi : i < 32) : bt (x >>> (nI n &&& 31)) i = if n + i < 32 then bt x (n + i) else bt x 31 := by
  unfold bt
  rw [Int32.toBitVec_shiftRight]
  show (x.toBitVec.sshiftRight ((nI n &&& 31).toBitVec.smod 32).toNat).getLsbD i = _
  rw [s_l n hn, BitVec.getLsbD_sshiftRight, BitVec.msb_eq_getLsbD_last]
  simp [hi]
theorem b_shl8 (x : Int32) {i : Nat} (hi : i < 32) : bt (x <<< ((8 : Int32) &&& 31)) i = (decide (8 ≤ i) && bt x (i - 8)) := b_shl 8 (by omega) x hi
theorem b_shl16 (x : Int32) {i : Nat} (hi : i < 32) : bt (x <<< ((16 : Int32) &&& 31)) i = (decide (16 ≤ i) && bt x (i - 16)) := b_shl 16 (by omega) x hi
theorem b_shl24 (x : Int32) {i : Nat} (hi : i < 32) : bt (x <<< ((24 : Int32) &&& 31)) i = (decide (24 ≤ i) && bt x (i - 24)) := b_shl 24 (by omega) x hi
theorem b_sshr8 (x : Int32) {i : Nat} (hi : i < 32) : bt (x >>> ((8 : Int32) &&& 31)) i = if 8 + i < 32 then bt x (8 + i) else bt x 31 := b_sshr 8 (by omega) x hi
/-! ===== nI under and, xor, >>>, one bit, 65535 ===== -/
theorem nx_and (a b : Nat) : nI a &&& nI b = nI (a &&& b) := by
  apply Int32.toBitVec_inj.1
  show BitVec.ofNat 32 a &&& BitVec.ofNat 32 b = BitVec.ofNat 32 (a &&& b)
  apply BitVec.eq_of_getLsbD_eq
  intro i hi
  simp [hi]
theorem nx_xor (a b : Nat) : nI a ^^^ nI b = nI (a ^^^ b) := by
  apply Int32.toBitVec_inj.1
  show BitVec.ofNat 32 a ^^^ BitVec.ofNat 32 b = BitVec.ofNat 32 (a ^^^ b)
  apply BitVec.eq_of_getLsbD_eq
  intro i hi
  simp [hi]
theorem nx_cnt : ∀ j : Fin 32, (UInt32.ofNat j.val &&& Int32.toUInt32 31).toNat % 32 = j.val := by decide +kernel
theorem nx_ush {k j : Nat} (hk : k < 65536) (hj : j < 32) : ((nI k).toUInt32 >>> ((nI j).toUInt32 &&& Int32.toUInt32 31)).toInt32 = nI (k >>> j) := by
  have hs : k >>> j ≤ k := by
    rw [Nat.shiftRight_eq_div_pow]
    exact Nat.div_le_self _ _
  have e2 : UInt32.ofNat k >>> (UInt32.ofNat j &&& Int32.toUInt32 31) = UInt32.ofNat (k >>> j) := by
    apply UInt32.toNat_inj.1
    have h1 : (UInt32.ofNat k).toNat = k := Nat.mod_eq_of_lt (by omega)
    have h2 : (UInt32.ofNat (k >>> j)).toNat = k >>> j := Nat.mod_eq_of_lt (by omega)
    rw [UInt32.toNat_shiftRight, nx_cnt ⟨j, hj⟩, h1, h2]
  show (UInt32.ofNat k >>> (UInt32.ofNat j &&& Int32.toUInt32 31)).toInt32 = _
  rw [e2]
  rfl

theorem zI_nI {x : Int} (h : 0 ≤ x) : zI x = nI x.toNat := by
  unfold zI nI
  obtain ⟨n, rfl⟩ := Int.eq_ofNat_of_zero_le h
  exact Int32.ofInt_eq_ofNat
theorem zbt {k i : Nat} (hi : i < 32) : bt (nI k) i = k.testBit i := by
  unfold bt nI
  show (BitVec.ofNat 32 k).getLsbD i = _
  rw [BitVec.getLsbD_ofNat]
  simp [hi]
theorem ztb {k i : Nat} (hk : k < 65536) (hi : 16 ≤ i) : k.testBit i = false := Nat.testBit_lt_two_pow (Nat.lt_of_lt_of_le hk (by calc (65536 : Nat) = 2 ^ 16 := rfl
  _ ≤ 2 ^ i := Nat.pow_le_pow_right (by decide) hi))
theorem zn_shr {v j : Nat} (hv : v < 65536) (hj : j ≤ 16) : nI v >>> (nI j &&& 31) = nI (v / 2 ^ j) := by
  apply b_ext
  intro i hi
  rw [b_sshr j (by omega) _ hi, zbt hi, Nat.testBit_div_two_pow]
  by_cases q : j + i < 32
  · rw [if_pos q, zbt q, Nat.add_comm]
  · rw [if_neg q, zbt (by decide), ztb hv (by decide), ztb hv (by omega)]
theorem zn_shl {v j : Nat} (hv : v * 2 ^ j ≤ 65536) (hj : j ≤ 16) : nI v <<< (nI j &&& 31) = nI (v * 2 ^ j) := by
  apply b_ext
  intro i hi
  rw [b_shl j (by omega) _ hi, zbt hi, Nat.testBit_mul_two_pow]
  by_cases q : j ≤ i
  · rw [zbt (by omega)]; first | done | simp [q]
  · simp [q]
theorem zn_msk : ∀ j, j < 17 → ∀ i, i < 32 → bt (zI (-(2 ^ j))) i = decide (j ≤ i) := by decide +kernel
theorem zn_and {v j : Nat} (hv : v < 65536) (hj : j ≤ 16) : nI v &&& zI (-(2 ^ j)) = nI (v / 2 ^ j * 2 ^ j) := by
  apply b_ext
  intro i hi
  rw [b_and, zn_msk j (by omega) i hi, zbt hi, zbt hi, Nat.testBit_mul_two_pow, Nat.testBit_div_two_pow]
  by_cases q : j ≤ i
  · rw [Nat.sub_add_cancel q]; simp [q]
  · simp [q]
/-- 16 - b as a natural number -/
theorem zj {b : Int} (h0 : 0 ≤ b) (h1 : b ≤ 16) : ∃ j : Nat, j ≤ 16 ∧ 16 - b = (j : Int) := ⟨(16 - b).toNat, by omega, by omega⟩
theorem zfs_nat {v b : Int} {j : Nat} (hv : 0 ≤ v) (hj : 16 - b = (j : Int)) : zfs v b = ((v.toNat / 2 ^ j : Nat) : Int) := by
  unfold zfs
  rw [hj]
  obtain ⟨n, rfl⟩ := Int.eq_ofNat_of_zero_le hv
  simp
theorem z_shr {v b : Int} (h0 : 0 ≤ v) (h1 : v < 65536) (h2 : 0 ≤ b) (h3 : b ≤ 16) : zI v >>> (zI (16 - b) &&& 31) = zI (zfs v b) := by
  obtain ⟨j, hj, e⟩ := zj h2 h3
  rw [zfs_nat h0 e, e, zI_nI h0, zI_nI (Int.natCast_nonneg _), zI_nI (Int.natCast_nonneg _)]
  simp only [Int.toNat_natCast]
  exact zn_shr (by omega) hj
theorem zfs_rg {v b : Int} (h0 : 0 ≤ v) (h1 : v < 65536) (h2 : 0 ≤ b) (h3 : b ≤ 16) : 0 ≤ zfs v b ∧ zfs v b < 65536 := by
  obtain ⟨j, hj, e⟩ := zj h2 h3
  rw [zfs_nat h0 e]
  have h := Nat.div_le_self v.toNat (2 ^ j)
  generalize v.toNat / 2 ^ j = q at h ⊢
  omega
/-- the value whose bits behind the first ones are 0 -/
def zfb (v b : Int) : Int := zfs v b * 2 ^ (16 - b).toNat
theorem zfb_nat {v b : Int} {j : Nat} (hv : 0 ≤ v) (hj : 16 - b = (j : Int)) : zfb v b = ((v.toNat / 2 ^ j * 2 ^ j : Nat) : Int) := by
  unfold zfb
  rw [zfs_nat hv hj, hj]
  simp
theorem zfb_rg {v b : Int} (h0 : 0 ≤ v) (h1 : v < 65536) (h2 : 0 ≤ b) (h3 : b ≤ 16) : 0 ≤ zfb v b ∧ zfb v b ≤ v := by
  obtain ⟨j, hj, e⟩ := zj h2 h3
  rw [zfb_nat h0 e]
  have := Nat.div_mul_le_self v.toNat (2 ^ j)
  omega
theorem z_shl {v b : Int} (h0 : 0 ≤ v) (h1 : v < 65536) (h2 : 0 ≤ b) (h3 : b ≤ 16) : zI (zfs v b) <<< (zI (16 - b) &&& 31) = zI (zfb v b) := by
  obtain ⟨j, hj, e⟩ := zj h2 h3
  rw [zfb_nat h0 e, zfs_nat h0 e, e, zI_nI (Int.natCast_nonneg _), zI_nI (Int.natCast_nonneg _), zI_nI (Int.natCast_nonneg _)]
  simp only [Int.toNat_natCast]
  exact zn_shl (by have := Nat.div_mul_le_self v.toNat (2 ^ j); omega) hj
theorem z_one_shl {b : Int} (h2 : 0 ≤ b) (h3 : b ≤ 16) : zI 1 <<< (zI (16 - b) &&& 31) = zI (2 ^ (16 - b).toNat) := by
  obtain ⟨j, hj, e⟩ := zj h2 h3
  rw [e]
  simp only [Int.toNat_natCast]
  rw [zI_nI (x := 1) (by decide), zI_nI (Int.natCast_nonneg _), show ((2 : Int) ^ j) = ((1 * 2 ^ j : Nat) : Int) by simp, zI_nI (Int.natCast_nonneg _)]
  simp only [Int.toNat_natCast]
  exact zn_shl (v := 1) (by rw [Nat.one_mul]; exact Nat.pow_le_pow_right (by decide) hj) hj
theorem z_msk {v b : Int} (h0 : 0 ≤ v) (h1 : v < 65536) (h2 : 0 ≤ b) (h3 : b ≤ 16) : zI v &&& zI (-(2 ^ (16 - b).toNat)) = zI (zfb v b) := by
  obtain ⟨j, hj, e⟩ := zj h2 h3
  rw [zfb_nat h0 e, e]
  simp only [Int.toNat_natCast]
  rw [zI_nI h0, zI_nI (Int.natCast_nonneg _)]
  simp only [Int.toNat_natCast]
  exact zn_and (by omega) hj
def zxr (x y : Int) : Int := ((x.toNat ^^^ y.toNat : Nat) : Int)
theorem z_xor {x y : Int} (h0 : 0 ≤ x) (h1 : 0 ≤ y) : zI x ^^^ zI y = zI (zxr x y) := by
  unfold zxr
  rw [zI_nI h0, zI_nI h1, zI_nI (Int.natCast_nonneg _), nx_xor]
  simp
def zxs (x y b : Int) : Int := (((x.toNat ^^^ y.toNat) >>> (16 - b).toNat : Nat) : Int)
theorem zxr_lt {x y : Int} (h0 : 0 ≤ x) (h1 : x < 65536) (h2 : 0 ≤ y) (h3 : y < 65536) : x.toNat ^^^ y.toNat < 65536 := Nat.xor_lt_two_pow (n := 16) (by omega) (by omega)
theorem z_xsh {x y b : Int} (h0 : 0 ≤ x) (h1 : x < 65536) (h2 : 0 ≤ y) (h3 : y < 65536) (h4 : 0 ≤ b) (h5 : b ≤ 16) : ((zI (zxr x y)).toUInt32 >>> ((zI (16 - b)).toUInt32 &&& Int32.toUInt32 31)).toInt32 = zI (zxs x y b) := by
  obtain ⟨j, hj, e⟩ := zj h4 h5
  unfold zxr zxs
  rw [e, zI_nI (Int.natCast_nonneg _), zI_nI (Int.natCast_nonneg _), zI_nI (Int.natCast_nonneg _)]
  simp only [Int.toNat_natCast]
  exact nx_ush (zxr_lt h0 h1 h2 h3) (by omega)
theorem zxs_rg {x y b : Int} (h0 : 0 ≤ x) (h1 : x < 65536) (h2 : 0 ≤ y) (h3 : y < 65536) : zrg (zxs x y b) := by
  have h := zxr_lt h0 h1 h2 h3
  have h9 := Nat.shiftRight_le (x.toNat ^^^ y.toNat) (16 - b).toNat
  unfold zxs
  generalize (x.toNat ^^^ y.toNat) >>> (16 - b).toNat = q at h9 ⊢
  omega
theorem zxs_0 {x y b : Int} (h0 : 0 ≤ x) (h2 : 0 ≤ y) (h4 : 0 ≤ b) (h5 : b ≤ 16) : zxs x y b = 0 ↔ zfs x b = zfs y b := by
  obtain ⟨j, hj, e⟩ := zj h4 h5
  rw [zfs_nat h0 e, zfs_nat h2 e]
  unfold zxs
  rw [e, Nat.shiftRight_xor_distrib]
  simp only [Int.toNat_natCast, Nat.shiftRight_eq_div_pow]
  constructor
  · intro h
    generalize x.toNat / 2 ^ j = u at h ⊢
    generalize y.toNat / 2 ^ j = v at h ⊢
    have h9 : u ^^^ v = 0 := by omega
    have h8 : u = (u ^^^ v) ^^^ v := by rw [Nat.xor_assoc, Nat.xor_self, Nat.xor_zero]
    rw [h9, Nat.zero_xor] at h8
    rw [h8]
  · intro h
    have h9 : x.toNat / 2 ^ j = y.toNat / 2 ^ j := Int.ofNat.inj h
    rw [h9, Nat.xor_self]
    rfl
