/-! bits, shifts, quotients: what the law reckons with -/
theorem j_tb {k i : Nat} (hk : k < 2147483648) (hi : 31 ≤ i) : k.testBit i = false := Nat.testBit_lt_two_pow (Nat.lt_of_lt_of_le hk (by calc (2147483648 : Nat) = 2 ^ 31 := rfl
  _ ≤ 2 ^ i := Nat.pow_le_pow_right (by decide) hi))
theorem j_sarN {v j : Nat} (hv : v < 2147483648) (hj : j < 32) : nI v >>> (nI j &&& 31) = nI (v / 2 ^ j) := by
  apply b_ext
  intro i hi
  rw [b_sshr j (by omega) _ hi, zbt hi, Nat.testBit_div_two_pow]
  by_cases q : j + i < 32
  · rw [if_pos q, zbt q, Nat.add_comm]
  · rw [if_neg q, zbt (by decide), j_tb hv (by decide), j_tb hv (by omega)]
theorem j_shlN {v j : Nat} (hj : j < 31) : nI v <<< (nI j &&& 31) = nI (v * 2 ^ j) := by
  apply b_ext
  intro i hi
  rw [b_shl j (by omega) _ hi, zbt hi, Nat.testBit_mul_two_pow]
  by_cases q : j ≤ i
  · rw [zbt (by omega)]; first | done | simp [q]
  · simp [q]
/-- >> of a number that isn't negative -/
theorem j_sar {v k p : Int} (h0 : 0 ≤ v) (h1 : v < 2147483648) (h2 : 0 ≤ k) (h3 : k < 32) (hp : (2 : Int) ^ k.toNat = p) : zI v >>> (zI k &&& 31) = zI (v / p) := by
  obtain ⟨n, rfl⟩ := Int.eq_ofNat_of_zero_le h0
  obtain ⟨j, rfl⟩ := Int.eq_ofNat_of_zero_le h2
  simp only [Int.toNat_natCast] at hp
  subst hp
  rw [zI_nI h0, zI_nI h2]
  simp only [Int.toNat_natCast]
  rw [j_sarN (by omega) (by omega), show ((n : Int) / 2 ^ j) = ((n / 2 ^ j : Nat) : Int) by simp, zI_nI (Int.natCast_nonneg _)]
  simp only [Int.toNat_natCast]
theorem j_shl {v k p : Int} (h0 : 0 ≤ v) (h2 : 0 ≤ k) (h3 : k < 31) (hp : (2 : Int) ^ k.toNat = p) : zI v <<< (zI k &&& 31) = zI (v * p) := by
  obtain ⟨n, rfl⟩ := Int.eq_ofNat_of_zero_le h0
  obtain ⟨j, rfl⟩ := Int.eq_ofNat_of_zero_le h2
  simp only [Int.toNat_natCast] at hp
  subst hp
  rw [zI_nI h0, zI_nI h2]
  simp only [Int.toNat_natCast]
  rw [j_shlN (by omega), show ((n : Int) * 2 ^ j) = ((n * 2 ^ j : Nat) : Int) by simp, zI_nI (Int.natCast_nonneg _)]
  simp only [Int.toNat_natCast]
/-- & with a row of ones -/
theorem j_mask {v m p : Int} {k : Nat} (h0 : 0 ≤ v) (hm : m = p - 1) (hp : (2 : Int) ^ k = p) : zI v &&& zI m = zI (v % p) := by
  obtain ⟨n, rfl⟩ := Int.eq_ofNat_of_zero_le h0
  have e : ((2 ^ k - 1 : Nat) : Int) = m := by
    have h9 : 0 < 2 ^ k := Nat.two_pow_pos k
    rw [hm, ← hp, Int.ofNat_sub (show 1 ≤ 2 ^ k by omega)]
    simp
  subst hp
  rw [← e, zI_nI h0, zI_nI (Int.natCast_nonneg _)]
  simp only [Int.toNat_natCast]
  rw [nx_and, Nat.and_two_pow_sub_one_eq_mod, show ((n : Int) % 2 ^ k) = ((n % 2 ^ k : Nat) : Int) by simp, zI_nI (Int.natCast_nonneg _)]
  simp only [Int.toNat_natCast]
theorem j_orN (a b : Nat) : nI a ||| nI b = nI (a ||| b) := by
  apply Int32.toBitVec_inj.1
  show BitVec.ofNat 32 a ||| BitVec.ofNat 32 b = BitVec.ofNat 32 (a ||| b)
  apply BitVec.eq_of_getLsbD_eq
  intro i hi
  simp [hi]
theorem j_or {a b : Int} (ha : 0 ≤ a ∧ a < 65536) (hb : 0 ≤ b ∧ b < 65536) : ∃ v : Int, 0 ≤ v ∧ v < 65536 ∧ zI a ||| zI b = zI v := by
  have h := Nat.or_lt_two_pow (n := 16) (show a.toNat < 2 ^ 16 by omega) (show b.toNat < 2 ^ 16 by omega)
  refine ⟨((a.toNat ||| b.toNat : Nat) : Int), Int.natCast_nonneg _, by omega, ?_⟩
  rw [zI_nI ha.1, zI_nI hb.1, zI_nI (Int.natCast_nonneg _), j_orN]
  simp only [Int.toNat_natCast]
/-- | of two truth values -/
theorem j_orb {a b : Int} (ha : a = 0 ∨ a = 1) (hb : b = 0 ∨ b = 1) : zI a ||| zI b = zI (max a b) := by
  rcases ha with rfl | rfl <;> rcases hb with rfl | rfl <;> decide
/-- >>> 1 of any number -/
theorem j_ush1 (x : Int) : ∃ v : Int, 0 ≤ v ∧ v < 2147483648 ∧ ((zI x).toUInt32 >>> ((zI 1).toUInt32 &&& Int32.toUInt32 31)).toInt32 = zI v := by
  have hlt : (zI x).toUInt32.toNat < 2 ^ 32 := (zI x).toUInt32.toBitVec.isLt
  refine ⟨(((zI x).toUInt32.toNat / 2 : Nat) : Int), Int.natCast_nonneg _, by omega, ?_⟩
  have e2 : (zI x).toUInt32 >>> ((zI 1).toUInt32 &&& Int32.toUInt32 31) = UInt32.ofNat ((zI x).toUInt32.toNat / 2) := by
    apply UInt32.toNat_inj.1
    have h1 : (UInt32.ofNat ((zI x).toUInt32.toNat / 2)).toNat = (zI x).toUInt32.toNat / 2 := Nat.mod_eq_of_lt (by omega)
    have h2 : ((zI 1).toUInt32 &&& Int32.toUInt32 31).toNat % 32 = 1 := by decide
    rw [UInt32.toNat_shiftRight, h2, h1, Nat.shiftRight_eq_div_pow]
  rw [e2, zI_nI (Int.natCast_nonneg _)]
  simp only [Int.toNat_natCast]
  rfl
/-- a value cut to its first bits is so cut -/
theorem j_cut {v b : Int} (h0 : 0 ≤ v) (h2 : 0 ≤ b) (h3 : b ≤ 16) : zfb (zfb v b) b = zfb v b := by
  obtain ⟨j, hj, e⟩ := zj h2 h3
  have h1 : 0 ≤ zfb v b := by rw [zfb_nat h0 e]; exact Int.natCast_nonneg _
  rw [zfb_nat h1 e, zfb_nat h0 e]
  simp only [Int.toNat_natCast]
  rw [Nat.mul_div_cancel _ (Nat.two_pow_pos j)]
theorem j_vp {v b : Int} (h0 : 0 ≤ v) (h1 : v < 65536) (h2 : 0 ≤ b) (h3 : b ≤ 16) : zvp (zfb v b) b := by
  have h := zfb_rg h0 h1 h2 h3
  exact ⟨⟨h.1, by omega, h2, h3⟩, j_cut h0 h2 h3⟩
/-! first bits -/
theorem i_fs {v w m k : Int} (hv : 0 ≤ v) (hw : 0 ≤ w) (hk : 0 ≤ k) (hkm : k ≤ m) (hm : m ≤ 16) (h : zfs v m = zfs w m) : zfs v k = zfs w k := by
  obtain ⟨j, hj, e⟩ := zj (b := m) (by omega) hm
  obtain ⟨j', hj', e'⟩ := zj (b := k) hk (by omega)
  rw [zfs_nat hv e, zfs_nat hw e] at h
  rw [zfs_nat hv e', zfs_nat hw e']
  have h1 : v.toNat / 2 ^ j = w.toNat / 2 ^ j := Int.ofNat.inj h
  obtain ⟨t, ht⟩ : ∃ t, j' = j + t := ⟨j' - j, by omega⟩
  rw [ht, Nat.pow_add, ← Nat.div_div_eq_div_mul, ← Nat.div_div_eq_div_mul, h1]
/-- x first bits are alike, and no more -/
def jalk (a b x : Int) : Prop := (0 ≤ x ∧ x ≤ 16) ∧ ∀ k : Int, 0 ≤ k → k ≤ 16 → (zfs a k = zfs b k ↔ k ≤ x)
theorem j_xs16 {a b : Int} : zxr a b = zxs a b 16 := by
  unfold zxr zxs
  simp
theorem j_fs0 {a : Int} (h0 : 0 ≤ a) (h1 : a < 65536) : zfs a 0 = 0 := by
  unfold zfs
  show a / 65536 = 0
  omega
theorem j_xs0 {a b n : Int} (ha : 0 ≤ a ∧ a < 65536) (hb : 0 ≤ b ∧ b < 65536) (hn : 0 ≤ n ∧ n ≤ 16) (h : 0 < zxs a b n) : 1 ≤ n := by
  refine Classical.byContradiction fun z => ?_
  have e : n = 0 := by omega
  subst e
  have := (zxs_0 ha.1 hb.1 (b := 0) (by decide) (by decide)).mpr (by rw [j_fs0 ha.1 ha.2, j_fs0 hb.1 hb.2])
  omega
theorem j_xs1 {a b n : Int} (hn : 1 ≤ n ∧ n ≤ 16) : zxs a b n / 2 = zxs a b (n + (-1)) := by
  unfold zxs
  obtain ⟨j, hj, e⟩ := zj (b := n) (by omega) hn.2
  have e1 : (16 - n).toNat = j := by omega
  have e2 : (16 - (n + (-1))).toNat = j + 1 := by omega
  rw [e1, e2, Nat.shiftRight_succ]
  omega
theorem j_xsrg {a b n : Int} (ha : 0 ≤ a ∧ a < 65536) (hb : 0 ≤ b ∧ b < 65536) : 0 ≤ zxs a b n ∧ zxs a b n < 65536 := by
  have h := zxr_lt ha.1 ha.2 hb.1 hb.2
  have h9 := Nat.shiftRight_le (a.toNat ^^^ b.toNat) (16 - n).toNat
  unfold zxs
  generalize (a.toNat ^^^ b.toNat) >>> (16 - n).toNat = q at h9 ⊢
  omega
theorem j_alk0 {a b n : Int} (ha : 0 ≤ a ∧ a < 65536) (hb : 0 ≤ b ∧ b < 65536) (hn : 0 ≤ n ∧ n ≤ 16) (h : zxs a b n ≤ 0) (h2 : ∀ k : Int, n < k → k ≤ 16 → ¬ zfs a k = zfs b k) : jalk a b n := by
  have h3 := (j_xsrg (n := n) ha hb).1
  have e := (zxs_0 ha.1 hb.1 hn.1 hn.2).mp (by omega)
  refine ⟨hn, fun k hk hk2 => ⟨fun z => ?_, fun z => i_fs ha.1 hb.1 hk z hn.2 e⟩⟩
  exact Classical.byContradiction fun w => h2 k (by omega) hk2 z
theorem j_cov {v b id x : Int} (hv : zpfx v b) (h : jalk v id x) : zmeet v b id 16 ↔ b ≤ x := by
  unfold zpfx at hv
  unfold zmeet
  rw [show min b 16 = b by omega]
  exact h.2 b hv.2.2.1 hv.2.2.2
theorem j_meet {v b w c : Int} (hv : zpfx v b) (hw : zpfx w c) : zmeet v b w c ↔ zmeet v b w 16 ∨ zmeet w c v 16 := by
  unfold zpfx at hv hw
  unfold zmeet
  rw [show min b 16 = b by omega, show min c 16 = c by omega]
  rcases Int.le_total b c with q | q
  · rw [show min b c = b by omega]
    exact ⟨fun z => Or.inl z, fun z => z.elim (fun y => y) (fun y => i_fs hv.1 hw.1 hv.2.2.1 q hw.2.2.2 y.symm)⟩
  · rw [show min b c = c by omega]
    exact ⟨fun z => Or.inr z.symm, fun z => z.elim (fun y => i_fs hv.1 hw.1 hw.2.2.1 q hv.2.2.2 y) (fun y => y.symm)⟩
