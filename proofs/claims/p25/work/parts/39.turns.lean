/-! bits set and cleared -/
theorem i_bc : ∀ g : Nat, g < 64 → ∀ k : Nat, k < 6 → (nI g &&& ((zI 1 <<< (nI k &&& 31)) ^^^ zI (-1))) = nI (if g / 2 ^ k % 2 = 1 then g - 2 ^ k else g) := by decide +kernel
theorem i_bo : ∀ g : Nat, g < 64 → ∀ k : Nat, k < 6 → (nI g ||| (zI 1 <<< (nI k &&& 31))) = nI (if g / 2 ^ k % 2 = 1 then g else g + 2 ^ k) := by decide +kernel
theorem i_bc2 : ∀ g : Nat, g < 64 → ∀ k : Nat, k < 6 → (if g / 2 ^ k % 2 = 1 then g - 2 ^ k else g) < 64 ∧ (g < 16 → k < 4 → (if g / 2 ^ k % 2 = 1 then g - 2 ^ k else g) < 16) ∧ ∀ j : Nat, j < 32 → (if g / 2 ^ k % 2 = 1 then g - 2 ^ k else g) / 2 ^ j % 2 = if j = k then 0 else g / 2 ^ j % 2 := by decide +kernel
theorem i_bo2 : ∀ g : Nat, g < 64 → ∀ k : Nat, k < 6 → (if g / 2 ^ k % 2 = 1 then g else g + 2 ^ k) < 64 ∧ (g < 16 → k < 4 → (if g / 2 ^ k % 2 = 1 then g else g + 2 ^ k) < 16) ∧ ∀ j : Nat, j < 32 → (if g / 2 ^ k % 2 = 1 then g else g + 2 ^ k) / 2 ^ j % 2 = if j = k then 1 else g / 2 ^ j % 2 := by decide +kernel
theorem i_dm (g j : Nat) : ((g : Int) / 2 ^ j % 2) = ((g / 2 ^ j % 2 : Nat) : Int) := by simp
theorem i_bclr {g k : Int} (hg : 0 ≤ g ∧ g < 64) (hk : 0 ≤ k ∧ k < 6) : ∃ s t w : Int, zI 1 <<< (zI k &&& 31) = zI s ∧ zI s ^^^ zI (-1) = zI t ∧ zI g &&& zI t = zI w ∧ (0 ≤ w ∧ w < 64) ∧ (g < 16 → k < 4 → w < 16) ∧ ∀ j : Nat, j < 32 → w / 2 ^ j % 2 = if j = k.toNat then 0 else g / 2 ^ j % 2 := by
  obtain ⟨a, rfl⟩ := Int.eq_ofNat_of_zero_le hg.1
  obtain ⟨b, rfl⟩ := Int.eq_ofNat_of_zero_le hk.1
  have h1 := i_bc a (by omega) b (by omega)
  obtain ⟨h2, h3, h4⟩ := i_bc2 a (by omega) b (by omega)
  generalize (if a / 2 ^ b % 2 = 1 then a - 2 ^ b else a) = w at h1 h2 h3 h4
  refine ⟨(zI 1 <<< (zI (b : Int) &&& 31)).toInt, ((zI 1 <<< (zI (b : Int) &&& 31)) ^^^ zI (-1)).toInt, (w : Int), (zI_of _).symm, by rw [zI_of, zI_of], ?_, by omega, by omega, fun j hj => ?_⟩
  · rw [zI_of, zI_nI (Int.natCast_nonneg a), zI_nI (Int.natCast_nonneg b), zI_nI (Int.natCast_nonneg w)]
    simp only [Int.toNat_natCast]
    exact h1
  · rw [i_dm, i_dm, h4 j hj]
    simp only [Int.toNat_natCast]
    by_cases q : j = b
    · rw [if_pos q, if_pos q]; rfl
    · rw [if_neg q, if_neg q]
theorem i_bset {g k : Int} (hg : 0 ≤ g ∧ g < 64) (hk : 0 ≤ k ∧ k < 6) : ∃ s w : Int, zI 1 <<< (zI k &&& 31) = zI s ∧ zI g ||| zI s = zI w ∧ (0 ≤ w ∧ w < 64) ∧ (g < 16 → k < 4 → w < 16) ∧ ∀ j : Nat, j < 32 → w / 2 ^ j % 2 = if j = k.toNat then 1 else g / 2 ^ j % 2 := by
  obtain ⟨a, rfl⟩ := Int.eq_ofNat_of_zero_le hg.1
  obtain ⟨b, rfl⟩ := Int.eq_ofNat_of_zero_le hk.1
  have h1 := i_bo a (by omega) b (by omega)
  obtain ⟨h2, h3, h4⟩ := i_bo2 a (by omega) b (by omega)
  generalize (if a / 2 ^ b % 2 = 1 then a else a + 2 ^ b) = w at h1 h2 h3 h4
  refine ⟨(zI 1 <<< (zI (b : Int) &&& 31)).toInt, (w : Int), (zI_of _).symm, ?_, by omega, by omega, fun j hj => ?_⟩
  · rw [zI_of, zI_nI (Int.natCast_nonneg a), zI_nI (Int.natCast_nonneg b), zI_nI (Int.natCast_nonneg w)]
    simp only [Int.toNat_natCast]
    exact h1
  · rw [i_dm, i_dm, h4 j hj]
    simp only [Int.toNat_natCast]
    by_cases q : j = b
    · rw [if_pos q, if_pos q]; rfl
    · rw [if_neg q, if_neg q]
/-! a change of one piece alone -/
theorem i_upB {n : Nat} {M M2 : zMem} (h : iN n M M) (hB : iB M2 M2) (hf : ∀ κ i j : Nat, κ ≠ 9 → κ ≠ 13 → κ ≠ 14 → κ ≠ 29 → ¬ (κ = 36 ∧ j = 4) → zV M2 κ i j = zV M κ i j) : iN (n + 1) M2 M2 := by
  obtain ⟨a, b, s, c, d, e⟩ := h
  exact ⟨iA_c a (by omega) (fun κ i j q1 q2 => hf _ _ _ (by omega) (by omega) (by omega) (by omega) (by omega)) (hf _ _ _ (by omega) (by omega) (by omega) (by omega) (by omega)) (fun κ j q1 q2 => hf _ _ _ (by omega) (by omega) (by omega) (by omega) (by omega)), hB,
    iS_c s (by omega) (fun κ j q => hf _ _ _ (by omega) (by omega) (by omega) (by omega) (by omega)) (fun j q => hf _ _ _ (by omega) (by omega) (by omega) (by omega) (by omega)),
    iC_c c (by omega) (fun j => hf _ _ _ (by omega) (by omega) (by omega) (by omega) (by omega)) (fun j q => hf _ _ _ (by omega) (by omega) (by omega) (by omega) (by omega)),
    iD_c d (fun r a => hf _ _ _ (by omega) (by omega) (by omega) (by omega) (by omega)) (fun r hr => hf _ _ _ (by omega) (by omega) (by omega) (by omega) (by omega)),
    iE_c e (by omega) (fun κ i j q => hf _ _ _ (by omega) (by omega) (by omega) (by omega) (by omega)) (hf _ _ _ (by omega) (by omega) (by omega) (by omega) (by omega)) (fun κ j q1 q2 => hf _ _ _ (by omega) (by omega) (by omega) (by omega) (by omega))⟩
theorem i_upS {n : Nat} {M M2 : zMem} (h : iN n M M) (hS : iS (n + 1) M2 M2) (hf : ∀ κ i j : Nat, κ ≠ 10 → ¬ (κ = 36 ∧ j = 5) → zV M2 κ i j = zV M κ i j) : iN (n + 1) M2 M2 := by
  obtain ⟨a, b, s, c, d, e⟩ := h
  exact ⟨iA_c a (by omega) (fun κ i j q1 q2 => hf _ _ _ (by omega) (by omega)) (hf _ _ _ (by omega) (by omega)) (fun κ j q1 q2 => hf _ _ _ (by omega) (by omega)),
    iB_c b (fun κ i j q => hf _ _ _ (by omega) (by omega)) (hf _ _ _ (by omega) (by omega)) (fun j => hf _ _ _ (by omega) (by omega)), hS,
    iC_c c (by omega) (fun j => hf _ _ _ (by omega) (by omega)) (fun j q => hf _ _ _ (by omega) (by omega)),
    iD_c d (fun r a => hf _ _ _ (by omega) (by omega)) (fun r hr => hf _ _ _ (by omega) (by omega)),
    iE_c e (by omega) (fun κ i j q => hf _ _ _ (by omega) (by omega)) (hf _ _ _ (by omega) (by omega)) (fun κ j q1 q2 => hf _ _ _ (by omega) (by omega))⟩
theorem i_upC {n : Nat} {M M2 : zMem} (h : iN n M M) (hC : iC (n + 1) M2 M2) (hf : ∀ κ i j : Nat, κ ≠ 0 → ¬ (κ = 36 ∧ j ≤ 2) → zV M2 κ i j = zV M κ i j) : iN (n + 1) M2 M2 := by
  obtain ⟨a, b, s, c, d, e⟩ := h
  exact ⟨iA_c a (by omega) (fun κ i j q1 q2 => hf _ _ _ (by omega) (by omega)) (hf _ _ _ (by omega) (by omega)) (fun κ j q1 q2 => hf _ _ _ (by omega) (by omega)),
    iB_c b (fun κ i j q => hf _ _ _ (by omega) (by omega)) (hf _ _ _ (by omega) (by omega)) (fun j => hf _ _ _ (by omega) (by omega)),
    iS_c s (by omega) (fun κ j q => hf _ _ _ (by omega) (by omega)) (fun j q => hf _ _ _ (by omega) (by omega)), hC,
    iD_c d (fun r a => hf _ _ _ (by omega) (by omega)) (fun r hr => hf _ _ _ (by omega) (by omega)),
    iE_c e (by omega) (fun κ i j q => hf _ _ _ (by omega) (by omega)) (hf _ _ _ (by omega) (by omega)) (fun κ j q1 q2 => hf _ _ _ (by omega) (by omega))⟩
theorem i_upD {n : Nat} {M M2 : zMem} (h : iN n M M) (hD : iD M2 M2) (hf : ∀ κ i j : Nat, κ ≠ 18 → κ ≠ 35 → zV M2 κ i j = zV M κ i j) : iN (n + 1) M2 M2 := by
  obtain ⟨a, b, s, c, d, e⟩ := h
  exact ⟨iA_c a (by omega) (fun κ i j q1 q2 => hf _ _ _ (by omega) (by omega)) (hf _ _ _ (by omega) (by omega)) (fun κ j q1 q2 => hf _ _ _ (by omega) (by omega)),
    iB_c b (fun κ i j q => hf _ _ _ (by omega) (by omega)) (hf _ _ _ (by omega) (by omega)) (fun j => hf _ _ _ (by omega) (by omega)),
    iS_c s (by omega) (fun κ j q => hf _ _ _ (by omega) (by omega)) (fun j q => hf _ _ _ (by omega) (by omega)),
    iC_c c (by omega) (fun j => hf _ _ _ (by omega) (by omega)) (fun j q => hf _ _ _ (by omega) (by omega)), hD,
    iE_c e (by omega) (fun κ i j q => hf _ _ _ (by omega) (by omega)) (hf _ _ _ (by omega) (by omega)) (fun κ j q1 q2 => hf _ _ _ (by omega) (by omega))⟩
/-! times -/
theorem i_pas {n : Nat} {M M2 : zMem} {d : Int} (h : iN n M M) (hd : 1 ≤ d ∧ d ≤ 90) (hf : ∀ κ i j : Nat, ¬ (κ = 36 ∧ j = 0) → ¬ (κ = 0 ∧ j = 3) → zV M2 κ i j = zV M κ i j) (h1 : zV M2 36 0 0 = zV M 0 0 3 + d) (h2 : zV M2 0 0 3 = zV M 0 0 3 + d) : iN (n + 1) M2 M2 := by
  refine i_upC h ?_ (fun κ i j q1 q2 => hf κ i j (by omega) (by omega))
  obtain ⟨c1, c2, c3, c4, c5⟩ := h.2.2.2.1
  have e1 := hf 36 0 1 (by omega) (by omega)
  have e2 := hf 36 0 2 (by omega) (by omega)
  have e3 := hf 0 0 4 (by omega) (by omega)
  have e4 := hf 0 0 5 (by omega) (by omega)
  have e5 := hf 36 0 6 (by omega) (by omega)
  have e6 := hf 0 0 6 (by omega) (by omega)
  refine ⟨⟨?_, ?_, ?_⟩, ?_, ⟨?_, ?_⟩, ⟨⟨?_, ?_⟩, ?_, ?_⟩, ?_, ?_⟩ <;> omega
theorem i_slt {n : Nat} {M M2 : zMem} {a b : Int} (h : iN n M M) (ha : 1 ≤ a ∧ a ≤ 1000) (hb : 1 ≤ b ∧ b ≤ 1000) (hf : ∀ κ i j : Nat, ¬ (κ = 36 ∧ (j = 1 ∨ j = 2)) → ¬ (κ = 0 ∧ (j = 4 ∨ j = 5)) → zV M2 κ i j = zV M κ i j) (h1 : zV M2 36 0 1 = a) (h2 : zV M2 36 0 2 = b) (h3 : zV M2 0 0 4 = a) (h4 : zV M2 0 0 5 = b) : iN (n + 1) M2 M2 := by
  refine i_upC h ?_ (fun κ i j q1 q2 => hf κ i j (by omega) (by omega))
  obtain ⟨c1, c2, c3, c4, c5⟩ := h.2.2.2.1
  have e1 := hf 36 0 0 (by omega) (by omega)
  have e2 := hf 0 0 3 (by omega) (by omega)
  have e5 := hf 36 0 6 (by omega) (by omega)
  have e6 := hf 0 0 6 (by omega) (by omega)
  refine ⟨⟨?_, ?_, ?_⟩, ?_, ⟨?_, ?_⟩, ⟨⟨?_, ?_⟩, ?_, ?_⟩, ?_, ?_⟩ <;> omega
/-! servers -/
theorem i_sup {n : Nat} {M M2 : zMem} {t : Nat} {w e : Int} (h : iN n M M) (ht : t < 4) (he : e = 0 ∨ e = 1) (hw : 0 ≤ w ∧ w < 16) (hwb : ∀ j : Nat, j < 32 → w / 2 ^ j % 2 = if j = t then e else zV M 36 0 5 / 2 ^ j % 2) (hf : ∀ κ i j : Nat, ¬ (κ = 36 ∧ j = 5) → ¬ (κ = 10 ∧ j = t) → zV M2 κ i j = zV M κ i j) (h1 : zV M2 36 0 5 = w) (h2 : zV M2 10 0 t = e) : iN (n + 1) M2 M2 := by
  refine i_upS h ⟨by rw [h1]; exact hw, fun j hj => ?_⟩ (fun κ i j q1 q2 => hf κ i j (by omega) (by omega))
  obtain ⟨s1, s2, s3, s4, s5⟩ := h.2.2.1.2 j hj
  rw [h1, hwb j (by omega), hf 36 0 (8 + j) (by omega) (by omega), hf 11 0 j (by omega) (by omega)]
  by_cases q : j = t
  · subst q
    rw [if_pos rfl, h2]
    exact ⟨he, rfl, s3, s4, by omega⟩
  · rw [if_neg q, hf 10 0 j (by omega) (by omega)]
    exact ⟨s1, s2, s3, s4, by omega⟩
/-! reachability -/
theorem i_prb {n : Nat} {M M2 : zMem} {r k : Nat} {w e : Int} (h : iN n M M) (hr : r < 2) (hk : k < 32) (he : e = 0 ∨ e = 1) (hw : 0 ≤ w ∧ w < 64) (hwb : ∀ j : Nat, j < 32 → w / 2 ^ j % 2 = if j = k then e else zV M 35 0 r / 2 ^ j % 2) (hf : ∀ κ i j : Nat, ¬ (κ = 35 ∧ j = r) → ¬ (κ = 18 ∧ i = 2 * r ∧ j = k) → zV M2 κ i j = zV M κ i j) (h1 : zV M2 35 0 r = w) (h2 : zV M2 18 (2 * r) k = e) : iN (n + 1) M2 M2 ∧ zprb M2 (2 * r) = zsm (fun a => w / 2 ^ a % 2) 32 := by
  obtain ⟨d1, d2⟩ := h.2.2.2.2.1
  have hb : ∀ a : Nat, a < 32 → w / 2 ^ a % 2 = zV M2 18 (2 * r) a := fun a ha => by
    rw [hwb a ha]
    by_cases q : a = k
    · rw [if_pos q, q, h2]
    · rw [if_neg q, hf _ _ _ (by omega) (by omega)]
      exact (d2 r hr).2 a ha
  have h01 : ∀ i j : Nat, zV M2 18 i j = 0 ∨ zV M2 18 i j = 1 := fun i j => by
    by_cases q : i = 2 * r ∧ j = k
    · rw [q.1, q.2, h2]; exact he
    · rw [hf _ _ _ (by omega) (by omega)]; exact d1 i j
  refine ⟨i_upD h ⟨h01, fun r' hr' => ?_⟩ (fun κ i j q1 q2 => hf κ i j (by omega) (by omega)), ?_⟩
  · by_cases q : r' = r
    · subst q
      rw [h1]
      exact ⟨hw, hb⟩
    · rw [hf 35 0 r' (by omega) (by omega)]
      refine ⟨(d2 r' hr').1, fun a ha => ?_⟩
      rw [hf 18 (2 * r') a (by omega) (by omega)]
      exact (d2 r' hr').2 a ha
  · refine zsm_ext fun a ha => ?_
    show zind (zV M2 18 (2 * r) a ≠ 0) = w / 2 ^ a % 2
    rw [hb a ha]
    rcases h01 (2 * r) a with q | q
    · rw [q]; exact zind_f (fun z => z rfl)
    · rw [q]; exact zind_t (by decide)
/-! delegations -/
theorem i_dpf {M : zMem} {v b : Int} (h : iB M M) (hv : zpfx v b) {i : Nat} (hi : (i : Int) < zV M 9 0 4) : zV M 29 0 i % 4194304 = 32 * v + b ↔ zV M 14 i 0 = v ∧ zV M 14 i 1 = b := by
  obtain ⟨⟨a, b1⟩, c, d, e⟩ := h
  obtain ⟨c1, c2⟩ := c i (by omega)
  have d1 := d i hi
  unfold zpfx at c1 hv
  constructor
  · intro q; omega
  · intro q; omega
/-- the last one of the prefix, or how many there are -/
def jdf (M : zMem) (e f k : Int) : Prop := (f = zV M 36 0 4 ∧ ∀ i : Nat, (i : Int) < k → ¬ zV M 29 0 i % 4194304 = e) ∨ ∃ j : Nat, f = (j : Int) ∧ (j : Int) < zV M 36 0 4 ∧ zV M 29 0 j % 4194304 = e
theorem jdf_0 (M : zMem) (e : Int) {f : Int} (hf : f = zV M 36 0 4) : jdf M e f 0 := Or.inl ⟨hf, fun i hi => absurd hi (by omega)⟩
theorem jdf_f {M : zMem} {e f k : Int} (hk : 0 ≤ k) (h : jdf M e f k) (hn : ¬ zV M 29 0 k.toNat % 4194304 = e) : jdf M e f (k + 1) := by
  rcases h with ⟨h1, h2⟩ | h
  · refine Or.inl ⟨h1, fun i hi => ?_⟩
    by_cases q : (i : Int) < k
    · exact h2 i q
    · rw [show i = k.toNat by omega]; exact hn
  · exact Or.inr h
theorem jdf_t {M : zMem} {e k : Int} (hk : 0 ≤ k) (hk2 : k < zV M 36 0 4) (hn : zV M 29 0 k.toNat % 4194304 = e) : jdf M e k (k + 1) := Or.inr ⟨k.toNat, by omega, by omega, hn⟩
def jdlP (M M2 : zMem) (v b s x : Int) : Prop := (∃ i : Nat, (i : Int) < zdn M ∧ zdv M i = v ∧ zdl M i = b ∧ x = zdn M ∧ M2 = zup M 13 0 i (zI s)) ∨ ((∀ i : Nat, (i : Int) < zdn M → ¬ (zdv M i = v ∧ zdl M i = b)) ∧ zdn M < 12 ∧ x = zdn M + 1 ∧ M2 = zdel M v b s)
/-- a known prefix -/
theorem i_dlB {n f : Nat} {M M1 M2 : zMem} {v b s x E Z : Int} (h : iN n M M) (hv : zvp v b) (hs : 0 ≤ s ∧ s < 4) (hf : (f : Int) < zV M 36 0 4) (hfe : zV M 29 0 f % 4194304 = 32 * v + b) (hM1 : zup (zup M 29 0 f (zI E)) 36 0 4 (zI Z) = M1) (hE : E = 32 * v + b + 4194304 * s) (hZ : Z = zV M 36 0 4) (hP : jdlP M1 M2 v b s x) : x = zV M 36 0 4 ∧ iN (n + 1) M2 M2 ∧ zV M2 36 0 4 = zV M 36 0 4 := by
  have hB := h.2.1
  obtain ⟨⟨a, b1⟩, c, d, e⟩ := id hB
  have hv1 := hv.1
  have hvb := hv1
  unfold zpfx at hvb
  have hm := (i_dpf hB hv1 (i := f) (by omega)).mp hfe
  have g36 : zV M1 36 0 4 = zV M 36 0 4 := by rw [← hM1, zV_eq (by omega), hZ]
  have gc : ∀ κ i j : Nat, κ < 26 → zV M1 κ i j = zV M κ i j := fun κ i j q => by rw [← hM1, zV_ne (by omega), zV_ne (by omega)]
  have gn : zdn M1 = zV M 9 0 4 := gc _ _ _ (by decide)
  rcases hP with ⟨i, h1, h2, h3, h4, h5⟩ | ⟨h1, -⟩
  · rw [gn] at h1 h4
    have h2 : zV M 14 i 0 = v := (gc _ _ _ (by decide)).symm.trans h2
    have h3 : zV M 14 i 1 = b := (gc _ _ _ (by decide)).symm.trans h3
    have hif : i = f := e i f h1 (by omega) (by rw [h2, hm.1]) (by rw [h3, hm.2])
    subst hif
    have k36 : zV M2 36 0 4 = zV M 36 0 4 := by rw [h5, zV_ne (by decide)]; exact g36
    have kf : ∀ κ i' j : Nat, ¬ (κ = 29 ∧ i' = 0 ∧ j = i) → ¬ (κ = 13 ∧ i' = 0 ∧ j = i) → ¬ (κ = 36 ∧ j = 4) → zV M2 κ i' j = zV M κ i' j := fun κ i' j q1 q2 q3 => by
      rw [h5, zV_upg, if_neg q2, ← hM1, zV_upg, if_neg (fun q => q3 ⟨q.1, q.2.2⟩), zV_upg, if_neg q1]
    have k29 : zV M2 29 0 i = E := by rw [h5, zV_ne (by decide), ← hM1, zV_ne (by decide), zV_eq (by omega)]
    have k13 : zV M2 13 0 i = s := by rw [h5, zV_eq (by omega)]
    have k9 := kf 9 0 4 (by omega) (by omega) (by omega)
    refine ⟨by omega, i_upB h ⟨⟨by rw [k9]; exact a, by rw [k36, k9]; exact b1⟩, fun j hj => ?_, fun j hj => ?_, fun j j' q1 q2 q3 q4 => ?_⟩ (fun κ i' j q1 q2 q3 q4 q5 => kf κ i' j (by omega) (by omega) q5), k36⟩
    · rw [kf 14 j 0 (by omega) (by omega) (by omega), kf 14 j 1 (by omega) (by omega) (by omega)]
      refine ⟨(c j hj).1, ?_⟩
      by_cases q : j = i
      · rw [q, k13]; exact hs
      · rw [kf 13 0 j (by omega) (by omega) (by omega)]; exact (c j hj).2
    · rw [k9] at hj
      rw [kf 14 j 0 (by omega) (by omega) (by omega), kf 14 j 1 (by omega) (by omega) (by omega)]
      by_cases q : j = i
      · rw [q, k29, k13, hE, h2, h3]
      · rw [kf 29 0 j (by omega) (by omega) (by omega), kf 13 0 j (by omega) (by omega) (by omega)]; exact d j hj
    · rw [k9] at q1 q2
      rw [kf 14 j 0 (by omega) (by omega) (by omega), kf 14 j' 0 (by omega) (by omega) (by omega)] at q3
      rw [kf 14 j 1 (by omega) (by omega) (by omega), kf 14 j' 1 (by omega) (by omega) (by omega)] at q4
      exact e j j' q1 q2 q3 q4
  · refine absurd ⟨?_, ?_⟩ (h1 f (by rw [gn]; omega))
    · exact (gc _ _ _ (by decide)).trans hm.1
    · exact (gc _ _ _ (by decide)).trans hm.2
/-- a new prefix -/
theorem i_dlA {n k : Nat} {M M1 M2 : zMem} {v b s x E Z : Int} (h : iN n M M) (hv : zvp v b) (hs : 0 ≤ s ∧ s < 4) (hk : zV M 36 0 4 = (k : Int)) (hk12 : k < 12) (hno : ∀ i : Nat, (i : Int) < zV M 36 0 4 → ¬ zV M 29 0 i % 4194304 = 32 * v + b) (hM1 : zup (zup M 29 0 k (zI E)) 36 0 4 (zI Z) = M1) (hE : E = 32 * v + b + 4194304 * s) (hZ : Z = zV M 36 0 4 + 1) (hP : jdlP M1 M2 v b s x) : x = zV M 36 0 4 + 1 ∧ iN (n + 1) M2 M2 ∧ zV M2 36 0 4 = zV M 36 0 4 + 1 := by
  have hB := h.2.1
  obtain ⟨⟨a, b1⟩, c, d, e⟩ := id hB
  have hv1 := hv.1
  have hvb := hv1
  unfold zpfx at hvb
  have hno2 : ∀ i : Nat, (i : Int) < zV M 9 0 4 → ¬ (zV M 14 i 0 = v ∧ zV M 14 i 1 = b) := fun i hi q => hno i (by omega) ((i_dpf hB hv1 hi).mpr q)
  have g36 : zV M1 36 0 4 = zV M 36 0 4 + 1 := by rw [← hM1, zV_eq (by omega), hZ]
  have gc : ∀ κ i j : Nat, κ < 26 → zV M1 κ i j = zV M κ i j := fun κ i j q => by rw [← hM1, zV_ne (by omega), zV_ne (by omega)]
  have gn : zdn M1 = zV M 9 0 4 := gc _ _ _ (by decide)
  rcases hP with ⟨i, h1, h2, h3, h4, h5⟩ | ⟨-, h2, h3, h5⟩
  · rw [gn] at h1
    exact absurd ⟨(gc _ _ _ (by decide)).symm.trans h2, (gc _ _ _ (by decide)).symm.trans h3⟩ (hno2 i h1)
  · rw [gn] at h3
    have hk9 : (zV M1 9 0 4).toNat = k := by rw [gc _ _ _ (by decide)]; omega
    have hz9 : zV M1 9 0 4 = (k : Int) := by rw [gc _ _ _ (by decide)]; omega
    unfold zdel at h5
    rw [hk9, hz9] at h5
    have kf : ∀ κ i' j : Nat, ¬ (κ = 29 ∧ i' = 0 ∧ j = k) → ¬ (κ = 13 ∧ i' = 0 ∧ j = k) → ¬ (κ = 36 ∧ j = 4) → ¬ (κ = 9 ∧ j = 4) → ¬ (κ = 14 ∧ i' = k) → zV M2 κ i' j = zV M κ i' j := fun κ i' j q1 q2 q3 q4 q5 => by
      rw [h5, zV_upg, if_neg (fun q => q4 ⟨q.1, q.2.2⟩), zV_upg, if_neg q2, zV_upg, if_neg (fun q => q5 ⟨q.1, q.2.1⟩), zV_upg, if_neg (fun q => q5 ⟨q.1, q.2.1⟩), ← hM1, zV_upg, if_neg (fun q => q3 ⟨q.1, q.2.2⟩), zV_upg, if_neg q1]
    have k9 : zV M2 9 0 4 = (k : Int) + 1 := by rw [h5, zV_eq (by omega)]
    have k13 : zV M2 13 0 k = s := by rw [h5, zV_ne (by decide), zV_eq (by omega)]
    have k141 : zV M2 14 k 1 = b := by rw [h5, zV_ne (by decide), zV_ne (by decide), zV_eq (by omega)]
    have k140 : zV M2 14 k 0 = v := by rw [h5, zV_ne (by decide), zV_ne (by decide), zV_nj (by decide), zV_eq (by omega)]
    have k36 : zV M2 36 0 4 = zV M 36 0 4 + 1 := by rw [h5, zV_ne (by decide), zV_ne (by decide), zV_ne (by decide), zV_ne (by decide)]; exact g36
    have k29 : zV M2 29 0 k = E := by rw [h5, zV_ne (by decide), zV_ne (by decide), zV_ne (by decide), zV_ne (by decide), ← hM1, zV_ne (by decide), zV_eq (by omega)]
    refine ⟨by omega, i_upB h ⟨⟨by omega, by omega⟩, fun j hj => ?_, fun j hj => ?_, fun j j' q1 q2 q3 q4 => ?_⟩ (fun κ i' j q1 q2 q3 q4 q5 => kf κ i' j (by omega) (by omega) q5 (by omega) (by omega)), k36⟩
    · by_cases q : j = k
      · rw [q, k140, k141, k13]; exact ⟨hv1, hs⟩
      · rw [kf 14 j 0 (by omega) (by omega) (by omega) (by omega) (by omega), kf 14 j 1 (by omega) (by omega) (by omega) (by omega) (by omega), kf 13 0 j (by omega) (by omega) (by omega) (by omega) (by omega)]
        exact c j hj
    · rw [k9] at hj
      by_cases q : j = k
      · rw [q, k140, k141, k13, k29, hE]
      · rw [kf 14 j 0 (by omega) (by omega) (by omega) (by omega) (by omega), kf 14 j 1 (by omega) (by omega) (by omega) (by omega) (by omega), kf 13 0 j (by omega) (by omega) (by omega) (by omega) (by omega), kf 29 0 j (by omega) (by omega) (by omega) (by omega) (by omega)]
        exact d j (by omega)
    · rw [k9] at q1 q2
      have f14 : ∀ i t : Nat, i ≠ k → zV M2 14 i t = zV M 14 i t := fun i t q => kf 14 i t (by omega) (by omega) (by omega) (by omega) (by omega)
      by_cases q : j = k <;> by_cases q' : j' = k
      · rw [q, q']
      · rw [q, k140, f14 _ _ q'] at q3
        rw [q, k141, f14 _ _ q'] at q4
        exact absurd ⟨q3.symm, q4.symm⟩ (hno2 j' (by omega))
      · rw [q', k140, f14 _ _ q] at q3
        rw [q', k141, f14 _ _ q] at q4
        exact absurd ⟨q3, q4⟩ (hno2 j (by omega))
      · rw [f14 _ _ q, f14 _ _ q'] at q3 q4
        exact e j j' (by omega) (by omega) q3 q4
/-- a packet by the law, then by the class, the router by an integer -/
theorem i_sndI {n : Nat} {M M1 M2 : zMem} {a idn X Y : Int} (hn : n ≤ 180) (h : iN n M M) (ha : 0 ≤ a ∧ a < 2) (hid : 0 ≤ idn ∧ idn < 65536) (h1 : jsnt M M1 a idn Y) (h2 : zsnt M1 M2 (2 * a).toNat idn X) : X = Y ∧ iN (n + 1) M2 M2 := by
  obtain ⟨r, rfl⟩ := Int.eq_ofNat_of_zero_le ha.1
  rw [show (2 * ((r : Nat) : Int)).toNat = 2 * r by omega] at h2
  exact i_snd hn h (by omega) hid h1 h2
