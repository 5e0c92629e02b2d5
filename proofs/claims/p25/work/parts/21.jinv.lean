/-! what ties the class's cells (in C) to the law's arrays (in D): m 26, t 27, l 28, d 29, p 30, q 31, e 32, u 33, n 34, a 35, g 36 -/
/-- mapping i -/
def iAm (n : Nat) (C D : zMem) (i : Nat) : Prop :=
  (zvp (zV C 4 i 0) (zV C 4 i 1) ∧ (zV C 3 i 3 = 0 ∨ zV C 3 i 3 = 1) ∧ 1 ≤ zV C 3 i 2 ∧ zV C 3 i 2 ≤ (n : Int) + 1) ∧
  ((i : Int) < zV C 1 0 1 → zV D 26 0 i = 32 * zV C 4 i 0 + zV C 4 i 1 ∧ zV D 27 0 i = if zV C 3 i 3 = 0 then zV C 3 i 2 else 0) ∧
  (¬ (i : Int) < zV C 1 0 1 → zV C 3 i 3 = 0 ∧ zV C 3 i 2 = 1 ∧ zV C 5 i 3 = 0) ∧
  (0 ≤ zV C 5 i 3 ∧ zV C 5 i 3 ≤ 4) ∧
  (∀ j : Nat, j < 4 → (0 ≤ zV C 6 i j ∧ zV C 6 i j < 32) ∧ (i < 16 → zV D 28 0 (4 * i + j) = if (j : Int) < zV C 5 i 3 then zV C 6 i j + 32 * zV C 7 i j + 128 * zV C 8 i j else 0)) ∧
  (∀ j : Nat, (j : Int) < zV C 5 i 3 → (0 ≤ zV C 7 i j ∧ zV C 7 i j ≤ 3) ∧ 1 ≤ zV C 8 i j ∧ zV C 8 i j ≤ 10) ∧
  ∀ j j' : Nat, (j : Int) < zV C 5 i 3 → (j' : Int) < zV C 5 i 3 → zV C 6 i j = zV C 6 i j' → j = j'
/-- the registry -/
def iA (n : Nat) (C D : zMem) : Prop := (0 ≤ zV C 1 0 1 ∧ zV C 1 0 1 ≤ 16) ∧ zV D 36 0 3 = zV C 1 0 1 ∧ (∀ i : Nat, i < 24 → iAm n C D i) ∧
  ∀ i i' : Nat, (i : Int) < zV C 1 0 1 → (i' : Int) < zV C 1 0 1 → zV C 3 i 3 = 0 → zV C 3 i' 3 = 0 → zV C 4 i 0 = zV C 4 i' 0 → zV C 4 i 1 = zV C 4 i' 1 → i = i'
/-- delegations -/
def iB (C D : zMem) : Prop := ((0 ≤ zV C 9 0 4 ∧ zV C 9 0 4 ≤ 12) ∧ zV D 36 0 4 = zV C 9 0 4) ∧
  (∀ i : Nat, i < 12 → zpfx (zV C 14 i 0) (zV C 14 i 1) ∧ 0 ≤ zV C 13 0 i ∧ zV C 13 0 i < 4) ∧
  (∀ i : Nat, (i : Int) < zV C 9 0 4 → zV D 29 0 i = 32 * zV C 14 i 0 + zV C 14 i 1 + 4194304 * zV C 13 0 i) ∧
  ∀ i i' : Nat, (i : Int) < zV C 9 0 4 → (i' : Int) < zV C 9 0 4 → zV C 14 i 0 = zV C 14 i' 0 → zV C 14 i 1 = zV C 14 i' 1 → i = i'
/-- servers -/
def iS (n : Nat) (C D : zMem) : Prop := (0 ≤ zV D 36 0 5 ∧ zV D 36 0 5 < 16) ∧ ∀ t : Nat, t < 4 → (zV C 10 0 t = 0 ∨ zV C 10 0 t = 1) ∧ zV D 36 0 5 / 2 ^ t % 2 = zV C 10 0 t ∧ zV D 36 0 (8 + t) = zV C 11 0 t ∧ 0 ≤ zV C 11 0 t ∧ zV C 11 0 t ≤ (n : Int)
/-- times, solicitations -/
def iC (n : Nat) (C D : zMem) : Prop := (zV D 36 0 0 = zV C 0 0 3 ∧ zV D 36 0 1 = zV C 0 0 4 ∧ zV D 36 0 2 = zV C 0 0 5) ∧ zV D 36 0 6 = zV C 0 0 6 ∧ (0 ≤ zV C 0 0 3 ∧ zV C 0 0 3 ≤ 90 * (n : Int)) ∧ ((1 ≤ zV C 0 0 4 ∧ zV C 0 0 4 ≤ 1000) ∧ 1 ≤ zV C 0 0 5 ∧ zV C 0 0 5 ≤ 1000) ∧ 0 ≤ zV C 0 0 6 ∧ zV C 0 0 6 ≤ 24 * (n : Int)
/-- reachability; the law's routers 0 and 1 are the class's 0 and 2 -/
def iD (C D : zMem) : Prop := (∀ r a : Nat, zV C 18 r a = 0 ∨ zV C 18 r a = 1) ∧ ∀ r : Nat, r < 2 → (0 ≤ zV D 35 0 r ∧ zV D 35 0 r < 64) ∧ ∀ a : Nat, a < 32 → zV D 35 0 r / 2 ^ a % 2 = zV C 18 (2 * r) a
/-- an entry: q the class's, s the law's -/
def iEn (n : Nat) (C D : zMem) (q s : Nat) : Prop :=
  zV D 30 0 s = 32 * zV C 20 q 0 + zV C 20 q 1 ∧ (zV D 31 0 s = if zV C 19 q 3 = -1 then 0 else 32 * zV C 19 q 4 + zV C 19 q 3 + 1) ∧ (zV D 32 0 s = if zV C 19 q 6 = 0 then zV C 19 q 5 else -1) ∧
  ((zV C 19 q 6 = 0 ∨ zV C 19 q 6 = 1) ∧ 1 ≤ zV C 19 q 5 ∧ zV C 19 q 5 ≤ 90 * (n : Int) + 1000) ∧
  ((zV C 19 q 3 = -1 ∧ zV C 21 q 3 = 0) ∨ ((0 ≤ zV C 19 q 3 ∧ zV C 19 q 3 < 16) ∧ 1 ≤ zV C 19 q 4 ∧ zV C 19 q 4 ≤ (n : Int) + 1)) ∧
  (∀ j : Nat, j < 4 → zV D 34 0 (4 * s + j) = if (j : Int) < zV C 21 q 3 then zV C 22 q j + 32 * zV C 23 q j + 128 * zV C 24 q j + 2048 * zV C 25 q j else 0) ∧
  (∀ j : Nat, (j : Int) < zV C 21 q 3 → (0 ≤ zV C 23 q j ∧ zV C 23 q j ≤ 3) ∧ (1 ≤ zV C 24 q j ∧ zV C 24 q j ≤ 10) ∧ 0 ≤ zV C 25 q j) ∧
  ∀ j j' : Nat, (j : Int) < zV C 21 q 3 → (j' : Int) < zV C 21 q 3 → zV C 22 q j = zV C 22 q j' → j = j'
/-- the law's router r: pairs of a number on the one side and a place on the other, in the order of their use -/
def iY (n : Nat) (C D : zMem) (r : Nat) (Z : List (Nat × Nat)) : Prop :=
  Z.Pairwise (fun p p' => zV D 33 0 p.2 < zV D 33 0 p'.2 ∧ ¬ zmeet (zV C 20 p.1 0) (zV C 20 p.1 1) (zV C 20 p'.1 0) (zV C 20 p'.1 1)) ∧
  (∀ p ∈ Z, (8 * r ≤ p.2 ∧ p.2 < 8 * r + 8) ∧ 0 ≤ zV D 30 0 p.2 ∧ zV D 33 0 p.2 ≤ zV D 36 0 7 ∧ iEn n C D p.1 p.2) ∧
  ∀ s : Nat, 8 * r ≤ s → s < 8 * r + 8 → 0 ≤ zV D 30 0 s → ∃ p ∈ Z, p.2 = s
/-- the law's own arrays -/
def iW (n : Nat) (D : zMem) : Prop := (∀ s : Nat, s < 16 → -1 ≤ zV D 30 0 s ∧ (0 ≤ zV D 30 0 s → zpfx (zV D 30 0 s / 32) (zV D 30 0 s % 32))) ∧ ∀ k : Nat, k < 64 → 0 ≤ zV D 34 0 k ∧ zV D 34 0 k ≤ 2048 * (n : Int) + 2047
/-- caches -/
def iE (n : Nat) (C D : zMem) : Prop := (0 ≤ zV D 36 0 7 ∧ zV D 36 0 7 ≤ (n : Int)) ∧ ((∀ r, r < 3 → zwr C r) ∧ zwp C ∧ ∀ q, q < 24 → zwe C q) ∧ zV C 16 1 2 = 0 ∧ iW n D ∧ ∀ r, r < 2 → ∃ Z : List (Nat × Nat), Z.map (fun p => (p.1 : Int)) = zel C (2 * r) ∧ iY n C D r Z
/-- all of it -/
def iN (n : Nat) (C D : zMem) : Prop := iA n C D ∧ iB C D ∧ iS n C D ∧ iC n C D ∧ iD C D ∧ iE n C D
theorem iN_WC {n : Nat} {C D : zMem} (h : iN n C D) (hn : n ≤ 200) : zWC C := by
  obtain ⟨⟨a1, a2, a3, a4⟩, ⟨⟨b1, b2⟩, b3, b4, b5⟩, ⟨s1, s2⟩, ⟨c1, c2, c3, c4, c5⟩, ⟨d1, d2⟩, ⟨e1, ⟨e2, e3, e4⟩, e5, e6, e7⟩⟩ := h
  exact ⟨⟨by omega, fun i hi => (a3 i hi).1.1.1⟩, ⟨b1, fun i hi => (b3 i hi).1, fun i hi => (b3 i hi).2⟩, e3, e2, fun i hi => ⟨(a3 i hi).2.2.2.1, fun j hj => ((a3 i hi).2.2.2.2.1 j hj).1⟩, e4, by omega, fun i hi => (a3 i hi).1.2.1, fun t ht => (s2 t ht).1, d1⟩
/-! cells that stay -/
/-- the class's cells are the same -/
def i_rf (A B : zMem) : Prop := ∀ κ i j : Nat, κ < 26 → B κ i j = A κ i j
/-- the law's cells are the same -/
def i_cf (A B : zMem) : Prop := ∀ κ i j : Nat, 26 ≤ κ → B κ i j = A κ i j
theorem i_rf.r (A : zMem) : i_rf A A := fun _ _ _ _ => rfl
theorem i_cf.r (A : zMem) : i_cf A A := fun _ _ _ _ => rfl
theorem i_rf.t {A B C : zMem} (h : i_rf A B) (h2 : i_rf B C) : i_rf A C := fun κ i j q => (h2 κ i j q).trans (h κ i j q)
theorem i_cf.t {A B C : zMem} (h : i_cf A B) (h2 : i_cf B C) : i_cf A C := fun κ i j q => (h2 κ i j q).trans (h κ i j q)
theorem i_rf.u {A B : zMem} {κ i j : Nat} {v : Int32} (h : i_rf A B) (hk : 26 ≤ κ) : i_rf A (zup B κ i j v) := fun κ' i' j' q => (zup_at (by omega)).trans (h κ' i' j' q)
theorem i_cf.u {A B : zMem} {κ i j : Nat} {v : Int32} (h : i_cf A B) (hk : κ < 26) : i_cf A (zup B κ i j v) := fun κ' i' j' q => (zup_at (by omega)).trans (h κ' i' j' q)
theorem i_WC {A B : zMem} (h : zWC A) (hf : i_rf A B) : zWC B := by
  obtain ⟨a1, a2, a3, a4, a5, a6, a7, a8, a9, a10⟩ := h
  have e : ∀ κ i' j' : Nat, κ < 26 → zV B κ i' j' = zV A κ i' j' := fun κ i' j' q => zV_of (hf κ i' j' q)
  refine ⟨⟨by rw [e _ _ _ (by decide)]; exact a1.1, fun i hi => by rw [e _ _ _ (by decide), e _ _ _ (by decide)]; exact a1.2 i hi⟩, ⟨by rw [e _ _ _ (by decide)]; exact a2.1, fun i hi => by rw [e _ _ _ (by decide), e _ _ _ (by decide)]; exact a2.2.1 i hi, fun i hi => by rw [e _ _ _ (by decide)]; exact a2.2.2 i hi⟩, fun q hq => by rw [e _ _ _ (by decide), e _ _ _ (by decide)]; exact a3 q hq,
    fun r hr => zwr_congr (e _ _ _ (by decide)) (fun j => e _ _ _ (by decide)) (a4 r hr), fun i hi => ⟨by rw [e _ _ _ (by decide)]; exact (a5 i hi).1, fun j hj => by rw [e _ _ _ (by decide)]; exact (a5 i hi).2 j hj⟩, fun q hq => ⟨by rw [e _ _ _ (by decide)]; exact (a6 q hq).1, fun j hj => by rw [e _ _ _ (by decide)]; exact (a6 q hq).2 j hj⟩,
    by rw [e _ _ _ (by decide)]; exact a7, fun i hi => by rw [e _ _ _ (by decide)]; exact a8 i hi, fun a ha => by rw [e _ _ _ (by decide)]; exact a9 a ha, fun r a => by rw [e _ _ _ (by decide)]; exact a10 r a⟩
/-! the law's registry, read -/
theorem iA_m {n : Nat} {C D : zMem} (h : iA n C D) {i : Nat} (hi : (i : Int) < zV C 1 0 1) : zvp (zmv C i) (zml C i) ∧ zV D 26 0 i = 32 * zmv C i + zml C i ∧ (0 < zV D 27 0 i ↔ zmg C i = 0) ∧ (zV D 27 0 i = 0 ↔ ¬ zmg C i = 0) ∧ 0 ≤ zV D 27 0 i := by
  have h1 := h.1
  obtain ⟨⟨a1, a2, a3, a4⟩, b, -⟩ := h.2.2.1 i (by omega)
  obtain ⟨b1, b2⟩ := b hi
  have e : zmg C i = zV C 3 i 3 := rfl
  refine ⟨a1, b1, ?_, ?_, ?_⟩ <;> rw [b2] <;> (try rw [e]) <;> by_cases q : zV C 3 i 3 = 0
  · rw [if_pos q]; omega
  · rw [if_neg q]; omega
  · rw [if_pos q]; omega
  · rw [if_neg q]; omega
  · rw [if_pos q]; omega
  · rw [if_neg q]; omega
/-- one that the answer's prefix must not hide -/
def jel (M : zMem) (a : Int) (i : Nat) : Prop := (i : Int) < zmn M ∧ zmg M i = 0 ∧ (i : Int) ≠ a ∧ (a = -1 ∨ zml M a.toNat ≤ zml M i ∧ zmeet (zmv M a.toNat) (zml M a.toNat) (zmv M i) 16)
/-- how many bits it takes, by the first k -/
def jbk (M : zMem) (id a k b : Int) : Prop := (max (zown (zml M) a) 0 ≤ b ∧ b ≤ 17) ∧ (∀ i : Nat, (i : Int) < k → jel M a i → ∀ x : Int, jalk (zmv M i) id x → x + 1 ≤ b) ∧ (b = max (zown (zml M) a) 0 ∨ ∃ i : Nat, (i : Int) < k ∧ jel M a i ∧ jalk (zmv M i) id (b - 1))
theorem jalk_u {a b x y : Int} (h : jalk a b x) (h2 : jalk a b y) : x = y := by
  have e1 := (h.2 x h.1.1 h.1.2).mpr (Int.le_refl _)
  have e2 := (h2.2 y h2.1.1 h2.1.2).mpr (Int.le_refl _)
  have e3 := (h2.2 x h.1.1 h.1.2).mp e1
  have e4 := (h.2 y h2.1.1 h2.1.2).mp e2
  omega
theorem jbk_0 {M : zMem} {id a : Int} (h : zown (zml M) a ≤ 16) : jbk M id a 0 (max (zown (zml M) a) 0) := ⟨⟨Int.le_refl _, by omega⟩, fun i hi => by omega, Or.inl rfl⟩
theorem jbk_f {M : zMem} {id a k b : Int} (hk : 0 ≤ k) (h : jbk M id a k b) (hn : ¬ jel M a k.toNat) : jbk M id a (k + 1) b := by
  refine ⟨h.1, fun i hi he => ?_, h.2.2.elim Or.inl (fun ⟨i, i1, i2⟩ => Or.inr ⟨i, by omega, i2⟩)⟩
  by_cases q : (i : Int) < k
  · exact h.2.1 i q he
  · rw [show i = k.toNat by omega] at he
    exact absurd he hn
theorem jbk_t {M : zMem} {id a k b x : Int} (hk : 0 ≤ k) (h : jbk M id a k b) (he : jel M a k.toNat) (hx : jalk (zmv M k.toNat) id x) : jbk M id a (k + 1) (if b < x + 1 then x + 1 else b) := by
  have hx1 := hx.1
  have h1 := h.1
  by_cases q : b < x + 1
  · rw [if_pos q]
    refine ⟨by omega, fun i hi he2 y hy => ?_, Or.inr ⟨k.toNat, by omega, he, by rw [show x + 1 - 1 = x by omega]; exact hx⟩⟩
    by_cases z : (i : Int) < k
    · have := h.2.1 i z he2 y hy
      omega
    · rw [show i = k.toNat by omega] at hy
      have := jalk_u hx hy
      omega
  · rw [if_neg q]
    refine ⟨h1, fun i hi he2 y hy => ?_, h.2.2.elim Or.inl (fun ⟨i, i1, i2⟩ => Or.inr ⟨i, by omega, i2⟩)⟩
    by_cases z : (i : Int) < k
    · exact h.2.1 i z he2 y hy
    · rw [show i = k.toNat by omega] at hy
      have := jalk_u hx hy
      omega
/-- how many bits two numbers have alike, as there always is one -/
theorem jalk_ex {a b : Int} (ha : 0 ≤ a ∧ a < 65536) (hb : 0 ≤ b ∧ b < 65536) : ∃ x, jalk a b x := by
  have key : ∀ t : Nat, t ≤ 16 → (∀ k : Int, (t : Int) < k → k ≤ 16 → ¬ zfs a k = zfs b k) → ∃ x, jalk a b x := by
    intro t
    induction t with
    | zero =>
      intro _ h
      refine ⟨0, j_alk0 ha hb (by decide) ?_ h⟩
      refine Classical.byContradiction fun z => ?_
      have := j_xs0 ha hb (n := 0) (by decide) (by omega)
      omega
    | succ t ih =>
      intro ht h
      have hr := j_xsrg (n := ((t + 1 : Nat) : Int)) ha hb
      by_cases q : zfs a ((t + 1 : Nat) : Int) = zfs b ((t + 1 : Nat) : Int)
      · exact ⟨_, j_alk0 ha hb (by omega) (by rw [(zxs_0 ha.1 hb.1 (by omega) (by omega)).mpr q]; decide) h⟩
      · refine ih (by omega) fun k h1 h2 => ?_
        by_cases z : k = ((t + 1 : Nat) : Int)
        · rw [z]; exact q
        · exact h k (by omega) h2
  exact key 16 (by omega) fun k h1 h2 => by omega
theorem jbits {n : Nat} {M : zMem} {id a b : Int} (hA : iA n M M) (hid : 0 ≤ id ∧ id < 65536) (hm : zfnd (zmv M) (zml M) (zmg M) (zmn M) id a) (h : jbk M id a (zmn M) b) : znar (zmv M) (zml M) (zmg M) (zmn M) id (zown (zml M) a) b := by
  obtain ⟨h1, h2, h3⟩ := h
  have hr := zfnd_rg hm
  have vp : ∀ i : Nat, (i : Int) < zmn M → zvp (zmv M i) (zml M i) := fun i hi => (iA_m hA hi).1
  -- the answer's own mapping
  have ow : (a = -1 ∧ zown (zml M) a = -1) ∨ ∃ k : Nat, a = (k : Int) ∧ zown (zml M) a = zml M k ∧ (k : Int) < zmn M ∧ zmg M k = 0 ∧ zfs (zmv M k) (zml M k) = zfs id (zml M k) := by
    rcases hm with ⟨q, -⟩ | ⟨k, hk, hc, -⟩
    · left; unfold zown; rw [if_pos q]; exact ⟨q, rfl⟩
    · right
      refine ⟨k, hk, ?_, hc.1, hc.2.1, ?_⟩
      · unfold zown; rw [if_neg (by omega), hk]; rfl
      · have h9 := hc.2.2
        have h8 := (vp k hc.1).1
        unfold zpfx at h8
        unfold zmeet at h9
        rw [show min (zml M k) 16 = zml M k by omega] at h9
        exact h9
  -- one that is not to be hidden is longer than the answer's own and doesn't cover
  have el : ∀ i : Nat, jel M a i → zown (zml M) a < zml M i ∧ ∀ x, jalk (zmv M i) id x → x < zml M i := fun i he => by
    obtain ⟨e1, e2, e3, e4⟩ := he
    obtain ⟨vi, wi⟩ := vp i e1
    have vi9 := vi
    unfold zpfx at vi9
    have lo : zown (zml M) a < zml M i := by
      rcases ow with ⟨q1, q2⟩ | ⟨k, q1, q2, q3, q4, q5⟩
      · omega
      · have e5 := e4.resolve_left (by omega)
        rw [q1] at e5
        simp only [Int.toNat_natCast] at e5
        obtain ⟨e6, e7⟩ := e5
        obtain ⟨vk, wk⟩ := vp k q3
        have vk9 := vk
        unfold zpfx at vk9
        unfold zmeet at e7
        rw [show min (zml M k) 16 = zml M k by omega] at e7
        refine Classical.byContradiction fun z => e3 ?_
        have e8 : zml M i = zml M k := by omega
        have e9 : zmv M i = zmv M k := by
          rw [← wi, ← wk, e8]
          unfold zfb
          rw [e7]
        rw [q1, hA.2.2.2 i k e1 q3 e2 q4 e9 e8]
    refine ⟨lo, fun x hx => Classical.byContradiction fun z => ?_⟩
    have hcov : zcov (zmv M) (zml M) (zmg M) (zmn M) id i := ⟨e1, e2, (j_cov vi hx).mpr (by omega)⟩
    rcases hm with ⟨-, q⟩ | ⟨k, hk, hc, hmax⟩
    · exact q i hcov
    · have := (hmax i hcov).1
      unfold zown at lo
      rw [if_neg (by omega), hk] at lo
      simp only [Int.toNat_natCast] at lo
      omega
  -- one that would be hidden is one of these, or the number is large
  have hd : ∀ (i : Nat) (L : Int), max (zown (zml M) a) 0 ≤ L → L ≤ 16 → (i : Int) < zmn M → zmg M i = 0 → zown (zml M) a < zml M i → zmeet (zmv M i) (zml M i) id L → jel M a i := fun i L l1 l2 i1 i2 i3 i4 => by
    refine ⟨i1, i2, fun z => ?_, ?_⟩
    · rcases ow with ⟨q1, q2⟩ | ⟨k, q1, q2, q3, q4, q5⟩
      · omega
      · have : i = k := by omega
        rw [this, q2] at i3
        omega
    · rcases ow with ⟨q1, q2⟩ | ⟨k, q1, q2, q3, q4, q5⟩
      · exact Or.inl q1
      · right
        obtain ⟨vi, -⟩ := vp i i1
        obtain ⟨vk, -⟩ := vp k q3
        unfold zpfx at vi vk
        rw [q1]
        simp only [Int.toNat_natCast]
        refine ⟨by omega, ?_⟩
        unfold zmeet at i4 ⊢
        rw [show min (zml M k) 16 = zml M k by omega]
        have h5 := i_fs (k := zml M k) vi.1 hid.1 vk.2.2.1 (by omega) (by omega) i4
        rw [q5, h5]
  have b16 : b ≤ 16 := by
    rcases h3 with q | ⟨i, i1, i2, i3⟩
    · rcases ow with ⟨q1, q2⟩ | ⟨k, q1, q2, q3, q4, q5⟩
      · omega
      · have := (vp k q3).1
        unfold zpfx at this
        omega
    · have := (el i i2).2 _ i3
      have h8 := (vp i i2.1).1
      unfold zpfx at h8
      omega
  refine ⟨h1.1, b16, fun L l1 l2 => ?_, fun l2 => ?_⟩
  · rcases h3 with q | ⟨i, i1, i2, i3⟩
    · omega
    · have h7 := el i i2
      have h8 := (vp i i2.1).1
      unfold zpfx at h8
      refine ⟨i, i2.1, i2.2.1, h7.1, ?_⟩
      unfold zmeet
      exact (i3.2 _ (by omega) (by omega)).mpr (by omega)
  · rintro ⟨i, i1, i2, i3, i4⟩
    have he := hd i b h1.1 b16 i1 i2 i3 i4
    have h7 := el i he
    have h8 := (vp i i1).1
    have h9 := h8
    unfold zpfx at h9
    obtain ⟨x, hx⟩ := jalk_ex ⟨h9.1, h9.2.1⟩ hid
    have h10 := h7.2 x hx
    have h11 := h2 i i1 he x hx
    clear h3 ow
    unfold zmeet at i4
    obtain ⟨mn, hmn⟩ : ∃ mn : Int, mn = min (zml M i) b := ⟨_, rfl⟩
    rw [← hmn] at i4
    have h12 := (hx.2 mn (by omega) (by omega)).mp i4
    omega
