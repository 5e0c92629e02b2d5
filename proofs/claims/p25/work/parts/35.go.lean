/-! what a packet's choice rests on -/
theorem i_bp {un ad pr un' ad' pr' : Nat → Int} {n : Nat} (h : ∀ k, k < n → un' (ad' k).toNat = un (ad k).toNat ∧ pr' k = pr k) : zbp un' ad' pr' n = zbp un ad pr n := by
  induction n with
  | zero => rfl
  | succ n ih =>
    have e := ih fun k hk => h k (by omega)
    obtain ⟨h1, h2⟩ := h n (by omega)
    show (if un' (ad' n).toNat = 0 then min (zbp un' ad' pr' n) (pr' n) else zbp un' ad' pr' n) = (if un (ad n).toNat = 0 then min (zbp un ad pr n) (pr n) else zbp un ad pr n)
    rw [h1, h2, e]
theorem i_zls {un ad pr f un' ad' pr' f' : Nat → Int} {b : Int} {k : Nat} (h : un' (ad' k).toNat = un (ad k).toNat ∧ pr' k = pr k ∧ f' k = f k) : zls un' ad' pr' f' b k = zls un ad pr f b k := by
  unfold zls zlk
  rw [h.1, h.2.1, h.2.2]
theorem zbp_ext {un ad pr : Nat → Int} {c : Nat} : ∀ m : Nat, c ≤ m → (∀ k, c ≤ k → k < m → ¬ un (ad k).toNat = 0) → zbp un ad pr m = zbp un ad pr c := by
  intro m
  induction m with
  | zero => intro h _; rw [show c = 0 by omega]
  | succ m ih =>
    intro h hk
    by_cases e : c = m + 1
    · rw [e]
    · show (if un (ad m).toNat = 0 then min (zbp un ad pr m) (pr m) else zbp un ad pr m) = _
      rw [if_neg (hk m (by omega) (by omega))]
      exact ih (by omega) fun k h1 h2 => hk k h1 (by omega)
theorem zsm_ext0 {f : Nat → Int} {c : Nat} : ∀ m : Nat, c ≤ m → (∀ k, c ≤ k → k < m → f k = 0) → zsm f m = zsm f c := by
  intro m
  induction m with
  | zero => intro h _; rw [show c = 0 by omega]
  | succ m ih =>
    intro h hk
    by_cases e : c = m + 1
    · rw [e]
    · show zsm f m + f m = _
      rw [hk m (by omega) (by omega), ih (by omega) fun k h1 h2 => hk k h1 (by omega)]
      omega
/-- what the class's choice is -/
theorem zch_ch (un ad pr wt pk : Nat → Int) (b S W : Int) (n : Nat) : ((zch un ad pr wt pk b S W n).1 = -1 ∧ ∀ j : Nat, j < n → ¬ zlk un ad pr b j) ∨ ∃ t : Nat, t < n ∧ (zch un ad pr wt pk b S W n).1 = (t : Int) ∧ (zch un ad pr wt pk b S W n).2 = zlack wt pk S W t ∧ zlk un ad pr b t ∧ ∀ j : Nat, j < n → zlk un ad pr b j → zlack wt pk S W j ≤ zlack wt pk S W t ∧ (j < t → zlack wt pk S W j < zlack wt pk S W t) := by
  induction n with
  | zero => exact Or.inl ⟨rfl, fun j hj => by omega⟩
  | succ n ih =>
    by_cases q : zlk un ad pr b n ∧ ((zch un ad pr wt pk b S W n).1 = -1 ∨ (zch un ad pr wt pk b S W n).2 < zlack wt pk S W n)
    · have e : zch un ad pr wt pk b S W (n + 1) = ((n : Int), zlack wt pk S W n) := by
        show @ite (Int × Int) _ (Classical.propDecidable _) _ _ = _
        rw [if_pos q]
      rw [e]
      refine Or.inr ⟨n, by omega, rfl, rfl, q.1, fun j hj hl => ?_⟩
      by_cases z : j = n
      · rw [z]; exact ⟨Int.le_refl _, fun y => by omega⟩
      · rcases ih with ⟨i1, i2⟩ | ⟨t, i1, i2, i3, i4, i5⟩
        · exact absurd hl (i2 j (by omega))
        · have h1 := i5 j (by omega) hl
          have h2 := q.2.resolve_left (by omega)
          rw [i3] at h2
          exact ⟨by omega, fun _ => by omega⟩
    · have e : zch un ad pr wt pk b S W (n + 1) = zch un ad pr wt pk b S W n := by
        show @ite (Int × Int) _ (Classical.propDecidable _) _ _ = _
        rw [if_neg q]
      rw [e]
      rcases ih with ⟨i1, i2⟩ | ⟨t, i1, i2, i3, i4, i5⟩
      · refine Or.inl ⟨i1, fun j hj hl => ?_⟩
        by_cases z : j = n
        · rw [z] at hl
          exact q ⟨hl, Or.inl i1⟩
        · exact i2 j (by omega) hl
      · refine Or.inr ⟨t, by omega, i2, i3, i4, fun j hj hl => ?_⟩
        by_cases z : j = n
        · rw [z] at hl ⊢
          have h2 : ¬ zlack wt pk S W t < zlack wt pk S W n := fun y => q ⟨hl, Or.inr (by rw [i3]; exact y)⟩
          exact ⟨by omega, fun y => by omega⟩
        · exact i5 j (by omega) hl
/-- an entry's locators on both sides -/
theorem i_lo {n r q s : Nat} {C D : zMem} (he : iEn n C D q s) (hw : zwe C q) (hD : ∀ a : Nat, a < 32 → zV D 35 0 r / 2 ^ a % 2 = zV C 18 (2 * r) a) : (∀ j : Nat, (j : Int) < zV C 21 q 3 → jad D (s : Int) j = zea C q j ∧ jpr D (s : Int) j = zep C q j ∧ jwt D (s : Int) j = zew C q j ∧ jpk D (s : Int) j = zek C q j ∧ jun D (r : Int) (s : Int) j = zun C (2 * r) (zea C q j).toNat ∧ 1 ≤ zV D 34 0 (4 * s + j)) ∧ ∀ j : Nat, zV C 21 q 3 ≤ j → j < 4 → jun D (r : Int) (s : Int) j = 1 ∧ zV D 34 0 (4 * s + j) = 0 := by
  obtain ⟨-, -, -, -, -, a6, a7, -⟩ := he
  obtain ⟨⟨w1, w2⟩, w3⟩ := hw
  have ix : ∀ j : Nat, (4 * (s : Int) + (j : Int)).toNat = 4 * s + j := fun j => by omega
  refine ⟨fun j hj => ?_, fun j h1 h2 => ?_⟩
  · have e := a6 j (by omega)
    rw [if_pos hj] at e
    obtain ⟨⟨b1, b2⟩, ⟨b3, b4⟩, b5⟩ := a7 j hj
    obtain ⟨b6, b7⟩ := w3 j (by omega)
    have k1 : jad D (s : Int) j = zV C 22 q j := by unfold jad; rw [ix, e]; omega
    refine ⟨k1, ?_, ?_, ?_, ?_, by rw [e]; omega⟩
    · unfold jpr; rw [ix, e]; show _ = zV C 23 q j; omega
    · unfold jwt; rw [ix, e]; show _ = zV C 24 q j; omega
    · unfold jpk; rw [ix, e]; show _ = zV C 25 q j; omega
    · unfold jun
      rw [k1, ix, if_neg (by rw [e]; omega), Int.toNat_natCast]
      exact hD _ (by omega)
  · have e := a6 j h2
    rw [if_neg (by omega)] at e
    refine ⟨?_, e⟩
    unfold jun
    rw [ix, if_pos e]
theorem i_go {n r q s : Nat} {C D D2 C' D' : zMem} {X Y : Int} (hn : n ≤ 200) (he : iEn n C D q s) (hw : zwe C q) (hnb : ∀ j : Nat, j < 4 → zV D 34 0 (4 * s + j) ≤ 2048 * (n : Int) + 2047) (hD : ∀ a : Nat, a < 32 → zV D 35 0 r / 2 ^ a % 2 = zV C 18 (2 * r) a) (h1 : zsnd C C' (2 * r) q X) (f2 : ∀ κ j : Nat, (30 ≤ κ ∧ κ ≤ 32) ∨ κ = 34 → zV D2 κ 0 j = zV D κ 0 j)
    (h2 : (zV D 31 0 s = 0 ∧ Y = -1 ∧ D' = D2) ∨ (¬ zV D 31 0 s = 0 ∧ jbp D (r : Int) (s : Int) 4 = 4 ∧ Y = -3 ∧ D' = D2) ∨ (¬ zV D 31 0 s = 0 ∧ ¬ jbp D (r : Int) (s : Int) 4 = 4 ∧ ∃ j : Nat, jch D (r : Int) (s : Int) (jbp D (r : Int) (s : Int) 4) j ∧ Y = jad D (s : Int) j ∧ D' = zup D2 34 0 (4 * (s : Int) + (j : Int)).toNat (zI (zV D 34 0 (4 * (s : Int) + (j : Int)).toNat + 2048)))) :
    X = Y ∧ iEn (n + 1) C' D' q s ∧ (∀ κ i j : Nat, ¬ (κ = 25 ∧ i = q) → C' κ i j = C κ i j) ∧ (∀ κ i j : Nat, ¬ (κ = 34 ∧ i = 0 ∧ 4 * s ≤ j ∧ j < 4 * s + 4) → D' κ i j = D2 κ i j) ∧ ∀ k : Nat, 0 ≤ zV D2 34 0 k → zV D2 34 0 k ≤ 2048 * (n : Int) + 2047 → 0 ≤ zV D' 34 0 k ∧ zV D' 34 0 k ≤ 2048 * ((n + 1 : Nat) : Int) + 2047 := by
  obtain ⟨lo1, lo2⟩ := i_lo he hw hD
  have he0 := he
  obtain ⟨a1, a2, a3, a4, a5, a6, a7, a8⟩ := he
  obtain ⟨⟨w1, w2⟩, w3⟩ := id hw
  obtain ⟨c, hc⟩ : ∃ c : Nat, zV C 21 q 3 = (c : Int) := ⟨(zV C 21 q 3).toNat, by omega⟩
  have hcn : (zV C 21 q 3).toNat = c := by omega
  have hc4 : c ≤ 4 := by omega
  have hpk : ∀ j : Nat, j < c → 0 ≤ zV C 25 q j ∧ zV C 25 q j ≤ (n : Int) := fun j hj => by
    have e := a6 j (by omega)
    rw [if_pos (by omega)] at e
    have b := a7 j (by omega)
    have b6 := w3 j (by omega)
    have b7 := hnb j (by omega)
    omega
  -- both sides look at the same
  have un4 : ∀ k, c ≤ k → k < 4 → ¬ jun D (r : Int) (s : Int) (jix k).toNat = 0 := fun k k1 k2 => by
    unfold jix
    rw [Int.toNat_natCast, (lo2 k (by omega) k2).1]
    decide
  have hu : ∀ k, k < c → jun D (r : Int) (s : Int) (jix k).toNat = zun C (2 * r) (zea C q k).toNat ∧ jpr D (s : Int) k = zep C q k := fun k hk => by
    unfold jix
    rw [Int.toNat_natCast]
    obtain ⟨-, l2, -, -, l5, -⟩ := lo1 k (by omega)
    exact ⟨l5, l2⟩
  have eb : jbp D (r : Int) (s : Int) 4 = zeb C (2 * r) q := by
    unfold jbp zeb
    rw [zbp_ext 4 hc4 un4, hcn]
    exact i_bp hu
  have el : ∀ (b : Int) (j : Nat), jlk D (r : Int) (s : Int) b j → j < 4 → j < c := fun b j hj h4 => by
    refine Classical.byContradiction fun z => un4 j (by omega) h4 ?_
    exact hj.2
  have el2 : ∀ (b : Int) (j : Nat), j < c → (jlk D (r : Int) (s : Int) b j ↔ zlk (zun C (2 * r)) (zea C q) (zep C q) b j) := fun b j hj => by
    unfold jlk zlk
    rw [(hu j hj).1, (hu j hj).2]
  have eS : ∀ b : Int, jS D (r : Int) (s : Int) b 4 = zeS C (2 * r) q b := fun b => by
    unfold jS zeS
    rw [hcn, zsm_ext0 4 hc4 (fun k k1 k2 => zls_f fun z => un4 k k1 k2 z.2)]
    exact zsm_ext fun k hk => i_zls ⟨(hu k hk).1, (hu k hk).2, (lo1 k (by omega)).2.2.2.1⟩
  have eW : ∀ b : Int, jW D (r : Int) (s : Int) b 4 = zeW C (2 * r) q b := fun b => by
    unfold jW zeW
    rw [hcn, zsm_ext0 4 hc4 (fun k k1 k2 => zls_f fun z => un4 k k1 k2 z.2)]
    exact zsm_ext fun k hk => i_zls ⟨(hu k hk).1, (hu k hk).2, (lo1 k (by omega)).2.2.1⟩
  have bS : ∀ b : Int, 0 ≤ zeS C (2 * r) q b ∧ zeS C (2 * r) q b ≤ 800 := fun b => by
    have h9 := zsm_b (f := zls (zun C (2 * r)) (zea C q) (zep C q) (zek C q) b) (B := 200) c (fun k hk => by
      have h8 := hpk k hk
      by_cases z : zlk (zun C (2 * r)) (zea C q) (zep C q) b k
      · rw [zls_t z]; show 0 ≤ zV C 25 q k ∧ zV C 25 q k ≤ 200; omega
      · rw [zls_f z]; omega)
    unfold zeS
    rw [hcn]
    omega
  have bW : ∀ b : Int, 0 ≤ zeW C (2 * r) q b ∧ zeW C (2 * r) q b ≤ 40 := fun b => by
    have h9 := zsm_b (f := zls (zun C (2 * r)) (zea C q) (zep C q) (zew C q) b) (B := 10) c (fun k hk => by
      have h8 := (a7 k (by omega)).2.1
      by_cases z : zlk (zun C (2 * r)) (zea C q) (zep C q) b k
      · rw [zls_t z]; show 0 ≤ zV C 24 q k ∧ zV C 24 q k ≤ 10; omega
      · rw [zls_f z]; omega)
    unfold zeW
    rw [hcn]
    omega
  have ela : ∀ (b : Int) (j : Nat), j < c → zlack (zew C q) (zek C q) (zeS C (2 * r) q b) (zeW C (2 * r) q b) j = jla D (r : Int) (s : Int) b j := fun b j hj => by
    have h8 := hpk j hj
    have h7 := (a7 j (by omega)).2.1
    have hS := bS b
    have hW := bW b
    unfold zlack jla
    rw [eS, eW, (lo1 j (by omega)).2.2.1, (lo1 j (by omega)).2.2.2.1]
    have m1 := j_mb (x := zew C q j) (X := 10) (y := zeS C (2 * r) q b + 1) (Y := 801) (by show 0 ≤ zV C 24 q j; omega) (by show zV C 24 q j ≤ 10; omega) (by omega) (by omega)
    have m2 := j_mb (x := zeW C (2 * r) q b) (X := 40) (y := zek C q j) (Y := 200) (by omega) (by omega) (by show 0 ≤ zV C 25 q j; omega) (by show zV C 25 q j ≤ 200; omega)
    exact zw_eq (by omega)
  have hz1 : zV C 19 q 3 = -1 → zV D 31 0 s = 0 := fun z => by rw [a2, if_pos z]
  have hz2 : zV C 19 q 3 ≠ -1 → ¬ zV D 31 0 s = 0 := fun z => by rw [a2, if_neg z]; omega
  have keep : C' = C → D' = D2 → iEn (n + 1) C' D' q s := fun e1 e2 => by
    rw [e1, e2]
    exact iEn_c (by omega) w2 he0 (fun _ _ _ _ => rfl) (fun κ k1 k2 => f2 κ s (by omega)) (fun j hj => f2 34 _ (by omega))
  have bnd : D' = D2 → ∀ k : Nat, 0 ≤ zV D2 34 0 k → zV D2 34 0 k ≤ 2048 * (n : Int) + 2047 → 0 ≤ zV D' 34 0 k ∧ zV D' 34 0 k ≤ 2048 * ((n + 1 : Nat) : Int) + 2047 := fun e k k1 k2 => by rw [e]; omega
  rw [eb] at h2
  rcases zch_ch (zun C (2 * r)) (zea C q) (zep C q) (zew C q) (zek C q) (zeb C (2 * r) q) (zeS C (2 * r) q (zeb C (2 * r) q)) (zeW C (2 * r) q (zeb C (2 * r) q)) c with ⟨g1, g2⟩ | ⟨t, g1, g2, -, g4, g5⟩
  · -- nothing to choose from
    have g1 : zech C (2 * r) q (zeb C (2 * r) q) = -1 := by unfold zech zechk; rw [hcn]; exact g1
    rcases h1 with ⟨c1, c2, c3⟩ | ⟨c1, c2, c3, c4⟩ | ⟨c1, c2, -⟩
    · rcases h2 with ⟨d1, d2, d3⟩ | ⟨d1, -⟩ | ⟨d1, -⟩
      · exact ⟨by rw [c2, d2], keep c3 d3, fun κ i j _ => by rw [c3], fun κ i j _ => by rw [d3], bnd d3⟩
      · exact absurd (hz1 c1) d1
      · exact absurd (hz1 c1) d1
    · rcases h2 with ⟨d1, -⟩ | ⟨d1, d2, d3, d4⟩ | ⟨d1, d2, j, d3, -⟩
      · exact absurd d1 (hz2 c1)
      · exact ⟨by rw [c3, d3], keep c4 d4, fun κ i j _ => by rw [c4], fun κ i j _ => by rw [d4], bnd d4⟩
      · exact absurd ((el2 _ j (el _ j d3.2.1 d3.1)).mp d3.2.1) (g2 j (el _ j d3.2.1 d3.1))
    · omega
  · have g9 : zech C (2 * r) q (zeb C (2 * r) q) = (t : Int) := by unfold zech zechk; rw [hcn]; exact g2
    rcases h1 with ⟨c1, c2, c3⟩ | ⟨c1, c2, c3, c4⟩ | ⟨c1, c2, c3, c4, c5⟩
    · rcases h2 with ⟨d1, d2, d3⟩ | ⟨d1, -⟩ | ⟨d1, -⟩
      · exact ⟨by rw [c2, d2], keep c3 d3, fun κ i j _ => by rw [c3], fun κ i j _ => by rw [d3], bnd d3⟩
      · exact absurd (hz1 c1) d1
      · exact absurd (hz1 c1) d1
    · omega
    · rcases h2 with ⟨d1, -⟩ | ⟨d1, d2, -⟩ | ⟨d1, d2, j, d3, d4, d5⟩
      · exact absurd d1 (hz2 c1)
      · exfalso
        have h3 := (a7 t (by omega)).1
        have h6 : zV C 23 q t = zeb C (2 * r) q := g4.1
        omega
      · -- the same one is chosen
        obtain ⟨j4, j5, j6⟩ := d3
        have jc := el _ j j5 j4
        have e : j = t := by
          have k1 := g5 j jc ((el2 _ j jc).mp j5)
          have k2 := j6 t (by omega) ((el2 _ t g1).mpr g4)
          rw [ela _ _ jc, ela _ _ g1] at k1
          rcases Nat.lt_trichotomy j t with z | z | z
          · have := k1.2 z
            omega
          · exact z
          · have := k2.2 z
            omega
        subst e
        rw [g9, Int.toNat_natCast] at c4 c5
        have ix : (4 * (s : Int) + (j : Int)).toNat = 4 * s + j := by omega
        rw [ix] at d5
        obtain ⟨l1, l2, l3, l4, l5, l6⟩ := lo1 j (by omega)
        have hp9 := hpk j jc
        have hb9 := hnb j j4
        have ek : zek C q j = zV C 25 q j := rfl
        rw [ek] at c5
        refine ⟨by rw [c4, d4, l1], ?_, fun κ i k z => by rw [c5]; exact zup_at (fun y => z ⟨y.1, y.2.1⟩), fun κ i k z => by rw [d5]; exact zup_at (fun y => z ⟨y.1, y.2.1, by omega, by omega⟩), fun k k1 k2 => ?_⟩
        · have k25 : ∀ κ i k : Nat, κ ≠ 25 → zV C' κ i k = zV C κ i k := fun κ i k z => by rw [c5, zV_ne z]
          have kd : ∀ κ k : Nat, 30 ≤ κ ∧ κ ≤ 32 → zV D' κ 0 k = zV D κ 0 k := fun κ k z => by rw [d5, zV_ne (by omega)]; exact f2 κ k (by omega)
          unfold iEn
          rw [kd 30 s (by omega), kd 31 s (by omega), kd 32 s (by omega), k25 20 q 0 (by decide), k25 20 q 1 (by decide), k25 19 q 3 (by decide), k25 19 q 4 (by decide), k25 19 q 5 (by decide), k25 19 q 6 (by decide), k25 21 q 3 (by decide)]
          refine ⟨a1, a2, a3, ⟨a4.1, a4.2.1, by have := a4.2.2; omega⟩, a5.imp (fun z => z) (fun z => ⟨z.1, z.2.1, by have := z.2.2; omega⟩), fun i hi => ?_, fun i hi => ?_, fun i i' hi hi' ee => ?_⟩
          · rw [k25 22 q i (by decide), k25 23 q i (by decide), k25 24 q i (by decide)]
            by_cases z : i = j
            · subst z
              have e6 := a6 i hi
              rw [if_pos (by omega)] at e6
              rw [d5, c5, zV_eq (by omega), zV_eq (by omega), if_pos (by omega), e6]
              omega
            · rw [d5, zV_nj (by omega), c5, zV_nj z, f2 34 _ (by omega)]
              exact a6 i hi
          · rw [k25 23 q i (by decide), k25 24 q i (by decide)]
            have e7 := a7 i hi
            refine ⟨e7.1, e7.2.1, ?_⟩
            by_cases z : i = j
            · rw [z, c5, zV_eq (by omega)]; omega
            · rw [c5, zV_nj z]; exact e7.2.2
          · rw [k25 22 q i (by decide), k25 22 q i' (by decide)] at ee
            exact a8 i i' hi hi' ee
        · by_cases z : k = 4 * s + j
          · rw [z, d5, zV_eq (by omega)]
            rw [z] at k1 k2
            omega
          · rw [d5, zV_nj z]; omega
