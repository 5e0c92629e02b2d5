/-! sending, on both sides -/
theorem i_fitk {C D : zMem} {q s : Nat} {id : Int} (he : iEn C D q s) (ht : zV D 26 0 1 = zV C 0 0 3) (h9 : zV D 49 0 s ≠ 0) : zmft D id s ↔ zfit C id (zV C 0 0 3) q := by
  unfold zmft zfit
  rw [he.1.1, he.1.2, he.2.2.2.1, he.2.2.2.2.1, ht]
  exact ⟨fun h => h.2, fun h => ⟨h9, h⟩⟩
theorem i_fitu {C D : zMem} {r : Nat} {Z : List (Nat × Nat)} (h : iY C D r Z) (hp : ∀ p ∈ Z, zpfx (zV C 20 p.1 0) (zV C 20 p.1 1)) {id : Int} (hid : 0 ≤ id) {i j : Nat} {p p' : Nat × Nat} (hi : Z[i]? = some p) (hj : Z[j]? = some p') (h1 : zmeet (zV C 20 p.1 0) (zV C 20 p.1 1) id 16) (h2 : zmeet (zV C 20 p'.1 0) (zV C 20 p'.1 1) id 16) : i = j := by
  have hm := hp p (List.mem_of_getElem? hi)
  have hm' := hp p' (List.mem_of_getElem? hj)
  rcases Nat.lt_trichotomy i j with q | q | q
  · exact absurd (i_mt hm hm' hid h1 h2) (i_pw h.1 hi hj q).2
  · exact q
  · exact absurd (i_mt hm' hm hid h2 h1) (i_pw h.1 hj hi q).2
theorem i_mer (f : Nat × Nat → Int) : ∀ (Z : List (Nat × Nat)) (j : Nat), (Z.map f).eraseIdx j = (Z.eraseIdx j).map f := by
  intro Z
  induction Z with
  | nil => intro j; simp
  | cons q Z ih =>
    intro j
    cases j with
    | zero => simp
    | succ j =>
      show f q :: (Z.map f).eraseIdx j = f q :: (Z.eraseIdx j).map f
      rw [ih]
theorem i_fin1 {n : Nat} {C D C' D' : zMem} {r : Nat} (hE : iE n C D) (hu : zV D' 26 0 21 = zV D 26 0 21 + 1) (hwr : zwr C' r) (hw1 : ∀ κ i j : Nat, κ = 16 ∨ κ = 17 → i ≠ r → zV C' κ i j = zV C κ i j) (hwp : zwp C') (hwe : ∀ q, q < 24 → zwe C' q) (hW : iW D') (hZ : ∃ Z : List (Nat × Nat), Z.map (fun p => (p.1 : Int)) = zel C' r ∧ iY C' D' r Z)
    (hc : ∀ κ i j : Nat, 19 ≤ κ → κ ≤ 25 → ¬ (8 * r ≤ i ∧ i < 8 * r + 8) → zV C' κ i j = zV C κ i j) (hd : ∀ κ s : Nat, 49 ≤ κ → κ ≤ 58 → ¬ (8 * r ≤ s ∧ s < 8 * r + 8) → zV D' κ 0 s = zV D κ 0 s) (hd2 : ∀ κ s j : Nat, ¬ (8 * r ≤ s ∧ s < 8 * r + 8) → j < 4 → 59 ≤ κ → κ ≤ 62 → zV D' κ 0 (4 * s + j) = zV D κ 0 (4 * s + j)) : iE (n + 1) C' D' := by
  obtain ⟨⟨u0, u1⟩, ⟨e1, e2, e3⟩, e4, e5⟩ := hE
  refine ⟨by rw [hu]; omega, ⟨fun r' hr' => ?_, hwp, hwe⟩, hW, fun r' hr' => ?_⟩
  · by_cases z : r' = r
    · rw [z]; exact hwr
    · exact zwr_congr (hw1 _ _ _ (by omega) z) (fun j => hw1 _ _ _ (by omega) z) (e1 r' hr')
  · by_cases z : r' = r
    · rw [z]; exact hZ
    · obtain ⟨Z, z1, z2⟩ := e5 r' hr'
      have hb : ∀ p ∈ Z, 8 * r' ≤ p.1 ∧ p.1 < 8 * r' + 8 := fun p hp => i_el3 (e1 r' hr') z1 hp
      refine ⟨Z, ?_, iY_c (fun p hp => ?_) z2 (fun p hp κ j k1 k2 => hc κ p.1 j k1 k2 ?_) (by rw [hu]; omega) (fun κ s s1 s2 k1 k2 => hd κ s k1 k2 (by omega)) (fun κ s j s1 s2 hj k1 k2 => hd2 κ s j (by omega) hj k1 k2)⟩
      · rw [z1]
        exact (zel_c (hw1 _ _ _ (by omega) z) (fun j => hw1 _ _ _ (by omega) z)).symm
      · have := hb p hp
        exact (e3 p.1 (by omega)).1.2
      · have := hb p hp
        omega
theorem i_hit {n : Nat} {C D C' D' M1 : zMem} {r j : Nat} {X Y : Int} {Z : List (Nat × Nat)} {p : Nat × Nat} (hn : n < 512) (h : iN n C D) (hr : r < 3) (z1 : Z.map (fun p => (p.1 : Int)) = zel C r) (z2 : iY C D r Z) (hp : Z[j]? = some p) (h1 : zmte C M1 r (j : Int)) (h2 : zsnd M1 C' r p.1 X) (h3 : zmfin D D' (r : Int) (p.2 : Int) Y) : X = Y ∧ iN (n + 1) C' D' := by
  obtain ⟨hA, hB, hC, hD, hE⟩ := h
  obtain ⟨⟨u0, u1⟩, ⟨e1, e2, e3⟩, e4, e5⟩ := id hE
  obtain ⟨w, g, f⟩ := h1
  obtain ⟨M2, hM2, hfin⟩ := h3
  simp only [Int.toNat_natCast] at hM2 hfin g
  have hpm := List.mem_of_getElem? hp
  obtain ⟨b, b2, b3, b4⟩ := z2.2.1 p hpm
  have hq := i_el3 (e1 r hr) z1 hpm
  have h4 : ∀ p ∈ Z, zV C 21 p.1 3 ≤ 4 := fun p' hp' => by
    have := i_el3 (e1 r hr) z1 hp'
    exact (e3 p'.1 (by omega)).1.2
  have fM : ∀ κ i j : Nat, ¬ (κ = 17 ∧ i = r) → zV M1 κ i j = zV C κ i j := fun κ i j q => zV_of (f κ i j q)
  have gM : ∀ κ s : Nat, ¬ (κ = 26 ∧ s = 21) → ¬ (κ = 50 ∧ s = p.2) → zV M2 κ 0 s = zV D κ 0 s := fun κ s q1 q2 => by
    rw [hM2, zV_upg, if_neg (fun z => q2 ⟨z.1, z.2.2⟩), zV_upg, if_neg (fun z => q1 ⟨z.1, z.2.2⟩)]
  have gu : zV M2 26 0 21 = zV D 26 0 21 + 1 := by rw [hM2, zV_ne (by decide), zV_eq (by omega)]
  have g50 : zV M2 50 0 p.2 = zV D 26 0 21 + 1 := by rw [hM2, zV_eq (by omega)]
  have he2 : iEn M1 M2 p.1 p.2 := iEn_c (h4 p hpm) b4 (fun κ j _ _ => fM κ p.1 j (by omega)) (fun κ k1 k2 => gM κ _ (by omega) (by omega)) (fun κ j hj k1 k2 => gM κ _ (by omega) (by omega))
  obtain ⟨hXY, he3, fC, fD⟩ := i_go he2 (zwe_congr (e3 p.1 (by omega)) (fM _ _ _ (by omega)) (fun j => fM _ _ _ (by omega))) (fun a ha => by rw [gM _ _ (by omega) (by omega), fM _ _ _ (by omega)]; exact hD.2 r a hr ha) h2 hfin
  have tC : ∀ κ i j : Nat, ¬ (κ = 17 ∧ i = r) → ¬ (κ = 25 ∧ i = p.1) → zV C' κ i j = zV C κ i j := fun κ i j q1 q2 => (zV_of (fC κ i j q2)).trans (fM κ i j q1)
  have tD : ∀ κ s : Nat, ¬ (κ = 26 ∧ s = 21) → ¬ (κ = 50 ∧ s = p.2) → ¬ (κ = 62 ∧ 4 * p.2 ≤ s ∧ s < 4 * p.2 + 4) → zV D' κ 0 s = zV D κ 0 s := fun κ s q1 q2 q3 => (zV_of (fD κ 0 s (fun z => q3 ⟨z.1, z.2.2⟩))).trans (gM κ s q1 q2)
  have tu : zV D' 26 0 21 = zV D 26 0 21 + 1 := (zV_of (fD 26 0 21 (by omega))).trans gu
  have t50 : zV D' 50 0 p.2 = zV D 26 0 21 + 1 := (zV_of (fD 50 0 p.2 (by omega))).trans g50
  obtain ⟨hdel, hne⟩ := i_del z2 h4 hp
  have hidx : ∀ p' ∈ Z.eraseIdx j, ∃ i, Z[i]? = some p' ∧ i ≠ j := fun p' hp' => by
    obtain ⟨i, hi⟩ := List.getElem?_of_mem (List.mem_of_mem_eraseIdx hp')
    refine ⟨i, hi, fun e => hne p' hp' ?_⟩
    rw [e, hp] at hi
    rw [Option.some.inj hi]
  have hput := i_put (C' := C') (D' := D') (q := p.1) (x := p.2) hdel (fun p' hp' => h4 p' (List.mem_of_mem_eraseIdx hp')) b (zV_eq (by decide))
    (fun p' hp' κ jj k1 k2 => tC κ p'.1 jj (by omega) (fun z => by
      obtain ⟨i, hi, hij⟩ := hidx p' hp'
      exact hij (i_el4 (e1 r hr) z1 hi hp z.2)))
    (fun κ s s1 s2 s3 k1 k2 => by rw [zV_nj s3]; exact tD κ s (by omega) (by omega) (by omega))
    (fun κ s jj s1 s2 s3 hj k1 k2 => by rw [zV_ne (by omega)]; exact tD κ _ (by omega) (by omega) (by omega))
    (by rw [tD _ _ (by omega) (by omega) (by omega)]; exact b2) (by rw [t50, tu]) (by rw [zV_ne (by decide), tu]; omega) he3
    (fun p' hp' => by
      obtain ⟨i, hi, hij⟩ := hidx p' hp'
      rw [tC 20 p.1 0 (by omega) (by omega), tC 20 p.1 1 (by omega) (by omega)]
      rcases Nat.lt_or_ge i j with q | q
      · exact (i_pw z2.1 hi hp q).2
      · exact fun z => (i_pw z2.1 hp hi (by omega)).2 (zmeet_comm.mp z))
  refine ⟨hXY, iA_c hA (fun κ i j q1 q2 => tC _ _ _ (by omega) (by omega)) (tD _ _ (by omega) (by omega) (by omega)) (fun κ j q1 q2 => tD _ _ (by omega) (by omega) (by omega)),
    iB_c hB (fun κ i j q1 q2 => tC _ _ _ (by omega) (by omega)) (tD _ _ (by omega) (by omega) (by omega)) (fun κ j q1 q2 => tD _ _ (by omega) (by omega) (by omega)),
    iC_c hC (by omega) (fun j => tC _ _ _ (by omega) (by omega)) (fun j q => tD _ _ (by omega) (by omega) (by omega)),
    iD_c hD (fun r a => tC _ _ _ (by omega) (by omega)) (fun j => tD _ _ (by omega) (by omega) (by omega)), ?_⟩
  have e16 : zV C' 16 r 2 = zV M1 16 r 2 := zV_of (fC _ _ _ (by omega))
  have e17 : ∀ j, zV C' 17 r j = zV M1 17 r j := fun j => zV_of (fC _ _ _ (by omega))
  refine i_fin1 (r := r) hE tu (zwr_congr e16 e17 w) (fun κ i j q1 q2 => tC _ _ _ (by omega) (by omega)) (fun q hq => ?_) (fun q hq => zwe_congr (e3 q hq) (tC _ _ _ (by omega) (by omega)) (fun j => tC _ _ _ (by omega) (by omega))) (iW_c e4 (fun κ j q => tD _ _ (by omega) (by omega) (by omega))) ⟨_, ?_, hput⟩ (fun κ i j q1 q2 q3 => tC _ _ _ (by omega) (by omega)) (fun κ s q1 q2 q3 => tD _ _ (by omega) (by omega) (by omega)) (fun κ s j q3 hj q1 q2 => tD _ _ (by omega) (by omega) (by omega))
  · rw [tC 20 q 0 (by omega) (by omega), tC 20 q 1 (by omega) (by omega)]; exact e2 q hq
  · rw [zel_c e16 e17, g, ← z1, i_mer, List.map_append, (i_el2 z1 hp).2.1]
    rfl
/-- a new entry, on both sides -/
theorem i_new {n : Nat} {C D Mb M1 Nb D1 : zMem} {q x : Nat} {id mm L : Int} (hA : iA C D) (hC : iC n C D) (hm : -1 ≤ mm ∧ mm < zV C 1 0 1) (hid : 0 ≤ id ∧ id < 65536) (hL : 0 ≤ L ∧ L ≤ 16) (f20 : zV Mb 20 q 0 = zfb id L ∧ zV Mb 20 q 1 = L) (fb : ∀ κ i j : Nat, 3 ≤ κ → κ ≤ 8 → zV Mb κ i j = zV C κ i j) (fn : ∀ κ j : Nat, 40 ≤ κ → κ ≤ 42 → zV Nb κ 0 j = zV D κ 0 j)
    (h5 : (mm = -1 ∧ M1 = zup (zup (zup (zup Mb 19 q 3 (zI (-1))) 21 q 3 (zI 0)) 19 q 5 (zI (zV C 0 0 3 + zV C 0 0 5))) 19 q 6 (zI 0)) ∨ (mm ≠ -1 ∧ 0 ≤ mm ∧ mm < 24 ∧ zkp Mb M1 q mm.toNat mm (zw (zV C 0 0 3 + zV C 0 0 4))))
    (h7 : zgcp (zgset Nb (x : Int) (zfb id L) L mm (if mm = -1 then 0 else zV D 38 0 mm.toNat) (zV D 26 0 1 + (if mm = -1 then zV D 26 0 3 else zV D 26 0 2)) (if mm = -1 then 0 else zV D 39 0 mm.toNat)) D1 (x : Int) mm (if mm = -1 then 0 else zV D 39 0 mm.toNat)) : iEn M1 D1 q x := by
  obtain ⟨⟨c1, c2, c3⟩, -⟩ := hC
  have hv := zfb_rg hid.1 hid.2 hL.1 hL.2
  have hA1 := hA.1
  obtain ⟨g1, g2⟩ := h7
  have gs : ∀ κ : Nat, 49 ≤ κ → κ ≤ 58 → zV D1 κ 0 x = zV (zgset Nb (x : Int) (zfb id L) L mm (if mm = -1 then 0 else zV D 38 0 mm.toNat) (zV D 26 0 1 + (if mm = -1 then zV D 26 0 3 else zV D 26 0 2)) (if mm = -1 then 0 else zV D 39 0 mm.toNat)) κ 0 x := fun κ q1 q2 => zV_of (g2 κ 0 x (by omega))
  have s52 : zV D1 52 0 x = zfb id L := by
    rw [gs 52 (by omega) (by omega), zgset_V]
    simp
    exact zw_eq (by omega)
  have s53 : zV D1 53 0 x = L := by
    rw [gs 53 (by omega) (by omega), zgset_V]
    simp
    exact zw_eq (by omega)
  have s54 : zV D1 54 0 x = mm := by
    rw [gs 54 (by omega) (by omega), zgset_V]
    simp
    exact zw_eq (by omega)
  have s55 : zV D1 55 0 x = zw (if mm = -1 then 0 else zV D 38 0 mm.toNat) := by
    rw [gs 55 (by omega) (by omega), zgset_V]
    simp
  have s56 : zV D1 56 0 x = zw (zV D 26 0 1 + (if mm = -1 then zV D 26 0 3 else zV D 26 0 2)) := by
    rw [gs 56 (by omega) (by omega), zgset_V]
    simp
  have s57 : zV D1 57 0 x = 0 := by
    rw [gs 57 (by omega) (by omega), zgset_V]
    simp
  have s58 : zV D1 58 0 x = zw (if mm = -1 then 0 else zV D 39 0 mm.toNat) := by
    rw [gs 58 (by omega) (by omega), zgset_V]
    simp
  rcases h5 with ⟨hmm, h5⟩ | ⟨hmm, hm0, hm1, h5⟩
  · rw [if_pos hmm] at s55 s56 s58
    have t0 : zV M1 21 q 3 = 0 := by rw [h5, zV_ne (by decide), zV_ne (by decide), zV_eq (by decide)]
    have t3 : zV M1 19 q 3 = -1 := by rw [h5, zV_nj (by decide), zV_nj (by decide), zV_ne (by decide), zV_eq (by decide)]
    refine ⟨⟨?_, ?_⟩, ?_, fun z => absurd t3 z, ?_, ?_, ?_, fun j hj => ?_, fun j j' hj => ?_⟩
    · rw [s52, h5, zV_ne (by decide), zV_ne (by decide), zV_ne (by decide), zV_ne (by decide)]; exact f20.1.symm
    · rw [s53, h5, zV_ne (by decide), zV_ne (by decide), zV_ne (by decide), zV_ne (by decide)]; exact f20.2.symm
    · rw [s54, t3]; exact hmm
    · rw [s56, h5, zV_nj (by decide), zV_upw, c1, c3]
    · rw [s57, h5, zV_eq (by decide)]
    · rw [s58, t0]; exact zw_eq (by decide)
    · rw [t0] at hj
      omega
    · rw [t0] at hj
      omega
  · rw [if_neg hmm] at s55 s56 s58 g1
    obtain ⟨k1, k2, k3, k4, k5, k6, k7, k8, k9⟩ := h5
    obtain ⟨⟨a1, a2, a3⟩, ⟨b2, b3⟩, ⟨d1, d2⟩, ⟨d3, d4⟩, x1, y1⟩ := hA.2.2.1 mm.toNat (by omega)
    have d5 := d1 (by omega)
    rw [fb 3 _ _ (by omega) (by omega)] at k2
    rw [fb 5 _ _ (by omega) (by omega)] at k5 k6 k7
    refine ⟨⟨?_, ?_⟩, ?_, fun _ => ?_, ?_, ?_, ?_, fun j hj => ?_, fun j j' hj hj' e => ?_⟩
    · rw [s52, zV_of (k9 20 q 0 (by omega))]; exact f20.1.symm
    · rw [s53, zV_of (k9 20 q 1 (by omega))]; exact f20.2.symm
    · rw [s54, k1]
    · rw [s55, k2, d5]; exact zw_eq (zV_rg _ _ _ _)
    · rw [s56, k3, c1, c2]
    · rw [s57, k4]
    · rw [s58, k5, d4]; exact zw_eq (zV_rg _ _ _ _)
    · rw [k5] at hj
      obtain ⟨m6, m7, m8⟩ := k6 j hj
      have hj4 : j < 4 := by omega
      obtain ⟨⟨p1, p2⟩, p3, p4, p5⟩ := x1 j hj4
      obtain ⟨r1, r2, r3, r4⟩ := g1 j (by rw [d4]; exact hj)
      have i1 : (4 * (x : Int) + (j : Int)).toNat = 4 * x + j := by omega
      have i2 : (4 * mm + (j : Int)).toNat = 4 * mm.toNat + j := by omega
      rw [i1, i2, zgset_o (by omega), fn _ _ (by omega) (by omega)] at r1 r2 r3
      rw [i1] at r4
      rw [r1, r2, r3, r4, m6, m7, m8, k8 j hj4, fb 6 _ _ (by omega) (by omega), fb 7 _ _ (by omega) (by omega), fb 8 _ _ (by omega) (by omega)]
      exact ⟨⟨p3, p4, p5, rfl⟩, p2⟩
    · rw [k5] at hj hj'
      rw [(k6 j hj).1, (k6 j' hj').1, fb 6 _ _ (by omega) (by omega), fb 6 _ _ (by omega) (by omega)] at e
      exact y1 j j' hj hj' e
