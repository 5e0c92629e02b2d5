/-! a packet whose answer is got, on both sides -/
theorem i_miss {n : Nat} {C D C' D' M1 M2 D1 : zMem} {r : Nat} {id pl x X Y : Int} (hn : n < 512) (h : iN n C D) (hr : r < 3) (hid : 0 ≤ id ∧ id < 65536) (h1 : zans C M1 r id pl) (h2 : zmte M1 M2 r pl) (h3 : zsnd M2 C' r (zq M1 r pl.toNat) X) (g1 : zgot D D1 (r : Int) id x) (g2 : zmfin D1 D' (r : Int) x Y) : X = Y ∧ iN (n + 1) C' D' := by
  have hWC := iN_WC h (by omega)
  have hWM := iN_WM h (by omega)
  have hwe1 := zans_we hr hWC h1
  have hWM1 := zWM_got hWM (by omega) hid g1
  obtain ⟨hA, hB, hC, hD, hE⟩ := h
  obtain ⟨⟨u0, u1⟩, ⟨e1, e2, e3⟩, e4, e5⟩ := show iE n C D from hE
  obtain ⟨mm, L, Ma, Mb, a1, a2, a3, a4, a5⟩ := h1
  obtain ⟨w, hx, hx8, hcnt, hel, hf⟩ := a3
  obtain ⟨mm', L', Na, Nb, b1, b2, b3, b4, b5, b6, b7⟩ := g1
  have em : mm = mm' := i_fu a1 (i_fnd hA b1)
  subst em
  have eL : L = L' := i_bits hA hid a1 a2 b2
  subst eL
  have hmr := zfnd_rg a1
  have hmn : zmn C = zV C 1 0 1 := rfl
  have hA1 := hA.1
  have hL : 0 ≤ L ∧ L ≤ 16 := ⟨by have := a2.1; omega, a2.2.1⟩
  have hv := zfb_rg hid.1 hid.2 hL.1 hL.2
  obtain ⟨xs, hxs⟩ : ∃ xs : Nat, x = (xs : Int) := ⟨x.toNat, by omega⟩
  subst hxs
  simp only [Int.toNat_natCast] at b4 b6
  obtain ⟨ps, hps⟩ : ∃ ps : Nat, pl = (ps : Int) := ⟨pl.toNat, by omega⟩
  subst hps
  obtain ⟨Z, z1, z2⟩ := e5 r hr
  have hzb : ∀ p ∈ Z, 8 * r ≤ p.1 ∧ p.1 < 8 * r + 8 := fun p hp => i_el3 (e1 r hr) z1 hp
  have h4 : ∀ p ∈ Z, zV C 21 p.1 3 ≤ 4 := fun p hp => by
    have := hzb p hp
    exact (e3 p.1 (by omega)).1.2
  -- the class side: which cells stay
  generalize hq : zq Ma r ps = q at *
  simp only [Int.toNat_natCast] at h3 hel a4 a5
  rw [hq] at a4 a5
  have hw17 := w.2.1 ps (by omega)
  have hq8 : 8 * r ≤ q ∧ q < 8 * r + 8 := by
    rw [← hq]
    unfold zq
    omega
  have hqi : zV Ma 17 r ps = (q : Int) := by
    rw [← hq]
    unfold zq
    omega
  have fMb : ∀ κ i j : Nat, ¬ (i = r ∧ (κ = 17 ∨ κ = 16 ∧ j = 2)) → ¬ (κ = 20 ∧ i = q) → zV Mb κ i j = zV C κ i j := fun κ i j q1 q2 => by
    rw [a4, zV_upg, if_neg (fun z => q2 ⟨z.1, z.2.1⟩), zV_upg, if_neg (fun z => q2 ⟨z.1, z.2.1⟩)]
    exact zV_of (hf κ i j q1)
  have fMba : ∀ κ i j : Nat, κ ≠ 20 → zV Mb κ i j = zV Ma κ i j := fun κ i j q1 => by rw [a4, zV_ne q1, zV_ne q1]
  have f20 : zV Mb 20 q 0 = zfb id L ∧ zV Mb 20 q 1 = L := by
    rw [a4]
    exact ⟨by rw [zV_nj (by decide), zV_eq (by omega)], zV_eq (by omega)⟩
  have fM1 : ∀ κ i j : Nat, ¬ (i = q ∧ 19 ≤ κ ∧ κ ≤ 25 ∧ κ ≠ 20) → zV M1 κ i j = zV Mb κ i j := fun κ i j q1 => by
    rcases a5 with ⟨-, a5⟩ | ⟨-, -, -, a5⟩
    · rw [a5, zV_upg, if_neg (by omega), zV_upg, if_neg (by omega), zV_upg, if_neg (by omega), zV_upg, if_neg (by omega)]
    · exact zV_of (a5.2.2.2.2.2.2.2.2 κ i j (by omega))
  obtain ⟨w2, hel2, hf2⟩ := h2
  simp only [Int.toNat_natCast] at hel2
  have e17 : ∀ j, zV M1 17 r j = zV Ma 17 r j := fun j => (fM1 _ _ _ (by omega)).trans (fMba _ _ _ (by decide))
  have e16 : zV M1 16 r 2 = zV Ma 16 r 2 := (fM1 _ _ _ (by omega)).trans (fMba _ _ _ (by decide))
  have hq1 : zq M1 r ps = q := by rw [← hq]; unfold zq; rw [e17]
  rw [hq1] at h3
  have fM2 : ∀ κ i j : Nat, ¬ (κ = 17 ∧ i = r) → zV M2 κ i j = zV M1 κ i j := fun κ i j q1 => zV_of (hf2 κ i j q1)
  -- the reference's side
  obtain ⟨N2, hN2, hfin⟩ := g2
  simp only [Int.toNat_natCast] at hN2 hfin b7
  have y9 := b7
  obtain ⟨y1, y2⟩ := y9
  have hmany : 0 ≤ (if mm = -1 then 0 else zV D 39 0 mm.toNat) ∧ (if mm = -1 then 0 else zV D 39 0 mm.toNat) ≤ 4 := by
    split
    · omega
    · exact hWM.2.2.1 _ (by omega)
  generalize hcn : (if mm = -1 then 0 else zV D 39 0 mm.toNat) = cn at *
  have gNa : ∀ κ s : Nat, κ ≠ 49 → zV Na κ 0 s = zV D κ 0 s := fun κ s q1 => zV_of (b3.2 κ 0 s (fun z => q1 z.1))
  have gNb0 : ∀ κ s : Nat, κ ≠ 49 → zV Nb κ 0 s = zV Na κ 0 s := fun κ s q1 => by
    rcases b4 with ⟨-, j, -, -, e⟩ | ⟨-, e⟩
    · rw [e, zV_ne q1]
    · rw [e]
  have gNb1 : ∀ s : Nat, ¬ (8 * r ≤ s ∧ s < 8 * r + 8) → zV Nb 49 0 s = zV D 49 0 s := fun s q1 => by
    have q2 : zV Na 49 0 s = zV D 49 0 s := (b3.1 s).2 (fun z => q1 (by omega))
    rcases b4 with ⟨-, j, hj, -, e⟩ | ⟨-, e⟩
    · rw [e, zV_nj (by omega)]; exact q2
    · rw [e]; exact q2
  have gD1 : ∀ κ s : Nat, ¬ (s = xs ∧ 49 ≤ κ ∧ κ ≤ 58) → ¬ (59 ≤ κ ∧ κ ≤ 62 ∧ 4 * xs ≤ s ∧ s < 4 * xs + 4) → zV D1 κ 0 s = zV Nb κ 0 s := fun κ s q1 q2 => by
    rw [zV_of (y2 κ 0 s (by omega))]
    by_cases k1 : 49 ≤ κ ∧ κ ≤ 58
    · rw [zgset_V, if_neg (by simp only [Int.toNat_natCast]; omega)]
    · exact zgset_o k1
  have gN2 : ∀ κ s : Nat, ¬ (κ = 26 ∧ s = 21) → ¬ (κ = 50 ∧ s = xs) → zV N2 κ 0 s = zV D1 κ 0 s := fun κ s q1 q2 => by
    rw [hN2, zV_upg, if_neg (fun z => q2 ⟨z.1, z.2.2⟩), zV_upg, if_neg (fun z => q1 ⟨z.1, z.2.2⟩)]
  have uNb : zV Nb 26 0 21 = zV D 26 0 21 := (gNb0 _ _ (by decide)).trans (gNa _ _ (by decide))
  have uD1 : zV D1 26 0 21 = zV D 26 0 21 := (gD1 _ _ (by omega) (by omega)).trans uNb
  have uN2 : zV N2 26 0 21 = zV D 26 0 21 + 1 := by rw [hN2, zV_ne (by decide), uD1, zV_eq (by omega)]
  have uN50 : zV N2 50 0 xs = zV D 26 0 21 + 1 := by rw [hN2, uD1, zV_eq (by omega)]
  -- the new entry
  have hen1 : iEn M1 D1 q xs := i_new (id := id) (mm := mm) (L := L) (Mb := Mb) (Nb := Nb) hA hC (by omega) hid hL f20 (fun κ i j k1 k2 => fMb κ i j (by omega) (by omega)) (fun κ j k1 k2 => (gNb0 _ _ (by omega)).trans (gNa _ _ (by omega))) a5 (by rw [hcn]; exact b7)
  have hen2 : iEn M2 N2 q xs := iEn_c (hwe1 q (by omega)).1.2 hen1 (fun κ j k1 k2 => fM2 κ q j (by omega)) (fun κ k1 k2 => gN2 κ _ (by omega) (by omega)) (fun κ j hj k1 k2 => gN2 κ _ (by omega) (by omega))
  have hreach : ∀ a : Nat, a < 32 → zV N2 63 0 (32 * r + a) = zV M2 18 r a := fun a ha => by
    rw [gN2 _ _ (by omega) (by omega), gD1 _ _ (by omega) (by omega), gNb0 _ _ (by decide), gNa _ _ (by decide), fM2 _ _ _ (by omega), fM1 _ _ _ (by omega), fMb _ _ _ (by omega) (by omega)]
    exact hD.2 r a hr ha
  obtain ⟨hXY, he3, fC, fD⟩ := i_go hen2 (zwe_congr (hwe1 q (by omega)) (fM2 _ _ _ (by omega)) (fun j => fM2 _ _ _ (by omega))) hreach h3 hfin
  -- which cells stay, from the start to the end
  have tC : ∀ κ i j : Nat, ¬ (i = r ∧ (κ = 17 ∨ κ = 16)) → ¬ (19 ≤ κ ∧ κ ≤ 25 ∧ i = q) → zV C' κ i j = zV C κ i j := fun κ i j q1 q2 => by
    rw [zV_of (fC κ i j (by omega)), fM2 κ i j (by omega), fM1 κ i j (by omega), fMb κ i j (by omega) (by omega)]
  have tDb : ∀ κ s : Nat, ¬ (κ = 26 ∧ s = 21) → ¬ (s = xs ∧ 49 ≤ κ ∧ κ ≤ 58) → ¬ (59 ≤ κ ∧ κ ≤ 62 ∧ 4 * xs ≤ s ∧ s < 4 * xs + 4) → zV D' κ 0 s = zV Nb κ 0 s := fun κ s q1 q2 q3 => by
    rw [zV_of (fD κ 0 s (by omega)), gN2 κ s q1 (by omega), gD1 κ s q2 q3]
  have tD : ∀ κ s : Nat, ¬ (κ = 26 ∧ s = 21) → ¬ (s = xs ∧ 49 ≤ κ ∧ κ ≤ 58) → ¬ (59 ≤ κ ∧ κ ≤ 62 ∧ 4 * xs ≤ s ∧ s < 4 * xs + 4) → ¬ (κ = 49 ∧ 8 * r ≤ s ∧ s < 8 * r + 8) → zV D' κ 0 s = zV D κ 0 s := fun κ s q1 q2 q3 q4 => by
    rw [tDb κ s q1 q2 q3]
    by_cases k : κ = 49
    · rw [k]; exact gNb1 s (by omega)
    · rw [gNb0 κ s k, gNa κ s k]
  have tu : zV D' 26 0 21 = zV D 26 0 21 + 1 := (zV_of (fD 26 0 21 (by omega))).trans uN2
  have t50 : zV D' 50 0 xs = zV D 26 0 21 + 1 := (zV_of (fD 50 0 xs (by omega))).trans uN50
  have t49 : zV D' 49 0 xs = 1 := by
    rw [zV_of (fD 49 0 xs (by omega)), gN2 _ _ (by omega) (by omega), zV_of (y2 49 0 xs (by omega)), zgset_V]
    simp
  have t20 : zV C' 20 q 0 = zfb id L ∧ zV C' 20 q 1 = L := by
    rw [zV_of (fC 20 q 0 (by omega)), zV_of (fC 20 q 1 (by omega)), fM2 20 q 0 (by omega), fM2 20 q 1 (by omega), fM1 20 q 0 (by omega), fM1 20 q 1 (by omega)]
    exact f20
  -- the router's pairs
  have y3 := i_clr z2 h4 b3
  have hlen := i_el z1
  have hwr := (e1 r hr).1
  have hfl : (Z.filter (fun p => zkeep C (zfb id L) L (p.1 : Int))).length ≤ 8 := Nat.le_trans (List.length_filter_le _ _) (by omega)
  have hfs : ∀ p ∈ Z.filter (fun p => zkeep C (zfb id L) L (p.1 : Int)), p ∈ Z := fun p hp => (List.mem_filter.mp hp).1
  have y4 := i_fre y3 (fun p hp => h4 p (hfs p hp)) hfl b4
  generalize hZ1 : Z.filter (fun p => zkeep C (zfb id L) L (p.1 : Int)) = Z1 at *
  have hroom : (if 8 ≤ Z1.length then Z1.tail else Z1).map (fun p => (p.1 : Int)) = zroom C r (zfb id L) L := by
    have e : (zel C r).filter (zkeep C (zfb id L) L) = Z1.map (fun p => (p.1 : Int)) := by
      rw [← z1, List.filter_map, ← hZ1]
      rfl
    unfold zroom
    rw [e, List.length_map]
    split
    · rw [List.map_tail]
    · rfl
  have hz2 : ∀ p ∈ (if 8 ≤ Z1.length then Z1.tail else Z1), p ∈ Z1 := fun p hp => by
    split at hp
    · exact List.mem_of_mem_tail hp
    · exact hp
  generalize hZ2 : (if 8 ≤ Z1.length then Z1.tail else Z1) = Z2 at *
  have hza : (Z2 ++ [(q, xs)]).map (fun p => (p.1 : Int)) = zel Ma r := by
    rw [hel, List.map_append, hroom, hqi]
    rfl
  have hps2 : ps = Z2.length := by
    rw [← hroom, List.length_map] at hx
    omega
  have hnq : ∀ p ∈ Z2, p.1 ≠ q := fun p hp e => by
    obtain ⟨i, hi⟩ := List.getElem?_of_mem hp
    have hi2 : i < Z2.length := (List.getElem?_eq_some_iff.mp hi).1
    have k1 : (Z2 ++ [(q, xs)])[i]? = some p := by rw [List.getElem?_append_left hi2]; exact hi
    have k2 : (Z2 ++ [(q, xs)])[Z2.length]? = some (q, xs) := by rw [List.getElem?_append_right (Nat.le_refl _), Nat.sub_self]; rfl
    have := i_el4 w hza k1 k2 e
    omega
  have hput := i_put (C' := C') (D' := D') (q := q) (x := xs) y4 (fun p hp => h4 p (hfs p (hz2 p hp))) (by omega) b6
    (fun p hp κ j k1 k2 => tC κ p.1 j (by omega) (fun z => hnq p hp z.2.2))
    (fun κ s s1 s2 s3 k1 k2 => tDb κ s (by omega) (by omega) (by omega))
    (fun κ s j s1 s2 s3 hj k1 k2 => tDb κ _ (by omega) (by omega) (by omega))
    (by rw [t49]; decide) (by rw [t50, tu]) (by rw [uNb, tu]; omega) he3
    (fun p hp z => by
      rw [t20.1, t20.2] at z
      have k1 := hz2 p hp
      rw [← hZ1] at k1
      exact zkeep_f (M := C) (y := (p.1 : Int)) (by rw [Int.toNat_natCast]; exact z) (List.mem_filter.mp k1).2)
  refine ⟨hXY, iA_c hA (fun κ i j q1 q2 => tC _ _ _ (by omega) (by omega)) (tD _ _ (by omega) (by omega) (by omega) (by omega)) (fun κ j q1 q2 => tD _ _ (by omega) (by omega) (by omega) (by omega)),
    iB_c hB (fun κ i j q1 q2 => tC _ _ _ (by omega) (by omega)) (tD _ _ (by omega) (by omega) (by omega) (by omega)) (fun κ j q1 q2 => tD _ _ (by omega) (by omega) (by omega) (by omega)),
    iC_c hC (by omega) (fun j => tC _ _ _ (by omega) (by omega)) (fun j q => tD _ _ (by omega) (by omega) (by omega) (by omega)),
    iD_c hD (fun r a => tC _ _ _ (by omega) (by omega)) (fun j => tD _ _ (by omega) (by omega) (by omega) (by omega)), ?_⟩
  have c16 : zV C' 16 r 2 = zV M2 16 r 2 := zV_of (fC _ _ _ (by omega))
  have c17 : ∀ j, zV C' 17 r j = zV M2 17 r j := fun j => zV_of (fC _ _ _ (by omega))
  refine i_fin1 (r := r) hE tu (zwr_congr c16 c17 w2) (fun κ i j q1 q2 => tC _ _ _ (by omega) (by omega)) (fun k hk => ?_) (fun k hk => zwe_congr (hwe1 k hk) ?_ (fun j => ?_)) (iW_c (iW_of hWM1) (fun κ s k => ?_)) ⟨_, ?_, hput⟩ (fun κ i j q1 q2 q3 => tC _ _ _ (by omega) (by omega)) (fun κ s q1 q2 q3 => tD _ _ (by omega) (by omega) (by omega) (by omega)) (fun κ s j q3 hj q1 q2 => tD _ _ (by omega) (by omega) (by omega) (by omega))
  · by_cases z : k = q
    · rw [z, t20.1, t20.2]
      exact ⟨hv.1, by omega, hL.1, hL.2⟩
    · rw [tC 20 k 0 (by omega) (by omega), tC 20 k 1 (by omega) (by omega)]; exact e2 k hk
  · exact (zV_of (fC _ _ _ (by omega))).trans (fM2 _ _ _ (by omega))
  · exact (zV_of (fC _ _ _ (by omega))).trans (fM2 _ _ _ (by omega))
  · exact (zV_of (fD _ _ _ (by omega))).trans (gN2 _ _ (by omega) (by omega))
  · rw [zel_c c16 c17, hel2, zel_c e16 e17, hza.symm, e17, hqi, List.map_append]
    show _ = (Z2.map (fun p => (p.1 : Int)) ++ [(q : Int)]).eraseIdx ps ++ [(q : Int)]
    rw [List.eraseIdx_append_of_length_le (by rw [List.length_map]; omega), List.length_map, hps2, Nat.sub_self]
    simp
