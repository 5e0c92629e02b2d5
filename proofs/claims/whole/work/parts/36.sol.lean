/-! soliciting, on both sides -/
theorem i_zsc {C D : zMem} {m q s : Nat} (hm : zV D 35 0 m = zV C 4 m 0 ∧ zV D 36 0 m = zV C 4 m 1) (he : iEn C D q s) (h9 : zV D 49 0 s ≠ 0) : zms D m s ↔ zsc C m q := by
  unfold zms zsc
  rw [he.1.1, he.1.2, he.2.2.2.2.1, hm.1, hm.2]
  exact ⟨fun h => h.2, fun h => ⟨h9, h⟩⟩
theorem i_solC {n : Nat} {C D C' D' : zMem} {m : Nat} (hm : zV D 35 0 m = zV C 4 m 0 ∧ zV D 36 0 m = zV C 4 m 1) (hC : iC n C D) (hE : iE n C D) (h1 : zsolk C C' m 3) (h2 : zmsk D D' m 24) : iC (n + 1) C' D' := by
  obtain ⟨s1, s2, s3, s4⟩ := h1
  obtain ⟨t1, t2, t3, t4⟩ := h2
  obtain ⟨⟨c1, c2, c3⟩, c4, c5, c6⟩ := hC
  obtain ⟨⟨u0, u1⟩, ⟨e1, e2, e3⟩, e4, e5⟩ := hE
  have s1 : zV C' 0 0 6 = zV C 0 0 6 + zsm (zsn C m) 3 := s1
  have t1 : zV D' 26 0 34 = zV D 26 0 34 + zsm (fun q => zind (zms D m q)) 24 := t1
  have hs : zsm (zsn C m) 3 = zsm (fun q => zind (zms D m q)) 24 := by
    have key : ∀ r, r < 3 → zsn C m r = zsm (fun j => zind (zms D m (8 * r + j))) 8 := fun r hr => by
      obtain ⟨Z, z1, z2⟩ := e5 r hr
      have l1 : zsn C m r = i_ls (fun p => zsc C m p.1) Z := by
        unfold zsn
        rw [← i_el z1]
        exact i_lz (T := zsc C m) Z (zq C r) (fun j p hj => (i_el2 z1 hj).2.2)
      have l2 : zsm (fun j => zind (zms D m (8 * r + j))) 8 = i_ls (fun p => zms D m p.2) Z := by
        refine i_cnt Z _ (i_dist z2) (fun p hp => (z2.2.1 p hp).1) fun j hj => ?_
        refine zind_iff ⟨fun a => ?_, fun ⟨p, mm, e, b⟩ => ?_⟩
        · obtain ⟨p, mm, e⟩ := z2.2.2 (8 * r + j) (by omega) (by omega) a.1
          refine ⟨p, mm, e, ?_⟩
          show zms D m p.2
          rw [e]
          exact a
        · rw [← e]
          exact b
      rw [l1, l2]
      exact i_ls_ext fun p hp => (i_zsc hm (z2.2.1 p hp).2.2.2 (z2.2.1 p hp).2.1).symm
    rw [i_s24, ← key 0 (by omega), ← key 1 (by omega), ← key 2 (by omega)]
    show 0 + zsn C m 0 + zsn C m 1 + zsn C m 2 = _
    omega
  have b := zsm_b (f := zsn C m) (B := 8) 3 (fun r hr => zsn_rg (e1 r hr))
  refine ⟨⟨?_, ?_, ?_⟩, ?_, ?_, ?_⟩
  · rw [zV_of (t4 26 0 1 (by omega) (by omega)), zV_of (s4 0 0 3 (by omega) (by omega))]; exact c1
  · rw [zV_of (t4 26 0 2 (by omega) (by omega)), zV_of (s4 0 0 4 (by omega) (by omega))]; exact c2
  · rw [zV_of (t4 26 0 3 (by omega) (by omega)), zV_of (s4 0 0 5 (by omega) (by omega))]; exact c3
  · rw [t1, s1, c4, hs]
  · rw [s1]; omega
  · rw [s1]; omega
theorem i_solE {n : Nat} {C D C' D' : zMem} {m : Nat} (hm : zV D 35 0 m = zV C 4 m 0 ∧ zV D 36 0 m = zV C 4 m 1) (hE : iE n C D) (h1 : zsolk C C' m 3) (h2 : zmsk D D' m 24) : iE (n + 1) C' D' := by
  obtain ⟨s1, s2, s3, s4⟩ := h1
  obtain ⟨t1, t2, t3, t4⟩ := h2
  obtain ⟨⟨u0, u1⟩, ⟨e1, e2, e3⟩, e4, e5⟩ := hE
  have fc : ∀ κ i j : Nat, ¬ (κ = 19 ∧ j = 6) → κ ≠ 0 → zV C' κ i j = zV C κ i j := fun κ i j q1 q2 => zV_of (s4 κ i j q1 (fun z => q2 z.1))
  have fd : ∀ κ i j : Nat, κ ≠ 57 → ¬ (κ = 26 ∧ j = 34) → zV D' κ i j = zV D κ i j := fun κ i j q1 q2 => zV_of (t4 κ i j q1 q2)
  refine ⟨⟨?_, ?_⟩, ⟨fun r hr => zwr_congr (fc _ _ _ (by omega) (by omega)) (fun j => fc _ _ _ (by omega) (by omega)) (e1 r hr), fun q hq => ?_, fun q hq => zwe_congr (e3 q hq) (fc _ _ _ (by omega) (by omega)) (fun j => fc _ _ _ (by omega) (by omega))⟩, iW_c e4 (fun κ j h => fd κ 0 j (by omega) (by omega)), fun r hr => ?_⟩
  · rw [fd _ _ _ (by omega) (by omega)]; exact u0
  · rw [fd _ _ _ (by omega) (by omega)]; omega
  · rw [fc _ _ _ (by omega) (by omega), fc _ _ _ (by omega) (by omega)]; exact e2 q hq
  obtain ⟨Z, z1, z2⟩ := e5 r hr
  refine ⟨Z, ?_, ?_, fun p hp => ?_, fun s h5 h6 h7 => ?_⟩
  · rw [z1]
    exact (zel_c (fc _ _ _ (by omega) (by omega)) (fun j => fc _ _ _ (by omega) (by omega))).symm
  · refine z2.1.imp ?_
    intro p p' hh
    rw [fd 50 _ _ (by omega) (by omega), fd 50 _ _ (by omega) (by omega), fc 20 _ _ (by omega) (by omega), fc 20 _ _ (by omega) (by omega), fc 20 _ _ (by omega) (by omega), fc 20 _ _ (by omega) (by omega)]
    exact hh
  · obtain ⟨b, b2, b3, b4⟩ := z2.2.1 p hp
    have hzz := i_zsc hm b4 b2
    obtain ⟨jj, hjj⟩ := List.getElem?_of_mem hp
    obtain ⟨v1, -, v3⟩ := i_el2 z1 hjj
    have w1 := (e1 r hr).1
    obtain ⟨⟨a1, a2⟩, a3, a4, a5, a6, a7, a8, a9⟩ := b4
    refine ⟨b, ?_, ?_, ⟨?_, ?_⟩, ?_, ?_, ?_, ?_, ?_, ?_, ?_⟩
    · rw [fd _ _ _ (by omega) (by omega)]; exact b2
    · rw [fd _ _ _ (by omega) (by omega), fd _ _ _ (by omega) (by omega)]; exact b3
    · rw [fd _ _ _ (by omega) (by omega), fc _ _ _ (by omega) (by omega)]; exact a1
    · rw [fd _ _ _ (by omega) (by omega), fc _ _ _ (by omega) (by omega)]; exact a2
    · rw [fd _ _ _ (by omega) (by omega), fc _ _ _ (by omega) (by omega)]; exact a3
    · rw [fd 55 _ _ (by omega) (by omega), fc 19 p.1 3 (by omega) (by omega), fc 19 p.1 4 (by omega) (by omega)]; exact a4
    · rw [fd _ _ _ (by omega) (by omega), fc _ _ _ (by omega) (by omega)]; exact a5
    · by_cases hz : zsc C m p.1
      · rw [t2 p.2 (by omega) (hzz.mpr hz), s2 p.1 ⟨r, by omega, jj, by omega, v3⟩ hz]
      · rw [t3 p.2 (fun w => hz (hzz.mp w.2)), s3 p.1 (fun w => hz w.2)]; exact a6
    · rw [fd _ _ _ (by omega) (by omega), fc _ _ _ (by omega) (by omega)]; exact a7
    · intro j hj
      rw [fc _ _ _ (by omega) (by omega)] at hj
      rw [fd 59 _ _ (by omega) (by omega), fd 60 _ _ (by omega) (by omega), fd 61 _ _ (by omega) (by omega), fd 62 _ _ (by omega) (by omega), fc 22 _ _ (by omega) (by omega), fc 23 _ _ (by omega) (by omega), fc 24 _ _ (by omega) (by omega), fc 25 _ _ (by omega) (by omega)]
      exact a8 j hj
    · intro j j' hj hj' e
      rw [fc 21 _ _ (by omega) (by omega)] at hj hj'
      rw [fc 22 _ _ (by omega) (by omega), fc 22 _ _ (by omega) (by omega)] at e
      exact a9 j j' hj hj' e
  · rw [fd _ _ _ (by omega) (by omega)] at h7
    exact z2.2.2 s h5 h6 h7
theorem i_solN {n : Nat} {C D C' D' : zMem} {m : Nat} (h : iN n C D) (hm : m < 24) (h1 : zsolk C C' m 3) (h2 : zmsk D D' m 24) : iN (n + 1) C' D' := by
  obtain ⟨a, b, c, d, e⟩ := h
  have hm2 := (a.2.2.1 m hm).1.2
  have s4 := h1.2.2.2
  have t4 := h2.2.2.2
  exact ⟨iA_c a (fun κ i j q1 q2 => zV_of (s4 _ _ _ (by omega) (by omega))) (zV_of (t4 _ _ _ (by omega) (by omega))) (fun κ j q1 q2 => zV_of (t4 _ _ _ (by omega) (by omega))),
    iB_c b (fun κ i j q1 q2 => zV_of (s4 _ _ _ (by omega) (by omega))) (zV_of (t4 _ _ _ (by omega) (by omega))) (fun κ j q1 q2 => zV_of (t4 _ _ _ (by omega) (by omega))),
    i_solC hm2 c e h1 h2,
    iD_c d (fun r q => zV_of (s4 _ _ _ (by omega) (by omega))) (fun j => zV_of (t4 _ _ _ (by omega) (by omega))),
    i_solE hm2 e h1 h2⟩
/-- a change of the registry alone -/
theorem i_upA {n : Nat} {C D C' D' : zMem} (h : iN n C D) (hA : iA C' D') (hc : ∀ κ i j : Nat, ¬ (1 ≤ κ ∧ κ ≤ 8) → C' κ i j = C κ i j) (hd : ∀ κ i j : Nat, ¬ (κ = 26 ∧ (j = 0 ∨ j = 4)) → ¬ (35 ≤ κ ∧ κ ≤ 42) → D' κ i j = D κ i j) : iN n C' D' := by
  obtain ⟨a, b, c, d, e⟩ := h
  exact ⟨hA, iB_c b (fun κ i j q1 q2 => zV_of (hc _ _ _ (by omega))) (zV_of (hd _ _ _ (by omega) (by omega))) (fun κ j q1 q2 => zV_of (hd _ _ _ (by omega) (by omega))),
    iC_c c (Nat.le_refl n) (fun j => zV_of (hc _ _ _ (by omega))) (fun j q => zV_of (hd _ _ _ (by omega) (by omega))),
    iD_c d (fun r q => zV_of (hc _ _ _ (by omega))) (fun j => zV_of (hd _ _ _ (by omega) (by omega))),
    iE_c e (Nat.le_refl n) (fun κ i j q => zV_of (hc _ _ _ (by omega))) (zV_of (hd _ _ _ (by omega) (by omega))) (fun κ j q1 q2 => zV_of (hd _ _ _ (by omega) (by omega)))⟩
