/-! ranks -/
theorem i_dist {n : Nat} {C D : zMem} {r : Nat} {Z : List (Nat × Nat)} (h : iY n C D r Z) : Z.Pairwise (fun p p' => p.2 ≠ p'.2) := by
  refine h.1.imp ?_
  intro p p' hh e
  have h1 := hh.1
  rw [e] at h1
  omega
theorem i_zmb {n : Nat} {C D : zMem} {r : Nat} {Z : List (Nat × Nat)} (h : iY n C D r Z) (u : Int) : zmb D r u = i_ls (fun p => zV D 33 0 p.2 < u) Z := by
  show zsm (zmf D r u) 8 = _
  refine i_cnt Z (zmf D r u) (i_dist h) (fun p hp => (h.2.1 p hp).1) fun j hj => ?_
  unfold zmf
  refine zind_iff ⟨fun ⟨a, b⟩ => ?_, fun ⟨p, m, e, b⟩ => ?_⟩
  · obtain ⟨p, m, e⟩ := h.2.2 (8 * r + j) (by omega) (by omega) a
    refine ⟨p, m, e, ?_⟩
    show zV D 33 0 p.2 < u
    rw [e]
    exact b
  · rw [← e]
    exact ⟨(h.2.1 p m).2.1, b⟩
theorem i_idx {n : Nat} {C D : zMem} {r : Nat} {Z : List (Nat × Nat)} (h : iY n C D r Z) {i : Nat} {p : Nat × Nat} (hp : Z[i]? = some p) : zmb D r (zV D 33 0 p.2) = (i : Int) := by
  rw [i_zmb h]
  refine i_ix (u := fun s => zV D 33 0 s) Z i p ?_ hp
  refine h.1.imp ?_
  intro a b hh
  exact hh.1
theorem i_some {Z : List (Nat × Nat)} {n : Nat} (h : n < Z.length) : ∃ p, Z[n]? = some p := ⟨Z[n]'h, List.getElem?_eq_getElem h⟩
/-- the one of a rank, by the list -/
theorem i_pc {n : Nat} {C D : zMem} {r : Nat} {Z : List (Nat × Nat)} (h : iY n C D r Z) {i j : Nat} (hj : j < 8) (hc : zpc D r (i : Int) j) : ∃ p, Z[i]? = some p ∧ p.2 = 8 * r + j := by
  obtain ⟨hc1, hc2⟩ := hc
  obtain ⟨p', m', e'⟩ := h.2.2 (8 * r + j) (by omega) (by omega) hc1
  obtain ⟨i', hi⟩ := List.getElem?_of_mem m'
  have e2 := i_idx h hi
  rw [e', hc2] at e2
  have e3 : i' = i := by omega
  rw [e3] at hi
  exact ⟨p', hi, e'⟩
theorem i_pe {n : Nat} {C D : zMem} {r : Nat} {Z : List (Nat × Nat)} (h : iY n C D r Z) {b x : Int} (hn : 0 ≤ b) (hx : zpe D r b x) (hl : b < (Z.length : Int)) : ∃ p, Z[b.toNat]? = some p ∧ x = (p.2 : Int) := by
  obtain ⟨p, hp⟩ := i_some (Z := Z) (n := b.toNat) (by omega)
  refine ⟨p, hp, ?_⟩
  have hp2 := h.2.1 p (List.mem_of_getElem? hp)
  have hb := hp2.1
  have e := i_idx h hp
  rcases hx with ⟨-, hx⟩ | ⟨j, hj, hx, hc⟩
  · exfalso
    refine hx (p.2 - 8 * r) (by omega) ?_
    unfold zpc
    rw [show 8 * r + (p.2 - 8 * r) = p.2 by omega]
    exact ⟨hp2.2.1, by rw [e]; omega⟩
  · rw [show b = ((b.toNat : Nat) : Int) by omega] at hc
    obtain ⟨p', h1, h2⟩ := i_pc h hj hc
    rw [hp] at h1
    rw [hx, Option.some.inj h1, h2]
/-- how many entries a router has -/
theorem i_many {n : Nat} {C D : zMem} {r : Nat} {Z : List (Nat × Nat)} (h : iY n C D r Z) : zsm (fun j => zind (0 ≤ zV D 30 0 (8 * r + j))) 8 = (Z.length : Int) := by
  rw [← i_ls_all (Q := fun _ => True) (Z := Z) (fun _ _ => trivial)]
  refine i_cnt Z _ (i_dist h) (fun p hp => (h.2.1 p hp).1) fun j hj => ?_
  refine zind_iff ⟨fun a => ?_, fun ⟨p, m, e, b⟩ => ?_⟩
  · obtain ⟨p, m, e⟩ := h.2.2 (8 * r + j) (by omega) (by omega) a
    exact ⟨p, m, e, trivial⟩
  · rw [← e]
    exact (h.2.1 p m).2.1
/-! soliciting, on both sides -/
theorem i_pv {n : Nat} {C D : zMem} {q s : Nat} (he : iEn n C D q s) (hp : zpfx (zV C 20 q 0) (zV C 20 q 1)) : zV D 30 0 s / 32 = zV C 20 q 0 ∧ zV D 30 0 s % 32 = zV C 20 q 1 := by
  have h1 := he.1
  unfold zpfx at hp
  rw [h1]
  omega
theorem i_zsc {n : Nat} {C D : zMem} {m q s : Nat} {v b : Int} (hm : v = zV C 4 m 0 ∧ b = zV C 4 m 1) (he : iEn n C D q s) (hp : zpfx (zV C 20 q 0) (zV C 20 q 1)) (h9 : 0 ≤ zV D 30 0 s) : jms D v b s ↔ zsc C m q := by
  obtain ⟨e1, e2⟩ := i_pv he hp
  obtain ⟨-, -, a3, a4, -⟩ := he
  unfold jms zsc
  rw [e1, e2, hm.1, hm.2, a3]
  constructor
  · rintro ⟨-, h2, h3⟩
    refine ⟨?_, h3⟩
    refine Classical.byContradiction fun z => ?_
    rw [if_neg z] at h2
    omega
  · rintro ⟨h2, h3⟩
    refine ⟨h9, ?_, h3⟩
    rw [if_pos h2]
    omega
theorem i_solsum {n : Nat} {C D : zMem} {m : Nat} {v b : Int} (hm : v = zV C 4 m 0 ∧ b = zV C 4 m 1) (hE : iE n C D) : zsm (zsn C m) 3 = zsm (fun s => zind (jms D v b s)) 16 := by
  obtain ⟨⟨u0, u1⟩, ⟨e1, e2, e3⟩, c1, e4, e5⟩ := hE
  have key : ∀ r, r < 2 → zsn C m (2 * r) = zsm (fun j => zind (jms D v b (8 * r + j))) 8 := fun r hr => by
    obtain ⟨Z, z1, z2⟩ := e5 r hr
    have l1 : zsn C m (2 * r) = i_ls (fun p => zsc C m p.1) Z := by
      unfold zsn
      rw [← i_el z1]
      exact i_lz (T := zsc C m) Z (zq C (2 * r)) (fun j p hj => (i_el2 z1 hj).2.2)
    have l2 : zsm (fun j => zind (jms D v b (8 * r + j))) 8 = i_ls (fun p => jms D v b p.2) Z := by
      refine i_cnt Z _ (i_dist z2) (fun p hp => (z2.2.1 p hp).1) fun j hj => ?_
      refine zind_iff ⟨fun a => ?_, fun ⟨p, mm, e, b9⟩ => ?_⟩
      · obtain ⟨p, mm, e⟩ := z2.2.2 (8 * r + j) (by omega) (by omega) a.1
        refine ⟨p, mm, e, ?_⟩
        show jms D v b p.2
        rw [e]
        exact a
      · rw [← e]
        exact b9
    rw [l1, l2]
    refine i_ls_ext fun p hp => ?_
    have h9 := i_el3 (e1 (2 * r) (by omega)) z1 hp
    exact (i_zsc hm (z2.2.1 p hp).2.2.2 (e2 p.1 (by omega)) (z2.2.1 p hp).2.1).symm
  have k1 : zsn C m 1 = 0 := by
    unfold zsn
    rw [c1]
    rfl
  rw [i_s16, ← key 0 (by omega), ← key 1 (by omega)]
  show 0 + zsn C m 0 + zsn C m 1 + zsn C m 2 = zsn C m 0 + zsn C m 2
  rw [k1]
  omega
theorem i_solC {n : Nat} {C D C' D' : zMem} {m : Nat} {v b : Int} (hm : v = zV C 4 m 0 ∧ b = zV C 4 m 1) (hC : iC n C D) (hE : iE n C D) (h1 : zsolk C C' m 3) (h2 : jsk D D' v b 16) : iC (n + 1) C' D' := by
  have hs := i_solsum hm hE
  obtain ⟨s1, s2, s3, s4⟩ := h1
  obtain ⟨t1, t2, t3, t4⟩ := h2
  obtain ⟨⟨c1, c2, c3⟩, c4, c5, c6, c7⟩ := hC
  have e1 := hE.2.1.1
  have s1 : zV C' 0 0 6 = zV C 0 0 6 + zsm (zsn C m) 3 := s1
  have t1 : zV D' 36 0 6 = zV D 36 0 6 + zsm (fun s => zind (jms D v b s)) 16 := t1
  have bb := zsm_b (f := zsn C m) (B := 8) 3 (fun r hr => zsn_rg (e1 r hr))
  have fc : ∀ j : Nat, j ≠ 6 → zV C' 0 0 j = zV C 0 0 j := fun j q => zV_of (s4 0 0 j (by omega) (by omega))
  have fd : ∀ j : Nat, j ≠ 6 → zV D' 36 0 j = zV D 36 0 j := fun j q => zV_of (t4 36 0 j (by omega) (by omega))
  unfold iC
  rw [fd 0 (by decide), fd 1 (by decide), fd 2 (by decide), fc 3 (by decide), fc 4 (by decide), fc 5 (by decide)]
  refine ⟨⟨c1, c2, c3⟩, ?_, by omega, c6, ?_, ?_⟩
  · rw [t1, s1, c4, hs]
  · rw [s1]; omega
  · rw [s1]; omega
theorem i_solE {n : Nat} {C D C' D' : zMem} {m : Nat} {v b : Int} (hm : v = zV C 4 m 0 ∧ b = zV C 4 m 1) (hE : iE n C D) (h1 : zsolk C C' m 3) (h2 : jsk D D' v b 16) : iE (n + 1) C' D' := by
  obtain ⟨s1, s2, s3, s4⟩ := h1
  obtain ⟨t1, t2, t3, t4⟩ := h2
  obtain ⟨⟨u0, u1⟩, ⟨e1, e2, e3⟩, c1, e4, e5⟩ := hE
  have fc : ∀ κ i j : Nat, ¬ (κ = 19 ∧ j = 6) → κ ≠ 0 → zV C' κ i j = zV C κ i j := fun κ i j q1 q2 => zV_of (s4 κ i j q1 (fun z => q2 z.1))
  have fd : ∀ κ j : Nat, κ ≠ 32 → ¬ (κ = 36 ∧ j = 6) → zV D' κ 0 j = zV D κ 0 j := fun κ j q1 q2 => zV_of (t4 κ 0 j (fun z => q1 z.1) (fun z => q2 ⟨z.1, z.2.2⟩))
  refine ⟨⟨?_, ?_⟩, ⟨fun r hr => zwr_congr (fc _ _ _ (by omega) (by omega)) (fun j => fc _ _ _ (by omega) (by omega)) (e1 r hr), fun q hq => ?_, fun q hq => zwe_congr (e3 q hq) (fc _ _ _ (by omega) (by omega)) (fun j => fc _ _ _ (by omega) (by omega))⟩, by rw [fc _ _ _ (by omega) (by omega)]; exact c1, iW_c e4 (by omega) (fun κ j h => fd κ j (by omega) (by omega)), fun r hr => ?_⟩
  · rw [fd _ _ (by omega) (by omega)]; exact u0
  · rw [fd _ _ (by omega) (by omega)]; omega
  · rw [fc _ _ _ (by omega) (by omega), fc _ _ _ (by omega) (by omega)]; exact e2 q hq
  obtain ⟨Z, z1, z2⟩ := e5 r hr
  refine ⟨Z, ?_, ?_, fun p hp => ?_, fun s h5 h6 h7 => ?_⟩
  · rw [z1]
    exact (zel_c (fc _ _ _ (by omega) (by omega)) (fun j => fc _ _ _ (by omega) (by omega))).symm
  · refine z2.1.imp ?_
    intro p p' hh
    rw [fd 33 _ (by omega) (by omega), fd 33 _ (by omega) (by omega), fc 20 _ _ (by omega) (by omega), fc 20 _ _ (by omega) (by omega), fc 20 _ _ (by omega) (by omega), fc 20 _ _ (by omega) (by omega)]
    exact hh
  · obtain ⟨b9, b2, b3, b4⟩ := z2.2.1 p hp
    have hel := i_el3 (e1 (2 * r) (by omega)) z1 hp
    have hzz := i_zsc hm b4 (e2 p.1 (by omega)) b2
    obtain ⟨jj, hjj⟩ := List.getElem?_of_mem hp
    obtain ⟨v1, -, v3⟩ := i_el2 z1 hjj
    have w1 := (e1 (2 * r) (by omega)).1
    obtain ⟨a1, a2, a3, a4, a5, a6, a7, a8⟩ := b4
    refine ⟨b9, ?_, ?_, ?_⟩
    · rw [fd _ _ (by omega) (by omega)]; exact b2
    · rw [fd _ _ (by omega) (by omega), fd _ _ (by omega) (by omega)]; exact b3
    unfold iEn
    rw [fd 30 _ (by omega) (by omega), fd 31 _ (by omega) (by omega), fc 20 p.1 0 (by omega) (by omega), fc 20 p.1 1 (by omega) (by omega), fc 19 p.1 3 (by omega) (by omega), fc 19 p.1 4 (by omega) (by omega), fc 19 p.1 5 (by omega) (by omega), fc 21 p.1 3 (by omega) (by omega)]
    refine ⟨a1, a2, ?_, ⟨?_, a4.2.1, by have := a4.2.2; omega⟩, a5.imp (fun z => z) (fun z => ⟨z.1, z.2.1, by have := z.2.2; omega⟩), fun j hj => ?_, fun j hj => ?_, fun j j' hj hj' e => ?_⟩
    · by_cases hz : zsc C m p.1
      · rw [t2 p.2 (by omega) (hzz.mpr hz), s2 p.1 ⟨2 * r, by omega, jj, by omega, v3⟩ hz, if_neg (by decide)]
      · rw [t3 p.2 (fun w => hz (hzz.mp w.2)), s3 p.1 (fun w => hz w.2)]; exact a3
    · by_cases hz : zsc C m p.1
      · rw [s2 p.1 ⟨2 * r, by omega, jj, by omega, v3⟩ hz]; exact Or.inr rfl
      · rw [s3 p.1 (fun w => hz w.2)]; exact a4.1
    · rw [fd 34 _ (by omega) (by omega), fc 22 _ _ (by omega) (by omega), fc 23 _ _ (by omega) (by omega), fc 24 _ _ (by omega) (by omega), fc 25 _ _ (by omega) (by omega)]
      exact a6 j hj
    · rw [fc 23 _ _ (by omega) (by omega), fc 24 _ _ (by omega) (by omega), fc 25 _ _ (by omega) (by omega)]
      exact a7 j hj
    · rw [fc 22 _ _ (by omega) (by omega), fc 22 _ _ (by omega) (by omega)] at e
      exact a8 j j' hj hj' e
  · rw [fd _ _ (by omega) (by omega)] at h7
    exact z2.2.2 s h5 h6 h7
theorem i_solN {n : Nat} {C D C' D' : zMem} {m : Nat} {v b : Int} (h : iN n C D) (hm : v = zV C 4 m 0 ∧ b = zV C 4 m 1) (h1 : zsolk C C' m 3) (h2 : jsk D D' v b 16) : iN (n + 1) C' D' := by
  obtain ⟨a, b9, s, c, d, e⟩ := h
  have s4 := h1.2.2.2
  have t4 := h2.2.2.2
  exact ⟨iA_c a (by omega) (fun κ i j q1 q2 => zV_of (s4 _ _ _ (by omega) (by omega))) (zV_of (t4 _ _ _ (by omega) (by omega))) (fun κ j q1 q2 => zV_of (t4 _ _ _ (by omega) (by omega))),
    iB_c b9 (fun κ i j q1 => zV_of (s4 _ _ _ (by omega) (by omega))) (zV_of (t4 _ _ _ (by omega) (by omega))) (fun j => zV_of (t4 _ _ _ (by omega) (by omega))),
    iS_c s (by omega) (fun κ j q1 => zV_of (s4 _ _ _ (by omega) (by omega))) (fun j q1 => zV_of (t4 _ _ _ (by omega) (by omega))),
    i_solC hm c e h1 h2,
    iD_c d (fun r q => zV_of (s4 _ _ _ (by omega) (by omega))) (fun r hr => zV_of (t4 _ _ _ (by omega) (by omega))),
    i_solE hm e h1 h2⟩
