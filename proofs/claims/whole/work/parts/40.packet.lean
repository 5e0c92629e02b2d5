/-! a packet by an entry, on both sides -/
theorem i_go {C D C' D' : zMem} {r q s : Nat} {X Y : Int} (he : iEn C D q s) (hw : zwe C q) (hD : ∀ a : Nat, a < 32 → zV D 63 0 (32 * r + a) = zV C 18 r a) (h1 : zsnd C C' r q X)
    (h2 : (zV D 54 0 s = -1 ∧ Y = -1 ∧ D' = D) ∨ (¬ zV D 54 0 s = -1 ∧ znbp D r s = 4 ∧ Y = -3 ∧ D' = D) ∨ (¬ zV D 54 0 s = -1 ∧ ¬ znbp D r s = 4 ∧ Y = zna D s (znch D r s (znbp D r s)).toNat ∧ D' = zup D 62 0 (4 * s + (znch D r s (znbp D r s)).toNat) (zI (znk D s (znch D r s (znbp D r s)).toNat + 1)))) :
    X = Y ∧ iEn C' D' q s ∧ (∀ κ i j : Nat, ¬ (κ = 25 ∧ i = q) → C' κ i j = C κ i j) ∧ ∀ κ i j : Nat, ¬ (κ = 62 ∧ i = 0 ∧ 4 * s ≤ j ∧ j < 4 * s + 4) → D' κ i j = D κ i j := by
  obtain ⟨a1, a3, a4, a5, a6, a7, a8, a9⟩ := id he
  obtain ⟨⟨w1, w2⟩, w3⟩ := hw
  have hu : ∀ k, k < (zV C 21 q 3).toNat → znu D r (zna D s k).toNat = zun C r (zea C q k).toNat ∧ znpr D s k = zep C q k ∧ znw D s k = zew C q k ∧ znk D s k = zek C q k := fun k hk => by
    obtain ⟨⟨b1, b2, b3, b4⟩, -⟩ := a8 k (by omega)
    have h3 := w3 k (by omega)
    refine ⟨?_, b2, b3, b4⟩
    show zV D 63 0 (32 * r + (zV D 59 0 (4 * s + k)).toNat) = zV C 18 r (zV C 22 q k).toNat
    rw [b1]
    exact hD _ (by omega)
  have eb : znbp D r s = zeb C r q := by
    unfold znbp zeb
    rw [a7]
    exact i_bp fun k hk => ⟨(hu k hk).1, (hu k hk).2.1⟩
  have eS : znS D r s (zeb C r q) = zeS C r q (zeb C r q) := by
    unfold znS zeS
    rw [a7]
    exact zsm_ext fun k hk => i_zls ⟨(hu k hk).1, (hu k hk).2.1, (hu k hk).2.2.2⟩
  have eW : znW D r s (zeb C r q) = zeW C r q (zeb C r q) := by
    unfold znW zeW
    rw [a7]
    exact zsm_ext fun k hk => i_zls ⟨(hu k hk).1, (hu k hk).2.1, (hu k hk).2.2.1⟩
  have ech : znch D r s (zeb C r q) = zech C r q (zeb C r q) := by
    unfold znch znchk zech zechk
    rw [a7, eS, eW, i_ch hu]
  rw [eb, ech, a3] at h2
  have h4 : zeb C r q = 4 → zech C r q (zeb C r q) = -1 := fun e => by
    unfold zech zechk
    refine zch_no fun j hj z => ?_
    have h5 := (a8 j (by omega)).2.2
    have h6 : zV C 23 q j = zeb C r q := z.1
    omega
  have h5 : ¬ zeb C r q = 4 → 0 ≤ zech C r q (zeb C r q) := fun e => by
    unfold zech zechk
    exact zch_ge (zbp_ex e)
  rcases h1 with ⟨c1, c2, c3⟩ | ⟨c1, c2, c3, c4⟩ | ⟨c1, c2, c3, c4, c5⟩ <;> rcases h2 with ⟨d1, d2, d3⟩ | ⟨d1, d2, d3, d4⟩ | ⟨d1, d2, d3, d4⟩
  · rw [c2, d2, c3, d3]
    exact ⟨rfl, he, fun _ _ _ _ => rfl, fun _ _ _ _ => rfl⟩
  · exact absurd c1 d1
  · exact absurd c1 d1
  · exact absurd d1 c1
  · rw [c3, d3, c4, d4]
    exact ⟨rfl, he, fun _ _ _ _ => rfl, fun _ _ _ _ => rfl⟩
  · have := h5 d2
    omega
  · exact absurd d1 c1
  · have := h4 d2
    omega
  · generalize hk : zech C r q (zeb C r q) = k at *
    obtain ⟨t, ht⟩ : ∃ t : Nat, k.toNat = t := ⟨_, rfl⟩
    rw [ht] at c4 c5 d3 d4
    have htn : (t : Int) < zV C 21 q 3 := by omega
    obtain ⟨⟨b1, b2, b3, b4⟩, b5⟩ := a8 t htn
    have b6 : znk D s t = zek C q t := b4
    rw [b6] at d4
    subst c5
    subst d4
    refine ⟨?_, ⟨⟨?_, ?_⟩, ?_, ?_, ?_, ?_, ?_, fun j hj => ?_, fun j j' hj hj' e => ?_⟩, fun κ i j h => zup_at (fun z => h ⟨z.1, z.2.1⟩), fun κ i j h => zup_at (fun z => h ⟨z.1, z.2.1, by omega, by omega⟩)⟩
    · rw [c4, d3]
      exact b1.symm
    · rw [zV_ne (by decide), zV_ne (by decide)]; exact a1.1
    · rw [zV_ne (by decide), zV_ne (by decide)]; exact a1.2
    · rw [zV_ne (by decide), zV_ne (by decide)]; exact a3
    · rw [zV_ne (show (19 : Nat) ≠ 25 by decide), zV_ne (show (19 : Nat) ≠ 25 by decide), zV_ne (show (55 : Nat) ≠ 62 by decide)]; exact a4
    · rw [zV_ne (by decide), zV_ne (by decide)]; exact a5
    · rw [zV_ne (by decide), zV_ne (by decide)]; exact a6
    · rw [zV_ne (by decide), zV_ne (by decide)]; exact a7
    · rw [zV_ne (by decide)] at hj
      rw [zV_ne (show (59 : Nat) ≠ 62 by decide), zV_ne (show (60 : Nat) ≠ 62 by decide), zV_ne (show (61 : Nat) ≠ 62 by decide), zV_ne (show (22 : Nat) ≠ 25 by decide), zV_ne (show (23 : Nat) ≠ 25 by decide), zV_ne (show (24 : Nat) ≠ 25 by decide)]
      obtain ⟨⟨e1, e2, e3, e4⟩, e5⟩ := a8 j hj
      refine ⟨⟨e1, e2, e3, ?_⟩, e5⟩
      by_cases z : j = t
      · rw [z, zV_upw, zV_upw]
      · rw [zV_nj (by omega), zV_nj z]; exact e4
    · rw [zV_ne (by decide)] at hj hj'
      rw [zV_ne (by decide), zV_ne (by decide)] at e
      exact a9 j j' hj hj' e
/-! a router's pairs: one put behind, one taken out, those that meet taken out, room made -/
theorem i_put {C D C' D' : zMem} {r q x : Nat} {Z : List (Nat × Nat)} (h : iY C D r Z) (h4 : ∀ p ∈ Z, zV C 21 p.1 3 ≤ 4) (hx : 8 * r ≤ x ∧ x < 8 * r + 8) (hx0 : zV D 49 0 x = 0)
    (hc : ∀ p ∈ Z, ∀ κ j : Nat, 19 ≤ κ → κ ≤ 25 → zV C' κ p.1 j = zV C κ p.1 j) (hd : ∀ κ s : Nat, 8 * r ≤ s → s < 8 * r + 8 → s ≠ x → 49 ≤ κ → κ ≤ 58 → zV D' κ 0 s = zV D κ 0 s) (hd2 : ∀ κ s j : Nat, 8 * r ≤ s → s < 8 * r + 8 → s ≠ x → j < 4 → 59 ≤ κ → κ ≤ 62 → zV D' κ 0 (4 * s + j) = zV D κ 0 (4 * s + j))
    (h49 : zV D' 49 0 x ≠ 0) (h50 : zV D' 50 0 x = zV D' 26 0 21) (hu : zV D 26 0 21 < zV D' 26 0 21) (he : iEn C' D' q x) (hm : ∀ p ∈ Z, ¬ zmeet (zV C 20 p.1 0) (zV C 20 p.1 1) (zV C' 20 q 0) (zV C' 20 q 1)) : iY C' D' r (Z ++ [(q, x)]) := by
  obtain ⟨h1, h2, h3⟩ := h
  have hne : ∀ p ∈ Z, p.2 ≠ x := fun p hp e => by
    have := (h2 p hp).2.1
    rw [e] at this
    exact this hx0
  refine ⟨?_, fun p hp => ?_, fun s h5 h6 h7 => ?_⟩
  · rw [List.pairwise_append]
    refine ⟨?_, List.pairwise_singleton _ _, fun p hp p' hp' => ?_⟩
    · refine List.Pairwise.imp_of_mem ?_ h1
      intro p p' hp hp' hh
      have b := (h2 p hp).1
      have b' := (h2 p' hp').1
      rw [hd 50 p.2 b.1 b.2 (hne p hp) (by omega) (by omega), hd 50 p'.2 b'.1 b'.2 (hne p' hp') (by omega) (by omega), hc p hp 20 0 (by omega) (by omega), hc p hp 20 1 (by omega) (by omega), hc p' hp' 20 0 (by omega) (by omega), hc p' hp' 20 1 (by omega) (by omega)]
      exact hh
    · have e : p' = (q, x) := by simpa using hp'
      subst e
      obtain ⟨b, b2, b3, b4⟩ := h2 p hp
      refine ⟨?_, ?_⟩
      · show zV D' 50 0 p.2 < zV D' 50 0 x
        rw [h50, hd 50 p.2 b.1 b.2 (hne p hp) (by omega) (by omega)]
        omega
      · show ¬ zmeet (zV C' 20 p.1 0) (zV C' 20 p.1 1) (zV C' 20 q 0) (zV C' 20 q 1)
        rw [hc p hp 20 0 (by omega) (by omega), hc p hp 20 1 (by omega) (by omega)]
        exact hm p hp
  · rcases List.mem_append.mp hp with hp | hp
    · obtain ⟨b, b2, b3, b4⟩ := h2 p hp
      refine ⟨b, ?_, ?_, iEn_c (h4 p hp) b4 (hc p hp) (fun κ k1 k2 => hd κ p.2 b.1 b.2 (hne p hp) (by omega) k2) (fun κ j hj k1 k2 => hd2 κ p.2 j b.1 b.2 (hne p hp) hj k1 k2)⟩
      · rw [hd 49 p.2 b.1 b.2 (hne p hp) (by omega) (by omega)]; exact b2
      · rw [hd 50 p.2 b.1 b.2 (hne p hp) (by omega) (by omega)]; omega
    · have e : p = (q, x) := by simpa using hp
      subst e
      exact ⟨hx, h49, by show zV D' 50 0 x ≤ _; rw [h50]; exact Int.le_refl _, he⟩
  · by_cases z : s = x
    · exact ⟨(q, x), List.mem_append.mpr (Or.inr (List.mem_cons.mpr (Or.inl rfl))), z.symm⟩
    · rw [hd 49 s h5 h6 z (by omega) (by omega)] at h7
      obtain ⟨p, hp, e⟩ := h3 s h5 h6 h7
      exact ⟨p, List.mem_append.mpr (Or.inl hp), e⟩
theorem i_del {C D : zMem} {r j : Nat} {Z : List (Nat × Nat)} {p : Nat × Nat} (h : iY C D r Z) (h4 : ∀ p ∈ Z, zV C 21 p.1 3 ≤ 4) (hp : Z[j]? = some p) : iY C (zup D 49 0 p.2 (zI 0)) r (Z.eraseIdx j) ∧ ∀ p' ∈ Z.eraseIdx j, p'.2 ≠ p.2 := by
  obtain ⟨A, B, e1, e2, e3⟩ := i_split Z j p hp
  have hdis := i_dist h
  have hne : ∀ p' ∈ Z.eraseIdx j, p'.2 ≠ p.2 := fun p' hp' => by
    rw [e1, List.pairwise_append, List.pairwise_cons] at hdis
    rw [e3] at hp'
    rcases List.mem_append.mp hp' with m | m
    · exact hdis.2.2 p' m p (List.mem_cons.mpr (Or.inl rfl))
    · exact (hdis.2.1.1 p' m).symm
  obtain ⟨h1, h2, h3⟩ := h
  refine ⟨⟨?_, fun p' hp' => ?_, fun s h5 h6 h7 => ?_⟩, hne⟩
  · refine (List.Pairwise.sublist (List.eraseIdx_sublist Z j) h1).imp ?_
    intro a b hh
    rw [zV_ne (show (50 : Nat) ≠ 49 by decide), zV_ne (show (50 : Nat) ≠ 49 by decide)]
    exact hh
  · have m := List.mem_of_mem_eraseIdx hp'
    obtain ⟨b, b2, b3, b4⟩ := h2 p' m
    refine ⟨b, ?_, ?_, iEn_c (h4 p' m) b4 (fun _ _ _ _ => rfl) (fun κ k1 k2 => zV_ne (by omega)) (fun κ j hj k1 k2 => zV_ne (by omega))⟩
    · rw [zV_nj (hne p' hp')]; exact b2
    · rw [zV_ne (by decide), zV_ne (by decide)]; exact b3
  · by_cases z : s = p.2
    · exfalso
      rw [z, zV_eq (by decide)] at h7
      exact h7 rfl
    · rw [zV_nj z] at h7
      obtain ⟨p', hp', e⟩ := h3 s h5 h6 h7
      refine ⟨p', ?_, e⟩
      rw [e3]
      rw [e1] at hp'
      rcases List.mem_append.mp hp' with m | m
      · exact List.mem_append.mpr (Or.inl m)
      · rcases List.mem_cons.mp m with m | m
        · exact absurd (by rw [← e, m]) z
        · exact List.mem_append.mpr (Or.inr m)
theorem i_clr {C D D' : zMem} {r : Nat} {v b : Int} {Z : List (Nat × Nat)} (h : iY C D r Z) (h4 : ∀ p ∈ Z, zV C 21 p.1 3 ≤ 4) (hz : zclr D D' (r : Int) v b (8 * (r : Int) + 8)) : iY C D' r (Z.filter (fun p => zkeep C v b (p.1 : Int))) := by
  obtain ⟨h1, h2, h3⟩ := h
  obtain ⟨z1, z2⟩ := hz
  have fd : ∀ κ s : Nat, κ ≠ 49 → zV D' κ 0 s = zV D κ 0 s := fun κ s q => zV_of (z2 κ 0 s (fun w => q w.1))
  have hk : ∀ p : Nat × Nat, zkeep C v b (p.1 : Int) = true ↔ ¬ zmeet (zV C 20 p.1 0) (zV C 20 p.1 1) v b := fun p => by
    constructor
    · intro a w
      exact zkeep_f (M := C) (y := (p.1 : Int)) (by rw [Int.toNat_natCast]; exact w) a
    · intro a
      exact zkeep_t (M := C) (y := (p.1 : Int)) (by rw [Int.toNat_natCast]; exact a)
  refine ⟨?_, fun p hp => ?_, fun s h5 h6 h7 => ?_⟩
  · refine (List.Pairwise.sublist List.filter_sublist h1).imp ?_
    intro a c hh
    rw [fd 50 _ (by decide), fd 50 _ (by decide)]
    exact hh
  · obtain ⟨m, hkp⟩ := List.mem_filter.mp hp
    have hkp := (hk p).mp hkp
    obtain ⟨c1, c2, c3, c4⟩ := h2 p m
    refine ⟨c1, ?_, ?_, iEn_c (h4 p m) c4 (fun _ _ _ _ => rfl) (fun κ k1 k2 => fd κ _ (by omega)) (fun κ j hj k1 k2 => fd κ _ (by omega))⟩
    · rw [(z1 p.2).2 (fun w => hkp (by have := w.2; rw [c4.1.1, c4.1.2] at this; exact this))]; exact c2
    · rw [fd 50 _ (by decide), fd 26 _ (by decide)]; exact c3
  · by_cases w : zmeet (zV D 52 0 s) (zV D 53 0 s) v b
    · exact absurd ((z1 s).1 ⟨by omega, w⟩) h7
    · rw [(z1 s).2 (fun z => w z.2)] at h7
      obtain ⟨p, hp, e⟩ := h3 s h5 h6 h7
      refine ⟨p, List.mem_filter.mpr ⟨hp, (hk p).mpr ?_⟩, e⟩
      have c4 := (h2 p hp).2.2.2
      rw [← c4.1.1, ← c4.1.2, e]
      exact w
theorem i_fre {C D D' : zMem} {r : Nat} {Z : List (Nat × Nat)} (h : iY C D r Z) (h4 : ∀ p ∈ Z, zV C 21 p.1 3 ≤ 4) (h8 : Z.length ≤ 8) (hf : zfr1 D D' r) : iY C D' r (if 8 ≤ Z.length then Z.tail else Z) := by
  have hl := i_len h
  rcases hf with ⟨e, j, hj, hc, e2⟩ | ⟨e, e2⟩
  · rw [e] at hl
    rw [if_pos (by omega)]
    obtain ⟨p, m, e3⟩ := h.2.2 (8 * r + j) (by omega) (by omega) hc.1
    obtain ⟨i, hi⟩ := List.getElem?_of_mem m
    have e4 := i_idx h hi
    rw [e3, hc.2] at e4
    have e5 : i = 0 := by omega
    rw [e5] at hi
    have h9 := (i_del h h4 hi).1
    rw [e3, ← e2, List.eraseIdx_zero] at h9
    exact h9
  · rw [if_neg (by omega), e2]
    exact h
