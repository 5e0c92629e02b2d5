/-! the registry's changes -/
theorem i_has {C D : zMem} (h : iA C D) {v b : Int} : zhas C v b ↔ znhas D v b := by
  obtain ⟨a, b1, c, d⟩ := h
  constructor
  · rintro ⟨i, h1, h2, h3, h4⟩
    have h1' : (i : Int) < zV C 1 0 1 := h1
    obtain ⟨⟨a1, a2, a3⟩, ⟨b2, b3⟩, -⟩ := c i (by omega)
    exact ⟨i, by show _ < zV D 26 0 4; rw [b1]; exact h1, b3.trans h2, a2.trans h3, a3.trans h4⟩
  · rintro ⟨i, h1, h2, h3, h4⟩
    have h1' : (i : Int) < zV D 26 0 4 := h1
    rw [b1] at h1'
    obtain ⟨⟨a1, a2, a3⟩, ⟨b2, b3⟩, -⟩ := c i (by omega)
    exact ⟨i, h1', b3.symm.trans h2, a2.symm.trans h3, a3.symm.trans h4⟩
theorem i_loc {C D : zMem} (h : iA C D) {m : Nat} (hm : m < 24) {a : Int} : zloc C m a ↔ znloc D m a := by
  obtain ⟨-, -, -, ⟨d1, d2⟩, e1, -⟩ := h.2.2.1 m hm
  constructor
  · rintro ⟨j, h1, h2⟩
    exact ⟨j, by rw [d2]; exact h1, ((e1 j (by omega)).2.1).trans h2⟩
  · rintro ⟨j, h1, h2⟩
    rw [d2] at h1
    exact ⟨j, h1, ((e1 j (by omega)).2.1).symm.trans h2⟩
theorem i_reg {n : Nat} {C D C' D1 D' : zMem} {v b : Int} (h : iN n C D) (hv : zvp v b) (hc : zmn C < 24 ∧ ¬ zhas C v b) (h1 : zsolk (zreg C v b) C' (zmn C).toNat 3) (ht : zthr D D1 0) (h2 : zmsk (znreg D1 v b) D' (znn D).toNat 24) : iN (n + 1) C' D' := by
  have hA := h.1
  obtain ⟨a, b1, c, d⟩ := hA
  obtain ⟨hc1, hc2⟩ := hc
  have hc1 : zV C 1 0 1 < 24 := hc1
  obtain ⟨⟨v0, v1, v2, v3⟩, v4⟩ := hv
  have e26 : zV D1 26 0 4 = zV C 1 0 1 := (zV_of (ht.2 26 0 4 (by omega))).trans b1
  obtain ⟨m, hm⟩ : ∃ m : Nat, zV C 1 0 1 = (m : Int) := ⟨(zV C 1 0 1).toNat, by omega⟩
  have em : (zmn C).toNat = m := by show (zV C 1 0 1).toNat = m; omega
  have em2 : (znn D).toNat = m := by show (zV D 26 0 4).toNat = m; omega
  rw [em] at h1
  rw [em2] at h2
  refine i_solN (C := zreg C v b) (D := znreg D1 v b) ?_ (by omega) h1 h2
  have f1 : ∀ κ i j : Nat, ¬ (κ = 26 ∧ j = 0) → zV D1 κ i j = zV D κ i j := fun κ i j q => zV_of (ht.2 κ i j (fun z => q ⟨z.1, z.2.2⟩))
  unfold zreg znreg
  rw [e26, hm]
  simp only [Int.toNat_natCast]
  refine i_upA h ?_ (fun κ i j q => by rw [zup_at (by omega), zup_at (by omega), zup_at (by omega)]) (fun κ i j q1 q2 => by rw [zup_at (by omega), zup_at (by omega), zup_at (by omega), zup_at (by omega)]; exact ht.2 κ i j (by omega))
  have g1 : zV (zup (zup (zup C 4 m 0 (zI v)) 4 m 1 (zI b)) 1 0 1 (zI ((m : Int) + 1))) 1 0 1 = (m : Int) + 1 := zV_eq (by omega)
  refine ⟨by rw [g1]; omega, ?_, fun i hi => ?_, fun i i' h5 h6 h7 h8 h9 h10 => ?_⟩
  · rw [g1, zV_ne (by decide), zV_ne (by decide), zV_ne (by decide)]
    exact zV_eq (by omega)
  · by_cases q : i = m
    · subst q
      obtain ⟨⟨a1, a2, a3⟩, ⟨b2, b3⟩, ⟨c1, c2⟩, ⟨d1, d2⟩, x1, y1⟩ := c i hi
      have c3 := c2 (by omega)
      refine ⟨⟨?_, ?_, ?_⟩, ⟨?_, ?_⟩, ⟨fun _ => ?_, fun z => ?_⟩, ⟨?_, ?_⟩, fun j hj => ?_, fun j j' hj hj' => ?_⟩
      · rw [zV_ne (by decide), zV_nj (by decide), zV_eq (by omega), zV_ne (by decide), zV_eq (by omega)]
        exact ⟨⟨v0, v1, v2, v3⟩, v4⟩
      · rw [zV_ne (by decide), zV_ne (by decide), zV_eq (by omega), zV_ne (by decide), zV_nj (by decide), zV_eq (by omega)]
      · rw [zV_ne (by decide), zV_eq (by omega), zV_ne (by decide), zV_eq (by omega)]
      · rw [zV_ne (by decide), zV_ne (by decide), zV_ne (by decide)]; exact b2
      · rw [zV_ne (by decide), zV_ne (by decide), zV_ne (by decide), zV_ne (by decide), f1 _ _ _ (by omega), zV_ne (by decide), zV_ne (by decide), zV_ne (by decide)]; exact b3
      · rw [zV_eq (by decide), zV_ne (by decide), zV_ne (by decide), zV_ne (by decide)]; exact c3.2.1.symm
      · rw [g1] at z
        omega
      · rw [zV_ne (by decide), zV_ne (by decide), zV_ne (by decide)]; exact d1
      · rw [zV_ne (by decide), zV_ne (by decide), zV_ne (by decide), zV_ne (by decide), f1 _ _ _ (by omega), zV_ne (by decide), zV_ne (by decide), zV_ne (by decide)]; exact d2
      · simp only [zV_ne (show (6 : Nat) ≠ 1 by decide), zV_ne (show (6 : Nat) ≠ 4 by decide), zV_ne (show (7 : Nat) ≠ 1 by decide), zV_ne (show (7 : Nat) ≠ 4 by decide), zV_ne (show (8 : Nat) ≠ 1 by decide), zV_ne (show (8 : Nat) ≠ 4 by decide)]
        rw [zV_ne (by decide), zV_ne (by decide), zV_ne (by decide), zV_ne (by decide), zV_ne (by decide), zV_ne (by decide), zV_ne (by decide), zV_ne (by decide), zV_ne (by decide), zV_ne (by decide), zV_ne (by decide), zV_ne (by decide), f1 _ _ _ (by omega), f1 _ _ _ (by omega), f1 _ _ _ (by omega)]
        exact x1 j hj
      · simp only [zV_ne (show (6 : Nat) ≠ 1 by decide), zV_ne (show (6 : Nat) ≠ 4 by decide), zV_ne (show (5 : Nat) ≠ 1 by decide), zV_ne (show (5 : Nat) ≠ 4 by decide)] at hj hj' ⊢
        exact y1 j j' hj hj'
    · refine iAm_c (c i hi) ?_ (fun κ j q1 q2 => ?_) (fun κ q1 q2 => ?_) (fun κ j _ q1 q2 => ?_)
      · rw [g1, hm]; omega
      · rw [zV_ne (by omega), zV_ni q, zV_ni q]
      · rw [zV_nj q, zV_nj q, zV_nj q, zV_ne (by omega)]; exact f1 _ _ _ (by omega)
      · rw [zV_ne (by omega), zV_ne (by omega), zV_ne (by omega), zV_ne (by omega)]; exact f1 _ _ _ (by omega)
  · have k0 : ∀ i j : Nat, i ≠ m → zV (zup (zup (zup C 4 m 0 (zI v)) 4 m 1 (zI b)) 1 0 1 (zI ((m : Int) + 1))) 4 i j = zV C 4 i j := fun i j q => by rw [zV_ne (by decide), zV_ni q, zV_ni q]
    have kv : zV (zup (zup (zup C 4 m 0 (zI v)) 4 m 1 (zI b)) 1 0 1 (zI ((m : Int) + 1))) 4 m 0 = v := by rw [zV_ne (by decide), zV_nj (by decide), zV_eq (by omega)]
    have kb : zV (zup (zup (zup C 4 m 0 (zI v)) 4 m 1 (zI b)) 1 0 1 (zI ((m : Int) + 1))) 4 m 1 = b := by rw [zV_ne (by decide), zV_eq (by omega)]
    have k3 : ∀ i j : Nat, zV (zup (zup (zup C 4 m 0 (zI v)) 4 m 1 (zI b)) 1 0 1 (zI ((m : Int) + 1))) 3 i j = zV C 3 i j := fun i j => by rw [zV_ne (by decide), zV_ne (by decide), zV_ne (by decide)]
    rw [g1] at h5 h6
    rw [k3] at h7 h8
    by_cases q : i = m <;> by_cases q' : i' = m
    · rw [q, q']
    · exfalso
      rw [q, kv, k0 _ _ q'] at h9
      rw [q, kb, k0 _ _ q'] at h10
      exact hc2 ⟨i', by show _ < zV C 1 0 1; omega, h8, h9.symm, h10.symm⟩
    · exfalso
      rw [q', kv, k0 _ _ q] at h9
      rw [q', kb, k0 _ _ q] at h10
      exact hc2 ⟨i, by show _ < zV C 1 0 1; omega, h7, h9, h10⟩
    · rw [k0 _ _ q, k0 _ _ q'] at h9 h10
      exact d i i' (by omega) (by omega) h7 h8 h9 h10
