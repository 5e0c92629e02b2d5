theorem i_zcnt {g g' : Nat → Int} {k : Nat} (h : ∀ i, i < k → g i = g' i) : zcnt g k = zcnt g' k := by
  induction k with
  | zero => rfl
  | succ k ih =>
    show zcnt g k + (if g k = 0 then 1 else 0) = zcnt g' k + (if g' k = 0 then 1 else 0)
    rw [ih (fun i hi => h i (by omega)), h k (by omega)]
theorem i_wdx {C D : zMem} (h : iA C D) : zcnt (zmg C) (zV C 1 0 1).toNat = zcnt (zng D) (zV D 26 0 4).toNat := by
  obtain ⟨a, b1, c, d⟩ := h
  rw [b1]
  refine i_zcnt fun i hi => ?_
  exact ((c i (by omega)).2.1.2).symm
/-- a change of one mapping -/
theorem iA_one {C D C' D' : zMem} {m : Nat} (h : iA C D) (hn : zV C' 1 0 1 = zV C 1 0 1) (hn2 : zV D' 26 0 4 = zV D 26 0 4) (hc : ∀ κ i j : Nat, i ≠ m → 3 ≤ κ → κ ≤ 8 → zV C' κ i j = zV C κ i j) (hd : ∀ κ i : Nat, i ≠ m → 35 ≤ κ → κ ≤ 39 → zV D' κ 0 i = zV D κ 0 i) (hd2 : ∀ κ i j : Nat, i ≠ m → j < 4 → 40 ≤ κ → κ ≤ 42 → zV D' κ 0 (4 * i + j) = zV D κ 0 (4 * i + j)) (hm : iAm C' D' m) (h4 : zV C' 4 m 0 = zV C 4 m 0 ∧ zV C' 4 m 1 = zV C 4 m 1) (h3 : zV C' 3 m 3 = 0 → zV C 3 m 3 = 0) : iA C' D' := by
  obtain ⟨a, b1, c, d⟩ := h
  have k4 : ∀ i, zV C' 4 i 0 = zV C 4 i 0 ∧ zV C' 4 i 1 = zV C 4 i 1 := fun i => by
    by_cases q : i = m
    · rw [q]; exact h4
    · exact ⟨hc 4 i 0 q (by omega) (by omega), hc 4 i 1 q (by omega) (by omega)⟩
  have k3 : ∀ i, zV C' 3 i 3 = 0 → zV C 3 i 3 = 0 := fun i hz => by
    by_cases q : i = m
    · rw [q] at hz ⊢; exact h3 hz
    · rw [← hc 3 i 3 q (by omega) (by omega)]; exact hz
  refine ⟨by rw [hn]; exact a, by rw [hn, hn2]; exact b1, fun i hi => ?_, fun i i' h5 h6 h7 h8 h9 h10 => ?_⟩
  · by_cases q : i = m
    · rw [q]; exact hm
    · exact iAm_c (c i hi) (by rw [hn]) (fun κ j => hc κ i j q) (fun κ => hd κ i q) (fun κ j => hd2 κ i j q)
  · rw [hn] at h5 h6
    rw [(k4 i).1, (k4 i').1] at h9
    rw [(k4 i).2, (k4 i').2] at h10
    exact d i i' h5 h6 (k3 i h7) (k3 i' h8) h9 h10
theorem i_wdr {n : Nat} {C D C' D1 D' : zMem} {m : Nat} (h : iN n C D) (hm : (m : Int) < zV C 1 0 1) (hg : zV C 3 m 3 = 0) (h1 : zsolk (zup C 3 m 3 (zI 1)) C' m 3) (ht : zthr D D1 0) (h2 : zmsk (zup D1 37 0 m (zI 1)) D' m 24) : iN (n + 1) C' D' := by
  have hA := h.1
  have hm2 : m < 24 := by have := hA.1; omega
  have f1 : ∀ κ i j : Nat, ¬ (κ = 26 ∧ j = 0) → zV D1 κ i j = zV D κ i j := fun κ i j q => zV_of (ht.2 κ i j (fun z => q ⟨z.1, z.2.2⟩))
  refine i_solN ?_ hm2 h1 h2
  refine i_upA h ?_ (fun κ i j q => by rw [zup_at (by omega)]) (fun κ i j q1 q2 => by rw [zup_at (by omega)]; exact ht.2 κ i j (by omega))
  obtain ⟨⟨a1, a2, a3⟩, ⟨b2, b3⟩, ⟨c1, c2⟩, ⟨d1, d2⟩, x1, y1⟩ := hA.2.2.1 m hm2
  refine iA_one (m := m) hA (zV_ne (by decide)) (by rw [zV_ne (by decide)]; exact f1 _ _ _ (by omega)) (fun κ i j q _ _ => zV_ni q) (fun κ i q _ _ => by rw [zV_nj q]; exact f1 _ _ _ (by omega)) (fun κ i j q _ _ _ => by rw [zV_ne (by omega)]; exact f1 _ _ _ (by omega)) ?_ ⟨zV_ne (by decide), zV_ne (by decide)⟩ (fun _ => hg)
  refine ⟨⟨?_, ?_, ?_⟩, ⟨?_, ?_⟩, ⟨fun z => ?_, fun z => ?_⟩, ⟨?_, ?_⟩, fun j hj => ?_, fun j j' hj hj' e => ?_⟩
  · rw [zV_ne (by decide), zV_ne (by decide)]; exact a1
  · rw [zV_ne (by decide), zV_ne (by decide), f1 _ _ _ (by omega)]; exact a2
  · rw [zV_ne (by decide), zV_ne (by decide), f1 _ _ _ (by omega)]; exact a3
  · rw [zV_eq (by decide)]; exact Or.inr rfl
  · rw [zV_eq (by decide), zV_eq (by decide)]
  · rw [zV_ne (by decide)] at z
    rw [zV_ne (by decide), zV_nj (by decide), f1 _ _ _ (by omega)]; exact c1 z
  · rw [zV_ne (by decide)] at z
    exact absurd hm z
  · rw [zV_ne (by decide)]; exact d1
  · rw [zV_ne (by decide), zV_ne (by decide), f1 _ _ _ (by omega)]; exact d2
  · rw [zV_ne (show (6 : Nat) ≠ 3 by decide), zV_ne (show (7 : Nat) ≠ 3 by decide), zV_ne (show (8 : Nat) ≠ 3 by decide), zV_ne (show (40 : Nat) ≠ 37 by decide), zV_ne (show (41 : Nat) ≠ 37 by decide), zV_ne (show (42 : Nat) ≠ 37 by decide), f1 _ _ _ (by omega), f1 _ _ _ (by omega), f1 _ _ _ (by omega)]
    exact x1 j hj
  · rw [zV_ne (by decide)] at hj hj'
    rw [zV_ne (by decide), zV_ne (by decide)] at e
    exact y1 j j' hj hj' e
/-- a version one more, on both sides -/
theorem i_verA {C D : zMem} {m : Nat} (hA : iA C D) (hm : (m : Int) < zV C 1 0 1) : iA (zver C m) (znver D m) := by
  have hm2 : m < 24 := by have := hA.1; omega
  obtain ⟨⟨a1, a2, a3⟩, ⟨b2, b3⟩, ⟨c1, c2⟩, ⟨d1, d2⟩, x1, y1⟩ := hA.2.2.1 m hm2
  unfold zver znver
  rw [c1 hm]
  refine iA_one (m := m) hA (zV_ne (by decide)) (zV_ne (by decide)) (fun κ i j q _ _ => zV_ni q) (fun κ i q _ _ => zV_nj q) (fun κ i j q _ _ _ => zV_ne (by omega)) ?_ ⟨zV_ne (by decide), zV_ne (by decide)⟩ (fun z => by rw [zV_nj (by decide)] at z; exact z)
  refine ⟨⟨?_, ?_, ?_⟩, ⟨?_, ?_⟩, ⟨fun z => ?_, fun z => ?_⟩, ⟨?_, ?_⟩, fun j hj => ?_, fun j j' hj hj' e => ?_⟩
  · rw [zV_ne (by decide), zV_ne (by decide)]; exact a1
  · rw [zV_ne (by decide), zV_ne (by decide)]; exact a2
  · rw [zV_ne (by decide), zV_ne (by decide)]; exact a3
  · rw [zV_nj (by decide)]; exact b2
  · rw [zV_ne (by decide), zV_nj (by decide)]; exact b3
  · rw [zV_upw, zV_upw]
  · rw [zV_ne (by decide)] at z
    exact absurd hm z
  · rw [zV_ne (by decide)]; exact d1
  · rw [zV_ne (by decide), zV_ne (by decide)]; exact d2
  · rw [zV_ne (show (6 : Nat) ≠ 3 by decide), zV_ne (show (7 : Nat) ≠ 3 by decide), zV_ne (show (8 : Nat) ≠ 3 by decide), zV_ne (show (40 : Nat) ≠ 38 by decide), zV_ne (show (41 : Nat) ≠ 38 by decide), zV_ne (show (42 : Nat) ≠ 38 by decide)]
    exact x1 j hj
  · rw [zV_ne (by decide)] at hj hj'
    rw [zV_ne (by decide), zV_ne (by decide)] at e
    exact y1 j j' hj hj' e
/-- a locator more -/
theorem i_adlA {C D : zMem} {m k : Nat} {b p w : Int} (hA : iA C D) (hm : (m : Int) < zV C 1 0 1) (hk : zV C 5 m 3 = (k : Int)) (hk4 : k < 4) (hb : 0 ≤ b ∧ b < 32) (hp : 0 ≤ p ∧ p ≤ 3) (hw : 1 ≤ w ∧ w ≤ 10) (hl : ¬ zloc C m b) : iA (zup (zup (zup (zup C 6 m k (zI b)) 7 m k (zI p)) 8 m k (zI w)) 5 m 3 (zI ((k : Int) + 1))) (zup (zup (zup (zup D 39 0 m (zI ((k : Int) + 1))) 40 0 (4 * m + k) (zI b)) 41 0 (4 * m + k) (zI p)) 42 0 (4 * m + k) (zI w)) := by
  have hm2 : m < 24 := by have := hA.1; omega
  obtain ⟨⟨a1, a2, a3⟩, ⟨b2, b3⟩, ⟨c1, c2⟩, ⟨d1, d2⟩, x1, y1⟩ := hA.2.2.1 m hm2
  refine iA_one (m := m) hA (by rw [zV_ne (by decide), zV_ne (by decide), zV_ne (by decide), zV_ne (by decide)]) (by rw [zV_ne (by decide), zV_ne (by decide), zV_ne (by decide), zV_ne (by decide)]) (fun κ i j q _ _ => by rw [zV_ni q, zV_ni q, zV_ni q, zV_ni q]) (fun κ i q _ _ => by rw [zV_ne (by omega), zV_ne (by omega), zV_ne (by omega), zV_nj q]) (fun κ i j q _ _ _ => by rw [zV_nj (by omega), zV_nj (by omega), zV_nj (by omega), zV_ne (by omega)]) ?_ ⟨by rw [zV_ne (by decide), zV_ne (by decide), zV_ne (by decide), zV_ne (by decide)], by rw [zV_ne (by decide), zV_ne (by decide), zV_ne (by decide), zV_ne (by decide)]⟩ (fun z => by rw [zV_ne (by decide), zV_ne (by decide), zV_ne (by decide), zV_ne (by decide)] at z; exact z)
  have k5 : zV (zup (zup (zup (zup C 6 m k (zI b)) 7 m k (zI p)) 8 m k (zI w)) 5 m 3 (zI ((k : Int) + 1))) 5 m 3 = (k : Int) + 1 := zV_eq (by omega)
  have k6 : ∀ j, j ≠ k → zV (zup (zup (zup (zup C 6 m k (zI b)) 7 m k (zI p)) 8 m k (zI w)) 5 m 3 (zI ((k : Int) + 1))) 6 m j = zV C 6 m j := fun j q => by rw [zV_ne (by decide), zV_ne (by decide), zV_ne (by decide), zV_nj q]
  have k6b : zV (zup (zup (zup (zup C 6 m k (zI b)) 7 m k (zI p)) 8 m k (zI w)) 5 m 3 (zI ((k : Int) + 1))) 6 m k = b := by rw [zV_ne (by decide), zV_ne (by decide), zV_ne (by decide), zV_eq (by omega)]
  have k7 : ∀ j, j ≠ k → zV (zup (zup (zup (zup C 6 m k (zI b)) 7 m k (zI p)) 8 m k (zI w)) 5 m 3 (zI ((k : Int) + 1))) 7 m j = zV C 7 m j := fun j q => by rw [zV_ne (by decide), zV_ne (by decide), zV_nj q, zV_ne (by decide)]
  have k7b : zV (zup (zup (zup (zup C 6 m k (zI b)) 7 m k (zI p)) 8 m k (zI w)) 5 m 3 (zI ((k : Int) + 1))) 7 m k = p := by rw [zV_ne (by decide), zV_ne (by decide), zV_eq (by omega)]
  have k8 : ∀ j, j ≠ k → zV (zup (zup (zup (zup C 6 m k (zI b)) 7 m k (zI p)) 8 m k (zI w)) 5 m 3 (zI ((k : Int) + 1))) 8 m j = zV C 8 m j := fun j q => by rw [zV_ne (by decide), zV_nj q, zV_ne (by decide), zV_ne (by decide)]
  have k8b : zV (zup (zup (zup (zup C 6 m k (zI b)) 7 m k (zI p)) 8 m k (zI w)) 5 m 3 (zI ((k : Int) + 1))) 8 m k = w := by rw [zV_ne (by decide), zV_eq (by omega)]
  refine ⟨⟨?_, ?_, ?_⟩, ⟨?_, ?_⟩, ⟨fun z => ?_, fun z => ?_⟩, ⟨?_, ?_⟩, fun j hj => ?_, fun j j' hj hj' e => ?_⟩
  · rw [zV_ne (by decide), zV_ne (by decide), zV_ne (by decide), zV_ne (by decide), zV_ne (by decide), zV_ne (by decide), zV_ne (by decide), zV_ne (by decide)]; exact a1
  · rw [zV_ne (by decide), zV_ne (by decide), zV_ne (by decide), zV_ne (by decide), zV_ne (by decide), zV_ne (by decide), zV_ne (by decide), zV_ne (by decide)]; exact a2
  · rw [zV_ne (by decide), zV_ne (by decide), zV_ne (by decide), zV_ne (by decide), zV_ne (by decide), zV_ne (by decide), zV_ne (by decide), zV_ne (by decide)]; exact a3
  · rw [zV_ne (by decide), zV_ne (by decide), zV_ne (by decide), zV_ne (by decide)]; exact b2
  · rw [zV_ne (by decide), zV_ne (by decide), zV_ne (by decide), zV_ne (by decide), zV_ne (by decide), zV_ne (by decide), zV_ne (by decide), zV_ne (by decide)]; exact b3
  · rw [zV_ne (by decide), zV_ne (by decide), zV_ne (by decide), zV_ne (by decide), zV_ne (by decide), zV_ne (by decide), zV_ne (by decide), zV_ne (by decide)]; exact c1 hm
  · rw [zV_ne (by decide), zV_ne (by decide), zV_ne (by decide), zV_ne (by decide)] at z
    exact absurd hm z
  · rw [k5]; omega
  · rw [k5, zV_ne (by decide), zV_ne (by decide), zV_ne (by decide), zV_eq (by omega)]
  · by_cases q : j = k
    · rw [q, k6b, k7b, k8b]
      refine ⟨⟨hb, hp⟩, ?_, ?_, ?_⟩
      · rw [zV_ne (by decide), zV_ne (by decide), zV_eq (by omega)]
      · rw [zV_ne (by decide), zV_eq (by omega)]
      · rw [zV_eq (by omega)]
    · rw [k6 j q, k7 j q, k8 j q, zV_nj (by omega), zV_nj (by omega), zV_nj (by omega), zV_ne (by decide), zV_nj (by omega), zV_nj (by omega), zV_nj (by omega), zV_ne (by decide), zV_nj (by omega), zV_nj (by omega), zV_nj (by omega), zV_ne (by decide)]
      exact x1 j hj
  · rw [k5] at hj hj'
    by_cases q : j = k <;> by_cases q' : j' = k
    · rw [q, q']
    · exfalso
      rw [q, k6b, k6 _ q'] at e
      exact hl ⟨j', by omega, e.symm⟩
    · exfalso
      rw [q', k6b, k6 _ q] at e
      exact hl ⟨j, by omega, e⟩
    · rw [k6 _ q, k6 _ q'] at e
      exact y1 j j' (by omega) (by omega) e
/-- a locator's address another one -/
theorem i_movA {C D : zMem} {m k : Nat} {t : Int} (hA : iA C D) (hm : (m : Int) < zV C 1 0 1) (hk : (k : Int) < zV C 5 m 3) (ht : 0 ≤ t ∧ t < 32) (hl : ¬ zloc C m t) : iA (zup C 6 m k (zI t)) (zup D 40 0 (4 * m + k) (zI t)) := by
  have hm2 : m < 24 := by have := hA.1; omega
  obtain ⟨⟨a1, a2, a3⟩, ⟨b2, b3⟩, ⟨c1, c2⟩, ⟨d1, d2⟩, x1, y1⟩ := hA.2.2.1 m hm2
  refine iA_one (m := m) hA (zV_ne (by decide)) (zV_ne (by decide)) (fun κ i j q _ _ => zV_ni q) (fun κ i q _ _ => zV_ne (by omega)) (fun κ i j q _ _ _ => zV_nj (by omega)) ?_ ⟨zV_ne (by decide), zV_ne (by decide)⟩ (fun z => by rw [zV_ne (by decide)] at z; exact z)
  have k6 : ∀ j, j ≠ k → zV (zup C 6 m k (zI t)) 6 m j = zV C 6 m j := fun j q => zV_nj q
  have k6b : zV (zup C 6 m k (zI t)) 6 m k = t := zV_eq (by omega)
  refine ⟨⟨?_, ?_, ?_⟩, ⟨?_, ?_⟩, ⟨fun z => ?_, fun z => ?_⟩, ⟨?_, ?_⟩, fun j hj => ?_, fun j j' hj hj' e => ?_⟩
  · rw [zV_ne (by decide), zV_ne (by decide)]; exact a1
  · rw [zV_ne (by decide), zV_ne (by decide)]; exact a2
  · rw [zV_ne (by decide), zV_ne (by decide)]; exact a3
  · rw [zV_ne (by decide)]; exact b2
  · rw [zV_ne (by decide), zV_ne (by decide)]; exact b3
  · rw [zV_ne (by decide), zV_ne (by decide)]; exact c1 hm
  · rw [zV_ne (by decide)] at z
    exact absurd hm z
  · rw [zV_ne (by decide)]; exact d1
  · rw [zV_ne (by decide), zV_ne (by decide)]; exact d2
  · rw [zV_ne (show (7 : Nat) ≠ 6 by decide), zV_ne (show (8 : Nat) ≠ 6 by decide), zV_ne (show (41 : Nat) ≠ 40 by decide), zV_ne (show (42 : Nat) ≠ 40 by decide)]
    have x2 := x1 j hj
    by_cases q : j = k
    · rw [q, k6b, zV_eq (by omega)]
      rw [q] at x2
      exact ⟨⟨ht, x2.1.2⟩, rfl, x2.2.2⟩
    · rw [k6 j q, zV_nj (by omega)]
      exact x2
  · rw [zV_ne (by decide)] at hj hj'
    by_cases q : j = k <;> by_cases q' : j' = k
    · rw [q, q']
    · exfalso
      rw [q, k6b, k6 _ q'] at e
      exact hl ⟨j', by omega, e.symm⟩
    · exfalso
      rw [q', k6b, k6 _ q] at e
      exact hl ⟨j, by omega, e⟩
    · rw [k6 _ q, k6 _ q'] at e
      exact y1 j j' (by omega) (by omega) e
/-- a locator less -/
theorem i_remA {C D C' D' : zMem} {m k c : Nat} (hA : iA C D) (hm : (m : Int) < zV C 1 0 1) (hc : zV C 5 m 3 = (c : Int)) (hk : k < c) (h1 : zshift C C' m (k : Int) ((c : Int) - 1) ((c : Int) - 1)) (h2 : zmsh (zup D 39 0 m (zI ((c : Int) - 1))) D' ((4 * m + k : Nat) : Int) (4 * (m : Int) + ((c : Int) - 1))) : iA C' D' := by
  have hm2 : m < 24 := by have := hA.1; omega
  obtain ⟨⟨a1, a2, a3⟩, ⟨b2, b3⟩, ⟨c1, c2⟩, ⟨d1, d2⟩, x1, y1⟩ := hA.2.2.1 m hm2
  obtain ⟨s0, s6, s7, s8, s9⟩ := h1
  obtain ⟨t6, t7, t8, t9⟩ := h2
  have fc : ∀ κ i j : Nat, ¬ (i = m ∧ (κ = 5 ∧ j = 3 ∨ κ = 6 ∨ κ = 7 ∨ κ = 8)) → zV C' κ i j = zV C κ i j := fun κ i j q => zV_of (s9 κ i j q)
  have fd : ∀ κ j : Nat, ¬ (κ = 40 ∨ κ = 41 ∨ κ = 42) → ¬ (κ = 39 ∧ j = m) → zV D' κ 0 j = zV D κ 0 j := fun κ j q1 q2 => (zV_of (t9 κ 0 j (fun z => q1 z.2))).trans (by rw [zV_upg, if_neg (fun z => q2 ⟨z.1, z.2.2⟩)])
  have e39 : zV D' 39 0 m = (c : Int) - 1 := (zV_of (t9 39 0 m (by omega))).trans (zV_eq (by omega))
  have r6 : ∀ q : Nat, zV D' 40 0 q = if ((4 * m + k : Nat) : Int) ≤ q ∧ (q : Int) < 4 * (m : Int) + ((c : Int) - 1) then zV D 40 0 (q + 1) else zV D 40 0 q := fun q => by rw [t6 q, zV_ne (by decide), zV_ne (by decide)]
  have r7 : ∀ q : Nat, zV D' 41 0 q = if ((4 * m + k : Nat) : Int) ≤ q ∧ (q : Int) < 4 * (m : Int) + ((c : Int) - 1) then zV D 41 0 (q + 1) else zV D 41 0 q := fun q => by rw [t7 q, zV_ne (by decide), zV_ne (by decide)]
  have r8 : ∀ q : Nat, zV D' 42 0 q = if ((4 * m + k : Nat) : Int) ≤ q ∧ (q : Int) < 4 * (m : Int) + ((c : Int) - 1) then zV D 42 0 (q + 1) else zV D 42 0 q := fun q => by rw [t8 q, zV_ne (by decide), zV_ne (by decide)]
  refine iA_one (m := m) hA (fc _ _ _ (by omega)) (fd _ _ (by omega) (by omega)) (fun κ i j q _ _ => fc _ _ _ (by omega)) (fun κ i q _ _ => fd _ _ (by omega) (by omega)) (fun κ i j q hj q1 q2 => ?_) ?_ ⟨fc _ _ _ (by omega), fc _ _ _ (by omega)⟩ (fun z => by rw [fc _ _ _ (by omega)] at z; exact z)
  · have z : ¬ (((4 * m + k : Nat) : Int) ≤ ((4 * i + j : Nat) : Int) ∧ ((4 * i + j : Nat) : Int) < 4 * (m : Int) + ((c : Int) - 1)) := by omega
    have q3 : κ = 40 ∨ κ = 41 ∨ κ = 42 := by omega
    rcases q3 with q3 | q3 | q3
    · rw [q3, r6, if_neg z]
    · rw [q3, r7, if_neg z]
    · rw [q3, r8, if_neg z]
  refine ⟨⟨?_, ?_, ?_⟩, ⟨?_, ?_⟩, ⟨fun z => ?_, fun z => ?_⟩, ⟨?_, ?_⟩, fun j hj => ?_, fun j j' hj hj' e => ?_⟩
  · rw [fc 4 m 0 (by omega), fc 4 m 1 (by omega)]; exact a1
  · rw [fd _ _ (by omega) (by omega), fc _ _ _ (by omega)]; exact a2
  · rw [fd _ _ (by omega) (by omega), fc _ _ _ (by omega)]; exact a3
  · rw [fc _ _ _ (by omega)]; exact b2
  · rw [fd _ _ (by omega) (by omega), fc _ _ _ (by omega)]; exact b3
  · rw [fd _ _ (by omega) (by omega), fc _ _ _ (by omega)]; exact c1 hm
  · rw [fc _ _ _ (by omega)] at z
    exact absurd hm z
  · rw [s0]; omega
  · rw [s0, e39]
  · rw [s6, s7, s8, r6, r7, r8]
    by_cases z : (k : Int) ≤ j ∧ (j : Int) < (c : Int) - 1
    · have z2 : ((4 * m + k : Nat) : Int) ≤ ((4 * m + j : Nat) : Int) ∧ ((4 * m + j : Nat) : Int) < 4 * (m : Int) + ((c : Int) - 1) := by omega
      rw [if_pos z, if_pos z, if_pos z, if_pos z2, if_pos z2, if_pos z2]
      exact x1 (j + 1) (by omega)
    · have z2 : ¬ (((4 * m + k : Nat) : Int) ≤ ((4 * m + j : Nat) : Int) ∧ ((4 * m + j : Nat) : Int) < 4 * (m : Int) + ((c : Int) - 1)) := by omega
      rw [if_neg z, if_neg z, if_neg z, if_neg z2, if_neg z2, if_neg z2]
      exact x1 j hj
  · rw [s0] at hj hj'
    rw [s6, s6] at e
    by_cases z : (k : Int) ≤ j ∧ (j : Int) < (c : Int) - 1 <;> by_cases z' : (k : Int) ≤ j' ∧ (j' : Int) < (c : Int) - 1
    · rw [if_pos z, if_pos z'] at e
      have := y1 _ _ (by omega) (by omega) e
      omega
    · rw [if_pos z, if_neg z'] at e
      have := y1 _ _ (by omega) (by omega) e
      omega
    · rw [if_neg z, if_pos z'] at e
      have := y1 _ _ (by omega) (by omega) e
      omega
    · rw [if_neg z, if_neg z'] at e
      have := y1 _ _ (by omega) (by omega) e
      omega
