/-! the registry's changes -/
def iR (n : Nat) (C D : zMem) : Prop := iB C D ∧ iS n C D ∧ iC n C D ∧ iD C D ∧ iE n C D
theorem i_solM {n : Nat} {C D C' D' : zMem} {m : Nat} {v b : Int} (a : iA (n + 1) C D) (h : iR n C D) (hm : v = zV C 4 m 0 ∧ b = zV C 4 m 1) (h1 : zsolk C C' m 3) (h2 : jsk D D' v b 16) : iN (n + 1) C' D' := by
  obtain ⟨b9, s, c, d, e⟩ := h
  have s4 := h1.2.2.2
  have t4 := h2.2.2.2
  exact ⟨iA_c a (by omega) (fun κ i j q1 q2 => zV_of (s4 _ _ _ (by omega) (by omega))) (zV_of (t4 _ _ _ (by omega) (by omega))) (fun κ j q1 q2 => zV_of (t4 _ _ _ (by omega) (by omega))),
    iB_c b9 (fun κ i j q1 => zV_of (s4 _ _ _ (by omega) (by omega))) (zV_of (t4 _ _ _ (by omega) (by omega))) (fun j => zV_of (t4 _ _ _ (by omega) (by omega))),
    iS_c s (by omega) (fun κ j q1 => zV_of (s4 _ _ _ (by omega) (by omega))) (fun j q1 => zV_of (t4 _ _ _ (by omega) (by omega))),
    i_solC hm c e h1 h2,
    iD_c d (fun r q => zV_of (s4 _ _ _ (by omega) (by omega))) (fun r hr => zV_of (t4 _ _ _ (by omega) (by omega))),
    i_solE hm e h1 h2⟩
theorem i_upR {n : Nat} {C D C' D' : zMem} (h : iN n C D) (hc : ∀ κ i j : Nat, κ < 26 → ¬ (1 ≤ κ ∧ κ ≤ 8) → zV C' κ i j = zV C κ i j) (hd : ∀ κ j : Nat, 29 ≤ κ → ¬ (κ = 36 ∧ j = 3) → zV D' κ 0 j = zV D κ 0 j) : iR n C' D' := by
  obtain ⟨a, b, s, c, d, e⟩ := h
  exact ⟨iB_c b (fun κ i j h1 => hc κ i j (by omega) (by omega)) (hd _ _ (by omega) (by omega)) (fun j => hd _ _ (by omega) (by omega)),
    iS_c s (Nat.le_refl n) (fun κ j h1 => hc κ 0 j (by omega) (by omega)) (fun j h1 => hd _ _ (by omega) (by omega)),
    iC_c c (Nat.le_refl n) (fun j => hc _ _ _ (by omega) (by omega)) (fun j h1 => hd _ _ (by omega) (by omega)),
    iD_c d (fun r q => hc _ _ _ (by omega) (by omega)) (fun r hr => hd _ _ (by omega) (by omega)),
    iE_c e (Nat.le_refl n) (fun κ i j h1 => hc _ _ _ (by omega) (by omega)) (hd _ _ (by omega) (by omega)) (fun κ j h1 h2 => hd _ _ (by omega) (by omega))⟩
theorem iAm_i {n n' : Nat} {C D C' D' : zMem} {i : Nat} (h : iAm n C D i) (hnn : n ≤ n') (hn : (i : Int) < zV C' 1 0 1 ↔ (i : Int) < zV C 1 0 1) (hc : ∀ κ j : Nat, 3 ≤ κ → κ ≤ 8 → zV C' κ i j = zV C κ i j) (hd : ∀ κ : Nat, κ = 26 ∨ κ = 27 → zV D' κ 0 i = zV D κ 0 i) (hd2 : ∀ j : Nat, j < 4 → zV D' 28 0 (4 * i + j) = zV D 28 0 (4 * i + j)) : iAm n' C' D' i := by
  obtain ⟨⟨a1, a2, a3, a4⟩, b, c, d, e, f, g⟩ := h
  unfold iAm
  rw [hn, hc 4 0 (by omega) (by omega), hc 4 1 (by omega) (by omega), hc 3 3 (by omega) (by omega), hc 3 2 (by omega) (by omega), hc 5 3 (by omega) (by omega), hd 26 (by omega), hd 27 (by omega)]
  refine ⟨⟨a1, a2, a3, by omega⟩, b, c, d, fun j hj => ?_, fun j hj => ?_, fun j j' hj hj' he => ?_⟩
  · rw [hc 6 j (by omega) (by omega), hc 7 j (by omega) (by omega), hc 8 j (by omega) (by omega), hd2 j hj]
    exact e j hj
  · rw [hc 7 j (by omega) (by omega), hc 8 j (by omega) (by omega)]
    exact f j hj
  · rw [hc 6 j (by omega) (by omega), hc 6 j' (by omega) (by omega)] at he
    exact g j j' hj hj' he
/-- a change of one mapping -/
theorem iA_one {n n' : Nat} {C D C' D' : zMem} {m : Nat} (h : iA n C D) (hnn : n ≤ n') (hn : zV C' 1 0 1 = zV C 1 0 1) (hn2 : zV D' 36 0 3 = zV D 36 0 3) (hc : ∀ κ i j : Nat, i ≠ m → 3 ≤ κ → κ ≤ 8 → zV C' κ i j = zV C κ i j) (hd : ∀ κ i : Nat, i ≠ m → κ = 26 ∨ κ = 27 → zV D' κ 0 i = zV D κ 0 i) (hd2 : ∀ i j : Nat, i ≠ m → j < 4 → zV D' 28 0 (4 * i + j) = zV D 28 0 (4 * i + j)) (hm : iAm n' C' D' m) (h4 : zV C' 4 m 0 = zV C 4 m 0 ∧ zV C' 4 m 1 = zV C 4 m 1) (h3 : zV C' 3 m 3 = 0 → zV C 3 m 3 = 0) : iA n' C' D' := by
  obtain ⟨a, b1, c, d⟩ := h
  have k4 : ∀ i, zV C' 4 i 0 = zV C 4 i 0 ∧ zV C' 4 i 1 = zV C 4 i 1 := fun i => by
    by_cases q : i = m
    · rw [q]; exact h4
    · exact ⟨hc 4 i 0 q (by omega) (by omega), hc 4 i 1 q (by omega) (by omega)⟩
  have k3 : ∀ i, zV C' 3 i 3 = 0 → zV C 3 i 3 = 0 := fun i hz => by
    by_cases q : i = m
    · rw [q] at hz ⊢; exact h3 hz
    · rw [← hc 3 i 3 q (by omega) (by omega)]; exact hz
  refine ⟨by rw [hn]; exact a, by rw [hn, hn2]; exact b1, fun i hi => ?_, fun i i' h5 h6 h7 h8 h9 h10 => ?_⟩
  · by_cases q : i = m
    · rw [q]; exact hm
    · exact iAm_i (c i hi) hnn (by rw [hn]) (fun κ j => hc κ i j q) (fun κ => hd κ i q) (fun j => hd2 i j q)
  · rw [hn] at h5 h6
    rw [(k4 i).1, (k4 i').1] at h9
    rw [(k4 i).2, (k4 i').2] at h10
    exact d i i' h5 h6 (k3 i h7) (k3 i' h8) h9 h10
/-- a new mapping -/
theorem i_regA {n m : Nat} {C D : zMem} {v b pp : Int} (h : iA n C D) (hv : zvp v b) (hno : ¬ zhas C v b) (hm : zV C 1 0 1 = (m : Int)) (h16 : m < 16) (hp : pp = 32 * v + b) : iA (n + 1) (zup (zup (zup C 4 m 0 (zI v)) 4 m 1 (zI b)) 1 0 1 (zI ((m : Int) + 1))) (zup (zup (zup D 26 0 m (zI pp)) 27 0 m (zI 1)) 36 0 3 (zI ((m : Int) + 1))) := by
  obtain ⟨a, b1, c, d⟩ := h
  obtain ⟨⟨v0, v1, v2, v3⟩, v4⟩ := hv
  have g1 : zV (zup (zup (zup C 4 m 0 (zI v)) 4 m 1 (zI b)) 1 0 1 (zI ((m : Int) + 1))) 1 0 1 = (m : Int) + 1 := zV_eq (by omega)
  have k0 : ∀ κ i j : Nat, κ ≠ 1 → ¬ (κ = 4 ∧ i = m) → zV (zup (zup (zup C 4 m 0 (zI v)) 4 m 1 (zI b)) 1 0 1 (zI ((m : Int) + 1))) κ i j = zV C κ i j := fun κ i j q1 q2 => by
    rw [zV_ne q1, zV_upg, if_neg (fun z => q2 ⟨z.1, z.2.1⟩), zV_upg, if_neg (fun z => q2 ⟨z.1, z.2.1⟩)]
  have kv : zV (zup (zup (zup C 4 m 0 (zI v)) 4 m 1 (zI b)) 1 0 1 (zI ((m : Int) + 1))) 4 m 0 = v := by rw [zV_ne (by decide), zV_nj (by decide), zV_eq (by omega)]
  have kb : zV (zup (zup (zup C 4 m 0 (zI v)) 4 m 1 (zI b)) 1 0 1 (zI ((m : Int) + 1))) 4 m 1 = b := by rw [zV_ne (by decide), zV_eq (by omega)]
  have e0 : ∀ κ j : Nat, ¬ (κ = 36 ∧ j = 3) → ¬ (κ = 27 ∧ j = m) → ¬ (κ = 26 ∧ j = m) → zV (zup (zup (zup D 26 0 m (zI pp)) 27 0 m (zI 1)) 36 0 3 (zI ((m : Int) + 1))) κ 0 j = zV D κ 0 j := fun κ j q1 q2 q3 => by
    rw [zV_upg, if_neg (fun z => q1 ⟨z.1, z.2.2⟩), zV_upg, if_neg (fun z => q2 ⟨z.1, z.2.2⟩), zV_upg, if_neg (fun z => q3 ⟨z.1, z.2.2⟩)]
  refine ⟨by rw [g1]; omega, by rw [g1]; exact zV_eq (by omega), fun i hi => ?_, fun i i' h5 h6 h7 h8 h9 h10 => ?_⟩
  · by_cases q : i = m
    · subst q
      obtain ⟨⟨a1, a2, a3, a4⟩, b2, c2, d2, x1, y1, w1⟩ := c i hi
      have c3 := c2 (by omega)
      unfold iAm
      rw [kv, kb, g1, k0 3 i 3 (by decide) (by omega), k0 3 i 2 (by decide) (by omega), k0 5 i 3 (by decide) (by omega)]
      refine ⟨⟨⟨⟨v0, v1, v2, v3⟩, v4⟩, a2, a3, by omega⟩, fun _ => ⟨?_, ?_⟩, fun z => absurd (show (i : Int) < (i : Int) + 1 by omega) z, d2, fun j hj => ?_, fun j hj => ?_, fun j j' hj hj' e => ?_⟩
      · rw [zV_ne (by decide), zV_ne (by decide), zV_eq (by omega)]; exact hp
      · rw [zV_ne (by decide), zV_eq (by decide), if_pos c3.1, c3.2.1]
      · rw [k0 6 i j (by decide) (by omega), k0 7 i j (by decide) (by omega), k0 8 i j (by decide) (by omega), e0 28 _ (by omega) (by omega) (by omega)]
        exact x1 j hj
      · omega
      · omega
    · refine iAm_i (c i hi) (by omega) ?_ (fun κ j q1 q2 => k0 κ i j (by omega) (fun z => q z.2)) (fun κ q1 => e0 κ i (by omega) (by omega) (by omega)) (fun j _ => e0 28 _ (by omega) (by omega) (by omega))
      rw [g1, hm]; omega
  · rw [g1] at h5 h6
    rw [k0 3 i 3 (by decide) (by omega)] at h7
    rw [k0 3 i' 3 (by decide) (by omega)] at h8
    by_cases q : i = m <;> by_cases q' : i' = m
    · rw [q, q']
    · exfalso
      rw [q, kv, k0 4 _ _ (by decide) (fun z => q' z.2)] at h9
      rw [q, kb, k0 4 _ _ (by decide) (fun z => q' z.2)] at h10
      exact hno ⟨i', by show _ < zV C 1 0 1; omega, h8, h9.symm, h10.symm⟩
    · exfalso
      rw [q', kv, k0 4 _ _ (by decide) (fun z => q z.2)] at h9
      rw [q', kb, k0 4 _ _ (by decide) (fun z => q z.2)] at h10
      exact hno ⟨i, by show _ < zV C 1 0 1; omega, h7, h9, h10⟩
    · rw [k0 4 _ _ (by decide) (fun z => q z.2), k0 4 _ _ (by decide) (fun z => q' z.2)] at h9 h10
      exact d i i' (by omega) (by omega) h7 h8 h9 h10
theorem i_wdrA {n m : Nat} {C D : zMem} (h : iA n C D) (hm : (m : Int) < zV C 1 0 1) (hg : zV C 3 m 3 = 0) : iA (n + 1) (zup C 3 m 3 (zI 1)) (zup D 27 0 m (zI 0)) := by
  have h1 := h.1
  obtain ⟨⟨a1, a2, a3, a4⟩, b2, c2, d2, x1, y1, w1⟩ := h.2.2.1 m (by omega)
  refine iA_one (m := m) h (by omega) (zV_ne (by decide)) (zV_ne (by decide)) (fun κ i j q _ _ => zV_ni q) (fun κ i q _ => zV_nj q) (fun i j q _ => zV_ne (by decide)) ?_ ⟨zV_ne (by decide), zV_ne (by decide)⟩ (fun _ => hg)
  unfold iAm
  rw [zV_ne (show (4 : Nat) ≠ 3 by decide), zV_ne (show (4 : Nat) ≠ 3 by decide), zV_ne (show (1 : Nat) ≠ 3 by decide), zV_ne (show (5 : Nat) ≠ 3 by decide), zV_nj (show (2 : Nat) ≠ 3 by decide), zV_eq (show zrg 1 by decide), zV_ne (show (26 : Nat) ≠ 27 by decide), zV_eq (show zrg 0 by decide)]
  refine ⟨⟨a1, Or.inr rfl, a3, by omega⟩, fun z => ⟨(b2 z).1, by rw [if_neg (by decide)]⟩, fun z => absurd hm z, d2, fun j hj => ?_, fun j hj => ?_, fun j j' hj hj' e => ?_⟩
  · rw [zV_ne (show (6 : Nat) ≠ 3 by decide), zV_ne (show (7 : Nat) ≠ 3 by decide), zV_ne (show (8 : Nat) ≠ 3 by decide), zV_ne (show (28 : Nat) ≠ 27 by decide)]
    exact x1 j hj
  · rw [zV_ne (show (7 : Nat) ≠ 3 by decide), zV_ne (show (8 : Nat) ≠ 3 by decide)]
    exact y1 j hj
  · rw [zV_ne (show (6 : Nat) ≠ 3 by decide), zV_ne (show (6 : Nat) ≠ 3 by decide)] at e
    exact w1 j j' hj hj' e
/-- a version one more, on both sides -/
theorem i_verA {n m : Nat} {C D : zMem} {t : Int} (h : iA n C D) (hm : (m : Int) < zV C 1 0 1) (hg : zV C 3 m 3 = 0) (ht : t = zV D 27 0 m) (hn : n ≤ 1000) : iA (n + 1) (zver C m) (zup D 27 0 m (zI (t + 1))) := by
  have h1 := h.1
  obtain ⟨⟨a1, a2, a3, a4⟩, b2, c2, d2, x1, y1, w1⟩ := h.2.2.1 m (by omega)
  have b3 := (b2 hm).2
  rw [if_pos hg] at b3
  unfold zver
  refine iA_one (m := m) h (by omega) (zV_ne (by decide)) (zV_ne (by decide)) (fun κ i j q _ _ => zV_ni q) (fun κ i q _ => zV_nj q) (fun i j q _ => zV_ne (by decide)) ?_ ⟨zV_ne (by decide), zV_ne (by decide)⟩ (fun z => hg)
  unfold iAm
  rw [zV_ne (show (4 : Nat) ≠ 3 by decide), zV_ne (show (4 : Nat) ≠ 3 by decide), zV_ne (show (1 : Nat) ≠ 3 by decide), zV_ne (show (5 : Nat) ≠ 3 by decide), zV_nj (show (3 : Nat) ≠ 2 by decide), zV_eq (show zrg (zV C 3 m 2 + 1) by omega), zV_ne (show (26 : Nat) ≠ 27 by decide), zV_eq (show zrg (t + 1) by omega)]
  refine ⟨⟨a1, a2, by omega, by omega⟩, fun z => ⟨(b2 z).1, by rw [if_pos hg]; omega⟩, fun z => absurd hm z, d2, fun j hj => ?_, fun j hj => ?_, fun j j' hj hj' e => ?_⟩
  · rw [zV_ne (show (6 : Nat) ≠ 3 by decide), zV_ne (show (7 : Nat) ≠ 3 by decide), zV_ne (show (8 : Nat) ≠ 3 by decide), zV_ne (show (28 : Nat) ≠ 27 by decide)]
    exact x1 j hj
  · rw [zV_ne (show (7 : Nat) ≠ 3 by decide), zV_ne (show (8 : Nat) ≠ 3 by decide)]
    exact y1 j hj
  · rw [zV_ne (show (6 : Nat) ≠ 3 by decide), zV_ne (show (6 : Nat) ≠ 3 by decide)] at e
    exact w1 j j' hj hj' e
/-- a locator more -/
theorem i_adlA {n m k : Nat} {C D : zMem} {b p w x : Int} (h : iA n C D) (hm : (m : Int) < zV C 1 0 1) (hk : zV C 5 m 3 = (k : Int)) (hk4 : k < 4) (hb : 0 ≤ b ∧ b < 32) (hp : 0 ≤ p ∧ p ≤ 3) (hw : 1 ≤ w ∧ w ≤ 10) (hl : ¬ zloc C m b) (hx : x = b + 32 * p + 128 * w) : iA n (zup (zup (zup (zup C 6 m k (zI b)) 7 m k (zI p)) 8 m k (zI w)) 5 m 3 (zI ((k : Int) + 1))) (zup D 28 0 (4 * m + k) (zI x)) := by
  have h1 := h.1
  obtain ⟨⟨a1, a2, a3, a4⟩, b2, c2, d2, x1, y1, w1⟩ := h.2.2.1 m (by omega)
  have ko : ∀ κ i j : Nat, ¬ (i = m ∧ (5 ≤ κ ∧ κ ≤ 8)) → zV (zup (zup (zup (zup C 6 m k (zI b)) 7 m k (zI p)) 8 m k (zI w)) 5 m 3 (zI ((k : Int) + 1))) κ i j = zV C κ i j := fun κ i j q => by
    rw [zV_upg, if_neg (by omega), zV_upg, if_neg (by omega), zV_upg, if_neg (by omega), zV_upg, if_neg (by omega)]
  refine iA_one (m := m) h (Nat.le_refl n) (ko _ _ _ (by omega)) (zV_ne (by decide)) (fun κ i j q _ _ => ko κ i j (by omega)) (fun κ i q z => zV_ne (by omega)) (fun i j q hj => zV_nj (by omega)) ?_ ⟨ko _ _ _ (by omega), ko _ _ _ (by omega)⟩ (fun z => by rw [ko _ _ _ (by omega)] at z; exact z)
  have k5 : zV (zup (zup (zup (zup C 6 m k (zI b)) 7 m k (zI p)) 8 m k (zI w)) 5 m 3 (zI ((k : Int) + 1))) 5 m 3 = (k : Int) + 1 := zV_eq (by omega)
  have k6 : ∀ j, j ≠ k → zV (zup (zup (zup (zup C 6 m k (zI b)) 7 m k (zI p)) 8 m k (zI w)) 5 m 3 (zI ((k : Int) + 1))) 6 m j = zV C 6 m j := fun j q => by rw [zV_ne (by decide), zV_ne (by decide), zV_ne (by decide), zV_nj q]
  have k6b : zV (zup (zup (zup (zup C 6 m k (zI b)) 7 m k (zI p)) 8 m k (zI w)) 5 m 3 (zI ((k : Int) + 1))) 6 m k = b := by rw [zV_ne (by decide), zV_ne (by decide), zV_ne (by decide), zV_eq (by omega)]
  have k7 : ∀ j, j ≠ k → zV (zup (zup (zup (zup C 6 m k (zI b)) 7 m k (zI p)) 8 m k (zI w)) 5 m 3 (zI ((k : Int) + 1))) 7 m j = zV C 7 m j := fun j q => by rw [zV_ne (by decide), zV_ne (by decide), zV_nj q, zV_ne (by decide)]
  have k7b : zV (zup (zup (zup (zup C 6 m k (zI b)) 7 m k (zI p)) 8 m k (zI w)) 5 m 3 (zI ((k : Int) + 1))) 7 m k = p := by rw [zV_ne (by decide), zV_ne (by decide), zV_eq (by omega)]
  have k8 : ∀ j, j ≠ k → zV (zup (zup (zup (zup C 6 m k (zI b)) 7 m k (zI p)) 8 m k (zI w)) 5 m 3 (zI ((k : Int) + 1))) 8 m j = zV C 8 m j := fun j q => by rw [zV_ne (by decide), zV_nj q, zV_ne (by decide), zV_ne (by decide)]
  have k8b : zV (zup (zup (zup (zup C 6 m k (zI b)) 7 m k (zI p)) 8 m k (zI w)) 5 m 3 (zI ((k : Int) + 1))) 8 m k = w := by rw [zV_ne (by decide), zV_eq (by omega)]
  unfold iAm
  rw [ko 4 m 0 (by omega), ko 4 m 1 (by omega), ko 3 m 3 (by omega), ko 3 m 2 (by omega), ko 1 0 1 (by omega), k5, zV_ne (show (26 : Nat) ≠ 28 by decide), zV_ne (show (27 : Nat) ≠ 28 by decide)]
  refine ⟨⟨a1, a2, a3, a4⟩, b2, fun z => absurd hm z, by omega, fun j hj => ?_, fun j hj => ?_, fun j j' hj hj' e => ?_⟩
  · by_cases q : j = k
    · rw [q, k6b, k7b, k8b]
      refine ⟨hb, fun _ => ?_⟩
      rw [zV_eq (by omega), if_pos (by omega)]
      exact hx
    · rw [k6 j q, k7 j q, k8 j q, zV_nj (by omega)]
      have x2 := x1 j hj
      refine ⟨x2.1, fun z => ?_⟩
      rw [x2.2 z]
      by_cases q2 : (j : Int) < zV C 5 m 3
      · rw [if_pos q2, if_pos (by omega)]
      · rw [if_neg q2, if_neg (by omega)]
  · by_cases q : j = k
    · rw [q, k7b, k8b]; exact ⟨hp, hw⟩
    · rw [k7 j q, k8 j q]; exact y1 j (by omega)
  · by_cases q : j = k <;> by_cases q' : j' = k
    · rw [q, q']
    · exfalso
      rw [q, k6b, k6 _ q'] at e
      exact hl ⟨j', by omega, e.symm⟩
    · exfalso
      rw [q', k6b, k6 _ q] at e
      exact hl ⟨j, by omega, e⟩
    · rw [k6 _ q, k6 _ q'] at e
      exact w1 j j' (by omega) (by omega) e
/-- a locator's address another one -/
theorem i_movA {n m k : Nat} {C D : zMem} {t x : Int} (h : iA n C D) (hm : (m : Int) < zV C 1 0 1) (hk : (k : Int) < zV C 5 m 3) (ht : 0 ≤ t ∧ t < 32) (hl : ¬ zloc C m t) (hx : x = zV D 28 0 (4 * m + k) + (t - zV C 6 m k)) : iA n (zup C 6 m k (zI t)) (zup D 28 0 (4 * m + k) (zI x)) := by
  have h1 := h.1
  obtain ⟨⟨a1, a2, a3, a4⟩, b2, c2, d2, x1, y1, w1⟩ := h.2.2.1 m (by omega)
  refine iA_one (m := m) h (Nat.le_refl n) (zV_ne (by decide)) (zV_ne (by decide)) (fun κ i j q _ _ => zV_ni q) (fun κ i q z => zV_ne (by omega)) (fun i j q hj => zV_nj (by omega)) ?_ ⟨zV_ne (by decide), zV_ne (by decide)⟩ (fun z => by rw [zV_ne (by decide)] at z; exact z)
  have k6 : ∀ j, j ≠ k → zV (zup C 6 m k (zI t)) 6 m j = zV C 6 m j := fun j q => zV_nj q
  have k6b : zV (zup C 6 m k (zI t)) 6 m k = t := zV_eq (by omega)
  unfold iAm
  rw [zV_ne (show (4 : Nat) ≠ 6 by decide), zV_ne (show (4 : Nat) ≠ 6 by decide), zV_ne (show (3 : Nat) ≠ 6 by decide), zV_ne (show (3 : Nat) ≠ 6 by decide), zV_ne (show (1 : Nat) ≠ 6 by decide), zV_ne (show (5 : Nat) ≠ 6 by decide), zV_ne (show (26 : Nat) ≠ 28 by decide), zV_ne (show (27 : Nat) ≠ 28 by decide)]
  refine ⟨⟨a1, a2, a3, a4⟩, b2, fun z => absurd hm z, d2, fun j hj => ?_, fun j hj => ?_, fun j j' hj hj' e => ?_⟩
  · rw [zV_ne (show (7 : Nat) ≠ 6 by decide), zV_ne (show (8 : Nat) ≠ 6 by decide)]
    have x2 := x1 j hj
    by_cases q : j = k
    · rw [q, k6b]
      rw [q] at x2
      refine ⟨ht, fun z => ?_⟩
      have x3 := x2.2 z
      rw [if_pos hk] at x3 ⊢
      have y2 := y1 k hk
      rw [zV_eq (by omega)]
      omega
    · rw [k6 j q, zV_nj (by omega)]
      exact x2
  · rw [zV_ne (show (7 : Nat) ≠ 6 by decide), zV_ne (show (8 : Nat) ≠ 6 by decide)]
    exact y1 j hj
  · by_cases q : j = k <;> by_cases q' : j' = k
    · rw [q, q']
    · exfalso
      rw [q, k6b, k6 _ q'] at e
      exact hl ⟨j', by omega, e.symm⟩
    · exfalso
      rw [q', k6b, k6 _ q] at e
      exact hl ⟨j, by omega, e⟩
    · rw [k6 _ q, k6 _ q'] at e
      exact w1 j j' hj hj' e
/-- the law's cells of mapping m from lo to k moved by one -/
def jrm (M M1 : zMem) (m : Nat) (lo k : Int) : Prop := (∀ s : Nat, zV M1 28 0 s = if lo ≤ s ∧ (s : Int) < k then (if s < 4 * m + 3 then zV M 28 0 (s + 1) else 0) else zV M 28 0 s) ∧ ∀ κ' i' j' : Nat, ¬ (κ' = 28 ∧ i' = 0) → M1 κ' i' j' = M κ' i' j'
theorem jrm_0 (M : zMem) (m : Nat) (lo : Int) : jrm M M m lo lo := ⟨fun s => by rw [if_neg (by omega)], fun _ _ _ _ => rfl⟩
theorem jrm_1 {M M1 : zMem} {m : Nat} {lo k y : Int} (h0 : 0 ≤ lo) (hk : lo ≤ k) (h : jrm M M1 m lo k) (hy : y = if k.toNat < 4 * m + 3 then zV M1 28 0 (k.toNat + 1) else 0) (ry : zrg y) : jrm M (zup M1 28 0 k.toNat (zI y)) m lo (k + 1) := by
  refine ⟨fun s => ?_, fun κ' i' j' h9 => by rw [zup_at (fun z => h9 ⟨z.1, z.2.1⟩)]; exact h.2 κ' i' j' h9⟩
  by_cases e : s = k.toNat
  · subst e
    rw [zV_eq ry, if_pos (by omega), hy]
    split
    · rw [h.1, if_neg (by omega)]
    · rfl
  · rw [zV_nj e, h.1]
    by_cases q : lo ≤ s ∧ (s : Int) < k
    · rw [if_pos q, if_pos (show lo ≤ (s : Int) ∧ (s : Int) < k + 1 by omega)]
    · rw [if_neg q, if_neg (by omega)]
/-- a locator less -/
theorem i_remA {n m k c : Nat} {C D C' D' : zMem} (h : iA n C D) (hm : (m : Int) < zV C 1 0 1) (hc : zV C 5 m 3 = (c : Int)) (hk : k < c) (h1 : zshift C C' m (k : Int) ((c : Int) - 1) ((c : Int) - 1)) (h2 : jrm D D' m ((4 * m + k : Nat) : Int) (4 * (m : Int) + 4)) : iA n C' D' := by
  have ha := h.1
  obtain ⟨⟨a1, a2, a3, a4⟩, b2, c2, d2, x1, y1, w1⟩ := h.2.2.1 m (by omega)
  obtain ⟨s0, s6, s7, s8, s9⟩ := h1
  obtain ⟨t8, t9⟩ := h2
  have fc : ∀ κ i j : Nat, ¬ (i = m ∧ (κ = 5 ∧ j = 3 ∨ κ = 6 ∨ κ = 7 ∨ κ = 8)) → zV C' κ i j = zV C κ i j := fun κ i j q => zV_of (s9 κ i j q)
  have fd : ∀ κ j : Nat, κ ≠ 28 → zV D' κ 0 j = zV D κ 0 j := fun κ j q1 => zV_of (t9 κ 0 j (fun z => q1 z.1))
  refine iA_one (m := m) h (Nat.le_refl n) (fc _ _ _ (by omega)) (fd _ _ (by omega)) (fun κ i j q _ _ => fc _ _ _ (by omega)) (fun κ i q z => fd _ _ (by omega)) (fun i j q hj => by rw [t8, if_neg (by omega)]) ?_ ⟨fc _ _ _ (by omega), fc _ _ _ (by omega)⟩ (fun z => by rw [fc _ _ _ (by omega)] at z; exact z)
  unfold iAm
  rw [fc 4 m 0 (by omega), fc 4 m 1 (by omega), fc 3 m 3 (by omega), fc 3 m 2 (by omega), fc 1 0 1 (by omega), s0, fd 26 m (by decide), fd 27 m (by decide)]
  refine ⟨⟨a1, a2, a3, a4⟩, b2, fun z => absurd hm z, by omega, fun j hj => ?_, fun j hj => ?_, fun j j' hj hj' e => ?_⟩
  · rw [s6, s7, s8, t8]
    by_cases z : (k : Int) ≤ j ∧ (j : Int) < (c : Int) - 1
    · rw [if_pos z, if_pos z, if_pos z, if_pos (by omega), if_pos (by omega), if_pos z.2]
      have x2 := x1 (j + 1) (by omega)
      refine ⟨x2.1, fun y => ?_⟩
      have x3 := x2.2 y
      rw [if_pos (by omega)] at x3
      exact x3
    · rw [if_neg z, if_neg z, if_neg z]
      have x2 := x1 j hj
      refine ⟨x2.1, fun y => ?_⟩
      by_cases z2 : (k : Int) ≤ j
      · rw [if_pos (show ((4 * m + k : Nat) : Int) ≤ ((4 * m + j : Nat) : Int) ∧ ((4 * m + j : Nat) : Int) < 4 * (m : Int) + 4 by omega), if_neg (show ¬ (j : Int) < (c : Int) - 1 by omega)]
        split
        · have x4 := (x1 (j + 1) (by omega)).2 y
          rw [if_neg (by omega)] at x4
          exact x4
        · rfl
      · rw [if_neg (by omega), if_pos (by omega)]
        have x3 := x2.2 y
        rw [if_pos (by omega)] at x3
        exact x3
  · rw [s7, s8]
    by_cases z : (k : Int) ≤ j ∧ (j : Int) < (c : Int) - 1
    · rw [if_pos z, if_pos z]; exact y1 (j + 1) (by omega)
    · rw [if_neg z, if_neg z]; exact y1 j (by omega)
  · rw [s6, s6] at e
    by_cases z : (k : Int) ≤ j ∧ (j : Int) < (c : Int) - 1 <;> by_cases z' : (k : Int) ≤ j' ∧ (j' : Int) < (c : Int) - 1
    · rw [if_pos z, if_pos z'] at e
      have := w1 _ _ (by omega) (by omega) e
      omega
    · rw [if_pos z, if_neg z'] at e
      have := w1 _ _ (by omega) (by omega) e
      omega
    · rw [if_neg z, if_pos z'] at e
      have := w1 _ _ (by omega) (by omega) e
      omega
    · rw [if_neg z, if_neg z'] at e
      have := w1 _ _ (by omega) (by omega) e
      omega
