/-! what the law's packet rests on -/
theorem iAm_c {n n' : Nat} {C D C' D' : zMem} {i : Nat} (h : iAm n C D i) (hnn : n ≤ n') (hn : zV C' 1 0 1 = zV C 1 0 1) (hc : ∀ κ j : Nat, 3 ≤ κ → κ ≤ 8 → zV C' κ i j = zV C κ i j) (hd : ∀ κ : Nat, κ = 26 ∨ κ = 27 → zV D' κ 0 i = zV D κ 0 i) (hd2 : ∀ j : Nat, j < 4 → zV D' 28 0 (4 * i + j) = zV D 28 0 (4 * i + j)) : iAm n' C' D' i := by
  obtain ⟨⟨a1, a2, a3, a4⟩, b, c, d, e, f, g⟩ := h
  unfold iAm
  rw [hn, hc 4 0 (by omega) (by omega), hc 4 1 (by omega) (by omega), hc 3 3 (by omega) (by omega), hc 3 2 (by omega) (by omega), hc 5 3 (by omega) (by omega), hd 26 (by omega), hd 27 (by omega)]
  refine ⟨⟨a1, a2, a3, by omega⟩, b, c, d, fun j hj => ?_, fun j hj => ?_, fun j j' hj hj' he => ?_⟩
  · rw [hc 6 j (by omega) (by omega), hc 7 j (by omega) (by omega), hc 8 j (by omega) (by omega), hd2 j hj]
    exact e j hj
  · rw [hc 7 j (by omega) (by omega), hc 8 j (by omega) (by omega)]
    exact f j hj
  · rw [hc 6 j (by omega) (by omega), hc 6 j' (by omega) (by omega)] at he
    exact g j j' hj hj' he
theorem iA_c {n n' : Nat} {C D C' D' : zMem} (h : iA n C D) (hnn : n ≤ n') (hc : ∀ κ i j : Nat, 1 ≤ κ → κ ≤ 8 → zV C' κ i j = zV C κ i j) (hn : zV D' 36 0 3 = zV D 36 0 3) (hd : ∀ κ j : Nat, 26 ≤ κ → κ ≤ 28 → zV D' κ 0 j = zV D κ 0 j) : iA n' C' D' := by
  obtain ⟨a, b, c, d⟩ := h
  have e1 := hc 1 0 1 (by omega) (by omega)
  refine ⟨by rw [e1]; exact a, by rw [e1, hn]; exact b, fun i hi => iAm_c (c i hi) hnn e1 (fun κ j h1 h2 => hc κ i j (by omega) h2) (fun κ h1 => hd κ i (by omega) (by omega)) (fun j _ => hd 28 _ (by omega) (by omega)), fun i i' h1 h2 h3 h4 h5 h6 => ?_⟩
  rw [e1] at h1 h2
  rw [hc 3 i 3 (by omega) (by omega)] at h3
  rw [hc 3 i' 3 (by omega) (by omega)] at h4
  rw [hc 4 i 0 (by omega) (by omega), hc 4 i' 0 (by omega) (by omega)] at h5
  rw [hc 4 i 1 (by omega) (by omega), hc 4 i' 1 (by omega) (by omega)] at h6
  exact d i i' h1 h2 h3 h4 h5 h6
/-- the law's locators of mappings lie within -/
theorem iA_lb {n : Nat} {C D : zMem} (h : iA n C D) {k : Nat} (hk : k < 64) : 0 ≤ zV D 28 0 k ∧ zV D 28 0 k ≤ 2047 := by
  obtain ⟨-, -, -, d, e, f, -⟩ := h.2.2.1 (k / 4) (by omega)
  have h1 := e (k % 4) (Nat.mod_lt _ (by decide))
  have h2 := h1.2 (by omega)
  rw [show 4 * (k / 4) + k % 4 = k by omega] at h2
  rw [h2]
  split
  · rename_i z
    have h3 := f (k % 4) z
    omega
  · omega
theorem jsv_rg {M : zMem} (h : iB M M) {idn y : Int} (hy : zfnd (zdv M) (zdl M) z0 (zdn M) idn y) : 0 ≤ zsv (zdt M) y ∧ zsv (zdt M) y < 4 := by
  have hr := zfnd_rg hy
  have h1 := h.1.1
  have h2 : zdn M = zV M 9 0 4 := rfl
  unfold zsv
  split
  · omega
  · exact (h.2.1 y.toNat (by omega)).2
/-- of entries that are there one was used least recently -/
theorem j_min {M : zMem} {r : Nat} (h : ∃ j : Nat, j < 8 ∧ 0 ≤ zV M 30 0 (8 * r + j)) : ∃ j : Nat, j < 8 ∧ zpc M r 0 j := by
  have key : ∀ m : Nat, m ≤ 8 → (∀ j : Nat, j < m → ¬ 0 ≤ zV M 30 0 (8 * r + j)) ∨ ∃ j : Nat, j < m ∧ 0 ≤ zV M 30 0 (8 * r + j) ∧ ∀ j' : Nat, j' < m → 0 ≤ zV M 30 0 (8 * r + j') → zV M 33 0 (8 * r + j) ≤ zV M 33 0 (8 * r + j') := by
    intro m
    induction m with
    | zero => intro _; exact Or.inl fun j hj => by omega
    | succ m ih =>
      intro hm
      rcases ih (by omega) with z | ⟨j, z1, z2, z3⟩
      · by_cases q : 0 ≤ zV M 30 0 (8 * r + m)
        · refine Or.inr ⟨m, by omega, q, fun j' h1 h2 => ?_⟩
          by_cases e : j' = m
          · rw [e]; exact Int.le_refl _
          · exact absurd h2 (z j' (by omega))
        · refine Or.inl fun j hj => ?_
          by_cases e : j = m
          · rw [e]; exact q
          · exact z j (by omega)
      · by_cases q : 0 ≤ zV M 30 0 (8 * r + m) ∧ zV M 33 0 (8 * r + m) < zV M 33 0 (8 * r + j)
        · refine Or.inr ⟨m, by omega, q.1, fun j' h1 h2 => ?_⟩
          by_cases e : j' = m
          · rw [e]; exact Int.le_refl _
          · have := z3 j' (by omega) h2
            omega
        · refine Or.inr ⟨j, by omega, z2, fun j' h1 h2 => ?_⟩
          by_cases e : j' = m
          · rw [e] at h2 ⊢
            have : ¬ zV M 33 0 (8 * r + m) < zV M 33 0 (8 * r + j) := fun y => q ⟨h2, y⟩
            omega
          · exact z3 j' (by omega) h2
  rcases key 8 (Nat.le_refl _) with z | ⟨j, z1, z2, z3⟩
  · obtain ⟨j, h1, h2⟩ := h
    exact absurd h2 (z j h1)
  · refine ⟨j, z1, z2, ?_⟩
    have e : zsm (zmf M r (zV M 33 0 (8 * r + j))) 8 = zsm (fun _ => 0) 8 := zsm_ext fun j' hj' => by
      unfold zmf
      refine zind_f fun w => ?_
      have := z3 j' hj' w.1
      have := w.2
      omega
    show zsm (zmf M r (zV M 33 0 (8 * r + j))) 8 = 0
    rw [e]
    rfl
theorem jchs_e {M : zMem} {a x : Int} (ha : 0 ≤ a) (h : ∀ s : Nat, 8 * a ≤ s → (s : Int) < 8 * a + 8 → 0 ≤ zV M 30 0 s) (hx : zpe M a.toNat 0 x) : jchs M a x := by
  rcases hx with ⟨-, z⟩ | ⟨j, z1, z2, z3⟩
  · obtain ⟨j, h1, h2⟩ := j_min (M := M) (r := a.toNat) ⟨0, by omega, h _ (by omega) (by omega)⟩
    exact absurd h2 (z j h1)
  · exact ⟨by omega, Or.inr ⟨h, j, z1, z2, z3⟩⟩
theorem jchs_f {M : zMem} {a f : Int} (h : jfrk M a f (8 * a + 8)) (hf : 0 ≤ f) : jchs M a f := by
  rcases h with ⟨z, -⟩ | ⟨z1, z2⟩
  · omega
  · exact ⟨z1, Or.inl z2⟩
/-! an entry's cells where the law's loops look at them -/
theorem jx_k {f k : Int} (h0 : 0 ≤ f) (h : 4 * f ≤ k) : (4 * f + (((k - 4 * f).toNat : Nat) : Int)).toNat = k.toNat := by omega
theorem jpr_k {M : zMem} {f k z : Int} (h0 : 0 ≤ f) (h : 4 * f ≤ k) (e : z = zV M 34 0 k.toNat) : jpr M f (k - 4 * f).toNat = z / 32 % 4 := by unfold jpr; rw [jx_k h0 h, e]
theorem jwt_k {M : zMem} {f k z : Int} (h0 : 0 ≤ f) (h : 4 * f ≤ k) (e : z = zV M 34 0 k.toNat) : jwt M f (k - 4 * f).toNat = z / 128 % 16 := by unfold jwt; rw [jx_k h0 h, e]
theorem jpk_k {M : zMem} {f k z : Int} (h0 : 0 ≤ f) (h : 4 * f ≤ k) (e : z = zV M 34 0 k.toNat) : jpk M f (k - 4 * f).toNat = z / 2048 := by unfold jpk; rw [jx_k h0 h, e]
theorem jun_k0 {M : zMem} {a f k z : Int} (h0 : 0 ≤ f) (h : 4 * f ≤ k) (e : z = zV M 34 0 k.toNat) (hz : z = 0) : jun M a f (k - 4 * f).toNat = 1 := by unfold jun; rw [jx_k h0 h, ← e, if_pos hz]
theorem jun_k1 {M : zMem} {a f k z : Int} (h0 : 0 ≤ f) (h : 4 * f ≤ k) (e : z = zV M 34 0 k.toNat) (hz : ¬ z = 0) : jun M a f (k - 4 * f).toNat = zV M 35 0 a.toNat / 2 ^ (z % 32).toNat % 2 := by unfold jun jad; rw [jx_k h0 h, ← e, if_neg hz]
theorem j_div2 {x : Int} {j : Nat} (h : 0 ≤ x) : 0 ≤ x / 2 ^ j ∧ x / 2 ^ j ≤ x := ⟨Int.ediv_nonneg h (Int.le_of_lt (Int.pow_pos (by decide))), Int.ediv_le_self _ h⟩
theorem j_mb {x y X Y : Int} (h0 : 0 ≤ x) (h1 : x ≤ X) (h2 : 0 ≤ y) (h3 : y ≤ Y) : 0 ≤ x * y ∧ x * y ≤ X * Y := ⟨Int.mul_nonneg h0 h2, Int.mul_le_mul h1 h3 h2 (by omega)⟩
/-- what the new entry's cells hold lies within -/
theorem jcp_nb {M M1 : zMem} {x m k B : Int} (hx : 0 ≤ x) (hm : m < 16) (h : jcp M M1 x m k) (hB : ∀ s : Nat, s < 64 → 0 ≤ zV M 34 0 s ∧ zV M 34 0 s ≤ B) (hl : ∀ s : Nat, s < 64 → 0 ≤ zV M 28 0 s ∧ zV M 28 0 s ≤ 2047) (hB2 : 2047 ≤ B) (hk : k ≤ 4) : ∀ s : Nat, s < 64 → 0 ≤ zV M1 34 0 s ∧ zV M1 34 0 s ≤ B := by
  intro s hs
  by_cases q : 4 * x ≤ (s : Int) ∧ (s : Int) < 4 * x + k
  · have h1 := h.1 (s - (4 * x).toNat) (by omega)
    rw [show (4 * x + ((s - (4 * x).toNat : Nat) : Int)).toNat = s by omega] at h1
    rw [h1]
    split
    · omega
    · have h2 := hl (4 * m + ((s - (4 * x).toNat : Nat) : Int)).toNat (by omega)
      omega
  · rw [zV_of (h.2 34 0 s (fun z => q ⟨z.2.2.1, z.2.2.2⟩))]
    exact hB s hs
theorem jset_o {M : zMem} {x pp qq ee : Int} {κ i j : Nat} (h : ¬ (30 ≤ κ ∧ κ ≤ 32)) : zV (jset M x pp qq ee) κ i j = zV M κ i j := by unfold jset; rw [zV_ne (by omega), zV_ne (by omega), zV_ne (by omega)]
