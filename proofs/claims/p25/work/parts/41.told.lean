/-! what is told: the class's answers by the law's arrays -/
theorem zsm_sh (f : Nat → Int) {k c : Int} (hk : c ≤ k) : zsm f (k + 1 - c).toNat = zsm f (k - c).toNat + f (k - c).toNat := by
  rw [show k + 1 - c = (k - c) + 1 by omega]
  exact zsm_s f (by omega)
theorem t_cnt {n : Nat} {M : zMem} {r : Int} (h : iN n M M) (hr : 0 ≤ r ∧ r < 2) : zsm (fun j => zind (0 ≤ zV M 30 0 (8 * r.toNat + j))) 8 = zV M 16 (2 * r).toNat 2 ∧ 0 ≤ zV M 16 (2 * r).toNat 2 ∧ zV M 16 (2 * r).toNat 2 ≤ 8 := by
  obtain ⟨⟨u0, u1⟩, ⟨e1, e2, e3⟩, c1, e4, e5⟩ := show iE n M M from h.2.2.2.2.2
  obtain ⟨r, rfl⟩ := Int.eq_ofNat_of_zero_le hr.1
  rw [show (2 * ((r : Nat) : Int)).toNat = 2 * r by omega]
  simp only [Int.toNat_natCast]
  obtain ⟨Z, z1, z2⟩ := e5 r (by omega)
  have h1 := i_many z2
  have h2 := i_el z1
  have h3 := (e1 (2 * r) (by omega)).1
  exact ⟨by rw [h1]; omega, h3⟩
theorem t_ent {n : Nat} {M : zMem} {r k x : Int} (h : iN n M M) (hr : 0 ≤ r ∧ r < 2) (hk0 : 0 ≤ k) (hk : k < zV M 16 (2 * r).toNat 2) (hx : zpe M r.toNat k x) : ∃ s : Nat, x = (s : Int) ∧ (8 * r ≤ (s : Int) ∧ (s : Int) < 8 * r + 8) ∧ iEn n M M (zq M (2 * r).toNat k.toNat) s ∧ zwe M (zq M (2 * r).toNat k.toNat) ∧ zpfx (zV M 20 (zq M (2 * r).toNat k.toNat) 0) (zV M 20 (zq M (2 * r).toNat k.toNat) 1) := by
  obtain ⟨⟨u0, u1⟩, ⟨e1, e2, e3⟩, c1, e4, e5⟩ := show iE n M M from h.2.2.2.2.2
  obtain ⟨r, rfl⟩ := Int.eq_ofNat_of_zero_le hr.1
  rw [show (2 * ((r : Nat) : Int)).toNat = 2 * r by omega] at hk ⊢
  simp only [Int.toNat_natCast] at hx
  obtain ⟨Z, z1, z2⟩ := e5 r (by omega)
  have h2 := i_el z1
  obtain ⟨p, hp, hxp⟩ := i_pe z2 hk0 hx (by omega)
  obtain ⟨-, -, h4⟩ := i_el2 z1 hp
  have h5 := z2.2.1 p (List.mem_of_getElem? hp)
  have h6 := i_el3 (e1 (2 * r) (by omega)) z1 (List.mem_of_getElem? hp)
  rw [h4]
  exact ⟨p.2, hxp, by omega, h5.2.2.2, e3 p.1 (by omega), e2 p.1 (by omega)⟩
theorem t_pre {n q s : Nat} {M : zMem} (he : iEn n M M q s) (hp : zpfx (zV M 20 q 0) (zV M 20 q 1)) : zw (32 * zV M 20 q 0 + zV M 20 q 1) = zV M 30 0 s := by
  unfold zpfx at hp
  rw [zw_eq (by omega), he.1]
theorem t_qs {n q s : Nat} {M : zMem} (hn : n ≤ 200) (he : iEn n M M q s) : 0 ≤ zV M 31 0 s ∧ zV M 31 0 s ≤ 10000 ∧ zmat M q = if zV M 31 0 s = 0 then -1 else 1000 * (zV M 31 0 s / 32) + zV M 31 0 s % 32 - 1 := by
  obtain ⟨-, h2, -, -, h5, -⟩ := he
  unfold zmat
  rcases h5 with ⟨h5, -⟩ | ⟨h5, h6⟩
  · rw [if_pos h5] at h2
    rw [if_pos h5, if_pos h2]
    exact ⟨by omega, by omega, rfl⟩
  · rw [if_neg (by omega)] at h2
    rw [if_neg (by omega), if_neg (by omega), zw_eq (by omega)]
    exact ⟨by omega, by omega, by omega⟩
theorem t_es {n q s : Nat} {M : zMem} (hn : n ≤ 200) (hC : iC n M M) (he : iEn n M M q s) : -1 ≤ zV M 32 0 s ∧ zV M 32 0 s ≤ 100000 ∧ zlst M q = if zV M 32 0 s < 0 then -1 else if zV M 36 0 0 < zV M 32 0 s then zV M 32 0 s - zV M 36 0 0 else 0 := by
  obtain ⟨-, -, h3, h4, -⟩ := he
  obtain ⟨⟨c1, -⟩, -, c3, -⟩ := hC
  unfold zlst
  by_cases q6 : zV M 19 q 6 = 0
  · rw [if_pos q6] at h3
    rw [if_pos q6, c1, h3, if_neg (show ¬ zV M 19 q 5 < 0 by omega)]
    by_cases q7 : zV M 19 q 5 ≤ zV M 0 0 3
    · rw [if_pos q7, if_neg (show ¬ zV M 0 0 3 < zV M 19 q 5 by omega)]
      exact ⟨by omega, by omega, rfl⟩
    · rw [if_neg q7, if_pos (show zV M 0 0 3 < zV M 19 q 5 by omega), zw_eq (by omega)]
      exact ⟨by omega, by omega, rfl⟩
  · rw [if_neg q6] at h3
    rw [if_neg q6, if_pos (by omega)]
    exact ⟨by omega, by omega, rfl⟩
/-- what a place of the law's entry counts for an address -/
def jpt (M : zMem) (s : Nat) (b : Int) (j : Nat) : Int := if 0 < zV M 34 0 (4 * s + j) ∧ zV M 34 0 (4 * s + j) % 32 = b then zV M 34 0 (4 * s + j) / 2048 else 0
theorem t_pkt {n q s : Nat} {M : zMem} {b x pl : Int} (he : iEn n M M q s) (hw : zwe M q) (hp : zplace (fun j => zV M 22 q j) (zV M 21 q 3) b pl) (hx : x = if pl = -1 then 0 else zV M 25 q pl.toNat) : x = zsm (jpt M s b) 4 := by
  obtain ⟨-, -, -, -, -, h6, h7, h8⟩ := he
  obtain ⟨w1, w2⟩ := hw
  have key : ∀ j : Nat, j < 4 → jpt M s b j = if (j : Int) < zV M 21 q 3 ∧ zV M 22 q j = b then zV M 25 q j else 0 := fun j hj => by
    unfold jpt
    have h9 := h6 j hj
    have w3 := w2 j hj
    by_cases q1 : (j : Int) < zV M 21 q 3
    · rw [if_pos q1] at h9
      have h10 := h7 j q1
      by_cases q2 : zV M 22 q j = b
      · rw [if_pos (show (j : Int) < zV M 21 q 3 ∧ zV M 22 q j = b from ⟨q1, q2⟩), if_pos (show 0 < zV M 34 0 (4 * s + j) ∧ zV M 34 0 (4 * s + j) % 32 = b from ⟨by omega, by omega⟩)]
        omega
      · rw [if_neg (show ¬ ((j : Int) < zV M 21 q 3 ∧ zV M 22 q j = b) from fun z => q2 z.2), if_neg (show ¬ (0 < zV M 34 0 (4 * s + j) ∧ zV M 34 0 (4 * s + j) % 32 = b) from fun z => q2 (by omega))]
    · rw [if_neg q1] at h9
      rw [if_neg (show ¬ ((j : Int) < zV M 21 q 3 ∧ zV M 22 q j = b) from fun z => q1 z.1), if_neg (show ¬ (0 < zV M 34 0 (4 * s + j) ∧ zV M 34 0 (4 * s + j) % 32 = b) from fun z => by omega)]
  rcases hp with ⟨e, hno⟩ | ⟨j, e, hj, hb, -⟩
  · rw [hx, if_pos e, ← i_s0 4]
    refine zsm_ext fun j hj => ?_
    rw [key j hj, if_neg (fun z => hno j z.1 z.2)]
  · rw [hx, if_neg (by omega), e]
    simp only [Int.toNat_natCast]
    have h1 := i_s1 (zV M 25 q j) j 4
    rw [if_pos (by omega)] at h1
    rw [← h1]
    refine zsm_ext fun i hi => ?_
    rw [key i hi]
    by_cases q1 : i = j
    · rw [if_pos q1, q1, if_pos ⟨hj, hb⟩]
    · rw [if_neg q1, if_neg (fun z => q1 (h8 i j z.1 hj (z.2.trans hb.symm)))]
theorem t_jpt {n s : Nat} {M : zMem} (hn : n ≤ 200) (hW : iW n M) {b k c : Int} (hs : s < 16) (hc : c = 4 * (s : Int)) (hk : c ≤ k) (hk4 : k < c + 4) : (0 ≤ zV M 34 0 k.toNat ∧ zV M 34 0 k.toNat ≤ 500000) ∧ jpt M s b (k - c).toNat = if 0 < zV M 34 0 k.toNat ∧ zV M 34 0 k.toNat % 32 = b then zV M 34 0 k.toNat / 2048 else 0 := by
  have h := hW.2 k.toNat (by omega)
  refine ⟨⟨h.1, by omega⟩, ?_⟩
  unfold jpt
  rw [show 4 * s + (k - c).toNat = k.toNat by omega]
theorem t_ver {n : Nat} {M : zMem} (h : iA n M M) {i : Int} (h0 : 0 ≤ i) (hi : i < zV M 1 0 1) : (0 ≤ zV M 27 0 i.toNat ∧ zV M 27 0 i.toNat ≤ (n : Int) + 1) ∧ (if zV M 3 i.toNat 3 = 0 then zV M 3 i.toNat 2 else -1) = if zV M 27 0 i.toNat = 0 then -1 else zV M 27 0 i.toNat := by
  have h1 := h.1
  obtain ⟨⟨a1, a2, a3, a4⟩, b, -⟩ := h.2.2.1 i.toNat (by omega)
  have b2 := (b (by omega)).2
  by_cases q : zV M 3 i.toNat 3 = 0
  · rw [if_pos q] at b2 ⊢
    rw [if_neg (by omega)]
    exact ⟨by omega, by omega⟩
  · rw [if_neg q] at b2 ⊢
    rw [if_pos b2]
    exact ⟨by omega, rfl⟩
