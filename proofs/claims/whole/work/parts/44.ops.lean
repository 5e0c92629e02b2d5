theorem i_verx {C D : zMem} (h : iA C D) {m : Nat} (hm : (m : Int) < zV C 1 0 1) : zV D 38 0 m = zV C 3 m 2 := by
  have h1 := h.1
  exact (h.2.2.1 m (by omega)).2.2.1.1 hm
theorem i_add {n : Nat} {C D C' D1 D' : zMem} {a b p w : Int} (h : iN n C D) (hr : 0 ≤ a ∧ a < zmn C) (hg : (0 ≤ b ∧ b < 32) ∧ (0 ≤ p ∧ p ≤ 3) ∧ 1 ≤ w ∧ w ≤ 10) (hc : zV C 3 a.toNat 3 = 0 ∧ zV C 5 a.toNat 3 < 4 ∧ ¬ zloc C a.toNat b) (h1 : zsolk (zver (zadl C a.toNat b p w) a.toNat) C' a.toNat 3) (ht : zthr D D1 0) (h2 : zmsk (znver (znadd D1 a b p w) a.toNat) D' a.toNat 24) : iN (n + 1) C' D' := by
  have hr : 0 ≤ a ∧ a < zV C 1 0 1 := hr
  obtain ⟨m, hm⟩ : ∃ m : Nat, a = (m : Int) := ⟨a.toNat, by omega⟩
  subst hm
  simp only [Int.toNat_natCast] at hc h1 h2
  have hN := iN_thr h (Nat.le_refl n) ht
  have hA := hN.1
  have hm2 : m < 24 := by have := hA.1; omega
  obtain ⟨-, -, -, ⟨d1, d2⟩, -, -⟩ := hA.2.2.1 m hm2
  obtain ⟨k, hk⟩ : ∃ k : Nat, zV C 5 m 3 = (k : Int) := ⟨(zV C 5 m 3).toNat, by omega⟩
  refine i_solN ?_ hm2 h1 h2
  have hA2 := i_adlA (b := b) (p := p) (w := w) hA hr.2 hk (by omega) hg.1 hg.2.1 hg.2.2 hc.2.2
  have hA3 := i_verA hA2 (by rw [zV_ne (by decide), zV_ne (by decide), zV_ne (by decide), zV_ne (by decide)]; exact hr.2)
  have ek : (4 * (m : Int) + (k : Int)).toNat = 4 * m + k := by omega
  unfold zadl znadd
  simp only [Int.toNat_natCast]
  rw [d2, hk, ek, Int.toNat_natCast]
  refine i_upA hN hA3 (fun κ i j q => ?_) (fun κ i j q1 q2 => ?_)
  · unfold zver
    rw [zup_at (by omega), zup_at (by omega), zup_at (by omega), zup_at (by omega), zup_at (by omega)]
  · unfold znver
    rw [zup_at (by omega), zup_at (by omega), zup_at (by omega), zup_at (by omega), zup_at (by omega)]
theorem i_mov {n : Nat} {C D C' D1 D' : zMem} {a b t : Int} {pl j : Nat} (h : iN n C D) (hr : 0 ≤ a ∧ a < zmn C) (hg : (0 ≤ b ∧ b < 32) ∧ 0 ≤ t ∧ t < 32) (hl : ¬ zloc C a.toNat t) (hp : (pl : Int) < zV C 5 a.toNat 3) (hp2 : zV C 6 a.toNat pl = b) (h1 : zsolk (zver (zup C 6 a.toNat pl (zI t)) a.toNat) C' a.toNat 3) (hj : (j : Int) < zV D 39 0 a.toNat) (hj2 : zV D 40 0 (4 * a.toNat + j) = b) (ht : zthr D D1 0) (h2 : zmsk (znver (zup D1 40 0 (4 * a.toNat + j) (zI t)) a.toNat) D' a.toNat 24) : iN (n + 1) C' D' := by
  have hr : 0 ≤ a ∧ a < zV C 1 0 1 := hr
  obtain ⟨m, hm⟩ : ∃ m : Nat, a = (m : Int) := ⟨a.toNat, by omega⟩
  subst hm
  simp only [Int.toNat_natCast] at hl hp hp2 h1 hj hj2 h2
  have hN := iN_thr h (Nat.le_refl n) ht
  have hA := hN.1
  have hm2 : m < 24 := by have := hA.1; omega
  obtain ⟨-, -, -, ⟨d1, d2⟩, x1, y1⟩ := h.1.2.2.1 m hm2
  rw [d2] at hj
  rw [(x1 j (by omega)).2.1] at hj2
  have e := y1 pl j hp hj (by rw [hp2, hj2])
  rw [← e] at h2
  refine i_solN ?_ hm2 h1 h2
  have hA2 := i_movA hA hr.2 hp hg.2 hl
  have hA3 := i_verA hA2 (by rw [zV_ne (by decide)]; exact hr.2)
  refine i_upA hN hA3 (fun κ i j q => ?_) (fun κ i j q1 q2 => ?_)
  · unfold zver
    rw [zup_at (by omega), zup_at (by omega)]
  · unfold znver
    rw [zup_at (by omega), zup_at (by omega)]
theorem i_rem {n : Nat} {C D C' C1 D1 D2 D' : zMem} {a b pl : Int} {j : Nat} (h : iN n C D) (hr : 0 ≤ a ∧ a < zmn C) (hp0 : 0 ≤ pl) (hp : pl < zV C 5 a.toNat 3) (hp2 : zV C 6 a.toNat pl.toNat = b) (hs : zshift C C1 a.toNat pl (zV C 5 a.toNat 3 - 1) (zV C 5 a.toNat 3 - 1)) (h1 : zsolk (zver C1 a.toNat) C' a.toNat 3) (hj : (j : Int) < zV D 39 0 a.toNat) (hj2 : zV D 40 0 (4 * a.toNat + j) = b) (ht : zthr D D1 0) (hs2 : zmsh (zup D1 39 0 a.toNat (zI (zV D 39 0 a.toNat - 1))) D2 ((4 * a.toNat + j : Nat) : Int) (4 * a + (zV D 39 0 a.toNat - 1))) (h2 : zmsk (znver D2 a.toNat) D' a.toNat 24) : iN (n + 1) C' D' := by
  have hr : 0 ≤ a ∧ a < zV C 1 0 1 := hr
  obtain ⟨m, hm⟩ : ∃ m : Nat, a = (m : Int) := ⟨a.toNat, by omega⟩
  subst hm
  simp only [Int.toNat_natCast] at hp hp2 hs h1 hj hj2 hs2 h2
  have hN := iN_thr h (Nat.le_refl n) ht
  have hA := hN.1
  have hm2 : m < 24 := by have := hA.1; omega
  obtain ⟨-, -, -, ⟨d1, d2⟩, x1, y1⟩ := h.1.2.2.1 m hm2
  obtain ⟨c, hc⟩ : ∃ c : Nat, zV C 5 m 3 = (c : Int) := ⟨(zV C 5 m 3).toNat, by omega⟩
  obtain ⟨k, hk⟩ : ∃ k : Nat, pl = (k : Int) := ⟨pl.toNat, by omega⟩
  subst hk
  simp only [Int.toNat_natCast] at hp2
  rw [d2] at hj
  rw [(x1 j (by omega)).2.1] at hj2
  have e := y1 k j hp hj (by rw [hp2, hj2])
  rw [← e, d2, hc] at hs2
  rw [hc] at hs
  refine i_solN ?_ hm2 h1 h2
  have hA2 := i_remA hA hr.2 hc (by omega) hs hs2
  have hn1 : zV C1 1 0 1 = zV C 1 0 1 := zV_of (hs.2.2.2.2 1 0 1 (by omega))
  have hA3 := i_verA hA2 (by rw [hn1]; exact hr.2)
  refine i_upA hN hA3 (fun κ i j q => ?_) (fun κ i j q1 q2 => ?_)
  · unfold zver
    rw [zup_at (by omega)]
    exact hs.2.2.2.2 κ i j (by omega)
  · unfold znver
    rw [zup_at (by omega), hs2.2.2.2 κ i j (by omega), zup_at (by omega)]
theorem i_dlg {n : Nat} {C D C' D' D1 : zMem} {v b t x y : Int} (h : iN n C D) (hv : zvp v b) (h4 : 0 ≤ t ∧ t < 4) (ht : zthr D D1 0)
    (h1 : (∃ i : Nat, (i : Int) < zdn C ∧ zdv C i = v ∧ zdl C i = b ∧ x = zdn C ∧ C' = zup C 13 0 i (zI t)) ∨ ((∀ i : Nat, (i : Int) < zdn C → ¬ (zdv C i = v ∧ zdl C i = b)) ∧ zdn C < 12 ∧ x = zdn C + 1 ∧ C' = zdel C v b t))
    (h2 : (∃ i : Nat, (i : Int) < zndn D ∧ zndm D v b i ∧ y = zndn D ∧ D' = zndp D1 i v b t (zndn D)) ∨ ((∀ i : Nat, (i : Int) < zndn D → ¬ zndm D v b i) ∧ zndn D < 12 ∧ y = zndn D + 1 ∧ D' = zndp D1 (zndn D).toNat v b t (zndn D + 1))) : x = y ∧ iN (n + 1) C' D' := by
  have hB := h.2.1
  have hn : zndn D = zdn C := hB.1.2
  have hd : zdn C = zV C 9 0 4 := rfl
  have hb := hB.1.1
  rw [hn] at h2
  have hm : ∀ i : Nat, (i : Int) < zdn C → (zndm D v b i ↔ (zdv C i = v ∧ zdl C i = b)) := fun i hi => by
    obtain ⟨-, -, a2, a3, -⟩ := hB.2.1 i (by omega)
    unfold zndm zndv zndl
    rw [a2, a3]
    exact Iff.rfl
  rcases h1 with ⟨i, i1, i2, i3, i4, i5⟩ | ⟨i1, i2, i3, i4⟩ <;> rcases h2 with ⟨k, k1, k2, k3, k4⟩ | ⟨k1, k2, k3, k4⟩
  · have k5 := (hm k k1).mp k2
    have e := hB.2.2.1 i k i1 k1 (i2.trans k5.1.symm) (i3.trans k5.2.symm)
    rw [← e] at k4
    rw [i4, k3, i5, k4]
    exact ⟨rfl, i_upB h (by omega) (i_dl1 hB ht i1 i2 i3 rfl h4) (fun κ a b q => zup_at (by omega)) (fun κ a b q1 q2 => by unfold zndp; rw [zup_at (by omega), zup_at (by omega), zup_at (by omega), zup_at (by omega)]; exact ht.2 κ a b (by omega))⟩
  · exact absurd ((hm i i1).mpr ⟨i2, i3⟩) (k1 i i1)
  · exact absurd ((hm k k1).mp k2) (i1 k k1)
  · obtain ⟨c, hc⟩ : ∃ c : Nat, zdn C = (c : Int) := ⟨(zdn C).toNat, by omega⟩
    rw [i3, k3, i4, k4]
    refine ⟨rfl, ?_⟩
    unfold zdel
    rw [← hd, hc, Int.toNat_natCast]
    rw [hc] at i1
    exact i_upB h (by omega) (i_dl2 hB ht (hd.symm.trans hc) (by omega) i1 hv h4) (fun κ a b q => by rw [zup_at (by omega), zup_at (by omega), zup_at (by omega), zup_at (by omega)]) (fun κ a b q1 q2 => by unfold zndp; rw [zup_at (by omega), zup_at (by omega), zup_at (by omega), zup_at (by omega)]; exact ht.2 κ a b (by omega))
theorem i_prb {n : Nat} {C D D1 : zMem} {r a : Nat} {u : Int} (h : iN n C D) (ht : zthr D D1 0) (hr : r < 3) (ha : a < 32) (hu : u = 0 ∨ u = 1) : iN (n + 1) (zup C 18 r a (zI u)) (zup D1 63 0 (32 * r + a) (zI u)) := by
  obtain ⟨hA, hB, hC, hD, hE⟩ := h
  have f1 : ∀ κ j : Nat, ¬ (κ = 26 ∧ j = 0) → zV D1 κ 0 j = zV D κ 0 j := fun κ j q => zV_of (ht.2 κ 0 j (fun z => q ⟨z.1, z.2.2⟩))
  have g1 : ∀ κ j : Nat, ¬ (κ = 26 ∧ j = 0) → κ ≠ 63 → zV (zup D1 63 0 (32 * r + a) (zI u)) κ 0 j = zV D κ 0 j := fun κ j q1 q2 => (zV_ne q2).trans (f1 κ j q1)
  refine ⟨iA_c hA (fun κ i j q1 q2 => zV_ne (by omega)) (g1 _ _ (by omega) (by omega)) (fun κ j q1 q2 => g1 _ _ (by omega) (by omega)),
    iB_c hB (fun κ i j q1 q2 => zV_ne (by omega)) (g1 _ _ (by omega) (by omega)) (fun κ j q1 q2 => g1 _ _ (by omega) (by omega)),
    iC_c hC (by omega) (fun j => zV_ne (by omega)) (fun j q => g1 _ _ (by omega) (by omega)), ⟨fun r' a' => ?_, fun r' a' hr' ha' => ?_⟩,
    iE_c hE (by omega) (fun κ i j q => zV_ne (by omega)) (g1 _ _ (by omega) (by omega)) (fun κ j q1 q2 => g1 _ _ (by omega) (by omega))⟩
  · rw [zV_upg]
    split
    · rw [zI_toInt (by omega)]; exact hu
    · exact hD.1 r' a'
  · by_cases q : r' = r ∧ a' = a
    · rw [q.1, q.2, zV_eq (by omega), zV_eq (by omega)]
    · rw [zV_nj (by omega), f1 _ _ (by omega), zV_upg, if_neg (fun z => q ⟨z.2.1, z.2.2⟩)]
      exact hD.2 r' a' hr' ha'
theorem i_prx {C D : zMem} {r : Nat} (h : iD C D) (hr : r < 3) : zprb C r = zsm (fun j => zind (znu D r j ≠ 0)) 32 := by
  unfold zprb
  refine zsm_ext fun a ha => zind_iff ?_
  unfold znu
  rw [h.2 r a hr ha]
theorem i_tim {n : Nat} {C D C' D' : zMem} (h : iN n C D) (hc : ∀ κ i j : Nat, κ ≠ 0 → zV C' κ i j = zV C κ i j) (hc6 : zV C' 0 0 6 = zV C 0 0 6) (hd : ∀ κ j : Nat, ¬ (κ = 26 ∧ j ≤ 3) → zV D' κ 0 j = zV D κ 0 j) (h1 : zV D' 26 0 1 = zV C' 0 0 3 ∧ zV D' 26 0 2 = zV C' 0 0 4 ∧ zV D' 26 0 3 = zV C' 0 0 5) : iN (n + 1) C' D' := by
  obtain ⟨hA, hB, ⟨-, c2, c3, c4⟩, hD, hE⟩ := h
  refine ⟨iA_c hA (fun κ i j q1 q2 => hc _ _ _ (by omega)) (hd _ _ (by omega)) (fun κ j q1 q2 => hd _ _ (by omega)),
    iB_c hB (fun κ i j q1 q2 => hc _ _ _ (by omega)) (hd _ _ (by omega)) (fun κ j q1 q2 => hd _ _ (by omega)),
    ⟨h1, by rw [hd _ _ (by omega), hc6]; exact c2, by rw [hc6]; exact c3, by rw [hc6]; omega⟩,
    iD_c hD (fun r a => hc _ _ _ (by omega)) (fun j => hd _ _ (by omega)),
    iE_c hE (by omega) (fun κ i j q => hc _ _ _ (by omega)) (hd _ _ (by omega)) (fun κ j q1 q2 => hd _ _ (by omega))⟩
/-- the place of an entry asked about is one -/
theorem i_pos {n : Nat} {M D D1 : zMem} {r : Nat} {b x : Int} (h : iN n M D) (hr : r < 3) (ht : zthr D D1 0) (hb : 0 ≤ b ∧ b < zmb D r (zV D 26 0 21 + 1)) (hx : zpe D1 r b x) : ∃ s : Nat, x = (s : Int) ∧ s < 24 ∧ zq M r b.toNat < 24 ∧ iEn M D1 (zq M r b.toNat) s := by
  have hE := (iN_thr h (Nat.le_refl n) ht).2.2.2.2
  rw [i_ent h.2.2.2.2 hr] at hb
  exact i_at hE hr hb hx
