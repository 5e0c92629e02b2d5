/-! delegations, servers, times, reachability -/
theorem i_upB {n n' : Nat} {C D C' D' : zMem} (h : iN n C D) (hn : n ≤ n') (hB : iB C' D') (hc : ∀ κ i j : Nat, ¬ (9 ≤ κ ∧ κ ≤ 14) → C' κ i j = C κ i j) (hd : ∀ κ i j : Nat, ¬ (κ = 26 ∧ (j = 0 ∨ j = 13)) → ¬ (44 ≤ κ ∧ κ ≤ 48) → D' κ i j = D κ i j) : iN n' C' D' := by
  obtain ⟨a, b, c, d, e⟩ := h
  exact ⟨iA_c a (fun κ i j q1 q2 => zV_of (hc _ _ _ (by omega))) (zV_of (hd _ _ _ (by omega) (by omega))) (fun κ j q1 q2 => zV_of (hd _ _ _ (by omega) (by omega))), hB,
    iC_c c hn (fun j => zV_of (hc _ _ _ (by omega))) (fun j q => zV_of (hd _ _ _ (by omega) (by omega))),
    iD_c d (fun r q => zV_of (hc _ _ _ (by omega))) (fun j => zV_of (hd _ _ _ (by omega) (by omega))),
    iE_c e hn (fun κ i j q => zV_of (hc _ _ _ (by omega))) (zV_of (hd _ _ _ (by omega) (by omega))) (fun κ j q1 q2 => zV_of (hd _ _ _ (by omega) (by omega)))⟩
theorem i_dl1 {C D D1 : zMem} {v b t x : Int} {i : Nat} (h : iB C D) (ht : zthr D D1 0) (hi : (i : Int) < zV C 9 0 4) (hv : zV C 14 i 0 = v) (hb : zV C 14 i 1 = b) (hx : x = zV C 9 0 4) (h4 : 0 ≤ t ∧ t < 4) : iB (zup C 13 0 i (zI t)) (zndp D1 i v b t x) := by
  obtain ⟨⟨a, b1⟩, c, d, e⟩ := h
  have hi12 : i < 12 := by omega
  have hp := (c i hi12).1
  have f1 : ∀ κ j : Nat, ¬ (κ = 26 ∧ j = 0) → zV D1 κ 0 j = zV D κ 0 j := fun κ j q => zV_of (ht.2 κ 0 j (fun z => q ⟨z.1, z.2.2⟩))
  rw [hv, hb] at hp
  obtain ⟨p0, p1, p2, p3⟩ := hp
  unfold zndp
  refine ⟨⟨by rw [zV_ne (by decide)]; exact a, by rw [zV_eq (by omega), zV_ne (by decide)]; exact hx⟩, fun k hk => ?_, fun k k' h1 h2 h5 h6 => ?_, fun s hs => ?_⟩
  · by_cases q : k = i
    · subst q
      rw [zV_ne (by decide), zV_ne (by decide), zV_eq (by omega), zV_ne (show (44 : Nat) ≠ 26 by decide), zV_ne (show (45 : Nat) ≠ 26 by decide), zV_ne (show (46 : Nat) ≠ 26 by decide), zV_ne (show (44 : Nat) ≠ 46 by decide), zV_ne (show (44 : Nat) ≠ 45 by decide), zV_ne (show (45 : Nat) ≠ 46 by decide), zV_eq (by omega), zV_eq (by omega), zV_eq (by omega)]
      exact ⟨(c k hk).1, h4, hv.symm, hb.symm, rfl⟩
    · rw [zV_ne (by decide), zV_ne (by decide), zV_nj q, zV_ne (show (44 : Nat) ≠ 26 by decide), zV_ne (show (45 : Nat) ≠ 26 by decide), zV_ne (show (46 : Nat) ≠ 26 by decide), zV_nj q, zV_nj q, zV_nj q, zV_nj q, zV_nj q, zV_nj q, zV_nj q, zV_nj q, zV_nj q, f1 _ _ (by omega), f1 _ _ (by omega), f1 _ _ (by omega)]
      exact c k hk
  · rw [zV_ne (by decide)] at h1 h2
    rw [zV_ne (by decide), zV_ne (by decide)] at h5 h6
    exact d k k' h1 h2 h5 h6
  · rw [zV_ne (show (10 : Nat) ≠ 13 by decide), zV_ne (show (11 : Nat) ≠ 13 by decide), zV_ne (show (47 : Nat) ≠ 26 by decide), zV_ne (show (48 : Nat) ≠ 26 by decide), zV_ne (show (47 : Nat) ≠ 46 by decide), zV_ne (show (48 : Nat) ≠ 46 by decide), zV_ne (show (47 : Nat) ≠ 45 by decide), zV_ne (show (48 : Nat) ≠ 45 by decide), zV_ne (show (47 : Nat) ≠ 44 by decide), zV_ne (show (48 : Nat) ≠ 44 by decide), f1 _ _ (by omega), f1 _ _ (by omega)]
    exact e s hs
theorem i_dl2 {C D D1 : zMem} {v b t : Int} {k : Nat} (h : iB C D) (ht : zthr D D1 0) (hk : zV C 9 0 4 = (k : Int)) (hk12 : k < 12) (hno : ∀ i : Nat, (i : Int) < (k : Int) → ¬ (zV C 14 i 0 = v ∧ zV C 14 i 1 = b)) (hv : zvp v b) (h4 : 0 ≤ t ∧ t < 4) : iB (zup (zup (zup (zup C 14 k 0 (zI v)) 14 k 1 (zI b)) 13 0 k (zI t)) 9 0 4 (zI ((k : Int) + 1))) (zndp D1 k v b t ((k : Int) + 1)) := by
  obtain ⟨⟨a, b1⟩, c, d, e⟩ := h
  obtain ⟨⟨p0, p1, p2, p3⟩, p4⟩ := hv
  have f1 : ∀ κ j : Nat, ¬ (κ = 26 ∧ j = 0) → zV D1 κ 0 j = zV D κ 0 j := fun κ j q => zV_of (ht.2 κ 0 j (fun z => q ⟨z.1, z.2.2⟩))
  have g9 : zV (zup (zup (zup (zup C 14 k 0 (zI v)) 14 k 1 (zI b)) 13 0 k (zI t)) 9 0 4 (zI ((k : Int) + 1))) 9 0 4 = (k : Int) + 1 := zV_eq (by omega)
  have gv : zV (zup (zup (zup (zup C 14 k 0 (zI v)) 14 k 1 (zI b)) 13 0 k (zI t)) 9 0 4 (zI ((k : Int) + 1))) 14 k 0 = v := by rw [zV_ne (by decide), zV_ne (by decide), zV_nj (by decide), zV_eq (by omega)]
  have gb : zV (zup (zup (zup (zup C 14 k 0 (zI v)) 14 k 1 (zI b)) 13 0 k (zI t)) 9 0 4 (zI ((k : Int) + 1))) 14 k 1 = b := by rw [zV_ne (by decide), zV_ne (by decide), zV_eq (by omega)]
  have gn : ∀ i j, i ≠ k → zV (zup (zup (zup (zup C 14 k 0 (zI v)) 14 k 1 (zI b)) 13 0 k (zI t)) 9 0 4 (zI ((k : Int) + 1))) 14 i j = zV C 14 i j := fun i j q => by rw [zV_ne (by decide), zV_ne (by decide), zV_ni q, zV_ni q]
  have gt : zV (zup (zup (zup (zup C 14 k 0 (zI v)) 14 k 1 (zI b)) 13 0 k (zI t)) 9 0 4 (zI ((k : Int) + 1))) 13 0 k = t := by rw [zV_ne (by decide), zV_eq (by omega)]
  have gu : ∀ i, i ≠ k → zV (zup (zup (zup (zup C 14 k 0 (zI v)) 14 k 1 (zI b)) 13 0 k (zI t)) 9 0 4 (zI ((k : Int) + 1))) 13 0 i = zV C 13 0 i := fun i q => by rw [zV_ne (by decide), zV_nj q, zV_ne (by decide), zV_ne (by decide)]
  unfold zndp
  refine ⟨⟨by rw [g9]; omega, by rw [g9, zV_eq (by omega)]⟩, fun i hi => ?_, fun i i' h1 h2 h5 h6 => ?_, fun s hs => ?_⟩
  · by_cases q : i = k
    · subst q
      rw [gv, gb, gt, zV_ne (show (44 : Nat) ≠ 26 by decide), zV_ne (show (45 : Nat) ≠ 26 by decide), zV_ne (show (46 : Nat) ≠ 26 by decide), zV_ne (show (44 : Nat) ≠ 46 by decide), zV_ne (show (44 : Nat) ≠ 45 by decide), zV_ne (show (45 : Nat) ≠ 46 by decide), zV_eq (by omega), zV_eq (by omega), zV_eq (by omega)]
      exact ⟨⟨p0, p1, p2, p3⟩, h4, rfl, rfl, rfl⟩
    · rw [gn _ _ q, gn _ _ q, gu _ q, zV_ne (show (44 : Nat) ≠ 26 by decide), zV_ne (show (45 : Nat) ≠ 26 by decide), zV_ne (show (46 : Nat) ≠ 26 by decide), zV_nj q, zV_nj q, zV_nj q, zV_nj q, zV_nj q, zV_nj q, zV_nj q, zV_nj q, zV_nj q, f1 _ _ (by omega), f1 _ _ (by omega), f1 _ _ (by omega)]
      exact c i hi
  · rw [g9] at h1 h2
    by_cases q : i = k <;> by_cases q' : i' = k
    · rw [q, q']
    · exfalso
      rw [q, gv, gn _ _ q'] at h5
      rw [q, gb, gn _ _ q'] at h6
      exact hno i' (by omega) ⟨h5.symm, h6.symm⟩
    · exfalso
      rw [q', gv, gn _ _ q] at h5
      rw [q', gb, gn _ _ q] at h6
      exact hno i (by omega) ⟨h5, h6⟩
    · rw [gn _ _ q, gn _ _ q'] at h5 h6
      exact d i i' (by omega) (by omega) h5 h6
  · rw [zV_ne (show (10 : Nat) ≠ 9 by decide), zV_ne (show (11 : Nat) ≠ 9 by decide), zV_ne (show (10 : Nat) ≠ 13 by decide), zV_ne (show (11 : Nat) ≠ 13 by decide), zV_ne (show (10 : Nat) ≠ 14 by decide), zV_ne (show (10 : Nat) ≠ 14 by decide), zV_ne (show (11 : Nat) ≠ 14 by decide), zV_ne (show (11 : Nat) ≠ 14 by decide), zV_ne (show (47 : Nat) ≠ 26 by decide), zV_ne (show (48 : Nat) ≠ 26 by decide), zV_ne (show (47 : Nat) ≠ 46 by decide), zV_ne (show (48 : Nat) ≠ 46 by decide), zV_ne (show (47 : Nat) ≠ 45 by decide), zV_ne (show (48 : Nat) ≠ 45 by decide), zV_ne (show (47 : Nat) ≠ 44 by decide), zV_ne (show (48 : Nat) ≠ 44 by decide), f1 _ _ (by omega), f1 _ _ (by omega)]
    exact e s hs
theorem i_upS {C D D1 : zMem} {u : Int} {t : Nat} (h : iB C D) (ht : zthr D D1 0) (ht4 : t < 4) (hu : u = 0 ∨ u = 1) : iB (zup C 10 0 t (zI u)) (zup D1 47 0 t (zI u)) := by
  obtain ⟨⟨a, b1⟩, c, d, e⟩ := h
  have f1 : ∀ κ j : Nat, ¬ (κ = 26 ∧ j = 0) → zV D1 κ 0 j = zV D κ 0 j := fun κ j q => zV_of (ht.2 κ 0 j (fun z => q ⟨z.1, z.2.2⟩))
  refine ⟨⟨by rw [zV_ne (by decide)]; exact a, by rw [zV_ne (by decide), zV_ne (by decide), f1 _ _ (by omega)]; exact b1⟩, fun i hi => ?_, fun i i' h1 h2 h5 h6 => ?_, fun s hs => ?_⟩
  · rw [zV_ne (show (14 : Nat) ≠ 10 by decide), zV_ne (show (14 : Nat) ≠ 10 by decide), zV_ne (show (13 : Nat) ≠ 10 by decide), zV_ne (show (44 : Nat) ≠ 47 by decide), zV_ne (show (45 : Nat) ≠ 47 by decide), zV_ne (show (46 : Nat) ≠ 47 by decide), f1 _ _ (by omega), f1 _ _ (by omega), f1 _ _ (by omega)]
    exact c i hi
  · rw [zV_ne (by decide)] at h1 h2
    rw [zV_ne (by decide), zV_ne (by decide)] at h5 h6
    exact d i i' h1 h2 h5 h6
  · by_cases q : s = t
    · subst q
      rw [zV_eq (by omega), zV_eq (by omega), zV_ne (show (11 : Nat) ≠ 10 by decide), zV_ne (show (48 : Nat) ≠ 47 by decide), f1 _ _ (by omega)]
      exact ⟨hu, rfl, (e s hs).2.2⟩
    · rw [zV_nj q, zV_nj q, zV_ne (show (11 : Nat) ≠ 10 by decide), zV_ne (show (48 : Nat) ≠ 47 by decide), f1 _ _ (by omega), f1 _ _ (by omega)]
      exact e s hs
/-! what is found -/
theorem i_fnd {C D : zMem} (h : iA C D) {id y : Int} (hy : zfnd (znv D) (znl D) (zng D) (znn D) id y) : zfnd (zmv C) (zml C) (zmg C) (zmn C) id y := by
  have e : znn D = zmn C := h.2.1
  rw [e] at hy
  refine i_fc (fun i hi => ?_) hy
  have hi : (i : Int) < zV C 1 0 1 := hi
  have h1 := h.1
  obtain ⟨⟨a1, a2, a3⟩, ⟨b2, b3⟩, -⟩ := h.2.2.1 i (by omega)
  exact ⟨a2.symm, a3.symm, b3.symm⟩
theorem i_sfd {C D : zMem} (h : iB C D) {id y : Int} (hy : zfnd (zndv D) (zndl D) z0 (zndn D) id y) : zfnd (zdv C) (zdl C) z0 (zdn C) id y := by
  have e : zndn D = zdn C := h.1.2
  rw [e] at hy
  refine i_fc (fun i hi => ?_) hy
  have hi : (i : Int) < zV C 9 0 4 := hi
  have h1 := h.1.1
  obtain ⟨-, -, a2, a3, -⟩ := h.2.1 i (by omega)
  exact ⟨a2.symm, a3.symm, rfl⟩
theorem i_srv {C D : zMem} (h : iB C D) {id x y : Int} (hx : zfnd (zdv C) (zdl C) z0 (zdn C) id x) (hy : zfnd (zndv D) (zndl D) z0 (zndn D) id y) : zsv (zdt C) x = zsv (zndt D) y ∧ 0 ≤ zsv (zdt C) x ∧ zsv (zdt C) x < 4 := by
  have e := i_fu hx (i_sfd h hy)
  have hr := zfnd_rg hx
  have h1 := h.1.1
  have h2 : zdn C = zV C 9 0 4 := rfl
  rw [← e]
  unfold zsv
  by_cases q : x = -1
  · rw [if_pos q, if_pos q]
    exact ⟨rfl, by decide, by decide⟩
  · rw [if_neg q, if_neg q]
    obtain ⟨-, a1, -, -, a4⟩ := h.2.1 x.toNat (by omega)
    exact ⟨a4.symm, a1⟩
/-- what would be hidden, by the one and by the other -/
theorem i_hid {C D : zMem} (h : iA C D) {id mm L : Int} (hid : 0 ≤ id ∧ id < 65536) (hm : zfnd (zmv C) (zml C) (zmg C) (zmn C) id mm) (hL : max (zown (zml C) mm) 0 ≤ L ∧ L ≤ 16) : zhid (zmv C) (zml C) (zmg C) (zmn C) id L (zown (zml C) mm) ↔ znh D id L mm := by
  obtain ⟨a, b1, c, d⟩ := h
  have en : zmn C = zV C 1 0 1 := rfl
  have en2 : znn D = zV C 1 0 1 := b1
  have hr := zfnd_rg hm
  have pf : ∀ i : Nat, (i : Int) < zV C 1 0 1 → znv D i = zmv C i ∧ znl D i = zml C i ∧ zng D i = zmg C i ∧ zvp (zmv C i) (zml C i) := fun i hi => by
    obtain ⟨⟨a1, a2, a3⟩, ⟨b2, b3⟩, -⟩ := c i (by omega)
    exact ⟨a2, a3, b3, a1⟩
  unfold zhid znh
  rw [en2, en]
  constructor
  · rintro ⟨i, h1, h2, h3, h4⟩
    obtain ⟨e1, e2, e3, ⟨v0, v1, v2, v3⟩, -⟩ := pf i h1
    refine ⟨i, h1, by rw [e3]; exact h2, ?_, ?_, zmeet_comm.mp (by rw [e1, e2]; exact h4)⟩
    · intro z
      unfold zown at h3
      rw [if_neg (by omega), ← z] at h3
      simp only [Int.toNat_natCast] at h3
      omega
    · by_cases q : mm = -1
      · exact Or.inl q
      · right
        obtain ⟨k, hk, hc, -⟩ := (hm.resolve_left (fun z => q z.1))
        subst hk
        obtain ⟨f1, f2, f3, ⟨w0, w1, w2, w3⟩, -⟩ := pf k hc.1
        unfold zown at h3 hL
        rw [if_neg q] at h3 hL
        simp only [Int.toNat_natCast] at h3 hL ⊢
        have hc3 : zmeet (zmv C k) (zml C k) id 16 := hc.2.2
        unfold zmeet at hc3 h4 ⊢
        rw [f1, f2, e1, e2, show min (zml C k) 16 = zml C k by omega]
        rw [show min (zml C k) 16 = zml C k by omega] at hc3
        have h5 := i_fs (k := zml C k) v0 hid.1 w2 (by omega) (by omega) h4
        exact ⟨by omega, by rw [hc3, h5]⟩
  · rintro ⟨i, h1, h2, h3, h4, h5⟩
    obtain ⟨e1, e2, e3, ⟨v0, v1, v2, v3⟩, v4⟩ := pf i h1
    rw [e3] at h2
    rw [e1, e2] at h5
    refine ⟨i, h1, h2, ?_, zmeet_comm.mp h5⟩
    by_cases q : mm = -1
    · unfold zown
      rw [if_pos q]
      omega
    · have h6 := h4.resolve_left q
      obtain ⟨k, hk, hc, -⟩ := (hm.resolve_left (fun z => q z.1))
      subst hk
      obtain ⟨f1, f2, f3, ⟨w0, w1, w2, w3⟩, w4⟩ := pf k hc.1
      unfold zown
      rw [if_neg q]
      simp only [Int.toNat_natCast] at h6 ⊢
      rw [f1, f2, e1, e2] at h6
      obtain ⟨h7, h8⟩ := h6
      unfold zmeet at h8
      rw [show min (zml C k) 16 = zml C k by omega] at h8
      have hne : zml C k ≠ zml C i := fun e => by
        have h9 : zmv C k = zmv C i := by
          rw [← w4, ← v4]
          unfold zfb
          rw [h8, e]
        have h10 := d k i hc.1 h1 hc.2.1 h2 h9 e
        exact h3 (by rw [h10])
      omega
theorem i_h16 {C D : zMem} (h : iA C D) {id mm : Int} (hid : 0 ≤ id ∧ id < 65536) (hm : zfnd (zmv C) (zml C) (zmg C) (zmn C) id mm) : ¬ znh D id 16 mm := by
  have en : zmn C = zV C 1 0 1 := rfl
  have hr := zfnd_rg hm
  have ho : zown (zml C) mm ≤ 16 := by
    unfold zown
    split
    · omega
    · have := (h.2.2.1 mm.toNat (by have := h.1; omega)).1.1.1.2.2.2
      exact this
  rw [← i_hid h hid hm ⟨by omega, Int.le_refl _⟩]
  rintro ⟨i, h1, h2, h3, h4⟩
  have hcov : zcov (zmv C) (zml C) (zmg C) (zmn C) id i := ⟨h1, h2, h4⟩
  rcases hm with ⟨-, q⟩ | ⟨k, hk, hc, hmax⟩
  · exact q i hcov
  · subst hk
    have h5 := (hmax i hcov).1
    unfold zown at h3
    rw [if_neg (by omega)] at h3
    simp only [Int.toNat_natCast] at h3
    omega
theorem i_bits {C D : zMem} (h : iA C D) {id mm x y : Int} (hid : 0 ≤ id ∧ id < 65536) (hm : zfnd (zmv C) (zml C) (zmg C) (zmn C) id mm) (hx : znar (zmv C) (zml C) (zmg C) (zmn C) id (zown (zml C) mm) x) (hy : znb D id mm y) : x = y := by
  obtain ⟨x1, x2, x3, x4⟩ := hx
  obtain ⟨y1, y2, y3, y4⟩ := hy
  have hr := zfnd_rg hm
  have en : zmn C = zV C 1 0 1 := rfl
  have hb : (if mm = -1 then 0 else znl D mm.toNat) = max (zown (zml C) mm) 0 := by
    unfold zown
    by_cases q : mm = -1
    · rw [if_pos q, if_pos q]; rfl
    · rw [if_neg q, if_neg q]
      obtain ⟨⟨a1, a2, a3⟩, -⟩ := h.2.2.1 mm.toNat (by have := h.1; omega)
      have e : znl D mm.toNat = zml C mm.toNat := a3
      have e2 : 0 ≤ zml C mm.toNat := a1.1.2.2.1
      rw [e]; omega
  rw [hb] at y1 y3
  rcases Int.lt_trichotomy x y with q | q | q
  · exact absurd ((i_hid h hid hm ⟨x1, x2⟩).mpr (y3 x x1 q)) (x4 (by omega))
  · exact q
  · exact absurd ((i_hid h hid hm ⟨y1, y2⟩).mp (x3 y y1 q)) y4
/-! entries that are asked about -/
theorem i_ent {n : Nat} {C D : zMem} (h : iE n C D) {r : Nat} (hr : r < 3) : zmb D r (zV D 26 0 21 + 1) = zV C 16 r 2 := by
  obtain ⟨Z, z1, z2⟩ := h.2.2.2 r hr
  have h1 := (h.2.1.1 r hr).1
  rw [i_len z2, i_el z1]
  omega
theorem i_at {n : Nat} {C D : zMem} (h : iE n C D) {r : Nat} (hr : r < 3) {b x : Int} (hb : 0 ≤ b ∧ b < zV C 16 r 2) (hx : zpe D r b x) : ∃ s : Nat, x = (s : Int) ∧ s < 24 ∧ zq C r b.toNat < 24 ∧ iEn C D (zq C r b.toNat) s := by
  obtain ⟨Z, z1, z2⟩ := h.2.2.2 r hr
  have h1 := (h.2.1.1 r hr).1
  have h2 := i_el z1
  obtain ⟨p, hp, hx2⟩ := i_pe z2 hb.1 hx (by omega)
  obtain ⟨k1, k2, k3⟩ := i_el2 z1 hp
  have hm := List.mem_of_getElem? hp
  have h3 := i_el3 (h.2.1.1 r hr) z1 hm
  obtain ⟨m1, m2, m3, m4⟩ := z2.2.1 p hm
  exact ⟨p.2, hx2, by omega, by omega, by rw [k3]; exact m4⟩
theorem i_pkt {C D : zMem} {q s : Nat} {d x : Int} (h : iEn C D q s) (hx : ∃ pl : Int, zplace (fun j => zV C 22 q j) (zV C 21 q 3) d pl ∧ x = if pl = -1 then 0 else zV C 25 q pl.toNat) : x = zw (zsm (zpkm D ((s : Nat) : Int) d) (zV D 58 0 s).toNat) := by
  obtain ⟨a1, a3, a4, a5, a6, a7, a8, a9⟩ := h
  obtain ⟨pl, hp, hx⟩ := hx
  rw [a7]
  rcases hp with ⟨h1, h2⟩ | ⟨j, h1, h2, h3, -⟩
  · rw [if_pos h1] at hx
    have e : zsm (zpkm D ((s : Nat) : Int) d) (zV C 21 q 3).toNat = zsm (fun _ => 0) (zV C 21 q 3).toNat := zsm_ext fun k hk => by
      have h5 := (a8 k (by omega)).1.1
      refine zpkm_f (k := 4 * s + k) (by simp only [Int.toNat_natCast]) ?_
      rw [h5]
      exact h2 k (by omega)
    rw [hx, e, i_s0]
    rfl
  · rw [if_neg (by omega), h1, Int.toNat_natCast] at hx
    have e : zsm (zpkm D ((s : Nat) : Int) d) (zV C 21 q 3).toNat = zsm (fun k => if k = j then zV C 25 q j else 0) (zV C 21 q 3).toNat := zsm_ext fun k hk => by
      have h5 := (a8 k (by omega)).1
      by_cases z : k = j
      · rw [if_pos z, z, zpkm_t (k := 4 * s + j) (by simp only [Int.toNat_natCast]) (by rw [z] at h5; rw [h5.1]; exact h3)]
        rw [z] at h5
        exact h5.2.2.2
      · rw [if_neg z]
        refine zpkm_f (k := 4 * s + k) (by simp only [Int.toNat_natCast]) ?_
        rw [h5.1]
        intro e
        exact z (a9 k j (by omega) h2 (by rw [e]; exact h3.symm))
    rw [e, i_s1, if_pos (by omega), hx]
    exact (zw_eq (zV_rg _ _ _ _)).symm
