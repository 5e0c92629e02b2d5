theorem i_hid2 {C D : zMem} (h : iA C D) {idn mm L : Int} (hm : zfnd (zmv C) (zml C) (zmg C) (zmn C) idn mm) (hh : znh D idn L mm) : zhid (zmv C) (zml C) (zmg C) (zmn C) idn L (zown (zml C) mm) := by
  obtain ⟨a, b1, c, d⟩ := h
  have en : zmn C = zV C 1 0 1 := rfl
  have en2 : znn D = zV C 1 0 1 := b1
  have pf : ∀ i : Nat, (i : Int) < zV C 1 0 1 → znv D i = zmv C i ∧ znl D i = zml C i ∧ zng D i = zmg C i ∧ zvp (zmv C i) (zml C i) := fun i hi => by
    obtain ⟨⟨a1, a2, a3⟩, ⟨b2, b3⟩, -⟩ := c i (by omega)
    exact ⟨a2, a3, b3, a1⟩
  obtain ⟨i, h1, h2, h3, h4, h5⟩ := hh
  rw [en2] at h1
  obtain ⟨e1, e2, e3, ⟨v0, v1, v2, v3⟩, v4⟩ := pf i h1
  rw [e3] at h2
  rw [e1, e2] at h5
  refine ⟨i, h1, h2, ?_, zmeet_comm.mp h5⟩
  by_cases q : mm = -1
  · unfold zown
    rw [if_pos q]
    omega
  · have h6 := h4.resolve_left q
    obtain ⟨k, hk, hc, -⟩ := (hm.resolve_left (fun z => q z.1))
    subst hk
    obtain ⟨f1, f2, f3, ⟨w0, w1, w2, w3⟩, w4⟩ := pf k hc.1
    unfold zown
    rw [if_neg q]
    simp only [Int.toNat_natCast] at h6 ⊢
    rw [f1, f2, e1, e2] at h6
    obtain ⟨h7, h8⟩ := h6
    unfold zmeet at h8
    rw [show min (zml C k) 16 = zml C k by omega] at h8
    have hne : zml C k ≠ zml C i := fun e => by
      have h9 : zmv C k = zmv C i := by
        rw [← w4, ← v4]
        unfold zfb
        rw [h8, e]
      have h10 := d k i hc.1 h1 hc.2.1 h2 h9 e
      exact h3 (by rw [h10])
    omega
theorem i_h16n {C D : zMem} (h : iA C D) {idn mm : Int} (hm : zfnd (znv D) (znl D) (zng D) (znn D) idn mm) : ¬ znh D idn 16 mm := by
  intro hh
  have hm := i_fnd h hm
  obtain ⟨i, h1, h2, h3, h4⟩ := i_hid2 h hm hh
  have hcov : zcov (zmv C) (zml C) (zmg C) (zmn C) idn i := ⟨h1, h2, h4⟩
  rcases hm with ⟨-, q⟩ | ⟨k, hk, hc, hmax⟩
  · exact q i hcov
  · subst hk
    have h5 := (hmax i hcov).1
    unfold zown at h3
    rw [if_neg (by omega)] at h3
    simp only [Int.toNat_natCast] at h3
    omega
abbrev iI : Nat → zMem → Prop := fun n M => iN n M M
theorem sim0 (l : Launch) (hfl : l.stackTraces = false) (G : zG) : zSim0 l G iI := by
  intro n M a b ha hb hn hI
  have hI : iN n M M := hI
  refine ⟨_, w_register l G M a b (c_X7_register l hfl G M (iN_WC hI (by omega)) a b ha hb) (fun E h => by rcases h with h | h; exact Or.inl h.1; exact Or.inr h.1), fun k M1 hk hP => ?_⟩
  have hD := i_mid hI (fun x Mc hp => by obtain ⟨-, -, -, h4⟩ := hp; exact ((((i_cf.r M).u (by decide)).u (by decide)).u (by decide)).t (i_cf.sol h4)) hP
  refine ⟨_, c_X8_register l G M1 (iN_WM hD (by omega)) a b ha hb, fun y M2 hy hR => ?_⟩
  have hmn : znn M1 = zmn M := hD.1.2.1
  have hc : (znn M1 < 24 ∧ ¬ znhas M1 a b) ↔ (zmn M < 24 ∧ ¬ zhas M a b) := by rw [hmn, i_has hD.1]
  rcases hR with ⟨r1, r2⟩ | ⟨r1, r2, r3⟩ | ⟨r1, r2, r3, D1, r4, r5⟩
  · refine i_gen hP (i_rf.thr r2) (fun x Mc hp => absurd hp.1 r1) (fun i E h1 h2 => ?_)
    rcases h2 with ⟨e, e2⟩ | ⟨e, e2, e3⟩
    · rcases i_es2 h1 with ⟨q1, q2⟩ | ⟨q1, q2⟩
      · exact ⟨by rw [r2.1]; omega, iN_thr hD (by omega) r2⟩
      · exact absurd (e.symm.trans q2) i_n1
    · exact absurd e2 r1
  · refine i_gen hP (i_rf.thr r3) (fun x Mc hp => absurd (hc.mpr hp.2.1) r2) (fun i E h1 h2 => ?_)
    rcases h2 with ⟨e, e2⟩ | ⟨e, e2, e3⟩
    · exact absurd r1 e2
    · rcases i_es2 h1 with ⟨q1, q2⟩ | ⟨q1, q2⟩
      · exact absurd (q2.symm.trans e) i_n1
      · exact ⟨by rw [r3.1]; omega, iN_thr hD (by omega) r3⟩
  · refine i_gen hP (((((((i_rf.r M1).t (i_rf.thr r4)).u (by decide)).u (by decide)).u (by decide)).u (by decide)).t (i_rf.msk r5)) (fun x Mc hp => ?_) (fun i E h1 h2 => ?_)
    · obtain ⟨p1, p2, p3, p4⟩ := hp
      refine ⟨?_, by rw [p3, r3, hmn], i_reg hD p1 p2 p4 r4 r5⟩
      rw [zV_of (r5.2.2.2 26 0 0 (by omega) (by omega))]
      unfold znreg
      rw [zV_ne (by decide), zV_ne (by decide), zV_ne (by decide), zV_nj (by decide)]
      exact r4.1
    · rcases h2 with ⟨e, e2⟩ | ⟨e, e2, e3⟩
      · exact absurd r1 e2
      · exact absurd (hc.mp r2) e3
theorem sim1 (l : Launch) (hfl : l.stackTraces = false) (G : zG) : zSim1 l G iI := by
  intro n M a ha hn hI
  have hI : iN n M M := hI
  refine ⟨_, w_withdraw l G M a (c_X7_withdraw l hfl G M (iN_WC hI (by omega)) a ha) (fun E h => by rcases h with h | h; exact Or.inl h.1; exact Or.inr h.1), fun k M1 hk hP => ?_⟩
  have hD := i_mid hI (fun x Mc hp => by obtain ⟨-, -, h4, -⟩ := hp; exact ((i_cf.r M).u (by decide)).t (i_cf.sol h4)) hP
  refine ⟨_, c_X8_withdraw l G M1 (iN_WM hD (by omega)) a ha, fun y M2 hy hR => ?_⟩
  have hmn : znn M1 = zmn M := hD.1.2.1
  have hmn2 : zmn M = zV M 1 0 1 := rfl
  have hb := hD.1.1
  have hg : 0 ≤ a ∧ a < zmn M → zng M1 a.toNat = zV M 3 a.toNat 3 := fun h => (hD.1.2.2.1 a.toNat (by omega)).2.1.2
  rw [hmn] at hR
  rcases hR with ⟨r1, r2⟩ | ⟨r1, r2, r3⟩ | ⟨r1, r2, ⟨D1, r4, r5⟩, r6⟩
  · refine i_gen hP (i_rf.thr r2) (fun x Mc hp => absurd hp.1 r1) (fun i E h1 h2 => ?_)
    rcases h2 with ⟨e, e2⟩ | ⟨e, e2, e3⟩
    · rcases i_es2 h1 with ⟨q1, q2⟩ | ⟨q1, q2⟩
      · exact ⟨by rw [r2.1]; omega, iN_thr hD (by omega) r2⟩
      · exact absurd (e.symm.trans q2) i_n3
    · exact absurd e2 r1
  · rw [hg r1] at r2
    refine i_gen hP (i_rf.thr r3) (fun x Mc hp => absurd hp.2.1 r2) (fun i E h1 h2 => ?_)
    rcases h2 with ⟨e, e2⟩ | ⟨e, e2, e3⟩
    · exact absurd r1 e2
    · rcases i_es2 h1 with ⟨q1, q2⟩ | ⟨q1, q2⟩
      · exact absurd (q2.symm.trans e) i_n3
      · exact ⟨by rw [r3.1]; omega, iN_thr hD (by omega) r3⟩
  · rw [hg r1] at r2
    refine i_gen hP ((((i_rf.r M1).t (i_rf.thr r4)).u (by decide)).t (i_rf.msk r5)) (fun x Mc hp => ?_) (fun i E h1 h2 => ?_)
    · obtain ⟨p1, p2, p3, p4⟩ := hp
      have hN := i_wdr hD (by omega) p2 p3 r4 r5
      refine ⟨?_, by rw [p4, r6, i_wdx hN.1], hN⟩
      rw [zV_of (r5.2.2.2 26 0 0 (by omega) (by omega)), zV_ne (by decide)]
      exact r4.1
    · rcases h2 with ⟨e, e2⟩ | ⟨e, e2, e3⟩
      · exact absurd r1 e2
      · exact absurd r2 e3
theorem sim2 (l : Launch) (hfl : l.stackTraces = false) (G : zG) : zSim2 l G iI := by
  intro n M a b d f ha hb hd hf hn hI
  have hI : iN n M M := hI
  refine ⟨_, w_addLocator l G M a b d f (c_X7_addLocator l hfl G M (iN_WC hI (by omega)) a b d f ha hb hd hf) (fun E h => by rcases h with h | h | h; exact Or.inl h.1; exact Or.inr (Or.inl h.1); exact Or.inr (Or.inr h.1)), fun k M1 hk hP => ?_⟩
  have hD := i_mid hI (fun x Mc hp => by obtain ⟨-, -, -, -, h4⟩ := hp; exact ((((((i_cf.r M).u (by decide)).u (by decide)).u (by decide)).u (by decide)).u (by decide)).t (i_cf.sol h4)) hP
  refine ⟨_, c_X8_addLocator l G M1 (iN_WM hD (by omega)) a b d f ha hb hd hf, fun y M2 hy hR => ?_⟩
  have hmn : znn M1 = zmn M := hD.1.2.1
  have hmn2 : zmn M = zV M 1 0 1 := rfl
  have hbd := hD.1.1
  have hc : 0 ≤ a ∧ a < zmn M → ((zng M1 a.toNat = 0 ∧ ¬ zV M1 39 0 a.toNat = 4 ∧ ¬ znloc M1 a.toNat b) ↔ (zV M 3 a.toNat 3 = 0 ∧ zV M 5 a.toNat 3 < 4 ∧ ¬ zloc M a.toNat b)) := fun h => by
    obtain ⟨-, ⟨-, k1⟩, -, ⟨k2, k3⟩, -, -⟩ := hD.1.2.2.1 a.toNat (by omega)
    have k4 : zng M1 a.toNat = zV M 3 a.toNat 3 := k1
    rw [k4, k3, i_loc hD.1 (m := a.toNat) (by omega)]
    constructor
    · rintro ⟨m1, m2, m3⟩; exact ⟨m1, by omega, m3⟩
    · rintro ⟨m1, m2, m3⟩; exact ⟨m1, by omega, m3⟩
  rw [hmn] at hR
  rcases hR with ⟨r1, r2⟩ | ⟨r1, r2, r3⟩ | ⟨r1, r2, r3, r4⟩ | ⟨r1, r2, r3, r4, D1, r5, r6⟩
  · refine i_gen hP (i_rf.thr r2) (fun x Mc hp => absurd hp.1 r1) (fun i E h1 h2 => ?_)
    rcases h2 with ⟨e, e2⟩ | ⟨e, e2, e3⟩ | ⟨e, e2, e3, e4⟩
    · rcases i_es3 h1 with ⟨q1, q2⟩ | ⟨q1, q2⟩ | ⟨q1, q2⟩
      · exact ⟨by rw [r2.1]; omega, iN_thr hD (by omega) r2⟩
      · exact absurd (e.symm.trans q2) i_n2
      · exact absurd (e.symm.trans q2) i_n3
    · exact absurd e2 r1
    · exact absurd e2 r1
  · refine i_gen hP (i_rf.thr r3) (fun x Mc hp => absurd hp.2.1 r2) (fun i E h1 h2 => ?_)
    rcases h2 with ⟨e, e2⟩ | ⟨e, e2, e3⟩ | ⟨e, e2, e3, e4⟩
    · exact absurd r1 e2
    · rcases i_es3 h1 with ⟨q1, q2⟩ | ⟨q1, q2⟩ | ⟨q1, q2⟩
      · exact absurd (q2.symm.trans e) i_n2
      · exact ⟨by rw [r3.1]; omega, iN_thr hD (by omega) r3⟩
      · exact absurd (e.symm.trans q2) i_n1
    · exact absurd e3 r2
  · rw [hc r1] at r3
    refine i_gen hP (i_rf.thr r4) (fun x Mc hp => absurd hp.2.2.1 r3) (fun i E h1 h2 => ?_)
    rcases h2 with ⟨e, e2⟩ | ⟨e, e2, e3⟩ | ⟨e, e2, e3, e4⟩
    · exact absurd r1 e2
    · exact absurd r2 e3
    · rcases i_es3 h1 with ⟨q1, q2⟩ | ⟨q1, q2⟩ | ⟨q1, q2⟩
      · exact absurd (q2.symm.trans e) i_n3
      · exact absurd (q2.symm.trans e) i_n1
      · exact ⟨by rw [r4.1]; omega, iN_thr hD (by omega) r4⟩
  · rw [hc r1] at r3
    refine i_gen hP ((((((((i_rf.r M1).t (i_rf.thr r5)).u (by decide)).u (by decide)).u (by decide)).u (by decide)).u (by decide)).t (i_rf.msk r6)) (fun x Mc hp => ?_) (fun i E h1 h2 => ?_)
    · obtain ⟨p1, p2, p3, p4, p5⟩ := hp
      refine ⟨?_, by rw [p4, r4, i_verx hD.1 (by omega)], i_add hD p1 p2 p3 p5 r5 r6⟩
      rw [zV_of (r6.2.2.2 26 0 0 (by omega) (by omega))]
      unfold znver znadd
      rw [zV_ne (by decide), zV_ne (by decide), zV_ne (by decide), zV_ne (by decide), zV_ne (by decide)]
      exact r5.1
    · rcases h2 with ⟨e, e2⟩ | ⟨e, e2, e3⟩ | ⟨e, e2, e3, e4⟩
      · exact absurd r1 e2
      · exact absurd r2 e3
      · exact absurd r3 e4
theorem sim3 (l : Launch) (hfl : l.stackTraces = false) (G : zG) : zSim3 l G iI := by
  intro n M a b d ha hb hd hn hI
  have hI : iN n M M := hI
  refine ⟨_, w_move l G M a b d (c_X7_move l hfl G M (iN_WC hI (by omega)) a b d ha hb hd) (fun E h => by rcases h with h | h | h; exact Or.inl h.1; exact Or.inr (Or.inl h.1); exact Or.inr (Or.inr h.1)), fun k M1 hk hP => ?_⟩
  have hD := i_mid hI (fun x Mc hp => by obtain ⟨-, -, -, -, pl, -, -, h4⟩ := hp; exact (((i_cf.r M).u (by decide)).u (by decide)).t (i_cf.sol h4)) hP
  refine ⟨_, c_X8_move l G M1 (iN_WM hD (by omega)) a b d ha hb hd, fun y M2 hy hR => ?_⟩
  have hmn : znn M1 = zmn M := hD.1.2.1
  have hmn2 : zmn M = zV M 1 0 1 := rfl
  have hbd := hD.1.1
  have hc : 0 ≤ a ∧ a < zmn M → ((zng M1 a.toNat = 0 ∧ znloc M1 a.toNat b ∧ ¬ znloc M1 a.toNat d) ↔ (zV M 3 a.toNat 3 = 0 ∧ zloc M a.toNat b ∧ ¬ zloc M a.toNat d)) := fun h => by
    obtain ⟨-, ⟨-, k1⟩, -, -, -, -⟩ := hD.1.2.2.1 a.toNat (by omega)
    have k4 : zng M1 a.toNat = zV M 3 a.toNat 3 := k1
    rw [k4, i_loc hD.1 (m := a.toNat) (a := b) (by omega), i_loc hD.1 (m := a.toNat) (a := d) (by omega)]
  rw [hmn] at hR
  rcases hR with ⟨r1, r2⟩ | ⟨r1, r2, r3⟩ | ⟨r1, r2, r3, r4⟩ | ⟨r1, r2, r3, r4, j, D1, r5, r6, r7, r8⟩
  · refine i_gen hP (i_rf.thr r2) (fun x Mc hp => absurd hp.1 r1) (fun i E h1 h2 => ?_)
    rcases h2 with ⟨e, e2⟩ | ⟨e, e2, e3⟩ | ⟨e, e2, e3, e4⟩
    · rcases i_es3 h1 with ⟨q1, q2⟩ | ⟨q1, q2⟩ | ⟨q1, q2⟩
      · exact ⟨by rw [r2.1]; omega, iN_thr hD (by omega) r2⟩
      · exact absurd (e.symm.trans q2) i_n2
      · exact absurd (e.symm.trans q2) i_n3
    · exact absurd e2 r1
    · exact absurd e2 r1
  · refine i_gen hP (i_rf.thr r3) (fun x Mc hp => absurd hp.2.1 r2) (fun i E h1 h2 => ?_)
    rcases h2 with ⟨e, e2⟩ | ⟨e, e2, e3⟩ | ⟨e, e2, e3, e4⟩
    · exact absurd r1 e2
    · rcases i_es3 h1 with ⟨q1, q2⟩ | ⟨q1, q2⟩ | ⟨q1, q2⟩
      · exact absurd (q2.symm.trans e) i_n2
      · exact ⟨by rw [r3.1]; omega, iN_thr hD (by omega) r3⟩
      · exact absurd (e.symm.trans q2) i_n1
    · exact absurd e3 r2
  · rw [hc r1] at r3
    refine i_gen hP (i_rf.thr r4) (fun x Mc hp => absurd hp.2.2.1 r3) (fun i E h1 h2 => ?_)
    rcases h2 with ⟨e, e2⟩ | ⟨e, e2, e3⟩ | ⟨e, e2, e3, e4⟩
    · exact absurd r1 e2
    · exact absurd r2 e3
    · rcases i_es3 h1 with ⟨q1, q2⟩ | ⟨q1, q2⟩ | ⟨q1, q2⟩
      · exact absurd (q2.symm.trans e) i_n3
      · exact absurd (q2.symm.trans e) i_n1
      · exact ⟨by rw [r4.1]; omega, iN_thr hD (by omega) r4⟩
  · rw [hc r1] at r3
    refine i_gen hP (((((i_rf.r M1).t (i_rf.thr r7)).u (by decide)).u (by decide)).t (i_rf.msk r8)) (fun x Mc hp => ?_) (fun i E h1 h2 => ?_)
    · obtain ⟨p1, p2, p3, p4, pl, p5, p6, p7⟩ := hp
      refine ⟨?_, by rw [p4, r4, i_verx hD.1 (by omega)], i_mov hD p1 p2 p3.2.2 p5 p6 p7 r5 r6 r7 r8⟩
      rw [zV_of (r8.2.2.2 26 0 0 (by omega) (by omega))]
      unfold znver
      rw [zV_ne (by decide), zV_ne (by decide)]
      exact r7.1
    · rcases h2 with ⟨e, e2⟩ | ⟨e, e2, e3⟩ | ⟨e, e2, e3, e4⟩
      · exact absurd r1 e2
      · exact absurd r2 e3
      · exact absurd r3 e4
theorem sim4 (l : Launch) (hfl : l.stackTraces = false) (G : zG) : zSim4 l G iI := by
  intro n M a b ha hb hn hI
  have hI : iN n M M := hI
  refine ⟨_, w_removeLocator l G M a b (c_X7_removeLocator l hfl G M (iN_WC hI (by omega)) a b ha hb) (fun E h => by rcases h with h | h | h; exact Or.inl h.1; exact Or.inr (Or.inl h.1); exact Or.inr (Or.inr h.1)), fun k M1 hk hP => ?_⟩
  have hD := i_mid hI (fun x Mc hp => by obtain ⟨-, -, -, -, pl, C1, -, -, -, h3, h4⟩ := hp; exact (((i_cf.r M).t (i_cf.shf h3)).u (by decide)).t (i_cf.sol h4)) hP
  refine ⟨_, c_X8_removeLocator l G M1 (iN_WM hD (by omega)) a b ha hb, fun y M2 hy hR => ?_⟩
  have hmn : znn M1 = zmn M := hD.1.2.1
  have hmn2 : zmn M = zV M 1 0 1 := rfl
  have hbd := hD.1.1
  have hc : 0 ≤ a ∧ a < zmn M → ((zng M1 a.toNat = 0 ∧ znloc M1 a.toNat b) ↔ (zV M 3 a.toNat 3 = 0 ∧ zloc M a.toNat b)) := fun h => by
    obtain ⟨-, ⟨-, k1⟩, -, -, -, -⟩ := hD.1.2.2.1 a.toNat (by omega)
    have k4 : zng M1 a.toNat = zV M 3 a.toNat 3 := k1
    rw [k4, i_loc hD.1 (m := a.toNat) (a := b) (by omega)]
  rw [hmn] at hR
  rcases hR with ⟨r1, r2⟩ | ⟨r1, r2, r3⟩ | ⟨r1, r2, r3, r4⟩ | ⟨r1, r2, r3, r4, j, D1, D2, r5, r6, r7, r8, r9⟩
  · refine i_gen hP (i_rf.thr r2) (fun x Mc hp => absurd hp.1 r1) (fun i E h1 h2 => ?_)
    rcases h2 with ⟨e, e2⟩ | ⟨e, e2, e3⟩ | ⟨e, e2, e3, e4⟩
    · rcases i_es3 h1 with ⟨q1, q2⟩ | ⟨q1, q2⟩ | ⟨q1, q2⟩
      · exact ⟨by rw [r2.1]; omega, iN_thr hD (by omega) r2⟩
      · exact absurd (e.symm.trans q2) i_n2
      · exact absurd (e.symm.trans q2) i_n3
    · exact absurd e2 r1
    · exact absurd e2 r1
  · refine i_gen hP (i_rf.thr r3) (fun x Mc hp => absurd hp.2.1 r2) (fun i E h1 h2 => ?_)
    rcases h2 with ⟨e, e2⟩ | ⟨e, e2, e3⟩ | ⟨e, e2, e3, e4⟩
    · exact absurd r1 e2
    · rcases i_es3 h1 with ⟨q1, q2⟩ | ⟨q1, q2⟩ | ⟨q1, q2⟩
      · exact absurd (q2.symm.trans e) i_n2
      · exact ⟨by rw [r3.1]; omega, iN_thr hD (by omega) r3⟩
      · exact absurd (e.symm.trans q2) i_n1
    · exact absurd e3 r2
  · rw [hc r1] at r3
    refine i_gen hP (i_rf.thr r4) (fun x Mc hp => absurd hp.2.2.1 r3) (fun i E h1 h2 => ?_)
    rcases h2 with ⟨e, e2⟩ | ⟨e, e2, e3⟩ | ⟨e, e2, e3, e4⟩
    · exact absurd r1 e2
    · exact absurd r2 e3
    · rcases i_es3 h1 with ⟨q1, q2⟩ | ⟨q1, q2⟩ | ⟨q1, q2⟩
      · exact absurd (q2.symm.trans e) i_n3
      · exact absurd (q2.symm.trans e) i_n1
      · exact ⟨by rw [r4.1]; omega, iN_thr hD (by omega) r4⟩
  · rw [hc r1] at r3
    refine i_gen hP ((((((i_rf.r M1).t (i_rf.thr r7)).u (by decide)).t (i_rf.msh r8)).u (by decide)).t (i_rf.msk r9)) (fun x Mc hp => ?_) (fun i E h1 h2 => ?_)
    · obtain ⟨p1, p2, p3, p4, pl, C1, p5, p6, p7, p8, p9⟩ := hp
      refine ⟨?_, by rw [p4, r4, i_verx hD.1 (by omega)], i_rem hD p1 p5 p6 p7 p8 p9 r5 r6 r7 r8 r9⟩
      rw [zV_of (r9.2.2.2 26 0 0 (by omega) (by omega))]
      unfold znver
      rw [zV_ne (by decide), zV_of (r8.2.2.2 26 0 0 (by omega)), zV_ne (by decide)]
      exact r7.1
    · rcases h2 with ⟨e, e2⟩ | ⟨e, e2, e3⟩ | ⟨e, e2, e3, e4⟩
      · exact absurd r1 e2
      · exact absurd r2 e3
      · exact absurd r3 e4
