theorem i_t0 {A B : zMem} {a idn y : Int} (h : zmsnt A B a idn y) : zV B 26 0 0 = zV A 26 0 0 := by
  have hfin : ∀ (A B : zMem) (a x y : Int), zmfin A B a x y → zV B 26 0 0 = zV A 26 0 0 := fun A B a x y h => by
    obtain ⟨M2, e, h2⟩ := h
    have k2 : zV M2 26 0 0 = zV A 26 0 0 := by rw [e, zV_ne (by decide), zV_nj (by decide)]
    rcases h2 with ⟨-, -, e2⟩ | ⟨-, -, -, e2⟩ | ⟨-, -, -, e2⟩
    · rw [e2]; exact k2
    · rw [e2]; exact k2
    · rw [e2, zV_ne (by decide)]; exact k2
  rcases h with ⟨x, -, -, h1⟩ | ⟨-, w, -, ⟨-, -, e⟩ | ⟨-, x, M1, h1, h2⟩⟩
  · exact hfin _ _ _ _ _ h1
  · rw [e]
  · refine (hfin _ _ _ _ _ h2).trans ?_
    obtain ⟨mm, L, N1, N2, -, -, h3, h4, -, -, h7⟩ := h1
    rw [zV_of (h7.2 26 0 0 (by omega)), zgset_o (by omega)]
    have k1 : zV N1 26 0 0 = zV A 26 0 0 := (zV_of (h3.2 26 0 0 (by omega))).trans (zV_ne (by decide))
    rcases h4 with ⟨-, j, -, -, e⟩ | ⟨-, e⟩
    · rw [e, zV_ne (by decide)]; exact k1
    · rw [e]; exact k1
theorem sim10 (l : Launch) (hfl : l.stackTraces = false) (G : zG) : zSim10 l G iI := by
  intro n M a ha hn hI
  have hI : iN n M M := hI
  refine ⟨_, w_serverOf l G M a (c_X7_serverOf l hfl G M (iN_WC hI (by omega)) a ha) (fun E h => h.1), fun k M1 hk hP => ?_⟩
  have hD := i_mid hI (fun x Mc hp => by rw [← hp.1]; exact i_cf.r M) hP
  refine ⟨_, c_X8_serverOf l G M1 (iN_WM hD (by omega)) a ha, fun y M2 hy hR => ?_⟩
  rcases hR with ⟨r1, r2⟩ | ⟨r1, r2, w, r3, r4⟩
  · refine i_gen hP (i_rf.thr r2) (fun x Mc hp => absurd hp.2.1 r1) (fun i E h1 h2 => ?_)
    obtain ⟨q1, q2⟩ := i_es1 h1
    exact ⟨by rw [r2.1]; omega, iN_thr hD (by omega) r2⟩
  · refine i_gen hP (i_rf.thr r2) (fun x Mc hp => ?_) (fun i E h1 h2 => absurd r1 h2.2)
    obtain ⟨p1, p2, v, p3, p4⟩ := hp
    have hN := iN_thr (n' := n + 1) hD (by omega) r2
    rw [← p1]
    exact ⟨r2.1, by rw [p4, r4]; exact (i_srv hN.2.1 p3 r3).1, hN⟩
theorem sim11 (l : Launch) (hfl : l.stackTraces = false) (G : zG) : zSim11 l G iI := by
  intro n M a ha hn hI
  have hI : iN n M M := hI
  refine ⟨_, w_answers l G M a (c_X7_answers l hfl G M (iN_WC hI (by omega)) a ha) (fun E h => h.1), fun k M1 hk hP => ?_⟩
  have hD := i_mid hI (fun x Mc hp => by rw [← hp.1]; exact i_cf.r M) hP
  refine ⟨_, c_X8_answers l G M1 a ha, fun y M2 hy hR => ?_⟩
  rcases hR with ⟨r1, r2⟩ | ⟨r1, r2, r3⟩
  · refine i_gen hP (i_rf.thr r2) (fun x Mc hp => absurd hp.2.1 r1) (fun i E h1 h2 => ?_)
    obtain ⟨q1, q2⟩ := i_es1 h1
    exact ⟨by rw [r2.1]; omega, iN_thr hD (by omega) r2⟩
  · refine i_gen hP (i_rf.thr r2) (fun x Mc hp => ?_) (fun i E h1 h2 => absurd r1 h2.2)
    obtain ⟨p1, p2, p3⟩ := hp
    rw [← p1]
    exact ⟨r2.1, by rw [p3, r3]; exact (hD.2.1.2.2.2 a.toNat (by omega)).2.2.symm, iN_thr hD (by omega) r2⟩
theorem sim12 (l : Launch) (hfl : l.stackTraces = false) (G : zG) : zSim12 l G iI := by
  intro n M a b ha hb hn hI
  have hI : iN n M M := hI
  refine ⟨_, w_send l G M a b (c_X7_send l hfl G M (iN_WC hI (by omega)) a b ha hb) (fun E h => by rcases h with h | h; exact Or.inl h.1; exact Or.inr h.1), fun k M1 hk hP => ?_⟩
  have hD := i_mid hI (fun x Mc hp => i_cf.snt hp.2.2) hP
  have hE := hD.2.2.2.2
  refine ⟨_, c_X8_send l G M1 (iN_WM hD (by omega)) a b ha hb (by have := hE.1; omega)
    (fun N mm hN hm => i_h16n (iA_c hD.1 (fun _ _ _ _ _ => rfl) (zV_of (hN _ _ _ (by omega) (by omega))) (fun κ j q1 q2 => zV_of (hN _ _ _ (by omega) (by omega)))) hm)
    (fun hr N0 N1 v w hN hz => ?_), fun y M2 hy hR => ?_⟩
  · obtain ⟨r, hr2⟩ : ∃ r : Nat, a = (r : Int) := ⟨a.toNat, by omega⟩
    subst hr2
    obtain ⟨Z, z1, z2⟩ := hE.2.2.2 r (by omega)
    have h4 : ∀ p ∈ Z, zV M 21 p.1 3 ≤ 4 := fun p hp => by
      have := i_el3 (hE.2.1.1 r (by omega)) z1 hp
      exact (hE.2.1.2.2 p.1 (by omega)).1.2
    have y0 : iY M N0 r Z := iY_c h4 z2 (fun _ _ _ _ _ _ => rfl) (by rw [zV_of (hN 26 0 21 (by omega) (by omega))]; exact Int.le_refl _) (fun κ s _ _ q1 q2 => zV_of (hN _ _ _ (by omega) (by omega))) (fun κ s j _ _ _ q1 q2 => zV_of (hN _ _ _ (by omega) (by omega)))
    rw [Int.toNat_natCast]
    exact i_hfr (i_clr y0 h4 hz)
  · rcases hR with ⟨r1, r2⟩ | ⟨r1, r2, r3⟩ | ⟨r1, r2, D1, r3, r4⟩
    · refine i_gen hP (i_rf.thr r2) (fun x Mc hp => absurd hp.1 r1) (fun i E h1 h2 => ?_)
      rcases h2 with ⟨e, e2⟩ | ⟨e, e2, e3⟩
      · rcases i_es2 h1 with ⟨q1, q2⟩ | ⟨q1, q2⟩
        · exact ⟨by rw [r2.1]; omega, iN_thr hD (by omega) r2⟩
        · exact absurd (e.symm.trans q2) i_n2
      · exact absurd e2 r1
    · refine i_gen hP (i_rf.thr r3) (fun x Mc hp => absurd hp.2.1 r2) (fun i E h1 h2 => ?_)
      rcases h2 with ⟨e, e2⟩ | ⟨e, e2, e3⟩
      · exact absurd r1 e2
      · rcases i_es2 h1 with ⟨q1, q2⟩ | ⟨q1, q2⟩
        · exact absurd (q2.symm.trans e) i_n2
        · exact ⟨by rw [r3.1]; omega, iN_thr hD (by omega) r3⟩
    · refine i_gen hP (((i_rf.r M1).t (i_rf.thr r3)).t (i_rf.snt r4)) (fun x Mc hp => ?_) (fun i E h1 h2 => ?_)
      · obtain ⟨p1, p2, p3⟩ := hp
        obtain ⟨r, hr2⟩ : ∃ r : Nat, a = (r : Int) := ⟨a.toNat, by omega⟩
        subst hr2
        rw [Int.toNat_natCast] at p3
        obtain ⟨s1, s2⟩ := i_send hn (iN_thr hD (Nat.le_refl n) r3) (by omega) p2 p3 r4
        exact ⟨(i_t0 r4).trans r3.1, s1, s2⟩
      · rcases h2 with ⟨e, e2⟩ | ⟨e, e2, e3⟩
        · exact absurd r1 e2
        · exact absurd r2 e3
theorem sim13 (l : Launch) (hfl : l.stackTraces = false) (G : zG) : zSim13 l G iI := by
  intro n M a b d ha hb hd hn hI
  have hI : iN n M M := hI
  refine ⟨_, w_probe l G M a b d (c_X7_probe l hfl G M (iN_WC hI (by omega)) a b d ha hb hd) (fun E h => by rcases h with h | h; exact Or.inl h.1; exact Or.inr h.1), fun k M1 hk hP => ?_⟩
  have hD := i_mid hI (fun x Mc hp => by rw [hp.2.2.1]; exact (i_cf.r M).u (by decide)) hP
  refine ⟨_, c_X8_probe l G M1 a b d ha hb hd, fun y M2 hy hR => ?_⟩
  rcases hR with ⟨r1, r2⟩ | ⟨r1, r2, r3⟩ | ⟨r1, r2, D1, r3, r4, r5⟩
  · refine i_gen hP (i_rf.thr r2) (fun x Mc hp => absurd hp.1 r1) (fun i E h1 h2 => ?_)
    rcases h2 with ⟨e, e2⟩ | ⟨e, e2, e3⟩
    · rcases i_es2 h1 with ⟨q1, q2⟩ | ⟨q1, q2⟩
      · exact ⟨by rw [r2.1]; omega, iN_thr hD (by omega) r2⟩
      · exact absurd (e.symm.trans q2) i_n2
    · exact absurd e2 r1
  · refine i_gen hP (i_rf.thr r3) (fun x Mc hp => absurd hp.2.1 r2) (fun i E h1 h2 => ?_)
    rcases h2 with ⟨e, e2⟩ | ⟨e, e2, e3⟩
    · exact absurd r1 e2
    · rcases i_es2 h1 with ⟨q1, q2⟩ | ⟨q1, q2⟩
      · exact absurd (q2.symm.trans e) i_n2
      · exact ⟨by rw [r3.1]; omega, iN_thr hD (by omega) r3⟩
  · have ei : (32 * a + b).toNat = 32 * a.toNat + b.toNat := by omega
    rw [ei] at r4
    refine i_gen (n := n) (M2 := M2) (y := y) hP (by rw [r4]; exact ((i_rf.r M1).t (i_rf.thr r3)).u (by decide)) (fun x Mc hp => ?_) (fun i E h1 h2 => ?_)
    · obtain ⟨p1, p2, p3, p4⟩ := hp
      have hN : iN (n + 1) Mc M2 := by
        rw [p3, r4]
        exact i_prb hD r3 (by omega) (by omega) (by split; exact Or.inr rfl; exact Or.inl rfl)
      refine ⟨by rw [r4, zV_ne (by decide)]; exact r3.1, ?_, hN⟩
      rw [p4, r5]
      exact i_prx hN.2.2.2.1 (by omega)
    · rcases h2 with ⟨e, e2⟩ | ⟨e, e2, e3⟩
      · exact absurd r1 e2
      · exact absurd r2 e3
theorem sim14 (l : Launch) (hfl : l.stackTraces = false) (G : zG) : zSim14 l G iI := by
  intro n M a b ha hb hn hI
  have hI : iN n M M := hI
  refine ⟨_, w_setLifetimes l G M a b (c_X7_setLifetimes l hfl G M a b ha hb) (fun E h => h.1), fun k M1 hk hP => ?_⟩
  have hD := i_mid hI (fun x Mc hp => by rw [hp.2.2]; exact ((i_cf.r M).u (by decide)).u (by decide)) hP
  refine ⟨_, c_X8_setLifetimes l G M1 a b ha hb, fun y M2 hy hR => ?_⟩
  obtain ⟨⟨t1, t2, t3⟩, -⟩ := hD.2.2.1
  rcases hR with ⟨r1, r2⟩ | ⟨r1, r2, D1, r3, r4⟩
  · refine i_gen hP (i_rf.thr r2) (fun x Mc hp => absurd hp.1 r1) (fun i E h1 h2 => ?_)
    obtain ⟨q1, q2⟩ := i_es1 h1
    exact ⟨by rw [r2.1]; omega, iN_thr hD (by omega) r2⟩
  · refine i_gen (n := n) (M2 := M2) (y := y) hP (by rw [r4]; exact (((i_rf.r M1).t (i_rf.thr r3)).u (by decide)).u (by decide)) (fun x Mc hp => ?_) (fun i E h1 h2 => absurd r1 h2.2)
    obtain ⟨p1, p2, p3⟩ := hp
    refine ⟨by rw [r4, zV_nj (by decide), zV_nj (by decide)]; exact r3.1, by rw [p2, r2, t2], ?_⟩
    refine i_tim hD (fun κ i j q => by rw [p3, zV_ne q, zV_ne q]) (by rw [p3, zV_nj (by decide), zV_nj (by decide)]) (fun κ j q => by rw [r4, zV_upg, if_neg (by omega), zV_upg, if_neg (by omega)]; exact zV_of (r3.2 κ 0 j (by omega))) ⟨?_, ?_, ?_⟩
    · rw [p3, r4, zV_nj (by decide), zV_nj (by decide), zV_nj (by decide), zV_nj (by decide), zV_of (r3.2 26 0 1 (by omega))]
      exact t1
    · rw [p3, r4, zV_nj (by decide), zV_eq ha, zV_nj (by decide), zV_eq ha]
    · rw [p3, r4, zV_eq hb, zV_eq hb]
theorem sim15 (l : Launch) (hfl : l.stackTraces = false) (G : zG) : zSim15 l G iI := by
  intro n M a ha hn hI
  have hI : iN n M M := hI
  refine ⟨_, w_pass l G M a (c_X7_pass l hfl G M a ha) (fun E h => h.1), fun k M1 hk hP => ?_⟩
  have hD := i_mid hI (fun x Mc hp => by rw [hp.2.2]; exact (i_cf.r M).u (by decide)) hP
  refine ⟨_, c_X8_pass l G M1 a ha, fun y M2 hy hR => ?_⟩
  obtain ⟨⟨t1, t2, t3⟩, -⟩ := hD.2.2.1
  rcases hR with ⟨r1, r2⟩ | ⟨r1, r2, D1, r3, r4⟩
  · refine i_gen hP (i_rf.thr r2) (fun x Mc hp => absurd hp.1 r1) (fun i E h1 h2 => ?_)
    obtain ⟨q1, q2⟩ := i_es1 h1
    exact ⟨by rw [r2.1]; omega, iN_thr hD (by omega) r2⟩
  · refine i_gen (n := n) (M2 := M2) (y := y) hP (by rw [r4]; exact ((i_rf.r M1).t (i_rf.thr r3)).u (by decide)) (fun x Mc hp => ?_) (fun i E h1 h2 => absurd r1 h2.2)
    obtain ⟨p1, p2, p3⟩ := hp
    refine ⟨by rw [r4, zV_nj (by decide)]; exact r3.1, by rw [p2, r2, t1], ?_⟩
    refine i_tim hD (fun κ i j q => by rw [p3, zV_ne q]) (by rw [p3, zV_nj (by decide)]) (fun κ j q => by rw [r4, zV_upg, if_neg (by omega)]; exact zV_of (r3.2 κ 0 j (by omega))) ⟨?_, ?_, ?_⟩
    · rw [p3, r4, zV_upw, zV_upw, t1]
    · rw [p3, r4, zV_nj (by decide), zV_nj (by decide), zV_of (r3.2 26 0 2 (by omega))]
      exact t2
    · rw [p3, r4, zV_nj (by decide), zV_nj (by decide), zV_of (r3.2 26 0 3 (by omega))]
      exact t3
theorem sim16 (l : Launch) (hfl : l.stackTraces = false) (G : zG) : zSim16 l G iI := by
  intro n M a ha hn hI
  have hI : iN n M M := hI
  refine ⟨_, w_entries l G M a (c_X7_entries l hfl G M a ha) (fun E h => h.1), fun k M1 hk hP => ?_⟩
  have hD := i_mid hI (fun x Mc hp => by rw [← hp.1]; exact i_cf.r M) hP
  refine ⟨_, c_X8_entries l G M1 (iN_WM hD (by omega)) a ha, fun y M2 hy hR => ?_⟩
  rcases hR with ⟨r1, r2⟩ | ⟨r1, r2, r3⟩
  · refine i_gen hP (i_rf.thr r2) (fun x Mc hp => absurd hp.2.1 r1) (fun i E h1 h2 => ?_)
    obtain ⟨q1, q2⟩ := i_es1 h1
    exact ⟨by rw [r2.1]; omega, iN_thr hD (by omega) r2⟩
  · refine i_gen hP (i_rf.thr r2) (fun x Mc hp => ?_) (fun i E h1 h2 => absurd r1 h2.2)
    obtain ⟨p1, p2, p3⟩ := hp
    have hN := iN_thr (n' := n + 1) hD (by omega) r2
    rw [← p1]
    exact ⟨r2.1, by rw [p3, r3]; exact (i_ent hN.2.2.2.2 (by omega)).symm, hN⟩
