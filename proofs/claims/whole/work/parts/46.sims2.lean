theorem sim5 (l : Launch) (hfl : l.stackTraces = false) (G : zG) : zSim5 l G iI := by
  intro n M a ha hn hI
  have hI : iN n M M := hI
  refine ⟨_, w_mappingOf l G M a (c_X7_mappingOf l hfl G M (iN_WC hI (by omega)) a ha) (fun E h => h.1), fun k M1 hk hP => ?_⟩
  have hD := i_mid hI (fun x Mc hp => by rw [← hp.1]; exact i_cf.r M) hP
  refine ⟨_, c_X8_mappingOf l G M1 (iN_WM hD (by omega)) a ha, fun y M2 hy hR => ?_⟩
  rcases hR with ⟨r1, r2⟩ | ⟨r1, r2, r3⟩
  · refine i_gen hP (i_rf.thr r2) (fun x Mc hp => absurd hp.2.1 r1) (fun i E h1 h2 => ?_)
    obtain ⟨q1, q2⟩ := i_es1 h1
    exact ⟨by rw [r2.1]; omega, iN_thr hD (by omega) r2⟩
  · refine i_gen hP (i_rf.thr r2) (fun x Mc hp => ?_) (fun i E h1 h2 => absurd r1 h2.2)
    obtain ⟨p1, p2, p3⟩ := hp
    have hN := iN_thr (n' := n + 1) hD (by omega) r2
    rw [← p1]
    exact ⟨r2.1, i_fu p3 (i_fnd hN.1 r3), hN⟩
theorem sim6 (l : Launch) (hfl : l.stackTraces = false) (G : zG) : zSim6 l G iI := by
  intro n M a ha hn hI
  have hI : iN n M M := hI
  refine ⟨_, w_answerLength l G M a (c_X7_answerLength l hfl G M (iN_WC hI (by omega)) a ha) (fun E h => h.1), fun k M1 hk hP => ?_⟩
  have hD := i_mid hI (fun x Mc hp => by rw [← hp.1]; exact i_cf.r M) hP
  refine ⟨_, c_X8_answerLength l G M1 (iN_WM hD (by omega)) a ha (fun mm hm => i_h16n hD.1 hm), fun y M2 hy hR => ?_⟩
  rcases hR with ⟨r1, r2⟩ | ⟨r1, r2, mm', L', r3, r4, r5⟩
  · refine i_gen hP (i_rf.thr r2) (fun x Mc hp => absurd hp.2.1 r1) (fun i E h1 h2 => ?_)
    obtain ⟨q1, q2⟩ := i_es1 h1
    exact ⟨by rw [r2.1]; omega, iN_thr hD (by omega) r2⟩
  · refine i_gen hP (i_rf.thr r2) (fun x Mc hp => ?_) (fun i E h1 h2 => absurd r1 h2.2)
    obtain ⟨p1, p2, mm, L, p3, p4, p5⟩ := hp
    have hN := iN_thr (n' := n + 1) hD (by omega) r2
    have em := i_fu p3 (i_fnd hN.1 r3)
    rw [← em] at r4 r5
    have eL := i_bits hN.1 p2 p3 p4 r4
    rw [← eL] at r5
    rw [← p1]
    refine ⟨r2.1, ?_, hN⟩
    rw [p5, r5]
    split
    · rfl
    · omega
theorem sim7 (l : Launch) (hfl : l.stackTraces = false) (G : zG) : zSim7 l G iI := by
  intro n M a ha hn hI
  have hI : iN n M M := hI
  refine ⟨_, w_version l G M a (c_X7_version l hfl G M (iN_WC hI (by omega)) a ha) (fun E h => h.1), fun k M1 hk hP => ?_⟩
  have hD := i_mid hI (fun x Mc hp => by rw [← hp.1]; exact i_cf.r M) hP
  refine ⟨_, c_X8_version l G M1 (iN_WM hD (by omega)) a ha, fun y M2 hy hR => ?_⟩
  have hmn : znn M1 = zmn M := hD.1.2.1
  have hmn2 : zmn M = zV M 1 0 1 := rfl
  have hbd := hD.1.1
  rw [hmn] at hR
  rcases hR with ⟨r1, r2⟩ | ⟨r1, r2, r3⟩
  · refine i_gen hP (i_rf.thr r2) (fun x Mc hp => absurd hp.2.1 r1) (fun i E h1 h2 => ?_)
    obtain ⟨q1, q2⟩ := i_es1 h1
    exact ⟨by rw [r2.1]; omega, iN_thr hD (by omega) r2⟩
  · refine i_gen hP (i_rf.thr r2) (fun x Mc hp => ?_) (fun i E h1 h2 => absurd r1 h2.2)
    obtain ⟨p1, p2, p3⟩ := hp
    have hN := iN_thr (n' := n + 1) hD (by omega) r2
    have k4 : zng M1 a.toNat = zV M 3 a.toNat 3 := (hD.1.2.2.1 a.toNat (by omega)).2.1.2
    rw [← p1]
    exact ⟨r2.1, by rw [p3, r3, k4, i_verx hD.1 (by omega)], hN⟩
theorem sim8 (l : Launch) (hfl : l.stackTraces = false) (G : zG) : zSim8 l G iI := by
  intro n M a b d ha hb hd hn hI
  have hI : iN n M M := hI
  refine ⟨_, w_delegate l G M a b d (c_X7_delegate l hfl G M (iN_WC hI (by omega)) a b d ha hb hd) (fun E h => by rcases h with h | h | h; exact Or.inl h.1; exact Or.inr (Or.inl h.1); exact Or.inr (Or.inr h.1)), fun k M1 hk hP => ?_⟩
  have hD := i_mid hI (fun x Mc hp => by
    obtain ⟨-, -, ⟨i, -, -, -, -, e⟩ | ⟨-, -, -, e⟩⟩ := hp
    · rw [e]; exact (i_cf.r M).u (by decide)
    · rw [e]; exact ((((i_cf.r M).u (by decide)).u (by decide)).u (by decide)).u (by decide)) hP
  refine ⟨_, c_X8_delegate l G M1 (iN_WM hD (by omega)) a b d ha hb hd, fun y M2 hy hR => ?_⟩
  have hmn : zndn M1 = zdn M := hD.2.1.1.2
  have hmn2 : zdn M = zV M 9 0 4 := rfl
  have hbd := hD.2.1.1.1
  have hm : ∀ i : Nat, (i : Int) < zdn M → (zndm M1 a b i ↔ (zdv M i = a ∧ zdl M i = b)) := fun i hi => by
    obtain ⟨-, -, a2, a3, -⟩ := hD.2.1.2.1 i (by omega)
    unfold zndm zndv zndl
    rw [a2, a3]
    exact Iff.rfl
  rcases hR with ⟨r1, r2⟩ | ⟨r1, r2, r3⟩ | ⟨r1, r2, r3, r4, r5⟩ | ⟨r1, r2, D1, r3, r4⟩
  · refine i_gen hP (i_rf.thr r2) (fun x Mc hp => absurd hp.1 r1) (fun i E h1 h2 => ?_)
    rcases h2 with ⟨e, e2⟩ | ⟨e, e2, e3⟩ | ⟨e, e2, e3, e4⟩
    · rcases i_es3 h1 with ⟨q1, q2⟩ | ⟨q1, q2⟩ | ⟨q1, q2⟩
      · exact ⟨by rw [r2.1]; omega, iN_thr hD (by omega) r2⟩
      · exact absurd (e.symm.trans q2) i_n2
      · exact absurd (e.symm.trans q2) i_n3
    · exact absurd e2 r1
    · exact absurd e2 r1
  · refine i_gen hP (i_rf.thr r3) (fun x Mc hp => absurd hp.2.1 r2) (fun i E h1 h2 => ?_)
    rcases h2 with ⟨e, e2⟩ | ⟨e, e2, e3⟩ | ⟨e, e2, e3, e4⟩
    · exact absurd r1 e2
    · rcases i_es3 h1 with ⟨q1, q2⟩ | ⟨q1, q2⟩ | ⟨q1, q2⟩
      · exact absurd (q2.symm.trans e) i_n2
      · exact ⟨by rw [r3.1]; omega, iN_thr hD (by omega) r3⟩
      · exact absurd (e.symm.trans q2) i_n1
    · exact absurd e3 r2
  · rw [hmn] at r3 r4
    refine i_gen hP (i_rf.thr r5) (fun x Mc hp => ?_) (fun i E h1 h2 => ?_)
    · exfalso
      obtain ⟨-, -, ⟨i, i1, i2, i3, -, -⟩ | ⟨-, i1, -, -⟩⟩ := hp
      · exact r3 i i1 ((hm i i1).mpr ⟨i2, i3⟩)
      · omega
    · rcases h2 with ⟨e, e2⟩ | ⟨e, e2, e3⟩ | ⟨e, e2, e3, e4⟩
      · exact absurd r1 e2
      · exact absurd r2 e3
      · rcases i_es3 h1 with ⟨q1, q2⟩ | ⟨q1, q2⟩ | ⟨q1, q2⟩
        · exact absurd (q2.symm.trans e) i_n3
        · exact absurd (q2.symm.trans e) i_n1
        · exact ⟨by rw [r5.1]; omega, iN_thr hD (by omega) r5⟩
  · have fD : i_rf M1 M2 ∧ zV M2 26 0 0 = 0 := by
      rcases r4 with ⟨i, -, -, -, e⟩ | ⟨-, -, -, e⟩
      · rw [e]
        unfold zndp
        exact ⟨(((((i_rf.r M1).t (i_rf.thr r3)).u (by decide)).u (by decide)).u (by decide)).u (by decide), by rw [zV_nj (by decide), zV_ne (by decide), zV_ne (by decide), zV_ne (by decide)]; exact r3.1⟩
      · rw [e]
        unfold zndp
        exact ⟨(((((i_rf.r M1).t (i_rf.thr r3)).u (by decide)).u (by decide)).u (by decide)).u (by decide), by rw [zV_nj (by decide), zV_ne (by decide), zV_ne (by decide), zV_ne (by decide)]; exact r3.1⟩
    refine i_gen hP fD.1 (fun x Mc hp => ?_) (fun i E h1 h2 => ?_)
    · obtain ⟨p1, p2, p3⟩ := hp
      obtain ⟨s1, s2⟩ := i_dlg hD p2 p1 r3 p3 r4
      exact ⟨fD.2, s1, s2⟩
    · rcases h2 with ⟨e, e2⟩ | ⟨e, e2, e3⟩ | ⟨e, e2, e3, e4, e5⟩
      · exact absurd r1 e2
      · exact absurd r2 e3
      · exfalso
        rw [hmn] at r4
        rcases r4 with ⟨i, i1, i2, -, -⟩ | ⟨-, i1, -, -⟩
        · exact e4 i i1 ((hm i i1).mp i2)
        · omega
theorem sim9 (l : Launch) (hfl : l.stackTraces = false) (G : zG) : zSim9 l G iI := by
  intro n M a b ha hb hn hI
  have hI : iN n M M := hI
  refine ⟨_, w_setUp l G M a b (c_X7_setUp l hfl G M (iN_WC hI (by omega)) a b ha hb) (fun E h => h.1) (fun x M1 h => by rw [h.2.1]; split; exact Or.inr rfl; exact Or.inl rfl), fun k M1 hk hP => ?_⟩
  have hD := i_mid hI (fun x Mc hp => by rw [hp.2.2]; exact (i_cf.r M).u (by decide)) hP
  refine ⟨_, c_X8_setUp l G M1 a b ha hb, fun y M2 hy hR => ?_⟩
  rcases hR with ⟨r1, r2⟩ | ⟨r1, r2, D1, r3, r4⟩
  · obtain ⟨g1, g2, g3⟩ := i_gen (n := n) (M2 := M2) (y := y) hP (i_rf.thr r2) (fun x Mc hp => absurd hp.1 r1) (fun i E h1 h2 => by
      obtain ⟨q1, q2⟩ := i_es1 h1
      exact ⟨by rw [r2.1]; omega, iN_thr hD (by omega) r2⟩)
    exact ⟨g1, g2, fun z => by have := g1.symm.trans r2.1; omega, g3⟩
  · obtain ⟨g1, g2, g3⟩ := i_gen (n := n) (M2 := M2) (y := y) hP (by rw [r4]; exact ((i_rf.r M1).t (i_rf.thr r3)).u (by decide)) (fun x Mc hp => by
      obtain ⟨p1, p2, p3⟩ := hp
      obtain ⟨-, k2, -⟩ := hD.2.1.2.2.2 a.toNat (by omega)
      refine ⟨by rw [r4, zV_ne (by decide)]; exact r3.1, by rw [p2, r2, k2], ?_⟩
      rw [p3, r4]
      exact i_upB hD (by omega) (i_upS hD.2.1 r3 (by omega) (by rcases hb with h | h; rw [if_pos h]; exact Or.inr rfl; rw [if_neg (by omega)]; exact Or.inl rfl)) (fun κ i j q => zup_at (by omega)) (fun κ i j q1 q2 => by rw [zup_at (by omega)]; exact r3.2 κ i j (by omega))) (fun i E h1 h2 => absurd r1 h2.2)
    exact ⟨g1, g2, fun _ => by rw [r2]; split; exact Or.inr rfl; exact Or.inl rfl, g3⟩
