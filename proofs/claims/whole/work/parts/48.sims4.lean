theorem sim17 (l : Launch) (hfl : l.stackTraces = false) (G : zG) : zSim17 l G iI := by
  intro n M a b ha hb hn hI
  have hI : iN n M M := hI
  refine ⟨_, w_prefixOf l G M a b (c_X7_prefixOf l hfl G M (iN_WC hI (by omega)) a b ha hb) (fun E h => h.1), fun k M1 hk hP => ?_⟩
  have hD := i_mid hI (fun x Mc hp => by rw [← hp.1]; exact i_cf.r M) hP
  have hx : ∀ (N : zMem) (x : Int), zthr M1 N 0 → ((0 ≤ a ∧ a < 3) ∧ 0 ≤ b ∧ b < zmb M1 a.toNat (zV M1 26 0 21 + 1)) → zpe N a.toNat b x → ∃ s : Nat, x = (s : Int) ∧ s < 24 ∧ zq M a.toNat b.toNat < 24 ∧ iEn M N (zq M a.toNat b.toNat) s := fun N x h1 h2 h3 => i_pos hD (by omega) h1 h2.2 h3
  refine ⟨_, c_X8_prefixOf l G M1 (iN_WM hD (by omega)) a b ha hb (fun N x h1 h2 h3 => by obtain ⟨s, e, -⟩ := hx N x h1 h2 h3; omega), fun y M2 hy hR => ?_⟩
  have hc : ((0 ≤ a ∧ a < 3) ∧ 0 ≤ b ∧ b < zmb M1 a.toNat (zV M1 26 0 21 + 1)) ↔ ((0 ≤ a ∧ a < 3) ∧ 0 ≤ b ∧ b < zV M 16 a.toNat 2) :=
    ⟨fun h => by rw [i_ent hD.2.2.2.2 (by omega)] at h; exact h, fun h => by rw [i_ent hD.2.2.2.2 (by omega)]; exact h⟩
  rcases hR with ⟨r1, r2⟩ | ⟨r1, r2, q, r3, r4, r5⟩
  · refine i_gen hP (i_rf.thr r2) (fun x Mc hp => absurd (hc.mpr hp.2.1) r1) (fun i E h1 h2 => ?_)
    obtain ⟨q1, q2⟩ := i_es1 h1
    exact ⟨by rw [r2.1]; omega, iN_thr hD (by omega) r2⟩
  · refine i_gen hP (i_rf.thr r2) (fun x Mc hp => ?_) (fun i E h1 h2 => absurd (hc.mp r1) h2.2)
    obtain ⟨p1, p2, p3⟩ := hp
    obtain ⟨s, e, -, -, he⟩ := hx M2 q r2 r1 r4
    have hN := iN_thr (n' := n + 1) hD (by omega) r2
    rw [e, Int.toNat_natCast] at r5
    obtain ⟨⟨a1, a2⟩, a3, a4, a5, a6, a7, a8, a9⟩ := he
    rw [← p1]
    refine ⟨r2.1, ?_, hN⟩
    rw [p3, r5]
    rw [a1, a2]
theorem sim18 (l : Launch) (hfl : l.stackTraces = false) (G : zG) : zSim18 l G iI := by
  intro n M a b ha hb hn hI
  have hI : iN n M M := hI
  refine ⟨_, w_mappingAt l G M a b (c_X7_mappingAt l hfl G M (iN_WC hI (by omega)) a b ha hb) (fun E h => h.1), fun k M1 hk hP => ?_⟩
  have hD := i_mid hI (fun x Mc hp => by rw [← hp.1]; exact i_cf.r M) hP
  have hx : ∀ (N : zMem) (x : Int), zthr M1 N 0 → ((0 ≤ a ∧ a < 3) ∧ 0 ≤ b ∧ b < zmb M1 a.toNat (zV M1 26 0 21 + 1)) → zpe N a.toNat b x → ∃ s : Nat, x = (s : Int) ∧ s < 24 ∧ zq M a.toNat b.toNat < 24 ∧ iEn M N (zq M a.toNat b.toNat) s := fun N x h1 h2 h3 => i_pos hD (by omega) h1 h2.2 h3
  refine ⟨_, c_X8_mappingAt l G M1 (iN_WM hD (by omega)) a b ha hb (fun N x h1 h2 h3 => by obtain ⟨s, e, -⟩ := hx N x h1 h2 h3; omega), fun y M2 hy hR => ?_⟩
  have hc : ((0 ≤ a ∧ a < 3) ∧ 0 ≤ b ∧ b < zmb M1 a.toNat (zV M1 26 0 21 + 1)) ↔ ((0 ≤ a ∧ a < 3) ∧ 0 ≤ b ∧ b < zV M 16 a.toNat 2) :=
    ⟨fun h => by rw [i_ent hD.2.2.2.2 (by omega)] at h; exact h, fun h => by rw [i_ent hD.2.2.2.2 (by omega)]; exact h⟩
  rcases hR with ⟨r1, r2⟩ | ⟨r1, r2, q, r3, r4, r5⟩
  · refine i_gen hP (i_rf.thr r2) (fun x Mc hp => absurd (hc.mpr hp.2.1) r1) (fun i E h1 h2 => ?_)
    obtain ⟨q1, q2⟩ := i_es1 h1
    exact ⟨by rw [r2.1]; omega, iN_thr hD (by omega) r2⟩
  · refine i_gen hP (i_rf.thr r2) (fun x Mc hp => ?_) (fun i E h1 h2 => absurd (hc.mp r1) h2.2)
    obtain ⟨p1, p2, p3⟩ := hp
    obtain ⟨s, e, -, -, he⟩ := hx M2 q r2 r1 r4
    have hN := iN_thr (n' := n + 1) hD (by omega) r2
    rw [e, Int.toNat_natCast] at r5
    obtain ⟨⟨a1, a2⟩, a3, a4, a5, a6, a7, a8, a9⟩ := he
    rw [← p1]
    refine ⟨r2.1, ?_, hN⟩
    rw [p3, r5]
    unfold zmat
    rw [a3]
    by_cases z : zV M 19 (zq M a.toNat b.toNat) 3 = -1
    · rw [if_pos z, if_pos z]
    · rw [if_neg z, if_neg z, a4 z]
theorem sim19 (l : Launch) (hfl : l.stackTraces = false) (G : zG) : zSim19 l G iI := by
  intro n M a b ha hb hn hI
  have hI : iN n M M := hI
  refine ⟨_, w_lasts l G M a b (c_X7_lasts l hfl G M (iN_WC hI (by omega)) a b ha hb) (fun E h => h.1), fun k M1 hk hP => ?_⟩
  have hD := i_mid hI (fun x Mc hp => by rw [← hp.1]; exact i_cf.r M) hP
  have hx : ∀ (N : zMem) (x : Int), zthr M1 N 0 → ((0 ≤ a ∧ a < 3) ∧ 0 ≤ b ∧ b < zmb M1 a.toNat (zV M1 26 0 21 + 1)) → zpe N a.toNat b x → ∃ s : Nat, x = (s : Int) ∧ s < 24 ∧ zq M a.toNat b.toNat < 24 ∧ iEn M N (zq M a.toNat b.toNat) s := fun N x h1 h2 h3 => i_pos hD (by omega) h1 h2.2 h3
  refine ⟨_, c_X8_lasts l G M1 (iN_WM hD (by omega)) a b ha hb (fun N x h1 h2 h3 => by obtain ⟨s, e, -⟩ := hx N x h1 h2 h3; omega), fun y M2 hy hR => ?_⟩
  have hc : ((0 ≤ a ∧ a < 3) ∧ 0 ≤ b ∧ b < zmb M1 a.toNat (zV M1 26 0 21 + 1)) ↔ ((0 ≤ a ∧ a < 3) ∧ 0 ≤ b ∧ b < zV M 16 a.toNat 2) :=
    ⟨fun h => by rw [i_ent hD.2.2.2.2 (by omega)] at h; exact h, fun h => by rw [i_ent hD.2.2.2.2 (by omega)]; exact h⟩
  rcases hR with ⟨r1, r2⟩ | ⟨r1, r2, q, r3, r4, r5⟩
  · refine i_gen hP (i_rf.thr r2) (fun x Mc hp => absurd (hc.mpr hp.2.1) r1) (fun i E h1 h2 => ?_)
    obtain ⟨q1, q2⟩ := i_es1 h1
    exact ⟨by rw [r2.1]; omega, iN_thr hD (by omega) r2⟩
  · refine i_gen hP (i_rf.thr r2) (fun x Mc hp => ?_) (fun i E h1 h2 => absurd (hc.mp r1) h2.2)
    obtain ⟨p1, p2, p3⟩ := hp
    obtain ⟨s, e, -, -, he⟩ := hx M2 q r2 r1 r4
    have hN := iN_thr (n' := n + 1) hD (by omega) r2
    rw [e, Int.toNat_natCast] at r5
    obtain ⟨⟨a1, a2⟩, a3, a4, a5, a6, a7, a8, a9⟩ := he
    rw [← p1]
    refine ⟨r2.1, ?_, hN⟩
    rw [p3, r5]
    unfold zlst
    rw [a6, a5, hN.2.2.1.1.1]
    by_cases z : zV M 19 (zq M a.toNat b.toNat) 6 = 0
    · rw [if_pos z, if_pos z]
      by_cases z2 : zV M 19 (zq M a.toNat b.toNat) 5 ≤ zV M 0 0 3
      · rw [if_pos z2, if_neg (by omega)]
      · rw [if_neg z2, if_pos (by omega)]
    · rw [if_neg z, if_neg z]
theorem sim20 (l : Launch) (hfl : l.stackTraces = false) (G : zG) : zSim20 l G iI := by
  intro n M a b d ha hb hd hn hI
  have hI : iN n M M := hI
  refine ⟨_, w_packetsTo l G M a b d (c_X7_packetsTo l hfl G M (iN_WC hI (by omega)) a b d ha hb hd) (fun E h => by rcases h with h | h; exact Or.inl h.1; exact Or.inr h.1), fun k M1 hk hP => ?_⟩
  have hD := i_mid hI (fun x Mc hp => by rw [← hp.1]; exact i_cf.r M) hP
  have hx : ∀ (N : zMem) (x : Int), zthr M1 N 0 → ((0 ≤ a ∧ a < 3) ∧ 0 ≤ b ∧ b < zmb M1 a.toNat (zV M1 26 0 21 + 1)) → zpe N a.toNat b x → ∃ s : Nat, x = (s : Int) ∧ s < 24 ∧ zq M a.toNat b.toNat < 24 ∧ iEn M N (zq M a.toNat b.toNat) s := fun N x h1 h2 h3 => i_pos hD (by omega) h1 h2.2 h3
  refine ⟨_, c_X8_packetsTo l G M1 (iN_WM hD (by omega)) a b ha hb d hd (fun N x h1 h2 h3 => by obtain ⟨s, e, -⟩ := hx N x h1 h2 h3; omega), fun y M2 hy hR => ?_⟩
  have hc : ((0 ≤ a ∧ a < 3) ∧ 0 ≤ b ∧ b < zmb M1 a.toNat (zV M1 26 0 21 + 1)) ↔ ((0 ≤ a ∧ a < 3) ∧ 0 ≤ b ∧ b < zV M 16 a.toNat 2) :=
    ⟨fun h => by rw [i_ent hD.2.2.2.2 (by omega)] at h; exact h, fun h => by rw [i_ent hD.2.2.2.2 (by omega)]; exact h⟩
  rcases hR with ⟨r1, r2⟩ | ⟨r1, D1, r2, ⟨r3, r4⟩ | ⟨r3, r4, q, r5, r6, r7⟩⟩
  · refine i_gen hP (i_rf.thr r2) (fun x Mc hp => absurd (hc.mpr hp.2.1) r1) (fun i E h1 h2 => ?_)
    rcases h2 with ⟨e, e2⟩ | ⟨e, e2, e3⟩
    · rcases i_es2 h1 with ⟨q1, q2⟩ | ⟨q1, q2⟩
      · exact ⟨by rw [r2.1]; omega, iN_thr hD (by omega) r2⟩
      · exact absurd (e.symm.trans q2) i_n2
    · exact absurd (hc.mpr e2) r1
  · have hN := iN_thr (n' := n + 1) (iN_thr hD (Nat.le_refl n) r2) (by omega) r4
    refine i_gen hP ((i_rf.thr r2).t (i_rf.thr r4)) (fun x Mc hp => absurd hp.2.2.1 r3) (fun i E h1 h2 => ?_)
    rcases h2 with ⟨e, e2⟩ | ⟨e, e2, e3⟩
    · exact absurd (hc.mp r1) e2
    · rcases i_es2 h1 with ⟨q1, q2⟩ | ⟨q1, q2⟩
      · exact absurd (q2.symm.trans e) i_n2
      · exact ⟨by rw [r4.1]; omega, hN⟩
  · have hN := iN_thr (n' := n + 1) (iN_thr hD (Nat.le_refl n) r2) (by omega) r4
    refine i_gen hP ((i_rf.thr r2).t (i_rf.thr r4)) (fun x Mc hp => ?_) (fun i E h1 h2 => ?_)
    · obtain ⟨p1, p2, p3, p4⟩ := hp
      obtain ⟨s, e, -, -, he⟩ := hx D1 q r2 r1 r6
      rw [e, Int.toNat_natCast] at r7
      rw [← p1]
      exact ⟨r4.1, by rw [r7]; exact i_pkt he p4, hN⟩
    · rcases h2 with ⟨e, e2⟩ | ⟨e, e2, e3⟩
      · exact absurd (hc.mp r1) e2
      · exact absurd r3 e3
theorem sim21 : zSim21 iI := by
  intro n M hn hI
  have hI : iN n M M := hI
  refine ⟨hI.2.2.1.2.1.symm, fun M2 h => ?_⟩
  exact iN_c (iN_thr (n' := n + 1) hI (by omega) h) (Nat.le_refl _) (fun κ i j q => h.2 κ i j (by omega)) (fun _ _ _ _ _ _ => rfl)
theorem simN : zSimN iI := fun n M h => iN_c (n := n) h (by omega) (fun _ _ _ _ => rfl) (fun _ _ _ _ _ _ => rfl)
/-! the start -/
theorem i_z : (0 : Int32).toInt = 0 := by decide
theorem iN_0 : iN 0 zM0 zM0 := by
  have h17 : ∀ r j : Nat, r < 3 → j < 8 → zV zM0 17 r j = 8 * (r : Int) + j := fun r j hr hj => by
    show (zI ((8 * r + j : Nat) : Int)).toInt = _
    rw [zI_toInt (by omega)]
    omega
  have hwr : ∀ r, r < 3 → zwr zM0 r := fun r hr => by
    refine ⟨⟨by show 0 ≤ (0 : Int32).toInt; decide, by show (0 : Int32).toInt ≤ 8; decide⟩, fun j hj => ?_, fun j j' hj hj' e => ?_⟩
    · rw [h17 r j hr hj]; omega
    · rw [h17 r j hr hj, h17 r j' hr hj'] at e; omega
  have hp0 : zpfx 0 0 := ⟨by decide, by decide, by decide, by decide⟩
  refine ⟨⟨?_, ?_, fun i hi => ?_, fun i i' h => ?_⟩, ⟨⟨?_, ?_⟩, fun i hi => ?_, fun i i' h => ?_, fun t ht => ?_⟩, ⟨⟨?_, ?_, ?_⟩, ?_, ?_, ?_⟩, ⟨fun r a => ?_, fun r a hr ha => ?_⟩, ⟨⟨?_, ?_⟩, ⟨hwr, fun q hq => ?_, fun q hq => ?_⟩, ⟨fun q hq => ?_, fun q hq => ?_, fun q hq => ?_, fun q hq => ?_, fun q hq => ?_⟩, fun r hr => ?_⟩⟩
  · exact (by decide : (0 : Int) ≤ (0 : Int32).toInt ∧ (0 : Int32).toInt ≤ 24)
  · rfl
  · refine ⟨⟨?_, rfl, rfl⟩, ⟨Or.inl i_z, rfl⟩, ⟨fun z => ?_, fun _ => ⟨i_z, (by decide : (1 : Int32).toInt = 1), i_z⟩⟩, ⟨?_, rfl⟩, fun j hj => ⟨⟨?_, ?_⟩, rfl, rfl, rfl⟩, fun j j' hj => ?_⟩
    · exact ⟨hp0, (by decide : zfb 0 0 = 0)⟩
    · have z : (i : Int) < (0 : Int32).toInt := z
      rw [i_z] at z
      omega
    · exact (by decide : (0 : Int) ≤ (0 : Int32).toInt ∧ (0 : Int32).toInt ≤ 4)
    · exact (by decide : (0 : Int) ≤ (0 : Int32).toInt ∧ (0 : Int32).toInt < 32)
    · exact (by decide : (0 : Int) ≤ (0 : Int32).toInt ∧ (0 : Int32).toInt ≤ 3)
    · have z : (j : Int) < (0 : Int32).toInt := hj
      rw [i_z] at z
      omega
  · have z : (i : Int) < (0 : Int32).toInt := h
    rw [i_z] at z
    omega
  · exact (by decide : (0 : Int) ≤ (0 : Int32).toInt ∧ (0 : Int32).toInt ≤ 12)
  · rfl
  · exact ⟨hp0, (by decide : (0 : Int) ≤ (0 : Int32).toInt ∧ (0 : Int32).toInt < 4), rfl, rfl, rfl⟩
  · have z : (i : Int) < (0 : Int32).toInt := h
    rw [i_z] at z
    omega
  · exact ⟨Or.inl i_z, rfl, rfl⟩
  · rfl
  · rfl
  · rfl
  · rfl
  · exact (by decide : (0 : Int) ≤ (0 : Int32).toInt)
  · exact (by decide : (0 : Int32).toInt ≤ 24 * ((0 : Nat) : Int))
  · exact Or.inl i_z
  · rfl
  · exact (by decide : (0 : Int) ≤ (0 : Int32).toInt)
  · exact (by decide : (0 : Int32).toInt ≤ ((0 : Nat) : Int))
  · exact hp0
  · exact ⟨(by decide : (0 : Int) ≤ (0 : Int32).toInt ∧ (0 : Int32).toInt ≤ 4), fun j hj => (by decide : (0 : Int) ≤ (0 : Int32).toInt ∧ (0 : Int32).toInt < 32)⟩
  · exact hp0
  · exact (by decide : (0 : Int) ≤ (0 : Int32).toInt ∧ (0 : Int32).toInt ≤ 4)
  · exact (by decide : (-1 : Int) ≤ (0 : Int32).toInt ∧ (0 : Int32).toInt < 24)
  · exact (by decide : (0 : Int) ≤ (0 : Int32).toInt ∧ (0 : Int32).toInt < 32)
  · exact Or.inl i_z
  · refine ⟨[], ?_, List.Pairwise.nil, fun p hp => (by cases hp), fun s _ _ h => absurd i_z h⟩
    rfl
