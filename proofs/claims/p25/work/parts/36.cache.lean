/-! a router's pairs: one put behind, one taken out, those that meet taken out, room made -/
theorem i_put {n n' : Nat} {C D C' D' : zMem} {r q x : Nat} {Z : List (Nat × Nat)} (hn : n ≤ n') (h : iY n C D r Z) (h4 : ∀ p ∈ Z, zV C 21 p.1 3 ≤ 4) (hx : 8 * r ≤ x ∧ x < 8 * r + 8) (hx0 : zV D 30 0 x < 0)
    (hc : ∀ p ∈ Z, ∀ κ j : Nat, 19 ≤ κ → κ ≤ 25 → zV C' κ p.1 j = zV C κ p.1 j) (hd : ∀ κ s : Nat, 8 * r ≤ s → s < 8 * r + 8 → s ≠ x → 30 ≤ κ → κ ≤ 33 → zV D' κ 0 s = zV D κ 0 s) (hd2 : ∀ s j : Nat, 8 * r ≤ s → s < 8 * r + 8 → s ≠ x → j < 4 → zV D' 34 0 (4 * s + j) = zV D 34 0 (4 * s + j))
    (h49 : 0 ≤ zV D' 30 0 x) (h50 : zV D' 33 0 x = zV D' 36 0 7) (hu : zV D 36 0 7 < zV D' 36 0 7) (he : iEn n' C' D' q x) (hm : ∀ p ∈ Z, ¬ zmeet (zV C 20 p.1 0) (zV C 20 p.1 1) (zV C' 20 q 0) (zV C' 20 q 1)) : iY n' C' D' r (Z ++ [(q, x)]) := by
  obtain ⟨h1, h2, h3⟩ := h
  have hne : ∀ p ∈ Z, p.2 ≠ x := fun p hp e => by
    have := (h2 p hp).2.1
    rw [e] at this
    omega
  refine ⟨?_, fun p hp => ?_, fun s h5 h6 h7 => ?_⟩
  · rw [List.pairwise_append]
    refine ⟨?_, List.pairwise_singleton _ _, fun p hp p' hp' => ?_⟩
    · refine List.Pairwise.imp_of_mem ?_ h1
      intro p p' hp hp' hh
      have b := (h2 p hp).1
      have b' := (h2 p' hp').1
      rw [hd 33 p.2 b.1 b.2 (hne p hp) (by omega) (by omega), hd 33 p'.2 b'.1 b'.2 (hne p' hp') (by omega) (by omega), hc p hp 20 0 (by omega) (by omega), hc p hp 20 1 (by omega) (by omega), hc p' hp' 20 0 (by omega) (by omega), hc p' hp' 20 1 (by omega) (by omega)]
      exact hh
    · have e : p' = (q, x) := by simpa using hp'
      subst e
      obtain ⟨b, b2, b3, b4⟩ := h2 p hp
      refine ⟨?_, ?_⟩
      · show zV D' 33 0 p.2 < zV D' 33 0 x
        rw [h50, hd 33 p.2 b.1 b.2 (hne p hp) (by omega) (by omega)]
        omega
      · show ¬ zmeet (zV C' 20 p.1 0) (zV C' 20 p.1 1) (zV C' 20 q 0) (zV C' 20 q 1)
        rw [hc p hp 20 0 (by omega) (by omega), hc p hp 20 1 (by omega) (by omega)]
        exact hm p hp
  · rcases List.mem_append.mp hp with hp | hp
    · obtain ⟨b, b2, b3, b4⟩ := h2 p hp
      refine ⟨b, ?_, ?_, iEn_c hn (h4 p hp) b4 (hc p hp) (fun κ k1 k2 => hd κ p.2 b.1 b.2 (hne p hp) (by omega) (by omega)) (fun j hj => hd2 p.2 j b.1 b.2 (hne p hp) hj)⟩
      · rw [hd 30 p.2 b.1 b.2 (hne p hp) (by omega) (by omega)]; exact b2
      · rw [hd 33 p.2 b.1 b.2 (hne p hp) (by omega) (by omega)]; omega
    · have e : p = (q, x) := by simpa using hp
      subst e
      exact ⟨hx, h49, by show zV D' 33 0 x ≤ _; rw [h50]; exact Int.le_refl _, he⟩
  · by_cases z : s = x
    · exact ⟨(q, x), List.mem_append.mpr (Or.inr (List.mem_cons.mpr (Or.inl rfl))), z.symm⟩
    · rw [hd 30 s h5 h6 z (by omega) (by omega)] at h7
      obtain ⟨p, hp, e⟩ := h3 s h5 h6 h7
      exact ⟨p, List.mem_append.mpr (Or.inl hp), e⟩
theorem i_del {n : Nat} {C D : zMem} {r j : Nat} {Z : List (Nat × Nat)} {p : Nat × Nat} (h : iY n C D r Z) (h4 : ∀ p ∈ Z, zV C 21 p.1 3 ≤ 4) (hp : Z[j]? = some p) : iY n C (zup D 30 0 p.2 (zI (-1))) r (Z.eraseIdx j) ∧ ∀ p' ∈ Z.eraseIdx j, p'.2 ≠ p.2 := by
  obtain ⟨A, B, e1, e2, e3⟩ := i_split Z j p hp
  have hdis := i_dist h
  have hne : ∀ p' ∈ Z.eraseIdx j, p'.2 ≠ p.2 := fun p' hp' => by
    rw [e1, List.pairwise_append, List.pairwise_cons] at hdis
    rw [e3] at hp'
    rcases List.mem_append.mp hp' with m | m
    · exact hdis.2.2 p' m p (List.mem_cons.mpr (Or.inl rfl))
    · exact (hdis.2.1.1 p' m).symm
  obtain ⟨h1, h2, h3⟩ := h
  refine ⟨⟨?_, fun p' hp' => ?_, fun s h5 h6 h7 => ?_⟩, hne⟩
  · refine (List.Pairwise.sublist (List.eraseIdx_sublist Z j) h1).imp ?_
    intro a b hh
    rw [zV_ne (show (33 : Nat) ≠ 30 by decide), zV_ne (show (33 : Nat) ≠ 30 by decide)]
    exact hh
  · have m := List.mem_of_mem_eraseIdx hp'
    obtain ⟨b, b2, b3, b4⟩ := h2 p' m
    refine ⟨b, ?_, ?_, iEn_c (Nat.le_refl n) (h4 p' m) b4 (fun _ _ _ _ => rfl) (fun κ k1 k2 => ?_) (fun j hj => zV_ne (by decide))⟩
    · rw [zV_nj (hne p' hp')]; exact b2
    · rw [zV_ne (by decide), zV_ne (by decide)]; exact b3
    · rw [zV_upg, if_neg (fun z => hne p' hp' z.2.2)]
  · by_cases z : s = p.2
    · exfalso
      rw [z, zV_eq (by decide)] at h7
      omega
    · rw [zV_nj z] at h7
      obtain ⟨p', hp', e⟩ := h3 s h5 h6 h7
      refine ⟨p', ?_, e⟩
      rw [e3]
      rw [e1] at hp'
      rcases List.mem_append.mp hp' with m | m
      · exact List.mem_append.mpr (Or.inl m)
      · rcases List.mem_cons.mp m with m | m
        · exact absurd (by rw [← e, m]) z
        · exact List.mem_append.mpr (Or.inr m)
theorem i_clr {n : Nat} {C D D' : zMem} {r : Nat} {v b : Int} {Z : List (Nat × Nat)} (h : iY n C D r Z) (h4 : ∀ p ∈ Z, zV C 21 p.1 3 ≤ 4) (hpf : ∀ p ∈ Z, zpfx (zV C 20 p.1 0) (zV C 20 p.1 1)) (hz : jclr D D' (r : Int) v b (8 * (r : Int) + 8)) : iY n C D' r (Z.filter (fun p => zkeep C v b (p.1 : Int))) := by
  obtain ⟨h1, h2, h3⟩ := h
  obtain ⟨z1, z2⟩ := hz
  have fd : ∀ κ s : Nat, κ ≠ 30 → zV D' κ 0 s = zV D κ 0 s := fun κ s q => zV_of (z2 κ 0 s (fun w => q w.1))
  have hk : ∀ p : Nat × Nat, zkeep C v b (p.1 : Int) = true ↔ ¬ zmeet (zV C 20 p.1 0) (zV C 20 p.1 1) v b := fun p => by
    constructor
    · intro a w
      exact zkeep_f (M := C) (y := (p.1 : Int)) (by rw [Int.toNat_natCast]; exact w) a
    · intro a
      exact zkeep_t (M := C) (y := (p.1 : Int)) (by rw [Int.toNat_natCast]; exact a)
  have kp : ∀ p ∈ Z, zkeep C v b (p.1 : Int) = true → zV D' 30 0 p.2 = zV D 30 0 p.2 := fun p m hkp => by
    have hkp := (hk p).mp hkp
    obtain ⟨c1, c2, c3, c4⟩ := h2 p m
    obtain ⟨e1, e2⟩ := i_pv c4 (hpf p m)
    exact (z1 p.2).2 (fun w => hkp (by have := w.2.2; rw [e1, e2] at this; exact this))
  refine ⟨?_, fun p hp => ?_, fun s h5 h6 h7 => ?_⟩
  · refine (List.Pairwise.sublist List.filter_sublist h1).imp ?_
    intro a c hh
    rw [fd 33 _ (by decide), fd 33 _ (by decide)]
    exact hh
  · obtain ⟨m, hkp⟩ := List.mem_filter.mp hp
    have k9 := kp p m hkp
    obtain ⟨c1, c2, c3, c4⟩ := h2 p m
    refine ⟨c1, by rw [k9]; exact c2, by rw [fd 33 _ (by decide), fd 36 _ (by decide)]; exact c3, iEn_c (Nat.le_refl n) (h4 p m) c4 (fun _ _ _ _ => rfl) (fun κ k1 k2 => ?_) (fun j hj => fd 34 _ (by omega))⟩
    by_cases e : κ = 30
    · rw [e]; exact k9
    · exact fd κ _ e
  · by_cases w : 0 ≤ zV D 30 0 s ∧ zmeet (zV D 30 0 s / 32) (zV D 30 0 s % 32) v b
    · have := (z1 s).1 ⟨by omega, w⟩
      omega
    · rw [(z1 s).2 (fun z => w z.2)] at h7
      obtain ⟨p, hp, e⟩ := h3 s h5 h6 h7
      refine ⟨p, List.mem_filter.mpr ⟨hp, (hk p).mpr fun y => w ⟨h7, ?_⟩⟩, e⟩
      obtain ⟨e1, e2⟩ := i_pv (h2 p hp).2.2.2 (hpf p hp)
      rw [← e, e1, e2]
      exact y
theorem i_fre {n : Nat} {C D : zMem} {r x : Nat} {Z : List (Nat × Nat)} (h : iY n C D r Z) (h4 : ∀ p ∈ Z, zV C 21 p.1 3 ≤ 4) (hx : jchs D (r : Int) (x : Int)) : ∃ Dm, iY n C Dm r (if 8 ≤ Z.length then Z.tail else Z) ∧ zV Dm 30 0 x < 0 ∧ ∀ κ j : Nat, ¬ (κ = 30 ∧ j = x) → zV Dm κ 0 j = zV D κ 0 j := by
  have hm := i_many h
  obtain ⟨hb, hx⟩ := hx
  rcases hx with hx | ⟨hx, j, hj, e, hc⟩
  · rw [Int.toNat_natCast] at hx
    have h7 : Z.length < 8 := by
      have e8 := i_s1 1 (x - 8 * r) 8
      rw [if_pos (by omega)] at e8
      have e9 := i_sa (fun j => zind (0 ≤ zV D 30 0 (8 * r + j))) (fun j => if j = x - 8 * r then 1 else 0) 8
      have e7 := zsm_b (f := fun k => zind (0 ≤ zV D 30 0 (8 * r + k)) + if k = x - 8 * r then 1 else 0) (B := 1) 8 (fun k hk => by
        have z1 := zind_rg (0 ≤ zV D 30 0 (8 * r + k))
        by_cases z : k = x - 8 * r
        · have z2 : zind (0 ≤ zV D 30 0 (8 * r + k)) = 0 := zind_f (by rw [show 8 * r + k = x by omega]; omega)
          show 0 ≤ zind (0 ≤ zV D 30 0 (8 * r + k)) + (if k = x - 8 * r then (1 : Int) else 0) ∧ _
          rw [if_pos z, z2]
          decide
        · show 0 ≤ zind (0 ≤ zV D 30 0 (8 * r + k)) + (if k = x - 8 * r then (1 : Int) else 0) ∧ _
          rw [if_neg z]
          omega)
      rw [e9, hm] at e7
      have e10 : zsm (fun j => if j = x - 8 * r then (1 : Int) else 0) 8 = 1 := e8
      rw [e10] at e7
      omega
    refine ⟨D, ?_, hx, fun _ _ _ => rfl⟩
    rw [if_neg (by omega)]
    exact h
  · have e8 : (Z.length : Int) = 8 := by
      rw [← hm]
      have e9 : zsm (fun j => zind (0 ≤ zV D 30 0 (8 * r + j))) 8 = zsm (fun _ => 1) 8 := zsm_ext fun k hk => zind_t (hx _ (by omega) (by omega))
      rw [e9]
      rfl
    rw [Int.toNat_natCast] at e hc
    obtain ⟨p, hp, e2⟩ := i_pc (i := 0) h hj hc
    have h9 := (i_del h h4 hp).1
    have e3 : p.2 = x := by omega
    rw [e3, List.eraseIdx_zero] at h9
    refine ⟨_, by rw [if_pos (by omega)]; exact h9, by rw [zV_eq (by decide)]; decide, fun κ j q => ?_⟩
    rw [zV_upg, if_neg (fun z => q ⟨z.1, z.2.2⟩)]
/-- a new entry, on both sides -/
theorem i_new {n q x : Nat} {C D Mb M1 Nb D1 : zMem} {idn mm L pp qq ee : Int} (hn : n ≤ 200) (hA : iA n C D) (hC : iC n C D) (hm : mm = -1 ∨ (0 ≤ mm ∧ mm < zV C 1 0 1 ∧ zV C 3 mm.toNat 3 = 0)) (hid : 0 ≤ idn ∧ idn < 65536) (hL : 0 ≤ L ∧ L ≤ 16) (f20 : zV Mb 20 q 0 = zfb idn L ∧ zV Mb 20 q 1 = L) (fb : ∀ κ i j : Nat, 3 ≤ κ → κ ≤ 8 → zV Mb κ i j = zV C κ i j) (fn : ∀ j : Nat, zV Nb 28 0 j = zV D 28 0 j)
    (hp : pp = 32 * zfb idn L + L) (hq : qq = if mm < 0 then 0 else 32 * zV D 27 0 mm.toNat + mm + 1) (he : ee = zV D 36 0 0 + (if mm < 0 then zV D 36 0 2 else zV D 36 0 1))
    (h5 : (mm = -1 ∧ M1 = zup (zup (zup (zup Mb 19 q 3 (zI (-1))) 21 q 3 (zI 0)) 19 q 5 (zI (zV C 0 0 3 + zV C 0 0 5))) 19 q 6 (zI 0)) ∨ (mm ≠ -1 ∧ 0 ≤ mm ∧ mm < 24 ∧ zkp Mb M1 q mm.toNat mm (zw (zV C 0 0 3 + zV C 0 0 4))))
    (h7 : jcp (jset Nb (x : Int) pp qq ee) D1 (x : Int) mm 4) : iEn n M1 D1 q x := by
  obtain ⟨⟨c1, c2, c3⟩, -, c4, c5, -⟩ := hC
  have hv := zfb_rg hid.1 hid.2 hL.1 hL.2
  have hA1 := hA.1
  obtain ⟨g1, g2⟩ := h7
  have g1 : ∀ j : Nat, j < 4 → zV D1 34 0 (4 * x + j) = if mm < 0 then 0 else zV D 28 0 (4 * mm + (j : Int)).toNat := fun j hj => by
    have h9 := g1 j (by omega)
    rw [show (4 * (x : Int) + (j : Int)).toNat = 4 * x + j by omega, jset_o (by omega), fn] at h9
    exact h9
  have gs : ∀ κ : Nat, 30 ≤ κ → κ ≤ 32 → zV D1 κ 0 x = zV (jset Nb (x : Int) pp qq ee) κ 0 x := fun κ q1 q2 => zV_of (g2 κ 0 x (by omega))
  have hqr : zrg qq := by
    rw [hq]
    split
    · decide
    · rcases hm with z | ⟨z1, z2, z3⟩
      · omega
      · have h9 := iA_ver hA (m := mm.toNat) (by omega) z3
        omega
  have her : zrg ee := by
    rw [he, c1, c2, c3]
    split <;> omega
  have s30 : zV D1 30 0 x = pp := by
    rw [gs 30 (by omega) (by omega)]
    unfold jset
    rw [zV_ne (by decide), zV_ne (by decide), Int.toNat_natCast, zV_eq (by omega)]
  have s31 : zV D1 31 0 x = qq := by
    rw [gs 31 (by omega) (by omega)]
    unfold jset
    rw [zV_ne (by decide), Int.toNat_natCast, zV_eq hqr]
  have s32 : zV D1 32 0 x = ee := by
    rw [gs 32 (by omega) (by omega)]
    unfold jset
    rw [Int.toNat_natCast, zV_eq her]
  unfold iEn
  rw [s30, s31, s32]
  rcases h5 with ⟨hmm, h5⟩ | ⟨hmm, hm0, hm1, h5⟩
  · have t0 : zV M1 21 q 3 = 0 := by rw [h5, zV_ne (by decide), zV_ne (by decide), zV_eq (by decide)]
    have t3 : zV M1 19 q 3 = -1 := by rw [h5, zV_nj (by decide), zV_nj (by decide), zV_ne (by decide), zV_eq (by decide)]
    have t5 : zV M1 19 q 5 = zV C 0 0 3 + zV C 0 0 5 := by rw [h5, zV_nj (by decide), zV_eq (by omega)]
    have t6 : zV M1 19 q 6 = 0 := by rw [h5, zV_eq (by decide)]
    have t20 : ∀ j, zV M1 20 q j = zV Mb 20 q j := fun j => by rw [h5, zV_ne (by decide), zV_ne (by decide), zV_ne (by decide), zV_ne (by decide)]
    rw [t0, t3, t5, t6, t20, t20, f20.1, f20.2]
    rw [if_pos (by omega)] at hq he
    refine ⟨hp, by rw [if_pos rfl]; exact hq, by rw [if_pos rfl]; omega, ⟨Or.inl rfl, by omega, by omega⟩, Or.inl ⟨rfl, rfl⟩, fun j hj => ?_, fun j hj => by omega, fun j j' hj => by omega⟩
    rw [g1 j hj, if_pos (by omega), if_neg (by omega)]
  · have hm2 := hm.resolve_left hmm
    have hver := iA_ver hA (m := mm.toNat) (by omega) hm2.2.2
    obtain ⟨k1, k2, k3, k4, k5, k6, k7, k8, k9⟩ := h5
    rw [fb 3 _ _ (by omega) (by omega)] at k2
    rw [fb 5 _ _ (by omega) (by omega)] at k5 k6 k7
    obtain ⟨-, -, -, d2, x1, y1, w1⟩ := hA.2.2.1 mm.toNat (by omega)
    have t20 : ∀ j, zV M1 20 q j = zV Mb 20 q j := fun j => zV_of (k9 20 q j (by omega))
    rw [if_neg (by omega)] at hq he
    rw [k1, k2, k3, k4, k5, t20, t20, f20.1, f20.2, zw_eq (by omega)]
    refine ⟨hp, by rw [if_neg hmm]; omega, by rw [if_pos rfl]; omega, ⟨Or.inl rfl, by omega, by omega⟩, Or.inr ⟨by omega, by omega, by omega⟩, fun j hj => ?_, fun j hj => ?_, fun j j' hj hj' e => ?_⟩
    · rw [g1 j hj, if_neg (by omega), show (4 * mm + (j : Int)).toNat = 4 * mm.toNat + j by omega, (x1 j hj).2 (by omega), k8 j hj]
      by_cases z : (j : Int) < zV C 5 mm.toNat 3
      · obtain ⟨m6, m7, m8⟩ := k6 j z
        rw [if_pos z, if_pos z, m6, m7, m8, fb 6 _ _ (by omega) (by omega), fb 7 _ _ (by omega) (by omega), fb 8 _ _ (by omega) (by omega)]
        omega
      · rw [if_neg z, if_neg z]
    · obtain ⟨m6, m7, m8⟩ := k6 j hj
      rw [m7, m8, k8 j (by omega), fb 7 _ _ (by omega) (by omega), fb 8 _ _ (by omega) (by omega)]
      have y2 := y1 j hj
      exact ⟨y2.1, y2.2, Int.le_refl _⟩
    · rw [(k6 j hj).1, (k6 j' hj').1, fb 6 _ _ (by omega) (by omega), fb 6 _ _ (by omega) (by omega)] at e
      exact w1 j j' hj hj' e
