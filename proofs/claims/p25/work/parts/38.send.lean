/-! a packet on both sides -/
theorem i_ansS {n : Nat} {C D : zMem} {s : Nat} (hn : n ≤ 1000) (h : iS n C D) (hs : s < 4) : iS (n + 1) (zup C 11 0 s (zI (zV C 11 0 s + 1))) (zup D 36 0 (8 + s) (zI (zV D 36 0 (8 + s) + 1))) := by
  obtain ⟨a, c⟩ := h
  have e5 : zV (zup D 36 0 (8 + s) (zI (zV D 36 0 (8 + s) + 1))) 36 0 5 = zV D 36 0 5 := zV_nj (by omega)
  refine ⟨by rw [e5]; exact a, fun t ht => ?_⟩
  obtain ⟨c1, c2, c3, c4, c5⟩ := c t ht
  have e10 : zV (zup C 11 0 s (zI (zV C 11 0 s + 1))) 10 0 t = zV C 10 0 t := zV_ne (by decide)
  rw [e5, e10]
  refine ⟨c1, c2, ?_⟩
  by_cases q : t = s
  · subst q
    rw [zV_eq (by omega), zV_eq (by omega)]
    exact ⟨by omega, by omega, by omega⟩
  · rw [zV_nj (by omega), zV_nj (by omega)]
    exact ⟨c3, c4, by omega⟩
theorem i_send {n : Nat} {C D C' D' : zMem} {r : Nat} {idn X Y : Int} (hn : n ≤ 180) (h : iN n C D) (hrf : i_rf D C) (hr : r < 2) (hid : 0 ≤ idn ∧ idn < 65536) (h1 : zsnt C C' (2 * r) idn X) (h2 : jsnt D D' (r : Int) idn Y) : X = Y ∧ iN (n + 1) C' D' := by
  obtain ⟨hA, hB, hS, hC, hD, hE⟩ := id h
  obtain ⟨⟨u0, u1⟩, ⟨e1, e2, e3⟩, c1, e4, e5⟩ := show iE n C D from hE
  obtain ⟨Z, z1, z2⟩ := e5 r hr
  have hlen := i_el z1
  have hwr := e1 (2 * r) (by omega)
  have hpf : ∀ p ∈ Z, zpfx (zV C 20 p.1 0) (zV C 20 p.1 1) := fun p hp => by
    have := i_el3 hwr z1 hp
    exact e2 p.1 (by omega)
  have hfit : ∀ p ∈ Z, (jft D idn p.2 ↔ zfit C idn (zV C 0 0 3) p.1) := fun p hp => i_fitk (z2.2.1 p hp).2.2.2 (hpf p hp) hC.1.1 hC.2.2.1.1 (z2.2.1 p hp).2.1
  have hmef : ∀ x : Int, 8 * (r : Int) ≤ x ∧ x < 8 * (r : Int) + 8 → jft D idn x.toNat → ∃ (i : Nat) (p : Nat × Nat), Z[i]? = some p ∧ x = (p.2 : Int) ∧ zfit C idn (zV C 0 0 3) p.1 := fun x hx hf => by
    obtain ⟨p, m, e⟩ := z2.2.2 x.toNat (by omega) (by omega) hf.1
    obtain ⟨i, hi⟩ := List.getElem?_of_mem m
    refine ⟨i, p, hi, by omega, (hfit p m).mp ?_⟩
    rw [e]
    exact hf
  have f1 : zdv D = zdv C := funext fun i => (hrf.v (by decide)).symm
  have f2 : zdl D = zdl C := funext fun i => (hrf.v (by decide)).symm
  have f3 : zdt D = zdt C := funext fun i => (hrf.v (by decide)).symm
  have f4 : zdn D = zdn C := (hrf.v (by decide)).symm
  unfold jsnt at h2
  simp only [Int.toNat_natCast] at h2
  rcases h1 with ⟨j, M1, hj, hfj, -, hmte, hsnd⟩ | ⟨hno, y, hy, hrest⟩
  · obtain ⟨p, hp⟩ := i_some (Z := Z) (n := j) (by omega)
    have hpe := (i_el2 z1 hp).2.2
    rw [hpe] at hfj hsnd
    rcases h2 with ⟨x, hx8, hef, hfin⟩ | ⟨hef, -⟩
    · obtain ⟨i, p', hi, hx2, hf2⟩ := hmef x hx8 hef
      have hij := i_fitu z2 hpf hid.1 hi hp hf2.2.2 hfj.2.2
      rw [hij, hp] at hi
      rw [← Option.some.inj hi] at hx2
      rw [hx2] at hfin
      exact i_hit (by omega) h hr z1 z2 hp hmte hsnd hfin
    · have m := List.mem_of_getElem? hp
      have b := (z2.2.1 p m).1
      refine absurd ((hfit p m).mpr hfj) ?_
      have := hef (p.2 - 8 * r) (by omega)
      rw [show 8 * r + (p.2 - 8 * r) = p.2 by omega] at this
      exact this
  · rcases h2 with ⟨x, hx8, hef, hfin⟩ | ⟨hef, w, sv, hw, hsv, hrest2⟩
    · obtain ⟨i, p', hi, hx2, hf2⟩ := hmef x hx8 hef
      obtain ⟨k1, -, k3⟩ := i_el2 z1 hi
      exact absurd (by rw [k3]; exact hf2) (hno i (by omega))
    · rw [f1, f2, f4] at hw
      have ey : w = y := i_fu hw hy
      rw [f3, ey] at hsv
      have hs4 : 0 ≤ sv ∧ sv < 4 := by
        rw [hsv]
        unfold zsv
        rcases hy with ⟨q, -⟩ | ⟨k, q, hc, -⟩
        · rw [if_pos q]; exact ⟨by decide, by decide⟩
        · rw [if_neg (by omega), q, Int.toNat_natCast]
          have hk : (k : Int) < zV C 9 0 4 := hc.1
          have := hB.1.1
          exact (hB.2.1 k (by omega)).2
      rw [← hsv] at hrest
      obtain ⟨s, hs⟩ : ∃ s : Nat, sv = (s : Int) := ⟨sv.toNat, by omega⟩
      rw [hs] at hrest hrest2 hs4
      have e8 : ((8 : Int) + (s : Int)).toNat = 8 + s := by omega
      rw [e8] at hrest2
      simp only [Int.toNat_natCast] at hrest hrest2
      obtain ⟨t1, t2, -⟩ := hS.2 s (by omega)
      rw [t2] at hrest2
      rcases hrest with ⟨r1, r2, r3⟩ | ⟨r1, pl, M1, M2, r2, r3, r4⟩ <;> rcases hrest2 with ⟨q1, q2, q3⟩ | ⟨q1, x, D1, q2, q3⟩
      · rw [r2, q2, r3, q3]
        exact ⟨rfl, iN_up h (by omega)⟩
      · omega
      · omega
      · exact i_miss (by omega) (iA_c hA (Nat.le_refl n) (fun κ i j q1 q2 => zV_ne (by omega)) (zV_nj (by omega)) (fun κ j q1 q2 => zV_ne (by omega)))
          (iB_c hB (fun κ i j q => zV_ne (by omega)) (zV_nj (by omega)) (fun j => zV_ne (by decide)))
          (i_ansS (by omega) hS (by omega))
          (iC_c hC (Nat.le_refl n) (fun j => zV_ne (by decide)) (fun j q => zV_nj (by omega)))
          (iD_c hD (fun r a => zV_ne (by decide)) (fun r' hr' => zV_ne (by decide)))
          (iE_c hE (Nat.le_refl n) (fun κ i j q => zV_ne (by omega)) (zV_nj (by omega)) (fun κ j q1 q2 => zV_ne (by omega)))
          (fun κ i j q => by rw [zV_ne (by omega), zV_ne (by omega)]; exact hrf.v (by omega)) hr hid r2 r3 r4 q2 q3
/-! what the one side's calls leave of the other's cells -/
theorem i_cf.mte {A B : zMem} {r : Nat} {pl : Int} (h : zmte A B r pl) : i_cf A B := fun κ i j q => h.2.2 κ i j (by omega)
theorem i_cf.snd {A B : zMem} {r q : Nat} {x : Int} (h : zsnd A B r q x) : i_cf A B := by
  rcases h with ⟨-, -, e⟩ | ⟨-, -, -, e⟩ | ⟨-, -, -, -, e⟩
  · rw [e]; exact i_cf.r A
  · rw [e]; exact i_cf.r A
  · rw [e]; exact (i_cf.r A).u (by decide)
theorem i_cf.ans {A B : zMem} {r : Nat} {idn x : Int} (h : zans A B r idn x) : i_cf A B := by
  obtain ⟨mm, L, M1, M2, -, -, h3, h4, h5⟩ := h
  have k1 : i_cf A M1 := fun κ i j q => h3.2.2.2.2.2 κ i j (by omega)
  have k2 : i_cf A M2 := by rw [h4]; exact (k1.u (by decide)).u (by decide)
  rcases h5 with ⟨-, h5⟩ | ⟨-, -, -, h5⟩
  · rw [h5]
    exact (((k2.u (by decide)).u (by decide)).u (by decide)).u (by decide)
  · exact k2.t fun κ i j q => h5.2.2.2.2.2.2.2.2 κ i j (by omega)
theorem i_cf.snt {A B : zMem} {r : Nat} {idn x : Int} (h : zsnt A B r idn x) : i_cf A B := by
  rcases h with ⟨j, M1, -, -, -, h1, h2⟩ | ⟨-, y, -, ⟨-, -, e⟩ | ⟨-, pl, M1, M2, h1, h2, h3⟩⟩
  · exact (i_cf.mte h1).t (i_cf.snd h2)
  · rw [e]; exact i_cf.r A
  · exact ((((i_cf.r A).u (by decide)).t (i_cf.ans h1)).t (i_cf.mte h2)).t (i_cf.snd h3)
theorem i_rf.got {A B : zMem} {a idn x : Int} (h : jgot A B a idn x) : i_rf A B := by
  obtain ⟨mm, L, M1, -, -, h3, -, h5⟩ := h
  have k1 : i_rf A M1 := fun κ i j q => h3.2 κ i j (by omega)
  refine i_rf.t ?_ (fun κ i j q => h5.2 κ i j (by omega))
  unfold jset
  exact ((k1.u (by decide)).u (by decide)).u (by decide)
theorem i_rf.fin {A B : zMem} {a x y : Int} (h : jfin A B a x y) : i_rf A B := by
  obtain ⟨M2, e, h2⟩ := h
  have k2 : i_rf A M2 := by rw [e]; exact ((i_rf.r A).u (by decide)).u (by decide)
  rcases h2 with ⟨-, -, e2⟩ | ⟨-, -, -, e2⟩ | ⟨-, -, j, -, -, e2⟩
  · rw [e2]; exact k2
  · rw [e2]; exact k2
  · rw [e2]; exact k2.u (by decide)
theorem i_rf.snt {A B : zMem} {a idn y : Int} (h : jsnt A B a idn y) : i_rf A B := by
  rcases h with ⟨x, -, -, h1⟩ | ⟨-, w, sv, -, -, ⟨-, -, e⟩ | ⟨-, x, M1, h1, h2⟩⟩
  · exact i_rf.fin h1
  · rw [e]; exact i_rf.r A
  · exact (((i_rf.r A).u (by decide)).t (i_rf.got h1)).t (i_rf.fin h2)
/-- a packet by the law, then by the class -/
theorem i_snd {n : Nat} {M M1 M2 : zMem} {r : Nat} {idn X Y : Int} (hn : n ≤ 180) (h : iN n M M) (hr : r < 2) (hid : 0 ≤ idn ∧ idn < 65536) (h1 : jsnt M M1 (r : Int) idn Y) (h2 : zsnt M1 M2 (2 * r) idn X) : X = Y ∧ iN (n + 1) M2 M2 := by
  have r1 := i_rf.snt h1
  have c1 := i_cf.snt h2
  obtain ⟨e, hN⟩ := i_send hn (iN_c h (Nat.le_refl n) r1 (i_cf.r M)) r1 hr hid h2 h1
  exact ⟨e, iN_c hN (Nat.le_refl _) (i_rf.r M2) c1⟩
