theorem zmeet_comm {v b w d : Int} : zmeet v b w d ↔ zmeet w d v b := by
  unfold zmeet
  rw [show min b d = min d b by omega]
  exact eq_comm
theorem i_mt {v b w d id : Int} (hv : zpfx v b) (hw : zpfx w d) (hi : 0 ≤ id) (h1 : zmeet v b id 16) (h2 : zmeet w d id 16) : zmeet v b w d := by
  unfold zpfx at hv hw
  unfold zmeet at h1 h2 ⊢
  rw [show min b 16 = b by omega] at h1
  rw [show min d 16 = d by omega] at h2
  have e1 := i_fs (k := min b d) hv.1 hi (by omega) (by omega) hv.2.2.2 h1
  have e2 := i_fs (k := min b d) hw.1 hi (by omega) (by omega) hw.2.2.2 h2
  rw [e1, e2]
/-! the longest one is one alone -/
theorem i_fu {v l g : Nat → Int} {n id x y : Int} (hx : zfnd v l g n id x) (hy : zfnd v l g n id y) : x = y := by
  rcases hx with ⟨a1, a2⟩ | ⟨i, a1, a2, a3⟩ <;> rcases hy with ⟨b1, b2⟩ | ⟨k, b1, b2, b3⟩
  · rw [a1, b1]
  · exact absurd b2 (a2 k)
  · exact absurd a2 (b2 i)
  · have h1 := a3 k b2
    have h2 := b3 i a2
    have h3 := h1.1
    have h4 := h2.1
    rw [a1, b1]
    rcases Nat.lt_trichotomy i k with q | q | q
    · have h5 := h2.2 q
      omega
    · rw [q]
    · have h5 := h1.2 q
      omega
theorem i_mer (f : Nat × Nat → Int) : ∀ (Z : List (Nat × Nat)) (j : Nat), (Z.map f).eraseIdx j = (Z.eraseIdx j).map f := by
  intro Z
  induction Z with
  | nil => intro j; simp
  | cons q Z ih =>
    intro j
    cases j with
    | zero => simp
    | succ j =>
      show f q :: (Z.map f).eraseIdx j = f q :: (Z.eraseIdx j).map f
      rw [ih]
theorem znar_u {v l g : Nat → Int} {n idn own x y : Int} (hx : znar v l g n idn own x) (hy : znar v l g n idn own y) : x = y := by
  obtain ⟨x1, x2, x3, x4⟩ := hx
  obtain ⟨y1, y2, y3, y4⟩ := hy
  rcases Int.lt_trichotomy x y with q | q | q
  · exact absurd (y3 x x1 q) (x4 (by omega))
  · exact q
  · exact absurd (x3 y y1 q) (y4 (by omega))
/-! sending, on both sides -/
theorem i_fitk {n : Nat} {C D : zMem} {q s : Nat} {idn : Int} (he : iEn n C D q s) (hp : zpfx (zV C 20 q 0) (zV C 20 q 1)) (ht : zV D 36 0 0 = zV C 0 0 3) (ht0 : 0 ≤ zV C 0 0 3) (h9 : 0 ≤ zV D 30 0 s) : jft D idn s ↔ zfit C idn (zV C 0 0 3) q := by
  obtain ⟨e1, e2⟩ := i_pv he hp
  obtain ⟨-, -, a3, a4, -⟩ := he
  unfold jft zfit
  rw [e1, e2, a3, ht]
  constructor
  · rintro ⟨-, h2, h3⟩
    by_cases z : zV C 19 q 6 = 0
    · rw [if_pos z] at h2
      exact ⟨z, h2, h3⟩
    · rw [if_neg z] at h2
      omega
  · rintro ⟨h1, h2, h3⟩
    exact ⟨h9, by rw [if_pos h1]; exact h2, h3⟩
theorem i_fitu {n : Nat} {C D : zMem} {r : Nat} {Z : List (Nat × Nat)} (h : iY n C D r Z) (hp : ∀ p ∈ Z, zpfx (zV C 20 p.1 0) (zV C 20 p.1 1)) {idn : Int} (hid : 0 ≤ idn) {i j : Nat} {p p' : Nat × Nat} (hi : Z[i]? = some p) (hj : Z[j]? = some p') (h1 : zmeet (zV C 20 p.1 0) (zV C 20 p.1 1) idn 16) (h2 : zmeet (zV C 20 p'.1 0) (zV C 20 p'.1 1) idn 16) : i = j := by
  have hm := hp p (List.mem_of_getElem? hi)
  have hm' := hp p' (List.mem_of_getElem? hj)
  rcases Nat.lt_trichotomy i j with q | q | q
  · exact absurd (i_mt hm hm' hid h1 h2) (i_pw h.1 hi hj q).2
  · exact q
  · exact absurd (i_mt hm' hm hid h2 h1) (i_pw h.1 hj hi q).2
theorem i_fin1 {n r : Nat} {C D C' D' : zMem} (hr2 : r < 2) (hE : iE n C D) (hu : zV D' 36 0 7 = zV D 36 0 7 + 1) (hwr : zwr C' (2 * r)) (hw1 : ∀ κ i j : Nat, κ = 16 ∨ κ = 17 → i ≠ 2 * r → zV C' κ i j = zV C κ i j) (hwp : zwp C') (hwe : ∀ q, q < 24 → zwe C' q) (hW : iW (n + 1) D') (hZ : ∃ Z : List (Nat × Nat), Z.map (fun p => (p.1 : Int)) = zel C' (2 * r) ∧ iY (n + 1) C' D' r Z)
    (hc : ∀ κ i j : Nat, 19 ≤ κ → κ ≤ 25 → ¬ (8 * (2 * r) ≤ i ∧ i < 8 * (2 * r) + 8) → zV C' κ i j = zV C κ i j) (hd : ∀ κ s : Nat, 30 ≤ κ → κ ≤ 33 → ¬ (8 * r ≤ s ∧ s < 8 * r + 8) → zV D' κ 0 s = zV D κ 0 s) (hd2 : ∀ s j : Nat, ¬ (8 * r ≤ s ∧ s < 8 * r + 8) → j < 4 → zV D' 34 0 (4 * s + j) = zV D 34 0 (4 * s + j)) : iE (n + 1) C' D' := by
  obtain ⟨⟨u0, u1⟩, ⟨e1, e2, e3⟩, c1, e4, e5⟩ := hE
  refine ⟨by rw [hu]; omega, ⟨fun r' hr' => ?_, hwp, hwe⟩, by rw [hw1 16 1 2 (by omega) (by omega)]; exact c1, hW, fun r' hr' => ?_⟩
  · by_cases z : r' = 2 * r
    · rw [z]; exact hwr
    · exact zwr_congr (hw1 _ _ _ (by omega) z) (fun j => hw1 _ _ _ (by omega) z) (e1 r' hr')
  · by_cases z : r' = r
    · rw [z]; exact hZ
    · obtain ⟨Z, z1, z2⟩ := e5 r' hr'
      have hb : ∀ p ∈ Z, 8 * (2 * r') ≤ p.1 ∧ p.1 < 8 * (2 * r') + 8 := fun p hp => i_el3 (e1 (2 * r') (by omega)) z1 hp
      refine ⟨Z, ?_, iY_c (by omega) (fun p hp => ?_) z2 (fun p hp κ j k1 k2 => hc κ p.1 j k1 k2 ?_) (by rw [hu]; omega) (fun κ s s1 s2 k1 k2 => hd κ s k1 k2 (by omega)) (fun s j s1 s2 hj => hd2 s j (by omega) hj)⟩
      · rw [z1]
        exact (zel_c (hw1 _ _ _ (by omega) (by omega)) (fun j => hw1 _ _ _ (by omega) (by omega))).symm
      · have := hb p hp
        exact (e3 p.1 (by omega)).1.2
      · have := hb p hp
        omega
theorem i_hit {n : Nat} {C D C' D' M1 : zMem} {r j : Nat} {X Y : Int} {Z : List (Nat × Nat)} {p : Nat × Nat} (hn : n ≤ 200) (h : iN n C D) (hr : r < 2) (z1 : Z.map (fun p => (p.1 : Int)) = zel C (2 * r)) (z2 : iY n C D r Z) (hp : Z[j]? = some p) (h1 : zmte C M1 (2 * r) (j : Int)) (h2 : zsnd M1 C' (2 * r) p.1 X) (h3 : jfin D D' (r : Int) (p.2 : Int) Y) : X = Y ∧ iN (n + 1) C' D' := by
  obtain ⟨hA, hB, hS, hC, hD, hE⟩ := h
  obtain ⟨⟨u0, u1⟩, ⟨e1, e2, e3⟩, c1, e4, e5⟩ := id hE
  obtain ⟨w, g, f⟩ := h1
  obtain ⟨M2, hM2, hfin⟩ := h3
  simp only [Int.toNat_natCast] at hM2 hfin g
  have hpm := List.mem_of_getElem? hp
  obtain ⟨b, b2, b3, b4⟩ := z2.2.1 p hpm
  have hq := i_el3 (e1 (2 * r) (by omega)) z1 hpm
  have h4 : ∀ p ∈ Z, zV C 21 p.1 3 ≤ 4 := fun p' hp' => by
    have := i_el3 (e1 (2 * r) (by omega)) z1 hp'
    exact (e3 p'.1 (by omega)).1.2
  have fM : ∀ κ i j : Nat, ¬ (κ = 17 ∧ i = 2 * r) → zV M1 κ i j = zV C κ i j := fun κ i j q => zV_of (f κ i j q)
  have gM : ∀ κ s : Nat, ¬ (κ = 36 ∧ s = 7) → ¬ (κ = 33 ∧ s = p.2) → zV M2 κ 0 s = zV D κ 0 s := fun κ s q1 q2 => by
    rw [hM2, zV_upg, if_neg (fun z => q2 ⟨z.1, z.2.2⟩), zV_upg, if_neg (fun z => q1 ⟨z.1, z.2.2⟩)]
  have gu : zV M2 36 0 7 = zV D 36 0 7 + 1 := by rw [hM2, zV_ne (by decide), zV_eq (by omega)]
  have g33 : zV M2 33 0 p.2 = zV D 36 0 7 + 1 := by rw [hM2, zV_eq (by omega)]
  have he2 : iEn n M1 D p.1 p.2 := iEn_c (Nat.le_refl n) (h4 p hpm) b4 (fun κ j _ _ => fM κ p.1 j (by omega)) (fun κ k1 k2 => rfl) (fun j hj => rfl)
  obtain ⟨hXY, he3, fC, fD, fB⟩ := i_go hn he2 (zwe_congr (e3 p.1 (by omega)) (fM _ _ _ (by omega)) (fun j => fM _ _ _ (by omega))) (fun j hj => (e4.2 _ (by omega)).2) (fun a ha => by rw [fM _ _ _ (by omega)]; exact (hD.2 r hr).2 a ha) h2 (fun κ j q => gM κ j (by omega) (by omega)) hfin
  have tC : ∀ κ i j : Nat, ¬ (κ = 17 ∧ i = 2 * r) → ¬ (κ = 25 ∧ i = p.1) → zV C' κ i j = zV C κ i j := fun κ i j q1 q2 => (zV_of (fC κ i j q2)).trans (fM κ i j q1)
  have tD : ∀ κ s : Nat, ¬ (κ = 36 ∧ s = 7) → ¬ (κ = 33 ∧ s = p.2) → ¬ (κ = 34 ∧ 4 * p.2 ≤ s ∧ s < 4 * p.2 + 4) → zV D' κ 0 s = zV D κ 0 s := fun κ s q1 q2 q3 => (zV_of (fD κ 0 s (fun z => q3 ⟨z.1, z.2.2⟩))).trans (gM κ s q1 q2)
  have tu : zV D' 36 0 7 = zV D 36 0 7 + 1 := (zV_of (fD 36 0 7 (by omega))).trans gu
  have t33 : zV D' 33 0 p.2 = zV D 36 0 7 + 1 := (zV_of (fD 33 0 p.2 (by omega))).trans g33
  obtain ⟨hdel, hne⟩ := i_del z2 h4 hp
  have hidx : ∀ p' ∈ Z.eraseIdx j, ∃ i, Z[i]? = some p' ∧ i ≠ j := fun p' hp' => by
    obtain ⟨i, hi⟩ := List.getElem?_of_mem (List.mem_of_mem_eraseIdx hp')
    refine ⟨i, hi, fun e => hne p' hp' ?_⟩
    rw [e, hp] at hi
    rw [Option.some.inj hi]
  have hput := i_put (n' := n + 1) (C' := C') (D' := D') (q := p.1) (x := p.2) (by omega) hdel (fun p' hp' => h4 p' (List.mem_of_mem_eraseIdx hp')) b (by rw [zV_eq (by decide)]; decide)
    (fun p' hp' κ jj k1 k2 => tC κ p'.1 jj (by omega) (fun z => by
      obtain ⟨i, hi, hij⟩ := hidx p' hp'
      exact hij (i_el4 (e1 (2 * r) (by omega)) z1 hi hp z.2)))
    (fun κ s s1 s2 s3 k1 k2 => by rw [zV_upg, if_neg (fun z => s3 z.2.2)]; exact tD κ s (by omega) (by omega) (by omega))
    (fun s jj s1 s2 s3 hj => by rw [zV_ne (by decide)]; exact tD 34 _ (by omega) (by omega) (by omega))
    (by rw [tD _ _ (by omega) (by omega) (by omega)]; exact b2) (by rw [t33, tu]) (by rw [zV_ne (by decide), tu]; omega) he3
    (fun p' hp' => by
      obtain ⟨i, hi, hij⟩ := hidx p' hp'
      rw [tC 20 p.1 0 (by omega) (by omega), tC 20 p.1 1 (by omega) (by omega)]
      rcases Nat.lt_or_ge i j with q | q
      · exact (i_pw z2.1 hi hp q).2
      · exact fun z => (i_pw z2.1 hp hi (by omega)).2 (zmeet_comm.mp z))
  refine ⟨hXY, iA_c hA (by omega) (fun κ i j q1 q2 => tC _ _ _ (by omega) (by omega)) (tD _ _ (by omega) (by omega) (by omega)) (fun κ j q1 q2 => tD _ _ (by omega) (by omega) (by omega)),
    iB_c hB (fun κ i j q1 => tC _ _ _ (by omega) (by omega)) (tD _ _ (by omega) (by omega) (by omega)) (fun j => tD _ _ (by omega) (by omega) (by omega)),
    iS_c hS (by omega) (fun κ j q1 => tC _ _ _ (by omega) (by omega)) (fun j q1 => tD _ _ (by omega) (by omega) (by omega)),
    iC_c hC (by omega) (fun j => tC _ _ _ (by omega) (by omega)) (fun j q => tD _ _ (by omega) (by omega) (by omega)),
    iD_c hD (fun r a => tC _ _ _ (by omega) (by omega)) (fun r' hr' => tD _ _ (by omega) (by omega) (by omega)), ?_⟩
  have e16 : zV C' 16 (2 * r) 2 = zV M1 16 (2 * r) 2 := zV_of (fC _ _ _ (by omega))
  have e17 : ∀ j, zV C' 17 (2 * r) j = zV M1 17 (2 * r) j := fun j => zV_of (fC _ _ _ (by omega))
  refine i_fin1 hr hE tu (zwr_congr e16 e17 w) (fun κ i j q1 q2 => tC _ _ _ (by omega) (by omega)) (fun q hq => ?_) (fun q hq => zwe_congr (e3 q hq) (tC _ _ _ (by omega) (by omega)) (fun j => tC _ _ _ (by omega) (by omega))) ⟨fun s hs => ?_, fun k hk => ?_⟩ ⟨_, ?_, hput⟩ (fun κ i j q1 q2 q3 => tC _ _ _ (by omega) (by omega)) (fun κ s q1 q2 q3 => tD _ _ (by omega) (by omega) (by omega)) (fun s j q3 hj => tD _ _ (by omega) (by omega) (by omega))
  · rw [tC 20 q 0 (by omega) (by omega), tC 20 q 1 (by omega) (by omega)]; exact e2 q hq
  · rw [tD 30 s (by omega) (by omega) (by omega)]; exact e4.1 s hs
  · have k9 := gM 34 k (by omega) (by omega)
    have k8 := e4.2 k hk
    exact fB k (by rw [k9]; exact k8.1) (by rw [k9]; exact k8.2)
  · rw [zel_c e16 e17, g, ← z1, i_mer, List.map_append, (i_el2 z1 hp).2.1]
    rfl
/-! a packet whose answer is got, on both sides -/
theorem i_miss {n : Nat} {C D C' D' M1 M2 D1 : zMem} {r : Nat} {idn pl x X Y : Int} (hn : n ≤ 190) (hA : iA n C D) (hB : iB C D) (hS : iS (n + 1) C D) (hC : iC n C D) (hD : iD C D) (hE : iE n C D) (hrf : ∀ κ i j : Nat, κ ≤ 8 → zV C κ i j = zV D κ i j) (hr : r < 2) (hid : 0 ≤ idn ∧ idn < 65536) (h1 : zans C M1 (2 * r) idn pl) (h2 : zmte M1 M2 (2 * r) pl) (h3 : zsnd M2 C' (2 * r) (zq M1 (2 * r) pl.toNat) X) (g1 : jgot D D1 (r : Int) idn x) (g2 : jfin D1 D' (r : Int) x Y) : X = Y ∧ iN (n + 1) C' D' := by
  have hWC : zWC C := iN_WC (n := n + 1) (D := D) ⟨iA_c hA (by omega) (fun _ _ _ _ _ => rfl) rfl (fun _ _ _ _ => rfl), hB, hS, iC_c hC (by omega) (fun _ => rfl) (fun _ _ => rfl), hD, iE_c hE (by omega) (fun _ _ _ _ => rfl) rfl (fun _ _ _ _ => rfl)⟩ (by omega)
  have hwe1 := zans_we (by omega) hWC h1
  obtain ⟨⟨u0, u1⟩, ⟨e1, e2, e3⟩, c1, e4, e5⟩ := show iE n C D from hE
  obtain ⟨mm, L, Ma, Mb, a1, a2, a3, a4, a5⟩ := h1
  obtain ⟨w, hx, hx8, hcnt, hel, hf⟩ := a3
  obtain ⟨mm', L', Na, b1, b2, b3, b4, b5⟩ := g1
  have f1 : zmv D = zmv C := funext fun i => (hrf _ _ _ (by decide)).symm
  have f2 : zml D = zml C := funext fun i => (hrf _ _ _ (by decide)).symm
  have f3 : zmg D = zmg C := funext fun i => (hrf _ _ _ (by decide)).symm
  have f4 : zmn D = zmn C := (hrf _ _ _ (by decide)).symm
  rw [f1, f2, f3, f4] at b1 b2
  have em : mm = mm' := i_fu a1 b1
  subst em
  have eL : L = L' := znar_u a2 b2
  subst eL
  have hmr := zfnd_rg a1
  have hmn : zmn C = zV C 1 0 1 := rfl
  have hA1 := hA.1
  have hmg : mm = -1 ∨ (0 ≤ mm ∧ mm < zV C 1 0 1 ∧ zV C 3 mm.toNat 3 = 0) := by
    rcases a1 with ⟨q, -⟩ | ⟨k, q, hc, -⟩
    · exact Or.inl q
    · refine Or.inr ⟨by omega, by omega, ?_⟩
      rw [q, Int.toNat_natCast]
      exact hc.2.1
  have hL : 0 ≤ L ∧ L ≤ 16 := ⟨by have := a2.1; omega, a2.2.1⟩
  have hv := zfb_rg hid.1 hid.2 hL.1 hL.2
  have b40 := b4.1
  obtain ⟨xs, hxs⟩ : ∃ xs : Nat, x = (xs : Int) := ⟨x.toNat, by omega⟩
  subst hxs
  obtain ⟨ps, hps⟩ : ∃ ps : Nat, pl = (ps : Int) := ⟨pl.toNat, by omega⟩
  subst hps
  obtain ⟨Z, z1, z2⟩ := e5 r hr
  have hzb : ∀ p ∈ Z, 8 * (2 * r) ≤ p.1 ∧ p.1 < 8 * (2 * r) + 8 := fun p hp => i_el3 (e1 (2 * r) (by omega)) z1 hp
  have h4 : ∀ p ∈ Z, zV C 21 p.1 3 ≤ 4 := fun p hp => by
    have := hzb p hp
    exact (e3 p.1 (by omega)).1.2
  have hpf : ∀ p ∈ Z, zpfx (zV C 20 p.1 0) (zV C 20 p.1 1) := fun p hp => by
    have := hzb p hp
    exact e2 p.1 (by omega)
  -- the class side: which cells stay
  generalize hq : zq Ma (2 * r) ps = q at *
  simp only [Int.toNat_natCast] at h3 hel a4 a5
  rw [hq] at a4 a5
  have hw17 := w.2.1 ps (by omega)
  have hq8 : 8 * (2 * r) ≤ q ∧ q < 8 * (2 * r) + 8 := by
    rw [← hq]
    unfold zq
    omega
  have hqi : zV Ma 17 (2 * r) ps = (q : Int) := by
    rw [← hq]
    unfold zq
    omega
  have fMb : ∀ κ i j : Nat, ¬ (i = 2 * r ∧ (κ = 17 ∨ κ = 16 ∧ j = 2)) → ¬ (κ = 20 ∧ i = q) → zV Mb κ i j = zV C κ i j := fun κ i j q1 q2 => by
    rw [a4, zV_upg, if_neg (fun z => q2 ⟨z.1, z.2.1⟩), zV_upg, if_neg (fun z => q2 ⟨z.1, z.2.1⟩)]
    exact zV_of (hf κ i j q1)
  have fMba : ∀ κ i j : Nat, κ ≠ 20 → zV Mb κ i j = zV Ma κ i j := fun κ i j q1 => by rw [a4, zV_ne q1, zV_ne q1]
  have f20 : zV Mb 20 q 0 = zfb idn L ∧ zV Mb 20 q 1 = L := by
    rw [a4]
    exact ⟨by rw [zV_nj (by decide), zV_eq (by omega)], zV_eq (by omega)⟩
  have fM1 : ∀ κ i j : Nat, ¬ (i = q ∧ 19 ≤ κ ∧ κ ≤ 25 ∧ κ ≠ 20) → zV M1 κ i j = zV Mb κ i j := fun κ i j q1 => by
    rcases a5 with ⟨-, a5⟩ | ⟨-, -, -, a5⟩
    · rw [a5, zV_upg, if_neg (by omega), zV_upg, if_neg (by omega), zV_upg, if_neg (by omega), zV_upg, if_neg (by omega)]
    · exact zV_of (a5.2.2.2.2.2.2.2.2 κ i j (by omega))
  obtain ⟨w2, hel2, hf2⟩ := h2
  simp only [Int.toNat_natCast] at hel2
  have e17 : ∀ j, zV M1 17 (2 * r) j = zV Ma 17 (2 * r) j := fun j => (fM1 _ _ _ (by omega)).trans (fMba _ _ _ (by decide))
  have e16 : zV M1 16 (2 * r) 2 = zV Ma 16 (2 * r) 2 := (fM1 _ _ _ (by omega)).trans (fMba _ _ _ (by decide))
  have hq1 : zq M1 (2 * r) ps = q := by rw [← hq]; unfold zq; rw [e17]
  rw [hq1] at h3
  have fM2 : ∀ κ i j : Nat, ¬ (κ = 17 ∧ i = 2 * r) → zV M2 κ i j = zV M1 κ i j := fun κ i j q1 => zV_of (hf2 κ i j q1)
  -- the law's side
  obtain ⟨N2, hN2, hfin⟩ := g2
  simp only [Int.toNat_natCast] at hN2 hfin
  obtain ⟨y1, y2⟩ := id b5
  have gNa : ∀ κ s : Nat, κ ≠ 30 → zV Na κ 0 s = zV D κ 0 s := fun κ s q1 => zV_of (b3.2 κ 0 s (fun z => q1 z.1))
  have gNa1 : ∀ s : Nat, ¬ (8 * r ≤ s ∧ s < 8 * r + 8) → zV Na 30 0 s = zV D 30 0 s := fun s q1 => (b3.1 s).2 (fun z => q1 (by omega))
  have gD1 : ∀ κ s : Nat, ¬ (s = xs ∧ 30 ≤ κ ∧ κ ≤ 32) → ¬ (κ = 34 ∧ 4 * xs ≤ s ∧ s < 4 * xs + 4) → zV D1 κ 0 s = zV Na κ 0 s := fun κ s q1 q2 => by
    rw [zV_of (y2 κ 0 s (by omega))]
    unfold jset
    rw [Int.toNat_natCast, zV_upg, if_neg (by omega), zV_upg, if_neg (by omega), zV_upg, if_neg (by omega)]
  have gN2 : ∀ κ s : Nat, ¬ (κ = 36 ∧ s = 7) → ¬ (κ = 33 ∧ s = xs) → zV N2 κ 0 s = zV D1 κ 0 s := fun κ s q1 q2 => by
    rw [hN2, zV_upg, if_neg (fun z => q2 ⟨z.1, z.2.2⟩), zV_upg, if_neg (fun z => q1 ⟨z.1, z.2.2⟩)]
  have uD1 : zV D1 36 0 7 = zV D 36 0 7 := (gD1 _ _ (by omega) (by omega)).trans (gNa _ _ (by decide))
  have uN2 : zV N2 36 0 7 = zV D 36 0 7 + 1 := by rw [hN2, zV_ne (by decide), uD1, zV_eq (by omega)]
  have uN33 : zV N2 33 0 xs = zV D 36 0 7 + 1 := by rw [hN2, uD1, zV_eq (by omega)]
  have s30 : zV D1 30 0 xs = 32 * zfb idn L + L := by
    rw [zV_of (y2 30 0 xs (by omega))]
    unfold jset
    rw [zV_ne (by decide), zV_ne (by decide), Int.toNat_natCast, zV_eq (by omega)]
  have nb : ∀ k : Nat, k < 64 → 0 ≤ zV D1 34 0 k ∧ zV D1 34 0 k ≤ 2048 * (n : Int) + 2047 := jcp_nb (by omega) (by omega) b5 (fun s hs => by rw [jset_o (by omega), gNa 34 s (by decide)]; exact e4.2 s hs) (fun s hs => by rw [jset_o (by omega), gNa 28 s (by decide)]; exact iA_lb hA hs) (by omega) (by decide)
  -- the new entry
  have hen1 : iEn n M1 D1 q xs := i_new (by omega) hA hC hmg hid hL f20 (fun κ i j k1 k2 => fMb κ i j (by omega) (by omega)) (fun j => gNa 28 j (by decide)) rfl rfl rfl a5 b5
  have hen2 : iEn n M2 D1 q xs := iEn_c (Nat.le_refl n) (hwe1 q (by omega)).1.2 hen1 (fun κ j k1 k2 => fM2 κ q j (by omega)) (fun κ k1 k2 => rfl) (fun j hj => rfl)
  have hreach : ∀ a : Nat, a < 32 → zV D1 35 0 r / 2 ^ a % 2 = zV M2 18 (2 * r) a := fun a ha => by
    rw [gD1 _ _ (by omega) (by omega), gNa _ _ (by decide), fM2 _ _ _ (by omega), fM1 _ _ _ (by omega), fMb _ _ _ (by omega) (by omega)]
    exact (hD.2 r hr).2 a ha
  obtain ⟨hXY, he3, fC, fD, fB⟩ := i_go (by omega) hen2 (zwe_congr (hwe1 q (by omega)) (fM2 _ _ _ (by omega)) (fun j => fM2 _ _ _ (by omega))) (fun j hj => (nb _ (by omega)).2) hreach h3 (fun κ j q => gN2 κ j (by omega) (by omega)) hfin
  -- which cells stay, from the start to the end
  have tC : ∀ κ i j : Nat, ¬ (i = 2 * r ∧ (κ = 17 ∨ κ = 16)) → ¬ (19 ≤ κ ∧ κ ≤ 25 ∧ i = q) → zV C' κ i j = zV C κ i j := fun κ i j q1 q2 => by
    rw [zV_of (fC κ i j (by omega)), fM2 κ i j (by omega), fM1 κ i j (by omega), fMb κ i j (by omega) (by omega)]
  have tDa : ∀ κ s : Nat, ¬ (κ = 36 ∧ s = 7) → ¬ (s = xs ∧ 30 ≤ κ ∧ κ ≤ 33) → ¬ (κ = 34 ∧ 4 * xs ≤ s ∧ s < 4 * xs + 4) → zV D' κ 0 s = zV Na κ 0 s := fun κ s q1 q2 q3 => by
    rw [zV_of (fD κ 0 s (by omega)), gN2 κ s q1 (by omega), gD1 κ s (by omega) q3]
  have tD : ∀ κ s : Nat, ¬ (κ = 36 ∧ s = 7) → ¬ (s = xs ∧ 30 ≤ κ ∧ κ ≤ 33) → ¬ (κ = 34 ∧ 4 * xs ≤ s ∧ s < 4 * xs + 4) → ¬ (κ = 30 ∧ 8 * r ≤ s ∧ s < 8 * r + 8) → zV D' κ 0 s = zV D κ 0 s := fun κ s q1 q2 q3 q4 => by
    rw [tDa κ s q1 q2 q3]
    by_cases k : κ = 30
    · rw [k]; exact gNa1 s (by omega)
    · exact gNa κ s k
  have tu : zV D' 36 0 7 = zV D 36 0 7 + 1 := (zV_of (fD 36 0 7 (by omega))).trans uN2
  have t33 : zV D' 33 0 xs = zV D 36 0 7 + 1 := (zV_of (fD 33 0 xs (by omega))).trans uN33
  have t30 : zV D' 30 0 xs = 32 * zfb idn L + L := by rw [zV_of (fD 30 0 xs (by omega)), gN2 _ _ (by omega) (by omega)]; exact s30
  have t20 : zV C' 20 q 0 = zfb idn L ∧ zV C' 20 q 1 = L := by
    rw [zV_of (fC 20 q 0 (by omega)), zV_of (fC 20 q 1 (by omega)), fM2 20 q 0 (by omega), fM2 20 q 1 (by omega), fM1 20 q 0 (by omega), fM1 20 q 1 (by omega)]
    exact f20
  -- the router's pairs
  have y3 := i_clr z2 h4 hpf b3
  have hlen := i_el z1
  have hwr := (e1 (2 * r) (by omega)).1
  have hfs : ∀ p ∈ Z.filter (fun p => zkeep C (zfb idn L) L (p.1 : Int)), p ∈ Z := fun p hp => (List.mem_filter.mp hp).1
  obtain ⟨Dm, y4, ym, yf⟩ := i_fre y3 (fun p hp => h4 p (hfs p hp)) b4
  generalize hZ1 : Z.filter (fun p => zkeep C (zfb idn L) L (p.1 : Int)) = Z1 at *
  have hroom : (if 8 ≤ Z1.length then Z1.tail else Z1).map (fun p => (p.1 : Int)) = zroom C (2 * r) (zfb idn L) L := by
    have e : (zel C (2 * r)).filter (zkeep C (zfb idn L) L) = Z1.map (fun p => (p.1 : Int)) := by
      rw [← z1, List.filter_map, ← hZ1]
      rfl
    unfold zroom
    rw [e, List.length_map]
    split
    · rw [List.map_tail]
    · rfl
  have hz2 : ∀ p ∈ (if 8 ≤ Z1.length then Z1.tail else Z1), p ∈ Z1 := fun p hp => by
    split at hp
    · exact List.mem_of_mem_tail hp
    · exact hp
  generalize hZ2 : (if 8 ≤ Z1.length then Z1.tail else Z1) = Z2 at *
  have hza : (Z2 ++ [(q, xs)]).map (fun p => (p.1 : Int)) = zel Ma (2 * r) := by
    rw [hel, List.map_append, hroom, hqi]
    rfl
  have hps2 : ps = Z2.length := by
    rw [← hroom, List.length_map] at hx
    omega
  have hnq : ∀ p ∈ Z2, p.1 ≠ q := fun p hp e => by
    obtain ⟨i, hi⟩ := List.getElem?_of_mem hp
    have hi2 : i < Z2.length := (List.getElem?_eq_some_iff.mp hi).1
    have k1 : (Z2 ++ [(q, xs)])[i]? = some p := by rw [List.getElem?_append_left hi2]; exact hi
    have k2 : (Z2 ++ [(q, xs)])[Z2.length]? = some (q, xs) := by rw [List.getElem?_append_right (Nat.le_refl _), Nat.sub_self]; rfl
    have := i_el4 w hza k1 k2 e
    omega
  have hput := i_put (n' := n + 1) (C' := C') (D' := D') (q := q) (x := xs) (by omega) y4 (fun p hp => h4 p (hfs p (hz2 p hp))) (by omega) ym
    (fun p hp κ j k1 k2 => tC κ p.1 j (by omega) (fun z => hnq p hp z.2.2))
    (fun κ s s1 s2 s3 k1 k2 => by rw [yf κ s (fun z => s3 z.2)]; exact tDa κ s (by omega) (by omega) (by omega))
    (fun s j s1 s2 s3 hj => by rw [yf 34 _ (by omega)]; exact tDa 34 _ (by omega) (by omega) (by omega))
    (by rw [t30]; omega) (by rw [t33, tu]) (by rw [yf 36 7 (by omega), gNa 36 7 (by decide), tu]; omega) he3
    (fun p hp z => by
      rw [t20.1, t20.2] at z
      have k1 := hz2 p hp
      rw [← hZ1] at k1
      exact zkeep_f (M := C) (y := (p.1 : Int)) (by rw [Int.toNat_natCast]; exact z) (List.mem_filter.mp k1).2)
  refine ⟨hXY, iA_c hA (by omega) (fun κ i j q1 q2 => tC _ _ _ (by omega) (by omega)) (tD _ _ (by omega) (by omega) (by omega) (by omega)) (fun κ j q1 q2 => tD _ _ (by omega) (by omega) (by omega) (by omega)),
    iB_c hB (fun κ i j q1 => tC _ _ _ (by omega) (by omega)) (tD _ _ (by omega) (by omega) (by omega) (by omega)) (fun j => tD _ _ (by omega) (by omega) (by omega) (by omega)),
    iS_c hS (Nat.le_refl _) (fun κ j q1 => tC _ _ _ (by omega) (by omega)) (fun j q1 => tD _ _ (by omega) (by omega) (by omega) (by omega)),
    iC_c hC (by omega) (fun j => tC _ _ _ (by omega) (by omega)) (fun j q => tD _ _ (by omega) (by omega) (by omega) (by omega)),
    iD_c hD (fun r a => tC _ _ _ (by omega) (by omega)) (fun r' hr' => tD _ _ (by omega) (by omega) (by omega) (by omega)), ?_⟩
  have c16 : zV C' 16 (2 * r) 2 = zV M2 16 (2 * r) 2 := zV_of (fC _ _ _ (by omega))
  have c17 : ∀ j, zV C' 17 (2 * r) j = zV M2 17 (2 * r) j := fun j => zV_of (fC _ _ _ (by omega))
  refine i_fin1 hr hE tu (zwr_congr c16 c17 w2) (fun κ i j q1 q2 => tC _ _ _ (by omega) (by omega)) (fun k hk => ?_) (fun k hk => zwe_congr (hwe1 k hk) ?_ (fun j => ?_)) ⟨fun s hs => ?_, fun k hk => ?_⟩ ⟨_, ?_, hput⟩ (fun κ i j q1 q2 q3 => tC _ _ _ (by omega) (by omega)) (fun κ s q1 q2 q3 => tD _ _ (by omega) (by omega) (by omega) (by omega)) (fun s j q3 hj => tD _ _ (by omega) (by omega) (by omega) (by omega))
  · by_cases z : k = q
    · rw [z, t20.1, t20.2]
      exact ⟨hv.1, by omega, hL.1, hL.2⟩
    · rw [tC 20 k 0 (by omega) (by omega), tC 20 k 1 (by omega) (by omega)]; exact e2 k hk
  · exact (zV_of (fC _ _ _ (by omega))).trans (fM2 _ _ _ (by omega))
  · exact (zV_of (fC _ _ _ (by omega))).trans (fM2 _ _ _ (by omega))
  · by_cases z : s = xs
    · rw [z, t30]
      refine ⟨by omega, fun _ => ?_⟩
      rw [show (32 * zfb idn L + L) / 32 = zfb idn L by omega, show (32 * zfb idn L + L) % 32 = L by omega]
      exact ⟨hv.1, by omega, hL.1, hL.2⟩
    · rw [tDa 30 s (by omega) (by omega) (by omega)]
      by_cases y : (8 * (r : Int) ≤ s ∧ (s : Int) < 8 * (r : Int) + 8) ∧ 0 ≤ zV D 30 0 s ∧ zmeet (zV D 30 0 s / 32) (zV D 30 0 s % 32) (zfb idn L) L
      · rw [(b3.1 s).1 y]
        exact ⟨by decide, fun q => absurd q (by decide)⟩
      · rw [(b3.1 s).2 y]; exact e4.1 s hs
  · have k9 := gN2 34 k (by omega) (by omega)
    have k8 := nb k hk
    exact fB k (by rw [k9]; exact k8.1) (by rw [k9]; exact k8.2)
  · rw [zel_c c16 c17, hel2, zel_c e16 e17, hza.symm, e17, hqi, List.map_append]
    show _ = (Z2.map (fun p => (p.1 : Int)) ++ [(q : Int)]).eraseIdx ps ++ [(q : Int)]
    rw [List.eraseIdx_append_of_length_le (by rw [List.length_map]; omega), List.length_map, hps2, Nat.sub_self]
    simp
