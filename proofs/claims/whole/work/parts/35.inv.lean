/-! an entry of the one side (q) and of the other (s) -/
def iEn (C D : zMem) (q s : Nat) : Prop :=
  (zV D 52 0 s = zV C 20 q 0 ∧ zV D 53 0 s = zV C 20 q 1) ∧ zV D 54 0 s = zV C 19 q 3 ∧ (zV C 19 q 3 ≠ -1 → zV D 55 0 s = zV C 19 q 4) ∧ zV D 56 0 s = zV C 19 q 5 ∧ zV D 57 0 s = zV C 19 q 6 ∧ zV D 58 0 s = zV C 21 q 3 ∧
  (∀ j : Nat, (j : Int) < zV C 21 q 3 → (zV D 59 0 (4 * s + j) = zV C 22 q j ∧ zV D 60 0 (4 * s + j) = zV C 23 q j ∧ zV D 61 0 (4 * s + j) = zV C 24 q j ∧ zV D 62 0 (4 * s + j) = zV C 25 q j) ∧ 0 ≤ zV C 23 q j ∧ zV C 23 q j ≤ 3) ∧
  ∀ j j' : Nat, (j : Int) < zV C 21 q 3 → (j' : Int) < zV C 21 q 3 → zV C 22 q j = zV C 22 q j' → j = j'
theorem iEn_c {C D C' D' : zMem} {q s : Nat} (h4 : zV C 21 q 3 ≤ 4) (h : iEn C D q s) (hc : ∀ κ j : Nat, 19 ≤ κ → κ ≤ 25 → zV C' κ q j = zV C κ q j) (hd : ∀ κ : Nat, 52 ≤ κ → κ ≤ 58 → zV D' κ 0 s = zV D κ 0 s) (hd2 : ∀ κ j : Nat, j < 4 → 59 ≤ κ → κ ≤ 62 → zV D' κ 0 (4 * s + j) = zV D κ 0 (4 * s + j)) : iEn C' D' q s := by
  obtain ⟨⟨a1, a2⟩, a3, a4, a5, a6, a7, a8, a9⟩ := h
  refine ⟨⟨?_, ?_⟩, ?_, ?_, ?_, ?_, ?_, ?_, ?_⟩
  · rw [hd 52 (by omega) (by omega), hc 20 0 (by omega) (by omega)]; exact a1
  · rw [hd 53 (by omega) (by omega), hc 20 1 (by omega) (by omega)]; exact a2
  · rw [hd 54 (by omega) (by omega), hc 19 3 (by omega) (by omega)]; exact a3
  · rw [hd 55 (by omega) (by omega), hc 19 3 (by omega) (by omega), hc 19 4 (by omega) (by omega)]; exact a4
  · rw [hd 56 (by omega) (by omega), hc 19 5 (by omega) (by omega)]; exact a5
  · rw [hd 57 (by omega) (by omega), hc 19 6 (by omega) (by omega)]; exact a6
  · rw [hd 58 (by omega) (by omega), hc 21 3 (by omega) (by omega)]; exact a7
  · intro j hj
    rw [hc 21 3 (by omega) (by omega)] at hj
    obtain ⟨⟨b1, b2, b3, b4⟩, b5⟩ := a8 j hj
    have h5 : j < 4 := by omega
    rw [hd2 59 j h5 (by omega) (by omega), hd2 60 j h5 (by omega) (by omega), hd2 61 j h5 (by omega) (by omega), hd2 62 j h5 (by omega) (by omega), hc 22 j (by omega) (by omega), hc 23 j (by omega) (by omega), hc 24 j (by omega) (by omega), hc 25 j (by omega) (by omega)]
    exact ⟨⟨b1, b2, b3, b4⟩, b5⟩
  · intro j j' hj hj' e
    rw [hc 21 3 (by omega) (by omega)] at hj hj'
    rw [hc 22 j (by omega) (by omega), hc 22 j' (by omega) (by omega)] at e
    exact a9 j j' hj hj' e
/-! a router's entries: pairs of a number on the one side and a place on the other, in the order of their use -/
def iY (C D : zMem) (r : Nat) (Z : List (Nat × Nat)) : Prop :=
  Z.Pairwise (fun p p' => zV D 50 0 p.2 < zV D 50 0 p'.2 ∧ ¬ zmeet (zV C 20 p.1 0) (zV C 20 p.1 1) (zV C 20 p'.1 0) (zV C 20 p'.1 1)) ∧
  (∀ p ∈ Z, (8 * r ≤ p.2 ∧ p.2 < 8 * r + 8) ∧ zV D 49 0 p.2 ≠ 0 ∧ zV D 50 0 p.2 ≤ zV D 26 0 21 ∧ iEn C D p.1 p.2) ∧
  ∀ s : Nat, 8 * r ≤ s → s < 8 * r + 8 → zV D 49 0 s ≠ 0 → ∃ p ∈ Z, p.2 = s
theorem i_dist {C D : zMem} {r : Nat} {Z : List (Nat × Nat)} (h : iY C D r Z) : Z.Pairwise (fun p p' => p.2 ≠ p'.2) := by
  refine h.1.imp ?_
  intro p p' hh e
  have h1 := hh.1
  rw [e] at h1
  omega
theorem i_zmb {C D : zMem} {r : Nat} {Z : List (Nat × Nat)} (h : iY C D r Z) (u : Int) : zmb D r u = i_ls (fun p => zV D 50 0 p.2 < u) Z := by
  show zsm (zmf D r u) 8 = _
  refine i_cnt Z (zmf D r u) (i_dist h) (fun p hp => (h.2.1 p hp).1) fun j hj => ?_
  unfold zmf
  refine zind_iff ⟨fun ⟨a, b⟩ => ?_, fun ⟨p, m, e, b⟩ => ?_⟩
  · obtain ⟨p, m, e⟩ := h.2.2 (8 * r + j) (by omega) (by omega) a
    refine ⟨p, m, e, ?_⟩
    show zV D 50 0 p.2 < u
    rw [e]
    exact b
  · rw [← e]
    exact ⟨(h.2.1 p m).2.1, b⟩
theorem i_len {C D : zMem} {r : Nat} {Z : List (Nat × Nat)} (h : iY C D r Z) : zmb D r (zV D 26 0 21 + 1) = (Z.length : Int) := by
  rw [i_zmb h]
  refine i_ls_all fun p hp => ?_
  have h1 := (h.2.1 p hp).2.2.1
  show zV D 50 0 p.2 < zV D 26 0 21 + 1
  omega
theorem i_idx {C D : zMem} {r : Nat} {Z : List (Nat × Nat)} (h : iY C D r Z) {n : Nat} {p : Nat × Nat} (hp : Z[n]? = some p) : zmb D r (zV D 50 0 p.2) = (n : Int) := by
  rw [i_zmb h]
  refine i_ix (u := fun s => zV D 50 0 s) Z n p ?_ hp
  refine h.1.imp ?_
  intro a b hh
  exact hh.1
theorem i_some {Z : List (Nat × Nat)} {n : Nat} (h : n < Z.length) : ∃ p, Z[n]? = some p := ⟨Z[n]'h, List.getElem?_eq_getElem h⟩
theorem i_pe {C D : zMem} {r : Nat} {Z : List (Nat × Nat)} (h : iY C D r Z) {n x : Int} (hn : 0 ≤ n) (hx : zpe D r n x) (hl : n < (Z.length : Int)) : ∃ p, Z[n.toNat]? = some p ∧ x = (p.2 : Int) := by
  obtain ⟨p, hp⟩ := i_some (Z := Z) (n := n.toNat) (by omega)
  refine ⟨p, hp, ?_⟩
  have hp2 := h.2.1 p (List.mem_of_getElem? hp)
  have hb := hp2.1
  have e := i_idx h hp
  rcases hx with ⟨-, hx⟩ | ⟨j, hj, hx, hc1, hc2⟩
  · exfalso
    refine hx (p.2 - 8 * r) (by omega) ?_
    unfold zpc
    rw [show 8 * r + (p.2 - 8 * r) = p.2 by omega]
    exact ⟨hp2.2.1, by rw [e]; omega⟩
  · obtain ⟨p', m', e'⟩ := h.2.2 (8 * r + j) (by omega) (by omega) hc1
    obtain ⟨i, hi⟩ := List.getElem?_of_mem m'
    have e2 := i_idx h hi
    rw [e', hc2] at e2
    have e3 : i = n.toNat := by omega
    rw [e3, hp] at hi
    have e4 : p = p' := Option.some.inj hi
    rw [hx, e4, e']
theorem i_hfr {C D : zMem} {r : Nat} {Z : List (Nat × Nat)} (h : iY C D r Z) : zhfr D r := by
  have hl := i_len h
  refine ⟨fun e => ?_, fun M1 hM => ?_⟩
  · rw [e] at hl
    obtain ⟨p, hp⟩ := i_some (Z := Z) (n := 0) (by omega)
    have h1 := i_idx h hp
    have h2 := h.2.1 p (List.mem_of_getElem? hp)
    have hb := h2.1
    refine ⟨p.2 - 8 * r, by omega, ?_⟩
    unfold zpc
    rw [show 8 * r + (p.2 - 8 * r) = p.2 by omega]
    exact ⟨h2.2.1, h1⟩
  · rcases hM with ⟨e, j, hj, hc, e2⟩ | ⟨e, e2⟩
    · exact ⟨j, hj, by rw [e2]; exact zV_eq (by decide)⟩
    · refine Classical.byContradiction fun hno => e ?_
      rw [e2] at hno
      have hall : ∀ j, j < 8 → zmf D r (zV D 26 0 21 + 1) j = 1 := fun j hj => by
        have h9 : zV D 49 0 (8 * r + j) ≠ 0 := fun z => hno ⟨j, hj, z⟩
        obtain ⟨p, m, e3⟩ := h.2.2 (8 * r + j) (by omega) (by omega) h9
        have h5 := (h.2.1 p m).2.2.1
        rw [e3] at h5
        exact zind_t ⟨h9, by omega⟩
      show zsm (zmf D r (zV D 26 0 21 + 1)) 8 = 8
      exact (zsm_ext (g := fun _ => 1) hall).trans rfl
theorem iY_c {C D C' D' : zMem} {r : Nat} {Z : List (Nat × Nat)} (h4 : ∀ p ∈ Z, zV C 21 p.1 3 ≤ 4) (h : iY C D r Z) (hc : ∀ p ∈ Z, ∀ κ j : Nat, 19 ≤ κ → κ ≤ 25 → zV C' κ p.1 j = zV C κ p.1 j) (hu : zV D 26 0 21 ≤ zV D' 26 0 21) (hd : ∀ κ s : Nat, 8 * r ≤ s → s < 8 * r + 8 → 49 ≤ κ → κ ≤ 58 → zV D' κ 0 s = zV D κ 0 s) (hd2 : ∀ κ s j : Nat, 8 * r ≤ s → s < 8 * r + 8 → j < 4 → 59 ≤ κ → κ ≤ 62 → zV D' κ 0 (4 * s + j) = zV D κ 0 (4 * s + j)) : iY C' D' r Z := by
  obtain ⟨h1, h2, h3⟩ := h
  refine ⟨?_, fun p hp => ?_, fun s h5 h6 h7 => ?_⟩
  · refine List.Pairwise.imp_of_mem ?_ h1
    intro p p' hp hp' hh
    have b := (h2 p hp).1
    have b' := (h2 p' hp').1
    rw [hd 50 p.2 b.1 b.2 (by omega) (by omega), hd 50 p'.2 b'.1 b'.2 (by omega) (by omega), hc p hp 20 0 (by omega) (by omega), hc p hp 20 1 (by omega) (by omega), hc p' hp' 20 0 (by omega) (by omega), hc p' hp' 20 1 (by omega) (by omega)]
    exact hh
  · obtain ⟨b, b2, b3, b4⟩ := h2 p hp
    refine ⟨b, ?_, ?_, iEn_c (h4 p hp) b4 (hc p hp) (fun κ k1 k2 => hd κ p.2 b.1 b.2 (by omega) k2) (fun κ j hj k1 k2 => hd2 κ p.2 j b.1 b.2 hj k1 k2)⟩
    · rw [hd 49 p.2 b.1 b.2 (by omega) (by omega)]; exact b2
    · rw [hd 50 p.2 b.1 b.2 (by omega) (by omega)]; omega
  · rw [hd 49 s h5 h6 (by omega) (by omega)] at h7
    exact h3 s h5 h6 h7
/-! what ties the one memory to the other -/
def iAm (C D : zMem) (i : Nat) : Prop :=
  (zvp (zV C 4 i 0) (zV C 4 i 1) ∧ zV D 35 0 i = zV C 4 i 0 ∧ zV D 36 0 i = zV C 4 i 1) ∧
  ((zV C 3 i 3 = 0 ∨ zV C 3 i 3 = 1) ∧ zV D 37 0 i = zV C 3 i 3) ∧
  (((i : Int) < zV C 1 0 1 → zV D 38 0 i = zV C 3 i 2) ∧ (¬ (i : Int) < zV C 1 0 1 → zV C 3 i 3 = 0 ∧ zV C 3 i 2 = 1 ∧ zV C 5 i 3 = 0)) ∧
  ((0 ≤ zV C 5 i 3 ∧ zV C 5 i 3 ≤ 4) ∧ zV D 39 0 i = zV C 5 i 3) ∧
  (∀ j : Nat, j < 4 → ((0 ≤ zV C 6 i j ∧ zV C 6 i j < 32) ∧ 0 ≤ zV C 7 i j ∧ zV C 7 i j ≤ 3) ∧ zV D 40 0 (4 * i + j) = zV C 6 i j ∧ zV D 41 0 (4 * i + j) = zV C 7 i j ∧ zV D 42 0 (4 * i + j) = zV C 8 i j) ∧
  ∀ j j' : Nat, (j : Int) < zV C 5 i 3 → (j' : Int) < zV C 5 i 3 → zV C 6 i j = zV C 6 i j' → j = j'
theorem iAm_c {C D C' D' : zMem} {i : Nat} (h : iAm C D i) (hn : (i : Int) < zV C' 1 0 1 ↔ (i : Int) < zV C 1 0 1) (hc : ∀ κ j : Nat, 3 ≤ κ → κ ≤ 8 → zV C' κ i j = zV C κ i j) (hd : ∀ κ : Nat, 35 ≤ κ → κ ≤ 39 → zV D' κ 0 i = zV D κ 0 i) (hd2 : ∀ κ j : Nat, j < 4 → 40 ≤ κ → κ ≤ 42 → zV D' κ 0 (4 * i + j) = zV D κ 0 (4 * i + j)) : iAm C' D' i := by
  obtain ⟨⟨a1, a2, a3⟩, ⟨b1, b2⟩, ⟨c1, c2⟩, ⟨d1, d2⟩, e1, f1⟩ := h
  refine ⟨⟨?_, ?_, ?_⟩, ⟨?_, ?_⟩, ⟨?_, ?_⟩, ⟨?_, ?_⟩, ?_, ?_⟩
  · rw [hc 4 0 (by omega) (by omega), hc 4 1 (by omega) (by omega)]; exact a1
  · rw [hd 35 (by omega) (by omega), hc 4 0 (by omega) (by omega)]; exact a2
  · rw [hd 36 (by omega) (by omega), hc 4 1 (by omega) (by omega)]; exact a3
  · rw [hc 3 3 (by omega) (by omega)]; exact b1
  · rw [hd 37 (by omega) (by omega), hc 3 3 (by omega) (by omega)]; exact b2
  · rw [hn, hd 38 (by omega) (by omega), hc 3 2 (by omega) (by omega)]; exact c1
  · rw [hn, hc 3 3 (by omega) (by omega), hc 3 2 (by omega) (by omega), hc 5 3 (by omega) (by omega)]; exact c2
  · rw [hc 5 3 (by omega) (by omega)]; exact d1
  · rw [hd 39 (by omega) (by omega), hc 5 3 (by omega) (by omega)]; exact d2
  · intro j hj
    rw [hc 6 j (by omega) (by omega), hc 7 j (by omega) (by omega), hc 8 j (by omega) (by omega), hd2 40 j hj (by omega) (by omega), hd2 41 j hj (by omega) (by omega), hd2 42 j hj (by omega) (by omega)]
    exact e1 j hj
  · intro j j' hj hj' e
    rw [hc 5 3 (by omega) (by omega)] at hj hj'
    rw [hc 6 j (by omega) (by omega), hc 6 j' (by omega) (by omega)] at e
    exact f1 j j' hj hj' e
def iA (C D : zMem) : Prop := (0 ≤ zV C 1 0 1 ∧ zV C 1 0 1 ≤ 24) ∧ zV D 26 0 4 = zV C 1 0 1 ∧ (∀ i : Nat, i < 24 → iAm C D i) ∧
  ∀ i i' : Nat, (i : Int) < zV C 1 0 1 → (i' : Int) < zV C 1 0 1 → zV C 3 i 3 = 0 → zV C 3 i' 3 = 0 → zV C 4 i 0 = zV C 4 i' 0 → zV C 4 i 1 = zV C 4 i' 1 → i = i'
theorem iA_c {C D C' D' : zMem} (h : iA C D) (hc : ∀ κ i j : Nat, 1 ≤ κ → κ ≤ 8 → zV C' κ i j = zV C κ i j) (hn : zV D' 26 0 4 = zV D 26 0 4) (hd : ∀ κ j : Nat, 35 ≤ κ → κ ≤ 42 → zV D' κ 0 j = zV D κ 0 j) : iA C' D' := by
  obtain ⟨a, b, c, d⟩ := h
  have e1 := hc 1 0 1 (by omega) (by omega)
  refine ⟨by rw [e1]; exact a, by rw [e1, hn]; exact b, fun i hi => iAm_c (c i hi) (by rw [e1]) (fun κ j h1 h2 => hc κ i j (by omega) h2) (fun κ h1 h2 => hd κ i h1 (by omega)) (fun κ j _ h1 h2 => hd κ _ (by omega) h2), fun i i' h1 h2 h3 h4 h5 h6 => ?_⟩
  rw [e1] at h1 h2
  rw [hc 3 i 3 (by omega) (by omega)] at h3
  rw [hc 3 i' 3 (by omega) (by omega)] at h4
  rw [hc 4 i 0 (by omega) (by omega), hc 4 i' 0 (by omega) (by omega)] at h5
  rw [hc 4 i 1 (by omega) (by omega), hc 4 i' 1 (by omega) (by omega)] at h6
  exact d i i' h1 h2 h3 h4 h5 h6
def iB (C D : zMem) : Prop := ((0 ≤ zV C 9 0 4 ∧ zV C 9 0 4 ≤ 12) ∧ zV D 26 0 13 = zV C 9 0 4) ∧
  (∀ i : Nat, i < 12 → zpfx (zV C 14 i 0) (zV C 14 i 1) ∧ (0 ≤ zV C 13 0 i ∧ zV C 13 0 i < 4) ∧ zV D 44 0 i = zV C 14 i 0 ∧ zV D 45 0 i = zV C 14 i 1 ∧ zV D 46 0 i = zV C 13 0 i) ∧
  (∀ i i' : Nat, (i : Int) < zV C 9 0 4 → (i' : Int) < zV C 9 0 4 → zV C 14 i 0 = zV C 14 i' 0 → zV C 14 i 1 = zV C 14 i' 1 → i = i') ∧
  ∀ t : Nat, t < 4 → (zV C 10 0 t = 0 ∨ zV C 10 0 t = 1) ∧ zV D 47 0 t = zV C 10 0 t ∧ zV D 48 0 t = zV C 11 0 t
theorem iB_c {C D C' D' : zMem} (h : iB C D) (hc : ∀ κ i j : Nat, 9 ≤ κ → κ ≤ 14 → zV C' κ i j = zV C κ i j) (hn : zV D' 26 0 13 = zV D 26 0 13) (hd : ∀ κ j : Nat, 44 ≤ κ → κ ≤ 48 → zV D' κ 0 j = zV D κ 0 j) : iB C' D' := by
  obtain ⟨⟨a, b⟩, c, d, e⟩ := h
  have e1 := hc 9 0 4 (by omega) (by omega)
  refine ⟨⟨by rw [e1]; exact a, by rw [e1, hn]; exact b⟩, fun i hi => ?_, fun i i' h1 h2 h5 h6 => ?_, fun t ht => ?_⟩
  · rw [hc 14 i 0 (by omega) (by omega), hc 14 i 1 (by omega) (by omega), hc 13 0 i (by omega) (by omega), hd 44 i (by omega) (by omega), hd 45 i (by omega) (by omega), hd 46 i (by omega) (by omega)]
    exact c i hi
  · rw [e1] at h1 h2
    rw [hc 14 i 0 (by omega) (by omega), hc 14 i' 0 (by omega) (by omega)] at h5
    rw [hc 14 i 1 (by omega) (by omega), hc 14 i' 1 (by omega) (by omega)] at h6
    exact d i i' h1 h2 h5 h6
  · rw [hc 10 0 t (by omega) (by omega), hc 11 0 t (by omega) (by omega), hd 47 t (by omega) (by omega), hd 48 t (by omega) (by omega)]
    exact e t ht
def iC (n : Nat) (C D : zMem) : Prop := (zV D 26 0 1 = zV C 0 0 3 ∧ zV D 26 0 2 = zV C 0 0 4 ∧ zV D 26 0 3 = zV C 0 0 5) ∧ zV D 26 0 34 = zV C 0 0 6 ∧ 0 ≤ zV C 0 0 6 ∧ zV C 0 0 6 ≤ 24 * (n : Int)
theorem iC_c {n n' : Nat} {C D C' D' : zMem} (h : iC n C D) (hn : n ≤ n') (hc : ∀ j : Nat, zV C' 0 0 j = zV C 0 0 j) (hd : ∀ j : Nat, (1 ≤ j ∧ j ≤ 3) ∨ j = 34 → zV D' 26 0 j = zV D 26 0 j) : iC n' C' D' := by
  obtain ⟨⟨a1, a2, a3⟩, b, c, d⟩ := h
  refine ⟨⟨?_, ?_, ?_⟩, ?_, ?_, ?_⟩
  · rw [hc, hd 1 (by omega)]; exact a1
  · rw [hc, hd 2 (by omega)]; exact a2
  · rw [hc, hd 3 (by omega)]; exact a3
  · rw [hc, hd 34 (by omega)]; exact b
  · rw [hc]; exact c
  · rw [hc]; omega
def iD (C D : zMem) : Prop := (∀ r a : Nat, zV C 18 r a = 0 ∨ zV C 18 r a = 1) ∧ ∀ r a : Nat, r < 3 → a < 32 → zV D 63 0 (32 * r + a) = zV C 18 r a
theorem iD_c {C D C' D' : zMem} (h : iD C D) (hc : ∀ r a : Nat, zV C' 18 r a = zV C 18 r a) (hd : ∀ j : Nat, zV D' 63 0 j = zV D 63 0 j) : iD C' D' :=
  ⟨fun r a => by rw [hc]; exact h.1 r a, fun r a hr ha => by rw [hc, hd]; exact h.2 r a hr ha⟩
def iW (D : zMem) : Prop := (∀ q : Nat, q < 24 → zpfx (zV D 52 0 q) (zV D 53 0 q)) ∧ (∀ q : Nat, q < 24 → 0 ≤ zV D 58 0 q ∧ zV D 58 0 q ≤ 4) ∧ (∀ q : Nat, q < 24 → -1 ≤ zV D 54 0 q ∧ zV D 54 0 q < 24) ∧ (∀ k : Nat, k < 96 → 0 ≤ zV D 59 0 k ∧ zV D 59 0 k < 32) ∧ ∀ q : Nat, q < 24 → zV D 49 0 q = 0 ∨ zV D 49 0 q = 1
theorem iW_c {D D' : zMem} (h : iW D) (hd : ∀ κ j : Nat, κ = 49 ∨ κ = 52 ∨ κ = 53 ∨ κ = 54 ∨ κ = 58 ∨ κ = 59 → zV D' κ 0 j = zV D κ 0 j) : iW D' := by
  obtain ⟨a, b, c, d, e⟩ := h
  refine ⟨fun q hq => ?_, fun q hq => ?_, fun q hq => ?_, fun q hq => ?_, fun q hq => ?_⟩
  · rw [hd 52 q (by omega), hd 53 q (by omega)]; exact a q hq
  · rw [hd 58 q (by omega)]; exact b q hq
  · rw [hd 54 q (by omega)]; exact c q hq
  · rw [hd 59 q (by omega)]; exact d q hq
  · rw [hd 49 q (by omega)]; exact e q hq
theorem iW_of {D : zMem} (h : zWM D) : iW D := ⟨h.2.2.2.2.2.2.1, h.2.2.2.2.2.2.2.1, h.2.2.2.2.2.2.2.2.1, h.2.2.2.2.2.2.2.2.2.1, h.2.2.2.2.2.2.2.2.2.2.2.2.2⟩
def iE (n : Nat) (C D : zMem) : Prop := (0 ≤ zV D 26 0 21 ∧ zV D 26 0 21 ≤ (n : Int)) ∧ ((∀ r, r < 3 → zwr C r) ∧ zwp C ∧ ∀ q, q < 24 → zwe C q) ∧ iW D ∧ ∀ r, r < 3 → ∃ Z : List (Nat × Nat), Z.map (fun p => (p.1 : Int)) = zel C r ∧ iY C D r Z
/-! what a list of pairs says of a router's numbers -/
theorem i_el {C : zMem} {r : Nat} {Z : List (Nat × Nat)} (h : Z.map (fun p => (p.1 : Int)) = zel C r) : Z.length = (zV C 16 r 2).toNat := by
  rw [← zel_len, ← h, List.length_map]
theorem i_el2 {C : zMem} {r : Nat} {Z : List (Nat × Nat)} (h : Z.map (fun p => (p.1 : Int)) = zel C r) {j : Nat} {p : Nat × Nat} (hp : Z[j]? = some p) : j < (zV C 16 r 2).toNat ∧ zV C 17 r j = (p.1 : Int) ∧ zq C r j = p.1 := by
  have h1 : (zel C r)[j]? = some (p.1 : Int) := by rw [← h, List.getElem?_map, hp]; rfl
  rw [zel_get] at h1
  split at h1
  · rename_i hj
    have h2 := Option.some.inj h1
    exact ⟨hj, h2, by unfold zq; rw [h2]; omega⟩
  · cases h1
theorem i_el3 {C : zMem} {r : Nat} {Z : List (Nat × Nat)} (hw : zwr C r) (h : Z.map (fun p => (p.1 : Int)) = zel C r) {p : Nat × Nat} (hp : p ∈ Z) : 8 * r ≤ p.1 ∧ p.1 < 8 * r + 8 := by
  obtain ⟨j, hj⟩ := List.getElem?_of_mem hp
  obtain ⟨h1, h2, -⟩ := i_el2 h hj
  have h3 := hw.1
  have h4 := hw.2.1 j (by omega)
  omega
theorem i_el4 {C : zMem} {r : Nat} {Z : List (Nat × Nat)} (hw : zwr C r) (h : Z.map (fun p => (p.1 : Int)) = zel C r) {i j : Nat} {p p' : Nat × Nat} (hp : Z[i]? = some p) (hp' : Z[j]? = some p') (e : p.1 = p'.1) : i = j := by
  obtain ⟨h1, h2, -⟩ := i_el2 h hp
  obtain ⟨h3, h4, -⟩ := i_el2 h hp'
  have h5 := hw.1
  exact hw.2.2 i j (by omega) (by omega) (by rw [h2, h4, e])
theorem zel_c {C C' : zMem} {r : Nat} (h16 : zV C' 16 r 2 = zV C 16 r 2) (h17 : ∀ j, zV C' 17 r j = zV C 17 r j) : zel C' r = zel C r := by
  unfold zel
  rw [h16]
  exact List.map_congr_left fun j _ => h17 j
theorem iE_c {n n' : Nat} {C D C' D' : zMem} (h : iE n C D) (hn : n ≤ n') (hc : ∀ κ i j : Nat, (κ = 16 ∨ κ = 17) ∨ (19 ≤ κ ∧ κ ≤ 25) → zV C' κ i j = zV C κ i j) (hu : zV D' 26 0 21 = zV D 26 0 21) (hd : ∀ κ j : Nat, 49 ≤ κ → κ ≤ 62 → zV D' κ 0 j = zV D κ 0 j) : iE n' C' D' := by
  obtain ⟨a, ⟨b1, b2, b3⟩, c, d⟩ := h
  refine ⟨by rw [hu]; omega, ⟨fun r hr => zwr_congr (hc _ _ _ (by omega)) (fun j => hc _ _ _ (by omega)) (b1 r hr), fun q hq => ?_, fun q hq => zwe_congr (b3 q hq) (hc _ _ _ (by omega)) (fun j => hc _ _ _ (by omega))⟩, iW_c c (fun κ j _ => hd κ j (by omega) (by omega)), fun r hr => ?_⟩
  · rw [hc 20 q 0 (by omega), hc 20 q 1 (by omega)]; exact b2 q hq
  · obtain ⟨Z, z1, z2⟩ := d r hr
    refine ⟨Z, ?_, iY_c (fun p hp => ?_) z2 (fun p hp κ j h1 h2 => hc κ p.1 j (by omega)) (by rw [hu]; omega) (fun κ s _ _ h1 h2 => hd κ s h1 (by omega)) (fun κ s j _ _ _ h1 h2 => hd κ _ (by omega) h2)⟩
    · rw [z1]
      exact (zel_c (hc _ _ _ (by omega)) (fun j => hc _ _ _ (by omega))).symm
    · have h1 := i_el3 (b1 r hr) z1 hp
      exact (b3 p.1 (by omega)).1.2
/-! all of it -/
def iN (n : Nat) (C D : zMem) : Prop := iA C D ∧ iB C D ∧ iC n C D ∧ iD C D ∧ iE n C D
theorem iN_WC {n : Nat} {C D : zMem} (h : iN n C D) (hn : n ≤ 512) : zWC C := by
  obtain ⟨⟨a1, a2, a3, a4⟩, ⟨⟨b1, b2⟩, b3, b4, b5⟩, ⟨c1, c2, c3, c4⟩, ⟨d1, d2⟩, ⟨e1, ⟨e2, e3, e4⟩, e5, e6⟩⟩ := h
  exact ⟨⟨a1, fun i hi => (a3 i hi).1.1.1⟩, ⟨b1, fun i hi => (b3 i hi).1, fun i hi => (b3 i hi).2.1⟩, e3, e2, fun i hi => ⟨(a3 i hi).2.2.2.1.1, fun j hj => ((a3 i hi).2.2.2.2.1 j hj).1.1⟩, e4, ⟨c3, by omega⟩, fun i hi => (a3 i hi).2.1.1, fun t ht => (b5 t ht).1, d1⟩
theorem iN_WM {n : Nat} {C D : zMem} (h : iN n C D) (hn : n ≤ 512) : zWM D := by
  obtain ⟨⟨a1, a2, a3, a4⟩, ⟨⟨b1, b2⟩, b3, b4, b5⟩, ⟨c1, c2, c3, c4⟩, ⟨d1, d2⟩, ⟨e1, ⟨e2, e3, e4⟩, ⟨f1, f2, f3, f4, f5⟩, e6⟩⟩ := h
  refine ⟨by rw [a2]; exact a1, fun i hi => ?_, fun i hi => ?_, by rw [b2]; exact b1, fun i hi => ?_, fun i hi => ?_, f1, f2, f3, f4, fun k hk => ?_, by rw [c2]; omega, by omega, f5⟩
  · rw [(a3 i hi).1.2.1, (a3 i hi).1.2.2]; exact (a3 i hi).1.1.1
  · rw [(a3 i hi).2.2.2.1.2]; exact (a3 i hi).2.2.2.1.1
  · rw [(b3 i hi).2.2.1, (b3 i hi).2.2.2.1]; exact (b3 i hi).1
  · rw [(b3 i hi).2.2.2.2]; exact (b3 i hi).2.1
  · have h1 := (a3 (k / 4) (by omega)).2.2.2.2.1 (k % 4) (Nat.mod_lt _ (by decide))
    have h2 := h1.2.1
    rw [show 4 * (k / 4) + k % 4 = k by omega] at h2
    rw [h2]
    exact h1.1.1
/-- the same cells on both sides -/
theorem iN_c {n n' : Nat} {C D C' D' : zMem} (h : iN n C D) (hn : n ≤ n') (hc : ∀ κ i j : Nat, κ < 26 → C' κ i j = C κ i j) (hd : ∀ κ i j : Nat, 26 ≤ κ → κ ≠ 27 → ¬ (κ = 26 ∧ j = 0) → D' κ i j = D κ i j) : iN n' C' D' := by
  obtain ⟨a, b, c, d, e⟩ := h
  exact ⟨iA_c a (fun κ i j h1 h2 => zV_of (hc κ i j (by omega))) (zV_of (hd _ _ _ (by omega) (by omega) (by omega))) (fun κ j h1 h2 => zV_of (hd _ _ _ (by omega) (by omega) (by omega))),
    iB_c b (fun κ i j h1 h2 => zV_of (hc κ i j (by omega))) (zV_of (hd _ _ _ (by omega) (by omega) (by omega))) (fun κ j h1 h2 => zV_of (hd _ _ _ (by omega) (by omega) (by omega))),
    iC_c c hn (fun j => zV_of (hc _ _ _ (by omega))) (fun j h1 => zV_of (hd _ _ _ (by omega) (by omega) (by omega))),
    iD_c d (fun r q => zV_of (hc _ _ _ (by omega))) (fun j => zV_of (hd _ _ _ (by omega) (by omega) (by omega))),
    iE_c e hn (fun κ i j h1 => zV_of (hc _ _ _ (by omega))) (zV_of (hd _ _ _ (by omega) (by omega) (by omega))) (fun κ j h1 h2 => zV_of (hd _ _ _ (by omega) (by omega) (by omega)))⟩
theorem iN_thr {n n' : Nat} {C D D' : zMem} {k : Int} (h : iN n C D) (hn : n ≤ n') (ht : zthr D D' k) : iN n' C D' :=
  iN_c h hn (fun _ _ _ _ => rfl) (fun κ i j _ _ h3 => ht.2 κ i j (fun z => h3 ⟨z.1, z.2.2⟩))
