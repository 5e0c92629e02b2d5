/-! what stays where cells stay -/
theorem iB_c {C D C' D' : zMem} (h : iB C D) (hc : ∀ κ i j : Nat, κ = 9 ∧ j = 4 ∨ κ = 13 ∨ κ = 14 → zV C' κ i j = zV C κ i j) (hn : zV D' 36 0 4 = zV D 36 0 4) (hd : ∀ j : Nat, zV D' 29 0 j = zV D 29 0 j) : iB C' D' := by
  obtain ⟨⟨a, b⟩, c, d, e⟩ := h
  have e1 := hc 9 0 4 (by omega)
  refine ⟨⟨by rw [e1]; exact a, by rw [e1, hn]; exact b⟩, fun i hi => ?_, fun i hi => ?_, fun i i' h1 h2 h5 h6 => ?_⟩
  · rw [hc 14 i 0 (by omega), hc 14 i 1 (by omega), hc 13 0 i (by omega)]
    exact c i hi
  · rw [e1] at hi
    rw [hc 14 i 0 (by omega), hc 14 i 1 (by omega), hc 13 0 i (by omega), hd]
    exact d i hi
  · rw [e1] at h1 h2
    rw [hc 14 i 0 (by omega), hc 14 i' 0 (by omega)] at h5
    rw [hc 14 i 1 (by omega), hc 14 i' 1 (by omega)] at h6
    exact e i i' h1 h2 h5 h6
theorem iS_c {n n' : Nat} {C D C' D' : zMem} (h : iS n C D) (hn : n ≤ n') (hc : ∀ κ j : Nat, κ = 10 ∨ κ = 11 → zV C' κ 0 j = zV C κ 0 j) (hd : ∀ j : Nat, j = 5 ∨ 8 ≤ j → zV D' 36 0 j = zV D 36 0 j) : iS n' C' D' := by
  obtain ⟨a, b⟩ := h
  refine ⟨by rw [hd 5 (by omega)]; exact a, fun t ht => ?_⟩
  obtain ⟨b1, b2, b3, b4, b5⟩ := b t ht
  rw [hc 10 t (by omega), hc 11 t (by omega), hd 5 (by omega), hd (8 + t) (by omega)]
  exact ⟨b1, b2, b3, b4, by omega⟩
theorem iC_c {n n' : Nat} {C D C' D' : zMem} (h : iC n C D) (hn : n ≤ n') (hc : ∀ j : Nat, zV C' 0 0 j = zV C 0 0 j) (hd : ∀ j : Nat, j ≤ 2 ∨ j = 6 → zV D' 36 0 j = zV D 36 0 j) : iC n' C' D' := by
  obtain ⟨⟨a1, a2, a3⟩, b, c, d, e⟩ := h
  unfold iC
  rw [hc, hc, hc, hc, hd 0 (by omega), hd 1 (by omega), hd 2 (by omega), hd 6 (by omega)]
  exact ⟨⟨a1, a2, a3⟩, b, by omega, d, by omega⟩
theorem iD_c {C D C' D' : zMem} (h : iD C D) (hc : ∀ r a : Nat, zV C' 18 r a = zV C 18 r a) (hd : ∀ r : Nat, r < 2 → zV D' 35 0 r = zV D 35 0 r) : iD C' D' :=
  ⟨fun r a => by rw [hc]; exact h.1 r a, fun r hr => by rw [hd r hr]; exact ⟨(h.2 r hr).1, fun a ha => by rw [hc]; exact (h.2 r hr).2 a ha⟩⟩
theorem iW_c {n n' : Nat} {D D' : zMem} (h : iW n D) (hn : n ≤ n') (hd : ∀ κ j : Nat, κ = 30 ∨ κ = 34 → zV D' κ 0 j = zV D κ 0 j) : iW n' D' :=
  ⟨fun s hs => by rw [hd 30 s (by omega)]; exact h.1 s hs, fun k hk => by rw [hd 34 k (by omega)]; have := h.2 k hk; omega⟩
theorem iEn_c {n n' : Nat} {C D C' D' : zMem} {q s : Nat} (hn : n ≤ n') (h4 : zV C 21 q 3 ≤ 4) (h : iEn n C D q s) (hc : ∀ κ j : Nat, 19 ≤ κ → κ ≤ 25 → zV C' κ q j = zV C κ q j) (hd : ∀ κ : Nat, 30 ≤ κ → κ ≤ 32 → zV D' κ 0 s = zV D κ 0 s) (hd2 : ∀ j : Nat, j < 4 → zV D' 34 0 (4 * s + j) = zV D 34 0 (4 * s + j)) : iEn n' C' D' q s := by
  obtain ⟨a1, a2, a3, a4, a5, a6, a7, a8⟩ := h
  unfold iEn
  rw [hd 30 (by omega) (by omega), hd 31 (by omega) (by omega), hd 32 (by omega) (by omega), hc 20 0 (by omega) (by omega), hc 20 1 (by omega) (by omega), hc 19 3 (by omega) (by omega), hc 19 4 (by omega) (by omega), hc 19 5 (by omega) (by omega), hc 19 6 (by omega) (by omega), hc 21 3 (by omega) (by omega)]
  refine ⟨a1, a2, a3, ⟨a4.1, a4.2.1, by have := a4.2.2; omega⟩, a5.imp (fun z => z) (fun z => ⟨z.1, z.2.1, by have := z.2.2; omega⟩), fun j hj => ?_, fun j hj => ?_, fun j j' hj hj' e => ?_⟩
  · rw [hd2 j hj, hc 22 j (by omega) (by omega), hc 23 j (by omega) (by omega), hc 24 j (by omega) (by omega), hc 25 j (by omega) (by omega)]
    exact a6 j hj
  · rw [hc 23 j (by omega) (by omega), hc 24 j (by omega) (by omega), hc 25 j (by omega) (by omega)]
    exact a7 j hj
  · rw [hc 22 j (by omega) (by omega), hc 22 j' (by omega) (by omega)] at e
    exact a8 j j' hj hj' e
theorem iY_c {n n' : Nat} {C D C' D' : zMem} {r : Nat} {Z : List (Nat × Nat)} (hn : n ≤ n') (h4 : ∀ p ∈ Z, zV C 21 p.1 3 ≤ 4) (h : iY n C D r Z) (hc : ∀ p ∈ Z, ∀ κ j : Nat, 19 ≤ κ → κ ≤ 25 → zV C' κ p.1 j = zV C κ p.1 j) (hu : zV D 36 0 7 ≤ zV D' 36 0 7) (hd : ∀ κ s : Nat, 8 * r ≤ s → s < 8 * r + 8 → 30 ≤ κ → κ ≤ 33 → zV D' κ 0 s = zV D κ 0 s) (hd2 : ∀ s j : Nat, 8 * r ≤ s → s < 8 * r + 8 → j < 4 → zV D' 34 0 (4 * s + j) = zV D 34 0 (4 * s + j)) : iY n' C' D' r Z := by
  obtain ⟨h1, h2, h3⟩ := h
  refine ⟨?_, fun p hp => ?_, fun s h5 h6 h7 => ?_⟩
  · refine List.Pairwise.imp_of_mem ?_ h1
    intro p p' hp hp' hh
    have b := (h2 p hp).1
    have b' := (h2 p' hp').1
    rw [hd 33 p.2 b.1 b.2 (by omega) (by omega), hd 33 p'.2 b'.1 b'.2 (by omega) (by omega), hc p hp 20 0 (by omega) (by omega), hc p hp 20 1 (by omega) (by omega), hc p' hp' 20 0 (by omega) (by omega), hc p' hp' 20 1 (by omega) (by omega)]
    exact hh
  · obtain ⟨b, b2, b3, b4⟩ := h2 p hp
    refine ⟨b, ?_, ?_, iEn_c hn (h4 p hp) b4 (hc p hp) (fun κ k1 k2 => hd κ p.2 b.1 b.2 (by omega) (by omega)) (fun j hj => hd2 p.2 j b.1 b.2 hj)⟩
    · rw [hd 30 p.2 b.1 b.2 (by omega) (by omega)]; exact b2
    · rw [hd 33 p.2 b.1 b.2 (by omega) (by omega)]; omega
  · rw [hd 30 s h5 h6 (by omega) (by omega)] at h7
    exact h3 s h5 h6 h7
/-! what a list of pairs says of a router's numbers -/
theorem i_el {C : zMem} {r : Nat} {Z : List (Nat × Nat)} (h : Z.map (fun p => (p.1 : Int)) = zel C r) : Z.length = (zV C 16 r 2).toNat := by
  rw [← zel_len, ← h, List.length_map]
theorem i_el2 {C : zMem} {r : Nat} {Z : List (Nat × Nat)} (h : Z.map (fun p => (p.1 : Int)) = zel C r) {j : Nat} {p : Nat × Nat} (hp : Z[j]? = some p) : j < (zV C 16 r 2).toNat ∧ zV C 17 r j = (p.1 : Int) ∧ zq C r j = p.1 := by
  have h1 : (zel C r)[j]? = some (p.1 : Int) := by rw [← h, List.getElem?_map, hp]; rfl
  rw [zel_get] at h1
  split at h1
  · rename_i hj
    have h2 := Option.some.inj h1
    exact ⟨hj, h2, by unfold zq; rw [h2]; omega⟩
  · cases h1
theorem i_el3 {C : zMem} {r : Nat} {Z : List (Nat × Nat)} (hw : zwr C r) (h : Z.map (fun p => (p.1 : Int)) = zel C r) {p : Nat × Nat} (hp : p ∈ Z) : 8 * r ≤ p.1 ∧ p.1 < 8 * r + 8 := by
  obtain ⟨j, hj⟩ := List.getElem?_of_mem hp
  obtain ⟨h1, h2, -⟩ := i_el2 h hj
  have h3 := hw.1
  have h4 := hw.2.1 j (by omega)
  omega
theorem i_el4 {C : zMem} {r : Nat} {Z : List (Nat × Nat)} (hw : zwr C r) (h : Z.map (fun p => (p.1 : Int)) = zel C r) {i j : Nat} {p p' : Nat × Nat} (hp : Z[i]? = some p) (hp' : Z[j]? = some p') (e : p.1 = p'.1) : i = j := by
  obtain ⟨h1, h2, -⟩ := i_el2 h hp
  obtain ⟨h3, h4, -⟩ := i_el2 h hp'
  have h5 := hw.1
  exact hw.2.2 i j (by omega) (by omega) (by rw [h2, h4, e])
theorem zel_c {C C' : zMem} {r : Nat} (h16 : zV C' 16 r 2 = zV C 16 r 2) (h17 : ∀ j, zV C' 17 r j = zV C 17 r j) : zel C' r = zel C r := by
  unfold zel
  rw [h16]
  exact List.map_congr_left fun j _ => h17 j
theorem iE_c {n n' : Nat} {C D C' D' : zMem} (h : iE n C D) (hn : n ≤ n') (hc : ∀ κ i j : Nat, (κ = 16 ∨ κ = 17) ∨ (19 ≤ κ ∧ κ ≤ 25) → zV C' κ i j = zV C κ i j) (hu : zV D' 36 0 7 = zV D 36 0 7) (hd : ∀ κ j : Nat, 30 ≤ κ → κ ≤ 34 → zV D' κ 0 j = zV D κ 0 j) : iE n' C' D' := by
  obtain ⟨a, ⟨b1, b2, b3⟩, c1, c, d⟩ := h
  refine ⟨by rw [hu]; omega, ⟨fun r hr => zwr_congr (hc _ _ _ (by omega)) (fun j => hc _ _ _ (by omega)) (b1 r hr), fun q hq => ?_, fun q hq => zwe_congr (b3 q hq) (hc _ _ _ (by omega)) (fun j => hc _ _ _ (by omega))⟩, by rw [hc 16 1 2 (by omega)]; exact c1, iW_c c hn (fun κ j _ => hd κ j (by omega) (by omega)), fun r hr => ?_⟩
  · rw [hc 20 q 0 (by omega), hc 20 q 1 (by omega)]; exact b2 q hq
  · obtain ⟨Z, z1, z2⟩ := d r hr
    refine ⟨Z, ?_, iY_c hn (fun p hp => ?_) z2 (fun p hp κ j h1 h2 => hc κ p.1 j (by omega)) (by rw [hu]; omega) (fun κ s _ _ h1 h2 => hd κ s h1 (by omega)) (fun s j _ _ _ => hd 34 _ (by omega) (by omega))⟩
    · rw [z1]
      exact (zel_c (hc _ _ _ (by omega)) (fun j => hc _ _ _ (by omega))).symm
    · have h1 := i_el3 (b1 (2 * r) (by omega)) z1 hp
      exact (b3 p.1 (by omega)).1.2
/-- the same cells on both sides -/
theorem iN_c {n n' : Nat} {C D C' D' : zMem} (h : iN n C D) (hn : n ≤ n') (hc : i_rf C C') (hd : i_cf D D') : iN n' C' D' := by
  obtain ⟨a, b, s, c, d, e⟩ := h
  exact ⟨iA_c a hn (fun κ i j h1 h2 => zV_of (hc κ i j (by omega))) (zV_of (hd _ _ _ (by omega))) (fun κ j h1 h2 => zV_of (hd _ _ _ (by omega))),
    iB_c b (fun κ i j h1 => zV_of (hc κ i j (by omega))) (zV_of (hd _ _ _ (by omega))) (fun j => zV_of (hd _ _ _ (by omega))),
    iS_c s hn (fun κ j h1 => zV_of (hc κ 0 j (by omega))) (fun j h1 => zV_of (hd _ _ _ (by omega))),
    iC_c c hn (fun j => zV_of (hc _ _ _ (by omega))) (fun j h1 => zV_of (hd _ _ _ (by omega))),
    iD_c d (fun r q => zV_of (hc _ _ _ (by omega))) (fun r hr => zV_of (hd _ _ _ (by omega))),
    iE_c e hn (fun κ i j h1 => zV_of (hc _ _ _ (by omega))) (zV_of (hd _ _ _ (by omega))) (fun κ j h1 h2 => zV_of (hd _ _ _ (by omega)))⟩
theorem iN_up {n n' : Nat} {C D : zMem} (h : iN n C D) (hn : n ≤ n') : iN n' C D := iN_c h hn (i_rf.r C) (i_cf.r D)
/-! sums -/
theorem i_sa (f g : Nat → Int) (n : Nat) : zsm (fun k => f k + g k) n = zsm f n + zsm g n := by
  induction n with
  | zero => rfl
  | succ n ih =>
    show zsm (fun k => f k + g k) n + (f n + g n) = zsm f n + f n + (zsm g n + g n)
    rw [ih]
    omega
theorem i_s0 (n : Nat) : zsm (fun _ => 0) n = 0 := by
  induction n with
  | zero => rfl
  | succ n ih =>
    show zsm (fun _ => 0) n + 0 = 0
    rw [ih]
    rfl
theorem i_s1 (x : Int) (k n : Nat) : zsm (fun j => if j = k then x else 0) n = if k < n then x else 0 := by
  induction n with
  | zero => rw [if_neg (by omega)]; rfl
  | succ n ih =>
    show zsm (fun j => if j = k then x else 0) n + (if n = k then x else 0) = _
    rw [ih]
    by_cases q : n = k
    · rw [if_pos q, if_neg (by omega), if_pos (by omega)]
      omega
    · rw [if_neg q]
      by_cases q2 : k < n
      · rw [if_pos q2, if_pos (by omega)]
        omega
      · rw [if_neg q2, if_neg (by omega)]
        rfl
theorem i_sf (f : Nat → Int) (n : Nat) : zsm f (n + 1) = f 0 + zsm (fun j => f (j + 1)) n := by
  induction n with
  | zero =>
    show (0 : Int) + f 0 = f 0 + 0
    omega
  | succ n ih =>
    show zsm f (n + 1) + f (n + 1) = f 0 + (zsm (fun j => f (j + 1)) n + f (n + 1))
    rw [ih]
    omega
theorem i_sd (f : Nat → Int) (a b : Nat) : zsm f (a + b) = zsm f a + zsm (fun j => f (a + j)) b := by
  induction b with
  | zero =>
    show zsm f a = zsm f a + 0
    omega
  | succ b ih =>
    show zsm f (a + b) + f (a + b) = zsm f a + (zsm (fun j => f (a + j)) b + f (a + b))
    rw [ih]
    omega
theorem i_s16 (f : Nat → Int) : zsm f 16 = zsm (fun j => f (8 * 0 + j)) 8 + zsm (fun j => f (8 * 1 + j)) 8 := by
  have e2 : zsm f 16 = zsm f 8 + zsm (fun j => f (8 + j)) 8 := i_sd f 8 8
  have e3 : zsm (fun j => f (8 * 0 + j)) 8 = zsm f 8 := zsm_ext fun k _ => congrArg f (by omega)
  have e4 : zsm (fun j => f (8 * 1 + j)) 8 = zsm (fun j => f (8 + j)) 8 := zsm_ext fun k _ => congrArg f (by omega)
  rw [e2, e3, e4]
/-! how many of a list -/
noncomputable def i_ls (Q : Nat × Nat → Prop) : List (Nat × Nat) → Int
  | [] => 0
  | p :: Z => zind (Q p) + i_ls Q Z
theorem i_ls_all {Q : Nat × Nat → Prop} {Z : List (Nat × Nat)} (h : ∀ p ∈ Z, Q p) : i_ls Q Z = (Z.length : Int) := by
  induction Z with
  | nil => rfl
  | cons p Z ih =>
    show zind (Q p) + i_ls Q Z = _
    rw [zind_t (h p (List.mem_cons.mpr (Or.inl rfl))), ih (fun q hq => h q (List.mem_cons_of_mem _ hq)), List.length_cons]
    omega
theorem i_ls_no {Q : Nat × Nat → Prop} {Z : List (Nat × Nat)} (h : ∀ p ∈ Z, ¬ Q p) : i_ls Q Z = 0 := by
  induction Z with
  | nil => rfl
  | cons p Z ih =>
    show zind (Q p) + i_ls Q Z = _
    rw [zind_f (h p (List.mem_cons.mpr (Or.inl rfl))), ih (fun q hq => h q (List.mem_cons_of_mem _ hq))]
    rfl
theorem i_ls_ext {Q Q' : Nat × Nat → Prop} {Z : List (Nat × Nat)} (h : ∀ p ∈ Z, (Q p ↔ Q' p)) : i_ls Q Z = i_ls Q' Z := by
  induction Z with
  | nil => rfl
  | cons p Z ih =>
    show zind (Q p) + i_ls Q Z = zind (Q' p) + i_ls Q' Z
    rw [zind_iff (h p (List.mem_cons.mpr (Or.inl rfl))), ih (fun q hq => h q (List.mem_cons_of_mem _ hq))]
theorem i_cnt {Q : Nat × Nat → Prop} {r : Nat} : ∀ (Z : List (Nat × Nat)) (f : Nat → Int), Z.Pairwise (fun p p' => p.2 ≠ p'.2) → (∀ p ∈ Z, 8 * r ≤ p.2 ∧ p.2 < 8 * r + 8) → (∀ j, j < 8 → f j = zind (∃ p ∈ Z, p.2 = 8 * r + j ∧ Q p)) → zsm f 8 = i_ls Q Z := by
  intro Z
  induction Z with
  | nil =>
    intro f _ _ h
    have e : zsm f 8 = zsm (fun _ => 0) 8 := zsm_ext fun j hj => by
      rw [h j hj]
      exact zind_f (fun ⟨p, hp, _⟩ => by cases hp)
    exact e.trans (i_s0 8)
  | cons p Z ih =>
    intro f hd hr h
    rw [List.pairwise_cons] at hd
    obtain ⟨hd1, hd2⟩ := hd
    have hp := hr p (List.mem_cons.mpr (Or.inl rfl))
    have h1 := ih (fun j => zind (∃ p ∈ Z, p.2 = 8 * r + j ∧ Q p)) hd2 (fun q hq => hr q (List.mem_cons_of_mem _ hq)) (fun _ _ => rfl)
    have h2 : zsm f 8 = zsm (fun j => (if j = p.2 - 8 * r then zind (Q p) else 0) + zind (∃ p ∈ Z, p.2 = 8 * r + j ∧ Q p)) 8 := by
      refine zsm_ext fun j hj => ?_
      rw [h j hj]
      by_cases q : j = p.2 - 8 * r
      · rw [if_pos q, zind_f (p := ∃ p ∈ Z, p.2 = 8 * r + j ∧ Q p) (fun ⟨p', m1, m2, _⟩ => hd1 p' m1 (by omega)), Int.add_zero]
        refine zind_iff ⟨fun ⟨p', m1, m2, m3⟩ => ?_, fun z => ⟨p, List.mem_cons.mpr (Or.inl rfl), by omega, z⟩⟩
        rcases List.mem_cons.mp m1 with e | m
        · rw [← e]; exact m3
        · exact absurd (show p.2 = p'.2 by omega) (hd1 p' m)
      · rw [if_neg q, Int.zero_add]
        refine zind_iff ⟨fun ⟨p', m1, m2, m3⟩ => ?_, fun ⟨p', m1, m2⟩ => ⟨p', List.mem_cons_of_mem _ m1, m2⟩⟩
        rcases List.mem_cons.mp m1 with e | m
        · rw [e] at m2
          omega
        · exact ⟨p', m, m2, m3⟩
    have h3 := i_sa (fun j => if j = p.2 - 8 * r then zind (Q p) else 0) (fun j => zind (∃ p ∈ Z, p.2 = 8 * r + j ∧ Q p)) 8
    have h4 := i_s1 (zind (Q p)) (p.2 - 8 * r) 8
    rw [if_pos (by omega)] at h4
    show _ = zind (Q p) + i_ls Q Z
    rw [h2, h3, h4, h1]
theorem i_ix {u : Nat → Int} : ∀ (Z : List (Nat × Nat)) (n : Nat) (p : Nat × Nat), Z.Pairwise (fun p p' => u p.2 < u p'.2) → Z[n]? = some p → i_ls (fun p' => u p'.2 < u p.2) Z = (n : Int) := by
  intro Z
  induction Z with
  | nil => intro n p _ h; simp at h
  | cons q Z ih =>
    intro n p hd h
    rw [List.pairwise_cons] at hd
    show zind (u q.2 < u p.2) + i_ls (fun p' => u p'.2 < u p.2) Z = _
    cases n with
    | zero =>
      have e : q = p := by simpa using h
      rw [← e]
      have h1 : i_ls (fun p' => u p'.2 < u q.2) Z = 0 := i_ls_no fun p' hp' => by
        have h2 : u q.2 < u p'.2 := hd.1 p' hp'
        show ¬ u p'.2 < u q.2
        omega
      rw [h1, zind_f (by omega)]
      rfl
    | succ n =>
      have h' : Z[n]? = some p := by simpa using h
      have h2 : u q.2 < u p.2 := hd.1 p (List.mem_of_getElem? h')
      rw [zind_t h2, ih n p hd.2 h']
      omega
/-- a sum by number over a list -/
theorem i_lz {T : Nat → Prop} : ∀ (Z : List (Nat × Nat)) (g : Nat → Nat), (∀ (j : Nat) (p : Nat × Nat), Z[j]? = some p → g j = p.1) → zsm (fun j => zind (T (g j))) Z.length = i_ls (fun p => T p.1) Z := by
  intro Z
  induction Z with
  | nil => intro g _; rfl
  | cons q Z ih =>
    intro g h
    have h0 := h 0 q (by simp)
    rw [List.length_cons, i_sf, h0]
    show zind (T q.1) + zsm (fun j => zind (T (g (j + 1)))) Z.length = zind (T q.1) + i_ls (fun p => T p.1) Z
    rw [ih (fun j => g (j + 1)) (fun j p hj => h (j + 1) p (by simpa using hj))]
theorem i_split : ∀ (Z : List (Nat × Nat)) (j : Nat) (p : Nat × Nat), Z[j]? = some p → ∃ A B, Z = A ++ p :: B ∧ A.length = j ∧ Z.eraseIdx j = A ++ B := by
  intro Z
  induction Z with
  | nil => intro j p h; simp at h
  | cons q Z ih =>
    intro j p h
    cases j with
    | zero =>
      have e : q = p := by simpa using h
      exact ⟨[], Z, by rw [e]; rfl, rfl, rfl⟩
    | succ j =>
      obtain ⟨A, B, h1, h2, h3⟩ := ih j p (by simpa using h)
      exact ⟨q :: A, B, by rw [h1]; rfl, by rw [List.length_cons, h2], by rw [List.eraseIdx_cons_succ, h3]; rfl⟩
theorem i_pw {R : Nat × Nat → Nat × Nat → Prop} {Z : List (Nat × Nat)} (h : Z.Pairwise R) {i j : Nat} {p q : Nat × Nat} (hp : Z[i]? = some p) (hq : Z[j]? = some q) (hij : i < j) : R p q := by
  obtain ⟨A, B, h1, h2, -⟩ := i_split Z i p hp
  rw [h1] at h hq
  rw [List.pairwise_append, List.pairwise_cons] at h
  refine h.2.1.1 q ?_
  rw [List.getElem?_append_right (by omega)] at hq
  obtain ⟨t, ht⟩ : ∃ t, j - A.length = t + 1 := ⟨j - A.length - 1, by omega⟩
  rw [ht, List.getElem?_cons_succ] at hq
  exact List.mem_of_getElem? hq
