/-- a router's entries: 8 numbers of its own, apart; those ahead of the count are in use -/
def zwr (M : zMem) (r : Nat) : Prop := (0 ≤ zV M 16 r 2 ∧ zV M 16 r 2 ≤ 8) ∧ (∀ j : Nat, j < 8 → 8 * (r : Int) ≤ zV M 17 r j ∧ zV M 17 r j < 8 * (r : Int) + 8) ∧ ∀ j j' : Nat, j < 8 → j' < 8 → zV M 17 r j = zV M 17 r j' → j = j'
def zel (M : zMem) (r : Nat) : List Int := (List.range (zV M 16 r 2).toNat).map (fun j => zV M 17 r j)
theorem zel_len (M : zMem) (r : Nat) : (zel M r).length = (zV M 16 r 2).toNat := by unfold zel; simp
theorem zel_get (M : zMem) (r j : Nat) : (zel M r)[j]? = if j < (zV M 16 r 2).toNat then some (zV M 17 r j) else none := by
  unfold zel
  rw [List.getElem?_map]
  by_cases h : j < (zV M 16 r 2).toNat
  · rw [if_pos h, List.getElem?_range h]; rfl
  · rw [if_neg h, List.getElem?_eq_none (by simp; omega)]; rfl
def zsg (pl k : Int) (j : Nat) : Nat := if pl ≤ j ∧ (j : Int) < k then j + 1 else if (j : Int) = k then pl.toNat else j
def zrot (M M1 : zMem) (r : Nat) (pl k : Int) : Prop := (∀ j : Nat, zV M1 17 r j = zV M 17 r (zsg pl k j)) ∧ ∀ κ' i' j' : Nat, ¬ (κ' = 17 ∧ i' = r) → M1 κ' i' j' = M κ' i' j'
theorem zrot_0 (M : zMem) (r : Nat) {pl : Int} (h : 0 ≤ pl) : zrot M M r pl pl := by
  refine ⟨fun j => ?_, fun _ _ _ _ => rfl⟩
  unfold zsg
  rw [if_neg (by omega)]
  split
  · rw [show pl.toNat = j by omega]
  · rfl
theorem zrot_1 {M M1 : zMem} {r : Nat} {pl k : Int} (h0 : 0 ≤ pl) (hk : pl ≤ k) (h : zrot M M1 r pl k) {a b : Nat} (ha : a = (zV M1 17 r (k + 1).toNat).toNat) (hb : b = (zV M 17 r pl.toNat).toNat) (ra : 0 ≤ zV M1 17 r (k + 1).toNat) (rb : 0 ≤ zV M 17 r pl.toNat) : zrot M (zup (zup M1 17 r k.toNat (zI ((a : Nat) : Int))) 17 r (k + 1).toNat (zI ((b : Nat) : Int))) r pl (k + 1) := by
  have va := (zV_rg M1 17 r (k + 1).toNat)
  have vb := (zV_rg M 17 r pl.toNat)
  refine ⟨fun j => ?_, fun κ' i' j' h9 => ?_⟩
  · by_cases e1 : j = (k + 1).toNat
    · subst e1
      rw [zV_eq (by omega), hb]
      unfold zsg
      rw [if_neg (by omega), if_pos (by omega)]
      omega
    · rw [zV_nj e1]
      by_cases e2 : j = k.toNat
      · subst e2
        rw [zV_eq (by omega), ha, h.1]
        rw [h.1] at ra
        have f1 : zsg pl k (k + 1).toNat = (k + 1).toNat := by unfold zsg; rw [if_neg (by omega), if_neg (by omega)]
        have f2 : zsg pl (k + 1) k.toNat = (k + 1).toNat := by unfold zsg; rw [if_pos (by omega)]; omega
        rw [f1] at ra ⊢
        rw [f2]
        omega
      · rw [zV_nj e2, h.1]
        congr 1
        unfold zsg
        by_cases q : pl ≤ j ∧ (j : Int) < k
        · rw [if_pos q, if_pos (by omega)]
        · rw [if_neg q, if_neg (by omega), if_neg (by omega), if_neg (by omega)]
  · rw [zup_at (fun z => h9 ⟨z.1, z.2.1⟩), zup_at (fun z => h9 ⟨z.1, z.2.1⟩)]
    exact h.2 κ' i' j' h9
theorem zrot_wr {M M1 : zMem} {r : Nat} {pl k : Int} (h0 : 0 ≤ pl) (hk : pl ≤ k) (hk8 : k < 8) (h : zrot M M1 r pl k) (hw : zwr M r) : zwr M1 r := by
  obtain ⟨w1, w2, w3⟩ := hw
  have e : zV M1 16 r 2 = zV M 16 r 2 := zV_of (h.2 16 r 2 (by omega))
  have g : ∀ j, j < 8 → zsg pl k j < 8 := fun j hj => by unfold zsg; split; omega; split <;> omega
  refine ⟨by rw [e]; exact w1, fun j hj => by rw [h.1]; exact w2 _ (g j hj), fun j j' hj hj' q => ?_⟩
  rw [h.1, h.1] at q
  have q2 := w3 _ _ (g j hj) (g j' hj') q
  unfold zsg at q2
  split at q2 <;> split at q2 <;> first | omega | (split at q2 <;> first | omega | (split at q2 <;> omega))
theorem zrot_el {M M1 : zMem} {r : Nat} {pl : Int} (h0 : 0 ≤ pl) (hp : pl < zV M 16 r 2) (h : zrot M M1 r pl (zV M 16 r 2 - 1)) : zel M1 r = (zel M r).eraseIdx pl.toNat ++ [zV M 17 r pl.toNat] := by
  have e : zV M1 16 r 2 = zV M 16 r 2 := zV_of (h.2 16 r 2 (by omega))
  have hl : ((zel M r).eraseIdx pl.toNat).length = (zV M 16 r 2).toNat - 1 := by rw [List.length_eraseIdx, zel_len, if_pos (by omega)]
  apply List.ext_getElem?
  intro j
  rw [zel_get, e, List.getElem?_append, hl, List.getElem?_eraseIdx]
  by_cases q : j < (zV M 16 r 2).toNat - 1
  · rw [if_pos (by omega), if_pos q, h.1]
    by_cases q2 : j < pl.toNat
    · rw [if_pos q2, zel_get, if_pos (by omega)]
      unfold zsg
      rw [if_neg (by omega), if_neg (by omega)]
    · rw [if_neg q2, zel_get, if_pos (by omega)]
      unfold zsg
      rw [if_pos (by omega)]
  · rw [if_neg q]
    by_cases q2 : j < (zV M 16 r 2).toNat
    · rw [if_pos q2, h.1, show j - ((zV M 16 r 2).toNat - 1) = 0 by omega]
      unfold zsg
      rw [if_neg (by omega), if_pos (by omega)]
      rfl
    · rw [if_neg q2, List.getElem?_eq_none (by simp; omega)]
theorem zel_cut {M : zMem} {r : Nat} {n : Int} (h0 : 0 ≤ n) (h1 : n ≤ zV M 16 r 2) (hr : zrg n) : zel (zup M 16 r 2 (zI n)) r = (zel M r).take n.toNat := by
  apply List.ext_getElem?
  intro j
  rw [List.getElem?_take, zel_get, zel_get, zV_eq hr, zV_ne (by decide)]
  by_cases q : j < n.toNat
  · rw [if_pos q, if_pos q, if_pos (by omega)]
  · rw [if_neg q, if_neg q]
theorem zel_grow {M : zMem} {r : Nat} (h0 : 0 ≤ zV M 16 r 2) (hr : zrg (zV M 16 r 2 + 1)) : zel (zup M 16 r 2 (zI (zV M 16 r 2 + 1))) r = zel M r ++ [zV M 17 r (zV M 16 r 2).toNat] := by
  apply List.ext_getElem?
  intro j
  rw [zel_get, List.getElem?_append, zel_len, zel_get, zV_eq hr, zV_ne (by decide)]
  by_cases q : j < (zV M 16 r 2).toNat
  · rw [if_pos q, if_pos (by omega), if_pos q]
  · rw [if_neg q]
    by_cases q2 : j = (zV M 16 r 2).toNat
    · subst q2
      rw [if_pos (by omega), Nat.sub_self]
      rfl
    · rw [if_neg (by omega), List.getElem?_eq_none (by simp; omega)]
theorem zwr_cnt {M : zMem} {r : Nat} {n : Int} (hw : zwr M r) (h0 : 0 ≤ n ∧ n ≤ 8) : zwr (zup M 16 r 2 (zI n)) r := by
  refine ⟨by rw [zV_eq (by omega)]; exact h0, fun j hj => by rw [zV_ne (by decide)]; exact hw.2.1 j hj, fun j j' hj hj' q => ?_⟩
  rw [zV_ne (by decide), zV_ne (by decide)] at q
  exact hw.2.2 j j' hj hj' q
/-- what taking out an entry does -/
def zout (M M' : zMem) (r : Nat) (pl : Int) : Prop := zwr M' r ∧ zel M' r = (zel M r).eraseIdx pl.toNat ∧ ∀ κ' i' j' : Nat, ¬ (i' = r ∧ (κ' = 17 ∨ κ' = 16 ∧ j' = 2)) → M' κ' i' j' = M κ' i' j'
def zmte (M M' : zMem) (r : Nat) (pl : Int) : Prop := zwr M' r ∧ zel M' r = (zel M r).eraseIdx pl.toNat ++ [zV M 17 r pl.toNat] ∧ ∀ κ' i' j' : Nat, ¬ (κ' = 17 ∧ i' = r) → M' κ' i' j' = M κ' i' j'
theorem zout_of {M M1 M2 : zMem} {r : Nat} {pl : Int} (h0 : 0 ≤ pl) (hp : pl < zV M 16 r 2) (h : zmte M M1 r pl) (h2 : M2 = zup M1 16 r 2 (zI (zV M 16 r 2 - 1))) : zout M M2 r pl := by
  obtain ⟨w, g, f⟩ := h
  have e : zV M1 16 r 2 = zV M 16 r 2 := zV_of (f 16 r 2 (by omega))
  have w1 := w.1
  subst h2
  refine ⟨zwr_cnt w (by omega), ?_, fun κ' i' j' h9 => ?_⟩
  · rw [zel_cut (by omega) (by omega) (by omega), g]
    have hl : ((zel M r).eraseIdx pl.toNat).length = (zV M 16 r 2 - 1).toNat := by rw [List.length_eraseIdx, zel_len, if_pos (by omega)]; omega
    rw [← hl, List.take_left]
  · rw [zup_at (fun z => h9 ⟨z.2.1, by omega⟩)]
    exact f κ' i' j' (fun z => h9 ⟨z.2, by omega⟩)
/-- whether an entry stays when a prefix comes -/
noncomputable def zkeep (M : zMem) (v b : Int) (y : Int) : Bool := @decide (¬ zmeet (zV M 20 y.toNat 0) (zV M 20 y.toNat 1) v b) (Classical.propDecidable _)
theorem zkeep_t {M : zMem} {v b y : Int} (h : ¬ zmeet (zV M 20 y.toNat 0) (zV M 20 y.toNat 1) v b) : zkeep M v b y = true := by unfold zkeep; simp [h]
theorem zkeep_f {M : zMem} {v b y : Int} (h : zmeet (zV M 20 y.toNat 0) (zV M 20 y.toNat 1) v b) : ¬ zkeep M v b y = true := by unfold zkeep; simp [h]
def zfr (M M' : zMem) (r : Nat) : Prop := ∀ κ' i' j' : Nat, ¬ (i' = r ∧ (κ' = 17 ∨ κ' = 16 ∧ j' = 2)) → M' κ' i' j' = M κ' i' j'
noncomputable def zrmk (M M1 : zMem) (r : Nat) (v b i : Int) : Prop := zwr M1 r ∧ zel M1 r = (zel M r).take (i + 1).toNat ++ ((zel M r).drop (i + 1).toNat).filter (zkeep M v b) ∧ zfr M M1 r
theorem zrmk_0 {M : zMem} {r : Nat} (hw : zwr M r) (v b : Int) : zrmk M M r v b (zV M 16 r 2 - 1) := by
  refine ⟨hw, ?_, fun _ _ _ _ => rfl⟩
  have e : (zV M 16 r 2 - 1 + 1).toNat = (zel M r).length := by rw [zel_len]; congr 1; omega
  rw [e, List.take_length, List.drop_length]
  simp
theorem zrmk_at {M M1 : zMem} {r : Nat} {v b i : Int} (h : zrmk M M1 r v b i) (hi : 0 ≤ i) (hc : i < zV M 16 r 2) : zV M1 17 r i.toNat = zV M 17 r i.toNat ∧ i < zV M1 16 r 2 := by
  obtain ⟨w, g, f⟩ := h
  have hl : i.toNat < ((zel M r).take (i + 1).toNat).length := by rw [List.length_take, zel_len]; omega
  have h1 : (zel M1 r)[i.toNat]? = some (zV M 17 r i.toNat) := by
    rw [g, List.getElem?_append, if_pos hl, List.getElem?_take, if_pos (by omega), zel_get, if_pos (by omega)]
  rw [zel_get] at h1
  split at h1
  · exact ⟨Option.some.inj h1, by omega⟩
  · cases h1
theorem zrmk_cons {M : zMem} {r : Nat} {i : Int} (hi : 0 ≤ i) (hc : i < zV M 16 r 2) : (zel M r).drop i.toNat = zV M 17 r i.toNat :: (zel M r).drop (i + 1).toNat := by
  have hl : i.toNat < (zel M r).length := by rw [zel_len]; omega
  rw [List.drop_eq_getElem_cons hl, show (i + 1).toNat = i.toNat + 1 by omega]
  congr 1
  have h1 := zel_get M r i.toNat
  rw [if_pos (by omega), List.getElem?_eq_getElem hl] at h1
  exact Option.some.inj h1
theorem zrmk_keep {M M1 : zMem} {r : Nat} {v b i : Int} (h : zrmk M M1 r v b i) (hi : 0 ≤ i) (hc : i < zV M 16 r 2) (hm : ¬ zmeet (zV M 20 (zV M 17 r i.toNat).toNat 0) (zV M 20 (zV M 17 r i.toNat).toNat 1) v b) : zrmk M M1 r v b (i + (-1)) := by
  obtain ⟨w, g, f⟩ := h
  refine ⟨w, ?_, f⟩
  have hl : i.toNat < (zel M r).length := by rw [zel_len]; omega
  rw [show (i + (-1) + 1).toNat = i.toNat by omega, zrmk_cons hi hc, List.filter_cons_of_pos (zkeep_t hm), g, show (i + 1).toNat = i.toNat + 1 by omega, List.take_succ]
  have h1 := zel_get M r i.toNat
  rw [if_pos (by omega)] at h1
  rw [h1]
  simp
theorem zrmk_drop {M M1 M2 : zMem} {r : Nat} {v b i : Int} (h : zrmk M M1 r v b i) (hi : 0 ≤ i) (hc : i < zV M 16 r 2) (hm : zmeet (zV M 20 (zV M 17 r i.toNat).toNat 0) (zV M 20 (zV M 17 r i.toNat).toNat 1) v b) (h2 : zout M1 M2 r i) : zrmk M M2 r v b (i + (-1)) := by
  obtain ⟨w, g, f⟩ := h
  obtain ⟨w2, g2, f2⟩ := h2
  refine ⟨w2, ?_, fun κ' i' j' h9 => (f2 κ' i' j' h9).trans (f κ' i' j' h9)⟩
  have hl : i.toNat < (zel M r).length := by rw [zel_len]; omega
  have hl2 : i.toNat < ((zel M r).take (i + 1).toNat).length := by rw [List.length_take]; omega
  rw [show (i + (-1) + 1).toNat = i.toNat by omega, zrmk_cons hi hc, List.filter_cons_of_neg (zkeep_f hm), g2, g, List.eraseIdx_append_of_lt_length hl2]
  congr 1
  apply List.ext_getElem?
  intro j
  rw [List.getElem?_eraseIdx]
  by_cases q : j < i.toNat
  · rw [if_pos q, List.getElem?_take, List.getElem?_take, if_pos (by omega), if_pos q]
  · rw [if_neg q, List.getElem?_take, List.getElem?_take, if_neg (by omega), if_neg q]
/-- what is left when a prefix has come -/
noncomputable def zroom (M : zMem) (r : Nat) (v b : Int) : List Int := if 8 ≤ ((zel M r).filter (zkeep M v b)).length then ((zel M r).filter (zkeep M v b)).tail else (zel M r).filter (zkeep M v b)
theorem zrmk_end {M M1 : zMem} {r : Nat} {v b i : Int} (h : zrmk M M1 r v b i) (hi : i < 0) (hi2 : -1 ≤ i) : zel M1 r = (zel M r).filter (zkeep M v b) ∧ zV M1 16 r 2 = (((zel M r).filter (zkeep M v b)).length : Int) := by
  obtain ⟨w, g, f⟩ := h
  have e : (i + 1).toNat = 0 := by omega
  rw [e] at g
  simp only [List.take_zero, List.nil_append, List.drop_zero] at g
  refine ⟨g, ?_⟩
  rw [← g, zel_len]
  have := w.1
  omega
/-- room made: x is the new entry's place -/
def zmade (M M' : zMem) (r : Nat) (v b x : Int) : Prop := zwr M' r ∧ x = ((zroom M r v b).length : Int) ∧ x < 8 ∧ zV M' 16 r 2 = x + 1 ∧ zel M' r = zroom M r v b ++ [zV M' 17 r x.toNat] ∧ zfr M M' r
theorem zmade_of {M M1 M2 : zMem} {r : Nat} {v b : Int} (h1 : zwr M1 r) (h2 : zel M1 r = zroom M r v b) (h3 : zfr M M1 r) (h4 : zV M1 16 r 2 < 8) (h5 : M2 = zup M1 16 r 2 (zI (zV M1 16 r 2 + 1))) {x : Int} (hx : x = zV M1 16 r 2) : zmade M M2 r v b x := by
  have h0 := h1.1
  have hl : zV M1 16 r 2 = ((zroom M r v b).length : Int) := by rw [← h2, zel_len]; omega
  subst h5
  refine ⟨zwr_cnt h1 (by omega), by omega, by omega, by rw [zV_eq (by omega), hx], ?_, fun κ' i' j' h9 => ?_⟩
  · rw [zel_grow (by omega) (by omega), h2, zV_ne (by decide), hx]
  · rw [zup_at (fun z => h9 ⟨z.2.1, by omega⟩)]
    exact h3 κ' i' j' h9
def zfit (M : zMem) (id t : Int) (q : Nat) : Prop := zV M 19 q 6 = 0 ∧ t < zV M 19 q 5 ∧ zmeet (zV M 20 q 0) (zV M 20 q 1) id 16
/-- an entry that a change of mapping i solicits newly -/
def zsc (M : zMem) (i : Nat) (q : Nat) : Prop := zV M 19 q 6 = 0 ∧ zmeet (zV M 20 q 0) (zV M 20 q 1) (zV M 4 i 0) (zV M 4 i 1)
def zq (M : zMem) (r j : Nat) : Nat := (zV M 17 r j).toNat
def zsol (M M1 : zMem) (r i : Nat) (k n : Int) : Prop := n = zsm (fun j => zind (zsc M i (zq M r j))) k.toNat ∧
  (∀ q : Nat, (∃ j : Nat, (j : Int) < k ∧ zq M r j = q) → zsc M i q → zV M1 19 q 6 = 1) ∧ (∀ q : Nat, ¬ ((∃ j : Nat, (j : Int) < k ∧ zq M r j = q) ∧ zsc M i q) → zV M1 19 q 6 = zV M 19 q 6) ∧
  ∀ κ' i' j' : Nat, ¬ (κ' = 19 ∧ j' = 6) → M1 κ' i' j' = M κ' i' j'
theorem zsol_0 (M : zMem) (r i : Nat) : zsol M M r i 0 0 := ⟨rfl, fun q h => by obtain ⟨j, hj, -⟩ := h; omega, fun _ _ => rfl, fun _ _ _ _ => rfl⟩
theorem zsol_f {M M1 : zMem} {r i : Nat} {k n : Int} (hk : 0 ≤ k) (h : zsol M M1 r i k n) (hc : ¬ zsc M i (zq M r k.toNat)) : zsol M M1 r i (k + 1) n := by
  obtain ⟨a, b, c, d⟩ := h
  refine ⟨by rw [zsm_s _ hk, ← a, zind_f hc, Int.add_zero], fun q hq hs => ?_, fun q hq => c q (fun z => hq ⟨?_, z.2⟩), d⟩
  · obtain ⟨j, hj, e⟩ := hq
    by_cases z : (j : Int) < k
    · exact b q ⟨j, z, e⟩ hs
    · rw [show j = k.toNat by omega] at e
      rw [e] at hc
      exact absurd hs hc
  · obtain ⟨⟨j, hj, e⟩, -⟩ := z
    exact ⟨j, by omega, e⟩
theorem zsol_t {M M1 : zMem} {r i : Nat} {k n : Int} (hk : 0 ≤ k) (h : zsol M M1 r i k n) (hc : zsc M i (zq M r k.toNat)) : zsol M (zup M1 19 (zq M r k.toNat) 6 (zI 1)) r i (k + 1) (n + 1) := by
  obtain ⟨a, b, c, d⟩ := h
  refine ⟨by rw [zsm_s _ hk, ← a, zind_t hc], fun q hq hs => ?_, fun q hq => ?_, fun κ' i' j' h9 => ?_⟩
  · by_cases e : q = zq M r k.toNat
    · subst e; exact zV_eq (by decide)
    · rw [zV_ni e]
      obtain ⟨j, hj, e2⟩ := hq
      refine b q ⟨j, ?_, e2⟩ hs
      by_cases z : (j : Int) < k
      · exact z
      · exact absurd (by rw [show j = k.toNat by omega] at e2; exact e2.symm) e
  · by_cases e : q = zq M r k.toNat
    · subst e
      exact absurd ⟨⟨k.toNat, by omega, rfl⟩, hc⟩ hq
    · rw [zV_ni e]
      refine c q (fun z => hq ⟨?_, z.2⟩)
      obtain ⟨⟨j, hj, e2⟩, -⟩ := z
      exact ⟨j, by omega, e2⟩
  · rw [zup_at (fun z => h9 ⟨z.1, z.2.2⟩)]
    exact d κ' i' j' h9
/-- an entry not yet come to is as it was -/
theorem zsol_at {M M1 : zMem} {r i : Nat} {k n : Int} (hw : zwr M r) (hk : 0 ≤ k) (hk8 : k < 8) (h : zsol M M1 r i k n) : zV M1 19 (zq M r k.toNat) 6 = zV M 19 (zq M r k.toNat) 6 := by
  refine h.2.2.1 _ (fun z => ?_)
  obtain ⟨⟨j, hj, e⟩, -⟩ := z
  unfold zq at e
  have h1 := hw.2.1 j (by omega)
  have h2 := hw.2.1 k.toNat (by omega)
  have := hw.2.2 j k.toNat (by omega) (by omega) (by omega)
  omega
/-- the entries' prefixes -/
def zwp (M : zMem) : Prop := ∀ q : Nat, q < 24 → zpfx (zV M 20 q 0) (zV M 20 q 1)
