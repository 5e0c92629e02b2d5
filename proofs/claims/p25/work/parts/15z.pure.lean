def zhas (M : zMem) (v b : Int) : Prop := ∃ i : Nat, (i : Int) < zmn M ∧ zmg M i = 0 ∧ zmv M i = v ∧ zml M i = b
def zreg (M : zMem) (v b : Int) : zMem := zup (zup (zup M 4 (zV M 1 0 1).toNat 0 (zI v)) 4 (zV M 1 0 1).toNat 1 (zI b)) 1 0 1 (zI (zV M 1 0 1 + 1))
def zadl (M : zMem) (i : Nat) (a b w : Int) : zMem := zup (zup (zup (zup M 6 i (zV M 5 i 3).toNat (zI a)) 7 i (zV M 5 i 3).toNat (zI b)) 8 i (zV M 5 i 3).toNat (zI w)) 5 i 3 (zI (zV M 5 i 3 + 1))
def zver (M : zMem) (i : Nat) : zMem := zup M 3 i 2 (zI (zV M 3 i 2 + 1))
def zdel (M : zMem) (v b t : Int) : zMem := zup (zup (zup (zup M 14 (zV M 9 0 4).toNat 0 (zI v)) 14 (zV M 9 0 4).toNat 1 (zI b)) 13 0 (zV M 9 0 4).toNat (zI t)) 9 0 4 (zI (zV M 9 0 4 + 1))
theorem zWs_reg {M : zMem} {v b : Int} (h : zWC M) (hv : zpfx v b) (hn : zV M 1 0 1 < 24) : zWs (zreg M v b) (zV M 1 0 1).toNat := by
  unfold zreg
  refine zWs_up ?_ (by decide)
  obtain ⟨v0, v1, v2, v3⟩ := hv
  have hs := h.2.2.2.2.2.2.1
  refine ⟨fun r hr => zwr_congr (by rw [zV_ne (by decide), zV_ne (by decide)]) (fun j => by rw [zV_ne (by decide), zV_ne (by decide)]) (h.2.2.2.1 r hr), fun q hq => ?_, ?_, ?_⟩
  · rw [zV_ne (by decide), zV_ne (by decide), zV_ne (by decide), zV_ne (by decide)]; exact h.2.2.1 q hq
  · rw [zV_nj (by decide), zV_eq (by omega), zV_eq (by omega)]; exact ⟨v0, v1, v2, v3⟩
  · rw [zV_ne (by decide), zV_ne (by decide)]; exact hs
theorem zWs_adl {M : zMem} {i : Nat} {a b w : Int} (h : zWs M i) : zWs (zadl M i a b w) i := zWs_up (zWs_up (zWs_up (zWs_up h (by decide)) (by decide)) (by decide)) (by decide)
theorem zWs_congr {M M' : zMem} {i : Nat} (h : zWs M i) (hm : ∀ κ i' j' : Nat, κ = 16 ∨ κ = 17 ∨ κ = 20 ∨ κ = 4 ∨ κ = 0 → M' κ i' j' = M κ i' j') : zWs M' i := by
  obtain ⟨h1, h2, h3, h4⟩ := h
  refine ⟨fun r hr => zwr_congr (zV_of (hm _ _ _ (by omega))) (fun j => zV_of (hm _ _ _ (by omega))) (h1 r hr), fun q hq => ?_, ?_, ?_⟩
  · rw [zV_of (hm 20 q 0 (by omega)), zV_of (hm 20 q 1 (by omega))]; exact h2 q hq
  · rw [zV_of (hm 4 i 0 (by omega)), zV_of (hm 4 i 1 (by omega))]; exact h3
  · rw [zV_of (hm 0 0 6 (by omega))]; exact h4
theorem zWC_congr {M M' : zMem} (h : zWC M) (hm : ∀ κ i' j' : Nat, κ ≠ 11 → M' κ i' j' = M κ i' j') : zWC M' := by
  obtain ⟨a1, a2, a3, a4, a5, a6, a7, a8, a9, a10⟩ := h
  have e : ∀ κ i' j' : Nat, κ ≠ 11 → zV M' κ i' j' = zV M κ i' j' := fun κ i' j' q => zV_of (hm κ i' j' q)
  refine ⟨⟨by rw [e _ _ _ (by decide)]; exact a1.1, fun i hi => by rw [e _ _ _ (by decide), e _ _ _ (by decide)]; exact a1.2 i hi⟩, ⟨by rw [e _ _ _ (by decide)]; exact a2.1, fun i hi => by rw [e _ _ _ (by decide), e _ _ _ (by decide)]; exact a2.2.1 i hi, fun i hi => by rw [e _ _ _ (by decide)]; exact a2.2.2 i hi⟩, fun q hq => by rw [e _ _ _ (by decide), e _ _ _ (by decide)]; exact a3 q hq,
    fun r hr => zwr_congr (e _ _ _ (by decide)) (fun j => e _ _ _ (by decide)) (a4 r hr), fun i hi => ⟨by rw [e _ _ _ (by decide)]; exact (a5 i hi).1, fun j hj => by rw [e _ _ _ (by decide)]; exact (a5 i hi).2 j hj⟩, fun q hq => ⟨by rw [e _ _ _ (by decide)]; exact (a6 q hq).1, fun j hj => by rw [e _ _ _ (by decide)]; exact (a6 q hq).2 j hj⟩,
    by rw [e _ _ _ (by decide)]; exact a7, fun i hi => by rw [e _ _ _ (by decide)]; exact a8 i hi, fun a ha => by rw [e _ _ _ (by decide)]; exact a9 a ha, fun r a => by rw [e _ _ _ (by decide)]; exact a10 r a⟩
/-- an answer kept leaves the entries' array as room made it -/
theorem zans_f {M M' : zMem} {r : Nat} {id x : Int} (hr : r < 3) (h : zans M M' r id x) : zwr M' r ∧ 0 ≤ x ∧ x < zV M' 16 r 2 := by
  obtain ⟨mm, L, M1, M2, h1, h2, h3, h4, h5⟩ := h
  obtain ⟨w, hx, hx8, hc, -, -⟩ := h3
  have e : ∀ κ i' j' : Nat, κ = 16 ∨ κ = 17 → zV M' κ i' j' = zV M1 κ i' j' := by
    intro κ i' j' hk
    have e2 : zV M2 κ i' j' = zV M1 κ i' j' := by rw [h4, zV_ne (by omega), zV_ne (by omega)]
    rcases h5 with ⟨-, h5⟩ | ⟨-, -, -, h5⟩
    · rw [h5, zV_ne (by omega), zV_ne (by omega), zV_ne (by omega), zV_ne (by omega)]; exact e2
    · exact (zV_of (h5.2.2.2.2.2.2.2.2 κ i' j' (by omega))).trans e2
  refine ⟨zwr_congr (e _ _ _ (by omega)) (fun j => e _ _ _ (by omega)) w, by omega, by rw [e _ _ _ (by omega), hc]; omega⟩
/-- .. and every entry's locators within -/
theorem zans_we {M M' : zMem} {r : Nat} {id x : Int} (hr : r < 3) (hw : zWC M) (h : zans M M' r id x) : ∀ q, q < 24 → zwe M' q := by
  obtain ⟨mm, L, M1, M2, h1, h2, h3, h4, h5⟩ := h
  obtain ⟨w, hx, hx8, hc, -, hf⟩ := h3
  have hwe := hw.2.2.2.2.2.1
  have hwl := hw.2.2.2.2.1
  have e : ∀ κ i' j' : Nat, κ = 21 ∨ κ = 22 ∨ κ = 5 ∨ κ = 6 → zV M2 κ i' j' = zV M κ i' j' := by
    intro κ i' j' hk
    rw [h4, zV_ne (by omega), zV_ne (by omega)]
    exact zV_of (hf κ i' j' (by omega))
  intro q hq
  rcases h5 with ⟨-, h5⟩ | ⟨-, hm0, hm1, h5⟩
  · have e22 : ∀ j, zV M' 22 q j = zV M 22 q j := fun j => by rw [h5, zV_ne (by decide), zV_ne (by decide), zV_ne (by decide), zV_ne (by decide)]; exact e _ _ _ (by omega)
    refine ⟨?_, fun j hj => by rw [e22]; exact (hwe q hq).2 j hj⟩
    rw [h5, zV_ne (by decide), zV_ne (by decide)]
    by_cases z : q = zq M1 r x.toNat
    · subst z; rw [zV_eq (by decide)]; decide
    · rw [zV_ni z, zV_ne (by decide), e _ _ _ (by omega)]; exact (hwe q hq).1
  · by_cases z : q = zq M1 r x.toNat
    · subst z
      obtain ⟨-, -, -, -, k5, k6, k7, -, -⟩ := h5
      rw [e _ _ _ (by omega)] at k5 k6 k7
      have hl := hwl mm.toNat (by omega)
      refine ⟨by rw [k5]; exact hl.1, fun j hj => ?_⟩
      by_cases y : (j : Int) < zV M 5 mm.toNat 3
      · rw [(k6 j y).1, e _ _ _ (by omega)]; exact hl.2 j hj
      · rw [(k7 j (by omega)).1, e _ _ _ (by omega)]; exact (hwe _ hq).2 j hj
    · have g := h5.2.2.2.2.2.2.2.2
      refine ⟨by rw [zV_of (g 21 q 3 (fun w => z w.1)), e _ _ _ (by omega)]; exact (hwe q hq).1, fun j hj => by rw [zV_of (g 22 q j (fun w => z w.1)), e _ _ _ (by omega)]; exact (hwe q hq).2 j hj⟩
theorem zwe_congr {M M' : zMem} {q : Nat} (h : zwe M q) (h1 : zV M' 21 q 3 = zV M 21 q 3) (h2 : ∀ j, zV M' 22 q j = zV M 22 q j) : zwe M' q := ⟨by rw [h1]; exact h.1, fun j hj => by rw [h2]; exact h.2 j hj⟩
noncomputable def zprb (M : zMem) (r : Nat) : Int := zsm (fun a => zind (zV M 18 r a ≠ 0)) 32
def zlst (M : zMem) (q : Nat) : Int := if zV M 19 q 6 = 0 then (if zV M 19 q 5 ≤ zV M 0 0 3 then 0 else zw (zV M 19 q 5 - zV M 0 0 3)) else -1
def zmat (M : zMem) (q : Nat) : Int := if zV M 19 q 3 = -1 then -1 else zw (1000 * zV M 19 q 4 + zV M 19 q 3)
