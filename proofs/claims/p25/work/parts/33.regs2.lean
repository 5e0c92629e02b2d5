/-! the registry's changes, as the law makes them and the class then does -/
theorem i_cf.sol {A B : zMem} {m : Nat} {k : Int} (h : zsolk A B m k) : i_cf A B := fun κ i j q => h.2.2.2 κ i j (by omega) (by omega)
theorem i_rf.jsk {A B : zMem} {v b k : Int} (h : jsk A B v b k) : i_rf A B := fun κ i j q => h.2.2.2 κ i j (by omega) (by omega)
theorem i_cf.shf {A B : zMem} {i : Nat} {pl k c : Int} (h : zshift A B i pl k c) : i_cf A B := fun κ i j q => h.2.2.2.2 κ i j (by omega)
theorem i_rf.v {A B : zMem} (h : i_rf A B) {κ i j : Nat} (q : κ < 26) : zV B κ i j = zV A κ i j := zV_of (h κ i j q)
theorem i_cf.v {A B : zMem} (h : i_cf A B) {κ i j : Nat} (q : 26 ≤ κ) : zV B κ i j = zV A κ i j := zV_of (h κ i j q)
theorem i_has {A B : zMem} (h : i_rf A B) {v b : Int} : zhas B v b ↔ zhas A v b := by
  unfold zhas zmn zmg zmv zml
  constructor
  · rintro ⟨i, h1, h2, h3, h4⟩
    rw [h.v (by decide)] at h1 h2 h3 h4
    exact ⟨i, h1, h2, h3, h4⟩
  · rintro ⟨i, h1, h2, h3, h4⟩
    rw [← h.v (by decide)] at h1 h2 h3 h4
    exact ⟨i, h1, h2, h3, h4⟩
theorem i_loc {A B : zMem} (h : i_rf A B) {m : Nat} {a : Int} : zloc B m a ↔ zloc A m a := by
  unfold zloc
  constructor
  · rintro ⟨i, h1, h2⟩
    rw [h.v (by decide)] at h1 h2
    exact ⟨i, h1, h2⟩
  · rintro ⟨i, h1, h2⟩
    rw [← h.v (by decide)] at h1 h2
    exact ⟨i, h1, h2⟩
theorem iA_rf {n : Nat} {C C' D : zMem} (h : iA n C D) (hr : i_rf C C') : iA n C' D := iA_c h (Nat.le_refl n) (fun κ i j h1 h2 => hr.v (by omega)) rfl (fun _ _ _ _ => rfl)
theorem i_reg {n m : Nat} {M D1 D2 M' : zMem} {v b pp : Int} (h : iN n M M) (hv : zvp v b) (hno : ¬ zhas M v b) (hm : zV M 1 0 1 = (m : Int)) (h16 : m < 16) (hp : pp = 32 * v + b) (hD : D1 = zup (zup (zup M 26 0 m (zI pp)) 27 0 m (zI 1)) 36 0 3 (zI ((m : Int) + 1))) (h2 : jsk D1 D2 v b 16) (h3 : zsolk (zreg D2 v b) M' m 3) : iN (n + 1) M' M' := by
  have r1 : i_rf M D1 := by rw [hD]; exact (((i_rf.r M).u (by decide)).u (by decide)).u (by decide)
  have r2 : i_rf M D2 := r1.t (i_rf.jsk h2)
  have e1 : zV D2 1 0 1 = (m : Int) := (r2.v (by decide)).trans hm
  have ez : zreg D2 v b = zup (zup (zup D2 4 m 0 (zI v)) 4 m 1 (zI b)) 1 0 1 (zI ((m : Int) + 1)) := by
    unfold zreg
    rw [e1]
    simp only [Int.toNat_natCast]
  have hv9 := hv.1
  unfold zpfx at hv9
  have hA := i_regA (iA_rf h.1 r2) hv (fun z => hno ((i_has r2).mp z)) e1 h16 hp
  rw [← ez, ← hD] at hA
  have c1 : i_cf D2 (zreg D2 v b) := by rw [ez]; exact (((i_cf.r D2).u (by decide)).u (by decide)).u (by decide)
  refine iN_c (i_solM (C := zreg D2 v b) (D := D1) (m := m) hA (i_upR h (fun κ i j q1 q2 => ?_) (fun κ j q1 q2 => ?_)) ⟨?_, ?_⟩ h3 h2) (Nat.le_refl _) (i_rf.r M') (c1.t (i_cf.sol h3))
  · rw [ez, zV_ne (by omega), zV_ne (by omega), zV_ne (by omega)]; exact r2.v q1
  · rw [hD, zV_upg, if_neg (fun z => q2 ⟨z.1, z.2.2⟩), zV_ne (by omega), zV_ne (by omega)]
  · rw [ez, zV_ne (by decide), zV_nj (by decide), zV_eq (by omega)]
  · rw [ez, zV_ne (by decide), zV_eq (by omega)]
theorem i_wdr {n m : Nat} {M D1 D2 M' : zMem} (h : iN n M M) (hm : (m : Int) < zV M 1 0 1) (hg : zV M 3 m 3 = 0) (hD : D1 = zup M 27 0 m (zI 0)) (h2 : jsk D1 D2 (zV M 4 m 0) (zV M 4 m 1) 16) (h3 : zsolk (zup D2 3 m 3 (zI 1)) M' m 3) : iN (n + 1) M' M' := by
  have r1 : i_rf M D1 := by rw [hD]; exact (i_rf.r M).u (by decide)
  have r2 : i_rf M D2 := r1.t (i_rf.jsk h2)
  have hA := i_wdrA (iA_rf h.1 r2) (by rw [r2.v (by decide)]; exact hm) (by rw [r2.v (by decide)]; exact hg)
  rw [← hD] at hA
  have c1 : i_cf D2 (zup D2 3 m 3 (zI 1)) := (i_cf.r D2).u (by decide)
  refine iN_c (i_solM (D := D1) (m := m) hA (i_upR h (fun κ i j q1 q2 => ?_) (fun κ j q1 q2 => ?_)) ⟨?_, ?_⟩ h3 h2) (Nat.le_refl _) (i_rf.r M') (c1.t (i_cf.sol h3))
  · rw [zV_ne (by omega)]; exact r2.v q1
  · rw [hD, zV_ne (by omega)]
  · rw [zV_ne (by decide)]; exact (r2.v (by decide)).symm
  · rw [zV_ne (by decide)]; exact (r2.v (by decide)).symm
theorem i_add {n m k : Nat} {M D1 D2 M' : zMem} {b p w x t : Int} (h : iN n M M) (hn : n ≤ 1000) (hm : (m : Int) < zV M 1 0 1) (hg : zV M 3 m 3 = 0) (hk : zV M 5 m 3 = (k : Int)) (hk4 : k < 4) (hb : 0 ≤ b ∧ b < 32) (hp : 0 ≤ p ∧ p ≤ 3) (hw : 1 ≤ w ∧ w ≤ 10) (hl : ¬ zloc M m b) (hx : x = b + 32 * p + 128 * w) (ht : t = zV M 27 0 m) (hD : D1 = zup (zup M 28 0 (4 * m + k) (zI x)) 27 0 m (zI (t + 1))) (h2 : jsk D1 D2 (zV M 4 m 0) (zV M 4 m 1) 16) (h3 : zsolk (zver (zadl D2 m b p w) m) M' m 3) : iN (n + 1) M' M' := by
  have r1 : i_rf M D1 := by rw [hD]; exact ((i_rf.r M).u (by decide)).u (by decide)
  have r2 : i_rf M D2 := r1.t (i_rf.jsk h2)
  have e5 : zV D2 5 m 3 = (k : Int) := (r2.v (by decide)).trans hk
  have ez : zadl D2 m b p w = zup (zup (zup (zup D2 6 m k (zI b)) 7 m k (zI p)) 8 m k (zI w)) 5 m 3 (zI ((k : Int) + 1)) := by
    unfold zadl
    rw [e5]
    simp only [Int.toNat_natCast]
  have hA := i_adlA (iA_rf h.1 r2) (by rw [r2.v (by decide)]; exact hm) e5 hk4 hb hp hw (fun z => hl ((i_loc r2).mp z)) hx
  rw [← ez] at hA
  have e3 : ∀ i j : Nat, zV (zadl D2 m b p w) 3 i j = zV M 3 i j := fun i j => by rw [ez, zV_ne (by decide), zV_ne (by decide), zV_ne (by decide), zV_ne (by decide)]; exact r2.v (by decide)
  have e1 : zV (zadl D2 m b p w) 1 0 1 = zV M 1 0 1 := by rw [ez, zV_ne (by decide), zV_ne (by decide), zV_ne (by decide), zV_ne (by decide)]; exact r2.v (by decide)
  have hB := i_verA (t := t) hA (by rw [e1]; exact hm) (by rw [e3]; exact hg) (by rw [zV_ne (by decide)]; exact ht) hn
  rw [← hD] at hB
  have c1 : i_cf D2 (zver (zadl D2 m b p w) m) := by unfold zver; rw [ez]; exact (((((i_cf.r D2).u (by decide)).u (by decide)).u (by decide)).u (by decide)).u (by decide)
  refine iN_c (i_solM (D := D1) (m := m) hB (i_upR h (fun κ i j q1 q2 => ?_) (fun κ j q1 q2 => ?_)) ⟨?_, ?_⟩ h3 h2) (Nat.le_refl _) (i_rf.r M') (c1.t (i_cf.sol h3))
  · unfold zver; rw [ez, zV_ne (by omega), zV_ne (by omega), zV_ne (by omega), zV_ne (by omega), zV_ne (by omega)]; exact r2.v q1
  · rw [hD, zV_ne (by omega), zV_ne (by omega)]
  · unfold zver; rw [ez, zV_ne (by decide), zV_ne (by decide), zV_ne (by decide), zV_ne (by decide), zV_ne (by decide)]; exact (r2.v (by decide)).symm
  · unfold zver; rw [ez, zV_ne (by decide), zV_ne (by decide), zV_ne (by decide), zV_ne (by decide), zV_ne (by decide)]; exact (r2.v (by decide)).symm
theorem i_mov {n m k : Nat} {M D1 D2 M' : zMem} {a b x t : Int} (h : iN n M M) (hn : n ≤ 1000) (hm : (m : Int) < zV M 1 0 1) (hg : zV M 3 m 3 = 0) (hk : (k : Int) < zV M 5 m 3) (ha : zV M 6 m k = a) (hb : 0 ≤ b ∧ b < 32) (hl : ¬ zloc M m b) (hx : x = zV M 28 0 (4 * m + k) + (b - a)) (ht : t = zV M 27 0 m) (hD : D1 = zup (zup M 28 0 (4 * m + k) (zI x)) 27 0 m (zI (t + 1))) (h2 : jsk D1 D2 (zV M 4 m 0) (zV M 4 m 1) 16) {pl : Nat} (hp : (pl : Int) < zV D2 5 m 3) (hp2 : zV D2 6 m pl = a) (h3 : zsolk (zver (zup D2 6 m pl (zI b)) m) M' m 3) : iN (n + 1) M' M' := by
  have r1 : i_rf M D1 := by rw [hD]; exact ((i_rf.r M).u (by decide)).u (by decide)
  have r2 : i_rf M D2 := r1.t (i_rf.jsk h2)
  have hA1 := h.1.1
  rw [r2.v (by decide)] at hp hp2
  have e : pl = k := (h.1.2.2.1 m (by omega)).2.2.2.2.2.2 pl k hp hk (hp2.trans ha.symm)
  subst e
  have hA := i_movA (iA_rf h.1 r2) (by rw [r2.v (by decide)]; exact hm) (by rw [r2.v (by decide)]; exact hk) hb (fun z => hl ((i_loc r2).mp z)) (x := x) (by rw [r2.v (by decide), ha]; exact hx)
  have hB := i_verA (t := t) hA (by rw [zV_ne (by decide), r2.v (by decide)]; exact hm) (by rw [zV_ne (by decide), r2.v (by decide)]; exact hg) (by rw [zV_ne (by decide)]; exact ht) hn
  rw [← hD] at hB
  have c1 : i_cf D2 (zver (zup D2 6 m pl (zI b)) m) := by unfold zver; exact ((i_cf.r D2).u (by decide)).u (by decide)
  refine iN_c (i_solM (D := D1) (m := m) hB (i_upR h (fun κ i j q1 q2 => ?_) (fun κ j q1 q2 => ?_)) ⟨?_, ?_⟩ h3 h2) (Nat.le_refl _) (i_rf.r M') (c1.t (i_cf.sol h3))
  · unfold zver; rw [zV_ne (by omega), zV_ne (by omega)]; exact r2.v q1
  · rw [hD, zV_ne (by omega), zV_ne (by omega)]
  · unfold zver; rw [zV_ne (by decide), zV_ne (by decide)]; exact (r2.v (by decide)).symm
  · unfold zver; rw [zV_ne (by decide), zV_ne (by decide)]; exact (r2.v (by decide)).symm
theorem i_rem {n m k : Nat} {M Mr D1 D2 C1 M' : zMem} {a t pl : Int} (h : iN n M M) (hn : n ≤ 1000) (hm : (m : Int) < zV M 1 0 1) (hg : zV M 3 m 3 = 0) (hk : (k : Int) < zV M 5 m 3) (ha : zV M 6 m k = a) (ht : t = zV M 27 0 m) (hr : jrm M Mr m ((4 * m + k : Nat) : Int) (4 * (m : Int) + 4)) (hD : D1 = zup Mr 27 0 m (zI (t + 1))) (h2 : jsk D1 D2 (zV M 4 m 0) (zV M 4 m 1) 16) (hp0 : 0 ≤ pl) (hp : pl < zV D2 5 m 3) (hp2 : zV D2 6 m pl.toNat = a) (hs : zshift D2 C1 m pl (zV D2 5 m 3 - 1) (zV D2 5 m 3 - 1)) (h3 : zsolk (zver C1 m) M' m 3) : iN (n + 1) M' M' := by
  have r0 : i_rf M Mr := fun κ i j q => hr.2 κ i j (by omega)
  have r1 : i_rf M D1 := by rw [hD]; exact r0.u (by decide)
  have r2 : i_rf M D2 := r1.t (i_rf.jsk h2)
  have hA1 := h.1.1
  have hcn := (h.1.2.2.1 m (by omega)).2.2.2.1
  rw [r2.v (by decide)] at hp hp2 hs
  obtain ⟨c, hc⟩ : ∃ c : Nat, zV M 5 m 3 = (c : Int) := ⟨(zV M 5 m 3).toNat, by omega⟩
  have e : pl.toNat = k := (h.1.2.2.1 m (by omega)).2.2.2.2.2.2 pl.toNat k (by omega) hk (hp2.trans ha.symm)
  have e2 : pl = (k : Int) := by omega
  subst e2
  rw [hc] at hs
  have hA := i_remA (iA_rf h.1 r2) (by rw [r2.v (by decide)]; exact hm) (by rw [r2.v (by decide)]; exact hc) (by omega) hs hr
  have f1 : ∀ κ i j : Nat, ¬ (5 ≤ κ ∧ κ ≤ 8) → zV C1 κ i j = zV D2 κ i j := fun κ i j q => zV_of (hs.2.2.2.2 κ i j (by omega))
  have hB := i_verA (t := t) hA (by rw [f1 _ _ _ (by omega), r2.v (by decide)]; exact hm) (by rw [f1 _ _ _ (by omega), r2.v (by decide)]; exact hg) (by rw [zV_of (hr.2 27 0 m (by omega))]; exact ht) hn
  rw [← hD] at hB
  have c1 : i_cf D2 (zver C1 m) := by unfold zver; exact (i_cf.shf hs).u (by decide)
  refine iN_c (i_solM (D := D1) (m := m) hB (i_upR h (fun κ i j q1 q2 => ?_) (fun κ j q1 q2 => ?_)) ⟨?_, ?_⟩ h3 h2) (Nat.le_refl _) (i_rf.r M') (c1.t (i_cf.sol h3))
  · unfold zver; rw [zV_ne (by omega), f1 _ _ _ (by omega)]; exact r2.v q1
  · rw [hD, zV_ne (by omega)]; exact zV_of (hr.2 κ 0 j (by omega))
  · unfold zver; rw [zV_ne (by decide), f1 _ _ _ (by omega)]; exact (r2.v (by decide)).symm
  · unfold zver; rw [zV_ne (by decide), f1 _ _ _ (by omega)]; exact (r2.v (by decide)).symm
/-! what the law looks up -/
/-- a locator's place -/
theorem iA_at {n : Nat} {C D : zMem} (h : iA n C D) {m j : Nat} (hm : m < 16) (hj : j < 4) : (0 < zV D 28 0 (4 * m + j) ↔ (j : Int) < zV C 5 m 3) ∧ ((j : Int) < zV C 5 m 3 → zV D 28 0 (4 * m + j) % 32 = zV C 6 m j) ∧ 0 ≤ zV D 28 0 (4 * m + j) ∧ zV D 28 0 (4 * m + j) ≤ 2047 := by
  obtain ⟨-, -, -, d2, x1, y1, -⟩ := h.2.2.1 m (by omega)
  have x2 := x1 j hj
  have x3 := x2.2 hm
  rw [x3]
  by_cases q : (j : Int) < zV C 5 m 3
  · have y2 := y1 j q
    rw [if_pos q]
    exact ⟨⟨fun _ => q, fun _ => by omega⟩, fun _ => by omega, by omega, by omega⟩
  · rw [if_neg q]
    exact ⟨⟨fun z => by omega, fun z => absurd z q⟩, fun z => absurd z q, by omega, by omega⟩
def jatk (M : zMem) (w ad f k : Int) : Prop := (f = -1 ∧ ∀ j : Nat, (j : Int) < k → ¬ (0 < zV M 28 0 (4 * w.toNat + j) ∧ zV M 28 0 (4 * w.toNat + j) % 32 = ad)) ∨ ∃ j : Nat, (j : Int) < k ∧ f = 4 * w + (j : Int) ∧ 0 < zV M 28 0 (4 * w.toNat + j) ∧ zV M 28 0 (4 * w.toNat + j) % 32 = ad
theorem jatk_0 (M : zMem) (w ad : Int) : jatk M w ad (-1) 0 := Or.inl ⟨rfl, fun j hj => by omega⟩
theorem jatk_f {M : zMem} {w ad f k : Int} (hk : 0 ≤ k) (h : jatk M w ad f k) (hn : ¬ (0 < zV M 28 0 (4 * w.toNat + k.toNat) ∧ zV M 28 0 (4 * w.toNat + k.toNat) % 32 = ad)) : jatk M w ad f (k + 1) := by
  rcases h with ⟨z1, z2⟩ | ⟨j, z1, z2⟩
  · refine Or.inl ⟨z1, fun j hj => ?_⟩
    by_cases e : (j : Int) < k
    · exact z2 j e
    · rw [show j = k.toNat by omega]; exact hn
  · exact Or.inr ⟨j, by omega, z2⟩
theorem jatk_t {M : zMem} {w ad k f : Int} (hk : 0 ≤ k) (hf : f = 4 * w + k) (h1 : 0 < zV M 28 0 (4 * w.toNat + k.toNat)) (h2 : zV M 28 0 (4 * w.toNat + k.toNat) % 32 = ad) : jatk M w ad f (k + 1) := Or.inr ⟨k.toNat, by omega, by omega, h1, h2⟩
theorem jatk_n {n : Nat} {M : zMem} {w ad f : Int} (h : iA n M M) (hw : 0 ≤ w ∧ w < 16) (hf : jatk M w ad f 4) (hn : f < 0) : ¬ zloc M w.toNat ad := by
  have hd := (h.2.2.1 w.toNat (by omega)).2.2.2.1
  rintro ⟨j, h1, h2⟩
  have h3 := iA_at h (m := w.toNat) (j := j) (by omega) (by omega)
  rcases hf with ⟨z1, z2⟩ | ⟨j', z1, z2, -⟩
  · exact z2 j (by omega) ⟨h3.1.mpr h1, (h3.2.1 h1).trans h2⟩
  · omega
theorem jatk_y {n : Nat} {M : zMem} {w ad f : Int} (h : iA n M M) (hw : 0 ≤ w ∧ w < 16) (hf : jatk M w ad f 4) (hn : 0 ≤ f) : zloc M w.toNat ad ∧ ∃ j : Nat, f = 4 * w + (j : Int) ∧ (j : Int) < zV M 5 w.toNat 3 ∧ zV M 6 w.toNat j = ad ∧ j < 4 := by
  rcases hf with ⟨z1, z2⟩ | ⟨j, z1, z2, z3, z4⟩
  · omega
  · have h3 := iA_at h (m := w.toNat) (j := j) (by omega) (by omega)
    have h4 := h3.1.mp z3
    have h5 := (h3.2.1 h4).symm.trans z4
    exact ⟨⟨j, h4, h5⟩, j, z2, h4, h5, by omega⟩
/-- how many locators -/
theorem i_cnt4 {n : Nat} {C D : zMem} (h : iA n C D) {m : Nat} (hm : m < 16) : zsm (fun j => zind (0 < zV D 28 0 (4 * m + j))) 4 = zV C 5 m 3 := by
  have hd := (h.2.2.1 m (by omega)).2.2.2.1
  have e : ∀ j, j < 4 → zind (0 < zV D 28 0 (4 * m + j)) = if (j : Int) < zV C 5 m 3 then 1 else 0 := fun j hj => by
    have h3 := (iA_at h hm hj).1
    by_cases q : (j : Int) < zV C 5 m 3
    · rw [if_pos q]; exact zind_t (h3.mpr q)
    · rw [if_neg q]; exact zind_f (fun z => q (h3.mp z))
  rw [zsm_ext e]
  show (0 : Int) + (if ((0 : Nat) : Int) < zV C 5 m 3 then 1 else 0) + (if ((1 : Nat) : Int) < zV C 5 m 3 then 1 else 0) + (if ((2 : Nat) : Int) < zV C 5 m 3 then 1 else 0) + (if ((3 : Nat) : Int) < zV C 5 m 3 then 1 else 0) = _
  omega
/-- how many mappings are left -/
theorem i_left {n : Nat} {C D : zMem} (h : iA n C D) : zcnt (zmg C) (zV C 1 0 1).toNat = zsm (fun k => zind (0 < zV D 27 0 k)) (zV C 1 0 1).toNat := by
  have key : ∀ k : Nat, (k : Int) ≤ zV C 1 0 1 → zcnt (zmg C) k = zsm (fun k => zind (0 < zV D 27 0 k)) k := by
    intro k
    induction k with
    | zero => intro _; rfl
    | succ k ih =>
      intro hk
      show zcnt (zmg C) k + (if zmg C k = 0 then 1 else 0) = zsm (fun k => zind (0 < zV D 27 0 k)) k + zind (0 < zV D 27 0 k)
      rw [ih (by omega)]
      have h3 := (iA_m h (i := k) (by omega)).2.2.1
      by_cases q : zmg C k = 0
      · rw [if_pos q, zind_t (h3.mpr q)]
      · rw [if_neg q, zind_f (fun z => q (h3.mp z))]
  have h1 := h.1
  exact key _ (by omega)
/-- one of this prefix -/
theorem i_prf {v b w c : Int} (h1 : zpfx v b) (h2 : zpfx w c) (h : 32 * v + b = 32 * w + c) : v = w ∧ b = c := by
  unfold zpfx at h1 h2
  omega
theorem i_hasT {n : Nat} {M : zMem} {v b pp : Int} (h : iA n M M) (hv : zvp v b) (hp : pp = 32 * v + b) {k : Nat} (hk : (k : Int) < zV M 1 0 1) (h1 : 0 < zV M 27 0 k) (h2 : zV M 26 0 k = pp) : zhas M v b := by
  obtain ⟨a1, a2, a3, -⟩ := iA_m h hk
  have e := i_prf a1.1 hv.1 (by rw [← a2, h2]; exact hp)
  exact ⟨k, hk, a3.mp h1, e.1, e.2⟩
theorem i_hasF {n : Nat} {M : zMem} {v b pp : Int} (h : iA n M M) (hp : pp = 32 * v + b) (hno : ∀ k : Nat, (k : Int) < zV M 1 0 1 → ¬ (0 < zV M 27 0 k ∧ zV M 26 0 k = pp)) : ¬ zhas M v b := by
  rintro ⟨k, h1, h2, h3, h4⟩
  have h1 : (k : Int) < zV M 1 0 1 := h1
  obtain ⟨a1, a2, a3, -⟩ := iA_m h h1
  exact hno k h1 ⟨a3.mpr h2, by rw [a2, h3, h4, hp]⟩
theorem iA_ver {n : Nat} {C D : zMem} (h : iA n C D) {m : Nat} (hm : (m : Int) < zV C 1 0 1) (hg : zV C 3 m 3 = 0) : zV D 27 0 m = zV C 3 m 2 ∧ 1 ≤ zV C 3 m 2 ∧ zV C 3 m 2 ≤ (n : Int) + 1 := by
  have h1 := h.1
  obtain ⟨a, b, -⟩ := h.2.2.1 m (by omega)
  have b2 := (b hm).2
  rw [if_pos hg] at b2
  exact ⟨b2, a.2.2.1, a.2.2.2⟩
