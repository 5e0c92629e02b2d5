theorem zind_iff {p q : Prop} (h : p ↔ q) : zind p = zind q := by
  by_cases z : p
  · rw [zind_t z, zind_t (h.mp z)]
  · rw [zind_f z, zind_f (fun w => z (h.mpr w))]
theorem zsm_b {f : Nat → Int} {B : Int} (n : Nat) (h : ∀ k, k < n → 0 ≤ f k ∧ f k ≤ B) : 0 ≤ zsm f n ∧ zsm f n ≤ B * n := by
  induction n with
  | zero => exact ⟨Int.le_refl _, by simp [zsm]⟩
  | succ n ih =>
    have h1 := ih (fun k hk => h k (by omega))
    have h2 := h n (by omega)
    have e : B * ((n + 1 : Nat) : Int) = B * n + B := by rw [Int.natCast_add, Int.mul_add]; simp
    show 0 ≤ zsm f n + f n ∧ zsm f n + f n ≤ _
    rw [e]
    omega
def zvp (v b : Int) : Prop := zpfx v b ∧ zfb v b = v
theorem zwr_congr {M M' : zMem} {r : Nat} (h16 : zV M' 16 r 2 = zV M 16 r 2) (h17 : ∀ j, zV M' 17 r j = zV M 17 r j) (h : zwr M r) : zwr M' r := by
  refine ⟨by rw [h16]; exact h.1, fun j hj => by rw [h17]; exact h.2.1 j hj, fun j j' hj hj' q => ?_⟩
  rw [h17, h17] at q
  exact h.2.2 j j' hj hj' q
noncomputable def zsn (M : zMem) (i r : Nat) : Int := zsm (fun j => zind (zsc M i (zq M r j))) (zV M 16 r 2).toNat
theorem zsn_rg {M : zMem} {i r : Nat} (h : zwr M r) : 0 ≤ zsn M i r ∧ zsn M i r ≤ 8 := by
  have h1 := zsm_01 (f := fun j => zind (zsc M i (zq M r j))) (fun _ => zind_rg _) (zV M 16 r 2).toNat
  have h2 := h.1
  unfold zsn
  omega
def zuse (M : zMem) (r q : Nat) : Prop := ∃ j : Nat, (j : Int) < zV M 16 r 2 ∧ zq M r j = q
theorem zuse_rg {M : zMem} {r q : Nat} (hw : zwr M r) (h : zuse M r q) : 8 * r ≤ q ∧ q < 8 * r + 8 := by
  obtain ⟨j, hj, e⟩ := h
  have h1 := hw.2.1 j (by have := hw.1; omega)
  unfold zq at e
  omega
def zsolk (M M1 : zMem) (i : Nat) (k : Int) : Prop := zV M1 0 0 6 = zV M 0 0 6 + zsm (zsn M i) k.toNat ∧
  (∀ q : Nat, (∃ r : Nat, (r : Int) < k ∧ zuse M r q) → zsc M i q → zV M1 19 q 6 = 1) ∧ (∀ q : Nat, ¬ ((∃ r : Nat, (r : Int) < k ∧ zuse M r q) ∧ zsc M i q) → zV M1 19 q 6 = zV M 19 q 6) ∧
  ∀ κ' i' j' : Nat, ¬ (κ' = 19 ∧ j' = 6) → ¬ (κ' = 0 ∧ i' = 0 ∧ j' = 6) → M1 κ' i' j' = M κ' i' j'
theorem zsolk_0 (M : zMem) (i : Nat) : zsolk M M i 0 := ⟨(Int.add_zero _).symm, fun q h => by obtain ⟨r, hr, -⟩ := h; omega, fun _ _ => rfl, fun _ _ _ _ _ => rfl⟩
theorem zsolk_1 {M M1 M2 : zMem} {i : Nat} {k n x : Int} (hw : ∀ r, r < 3 → zwr M r) (hs : 0 ≤ zV M 0 0 6 ∧ zV M 0 0 6 ≤ 1000000) (hk : 0 ≤ k) (hk3 : k < 3) (h : zsolk M M1 i k) (h2 : zsol M1 M2 k.toNat i (zV M1 16 k.toNat 2) n) (hx : x = zV M1 0 0 6) : zsolk M (zup M2 0 0 6 (zI (x + n))) i (k + 1) := by
  obtain ⟨a, b, c, d⟩ := h
  obtain ⟨a2, b2, c2, d2⟩ := h2
  have hwk := hw k.toNat (by omega)
  have e16 : zV M1 16 k.toNat 2 = zV M 16 k.toNat 2 := zV_of (d _ _ _ (by omega) (by omega))
  have e17 : ∀ j, zq M1 k.toNat j = zq M k.toNat j := fun j => by unfold zq; rw [zV_of (d 17 k.toNat j (by omega) (by omega))]
  have hfar : ∀ q : Nat, 8 * k.toNat ≤ q → zV M1 19 q 6 = zV M 19 q 6 := fun q hq => c q (fun z => by
    obtain ⟨⟨r, hr, hu⟩, -⟩ := z
    have := zuse_rg (hw r (by omega)) hu
    omega)
  have hsc : ∀ q : Nat, 8 * k.toNat ≤ q → (zsc M1 i q ↔ zsc M i q) := fun q hq => by
    unfold zsc
    rw [hfar q hq, zV_of (d 20 q 0 (by omega) (by omega)), zV_of (d 20 q 1 (by omega) (by omega)), zV_of (d 4 i 0 (by omega) (by omega)), zV_of (d 4 i 1 (by omega) (by omega))]
  have hrg : ∀ j : Nat, (j : Int) < zV M 16 k.toNat 2 → 8 * k.toNat ≤ zq M k.toNat j := fun j hj => (zuse_rg hwk ⟨j, hj, rfl⟩).1
  have hn : n = zsn M i k.toNat := by
    rw [a2, e16]
    unfold zsn
    exact zsm_ext fun j hj => by rw [e17]; exact zind_iff (hsc _ (hrg j (by omega)))
  have hb1 := zsm_b (f := zsn M i) (B := 8) k.toNat (fun r hr => zsn_rg (hw r (by omega)))
  have hb2 := zsn_rg (i := i) hwk
  refine ⟨?_, fun q hq hs1 => ?_, fun q hq => ?_, fun κ' i' j' h8 h9 => ?_⟩
  · rw [zV_eq (by rw [hx, a]; omega), zsm_s _ hk, ← hn, hx, a]
    omega
  · rw [zV_ne (by decide)]
    by_cases z : zuse M k.toNat q
    · obtain ⟨j, hj, e⟩ := z
      exact b2 q ⟨j, by rw [e16]; exact hj, by rw [e17]; exact e⟩ ((hsc q (by rw [← e]; exact hrg j hj)).mpr hs1)
    · rw [c2 q (fun w => z ?_)]
      · obtain ⟨r, hr, hu⟩ := hq
        refine b q ⟨r, ?_, hu⟩ hs1
        by_cases y : (r : Int) < k
        · exact y
        · exact absurd (by rw [show k.toNat = r by omega]; exact hu) z
      · obtain ⟨⟨j, hj, e⟩, -⟩ := w
        exact ⟨j, by rw [← e16]; exact hj, by rw [← e17]; exact e⟩
  · rw [zV_ne (by decide)]
    by_cases z : zuse M k.toNat q
    · have hns : ¬ zsc M i q := fun w => hq ⟨⟨k.toNat, by omega, z⟩, w⟩
      have hr8 := (zuse_rg hwk z).1
      rw [c2 q (fun w => hns ((hsc q hr8).mp w.2)), hfar q hr8]
    · rw [c2 q (fun w => z ?_)]
      · exact c q (fun w => hq ⟨by obtain ⟨⟨r, hr, hu⟩, -⟩ := w; exact ⟨r, by omega, hu⟩, w.2⟩)
      · obtain ⟨⟨j, hj, e⟩, -⟩ := w
        exact ⟨j, by rw [← e16]; exact hj, by rw [← e17]; exact e⟩
  · rw [zup_at h9, d2 κ' i' j' h8, d κ' i' j' h8 h9]
/-- what soliciting for mapping i needs -/
def zWs (M : zMem) (i : Nat) : Prop := (∀ r, r < 3 → zwr M r) ∧ zwp M ∧ zpfx (zV M 4 i 0) (zV M 4 i 1) ∧ 0 ≤ zV M 0 0 6 ∧ zV M 0 0 6 ≤ 1000000
theorem zWs_up {M : zMem} {i κ a b : Nat} {v : Int32} (h : zWs M i) (hk : κ ≠ 16 ∧ κ ≠ 17 ∧ κ ≠ 20 ∧ κ ≠ 4 ∧ κ ≠ 0) : zWs (zup M κ a b v) i := by
  obtain ⟨h1, h2, h3, h4⟩ := h
  refine ⟨fun r hr => zwr_congr (zV_ne (fun e => hk.1 e.symm)) (fun j => zV_ne (fun e => hk.2.1 e.symm)) (h1 r hr), fun q hq => ?_, ?_, ?_⟩
  · rw [zV_ne (fun e => hk.2.2.1 e.symm), zV_ne (fun e => hk.2.2.1 e.symm)]; exact h2 q hq
  · rw [zV_ne (fun e => hk.2.2.2.1 e.symm), zV_ne (fun e => hk.2.2.2.1 e.symm)]; exact h3
  · rw [zV_ne (fun e => hk.2.2.2.2 e.symm)]; exact h4
theorem zWs_sk {M M1 : zMem} {i : Nat} {k : Int} (h : zWs M i) (hk : 0 ≤ k ∧ k ≤ 3) (h2 : zsolk M M1 i k) : (∀ r, r < 3 → zwr M1 r) ∧ zwp M1 ∧ zpfx (zV M1 4 i 0) (zV M1 4 i 1) := by
  obtain ⟨h1, h3, h4, -⟩ := h
  have d := h2.2.2.2
  exact ⟨fun r hr => zwr_congr (zV_of (d _ _ _ (by omega) (by omega))) (fun j => zV_of (d _ _ _ (by omega) (by omega))) (h1 r hr), fun q hq => by rw [zV_of (d 20 q 0 (by omega) (by omega)), zV_of (d 20 q 1 (by omega) (by omega))]; exact h3 q hq, by rw [zV_of (d 4 i 0 (by omega) (by omega)), zV_of (d 4 i 1 (by omega) (by omega))]; exact h4⟩
/-- a mapping's locators lie within -/
def zwl (M : zMem) : Prop := ∀ i : Nat, i < 24 → (0 ≤ zV M 5 i 3 ∧ zV M 5 i 3 ≤ 4) ∧ ∀ j : Nat, j < 4 → 0 ≤ zV M 6 i j ∧ zV M 6 i j < 32
/-- what holds of the class's memory between two calls -/
def zWC (M : zMem) : Prop := zwm M ∧ zwd M ∧ zwp M ∧ (∀ r, r < 3 → zwr M r) ∧ zwl M ∧ (∀ q, q < 24 → zwe M q) ∧ (0 ≤ zV M 0 0 6 ∧ zV M 0 0 6 ≤ 1000000) ∧ (∀ i : Nat, i < 24 → zV M 3 i 3 = 0 ∨ zV M 3 i 3 = 1) ∧ (∀ a : Nat, a < 4 → zV M 10 0 a = 0 ∨ zV M 10 0 a = 1) ∧ (∀ r a : Nat, zV M 18 r a = 0 ∨ zV M 18 r a = 1)
theorem zWC_s {M : zMem} (h : zWC M) {i : Nat} (hi : i < 24) : zWs M i := ⟨h.2.2.2.1, h.2.2.1, h.1.2 i hi, h.2.2.2.2.2.2.1⟩
/-- whether a mapping has a locator with an address -/
def zloc (M : zMem) (i : Nat) (a : Int) : Prop := ∃ j : Nat, (j : Int) < zV M 5 i 3 ∧ zV M 6 i j = a
theorem zplace_n {M : zMem} {i : Nat} {a x : Int} (h : zplace (fun j => zV M 6 i j) (zV M 5 i 3) a x) (hx : x = -1) : ¬ zloc M i a := by
  rcases h with ⟨-, h⟩ | ⟨j, h, -⟩
  · exact fun z => by obtain ⟨j, hj, e⟩ := z; exact h j hj e
  · omega
theorem zplace_y {M : zMem} {i : Nat} {a x : Int} (h : zplace (fun j => zV M 6 i j) (zV M 5 i 3) a x) (hx : ¬ x = -1) : zloc M i a ∧ 0 ≤ x ∧ x < zV M 5 i 3 ∧ zV M 6 i x.toNat = a := by
  rcases h with ⟨h, -⟩ | ⟨j, h, h1, h2, -⟩
  · exact absurd h hx
  · subst h
    exact ⟨⟨j, h1, h2⟩, by omega, h1, h2⟩
/-- the answer for an identifier kept in router r's cache: x is its place -/
def zans (M M' : zMem) (r : Nat) (id x : Int) : Prop := ∃ (mm L : Int) (M1 M2 : zMem), zfnd (zmv M) (zml M) (zmg M) (zmn M) id mm ∧ znar (zmv M) (zml M) (zmg M) (zmn M) id (zown (zml M) mm) L ∧
  zmade M M1 r (zfb id L) L x ∧ M2 = zup (zup M1 20 (zq M1 r x.toNat) 0 (zI (zfb id L))) 20 (zq M1 r x.toNat) 1 (zI L) ∧
  ((mm = -1 ∧ M' = zup (zup (zup (zup M2 19 (zq M1 r x.toNat) 3 (zI (-1))) 21 (zq M1 r x.toNat) 3 (zI 0)) 19 (zq M1 r x.toNat) 5 (zI (zV M 0 0 3 + zV M 0 0 5))) 19 (zq M1 r x.toNat) 6 (zI 0)) ∨
   (mm ≠ -1 ∧ 0 ≤ mm ∧ mm < 24 ∧ zkp M2 M' (zq M1 r x.toNat) mm.toNat mm (zw (zV M 0 0 3 + zV M 0 0 4))))
def zsnt (M M' : zMem) (r : Nat) (id x : Int) : Prop :=
  (∃ (j : Nat) (M1 : zMem), (j : Int) < zV M 16 r 2 ∧ zfit M id (zV M 0 0 3) (zq M r j) ∧ (∀ j' : Nat, j' < j → ¬ zfit M id (zV M 0 0 3) (zq M r j')) ∧ zmte M M1 r j ∧ zsnd M1 M' r (zq M r j) x) ∨
  ((∀ j : Nat, (j : Int) < zV M 16 r 2 → ¬ zfit M id (zV M 0 0 3) (zq M r j)) ∧ ∃ y : Int, zfnd (zdv M) (zdl M) z0 (zdn M) id y ∧
    ((zV M 10 0 (zsv (zdt M) y).toNat ≠ 0 ∧ x = -2 ∧ M' = M) ∨
     (zV M 10 0 (zsv (zdt M) y).toNat = 0 ∧ ∃ (pl : Int) (M1 M2 : zMem), zans (zup M 11 0 (zsv (zdt M) y).toNat (zI (zV M 11 0 (zsv (zdt M) y).toNat + 1))) M1 r id pl ∧ zmte M1 M2 r pl ∧ zsnd M2 M' r (zq M1 r pl.toNat) x)))
