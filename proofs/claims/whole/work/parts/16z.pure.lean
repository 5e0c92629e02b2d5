/-! the reference's rows -/
def znv (M : zMem) (i : Nat) : Int := zV M 35 0 i
def znl (M : zMem) (i : Nat) : Int := zV M 36 0 i
def zng (M : zMem) (i : Nat) : Int := zV M 37 0 i
def znn (M : zMem) : Int := zV M 26 0 4
def zndv (M : zMem) (i : Nat) : Int := zV M 44 0 i
def zndl (M : zMem) (i : Nat) : Int := zV M 45 0 i
def zndn (M : zMem) : Int := zV M 26 0 13
def zndt (M : zMem) (i : Nat) : Int := zV M 46 0 i
/-- thrown is set, all else stays -/
def zthr (M M' : zMem) (k : Int) : Prop := zV M' 26 0 0 = k ∧ ∀ κ' i' j' : Nat, ¬ (κ' = 26 ∧ i' = 0 ∧ j' = 0) → M' κ' i' j' = M κ' i' j'
theorem zthr_1 (M : zMem) {k : Int} (h : zrg k) : zthr M (zup M 26 0 0 (zI k)) k := ⟨zV_eq h, fun κ' i' j' h => zup_at h⟩
theorem zthr_2 (M : zMem) {k : Int} (v : Int32) (h : zrg k) : zthr M (zup (zup M 26 0 0 v) 26 0 0 (zI k)) k := ⟨zV_eq h, fun κ' i' j' h => by rw [zup_at h, zup_at h]⟩
/-- what holds of the reference's memory between two calls -/
def zWM (M : zMem) : Prop := (0 ≤ zV M 26 0 4 ∧ zV M 26 0 4 ≤ 24) ∧ (∀ i : Nat, i < 24 → zpfx (zV M 35 0 i) (zV M 36 0 i)) ∧ (∀ i : Nat, i < 24 → 0 ≤ zV M 39 0 i ∧ zV M 39 0 i ≤ 4) ∧
  (0 ≤ zV M 26 0 13 ∧ zV M 26 0 13 ≤ 12) ∧ (∀ i : Nat, i < 12 → zpfx (zV M 44 0 i) (zV M 45 0 i)) ∧ (∀ i : Nat, i < 12 → 0 ≤ zV M 46 0 i ∧ zV M 46 0 i < 4) ∧
  (∀ q : Nat, q < 24 → zpfx (zV M 52 0 q) (zV M 53 0 q)) ∧ (∀ q : Nat, q < 24 → 0 ≤ zV M 58 0 q ∧ zV M 58 0 q ≤ 4) ∧ (∀ q : Nat, q < 24 → -1 ≤ zV M 54 0 q ∧ zV M 54 0 q < 24) ∧
  (∀ k : Nat, k < 96 → 0 ≤ zV M 59 0 k ∧ zV M 59 0 k < 32) ∧ (∀ k : Nat, k < 96 → 0 ≤ zV M 40 0 k ∧ zV M 40 0 k < 32) ∧ (0 ≤ zV M 26 0 34 ∧ zV M 26 0 34 ≤ 1000000) ∧ (0 ≤ zV M 26 0 21 ∧ zV M 26 0 21 ≤ 1000000) ∧ (∀ q : Nat, q < 24 → zV M 49 0 q = 0 ∨ zV M 49 0 q = 1)
def zWMk (κ j : Nat) : Prop := (κ = 26 ∧ (j = 4 ∨ j = 13 ∨ j = 34 ∨ j = 21)) ∨ κ = 35 ∨ κ = 36 ∨ κ = 39 ∨ κ = 40 ∨ κ = 44 ∨ κ = 45 ∨ κ = 46 ∨ κ = 49 ∨ κ = 52 ∨ κ = 53 ∨ κ = 54 ∨ κ = 58 ∨ κ = 59
theorem zWM_congr {M M' : zMem} (h : zWM M) (hm : ∀ κ i' j' : Nat, zWMk κ j' → zV M' κ i' j' = zV M κ i' j') : zWM M' := by
  obtain ⟨a1, a2, a3, a4, a5, a6, a7, a8, a9, a10, a11, a12, a13, a14⟩ := h
  have e : ∀ κ j' : Nat, zWMk κ j' → zV M' κ 0 j' = zV M κ 0 j' := fun κ j' q => hm κ 0 j' q
  refine ⟨?_, ?_, ?_, ?_, ?_, ?_, ?_, ?_, ?_, ?_, ?_, ?_, ?_, ?_⟩
  · rw [e _ _ (by unfold zWMk; omega)]; exact a1
  · intro i hi; rw [e _ _ (by unfold zWMk; omega), e _ _ (by unfold zWMk; omega)]; exact a2 i hi
  · intro i hi; rw [e _ _ (by unfold zWMk; omega)]; exact a3 i hi
  · rw [e _ _ (by unfold zWMk; omega)]; exact a4
  · intro i hi; rw [e _ _ (by unfold zWMk; omega), e _ _ (by unfold zWMk; omega)]; exact a5 i hi
  · intro i hi; rw [e _ _ (by unfold zWMk; omega)]; exact a6 i hi
  · intro i hi; rw [e _ _ (by unfold zWMk; omega), e _ _ (by unfold zWMk; omega)]; exact a7 i hi
  · intro i hi; rw [e _ _ (by unfold zWMk; omega)]; exact a8 i hi
  · intro i hi; rw [e _ _ (by unfold zWMk; omega)]; exact a9 i hi
  · intro i hi; rw [e _ _ (by unfold zWMk; omega)]; exact a10 i hi
  · intro i hi; rw [e _ _ (by unfold zWMk; omega)]; exact a11 i hi
  · rw [e _ _ (by unfold zWMk; omega)]; exact a12
  · rw [e _ _ (by unfold zWMk; omega)]; exact a13
  · intro i hi; rw [e _ _ (by unfold zWMk; omega)]; exact a14 i hi
theorem zWM_thr {M M' : zMem} {k : Int} (h : zWM M) (ht : zthr M M' k) : zWM M' := zWM_congr h fun κ i' j' q => zV_of (ht.2 κ i' j' (by unfold zWMk at q; omega))
theorem zWM_up0 {M : zMem} {v : Int32} (h : zWM M) : zWM (zup M 26 0 0 v) := zWM_congr h fun κ i' j' q => by rw [zV_upg, if_neg (by unfold zWMk at q; omega)]
/-- an entry that a change of mapping m solicits newly, told by the reference -/
def zms (M : zMem) (m q : Nat) : Prop := zV M 49 0 q ≠ 0 ∧ zV M 57 0 q = 0 ∧ zmeet (zV M 52 0 q) (zV M 53 0 q) (zV M 35 0 m) (zV M 36 0 m)
def zmsk (M M1 : zMem) (m : Nat) (k : Int) : Prop := zV M1 26 0 34 = zV M 26 0 34 + zsm (fun q => zind (zms M m q)) k.toNat ∧ (∀ q : Nat, (q : Int) < k → zms M m q → zV M1 57 0 q = 1) ∧ (∀ q : Nat, ¬ ((q : Int) < k ∧ zms M m q) → zV M1 57 0 q = zV M 57 0 q) ∧
  ∀ κ' i' j' : Nat, κ' ≠ 57 → ¬ (κ' = 26 ∧ j' = 34) → M1 κ' i' j' = M κ' i' j'
theorem zmsk_0 (M : zMem) (m : Nat) : zmsk M M m 0 := ⟨(Int.add_zero _).symm, fun q h => by omega, fun _ _ => rfl, fun _ _ _ _ _ => rfl⟩
theorem zmsk_f {M M1 : zMem} {m : Nat} {k : Int} (hk : 0 ≤ k) (h : zmsk M M1 m k) (hc : ¬ zms M m k.toNat) : zmsk M M1 m (k + 1) := by
  obtain ⟨a, b, c, d⟩ := h
  refine ⟨by rw [a, zsm_s _ hk, zind_f hc, Int.add_zero], fun q hq hs => ?_, fun q hq => c q (fun z => hq ⟨by omega, z.2⟩), d⟩
  by_cases z : (q : Int) < k
  · exact b q z hs
  · rw [show k.toNat = q by omega] at hc
    exact absurd hs hc
theorem zmsk_t {M M1 : zMem} {m : Nat} {k x : Int} (hk : 0 ≤ k) (hk24 : k < 24) (hs : 0 ≤ zV M 26 0 34 ∧ zV M 26 0 34 ≤ 1000000) (h : zmsk M M1 m k) (hc : zms M m k.toNat) (hx : x = zV M1 26 0 34) : zmsk M (zup (zup M1 57 0 k.toNat (zI 1)) 26 0 34 (zI (x + 1))) m (k + 1) := by
  obtain ⟨a, b, c, d⟩ := h
  have h1 := zsm_01 (f := fun q => zind (zms M m q)) (fun _ => zind_rg _) k.toNat
  refine ⟨?_, fun q hq hs1 => ?_, fun q hq => ?_, fun κ' i' j' h8 h9 => ?_⟩
  · rw [zV_eq (by rw [hx, a]; omega), zsm_s _ hk, zind_t hc, hx, a]
    omega
  · rw [zV_ne (by decide)]
    by_cases e : q = k.toNat
    · subst e; exact zV_eq (by decide)
    · rw [zV_nj e]; exact b q (by omega) hs1
  · rw [zV_ne (by decide)]
    by_cases e : q = k.toNat
    · subst e; exact absurd ⟨by omega, hc⟩ hq
    · rw [zV_nj e]; exact c q (fun z => hq ⟨by omega, z.2⟩)
  · rw [zup_at (fun z => h9 ⟨z.1, z.2.2⟩), zup_at (fun z => h8 z.1)]
    exact d κ' i' j' h8 h9
/-- whether the first bits of id meet the prefix of a mapping that counts for an answer -/
def znh (M : zMem) (id L a : Int) : Prop := ∃ i : Nat, (i : Int) < znn M ∧ zng M i = 0 ∧ (i : Int) ≠ a ∧ (a = -1 ∨ znl M a.toNat ≤ znl M i ∧ zmeet (znv M a.toNat) (znl M a.toNat) (znv M i) 16) ∧ zmeet id L (znv M i) (znl M i)
def znb (M : zMem) (id a x : Int) : Prop := (if a = -1 then 0 else znl M a.toNat) ≤ x ∧ x ≤ 16 ∧ (∀ L : Int, (if a = -1 then 0 else znl M a.toNat) ≤ L → L < x → znh M id L a) ∧ ¬ znh M id x a
/-- a locator's place by the reference -/
def znp (M : zMem) (m : Nat) (a x : Int) : Prop := (x = -1 ∧ ∀ j : Nat, (j : Int) < zV M 39 0 m → zV M 40 0 (4 * m + j) ≠ a) ∨ ∃ j : Nat, x = ((4 * m + j : Nat) : Int) ∧ (j : Int) < zV M 39 0 m ∧ zV M 40 0 (4 * m + j) = a
def znhas (M : zMem) (v b : Int) : Prop := ∃ i : Nat, (i : Int) < znn M ∧ zng M i = 0 ∧ znv M i = v ∧ znl M i = b
def znreg (M : zMem) (v b : Int) : zMem := zup (zup (zup (zup M 26 0 4 (zI (zV M 26 0 4 + 1))) 35 0 (zV M 26 0 4).toNat (zI v)) 36 0 (zV M 26 0 4).toNat (zI b)) 38 0 (zV M 26 0 4).toNat (zI 1)
def znver (M : zMem) (m : Nat) : zMem := zup M 38 0 m (zI (zV M 38 0 m + 1))
def znadl (M : zMem) (m : Nat) (a b w : Int) : zMem := zup (zup (zup (zup M 39 0 m (zI (zV M 39 0 m + 1))) 40 0 (4 * (m : Int) + zV M 39 0 m).toNat (zI a)) 41 0 (4 * (m : Int) + zV M 39 0 m).toNat (zI b)) 42 0 (4 * (m : Int) + zV M 39 0 m).toNat (zI w)
theorem zmeet_comm {v b w d : Int} : zmeet v b w d ↔ zmeet w d v b := by
  unfold zmeet
  rw [show min b d = min d b by omega]
  exact eq_comm
theorem zWM_ne {M : zMem} {κ i j : Nat} {v : Int32} (h : zWM M) (hk : ¬ zWMk κ j) : zWM (zup M κ i j v) := zWM_congr h fun κ' i' j' q => by rw [zV_upg, if_neg (fun z => hk (by rw [← z.1, ← z.2.2]; exact q))]
theorem zWM_ver {M : zMem} {m : Nat} {v : Int32} (h : zWM M) : zWM (zup M 38 0 m v) := zWM_ne h (by unfold zWMk; omega)
theorem zWM_reg {M : zMem} {v b x y : Int} {s1 s2 s3 : Int32} (h : zWM M) (hv : zpfx v b) (hlt : zV M 26 0 4 < 24) (hx : x = zV M 26 0 4) (hy : y = zV M 26 0 4) : zWM (zup (zup (zup (zup (zup (zup M 26 0 0 s1) 26 0 0 s2) 26 0 4 (zI (y + 1))) 35 0 x.toNat (zI v)) 36 0 x.toNat (zI b)) 38 0 x.toNat s3) := by
  refine zWM_ver ?_
  have h0 : zWM (zup (zup M 26 0 0 s1) 26 0 0 s2) := zWM_up0 (zWM_up0 h)
  have e : zV (zup (zup M 26 0 0 s1) 26 0 0 s2) 26 0 4 = zV M 26 0 4 := by rw [zV_nj (by decide), zV_nj (by decide)]
  generalize zup (zup M 26 0 0 s1) 26 0 0 s2 = M0 at h0 e ⊢
  obtain ⟨a1, a2, a3, a4, a5, a6, a7, a8, a9, a10, a11, a12, a13, a14⟩ := h0
  obtain ⟨v0, v1, v2, v3⟩ := hv
  refine ⟨?_, ?_, ?_, ?_, ?_, ?_, ?_, ?_, ?_, ?_, ?_, ?_, ?_, ?_⟩
  · rw [zV_ne (by decide), zV_ne (by decide), zV_eq (by omega)]; omega
  · intro i hi
    by_cases q : i = x.toNat
    · subst q
      rw [zV_ne (by decide), zV_eq (by omega), zV_eq (by omega)]; exact ⟨v0, v1, v2, v3⟩
    · rw [zV_ne (by decide), zV_nj q, zV_nj q, zV_ne (by decide), zV_ne (by decide), zV_ne (by decide)]; exact a2 i hi
  · intro i hi; rw [zV_ne (by decide), zV_ne (by decide), zV_ne (by decide)]; exact a3 i hi
  · rw [zV_ne (by decide), zV_ne (by decide), zV_nj (by decide)]; exact a4
  · intro i hi; rw [zV_ne (by decide), zV_ne (by decide), zV_ne (by decide), zV_ne (by decide), zV_ne (by decide), zV_ne (by decide)]; exact a5 i hi
  · intro i hi; rw [zV_ne (by decide), zV_ne (by decide), zV_ne (by decide)]; exact a6 i hi
  · intro i hi; rw [zV_ne (by decide), zV_ne (by decide), zV_ne (by decide), zV_ne (by decide), zV_ne (by decide), zV_ne (by decide)]; exact a7 i hi
  · intro i hi; rw [zV_ne (by decide), zV_ne (by decide), zV_ne (by decide)]; exact a8 i hi
  · intro i hi; rw [zV_ne (by decide), zV_ne (by decide), zV_ne (by decide)]; exact a9 i hi
  · intro i hi; rw [zV_ne (by decide), zV_ne (by decide), zV_ne (by decide)]; exact a10 i hi
  · intro i hi; rw [zV_ne (by decide), zV_ne (by decide), zV_ne (by decide)]; exact a11 i hi
  · rw [zV_ne (by decide), zV_ne (by decide), zV_nj (by decide)]; exact a12
  · rw [zV_ne (by decide), zV_ne (by decide), zV_nj (by decide)]; exact a13
  · intro i hi; rw [zV_ne (by decide), zV_ne (by decide), zV_ne (by decide)]; exact a14 i hi
