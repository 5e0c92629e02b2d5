theorem zsm_k {f : Nat → Int} {b k : Int} (hk : b ≤ k) : zsm f (k + 1 - b).toNat = zsm f (k - b).toNat + f (k - b).toNat := by
  rw [show (k + 1 - b).toNat = (k - b).toNat + 1 by omega]
  rfl
def zgset (M : zMem) (x v L mm ver en mn : Int) : zMem := zup (zup (zup (zup (zup (zup (zup (zup M 49 0 x.toNat (zI 1)) 52 0 x.toNat (zI v)) 53 0 x.toNat (zI L)) 54 0 x.toNat (zI mm)) 55 0 x.toNat (zI ver)) 56 0 x.toNat (zI en)) 57 0 x.toNat (zI 0)) 58 0 x.toNat (zI mn)
/-- the answer for an identifier made an entry: x is its place -/
def zgot (M M' : zMem) (a idn x : Int) : Prop := ∃ (mm L : Int) (M1 M2 : zMem), zfnd (znv M) (znl M) (zng M) (znn M) idn mm ∧ znb M idn mm L ∧ zclr M M1 a (zfb idn L) L (8 * a + 8) ∧ zfr1 M1 M2 a.toNat ∧ (8 * a ≤ x ∧ x < 8 * a + 8) ∧ zV M2 49 0 x.toNat = 0 ∧
  zgcp (zgset M2 x (zfb idn L) L mm (if mm = -1 then 0 else zV M 38 0 mm.toNat) (zV M 26 0 1 + (if mm = -1 then zV M 26 0 3 else zV M 26 0 2)) (if mm = -1 then 0 else zV M 39 0 mm.toNat)) M' x mm (if mm = -1 then 0 else zV M 39 0 mm.toNat)
theorem zWM_fr1 {M M1 : zMem} {r : Nat} (h : zWM M) (h1 : zfr1 M M1 r) : zWM M1 := by
  rcases h1 with ⟨-, j, -, -, e⟩ | ⟨-, e⟩
  · subst e
    obtain ⟨a1, a2, a3, a4, a5, a6, a7, a8, a9, a10, a11, a12, a13, a14⟩ := h
    refine ⟨?_, ?_, ?_, ?_, ?_, ?_, ?_, ?_, ?_, ?_, ?_, ?_, ?_, ?_⟩
    · rw [zV_ne (by decide)]; exact a1
    · intro i hi; rw [zV_ne (by decide), zV_ne (by decide)]; exact a2 i hi
    · intro i hi; rw [zV_ne (by decide)]; exact a3 i hi
    · rw [zV_ne (by decide)]; exact a4
    · intro i hi; rw [zV_ne (by decide), zV_ne (by decide)]; exact a5 i hi
    · intro i hi; rw [zV_ne (by decide)]; exact a6 i hi
    · intro i hi; rw [zV_ne (by decide), zV_ne (by decide)]; exact a7 i hi
    · intro i hi; rw [zV_ne (by decide)]; exact a8 i hi
    · intro i hi; rw [zV_ne (by decide)]; exact a9 i hi
    · intro i hi; rw [zV_ne (by decide)]; exact a10 i hi
    · intro i hi; rw [zV_ne (by decide)]; exact a11 i hi
    · rw [zV_ne (by decide)]; exact a12
    · rw [zV_ne (by decide)]; exact a13
    · intro q hq
      by_cases z : q = 8 * r + j
      · subst z; exact Or.inl (zV_eq (by decide))
      · rw [zV_nj z]; exact a14 q hq
  · subst e; exact h
theorem zgset_V {M : zMem} {x v L mm ver en mn : Int} (κ q : Nat) : zV (zgset M x v L mm ver en mn) κ 0 q = if q = x.toNat then (if κ = 49 then 1 else if κ = 52 then zw v else if κ = 53 then zw L else if κ = 54 then zw mm else if κ = 55 then zw ver else if κ = 56 then zw en else if κ = 57 then 0 else if κ = 58 then zw mn else zV M κ 0 q) else zV M κ 0 q := by
  unfold zgset
  by_cases h : q = x.toNat
  · subst h
    rw [if_pos rfl]
    by_cases h8 : κ = 58
    · subst h8; rw [zV_upw]; simp
    rw [zV_ne h8]
    by_cases h7 : κ = 57
    · subst h7; rw [zV_upw]; simp; exact zw_eq (by decide)
    rw [zV_ne h7]
    by_cases h6 : κ = 56
    · subst h6; rw [zV_upw]; simp
    rw [zV_ne h6]
    by_cases h5 : κ = 55
    · subst h5; rw [zV_upw]; simp
    rw [zV_ne h5]
    by_cases h4 : κ = 54
    · subst h4; rw [zV_upw]; simp
    rw [zV_ne h4]
    by_cases h3 : κ = 53
    · subst h3; rw [zV_upw]; simp
    rw [zV_ne h3]
    by_cases h2 : κ = 52
    · subst h2; rw [zV_upw]; simp
    rw [zV_ne h2]
    by_cases h1 : κ = 49
    · subst h1; rw [zV_upw]; simp; exact zw_eq (by decide)
    rw [zV_ne h1]
    simp [h1, h2, h3, h4, h5, h6, h7, h8]
  · rw [if_neg h, zV_nj h, zV_nj h, zV_nj h, zV_nj h, zV_nj h, zV_nj h, zV_nj h, zV_nj h]
theorem zgset_o {M : zMem} {x v L mm ver en mn : Int} {κ q : Nat} (h : ¬ (49 ≤ κ ∧ κ ≤ 58)) : zV (zgset M x v L mm ver en mn) κ 0 q = zV M κ 0 q := by
  rw [zgset_V]
  split
  · simp only [show κ ≠ 49 by omega, show κ ≠ 52 by omega, show κ ≠ 53 by omega, show κ ≠ 54 by omega, show κ ≠ 55 by omega, show κ ≠ 56 by omega, show κ ≠ 57 by omega, show κ ≠ 58 by omega, if_false]
  · rfl
theorem zWM_gset {M : zMem} {x v L mm ver en mn : Int} (h : zWM M) (hx : 0 ≤ x ∧ x < 24) (hv : zpfx v L) (hm : -1 ≤ mm ∧ mm < 24) (hn : 0 ≤ mn ∧ mn ≤ 4) : zWM (zgset M x v L mm ver en mn) := by
  obtain ⟨a1, a2, a3, a4, a5, a6, a7, a8, a9, a10, a11, a12, a13, a14⟩ := h
  obtain ⟨v0, v1, v2, v3⟩ := hv
  refine ⟨?_, ?_, ?_, ?_, ?_, ?_, ?_, ?_, ?_, ?_, ?_, ?_, ?_, ?_⟩
  · rw [zgset_o (by omega)]; exact a1
  · intro i hi; rw [zgset_o (by omega), zgset_o (by omega)]; exact a2 i hi
  · intro i hi; rw [zgset_o (by omega)]; exact a3 i hi
  · rw [zgset_o (by omega)]; exact a4
  · intro i hi; rw [zgset_o (by omega), zgset_o (by omega)]; exact a5 i hi
  · intro i hi; rw [zgset_o (by omega)]; exact a6 i hi
  · intro q hq
    rw [zgset_V, zgset_V]
    by_cases z : q = x.toNat
    · rw [if_pos z, if_pos z]
      simp only [show (52 : Nat) ≠ 49 by decide, show (53 : Nat) ≠ 49 by decide, show (53 : Nat) ≠ 52 by decide, if_false, if_true]
      rw [zw_eq (by omega), zw_eq (by omega)]
      exact ⟨v0, v1, v2, v3⟩
    · rw [if_neg z, if_neg z]; exact a7 q hq
  · intro q hq
    rw [zgset_V]
    by_cases z : q = x.toNat
    · rw [if_pos z]
      simp only [show (58 : Nat) ≠ 49 by decide, show (58 : Nat) ≠ 52 by decide, show (58 : Nat) ≠ 53 by decide, show (58 : Nat) ≠ 54 by decide, show (58 : Nat) ≠ 55 by decide, show (58 : Nat) ≠ 56 by decide, show (58 : Nat) ≠ 57 by decide, if_false, if_true]
      rw [zw_eq (by omega)]
      exact hn
    · rw [if_neg z]; exact a8 q hq
  · intro q hq
    rw [zgset_V]
    by_cases z : q = x.toNat
    · rw [if_pos z]
      simp only [show (54 : Nat) ≠ 49 by decide, show (54 : Nat) ≠ 52 by decide, show (54 : Nat) ≠ 53 by decide, if_false, if_true]
      rw [zw_eq (by omega)]
      exact hm
    · rw [if_neg z]; exact a9 q hq
  · intro i hi; rw [zgset_o (by omega)]; exact a10 i hi
  · intro i hi; rw [zgset_o (by omega)]; exact a11 i hi
  · rw [zgset_o (by omega)]; exact a12
  · rw [zgset_o (by omega)]; exact a13
  · intro q hq
    rw [zgset_V]
    by_cases z : q = x.toNat
    · rw [if_pos z]; right; simp
    · rw [if_neg z]; exact a14 q hq
theorem zWM_gcp {M M' : zMem} {x m k : Int} (h : zWM M) (hx : 0 ≤ x ∧ x < 24) (hm : 0 ≤ k ∧ (k = 0 ∨ (0 ≤ m ∧ m < 24)) ∧ k ≤ 4) (hc : zgcp M M' x m k) : zWM M' := by
  obtain ⟨a1, a2, a3, a4, a5, a6, a7, a8, a9, a10, a11, a12, a13, a14⟩ := h
  have e : ∀ κ j' : Nat, κ ≠ 59 → κ ≠ 60 → κ ≠ 61 → κ ≠ 62 → zV M' κ 0 j' = zV M κ 0 j' := fun κ j' q1 q2 q3 q4 => zV_of (hc.2 κ 0 j' (by omega))
  refine ⟨?_, ?_, ?_, ?_, ?_, ?_, ?_, ?_, ?_, ?_, ?_, ?_, ?_, ?_⟩
  · rw [e _ _ (by decide) (by decide) (by decide) (by decide)]; exact a1
  · intro i hi; rw [e _ _ (by decide) (by decide) (by decide) (by decide), e _ _ (by decide) (by decide) (by decide) (by decide)]; exact a2 i hi
  · intro i hi; rw [e _ _ (by decide) (by decide) (by decide) (by decide)]; exact a3 i hi
  · rw [e _ _ (by decide) (by decide) (by decide) (by decide)]; exact a4
  · intro i hi; rw [e _ _ (by decide) (by decide) (by decide) (by decide), e _ _ (by decide) (by decide) (by decide) (by decide)]; exact a5 i hi
  · intro i hi; rw [e _ _ (by decide) (by decide) (by decide) (by decide)]; exact a6 i hi
  · intro i hi; rw [e _ _ (by decide) (by decide) (by decide) (by decide), e _ _ (by decide) (by decide) (by decide) (by decide)]; exact a7 i hi
  · intro i hi; rw [e _ _ (by decide) (by decide) (by decide) (by decide)]; exact a8 i hi
  · intro i hi; rw [e _ _ (by decide) (by decide) (by decide) (by decide)]; exact a9 i hi
  · intro i hi
    by_cases z : 4 * x ≤ (i : Int) ∧ (i : Int) < 4 * x + k
    · have h1 := (hc.1 ((i : Int) - 4 * x).toNat (by omega)).1
      rw [show (4 * x + ((((i : Int) - 4 * x).toNat : Nat) : Int)).toNat = i by omega] at h1
      rw [h1]
      exact a11 _ (by omega)
    · rw [zV_of (hc.2 59 0 i (fun w => z w.2.2))]; exact a10 i hi
  · intro i hi; rw [e _ _ (by decide) (by decide) (by decide) (by decide)]; exact a11 i hi
  · rw [e _ _ (by decide) (by decide) (by decide) (by decide)]; exact a12
  · rw [e _ _ (by decide) (by decide) (by decide) (by decide)]; exact a13
  · intro i hi; rw [e _ _ (by decide) (by decide) (by decide) (by decide)]; exact a14 i hi
theorem zWM_got {M M' : zMem} {a idn x : Int} (h : zWM M) (ha : 0 ≤ a ∧ a < 3) (hid : 0 ≤ idn ∧ idn < 65536) (hg : zgot M M' a idn x) : zWM M' := by
  obtain ⟨mm, L, M1, M2, h1, h2, h3, h4, h5, h6, h7⟩ := hg
  have hm := zfnd_rg h1
  have hn : znn M = zV M 26 0 4 := rfl
  have hn2 := h.1
  have hL := znb_0 h (by omega) h2
  have hr := zfb_rg hid.1 hid.2 hL h2.2.1
  have hmn : 0 ≤ (if mm = -1 then 0 else zV M 39 0 mm.toNat) ∧ (if mm = -1 then 0 else zV M 39 0 mm.toNat) ≤ 4 := by
    split
    · omega
    · exact h.2.2.1 _ (by omega)
  refine zWM_gcp (zWM_gset (zWM_fr1 (zWM_clr h h3) h4) (by omega) ⟨hr.1, by omega, hL, h2.2.1⟩ (by omega) hmn) (by omega) ⟨hmn.1, ?_, hmn.2⟩ h7
  by_cases z : mm = -1
  · rw [if_pos z]; exact Or.inl rfl
  · exact Or.inr (by omega)
/-- what a packet makes of an entry x: its answer, and the memory then -/
def zmfin (M1 M' : zMem) (a x y : Int) : Prop := ∃ M2, M2 = zup (zup M1 26 0 21 (zI (zV M1 26 0 21 + 1))) 50 0 x.toNat (zI (zV M1 26 0 21 + 1)) ∧
  ((zV M2 54 0 x.toNat = -1 ∧ y = -1 ∧ M' = M2) ∨ (¬ zV M2 54 0 x.toNat = -1 ∧ znbp M2 a.toNat x.toNat = 4 ∧ y = -3 ∧ M' = M2) ∨
   (¬ zV M2 54 0 x.toNat = -1 ∧ ¬ znbp M2 a.toNat x.toNat = 4 ∧ y = zna M2 x.toNat (znch M2 a.toNat x.toNat (znbp M2 a.toNat x.toNat)).toNat ∧
     M' = zup M2 62 0 (4 * x.toNat + (znch M2 a.toNat x.toNat (znbp M2 a.toNat x.toNat)).toNat) (zI (znk M2 x.toNat (znch M2 a.toNat x.toNat (znbp M2 a.toNat x.toNat)).toNat + 1))))
def zmsnt (M0 M' : zMem) (a idn y : Int) : Prop := (∃ x : Int, ¬ x = -1 ∧ zmef M0 a.toNat idn x ∧ zmfin M0 M' a x y) ∨
  (zmef M0 a.toNat idn (-1) ∧ ∃ w : Int, zfnd (zndv M0) (zndl M0) z0 (zndn M0) idn w ∧
    ((zV M0 47 0 (zsv (zndt M0) w).toNat ≠ 0 ∧ y = -2 ∧ M' = M0) ∨
     (zV M0 47 0 (zsv (zndt M0) w).toNat = 0 ∧ ∃ (x : Int) (M1 : zMem), zgot (zup M0 48 0 (zsv (zndt M0) w).toNat (zI (zV M0 48 0 (zsv (zndt M0) w).toNat + 1))) M1 a idn x ∧ zmfin M1 M' a x y)))
theorem zWM_up {M : zMem} {κ j : Nat} {v : Int32} (h : zWM M) (hk : κ = 50 ∨ κ = 48 ∨ κ = 62 ∨ κ = 47) : zWM (zup M κ 0 j v) := zWM_ne h (by unfold zWMk; omega)
theorem zWM_uses {M : zMem} {x : Int} (h : zWM M) (hx : 0 ≤ x ∧ x ≤ 1000000) : zWM (zup M 26 0 21 (zI x)) := by
  obtain ⟨a1, a2, a3, a4, a5, a6, a7, a8, a9, a10, a11, a12, a13, a14⟩ := h
  refine ⟨?_, ?_, ?_, ?_, ?_, ?_, ?_, ?_, ?_, ?_, ?_, ?_, ?_, ?_⟩
  · rw [zV_nj (by decide)]; exact a1
  · intro i hi; rw [zV_ne (by decide), zV_ne (by decide)]; exact a2 i hi
  · intro i hi; rw [zV_ne (by decide)]; exact a3 i hi
  · rw [zV_nj (by decide)]; exact a4
  · intro i hi; rw [zV_ne (by decide), zV_ne (by decide)]; exact a5 i hi
  · intro i hi; rw [zV_ne (by decide)]; exact a6 i hi
  · intro i hi; rw [zV_ne (by decide), zV_ne (by decide)]; exact a7 i hi
  · intro i hi; rw [zV_ne (by decide)]; exact a8 i hi
  · intro i hi; rw [zV_ne (by decide)]; exact a9 i hi
  · intro i hi; rw [zV_ne (by decide)]; exact a10 i hi
  · intro i hi; rw [zV_ne (by decide)]; exact a11 i hi
  · rw [zV_nj (by decide)]; exact a12
  · rw [zV_eq (by omega)]; exact hx
  · intro i hi; rw [zV_ne (by decide)]; exact a14 i hi
theorem zgot_x {M M' : zMem} {a idn x : Int} (h : zgot M M' a idn x) : 8 * a ≤ x ∧ x < 8 * a + 8 := by
  obtain ⟨mm, L, M1, M2, h1, h2, h3, h4, h5, h6, h7⟩ := h
  exact h5
theorem zgot_u {M M' : zMem} {a idn x : Int} (h : zgot M M' a idn x) : zV M' 26 0 21 = zV M 26 0 21 := by
  obtain ⟨mm, L, M1, M2, h1, h2, h3, h4, h5, h6, h7⟩ := h
  rw [zV_of (h7.2 26 0 21 (by omega)), zgset_o (by omega)]
  have e1 : zV M1 26 0 21 = zV M 26 0 21 := zV_of (h3.2 26 0 21 (by omega))
  rcases h4 with ⟨-, j, -, -, e⟩ | ⟨-, e⟩
  · rw [e, zV_ne (by decide)]; exact e1
  · rw [e]; exact e1
/-- the packets of an entry's locator, if it is the address d -/
def zpkm (M : zMem) (q d : Int) (j : Nat) : Int := if zV M 59 0 (4 * q.toNat + j) = d then zV M 62 0 (4 * q.toNat + j) else 0
theorem zpkm_t {M : zMem} {q d : Int} {j k : Nat} (h : 4 * q.toNat + j = k) (hc : zV M 59 0 k = d) : zpkm M q d j = zV M 62 0 k := by
  unfold zpkm; rw [h, if_pos hc]
theorem zpkm_f {M : zMem} {q d : Int} {j k : Nat} (h : 4 * q.toNat + j = k) (hc : ¬ zV M 59 0 k = d) : zpkm M q d j = 0 := by
  unfold zpkm; rw [h, if_neg hc]
