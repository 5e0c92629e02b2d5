noncomputable def zmf (M : zMem) (r : Nat) (u : Int) (j : Nat) : Int := zind (zV M 49 0 (8 * r + j) ≠ 0 ∧ zV M 50 0 (8 * r + j) < u)
noncomputable def zmb (M : zMem) (r : Nat) (u : Int) : Int := zsm (zmf M r u) 8
theorem zmb_s {M : zMem} {a u k : Int} (ha : 0 ≤ a) (hk : 8 * a ≤ k) : zsm (zmf M a.toNat u) (k + 1 - 8 * a).toNat = zsm (zmf M a.toNat u) (k - 8 * a).toNat + zind (zV M 49 0 k.toNat ≠ 0 ∧ zV M 50 0 k.toNat < u) := by
  rw [show (k + 1 - 8 * a).toNat = (k - 8 * a).toNat + 1 by omega]
  show zsm _ _ + zmf M a.toNat u (k - 8 * a).toNat = _
  unfold zmf
  rw [show 8 * a.toNat + (k - 8 * a).toNat = k.toNat by omega]
def zpc (M : zMem) (r : Nat) (n : Int) (j : Nat) : Prop := zV M 49 0 (8 * r + j) ≠ 0 ∧ zmb M r (zV M 50 0 (8 * r + j)) = n
def zpe (M : zMem) (r : Nat) (n x : Int) : Prop := (x = -1 ∧ ∀ j : Nat, j < 8 → ¬ zpc M r n j) ∨ ∃ j : Nat, j < 8 ∧ x = ((8 * r + j : Nat) : Int) ∧ zpc M r n j
def zmft (M : zMem) (id : Int) (q : Nat) : Prop := zV M 49 0 q ≠ 0 ∧ zV M 57 0 q = 0 ∧ zV M 26 0 1 < zV M 56 0 q ∧ zmeet (zV M 52 0 q) (zV M 53 0 q) id 16
def zmef (M : zMem) (r : Nat) (id x : Int) : Prop := (x = -1 ∧ ∀ j : Nat, j < 8 → ¬ zmft M id (8 * r + j)) ∨ ∃ j : Nat, j < 8 ∧ x = ((8 * r + j : Nat) : Int) ∧ zmft M id (8 * r + j)
def zfr1 (M M1 : zMem) (r : Nat) : Prop := (zmb M r (zV M 26 0 21 + 1) = 8 ∧ ∃ j : Nat, j < 8 ∧ zpc M r 0 j ∧ M1 = zup M 49 0 (8 * r + j) (zI 0)) ∨ (¬ zmb M r (zV M 26 0 21 + 1) = 8 ∧ M1 = M)
/-- what making a place free needs: one to take out where there are 8, and a free one then -/
def zhfr (M : zMem) (r : Nat) : Prop := (zmb M r (zV M 26 0 21 + 1) = 8 → ∃ j : Nat, j < 8 ∧ zpc M r 0 j) ∧ ∀ M1, zfr1 M M1 r → ∃ j : Nat, j < 8 ∧ zV M1 49 0 (8 * r + j) = 0
def znu (M : zMem) (r : Nat) (a : Nat) : Int := zV M 63 0 (32 * r + a)
def zna (M : zMem) (q : Nat) (k : Nat) : Int := zV M 59 0 (4 * q + k)
def znpr (M : zMem) (q : Nat) (k : Nat) : Int := zV M 60 0 (4 * q + k)
def znw (M : zMem) (q : Nat) (k : Nat) : Int := zV M 61 0 (4 * q + k)
def znk (M : zMem) (q : Nat) (k : Nat) : Int := zV M 62 0 (4 * q + k)
def znbp (M : zMem) (r q : Nat) : Int := zbp (znu M r) (zna M q) (znpr M q) (zV M 58 0 q).toNat
noncomputable def znS (M : zMem) (r q : Nat) (b : Int) : Int := zsm (zls (znu M r) (zna M q) (znpr M q) (znk M q) b) (zV M 58 0 q).toNat
noncomputable def znW (M : zMem) (r q : Nat) (b : Int) : Int := zsm (zls (znu M r) (zna M q) (znpr M q) (znw M q) b) (zV M 58 0 q).toNat
noncomputable def znchk (M : zMem) (r q : Nat) (b : Int) (k : Nat) : Int × Int := zch (znu M r) (zna M q) (znpr M q) (znw M q) (znk M q) b (znS M r q b) (znW M r q b) k
noncomputable def znch (M : zMem) (r q : Nat) (b : Int) : Int := (znchk M r q b (zV M 58 0 q).toNat).1
/-- a best priority that isn't 4 is some locator's that is looked at -/
theorem zbp_ex {un ad pr : Nat → Int} {n : Nat} (h : zbp un ad pr n ≠ 4) : ∃ j : Nat, j < n ∧ zlk un ad pr (zbp un ad pr n) j := by
  induction n with
  | zero => exact absurd rfl h
  | succ n ih =>
    unfold zbp at h ⊢
    by_cases q : un (ad n).toNat = 0
    · rw [if_pos q] at h ⊢
      by_cases z : zbp un ad pr n ≤ pr n
      · rw [show min (zbp un ad pr n) (pr n) = zbp un ad pr n by omega] at h ⊢
        obtain ⟨j, h1, h2⟩ := ih h
        exact ⟨j, by omega, h2⟩
      · rw [show min (zbp un ad pr n) (pr n) = pr n by omega] at h ⊢
        exact ⟨n, by omega, rfl, q⟩
    · rw [if_neg q] at h ⊢
      obtain ⟨j, h1, h2⟩ := ih h
      exact ⟨j, by omega, h2⟩
theorem zch_ge {un ad pr wt pk : Nat → Int} {b S W : Int} {n : Nat} (h : ∃ j : Nat, j < n ∧ zlk un ad pr b j) : 0 ≤ (zch un ad pr wt pk b S W n).1 := by
  induction n with
  | zero => obtain ⟨j, h1, -⟩ := h; omega
  | succ n ih =>
    have hr := zch_rg un ad pr wt pk b S W n
    unfold zch
    split
    · exact Int.natCast_nonneg _
    · rename_i hc
      by_cases q : (zch un ad pr wt pk b S W n).1 = -1
      · obtain ⟨j, h1, h2⟩ := h
        by_cases z : j = n
        · subst z
          exact absurd ⟨h2, Or.inl q⟩ hc
        · have := ih ⟨j, by omega, h2⟩
          exact this
      · omega
theorem zch_no {un ad pr wt pk : Nat → Int} {b S W : Int} {n : Nat} (h : ∀ j : Nat, j < n → ¬ zlk un ad pr b j) : (zch un ad pr wt pk b S W n).1 = -1 := by
  induction n with
  | zero => rfl
  | succ n ih =>
    unfold zch
    rw [if_neg (fun z => h n (by omega) z.1)]
    exact ih fun j hj => h j (by omega)
/-- the rows of a delegation -/
def zndm (M : zMem) (v b : Int) (i : Nat) : Prop := zndv M i = v ∧ zndl M i = b
def zndp (M : zMem) (i : Nat) (v b t n : Int) : zMem := zup (zup (zup (zup M 44 0 i (zI v)) 45 0 i (zI b)) 46 0 i (zI t)) 26 0 13 (zI n)
/-- entries of a router that meet a prefix taken out -/
def zclr (M M1 : zMem) (a v b k : Int) : Prop := (∀ q : Nat, ((8 * a ≤ q ∧ (q : Int) < k) ∧ zmeet (zV M 52 0 q) (zV M 53 0 q) v b → zV M1 49 0 q = 0) ∧ (¬ ((8 * a ≤ q ∧ (q : Int) < k) ∧ zmeet (zV M 52 0 q) (zV M 53 0 q) v b) → zV M1 49 0 q = zV M 49 0 q)) ∧ ∀ κ' i' j' : Nat, ¬ (κ' = 49 ∧ i' = 0) → M1 κ' i' j' = M κ' i' j'
theorem zclr_0 (M : zMem) (a v b : Int) : zclr M M a v b (8 * a) := ⟨fun q => ⟨fun h => by omega, fun _ => rfl⟩, fun _ _ _ _ => rfl⟩
theorem zclr_1 {M M1 : zMem} {a v b k y : Int} (hk : 0 ≤ k) (hak : 8 * a ≤ k) (h : zclr M M1 a v b k) (hr : zrg y) (hm : zmeet (zV M 52 0 k.toNat) (zV M 53 0 k.toNat) v b → y = 0) (hn : ¬ zmeet (zV M 52 0 k.toNat) (zV M 53 0 k.toNat) v b → y = zV M 49 0 k.toNat) : zclr M (zup M1 49 0 k.toNat (zI y)) a v b (k + 1) := by
  refine ⟨fun q => ⟨fun h1 => ?_, fun h1 => ?_⟩, fun κ' i' j' h9 => by rw [zup_at (fun z => h9 ⟨z.1, z.2.1⟩)]; exact h.2 κ' i' j' h9⟩
  · by_cases e : q = k.toNat
    · subst e; rw [zV_eq hr]; exact hm h1.2
    · rw [zV_nj e]; exact (h.1 q).1 ⟨by omega, h1.2⟩
  · by_cases e : q = k.toNat
    · subst e; rw [zV_eq hr]; exact hn (fun z => h1 ⟨by omega, z⟩)
    · rw [zV_nj e]; exact (h.1 q).2 (fun z => h1 ⟨by omega, z.2⟩)
theorem zWM_clr {M M1 : zMem} {a v b k : Int} (h : zWM M) (hc : zclr M M1 a v b k) : zWM M1 := by
  obtain ⟨a1, a2, a3, a4, a5, a6, a7, a8, a9, a10, a11, a12, a13, a14⟩ := h
  have e : ∀ κ j' : Nat, κ ≠ 49 → zV M1 κ 0 j' = zV M κ 0 j' := fun κ j' q => zV_of (hc.2 κ 0 j' (by omega))
  refine ⟨?_, ?_, ?_, ?_, ?_, ?_, ?_, ?_, ?_, ?_, ?_, ?_, ?_, ?_⟩
  · rw [e _ _ (by decide)]; exact a1
  · intro i hi; rw [e _ _ (by decide), e _ _ (by decide)]; exact a2 i hi
  · intro i hi; rw [e _ _ (by decide)]; exact a3 i hi
  · rw [e _ _ (by decide)]; exact a4
  · intro i hi; rw [e _ _ (by decide), e _ _ (by decide)]; exact a5 i hi
  · intro i hi; rw [e _ _ (by decide)]; exact a6 i hi
  · intro i hi; rw [e _ _ (by decide), e _ _ (by decide)]; exact a7 i hi
  · intro i hi; rw [e _ _ (by decide)]; exact a8 i hi
  · intro i hi; rw [e _ _ (by decide)]; exact a9 i hi
  · intro i hi; rw [e _ _ (by decide)]; exact a10 i hi
  · intro i hi; rw [e _ _ (by decide)]; exact a11 i hi
  · rw [e _ _ (by decide)]; exact a12
  · rw [e _ _ (by decide)]; exact a13
  · intro q hq
    by_cases z : (8 * a ≤ q ∧ (q : Int) < k) ∧ zmeet (zV M 52 0 q) (zV M 53 0 q) v b
    · exact Or.inl ((hc.1 q).1 z)
    · rw [(hc.1 q).2 z]; exact a14 q hq
/-- an entry's locators copied, k of them -/
def zgcp (M M1 : zMem) (x m k : Int) : Prop := (∀ j : Nat, (j : Int) < k → zV M1 59 0 (4 * x + j).toNat = zV M 40 0 (4 * m + j).toNat ∧ zV M1 60 0 (4 * x + j).toNat = zV M 41 0 (4 * m + j).toNat ∧ zV M1 61 0 (4 * x + j).toNat = zV M 42 0 (4 * m + j).toNat ∧ zV M1 62 0 (4 * x + j).toNat = 0) ∧
  ∀ κ' i' j' : Nat, ¬ ((κ' = 59 ∨ κ' = 60 ∨ κ' = 61 ∨ κ' = 62) ∧ i' = 0 ∧ 4 * x ≤ (j' : Int) ∧ (j' : Int) < 4 * x + k) → M1 κ' i' j' = M κ' i' j'
theorem zgcp_0 (M : zMem) (x m : Int) : zgcp M M x m 0 := ⟨fun j h => by omega, fun _ _ _ _ => rfl⟩
theorem zgcp_1 {M M1 : zMem} {x m k x6 x7 x8 : Int} (hx : 0 ≤ x) (hk : 0 ≤ k) (h : zgcp M M1 x m k) (h6 : x6 = zV M1 40 0 (4 * m + k).toNat) (r6 : zrg x6) (h7 : x7 = zV M1 41 0 (4 * m + k).toNat) (r7 : zrg x7) (h8 : x8 = zV M1 42 0 (4 * m + k).toNat) (r8 : zrg x8) : zgcp M (zup (zup (zup (zup M1 59 0 (4 * x + k).toNat (zI x6)) 60 0 (4 * x + k).toNat (zI x7)) 61 0 (4 * x + k).toNat (zI x8)) 62 0 (4 * x + k).toNat (zI 0)) x m (k + 1) := by
  obtain ⟨a, b⟩ := h
  have g6 : x6 = zV M 40 0 (4 * m + k).toNat := h6.trans (zV_of (b _ _ _ (by omega)))
  have g7 : x7 = zV M 41 0 (4 * m + k).toNat := h7.trans (zV_of (b _ _ _ (by omega)))
  have g8 : x8 = zV M 42 0 (4 * m + k).toNat := h8.trans (zV_of (b _ _ _ (by omega)))
  refine ⟨fun j hj => ?_, fun κ' i' j' h9 => ?_⟩
  · by_cases e : (j : Int) = k
    · rw [e]
      refine ⟨?_, ?_, ?_, zV_eq (by decide)⟩
      · rw [zV_ne (by decide), zV_ne (by decide), zV_ne (by decide), zV_eq r6, g6]
      · rw [zV_ne (by decide), zV_ne (by decide), zV_eq r7, g7]
      · rw [zV_ne (by decide), zV_eq r8, g8]
    · have e2 : (4 * x + (j : Int)).toNat ≠ (4 * x + k).toNat := by omega
      obtain ⟨c1, c2, c3, c4⟩ := a j (by omega)
      refine ⟨?_, ?_, ?_, ?_⟩
      · rw [zV_ne (by decide), zV_ne (by decide), zV_ne (by decide), zV_nj e2, c1]
      · rw [zV_ne (by decide), zV_ne (by decide), zV_nj e2, zV_ne (by decide), c2]
      · rw [zV_ne (by decide), zV_nj e2, zV_ne (by decide), zV_ne (by decide), c3]
      · rw [zV_nj e2, zV_ne (by decide), zV_ne (by decide), zV_ne (by decide), c4]
  · rw [zup_at (fun z => h9 ⟨by omega, z.2.1, by omega⟩), zup_at (fun z => h9 ⟨by omega, z.2.1, by omega⟩), zup_at (fun z => h9 ⟨by omega, z.2.1, by omega⟩), zup_at (fun z => h9 ⟨by omega, z.2.1, by omega⟩)]
    exact b κ' i' j' (fun z => h9 ⟨z.1, z.2.1, by omega⟩)
def zmek (M : zMem) (a idn f k : Int) : Prop := (f = -1 ∧ ∀ j : Nat, 8 * a + (j : Int) < k → ¬ zmft M idn (8 * a.toNat + j)) ∨ ∃ j : Nat, j < 8 ∧ f = ((8 * a.toNat + j : Nat) : Int) ∧ zmft M idn (8 * a.toNat + j)
