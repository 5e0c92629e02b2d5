/-! steps of the law's loops -/
theorem iA_l {n : Nat} {M : zMem} (h : iA n M M) (i : Nat) : 0 ≤ zml M i ∨ ¬ (i : Int) < zmn M := by
  by_cases q : (i : Int) < zV M 1 0 1
  · exact Or.inl (iA_m h q).1.1.2.2.1
  · exact Or.inr q
theorem iB_d {C D : zMem} (h : iB C D) {i : Nat} (hi : (i : Int) < zV C 9 0 4) : zpfx (zdv C i) (zdl C i) ∧ zV D 29 0 i = 32 * zdv C i + zdl C i + 4194304 * zdt C i ∧ 0 ≤ zdt C i ∧ zdt C i < 4 := by
  have h1 := h.1.1
  obtain ⟨a1, a2⟩ := h.2.1 i (by omega)
  exact ⟨a1, h.2.2.1 i hi, a2⟩
theorem iB_l {M : zMem} (h : iB M M) (i : Nat) : 0 ≤ zdl M i ∨ ¬ (i : Int) < zdn M := by
  by_cases q : (i : Int) < zV M 9 0 4
  · exact Or.inl (iB_d h q).1.2.2.1
  · exact Or.inr q
/-- an entry that a change of the prefix solicits newly, by the law -/
def jms (M : zMem) (v b : Int) (s : Nat) : Prop := 0 ≤ zV M 30 0 s ∧ 0 ≤ zV M 32 0 s ∧ zmeet (zV M 30 0 s / 32) (zV M 30 0 s % 32) v b
def jsk (M M1 : zMem) (v b k : Int) : Prop := zV M1 36 0 6 = zV M 36 0 6 + zsm (fun s => zind (jms M v b s)) k.toNat ∧ (∀ s : Nat, (s : Int) < k → jms M v b s → zV M1 32 0 s = -1) ∧ (∀ s : Nat, ¬ ((s : Int) < k ∧ jms M v b s) → zV M1 32 0 s = zV M 32 0 s) ∧
  ∀ κ' i' j' : Nat, ¬ (κ' = 32 ∧ i' = 0) → ¬ (κ' = 36 ∧ i' = 0 ∧ j' = 6) → M1 κ' i' j' = M κ' i' j'
theorem jsk_0 (M : zMem) (v b : Int) : jsk M M v b 0 := ⟨(Int.add_zero _).symm, fun q h => by omega, fun _ _ => rfl, fun _ _ _ _ _ => rfl⟩
theorem jsk_f {M M1 : zMem} {v b k : Int} (hk : 0 ≤ k) (h : jsk M M1 v b k) (hc : ¬ jms M v b k.toNat) : jsk M M1 v b (k + 1) := by
  obtain ⟨a, b9, c, d⟩ := h
  refine ⟨by rw [a, zsm_s _ hk, zind_f hc, Int.add_zero], fun q hq hs => ?_, fun q hq => c q (fun z => hq ⟨by omega, z.2⟩), d⟩
  by_cases z : (q : Int) < k
  · exact b9 q z hs
  · rw [show k.toNat = q by omega] at hc
    exact absurd hs hc
theorem jsk_t {M M1 : zMem} {v b k x : Int} (hk : 0 ≤ k) (hk16 : k < 16) (hs : 0 ≤ zV M 36 0 6 ∧ zV M 36 0 6 ≤ 1000000) (h : jsk M M1 v b k) (hc : jms M v b k.toNat) (hx : x = zV M1 36 0 6) : jsk M (zup (zup M1 32 0 k.toNat (zI (-1))) 36 0 6 (zI (x + 1))) v b (k + 1) := by
  obtain ⟨a, b9, c, d⟩ := h
  have h1 := zsm_01 (f := fun s => zind (jms M v b s)) (fun _ => zind_rg _) k.toNat
  refine ⟨?_, fun q hq hs1 => ?_, fun q hq => ?_, fun κ' i' j' h8 h9 => ?_⟩
  · rw [zV_eq (by rw [hx, a]; omega), zsm_s _ hk, zind_t hc, hx, a]
    omega
  · rw [zV_ne (by decide)]
    by_cases e : q = k.toNat
    · subst e; exact zV_eq (by decide)
    · rw [zV_nj e]; exact b9 q (by omega) hs1
  · rw [zV_ne (by decide)]
    by_cases e : q = k.toNat
    · subst e; exact absurd ⟨by omega, hc⟩ hq
    · rw [zV_nj e]; exact c q (fun z => hq ⟨by omega, z.2⟩)
  · rw [zup_at h9, zup_at (fun z => h8 ⟨z.1, z.2.1⟩)]
    exact d κ' i' j' h8 h9
theorem jsk_p {M M1 : zMem} {v b k : Int} (h : jsk M M1 v b k) (s : Nat) : zV M1 30 0 s = zV M 30 0 s := zV_of (h.2.2.2 30 0 s (by omega) (by omega))
theorem jsk_e {M M1 : zMem} {v b k : Int} (h : jsk M M1 v b k) (hk : 0 ≤ k) : zV M1 32 0 k.toNat = zV M 32 0 k.toNat := h.2.2.1 _ (fun z => by omega)
/-! how many entries were used before, and which one was used after so many -/
noncomputable def zmf (M : zMem) (r : Nat) (u : Int) (j : Nat) : Int := zind (0 ≤ zV M 30 0 (8 * r + j) ∧ zV M 33 0 (8 * r + j) < u)
noncomputable def zmb (M : zMem) (r : Nat) (u : Int) : Int := zsm (zmf M r u) 8
theorem zmb_s {M : zMem} {a u k : Int} (ha : 0 ≤ a) (hk : 8 * a ≤ k) : zsm (zmf M a.toNat u) (k + 1 - 8 * a).toNat = zsm (zmf M a.toNat u) (k - 8 * a).toNat + zind (0 ≤ zV M 30 0 k.toNat ∧ zV M 33 0 k.toNat < u) := by
  rw [show (k + 1 - 8 * a).toNat = (k - 8 * a).toNat + 1 by omega]
  show zsm _ _ + zmf M a.toNat u (k - 8 * a).toNat = _
  unfold zmf
  rw [show 8 * a.toNat + (k - 8 * a).toNat = k.toNat by omega]
def zpc (M : zMem) (r : Nat) (n : Int) (j : Nat) : Prop := 0 ≤ zV M 30 0 (8 * r + j) ∧ zmb M r (zV M 33 0 (8 * r + j)) = n
def zpe (M : zMem) (r : Nat) (n x : Int) : Prop := (x = -1 ∧ ∀ j : Nat, j < 8 → ¬ zpc M r n j) ∨ ∃ j : Nat, j < 8 ∧ x = ((8 * r + j : Nat) : Int) ∧ zpc M r n j
/-! what a packet finds, takes out, makes -/
def jft (M : zMem) (idn : Int) (s : Nat) : Prop := 0 ≤ zV M 30 0 s ∧ zV M 36 0 0 < zV M 32 0 s ∧ zmeet (zV M 30 0 s / 32) (zV M 30 0 s % 32) idn 16
def jfk (M : zMem) (a idn f k : Int) : Prop := (f = -1 ∧ ∀ j : Nat, 8 * a + (j : Int) < k → ¬ jft M idn (8 * a.toNat + j)) ∨ ∃ j : Nat, j < 8 ∧ f = ((8 * a.toNat + j : Nat) : Int) ∧ jft M idn (8 * a.toNat + j)
theorem jfk_0 (M : zMem) (a idn : Int) : jfk M a idn (-1) (8 * a) := Or.inl ⟨rfl, fun j hj => absurd hj (by omega)⟩
theorem jfk_f {M : zMem} {a idn f k : Int} (ha : 0 ≤ a) (hk : 8 * a ≤ k) (h : jfk M a idn f k) (hn : ¬ jft M idn k.toNat) : jfk M a idn f (k + 1) := by
  rcases h with ⟨z1, z2⟩ | z1
  · refine Or.inl ⟨z1, fun j hj => ?_⟩
    rcases Int.lt_or_le (8 * a + (j : Int)) k with q | q
    · exact z2 j q
    · rw [show 8 * a.toNat + j = k.toNat by omega]; exact hn
  · exact Or.inr z1
theorem jfk_t {M : zMem} {a idn k : Int} (ha : 0 ≤ a) (hk : 8 * a ≤ k) (hk2 : k < 8 * a + 8) (h : jft M idn k.toNat) : jfk M a idn k (k + 1) := by
  refine Or.inr ⟨(k - 8 * a).toNat, by omega, by omega, ?_⟩
  rw [show 8 * a.toNat + (k - 8 * a).toNat = k.toNat by omega]
  exact h
/-- entries of a router that meet a prefix taken out, up to k -/
def jclr (M M1 : zMem) (a v b k : Int) : Prop := (∀ s : Nat, ((8 * a ≤ s ∧ (s : Int) < k) ∧ 0 ≤ zV M 30 0 s ∧ zmeet (zV M 30 0 s / 32) (zV M 30 0 s % 32) v b → zV M1 30 0 s = -1) ∧ (¬ ((8 * a ≤ s ∧ (s : Int) < k) ∧ 0 ≤ zV M 30 0 s ∧ zmeet (zV M 30 0 s / 32) (zV M 30 0 s % 32) v b) → zV M1 30 0 s = zV M 30 0 s)) ∧ ∀ κ' i' j' : Nat, ¬ (κ' = 30 ∧ i' = 0) → M1 κ' i' j' = M κ' i' j'
theorem jclr_0 (M : zMem) (a v b : Int) : jclr M M a v b (8 * a) := ⟨fun s => ⟨fun h => by omega, fun _ => rfl⟩, fun _ _ _ _ => rfl⟩
theorem jclr_at {M M1 : zMem} {a v b k : Int} (hk : 0 ≤ k) (h : jclr M M1 a v b k) : zV M1 30 0 k.toNat = zV M 30 0 k.toNat := (h.1 _).2 (fun z => by omega)
theorem jclr_f {M M1 : zMem} {a v b k : Int} (hk : 0 ≤ k) (h : jclr M M1 a v b k) (hn : ¬ (0 ≤ zV M 30 0 k.toNat ∧ zmeet (zV M 30 0 k.toNat / 32) (zV M 30 0 k.toNat % 32) v b)) : jclr M M1 a v b (k + 1) := by
  refine ⟨fun s => ⟨fun h1 => ?_, fun h1 => (h.1 s).2 (fun z => h1 ⟨by omega, z.2⟩)⟩, h.2⟩
  by_cases e : s = k.toNat
  · subst e; exact absurd h1.2 hn
  · exact (h.1 s).1 ⟨by omega, h1.2⟩
theorem jclr_t {M M1 : zMem} {a v b k : Int} (hk : 0 ≤ k) (hak : 8 * a ≤ k) (h : jclr M M1 a v b k) (hm : 0 ≤ zV M 30 0 k.toNat ∧ zmeet (zV M 30 0 k.toNat / 32) (zV M 30 0 k.toNat % 32) v b) : jclr M (zup M1 30 0 k.toNat (zI (-1))) a v b (k + 1) := by
  refine ⟨fun s => ⟨fun h1 => ?_, fun h1 => ?_⟩, fun κ' i' j' h9 => by rw [zup_at (fun z => h9 ⟨z.1, z.2.1⟩)]; exact h.2 κ' i' j' h9⟩
  · by_cases e : s = k.toNat
    · subst e; exact zV_eq (by decide)
    · rw [zV_nj e]; exact (h.1 s).1 ⟨by omega, h1.2⟩
  · by_cases e : s = k.toNat
    · subst e; exact absurd ⟨by omega, hm⟩ h1
    · rw [zV_nj e]; exact (h.1 s).2 (fun z => h1 ⟨by omega, z.2⟩)
/-- a free place, or the least recently used one -/
def jchs (M : zMem) (a x : Int) : Prop := (8 * a ≤ x ∧ x < 8 * a + 8) ∧ (zV M 30 0 x.toNat < 0 ∨ ((∀ s : Nat, 8 * a ≤ s → (s : Int) < 8 * a + 8 → 0 ≤ zV M 30 0 s) ∧ ∃ j : Nat, j < 8 ∧ x = ((8 * a.toNat + j : Nat) : Int) ∧ zpc M a.toNat 0 j))
def jfrk (M : zMem) (a f k : Int) : Prop := (f = -1 ∧ ∀ s : Nat, 8 * a ≤ s → (s : Int) < k → 0 ≤ zV M 30 0 s) ∨ ((8 * a ≤ f ∧ f < 8 * a + 8) ∧ zV M 30 0 f.toNat < 0)
theorem jfrk_f {M : zMem} {a f k : Int} (h : jfrk M a f k) (hn : 0 ≤ zV M 30 0 k.toNat) : jfrk M a f (k + 1) := by
  rcases h with ⟨z1, z2⟩ | z1
  · refine Or.inl ⟨z1, fun s h1 h2 => ?_⟩
    by_cases e : (s : Int) < k
    · exact z2 s h1 e
    · rw [show s = k.toNat by omega]; exact hn
  · exact Or.inr z1
/-- the cells of an entry's locators copied, k of them -/
def jcp (M M1 : zMem) (x m k : Int) : Prop := (∀ j : Nat, (j : Int) < k → zV M1 34 0 (4 * x + j).toNat = if m < 0 then 0 else zV M 28 0 (4 * m + j).toNat) ∧
  ∀ κ' i' j' : Nat, ¬ (κ' = 34 ∧ i' = 0 ∧ 4 * x ≤ (j' : Int) ∧ (j' : Int) < 4 * x + k) → M1 κ' i' j' = M κ' i' j'
theorem jcp_0 (M : zMem) (x m : Int) : jcp M M x m 0 := ⟨fun j h => by omega, fun _ _ _ _ => rfl⟩
theorem jcp_1 {M M1 : zMem} {x m k y : Int} (hx : 0 ≤ x) (hk : 0 ≤ k) (h : jcp M M1 x m k) (hy : y = if m < 0 then 0 else zV M 28 0 (4 * m + k).toNat) (ry : zrg y) : jcp M (zup M1 34 0 (4 * x + k).toNat (zI y)) x m (k + 1) := by
  refine ⟨fun j hj => ?_, fun κ' i' j' h9 => by rw [zup_at (fun z => h9 ⟨z.1, z.2.1, by omega⟩)]; exact h.2 κ' i' j' (fun z => h9 ⟨z.1, z.2.1, by omega⟩)⟩
  by_cases e : (j : Int) = k
  · rw [e, zV_eq ry]; exact hy
  · rw [zV_nj (by omega)]; exact h.1 j (by omega)
/-- a new entry's cells -/
def jset (M : zMem) (x pp qq ee : Int) : zMem := zup (zup (zup M 30 0 x.toNat (zI pp)) 31 0 x.toNat (zI qq)) 32 0 x.toNat (zI ee)
/-- the answer for an identifier made an entry: x is its place -/
def jgot (M M' : zMem) (a idn x : Int) : Prop := ∃ (mm L : Int) (M1 : zMem), zfnd (zmv M) (zml M) (zmg M) (zmn M) idn mm ∧ znar (zmv M) (zml M) (zmg M) (zmn M) idn (zown (zml M) mm) L ∧ jclr M M1 a (zfb idn L) L (8 * a + 8) ∧ jchs M1 a x ∧
  jcp (jset M1 x (32 * zfb idn L + L) (if mm < 0 then 0 else 32 * zV M 27 0 mm.toNat + mm + 1) (zV M 36 0 0 + (if mm < 0 then zV M 36 0 2 else zV M 36 0 1))) M' x mm 4
/-! an entry's locators, by the law -/
def jad (M : zMem) (x : Int) (j : Nat) : Int := zV M 34 0 (4 * x + j).toNat % 32
def jpr (M : zMem) (x : Int) (j : Nat) : Int := zV M 34 0 (4 * x + j).toNat / 32 % 4
def jwt (M : zMem) (x : Int) (j : Nat) : Int := zV M 34 0 (4 * x + j).toNat / 128 % 16
def jpk (M : zMem) (x : Int) (j : Nat) : Int := zV M 34 0 (4 * x + j).toNat / 2048
/-- whether one is left out: there is none, or it isn't reachable -/
def jun (M : zMem) (a x : Int) (j : Nat) : Int := if zV M 34 0 (4 * x + j).toNat = 0 then 1 else zV M 35 0 a.toNat / 2 ^ (jad M x j).toNat % 2
def jix (j : Nat) : Int := (j : Int)
def jbp (M : zMem) (a x : Int) (k : Nat) : Int := zbp (jun M a x) jix (jpr M x) k
noncomputable def jS (M : zMem) (a x b : Int) (k : Nat) : Int := zsm (zls (jun M a x) jix (jpr M x) (jpk M x) b) k
noncomputable def jW (M : zMem) (a x b : Int) (k : Nat) : Int := zsm (zls (jun M a x) jix (jpr M x) (jwt M x) b) k
def jlk (M : zMem) (a x b : Int) (j : Nat) : Prop := zlk (jun M a x) jix (jpr M x) b j
noncomputable def jla (M : zMem) (a x b : Int) (j : Nat) : Int := jwt M x j * (jS M a x b 4 + 1) - jW M a x b 4 * jpk M x j
/-- the one chosen -/
def jch (M : zMem) (a x b : Int) (j : Nat) : Prop := j < 4 ∧ jlk M a x b j ∧ ∀ j' : Nat, j' < 4 → jlk M a x b j' → jla M a x b j' ≤ jla M a x b j ∧ (j' < j → jla M a x b j' < jla M a x b j)
/-- a packet by the entry at x -/
def jfin (M M' : zMem) (a x y : Int) : Prop := ∃ M2, M2 = zup (zup M 36 0 7 (zI (zV M 36 0 7 + 1))) 33 0 x.toNat (zI (zV M 36 0 7 + 1)) ∧
  ((zV M 31 0 x.toNat = 0 ∧ y = -1 ∧ M' = M2) ∨ (¬ zV M 31 0 x.toNat = 0 ∧ jbp M a x 4 = 4 ∧ y = -3 ∧ M' = M2) ∨
   (¬ zV M 31 0 x.toNat = 0 ∧ ¬ jbp M a x 4 = 4 ∧ ∃ j : Nat, jch M a x (jbp M a x 4) j ∧ y = jad M x j ∧ M' = zup M2 34 0 (4 * x + j).toNat (zI (zV M 34 0 (4 * x + j).toNat + 2048))))
/-- a packet to an identifier -/
def jsnt (M M' : zMem) (a idn y : Int) : Prop := (∃ x : Int, (8 * a ≤ x ∧ x < 8 * a + 8) ∧ jft M idn x.toNat ∧ jfin M M' a x y) ∨
  ((∀ j : Nat, j < 8 → ¬ jft M idn (8 * a.toNat + j)) ∧ ∃ w sv : Int, zfnd (zdv M) (zdl M) z0 (zdn M) idn w ∧ sv = zsv (zdt M) w ∧
    ((zV M 36 0 5 / 2 ^ sv.toNat % 2 = 1 ∧ y = -2 ∧ M' = M) ∨ (¬ zV M 36 0 5 / 2 ^ sv.toNat % 2 = 1 ∧ ∃ (x : Int) (M1 : zMem), jgot (zup M 36 0 (8 + sv).toNat (zI (zV M 36 0 (8 + sv).toNat + 1))) M1 a idn x ∧ jfin M1 M' a x y)))
/-! the best priority's step, with sums begun anew where it falls -/
theorem jbp_s (M : zMem) (a x : Int) {k : Int} (hk : 0 ≤ k) : jbp M a x (k + 1).toNat = if jun M a x k.toNat = 0 then min (jbp M a x k.toNat) (jpr M x k.toNat) else jbp M a x k.toNat := by
  unfold jbp
  rw [zbp_s _ _ _ hk]
  unfold jix
  rw [show ((k.toNat : Nat) : Int).toNat = k.toNat by omega]
theorem zbp_le (un ad pr : Nat → Int) (k : Nat) : zbp un ad pr k ≤ 4 := by
  induction k with
  | zero => exact Int.le_refl _
  | succ k ih =>
    unfold zbp
    split <;> omega
theorem zbp_lo {un ad pr : Nat → Int} {k j : Nat} (hj : j < k) (hu : un (ad j).toNat = 0) : zbp un ad pr k ≤ pr j := by
  induction k with
  | zero => omega
  | succ k ih =>
    unfold zbp
    by_cases e : j = k
    · subst e; rw [if_pos hu]; omega
    · have := ih (by omega)
      split <;> omega
theorem jlk_of {M : zMem} {a x b : Int} {j : Nat} : jlk M a x b j ↔ jpr M x j = b ∧ jun M a x j = 0 := by
  unfold jlk zlk jix
  rw [show ((j : Nat) : Int).toNat = j by omega]
/-- of a priority better than all so far none was looked at -/
theorem zls_0 {un ad pr f : Nat → Int} {b : Int} {k : Nat} (h : b < zbp un ad pr k) : zsm (zls un ad pr f b) k = 0 := by
  have e : zsm (zls un ad pr f b) k = zsm (fun _ => 0) k := zsm_ext fun j hj => zls_f fun z => by
    have := zbp_lo (un := un) (ad := ad) (pr := pr) hj z.2
    have z1 : pr j = b := z.1
    omega
  rw [e]
  clear h e
  induction k with
  | zero => rfl
  | succ k ih =>
    show zsm (fun _ => 0) k + 0 = 0
    rw [ih]
    rfl
theorem zbp_ex {un ad pr : Nat → Int} {n : Nat} (h : zbp un ad pr n ≠ 4) : ∃ j : Nat, j < n ∧ zlk un ad pr (zbp un ad pr n) j := by
  induction n with
  | zero => exact absurd rfl h
  | succ n ih =>
    unfold zbp at h ⊢
    by_cases q : un (ad n).toNat = 0
    · rw [if_pos q] at h ⊢
      by_cases z : zbp un ad pr n ≤ pr n
      · rw [show min (zbp un ad pr n) (pr n) = zbp un ad pr n by omega] at h ⊢
        obtain ⟨j, h1, h2⟩ := ih h
        exact ⟨j, by omega, h2⟩
      · rw [show min (zbp un ad pr n) (pr n) = pr n by omega] at h ⊢
        exact ⟨n, by omega, rfl, q⟩
    · rw [if_neg q] at h ⊢
      obtain ⟨j, h1, h2⟩ := ih h
      exact ⟨j, by omega, h2⟩
/-- best, all and weights of the first k -/
def jbk3 (M : zMem) (a x k b A w : Int) : Prop := b = jbp M a x k.toNat ∧ A = jS M a x b k.toNat ∧ w = jW M a x b k.toNat
theorem jbk3_0 (M : zMem) (a x : Int) : jbk3 M a x 0 4 0 0 := ⟨rfl, rfl, rfl⟩
theorem jbk3_f {M : zMem} {a x k b A w : Int} (hk : 0 ≤ k) (h : jbk3 M a x k b A w) (hn : ¬ (jun M a x k.toNat = 0 ∧ jpr M x k.toNat ≤ b)) : jbk3 M a x (k + 1) b A w := by
  obtain ⟨h1, h2, h3⟩ := h
  have hf : ¬ zlk (jun M a x) jix (jpr M x) b k.toNat := fun z => by
    have z1 := (jlk_of (M := M) (a := a) (x := x) (b := b) (j := k.toNat)).mp z
    exact hn ⟨z1.2, by omega⟩
  refine ⟨?_, ?_, ?_⟩
  · rw [jbp_s M a x hk, ← h1]
    split
    · rename_i z
      have : ¬ jpr M x k.toNat ≤ b := fun y => hn ⟨z, y⟩
      omega
    · rfl
  · unfold jS; rw [zsm_s _ hk, zls_f hf, Int.add_zero]; exact h2
  · unfold jW; rw [zsm_s _ hk, zls_f hf, Int.add_zero]; exact h3
theorem jbk3_t {M : zMem} {a x k b A w b2 A2 w2 : Int} (hk : 0 ≤ k) (h : jbk3 M a x k b A w) (hu : jun M a x k.toNat = 0) (hp : jpr M x k.toNat ≤ b) (hb2 : b2 = jpr M x k.toNat) (hA2 : A2 = (if jpr M x k.toNat < b then 0 else A) + jpk M x k.toNat) (hw2 : w2 = (if jpr M x k.toNat < b then 0 else w) + jwt M x k.toNat) : jbk3 M a x (k + 1) b2 A2 w2 := by
  obtain ⟨h1, h2, h3⟩ := h
  have ht : zlk (jun M a x) jix (jpr M x) b2 k.toNat := jlk_of.mpr ⟨hb2.symm, hu⟩
  have e : ∀ f : Nat → Int, ∀ B : Int, B = zsm (zls (jun M a x) jix (jpr M x) f b) k.toNat → zsm (zls (jun M a x) jix (jpr M x) f b2) k.toNat = if jpr M x k.toNat < b then 0 else B := fun f B hB => by
    by_cases q : jpr M x k.toNat < b
    · rw [if_pos q]
      refine zls_0 ?_
      have h9 : b = zbp (jun M a x) jix (jpr M x) k.toNat := h1
      omega
    · rw [if_neg q, hB, show b2 = b by omega]
  refine ⟨?_, ?_, ?_⟩
  · rw [jbp_s M a x hk, ← h1, if_pos hu]; omega
  · unfold jS; rw [zsm_s _ hk, zls_t ht, e _ A h2]; exact hA2
  · unfold jW; rw [zsm_s _ hk, zls_t ht, e _ w h3]; exact hw2
/-- the choice, from the last down to k: f's is the greatest lack, of several the first one's -/
def jdk (M : zMem) (a x b k f y : Int) : Prop := (f = -1 ∧ ∀ j : Nat, k < (j : Int) → j < 4 → ¬ jlk M a x b j) ∨ ∃ t : Nat, f = 4 * x + (t : Int) ∧ k < (t : Int) ∧ t < 4 ∧ jlk M a x b t ∧ y = jla M a x b t ∧ ∀ j : Nat, k < (j : Int) → j < 4 → jlk M a x b j → jla M a x b j ≤ jla M a x b t ∧ (j < t → jla M a x b j < jla M a x b t)
theorem jdk_f {M : zMem} {a x b k f y : Int} (hk : 0 ≤ k) (hk4 : k < 4) (h : jdk M a x b k f y) (hn : ¬ (jlk M a x b k.toNat ∧ (f = -1 ∨ y ≤ jla M a x b k.toNat))) (hf : f = -1 ∨ ¬ f = -1) : jdk M a x b (k + (-1)) f y := by
  rcases h with ⟨z1, z2⟩ | ⟨t, t1, t2, t3, t4, t5, t6⟩
  · refine Or.inl ⟨z1, fun j h1 h2 h3 => ?_⟩
    by_cases e : k < (j : Int)
    · exact z2 j e h2 h3
    · rw [show j = k.toNat by omega] at h3
      exact hn ⟨h3, Or.inl z1⟩
  · refine Or.inr ⟨t, t1, by omega, t3, t4, t5, fun j h1 h2 h3 => ?_⟩
    by_cases e : k < (j : Int)
    · exact t6 j e h2 h3
    · rw [show j = k.toNat by omega] at h3 ⊢
      have h4 : ¬ y ≤ jla M a x b k.toNat := fun q => hn ⟨h3, Or.inr q⟩
      exact ⟨by omega, fun _ => by omega⟩
theorem jdk_t {M : zMem} {a x b k f y f2 y2 : Int} (hk : 0 ≤ k) (hk4 : k < 4) (h : jdk M a x b k f y) (hl : jlk M a x b k.toNat) (hy : f = -1 ∨ y ≤ jla M a x b k.toNat) (hf0 : -1 ≤ f ∧ 0 ≤ x) (hf2 : f2 = 4 * x + k) (hy2 : y2 = jla M a x b k.toNat) : jdk M a x b (k + (-1)) f2 y2 := by
  refine Or.inr ⟨k.toNat, by omega, by omega, by omega, hl, hy2, fun j h1 h2 h3 => ?_⟩
  by_cases e : j = k.toNat
  · subst e; exact ⟨Int.le_refl _, fun z => by omega⟩
  · refine ⟨?_, fun z => by omega⟩
    rcases h with ⟨z1, z2⟩ | ⟨t, t1, t2, t3, t4, t5, t6⟩
    · exact absurd h3 (z2 j (by omega) h2)
    · have h5 := (t6 j (by omega) h2 h3).1
      have h6 := hy.resolve_left (by omega)
      omega
theorem jdk_end {M : zMem} {a x f y k : Int} (hk : k < 0) (h : jdk M a x (jbp M a x 4) k f y) (hb : ¬ jbp M a x 4 = 4) : ∃ t : Nat, f = 4 * x + (t : Int) ∧ jch M a x (jbp M a x 4) t := by
  rcases h with ⟨z1, z2⟩ | ⟨t, t1, t2, t3, t4, t5, t6⟩
  · obtain ⟨j, h1, h2⟩ := zbp_ex hb
    exact absurd h2 (z2 j (by omega) h1)
  · exact ⟨t, t1, t3, t4, fun j h1 h2 => t6 j (by omega) h1 h2⟩
