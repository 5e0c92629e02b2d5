/-! the registry and the delegations as rows of numbers: v values, l lengths, g gone, n how many -/
def zcov (v l g : Nat → Int) (n id : Int) (i : Nat) : Prop := (i : Int) < n ∧ g i = 0 ∧ zmeet (v i) (l i) id 16
/-- the first longest one that covers id; -1 if none does -/
def zfnd (v l g : Nat → Int) (n id x : Int) : Prop := (x = -1 ∧ ∀ i, ¬ zcov v l g n id i) ∨ ∃ i : Nat, x = (i : Int) ∧ zcov v l g n id i ∧ ∀ i' : Nat, zcov v l g n id i' → l i' ≤ l i ∧ (i' < i → l i' < l i)
/-- .. of the first k -/
def zfndk (v l g : Nat → Int) (n id k b bl : Int) : Prop := (b = -1 ∧ bl = -1 ∧ ∀ i : Nat, (i : Int) < k → ¬ zcov v l g n id i) ∨ ∃ i : Nat, b = (i : Int) ∧ bl = l i ∧ (i : Int) < k ∧ zcov v l g n id i ∧ ∀ i' : Nat, (i' : Int) < k → zcov v l g n id i' → l i' ≤ l i ∧ (i' < i → l i' < l i)
theorem zfnd_0 (v l g : Nat → Int) (n id : Int) : zfndk v l g n id 0 (-1) (-1) := Or.inl ⟨rfl, rfl, fun i h => absurd h (by omega)⟩
theorem zfnd_skip {v l g : Nat → Int} {n id k b bl : Int} (h : zfndk v l g n id k b bl) (hk : 0 ≤ k) (hl : ∀ i, 0 ≤ l i ∨ ¬ (i : Int) < n) (hs : zcov v l g n id k.toNat → l k.toNat ≤ bl) : zfndk v l g n id (k + 1) b bl := by
  rcases h with ⟨h1, h2, h3⟩ | ⟨i, h1, h2, h3, h4, h5⟩
  · refine Or.inl ⟨h1, h2, fun i hi => ?_⟩
    by_cases q : (i : Int) < k
    · exact h3 i q
    · have e : i = k.toNat := by omega
      subst e
      intro hc
      have := hs hc
      rcases hl k.toNat with z | z
      · omega
      · exact z hc.1
  · refine Or.inr ⟨i, h1, h2, by omega, h4, fun i' hi' hc => ?_⟩
    by_cases q : (i' : Int) < k
    · exact h5 i' q hc
    · have e : i' = k.toNat := by omega
      subst e
      have := hs hc
      exact ⟨by omega, fun z => by omega⟩
theorem zfnd_take {v l g : Nat → Int} {n id k b bl : Int} (h : zfndk v l g n id k b bl) (hk : 0 ≤ k) (hc : zcov v l g n id k.toNat) (hs : bl < l k.toNat) : zfndk v l g n id (k + 1) k (l k.toNat) := by
  refine Or.inr ⟨k.toNat, by omega, rfl, by omega, hc, fun i' hi' hc' => ?_⟩
  by_cases q : i' = k.toNat
  · subst q
    exact ⟨Int.le_refl _, fun z => absurd z (by omega)⟩
  · rcases h with ⟨h1, h2, h3⟩ | ⟨i, h1, h2, h3, h4, h5⟩
    · exact absurd hc' (h3 i' (by omega))
    · have := h5 i' (by omega) hc'
      exact ⟨by omega, fun _ => by omega⟩
theorem zfnd_end {v l g : Nat → Int} {n id k b bl : Int} (h : zfndk v l g n id k b bl) (hk : n ≤ k) : zfnd v l g n id b := by
  rcases h with ⟨h1, h2, h3⟩ | ⟨i, h1, h2, h3, h4, h5⟩
  · exact Or.inl ⟨h1, fun i hc => h3 i (by have := hc.1; omega) hc⟩
  · exact Or.inr ⟨i, h1, h4, fun i' hc => h5 i' (by have := hc.1; omega) hc⟩
theorem zfnd_rg {v l g : Nat → Int} {n id x : Int} (h : zfnd v l g n id x) : -1 ≤ x ∧ (x < n ∨ x = -1) := by
  rcases h with ⟨h1, -⟩ | ⟨i, h1, h2, -⟩
  · omega
  · have := h2.1
    omega
def zcnt (g : Nat → Int) : Nat → Int
  | 0 => 0
  | k + 1 => zcnt g k + (if g k = 0 then 1 else 0)
theorem zcnt_rg (g : Nat → Int) (k : Nat) : 0 ≤ zcnt g k ∧ zcnt g k ≤ k := by
  induction k with
  | zero => exact ⟨Int.le_refl _, Int.le_refl _⟩
  | succ k ih =>
    unfold zcnt
    split <;> omega
theorem zcnt_s {g : Nat → Int} {k x : Int} (hk : 0 ≤ k) (hx : x = g k.toNat) : zcnt g (k + 1).toNat = zcnt g k.toNat + (if x = 0 then 1 else 0) := by
  rw [show (k + 1).toNat = k.toNat + 1 by omega, hx]
  rfl
/-- whether one that is longer than own meets the first L bits of id -/
def zhid (v l g : Nat → Int) (n id L own : Int) : Prop := ∃ i : Nat, (i : Int) < n ∧ g i = 0 ∧ own < l i ∧ zmeet (v i) (l i) id L
/-- the length of an answer's prefix -/
def znar (v l g : Nat → Int) (n id own x : Int) : Prop := max own 0 ≤ x ∧ x ≤ 16 ∧ (∀ L : Int, max own 0 ≤ L → L < x → zhid v l g n id L own) ∧ (x < 16 → ¬ zhid v l g n id x own)
def zown (l : Nat → Int) (m : Int) : Int := if m = -1 then -1 else l m.toNat
/-- the class's own rows -/
def zmv (M : zMem) (i : Nat) : Int := zV M 4 i 0
def zml (M : zMem) (i : Nat) : Int := zV M 4 i 1
def zmg (M : zMem) (i : Nat) : Int := zV M 3 i 3
def zmn (M : zMem) : Int := zV M 1 0 1
def zdv (M : zMem) (i : Nat) : Int := zV M 14 i 0
def zdl (M : zMem) (i : Nat) : Int := zV M 14 i 1
def zdn (M : zMem) : Int := zV M 9 0 4
def zdt (M : zMem) (i : Nat) : Int := zV M 13 0 i
def z0 (_ : Nat) : Int := 0
def zsv (t : Nat → Int) (y : Int) : Int := if y = -1 then 0 else t y.toNat
/-- the mappings' and the delegations' rows are prefixes -/
def zwm (M : zMem) : Prop := (0 ≤ zV M 1 0 1 ∧ zV M 1 0 1 ≤ 24) ∧ ∀ i : Nat, i < 24 → zpfx (zV M 4 i 0) (zV M 4 i 1)
def zwd (M : zMem) : Prop := (0 ≤ zV M 9 0 4 ∧ zV M 9 0 4 ≤ 12) ∧ (∀ i : Nat, i < 12 → zpfx (zV M 14 i 0) (zV M 14 i 1)) ∧ ∀ i : Nat, i < 12 → 0 ≤ zV M 13 0 i ∧ zV M 13 0 i < 4
theorem zwm_l {M : zMem} (h : zwm M) (i : Nat) : 0 ≤ zml M i ∨ ¬ (i : Int) < zmn M := by
  by_cases q : i < 24
  · exact Or.inl (h.2 i q).2.2.1
  · exact Or.inr (by have := h.1.2; show ¬ (i : Int) < zV M 1 0 1; omega)
theorem zwd_l {M : zMem} (h : zwd M) (i : Nat) : 0 ≤ zdl M i ∨ ¬ (i : Int) < zdn M := by
  by_cases q : i < 12
  · exact Or.inl (h.2.1 i q).2.2.1
  · exact Or.inr (by have := h.1.2; show ¬ (i : Int) < zV M 9 0 4; omega)
