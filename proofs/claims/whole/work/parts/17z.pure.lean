theorem zWM_l {M : zMem} (h : zWM M) (i : Nat) : 0 ≤ znl M i ∨ ¬ (i : Int) < znn M := by
  by_cases q : i < 24
  · exact Or.inl (h.2.1 i q).2.2.1
  · exact Or.inr (by have := h.1.2; show ¬ (i : Int) < zV M 26 0 4; omega)
theorem zWM_dl {M : zMem} (h : zWM M) (i : Nat) : 0 ≤ zndl M i ∨ ¬ (i : Int) < zndn M := by
  by_cases q : i < 12
  · exact Or.inl (h.2.2.2.2.1 i q).2.2.1
  · exact Or.inr (by have := h.2.2.2.1.2; show ¬ (i : Int) < zV M 26 0 13; omega)
def znloc (M : zMem) (m : Nat) (a : Int) : Prop := ∃ j : Nat, (j : Int) < zV M 39 0 m ∧ zV M 40 0 (4 * m + j) = a
theorem znp_n {M : zMem} {m : Nat} {a x : Int} (h : znp M m a x) (hx : x = -1) : ¬ znloc M m a := by
  rcases h with ⟨-, h⟩ | ⟨j, h, -⟩
  · exact fun z => by obtain ⟨j, hj, e⟩ := z; exact h j hj e
  · omega
theorem znp_y {M : zMem} {m : Nat} {a x : Int} (h : znp M m a x) (hx : ¬ x = -1) : ∃ j : Nat, x = ((4 * m + j : Nat) : Int) ∧ (j : Int) < zV M 39 0 m ∧ zV M 40 0 (4 * m + j) = a := by
  rcases h with ⟨h, -⟩ | h
  · exact absurd h hx
  · exact h
theorem znp_yl {M : zMem} {m : Nat} {a x : Int} (h : znp M m a x) (hx : ¬ x = -1) : znloc M m a := by
  obtain ⟨j, -, h2⟩ := znp_y h hx
  exact ⟨j, h2⟩
theorem znp_up {M : zMem} {m : Nat} {a x : Int} {v : Int32} (h : znp (zup M 26 0 0 v) m a x) : znp M m a x := by
  unfold znp at h ⊢
  simp only [zV_ne (show (39 : Nat) ≠ 26 by decide), zV_ne (show (40 : Nat) ≠ 26 by decide)] at h
  exact h
def znadd (M : zMem) (a b p w : Int) : zMem := zup (zup (zup (zup M 39 0 a.toNat (zI (zV M 39 0 a.toNat + 1))) 40 0 (4 * a + zV M 39 0 a.toNat).toNat (zI b)) 41 0 (4 * a + zV M 39 0 a.toNat).toNat (zI p)) 42 0 (4 * a + zV M 39 0 a.toNat).toNat (zI w)
theorem zWM_many {M : zMem} {m : Nat} {x : Int} (h : zWM M) (hx : 0 ≤ x ∧ x ≤ 4) : zWM (zup M 39 0 m (zI x)) := by
  obtain ⟨a1, a2, a3, a4, a5, a6, a7, a8, a9, a10, a11, a12, a13, a14⟩ := h
  refine ⟨?_, ?_, ?_, ?_, ?_, ?_, ?_, ?_, ?_, ?_, ?_, ?_, ?_, ?_⟩
  · rw [zV_ne (by decide)]; exact a1
  · intro i hi; rw [zV_ne (by decide), zV_ne (by decide)]; exact a2 i hi
  · intro i hi
    by_cases q : i = m
    · subst q; rw [zV_eq (by omega)]; exact hx
    · rw [zV_nj q]; exact a3 i hi
  · rw [zV_ne (by decide)]; exact a4
  · intro i hi; rw [zV_ne (by decide), zV_ne (by decide)]; exact a5 i hi
  · intro i hi; rw [zV_ne (by decide)]; exact a6 i hi
  · intro i hi; rw [zV_ne (by decide), zV_ne (by decide)]; exact a7 i hi
  · intro i hi; rw [zV_ne (by decide)]; exact a8 i hi
  · intro i hi; rw [zV_ne (by decide)]; exact a9 i hi
  · intro i hi; rw [zV_ne (by decide)]; exact a10 i hi
  · intro i hi; rw [zV_ne (by decide)]; exact a11 i hi
  · rw [zV_ne (by decide)]; exact a12
  · rw [zV_ne (by decide)]; exact a13
  · intro i hi; rw [zV_ne (by decide)]; exact a14 i hi
theorem zWM_addr {M : zMem} {k : Nat} {x : Int} (h : zWM M) (hx : 0 ≤ x ∧ x < 32) : zWM (zup M 40 0 k (zI x)) := by
  obtain ⟨a1, a2, a3, a4, a5, a6, a7, a8, a9, a10, a11, a12, a13, a14⟩ := h
  refine ⟨?_, ?_, ?_, ?_, ?_, ?_, ?_, ?_, ?_, ?_, ?_, ?_, ?_, ?_⟩
  · rw [zV_ne (by decide)]; exact a1
  · intro i hi; rw [zV_ne (by decide), zV_ne (by decide)]; exact a2 i hi
  · intro i hi; rw [zV_ne (by decide)]; exact a3 i hi
  · rw [zV_ne (by decide)]; exact a4
  · intro i hi; rw [zV_ne (by decide), zV_ne (by decide)]; exact a5 i hi
  · intro i hi; rw [zV_ne (by decide)]; exact a6 i hi
  · intro i hi; rw [zV_ne (by decide), zV_ne (by decide)]; exact a7 i hi
  · intro i hi; rw [zV_ne (by decide)]; exact a8 i hi
  · intro i hi; rw [zV_ne (by decide)]; exact a9 i hi
  · intro i hi; rw [zV_ne (by decide)]; exact a10 i hi
  · intro i hi
    by_cases q : i = k
    · subst q; rw [zV_eq (by omega)]; exact hx
    · rw [zV_nj q]; exact a11 i hi
  · rw [zV_ne (by decide)]; exact a12
  · rw [zV_ne (by decide)]; exact a13
  · intro i hi; rw [zV_ne (by decide)]; exact a14 i hi
theorem zWM_add {M : zMem} {m k : Nat} {x b : Int} {s1 s2 s3 s4 : Int32} (h : zWM M) (hx : 0 ≤ x ∧ x ≤ 4) (hb : 0 ≤ b ∧ b < 32) : zWM (zup (zup (zup (zup (zup (zup M 26 0 0 s1) 26 0 0 s2) 39 0 m (zI x)) 40 0 k (zI b)) 41 0 k s3) 42 0 k s4) :=
  zWM_ne (zWM_ne (zWM_addr (zWM_many (zWM_up0 (zWM_up0 h)) hx) hb) (by unfold zWMk; omega)) (by unfold zWMk; omega)
/-- rows of locators moved by one, from lo to k -/
def zmsh (M M1 : zMem) (lo k : Int) : Prop := (∀ q : Nat, zV M1 40 0 q = if lo ≤ q ∧ (q : Int) < k then zV M 40 0 (q + 1) else zV M 40 0 q) ∧ (∀ q : Nat, zV M1 41 0 q = if lo ≤ q ∧ (q : Int) < k then zV M 41 0 (q + 1) else zV M 41 0 q) ∧ (∀ q : Nat, zV M1 42 0 q = if lo ≤ q ∧ (q : Int) < k then zV M 42 0 (q + 1) else zV M 42 0 q) ∧
  ∀ κ' i' j' : Nat, ¬ (i' = 0 ∧ (κ' = 40 ∨ κ' = 41 ∨ κ' = 42)) → M1 κ' i' j' = M κ' i' j'
theorem zmsh_0 (M : zMem) (lo : Int) : zmsh M M lo lo := ⟨fun q => by rw [if_neg (by omega)], fun q => by rw [if_neg (by omega)], fun q => by rw [if_neg (by omega)], fun _ _ _ _ => rfl⟩
theorem zmsh_1 {M M1 : zMem} {lo k x6 x7 x8 : Int} (hk : 0 ≤ k) (hpk : lo ≤ k) (h : zmsh M M1 lo k) (h6 : x6 = zV M1 40 0 (k + 1).toNat) (r6 : zrg x6) (h7 : x7 = zV M1 41 0 (k + 1).toNat) (r7 : zrg x7) (h8 : x8 = zV M1 42 0 (k + 1).toNat) (r8 : zrg x8) : zmsh M (zup (zup (zup M1 40 0 k.toNat (zI x6)) 41 0 k.toNat (zI x7)) 42 0 k.toNat (zI x8)) lo (k + 1) := by
  obtain ⟨a6, a7, a8, a9⟩ := h
  refine ⟨?_, ?_, ?_, ?_⟩
  · exact zshift_row hk hpk a6 h6 r6 (A := M1) (fun j => rfl) (fun j => by rw [zV_ne (by decide), zV_ne (by decide)])
  · exact zshift_row hk hpk a7 h7 r7 (A := zup M1 40 0 k.toNat (zI x6)) (fun j => zV_ne (by decide)) (fun j => by rw [zV_ne (by decide)])
  · exact zshift_row hk hpk a8 h8 r8 (A := zup (zup M1 40 0 k.toNat (zI x6)) 41 0 k.toNat (zI x7)) (fun j => by rw [zV_ne (by decide), zV_ne (by decide)]) (fun j => rfl)
  · intro κ' i' j' h
    rw [zup_at (fun q => h ⟨q.2.1, by omega⟩), zup_at (fun q => h ⟨q.2.1, by omega⟩), zup_at (fun q => h ⟨q.2.1, by omega⟩)]
    exact a9 κ' i' j' h
theorem zWM_msh {M M1 : zMem} {lo k : Int} (h : zWM M) (hk : k ≤ 95) (hs : zmsh M M1 lo k) : zWM M1 := by
  have h11 := h.2.2.2.2.2.2.2.2.2.2.1
  obtain ⟨a1, a2, a3, a4, a5, a6, a7, a8, a9, a10, a11, a12, a13, a14⟩ := h
  have e : ∀ κ j' : Nat, κ ≠ 40 → κ ≠ 41 → κ ≠ 42 → zV M1 κ 0 j' = zV M κ 0 j' := fun κ j' q1 q2 q3 => zV_of (hs.2.2.2 κ 0 j' (by omega))
  refine ⟨?_, ?_, ?_, ?_, ?_, ?_, ?_, ?_, ?_, ?_, ?_, ?_, ?_, ?_⟩
  · rw [e _ _ (by decide) (by decide) (by decide)]; exact a1
  · intro i hi; rw [e _ _ (by decide) (by decide) (by decide), e _ _ (by decide) (by decide) (by decide)]; exact a2 i hi
  · intro i hi; rw [e _ _ (by decide) (by decide) (by decide)]; exact a3 i hi
  · rw [e _ _ (by decide) (by decide) (by decide)]; exact a4
  · intro i hi; rw [e _ _ (by decide) (by decide) (by decide), e _ _ (by decide) (by decide) (by decide)]; exact a5 i hi
  · intro i hi; rw [e _ _ (by decide) (by decide) (by decide)]; exact a6 i hi
  · intro i hi; rw [e _ _ (by decide) (by decide) (by decide), e _ _ (by decide) (by decide) (by decide)]; exact a7 i hi
  · intro i hi; rw [e _ _ (by decide) (by decide) (by decide)]; exact a8 i hi
  · intro i hi; rw [e _ _ (by decide) (by decide) (by decide)]; exact a9 i hi
  · intro i hi; rw [e _ _ (by decide) (by decide) (by decide)]; exact a10 i hi
  · intro i hi
    rw [hs.1]
    split
    · exact a11 _ (by omega)
    · exact a11 i hi
  · rw [e _ _ (by decide) (by decide) (by decide)]; exact a12
  · rw [e _ _ (by decide) (by decide) (by decide)]; exact a13
  · intro i hi; rw [e _ _ (by decide) (by decide) (by decide)]; exact a14 i hi
/-- whether mapping i counts and is met -/
def zhc (M : zMem) (id L a : Int) (i : Nat) : Prop := zng M i = 0 ∧ (i : Int) ≠ a ∧ (a = -1 ∨ znl M a.toNat ≤ znl M i ∧ zmeet (znv M a.toNat) (znl M a.toNat) (znv M i) 16) ∧ zmeet id L (znv M i) (znl M i)
theorem zhc_s {M : zMem} {id L a k x y : Int} (hk : 0 ≤ k) (h : x = 1 ↔ ∃ i : Nat, (i : Int) < k ∧ zhc M id L a i) (h2 : y = 1 ↔ (x = 1 ∨ zhc M id L a k.toNat)) : y = 1 ↔ ∃ i : Nat, (i : Int) < k + 1 ∧ zhc M id L a i := by
  rw [h2, h]
  constructor
  · rintro (⟨i, h1, h2⟩ | h1)
    · exact ⟨i, by omega, h2⟩
    · exact ⟨k.toNat, by omega, h1⟩
  · rintro ⟨i, h1, h2⟩
    by_cases q : (i : Int) < k
    · exact Or.inl ⟨i, q, h2⟩
    · right; rw [show k.toNat = i by omega]; exact h2
theorem zfnd_up0 {M : zMem} {v : Int32} {id x : Int} (h : zfnd (znv (zup M 26 0 0 v)) (znl (zup M 26 0 0 v)) (zng (zup M 26 0 0 v)) (znn (zup M 26 0 0 v)) id x) : zfnd (znv M) (znl M) (zng M) (znn M) id x := by
  rw [show znv (zup M 26 0 0 v) = znv M from funext fun i => zV_ne (by decide), show znl (zup M 26 0 0 v) = znl M from funext fun i => zV_ne (by decide), show zng (zup M 26 0 0 v) = zng M from funext fun i => zV_ne (by decide), show znn (zup M 26 0 0 v) = znn M from zV_nj (by decide)] at h
  exact h
theorem zh16_up {M : zMem} {v : Int32} {id L a : Int} (h : ¬ znh M id L a) : ¬ znh (zup M 26 0 0 v) id L a := by
  unfold znh at h ⊢
  rw [show znv (zup M 26 0 0 v) = znv M from funext fun i => zV_ne (by decide), show znl (zup M 26 0 0 v) = znl M from funext fun i => zV_ne (by decide), show zng (zup M 26 0 0 v) = zng M from funext fun i => zV_ne (by decide), show znn (zup M 26 0 0 v) = znn M from zV_nj (by decide)]
  exact h
theorem znb_0 {M : zMem} {id a x : Int} (hw : zWM M) (ha : -1 ≤ a ∧ a < 24) (h : znb M id a x) : 0 ≤ x := by
  have h1 := h.1
  split at h1
  · exact h1
  · have h2 := (hw.2.1 a.toNat (by omega)).2.2.1
    have h3 : znl M a.toNat = zV M 36 0 a.toNat := rfl
    omega
