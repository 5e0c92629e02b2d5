/-- an int's value after it has wrapped around -/
def zw (x : Int) : Int := (zI x).toInt
theorem zw_rg (x : Int) : zrg (zw x) := zrgI _
theorem zw_I (x : Int) : zI (zw x) = zI x := zI_of _
theorem zw_eq {x : Int} (h : zrg x) : zw x = x := zI_toInt h
theorem zV_upw (M : zMem) (κ i j : Nat) (x : Int) : zV (zup M κ i j (zI x)) κ i j = zw x := by rw [zV_upg, if_pos ⟨rfl, rfl, rfl⟩]; rfl
noncomputable def zind (p : Prop) : Int := @ite Int p (Classical.propDecidable p) 1 0
theorem zind_t {p : Prop} (h : p) : zind p = 1 := by unfold zind; exact if_pos h
theorem zind_f {p : Prop} (h : ¬ p) : zind p = 0 := by unfold zind; exact if_neg h
theorem zind_rg (p : Prop) : 0 ≤ zind p ∧ zind p ≤ 1 := by
  by_cases h : p
  · rw [zind_t h]; decide
  · rw [zind_f h]; decide
/-- the sum of the first k -/
def zsm (f : Nat → Int) : Nat → Int
  | 0 => 0
  | k + 1 => zsm f k + f k
theorem zsm_s (f : Nat → Int) {k : Int} (hk : 0 ≤ k) : zsm f (k + 1).toNat = zsm f k.toNat + f k.toNat := by
  rw [show (k + 1).toNat = k.toNat + 1 by omega]
  rfl
theorem zsm_ext {f g : Nat → Int} {n : Nat} (h : ∀ k, k < n → f k = g k) : zsm f n = zsm g n := by
  induction n with
  | zero => rfl
  | succ n ih =>
    show zsm f n + f n = zsm g n + g n
    rw [ih (fun k hk => h k (by omega)), h n (by omega)]
theorem zsm_01 {f : Nat → Int} (h : ∀ k, 0 ≤ f k ∧ f k ≤ 1) (n : Nat) : 0 ≤ zsm f n ∧ zsm f n ≤ n := by
  induction n with
  | zero => exact ⟨Int.le_refl _, Int.le_refl _⟩
  | succ n ih =>
    have := h n
    show 0 ≤ zsm f n + f n ∧ zsm f n + f n ≤ _
    omega
/-- the best priority of the first k locators with reachable addresses; 4 if there are none -/
def zbp (un ad pr : Nat → Int) : Nat → Int
  | 0 => 4
  | k + 1 => if un (ad k).toNat = 0 then min (zbp un ad pr k) (pr k) else zbp un ad pr k
theorem zbp_s (un ad pr : Nat → Int) {k : Int} (hk : 0 ≤ k) : zbp un ad pr (k + 1).toNat = if un (ad k.toNat).toNat = 0 then min (zbp un ad pr k.toNat) (pr k.toNat) else zbp un ad pr k.toNat := by
  rw [show (k + 1).toNat = k.toNat + 1 by omega]
  rfl
def zlk (un ad pr : Nat → Int) (b : Int) (k : Nat) : Prop := pr k = b ∧ un (ad k).toNat = 0
noncomputable def zls (un ad pr f : Nat → Int) (b : Int) (k : Nat) : Int := zind (zlk un ad pr b k) * f k
theorem zls_t {un ad pr f : Nat → Int} {b : Int} {k : Nat} (h : zlk un ad pr b k) : zls un ad pr f b k = f k := by unfold zls; rw [zind_t h, Int.one_mul]
theorem zls_f {un ad pr f : Nat → Int} {b : Int} {k : Nat} (h : ¬ zlk un ad pr b k) : zls un ad pr f b k = 0 := by unfold zls; rw [zind_f h, Int.zero_mul]
def zlack (wt pk : Nat → Int) (S W : Int) (k : Nat) : Int := zw (wt k * (S + 1) - W * pk k)
/-- the one with the greatest lack among the first k, and its lack -/
noncomputable def zch (un ad pr wt pk : Nat → Int) (b S W : Int) : Nat → Int × Int
  | 0 => (-1, 0)
  | k + 1 => @ite (Int × Int) (zlk un ad pr b k ∧ ((zch un ad pr wt pk b S W k).1 = -1 ∨ (zch un ad pr wt pk b S W k).2 < zlack wt pk S W k)) (Classical.propDecidable _) ((k : Int), zlack wt pk S W k) (zch un ad pr wt pk b S W k)
theorem zch_t {un ad pr wt pk : Nat → Int} {b S W k x y : Int} (hk : 0 ≤ k) (e : zch un ad pr wt pk b S W k.toNat = (x, y)) (h : zlk un ad pr b k.toNat) (h2 : x = -1 ∨ y < zlack wt pk S W k.toNat) : zch un ad pr wt pk b S W (k + 1).toNat = (k, zlack wt pk S W k.toNat) := by
  rw [show (k + 1).toNat = k.toNat + 1 by omega]
  unfold zch
  rw [if_pos ⟨h, by rw [e]; exact h2⟩, show ((k.toNat : Nat) : Int) = k by omega]
theorem zch_f {un ad pr wt pk : Nat → Int} {b S W k x y : Int} (hk : 0 ≤ k) (e : zch un ad pr wt pk b S W k.toNat = (x, y)) (h : ¬ (zlk un ad pr b k.toNat ∧ (x = -1 ∨ y < zlack wt pk S W k.toNat))) : zch un ad pr wt pk b S W (k + 1).toNat = (x, y) := by
  rw [show (k + 1).toNat = k.toNat + 1 by omega]
  unfold zch
  rw [if_neg (by rw [e]; exact h), e]
theorem zch_rg (un ad pr wt pk : Nat → Int) (b S W : Int) (k : Nat) : -1 ≤ (zch un ad pr wt pk b S W k).1 ∧ (zch un ad pr wt pk b S W k).1 < k ∧ zrg (zch un ad pr wt pk b S W k).2 := by
  induction k with
  | zero =>
    show (-1 : Int) ≤ -1 ∧ (-1 : Int) < ((0 : Nat) : Int) ∧ zrg 0
    exact ⟨by decide, by decide, by decide⟩
  | succ k ih =>
    unfold zch
    split
    · exact ⟨by show (-1 : Int) ≤ (k : Int); omega, by show (k : Int) < ((k + 1 : Nat) : Int); omega, zw_rg _⟩
    · exact ⟨ih.1, by have := ih.2.1; omega, ih.2.2⟩
/-- the functions of an entry and its router -/
def zun (M : zMem) (r : Nat) (a : Nat) : Int := zV M 18 r a
def zea (M : zMem) (q : Nat) (k : Nat) : Int := zV M 22 q k
def zep (M : zMem) (q : Nat) (k : Nat) : Int := zV M 23 q k
def zew (M : zMem) (q : Nat) (k : Nat) : Int := zV M 24 q k
def zek (M : zMem) (q : Nat) (k : Nat) : Int := zV M 25 q k
def zeb (M : zMem) (r q : Nat) : Int := zbp (zun M r) (zea M q) (zep M q) (zV M 21 q 3).toNat
noncomputable def zeS (M : zMem) (r q : Nat) (b : Int) : Int := zsm (zls (zun M r) (zea M q) (zep M q) (zek M q) b) (zV M 21 q 3).toNat
noncomputable def zeW (M : zMem) (r q : Nat) (b : Int) : Int := zsm (zls (zun M r) (zea M q) (zep M q) (zew M q) b) (zV M 21 q 3).toNat
noncomputable def zechk (M : zMem) (r q : Nat) (b : Int) (k : Nat) : Int × Int := zch (zun M r) (zea M q) (zep M q) (zew M q) (zek M q) b (zeS M r q b) (zeW M r q b) k
noncomputable def zech (M : zMem) (r q : Nat) (b : Int) : Int := (zechk M r q b (zV M 21 q 3).toNat).1
/-- an entry's locators lie within -/
def zwe (M : zMem) (q : Nat) : Prop := (0 ≤ zV M 21 q 3 ∧ zV M 21 q 3 ≤ 4) ∧ ∀ j : Nat, j < 4 → 0 ≤ zV M 22 q j ∧ zV M 22 q j < 32
/-- what a positive answer makes of an entry -/
def zkp (M M' : zMem) (q i : Nat) (num en : Int) : Prop :=
  zV M' 19 q 3 = num ∧ zV M' 19 q 4 = zV M 3 i 2 ∧ zV M' 19 q 5 = en ∧ zV M' 19 q 6 = 0 ∧ zV M' 21 q 3 = zV M 5 i 3 ∧
  (∀ j : Nat, (j : Int) < zV M 5 i 3 → zV M' 22 q j = zV M 6 i j ∧ zV M' 23 q j = zV M 7 i j ∧ zV M' 24 q j = zV M 8 i j) ∧
  (∀ j : Nat, zV M 5 i 3 ≤ j → zV M' 22 q j = zV M 22 q j ∧ zV M' 23 q j = zV M 23 q j ∧ zV M' 24 q j = zV M 24 q j) ∧
  (∀ j : Nat, j < 4 → zV M' 25 q j = 0) ∧
  ∀ κ' i' j' : Nat, ¬ (i' = q ∧ (κ' = 19 ∧ 3 ≤ j' ∨ κ' = 21 ∧ j' = 3 ∨ κ' = 22 ∨ κ' = 23 ∨ κ' = 24 ∨ κ' = 25)) → M' κ' i' j' = M κ' i' j'
def zkpk (M M1 : zMem) (q : Nat) (k : Int) : Prop := (∀ j : Nat, (j : Int) < k → zV M1 25 q j = 0) ∧ ∀ κ' i' j' : Nat, ¬ (κ' = 25 ∧ i' = q) → M1 κ' i' j' = M κ' i' j'
theorem zkpk_1 {M M1 : zMem} {q : Nat} {k : Int} (hk : 0 ≤ k) (h : zkpk M M1 q k) : zkpk M (zup M1 25 q k.toNat (zI 0)) q (k + 1) := by
  refine ⟨fun j hj => ?_, fun κ' i' j' h9 => ?_⟩
  · by_cases z : j = k.toNat
    · subst z; exact zV_eq (by decide)
    · rw [zV_nj z]; exact h.1 j (by omega)
  · rw [zup_at (fun z => h9 ⟨z.1, z.2.1⟩)]; exact h.2 κ' i' j' h9
theorem zkp_end {M Ma Mb Mc Md : zMem} {q i : Nat} {num en : Int} (hnum : zrg num) (hen : zrg en) (ha : Ma = zup (zup M 19 q 3 (zI num)) 19 q 4 (zI (zV M 3 i 2))) (hb : zcopy Ma Mb q i (zV Ma 5 i 3)) (hc : zkpk Mb Mc q 4) (hd : Md = zup (zup Mc 19 q 5 (zI en)) 19 q 6 (zI 0)) : zkp M Md q i num en := by
  obtain ⟨b0, b1, b2, b3⟩ := hb
  obtain ⟨c1, c2⟩ := hc
  subst hd
  have e5 : zV Ma 5 i 3 = zV M 5 i 3 := by rw [ha, zV_ne (by decide), zV_ne (by decide)]
  have c19 : ∀ j, zV Mc 19 q j = zV Ma 19 q j := fun j => (zV_of (c2 19 q j (by omega))).trans (zV_of (b3 19 q j (by omega)))
  have hc' : ∀ κ' j, κ' ≠ 25 → zV Mc κ' q j = zV Mb κ' q j := fun κ' j h => zV_of (c2 κ' q j (fun z => h z.1))
  have a22 : ∀ κ' i' j, κ' ≠ 19 → zV Ma κ' i' j = zV M κ' i' j := fun κ' i' j h => by rw [ha, zV_ne h, zV_ne h]
  refine ⟨?_, ?_, ?_, ?_, ?_, fun j hj => ?_, fun j hj => ?_, fun j hj => ?_, fun κ' i' j' h => ?_⟩
  · rw [zV_nj (by decide), zV_nj (by decide), c19, ha, zV_nj (by decide), zV_eq hnum]
  · rw [zV_nj (by decide), zV_nj (by decide), c19, ha, zV_eq (zV_rg _ _ _ _)]
  · rw [zV_nj (by decide), zV_eq hen]
  · exact zV_eq (by decide)
  · rw [zV_ne (by decide), zV_ne (by decide), hc' 21 3 (by decide), b0, e5]
  · obtain ⟨d1, d2, d3⟩ := b1 j (by rw [e5]; exact hj)
    refine ⟨?_, ?_, ?_⟩
    · rw [zV_ne (by decide), zV_ne (by decide), hc' 22 j (by decide), d1, a22 _ _ _ (by decide)]
    · rw [zV_ne (by decide), zV_ne (by decide), hc' 23 j (by decide), d2, a22 _ _ _ (by decide)]
    · rw [zV_ne (by decide), zV_ne (by decide), hc' 24 j (by decide), d3, a22 _ _ _ (by decide)]
  · obtain ⟨d1, d2, d3⟩ := b2 j (by rw [e5]; exact hj)
    refine ⟨?_, ?_, ?_⟩
    · rw [zV_ne (by decide), zV_ne (by decide), hc' 22 j (by decide), d1, a22 _ _ _ (by decide)]
    · rw [zV_ne (by decide), zV_ne (by decide), hc' 23 j (by decide), d2, a22 _ _ _ (by decide)]
    · rw [zV_ne (by decide), zV_ne (by decide), hc' 24 j (by decide), d3, a22 _ _ _ (by decide)]
  · rw [zV_ne (by decide), zV_ne (by decide)]; exact c1 j (by omega)
  · rw [zup_at (fun z => h ⟨z.2.1, by omega⟩), zup_at (fun z => h ⟨z.2.1, by omega⟩), c2 κ' i' j' (fun z => h ⟨z.2, by omega⟩), b3 κ' i' j' (fun z => h ⟨z.1, by omega⟩), ha, zup_at (fun z => h ⟨z.2.1, by omega⟩), zup_at (fun z => h ⟨z.2.1, by omega⟩)]
section ZNORM
variable {p : Program} {l : Launch} {e : Env} {R : Room} {s : State} {m : MethodId} {args : Array Value} {below : List Frame} {meth : Method} {c : Code} {G : zG} {nL : Nat} {Q : State → Prop} {M : zMem} {cells slots pc : Nat} {lv : List (Nat × Value)} {st : List Value}
theorem z_norm {x : Int} (k : ∀ y : Int, y = zw x → zrg y → zZ p l e R s m args below meth c G nL Q M cells slots pc lv (.int (zI y) :: st)) : zZ p l e R s m args below meth c G nL Q M cells slots pc lv (.int (zI x) :: st) := by
  have h := k _ rfl (zw_rg x)
  rw [zw_I] at h
  exact h
end ZNORM
/-- what a packet makes of an entry: its answer, and the memory then -/
def zsnd (M M' : zMem) (r q : Nat) (x : Int) : Prop :=
  (zV M 19 q 3 = -1 ∧ x = -1 ∧ M' = M) ∨ (zV M 19 q 3 ≠ -1 ∧ zech M r q (zeb M r q) = -1 ∧ x = -3 ∧ M' = M) ∨
  (zV M 19 q 3 ≠ -1 ∧ 0 ≤ zech M r q (zeb M r q) ∧ zech M r q (zeb M r q) < zV M 21 q 3 ∧ x = zea M q (zech M r q (zeb M r q)).toNat ∧ M' = zup M 25 q (zech M r q (zeb M r q)).toNat (zI (zek M q (zech M r q (zeb M r q)).toNat + 1)))
