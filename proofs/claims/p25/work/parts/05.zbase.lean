/-! numbers: an int as a whole number, with its range -/
def zI (x : Int) : Int32 := Int32.ofInt x
abbrev zrg (x : Int) : Prop := -2147483648 ≤ x ∧ x < 2147483648
theorem zI_toInt {x : Int} (h : zrg x) : (zI x).toInt = x := Int32.toInt_ofInt_of_le (by omega) (by omega)
theorem zI_of (a : Int32) : zI a.toInt = a := Int32.ofInt_toInt a
theorem zrgI (a : Int32) : zrg a.toInt := ⟨by have := Int32.le_toInt a; omega, by have := Int32.toInt_lt a; omega⟩
theorem zI_lt {x y : Int} (hx : zrg x) (hy : zrg y) : zI x < zI y ↔ x < y := by rw [Int32.lt_iff_toInt_lt, zI_toInt hx, zI_toInt hy]
theorem zI_le {x y : Int} (hx : zrg x) (hy : zrg y) : zI x ≤ zI y ↔ x ≤ y := by rw [Int32.le_iff_toInt_le, zI_toInt hx, zI_toInt hy]
theorem zI_eq {x y : Int} (hx : zrg x) (hy : zrg y) : zI x = zI y ↔ x = y := by rw [← Int32.toInt_inj, zI_toInt hx, zI_toInt hy]
theorem zI_add (x y : Int) : zI x + zI y = zI (x + y) := (Int32.ofInt_add x y).symm
theorem zI_sub (x y : Int) : zI x - zI y = zI (x - y) := (Int32.ofInt_sub x y).symm
theorem zI_mul (x y : Int) : zI x * zI y = zI (x * y) := (Int32.ofInt_mul x y).symm
theorem zI_neg (x : Int) : - zI x = zI (-x) := (Int32.ofInt_neg x).symm
theorem zI_0 : zI 0 = 0 := rfl
theorem zI_nat {x : Int} (h : zrg x) : (zI x).toNatClampNeg = x.toNat := Int32.toNatClampNeg_ofInt_of_le (by omega) (by omega)
theorem zI_in {x : Int} {n : Nat} (h0 : 0 ≤ x) (h1 : x < n) (hr : zrg x) : vp_in (zI x) n := by
  intro h
  rcases h with h | h
  · rw [← zI_0, zI_lt hr (by decide)] at h
    omega
  · rw [zI_nat hr] at h
    omega

/-! the world: every object by kind and number -/
abbrev zG : Type := va_G × (Nat → ClassId) × Heap × (Nat × Nat × (Nat → Int32))
abbrev zB (G : zG) : Heap := G.2.2.1
abbrev zS (G : zG) : Nat × Nat × (Nat → Int32) := G.2.2.2
abbrev zA (G : zG) : Nat → Prop := fun q => (zB G).size ≤ q
abbrev zMem : Type := Nat → Nat → Nat → Int32
def zcd (κ i : Nat) : Nat := match κ with
  | 0 => 0
  | 1 => 1
  | 2 => 2
  | 3 => 3 + 6 * i
  | 4 => 4 + 6 * i
  | 5 => 5 + 6 * i
  | 6 => 6 + 6 * i
  | 7 => 7 + 6 * i
  | 8 => 8 + 6 * i
  | 9 => 147
  | 10 => 148
  | 11 => 149
  | 12 => 150
  | 13 => 151
  | 14 => 152 + i
  | 15 => 164
  | 16 => 165 + 59 * i
  | 17 => 166 + 59 * i
  | 18 => 167 + 59 * i
  | 19 => 168 + 59 * (i / 8) + 7 * (i % 8)
  | 20 => 169 + 59 * (i / 8) + 7 * (i % 8)
  | 21 => 170 + 59 * (i / 8) + 7 * (i % 8)
  | 22 => 171 + 59 * (i / 8) + 7 * (i % 8)
  | 23 => 172 + 59 * (i / 8) + 7 * (i % 8)
  | 24 => 173 + 59 * (i / 8) + 7 * (i % 8)
  | 25 => 174 + 59 * (i / 8) + 7 * (i % 8)
  | 26 => 342
  | 27 => 343
  | 28 => 344
  | 29 => 345
  | 30 => 346
  | 31 => 347
  | 32 => 348
  | 33 => 349
  | 34 => 350
  | 35 => 351
  | 36 => 352
  | _ => 0
def znum (κ : Nat) : Nat := match κ with
  | 0 => 1
  | 1 => 1
  | 2 => 1
  | 3 => 24
  | 4 => 24
  | 5 => 24
  | 6 => 24
  | 7 => 24
  | 8 => 24
  | 9 => 1
  | 10 => 1
  | 11 => 1
  | 12 => 1
  | 13 => 1
  | 14 => 12
  | 15 => 1
  | 16 => 3
  | 17 => 3
  | 18 => 3
  | 19 => 24
  | 20 => 24
  | 21 => 24
  | 22 => 24
  | 23 => 24
  | 24 => 24
  | 25 => 24
  | 26 => 1
  | 27 => 1
  | 28 => 1
  | 29 => 1
  | 30 => 1
  | 31 => 1
  | 32 => 1
  | 33 => 1
  | 34 => 1
  | 35 => 1
  | 36 => 1
  | _ => 0
def zlist : List (Nat × Nat) := [(0, 0), (1, 0), (2, 0), (3, 0), (4, 0), (5, 0), (6, 0), (7, 0), (8, 0), (3, 1), (4, 1), (5, 1), (6, 1), (7, 1), (8, 1), (3, 2), (4, 2), (5, 2), (6, 2), (7, 2), (8, 2), (3, 3), (4, 3), (5, 3), (6, 3), (7, 3), (8, 3), (3, 4), (4, 4), (5, 4), (6, 4), (7, 4), (8, 4), (3, 5), (4, 5), (5, 5), (6, 5), (7, 5), (8, 5), (3, 6), (4, 6), (5, 6), (6, 6), (7, 6), (8, 6), (3, 7), (4, 7), (5, 7), (6, 7), (7, 7), (8, 7), (3, 8), (4, 8), (5, 8), (6, 8), (7, 8), (8, 8), (3, 9), (4, 9), (5, 9), (6, 9), (7, 9), (8, 9), (3, 10), (4, 10), (5, 10), (6, 10), (7, 10), (8, 10), (3, 11), (4, 11), (5, 11), (6, 11), (7, 11), (8, 11), (3, 12), (4, 12), (5, 12), (6, 12), (7, 12), (8, 12), (3, 13), (4, 13), (5, 13), (6, 13), (7, 13), (8, 13), (3, 14), (4, 14), (5, 14), (6, 14), (7, 14), (8, 14), (3, 15), (4, 15), (5, 15), (6, 15), (7, 15), (8, 15), (3, 16), (4, 16), (5, 16), (6, 16), (7, 16), (8, 16), (3, 17), (4, 17), (5, 17), (6, 17), (7, 17), (8, 17), (3, 18), (4, 18), (5, 18), (6, 18), (7, 18), (8, 18), (3, 19), (4, 19), (5, 19), (6, 19), (7, 19), (8, 19), (3, 20), (4, 20), (5, 20), (6, 20), (7, 20), (8, 20), (3, 21), (4, 21), (5, 21), (6, 21), (7, 21), (8, 21), (3, 22), (4, 22), (5, 22), (6, 22), (7, 22), (8, 22), (3, 23), (4, 23), (5, 23), (6, 23), (7, 23), (8, 23), (9, 0), (10, 0), (11, 0), (12, 0), (13, 0), (14, 0), (14, 1), (14, 2), (14, 3), (14, 4), (14, 5), (14, 6), (14, 7), (14, 8), (14, 9), (14, 10), (14, 11), (15, 0), (16, 0), (17, 0), (18, 0), (19, 0), (20, 0), (21, 0), (22, 0), (23, 0), (24, 0), (25, 0), (19, 1), (20, 1), (21, 1), (22, 1), (23, 1), (24, 1), (25, 1), (19, 2), (20, 2), (21, 2), (22, 2), (23, 2), (24, 2), (25, 2), (19, 3), (20, 3), (21, 3), (22, 3), (23, 3), (24, 3), (25, 3), (19, 4), (20, 4), (21, 4), (22, 4), (23, 4), (24, 4), (25, 4), (19, 5), (20, 5), (21, 5), (22, 5), (23, 5), (24, 5), (25, 5), (19, 6), (20, 6), (21, 6), (22, 6), (23, 6), (24, 6), (25, 6), (19, 7), (20, 7), (21, 7), (22, 7), (23, 7), (24, 7), (25, 7), (16, 1), (17, 1), (18, 1), (19, 8), (20, 8), (21, 8), (22, 8), (23, 8), (24, 8), (25, 8), (19, 9), (20, 9), (21, 9), (22, 9), (23, 9), (24, 9), (25, 9), (19, 10), (20, 10), (21, 10), (22, 10), (23, 10), (24, 10), (25, 10), (19, 11), (20, 11), (21, 11), (22, 11), (23, 11), (24, 11), (25, 11), (19, 12), (20, 12), (21, 12), (22, 12), (23, 12), (24, 12), (25, 12), (19, 13), (20, 13), (21, 13), (22, 13), (23, 13), (24, 13), (25, 13), (19, 14), (20, 14), (21, 14), (22, 14), (23, 14), (24, 14), (25, 14), (19, 15), (20, 15), (21, 15), (22, 15), (23, 15), (24, 15), (25, 15), (16, 2), (17, 2), (18, 2), (19, 16), (20, 16), (21, 16), (22, 16), (23, 16), (24, 16), (25, 16), (19, 17), (20, 17), (21, 17), (22, 17), (23, 17), (24, 17), (25, 17), (19, 18), (20, 18), (21, 18), (22, 18), (23, 18), (24, 18), (25, 18), (19, 19), (20, 19), (21, 19), (22, 19), (23, 19), (24, 19), (25, 19), (19, 20), (20, 20), (21, 20), (22, 20), (23, 20), (24, 20), (25, 20), (19, 21), (20, 21), (21, 21), (22, 21), (23, 21), (24, 21), (25, 21), (19, 22), (20, 22), (21, 22), (22, 22), (23, 22), (24, 22), (25, 22), (19, 23), (20, 23), (21, 23), (22, 23), (23, 23), (24, 23), (25, 23), (26, 0), (27, 0), (28, 0), (29, 0), (30, 0), (31, 0), (32, 0), (33, 0), (34, 0), (35, 0), (36, 0)]
def zad (G : zG) (κ i : Nat) : Nat := (zB G).size + zcd κ i
def zcel (G : zG) (κ i : Nat) (f : Nat → Int32) : va_E := match κ with
  | 0 => .inr (7, [.ref (zad G 1 0), .ref (zad G 9 0), .ref (zad G 15 0), .int (f 3), .int (f 4), .int (f 5), .int (f 6)])
  | 1 => .inr (4, [.ref (zad G 2 0), .int (f 1)])
  | 2 => .inl (G.2.1 4, 24, .inr (.inr (.inr (.inr (fun j => some (zad G 3 j))))))
  | 3 => .inr (2, [.ref (zad G 4 i), .ref (zad G 5 i), .int (f 2), .int (f 3)])
  | 4 => .inr (3, [.int (f 0), .int (f 1)])
  | 5 => .inr (1, [.ref (zad G 6 i), .ref (zad G 7 i), .ref (zad G 8 i), .int (f 3)])
  | 6 => .inl (G.2.1 0, 4, .inl f)
  | 7 => .inl (G.2.1 0, 4, .inl f)
  | 8 => .inl (G.2.1 0, 4, .inl f)
  | 9 => .inr (6, [.ref (zad G 10 0), .ref (zad G 11 0), .ref (zad G 12 0), .ref (zad G 13 0), .int (f 4)])
  | 10 => .inl (G.2.1 1, 4, .inl f)
  | 11 => .inl (G.2.1 0, 4, .inl f)
  | 12 => .inl (G.2.1 5, 12, .inr (.inr (.inr (.inr (fun j => some (zad G 14 j))))))
  | 13 => .inl (G.2.1 0, 12, .inl f)
  | 14 => .inr (3, [.int (f 0), .int (f 1)])
  | 15 => .inl (G.2.1 6, 3, .inr (.inr (.inr (.inr (fun j => some (zad G 16 j))))))
  | 16 => .inr (5, [.ref (zad G 17 i), .ref (zad G 18 i), .int (f 2)])
  | 17 => .inl (G.2.1 3, 8, .inr (.inr (.inr (.inr (fun j => some (zad G 19 (f j).toNatClampNeg))))))
  | 18 => .inl (G.2.1 1, 32, .inl f)
  | 19 => .inr (0, [.ref (zad G 20 i), .ref (zad G 21 i), .ref (zad G 25 i), .int (f 3), .int (f 4), .int (f 5), .int (f 6)])
  | 20 => .inr (3, [.int (f 0), .int (f 1)])
  | 21 => .inr (1, [.ref (zad G 22 i), .ref (zad G 23 i), .ref (zad G 24 i), .int (f 3)])
  | 22 => .inl (G.2.1 0, 4, .inl f)
  | 23 => .inl (G.2.1 0, 4, .inl f)
  | 24 => .inl (G.2.1 0, 4, .inl f)
  | 25 => .inl (G.2.1 0, 4, .inl f)
  | 26 => .inl (G.2.1 0, 16, .inl f)
  | 27 => .inl (G.2.1 0, 16, .inl f)
  | 28 => .inl (G.2.1 0, 64, .inl f)
  | 29 => .inl (G.2.1 0, 12, .inl f)
  | 30 => .inl (G.2.1 0, 16, .inl f)
  | 31 => .inl (G.2.1 0, 16, .inl f)
  | 32 => .inl (G.2.1 0, 16, .inl f)
  | 33 => .inl (G.2.1 0, 16, .inl f)
  | 34 => .inl (G.2.1 0, 64, .inl f)
  | 35 => .inl (G.2.1 0, 2, .inl f)
  | 36 => .inl (G.2.1 0, 12, .inl f)
  | _ => .inl (0, 0, .inl f)
def zM (G : zG) (M : zMem) (H : Heap) : Prop := ∀ κ i : Nat, i < znum κ → va_at G.1 vwCl (zad G κ i, zcel G κ i (M κ i)) H
set_option maxRecDepth 100000 in
theorem zcd_at : ∀ κ, κ < 64 → ∀ i, i < znum κ → zlist[zcd κ i]? = some (κ, i) := by decide +kernel
theorem znum_lt {κ i : Nat} (h : i < znum κ) : κ < 64 := by
  rcases Nat.lt_or_ge κ 64 with q | q
  · exact q
  · have e : znum κ = 0 := by unfold znum; split <;> first | rfl | omega
    omega
theorem zcd_inj {κ i κ' i' : Nat} (h : i < znum κ) (h' : i' < znum κ') (e : zcd κ i = zcd κ' i') : κ = κ' ∧ i = i' := by
  have h1 := zcd_at κ (znum_lt h) i h
  have h2 := zcd_at κ' (znum_lt h') i' h'
  rw [e, h2] at h1
  have := Option.some.inj h1
  exact ⟨(Prod.mk.inj this).1.symm, (Prod.mk.inj this).2.symm⟩
def zup (M : zMem) (κ i j : Nat) (v : Int32) : zMem := fun κ' i' j' => if κ' = κ ∧ i' = i ∧ j' = j then v else M κ' i' j'
theorem zup_row {M : zMem} {κ i j : Nat} {v : Int32} : (zup M κ i j v) κ i = upd (M κ i) j v := by
  funext q
  simp only [zup, upd, true_and]
theorem zup_ne {M : zMem} {κ i j : Nat} {v : Int32} {κ' i' : Nat} (h : ¬ (κ' = κ ∧ i' = i)) : (zup M κ i j v) κ' i' = M κ' i' := by
  funext q
  simp only [zup]
  rw [if_neg]
  rintro ⟨h1, h2, -⟩
  exact h ⟨h1, h2⟩
def zV (M : zMem) (κ i j : Nat) : Int := (M κ i j).toInt
theorem zV_rg (M : zMem) (κ i j : Nat) : zrg (zV M κ i j) := zrgI _
theorem zI_V (M : zMem) (κ i j : Nat) : zI (zV M κ i j) = M κ i j := zI_of _
theorem zV_up {M : zMem} {κ i j : Nat} {x : Int} (h : zrg x) (κ' i' j' : Nat) : zV (zup M κ i j (zI x)) κ' i' j' = if κ' = κ ∧ i' = i ∧ j' = j then x else zV M κ' i' j' := by
  unfold zV zup
  split
  · exact zI_toInt h
  · rfl
/-- what a heap that differs at one thing alone holds -/
theorem zM_put {G : zG} {M M' : zMem} {H H1 : Heap} {κ i : Nat} (hi : i < znum κ) (h : zM G M H) (h1 : va_at G.1 vwCl (zad G κ i, zcel G κ i (M' κ i)) H1) (ho : ∀ q, q ≠ zad G κ i → H1[q]? = H[q]?) (hM : ∀ κ' i', ¬ (κ' = κ ∧ i' = i) → M' κ' i' = M κ' i') : zM G M' H1 := by
  intro κ' i' hi'
  by_cases e : κ' = κ ∧ i' = i
  · obtain ⟨rfl, rfl⟩ := e
    exact h1
  · rw [hM κ' i' e]
    refine va_at.kept (h κ' i' hi') (ho _ fun q => e ?_)
    unfold zad at q
    exact zcd_inj hi' hi (by omega)
theorem zM_kept {G : zG} {M : zMem} {H H1 : Heap} (h : zM G M H) (ho : ∀ q, q < H.size → H1[q]? = H[q]?) : zM G M H1 := fun κ i hi => va_at.kept (h κ i hi) (ho _ (va_at.lt (h κ i hi)))
def zTy (t : Nat → ClassId) : List (ClassId × FieldType) := [(t 0, .int), (t 1, .boolean), (t 2, .int), (t 3, .object "LocatorMapper$Entry"), (t 4, .object "LocatorMapper$Mapping"), (t 5, .object "LocatorMapper$Prefix"), (t 6, .object "LocatorMapper$Router")]
def zStr : List (Nat × String) := [(256, "an argument is out of range"), (260, "the value has bits behind the length"), (56, "the prefix is taken, or there is no room for a mapping"), (251, "there is none with this number"), (262, "the mapping is withdrawn"), (114, "the address is taken, or there is no room for a locator"), (264, "the mapping has no locator with the address"), (126, "the other address is taken"), (153, "there is no room for a delegated prefix")]
def zgood : Cond → Bool
  | .castable _ _ => true
  | .declares _ => true
  | .methodLinkNest _ _ _ _ => true
  | w => goodWord w
theorem zword {args a' : Array Value} {s U : State} {w : Cond} (hW : s.WarmedH U.vm) (hg : zgood w = true) (h : w.before args s = true) : w.before a' U = true := by
  by_cases g : goodWord w = true
  · exact word_at hW (good_of_word g) h
  · cases w <;> first | exact va_Nw.use rfl (va_Nw.warmC hW (va_Nw.of rfl h)) | exact va_Nw.use rfl (va_Nw.warmD hW (va_Nw.of rfl h)) | exact va_Nw.use rfl (va_Nw.warmM hW (va_Nw.of rfl h)) | exact absurd hg g
abbrev xIOB : String := "java/lang/IndexOutOfBoundsException"
abbrev xIAE : String := "java/lang/IllegalArgumentException"
abbrev xISE : String := "java/lang/IllegalStateException"
def zNC (U : State) : Prop := va_Nc xIAE xIOB U ∧ va_Nc xISE xIOB U ∧ va_Nc xISE xIAE U
theorem zNC_warm {s U : State} (hW : s.WarmedH U.vm) (h : zNC s) : zNC U := ⟨h.1.moved hW.alike, h.2.1.moved hW.alike, h.2.2.moved hW.alike⟩
/-- what a state's classes and statics are -/
def zK (G : zG) (U : State) : Prop := va_K G.1 vwCl (zTy G.2.1) U ∧ (∀ w ∈ lw_tbl, zgood w = true → w.before #[] U = true) ∧ vx_Zq Bundle.tN "UNASSIGNED_STACK" Bundle.steD (zA G) U (zB G) ∧ vx_Zq Bundle.tN "SUPPRESSED_SENTINEL" Bundle.listD (zA G) U (zB G) ∧ (∀ q ∈ zStr, ∃ sa, vk_R RX7 q.1 q.2 sa U) ∧ zNC U ∧ va_X (zS G).1 (zS G).2.1 (zS G).2.2 U (zB G) ∧ (zS G).1 < (zB G).size ∧ (zS G).2.1 ≤ 260
theorem zK_warm {G : zG} {s U : State} (hW : s.WarmedH U.vm) (h : zK G s) : zK G U :=
  ⟨va_K.moved hW.alike h.1, fun w hw hg => zword hW hg (h.2.1 w hw hg), vx_Zq.moved hW.alike h.2.2.1, vx_Zq.moved hW.alike h.2.2.2.1, fun q hq => by
    obtain ⟨sa, hs⟩ := h.2.2.2.2.1 q hq
    exact ⟨sa, vk_R.warm hW hs⟩, zNC_warm hW h.2.2.2.2.2.1, va_X.moved hW.alike h.2.2.2.2.2.2.1, h.2.2.2.2.2.2.2⟩
/-- what holds throughout a method's body -/
def zC (p : Program) (s : State) (m : MethodId) (args : Array Value) (meth : Method) (c : Code) (G : zG) (own : String) (cc : ByteArray) (nL : Nat) (rt : Option FieldType) : Prop :=
  p.tables.exec = Jvm.exec ∧ c.code = cc ∧ c.maxLocals = nL ∧ s.vm.findClass own = some m.cls ∧ (∀ w ∈ lw_tbl, zgood w = true → w.before args s = true) ∧ zK G s ∧ meth.locks = false ∧ meth.sig.returnType = rt ∧ va_S (zA G) (zB G) s.heap []
/-- the method at pc, with locals lv, stack st and memory M, comes to Q -/
def zZ (p : Program) (l : Launch) (e : Env) (R : Room) (s : State) (m : MethodId) (args : Array Value) (below : List Frame) (meth : Method) (c : Code) (G : zG) (nL : Nat) (Q : State → Prop) (M : zMem) (cells slots : Nat) (pc : Nat) (lv : List (Nat × Value)) (st : List Value) : Prop :=
  ∀ (H : Heap) (locs : List Loc) (ls : Array Slot), zM G M H → va_S (zA G) s.heap H locs → lv_has ls nL lv → W p l e R s m args below meth c H locs cells slots Q (F0 m pc ls st)
/-- a contract's start -/
def zPc (G : zG) (M : zMem) (av : List Value) : Array Value → State → Prop := va_Pc av (fun U => zM G M U.heap ∧ va_S (zA G) (zB G) U.heap [] ∧ zK G U)
theorem zPc_blind {G : zG} {M : zMem} {av : List Value} : FrameBlind (zPc G M av) := fun a U g mk h => ⟨h.1, h.2.1, h.2.2.1, zK_warm (s := U) (U := U.calling g mk a) (State.WarmedH.refl U) h.2.2.2⟩
def zR (d mc ms : Nat) : Room := { frames := d, cells := mc, slots := ms, locals := 40 * d }
def zCl (ci : Nat) (C : String) (T : u_T) (N : Nat) (ty : Nat → FieldType) : Prop := vwCl[ci]? = some (C, T, N) ∧ (∀ w ∈ u_ws C T N, w ∈ lw_tbl ∧ zgood w = true) ∧ (∀ k, k < N → parseFieldDescriptor (T k).2.2.1 = some (ty k)) ∧ (∀ a, a < N → ∀ b, b < N → a ≠ b → (T a).2.1 ≠ (T b).2.1)
set_option maxRecDepth 100000 in
theorem zcl0 : zCl 0 RX0 TX0 7 tyX0 := ⟨rfl, by decide +kernel, tyX0_ok, nmX0⟩
set_option maxRecDepth 100000 in
theorem zcl1 : zCl 1 RX1 TX1 4 tyX1 := ⟨rfl, by decide +kernel, tyX1_ok, nmX1⟩
set_option maxRecDepth 100000 in
theorem zcl2 : zCl 2 RX2 TX2 4 tyX2 := ⟨rfl, by decide +kernel, tyX2_ok, nmX2⟩
set_option maxRecDepth 100000 in
theorem zcl3 : zCl 3 RX3 TX3 2 tyX3 := ⟨rfl, by decide +kernel, tyX3_ok, nmX3⟩
set_option maxRecDepth 100000 in
theorem zcl4 : zCl 4 RX4 TX4 2 tyX4 := ⟨rfl, by decide +kernel, tyX4_ok, nmX4⟩
set_option maxRecDepth 100000 in
theorem zcl5 : zCl 5 RX5 TX5 3 tyX5 := ⟨rfl, by decide +kernel, tyX5_ok, nmX5⟩
set_option maxRecDepth 100000 in
theorem zcl6 : zCl 6 RX6 TX6 5 tyX6 := ⟨rfl, by decide +kernel, tyX6_ok, nmX6⟩
set_option maxRecDepth 100000 in
theorem zcl7 : zCl 7 RX7 TX7 7 tyX7 := ⟨rfl, by decide +kernel, tyX7_ok, nmX7⟩
