theorem zc0 (G : zG) (i : Nat) (f : Nat → Int32) : zcel G 0 i f = .inr (7, [.ref (zad G 1 0), .ref (zad G 9 0), .ref (zad G 15 0), .int (f 3), .int (f 4), .int (f 5), .int (f 6)]) := rfl
theorem zc1 (G : zG) (i : Nat) (f : Nat → Int32) : zcel G 1 i f = .inr (4, [.ref (zad G 2 0), .int (f 1)]) := rfl
theorem zc2 (G : zG) (i : Nat) (f : Nat → Int32) : zcel G 2 i f = .inl (G.2.1 4, 24, .inr (.inr (.inr (.inr (fun j => some (zad G 3 j)))))) := rfl
theorem zc3 (G : zG) (i : Nat) (f : Nat → Int32) : zcel G 3 i f = .inr (2, [.ref (zad G 4 i), .ref (zad G 5 i), .int (f 2), .int (f 3)]) := rfl
theorem zc4 (G : zG) (i : Nat) (f : Nat → Int32) : zcel G 4 i f = .inr (3, [.int (f 0), .int (f 1)]) := rfl
theorem zc5 (G : zG) (i : Nat) (f : Nat → Int32) : zcel G 5 i f = .inr (1, [.ref (zad G 6 i), .ref (zad G 7 i), .ref (zad G 8 i), .int (f 3)]) := rfl
theorem zc6 (G : zG) (i : Nat) (f : Nat → Int32) : zcel G 6 i f = .inl (G.2.1 0, 4, .inl f) := rfl
theorem zc7 (G : zG) (i : Nat) (f : Nat → Int32) : zcel G 7 i f = .inl (G.2.1 0, 4, .inl f) := rfl
theorem zc8 (G : zG) (i : Nat) (f : Nat → Int32) : zcel G 8 i f = .inl (G.2.1 0, 4, .inl f) := rfl
theorem zc9 (G : zG) (i : Nat) (f : Nat → Int32) : zcel G 9 i f = .inr (6, [.ref (zad G 10 0), .ref (zad G 11 0), .ref (zad G 12 0), .ref (zad G 13 0), .int (f 4)]) := rfl
theorem zc10 (G : zG) (i : Nat) (f : Nat → Int32) : zcel G 10 i f = .inl (G.2.1 1, 4, .inl f) := rfl
theorem zc11 (G : zG) (i : Nat) (f : Nat → Int32) : zcel G 11 i f = .inl (G.2.1 0, 4, .inl f) := rfl
theorem zc12 (G : zG) (i : Nat) (f : Nat → Int32) : zcel G 12 i f = .inl (G.2.1 5, 12, .inr (.inr (.inr (.inr (fun j => some (zad G 14 j)))))) := rfl
theorem zc13 (G : zG) (i : Nat) (f : Nat → Int32) : zcel G 13 i f = .inl (G.2.1 0, 12, .inl f) := rfl
theorem zc14 (G : zG) (i : Nat) (f : Nat → Int32) : zcel G 14 i f = .inr (3, [.int (f 0), .int (f 1)]) := rfl
theorem zc15 (G : zG) (i : Nat) (f : Nat → Int32) : zcel G 15 i f = .inl (G.2.1 6, 3, .inr (.inr (.inr (.inr (fun j => some (zad G 16 j)))))) := rfl
theorem zc16 (G : zG) (i : Nat) (f : Nat → Int32) : zcel G 16 i f = .inr (5, [.ref (zad G 17 i), .ref (zad G 18 i), .int (f 2)]) := rfl
theorem zc17 (G : zG) (i : Nat) (f : Nat → Int32) : zcel G 17 i f = .inl (G.2.1 3, 8, .inr (.inr (.inr (.inr (fun j => some (zad G 19 (f j).toNatClampNeg)))))) := rfl
theorem zc18 (G : zG) (i : Nat) (f : Nat → Int32) : zcel G 18 i f = .inl (G.2.1 1, 32, .inl f) := rfl
theorem zc19 (G : zG) (i : Nat) (f : Nat → Int32) : zcel G 19 i f = .inr (0, [.ref (zad G 20 i), .ref (zad G 21 i), .ref (zad G 25 i), .int (f 3), .int (f 4), .int (f 5), .int (f 6)]) := rfl
theorem zc20 (G : zG) (i : Nat) (f : Nat → Int32) : zcel G 20 i f = .inr (3, [.int (f 0), .int (f 1)]) := rfl
theorem zc21 (G : zG) (i : Nat) (f : Nat → Int32) : zcel G 21 i f = .inr (1, [.ref (zad G 22 i), .ref (zad G 23 i), .ref (zad G 24 i), .int (f 3)]) := rfl
theorem zc22 (G : zG) (i : Nat) (f : Nat → Int32) : zcel G 22 i f = .inl (G.2.1 0, 4, .inl f) := rfl
theorem zc23 (G : zG) (i : Nat) (f : Nat → Int32) : zcel G 23 i f = .inl (G.2.1 0, 4, .inl f) := rfl
theorem zc24 (G : zG) (i : Nat) (f : Nat → Int32) : zcel G 24 i f = .inl (G.2.1 0, 4, .inl f) := rfl
theorem zc25 (G : zG) (i : Nat) (f : Nat → Int32) : zcel G 25 i f = .inl (G.2.1 0, 4, .inl f) := rfl
theorem zc26 (G : zG) (i : Nat) (f : Nat → Int32) : zcel G 26 i f = .inl (G.2.1 0, 16, .inl f) := rfl
theorem zc27 (G : zG) (i : Nat) (f : Nat → Int32) : zcel G 27 i f = .inl (G.2.1 0, 16, .inl f) := rfl
theorem zc28 (G : zG) (i : Nat) (f : Nat → Int32) : zcel G 28 i f = .inl (G.2.1 0, 64, .inl f) := rfl
theorem zc29 (G : zG) (i : Nat) (f : Nat → Int32) : zcel G 29 i f = .inl (G.2.1 0, 12, .inl f) := rfl
theorem zc30 (G : zG) (i : Nat) (f : Nat → Int32) : zcel G 30 i f = .inl (G.2.1 0, 16, .inl f) := rfl
theorem zc31 (G : zG) (i : Nat) (f : Nat → Int32) : zcel G 31 i f = .inl (G.2.1 0, 16, .inl f) := rfl
theorem zc32 (G : zG) (i : Nat) (f : Nat → Int32) : zcel G 32 i f = .inl (G.2.1 0, 16, .inl f) := rfl
theorem zc33 (G : zG) (i : Nat) (f : Nat → Int32) : zcel G 33 i f = .inl (G.2.1 0, 16, .inl f) := rfl
theorem zc34 (G : zG) (i : Nat) (f : Nat → Int32) : zcel G 34 i f = .inl (G.2.1 0, 64, .inl f) := rfl
theorem zc35 (G : zG) (i : Nat) (f : Nat → Int32) : zcel G 35 i f = .inl (G.2.1 0, 2, .inl f) := rfl
theorem zc36 (G : zG) (i : Nat) (f : Nat → Int32) : zcel G 36 i f = .inl (G.2.1 0, 12, .inl f) := rfl
section ZMORE
variable {p : Program} {l : Launch} {e : Env} {R : Room} {s : State} {m : MethodId} {args : Array Value} {below : List Frame} {meth : Method} {c : Code} {G : zG} {own : String} {cc : ByteArray} {nL : Nat} {rt : Option FieldType} {Q : State → Prop} {M : zMem} {cells slots : Nat} {lv : List (Nat × Value)} {st : List Value}
theorem z_ent {pc i j : Nat} (k : ∀ q : Nat, q = (zV M 17 i j).toNat → zZ p l e R s m args below meth c G nL Q M cells slots pc lv (.ref (zad G 19 q) :: st)) : zZ p l e R s m args below meth c G nL Q M cells slots pc lv (.ref (zad G 19 (M 17 i j).toNatClampNeg) :: st) := k _ rfl
theorem zZ_cs {pc k n : Nat} (h1 : cells = k) (h2 : slots = n) (kk : zZ p l e R s m args below meth c G nL Q M k n pc lv st) : zZ p l e R s m args below meth c G nL Q M cells slots pc lv st := by
  subst h1; subst h2; exact kk
theorem z_sub {pc : Nat} {lv' : List (Nat × Value)} (ks : List Nat) (h : lv_pick lv ks = lv') (kk : zZ p l e R s m args below meth c G nL Q M cells slots pc lv' st) : zZ p l e R s m args below meth c G nL Q M cells slots pc lv st := fun H locs ls hM hS hl => kk H locs ls hM hS (lv_sub hl ks h)
theorem z_min (C : zC p s m args meth c G own cc nL rt) (pc : Nat) {idx : Nat} (hw : Cond.methodLink own idx Lib.Math.min.name ∈ lw_tbl) {x y : Int} (hx : zrg x) (hy : zrg y) (hR : 1 ≤ R.frames ∧ (st.map fun v => v.category).sum + 13 ≤ R.locals ∧ cells ≤ R.cells ∧ slots ≤ R.slots) (d : decode cc pc = .ok (.invokestatic idx, 3)) (k : zZ p l e R s m args below meth c G nL Q M cells slots (pc + 3) lv (.int (zI (min x y)) :: st)) : zZ p l e R s m args below meth c G nL Q M cells slots pc lv (.int (zI y) :: .int (zI x) :: st) := by
  intro H locs ls hM hS hl
  refine va_mmin C.1 C.2.1 (C.2.2.1.trans hl.1.symm) C.o (C.w hw rfl) (C.w wst__Math_min rfl) (C.w wini_Math rfl) (C.w wc__Math_min rfl) hR.1 hR.2.1 hR.2.2.1 hR.2.2.2 d ?_
  have e1 : (if zI y < zI x then zI y else zI x) = zI (min x y) := by
    rw [show (if zI y < zI x then zI y else zI x) = zI (if y < x then y else x) from by
      by_cases q : y < x
      · rw [if_pos q, if_pos ((zI_lt hy hx).mpr q)]
      · rw [if_neg q, if_neg (fun z => q ((zI_lt hy hx).mp z))]]
    congr 1
    by_cases q : y < x
    · rw [if_pos q]; omega
    · rw [if_neg q]; omega
  rw [e1]
  exact k H locs ls hM hS hl
theorem z_max (C : zC p s m args meth c G own cc nL rt) (pc : Nat) {idx : Nat} (hw : Cond.methodLink own idx Lib.Math.max.name ∈ lw_tbl) {x y : Int} (hx : zrg x) (hy : zrg y) (hR : 1 ≤ R.frames ∧ (st.map fun v => v.category).sum + 13 ≤ R.locals ∧ cells ≤ R.cells ∧ slots ≤ R.slots) (d : decode cc pc = .ok (.invokestatic idx, 3)) (k : zZ p l e R s m args below meth c G nL Q M cells slots (pc + 3) lv (.int (zI (max x y)) :: st)) : zZ p l e R s m args below meth c G nL Q M cells slots pc lv (.int (zI y) :: .int (zI x) :: st) := by
  intro H locs ls hM hS hl
  refine va_mmax C.1 C.2.1 (C.2.2.1.trans hl.1.symm) C.o (C.w hw rfl) (C.w wst__Math_max rfl) (C.w wini_Math rfl) (C.w wc__Math_max rfl) hR.1 hR.2.1 hR.2.2.1 hR.2.2.2 d ?_
  have e1 : (if zI x < zI y then zI y else zI x) = zI (max x y) := by
    rw [show (if zI x < zI y then zI y else zI x) = zI (if x < y then y else x) from by
      by_cases q : x < y
      · rw [if_pos q, if_pos ((zI_lt hx hy).mpr q)]
      · rw [if_neg q, if_neg (fun z => q ((zI_lt hx hy).mp z))]]
    congr 1
    by_cases q : x < y
    · rw [if_pos q]; omega
    · rw [if_neg q]; omega
  rw [e1]
  exact k H locs ls hM hS hl
end ZMORE
/-- a truth value as a number -/
def zb (x : Int) (p : Prop) : Prop := (x = 0 ∨ x = 1) ∧ (x = 1 ↔ p)
theorem zb.t {x : Int} {p : Prop} (h : zb x p) (q : ¬ x = 0) : p := h.2.mp (by rcases h.1 with h | h; exact absurd h q; exact h)
theorem zb.f {x : Int} {p : Prop} (h : zb x p) (q : x = 0) : ¬ p := fun z => by have := h.2.mpr z; omega
theorem zb.one {p : Prop} (h : p) : zb 1 p := ⟨Or.inr rfl, ⟨fun _ => h, fun _ => rfl⟩⟩
theorem zb.zero {p : Prop} (h : ¬ p) : zb 0 p := ⟨Or.inl rfl, ⟨fun z => absurd z (by decide), fun z => absurd z h⟩⟩
/-- the first bits -/
def zfs (v b : Int) : Int := v / 2 ^ (16 - b).toNat
def zmeet (v b w d : Int) : Prop := zfs v (min b d) = zfs w (min b d)
/-- a value and a length -/
def zpfx (v b : Int) : Prop := 0 ≤ v ∧ v < 65536 ∧ 0 ≤ b ∧ b ≤ 16
theorem zV_upg (M : zMem) (κ i j : Nat) (v : Int32) (κ' i' j' : Nat) : zV (zup M κ i j v) κ' i' j' = if κ' = κ ∧ i' = i ∧ j' = j then v.toInt else zV M κ' i' j' := by
  unfold zV zup
  split <;> rfl
theorem zV_ne {M : zMem} {κ i j : Nat} {v : Int32} {κ' i' j' : Nat} (h : κ' ≠ κ) : zV (zup M κ i j v) κ' i' j' = zV M κ' i' j' := by rw [zV_upg, if_neg (fun q => h q.1)]
theorem zV_ni {M : zMem} {κ i j : Nat} {v : Int32} {κ' i' j' : Nat} (h : i' ≠ i) : zV (zup M κ i j v) κ' i' j' = zV M κ' i' j' := by rw [zV_upg, if_neg (fun q => h q.2.1)]
theorem zV_nj {M : zMem} {κ i j : Nat} {v : Int32} {κ' i' j' : Nat} (h : j' ≠ j) : zV (zup M κ i j v) κ' i' j' = zV M κ' i' j' := by rw [zV_upg, if_neg (fun q => h q.2.2)]
theorem zV_eq {M : zMem} {κ i j : Nat} {x : Int} (h : zrg x) : zV (zup M κ i j (zI x)) κ i j = x := by rw [zV_upg, if_pos ⟨rfl, rfl, rfl⟩]; exact zI_toInt h
/-- the place of a value among the first n, the first one; -1 if it isn't there -/
def zplace (f : Nat → Int) (n a x : Int) : Prop := (x = -1 ∧ ∀ j : Nat, (j : Int) < n → f j ≠ a) ∨ ∃ j : Nat, x = (j : Int) ∧ (j : Int) < n ∧ f j = a ∧ ∀ j' : Nat, j' < j → f j' ≠ a
theorem zsh_cases {b : Int} (h0 : 0 ≤ b) (h1 : b ≤ 16) : b = 0 ∨ b = 1 ∨ b = 2 ∨ b = 3 ∨ b = 4 ∨ b = 5 ∨ b = 6 ∨ b = 7 ∨ b = 8 ∨ b = 9 ∨ b = 10 ∨ b = 11 ∨ b = 12 ∨ b = 13 ∨ b = 14 ∨ b = 15 ∨ b = 16 := by omega
