section ZROWS
variable {p : Program} {l : Launch} {e : Env} {R : Room} {s : State} {m : MethodId} {args : Array Value} {below : List Frame} {meth : Method} {c : Code} {G : zG} {own : String} {cc : ByteArray} {nL : Nat} {rt : Option FieldType} {Q : State → Prop} {M : zMem} {cells slots : Nat} {lv : List (Nat × Value)} {st : List Value}
theorem zC.w (C : zC p s m args meth c G own cc nL rt) {w : Cond} (h : w ∈ lw_tbl) (g : zgood w = true) : w.before args s = true := C.2.2.2.2.1 w h g
theorem zC.k (C : zC p s m args meth c G own cc nL rt) : zK G s := C.2.2.2.2.2.1
theorem zC.o (C : zC p s m args meth c G own cc nL rt) : s.vm.findClass own = some m.cls := C.2.2.2.1
theorem zC.b (C : zC p s m args meth c G own cc nL rt) : va_S (zA G) (zB G) s.heap [] := C.2.2.2.2.2.2.2.2
theorem zC.S (C : zC p s m args meth c G own cc nL rt) {H : Heap} {locs : List Loc} (h : va_S (zA G) s.heap H locs) : va_S (zA G) (zB G) H [] :=
  ⟨Nat.le_trans C.b.1 h.1, fun q h1 h2 => by rw [h.2.1 q (Nat.lt_of_lt_of_le h1 C.b.1) h2]; exact C.b.2.1 q h1 h2, fun _ h => by cases h⟩
theorem zP_one {D : va_G} {cl : List vw_C} {q : Nat × va_E} {H : Heap} (h : va_at D cl q H) : va_P D cl [q] H := fun k q' hk => by
  cases k with
  | zero => cases hk; exact h
  | succ k => simp at hk
theorem zad_in {κ i : Nat} : zA G (zad G κ i) := Nat.le_add_right _ _
theorem z_iconst (C : zC p s m args meth c G own cc nL rt) (pc : Nat) {n : Int} (d : decode cc pc = .ok (.iconst n, 1)) (k : zZ p l e R s m args below meth c G nL Q M cells slots (pc + 1) lv (.int (zI n) :: st)) : zZ p l e R s m args below meth c G nL Q M cells slots pc lv st := fun H locs ls hM hS hl => lv_iconst C.1 C.2.1 d rfl (k H locs ls hM hS hl)
theorem z_bipush (C : zC p s m args meth c G own cc nL rt) (pc : Nat) {n : Int} (d : decode cc pc = .ok (.bipush n, 2)) (hv : (Int8.ofInt n).toInt32 = zI n) (k : zZ p l e R s m args below meth c G nL Q M cells slots (pc + 2) lv (.int (zI n) :: st)) : zZ p l e R s m args below meth c G nL Q M cells slots pc lv st := fun H locs ls hM hS hl => lv_bipush C.1 C.2.1 d hv (k H locs ls hM hS hl)
theorem z_sipush (C : zC p s m args meth c G own cc nL rt) (pc : Nat) {n : Int} (d : decode cc pc = .ok (.sipush n, 3)) (hv : (Int16.ofInt n).toInt32 = zI n) (k : zZ p l e R s m args below meth c G nL Q M cells slots (pc + 3) lv (.int (zI n) :: st)) : zZ p l e R s m args below meth c G nL Q M cells slots pc lv st := fun H locs ls hM hS hl => lv_sipush C.1 C.2.1 d hv (k H locs ls hM hS hl)
theorem z_ldc (C : zC p s m args meth c G own cc nL rt) (pc : Nat) {idx : Nat} {n : Int} (hw : Cond.constant own idx (zI n) ∈ lw_tbl) (d : decode cc pc = .ok (.ldc idx, 2)) (k : zZ p l e R s m args below meth c G nL Q M cells slots (pc + 2) lv (.int (zI n) :: st)) : zZ p l e R s m args below meth c G nL Q M cells slots pc lv st := fun H locs ls hM hS hl => W.ldc (v := zI n) C.1 C.2.1 C.o (C.w hw rfl) rfl d (k H locs ls hM hS hl)
theorem z_ldcw (C : zC p s m args meth c G own cc nL rt) (pc : Nat) {idx : Nat} {n : Int} (hw : Cond.constant own idx (zI n) ∈ lw_tbl) (d : decode cc pc = .ok (.ldc_w idx, 3)) (k : zZ p l e R s m args below meth c G nL Q M cells slots (pc + 3) lv (.int (zI n) :: st)) : zZ p l e R s m args below meth c G nL Q M cells slots pc lv st := fun H locs ls hM hS hl => lv_ldcw (v := zI n) C.1 C.2.1 C.o (C.w hw rfl) d (k H locs ls hM hS hl)
theorem z_iload_n (C : zC p s m args meth c G own cc nL rt) (pc : Nat) {j : Fin 4} {i : Nat} {x : Int} (d : decode cc pc = .ok (.iload_n j, 1)) (hi : (j : Nat) = i) (q : Nat) (hq : lv[q]? = some (i, .int (zI x))) (k : zZ p l e R s m args below meth c G nL Q M cells slots (pc + 1) lv (.int (zI x) :: st)) : zZ p l e R s m args below meth c G nL Q M cells slots pc lv st := fun H locs ls hM hS hl => lv_iload_n C.1 C.2.1 d hi (lv_at hl q hq) (k H locs ls hM hS hl)
theorem z_iload (C : zC p s m args meth c G own cc nL rt) (pc : Nat) {i : Nat} {x : Int} (d : decode cc pc = .ok (.iload i, 2)) (q : Nat) (hq : lv[q]? = some (i, .int (zI x))) (k : zZ p l e R s m args below meth c G nL Q M cells slots (pc + 2) lv (.int (zI x) :: st)) : zZ p l e R s m args below meth c G nL Q M cells slots pc lv st := fun H locs ls hM hS hl => lv_iload C.1 C.2.1 d (lv_at hl q hq) (k H locs ls hM hS hl)
theorem z_istore_n (C : zC p s m args meth c G own cc nL rt) (pc : Nat) {j : Fin 4} {i : Nat} {x : Int} {lv' : List (Nat × Value)} (d : decode cc pc = .ok (.istore_n j, 1)) (hi : (j : Nat) = i) (hn : i < nL) (hl' : (i, Value.int (zI x)) :: lv.filter (fun q => !(q.1 == i) && !(q.1 + 1 == i && q.2.category == 2)) = lv') (k : zZ p l e R s m args below meth c G nL Q M cells slots (pc + 1) lv' st) : zZ p l e R s m args below meth c G nL Q M cells slots pc lv (.int (zI x) :: st) := fun H locs ls hM hS hl => lv_istore_n C.1 C.2.1 d hi hl hn hl' (fun ls' h' => k H locs ls' hM hS h')
theorem z_istore (C : zC p s m args meth c G own cc nL rt) (pc : Nat) {i : Nat} {x : Int} {lv' : List (Nat × Value)} (d : decode cc pc = .ok (.istore i, 2)) (hn : i < nL) (hl' : (i, Value.int (zI x)) :: lv.filter (fun q => !(q.1 == i) && !(q.1 + 1 == i && q.2.category == 2)) = lv') (k : zZ p l e R s m args below meth c G nL Q M cells slots (pc + 2) lv' st) : zZ p l e R s m args below meth c G nL Q M cells slots pc lv (.int (zI x) :: st) := fun H locs ls hM hS hl => lv_istore C.1 C.2.1 d hl hn hl' (fun ls' h' => k H locs ls' hM hS h')
theorem z_aload_n (C : zC p s m args meth c G own cc nL rt) (pc : Nat) {j : Fin 4} {i : Nat} {x : Nat} (d : decode cc pc = .ok (.aload_n j, 1)) (hi : (j : Nat) = i) (q : Nat) (hq : lv[q]? = some (i, .ref x)) (k : zZ p l e R s m args below meth c G nL Q M cells slots (pc + 1) lv (.ref x :: st)) : zZ p l e R s m args below meth c G nL Q M cells slots pc lv st := fun H locs ls hM hS hl => lv_aload_n C.1 C.2.1 d hi (lv_at hl q hq) (k H locs ls hM hS hl)
theorem z_aload (C : zC p s m args meth c G own cc nL rt) (pc : Nat) {i : Nat} {x : Nat} (d : decode cc pc = .ok (.aload i, 2)) (q : Nat) (hq : lv[q]? = some (i, .ref x)) (k : zZ p l e R s m args below meth c G nL Q M cells slots (pc + 2) lv (.ref x :: st)) : zZ p l e R s m args below meth c G nL Q M cells slots pc lv st := fun H locs ls hM hS hl => lv_aload C.1 C.2.1 d (lv_at hl q hq) (k H locs ls hM hS hl)
theorem z_astore_n (C : zC p s m args meth c G own cc nL rt) (pc : Nat) {j : Fin 4} {i : Nat} {x : Nat} {lv' : List (Nat × Value)} (d : decode cc pc = .ok (.astore_n j, 1)) (hi : (j : Nat) = i) (hn : i < nL) (hl' : (i, Value.ref x) :: lv.filter (fun q => !(q.1 == i) && !(q.1 + 1 == i && q.2.category == 2)) = lv') (k : zZ p l e R s m args below meth c G nL Q M cells slots (pc + 1) lv' st) : zZ p l e R s m args below meth c G nL Q M cells slots pc lv (.ref x :: st) := fun H locs ls hM hS hl => lv_astore_n C.1 C.2.1 d hi hl hn hl' (fun ls' h' => k H locs ls' hM hS h')
theorem z_astore (C : zC p s m args meth c G own cc nL rt) (pc : Nat) {i : Nat} {x : Nat} {lv' : List (Nat × Value)} (d : decode cc pc = .ok (.astore i, 2)) (hn : i < nL) (hl' : (i, Value.ref x) :: lv.filter (fun q => !(q.1 == i) && !(q.1 + 1 == i && q.2.category == 2)) = lv') (k : zZ p l e R s m args below meth c G nL Q M cells slots (pc + 2) lv' st) : zZ p l e R s m args below meth c G nL Q M cells slots pc lv (.ref x :: st) := fun H locs ls hM hS hl => lv_astore C.1 C.2.1 d hl hn hl' (fun ls' h' => k H locs ls' hM hS h')
theorem z_iinc (C : zC p s m args meth c G own cc nL rt) (pc : Nat) {i : Nat} {n x : Int} {lv' : List (Nat × Value)} (d : decode cc pc = .ok (.iinc i n, 3)) (q : Nat) (hq : lv[q]? = some (i, .int (zI x))) (hn : i < nL) (hl' : (i, Value.int (zI (x + n))) :: lv.filter (fun q => !(q.1 == i) && !(q.1 + 1 == i && q.2.category == 2)) = lv') (k : zZ p l e R s m args below meth c G nL Q M cells slots (pc + 3) lv' st) : zZ p l e R s m args below meth c G nL Q M cells slots pc lv st := fun H locs ls hM hS hl => lv_iinc C.1 C.2.1 d hl hq (zI_add x n) hn hl' (fun ls' h' => k H locs ls' hM hS h')
theorem z_iadd (C : zC p s m args meth c G own cc nL rt) (pc : Nat) {x y : Int} (d : decode cc pc = .ok (.iadd, 1)) (k : zZ p l e R s m args below meth c G nL Q M cells slots (pc + 1) lv (.int (zI (x + y)) :: st)) : zZ p l e R s m args below meth c G nL Q M cells slots pc lv (.int (zI y) :: .int (zI x) :: st) := fun H locs ls hM hS hl => lv_iadd C.1 C.2.1 d (by rw [zI_add]; exact (k H locs ls hM hS hl))
theorem z_isub (C : zC p s m args meth c G own cc nL rt) (pc : Nat) {x y : Int} (d : decode cc pc = .ok (.isub, 1)) (k : zZ p l e R s m args below meth c G nL Q M cells slots (pc + 1) lv (.int (zI (x - y)) :: st)) : zZ p l e R s m args below meth c G nL Q M cells slots pc lv (.int (zI y) :: .int (zI x) :: st) := fun H locs ls hM hS hl => lv_isub C.1 C.2.1 d (by rw [zI_sub]; exact (k H locs ls hM hS hl))
theorem z_imul (C : zC p s m args meth c G own cc nL rt) (pc : Nat) {x y : Int} (d : decode cc pc = .ok (.imul, 1)) (k : zZ p l e R s m args below meth c G nL Q M cells slots (pc + 1) lv (.int (zI (x * y)) :: st)) : zZ p l e R s m args below meth c G nL Q M cells slots pc lv (.int (zI y) :: .int (zI x) :: st) := fun H locs ls hM hS hl => lv_imul C.1 C.2.1 d (by rw [zI_mul]; exact (k H locs ls hM hS hl))
theorem z_ineg (C : zC p s m args meth c G own cc nL rt) (pc : Nat) {x : Int} (d : decode cc pc = .ok (.ineg, 1)) (k : zZ p l e R s m args below meth c G nL Q M cells slots (pc + 1) lv (.int (zI (-x)) :: st)) : zZ p l e R s m args below meth c G nL Q M cells slots pc lv (.int (zI x) :: st) := fun H locs ls hM hS hl => lv_ineg C.1 C.2.1 d (by rw [zI_neg]; exact (k H locs ls hM hS hl))
theorem z_ishr (C : zC p s m args meth c G own cc nL rt) (pc : Nat) {x y : Int} {v : Int} (d : decode cc pc = .ok (.ishr, 1)) (hv : zI x >>> (zI y &&& 31) = zI v) (k : zZ p l e R s m args below meth c G nL Q M cells slots (pc + 1) lv (.int (zI v) :: st)) : zZ p l e R s m args below meth c G nL Q M cells slots pc lv (.int (zI y) :: .int (zI x) :: st) := fun H locs ls hM hS hl => lv_ishr C.1 C.2.1 d (by rw [hv]; exact (k H locs ls hM hS hl))
theorem z_ishl (C : zC p s m args meth c G own cc nL rt) (pc : Nat) {x y : Int} {v : Int} (d : decode cc pc = .ok (.ishl, 1)) (hv : zI x <<< (zI y &&& 31) = zI v) (k : zZ p l e R s m args below meth c G nL Q M cells slots (pc + 1) lv (.int (zI v) :: st)) : zZ p l e R s m args below meth c G nL Q M cells slots pc lv (.int (zI y) :: .int (zI x) :: st) := fun H locs ls hM hS hl => lv_ishl C.1 C.2.1 d (by rw [hv]; exact (k H locs ls hM hS hl))
theorem z_iand (C : zC p s m args meth c G own cc nL rt) (pc : Nat) {x y : Int} {v : Int} (d : decode cc pc = .ok (.iand, 1)) (hv : zI x &&& zI y = zI v) (k : zZ p l e R s m args below meth c G nL Q M cells slots (pc + 1) lv (.int (zI v) :: st)) : zZ p l e R s m args below meth c G nL Q M cells slots pc lv (.int (zI y) :: .int (zI x) :: st) := fun H locs ls hM hS hl => lv_iand C.1 C.2.1 d (by rw [hv]; exact (k H locs ls hM hS hl))
theorem z_ixor (C : zC p s m args meth c G own cc nL rt) (pc : Nat) {x y : Int} {v : Int} (d : decode cc pc = .ok (.ixor, 1)) (hv : zI x ^^^ zI y = zI v) (k : zZ p l e R s m args below meth c G nL Q M cells slots (pc + 1) lv (.int (zI v) :: st)) : zZ p l e R s m args below meth c G nL Q M cells slots pc lv (.int (zI y) :: .int (zI x) :: st) := fun H locs ls hM hS hl => lv_ixor C.1 C.2.1 d (by rw [hv]; exact (k H locs ls hM hS hl))
theorem z_ior (C : zC p s m args meth c G own cc nL rt) (pc : Nat) {x y : Int} {v : Int} (d : decode cc pc = .ok (.ior, 1)) (hv : zI x ||| zI y = zI v) (k : zZ p l e R s m args below meth c G nL Q M cells slots (pc + 1) lv (.int (zI v) :: st)) : zZ p l e R s m args below meth c G nL Q M cells slots pc lv (.int (zI y) :: .int (zI x) :: st) := fun H locs ls hM hS hl => lv_ior C.1 C.2.1 d (by rw [hv]; exact (k H locs ls hM hS hl))
theorem z_ishr_any (C : zC p s m args meth c G own cc nL rt) (pc : Nat) {x y : Int} (d : decode cc pc = .ok (.ishr, 1)) (k : ∀ v : Int, zrg v → zZ p l e R s m args below meth c G nL Q M cells slots (pc + 1) lv (.int (zI v) :: st)) : zZ p l e R s m args below meth c G nL Q M cells slots pc lv (.int (zI y) :: .int (zI x) :: st) := z_ishr C pc d (zI_of _).symm (k _ (zrgI _))
theorem z_ishl_any (C : zC p s m args meth c G own cc nL rt) (pc : Nat) {x y : Int} (d : decode cc pc = .ok (.ishl, 1)) (k : ∀ v : Int, zrg v → zZ p l e R s m args below meth c G nL Q M cells slots (pc + 1) lv (.int (zI v) :: st)) : zZ p l e R s m args below meth c G nL Q M cells slots pc lv (.int (zI y) :: .int (zI x) :: st) := z_ishl C pc d (zI_of _).symm (k _ (zrgI _))
theorem z_iand_any (C : zC p s m args meth c G own cc nL rt) (pc : Nat) {x y : Int} (d : decode cc pc = .ok (.iand, 1)) (k : ∀ v : Int, zrg v → zZ p l e R s m args below meth c G nL Q M cells slots (pc + 1) lv (.int (zI v) :: st)) : zZ p l e R s m args below meth c G nL Q M cells slots pc lv (.int (zI y) :: .int (zI x) :: st) := z_iand C pc d (zI_of _).symm (k _ (zrgI _))
theorem z_ixor_any (C : zC p s m args meth c G own cc nL rt) (pc : Nat) {x y : Int} (d : decode cc pc = .ok (.ixor, 1)) (k : ∀ v : Int, zrg v → zZ p l e R s m args below meth c G nL Q M cells slots (pc + 1) lv (.int (zI v) :: st)) : zZ p l e R s m args below meth c G nL Q M cells slots pc lv (.int (zI y) :: .int (zI x) :: st) := z_ixor C pc d (zI_of _).symm (k _ (zrgI _))
theorem z_ior_any (C : zC p s m args meth c G own cc nL rt) (pc : Nat) {x y : Int} (d : decode cc pc = .ok (.ior, 1)) (k : ∀ v : Int, zrg v → zZ p l e R s m args below meth c G nL Q M cells slots (pc + 1) lv (.int (zI v) :: st)) : zZ p l e R s m args below meth c G nL Q M cells slots pc lv (.int (zI y) :: .int (zI x) :: st) := z_ior C pc d (zI_of _).symm (k _ (zrgI _))
theorem zI_div {x y : Int} (hx : zrg x) (h0 : 0 ≤ x) (hy : zrg y) (h1 : 0 < y) : zI x / zI y = zI (x / y) := by
  refine Int32.toInt_inj.mp ?_
  have h2 : x / y ≤ x := Int.ediv_le_self y h0
  have h3 : 0 ≤ x / y := Int.ediv_nonneg h0 (by omega)
  have hne : zI y ≠ -1 := fun z => by
    have h8 := congrArg Int32.toInt z
    rw [zI_toInt hy] at h8
    have h9 : (-1 : Int32).toInt = -1 := rfl
    omega
  rw [Int32.toInt_div_of_ne_right _ _ hne, zI_toInt hx, zI_toInt hy, Int.tdiv_eq_ediv_of_nonneg h0, zI_toInt (by omega)]
theorem zI_rem {x y : Int} (hx : zrg x) (h0 : 0 ≤ x) (hy : zrg y) (h1 : 0 < y) : zI x - zI x / zI y * zI y = zI (x % y) := by
  rw [zI_div hx h0 hy h1, zI_mul, zI_sub]
  congr 1
  have h := Int.emod_add_mul_ediv x y
  rw [Int.mul_comm] at h
  omega
theorem z_idiv (C : zC p s m args meth c G own cc nL rt) (pc : Nat) {x y : Int} (d : decode cc pc = .ok (.idiv, 1)) (hx : zrg x) (h0 : 0 ≤ x) (hy : zrg y) (h1 : 0 < y) (k : zZ p l e R s m args below meth c G nL Q M cells slots (pc + 1) lv (.int (zI (x / y)) :: st)) : zZ p l e R s m args below meth c G nL Q M cells slots pc lv (.int (zI y) :: .int (zI x) :: st) := fun H locs ls hM hS hl => lv_idiv C.1 C.2.1 d (fun z => by have := (zI_eq hy (by decide : zrg 0)).mp z; omega) (by rw [zI_div hx h0 hy h1]; exact k H locs ls hM hS hl)
theorem z_irem (C : zC p s m args meth c G own cc nL rt) (pc : Nat) {x y : Int} (d : decode cc pc = .ok (.irem, 1)) (hx : zrg x) (h0 : 0 ≤ x) (hy : zrg y) (h1 : 0 < y) (k : zZ p l e R s m args below meth c G nL Q M cells slots (pc + 1) lv (.int (zI (x % y)) :: st)) : zZ p l e R s m args below meth c G nL Q M cells slots pc lv (.int (zI y) :: .int (zI x) :: st) := fun H locs ls hM hS hl => lv_irem C.1 C.2.1 d (fun z => by have := (zI_eq hy (by decide : zrg 0)).mp z; omega) (by rw [zI_rem hx h0 hy h1]; exact k H locs ls hM hS hl)
theorem z_any (C : zC p s m args meth c G own cc nL rt) {pc : Nat} {x : Int} (k : ∀ v : Int, zrg v → zZ p l e R s m args below meth c G nL Q M cells slots pc lv (.int (zI v) :: st)) : zZ p l e R s m args below meth c G nL Q M cells slots pc lv (.int (zI x) :: st) := by have h := k (zI x).toInt (zrgI _); rw [zI_of] at h; exact h
theorem z_to (C : zC p s m args meth c G own cc nL rt) {pc : Nat} {x y : Int} (exy : x = y) (k : zZ p l e R s m args below meth c G nL Q M cells slots pc lv (.int (zI y) :: st)) : zZ p l e R s m args below meth c G nL Q M cells slots pc lv (.int (zI x) :: st) := by rw [exy]; exact k
theorem z_lookup (C : zC p s m args meth c G own cc nL rt) (pc : Nat) {dflt : Int} {ps : Array (Int × Int)} {len : Nat} {x off : Int} (tgt : Nat) (hx : zrg x) (d : decode cc pc = .ok (.lookupswitch dflt ps, len)) (hp : (ps.toList.zip (ps.toList.drop 1)).all (fun (a, next) => a.1 < next.1) = true) (ho : Op.lookupswitch.offset ps.toList dflt x = off) (ht : (pc : Int) + off = (tgt : Int)) (k : zZ p l e R s m args below meth c G nL Q M cells slots tgt lv st) : zZ p l e R s m args below meth c G nL Q M cells slots pc lv (.int (zI x) :: st) := fun H locs ls hM hS hl => lv_lookup C.1 C.2.1 d hp (by rw [zI_toInt hx]; exact ho) ht (k H locs ls hM hS hl)
theorem zC.n (C : zC p s m args meth c G own cc nL rt) : zNC s := C.k.2.2.2.2.2.1
theorem zC.x (C : zC p s m args meth c G own cc nL rt) : va_X (zS G).1 (zS G).2.1 (zS G).2.2 s (zB G) ∧ (zS G).1 < (zB G).size ∧ (zS G).2.1 ≤ 260 := C.k.2.2.2.2.2.2
theorem zI_ofNat (n : Nat) : Int32.ofNat n = zI (n : Int) := by
  refine Int32.toBitVec_inj.mp ?_
  show BitVec.ofNat 32 n = BitVec.ofInt 32 (n : Int)
  exact (BitVec.ofInt_natCast 32 n).symm
theorem z_slen (C : zC p s m args meth c G own cc nL rt) (pc : Nat) (d : decode cc pc = .ok (.arraylength, 1)) (k : zZ p l e R s m args below meth c G nL Q M cells slots (pc + 1) lv (.int (zI ((zS G).2.1 : Int)) :: st)) : zZ p l e R s m args below meth c G nL Q M cells slots pc lv (.ref (zS G).1 :: st) := by
  intro H locs ls hM hS hl
  refine va_slen C.1 C.2.1 C.x.1 C.x.2.1 (A := zA G) (show ¬ (zB G).size ≤ _ from Nat.not_le.mpr C.x.2.1) ⟨(C.S hS).1, (C.S hS).2.1, hS.2.2⟩ d ?_
  rw [zI_ofNat]
  exact k H locs ls hM hS hl
theorem z_sld (C : zC p s m args meth c G own cc nL rt) (pc : Nat) {x : Int} (hx : zrg x) (h0 : 0 ≤ x) (h1 : x < ((zS G).2.1 : Int)) (d : decode cc pc = .ok (.iaload, 1)) (k : ∀ y : Int, zrg y → zZ p l e R s m args below meth c G nL Q M cells slots (pc + 1) lv (.int (zI y) :: st)) : zZ p l e R s m args below meth c G nL Q M cells slots pc lv (.int (zI x) :: .ref (zS G).1 :: st) := by
  intro H locs ls hM hS hl
  refine va_sld C.1 C.2.1 C.x.1 C.x.2.1 (A := zA G) (show ¬ (zB G).size ≤ _ from Nat.not_le.mpr C.x.2.1) ⟨(C.S hS).1, (C.S hS).2.1, hS.2.2⟩ (zI_in h0 h1 hx) d ?_
  rw [← zI_of ((zS G).2.2 _)]
  exact k _ (zrgI _) H locs ls hM hS hl
theorem z_iushr (C : zC p s m args meth c G own cc nL rt) (pc : Nat) {x y v : Int} (d : decode cc pc = .ok (.iushr, 1)) (hv : ((zI x).toUInt32 >>> ((zI y).toUInt32 &&& Int32.toUInt32 31)).toInt32 = zI v) (k : zZ p l e R s m args below meth c G nL Q M cells slots (pc + 1) lv (.int (zI v) :: st)) : zZ p l e R s m args below meth c G nL Q M cells slots pc lv (.int (zI y) :: .int (zI x) :: st) := fun H locs ls hM hS hl => lv_iushr C.1 C.2.1 d hv (k H locs ls hM hS hl)
theorem z_dup (C : zC p s m args meth c G own cc nL rt) (pc : Nat) {v : Value} (d : decode cc pc = .ok (.dup, 1)) (hv : v.category = 1) (k : zZ p l e R s m args below meth c G nL Q M cells slots (pc + 1) lv (v :: v :: st)) : zZ p l e R s m args below meth c G nL Q M cells slots pc lv (v :: st) := fun H locs ls hM hS hl => lv_dup C.1 C.2.1 d hv (k H locs ls hM hS hl)
theorem z_dup2 (C : zC p s m args meth c G own cc nL rt) (pc : Nat) {v w : Value} (d : decode cc pc = .ok (.dup2, 1)) (hv : v.category = 1) (hw : w.category = 1) (k : zZ p l e R s m args below meth c G nL Q M cells slots (pc + 1) lv (v :: w :: v :: w :: st)) : zZ p l e R s m args below meth c G nL Q M cells slots pc lv (v :: w :: st) := fun H locs ls hM hS hl => lv_dup2_11 C.1 C.2.1 d hv hw (k H locs ls hM hS hl)
theorem z_pop (C : zC p s m args meth c G own cc nL rt) (pc : Nat) {v : Value} (d : decode cc pc = .ok (.pop, 1)) (hv : v.category = 1) (k : zZ p l e R s m args below meth c G nL Q M cells slots (pc + 1) lv st) : zZ p l e R s m args below meth c G nL Q M cells slots pc lv (v :: st) := fun H locs ls hM hS hl => lv_pop C.1 C.2.1 d hv (k H locs ls hM hS hl)
theorem z_goto (C : zC p s m args meth c G own cc nL rt) (pc : Nat) {off : Int} (tgt : Nat) (d : decode cc pc = .ok (.goto off, 3)) (ht : (pc : Int) + off = (tgt : Int)) (k : zZ p l e R s m args below meth c G nL Q M cells slots tgt lv st) : zZ p l e R s m args below meth c G nL Q M cells slots pc lv st := fun H locs ls hM hS hl => lv_goto C.1 C.2.1 d ht (k H locs ls hM hS hl)
theorem z_i2l (C : zC p s m args meth c G own cc nL rt) (pc : Nat) {x : Int} (d : decode cc pc = .ok (.i2l, 1)) (k : zZ p l e R s m args below meth c G nL Q M cells slots (pc + 1) lv (.long (zI x).toInt64 :: st)) : zZ p l e R s m args below meth c G nL Q M cells slots pc lv (.int (zI x) :: st) := fun H locs ls hM hS hl => lv_i2l C.1 C.2.1 d rfl (k H locs ls hM hS hl)
theorem z_lconst (C : zC p s m args meth c G own cc nL rt) (pc : Nat) {n : Fin 2} {x : Int} (d : decode cc pc = .ok (.lconst n, 1)) (hx : Int64.ofNat (n : Nat) = (zI x).toInt64) (k : zZ p l e R s m args below meth c G nL Q M cells slots (pc + 1) lv (.long (zI x).toInt64 :: st)) : zZ p l e R s m args below meth c G nL Q M cells slots pc lv st := fun H locs ls hM hS hl => lv_lconst C.1 C.2.1 d hx (k H locs ls hM hS hl)
theorem z_icmp_eq (C : zC p s m args meth c G own cc nL rt) (pc tgt : Nat) {off x y : Int} (d : decode cc pc = .ok (.if_icmp .eq off, 3)) (ht : (pc : Int) + off = (tgt : Int)) (hx : zrg x) (hy : zrg y) (kt : x = y → zZ p l e R s m args below meth c G nL Q M cells slots tgt lv st) (kf : ¬ x = y → zZ p l e R s m args below meth c G nL Q M cells slots (pc + 3) lv st) : zZ p l e R s m args below meth c G nL Q M cells slots pc lv (.int (zI y) :: .int (zI x) :: st) := fun H locs ls hM hS hl => lv_icmp_eq C.1 C.2.1 d ht (fun q => kt ((zI_eq hx hy).mp q) H locs ls hM hS hl) (fun q => kf (fun z => q ((zI_eq hx hy).mpr z)) H locs ls hM hS hl)
theorem z_if_eq (C : zC p s m args meth c G own cc nL rt) (pc tgt : Nat) {off x : Int} (d : decode cc pc = .ok (.ifCond .eq off, 3)) (ht : (pc : Int) + off = (tgt : Int)) (hx : zrg x) (kt : x = 0 → zZ p l e R s m args below meth c G nL Q M cells slots tgt lv st) (kf : ¬ x = 0 → zZ p l e R s m args below meth c G nL Q M cells slots (pc + 3) lv st) : zZ p l e R s m args below meth c G nL Q M cells slots pc lv (.int (zI x) :: st) := fun H locs ls hM hS hl => lv_if_eq C.1 C.2.1 d ht (fun q => kt ((zI_eq hx (by decide : zrg 0)).mp q) H locs ls hM hS hl) (fun q => kf (fun z => q ((zI_eq hx (by decide : zrg 0)).mpr z)) H locs ls hM hS hl)
theorem z_icmp_ne (C : zC p s m args meth c G own cc nL rt) (pc tgt : Nat) {off x y : Int} (d : decode cc pc = .ok (.if_icmp .ne off, 3)) (ht : (pc : Int) + off = (tgt : Int)) (hx : zrg x) (hy : zrg y) (kt : ¬ x = y → zZ p l e R s m args below meth c G nL Q M cells slots tgt lv st) (kf : x = y → zZ p l e R s m args below meth c G nL Q M cells slots (pc + 3) lv st) : zZ p l e R s m args below meth c G nL Q M cells slots pc lv (.int (zI y) :: .int (zI x) :: st) := fun H locs ls hM hS hl => lv_icmp_ne C.1 C.2.1 d ht (fun q => kt (fun z => q ((zI_eq hx hy).mpr z)) H locs ls hM hS hl) (fun q => kf ((zI_eq hx hy).mp q) H locs ls hM hS hl)
theorem z_if_ne (C : zC p s m args meth c G own cc nL rt) (pc tgt : Nat) {off x : Int} (d : decode cc pc = .ok (.ifCond .ne off, 3)) (ht : (pc : Int) + off = (tgt : Int)) (hx : zrg x) (kt : ¬ x = 0 → zZ p l e R s m args below meth c G nL Q M cells slots tgt lv st) (kf : x = 0 → zZ p l e R s m args below meth c G nL Q M cells slots (pc + 3) lv st) : zZ p l e R s m args below meth c G nL Q M cells slots pc lv (.int (zI x) :: st) := fun H locs ls hM hS hl => lv_if_ne C.1 C.2.1 d ht (fun q => kt (fun z => q ((zI_eq hx (by decide : zrg 0)).mpr z)) H locs ls hM hS hl) (fun q => kf ((zI_eq hx (by decide : zrg 0)).mp q) H locs ls hM hS hl)
theorem z_icmp_lt (C : zC p s m args meth c G own cc nL rt) (pc tgt : Nat) {off x y : Int} (d : decode cc pc = .ok (.if_icmp .lt off, 3)) (ht : (pc : Int) + off = (tgt : Int)) (hx : zrg x) (hy : zrg y) (kt : x < y → zZ p l e R s m args below meth c G nL Q M cells slots tgt lv st) (kf : y ≤ x → zZ p l e R s m args below meth c G nL Q M cells slots (pc + 3) lv st) : zZ p l e R s m args below meth c G nL Q M cells slots pc lv (.int (zI y) :: .int (zI x) :: st) := fun H locs ls hM hS hl => lv_icmp_lt C.1 C.2.1 d ht (fun q => kt ((zI_lt hx hy).mp q) H locs ls hM hS hl) (fun q => kf (Int.not_lt.mp fun z => q ((zI_lt hx hy).mpr z)) H locs ls hM hS hl)
theorem z_if_lt (C : zC p s m args meth c G own cc nL rt) (pc tgt : Nat) {off x : Int} (d : decode cc pc = .ok (.ifCond .lt off, 3)) (ht : (pc : Int) + off = (tgt : Int)) (hx : zrg x) (kt : x < 0 → zZ p l e R s m args below meth c G nL Q M cells slots tgt lv st) (kf : 0 ≤ x → zZ p l e R s m args below meth c G nL Q M cells slots (pc + 3) lv st) : zZ p l e R s m args below meth c G nL Q M cells slots pc lv (.int (zI x) :: st) := fun H locs ls hM hS hl => lv_if_lt C.1 C.2.1 d ht (fun q => kt ((zI_lt hx (by decide : zrg 0)).mp q) H locs ls hM hS hl) (fun q => kf (Int.not_lt.mp fun z => q ((zI_lt hx (by decide : zrg 0)).mpr z)) H locs ls hM hS hl)
theorem z_icmp_ge (C : zC p s m args meth c G own cc nL rt) (pc tgt : Nat) {off x y : Int} (d : decode cc pc = .ok (.if_icmp .ge off, 3)) (ht : (pc : Int) + off = (tgt : Int)) (hx : zrg x) (hy : zrg y) (kt : y ≤ x → zZ p l e R s m args below meth c G nL Q M cells slots tgt lv st) (kf : x < y → zZ p l e R s m args below meth c G nL Q M cells slots (pc + 3) lv st) : zZ p l e R s m args below meth c G nL Q M cells slots pc lv (.int (zI y) :: .int (zI x) :: st) := fun H locs ls hM hS hl => lv_icmp_ge C.1 C.2.1 d ht (fun q => kt ((zI_le hy hx).mp q) H locs ls hM hS hl) (fun q => kf (Int.not_le.mp fun z => q ((zI_le hy hx).mpr z)) H locs ls hM hS hl)
theorem z_if_ge (C : zC p s m args meth c G own cc nL rt) (pc tgt : Nat) {off x : Int} (d : decode cc pc = .ok (.ifCond .ge off, 3)) (ht : (pc : Int) + off = (tgt : Int)) (hx : zrg x) (kt : 0 ≤ x → zZ p l e R s m args below meth c G nL Q M cells slots tgt lv st) (kf : x < 0 → zZ p l e R s m args below meth c G nL Q M cells slots (pc + 3) lv st) : zZ p l e R s m args below meth c G nL Q M cells slots pc lv (.int (zI x) :: st) := fun H locs ls hM hS hl => lv_if_ge C.1 C.2.1 d ht (fun q => kt ((zI_le (by decide : zrg 0) hx).mp q) H locs ls hM hS hl) (fun q => kf (Int.not_le.mp fun z => q ((zI_le (by decide : zrg 0) hx).mpr z)) H locs ls hM hS hl)
theorem z_icmp_gt (C : zC p s m args meth c G own cc nL rt) (pc tgt : Nat) {off x y : Int} (d : decode cc pc = .ok (.if_icmp .gt off, 3)) (ht : (pc : Int) + off = (tgt : Int)) (hx : zrg x) (hy : zrg y) (kt : y < x → zZ p l e R s m args below meth c G nL Q M cells slots tgt lv st) (kf : x ≤ y → zZ p l e R s m args below meth c G nL Q M cells slots (pc + 3) lv st) : zZ p l e R s m args below meth c G nL Q M cells slots pc lv (.int (zI y) :: .int (zI x) :: st) := fun H locs ls hM hS hl => lv_icmp_gt C.1 C.2.1 d ht (fun q => kt ((zI_lt hy hx).mp q) H locs ls hM hS hl) (fun q => kf (Int.not_lt.mp fun z => q ((zI_lt hy hx).mpr z)) H locs ls hM hS hl)
theorem z_if_gt (C : zC p s m args meth c G own cc nL rt) (pc tgt : Nat) {off x : Int} (d : decode cc pc = .ok (.ifCond .gt off, 3)) (ht : (pc : Int) + off = (tgt : Int)) (hx : zrg x) (kt : 0 < x → zZ p l e R s m args below meth c G nL Q M cells slots tgt lv st) (kf : x ≤ 0 → zZ p l e R s m args below meth c G nL Q M cells slots (pc + 3) lv st) : zZ p l e R s m args below meth c G nL Q M cells slots pc lv (.int (zI x) :: st) := fun H locs ls hM hS hl => lv_if_gt C.1 C.2.1 d ht (fun q => kt ((zI_lt (by decide : zrg 0) hx).mp q) H locs ls hM hS hl) (fun q => kf (Int.not_lt.mp fun z => q ((zI_lt (by decide : zrg 0) hx).mpr z)) H locs ls hM hS hl)
theorem z_icmp_le (C : zC p s m args meth c G own cc nL rt) (pc tgt : Nat) {off x y : Int} (d : decode cc pc = .ok (.if_icmp .le off, 3)) (ht : (pc : Int) + off = (tgt : Int)) (hx : zrg x) (hy : zrg y) (kt : x ≤ y → zZ p l e R s m args below meth c G nL Q M cells slots tgt lv st) (kf : y < x → zZ p l e R s m args below meth c G nL Q M cells slots (pc + 3) lv st) : zZ p l e R s m args below meth c G nL Q M cells slots pc lv (.int (zI y) :: .int (zI x) :: st) := fun H locs ls hM hS hl => lv_icmp_le C.1 C.2.1 d ht (fun q => kt ((zI_le hx hy).mp q) H locs ls hM hS hl) (fun q => kf (Int.not_le.mp fun z => q ((zI_le hx hy).mpr z)) H locs ls hM hS hl)
theorem z_if_le (C : zC p s m args meth c G own cc nL rt) (pc tgt : Nat) {off x : Int} (d : decode cc pc = .ok (.ifCond .le off, 3)) (ht : (pc : Int) + off = (tgt : Int)) (hx : zrg x) (kt : x ≤ 0 → zZ p l e R s m args below meth c G nL Q M cells slots tgt lv st) (kf : 0 < x → zZ p l e R s m args below meth c G nL Q M cells slots (pc + 3) lv st) : zZ p l e R s m args below meth c G nL Q M cells slots pc lv (.int (zI x) :: st) := fun H locs ls hM hS hl => lv_if_le C.1 C.2.1 d ht (fun q => kt ((zI_le hx (by decide : zrg 0)).mp q) H locs ls hM hS hl) (fun q => kf (Int.not_le.mp fun z => q ((zI_le hx (by decide : zrg 0)).mpr z)) H locs ls hM hS hl)
theorem z_get (C : zC p s m args meth c G own cc nL rt) (pc : Nat) {κ i ci N idx : Nat} {C0 : String} {T : u_T} {ty : Nat → FieldType} {fs : List Value} (cl : zCl ci C0 T N ty) (hi : i < znum κ) (hc : zcel G κ i (M κ i) = .inr (ci, fs)) (j : Nat) (hj : j < N) {v : Value} (hv : fs[j]? = some v) (hw : Cond.fieldLink own idx (T j).1 (T j).2.1 (T j).2.2.1 ∈ lw_tbl) (d : decode cc pc = .ok (.getfield idx, 3)) (k : zZ p l e R s m args below meth c G nL Q M cells slots (pc + 3) lv (v :: st)) : zZ p l e R s m args below meth c G nL Q M cells slots pc lv (.ref (zad G κ i) :: st) := by
  intro H locs ls hM hS hl
  have h1 := hM κ i hi
  rw [hc] at h1
  exact va_get (D := G.1) (ws := [(zad G κ i, .inr (ci, fs))]) (ci := ci) (v := v) (C := C0) (T := T) (N := N) (Ts := u_ws C0 T N) C.1 C.2.1 (fun w hw => C.w (cl.2.1 w hw).1 (cl.2.1 w hw).2) (fun _ h => h) C.o C.k.1 (zP_one h1) 0 rfl cl.1 j hj (C.w hw rfl) (fun _ h => h) hv d (k H locs ls hM hS hl)
theorem z_getI (C : zC p s m args meth c G own cc nL rt) (pc : Nat) {κ i ci N idx : Nat} {C0 : String} {T : u_T} {ty : Nat → FieldType} {fs : List Value} (cl : zCl ci C0 T N ty) (hi : i < znum κ) (hc : zcel G κ i (M κ i) = .inr (ci, fs)) (j : Nat) (hj : j < N) (hv : fs[j]? = some (.int (M κ i j))) (hw : Cond.fieldLink own idx (T j).1 (T j).2.1 (T j).2.2.1 ∈ lw_tbl) (d : decode cc pc = .ok (.getfield idx, 3)) (k : ∀ x : Int, x = zV M κ i j → zrg x → zZ p l e R s m args below meth c G nL Q M cells slots (pc + 3) lv (.int (zI x) :: st)) : zZ p l e R s m args below meth c G nL Q M cells slots pc lv (.ref (zad G κ i) :: st) :=
  z_get C pc cl hi hc j hj (v := .int (zI (zV M κ i j))) (by rw [zI_V]; exact hv) hw d (k _ rfl (zV_rg M κ i j))
set_option maxHeartbeats 1000000 in
theorem z_putI (C : zC p s m args meth c G own cc nL rt) (pc : Nat) {κ i ci N idx : Nat} {C0 : String} {T : u_T} {ty : Nat → FieldType} {fs : List Value} (cl : zCl ci C0 T N ty) (hi : i < znum κ) (hc : zcel G κ i (M κ i) = .inr (ci, fs)) (j : Nat) (hj : j < N) (hw : Cond.fieldLink own idx (T j).1 (T j).2.1 (T j).2.2.1 ∈ lw_tbl) (hfin : (T j).2.2.2 = false) {x : Int} (hn : narrow (ty j) (.int (zI x)) = .int (zI x)) (hfit : fits (ty j) (.int (zI x)) = true) (hlen : j < fs.length) (hc' : zcel G κ i (upd (M κ i) j (zI x)) = .inr (ci, fs.set j (.int (zI x)))) (d : decode cc pc = .ok (.putfield idx, 3)) (k : zZ p l e R s m args below meth c G nL Q (zup M κ i j (zI x)) cells slots (pc + 3) lv st) : zZ p l e R s m args below meth c G nL Q M cells slots pc lv (.int (zI x) :: .ref (zad G κ i) :: st) := by
  intro H locs ls hM hS hl
  have h0 := hM κ i hi
  rw [hc] at h0
  have hts : ∀ w ∈ u_ws C0 T N, w.before args s = true := fun w hw => C.w (cl.2.1 w hw).1 (cl.2.1 w hw).2
  have hap := va_apart (own := own) (D := G.1) (tys := zTy G.2.1) (cl := vwCl) (ci := ci) hts (fun _ h => h) ty cl.2.2.1 cl.2.2.2 C.k.1 cl.1
  obtain ⟨r, h1, cell, q1, q2, q3, q4⟩ := h0
  have hr : r = (C0, T, N) := Option.some.inj (h1.symm.trans cl.1)
  subst hr
  obtain ⟨hSl, hfc, kC, hkC, hkind⟩ := C.k.1.1 ci _ cl.1
  obtain ⟨cf, kf, fi, f, hi2, hsl⟩ := hSl j hj
  have hlay := hts _ (u_in_lay hj)
  unfold u_lay at hlay
  rw [if_neg (by rw [hfin]; decide)] at hlay
  have hst := (u_facts hfc hkC (u_lays hts (fun _ h => h) hj) hi2).1
  have h6 := u_store hfc hkC hkind hlay hi2 (cl.2.2.1 j hj) hn hfit
  refine W.putK C.1 C.2.1 (f := f) ⟨C.o, C.w hw rfl, ⟨_, _, _, hi2⟩, hst⟩ (by rw [q2]; exact h6) q1 q3 (by rw [hsl]; exact k2_hasslot (q4 j hj)) rfl rfl d fun H' e1 e2 e3 => ?_
  rw [hsl] at e1 ⊢
  refine k H' _ ls (zM_put hi hM ?_ e3 (fun κ' i' h => zup_ne h)) (hS.put e2 e3 zad_in) hl
  rw [zup_row, hc']
  exact ⟨_, cl.1, t_OB.to (V := updV (vp_V fs) j (.int (zI x))) ⟨_, e1, q2, q3, t_set q4 hap hj _⟩ (fun j' _ => vp_updV_set hlen _ j')⟩
theorem z_iald (C : zC p s m args meth c G own cc nL rt) (pc : Nat) {κ i n : Nat} (hi : i < znum κ) (hc : zcel G κ i (M κ i) = .inl (G.2.1 0, n, .inl (M κ i))) {x : Int} (hx : zrg x) (h0 : 0 ≤ x) (h1 : x < n) (d : decode cc pc = .ok (.iaload, 1)) (k : ∀ y : Int, y = zV M κ i x.toNat → zrg y → zZ p l e R s m args below meth c G nL Q M cells slots (pc + 1) lv (.int (zI y) :: st)) : zZ p l e R s m args below meth c G nL Q M cells slots pc lv (.int (zI x) :: .ref (zad G κ i) :: st) := by
  intro H locs ls hM hS hl
  have h2 := hM κ i hi
  rw [hc] at h2
  refine va_iald (D := G.1) (cl := vwCl) (tys := zTy G.2.1) (ws := [(zad G κ i, .inl (G.2.1 0, n, .inl (M κ i)))]) C.1 C.2.1 C.k.1 (zP_one h2) 0 0 rfl rfl (zI_in h0 h1 hx) d ?_
  rw [zI_nat hx, ← zI_V M κ i x.toNat]
  exact k _ rfl (zV_rg _ _ _ _) H locs ls hM hS hl
theorem z_zald (C : zC p s m args meth c G own cc nL rt) (pc : Nat) {κ i n : Nat} (hi : i < znum κ) (hc : zcel G κ i (M κ i) = .inl (G.2.1 1, n, .inl (M κ i))) {x : Int} (hx : zrg x) (h0 : 0 ≤ x) (h1 : x < n) (d : decode cc pc = .ok (.baload, 1)) (k : ∀ y : Int, y = zV M κ i x.toNat → zrg y → zZ p l e R s m args below meth c G nL Q M cells slots (pc + 1) lv (.int (zI y) :: st)) : zZ p l e R s m args below meth c G nL Q M cells slots pc lv (.int (zI x) :: .ref (zad G κ i) :: st) := by
  intro H locs ls hM hS hl
  have h2 := hM κ i hi
  rw [hc] at h2
  refine va_zald (D := G.1) (cl := vwCl) (tys := zTy G.2.1) (ws := [(zad G κ i, .inl (G.2.1 1, n, .inl (M κ i)))]) C.1 C.2.1 C.k.1 (zP_one h2) 0 1 rfl rfl (zI_in h0 h1 hx) d ?_
  rw [zI_nat hx, ← zI_V M κ i x.toNat]
  exact k _ rfl (zV_rg _ _ _ _) H locs ls hM hS hl
theorem z_iast (C : zC p s m args meth c G own cc nL rt) (pc : Nat) {κ i n : Nat} (hi : i < znum κ) (hc : zcel G κ i (M κ i) = .inl (G.2.1 0, n, .inl (M κ i))) {x : Int} (hx : zrg x) (h0 : 0 ≤ x) (h1 : x < n) {y : Int} (hc' : zcel G κ i (upd (M κ i) x.toNat (zI y)) = .inl (G.2.1 0, n, .inl (upd (M κ i) x.toNat (zI y)))) (d : decode cc pc = .ok (.iastore, 1)) (k : zZ p l e R s m args below meth c G nL Q (zup M κ i x.toNat (zI y)) cells slots (pc + 1) lv st) : zZ p l e R s m args below meth c G nL Q M cells slots pc lv (.int (zI y) :: .int (zI x) :: .ref (zad G κ i) :: st) := by
  intro H locs ls hM hS hl
  have h2 := hM κ i hi
  rw [hc] at h2
  have hin : vp_in (zI x) n := zI_in h0 h1 hx
  refine W.iast C.1 C.2.1 (show H[zad G κ i]? = some (vp_cell _ _) from h2) ((C.k.1.2 0 _ rfl).1 n (fun j => .int (M κ i j))) (fun q => by cases q) (by show ¬ (zI x < 0 ∨ (arrV _ _ _).slots.size ≤ _); rw [arrV_size]; exact hin) rfl rfl d fun H1 e z oq => ?_
  refine k H1 _ ls (zM_put hi hM ?_ oq (fun κ' i' h => zup_ne h)) (hS.put z oq zad_in) hl
  rw [zup_row, hc']
  show H1[zad G κ i]? = some (vp_cell _ _)
  rw [e]
  rw [vp_cell_i, vp_cell_i, arrV_store, zI_nat hx]
  congr 2
  funext q
  by_cases hq : q = x.toNat
  · subst hq
    simp [updV, upd]
  · simp [updV, upd, hq]
theorem z_zast (C : zC p s m args meth c G own cc nL rt) (pc : Nat) {κ i n : Nat} (hi : i < znum κ) (hc : zcel G κ i (M κ i) = .inl (G.2.1 1, n, .inl (M κ i))) {x : Int} (hx : zrg x) (h0 : 0 ≤ x) (h1 : x < n) {y : Int} (hz : y = 0 ∨ y = 1) (hc' : zcel G κ i (upd (M κ i) x.toNat (zI y)) = .inl (G.2.1 1, n, .inl (upd (M κ i) x.toNat (zI y)))) (d : decode cc pc = .ok (.bastore, 1)) (k : zZ p l e R s m args below meth c G nL Q (zup M κ i x.toNat (zI y)) cells slots (pc + 1) lv st) : zZ p l e R s m args below meth c G nL Q M cells slots pc lv (.int (zI y) :: .int (zI x) :: .ref (zad G κ i) :: st) := by
  intro H locs ls hM hS hl
  have h2 := hM κ i hi
  rw [hc] at h2
  have hin : vp_in (zI x) n := zI_in h0 h1 hx
  have hnar : narrow FieldType.boolean (.int (zI y)) = .int (zI y) := by rcases hz with rfl | rfl <;> rfl
  refine W.zast C.1 C.2.1 (show H[zad G κ i]? = some (vp_cell _ _) from h2) ((C.k.1.2 1 _ rfl).1 n (fun j => .int (M κ i j))) (fun q => by cases q) (by show ¬ (zI x < 0 ∨ (arrV _ _ _).slots.size ≤ _); rw [arrV_size]; exact hin) rfl rfl d fun H1 e z oq => ?_
  refine k H1 _ ls (zM_put hi hM ?_ oq (fun κ' i' h => zup_ne h)) (hS.put z oq zad_in) hl
  rw [zup_row, hc']
  show H1[zad G κ i]? = some (vp_cell _ _)
  rw [e]
  rw [hnar, vp_cell_i, vp_cell_i, arrV_store, zI_nat hx]
  congr 2
  funext q
  by_cases hq : q = x.toNat
  · subst hq
    simp [updV, upd]
  · simp [updV, upd, hq]
theorem z_aald (C : zC p s m args meth c G own cc nL rt) (pc : Nat) {κ i n t : Nat} {C0 : String} {w : Nat → Nat} (hi : i < znum κ) (hc : zcel G κ i (M κ i) = .inl (G.2.1 t, n, .inr (.inr (.inr (.inr (fun j => some (w j))))))) (ht : (zTy G.2.1)[t]? = some (G.2.1 t, .object C0)) {x : Int} (hx : zrg x) (h0 : 0 ≤ x) (h1 : x < n) (d : decode cc pc = .ok (.aaload, 1)) (k : zZ p l e R s m args below meth c G nL Q M cells slots (pc + 1) lv (.ref (w x.toNat) :: st)) : zZ p l e R s m args below meth c G nL Q M cells slots pc lv (.int (zI x) :: .ref (zad G κ i) :: st) := by
  intro H locs ls hM hS hl
  have h2 := hM κ i hi
  rw [hc] at h2
  refine va_aldq (D := G.1) (cl := vwCl) (tys := zTy G.2.1) (ws := [(zad G κ i, .inl (G.2.1 t, n, .inr (.inr (.inr (.inr (fun j => some (w j)))))))]) C.1 C.2.1 C.k.1 (zP_one h2) 0 t rfl ht (zI_in h0 h1 hx) d ?_
  rw [zI_nat hx]
  exact k H locs ls hM hS hl
theorem z_aast (C : zC p s m args meth c G own cc nL rt) (pc : Nat) {i : Nat} (hi : i < 3) {x y : Int} (hx : zrg x) (h0 : 0 ≤ x) (h1 : x < (8 : Nat)) (hy0 : 0 ≤ y) (hy1 : y < 24) (d : decode cc pc = .ok (.aastore, 1)) (k : zZ p l e R s m args below meth c G nL Q (zup M 17 i x.toNat (zI y)) cells slots (pc + 1) lv st) : zZ p l e R s m args below meth c G nL Q M cells slots pc lv (.ref (zad G 19 y.toNat) :: .int (zI x) :: .ref (zad G 17 i) :: st) := by
  intro H locs ls hM hS hl
  have h2 := hM 17 i hi
  have h3 := hM 19 y.toNat (show y.toNat < 24 by omega)
  have hin : vp_in (zI x) 8 := zI_in h0 h1 hx
  have hlt : (zI x).toNatClampNeg < 8 := Nat.not_le.mp fun q => hin (Or.inr q)
  have hn0 : ¬ zI x < 0 := fun q => hin (Or.inl q)
  obtain ⟨r', hr', cellV, g1, g2, g3, -⟩ := h3
  have hcls := (C.k.1.1 0 (RX0, TX0, 7) rfl).2
  obtain ⟨kA, comp, k1, k2, k3, -⟩ := (C.k.1.2 3 (G.2.1 3, .object "LocatorMapper$Entry") rfl).2
  have hcomp : comp = G.1.1 0 := Option.some.inj (k3.symm.trans hcls.1)
  subst hcomp
  obtain ⟨kC, hkC, -⟩ := hcls.2
  have hcl19 := (show H[zad G 17 i]? = some (vp_cell _ _) from h2)
  refine W.aast C.1 C.2.1 hcl19 (fun q h => by cases h) (fun h => by cases h) k1 k2 rfl hkC ⟨hn0, by show _ < (arrV _ _ _).slots.size; rw [arrV_size]; exact hlt⟩ g1 (fun q h => by rw [g3] at h; cases h) (by rw [g2]; exact hkC) (by rw [g2]; exact va_assign hcls) rfl rfl d fun H1 e z oq => ?_
  refine k H1 _ ls (zM_put (κ := 17) hi hM ?_ oq (fun κ' i' h => zup_ne h)) (hS.put z oq zad_in) hl
  rw [zup_row]
  show H1[zad G 17 i]? = some (vp_cell _ _)
  rw [e]
  show some ((vp_cell (G.2.1 3) (8, _)).setSlot _ _) = _
  rw [vp_cell_q, vp_cell_q, arrV_store, zI_nat hx]
  congr 2
  funext q
  by_cases hq : q = x.toNat
  · subst hq
    have e9 : (zI y).toNatClampNeg = y.toNat := zI_nat (by omega)
    simp [updV, upd, va_rf, e9]
  · simp [updV, upd, hq]
end ZROWS
