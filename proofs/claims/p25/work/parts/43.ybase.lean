theorem wao_X2 : (Cond.arrayOver (.object "LocatorMapper$Mapping")) ∈ lw_tbl := List.mem_of_getElem? (i := 43) (by decide +kernel)
theorem wn_4_21 : (Cond.methodLinkNest RX4 21 yX2_init RX7) ∈ lw_tbl := List.mem_of_getElem? (i := 45) (by decide +kernel)
theorem wn_2_9 : (Cond.methodLinkNest RX2 9 yX3_init RX7) ∈ lw_tbl := List.mem_of_getElem? (i := 51) (by decide +kernel)
theorem wn_2_18 : (Cond.methodLinkNest RX2 18 yX1_init RX7) ∈ lw_tbl := List.mem_of_getElem? (i := 70) (by decide +kernel)
theorem war_int : (Cond.arrayClass .int) ∈ lw_tbl := List.mem_of_getElem? (i := 93) (by decide +kernel)
theorem wao_X3 : (Cond.arrayOver (.object "LocatorMapper$Prefix")) ∈ lw_tbl := List.mem_of_getElem? (i := 131) (by decide +kernel)
theorem wn_6_32 : (Cond.methodLinkNest RX6 32 yX3_init RX7) ∈ lw_tbl := List.mem_of_getElem? (i := 132) (by decide +kernel)
theorem war_boolean : (Cond.arrayClass .boolean) ∈ lw_tbl := List.mem_of_getElem? (i := 153) (by decide +kernel)
theorem wao_X5 : (Cond.arrayOver (.object "LocatorMapper$Router")) ∈ lw_tbl := List.mem_of_getElem? (i := 155) (by decide +kernel)
theorem wao_X0 : (Cond.arrayOver (.object "LocatorMapper$Entry")) ∈ lw_tbl := List.mem_of_getElem? (i := 162) (by decide +kernel)
theorem wn_5_25 : (Cond.methodLinkNest RX5 25 yX0_init RX7) ∈ lw_tbl := List.mem_of_getElem? (i := 164) (by decide +kernel)
theorem wn_0_11 : (Cond.methodLinkNest RX0 11 yX3_init RX7) ∈ lw_tbl := List.mem_of_getElem? (i := 169) (by decide +kernel)
theorem wn_0_20 : (Cond.methodLinkNest RX0 20 yX1_init RX7) ∈ lw_tbl := List.mem_of_getElem? (i := 171) (by decide +kernel)
/-- the world while it is made: the cells from the base on -/
def zN (G : zG) (Ws : List va_E) (H : Heap) : Prop := H.size = (zB G).size + Ws.length ∧ ∀ (i : Nat) (e : va_E), Ws[i]? = some e → va_at G.1 vwCl ((zB G).size + i, e) H
def zY (p : Program) (l : Launch) (e : Env) (R : Room) (s : State) (m : MethodId) (args : Array Value) (below : List Frame) (meth : Method) (c : Code) (G : zG) (nL : Nat) (Q : State → Prop) (P L : List va_E) (cells slots : Nat) (pc : Nat) (lv : List (Nat × Value)) (st : List Value) : Prop :=
  ∀ (H : Heap) (locs : List Loc) (ls : Array Slot), zN G (P ++ L) H → va_S (zA G) s.heap H locs → lv_has ls nL lv → W p l e R s m args below meth c H locs cells slots Q (F0 m pc ls st)
def zAO (U : State) : Prop := ∀ C0 : String, Cond.arrayOver (.object C0) ∈ lw_tbl → va_AO C0 U
theorem zAO_warm {s U : State} (hW : s.WarmedH U.vm) (h : zAO s) : zAO U := fun C0 h9 => (h C0 h9).moved hW.alike
def zyPc (G : zG) (Ws : List va_E) (av : List Value) : Array Value → State → Prop := va_Pc av (fun U => zN G Ws U.heap ∧ va_S (zA G) (zB G) U.heap [] ∧ zK G U ∧ zAO U)
theorem zyPc_blind {G : zG} {M : List va_E} {av : List Value} : FrameBlind (zyPc G M av) := fun a U g mk h => ⟨h.1, h.2.1, h.2.2.1, zK_warm (s := U) (U := U.calling g mk a) (State.WarmedH.refl U) h.2.2.2.1, zAO_warm (s := U) (U := U.calling g mk a) (State.WarmedH.refl U) h.2.2.2.2⟩
def zyQ (G : zG) (Ws : List va_E) : Array Value → State → Outcome → State → Prop := va_Qv (S := Unit) (fun _ => True) (fun _ t => zN G Ws t.heap) (zA G)
theorem zN_new {G : zG} {Ws : List va_E} {H H1 : Heap} {x : va_E} (h : zN G Ws H) (hz : H1.size = H.size + 1) (ho : ∀ q : Nat, q < H.size → H1[q]? = H[q]?) (hx : va_at G.1 vwCl (H.size, x) H1) : zN G (Ws ++ [x]) H1 := by
  refine ⟨by rw [hz, h.1, List.length_append]; simp only [List.length_cons, List.length_nil]; omega, fun i y hy => ?_⟩
  by_cases hi : i < Ws.length
  · rw [List.getElem?_append_left hi] at hy
    exact va_at.kept (h.2 i y hy) (ho _ (by have := h.1; show (zB G).size + i < H.size; omega))
  · rw [List.getElem?_append_right (by omega)] at hy
    have hz2 : i - Ws.length < 1 := (List.getElem?_eq_some_iff.mp hy).1
    rw [show i - Ws.length = 0 by omega] at hy
    cases hy
    rw [show (zB G).size + i = H.size by have := h.1; omega]
    exact hx
theorem zN_set {G : zG} {Ws : List va_E} {H H1 : Heap} {x : va_E} {i : Nat} (h : zN G Ws H) (hi : i < Ws.length) (hz : H1.size = H.size) (ho : ∀ q : Nat, q ≠ (zB G).size + i → H1[q]? = H[q]?) (hx : va_at G.1 vwCl ((zB G).size + i, x) H1) : zN G (Ws.set i x) H1 := by
  refine ⟨by rw [hz, h.1, List.length_set], fun j y hy => ?_⟩
  by_cases e : i = j
  · subst e
    rw [List.getElem?_set_self hi] at hy
    cases hy
    exact hx
  · rw [List.getElem?_set_ne e] at hy
    exact va_at.kept (h.2 j y hy) (ho _ (by show (zB G).size + j ≠ _; omega))
theorem zN_get {G : zG} {P L : List va_E} {H : Heap} {j : Nat} {x : va_E} (h : zN G (P ++ L) H) (hx : L[j]? = some x) : va_at G.1 vwCl ((zB G).size + (P.length + j), x) H := by
  refine h.2 _ _ ?_
  rw [List.getElem?_append_right (by omega), show P.length + j - P.length = j by omega]
  exact hx
theorem zN_put {G : zG} {P L L' : List va_E} {H H1 : Heap} {x y : va_E} {j : Nat} (h : zN G (P ++ L) H) (hj : L[j]? = some x) (hL : L.set j y = L') (hz : H1.size = H.size) (ho : ∀ q : Nat, q ≠ (zB G).size + (P.length + j) → H1[q]? = H[q]?) (hy : va_at G.1 vwCl ((zB G).size + (P.length + j), y) H1) : zN G (P ++ L') H1 := by
  subst hL
  have hl : j < L.length := (List.getElem?_eq_some_iff.mp hj).1
  have h9 := zN_set (i := P.length + j) h (by rw [List.length_append]; omega) hz ho hy
  rw [List.set_append_right _ _ (by omega), show P.length + j - P.length = j by omega] at h9
  exact h9
theorem zN_add {G : zG} {P L L' : List va_E} {H H1 : Heap} {x : va_E} (h : zN G (P ++ L) H) (hL : L ++ [x] = L') (hz : H1.size = H.size + 1) (ho : ∀ q : Nat, q < H.size → H1[q]? = H[q]?) (hx : va_at G.1 vwCl (H.size, x) H1) : zN G (P ++ L') H1 := by
  subst hL
  rw [← List.append_assoc]
  exact zN_new h hz ho hx
theorem zN_sz {G : zG} {P L : List va_E} {H : Heap} {n : Nat} (h : zN G (P ++ L) H) (hn : L.length = n) : H.size = (zB G).size + (P.length + n) := by
  rw [h.1, List.length_append, hn]
section YROWS
variable {p : Program} {l : Launch} {e : Env} {R : Room} {s : State} {m : MethodId} {args : Array Value} {below : List Frame} {meth : Method} {c : Code} {G : zG} {own : String} {cc : ByteArray} {nL : Nat} {rt : Option FieldType} {Q : State → Prop} {P L L' : List va_E} {cells slots : Nat} {lv : List (Nat × Value)} {st : List Value}
theorem zy_iconst (C : zC p s m args meth c G own cc nL rt) (pc : Nat) {n : Int} (d : decode cc pc = .ok (.iconst n, 1)) (k : zY p l e R s m args below meth c G nL Q P L cells slots (pc + 1) lv (.int (zI n) :: st)) : zY p l e R s m args below meth c G nL Q P L cells slots pc lv st := fun H locs ls hM hS hl => lv_iconst C.1 C.2.1 d rfl (k H locs ls hM hS hl)
theorem zy_bipush (C : zC p s m args meth c G own cc nL rt) (pc : Nat) {n : Int} (d : decode cc pc = .ok (.bipush n, 2)) (hv : (Int8.ofInt n).toInt32 = zI n) (k : zY p l e R s m args below meth c G nL Q P L cells slots (pc + 2) lv (.int (zI n) :: st)) : zY p l e R s m args below meth c G nL Q P L cells slots pc lv st := fun H locs ls hM hS hl => lv_bipush C.1 C.2.1 d hv (k H locs ls hM hS hl)
theorem zy_iload_n (C : zC p s m args meth c G own cc nL rt) (pc : Nat) {j : Fin 4} {i : Nat} {x : Int} (d : decode cc pc = .ok (.iload_n j, 1)) (hi : (j : Nat) = i) (q : Nat) (hq : lv[q]? = some (i, .int (zI x))) (k : zY p l e R s m args below meth c G nL Q P L cells slots (pc + 1) lv (.int (zI x) :: st)) : zY p l e R s m args below meth c G nL Q P L cells slots pc lv st := fun H locs ls hM hS hl => lv_iload_n C.1 C.2.1 d hi (lv_at hl q hq) (k H locs ls hM hS hl)
theorem zy_istore_n (C : zC p s m args meth c G own cc nL rt) (pc : Nat) {j : Fin 4} {i : Nat} {x : Int} {lv' : List (Nat × Value)} (d : decode cc pc = .ok (.istore_n j, 1)) (hi : (j : Nat) = i) (hn : i < nL) (hl' : (i, Value.int (zI x)) :: lv.filter (fun q => !(q.1 == i) && !(q.1 + 1 == i && q.2.category == 2)) = lv') (k : zY p l e R s m args below meth c G nL Q P L cells slots (pc + 1) lv' st) : zY p l e R s m args below meth c G nL Q P L cells slots pc lv (.int (zI x) :: st) := fun H locs ls hM hS hl => lv_istore_n C.1 C.2.1 d hi hl hn hl' (fun ls' h' => k H locs ls' hM hS h')
theorem zy_istore (C : zC p s m args meth c G own cc nL rt) (pc : Nat) {i : Nat} {x : Int} {lv' : List (Nat × Value)} (d : decode cc pc = .ok (.istore i, 2)) (hn : i < nL) (hl' : (i, Value.int (zI x)) :: lv.filter (fun q => !(q.1 == i) && !(q.1 + 1 == i && q.2.category == 2)) = lv') (k : zY p l e R s m args below meth c G nL Q P L cells slots (pc + 2) lv' st) : zY p l e R s m args below meth c G nL Q P L cells slots pc lv (.int (zI x) :: st) := fun H locs ls hM hS hl => lv_istore C.1 C.2.1 d hl hn hl' (fun ls' h' => k H locs ls' hM hS h')
theorem zy_aload_n (C : zC p s m args meth c G own cc nL rt) (pc : Nat) {j : Fin 4} {i : Nat} {x : Nat} (d : decode cc pc = .ok (.aload_n j, 1)) (hi : (j : Nat) = i) (q : Nat) (hq : lv[q]? = some (i, .ref x)) (k : zY p l e R s m args below meth c G nL Q P L cells slots (pc + 1) lv (.ref x :: st)) : zY p l e R s m args below meth c G nL Q P L cells slots pc lv st := fun H locs ls hM hS hl => lv_aload_n C.1 C.2.1 d hi (lv_at hl q hq) (k H locs ls hM hS hl)
theorem zy_aload (C : zC p s m args meth c G own cc nL rt) (pc : Nat) {i : Nat} {x : Nat} (d : decode cc pc = .ok (.aload i, 2)) (q : Nat) (hq : lv[q]? = some (i, .ref x)) (k : zY p l e R s m args below meth c G nL Q P L cells slots (pc + 2) lv (.ref x :: st)) : zY p l e R s m args below meth c G nL Q P L cells slots pc lv st := fun H locs ls hM hS hl => lv_aload C.1 C.2.1 d (lv_at hl q hq) (k H locs ls hM hS hl)
theorem zy_astore_n (C : zC p s m args meth c G own cc nL rt) (pc : Nat) {j : Fin 4} {i : Nat} {x : Nat} {lv' : List (Nat × Value)} (d : decode cc pc = .ok (.astore_n j, 1)) (hi : (j : Nat) = i) (hn : i < nL) (hl' : (i, Value.ref x) :: lv.filter (fun q => !(q.1 == i) && !(q.1 + 1 == i && q.2.category == 2)) = lv') (k : zY p l e R s m args below meth c G nL Q P L cells slots (pc + 1) lv' st) : zY p l e R s m args below meth c G nL Q P L cells slots pc lv (.ref x :: st) := fun H locs ls hM hS hl => lv_astore_n C.1 C.2.1 d hi hl hn hl' (fun ls' h' => k H locs ls' hM hS h')
theorem zy_astore (C : zC p s m args meth c G own cc nL rt) (pc : Nat) {i : Nat} {x : Nat} {lv' : List (Nat × Value)} (d : decode cc pc = .ok (.astore i, 2)) (hn : i < nL) (hl' : (i, Value.ref x) :: lv.filter (fun q => !(q.1 == i) && !(q.1 + 1 == i && q.2.category == 2)) = lv') (k : zY p l e R s m args below meth c G nL Q P L cells slots (pc + 2) lv' st) : zY p l e R s m args below meth c G nL Q P L cells slots pc lv (.ref x :: st) := fun H locs ls hM hS hl => lv_astore C.1 C.2.1 d hl hn hl' (fun ls' h' => k H locs ls' hM hS h')
theorem zy_iload (C : zC p s m args meth c G own cc nL rt) (pc : Nat) {i : Nat} {x : Int} (d : decode cc pc = .ok (.iload i, 2)) (q : Nat) (hq : lv[q]? = some (i, .int (zI x))) (k : zY p l e R s m args below meth c G nL Q P L cells slots (pc + 2) lv (.int (zI x) :: st)) : zY p l e R s m args below meth c G nL Q P L cells slots pc lv st := fun H locs ls hM hS hl => lv_iload C.1 C.2.1 d (lv_at hl q hq) (k H locs ls hM hS hl)
theorem zy_iinc (C : zC p s m args meth c G own cc nL rt) (pc : Nat) {i : Nat} {n x : Int} {lv' : List (Nat × Value)} (d : decode cc pc = .ok (.iinc i n, 3)) (q : Nat) (hq : lv[q]? = some (i, .int (zI x))) (hn : i < nL) (hl' : (i, Value.int (zI (x + n))) :: lv.filter (fun q => !(q.1 == i) && !(q.1 + 1 == i && q.2.category == 2)) = lv') (k : zY p l e R s m args below meth c G nL Q P L cells slots (pc + 3) lv' st) : zY p l e R s m args below meth c G nL Q P L cells slots pc lv st := fun H locs ls hM hS hl => lv_iinc C.1 C.2.1 d hl hq (zI_add x n) hn hl' (fun ls' h' => k H locs ls' hM hS h')
theorem zy_goto (C : zC p s m args meth c G own cc nL rt) (pc : Nat) {off : Int} (tgt : Nat) (d : decode cc pc = .ok (.goto off, 3)) (ht : (pc : Int) + off = (tgt : Int)) (k : zY p l e R s m args below meth c G nL Q P L cells slots tgt lv st) : zY p l e R s m args below meth c G nL Q P L cells slots pc lv st := fun H locs ls hM hS hl => lv_goto C.1 C.2.1 d ht (k H locs ls hM hS hl)
theorem zy_icmp_ge (C : zC p s m args meth c G own cc nL rt) (pc tgt : Nat) {off x y : Int} (d : decode cc pc = .ok (.if_icmp .ge off, 3)) (ht : (pc : Int) + off = (tgt : Int)) (hx : zrg x) (hy : zrg y) (kt : y ≤ x → zY p l e R s m args below meth c G nL Q P L cells slots tgt lv st) (kf : x < y → zY p l e R s m args below meth c G nL Q P L cells slots (pc + 3) lv st) : zY p l e R s m args below meth c G nL Q P L cells slots pc lv (.int (zI y) :: .int (zI x) :: st) := fun H locs ls hM hS hl => lv_icmp_ge C.1 C.2.1 d ht (fun q => kt ((zI_le hy hx).mp q) H locs ls hM hS hl) (fun q => kf (Int.not_le.mp fun z => q ((zI_le hy hx).mpr z)) H locs ls hM hS hl)
theorem zy_dup (C : zC p s m args meth c G own cc nL rt) (pc : Nat) {v : Value} (d : decode cc pc = .ok (.dup, 1)) (hv : v.category = 1) (k : zY p l e R s m args below meth c G nL Q P L cells slots (pc + 1) lv (v :: v :: st)) : zY p l e R s m args below meth c G nL Q P L cells slots pc lv (v :: st) := fun H locs ls hM hS hl => lv_dup C.1 C.2.1 d hv (k H locs ls hM hS hl)
theorem zy_pop (C : zC p s m args meth c G own cc nL rt) (pc : Nat) {v : Value} (d : decode cc pc = .ok (.pop, 1)) (hv : v.category = 1) (k : zY p l e R s m args below meth c G nL Q P L cells slots (pc + 1) lv st) : zY p l e R s m args below meth c G nL Q P L cells slots pc lv (v :: st) := fun H locs ls hM hS hl => lv_pop C.1 C.2.1 d hv (k H locs ls hM hS hl)
abbrev zra (G : zG) (n : Nat) : Nat := (zB G).size + n
theorem zy_obj (C : zC p s m args meth c G own cc nL rt) (pc : Nat) {idx a : Nat} (hw : Cond.methodLink own idx ⟨"java/lang/Object", "<init>", "()V"⟩ ∈ lw_tbl) (d : decode cc pc = .ok (.invokespecial idx, 3)) (hf : 1 ≤ R.frames) (hlo : (st.map fun v => v.category).sum + 12 ≤ R.locals) (k : zY p l e R s m args below meth c G nL Q P L cells slots (pc + 3) lv st) : zY p l e R s m args below meth c G nL Q P L cells slots pc lv (.ref a :: st) :=
  fun H locs ls hM hS hl => W.objInit C.1 C.2.1 C.o (C.w hw rfl) (C.w wi__Object_init rfl) (C.w wc__Object_init rfl) rfl (hl.1.trans C.2.2.1.symm) rfl d hf (by simpa using hlo) (k H locs ls hM hS hl)
theorem zy_new (C : zC p s m args meth c G own cc nL rt) (pc : Nat) {ci N idx j : Nat} {C0 : String} {T : u_T} {ty : Nat → FieldType} {fs : List Value} (cl : zCl ci C0 T N ty) (hfs : ∀ j, j < N → defaultValue (ty j) = vp_V fs j) (h1 : Cond.classLink own idx C0 ∈ lw_tbl) (h2 : Cond.instantiable C0 N ∈ lw_tbl) (h3 : Cond.initialized C0 ∈ lw_tbl) (hc : cells + 1 ≤ R.cells) (hs : slots + N ≤ R.slots) (hj : L.length = j) (hL : L ++ [.inr (ci, fs)] = L') (d : decode cc pc = .ok (.new idx, 3)) (k : zY p l e R s m args below meth c G nL Q P L' (cells + 1) (slots + N) (pc + 3) lv (.ref (zra G (P.length + j)) :: st)) : zY p l e R s m args below meth c G nL Q P L cells slots pc lv st := by
  intro H locs ls hM hS hl
  have hKn := C.k.1.1 ci _ cl.1
  have hts : ∀ w ∈ u_ws C0 T N, w.before args s = true := fun w hw => C.w (cl.2.1 w hw).1 (cl.2.1 w hw).2
  refine W.newcK C.1 C.2.1 C.o (C.w h1 rfl) (C.w h2 rfl) (C.w h3 rfl) rfl d hc hs hKn.2.1 rfl fun H1 kC hkC e1 z1 o1 => ?_
  have hz : H.size = zra G (P.length + j) := zN_sz hM hj
  rw [show Value.ref H.size = .ref (zra G (P.length + j)) by rw [hz]]
  exact k H1 locs ls (zN_add hM hL z1 o1 ⟨_, cl.1, (u_born ty hts (fun _ h => h) hKn hkC e1 cl.2.2.1).to hfs⟩) ⟨Nat.le_trans hS.1 (by omega), fun x h1 h2 => (o1 x (Nat.lt_of_lt_of_le h1 hS.1)).trans (hS.2.1 x h1 h2), hS.2.2⟩ hl
theorem zy_newa (C : zC p s m args meth c G own cc nL rt) (pc : Nat) {at0 : ArrayType} {ty : FieldType} {t j n : Nat} {x : Int} {a0 : vp_A} (hty : newarray.typeOf at0 = ty) (ht : (zTy G.2.1)[t]? = some (G.2.1 t, ty)) (hR : ∀ (U : State) (cA : ClassId), va_RA U cA ty → U.vm.findClass ("[" ++ ty.toString) = some cA) (hw : Cond.arrayClass ty ∈ lw_tbl) (ha : ∀ cA : ClassId, vp_cell cA a0 = arrV cA n (fun _ => defaultValue ty)) (hx : zrg x) (h0 : 0 ≤ x) (hn : x.toNat = n) (hb : n * componentBytes ty ≤ 536870912) (hc : cells + 1 ≤ R.cells) (hs : slots + n ≤ R.slots) (hj : L.length = j) (hL : L ++ [.inl (G.2.1 t, a0)] = L') (d : decode cc pc = .ok (.newarray at0, 2)) (k : zY p l e R s m args below meth c G nL Q P L' (cells + 1) (slots + n) (pc + 2) lv (.ref (zra G (P.length + j)) :: st)) : zY p l e R s m args below meth c G nL Q P L cells slots pc lv (.int (zI x) :: st) := by
  subst hty
  intro H locs ls hM hS hl
  have hz : H.size = zra G (P.length + j) := zN_sz hM hj
  refine va_newaK C.1 C.2.1 (C.w hw rfl) rfl d rfl (fun q => by rw [← zI_0, zI_lt hx (by decide)] at q; omega) ((zI_nat hx).trans hn) hb hc hs rfl fun H1 cA e1 z1 o1 hAr hNm => ?_
  have hcA : G.2.1 t = cA := Option.some.inj ((hR _ _ (C.k.1.2 t _ ht).2).symm.trans hNm)
  rw [show Value.ref H.size = .ref (zra G (P.length + j)) by rw [hz]]
  refine k H1 locs ls (zN_add hM hL z1 o1 ?_) ⟨Nat.le_trans hS.1 (by omega), fun x h1 h2 => (o1 x (Nat.lt_of_lt_of_le h1 hS.1)).trans (hS.2.1 x h1 h2), hS.2.2⟩ hl
  show H1[H.size]? = some (vp_cell _ _)
  rw [ha, hcA]
  exact e1
theorem zy_anew (C : zC p s m args meth c G own cc nL rt) (hAO : zAO s) (pc : Nat) {C0 : String} {t j n idx : Nat} {x : Int} (ht : (zTy G.2.1)[t]? = some (G.2.1 t, .object C0)) (h1 : Cond.classLink own idx C0 ∈ lw_tbl) (hw : Cond.arrayOver (.object C0) ∈ lw_tbl) (hx : zrg x) (h0 : 0 ≤ x) (hn : x.toNat = n) (hb : n * 4 ≤ 536870912) (hc : cells + 1 ≤ R.cells) (hs : slots + n ≤ R.slots) (hj : L.length = j) (hL : L ++ [.inl (G.2.1 t, n, .inr (.inr (.inr (.inr (fun _ => none)))))] = L') (d : decode cc pc = .ok (.anewarray idx, 3)) (k : zY p l e R s m args below meth c G nL Q P L' (cells + 1) (slots + n) (pc + 3) lv (.ref (zra G (P.length + j)) :: st)) : zY p l e R s m args below meth c G nL Q P L cells slots pc lv (.int (zI x) :: st) := by
  intro H locs ls hM hS hl
  have hz : H.size = zra G (P.length + j) := zN_sz hM hj
  have hn9 : (zI x).toNatClampNeg = n := (zI_nat hx).trans hn
  subst hn9
  refine W.anew C.1 C.2.1 C.o (C.w h1 rfl) (va_AO.use (hAO _ hw)) rfl d rfl (fun q => by rw [← zI_0, zI_lt hx (by decide)] at q; omega) hb hc hs fun cA kA comp f1 f2 f3 f4 => ?_
  obtain ⟨kB, cB, g1, g2, g3, g4⟩ := (C.k.1.2 t _ ht).2
  have hcA : G.2.1 t = cA := Option.some.inj (g4.symm.trans f1)
  generalize hH1 : H.push ({ cls := cA, slots := Array.replicate (zI x).toNatClampNeg .null, vm := .none } : Cell) = H1
  have z1 : H1.size = H.size + 1 := by rw [← hH1, Array.size_push]
  have e1 : H1[H.size]? = some (arrV cA (zI x).toNatClampNeg (fun _ => .null)) := by rw [← hH1, Array.getElem?_push_size, ← arrV_new]
  have o1 : ∀ q : Nat, q < H.size → H1[q]? = H[q]? := fun q hq => by rw [← hH1, Array.getElem?_push, if_neg (Nat.ne_of_lt hq)]
  rw [show Value.ref H.size = .ref (zra G (P.length + j)) by rw [hz]]
  refine k H1 locs ls (zN_add hM hL z1 o1 ?_) ⟨Nat.le_trans hS.1 (by omega), fun x h1 h2 => (o1 x (Nat.lt_of_lt_of_le h1 hS.1)).trans (hS.2.1 x h1 h2), hS.2.2⟩ hl
  show H1[H.size]? = some (vp_cell _ _)
  rw [vp_cell_q, hcA]
  exact e1
set_option maxHeartbeats 1000000 in
theorem zy_put (C : zC p s m args meth c G own cc nL rt) (pc : Nat) {ci N idx j : Nat} {C0 : String} {T : u_T} {ty : Nat → FieldType} {fs : List Value} (cl : zCl ci C0 T N ty) (hj : L[j]? = some (.inr (ci, fs))) (f : Nat) (hf : f < N) (hw : Cond.fieldLink own idx (T f).1 (T f).2.1 (T f).2.2.1 ∈ lw_tbl) (hfin : (T f).2.2.2 = false) {v : Value} (hn : narrow (ty f) v = v) (hfit : fits (ty f) v = true) (hlen : f < fs.length) (hL : L.set j (.inr (ci, fs.set f v)) = L') (d : decode cc pc = .ok (.putfield idx, 3)) (k : zY p l e R s m args below meth c G nL Q P L' cells slots (pc + 3) lv st) : zY p l e R s m args below meth c G nL Q P L cells slots pc lv (v :: .ref (zra G (P.length + j)) :: st) := by
  intro H locs ls hM hS hl
  have h0 := zN_get hM hj
  have hts : ∀ w ∈ u_ws C0 T N, w.before args s = true := fun w hw => C.w (cl.2.1 w hw).1 (cl.2.1 w hw).2
  have hap := va_apart (own := own) (D := G.1) (tys := zTy G.2.1) (cl := vwCl) (ci := ci) hts (fun _ h => h) ty cl.2.2.1 cl.2.2.2 C.k.1 cl.1
  obtain ⟨r, h1, cell, q1, q2, q3, q4⟩ := h0
  have hr : r = (C0, T, N) := Option.some.inj (h1.symm.trans cl.1)
  subst hr
  obtain ⟨hSl, hfc, kC, hkC, hkind⟩ := C.k.1.1 ci _ cl.1
  obtain ⟨cf, kf, fi, f9, hi2, hsl⟩ := hSl f hf
  have hlay := hts _ (u_in_lay hf)
  unfold u_lay at hlay
  rw [if_neg (by rw [hfin]; decide)] at hlay
  have hst := (u_facts hfc hkC (u_lays hts (fun _ h => h) hf) hi2).1
  have h6 := u_store hfc hkC hkind hlay hi2 (cl.2.2.1 f hf) hn hfit
  refine W.putK C.1 C.2.1 (f := f9) ⟨C.o, C.w hw rfl, ⟨_, _, _, hi2⟩, hst⟩ (by rw [q2]; exact h6) q1 q3 (by rw [hsl]; exact k2_hasslot (q4 f hf)) rfl rfl d fun H' e1 e2 e3 => ?_
  rw [hsl] at e1 ⊢
  exact k H' _ ls (zN_put hM hj hL e2 e3 ⟨_, cl.1, t_OB.to (V := updV (vp_V fs) f v) ⟨_, e1, q2, q3, t_set q4 hap hf _⟩ (fun j' _ => vp_updV_set hlen _ j')⟩) (hS.put e2 e3 (Nat.le_add_right _ _)) hl
set_option maxHeartbeats 1000000 in
theorem zy_putF (C : zC p s m args meth c G own cc nL rt) (hini : meth.name = "<init>") (pc : Nat) {ci N idx j : Nat} {C0 : String} {T : u_T} {ty : Nat → FieldType} {fs : List Value} (cl : zCl ci C0 T N ty) (hj : L[j]? = some (.inr (ci, fs))) (f : Nat) (hf : f < N) (hw : Cond.fieldLink own idx (T f).1 (T f).2.1 (T f).2.2.1 ∈ lw_tbl) (hfin : (T f).2.2.2 = true) (hdecl : (T f).1 = own) {v : Value} (hn : narrow (ty f) v = v) (hfit : fits (ty f) v = true) (hlen : f < fs.length) (hL : L.set j (.inr (ci, fs.set f v)) = L') (d : decode cc pc = .ok (.putfield idx, 3)) (k : zY p l e R s m args below meth c G nL Q P L' cells slots (pc + 3) lv st) : zY p l e R s m args below meth c G nL Q P L cells slots pc lv (v :: .ref (zra G (P.length + j)) :: st) := by
  intro H locs ls hM hS hl
  have h0 := zN_get hM hj
  have hts : ∀ w ∈ u_ws C0 T N, w.before args s = true := fun w hw => C.w (cl.2.1 w hw).1 (cl.2.1 w hw).2
  have hap := va_apart (own := own) (D := G.1) (tys := zTy G.2.1) (cl := vwCl) (ci := ci) hts (fun _ h => h) ty cl.2.2.1 cl.2.2.2 C.k.1 cl.1
  obtain ⟨r, h1, cell, q1, q2, q3, q4⟩ := h0
  have hr : r = (C0, T, N) := Option.some.inj (h1.symm.trans cl.1)
  subst hr
  obtain ⟨hSl, hfc, kC, hkC, hkind⟩ := C.k.1.1 ci _ cl.1
  obtain ⟨cf, kf, fi, f9, hi2, hsl⟩ := hSl f hf
  have hlay := hts _ (u_in_lay hf)
  unfold u_lay at hlay
  rw [if_pos hfin] at hlay
  have hst := (u_facts hfc hkC (u_lays hts (fun _ h => h) hf) hi2).1
  have hcf : m.cls = cf := by
    obtain ⟨_, _, c', _, _, _, -, -, hf', -, -, -, hown2, -⟩ := Cond.laysFinal_spec hlay
    have e1 : c' = cf := by have := hi2.symm.trans hf'; simp at this; exact this.1.symm
    rw [hdecl] at hown2
    rw [← e1]; exact Option.some.inj (C.o.symm.trans hown2)
  have h6 := u_fits hfc hkC hkind (Or.inr hlay) hi2 (cl.2.2.1 f hf) hn hfit
  refine W.putFinK C.1 C.2.1 C.o (C.w hw rfl) hi2 hst hcf hini (by rw [q2]; exact h6) q1 q3 (by rw [hsl]; exact k2_hasslot (q4 f hf)) rfl rfl d fun H' e1 e2 e3 => ?_
  rw [hsl] at e1 ⊢
  exact k H' _ ls (zN_put hM hj hL e2 e3 ⟨_, cl.1, t_OB.to (V := updV (vp_V fs) f v) ⟨_, e1, q2, q3, t_set q4 hap hf _⟩ (fun j' _ => vp_updV_set hlen _ j')⟩) (hS.put e2 e3 (Nat.le_add_right _ _)) hl
theorem zy_get (C : zC p s m args meth c G own cc nL rt) (pc : Nat) {ci N idx j : Nat} {C0 : String} {T : u_T} {ty : Nat → FieldType} {fs : List Value} (cl : zCl ci C0 T N ty) (hj : L[j]? = some (.inr (ci, fs))) (f : Nat) (hf : f < N) {v : Value} (hv : fs[f]? = some v) (hw : Cond.fieldLink own idx (T f).1 (T f).2.1 (T f).2.2.1 ∈ lw_tbl) (d : decode cc pc = .ok (.getfield idx, 3)) (k : zY p l e R s m args below meth c G nL Q P L cells slots (pc + 3) lv (v :: st)) : zY p l e R s m args below meth c G nL Q P L cells slots pc lv (.ref (zra G (P.length + j)) :: st) := by
  intro H locs ls hM hS hl
  exact va_get (D := G.1) (ws := [(zra G (P.length + j), .inr (ci, fs))]) (ci := ci) (v := v) (C := C0) (T := T) (N := N) (Ts := u_ws C0 T N) C.1 C.2.1 (fun w hw => C.w (cl.2.1 w hw).1 (cl.2.1 w hw).2) (fun _ h => h) C.o C.k.1 (zP_one (zN_get hM hj)) 0 rfl cl.1 f hf (C.w hw rfl) (fun _ h => h) hv d (k H locs ls hM hS hl)
theorem zy_aast (C : zC p s m args meth c G own cc nL rt) (pc : Nat) {ci t n j jv : Nat} {r : vw_C} {vs : List Value} {f : Nat → Option Nat} {x : Int} (ht : (zTy G.2.1)[t]? = some (G.2.1 t, .object r.1)) (hc : vwCl[ci]? = some r) (hj : L[j]? = some (.inl (G.2.1 t, n, .inr (.inr (.inr (.inr f)))))) (hv : L[jv]? = some (.inr (ci, vs))) (hx : zrg x) (h0 : 0 ≤ x) (h1 : x < n) (hL : L.set j (.inl (G.2.1 t, n, .inr (.inr (.inr (.inr (va_up f x.toNat (some (zra G (P.length + jv))))))))) = L') (d : decode cc pc = .ok (.aastore, 1)) (k : zY p l e R s m args below meth c G nL Q P L' cells slots (pc + 1) lv st) : zY p l e R s m args below meth c G nL Q P L cells slots pc lv (.ref (zra G (P.length + jv)) :: .int (zI x) :: .ref (zra G (P.length + j)) :: st) := by
  intro H locs ls hM hS hl
  have ha := zN_get hM hj
  obtain ⟨r', hr', cellV, g1, g2, g3, -⟩ := zN_get hM hv
  have hin : vp_in (zI x) n := zI_in h0 h1 hx
  have hlt : (zI x).toNatClampNeg < n := Nat.not_le.mp fun q => hin (Or.inr q)
  have hn0 : ¬ zI x < 0 := fun q => hin (Or.inl q)
  have hcls := (C.k.1.1 ci r hc).2
  obtain ⟨kA, comp, k1, k2, k3, -⟩ := (C.k.1.2 t _ ht).2
  have hcomp : comp = G.1.1 ci := Option.some.inj (k3.symm.trans hcls.1)
  subst hcomp
  obtain ⟨kC, hkC, -⟩ := hcls.2
  refine W.aast C.1 C.2.1 (show H[zra G (P.length + j)]? = some (vp_cell _ _) from ha) (fun q h => by cases h) (fun h => by cases h) k1 k2 rfl hkC ⟨hn0, by show _ < (arrV _ _ _).slots.size; rw [arrV_size]; exact hlt⟩ g1 (fun q h => by rw [g3] at h; cases h) (by rw [g2]; exact hkC) (by rw [g2]; exact va_assign hcls) rfl rfl d fun H1 e z oq => ?_
  refine k H1 _ ls (zN_put hM hj hL z oq ?_) (hS.put z oq (Nat.le_add_right _ _)) hl
  show H1[zra G (P.length + j)]? = some (vp_cell _ _)
  rw [e, vp_cell_q, vp_cell_q, arrV_store, zI_nat hx]
  congr 2
  funext q
  by_cases hq : q = x.toNat
  · subst hq
    simp [updV, va_up, va_rf]
  · simp [updV, va_up, hq]
/-- the world's cell told otherwise -/
theorem zy_to {pc : Nat} (L' : List va_E) (h : ∀ H : Heap, zN G (P ++ L) H → zN G (P ++ L') H) (k : zY p l e R s m args below meth c G nL Q P L' cells slots pc lv st) : zY p l e R s m args below meth c G nL Q P L cells slots pc lv st := fun H locs ls hM hS hl => k H locs ls (h H hM) hS hl
theorem zy_eq {pc : Nat} (L' : List va_E) (h : L = L') (k : zY p l e R s m args below meth c G nL Q P L' cells slots pc lv st) : zY p l e R s m args below meth c G nL Q P L cells slots pc lv st := h ▸ k
theorem zy_cs {k n pc : Nat} (h1 : cells = k) (h2 : slots = n) (kk : zY p l e R s m args below meth c G nL Q P L k n pc lv st) : zY p l e R s m args below meth c G nL Q P L cells slots pc lv st := h1 ▸ h2 ▸ kk
theorem zy_preS {H : Heap} {locs : List Loc} {Ws : List va_E} {As : List Value} (C : zC p s m args meth c G own cc nL rt) (hAO : zAO s) (hM : zN G Ws H) (hS : va_S (zA G) s.heap H locs) : PreS s H (zyPc G Ws As) As :=
  ⟨zyPc_blind, fun U hU hW => ⟨rfl, by rw [hU]; exact hM, by rw [hU]; exact C.S hS, zK_warm hW C.k, zAO_warm hW hAO⟩⟩
theorem zy_ret (C : zC p s m args meth c G own cc nL none) (pc : Nat) {mc ms : Nat} {Ws : List va_E} (d : decode cc pc = .ok (.return_, 1)) (h1 : cells ≤ mc) (h2 : slots ≤ ms) (hP : P ++ L = Ws) : zY p l e R s m args below meth c G nL (MQ below (zyQ G Ws) args s mc ms (zA G)) P L cells slots pc lv [] :=
  fun H locs ls hM hS hl => W.widen h1 h2 (W.vret C.1 C.2.1 C.2.2.2.2.2.2.2.1 (fun t ht hW => ⟨⟨(), rfl, trivial, by show zN G Ws t.heap; rw [ht, ← hP]; exact hM⟩, hS.F ht⟩) hS.2.2 d C.2.2.2.2.2.2.1)
variable {y : MethodName} {bytes : ByteArray} {maxL idx dd mc ms : Nat}
theorem zy_callI (C : zC p s m args meth c G own cc nL rt) (hAO : zAO s) (pc : Nat) {L0 Lc : List va_E} {x : va_E} {j : Nat} (hM0 : Met l y [.code y bytes maxL none] (zR dd mc ms) (zyPc G ((P ++ L0) ++ [x]) [.ref (zra G (P ++ L0).length)]) (zyQ G ((P ++ L0) ++ Lc)) mc ms (zA G)) (hwl : Cond.methodLink own idx y ∈ lw_tbl) (hwc : Cond.code y bytes maxL none ∈ lw_tbl) (hwi : Cond.initialized y.cls ∈ lw_tbl) (hin : Cond.instanceMethod y ∈ lw_tbl) (hy : y.name = "<init>")
    (hd : y.cls ≠ "java/lang/invoke/MethodHandle" ∧ y.cls ≠ "java/lang/invoke/VarHandle" ∧ (parseMethodDescriptor y.desc).map (fun d => d.parameters.length) = some 0) (hR : dd + 1 ≤ R.frames ∧ 8 + (maxL + 11) + 40 * dd ≤ R.locals) (hW : (st.map fun v => v.category).sum ≤ 8) (hf : cells + mc ≤ R.cells ∧ slots + ms ≤ R.slots) (hL : L0 ++ [x] = L) (hj : L0.length = j) (d : decode cc pc = .ok (.invokespecial idx, 3)) (k : zY p l e R s m args below meth c G nL Q P (L0 ++ Lc) (cells + mc) (slots + ms) (pc + 3) lv st) : zY p l e R s m args below meth c G nL Q P L cells slots pc lv (.ref (zra G (P.length + j)) :: st) := by
  subst hL; subst hj
  intro H locs ls hM hS hl
  rw [← List.append_assoc] at hM
  rw [show P.length + L0.length = (P ++ L0).length from (List.length_append ..).symm]
  exact va_callv (va_runI (As := []) (rest := st) (z_fix C) hM0 ⟨zB_of 0 C hwl hwc hwi hd hR, hy, C.w hin (by first | rfl | simp [zgood, goodWord, Cond.onTables, Cond.keeps])⟩ (zy_preS C hAO hM hS) rfl rfl hl.1 rfl (lv_room hW) d hf) hS (fun _ _ h => h) (fun _ h => h) (fun u t H1 locs1 ht hvm hw hB hz1 hk1 hS1 => k H1 locs1 ls (by rw [← List.append_assoc]; exact (show zN G ((P ++ L0) ++ Lc) H1 from ht ▸ hB)) hS1 hl)
theorem zy_callN (C : zC p s m args meth c G own cc nL rt) (hAO : zAO s) (pc : Nat) {L0 Lc : List va_E} {x : va_E} {j : Nat} {host : String} (hM0 : Met l y [.code y bytes maxL none] (zR dd mc ms) (zyPc G ((P ++ L0) ++ [x]) [.ref (zra G (P ++ L0).length)]) (zyQ G ((P ++ L0) ++ Lc)) mc ms (zA G)) (hwl : Cond.methodLinkNest own idx y host ∈ lw_tbl) (hwc : Cond.code y bytes maxL none ∈ lw_tbl) (hwi : Cond.initialized y.cls ∈ lw_tbl) (hin : Cond.instanceMethod y ∈ lw_tbl) (hy : y.name = "<init>")
    (hd : y.cls ≠ "java/lang/invoke/MethodHandle" ∧ y.cls ≠ "java/lang/invoke/VarHandle" ∧ (parseMethodDescriptor y.desc).map (fun d => d.parameters.length) = some 0) (hR : dd + 1 ≤ R.frames ∧ 8 + (maxL + 11) + 40 * dd ≤ R.locals) (hW : (st.map fun v => v.category).sum ≤ 8) (hf : cells + mc ≤ R.cells ∧ slots + ms ≤ R.slots) (hL : L0 ++ [x] = L) (hj : L0.length = j) (d : decode cc pc = .ok (.invokespecial idx, 3)) (k : zY p l e R s m args below meth c G nL Q P (L0 ++ Lc) (cells + mc) (slots + ms) (pc + 3) lv st) : zY p l e R s m args below meth c G nL Q P L cells slots pc lv (.ref (zra G (P.length + j)) :: st) := by
  subst hL; subst hj
  intro H locs ls hM hS hl
  rw [← List.append_assoc] at hM
  rw [show P.length + L0.length = (P ++ L0).length from (List.length_append ..).symm]
  have hc := C.w hwc (by first | rfl | simp [zgood, goodWord, Cond.onTables, Cond.keeps])
  refine va_callv (va_runIN (As := []) (rest := st) (host := host) (n := 0) (z_fix C) hM0 ⟨⟨⟨rfl, rfl, hR.1, hR.2, ?_, List.mem_cons_self⟩, hc, C.w hwi (by first | rfl | simp [zgood, goodWord, Cond.onTables, Cond.keeps]), ⟨hd.1, hd.2.1⟩, fun sig h => ?_, C.w hwl rfl⟩, hy, C.w hin (by first | rfl | simp [zgood, goodWord, Cond.onTables, Cond.keeps])⟩ (zy_preS C hAO hM hS) rfl rfl hl.1 rfl (lv_room hW) d hf) hS (fun _ _ h => h) (fun _ h => h) (fun u t H1 locs1 ht hvm hw hB hz1 hk1 hS1 => k H1 locs1 ls (by rw [← List.append_assoc]; exact (show zN G ((P ++ L0) ++ Lc) H1 from ht ▸ hB)) hS1 hl)
  · intro w hw a' U hW
    rcases List.mem_cons.mp hw with rfl | hw
    · exact word_at hW (good_of_word (by first | rfl | simp [zgood, goodWord, Cond.onTables, Cond.keeps])) hc
    · cases hw
  · have h2 := hd.2.2
    rw [h] at h2
    exact (Option.some.inj h2).symm
theorem zy_met {y : MethodName} {bytes : ByteArray} {maxL d mc ms : Nat} {Qc : Array Value → State → Outcome → State → Prop} {P L : List va_E} {av : List Value} (lv : List (Nat × Value)) (hy : plainName y.cls = true) (hi : y.name = "<init>") (hlen : (lg_sl av).length ≤ maxL) (hlv : lv_args 0 av = lv)
    (body : ∀ (p : Program) (e : Env) (s : State) (m : MethodId) (below : List Frame) (meth : Method) (c : Code), zC p s m av.toArray meth c G y.cls bytes maxL none → meth.name = "<init>" → zAO s → zY p l e (zR d mc ms) s m av.toArray below meth c G maxL (MQ below Qc av.toArray s mc ms (zA G)) P L 0 0 0 lv []) :
    Met l y [.code y bytes maxL none] (zR d mc ms) (zyPc G (P ++ L) av) Qc mc ms (zA G) := by
  refine Met.ofW (cc := bytes) (maxL := maxL) (ret := none) hy rfl ?_
  intro p e s m args below meth c s₁ B hml hv
  obtain ⟨rfl, hM, hS, hK, hO⟩ := hv
  have hl := lv_entry av (n := maxL) hlen
  rw [lg_entry_eq]
  rw [hlv] at hl
  exact body p e s m below meth c ⟨B.exec, B.bytes, hml, findClass_of_methodNamed B.named, fun w hw hg => zword (State.WarmedH.refl s) hg (hK.2.1 w hw hg), hK, B.notSynchronized, B.returns, hS⟩ ((name_of_methodNamed B.named B.method).1.trans hi) hO s.heap [] _ hM va_S.rf hl
end YROWS
