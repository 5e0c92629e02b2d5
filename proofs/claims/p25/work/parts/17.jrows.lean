def zCat (own : String) (tb : List ExceptionTableEntry) (pc : Nat) (E : String) (h : Nat) (args : Array Value) (s : State) : Prop := ∃ (pre : List ExceptionTableEntry) (x : ExceptionTableEntry) (suf : List ExceptionTableEntry) (nm : String), tb = pre ++ x :: suf ∧ (∀ z ∈ pre, covers z pc = false ∨ (z.catchType ≠ 0 ∧ ∃ nm : String, (Cond.classLink own z.catchType nm).before args s = true ∧ va_Nc E nm s)) ∧ covers x pc = true ∧ x.catchType ≠ 0 ∧ (Cond.classLink own x.catchType nm).before args s = true ∧ (Cond.castable E nm).before args s = true ∧ x.handlerPc = h
theorem zw_met {l : Launch} {G : zG} {M : zMem} {y : MethodName} {bytes : ByteArray} {maxL d mc ms : Nat} {hh : List (Nat × Nat × Nat × Nat)} {Qc : Array Value → State → Outcome → State → Prop} {av : List Value} (lv : List (Nat × Value)) (hy : plainName y.cls = true) (hlen : (lg_sl av).length ≤ maxL) (hlv : lv_args 0 av = lv)
    (body : ∀ (p : Program) (e : Env) (s : State) (m : MethodId) (below : List Frame) (meth : Method) (c : Code), zC p s m av.toArray meth c G y.cls bytes maxL (some .int) → c.exceptionTable.toList = tableOf hh → zZ p l e (zR d mc ms) s m av.toArray below meth c G maxL (MQ below Qc av.toArray s mc ms (zA G)) M 0 0 0 lv []) :
    Met l y [.codeWith y bytes maxL (some .int) hh] (zR d mc ms) (zPc G M av) Qc mc ms (zA G) := by
  refine va_MetW (cc := bytes) (maxL := maxL) (ret := some .int) (hh := hh) hy rfl ?_
  intro p e s m args below meth c s₁ B hml hv
  obtain ⟨rfl, hM, hS, hK⟩ := hv
  have hl := lv_entry av (n := maxL) hlen
  rw [lg_entry_eq]
  rw [hlv] at hl
  have htb := vx_table (hh := hh) (bytes := bytes) (maxL' := maxL) (ret' := some .int) (p := p) (x := y) (y := y) B (atoms_spec (ws := [.codeWith y bytes maxL (some .int) hh]) B.pre _ List.mem_cons_self)
  exact body p e s m below meth c ⟨B.exec, B.bytes, hml, findClass_of_methodNamed B.named, fun w hw hg => zword (State.WarmedH.refl s) hg (hK.2.1 w hw hg), hK, B.notSynchronized, B.returns, hS⟩ htb s.heap [] _ hM va_S.rf hl
section ZWRAP
variable {p : Program} {l : Launch} {e : Env} {R : Room} {s : State} {m : MethodId} {args : Array Value} {below : List Frame} {meth : Method} {c : Code} {G : zG} {own : String} {cc : ByteArray} {nL : Nat} {rt : Option FieldType} {Q : State → Prop} {M : zMem} {cells slots : Nat} {lv : List (Nat × Value)} {st : List Value}
variable {y : MethodName} {bytes : ByteArray} {maxL idx dd mc ms n : Nat} {ret : Option FieldType} {κ i ci N : Nat} {C0 : String} {T : u_T} {ty : Nat → FieldType} {fs : List Value} {As rest : List Value}
theorem zw_callVi (C : zC p s m args meth c G own cc nL rt) (pc : Nat) {P : Int → zMem → Prop} {EX : String → Prop} {st0 : List Value} (hM0 : vx_Met l y [.code y bytes maxL ret] (zR dd mc ms) (zPc G M (.ref (zad G κ i) :: As)) (zQi G P) (zX G M EX) mc ms (zA G)) (cl : zCl ci C0 T N ty) (hi : i < znum κ) (hc : zcel G κ i (M κ i) = .inr (ci, fs)) (cw : CallW R s args own C0 idx y bytes maxL ret [.code y bytes maxL ret] (zR dd mc ms) mc ms n) (hn : As.length = n) (hW : (rest.map fun v => v.category).sum ≤ 8) (hf : cells + mc ≤ R.cells ∧ slots + ms ≤ R.slots) (d : decode cc pc = .ok (.invokevirtual idx, 3)) (hst : st0 = (As.reverse ++ .ref (zad G κ i) :: rest))
    (kx : ∀ E : String, EX E → ∃ h : Nat, zCat own c.exceptionTable.toList pc E h args s ∧ ∀ q : Nat, zZ p l e R s m args below meth c G nL Q M (cells + mc) (slots + ms) h lv [.ref q])
    (k : ∀ (x : Int) (M1 : zMem), zrg x → P x M1 → zZ p l e R s m args below meth c G nL Q M1 (cells + mc) (slots + ms) (pc + 3) lv (.int (zI x) :: rest)) : zZ p l e R s m args below meth c G nL Q M cells slots pc lv st0 := by
  subst hst
  intro H locs ls hM hS hl
  refine vx_calli (vx_runV (As := As) (rest := rest) (z_fix C) hM0 cw (z_preV C cl hi hc hM hS) rfl hn hl.1 rfl (lv_room hW) d hf) hS (fun _ _ h => h) (fun _ h => h) (fun _ _ h => h) (fun E ce q9 u t H1 locs1 ht9 hvm hw hB hz1 hk1 hS1 h6 h7 h8 => ?_) (fun r u t H1 locs1 ht hvm hw hB hz1 hk1 hS1 => by rw [← zI_of r]; exact k _ u (zrgI r) hw H1 locs1 ls (ht ▸ hB) hS1 hl)
  obtain ⟨h, ⟨pre, x, suf, nm, g1, g2, g3, g4, g5, g6, g7⟩, hz⟩ := kx E hB.1
  subst g7
  exact vx_catch C.o pre x suf g1 g2 g3 g4 g5 g6 h6 h7 h8 (hz q9 H1 locs1 ls (ht9 ▸ hB.2) hS1 hl)
theorem zn_callVi (C : zC p s m args meth c G own cc nL rt) (pc : Nat) {P : Int → zMem → Prop} {EX : String → Prop} {st0 : List Value} (hM0 : vx_Met l y [.code y bytes maxL ret] (zR dd mc ms) (zPc G M (.ref (zad G κ i) :: As)) (zQi G P) (zX G M EX) mc ms (zA G)) (hno : ∀ E, ¬ EX E) (cl : zCl ci C0 T N ty) (hi : i < znum κ) (hc : zcel G κ i (M κ i) = .inr (ci, fs)) (cw : CallW R s args own C0 idx y bytes maxL ret [.code y bytes maxL ret] (zR dd mc ms) mc ms n) (hn : As.length = n) (hW : (rest.map fun v => v.category).sum ≤ 8) (hf : cells + mc ≤ R.cells ∧ slots + ms ≤ R.slots) (d : decode cc pc = .ok (.invokevirtual idx, 3)) (hst : st0 = (As.reverse ++ .ref (zad G κ i) :: rest))
    (k : ∀ (x : Int) (M1 : zMem), zrg x → P x M1 → zZ p l e R s m args below meth c G nL Q M1 (cells + mc) (slots + ms) (pc + 3) lv (.int (zI x) :: rest)) : zZ p l e R s m args below meth c G nL Q M cells slots pc lv st0 := by
  subst hst
  intro H locs ls hM hS hl
  exact vx_calli (vx_runV (As := As) (rest := rest) (z_fix C) hM0 cw (z_preV C cl hi hc hM hS) rfl hn hl.1 rfl (lv_room hW) d hf) hS (fun _ _ h => h) (fun _ h => h) (fun _ _ h => h) (fun E ce q9 u t H1 locs1 ht9 hvm hw hB hz1 hk1 hS1 h6 h7 h8 => absurd hB.1 (hno E)) (fun r u t H1 locs1 ht hvm hw hB hz1 hk1 hS1 => by rw [← zI_of r]; exact k _ u (zrgI r) hw H1 locs1 ls (ht ▸ hB) hS1 hl)
theorem zZ_wd {pc k n : Nat} (h1 : cells ≤ k) (h2 : slots ≤ n) (kk : zZ p l e R s m args below meth c G nL Q M k n pc lv st) : zZ p l e R s m args below meth c G nL Q M cells slots pc lv st := fun H locs ls hM hS hl => W.widen h1 h2 (kk H locs ls hM hS hl)
theorem zs_call (C : zC p s m args meth c G own cc nL rt) (pc : Nat) {hh : List (Nat × Nat × Nat × Nat)} {st0 : List Value} {P : Int → zMem → Prop} (hM0 : Met l y [.codeWith y bytes maxL (some .int) hh] (zR dd mc ms) (zPc G M As) (zQi G P) mc ms (zA G)) (hwl : Cond.methodLink own idx y ∈ lw_tbl) (hwc : Cond.codeWith y bytes maxL (some .int) hh ∈ lw_tbl) (hwi : Cond.initialized y.cls ∈ lw_tbl) (hws : Cond.static y ∈ lw_tbl)
    (hd : y.cls ≠ "java/lang/invoke/MethodHandle" ∧ y.cls ≠ "java/lang/invoke/VarHandle" ∧ (parseMethodDescriptor y.desc).map (fun d => d.parameters.length) = some n) (hR : dd + 1 ≤ R.frames ∧ 8 + (maxL + 11) + 40 * dd ≤ R.locals) (hn : As.length = n) (hW : (rest.map fun v => v.category).sum ≤ 8) (hf : cells + mc ≤ R.cells ∧ slots + ms ≤ R.slots) (d : decode cc pc = .ok (.invokestatic idx, 3)) (hst : st0 = As.reverse ++ rest) (k : ∀ (x : Int) (M1 : zMem), zrg x → P x M1 → zZ p l e R s m args below meth c G nL Q M1 (cells + mc) (slots + ms) (pc + 3) lv (.int (zI x) :: rest)) : zZ p l e R s m args below meth c G nL Q M cells slots pc lv st0 := by
  subst hst
  intro H locs ls hM hS hl
  have hc := C.w hwc (by first | rfl | simp [zgood, goodWord, Cond.onTables, Cond.keeps])
  refine va_calli (vx_runSW (As := As) (rest := rest) (hh := hh) (n := n) (z_fix C) hM0 ⟨⟨rfl, rfl, hR.1, hR.2, ?_, List.mem_cons_self⟩, hc, C.w hwi (by first | rfl | simp [zgood, goodWord, Cond.onTables, Cond.keeps]), ⟨hd.1, hd.2.1⟩, fun sig h => ?_, C.w hwl (by first | rfl | simp [zgood, goodWord, Cond.onTables, Cond.keeps]), C.w hws (by first | rfl | simp [zgood, goodWord, Cond.onTables, Cond.keeps])⟩ (z_preS C hM hS) rfl hn hl.1 rfl (lv_room hW) d hf) hS (fun _ _ h => h) (fun _ h => h) (fun r u t H1 locs1 ht hvm hw hB hz1 hk1 hS1 => by rw [← zI_of r]; exact k _ u (zrgI r) hw H1 locs1 ls (ht ▸ hB) hS1 hl)
  · intro w hw a' U hW
    rcases List.mem_cons.mp hw with rfl | hw
    · exact word_at hW (good_of_word (by first | rfl | simp [zgood, goodWord, Cond.onTables, Cond.keeps])) hc
    · cases hw
  · have h2 := hd.2.2
    rw [h] at h2
    exact (Option.some.inj h2).symm
theorem z_ialdj (C : zC p s m args meth c G own cc nL rt) (pc : Nat) {κ i n : Nat} (hi : i < znum κ) (hc : zcel G κ i (M κ i) = .inl (G.2.1 0, n, .inl (M κ i))) {x : Int} (j : Nat) (hj : x.toNat = j) (hx : zrg x) (h0 : 0 ≤ x) (h1 : x < n) (d : decode cc pc = .ok (.iaload, 1)) (k : ∀ y : Int, y = zV M κ i j → zrg y → zZ p l e R s m args below meth c G nL Q M cells slots (pc + 1) lv (.int (zI y) :: st)) : zZ p l e R s m args below meth c G nL Q M cells slots pc lv (.int (zI x) :: .ref (zad G κ i) :: st) := by
  subst hj
  exact z_iald C pc hi hc hx h0 h1 d k
theorem z_iastj (C : zC p s m args meth c G own cc nL rt) (pc : Nat) {κ i n : Nat} (hi : i < znum κ) (hc : zcel G κ i (M κ i) = .inl (G.2.1 0, n, .inl (M κ i))) {x : Int} (j : Nat) (hj : x.toNat = j) (hx : zrg x) (h0 : 0 ≤ x) (h1 : x < n) {y : Int} (hc' : zcel G κ i (upd (M κ i) j (zI y)) = .inl (G.2.1 0, n, .inl (upd (M κ i) j (zI y)))) (d : decode cc pc = .ok (.iastore, 1)) (k : zZ p l e R s m args below meth c G nL Q (zup M κ i j (zI y)) cells slots (pc + 1) lv st) : zZ p l e R s m args below meth c G nL Q M cells slots pc lv (.int (zI y) :: .int (zI x) :: .ref (zad G κ i) :: st) := by
  subst hj
  exact z_iast C pc hi hc hx h0 h1 hc' d k
end ZWRAP
/-- what a wrapper answers: its conditions in their order, each with its number, then what holds where all are met -/
def jr1 (M : zMem) (c1 : Int) (A : Prop) (R : Int → zMem → Prop) (x : Int) (M' : zMem) : Prop := (¬ A → x = c1 ∧ M' = M) ∧ (A → R x M')
def jr2 (M : zMem) (c1 : Int) (A : Prop) (c2 : Int) (B : Prop) (R : Int → zMem → Prop) (x : Int) (M' : zMem) : Prop := (¬ A → x = c1 ∧ M' = M) ∧ (A → ¬ B → x = c2 ∧ M' = M) ∧ (A → B → R x M')
def jr3 (M : zMem) (c1 : Int) (A : Prop) (c2 : Int) (B : Prop) (c3 : Int) (D : Prop) (R : Int → zMem → Prop) (x : Int) (M' : zMem) : Prop := (¬ A → x = c1 ∧ M' = M) ∧ (A → ¬ B → x = c2 ∧ M' = M) ∧ (A → B → ¬ D → x = c3 ∧ M' = M) ∧ (A → B → D → R x M')
