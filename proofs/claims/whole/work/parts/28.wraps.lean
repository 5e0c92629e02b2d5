theorem wca_xIAE : (Cond.castable xIAE xIAE) ∈ lw_tbl := List.mem_of_getElem? (i := 282) (by decide +kernel)
theorem wca_xISE : (Cond.castable xISE xISE) ∈ lw_tbl := List.mem_of_getElem? (i := 362) (by decide +kernel)
theorem wca_xIOB : (Cond.castable xIOB xIOB) ∈ lw_tbl := List.mem_of_getElem? (i := 416) (by decide +kernel)
abbrev hh_register : List (Nat × Nat × Nat × Nat) := [(0, 10, 13, 13), (0, 10, 17, 15)]
theorem wcw_L_register : (Cond.codeWith yL_register cL_register 5 (some .int) hh_register) ∈ lw_tbl := List.mem_of_getElem? (i := 263) (by decide +kernel)
abbrev hh_withdraw : List (Nat × Nat × Nat × Nat) := [(0, 9, 12, 21), (0, 9, 15, 15)]
theorem wcw_L_withdraw : (Cond.codeWith yL_withdraw cL_withdraw 4 (some .int) hh_withdraw) ∈ lw_tbl := List.mem_of_getElem? (i := 401) (by decide +kernel)
abbrev hh_addLocator : List (Nat × Nat × Nat × Nat) := [(0, 14, 17, 21), (0, 14, 21, 13), (0, 14, 25, 15)]
theorem wcw_L_addLocator : (Cond.codeWith yL_addLocator cL_addLocator 7 (some .int) hh_addLocator) ∈ lw_tbl := List.mem_of_getElem? (i := 440) (by decide +kernel)
abbrev hh_move : List (Nat × Nat × Nat × Nat) := [(0, 12, 15, 21), (0, 12, 19, 13), (0, 12, 23, 15)]
theorem wcw_L_move : (Cond.codeWith yL_move cL_move 6 (some .int) hh_move) ∈ lw_tbl := List.mem_of_getElem? (i := 463) (by decide +kernel)
abbrev hh_removeLocator : List (Nat × Nat × Nat × Nat) := [(0, 10, 13, 21), (0, 10, 17, 13), (0, 10, 21, 15)]
theorem wcw_L_removeLocator : (Cond.codeWith yL_removeLocator cL_removeLocator 5 (some .int) hh_removeLocator) ∈ lw_tbl := List.mem_of_getElem? (i := 475) (by decide +kernel)
abbrev hh_mappingOf : List (Nat × Nat × Nat × Nat) := [(0, 9, 12, 13)]
theorem wcw_L_mappingOf : (Cond.codeWith yL_mappingOf cL_mappingOf 4 (some .int) hh_mappingOf) ∈ lw_tbl := List.mem_of_getElem? (i := 486) (by decide +kernel)
abbrev hh_answerLength : List (Nat × Nat × Nat × Nat) := [(0, 9, 12, 13)]
theorem wcw_L_answerLength : (Cond.codeWith yL_answerLength cL_answerLength 4 (some .int) hh_answerLength) ∈ lw_tbl := List.mem_of_getElem? (i := 502) (by decide +kernel)
abbrev hh_version : List (Nat × Nat × Nat × Nat) := [(0, 9, 12, 21)]
theorem wcw_L_version : (Cond.codeWith yL_version cL_version 4 (some .int) hh_version) ∈ lw_tbl := List.mem_of_getElem? (i := 521) (by decide +kernel)
abbrev hh_delegate : List (Nat × Nat × Nat × Nat) := [(0, 12, 15, 21), (0, 12, 19, 13), (0, 12, 23, 15)]
theorem wcw_L_delegate : (Cond.codeWith yL_delegate cL_delegate 6 (some .int) hh_delegate) ∈ lw_tbl := List.mem_of_getElem? (i := 528) (by decide +kernel)
abbrev hh_setUp : List (Nat × Nat × Nat × Nat) := [(0, 17, 20, 21)]
theorem wcw_L_setUp : (Cond.codeWith yL_setUp cL_setUp 5 (some .int) hh_setUp) ∈ lw_tbl := List.mem_of_getElem? (i := 546) (by decide +kernel)
abbrev hh_serverOf : List (Nat × Nat × Nat × Nat) := [(0, 9, 12, 13)]
theorem wcw_L_serverOf : (Cond.codeWith yL_serverOf cL_serverOf 4 (some .int) hh_serverOf) ∈ lw_tbl := List.mem_of_getElem? (i := 553) (by decide +kernel)
abbrev hh_answers : List (Nat × Nat × Nat × Nat) := [(0, 9, 12, 21)]
theorem wcw_L_answers : (Cond.codeWith yL_answers cL_answers 4 (some .int) hh_answers) ∈ lw_tbl := List.mem_of_getElem? (i := 565) (by decide +kernel)
abbrev hh_send : List (Nat × Nat × Nat × Nat) := [(0, 10, 13, 21), (0, 10, 17, 13)]
theorem wcw_L_send : (Cond.codeWith yL_send cL_send 5 (some .int) hh_send) ∈ lw_tbl := List.mem_of_getElem? (i := 572) (by decide +kernel)
abbrev hh_probe : List (Nat × Nat × Nat × Nat) := [(0, 12, 15, 21), (0, 12, 19, 13)]
theorem wcw_L_probe : (Cond.codeWith yL_probe cL_probe 6 (some .int) hh_probe) ∈ lw_tbl := List.mem_of_getElem? (i := 645) (by decide +kernel)
abbrev hh_setLifetimes : List (Nat × Nat × Nat × Nat) := [(0, 10, 13, 13)]
theorem wcw_L_setLifetimes : (Cond.codeWith yL_setLifetimes cL_setLifetimes 5 (some .int) hh_setLifetimes) ∈ lw_tbl := List.mem_of_getElem? (i := 656) (by decide +kernel)
abbrev hh_pass : List (Nat × Nat × Nat × Nat) := [(0, 9, 12, 13)]
theorem wcw_L_pass : (Cond.codeWith yL_pass cL_pass 4 (some .int) hh_pass) ∈ lw_tbl := List.mem_of_getElem? (i := 663) (by decide +kernel)
abbrev hh_entries : List (Nat × Nat × Nat × Nat) := [(0, 9, 12, 21)]
theorem wcw_L_entries : (Cond.codeWith yL_entries cL_entries 4 (some .int) hh_entries) ∈ lw_tbl := List.mem_of_getElem? (i := 670) (by decide +kernel)
abbrev hh_prefixOf : List (Nat × Nat × Nat × Nat) := [(0, 10, 13, 21)]
theorem wcw_L_prefixOf : (Cond.codeWith yL_prefixOf cL_prefixOf 5 (some .int) hh_prefixOf) ∈ lw_tbl := List.mem_of_getElem? (i := 677) (by decide +kernel)
abbrev hh_mappingAt : List (Nat × Nat × Nat × Nat) := [(0, 10, 13, 21)]
theorem wcw_L_mappingAt : (Cond.codeWith yL_mappingAt cL_mappingAt 5 (some .int) hh_mappingAt) ∈ lw_tbl := List.mem_of_getElem? (i := 688) (by decide +kernel)
abbrev hh_lasts : List (Nat × Nat × Nat × Nat) := [(0, 10, 13, 21)]
theorem wcw_L_lasts : (Cond.codeWith yL_lasts cL_lasts 5 (some .int) hh_lasts) ∈ lw_tbl := List.mem_of_getElem? (i := 695) (by decide +kernel)
abbrev hh_packetsTo : List (Nat × Nat × Nat × Nat) := [(0, 12, 15, 21), (0, 12, 19, 13)]
theorem wcw_L_packetsTo : (Cond.codeWith yL_packetsTo cL_packetsTo 6 (some .int) hh_packetsTo) ∈ lw_tbl := List.mem_of_getElem? (i := 703) (by decide +kernel)
def zNC (U : State) : Prop := va_Nc xIAE xIOB U ∧ va_Nc xISE xIOB U ∧ va_Nc xISE xIAE U
theorem zNC_warm {s U : State} (hW : s.WarmedH U.vm) (h : zNC s) : zNC U := ⟨h.1.moved hW.alike, h.2.1.moved hW.alike, h.2.2.moved hW.alike⟩
def zwPc (G : zG) (M : zMem) (av : List Value) : Array Value → State → Prop := va_Pc av (fun U => zM G M U.heap ∧ va_S (zA G) (zB G) U.heap [] ∧ zK G U ∧ zNC U)
theorem zwPc_blind {G : zG} {M : zMem} {av : List Value} : FrameBlind (zwPc G M av) := fun a U g mk h => ⟨h.1, h.2.1, h.2.2.1, zK_warm (s := U) (U := U.calling g mk a) (State.WarmedH.refl U) h.2.2.2.1, zNC_warm (s := U) (U := U.calling g mk a) (State.WarmedH.refl U) h.2.2.2.2⟩
def zCat (own : String) (tb : List ExceptionTableEntry) (pc : Nat) (E : String) (h : Nat) (args : Array Value) (s : State) : Prop := ∃ (pre : List ExceptionTableEntry) (x : ExceptionTableEntry) (suf : List ExceptionTableEntry) (nm : String), tb = pre ++ x :: suf ∧ (∀ z ∈ pre, covers z pc = false ∨ (z.catchType ≠ 0 ∧ ∃ nm : String, (Cond.classLink own z.catchType nm).before args s = true ∧ va_Nc E nm s)) ∧ covers x pc = true ∧ x.catchType ≠ 0 ∧ (Cond.classLink own x.catchType nm).before args s = true ∧ (Cond.castable E nm).before args s = true ∧ x.handlerPc = h
/-- what a wrapper answers: 0 and the long, or the number of the row that caught -/
def zwP (P : Int → zMem → Prop) (EX : String → Prop) (M : zMem) (es : List String) : Int → zMem → Prop := fun k M' => (k = 0 ∧ ∃ (x : Int) (M1 : zMem), zrg x ∧ P x M1 ∧ M' = zup M1 27 0 0 (zI x)) ∨ (∃ (i : Nat) (E : String), es[i]? = some E ∧ k = i + 1 ∧ EX E ∧ M' = M)
theorem zw_met {l : Launch} {G : zG} {M : zMem} {y : MethodName} {bytes : ByteArray} {maxL d mc ms : Nat} {hh : List (Nat × Nat × Nat × Nat)} {Qc : Array Value → State → Outcome → State → Prop} {av : List Value} (lv : List (Nat × Value)) (hy : plainName y.cls = true) (hlen : (lg_sl av).length ≤ maxL) (hlv : lv_args 0 av = lv)
    (body : ∀ (p : Program) (e : Env) (s : State) (m : MethodId) (below : List Frame) (meth : Method) (c : Code), zC p s m av.toArray meth c G y.cls bytes maxL (some .int) → zNC s → c.exceptionTable.toList = tableOf hh → zZ p l e (zR d mc ms) s m av.toArray below meth c G maxL (MQ below Qc av.toArray s mc ms (zA G)) M 0 0 0 lv []) :
    Met l y [.codeWith y bytes maxL (some .int) hh] (zR d mc ms) (zwPc G M av) Qc mc ms (zA G) := by
  refine va_MetW (cc := bytes) (maxL := maxL) (ret := some .int) (hh := hh) hy rfl ?_
  intro p e s m args below meth c s₁ B hml hv
  obtain ⟨rfl, hM, hS, hK, hN⟩ := hv
  have hl := lv_entry av (n := maxL) hlen
  rw [lg_entry_eq]
  rw [hlv] at hl
  have htb := vx_table (hh := hh) (bytes := bytes) (maxL' := maxL) (ret' := some .int) (p := p) (x := y) (y := y) B (atoms_spec (ws := [.codeWith y bytes maxL (some .int) hh]) B.pre _ List.mem_cons_self)
  exact body p e s m below meth c ⟨B.exec, B.bytes, hml, findClass_of_methodNamed B.named, fun w hw hg => zword (State.WarmedH.refl s) hg (hK.2.1 w hw hg), hK, B.notSynchronized, B.returns, hS⟩ hN htb s.heap [] _ hM va_S.rf hl
section ZWRAP
variable {p : Program} {l : Launch} {e : Env} {R : Room} {s : State} {m : MethodId} {args : Array Value} {below : List Frame} {meth : Method} {c : Code} {G : zG} {own : String} {cc : ByteArray} {nL : Nat} {rt : Option FieldType} {Q : State → Prop} {M : zMem} {cells slots : Nat} {lv : List (Nat × Value)} {st : List Value}
variable {y : MethodName} {bytes : ByteArray} {maxL idx dd mc ms n : Nat} {ret : Option FieldType} {κ i ci N : Nat} {C0 : String} {T : u_T} {ty : Nat → FieldType} {fs : List Value} {As rest : List Value}
theorem zw_callVi (C : zC p s m args meth c G own cc nL rt) (pc : Nat) {P : Int → zMem → Prop} {EX : String → Prop} {st0 : List Value} (hM0 : vx_Met l y [.code y bytes maxL ret] (zR dd mc ms) (zPc G M (.ref (zad G κ i) :: As)) (zQi G P) (zX G M EX) mc ms (zA G)) (cl : zCl ci C0 T N ty) (hi : i < znum κ) (hc : zcel G κ i (M κ i) = .inr (ci, fs)) (cw : CallW R s args own C0 idx y bytes maxL ret [.code y bytes maxL ret] (zR dd mc ms) mc ms n) (hn : As.length = n) (hW : (rest.map fun v => v.category).sum ≤ 8) (hf : cells + mc ≤ R.cells ∧ slots + ms ≤ R.slots) (d : decode cc pc = .ok (.invokevirtual idx, 3)) (hst : st0 = (As.reverse ++ .ref (zad G κ i) :: rest))
    (kx : ∀ E : String, EX E → ∃ h : Nat, zCat own c.exceptionTable.toList pc E h args s ∧ ∀ q : Nat, zZ p l e R s m args below meth c G nL Q M (cells + mc) (slots + ms) h lv [.ref q])
    (k : ∀ (x : Int) (M1 : zMem), zrg x → P x M1 → zZ p l e R s m args below meth c G nL Q M1 (cells + mc) (slots + ms) (pc + 3) lv (.int (zI x) :: rest)) : zZ p l e R s m args below meth c G nL Q M cells slots pc lv st0 := by
  subst hst
  intro H locs ls hM hS hl
  refine vx_calli (vx_runV (As := As) (rest := rest) (z_fix C) hM0 cw (z_preV C cl hi hc hM hS) rfl hn hl.1 rfl (lv_room hW) d hf) hS (fun _ _ h => h) (fun _ h => h) (fun _ _ h => h) (fun E ce q9 u t H1 locs1 ht9 hvm hw hB hz1 hk1 hS1 h6 h7 h8 => ?_) (fun r u t H1 locs1 ht hvm hw hB hz1 hk1 hS1 => by rw [← zI_of r]; exact k _ u (zrgI r) hw H1 locs1 ls (ht ▸ hB) hS1 hl)
  obtain ⟨h, ⟨pre, x, suf, nm, g1, g2, g3, g4, g5, g6, g7⟩, hz⟩ := kx E hB.1
  subst g7
  exact vx_catch C.o pre x suf g1 g2 g3 g4 g5 g6 h6 h7 h8 (hz q9 H1 locs1 ls (ht9 ▸ hB.2) hS1 hl)
theorem zw_last (C : zC p s m args meth c G own cc nL rt) (pc : Nat) {x : Int} (d : decode cc pc = .ok (.lastore, 1)) (k : zZ p l e R s m args below meth c G nL Q (zup M 27 0 0 (zI x)) cells slots (pc + 1) lv st) : zZ p l e R s m args below meth c G nL Q M cells slots pc lv (.long (zI x).toInt64 :: .int (zI 0) :: .ref (zad G 27 0) :: st) := by
  intro H locs ls hM hS hl
  have h2 := hM 27 0 (by decide)
  have hin : vp_in (zI 0) 1 := zI_in (by decide) (by decide) (by decide)
  refine W.last C.1 C.2.1 (show H[zad G 27 0]? = some (vp_cell (G.2.1 2) (1, .inr (.inl (fun j => (M 27 0 j).toInt64)))) from h2) ((C.k.1.2 2 _ rfl).1 1 (fun j => .long (M 27 0 j).toInt64)) (fun q => by cases q) (by show ¬ (zI 0 < 0 ∨ (arrV _ _ _).slots.size ≤ _); rw [arrV_size]; exact hin) rfl rfl d fun H1 e z oq => ?_
  refine k H1 _ ls (zM_put (κ := 27) (i := 0) (by decide) hM ?_ oq (fun κ' i' h => zup_ne h)) (hS.put z oq zad_in) hl
  rw [zup_row]
  show H1[zad G 27 0]? = some (vp_cell (G.2.1 2) (1, .inr (.inl (fun j => ((upd (M 27 0) 0 (zI x)) j).toInt64))))
  rw [e, vp_cell_l, vp_cell_l, arrV_store]
  congr 2
  funext q
  have e0 : (zI 0).toNatClampNeg = 0 := rfl
  rw [e0]
  by_cases hq : q = 0
  · subst hq
    simp [updV, upd]
  · simp [updV, upd, hq]
end ZWRAP
set_option maxHeartbeats 4000000 in
set_option maxRecDepth 100000 in
theorem w_register (l : Launch) (G : zG) (M : zMem) (a b : Int) {P : Int → zMem → Prop} {EX : String → Prop} (h0 : vx_Met l yX7_register [.code yX7_register cX7_register 4 (some .int)] (zR 9 4 24) (zPc G M [.ref (zad G 0 0), .int (zI a), .int (zI b)]) (zQi G P) (zX G M EX) 4 24 (zA G)) (hEX : ∀ E, EX E → E = xIAE ∨ E = xISE) : Met l yL_register [.codeWith yL_register cL_register 5 (some .int) hh_register] (zR 10 4 24) (zwPc G M [.ref (zad G 0 0), .int (zI a), .int (zI b), .ref (zad G 27 0)]) (zQi G (zwP P EX M [xIAE, xISE])) 4 24 (zA G) := by
  refine zw_met [(0, .ref (zad G 0 0)), (1, .int (zI a)), (2, .int (zI b)), (3, .ref (zad G 27 0))] (by decide) (Nat.le_of_ble_eq_true rfl) rfl ?_
  intro p e s m below meth cz C hN htb
  have C : zC p s m ([.ref (zad G 0 0), .int (zI a), .int (zI b), .ref (zad G 27 0)] : List Value).toArray meth cz G RL cL_register 5 (some .int) := C
  refine z_aload_n C 0 dL_register_0 rfl 3 rfl ?_
  refine z_iconst C 1 dL_register_1 ?_
  refine z_aload_n C 2 dL_register_2 rfl 0 rfl ?_
  refine z_iload_n C 3 dL_register_3 rfl 1 rfl ?_
  refine z_iload_n C 4 dL_register_4 rfl 2 rfl ?_
  refine zw_callVi C 5 (As := [.int (zI a), .int (zI b)]) (rest := [.int (zI 0), .ref (zad G 27 0)]) h0 zcl7 (show 0 < 1 by omega) (zc0 ..) (zW_of 2 C wm_L_7 wc_X7_register wini_7 wi_X7_register wse_X7_register ⟨by decide, by decide, by decide⟩ ⟨by decide, by decide⟩) rfl (Nat.le_of_ble_eq_true rfl) ⟨by decide, by decide⟩ dL_register_5 rfl (fun E hE => ?_) (fun x M1 hx hPx => ?_)
  · rcases hEX E hE with h9 | h9
    · subst h9
      refine ⟨13, ⟨[], ⟨0, 10, 13, 13⟩, [⟨0, 10, 17, 15⟩], xIAE, htb, (fun z hz => by cases hz), by decide, by decide, C.w wcl_L_13 rfl, C.w wca_xIAE rfl, rfl⟩, fun q => ?_⟩
      refine z_astore (lv' := [(4, .ref q), (0, .ref (zad G 0 0)), (1, .int (zI a)), (2, .int (zI b)), (3, .ref (zad G 27 0))]) C 13 dL_register_13 (by decide) rfl ?_
      refine z_iconst C 15 dL_register_15 ?_
      exact z_iret C 16 dL_register_16 (by decide) (by decide) (by decide) (Or.inr ⟨0, xIAE, rfl, rfl, hE, rfl⟩)
    · subst h9
      refine ⟨17, ⟨[⟨0, 10, 13, 13⟩], ⟨0, 10, 17, 15⟩, [], xISE, htb, (fun z hz => by rcases List.mem_cons.mp hz with rfl | hz; exact Or.inr ⟨by decide, _, C.w wcl_L_13 rfl, hN.2.2⟩; cases hz), by decide, by decide, C.w wcl_L_15 rfl, C.w wca_xISE rfl, rfl⟩, fun q => ?_⟩
      refine z_astore (lv' := [(4, .ref q), (0, .ref (zad G 0 0)), (1, .int (zI a)), (2, .int (zI b)), (3, .ref (zad G 27 0))]) C 17 dL_register_17 (by decide) rfl ?_
      refine z_iconst C 19 dL_register_19 ?_
      exact z_iret C 20 dL_register_20 (by decide) (by decide) (by decide) (Or.inr ⟨1, xISE, rfl, rfl, hE, rfl⟩)
  refine z_i2l C 8 dL_register_8 ?_
  refine zw_last C 9 dL_register_9 ?_
  refine z_goto C 10 21 dL_register_10 (by decide) ?_
  refine z_iconst C 21 dL_register_21 ?_
  exact z_iret C 22 dL_register_22 (by decide) (by decide) (by decide) (Or.inl ⟨rfl, x, M1, hx, hPx, rfl⟩)
set_option maxHeartbeats 4000000 in
set_option maxRecDepth 100000 in
theorem w_withdraw (l : Launch) (G : zG) (M : zMem) (a : Int) {P : Int → zMem → Prop} {EX : String → Prop} (h0 : vx_Met l yX7_withdraw [.code yX7_withdraw cX7_withdraw 3 (some .int)] (zR 8 2 12) (zPc G M [.ref (zad G 0 0), .int (zI a)]) (zQi G P) (zX G M EX) 2 12 (zA G)) (hEX : ∀ E, EX E → E = xIOB ∨ E = xISE) : Met l yL_withdraw [.codeWith yL_withdraw cL_withdraw 4 (some .int) hh_withdraw] (zR 9 2 12) (zwPc G M [.ref (zad G 0 0), .int (zI a), .ref (zad G 27 0)]) (zQi G (zwP P EX M [xIOB, xISE])) 2 12 (zA G) := by
  refine zw_met [(0, .ref (zad G 0 0)), (1, .int (zI a)), (2, .ref (zad G 27 0))] (by decide) (Nat.le_of_ble_eq_true rfl) rfl ?_
  intro p e s m below meth cz C hN htb
  have C : zC p s m ([.ref (zad G 0 0), .int (zI a), .ref (zad G 27 0)] : List Value).toArray meth cz G RL cL_withdraw 4 (some .int) := C
  refine z_aload_n C 0 dL_withdraw_0 rfl 2 rfl ?_
  refine z_iconst C 1 dL_withdraw_1 ?_
  refine z_aload_n C 2 dL_withdraw_2 rfl 0 rfl ?_
  refine z_iload_n C 3 dL_withdraw_3 rfl 1 rfl ?_
  refine zw_callVi C 4 (As := [.int (zI a)]) (rest := [.int (zI 0), .ref (zad G 27 0)]) h0 zcl7 (show 0 < 1 by omega) (zc0 ..) (zW_of 1 C wm_L_17 wc_X7_withdraw wini_7 wi_X7_withdraw wse_X7_withdraw ⟨by decide, by decide, by decide⟩ ⟨by decide, by decide⟩) rfl (Nat.le_of_ble_eq_true rfl) ⟨by decide, by decide⟩ dL_withdraw_4 rfl (fun E hE => ?_) (fun x M1 hx hPx => ?_)
  · rcases hEX E hE with h9 | h9
    · subst h9
      refine ⟨12, ⟨[], ⟨0, 9, 12, 21⟩, [⟨0, 9, 15, 15⟩], xIOB, htb, (fun z hz => by cases hz), by decide, by decide, C.w wcl_L_21 rfl, C.w wca_xIOB rfl, rfl⟩, fun q => ?_⟩
      refine z_astore_n (lv' := [(3, .ref q), (0, .ref (zad G 0 0)), (1, .int (zI a)), (2, .ref (zad G 27 0))]) C 12 dL_withdraw_12 rfl (by decide) rfl ?_
      refine z_iconst C 13 dL_withdraw_13 ?_
      exact z_iret C 14 dL_withdraw_14 (by decide) (by decide) (by decide) (Or.inr ⟨0, xIOB, rfl, rfl, hE, rfl⟩)
    · subst h9
      refine ⟨15, ⟨[⟨0, 9, 12, 21⟩], ⟨0, 9, 15, 15⟩, [], xISE, htb, (fun z hz => by rcases List.mem_cons.mp hz with rfl | hz; exact Or.inr ⟨by decide, _, C.w wcl_L_21 rfl, hN.2.1⟩; cases hz), by decide, by decide, C.w wcl_L_15 rfl, C.w wca_xISE rfl, rfl⟩, fun q => ?_⟩
      refine z_astore_n (lv' := [(3, .ref q), (0, .ref (zad G 0 0)), (1, .int (zI a)), (2, .ref (zad G 27 0))]) C 15 dL_withdraw_15 rfl (by decide) rfl ?_
      refine z_iconst C 16 dL_withdraw_16 ?_
      exact z_iret C 17 dL_withdraw_17 (by decide) (by decide) (by decide) (Or.inr ⟨1, xISE, rfl, rfl, hE, rfl⟩)
  refine z_i2l C 7 dL_withdraw_7 ?_
  refine zw_last C 8 dL_withdraw_8 ?_
  refine z_goto C 9 18 dL_withdraw_9 (by decide) ?_
  refine z_iconst C 18 dL_withdraw_18 ?_
  exact z_iret C 19 dL_withdraw_19 (by decide) (by decide) (by decide) (Or.inl ⟨rfl, x, M1, hx, hPx, rfl⟩)
set_option maxHeartbeats 4000000 in
set_option maxRecDepth 100000 in
theorem w_addLocator (l : Launch) (G : zG) (M : zMem) (a b c d : Int) {P : Int → zMem → Prop} {EX : String → Prop} (h0 : vx_Met l yX7_addLocator [.code yX7_addLocator cX7_addLocator 7 (some .int)] (zR 8 6 36) (zPc G M [.ref (zad G 0 0), .int (zI a), .int (zI b), .int (zI c), .int (zI d)]) (zQi G P) (zX G M EX) 6 36 (zA G)) (hEX : ∀ E, EX E → E = xIOB ∨ E = xIAE ∨ E = xISE) : Met l yL_addLocator [.codeWith yL_addLocator cL_addLocator 7 (some .int) hh_addLocator] (zR 9 6 36) (zwPc G M [.ref (zad G 0 0), .int (zI a), .int (zI b), .int (zI c), .int (zI d), .ref (zad G 27 0)]) (zQi G (zwP P EX M [xIOB, xIAE, xISE])) 6 36 (zA G) := by
  refine zw_met [(0, .ref (zad G 0 0)), (1, .int (zI a)), (2, .int (zI b)), (3, .int (zI c)), (4, .int (zI d)), (5, .ref (zad G 27 0))] (by decide) (Nat.le_of_ble_eq_true rfl) rfl ?_
  intro p e s m below meth cz C hN htb
  have C : zC p s m ([.ref (zad G 0 0), .int (zI a), .int (zI b), .int (zI c), .int (zI d), .ref (zad G 27 0)] : List Value).toArray meth cz G RL cL_addLocator 7 (some .int) := C
  refine z_aload C 0 dL_addLocator_0 5 rfl ?_
  refine z_iconst C 2 dL_addLocator_2 ?_
  refine z_aload_n C 3 dL_addLocator_3 rfl 0 rfl ?_
  refine z_iload_n C 4 dL_addLocator_4 rfl 1 rfl ?_
  refine z_iload_n C 5 dL_addLocator_5 rfl 2 rfl ?_
  refine z_iload_n C 6 dL_addLocator_6 rfl 3 rfl ?_
  refine z_iload C 7 dL_addLocator_7 4 rfl ?_
  refine zw_callVi C 9 (As := [.int (zI a), .int (zI b), .int (zI c), .int (zI d)]) (rest := [.int (zI 0), .ref (zad G 27 0)]) h0 zcl7 (show 0 < 1 by omega) (zc0 ..) (zW_of 4 C wm_L_23 wc_X7_addLocator wini_7 wi_X7_addLocator wse_X7_addLocator ⟨by decide, by decide, by decide⟩ ⟨by decide, by decide⟩) rfl (Nat.le_of_ble_eq_true rfl) ⟨by decide, by decide⟩ dL_addLocator_9 rfl (fun E hE => ?_) (fun x M1 hx hPx => ?_)
  · rcases hEX E hE with h9 | h9 | h9
    · subst h9
      refine ⟨17, ⟨[], ⟨0, 14, 17, 21⟩, [⟨0, 14, 21, 13⟩, ⟨0, 14, 25, 15⟩], xIOB, htb, (fun z hz => by cases hz), by decide, by decide, C.w wcl_L_21 rfl, C.w wca_xIOB rfl, rfl⟩, fun q => ?_⟩
      refine z_astore (lv' := [(6, .ref q), (0, .ref (zad G 0 0)), (1, .int (zI a)), (2, .int (zI b)), (3, .int (zI c)), (4, .int (zI d)), (5, .ref (zad G 27 0))]) C 17 dL_addLocator_17 (by decide) rfl ?_
      refine z_iconst C 19 dL_addLocator_19 ?_
      exact z_iret C 20 dL_addLocator_20 (by decide) (by decide) (by decide) (Or.inr ⟨0, xIOB, rfl, rfl, hE, rfl⟩)
    · subst h9
      refine ⟨21, ⟨[⟨0, 14, 17, 21⟩], ⟨0, 14, 21, 13⟩, [⟨0, 14, 25, 15⟩], xIAE, htb, (fun z hz => by rcases List.mem_cons.mp hz with rfl | hz; exact Or.inr ⟨by decide, _, C.w wcl_L_21 rfl, hN.1⟩; cases hz), by decide, by decide, C.w wcl_L_13 rfl, C.w wca_xIAE rfl, rfl⟩, fun q => ?_⟩
      refine z_astore (lv' := [(6, .ref q), (0, .ref (zad G 0 0)), (1, .int (zI a)), (2, .int (zI b)), (3, .int (zI c)), (4, .int (zI d)), (5, .ref (zad G 27 0))]) C 21 dL_addLocator_21 (by decide) rfl ?_
      refine z_iconst C 23 dL_addLocator_23 ?_
      exact z_iret C 24 dL_addLocator_24 (by decide) (by decide) (by decide) (Or.inr ⟨1, xIAE, rfl, rfl, hE, rfl⟩)
    · subst h9
      refine ⟨25, ⟨[⟨0, 14, 17, 21⟩, ⟨0, 14, 21, 13⟩], ⟨0, 14, 25, 15⟩, [], xISE, htb, (fun z hz => by rcases List.mem_cons.mp hz with rfl | hz; exact Or.inr ⟨by decide, _, C.w wcl_L_21 rfl, hN.2.1⟩; rcases List.mem_cons.mp hz with rfl | hz; exact Or.inr ⟨by decide, _, C.w wcl_L_13 rfl, hN.2.2⟩; cases hz), by decide, by decide, C.w wcl_L_15 rfl, C.w wca_xISE rfl, rfl⟩, fun q => ?_⟩
      refine z_astore (lv' := [(6, .ref q), (0, .ref (zad G 0 0)), (1, .int (zI a)), (2, .int (zI b)), (3, .int (zI c)), (4, .int (zI d)), (5, .ref (zad G 27 0))]) C 25 dL_addLocator_25 (by decide) rfl ?_
      refine z_iconst C 27 dL_addLocator_27 ?_
      exact z_iret C 28 dL_addLocator_28 (by decide) (by decide) (by decide) (Or.inr ⟨2, xISE, rfl, rfl, hE, rfl⟩)
  refine z_i2l C 12 dL_addLocator_12 ?_
  refine zw_last C 13 dL_addLocator_13 ?_
  refine z_goto C 14 29 dL_addLocator_14 (by decide) ?_
  refine z_iconst C 29 dL_addLocator_29 ?_
  exact z_iret C 30 dL_addLocator_30 (by decide) (by decide) (by decide) (Or.inl ⟨rfl, x, M1, hx, hPx, rfl⟩)
set_option maxHeartbeats 4000000 in
set_option maxRecDepth 100000 in
theorem w_move (l : Launch) (G : zG) (M : zMem) (a b c : Int) {P : Int → zMem → Prop} {EX : String → Prop} (h0 : vx_Met l yX7_move [.code yX7_move cX7_move 6 (some .int)] (zR 8 6 36) (zPc G M [.ref (zad G 0 0), .int (zI a), .int (zI b), .int (zI c)]) (zQi G P) (zX G M EX) 6 36 (zA G)) (hEX : ∀ E, EX E → E = xIOB ∨ E = xIAE ∨ E = xISE) : Met l yL_move [.codeWith yL_move cL_move 6 (some .int) hh_move] (zR 9 6 36) (zwPc G M [.ref (zad G 0 0), .int (zI a), .int (zI b), .int (zI c), .ref (zad G 27 0)]) (zQi G (zwP P EX M [xIOB, xIAE, xISE])) 6 36 (zA G) := by
  refine zw_met [(0, .ref (zad G 0 0)), (1, .int (zI a)), (2, .int (zI b)), (3, .int (zI c)), (4, .ref (zad G 27 0))] (by decide) (Nat.le_of_ble_eq_true rfl) rfl ?_
  intro p e s m below meth cz C hN htb
  have C : zC p s m ([.ref (zad G 0 0), .int (zI a), .int (zI b), .int (zI c), .ref (zad G 27 0)] : List Value).toArray meth cz G RL cL_move 6 (some .int) := C
  refine z_aload C 0 dL_move_0 4 rfl ?_
  refine z_iconst C 2 dL_move_2 ?_
  refine z_aload_n C 3 dL_move_3 rfl 0 rfl ?_
  refine z_iload_n C 4 dL_move_4 rfl 1 rfl ?_
  refine z_iload_n C 5 dL_move_5 rfl 2 rfl ?_
  refine z_iload_n C 6 dL_move_6 rfl 3 rfl ?_
  refine zw_callVi C 7 (As := [.int (zI a), .int (zI b), .int (zI c)]) (rest := [.int (zI 0), .ref (zad G 27 0)]) h0 zcl7 (show 0 < 1 by omega) (zc0 ..) (zW_of 3 C wm_L_27 wc_X7_move wini_7 wi_X7_move wse_X7_move ⟨by decide, by decide, by decide⟩ ⟨by decide, by decide⟩) rfl (Nat.le_of_ble_eq_true rfl) ⟨by decide, by decide⟩ dL_move_7 rfl (fun E hE => ?_) (fun x M1 hx hPx => ?_)
  · rcases hEX E hE with h9 | h9 | h9
    · subst h9
      refine ⟨15, ⟨[], ⟨0, 12, 15, 21⟩, [⟨0, 12, 19, 13⟩, ⟨0, 12, 23, 15⟩], xIOB, htb, (fun z hz => by cases hz), by decide, by decide, C.w wcl_L_21 rfl, C.w wca_xIOB rfl, rfl⟩, fun q => ?_⟩
      refine z_astore (lv' := [(5, .ref q), (0, .ref (zad G 0 0)), (1, .int (zI a)), (2, .int (zI b)), (3, .int (zI c)), (4, .ref (zad G 27 0))]) C 15 dL_move_15 (by decide) rfl ?_
      refine z_iconst C 17 dL_move_17 ?_
      exact z_iret C 18 dL_move_18 (by decide) (by decide) (by decide) (Or.inr ⟨0, xIOB, rfl, rfl, hE, rfl⟩)
    · subst h9
      refine ⟨19, ⟨[⟨0, 12, 15, 21⟩], ⟨0, 12, 19, 13⟩, [⟨0, 12, 23, 15⟩], xIAE, htb, (fun z hz => by rcases List.mem_cons.mp hz with rfl | hz; exact Or.inr ⟨by decide, _, C.w wcl_L_21 rfl, hN.1⟩; cases hz), by decide, by decide, C.w wcl_L_13 rfl, C.w wca_xIAE rfl, rfl⟩, fun q => ?_⟩
      refine z_astore (lv' := [(5, .ref q), (0, .ref (zad G 0 0)), (1, .int (zI a)), (2, .int (zI b)), (3, .int (zI c)), (4, .ref (zad G 27 0))]) C 19 dL_move_19 (by decide) rfl ?_
      refine z_iconst C 21 dL_move_21 ?_
      exact z_iret C 22 dL_move_22 (by decide) (by decide) (by decide) (Or.inr ⟨1, xIAE, rfl, rfl, hE, rfl⟩)
    · subst h9
      refine ⟨23, ⟨[⟨0, 12, 15, 21⟩, ⟨0, 12, 19, 13⟩], ⟨0, 12, 23, 15⟩, [], xISE, htb, (fun z hz => by rcases List.mem_cons.mp hz with rfl | hz; exact Or.inr ⟨by decide, _, C.w wcl_L_21 rfl, hN.2.1⟩; rcases List.mem_cons.mp hz with rfl | hz; exact Or.inr ⟨by decide, _, C.w wcl_L_13 rfl, hN.2.2⟩; cases hz), by decide, by decide, C.w wcl_L_15 rfl, C.w wca_xISE rfl, rfl⟩, fun q => ?_⟩
      refine z_astore (lv' := [(5, .ref q), (0, .ref (zad G 0 0)), (1, .int (zI a)), (2, .int (zI b)), (3, .int (zI c)), (4, .ref (zad G 27 0))]) C 23 dL_move_23 (by decide) rfl ?_
      refine z_iconst C 25 dL_move_25 ?_
      exact z_iret C 26 dL_move_26 (by decide) (by decide) (by decide) (Or.inr ⟨2, xISE, rfl, rfl, hE, rfl⟩)
  refine z_i2l C 10 dL_move_10 ?_
  refine zw_last C 11 dL_move_11 ?_
  refine z_goto C 12 27 dL_move_12 (by decide) ?_
  refine z_iconst C 27 dL_move_27 ?_
  exact z_iret C 28 dL_move_28 (by decide) (by decide) (by decide) (Or.inl ⟨rfl, x, M1, hx, hPx, rfl⟩)
set_option maxHeartbeats 4000000 in
set_option maxRecDepth 100000 in
theorem w_removeLocator (l : Launch) (G : zG) (M : zMem) (a b : Int) {P : Int → zMem → Prop} {EX : String → Prop} (h0 : vx_Met l yX7_removeLocator [.code yX7_removeLocator cX7_removeLocator 5 (some .int)] (zR 8 4 24) (zPc G M [.ref (zad G 0 0), .int (zI a), .int (zI b)]) (zQi G P) (zX G M EX) 4 24 (zA G)) (hEX : ∀ E, EX E → E = xIOB ∨ E = xIAE ∨ E = xISE) : Met l yL_removeLocator [.codeWith yL_removeLocator cL_removeLocator 5 (some .int) hh_removeLocator] (zR 9 4 24) (zwPc G M [.ref (zad G 0 0), .int (zI a), .int (zI b), .ref (zad G 27 0)]) (zQi G (zwP P EX M [xIOB, xIAE, xISE])) 4 24 (zA G) := by
  refine zw_met [(0, .ref (zad G 0 0)), (1, .int (zI a)), (2, .int (zI b)), (3, .ref (zad G 27 0))] (by decide) (Nat.le_of_ble_eq_true rfl) rfl ?_
  intro p e s m below meth cz C hN htb
  have C : zC p s m ([.ref (zad G 0 0), .int (zI a), .int (zI b), .ref (zad G 27 0)] : List Value).toArray meth cz G RL cL_removeLocator 5 (some .int) := C
  refine z_aload_n C 0 dL_removeLocator_0 rfl 3 rfl ?_
  refine z_iconst C 1 dL_removeLocator_1 ?_
  refine z_aload_n C 2 dL_removeLocator_2 rfl 0 rfl ?_
  refine z_iload_n C 3 dL_removeLocator_3 rfl 1 rfl ?_
  refine z_iload_n C 4 dL_removeLocator_4 rfl 2 rfl ?_
  refine zw_callVi C 5 (As := [.int (zI a), .int (zI b)]) (rest := [.int (zI 0), .ref (zad G 27 0)]) h0 zcl7 (show 0 < 1 by omega) (zc0 ..) (zW_of 2 C wm_L_31 wc_X7_removeLocator wini_7 wi_X7_removeLocator wse_X7_removeLocator ⟨by decide, by decide, by decide⟩ ⟨by decide, by decide⟩) rfl (Nat.le_of_ble_eq_true rfl) ⟨by decide, by decide⟩ dL_removeLocator_5 rfl (fun E hE => ?_) (fun x M1 hx hPx => ?_)
  · rcases hEX E hE with h9 | h9 | h9
    · subst h9
      refine ⟨13, ⟨[], ⟨0, 10, 13, 21⟩, [⟨0, 10, 17, 13⟩, ⟨0, 10, 21, 15⟩], xIOB, htb, (fun z hz => by cases hz), by decide, by decide, C.w wcl_L_21 rfl, C.w wca_xIOB rfl, rfl⟩, fun q => ?_⟩
      refine z_astore (lv' := [(4, .ref q), (0, .ref (zad G 0 0)), (1, .int (zI a)), (2, .int (zI b)), (3, .ref (zad G 27 0))]) C 13 dL_removeLocator_13 (by decide) rfl ?_
      refine z_iconst C 15 dL_removeLocator_15 ?_
      exact z_iret C 16 dL_removeLocator_16 (by decide) (by decide) (by decide) (Or.inr ⟨0, xIOB, rfl, rfl, hE, rfl⟩)
    · subst h9
      refine ⟨17, ⟨[⟨0, 10, 13, 21⟩], ⟨0, 10, 17, 13⟩, [⟨0, 10, 21, 15⟩], xIAE, htb, (fun z hz => by rcases List.mem_cons.mp hz with rfl | hz; exact Or.inr ⟨by decide, _, C.w wcl_L_21 rfl, hN.1⟩; cases hz), by decide, by decide, C.w wcl_L_13 rfl, C.w wca_xIAE rfl, rfl⟩, fun q => ?_⟩
      refine z_astore (lv' := [(4, .ref q), (0, .ref (zad G 0 0)), (1, .int (zI a)), (2, .int (zI b)), (3, .ref (zad G 27 0))]) C 17 dL_removeLocator_17 (by decide) rfl ?_
      refine z_iconst C 19 dL_removeLocator_19 ?_
      exact z_iret C 20 dL_removeLocator_20 (by decide) (by decide) (by decide) (Or.inr ⟨1, xIAE, rfl, rfl, hE, rfl⟩)
    · subst h9
      refine ⟨21, ⟨[⟨0, 10, 13, 21⟩, ⟨0, 10, 17, 13⟩], ⟨0, 10, 21, 15⟩, [], xISE, htb, (fun z hz => by rcases List.mem_cons.mp hz with rfl | hz; exact Or.inr ⟨by decide, _, C.w wcl_L_21 rfl, hN.2.1⟩; rcases List.mem_cons.mp hz with rfl | hz; exact Or.inr ⟨by decide, _, C.w wcl_L_13 rfl, hN.2.2⟩; cases hz), by decide, by decide, C.w wcl_L_15 rfl, C.w wca_xISE rfl, rfl⟩, fun q => ?_⟩
      refine z_astore (lv' := [(4, .ref q), (0, .ref (zad G 0 0)), (1, .int (zI a)), (2, .int (zI b)), (3, .ref (zad G 27 0))]) C 21 dL_removeLocator_21 (by decide) rfl ?_
      refine z_iconst C 23 dL_removeLocator_23 ?_
      exact z_iret C 24 dL_removeLocator_24 (by decide) (by decide) (by decide) (Or.inr ⟨2, xISE, rfl, rfl, hE, rfl⟩)
  refine z_i2l C 8 dL_removeLocator_8 ?_
  refine zw_last C 9 dL_removeLocator_9 ?_
  refine z_goto C 10 25 dL_removeLocator_10 (by decide) ?_
  refine z_iconst C 25 dL_removeLocator_25 ?_
  exact z_iret C 26 dL_removeLocator_26 (by decide) (by decide) (by decide) (Or.inl ⟨rfl, x, M1, hx, hPx, rfl⟩)
set_option maxHeartbeats 4000000 in
set_option maxRecDepth 100000 in
theorem w_mappingOf (l : Launch) (G : zG) (M : zMem) (a : Int) {P : Int → zMem → Prop} {EX : String → Prop} (h0 : vx_Met l yX7_mappingOf [.code yX7_mappingOf cX7_mappingOf 2 (some .int)] (zR 8 1 6) (zPc G M [.ref (zad G 0 0), .int (zI a)]) (zQi G P) (zX G M EX) 1 6 (zA G)) (hEX : ∀ E, EX E → E = xIAE) : Met l yL_mappingOf [.codeWith yL_mappingOf cL_mappingOf 4 (some .int) hh_mappingOf] (zR 9 1 6) (zwPc G M [.ref (zad G 0 0), .int (zI a), .ref (zad G 27 0)]) (zQi G (zwP P EX M [xIAE])) 1 6 (zA G) := by
  refine zw_met [(0, .ref (zad G 0 0)), (1, .int (zI a)), (2, .ref (zad G 27 0))] (by decide) (Nat.le_of_ble_eq_true rfl) rfl ?_
  intro p e s m below meth cz C hN htb
  have C : zC p s m ([.ref (zad G 0 0), .int (zI a), .ref (zad G 27 0)] : List Value).toArray meth cz G RL cL_mappingOf 4 (some .int) := C
  refine z_aload_n C 0 dL_mappingOf_0 rfl 2 rfl ?_
  refine z_iconst C 1 dL_mappingOf_1 ?_
  refine z_aload_n C 2 dL_mappingOf_2 rfl 0 rfl ?_
  refine z_iload_n C 3 dL_mappingOf_3 rfl 1 rfl ?_
  refine zw_callVi C 4 (As := [.int (zI a)]) (rest := [.int (zI 0), .ref (zad G 27 0)]) h0 zcl7 (show 0 < 1 by omega) (zc0 ..) (zW_of 1 C wm_L_34 wc_X7_mappingOf wini_7 wi_X7_mappingOf wse_X7_mappingOf ⟨by decide, by decide, by decide⟩ ⟨by decide, by decide⟩) rfl (Nat.le_of_ble_eq_true rfl) ⟨by decide, by decide⟩ dL_mappingOf_4 rfl (fun E hE => ?_) (fun x M1 hx hPx => ?_)
  · have h9 := hEX E hE
    subst h9
    refine ⟨12, ⟨[], ⟨0, 9, 12, 13⟩, [], xIAE, htb, (fun z hz => by cases hz), by decide, by decide, C.w wcl_L_13 rfl, C.w wca_xIAE rfl, rfl⟩, fun q => ?_⟩
    refine z_astore_n (lv' := [(3, .ref q), (0, .ref (zad G 0 0)), (1, .int (zI a)), (2, .ref (zad G 27 0))]) C 12 dL_mappingOf_12 rfl (by decide) rfl ?_
    refine z_iconst C 13 dL_mappingOf_13 ?_
    exact z_iret C 14 dL_mappingOf_14 (by decide) (by decide) (by decide) (Or.inr ⟨0, xIAE, rfl, rfl, hE, rfl⟩)
  refine z_i2l C 7 dL_mappingOf_7 ?_
  refine zw_last C 8 dL_mappingOf_8 ?_
  refine z_goto C 9 15 dL_mappingOf_9 (by decide) ?_
  refine z_iconst C 15 dL_mappingOf_15 ?_
  exact z_iret C 16 dL_mappingOf_16 (by decide) (by decide) (by decide) (Or.inl ⟨rfl, x, M1, hx, hPx, rfl⟩)
set_option maxHeartbeats 4000000 in
set_option maxRecDepth 100000 in
theorem w_answerLength (l : Launch) (G : zG) (M : zMem) (a : Int) {P : Int → zMem → Prop} {EX : String → Prop} (h0 : vx_Met l yX7_answerLength [.code yX7_answerLength cX7_answerLength 4 (some .int)] (zR 8 1 6) (zPc G M [.ref (zad G 0 0), .int (zI a)]) (zQi G P) (zX G M EX) 1 6 (zA G)) (hEX : ∀ E, EX E → E = xIAE) : Met l yL_answerLength [.codeWith yL_answerLength cL_answerLength 4 (some .int) hh_answerLength] (zR 9 1 6) (zwPc G M [.ref (zad G 0 0), .int (zI a), .ref (zad G 27 0)]) (zQi G (zwP P EX M [xIAE])) 1 6 (zA G) := by
  refine zw_met [(0, .ref (zad G 0 0)), (1, .int (zI a)), (2, .ref (zad G 27 0))] (by decide) (Nat.le_of_ble_eq_true rfl) rfl ?_
  intro p e s m below meth cz C hN htb
  have C : zC p s m ([.ref (zad G 0 0), .int (zI a), .ref (zad G 27 0)] : List Value).toArray meth cz G RL cL_answerLength 4 (some .int) := C
  refine z_aload_n C 0 dL_answerLength_0 rfl 2 rfl ?_
  refine z_iconst C 1 dL_answerLength_1 ?_
  refine z_aload_n C 2 dL_answerLength_2 rfl 0 rfl ?_
  refine z_iload_n C 3 dL_answerLength_3 rfl 1 rfl ?_
  refine zw_callVi C 4 (As := [.int (zI a)]) (rest := [.int (zI 0), .ref (zad G 27 0)]) h0 zcl7 (show 0 < 1 by omega) (zc0 ..) (zW_of 1 C wm_L_37 wc_X7_answerLength wini_7 wi_X7_answerLength wse_X7_answerLength ⟨by decide, by decide, by decide⟩ ⟨by decide, by decide⟩) rfl (Nat.le_of_ble_eq_true rfl) ⟨by decide, by decide⟩ dL_answerLength_4 rfl (fun E hE => ?_) (fun x M1 hx hPx => ?_)
  · have h9 := hEX E hE
    subst h9
    refine ⟨12, ⟨[], ⟨0, 9, 12, 13⟩, [], xIAE, htb, (fun z hz => by cases hz), by decide, by decide, C.w wcl_L_13 rfl, C.w wca_xIAE rfl, rfl⟩, fun q => ?_⟩
    refine z_astore_n (lv' := [(3, .ref q), (0, .ref (zad G 0 0)), (1, .int (zI a)), (2, .ref (zad G 27 0))]) C 12 dL_answerLength_12 rfl (by decide) rfl ?_
    refine z_iconst C 13 dL_answerLength_13 ?_
    exact z_iret C 14 dL_answerLength_14 (by decide) (by decide) (by decide) (Or.inr ⟨0, xIAE, rfl, rfl, hE, rfl⟩)
  refine z_i2l C 7 dL_answerLength_7 ?_
  refine zw_last C 8 dL_answerLength_8 ?_
  refine z_goto C 9 15 dL_answerLength_9 (by decide) ?_
  refine z_iconst C 15 dL_answerLength_15 ?_
  exact z_iret C 16 dL_answerLength_16 (by decide) (by decide) (by decide) (Or.inl ⟨rfl, x, M1, hx, hPx, rfl⟩)
set_option maxHeartbeats 4000000 in
set_option maxRecDepth 100000 in
theorem w_version (l : Launch) (G : zG) (M : zMem) (a : Int) {P : Int → zMem → Prop} {EX : String → Prop} (h0 : vx_Met l yX7_version [.code yX7_version cX7_version 3 (some .int)] (zR 8 1 6) (zPc G M [.ref (zad G 0 0), .int (zI a)]) (zQi G P) (zX G M EX) 1 6 (zA G)) (hEX : ∀ E, EX E → E = xIOB) : Met l yL_version [.codeWith yL_version cL_version 4 (some .int) hh_version] (zR 9 1 6) (zwPc G M [.ref (zad G 0 0), .int (zI a), .ref (zad G 27 0)]) (zQi G (zwP P EX M [xIOB])) 1 6 (zA G) := by
  refine zw_met [(0, .ref (zad G 0 0)), (1, .int (zI a)), (2, .ref (zad G 27 0))] (by decide) (Nat.le_of_ble_eq_true rfl) rfl ?_
  intro p e s m below meth cz C hN htb
  have C : zC p s m ([.ref (zad G 0 0), .int (zI a), .ref (zad G 27 0)] : List Value).toArray meth cz G RL cL_version 4 (some .int) := C
  refine z_aload_n C 0 dL_version_0 rfl 2 rfl ?_
  refine z_iconst C 1 dL_version_1 ?_
  refine z_aload_n C 2 dL_version_2 rfl 0 rfl ?_
  refine z_iload_n C 3 dL_version_3 rfl 1 rfl ?_
  refine zw_callVi C 4 (As := [.int (zI a)]) (rest := [.int (zI 0), .ref (zad G 27 0)]) h0 zcl7 (show 0 < 1 by omega) (zc0 ..) (zW_of 1 C wm_L_40 wc_X7_version wini_7 wi_X7_version wse_X7_version ⟨by decide, by decide, by decide⟩ ⟨by decide, by decide⟩) rfl (Nat.le_of_ble_eq_true rfl) ⟨by decide, by decide⟩ dL_version_4 rfl (fun E hE => ?_) (fun x M1 hx hPx => ?_)
  · have h9 := hEX E hE
    subst h9
    refine ⟨12, ⟨[], ⟨0, 9, 12, 21⟩, [], xIOB, htb, (fun z hz => by cases hz), by decide, by decide, C.w wcl_L_21 rfl, C.w wca_xIOB rfl, rfl⟩, fun q => ?_⟩
    refine z_astore_n (lv' := [(3, .ref q), (0, .ref (zad G 0 0)), (1, .int (zI a)), (2, .ref (zad G 27 0))]) C 12 dL_version_12 rfl (by decide) rfl ?_
    refine z_iconst C 13 dL_version_13 ?_
    exact z_iret C 14 dL_version_14 (by decide) (by decide) (by decide) (Or.inr ⟨0, xIOB, rfl, rfl, hE, rfl⟩)
  refine z_i2l C 7 dL_version_7 ?_
  refine zw_last C 8 dL_version_8 ?_
  refine z_goto C 9 15 dL_version_9 (by decide) ?_
  refine z_iconst C 15 dL_version_15 ?_
  exact z_iret C 16 dL_version_16 (by decide) (by decide) (by decide) (Or.inl ⟨rfl, x, M1, hx, hPx, rfl⟩)
set_option maxHeartbeats 4000000 in
set_option maxRecDepth 100000 in
theorem w_delegate (l : Launch) (G : zG) (M : zMem) (a b c : Int) {P : Int → zMem → Prop} {EX : String → Prop} (h0 : vx_Met l yX7_delegate [.code yX7_delegate cX7_delegate 5 (some .int)] (zR 9 5 30) (zPc G M [.ref (zad G 0 0), .int (zI a), .int (zI b), .int (zI c)]) (zQi G P) (zX G M EX) 5 30 (zA G)) (hEX : ∀ E, EX E → E = xIOB ∨ E = xIAE ∨ E = xISE) : Met l yL_delegate [.codeWith yL_delegate cL_delegate 6 (some .int) hh_delegate] (zR 10 5 30) (zwPc G M [.ref (zad G 0 0), .int (zI a), .int (zI b), .int (zI c), .ref (zad G 27 0)]) (zQi G (zwP P EX M [xIOB, xIAE, xISE])) 5 30 (zA G) := by
  refine zw_met [(0, .ref (zad G 0 0)), (1, .int (zI a)), (2, .int (zI b)), (3, .int (zI c)), (4, .ref (zad G 27 0))] (by decide) (Nat.le_of_ble_eq_true rfl) rfl ?_
  intro p e s m below meth cz C hN htb
  have C : zC p s m ([.ref (zad G 0 0), .int (zI a), .int (zI b), .int (zI c), .ref (zad G 27 0)] : List Value).toArray meth cz G RL cL_delegate 6 (some .int) := C
  refine z_aload C 0 dL_delegate_0 4 rfl ?_
  refine z_iconst C 2 dL_delegate_2 ?_
  refine z_aload_n C 3 dL_delegate_3 rfl 0 rfl ?_
  refine z_iload_n C 4 dL_delegate_4 rfl 1 rfl ?_
  refine z_iload_n C 5 dL_delegate_5 rfl 2 rfl ?_
  refine z_iload_n C 6 dL_delegate_6 rfl 3 rfl ?_
  refine zw_callVi C 7 (As := [.int (zI a), .int (zI b), .int (zI c)]) (rest := [.int (zI 0), .ref (zad G 27 0)]) h0 zcl7 (show 0 < 1 by omega) (zc0 ..) (zW_of 3 C wm_L_43 wc_X7_delegate wini_7 wi_X7_delegate wse_X7_delegate ⟨by decide, by decide, by decide⟩ ⟨by decide, by decide⟩) rfl (Nat.le_of_ble_eq_true rfl) ⟨by decide, by decide⟩ dL_delegate_7 rfl (fun E hE => ?_) (fun x M1 hx hPx => ?_)
  · rcases hEX E hE with h9 | h9 | h9
    · subst h9
      refine ⟨15, ⟨[], ⟨0, 12, 15, 21⟩, [⟨0, 12, 19, 13⟩, ⟨0, 12, 23, 15⟩], xIOB, htb, (fun z hz => by cases hz), by decide, by decide, C.w wcl_L_21 rfl, C.w wca_xIOB rfl, rfl⟩, fun q => ?_⟩
      refine z_astore (lv' := [(5, .ref q), (0, .ref (zad G 0 0)), (1, .int (zI a)), (2, .int (zI b)), (3, .int (zI c)), (4, .ref (zad G 27 0))]) C 15 dL_delegate_15 (by decide) rfl ?_
      refine z_iconst C 17 dL_delegate_17 ?_
      exact z_iret C 18 dL_delegate_18 (by decide) (by decide) (by decide) (Or.inr ⟨0, xIOB, rfl, rfl, hE, rfl⟩)
    · subst h9
      refine ⟨19, ⟨[⟨0, 12, 15, 21⟩], ⟨0, 12, 19, 13⟩, [⟨0, 12, 23, 15⟩], xIAE, htb, (fun z hz => by rcases List.mem_cons.mp hz with rfl | hz; exact Or.inr ⟨by decide, _, C.w wcl_L_21 rfl, hN.1⟩; cases hz), by decide, by decide, C.w wcl_L_13 rfl, C.w wca_xIAE rfl, rfl⟩, fun q => ?_⟩
      refine z_astore (lv' := [(5, .ref q), (0, .ref (zad G 0 0)), (1, .int (zI a)), (2, .int (zI b)), (3, .int (zI c)), (4, .ref (zad G 27 0))]) C 19 dL_delegate_19 (by decide) rfl ?_
      refine z_iconst C 21 dL_delegate_21 ?_
      exact z_iret C 22 dL_delegate_22 (by decide) (by decide) (by decide) (Or.inr ⟨1, xIAE, rfl, rfl, hE, rfl⟩)
    · subst h9
      refine ⟨23, ⟨[⟨0, 12, 15, 21⟩, ⟨0, 12, 19, 13⟩], ⟨0, 12, 23, 15⟩, [], xISE, htb, (fun z hz => by rcases List.mem_cons.mp hz with rfl | hz; exact Or.inr ⟨by decide, _, C.w wcl_L_21 rfl, hN.2.1⟩; rcases List.mem_cons.mp hz with rfl | hz; exact Or.inr ⟨by decide, _, C.w wcl_L_13 rfl, hN.2.2⟩; cases hz), by decide, by decide, C.w wcl_L_15 rfl, C.w wca_xISE rfl, rfl⟩, fun q => ?_⟩
      refine z_astore (lv' := [(5, .ref q), (0, .ref (zad G 0 0)), (1, .int (zI a)), (2, .int (zI b)), (3, .int (zI c)), (4, .ref (zad G 27 0))]) C 23 dL_delegate_23 (by decide) rfl ?_
      refine z_iconst C 25 dL_delegate_25 ?_
      exact z_iret C 26 dL_delegate_26 (by decide) (by decide) (by decide) (Or.inr ⟨2, xISE, rfl, rfl, hE, rfl⟩)
  refine z_i2l C 10 dL_delegate_10 ?_
  refine zw_last C 11 dL_delegate_11 ?_
  refine z_goto C 12 27 dL_delegate_12 (by decide) ?_
  refine z_iconst C 27 dL_delegate_27 ?_
  exact z_iret C 28 dL_delegate_28 (by decide) (by decide) (by decide) (Or.inl ⟨rfl, x, M1, hx, hPx, rfl⟩)
set_option maxHeartbeats 4000000 in
set_option maxRecDepth 100000 in
theorem w_setUp (l : Launch) (G : zG) (M : zMem) (a b : Int) {P : Int → zMem → Prop} {EX : String → Prop} (h0 : vx_Met l yX7_setUp [.code yX7_setUp cX7_setUp 4 (some .boolean)] (zR 8 1 6) (zPc G M [.ref (zad G 0 0), .int (zI a), .int (zI b)]) (zQi G P) (zX G M EX) 1 6 (zA G)) (hEX : ∀ E, EX E → E = xIOB) (hP : ∀ x M1, P x M1 → x = 0 ∨ x = 1) : Met l yL_setUp [.codeWith yL_setUp cL_setUp 5 (some .int) hh_setUp] (zR 9 1 6) (zwPc G M [.ref (zad G 0 0), .int (zI a), .int (zI b), .ref (zad G 27 0)]) (zQi G (zwP P EX M [xIOB])) 1 6 (zA G) := by
  refine zw_met [(0, .ref (zad G 0 0)), (1, .int (zI a)), (2, .int (zI b)), (3, .ref (zad G 27 0))] (by decide) (Nat.le_of_ble_eq_true rfl) rfl ?_
  intro p e s m below meth cz C hN htb
  have C : zC p s m ([.ref (zad G 0 0), .int (zI a), .int (zI b), .ref (zad G 27 0)] : List Value).toArray meth cz G RL cL_setUp 5 (some .int) := C
  refine z_aload_n C 0 dL_setUp_0 rfl 3 rfl ?_
  refine z_iconst C 1 dL_setUp_1 ?_
  refine z_aload_n C 2 dL_setUp_2 rfl 0 rfl ?_
  refine z_iload_n C 3 dL_setUp_3 rfl 1 rfl ?_
  refine z_iload_n C 4 dL_setUp_4 rfl 2 rfl ?_
  refine zw_callVi C 5 (As := [.int (zI a), .int (zI b)]) (rest := [.int (zI 0), .ref (zad G 27 0)]) h0 zcl7 (show 0 < 1 by omega) (zc0 ..) (zW_of 2 C wm_L_46 wc_X7_setUp wini_7 wi_X7_setUp wse_X7_setUp ⟨by decide, by decide, by decide⟩ ⟨by decide, by decide⟩) rfl (Nat.le_of_ble_eq_true rfl) ⟨by decide, by decide⟩ dL_setUp_5 rfl (fun E hE => ?_) (fun x M1 hx hPx => ?_)
  · have h9 := hEX E hE
    subst h9
    refine ⟨20, ⟨[], ⟨0, 17, 20, 21⟩, [], xIOB, htb, (fun z hz => by cases hz), by decide, by decide, C.w wcl_L_21 rfl, C.w wca_xIOB rfl, rfl⟩, fun q => ?_⟩
    refine z_astore (lv' := [(4, .ref q), (0, .ref (zad G 0 0)), (1, .int (zI a)), (2, .int (zI b)), (3, .ref (zad G 27 0))]) C 20 dL_setUp_20 (by decide) rfl ?_
    refine z_iconst C 22 dL_setUp_22 ?_
    exact z_iret C 23 dL_setUp_23 (by decide) (by decide) (by decide) (Or.inr ⟨0, xIOB, rfl, rfl, hE, rfl⟩)
  have hb := hP x M1 hPx
  refine z_if_eq C 8 15 dL_setUp_8 (by decide) hx (fun c1 => ?_) (fun c1 => ?_)
  · have hv : x = 0 := by omega
    subst hv
    refine z_lconst C 15 (x := 0) dL_setUp_15 (by decide +kernel) ?_
    refine zw_last C 16 dL_setUp_16 ?_
    refine z_goto C 17 24 dL_setUp_17 (by decide) ?_
    refine z_iconst C 24 dL_setUp_24 ?_
    exact z_iret C 25 dL_setUp_25 (by decide) (by decide) (by decide) (Or.inl ⟨rfl, 0, M1, hx, hPx, rfl⟩)
  · have hv : x = 1 := by omega
    subst hv
    refine z_lconst C 11 (x := 1) dL_setUp_11 (by decide +kernel) ?_
    refine z_goto C 12 16 dL_setUp_12 (by decide) ?_
    refine zw_last C 16 dL_setUp_16 ?_
    refine z_goto C 17 24 dL_setUp_17 (by decide) ?_
    refine z_iconst C 24 dL_setUp_24 ?_
    exact z_iret C 25 dL_setUp_25 (by decide) (by decide) (by decide) (Or.inl ⟨rfl, 1, M1, hx, hPx, rfl⟩)
set_option maxHeartbeats 4000000 in
set_option maxRecDepth 100000 in
theorem w_serverOf (l : Launch) (G : zG) (M : zMem) (a : Int) {P : Int → zMem → Prop} {EX : String → Prop} (h0 : vx_Met l yX7_serverOf [.code yX7_serverOf cX7_serverOf 2 (some .int)] (zR 8 1 6) (zPc G M [.ref (zad G 0 0), .int (zI a)]) (zQi G P) (zX G M EX) 1 6 (zA G)) (hEX : ∀ E, EX E → E = xIAE) : Met l yL_serverOf [.codeWith yL_serverOf cL_serverOf 4 (some .int) hh_serverOf] (zR 9 1 6) (zwPc G M [.ref (zad G 0 0), .int (zI a), .ref (zad G 27 0)]) (zQi G (zwP P EX M [xIAE])) 1 6 (zA G) := by
  refine zw_met [(0, .ref (zad G 0 0)), (1, .int (zI a)), (2, .ref (zad G 27 0))] (by decide) (Nat.le_of_ble_eq_true rfl) rfl ?_
  intro p e s m below meth cz C hN htb
  have C : zC p s m ([.ref (zad G 0 0), .int (zI a), .ref (zad G 27 0)] : List Value).toArray meth cz G RL cL_serverOf 4 (some .int) := C
  refine z_aload_n C 0 dL_serverOf_0 rfl 2 rfl ?_
  refine z_iconst C 1 dL_serverOf_1 ?_
  refine z_aload_n C 2 dL_serverOf_2 rfl 0 rfl ?_
  refine z_iload_n C 3 dL_serverOf_3 rfl 1 rfl ?_
  refine zw_callVi C 4 (As := [.int (zI a)]) (rest := [.int (zI 0), .ref (zad G 27 0)]) h0 zcl7 (show 0 < 1 by omega) (zc0 ..) (zW_of 1 C wm_L_50 wc_X7_serverOf wini_7 wi_X7_serverOf wse_X7_serverOf ⟨by decide, by decide, by decide⟩ ⟨by decide, by decide⟩) rfl (Nat.le_of_ble_eq_true rfl) ⟨by decide, by decide⟩ dL_serverOf_4 rfl (fun E hE => ?_) (fun x M1 hx hPx => ?_)
  · have h9 := hEX E hE
    subst h9
    refine ⟨12, ⟨[], ⟨0, 9, 12, 13⟩, [], xIAE, htb, (fun z hz => by cases hz), by decide, by decide, C.w wcl_L_13 rfl, C.w wca_xIAE rfl, rfl⟩, fun q => ?_⟩
    refine z_astore_n (lv' := [(3, .ref q), (0, .ref (zad G 0 0)), (1, .int (zI a)), (2, .ref (zad G 27 0))]) C 12 dL_serverOf_12 rfl (by decide) rfl ?_
    refine z_iconst C 13 dL_serverOf_13 ?_
    exact z_iret C 14 dL_serverOf_14 (by decide) (by decide) (by decide) (Or.inr ⟨0, xIAE, rfl, rfl, hE, rfl⟩)
  refine z_i2l C 7 dL_serverOf_7 ?_
  refine zw_last C 8 dL_serverOf_8 ?_
  refine z_goto C 9 15 dL_serverOf_9 (by decide) ?_
  refine z_iconst C 15 dL_serverOf_15 ?_
  exact z_iret C 16 dL_serverOf_16 (by decide) (by decide) (by decide) (Or.inl ⟨rfl, x, M1, hx, hPx, rfl⟩)
set_option maxHeartbeats 4000000 in
set_option maxRecDepth 100000 in
theorem w_answers (l : Launch) (G : zG) (M : zMem) (a : Int) {P : Int → zMem → Prop} {EX : String → Prop} (h0 : vx_Met l yX7_answers [.code yX7_answers cX7_answers 2 (some .int)] (zR 8 1 6) (zPc G M [.ref (zad G 0 0), .int (zI a)]) (zQi G P) (zX G M EX) 1 6 (zA G)) (hEX : ∀ E, EX E → E = xIOB) : Met l yL_answers [.codeWith yL_answers cL_answers 4 (some .int) hh_answers] (zR 9 1 6) (zwPc G M [.ref (zad G 0 0), .int (zI a), .ref (zad G 27 0)]) (zQi G (zwP P EX M [xIOB])) 1 6 (zA G) := by
  refine zw_met [(0, .ref (zad G 0 0)), (1, .int (zI a)), (2, .ref (zad G 27 0))] (by decide) (Nat.le_of_ble_eq_true rfl) rfl ?_
  intro p e s m below meth cz C hN htb
  have C : zC p s m ([.ref (zad G 0 0), .int (zI a), .ref (zad G 27 0)] : List Value).toArray meth cz G RL cL_answers 4 (some .int) := C
  refine z_aload_n C 0 dL_answers_0 rfl 2 rfl ?_
  refine z_iconst C 1 dL_answers_1 ?_
  refine z_aload_n C 2 dL_answers_2 rfl 0 rfl ?_
  refine z_iload_n C 3 dL_answers_3 rfl 1 rfl ?_
  refine zw_callVi C 4 (As := [.int (zI a)]) (rest := [.int (zI 0), .ref (zad G 27 0)]) h0 zcl7 (show 0 < 1 by omega) (zc0 ..) (zW_of 1 C wm_L_53 wc_X7_answers wini_7 wi_X7_answers wse_X7_answers ⟨by decide, by decide, by decide⟩ ⟨by decide, by decide⟩) rfl (Nat.le_of_ble_eq_true rfl) ⟨by decide, by decide⟩ dL_answers_4 rfl (fun E hE => ?_) (fun x M1 hx hPx => ?_)
  · have h9 := hEX E hE
    subst h9
    refine ⟨12, ⟨[], ⟨0, 9, 12, 21⟩, [], xIOB, htb, (fun z hz => by cases hz), by decide, by decide, C.w wcl_L_21 rfl, C.w wca_xIOB rfl, rfl⟩, fun q => ?_⟩
    refine z_astore_n (lv' := [(3, .ref q), (0, .ref (zad G 0 0)), (1, .int (zI a)), (2, .ref (zad G 27 0))]) C 12 dL_answers_12 rfl (by decide) rfl ?_
    refine z_iconst C 13 dL_answers_13 ?_
    exact z_iret C 14 dL_answers_14 (by decide) (by decide) (by decide) (Or.inr ⟨0, xIOB, rfl, rfl, hE, rfl⟩)
  refine z_i2l C 7 dL_answers_7 ?_
  refine zw_last C 8 dL_answers_8 ?_
  refine z_goto C 9 15 dL_answers_9 (by decide) ?_
  refine z_iconst C 15 dL_answers_15 ?_
  exact z_iret C 16 dL_answers_16 (by decide) (by decide) (by decide) (Or.inl ⟨rfl, x, M1, hx, hPx, rfl⟩)
set_option maxHeartbeats 4000000 in
set_option maxRecDepth 100000 in
theorem w_send (l : Launch) (G : zG) (M : zMem) (a b : Int) {P : Int → zMem → Prop} {EX : String → Prop} (h0 : vx_Met l yX7_send [.code yX7_send cX7_send 6 (some .int)] (zR 8 2 12) (zPc G M [.ref (zad G 0 0), .int (zI a), .int (zI b)]) (zQi G P) (zX G M EX) 2 12 (zA G)) (hEX : ∀ E, EX E → E = xIOB ∨ E = xIAE) : Met l yL_send [.codeWith yL_send cL_send 5 (some .int) hh_send] (zR 9 2 12) (zwPc G M [.ref (zad G 0 0), .int (zI a), .int (zI b), .ref (zad G 27 0)]) (zQi G (zwP P EX M [xIOB, xIAE])) 2 12 (zA G) := by
  refine zw_met [(0, .ref (zad G 0 0)), (1, .int (zI a)), (2, .int (zI b)), (3, .ref (zad G 27 0))] (by decide) (Nat.le_of_ble_eq_true rfl) rfl ?_
  intro p e s m below meth cz C hN htb
  have C : zC p s m ([.ref (zad G 0 0), .int (zI a), .int (zI b), .ref (zad G 27 0)] : List Value).toArray meth cz G RL cL_send 5 (some .int) := C
  refine z_aload_n C 0 dL_send_0 rfl 3 rfl ?_
  refine z_iconst C 1 dL_send_1 ?_
  refine z_aload_n C 2 dL_send_2 rfl 0 rfl ?_
  refine z_iload_n C 3 dL_send_3 rfl 1 rfl ?_
  refine z_iload_n C 4 dL_send_4 rfl 2 rfl ?_
  refine zw_callVi C 5 (As := [.int (zI a), .int (zI b)]) (rest := [.int (zI 0), .ref (zad G 27 0)]) h0 zcl7 (show 0 < 1 by omega) (zc0 ..) (zW_of 2 C wm_L_56 wc_X7_send wini_7 wi_X7_send wse_X7_send ⟨by decide, by decide, by decide⟩ ⟨by decide, by decide⟩) rfl (Nat.le_of_ble_eq_true rfl) ⟨by decide, by decide⟩ dL_send_5 rfl (fun E hE => ?_) (fun x M1 hx hPx => ?_)
  · rcases hEX E hE with h9 | h9
    · subst h9
      refine ⟨13, ⟨[], ⟨0, 10, 13, 21⟩, [⟨0, 10, 17, 13⟩], xIOB, htb, (fun z hz => by cases hz), by decide, by decide, C.w wcl_L_21 rfl, C.w wca_xIOB rfl, rfl⟩, fun q => ?_⟩
      refine z_astore (lv' := [(4, .ref q), (0, .ref (zad G 0 0)), (1, .int (zI a)), (2, .int (zI b)), (3, .ref (zad G 27 0))]) C 13 dL_send_13 (by decide) rfl ?_
      refine z_iconst C 15 dL_send_15 ?_
      exact z_iret C 16 dL_send_16 (by decide) (by decide) (by decide) (Or.inr ⟨0, xIOB, rfl, rfl, hE, rfl⟩)
    · subst h9
      refine ⟨17, ⟨[⟨0, 10, 13, 21⟩], ⟨0, 10, 17, 13⟩, [], xIAE, htb, (fun z hz => by rcases List.mem_cons.mp hz with rfl | hz; exact Or.inr ⟨by decide, _, C.w wcl_L_21 rfl, hN.1⟩; cases hz), by decide, by decide, C.w wcl_L_13 rfl, C.w wca_xIAE rfl, rfl⟩, fun q => ?_⟩
      refine z_astore (lv' := [(4, .ref q), (0, .ref (zad G 0 0)), (1, .int (zI a)), (2, .int (zI b)), (3, .ref (zad G 27 0))]) C 17 dL_send_17 (by decide) rfl ?_
      refine z_iconst C 19 dL_send_19 ?_
      exact z_iret C 20 dL_send_20 (by decide) (by decide) (by decide) (Or.inr ⟨1, xIAE, rfl, rfl, hE, rfl⟩)
  refine z_i2l C 8 dL_send_8 ?_
  refine zw_last C 9 dL_send_9 ?_
  refine z_goto C 10 21 dL_send_10 (by decide) ?_
  refine z_iconst C 21 dL_send_21 ?_
  exact z_iret C 22 dL_send_22 (by decide) (by decide) (by decide) (Or.inl ⟨rfl, x, M1, hx, hPx, rfl⟩)
set_option maxHeartbeats 4000000 in
set_option maxRecDepth 100000 in
theorem w_probe (l : Launch) (G : zG) (M : zMem) (a b c : Int) {P : Int → zMem → Prop} {EX : String → Prop} (h0 : vx_Met l yX7_probe [.code yX7_probe cX7_probe 5 (some .int)] (zR 8 2 12) (zPc G M [.ref (zad G 0 0), .int (zI a), .int (zI b), .int (zI c)]) (zQi G P) (zX G M EX) 2 12 (zA G)) (hEX : ∀ E, EX E → E = xIOB ∨ E = xIAE) : Met l yL_probe [.codeWith yL_probe cL_probe 6 (some .int) hh_probe] (zR 9 2 12) (zwPc G M [.ref (zad G 0 0), .int (zI a), .int (zI b), .int (zI c), .ref (zad G 27 0)]) (zQi G (zwP P EX M [xIOB, xIAE])) 2 12 (zA G) := by
  refine zw_met [(0, .ref (zad G 0 0)), (1, .int (zI a)), (2, .int (zI b)), (3, .int (zI c)), (4, .ref (zad G 27 0))] (by decide) (Nat.le_of_ble_eq_true rfl) rfl ?_
  intro p e s m below meth cz C hN htb
  have C : zC p s m ([.ref (zad G 0 0), .int (zI a), .int (zI b), .int (zI c), .ref (zad G 27 0)] : List Value).toArray meth cz G RL cL_probe 6 (some .int) := C
  refine z_aload C 0 dL_probe_0 4 rfl ?_
  refine z_iconst C 2 dL_probe_2 ?_
  refine z_aload_n C 3 dL_probe_3 rfl 0 rfl ?_
  refine z_iload_n C 4 dL_probe_4 rfl 1 rfl ?_
  refine z_iload_n C 5 dL_probe_5 rfl 2 rfl ?_
  refine z_iload_n C 6 dL_probe_6 rfl 3 rfl ?_
  refine zw_callVi C 7 (As := [.int (zI a), .int (zI b), .int (zI c)]) (rest := [.int (zI 0), .ref (zad G 27 0)]) h0 zcl7 (show 0 < 1 by omega) (zc0 ..) (zW_of 3 C wm_L_59 wc_X7_probe wini_7 wi_X7_probe wse_X7_probe ⟨by decide, by decide, by decide⟩ ⟨by decide, by decide⟩) rfl (Nat.le_of_ble_eq_true rfl) ⟨by decide, by decide⟩ dL_probe_7 rfl (fun E hE => ?_) (fun x M1 hx hPx => ?_)
  · rcases hEX E hE with h9 | h9
    · subst h9
      refine ⟨15, ⟨[], ⟨0, 12, 15, 21⟩, [⟨0, 12, 19, 13⟩], xIOB, htb, (fun z hz => by cases hz), by decide, by decide, C.w wcl_L_21 rfl, C.w wca_xIOB rfl, rfl⟩, fun q => ?_⟩
      refine z_astore (lv' := [(5, .ref q), (0, .ref (zad G 0 0)), (1, .int (zI a)), (2, .int (zI b)), (3, .int (zI c)), (4, .ref (zad G 27 0))]) C 15 dL_probe_15 (by decide) rfl ?_
      refine z_iconst C 17 dL_probe_17 ?_
      exact z_iret C 18 dL_probe_18 (by decide) (by decide) (by decide) (Or.inr ⟨0, xIOB, rfl, rfl, hE, rfl⟩)
    · subst h9
      refine ⟨19, ⟨[⟨0, 12, 15, 21⟩], ⟨0, 12, 19, 13⟩, [], xIAE, htb, (fun z hz => by rcases List.mem_cons.mp hz with rfl | hz; exact Or.inr ⟨by decide, _, C.w wcl_L_21 rfl, hN.1⟩; cases hz), by decide, by decide, C.w wcl_L_13 rfl, C.w wca_xIAE rfl, rfl⟩, fun q => ?_⟩
      refine z_astore (lv' := [(5, .ref q), (0, .ref (zad G 0 0)), (1, .int (zI a)), (2, .int (zI b)), (3, .int (zI c)), (4, .ref (zad G 27 0))]) C 19 dL_probe_19 (by decide) rfl ?_
      refine z_iconst C 21 dL_probe_21 ?_
      exact z_iret C 22 dL_probe_22 (by decide) (by decide) (by decide) (Or.inr ⟨1, xIAE, rfl, rfl, hE, rfl⟩)
  refine z_i2l C 10 dL_probe_10 ?_
  refine zw_last C 11 dL_probe_11 ?_
  refine z_goto C 12 23 dL_probe_12 (by decide) ?_
  refine z_iconst C 23 dL_probe_23 ?_
  exact z_iret C 24 dL_probe_24 (by decide) (by decide) (by decide) (Or.inl ⟨rfl, x, M1, hx, hPx, rfl⟩)
set_option maxHeartbeats 4000000 in
set_option maxRecDepth 100000 in
theorem w_setLifetimes (l : Launch) (G : zG) (M : zMem) (a b : Int) {P : Int → zMem → Prop} {EX : String → Prop} (h0 : vx_Met l yX7_setLifetimes [.code yX7_setLifetimes cX7_setLifetimes 4 (some .int)] (zR 8 2 12) (zPc G M [.ref (zad G 0 0), .int (zI a), .int (zI b)]) (zQi G P) (zX G M EX) 2 12 (zA G)) (hEX : ∀ E, EX E → E = xIAE) : Met l yL_setLifetimes [.codeWith yL_setLifetimes cL_setLifetimes 5 (some .int) hh_setLifetimes] (zR 9 2 12) (zwPc G M [.ref (zad G 0 0), .int (zI a), .int (zI b), .ref (zad G 27 0)]) (zQi G (zwP P EX M [xIAE])) 2 12 (zA G) := by
  refine zw_met [(0, .ref (zad G 0 0)), (1, .int (zI a)), (2, .int (zI b)), (3, .ref (zad G 27 0))] (by decide) (Nat.le_of_ble_eq_true rfl) rfl ?_
  intro p e s m below meth cz C hN htb
  have C : zC p s m ([.ref (zad G 0 0), .int (zI a), .int (zI b), .ref (zad G 27 0)] : List Value).toArray meth cz G RL cL_setLifetimes 5 (some .int) := C
  refine z_aload_n C 0 dL_setLifetimes_0 rfl 3 rfl ?_
  refine z_iconst C 1 dL_setLifetimes_1 ?_
  refine z_aload_n C 2 dL_setLifetimes_2 rfl 0 rfl ?_
  refine z_iload_n C 3 dL_setLifetimes_3 rfl 1 rfl ?_
  refine z_iload_n C 4 dL_setLifetimes_4 rfl 2 rfl ?_
  refine zw_callVi C 5 (As := [.int (zI a), .int (zI b)]) (rest := [.int (zI 0), .ref (zad G 27 0)]) h0 zcl7 (show 0 < 1 by omega) (zc0 ..) (zW_of 2 C wm_L_63 wc_X7_setLifetimes wini_7 wi_X7_setLifetimes wse_X7_setLifetimes ⟨by decide, by decide, by decide⟩ ⟨by decide, by decide⟩) rfl (Nat.le_of_ble_eq_true rfl) ⟨by decide, by decide⟩ dL_setLifetimes_5 rfl (fun E hE => ?_) (fun x M1 hx hPx => ?_)
  · have h9 := hEX E hE
    subst h9
    refine ⟨13, ⟨[], ⟨0, 10, 13, 13⟩, [], xIAE, htb, (fun z hz => by cases hz), by decide, by decide, C.w wcl_L_13 rfl, C.w wca_xIAE rfl, rfl⟩, fun q => ?_⟩
    refine z_astore (lv' := [(4, .ref q), (0, .ref (zad G 0 0)), (1, .int (zI a)), (2, .int (zI b)), (3, .ref (zad G 27 0))]) C 13 dL_setLifetimes_13 (by decide) rfl ?_
    refine z_iconst C 15 dL_setLifetimes_15 ?_
    exact z_iret C 16 dL_setLifetimes_16 (by decide) (by decide) (by decide) (Or.inr ⟨0, xIAE, rfl, rfl, hE, rfl⟩)
  refine z_i2l C 8 dL_setLifetimes_8 ?_
  refine zw_last C 9 dL_setLifetimes_9 ?_
  refine z_goto C 10 17 dL_setLifetimes_10 (by decide) ?_
  refine z_iconst C 17 dL_setLifetimes_17 ?_
  exact z_iret C 18 dL_setLifetimes_18 (by decide) (by decide) (by decide) (Or.inl ⟨rfl, x, M1, hx, hPx, rfl⟩)
set_option maxHeartbeats 4000000 in
set_option maxRecDepth 100000 in
theorem w_pass (l : Launch) (G : zG) (M : zMem) (a : Int) {P : Int → zMem → Prop} {EX : String → Prop} (h0 : vx_Met l yX7_pass [.code yX7_pass cX7_pass 2 (some .int)] (zR 8 1 6) (zPc G M [.ref (zad G 0 0), .int (zI a)]) (zQi G P) (zX G M EX) 1 6 (zA G)) (hEX : ∀ E, EX E → E = xIAE) : Met l yL_pass [.codeWith yL_pass cL_pass 4 (some .int) hh_pass] (zR 9 1 6) (zwPc G M [.ref (zad G 0 0), .int (zI a), .ref (zad G 27 0)]) (zQi G (zwP P EX M [xIAE])) 1 6 (zA G) := by
  refine zw_met [(0, .ref (zad G 0 0)), (1, .int (zI a)), (2, .ref (zad G 27 0))] (by decide) (Nat.le_of_ble_eq_true rfl) rfl ?_
  intro p e s m below meth cz C hN htb
  have C : zC p s m ([.ref (zad G 0 0), .int (zI a), .ref (zad G 27 0)] : List Value).toArray meth cz G RL cL_pass 4 (some .int) := C
  refine z_aload_n C 0 dL_pass_0 rfl 2 rfl ?_
  refine z_iconst C 1 dL_pass_1 ?_
  refine z_aload_n C 2 dL_pass_2 rfl 0 rfl ?_
  refine z_iload_n C 3 dL_pass_3 rfl 1 rfl ?_
  refine zw_callVi C 4 (As := [.int (zI a)]) (rest := [.int (zI 0), .ref (zad G 27 0)]) h0 zcl7 (show 0 < 1 by omega) (zc0 ..) (zW_of 1 C wm_L_66 wc_X7_pass wini_7 wi_X7_pass wse_X7_pass ⟨by decide, by decide, by decide⟩ ⟨by decide, by decide⟩) rfl (Nat.le_of_ble_eq_true rfl) ⟨by decide, by decide⟩ dL_pass_4 rfl (fun E hE => ?_) (fun x M1 hx hPx => ?_)
  · have h9 := hEX E hE
    subst h9
    refine ⟨12, ⟨[], ⟨0, 9, 12, 13⟩, [], xIAE, htb, (fun z hz => by cases hz), by decide, by decide, C.w wcl_L_13 rfl, C.w wca_xIAE rfl, rfl⟩, fun q => ?_⟩
    refine z_astore_n (lv' := [(3, .ref q), (0, .ref (zad G 0 0)), (1, .int (zI a)), (2, .ref (zad G 27 0))]) C 12 dL_pass_12 rfl (by decide) rfl ?_
    refine z_iconst C 13 dL_pass_13 ?_
    exact z_iret C 14 dL_pass_14 (by decide) (by decide) (by decide) (Or.inr ⟨0, xIAE, rfl, rfl, hE, rfl⟩)
  refine z_i2l C 7 dL_pass_7 ?_
  refine zw_last C 8 dL_pass_8 ?_
  refine z_goto C 9 15 dL_pass_9 (by decide) ?_
  refine z_iconst C 15 dL_pass_15 ?_
  exact z_iret C 16 dL_pass_16 (by decide) (by decide) (by decide) (Or.inl ⟨rfl, x, M1, hx, hPx, rfl⟩)
set_option maxHeartbeats 4000000 in
set_option maxRecDepth 100000 in
theorem w_entries (l : Launch) (G : zG) (M : zMem) (a : Int) {P : Int → zMem → Prop} {EX : String → Prop} (h0 : vx_Met l yX7_entries [.code yX7_entries cX7_entries 2 (some .int)] (zR 8 1 6) (zPc G M [.ref (zad G 0 0), .int (zI a)]) (zQi G P) (zX G M EX) 1 6 (zA G)) (hEX : ∀ E, EX E → E = xIOB) : Met l yL_entries [.codeWith yL_entries cL_entries 4 (some .int) hh_entries] (zR 9 1 6) (zwPc G M [.ref (zad G 0 0), .int (zI a), .ref (zad G 27 0)]) (zQi G (zwP P EX M [xIOB])) 1 6 (zA G) := by
  refine zw_met [(0, .ref (zad G 0 0)), (1, .int (zI a)), (2, .ref (zad G 27 0))] (by decide) (Nat.le_of_ble_eq_true rfl) rfl ?_
  intro p e s m below meth cz C hN htb
  have C : zC p s m ([.ref (zad G 0 0), .int (zI a), .ref (zad G 27 0)] : List Value).toArray meth cz G RL cL_entries 4 (some .int) := C
  refine z_aload_n C 0 dL_entries_0 rfl 2 rfl ?_
  refine z_iconst C 1 dL_entries_1 ?_
  refine z_aload_n C 2 dL_entries_2 rfl 0 rfl ?_
  refine z_iload_n C 3 dL_entries_3 rfl 1 rfl ?_
  refine zw_callVi C 4 (As := [.int (zI a)]) (rest := [.int (zI 0), .ref (zad G 27 0)]) h0 zcl7 (show 0 < 1 by omega) (zc0 ..) (zW_of 1 C wm_L_69 wc_X7_entries wini_7 wi_X7_entries wse_X7_entries ⟨by decide, by decide, by decide⟩ ⟨by decide, by decide⟩) rfl (Nat.le_of_ble_eq_true rfl) ⟨by decide, by decide⟩ dL_entries_4 rfl (fun E hE => ?_) (fun x M1 hx hPx => ?_)
  · have h9 := hEX E hE
    subst h9
    refine ⟨12, ⟨[], ⟨0, 9, 12, 21⟩, [], xIOB, htb, (fun z hz => by cases hz), by decide, by decide, C.w wcl_L_21 rfl, C.w wca_xIOB rfl, rfl⟩, fun q => ?_⟩
    refine z_astore_n (lv' := [(3, .ref q), (0, .ref (zad G 0 0)), (1, .int (zI a)), (2, .ref (zad G 27 0))]) C 12 dL_entries_12 rfl (by decide) rfl ?_
    refine z_iconst C 13 dL_entries_13 ?_
    exact z_iret C 14 dL_entries_14 (by decide) (by decide) (by decide) (Or.inr ⟨0, xIOB, rfl, rfl, hE, rfl⟩)
  refine z_i2l C 7 dL_entries_7 ?_
  refine zw_last C 8 dL_entries_8 ?_
  refine z_goto C 9 15 dL_entries_9 (by decide) ?_
  refine z_iconst C 15 dL_entries_15 ?_
  exact z_iret C 16 dL_entries_16 (by decide) (by decide) (by decide) (Or.inl ⟨rfl, x, M1, hx, hPx, rfl⟩)
set_option maxHeartbeats 4000000 in
set_option maxRecDepth 100000 in
theorem w_prefixOf (l : Launch) (G : zG) (M : zMem) (a b : Int) {P : Int → zMem → Prop} {EX : String → Prop} (h0 : vx_Met l yX7_prefixOf [.code yX7_prefixOf cX7_prefixOf 4 (some .int)] (zR 9 2 12) (zPc G M [.ref (zad G 0 0), .int (zI a), .int (zI b)]) (zQi G P) (zX G M EX) 2 12 (zA G)) (hEX : ∀ E, EX E → E = xIOB) : Met l yL_prefixOf [.codeWith yL_prefixOf cL_prefixOf 5 (some .int) hh_prefixOf] (zR 10 2 12) (zwPc G M [.ref (zad G 0 0), .int (zI a), .int (zI b), .ref (zad G 27 0)]) (zQi G (zwP P EX M [xIOB])) 2 12 (zA G) := by
  refine zw_met [(0, .ref (zad G 0 0)), (1, .int (zI a)), (2, .int (zI b)), (3, .ref (zad G 27 0))] (by decide) (Nat.le_of_ble_eq_true rfl) rfl ?_
  intro p e s m below meth cz C hN htb
  have C : zC p s m ([.ref (zad G 0 0), .int (zI a), .int (zI b), .ref (zad G 27 0)] : List Value).toArray meth cz G RL cL_prefixOf 5 (some .int) := C
  refine z_aload_n C 0 dL_prefixOf_0 rfl 3 rfl ?_
  refine z_iconst C 1 dL_prefixOf_1 ?_
  refine z_aload_n C 2 dL_prefixOf_2 rfl 0 rfl ?_
  refine z_iload_n C 3 dL_prefixOf_3 rfl 1 rfl ?_
  refine z_iload_n C 4 dL_prefixOf_4 rfl 2 rfl ?_
  refine zw_callVi C 5 (As := [.int (zI a), .int (zI b)]) (rest := [.int (zI 0), .ref (zad G 27 0)]) h0 zcl7 (show 0 < 1 by omega) (zc0 ..) (zW_of 2 C wm_L_72 wc_X7_prefixOf wini_7 wi_X7_prefixOf wse_X7_prefixOf ⟨by decide, by decide, by decide⟩ ⟨by decide, by decide⟩) rfl (Nat.le_of_ble_eq_true rfl) ⟨by decide, by decide⟩ dL_prefixOf_5 rfl (fun E hE => ?_) (fun x M1 hx hPx => ?_)
  · have h9 := hEX E hE
    subst h9
    refine ⟨13, ⟨[], ⟨0, 10, 13, 21⟩, [], xIOB, htb, (fun z hz => by cases hz), by decide, by decide, C.w wcl_L_21 rfl, C.w wca_xIOB rfl, rfl⟩, fun q => ?_⟩
    refine z_astore (lv' := [(4, .ref q), (0, .ref (zad G 0 0)), (1, .int (zI a)), (2, .int (zI b)), (3, .ref (zad G 27 0))]) C 13 dL_prefixOf_13 (by decide) rfl ?_
    refine z_iconst C 15 dL_prefixOf_15 ?_
    exact z_iret C 16 dL_prefixOf_16 (by decide) (by decide) (by decide) (Or.inr ⟨0, xIOB, rfl, rfl, hE, rfl⟩)
  refine z_i2l C 8 dL_prefixOf_8 ?_
  refine zw_last C 9 dL_prefixOf_9 ?_
  refine z_goto C 10 17 dL_prefixOf_10 (by decide) ?_
  refine z_iconst C 17 dL_prefixOf_17 ?_
  exact z_iret C 18 dL_prefixOf_18 (by decide) (by decide) (by decide) (Or.inl ⟨rfl, x, M1, hx, hPx, rfl⟩)
set_option maxHeartbeats 4000000 in
set_option maxRecDepth 100000 in
theorem w_mappingAt (l : Launch) (G : zG) (M : zMem) (a b : Int) {P : Int → zMem → Prop} {EX : String → Prop} (h0 : vx_Met l yX7_mappingAt [.code yX7_mappingAt cX7_mappingAt 4 (some .int)] (zR 9 2 12) (zPc G M [.ref (zad G 0 0), .int (zI a), .int (zI b)]) (zQi G P) (zX G M EX) 2 12 (zA G)) (hEX : ∀ E, EX E → E = xIOB) : Met l yL_mappingAt [.codeWith yL_mappingAt cL_mappingAt 5 (some .int) hh_mappingAt] (zR 10 2 12) (zwPc G M [.ref (zad G 0 0), .int (zI a), .int (zI b), .ref (zad G 27 0)]) (zQi G (zwP P EX M [xIOB])) 2 12 (zA G) := by
  refine zw_met [(0, .ref (zad G 0 0)), (1, .int (zI a)), (2, .int (zI b)), (3, .ref (zad G 27 0))] (by decide) (Nat.le_of_ble_eq_true rfl) rfl ?_
  intro p e s m below meth cz C hN htb
  have C : zC p s m ([.ref (zad G 0 0), .int (zI a), .int (zI b), .ref (zad G 27 0)] : List Value).toArray meth cz G RL cL_mappingAt 5 (some .int) := C
  refine z_aload_n C 0 dL_mappingAt_0 rfl 3 rfl ?_
  refine z_iconst C 1 dL_mappingAt_1 ?_
  refine z_aload_n C 2 dL_mappingAt_2 rfl 0 rfl ?_
  refine z_iload_n C 3 dL_mappingAt_3 rfl 1 rfl ?_
  refine z_iload_n C 4 dL_mappingAt_4 rfl 2 rfl ?_
  refine zw_callVi C 5 (As := [.int (zI a), .int (zI b)]) (rest := [.int (zI 0), .ref (zad G 27 0)]) h0 zcl7 (show 0 < 1 by omega) (zc0 ..) (zW_of 2 C wm_L_75 wc_X7_mappingAt wini_7 wi_X7_mappingAt wse_X7_mappingAt ⟨by decide, by decide, by decide⟩ ⟨by decide, by decide⟩) rfl (Nat.le_of_ble_eq_true rfl) ⟨by decide, by decide⟩ dL_mappingAt_5 rfl (fun E hE => ?_) (fun x M1 hx hPx => ?_)
  · have h9 := hEX E hE
    subst h9
    refine ⟨13, ⟨[], ⟨0, 10, 13, 21⟩, [], xIOB, htb, (fun z hz => by cases hz), by decide, by decide, C.w wcl_L_21 rfl, C.w wca_xIOB rfl, rfl⟩, fun q => ?_⟩
    refine z_astore (lv' := [(4, .ref q), (0, .ref (zad G 0 0)), (1, .int (zI a)), (2, .int (zI b)), (3, .ref (zad G 27 0))]) C 13 dL_mappingAt_13 (by decide) rfl ?_
    refine z_iconst C 15 dL_mappingAt_15 ?_
    exact z_iret C 16 dL_mappingAt_16 (by decide) (by decide) (by decide) (Or.inr ⟨0, xIOB, rfl, rfl, hE, rfl⟩)
  refine z_i2l C 8 dL_mappingAt_8 ?_
  refine zw_last C 9 dL_mappingAt_9 ?_
  refine z_goto C 10 17 dL_mappingAt_10 (by decide) ?_
  refine z_iconst C 17 dL_mappingAt_17 ?_
  exact z_iret C 18 dL_mappingAt_18 (by decide) (by decide) (by decide) (Or.inl ⟨rfl, x, M1, hx, hPx, rfl⟩)
set_option maxHeartbeats 4000000 in
set_option maxRecDepth 100000 in
theorem w_lasts (l : Launch) (G : zG) (M : zMem) (a b : Int) {P : Int → zMem → Prop} {EX : String → Prop} (h0 : vx_Met l yX7_lasts [.code yX7_lasts cX7_lasts 4 (some .int)] (zR 9 2 12) (zPc G M [.ref (zad G 0 0), .int (zI a), .int (zI b)]) (zQi G P) (zX G M EX) 2 12 (zA G)) (hEX : ∀ E, EX E → E = xIOB) : Met l yL_lasts [.codeWith yL_lasts cL_lasts 5 (some .int) hh_lasts] (zR 10 2 12) (zwPc G M [.ref (zad G 0 0), .int (zI a), .int (zI b), .ref (zad G 27 0)]) (zQi G (zwP P EX M [xIOB])) 2 12 (zA G) := by
  refine zw_met [(0, .ref (zad G 0 0)), (1, .int (zI a)), (2, .int (zI b)), (3, .ref (zad G 27 0))] (by decide) (Nat.le_of_ble_eq_true rfl) rfl ?_
  intro p e s m below meth cz C hN htb
  have C : zC p s m ([.ref (zad G 0 0), .int (zI a), .int (zI b), .ref (zad G 27 0)] : List Value).toArray meth cz G RL cL_lasts 5 (some .int) := C
  refine z_aload_n C 0 dL_lasts_0 rfl 3 rfl ?_
  refine z_iconst C 1 dL_lasts_1 ?_
  refine z_aload_n C 2 dL_lasts_2 rfl 0 rfl ?_
  refine z_iload_n C 3 dL_lasts_3 rfl 1 rfl ?_
  refine z_iload_n C 4 dL_lasts_4 rfl 2 rfl ?_
  refine zw_callVi C 5 (As := [.int (zI a), .int (zI b)]) (rest := [.int (zI 0), .ref (zad G 27 0)]) h0 zcl7 (show 0 < 1 by omega) (zc0 ..) (zW_of 2 C wm_L_78 wc_X7_lasts wini_7 wi_X7_lasts wse_X7_lasts ⟨by decide, by decide, by decide⟩ ⟨by decide, by decide⟩) rfl (Nat.le_of_ble_eq_true rfl) ⟨by decide, by decide⟩ dL_lasts_5 rfl (fun E hE => ?_) (fun x M1 hx hPx => ?_)
  · have h9 := hEX E hE
    subst h9
    refine ⟨13, ⟨[], ⟨0, 10, 13, 21⟩, [], xIOB, htb, (fun z hz => by cases hz), by decide, by decide, C.w wcl_L_21 rfl, C.w wca_xIOB rfl, rfl⟩, fun q => ?_⟩
    refine z_astore (lv' := [(4, .ref q), (0, .ref (zad G 0 0)), (1, .int (zI a)), (2, .int (zI b)), (3, .ref (zad G 27 0))]) C 13 dL_lasts_13 (by decide) rfl ?_
    refine z_iconst C 15 dL_lasts_15 ?_
    exact z_iret C 16 dL_lasts_16 (by decide) (by decide) (by decide) (Or.inr ⟨0, xIOB, rfl, rfl, hE, rfl⟩)
  refine z_i2l C 8 dL_lasts_8 ?_
  refine zw_last C 9 dL_lasts_9 ?_
  refine z_goto C 10 17 dL_lasts_10 (by decide) ?_
  refine z_iconst C 17 dL_lasts_17 ?_
  exact z_iret C 18 dL_lasts_18 (by decide) (by decide) (by decide) (Or.inl ⟨rfl, x, M1, hx, hPx, rfl⟩)
set_option maxHeartbeats 4000000 in
set_option maxRecDepth 100000 in
theorem w_packetsTo (l : Launch) (G : zG) (M : zMem) (a b c : Int) {P : Int → zMem → Prop} {EX : String → Prop} (h0 : vx_Met l yX7_packetsTo [.code yX7_packetsTo cX7_packetsTo 6 (some .int)] (zR 9 3 18) (zPc G M [.ref (zad G 0 0), .int (zI a), .int (zI b), .int (zI c)]) (zQi G P) (zX G M EX) 3 18 (zA G)) (hEX : ∀ E, EX E → E = xIOB ∨ E = xIAE) : Met l yL_packetsTo [.codeWith yL_packetsTo cL_packetsTo 6 (some .int) hh_packetsTo] (zR 10 3 18) (zwPc G M [.ref (zad G 0 0), .int (zI a), .int (zI b), .int (zI c), .ref (zad G 27 0)]) (zQi G (zwP P EX M [xIOB, xIAE])) 3 18 (zA G) := by
  refine zw_met [(0, .ref (zad G 0 0)), (1, .int (zI a)), (2, .int (zI b)), (3, .int (zI c)), (4, .ref (zad G 27 0))] (by decide) (Nat.le_of_ble_eq_true rfl) rfl ?_
  intro p e s m below meth cz C hN htb
  have C : zC p s m ([.ref (zad G 0 0), .int (zI a), .int (zI b), .int (zI c), .ref (zad G 27 0)] : List Value).toArray meth cz G RL cL_packetsTo 6 (some .int) := C
  refine z_aload C 0 dL_packetsTo_0 4 rfl ?_
  refine z_iconst C 2 dL_packetsTo_2 ?_
  refine z_aload_n C 3 dL_packetsTo_3 rfl 0 rfl ?_
  refine z_iload_n C 4 dL_packetsTo_4 rfl 1 rfl ?_
  refine z_iload_n C 5 dL_packetsTo_5 rfl 2 rfl ?_
  refine z_iload_n C 6 dL_packetsTo_6 rfl 3 rfl ?_
  refine zw_callVi C 7 (As := [.int (zI a), .int (zI b), .int (zI c)]) (rest := [.int (zI 0), .ref (zad G 27 0)]) h0 zcl7 (show 0 < 1 by omega) (zc0 ..) (zW_of 3 C wm_L_81 wc_X7_packetsTo wini_7 wi_X7_packetsTo wse_X7_packetsTo ⟨by decide, by decide, by decide⟩ ⟨by decide, by decide⟩) rfl (Nat.le_of_ble_eq_true rfl) ⟨by decide, by decide⟩ dL_packetsTo_7 rfl (fun E hE => ?_) (fun x M1 hx hPx => ?_)
  · rcases hEX E hE with h9 | h9
    · subst h9
      refine ⟨15, ⟨[], ⟨0, 12, 15, 21⟩, [⟨0, 12, 19, 13⟩], xIOB, htb, (fun z hz => by cases hz), by decide, by decide, C.w wcl_L_21 rfl, C.w wca_xIOB rfl, rfl⟩, fun q => ?_⟩
      refine z_astore (lv' := [(5, .ref q), (0, .ref (zad G 0 0)), (1, .int (zI a)), (2, .int (zI b)), (3, .int (zI c)), (4, .ref (zad G 27 0))]) C 15 dL_packetsTo_15 (by decide) rfl ?_
      refine z_iconst C 17 dL_packetsTo_17 ?_
      exact z_iret C 18 dL_packetsTo_18 (by decide) (by decide) (by decide) (Or.inr ⟨0, xIOB, rfl, rfl, hE, rfl⟩)
    · subst h9
      refine ⟨19, ⟨[⟨0, 12, 15, 21⟩], ⟨0, 12, 19, 13⟩, [], xIAE, htb, (fun z hz => by rcases List.mem_cons.mp hz with rfl | hz; exact Or.inr ⟨by decide, _, C.w wcl_L_21 rfl, hN.1⟩; cases hz), by decide, by decide, C.w wcl_L_13 rfl, C.w wca_xIAE rfl, rfl⟩, fun q => ?_⟩
      refine z_astore (lv' := [(5, .ref q), (0, .ref (zad G 0 0)), (1, .int (zI a)), (2, .int (zI b)), (3, .int (zI c)), (4, .ref (zad G 27 0))]) C 19 dL_packetsTo_19 (by decide) rfl ?_
      refine z_iconst C 21 dL_packetsTo_21 ?_
      exact z_iret C 22 dL_packetsTo_22 (by decide) (by decide) (by decide) (Or.inr ⟨1, xIAE, rfl, rfl, hE, rfl⟩)
  refine z_i2l C 10 dL_packetsTo_10 ?_
  refine zw_last C 11 dL_packetsTo_11 ?_
  refine z_goto C 12 23 dL_packetsTo_12 (by decide) ?_
  refine z_iconst C 23 dL_packetsTo_23 ?_
  exact z_iret C 24 dL_packetsTo_24 (by decide) (by decide) (by decide) (Or.inl ⟨rfl, x, M1, hx, hPx, rfl⟩)
