abbrev zNm : List String := ["java/lang/RuntimeException", "java/lang/Exception"]
def zThr (ik ic : Nat) (cls : String) : Prop := (∀ w ∈ vx_atS RX7 ic cls zNm, w ∈ lw_tbl ∧ zgood w = true) ∧ (∀ w ∈ Cond.classLink RX7 ik cls :: Cond.initialized cls :: vx_atS RX7 ic cls zNm, vx_ot w = true) ∧ Bundle.fit cls = true ∧ (∀ n ∈ zNm, Bundle.fit n = true) ∧ Cond.classLink RX7 ik cls ∈ lw_tbl ∧ Cond.initialized cls ∈ lw_tbl
set_option maxRecDepth 100000 in
theorem zt_iob : zThr 249 253 xIOB := ⟨by decide +kernel, by decide +kernel, by decide +kernel, by decide +kernel, wcl_7_249, wini_IndexOutOfBoundsException⟩
set_option maxRecDepth 100000 in
theorem zt_iae : zThr 254 258 xIAE := ⟨by decide +kernel, by decide +kernel, by decide +kernel, by decide +kernel, wcl_7_254, wini_IllegalArgumentException⟩
set_option maxRecDepth 100000 in
theorem zt_ise : zThr 54 58 xISE := ⟨by decide +kernel, by decide +kernel, by decide +kernel, by decide +kernel, wcl_7_54, wini_IllegalStateException⟩
section ZTHROW
variable {p : Program} {l : Launch} {e : Env} {R : Room} {s : State} {m : MethodId} {args : Array Value} {below : List Frame} {meth : Method} {c : Code} {G : zG} {cc : ByteArray} {nL : Nat} {rt : Option FieldType} {M : zMem} {cells slots : Nat} {lv : List (Nat × Value)} {st : List Value}
theorem z_throw (C : zC p s m args meth c G RX7 cc nL rt) (ht : ∀ x ∈ c.exceptionTable.toList, False) (hl : l.stackTraces = false) (pc : Nat) {ik is ic mc ms : Nat} {cls text : String} {EX : String → Prop} {Qc : Array Value → State → Outcome → State → Prop} (hT : zThr ik ic cls) (hstr : (is, text) ∈ zStr)
    (d0 : decode cc pc = .ok (.new ik, 3)) (d3 : decode cc (pc + 3) = .ok (.dup, 1)) (d4 : decode cc (pc + 4) = .ok (.ldc is, 2)) (d6 : decode cc (pc + 6) = .ok (.invokespecial ic, 3)) (d9 : decode cc (pc + 9) = .ok (.athrow, 1))
    (hR : 5 < R.frames ∧ (st.map fun v => v.category).sum + 82 ≤ R.locals ∧ cells + 1 ≤ R.cells ∧ slots + 6 ≤ R.slots) (hc : cells + 1 ≤ mc ∧ slots + 6 ≤ ms) (hE : EX cls) : zZ p l e R s m args below meth c G nL (vx_MQ below Qc (zX G M EX) args s mc ms (zA G)) M cells slots pc lv st := by
  intro H locs ls hM hS hl2
  obtain ⟨sa, hsa⟩ := C.k.2.2.2.2.1 _ hstr
  obtain ⟨t1, t2, t3, t4, t5, t6⟩ := hT
  exact vx_throwS (A := zA G) (names := zNm) C.1 C.2.1 hl C.o t3 t4 (C.w t5 rfl) (C.w t6 rfl) hsa (fun w hw => C.w (t1 w hw).1 (t1 w hw).2) t2
    (vx_Zq.kept C.k.2.2.1 (fun a h1 h2 => C.b.2.1 a h1 h2)) (vx_Zq.kept C.k.2.2.2.1 (fun a h1 h2 => C.b.2.1 a h1 h2)) hS (hl2.1.trans C.2.2.1.symm) d0 d3 d4 d6 d9 (fun x hx => (ht x hx).elim) hR.1 hR.2.1 hR.2.2.1 hR.2.2.2 C.2.2.2.2.2.2.1
    (fun t hvm hz hk => ⟨(), trivial, ⟨hE, zM_kept hM hk⟩, ⟨Nat.le_trans hS.1 hz, fun q h1 h2 => by rw [hk q (Nat.lt_of_lt_of_le h1 hS.1)]; exact hS.2.1 q h1 h2⟩⟩) hS.2.2 hc.1 hc.2
theorem z_throwW (C : zC p s m args meth c G RX7 cc nL rt) (ht : ∀ x ∈ c.exceptionTable.toList, False) (hl : l.stackTraces = false) (pc : Nat) {ik is ic mc ms : Nat} {cls text : String} {EX : String → Prop} {Qc : Array Value → State → Outcome → State → Prop} (hT : zThr ik ic cls) (hstr : (is, text) ∈ zStr)
    (d0 : decode cc pc = .ok (.new ik, 3)) (d3 : decode cc (pc + 3) = .ok (.dup, 1)) (d4 : decode cc (pc + 4) = .ok (.ldc_w is, 3)) (d6 : decode cc (pc + 7) = .ok (.invokespecial ic, 3)) (d9 : decode cc (pc + 10) = .ok (.athrow, 1))
    (hR : 5 < R.frames ∧ (st.map fun v => v.category).sum + 82 ≤ R.locals ∧ cells + 1 ≤ R.cells ∧ slots + 6 ≤ R.slots) (hc : cells + 1 ≤ mc ∧ slots + 6 ≤ ms) (hE : EX cls) : zZ p l e R s m args below meth c G nL (vx_MQ below Qc (zX G M EX) args s mc ms (zA G)) M cells slots pc lv st := by
  intro H locs ls hM hS hl2
  obtain ⟨sa, hsa⟩ := C.k.2.2.2.2.1 _ hstr
  obtain ⟨t1, t2, t3, t4, t5, t6⟩ := hT
  exact vx_throwSW (A := zA G) (names := zNm) C.1 C.2.1 hl C.o t3 t4 (C.w t5 rfl) (C.w t6 rfl) hsa (fun w hw => C.w (t1 w hw).1 (t1 w hw).2) t2
    (vx_Zq.kept C.k.2.2.1 (fun a h1 h2 => C.b.2.1 a h1 h2)) (vx_Zq.kept C.k.2.2.2.1 (fun a h1 h2 => C.b.2.1 a h1 h2)) hS (hl2.1.trans C.2.2.1.symm) d0 d3 d4 d6 d9 (fun x hx => (ht x hx).elim) hR.1 hR.2.1 hR.2.2.1 hR.2.2.2 C.2.2.2.2.2.2.1
    (fun t hvm hz hk => ⟨(), trivial, ⟨hE, zM_kept hM hk⟩, ⟨Nat.le_trans hS.1 hz, fun q h1 h2 => by rw [hk q (Nat.lt_of_lt_of_le h1 hS.1)]; exact hS.2.1 q h1 h2⟩⟩) hS.2.2 hc.1 hc.2
end ZTHROW
