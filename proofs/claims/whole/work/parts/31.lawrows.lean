theorem z_and31 (x : Int) : ∃ v : Int, 0 ≤ v ∧ v < 32 ∧ zI x &&& zI 31 = zI v := by
  refine ⟨(zI x &&& zI 31).toInt, ?_⟩
  rw [zI_of]
  have h1 : (zI x &&& zI 31).toBitVec.toNat < 32 := by
    rw [Int32.toBitVec_and, BitVec.toNat_and]
    exact Nat.lt_of_le_of_lt Nat.and_le_right (by decide)
  have h2 : (zI x &&& zI 31).toInt = ((zI x &&& zI 31).toBitVec.toNat : Int) := by
    show (zI x &&& zI 31).toBitVec.toInt = _
    exact BitVec.toInt_eq_toNat_of_lt (by omega)
  rw [h2]
  exact ⟨by omega, by omega, rfl⟩
theorem zI_ofNat (n : Nat) : Int32.ofNat n = zI (n : Int) := by
  refine Int32.toBitVec_inj.mp ?_
  show BitVec.ofNat 32 n = BitVec.ofInt 32 (n : Int)
  exact (BitVec.ofInt_natCast 32 n).symm
section ZLAW
variable {p : Program} {l : Launch} {e : Env} {R : Room} {s : State} {m : MethodId} {args : Array Value} {below : List Frame} {meth : Method} {c : Code} {G : zG} {own : String} {cc : ByteArray} {nL : Nat} {rt : Option FieldType} {Q : State → Prop} {M : zMem} {cells slots : Nat} {lv : List (Nat × Value)} {st : List Value}
theorem zZ_wd {pc k n : Nat} (h1 : cells ≤ k) (h2 : slots ≤ n) (kk : zZ p l e R s m args below meth c G nL Q M k n pc lv st) : zZ p l e R s m args below meth c G nL Q M cells slots pc lv st := fun H locs ls hM hS hl => W.widen h1 h2 (kk H locs ls hM hS hl)
theorem zs_len (C : zC p s m args meth c G own cc nL rt) {b L : Nat} {xs : Nat → Int32} (hX : va_X b L xs s s.heap) (hbl : b < s.heap.size) (hG : G.2.2 = s.heap) (pc : Nat) (d : decode cc pc = .ok (.arraylength, 1)) (k : zZ p l e R s m args below meth c G nL Q M cells slots (pc + 1) lv (.int (zI (L : Int)) :: st)) : zZ p l e R s m args below meth c G nL Q M cells slots pc lv (.ref b :: st) := by
  intro H locs ls hM hS hl
  refine va_slen C.1 C.2.1 hX hbl (A := zA G) (show ¬ G.2.2.size ≤ b by rw [hG]; omega) hS d ?_
  rw [zI_ofNat]
  exact k H locs ls hM hS hl
theorem zs_ld (C : zC p s m args meth c G own cc nL rt) {b L : Nat} {xs : Nat → Int32} (hX : va_X b L xs s s.heap) (hbl : b < s.heap.size) (hG : G.2.2 = s.heap) (pc : Nat) {x : Int} (hx : zrg x) (h0 : 0 ≤ x) (h1 : x < L) (d : decode cc pc = .ok (.iaload, 1)) (k : ∀ y : Int, zrg y → y = (xs x.toNat).toInt → zZ p l e R s m args below meth c G nL Q M cells slots (pc + 1) lv (.int (zI y) :: st)) : zZ p l e R s m args below meth c G nL Q M cells slots pc lv (.int (zI x) :: .ref b :: st) := by
  intro H locs ls hM hS hl
  refine va_sld C.1 C.2.1 hX hbl (A := zA G) (show ¬ G.2.2.size ≤ b by rw [hG]; omega) hS (zI_in h0 h1 hx) d ?_
  rw [zI_nat hx, ← zI_of (xs x.toNat)]
  exact k _ (zrgI _) rfl H locs ls hM hS hl
theorem zs_lald (C : zC p s m args meth c G own cc nL rt) (pc : Nat) (d : decode cc pc = .ok (.laload, 1)) (k : zZ p l e R s m args below meth c G nL Q M cells slots (pc + 1) lv (.long (zI (zV M 27 0 0)).toInt64 :: st)) : zZ p l e R s m args below meth c G nL Q M cells slots pc lv (.int (zI 0) :: .ref (zad G 27 0) :: st) := by
  intro H locs ls hM hS hl
  refine va_lald (D := G.1) (cl := vwCl) (tys := zTy G.2.1) (ws := [(zad G 27 0, .inl (G.2.1 2, 1, .inr (.inl (fun j => (M 27 0 j).toInt64))))]) C.1 C.2.1 C.k.1 (zP_one (hM 27 0 (by decide))) 0 2 rfl rfl (zI_in (by decide) (by decide) (by decide)) d ?_
  rw [zI_V] at k
  exact k H locs ls hM hS hl
theorem zs_cmp (C : zC p s m args meth c G own cc nL rt) (pc : Nat) {x : Int64} (d : decode cc pc = .ok (.lcmp, 1)) (k : zZ p l e R s m args below meth c G nL Q M cells slots (pc + 1) lv (.int (zI 0) :: st)) : zZ p l e R s m args below meth c G nL Q M cells slots pc lv (.long x :: .long x :: st) := by
  intro H locs ls hM hS hl
  refine W.lcmp C.1 C.2.1 d ?_
  have h0 : lg_cmp x x = zI 0 := by
    unfold lg_cmp
    rw [if_neg (by simp), if_pos rfl]
    rfl
  rw [h0]
  exact k H locs ls hM hS hl
theorem zs_tabOut (C : zC p s m args meth c G own cc nL rt) (pc : Nat) {dflt lo hi : Int} {offs : Array Int} {len : Nat} {x : Int} (tgt : Nat) (hx : zrg x) (d : decode cc pc = .ok (.tableswitch dflt lo hi offs, len)) (h : hi < x) (ht : (pc : Int) + dflt = (tgt : Int)) (k : zZ p l e R s m args below meth c G nL Q M cells slots tgt lv st) : zZ p l e R s m args below meth c G nL Q M cells slots pc lv (.int (zI x) :: st) :=
  fun H locs ls hM hS hl => lv_tableOut C.1 C.2.1 d (Or.inr (by rw [zI_toInt hx]; exact h)) ht (k H locs ls hM hS hl)
theorem zs_tabIn (C : zC p s m args meth c G own cc nL rt) (pc : Nat) {dflt lo hi : Int} {offs : Array Int} {len : Nat} {x off : Int} (tgt : Nat) (hx : zrg x) (d : decode cc pc = .ok (.tableswitch dflt lo hi offs, len)) (h1 : lo ≤ x) (h2 : x ≤ hi) (ho : offs[(x - lo).toNat]? = some off) (ht : (pc : Int) + off = (tgt : Int)) (k : zZ p l e R s m args below meth c G nL Q M cells slots tgt lv st) : zZ p l e R s m args below meth c G nL Q M cells slots pc lv (.int (zI x) :: st) :=
  fun H locs ls hM hS hl => lv_tableIn C.1 C.2.1 d (by rw [zI_toInt hx]; omega) (by rw [zI_toInt hx]; omega) (by rw [zI_toInt hx]; exact ho) ht (k H locs ls hM hS hl)
theorem zs_preS {H : Heap} {locs : List Loc} {As : List Value} (C : zC p s m args meth c G own cc nL rt) (hN : zNC s) (hM : zM G M H) (hS : va_S (zA G) s.heap H locs) : PreS s H (zwPc G M As) As :=
  ⟨zwPc_blind, fun U hU hW => ⟨rfl, by rw [hU]; exact hM, by rw [hU]; exact C.S hS, zK_warm hW C.k, zNC_warm hW hN⟩⟩
theorem zs_call (C : zC p s m args meth c G own cc nL rt) (hN : zNC s) (pc : Nat) {y : MethodName} {bytes : ByteArray} {maxL idx dd mc ms n : Nat} {hh : List (Nat × Nat × Nat × Nat)} {As rest st0 : List Value} {P : Int → zMem → Prop} (hM0 : Met l y [.codeWith y bytes maxL (some .int) hh] (zR dd mc ms) (zwPc G M As) (zQi G P) mc ms (zA G)) (hwl : Cond.methodLink own idx y ∈ lw_tbl) (hwc : Cond.codeWith y bytes maxL (some .int) hh ∈ lw_tbl) (hwi : Cond.initialized y.cls ∈ lw_tbl) (hws : Cond.static y ∈ lw_tbl)
    (hd : y.cls ≠ "java/lang/invoke/MethodHandle" ∧ y.cls ≠ "java/lang/invoke/VarHandle" ∧ (parseMethodDescriptor y.desc).map (fun d => d.parameters.length) = some n) (hR : dd + 1 ≤ R.frames ∧ 8 + (maxL + 11) + 40 * dd ≤ R.locals) (hn : As.length = n) (hW : (rest.map fun v => v.category).sum ≤ 8) (hf : cells + mc ≤ R.cells ∧ slots + ms ≤ R.slots) (d : decode cc pc = .ok (.invokestatic idx, 3)) (hst : st0 = As.reverse ++ rest) (k : ∀ (x : Int) (M1 : zMem), zrg x → P x M1 → zZ p l e R s m args below meth c G nL Q M1 (cells + mc) (slots + ms) (pc + 3) lv (.int (zI x) :: rest)) : zZ p l e R s m args below meth c G nL Q M cells slots pc lv st0 := by
  subst hst
  intro H locs ls hM hS hl
  have hc := C.w hwc (by first | rfl | simp [zgood, goodWord, Cond.onTables, Cond.keeps])
  refine va_calli (vx_runSW (As := As) (rest := rest) (hh := hh) (n := n) (z_fix C) hM0 ⟨⟨rfl, rfl, hR.1, hR.2, ?_, List.mem_cons_self⟩, hc, C.w hwi (by first | rfl | simp [zgood, goodWord, Cond.onTables, Cond.keeps]), ⟨hd.1, hd.2.1⟩, fun sig h => ?_, C.w hwl (by first | rfl | simp [zgood, goodWord, Cond.onTables, Cond.keeps]), C.w hws (by first | rfl | simp [zgood, goodWord, Cond.onTables, Cond.keeps])⟩ (zs_preS C hN hM hS) rfl hn hl.1 rfl (lv_room hW) d hf) hS (fun _ _ h => h) (fun _ h => h) (fun r u t H1 locs1 ht hvm hw hB hz1 hk1 hS1 => by rw [← zI_of r]; exact k _ u (zrgI r) hw H1 locs1 ls (ht ▸ hB) hS1 hl)
  · intro w hw a' U hW
    rcases List.mem_cons.mp hw with rfl | hw
    · exact word_at hW (good_of_word (by first | rfl | simp [zgood, goodWord, Cond.onTables, Cond.keeps])) hc
    · cases hw
  · have h2 := hd.2.2
    rw [h] at h2
    exact (Option.some.inj h2).symm
theorem zs_end {b : Nat} {pc : Nat} (C : zC p s m #[Value.ref b] meth c G own cc nL (some .boolean)) (hcc : cc = code) (hG : G.2.2 = s.heap) (h1 : cells ≤ 668696) (h2 : slots ≤ 7090017) (d : decode code pc = .ok (.ireturn, 1)) : zZ p l e room_1 s m #[Value.ref b] below meth c G nL (lw_Z below #[Value.ref b] s) M cells slots pc lv [.int (zI 1)] := by
  intro H locs ls hM hS hl
  refine va_forget (fun q hq => ?_) (W.widen h1 h2 (lw_ret C.1 (C.2.1.trans hcc) C.2.2.2.2.2.2.2.1 C.2.2.2.2.2.2.1 d))
  have h9 := hS.2.2 q hq
  rw [← hG]
  exact h9
end ZLAW
