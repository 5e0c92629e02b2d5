section
-- ===== PART A: goes FIRST, ahead of the names: the tables' words, and 'selects' of the private methods out of them =====
/-- a private method of a class that the tables say can be made, by its rows of tables_1 -/
def lw_okq (q : MethodName × Nat) : Prop := (q.1.cls ≠ "java/lang/invoke/MethodHandle" ∧ q.1.cls ≠ "java/lang/invoke/VarHandle") ∧ Cond.instantiable q.1.cls q.2 ∈ tables_1 ∧ Cond.privateMethod q.1 ∈ tables_1 ∧ Cond.instanceMethod q.1 ∈ tables_1
theorem lw_p0 : lw_okq (⟨"java/lang/Throwable", "fillInStackTrace", "(I)Ljava/lang/Throwable;"⟩, 6) := ⟨⟨by decide +kernel, by decide +kernel⟩, List.mem_of_getElem? (i := 289) (by decide +kernel), List.mem_of_getElem? (i := 287) (by decide +kernel), List.mem_of_getElem? (i := 288) (by decide +kernel)⟩
theorem lw_p1 : lw_okq (⟨"LocatorMapper", "solicit", "(LLocatorMapper$Prefix;)V"⟩, 7) := ⟨⟨by decide +kernel, by decide +kernel⟩, List.mem_of_getElem? (i := 18) (by decide +kernel), List.mem_of_getElem? (i := 355) (by decide +kernel), List.mem_of_getElem? (i := 356) (by decide +kernel)⟩
theorem lw_p2 : lw_okq (⟨"LocatorMapper", "requireMapping", "(I)LLocatorMapper$Mapping;"⟩, 7) := ⟨⟨by decide +kernel, by decide +kernel⟩, List.mem_of_getElem? (i := 18) (by decide +kernel), List.mem_of_getElem? (i := 378) (by decide +kernel), List.mem_of_getElem? (i := 379) (by decide +kernel)⟩
theorem lw_p3 : lw_okq (⟨"LocatorMapper", "tellChange", "(LLocatorMapper$Mapping;)I"⟩, 7) := ⟨⟨by decide +kernel, by decide +kernel⟩, List.mem_of_getElem? (i := 18) (by decide +kernel), List.mem_of_getElem? (i := 428) (by decide +kernel), List.mem_of_getElem? (i := 429) (by decide +kernel)⟩
theorem lw_p4 : lw_okq (⟨"LocatorMapper$Registry", "hidesLonger", "(III)Z"⟩, 2) := ⟨⟨by decide +kernel, by decide +kernel⟩, List.mem_of_getElem? (i := 26) (by decide +kernel), List.mem_of_getElem? (i := 485) (by decide +kernel), List.mem_of_getElem? (i := 486) (by decide +kernel)⟩
theorem lw_p5 : lw_okq (⟨"LocatorMapper", "requireRouter", "(I)LLocatorMapper$Router;"⟩, 7) := ⟨⟨by decide +kernel, by decide +kernel⟩, List.mem_of_getElem? (i := 18) (by decide +kernel), List.mem_of_getElem? (i := 548) (by decide +kernel), List.mem_of_getElem? (i := 549) (by decide +kernel)⟩
theorem lw_p6 : lw_okq (⟨"LocatorMapper", "keepAnswer", "(LLocatorMapper$Router;I)I"⟩, 7) := ⟨⟨by decide +kernel, by decide +kernel⟩, List.mem_of_getElem? (i := 18) (by decide +kernel), List.mem_of_getElem? (i := 561) (by decide +kernel), List.mem_of_getElem? (i := 562) (by decide +kernel)⟩
theorem lw_p7 : lw_okq (⟨"LocatorMapper$Router", "takeOut", "(I)V"⟩, 3) := ⟨⟨by decide +kernel, by decide +kernel⟩, List.mem_of_getElem? (i := 145) (by decide +kernel), List.mem_of_getElem? (i := 569) (by decide +kernel), List.mem_of_getElem? (i := 570) (by decide +kernel)⟩
theorem lw_p8 : lw_okq (⟨"LocatorMapper$Entry", "bestPriority", "([Z)I"⟩, 7) := ⟨⟨by decide +kernel, by decide +kernel⟩, List.mem_of_getElem? (i := 152) (by decide +kernel), List.mem_of_getElem? (i := 601) (by decide +kernel), List.mem_of_getElem? (i := 602) (by decide +kernel)⟩
theorem lw_p9 : lw_okq (⟨"LocatorMapper$Entry", "choose", "([ZI)I"⟩, 7) := ⟨⟨by decide +kernel, by decide +kernel⟩, List.mem_of_getElem? (i := 152) (by decide +kernel), List.mem_of_getElem? (i := 606) (by decide +kernel), List.mem_of_getElem? (i := 607) (by decide +kernel)⟩
theorem lw_p10 : lw_okq (⟨"LocatorMapper$Entry", "isLookedAt", "(I[ZI)Z"⟩, 7) := ⟨⟨by decide +kernel, by decide +kernel⟩, List.mem_of_getElem? (i := 152) (by decide +kernel), List.mem_of_getElem? (i := 610) (by decide +kernel), List.mem_of_getElem? (i := 611) (by decide +kernel)⟩
theorem lw_p11 : lw_okq (⟨"LocatorMapper", "requireEntry", "(II)LLocatorMapper$Entry;"⟩, 7) := ⟨⟨by decide +kernel, by decide +kernel⟩, List.mem_of_getElem? (i := 18) (by decide +kernel), List.mem_of_getElem? (i := 653) (by decide +kernel), List.mem_of_getElem? (i := 654) (by decide +kernel)⟩
theorem lw_p12 : lw_okq (⟨"LocatorMapperModel", "solicits", "(I)V"⟩, 35) := ⟨⟨by decide +kernel, by decide +kernel⟩, List.mem_of_getElem? (i := 679) (by decide +kernel), List.mem_of_getElem? (i := 812) (by decide +kernel), List.mem_of_getElem? (i := 813) (by decide +kernel)⟩
theorem lw_p13 : lw_okq (⟨"LocatorMapperModel", "isMapping", "(I)Z"⟩, 35) := ⟨⟨by decide +kernel, by decide +kernel⟩, List.mem_of_getElem? (i := 679) (by decide +kernel), List.mem_of_getElem? (i := 823) (by decide +kernel), List.mem_of_getElem? (i := 824) (by decide +kernel)⟩
theorem lw_p14 : lw_okq (⟨"LocatorMapperModel", "placeOf", "(II)I"⟩, 35) := ⟨⟨by decide +kernel, by decide +kernel⟩, List.mem_of_getElem? (i := 679) (by decide +kernel), List.mem_of_getElem? (i := 831) (by decide +kernel), List.mem_of_getElem? (i := 832) (by decide +kernel)⟩
theorem lw_p15 : lw_okq (⟨"LocatorMapperModel", "changes", "(I)I"⟩, 35) := ⟨⟨by decide +kernel, by decide +kernel⟩, List.mem_of_getElem? (i := 679) (by decide +kernel), List.mem_of_getElem? (i := 835) (by decide +kernel), List.mem_of_getElem? (i := 836) (by decide +kernel)⟩
def lw_privs_1 : List (MethodName × Nat) := [(⟨"java/lang/Throwable", "fillInStackTrace", "(I)Ljava/lang/Throwable;"⟩, 6), (⟨"LocatorMapper", "solicit", "(LLocatorMapper$Prefix;)V"⟩, 7), (⟨"LocatorMapper", "requireMapping", "(I)LLocatorMapper$Mapping;"⟩, 7), (⟨"LocatorMapper", "tellChange", "(LLocatorMapper$Mapping;)I"⟩, 7), (⟨"LocatorMapper$Registry", "hidesLonger", "(III)Z"⟩, 2), (⟨"LocatorMapper", "requireRouter", "(I)LLocatorMapper$Router;"⟩, 7), (⟨"LocatorMapper", "keepAnswer", "(LLocatorMapper$Router;I)I"⟩, 7), (⟨"LocatorMapper$Router", "takeOut", "(I)V"⟩, 3), (⟨"LocatorMapper$Entry", "bestPriority", "([Z)I"⟩, 7), (⟨"LocatorMapper$Entry", "choose", "([ZI)I"⟩, 7), (⟨"LocatorMapper$Entry", "isLookedAt", "(I[ZI)Z"⟩, 7), (⟨"LocatorMapper", "requireEntry", "(II)LLocatorMapper$Entry;"⟩, 7), (⟨"LocatorMapperModel", "solicits", "(I)V"⟩, 35), (⟨"LocatorMapperModel", "isMapping", "(I)Z"⟩, 35), (⟨"LocatorMapperModel", "placeOf", "(II)I"⟩, 35), (⟨"LocatorMapperModel", "changes", "(I)I"⟩, 35)]
theorem lw_r1 : ∀ q ∈ lw_privs_1, lw_okq q := List.forall_mem_cons.mpr ⟨lw_p0, List.forall_mem_cons.mpr ⟨lw_p1, List.forall_mem_cons.mpr ⟨lw_p2, List.forall_mem_cons.mpr ⟨lw_p3, List.forall_mem_cons.mpr ⟨lw_p4, List.forall_mem_cons.mpr ⟨lw_p5, List.forall_mem_cons.mpr ⟨lw_p6, List.forall_mem_cons.mpr ⟨lw_p7, List.forall_mem_cons.mpr ⟨lw_p8, List.forall_mem_cons.mpr ⟨lw_p9, List.forall_mem_cons.mpr ⟨lw_p10, List.forall_mem_cons.mpr ⟨lw_p11, List.forall_mem_cons.mpr ⟨lw_p12, List.forall_mem_cons.mpr ⟨lw_p13, List.forall_mem_cons.mpr ⟨lw_p14, List.forall_mem_cons.mpr ⟨lw_p15, fun _ h => absurd h List.not_mem_nil⟩⟩⟩⟩⟩⟩⟩⟩⟩⟩⟩⟩⟩⟩⟩⟩
theorem lw_p16 : lw_okq (⟨"LocatorMapperModel", "placeAmong", "(II)I"⟩, 35) := ⟨⟨by decide +kernel, by decide +kernel⟩, List.mem_of_getElem? (i := 679) (by decide +kernel), List.mem_of_getElem? (i := 847) (by decide +kernel), List.mem_of_getElem? (i := 848) (by decide +kernel)⟩
theorem lw_p17 : lw_okq (⟨"LocatorMapperModel", "mappingFor", "(I)I"⟩, 35) := ⟨⟨by decide +kernel, by decide +kernel⟩, List.mem_of_getElem? (i := 679) (by decide +kernel), List.mem_of_getElem? (i := 855) (by decide +kernel), List.mem_of_getElem? (i := 856) (by decide +kernel)⟩
theorem lw_p18 : lw_okq (⟨"LocatorMapperModel", "bitsFor", "(II)I"⟩, 35) := ⟨⟨by decide +kernel, by decide +kernel⟩, List.mem_of_getElem? (i := 679) (by decide +kernel), List.mem_of_getElem? (i := 866) (by decide +kernel), List.mem_of_getElem? (i := 867) (by decide +kernel)⟩
theorem lw_p19 : lw_okq (⟨"LocatorMapperModel", "isHiding", "(III)Z"⟩, 35) := ⟨⟨by decide +kernel, by decide +kernel⟩, List.mem_of_getElem? (i := 679) (by decide +kernel), List.mem_of_getElem? (i := 870) (by decide +kernel), List.mem_of_getElem? (i := 871) (by decide +kernel)⟩
theorem lw_p20 : lw_okq (⟨"LocatorMapperModel", "serverFor", "(I)I"⟩, 35) := ⟨⟨by decide +kernel, by decide +kernel⟩, List.mem_of_getElem? (i := 679) (by decide +kernel), List.mem_of_getElem? (i := 893) (by decide +kernel), List.mem_of_getElem? (i := 894) (by decide +kernel)⟩
theorem lw_p21 : lw_okq (⟨"LocatorMapperModel", "entryFor", "(II)I"⟩, 35) := ⟨⟨by decide +kernel, by decide +kernel⟩, List.mem_of_getElem? (i := 679) (by decide +kernel), List.mem_of_getElem? (i := 908) (by decide +kernel), List.mem_of_getElem? (i := 909) (by decide +kernel)⟩
theorem lw_p22 : lw_okq (⟨"LocatorMapperModel", "gets", "(II)I"⟩, 35) := ⟨⟨by decide +kernel, by decide +kernel⟩, List.mem_of_getElem? (i := 679) (by decide +kernel), List.mem_of_getElem? (i := 912) (by decide +kernel), List.mem_of_getElem? (i := 913) (by decide +kernel)⟩
theorem lw_p23 : lw_okq (⟨"LocatorMapperModel", "frees", "(I)I"⟩, 35) := ⟨⟨by decide +kernel, by decide +kernel⟩, List.mem_of_getElem? (i := 679) (by decide +kernel), List.mem_of_getElem? (i := 916) (by decide +kernel), List.mem_of_getElem? (i := 917) (by decide +kernel)⟩
theorem lw_p24 : lw_okq (⟨"LocatorMapperModel", "manyOf", "(I)I"⟩, 35) := ⟨⟨by decide +kernel, by decide +kernel⟩, List.mem_of_getElem? (i := 679) (by decide +kernel), List.mem_of_getElem? (i := 920) (by decide +kernel), List.mem_of_getElem? (i := 921) (by decide +kernel)⟩
theorem lw_p25 : lw_okq (⟨"LocatorMapperModel", "manyBefore", "(II)I"⟩, 35) := ⟨⟨by decide +kernel, by decide +kernel⟩, List.mem_of_getElem? (i := 679) (by decide +kernel), List.mem_of_getElem? (i := 924) (by decide +kernel), List.mem_of_getElem? (i := 925) (by decide +kernel)⟩
theorem lw_p26 : lw_okq (⟨"LocatorMapperModel", "placeOfEntry", "(II)I"⟩, 35) := ⟨⟨by decide +kernel, by decide +kernel⟩, List.mem_of_getElem? (i := 679) (by decide +kernel), List.mem_of_getElem? (i := 928) (by decide +kernel), List.mem_of_getElem? (i := 929) (by decide +kernel)⟩
theorem lw_p27 : lw_okq (⟨"LocatorMapperModel", "bestOf", "(II)I"⟩, 35) := ⟨⟨by decide +kernel, by decide +kernel⟩, List.mem_of_getElem? (i := 679) (by decide +kernel), List.mem_of_getElem? (i := 932) (by decide +kernel), List.mem_of_getElem? (i := 933) (by decide +kernel)⟩
theorem lw_p28 : lw_okq (⟨"LocatorMapperModel", "goesTo", "(II)I"⟩, 35) := ⟨⟨by decide +kernel, by decide +kernel⟩, List.mem_of_getElem? (i := 679) (by decide +kernel), List.mem_of_getElem? (i := 936) (by decide +kernel), List.mem_of_getElem? (i := 937) (by decide +kernel)⟩
theorem lw_p29 : lw_okq (⟨"LocatorMapperModel", "asks", "(II)I"⟩, 35) := ⟨⟨by decide +kernel, by decide +kernel⟩, List.mem_of_getElem? (i := 679) (by decide +kernel), List.mem_of_getElem? (i := 960) (by decide +kernel), List.mem_of_getElem? (i := 961) (by decide +kernel)⟩
def lw_privs_2 : List (MethodName × Nat) := [(⟨"LocatorMapperModel", "placeAmong", "(II)I"⟩, 35), (⟨"LocatorMapperModel", "mappingFor", "(I)I"⟩, 35), (⟨"LocatorMapperModel", "bitsFor", "(II)I"⟩, 35), (⟨"LocatorMapperModel", "isHiding", "(III)Z"⟩, 35), (⟨"LocatorMapperModel", "serverFor", "(I)I"⟩, 35), (⟨"LocatorMapperModel", "entryFor", "(II)I"⟩, 35), (⟨"LocatorMapperModel", "gets", "(II)I"⟩, 35), (⟨"LocatorMapperModel", "frees", "(I)I"⟩, 35), (⟨"LocatorMapperModel", "manyOf", "(I)I"⟩, 35), (⟨"LocatorMapperModel", "manyBefore", "(II)I"⟩, 35), (⟨"LocatorMapperModel", "placeOfEntry", "(II)I"⟩, 35), (⟨"LocatorMapperModel", "bestOf", "(II)I"⟩, 35), (⟨"LocatorMapperModel", "goesTo", "(II)I"⟩, 35), (⟨"LocatorMapperModel", "asks", "(II)I"⟩, 35)]
theorem lw_r2 : ∀ q ∈ lw_privs_2, lw_okq q := List.forall_mem_cons.mpr ⟨lw_p16, List.forall_mem_cons.mpr ⟨lw_p17, List.forall_mem_cons.mpr ⟨lw_p18, List.forall_mem_cons.mpr ⟨lw_p19, List.forall_mem_cons.mpr ⟨lw_p20, List.forall_mem_cons.mpr ⟨lw_p21, List.forall_mem_cons.mpr ⟨lw_p22, List.forall_mem_cons.mpr ⟨lw_p23, List.forall_mem_cons.mpr ⟨lw_p24, List.forall_mem_cons.mpr ⟨lw_p25, List.forall_mem_cons.mpr ⟨lw_p26, List.forall_mem_cons.mpr ⟨lw_p27, List.forall_mem_cons.mpr ⟨lw_p28, List.forall_mem_cons.mpr ⟨lw_p29, fun _ h => absurd h List.not_mem_nil⟩⟩⟩⟩⟩⟩⟩⟩⟩⟩⟩⟩⟩⟩
def lw_privs : List (MethodName × Nat) := lw_privs_1 ++ (lw_privs_2)
def lw_tbl : List Cond := k2_sels lw_privs ++ tables_1
theorem lw_privs_ok : ∀ q ∈ lw_privs, lw_okq q := by
  show ∀ q ∈ lw_privs_1 ++ (lw_privs_2), lw_okq q
  exact List.forall_mem_append.mpr ⟨lw_r1, lw_r2⟩
end
section
/-! ===== BEGIN words of one list among another's, by their places ===== -/
theorem goodIn_r {big : List Cond} (ws : List Cond) (ps : List Nat) (hp : ws = ps.filterMap (fun i => big[i]?)) (h : ws.all goodWord = true) : GoodIn big ws := by
  intro w hw
  have h1 := List.all_eq_true.mp h w hw
  rw [hp] at hw
  obtain ⟨i, -, hi⟩ := List.mem_filterMap.mp hw
  have hm : w ∈ big := by first | exact List.mem_of_getElem? hi | exact List.getElem?_mem hi
  exact ⟨hm, good_of_word h1⟩
theorem goodIn_app {big a b : List Cond} (ha : GoodIn big a) (hb : GoodIn big b) : GoodIn big (a ++ b) := fun w h => (List.mem_append.mp h).elim (ha w) (hb w)
theorem goodIn_ca {big a b : List Cond} {c : Cond} (ha : GoodIn big (c :: a)) (hb : GoodIn big b) : GoodIn big (c :: (a ++ b)) := fun w h => (List.mem_cons.mp h).elim (fun e => ha w (List.mem_cons.mpr (Or.inl e))) (fun h => (List.mem_append.mp h).elim (fun h => ha w (List.mem_cons.mpr (Or.inr h))) (hb w))
theorem goodIn_sub {big ws : List Cond} (hm : ∀ w ∈ ws, w ∈ big) (h : ws.all goodWord = true) : GoodIn big ws := fun w hw => ⟨hm w hw, good_of_word (List.all_eq_true.mp h w hw)⟩
/-! ===== END ===== -/

/-! ===== BEGIN exceptions that leave a method, and their catching by the caller (launches without stack traces) ===== -/
section VXA
/-! The laws vx_back, vx_callV, vx_callS, vx_callSW, vx_throw0, vx_throwS follow proofs of the library, with one case more: JvmDerived/Free/Laws.lean (Back.of_free), Shelf42/LK1.lean (callV, callS), Shelf/KitTraced.lean (throwNew0V, throwNewS). -/
/-- where a method has thrown q: the class by its name, the cell, what was written, the world -/
def vx_T (XC : String → State → State → Prop) (st : State) (q : Addr) (t : State) (mc ms : Nat) (free : Addr → Prop) : Prop :=
  ∃ (E : String) (ce : Cell) (L : List Loc), XC E st t ∧ t.heap[q]? = some ce ∧ ce.vm = .none ∧ st.vm.findClass E = some ce.cls ∧ st.WarmedH t.vm ∧ st.sameButNew ({ t with vm := st.vm } : State) L mc ms ∧ ∀ z ∈ L, free z.base
def vx_Q (Qc : Array Value → State → Outcome → State → Prop) (XC : String → State → State → Prop) (mc ms : Nat) (free : Addr → Prop) : Array Value → State → Outcome → State → Prop := fun a st o t =>
  (Qc a st o t ∧ ∃ L, FrameEnd st o t L mc ms ∧ ∀ q ∈ L, free q.base) ∨ ∃ q, o = .threw q ∧ vx_T XC st q t mc ms free
/-- a callee that returns or throws -/
def vx_Met (l : Launch) (y : MethodName) (ws : List Cond) (rm : Room) (Pc : Array Value → State → Prop) (Qc : Array Value → State → Outcome → State → Prop) (XC : String → State → State → Prop) (mc ms : Nat) (free : Addr → Prop) : Prop :=
  MetFree l y (headSpec ws rm) Pc (fun _ _ _ _ _ => True) (vx_Q Qc XC mc ms free)
def vx_Post (XC : String → State → State → Prop) (mc ms : Nat) (free : Addr → Prop) : Pt → Array Value → Addr → Pt → Prop := fun A a q B =>
  ∃ (g : JFrame) (mk : MethodId) (t : State) (L : List Loc) (E : String) (ce : Cell), B.U.heap = t.heap ∧ B.U.vm = t.vm ∧ XC E (A.U.calling g mk a) t ∧ t.heap[q]? = some ce ∧ ce.vm = .none ∧ A.U.vm.findClass E = some ce.cls ∧ B.locs = A.locs ++ L ∧ (∀ z ∈ L, free z.base) ∧ B.cells = A.cells + mc ∧ B.slots = A.slots + ms
def vx_Back (l : Launch) (R : Room) (p : Program) (e : Env) (below : List Frame) (s : State) (sargs : Array Value) (y : MethodName) (len W9 : Nat)
    (Pre : Pt → Array Value → Prop) (Post : Pt → Array Value → Option Value → Pt → Prop) (PostX : Pt → Array Value → Addr → Pt → Prop) : Prop :=
  ∀ (m : MethodId) (meth : Method) (c : Code) (A : Pt) (g : JFrame) (ig : Instr) (mk : MethodId) (a : Array Value),
    Stand p l e R s m sargs below meth c A.U A.locs A.cells A.slots → g.method = m → g.locals.size = c.maxLocals → decode c.code g.pc = .ok (ig, len) →
    2 * g.monitorRoom + (g.stack.map fun v => v.category).sum ≤ W9 → A.U.methodNamed? y = some mk → Pre A a →
    (∃ (v : Option Value) (B : Pt), Stand p l e R s m sargs below meth c B.U B.locs B.cells B.slots ∧ Post A a v B ∧
      Steps p.tables e below (doInvoke e (A.U.setTop g) [] mk a).1 (B.U.setTop { g with pc := g.pc + len, stack := v.toList ++ g.stack })) ∨
    (∃ (q : Addr) (B : Pt), Stand p l e R s m sargs below meth c B.U B.locs B.cells B.slots ∧ PostX A a q B ∧
      Steps p.tables e below (doInvoke e (A.U.setTop g) [] mk a).1 ((B.U.setTop g).pushFrame (.throwing q)))
section Payer
variable {l : Launch} {R : Room} {p : Program} {e : Env} {below : List Frame} {s : State} {sargs : Array Value} {y : MethodName} {len W9 : Nat}
theorem vx_back {ws : List Cond} {rm : Room} {Pc : Array Value → State → Prop} {Qc : Array Value → State → Outcome → State → Prop} {XC : String → State → State → Prop} {mc ms : Nat} {free : Addr → Prop} {bytes : ByteArray} {maxL : Nat} {ret : Option FieldType}
    (hM : vx_Met l y ws rm Pc Qc XC mc ms free) (hblind : FrameBlind Pc) (hrc : rm.cells = mc) (hrs : rm.slots = ms)
    (hframes : rm.frames + 1 ≤ R.frames) (hlocals : W9 + (maxL + 11) + rm.locals ≤ R.locals)
    (hws : ∀ w ∈ ws, ∀ a' U, s.WarmedH U.vm → w.before a' U = true) (hcode : Cond.code y bytes maxL ret ∈ ws) (hinit : ∀ a' U, s.WarmedH U.vm → (Cond.initialized y.cls).before a' U = true) :
    vx_Back l R p e below s sargs y len W9 (PreOf R mc ms Pc) (PostOf Qc mc ms free) (vx_Post XC mc ms free) := by
  intro m meth c A g ig mk a X hg hsize hdg hW hn hp
  have h1 : (headSpec ws rm).pre.before a A.U = true := atoms_intro fun w hw => hws w hw _ _ X.warmed
  have h2 : (Cond.code y bytes maxL ret).before a A.U = true := hws _ hcode _ _ X.warmed
  have h3 : (Cond.initialized y.cls).before a A.U = true := hinit _ _ X.warmed
  have h4 : A.cells + (headSpec ws rm).room.cells ≤ R.cells := by rw [show (headSpec ws rm).room.cells = mc from hrc]; exact hp.1
  have h5 : A.slots + (headSpec ws rm).room.slots ≤ R.slots := by rw [show (headSpec ws rm).room.slots = ms from hrs]; exact hp.2.1
  have hPc : Pc a (A.U.calling g mk a) := hblind _ _ _ _ hp.2.2
  obtain ⟨U, Ls, c0, s0⟩ := A
  dsimp only [Pt.U, Pt.locs, Pt.cells, Pt.slots] at h1 h2 h3 h4 h5 X hn hPc ⊢
  obtain ⟨methY, cY, hmY, hcY, -, hlY, -, -, -, -⟩ := Cond.code_spec hn h2
  obtain ⟨kY, hkY, -⟩ := className_of_methodNamed hn
  have hinitY : kY.init = .initialized := Cond.initialized_spec (findClass_of_methodNamed hn) hkY h3
  have h : At U g.method c below := by rw [hg]; exact X.here
  have hlocals9 : W9 + (maxL + 11) + (headSpec ws rm).room.locals ≤ R.locals := hlocals
  have happ : (headSpec ws rm).appliesLoose y e.platform (U.calling g mk a) = true :=
    Spec.appliesLoose_calling (g := g) h hdg hn hkY hinitY
      (X.room_calling (g := g) (R' := (headSpec ws rm).room) hsize hmY hcY hframes (by rw [hlY]; omega) h4 h5) h1
  obtain ⟨mid, hmid⟩ := h.above
  have hfr : (U.setTop g).frames = (.java g :: mid) ++ below := by rw [State.frames_setTop' g h.top, hmid]; rfl
  obtain ⟨o, s₂, hsteps, -, hend, hq⟩ := Steps.callFree hM p X.admits X.cas X.clock (acts := []) hfr happ hPc trivial
  have hq' : vx_Q Qc XC mc ms free a (U.calling g mk a) o s₂ := hq
  rw [State.frames_setTop' g h.top] at hend
  obtain ⟨g₀, hg0⟩ := Option.isSome_iff_exists.mp h.top
  obtain ⟨r, hr⟩ := State.topJava?_eq_some.mp hg0
  have hr' : (({ U with heap := s₂.heap, slotsUsed := s₂.slotsUsed } : State).setVm s₂.vm).frames = .java g₀ :: r := hr
  rcases hq' with ⟨hqc, L, hfe, hL⟩ | ⟨q, rfl, E, ce, L, hx, hce, hcv, hcl, hW₂, hsm, hL⟩
  · obtain ⟨⟨v, rfl⟩, hW₂, e2, q2, q3, q4, q5, q6⟩ := id hfe
    have e3 : s₂ = ({ (U.calling g mk a).setFrames s₂.frames with heap := s₂.heap, slotsUsed := s₂.slotsUsed } : State).setVm s₂.vm := by
      have : s₂ = ({ s₂ with vm := (U.calling g mk a).vm } : State).setVm s₂.vm := rfl
      rw [e2] at this
      exact this
    obtain ⟨c₂, i₂, len₂, hc₂, hd₂, hf₂⟩ := hend
    have hW' : U.WarmedH s₂.vm := hW₂
    have hcc : c₂ = c := by
      have h1 : s₂.code? g.method = U.code? g.method := by
        rw [State.code?_eq, State.code?_eq, hW'.alike.method?]
      exact Option.some.inj (hc₂.symm.trans (h1.trans h.code))
    subst hcc
    have hlen : len₂ = len := by rw [hdg] at hd₂; cases hd₂; rfl
    subst hlen
    have hs₂ : s₂ = (({ U with heap := s₂.heap, slotsUsed := s₂.slotsUsed } : State).setVm s₂.vm).setTop { g with pc := g.pc + len₂, stack := v.toList ++ g.stack } := by
      refine e3.trans ?_
      rw [hf₂, State.calling_eq h.top, State.setFrames_setFrames, State.setTop_of_frames _ hr', hr]
      rfl
    have hsame : U.sameButNew ({ U with heap := s₂.heap, slotsUsed := s₂.slotsUsed } : State) L mc ms := by
      refine ⟨?_, q2, q3, q4, q5, q6⟩
      obtain ⟨t, ht, -⟩ := State.frames_cons hr
      show ({ U with heap := s₂.heap, slotsUsed := s₂.slotsUsed } : State) = { U.setFrames U.frames with heap := s₂.heap, slotsUsed := s₂.slotsUsed }
      rw [State.setFrames_self ht]
    subst hg
    refine Or.inl ⟨v, ⟨(({ U with heap := s₂.heap, slotsUsed := s₂.slotsUsed } : State).setVm s₂.vm), Ls ++ L, c0 + mc, s0 + ms⟩,
      ⟨X.admits, X.cas, X.clock, X.frames, X.room, X.hears, X.method, X.code, (X.here.setHeapUsed s₂.heap s₂.slotsUsed).setVm hW'.alike, X.tail, State.WarmedH.trans X.warmed hW', X.limits, X.bytes, X.same.trans (hsame.setVm s.vm)⟩,
      ⟨g, mk, s₂, L, rfl, rfl, hqc, rfl, hL, rfl, rfl⟩, ?_⟩
    show Steps p.tables e below _ ((({ U with heap := s₂.heap, slotsUsed := s₂.slotsUsed } : State).setVm s₂.vm).setTop { g with pc := g.pc + len₂, stack := v.toList ++ g.stack })
    rw [← hs₂]
    exact hsteps
  · obtain ⟨e2, q2, q3, q4, q5, q6⟩ := id hsm
    have e3 : s₂ = ({ (U.calling g mk a).setFrames s₂.frames with heap := s₂.heap, slotsUsed := s₂.slotsUsed } : State).setVm s₂.vm := by
      have : s₂ = ({ s₂ with vm := (U.calling g mk a).vm } : State).setVm s₂.vm := rfl
      rw [e2] at this
      exact this
    have hf₂ : s₂.frames = .throwing q :: .java g :: U.frames.tail := hend
    have hW' : U.WarmedH s₂.vm := hW₂
    have hs₂ : s₂ = ((({ U with heap := s₂.heap, slotsUsed := s₂.slotsUsed } : State).setVm s₂.vm).setTop g).pushFrame (.throwing q) := by
      refine e3.trans ?_
      rw [hf₂, State.calling_eq h.top, State.setFrames_setFrames, State.pushFrame, State.frames_setTop _ hr', State.setTop_of_frames _ hr', State.setFrames_setFrames, hr]
      rfl
    have hsame : U.sameButNew ({ U with heap := s₂.heap, slotsUsed := s₂.slotsUsed } : State) L mc ms := by
      refine ⟨?_, q2, q3, q4, q5, q6⟩
      obtain ⟨t, ht, -⟩ := State.frames_cons hr
      show ({ U with heap := s₂.heap, slotsUsed := s₂.slotsUsed } : State) = { U.setFrames U.frames with heap := s₂.heap, slotsUsed := s₂.slotsUsed }
      rw [State.setFrames_self ht]
    subst hg
    refine Or.inr ⟨q, ⟨(({ U with heap := s₂.heap, slotsUsed := s₂.slotsUsed } : State).setVm s₂.vm), Ls ++ L, c0 + mc, s0 + ms⟩,
      ⟨X.admits, X.cas, X.clock, X.frames, X.room, X.hears, X.method, X.code, (X.here.setHeapUsed s₂.heap s₂.slotsUsed).setVm hW'.alike, X.tail, State.WarmedH.trans X.warmed hW', X.limits, X.bytes, X.same.trans (hsame.setVm s.vm)⟩,
      ⟨g, mk, s₂, L, E, ce, rfl, rfl, hx, hce, hcv, hcl, rfl, hL, rfl, rfl⟩, ?_⟩
    show Steps p.tables e below _ (((({ U with heap := s₂.heap, slotsUsed := s₂.slotsUsed } : State).setVm s₂.vm).setTop g).pushFrame (.throwing q))
    rw [← hs₂]
    exact hsteps
end Payer
section Calls
variable {p : Program} {l : Launch} {e : Env} {R : Room} {s : State} {m : MethodId} {args : Array Value} {below : List Frame} {meth : Method} {c : Code} {T : State} {locs : List Loc} {cells slots : Nat}
theorem vx_callV (X : Stand p l e R s m args below meth c T locs cells slots) (hexec : p.tables.exec = Jvm.exec) {own C : String} {index : Nat} {y : MethodName} {bytes : ByteArray} {maxL : Nat} {ret : Option FieldType}
    (hown : s.vm.findClass own = some m.cls) (hlink : (Cond.methodLink own index y).before args s = true) (hinst : (Cond.instanceMethod y).before args s = true) (hsel : (Cond.selects C y y).before args s = true)
    (hcode : (Cond.code y bytes maxL ret).before args s = true) (hy : y.cls ≠ "java/lang/invoke/MethodHandle" ∧ y.cls ≠ "java/lang/invoke/VarHandle")
    {W9 : Nat} {Pre : Pt → Array Value → Prop} {Post : Pt → Array Value → Option Value → Pt → Prop} {PostX : Pt → Array Value → Addr → Pt → Prop} (hK : vx_Back l R p e below s args y 3 W9 Pre Post PostX)
    {b : Addr} {cellB : Cell} (hcell : T.heap[b]? = some cellB) (hobj : cellB.vm.isStatics = false) (hcls : s.vm.findClass C = some cellB.cls)
    {g : JFrame} (hg : g.method = m) (hsize : g.locals.size = c.maxLocals) {argsL rest : List Value} (hlen : ∀ sig, parseMethodDescriptor y.desc = some sig → argsL.length = sig.parameters.length)
    (hstack : g.stack = argsL.reverse ++ .ref b :: rest) (hW : 2 * g.monitorRoom + (rest.map fun v => v.category).sum ≤ W9) (hdg : decode c.code g.pc = .ok (.invokevirtual index, 3))
    (hpre : ∀ vm₁, s.WarmedH vm₁ → Pre ⟨T.setVm vm₁, locs, cells, slots⟩ (Value.ref b :: argsL).toArray) :
    (∃ (v : Option Value) (vm₁ : Vm) (B : Pt), s.WarmedH vm₁ ∧ Stand p l e R s m args below meth c B.U B.locs B.cells B.slots ∧ Post ⟨T.setVm vm₁, locs, cells, slots⟩ (Value.ref b :: argsL).toArray v B ∧
      ∀ target, Steps p.tables e below (B.U.setTop { g with pc := g.pc + 3, stack := v.toList ++ rest }) target → Steps p.tables e below (T.setTop g) target) ∨
    (∃ (q : Addr) (vm₁ : Vm) (B : Pt), s.WarmedH vm₁ ∧ Stand p l e R s m args below meth c B.U B.locs B.cells B.slots ∧ PostX ⟨T.setVm vm₁, locs, cells, slots⟩ (Value.ref b :: argsL).toArray q B ∧
      Steps p.tables e below (T.setTop g) ((B.U.setTop { g with stack := rest }).pushFrame (.throwing q))) := by
  obtain ⟨mk, methM, hnamed, hmethM, hstM, habM⟩ := Cond.instanceMethod_spec hinst
  obtain ⟨methM', cM, hmethM', -, -, -, -, -, -, hsigM⟩ := Cond.code_spec hnamed hcode
  cases hmethM.symm.trans hmethM'
  obtain ⟨c2, r2, m2, q1, q2, q3, q4, kP, hkP, hkPi⟩ := Cond.selects_spec hsel
  cases hcls.symm.trans q1
  cases (State.methodFound?_of_named hnamed hy).symm.trans q2
  cases hnamed.symm.trans q3
  have hselP : selectMethod e.platform s.vm cellB.cls mk = .method mk := by rw [Launch.admits_selectMethod X.admits]; exact q4
  obtain ⟨vm₁, X₁, hstep₁⟩ := X.invokevirtual hexec hown hlink hnamed hmethM hstM hkP hkPi hy (a := b) (cell := cellB) hcell
    (fun z h => by rw [h] at hobj; cases hobj) hselP hmethM habM hkP hkPi (g := g) hg (argsL := argsL) (rest := rest) (hlen _ hsigM) hstack hdg
  rcases hK m meth c ⟨T.setVm vm₁, locs, cells, slots⟩ { g with stack := rest } (.invokevirtual index) mk (Value.ref b :: argsL).toArray X₁ hg hsize hdg hW (X₁.named hnamed) (hpre vm₁ X₁.warmed) with ⟨v, B, X', hpost, hsteps⟩ | ⟨q, B, X', hpost, hsteps⟩
  · exact Or.inl ⟨v, vm₁, B, X₁.warmed, X', hpost, fun target h => hstep₁ _ fun acts => by rw [doInvoke_state]; exact hsteps.trans h⟩
  · exact Or.inr ⟨q, vm₁, B, X₁.warmed, X', hpost, hstep₁ _ fun acts => by rw [doInvoke_state]; exact hsteps⟩
theorem vx_callS (X : Stand p l e R s m args below meth c T locs cells slots) (hexec : p.tables.exec = Jvm.exec) {own : String} {index : Nat} {y : MethodName} {bytes : ByteArray} {maxL : Nat} {ret : Option FieldType}
    (hown : s.vm.findClass own = some m.cls) (hlink : (Cond.methodLink own index y).before args s = true) (hstat : (Cond.static y).before args s = true) (hinit : (Cond.initialized y.cls).before args s = true)
    (hcode : (Cond.code y bytes maxL ret).before args s = true) (hy : y.cls ≠ "java/lang/invoke/MethodHandle" ∧ y.cls ≠ "java/lang/invoke/VarHandle")
    {W9 : Nat} {Pre : Pt → Array Value → Prop} {Post : Pt → Array Value → Option Value → Pt → Prop} {PostX : Pt → Array Value → Addr → Pt → Prop} (hK : vx_Back l R p e below s args y 3 W9 Pre Post PostX)
    {g : JFrame} (hg : g.method = m) (hsize : g.locals.size = c.maxLocals) {argsL rest : List Value} (hlen : ∀ sig, parseMethodDescriptor y.desc = some sig → argsL.length = sig.parameters.length)
    (hstack : g.stack = argsL.reverse ++ rest) (hW : 2 * g.monitorRoom + (rest.map fun v => v.category).sum ≤ W9) (hdg : decode c.code g.pc = .ok (.invokestatic index, 3))
    (hpre : ∀ vm₁, s.WarmedH vm₁ → Pre ⟨T.setVm vm₁, locs, cells, slots⟩ argsL.toArray) :
    (∃ (v : Option Value) (vm₁ : Vm) (B : Pt), s.WarmedH vm₁ ∧ Stand p l e R s m args below meth c B.U B.locs B.cells B.slots ∧ Post ⟨T.setVm vm₁, locs, cells, slots⟩ argsL.toArray v B ∧
      ∀ target, Steps p.tables e below (B.U.setTop { g with pc := g.pc + 3, stack := v.toList ++ rest }) target → Steps p.tables e below (T.setTop g) target) ∨
    (∃ (q : Addr) (vm₁ : Vm) (B : Pt), s.WarmedH vm₁ ∧ Stand p l e R s m args below meth c B.U B.locs B.cells B.slots ∧ PostX ⟨T.setVm vm₁, locs, cells, slots⟩ argsL.toArray q B ∧
      Steps p.tables e below (T.setTop g) ((B.U.setTop { g with stack := rest }).pushFrame (.throwing q))) := by
  obtain ⟨mk, hnamed⟩ := Cond.code_named hcode
  obtain ⟨methM, cM, hmethM, -, -, -, -, -, -, hsigM⟩ := Cond.code_spec hnamed hcode
  have hstatic : methM.isStatic = true := Cond.static_spec hnamed hmethM hstat
  obtain ⟨kP, hkP, -⟩ := className_of_methodNamed hnamed
  have hinitP : kP.init = .initialized := Cond.initialized_spec (findClass_of_methodNamed hnamed) hkP hinit
  obtain ⟨vm₁, X₁, hstep₁⟩ := X.invokestatic hexec hown hlink hnamed hmethM hstatic hkP hinitP hy (g := g) hg (argsL := argsL) (rest := rest) (hlen _ hsigM) hstack hdg
  rcases hK m meth c ⟨T.setVm vm₁, locs, cells, slots⟩ { g with stack := rest } (.invokestatic index) mk argsL.toArray X₁ hg hsize hdg hW (X₁.named hnamed) (hpre vm₁ X₁.warmed) with ⟨v, B, X', hpost, hsteps⟩ | ⟨q, B, X', hpost, hsteps⟩
  · exact Or.inl ⟨v, vm₁, B, X₁.warmed, X', hpost, fun target h => hstep₁ _ fun acts => by rw [doInvoke_state]; exact hsteps.trans h⟩
  · exact Or.inr ⟨q, vm₁, B, X₁.warmed, X', hpost, hstep₁ _ fun acts => by rw [doInvoke_state]; exact hsteps⟩
end Calls
theorem vx_cls {s : State} {T : State} {vm₁ : Vm} {E : String} {k : ClassId} (hW : s.WarmedH vm₁) (h : (T.setVm vm₁).vm.findClass E = some k) : s.vm.findClass E = some k := by
  have h1 : vm₁.findClass E = some k := h
  rw [hW.alike.findClass] at h1
  exact h1
/-- the method's frame g, with q thrown over it -/
def vx_W (p : Program) (l : Launch) (e : Env) (R : Room) (s : State) (m : MethodId) (args : Array Value) (below : List Frame) (meth : Method) (c : Code) (H : Heap) (locs : List Loc) (cells slots : Nat) (Q : State → Prop) (g : JFrame) (q : Addr) : Prop :=
  ∀ T : State, T.heap = H → Stand p l e R s m args below meth c T locs cells slots → ∃ t, Steps p.tables e below ((T.setTop g).pushFrame (.throwing q)) t ∧ Q t
def vx_Run (p : Program) (l : Launch) (e : Env) (R : Room) (s : State) (m : MethodId) (args : Array Value) (below : List Frame) (meth : Method) (c : Code) (H : Heap) (locs : List Loc) (cells slots mc ms : Nat) (g : JFrame) (rest : List Value) (Qa : State → Outcome → State → Prop) (XC : String → State → State → Prop) (free : Addr → Prop) : Prop :=
  ∀ T : State, T.heap = H → Stand p l e R s m args below meth c T locs cells slots →
    (∃ (v : Option Value) (st₀ t T' : State) (L : List Loc), st₀.heap = H ∧ Stand p l e R s m args below meth c T' (locs ++ L) (cells + mc) (slots + ms) ∧ (∀ q ∈ L, free q.base) ∧ T'.heap = t.heap ∧ T'.vm = t.vm ∧ Qa st₀ (.returned v) t ∧
      Goes p e below T g T' { g with pc := g.pc + 3, stack := v.toList ++ rest }) ∨
    (∃ (q : Addr) (st₀ t T' : State) (L : List Loc) (E : String) (ce : Cell), st₀.heap = H ∧ Stand p l e R s m args below meth c T' (locs ++ L) (cells + mc) (slots + ms) ∧ (∀ z ∈ L, free z.base) ∧ T'.heap = t.heap ∧ T'.vm = t.vm ∧ XC E st₀ t ∧ t.heap[q]? = some ce ∧ ce.vm = .none ∧ s.vm.findClass E = some ce.cls ∧
      Steps p.tables e below (T.setTop g) ((T'.setTop { g with stack := rest }).pushFrame (.throwing q)))
def vx_X {S : Type} (px : S → Prop) (B : String → S → State → Prop) (A : Nat → Prop) : String → State → State → Prop := fun E st t => ∃ u : S, px u ∧ B E u t ∧ va_F A st t
section Runs
variable {p : Program} {l : Launch} {e : Env} {R : Room} {s : State} {m : MethodId} {args : Array Value} {below : List Frame} {meth : Method} {c : Code} {H : Heap} {locs : List Loc} {cells slots : Nat}
variable {y : MethodName} {bytes cc : ByteArray} {maxL nL mc ms n index : Nat} {ret : Option FieldType} {ws : List Cond} {rm : Room} {Pc : Array Value → State → Prop} {Qc : Array Value → State → Outcome → State → Prop} {XC : String → State → State → Prop} {free : Addr → Prop} {Ts : List Cond} {own C : String} {b : Addr} {As rest : List Value} {g : JFrame}
theorem vx_callBack (cb : CallB R s args own index y bytes maxL ret ws rm mc ms n) (hM : vx_Met l y ws rm Pc Qc XC mc ms free) (hbl : FrameBlind Pc) : vx_Back l R p e below s args y 3 8 (PreOf R mc ms Pc) (PostOf Qc mc ms free) (vx_Post XC mc ms free) := by
  obtain ⟨hrc, hrs, hfr, hlo, hws, hcw, -, hini, -⟩ := cb
  exact vx_back (bytes := bytes) (maxL := maxL) (ret := ret) hM hbl hrc hrs hfr hlo hws hcw (fun a' U hW => word_at hW (Or.inl (by first | rfl | simp [Cond.onTables, Cond.keeps, Cond.steady])) hini)
theorem vx_runV (S : CallFix p m c cc nL s args Ts own) (hM : vx_Met l y ws rm Pc Qc XC mc ms free) (cw : CallW R s args own C index y bytes maxL ret ws rm mc ms n) (hp : PreV s H C b Pc As)
    (hg : g.method = m) (hn : As.length = n) (hsize : g.locals.size = nL) (hstack : g.stack = As.reverse ++ .ref b :: rest) (hW : 2 * g.monitorRoom + (rest.map fun v => v.category).sum ≤ 8) (hdg : decode cc g.pc = .ok (.invokevirtual index, 3)) (hf : cells + mc ≤ R.cells ∧ slots + ms ≤ R.slots) :
    vx_Run p l e R s m args below meth c H locs cells slots mc ms g rest (Qc (Value.ref b :: As).toArray) XC free := by
  have hK : vx_Back l R p e below s args y 3 8 (PreOf R mc ms Pc) (PostOf Qc mc ms free) (vx_Post XC mc ms free) := vx_callBack cw.1 hM hp.1
  obtain ⟨⟨-, -, -, -, -, -, hcode, -, hy, hlen, hl⟩, hin, hse⟩ := cw
  obtain ⟨hx, hb, hml, ho, -⟩ := S
  obtain ⟨-, ⟨cellB, hcB, hoB, hclB⟩, hPc⟩ := hp
  intro T hT X
  rcases vx_callV X hx (C := C) (bytes := bytes) (maxL := maxL) (ret := ret) ho hl hin hse hcode hy hK (by rw [hT]; exact hcB) hoB hclB hg (hsize.trans hml.symm) (argsL := As) (rest := rest) (fun sig h => hn.trans (hlen sig h)) hstack hW (by rw [hb]; exact hdg)
    (fun vm₁ hW₁ => ⟨hf.1, hf.2, hPc (T.setVm vm₁) hT hW₁⟩) with ⟨v, vm₁, ⟨U', l2, c2, s2⟩, hW₁, X', ⟨g', mk, t, L, e1, e2, hq, h1, hL, h2, h3⟩, st⟩ | ⟨q, vm₁, ⟨U', l2, c2, s2⟩, hW₁, X', ⟨g', mk, t, L, E, ce, e1, e2, hq, hce, hcv, hcl, h1, hL, h2, h3⟩, st⟩
  · dsimp only [Pt.U, Pt.locs, Pt.cells, Pt.slots] at X' e1 e2 h1 h2 h3 st
    subst h1; subst h2; subst h3
    exact Or.inl ⟨v, (T.setVm vm₁).calling g' mk (Value.ref b :: As).toArray, t, U', L, hT, X', hL, e1, e2, hq, st⟩
  · dsimp only [Pt.U, Pt.locs, Pt.cells, Pt.slots] at X' e1 e2 h1 h2 h3 st hcl
    subst h1; subst h2; subst h3
    exact Or.inr ⟨q, (T.setVm vm₁).calling g' mk (Value.ref b :: As).toArray, t, U', L, E, ce, hT, X', hL, e1, e2, hq, hce, hcv, vx_cls hW₁ hcl, st⟩
theorem vx_runS (S : CallFix p m c cc nL s args Ts own) (hM : vx_Met l y ws rm Pc Qc XC mc ms free) (cw : CallB R s args own index y bytes maxL ret ws rm mc ms n ∧ (Cond.static y).before args s = true) (hp : PreS s H Pc As)
    (hg : g.method = m) (hn : As.length = n) (hsize : g.locals.size = nL) (hstack : g.stack = As.reverse ++ rest) (hW : 2 * g.monitorRoom + (rest.map fun v => v.category).sum ≤ 8) (hdg : decode cc g.pc = .ok (.invokestatic index, 3)) (hf : cells + mc ≤ R.cells ∧ slots + ms ≤ R.slots) :
    vx_Run p l e R s m args below meth c H locs cells slots mc ms g rest (Qc As.toArray) XC free := by
  have hK : vx_Back l R p e below s args y 3 8 (PreOf R mc ms Pc) (PostOf Qc mc ms free) (vx_Post XC mc ms free) := vx_callBack cw.1 hM hp.1
  obtain ⟨⟨-, -, -, -, -, -, hcode, hini, hy, hlen, hl⟩, hstt⟩ := cw
  obtain ⟨hx, hb, hml, ho, -⟩ := S
  intro T hT X
  rcases vx_callS X hx (bytes := bytes) (maxL := maxL) (ret := ret) ho hl hstt hini hcode hy hK hg (hsize.trans hml.symm) (argsL := As) (rest := rest) (fun sig h => hn.trans (hlen sig h)) hstack hW (by rw [hb]; exact hdg)
    (fun vm₁ hW₁ => ⟨hf.1, hf.2, hp.2 (T.setVm vm₁) hT hW₁⟩) with ⟨v, vm₁, ⟨U', l2, c2, s2⟩, hW₁, X', ⟨g', mk, t, L, e1, e2, hq, h1, hL, h2, h3⟩, st⟩ | ⟨q, vm₁, ⟨U', l2, c2, s2⟩, hW₁, X', ⟨g', mk, t, L, E, ce, e1, e2, hq, hce, hcv, hcl, h1, hL, h2, h3⟩, st⟩
  · dsimp only [Pt.U, Pt.locs, Pt.cells, Pt.slots] at X' e1 e2 h1 h2 h3 st
    subst h1; subst h2; subst h3
    exact Or.inl ⟨v, (T.setVm vm₁).calling g' mk As.toArray, t, U', L, hT, X', hL, e1, e2, hq, st⟩
  · dsimp only [Pt.U, Pt.locs, Pt.cells, Pt.slots] at X' e1 e2 h1 h2 h3 st hcl
    subst h1; subst h2; subst h3
    exact Or.inr ⟨q, (T.setVm vm₁).calling g' mk As.toArray, t, U', L, E, ce, hT, X', hL, e1, e2, hq, hce, hcv, vx_cls hW₁ hcl, st⟩
end Runs
section Rows
variable {p : Program} {l : Launch} {e : Env} {R : Room} {s : State} {m : MethodId} {args : Array Value} {below : List Frame} {meth : Method} {c : Code} {H : Heap} {locs : List Loc} {cells slots : Nat} {Q : State → Prop}
variable {mc ms : Nat} {free : Addr → Prop} {A0 A1 : Nat → Prop} {H0 : Heap} {a : Array Value} {pc : Nat} {ls : Array Slot} {st0 rest : List Value}
theorem vx_keep {st₀ t T' : State} {L : List Loc} (h0 : st₀.heap = H) (e1 : T'.heap = t.heap) (hS : va_S A0 H0 H locs) (hA : ∀ q, q < H.size → A1 q → A0 q) (hf : ∀ q, free q → A0 q) (hL : ∀ q ∈ L, free q.base) (hF : va_F A1 st₀ t) :
    H.size ≤ T'.heap.size ∧ (∀ q : Nat, q < H.size → ¬ A1 q → T'.heap[q]? = H[q]?) ∧ va_S A0 H0 T'.heap (locs ++ L) := by
  obtain ⟨hz, hk⟩ := hF
  rw [h0] at hz hk
  exact ⟨by rw [e1]; exact hz, fun q h1 h2 => by rw [e1]; exact hk q h1 h2,
    ⟨Nat.le_trans hS.1 (by rw [e1]; exact hz), fun q h1 h2 => by rw [e1, hk q (Nat.lt_of_lt_of_le h1 hS.1) (fun z => h2 (hA q (Nat.lt_of_lt_of_le h1 hS.1) z))]; exact hS.2.1 q h1 h2, fun q hq => by
      rcases List.mem_append.mp hq with h | h
      · exact hS.2.2 q h
      · exact hf _ (hL q h)⟩⟩
theorem vx_calli {S SX : Type} {post : Int32 → S → Prop} {px : SX → Prop} {B : S → State → Prop} {BX : String → SX → State → Prop} {AX : Nat → Prop} (hr : vx_Run p l e R s m args below meth c H locs cells slots mc ms (F0 m pc ls st0) rest (va_Qi post B A1 a) (vx_X px BX AX) free) (hS : va_S A0 H0 H locs) (hA : ∀ q, q < H.size → A1 q → A0 q) (hf : ∀ q, free q → A0 q) (hAX : ∀ q, q < H.size → AX q → A0 q)
    (kx : ∀ (E : String) (ce : Cell) (q9 : Addr) (u : SX) (t : State) (H1 : Heap) (locs1 : List Loc), t.heap = H1 → s.vm.Alike t.vm → px u → BX E u t → H.size ≤ H1.size → (∀ q : Nat, q < H.size → ¬ AX q → H1[q]? = H[q]?) → va_S A0 H0 H1 locs1 → H1[q9]? = some ce → ce.vm = .none → s.vm.findClass E = some ce.cls → vx_W p l e R s m args below meth c H1 locs1 (cells + mc) (slots + ms) Q (F0 m pc ls rest) q9)
    (kk : ∀ (r : Int32) (u : S) (t : State) (H1 : Heap) (locs1 : List Loc), t.heap = H1 → s.vm.Alike t.vm → post r u → B u t → H.size ≤ H1.size → (∀ q : Nat, q < H.size → ¬ A1 q → H1[q]? = H[q]?) → va_S A0 H0 H1 locs1 → W p l e R s m args below meth c H1 locs1 (cells + mc) (slots + ms) Q (F0 m (pc + 3) ls (.int r :: rest))) : W p l e R s m args below meth c H locs cells slots Q (F0 m pc ls st0) := by
  intro T hT X
  rcases hr T hT X with ⟨v, st₀, t, T', L, h0, X', hL, e1, e2, ⟨⟨r, u, hv, hp, hb⟩, hF⟩, st⟩ | ⟨q, st₀, t, T', L, E, ce, h0, X', hL, e1, e2, ⟨u, hp, hb, hF⟩, hce, hcv, hcl, st⟩
  · cases hv
    obtain ⟨k1, k2, k3⟩ := vx_keep h0 e1 hS hA hf hL hF
    obtain ⟨t2, a1, b1⟩ := kk r u t T'.heap (locs ++ L) e1.symm (by rw [← e2]; exact X'.warmed.alike) hp hb k1 k2 k3 T' rfl X'
    exact ⟨t2, st t2 a1, b1⟩
  · obtain ⟨k1, k2, k3⟩ := vx_keep h0 e1 hS hAX hf hL hF
    obtain ⟨t2, a1, b1⟩ := kx E ce q u t T'.heap (locs ++ L) e1.symm (by rw [← e2]; exact X'.warmed.alike) hp hb k1 k2 k3 (by rw [e1]; exact hce) hcv hcl T' rfl X'
    exact ⟨t2, st.trans a1, b1⟩
theorem vx_calll {S SX : Type} {post : Int64 → S → Prop} {px : SX → Prop} {B : S → State → Prop} {BX : String → SX → State → Prop} {AX : Nat → Prop} (hr : vx_Run p l e R s m args below meth c H locs cells slots mc ms (F0 m pc ls st0) rest (va_Ql post B A1 a) (vx_X px BX AX) free) (hS : va_S A0 H0 H locs) (hA : ∀ q, q < H.size → A1 q → A0 q) (hf : ∀ q, free q → A0 q) (hAX : ∀ q, q < H.size → AX q → A0 q)
    (kx : ∀ (E : String) (ce : Cell) (q9 : Addr) (u : SX) (t : State) (H1 : Heap) (locs1 : List Loc), t.heap = H1 → s.vm.Alike t.vm → px u → BX E u t → H.size ≤ H1.size → (∀ q : Nat, q < H.size → ¬ AX q → H1[q]? = H[q]?) → va_S A0 H0 H1 locs1 → H1[q9]? = some ce → ce.vm = .none → s.vm.findClass E = some ce.cls → vx_W p l e R s m args below meth c H1 locs1 (cells + mc) (slots + ms) Q (F0 m pc ls rest) q9)
    (kk : ∀ (r : Int64) (u : S) (t : State) (H1 : Heap) (locs1 : List Loc), t.heap = H1 → s.vm.Alike t.vm → post r u → B u t → H.size ≤ H1.size → (∀ q : Nat, q < H.size → ¬ A1 q → H1[q]? = H[q]?) → va_S A0 H0 H1 locs1 → W p l e R s m args below meth c H1 locs1 (cells + mc) (slots + ms) Q (F0 m (pc + 3) ls (.long r :: rest))) : W p l e R s m args below meth c H locs cells slots Q (F0 m pc ls st0) := by
  intro T hT X
  rcases hr T hT X with ⟨v, st₀, t, T', L, h0, X', hL, e1, e2, ⟨⟨r, u, hv, hp, hb⟩, hF⟩, st⟩ | ⟨q, st₀, t, T', L, E, ce, h0, X', hL, e1, e2, ⟨u, hp, hb, hF⟩, hce, hcv, hcl, st⟩
  · cases hv
    obtain ⟨k1, k2, k3⟩ := vx_keep h0 e1 hS hA hf hL hF
    obtain ⟨t2, a1, b1⟩ := kk r u t T'.heap (locs ++ L) e1.symm (by rw [← e2]; exact X'.warmed.alike) hp hb k1 k2 k3 T' rfl X'
    exact ⟨t2, st t2 a1, b1⟩
  · obtain ⟨k1, k2, k3⟩ := vx_keep h0 e1 hS hAX hf hL hF
    obtain ⟨t2, a1, b1⟩ := kx E ce q u t T'.heap (locs ++ L) e1.symm (by rw [← e2]; exact X'.warmed.alike) hp hb k1 k2 k3 (by rw [e1]; exact hce) hcv hcl T' rfl X'
    exact ⟨t2, st.trans a1, b1⟩
theorem vx_callf {S SX : Type} {post : UInt32 → S → Prop} {px : SX → Prop} {B : S → State → Prop} {BX : String → SX → State → Prop} {AX : Nat → Prop} (hr : vx_Run p l e R s m args below meth c H locs cells slots mc ms (F0 m pc ls st0) rest (va_Qf post B A1 a) (vx_X px BX AX) free) (hS : va_S A0 H0 H locs) (hA : ∀ q, q < H.size → A1 q → A0 q) (hf : ∀ q, free q → A0 q) (hAX : ∀ q, q < H.size → AX q → A0 q)
    (kx : ∀ (E : String) (ce : Cell) (q9 : Addr) (u : SX) (t : State) (H1 : Heap) (locs1 : List Loc), t.heap = H1 → s.vm.Alike t.vm → px u → BX E u t → H.size ≤ H1.size → (∀ q : Nat, q < H.size → ¬ AX q → H1[q]? = H[q]?) → va_S A0 H0 H1 locs1 → H1[q9]? = some ce → ce.vm = .none → s.vm.findClass E = some ce.cls → vx_W p l e R s m args below meth c H1 locs1 (cells + mc) (slots + ms) Q (F0 m pc ls rest) q9)
    (kk : ∀ (r : UInt32) (u : S) (t : State) (H1 : Heap) (locs1 : List Loc), t.heap = H1 → s.vm.Alike t.vm → post r u → B u t → H.size ≤ H1.size → (∀ q : Nat, q < H.size → ¬ A1 q → H1[q]? = H[q]?) → va_S A0 H0 H1 locs1 → W p l e R s m args below meth c H1 locs1 (cells + mc) (slots + ms) Q (F0 m (pc + 3) ls (.float r :: rest))) : W p l e R s m args below meth c H locs cells slots Q (F0 m pc ls st0) := by
  intro T hT X
  rcases hr T hT X with ⟨v, st₀, t, T', L, h0, X', hL, e1, e2, ⟨⟨r, u, hv, hp, hb⟩, hF⟩, st⟩ | ⟨q, st₀, t, T', L, E, ce, h0, X', hL, e1, e2, ⟨u, hp, hb, hF⟩, hce, hcv, hcl, st⟩
  · cases hv
    obtain ⟨k1, k2, k3⟩ := vx_keep h0 e1 hS hA hf hL hF
    obtain ⟨t2, a1, b1⟩ := kk r u t T'.heap (locs ++ L) e1.symm (by rw [← e2]; exact X'.warmed.alike) hp hb k1 k2 k3 T' rfl X'
    exact ⟨t2, st t2 a1, b1⟩
  · obtain ⟨k1, k2, k3⟩ := vx_keep h0 e1 hS hAX hf hL hF
    obtain ⟨t2, a1, b1⟩ := kx E ce q u t T'.heap (locs ++ L) e1.symm (by rw [← e2]; exact X'.warmed.alike) hp hb k1 k2 k3 (by rw [e1]; exact hce) hcv hcl T' rfl X'
    exact ⟨t2, st.trans a1, b1⟩
theorem vx_calld {S SX : Type} {post : UInt64 → S → Prop} {px : SX → Prop} {B : S → State → Prop} {BX : String → SX → State → Prop} {AX : Nat → Prop} (hr : vx_Run p l e R s m args below meth c H locs cells slots mc ms (F0 m pc ls st0) rest (va_Qd post B A1 a) (vx_X px BX AX) free) (hS : va_S A0 H0 H locs) (hA : ∀ q, q < H.size → A1 q → A0 q) (hf : ∀ q, free q → A0 q) (hAX : ∀ q, q < H.size → AX q → A0 q)
    (kx : ∀ (E : String) (ce : Cell) (q9 : Addr) (u : SX) (t : State) (H1 : Heap) (locs1 : List Loc), t.heap = H1 → s.vm.Alike t.vm → px u → BX E u t → H.size ≤ H1.size → (∀ q : Nat, q < H.size → ¬ AX q → H1[q]? = H[q]?) → va_S A0 H0 H1 locs1 → H1[q9]? = some ce → ce.vm = .none → s.vm.findClass E = some ce.cls → vx_W p l e R s m args below meth c H1 locs1 (cells + mc) (slots + ms) Q (F0 m pc ls rest) q9)
    (kk : ∀ (r : UInt64) (u : S) (t : State) (H1 : Heap) (locs1 : List Loc), t.heap = H1 → s.vm.Alike t.vm → post r u → B u t → H.size ≤ H1.size → (∀ q : Nat, q < H.size → ¬ A1 q → H1[q]? = H[q]?) → va_S A0 H0 H1 locs1 → W p l e R s m args below meth c H1 locs1 (cells + mc) (slots + ms) Q (F0 m (pc + 3) ls (.double r :: rest))) : W p l e R s m args below meth c H locs cells slots Q (F0 m pc ls st0) := by
  intro T hT X
  rcases hr T hT X with ⟨v, st₀, t, T', L, h0, X', hL, e1, e2, ⟨⟨r, u, hv, hp, hb⟩, hF⟩, st⟩ | ⟨q, st₀, t, T', L, E, ce, h0, X', hL, e1, e2, ⟨u, hp, hb, hF⟩, hce, hcv, hcl, st⟩
  · cases hv
    obtain ⟨k1, k2, k3⟩ := vx_keep h0 e1 hS hA hf hL hF
    obtain ⟨t2, a1, b1⟩ := kk r u t T'.heap (locs ++ L) e1.symm (by rw [← e2]; exact X'.warmed.alike) hp hb k1 k2 k3 T' rfl X'
    exact ⟨t2, st t2 a1, b1⟩
  · obtain ⟨k1, k2, k3⟩ := vx_keep h0 e1 hS hAX hf hL hF
    obtain ⟨t2, a1, b1⟩ := kx E ce q u t T'.heap (locs ++ L) e1.symm (by rw [← e2]; exact X'.warmed.alike) hp hb k1 k2 k3 (by rw [e1]; exact hce) hcv hcl T' rfl X'
    exact ⟨t2, st.trans a1, b1⟩
theorem vx_callv {S SX : Type} {post : S → Prop} {px : SX → Prop} {B : S → State → Prop} {BX : String → SX → State → Prop} {AX : Nat → Prop} (hr : vx_Run p l e R s m args below meth c H locs cells slots mc ms (F0 m pc ls st0) rest (va_Qv post B A1 a) (vx_X px BX AX) free) (hS : va_S A0 H0 H locs) (hA : ∀ q, q < H.size → A1 q → A0 q) (hf : ∀ q, free q → A0 q) (hAX : ∀ q, q < H.size → AX q → A0 q)
    (kx : ∀ (E : String) (ce : Cell) (q9 : Addr) (u : SX) (t : State) (H1 : Heap) (locs1 : List Loc), t.heap = H1 → s.vm.Alike t.vm → px u → BX E u t → H.size ≤ H1.size → (∀ q : Nat, q < H.size → ¬ AX q → H1[q]? = H[q]?) → va_S A0 H0 H1 locs1 → H1[q9]? = some ce → ce.vm = .none → s.vm.findClass E = some ce.cls → vx_W p l e R s m args below meth c H1 locs1 (cells + mc) (slots + ms) Q (F0 m pc ls rest) q9)
    (kk : ∀ (u : S) (t : State) (H1 : Heap) (locs1 : List Loc), t.heap = H1 → s.vm.Alike t.vm → post u → B u t → H.size ≤ H1.size → (∀ q : Nat, q < H.size → ¬ A1 q → H1[q]? = H[q]?) → va_S A0 H0 H1 locs1 → W p l e R s m args below meth c H1 locs1 (cells + mc) (slots + ms) Q (F0 m (pc + 3) ls (rest))) : W p l e R s m args below meth c H locs cells slots Q (F0 m pc ls st0) := by
  intro T hT X
  rcases hr T hT X with ⟨v, st₀, t, T', L, h0, X', hL, e1, e2, ⟨⟨u, hv, hp, hb⟩, hF⟩, st⟩ | ⟨q, st₀, t, T', L, E, ce, h0, X', hL, e1, e2, ⟨u, hp, hb, hF⟩, hce, hcv, hcl, st⟩
  · cases hv
    obtain ⟨k1, k2, k3⟩ := vx_keep h0 e1 hS hA hf hL hF
    obtain ⟨t2, a1, b1⟩ := kk u t T'.heap (locs ++ L) e1.symm (by rw [← e2]; exact X'.warmed.alike) hp hb k1 k2 k3 T' rfl X'
    exact ⟨t2, st t2 a1, b1⟩
  · obtain ⟨k1, k2, k3⟩ := vx_keep h0 e1 hS hAX hf hL hF
    obtain ⟨t2, a1, b1⟩ := kx E ce q u t T'.heap (locs ++ L) e1.symm (by rw [← e2]; exact X'.warmed.alike) hp hb k1 k2 k3 (by rw [e1]; exact hce) hcv hcl T' rfl X'
    exact ⟨t2, st.trans a1, b1⟩
/-- caught by the row x of this method's table; the rows ahead don't take it -/
theorem vx_catch {own name : String} {E : String} {ce : Cell} {q : Addr} (hown : s.vm.findClass own = some m.cls) (pre : List ExceptionTableEntry) (x : ExceptionTableEntry) (suf : List ExceptionTableEntry) (hsplit : c.exceptionTable.toList = pre ++ x :: suf)
    (hpass : ∀ z ∈ pre, covers z pc = false ∨ (z.catchType ≠ 0 ∧ ∃ nm : String, (Cond.classLink own z.catchType nm).before args s = true ∧ va_Nc E nm s)) (hx : covers x pc = true) (h0 : x.catchType ≠ 0)
    (hlink : (Cond.classLink own x.catchType name).before args s = true) (hcast : (Cond.castable E name).before args s = true) (hcell : H[q]? = some ce) (hv : ce.vm = .none) (hcl : s.vm.findClass E = some ce.cls)
    (kk : W p l e R s m args below meth c H locs cells slots Q (F0 m x.handlerPc ls [.ref q])) : vx_W p l e R s m args below meth c H locs cells slots Q (F0 m pc ls rest) q := by
  intro T hT X
  have hpl : e.platform.magicAccessors = ({} : Platform).magicAccessors := by rw [X.admits.platform]
  obtain ⟨c3, c4, hc3, hc4, hasg⟩ := Cond.castable_spec hcast
  cases Option.some.inj (hc3.symm.trans hcl)
  obtain ⟨c5, hc5, hcl5⟩ := Cond.classLink_spec hown hlink e.platform hpl
  cases Option.some.inj (hc4.symm.trans hc5)
  obtain ⟨vm', X', st⟩ := X.thenCaughtThrough q (g := F0 m pc ls rest) rfl (Steps.refl _) (by rw [hT]; exact hcell) (by rw [hv]; rfl) (by obtain ⟨k9, h9, -⟩ := Vm.findClass_spec hcl; exact ⟨k9, h9⟩) pre x suf hsplit
    (fun z hz => by
      rcases hpass z hz with h | ⟨hz0, nm, hl1, hn1⟩
      · exact Or.inl h
      · obtain ⟨c6, hc6, hcl6⟩ := Cond.classLink_spec hown hl1 e.platform hpl
        obtain ⟨a8, b8, h1, h2, h3⟩ := hn1
        cases Option.some.inj (h1.symm.trans hcl)
        cases Option.some.inj (h2.symm.trans hc6)
        exact Or.inr ⟨hz0, _, hcl6, h3⟩) hx (Or.inr ⟨h0, c4, hcl5, hasg⟩)
  obtain ⟨t, a1, b1⟩ := kk (T.setVm vm') hT X'
  exact ⟨t, st.trans a1, b1⟩
end Rows
section Ends
variable {p : Program} {l : Launch} {e : Env} {R : Room} {s : State} {m : MethodId} {args : Array Value} {below : List Frame} {meth : Method} {c : Code} {H : Heap} {locs : List Loc} {cells slots : Nat} {Q : State → Prop}
variable {mc ms : Nat} {free : Addr → Prop} {A0 A1 : Nat → Prop} {H0 : Heap} {a : Array Value} {ls : Array Slot} {st0 rest : List Value}
variable {Qc : Array Value → State → Outcome → State → Prop} {XC : String → State → State → Prop}
/-- what a body that may throw owes at its end -/
def vx_MQ (below : List Frame) (Qc : Array Value → State → Outcome → State → Prop) (XC : String → State → State → Prop) (a : Array Value) (s : State) (mc ms : Nat) (free : Addr → Prop) : State → Prop := fun t =>
  ∃ o, t.status = .running ∧ Ended t below o ∧ vx_Q Qc XC mc ms free a s o t
theorem vx_ret {g : JFrame} {mc ms : Nat} (k : W p l e R s m args below meth c H locs cells slots (MQ below Qc args s mc ms free) g) : W p l e R s m args below meth c H locs cells slots (vx_MQ below Qc XC args s mc ms free) g := by
  intro T hT X
  obtain ⟨t, a1, o, b1, b2, b3, b4⟩ := k T hT X
  exact ⟨t, a1, o, b1, b2, Or.inl ⟨b3, b4⟩⟩
/-- not caught here: it goes on to the caller -/
theorem vx_widen {g : JFrame} {q : Addr} {k n : Nat} (h1 : cells ≤ k) (h2 : slots ≤ n) (kk : vx_W p l e R s m args below meth c H locs k n Q g q) : vx_W p l e R s m args below meth c H locs cells slots Q g q := fun T hT X => kk T hT (stand_widen X h1 h2)
theorem vx_out {pc : Nat} {E : String} {ce : Cell} {q : Addr} {mc ms : Nat} (hout : ∀ x ∈ c.exceptionTable.toList, covers x pc = false) (hlocks : meth.locks = false) (hcell : H[q]? = some ce) (hv : ce.vm = .none) (hcl : s.vm.findClass E = some ce.cls)
    (hx : ∀ t : State, t.heap = H → s.vm.Alike t.vm → XC E s t) (hf : ∀ z ∈ locs, free z.base) (hc : cells ≤ mc) (hs : slots ≤ ms) :
    vx_W p l e R s m args below meth c H locs cells slots (vx_MQ below Qc XC args s mc ms free) (F0 m pc ls rest) q := by
  intro T hT X
  obtain ⟨st1, hrun, hend, hW, hsm⟩ := X.leaveThrown q (g := F0 m pc ls rest) rfl rfl rfl hout hlocks
  have hcell9 : (T.setFrames (.throwing q :: below)).heap[q]? = some ce := by
    show T.heap[q]? = some ce
    rw [hT]; exact hcell
  exact ⟨_, st1, .threw q, hrun, hend, Or.inr ⟨q, rfl, E, ce, locs, hx _ hT hW.alike, hcell9, hv, hcl, hW, hsm.mono hc hs, hf⟩⟩
theorem vx_frame {U : State} {k n : Nat} (h : s.sameButNew ({ U with vm := s.vm } : State) locs k n) : s.heap.size ≤ U.heap.size ∧ ∀ q : Nat, q < s.heap.size → (∀ z ∈ locs, z.base ≠ q) → U.heap[q]? = s.heap[q]? := by
  obtain ⟨-, h2, -, -, -, h6⟩ := h
  refine ⟨h2, fun q hq hz => ?_⟩
  obtain ⟨c9, e1, e2, e3, e4⟩ := h6 q _ (Array.getElem?_eq_getElem hq)
  have hs : c9.slots = (s.heap[q]).slots := Array.ext_getElem? fun i => e4 i fun hm => hz _ hm rfl
  have h9 : c9 = s.heap[q] := by
    rw [hs] at e2
    exact e2
  have e5 : U.heap[q]? = some c9 := e1
  rw [e5, h9, Array.getElem?_eq_getElem hq]
/-- the words of a throw but the four that speak of the heap -/
def vx_no (w : Cond) : Bool := decide (w ≠ .isRef (.static Bundle.tN "UNASSIGNED_STACK" Bundle.steD)) && decide (w ≠ .isRef (.static Bundle.tN "SUPPRESSED_SENTINEL" Bundle.listD)) && decide (w ≠ .laysStatic Bundle.tN "UNASSIGNED_STACK" Bundle.steD) && decide (w ≠ .laysStatic Bundle.tN "SUPPRESSED_SENTINEL" Bundle.listD)
def vx_at0 (own : String) (ic : Nat) (X : String) (names : List String) : List Cond := (Bundle.ownAtoms0 own ic X names).filter vx_no
def vx_atS (own : String) (ic : Nat) (X : String) (names : List String) : List Cond := (Bundle.ownAtoms own ic X names).filter vx_no
/-- a word that the tables alone decide, or a good one -/
def vx_ot (w : Cond) : Bool := w.onTables || goodWord w
theorem vx_ot_at {args a' : Array Value} {s U : State} {w : Cond} (hW : s.WarmedH U.vm) (hvm : s.vm = U.vm) (hg : vx_ot w = true) (h : w.before args s = true) : w.before a' U = true := by
  simp only [vx_ot, Bool.or_eq_true] at hg
  rcases hg with hg | hg
  · exact va_tabs hg hvm h
  · exact word_at hW (good_of_word hg) h
/-- a list's words: the good ones out of the method's own list, the others by premises of their own -/
theorem vx_hat {args : Array Value} {s : State} {L B : List Cond} (h1 : ∀ w ∈ L.filter goodWord, w.before args s = true) (h2 : ∀ w ∈ L.filter (fun w => !goodWord w), w ∈ B) (h3 : ∀ w ∈ B, w.before args s = true) : ∀ w ∈ L, w.before args s = true := by
  intro w hw
  by_cases g : goodWord w = true
  · exact h1 w (List.mem_filter.mpr ⟨hw, g⟩)
  · refine h3 w (h2 w (List.mem_filter.mpr ⟨hw, ?_⟩))
    show (!goodWord w) = true
    cases hgw : goodWord w
    · rfl
    · exact absurd hgw g
theorem vx_c {args : Array Value} {s : State} {w : Cond} {B : List Cond} (h : w.before args s = true) (t : ∀ w ∈ B, w.before args s = true) : ∀ w' ∈ w :: B, w'.before args s = true := fun w' h' => (List.mem_cons.mp h').elim (fun e => by rw [e]; exact h) (t w')
theorem vx_n {args : Array Value} {s : State} : ∀ w ∈ ([] : List Cond), w.before args s = true := fun _ h => nomatch h
theorem vx_own {args : Array Value} {s : State} {L : List Cond} (h1 : ∀ w ∈ L.filter vx_no, w.before args s = true)
    (hU : (Cond.isRef (.static Bundle.tN "UNASSIGNED_STACK" Bundle.steD)).before args s = true) (hN : (Cond.isRef (.static Bundle.tN "SUPPRESSED_SENTINEL" Bundle.listD)).before args s = true)
    (lU : (Cond.laysStatic Bundle.tN "UNASSIGNED_STACK" Bundle.steD).before args s = true) (lN : (Cond.laysStatic Bundle.tN "SUPPRESSED_SENTINEL" Bundle.listD).before args s = true) : ∀ w ∈ L, w.before args s = true := by
  intro w hw
  by_cases e1 : w = .isRef (.static Bundle.tN "UNASSIGNED_STACK" Bundle.steD)
  · rw [e1]; exact hU
  · by_cases e2 : w = .isRef (.static Bundle.tN "SUPPRESSED_SENTINEL" Bundle.listD)
    · rw [e2]; exact hN
    · by_cases e3 : w = .laysStatic Bundle.tN "UNASSIGNED_STACK" Bundle.steD
      · rw [e3]; exact lU
      · by_cases e4 : w = .laysStatic Bundle.tN "SUPPRESSED_SENTINEL" Bundle.listD
        · rw [e4]; exact lN
        · exact h1 w (List.mem_filter.mpr ⟨hw, by unfold vx_no; rw [decide_eq_true e1, decide_eq_true e2, decide_eq_true e3, decide_eq_true e4]; rfl⟩)
/-- where a static field lies, its class's statics cell in H -/
def vx_L (C n d : String) (A : Nat → Prop) (U : State) (H : Heap) : Prop := ∃ (c : ClassId) (k : Class) (i : Nat) (f : Field) (a : Nat) (cell : Cell), U.vm.findClass C = some c ∧ U.fieldFound? C n d = some (c, k, i, f) ∧ f.isStatic = true ∧ k.statics = some a ∧ H[a]? = some cell ∧ cell.vm.isStatics = true ∧ cell.cls = c ∧ f.slot < cell.slots.size ∧ k.staticTypes[f.slot]? = some f.type ∧ ¬ A a
theorem vx_L.moved {C n d : String} {A : Nat → Prop} {u U : State} {H : Heap} (hvm : u.vm.Alike U.vm) (h : vx_L C n d A u H) : vx_L C n d A U H := by
  obtain ⟨c, k, i, f, a, cell, h1, h2, h3, h4, h5, h6, h7, h8, h9, h10⟩ := h
  obtain ⟨k', hi', he⟩ := State.fieldFound?_setVm hvm h2
  exact ⟨c, k', i, f, a, cell, by rw [hvm.findClass]; exact h1, hi', h3, by rw [he]; exact h4, h5, h6, h7, h8, by rw [he]; exact h9, h10⟩
theorem vx_L.kept {C n d : String} {A : Nat → Prop} {U : State} {H H1 : Heap} (h : vx_L C n d A U H) (hq : ∀ a : Nat, a < H.size → ¬ A a → H1[a]? = H[a]?) : vx_L C n d A U H1 := by
  obtain ⟨c, k, i, f, a, cell, h1, h2, h3, h4, h5, h6, h7, h8, h9, h10⟩ := h
  exact ⟨c, k, i, f, a, cell, h1, h2, h3, h4, by rw [hq a (Array.getElem?_eq_some_iff.mp h5).1 h10]; exact h5, h6, h7, h8, h9, h10⟩
theorem vx_L.narrow {C n d : String} {A B : Nat → Prop} {U : State} {H : Heap} (h : vx_L C n d A U H) (hAB : ∀ q, B q → A q) : vx_L C n d B U H := by
  obtain ⟨c, k, i, f, a, cell, h1, h2, h3, h4, h5, h6, h7, h8, h9, h10⟩ := h
  exact ⟨c, k, i, f, a, cell, h1, h2, h3, h4, h5, h6, h7, h8, h9, fun z => h10 (hAB _ z)⟩
theorem vx_L.word {C n d : String} {A : Nat → Prop} {s : State} {args : Array Value} (h : vx_L C n d A s s.heap) : (Cond.laysStatic C n d).before args s = true := by
  obtain ⟨c, k, i, f, a, cell, h1, h2, h3, h4, h5, h6, h7, h8, h9, -⟩ := h
  show (Cond.laysStatic C n d).holds args s none s [] = true
  exact Cond.laysStatic_of h1 h2 h3 h4 h5 h6 h7 h8 h9
/-- .. and what it holds: null or some reference -/
def vx_Zq (C n d : String) (A : Nat → Prop) (U : State) (H : Heap) : Prop := va_Zq C n d A U H ∧ vx_L C n d A U H
theorem vx_Zq.moved {C n d : String} {A : Nat → Prop} {u U : State} {H : Heap} (hvm : u.vm.Alike U.vm) (h : vx_Zq C n d A u H) : vx_Zq C n d A U H := ⟨va_Zq.moved hvm h.1, vx_L.moved hvm h.2⟩
theorem vx_Zq.kept {C n d : String} {A : Nat → Prop} {U : State} {H H1 : Heap} (h : vx_Zq C n d A U H) (hq : ∀ a : Nat, a < H.size → ¬ A a → H1[a]? = H[a]?) : vx_Zq C n d A U H1 := ⟨va_Zq.kept h.1 hq, vx_L.kept h.2 hq⟩
theorem vx_Zq.narrow {C n d : String} {A B : Nat → Prop} {U : State} {H : Heap} (h : vx_Zq C n d A U H) (hAB : ∀ q, B q → A q) : vx_Zq C n d B U H := ⟨va_Zq.narrow h.1 hAB, vx_L.narrow h.2 hAB⟩
theorem vx_Zqof {args : Array Value} {s : State} {C n d : String} {A : Nat → Prop} (hl : (Cond.laysStatic C n d).before args s = true) (hini : (Cond.initialized C).before args s = true) (h : (Cond.isRef (.static C n d)).before args s = true) (hA : ∀ a : Nat, a < s.heap.size → ¬ A a) : vx_Zq C n d A s s.heap := by
  refine ⟨va_Zqof hl hini h hA, ?_⟩
  obtain ⟨c, k, i, f, a, cell, h1, h2, h3, h4, h5, h6, h7, h8, h9⟩ := Cond.laysStatic_spec hl
  exact ⟨c, k, i, f, a, cell, h1, h2, h3, h4, h5, h6, h7, h8, h9, hA a (Array.getElem?_eq_some_iff.mp h5).1⟩
theorem vx_isRef {C n d : String} {v : Value} {A : Nat → Prop} {s : State} {args : Array Value} (h : va_Z C n d v A s s.heap) (hv : v.isRef = true) : (Cond.isRef (.static C n d)).before args s = true := by
  obtain ⟨cf, kf, fi, f, a, cell, h1, h2, h3, h4, h5, h6, h7, -⟩ := h
  have he : (Term.static C n d).eval args s none [] s = some v := by
    simp [Term.eval, State.fieldNamed?, h1, h2, h4, h5, h6, h7]
  simp only [Cond.before, Cond.holds, Cond.value, he]
  cases v <;> simp_all [Value.isRef]
theorem vx_isRefq {C n d : String} {A : Nat → Prop} {s : State} {args : Array Value} (h : va_Zq C n d A s s.heap) : (Cond.isRef (.static C n d)).before args s = true := by
  rcases h with h | ⟨t, h⟩
  · exact vx_isRef h rfl
  · exact vx_isRef h rfl
/-- the same frame, seen from here: as if the method were called anew in this heap -/
theorem vx_rebase {T : State} (X : Stand p l e R s m args below meth c T locs cells slots) {R' : Room} (hf : R'.frames ≤ R.frames) (hl : R'.locals ≤ R.locals) (hc : cells + R'.cells ≤ R.cells) (hs : slots + R'.slots ≤ R.slots) :
    Stand p l e R' ((T.setVm s.vm).setFrames (.invoking m args :: below)) m args below meth c T [] 0 0 := by
  have htop : (T.setVm s.vm).topJava?.isSome := X.here.top
  have hF : ((T.setVm s.vm).setFrames (.invoking m args :: below)).frames = .invoking m args :: below := State.frames_setFrames _ (State.cur_lt_of_top htop)
  obtain ⟨g₀, hg0⟩ := Option.isSome_iff_exists.mp htop
  obtain ⟨r, hr⟩ := State.topJava?_eq_some.mp hg0
  have hl9 : e.platform.stackLimits (T.setVm s.vm).me = e.platform.stackLimits s.me := X.limits
  have hb9 : (T.setVm s.vm).me.stackBytes = s.me.stackBytes := X.bytes
  refine ⟨X.admits, X.cas, X.clock, hF, ?_, X.hears, X.method, X.code, X.here, X.tail, X.warmed, ?_, ?_, ?_⟩
  · have h := X.room
    have hU : ((T.setVm s.vm).setFrames (.invoking m args :: below)).localsInUse = s.localsInUse := by
      rw [State.localsInUse_invoking hF (meth := meth) (c := c) X.method X.code, State.localsInUse_invoking X.frames X.method X.code]
    simp only [State.hasRoom, Bool.and_eq_true, decide_eq_true_eq] at h ⊢
    obtain ⟨⟨⟨⟨h1, h2, h3, h4, h5, h6⟩, h7⟩, h8⟩, h9⟩ := h
    rw [X.frames, List.length_cons] at h2 h3
    have q1 := X.heapSize
    have q2 := X.used
    simp only [hF, hU, List.length_cons, State.stackLimits_setFrames, State.stackBytes_setFrames, hl9, hb9]
    refine ⟨⟨⟨⟨by omega, by omega, by omega, by omega, by omega, h6⟩, ?_⟩, ?_⟩, X.book⟩
    · show T.heap.size + R'.cells ≤ e.platform.maxCells
      omega
    · show T.slotsUsed + R'.slots ≤ e.platform.maxSlots
      omega
  · rw [State.stackLimits_setFrames]; rfl
  · rw [State.stackBytes_setFrames]; rfl
  · refine ⟨?_, Nat.le_refl _, Nat.le_refl _, ?_, ?_, fun a c9 h9 => ⟨c9, h9, rfl, rfl, fun _ _ => rfl⟩⟩
    · obtain ⟨t, ht, -⟩ := State.frames_cons hr
      show T.setVm s.vm = { ((T.setVm s.vm).setFrames (.invoking m args :: below)).setFrames (T.setVm s.vm).frames with heap := T.heap, slotsUsed := T.slotsUsed }
      rw [State.setFrames_setFrames, State.setFrames_self ht]
      rfl
    · show T.slotsUsed = T.slotsUsed + ((T.heap.toList.drop T.heap.size).map (·.slots.size)).sum
      rw [List.drop_eq_nil_of_le (Nat.le_of_eq Array.length_toList)]
      rfl
    · show ((T.heap.toList.drop T.heap.size).map (·.slots.size)).sum ≤ 0
      rw [List.drop_eq_nil_of_le (Nat.le_of_eq Array.length_toList)]
      exact Nat.le_refl _
/-- 'throw new E()': new; dup; invokespecial; athrow -/
theorem vx_throw0 {cc : ByteArray} {pc : Nat} (hexec : p.tables.exec = Jvm.exec) (hb : c.code = cc) (hl : l.stackTraces = false) {own cls : String} {names : List String} {ik ic mc ms : Nat} {A : Nat → Prop}
    (hown : s.vm.findClass own = some m.cls) (hcls : Bundle.fit cls = true) (hnames : ∀ n ∈ names, Bundle.fit n = true)
    (hk : (Cond.classLink own ik cls).before args s = true) (hini : (Cond.initialized cls).before args s = true) (hat : ∀ w ∈ vx_at0 own ic cls names, w.before args s = true)
    (hgood : ∀ w ∈ Cond.classLink own ik cls :: Cond.initialized cls :: vx_at0 own ic cls names, vx_ot w = true)
    (hU : vx_Zq Bundle.tN "UNASSIGNED_STACK" Bundle.steD A s s.heap) (hN : vx_Zq Bundle.tN "SUPPRESSED_SENTINEL" Bundle.listD A s s.heap) (hS : va_S A s.heap H locs) (hsize : ls.size = c.maxLocals)
    (d0 : decode cc pc = .ok (.new ik, 3)) (d3 : decode cc (pc + 3) = .ok (.dup, 1)) (d4 : decode cc (pc + 4) = .ok (.invokespecial ic, 3)) (d7 : decode cc (pc + 7) = .ok (.athrow, 1))
    (hout : ∀ x ∈ c.exceptionTable.toList, covers x (pc + 7) = false)
    (hRframes : names.length + 3 < R.frames) (hRlocals : (rest.map fun v => v.category).sum + (13 * (names.length + 1) + 42) ≤ R.locals) (hRcells : cells + 1 ≤ R.cells) (hRslots : slots + 6 ≤ R.slots) (hlocks : meth.locks = false)
    (hx : ∀ t : State, s.vm.Alike t.vm → H.size ≤ t.heap.size → (∀ q : Nat, q < H.size → t.heap[q]? = H[q]?) → XC cls s t)
    (hf : ∀ z ∈ locs, free z.base) (hc : cells + 1 ≤ mc) (hs : slots + 6 ≤ ms) :
    W p l e R s m args below meth c H locs cells slots (vx_MQ below Qc XC args s mc ms free) (F0 m pc ls rest) := by
  intro T hT X
  have htr : e.platform.stackTraces = false := (show e.platform.stackTraces = l.stackTraces by rw [X.admits.platform]).trans hl
  have Y := vx_rebase X (R' := { frames := R.frames, locals := R.locals, cells := 1, slots := 6 }) (Nat.le_refl _) (Nat.le_refl _) hRcells hRslots
  obtain ⟨s', hA⟩ : ∃ z, z = (T.setVm s.vm).setFrames (.invoking m args :: below) := ⟨_, rfl⟩
  rw [← hA] at Y
  have hvm : s'.vm = s.vm := by rw [hA]; rfl
  have hhp : s'.heap = H := by rw [hA]; exact hT
  have hW0 : s.WarmedH s'.vm := by rw [hvm]; exact State.WarmedH.refl s
  have hat' : ∀ w ∈ vx_at0 own ic cls names, w.before args s' = true := fun w hw => vx_ot_at hW0 hvm.symm (hgood w (List.mem_cons_of_mem _ (List.mem_cons_of_mem _ hw))) (hat w hw)
  have hk' : (Cond.classLink own ik cls).before args s' = true := vx_ot_at hW0 hvm.symm (hgood _ List.mem_cons_self) hk
  have hini' : (Cond.initialized cls).before args s' = true := vx_ot_at hW0 hvm.symm (hgood _ (List.mem_cons_of_mem _ List.mem_cons_self)) hini
  have hU' : vx_Zq Bundle.tN "UNASSIGNED_STACK" Bundle.steD A s' s'.heap := by rw [hhp]; exact vx_Zq.moved hW0.alike (hU.kept hS.2.1)
  have hN' : vx_Zq Bundle.tN "SUPPRESSED_SENTINEL" Bundle.listD A s' s'.heap := by rw [hhp]; exact vx_Zq.moved hW0.alike (hN.kept hS.2.1)
  have h : ∀ w ∈ Bundle.ownAtoms0 own ic cls names, w.before args s' = true := vx_own hat' (vx_isRefq hU'.1) (vx_isRefq hN'.1) hU'.2.word hN'.2.word
  have hown' : s'.vm.findClass own = some m.cls := by rw [hvm]; exact hown
  have hins : (Cond.instantiable cls 6).before args s' = true := h _ (by simp [Bundle.ownAtoms0])
  obtain ⟨vm₁, cX, kX, hfX, hkX, -, -, X₁, st1⟩ := Y.newCold hexec (own := own) (C := cls) (index := ik) (n := 6) hown' hk' hins hini'
    (g := F0 m pc ls rest) rfl (by rw [hb]; exact d0) (Nat.le_refl _) (Nat.le_refl _)
  generalize hT1 : (T.setVm vm₁).pushCell { cls := cX, slots := kX.instanceTypes.map defaultValue, vm := .none } = T1 at X₁ st1
  have hcat : (Value.ref T.heap.size).category = 1 := rfl
  have hcellA : T1.heap[T.heap.size]? = some (freshCell cX kX) := by rw [← hT1]; exact State.heap_pushCell_size _ _
  have d3' : decode c.code (pc + 3) = .ok (.dup, 1) := by rw [hb]; exact d3
  obtain ⟨U, hsteps, hrun, hend, hW, hsame, ce, hce, hO⟩ := X₁.ctorThrow0 hexec htr (own := own) (cls := cls) (names := names) (ic := ic) hown' hcls hnames h (fun x hx => nomatch hx) hfX hkX hcellA (by rw [hhp, hT]; exact Nat.le_refl _)
    (g := { method := m, pc := pc + 4, locals := ls, stack := .ref T.heap.size :: .ref T.heap.size :: rest, locked := none }) rfl hsize rfl rfl (rest := rest) rfl
    (by rw [hb]; exact d4) (by rw [hb]; exact d7) hout hRframes (by simp only [List.map_cons, List.sum_cons, hcat]; omega) hlocks
  obtain ⟨f1, f2⟩ := vx_frame hsame
  rw [hhp] at f1 f2
  have hWs : s.WarmedH U.vm := State.WarmedH.trans hW0 hW
  have hcl : s.vm.findClass cls = some ce.cls := by
    have h9 := hO.cls
    rw [hvm] at h9
    exact h9
  have hall : s.sameButNew ({ U with vm := s.vm } : State) locs mc ms := by
    subst hA
    obtain ⟨e1, e2⟩ := hsame
    rw [State.setFrames_setFrames] at e1
    have h2 : (T.setVm s.vm).sameButNew ({ U with vm := s.vm } : State) [] (0 + 1) (0 + 6) := ⟨e1, e2⟩
    have h3 := X.same.trans h2
    rw [List.append_nil] at h3
    exact h3.mono hc hs
  refine ⟨U, ?_, .threw T.heap.size, hrun, hend, Or.inr ⟨T.heap.size, rfl, cls, ce, locs, hx U hWs.alike f1 (fun q hq => f2 q hq (fun z hz => nomatch hz)), hce, hO.vm, hcl, hWs, hall, hf⟩⟩
  refine st1 _ ?_
  show Steps p.tables e below (T1.setTop { method := m, pc := pc + 3, locals := ls, stack := .ref T.heap.size :: rest, locked := none }) _
  jvm_step X₁.here [X₁.here.top, hexec, d3', Value.category]
  exact hsteps
/-- 'throw new E("text")': new; dup; ldc; invokespecial; athrow -/
theorem vx_throwS {cc : ByteArray} {pc : Nat} (hexec : p.tables.exec = Jvm.exec) (hb : c.code = cc) (hl : l.stackTraces = false) {own cls text : String} {names : List String} {ik is ic mc ms sa : Nat} {A : Nat → Prop}
    (hown : s.vm.findClass own = some m.cls) (hcls : Bundle.fit cls = true) (hnames : ∀ n ∈ names, Bundle.fit n = true)
    (hk : (Cond.classLink own ik cls).before args s = true) (hini : (Cond.initialized cls).before args s = true) (hstr : vk_R own is text sa s) (hat : ∀ w ∈ vx_atS own ic cls names, w.before args s = true)
    (hgood : ∀ w ∈ Cond.classLink own ik cls :: Cond.initialized cls :: vx_atS own ic cls names, vx_ot w = true)
    (hU : vx_Zq Bundle.tN "UNASSIGNED_STACK" Bundle.steD A s s.heap) (hN : vx_Zq Bundle.tN "SUPPRESSED_SENTINEL" Bundle.listD A s s.heap) (hS : va_S A s.heap H locs) (hsize : ls.size = c.maxLocals)
    (d0 : decode cc pc = .ok (.new ik, 3)) (d3 : decode cc (pc + 3) = .ok (.dup, 1)) (d4 : decode cc (pc + 4) = .ok (.ldc is, 2)) (d6 : decode cc (pc + 6) = .ok (.invokespecial ic, 3)) (d9 : decode cc (pc + 9) = .ok (.athrow, 1))
    (hout : ∀ x ∈ c.exceptionTable.toList, covers x (pc + 9) = false)
    (hRframes : names.length + 3 < R.frames) (hRlocals : (rest.map fun v => v.category).sum + (13 * (names.length + 1) + 43) ≤ R.locals) (hRcells : cells + 1 ≤ R.cells) (hRslots : slots + 6 ≤ R.slots) (hlocks : meth.locks = false)
    (hx : ∀ t : State, s.vm.Alike t.vm → H.size ≤ t.heap.size → (∀ q : Nat, q < H.size → t.heap[q]? = H[q]?) → XC cls s t)
    (hf : ∀ z ∈ locs, free z.base) (hc : cells + 1 ≤ mc) (hs : slots + 6 ≤ ms) :
    W p l e R s m args below meth c H locs cells slots (vx_MQ below Qc XC args s mc ms free) (F0 m pc ls rest) := by
  intro T hT X
  have htr : e.platform.stackTraces = false := (show e.platform.stackTraces = l.stackTraces by rw [X.admits.platform]).trans hl
  have Y := vx_rebase X (R' := { frames := R.frames, locals := R.locals, cells := 1, slots := 6 }) (Nat.le_refl _) (Nat.le_refl _) hRcells hRslots
  obtain ⟨s', hA⟩ : ∃ z, z = (T.setVm s.vm).setFrames (.invoking m args :: below) := ⟨_, rfl⟩
  rw [← hA] at Y
  have hvm : s'.vm = s.vm := by rw [hA]; rfl
  have hhp : s'.heap = H := by rw [hA]; exact hT
  have hW0 : s.WarmedH s'.vm := by rw [hvm]; exact State.WarmedH.refl s
  have hat' : ∀ w ∈ vx_atS own ic cls names, w.before args s' = true := fun w hw => vx_ot_at hW0 hvm.symm (hgood w (List.mem_cons_of_mem _ (List.mem_cons_of_mem _ hw))) (hat w hw)
  have hk' : (Cond.classLink own ik cls).before args s' = true := vx_ot_at hW0 hvm.symm (hgood _ List.mem_cons_self) hk
  have hini' : (Cond.initialized cls).before args s' = true := vx_ot_at hW0 hvm.symm (hgood _ (List.mem_cons_of_mem _ List.mem_cons_self)) hini
  have hU' : vx_Zq Bundle.tN "UNASSIGNED_STACK" Bundle.steD A s' s'.heap := by rw [hhp]; exact vx_Zq.moved hW0.alike (hU.kept hS.2.1)
  have hN' : vx_Zq Bundle.tN "SUPPRESSED_SENTINEL" Bundle.listD A s' s'.heap := by rw [hhp]; exact vx_Zq.moved hW0.alike (hN.kept hS.2.1)
  have h : ∀ w ∈ Bundle.ownAtoms own ic cls names, w.before args s' = true := vx_own hat' (vx_isRefq hU'.1) (vx_isRefq hN'.1) hU'.2.word hN'.2.word
  have hown' : s'.vm.findClass own = some m.cls := by rw [hvm]; exact hown
  have hins : (Cond.instantiable cls 6).before args s' = true := h _ (by simp [Bundle.ownAtoms])
  obtain ⟨vm₁, cX, kX, hfX, hkX, -, -, X₁, st1⟩ := Y.newCold hexec (own := own) (C := cls) (index := ik) (n := 6) hown' hk' hins hini'
    (g := F0 m pc ls rest) rfl (by rw [hb]; exact d0) (Nat.le_refl _) (Nat.le_refl _)
  generalize hT1 : (T.setVm vm₁).pushCell { cls := cX, slots := kX.instanceTypes.map defaultValue, vm := .none } = T1 at X₁ st1
  have hcat : (Value.ref T.heap.size).category = 1 := rfl
  have hcellA : T1.heap[T.heap.size]? = some (freshCell cX kX) := by rw [← hT1]; exact State.heap_pushCell_size _ _
  have d3' : decode c.code (pc + 3) = .ok (.dup, 1) := by rw [hb]; exact d3
  have d4' : decode c.code (pc + 4) = .ok (.ldc is, 2) := by rw [hb]; exact d4
  have hstr' : vk_R own is text sa s' := vk_R.warm hW0 hstr
  obtain ⟨U, hsteps, hrun, hend, hW, hsame, ce, hce, hO⟩ := X₁.ctorThrowS hexec htr (own := own) (cls := cls) (names := names) (ic := ic) hown' hcls hnames h (fun x hx => nomatch hx) hfX hkX hcellA (by rw [hhp, hT]; exact Nat.le_refl _) (msg := .ref sa) rfl
    (g := { method := m, pc := pc + 6, locals := ls, stack := .ref sa :: .ref T.heap.size :: .ref T.heap.size :: rest, locked := none }) rfl hsize rfl rfl (rest := rest) rfl
    (by rw [hb]; exact d6) (by rw [hb]; exact d9) hout hRframes (by simp only [List.map_cons, List.sum_cons, hcat]; omega) hlocks
  obtain ⟨f1, f2⟩ := vx_frame hsame
  rw [hhp] at f1 f2
  have hWs : s.WarmedH U.vm := State.WarmedH.trans hW0 hW
  have hcl : s.vm.findClass cls = some ce.cls := by
    have h9 := hO.cls
    rw [hvm] at h9
    exact h9
  have hall : s.sameButNew ({ U with vm := s.vm } : State) locs mc ms := by
    subst hA
    obtain ⟨e1, e2⟩ := hsame
    rw [State.setFrames_setFrames] at e1
    have h2 : (T.setVm s.vm).sameButNew ({ U with vm := s.vm } : State) [] (0 + 1) (0 + 6) := ⟨e1, e2⟩
    have h3 := X.same.trans h2
    rw [List.append_nil] at h3
    exact h3.mono hc hs
  refine ⟨U, ?_, .threw T.heap.size, hrun, hend, Or.inr ⟨T.heap.size, rfl, cls, ce, locs, hx U hWs.alike f1 (fun q hq => f2 q hq (fun z hz => nomatch hz)), hce, hO.vm, hcl, hWs, hall, hf⟩⟩
  refine st1 _ ?_
  show Steps p.tables e below (T1.setTop { method := m, pc := pc + 3, locals := ls, stack := .ref T.heap.size :: rest, locked := none }) _
  jvm_step X₁.here [X₁.here.top, hexec, d3', Value.category]
  exact X₁.ldcString hexec (own := own) (text := text) (index := is) (a := sa) hown' hstr'.1 hstr'.2
    (g := { method := m, pc := pc + 4, locals := ls, stack := .ref T.heap.size :: .ref T.heap.size :: rest, locked := none }) rfl d4' _ hsteps
/-- 'throw new E("text")', the text by a wide index -/
theorem vx_throwSW {cc : ByteArray} {pc : Nat} (hexec : p.tables.exec = Jvm.exec) (hb : c.code = cc) (hl : l.stackTraces = false) {own cls text : String} {names : List String} {ik is ic mc ms sa : Nat} {A : Nat → Prop}
    (hown : s.vm.findClass own = some m.cls) (hcls : Bundle.fit cls = true) (hnames : ∀ n ∈ names, Bundle.fit n = true)
    (hk : (Cond.classLink own ik cls).before args s = true) (hini : (Cond.initialized cls).before args s = true) (hstr : vk_R own is text sa s) (hat : ∀ w ∈ vx_atS own ic cls names, w.before args s = true)
    (hgood : ∀ w ∈ Cond.classLink own ik cls :: Cond.initialized cls :: vx_atS own ic cls names, vx_ot w = true)
    (hU : vx_Zq Bundle.tN "UNASSIGNED_STACK" Bundle.steD A s s.heap) (hN : vx_Zq Bundle.tN "SUPPRESSED_SENTINEL" Bundle.listD A s s.heap) (hS : va_S A s.heap H locs) (hsize : ls.size = c.maxLocals)
    (d0 : decode cc pc = .ok (.new ik, 3)) (d3 : decode cc (pc + 3) = .ok (.dup, 1)) (d4 : decode cc (pc + 4) = .ok (.ldc_w is, 3)) (d7 : decode cc (pc + 7) = .ok (.invokespecial ic, 3)) (d10 : decode cc (pc + 10) = .ok (.athrow, 1))
    (hout : ∀ x ∈ c.exceptionTable.toList, covers x (pc + 10) = false)
    (hRframes : names.length + 3 < R.frames) (hRlocals : (rest.map fun v => v.category).sum + (13 * (names.length + 1) + 43) ≤ R.locals) (hRcells : cells + 1 ≤ R.cells) (hRslots : slots + 6 ≤ R.slots) (hlocks : meth.locks = false)
    (hx : ∀ t : State, s.vm.Alike t.vm → H.size ≤ t.heap.size → (∀ q : Nat, q < H.size → t.heap[q]? = H[q]?) → XC cls s t)
    (hf : ∀ z ∈ locs, free z.base) (hc : cells + 1 ≤ mc) (hs : slots + 6 ≤ ms) :
    W p l e R s m args below meth c H locs cells slots (vx_MQ below Qc XC args s mc ms free) (F0 m pc ls rest) := by
  intro T hT X
  have htr : e.platform.stackTraces = false := (show e.platform.stackTraces = l.stackTraces by rw [X.admits.platform]).trans hl
  have Y := vx_rebase X (R' := { frames := R.frames, locals := R.locals, cells := 1, slots := 6 }) (Nat.le_refl _) (Nat.le_refl _) hRcells hRslots
  obtain ⟨s', hA⟩ : ∃ z, z = (T.setVm s.vm).setFrames (.invoking m args :: below) := ⟨_, rfl⟩
  rw [← hA] at Y
  have hvm : s'.vm = s.vm := by rw [hA]; rfl
  have hhp : s'.heap = H := by rw [hA]; exact hT
  have hW0 : s.WarmedH s'.vm := by rw [hvm]; exact State.WarmedH.refl s
  have hat' : ∀ w ∈ vx_atS own ic cls names, w.before args s' = true := fun w hw => vx_ot_at hW0 hvm.symm (hgood w (List.mem_cons_of_mem _ (List.mem_cons_of_mem _ hw))) (hat w hw)
  have hk' : (Cond.classLink own ik cls).before args s' = true := vx_ot_at hW0 hvm.symm (hgood _ List.mem_cons_self) hk
  have hini' : (Cond.initialized cls).before args s' = true := vx_ot_at hW0 hvm.symm (hgood _ (List.mem_cons_of_mem _ List.mem_cons_self)) hini
  have hU' : vx_Zq Bundle.tN "UNASSIGNED_STACK" Bundle.steD A s' s'.heap := by rw [hhp]; exact vx_Zq.moved hW0.alike (hU.kept hS.2.1)
  have hN' : vx_Zq Bundle.tN "SUPPRESSED_SENTINEL" Bundle.listD A s' s'.heap := by rw [hhp]; exact vx_Zq.moved hW0.alike (hN.kept hS.2.1)
  have h : ∀ w ∈ Bundle.ownAtoms own ic cls names, w.before args s' = true := vx_own hat' (vx_isRefq hU'.1) (vx_isRefq hN'.1) hU'.2.word hN'.2.word
  have hown' : s'.vm.findClass own = some m.cls := by rw [hvm]; exact hown
  have hins : (Cond.instantiable cls 6).before args s' = true := h _ (by simp [Bundle.ownAtoms])
  obtain ⟨vm₁, cX, kX, hfX, hkX, -, -, X₁, st1⟩ := Y.newCold hexec (own := own) (C := cls) (index := ik) (n := 6) hown' hk' hins hini'
    (g := F0 m pc ls rest) rfl (by rw [hb]; exact d0) (Nat.le_refl _) (Nat.le_refl _)
  generalize hT1 : (T.setVm vm₁).pushCell { cls := cX, slots := kX.instanceTypes.map defaultValue, vm := .none } = T1 at X₁ st1
  have hcat : (Value.ref T.heap.size).category = 1 := rfl
  have hcellA : T1.heap[T.heap.size]? = some (freshCell cX kX) := by rw [← hT1]; exact State.heap_pushCell_size _ _
  have d3' : decode c.code (pc + 3) = .ok (.dup, 1) := by rw [hb]; exact d3
  have d4' : decode c.code (pc + 4) = .ok (.ldc_w is, 3) := by rw [hb]; exact d4
  have hstr' : vk_R own is text sa s' := vk_R.warm hW0 hstr
  obtain ⟨U, hsteps, hrun, hend, hW, hsame, ce, hce, hO⟩ := X₁.ctorThrowS hexec htr (own := own) (cls := cls) (names := names) (ic := ic) hown' hcls hnames h (fun x hx => nomatch hx) hfX hkX hcellA (by rw [hhp, hT]; exact Nat.le_refl _) (msg := .ref sa) rfl
    (g := { method := m, pc := pc + 7, locals := ls, stack := .ref sa :: .ref T.heap.size :: .ref T.heap.size :: rest, locked := none }) rfl hsize rfl rfl (rest := rest) rfl
    (by rw [hb]; exact d7) (by rw [hb]; exact d10) hout hRframes (by simp only [List.map_cons, List.sum_cons, hcat]; omega) hlocks
  obtain ⟨f1, f2⟩ := vx_frame hsame
  rw [hhp] at f1 f2
  have hWs : s.WarmedH U.vm := State.WarmedH.trans hW0 hW
  have hcl : s.vm.findClass cls = some ce.cls := by
    have h9 := hO.cls
    rw [hvm] at h9
    exact h9
  have hall : s.sameButNew ({ U with vm := s.vm } : State) locs mc ms := by
    subst hA
    obtain ⟨e1, e2⟩ := hsame
    rw [State.setFrames_setFrames] at e1
    have h2 : (T.setVm s.vm).sameButNew ({ U with vm := s.vm } : State) [] (0 + 1) (0 + 6) := ⟨e1, e2⟩
    have h3 := X.same.trans h2
    rw [List.append_nil] at h3
    exact h3.mono hc hs
  refine ⟨U, ?_, .threw T.heap.size, hrun, hend, Or.inr ⟨T.heap.size, rfl, cls, ce, locs, hx U hWs.alike f1 (fun q hq => f2 q hq (fun z hz => nomatch hz)), hce, hO.vm, hcl, hWs, hall, hf⟩⟩
  refine st1 _ ?_
  show Steps p.tables e below (T1.setTop { method := m, pc := pc + 3, locals := ls, stack := .ref T.heap.size :: rest, locked := none }) _
  jvm_step X₁.here [X₁.here.top, hexec, d3', Value.category]
  exact X₁.ldcStringW hexec (own := own) (text := text) (index := is) (a := sa) hown' hstr'.1 hstr'.2
    (g := { method := m, pc := pc + 4, locals := ls, stack := .ref T.heap.size :: .ref T.heap.size :: rest, locked := none }) rfl d4' _ hsteps
end Ends
section Bodies
variable {l : Launch}
theorem vx_ofW {y : MethodName} {ws ws' : List Cond} {rm : Room} {Pc : Array Value → State → Prop} {Qc : Array Value → State → Outcome → State → Prop} {XC : String → State → State → Prop} {mc ms : Nat} {free : Addr → Prop} {cc : ByteArray} {maxL : Nat} {ret : Option FieldType}
    (hy : plainName y.cls = true) (hw : ws = Cond.code y cc maxL ret :: ws')
    (body : ∀ p e s m args below meth c s₁, BodyLoose p l y (headSpec ws rm) cc maxL ret e s m args below meth c s₁ → c.maxLocals = maxL → (∀ x ∈ c.exceptionTable.toList, False) → Pc args s →
      W p l e (headSpec ws rm).room s m args below meth c s.heap [] 0 0 (vx_MQ below Qc XC args s mc ms free) (entryFrame m args maxL)) : vx_Met l y ws rm Pc Qc XC mc ms free := by
  refine MetFree.of_bodyS (code := cc) (maxLocals := maxL) (ret := ret) hy ?_ ?_
  · intro args s m h hn
    obtain ⟨meth, c, h1, h2, h3, h4, h5, h6, -, -⟩ := Cond.code_spec hn (atoms_spec (ws := ws) h _ (by rw [hw]; exact List.mem_cons_self))
    exact ⟨meth, c, h1, h2, h3, h4, h5, h6⟩
  · intro p e s m args below meth c s₁ B hml hP _
    have hh0 : s₁.heap = s.heap := by rw [B.state]; rfl
    have ht : ∀ x ∈ c.exceptionTable.toList, False := by
      obtain ⟨meth9, c9, h1, h2, -, -, -, -, h7, -⟩ := Cond.code_spec B.named (atoms_spec (ws := ws) B.pre _ (by rw [hw]; exact List.mem_cons_self))
      cases Option.some.inj (h1.symm.trans B.method)
      cases Option.some.inj (h2.symm.trans (Stand.of_body B).code)
      intro x hx
      rw [Array.isEmpty_iff.mp h7] at hx
      cases hx
    obtain ⟨t, a1, o, b1, b2, b3⟩ := body p e s m args below meth c s₁ B hml ht hP s₁ hh0 (Stand.of_body B)
    exact ⟨t, o, a1, b1, b2, b3⟩
/-- the table of a body with handlers -/
theorem vx_table {p : Program} {x y : MethodName} {S : Spec} {cc bytes : ByteArray} {maxL maxL' : Nat} {ret ret' : Option FieldType} {e : Env} {s s₁ : State} {m : MethodId} {args : Array Value} {below : List Frame} {meth : Method} {c : Code} {hh : List (Nat × Nat × Nat × Nat)}
    (B : BodyLoose p l y S cc maxL ret e s m args below meth c s₁) (h : (Cond.codeWith y bytes maxL' ret' hh).before args s = true) : c.exceptionTable.toList = tableOf hh := by
  obtain ⟨m9, meth9, c9, hn9, h1, h2, -, -, h6, -⟩ := Cond.codeWith_spec h
  cases Option.some.inj (hn9.symm.trans B.named)
  cases Option.some.inj (h1.symm.trans B.method)
  cases Option.some.inj (h2.symm.trans (Stand.of_body B).code)
  rw [← h6, table_eq]
end Bodies
end VXA
/-! ===== END ===== -/
/-! ===== BEGIN a static call of a method with an exception table ===== -/
section VXS
variable {p : Program} {l : Launch} {e : Env} {R : Room} {s : State} {m : MethodId} {args : Array Value} {below : List Frame} {meth : Method} {c : Code} {T : State} {H : Heap} {locs : List Loc} {cells slots : Nat}
abbrev vx_CSW (R : Room) (s : State) (args : Array Value) (own : String) (index : Nat) (y : MethodName) (bytes : ByteArray) (maxL : Nat) (ret : Option FieldType) (hh : List (Nat × Nat × Nat × Nat)) (ws : List Cond) (rm : Room) (mc ms n : Nat) : Prop :=
  (rm.cells = mc ∧ rm.slots = ms ∧ rm.frames + 1 ≤ R.frames ∧ 8 + (maxL + 11) + rm.locals ≤ R.locals ∧ (∀ w ∈ ws, ∀ (a' : Array Value) (U : State), s.WarmedH U.vm → w.before a' U = true) ∧ Cond.codeWith y bytes maxL ret hh ∈ ws) ∧
  (Cond.codeWith y bytes maxL ret hh).before args s = true ∧ (Cond.initialized y.cls).before args s = true ∧ (y.cls ≠ "java/lang/invoke/MethodHandle" ∧ y.cls ≠ "java/lang/invoke/VarHandle") ∧
  (∀ sig, parseMethodDescriptor y.desc = some sig → n = sig.parameters.length) ∧ (Cond.methodLink own index y).before args s = true ∧ (Cond.static y).before args s = true
theorem vx_cwSW {own : String} {index maxL mc ms : Nat} {y : MethodName} {bytes : ByteArray} {ret : Option FieldType} {hh : List (Nat × Nat × Nat × Nat)} {Ts ws ws' : List Cond} {rm : Room} (n : Nat) (ht : ∀ w ∈ Ts, w.before args s = true) (hT : GoodIn Ts (va_wsS own index y ws)) (hw : ws = Cond.codeWith y bytes maxL ret hh :: ws') (hrc : rm.cells = mc) (hrs : rm.slots = ms)
    (hd : y.cls ≠ "java/lang/invoke/MethodHandle" ∧ y.cls ≠ "java/lang/invoke/VarHandle" ∧ (parseMethodDescriptor y.desc).map (fun d => d.parameters.length) = some n) (hR : rm.frames + 1 ≤ R.frames ∧ 8 + (maxL + 11) + rm.locals ≤ R.locals) :
    vx_CSW R s args own index y bytes maxL ret hh ws rm mc ms n := by
  have ok : ∀ w ∈ va_wsS own index y ws, w.before args s = true := fun w h => ht w (hT w h).1
  have hG : GoodIn Ts ws := fun w h => hT w (by unfold va_wsS; exact List.mem_append_right _ h)
  have hc : Cond.codeWith y bytes maxL ret hh ∈ ws := by rw [hw]; exact List.mem_cons_self
  refine ⟨⟨hrc, hrs, hR.1, hR.2, pay_in ht hG, hc⟩, ht _ (hG _ hc).1, ok _ (by simp [va_wsS]), ⟨hd.1, hd.2.1⟩, fun sig h => ?_, ok _ (by simp [va_wsS]), ok _ (by simp [va_wsS])⟩
  have h2 := hd.2.2
  rw [h] at h2
  exact (Option.some.inj h2).symm
theorem vx_callSW (X : Stand p l e R s m args below meth c T locs cells slots) (hexec : p.tables.exec = Jvm.exec) {own : String} {index : Nat} {y : MethodName} {bytes : ByteArray} {maxL : Nat} {ret : Option FieldType} {hh : List (Nat × Nat × Nat × Nat)}
    (hown : s.vm.findClass own = some m.cls) (hlink : (Cond.methodLink own index y).before args s = true) (hstat : (Cond.static y).before args s = true) (hinit : (Cond.initialized y.cls).before args s = true)
    (hcode : (Cond.codeWith y bytes maxL ret hh).before args s = true) (hy : y.cls ≠ "java/lang/invoke/MethodHandle" ∧ y.cls ≠ "java/lang/invoke/VarHandle")
    {W9 : Nat} {Pre : Pt → Array Value → Prop} {Post : Pt → Array Value → Option Value → Pt → Prop} (hK : Back l R p e below s args y 3 W9 Pre Post)
    {g : JFrame} (hg : g.method = m) (hsize : g.locals.size = c.maxLocals) {argsL rest : List Value} (hlen : ∀ sig, parseMethodDescriptor y.desc = some sig → argsL.length = sig.parameters.length)
    (hstack : g.stack = argsL.reverse ++ rest) (hW : 2 * g.monitorRoom + (rest.map fun v => v.category).sum ≤ W9) (hdg : decode c.code g.pc = .ok (.invokestatic index, 3))
    (hpre : ∀ vm₁, s.WarmedH vm₁ → Pre ⟨T.setVm vm₁, locs, cells, slots⟩ argsL.toArray) :
    ∃ (v : Option Value) (vm₁ : Vm) (B : Pt), s.WarmedH vm₁ ∧ Stand p l e R s m args below meth c B.U B.locs B.cells B.slots ∧ Post ⟨T.setVm vm₁, locs, cells, slots⟩ argsL.toArray v B ∧
      ∀ target, Steps p.tables e below (B.U.setTop { g with pc := g.pc + 3, stack := v.toList ++ rest }) target → Steps p.tables e below (T.setTop g) target := by
  obtain ⟨mk, methM, cM, hnamed, hmethM, -, -, -, -, -, -, hsigM⟩ := Cond.codeWith_spec hcode
  have hstatic : methM.isStatic = true := Cond.static_spec hnamed hmethM hstat
  obtain ⟨kP, hkP, -⟩ := className_of_methodNamed hnamed
  have hinitP : kP.init = .initialized := Cond.initialized_spec (findClass_of_methodNamed hnamed) hkP hinit
  obtain ⟨vm₁, X₁, hstep₁⟩ := X.invokestatic hexec hown hlink hnamed hmethM hstatic hkP hinitP hy (g := g) hg (argsL := argsL) (rest := rest) (hlen _ hsigM) hstack hdg
  obtain ⟨v, B, X', hpost, hsteps⟩ := hK m meth c ⟨T.setVm vm₁, locs, cells, slots⟩ { g with stack := rest } (.invokestatic index) mk argsL.toArray X₁ hg hsize hdg hW (X₁.named hnamed) (hpre vm₁ X₁.warmed)
  exact ⟨v, vm₁, B, X₁.warmed, X', hpost, fun target h => hstep₁ _ fun acts => by rw [doInvoke_state]; exact hsteps.trans h⟩
theorem vx_runSW {y : MethodName} {bytes cc : ByteArray} {maxL nL mc ms n index : Nat} {ret : Option FieldType} {hh : List (Nat × Nat × Nat × Nat)} {ws : List Cond} {rm : Room} {Pc : Array Value → State → Prop} {Qc : Array Value → State → Outcome → State → Prop} {free : Addr → Prop} {Ts : List Cond} {own : String} {As rest : List Value} {g : JFrame}
    (S : CallFix p m c cc nL s args Ts own) (hM : Met l y ws rm Pc Qc mc ms free) (cw : vx_CSW R s args own index y bytes maxL ret hh ws rm mc ms n) (hp : PreS s H Pc As)
    (hg : g.method = m) (hn : As.length = n) (hsize : g.locals.size = nL) (hstack : g.stack = As.reverse ++ rest) (hW : 2 * g.monitorRoom + (rest.map fun v => v.category).sum ≤ 8) (hdg : decode cc g.pc = .ok (.invokestatic index, 3)) (hf : cells + mc ≤ R.cells ∧ slots + ms ≤ R.slots) :
    va_Run p l e R s m args below meth c H locs cells slots mc ms g rest (Qc As.toArray) (free) := by
  obtain ⟨⟨hrc, hrs, hfr, hlo, hws, hcw⟩, hcode, hini, hy, hlen, hl, hstt⟩ := cw
  have hK : Back l R p e below s args y 3 8 (PreOf R mc ms Pc) (PostOf Qc mc ms free) := va_backW (hh := hh) (bytes := bytes) (maxL := maxL) (ret := ret) hM hp.1 hrc hrs hfr hlo hws hcw (fun a' U hW => word_at hW (Or.inl (by first | rfl | simp [Cond.onTables, Cond.keeps, Cond.steady])) hini)
  obtain ⟨hx, hb, hml, ho, -⟩ := S
  intro T hT X
  obtain ⟨v, vm₁, ⟨U', l2, c2, s2⟩, hW₁, X', ⟨g', mk, t, L, e1, e2, hq, h1, hL, h2, h3⟩, st⟩ := vx_callSW X hx (hh := hh) (bytes := bytes) (maxL := maxL) (ret := ret) ho hl hstt hini hcode hy hK hg (hsize.trans hml.symm) (argsL := As) (rest := rest) (fun sig h => hn.trans (hlen sig h)) hstack hW (by rw [hb]; exact hdg)
    (fun vm₁ hW₁ => ⟨hf.1, hf.2, hp.2 (T.setVm vm₁) hT hW₁⟩)
  dsimp only [Pt.U, Pt.locs, Pt.cells, Pt.slots] at X' e1 e2 h1 h2 h3 st
  subst h1; subst h2; subst h3
  exact ⟨v, (T.setVm vm₁).calling g' mk As.toArray, t, U', L, hT, X', hL, e1, e2, hq, st⟩
/-- not caught here, past rows that name other classes: it goes on to the caller -/
theorem vx_outP {p : Program} {l : Launch} {e : Env} {R : Room} {s : State} {m : MethodId} {args : Array Value} {below : List Frame} {meth : Method} {c : Code} {H : Heap} {locs : List Loc} {cells slots : Nat} {free : Addr → Prop} {ls : Array Slot} {rest : List Value} {Qc : Array Value → State → Outcome → State → Prop} {XC : String → State → State → Prop}
    {pc : Nat} {own E : String} {ce : Cell} {q : Addr} {mc ms : Nat} (hown : s.vm.findClass own = some m.cls) (hlocks : meth.locks = false)
    (hpass : ∀ z ∈ c.exceptionTable.toList, covers z pc = false ∨ (z.catchType ≠ 0 ∧ ∃ nm : String, (Cond.classLink own z.catchType nm).before args s = true ∧ va_Nc E nm s)) (hcell : H[q]? = some ce) (hv : ce.vm = .none) (hcl : s.vm.findClass E = some ce.cls)
    (hx : ∀ t : State, t.heap = H → s.vm.Alike t.vm → XC E s t) (hf : ∀ z ∈ locs, free z.base) (hc : cells ≤ mc) (hs : slots ≤ ms) :
    vx_W p l e R s m args below meth c H locs cells slots (vx_MQ below Qc XC args s mc ms free) (F0 m pc ls rest) q := by
  intro T hT X
  have hpl : e.platform.magicAccessors = ({} : Platform).magicAccessors := by rw [X.admits.platform]
  obtain ⟨vm', hW', X', st⟩ := X.outThrough hlocks q (g := F0 m pc ls rest) rfl rfl rfl (cell := ce) (by rw [hT]; exact hcell) (by rw [hv]; rfl)
    (by obtain ⟨k9, h9, -⟩ := Vm.findClass_spec hcl; exact ⟨k9, h9⟩) (fun z hz => by
      rcases hpass z hz with h | ⟨hz0, nm, hl1, hn1⟩
      · exact Or.inl h
      · obtain ⟨c6, hc6, hcl6⟩ := Cond.classLink_spec hown hl1 e.platform hpl
        obtain ⟨a8, b8, h1, h2, h3⟩ := hn1
        cases Option.some.inj (h1.symm.trans hcl)
        cases Option.some.inj (h2.symm.trans hc6)
        exact Or.inr ⟨hz0, _, hcl6, h3⟩)
  obtain ⟨g₀, hfr⟩ := X'.frames_eq
  have hcell9 : ((T.setVm vm').setFrames (.throwing q :: below)).heap[q]? = some ce := by
    show T.heap[q]? = some ce
    rw [hT]; exact hcell
  have hend : Ended ((T.setVm vm').setFrames (.throwing q :: below)) below (.threw q) := State.frames_setFrames _ (State.cur_lt_of_frames hfr)
  refine ⟨(T.setVm vm').setFrames (.throwing q :: below), ?_, .threw q, X'.here.running, hend, Or.inr ⟨q, rfl, E, ce, locs, hx _ hT (X'.ends _).1.alike, hcell9, hv, hcl, (X'.ends _).1, (X'.ends _).2.mono hc hs, hf⟩⟩
  rw [X.pushThrowing_eq]
  exact st
/-- a thing of a world lies in the heap -/
theorem vx_lt {D : va_G} {cl : List vw_C} {ws : va_W} {H1 : Heap} (h : va_P D cl ws H1) {k : Nat} {q : Nat × va_E} (hk : ws[k]? = some q) : q.1 < H1.size := (h k q hk).lt
end VXS
/-! ===== END ===== -/
/-! ===== BEGIN methods with a table of their own: called by a name, returning or throwing ===== -/
section VXH
/-! vx_backW, vx_callVX, vx_callSX, vx_callVW, vx_runVW, vx_runVX, vx_runSX, vx_ofWH follow the same proofs as their sisters above (Free/Laws.lean, Shelf42/LK1.lean); vx_outP calls Shelf42/NT130.lean (outThrough). -/
section
variable {l : Launch} {R : Room} {p : Program} {e : Env} {below : List Frame} {s : State} {sargs : Array Value} {y : MethodName} {len W9 : Nat}
theorem vx_backW {ws : List Cond} {rm : Room} {Pc : Array Value → State → Prop} {Qc : Array Value → State → Outcome → State → Prop} {XC : String → State → State → Prop} {mc ms : Nat} {free : Addr → Prop} {bytes : ByteArray} {maxL : Nat} {ret : Option FieldType} {hh : List (Nat × Nat × Nat × Nat)}
    (hM : vx_Met l y ws rm Pc Qc XC mc ms free) (hblind : FrameBlind Pc) (hrc : rm.cells = mc) (hrs : rm.slots = ms)
    (hframes : rm.frames + 1 ≤ R.frames) (hlocals : W9 + (maxL + 11) + rm.locals ≤ R.locals)
    (hws : ∀ w ∈ ws, ∀ a' U, s.WarmedH U.vm → w.before a' U = true) (hcode : Cond.codeWith y bytes maxL ret hh ∈ ws) (hinit : ∀ a' U, s.WarmedH U.vm → (Cond.initialized y.cls).before a' U = true) :
    vx_Back l R p e below s sargs y len W9 (PreOf R mc ms Pc) (PostOf Qc mc ms free) (vx_Post XC mc ms free) := by
  intro m meth c A g ig mk a X hg hsize hdg hW hn hp
  have h1 : (headSpec ws rm).pre.before a A.U = true := atoms_intro fun w hw => hws w hw _ _ X.warmed
  have h2 : (Cond.codeWith y bytes maxL ret hh).before a A.U = true := hws _ hcode _ _ X.warmed
  have h3 : (Cond.initialized y.cls).before a A.U = true := hinit _ _ X.warmed
  have h4 : A.cells + (headSpec ws rm).room.cells ≤ R.cells := by rw [show (headSpec ws rm).room.cells = mc from hrc]; exact hp.1
  have h5 : A.slots + (headSpec ws rm).room.slots ≤ R.slots := by rw [show (headSpec ws rm).room.slots = ms from hrs]; exact hp.2.1
  have hPc : Pc a (A.U.calling g mk a) := hblind _ _ _ _ hp.2.2
  obtain ⟨U, Ls, c0, s0⟩ := A
  dsimp only [Pt.U, Pt.locs, Pt.cells, Pt.slots] at h1 h2 h3 h4 h5 X hn hPc ⊢
  obtain ⟨m9, methY, cY, hn9, hmY, hcY, -, hlY, -⟩ := Cond.codeWith_spec h2
  cases Option.some.inj (hn9.symm.trans hn)
  obtain ⟨kY, hkY, -⟩ := className_of_methodNamed hn
  have hinitY : kY.init = .initialized := Cond.initialized_spec (findClass_of_methodNamed hn) hkY h3
  have h : At U g.method c below := by rw [hg]; exact X.here
  have hlocals9 : W9 + (maxL + 11) + (headSpec ws rm).room.locals ≤ R.locals := hlocals
  have happ : (headSpec ws rm).appliesLoose y e.platform (U.calling g mk a) = true :=
    Spec.appliesLoose_calling (g := g) h hdg hn hkY hinitY
      (X.room_calling (g := g) (R' := (headSpec ws rm).room) hsize hmY hcY hframes (by rw [hlY]; omega) h4 h5) h1
  obtain ⟨mid, hmid⟩ := h.above
  have hfr : (U.setTop g).frames = (.java g :: mid) ++ below := by rw [State.frames_setTop' g h.top, hmid]; rfl
  obtain ⟨o, s₂, hsteps, -, hend, hq⟩ := Steps.callFree hM p X.admits X.cas X.clock (acts := []) hfr happ hPc trivial
  have hq' : vx_Q Qc XC mc ms free a (U.calling g mk a) o s₂ := hq
  rw [State.frames_setTop' g h.top] at hend
  obtain ⟨g₀, hg0⟩ := Option.isSome_iff_exists.mp h.top
  obtain ⟨r, hr⟩ := State.topJava?_eq_some.mp hg0
  have hr' : (({ U with heap := s₂.heap, slotsUsed := s₂.slotsUsed } : State).setVm s₂.vm).frames = .java g₀ :: r := hr
  rcases hq' with ⟨hqc, L, hfe, hL⟩ | ⟨q, rfl, E, ce, L, hx, hce, hcv, hcl, hW₂, hsm, hL⟩
  · obtain ⟨⟨v, rfl⟩, hW₂, e2, q2, q3, q4, q5, q6⟩ := id hfe
    have e3 : s₂ = ({ (U.calling g mk a).setFrames s₂.frames with heap := s₂.heap, slotsUsed := s₂.slotsUsed } : State).setVm s₂.vm := by
      have : s₂ = ({ s₂ with vm := (U.calling g mk a).vm } : State).setVm s₂.vm := rfl
      rw [e2] at this
      exact this
    obtain ⟨c₂, i₂, len₂, hc₂, hd₂, hf₂⟩ := hend
    have hW' : U.WarmedH s₂.vm := hW₂
    have hcc : c₂ = c := by
      have h1 : s₂.code? g.method = U.code? g.method := by
        rw [State.code?_eq, State.code?_eq, hW'.alike.method?]
      exact Option.some.inj (hc₂.symm.trans (h1.trans h.code))
    subst hcc
    have hlen : len₂ = len := by rw [hdg] at hd₂; cases hd₂; rfl
    subst hlen
    have hs₂ : s₂ = (({ U with heap := s₂.heap, slotsUsed := s₂.slotsUsed } : State).setVm s₂.vm).setTop { g with pc := g.pc + len₂, stack := v.toList ++ g.stack } := by
      refine e3.trans ?_
      rw [hf₂, State.calling_eq h.top, State.setFrames_setFrames, State.setTop_of_frames _ hr', hr]
      rfl
    have hsame : U.sameButNew ({ U with heap := s₂.heap, slotsUsed := s₂.slotsUsed } : State) L mc ms := by
      refine ⟨?_, q2, q3, q4, q5, q6⟩
      obtain ⟨t, ht, -⟩ := State.frames_cons hr
      show ({ U with heap := s₂.heap, slotsUsed := s₂.slotsUsed } : State) = { U.setFrames U.frames with heap := s₂.heap, slotsUsed := s₂.slotsUsed }
      rw [State.setFrames_self ht]
    subst hg
    refine Or.inl ⟨v, ⟨(({ U with heap := s₂.heap, slotsUsed := s₂.slotsUsed } : State).setVm s₂.vm), Ls ++ L, c0 + mc, s0 + ms⟩,
      ⟨X.admits, X.cas, X.clock, X.frames, X.room, X.hears, X.method, X.code, (X.here.setHeapUsed s₂.heap s₂.slotsUsed).setVm hW'.alike, X.tail, State.WarmedH.trans X.warmed hW', X.limits, X.bytes, X.same.trans (hsame.setVm s.vm)⟩,
      ⟨g, mk, s₂, L, rfl, rfl, hqc, rfl, hL, rfl, rfl⟩, ?_⟩
    show Steps p.tables e below _ ((({ U with heap := s₂.heap, slotsUsed := s₂.slotsUsed } : State).setVm s₂.vm).setTop { g with pc := g.pc + len₂, stack := v.toList ++ g.stack })
    rw [← hs₂]
    exact hsteps
  · obtain ⟨e2, q2, q3, q4, q5, q6⟩ := id hsm
    have e3 : s₂ = ({ (U.calling g mk a).setFrames s₂.frames with heap := s₂.heap, slotsUsed := s₂.slotsUsed } : State).setVm s₂.vm := by
      have : s₂ = ({ s₂ with vm := (U.calling g mk a).vm } : State).setVm s₂.vm := rfl
      rw [e2] at this
      exact this
    have hf₂ : s₂.frames = .throwing q :: .java g :: U.frames.tail := hend
    have hW' : U.WarmedH s₂.vm := hW₂
    have hs₂ : s₂ = ((({ U with heap := s₂.heap, slotsUsed := s₂.slotsUsed } : State).setVm s₂.vm).setTop g).pushFrame (.throwing q) := by
      refine e3.trans ?_
      rw [hf₂, State.calling_eq h.top, State.setFrames_setFrames, State.pushFrame, State.frames_setTop _ hr', State.setTop_of_frames _ hr', State.setFrames_setFrames, hr]
      rfl
    have hsame : U.sameButNew ({ U with heap := s₂.heap, slotsUsed := s₂.slotsUsed } : State) L mc ms := by
      refine ⟨?_, q2, q3, q4, q5, q6⟩
      obtain ⟨t, ht, -⟩ := State.frames_cons hr
      show ({ U with heap := s₂.heap, slotsUsed := s₂.slotsUsed } : State) = { U.setFrames U.frames with heap := s₂.heap, slotsUsed := s₂.slotsUsed }
      rw [State.setFrames_self ht]
    subst hg
    refine Or.inr ⟨q, ⟨(({ U with heap := s₂.heap, slotsUsed := s₂.slotsUsed } : State).setVm s₂.vm), Ls ++ L, c0 + mc, s0 + ms⟩,
      ⟨X.admits, X.cas, X.clock, X.frames, X.room, X.hears, X.method, X.code, (X.here.setHeapUsed s₂.heap s₂.slotsUsed).setVm hW'.alike, X.tail, State.WarmedH.trans X.warmed hW', X.limits, X.bytes, X.same.trans (hsame.setVm s.vm)⟩,
      ⟨g, mk, s₂, L, E, ce, rfl, rfl, hx, hce, hcv, hcl, rfl, hL, rfl, rfl⟩, ?_⟩
    show Steps p.tables e below _ (((({ U with heap := s₂.heap, slotsUsed := s₂.slotsUsed } : State).setVm s₂.vm).setTop g).pushFrame (.throwing q))
    rw [← hs₂]
    exact hsteps
end
variable {p : Program} {l : Launch} {e : Env} {R : Room} {s : State} {m : MethodId} {args : Array Value} {below : List Frame} {meth : Method} {c : Code} {T : State} {H : Heap} {locs : List Loc} {cells slots : Nat}
theorem vx_callVX (X : Stand p l e R s m args below meth c T locs cells slots) (hexec : p.tables.exec = Jvm.exec) {own C : String} {index : Nat} {y : MethodName} {bytes : ByteArray} {maxL : Nat} {ret : Option FieldType} {hh : List (Nat × Nat × Nat × Nat)}
    (hown : s.vm.findClass own = some m.cls) (hlink : (Cond.methodLink own index y).before args s = true) (hinst : (Cond.instanceMethod y).before args s = true) (hsel : (Cond.selects C y y).before args s = true)
    (hcode : (Cond.codeWith y bytes maxL ret hh).before args s = true) (hy : y.cls ≠ "java/lang/invoke/MethodHandle" ∧ y.cls ≠ "java/lang/invoke/VarHandle")
    {W9 : Nat} {Pre : Pt → Array Value → Prop} {Post : Pt → Array Value → Option Value → Pt → Prop} {PostX : Pt → Array Value → Addr → Pt → Prop} (hK : vx_Back l R p e below s args y 3 W9 Pre Post PostX)
    {b : Addr} {cellB : Cell} (hcell : T.heap[b]? = some cellB) (hobj : cellB.vm.isStatics = false) (hcls : s.vm.findClass C = some cellB.cls)
    {g : JFrame} (hg : g.method = m) (hsize : g.locals.size = c.maxLocals) {argsL rest : List Value} (hlen : ∀ sig, parseMethodDescriptor y.desc = some sig → argsL.length = sig.parameters.length)
    (hstack : g.stack = argsL.reverse ++ .ref b :: rest) (hW : 2 * g.monitorRoom + (rest.map fun v => v.category).sum ≤ W9) (hdg : decode c.code g.pc = .ok (.invokevirtual index, 3))
    (hpre : ∀ vm₁, s.WarmedH vm₁ → Pre ⟨T.setVm vm₁, locs, cells, slots⟩ (Value.ref b :: argsL).toArray) :
    (∃ (v : Option Value) (vm₁ : Vm) (B : Pt), s.WarmedH vm₁ ∧ Stand p l e R s m args below meth c B.U B.locs B.cells B.slots ∧ Post ⟨T.setVm vm₁, locs, cells, slots⟩ (Value.ref b :: argsL).toArray v B ∧
      ∀ target, Steps p.tables e below (B.U.setTop { g with pc := g.pc + 3, stack := v.toList ++ rest }) target → Steps p.tables e below (T.setTop g) target) ∨
    (∃ (q : Addr) (vm₁ : Vm) (B : Pt), s.WarmedH vm₁ ∧ Stand p l e R s m args below meth c B.U B.locs B.cells B.slots ∧ PostX ⟨T.setVm vm₁, locs, cells, slots⟩ (Value.ref b :: argsL).toArray q B ∧
      Steps p.tables e below (T.setTop g) ((B.U.setTop { g with stack := rest }).pushFrame (.throwing q))) := by
  obtain ⟨mk, methM, hnamed, hmethM, hstM, habM⟩ := Cond.instanceMethod_spec hinst
  obtain ⟨m8, methM', cM, hn8, hmethM', -, -, -, -, -, -, hsigM⟩ := Cond.codeWith_spec hcode
  cases Option.some.inj (hn8.symm.trans hnamed)
  cases hmethM.symm.trans hmethM'
  obtain ⟨c2, r2, m2, q1, q2, q3, q4, kP, hkP, hkPi⟩ := Cond.selects_spec hsel
  cases hcls.symm.trans q1
  cases (State.methodFound?_of_named hnamed hy).symm.trans q2
  cases hnamed.symm.trans q3
  have hselP : selectMethod e.platform s.vm cellB.cls mk = .method mk := by rw [Launch.admits_selectMethod X.admits]; exact q4
  obtain ⟨vm₁, X₁, hstep₁⟩ := X.invokevirtual hexec hown hlink hnamed hmethM hstM hkP hkPi hy (a := b) (cell := cellB) hcell
    (fun z h => by rw [h] at hobj; cases hobj) hselP hmethM habM hkP hkPi (g := g) hg (argsL := argsL) (rest := rest) (hlen _ hsigM) hstack hdg
  rcases hK m meth c ⟨T.setVm vm₁, locs, cells, slots⟩ { g with stack := rest } (.invokevirtual index) mk (Value.ref b :: argsL).toArray X₁ hg hsize hdg hW (X₁.named hnamed) (hpre vm₁ X₁.warmed) with ⟨v, B, X', hpost, hsteps⟩ | ⟨q, B, X', hpost, hsteps⟩
  · exact Or.inl ⟨v, vm₁, B, X₁.warmed, X', hpost, fun target h => hstep₁ _ fun acts => by rw [doInvoke_state]; exact hsteps.trans h⟩
  · exact Or.inr ⟨q, vm₁, B, X₁.warmed, X', hpost, hstep₁ _ fun acts => by rw [doInvoke_state]; exact hsteps⟩
theorem vx_callSX (X : Stand p l e R s m args below meth c T locs cells slots) (hexec : p.tables.exec = Jvm.exec) {own : String} {index : Nat} {y : MethodName} {bytes : ByteArray} {maxL : Nat} {ret : Option FieldType} {hh : List (Nat × Nat × Nat × Nat)}
    (hown : s.vm.findClass own = some m.cls) (hlink : (Cond.methodLink own index y).before args s = true) (hstat : (Cond.static y).before args s = true) (hinit : (Cond.initialized y.cls).before args s = true)
    (hcode : (Cond.codeWith y bytes maxL ret hh).before args s = true) (hy : y.cls ≠ "java/lang/invoke/MethodHandle" ∧ y.cls ≠ "java/lang/invoke/VarHandle")
    {W9 : Nat} {Pre : Pt → Array Value → Prop} {Post : Pt → Array Value → Option Value → Pt → Prop} {PostX : Pt → Array Value → Addr → Pt → Prop} (hK : vx_Back l R p e below s args y 3 W9 Pre Post PostX)
    {g : JFrame} (hg : g.method = m) (hsize : g.locals.size = c.maxLocals) {argsL rest : List Value} (hlen : ∀ sig, parseMethodDescriptor y.desc = some sig → argsL.length = sig.parameters.length)
    (hstack : g.stack = argsL.reverse ++ rest) (hW : 2 * g.monitorRoom + (rest.map fun v => v.category).sum ≤ W9) (hdg : decode c.code g.pc = .ok (.invokestatic index, 3))
    (hpre : ∀ vm₁, s.WarmedH vm₁ → Pre ⟨T.setVm vm₁, locs, cells, slots⟩ argsL.toArray) :
    (∃ (v : Option Value) (vm₁ : Vm) (B : Pt), s.WarmedH vm₁ ∧ Stand p l e R s m args below meth c B.U B.locs B.cells B.slots ∧ Post ⟨T.setVm vm₁, locs, cells, slots⟩ argsL.toArray v B ∧
      ∀ target, Steps p.tables e below (B.U.setTop { g with pc := g.pc + 3, stack := v.toList ++ rest }) target → Steps p.tables e below (T.setTop g) target) ∨
    (∃ (q : Addr) (vm₁ : Vm) (B : Pt), s.WarmedH vm₁ ∧ Stand p l e R s m args below meth c B.U B.locs B.cells B.slots ∧ PostX ⟨T.setVm vm₁, locs, cells, slots⟩ argsL.toArray q B ∧
      Steps p.tables e below (T.setTop g) ((B.U.setTop { g with stack := rest }).pushFrame (.throwing q))) := by
  obtain ⟨mk, methM, cM, hnamed, hmethM, -, -, -, -, -, -, hsigM⟩ := Cond.codeWith_spec hcode
  have hstatic : methM.isStatic = true := Cond.static_spec hnamed hmethM hstat
  obtain ⟨kP, hkP, -⟩ := className_of_methodNamed hnamed
  have hinitP : kP.init = .initialized := Cond.initialized_spec (findClass_of_methodNamed hnamed) hkP hinit
  obtain ⟨vm₁, X₁, hstep₁⟩ := X.invokestatic hexec hown hlink hnamed hmethM hstatic hkP hinitP hy (g := g) hg (argsL := argsL) (rest := rest) (hlen _ hsigM) hstack hdg
  rcases hK m meth c ⟨T.setVm vm₁, locs, cells, slots⟩ { g with stack := rest } (.invokestatic index) mk argsL.toArray X₁ hg hsize hdg hW (X₁.named hnamed) (hpre vm₁ X₁.warmed) with ⟨v, B, X', hpost, hsteps⟩ | ⟨q, B, X', hpost, hsteps⟩
  · exact Or.inl ⟨v, vm₁, B, X₁.warmed, X', hpost, fun target h => hstep₁ _ fun acts => by rw [doInvoke_state]; exact hsteps.trans h⟩
  · exact Or.inr ⟨q, vm₁, B, X₁.warmed, X', hpost, hstep₁ _ fun acts => by rw [doInvoke_state]; exact hsteps⟩
theorem vx_callVW (X : Stand p l e R s m args below meth c T locs cells slots) (hexec : p.tables.exec = Jvm.exec) {own C : String} {index : Nat} {y : MethodName} {bytes : ByteArray} {maxL : Nat} {ret : Option FieldType} {hh : List (Nat × Nat × Nat × Nat)}
    (hown : s.vm.findClass own = some m.cls) (hlink : (Cond.methodLink own index y).before args s = true) (hinst : (Cond.instanceMethod y).before args s = true) (hsel : (Cond.selects C y y).before args s = true)
    (hcode : (Cond.codeWith y bytes maxL ret hh).before args s = true) (hy : y.cls ≠ "java/lang/invoke/MethodHandle" ∧ y.cls ≠ "java/lang/invoke/VarHandle")
    {W9 : Nat} {Pre : Pt → Array Value → Prop} {Post : Pt → Array Value → Option Value → Pt → Prop} (hK : Back l R p e below s args y 3 W9 Pre Post)
    {b : Addr} {cellB : Cell} (hcell : T.heap[b]? = some cellB) (hobj : cellB.vm.isStatics = false) (hcls : s.vm.findClass C = some cellB.cls)
    {g : JFrame} (hg : g.method = m) (hsize : g.locals.size = c.maxLocals) {argsL rest : List Value} (hlen : ∀ sig, parseMethodDescriptor y.desc = some sig → argsL.length = sig.parameters.length)
    (hstack : g.stack = argsL.reverse ++ .ref b :: rest) (hW : 2 * g.monitorRoom + (rest.map fun v => v.category).sum ≤ W9) (hdg : decode c.code g.pc = .ok (.invokevirtual index, 3))
    (hpre : ∀ vm₁, s.WarmedH vm₁ → Pre ⟨T.setVm vm₁, locs, cells, slots⟩ (Value.ref b :: argsL).toArray) :
    ∃ (v : Option Value) (vm₁ : Vm) (B : Pt), s.WarmedH vm₁ ∧ Stand p l e R s m args below meth c B.U B.locs B.cells B.slots ∧ Post ⟨T.setVm vm₁, locs, cells, slots⟩ (Value.ref b :: argsL).toArray v B ∧
      ∀ target, Steps p.tables e below (B.U.setTop { g with pc := g.pc + 3, stack := v.toList ++ rest }) target → Steps p.tables e below (T.setTop g) target := by
  obtain ⟨mk, methM, hnamed, hmethM, hstM, habM⟩ := Cond.instanceMethod_spec hinst
  obtain ⟨m8, methM', cM, hn8, hmethM', -, -, -, -, -, -, hsigM⟩ := Cond.codeWith_spec hcode
  cases Option.some.inj (hn8.symm.trans hnamed)
  cases hmethM.symm.trans hmethM'
  obtain ⟨c2, r2, m2, q1, q2, q3, q4, kP, hkP, hkPi⟩ := Cond.selects_spec hsel
  cases hcls.symm.trans q1
  cases (State.methodFound?_of_named hnamed hy).symm.trans q2
  cases hnamed.symm.trans q3
  have hselP : selectMethod e.platform s.vm cellB.cls mk = .method mk := by rw [Launch.admits_selectMethod X.admits]; exact q4
  obtain ⟨vm₁, X₁, hstep₁⟩ := X.invokevirtual hexec hown hlink hnamed hmethM hstM hkP hkPi hy (a := b) (cell := cellB) hcell
    (fun z h => by rw [h] at hobj; cases hobj) hselP hmethM habM hkP hkPi (g := g) hg (argsL := argsL) (rest := rest) (hlen _ hsigM) hstack hdg
  obtain ⟨v, B, X', hpost, hsteps⟩ := hK m meth c ⟨T.setVm vm₁, locs, cells, slots⟩ { g with stack := rest } (.invokevirtual index) mk (Value.ref b :: argsL).toArray X₁ hg hsize hdg hW (X₁.named hnamed) (hpre vm₁ X₁.warmed)
  exact ⟨v, vm₁, B, X₁.warmed, X', hpost, fun target h => hstep₁ _ fun acts => by rw [doInvoke_state]; exact hsteps.trans h⟩
abbrev vx_CVW (R : Room) (s : State) (args : Array Value) (own C : String) (index : Nat) (y : MethodName) (bytes : ByteArray) (maxL : Nat) (ret : Option FieldType) (hh : List (Nat × Nat × Nat × Nat)) (ws : List Cond) (rm : Room) (mc ms n : Nat) : Prop :=
  (rm.cells = mc ∧ rm.slots = ms ∧ rm.frames + 1 ≤ R.frames ∧ 8 + (maxL + 11) + rm.locals ≤ R.locals ∧ (∀ w ∈ ws, ∀ (a' : Array Value) (U : State), s.WarmedH U.vm → w.before a' U = true) ∧ Cond.codeWith y bytes maxL ret hh ∈ ws) ∧
  (Cond.codeWith y bytes maxL ret hh).before args s = true ∧ (Cond.initialized y.cls).before args s = true ∧ (y.cls ≠ "java/lang/invoke/MethodHandle" ∧ y.cls ≠ "java/lang/invoke/VarHandle") ∧
  (∀ sig, parseMethodDescriptor y.desc = some sig → n = sig.parameters.length) ∧ (Cond.methodLink own index y).before args s = true ∧ (Cond.instanceMethod y).before args s = true ∧ (Cond.selects C y y).before args s = true
theorem vx_cwVW {own C : String} {index maxL mc ms : Nat} {y : MethodName} {bytes : ByteArray} {ret : Option FieldType} {hh : List (Nat × Nat × Nat × Nat)} {Ts ws ws' : List Cond} {rm : Room} (n : Nat) (ht : ∀ w ∈ Ts, w.before args s = true) (hT : GoodIn Ts (wsV own index C y ws)) (hw : ws = Cond.codeWith y bytes maxL ret hh :: ws') (hrc : rm.cells = mc) (hrs : rm.slots = ms)
    (hd : y.cls = C ∧ y.cls ≠ "java/lang/invoke/MethodHandle" ∧ y.cls ≠ "java/lang/invoke/VarHandle" ∧ (parseMethodDescriptor y.desc).map (fun d => d.parameters.length) = some n) (hR : rm.frames + 1 ≤ R.frames ∧ 8 + (maxL + 11) + rm.locals ≤ R.locals) :
    vx_CVW R s args own C index y bytes maxL ret hh ws rm mc ms n := by
  obtain ⟨hC, hd⟩ := hd
  subst hC
  have ok : ∀ w ∈ wsV own index y.cls y ws, w.before args s = true := fun w h => ht w (hT w h).1
  have hG : GoodIn Ts ws := fun w h => hT w (by unfold wsV; exact List.mem_append_right _ h)
  have hc : Cond.codeWith y bytes maxL ret hh ∈ ws := by rw [hw]; exact List.mem_cons_self
  refine ⟨⟨hrc, hrs, hR.1, hR.2, pay_in ht hG, hc⟩, ht _ (hG _ hc).1, ok _ (by simp [wsV]), ⟨hd.1, hd.2.1⟩, fun sig h => ?_, ok _ (by simp [wsV]), ok _ (by simp [wsV]), ok _ (by simp [wsV])⟩
  have h2 := hd.2.2
  rw [h] at h2
  exact (Option.some.inj h2).symm
theorem vx_runVW {y : MethodName} {bytes cc : ByteArray} {maxL nL mc ms n index : Nat} {ret : Option FieldType} {hh : List (Nat × Nat × Nat × Nat)} {ws : List Cond} {rm : Room} {Pc : Array Value → State → Prop} {Qc : Array Value → State → Outcome → State → Prop} {free : Addr → Prop} {Ts : List Cond} {own C : String} {b : Addr} {As rest : List Value} {g : JFrame}
    (S : CallFix p m c cc nL s args Ts own) (hM : Met l y ws rm Pc Qc mc ms free) (cw : vx_CVW R s args own C index y bytes maxL ret hh ws rm mc ms n) (hp : PreV s H C b Pc As)
    (hg : g.method = m) (hn : As.length = n) (hsize : g.locals.size = nL) (hstack : g.stack = As.reverse ++ .ref b :: rest) (hW : 2 * g.monitorRoom + (rest.map fun v => v.category).sum ≤ 8) (hdg : decode cc g.pc = .ok (.invokevirtual index, 3)) (hf : cells + mc ≤ R.cells ∧ slots + ms ≤ R.slots) :
    va_Run p l e R s m args below meth c H locs cells slots mc ms g rest (Qc (Value.ref b :: As).toArray) free := by
  obtain ⟨⟨hrc, hrs, hfr, hlo, hws, hcw⟩, hcode, hini, hy, hlen, hl, hin, hse⟩ := cw
  have hK : Back l R p e below s args y 3 8 (PreOf R mc ms Pc) (PostOf Qc mc ms free) := va_backW (hh := hh) (bytes := bytes) (maxL := maxL) (ret := ret) hM hp.1 hrc hrs hfr hlo hws hcw (fun a' U hW => word_at hW (Or.inl (by first | rfl | simp [Cond.onTables, Cond.keeps, Cond.steady])) hini)
  obtain ⟨hx, hb, hml, ho, -⟩ := S
  obtain ⟨-, ⟨cellB, hcB, hoB, hclB⟩, hPc⟩ := hp
  intro T hT X
  obtain ⟨v, vm₁, ⟨U', l2, c2, s2⟩, hW₁, X', ⟨g', mk, t, L, e1, e2, hq, h1, hL, h2, h3⟩, st⟩ := vx_callVW X hx (C := C) (hh := hh) (bytes := bytes) (maxL := maxL) (ret := ret) ho hl hin hse hcode hy hK (by rw [hT]; exact hcB) hoB hclB hg (hsize.trans hml.symm) (argsL := As) (rest := rest) (fun sig h => hn.trans (hlen sig h)) hstack hW (by rw [hb]; exact hdg)
    (fun vm₁ hW₁ => ⟨hf.1, hf.2, hPc (T.setVm vm₁) hT hW₁⟩)
  dsimp only [Pt.U, Pt.locs, Pt.cells, Pt.slots] at X' e1 e2 h1 h2 h3 st
  subst h1; subst h2; subst h3
  exact ⟨v, (T.setVm vm₁).calling g' mk (Value.ref b :: As).toArray, t, U', L, hT, X', hL, e1, e2, hq, st⟩
section
variable {y : MethodName} {bytes cc : ByteArray} {maxL nL mc ms n index : Nat} {ret : Option FieldType} {ws : List Cond} {rm : Room} {Pc : Array Value → State → Prop} {Qc : Array Value → State → Outcome → State → Prop} {XC : String → State → State → Prop} {free : Addr → Prop} {Ts : List Cond} {own C : String} {b : Addr} {As rest : List Value} {g : JFrame}
theorem vx_runVX {hh : List (Nat × Nat × Nat × Nat)} (S : CallFix p m c cc nL s args Ts own) (hM : vx_Met l y ws rm Pc Qc XC mc ms free) (cw : vx_CVW R s args own C index y bytes maxL ret hh ws rm mc ms n) (hp : PreV s H C b Pc As)
    (hg : g.method = m) (hn : As.length = n) (hsize : g.locals.size = nL) (hstack : g.stack = As.reverse ++ .ref b :: rest) (hW : 2 * g.monitorRoom + (rest.map fun v => v.category).sum ≤ 8) (hdg : decode cc g.pc = .ok (.invokevirtual index, 3)) (hf : cells + mc ≤ R.cells ∧ slots + ms ≤ R.slots) :
    vx_Run p l e R s m args below meth c H locs cells slots mc ms g rest (Qc (Value.ref b :: As).toArray) XC free := by
  obtain ⟨⟨hrc, hrs, hfr, hlo, hws, hcw⟩, hcode, hini, hy, hlen, hl, hin, hse⟩ := cw
  have hK : vx_Back l R p e below s args y 3 8 (PreOf R mc ms Pc) (PostOf Qc mc ms free) (vx_Post XC mc ms free) := vx_backW (hh := hh) (bytes := bytes) (maxL := maxL) (ret := ret) hM hp.1 hrc hrs hfr hlo hws hcw (fun a' U hW => word_at hW (Or.inl (by first | rfl | simp [Cond.onTables, Cond.keeps, Cond.steady])) hini)
  obtain ⟨hx, hb, hml, ho, -⟩ := S
  obtain ⟨-, ⟨cellB, hcB, hoB, hclB⟩, hPc⟩ := hp
  intro T hT X
  rcases vx_callVX X hx (C := C) (hh := hh) (bytes := bytes) (maxL := maxL) (ret := ret) ho hl hin hse hcode hy hK (by rw [hT]; exact hcB) hoB hclB hg (hsize.trans hml.symm) (argsL := As) (rest := rest) (fun sig h => hn.trans (hlen sig h)) hstack hW (by rw [hb]; exact hdg)
    (fun vm₁ hW₁ => ⟨hf.1, hf.2, hPc (T.setVm vm₁) hT hW₁⟩) with ⟨v, vm₁, ⟨U', l2, c2, s2⟩, hW₁, X', ⟨g', mk, t, L, e1, e2, hq, h1, hL, h2, h3⟩, st⟩ | ⟨q, vm₁, ⟨U', l2, c2, s2⟩, hW₁, X', ⟨g', mk, t, L, E, ce, e1, e2, hq, hce, hcv, hcl, h1, hL, h2, h3⟩, st⟩
  · dsimp only [Pt.U, Pt.locs, Pt.cells, Pt.slots] at X' e1 e2 h1 h2 h3 st
    subst h1; subst h2; subst h3
    exact Or.inl ⟨v, (T.setVm vm₁).calling g' mk (Value.ref b :: As).toArray, t, U', L, hT, X', hL, e1, e2, hq, st⟩
  · dsimp only [Pt.U, Pt.locs, Pt.cells, Pt.slots] at X' e1 e2 h1 h2 h3 st hcl
    subst h1; subst h2; subst h3
    exact Or.inr ⟨q, (T.setVm vm₁).calling g' mk (Value.ref b :: As).toArray, t, U', L, E, ce, hT, X', hL, e1, e2, hq, hce, hcv, vx_cls hW₁ hcl, st⟩
theorem vx_runSX {hh : List (Nat × Nat × Nat × Nat)} (S : CallFix p m c cc nL s args Ts own) (hM : vx_Met l y ws rm Pc Qc XC mc ms free) (cw : vx_CSW R s args own index y bytes maxL ret hh ws rm mc ms n) (hp : PreS s H Pc As)
    (hg : g.method = m) (hn : As.length = n) (hsize : g.locals.size = nL) (hstack : g.stack = As.reverse ++ rest) (hW : 2 * g.monitorRoom + (rest.map fun v => v.category).sum ≤ 8) (hdg : decode cc g.pc = .ok (.invokestatic index, 3)) (hf : cells + mc ≤ R.cells ∧ slots + ms ≤ R.slots) :
    vx_Run p l e R s m args below meth c H locs cells slots mc ms g rest (Qc As.toArray) XC free := by
  obtain ⟨⟨hrc, hrs, hfr, hlo, hws, hcw⟩, hcode, hini, hy, hlen, hl, hstt⟩ := cw
  have hK : vx_Back l R p e below s args y 3 8 (PreOf R mc ms Pc) (PostOf Qc mc ms free) (vx_Post XC mc ms free) := vx_backW (hh := hh) (bytes := bytes) (maxL := maxL) (ret := ret) hM hp.1 hrc hrs hfr hlo hws hcw (fun a' U hW => word_at hW (Or.inl (by first | rfl | simp [Cond.onTables, Cond.keeps, Cond.steady])) hini)
  obtain ⟨hx, hb, hml, ho, -⟩ := S
  intro T hT X
  rcases vx_callSX X hx (hh := hh) (bytes := bytes) (maxL := maxL) (ret := ret) ho hl hstt hini hcode hy hK hg (hsize.trans hml.symm) (argsL := As) (rest := rest) (fun sig h => hn.trans (hlen sig h)) hstack hW (by rw [hb]; exact hdg)
    (fun vm₁ hW₁ => ⟨hf.1, hf.2, hp.2 (T.setVm vm₁) hT hW₁⟩) with ⟨v, vm₁, ⟨U', l2, c2, s2⟩, hW₁, X', ⟨g', mk, t, L, e1, e2, hq, h1, hL, h2, h3⟩, st⟩ | ⟨q, vm₁, ⟨U', l2, c2, s2⟩, hW₁, X', ⟨g', mk, t, L, E, ce, e1, e2, hq, hce, hcv, hcl, h1, hL, h2, h3⟩, st⟩
  · dsimp only [Pt.U, Pt.locs, Pt.cells, Pt.slots] at X' e1 e2 h1 h2 h3 st
    subst h1; subst h2; subst h3
    exact Or.inl ⟨v, (T.setVm vm₁).calling g' mk As.toArray, t, U', L, hT, X', hL, e1, e2, hq, st⟩
  · dsimp only [Pt.U, Pt.locs, Pt.cells, Pt.slots] at X' e1 e2 h1 h2 h3 st hcl
    subst h1; subst h2; subst h3
    exact Or.inr ⟨q, (T.setVm vm₁).calling g' mk As.toArray, t, U', L, E, ce, hT, X', hL, e1, e2, hq, hce, hcv, vx_cls hW₁ hcl, st⟩
end
end VXH
theorem vx_ofWH {l : Launch} {y : MethodName} {ws ws' : List Cond} {rm : Room} {Pc : Array Value → State → Prop} {Qc : Array Value → State → Outcome → State → Prop} {XC : String → State → State → Prop} {mc ms : Nat} {free : Addr → Prop} {cc : ByteArray} {maxL : Nat} {ret : Option FieldType} {hh : List (Nat × Nat × Nat × Nat)}
    (hy : plainName y.cls = true) (hw : ws = Cond.codeWith y cc maxL ret hh :: ws')
    (body : ∀ p e s m args below meth c s₁, BodyLoose p l y (headSpec ws rm) cc maxL ret e s m args below meth c s₁ → c.maxLocals = maxL → Pc args s →
      W p l e (headSpec ws rm).room s m args below meth c s.heap [] 0 0 (vx_MQ below Qc XC args s mc ms free) (entryFrame m args maxL)) : vx_Met l y ws rm Pc Qc XC mc ms free := by
  refine MetFree.of_bodyS (code := cc) (maxLocals := maxL) (ret := ret) hy ?_ ?_
  · intro args s m h hn
    obtain ⟨m9, meth, c, hn9, h1, h2, h3, h4, -, h5, h6, -⟩ := Cond.codeWith_spec (atoms_spec (ws := ws) h _ (by rw [hw]; exact List.mem_cons_self))
    cases hn.symm.trans hn9
    exact ⟨meth, c, h1, h2, h3, h4, h5, h6⟩
  · intro p e s m args below meth c s₁ B hml hP _
    have hh0 : s₁.heap = s.heap := by rw [B.state]; rfl
    obtain ⟨t, a1, o, b1, b2, b3⟩ := body p e s m args below meth c s₁ B hml hP s₁ hh0 (Stand.of_body B)
    exact ⟨t, o, a1, b1, b2, b3⟩
/-! ===== END ===== -/

/-! ===== BEGIN printed: names, fields, word lists, decode rows ===== -/
def RX0 : String := "LocatorMapper$Entry"
def TX0 : u_T := fun k => match k with
  | 0 => ("LocatorMapper$Entry", "prefix", "LLocatorMapper$Prefix;", true)
  | 1 => ("LocatorMapper$Entry", "locators", "LLocatorMapper$Locators;", true)
  | 2 => ("LocatorMapper$Entry", "packets", "[I", true)
  | 3 => ("LocatorMapper$Entry", "mapping", "I", false)
  | 4 => ("LocatorMapper$Entry", "version", "I", false)
  | 5 => ("LocatorMapper$Entry", "end", "I", false)
  | _ => ("LocatorMapper$Entry", "isSolicited", "Z", false)
def tyX0 : Nat → FieldType := fun k => match k with
  | 0 => .object "LocatorMapper$Prefix"
  | 1 => .object "LocatorMapper$Locators"
  | 2 => .array .int
  | 3 => .int
  | 4 => .int
  | 5 => .int
  | _ => .boolean
abbrev wsX00 : List Cond := u_ws RX0 TX0 7
theorem nmX0 : ∀ a, a < 7 → ∀ b, b < 7 → a ≠ b → (TX0 a).2.1 ≠ (TX0 b).2.1 := by decide +kernel
theorem tyX0_ok : ∀ k, k < 7 → parseFieldDescriptor (TX0 k).2.2.1 = some (tyX0 k) := by decide +kernel
abbrev cX0_init : ByteArray := prog_2_method_1_code
def yX0_init : MethodName := ⟨RX0, "<init>", "()V"⟩
abbrev cX0_keepNegative : ByteArray := prog_2_method_2_code
def yX0_keepNegative : MethodName := ⟨RX0, "keepNegative", "(I)V"⟩
abbrev cX0_keepPositive : ByteArray := prog_2_method_3_code
def yX0_keepPositive : MethodName := ⟨RX0, "keepPositive", "(ILLocatorMapper$Mapping;I)V"⟩
abbrev cX0_hasEnded : ByteArray := prog_2_method_4_code
def yX0_hasEnded : MethodName := ⟨RX0, "hasEnded", "(I)Z"⟩
abbrev cX0_sendPacket : ByteArray := prog_2_method_5_code
def yX0_sendPacket : MethodName := ⟨RX0, "sendPacket", "([Z)I"⟩
abbrev cX0_bestPriority : ByteArray := prog_2_method_6_code
def yX0_bestPriority : MethodName := ⟨RX0, "bestPriority", "([Z)I"⟩
abbrev cX0_choose : ByteArray := prog_2_method_7_code
def yX0_choose : MethodName := ⟨RX0, "choose", "([ZI)I"⟩
abbrev cX0_isLookedAt : ByteArray := prog_2_method_8_code
def yX0_isLookedAt : MethodName := ⟨RX0, "isLookedAt", "(I[ZI)Z"⟩
def RX1 : String := "LocatorMapper$Locators"
def TX1 : u_T := fun k => match k with
  | 0 => ("LocatorMapper$Locators", "addresses", "[I", true)
  | 1 => ("LocatorMapper$Locators", "priorities", "[I", true)
  | 2 => ("LocatorMapper$Locators", "weights", "[I", true)
  | _ => ("LocatorMapper$Locators", "count", "I", false)
def tyX1 : Nat → FieldType := fun k => match k with
  | 0 => .array .int
  | 1 => .array .int
  | 2 => .array .int
  | _ => .int
abbrev wsX10 : List Cond := u_ws RX1 TX1 4
theorem nmX1 : ∀ a, a < 4 → ∀ b, b < 4 → a ≠ b → (TX1 a).2.1 ≠ (TX1 b).2.1 := by decide +kernel
theorem tyX1_ok : ∀ k, k < 4 → parseFieldDescriptor (TX1 k).2.2.1 = some (tyX1 k) := by decide +kernel
abbrev cX1_init : ByteArray := prog_3_method_1_code
def yX1_init : MethodName := ⟨RX1, "<init>", "()V"⟩
abbrev cX1_placeOf : ByteArray := prog_3_method_2_code
def yX1_placeOf : MethodName := ⟨RX1, "placeOf", "(I)I"⟩
abbrev cX1_add : ByteArray := prog_3_method_3_code
def yX1_add : MethodName := ⟨RX1, "add", "(III)V"⟩
abbrev cX1_removeAt : ByteArray := prog_3_method_4_code
def yX1_removeAt : MethodName := ⟨RX1, "removeAt", "(I)V"⟩
abbrev cX1_clear : ByteArray := prog_3_method_5_code
def yX1_clear : MethodName := ⟨RX1, "clear", "()V"⟩
abbrev cX1_copy : ByteArray := prog_3_method_6_code
def yX1_copy : MethodName := ⟨RX1, "copy", "(LLocatorMapper$Locators;)V"⟩
def RX2 : String := "LocatorMapper$Mapping"
def TX2 : u_T := fun k => match k with
  | 0 => ("LocatorMapper$Mapping", "prefix", "LLocatorMapper$Prefix;", true)
  | 1 => ("LocatorMapper$Mapping", "locators", "LLocatorMapper$Locators;", true)
  | 2 => ("LocatorMapper$Mapping", "version", "I", false)
  | _ => ("LocatorMapper$Mapping", "isWithdrawn", "Z", false)
def tyX2 : Nat → FieldType := fun k => match k with
  | 0 => .object "LocatorMapper$Prefix"
  | 1 => .object "LocatorMapper$Locators"
  | 2 => .int
  | _ => .boolean
abbrev wsX20 : List Cond := u_ws RX2 TX2 4
theorem nmX2 : ∀ a, a < 4 → ∀ b, b < 4 → a ≠ b → (TX2 a).2.1 ≠ (TX2 b).2.1 := by decide +kernel
theorem tyX2_ok : ∀ k, k < 4 → parseFieldDescriptor (TX2 k).2.2.1 = some (tyX2 k) := by decide +kernel
abbrev cX2_init : ByteArray := prog_4_method_1_code
def yX2_init : MethodName := ⟨RX2, "<init>", "()V"⟩
def RX3 : String := "LocatorMapper$Prefix"
def TX3 : u_T := fun k => match k with
  | 0 => ("LocatorMapper$Prefix", "value", "I", false)
  | _ => ("LocatorMapper$Prefix", "length", "I", false)
def tyX3 : Nat → FieldType := fun k => match k with
  | 0 => .int
  | _ => .int
abbrev wsX30 : List Cond := u_ws RX3 TX3 2
theorem nmX3 : ∀ a, a < 2 → ∀ b, b < 2 → a ≠ b → (TX3 a).2.1 ≠ (TX3 b).2.1 := by decide +kernel
theorem tyX3_ok : ∀ k, k < 2 → parseFieldDescriptor (TX3 k).2.2.1 = some (tyX3 k) := by decide +kernel
abbrev cX3_init : ByteArray := prog_5_method_1_code
def yX3_init : MethodName := ⟨RX3, "<init>", "()V"⟩
abbrev cX3_set : ByteArray := prog_5_method_2_code
def yX3_set : MethodName := ⟨RX3, "set", "(II)V"⟩
abbrev cX3_is : ByteArray := prog_5_method_3_code
def yX3_is : MethodName := ⟨RX3, "is", "(II)Z"⟩
abbrev cX3_meets : ByteArray := prog_5_method_4_code
def yX3_meets : MethodName := ⟨RX3, "meets", "(II)Z"⟩
abbrev cX3_covers : ByteArray := prog_5_method_5_code
def yX3_covers : MethodName := ⟨RX3, "covers", "(I)Z"⟩
def RX4 : String := "LocatorMapper$Registry"
def TX4 : u_T := fun k => match k with
  | 0 => ("LocatorMapper$Registry", "mappings", "[LLocatorMapper$Mapping;", true)
  | _ => ("LocatorMapper$Registry", "count", "I", false)
def tyX4 : Nat → FieldType := fun k => match k with
  | 0 => .array (.object "LocatorMapper$Mapping")
  | _ => .int
abbrev wsX40 : List Cond := u_ws RX4 TX4 2
theorem nmX4 : ∀ a, a < 2 → ∀ b, b < 2 → a ≠ b → (TX4 a).2.1 ≠ (TX4 b).2.1 := by decide +kernel
theorem tyX4_ok : ∀ k, k < 2 → parseFieldDescriptor (TX4 k).2.2.1 = some (tyX4 k) := by decide +kernel
abbrev cX4_init : ByteArray := prog_6_method_1_code
def yX4_init : MethodName := ⟨RX4, "<init>", "()V"⟩
abbrev cX4_add : ByteArray := prog_6_method_2_code
def yX4_add : MethodName := ⟨RX4, "add", "(II)I"⟩
abbrev cX4_has : ByteArray := prog_6_method_3_code
def yX4_has : MethodName := ⟨RX4, "has", "(II)Z"⟩
abbrev cX4_countRegistered : ByteArray := prog_6_method_4_code
def yX4_countRegistered : MethodName := ⟨RX4, "countRegistered", "()I"⟩
abbrev cX4_find : ByteArray := prog_6_method_5_code
def yX4_find : MethodName := ⟨RX4, "find", "(I)I"⟩
abbrev cX4_narrow : ByteArray := prog_6_method_6_code
def yX4_narrow : MethodName := ⟨RX4, "narrow", "(II)I"⟩
abbrev cX4_hidesLonger : ByteArray := prog_6_method_7_code
def yX4_hidesLonger : MethodName := ⟨RX4, "hidesLonger", "(III)Z"⟩
def RX5 : String := "LocatorMapper$Router"
def TX5 : u_T := fun k => match k with
  | 0 => ("LocatorMapper$Router", "entries", "[LLocatorMapper$Entry;", true)
  | 1 => ("LocatorMapper$Router", "isUnreachable", "[Z", true)
  | _ => ("LocatorMapper$Router", "count", "I", false)
def tyX5 : Nat → FieldType := fun k => match k with
  | 0 => .array (.object "LocatorMapper$Entry")
  | 1 => .array .boolean
  | _ => .int
abbrev wsX50 : List Cond := u_ws RX5 TX5 3
theorem nmX5 : ∀ a, a < 3 → ∀ b, b < 3 → a ≠ b → (TX5 a).2.1 ≠ (TX5 b).2.1 := by decide +kernel
theorem tyX5_ok : ∀ k, k < 3 → parseFieldDescriptor (TX5 k).2.2.1 = some (tyX5 k) := by decide +kernel
abbrev cX5_init : ByteArray := prog_7_method_1_code
def yX5_init : MethodName := ⟨RX5, "<init>", "()V"⟩
abbrev cX5_find : ByteArray := prog_7_method_2_code
def yX5_find : MethodName := ⟨RX5, "find", "(II)I"⟩
abbrev cX5_solicitMeeting : ByteArray := prog_7_method_3_code
def yX5_solicitMeeting : MethodName := ⟨RX5, "solicitMeeting", "(LLocatorMapper$Prefix;)I"⟩
abbrev cX5_makeRoom : ByteArray := prog_7_method_4_code
def yX5_makeRoom : MethodName := ⟨RX5, "makeRoom", "(II)I"⟩
abbrev cX5_takeOut : ByteArray := prog_7_method_5_code
def yX5_takeOut : MethodName := ⟨RX5, "takeOut", "(I)V"⟩
abbrev cX5_moveToEnd : ByteArray := prog_7_method_6_code
def yX5_moveToEnd : MethodName := ⟨RX5, "moveToEnd", "(I)LLocatorMapper$Entry;"⟩
abbrev cX5_countUnreachable : ByteArray := prog_7_method_7_code
def yX5_countUnreachable : MethodName := ⟨RX5, "countUnreachable", "()I"⟩
def RX6 : String := "LocatorMapper$Servers"
def TX6 : u_T := fun k => match k with
  | 0 => ("LocatorMapper$Servers", "isDown", "[Z", true)
  | 1 => ("LocatorMapper$Servers", "answered", "[I", true)
  | 2 => ("LocatorMapper$Servers", "delegated", "[LLocatorMapper$Prefix;", true)
  | 3 => ("LocatorMapper$Servers", "delegatedTo", "[I", true)
  | _ => ("LocatorMapper$Servers", "count", "I", false)
def tyX6 : Nat → FieldType := fun k => match k with
  | 0 => .array .boolean
  | 1 => .array .int
  | 2 => .array (.object "LocatorMapper$Prefix")
  | 3 => .array .int
  | _ => .int
abbrev wsX60 : List Cond := u_ws RX6 TX6 5
theorem nmX6 : ∀ a, a < 5 → ∀ b, b < 5 → a ≠ b → (TX6 a).2.1 ≠ (TX6 b).2.1 := by decide +kernel
theorem tyX6_ok : ∀ k, k < 5 → parseFieldDescriptor (TX6 k).2.2.1 = some (tyX6 k) := by decide +kernel
abbrev cX6_init : ByteArray := prog_8_method_1_code
def yX6_init : MethodName := ⟨RX6, "<init>", "()V"⟩
abbrev cX6_placeOf : ByteArray := prog_8_method_2_code
def yX6_placeOf : MethodName := ⟨RX6, "placeOf", "(II)I"⟩
abbrev cX6_add : ByteArray := prog_8_method_3_code
def yX6_add : MethodName := ⟨RX6, "add", "(III)V"⟩
abbrev cX6_find : ByteArray := prog_8_method_4_code
def yX6_find : MethodName := ⟨RX6, "find", "(I)I"⟩
def RX7 : String := "LocatorMapper"
def TX7 : u_T := fun k => match k with
  | 0 => ("LocatorMapper", "registry", "LLocatorMapper$Registry;", true)
  | 1 => ("LocatorMapper", "servers", "LLocatorMapper$Servers;", true)
  | 2 => ("LocatorMapper", "routers", "[LLocatorMapper$Router;", true)
  | 3 => ("LocatorMapper", "time", "I", false)
  | 4 => ("LocatorMapper", "positiveLifetime", "I", false)
  | 5 => ("LocatorMapper", "negativeLifetime", "I", false)
  | _ => ("LocatorMapper", "solicited", "I", false)
def tyX7 : Nat → FieldType := fun k => match k with
  | 0 => .object "LocatorMapper$Registry"
  | 1 => .object "LocatorMapper$Servers"
  | 2 => .array (.object "LocatorMapper$Router")
  | 3 => .int
  | 4 => .int
  | 5 => .int
  | _ => .int
abbrev wsX70 : List Cond := u_ws RX7 TX7 7
theorem nmX7 : ∀ a, a < 7 → ∀ b, b < 7 → a ≠ b → (TX7 a).2.1 ≠ (TX7 b).2.1 := by decide +kernel
theorem tyX7_ok : ∀ k, k < 7 → parseFieldDescriptor (TX7 k).2.2.1 = some (tyX7 k) := by decide +kernel
abbrev cX7_init : ByteArray := prog_1_method_1_code
def yX7_init : MethodName := ⟨RX7, "<init>", "()V"⟩
abbrev cX7_register : ByteArray := prog_1_method_2_code
def yX7_register : MethodName := ⟨RX7, "register", "(II)I"⟩
abbrev cX7_withdraw : ByteArray := prog_1_method_3_code
def yX7_withdraw : MethodName := ⟨RX7, "withdraw", "(I)I"⟩
abbrev cX7_addLocator : ByteArray := prog_1_method_4_code
def yX7_addLocator : MethodName := ⟨RX7, "addLocator", "(IIII)I"⟩
abbrev cX7_move : ByteArray := prog_1_method_5_code
def yX7_move : MethodName := ⟨RX7, "move", "(III)I"⟩
abbrev cX7_removeLocator : ByteArray := prog_1_method_6_code
def yX7_removeLocator : MethodName := ⟨RX7, "removeLocator", "(II)I"⟩
abbrev cX7_mappingOf : ByteArray := prog_1_method_7_code
def yX7_mappingOf : MethodName := ⟨RX7, "mappingOf", "(I)I"⟩
abbrev cX7_answerLength : ByteArray := prog_1_method_8_code
def yX7_answerLength : MethodName := ⟨RX7, "answerLength", "(I)I"⟩
abbrev cX7_version : ByteArray := prog_1_method_9_code
def yX7_version : MethodName := ⟨RX7, "version", "(I)I"⟩
abbrev cX7_delegate : ByteArray := prog_1_method_10_code
def yX7_delegate : MethodName := ⟨RX7, "delegate", "(III)I"⟩
abbrev cX7_setUp : ByteArray := prog_1_method_11_code
def yX7_setUp : MethodName := ⟨RX7, "setUp", "(IZ)Z"⟩
abbrev cX7_serverOf : ByteArray := prog_1_method_12_code
def yX7_serverOf : MethodName := ⟨RX7, "serverOf", "(I)I"⟩
abbrev cX7_answers : ByteArray := prog_1_method_13_code
def yX7_answers : MethodName := ⟨RX7, "answers", "(I)I"⟩
abbrev cX7_send : ByteArray := prog_1_method_14_code
def yX7_send : MethodName := ⟨RX7, "send", "(II)I"⟩
abbrev cX7_probe : ByteArray := prog_1_method_15_code
def yX7_probe : MethodName := ⟨RX7, "probe", "(IIZ)I"⟩
abbrev cX7_setLifetimes : ByteArray := prog_1_method_16_code
def yX7_setLifetimes : MethodName := ⟨RX7, "setLifetimes", "(II)I"⟩
abbrev cX7_pass : ByteArray := prog_1_method_17_code
def yX7_pass : MethodName := ⟨RX7, "pass", "(I)I"⟩
abbrev cX7_entries : ByteArray := prog_1_method_18_code
def yX7_entries : MethodName := ⟨RX7, "entries", "(I)I"⟩
abbrev cX7_prefixOf : ByteArray := prog_1_method_19_code
def yX7_prefixOf : MethodName := ⟨RX7, "prefixOf", "(II)I"⟩
abbrev cX7_mappingAt : ByteArray := prog_1_method_20_code
def yX7_mappingAt : MethodName := ⟨RX7, "mappingAt", "(II)I"⟩
abbrev cX7_lasts : ByteArray := prog_1_method_21_code
def yX7_lasts : MethodName := ⟨RX7, "lasts", "(II)I"⟩
abbrev cX7_packetsTo : ByteArray := prog_1_method_22_code
def yX7_packetsTo : MethodName := ⟨RX7, "packetsTo", "(III)I"⟩
abbrev cX7_solicitations : ByteArray := prog_1_method_23_code
def yX7_solicitations : MethodName := ⟨RX7, "solicitations", "()I"⟩
abbrev cX7_tellChange : ByteArray := prog_1_method_24_code
def yX7_tellChange : MethodName := ⟨RX7, "tellChange", "(LLocatorMapper$Mapping;)I"⟩
abbrev cX7_solicit : ByteArray := prog_1_method_25_code
def yX7_solicit : MethodName := ⟨RX7, "solicit", "(LLocatorMapper$Prefix;)V"⟩
abbrev cX7_keepAnswer : ByteArray := prog_1_method_26_code
def yX7_keepAnswer : MethodName := ⟨RX7, "keepAnswer", "(LLocatorMapper$Router;I)I"⟩
abbrev cX7_firstBits : ByteArray := prog_1_method_27_code
def yX7_firstBits : MethodName := ⟨RX7, "firstBits", "(II)I"⟩
abbrev cX7_requireIndex : ByteArray := prog_1_method_28_code
def yX7_requireIndex : MethodName := ⟨RX7, "requireIndex", "(II)V"⟩
abbrev cX7_requireWithin : ByteArray := prog_1_method_29_code
def yX7_requireWithin : MethodName := ⟨RX7, "requireWithin", "(III)V"⟩
abbrev cX7_requireIdentifier : ByteArray := prog_1_method_30_code
def yX7_requireIdentifier : MethodName := ⟨RX7, "requireIdentifier", "(I)V"⟩
abbrev cX7_requireAddress : ByteArray := prog_1_method_31_code
def yX7_requireAddress : MethodName := ⟨RX7, "requireAddress", "(I)V"⟩
abbrev cX7_requirePrefix : ByteArray := prog_1_method_32_code
def yX7_requirePrefix : MethodName := ⟨RX7, "requirePrefix", "(II)V"⟩
abbrev cX7_requireMapping : ByteArray := prog_1_method_33_code
def yX7_requireMapping : MethodName := ⟨RX7, "requireMapping", "(I)LLocatorMapper$Mapping;"⟩
abbrev cX7_requireRegistered : ByteArray := prog_1_method_34_code
def yX7_requireRegistered : MethodName := ⟨RX7, "requireRegistered", "(LLocatorMapper$Mapping;)V"⟩
abbrev cX7_requireLocator : ByteArray := prog_1_method_35_code
def yX7_requireLocator : MethodName := ⟨RX7, "requireLocator", "(LLocatorMapper$Mapping;I)I"⟩
abbrev cX7_requireRouter : ByteArray := prog_1_method_36_code
def yX7_requireRouter : MethodName := ⟨RX7, "requireRouter", "(I)LLocatorMapper$Router;"⟩
abbrev cX7_requireEntry : ByteArray := prog_1_method_37_code
def yX7_requireEntry : MethodName := ⟨RX7, "requireEntry", "(II)LLocatorMapper$Entry;"⟩
def RX8 : String := "LocatorMapperModel"
def TX8 : u_T := fun k => match k with
  | 0 => ("LocatorMapperModel", "thrown", "I", false)
  | 1 => ("LocatorMapperModel", "time", "I", false)
  | 2 => ("LocatorMapperModel", "positive", "I", false)
  | 3 => ("LocatorMapperModel", "negative", "I", false)
  | 4 => ("LocatorMapperModel", "mappings", "I", false)
  | 5 => ("LocatorMapperModel", "value", "[I", true)
  | 6 => ("LocatorMapperModel", "length", "[I", true)
  | 7 => ("LocatorMapperModel", "isGone", "[Z", true)
  | 8 => ("LocatorMapperModel", "version", "[I", true)
  | 9 => ("LocatorMapperModel", "many", "[I", true)
  | 10 => ("LocatorMapperModel", "address", "[I", true)
  | 11 => ("LocatorMapperModel", "priority", "[I", true)
  | 12 => ("LocatorMapperModel", "weight", "[I", true)
  | 13 => ("LocatorMapperModel", "delegated", "I", false)
  | 14 => ("LocatorMapperModel", "delegatedValue", "[I", true)
  | 15 => ("LocatorMapperModel", "delegatedLength", "[I", true)
  | 16 => ("LocatorMapperModel", "server", "[I", true)
  | 17 => ("LocatorMapperModel", "isDown", "[Z", true)
  | 18 => ("LocatorMapperModel", "answers", "[I", true)
  | 19 => ("LocatorMapperModel", "isEntry", "[Z", true)
  | 20 => ("LocatorMapperModel", "used", "[I", true)
  | 21 => ("LocatorMapperModel", "uses", "I", false)
  | 22 => ("LocatorMapperModel", "entryValue", "[I", true)
  | 23 => ("LocatorMapperModel", "entryLength", "[I", true)
  | 24 => ("LocatorMapperModel", "of", "[I", true)
  | 25 => ("LocatorMapperModel", "ofVersion", "[I", true)
  | 26 => ("LocatorMapperModel", "ends", "[I", true)
  | 27 => ("LocatorMapperModel", "isSolicited", "[Z", true)
  | 28 => ("LocatorMapperModel", "entryMany", "[I", true)
  | 29 => ("LocatorMapperModel", "to", "[I", true)
  | 30 => ("LocatorMapperModel", "toPriority", "[I", true)
  | 31 => ("LocatorMapperModel", "toWeight", "[I", true)
  | 32 => ("LocatorMapperModel", "packets", "[I", true)
  | 33 => ("LocatorMapperModel", "isLost", "[Z", true)
  | _ => ("LocatorMapperModel", "solicitations", "I", false)
def tyX8 : Nat → FieldType := fun k => match k with
  | 0 => .int
  | 1 => .int
  | 2 => .int
  | 3 => .int
  | 4 => .int
  | 5 => .array .int
  | 6 => .array .int
  | 7 => .array .boolean
  | 8 => .array .int
  | 9 => .array .int
  | 10 => .array .int
  | 11 => .array .int
  | 12 => .array .int
  | 13 => .int
  | 14 => .array .int
  | 15 => .array .int
  | 16 => .array .int
  | 17 => .array .boolean
  | 18 => .array .int
  | 19 => .array .boolean
  | 20 => .array .int
  | 21 => .int
  | 22 => .array .int
  | 23 => .array .int
  | 24 => .array .int
  | 25 => .array .int
  | 26 => .array .int
  | 27 => .array .boolean
  | 28 => .array .int
  | 29 => .array .int
  | 30 => .array .int
  | 31 => .array .int
  | 32 => .array .int
  | 33 => .array .boolean
  | _ => .int
abbrev wsX80 : List Cond := u_ws RX8 TX8 35
theorem nmX8 : ∀ a, a < 35 → ∀ b, b < 35 → a ≠ b → (TX8 a).2.1 ≠ (TX8 b).2.1 := by decide +kernel
theorem tyX8_ok : ∀ k, k < 35 → parseFieldDescriptor (TX8 k).2.2.1 = some (tyX8 k) := by decide +kernel
abbrev cX8_init : ByteArray := prog_10_method_1_code
def yX8_init : MethodName := ⟨RX8, "<init>", "()V"⟩
abbrev cX8_thrown : ByteArray := prog_10_method_2_code
def yX8_thrown : MethodName := ⟨RX8, "thrown", "()I"⟩
abbrev cX8_in : ByteArray := prog_10_method_3_code
def yX8_in : MethodName := ⟨RX8, "in", "(III)Z"⟩
abbrev cX8_isIdentifier : ByteArray := prog_10_method_4_code
def yX8_isIdentifier : MethodName := ⟨RX8, "isIdentifier", "(I)Z"⟩
abbrev cX8_first : ByteArray := prog_10_method_5_code
def yX8_first : MethodName := ⟨RX8, "first", "(II)I"⟩
abbrev cX8_isPrefix : ByteArray := prog_10_method_6_code
def yX8_isPrefix : MethodName := ⟨RX8, "isPrefix", "(II)Z"⟩
abbrev cX8_meet : ByteArray := prog_10_method_7_code
def yX8_meet : MethodName := ⟨RX8, "meet", "(IIII)Z"⟩
abbrev cX8_covers : ByteArray := prog_10_method_8_code
def yX8_covers : MethodName := ⟨RX8, "covers", "(III)Z"⟩
abbrev cX8_isMapping : ByteArray := prog_10_method_9_code
def yX8_isMapping : MethodName := ⟨RX8, "isMapping", "(I)Z"⟩
abbrev cX8_solicits : ByteArray := prog_10_method_10_code
def yX8_solicits : MethodName := ⟨RX8, "solicits", "(I)V"⟩
abbrev cX8_register : ByteArray := prog_10_method_11_code
def yX8_register : MethodName := ⟨RX8, "register", "(II)I"⟩
abbrev cX8_withdraw : ByteArray := prog_10_method_12_code
def yX8_withdraw : MethodName := ⟨RX8, "withdraw", "(I)I"⟩
abbrev cX8_placeOf : ByteArray := prog_10_method_13_code
def yX8_placeOf : MethodName := ⟨RX8, "placeOf", "(II)I"⟩
abbrev cX8_changes : ByteArray := prog_10_method_14_code
def yX8_changes : MethodName := ⟨RX8, "changes", "(I)I"⟩
abbrev cX8_addLocator : ByteArray := prog_10_method_15_code
def yX8_addLocator : MethodName := ⟨RX8, "addLocator", "(IIII)I"⟩
abbrev cX8_move : ByteArray := prog_10_method_16_code
def yX8_move : MethodName := ⟨RX8, "move", "(III)I"⟩
abbrev cX8_removeLocator : ByteArray := prog_10_method_17_code
def yX8_removeLocator : MethodName := ⟨RX8, "removeLocator", "(II)I"⟩
abbrev cX8_placeAmong : ByteArray := prog_10_method_18_code
def yX8_placeAmong : MethodName := ⟨RX8, "placeAmong", "(II)I"⟩
abbrev cX8_mappingFor : ByteArray := prog_10_method_19_code
def yX8_mappingFor : MethodName := ⟨RX8, "mappingFor", "(I)I"⟩
abbrev cX8_mappingOf : ByteArray := prog_10_method_20_code
def yX8_mappingOf : MethodName := ⟨RX8, "mappingOf", "(I)I"⟩
abbrev cX8_isHiding : ByteArray := prog_10_method_21_code
def yX8_isHiding : MethodName := ⟨RX8, "isHiding", "(III)Z"⟩
abbrev cX8_bitsFor : ByteArray := prog_10_method_22_code
def yX8_bitsFor : MethodName := ⟨RX8, "bitsFor", "(II)I"⟩
abbrev cX8_answerLength : ByteArray := prog_10_method_23_code
def yX8_answerLength : MethodName := ⟨RX8, "answerLength", "(I)I"⟩
abbrev cX8_version : ByteArray := prog_10_method_24_code
def yX8_version : MethodName := ⟨RX8, "version", "(I)I"⟩
abbrev cX8_isServer : ByteArray := prog_10_method_25_code
def yX8_isServer : MethodName := ⟨RX8, "isServer", "(I)Z"⟩
abbrev cX8_delegate : ByteArray := prog_10_method_26_code
def yX8_delegate : MethodName := ⟨RX8, "delegate", "(III)I"⟩
abbrev cX8_setUp : ByteArray := prog_10_method_27_code
def yX8_setUp : MethodName := ⟨RX8, "setUp", "(IZ)Z"⟩
abbrev cX8_serverFor : ByteArray := prog_10_method_28_code
def yX8_serverFor : MethodName := ⟨RX8, "serverFor", "(I)I"⟩
abbrev cX8_serverOf : ByteArray := prog_10_method_29_code
def yX8_serverOf : MethodName := ⟨RX8, "serverOf", "(I)I"⟩
abbrev cX8_answers : ByteArray := prog_10_method_30_code
def yX8_answers : MethodName := ⟨RX8, "answers", "(I)I"⟩
abbrev cX8_manyBefore : ByteArray := prog_10_method_31_code
def yX8_manyBefore : MethodName := ⟨RX8, "manyBefore", "(II)I"⟩
abbrev cX8_manyOf : ByteArray := prog_10_method_32_code
def yX8_manyOf : MethodName := ⟨RX8, "manyOf", "(I)I"⟩
abbrev cX8_placeOfEntry : ByteArray := prog_10_method_33_code
def yX8_placeOfEntry : MethodName := ⟨RX8, "placeOfEntry", "(II)I"⟩
abbrev cX8_entryFor : ByteArray := prog_10_method_34_code
def yX8_entryFor : MethodName := ⟨RX8, "entryFor", "(II)I"⟩
abbrev cX8_frees : ByteArray := prog_10_method_35_code
def yX8_frees : MethodName := ⟨RX8, "frees", "(I)I"⟩
abbrev cX8_gets : ByteArray := prog_10_method_36_code
def yX8_gets : MethodName := ⟨RX8, "gets", "(II)I"⟩
abbrev cX8_bestOf : ByteArray := prog_10_method_37_code
def yX8_bestOf : MethodName := ⟨RX8, "bestOf", "(II)I"⟩
abbrev cX8_goesTo : ByteArray := prog_10_method_38_code
def yX8_goesTo : MethodName := ⟨RX8, "goesTo", "(II)I"⟩
abbrev cX8_isRouter : ByteArray := prog_10_method_39_code
def yX8_isRouter : MethodName := ⟨RX8, "isRouter", "(I)Z"⟩
abbrev cX8_send : ByteArray := prog_10_method_40_code
def yX8_send : MethodName := ⟨RX8, "send", "(II)I"⟩
abbrev cX8_probe : ByteArray := prog_10_method_41_code
def yX8_probe : MethodName := ⟨RX8, "probe", "(IIZ)I"⟩
abbrev cX8_setLifetimes : ByteArray := prog_10_method_42_code
def yX8_setLifetimes : MethodName := ⟨RX8, "setLifetimes", "(II)I"⟩
abbrev cX8_pass : ByteArray := prog_10_method_43_code
def yX8_pass : MethodName := ⟨RX8, "pass", "(I)I"⟩
abbrev cX8_entries : ByteArray := prog_10_method_44_code
def yX8_entries : MethodName := ⟨RX8, "entries", "(I)I"⟩
abbrev cX8_asks : ByteArray := prog_10_method_45_code
def yX8_asks : MethodName := ⟨RX8, "asks", "(II)I"⟩
abbrev cX8_prefixOf : ByteArray := prog_10_method_46_code
def yX8_prefixOf : MethodName := ⟨RX8, "prefixOf", "(II)I"⟩
abbrev cX8_mappingAt : ByteArray := prog_10_method_47_code
def yX8_mappingAt : MethodName := ⟨RX8, "mappingAt", "(II)I"⟩
abbrev cX8_lasts : ByteArray := prog_10_method_48_code
def yX8_lasts : MethodName := ⟨RX8, "lasts", "(II)I"⟩
abbrev cX8_packetsTo : ByteArray := prog_10_method_49_code
def yX8_packetsTo : MethodName := ⟨RX8, "packetsTo", "(III)I"⟩
abbrev cX8_solicitations : ByteArray := prog_10_method_50_code
def yX8_solicitations : MethodName := ⟨RX8, "solicitations", "()I"⟩
def RJ9 : String := "java/lang/Math"
def TJ9 : u_T := fun k => match k with
  | _ => ("", "", "", false)
def tyJ9 : Nat → FieldType := fun k => match k with
  | _ => .int
abbrev wsJ90 : List Cond := u_ws RJ9 TJ9 0
theorem nmJ9 : ∀ a, a < 0 → ∀ b, b < 0 → a ≠ b → (TJ9 a).2.1 ≠ (TJ9 b).2.1 := by decide +kernel
theorem tyJ9_ok : ∀ k, k < 0 → parseFieldDescriptor (TJ9 k).2.2.1 = some (tyJ9 k) := by decide +kernel
abbrev cJ9_max_7cf53 : ByteArray := prog_15_method_65_code
def yJ9_max_7cf53 : MethodName := ⟨RJ9, "max", "(II)I"⟩
abbrev cJ9_min_7cf53 : ByteArray := prog_15_method_69_code
def yJ9_min_7cf53 : MethodName := ⟨RJ9, "min", "(II)I"⟩
def RJ0 : String := "java/lang/String"
def TJ0 : u_T := fun k => match k with
  | _ => ("", "", "", false)
def tyJ0 : Nat → FieldType := fun k => match k with
  | _ => .int
abbrev wsJ00 : List Cond := u_ws RJ0 TJ0 0
theorem nmJ0 : ∀ a, a < 0 → ∀ b, b < 0 → a ≠ b → (TJ0 a).2.1 ≠ (TJ0 b).2.1 := by decide +kernel
theorem tyJ0_ok : ∀ k, k < 0 → parseFieldDescriptor (TJ0 k).2.2.1 = some (tyJ0 k) := by decide +kernel
def RL : String := "LocatorMapperLaw"
abbrev cL_register : ByteArray := method_3_code
def yL_register : MethodName := ⟨RL, "register", "(LLocatorMapper;II[J)I"⟩
abbrev cL_withdraw : ByteArray := method_4_code
def yL_withdraw : MethodName := ⟨RL, "withdraw", "(LLocatorMapper;I[J)I"⟩
abbrev cL_addLocator : ByteArray := method_5_code
def yL_addLocator : MethodName := ⟨RL, "addLocator", "(LLocatorMapper;IIII[J)I"⟩
abbrev cL_move : ByteArray := method_6_code
def yL_move : MethodName := ⟨RL, "move", "(LLocatorMapper;III[J)I"⟩
abbrev cL_removeLocator : ByteArray := method_7_code
def yL_removeLocator : MethodName := ⟨RL, "removeLocator", "(LLocatorMapper;II[J)I"⟩
abbrev cL_mappingOf : ByteArray := method_8_code
def yL_mappingOf : MethodName := ⟨RL, "mappingOf", "(LLocatorMapper;I[J)I"⟩
abbrev cL_answerLength : ByteArray := method_9_code
def yL_answerLength : MethodName := ⟨RL, "answerLength", "(LLocatorMapper;I[J)I"⟩
abbrev cL_version : ByteArray := method_10_code
def yL_version : MethodName := ⟨RL, "version", "(LLocatorMapper;I[J)I"⟩
abbrev cL_delegate : ByteArray := method_11_code
def yL_delegate : MethodName := ⟨RL, "delegate", "(LLocatorMapper;III[J)I"⟩
abbrev cL_setUp : ByteArray := method_12_code
def yL_setUp : MethodName := ⟨RL, "setUp", "(LLocatorMapper;IZ[J)I"⟩
abbrev cL_serverOf : ByteArray := method_13_code
def yL_serverOf : MethodName := ⟨RL, "serverOf", "(LLocatorMapper;I[J)I"⟩
abbrev cL_answers : ByteArray := method_14_code
def yL_answers : MethodName := ⟨RL, "answers", "(LLocatorMapper;I[J)I"⟩
abbrev cL_send : ByteArray := method_15_code
def yL_send : MethodName := ⟨RL, "send", "(LLocatorMapper;II[J)I"⟩
abbrev cL_probe : ByteArray := method_16_code
def yL_probe : MethodName := ⟨RL, "probe", "(LLocatorMapper;IIZ[J)I"⟩
abbrev cL_setLifetimes : ByteArray := method_17_code
def yL_setLifetimes : MethodName := ⟨RL, "setLifetimes", "(LLocatorMapper;II[J)I"⟩
abbrev cL_pass : ByteArray := method_18_code
def yL_pass : MethodName := ⟨RL, "pass", "(LLocatorMapper;I[J)I"⟩
abbrev cL_entries : ByteArray := method_19_code
def yL_entries : MethodName := ⟨RL, "entries", "(LLocatorMapper;I[J)I"⟩
abbrev cL_prefixOf : ByteArray := method_20_code
def yL_prefixOf : MethodName := ⟨RL, "prefixOf", "(LLocatorMapper;II[J)I"⟩
abbrev cL_mappingAt : ByteArray := method_21_code
def yL_mappingAt : MethodName := ⟨RL, "mappingAt", "(LLocatorMapper;II[J)I"⟩
abbrev cL_lasts : ByteArray := method_22_code
def yL_lasts : MethodName := ⟨RL, "lasts", "(LLocatorMapper;II[J)I"⟩
abbrev cL_packetsTo : ByteArray := method_23_code
def yL_packetsTo : MethodName := ⟨RL, "packetsTo", "(LLocatorMapper;III[J)I"⟩
abbrev cL_law : ByteArray := code
def yL_law : MethodName := ⟨RL, "law", "([I)Z"⟩
theorem inJ9 : ∀ w ∈ wsJ90, w ∈ lw_tbl := by decide +kernel
theorem inJ0 : ∀ w ∈ wsJ00, w ∈ lw_tbl := by decide +kernel
theorem dJ9_max_7cf53_0 : decode cJ9_max_7cf53 0 = .ok (.iload_n 0, 1) := by decide +kernel
theorem dJ9_max_7cf53_1 : decode cJ9_max_7cf53 1 = .ok (.iload_n 1, 1) := by decide +kernel
theorem dJ9_max_7cf53_2 : decode cJ9_max_7cf53 2 = .ok (.if_icmp .lt 7, 3) := by decide +kernel
theorem dJ9_max_7cf53_5 : decode cJ9_max_7cf53 5 = .ok (.iload_n 0, 1) := by decide +kernel
theorem dJ9_max_7cf53_6 : decode cJ9_max_7cf53 6 = .ok (.goto 4, 3) := by decide +kernel
theorem dJ9_max_7cf53_9 : decode cJ9_max_7cf53 9 = .ok (.iload_n 1, 1) := by decide +kernel
theorem dJ9_max_7cf53_10 : decode cJ9_max_7cf53 10 = .ok (.ireturn, 1) := by decide +kernel
theorem dJ9_min_7cf53_0 : decode cJ9_min_7cf53 0 = .ok (.iload_n 0, 1) := by decide +kernel
theorem dJ9_min_7cf53_1 : decode cJ9_min_7cf53 1 = .ok (.iload_n 1, 1) := by decide +kernel
theorem dJ9_min_7cf53_2 : decode cJ9_min_7cf53 2 = .ok (.if_icmp .gt 7, 3) := by decide +kernel
theorem dJ9_min_7cf53_5 : decode cJ9_min_7cf53 5 = .ok (.iload_n 0, 1) := by decide +kernel
theorem dJ9_min_7cf53_6 : decode cJ9_min_7cf53 6 = .ok (.goto 4, 3) := by decide +kernel
theorem dJ9_min_7cf53_9 : decode cJ9_min_7cf53 9 = .ok (.iload_n 1, 1) := by decide +kernel
theorem dJ9_min_7cf53_10 : decode cJ9_min_7cf53 10 = .ok (.ireturn, 1) := by decide +kernel
abbrev vwCl : List vw_C := [(RX0, TX0, 7), (RX1, TX1, 4), (RX2, TX2, 4), (RX3, TX3, 2), (RX4, TX4, 2), (RX5, TX5, 3), (RX6, TX6, 5), (RX7, TX7, 7), (RX8, TX8, 35)]
end
section
theorem dX0_init_0 : decode cX0_init 0 = .ok (.aload_n 0, 1) := by decide +kernel
theorem dX0_init_1 : decode cX0_init 1 = .ok (.invokespecial 3, 3) := by decide +kernel
theorem dX0_init_4 : decode cX0_init 4 = .ok (.aload_n 0, 1) := by decide +kernel
theorem dX0_init_5 : decode cX0_init 5 = .ok (.new 9, 3) := by decide +kernel
theorem dX0_init_8 : decode cX0_init 8 = .ok (.dup, 1) := by decide +kernel
theorem dX0_init_9 : decode cX0_init 9 = .ok (.invokespecial 11, 3) := by decide +kernel
theorem dX0_init_12 : decode cX0_init 12 = .ok (.putfield 12, 3) := by decide +kernel
theorem dX0_init_15 : decode cX0_init 15 = .ok (.aload_n 0, 1) := by decide +kernel
theorem dX0_init_16 : decode cX0_init 16 = .ok (.new 18, 3) := by decide +kernel
theorem dX0_init_19 : decode cX0_init 19 = .ok (.dup, 1) := by decide +kernel
theorem dX0_init_20 : decode cX0_init 20 = .ok (.invokespecial 20, 3) := by decide +kernel
theorem dX0_init_23 : decode cX0_init 23 = .ok (.putfield 21, 3) := by decide +kernel
theorem dX0_init_26 : decode cX0_init 26 = .ok (.aload_n 0, 1) := by decide +kernel
theorem dX0_init_27 : decode cX0_init 27 = .ok (.iconst 4, 1) := by decide +kernel
theorem dX0_init_28 : decode cX0_init 28 = .ok (.newarray .int, 2) := by decide +kernel
theorem dX0_init_30 : decode cX0_init 30 = .ok (.putfield 25, 3) := by decide +kernel
theorem dX0_init_33 : decode cX0_init 33 = .ok (.aload_n 0, 1) := by decide +kernel
theorem dX0_init_34 : decode cX0_init 34 = .ok (.iconst (-1), 1) := by decide +kernel
theorem dX0_init_35 : decode cX0_init 35 = .ok (.putfield 29, 3) := by decide +kernel
theorem dX0_init_38 : decode cX0_init 38 = .ok (.aload_n 0, 1) := by decide +kernel
theorem dX0_init_39 : decode cX0_init 39 = .ok (.iconst 0, 1) := by decide +kernel
theorem dX0_init_40 : decode cX0_init 40 = .ok (.putfield 33, 3) := by decide +kernel
theorem dX0_init_43 : decode cX0_init 43 = .ok (.aload_n 0, 1) := by decide +kernel
theorem dX0_init_44 : decode cX0_init 44 = .ok (.iconst 0, 1) := by decide +kernel
theorem dX0_init_45 : decode cX0_init 45 = .ok (.putfield 36, 3) := by decide +kernel
theorem dX0_init_48 : decode cX0_init 48 = .ok (.aload_n 0, 1) := by decide +kernel
theorem dX0_init_49 : decode cX0_init 49 = .ok (.iconst 0, 1) := by decide +kernel
theorem dX0_init_50 : decode cX0_init 50 = .ok (.putfield 39, 3) := by decide +kernel
theorem dX0_init_53 : decode cX0_init 53 = .ok (.return_, 1) := by decide +kernel
theorem dX0_keepNegative_0 : decode cX0_keepNegative 0 = .ok (.aload_n 0, 1) := by decide +kernel
theorem dX0_keepNegative_1 : decode cX0_keepNegative 1 = .ok (.iconst (-1), 1) := by decide +kernel
theorem dX0_keepNegative_2 : decode cX0_keepNegative 2 = .ok (.putfield 29, 3) := by decide +kernel
theorem dX0_keepNegative_5 : decode cX0_keepNegative 5 = .ok (.aload_n 0, 1) := by decide +kernel
theorem dX0_keepNegative_6 : decode cX0_keepNegative 6 = .ok (.getfield 21, 3) := by decide +kernel
theorem dX0_keepNegative_9 : decode cX0_keepNegative 9 = .ok (.invokevirtual 43, 3) := by decide +kernel
theorem dX0_keepNegative_12 : decode cX0_keepNegative 12 = .ok (.aload_n 0, 1) := by decide +kernel
theorem dX0_keepNegative_13 : decode cX0_keepNegative 13 = .ok (.iload_n 1, 1) := by decide +kernel
theorem dX0_keepNegative_14 : decode cX0_keepNegative 14 = .ok (.putfield 36, 3) := by decide +kernel
theorem dX0_keepNegative_17 : decode cX0_keepNegative 17 = .ok (.aload_n 0, 1) := by decide +kernel
theorem dX0_keepNegative_18 : decode cX0_keepNegative 18 = .ok (.iconst 0, 1) := by decide +kernel
theorem dX0_keepNegative_19 : decode cX0_keepNegative 19 = .ok (.putfield 39, 3) := by decide +kernel
theorem dX0_keepNegative_22 : decode cX0_keepNegative 22 = .ok (.return_, 1) := by decide +kernel
theorem dX0_keepPositive_0 : decode cX0_keepPositive 0 = .ok (.aload_n 0, 1) := by decide +kernel
theorem dX0_keepPositive_1 : decode cX0_keepPositive 1 = .ok (.iload_n 1, 1) := by decide +kernel
theorem dX0_keepPositive_2 : decode cX0_keepPositive 2 = .ok (.putfield 29, 3) := by decide +kernel
theorem dX0_keepPositive_5 : decode cX0_keepPositive 5 = .ok (.aload_n 0, 1) := by decide +kernel
theorem dX0_keepPositive_6 : decode cX0_keepPositive 6 = .ok (.aload_n 2, 1) := by decide +kernel
theorem dX0_keepPositive_7 : decode cX0_keepPositive 7 = .ok (.getfield 46, 3) := by decide +kernel
theorem dX0_keepPositive_10 : decode cX0_keepPositive 10 = .ok (.putfield 33, 3) := by decide +kernel
theorem dX0_keepPositive_13 : decode cX0_keepPositive 13 = .ok (.aload_n 0, 1) := by decide +kernel
theorem dX0_keepPositive_14 : decode cX0_keepPositive 14 = .ok (.getfield 21, 3) := by decide +kernel
theorem dX0_keepPositive_17 : decode cX0_keepPositive 17 = .ok (.aload_n 2, 1) := by decide +kernel
theorem dX0_keepPositive_18 : decode cX0_keepPositive 18 = .ok (.getfield 49, 3) := by decide +kernel
theorem dX0_keepPositive_21 : decode cX0_keepPositive 21 = .ok (.invokevirtual 50, 3) := by decide +kernel
theorem dX0_keepPositive_24 : decode cX0_keepPositive 24 = .ok (.iconst 0, 1) := by decide +kernel
theorem dX0_keepPositive_25 : decode cX0_keepPositive 25 = .ok (.istore 4, 2) := by decide +kernel
theorem dX0_keepPositive_27 : decode cX0_keepPositive 27 = .ok (.iload 4, 2) := by decide +kernel
theorem dX0_keepPositive_29 : decode cX0_keepPositive 29 = .ok (.iconst 4, 1) := by decide +kernel
theorem dX0_keepPositive_30 : decode cX0_keepPositive 30 = .ok (.if_icmp .ge 17, 3) := by decide +kernel
theorem dX0_keepPositive_33 : decode cX0_keepPositive 33 = .ok (.aload_n 0, 1) := by decide +kernel
theorem dX0_keepPositive_34 : decode cX0_keepPositive 34 = .ok (.getfield 25, 3) := by decide +kernel
theorem dX0_keepPositive_37 : decode cX0_keepPositive 37 = .ok (.iload 4, 2) := by decide +kernel
theorem dX0_keepPositive_39 : decode cX0_keepPositive 39 = .ok (.iconst 0, 1) := by decide +kernel
theorem dX0_keepPositive_40 : decode cX0_keepPositive 40 = .ok (.iastore, 1) := by decide +kernel
theorem dX0_keepPositive_41 : decode cX0_keepPositive 41 = .ok (.iinc 4 1, 3) := by decide +kernel
theorem dX0_keepPositive_44 : decode cX0_keepPositive 44 = .ok (.goto (-17), 3) := by decide +kernel
theorem dX0_keepPositive_47 : decode cX0_keepPositive 47 = .ok (.aload_n 0, 1) := by decide +kernel
theorem dX0_keepPositive_48 : decode cX0_keepPositive 48 = .ok (.iload_n 3, 1) := by decide +kernel
theorem dX0_keepPositive_49 : decode cX0_keepPositive 49 = .ok (.putfield 36, 3) := by decide +kernel
theorem dX0_keepPositive_52 : decode cX0_keepPositive 52 = .ok (.aload_n 0, 1) := by decide +kernel
theorem dX0_keepPositive_53 : decode cX0_keepPositive 53 = .ok (.iconst 0, 1) := by decide +kernel
theorem dX0_keepPositive_54 : decode cX0_keepPositive 54 = .ok (.putfield 39, 3) := by decide +kernel
theorem dX0_keepPositive_57 : decode cX0_keepPositive 57 = .ok (.return_, 1) := by decide +kernel
theorem dX0_hasEnded_0 : decode cX0_hasEnded 0 = .ok (.iload_n 1, 1) := by decide +kernel
theorem dX0_hasEnded_1 : decode cX0_hasEnded 1 = .ok (.aload_n 0, 1) := by decide +kernel
theorem dX0_hasEnded_2 : decode cX0_hasEnded 2 = .ok (.getfield 36, 3) := by decide +kernel
theorem dX0_hasEnded_5 : decode cX0_hasEnded 5 = .ok (.if_icmp .lt 7, 3) := by decide +kernel
theorem dX0_hasEnded_8 : decode cX0_hasEnded 8 = .ok (.iconst 1, 1) := by decide +kernel
theorem dX0_hasEnded_9 : decode cX0_hasEnded 9 = .ok (.goto 4, 3) := by decide +kernel
theorem dX0_hasEnded_12 : decode cX0_hasEnded 12 = .ok (.iconst 0, 1) := by decide +kernel
theorem dX0_hasEnded_13 : decode cX0_hasEnded 13 = .ok (.ireturn, 1) := by decide +kernel
theorem dX0_sendPacket_0 : decode cX0_sendPacket 0 = .ok (.aload_n 0, 1) := by decide +kernel
theorem dX0_sendPacket_1 : decode cX0_sendPacket 1 = .ok (.getfield 29, 3) := by decide +kernel
theorem dX0_sendPacket_4 : decode cX0_sendPacket 4 = .ok (.iconst (-1), 1) := by decide +kernel
theorem dX0_sendPacket_5 : decode cX0_sendPacket 5 = .ok (.if_icmp .ne 5, 3) := by decide +kernel
theorem dX0_sendPacket_8 : decode cX0_sendPacket 8 = .ok (.iconst (-1), 1) := by decide +kernel
theorem dX0_sendPacket_9 : decode cX0_sendPacket 9 = .ok (.ireturn, 1) := by decide +kernel
theorem dX0_sendPacket_10 : decode cX0_sendPacket 10 = .ok (.aload_n 0, 1) := by decide +kernel
theorem dX0_sendPacket_11 : decode cX0_sendPacket 11 = .ok (.aload_n 1, 1) := by decide +kernel
theorem dX0_sendPacket_12 : decode cX0_sendPacket 12 = .ok (.aload_n 0, 1) := by decide +kernel
theorem dX0_sendPacket_13 : decode cX0_sendPacket 13 = .ok (.aload_n 1, 1) := by decide +kernel
theorem dX0_sendPacket_14 : decode cX0_sendPacket 14 = .ok (.invokevirtual 54, 3) := by decide +kernel
theorem dX0_sendPacket_17 : decode cX0_sendPacket 17 = .ok (.invokevirtual 58, 3) := by decide +kernel
theorem dX0_sendPacket_20 : decode cX0_sendPacket 20 = .ok (.istore_n 2, 1) := by decide +kernel
theorem dX0_sendPacket_21 : decode cX0_sendPacket 21 = .ok (.iload_n 2, 1) := by decide +kernel
theorem dX0_sendPacket_22 : decode cX0_sendPacket 22 = .ok (.iconst (-1), 1) := by decide +kernel
theorem dX0_sendPacket_23 : decode cX0_sendPacket 23 = .ok (.if_icmp .ne 6, 3) := by decide +kernel
theorem dX0_sendPacket_26 : decode cX0_sendPacket 26 = .ok (.bipush (-3), 2) := by decide +kernel
theorem dX0_sendPacket_28 : decode cX0_sendPacket 28 = .ok (.ireturn, 1) := by decide +kernel
theorem dX0_sendPacket_29 : decode cX0_sendPacket 29 = .ok (.aload_n 0, 1) := by decide +kernel
theorem dX0_sendPacket_30 : decode cX0_sendPacket 30 = .ok (.getfield 25, 3) := by decide +kernel
theorem dX0_sendPacket_33 : decode cX0_sendPacket 33 = .ok (.iload_n 2, 1) := by decide +kernel
theorem dX0_sendPacket_34 : decode cX0_sendPacket 34 = .ok (.dup2, 1) := by decide +kernel
theorem dX0_sendPacket_35 : decode cX0_sendPacket 35 = .ok (.iaload, 1) := by decide +kernel
theorem dX0_sendPacket_36 : decode cX0_sendPacket 36 = .ok (.iconst 1, 1) := by decide +kernel
theorem dX0_sendPacket_37 : decode cX0_sendPacket 37 = .ok (.iadd, 1) := by decide +kernel
theorem dX0_sendPacket_38 : decode cX0_sendPacket 38 = .ok (.iastore, 1) := by decide +kernel
theorem dX0_sendPacket_39 : decode cX0_sendPacket 39 = .ok (.aload_n 0, 1) := by decide +kernel
theorem dX0_sendPacket_40 : decode cX0_sendPacket 40 = .ok (.getfield 21, 3) := by decide +kernel
theorem dX0_sendPacket_43 : decode cX0_sendPacket 43 = .ok (.getfield 62, 3) := by decide +kernel
theorem dX0_sendPacket_46 : decode cX0_sendPacket 46 = .ok (.iload_n 2, 1) := by decide +kernel
theorem dX0_sendPacket_47 : decode cX0_sendPacket 47 = .ok (.iaload, 1) := by decide +kernel
theorem dX0_sendPacket_48 : decode cX0_sendPacket 48 = .ok (.ireturn, 1) := by decide +kernel
theorem dX0_bestPriority_0 : decode cX0_bestPriority 0 = .ok (.iconst 4, 1) := by decide +kernel
theorem dX0_bestPriority_1 : decode cX0_bestPriority 1 = .ok (.istore_n 2, 1) := by decide +kernel
theorem dX0_bestPriority_2 : decode cX0_bestPriority 2 = .ok (.iconst 0, 1) := by decide +kernel
theorem dX0_bestPriority_3 : decode cX0_bestPriority 3 = .ok (.istore_n 3, 1) := by decide +kernel
theorem dX0_bestPriority_4 : decode cX0_bestPriority 4 = .ok (.iload_n 3, 1) := by decide +kernel
theorem dX0_bestPriority_5 : decode cX0_bestPriority 5 = .ok (.aload_n 0, 1) := by decide +kernel
theorem dX0_bestPriority_6 : decode cX0_bestPriority 6 = .ok (.getfield 21, 3) := by decide +kernel
theorem dX0_bestPriority_9 : decode cX0_bestPriority 9 = .ok (.getfield 65, 3) := by decide +kernel
theorem dX0_bestPriority_12 : decode cX0_bestPriority 12 = .ok (.if_icmp .ge 37, 3) := by decide +kernel
theorem dX0_bestPriority_15 : decode cX0_bestPriority 15 = .ok (.aload_n 1, 1) := by decide +kernel
theorem dX0_bestPriority_16 : decode cX0_bestPriority 16 = .ok (.aload_n 0, 1) := by decide +kernel
theorem dX0_bestPriority_17 : decode cX0_bestPriority 17 = .ok (.getfield 21, 3) := by decide +kernel
theorem dX0_bestPriority_20 : decode cX0_bestPriority 20 = .ok (.getfield 62, 3) := by decide +kernel
theorem dX0_bestPriority_23 : decode cX0_bestPriority 23 = .ok (.iload_n 3, 1) := by decide +kernel
theorem dX0_bestPriority_24 : decode cX0_bestPriority 24 = .ok (.iaload, 1) := by decide +kernel
theorem dX0_bestPriority_25 : decode cX0_bestPriority 25 = .ok (.baload, 1) := by decide +kernel
theorem dX0_bestPriority_26 : decode cX0_bestPriority 26 = .ok (.ifCond .ne 17, 3) := by decide +kernel
theorem dX0_bestPriority_29 : decode cX0_bestPriority 29 = .ok (.iload_n 2, 1) := by decide +kernel
theorem dX0_bestPriority_30 : decode cX0_bestPriority 30 = .ok (.aload_n 0, 1) := by decide +kernel
theorem dX0_bestPriority_31 : decode cX0_bestPriority 31 = .ok (.getfield 21, 3) := by decide +kernel
theorem dX0_bestPriority_34 : decode cX0_bestPriority 34 = .ok (.getfield 68, 3) := by decide +kernel
theorem dX0_bestPriority_37 : decode cX0_bestPriority 37 = .ok (.iload_n 3, 1) := by decide +kernel
theorem dX0_bestPriority_38 : decode cX0_bestPriority 38 = .ok (.iaload, 1) := by decide +kernel
theorem dX0_bestPriority_39 : decode cX0_bestPriority 39 = .ok (.invokestatic 71, 3) := by decide +kernel
theorem dX0_bestPriority_42 : decode cX0_bestPriority 42 = .ok (.istore_n 2, 1) := by decide +kernel
theorem dX0_bestPriority_43 : decode cX0_bestPriority 43 = .ok (.iinc 3 1, 3) := by decide +kernel
theorem dX0_bestPriority_46 : decode cX0_bestPriority 46 = .ok (.goto (-42), 3) := by decide +kernel
theorem dX0_bestPriority_49 : decode cX0_bestPriority 49 = .ok (.iload_n 2, 1) := by decide +kernel
theorem dX0_bestPriority_50 : decode cX0_bestPriority 50 = .ok (.ireturn, 1) := by decide +kernel
theorem dX0_choose_0 : decode cX0_choose 0 = .ok (.iconst 0, 1) := by decide +kernel
theorem dX0_choose_1 : decode cX0_choose 1 = .ok (.istore_n 3, 1) := by decide +kernel
theorem dX0_choose_2 : decode cX0_choose 2 = .ok (.iconst 0, 1) := by decide +kernel
theorem dX0_choose_3 : decode cX0_choose 3 = .ok (.istore 4, 2) := by decide +kernel
theorem dX0_choose_5 : decode cX0_choose 5 = .ok (.iconst 0, 1) := by decide +kernel
theorem dX0_choose_6 : decode cX0_choose 6 = .ok (.istore 5, 2) := by decide +kernel
theorem dX0_choose_8 : decode cX0_choose 8 = .ok (.iload 5, 2) := by decide +kernel
theorem dX0_choose_10 : decode cX0_choose 10 = .ok (.aload_n 0, 1) := by decide +kernel
theorem dX0_choose_11 : decode cX0_choose 11 = .ok (.getfield 21, 3) := by decide +kernel
theorem dX0_choose_14 : decode cX0_choose 14 = .ok (.getfield 65, 3) := by decide +kernel
theorem dX0_choose_17 : decode cX0_choose 17 = .ok (.if_icmp .ge 45, 3) := by decide +kernel
theorem dX0_choose_20 : decode cX0_choose 20 = .ok (.aload_n 0, 1) := by decide +kernel
theorem dX0_choose_21 : decode cX0_choose 21 = .ok (.iload 5, 2) := by decide +kernel
theorem dX0_choose_23 : decode cX0_choose 23 = .ok (.aload_n 1, 1) := by decide +kernel
theorem dX0_choose_24 : decode cX0_choose 24 = .ok (.iload_n 2, 1) := by decide +kernel
theorem dX0_choose_25 : decode cX0_choose 25 = .ok (.invokevirtual 77, 3) := by decide +kernel
theorem dX0_choose_28 : decode cX0_choose 28 = .ok (.ifCond .eq 28, 3) := by decide +kernel
theorem dX0_choose_31 : decode cX0_choose 31 = .ok (.iload_n 3, 1) := by decide +kernel
theorem dX0_choose_32 : decode cX0_choose 32 = .ok (.aload_n 0, 1) := by decide +kernel
theorem dX0_choose_33 : decode cX0_choose 33 = .ok (.getfield 25, 3) := by decide +kernel
theorem dX0_choose_36 : decode cX0_choose 36 = .ok (.iload 5, 2) := by decide +kernel
theorem dX0_choose_38 : decode cX0_choose 38 = .ok (.iaload, 1) := by decide +kernel
theorem dX0_choose_39 : decode cX0_choose 39 = .ok (.iadd, 1) := by decide +kernel
theorem dX0_choose_40 : decode cX0_choose 40 = .ok (.istore_n 3, 1) := by decide +kernel
theorem dX0_choose_41 : decode cX0_choose 41 = .ok (.iload 4, 2) := by decide +kernel
theorem dX0_choose_43 : decode cX0_choose 43 = .ok (.aload_n 0, 1) := by decide +kernel
theorem dX0_choose_44 : decode cX0_choose 44 = .ok (.getfield 21, 3) := by decide +kernel
theorem dX0_choose_47 : decode cX0_choose 47 = .ok (.getfield 81, 3) := by decide +kernel
theorem dX0_choose_50 : decode cX0_choose 50 = .ok (.iload 5, 2) := by decide +kernel
theorem dX0_choose_52 : decode cX0_choose 52 = .ok (.iaload, 1) := by decide +kernel
theorem dX0_choose_53 : decode cX0_choose 53 = .ok (.iadd, 1) := by decide +kernel
theorem dX0_choose_54 : decode cX0_choose 54 = .ok (.istore 4, 2) := by decide +kernel
theorem dX0_choose_56 : decode cX0_choose 56 = .ok (.iinc 5 1, 3) := by decide +kernel
theorem dX0_choose_59 : decode cX0_choose 59 = .ok (.goto (-51), 3) := by decide +kernel
theorem dX0_choose_62 : decode cX0_choose 62 = .ok (.iconst (-1), 1) := by decide +kernel
theorem dX0_choose_63 : decode cX0_choose 63 = .ok (.istore 5, 2) := by decide +kernel
theorem dX0_choose_65 : decode cX0_choose 65 = .ok (.iconst 0, 1) := by decide +kernel
theorem dX0_choose_66 : decode cX0_choose 66 = .ok (.istore 6, 2) := by decide +kernel
theorem dX0_choose_68 : decode cX0_choose 68 = .ok (.iconst 0, 1) := by decide +kernel
theorem dX0_choose_69 : decode cX0_choose 69 = .ok (.istore 7, 2) := by decide +kernel
theorem dX0_choose_71 : decode cX0_choose 71 = .ok (.iload 7, 2) := by decide +kernel
theorem dX0_choose_73 : decode cX0_choose 73 = .ok (.aload_n 0, 1) := by decide +kernel
theorem dX0_choose_74 : decode cX0_choose 74 = .ok (.getfield 21, 3) := by decide +kernel
theorem dX0_choose_77 : decode cX0_choose 77 = .ok (.getfield 65, 3) := by decide +kernel
theorem dX0_choose_80 : decode cX0_choose 80 = .ok (.if_icmp .ge 68, 3) := by decide +kernel
theorem dX0_choose_83 : decode cX0_choose 83 = .ok (.aload_n 0, 1) := by decide +kernel
theorem dX0_choose_84 : decode cX0_choose 84 = .ok (.getfield 21, 3) := by decide +kernel
theorem dX0_choose_87 : decode cX0_choose 87 = .ok (.getfield 81, 3) := by decide +kernel
theorem dX0_choose_90 : decode cX0_choose 90 = .ok (.iload 7, 2) := by decide +kernel
theorem dX0_choose_92 : decode cX0_choose 92 = .ok (.iaload, 1) := by decide +kernel
theorem dX0_choose_93 : decode cX0_choose 93 = .ok (.iload_n 3, 1) := by decide +kernel
theorem dX0_choose_94 : decode cX0_choose 94 = .ok (.iconst 1, 1) := by decide +kernel
theorem dX0_choose_95 : decode cX0_choose 95 = .ok (.iadd, 1) := by decide +kernel
theorem dX0_choose_96 : decode cX0_choose 96 = .ok (.imul, 1) := by decide +kernel
theorem dX0_choose_97 : decode cX0_choose 97 = .ok (.iload 4, 2) := by decide +kernel
theorem dX0_choose_99 : decode cX0_choose 99 = .ok (.aload_n 0, 1) := by decide +kernel
theorem dX0_choose_100 : decode cX0_choose 100 = .ok (.getfield 25, 3) := by decide +kernel
theorem dX0_choose_103 : decode cX0_choose 103 = .ok (.iload 7, 2) := by decide +kernel
theorem dX0_choose_105 : decode cX0_choose 105 = .ok (.iaload, 1) := by decide +kernel
theorem dX0_choose_106 : decode cX0_choose 106 = .ok (.imul, 1) := by decide +kernel
theorem dX0_choose_107 : decode cX0_choose 107 = .ok (.isub, 1) := by decide +kernel
theorem dX0_choose_108 : decode cX0_choose 108 = .ok (.istore 8, 2) := by decide +kernel
theorem dX0_choose_110 : decode cX0_choose 110 = .ok (.aload_n 0, 1) := by decide +kernel
theorem dX0_choose_111 : decode cX0_choose 111 = .ok (.iload 7, 2) := by decide +kernel
theorem dX0_choose_113 : decode cX0_choose 113 = .ok (.aload_n 1, 1) := by decide +kernel
theorem dX0_choose_114 : decode cX0_choose 114 = .ok (.iload_n 2, 1) := by decide +kernel
theorem dX0_choose_115 : decode cX0_choose 115 = .ok (.invokevirtual 77, 3) := by decide +kernel
theorem dX0_choose_118 : decode cX0_choose 118 = .ok (.ifCond .eq 24, 3) := by decide +kernel
theorem dX0_choose_121 : decode cX0_choose 121 = .ok (.iload 5, 2) := by decide +kernel
theorem dX0_choose_123 : decode cX0_choose 123 = .ok (.iconst (-1), 1) := by decide +kernel
theorem dX0_choose_124 : decode cX0_choose 124 = .ok (.if_icmp .eq 10, 3) := by decide +kernel
theorem dX0_choose_127 : decode cX0_choose 127 = .ok (.iload 8, 2) := by decide +kernel
theorem dX0_choose_129 : decode cX0_choose 129 = .ok (.iload 6, 2) := by decide +kernel
theorem dX0_choose_131 : decode cX0_choose 131 = .ok (.if_icmp .le 11, 3) := by decide +kernel
theorem dX0_choose_134 : decode cX0_choose 134 = .ok (.iload 7, 2) := by decide +kernel
theorem dX0_choose_136 : decode cX0_choose 136 = .ok (.istore 5, 2) := by decide +kernel
theorem dX0_choose_138 : decode cX0_choose 138 = .ok (.iload 8, 2) := by decide +kernel
theorem dX0_choose_140 : decode cX0_choose 140 = .ok (.istore 6, 2) := by decide +kernel
theorem dX0_choose_142 : decode cX0_choose 142 = .ok (.iinc 7 1, 3) := by decide +kernel
theorem dX0_choose_145 : decode cX0_choose 145 = .ok (.goto (-74), 3) := by decide +kernel
theorem dX0_choose_148 : decode cX0_choose 148 = .ok (.iload 5, 2) := by decide +kernel
theorem dX0_choose_150 : decode cX0_choose 150 = .ok (.ireturn, 1) := by decide +kernel
theorem dX0_isLookedAt_0 : decode cX0_isLookedAt 0 = .ok (.aload_n 0, 1) := by decide +kernel
theorem dX0_isLookedAt_1 : decode cX0_isLookedAt 1 = .ok (.getfield 21, 3) := by decide +kernel
theorem dX0_isLookedAt_4 : decode cX0_isLookedAt 4 = .ok (.getfield 68, 3) := by decide +kernel
theorem dX0_isLookedAt_7 : decode cX0_isLookedAt 7 = .ok (.iload_n 1, 1) := by decide +kernel
theorem dX0_isLookedAt_8 : decode cX0_isLookedAt 8 = .ok (.iaload, 1) := by decide +kernel
theorem dX0_isLookedAt_9 : decode cX0_isLookedAt 9 = .ok (.iload_n 3, 1) := by decide +kernel
theorem dX0_isLookedAt_10 : decode cX0_isLookedAt 10 = .ok (.if_icmp .ne 21, 3) := by decide +kernel
theorem dX0_isLookedAt_13 : decode cX0_isLookedAt 13 = .ok (.aload_n 2, 1) := by decide +kernel
theorem dX0_isLookedAt_14 : decode cX0_isLookedAt 14 = .ok (.aload_n 0, 1) := by decide +kernel
theorem dX0_isLookedAt_15 : decode cX0_isLookedAt 15 = .ok (.getfield 21, 3) := by decide +kernel
theorem dX0_isLookedAt_18 : decode cX0_isLookedAt 18 = .ok (.getfield 62, 3) := by decide +kernel
theorem dX0_isLookedAt_21 : decode cX0_isLookedAt 21 = .ok (.iload_n 1, 1) := by decide +kernel
theorem dX0_isLookedAt_22 : decode cX0_isLookedAt 22 = .ok (.iaload, 1) := by decide +kernel
theorem dX0_isLookedAt_23 : decode cX0_isLookedAt 23 = .ok (.baload, 1) := by decide +kernel
theorem dX0_isLookedAt_24 : decode cX0_isLookedAt 24 = .ok (.ifCond .ne 7, 3) := by decide +kernel
theorem dX0_isLookedAt_27 : decode cX0_isLookedAt 27 = .ok (.iconst 1, 1) := by decide +kernel
theorem dX0_isLookedAt_28 : decode cX0_isLookedAt 28 = .ok (.goto 4, 3) := by decide +kernel
theorem dX0_isLookedAt_31 : decode cX0_isLookedAt 31 = .ok (.iconst 0, 1) := by decide +kernel
theorem dX0_isLookedAt_32 : decode cX0_isLookedAt 32 = .ok (.ireturn, 1) := by decide +kernel
theorem dX1_init_0 : decode cX1_init 0 = .ok (.aload_n 0, 1) := by decide +kernel
theorem dX1_init_1 : decode cX1_init 1 = .ok (.invokespecial 3, 3) := by decide +kernel
theorem dX1_init_4 : decode cX1_init 4 = .ok (.aload_n 0, 1) := by decide +kernel
theorem dX1_init_5 : decode cX1_init 5 = .ok (.iconst 4, 1) := by decide +kernel
theorem dX1_init_6 : decode cX1_init 6 = .ok (.newarray .int, 2) := by decide +kernel
theorem dX1_init_8 : decode cX1_init 8 = .ok (.putfield 9, 3) := by decide +kernel
theorem dX1_init_11 : decode cX1_init 11 = .ok (.aload_n 0, 1) := by decide +kernel
theorem dX1_init_12 : decode cX1_init 12 = .ok (.iconst 4, 1) := by decide +kernel
theorem dX1_init_13 : decode cX1_init 13 = .ok (.newarray .int, 2) := by decide +kernel
theorem dX1_init_15 : decode cX1_init 15 = .ok (.putfield 15, 3) := by decide +kernel
theorem dX1_init_18 : decode cX1_init 18 = .ok (.aload_n 0, 1) := by decide +kernel
theorem dX1_init_19 : decode cX1_init 19 = .ok (.iconst 4, 1) := by decide +kernel
theorem dX1_init_20 : decode cX1_init 20 = .ok (.newarray .int, 2) := by decide +kernel
theorem dX1_init_22 : decode cX1_init 22 = .ok (.putfield 18, 3) := by decide +kernel
theorem dX1_init_25 : decode cX1_init 25 = .ok (.aload_n 0, 1) := by decide +kernel
theorem dX1_init_26 : decode cX1_init 26 = .ok (.iconst 0, 1) := by decide +kernel
theorem dX1_init_27 : decode cX1_init 27 = .ok (.putfield 21, 3) := by decide +kernel
theorem dX1_init_30 : decode cX1_init 30 = .ok (.return_, 1) := by decide +kernel
theorem dX1_placeOf_0 : decode cX1_placeOf 0 = .ok (.iconst 0, 1) := by decide +kernel
theorem dX1_placeOf_1 : decode cX1_placeOf 1 = .ok (.istore_n 2, 1) := by decide +kernel
theorem dX1_placeOf_2 : decode cX1_placeOf 2 = .ok (.iload_n 2, 1) := by decide +kernel
theorem dX1_placeOf_3 : decode cX1_placeOf 3 = .ok (.aload_n 0, 1) := by decide +kernel
theorem dX1_placeOf_4 : decode cX1_placeOf 4 = .ok (.getfield 21, 3) := by decide +kernel
theorem dX1_placeOf_7 : decode cX1_placeOf 7 = .ok (.if_icmp .ge 21, 3) := by decide +kernel
theorem dX1_placeOf_10 : decode cX1_placeOf 10 = .ok (.aload_n 0, 1) := by decide +kernel
theorem dX1_placeOf_11 : decode cX1_placeOf 11 = .ok (.getfield 9, 3) := by decide +kernel
theorem dX1_placeOf_14 : decode cX1_placeOf 14 = .ok (.iload_n 2, 1) := by decide +kernel
theorem dX1_placeOf_15 : decode cX1_placeOf 15 = .ok (.iaload, 1) := by decide +kernel
theorem dX1_placeOf_16 : decode cX1_placeOf 16 = .ok (.iload_n 1, 1) := by decide +kernel
theorem dX1_placeOf_17 : decode cX1_placeOf 17 = .ok (.if_icmp .ne 5, 3) := by decide +kernel
theorem dX1_placeOf_20 : decode cX1_placeOf 20 = .ok (.iload_n 2, 1) := by decide +kernel
theorem dX1_placeOf_21 : decode cX1_placeOf 21 = .ok (.ireturn, 1) := by decide +kernel
theorem dX1_placeOf_22 : decode cX1_placeOf 22 = .ok (.iinc 2 1, 3) := by decide +kernel
theorem dX1_placeOf_25 : decode cX1_placeOf 25 = .ok (.goto (-23), 3) := by decide +kernel
theorem dX1_placeOf_28 : decode cX1_placeOf 28 = .ok (.iconst (-1), 1) := by decide +kernel
theorem dX1_placeOf_29 : decode cX1_placeOf 29 = .ok (.ireturn, 1) := by decide +kernel
theorem dX1_add_0 : decode cX1_add 0 = .ok (.aload_n 0, 1) := by decide +kernel
theorem dX1_add_1 : decode cX1_add 1 = .ok (.getfield 9, 3) := by decide +kernel
theorem dX1_add_4 : decode cX1_add 4 = .ok (.aload_n 0, 1) := by decide +kernel
theorem dX1_add_5 : decode cX1_add 5 = .ok (.getfield 21, 3) := by decide +kernel
theorem dX1_add_8 : decode cX1_add 8 = .ok (.iload_n 1, 1) := by decide +kernel
theorem dX1_add_9 : decode cX1_add 9 = .ok (.iastore, 1) := by decide +kernel
theorem dX1_add_10 : decode cX1_add 10 = .ok (.aload_n 0, 1) := by decide +kernel
theorem dX1_add_11 : decode cX1_add 11 = .ok (.getfield 15, 3) := by decide +kernel
theorem dX1_add_14 : decode cX1_add 14 = .ok (.aload_n 0, 1) := by decide +kernel
theorem dX1_add_15 : decode cX1_add 15 = .ok (.getfield 21, 3) := by decide +kernel
theorem dX1_add_18 : decode cX1_add 18 = .ok (.iload_n 2, 1) := by decide +kernel
theorem dX1_add_19 : decode cX1_add 19 = .ok (.iastore, 1) := by decide +kernel
theorem dX1_add_20 : decode cX1_add 20 = .ok (.aload_n 0, 1) := by decide +kernel
theorem dX1_add_21 : decode cX1_add 21 = .ok (.getfield 18, 3) := by decide +kernel
theorem dX1_add_24 : decode cX1_add 24 = .ok (.aload_n 0, 1) := by decide +kernel
theorem dX1_add_25 : decode cX1_add 25 = .ok (.getfield 21, 3) := by decide +kernel
theorem dX1_add_28 : decode cX1_add 28 = .ok (.iload_n 3, 1) := by decide +kernel
theorem dX1_add_29 : decode cX1_add 29 = .ok (.iastore, 1) := by decide +kernel
theorem dX1_add_30 : decode cX1_add 30 = .ok (.aload_n 0, 1) := by decide +kernel
theorem dX1_add_31 : decode cX1_add 31 = .ok (.dup, 1) := by decide +kernel
theorem dX1_add_32 : decode cX1_add 32 = .ok (.getfield 21, 3) := by decide +kernel
theorem dX1_add_35 : decode cX1_add 35 = .ok (.iconst 1, 1) := by decide +kernel
theorem dX1_add_36 : decode cX1_add 36 = .ok (.iadd, 1) := by decide +kernel
theorem dX1_add_37 : decode cX1_add 37 = .ok (.putfield 21, 3) := by decide +kernel
theorem dX1_add_40 : decode cX1_add 40 = .ok (.return_, 1) := by decide +kernel
theorem dX1_removeAt_0 : decode cX1_removeAt 0 = .ok (.aload_n 0, 1) := by decide +kernel
theorem dX1_removeAt_1 : decode cX1_removeAt 1 = .ok (.dup, 1) := by decide +kernel
theorem dX1_removeAt_2 : decode cX1_removeAt 2 = .ok (.getfield 21, 3) := by decide +kernel
theorem dX1_removeAt_5 : decode cX1_removeAt 5 = .ok (.iconst 1, 1) := by decide +kernel
theorem dX1_removeAt_6 : decode cX1_removeAt 6 = .ok (.isub, 1) := by decide +kernel
theorem dX1_removeAt_7 : decode cX1_removeAt 7 = .ok (.putfield 21, 3) := by decide +kernel
theorem dX1_removeAt_10 : decode cX1_removeAt 10 = .ok (.iload_n 1, 1) := by decide +kernel
theorem dX1_removeAt_11 : decode cX1_removeAt 11 = .ok (.istore_n 2, 1) := by decide +kernel
theorem dX1_removeAt_12 : decode cX1_removeAt 12 = .ok (.iload_n 2, 1) := by decide +kernel
theorem dX1_removeAt_13 : decode cX1_removeAt 13 = .ok (.aload_n 0, 1) := by decide +kernel
theorem dX1_removeAt_14 : decode cX1_removeAt 14 = .ok (.getfield 21, 3) := by decide +kernel
theorem dX1_removeAt_17 : decode cX1_removeAt 17 = .ok (.if_icmp .ge 51, 3) := by decide +kernel
theorem dX1_removeAt_20 : decode cX1_removeAt 20 = .ok (.aload_n 0, 1) := by decide +kernel
theorem dX1_removeAt_21 : decode cX1_removeAt 21 = .ok (.getfield 9, 3) := by decide +kernel
theorem dX1_removeAt_24 : decode cX1_removeAt 24 = .ok (.iload_n 2, 1) := by decide +kernel
theorem dX1_removeAt_25 : decode cX1_removeAt 25 = .ok (.aload_n 0, 1) := by decide +kernel
theorem dX1_removeAt_26 : decode cX1_removeAt 26 = .ok (.getfield 9, 3) := by decide +kernel
theorem dX1_removeAt_29 : decode cX1_removeAt 29 = .ok (.iload_n 2, 1) := by decide +kernel
theorem dX1_removeAt_30 : decode cX1_removeAt 30 = .ok (.iconst 1, 1) := by decide +kernel
theorem dX1_removeAt_31 : decode cX1_removeAt 31 = .ok (.iadd, 1) := by decide +kernel
theorem dX1_removeAt_32 : decode cX1_removeAt 32 = .ok (.iaload, 1) := by decide +kernel
theorem dX1_removeAt_33 : decode cX1_removeAt 33 = .ok (.iastore, 1) := by decide +kernel
theorem dX1_removeAt_34 : decode cX1_removeAt 34 = .ok (.aload_n 0, 1) := by decide +kernel
theorem dX1_removeAt_35 : decode cX1_removeAt 35 = .ok (.getfield 15, 3) := by decide +kernel
theorem dX1_removeAt_38 : decode cX1_removeAt 38 = .ok (.iload_n 2, 1) := by decide +kernel
theorem dX1_removeAt_39 : decode cX1_removeAt 39 = .ok (.aload_n 0, 1) := by decide +kernel
theorem dX1_removeAt_40 : decode cX1_removeAt 40 = .ok (.getfield 15, 3) := by decide +kernel
theorem dX1_removeAt_43 : decode cX1_removeAt 43 = .ok (.iload_n 2, 1) := by decide +kernel
theorem dX1_removeAt_44 : decode cX1_removeAt 44 = .ok (.iconst 1, 1) := by decide +kernel
theorem dX1_removeAt_45 : decode cX1_removeAt 45 = .ok (.iadd, 1) := by decide +kernel
theorem dX1_removeAt_46 : decode cX1_removeAt 46 = .ok (.iaload, 1) := by decide +kernel
theorem dX1_removeAt_47 : decode cX1_removeAt 47 = .ok (.iastore, 1) := by decide +kernel
theorem dX1_removeAt_48 : decode cX1_removeAt 48 = .ok (.aload_n 0, 1) := by decide +kernel
theorem dX1_removeAt_49 : decode cX1_removeAt 49 = .ok (.getfield 18, 3) := by decide +kernel
theorem dX1_removeAt_52 : decode cX1_removeAt 52 = .ok (.iload_n 2, 1) := by decide +kernel
theorem dX1_removeAt_53 : decode cX1_removeAt 53 = .ok (.aload_n 0, 1) := by decide +kernel
theorem dX1_removeAt_54 : decode cX1_removeAt 54 = .ok (.getfield 18, 3) := by decide +kernel
theorem dX1_removeAt_57 : decode cX1_removeAt 57 = .ok (.iload_n 2, 1) := by decide +kernel
theorem dX1_removeAt_58 : decode cX1_removeAt 58 = .ok (.iconst 1, 1) := by decide +kernel
theorem dX1_removeAt_59 : decode cX1_removeAt 59 = .ok (.iadd, 1) := by decide +kernel
theorem dX1_removeAt_60 : decode cX1_removeAt 60 = .ok (.iaload, 1) := by decide +kernel
theorem dX1_removeAt_61 : decode cX1_removeAt 61 = .ok (.iastore, 1) := by decide +kernel
theorem dX1_removeAt_62 : decode cX1_removeAt 62 = .ok (.iinc 2 1, 3) := by decide +kernel
theorem dX1_removeAt_65 : decode cX1_removeAt 65 = .ok (.goto (-53), 3) := by decide +kernel
theorem dX1_removeAt_68 : decode cX1_removeAt 68 = .ok (.return_, 1) := by decide +kernel
theorem dX1_clear_0 : decode cX1_clear 0 = .ok (.aload_n 0, 1) := by decide +kernel
theorem dX1_clear_1 : decode cX1_clear 1 = .ok (.iconst 0, 1) := by decide +kernel
theorem dX1_clear_2 : decode cX1_clear 2 = .ok (.putfield 21, 3) := by decide +kernel
theorem dX1_clear_5 : decode cX1_clear 5 = .ok (.return_, 1) := by decide +kernel
theorem dX1_copy_0 : decode cX1_copy 0 = .ok (.aload_n 0, 1) := by decide +kernel
theorem dX1_copy_1 : decode cX1_copy 1 = .ok (.invokevirtual 25, 3) := by decide +kernel
theorem dX1_copy_4 : decode cX1_copy 4 = .ok (.iconst 0, 1) := by decide +kernel
theorem dX1_copy_5 : decode cX1_copy 5 = .ok (.istore_n 2, 1) := by decide +kernel
theorem dX1_copy_6 : decode cX1_copy 6 = .ok (.iload_n 2, 1) := by decide +kernel
theorem dX1_copy_7 : decode cX1_copy 7 = .ok (.aload_n 1, 1) := by decide +kernel
theorem dX1_copy_8 : decode cX1_copy 8 = .ok (.getfield 21, 3) := by decide +kernel
theorem dX1_copy_11 : decode cX1_copy 11 = .ok (.if_icmp .ge 31, 3) := by decide +kernel
theorem dX1_copy_14 : decode cX1_copy 14 = .ok (.aload_n 0, 1) := by decide +kernel
theorem dX1_copy_15 : decode cX1_copy 15 = .ok (.aload_n 1, 1) := by decide +kernel
theorem dX1_copy_16 : decode cX1_copy 16 = .ok (.getfield 9, 3) := by decide +kernel
theorem dX1_copy_19 : decode cX1_copy 19 = .ok (.iload_n 2, 1) := by decide +kernel
theorem dX1_copy_20 : decode cX1_copy 20 = .ok (.iaload, 1) := by decide +kernel
theorem dX1_copy_21 : decode cX1_copy 21 = .ok (.aload_n 1, 1) := by decide +kernel
theorem dX1_copy_22 : decode cX1_copy 22 = .ok (.getfield 15, 3) := by decide +kernel
theorem dX1_copy_25 : decode cX1_copy 25 = .ok (.iload_n 2, 1) := by decide +kernel
theorem dX1_copy_26 : decode cX1_copy 26 = .ok (.iaload, 1) := by decide +kernel
theorem dX1_copy_27 : decode cX1_copy 27 = .ok (.aload_n 1, 1) := by decide +kernel
theorem dX1_copy_28 : decode cX1_copy 28 = .ok (.getfield 18, 3) := by decide +kernel
theorem dX1_copy_31 : decode cX1_copy 31 = .ok (.iload_n 2, 1) := by decide +kernel
theorem dX1_copy_32 : decode cX1_copy 32 = .ok (.iaload, 1) := by decide +kernel
theorem dX1_copy_33 : decode cX1_copy 33 = .ok (.invokevirtual 28, 3) := by decide +kernel
theorem dX1_copy_36 : decode cX1_copy 36 = .ok (.iinc 2 1, 3) := by decide +kernel
theorem dX1_copy_39 : decode cX1_copy 39 = .ok (.goto (-33), 3) := by decide +kernel
theorem dX1_copy_42 : decode cX1_copy 42 = .ok (.return_, 1) := by decide +kernel
theorem dX2_init_0 : decode cX2_init 0 = .ok (.aload_n 0, 1) := by decide +kernel
theorem dX2_init_1 : decode cX2_init 1 = .ok (.invokespecial 1, 3) := by decide +kernel
theorem dX2_init_4 : decode cX2_init 4 = .ok (.aload_n 0, 1) := by decide +kernel
theorem dX2_init_5 : decode cX2_init 5 = .ok (.new 7, 3) := by decide +kernel
theorem dX2_init_8 : decode cX2_init 8 = .ok (.dup, 1) := by decide +kernel
theorem dX2_init_9 : decode cX2_init 9 = .ok (.invokespecial 9, 3) := by decide +kernel
theorem dX2_init_12 : decode cX2_init 12 = .ok (.putfield 10, 3) := by decide +kernel
theorem dX2_init_15 : decode cX2_init 15 = .ok (.aload_n 0, 1) := by decide +kernel
theorem dX2_init_16 : decode cX2_init 16 = .ok (.new 16, 3) := by decide +kernel
theorem dX2_init_19 : decode cX2_init 19 = .ok (.dup, 1) := by decide +kernel
theorem dX2_init_20 : decode cX2_init 20 = .ok (.invokespecial 18, 3) := by decide +kernel
theorem dX2_init_23 : decode cX2_init 23 = .ok (.putfield 19, 3) := by decide +kernel
theorem dX2_init_26 : decode cX2_init 26 = .ok (.aload_n 0, 1) := by decide +kernel
theorem dX2_init_27 : decode cX2_init 27 = .ok (.iconst 1, 1) := by decide +kernel
theorem dX2_init_28 : decode cX2_init 28 = .ok (.putfield 23, 3) := by decide +kernel
theorem dX2_init_31 : decode cX2_init 31 = .ok (.aload_n 0, 1) := by decide +kernel
theorem dX2_init_32 : decode cX2_init 32 = .ok (.iconst 0, 1) := by decide +kernel
theorem dX2_init_33 : decode cX2_init 33 = .ok (.putfield 27, 3) := by decide +kernel
theorem dX2_init_36 : decode cX2_init 36 = .ok (.return_, 1) := by decide +kernel
theorem dX3_init_0 : decode cX3_init 0 = .ok (.aload_n 0, 1) := by decide +kernel
theorem dX3_init_1 : decode cX3_init 1 = .ok (.invokespecial 3, 3) := by decide +kernel
theorem dX3_init_4 : decode cX3_init 4 = .ok (.aload_n 0, 1) := by decide +kernel
theorem dX3_init_5 : decode cX3_init 5 = .ok (.iconst 0, 1) := by decide +kernel
theorem dX3_init_6 : decode cX3_init 6 = .ok (.putfield 9, 3) := by decide +kernel
theorem dX3_init_9 : decode cX3_init 9 = .ok (.aload_n 0, 1) := by decide +kernel
theorem dX3_init_10 : decode cX3_init 10 = .ok (.iconst 0, 1) := by decide +kernel
theorem dX3_init_11 : decode cX3_init 11 = .ok (.putfield 15, 3) := by decide +kernel
theorem dX3_init_14 : decode cX3_init 14 = .ok (.return_, 1) := by decide +kernel
theorem dX3_set_0 : decode cX3_set 0 = .ok (.aload_n 0, 1) := by decide +kernel
theorem dX3_set_1 : decode cX3_set 1 = .ok (.iload_n 1, 1) := by decide +kernel
theorem dX3_set_2 : decode cX3_set 2 = .ok (.putfield 9, 3) := by decide +kernel
theorem dX3_set_5 : decode cX3_set 5 = .ok (.aload_n 0, 1) := by decide +kernel
theorem dX3_set_6 : decode cX3_set 6 = .ok (.iload_n 2, 1) := by decide +kernel
theorem dX3_set_7 : decode cX3_set 7 = .ok (.putfield 15, 3) := by decide +kernel
theorem dX3_set_10 : decode cX3_set 10 = .ok (.return_, 1) := by decide +kernel
theorem dX3_is_0 : decode cX3_is 0 = .ok (.aload_n 0, 1) := by decide +kernel
theorem dX3_is_1 : decode cX3_is 1 = .ok (.getfield 9, 3) := by decide +kernel
theorem dX3_is_4 : decode cX3_is 4 = .ok (.iload_n 1, 1) := by decide +kernel
theorem dX3_is_5 : decode cX3_is 5 = .ok (.if_icmp .ne 15, 3) := by decide +kernel
theorem dX3_is_8 : decode cX3_is 8 = .ok (.aload_n 0, 1) := by decide +kernel
theorem dX3_is_9 : decode cX3_is 9 = .ok (.getfield 15, 3) := by decide +kernel
theorem dX3_is_12 : decode cX3_is 12 = .ok (.iload_n 2, 1) := by decide +kernel
theorem dX3_is_13 : decode cX3_is 13 = .ok (.if_icmp .ne 7, 3) := by decide +kernel
theorem dX3_is_16 : decode cX3_is 16 = .ok (.iconst 1, 1) := by decide +kernel
theorem dX3_is_17 : decode cX3_is 17 = .ok (.goto 4, 3) := by decide +kernel
theorem dX3_is_20 : decode cX3_is 20 = .ok (.iconst 0, 1) := by decide +kernel
theorem dX3_is_21 : decode cX3_is 21 = .ok (.ireturn, 1) := by decide +kernel
theorem dX3_meets_0 : decode cX3_meets 0 = .ok (.aload_n 0, 1) := by decide +kernel
theorem dX3_meets_1 : decode cX3_meets 1 = .ok (.getfield 15, 3) := by decide +kernel
theorem dX3_meets_4 : decode cX3_meets 4 = .ok (.iload_n 2, 1) := by decide +kernel
theorem dX3_meets_5 : decode cX3_meets 5 = .ok (.invokestatic 18, 3) := by decide +kernel
theorem dX3_meets_8 : decode cX3_meets 8 = .ok (.istore_n 3, 1) := by decide +kernel
theorem dX3_meets_9 : decode cX3_meets 9 = .ok (.aload_n 0, 1) := by decide +kernel
theorem dX3_meets_10 : decode cX3_meets 10 = .ok (.getfield 9, 3) := by decide +kernel
theorem dX3_meets_13 : decode cX3_meets 13 = .ok (.iload_n 1, 1) := by decide +kernel
theorem dX3_meets_14 : decode cX3_meets 14 = .ok (.ixor, 1) := by decide +kernel
theorem dX3_meets_15 : decode cX3_meets 15 = .ok (.bipush 16, 2) := by decide +kernel
theorem dX3_meets_17 : decode cX3_meets 17 = .ok (.iload_n 3, 1) := by decide +kernel
theorem dX3_meets_18 : decode cX3_meets 18 = .ok (.isub, 1) := by decide +kernel
theorem dX3_meets_19 : decode cX3_meets 19 = .ok (.iushr, 1) := by decide +kernel
theorem dX3_meets_20 : decode cX3_meets 20 = .ok (.ifCond .ne 7, 3) := by decide +kernel
theorem dX3_meets_23 : decode cX3_meets 23 = .ok (.iconst 1, 1) := by decide +kernel
theorem dX3_meets_24 : decode cX3_meets 24 = .ok (.goto 4, 3) := by decide +kernel
theorem dX3_meets_27 : decode cX3_meets 27 = .ok (.iconst 0, 1) := by decide +kernel
theorem dX3_meets_28 : decode cX3_meets 28 = .ok (.ireturn, 1) := by decide +kernel
theorem dX3_covers_0 : decode cX3_covers 0 = .ok (.aload_n 0, 1) := by decide +kernel
theorem dX3_covers_1 : decode cX3_covers 1 = .ok (.iload_n 1, 1) := by decide +kernel
theorem dX3_covers_2 : decode cX3_covers 2 = .ok (.bipush 16, 2) := by decide +kernel
theorem dX3_covers_4 : decode cX3_covers 4 = .ok (.invokevirtual 24, 3) := by decide +kernel
theorem dX3_covers_7 : decode cX3_covers 7 = .ok (.ireturn, 1) := by decide +kernel
theorem dX4_init_0 : decode cX4_init 0 = .ok (.aload_n 0, 1) := by decide +kernel
theorem dX4_init_1 : decode cX4_init 1 = .ok (.invokespecial 3, 3) := by decide +kernel
theorem dX4_init_4 : decode cX4_init 4 = .ok (.aload_n 0, 1) := by decide +kernel
theorem dX4_init_5 : decode cX4_init 5 = .ok (.bipush 24, 2) := by decide +kernel
theorem dX4_init_7 : decode cX4_init 7 = .ok (.anewarray 9, 3) := by decide +kernel
theorem dX4_init_10 : decode cX4_init 10 = .ok (.putfield 11, 3) := by decide +kernel
theorem dX4_init_13 : decode cX4_init 13 = .ok (.aload_n 0, 1) := by decide +kernel
theorem dX4_init_14 : decode cX4_init 14 = .ok (.iconst 0, 1) := by decide +kernel
theorem dX4_init_15 : decode cX4_init 15 = .ok (.putfield 17, 3) := by decide +kernel
theorem dX4_init_18 : decode cX4_init 18 = .ok (.iconst 0, 1) := by decide +kernel
theorem dX4_init_19 : decode cX4_init 19 = .ok (.istore_n 1, 1) := by decide +kernel
theorem dX4_init_20 : decode cX4_init 20 = .ok (.iload_n 1, 1) := by decide +kernel
theorem dX4_init_21 : decode cX4_init 21 = .ok (.bipush 24, 2) := by decide +kernel
theorem dX4_init_23 : decode cX4_init 23 = .ok (.if_icmp .ge 22, 3) := by decide +kernel
theorem dX4_init_26 : decode cX4_init 26 = .ok (.aload_n 0, 1) := by decide +kernel
theorem dX4_init_27 : decode cX4_init 27 = .ok (.getfield 11, 3) := by decide +kernel
theorem dX4_init_30 : decode cX4_init 30 = .ok (.iload_n 1, 1) := by decide +kernel
theorem dX4_init_31 : decode cX4_init 31 = .ok (.new 9, 3) := by decide +kernel
theorem dX4_init_34 : decode cX4_init 34 = .ok (.dup, 1) := by decide +kernel
theorem dX4_init_35 : decode cX4_init 35 = .ok (.invokespecial 21, 3) := by decide +kernel
theorem dX4_init_38 : decode cX4_init 38 = .ok (.aastore, 1) := by decide +kernel
theorem dX4_init_39 : decode cX4_init 39 = .ok (.iinc 1 1, 3) := by decide +kernel
theorem dX4_init_42 : decode cX4_init 42 = .ok (.goto (-22), 3) := by decide +kernel
theorem dX4_init_45 : decode cX4_init 45 = .ok (.return_, 1) := by decide +kernel
theorem dX4_add_0 : decode cX4_add 0 = .ok (.aload_n 0, 1) := by decide +kernel
theorem dX4_add_1 : decode cX4_add 1 = .ok (.getfield 17, 3) := by decide +kernel
theorem dX4_add_4 : decode cX4_add 4 = .ok (.istore_n 3, 1) := by decide +kernel
theorem dX4_add_5 : decode cX4_add 5 = .ok (.aload_n 0, 1) := by decide +kernel
theorem dX4_add_6 : decode cX4_add 6 = .ok (.getfield 11, 3) := by decide +kernel
theorem dX4_add_9 : decode cX4_add 9 = .ok (.iload_n 3, 1) := by decide +kernel
theorem dX4_add_10 : decode cX4_add 10 = .ok (.aaload, 1) := by decide +kernel
theorem dX4_add_11 : decode cX4_add 11 = .ok (.getfield 22, 3) := by decide +kernel
theorem dX4_add_14 : decode cX4_add 14 = .ok (.iload_n 1, 1) := by decide +kernel
theorem dX4_add_15 : decode cX4_add 15 = .ok (.iload_n 2, 1) := by decide +kernel
theorem dX4_add_16 : decode cX4_add 16 = .ok (.invokevirtual 26, 3) := by decide +kernel
theorem dX4_add_19 : decode cX4_add 19 = .ok (.aload_n 0, 1) := by decide +kernel
theorem dX4_add_20 : decode cX4_add 20 = .ok (.dup, 1) := by decide +kernel
theorem dX4_add_21 : decode cX4_add 21 = .ok (.getfield 17, 3) := by decide +kernel
theorem dX4_add_24 : decode cX4_add 24 = .ok (.iconst 1, 1) := by decide +kernel
theorem dX4_add_25 : decode cX4_add 25 = .ok (.iadd, 1) := by decide +kernel
theorem dX4_add_26 : decode cX4_add 26 = .ok (.putfield 17, 3) := by decide +kernel
theorem dX4_add_29 : decode cX4_add 29 = .ok (.iload_n 3, 1) := by decide +kernel
theorem dX4_add_30 : decode cX4_add 30 = .ok (.ireturn, 1) := by decide +kernel
theorem dX4_has_0 : decode cX4_has 0 = .ok (.iconst 0, 1) := by decide +kernel
theorem dX4_has_1 : decode cX4_has 1 = .ok (.istore_n 3, 1) := by decide +kernel
theorem dX4_has_2 : decode cX4_has 2 = .ok (.iload_n 3, 1) := by decide +kernel
theorem dX4_has_3 : decode cX4_has 3 = .ok (.aload_n 0, 1) := by decide +kernel
theorem dX4_has_4 : decode cX4_has 4 = .ok (.getfield 17, 3) := by decide +kernel
theorem dX4_has_7 : decode cX4_has 7 = .ok (.if_icmp .ge 40, 3) := by decide +kernel
theorem dX4_has_10 : decode cX4_has 10 = .ok (.aload_n 0, 1) := by decide +kernel
theorem dX4_has_11 : decode cX4_has 11 = .ok (.getfield 11, 3) := by decide +kernel
theorem dX4_has_14 : decode cX4_has 14 = .ok (.iload_n 3, 1) := by decide +kernel
theorem dX4_has_15 : decode cX4_has 15 = .ok (.aaload, 1) := by decide +kernel
theorem dX4_has_16 : decode cX4_has 16 = .ok (.getfield 32, 3) := by decide +kernel
theorem dX4_has_19 : decode cX4_has 19 = .ok (.ifCond .ne 22, 3) := by decide +kernel
theorem dX4_has_22 : decode cX4_has 22 = .ok (.aload_n 0, 1) := by decide +kernel
theorem dX4_has_23 : decode cX4_has 23 = .ok (.getfield 11, 3) := by decide +kernel
theorem dX4_has_26 : decode cX4_has 26 = .ok (.iload_n 3, 1) := by decide +kernel
theorem dX4_has_27 : decode cX4_has 27 = .ok (.aaload, 1) := by decide +kernel
theorem dX4_has_28 : decode cX4_has 28 = .ok (.getfield 22, 3) := by decide +kernel
theorem dX4_has_31 : decode cX4_has 31 = .ok (.iload_n 1, 1) := by decide +kernel
theorem dX4_has_32 : decode cX4_has 32 = .ok (.iload_n 2, 1) := by decide +kernel
theorem dX4_has_33 : decode cX4_has 33 = .ok (.invokevirtual 36, 3) := by decide +kernel
theorem dX4_has_36 : decode cX4_has 36 = .ok (.ifCond .eq 5, 3) := by decide +kernel
theorem dX4_has_39 : decode cX4_has 39 = .ok (.iconst 1, 1) := by decide +kernel
theorem dX4_has_40 : decode cX4_has 40 = .ok (.ireturn, 1) := by decide +kernel
theorem dX4_has_41 : decode cX4_has 41 = .ok (.iinc 3 1, 3) := by decide +kernel
theorem dX4_has_44 : decode cX4_has 44 = .ok (.goto (-42), 3) := by decide +kernel
theorem dX4_has_47 : decode cX4_has 47 = .ok (.iconst 0, 1) := by decide +kernel
theorem dX4_has_48 : decode cX4_has 48 = .ok (.ireturn, 1) := by decide +kernel
theorem dX4_countRegistered_0 : decode cX4_countRegistered 0 = .ok (.iconst 0, 1) := by decide +kernel
theorem dX4_countRegistered_1 : decode cX4_countRegistered 1 = .ok (.istore_n 1, 1) := by decide +kernel
theorem dX4_countRegistered_2 : decode cX4_countRegistered 2 = .ok (.iconst 0, 1) := by decide +kernel
theorem dX4_countRegistered_3 : decode cX4_countRegistered 3 = .ok (.istore_n 2, 1) := by decide +kernel
theorem dX4_countRegistered_4 : decode cX4_countRegistered 4 = .ok (.iload_n 2, 1) := by decide +kernel
theorem dX4_countRegistered_5 : decode cX4_countRegistered 5 = .ok (.aload_n 0, 1) := by decide +kernel
theorem dX4_countRegistered_6 : decode cX4_countRegistered 6 = .ok (.getfield 17, 3) := by decide +kernel
theorem dX4_countRegistered_9 : decode cX4_countRegistered 9 = .ok (.if_icmp .ge 24, 3) := by decide +kernel
theorem dX4_countRegistered_12 : decode cX4_countRegistered 12 = .ok (.aload_n 0, 1) := by decide +kernel
theorem dX4_countRegistered_13 : decode cX4_countRegistered 13 = .ok (.getfield 11, 3) := by decide +kernel
theorem dX4_countRegistered_16 : decode cX4_countRegistered 16 = .ok (.iload_n 2, 1) := by decide +kernel
theorem dX4_countRegistered_17 : decode cX4_countRegistered 17 = .ok (.aaload, 1) := by decide +kernel
theorem dX4_countRegistered_18 : decode cX4_countRegistered 18 = .ok (.getfield 32, 3) := by decide +kernel
theorem dX4_countRegistered_21 : decode cX4_countRegistered 21 = .ok (.ifCond .ne 6, 3) := by decide +kernel
theorem dX4_countRegistered_24 : decode cX4_countRegistered 24 = .ok (.iinc 1 1, 3) := by decide +kernel
theorem dX4_countRegistered_27 : decode cX4_countRegistered 27 = .ok (.iinc 2 1, 3) := by decide +kernel
theorem dX4_countRegistered_30 : decode cX4_countRegistered 30 = .ok (.goto (-26), 3) := by decide +kernel
theorem dX4_countRegistered_33 : decode cX4_countRegistered 33 = .ok (.iload_n 1, 1) := by decide +kernel
theorem dX4_countRegistered_34 : decode cX4_countRegistered 34 = .ok (.ireturn, 1) := by decide +kernel
theorem dX4_find_0 : decode cX4_find 0 = .ok (.iconst (-1), 1) := by decide +kernel
theorem dX4_find_1 : decode cX4_find 1 = .ok (.istore_n 2, 1) := by decide +kernel
theorem dX4_find_2 : decode cX4_find 2 = .ok (.iconst (-1), 1) := by decide +kernel
theorem dX4_find_3 : decode cX4_find 3 = .ok (.istore_n 3, 1) := by decide +kernel
theorem dX4_find_4 : decode cX4_find 4 = .ok (.iconst 0, 1) := by decide +kernel
theorem dX4_find_5 : decode cX4_find 5 = .ok (.istore 4, 2) := by decide +kernel
theorem dX4_find_7 : decode cX4_find 7 = .ok (.iload 4, 2) := by decide +kernel
theorem dX4_find_9 : decode cX4_find 9 = .ok (.aload_n 0, 1) := by decide +kernel
theorem dX4_find_10 : decode cX4_find 10 = .ok (.getfield 17, 3) := by decide +kernel
theorem dX4_find_13 : decode cX4_find 13 = .ok (.if_icmp .ge 62, 3) := by decide +kernel
theorem dX4_find_16 : decode cX4_find 16 = .ok (.aload_n 0, 1) := by decide +kernel
theorem dX4_find_17 : decode cX4_find 17 = .ok (.getfield 11, 3) := by decide +kernel
theorem dX4_find_20 : decode cX4_find 20 = .ok (.iload 4, 2) := by decide +kernel
theorem dX4_find_22 : decode cX4_find 22 = .ok (.aaload, 1) := by decide +kernel
theorem dX4_find_23 : decode cX4_find 23 = .ok (.astore 5, 2) := by decide +kernel
theorem dX4_find_25 : decode cX4_find 25 = .ok (.aload 5, 2) := by decide +kernel
theorem dX4_find_27 : decode cX4_find 27 = .ok (.getfield 32, 3) := by decide +kernel
theorem dX4_find_30 : decode cX4_find 30 = .ok (.ifCond .ne 39, 3) := by decide +kernel
theorem dX4_find_33 : decode cX4_find 33 = .ok (.aload 5, 2) := by decide +kernel
theorem dX4_find_35 : decode cX4_find 35 = .ok (.getfield 22, 3) := by decide +kernel
theorem dX4_find_38 : decode cX4_find 38 = .ok (.getfield 40, 3) := by decide +kernel
theorem dX4_find_41 : decode cX4_find 41 = .ok (.iload_n 3, 1) := by decide +kernel
theorem dX4_find_42 : decode cX4_find 42 = .ok (.if_icmp .le 27, 3) := by decide +kernel
theorem dX4_find_45 : decode cX4_find 45 = .ok (.aload 5, 2) := by decide +kernel
theorem dX4_find_47 : decode cX4_find 47 = .ok (.getfield 22, 3) := by decide +kernel
theorem dX4_find_50 : decode cX4_find 50 = .ok (.iload_n 1, 1) := by decide +kernel
theorem dX4_find_51 : decode cX4_find 51 = .ok (.invokevirtual 43, 3) := by decide +kernel
theorem dX4_find_54 : decode cX4_find 54 = .ok (.ifCond .eq 15, 3) := by decide +kernel
theorem dX4_find_57 : decode cX4_find 57 = .ok (.iload 4, 2) := by decide +kernel
theorem dX4_find_59 : decode cX4_find 59 = .ok (.istore_n 2, 1) := by decide +kernel
theorem dX4_find_60 : decode cX4_find 60 = .ok (.aload 5, 2) := by decide +kernel
theorem dX4_find_62 : decode cX4_find 62 = .ok (.getfield 22, 3) := by decide +kernel
theorem dX4_find_65 : decode cX4_find 65 = .ok (.getfield 40, 3) := by decide +kernel
theorem dX4_find_68 : decode cX4_find 68 = .ok (.istore_n 3, 1) := by decide +kernel
theorem dX4_find_69 : decode cX4_find 69 = .ok (.iinc 4 1, 3) := by decide +kernel
theorem dX4_find_72 : decode cX4_find 72 = .ok (.goto (-65), 3) := by decide +kernel
theorem dX4_find_75 : decode cX4_find 75 = .ok (.iload_n 2, 1) := by decide +kernel
theorem dX4_find_76 : decode cX4_find 76 = .ok (.ireturn, 1) := by decide +kernel
theorem dX4_narrow_0 : decode cX4_narrow 0 = .ok (.iload_n 2, 1) := by decide +kernel
theorem dX4_narrow_1 : decode cX4_narrow 1 = .ok (.iconst (-1), 1) := by decide +kernel
theorem dX4_narrow_2 : decode cX4_narrow 2 = .ok (.if_icmp .ne 7, 3) := by decide +kernel
theorem dX4_narrow_5 : decode cX4_narrow 5 = .ok (.iconst (-1), 1) := by decide +kernel
theorem dX4_narrow_6 : decode cX4_narrow 6 = .ok (.goto 15, 3) := by decide +kernel
theorem dX4_narrow_9 : decode cX4_narrow 9 = .ok (.aload_n 0, 1) := by decide +kernel
theorem dX4_narrow_10 : decode cX4_narrow 10 = .ok (.getfield 11, 3) := by decide +kernel
theorem dX4_narrow_13 : decode cX4_narrow 13 = .ok (.iload_n 2, 1) := by decide +kernel
theorem dX4_narrow_14 : decode cX4_narrow 14 = .ok (.aaload, 1) := by decide +kernel
theorem dX4_narrow_15 : decode cX4_narrow 15 = .ok (.getfield 22, 3) := by decide +kernel
theorem dX4_narrow_18 : decode cX4_narrow 18 = .ok (.getfield 40, 3) := by decide +kernel
theorem dX4_narrow_21 : decode cX4_narrow 21 = .ok (.istore_n 3, 1) := by decide +kernel
theorem dX4_narrow_22 : decode cX4_narrow 22 = .ok (.iload_n 3, 1) := by decide +kernel
theorem dX4_narrow_23 : decode cX4_narrow 23 = .ok (.iconst 0, 1) := by decide +kernel
theorem dX4_narrow_24 : decode cX4_narrow 24 = .ok (.invokestatic 47, 3) := by decide +kernel
theorem dX4_narrow_27 : decode cX4_narrow 27 = .ok (.istore 4, 2) := by decide +kernel
theorem dX4_narrow_29 : decode cX4_narrow 29 = .ok (.iload 4, 2) := by decide +kernel
theorem dX4_narrow_31 : decode cX4_narrow 31 = .ok (.bipush 16, 2) := by decide +kernel
theorem dX4_narrow_33 : decode cX4_narrow 33 = .ok (.if_icmp .ge 23, 3) := by decide +kernel
theorem dX4_narrow_36 : decode cX4_narrow 36 = .ok (.aload_n 0, 1) := by decide +kernel
theorem dX4_narrow_37 : decode cX4_narrow 37 = .ok (.iload_n 1, 1) := by decide +kernel
theorem dX4_narrow_38 : decode cX4_narrow 38 = .ok (.iload 4, 2) := by decide +kernel
theorem dX4_narrow_40 : decode cX4_narrow 40 = .ok (.iload_n 3, 1) := by decide +kernel
theorem dX4_narrow_41 : decode cX4_narrow 41 = .ok (.invokevirtual 53, 3) := by decide +kernel
theorem dX4_narrow_44 : decode cX4_narrow 44 = .ok (.ifCond .ne 6, 3) := by decide +kernel
theorem dX4_narrow_47 : decode cX4_narrow 47 = .ok (.iload 4, 2) := by decide +kernel
theorem dX4_narrow_49 : decode cX4_narrow 49 = .ok (.ireturn, 1) := by decide +kernel
theorem dX4_narrow_50 : decode cX4_narrow 50 = .ok (.iinc 4 1, 3) := by decide +kernel
theorem dX4_narrow_53 : decode cX4_narrow 53 = .ok (.goto (-24), 3) := by decide +kernel
theorem dX4_narrow_56 : decode cX4_narrow 56 = .ok (.bipush 16, 2) := by decide +kernel
theorem dX4_narrow_58 : decode cX4_narrow 58 = .ok (.ireturn, 1) := by decide +kernel
theorem dX4_hidesLonger_0 : decode cX4_hidesLonger 0 = .ok (.iconst 0, 1) := by decide +kernel
theorem dX4_hidesLonger_1 : decode cX4_hidesLonger 1 = .ok (.istore 4, 2) := by decide +kernel
theorem dX4_hidesLonger_3 : decode cX4_hidesLonger 3 = .ok (.iload 4, 2) := by decide +kernel
theorem dX4_hidesLonger_5 : decode cX4_hidesLonger 5 = .ok (.aload_n 0, 1) := by decide +kernel
theorem dX4_hidesLonger_6 : decode cX4_hidesLonger 6 = .ok (.getfield 17, 3) := by decide +kernel
theorem dX4_hidesLonger_9 : decode cX4_hidesLonger 9 = .ok (.if_icmp .ge 53, 3) := by decide +kernel
theorem dX4_hidesLonger_12 : decode cX4_hidesLonger 12 = .ok (.aload_n 0, 1) := by decide +kernel
theorem dX4_hidesLonger_13 : decode cX4_hidesLonger 13 = .ok (.getfield 11, 3) := by decide +kernel
theorem dX4_hidesLonger_16 : decode cX4_hidesLonger 16 = .ok (.iload 4, 2) := by decide +kernel
theorem dX4_hidesLonger_18 : decode cX4_hidesLonger 18 = .ok (.aaload, 1) := by decide +kernel
theorem dX4_hidesLonger_19 : decode cX4_hidesLonger 19 = .ok (.astore 5, 2) := by decide +kernel
theorem dX4_hidesLonger_21 : decode cX4_hidesLonger 21 = .ok (.aload 5, 2) := by decide +kernel
theorem dX4_hidesLonger_23 : decode cX4_hidesLonger 23 = .ok (.getfield 32, 3) := by decide +kernel
theorem dX4_hidesLonger_26 : decode cX4_hidesLonger 26 = .ok (.ifCond .ne 30, 3) := by decide +kernel
theorem dX4_hidesLonger_29 : decode cX4_hidesLonger 29 = .ok (.aload 5, 2) := by decide +kernel
theorem dX4_hidesLonger_31 : decode cX4_hidesLonger 31 = .ok (.getfield 22, 3) := by decide +kernel
theorem dX4_hidesLonger_34 : decode cX4_hidesLonger 34 = .ok (.getfield 40, 3) := by decide +kernel
theorem dX4_hidesLonger_37 : decode cX4_hidesLonger 37 = .ok (.iload_n 3, 1) := by decide +kernel
theorem dX4_hidesLonger_38 : decode cX4_hidesLonger 38 = .ok (.if_icmp .le 18, 3) := by decide +kernel
theorem dX4_hidesLonger_41 : decode cX4_hidesLonger 41 = .ok (.aload 5, 2) := by decide +kernel
theorem dX4_hidesLonger_43 : decode cX4_hidesLonger 43 = .ok (.getfield 22, 3) := by decide +kernel
theorem dX4_hidesLonger_46 : decode cX4_hidesLonger 46 = .ok (.iload_n 1, 1) := by decide +kernel
theorem dX4_hidesLonger_47 : decode cX4_hidesLonger 47 = .ok (.iload_n 2, 1) := by decide +kernel
theorem dX4_hidesLonger_48 : decode cX4_hidesLonger 48 = .ok (.invokevirtual 57, 3) := by decide +kernel
theorem dX4_hidesLonger_51 : decode cX4_hidesLonger 51 = .ok (.ifCond .eq 5, 3) := by decide +kernel
theorem dX4_hidesLonger_54 : decode cX4_hidesLonger 54 = .ok (.iconst 1, 1) := by decide +kernel
theorem dX4_hidesLonger_55 : decode cX4_hidesLonger 55 = .ok (.ireturn, 1) := by decide +kernel
theorem dX4_hidesLonger_56 : decode cX4_hidesLonger 56 = .ok (.iinc 4 1, 3) := by decide +kernel
theorem dX4_hidesLonger_59 : decode cX4_hidesLonger 59 = .ok (.goto (-56), 3) := by decide +kernel
theorem dX4_hidesLonger_62 : decode cX4_hidesLonger 62 = .ok (.iconst 0, 1) := by decide +kernel
theorem dX4_hidesLonger_63 : decode cX4_hidesLonger 63 = .ok (.ireturn, 1) := by decide +kernel
theorem dX5_init_0 : decode cX5_init 0 = .ok (.aload_n 0, 1) := by decide +kernel
theorem dX5_init_1 : decode cX5_init 1 = .ok (.invokespecial 3, 3) := by decide +kernel
theorem dX5_init_4 : decode cX5_init 4 = .ok (.aload_n 0, 1) := by decide +kernel
theorem dX5_init_5 : decode cX5_init 5 = .ok (.bipush 8, 2) := by decide +kernel
theorem dX5_init_7 : decode cX5_init 7 = .ok (.anewarray 9, 3) := by decide +kernel
theorem dX5_init_10 : decode cX5_init 10 = .ok (.putfield 11, 3) := by decide +kernel
theorem dX5_init_13 : decode cX5_init 13 = .ok (.aload_n 0, 1) := by decide +kernel
theorem dX5_init_14 : decode cX5_init 14 = .ok (.bipush 32, 2) := by decide +kernel
theorem dX5_init_16 : decode cX5_init 16 = .ok (.newarray .boolean, 2) := by decide +kernel
theorem dX5_init_18 : decode cX5_init 18 = .ok (.putfield 17, 3) := by decide +kernel
theorem dX5_init_21 : decode cX5_init 21 = .ok (.aload_n 0, 1) := by decide +kernel
theorem dX5_init_22 : decode cX5_init 22 = .ok (.iconst 0, 1) := by decide +kernel
theorem dX5_init_23 : decode cX5_init 23 = .ok (.putfield 21, 3) := by decide +kernel
theorem dX5_init_26 : decode cX5_init 26 = .ok (.iconst 0, 1) := by decide +kernel
theorem dX5_init_27 : decode cX5_init 27 = .ok (.istore_n 1, 1) := by decide +kernel
theorem dX5_init_28 : decode cX5_init 28 = .ok (.iload_n 1, 1) := by decide +kernel
theorem dX5_init_29 : decode cX5_init 29 = .ok (.bipush 8, 2) := by decide +kernel
theorem dX5_init_31 : decode cX5_init 31 = .ok (.if_icmp .ge 22, 3) := by decide +kernel
theorem dX5_init_34 : decode cX5_init 34 = .ok (.aload_n 0, 1) := by decide +kernel
theorem dX5_init_35 : decode cX5_init 35 = .ok (.getfield 11, 3) := by decide +kernel
theorem dX5_init_38 : decode cX5_init 38 = .ok (.iload_n 1, 1) := by decide +kernel
theorem dX5_init_39 : decode cX5_init 39 = .ok (.new 9, 3) := by decide +kernel
theorem dX5_init_42 : decode cX5_init 42 = .ok (.dup, 1) := by decide +kernel
theorem dX5_init_43 : decode cX5_init 43 = .ok (.invokespecial 25, 3) := by decide +kernel
theorem dX5_init_46 : decode cX5_init 46 = .ok (.aastore, 1) := by decide +kernel
theorem dX5_init_47 : decode cX5_init 47 = .ok (.iinc 1 1, 3) := by decide +kernel
theorem dX5_init_50 : decode cX5_init 50 = .ok (.goto (-22), 3) := by decide +kernel
theorem dX5_init_53 : decode cX5_init 53 = .ok (.return_, 1) := by decide +kernel
theorem dX5_find_0 : decode cX5_find 0 = .ok (.iconst 0, 1) := by decide +kernel
theorem dX5_find_1 : decode cX5_find 1 = .ok (.istore_n 3, 1) := by decide +kernel
theorem dX5_find_2 : decode cX5_find 2 = .ok (.iload_n 3, 1) := by decide +kernel
theorem dX5_find_3 : decode cX5_find 3 = .ok (.aload_n 0, 1) := by decide +kernel
theorem dX5_find_4 : decode cX5_find 4 = .ok (.getfield 21, 3) := by decide +kernel
theorem dX5_find_7 : decode cX5_find 7 = .ok (.if_icmp .ge 48, 3) := by decide +kernel
theorem dX5_find_10 : decode cX5_find 10 = .ok (.aload_n 0, 1) := by decide +kernel
theorem dX5_find_11 : decode cX5_find 11 = .ok (.getfield 11, 3) := by decide +kernel
theorem dX5_find_14 : decode cX5_find 14 = .ok (.iload_n 3, 1) := by decide +kernel
theorem dX5_find_15 : decode cX5_find 15 = .ok (.aaload, 1) := by decide +kernel
theorem dX5_find_16 : decode cX5_find 16 = .ok (.astore 4, 2) := by decide +kernel
theorem dX5_find_18 : decode cX5_find 18 = .ok (.aload 4, 2) := by decide +kernel
theorem dX5_find_20 : decode cX5_find 20 = .ok (.getfield 26, 3) := by decide +kernel
theorem dX5_find_23 : decode cX5_find 23 = .ok (.ifCond .ne 26, 3) := by decide +kernel
theorem dX5_find_26 : decode cX5_find 26 = .ok (.aload 4, 2) := by decide +kernel
theorem dX5_find_28 : decode cX5_find 28 = .ok (.iload_n 2, 1) := by decide +kernel
theorem dX5_find_29 : decode cX5_find 29 = .ok (.invokevirtual 30, 3) := by decide +kernel
theorem dX5_find_32 : decode cX5_find 32 = .ok (.ifCond .ne 17, 3) := by decide +kernel
theorem dX5_find_35 : decode cX5_find 35 = .ok (.aload 4, 2) := by decide +kernel
theorem dX5_find_37 : decode cX5_find 37 = .ok (.getfield 34, 3) := by decide +kernel
theorem dX5_find_40 : decode cX5_find 40 = .ok (.iload_n 1, 1) := by decide +kernel
theorem dX5_find_41 : decode cX5_find 41 = .ok (.invokevirtual 38, 3) := by decide +kernel
theorem dX5_find_44 : decode cX5_find 44 = .ok (.ifCond .eq 5, 3) := by decide +kernel
theorem dX5_find_47 : decode cX5_find 47 = .ok (.iload_n 3, 1) := by decide +kernel
theorem dX5_find_48 : decode cX5_find 48 = .ok (.ireturn, 1) := by decide +kernel
theorem dX5_find_49 : decode cX5_find 49 = .ok (.iinc 3 1, 3) := by decide +kernel
theorem dX5_find_52 : decode cX5_find 52 = .ok (.goto (-50), 3) := by decide +kernel
theorem dX5_find_55 : decode cX5_find 55 = .ok (.iconst (-1), 1) := by decide +kernel
theorem dX5_find_56 : decode cX5_find 56 = .ok (.ireturn, 1) := by decide +kernel
theorem dX5_solicitMeeting_0 : decode cX5_solicitMeeting 0 = .ok (.iconst 0, 1) := by decide +kernel
theorem dX5_solicitMeeting_1 : decode cX5_solicitMeeting 1 = .ok (.istore_n 2, 1) := by decide +kernel
theorem dX5_solicitMeeting_2 : decode cX5_solicitMeeting 2 = .ok (.iconst 0, 1) := by decide +kernel
theorem dX5_solicitMeeting_3 : decode cX5_solicitMeeting 3 = .ok (.istore_n 3, 1) := by decide +kernel
theorem dX5_solicitMeeting_4 : decode cX5_solicitMeeting 4 = .ok (.iload_n 3, 1) := by decide +kernel
theorem dX5_solicitMeeting_5 : decode cX5_solicitMeeting 5 = .ok (.aload_n 0, 1) := by decide +kernel
theorem dX5_solicitMeeting_6 : decode cX5_solicitMeeting 6 = .ok (.getfield 21, 3) := by decide +kernel
theorem dX5_solicitMeeting_9 : decode cX5_solicitMeeting 9 = .ok (.if_icmp .ge 53, 3) := by decide +kernel
theorem dX5_solicitMeeting_12 : decode cX5_solicitMeeting 12 = .ok (.aload_n 0, 1) := by decide +kernel
theorem dX5_solicitMeeting_13 : decode cX5_solicitMeeting 13 = .ok (.getfield 11, 3) := by decide +kernel
theorem dX5_solicitMeeting_16 : decode cX5_solicitMeeting 16 = .ok (.iload_n 3, 1) := by decide +kernel
theorem dX5_solicitMeeting_17 : decode cX5_solicitMeeting 17 = .ok (.aaload, 1) := by decide +kernel
theorem dX5_solicitMeeting_18 : decode cX5_solicitMeeting 18 = .ok (.astore 4, 2) := by decide +kernel
theorem dX5_solicitMeeting_20 : decode cX5_solicitMeeting 20 = .ok (.aload 4, 2) := by decide +kernel
theorem dX5_solicitMeeting_22 : decode cX5_solicitMeeting 22 = .ok (.getfield 26, 3) := by decide +kernel
theorem dX5_solicitMeeting_25 : decode cX5_solicitMeeting 25 = .ok (.ifCond .ne 31, 3) := by decide +kernel
theorem dX5_solicitMeeting_28 : decode cX5_solicitMeeting 28 = .ok (.aload 4, 2) := by decide +kernel
theorem dX5_solicitMeeting_30 : decode cX5_solicitMeeting 30 = .ok (.getfield 34, 3) := by decide +kernel
theorem dX5_solicitMeeting_33 : decode cX5_solicitMeeting 33 = .ok (.aload_n 1, 1) := by decide +kernel
theorem dX5_solicitMeeting_34 : decode cX5_solicitMeeting 34 = .ok (.getfield 43, 3) := by decide +kernel
theorem dX5_solicitMeeting_37 : decode cX5_solicitMeeting 37 = .ok (.aload_n 1, 1) := by decide +kernel
theorem dX5_solicitMeeting_38 : decode cX5_solicitMeeting 38 = .ok (.getfield 46, 3) := by decide +kernel
theorem dX5_solicitMeeting_41 : decode cX5_solicitMeeting 41 = .ok (.invokevirtual 49, 3) := by decide +kernel
theorem dX5_solicitMeeting_44 : decode cX5_solicitMeeting 44 = .ok (.ifCond .eq 12, 3) := by decide +kernel
theorem dX5_solicitMeeting_47 : decode cX5_solicitMeeting 47 = .ok (.aload 4, 2) := by decide +kernel
theorem dX5_solicitMeeting_49 : decode cX5_solicitMeeting 49 = .ok (.iconst 1, 1) := by decide +kernel
theorem dX5_solicitMeeting_50 : decode cX5_solicitMeeting 50 = .ok (.putfield 26, 3) := by decide +kernel
theorem dX5_solicitMeeting_53 : decode cX5_solicitMeeting 53 = .ok (.iinc 2 1, 3) := by decide +kernel
theorem dX5_solicitMeeting_56 : decode cX5_solicitMeeting 56 = .ok (.iinc 3 1, 3) := by decide +kernel
theorem dX5_solicitMeeting_59 : decode cX5_solicitMeeting 59 = .ok (.goto (-55), 3) := by decide +kernel
theorem dX5_solicitMeeting_62 : decode cX5_solicitMeeting 62 = .ok (.iload_n 2, 1) := by decide +kernel
theorem dX5_solicitMeeting_63 : decode cX5_solicitMeeting 63 = .ok (.ireturn, 1) := by decide +kernel
theorem dX5_makeRoom_0 : decode cX5_makeRoom 0 = .ok (.aload_n 0, 1) := by decide +kernel
theorem dX5_makeRoom_1 : decode cX5_makeRoom 1 = .ok (.getfield 21, 3) := by decide +kernel
theorem dX5_makeRoom_4 : decode cX5_makeRoom 4 = .ok (.iconst 1, 1) := by decide +kernel
theorem dX5_makeRoom_5 : decode cX5_makeRoom 5 = .ok (.isub, 1) := by decide +kernel
theorem dX5_makeRoom_6 : decode cX5_makeRoom 6 = .ok (.istore_n 3, 1) := by decide +kernel
theorem dX5_makeRoom_7 : decode cX5_makeRoom 7 = .ok (.iload_n 3, 1) := by decide +kernel
theorem dX5_makeRoom_8 : decode cX5_makeRoom 8 = .ok (.ifCond .lt 31, 3) := by decide +kernel
theorem dX5_makeRoom_11 : decode cX5_makeRoom 11 = .ok (.aload_n 0, 1) := by decide +kernel
theorem dX5_makeRoom_12 : decode cX5_makeRoom 12 = .ok (.getfield 11, 3) := by decide +kernel
theorem dX5_makeRoom_15 : decode cX5_makeRoom 15 = .ok (.iload_n 3, 1) := by decide +kernel
theorem dX5_makeRoom_16 : decode cX5_makeRoom 16 = .ok (.aaload, 1) := by decide +kernel
theorem dX5_makeRoom_17 : decode cX5_makeRoom 17 = .ok (.getfield 34, 3) := by decide +kernel
theorem dX5_makeRoom_20 : decode cX5_makeRoom 20 = .ok (.iload_n 1, 1) := by decide +kernel
theorem dX5_makeRoom_21 : decode cX5_makeRoom 21 = .ok (.iload_n 2, 1) := by decide +kernel
theorem dX5_makeRoom_22 : decode cX5_makeRoom 22 = .ok (.invokevirtual 49, 3) := by decide +kernel
theorem dX5_makeRoom_25 : decode cX5_makeRoom 25 = .ok (.ifCond .eq 8, 3) := by decide +kernel
theorem dX5_makeRoom_28 : decode cX5_makeRoom 28 = .ok (.aload_n 0, 1) := by decide +kernel
theorem dX5_makeRoom_29 : decode cX5_makeRoom 29 = .ok (.iload_n 3, 1) := by decide +kernel
theorem dX5_makeRoom_30 : decode cX5_makeRoom 30 = .ok (.invokevirtual 53, 3) := by decide +kernel
theorem dX5_makeRoom_33 : decode cX5_makeRoom 33 = .ok (.iinc 3 (-1), 3) := by decide +kernel
theorem dX5_makeRoom_36 : decode cX5_makeRoom 36 = .ok (.goto (-29), 3) := by decide +kernel
theorem dX5_makeRoom_39 : decode cX5_makeRoom 39 = .ok (.aload_n 0, 1) := by decide +kernel
theorem dX5_makeRoom_40 : decode cX5_makeRoom 40 = .ok (.getfield 21, 3) := by decide +kernel
theorem dX5_makeRoom_43 : decode cX5_makeRoom 43 = .ok (.bipush 8, 2) := by decide +kernel
theorem dX5_makeRoom_45 : decode cX5_makeRoom 45 = .ok (.if_icmp .lt 8, 3) := by decide +kernel
theorem dX5_makeRoom_48 : decode cX5_makeRoom 48 = .ok (.aload_n 0, 1) := by decide +kernel
theorem dX5_makeRoom_49 : decode cX5_makeRoom 49 = .ok (.iconst 0, 1) := by decide +kernel
theorem dX5_makeRoom_50 : decode cX5_makeRoom 50 = .ok (.invokevirtual 53, 3) := by decide +kernel
theorem dX5_makeRoom_53 : decode cX5_makeRoom 53 = .ok (.aload_n 0, 1) := by decide +kernel
theorem dX5_makeRoom_54 : decode cX5_makeRoom 54 = .ok (.dup, 1) := by decide +kernel
theorem dX5_makeRoom_55 : decode cX5_makeRoom 55 = .ok (.getfield 21, 3) := by decide +kernel
theorem dX5_makeRoom_58 : decode cX5_makeRoom 58 = .ok (.iconst 1, 1) := by decide +kernel
theorem dX5_makeRoom_59 : decode cX5_makeRoom 59 = .ok (.iadd, 1) := by decide +kernel
theorem dX5_makeRoom_60 : decode cX5_makeRoom 60 = .ok (.putfield 21, 3) := by decide +kernel
theorem dX5_makeRoom_63 : decode cX5_makeRoom 63 = .ok (.aload_n 0, 1) := by decide +kernel
theorem dX5_makeRoom_64 : decode cX5_makeRoom 64 = .ok (.getfield 21, 3) := by decide +kernel
theorem dX5_makeRoom_67 : decode cX5_makeRoom 67 = .ok (.iconst 1, 1) := by decide +kernel
theorem dX5_makeRoom_68 : decode cX5_makeRoom 68 = .ok (.isub, 1) := by decide +kernel
theorem dX5_makeRoom_69 : decode cX5_makeRoom 69 = .ok (.ireturn, 1) := by decide +kernel
theorem dX5_takeOut_0 : decode cX5_takeOut 0 = .ok (.aload_n 0, 1) := by decide +kernel
theorem dX5_takeOut_1 : decode cX5_takeOut 1 = .ok (.iload_n 1, 1) := by decide +kernel
theorem dX5_takeOut_2 : decode cX5_takeOut 2 = .ok (.invokevirtual 57, 3) := by decide +kernel
theorem dX5_takeOut_5 : decode cX5_takeOut 5 = .ok (.pop, 1) := by decide +kernel
theorem dX5_takeOut_6 : decode cX5_takeOut 6 = .ok (.aload_n 0, 1) := by decide +kernel
theorem dX5_takeOut_7 : decode cX5_takeOut 7 = .ok (.dup, 1) := by decide +kernel
theorem dX5_takeOut_8 : decode cX5_takeOut 8 = .ok (.getfield 21, 3) := by decide +kernel
theorem dX5_takeOut_11 : decode cX5_takeOut 11 = .ok (.iconst 1, 1) := by decide +kernel
theorem dX5_takeOut_12 : decode cX5_takeOut 12 = .ok (.isub, 1) := by decide +kernel
theorem dX5_takeOut_13 : decode cX5_takeOut 13 = .ok (.putfield 21, 3) := by decide +kernel
theorem dX5_takeOut_16 : decode cX5_takeOut 16 = .ok (.return_, 1) := by decide +kernel
theorem dX5_moveToEnd_0 : decode cX5_moveToEnd 0 = .ok (.aload_n 0, 1) := by decide +kernel
theorem dX5_moveToEnd_1 : decode cX5_moveToEnd 1 = .ok (.getfield 11, 3) := by decide +kernel
theorem dX5_moveToEnd_4 : decode cX5_moveToEnd 4 = .ok (.iload_n 1, 1) := by decide +kernel
theorem dX5_moveToEnd_5 : decode cX5_moveToEnd 5 = .ok (.aaload, 1) := by decide +kernel
theorem dX5_moveToEnd_6 : decode cX5_moveToEnd 6 = .ok (.astore_n 2, 1) := by decide +kernel
theorem dX5_moveToEnd_7 : decode cX5_moveToEnd 7 = .ok (.iload_n 1, 1) := by decide +kernel
theorem dX5_moveToEnd_8 : decode cX5_moveToEnd 8 = .ok (.istore_n 3, 1) := by decide +kernel
theorem dX5_moveToEnd_9 : decode cX5_moveToEnd 9 = .ok (.iload_n 3, 1) := by decide +kernel
theorem dX5_moveToEnd_10 : decode cX5_moveToEnd 10 = .ok (.aload_n 0, 1) := by decide +kernel
theorem dX5_moveToEnd_11 : decode cX5_moveToEnd 11 = .ok (.getfield 21, 3) := by decide +kernel
theorem dX5_moveToEnd_14 : decode cX5_moveToEnd 14 = .ok (.iconst 1, 1) := by decide +kernel
theorem dX5_moveToEnd_15 : decode cX5_moveToEnd 15 = .ok (.isub, 1) := by decide +kernel
theorem dX5_moveToEnd_16 : decode cX5_moveToEnd 16 = .ok (.if_icmp .ge 32, 3) := by decide +kernel
theorem dX5_moveToEnd_19 : decode cX5_moveToEnd 19 = .ok (.aload_n 0, 1) := by decide +kernel
theorem dX5_moveToEnd_20 : decode cX5_moveToEnd 20 = .ok (.getfield 11, 3) := by decide +kernel
theorem dX5_moveToEnd_23 : decode cX5_moveToEnd 23 = .ok (.iload_n 3, 1) := by decide +kernel
theorem dX5_moveToEnd_24 : decode cX5_moveToEnd 24 = .ok (.aload_n 0, 1) := by decide +kernel
theorem dX5_moveToEnd_25 : decode cX5_moveToEnd 25 = .ok (.getfield 11, 3) := by decide +kernel
theorem dX5_moveToEnd_28 : decode cX5_moveToEnd 28 = .ok (.iload_n 3, 1) := by decide +kernel
theorem dX5_moveToEnd_29 : decode cX5_moveToEnd 29 = .ok (.iconst 1, 1) := by decide +kernel
theorem dX5_moveToEnd_30 : decode cX5_moveToEnd 30 = .ok (.iadd, 1) := by decide +kernel
theorem dX5_moveToEnd_31 : decode cX5_moveToEnd 31 = .ok (.aaload, 1) := by decide +kernel
theorem dX5_moveToEnd_32 : decode cX5_moveToEnd 32 = .ok (.aastore, 1) := by decide +kernel
theorem dX5_moveToEnd_33 : decode cX5_moveToEnd 33 = .ok (.aload_n 0, 1) := by decide +kernel
theorem dX5_moveToEnd_34 : decode cX5_moveToEnd 34 = .ok (.getfield 11, 3) := by decide +kernel
theorem dX5_moveToEnd_37 : decode cX5_moveToEnd 37 = .ok (.iload_n 3, 1) := by decide +kernel
theorem dX5_moveToEnd_38 : decode cX5_moveToEnd 38 = .ok (.iconst 1, 1) := by decide +kernel
theorem dX5_moveToEnd_39 : decode cX5_moveToEnd 39 = .ok (.iadd, 1) := by decide +kernel
theorem dX5_moveToEnd_40 : decode cX5_moveToEnd 40 = .ok (.aload_n 2, 1) := by decide +kernel
theorem dX5_moveToEnd_41 : decode cX5_moveToEnd 41 = .ok (.aastore, 1) := by decide +kernel
theorem dX5_moveToEnd_42 : decode cX5_moveToEnd 42 = .ok (.iinc 3 1, 3) := by decide +kernel
theorem dX5_moveToEnd_45 : decode cX5_moveToEnd 45 = .ok (.goto (-36), 3) := by decide +kernel
theorem dX5_moveToEnd_48 : decode cX5_moveToEnd 48 = .ok (.aload_n 2, 1) := by decide +kernel
theorem dX5_moveToEnd_49 : decode cX5_moveToEnd 49 = .ok (.areturn, 1) := by decide +kernel
theorem dX5_countUnreachable_0 : decode cX5_countUnreachable 0 = .ok (.iconst 0, 1) := by decide +kernel
theorem dX5_countUnreachable_1 : decode cX5_countUnreachable 1 = .ok (.istore_n 1, 1) := by decide +kernel
theorem dX5_countUnreachable_2 : decode cX5_countUnreachable 2 = .ok (.iconst 0, 1) := by decide +kernel
theorem dX5_countUnreachable_3 : decode cX5_countUnreachable 3 = .ok (.istore_n 2, 1) := by decide +kernel
theorem dX5_countUnreachable_4 : decode cX5_countUnreachable 4 = .ok (.iload_n 2, 1) := by decide +kernel
theorem dX5_countUnreachable_5 : decode cX5_countUnreachable 5 = .ok (.bipush 32, 2) := by decide +kernel
theorem dX5_countUnreachable_7 : decode cX5_countUnreachable 7 = .ok (.if_icmp .ge 21, 3) := by decide +kernel
theorem dX5_countUnreachable_10 : decode cX5_countUnreachable 10 = .ok (.aload_n 0, 1) := by decide +kernel
theorem dX5_countUnreachable_11 : decode cX5_countUnreachable 11 = .ok (.getfield 17, 3) := by decide +kernel
theorem dX5_countUnreachable_14 : decode cX5_countUnreachable 14 = .ok (.iload_n 2, 1) := by decide +kernel
theorem dX5_countUnreachable_15 : decode cX5_countUnreachable 15 = .ok (.baload, 1) := by decide +kernel
theorem dX5_countUnreachable_16 : decode cX5_countUnreachable 16 = .ok (.ifCond .eq 6, 3) := by decide +kernel
theorem dX5_countUnreachable_19 : decode cX5_countUnreachable 19 = .ok (.iinc 1 1, 3) := by decide +kernel
theorem dX5_countUnreachable_22 : decode cX5_countUnreachable 22 = .ok (.iinc 2 1, 3) := by decide +kernel
theorem dX5_countUnreachable_25 : decode cX5_countUnreachable 25 = .ok (.goto (-21), 3) := by decide +kernel
theorem dX5_countUnreachable_28 : decode cX5_countUnreachable 28 = .ok (.iload_n 1, 1) := by decide +kernel
theorem dX5_countUnreachable_29 : decode cX5_countUnreachable 29 = .ok (.ireturn, 1) := by decide +kernel
theorem dX6_init_0 : decode cX6_init 0 = .ok (.aload_n 0, 1) := by decide +kernel
theorem dX6_init_1 : decode cX6_init 1 = .ok (.invokespecial 3, 3) := by decide +kernel
theorem dX6_init_4 : decode cX6_init 4 = .ok (.aload_n 0, 1) := by decide +kernel
theorem dX6_init_5 : decode cX6_init 5 = .ok (.iconst 4, 1) := by decide +kernel
theorem dX6_init_6 : decode cX6_init 6 = .ok (.newarray .boolean, 2) := by decide +kernel
theorem dX6_init_8 : decode cX6_init 8 = .ok (.putfield 9, 3) := by decide +kernel
theorem dX6_init_11 : decode cX6_init 11 = .ok (.aload_n 0, 1) := by decide +kernel
theorem dX6_init_12 : decode cX6_init 12 = .ok (.iconst 4, 1) := by decide +kernel
theorem dX6_init_13 : decode cX6_init 13 = .ok (.newarray .int, 2) := by decide +kernel
theorem dX6_init_15 : decode cX6_init 15 = .ok (.putfield 15, 3) := by decide +kernel
theorem dX6_init_18 : decode cX6_init 18 = .ok (.aload_n 0, 1) := by decide +kernel
theorem dX6_init_19 : decode cX6_init 19 = .ok (.bipush 12, 2) := by decide +kernel
theorem dX6_init_21 : decode cX6_init 21 = .ok (.anewarray 19, 3) := by decide +kernel
theorem dX6_init_24 : decode cX6_init 24 = .ok (.putfield 21, 3) := by decide +kernel
theorem dX6_init_27 : decode cX6_init 27 = .ok (.aload_n 0, 1) := by decide +kernel
theorem dX6_init_28 : decode cX6_init 28 = .ok (.bipush 12, 2) := by decide +kernel
theorem dX6_init_30 : decode cX6_init 30 = .ok (.newarray .int, 2) := by decide +kernel
theorem dX6_init_32 : decode cX6_init 32 = .ok (.putfield 25, 3) := by decide +kernel
theorem dX6_init_35 : decode cX6_init 35 = .ok (.aload_n 0, 1) := by decide +kernel
theorem dX6_init_36 : decode cX6_init 36 = .ok (.iconst 0, 1) := by decide +kernel
theorem dX6_init_37 : decode cX6_init 37 = .ok (.putfield 28, 3) := by decide +kernel
theorem dX6_init_40 : decode cX6_init 40 = .ok (.iconst 0, 1) := by decide +kernel
theorem dX6_init_41 : decode cX6_init 41 = .ok (.istore_n 1, 1) := by decide +kernel
theorem dX6_init_42 : decode cX6_init 42 = .ok (.iload_n 1, 1) := by decide +kernel
theorem dX6_init_43 : decode cX6_init 43 = .ok (.bipush 12, 2) := by decide +kernel
theorem dX6_init_45 : decode cX6_init 45 = .ok (.if_icmp .ge 22, 3) := by decide +kernel
theorem dX6_init_48 : decode cX6_init 48 = .ok (.aload_n 0, 1) := by decide +kernel
theorem dX6_init_49 : decode cX6_init 49 = .ok (.getfield 21, 3) := by decide +kernel
theorem dX6_init_52 : decode cX6_init 52 = .ok (.iload_n 1, 1) := by decide +kernel
theorem dX6_init_53 : decode cX6_init 53 = .ok (.new 19, 3) := by decide +kernel
theorem dX6_init_56 : decode cX6_init 56 = .ok (.dup, 1) := by decide +kernel
theorem dX6_init_57 : decode cX6_init 57 = .ok (.invokespecial 32, 3) := by decide +kernel
theorem dX6_init_60 : decode cX6_init 60 = .ok (.aastore, 1) := by decide +kernel
theorem dX6_init_61 : decode cX6_init 61 = .ok (.iinc 1 1, 3) := by decide +kernel
theorem dX6_init_64 : decode cX6_init 64 = .ok (.goto (-22), 3) := by decide +kernel
theorem dX6_init_67 : decode cX6_init 67 = .ok (.return_, 1) := by decide +kernel
theorem dX6_placeOf_0 : decode cX6_placeOf 0 = .ok (.iconst 0, 1) := by decide +kernel
theorem dX6_placeOf_1 : decode cX6_placeOf 1 = .ok (.istore_n 3, 1) := by decide +kernel
theorem dX6_placeOf_2 : decode cX6_placeOf 2 = .ok (.iload_n 3, 1) := by decide +kernel
theorem dX6_placeOf_3 : decode cX6_placeOf 3 = .ok (.aload_n 0, 1) := by decide +kernel
theorem dX6_placeOf_4 : decode cX6_placeOf 4 = .ok (.getfield 28, 3) := by decide +kernel
theorem dX6_placeOf_7 : decode cX6_placeOf 7 = .ok (.if_icmp .ge 25, 3) := by decide +kernel
theorem dX6_placeOf_10 : decode cX6_placeOf 10 = .ok (.aload_n 0, 1) := by decide +kernel
theorem dX6_placeOf_11 : decode cX6_placeOf 11 = .ok (.getfield 21, 3) := by decide +kernel
theorem dX6_placeOf_14 : decode cX6_placeOf 14 = .ok (.iload_n 3, 1) := by decide +kernel
theorem dX6_placeOf_15 : decode cX6_placeOf 15 = .ok (.aaload, 1) := by decide +kernel
theorem dX6_placeOf_16 : decode cX6_placeOf 16 = .ok (.iload_n 1, 1) := by decide +kernel
theorem dX6_placeOf_17 : decode cX6_placeOf 17 = .ok (.iload_n 2, 1) := by decide +kernel
theorem dX6_placeOf_18 : decode cX6_placeOf 18 = .ok (.invokevirtual 33, 3) := by decide +kernel
theorem dX6_placeOf_21 : decode cX6_placeOf 21 = .ok (.ifCond .eq 5, 3) := by decide +kernel
theorem dX6_placeOf_24 : decode cX6_placeOf 24 = .ok (.iload_n 3, 1) := by decide +kernel
theorem dX6_placeOf_25 : decode cX6_placeOf 25 = .ok (.ireturn, 1) := by decide +kernel
theorem dX6_placeOf_26 : decode cX6_placeOf 26 = .ok (.iinc 3 1, 3) := by decide +kernel
theorem dX6_placeOf_29 : decode cX6_placeOf 29 = .ok (.goto (-27), 3) := by decide +kernel
theorem dX6_placeOf_32 : decode cX6_placeOf 32 = .ok (.iconst (-1), 1) := by decide +kernel
theorem dX6_placeOf_33 : decode cX6_placeOf 33 = .ok (.ireturn, 1) := by decide +kernel
theorem dX6_add_0 : decode cX6_add 0 = .ok (.aload_n 0, 1) := by decide +kernel
theorem dX6_add_1 : decode cX6_add 1 = .ok (.getfield 21, 3) := by decide +kernel
theorem dX6_add_4 : decode cX6_add 4 = .ok (.aload_n 0, 1) := by decide +kernel
theorem dX6_add_5 : decode cX6_add 5 = .ok (.getfield 28, 3) := by decide +kernel
theorem dX6_add_8 : decode cX6_add 8 = .ok (.aaload, 1) := by decide +kernel
theorem dX6_add_9 : decode cX6_add 9 = .ok (.iload_n 1, 1) := by decide +kernel
theorem dX6_add_10 : decode cX6_add 10 = .ok (.iload_n 2, 1) := by decide +kernel
theorem dX6_add_11 : decode cX6_add 11 = .ok (.invokevirtual 37, 3) := by decide +kernel
theorem dX6_add_14 : decode cX6_add 14 = .ok (.aload_n 0, 1) := by decide +kernel
theorem dX6_add_15 : decode cX6_add 15 = .ok (.getfield 25, 3) := by decide +kernel
theorem dX6_add_18 : decode cX6_add 18 = .ok (.aload_n 0, 1) := by decide +kernel
theorem dX6_add_19 : decode cX6_add 19 = .ok (.getfield 28, 3) := by decide +kernel
theorem dX6_add_22 : decode cX6_add 22 = .ok (.iload_n 3, 1) := by decide +kernel
theorem dX6_add_23 : decode cX6_add 23 = .ok (.iastore, 1) := by decide +kernel
theorem dX6_add_24 : decode cX6_add 24 = .ok (.aload_n 0, 1) := by decide +kernel
theorem dX6_add_25 : decode cX6_add 25 = .ok (.dup, 1) := by decide +kernel
theorem dX6_add_26 : decode cX6_add 26 = .ok (.getfield 28, 3) := by decide +kernel
end
section
theorem dX6_add_29 : decode cX6_add 29 = .ok (.iconst 1, 1) := by decide +kernel
theorem dX6_add_30 : decode cX6_add 30 = .ok (.iadd, 1) := by decide +kernel
theorem dX6_add_31 : decode cX6_add 31 = .ok (.putfield 28, 3) := by decide +kernel
theorem dX6_add_34 : decode cX6_add 34 = .ok (.return_, 1) := by decide +kernel
theorem dX6_find_0 : decode cX6_find 0 = .ok (.iconst 0, 1) := by decide +kernel
theorem dX6_find_1 : decode cX6_find 1 = .ok (.istore_n 2, 1) := by decide +kernel
theorem dX6_find_2 : decode cX6_find 2 = .ok (.iconst (-1), 1) := by decide +kernel
theorem dX6_find_3 : decode cX6_find 3 = .ok (.istore_n 3, 1) := by decide +kernel
theorem dX6_find_4 : decode cX6_find 4 = .ok (.iconst 0, 1) := by decide +kernel
theorem dX6_find_5 : decode cX6_find 5 = .ok (.istore 4, 2) := by decide +kernel
theorem dX6_find_7 : decode cX6_find 7 = .ok (.iload 4, 2) := by decide +kernel
theorem dX6_find_9 : decode cX6_find 9 = .ok (.aload_n 0, 1) := by decide +kernel
theorem dX6_find_10 : decode cX6_find 10 = .ok (.getfield 28, 3) := by decide +kernel
theorem dX6_find_13 : decode cX6_find 13 = .ok (.if_icmp .ge 56, 3) := by decide +kernel
theorem dX6_find_16 : decode cX6_find 16 = .ok (.aload_n 0, 1) := by decide +kernel
theorem dX6_find_17 : decode cX6_find 17 = .ok (.getfield 21, 3) := by decide +kernel
theorem dX6_find_20 : decode cX6_find 20 = .ok (.iload 4, 2) := by decide +kernel
theorem dX6_find_22 : decode cX6_find 22 = .ok (.aaload, 1) := by decide +kernel
theorem dX6_find_23 : decode cX6_find 23 = .ok (.getfield 41, 3) := by decide +kernel
theorem dX6_find_26 : decode cX6_find 26 = .ok (.iload_n 3, 1) := by decide +kernel
theorem dX6_find_27 : decode cX6_find 27 = .ok (.if_icmp .le 36, 3) := by decide +kernel
theorem dX6_find_30 : decode cX6_find 30 = .ok (.aload_n 0, 1) := by decide +kernel
theorem dX6_find_31 : decode cX6_find 31 = .ok (.getfield 21, 3) := by decide +kernel
theorem dX6_find_34 : decode cX6_find 34 = .ok (.iload 4, 2) := by decide +kernel
theorem dX6_find_36 : decode cX6_find 36 = .ok (.aaload, 1) := by decide +kernel
theorem dX6_find_37 : decode cX6_find 37 = .ok (.iload_n 1, 1) := by decide +kernel
theorem dX6_find_38 : decode cX6_find 38 = .ok (.invokevirtual 44, 3) := by decide +kernel
theorem dX6_find_41 : decode cX6_find 41 = .ok (.ifCond .eq 22, 3) := by decide +kernel
theorem dX6_find_44 : decode cX6_find 44 = .ok (.aload_n 0, 1) := by decide +kernel
theorem dX6_find_45 : decode cX6_find 45 = .ok (.getfield 25, 3) := by decide +kernel
theorem dX6_find_48 : decode cX6_find 48 = .ok (.iload 4, 2) := by decide +kernel
theorem dX6_find_50 : decode cX6_find 50 = .ok (.iaload, 1) := by decide +kernel
theorem dX6_find_51 : decode cX6_find 51 = .ok (.istore_n 2, 1) := by decide +kernel
theorem dX6_find_52 : decode cX6_find 52 = .ok (.aload_n 0, 1) := by decide +kernel
theorem dX6_find_53 : decode cX6_find 53 = .ok (.getfield 21, 3) := by decide +kernel
theorem dX6_find_56 : decode cX6_find 56 = .ok (.iload 4, 2) := by decide +kernel
theorem dX6_find_58 : decode cX6_find 58 = .ok (.aaload, 1) := by decide +kernel
theorem dX6_find_59 : decode cX6_find 59 = .ok (.getfield 41, 3) := by decide +kernel
theorem dX6_find_62 : decode cX6_find 62 = .ok (.istore_n 3, 1) := by decide +kernel
theorem dX6_find_63 : decode cX6_find 63 = .ok (.iinc 4 1, 3) := by decide +kernel
theorem dX6_find_66 : decode cX6_find 66 = .ok (.goto (-59), 3) := by decide +kernel
theorem dX6_find_69 : decode cX6_find 69 = .ok (.iload_n 2, 1) := by decide +kernel
theorem dX6_find_70 : decode cX6_find 70 = .ok (.ireturn, 1) := by decide +kernel
theorem dX7_init_0 : decode cX7_init 0 = .ok (.aload_n 0, 1) := by decide +kernel
theorem dX7_init_1 : decode cX7_init 1 = .ok (.invokespecial 3, 3) := by decide +kernel
theorem dX7_init_4 : decode cX7_init 4 = .ok (.aload_n 0, 1) := by decide +kernel
theorem dX7_init_5 : decode cX7_init 5 = .ok (.new 9, 3) := by decide +kernel
theorem dX7_init_8 : decode cX7_init 8 = .ok (.dup, 1) := by decide +kernel
theorem dX7_init_9 : decode cX7_init 9 = .ok (.invokespecial 11, 3) := by decide +kernel
theorem dX7_init_12 : decode cX7_init 12 = .ok (.putfield 12, 3) := by decide +kernel
theorem dX7_init_15 : decode cX7_init 15 = .ok (.aload_n 0, 1) := by decide +kernel
theorem dX7_init_16 : decode cX7_init 16 = .ok (.new 16, 3) := by decide +kernel
theorem dX7_init_19 : decode cX7_init 19 = .ok (.dup, 1) := by decide +kernel
theorem dX7_init_20 : decode cX7_init 20 = .ok (.invokespecial 18, 3) := by decide +kernel
theorem dX7_init_23 : decode cX7_init 23 = .ok (.putfield 19, 3) := by decide +kernel
theorem dX7_init_26 : decode cX7_init 26 = .ok (.aload_n 0, 1) := by decide +kernel
theorem dX7_init_27 : decode cX7_init 27 = .ok (.iconst 3, 1) := by decide +kernel
theorem dX7_init_28 : decode cX7_init 28 = .ok (.anewarray 23, 3) := by decide +kernel
theorem dX7_init_31 : decode cX7_init 31 = .ok (.putfield 25, 3) := by decide +kernel
theorem dX7_init_34 : decode cX7_init 34 = .ok (.aload_n 0, 1) := by decide +kernel
theorem dX7_init_35 : decode cX7_init 35 = .ok (.iconst 0, 1) := by decide +kernel
theorem dX7_init_36 : decode cX7_init 36 = .ok (.putfield 29, 3) := by decide +kernel
theorem dX7_init_39 : decode cX7_init 39 = .ok (.aload_n 0, 1) := by decide +kernel
theorem dX7_init_40 : decode cX7_init 40 = .ok (.bipush 100, 2) := by decide +kernel
theorem dX7_init_42 : decode cX7_init 42 = .ok (.putfield 33, 3) := by decide +kernel
theorem dX7_init_45 : decode cX7_init 45 = .ok (.aload_n 0, 1) := by decide +kernel
theorem dX7_init_46 : decode cX7_init 46 = .ok (.bipush 20, 2) := by decide +kernel
theorem dX7_init_48 : decode cX7_init 48 = .ok (.putfield 36, 3) := by decide +kernel
theorem dX7_init_51 : decode cX7_init 51 = .ok (.aload_n 0, 1) := by decide +kernel
theorem dX7_init_52 : decode cX7_init 52 = .ok (.iconst 0, 1) := by decide +kernel
theorem dX7_init_53 : decode cX7_init 53 = .ok (.putfield 39, 3) := by decide +kernel
theorem dX7_init_56 : decode cX7_init 56 = .ok (.iconst 0, 1) := by decide +kernel
theorem dX7_init_57 : decode cX7_init 57 = .ok (.istore_n 1, 1) := by decide +kernel
theorem dX7_init_58 : decode cX7_init 58 = .ok (.iload_n 1, 1) := by decide +kernel
theorem dX7_init_59 : decode cX7_init 59 = .ok (.iconst 3, 1) := by decide +kernel
theorem dX7_init_60 : decode cX7_init 60 = .ok (.if_icmp .ge 22, 3) := by decide +kernel
theorem dX7_init_63 : decode cX7_init 63 = .ok (.aload_n 0, 1) := by decide +kernel
theorem dX7_init_64 : decode cX7_init 64 = .ok (.getfield 25, 3) := by decide +kernel
theorem dX7_init_67 : decode cX7_init 67 = .ok (.iload_n 1, 1) := by decide +kernel
theorem dX7_init_68 : decode cX7_init 68 = .ok (.new 23, 3) := by decide +kernel
theorem dX7_init_71 : decode cX7_init 71 = .ok (.dup, 1) := by decide +kernel
theorem dX7_init_72 : decode cX7_init 72 = .ok (.invokespecial 42, 3) := by decide +kernel
theorem dX7_init_75 : decode cX7_init 75 = .ok (.aastore, 1) := by decide +kernel
theorem dX7_init_76 : decode cX7_init 76 = .ok (.iinc 1 1, 3) := by decide +kernel
theorem dX7_init_79 : decode cX7_init 79 = .ok (.goto (-21), 3) := by decide +kernel
theorem dX7_init_82 : decode cX7_init 82 = .ok (.return_, 1) := by decide +kernel
theorem dX7_register_0 : decode cX7_register 0 = .ok (.iload_n 1, 1) := by decide +kernel
theorem dX7_register_1 : decode cX7_register 1 = .ok (.iload_n 2, 1) := by decide +kernel
theorem dX7_register_2 : decode cX7_register 2 = .ok (.invokestatic 43, 3) := by decide +kernel
theorem dX7_register_5 : decode cX7_register 5 = .ok (.aload_n 0, 1) := by decide +kernel
theorem dX7_register_6 : decode cX7_register 6 = .ok (.getfield 12, 3) := by decide +kernel
theorem dX7_register_9 : decode cX7_register 9 = .ok (.getfield 47, 3) := by decide +kernel
theorem dX7_register_12 : decode cX7_register 12 = .ok (.bipush 24, 2) := by decide +kernel
theorem dX7_register_14 : decode cX7_register 14 = .ok (.if_icmp .ge 15, 3) := by decide +kernel
theorem dX7_register_17 : decode cX7_register 17 = .ok (.aload_n 0, 1) := by decide +kernel
theorem dX7_register_18 : decode cX7_register 18 = .ok (.getfield 12, 3) := by decide +kernel
theorem dX7_register_21 : decode cX7_register 21 = .ok (.iload_n 1, 1) := by decide +kernel
theorem dX7_register_22 : decode cX7_register 22 = .ok (.iload_n 2, 1) := by decide +kernel
theorem dX7_register_23 : decode cX7_register 23 = .ok (.invokevirtual 50, 3) := by decide +kernel
theorem dX7_register_26 : decode cX7_register 26 = .ok (.ifCond .eq 13, 3) := by decide +kernel
theorem dX7_register_29 : decode cX7_register 29 = .ok (.new 54, 3) := by decide +kernel
theorem dX7_register_32 : decode cX7_register 32 = .ok (.dup, 1) := by decide +kernel
theorem dX7_register_33 : decode cX7_register 33 = .ok (.ldc 56, 2) := by decide +kernel
theorem dX7_register_35 : decode cX7_register 35 = .ok (.invokespecial 58, 3) := by decide +kernel
theorem dX7_register_38 : decode cX7_register 38 = .ok (.athrow, 1) := by decide +kernel
theorem dX7_register_39 : decode cX7_register 39 = .ok (.aload_n 0, 1) := by decide +kernel
theorem dX7_register_40 : decode cX7_register 40 = .ok (.getfield 12, 3) := by decide +kernel
theorem dX7_register_43 : decode cX7_register 43 = .ok (.iload_n 1, 1) := by decide +kernel
theorem dX7_register_44 : decode cX7_register 44 = .ok (.iload_n 2, 1) := by decide +kernel
theorem dX7_register_45 : decode cX7_register 45 = .ok (.invokevirtual 61, 3) := by decide +kernel
theorem dX7_register_48 : decode cX7_register 48 = .ok (.istore_n 3, 1) := by decide +kernel
theorem dX7_register_49 : decode cX7_register 49 = .ok (.aload_n 0, 1) := by decide +kernel
theorem dX7_register_50 : decode cX7_register 50 = .ok (.aload_n 0, 1) := by decide +kernel
theorem dX7_register_51 : decode cX7_register 51 = .ok (.getfield 12, 3) := by decide +kernel
theorem dX7_register_54 : decode cX7_register 54 = .ok (.getfield 65, 3) := by decide +kernel
theorem dX7_register_57 : decode cX7_register 57 = .ok (.iload_n 3, 1) := by decide +kernel
theorem dX7_register_58 : decode cX7_register 58 = .ok (.aaload, 1) := by decide +kernel
theorem dX7_register_59 : decode cX7_register 59 = .ok (.getfield 69, 3) := by decide +kernel
theorem dX7_register_62 : decode cX7_register 62 = .ok (.invokevirtual 75, 3) := by decide +kernel
theorem dX7_register_65 : decode cX7_register 65 = .ok (.iload_n 3, 1) := by decide +kernel
theorem dX7_register_66 : decode cX7_register 66 = .ok (.ireturn, 1) := by decide +kernel
theorem dX7_withdraw_0 : decode cX7_withdraw 0 = .ok (.aload_n 0, 1) := by decide +kernel
theorem dX7_withdraw_1 : decode cX7_withdraw 1 = .ok (.iload_n 1, 1) := by decide +kernel
theorem dX7_withdraw_2 : decode cX7_withdraw 2 = .ok (.invokevirtual 79, 3) := by decide +kernel
theorem dX7_withdraw_5 : decode cX7_withdraw 5 = .ok (.astore_n 2, 1) := by decide +kernel
theorem dX7_withdraw_6 : decode cX7_withdraw 6 = .ok (.aload_n 2, 1) := by decide +kernel
theorem dX7_withdraw_7 : decode cX7_withdraw 7 = .ok (.invokestatic 83, 3) := by decide +kernel
theorem dX7_withdraw_10 : decode cX7_withdraw 10 = .ok (.aload_n 2, 1) := by decide +kernel
theorem dX7_withdraw_11 : decode cX7_withdraw 11 = .ok (.iconst 1, 1) := by decide +kernel
theorem dX7_withdraw_12 : decode cX7_withdraw 12 = .ok (.putfield 87, 3) := by decide +kernel
theorem dX7_withdraw_15 : decode cX7_withdraw 15 = .ok (.aload_n 0, 1) := by decide +kernel
theorem dX7_withdraw_16 : decode cX7_withdraw 16 = .ok (.aload_n 2, 1) := by decide +kernel
theorem dX7_withdraw_17 : decode cX7_withdraw 17 = .ok (.getfield 69, 3) := by decide +kernel
theorem dX7_withdraw_20 : decode cX7_withdraw 20 = .ok (.invokevirtual 75, 3) := by decide +kernel
theorem dX7_withdraw_23 : decode cX7_withdraw 23 = .ok (.aload_n 0, 1) := by decide +kernel
theorem dX7_withdraw_24 : decode cX7_withdraw 24 = .ok (.getfield 12, 3) := by decide +kernel
theorem dX7_withdraw_27 : decode cX7_withdraw 27 = .ok (.invokevirtual 91, 3) := by decide +kernel
theorem dX7_withdraw_30 : decode cX7_withdraw 30 = .ok (.ireturn, 1) := by decide +kernel
theorem dX7_addLocator_0 : decode cX7_addLocator 0 = .ok (.aload_n 0, 1) := by decide +kernel
theorem dX7_addLocator_1 : decode cX7_addLocator 1 = .ok (.iload_n 1, 1) := by decide +kernel
theorem dX7_addLocator_2 : decode cX7_addLocator 2 = .ok (.invokevirtual 79, 3) := by decide +kernel
theorem dX7_addLocator_5 : decode cX7_addLocator 5 = .ok (.astore 5, 2) := by decide +kernel
theorem dX7_addLocator_7 : decode cX7_addLocator 7 = .ok (.iload_n 2, 1) := by decide +kernel
theorem dX7_addLocator_8 : decode cX7_addLocator 8 = .ok (.invokestatic 95, 3) := by decide +kernel
theorem dX7_addLocator_11 : decode cX7_addLocator 11 = .ok (.iload_n 3, 1) := by decide +kernel
theorem dX7_addLocator_12 : decode cX7_addLocator 12 = .ok (.iconst 0, 1) := by decide +kernel
theorem dX7_addLocator_13 : decode cX7_addLocator 13 = .ok (.iconst 3, 1) := by decide +kernel
theorem dX7_addLocator_14 : decode cX7_addLocator 14 = .ok (.invokestatic 99, 3) := by decide +kernel
theorem dX7_addLocator_17 : decode cX7_addLocator 17 = .ok (.iload 4, 2) := by decide +kernel
theorem dX7_addLocator_19 : decode cX7_addLocator 19 = .ok (.iconst 1, 1) := by decide +kernel
theorem dX7_addLocator_20 : decode cX7_addLocator 20 = .ok (.bipush 10, 2) := by decide +kernel
theorem dX7_addLocator_22 : decode cX7_addLocator 22 = .ok (.invokestatic 99, 3) := by decide +kernel
theorem dX7_addLocator_25 : decode cX7_addLocator 25 = .ok (.aload 5, 2) := by decide +kernel
theorem dX7_addLocator_27 : decode cX7_addLocator 27 = .ok (.invokestatic 83, 3) := by decide +kernel
theorem dX7_addLocator_30 : decode cX7_addLocator 30 = .ok (.aload 5, 2) := by decide +kernel
theorem dX7_addLocator_32 : decode cX7_addLocator 32 = .ok (.getfield 103, 3) := by decide +kernel
theorem dX7_addLocator_35 : decode cX7_addLocator 35 = .ok (.astore 6, 2) := by decide +kernel
theorem dX7_addLocator_37 : decode cX7_addLocator 37 = .ok (.aload 6, 2) := by decide +kernel
theorem dX7_addLocator_39 : decode cX7_addLocator 39 = .ok (.getfield 107, 3) := by decide +kernel
theorem dX7_addLocator_42 : decode cX7_addLocator 42 = .ok (.iconst 4, 1) := by decide +kernel
theorem dX7_addLocator_43 : decode cX7_addLocator 43 = .ok (.if_icmp .ge 13, 3) := by decide +kernel
theorem dX7_addLocator_46 : decode cX7_addLocator 46 = .ok (.aload 6, 2) := by decide +kernel
theorem dX7_addLocator_48 : decode cX7_addLocator 48 = .ok (.iload_n 2, 1) := by decide +kernel
theorem dX7_addLocator_49 : decode cX7_addLocator 49 = .ok (.invokevirtual 110, 3) := by decide +kernel
theorem dX7_addLocator_52 : decode cX7_addLocator 52 = .ok (.iconst (-1), 1) := by decide +kernel
theorem dX7_addLocator_53 : decode cX7_addLocator 53 = .ok (.if_icmp .eq 13, 3) := by decide +kernel
theorem dX7_addLocator_56 : decode cX7_addLocator 56 = .ok (.new 54, 3) := by decide +kernel
theorem dX7_addLocator_59 : decode cX7_addLocator 59 = .ok (.dup, 1) := by decide +kernel
theorem dX7_addLocator_60 : decode cX7_addLocator 60 = .ok (.ldc 114, 2) := by decide +kernel
theorem dX7_addLocator_62 : decode cX7_addLocator 62 = .ok (.invokespecial 58, 3) := by decide +kernel
theorem dX7_addLocator_65 : decode cX7_addLocator 65 = .ok (.athrow, 1) := by decide +kernel
theorem dX7_addLocator_66 : decode cX7_addLocator 66 = .ok (.aload 6, 2) := by decide +kernel
theorem dX7_addLocator_68 : decode cX7_addLocator 68 = .ok (.iload_n 2, 1) := by decide +kernel
theorem dX7_addLocator_69 : decode cX7_addLocator 69 = .ok (.iload_n 3, 1) := by decide +kernel
theorem dX7_addLocator_70 : decode cX7_addLocator 70 = .ok (.iload 4, 2) := by decide +kernel
theorem dX7_addLocator_72 : decode cX7_addLocator 72 = .ok (.invokevirtual 116, 3) := by decide +kernel
theorem dX7_addLocator_75 : decode cX7_addLocator 75 = .ok (.aload_n 0, 1) := by decide +kernel
theorem dX7_addLocator_76 : decode cX7_addLocator 76 = .ok (.aload 5, 2) := by decide +kernel
theorem dX7_addLocator_78 : decode cX7_addLocator 78 = .ok (.invokevirtual 118, 3) := by decide +kernel
theorem dX7_addLocator_81 : decode cX7_addLocator 81 = .ok (.ireturn, 1) := by decide +kernel
theorem dX7_move_0 : decode cX7_move 0 = .ok (.aload_n 0, 1) := by decide +kernel
theorem dX7_move_1 : decode cX7_move 1 = .ok (.iload_n 1, 1) := by decide +kernel
theorem dX7_move_2 : decode cX7_move 2 = .ok (.invokevirtual 79, 3) := by decide +kernel
theorem dX7_move_5 : decode cX7_move 5 = .ok (.astore 4, 2) := by decide +kernel
theorem dX7_move_7 : decode cX7_move 7 = .ok (.iload_n 2, 1) := by decide +kernel
theorem dX7_move_8 : decode cX7_move 8 = .ok (.invokestatic 95, 3) := by decide +kernel
theorem dX7_move_11 : decode cX7_move 11 = .ok (.iload_n 3, 1) := by decide +kernel
theorem dX7_move_12 : decode cX7_move 12 = .ok (.invokestatic 95, 3) := by decide +kernel
theorem dX7_move_15 : decode cX7_move 15 = .ok (.aload 4, 2) := by decide +kernel
theorem dX7_move_17 : decode cX7_move 17 = .ok (.iload_n 2, 1) := by decide +kernel
theorem dX7_move_18 : decode cX7_move 18 = .ok (.invokestatic 122, 3) := by decide +kernel
theorem dX7_move_21 : decode cX7_move 21 = .ok (.istore 5, 2) := by decide +kernel
theorem dX7_move_23 : decode cX7_move 23 = .ok (.aload 4, 2) := by decide +kernel
theorem dX7_move_25 : decode cX7_move 25 = .ok (.getfield 103, 3) := by decide +kernel
theorem dX7_move_28 : decode cX7_move 28 = .ok (.iload_n 3, 1) := by decide +kernel
theorem dX7_move_29 : decode cX7_move 29 = .ok (.invokevirtual 110, 3) := by decide +kernel
theorem dX7_move_32 : decode cX7_move 32 = .ok (.iconst (-1), 1) := by decide +kernel
theorem dX7_move_33 : decode cX7_move 33 = .ok (.if_icmp .eq 13, 3) := by decide +kernel
theorem dX7_move_36 : decode cX7_move 36 = .ok (.new 54, 3) := by decide +kernel
theorem dX7_move_39 : decode cX7_move 39 = .ok (.dup, 1) := by decide +kernel
theorem dX7_move_40 : decode cX7_move 40 = .ok (.ldc 126, 2) := by decide +kernel
theorem dX7_move_42 : decode cX7_move 42 = .ok (.invokespecial 58, 3) := by decide +kernel
theorem dX7_move_45 : decode cX7_move 45 = .ok (.athrow, 1) := by decide +kernel
theorem dX7_move_46 : decode cX7_move 46 = .ok (.aload 4, 2) := by decide +kernel
theorem dX7_move_48 : decode cX7_move 48 = .ok (.getfield 103, 3) := by decide +kernel
theorem dX7_move_51 : decode cX7_move 51 = .ok (.getfield 128, 3) := by decide +kernel
theorem dX7_move_54 : decode cX7_move 54 = .ok (.iload 5, 2) := by decide +kernel
theorem dX7_move_56 : decode cX7_move 56 = .ok (.iload_n 3, 1) := by decide +kernel
theorem dX7_move_57 : decode cX7_move 57 = .ok (.iastore, 1) := by decide +kernel
theorem dX7_move_58 : decode cX7_move 58 = .ok (.aload_n 0, 1) := by decide +kernel
theorem dX7_move_59 : decode cX7_move 59 = .ok (.aload 4, 2) := by decide +kernel
theorem dX7_move_61 : decode cX7_move 61 = .ok (.invokevirtual 118, 3) := by decide +kernel
theorem dX7_move_64 : decode cX7_move 64 = .ok (.ireturn, 1) := by decide +kernel
theorem dX7_removeLocator_0 : decode cX7_removeLocator 0 = .ok (.aload_n 0, 1) := by decide +kernel
theorem dX7_removeLocator_1 : decode cX7_removeLocator 1 = .ok (.iload_n 1, 1) := by decide +kernel
theorem dX7_removeLocator_2 : decode cX7_removeLocator 2 = .ok (.invokevirtual 79, 3) := by decide +kernel
theorem dX7_removeLocator_5 : decode cX7_removeLocator 5 = .ok (.astore_n 3, 1) := by decide +kernel
theorem dX7_removeLocator_6 : decode cX7_removeLocator 6 = .ok (.iload_n 2, 1) := by decide +kernel
theorem dX7_removeLocator_7 : decode cX7_removeLocator 7 = .ok (.invokestatic 95, 3) := by decide +kernel
theorem dX7_removeLocator_10 : decode cX7_removeLocator 10 = .ok (.aload_n 3, 1) := by decide +kernel
theorem dX7_removeLocator_11 : decode cX7_removeLocator 11 = .ok (.iload_n 2, 1) := by decide +kernel
theorem dX7_removeLocator_12 : decode cX7_removeLocator 12 = .ok (.invokestatic 122, 3) := by decide +kernel
theorem dX7_removeLocator_15 : decode cX7_removeLocator 15 = .ok (.istore 4, 2) := by decide +kernel
theorem dX7_removeLocator_17 : decode cX7_removeLocator 17 = .ok (.aload_n 3, 1) := by decide +kernel
theorem dX7_removeLocator_18 : decode cX7_removeLocator 18 = .ok (.getfield 103, 3) := by decide +kernel
theorem dX7_removeLocator_21 : decode cX7_removeLocator 21 = .ok (.iload 4, 2) := by decide +kernel
theorem dX7_removeLocator_23 : decode cX7_removeLocator 23 = .ok (.invokevirtual 132, 3) := by decide +kernel
theorem dX7_removeLocator_26 : decode cX7_removeLocator 26 = .ok (.aload_n 0, 1) := by decide +kernel
theorem dX7_removeLocator_27 : decode cX7_removeLocator 27 = .ok (.aload_n 3, 1) := by decide +kernel
theorem dX7_removeLocator_28 : decode cX7_removeLocator 28 = .ok (.invokevirtual 118, 3) := by decide +kernel
theorem dX7_removeLocator_31 : decode cX7_removeLocator 31 = .ok (.ireturn, 1) := by decide +kernel
theorem dX7_mappingOf_0 : decode cX7_mappingOf 0 = .ok (.iload_n 1, 1) := by decide +kernel
theorem dX7_mappingOf_1 : decode cX7_mappingOf 1 = .ok (.invokestatic 135, 3) := by decide +kernel
theorem dX7_mappingOf_4 : decode cX7_mappingOf 4 = .ok (.aload_n 0, 1) := by decide +kernel
theorem dX7_mappingOf_5 : decode cX7_mappingOf 5 = .ok (.getfield 12, 3) := by decide +kernel
theorem dX7_mappingOf_8 : decode cX7_mappingOf 8 = .ok (.iload_n 1, 1) := by decide +kernel
theorem dX7_mappingOf_9 : decode cX7_mappingOf 9 = .ok (.invokevirtual 138, 3) := by decide +kernel
theorem dX7_mappingOf_12 : decode cX7_mappingOf 12 = .ok (.ireturn, 1) := by decide +kernel
theorem dX7_answerLength_0 : decode cX7_answerLength 0 = .ok (.iload_n 1, 1) := by decide +kernel
theorem dX7_answerLength_1 : decode cX7_answerLength 1 = .ok (.invokestatic 135, 3) := by decide +kernel
theorem dX7_answerLength_4 : decode cX7_answerLength 4 = .ok (.aload_n 0, 1) := by decide +kernel
theorem dX7_answerLength_5 : decode cX7_answerLength 5 = .ok (.getfield 12, 3) := by decide +kernel
theorem dX7_answerLength_8 : decode cX7_answerLength 8 = .ok (.iload_n 1, 1) := by decide +kernel
theorem dX7_answerLength_9 : decode cX7_answerLength 9 = .ok (.invokevirtual 138, 3) := by decide +kernel
theorem dX7_answerLength_12 : decode cX7_answerLength 12 = .ok (.istore_n 2, 1) := by decide +kernel
theorem dX7_answerLength_13 : decode cX7_answerLength 13 = .ok (.aload_n 0, 1) := by decide +kernel
theorem dX7_answerLength_14 : decode cX7_answerLength 14 = .ok (.getfield 12, 3) := by decide +kernel
theorem dX7_answerLength_17 : decode cX7_answerLength 17 = .ok (.iload_n 1, 1) := by decide +kernel
theorem dX7_answerLength_18 : decode cX7_answerLength 18 = .ok (.iload_n 2, 1) := by decide +kernel
theorem dX7_answerLength_19 : decode cX7_answerLength 19 = .ok (.invokevirtual 141, 3) := by decide +kernel
theorem dX7_answerLength_22 : decode cX7_answerLength 22 = .ok (.istore_n 3, 1) := by decide +kernel
theorem dX7_answerLength_23 : decode cX7_answerLength 23 = .ok (.iload_n 2, 1) := by decide +kernel
theorem dX7_answerLength_24 : decode cX7_answerLength 24 = .ok (.iconst (-1), 1) := by decide +kernel
theorem dX7_answerLength_25 : decode cX7_answerLength 25 = .ok (.if_icmp .ne 10, 3) := by decide +kernel
theorem dX7_answerLength_28 : decode cX7_answerLength 28 = .ok (.iload_n 3, 1) := by decide +kernel
theorem dX7_answerLength_29 : decode cX7_answerLength 29 = .ok (.bipush 17, 2) := by decide +kernel
theorem dX7_answerLength_31 : decode cX7_answerLength 31 = .ok (.iadd, 1) := by decide +kernel
theorem dX7_answerLength_32 : decode cX7_answerLength 32 = .ok (.goto 4, 3) := by decide +kernel
theorem dX7_answerLength_35 : decode cX7_answerLength 35 = .ok (.iload_n 3, 1) := by decide +kernel
theorem dX7_answerLength_36 : decode cX7_answerLength 36 = .ok (.ireturn, 1) := by decide +kernel
theorem dX7_version_0 : decode cX7_version 0 = .ok (.aload_n 0, 1) := by decide +kernel
theorem dX7_version_1 : decode cX7_version 1 = .ok (.iload_n 1, 1) := by decide +kernel
theorem dX7_version_2 : decode cX7_version 2 = .ok (.invokevirtual 79, 3) := by decide +kernel
theorem dX7_version_5 : decode cX7_version 5 = .ok (.astore_n 2, 1) := by decide +kernel
theorem dX7_version_6 : decode cX7_version 6 = .ok (.aload_n 2, 1) := by decide +kernel
theorem dX7_version_7 : decode cX7_version 7 = .ok (.getfield 87, 3) := by decide +kernel
theorem dX7_version_10 : decode cX7_version 10 = .ok (.ifCond .eq 7, 3) := by decide +kernel
theorem dX7_version_13 : decode cX7_version 13 = .ok (.iconst (-1), 1) := by decide +kernel
theorem dX7_version_14 : decode cX7_version 14 = .ok (.goto 7, 3) := by decide +kernel
theorem dX7_version_17 : decode cX7_version 17 = .ok (.aload_n 2, 1) := by decide +kernel
theorem dX7_version_18 : decode cX7_version 18 = .ok (.getfield 144, 3) := by decide +kernel
theorem dX7_version_21 : decode cX7_version 21 = .ok (.ireturn, 1) := by decide +kernel
theorem dX7_delegate_0 : decode cX7_delegate 0 = .ok (.iload_n 3, 1) := by decide +kernel
theorem dX7_delegate_1 : decode cX7_delegate 1 = .ok (.iconst 4, 1) := by decide +kernel
theorem dX7_delegate_2 : decode cX7_delegate 2 = .ok (.invokestatic 147, 3) := by decide +kernel
theorem dX7_delegate_5 : decode cX7_delegate 5 = .ok (.iload_n 1, 1) := by decide +kernel
theorem dX7_delegate_6 : decode cX7_delegate 6 = .ok (.iload_n 2, 1) := by decide +kernel
theorem dX7_delegate_7 : decode cX7_delegate 7 = .ok (.invokestatic 43, 3) := by decide +kernel
theorem dX7_delegate_10 : decode cX7_delegate 10 = .ok (.aload_n 0, 1) := by decide +kernel
theorem dX7_delegate_11 : decode cX7_delegate 11 = .ok (.getfield 19, 3) := by decide +kernel
theorem dX7_delegate_14 : decode cX7_delegate 14 = .ok (.iload_n 1, 1) := by decide +kernel
theorem dX7_delegate_15 : decode cX7_delegate 15 = .ok (.iload_n 2, 1) := by decide +kernel
theorem dX7_delegate_16 : decode cX7_delegate 16 = .ok (.invokevirtual 150, 3) := by decide +kernel
theorem dX7_delegate_19 : decode cX7_delegate 19 = .ok (.istore 4, 2) := by decide +kernel
theorem dX7_delegate_21 : decode cX7_delegate 21 = .ok (.iload 4, 2) := by decide +kernel
theorem dX7_delegate_23 : decode cX7_delegate 23 = .ok (.iconst (-1), 1) := by decide +kernel
theorem dX7_delegate_24 : decode cX7_delegate 24 = .ok (.if_icmp .ne 25, 3) := by decide +kernel
theorem dX7_delegate_27 : decode cX7_delegate 27 = .ok (.aload_n 0, 1) := by decide +kernel
theorem dX7_delegate_28 : decode cX7_delegate 28 = .ok (.getfield 19, 3) := by decide +kernel
theorem dX7_delegate_31 : decode cX7_delegate 31 = .ok (.getfield 152, 3) := by decide +kernel
theorem dX7_delegate_34 : decode cX7_delegate 34 = .ok (.bipush 12, 2) := by decide +kernel
theorem dX7_delegate_36 : decode cX7_delegate 36 = .ok (.if_icmp .lt 13, 3) := by decide +kernel
theorem dX7_delegate_39 : decode cX7_delegate 39 = .ok (.new 54, 3) := by decide +kernel
theorem dX7_delegate_42 : decode cX7_delegate 42 = .ok (.dup, 1) := by decide +kernel
theorem dX7_delegate_43 : decode cX7_delegate 43 = .ok (.ldc 153, 2) := by decide +kernel
theorem dX7_delegate_45 : decode cX7_delegate 45 = .ok (.invokespecial 58, 3) := by decide +kernel
theorem dX7_delegate_48 : decode cX7_delegate 48 = .ok (.athrow, 1) := by decide +kernel
theorem dX7_delegate_49 : decode cX7_delegate 49 = .ok (.iload 4, 2) := by decide +kernel
theorem dX7_delegate_51 : decode cX7_delegate 51 = .ok (.iconst (-1), 1) := by decide +kernel
theorem dX7_delegate_52 : decode cX7_delegate 52 = .ok (.if_icmp .ne 16, 3) := by decide +kernel
theorem dX7_delegate_55 : decode cX7_delegate 55 = .ok (.aload_n 0, 1) := by decide +kernel
theorem dX7_delegate_56 : decode cX7_delegate 56 = .ok (.getfield 19, 3) := by decide +kernel
theorem dX7_delegate_59 : decode cX7_delegate 59 = .ok (.iload_n 1, 1) := by decide +kernel
theorem dX7_delegate_60 : decode cX7_delegate 60 = .ok (.iload_n 2, 1) := by decide +kernel
theorem dX7_delegate_61 : decode cX7_delegate 61 = .ok (.iload_n 3, 1) := by decide +kernel
theorem dX7_delegate_62 : decode cX7_delegate 62 = .ok (.invokevirtual 155, 3) := by decide +kernel
theorem dX7_delegate_65 : decode cX7_delegate 65 = .ok (.goto 14, 3) := by decide +kernel
theorem dX7_delegate_68 : decode cX7_delegate 68 = .ok (.aload_n 0, 1) := by decide +kernel
theorem dX7_delegate_69 : decode cX7_delegate 69 = .ok (.getfield 19, 3) := by decide +kernel
theorem dX7_delegate_72 : decode cX7_delegate 72 = .ok (.getfield 156, 3) := by decide +kernel
theorem dX7_delegate_75 : decode cX7_delegate 75 = .ok (.iload 4, 2) := by decide +kernel
theorem dX7_delegate_77 : decode cX7_delegate 77 = .ok (.iload_n 3, 1) := by decide +kernel
theorem dX7_delegate_78 : decode cX7_delegate 78 = .ok (.iastore, 1) := by decide +kernel
theorem dX7_delegate_79 : decode cX7_delegate 79 = .ok (.aload_n 0, 1) := by decide +kernel
theorem dX7_delegate_80 : decode cX7_delegate 80 = .ok (.getfield 19, 3) := by decide +kernel
theorem dX7_delegate_83 : decode cX7_delegate 83 = .ok (.getfield 152, 3) := by decide +kernel
theorem dX7_delegate_86 : decode cX7_delegate 86 = .ok (.ireturn, 1) := by decide +kernel
theorem dX7_setUp_0 : decode cX7_setUp 0 = .ok (.iload_n 1, 1) := by decide +kernel
theorem dX7_setUp_1 : decode cX7_setUp 1 = .ok (.iconst 4, 1) := by decide +kernel
theorem dX7_setUp_2 : decode cX7_setUp 2 = .ok (.invokestatic 147, 3) := by decide +kernel
theorem dX7_setUp_5 : decode cX7_setUp 5 = .ok (.aload_n 0, 1) := by decide +kernel
theorem dX7_setUp_6 : decode cX7_setUp 6 = .ok (.getfield 19, 3) := by decide +kernel
theorem dX7_setUp_9 : decode cX7_setUp 9 = .ok (.getfield 159, 3) := by decide +kernel
theorem dX7_setUp_12 : decode cX7_setUp 12 = .ok (.iload_n 1, 1) := by decide +kernel
theorem dX7_setUp_13 : decode cX7_setUp 13 = .ok (.baload, 1) := by decide +kernel
theorem dX7_setUp_14 : decode cX7_setUp 14 = .ok (.ifCond .ne 7, 3) := by decide +kernel
theorem dX7_setUp_17 : decode cX7_setUp 17 = .ok (.iconst 1, 1) := by decide +kernel
theorem dX7_setUp_18 : decode cX7_setUp 18 = .ok (.goto 4, 3) := by decide +kernel
theorem dX7_setUp_21 : decode cX7_setUp 21 = .ok (.iconst 0, 1) := by decide +kernel
theorem dX7_setUp_22 : decode cX7_setUp 22 = .ok (.istore_n 3, 1) := by decide +kernel
theorem dX7_setUp_23 : decode cX7_setUp 23 = .ok (.aload_n 0, 1) := by decide +kernel
theorem dX7_setUp_24 : decode cX7_setUp 24 = .ok (.getfield 19, 3) := by decide +kernel
theorem dX7_setUp_27 : decode cX7_setUp 27 = .ok (.getfield 159, 3) := by decide +kernel
theorem dX7_setUp_30 : decode cX7_setUp 30 = .ok (.iload_n 1, 1) := by decide +kernel
theorem dX7_setUp_31 : decode cX7_setUp 31 = .ok (.iload_n 2, 1) := by decide +kernel
theorem dX7_setUp_32 : decode cX7_setUp 32 = .ok (.ifCond .ne 7, 3) := by decide +kernel
theorem dX7_setUp_35 : decode cX7_setUp 35 = .ok (.iconst 1, 1) := by decide +kernel
theorem dX7_setUp_36 : decode cX7_setUp 36 = .ok (.goto 4, 3) := by decide +kernel
theorem dX7_setUp_39 : decode cX7_setUp 39 = .ok (.iconst 0, 1) := by decide +kernel
theorem dX7_setUp_40 : decode cX7_setUp 40 = .ok (.bastore, 1) := by decide +kernel
theorem dX7_setUp_41 : decode cX7_setUp 41 = .ok (.iload_n 3, 1) := by decide +kernel
theorem dX7_setUp_42 : decode cX7_setUp 42 = .ok (.ireturn, 1) := by decide +kernel
theorem dX7_serverOf_0 : decode cX7_serverOf 0 = .ok (.iload_n 1, 1) := by decide +kernel
theorem dX7_serverOf_1 : decode cX7_serverOf 1 = .ok (.invokestatic 135, 3) := by decide +kernel
theorem dX7_serverOf_4 : decode cX7_serverOf 4 = .ok (.aload_n 0, 1) := by decide +kernel
theorem dX7_serverOf_5 : decode cX7_serverOf 5 = .ok (.getfield 19, 3) := by decide +kernel
theorem dX7_serverOf_8 : decode cX7_serverOf 8 = .ok (.iload_n 1, 1) := by decide +kernel
theorem dX7_serverOf_9 : decode cX7_serverOf 9 = .ok (.invokevirtual 163, 3) := by decide +kernel
theorem dX7_serverOf_12 : decode cX7_serverOf 12 = .ok (.ireturn, 1) := by decide +kernel
theorem dX7_answers_0 : decode cX7_answers 0 = .ok (.iload_n 1, 1) := by decide +kernel
theorem dX7_answers_1 : decode cX7_answers 1 = .ok (.iconst 4, 1) := by decide +kernel
theorem dX7_answers_2 : decode cX7_answers 2 = .ok (.invokestatic 147, 3) := by decide +kernel
theorem dX7_answers_5 : decode cX7_answers 5 = .ok (.aload_n 0, 1) := by decide +kernel
theorem dX7_answers_6 : decode cX7_answers 6 = .ok (.getfield 19, 3) := by decide +kernel
theorem dX7_answers_9 : decode cX7_answers 9 = .ok (.getfield 164, 3) := by decide +kernel
theorem dX7_answers_12 : decode cX7_answers 12 = .ok (.iload_n 1, 1) := by decide +kernel
theorem dX7_answers_13 : decode cX7_answers 13 = .ok (.iaload, 1) := by decide +kernel
theorem dX7_answers_14 : decode cX7_answers 14 = .ok (.ireturn, 1) := by decide +kernel
theorem dX7_send_0 : decode cX7_send 0 = .ok (.aload_n 0, 1) := by decide +kernel
theorem dX7_send_1 : decode cX7_send 1 = .ok (.iload_n 1, 1) := by decide +kernel
theorem dX7_send_2 : decode cX7_send 2 = .ok (.invokevirtual 167, 3) := by decide +kernel
theorem dX7_send_5 : decode cX7_send 5 = .ok (.astore_n 3, 1) := by decide +kernel
theorem dX7_send_6 : decode cX7_send 6 = .ok (.iload_n 2, 1) := by decide +kernel
theorem dX7_send_7 : decode cX7_send 7 = .ok (.invokestatic 135, 3) := by decide +kernel
theorem dX7_send_10 : decode cX7_send 10 = .ok (.aload_n 3, 1) := by decide +kernel
theorem dX7_send_11 : decode cX7_send 11 = .ok (.iload_n 2, 1) := by decide +kernel
theorem dX7_send_12 : decode cX7_send 12 = .ok (.aload_n 0, 1) := by decide +kernel
theorem dX7_send_13 : decode cX7_send 13 = .ok (.getfield 29, 3) := by decide +kernel
theorem dX7_send_16 : decode cX7_send 16 = .ok (.invokevirtual 171, 3) := by decide +kernel
theorem dX7_send_19 : decode cX7_send 19 = .ok (.istore 4, 2) := by decide +kernel
theorem dX7_send_21 : decode cX7_send 21 = .ok (.iload 4, 2) := by decide +kernel
theorem dX7_send_23 : decode cX7_send 23 = .ok (.iconst (-1), 1) := by decide +kernel
theorem dX7_send_24 : decode cX7_send 24 = .ok (.if_icmp .ne 51, 3) := by decide +kernel
theorem dX7_send_27 : decode cX7_send 27 = .ok (.aload_n 0, 1) := by decide +kernel
theorem dX7_send_28 : decode cX7_send 28 = .ok (.getfield 19, 3) := by decide +kernel
theorem dX7_send_31 : decode cX7_send 31 = .ok (.iload_n 2, 1) := by decide +kernel
theorem dX7_send_32 : decode cX7_send 32 = .ok (.invokevirtual 163, 3) := by decide +kernel
theorem dX7_send_35 : decode cX7_send 35 = .ok (.istore 5, 2) := by decide +kernel
theorem dX7_send_37 : decode cX7_send 37 = .ok (.aload_n 0, 1) := by decide +kernel
theorem dX7_send_38 : decode cX7_send 38 = .ok (.getfield 19, 3) := by decide +kernel
theorem dX7_send_41 : decode cX7_send 41 = .ok (.getfield 159, 3) := by decide +kernel
theorem dX7_send_44 : decode cX7_send 44 = .ok (.iload 5, 2) := by decide +kernel
theorem dX7_send_46 : decode cX7_send 46 = .ok (.baload, 1) := by decide +kernel
theorem dX7_send_47 : decode cX7_send 47 = .ok (.ifCond .eq 6, 3) := by decide +kernel
theorem dX7_send_50 : decode cX7_send 50 = .ok (.bipush (-2), 2) := by decide +kernel
theorem dX7_send_52 : decode cX7_send 52 = .ok (.ireturn, 1) := by decide +kernel
theorem dX7_send_53 : decode cX7_send 53 = .ok (.aload_n 0, 1) := by decide +kernel
theorem dX7_send_54 : decode cX7_send 54 = .ok (.getfield 19, 3) := by decide +kernel
theorem dX7_send_57 : decode cX7_send 57 = .ok (.getfield 164, 3) := by decide +kernel
theorem dX7_send_60 : decode cX7_send 60 = .ok (.iload 5, 2) := by decide +kernel
theorem dX7_send_62 : decode cX7_send 62 = .ok (.dup2, 1) := by decide +kernel
theorem dX7_send_63 : decode cX7_send 63 = .ok (.iaload, 1) := by decide +kernel
theorem dX7_send_64 : decode cX7_send 64 = .ok (.iconst 1, 1) := by decide +kernel
theorem dX7_send_65 : decode cX7_send 65 = .ok (.iadd, 1) := by decide +kernel
theorem dX7_send_66 : decode cX7_send 66 = .ok (.iastore, 1) := by decide +kernel
theorem dX7_send_67 : decode cX7_send 67 = .ok (.aload_n 0, 1) := by decide +kernel
theorem dX7_send_68 : decode cX7_send 68 = .ok (.aload_n 3, 1) := by decide +kernel
theorem dX7_send_69 : decode cX7_send 69 = .ok (.iload_n 2, 1) := by decide +kernel
theorem dX7_send_70 : decode cX7_send 70 = .ok (.invokevirtual 173, 3) := by decide +kernel
theorem dX7_send_73 : decode cX7_send 73 = .ok (.istore 4, 2) := by decide +kernel
theorem dX7_send_75 : decode cX7_send 75 = .ok (.aload_n 3, 1) := by decide +kernel
theorem dX7_send_76 : decode cX7_send 76 = .ok (.iload 4, 2) := by decide +kernel
theorem dX7_send_78 : decode cX7_send 78 = .ok (.invokevirtual 177, 3) := by decide +kernel
theorem dX7_send_81 : decode cX7_send 81 = .ok (.astore 5, 2) := by decide +kernel
theorem dX7_send_83 : decode cX7_send 83 = .ok (.aload 5, 2) := by decide +kernel
theorem dX7_send_85 : decode cX7_send 85 = .ok (.aload_n 3, 1) := by decide +kernel
theorem dX7_send_86 : decode cX7_send 86 = .ok (.getfield 181, 3) := by decide +kernel
theorem dX7_send_89 : decode cX7_send 89 = .ok (.invokevirtual 184, 3) := by decide +kernel
theorem dX7_send_92 : decode cX7_send 92 = .ok (.ireturn, 1) := by decide +kernel
theorem dX7_probe_0 : decode cX7_probe 0 = .ok (.aload_n 0, 1) := by decide +kernel
theorem dX7_probe_1 : decode cX7_probe 1 = .ok (.iload_n 1, 1) := by decide +kernel
theorem dX7_probe_2 : decode cX7_probe 2 = .ok (.invokevirtual 167, 3) := by decide +kernel
theorem dX7_probe_5 : decode cX7_probe 5 = .ok (.astore 4, 2) := by decide +kernel
theorem dX7_probe_7 : decode cX7_probe 7 = .ok (.iload_n 2, 1) := by decide +kernel
theorem dX7_probe_8 : decode cX7_probe 8 = .ok (.invokestatic 95, 3) := by decide +kernel
theorem dX7_probe_11 : decode cX7_probe 11 = .ok (.aload 4, 2) := by decide +kernel
theorem dX7_probe_13 : decode cX7_probe 13 = .ok (.getfield 181, 3) := by decide +kernel
theorem dX7_probe_16 : decode cX7_probe 16 = .ok (.iload_n 2, 1) := by decide +kernel
theorem dX7_probe_17 : decode cX7_probe 17 = .ok (.iload_n 3, 1) := by decide +kernel
theorem dX7_probe_18 : decode cX7_probe 18 = .ok (.ifCond .ne 7, 3) := by decide +kernel
theorem dX7_probe_21 : decode cX7_probe 21 = .ok (.iconst 1, 1) := by decide +kernel
theorem dX7_probe_22 : decode cX7_probe 22 = .ok (.goto 4, 3) := by decide +kernel
theorem dX7_probe_25 : decode cX7_probe 25 = .ok (.iconst 0, 1) := by decide +kernel
theorem dX7_probe_26 : decode cX7_probe 26 = .ok (.bastore, 1) := by decide +kernel
theorem dX7_probe_27 : decode cX7_probe 27 = .ok (.aload 4, 2) := by decide +kernel
theorem dX7_probe_29 : decode cX7_probe 29 = .ok (.invokevirtual 190, 3) := by decide +kernel
theorem dX7_probe_32 : decode cX7_probe 32 = .ok (.ireturn, 1) := by decide +kernel
theorem dX7_setLifetimes_0 : decode cX7_setLifetimes 0 = .ok (.iload_n 1, 1) := by decide +kernel
theorem dX7_setLifetimes_1 : decode cX7_setLifetimes 1 = .ok (.iconst 1, 1) := by decide +kernel
theorem dX7_setLifetimes_2 : decode cX7_setLifetimes 2 = .ok (.sipush 1000, 3) := by decide +kernel
theorem dX7_setLifetimes_5 : decode cX7_setLifetimes 5 = .ok (.invokestatic 99, 3) := by decide +kernel
theorem dX7_setLifetimes_8 : decode cX7_setLifetimes 8 = .ok (.iload_n 2, 1) := by decide +kernel
theorem dX7_setLifetimes_9 : decode cX7_setLifetimes 9 = .ok (.iconst 1, 1) := by decide +kernel
theorem dX7_setLifetimes_10 : decode cX7_setLifetimes 10 = .ok (.sipush 1000, 3) := by decide +kernel
theorem dX7_setLifetimes_13 : decode cX7_setLifetimes 13 = .ok (.invokestatic 99, 3) := by decide +kernel
theorem dX7_setLifetimes_16 : decode cX7_setLifetimes 16 = .ok (.aload_n 0, 1) := by decide +kernel
theorem dX7_setLifetimes_17 : decode cX7_setLifetimes 17 = .ok (.getfield 33, 3) := by decide +kernel
theorem dX7_setLifetimes_20 : decode cX7_setLifetimes 20 = .ok (.istore_n 3, 1) := by decide +kernel
theorem dX7_setLifetimes_21 : decode cX7_setLifetimes 21 = .ok (.aload_n 0, 1) := by decide +kernel
theorem dX7_setLifetimes_22 : decode cX7_setLifetimes 22 = .ok (.iload_n 1, 1) := by decide +kernel
theorem dX7_setLifetimes_23 : decode cX7_setLifetimes 23 = .ok (.putfield 33, 3) := by decide +kernel
theorem dX7_setLifetimes_26 : decode cX7_setLifetimes 26 = .ok (.aload_n 0, 1) := by decide +kernel
theorem dX7_setLifetimes_27 : decode cX7_setLifetimes 27 = .ok (.iload_n 2, 1) := by decide +kernel
theorem dX7_setLifetimes_28 : decode cX7_setLifetimes 28 = .ok (.putfield 36, 3) := by decide +kernel
theorem dX7_setLifetimes_31 : decode cX7_setLifetimes 31 = .ok (.iload_n 3, 1) := by decide +kernel
theorem dX7_setLifetimes_32 : decode cX7_setLifetimes 32 = .ok (.ireturn, 1) := by decide +kernel
theorem dX7_pass_0 : decode cX7_pass 0 = .ok (.iload_n 1, 1) := by decide +kernel
theorem dX7_pass_1 : decode cX7_pass 1 = .ok (.iconst 1, 1) := by decide +kernel
theorem dX7_pass_2 : decode cX7_pass 2 = .ok (.sipush 1000, 3) := by decide +kernel
theorem dX7_pass_5 : decode cX7_pass 5 = .ok (.invokestatic 99, 3) := by decide +kernel
theorem dX7_pass_8 : decode cX7_pass 8 = .ok (.aload_n 0, 1) := by decide +kernel
theorem dX7_pass_9 : decode cX7_pass 9 = .ok (.dup, 1) := by decide +kernel
theorem dX7_pass_10 : decode cX7_pass 10 = .ok (.getfield 29, 3) := by decide +kernel
theorem dX7_pass_13 : decode cX7_pass 13 = .ok (.iload_n 1, 1) := by decide +kernel
theorem dX7_pass_14 : decode cX7_pass 14 = .ok (.iadd, 1) := by decide +kernel
theorem dX7_pass_15 : decode cX7_pass 15 = .ok (.putfield 29, 3) := by decide +kernel
theorem dX7_pass_18 : decode cX7_pass 18 = .ok (.aload_n 0, 1) := by decide +kernel
theorem dX7_pass_19 : decode cX7_pass 19 = .ok (.getfield 29, 3) := by decide +kernel
theorem dX7_pass_22 : decode cX7_pass 22 = .ok (.ireturn, 1) := by decide +kernel
theorem dX7_entries_0 : decode cX7_entries 0 = .ok (.aload_n 0, 1) := by decide +kernel
theorem dX7_entries_1 : decode cX7_entries 1 = .ok (.iload_n 1, 1) := by decide +kernel
theorem dX7_entries_2 : decode cX7_entries 2 = .ok (.invokevirtual 167, 3) := by decide +kernel
theorem dX7_entries_5 : decode cX7_entries 5 = .ok (.getfield 193, 3) := by decide +kernel
theorem dX7_entries_8 : decode cX7_entries 8 = .ok (.ireturn, 1) := by decide +kernel
theorem dX7_prefixOf_0 : decode cX7_prefixOf 0 = .ok (.aload_n 0, 1) := by decide +kernel
theorem dX7_prefixOf_1 : decode cX7_prefixOf 1 = .ok (.iload_n 1, 1) := by decide +kernel
theorem dX7_prefixOf_2 : decode cX7_prefixOf 2 = .ok (.iload_n 2, 1) := by decide +kernel
theorem dX7_prefixOf_3 : decode cX7_prefixOf 3 = .ok (.invokevirtual 194, 3) := by decide +kernel
theorem dX7_prefixOf_6 : decode cX7_prefixOf 6 = .ok (.getfield 198, 3) := by decide +kernel
theorem dX7_prefixOf_9 : decode cX7_prefixOf 9 = .ok (.astore_n 3, 1) := by decide +kernel
theorem dX7_prefixOf_10 : decode cX7_prefixOf 10 = .ok (.bipush 32, 2) := by decide +kernel
theorem dX7_prefixOf_12 : decode cX7_prefixOf 12 = .ok (.aload_n 3, 1) := by decide +kernel
theorem dX7_prefixOf_13 : decode cX7_prefixOf 13 = .ok (.getfield 199, 3) := by decide +kernel
theorem dX7_prefixOf_16 : decode cX7_prefixOf 16 = .ok (.imul, 1) := by decide +kernel
theorem dX7_prefixOf_17 : decode cX7_prefixOf 17 = .ok (.aload_n 3, 1) := by decide +kernel
theorem dX7_prefixOf_18 : decode cX7_prefixOf 18 = .ok (.getfield 204, 3) := by decide +kernel
theorem dX7_prefixOf_21 : decode cX7_prefixOf 21 = .ok (.iadd, 1) := by decide +kernel
theorem dX7_prefixOf_22 : decode cX7_prefixOf 22 = .ok (.ireturn, 1) := by decide +kernel
theorem dX7_mappingAt_0 : decode cX7_mappingAt 0 = .ok (.aload_n 0, 1) := by decide +kernel
theorem dX7_mappingAt_1 : decode cX7_mappingAt 1 = .ok (.iload_n 1, 1) := by decide +kernel
theorem dX7_mappingAt_2 : decode cX7_mappingAt 2 = .ok (.iload_n 2, 1) := by decide +kernel
theorem dX7_mappingAt_3 : decode cX7_mappingAt 3 = .ok (.invokevirtual 194, 3) := by decide +kernel
theorem dX7_mappingAt_6 : decode cX7_mappingAt 6 = .ok (.astore_n 3, 1) := by decide +kernel
theorem dX7_mappingAt_7 : decode cX7_mappingAt 7 = .ok (.aload_n 3, 1) := by decide +kernel
theorem dX7_mappingAt_8 : decode cX7_mappingAt 8 = .ok (.getfield 207, 3) := by decide +kernel
theorem dX7_mappingAt_11 : decode cX7_mappingAt 11 = .ok (.iconst (-1), 1) := by decide +kernel
theorem dX7_mappingAt_12 : decode cX7_mappingAt 12 = .ok (.if_icmp .ne 7, 3) := by decide +kernel
theorem dX7_mappingAt_15 : decode cX7_mappingAt 15 = .ok (.iconst (-1), 1) := by decide +kernel
theorem dX7_mappingAt_16 : decode cX7_mappingAt 16 = .ok (.goto 16, 3) := by decide +kernel
theorem dX7_mappingAt_19 : decode cX7_mappingAt 19 = .ok (.sipush 1000, 3) := by decide +kernel
theorem dX7_mappingAt_22 : decode cX7_mappingAt 22 = .ok (.aload_n 3, 1) := by decide +kernel
theorem dX7_mappingAt_23 : decode cX7_mappingAt 23 = .ok (.getfield 210, 3) := by decide +kernel
theorem dX7_mappingAt_26 : decode cX7_mappingAt 26 = .ok (.imul, 1) := by decide +kernel
theorem dX7_mappingAt_27 : decode cX7_mappingAt 27 = .ok (.aload_n 3, 1) := by decide +kernel
theorem dX7_mappingAt_28 : decode cX7_mappingAt 28 = .ok (.getfield 207, 3) := by decide +kernel
theorem dX7_mappingAt_31 : decode cX7_mappingAt 31 = .ok (.iadd, 1) := by decide +kernel
theorem dX7_mappingAt_32 : decode cX7_mappingAt 32 = .ok (.ireturn, 1) := by decide +kernel
theorem dX7_lasts_0 : decode cX7_lasts 0 = .ok (.aload_n 0, 1) := by decide +kernel
theorem dX7_lasts_1 : decode cX7_lasts 1 = .ok (.iload_n 1, 1) := by decide +kernel
theorem dX7_lasts_2 : decode cX7_lasts 2 = .ok (.iload_n 2, 1) := by decide +kernel
theorem dX7_lasts_3 : decode cX7_lasts 3 = .ok (.invokevirtual 194, 3) := by decide +kernel
theorem dX7_lasts_6 : decode cX7_lasts 6 = .ok (.astore_n 3, 1) := by decide +kernel
theorem dX7_lasts_7 : decode cX7_lasts 7 = .ok (.aload_n 3, 1) := by decide +kernel
theorem dX7_lasts_8 : decode cX7_lasts 8 = .ok (.getfield 211, 3) := by decide +kernel
theorem dX7_lasts_11 : decode cX7_lasts 11 = .ok (.ifCond .eq 5, 3) := by decide +kernel
theorem dX7_lasts_14 : decode cX7_lasts 14 = .ok (.iconst (-1), 1) := by decide +kernel
theorem dX7_lasts_15 : decode cX7_lasts 15 = .ok (.ireturn, 1) := by decide +kernel
theorem dX7_lasts_16 : decode cX7_lasts 16 = .ok (.aload_n 3, 1) := by decide +kernel
theorem dX7_lasts_17 : decode cX7_lasts 17 = .ok (.aload_n 0, 1) := by decide +kernel
theorem dX7_lasts_18 : decode cX7_lasts 18 = .ok (.getfield 29, 3) := by decide +kernel
theorem dX7_lasts_21 : decode cX7_lasts 21 = .ok (.invokevirtual 214, 3) := by decide +kernel
theorem dX7_lasts_24 : decode cX7_lasts 24 = .ok (.ifCond .eq 7, 3) := by decide +kernel
theorem dX7_lasts_27 : decode cX7_lasts 27 = .ok (.iconst 0, 1) := by decide +kernel
theorem dX7_lasts_28 : decode cX7_lasts 28 = .ok (.goto 12, 3) := by decide +kernel
theorem dX7_lasts_31 : decode cX7_lasts 31 = .ok (.aload_n 3, 1) := by decide +kernel
theorem dX7_lasts_32 : decode cX7_lasts 32 = .ok (.getfield 218, 3) := by decide +kernel
theorem dX7_lasts_35 : decode cX7_lasts 35 = .ok (.aload_n 0, 1) := by decide +kernel
theorem dX7_lasts_36 : decode cX7_lasts 36 = .ok (.getfield 29, 3) := by decide +kernel
theorem dX7_lasts_39 : decode cX7_lasts 39 = .ok (.isub, 1) := by decide +kernel
theorem dX7_lasts_40 : decode cX7_lasts 40 = .ok (.ireturn, 1) := by decide +kernel
theorem dX7_packetsTo_0 : decode cX7_packetsTo 0 = .ok (.aload_n 0, 1) := by decide +kernel
theorem dX7_packetsTo_1 : decode cX7_packetsTo 1 = .ok (.iload_n 1, 1) := by decide +kernel
theorem dX7_packetsTo_2 : decode cX7_packetsTo 2 = .ok (.iload_n 2, 1) := by decide +kernel
theorem dX7_packetsTo_3 : decode cX7_packetsTo 3 = .ok (.invokevirtual 194, 3) := by decide +kernel
theorem dX7_packetsTo_6 : decode cX7_packetsTo 6 = .ok (.astore 4, 2) := by decide +kernel
theorem dX7_packetsTo_8 : decode cX7_packetsTo 8 = .ok (.iload_n 3, 1) := by decide +kernel
theorem dX7_packetsTo_9 : decode cX7_packetsTo 9 = .ok (.invokestatic 95, 3) := by decide +kernel
theorem dX7_packetsTo_12 : decode cX7_packetsTo 12 = .ok (.aload 4, 2) := by decide +kernel
theorem dX7_packetsTo_14 : decode cX7_packetsTo 14 = .ok (.getfield 221, 3) := by decide +kernel
theorem dX7_packetsTo_17 : decode cX7_packetsTo 17 = .ok (.iload_n 3, 1) := by decide +kernel
theorem dX7_packetsTo_18 : decode cX7_packetsTo 18 = .ok (.invokevirtual 110, 3) := by decide +kernel
theorem dX7_packetsTo_21 : decode cX7_packetsTo 21 = .ok (.istore 5, 2) := by decide +kernel
theorem dX7_packetsTo_23 : decode cX7_packetsTo 23 = .ok (.iload 5, 2) := by decide +kernel
theorem dX7_packetsTo_25 : decode cX7_packetsTo 25 = .ok (.iconst (-1), 1) := by decide +kernel
theorem dX7_packetsTo_26 : decode cX7_packetsTo 26 = .ok (.if_icmp .ne 7, 3) := by decide +kernel
theorem dX7_packetsTo_29 : decode cX7_packetsTo 29 = .ok (.iconst 0, 1) := by decide +kernel
theorem dX7_packetsTo_30 : decode cX7_packetsTo 30 = .ok (.goto 11, 3) := by decide +kernel
theorem dX7_packetsTo_33 : decode cX7_packetsTo 33 = .ok (.aload 4, 2) := by decide +kernel
theorem dX7_packetsTo_35 : decode cX7_packetsTo 35 = .ok (.getfield 222, 3) := by decide +kernel
theorem dX7_packetsTo_38 : decode cX7_packetsTo 38 = .ok (.iload 5, 2) := by decide +kernel
theorem dX7_packetsTo_40 : decode cX7_packetsTo 40 = .ok (.iaload, 1) := by decide +kernel
theorem dX7_packetsTo_41 : decode cX7_packetsTo 41 = .ok (.ireturn, 1) := by decide +kernel
theorem dX7_solicitations_0 : decode cX7_solicitations 0 = .ok (.aload_n 0, 1) := by decide +kernel
theorem dX7_solicitations_1 : decode cX7_solicitations 1 = .ok (.getfield 39, 3) := by decide +kernel
theorem dX7_solicitations_4 : decode cX7_solicitations 4 = .ok (.ireturn, 1) := by decide +kernel
theorem dX7_tellChange_0 : decode cX7_tellChange 0 = .ok (.aload_n 1, 1) := by decide +kernel
theorem dX7_tellChange_1 : decode cX7_tellChange 1 = .ok (.dup, 1) := by decide +kernel
theorem dX7_tellChange_2 : decode cX7_tellChange 2 = .ok (.getfield 144, 3) := by decide +kernel
theorem dX7_tellChange_5 : decode cX7_tellChange 5 = .ok (.iconst 1, 1) := by decide +kernel
theorem dX7_tellChange_6 : decode cX7_tellChange 6 = .ok (.iadd, 1) := by decide +kernel
theorem dX7_tellChange_7 : decode cX7_tellChange 7 = .ok (.putfield 144, 3) := by decide +kernel
theorem dX7_tellChange_10 : decode cX7_tellChange 10 = .ok (.aload_n 0, 1) := by decide +kernel
theorem dX7_tellChange_11 : decode cX7_tellChange 11 = .ok (.aload_n 1, 1) := by decide +kernel
theorem dX7_tellChange_12 : decode cX7_tellChange 12 = .ok (.getfield 69, 3) := by decide +kernel
theorem dX7_tellChange_15 : decode cX7_tellChange 15 = .ok (.invokevirtual 75, 3) := by decide +kernel
theorem dX7_tellChange_18 : decode cX7_tellChange 18 = .ok (.aload_n 1, 1) := by decide +kernel
theorem dX7_tellChange_19 : decode cX7_tellChange 19 = .ok (.getfield 144, 3) := by decide +kernel
theorem dX7_tellChange_22 : decode cX7_tellChange 22 = .ok (.ireturn, 1) := by decide +kernel
theorem dX7_solicit_0 : decode cX7_solicit 0 = .ok (.iconst 0, 1) := by decide +kernel
theorem dX7_solicit_1 : decode cX7_solicit 1 = .ok (.istore_n 2, 1) := by decide +kernel
theorem dX7_solicit_2 : decode cX7_solicit 2 = .ok (.iload_n 2, 1) := by decide +kernel
theorem dX7_solicit_3 : decode cX7_solicit 3 = .ok (.iconst 3, 1) := by decide +kernel
theorem dX7_solicit_4 : decode cX7_solicit 4 = .ok (.if_icmp .ge 28, 3) := by decide +kernel
theorem dX7_solicit_7 : decode cX7_solicit 7 = .ok (.aload_n 0, 1) := by decide +kernel
theorem dX7_solicit_8 : decode cX7_solicit 8 = .ok (.dup, 1) := by decide +kernel
theorem dX7_solicit_9 : decode cX7_solicit 9 = .ok (.getfield 39, 3) := by decide +kernel
theorem dX7_solicit_12 : decode cX7_solicit 12 = .ok (.aload_n 0, 1) := by decide +kernel
theorem dX7_solicit_13 : decode cX7_solicit 13 = .ok (.getfield 25, 3) := by decide +kernel
theorem dX7_solicit_16 : decode cX7_solicit 16 = .ok (.iload_n 2, 1) := by decide +kernel
theorem dX7_solicit_17 : decode cX7_solicit 17 = .ok (.aaload, 1) := by decide +kernel
theorem dX7_solicit_18 : decode cX7_solicit 18 = .ok (.aload_n 1, 1) := by decide +kernel
theorem dX7_solicit_19 : decode cX7_solicit 19 = .ok (.invokevirtual 225, 3) := by decide +kernel
theorem dX7_solicit_22 : decode cX7_solicit 22 = .ok (.iadd, 1) := by decide +kernel
theorem dX7_solicit_23 : decode cX7_solicit 23 = .ok (.putfield 39, 3) := by decide +kernel
theorem dX7_solicit_26 : decode cX7_solicit 26 = .ok (.iinc 2 1, 3) := by decide +kernel
theorem dX7_solicit_29 : decode cX7_solicit 29 = .ok (.goto (-27), 3) := by decide +kernel
theorem dX7_solicit_32 : decode cX7_solicit 32 = .ok (.return_, 1) := by decide +kernel
theorem dX7_keepAnswer_0 : decode cX7_keepAnswer 0 = .ok (.aload_n 0, 1) := by decide +kernel
theorem dX7_keepAnswer_1 : decode cX7_keepAnswer 1 = .ok (.getfield 12, 3) := by decide +kernel
theorem dX7_keepAnswer_4 : decode cX7_keepAnswer 4 = .ok (.iload_n 2, 1) := by decide +kernel
theorem dX7_keepAnswer_5 : decode cX7_keepAnswer 5 = .ok (.invokevirtual 138, 3) := by decide +kernel
theorem dX7_keepAnswer_8 : decode cX7_keepAnswer 8 = .ok (.istore_n 3, 1) := by decide +kernel
theorem dX7_keepAnswer_9 : decode cX7_keepAnswer 9 = .ok (.aload_n 0, 1) := by decide +kernel
theorem dX7_keepAnswer_10 : decode cX7_keepAnswer 10 = .ok (.getfield 12, 3) := by decide +kernel
theorem dX7_keepAnswer_13 : decode cX7_keepAnswer 13 = .ok (.iload_n 2, 1) := by decide +kernel
theorem dX7_keepAnswer_14 : decode cX7_keepAnswer 14 = .ok (.iload_n 3, 1) := by decide +kernel
theorem dX7_keepAnswer_15 : decode cX7_keepAnswer 15 = .ok (.invokevirtual 141, 3) := by decide +kernel
theorem dX7_keepAnswer_18 : decode cX7_keepAnswer 18 = .ok (.istore 4, 2) := by decide +kernel
theorem dX7_keepAnswer_20 : decode cX7_keepAnswer 20 = .ok (.iload_n 2, 1) := by decide +kernel
theorem dX7_keepAnswer_21 : decode cX7_keepAnswer 21 = .ok (.iload 4, 2) := by decide +kernel
theorem dX7_keepAnswer_23 : decode cX7_keepAnswer 23 = .ok (.invokestatic 229, 3) := by decide +kernel
theorem dX7_keepAnswer_26 : decode cX7_keepAnswer 26 = .ok (.istore 5, 2) := by decide +kernel
theorem dX7_keepAnswer_28 : decode cX7_keepAnswer 28 = .ok (.aload_n 1, 1) := by decide +kernel
theorem dX7_keepAnswer_29 : decode cX7_keepAnswer 29 = .ok (.iload 5, 2) := by decide +kernel
theorem dX7_keepAnswer_31 : decode cX7_keepAnswer 31 = .ok (.iload 4, 2) := by decide +kernel
theorem dX7_keepAnswer_33 : decode cX7_keepAnswer 33 = .ok (.invokevirtual 232, 3) := by decide +kernel
theorem dX7_keepAnswer_36 : decode cX7_keepAnswer 36 = .ok (.istore 6, 2) := by decide +kernel
theorem dX7_keepAnswer_38 : decode cX7_keepAnswer 38 = .ok (.aload_n 1, 1) := by decide +kernel
theorem dX7_keepAnswer_39 : decode cX7_keepAnswer 39 = .ok (.getfield 235, 3) := by decide +kernel
theorem dX7_keepAnswer_42 : decode cX7_keepAnswer 42 = .ok (.iload 6, 2) := by decide +kernel
theorem dX7_keepAnswer_44 : decode cX7_keepAnswer 44 = .ok (.aaload, 1) := by decide +kernel
theorem dX7_keepAnswer_45 : decode cX7_keepAnswer 45 = .ok (.astore 7, 2) := by decide +kernel
theorem dX7_keepAnswer_47 : decode cX7_keepAnswer 47 = .ok (.aload 7, 2) := by decide +kernel
theorem dX7_keepAnswer_49 : decode cX7_keepAnswer 49 = .ok (.getfield 198, 3) := by decide +kernel
theorem dX7_keepAnswer_52 : decode cX7_keepAnswer 52 = .ok (.iload 5, 2) := by decide +kernel
theorem dX7_keepAnswer_54 : decode cX7_keepAnswer 54 = .ok (.iload 4, 2) := by decide +kernel
theorem dX7_keepAnswer_56 : decode cX7_keepAnswer 56 = .ok (.invokevirtual 239, 3) := by decide +kernel
theorem dX7_keepAnswer_59 : decode cX7_keepAnswer 59 = .ok (.iload_n 3, 1) := by decide +kernel
theorem dX7_keepAnswer_60 : decode cX7_keepAnswer 60 = .ok (.iconst (-1), 1) := by decide +kernel
theorem dX7_keepAnswer_61 : decode cX7_keepAnswer 61 = .ok (.if_icmp .ne 20, 3) := by decide +kernel
theorem dX7_keepAnswer_64 : decode cX7_keepAnswer 64 = .ok (.aload 7, 2) := by decide +kernel
theorem dX7_keepAnswer_66 : decode cX7_keepAnswer 66 = .ok (.aload_n 0, 1) := by decide +kernel
theorem dX7_keepAnswer_67 : decode cX7_keepAnswer 67 = .ok (.getfield 29, 3) := by decide +kernel
theorem dX7_keepAnswer_70 : decode cX7_keepAnswer 70 = .ok (.aload_n 0, 1) := by decide +kernel
theorem dX7_keepAnswer_71 : decode cX7_keepAnswer 71 = .ok (.getfield 36, 3) := by decide +kernel
theorem dX7_keepAnswer_74 : decode cX7_keepAnswer 74 = .ok (.iadd, 1) := by decide +kernel
theorem dX7_keepAnswer_75 : decode cX7_keepAnswer 75 = .ok (.invokevirtual 242, 3) := by decide +kernel
theorem dX7_keepAnswer_78 : decode cX7_keepAnswer 78 = .ok (.goto 27, 3) := by decide +kernel
theorem dX7_keepAnswer_81 : decode cX7_keepAnswer 81 = .ok (.aload 7, 2) := by decide +kernel
theorem dX7_keepAnswer_83 : decode cX7_keepAnswer 83 = .ok (.iload_n 3, 1) := by decide +kernel
theorem dX7_keepAnswer_84 : decode cX7_keepAnswer 84 = .ok (.aload_n 0, 1) := by decide +kernel
theorem dX7_keepAnswer_85 : decode cX7_keepAnswer 85 = .ok (.getfield 12, 3) := by decide +kernel
theorem dX7_keepAnswer_88 : decode cX7_keepAnswer 88 = .ok (.getfield 65, 3) := by decide +kernel
theorem dX7_keepAnswer_91 : decode cX7_keepAnswer 91 = .ok (.iload_n 3, 1) := by decide +kernel
theorem dX7_keepAnswer_92 : decode cX7_keepAnswer 92 = .ok (.aaload, 1) := by decide +kernel
theorem dX7_keepAnswer_93 : decode cX7_keepAnswer 93 = .ok (.aload_n 0, 1) := by decide +kernel
theorem dX7_keepAnswer_94 : decode cX7_keepAnswer 94 = .ok (.getfield 29, 3) := by decide +kernel
theorem dX7_keepAnswer_97 : decode cX7_keepAnswer 97 = .ok (.aload_n 0, 1) := by decide +kernel
theorem dX7_keepAnswer_98 : decode cX7_keepAnswer 98 = .ok (.getfield 33, 3) := by decide +kernel
theorem dX7_keepAnswer_101 : decode cX7_keepAnswer 101 = .ok (.iadd, 1) := by decide +kernel
theorem dX7_keepAnswer_102 : decode cX7_keepAnswer 102 = .ok (.invokevirtual 245, 3) := by decide +kernel
theorem dX7_keepAnswer_105 : decode cX7_keepAnswer 105 = .ok (.iload 6, 2) := by decide +kernel
theorem dX7_keepAnswer_107 : decode cX7_keepAnswer 107 = .ok (.ireturn, 1) := by decide +kernel
theorem dX7_firstBits_0 : decode cX7_firstBits 0 = .ok (.iload_n 0, 1) := by decide +kernel
theorem dX7_firstBits_1 : decode cX7_firstBits 1 = .ok (.iconst 1, 1) := by decide +kernel
theorem dX7_firstBits_2 : decode cX7_firstBits 2 = .ok (.bipush 16, 2) := by decide +kernel
theorem dX7_firstBits_4 : decode cX7_firstBits 4 = .ok (.iload_n 1, 1) := by decide +kernel
theorem dX7_firstBits_5 : decode cX7_firstBits 5 = .ok (.isub, 1) := by decide +kernel
theorem dX7_firstBits_6 : decode cX7_firstBits 6 = .ok (.ishl, 1) := by decide +kernel
theorem dX7_firstBits_7 : decode cX7_firstBits 7 = .ok (.ineg, 1) := by decide +kernel
theorem dX7_firstBits_8 : decode cX7_firstBits 8 = .ok (.iand, 1) := by decide +kernel
theorem dX7_firstBits_9 : decode cX7_firstBits 9 = .ok (.ireturn, 1) := by decide +kernel
theorem dX7_requireIndex_0 : decode cX7_requireIndex 0 = .ok (.iload_n 0, 1) := by decide +kernel
theorem dX7_requireIndex_1 : decode cX7_requireIndex 1 = .ok (.ifCond .lt 8, 3) := by decide +kernel
theorem dX7_requireIndex_4 : decode cX7_requireIndex 4 = .ok (.iload_n 0, 1) := by decide +kernel
theorem dX7_requireIndex_5 : decode cX7_requireIndex 5 = .ok (.iload_n 1, 1) := by decide +kernel
theorem dX7_requireIndex_6 : decode cX7_requireIndex 6 = .ok (.if_icmp .lt 13, 3) := by decide +kernel
theorem dX7_requireIndex_9 : decode cX7_requireIndex 9 = .ok (.new 249, 3) := by decide +kernel
theorem dX7_requireIndex_12 : decode cX7_requireIndex 12 = .ok (.dup, 1) := by decide +kernel
theorem dX7_requireIndex_13 : decode cX7_requireIndex 13 = .ok (.ldc 251, 2) := by decide +kernel
theorem dX7_requireIndex_15 : decode cX7_requireIndex 15 = .ok (.invokespecial 253, 3) := by decide +kernel
theorem dX7_requireIndex_18 : decode cX7_requireIndex 18 = .ok (.athrow, 1) := by decide +kernel
theorem dX7_requireIndex_19 : decode cX7_requireIndex 19 = .ok (.return_, 1) := by decide +kernel
theorem dX7_requireWithin_0 : decode cX7_requireWithin 0 = .ok (.iload_n 0, 1) := by decide +kernel
theorem dX7_requireWithin_1 : decode cX7_requireWithin 1 = .ok (.iload_n 1, 1) := by decide +kernel
theorem dX7_requireWithin_2 : decode cX7_requireWithin 2 = .ok (.if_icmp .lt 8, 3) := by decide +kernel
theorem dX7_requireWithin_5 : decode cX7_requireWithin 5 = .ok (.iload_n 0, 1) := by decide +kernel
theorem dX7_requireWithin_6 : decode cX7_requireWithin 6 = .ok (.iload_n 2, 1) := by decide +kernel
theorem dX7_requireWithin_7 : decode cX7_requireWithin 7 = .ok (.if_icmp .le 14, 3) := by decide +kernel
theorem dX7_requireWithin_10 : decode cX7_requireWithin 10 = .ok (.new 254, 3) := by decide +kernel
theorem dX7_requireWithin_13 : decode cX7_requireWithin 13 = .ok (.dup, 1) := by decide +kernel
theorem dX7_requireWithin_14 : decode cX7_requireWithin 14 = .ok (.ldc_w 256, 3) := by decide +kernel
theorem dX7_requireWithin_17 : decode cX7_requireWithin 17 = .ok (.invokespecial 258, 3) := by decide +kernel
theorem dX7_requireWithin_20 : decode cX7_requireWithin 20 = .ok (.athrow, 1) := by decide +kernel
theorem dX7_requireWithin_21 : decode cX7_requireWithin 21 = .ok (.return_, 1) := by decide +kernel
theorem dX7_requireIdentifier_0 : decode cX7_requireIdentifier 0 = .ok (.iload_n 0, 1) := by decide +kernel
theorem dX7_requireIdentifier_1 : decode cX7_requireIdentifier 1 = .ok (.iconst 0, 1) := by decide +kernel
theorem dX7_requireIdentifier_2 : decode cX7_requireIdentifier 2 = .ok (.ldc_w 259, 3) := by decide +kernel
theorem dX7_requireIdentifier_5 : decode cX7_requireIdentifier 5 = .ok (.invokestatic 99, 3) := by decide +kernel
theorem dX7_requireIdentifier_8 : decode cX7_requireIdentifier 8 = .ok (.return_, 1) := by decide +kernel
theorem dX7_requireAddress_0 : decode cX7_requireAddress 0 = .ok (.iload_n 0, 1) := by decide +kernel
theorem dX7_requireAddress_1 : decode cX7_requireAddress 1 = .ok (.iconst 0, 1) := by decide +kernel
theorem dX7_requireAddress_2 : decode cX7_requireAddress 2 = .ok (.bipush 31, 2) := by decide +kernel
theorem dX7_requireAddress_4 : decode cX7_requireAddress 4 = .ok (.invokestatic 99, 3) := by decide +kernel
theorem dX7_requireAddress_7 : decode cX7_requireAddress 7 = .ok (.return_, 1) := by decide +kernel
theorem dX7_requirePrefix_0 : decode cX7_requirePrefix 0 = .ok (.iload_n 0, 1) := by decide +kernel
theorem dX7_requirePrefix_1 : decode cX7_requirePrefix 1 = .ok (.invokestatic 135, 3) := by decide +kernel
theorem dX7_requirePrefix_4 : decode cX7_requirePrefix 4 = .ok (.iload_n 1, 1) := by decide +kernel
theorem dX7_requirePrefix_5 : decode cX7_requirePrefix 5 = .ok (.iconst 0, 1) := by decide +kernel
theorem dX7_requirePrefix_6 : decode cX7_requirePrefix 6 = .ok (.bipush 16, 2) := by decide +kernel
theorem dX7_requirePrefix_8 : decode cX7_requirePrefix 8 = .ok (.invokestatic 99, 3) := by decide +kernel
theorem dX7_requirePrefix_11 : decode cX7_requirePrefix 11 = .ok (.iload_n 0, 1) := by decide +kernel
theorem dX7_requirePrefix_12 : decode cX7_requirePrefix 12 = .ok (.iload_n 1, 1) := by decide +kernel
theorem dX7_requirePrefix_13 : decode cX7_requirePrefix 13 = .ok (.invokestatic 229, 3) := by decide +kernel
theorem dX7_requirePrefix_16 : decode cX7_requirePrefix 16 = .ok (.iload_n 0, 1) := by decide +kernel
theorem dX7_requirePrefix_17 : decode cX7_requirePrefix 17 = .ok (.if_icmp .eq 14, 3) := by decide +kernel
theorem dX7_requirePrefix_20 : decode cX7_requirePrefix 20 = .ok (.new 254, 3) := by decide +kernel
theorem dX7_requirePrefix_23 : decode cX7_requirePrefix 23 = .ok (.dup, 1) := by decide +kernel
theorem dX7_requirePrefix_24 : decode cX7_requirePrefix 24 = .ok (.ldc_w 260, 3) := by decide +kernel
theorem dX7_requirePrefix_27 : decode cX7_requirePrefix 27 = .ok (.invokespecial 258, 3) := by decide +kernel
theorem dX7_requirePrefix_30 : decode cX7_requirePrefix 30 = .ok (.athrow, 1) := by decide +kernel
theorem dX7_requirePrefix_31 : decode cX7_requirePrefix 31 = .ok (.return_, 1) := by decide +kernel
theorem dX7_requireMapping_0 : decode cX7_requireMapping 0 = .ok (.iload_n 1, 1) := by decide +kernel
theorem dX7_requireMapping_1 : decode cX7_requireMapping 1 = .ok (.aload_n 0, 1) := by decide +kernel
theorem dX7_requireMapping_2 : decode cX7_requireMapping 2 = .ok (.getfield 12, 3) := by decide +kernel
theorem dX7_requireMapping_5 : decode cX7_requireMapping 5 = .ok (.getfield 47, 3) := by decide +kernel
theorem dX7_requireMapping_8 : decode cX7_requireMapping 8 = .ok (.invokestatic 147, 3) := by decide +kernel
theorem dX7_requireMapping_11 : decode cX7_requireMapping 11 = .ok (.aload_n 0, 1) := by decide +kernel
theorem dX7_requireMapping_12 : decode cX7_requireMapping 12 = .ok (.getfield 12, 3) := by decide +kernel
theorem dX7_requireMapping_15 : decode cX7_requireMapping 15 = .ok (.getfield 65, 3) := by decide +kernel
theorem dX7_requireMapping_18 : decode cX7_requireMapping 18 = .ok (.iload_n 1, 1) := by decide +kernel
theorem dX7_requireMapping_19 : decode cX7_requireMapping 19 = .ok (.aaload, 1) := by decide +kernel
theorem dX7_requireMapping_20 : decode cX7_requireMapping 20 = .ok (.areturn, 1) := by decide +kernel
theorem dX7_requireRegistered_0 : decode cX7_requireRegistered 0 = .ok (.aload_n 0, 1) := by decide +kernel
theorem dX7_requireRegistered_1 : decode cX7_requireRegistered 1 = .ok (.getfield 87, 3) := by decide +kernel
theorem dX7_requireRegistered_4 : decode cX7_requireRegistered 4 = .ok (.ifCond .eq 14, 3) := by decide +kernel
theorem dX7_requireRegistered_7 : decode cX7_requireRegistered 7 = .ok (.new 54, 3) := by decide +kernel
theorem dX7_requireRegistered_10 : decode cX7_requireRegistered 10 = .ok (.dup, 1) := by decide +kernel
theorem dX7_requireRegistered_11 : decode cX7_requireRegistered 11 = .ok (.ldc_w 262, 3) := by decide +kernel
theorem dX7_requireRegistered_14 : decode cX7_requireRegistered 14 = .ok (.invokespecial 58, 3) := by decide +kernel
theorem dX7_requireRegistered_17 : decode cX7_requireRegistered 17 = .ok (.athrow, 1) := by decide +kernel
theorem dX7_requireRegistered_18 : decode cX7_requireRegistered 18 = .ok (.return_, 1) := by decide +kernel
theorem dX7_requireLocator_0 : decode cX7_requireLocator 0 = .ok (.aload_n 0, 1) := by decide +kernel
theorem dX7_requireLocator_1 : decode cX7_requireLocator 1 = .ok (.invokestatic 83, 3) := by decide +kernel
theorem dX7_requireLocator_4 : decode cX7_requireLocator 4 = .ok (.aload_n 0, 1) := by decide +kernel
theorem dX7_requireLocator_5 : decode cX7_requireLocator 5 = .ok (.getfield 103, 3) := by decide +kernel
theorem dX7_requireLocator_8 : decode cX7_requireLocator 8 = .ok (.iload_n 1, 1) := by decide +kernel
theorem dX7_requireLocator_9 : decode cX7_requireLocator 9 = .ok (.invokevirtual 110, 3) := by decide +kernel
theorem dX7_requireLocator_12 : decode cX7_requireLocator 12 = .ok (.istore_n 2, 1) := by decide +kernel
theorem dX7_requireLocator_13 : decode cX7_requireLocator 13 = .ok (.iload_n 2, 1) := by decide +kernel
theorem dX7_requireLocator_14 : decode cX7_requireLocator 14 = .ok (.iconst (-1), 1) := by decide +kernel
theorem dX7_requireLocator_15 : decode cX7_requireLocator 15 = .ok (.if_icmp .ne 14, 3) := by decide +kernel
theorem dX7_requireLocator_18 : decode cX7_requireLocator 18 = .ok (.new 54, 3) := by decide +kernel
theorem dX7_requireLocator_21 : decode cX7_requireLocator 21 = .ok (.dup, 1) := by decide +kernel
theorem dX7_requireLocator_22 : decode cX7_requireLocator 22 = .ok (.ldc_w 264, 3) := by decide +kernel
theorem dX7_requireLocator_25 : decode cX7_requireLocator 25 = .ok (.invokespecial 58, 3) := by decide +kernel
theorem dX7_requireLocator_28 : decode cX7_requireLocator 28 = .ok (.athrow, 1) := by decide +kernel
theorem dX7_requireLocator_29 : decode cX7_requireLocator 29 = .ok (.iload_n 2, 1) := by decide +kernel
theorem dX7_requireLocator_30 : decode cX7_requireLocator 30 = .ok (.ireturn, 1) := by decide +kernel
theorem dX7_requireRouter_0 : decode cX7_requireRouter 0 = .ok (.iload_n 1, 1) := by decide +kernel
theorem dX7_requireRouter_1 : decode cX7_requireRouter 1 = .ok (.iconst 3, 1) := by decide +kernel
theorem dX7_requireRouter_2 : decode cX7_requireRouter 2 = .ok (.invokestatic 147, 3) := by decide +kernel
theorem dX7_requireRouter_5 : decode cX7_requireRouter 5 = .ok (.aload_n 0, 1) := by decide +kernel
theorem dX7_requireRouter_6 : decode cX7_requireRouter 6 = .ok (.getfield 25, 3) := by decide +kernel
theorem dX7_requireRouter_9 : decode cX7_requireRouter 9 = .ok (.iload_n 1, 1) := by decide +kernel
theorem dX7_requireRouter_10 : decode cX7_requireRouter 10 = .ok (.aaload, 1) := by decide +kernel
theorem dX7_requireRouter_11 : decode cX7_requireRouter 11 = .ok (.areturn, 1) := by decide +kernel
theorem dX7_requireEntry_0 : decode cX7_requireEntry 0 = .ok (.aload_n 0, 1) := by decide +kernel
theorem dX7_requireEntry_1 : decode cX7_requireEntry 1 = .ok (.iload_n 1, 1) := by decide +kernel
theorem dX7_requireEntry_2 : decode cX7_requireEntry 2 = .ok (.invokevirtual 167, 3) := by decide +kernel
theorem dX7_requireEntry_5 : decode cX7_requireEntry 5 = .ok (.astore_n 3, 1) := by decide +kernel
theorem dX7_requireEntry_6 : decode cX7_requireEntry 6 = .ok (.iload_n 2, 1) := by decide +kernel
theorem dX7_requireEntry_7 : decode cX7_requireEntry 7 = .ok (.aload_n 3, 1) := by decide +kernel
theorem dX7_requireEntry_8 : decode cX7_requireEntry 8 = .ok (.getfield 193, 3) := by decide +kernel
theorem dX7_requireEntry_11 : decode cX7_requireEntry 11 = .ok (.invokestatic 147, 3) := by decide +kernel
theorem dX7_requireEntry_14 : decode cX7_requireEntry 14 = .ok (.aload_n 3, 1) := by decide +kernel
theorem dX7_requireEntry_15 : decode cX7_requireEntry 15 = .ok (.getfield 235, 3) := by decide +kernel
theorem dX7_requireEntry_18 : decode cX7_requireEntry 18 = .ok (.iload_n 2, 1) := by decide +kernel
theorem dX7_requireEntry_19 : decode cX7_requireEntry 19 = .ok (.aaload, 1) := by decide +kernel
theorem dX7_requireEntry_20 : decode cX7_requireEntry 20 = .ok (.areturn, 1) := by decide +kernel
theorem dX8_init_0 : decode cX8_init 0 = .ok (.aload_n 0, 1) := by decide +kernel
theorem dX8_init_1 : decode cX8_init 1 = .ok (.invokespecial 1, 3) := by decide +kernel
theorem dX8_init_4 : decode cX8_init 4 = .ok (.aload_n 0, 1) := by decide +kernel
theorem dX8_init_5 : decode cX8_init 5 = .ok (.bipush 100, 2) := by decide +kernel
theorem dX8_init_7 : decode cX8_init 7 = .ok (.putfield 7, 3) := by decide +kernel
theorem dX8_init_10 : decode cX8_init 10 = .ok (.aload_n 0, 1) := by decide +kernel
theorem dX8_init_11 : decode cX8_init 11 = .ok (.bipush 20, 2) := by decide +kernel
theorem dX8_init_13 : decode cX8_init 13 = .ok (.putfield 13, 3) := by decide +kernel
theorem dX8_init_16 : decode cX8_init 16 = .ok (.aload_n 0, 1) := by decide +kernel
theorem dX8_init_17 : decode cX8_init 17 = .ok (.bipush 24, 2) := by decide +kernel
theorem dX8_init_19 : decode cX8_init 19 = .ok (.newarray .int, 2) := by decide +kernel
theorem dX8_init_21 : decode cX8_init 21 = .ok (.putfield 16, 3) := by decide +kernel
theorem dX8_init_24 : decode cX8_init 24 = .ok (.aload_n 0, 1) := by decide +kernel
theorem dX8_init_25 : decode cX8_init 25 = .ok (.bipush 24, 2) := by decide +kernel
theorem dX8_init_27 : decode cX8_init 27 = .ok (.newarray .int, 2) := by decide +kernel
theorem dX8_init_29 : decode cX8_init 29 = .ok (.putfield 20, 3) := by decide +kernel
theorem dX8_init_32 : decode cX8_init 32 = .ok (.aload_n 0, 1) := by decide +kernel
theorem dX8_init_33 : decode cX8_init 33 = .ok (.bipush 24, 2) := by decide +kernel
theorem dX8_init_35 : decode cX8_init 35 = .ok (.newarray .boolean, 2) := by decide +kernel
theorem dX8_init_37 : decode cX8_init 37 = .ok (.putfield 23, 3) := by decide +kernel
theorem dX8_init_40 : decode cX8_init 40 = .ok (.aload_n 0, 1) := by decide +kernel
theorem dX8_init_41 : decode cX8_init 41 = .ok (.bipush 24, 2) := by decide +kernel
theorem dX8_init_43 : decode cX8_init 43 = .ok (.newarray .int, 2) := by decide +kernel
theorem dX8_init_45 : decode cX8_init 45 = .ok (.putfield 27, 3) := by decide +kernel
theorem dX8_init_48 : decode cX8_init 48 = .ok (.aload_n 0, 1) := by decide +kernel
theorem dX8_init_49 : decode cX8_init 49 = .ok (.bipush 24, 2) := by decide +kernel
theorem dX8_init_51 : decode cX8_init 51 = .ok (.newarray .int, 2) := by decide +kernel
theorem dX8_init_53 : decode cX8_init 53 = .ok (.putfield 30, 3) := by decide +kernel
theorem dX8_init_56 : decode cX8_init 56 = .ok (.aload_n 0, 1) := by decide +kernel
theorem dX8_init_57 : decode cX8_init 57 = .ok (.bipush 96, 2) := by decide +kernel
theorem dX8_init_59 : decode cX8_init 59 = .ok (.newarray .int, 2) := by decide +kernel
theorem dX8_init_61 : decode cX8_init 61 = .ok (.putfield 33, 3) := by decide +kernel
theorem dX8_init_64 : decode cX8_init 64 = .ok (.aload_n 0, 1) := by decide +kernel
theorem dX8_init_65 : decode cX8_init 65 = .ok (.bipush 96, 2) := by decide +kernel
theorem dX8_init_67 : decode cX8_init 67 = .ok (.newarray .int, 2) := by decide +kernel
theorem dX8_init_69 : decode cX8_init 69 = .ok (.putfield 36, 3) := by decide +kernel
theorem dX8_init_72 : decode cX8_init 72 = .ok (.aload_n 0, 1) := by decide +kernel
theorem dX8_init_73 : decode cX8_init 73 = .ok (.bipush 96, 2) := by decide +kernel
theorem dX8_init_75 : decode cX8_init 75 = .ok (.newarray .int, 2) := by decide +kernel
theorem dX8_init_77 : decode cX8_init 77 = .ok (.putfield 39, 3) := by decide +kernel
theorem dX8_init_80 : decode cX8_init 80 = .ok (.aload_n 0, 1) := by decide +kernel
theorem dX8_init_81 : decode cX8_init 81 = .ok (.bipush 12, 2) := by decide +kernel
theorem dX8_init_83 : decode cX8_init 83 = .ok (.newarray .int, 2) := by decide +kernel
theorem dX8_init_85 : decode cX8_init 85 = .ok (.putfield 42, 3) := by decide +kernel
theorem dX8_init_88 : decode cX8_init 88 = .ok (.aload_n 0, 1) := by decide +kernel
theorem dX8_init_89 : decode cX8_init 89 = .ok (.bipush 12, 2) := by decide +kernel
theorem dX8_init_91 : decode cX8_init 91 = .ok (.newarray .int, 2) := by decide +kernel
theorem dX8_init_93 : decode cX8_init 93 = .ok (.putfield 45, 3) := by decide +kernel
theorem dX8_init_96 : decode cX8_init 96 = .ok (.aload_n 0, 1) := by decide +kernel
theorem dX8_init_97 : decode cX8_init 97 = .ok (.bipush 12, 2) := by decide +kernel
theorem dX8_init_99 : decode cX8_init 99 = .ok (.newarray .int, 2) := by decide +kernel
theorem dX8_init_101 : decode cX8_init 101 = .ok (.putfield 48, 3) := by decide +kernel
theorem dX8_init_104 : decode cX8_init 104 = .ok (.aload_n 0, 1) := by decide +kernel
theorem dX8_init_105 : decode cX8_init 105 = .ok (.iconst 4, 1) := by decide +kernel
theorem dX8_init_106 : decode cX8_init 106 = .ok (.newarray .boolean, 2) := by decide +kernel
theorem dX8_init_108 : decode cX8_init 108 = .ok (.putfield 51, 3) := by decide +kernel
theorem dX8_init_111 : decode cX8_init 111 = .ok (.aload_n 0, 1) := by decide +kernel
theorem dX8_init_112 : decode cX8_init 112 = .ok (.iconst 4, 1) := by decide +kernel
theorem dX8_init_113 : decode cX8_init 113 = .ok (.newarray .int, 2) := by decide +kernel
theorem dX8_init_115 : decode cX8_init 115 = .ok (.putfield 54, 3) := by decide +kernel
theorem dX8_init_118 : decode cX8_init 118 = .ok (.aload_n 0, 1) := by decide +kernel
theorem dX8_init_119 : decode cX8_init 119 = .ok (.bipush 24, 2) := by decide +kernel
theorem dX8_init_121 : decode cX8_init 121 = .ok (.newarray .boolean, 2) := by decide +kernel
theorem dX8_init_123 : decode cX8_init 123 = .ok (.putfield 57, 3) := by decide +kernel
theorem dX8_init_126 : decode cX8_init 126 = .ok (.aload_n 0, 1) := by decide +kernel
theorem dX8_init_127 : decode cX8_init 127 = .ok (.bipush 24, 2) := by decide +kernel
theorem dX8_init_129 : decode cX8_init 129 = .ok (.newarray .int, 2) := by decide +kernel
theorem dX8_init_131 : decode cX8_init 131 = .ok (.putfield 60, 3) := by decide +kernel
theorem dX8_init_134 : decode cX8_init 134 = .ok (.aload_n 0, 1) := by decide +kernel
theorem dX8_init_135 : decode cX8_init 135 = .ok (.bipush 24, 2) := by decide +kernel
theorem dX8_init_137 : decode cX8_init 137 = .ok (.newarray .int, 2) := by decide +kernel
theorem dX8_init_139 : decode cX8_init 139 = .ok (.putfield 63, 3) := by decide +kernel
theorem dX8_init_142 : decode cX8_init 142 = .ok (.aload_n 0, 1) := by decide +kernel
theorem dX8_init_143 : decode cX8_init 143 = .ok (.bipush 24, 2) := by decide +kernel
theorem dX8_init_145 : decode cX8_init 145 = .ok (.newarray .int, 2) := by decide +kernel
theorem dX8_init_147 : decode cX8_init 147 = .ok (.putfield 66, 3) := by decide +kernel
theorem dX8_init_150 : decode cX8_init 150 = .ok (.aload_n 0, 1) := by decide +kernel
theorem dX8_init_151 : decode cX8_init 151 = .ok (.bipush 24, 2) := by decide +kernel
theorem dX8_init_153 : decode cX8_init 153 = .ok (.newarray .int, 2) := by decide +kernel
theorem dX8_init_155 : decode cX8_init 155 = .ok (.putfield 69, 3) := by decide +kernel
theorem dX8_init_158 : decode cX8_init 158 = .ok (.aload_n 0, 1) := by decide +kernel
theorem dX8_init_159 : decode cX8_init 159 = .ok (.bipush 24, 2) := by decide +kernel
theorem dX8_init_161 : decode cX8_init 161 = .ok (.newarray .int, 2) := by decide +kernel
theorem dX8_init_163 : decode cX8_init 163 = .ok (.putfield 72, 3) := by decide +kernel
theorem dX8_init_166 : decode cX8_init 166 = .ok (.aload_n 0, 1) := by decide +kernel
theorem dX8_init_167 : decode cX8_init 167 = .ok (.bipush 24, 2) := by decide +kernel
theorem dX8_init_169 : decode cX8_init 169 = .ok (.newarray .int, 2) := by decide +kernel
theorem dX8_init_171 : decode cX8_init 171 = .ok (.putfield 75, 3) := by decide +kernel
theorem dX8_init_174 : decode cX8_init 174 = .ok (.aload_n 0, 1) := by decide +kernel
theorem dX8_init_175 : decode cX8_init 175 = .ok (.bipush 24, 2) := by decide +kernel
theorem dX8_init_177 : decode cX8_init 177 = .ok (.newarray .boolean, 2) := by decide +kernel
theorem dX8_init_179 : decode cX8_init 179 = .ok (.putfield 78, 3) := by decide +kernel
theorem dX8_init_182 : decode cX8_init 182 = .ok (.aload_n 0, 1) := by decide +kernel
theorem dX8_init_183 : decode cX8_init 183 = .ok (.bipush 24, 2) := by decide +kernel
theorem dX8_init_185 : decode cX8_init 185 = .ok (.newarray .int, 2) := by decide +kernel
theorem dX8_init_187 : decode cX8_init 187 = .ok (.putfield 81, 3) := by decide +kernel
theorem dX8_init_190 : decode cX8_init 190 = .ok (.aload_n 0, 1) := by decide +kernel
theorem dX8_init_191 : decode cX8_init 191 = .ok (.bipush 96, 2) := by decide +kernel
theorem dX8_init_193 : decode cX8_init 193 = .ok (.newarray .int, 2) := by decide +kernel
theorem dX8_init_195 : decode cX8_init 195 = .ok (.putfield 84, 3) := by decide +kernel
theorem dX8_init_198 : decode cX8_init 198 = .ok (.aload_n 0, 1) := by decide +kernel
theorem dX8_init_199 : decode cX8_init 199 = .ok (.bipush 96, 2) := by decide +kernel
theorem dX8_init_201 : decode cX8_init 201 = .ok (.newarray .int, 2) := by decide +kernel
theorem dX8_init_203 : decode cX8_init 203 = .ok (.putfield 87, 3) := by decide +kernel
theorem dX8_init_206 : decode cX8_init 206 = .ok (.aload_n 0, 1) := by decide +kernel
theorem dX8_init_207 : decode cX8_init 207 = .ok (.bipush 96, 2) := by decide +kernel
theorem dX8_init_209 : decode cX8_init 209 = .ok (.newarray .int, 2) := by decide +kernel
theorem dX8_init_211 : decode cX8_init 211 = .ok (.putfield 90, 3) := by decide +kernel
theorem dX8_init_214 : decode cX8_init 214 = .ok (.aload_n 0, 1) := by decide +kernel
theorem dX8_init_215 : decode cX8_init 215 = .ok (.bipush 96, 2) := by decide +kernel
theorem dX8_init_217 : decode cX8_init 217 = .ok (.newarray .int, 2) := by decide +kernel
theorem dX8_init_219 : decode cX8_init 219 = .ok (.putfield 93, 3) := by decide +kernel
theorem dX8_init_222 : decode cX8_init 222 = .ok (.aload_n 0, 1) := by decide +kernel
theorem dX8_init_223 : decode cX8_init 223 = .ok (.bipush 96, 2) := by decide +kernel
theorem dX8_init_225 : decode cX8_init 225 = .ok (.newarray .boolean, 2) := by decide +kernel
theorem dX8_init_227 : decode cX8_init 227 = .ok (.putfield 96, 3) := by decide +kernel
theorem dX8_init_230 : decode cX8_init 230 = .ok (.return_, 1) := by decide +kernel
theorem dX8_thrown_0 : decode cX8_thrown 0 = .ok (.aload_n 0, 1) := by decide +kernel
theorem dX8_thrown_1 : decode cX8_thrown 1 = .ok (.getfield 99, 3) := by decide +kernel
theorem dX8_thrown_4 : decode cX8_thrown 4 = .ok (.ireturn, 1) := by decide +kernel
theorem dX8_in_0 : decode cX8_in 0 = .ok (.iload_n 0, 1) := by decide +kernel
theorem dX8_in_1 : decode cX8_in 1 = .ok (.iload_n 1, 1) := by decide +kernel
theorem dX8_in_2 : decode cX8_in 2 = .ok (.if_icmp .lt 12, 3) := by decide +kernel
theorem dX8_in_5 : decode cX8_in 5 = .ok (.iload_n 0, 1) := by decide +kernel
theorem dX8_in_6 : decode cX8_in 6 = .ok (.iload_n 2, 1) := by decide +kernel
theorem dX8_in_7 : decode cX8_in 7 = .ok (.if_icmp .gt 7, 3) := by decide +kernel
theorem dX8_in_10 : decode cX8_in 10 = .ok (.iconst 1, 1) := by decide +kernel
theorem dX8_in_11 : decode cX8_in 11 = .ok (.goto 4, 3) := by decide +kernel
theorem dX8_in_14 : decode cX8_in 14 = .ok (.iconst 0, 1) := by decide +kernel
theorem dX8_in_15 : decode cX8_in 15 = .ok (.ireturn, 1) := by decide +kernel
theorem dX8_isIdentifier_0 : decode cX8_isIdentifier 0 = .ok (.iload_n 0, 1) := by decide +kernel
theorem dX8_isIdentifier_1 : decode cX8_isIdentifier 1 = .ok (.iconst 0, 1) := by decide +kernel
theorem dX8_isIdentifier_2 : decode cX8_isIdentifier 2 = .ok (.ldc 102, 2) := by decide +kernel
theorem dX8_isIdentifier_4 : decode cX8_isIdentifier 4 = .ok (.invokestatic 103, 3) := by decide +kernel
theorem dX8_isIdentifier_7 : decode cX8_isIdentifier 7 = .ok (.ireturn, 1) := by decide +kernel
theorem dX8_first_0 : decode cX8_first 0 = .ok (.iload_n 0, 1) := by decide +kernel
theorem dX8_first_1 : decode cX8_first 1 = .ok (.bipush 16, 2) := by decide +kernel
theorem dX8_first_3 : decode cX8_first 3 = .ok (.iload_n 1, 1) := by decide +kernel
theorem dX8_first_4 : decode cX8_first 4 = .ok (.isub, 1) := by decide +kernel
theorem dX8_first_5 : decode cX8_first 5 = .ok (.ishr, 1) := by decide +kernel
theorem dX8_first_6 : decode cX8_first 6 = .ok (.ireturn, 1) := by decide +kernel
theorem dX8_isPrefix_0 : decode cX8_isPrefix 0 = .ok (.iload_n 0, 1) := by decide +kernel
theorem dX8_isPrefix_1 : decode cX8_isPrefix 1 = .ok (.invokestatic 107, 3) := by decide +kernel
theorem dX8_isPrefix_4 : decode cX8_isPrefix 4 = .ok (.ifCond .eq 31, 3) := by decide +kernel
theorem dX8_isPrefix_7 : decode cX8_isPrefix 7 = .ok (.iload_n 1, 1) := by decide +kernel
theorem dX8_isPrefix_8 : decode cX8_isPrefix 8 = .ok (.iconst 0, 1) := by decide +kernel
theorem dX8_isPrefix_9 : decode cX8_isPrefix 9 = .ok (.bipush 16, 2) := by decide +kernel
theorem dX8_isPrefix_11 : decode cX8_isPrefix 11 = .ok (.invokestatic 103, 3) := by decide +kernel
theorem dX8_isPrefix_14 : decode cX8_isPrefix 14 = .ok (.ifCond .eq 21, 3) := by decide +kernel
theorem dX8_isPrefix_17 : decode cX8_isPrefix 17 = .ok (.iload_n 0, 1) := by decide +kernel
end
section
theorem dX8_isPrefix_18 : decode cX8_isPrefix 18 = .ok (.iload_n 1, 1) := by decide +kernel
theorem dX8_isPrefix_19 : decode cX8_isPrefix 19 = .ok (.invokestatic 111, 3) := by decide +kernel
theorem dX8_isPrefix_22 : decode cX8_isPrefix 22 = .ok (.bipush 16, 2) := by decide +kernel
theorem dX8_isPrefix_24 : decode cX8_isPrefix 24 = .ok (.iload_n 1, 1) := by decide +kernel
theorem dX8_isPrefix_25 : decode cX8_isPrefix 25 = .ok (.isub, 1) := by decide +kernel
theorem dX8_isPrefix_26 : decode cX8_isPrefix 26 = .ok (.ishl, 1) := by decide +kernel
theorem dX8_isPrefix_27 : decode cX8_isPrefix 27 = .ok (.iload_n 0, 1) := by decide +kernel
theorem dX8_isPrefix_28 : decode cX8_isPrefix 28 = .ok (.if_icmp .ne 7, 3) := by decide +kernel
theorem dX8_isPrefix_31 : decode cX8_isPrefix 31 = .ok (.iconst 1, 1) := by decide +kernel
theorem dX8_isPrefix_32 : decode cX8_isPrefix 32 = .ok (.goto 4, 3) := by decide +kernel
theorem dX8_isPrefix_35 : decode cX8_isPrefix 35 = .ok (.iconst 0, 1) := by decide +kernel
theorem dX8_isPrefix_36 : decode cX8_isPrefix 36 = .ok (.ireturn, 1) := by decide +kernel
theorem dX8_meet_0 : decode cX8_meet 0 = .ok (.iload_n 1, 1) := by decide +kernel
theorem dX8_meet_1 : decode cX8_meet 1 = .ok (.iload_n 3, 1) := by decide +kernel
theorem dX8_meet_2 : decode cX8_meet 2 = .ok (.if_icmp .ge 7, 3) := by decide +kernel
theorem dX8_meet_5 : decode cX8_meet 5 = .ok (.iload_n 1, 1) := by decide +kernel
theorem dX8_meet_6 : decode cX8_meet 6 = .ok (.goto 4, 3) := by decide +kernel
theorem dX8_meet_9 : decode cX8_meet 9 = .ok (.iload_n 3, 1) := by decide +kernel
theorem dX8_meet_10 : decode cX8_meet 10 = .ok (.istore 4, 2) := by decide +kernel
theorem dX8_meet_12 : decode cX8_meet 12 = .ok (.iload_n 0, 1) := by decide +kernel
theorem dX8_meet_13 : decode cX8_meet 13 = .ok (.iload 4, 2) := by decide +kernel
theorem dX8_meet_15 : decode cX8_meet 15 = .ok (.invokestatic 111, 3) := by decide +kernel
theorem dX8_meet_18 : decode cX8_meet 18 = .ok (.iload_n 2, 1) := by decide +kernel
theorem dX8_meet_19 : decode cX8_meet 19 = .ok (.iload 4, 2) := by decide +kernel
theorem dX8_meet_21 : decode cX8_meet 21 = .ok (.invokestatic 111, 3) := by decide +kernel
theorem dX8_meet_24 : decode cX8_meet 24 = .ok (.if_icmp .ne 7, 3) := by decide +kernel
theorem dX8_meet_27 : decode cX8_meet 27 = .ok (.iconst 1, 1) := by decide +kernel
theorem dX8_meet_28 : decode cX8_meet 28 = .ok (.goto 4, 3) := by decide +kernel
theorem dX8_meet_31 : decode cX8_meet 31 = .ok (.iconst 0, 1) := by decide +kernel
theorem dX8_meet_32 : decode cX8_meet 32 = .ok (.ireturn, 1) := by decide +kernel
theorem dX8_covers_0 : decode cX8_covers 0 = .ok (.iload_n 0, 1) := by decide +kernel
theorem dX8_covers_1 : decode cX8_covers 1 = .ok (.iload_n 1, 1) := by decide +kernel
theorem dX8_covers_2 : decode cX8_covers 2 = .ok (.invokestatic 111, 3) := by decide +kernel
theorem dX8_covers_5 : decode cX8_covers 5 = .ok (.iload_n 2, 1) := by decide +kernel
theorem dX8_covers_6 : decode cX8_covers 6 = .ok (.iload_n 1, 1) := by decide +kernel
theorem dX8_covers_7 : decode cX8_covers 7 = .ok (.invokestatic 111, 3) := by decide +kernel
theorem dX8_covers_10 : decode cX8_covers 10 = .ok (.if_icmp .ne 7, 3) := by decide +kernel
theorem dX8_covers_13 : decode cX8_covers 13 = .ok (.iconst 1, 1) := by decide +kernel
theorem dX8_covers_14 : decode cX8_covers 14 = .ok (.goto 4, 3) := by decide +kernel
theorem dX8_covers_17 : decode cX8_covers 17 = .ok (.iconst 0, 1) := by decide +kernel
theorem dX8_covers_18 : decode cX8_covers 18 = .ok (.ireturn, 1) := by decide +kernel
theorem dX8_isMapping_0 : decode cX8_isMapping 0 = .ok (.iload_n 1, 1) := by decide +kernel
theorem dX8_isMapping_1 : decode cX8_isMapping 1 = .ok (.iconst 0, 1) := by decide +kernel
theorem dX8_isMapping_2 : decode cX8_isMapping 2 = .ok (.aload_n 0, 1) := by decide +kernel
theorem dX8_isMapping_3 : decode cX8_isMapping 3 = .ok (.getfield 115, 3) := by decide +kernel
theorem dX8_isMapping_6 : decode cX8_isMapping 6 = .ok (.iconst 1, 1) := by decide +kernel
theorem dX8_isMapping_7 : decode cX8_isMapping 7 = .ok (.isub, 1) := by decide +kernel
theorem dX8_isMapping_8 : decode cX8_isMapping 8 = .ok (.invokestatic 103, 3) := by decide +kernel
theorem dX8_isMapping_11 : decode cX8_isMapping 11 = .ok (.ireturn, 1) := by decide +kernel
theorem dX8_solicits_0 : decode cX8_solicits 0 = .ok (.iconst 0, 1) := by decide +kernel
theorem dX8_solicits_1 : decode cX8_solicits 1 = .ok (.istore_n 2, 1) := by decide +kernel
theorem dX8_solicits_2 : decode cX8_solicits 2 = .ok (.iload_n 2, 1) := by decide +kernel
theorem dX8_solicits_3 : decode cX8_solicits 3 = .ok (.iconst 3, 1) := by decide +kernel
theorem dX8_solicits_4 : decode cX8_solicits 4 = .ok (.if_icmp .ge 96, 3) := by decide +kernel
theorem dX8_solicits_7 : decode cX8_solicits 7 = .ok (.bipush 8, 2) := by decide +kernel
theorem dX8_solicits_9 : decode cX8_solicits 9 = .ok (.iload_n 2, 1) := by decide +kernel
theorem dX8_solicits_10 : decode cX8_solicits 10 = .ok (.imul, 1) := by decide +kernel
theorem dX8_solicits_11 : decode cX8_solicits 11 = .ok (.istore_n 3, 1) := by decide +kernel
theorem dX8_solicits_12 : decode cX8_solicits 12 = .ok (.iload_n 3, 1) := by decide +kernel
theorem dX8_solicits_13 : decode cX8_solicits 13 = .ok (.bipush 8, 2) := by decide +kernel
theorem dX8_solicits_15 : decode cX8_solicits 15 = .ok (.iload_n 2, 1) := by decide +kernel
theorem dX8_solicits_16 : decode cX8_solicits 16 = .ok (.imul, 1) := by decide +kernel
theorem dX8_solicits_17 : decode cX8_solicits 17 = .ok (.bipush 8, 2) := by decide +kernel
theorem dX8_solicits_19 : decode cX8_solicits 19 = .ok (.iadd, 1) := by decide +kernel
theorem dX8_solicits_20 : decode cX8_solicits 20 = .ok (.if_icmp .ge 74, 3) := by decide +kernel
theorem dX8_solicits_23 : decode cX8_solicits 23 = .ok (.aload_n 0, 1) := by decide +kernel
theorem dX8_solicits_24 : decode cX8_solicits 24 = .ok (.getfield 57, 3) := by decide +kernel
theorem dX8_solicits_27 : decode cX8_solicits 27 = .ok (.iload_n 3, 1) := by decide +kernel
theorem dX8_solicits_28 : decode cX8_solicits 28 = .ok (.baload, 1) := by decide +kernel
theorem dX8_solicits_29 : decode cX8_solicits 29 = .ok (.ifCond .eq 59, 3) := by decide +kernel
theorem dX8_solicits_32 : decode cX8_solicits 32 = .ok (.aload_n 0, 1) := by decide +kernel
theorem dX8_solicits_33 : decode cX8_solicits 33 = .ok (.getfield 78, 3) := by decide +kernel
theorem dX8_solicits_36 : decode cX8_solicits 36 = .ok (.iload_n 3, 1) := by decide +kernel
theorem dX8_solicits_37 : decode cX8_solicits 37 = .ok (.baload, 1) := by decide +kernel
theorem dX8_solicits_38 : decode cX8_solicits 38 = .ok (.ifCond .ne 50, 3) := by decide +kernel
theorem dX8_solicits_41 : decode cX8_solicits 41 = .ok (.aload_n 0, 1) := by decide +kernel
theorem dX8_solicits_42 : decode cX8_solicits 42 = .ok (.getfield 63, 3) := by decide +kernel
theorem dX8_solicits_45 : decode cX8_solicits 45 = .ok (.iload_n 3, 1) := by decide +kernel
theorem dX8_solicits_46 : decode cX8_solicits 46 = .ok (.iaload, 1) := by decide +kernel
theorem dX8_solicits_47 : decode cX8_solicits 47 = .ok (.aload_n 0, 1) := by decide +kernel
theorem dX8_solicits_48 : decode cX8_solicits 48 = .ok (.getfield 66, 3) := by decide +kernel
theorem dX8_solicits_51 : decode cX8_solicits 51 = .ok (.iload_n 3, 1) := by decide +kernel
theorem dX8_solicits_52 : decode cX8_solicits 52 = .ok (.iaload, 1) := by decide +kernel
theorem dX8_solicits_53 : decode cX8_solicits 53 = .ok (.aload_n 0, 1) := by decide +kernel
theorem dX8_solicits_54 : decode cX8_solicits 54 = .ok (.getfield 16, 3) := by decide +kernel
theorem dX8_solicits_57 : decode cX8_solicits 57 = .ok (.iload_n 1, 1) := by decide +kernel
theorem dX8_solicits_58 : decode cX8_solicits 58 = .ok (.iaload, 1) := by decide +kernel
theorem dX8_solicits_59 : decode cX8_solicits 59 = .ok (.aload_n 0, 1) := by decide +kernel
theorem dX8_solicits_60 : decode cX8_solicits 60 = .ok (.getfield 20, 3) := by decide +kernel
theorem dX8_solicits_63 : decode cX8_solicits 63 = .ok (.iload_n 1, 1) := by decide +kernel
theorem dX8_solicits_64 : decode cX8_solicits 64 = .ok (.iaload, 1) := by decide +kernel
theorem dX8_solicits_65 : decode cX8_solicits 65 = .ok (.invokestatic 118, 3) := by decide +kernel
theorem dX8_solicits_68 : decode cX8_solicits 68 = .ok (.ifCond .eq 20, 3) := by decide +kernel
theorem dX8_solicits_71 : decode cX8_solicits 71 = .ok (.aload_n 0, 1) := by decide +kernel
theorem dX8_solicits_72 : decode cX8_solicits 72 = .ok (.getfield 78, 3) := by decide +kernel
theorem dX8_solicits_75 : decode cX8_solicits 75 = .ok (.iload_n 3, 1) := by decide +kernel
theorem dX8_solicits_76 : decode cX8_solicits 76 = .ok (.iconst 1, 1) := by decide +kernel
theorem dX8_solicits_77 : decode cX8_solicits 77 = .ok (.bastore, 1) := by decide +kernel
theorem dX8_solicits_78 : decode cX8_solicits 78 = .ok (.aload_n 0, 1) := by decide +kernel
theorem dX8_solicits_79 : decode cX8_solicits 79 = .ok (.dup, 1) := by decide +kernel
theorem dX8_solicits_80 : decode cX8_solicits 80 = .ok (.getfield 122, 3) := by decide +kernel
theorem dX8_solicits_83 : decode cX8_solicits 83 = .ok (.iconst 1, 1) := by decide +kernel
theorem dX8_solicits_84 : decode cX8_solicits 84 = .ok (.iadd, 1) := by decide +kernel
theorem dX8_solicits_85 : decode cX8_solicits 85 = .ok (.putfield 122, 3) := by decide +kernel
theorem dX8_solicits_88 : decode cX8_solicits 88 = .ok (.iinc 3 1, 3) := by decide +kernel
theorem dX8_solicits_91 : decode cX8_solicits 91 = .ok (.goto (-79), 3) := by decide +kernel
theorem dX8_solicits_94 : decode cX8_solicits 94 = .ok (.iinc 2 1, 3) := by decide +kernel
theorem dX8_solicits_97 : decode cX8_solicits 97 = .ok (.goto (-95), 3) := by decide +kernel
theorem dX8_solicits_100 : decode cX8_solicits 100 = .ok (.return_, 1) := by decide +kernel
theorem dX8_register_0 : decode cX8_register 0 = .ok (.aload_n 0, 1) := by decide +kernel
theorem dX8_register_1 : decode cX8_register 1 = .ok (.iload_n 1, 1) := by decide +kernel
theorem dX8_register_2 : decode cX8_register 2 = .ok (.iload_n 2, 1) := by decide +kernel
theorem dX8_register_3 : decode cX8_register 3 = .ok (.invokestatic 125, 3) := by decide +kernel
theorem dX8_register_6 : decode cX8_register 6 = .ok (.ifCond .eq 7, 3) := by decide +kernel
theorem dX8_register_9 : decode cX8_register 9 = .ok (.iconst 0, 1) := by decide +kernel
theorem dX8_register_10 : decode cX8_register 10 = .ok (.goto 4, 3) := by decide +kernel
theorem dX8_register_13 : decode cX8_register 13 = .ok (.iconst 1, 1) := by decide +kernel
theorem dX8_register_14 : decode cX8_register 14 = .ok (.putfield 99, 3) := by decide +kernel
theorem dX8_register_17 : decode cX8_register 17 = .ok (.aload_n 0, 1) := by decide +kernel
theorem dX8_register_18 : decode cX8_register 18 = .ok (.getfield 99, 3) := by decide +kernel
theorem dX8_register_21 : decode cX8_register 21 = .ok (.ifCond .le 5, 3) := by decide +kernel
theorem dX8_register_24 : decode cX8_register 24 = .ok (.iconst 0, 1) := by decide +kernel
theorem dX8_register_25 : decode cX8_register 25 = .ok (.ireturn, 1) := by decide +kernel
theorem dX8_register_26 : decode cX8_register 26 = .ok (.aload_n 0, 1) := by decide +kernel
theorem dX8_register_27 : decode cX8_register 27 = .ok (.getfield 115, 3) := by decide +kernel
theorem dX8_register_30 : decode cX8_register 30 = .ok (.bipush 24, 2) := by decide +kernel
theorem dX8_register_32 : decode cX8_register 32 = .ok (.if_icmp .ge 7, 3) := by decide +kernel
theorem dX8_register_35 : decode cX8_register 35 = .ok (.iconst 1, 1) := by decide +kernel
theorem dX8_register_36 : decode cX8_register 36 = .ok (.goto 4, 3) := by decide +kernel
theorem dX8_register_39 : decode cX8_register 39 = .ok (.iconst 0, 1) := by decide +kernel
theorem dX8_register_40 : decode cX8_register 40 = .ok (.istore_n 3, 1) := by decide +kernel
theorem dX8_register_41 : decode cX8_register 41 = .ok (.iconst 0, 1) := by decide +kernel
theorem dX8_register_42 : decode cX8_register 42 = .ok (.istore 4, 2) := by decide +kernel
theorem dX8_register_44 : decode cX8_register 44 = .ok (.iload 4, 2) := by decide +kernel
theorem dX8_register_46 : decode cX8_register 46 = .ok (.aload_n 0, 1) := by decide +kernel
theorem dX8_register_47 : decode cX8_register 47 = .ok (.getfield 115, 3) := by decide +kernel
theorem dX8_register_50 : decode cX8_register 50 = .ok (.if_icmp .ge 51, 3) := by decide +kernel
theorem dX8_register_53 : decode cX8_register 53 = .ok (.iload_n 3, 1) := by decide +kernel
theorem dX8_register_54 : decode cX8_register 54 = .ok (.ifCond .eq 39, 3) := by decide +kernel
theorem dX8_register_57 : decode cX8_register 57 = .ok (.aload_n 0, 1) := by decide +kernel
theorem dX8_register_58 : decode cX8_register 58 = .ok (.getfield 23, 3) := by decide +kernel
theorem dX8_register_61 : decode cX8_register 61 = .ok (.iload 4, 2) := by decide +kernel
theorem dX8_register_63 : decode cX8_register 63 = .ok (.baload, 1) := by decide +kernel
theorem dX8_register_64 : decode cX8_register 64 = .ok (.ifCond .ne 25, 3) := by decide +kernel
theorem dX8_register_67 : decode cX8_register 67 = .ok (.aload_n 0, 1) := by decide +kernel
theorem dX8_register_68 : decode cX8_register 68 = .ok (.getfield 16, 3) := by decide +kernel
theorem dX8_register_71 : decode cX8_register 71 = .ok (.iload 4, 2) := by decide +kernel
theorem dX8_register_73 : decode cX8_register 73 = .ok (.iaload, 1) := by decide +kernel
theorem dX8_register_74 : decode cX8_register 74 = .ok (.iload_n 1, 1) := by decide +kernel
theorem dX8_register_75 : decode cX8_register 75 = .ok (.if_icmp .ne 14, 3) := by decide +kernel
theorem dX8_register_78 : decode cX8_register 78 = .ok (.aload_n 0, 1) := by decide +kernel
theorem dX8_register_79 : decode cX8_register 79 = .ok (.getfield 20, 3) := by decide +kernel
theorem dX8_register_82 : decode cX8_register 82 = .ok (.iload 4, 2) := by decide +kernel
theorem dX8_register_84 : decode cX8_register 84 = .ok (.iaload, 1) := by decide +kernel
theorem dX8_register_85 : decode cX8_register 85 = .ok (.iload_n 2, 1) := by decide +kernel
theorem dX8_register_86 : decode cX8_register 86 = .ok (.if_icmp .eq 7, 3) := by decide +kernel
theorem dX8_register_89 : decode cX8_register 89 = .ok (.iconst 1, 1) := by decide +kernel
theorem dX8_register_90 : decode cX8_register 90 = .ok (.goto 4, 3) := by decide +kernel
theorem dX8_register_93 : decode cX8_register 93 = .ok (.iconst 0, 1) := by decide +kernel
theorem dX8_register_94 : decode cX8_register 94 = .ok (.istore_n 3, 1) := by decide +kernel
theorem dX8_register_95 : decode cX8_register 95 = .ok (.iinc 4 1, 3) := by decide +kernel
theorem dX8_register_98 : decode cX8_register 98 = .ok (.goto (-54), 3) := by decide +kernel
theorem dX8_register_101 : decode cX8_register 101 = .ok (.aload_n 0, 1) := by decide +kernel
theorem dX8_register_102 : decode cX8_register 102 = .ok (.iload_n 3, 1) := by decide +kernel
theorem dX8_register_103 : decode cX8_register 103 = .ok (.ifCond .eq 7, 3) := by decide +kernel
theorem dX8_register_106 : decode cX8_register 106 = .ok (.iconst 0, 1) := by decide +kernel
theorem dX8_register_107 : decode cX8_register 107 = .ok (.goto 4, 3) := by decide +kernel
theorem dX8_register_110 : decode cX8_register 110 = .ok (.iconst 2, 1) := by decide +kernel
theorem dX8_register_111 : decode cX8_register 111 = .ok (.putfield 99, 3) := by decide +kernel
theorem dX8_register_114 : decode cX8_register 114 = .ok (.aload_n 0, 1) := by decide +kernel
theorem dX8_register_115 : decode cX8_register 115 = .ok (.getfield 99, 3) := by decide +kernel
theorem dX8_register_118 : decode cX8_register 118 = .ok (.ifCond .le 5, 3) := by decide +kernel
theorem dX8_register_121 : decode cX8_register 121 = .ok (.iconst 0, 1) := by decide +kernel
theorem dX8_register_122 : decode cX8_register 122 = .ok (.ireturn, 1) := by decide +kernel
theorem dX8_register_123 : decode cX8_register 123 = .ok (.aload_n 0, 1) := by decide +kernel
theorem dX8_register_124 : decode cX8_register 124 = .ok (.getfield 115, 3) := by decide +kernel
theorem dX8_register_127 : decode cX8_register 127 = .ok (.istore 4, 2) := by decide +kernel
theorem dX8_register_129 : decode cX8_register 129 = .ok (.aload_n 0, 1) := by decide +kernel
theorem dX8_register_130 : decode cX8_register 130 = .ok (.dup, 1) := by decide +kernel
theorem dX8_register_131 : decode cX8_register 131 = .ok (.getfield 115, 3) := by decide +kernel
theorem dX8_register_134 : decode cX8_register 134 = .ok (.iconst 1, 1) := by decide +kernel
theorem dX8_register_135 : decode cX8_register 135 = .ok (.iadd, 1) := by decide +kernel
theorem dX8_register_136 : decode cX8_register 136 = .ok (.putfield 115, 3) := by decide +kernel
theorem dX8_register_139 : decode cX8_register 139 = .ok (.aload_n 0, 1) := by decide +kernel
theorem dX8_register_140 : decode cX8_register 140 = .ok (.getfield 16, 3) := by decide +kernel
theorem dX8_register_143 : decode cX8_register 143 = .ok (.iload 4, 2) := by decide +kernel
theorem dX8_register_145 : decode cX8_register 145 = .ok (.iload_n 1, 1) := by decide +kernel
theorem dX8_register_146 : decode cX8_register 146 = .ok (.iastore, 1) := by decide +kernel
theorem dX8_register_147 : decode cX8_register 147 = .ok (.aload_n 0, 1) := by decide +kernel
theorem dX8_register_148 : decode cX8_register 148 = .ok (.getfield 20, 3) := by decide +kernel
theorem dX8_register_151 : decode cX8_register 151 = .ok (.iload 4, 2) := by decide +kernel
theorem dX8_register_153 : decode cX8_register 153 = .ok (.iload_n 2, 1) := by decide +kernel
theorem dX8_register_154 : decode cX8_register 154 = .ok (.iastore, 1) := by decide +kernel
theorem dX8_register_155 : decode cX8_register 155 = .ok (.aload_n 0, 1) := by decide +kernel
theorem dX8_register_156 : decode cX8_register 156 = .ok (.getfield 27, 3) := by decide +kernel
theorem dX8_register_159 : decode cX8_register 159 = .ok (.iload 4, 2) := by decide +kernel
theorem dX8_register_161 : decode cX8_register 161 = .ok (.iconst 1, 1) := by decide +kernel
theorem dX8_register_162 : decode cX8_register 162 = .ok (.iastore, 1) := by decide +kernel
theorem dX8_register_163 : decode cX8_register 163 = .ok (.aload_n 0, 1) := by decide +kernel
theorem dX8_register_164 : decode cX8_register 164 = .ok (.iload 4, 2) := by decide +kernel
theorem dX8_register_166 : decode cX8_register 166 = .ok (.invokevirtual 129, 3) := by decide +kernel
theorem dX8_register_169 : decode cX8_register 169 = .ok (.iload 4, 2) := by decide +kernel
theorem dX8_register_171 : decode cX8_register 171 = .ok (.ireturn, 1) := by decide +kernel
theorem dX8_withdraw_0 : decode cX8_withdraw 0 = .ok (.aload_n 0, 1) := by decide +kernel
theorem dX8_withdraw_1 : decode cX8_withdraw 1 = .ok (.aload_n 0, 1) := by decide +kernel
theorem dX8_withdraw_2 : decode cX8_withdraw 2 = .ok (.iload_n 1, 1) := by decide +kernel
theorem dX8_withdraw_3 : decode cX8_withdraw 3 = .ok (.invokevirtual 133, 3) := by decide +kernel
theorem dX8_withdraw_6 : decode cX8_withdraw 6 = .ok (.ifCond .ne 7, 3) := by decide +kernel
theorem dX8_withdraw_9 : decode cX8_withdraw 9 = .ok (.iconst 1, 1) := by decide +kernel
theorem dX8_withdraw_10 : decode cX8_withdraw 10 = .ok (.goto 17, 3) := by decide +kernel
theorem dX8_withdraw_13 : decode cX8_withdraw 13 = .ok (.aload_n 0, 1) := by decide +kernel
theorem dX8_withdraw_14 : decode cX8_withdraw 14 = .ok (.getfield 23, 3) := by decide +kernel
theorem dX8_withdraw_17 : decode cX8_withdraw 17 = .ok (.iload_n 1, 1) := by decide +kernel
theorem dX8_withdraw_18 : decode cX8_withdraw 18 = .ok (.baload, 1) := by decide +kernel
theorem dX8_withdraw_19 : decode cX8_withdraw 19 = .ok (.ifCond .eq 7, 3) := by decide +kernel
theorem dX8_withdraw_22 : decode cX8_withdraw 22 = .ok (.iconst 2, 1) := by decide +kernel
theorem dX8_withdraw_23 : decode cX8_withdraw 23 = .ok (.goto 4, 3) := by decide +kernel
theorem dX8_withdraw_26 : decode cX8_withdraw 26 = .ok (.iconst 0, 1) := by decide +kernel
theorem dX8_withdraw_27 : decode cX8_withdraw 27 = .ok (.putfield 99, 3) := by decide +kernel
theorem dX8_withdraw_30 : decode cX8_withdraw 30 = .ok (.aload_n 0, 1) := by decide +kernel
theorem dX8_withdraw_31 : decode cX8_withdraw 31 = .ok (.getfield 99, 3) := by decide +kernel
theorem dX8_withdraw_34 : decode cX8_withdraw 34 = .ok (.ifCond .le 5, 3) := by decide +kernel
theorem dX8_withdraw_37 : decode cX8_withdraw 37 = .ok (.iconst 0, 1) := by decide +kernel
theorem dX8_withdraw_38 : decode cX8_withdraw 38 = .ok (.ireturn, 1) := by decide +kernel
theorem dX8_withdraw_39 : decode cX8_withdraw 39 = .ok (.aload_n 0, 1) := by decide +kernel
theorem dX8_withdraw_40 : decode cX8_withdraw 40 = .ok (.getfield 23, 3) := by decide +kernel
theorem dX8_withdraw_43 : decode cX8_withdraw 43 = .ok (.iload_n 1, 1) := by decide +kernel
theorem dX8_withdraw_44 : decode cX8_withdraw 44 = .ok (.iconst 1, 1) := by decide +kernel
theorem dX8_withdraw_45 : decode cX8_withdraw 45 = .ok (.bastore, 1) := by decide +kernel
theorem dX8_withdraw_46 : decode cX8_withdraw 46 = .ok (.aload_n 0, 1) := by decide +kernel
theorem dX8_withdraw_47 : decode cX8_withdraw 47 = .ok (.iload_n 1, 1) := by decide +kernel
theorem dX8_withdraw_48 : decode cX8_withdraw 48 = .ok (.invokevirtual 129, 3) := by decide +kernel
theorem dX8_withdraw_51 : decode cX8_withdraw 51 = .ok (.iconst 0, 1) := by decide +kernel
theorem dX8_withdraw_52 : decode cX8_withdraw 52 = .ok (.istore_n 2, 1) := by decide +kernel
theorem dX8_withdraw_53 : decode cX8_withdraw 53 = .ok (.iconst 0, 1) := by decide +kernel
theorem dX8_withdraw_54 : decode cX8_withdraw 54 = .ok (.istore_n 3, 1) := by decide +kernel
theorem dX8_withdraw_55 : decode cX8_withdraw 55 = .ok (.iload_n 3, 1) := by decide +kernel
theorem dX8_withdraw_56 : decode cX8_withdraw 56 = .ok (.aload_n 0, 1) := by decide +kernel
theorem dX8_withdraw_57 : decode cX8_withdraw 57 = .ok (.getfield 115, 3) := by decide +kernel
theorem dX8_withdraw_60 : decode cX8_withdraw 60 = .ok (.if_icmp .ge 26, 3) := by decide +kernel
theorem dX8_withdraw_63 : decode cX8_withdraw 63 = .ok (.iload_n 2, 1) := by decide +kernel
theorem dX8_withdraw_64 : decode cX8_withdraw 64 = .ok (.aload_n 0, 1) := by decide +kernel
theorem dX8_withdraw_65 : decode cX8_withdraw 65 = .ok (.getfield 23, 3) := by decide +kernel
theorem dX8_withdraw_68 : decode cX8_withdraw 68 = .ok (.iload_n 3, 1) := by decide +kernel
theorem dX8_withdraw_69 : decode cX8_withdraw 69 = .ok (.baload, 1) := by decide +kernel
theorem dX8_withdraw_70 : decode cX8_withdraw 70 = .ok (.ifCond .eq 7, 3) := by decide +kernel
theorem dX8_withdraw_73 : decode cX8_withdraw 73 = .ok (.iconst 0, 1) := by decide +kernel
theorem dX8_withdraw_74 : decode cX8_withdraw 74 = .ok (.goto 4, 3) := by decide +kernel
theorem dX8_withdraw_77 : decode cX8_withdraw 77 = .ok (.iconst 1, 1) := by decide +kernel
theorem dX8_withdraw_78 : decode cX8_withdraw 78 = .ok (.iadd, 1) := by decide +kernel
theorem dX8_withdraw_79 : decode cX8_withdraw 79 = .ok (.istore_n 2, 1) := by decide +kernel
theorem dX8_withdraw_80 : decode cX8_withdraw 80 = .ok (.iinc 3 1, 3) := by decide +kernel
theorem dX8_withdraw_83 : decode cX8_withdraw 83 = .ok (.goto (-28), 3) := by decide +kernel
theorem dX8_withdraw_86 : decode cX8_withdraw 86 = .ok (.iload_n 2, 1) := by decide +kernel
theorem dX8_withdraw_87 : decode cX8_withdraw 87 = .ok (.ireturn, 1) := by decide +kernel
theorem dX8_placeOf_0 : decode cX8_placeOf 0 = .ok (.iconst (-1), 1) := by decide +kernel
theorem dX8_placeOf_1 : decode cX8_placeOf 1 = .ok (.istore_n 3, 1) := by decide +kernel
theorem dX8_placeOf_2 : decode cX8_placeOf 2 = .ok (.iconst 4, 1) := by decide +kernel
theorem dX8_placeOf_3 : decode cX8_placeOf 3 = .ok (.iload_n 1, 1) := by decide +kernel
theorem dX8_placeOf_4 : decode cX8_placeOf 4 = .ok (.imul, 1) := by decide +kernel
theorem dX8_placeOf_5 : decode cX8_placeOf 5 = .ok (.istore 4, 2) := by decide +kernel
theorem dX8_placeOf_7 : decode cX8_placeOf 7 = .ok (.iload 4, 2) := by decide +kernel
theorem dX8_placeOf_9 : decode cX8_placeOf 9 = .ok (.iconst 4, 1) := by decide +kernel
theorem dX8_placeOf_10 : decode cX8_placeOf 10 = .ok (.iload_n 1, 1) := by decide +kernel
theorem dX8_placeOf_11 : decode cX8_placeOf 11 = .ok (.imul, 1) := by decide +kernel
theorem dX8_placeOf_12 : decode cX8_placeOf 12 = .ok (.aload_n 0, 1) := by decide +kernel
theorem dX8_placeOf_13 : decode cX8_placeOf 13 = .ok (.getfield 30, 3) := by decide +kernel
theorem dX8_placeOf_16 : decode cX8_placeOf 16 = .ok (.iload_n 1, 1) := by decide +kernel
theorem dX8_placeOf_17 : decode cX8_placeOf 17 = .ok (.iaload, 1) := by decide +kernel
theorem dX8_placeOf_18 : decode cX8_placeOf 18 = .ok (.iadd, 1) := by decide +kernel
theorem dX8_placeOf_19 : decode cX8_placeOf 19 = .ok (.if_icmp .ge 27, 3) := by decide +kernel
theorem dX8_placeOf_22 : decode cX8_placeOf 22 = .ok (.aload_n 0, 1) := by decide +kernel
theorem dX8_placeOf_23 : decode cX8_placeOf 23 = .ok (.getfield 33, 3) := by decide +kernel
theorem dX8_placeOf_26 : decode cX8_placeOf 26 = .ok (.iload 4, 2) := by decide +kernel
theorem dX8_placeOf_28 : decode cX8_placeOf 28 = .ok (.iaload, 1) := by decide +kernel
theorem dX8_placeOf_29 : decode cX8_placeOf 29 = .ok (.iload_n 2, 1) := by decide +kernel
theorem dX8_placeOf_30 : decode cX8_placeOf 30 = .ok (.if_icmp .ne 8, 3) := by decide +kernel
theorem dX8_placeOf_33 : decode cX8_placeOf 33 = .ok (.iload 4, 2) := by decide +kernel
theorem dX8_placeOf_35 : decode cX8_placeOf 35 = .ok (.goto 4, 3) := by decide +kernel
theorem dX8_placeOf_38 : decode cX8_placeOf 38 = .ok (.iload_n 3, 1) := by decide +kernel
theorem dX8_placeOf_39 : decode cX8_placeOf 39 = .ok (.istore_n 3, 1) := by decide +kernel
theorem dX8_placeOf_40 : decode cX8_placeOf 40 = .ok (.iinc 4 1, 3) := by decide +kernel
theorem dX8_placeOf_43 : decode cX8_placeOf 43 = .ok (.goto (-36), 3) := by decide +kernel
theorem dX8_placeOf_46 : decode cX8_placeOf 46 = .ok (.iload_n 3, 1) := by decide +kernel
theorem dX8_placeOf_47 : decode cX8_placeOf 47 = .ok (.ireturn, 1) := by decide +kernel
theorem dX8_changes_0 : decode cX8_changes 0 = .ok (.aload_n 0, 1) := by decide +kernel
theorem dX8_changes_1 : decode cX8_changes 1 = .ok (.getfield 27, 3) := by decide +kernel
theorem dX8_changes_4 : decode cX8_changes 4 = .ok (.iload_n 1, 1) := by decide +kernel
theorem dX8_changes_5 : decode cX8_changes 5 = .ok (.dup2, 1) := by decide +kernel
theorem dX8_changes_6 : decode cX8_changes 6 = .ok (.iaload, 1) := by decide +kernel
theorem dX8_changes_7 : decode cX8_changes 7 = .ok (.iconst 1, 1) := by decide +kernel
theorem dX8_changes_8 : decode cX8_changes 8 = .ok (.iadd, 1) := by decide +kernel
theorem dX8_changes_9 : decode cX8_changes 9 = .ok (.iastore, 1) := by decide +kernel
theorem dX8_changes_10 : decode cX8_changes 10 = .ok (.aload_n 0, 1) := by decide +kernel
theorem dX8_changes_11 : decode cX8_changes 11 = .ok (.iload_n 1, 1) := by decide +kernel
theorem dX8_changes_12 : decode cX8_changes 12 = .ok (.invokevirtual 129, 3) := by decide +kernel
theorem dX8_changes_15 : decode cX8_changes 15 = .ok (.aload_n 0, 1) := by decide +kernel
theorem dX8_changes_16 : decode cX8_changes 16 = .ok (.getfield 27, 3) := by decide +kernel
theorem dX8_changes_19 : decode cX8_changes 19 = .ok (.iload_n 1, 1) := by decide +kernel
theorem dX8_changes_20 : decode cX8_changes 20 = .ok (.iaload, 1) := by decide +kernel
theorem dX8_changes_21 : decode cX8_changes 21 = .ok (.ireturn, 1) := by decide +kernel
theorem dX8_addLocator_0 : decode cX8_addLocator 0 = .ok (.iload_n 2, 1) := by decide +kernel
theorem dX8_addLocator_1 : decode cX8_addLocator 1 = .ok (.iconst 0, 1) := by decide +kernel
theorem dX8_addLocator_2 : decode cX8_addLocator 2 = .ok (.bipush 31, 2) := by decide +kernel
theorem dX8_addLocator_4 : decode cX8_addLocator 4 = .ok (.invokestatic 103, 3) := by decide +kernel
theorem dX8_addLocator_7 : decode cX8_addLocator 7 = .ok (.ifCond .eq 27, 3) := by decide +kernel
theorem dX8_addLocator_10 : decode cX8_addLocator 10 = .ok (.iload_n 3, 1) := by decide +kernel
theorem dX8_addLocator_11 : decode cX8_addLocator 11 = .ok (.iconst 0, 1) := by decide +kernel
theorem dX8_addLocator_12 : decode cX8_addLocator 12 = .ok (.iconst 3, 1) := by decide +kernel
theorem dX8_addLocator_13 : decode cX8_addLocator 13 = .ok (.invokestatic 103, 3) := by decide +kernel
theorem dX8_addLocator_16 : decode cX8_addLocator 16 = .ok (.ifCond .eq 18, 3) := by decide +kernel
theorem dX8_addLocator_19 : decode cX8_addLocator 19 = .ok (.iload 4, 2) := by decide +kernel
theorem dX8_addLocator_21 : decode cX8_addLocator 21 = .ok (.iconst 1, 1) := by decide +kernel
theorem dX8_addLocator_22 : decode cX8_addLocator 22 = .ok (.bipush 10, 2) := by decide +kernel
theorem dX8_addLocator_24 : decode cX8_addLocator 24 = .ok (.invokestatic 103, 3) := by decide +kernel
theorem dX8_addLocator_27 : decode cX8_addLocator 27 = .ok (.ifCond .eq 7, 3) := by decide +kernel
theorem dX8_addLocator_30 : decode cX8_addLocator 30 = .ok (.iconst 1, 1) := by decide +kernel
theorem dX8_addLocator_31 : decode cX8_addLocator 31 = .ok (.goto 4, 3) := by decide +kernel
theorem dX8_addLocator_34 : decode cX8_addLocator 34 = .ok (.iconst 0, 1) := by decide +kernel
theorem dX8_addLocator_35 : decode cX8_addLocator 35 = .ok (.istore 5, 2) := by decide +kernel
theorem dX8_addLocator_37 : decode cX8_addLocator 37 = .ok (.aload_n 0, 1) := by decide +kernel
theorem dX8_addLocator_38 : decode cX8_addLocator 38 = .ok (.aload_n 0, 1) := by decide +kernel
theorem dX8_addLocator_39 : decode cX8_addLocator 39 = .ok (.iload_n 1, 1) := by decide +kernel
theorem dX8_addLocator_40 : decode cX8_addLocator 40 = .ok (.invokevirtual 133, 3) := by decide +kernel
theorem dX8_addLocator_43 : decode cX8_addLocator 43 = .ok (.ifCond .ne 7, 3) := by decide +kernel
theorem dX8_addLocator_46 : decode cX8_addLocator 46 = .ok (.iconst 1, 1) := by decide +kernel
theorem dX8_addLocator_47 : decode cX8_addLocator 47 = .ok (.goto 13, 3) := by decide +kernel
theorem dX8_addLocator_50 : decode cX8_addLocator 50 = .ok (.iload 5, 2) := by decide +kernel
theorem dX8_addLocator_52 : decode cX8_addLocator 52 = .ok (.ifCond .ne 7, 3) := by decide +kernel
theorem dX8_addLocator_55 : decode cX8_addLocator 55 = .ok (.iconst 2, 1) := by decide +kernel
theorem dX8_addLocator_56 : decode cX8_addLocator 56 = .ok (.goto 4, 3) := by decide +kernel
theorem dX8_addLocator_59 : decode cX8_addLocator 59 = .ok (.iconst 0, 1) := by decide +kernel
theorem dX8_addLocator_60 : decode cX8_addLocator 60 = .ok (.putfield 99, 3) := by decide +kernel
theorem dX8_addLocator_63 : decode cX8_addLocator 63 = .ok (.aload_n 0, 1) := by decide +kernel
theorem dX8_addLocator_64 : decode cX8_addLocator 64 = .ok (.getfield 99, 3) := by decide +kernel
theorem dX8_addLocator_67 : decode cX8_addLocator 67 = .ok (.ifCond .ne 41, 3) := by decide +kernel
theorem dX8_addLocator_70 : decode cX8_addLocator 70 = .ok (.aload_n 0, 1) := by decide +kernel
theorem dX8_addLocator_71 : decode cX8_addLocator 71 = .ok (.aload_n 0, 1) := by decide +kernel
theorem dX8_addLocator_72 : decode cX8_addLocator 72 = .ok (.getfield 23, 3) := by decide +kernel
theorem dX8_addLocator_75 : decode cX8_addLocator 75 = .ok (.iload_n 1, 1) := by decide +kernel
theorem dX8_addLocator_76 : decode cX8_addLocator 76 = .ok (.baload, 1) := by decide +kernel
theorem dX8_addLocator_77 : decode cX8_addLocator 77 = .ok (.ifCond .ne 23, 3) := by decide +kernel
theorem dX8_addLocator_80 : decode cX8_addLocator 80 = .ok (.aload_n 0, 1) := by decide +kernel
theorem dX8_addLocator_81 : decode cX8_addLocator 81 = .ok (.getfield 30, 3) := by decide +kernel
theorem dX8_addLocator_84 : decode cX8_addLocator 84 = .ok (.iload_n 1, 1) := by decide +kernel
theorem dX8_addLocator_85 : decode cX8_addLocator 85 = .ok (.iaload, 1) := by decide +kernel
theorem dX8_addLocator_86 : decode cX8_addLocator 86 = .ok (.iconst 4, 1) := by decide +kernel
theorem dX8_addLocator_87 : decode cX8_addLocator 87 = .ok (.if_icmp .eq 13, 3) := by decide +kernel
theorem dX8_addLocator_90 : decode cX8_addLocator 90 = .ok (.aload_n 0, 1) := by decide +kernel
theorem dX8_addLocator_91 : decode cX8_addLocator 91 = .ok (.iload_n 1, 1) := by decide +kernel
theorem dX8_addLocator_92 : decode cX8_addLocator 92 = .ok (.iload_n 2, 1) := by decide +kernel
theorem dX8_addLocator_93 : decode cX8_addLocator 93 = .ok (.invokevirtual 136, 3) := by decide +kernel
theorem dX8_addLocator_96 : decode cX8_addLocator 96 = .ok (.iconst (-1), 1) := by decide +kernel
theorem dX8_addLocator_97 : decode cX8_addLocator 97 = .ok (.if_icmp .eq 7, 3) := by decide +kernel
theorem dX8_addLocator_100 : decode cX8_addLocator 100 = .ok (.iconst 3, 1) := by decide +kernel
theorem dX8_addLocator_101 : decode cX8_addLocator 101 = .ok (.goto 4, 3) := by decide +kernel
theorem dX8_addLocator_104 : decode cX8_addLocator 104 = .ok (.iconst 0, 1) := by decide +kernel
theorem dX8_addLocator_105 : decode cX8_addLocator 105 = .ok (.putfield 99, 3) := by decide +kernel
theorem dX8_addLocator_108 : decode cX8_addLocator 108 = .ok (.aload_n 0, 1) := by decide +kernel
theorem dX8_addLocator_109 : decode cX8_addLocator 109 = .ok (.getfield 99, 3) := by decide +kernel
theorem dX8_addLocator_112 : decode cX8_addLocator 112 = .ok (.ifCond .le 5, 3) := by decide +kernel
theorem dX8_addLocator_115 : decode cX8_addLocator 115 = .ok (.iconst 0, 1) := by decide +kernel
theorem dX8_addLocator_116 : decode cX8_addLocator 116 = .ok (.ireturn, 1) := by decide +kernel
theorem dX8_addLocator_117 : decode cX8_addLocator 117 = .ok (.iconst 4, 1) := by decide +kernel
theorem dX8_addLocator_118 : decode cX8_addLocator 118 = .ok (.iload_n 1, 1) := by decide +kernel
theorem dX8_addLocator_119 : decode cX8_addLocator 119 = .ok (.imul, 1) := by decide +kernel
theorem dX8_addLocator_120 : decode cX8_addLocator 120 = .ok (.aload_n 0, 1) := by decide +kernel
theorem dX8_addLocator_121 : decode cX8_addLocator 121 = .ok (.getfield 30, 3) := by decide +kernel
theorem dX8_addLocator_124 : decode cX8_addLocator 124 = .ok (.iload_n 1, 1) := by decide +kernel
theorem dX8_addLocator_125 : decode cX8_addLocator 125 = .ok (.iaload, 1) := by decide +kernel
theorem dX8_addLocator_126 : decode cX8_addLocator 126 = .ok (.iadd, 1) := by decide +kernel
theorem dX8_addLocator_127 : decode cX8_addLocator 127 = .ok (.istore 6, 2) := by decide +kernel
theorem dX8_addLocator_129 : decode cX8_addLocator 129 = .ok (.aload_n 0, 1) := by decide +kernel
theorem dX8_addLocator_130 : decode cX8_addLocator 130 = .ok (.getfield 30, 3) := by decide +kernel
theorem dX8_addLocator_133 : decode cX8_addLocator 133 = .ok (.iload_n 1, 1) := by decide +kernel
theorem dX8_addLocator_134 : decode cX8_addLocator 134 = .ok (.dup2, 1) := by decide +kernel
theorem dX8_addLocator_135 : decode cX8_addLocator 135 = .ok (.iaload, 1) := by decide +kernel
theorem dX8_addLocator_136 : decode cX8_addLocator 136 = .ok (.iconst 1, 1) := by decide +kernel
theorem dX8_addLocator_137 : decode cX8_addLocator 137 = .ok (.iadd, 1) := by decide +kernel
theorem dX8_addLocator_138 : decode cX8_addLocator 138 = .ok (.iastore, 1) := by decide +kernel
theorem dX8_addLocator_139 : decode cX8_addLocator 139 = .ok (.aload_n 0, 1) := by decide +kernel
theorem dX8_addLocator_140 : decode cX8_addLocator 140 = .ok (.getfield 33, 3) := by decide +kernel
theorem dX8_addLocator_143 : decode cX8_addLocator 143 = .ok (.iload 6, 2) := by decide +kernel
theorem dX8_addLocator_145 : decode cX8_addLocator 145 = .ok (.iload_n 2, 1) := by decide +kernel
theorem dX8_addLocator_146 : decode cX8_addLocator 146 = .ok (.iastore, 1) := by decide +kernel
theorem dX8_addLocator_147 : decode cX8_addLocator 147 = .ok (.aload_n 0, 1) := by decide +kernel
theorem dX8_addLocator_148 : decode cX8_addLocator 148 = .ok (.getfield 36, 3) := by decide +kernel
theorem dX8_addLocator_151 : decode cX8_addLocator 151 = .ok (.iload 6, 2) := by decide +kernel
theorem dX8_addLocator_153 : decode cX8_addLocator 153 = .ok (.iload_n 3, 1) := by decide +kernel
theorem dX8_addLocator_154 : decode cX8_addLocator 154 = .ok (.iastore, 1) := by decide +kernel
theorem dX8_addLocator_155 : decode cX8_addLocator 155 = .ok (.aload_n 0, 1) := by decide +kernel
theorem dX8_addLocator_156 : decode cX8_addLocator 156 = .ok (.getfield 39, 3) := by decide +kernel
theorem dX8_addLocator_159 : decode cX8_addLocator 159 = .ok (.iload 6, 2) := by decide +kernel
theorem dX8_addLocator_161 : decode cX8_addLocator 161 = .ok (.iload 4, 2) := by decide +kernel
theorem dX8_addLocator_163 : decode cX8_addLocator 163 = .ok (.iastore, 1) := by decide +kernel
theorem dX8_addLocator_164 : decode cX8_addLocator 164 = .ok (.aload_n 0, 1) := by decide +kernel
theorem dX8_addLocator_165 : decode cX8_addLocator 165 = .ok (.iload_n 1, 1) := by decide +kernel
theorem dX8_addLocator_166 : decode cX8_addLocator 166 = .ok (.invokevirtual 139, 3) := by decide +kernel
theorem dX8_addLocator_169 : decode cX8_addLocator 169 = .ok (.ireturn, 1) := by decide +kernel
theorem dX8_move_0 : decode cX8_move 0 = .ok (.aload_n 0, 1) := by decide +kernel
theorem dX8_move_1 : decode cX8_move 1 = .ok (.aload_n 0, 1) := by decide +kernel
theorem dX8_move_2 : decode cX8_move 2 = .ok (.iload_n 1, 1) := by decide +kernel
theorem dX8_move_3 : decode cX8_move 3 = .ok (.invokevirtual 133, 3) := by decide +kernel
theorem dX8_move_6 : decode cX8_move 6 = .ok (.ifCond .ne 7, 3) := by decide +kernel
theorem dX8_move_9 : decode cX8_move 9 = .ok (.iconst 1, 1) := by decide +kernel
theorem dX8_move_10 : decode cX8_move 10 = .ok (.goto 28, 3) := by decide +kernel
theorem dX8_move_13 : decode cX8_move 13 = .ok (.iload_n 2, 1) := by decide +kernel
theorem dX8_move_14 : decode cX8_move 14 = .ok (.iconst 0, 1) := by decide +kernel
theorem dX8_move_15 : decode cX8_move 15 = .ok (.bipush 31, 2) := by decide +kernel
theorem dX8_move_17 : decode cX8_move 17 = .ok (.invokestatic 103, 3) := by decide +kernel
theorem dX8_move_20 : decode cX8_move 20 = .ok (.ifCond .eq 17, 3) := by decide +kernel
theorem dX8_move_23 : decode cX8_move 23 = .ok (.iload_n 3, 1) := by decide +kernel
theorem dX8_move_24 : decode cX8_move 24 = .ok (.iconst 0, 1) := by decide +kernel
theorem dX8_move_25 : decode cX8_move 25 = .ok (.bipush 31, 2) := by decide +kernel
theorem dX8_move_27 : decode cX8_move 27 = .ok (.invokestatic 103, 3) := by decide +kernel
theorem dX8_move_30 : decode cX8_move 30 = .ok (.ifCond .eq 7, 3) := by decide +kernel
theorem dX8_move_33 : decode cX8_move 33 = .ok (.iconst 0, 1) := by decide +kernel
theorem dX8_move_34 : decode cX8_move 34 = .ok (.goto 4, 3) := by decide +kernel
theorem dX8_move_37 : decode cX8_move 37 = .ok (.iconst 2, 1) := by decide +kernel
theorem dX8_move_38 : decode cX8_move 38 = .ok (.putfield 99, 3) := by decide +kernel
theorem dX8_move_41 : decode cX8_move 41 = .ok (.aload_n 0, 1) := by decide +kernel
theorem dX8_move_42 : decode cX8_move 42 = .ok (.getfield 99, 3) := by decide +kernel
theorem dX8_move_45 : decode cX8_move 45 = .ok (.ifCond .ne 53, 3) := by decide +kernel
theorem dX8_move_48 : decode cX8_move 48 = .ok (.aload_n 0, 1) := by decide +kernel
theorem dX8_move_49 : decode cX8_move 49 = .ok (.getfield 23, 3) := by decide +kernel
theorem dX8_move_52 : decode cX8_move 52 = .ok (.iload_n 1, 1) := by decide +kernel
theorem dX8_move_53 : decode cX8_move 53 = .ok (.baload, 1) := by decide +kernel
theorem dX8_move_54 : decode cX8_move 54 = .ok (.ifCond .ne 27, 3) := by decide +kernel
theorem dX8_move_57 : decode cX8_move 57 = .ok (.aload_n 0, 1) := by decide +kernel
theorem dX8_move_58 : decode cX8_move 58 = .ok (.iload_n 1, 1) := by decide +kernel
theorem dX8_move_59 : decode cX8_move 59 = .ok (.iload_n 2, 1) := by decide +kernel
theorem dX8_move_60 : decode cX8_move 60 = .ok (.invokevirtual 136, 3) := by decide +kernel
theorem dX8_move_63 : decode cX8_move 63 = .ok (.iconst (-1), 1) := by decide +kernel
theorem dX8_move_64 : decode cX8_move 64 = .ok (.if_icmp .eq 17, 3) := by decide +kernel
theorem dX8_move_67 : decode cX8_move 67 = .ok (.aload_n 0, 1) := by decide +kernel
theorem dX8_move_68 : decode cX8_move 68 = .ok (.iload_n 1, 1) := by decide +kernel
theorem dX8_move_69 : decode cX8_move 69 = .ok (.iload_n 3, 1) := by decide +kernel
theorem dX8_move_70 : decode cX8_move 70 = .ok (.invokevirtual 136, 3) := by decide +kernel
theorem dX8_move_73 : decode cX8_move 73 = .ok (.iconst (-1), 1) := by decide +kernel
theorem dX8_move_74 : decode cX8_move 74 = .ok (.if_icmp .ne 7, 3) := by decide +kernel
theorem dX8_move_77 : decode cX8_move 77 = .ok (.iconst 1, 1) := by decide +kernel
theorem dX8_move_78 : decode cX8_move 78 = .ok (.goto 4, 3) := by decide +kernel
theorem dX8_move_81 : decode cX8_move 81 = .ok (.iconst 0, 1) := by decide +kernel
theorem dX8_move_82 : decode cX8_move 82 = .ok (.istore 4, 2) := by decide +kernel
theorem dX8_move_84 : decode cX8_move 84 = .ok (.aload_n 0, 1) := by decide +kernel
theorem dX8_move_85 : decode cX8_move 85 = .ok (.iload 4, 2) := by decide +kernel
theorem dX8_move_87 : decode cX8_move 87 = .ok (.ifCond .eq 7, 3) := by decide +kernel
theorem dX8_move_90 : decode cX8_move 90 = .ok (.iconst 0, 1) := by decide +kernel
theorem dX8_move_91 : decode cX8_move 91 = .ok (.goto 4, 3) := by decide +kernel
theorem dX8_move_94 : decode cX8_move 94 = .ok (.iconst 3, 1) := by decide +kernel
theorem dX8_move_95 : decode cX8_move 95 = .ok (.putfield 99, 3) := by decide +kernel
theorem dX8_move_98 : decode cX8_move 98 = .ok (.aload_n 0, 1) := by decide +kernel
theorem dX8_move_99 : decode cX8_move 99 = .ok (.getfield 99, 3) := by decide +kernel
theorem dX8_move_102 : decode cX8_move 102 = .ok (.ifCond .le 5, 3) := by decide +kernel
theorem dX8_move_105 : decode cX8_move 105 = .ok (.iconst 0, 1) := by decide +kernel
theorem dX8_move_106 : decode cX8_move 106 = .ok (.ireturn, 1) := by decide +kernel
theorem dX8_move_107 : decode cX8_move 107 = .ok (.aload_n 0, 1) := by decide +kernel
theorem dX8_move_108 : decode cX8_move 108 = .ok (.getfield 33, 3) := by decide +kernel
theorem dX8_move_111 : decode cX8_move 111 = .ok (.aload_n 0, 1) := by decide +kernel
theorem dX8_move_112 : decode cX8_move 112 = .ok (.iload_n 1, 1) := by decide +kernel
theorem dX8_move_113 : decode cX8_move 113 = .ok (.iload_n 2, 1) := by decide +kernel
theorem dX8_move_114 : decode cX8_move 114 = .ok (.invokevirtual 136, 3) := by decide +kernel
theorem dX8_move_117 : decode cX8_move 117 = .ok (.iload_n 3, 1) := by decide +kernel
theorem dX8_move_118 : decode cX8_move 118 = .ok (.iastore, 1) := by decide +kernel
theorem dX8_move_119 : decode cX8_move 119 = .ok (.aload_n 0, 1) := by decide +kernel
theorem dX8_move_120 : decode cX8_move 120 = .ok (.iload_n 1, 1) := by decide +kernel
theorem dX8_move_121 : decode cX8_move 121 = .ok (.invokevirtual 139, 3) := by decide +kernel
theorem dX8_move_124 : decode cX8_move 124 = .ok (.ireturn, 1) := by decide +kernel
theorem dX8_removeLocator_0 : decode cX8_removeLocator 0 = .ok (.aload_n 0, 1) := by decide +kernel
theorem dX8_removeLocator_1 : decode cX8_removeLocator 1 = .ok (.aload_n 0, 1) := by decide +kernel
theorem dX8_removeLocator_2 : decode cX8_removeLocator 2 = .ok (.iload_n 1, 1) := by decide +kernel
theorem dX8_removeLocator_3 : decode cX8_removeLocator 3 = .ok (.invokevirtual 133, 3) := by decide +kernel
theorem dX8_removeLocator_6 : decode cX8_removeLocator 6 = .ok (.ifCond .ne 7, 3) := by decide +kernel
theorem dX8_removeLocator_9 : decode cX8_removeLocator 9 = .ok (.iconst 1, 1) := by decide +kernel
theorem dX8_removeLocator_10 : decode cX8_removeLocator 10 = .ok (.goto 18, 3) := by decide +kernel
theorem dX8_removeLocator_13 : decode cX8_removeLocator 13 = .ok (.iload_n 2, 1) := by decide +kernel
theorem dX8_removeLocator_14 : decode cX8_removeLocator 14 = .ok (.iconst 0, 1) := by decide +kernel
theorem dX8_removeLocator_15 : decode cX8_removeLocator 15 = .ok (.bipush 31, 2) := by decide +kernel
theorem dX8_removeLocator_17 : decode cX8_removeLocator 17 = .ok (.invokestatic 103, 3) := by decide +kernel
theorem dX8_removeLocator_20 : decode cX8_removeLocator 20 = .ok (.ifCond .eq 7, 3) := by decide +kernel
theorem dX8_removeLocator_23 : decode cX8_removeLocator 23 = .ok (.iconst 0, 1) := by decide +kernel
theorem dX8_removeLocator_24 : decode cX8_removeLocator 24 = .ok (.goto 4, 3) := by decide +kernel
theorem dX8_removeLocator_27 : decode cX8_removeLocator 27 = .ok (.iconst 2, 1) := by decide +kernel
theorem dX8_removeLocator_28 : decode cX8_removeLocator 28 = .ok (.putfield 99, 3) := by decide +kernel
theorem dX8_removeLocator_31 : decode cX8_removeLocator 31 = .ok (.aload_n 0, 1) := by decide +kernel
theorem dX8_removeLocator_32 : decode cX8_removeLocator 32 = .ok (.getfield 99, 3) := by decide +kernel
theorem dX8_removeLocator_35 : decode cX8_removeLocator 35 = .ok (.ifCond .ne 31, 3) := by decide +kernel
theorem dX8_removeLocator_38 : decode cX8_removeLocator 38 = .ok (.aload_n 0, 1) := by decide +kernel
theorem dX8_removeLocator_39 : decode cX8_removeLocator 39 = .ok (.aload_n 0, 1) := by decide +kernel
theorem dX8_removeLocator_40 : decode cX8_removeLocator 40 = .ok (.getfield 23, 3) := by decide +kernel
theorem dX8_removeLocator_43 : decode cX8_removeLocator 43 = .ok (.iload_n 1, 1) := by decide +kernel
theorem dX8_removeLocator_44 : decode cX8_removeLocator 44 = .ok (.baload, 1) := by decide +kernel
theorem dX8_removeLocator_45 : decode cX8_removeLocator 45 = .ok (.ifCond .ne 13, 3) := by decide +kernel
theorem dX8_removeLocator_48 : decode cX8_removeLocator 48 = .ok (.aload_n 0, 1) := by decide +kernel
theorem dX8_removeLocator_49 : decode cX8_removeLocator 49 = .ok (.iload_n 1, 1) := by decide +kernel
theorem dX8_removeLocator_50 : decode cX8_removeLocator 50 = .ok (.iload_n 2, 1) := by decide +kernel
theorem dX8_removeLocator_51 : decode cX8_removeLocator 51 = .ok (.invokevirtual 136, 3) := by decide +kernel
theorem dX8_removeLocator_54 : decode cX8_removeLocator 54 = .ok (.iconst (-1), 1) := by decide +kernel
theorem dX8_removeLocator_55 : decode cX8_removeLocator 55 = .ok (.if_icmp .ne 7, 3) := by decide +kernel
theorem dX8_removeLocator_58 : decode cX8_removeLocator 58 = .ok (.iconst 3, 1) := by decide +kernel
theorem dX8_removeLocator_59 : decode cX8_removeLocator 59 = .ok (.goto 4, 3) := by decide +kernel
theorem dX8_removeLocator_62 : decode cX8_removeLocator 62 = .ok (.iconst 0, 1) := by decide +kernel
theorem dX8_removeLocator_63 : decode cX8_removeLocator 63 = .ok (.putfield 99, 3) := by decide +kernel
theorem dX8_removeLocator_66 : decode cX8_removeLocator 66 = .ok (.aload_n 0, 1) := by decide +kernel
theorem dX8_removeLocator_67 : decode cX8_removeLocator 67 = .ok (.getfield 99, 3) := by decide +kernel
theorem dX8_removeLocator_70 : decode cX8_removeLocator 70 = .ok (.ifCond .le 5, 3) := by decide +kernel
theorem dX8_removeLocator_73 : decode cX8_removeLocator 73 = .ok (.iconst 0, 1) := by decide +kernel
theorem dX8_removeLocator_74 : decode cX8_removeLocator 74 = .ok (.ireturn, 1) := by decide +kernel
theorem dX8_removeLocator_75 : decode cX8_removeLocator 75 = .ok (.aload_n 0, 1) := by decide +kernel
theorem dX8_removeLocator_76 : decode cX8_removeLocator 76 = .ok (.getfield 30, 3) := by decide +kernel
theorem dX8_removeLocator_79 : decode cX8_removeLocator 79 = .ok (.iload_n 1, 1) := by decide +kernel
theorem dX8_removeLocator_80 : decode cX8_removeLocator 80 = .ok (.dup2, 1) := by decide +kernel
theorem dX8_removeLocator_81 : decode cX8_removeLocator 81 = .ok (.iaload, 1) := by decide +kernel
theorem dX8_removeLocator_82 : decode cX8_removeLocator 82 = .ok (.iconst 1, 1) := by decide +kernel
theorem dX8_removeLocator_83 : decode cX8_removeLocator 83 = .ok (.isub, 1) := by decide +kernel
theorem dX8_removeLocator_84 : decode cX8_removeLocator 84 = .ok (.iastore, 1) := by decide +kernel
theorem dX8_removeLocator_85 : decode cX8_removeLocator 85 = .ok (.aload_n 0, 1) := by decide +kernel
theorem dX8_removeLocator_86 : decode cX8_removeLocator 86 = .ok (.iload_n 1, 1) := by decide +kernel
theorem dX8_removeLocator_87 : decode cX8_removeLocator 87 = .ok (.iload_n 2, 1) := by decide +kernel
theorem dX8_removeLocator_88 : decode cX8_removeLocator 88 = .ok (.invokevirtual 143, 3) := by decide +kernel
theorem dX8_removeLocator_91 : decode cX8_removeLocator 91 = .ok (.istore_n 3, 1) := by decide +kernel
theorem dX8_removeLocator_92 : decode cX8_removeLocator 92 = .ok (.iload_n 3, 1) := by decide +kernel
theorem dX8_removeLocator_93 : decode cX8_removeLocator 93 = .ok (.iconst 4, 1) := by decide +kernel
theorem dX8_removeLocator_94 : decode cX8_removeLocator 94 = .ok (.iload_n 1, 1) := by decide +kernel
theorem dX8_removeLocator_95 : decode cX8_removeLocator 95 = .ok (.imul, 1) := by decide +kernel
theorem dX8_removeLocator_96 : decode cX8_removeLocator 96 = .ok (.aload_n 0, 1) := by decide +kernel
theorem dX8_removeLocator_97 : decode cX8_removeLocator 97 = .ok (.getfield 30, 3) := by decide +kernel
theorem dX8_removeLocator_100 : decode cX8_removeLocator 100 = .ok (.iload_n 1, 1) := by decide +kernel
theorem dX8_removeLocator_101 : decode cX8_removeLocator 101 = .ok (.iaload, 1) := by decide +kernel
theorem dX8_removeLocator_102 : decode cX8_removeLocator 102 = .ok (.iadd, 1) := by decide +kernel
theorem dX8_removeLocator_103 : decode cX8_removeLocator 103 = .ok (.if_icmp .ge 51, 3) := by decide +kernel
theorem dX8_removeLocator_106 : decode cX8_removeLocator 106 = .ok (.aload_n 0, 1) := by decide +kernel
theorem dX8_removeLocator_107 : decode cX8_removeLocator 107 = .ok (.getfield 33, 3) := by decide +kernel
theorem dX8_removeLocator_110 : decode cX8_removeLocator 110 = .ok (.iload_n 3, 1) := by decide +kernel
theorem dX8_removeLocator_111 : decode cX8_removeLocator 111 = .ok (.aload_n 0, 1) := by decide +kernel
theorem dX8_removeLocator_112 : decode cX8_removeLocator 112 = .ok (.getfield 33, 3) := by decide +kernel
theorem dX8_removeLocator_115 : decode cX8_removeLocator 115 = .ok (.iload_n 3, 1) := by decide +kernel
theorem dX8_removeLocator_116 : decode cX8_removeLocator 116 = .ok (.iconst 1, 1) := by decide +kernel
theorem dX8_removeLocator_117 : decode cX8_removeLocator 117 = .ok (.iadd, 1) := by decide +kernel
theorem dX8_removeLocator_118 : decode cX8_removeLocator 118 = .ok (.iaload, 1) := by decide +kernel
theorem dX8_removeLocator_119 : decode cX8_removeLocator 119 = .ok (.iastore, 1) := by decide +kernel
theorem dX8_removeLocator_120 : decode cX8_removeLocator 120 = .ok (.aload_n 0, 1) := by decide +kernel
theorem dX8_removeLocator_121 : decode cX8_removeLocator 121 = .ok (.getfield 36, 3) := by decide +kernel
theorem dX8_removeLocator_124 : decode cX8_removeLocator 124 = .ok (.iload_n 3, 1) := by decide +kernel
theorem dX8_removeLocator_125 : decode cX8_removeLocator 125 = .ok (.aload_n 0, 1) := by decide +kernel
theorem dX8_removeLocator_126 : decode cX8_removeLocator 126 = .ok (.getfield 36, 3) := by decide +kernel
theorem dX8_removeLocator_129 : decode cX8_removeLocator 129 = .ok (.iload_n 3, 1) := by decide +kernel
theorem dX8_removeLocator_130 : decode cX8_removeLocator 130 = .ok (.iconst 1, 1) := by decide +kernel
theorem dX8_removeLocator_131 : decode cX8_removeLocator 131 = .ok (.iadd, 1) := by decide +kernel
theorem dX8_removeLocator_132 : decode cX8_removeLocator 132 = .ok (.iaload, 1) := by decide +kernel
theorem dX8_removeLocator_133 : decode cX8_removeLocator 133 = .ok (.iastore, 1) := by decide +kernel
theorem dX8_removeLocator_134 : decode cX8_removeLocator 134 = .ok (.aload_n 0, 1) := by decide +kernel
theorem dX8_removeLocator_135 : decode cX8_removeLocator 135 = .ok (.getfield 39, 3) := by decide +kernel
theorem dX8_removeLocator_138 : decode cX8_removeLocator 138 = .ok (.iload_n 3, 1) := by decide +kernel
theorem dX8_removeLocator_139 : decode cX8_removeLocator 139 = .ok (.aload_n 0, 1) := by decide +kernel
theorem dX8_removeLocator_140 : decode cX8_removeLocator 140 = .ok (.getfield 39, 3) := by decide +kernel
theorem dX8_removeLocator_143 : decode cX8_removeLocator 143 = .ok (.iload_n 3, 1) := by decide +kernel
theorem dX8_removeLocator_144 : decode cX8_removeLocator 144 = .ok (.iconst 1, 1) := by decide +kernel
theorem dX8_removeLocator_145 : decode cX8_removeLocator 145 = .ok (.iadd, 1) := by decide +kernel
theorem dX8_removeLocator_146 : decode cX8_removeLocator 146 = .ok (.iaload, 1) := by decide +kernel
theorem dX8_removeLocator_147 : decode cX8_removeLocator 147 = .ok (.iastore, 1) := by decide +kernel
theorem dX8_removeLocator_148 : decode cX8_removeLocator 148 = .ok (.iinc 3 1, 3) := by decide +kernel
theorem dX8_removeLocator_151 : decode cX8_removeLocator 151 = .ok (.goto (-59), 3) := by decide +kernel
theorem dX8_removeLocator_154 : decode cX8_removeLocator 154 = .ok (.aload_n 0, 1) := by decide +kernel
theorem dX8_removeLocator_155 : decode cX8_removeLocator 155 = .ok (.iload_n 1, 1) := by decide +kernel
theorem dX8_removeLocator_156 : decode cX8_removeLocator 156 = .ok (.invokevirtual 139, 3) := by decide +kernel
theorem dX8_removeLocator_159 : decode cX8_removeLocator 159 = .ok (.ireturn, 1) := by decide +kernel
theorem dX8_placeAmong_0 : decode cX8_placeAmong 0 = .ok (.iconst 4, 1) := by decide +kernel
theorem dX8_placeAmong_1 : decode cX8_placeAmong 1 = .ok (.iload_n 1, 1) := by decide +kernel
theorem dX8_placeAmong_2 : decode cX8_placeAmong 2 = .ok (.imul, 1) := by decide +kernel
theorem dX8_placeAmong_3 : decode cX8_placeAmong 3 = .ok (.istore_n 3, 1) := by decide +kernel
theorem dX8_placeAmong_4 : decode cX8_placeAmong 4 = .ok (.aload_n 0, 1) := by decide +kernel
theorem dX8_placeAmong_5 : decode cX8_placeAmong 5 = .ok (.getfield 33, 3) := by decide +kernel
theorem dX8_placeAmong_8 : decode cX8_placeAmong 8 = .ok (.iload_n 3, 1) := by decide +kernel
theorem dX8_placeAmong_9 : decode cX8_placeAmong 9 = .ok (.iaload, 1) := by decide +kernel
theorem dX8_placeAmong_10 : decode cX8_placeAmong 10 = .ok (.iload_n 2, 1) := by decide +kernel
theorem dX8_placeAmong_11 : decode cX8_placeAmong 11 = .ok (.if_icmp .eq 9, 3) := by decide +kernel
theorem dX8_placeAmong_14 : decode cX8_placeAmong 14 = .ok (.iinc 3 1, 3) := by decide +kernel
theorem dX8_placeAmong_17 : decode cX8_placeAmong 17 = .ok (.goto (-13), 3) := by decide +kernel
theorem dX8_placeAmong_20 : decode cX8_placeAmong 20 = .ok (.iload_n 3, 1) := by decide +kernel
theorem dX8_placeAmong_21 : decode cX8_placeAmong 21 = .ok (.ireturn, 1) := by decide +kernel
theorem dX8_mappingFor_0 : decode cX8_mappingFor 0 = .ok (.iconst (-1), 1) := by decide +kernel
theorem dX8_mappingFor_1 : decode cX8_mappingFor 1 = .ok (.istore_n 2, 1) := by decide +kernel
theorem dX8_mappingFor_2 : decode cX8_mappingFor 2 = .ok (.iconst 0, 1) := by decide +kernel
theorem dX8_mappingFor_3 : decode cX8_mappingFor 3 = .ok (.istore_n 3, 1) := by decide +kernel
theorem dX8_mappingFor_4 : decode cX8_mappingFor 4 = .ok (.iload_n 3, 1) := by decide +kernel
theorem dX8_mappingFor_5 : decode cX8_mappingFor 5 = .ok (.aload_n 0, 1) := by decide +kernel
theorem dX8_mappingFor_6 : decode cX8_mappingFor 6 = .ok (.getfield 115, 3) := by decide +kernel
theorem dX8_mappingFor_9 : decode cX8_mappingFor 9 = .ok (.if_icmp .ge 75, 3) := by decide +kernel
theorem dX8_mappingFor_12 : decode cX8_mappingFor 12 = .ok (.aload_n 0, 1) := by decide +kernel
theorem dX8_mappingFor_13 : decode cX8_mappingFor 13 = .ok (.getfield 23, 3) := by decide +kernel
theorem dX8_mappingFor_16 : decode cX8_mappingFor 16 = .ok (.iload_n 3, 1) := by decide +kernel
theorem dX8_mappingFor_17 : decode cX8_mappingFor 17 = .ok (.baload, 1) := by decide +kernel
theorem dX8_mappingFor_18 : decode cX8_mappingFor 18 = .ok (.ifCond .ne 26, 3) := by decide +kernel
theorem dX8_mappingFor_21 : decode cX8_mappingFor 21 = .ok (.aload_n 0, 1) := by decide +kernel
theorem dX8_mappingFor_22 : decode cX8_mappingFor 22 = .ok (.getfield 16, 3) := by decide +kernel
theorem dX8_mappingFor_25 : decode cX8_mappingFor 25 = .ok (.iload_n 3, 1) := by decide +kernel
theorem dX8_mappingFor_26 : decode cX8_mappingFor 26 = .ok (.iaload, 1) := by decide +kernel
theorem dX8_mappingFor_27 : decode cX8_mappingFor 27 = .ok (.aload_n 0, 1) := by decide +kernel
theorem dX8_mappingFor_28 : decode cX8_mappingFor 28 = .ok (.getfield 20, 3) := by decide +kernel
theorem dX8_mappingFor_31 : decode cX8_mappingFor 31 = .ok (.iload_n 3, 1) := by decide +kernel
theorem dX8_mappingFor_32 : decode cX8_mappingFor 32 = .ok (.iaload, 1) := by decide +kernel
theorem dX8_mappingFor_33 : decode cX8_mappingFor 33 = .ok (.iload_n 1, 1) := by decide +kernel
theorem dX8_mappingFor_34 : decode cX8_mappingFor 34 = .ok (.invokestatic 146, 3) := by decide +kernel
theorem dX8_mappingFor_37 : decode cX8_mappingFor 37 = .ok (.ifCond .eq 7, 3) := by decide +kernel
theorem dX8_mappingFor_40 : decode cX8_mappingFor 40 = .ok (.iconst 1, 1) := by decide +kernel
theorem dX8_mappingFor_41 : decode cX8_mappingFor 41 = .ok (.goto 4, 3) := by decide +kernel
theorem dX8_mappingFor_44 : decode cX8_mappingFor 44 = .ok (.iconst 0, 1) := by decide +kernel
theorem dX8_mappingFor_45 : decode cX8_mappingFor 45 = .ok (.istore 4, 2) := by decide +kernel
theorem dX8_mappingFor_47 : decode cX8_mappingFor 47 = .ok (.iload 4, 2) := by decide +kernel
theorem dX8_mappingFor_49 : decode cX8_mappingFor 49 = .ok (.ifCond .eq 27, 3) := by decide +kernel
theorem dX8_mappingFor_52 : decode cX8_mappingFor 52 = .ok (.iload_n 2, 1) := by decide +kernel
theorem dX8_mappingFor_53 : decode cX8_mappingFor 53 = .ok (.iconst (-1), 1) := by decide +kernel
theorem dX8_mappingFor_54 : decode cX8_mappingFor 54 = .ok (.if_icmp .eq 18, 3) := by decide +kernel
theorem dX8_mappingFor_57 : decode cX8_mappingFor 57 = .ok (.aload_n 0, 1) := by decide +kernel
theorem dX8_mappingFor_58 : decode cX8_mappingFor 58 = .ok (.getfield 20, 3) := by decide +kernel
theorem dX8_mappingFor_61 : decode cX8_mappingFor 61 = .ok (.iload_n 3, 1) := by decide +kernel
theorem dX8_mappingFor_62 : decode cX8_mappingFor 62 = .ok (.iaload, 1) := by decide +kernel
theorem dX8_mappingFor_63 : decode cX8_mappingFor 63 = .ok (.aload_n 0, 1) := by decide +kernel
theorem dX8_mappingFor_64 : decode cX8_mappingFor 64 = .ok (.getfield 20, 3) := by decide +kernel
theorem dX8_mappingFor_67 : decode cX8_mappingFor 67 = .ok (.iload_n 2, 1) := by decide +kernel
theorem dX8_mappingFor_68 : decode cX8_mappingFor 68 = .ok (.iaload, 1) := by decide +kernel
theorem dX8_mappingFor_69 : decode cX8_mappingFor 69 = .ok (.if_icmp .le 7, 3) := by decide +kernel
theorem dX8_mappingFor_72 : decode cX8_mappingFor 72 = .ok (.iload_n 3, 1) := by decide +kernel
theorem dX8_mappingFor_73 : decode cX8_mappingFor 73 = .ok (.goto 4, 3) := by decide +kernel
theorem dX8_mappingFor_76 : decode cX8_mappingFor 76 = .ok (.iload_n 2, 1) := by decide +kernel
theorem dX8_mappingFor_77 : decode cX8_mappingFor 77 = .ok (.istore_n 2, 1) := by decide +kernel
theorem dX8_mappingFor_78 : decode cX8_mappingFor 78 = .ok (.iinc 3 1, 3) := by decide +kernel
theorem dX8_mappingFor_81 : decode cX8_mappingFor 81 = .ok (.goto (-77), 3) := by decide +kernel
theorem dX8_mappingFor_84 : decode cX8_mappingFor 84 = .ok (.iload_n 2, 1) := by decide +kernel
theorem dX8_mappingFor_85 : decode cX8_mappingFor 85 = .ok (.ireturn, 1) := by decide +kernel
theorem dX8_mappingOf_0 : decode cX8_mappingOf 0 = .ok (.aload_n 0, 1) := by decide +kernel
theorem dX8_mappingOf_1 : decode cX8_mappingOf 1 = .ok (.iload_n 1, 1) := by decide +kernel
theorem dX8_mappingOf_2 : decode cX8_mappingOf 2 = .ok (.invokestatic 107, 3) := by decide +kernel
theorem dX8_mappingOf_5 : decode cX8_mappingOf 5 = .ok (.ifCond .eq 7, 3) := by decide +kernel
theorem dX8_mappingOf_8 : decode cX8_mappingOf 8 = .ok (.iconst 0, 1) := by decide +kernel
theorem dX8_mappingOf_9 : decode cX8_mappingOf 9 = .ok (.goto 4, 3) := by decide +kernel
theorem dX8_mappingOf_12 : decode cX8_mappingOf 12 = .ok (.iconst 1, 1) := by decide +kernel
theorem dX8_mappingOf_13 : decode cX8_mappingOf 13 = .ok (.putfield 99, 3) := by decide +kernel
theorem dX8_mappingOf_16 : decode cX8_mappingOf 16 = .ok (.aload_n 0, 1) := by decide +kernel
theorem dX8_mappingOf_17 : decode cX8_mappingOf 17 = .ok (.getfield 99, 3) := by decide +kernel
theorem dX8_mappingOf_20 : decode cX8_mappingOf 20 = .ok (.ifCond .le 7, 3) := by decide +kernel
theorem dX8_mappingOf_23 : decode cX8_mappingOf 23 = .ok (.iconst (-1), 1) := by decide +kernel
theorem dX8_mappingOf_24 : decode cX8_mappingOf 24 = .ok (.goto 8, 3) := by decide +kernel
theorem dX8_mappingOf_27 : decode cX8_mappingOf 27 = .ok (.aload_n 0, 1) := by decide +kernel
theorem dX8_mappingOf_28 : decode cX8_mappingOf 28 = .ok (.iload_n 1, 1) := by decide +kernel
theorem dX8_mappingOf_29 : decode cX8_mappingOf 29 = .ok (.invokevirtual 149, 3) := by decide +kernel
theorem dX8_mappingOf_32 : decode cX8_mappingOf 32 = .ok (.ireturn, 1) := by decide +kernel
theorem dX8_isHiding_0 : decode cX8_isHiding 0 = .ok (.iconst 0, 1) := by decide +kernel
theorem dX8_isHiding_1 : decode cX8_isHiding 1 = .ok (.istore 4, 2) := by decide +kernel
theorem dX8_isHiding_3 : decode cX8_isHiding 3 = .ok (.iconst 0, 1) := by decide +kernel
theorem dX8_isHiding_4 : decode cX8_isHiding 4 = .ok (.istore 5, 2) := by decide +kernel
theorem dX8_isHiding_6 : decode cX8_isHiding 6 = .ok (.iload 5, 2) := by decide +kernel
theorem dX8_isHiding_8 : decode cX8_isHiding 8 = .ok (.aload_n 0, 1) := by decide +kernel
theorem dX8_isHiding_9 : decode cX8_isHiding 9 = .ok (.getfield 115, 3) := by decide +kernel
theorem dX8_isHiding_12 : decode cX8_isHiding 12 = .ok (.if_icmp .ge 117, 3) := by decide +kernel
theorem dX8_isHiding_15 : decode cX8_isHiding 15 = .ok (.aload_n 0, 1) := by decide +kernel
theorem dX8_isHiding_16 : decode cX8_isHiding 16 = .ok (.getfield 23, 3) := by decide +kernel
theorem dX8_isHiding_19 : decode cX8_isHiding 19 = .ok (.iload 5, 2) := by decide +kernel
theorem dX8_isHiding_21 : decode cX8_isHiding 21 = .ok (.baload, 1) := by decide +kernel
theorem dX8_isHiding_22 : decode cX8_isHiding 22 = .ok (.ifCond .ne 59, 3) := by decide +kernel
theorem dX8_isHiding_25 : decode cX8_isHiding 25 = .ok (.iload 5, 2) := by decide +kernel
theorem dX8_isHiding_27 : decode cX8_isHiding 27 = .ok (.iload_n 3, 1) := by decide +kernel
theorem dX8_isHiding_28 : decode cX8_isHiding 28 = .ok (.if_icmp .eq 53, 3) := by decide +kernel
theorem dX8_isHiding_31 : decode cX8_isHiding 31 = .ok (.iload_n 3, 1) := by decide +kernel
theorem dX8_isHiding_32 : decode cX8_isHiding 32 = .ok (.iconst (-1), 1) := by decide +kernel
theorem dX8_isHiding_33 : decode cX8_isHiding 33 = .ok (.if_icmp .eq 44, 3) := by decide +kernel
theorem dX8_isHiding_36 : decode cX8_isHiding 36 = .ok (.aload_n 0, 1) := by decide +kernel
theorem dX8_isHiding_37 : decode cX8_isHiding 37 = .ok (.getfield 20, 3) := by decide +kernel
theorem dX8_isHiding_40 : decode cX8_isHiding 40 = .ok (.iload 5, 2) := by decide +kernel
theorem dX8_isHiding_42 : decode cX8_isHiding 42 = .ok (.iaload, 1) := by decide +kernel
theorem dX8_isHiding_43 : decode cX8_isHiding 43 = .ok (.aload_n 0, 1) := by decide +kernel
theorem dX8_isHiding_44 : decode cX8_isHiding 44 = .ok (.getfield 20, 3) := by decide +kernel
theorem dX8_isHiding_47 : decode cX8_isHiding 47 = .ok (.iload_n 3, 1) := by decide +kernel
theorem dX8_isHiding_48 : decode cX8_isHiding 48 = .ok (.iaload, 1) := by decide +kernel
theorem dX8_isHiding_49 : decode cX8_isHiding 49 = .ok (.if_icmp .lt 32, 3) := by decide +kernel
theorem dX8_isHiding_52 : decode cX8_isHiding 52 = .ok (.aload_n 0, 1) := by decide +kernel
theorem dX8_isHiding_53 : decode cX8_isHiding 53 = .ok (.getfield 16, 3) := by decide +kernel
theorem dX8_isHiding_56 : decode cX8_isHiding 56 = .ok (.iload_n 3, 1) := by decide +kernel
theorem dX8_isHiding_57 : decode cX8_isHiding 57 = .ok (.iaload, 1) := by decide +kernel
theorem dX8_isHiding_58 : decode cX8_isHiding 58 = .ok (.aload_n 0, 1) := by decide +kernel
theorem dX8_isHiding_59 : decode cX8_isHiding 59 = .ok (.getfield 20, 3) := by decide +kernel
theorem dX8_isHiding_62 : decode cX8_isHiding 62 = .ok (.iload_n 3, 1) := by decide +kernel
theorem dX8_isHiding_63 : decode cX8_isHiding 63 = .ok (.iaload, 1) := by decide +kernel
theorem dX8_isHiding_64 : decode cX8_isHiding 64 = .ok (.aload_n 0, 1) := by decide +kernel
theorem dX8_isHiding_65 : decode cX8_isHiding 65 = .ok (.getfield 16, 3) := by decide +kernel
theorem dX8_isHiding_68 : decode cX8_isHiding 68 = .ok (.iload 5, 2) := by decide +kernel
theorem dX8_isHiding_70 : decode cX8_isHiding 70 = .ok (.iaload, 1) := by decide +kernel
theorem dX8_isHiding_71 : decode cX8_isHiding 71 = .ok (.invokestatic 146, 3) := by decide +kernel
theorem dX8_isHiding_74 : decode cX8_isHiding 74 = .ok (.ifCond .eq 7, 3) := by decide +kernel
theorem dX8_isHiding_77 : decode cX8_isHiding 77 = .ok (.iconst 1, 1) := by decide +kernel
theorem dX8_isHiding_78 : decode cX8_isHiding 78 = .ok (.goto 4, 3) := by decide +kernel
theorem dX8_isHiding_81 : decode cX8_isHiding 81 = .ok (.iconst 0, 1) := by decide +kernel
theorem dX8_isHiding_82 : decode cX8_isHiding 82 = .ok (.istore 6, 2) := by decide +kernel
theorem dX8_isHiding_84 : decode cX8_isHiding 84 = .ok (.iload 4, 2) := by decide +kernel
theorem dX8_isHiding_86 : decode cX8_isHiding 86 = .ok (.ifCond .ne 30, 3) := by decide +kernel
theorem dX8_isHiding_89 : decode cX8_isHiding 89 = .ok (.iload 6, 2) := by decide +kernel
theorem dX8_isHiding_91 : decode cX8_isHiding 91 = .ok (.ifCond .eq 29, 3) := by decide +kernel
theorem dX8_isHiding_94 : decode cX8_isHiding 94 = .ok (.iload_n 1, 1) := by decide +kernel
theorem dX8_isHiding_95 : decode cX8_isHiding 95 = .ok (.iload_n 2, 1) := by decide +kernel
theorem dX8_isHiding_96 : decode cX8_isHiding 96 = .ok (.aload_n 0, 1) := by decide +kernel
theorem dX8_isHiding_97 : decode cX8_isHiding 97 = .ok (.getfield 16, 3) := by decide +kernel
theorem dX8_isHiding_100 : decode cX8_isHiding 100 = .ok (.iload 5, 2) := by decide +kernel
theorem dX8_isHiding_102 : decode cX8_isHiding 102 = .ok (.iaload, 1) := by decide +kernel
theorem dX8_isHiding_103 : decode cX8_isHiding 103 = .ok (.aload_n 0, 1) := by decide +kernel
theorem dX8_isHiding_104 : decode cX8_isHiding 104 = .ok (.getfield 20, 3) := by decide +kernel
theorem dX8_isHiding_107 : decode cX8_isHiding 107 = .ok (.iload 5, 2) := by decide +kernel
theorem dX8_isHiding_109 : decode cX8_isHiding 109 = .ok (.iaload, 1) := by decide +kernel
theorem dX8_isHiding_110 : decode cX8_isHiding 110 = .ok (.invokestatic 118, 3) := by decide +kernel
theorem dX8_isHiding_113 : decode cX8_isHiding 113 = .ok (.ifCond .eq 7, 3) := by decide +kernel
theorem dX8_isHiding_116 : decode cX8_isHiding 116 = .ok (.iconst 1, 1) := by decide +kernel
theorem dX8_isHiding_117 : decode cX8_isHiding 117 = .ok (.goto 4, 3) := by decide +kernel
theorem dX8_isHiding_120 : decode cX8_isHiding 120 = .ok (.iconst 0, 1) := by decide +kernel
theorem dX8_isHiding_121 : decode cX8_isHiding 121 = .ok (.istore 4, 2) := by decide +kernel
theorem dX8_isHiding_123 : decode cX8_isHiding 123 = .ok (.iinc 5 1, 3) := by decide +kernel
theorem dX8_isHiding_126 : decode cX8_isHiding 126 = .ok (.goto (-120), 3) := by decide +kernel
theorem dX8_isHiding_129 : decode cX8_isHiding 129 = .ok (.iload 4, 2) := by decide +kernel
theorem dX8_isHiding_131 : decode cX8_isHiding 131 = .ok (.ireturn, 1) := by decide +kernel
theorem dX8_bitsFor_0 : decode cX8_bitsFor 0 = .ok (.iload_n 2, 1) := by decide +kernel
theorem dX8_bitsFor_1 : decode cX8_bitsFor 1 = .ok (.iconst (-1), 1) := by decide +kernel
theorem dX8_bitsFor_2 : decode cX8_bitsFor 2 = .ok (.if_icmp .ne 7, 3) := by decide +kernel
theorem dX8_bitsFor_5 : decode cX8_bitsFor 5 = .ok (.iconst 0, 1) := by decide +kernel
theorem dX8_bitsFor_6 : decode cX8_bitsFor 6 = .ok (.goto 9, 3) := by decide +kernel
theorem dX8_bitsFor_9 : decode cX8_bitsFor 9 = .ok (.aload_n 0, 1) := by decide +kernel
theorem dX8_bitsFor_10 : decode cX8_bitsFor 10 = .ok (.getfield 20, 3) := by decide +kernel
theorem dX8_bitsFor_13 : decode cX8_bitsFor 13 = .ok (.iload_n 2, 1) := by decide +kernel
theorem dX8_bitsFor_14 : decode cX8_bitsFor 14 = .ok (.iaload, 1) := by decide +kernel
theorem dX8_bitsFor_15 : decode cX8_bitsFor 15 = .ok (.istore_n 3, 1) := by decide +kernel
theorem dX8_bitsFor_16 : decode cX8_bitsFor 16 = .ok (.aload_n 0, 1) := by decide +kernel
theorem dX8_bitsFor_17 : decode cX8_bitsFor 17 = .ok (.iload_n 1, 1) := by decide +kernel
theorem dX8_bitsFor_18 : decode cX8_bitsFor 18 = .ok (.iload_n 3, 1) := by decide +kernel
theorem dX8_bitsFor_19 : decode cX8_bitsFor 19 = .ok (.iload_n 2, 1) := by decide +kernel
theorem dX8_bitsFor_20 : decode cX8_bitsFor 20 = .ok (.invokevirtual 152, 3) := by decide +kernel
theorem dX8_bitsFor_23 : decode cX8_bitsFor 23 = .ok (.ifCond .eq 9, 3) := by decide +kernel
theorem dX8_bitsFor_26 : decode cX8_bitsFor 26 = .ok (.iinc 3 1, 3) := by decide +kernel
theorem dX8_bitsFor_29 : decode cX8_bitsFor 29 = .ok (.goto (-13), 3) := by decide +kernel
theorem dX8_bitsFor_32 : decode cX8_bitsFor 32 = .ok (.iload_n 3, 1) := by decide +kernel
theorem dX8_bitsFor_33 : decode cX8_bitsFor 33 = .ok (.ireturn, 1) := by decide +kernel
theorem dX8_answerLength_0 : decode cX8_answerLength 0 = .ok (.aload_n 0, 1) := by decide +kernel
theorem dX8_answerLength_1 : decode cX8_answerLength 1 = .ok (.iload_n 1, 1) := by decide +kernel
theorem dX8_answerLength_2 : decode cX8_answerLength 2 = .ok (.invokestatic 107, 3) := by decide +kernel
theorem dX8_answerLength_5 : decode cX8_answerLength 5 = .ok (.ifCond .eq 7, 3) := by decide +kernel
theorem dX8_answerLength_8 : decode cX8_answerLength 8 = .ok (.iconst 0, 1) := by decide +kernel
theorem dX8_answerLength_9 : decode cX8_answerLength 9 = .ok (.goto 4, 3) := by decide +kernel
theorem dX8_answerLength_12 : decode cX8_answerLength 12 = .ok (.iconst 1, 1) := by decide +kernel
theorem dX8_answerLength_13 : decode cX8_answerLength 13 = .ok (.putfield 99, 3) := by decide +kernel
theorem dX8_answerLength_16 : decode cX8_answerLength 16 = .ok (.aload_n 0, 1) := by decide +kernel
theorem dX8_answerLength_17 : decode cX8_answerLength 17 = .ok (.getfield 99, 3) := by decide +kernel
theorem dX8_answerLength_20 : decode cX8_answerLength 20 = .ok (.ifCond .le 5, 3) := by decide +kernel
theorem dX8_answerLength_23 : decode cX8_answerLength 23 = .ok (.iconst 0, 1) := by decide +kernel
theorem dX8_answerLength_24 : decode cX8_answerLength 24 = .ok (.ireturn, 1) := by decide +kernel
theorem dX8_answerLength_25 : decode cX8_answerLength 25 = .ok (.aload_n 0, 1) := by decide +kernel
theorem dX8_answerLength_26 : decode cX8_answerLength 26 = .ok (.iload_n 1, 1) := by decide +kernel
theorem dX8_answerLength_27 : decode cX8_answerLength 27 = .ok (.invokevirtual 149, 3) := by decide +kernel
theorem dX8_answerLength_30 : decode cX8_answerLength 30 = .ok (.istore_n 2, 1) := by decide +kernel
theorem dX8_answerLength_31 : decode cX8_answerLength 31 = .ok (.aload_n 0, 1) := by decide +kernel
theorem dX8_answerLength_32 : decode cX8_answerLength 32 = .ok (.iload_n 1, 1) := by decide +kernel
theorem dX8_answerLength_33 : decode cX8_answerLength 33 = .ok (.iload_n 2, 1) := by decide +kernel
theorem dX8_answerLength_34 : decode cX8_answerLength 34 = .ok (.invokevirtual 155, 3) := by decide +kernel
theorem dX8_answerLength_37 : decode cX8_answerLength 37 = .ok (.iload_n 2, 1) := by decide +kernel
theorem dX8_answerLength_38 : decode cX8_answerLength 38 = .ok (.iconst (-1), 1) := by decide +kernel
theorem dX8_answerLength_39 : decode cX8_answerLength 39 = .ok (.if_icmp .ne 8, 3) := by decide +kernel
theorem dX8_answerLength_42 : decode cX8_answerLength 42 = .ok (.bipush 17, 2) := by decide +kernel
theorem dX8_answerLength_44 : decode cX8_answerLength 44 = .ok (.goto 4, 3) := by decide +kernel
theorem dX8_answerLength_47 : decode cX8_answerLength 47 = .ok (.iconst 0, 1) := by decide +kernel
theorem dX8_answerLength_48 : decode cX8_answerLength 48 = .ok (.iadd, 1) := by decide +kernel
theorem dX8_answerLength_49 : decode cX8_answerLength 49 = .ok (.ireturn, 1) := by decide +kernel
theorem dX8_version_0 : decode cX8_version 0 = .ok (.aload_n 0, 1) := by decide +kernel
theorem dX8_version_1 : decode cX8_version 1 = .ok (.aload_n 0, 1) := by decide +kernel
theorem dX8_version_2 : decode cX8_version 2 = .ok (.iload_n 1, 1) := by decide +kernel
theorem dX8_version_3 : decode cX8_version 3 = .ok (.invokevirtual 133, 3) := by decide +kernel
theorem dX8_version_6 : decode cX8_version 6 = .ok (.ifCond .eq 7, 3) := by decide +kernel
theorem dX8_version_9 : decode cX8_version 9 = .ok (.iconst 0, 1) := by decide +kernel
theorem dX8_version_10 : decode cX8_version 10 = .ok (.goto 4, 3) := by decide +kernel
theorem dX8_version_13 : decode cX8_version 13 = .ok (.iconst 1, 1) := by decide +kernel
theorem dX8_version_14 : decode cX8_version 14 = .ok (.putfield 99, 3) := by decide +kernel
theorem dX8_version_17 : decode cX8_version 17 = .ok (.aload_n 0, 1) := by decide +kernel
theorem dX8_version_18 : decode cX8_version 18 = .ok (.getfield 99, 3) := by decide +kernel
theorem dX8_version_21 : decode cX8_version 21 = .ok (.ifCond .le 7, 3) := by decide +kernel
theorem dX8_version_24 : decode cX8_version 24 = .ok (.iconst 0, 1) := by decide +kernel
theorem dX8_version_25 : decode cX8_version 25 = .ok (.goto 22, 3) := by decide +kernel
theorem dX8_version_28 : decode cX8_version 28 = .ok (.aload_n 0, 1) := by decide +kernel
theorem dX8_version_29 : decode cX8_version 29 = .ok (.getfield 23, 3) := by decide +kernel
theorem dX8_version_32 : decode cX8_version 32 = .ok (.iload_n 1, 1) := by decide +kernel
theorem dX8_version_33 : decode cX8_version 33 = .ok (.baload, 1) := by decide +kernel
theorem dX8_version_34 : decode cX8_version 34 = .ok (.ifCond .eq 7, 3) := by decide +kernel
theorem dX8_version_37 : decode cX8_version 37 = .ok (.iconst (-1), 1) := by decide +kernel
theorem dX8_version_38 : decode cX8_version 38 = .ok (.goto 9, 3) := by decide +kernel
theorem dX8_version_41 : decode cX8_version 41 = .ok (.aload_n 0, 1) := by decide +kernel
theorem dX8_version_42 : decode cX8_version 42 = .ok (.getfield 27, 3) := by decide +kernel
theorem dX8_version_45 : decode cX8_version 45 = .ok (.iload_n 1, 1) := by decide +kernel
theorem dX8_version_46 : decode cX8_version 46 = .ok (.iaload, 1) := by decide +kernel
theorem dX8_version_47 : decode cX8_version 47 = .ok (.ireturn, 1) := by decide +kernel
theorem dX8_isServer_0 : decode cX8_isServer 0 = .ok (.iload_n 0, 1) := by decide +kernel
theorem dX8_isServer_1 : decode cX8_isServer 1 = .ok (.iconst 0, 1) := by decide +kernel
theorem dX8_isServer_2 : decode cX8_isServer 2 = .ok (.iconst 3, 1) := by decide +kernel
theorem dX8_isServer_3 : decode cX8_isServer 3 = .ok (.invokestatic 103, 3) := by decide +kernel
theorem dX8_isServer_6 : decode cX8_isServer 6 = .ok (.ireturn, 1) := by decide +kernel
theorem dX8_delegate_0 : decode cX8_delegate 0 = .ok (.aload_n 0, 1) := by decide +kernel
theorem dX8_delegate_1 : decode cX8_delegate 1 = .ok (.iload_n 3, 1) := by decide +kernel
theorem dX8_delegate_2 : decode cX8_delegate 2 = .ok (.invokestatic 158, 3) := by decide +kernel
theorem dX8_delegate_5 : decode cX8_delegate 5 = .ok (.ifCond .ne 7, 3) := by decide +kernel
theorem dX8_delegate_8 : decode cX8_delegate 8 = .ok (.iconst 1, 1) := by decide +kernel
theorem dX8_delegate_9 : decode cX8_delegate 9 = .ok (.goto 16, 3) := by decide +kernel
theorem dX8_delegate_12 : decode cX8_delegate 12 = .ok (.iload_n 1, 1) := by decide +kernel
theorem dX8_delegate_13 : decode cX8_delegate 13 = .ok (.iload_n 2, 1) := by decide +kernel
theorem dX8_delegate_14 : decode cX8_delegate 14 = .ok (.invokestatic 125, 3) := by decide +kernel
theorem dX8_delegate_17 : decode cX8_delegate 17 = .ok (.ifCond .eq 7, 3) := by decide +kernel
theorem dX8_delegate_20 : decode cX8_delegate 20 = .ok (.iconst 0, 1) := by decide +kernel
theorem dX8_delegate_21 : decode cX8_delegate 21 = .ok (.goto 4, 3) := by decide +kernel
theorem dX8_delegate_24 : decode cX8_delegate 24 = .ok (.iconst 2, 1) := by decide +kernel
theorem dX8_delegate_25 : decode cX8_delegate 25 = .ok (.putfield 99, 3) := by decide +kernel
theorem dX8_delegate_28 : decode cX8_delegate 28 = .ok (.aload_n 0, 1) := by decide +kernel
theorem dX8_delegate_29 : decode cX8_delegate 29 = .ok (.getfield 99, 3) := by decide +kernel
theorem dX8_delegate_32 : decode cX8_delegate 32 = .ok (.ifCond .le 5, 3) := by decide +kernel
theorem dX8_delegate_35 : decode cX8_delegate 35 = .ok (.iconst 0, 1) := by decide +kernel
theorem dX8_delegate_36 : decode cX8_delegate 36 = .ok (.ireturn, 1) := by decide +kernel
theorem dX8_delegate_37 : decode cX8_delegate 37 = .ok (.aload_n 0, 1) := by decide +kernel
theorem dX8_delegate_38 : decode cX8_delegate 38 = .ok (.getfield 161, 3) := by decide +kernel
theorem dX8_delegate_41 : decode cX8_delegate 41 = .ok (.istore 4, 2) := by decide +kernel
theorem dX8_delegate_43 : decode cX8_delegate 43 = .ok (.iconst 0, 1) := by decide +kernel
theorem dX8_delegate_44 : decode cX8_delegate 44 = .ok (.istore 5, 2) := by decide +kernel
theorem dX8_delegate_46 : decode cX8_delegate 46 = .ok (.iload 5, 2) := by decide +kernel
theorem dX8_delegate_48 : decode cX8_delegate 48 = .ok (.aload_n 0, 1) := by decide +kernel
theorem dX8_delegate_49 : decode cX8_delegate 49 = .ok (.getfield 161, 3) := by decide +kernel
theorem dX8_delegate_52 : decode cX8_delegate 52 = .ok (.if_icmp .ge 40, 3) := by decide +kernel
theorem dX8_delegate_55 : decode cX8_delegate 55 = .ok (.aload_n 0, 1) := by decide +kernel
theorem dX8_delegate_56 : decode cX8_delegate 56 = .ok (.getfield 42, 3) := by decide +kernel
theorem dX8_delegate_59 : decode cX8_delegate 59 = .ok (.iload 5, 2) := by decide +kernel
theorem dX8_delegate_61 : decode cX8_delegate 61 = .ok (.iaload, 1) := by decide +kernel
theorem dX8_delegate_62 : decode cX8_delegate 62 = .ok (.iload_n 1, 1) := by decide +kernel
theorem dX8_delegate_63 : decode cX8_delegate 63 = .ok (.if_icmp .ne 19, 3) := by decide +kernel
theorem dX8_delegate_66 : decode cX8_delegate 66 = .ok (.aload_n 0, 1) := by decide +kernel
theorem dX8_delegate_67 : decode cX8_delegate 67 = .ok (.getfield 45, 3) := by decide +kernel
theorem dX8_delegate_70 : decode cX8_delegate 70 = .ok (.iload 5, 2) := by decide +kernel
theorem dX8_delegate_72 : decode cX8_delegate 72 = .ok (.iaload, 1) := by decide +kernel
theorem dX8_delegate_73 : decode cX8_delegate 73 = .ok (.iload_n 2, 1) := by decide +kernel
theorem dX8_delegate_74 : decode cX8_delegate 74 = .ok (.if_icmp .ne 8, 3) := by decide +kernel
theorem dX8_delegate_77 : decode cX8_delegate 77 = .ok (.iload 5, 2) := by decide +kernel
theorem dX8_delegate_79 : decode cX8_delegate 79 = .ok (.goto 5, 3) := by decide +kernel
theorem dX8_delegate_82 : decode cX8_delegate 82 = .ok (.iload 4, 2) := by decide +kernel
theorem dX8_delegate_84 : decode cX8_delegate 84 = .ok (.istore 4, 2) := by decide +kernel
theorem dX8_delegate_86 : decode cX8_delegate 86 = .ok (.iinc 5 1, 3) := by decide +kernel
theorem dX8_delegate_89 : decode cX8_delegate 89 = .ok (.goto (-43), 3) := by decide +kernel
theorem dX8_delegate_92 : decode cX8_delegate 92 = .ok (.aload_n 0, 1) := by decide +kernel
theorem dX8_delegate_93 : decode cX8_delegate 93 = .ok (.iload 4, 2) := by decide +kernel
theorem dX8_delegate_95 : decode cX8_delegate 95 = .ok (.bipush 12, 2) := by decide +kernel
theorem dX8_delegate_97 : decode cX8_delegate 97 = .ok (.if_icmp .ne 7, 3) := by decide +kernel
theorem dX8_delegate_100 : decode cX8_delegate 100 = .ok (.iconst 3, 1) := by decide +kernel
theorem dX8_delegate_101 : decode cX8_delegate 101 = .ok (.goto 4, 3) := by decide +kernel
theorem dX8_delegate_104 : decode cX8_delegate 104 = .ok (.iconst 0, 1) := by decide +kernel
theorem dX8_delegate_105 : decode cX8_delegate 105 = .ok (.putfield 99, 3) := by decide +kernel
theorem dX8_delegate_108 : decode cX8_delegate 108 = .ok (.aload_n 0, 1) := by decide +kernel
theorem dX8_delegate_109 : decode cX8_delegate 109 = .ok (.getfield 99, 3) := by decide +kernel
theorem dX8_delegate_112 : decode cX8_delegate 112 = .ok (.ifCond .le 5, 3) := by decide +kernel
theorem dX8_delegate_115 : decode cX8_delegate 115 = .ok (.iconst 0, 1) := by decide +kernel
theorem dX8_delegate_116 : decode cX8_delegate 116 = .ok (.ireturn, 1) := by decide +kernel
theorem dX8_delegate_117 : decode cX8_delegate 117 = .ok (.aload_n 0, 1) := by decide +kernel
theorem dX8_delegate_118 : decode cX8_delegate 118 = .ok (.getfield 42, 3) := by decide +kernel
theorem dX8_delegate_121 : decode cX8_delegate 121 = .ok (.iload 4, 2) := by decide +kernel
theorem dX8_delegate_123 : decode cX8_delegate 123 = .ok (.iload_n 1, 1) := by decide +kernel
theorem dX8_delegate_124 : decode cX8_delegate 124 = .ok (.iastore, 1) := by decide +kernel
theorem dX8_delegate_125 : decode cX8_delegate 125 = .ok (.aload_n 0, 1) := by decide +kernel
theorem dX8_delegate_126 : decode cX8_delegate 126 = .ok (.getfield 45, 3) := by decide +kernel
theorem dX8_delegate_129 : decode cX8_delegate 129 = .ok (.iload 4, 2) := by decide +kernel
theorem dX8_delegate_131 : decode cX8_delegate 131 = .ok (.iload_n 2, 1) := by decide +kernel
theorem dX8_delegate_132 : decode cX8_delegate 132 = .ok (.iastore, 1) := by decide +kernel
theorem dX8_delegate_133 : decode cX8_delegate 133 = .ok (.aload_n 0, 1) := by decide +kernel
theorem dX8_delegate_134 : decode cX8_delegate 134 = .ok (.getfield 48, 3) := by decide +kernel
theorem dX8_delegate_137 : decode cX8_delegate 137 = .ok (.iload 4, 2) := by decide +kernel
theorem dX8_delegate_139 : decode cX8_delegate 139 = .ok (.iload_n 3, 1) := by decide +kernel
theorem dX8_delegate_140 : decode cX8_delegate 140 = .ok (.iastore, 1) := by decide +kernel
theorem dX8_delegate_141 : decode cX8_delegate 141 = .ok (.aload_n 0, 1) := by decide +kernel
theorem dX8_delegate_142 : decode cX8_delegate 142 = .ok (.dup, 1) := by decide +kernel
theorem dX8_delegate_143 : decode cX8_delegate 143 = .ok (.getfield 161, 3) := by decide +kernel
theorem dX8_delegate_146 : decode cX8_delegate 146 = .ok (.iload 4, 2) := by decide +kernel
theorem dX8_delegate_148 : decode cX8_delegate 148 = .ok (.aload_n 0, 1) := by decide +kernel
theorem dX8_delegate_149 : decode cX8_delegate 149 = .ok (.getfield 161, 3) := by decide +kernel
theorem dX8_delegate_152 : decode cX8_delegate 152 = .ok (.if_icmp .ne 7, 3) := by decide +kernel
theorem dX8_delegate_155 : decode cX8_delegate 155 = .ok (.iconst 1, 1) := by decide +kernel
theorem dX8_delegate_156 : decode cX8_delegate 156 = .ok (.goto 4, 3) := by decide +kernel
theorem dX8_delegate_159 : decode cX8_delegate 159 = .ok (.iconst 0, 1) := by decide +kernel
theorem dX8_delegate_160 : decode cX8_delegate 160 = .ok (.iadd, 1) := by decide +kernel
theorem dX8_delegate_161 : decode cX8_delegate 161 = .ok (.putfield 161, 3) := by decide +kernel
theorem dX8_delegate_164 : decode cX8_delegate 164 = .ok (.aload_n 0, 1) := by decide +kernel
theorem dX8_delegate_165 : decode cX8_delegate 165 = .ok (.getfield 161, 3) := by decide +kernel
theorem dX8_delegate_168 : decode cX8_delegate 168 = .ok (.ireturn, 1) := by decide +kernel
theorem dX8_setUp_0 : decode cX8_setUp 0 = .ok (.aload_n 0, 1) := by decide +kernel
theorem dX8_setUp_1 : decode cX8_setUp 1 = .ok (.iload_n 1, 1) := by decide +kernel
theorem dX8_setUp_2 : decode cX8_setUp 2 = .ok (.invokestatic 158, 3) := by decide +kernel
theorem dX8_setUp_5 : decode cX8_setUp 5 = .ok (.ifCond .eq 7, 3) := by decide +kernel
theorem dX8_setUp_8 : decode cX8_setUp 8 = .ok (.iconst 0, 1) := by decide +kernel
theorem dX8_setUp_9 : decode cX8_setUp 9 = .ok (.goto 4, 3) := by decide +kernel
theorem dX8_setUp_12 : decode cX8_setUp 12 = .ok (.iconst 1, 1) := by decide +kernel
theorem dX8_setUp_13 : decode cX8_setUp 13 = .ok (.putfield 99, 3) := by decide +kernel
theorem dX8_setUp_16 : decode cX8_setUp 16 = .ok (.aload_n 0, 1) := by decide +kernel
theorem dX8_setUp_17 : decode cX8_setUp 17 = .ok (.getfield 99, 3) := by decide +kernel
theorem dX8_setUp_20 : decode cX8_setUp 20 = .ok (.ifCond .le 5, 3) := by decide +kernel
theorem dX8_setUp_23 : decode cX8_setUp 23 = .ok (.iconst 0, 1) := by decide +kernel
theorem dX8_setUp_24 : decode cX8_setUp 24 = .ok (.ireturn, 1) := by decide +kernel
end
section
theorem dX8_setUp_25 : decode cX8_setUp 25 = .ok (.aload_n 0, 1) := by decide +kernel
theorem dX8_setUp_26 : decode cX8_setUp 26 = .ok (.getfield 51, 3) := by decide +kernel
theorem dX8_setUp_29 : decode cX8_setUp 29 = .ok (.iload_n 1, 1) := by decide +kernel
theorem dX8_setUp_30 : decode cX8_setUp 30 = .ok (.baload, 1) := by decide +kernel
theorem dX8_setUp_31 : decode cX8_setUp 31 = .ok (.ifCond .ne 7, 3) := by decide +kernel
theorem dX8_setUp_34 : decode cX8_setUp 34 = .ok (.iconst 1, 1) := by decide +kernel
theorem dX8_setUp_35 : decode cX8_setUp 35 = .ok (.goto 4, 3) := by decide +kernel
theorem dX8_setUp_38 : decode cX8_setUp 38 = .ok (.iconst 0, 1) := by decide +kernel
theorem dX8_setUp_39 : decode cX8_setUp 39 = .ok (.istore_n 3, 1) := by decide +kernel
theorem dX8_setUp_40 : decode cX8_setUp 40 = .ok (.aload_n 0, 1) := by decide +kernel
theorem dX8_setUp_41 : decode cX8_setUp 41 = .ok (.getfield 51, 3) := by decide +kernel
theorem dX8_setUp_44 : decode cX8_setUp 44 = .ok (.iload_n 1, 1) := by decide +kernel
theorem dX8_setUp_45 : decode cX8_setUp 45 = .ok (.iload_n 2, 1) := by decide +kernel
theorem dX8_setUp_46 : decode cX8_setUp 46 = .ok (.ifCond .ne 7, 3) := by decide +kernel
theorem dX8_setUp_49 : decode cX8_setUp 49 = .ok (.iconst 1, 1) := by decide +kernel
theorem dX8_setUp_50 : decode cX8_setUp 50 = .ok (.goto 4, 3) := by decide +kernel
theorem dX8_setUp_53 : decode cX8_setUp 53 = .ok (.iconst 0, 1) := by decide +kernel
theorem dX8_setUp_54 : decode cX8_setUp 54 = .ok (.bastore, 1) := by decide +kernel
theorem dX8_setUp_55 : decode cX8_setUp 55 = .ok (.iload_n 3, 1) := by decide +kernel
theorem dX8_setUp_56 : decode cX8_setUp 56 = .ok (.ireturn, 1) := by decide +kernel
theorem dX8_serverFor_0 : decode cX8_serverFor 0 = .ok (.iconst (-1), 1) := by decide +kernel
theorem dX8_serverFor_1 : decode cX8_serverFor 1 = .ok (.istore_n 2, 1) := by decide +kernel
theorem dX8_serverFor_2 : decode cX8_serverFor 2 = .ok (.iconst 0, 1) := by decide +kernel
theorem dX8_serverFor_3 : decode cX8_serverFor 3 = .ok (.istore_n 3, 1) := by decide +kernel
theorem dX8_serverFor_4 : decode cX8_serverFor 4 = .ok (.iload_n 3, 1) := by decide +kernel
theorem dX8_serverFor_5 : decode cX8_serverFor 5 = .ok (.aload_n 0, 1) := by decide +kernel
theorem dX8_serverFor_6 : decode cX8_serverFor 6 = .ok (.getfield 161, 3) := by decide +kernel
theorem dX8_serverFor_9 : decode cX8_serverFor 9 = .ok (.if_icmp .ge 58, 3) := by decide +kernel
theorem dX8_serverFor_12 : decode cX8_serverFor 12 = .ok (.aload_n 0, 1) := by decide +kernel
theorem dX8_serverFor_13 : decode cX8_serverFor 13 = .ok (.getfield 42, 3) := by decide +kernel
theorem dX8_serverFor_16 : decode cX8_serverFor 16 = .ok (.iload_n 3, 1) := by decide +kernel
theorem dX8_serverFor_17 : decode cX8_serverFor 17 = .ok (.iaload, 1) := by decide +kernel
theorem dX8_serverFor_18 : decode cX8_serverFor 18 = .ok (.aload_n 0, 1) := by decide +kernel
theorem dX8_serverFor_19 : decode cX8_serverFor 19 = .ok (.getfield 45, 3) := by decide +kernel
theorem dX8_serverFor_22 : decode cX8_serverFor 22 = .ok (.iload_n 3, 1) := by decide +kernel
theorem dX8_serverFor_23 : decode cX8_serverFor 23 = .ok (.iaload, 1) := by decide +kernel
theorem dX8_serverFor_24 : decode cX8_serverFor 24 = .ok (.iload_n 1, 1) := by decide +kernel
theorem dX8_serverFor_25 : decode cX8_serverFor 25 = .ok (.invokestatic 146, 3) := by decide +kernel
theorem dX8_serverFor_28 : decode cX8_serverFor 28 = .ok (.istore 4, 2) := by decide +kernel
theorem dX8_serverFor_30 : decode cX8_serverFor 30 = .ok (.iload 4, 2) := by decide +kernel
theorem dX8_serverFor_32 : decode cX8_serverFor 32 = .ok (.ifCond .eq 27, 3) := by decide +kernel
theorem dX8_serverFor_35 : decode cX8_serverFor 35 = .ok (.iload_n 2, 1) := by decide +kernel
theorem dX8_serverFor_36 : decode cX8_serverFor 36 = .ok (.iconst (-1), 1) := by decide +kernel
theorem dX8_serverFor_37 : decode cX8_serverFor 37 = .ok (.if_icmp .eq 18, 3) := by decide +kernel
theorem dX8_serverFor_40 : decode cX8_serverFor 40 = .ok (.aload_n 0, 1) := by decide +kernel
theorem dX8_serverFor_41 : decode cX8_serverFor 41 = .ok (.getfield 45, 3) := by decide +kernel
theorem dX8_serverFor_44 : decode cX8_serverFor 44 = .ok (.iload_n 3, 1) := by decide +kernel
theorem dX8_serverFor_45 : decode cX8_serverFor 45 = .ok (.iaload, 1) := by decide +kernel
theorem dX8_serverFor_46 : decode cX8_serverFor 46 = .ok (.aload_n 0, 1) := by decide +kernel
theorem dX8_serverFor_47 : decode cX8_serverFor 47 = .ok (.getfield 45, 3) := by decide +kernel
theorem dX8_serverFor_50 : decode cX8_serverFor 50 = .ok (.iload_n 2, 1) := by decide +kernel
theorem dX8_serverFor_51 : decode cX8_serverFor 51 = .ok (.iaload, 1) := by decide +kernel
theorem dX8_serverFor_52 : decode cX8_serverFor 52 = .ok (.if_icmp .le 7, 3) := by decide +kernel
theorem dX8_serverFor_55 : decode cX8_serverFor 55 = .ok (.iload_n 3, 1) := by decide +kernel
theorem dX8_serverFor_56 : decode cX8_serverFor 56 = .ok (.goto 4, 3) := by decide +kernel
theorem dX8_serverFor_59 : decode cX8_serverFor 59 = .ok (.iload_n 2, 1) := by decide +kernel
theorem dX8_serverFor_60 : decode cX8_serverFor 60 = .ok (.istore_n 2, 1) := by decide +kernel
theorem dX8_serverFor_61 : decode cX8_serverFor 61 = .ok (.iinc 3 1, 3) := by decide +kernel
theorem dX8_serverFor_64 : decode cX8_serverFor 64 = .ok (.goto (-60), 3) := by decide +kernel
theorem dX8_serverFor_67 : decode cX8_serverFor 67 = .ok (.iload_n 2, 1) := by decide +kernel
theorem dX8_serverFor_68 : decode cX8_serverFor 68 = .ok (.iconst (-1), 1) := by decide +kernel
theorem dX8_serverFor_69 : decode cX8_serverFor 69 = .ok (.if_icmp .ne 7, 3) := by decide +kernel
theorem dX8_serverFor_72 : decode cX8_serverFor 72 = .ok (.iconst 0, 1) := by decide +kernel
theorem dX8_serverFor_73 : decode cX8_serverFor 73 = .ok (.goto 9, 3) := by decide +kernel
theorem dX8_serverFor_76 : decode cX8_serverFor 76 = .ok (.aload_n 0, 1) := by decide +kernel
theorem dX8_serverFor_77 : decode cX8_serverFor 77 = .ok (.getfield 48, 3) := by decide +kernel
theorem dX8_serverFor_80 : decode cX8_serverFor 80 = .ok (.iload_n 2, 1) := by decide +kernel
theorem dX8_serverFor_81 : decode cX8_serverFor 81 = .ok (.iaload, 1) := by decide +kernel
theorem dX8_serverFor_82 : decode cX8_serverFor 82 = .ok (.ireturn, 1) := by decide +kernel
theorem dX8_serverOf_0 : decode cX8_serverOf 0 = .ok (.aload_n 0, 1) := by decide +kernel
theorem dX8_serverOf_1 : decode cX8_serverOf 1 = .ok (.iload_n 1, 1) := by decide +kernel
theorem dX8_serverOf_2 : decode cX8_serverOf 2 = .ok (.invokestatic 107, 3) := by decide +kernel
theorem dX8_serverOf_5 : decode cX8_serverOf 5 = .ok (.ifCond .eq 7, 3) := by decide +kernel
theorem dX8_serverOf_8 : decode cX8_serverOf 8 = .ok (.iconst 0, 1) := by decide +kernel
theorem dX8_serverOf_9 : decode cX8_serverOf 9 = .ok (.goto 4, 3) := by decide +kernel
theorem dX8_serverOf_12 : decode cX8_serverOf 12 = .ok (.iconst 1, 1) := by decide +kernel
theorem dX8_serverOf_13 : decode cX8_serverOf 13 = .ok (.putfield 99, 3) := by decide +kernel
theorem dX8_serverOf_16 : decode cX8_serverOf 16 = .ok (.aload_n 0, 1) := by decide +kernel
theorem dX8_serverOf_17 : decode cX8_serverOf 17 = .ok (.getfield 99, 3) := by decide +kernel
theorem dX8_serverOf_20 : decode cX8_serverOf 20 = .ok (.ifCond .le 7, 3) := by decide +kernel
theorem dX8_serverOf_23 : decode cX8_serverOf 23 = .ok (.iconst 0, 1) := by decide +kernel
theorem dX8_serverOf_24 : decode cX8_serverOf 24 = .ok (.goto 8, 3) := by decide +kernel
theorem dX8_serverOf_27 : decode cX8_serverOf 27 = .ok (.aload_n 0, 1) := by decide +kernel
theorem dX8_serverOf_28 : decode cX8_serverOf 28 = .ok (.iload_n 1, 1) := by decide +kernel
theorem dX8_serverOf_29 : decode cX8_serverOf 29 = .ok (.invokevirtual 164, 3) := by decide +kernel
theorem dX8_serverOf_32 : decode cX8_serverOf 32 = .ok (.ireturn, 1) := by decide +kernel
theorem dX8_answers_0 : decode cX8_answers 0 = .ok (.aload_n 0, 1) := by decide +kernel
theorem dX8_answers_1 : decode cX8_answers 1 = .ok (.iload_n 1, 1) := by decide +kernel
theorem dX8_answers_2 : decode cX8_answers 2 = .ok (.invokestatic 158, 3) := by decide +kernel
theorem dX8_answers_5 : decode cX8_answers 5 = .ok (.ifCond .eq 7, 3) := by decide +kernel
theorem dX8_answers_8 : decode cX8_answers 8 = .ok (.iconst 0, 1) := by decide +kernel
theorem dX8_answers_9 : decode cX8_answers 9 = .ok (.goto 4, 3) := by decide +kernel
theorem dX8_answers_12 : decode cX8_answers 12 = .ok (.iconst 1, 1) := by decide +kernel
theorem dX8_answers_13 : decode cX8_answers 13 = .ok (.putfield 99, 3) := by decide +kernel
theorem dX8_answers_16 : decode cX8_answers 16 = .ok (.aload_n 0, 1) := by decide +kernel
theorem dX8_answers_17 : decode cX8_answers 17 = .ok (.getfield 99, 3) := by decide +kernel
theorem dX8_answers_20 : decode cX8_answers 20 = .ok (.ifCond .le 7, 3) := by decide +kernel
theorem dX8_answers_23 : decode cX8_answers 23 = .ok (.iconst 0, 1) := by decide +kernel
theorem dX8_answers_24 : decode cX8_answers 24 = .ok (.goto 9, 3) := by decide +kernel
theorem dX8_answers_27 : decode cX8_answers 27 = .ok (.aload_n 0, 1) := by decide +kernel
theorem dX8_answers_28 : decode cX8_answers 28 = .ok (.getfield 54, 3) := by decide +kernel
theorem dX8_answers_31 : decode cX8_answers 31 = .ok (.iload_n 1, 1) := by decide +kernel
theorem dX8_answers_32 : decode cX8_answers 32 = .ok (.iaload, 1) := by decide +kernel
theorem dX8_answers_33 : decode cX8_answers 33 = .ok (.ireturn, 1) := by decide +kernel
theorem dX8_manyBefore_0 : decode cX8_manyBefore 0 = .ok (.iconst 0, 1) := by decide +kernel
theorem dX8_manyBefore_1 : decode cX8_manyBefore 1 = .ok (.istore_n 3, 1) := by decide +kernel
theorem dX8_manyBefore_2 : decode cX8_manyBefore 2 = .ok (.bipush 8, 2) := by decide +kernel
theorem dX8_manyBefore_4 : decode cX8_manyBefore 4 = .ok (.iload_n 1, 1) := by decide +kernel
theorem dX8_manyBefore_5 : decode cX8_manyBefore 5 = .ok (.imul, 1) := by decide +kernel
theorem dX8_manyBefore_6 : decode cX8_manyBefore 6 = .ok (.istore 4, 2) := by decide +kernel
theorem dX8_manyBefore_8 : decode cX8_manyBefore 8 = .ok (.iload 4, 2) := by decide +kernel
theorem dX8_manyBefore_10 : decode cX8_manyBefore 10 = .ok (.bipush 8, 2) := by decide +kernel
theorem dX8_manyBefore_12 : decode cX8_manyBefore 12 = .ok (.iload_n 1, 1) := by decide +kernel
theorem dX8_manyBefore_13 : decode cX8_manyBefore 13 = .ok (.imul, 1) := by decide +kernel
theorem dX8_manyBefore_14 : decode cX8_manyBefore 14 = .ok (.bipush 8, 2) := by decide +kernel
theorem dX8_manyBefore_16 : decode cX8_manyBefore 16 = .ok (.iadd, 1) := by decide +kernel
theorem dX8_manyBefore_17 : decode cX8_manyBefore 17 = .ok (.if_icmp .ge 38, 3) := by decide +kernel
theorem dX8_manyBefore_20 : decode cX8_manyBefore 20 = .ok (.iload_n 3, 1) := by decide +kernel
theorem dX8_manyBefore_21 : decode cX8_manyBefore 21 = .ok (.aload_n 0, 1) := by decide +kernel
theorem dX8_manyBefore_22 : decode cX8_manyBefore 22 = .ok (.getfield 57, 3) := by decide +kernel
theorem dX8_manyBefore_25 : decode cX8_manyBefore 25 = .ok (.iload 4, 2) := by decide +kernel
theorem dX8_manyBefore_27 : decode cX8_manyBefore 27 = .ok (.baload, 1) := by decide +kernel
theorem dX8_manyBefore_28 : decode cX8_manyBefore 28 = .ok (.ifCond .eq 18, 3) := by decide +kernel
theorem dX8_manyBefore_31 : decode cX8_manyBefore 31 = .ok (.aload_n 0, 1) := by decide +kernel
theorem dX8_manyBefore_32 : decode cX8_manyBefore 32 = .ok (.getfield 60, 3) := by decide +kernel
theorem dX8_manyBefore_35 : decode cX8_manyBefore 35 = .ok (.iload 4, 2) := by decide +kernel
theorem dX8_manyBefore_37 : decode cX8_manyBefore 37 = .ok (.iaload, 1) := by decide +kernel
theorem dX8_manyBefore_38 : decode cX8_manyBefore 38 = .ok (.iload_n 2, 1) := by decide +kernel
theorem dX8_manyBefore_39 : decode cX8_manyBefore 39 = .ok (.if_icmp .ge 7, 3) := by decide +kernel
theorem dX8_manyBefore_42 : decode cX8_manyBefore 42 = .ok (.iconst 1, 1) := by decide +kernel
theorem dX8_manyBefore_43 : decode cX8_manyBefore 43 = .ok (.goto 4, 3) := by decide +kernel
theorem dX8_manyBefore_46 : decode cX8_manyBefore 46 = .ok (.iconst 0, 1) := by decide +kernel
theorem dX8_manyBefore_47 : decode cX8_manyBefore 47 = .ok (.iadd, 1) := by decide +kernel
theorem dX8_manyBefore_48 : decode cX8_manyBefore 48 = .ok (.istore_n 3, 1) := by decide +kernel
theorem dX8_manyBefore_49 : decode cX8_manyBefore 49 = .ok (.iinc 4 1, 3) := by decide +kernel
theorem dX8_manyBefore_52 : decode cX8_manyBefore 52 = .ok (.goto (-44), 3) := by decide +kernel
theorem dX8_manyBefore_55 : decode cX8_manyBefore 55 = .ok (.iload_n 3, 1) := by decide +kernel
theorem dX8_manyBefore_56 : decode cX8_manyBefore 56 = .ok (.ireturn, 1) := by decide +kernel
theorem dX8_manyOf_0 : decode cX8_manyOf 0 = .ok (.aload_n 0, 1) := by decide +kernel
theorem dX8_manyOf_1 : decode cX8_manyOf 1 = .ok (.iload_n 1, 1) := by decide +kernel
theorem dX8_manyOf_2 : decode cX8_manyOf 2 = .ok (.aload_n 0, 1) := by decide +kernel
theorem dX8_manyOf_3 : decode cX8_manyOf 3 = .ok (.getfield 167, 3) := by decide +kernel
theorem dX8_manyOf_6 : decode cX8_manyOf 6 = .ok (.iconst 1, 1) := by decide +kernel
theorem dX8_manyOf_7 : decode cX8_manyOf 7 = .ok (.iadd, 1) := by decide +kernel
theorem dX8_manyOf_8 : decode cX8_manyOf 8 = .ok (.invokevirtual 170, 3) := by decide +kernel
theorem dX8_manyOf_11 : decode cX8_manyOf 11 = .ok (.ireturn, 1) := by decide +kernel
theorem dX8_placeOfEntry_0 : decode cX8_placeOfEntry 0 = .ok (.iconst (-1), 1) := by decide +kernel
theorem dX8_placeOfEntry_1 : decode cX8_placeOfEntry 1 = .ok (.istore_n 3, 1) := by decide +kernel
theorem dX8_placeOfEntry_2 : decode cX8_placeOfEntry 2 = .ok (.bipush 8, 2) := by decide +kernel
theorem dX8_placeOfEntry_4 : decode cX8_placeOfEntry 4 = .ok (.iload_n 1, 1) := by decide +kernel
theorem dX8_placeOfEntry_5 : decode cX8_placeOfEntry 5 = .ok (.imul, 1) := by decide +kernel
theorem dX8_placeOfEntry_6 : decode cX8_placeOfEntry 6 = .ok (.istore 4, 2) := by decide +kernel
theorem dX8_placeOfEntry_8 : decode cX8_placeOfEntry 8 = .ok (.iload 4, 2) := by decide +kernel
theorem dX8_placeOfEntry_10 : decode cX8_placeOfEntry 10 = .ok (.bipush 8, 2) := by decide +kernel
theorem dX8_placeOfEntry_12 : decode cX8_placeOfEntry 12 = .ok (.iload_n 1, 1) := by decide +kernel
theorem dX8_placeOfEntry_13 : decode cX8_placeOfEntry 13 = .ok (.imul, 1) := by decide +kernel
theorem dX8_placeOfEntry_14 : decode cX8_placeOfEntry 14 = .ok (.bipush 8, 2) := by decide +kernel
theorem dX8_placeOfEntry_16 : decode cX8_placeOfEntry 16 = .ok (.iadd, 1) := by decide +kernel
theorem dX8_placeOfEntry_17 : decode cX8_placeOfEntry 17 = .ok (.if_icmp .ge 42, 3) := by decide +kernel
theorem dX8_placeOfEntry_20 : decode cX8_placeOfEntry 20 = .ok (.aload_n 0, 1) := by decide +kernel
theorem dX8_placeOfEntry_21 : decode cX8_placeOfEntry 21 = .ok (.getfield 57, 3) := by decide +kernel
theorem dX8_placeOfEntry_24 : decode cX8_placeOfEntry 24 = .ok (.iload 4, 2) := by decide +kernel
theorem dX8_placeOfEntry_26 : decode cX8_placeOfEntry 26 = .ok (.baload, 1) := by decide +kernel
theorem dX8_placeOfEntry_27 : decode cX8_placeOfEntry 27 = .ok (.ifCond .eq 24, 3) := by decide +kernel
theorem dX8_placeOfEntry_30 : decode cX8_placeOfEntry 30 = .ok (.aload_n 0, 1) := by decide +kernel
theorem dX8_placeOfEntry_31 : decode cX8_placeOfEntry 31 = .ok (.iload_n 1, 1) := by decide +kernel
theorem dX8_placeOfEntry_32 : decode cX8_placeOfEntry 32 = .ok (.aload_n 0, 1) := by decide +kernel
theorem dX8_placeOfEntry_33 : decode cX8_placeOfEntry 33 = .ok (.getfield 60, 3) := by decide +kernel
theorem dX8_placeOfEntry_36 : decode cX8_placeOfEntry 36 = .ok (.iload 4, 2) := by decide +kernel
theorem dX8_placeOfEntry_38 : decode cX8_placeOfEntry 38 = .ok (.iaload, 1) := by decide +kernel
theorem dX8_placeOfEntry_39 : decode cX8_placeOfEntry 39 = .ok (.invokevirtual 170, 3) := by decide +kernel
theorem dX8_placeOfEntry_42 : decode cX8_placeOfEntry 42 = .ok (.iload_n 2, 1) := by decide +kernel
theorem dX8_placeOfEntry_43 : decode cX8_placeOfEntry 43 = .ok (.if_icmp .ne 8, 3) := by decide +kernel
theorem dX8_placeOfEntry_46 : decode cX8_placeOfEntry 46 = .ok (.iload 4, 2) := by decide +kernel
theorem dX8_placeOfEntry_48 : decode cX8_placeOfEntry 48 = .ok (.goto 4, 3) := by decide +kernel
theorem dX8_placeOfEntry_51 : decode cX8_placeOfEntry 51 = .ok (.iload_n 3, 1) := by decide +kernel
theorem dX8_placeOfEntry_52 : decode cX8_placeOfEntry 52 = .ok (.istore_n 3, 1) := by decide +kernel
theorem dX8_placeOfEntry_53 : decode cX8_placeOfEntry 53 = .ok (.iinc 4 1, 3) := by decide +kernel
theorem dX8_placeOfEntry_56 : decode cX8_placeOfEntry 56 = .ok (.goto (-48), 3) := by decide +kernel
theorem dX8_placeOfEntry_59 : decode cX8_placeOfEntry 59 = .ok (.iload_n 3, 1) := by decide +kernel
theorem dX8_placeOfEntry_60 : decode cX8_placeOfEntry 60 = .ok (.ireturn, 1) := by decide +kernel
theorem dX8_entryFor_0 : decode cX8_entryFor 0 = .ok (.iconst (-1), 1) := by decide +kernel
theorem dX8_entryFor_1 : decode cX8_entryFor 1 = .ok (.istore_n 3, 1) := by decide +kernel
theorem dX8_entryFor_2 : decode cX8_entryFor 2 = .ok (.bipush 8, 2) := by decide +kernel
theorem dX8_entryFor_4 : decode cX8_entryFor 4 = .ok (.iload_n 1, 1) := by decide +kernel
theorem dX8_entryFor_5 : decode cX8_entryFor 5 = .ok (.imul, 1) := by decide +kernel
theorem dX8_entryFor_6 : decode cX8_entryFor 6 = .ok (.istore 4, 2) := by decide +kernel
theorem dX8_entryFor_8 : decode cX8_entryFor 8 = .ok (.iload 4, 2) := by decide +kernel
theorem dX8_entryFor_10 : decode cX8_entryFor 10 = .ok (.bipush 8, 2) := by decide +kernel
theorem dX8_entryFor_12 : decode cX8_entryFor 12 = .ok (.iload_n 1, 1) := by decide +kernel
theorem dX8_entryFor_13 : decode cX8_entryFor 13 = .ok (.imul, 1) := by decide +kernel
theorem dX8_entryFor_14 : decode cX8_entryFor 14 = .ok (.bipush 8, 2) := by decide +kernel
theorem dX8_entryFor_16 : decode cX8_entryFor 16 = .ok (.iadd, 1) := by decide +kernel
theorem dX8_entryFor_17 : decode cX8_entryFor 17 = .ok (.if_icmp .ge 104, 3) := by decide +kernel
theorem dX8_entryFor_20 : decode cX8_entryFor 20 = .ok (.aload_n 0, 1) := by decide +kernel
theorem dX8_entryFor_21 : decode cX8_entryFor 21 = .ok (.getfield 57, 3) := by decide +kernel
theorem dX8_entryFor_24 : decode cX8_entryFor 24 = .ok (.iload 4, 2) := by decide +kernel
theorem dX8_entryFor_26 : decode cX8_entryFor 26 = .ok (.baload, 1) := by decide +kernel
theorem dX8_entryFor_27 : decode cX8_entryFor 27 = .ok (.ifCond .eq 52, 3) := by decide +kernel
theorem dX8_entryFor_30 : decode cX8_entryFor 30 = .ok (.aload_n 0, 1) := by decide +kernel
theorem dX8_entryFor_31 : decode cX8_entryFor 31 = .ok (.getfield 78, 3) := by decide +kernel
theorem dX8_entryFor_34 : decode cX8_entryFor 34 = .ok (.iload 4, 2) := by decide +kernel
theorem dX8_entryFor_36 : decode cX8_entryFor 36 = .ok (.baload, 1) := by decide +kernel
theorem dX8_entryFor_37 : decode cX8_entryFor 37 = .ok (.ifCond .ne 42, 3) := by decide +kernel
theorem dX8_entryFor_40 : decode cX8_entryFor 40 = .ok (.aload_n 0, 1) := by decide +kernel
theorem dX8_entryFor_41 : decode cX8_entryFor 41 = .ok (.getfield 75, 3) := by decide +kernel
theorem dX8_entryFor_44 : decode cX8_entryFor 44 = .ok (.iload 4, 2) := by decide +kernel
theorem dX8_entryFor_46 : decode cX8_entryFor 46 = .ok (.iaload, 1) := by decide +kernel
theorem dX8_entryFor_47 : decode cX8_entryFor 47 = .ok (.aload_n 0, 1) := by decide +kernel
theorem dX8_entryFor_48 : decode cX8_entryFor 48 = .ok (.getfield 173, 3) := by decide +kernel
theorem dX8_entryFor_51 : decode cX8_entryFor 51 = .ok (.if_icmp .le 28, 3) := by decide +kernel
theorem dX8_entryFor_54 : decode cX8_entryFor 54 = .ok (.aload_n 0, 1) := by decide +kernel
theorem dX8_entryFor_55 : decode cX8_entryFor 55 = .ok (.getfield 63, 3) := by decide +kernel
theorem dX8_entryFor_58 : decode cX8_entryFor 58 = .ok (.iload 4, 2) := by decide +kernel
theorem dX8_entryFor_60 : decode cX8_entryFor 60 = .ok (.iaload, 1) := by decide +kernel
theorem dX8_entryFor_61 : decode cX8_entryFor 61 = .ok (.aload_n 0, 1) := by decide +kernel
theorem dX8_entryFor_62 : decode cX8_entryFor 62 = .ok (.getfield 66, 3) := by decide +kernel
theorem dX8_entryFor_65 : decode cX8_entryFor 65 = .ok (.iload 4, 2) := by decide +kernel
theorem dX8_entryFor_67 : decode cX8_entryFor 67 = .ok (.iaload, 1) := by decide +kernel
theorem dX8_entryFor_68 : decode cX8_entryFor 68 = .ok (.iload_n 2, 1) := by decide +kernel
theorem dX8_entryFor_69 : decode cX8_entryFor 69 = .ok (.invokestatic 146, 3) := by decide +kernel
theorem dX8_entryFor_72 : decode cX8_entryFor 72 = .ok (.ifCond .eq 7, 3) := by decide +kernel
theorem dX8_entryFor_75 : decode cX8_entryFor 75 = .ok (.iconst 1, 1) := by decide +kernel
theorem dX8_entryFor_76 : decode cX8_entryFor 76 = .ok (.goto 4, 3) := by decide +kernel
theorem dX8_entryFor_79 : decode cX8_entryFor 79 = .ok (.iconst 0, 1) := by decide +kernel
theorem dX8_entryFor_80 : decode cX8_entryFor 80 = .ok (.istore 5, 2) := by decide +kernel
theorem dX8_entryFor_82 : decode cX8_entryFor 82 = .ok (.iload 5, 2) := by decide +kernel
theorem dX8_entryFor_84 : decode cX8_entryFor 84 = .ok (.ifCond .eq 29, 3) := by decide +kernel
theorem dX8_entryFor_87 : decode cX8_entryFor 87 = .ok (.iload_n 3, 1) := by decide +kernel
theorem dX8_entryFor_88 : decode cX8_entryFor 88 = .ok (.iconst (-1), 1) := by decide +kernel
theorem dX8_entryFor_89 : decode cX8_entryFor 89 = .ok (.if_icmp .eq 19, 3) := by decide +kernel
theorem dX8_entryFor_92 : decode cX8_entryFor 92 = .ok (.aload_n 0, 1) := by decide +kernel
theorem dX8_entryFor_93 : decode cX8_entryFor 93 = .ok (.getfield 66, 3) := by decide +kernel
theorem dX8_entryFor_96 : decode cX8_entryFor 96 = .ok (.iload 4, 2) := by decide +kernel
theorem dX8_entryFor_98 : decode cX8_entryFor 98 = .ok (.iaload, 1) := by decide +kernel
theorem dX8_entryFor_99 : decode cX8_entryFor 99 = .ok (.aload_n 0, 1) := by decide +kernel
theorem dX8_entryFor_100 : decode cX8_entryFor 100 = .ok (.getfield 66, 3) := by decide +kernel
theorem dX8_entryFor_103 : decode cX8_entryFor 103 = .ok (.iload_n 3, 1) := by decide +kernel
theorem dX8_entryFor_104 : decode cX8_entryFor 104 = .ok (.iaload, 1) := by decide +kernel
theorem dX8_entryFor_105 : decode cX8_entryFor 105 = .ok (.if_icmp .le 8, 3) := by decide +kernel
theorem dX8_entryFor_108 : decode cX8_entryFor 108 = .ok (.iload 4, 2) := by decide +kernel
theorem dX8_entryFor_110 : decode cX8_entryFor 110 = .ok (.goto 4, 3) := by decide +kernel
theorem dX8_entryFor_113 : decode cX8_entryFor 113 = .ok (.iload_n 3, 1) := by decide +kernel
theorem dX8_entryFor_114 : decode cX8_entryFor 114 = .ok (.istore_n 3, 1) := by decide +kernel
theorem dX8_entryFor_115 : decode cX8_entryFor 115 = .ok (.iinc 4 1, 3) := by decide +kernel
theorem dX8_entryFor_118 : decode cX8_entryFor 118 = .ok (.goto (-110), 3) := by decide +kernel
theorem dX8_entryFor_121 : decode cX8_entryFor 121 = .ok (.iload_n 3, 1) := by decide +kernel
theorem dX8_entryFor_122 : decode cX8_entryFor 122 = .ok (.ireturn, 1) := by decide +kernel
theorem dX8_frees_0 : decode cX8_frees 0 = .ok (.aload_n 0, 1) := by decide +kernel
theorem dX8_frees_1 : decode cX8_frees 1 = .ok (.iload_n 1, 1) := by decide +kernel
theorem dX8_frees_2 : decode cX8_frees 2 = .ok (.invokevirtual 176, 3) := by decide +kernel
theorem dX8_frees_5 : decode cX8_frees 5 = .ok (.bipush 8, 2) := by decide +kernel
theorem dX8_frees_7 : decode cX8_frees 7 = .ok (.if_icmp .ne 15, 3) := by decide +kernel
theorem dX8_frees_10 : decode cX8_frees 10 = .ok (.aload_n 0, 1) := by decide +kernel
theorem dX8_frees_11 : decode cX8_frees 11 = .ok (.getfield 57, 3) := by decide +kernel
theorem dX8_frees_14 : decode cX8_frees 14 = .ok (.aload_n 0, 1) := by decide +kernel
theorem dX8_frees_15 : decode cX8_frees 15 = .ok (.iload_n 1, 1) := by decide +kernel
theorem dX8_frees_16 : decode cX8_frees 16 = .ok (.iconst 0, 1) := by decide +kernel
theorem dX8_frees_17 : decode cX8_frees 17 = .ok (.invokevirtual 179, 3) := by decide +kernel
theorem dX8_frees_20 : decode cX8_frees 20 = .ok (.iconst 0, 1) := by decide +kernel
theorem dX8_frees_21 : decode cX8_frees 21 = .ok (.bastore, 1) := by decide +kernel
theorem dX8_frees_22 : decode cX8_frees 22 = .ok (.bipush 8, 2) := by decide +kernel
theorem dX8_frees_24 : decode cX8_frees 24 = .ok (.iload_n 1, 1) := by decide +kernel
theorem dX8_frees_25 : decode cX8_frees 25 = .ok (.imul, 1) := by decide +kernel
theorem dX8_frees_26 : decode cX8_frees 26 = .ok (.istore_n 2, 1) := by decide +kernel
theorem dX8_frees_27 : decode cX8_frees 27 = .ok (.aload_n 0, 1) := by decide +kernel
theorem dX8_frees_28 : decode cX8_frees 28 = .ok (.getfield 57, 3) := by decide +kernel
theorem dX8_frees_31 : decode cX8_frees 31 = .ok (.iload_n 2, 1) := by decide +kernel
theorem dX8_frees_32 : decode cX8_frees 32 = .ok (.baload, 1) := by decide +kernel
theorem dX8_frees_33 : decode cX8_frees 33 = .ok (.ifCond .eq 9, 3) := by decide +kernel
theorem dX8_frees_36 : decode cX8_frees 36 = .ok (.iinc 2 1, 3) := by decide +kernel
theorem dX8_frees_39 : decode cX8_frees 39 = .ok (.goto (-12), 3) := by decide +kernel
theorem dX8_frees_42 : decode cX8_frees 42 = .ok (.iload_n 2, 1) := by decide +kernel
theorem dX8_frees_43 : decode cX8_frees 43 = .ok (.ireturn, 1) := by decide +kernel
theorem dX8_gets_0 : decode cX8_gets 0 = .ok (.aload_n 0, 1) := by decide +kernel
theorem dX8_gets_1 : decode cX8_gets 1 = .ok (.iload_n 2, 1) := by decide +kernel
theorem dX8_gets_2 : decode cX8_gets 2 = .ok (.invokevirtual 149, 3) := by decide +kernel
theorem dX8_gets_5 : decode cX8_gets 5 = .ok (.istore_n 3, 1) := by decide +kernel
theorem dX8_gets_6 : decode cX8_gets 6 = .ok (.aload_n 0, 1) := by decide +kernel
theorem dX8_gets_7 : decode cX8_gets 7 = .ok (.iload_n 2, 1) := by decide +kernel
theorem dX8_gets_8 : decode cX8_gets 8 = .ok (.iload_n 3, 1) := by decide +kernel
theorem dX8_gets_9 : decode cX8_gets 9 = .ok (.invokevirtual 155, 3) := by decide +kernel
theorem dX8_gets_12 : decode cX8_gets 12 = .ok (.istore 4, 2) := by decide +kernel
theorem dX8_gets_14 : decode cX8_gets 14 = .ok (.iload_n 2, 1) := by decide +kernel
theorem dX8_gets_15 : decode cX8_gets 15 = .ok (.iload 4, 2) := by decide +kernel
theorem dX8_gets_17 : decode cX8_gets 17 = .ok (.invokestatic 111, 3) := by decide +kernel
theorem dX8_gets_20 : decode cX8_gets 20 = .ok (.bipush 16, 2) := by decide +kernel
theorem dX8_gets_22 : decode cX8_gets 22 = .ok (.iload 4, 2) := by decide +kernel
theorem dX8_gets_24 : decode cX8_gets 24 = .ok (.isub, 1) := by decide +kernel
theorem dX8_gets_25 : decode cX8_gets 25 = .ok (.ishl, 1) := by decide +kernel
theorem dX8_gets_26 : decode cX8_gets 26 = .ok (.istore 5, 2) := by decide +kernel
theorem dX8_gets_28 : decode cX8_gets 28 = .ok (.bipush 8, 2) := by decide +kernel
theorem dX8_gets_30 : decode cX8_gets 30 = .ok (.iload_n 1, 1) := by decide +kernel
theorem dX8_gets_31 : decode cX8_gets 31 = .ok (.imul, 1) := by decide +kernel
theorem dX8_gets_32 : decode cX8_gets 32 = .ok (.istore 6, 2) := by decide +kernel
theorem dX8_gets_34 : decode cX8_gets 34 = .ok (.iload 6, 2) := by decide +kernel
theorem dX8_gets_36 : decode cX8_gets 36 = .ok (.bipush 8, 2) := by decide +kernel
theorem dX8_gets_38 : decode cX8_gets 38 = .ok (.iload_n 1, 1) := by decide +kernel
theorem dX8_gets_39 : decode cX8_gets 39 = .ok (.imul, 1) := by decide +kernel
theorem dX8_gets_40 : decode cX8_gets 40 = .ok (.bipush 8, 2) := by decide +kernel
theorem dX8_gets_42 : decode cX8_gets 42 = .ok (.iadd, 1) := by decide +kernel
theorem dX8_gets_43 : decode cX8_gets 43 = .ok (.if_icmp .ge 55, 3) := by decide +kernel
theorem dX8_gets_46 : decode cX8_gets 46 = .ok (.aload_n 0, 1) := by decide +kernel
theorem dX8_gets_47 : decode cX8_gets 47 = .ok (.getfield 57, 3) := by decide +kernel
theorem dX8_gets_50 : decode cX8_gets 50 = .ok (.iload 6, 2) := by decide +kernel
theorem dX8_gets_52 : decode cX8_gets 52 = .ok (.aload_n 0, 1) := by decide +kernel
theorem dX8_gets_53 : decode cX8_gets 53 = .ok (.getfield 57, 3) := by decide +kernel
theorem dX8_gets_56 : decode cX8_gets 56 = .ok (.iload 6, 2) := by decide +kernel
theorem dX8_gets_58 : decode cX8_gets 58 = .ok (.baload, 1) := by decide +kernel
theorem dX8_gets_59 : decode cX8_gets 59 = .ok (.ifCond .eq 31, 3) := by decide +kernel
theorem dX8_gets_62 : decode cX8_gets 62 = .ok (.aload_n 0, 1) := by decide +kernel
theorem dX8_gets_63 : decode cX8_gets 63 = .ok (.getfield 63, 3) := by decide +kernel
theorem dX8_gets_66 : decode cX8_gets 66 = .ok (.iload 6, 2) := by decide +kernel
theorem dX8_gets_68 : decode cX8_gets 68 = .ok (.iaload, 1) := by decide +kernel
theorem dX8_gets_69 : decode cX8_gets 69 = .ok (.aload_n 0, 1) := by decide +kernel
theorem dX8_gets_70 : decode cX8_gets 70 = .ok (.getfield 66, 3) := by decide +kernel
theorem dX8_gets_73 : decode cX8_gets 73 = .ok (.iload 6, 2) := by decide +kernel
theorem dX8_gets_75 : decode cX8_gets 75 = .ok (.iaload, 1) := by decide +kernel
theorem dX8_gets_76 : decode cX8_gets 76 = .ok (.iload 5, 2) := by decide +kernel
theorem dX8_gets_78 : decode cX8_gets 78 = .ok (.iload 4, 2) := by decide +kernel
theorem dX8_gets_80 : decode cX8_gets 80 = .ok (.invokestatic 118, 3) := by decide +kernel
theorem dX8_gets_83 : decode cX8_gets 83 = .ok (.ifCond .ne 7, 3) := by decide +kernel
theorem dX8_gets_86 : decode cX8_gets 86 = .ok (.iconst 1, 1) := by decide +kernel
theorem dX8_gets_87 : decode cX8_gets 87 = .ok (.goto 4, 3) := by decide +kernel
theorem dX8_gets_90 : decode cX8_gets 90 = .ok (.iconst 0, 1) := by decide +kernel
theorem dX8_gets_91 : decode cX8_gets 91 = .ok (.bastore, 1) := by decide +kernel
theorem dX8_gets_92 : decode cX8_gets 92 = .ok (.iinc 6 1, 3) := by decide +kernel
theorem dX8_gets_95 : decode cX8_gets 95 = .ok (.goto (-61), 3) := by decide +kernel
theorem dX8_gets_98 : decode cX8_gets 98 = .ok (.aload_n 0, 1) := by decide +kernel
theorem dX8_gets_99 : decode cX8_gets 99 = .ok (.iload_n 1, 1) := by decide +kernel
theorem dX8_gets_100 : decode cX8_gets 100 = .ok (.invokevirtual 182, 3) := by decide +kernel
theorem dX8_gets_103 : decode cX8_gets 103 = .ok (.istore 6, 2) := by decide +kernel
theorem dX8_gets_105 : decode cX8_gets 105 = .ok (.aload_n 0, 1) := by decide +kernel
theorem dX8_gets_106 : decode cX8_gets 106 = .ok (.getfield 57, 3) := by decide +kernel
theorem dX8_gets_109 : decode cX8_gets 109 = .ok (.iload 6, 2) := by decide +kernel
theorem dX8_gets_111 : decode cX8_gets 111 = .ok (.iconst 1, 1) := by decide +kernel
theorem dX8_gets_112 : decode cX8_gets 112 = .ok (.bastore, 1) := by decide +kernel
theorem dX8_gets_113 : decode cX8_gets 113 = .ok (.aload_n 0, 1) := by decide +kernel
theorem dX8_gets_114 : decode cX8_gets 114 = .ok (.getfield 63, 3) := by decide +kernel
theorem dX8_gets_117 : decode cX8_gets 117 = .ok (.iload 6, 2) := by decide +kernel
theorem dX8_gets_119 : decode cX8_gets 119 = .ok (.iload 5, 2) := by decide +kernel
theorem dX8_gets_121 : decode cX8_gets 121 = .ok (.iastore, 1) := by decide +kernel
theorem dX8_gets_122 : decode cX8_gets 122 = .ok (.aload_n 0, 1) := by decide +kernel
theorem dX8_gets_123 : decode cX8_gets 123 = .ok (.getfield 66, 3) := by decide +kernel
theorem dX8_gets_126 : decode cX8_gets 126 = .ok (.iload 6, 2) := by decide +kernel
theorem dX8_gets_128 : decode cX8_gets 128 = .ok (.iload 4, 2) := by decide +kernel
theorem dX8_gets_130 : decode cX8_gets 130 = .ok (.iastore, 1) := by decide +kernel
theorem dX8_gets_131 : decode cX8_gets 131 = .ok (.aload_n 0, 1) := by decide +kernel
theorem dX8_gets_132 : decode cX8_gets 132 = .ok (.getfield 69, 3) := by decide +kernel
theorem dX8_gets_135 : decode cX8_gets 135 = .ok (.iload 6, 2) := by decide +kernel
theorem dX8_gets_137 : decode cX8_gets 137 = .ok (.iload_n 3, 1) := by decide +kernel
theorem dX8_gets_138 : decode cX8_gets 138 = .ok (.iastore, 1) := by decide +kernel
theorem dX8_gets_139 : decode cX8_gets 139 = .ok (.aload_n 0, 1) := by decide +kernel
theorem dX8_gets_140 : decode cX8_gets 140 = .ok (.getfield 72, 3) := by decide +kernel
theorem dX8_gets_143 : decode cX8_gets 143 = .ok (.iload 6, 2) := by decide +kernel
theorem dX8_gets_145 : decode cX8_gets 145 = .ok (.iload_n 3, 1) := by decide +kernel
theorem dX8_gets_146 : decode cX8_gets 146 = .ok (.iconst (-1), 1) := by decide +kernel
theorem dX8_gets_147 : decode cX8_gets 147 = .ok (.if_icmp .ne 7, 3) := by decide +kernel
theorem dX8_gets_150 : decode cX8_gets 150 = .ok (.iconst 0, 1) := by decide +kernel
theorem dX8_gets_151 : decode cX8_gets 151 = .ok (.goto 9, 3) := by decide +kernel
theorem dX8_gets_154 : decode cX8_gets 154 = .ok (.aload_n 0, 1) := by decide +kernel
theorem dX8_gets_155 : decode cX8_gets 155 = .ok (.getfield 27, 3) := by decide +kernel
theorem dX8_gets_158 : decode cX8_gets 158 = .ok (.iload_n 3, 1) := by decide +kernel
theorem dX8_gets_159 : decode cX8_gets 159 = .ok (.iaload, 1) := by decide +kernel
theorem dX8_gets_160 : decode cX8_gets 160 = .ok (.iastore, 1) := by decide +kernel
theorem dX8_gets_161 : decode cX8_gets 161 = .ok (.aload_n 0, 1) := by decide +kernel
theorem dX8_gets_162 : decode cX8_gets 162 = .ok (.getfield 75, 3) := by decide +kernel
theorem dX8_gets_165 : decode cX8_gets 165 = .ok (.iload 6, 2) := by decide +kernel
theorem dX8_gets_167 : decode cX8_gets 167 = .ok (.aload_n 0, 1) := by decide +kernel
theorem dX8_gets_168 : decode cX8_gets 168 = .ok (.getfield 173, 3) := by decide +kernel
theorem dX8_gets_171 : decode cX8_gets 171 = .ok (.iload_n 3, 1) := by decide +kernel
theorem dX8_gets_172 : decode cX8_gets 172 = .ok (.iconst (-1), 1) := by decide +kernel
theorem dX8_gets_173 : decode cX8_gets 173 = .ok (.if_icmp .ne 10, 3) := by decide +kernel
theorem dX8_gets_176 : decode cX8_gets 176 = .ok (.aload_n 0, 1) := by decide +kernel
theorem dX8_gets_177 : decode cX8_gets 177 = .ok (.getfield 13, 3) := by decide +kernel
theorem dX8_gets_180 : decode cX8_gets 180 = .ok (.goto 7, 3) := by decide +kernel
theorem dX8_gets_183 : decode cX8_gets 183 = .ok (.aload_n 0, 1) := by decide +kernel
theorem dX8_gets_184 : decode cX8_gets 184 = .ok (.getfield 7, 3) := by decide +kernel
theorem dX8_gets_187 : decode cX8_gets 187 = .ok (.iadd, 1) := by decide +kernel
theorem dX8_gets_188 : decode cX8_gets 188 = .ok (.iastore, 1) := by decide +kernel
theorem dX8_gets_189 : decode cX8_gets 189 = .ok (.aload_n 0, 1) := by decide +kernel
theorem dX8_gets_190 : decode cX8_gets 190 = .ok (.getfield 78, 3) := by decide +kernel
theorem dX8_gets_193 : decode cX8_gets 193 = .ok (.iload 6, 2) := by decide +kernel
theorem dX8_gets_195 : decode cX8_gets 195 = .ok (.iconst 0, 1) := by decide +kernel
theorem dX8_gets_196 : decode cX8_gets 196 = .ok (.bastore, 1) := by decide +kernel
theorem dX8_gets_197 : decode cX8_gets 197 = .ok (.aload_n 0, 1) := by decide +kernel
theorem dX8_gets_198 : decode cX8_gets 198 = .ok (.getfield 81, 3) := by decide +kernel
theorem dX8_gets_201 : decode cX8_gets 201 = .ok (.iload 6, 2) := by decide +kernel
theorem dX8_gets_203 : decode cX8_gets 203 = .ok (.iload_n 3, 1) := by decide +kernel
theorem dX8_gets_204 : decode cX8_gets 204 = .ok (.iconst (-1), 1) := by decide +kernel
theorem dX8_gets_205 : decode cX8_gets 205 = .ok (.if_icmp .ne 7, 3) := by decide +kernel
theorem dX8_gets_208 : decode cX8_gets 208 = .ok (.iconst 0, 1) := by decide +kernel
theorem dX8_gets_209 : decode cX8_gets 209 = .ok (.goto 9, 3) := by decide +kernel
theorem dX8_gets_212 : decode cX8_gets 212 = .ok (.aload_n 0, 1) := by decide +kernel
theorem dX8_gets_213 : decode cX8_gets 213 = .ok (.getfield 30, 3) := by decide +kernel
theorem dX8_gets_216 : decode cX8_gets 216 = .ok (.iload_n 3, 1) := by decide +kernel
theorem dX8_gets_217 : decode cX8_gets 217 = .ok (.iaload, 1) := by decide +kernel
theorem dX8_gets_218 : decode cX8_gets 218 = .ok (.iastore, 1) := by decide +kernel
theorem dX8_gets_219 : decode cX8_gets 219 = .ok (.iconst 0, 1) := by decide +kernel
theorem dX8_gets_220 : decode cX8_gets 220 = .ok (.istore 7, 2) := by decide +kernel
theorem dX8_gets_222 : decode cX8_gets 222 = .ok (.iload 7, 2) := by decide +kernel
theorem dX8_gets_224 : decode cX8_gets 224 = .ok (.aload_n 0, 1) := by decide +kernel
theorem dX8_gets_225 : decode cX8_gets 225 = .ok (.getfield 81, 3) := by decide +kernel
theorem dX8_gets_228 : decode cX8_gets 228 = .ok (.iload 6, 2) := by decide +kernel
theorem dX8_gets_230 : decode cX8_gets 230 = .ok (.iaload, 1) := by decide +kernel
theorem dX8_gets_231 : decode cX8_gets 231 = .ok (.if_icmp .ge 91, 3) := by decide +kernel
theorem dX8_gets_234 : decode cX8_gets 234 = .ok (.aload_n 0, 1) := by decide +kernel
theorem dX8_gets_235 : decode cX8_gets 235 = .ok (.getfield 84, 3) := by decide +kernel
theorem dX8_gets_238 : decode cX8_gets 238 = .ok (.iconst 4, 1) := by decide +kernel
theorem dX8_gets_239 : decode cX8_gets 239 = .ok (.iload 6, 2) := by decide +kernel
theorem dX8_gets_241 : decode cX8_gets 241 = .ok (.imul, 1) := by decide +kernel
theorem dX8_gets_242 : decode cX8_gets 242 = .ok (.iload 7, 2) := by decide +kernel
theorem dX8_gets_244 : decode cX8_gets 244 = .ok (.iadd, 1) := by decide +kernel
theorem dX8_gets_245 : decode cX8_gets 245 = .ok (.aload_n 0, 1) := by decide +kernel
theorem dX8_gets_246 : decode cX8_gets 246 = .ok (.getfield 33, 3) := by decide +kernel
theorem dX8_gets_249 : decode cX8_gets 249 = .ok (.iconst 4, 1) := by decide +kernel
theorem dX8_gets_250 : decode cX8_gets 250 = .ok (.iload_n 3, 1) := by decide +kernel
theorem dX8_gets_251 : decode cX8_gets 251 = .ok (.imul, 1) := by decide +kernel
theorem dX8_gets_252 : decode cX8_gets 252 = .ok (.iload 7, 2) := by decide +kernel
theorem dX8_gets_254 : decode cX8_gets 254 = .ok (.iadd, 1) := by decide +kernel
theorem dX8_gets_255 : decode cX8_gets 255 = .ok (.iaload, 1) := by decide +kernel
theorem dX8_gets_256 : decode cX8_gets 256 = .ok (.iastore, 1) := by decide +kernel
theorem dX8_gets_257 : decode cX8_gets 257 = .ok (.aload_n 0, 1) := by decide +kernel
theorem dX8_gets_258 : decode cX8_gets 258 = .ok (.getfield 87, 3) := by decide +kernel
theorem dX8_gets_261 : decode cX8_gets 261 = .ok (.iconst 4, 1) := by decide +kernel
theorem dX8_gets_262 : decode cX8_gets 262 = .ok (.iload 6, 2) := by decide +kernel
theorem dX8_gets_264 : decode cX8_gets 264 = .ok (.imul, 1) := by decide +kernel
theorem dX8_gets_265 : decode cX8_gets 265 = .ok (.iload 7, 2) := by decide +kernel
theorem dX8_gets_267 : decode cX8_gets 267 = .ok (.iadd, 1) := by decide +kernel
theorem dX8_gets_268 : decode cX8_gets 268 = .ok (.aload_n 0, 1) := by decide +kernel
theorem dX8_gets_269 : decode cX8_gets 269 = .ok (.getfield 36, 3) := by decide +kernel
theorem dX8_gets_272 : decode cX8_gets 272 = .ok (.iconst 4, 1) := by decide +kernel
theorem dX8_gets_273 : decode cX8_gets 273 = .ok (.iload_n 3, 1) := by decide +kernel
theorem dX8_gets_274 : decode cX8_gets 274 = .ok (.imul, 1) := by decide +kernel
theorem dX8_gets_275 : decode cX8_gets 275 = .ok (.iload 7, 2) := by decide +kernel
theorem dX8_gets_277 : decode cX8_gets 277 = .ok (.iadd, 1) := by decide +kernel
theorem dX8_gets_278 : decode cX8_gets 278 = .ok (.iaload, 1) := by decide +kernel
theorem dX8_gets_279 : decode cX8_gets 279 = .ok (.iastore, 1) := by decide +kernel
theorem dX8_gets_280 : decode cX8_gets 280 = .ok (.aload_n 0, 1) := by decide +kernel
theorem dX8_gets_281 : decode cX8_gets 281 = .ok (.getfield 90, 3) := by decide +kernel
theorem dX8_gets_284 : decode cX8_gets 284 = .ok (.iconst 4, 1) := by decide +kernel
theorem dX8_gets_285 : decode cX8_gets 285 = .ok (.iload 6, 2) := by decide +kernel
theorem dX8_gets_287 : decode cX8_gets 287 = .ok (.imul, 1) := by decide +kernel
theorem dX8_gets_288 : decode cX8_gets 288 = .ok (.iload 7, 2) := by decide +kernel
theorem dX8_gets_290 : decode cX8_gets 290 = .ok (.iadd, 1) := by decide +kernel
theorem dX8_gets_291 : decode cX8_gets 291 = .ok (.aload_n 0, 1) := by decide +kernel
theorem dX8_gets_292 : decode cX8_gets 292 = .ok (.getfield 39, 3) := by decide +kernel
theorem dX8_gets_295 : decode cX8_gets 295 = .ok (.iconst 4, 1) := by decide +kernel
theorem dX8_gets_296 : decode cX8_gets 296 = .ok (.iload_n 3, 1) := by decide +kernel
theorem dX8_gets_297 : decode cX8_gets 297 = .ok (.imul, 1) := by decide +kernel
theorem dX8_gets_298 : decode cX8_gets 298 = .ok (.iload 7, 2) := by decide +kernel
theorem dX8_gets_300 : decode cX8_gets 300 = .ok (.iadd, 1) := by decide +kernel
theorem dX8_gets_301 : decode cX8_gets 301 = .ok (.iaload, 1) := by decide +kernel
theorem dX8_gets_302 : decode cX8_gets 302 = .ok (.iastore, 1) := by decide +kernel
theorem dX8_gets_303 : decode cX8_gets 303 = .ok (.aload_n 0, 1) := by decide +kernel
theorem dX8_gets_304 : decode cX8_gets 304 = .ok (.getfield 93, 3) := by decide +kernel
theorem dX8_gets_307 : decode cX8_gets 307 = .ok (.iconst 4, 1) := by decide +kernel
theorem dX8_gets_308 : decode cX8_gets 308 = .ok (.iload 6, 2) := by decide +kernel
theorem dX8_gets_310 : decode cX8_gets 310 = .ok (.imul, 1) := by decide +kernel
theorem dX8_gets_311 : decode cX8_gets 311 = .ok (.iload 7, 2) := by decide +kernel
theorem dX8_gets_313 : decode cX8_gets 313 = .ok (.iadd, 1) := by decide +kernel
theorem dX8_gets_314 : decode cX8_gets 314 = .ok (.iconst 0, 1) := by decide +kernel
theorem dX8_gets_315 : decode cX8_gets 315 = .ok (.iastore, 1) := by decide +kernel
theorem dX8_gets_316 : decode cX8_gets 316 = .ok (.iinc 7 1, 3) := by decide +kernel
theorem dX8_gets_319 : decode cX8_gets 319 = .ok (.goto (-97), 3) := by decide +kernel
theorem dX8_gets_322 : decode cX8_gets 322 = .ok (.iload 6, 2) := by decide +kernel
theorem dX8_gets_324 : decode cX8_gets 324 = .ok (.ireturn, 1) := by decide +kernel
theorem dX8_bestOf_0 : decode cX8_bestOf 0 = .ok (.iconst 4, 1) := by decide +kernel
theorem dX8_bestOf_1 : decode cX8_bestOf 1 = .ok (.istore_n 3, 1) := by decide +kernel
theorem dX8_bestOf_2 : decode cX8_bestOf 2 = .ok (.iconst 4, 1) := by decide +kernel
theorem dX8_bestOf_3 : decode cX8_bestOf 3 = .ok (.iload_n 2, 1) := by decide +kernel
theorem dX8_bestOf_4 : decode cX8_bestOf 4 = .ok (.imul, 1) := by decide +kernel
theorem dX8_bestOf_5 : decode cX8_bestOf 5 = .ok (.istore 4, 2) := by decide +kernel
theorem dX8_bestOf_7 : decode cX8_bestOf 7 = .ok (.iload 4, 2) := by decide +kernel
theorem dX8_bestOf_9 : decode cX8_bestOf 9 = .ok (.iconst 4, 1) := by decide +kernel
theorem dX8_bestOf_10 : decode cX8_bestOf 10 = .ok (.iload_n 2, 1) := by decide +kernel
theorem dX8_bestOf_11 : decode cX8_bestOf 11 = .ok (.imul, 1) := by decide +kernel
theorem dX8_bestOf_12 : decode cX8_bestOf 12 = .ok (.aload_n 0, 1) := by decide +kernel
theorem dX8_bestOf_13 : decode cX8_bestOf 13 = .ok (.getfield 81, 3) := by decide +kernel
theorem dX8_bestOf_16 : decode cX8_bestOf 16 = .ok (.iload_n 2, 1) := by decide +kernel
theorem dX8_bestOf_17 : decode cX8_bestOf 17 = .ok (.iaload, 1) := by decide +kernel
theorem dX8_bestOf_18 : decode cX8_bestOf 18 = .ok (.iadd, 1) := by decide +kernel
theorem dX8_bestOf_19 : decode cX8_bestOf 19 = .ok (.if_icmp .ge 52, 3) := by decide +kernel
theorem dX8_bestOf_22 : decode cX8_bestOf 22 = .ok (.aload_n 0, 1) := by decide +kernel
theorem dX8_bestOf_23 : decode cX8_bestOf 23 = .ok (.getfield 96, 3) := by decide +kernel
theorem dX8_bestOf_26 : decode cX8_bestOf 26 = .ok (.bipush 32, 2) := by decide +kernel
theorem dX8_bestOf_28 : decode cX8_bestOf 28 = .ok (.iload_n 1, 1) := by decide +kernel
theorem dX8_bestOf_29 : decode cX8_bestOf 29 = .ok (.imul, 1) := by decide +kernel
theorem dX8_bestOf_30 : decode cX8_bestOf 30 = .ok (.aload_n 0, 1) := by decide +kernel
theorem dX8_bestOf_31 : decode cX8_bestOf 31 = .ok (.getfield 84, 3) := by decide +kernel
theorem dX8_bestOf_34 : decode cX8_bestOf 34 = .ok (.iload 4, 2) := by decide +kernel
theorem dX8_bestOf_36 : decode cX8_bestOf 36 = .ok (.iaload, 1) := by decide +kernel
theorem dX8_bestOf_37 : decode cX8_bestOf 37 = .ok (.iadd, 1) := by decide +kernel
theorem dX8_bestOf_38 : decode cX8_bestOf 38 = .ok (.baload, 1) := by decide +kernel
theorem dX8_bestOf_39 : decode cX8_bestOf 39 = .ok (.ifCond .ne 24, 3) := by decide +kernel
theorem dX8_bestOf_42 : decode cX8_bestOf 42 = .ok (.aload_n 0, 1) := by decide +kernel
theorem dX8_bestOf_43 : decode cX8_bestOf 43 = .ok (.getfield 87, 3) := by decide +kernel
theorem dX8_bestOf_46 : decode cX8_bestOf 46 = .ok (.iload 4, 2) := by decide +kernel
theorem dX8_bestOf_48 : decode cX8_bestOf 48 = .ok (.iaload, 1) := by decide +kernel
theorem dX8_bestOf_49 : decode cX8_bestOf 49 = .ok (.iload_n 3, 1) := by decide +kernel
theorem dX8_bestOf_50 : decode cX8_bestOf 50 = .ok (.if_icmp .ge 13, 3) := by decide +kernel
theorem dX8_bestOf_53 : decode cX8_bestOf 53 = .ok (.aload_n 0, 1) := by decide +kernel
theorem dX8_bestOf_54 : decode cX8_bestOf 54 = .ok (.getfield 87, 3) := by decide +kernel
theorem dX8_bestOf_57 : decode cX8_bestOf 57 = .ok (.iload 4, 2) := by decide +kernel
theorem dX8_bestOf_59 : decode cX8_bestOf 59 = .ok (.iaload, 1) := by decide +kernel
theorem dX8_bestOf_60 : decode cX8_bestOf 60 = .ok (.goto 4, 3) := by decide +kernel
theorem dX8_bestOf_63 : decode cX8_bestOf 63 = .ok (.iload_n 3, 1) := by decide +kernel
theorem dX8_bestOf_64 : decode cX8_bestOf 64 = .ok (.istore_n 3, 1) := by decide +kernel
theorem dX8_bestOf_65 : decode cX8_bestOf 65 = .ok (.iinc 4 1, 3) := by decide +kernel
theorem dX8_bestOf_68 : decode cX8_bestOf 68 = .ok (.goto (-61), 3) := by decide +kernel
theorem dX8_bestOf_71 : decode cX8_bestOf 71 = .ok (.iload_n 3, 1) := by decide +kernel
theorem dX8_bestOf_72 : decode cX8_bestOf 72 = .ok (.ireturn, 1) := by decide +kernel
theorem dX8_goesTo_0 : decode cX8_goesTo 0 = .ok (.aload_n 0, 1) := by decide +kernel
theorem dX8_goesTo_1 : decode cX8_goesTo 1 = .ok (.iload_n 1, 1) := by decide +kernel
theorem dX8_goesTo_2 : decode cX8_goesTo 2 = .ok (.iload_n 2, 1) := by decide +kernel
theorem dX8_goesTo_3 : decode cX8_goesTo 3 = .ok (.invokevirtual 185, 3) := by decide +kernel
theorem dX8_goesTo_6 : decode cX8_goesTo 6 = .ok (.istore_n 3, 1) := by decide +kernel
theorem dX8_goesTo_7 : decode cX8_goesTo 7 = .ok (.iconst 0, 1) := by decide +kernel
theorem dX8_goesTo_8 : decode cX8_goesTo 8 = .ok (.istore 4, 2) := by decide +kernel
theorem dX8_goesTo_10 : decode cX8_goesTo 10 = .ok (.iconst 0, 1) := by decide +kernel
theorem dX8_goesTo_11 : decode cX8_goesTo 11 = .ok (.istore 5, 2) := by decide +kernel
theorem dX8_goesTo_13 : decode cX8_goesTo 13 = .ok (.iconst 4, 1) := by decide +kernel
theorem dX8_goesTo_14 : decode cX8_goesTo 14 = .ok (.iload_n 2, 1) := by decide +kernel
theorem dX8_goesTo_15 : decode cX8_goesTo 15 = .ok (.imul, 1) := by decide +kernel
theorem dX8_goesTo_16 : decode cX8_goesTo 16 = .ok (.istore 6, 2) := by decide +kernel
theorem dX8_goesTo_18 : decode cX8_goesTo 18 = .ok (.iload 6, 2) := by decide +kernel
theorem dX8_goesTo_20 : decode cX8_goesTo 20 = .ok (.iconst 4, 1) := by decide +kernel
theorem dX8_goesTo_21 : decode cX8_goesTo 21 = .ok (.iload_n 2, 1) := by decide +kernel
theorem dX8_goesTo_22 : decode cX8_goesTo 22 = .ok (.imul, 1) := by decide +kernel
theorem dX8_goesTo_23 : decode cX8_goesTo 23 = .ok (.aload_n 0, 1) := by decide +kernel
theorem dX8_goesTo_24 : decode cX8_goesTo 24 = .ok (.getfield 81, 3) := by decide +kernel
theorem dX8_goesTo_27 : decode cX8_goesTo 27 = .ok (.iload_n 2, 1) := by decide +kernel
theorem dX8_goesTo_28 : decode cX8_goesTo 28 = .ok (.iaload, 1) := by decide +kernel
theorem dX8_goesTo_29 : decode cX8_goesTo 29 = .ok (.iadd, 1) := by decide +kernel
theorem dX8_goesTo_30 : decode cX8_goesTo 30 = .ok (.if_icmp .ge 89, 3) := by decide +kernel
theorem dX8_goesTo_33 : decode cX8_goesTo 33 = .ok (.aload_n 0, 1) := by decide +kernel
theorem dX8_goesTo_34 : decode cX8_goesTo 34 = .ok (.getfield 96, 3) := by decide +kernel
theorem dX8_goesTo_37 : decode cX8_goesTo 37 = .ok (.bipush 32, 2) := by decide +kernel
theorem dX8_goesTo_39 : decode cX8_goesTo 39 = .ok (.iload_n 1, 1) := by decide +kernel
theorem dX8_goesTo_40 : decode cX8_goesTo 40 = .ok (.imul, 1) := by decide +kernel
theorem dX8_goesTo_41 : decode cX8_goesTo 41 = .ok (.aload_n 0, 1) := by decide +kernel
theorem dX8_goesTo_42 : decode cX8_goesTo 42 = .ok (.getfield 84, 3) := by decide +kernel
theorem dX8_goesTo_45 : decode cX8_goesTo 45 = .ok (.iload 6, 2) := by decide +kernel
theorem dX8_goesTo_47 : decode cX8_goesTo 47 = .ok (.iaload, 1) := by decide +kernel
theorem dX8_goesTo_48 : decode cX8_goesTo 48 = .ok (.iadd, 1) := by decide +kernel
theorem dX8_goesTo_49 : decode cX8_goesTo 49 = .ok (.baload, 1) := by decide +kernel
theorem dX8_goesTo_50 : decode cX8_goesTo 50 = .ok (.ifCond .ne 18, 3) := by decide +kernel
theorem dX8_goesTo_53 : decode cX8_goesTo 53 = .ok (.aload_n 0, 1) := by decide +kernel
theorem dX8_goesTo_54 : decode cX8_goesTo 54 = .ok (.getfield 87, 3) := by decide +kernel
theorem dX8_goesTo_57 : decode cX8_goesTo 57 = .ok (.iload 6, 2) := by decide +kernel
theorem dX8_goesTo_59 : decode cX8_goesTo 59 = .ok (.iaload, 1) := by decide +kernel
theorem dX8_goesTo_60 : decode cX8_goesTo 60 = .ok (.iload_n 3, 1) := by decide +kernel
theorem dX8_goesTo_61 : decode cX8_goesTo 61 = .ok (.if_icmp .ne 7, 3) := by decide +kernel
theorem dX8_goesTo_64 : decode cX8_goesTo 64 = .ok (.iconst 1, 1) := by decide +kernel
theorem dX8_goesTo_65 : decode cX8_goesTo 65 = .ok (.goto 4, 3) := by decide +kernel
theorem dX8_goesTo_68 : decode cX8_goesTo 68 = .ok (.iconst 0, 1) := by decide +kernel
theorem dX8_goesTo_69 : decode cX8_goesTo 69 = .ok (.istore 7, 2) := by decide +kernel
theorem dX8_goesTo_71 : decode cX8_goesTo 71 = .ok (.iload 4, 2) := by decide +kernel
theorem dX8_goesTo_73 : decode cX8_goesTo 73 = .ok (.iload 7, 2) := by decide +kernel
theorem dX8_goesTo_75 : decode cX8_goesTo 75 = .ok (.ifCond .eq 13, 3) := by decide +kernel
theorem dX8_goesTo_78 : decode cX8_goesTo 78 = .ok (.aload_n 0, 1) := by decide +kernel
theorem dX8_goesTo_79 : decode cX8_goesTo 79 = .ok (.getfield 93, 3) := by decide +kernel
theorem dX8_goesTo_82 : decode cX8_goesTo 82 = .ok (.iload 6, 2) := by decide +kernel
theorem dX8_goesTo_84 : decode cX8_goesTo 84 = .ok (.iaload, 1) := by decide +kernel
theorem dX8_goesTo_85 : decode cX8_goesTo 85 = .ok (.goto 4, 3) := by decide +kernel
theorem dX8_goesTo_88 : decode cX8_goesTo 88 = .ok (.iconst 0, 1) := by decide +kernel
theorem dX8_goesTo_89 : decode cX8_goesTo 89 = .ok (.iadd, 1) := by decide +kernel
theorem dX8_goesTo_90 : decode cX8_goesTo 90 = .ok (.istore 4, 2) := by decide +kernel
theorem dX8_goesTo_92 : decode cX8_goesTo 92 = .ok (.iload 5, 2) := by decide +kernel
theorem dX8_goesTo_94 : decode cX8_goesTo 94 = .ok (.iload 7, 2) := by decide +kernel
theorem dX8_goesTo_96 : decode cX8_goesTo 96 = .ok (.ifCond .eq 13, 3) := by decide +kernel
theorem dX8_goesTo_99 : decode cX8_goesTo 99 = .ok (.aload_n 0, 1) := by decide +kernel
theorem dX8_goesTo_100 : decode cX8_goesTo 100 = .ok (.getfield 90, 3) := by decide +kernel
theorem dX8_goesTo_103 : decode cX8_goesTo 103 = .ok (.iload 6, 2) := by decide +kernel
theorem dX8_goesTo_105 : decode cX8_goesTo 105 = .ok (.iaload, 1) := by decide +kernel
theorem dX8_goesTo_106 : decode cX8_goesTo 106 = .ok (.goto 4, 3) := by decide +kernel
theorem dX8_goesTo_109 : decode cX8_goesTo 109 = .ok (.iconst 0, 1) := by decide +kernel
theorem dX8_goesTo_110 : decode cX8_goesTo 110 = .ok (.iadd, 1) := by decide +kernel
theorem dX8_goesTo_111 : decode cX8_goesTo 111 = .ok (.istore 5, 2) := by decide +kernel
theorem dX8_goesTo_113 : decode cX8_goesTo 113 = .ok (.iinc 6 1, 3) := by decide +kernel
theorem dX8_goesTo_116 : decode cX8_goesTo 116 = .ok (.goto (-98), 3) := by decide +kernel
theorem dX8_goesTo_119 : decode cX8_goesTo 119 = .ok (.iconst (-1), 1) := by decide +kernel
theorem dX8_goesTo_120 : decode cX8_goesTo 120 = .ok (.istore 6, 2) := by decide +kernel
theorem dX8_goesTo_122 : decode cX8_goesTo 122 = .ok (.iconst 0, 1) := by decide +kernel
theorem dX8_goesTo_123 : decode cX8_goesTo 123 = .ok (.istore 7, 2) := by decide +kernel
theorem dX8_goesTo_125 : decode cX8_goesTo 125 = .ok (.iconst 4, 1) := by decide +kernel
theorem dX8_goesTo_126 : decode cX8_goesTo 126 = .ok (.iload_n 2, 1) := by decide +kernel
theorem dX8_goesTo_127 : decode cX8_goesTo 127 = .ok (.imul, 1) := by decide +kernel
theorem dX8_goesTo_128 : decode cX8_goesTo 128 = .ok (.istore 8, 2) := by decide +kernel
theorem dX8_goesTo_130 : decode cX8_goesTo 130 = .ok (.iload 8, 2) := by decide +kernel
theorem dX8_goesTo_132 : decode cX8_goesTo 132 = .ok (.iconst 4, 1) := by decide +kernel
theorem dX8_goesTo_133 : decode cX8_goesTo 133 = .ok (.iload_n 2, 1) := by decide +kernel
theorem dX8_goesTo_134 : decode cX8_goesTo 134 = .ok (.imul, 1) := by decide +kernel
theorem dX8_goesTo_135 : decode cX8_goesTo 135 = .ok (.aload_n 0, 1) := by decide +kernel
theorem dX8_goesTo_136 : decode cX8_goesTo 136 = .ok (.getfield 81, 3) := by decide +kernel
theorem dX8_goesTo_139 : decode cX8_goesTo 139 = .ok (.iload_n 2, 1) := by decide +kernel
theorem dX8_goesTo_140 : decode cX8_goesTo 140 = .ok (.iaload, 1) := by decide +kernel
theorem dX8_goesTo_141 : decode cX8_goesTo 141 = .ok (.iadd, 1) := by decide +kernel
theorem dX8_goesTo_142 : decode cX8_goesTo 142 = .ok (.if_icmp .ge 98, 3) := by decide +kernel
theorem dX8_goesTo_145 : decode cX8_goesTo 145 = .ok (.aload_n 0, 1) := by decide +kernel
theorem dX8_goesTo_146 : decode cX8_goesTo 146 = .ok (.getfield 96, 3) := by decide +kernel
theorem dX8_goesTo_149 : decode cX8_goesTo 149 = .ok (.bipush 32, 2) := by decide +kernel
theorem dX8_goesTo_151 : decode cX8_goesTo 151 = .ok (.iload_n 1, 1) := by decide +kernel
theorem dX8_goesTo_152 : decode cX8_goesTo 152 = .ok (.imul, 1) := by decide +kernel
theorem dX8_goesTo_153 : decode cX8_goesTo 153 = .ok (.aload_n 0, 1) := by decide +kernel
theorem dX8_goesTo_154 : decode cX8_goesTo 154 = .ok (.getfield 84, 3) := by decide +kernel
theorem dX8_goesTo_157 : decode cX8_goesTo 157 = .ok (.iload 8, 2) := by decide +kernel
theorem dX8_goesTo_159 : decode cX8_goesTo 159 = .ok (.iaload, 1) := by decide +kernel
theorem dX8_goesTo_160 : decode cX8_goesTo 160 = .ok (.iadd, 1) := by decide +kernel
theorem dX8_goesTo_161 : decode cX8_goesTo 161 = .ok (.baload, 1) := by decide +kernel
theorem dX8_goesTo_162 : decode cX8_goesTo 162 = .ok (.ifCond .ne 18, 3) := by decide +kernel
theorem dX8_goesTo_165 : decode cX8_goesTo 165 = .ok (.aload_n 0, 1) := by decide +kernel
theorem dX8_goesTo_166 : decode cX8_goesTo 166 = .ok (.getfield 87, 3) := by decide +kernel
theorem dX8_goesTo_169 : decode cX8_goesTo 169 = .ok (.iload 8, 2) := by decide +kernel
theorem dX8_goesTo_171 : decode cX8_goesTo 171 = .ok (.iaload, 1) := by decide +kernel
theorem dX8_goesTo_172 : decode cX8_goesTo 172 = .ok (.iload_n 3, 1) := by decide +kernel
theorem dX8_goesTo_173 : decode cX8_goesTo 173 = .ok (.if_icmp .ne 7, 3) := by decide +kernel
theorem dX8_goesTo_176 : decode cX8_goesTo 176 = .ok (.iconst 1, 1) := by decide +kernel
theorem dX8_goesTo_177 : decode cX8_goesTo 177 = .ok (.goto 4, 3) := by decide +kernel
theorem dX8_goesTo_180 : decode cX8_goesTo 180 = .ok (.iconst 0, 1) := by decide +kernel
theorem dX8_goesTo_181 : decode cX8_goesTo 181 = .ok (.istore 9, 2) := by decide +kernel
theorem dX8_goesTo_183 : decode cX8_goesTo 183 = .ok (.aload_n 0, 1) := by decide +kernel
theorem dX8_goesTo_184 : decode cX8_goesTo 184 = .ok (.getfield 90, 3) := by decide +kernel
theorem dX8_goesTo_187 : decode cX8_goesTo 187 = .ok (.iload 8, 2) := by decide +kernel
theorem dX8_goesTo_189 : decode cX8_goesTo 189 = .ok (.iaload, 1) := by decide +kernel
theorem dX8_goesTo_190 : decode cX8_goesTo 190 = .ok (.iload 4, 2) := by decide +kernel
theorem dX8_goesTo_192 : decode cX8_goesTo 192 = .ok (.iconst 1, 1) := by decide +kernel
theorem dX8_goesTo_193 : decode cX8_goesTo 193 = .ok (.iadd, 1) := by decide +kernel
theorem dX8_goesTo_194 : decode cX8_goesTo 194 = .ok (.imul, 1) := by decide +kernel
theorem dX8_goesTo_195 : decode cX8_goesTo 195 = .ok (.iload 5, 2) := by decide +kernel
theorem dX8_goesTo_197 : decode cX8_goesTo 197 = .ok (.aload_n 0, 1) := by decide +kernel
theorem dX8_goesTo_198 : decode cX8_goesTo 198 = .ok (.getfield 93, 3) := by decide +kernel
theorem dX8_goesTo_201 : decode cX8_goesTo 201 = .ok (.iload 8, 2) := by decide +kernel
theorem dX8_goesTo_203 : decode cX8_goesTo 203 = .ok (.iaload, 1) := by decide +kernel
theorem dX8_goesTo_204 : decode cX8_goesTo 204 = .ok (.imul, 1) := by decide +kernel
theorem dX8_goesTo_205 : decode cX8_goesTo 205 = .ok (.isub, 1) := by decide +kernel
theorem dX8_goesTo_206 : decode cX8_goesTo 206 = .ok (.istore 10, 2) := by decide +kernel
theorem dX8_goesTo_208 : decode cX8_goesTo 208 = .ok (.iload 9, 2) := by decide +kernel
theorem dX8_goesTo_210 : decode cX8_goesTo 210 = .ok (.ifCond .eq 24, 3) := by decide +kernel
theorem dX8_goesTo_213 : decode cX8_goesTo 213 = .ok (.iload 6, 2) := by decide +kernel
theorem dX8_goesTo_215 : decode cX8_goesTo 215 = .ok (.iconst (-1), 1) := by decide +kernel
theorem dX8_goesTo_216 : decode cX8_goesTo 216 = .ok (.if_icmp .eq 10, 3) := by decide +kernel
theorem dX8_goesTo_219 : decode cX8_goesTo 219 = .ok (.iload 10, 2) := by decide +kernel
theorem dX8_goesTo_221 : decode cX8_goesTo 221 = .ok (.iload 7, 2) := by decide +kernel
theorem dX8_goesTo_223 : decode cX8_goesTo 223 = .ok (.if_icmp .le 11, 3) := by decide +kernel
theorem dX8_goesTo_226 : decode cX8_goesTo 226 = .ok (.iload 8, 2) := by decide +kernel
theorem dX8_goesTo_228 : decode cX8_goesTo 228 = .ok (.istore 6, 2) := by decide +kernel
theorem dX8_goesTo_230 : decode cX8_goesTo 230 = .ok (.iload 10, 2) := by decide +kernel
theorem dX8_goesTo_232 : decode cX8_goesTo 232 = .ok (.istore 7, 2) := by decide +kernel
theorem dX8_goesTo_234 : decode cX8_goesTo 234 = .ok (.iinc 8 1, 3) := by decide +kernel
theorem dX8_goesTo_237 : decode cX8_goesTo 237 = .ok (.goto (-107), 3) := by decide +kernel
theorem dX8_goesTo_240 : decode cX8_goesTo 240 = .ok (.aload_n 0, 1) := by decide +kernel
theorem dX8_goesTo_241 : decode cX8_goesTo 241 = .ok (.getfield 93, 3) := by decide +kernel
theorem dX8_goesTo_244 : decode cX8_goesTo 244 = .ok (.iload 6, 2) := by decide +kernel
theorem dX8_goesTo_246 : decode cX8_goesTo 246 = .ok (.dup2, 1) := by decide +kernel
theorem dX8_goesTo_247 : decode cX8_goesTo 247 = .ok (.iaload, 1) := by decide +kernel
theorem dX8_goesTo_248 : decode cX8_goesTo 248 = .ok (.iconst 1, 1) := by decide +kernel
theorem dX8_goesTo_249 : decode cX8_goesTo 249 = .ok (.iadd, 1) := by decide +kernel
theorem dX8_goesTo_250 : decode cX8_goesTo 250 = .ok (.iastore, 1) := by decide +kernel
theorem dX8_goesTo_251 : decode cX8_goesTo 251 = .ok (.aload_n 0, 1) := by decide +kernel
theorem dX8_goesTo_252 : decode cX8_goesTo 252 = .ok (.getfield 84, 3) := by decide +kernel
theorem dX8_goesTo_255 : decode cX8_goesTo 255 = .ok (.iload 6, 2) := by decide +kernel
theorem dX8_goesTo_257 : decode cX8_goesTo 257 = .ok (.iaload, 1) := by decide +kernel
theorem dX8_goesTo_258 : decode cX8_goesTo 258 = .ok (.ireturn, 1) := by decide +kernel
theorem dX8_isRouter_0 : decode cX8_isRouter 0 = .ok (.iload_n 0, 1) := by decide +kernel
theorem dX8_isRouter_1 : decode cX8_isRouter 1 = .ok (.iconst 0, 1) := by decide +kernel
theorem dX8_isRouter_2 : decode cX8_isRouter 2 = .ok (.iconst 2, 1) := by decide +kernel
theorem dX8_isRouter_3 : decode cX8_isRouter 3 = .ok (.invokestatic 103, 3) := by decide +kernel
theorem dX8_isRouter_6 : decode cX8_isRouter 6 = .ok (.ireturn, 1) := by decide +kernel
theorem dX8_send_0 : decode cX8_send 0 = .ok (.aload_n 0, 1) := by decide +kernel
theorem dX8_send_1 : decode cX8_send 1 = .ok (.iload_n 1, 1) := by decide +kernel
theorem dX8_send_2 : decode cX8_send 2 = .ok (.invokestatic 188, 3) := by decide +kernel
theorem dX8_send_5 : decode cX8_send 5 = .ok (.ifCond .ne 7, 3) := by decide +kernel
theorem dX8_send_8 : decode cX8_send 8 = .ok (.iconst 1, 1) := by decide +kernel
theorem dX8_send_9 : decode cX8_send 9 = .ok (.goto 15, 3) := by decide +kernel
theorem dX8_send_12 : decode cX8_send 12 = .ok (.iload_n 2, 1) := by decide +kernel
theorem dX8_send_13 : decode cX8_send 13 = .ok (.invokestatic 107, 3) := by decide +kernel
theorem dX8_send_16 : decode cX8_send 16 = .ok (.ifCond .eq 7, 3) := by decide +kernel
theorem dX8_send_19 : decode cX8_send 19 = .ok (.iconst 0, 1) := by decide +kernel
theorem dX8_send_20 : decode cX8_send 20 = .ok (.goto 4, 3) := by decide +kernel
theorem dX8_send_23 : decode cX8_send 23 = .ok (.iconst 2, 1) := by decide +kernel
theorem dX8_send_24 : decode cX8_send 24 = .ok (.putfield 99, 3) := by decide +kernel
theorem dX8_send_27 : decode cX8_send 27 = .ok (.aload_n 0, 1) := by decide +kernel
theorem dX8_send_28 : decode cX8_send 28 = .ok (.getfield 99, 3) := by decide +kernel
theorem dX8_send_31 : decode cX8_send 31 = .ok (.ifCond .le 5, 3) := by decide +kernel
theorem dX8_send_34 : decode cX8_send 34 = .ok (.iconst 0, 1) := by decide +kernel
theorem dX8_send_35 : decode cX8_send 35 = .ok (.ireturn, 1) := by decide +kernel
theorem dX8_send_36 : decode cX8_send 36 = .ok (.aload_n 0, 1) := by decide +kernel
theorem dX8_send_37 : decode cX8_send 37 = .ok (.iload_n 1, 1) := by decide +kernel
theorem dX8_send_38 : decode cX8_send 38 = .ok (.iload_n 2, 1) := by decide +kernel
theorem dX8_send_39 : decode cX8_send 39 = .ok (.invokevirtual 191, 3) := by decide +kernel
theorem dX8_send_42 : decode cX8_send 42 = .ok (.istore_n 3, 1) := by decide +kernel
theorem dX8_send_43 : decode cX8_send 43 = .ok (.iload_n 3, 1) := by decide +kernel
theorem dX8_send_44 : decode cX8_send 44 = .ok (.iconst (-1), 1) := by decide +kernel
theorem dX8_send_45 : decode cX8_send 45 = .ok (.if_icmp .ne 41, 3) := by decide +kernel
theorem dX8_send_48 : decode cX8_send 48 = .ok (.aload_n 0, 1) := by decide +kernel
theorem dX8_send_49 : decode cX8_send 49 = .ok (.iload_n 2, 1) := by decide +kernel
theorem dX8_send_50 : decode cX8_send 50 = .ok (.invokevirtual 164, 3) := by decide +kernel
theorem dX8_send_53 : decode cX8_send 53 = .ok (.istore 4, 2) := by decide +kernel
theorem dX8_send_55 : decode cX8_send 55 = .ok (.aload_n 0, 1) := by decide +kernel
theorem dX8_send_56 : decode cX8_send 56 = .ok (.getfield 51, 3) := by decide +kernel
theorem dX8_send_59 : decode cX8_send 59 = .ok (.iload 4, 2) := by decide +kernel
theorem dX8_send_61 : decode cX8_send 61 = .ok (.baload, 1) := by decide +kernel
theorem dX8_send_62 : decode cX8_send 62 = .ok (.ifCond .eq 6, 3) := by decide +kernel
theorem dX8_send_65 : decode cX8_send 65 = .ok (.bipush (-2), 2) := by decide +kernel
theorem dX8_send_67 : decode cX8_send 67 = .ok (.ireturn, 1) := by decide +kernel
theorem dX8_send_68 : decode cX8_send 68 = .ok (.aload_n 0, 1) := by decide +kernel
theorem dX8_send_69 : decode cX8_send 69 = .ok (.getfield 54, 3) := by decide +kernel
theorem dX8_send_72 : decode cX8_send 72 = .ok (.iload 4, 2) := by decide +kernel
theorem dX8_send_74 : decode cX8_send 74 = .ok (.dup2, 1) := by decide +kernel
theorem dX8_send_75 : decode cX8_send 75 = .ok (.iaload, 1) := by decide +kernel
theorem dX8_send_76 : decode cX8_send 76 = .ok (.iconst 1, 1) := by decide +kernel
theorem dX8_send_77 : decode cX8_send 77 = .ok (.iadd, 1) := by decide +kernel
theorem dX8_send_78 : decode cX8_send 78 = .ok (.iastore, 1) := by decide +kernel
theorem dX8_send_79 : decode cX8_send 79 = .ok (.aload_n 0, 1) := by decide +kernel
theorem dX8_send_80 : decode cX8_send 80 = .ok (.iload_n 1, 1) := by decide +kernel
theorem dX8_send_81 : decode cX8_send 81 = .ok (.iload_n 2, 1) := by decide +kernel
theorem dX8_send_82 : decode cX8_send 82 = .ok (.invokevirtual 194, 3) := by decide +kernel
theorem dX8_send_85 : decode cX8_send 85 = .ok (.istore_n 3, 1) := by decide +kernel
theorem dX8_send_86 : decode cX8_send 86 = .ok (.aload_n 0, 1) := by decide +kernel
theorem dX8_send_87 : decode cX8_send 87 = .ok (.dup, 1) := by decide +kernel
theorem dX8_send_88 : decode cX8_send 88 = .ok (.getfield 167, 3) := by decide +kernel
theorem dX8_send_91 : decode cX8_send 91 = .ok (.iconst 1, 1) := by decide +kernel
theorem dX8_send_92 : decode cX8_send 92 = .ok (.iadd, 1) := by decide +kernel
theorem dX8_send_93 : decode cX8_send 93 = .ok (.putfield 167, 3) := by decide +kernel
theorem dX8_send_96 : decode cX8_send 96 = .ok (.aload_n 0, 1) := by decide +kernel
theorem dX8_send_97 : decode cX8_send 97 = .ok (.getfield 60, 3) := by decide +kernel
theorem dX8_send_100 : decode cX8_send 100 = .ok (.iload_n 3, 1) := by decide +kernel
theorem dX8_send_101 : decode cX8_send 101 = .ok (.aload_n 0, 1) := by decide +kernel
theorem dX8_send_102 : decode cX8_send 102 = .ok (.getfield 167, 3) := by decide +kernel
theorem dX8_send_105 : decode cX8_send 105 = .ok (.iastore, 1) := by decide +kernel
theorem dX8_send_106 : decode cX8_send 106 = .ok (.aload_n 0, 1) := by decide +kernel
theorem dX8_send_107 : decode cX8_send 107 = .ok (.getfield 69, 3) := by decide +kernel
theorem dX8_send_110 : decode cX8_send 110 = .ok (.iload_n 3, 1) := by decide +kernel
theorem dX8_send_111 : decode cX8_send 111 = .ok (.iaload, 1) := by decide +kernel
theorem dX8_send_112 : decode cX8_send 112 = .ok (.iconst (-1), 1) := by decide +kernel
theorem dX8_send_113 : decode cX8_send 113 = .ok (.if_icmp .ne 7, 3) := by decide +kernel
theorem dX8_send_116 : decode cX8_send 116 = .ok (.iconst (-1), 1) := by decide +kernel
theorem dX8_send_117 : decode cX8_send 117 = .ok (.goto 24, 3) := by decide +kernel
theorem dX8_send_120 : decode cX8_send 120 = .ok (.aload_n 0, 1) := by decide +kernel
theorem dX8_send_121 : decode cX8_send 121 = .ok (.iload_n 1, 1) := by decide +kernel
theorem dX8_send_122 : decode cX8_send 122 = .ok (.iload_n 3, 1) := by decide +kernel
theorem dX8_send_123 : decode cX8_send 123 = .ok (.invokevirtual 185, 3) := by decide +kernel
theorem dX8_send_126 : decode cX8_send 126 = .ok (.iconst 4, 1) := by decide +kernel
theorem dX8_send_127 : decode cX8_send 127 = .ok (.if_icmp .ne 8, 3) := by decide +kernel
theorem dX8_send_130 : decode cX8_send 130 = .ok (.bipush (-3), 2) := by decide +kernel
theorem dX8_send_132 : decode cX8_send 132 = .ok (.goto 9, 3) := by decide +kernel
theorem dX8_send_135 : decode cX8_send 135 = .ok (.aload_n 0, 1) := by decide +kernel
theorem dX8_send_136 : decode cX8_send 136 = .ok (.iload_n 1, 1) := by decide +kernel
theorem dX8_send_137 : decode cX8_send 137 = .ok (.iload_n 3, 1) := by decide +kernel
theorem dX8_send_138 : decode cX8_send 138 = .ok (.invokevirtual 197, 3) := by decide +kernel
theorem dX8_send_141 : decode cX8_send 141 = .ok (.ireturn, 1) := by decide +kernel
theorem dX8_probe_0 : decode cX8_probe 0 = .ok (.aload_n 0, 1) := by decide +kernel
theorem dX8_probe_1 : decode cX8_probe 1 = .ok (.iload_n 1, 1) := by decide +kernel
theorem dX8_probe_2 : decode cX8_probe 2 = .ok (.invokestatic 188, 3) := by decide +kernel
theorem dX8_probe_5 : decode cX8_probe 5 = .ok (.ifCond .ne 7, 3) := by decide +kernel
theorem dX8_probe_8 : decode cX8_probe 8 = .ok (.iconst 1, 1) := by decide +kernel
theorem dX8_probe_9 : decode cX8_probe 9 = .ok (.goto 18, 3) := by decide +kernel
theorem dX8_probe_12 : decode cX8_probe 12 = .ok (.iload_n 2, 1) := by decide +kernel
theorem dX8_probe_13 : decode cX8_probe 13 = .ok (.iconst 0, 1) := by decide +kernel
theorem dX8_probe_14 : decode cX8_probe 14 = .ok (.bipush 31, 2) := by decide +kernel
theorem dX8_probe_16 : decode cX8_probe 16 = .ok (.invokestatic 103, 3) := by decide +kernel
theorem dX8_probe_19 : decode cX8_probe 19 = .ok (.ifCond .eq 7, 3) := by decide +kernel
theorem dX8_probe_22 : decode cX8_probe 22 = .ok (.iconst 0, 1) := by decide +kernel
theorem dX8_probe_23 : decode cX8_probe 23 = .ok (.goto 4, 3) := by decide +kernel
theorem dX8_probe_26 : decode cX8_probe 26 = .ok (.iconst 2, 1) := by decide +kernel
theorem dX8_probe_27 : decode cX8_probe 27 = .ok (.putfield 99, 3) := by decide +kernel
theorem dX8_probe_30 : decode cX8_probe 30 = .ok (.aload_n 0, 1) := by decide +kernel
theorem dX8_probe_31 : decode cX8_probe 31 = .ok (.getfield 99, 3) := by decide +kernel
theorem dX8_probe_34 : decode cX8_probe 34 = .ok (.ifCond .le 5, 3) := by decide +kernel
theorem dX8_probe_37 : decode cX8_probe 37 = .ok (.iconst 0, 1) := by decide +kernel
theorem dX8_probe_38 : decode cX8_probe 38 = .ok (.ireturn, 1) := by decide +kernel
theorem dX8_probe_39 : decode cX8_probe 39 = .ok (.aload_n 0, 1) := by decide +kernel
theorem dX8_probe_40 : decode cX8_probe 40 = .ok (.getfield 96, 3) := by decide +kernel
theorem dX8_probe_43 : decode cX8_probe 43 = .ok (.bipush 32, 2) := by decide +kernel
theorem dX8_probe_45 : decode cX8_probe 45 = .ok (.iload_n 1, 1) := by decide +kernel
theorem dX8_probe_46 : decode cX8_probe 46 = .ok (.imul, 1) := by decide +kernel
theorem dX8_probe_47 : decode cX8_probe 47 = .ok (.iload_n 2, 1) := by decide +kernel
theorem dX8_probe_48 : decode cX8_probe 48 = .ok (.iadd, 1) := by decide +kernel
theorem dX8_probe_49 : decode cX8_probe 49 = .ok (.iload_n 3, 1) := by decide +kernel
theorem dX8_probe_50 : decode cX8_probe 50 = .ok (.ifCond .ne 7, 3) := by decide +kernel
theorem dX8_probe_53 : decode cX8_probe 53 = .ok (.iconst 1, 1) := by decide +kernel
theorem dX8_probe_54 : decode cX8_probe 54 = .ok (.goto 4, 3) := by decide +kernel
theorem dX8_probe_57 : decode cX8_probe 57 = .ok (.iconst 0, 1) := by decide +kernel
theorem dX8_probe_58 : decode cX8_probe 58 = .ok (.bastore, 1) := by decide +kernel
theorem dX8_probe_59 : decode cX8_probe 59 = .ok (.iconst 0, 1) := by decide +kernel
theorem dX8_probe_60 : decode cX8_probe 60 = .ok (.istore 4, 2) := by decide +kernel
theorem dX8_probe_62 : decode cX8_probe 62 = .ok (.iconst 0, 1) := by decide +kernel
theorem dX8_probe_63 : decode cX8_probe 63 = .ok (.istore 5, 2) := by decide +kernel
theorem dX8_probe_65 : decode cX8_probe 65 = .ok (.iload 5, 2) := by decide +kernel
theorem dX8_probe_67 : decode cX8_probe 67 = .ok (.bipush 32, 2) := by decide +kernel
theorem dX8_probe_69 : decode cX8_probe 69 = .ok (.if_icmp .ge 34, 3) := by decide +kernel
theorem dX8_probe_72 : decode cX8_probe 72 = .ok (.iload 4, 2) := by decide +kernel
theorem dX8_probe_74 : decode cX8_probe 74 = .ok (.aload_n 0, 1) := by decide +kernel
theorem dX8_probe_75 : decode cX8_probe 75 = .ok (.getfield 96, 3) := by decide +kernel
theorem dX8_probe_78 : decode cX8_probe 78 = .ok (.bipush 32, 2) := by decide +kernel
theorem dX8_probe_80 : decode cX8_probe 80 = .ok (.iload_n 1, 1) := by decide +kernel
theorem dX8_probe_81 : decode cX8_probe 81 = .ok (.imul, 1) := by decide +kernel
theorem dX8_probe_82 : decode cX8_probe 82 = .ok (.iload 5, 2) := by decide +kernel
theorem dX8_probe_84 : decode cX8_probe 84 = .ok (.iadd, 1) := by decide +kernel
theorem dX8_probe_85 : decode cX8_probe 85 = .ok (.baload, 1) := by decide +kernel
theorem dX8_probe_86 : decode cX8_probe 86 = .ok (.ifCond .eq 7, 3) := by decide +kernel
theorem dX8_probe_89 : decode cX8_probe 89 = .ok (.iconst 1, 1) := by decide +kernel
theorem dX8_probe_90 : decode cX8_probe 90 = .ok (.goto 4, 3) := by decide +kernel
theorem dX8_probe_93 : decode cX8_probe 93 = .ok (.iconst 0, 1) := by decide +kernel
theorem dX8_probe_94 : decode cX8_probe 94 = .ok (.iadd, 1) := by decide +kernel
theorem dX8_probe_95 : decode cX8_probe 95 = .ok (.istore 4, 2) := by decide +kernel
theorem dX8_probe_97 : decode cX8_probe 97 = .ok (.iinc 5 1, 3) := by decide +kernel
theorem dX8_probe_100 : decode cX8_probe 100 = .ok (.goto (-35), 3) := by decide +kernel
theorem dX8_probe_103 : decode cX8_probe 103 = .ok (.iload 4, 2) := by decide +kernel
theorem dX8_probe_105 : decode cX8_probe 105 = .ok (.ireturn, 1) := by decide +kernel
theorem dX8_setLifetimes_0 : decode cX8_setLifetimes 0 = .ok (.aload_n 0, 1) := by decide +kernel
theorem dX8_setLifetimes_1 : decode cX8_setLifetimes 1 = .ok (.iload_n 1, 1) := by decide +kernel
theorem dX8_setLifetimes_2 : decode cX8_setLifetimes 2 = .ok (.iconst 1, 1) := by decide +kernel
theorem dX8_setLifetimes_3 : decode cX8_setLifetimes 3 = .ok (.sipush 1000, 3) := by decide +kernel
theorem dX8_setLifetimes_6 : decode cX8_setLifetimes 6 = .ok (.invokestatic 103, 3) := by decide +kernel
theorem dX8_setLifetimes_9 : decode cX8_setLifetimes 9 = .ok (.ifCond .eq 18, 3) := by decide +kernel
theorem dX8_setLifetimes_12 : decode cX8_setLifetimes 12 = .ok (.iload_n 2, 1) := by decide +kernel
theorem dX8_setLifetimes_13 : decode cX8_setLifetimes 13 = .ok (.iconst 1, 1) := by decide +kernel
theorem dX8_setLifetimes_14 : decode cX8_setLifetimes 14 = .ok (.sipush 1000, 3) := by decide +kernel
theorem dX8_setLifetimes_17 : decode cX8_setLifetimes 17 = .ok (.invokestatic 103, 3) := by decide +kernel
theorem dX8_setLifetimes_20 : decode cX8_setLifetimes 20 = .ok (.ifCond .eq 7, 3) := by decide +kernel
theorem dX8_setLifetimes_23 : decode cX8_setLifetimes 23 = .ok (.iconst 0, 1) := by decide +kernel
theorem dX8_setLifetimes_24 : decode cX8_setLifetimes 24 = .ok (.goto 4, 3) := by decide +kernel
theorem dX8_setLifetimes_27 : decode cX8_setLifetimes 27 = .ok (.iconst 1, 1) := by decide +kernel
theorem dX8_setLifetimes_28 : decode cX8_setLifetimes 28 = .ok (.putfield 99, 3) := by decide +kernel
theorem dX8_setLifetimes_31 : decode cX8_setLifetimes 31 = .ok (.aload_n 0, 1) := by decide +kernel
theorem dX8_setLifetimes_32 : decode cX8_setLifetimes 32 = .ok (.getfield 99, 3) := by decide +kernel
theorem dX8_setLifetimes_35 : decode cX8_setLifetimes 35 = .ok (.ifCond .le 5, 3) := by decide +kernel
theorem dX8_setLifetimes_38 : decode cX8_setLifetimes 38 = .ok (.iconst 0, 1) := by decide +kernel
theorem dX8_setLifetimes_39 : decode cX8_setLifetimes 39 = .ok (.ireturn, 1) := by decide +kernel
theorem dX8_setLifetimes_40 : decode cX8_setLifetimes 40 = .ok (.aload_n 0, 1) := by decide +kernel
theorem dX8_setLifetimes_41 : decode cX8_setLifetimes 41 = .ok (.getfield 7, 3) := by decide +kernel
theorem dX8_setLifetimes_44 : decode cX8_setLifetimes 44 = .ok (.istore_n 3, 1) := by decide +kernel
theorem dX8_setLifetimes_45 : decode cX8_setLifetimes 45 = .ok (.aload_n 0, 1) := by decide +kernel
theorem dX8_setLifetimes_46 : decode cX8_setLifetimes 46 = .ok (.iload_n 1, 1) := by decide +kernel
theorem dX8_setLifetimes_47 : decode cX8_setLifetimes 47 = .ok (.putfield 7, 3) := by decide +kernel
theorem dX8_setLifetimes_50 : decode cX8_setLifetimes 50 = .ok (.aload_n 0, 1) := by decide +kernel
theorem dX8_setLifetimes_51 : decode cX8_setLifetimes 51 = .ok (.iload_n 2, 1) := by decide +kernel
theorem dX8_setLifetimes_52 : decode cX8_setLifetimes 52 = .ok (.putfield 13, 3) := by decide +kernel
theorem dX8_setLifetimes_55 : decode cX8_setLifetimes 55 = .ok (.iload_n 3, 1) := by decide +kernel
theorem dX8_setLifetimes_56 : decode cX8_setLifetimes 56 = .ok (.ireturn, 1) := by decide +kernel
theorem dX8_pass_0 : decode cX8_pass 0 = .ok (.aload_n 0, 1) := by decide +kernel
theorem dX8_pass_1 : decode cX8_pass 1 = .ok (.iload_n 1, 1) := by decide +kernel
theorem dX8_pass_2 : decode cX8_pass 2 = .ok (.iconst 1, 1) := by decide +kernel
theorem dX8_pass_3 : decode cX8_pass 3 = .ok (.sipush 1000, 3) := by decide +kernel
theorem dX8_pass_6 : decode cX8_pass 6 = .ok (.invokestatic 103, 3) := by decide +kernel
theorem dX8_pass_9 : decode cX8_pass 9 = .ok (.ifCond .eq 7, 3) := by decide +kernel
theorem dX8_pass_12 : decode cX8_pass 12 = .ok (.iconst 0, 1) := by decide +kernel
theorem dX8_pass_13 : decode cX8_pass 13 = .ok (.goto 4, 3) := by decide +kernel
theorem dX8_pass_16 : decode cX8_pass 16 = .ok (.iconst 1, 1) := by decide +kernel
theorem dX8_pass_17 : decode cX8_pass 17 = .ok (.putfield 99, 3) := by decide +kernel
theorem dX8_pass_20 : decode cX8_pass 20 = .ok (.aload_n 0, 1) := by decide +kernel
theorem dX8_pass_21 : decode cX8_pass 21 = .ok (.getfield 99, 3) := by decide +kernel
theorem dX8_pass_24 : decode cX8_pass 24 = .ok (.ifCond .le 5, 3) := by decide +kernel
theorem dX8_pass_27 : decode cX8_pass 27 = .ok (.iconst 0, 1) := by decide +kernel
theorem dX8_pass_28 : decode cX8_pass 28 = .ok (.ireturn, 1) := by decide +kernel
theorem dX8_pass_29 : decode cX8_pass 29 = .ok (.aload_n 0, 1) := by decide +kernel
theorem dX8_pass_30 : decode cX8_pass 30 = .ok (.dup, 1) := by decide +kernel
theorem dX8_pass_31 : decode cX8_pass 31 = .ok (.getfield 173, 3) := by decide +kernel
theorem dX8_pass_34 : decode cX8_pass 34 = .ok (.iload_n 1, 1) := by decide +kernel
theorem dX8_pass_35 : decode cX8_pass 35 = .ok (.iadd, 1) := by decide +kernel
theorem dX8_pass_36 : decode cX8_pass 36 = .ok (.putfield 173, 3) := by decide +kernel
theorem dX8_pass_39 : decode cX8_pass 39 = .ok (.aload_n 0, 1) := by decide +kernel
theorem dX8_pass_40 : decode cX8_pass 40 = .ok (.getfield 173, 3) := by decide +kernel
theorem dX8_pass_43 : decode cX8_pass 43 = .ok (.ireturn, 1) := by decide +kernel
theorem dX8_entries_0 : decode cX8_entries 0 = .ok (.aload_n 0, 1) := by decide +kernel
theorem dX8_entries_1 : decode cX8_entries 1 = .ok (.iload_n 1, 1) := by decide +kernel
theorem dX8_entries_2 : decode cX8_entries 2 = .ok (.invokestatic 188, 3) := by decide +kernel
theorem dX8_entries_5 : decode cX8_entries 5 = .ok (.ifCond .eq 7, 3) := by decide +kernel
theorem dX8_entries_8 : decode cX8_entries 8 = .ok (.iconst 0, 1) := by decide +kernel
theorem dX8_entries_9 : decode cX8_entries 9 = .ok (.goto 4, 3) := by decide +kernel
theorem dX8_entries_12 : decode cX8_entries 12 = .ok (.iconst 1, 1) := by decide +kernel
theorem dX8_entries_13 : decode cX8_entries 13 = .ok (.putfield 99, 3) := by decide +kernel
theorem dX8_entries_16 : decode cX8_entries 16 = .ok (.aload_n 0, 1) := by decide +kernel
theorem dX8_entries_17 : decode cX8_entries 17 = .ok (.getfield 99, 3) := by decide +kernel
theorem dX8_entries_20 : decode cX8_entries 20 = .ok (.ifCond .le 7, 3) := by decide +kernel
theorem dX8_entries_23 : decode cX8_entries 23 = .ok (.iconst 0, 1) := by decide +kernel
theorem dX8_entries_24 : decode cX8_entries 24 = .ok (.goto 8, 3) := by decide +kernel
theorem dX8_entries_27 : decode cX8_entries 27 = .ok (.aload_n 0, 1) := by decide +kernel
theorem dX8_entries_28 : decode cX8_entries 28 = .ok (.iload_n 1, 1) := by decide +kernel
theorem dX8_entries_29 : decode cX8_entries 29 = .ok (.invokevirtual 176, 3) := by decide +kernel
theorem dX8_entries_32 : decode cX8_entries 32 = .ok (.ireturn, 1) := by decide +kernel
theorem dX8_asks_0 : decode cX8_asks 0 = .ok (.aload_n 0, 1) := by decide +kernel
theorem dX8_asks_1 : decode cX8_asks 1 = .ok (.iload_n 1, 1) := by decide +kernel
theorem dX8_asks_2 : decode cX8_asks 2 = .ok (.invokestatic 188, 3) := by decide +kernel
theorem dX8_asks_5 : decode cX8_asks 5 = .ok (.ifCond .eq 22, 3) := by decide +kernel
theorem dX8_asks_8 : decode cX8_asks 8 = .ok (.iload_n 2, 1) := by decide +kernel
theorem dX8_asks_9 : decode cX8_asks 9 = .ok (.iconst 0, 1) := by decide +kernel
theorem dX8_asks_10 : decode cX8_asks 10 = .ok (.aload_n 0, 1) := by decide +kernel
theorem dX8_asks_11 : decode cX8_asks 11 = .ok (.iload_n 1, 1) := by decide +kernel
theorem dX8_asks_12 : decode cX8_asks 12 = .ok (.invokevirtual 176, 3) := by decide +kernel
theorem dX8_asks_15 : decode cX8_asks 15 = .ok (.iconst 1, 1) := by decide +kernel
theorem dX8_asks_16 : decode cX8_asks 16 = .ok (.isub, 1) := by decide +kernel
theorem dX8_asks_17 : decode cX8_asks 17 = .ok (.invokestatic 103, 3) := by decide +kernel
theorem dX8_asks_20 : decode cX8_asks 20 = .ok (.ifCond .eq 7, 3) := by decide +kernel
theorem dX8_asks_23 : decode cX8_asks 23 = .ok (.iconst 0, 1) := by decide +kernel
theorem dX8_asks_24 : decode cX8_asks 24 = .ok (.goto 4, 3) := by decide +kernel
theorem dX8_asks_27 : decode cX8_asks 27 = .ok (.iconst 1, 1) := by decide +kernel
theorem dX8_asks_28 : decode cX8_asks 28 = .ok (.putfield 99, 3) := by decide +kernel
end
section
theorem dX8_asks_31 : decode cX8_asks 31 = .ok (.aload_n 0, 1) := by decide +kernel
theorem dX8_asks_32 : decode cX8_asks 32 = .ok (.getfield 99, 3) := by decide +kernel
theorem dX8_asks_35 : decode cX8_asks 35 = .ok (.ifCond .le 7, 3) := by decide +kernel
theorem dX8_asks_38 : decode cX8_asks 38 = .ok (.iconst (-1), 1) := by decide +kernel
theorem dX8_asks_39 : decode cX8_asks 39 = .ok (.goto 9, 3) := by decide +kernel
theorem dX8_asks_42 : decode cX8_asks 42 = .ok (.aload_n 0, 1) := by decide +kernel
theorem dX8_asks_43 : decode cX8_asks 43 = .ok (.iload_n 1, 1) := by decide +kernel
theorem dX8_asks_44 : decode cX8_asks 44 = .ok (.iload_n 2, 1) := by decide +kernel
theorem dX8_asks_45 : decode cX8_asks 45 = .ok (.invokevirtual 179, 3) := by decide +kernel
theorem dX8_asks_48 : decode cX8_asks 48 = .ok (.ireturn, 1) := by decide +kernel
theorem dX8_prefixOf_0 : decode cX8_prefixOf 0 = .ok (.aload_n 0, 1) := by decide +kernel
theorem dX8_prefixOf_1 : decode cX8_prefixOf 1 = .ok (.iload_n 1, 1) := by decide +kernel
theorem dX8_prefixOf_2 : decode cX8_prefixOf 2 = .ok (.iload_n 2, 1) := by decide +kernel
theorem dX8_prefixOf_3 : decode cX8_prefixOf 3 = .ok (.invokevirtual 200, 3) := by decide +kernel
theorem dX8_prefixOf_6 : decode cX8_prefixOf 6 = .ok (.istore_n 3, 1) := by decide +kernel
theorem dX8_prefixOf_7 : decode cX8_prefixOf 7 = .ok (.aload_n 0, 1) := by decide +kernel
theorem dX8_prefixOf_8 : decode cX8_prefixOf 8 = .ok (.getfield 99, 3) := by decide +kernel
theorem dX8_prefixOf_11 : decode cX8_prefixOf 11 = .ok (.ifCond .le 7, 3) := by decide +kernel
theorem dX8_prefixOf_14 : decode cX8_prefixOf 14 = .ok (.iconst 0, 1) := by decide +kernel
theorem dX8_prefixOf_15 : decode cX8_prefixOf 15 = .ok (.goto 19, 3) := by decide +kernel
theorem dX8_prefixOf_18 : decode cX8_prefixOf 18 = .ok (.bipush 32, 2) := by decide +kernel
theorem dX8_prefixOf_20 : decode cX8_prefixOf 20 = .ok (.aload_n 0, 1) := by decide +kernel
theorem dX8_prefixOf_21 : decode cX8_prefixOf 21 = .ok (.getfield 63, 3) := by decide +kernel
theorem dX8_prefixOf_24 : decode cX8_prefixOf 24 = .ok (.iload_n 3, 1) := by decide +kernel
theorem dX8_prefixOf_25 : decode cX8_prefixOf 25 = .ok (.iaload, 1) := by decide +kernel
theorem dX8_prefixOf_26 : decode cX8_prefixOf 26 = .ok (.imul, 1) := by decide +kernel
theorem dX8_prefixOf_27 : decode cX8_prefixOf 27 = .ok (.aload_n 0, 1) := by decide +kernel
theorem dX8_prefixOf_28 : decode cX8_prefixOf 28 = .ok (.getfield 66, 3) := by decide +kernel
theorem dX8_prefixOf_31 : decode cX8_prefixOf 31 = .ok (.iload_n 3, 1) := by decide +kernel
theorem dX8_prefixOf_32 : decode cX8_prefixOf 32 = .ok (.iaload, 1) := by decide +kernel
theorem dX8_prefixOf_33 : decode cX8_prefixOf 33 = .ok (.iadd, 1) := by decide +kernel
theorem dX8_prefixOf_34 : decode cX8_prefixOf 34 = .ok (.ireturn, 1) := by decide +kernel
theorem dX8_mappingAt_0 : decode cX8_mappingAt 0 = .ok (.aload_n 0, 1) := by decide +kernel
theorem dX8_mappingAt_1 : decode cX8_mappingAt 1 = .ok (.iload_n 1, 1) := by decide +kernel
theorem dX8_mappingAt_2 : decode cX8_mappingAt 2 = .ok (.iload_n 2, 1) := by decide +kernel
theorem dX8_mappingAt_3 : decode cX8_mappingAt 3 = .ok (.invokevirtual 200, 3) := by decide +kernel
theorem dX8_mappingAt_6 : decode cX8_mappingAt 6 = .ok (.istore_n 3, 1) := by decide +kernel
theorem dX8_mappingAt_7 : decode cX8_mappingAt 7 = .ok (.aload_n 0, 1) := by decide +kernel
theorem dX8_mappingAt_8 : decode cX8_mappingAt 8 = .ok (.getfield 99, 3) := by decide +kernel
theorem dX8_mappingAt_11 : decode cX8_mappingAt 11 = .ok (.ifCond .le 7, 3) := by decide +kernel
theorem dX8_mappingAt_14 : decode cX8_mappingAt 14 = .ok (.iconst 0, 1) := by decide +kernel
theorem dX8_mappingAt_15 : decode cX8_mappingAt 15 = .ok (.goto 34, 3) := by decide +kernel
theorem dX8_mappingAt_18 : decode cX8_mappingAt 18 = .ok (.aload_n 0, 1) := by decide +kernel
theorem dX8_mappingAt_19 : decode cX8_mappingAt 19 = .ok (.getfield 69, 3) := by decide +kernel
theorem dX8_mappingAt_22 : decode cX8_mappingAt 22 = .ok (.iload_n 3, 1) := by decide +kernel
theorem dX8_mappingAt_23 : decode cX8_mappingAt 23 = .ok (.iaload, 1) := by decide +kernel
theorem dX8_mappingAt_24 : decode cX8_mappingAt 24 = .ok (.iconst (-1), 1) := by decide +kernel
theorem dX8_mappingAt_25 : decode cX8_mappingAt 25 = .ok (.if_icmp .ne 7, 3) := by decide +kernel
theorem dX8_mappingAt_28 : decode cX8_mappingAt 28 = .ok (.iconst (-1), 1) := by decide +kernel
theorem dX8_mappingAt_29 : decode cX8_mappingAt 29 = .ok (.goto 20, 3) := by decide +kernel
theorem dX8_mappingAt_32 : decode cX8_mappingAt 32 = .ok (.sipush 1000, 3) := by decide +kernel
theorem dX8_mappingAt_35 : decode cX8_mappingAt 35 = .ok (.aload_n 0, 1) := by decide +kernel
theorem dX8_mappingAt_36 : decode cX8_mappingAt 36 = .ok (.getfield 72, 3) := by decide +kernel
theorem dX8_mappingAt_39 : decode cX8_mappingAt 39 = .ok (.iload_n 3, 1) := by decide +kernel
theorem dX8_mappingAt_40 : decode cX8_mappingAt 40 = .ok (.iaload, 1) := by decide +kernel
theorem dX8_mappingAt_41 : decode cX8_mappingAt 41 = .ok (.imul, 1) := by decide +kernel
theorem dX8_mappingAt_42 : decode cX8_mappingAt 42 = .ok (.aload_n 0, 1) := by decide +kernel
theorem dX8_mappingAt_43 : decode cX8_mappingAt 43 = .ok (.getfield 69, 3) := by decide +kernel
theorem dX8_mappingAt_46 : decode cX8_mappingAt 46 = .ok (.iload_n 3, 1) := by decide +kernel
theorem dX8_mappingAt_47 : decode cX8_mappingAt 47 = .ok (.iaload, 1) := by decide +kernel
theorem dX8_mappingAt_48 : decode cX8_mappingAt 48 = .ok (.iadd, 1) := by decide +kernel
theorem dX8_mappingAt_49 : decode cX8_mappingAt 49 = .ok (.ireturn, 1) := by decide +kernel
theorem dX8_lasts_0 : decode cX8_lasts 0 = .ok (.aload_n 0, 1) := by decide +kernel
theorem dX8_lasts_1 : decode cX8_lasts 1 = .ok (.iload_n 1, 1) := by decide +kernel
theorem dX8_lasts_2 : decode cX8_lasts 2 = .ok (.iload_n 2, 1) := by decide +kernel
theorem dX8_lasts_3 : decode cX8_lasts 3 = .ok (.invokevirtual 200, 3) := by decide +kernel
theorem dX8_lasts_6 : decode cX8_lasts 6 = .ok (.istore_n 3, 1) := by decide +kernel
theorem dX8_lasts_7 : decode cX8_lasts 7 = .ok (.aload_n 0, 1) := by decide +kernel
theorem dX8_lasts_8 : decode cX8_lasts 8 = .ok (.getfield 99, 3) := by decide +kernel
theorem dX8_lasts_11 : decode cX8_lasts 11 = .ok (.ifCond .le 7, 3) := by decide +kernel
theorem dX8_lasts_14 : decode cX8_lasts 14 = .ok (.iconst 0, 1) := by decide +kernel
theorem dX8_lasts_15 : decode cX8_lasts 15 = .ok (.goto 44, 3) := by decide +kernel
theorem dX8_lasts_18 : decode cX8_lasts 18 = .ok (.aload_n 0, 1) := by decide +kernel
theorem dX8_lasts_19 : decode cX8_lasts 19 = .ok (.getfield 78, 3) := by decide +kernel
theorem dX8_lasts_22 : decode cX8_lasts 22 = .ok (.iload_n 3, 1) := by decide +kernel
theorem dX8_lasts_23 : decode cX8_lasts 23 = .ok (.baload, 1) := by decide +kernel
theorem dX8_lasts_24 : decode cX8_lasts 24 = .ok (.ifCond .eq 7, 3) := by decide +kernel
theorem dX8_lasts_27 : decode cX8_lasts 27 = .ok (.iconst (-1), 1) := by decide +kernel
theorem dX8_lasts_28 : decode cX8_lasts 28 = .ok (.goto 31, 3) := by decide +kernel
theorem dX8_lasts_31 : decode cX8_lasts 31 = .ok (.aload_n 0, 1) := by decide +kernel
theorem dX8_lasts_32 : decode cX8_lasts 32 = .ok (.getfield 75, 3) := by decide +kernel
theorem dX8_lasts_35 : decode cX8_lasts 35 = .ok (.iload_n 3, 1) := by decide +kernel
theorem dX8_lasts_36 : decode cX8_lasts 36 = .ok (.iaload, 1) := by decide +kernel
theorem dX8_lasts_37 : decode cX8_lasts 37 = .ok (.aload_n 0, 1) := by decide +kernel
theorem dX8_lasts_38 : decode cX8_lasts 38 = .ok (.getfield 173, 3) := by decide +kernel
theorem dX8_lasts_41 : decode cX8_lasts 41 = .ok (.if_icmp .le 17, 3) := by decide +kernel
theorem dX8_lasts_44 : decode cX8_lasts 44 = .ok (.aload_n 0, 1) := by decide +kernel
theorem dX8_lasts_45 : decode cX8_lasts 45 = .ok (.getfield 75, 3) := by decide +kernel
theorem dX8_lasts_48 : decode cX8_lasts 48 = .ok (.iload_n 3, 1) := by decide +kernel
theorem dX8_lasts_49 : decode cX8_lasts 49 = .ok (.iaload, 1) := by decide +kernel
theorem dX8_lasts_50 : decode cX8_lasts 50 = .ok (.aload_n 0, 1) := by decide +kernel
theorem dX8_lasts_51 : decode cX8_lasts 51 = .ok (.getfield 173, 3) := by decide +kernel
theorem dX8_lasts_54 : decode cX8_lasts 54 = .ok (.isub, 1) := by decide +kernel
theorem dX8_lasts_55 : decode cX8_lasts 55 = .ok (.goto 4, 3) := by decide +kernel
theorem dX8_lasts_58 : decode cX8_lasts 58 = .ok (.iconst 0, 1) := by decide +kernel
theorem dX8_lasts_59 : decode cX8_lasts 59 = .ok (.ireturn, 1) := by decide +kernel
theorem dX8_packetsTo_0 : decode cX8_packetsTo 0 = .ok (.aload_n 0, 1) := by decide +kernel
theorem dX8_packetsTo_1 : decode cX8_packetsTo 1 = .ok (.iload_n 1, 1) := by decide +kernel
theorem dX8_packetsTo_2 : decode cX8_packetsTo 2 = .ok (.iload_n 2, 1) := by decide +kernel
theorem dX8_packetsTo_3 : decode cX8_packetsTo 3 = .ok (.invokevirtual 200, 3) := by decide +kernel
theorem dX8_packetsTo_6 : decode cX8_packetsTo 6 = .ok (.istore 4, 2) := by decide +kernel
theorem dX8_packetsTo_8 : decode cX8_packetsTo 8 = .ok (.aload_n 0, 1) := by decide +kernel
theorem dX8_packetsTo_9 : decode cX8_packetsTo 9 = .ok (.getfield 99, 3) := by decide +kernel
theorem dX8_packetsTo_12 : decode cX8_packetsTo 12 = .ok (.ifCond .ne 22, 3) := by decide +kernel
theorem dX8_packetsTo_15 : decode cX8_packetsTo 15 = .ok (.aload_n 0, 1) := by decide +kernel
theorem dX8_packetsTo_16 : decode cX8_packetsTo 16 = .ok (.iload_n 3, 1) := by decide +kernel
theorem dX8_packetsTo_17 : decode cX8_packetsTo 17 = .ok (.iconst 0, 1) := by decide +kernel
theorem dX8_packetsTo_18 : decode cX8_packetsTo 18 = .ok (.bipush 31, 2) := by decide +kernel
theorem dX8_packetsTo_20 : decode cX8_packetsTo 20 = .ok (.invokestatic 103, 3) := by decide +kernel
theorem dX8_packetsTo_23 : decode cX8_packetsTo 23 = .ok (.ifCond .eq 7, 3) := by decide +kernel
theorem dX8_packetsTo_26 : decode cX8_packetsTo 26 = .ok (.iconst 0, 1) := by decide +kernel
theorem dX8_packetsTo_27 : decode cX8_packetsTo 27 = .ok (.goto 4, 3) := by decide +kernel
theorem dX8_packetsTo_30 : decode cX8_packetsTo 30 = .ok (.iconst 2, 1) := by decide +kernel
theorem dX8_packetsTo_31 : decode cX8_packetsTo 31 = .ok (.putfield 99, 3) := by decide +kernel
theorem dX8_packetsTo_34 : decode cX8_packetsTo 34 = .ok (.iconst 0, 1) := by decide +kernel
theorem dX8_packetsTo_35 : decode cX8_packetsTo 35 = .ok (.istore 5, 2) := by decide +kernel
theorem dX8_packetsTo_37 : decode cX8_packetsTo 37 = .ok (.iconst 4, 1) := by decide +kernel
theorem dX8_packetsTo_38 : decode cX8_packetsTo 38 = .ok (.iload 4, 2) := by decide +kernel
theorem dX8_packetsTo_40 : decode cX8_packetsTo 40 = .ok (.imul, 1) := by decide +kernel
theorem dX8_packetsTo_41 : decode cX8_packetsTo 41 = .ok (.istore 6, 2) := by decide +kernel
theorem dX8_packetsTo_43 : decode cX8_packetsTo 43 = .ok (.aload_n 0, 1) := by decide +kernel
theorem dX8_packetsTo_44 : decode cX8_packetsTo 44 = .ok (.getfield 99, 3) := by decide +kernel
theorem dX8_packetsTo_47 : decode cX8_packetsTo 47 = .ok (.ifCond .ne 53, 3) := by decide +kernel
theorem dX8_packetsTo_50 : decode cX8_packetsTo 50 = .ok (.iload 6, 2) := by decide +kernel
theorem dX8_packetsTo_52 : decode cX8_packetsTo 52 = .ok (.iconst 4, 1) := by decide +kernel
theorem dX8_packetsTo_53 : decode cX8_packetsTo 53 = .ok (.iload 4, 2) := by decide +kernel
theorem dX8_packetsTo_55 : decode cX8_packetsTo 55 = .ok (.imul, 1) := by decide +kernel
theorem dX8_packetsTo_56 : decode cX8_packetsTo 56 = .ok (.aload_n 0, 1) := by decide +kernel
theorem dX8_packetsTo_57 : decode cX8_packetsTo 57 = .ok (.getfield 81, 3) := by decide +kernel
theorem dX8_packetsTo_60 : decode cX8_packetsTo 60 = .ok (.iload 4, 2) := by decide +kernel
theorem dX8_packetsTo_62 : decode cX8_packetsTo 62 = .ok (.iaload, 1) := by decide +kernel
theorem dX8_packetsTo_63 : decode cX8_packetsTo 63 = .ok (.iadd, 1) := by decide +kernel
theorem dX8_packetsTo_64 : decode cX8_packetsTo 64 = .ok (.if_icmp .ge 36, 3) := by decide +kernel
theorem dX8_packetsTo_67 : decode cX8_packetsTo 67 = .ok (.iload 5, 2) := by decide +kernel
theorem dX8_packetsTo_69 : decode cX8_packetsTo 69 = .ok (.aload_n 0, 1) := by decide +kernel
theorem dX8_packetsTo_70 : decode cX8_packetsTo 70 = .ok (.getfield 84, 3) := by decide +kernel
theorem dX8_packetsTo_73 : decode cX8_packetsTo 73 = .ok (.iload 6, 2) := by decide +kernel
theorem dX8_packetsTo_75 : decode cX8_packetsTo 75 = .ok (.iaload, 1) := by decide +kernel
theorem dX8_packetsTo_76 : decode cX8_packetsTo 76 = .ok (.iload_n 3, 1) := by decide +kernel
theorem dX8_packetsTo_77 : decode cX8_packetsTo 77 = .ok (.if_icmp .ne 13, 3) := by decide +kernel
theorem dX8_packetsTo_80 : decode cX8_packetsTo 80 = .ok (.aload_n 0, 1) := by decide +kernel
theorem dX8_packetsTo_81 : decode cX8_packetsTo 81 = .ok (.getfield 93, 3) := by decide +kernel
theorem dX8_packetsTo_84 : decode cX8_packetsTo 84 = .ok (.iload 6, 2) := by decide +kernel
theorem dX8_packetsTo_86 : decode cX8_packetsTo 86 = .ok (.iaload, 1) := by decide +kernel
theorem dX8_packetsTo_87 : decode cX8_packetsTo 87 = .ok (.goto 4, 3) := by decide +kernel
theorem dX8_packetsTo_90 : decode cX8_packetsTo 90 = .ok (.iconst 0, 1) := by decide +kernel
theorem dX8_packetsTo_91 : decode cX8_packetsTo 91 = .ok (.iadd, 1) := by decide +kernel
theorem dX8_packetsTo_92 : decode cX8_packetsTo 92 = .ok (.istore 5, 2) := by decide +kernel
theorem dX8_packetsTo_94 : decode cX8_packetsTo 94 = .ok (.iinc 6 1, 3) := by decide +kernel
theorem dX8_packetsTo_97 : decode cX8_packetsTo 97 = .ok (.goto (-54), 3) := by decide +kernel
theorem dX8_packetsTo_100 : decode cX8_packetsTo 100 = .ok (.iload 5, 2) := by decide +kernel
theorem dX8_packetsTo_102 : decode cX8_packetsTo 102 = .ok (.ireturn, 1) := by decide +kernel
theorem dX8_solicitations_0 : decode cX8_solicitations 0 = .ok (.aload_n 0, 1) := by decide +kernel
theorem dX8_solicitations_1 : decode cX8_solicitations 1 = .ok (.iconst 0, 1) := by decide +kernel
theorem dX8_solicitations_2 : decode cX8_solicitations 2 = .ok (.putfield 99, 3) := by decide +kernel
theorem dX8_solicitations_5 : decode cX8_solicitations 5 = .ok (.aload_n 0, 1) := by decide +kernel
theorem dX8_solicitations_6 : decode cX8_solicitations 6 = .ok (.getfield 122, 3) := by decide +kernel
theorem dX8_solicitations_9 : decode cX8_solicitations 9 = .ok (.ireturn, 1) := by decide +kernel
theorem dL_register_0 : decode cL_register 0 = .ok (.aload_n 3, 1) := by decide +kernel
theorem dL_register_1 : decode cL_register 1 = .ok (.iconst 0, 1) := by decide +kernel
theorem dL_register_2 : decode cL_register 2 = .ok (.aload_n 0, 1) := by decide +kernel
theorem dL_register_3 : decode cL_register 3 = .ok (.iload_n 1, 1) := by decide +kernel
theorem dL_register_4 : decode cL_register 4 = .ok (.iload_n 2, 1) := by decide +kernel
theorem dL_register_5 : decode cL_register 5 = .ok (.invokevirtual 7, 3) := by decide +kernel
theorem dL_register_8 : decode cL_register 8 = .ok (.i2l, 1) := by decide +kernel
theorem dL_register_9 : decode cL_register 9 = .ok (.lastore, 1) := by decide +kernel
theorem dL_register_10 : decode cL_register 10 = .ok (.goto 11, 3) := by decide +kernel
theorem dL_register_13 : decode cL_register 13 = .ok (.astore 4, 2) := by decide +kernel
theorem dL_register_15 : decode cL_register 15 = .ok (.iconst 1, 1) := by decide +kernel
theorem dL_register_16 : decode cL_register 16 = .ok (.ireturn, 1) := by decide +kernel
theorem dL_register_17 : decode cL_register 17 = .ok (.astore 4, 2) := by decide +kernel
theorem dL_register_19 : decode cL_register 19 = .ok (.iconst 2, 1) := by decide +kernel
theorem dL_register_20 : decode cL_register 20 = .ok (.ireturn, 1) := by decide +kernel
theorem dL_register_21 : decode cL_register 21 = .ok (.iconst 0, 1) := by decide +kernel
theorem dL_register_22 : decode cL_register 22 = .ok (.ireturn, 1) := by decide +kernel
theorem dL_withdraw_0 : decode cL_withdraw 0 = .ok (.aload_n 2, 1) := by decide +kernel
theorem dL_withdraw_1 : decode cL_withdraw 1 = .ok (.iconst 0, 1) := by decide +kernel
theorem dL_withdraw_2 : decode cL_withdraw 2 = .ok (.aload_n 0, 1) := by decide +kernel
theorem dL_withdraw_3 : decode cL_withdraw 3 = .ok (.iload_n 1, 1) := by decide +kernel
theorem dL_withdraw_4 : decode cL_withdraw 4 = .ok (.invokevirtual 17, 3) := by decide +kernel
theorem dL_withdraw_7 : decode cL_withdraw 7 = .ok (.i2l, 1) := by decide +kernel
theorem dL_withdraw_8 : decode cL_withdraw 8 = .ok (.lastore, 1) := by decide +kernel
theorem dL_withdraw_9 : decode cL_withdraw 9 = .ok (.goto 9, 3) := by decide +kernel
theorem dL_withdraw_12 : decode cL_withdraw 12 = .ok (.astore_n 3, 1) := by decide +kernel
theorem dL_withdraw_13 : decode cL_withdraw 13 = .ok (.iconst 1, 1) := by decide +kernel
theorem dL_withdraw_14 : decode cL_withdraw 14 = .ok (.ireturn, 1) := by decide +kernel
theorem dL_withdraw_15 : decode cL_withdraw 15 = .ok (.astore_n 3, 1) := by decide +kernel
theorem dL_withdraw_16 : decode cL_withdraw 16 = .ok (.iconst 2, 1) := by decide +kernel
theorem dL_withdraw_17 : decode cL_withdraw 17 = .ok (.ireturn, 1) := by decide +kernel
theorem dL_withdraw_18 : decode cL_withdraw 18 = .ok (.iconst 0, 1) := by decide +kernel
theorem dL_withdraw_19 : decode cL_withdraw 19 = .ok (.ireturn, 1) := by decide +kernel
theorem dL_addLocator_0 : decode cL_addLocator 0 = .ok (.aload 5, 2) := by decide +kernel
theorem dL_addLocator_2 : decode cL_addLocator 2 = .ok (.iconst 0, 1) := by decide +kernel
theorem dL_addLocator_3 : decode cL_addLocator 3 = .ok (.aload_n 0, 1) := by decide +kernel
theorem dL_addLocator_4 : decode cL_addLocator 4 = .ok (.iload_n 1, 1) := by decide +kernel
theorem dL_addLocator_5 : decode cL_addLocator 5 = .ok (.iload_n 2, 1) := by decide +kernel
theorem dL_addLocator_6 : decode cL_addLocator 6 = .ok (.iload_n 3, 1) := by decide +kernel
theorem dL_addLocator_7 : decode cL_addLocator 7 = .ok (.iload 4, 2) := by decide +kernel
theorem dL_addLocator_9 : decode cL_addLocator 9 = .ok (.invokevirtual 23, 3) := by decide +kernel
theorem dL_addLocator_12 : decode cL_addLocator 12 = .ok (.i2l, 1) := by decide +kernel
theorem dL_addLocator_13 : decode cL_addLocator 13 = .ok (.lastore, 1) := by decide +kernel
theorem dL_addLocator_14 : decode cL_addLocator 14 = .ok (.goto 15, 3) := by decide +kernel
theorem dL_addLocator_17 : decode cL_addLocator 17 = .ok (.astore 6, 2) := by decide +kernel
theorem dL_addLocator_19 : decode cL_addLocator 19 = .ok (.iconst 1, 1) := by decide +kernel
theorem dL_addLocator_20 : decode cL_addLocator 20 = .ok (.ireturn, 1) := by decide +kernel
theorem dL_addLocator_21 : decode cL_addLocator 21 = .ok (.astore 6, 2) := by decide +kernel
theorem dL_addLocator_23 : decode cL_addLocator 23 = .ok (.iconst 2, 1) := by decide +kernel
theorem dL_addLocator_24 : decode cL_addLocator 24 = .ok (.ireturn, 1) := by decide +kernel
theorem dL_addLocator_25 : decode cL_addLocator 25 = .ok (.astore 6, 2) := by decide +kernel
theorem dL_addLocator_27 : decode cL_addLocator 27 = .ok (.iconst 3, 1) := by decide +kernel
theorem dL_addLocator_28 : decode cL_addLocator 28 = .ok (.ireturn, 1) := by decide +kernel
theorem dL_addLocator_29 : decode cL_addLocator 29 = .ok (.iconst 0, 1) := by decide +kernel
theorem dL_addLocator_30 : decode cL_addLocator 30 = .ok (.ireturn, 1) := by decide +kernel
theorem dL_move_0 : decode cL_move 0 = .ok (.aload 4, 2) := by decide +kernel
theorem dL_move_2 : decode cL_move 2 = .ok (.iconst 0, 1) := by decide +kernel
theorem dL_move_3 : decode cL_move 3 = .ok (.aload_n 0, 1) := by decide +kernel
theorem dL_move_4 : decode cL_move 4 = .ok (.iload_n 1, 1) := by decide +kernel
theorem dL_move_5 : decode cL_move 5 = .ok (.iload_n 2, 1) := by decide +kernel
theorem dL_move_6 : decode cL_move 6 = .ok (.iload_n 3, 1) := by decide +kernel
theorem dL_move_7 : decode cL_move 7 = .ok (.invokevirtual 27, 3) := by decide +kernel
theorem dL_move_10 : decode cL_move 10 = .ok (.i2l, 1) := by decide +kernel
theorem dL_move_11 : decode cL_move 11 = .ok (.lastore, 1) := by decide +kernel
theorem dL_move_12 : decode cL_move 12 = .ok (.goto 15, 3) := by decide +kernel
theorem dL_move_15 : decode cL_move 15 = .ok (.astore 5, 2) := by decide +kernel
theorem dL_move_17 : decode cL_move 17 = .ok (.iconst 1, 1) := by decide +kernel
theorem dL_move_18 : decode cL_move 18 = .ok (.ireturn, 1) := by decide +kernel
theorem dL_move_19 : decode cL_move 19 = .ok (.astore 5, 2) := by decide +kernel
theorem dL_move_21 : decode cL_move 21 = .ok (.iconst 2, 1) := by decide +kernel
theorem dL_move_22 : decode cL_move 22 = .ok (.ireturn, 1) := by decide +kernel
theorem dL_move_23 : decode cL_move 23 = .ok (.astore 5, 2) := by decide +kernel
theorem dL_move_25 : decode cL_move 25 = .ok (.iconst 3, 1) := by decide +kernel
theorem dL_move_26 : decode cL_move 26 = .ok (.ireturn, 1) := by decide +kernel
theorem dL_move_27 : decode cL_move 27 = .ok (.iconst 0, 1) := by decide +kernel
theorem dL_move_28 : decode cL_move 28 = .ok (.ireturn, 1) := by decide +kernel
theorem dL_removeLocator_0 : decode cL_removeLocator 0 = .ok (.aload_n 3, 1) := by decide +kernel
theorem dL_removeLocator_1 : decode cL_removeLocator 1 = .ok (.iconst 0, 1) := by decide +kernel
theorem dL_removeLocator_2 : decode cL_removeLocator 2 = .ok (.aload_n 0, 1) := by decide +kernel
theorem dL_removeLocator_3 : decode cL_removeLocator 3 = .ok (.iload_n 1, 1) := by decide +kernel
theorem dL_removeLocator_4 : decode cL_removeLocator 4 = .ok (.iload_n 2, 1) := by decide +kernel
theorem dL_removeLocator_5 : decode cL_removeLocator 5 = .ok (.invokevirtual 31, 3) := by decide +kernel
theorem dL_removeLocator_8 : decode cL_removeLocator 8 = .ok (.i2l, 1) := by decide +kernel
theorem dL_removeLocator_9 : decode cL_removeLocator 9 = .ok (.lastore, 1) := by decide +kernel
theorem dL_removeLocator_10 : decode cL_removeLocator 10 = .ok (.goto 15, 3) := by decide +kernel
theorem dL_removeLocator_13 : decode cL_removeLocator 13 = .ok (.astore 4, 2) := by decide +kernel
theorem dL_removeLocator_15 : decode cL_removeLocator 15 = .ok (.iconst 1, 1) := by decide +kernel
theorem dL_removeLocator_16 : decode cL_removeLocator 16 = .ok (.ireturn, 1) := by decide +kernel
theorem dL_removeLocator_17 : decode cL_removeLocator 17 = .ok (.astore 4, 2) := by decide +kernel
theorem dL_removeLocator_19 : decode cL_removeLocator 19 = .ok (.iconst 2, 1) := by decide +kernel
theorem dL_removeLocator_20 : decode cL_removeLocator 20 = .ok (.ireturn, 1) := by decide +kernel
theorem dL_removeLocator_21 : decode cL_removeLocator 21 = .ok (.astore 4, 2) := by decide +kernel
theorem dL_removeLocator_23 : decode cL_removeLocator 23 = .ok (.iconst 3, 1) := by decide +kernel
theorem dL_removeLocator_24 : decode cL_removeLocator 24 = .ok (.ireturn, 1) := by decide +kernel
theorem dL_removeLocator_25 : decode cL_removeLocator 25 = .ok (.iconst 0, 1) := by decide +kernel
theorem dL_removeLocator_26 : decode cL_removeLocator 26 = .ok (.ireturn, 1) := by decide +kernel
theorem dL_mappingOf_0 : decode cL_mappingOf 0 = .ok (.aload_n 2, 1) := by decide +kernel
theorem dL_mappingOf_1 : decode cL_mappingOf 1 = .ok (.iconst 0, 1) := by decide +kernel
theorem dL_mappingOf_2 : decode cL_mappingOf 2 = .ok (.aload_n 0, 1) := by decide +kernel
theorem dL_mappingOf_3 : decode cL_mappingOf 3 = .ok (.iload_n 1, 1) := by decide +kernel
theorem dL_mappingOf_4 : decode cL_mappingOf 4 = .ok (.invokevirtual 34, 3) := by decide +kernel
theorem dL_mappingOf_7 : decode cL_mappingOf 7 = .ok (.i2l, 1) := by decide +kernel
theorem dL_mappingOf_8 : decode cL_mappingOf 8 = .ok (.lastore, 1) := by decide +kernel
theorem dL_mappingOf_9 : decode cL_mappingOf 9 = .ok (.goto 6, 3) := by decide +kernel
theorem dL_mappingOf_12 : decode cL_mappingOf 12 = .ok (.astore_n 3, 1) := by decide +kernel
theorem dL_mappingOf_13 : decode cL_mappingOf 13 = .ok (.iconst 1, 1) := by decide +kernel
theorem dL_mappingOf_14 : decode cL_mappingOf 14 = .ok (.ireturn, 1) := by decide +kernel
theorem dL_mappingOf_15 : decode cL_mappingOf 15 = .ok (.iconst 0, 1) := by decide +kernel
theorem dL_mappingOf_16 : decode cL_mappingOf 16 = .ok (.ireturn, 1) := by decide +kernel
theorem dL_answerLength_0 : decode cL_answerLength 0 = .ok (.aload_n 2, 1) := by decide +kernel
theorem dL_answerLength_1 : decode cL_answerLength 1 = .ok (.iconst 0, 1) := by decide +kernel
theorem dL_answerLength_2 : decode cL_answerLength 2 = .ok (.aload_n 0, 1) := by decide +kernel
theorem dL_answerLength_3 : decode cL_answerLength 3 = .ok (.iload_n 1, 1) := by decide +kernel
theorem dL_answerLength_4 : decode cL_answerLength 4 = .ok (.invokevirtual 37, 3) := by decide +kernel
theorem dL_answerLength_7 : decode cL_answerLength 7 = .ok (.i2l, 1) := by decide +kernel
theorem dL_answerLength_8 : decode cL_answerLength 8 = .ok (.lastore, 1) := by decide +kernel
theorem dL_answerLength_9 : decode cL_answerLength 9 = .ok (.goto 6, 3) := by decide +kernel
theorem dL_answerLength_12 : decode cL_answerLength 12 = .ok (.astore_n 3, 1) := by decide +kernel
theorem dL_answerLength_13 : decode cL_answerLength 13 = .ok (.iconst 1, 1) := by decide +kernel
theorem dL_answerLength_14 : decode cL_answerLength 14 = .ok (.ireturn, 1) := by decide +kernel
theorem dL_answerLength_15 : decode cL_answerLength 15 = .ok (.iconst 0, 1) := by decide +kernel
theorem dL_answerLength_16 : decode cL_answerLength 16 = .ok (.ireturn, 1) := by decide +kernel
theorem dL_version_0 : decode cL_version 0 = .ok (.aload_n 2, 1) := by decide +kernel
theorem dL_version_1 : decode cL_version 1 = .ok (.iconst 0, 1) := by decide +kernel
theorem dL_version_2 : decode cL_version 2 = .ok (.aload_n 0, 1) := by decide +kernel
theorem dL_version_3 : decode cL_version 3 = .ok (.iload_n 1, 1) := by decide +kernel
theorem dL_version_4 : decode cL_version 4 = .ok (.invokevirtual 40, 3) := by decide +kernel
theorem dL_version_7 : decode cL_version 7 = .ok (.i2l, 1) := by decide +kernel
theorem dL_version_8 : decode cL_version 8 = .ok (.lastore, 1) := by decide +kernel
theorem dL_version_9 : decode cL_version 9 = .ok (.goto 6, 3) := by decide +kernel
theorem dL_version_12 : decode cL_version 12 = .ok (.astore_n 3, 1) := by decide +kernel
theorem dL_version_13 : decode cL_version 13 = .ok (.iconst 1, 1) := by decide +kernel
theorem dL_version_14 : decode cL_version 14 = .ok (.ireturn, 1) := by decide +kernel
theorem dL_version_15 : decode cL_version 15 = .ok (.iconst 0, 1) := by decide +kernel
theorem dL_version_16 : decode cL_version 16 = .ok (.ireturn, 1) := by decide +kernel
theorem dL_delegate_0 : decode cL_delegate 0 = .ok (.aload 4, 2) := by decide +kernel
theorem dL_delegate_2 : decode cL_delegate 2 = .ok (.iconst 0, 1) := by decide +kernel
theorem dL_delegate_3 : decode cL_delegate 3 = .ok (.aload_n 0, 1) := by decide +kernel
theorem dL_delegate_4 : decode cL_delegate 4 = .ok (.iload_n 1, 1) := by decide +kernel
theorem dL_delegate_5 : decode cL_delegate 5 = .ok (.iload_n 2, 1) := by decide +kernel
theorem dL_delegate_6 : decode cL_delegate 6 = .ok (.iload_n 3, 1) := by decide +kernel
theorem dL_delegate_7 : decode cL_delegate 7 = .ok (.invokevirtual 43, 3) := by decide +kernel
theorem dL_delegate_10 : decode cL_delegate 10 = .ok (.i2l, 1) := by decide +kernel
theorem dL_delegate_11 : decode cL_delegate 11 = .ok (.lastore, 1) := by decide +kernel
theorem dL_delegate_12 : decode cL_delegate 12 = .ok (.goto 15, 3) := by decide +kernel
theorem dL_delegate_15 : decode cL_delegate 15 = .ok (.astore 5, 2) := by decide +kernel
theorem dL_delegate_17 : decode cL_delegate 17 = .ok (.iconst 1, 1) := by decide +kernel
theorem dL_delegate_18 : decode cL_delegate 18 = .ok (.ireturn, 1) := by decide +kernel
theorem dL_delegate_19 : decode cL_delegate 19 = .ok (.astore 5, 2) := by decide +kernel
theorem dL_delegate_21 : decode cL_delegate 21 = .ok (.iconst 2, 1) := by decide +kernel
theorem dL_delegate_22 : decode cL_delegate 22 = .ok (.ireturn, 1) := by decide +kernel
theorem dL_delegate_23 : decode cL_delegate 23 = .ok (.astore 5, 2) := by decide +kernel
theorem dL_delegate_25 : decode cL_delegate 25 = .ok (.iconst 3, 1) := by decide +kernel
theorem dL_delegate_26 : decode cL_delegate 26 = .ok (.ireturn, 1) := by decide +kernel
theorem dL_delegate_27 : decode cL_delegate 27 = .ok (.iconst 0, 1) := by decide +kernel
theorem dL_delegate_28 : decode cL_delegate 28 = .ok (.ireturn, 1) := by decide +kernel
theorem dL_setUp_0 : decode cL_setUp 0 = .ok (.aload_n 3, 1) := by decide +kernel
theorem dL_setUp_1 : decode cL_setUp 1 = .ok (.iconst 0, 1) := by decide +kernel
theorem dL_setUp_2 : decode cL_setUp 2 = .ok (.aload_n 0, 1) := by decide +kernel
theorem dL_setUp_3 : decode cL_setUp 3 = .ok (.iload_n 1, 1) := by decide +kernel
theorem dL_setUp_4 : decode cL_setUp 4 = .ok (.iload_n 2, 1) := by decide +kernel
theorem dL_setUp_5 : decode cL_setUp 5 = .ok (.invokevirtual 46, 3) := by decide +kernel
theorem dL_setUp_8 : decode cL_setUp 8 = .ok (.ifCond .eq 7, 3) := by decide +kernel
theorem dL_setUp_11 : decode cL_setUp 11 = .ok (.lconst 1, 1) := by decide +kernel
theorem dL_setUp_12 : decode cL_setUp 12 = .ok (.goto 4, 3) := by decide +kernel
theorem dL_setUp_15 : decode cL_setUp 15 = .ok (.lconst 0, 1) := by decide +kernel
theorem dL_setUp_16 : decode cL_setUp 16 = .ok (.lastore, 1) := by decide +kernel
theorem dL_setUp_17 : decode cL_setUp 17 = .ok (.goto 7, 3) := by decide +kernel
theorem dL_setUp_20 : decode cL_setUp 20 = .ok (.astore 4, 2) := by decide +kernel
theorem dL_setUp_22 : decode cL_setUp 22 = .ok (.iconst 1, 1) := by decide +kernel
theorem dL_setUp_23 : decode cL_setUp 23 = .ok (.ireturn, 1) := by decide +kernel
theorem dL_setUp_24 : decode cL_setUp 24 = .ok (.iconst 0, 1) := by decide +kernel
theorem dL_setUp_25 : decode cL_setUp 25 = .ok (.ireturn, 1) := by decide +kernel
theorem dL_serverOf_0 : decode cL_serverOf 0 = .ok (.aload_n 2, 1) := by decide +kernel
theorem dL_serverOf_1 : decode cL_serverOf 1 = .ok (.iconst 0, 1) := by decide +kernel
theorem dL_serverOf_2 : decode cL_serverOf 2 = .ok (.aload_n 0, 1) := by decide +kernel
theorem dL_serverOf_3 : decode cL_serverOf 3 = .ok (.iload_n 1, 1) := by decide +kernel
theorem dL_serverOf_4 : decode cL_serverOf 4 = .ok (.invokevirtual 50, 3) := by decide +kernel
theorem dL_serverOf_7 : decode cL_serverOf 7 = .ok (.i2l, 1) := by decide +kernel
theorem dL_serverOf_8 : decode cL_serverOf 8 = .ok (.lastore, 1) := by decide +kernel
theorem dL_serverOf_9 : decode cL_serverOf 9 = .ok (.goto 6, 3) := by decide +kernel
theorem dL_serverOf_12 : decode cL_serverOf 12 = .ok (.astore_n 3, 1) := by decide +kernel
theorem dL_serverOf_13 : decode cL_serverOf 13 = .ok (.iconst 1, 1) := by decide +kernel
theorem dL_serverOf_14 : decode cL_serverOf 14 = .ok (.ireturn, 1) := by decide +kernel
theorem dL_serverOf_15 : decode cL_serverOf 15 = .ok (.iconst 0, 1) := by decide +kernel
theorem dL_serverOf_16 : decode cL_serverOf 16 = .ok (.ireturn, 1) := by decide +kernel
theorem dL_answers_0 : decode cL_answers 0 = .ok (.aload_n 2, 1) := by decide +kernel
theorem dL_answers_1 : decode cL_answers 1 = .ok (.iconst 0, 1) := by decide +kernel
theorem dL_answers_2 : decode cL_answers 2 = .ok (.aload_n 0, 1) := by decide +kernel
theorem dL_answers_3 : decode cL_answers 3 = .ok (.iload_n 1, 1) := by decide +kernel
theorem dL_answers_4 : decode cL_answers 4 = .ok (.invokevirtual 53, 3) := by decide +kernel
theorem dL_answers_7 : decode cL_answers 7 = .ok (.i2l, 1) := by decide +kernel
theorem dL_answers_8 : decode cL_answers 8 = .ok (.lastore, 1) := by decide +kernel
theorem dL_answers_9 : decode cL_answers 9 = .ok (.goto 6, 3) := by decide +kernel
theorem dL_answers_12 : decode cL_answers 12 = .ok (.astore_n 3, 1) := by decide +kernel
theorem dL_answers_13 : decode cL_answers 13 = .ok (.iconst 1, 1) := by decide +kernel
theorem dL_answers_14 : decode cL_answers 14 = .ok (.ireturn, 1) := by decide +kernel
theorem dL_answers_15 : decode cL_answers 15 = .ok (.iconst 0, 1) := by decide +kernel
theorem dL_answers_16 : decode cL_answers 16 = .ok (.ireturn, 1) := by decide +kernel
theorem dL_send_0 : decode cL_send 0 = .ok (.aload_n 3, 1) := by decide +kernel
theorem dL_send_1 : decode cL_send 1 = .ok (.iconst 0, 1) := by decide +kernel
theorem dL_send_2 : decode cL_send 2 = .ok (.aload_n 0, 1) := by decide +kernel
theorem dL_send_3 : decode cL_send 3 = .ok (.iload_n 1, 1) := by decide +kernel
theorem dL_send_4 : decode cL_send 4 = .ok (.iload_n 2, 1) := by decide +kernel
theorem dL_send_5 : decode cL_send 5 = .ok (.invokevirtual 56, 3) := by decide +kernel
theorem dL_send_8 : decode cL_send 8 = .ok (.i2l, 1) := by decide +kernel
theorem dL_send_9 : decode cL_send 9 = .ok (.lastore, 1) := by decide +kernel
theorem dL_send_10 : decode cL_send 10 = .ok (.goto 11, 3) := by decide +kernel
theorem dL_send_13 : decode cL_send 13 = .ok (.astore 4, 2) := by decide +kernel
theorem dL_send_15 : decode cL_send 15 = .ok (.iconst 1, 1) := by decide +kernel
theorem dL_send_16 : decode cL_send 16 = .ok (.ireturn, 1) := by decide +kernel
theorem dL_send_17 : decode cL_send 17 = .ok (.astore 4, 2) := by decide +kernel
theorem dL_send_19 : decode cL_send 19 = .ok (.iconst 2, 1) := by decide +kernel
theorem dL_send_20 : decode cL_send 20 = .ok (.ireturn, 1) := by decide +kernel
theorem dL_send_21 : decode cL_send 21 = .ok (.iconst 0, 1) := by decide +kernel
theorem dL_send_22 : decode cL_send 22 = .ok (.ireturn, 1) := by decide +kernel
theorem dL_probe_0 : decode cL_probe 0 = .ok (.aload 4, 2) := by decide +kernel
theorem dL_probe_2 : decode cL_probe 2 = .ok (.iconst 0, 1) := by decide +kernel
theorem dL_probe_3 : decode cL_probe 3 = .ok (.aload_n 0, 1) := by decide +kernel
theorem dL_probe_4 : decode cL_probe 4 = .ok (.iload_n 1, 1) := by decide +kernel
theorem dL_probe_5 : decode cL_probe 5 = .ok (.iload_n 2, 1) := by decide +kernel
theorem dL_probe_6 : decode cL_probe 6 = .ok (.iload_n 3, 1) := by decide +kernel
theorem dL_probe_7 : decode cL_probe 7 = .ok (.invokevirtual 59, 3) := by decide +kernel
theorem dL_probe_10 : decode cL_probe 10 = .ok (.i2l, 1) := by decide +kernel
theorem dL_probe_11 : decode cL_probe 11 = .ok (.lastore, 1) := by decide +kernel
theorem dL_probe_12 : decode cL_probe 12 = .ok (.goto 11, 3) := by decide +kernel
theorem dL_probe_15 : decode cL_probe 15 = .ok (.astore 5, 2) := by decide +kernel
theorem dL_probe_17 : decode cL_probe 17 = .ok (.iconst 1, 1) := by decide +kernel
theorem dL_probe_18 : decode cL_probe 18 = .ok (.ireturn, 1) := by decide +kernel
theorem dL_probe_19 : decode cL_probe 19 = .ok (.astore 5, 2) := by decide +kernel
theorem dL_probe_21 : decode cL_probe 21 = .ok (.iconst 2, 1) := by decide +kernel
theorem dL_probe_22 : decode cL_probe 22 = .ok (.ireturn, 1) := by decide +kernel
theorem dL_probe_23 : decode cL_probe 23 = .ok (.iconst 0, 1) := by decide +kernel
theorem dL_probe_24 : decode cL_probe 24 = .ok (.ireturn, 1) := by decide +kernel
theorem dL_setLifetimes_0 : decode cL_setLifetimes 0 = .ok (.aload_n 3, 1) := by decide +kernel
theorem dL_setLifetimes_1 : decode cL_setLifetimes 1 = .ok (.iconst 0, 1) := by decide +kernel
theorem dL_setLifetimes_2 : decode cL_setLifetimes 2 = .ok (.aload_n 0, 1) := by decide +kernel
theorem dL_setLifetimes_3 : decode cL_setLifetimes 3 = .ok (.iload_n 1, 1) := by decide +kernel
theorem dL_setLifetimes_4 : decode cL_setLifetimes 4 = .ok (.iload_n 2, 1) := by decide +kernel
theorem dL_setLifetimes_5 : decode cL_setLifetimes 5 = .ok (.invokevirtual 63, 3) := by decide +kernel
theorem dL_setLifetimes_8 : decode cL_setLifetimes 8 = .ok (.i2l, 1) := by decide +kernel
theorem dL_setLifetimes_9 : decode cL_setLifetimes 9 = .ok (.lastore, 1) := by decide +kernel
theorem dL_setLifetimes_10 : decode cL_setLifetimes 10 = .ok (.goto 7, 3) := by decide +kernel
theorem dL_setLifetimes_13 : decode cL_setLifetimes 13 = .ok (.astore 4, 2) := by decide +kernel
theorem dL_setLifetimes_15 : decode cL_setLifetimes 15 = .ok (.iconst 1, 1) := by decide +kernel
theorem dL_setLifetimes_16 : decode cL_setLifetimes 16 = .ok (.ireturn, 1) := by decide +kernel
theorem dL_setLifetimes_17 : decode cL_setLifetimes 17 = .ok (.iconst 0, 1) := by decide +kernel
theorem dL_setLifetimes_18 : decode cL_setLifetimes 18 = .ok (.ireturn, 1) := by decide +kernel
theorem dL_pass_0 : decode cL_pass 0 = .ok (.aload_n 2, 1) := by decide +kernel
theorem dL_pass_1 : decode cL_pass 1 = .ok (.iconst 0, 1) := by decide +kernel
theorem dL_pass_2 : decode cL_pass 2 = .ok (.aload_n 0, 1) := by decide +kernel
theorem dL_pass_3 : decode cL_pass 3 = .ok (.iload_n 1, 1) := by decide +kernel
theorem dL_pass_4 : decode cL_pass 4 = .ok (.invokevirtual 66, 3) := by decide +kernel
theorem dL_pass_7 : decode cL_pass 7 = .ok (.i2l, 1) := by decide +kernel
theorem dL_pass_8 : decode cL_pass 8 = .ok (.lastore, 1) := by decide +kernel
theorem dL_pass_9 : decode cL_pass 9 = .ok (.goto 6, 3) := by decide +kernel
theorem dL_pass_12 : decode cL_pass 12 = .ok (.astore_n 3, 1) := by decide +kernel
theorem dL_pass_13 : decode cL_pass 13 = .ok (.iconst 1, 1) := by decide +kernel
theorem dL_pass_14 : decode cL_pass 14 = .ok (.ireturn, 1) := by decide +kernel
theorem dL_pass_15 : decode cL_pass 15 = .ok (.iconst 0, 1) := by decide +kernel
theorem dL_pass_16 : decode cL_pass 16 = .ok (.ireturn, 1) := by decide +kernel
theorem dL_entries_0 : decode cL_entries 0 = .ok (.aload_n 2, 1) := by decide +kernel
theorem dL_entries_1 : decode cL_entries 1 = .ok (.iconst 0, 1) := by decide +kernel
theorem dL_entries_2 : decode cL_entries 2 = .ok (.aload_n 0, 1) := by decide +kernel
theorem dL_entries_3 : decode cL_entries 3 = .ok (.iload_n 1, 1) := by decide +kernel
theorem dL_entries_4 : decode cL_entries 4 = .ok (.invokevirtual 69, 3) := by decide +kernel
theorem dL_entries_7 : decode cL_entries 7 = .ok (.i2l, 1) := by decide +kernel
theorem dL_entries_8 : decode cL_entries 8 = .ok (.lastore, 1) := by decide +kernel
theorem dL_entries_9 : decode cL_entries 9 = .ok (.goto 6, 3) := by decide +kernel
theorem dL_entries_12 : decode cL_entries 12 = .ok (.astore_n 3, 1) := by decide +kernel
theorem dL_entries_13 : decode cL_entries 13 = .ok (.iconst 1, 1) := by decide +kernel
theorem dL_entries_14 : decode cL_entries 14 = .ok (.ireturn, 1) := by decide +kernel
theorem dL_entries_15 : decode cL_entries 15 = .ok (.iconst 0, 1) := by decide +kernel
theorem dL_entries_16 : decode cL_entries 16 = .ok (.ireturn, 1) := by decide +kernel
theorem dL_prefixOf_0 : decode cL_prefixOf 0 = .ok (.aload_n 3, 1) := by decide +kernel
theorem dL_prefixOf_1 : decode cL_prefixOf 1 = .ok (.iconst 0, 1) := by decide +kernel
theorem dL_prefixOf_2 : decode cL_prefixOf 2 = .ok (.aload_n 0, 1) := by decide +kernel
theorem dL_prefixOf_3 : decode cL_prefixOf 3 = .ok (.iload_n 1, 1) := by decide +kernel
theorem dL_prefixOf_4 : decode cL_prefixOf 4 = .ok (.iload_n 2, 1) := by decide +kernel
theorem dL_prefixOf_5 : decode cL_prefixOf 5 = .ok (.invokevirtual 72, 3) := by decide +kernel
theorem dL_prefixOf_8 : decode cL_prefixOf 8 = .ok (.i2l, 1) := by decide +kernel
theorem dL_prefixOf_9 : decode cL_prefixOf 9 = .ok (.lastore, 1) := by decide +kernel
theorem dL_prefixOf_10 : decode cL_prefixOf 10 = .ok (.goto 7, 3) := by decide +kernel
theorem dL_prefixOf_13 : decode cL_prefixOf 13 = .ok (.astore 4, 2) := by decide +kernel
theorem dL_prefixOf_15 : decode cL_prefixOf 15 = .ok (.iconst 1, 1) := by decide +kernel
theorem dL_prefixOf_16 : decode cL_prefixOf 16 = .ok (.ireturn, 1) := by decide +kernel
theorem dL_prefixOf_17 : decode cL_prefixOf 17 = .ok (.iconst 0, 1) := by decide +kernel
theorem dL_prefixOf_18 : decode cL_prefixOf 18 = .ok (.ireturn, 1) := by decide +kernel
theorem dL_mappingAt_0 : decode cL_mappingAt 0 = .ok (.aload_n 3, 1) := by decide +kernel
theorem dL_mappingAt_1 : decode cL_mappingAt 1 = .ok (.iconst 0, 1) := by decide +kernel
theorem dL_mappingAt_2 : decode cL_mappingAt 2 = .ok (.aload_n 0, 1) := by decide +kernel
theorem dL_mappingAt_3 : decode cL_mappingAt 3 = .ok (.iload_n 1, 1) := by decide +kernel
theorem dL_mappingAt_4 : decode cL_mappingAt 4 = .ok (.iload_n 2, 1) := by decide +kernel
theorem dL_mappingAt_5 : decode cL_mappingAt 5 = .ok (.invokevirtual 75, 3) := by decide +kernel
theorem dL_mappingAt_8 : decode cL_mappingAt 8 = .ok (.i2l, 1) := by decide +kernel
theorem dL_mappingAt_9 : decode cL_mappingAt 9 = .ok (.lastore, 1) := by decide +kernel
theorem dL_mappingAt_10 : decode cL_mappingAt 10 = .ok (.goto 7, 3) := by decide +kernel
theorem dL_mappingAt_13 : decode cL_mappingAt 13 = .ok (.astore 4, 2) := by decide +kernel
theorem dL_mappingAt_15 : decode cL_mappingAt 15 = .ok (.iconst 1, 1) := by decide +kernel
theorem dL_mappingAt_16 : decode cL_mappingAt 16 = .ok (.ireturn, 1) := by decide +kernel
theorem dL_mappingAt_17 : decode cL_mappingAt 17 = .ok (.iconst 0, 1) := by decide +kernel
theorem dL_mappingAt_18 : decode cL_mappingAt 18 = .ok (.ireturn, 1) := by decide +kernel
theorem dL_lasts_0 : decode cL_lasts 0 = .ok (.aload_n 3, 1) := by decide +kernel
theorem dL_lasts_1 : decode cL_lasts 1 = .ok (.iconst 0, 1) := by decide +kernel
theorem dL_lasts_2 : decode cL_lasts 2 = .ok (.aload_n 0, 1) := by decide +kernel
theorem dL_lasts_3 : decode cL_lasts 3 = .ok (.iload_n 1, 1) := by decide +kernel
theorem dL_lasts_4 : decode cL_lasts 4 = .ok (.iload_n 2, 1) := by decide +kernel
theorem dL_lasts_5 : decode cL_lasts 5 = .ok (.invokevirtual 78, 3) := by decide +kernel
theorem dL_lasts_8 : decode cL_lasts 8 = .ok (.i2l, 1) := by decide +kernel
theorem dL_lasts_9 : decode cL_lasts 9 = .ok (.lastore, 1) := by decide +kernel
theorem dL_lasts_10 : decode cL_lasts 10 = .ok (.goto 7, 3) := by decide +kernel
theorem dL_lasts_13 : decode cL_lasts 13 = .ok (.astore 4, 2) := by decide +kernel
theorem dL_lasts_15 : decode cL_lasts 15 = .ok (.iconst 1, 1) := by decide +kernel
theorem dL_lasts_16 : decode cL_lasts 16 = .ok (.ireturn, 1) := by decide +kernel
theorem dL_lasts_17 : decode cL_lasts 17 = .ok (.iconst 0, 1) := by decide +kernel
theorem dL_lasts_18 : decode cL_lasts 18 = .ok (.ireturn, 1) := by decide +kernel
theorem dL_packetsTo_0 : decode cL_packetsTo 0 = .ok (.aload 4, 2) := by decide +kernel
theorem dL_packetsTo_2 : decode cL_packetsTo 2 = .ok (.iconst 0, 1) := by decide +kernel
theorem dL_packetsTo_3 : decode cL_packetsTo 3 = .ok (.aload_n 0, 1) := by decide +kernel
theorem dL_packetsTo_4 : decode cL_packetsTo 4 = .ok (.iload_n 1, 1) := by decide +kernel
theorem dL_packetsTo_5 : decode cL_packetsTo 5 = .ok (.iload_n 2, 1) := by decide +kernel
theorem dL_packetsTo_6 : decode cL_packetsTo 6 = .ok (.iload_n 3, 1) := by decide +kernel
theorem dL_packetsTo_7 : decode cL_packetsTo 7 = .ok (.invokevirtual 81, 3) := by decide +kernel
theorem dL_packetsTo_10 : decode cL_packetsTo 10 = .ok (.i2l, 1) := by decide +kernel
theorem dL_packetsTo_11 : decode cL_packetsTo 11 = .ok (.lastore, 1) := by decide +kernel
theorem dL_packetsTo_12 : decode cL_packetsTo 12 = .ok (.goto 11, 3) := by decide +kernel
theorem dL_packetsTo_15 : decode cL_packetsTo 15 = .ok (.astore 5, 2) := by decide +kernel
theorem dL_packetsTo_17 : decode cL_packetsTo 17 = .ok (.iconst 1, 1) := by decide +kernel
theorem dL_packetsTo_18 : decode cL_packetsTo 18 = .ok (.ireturn, 1) := by decide +kernel
theorem dL_packetsTo_19 : decode cL_packetsTo 19 = .ok (.astore 5, 2) := by decide +kernel
theorem dL_packetsTo_21 : decode cL_packetsTo 21 = .ok (.iconst 2, 1) := by decide +kernel
theorem dL_packetsTo_22 : decode cL_packetsTo 22 = .ok (.ireturn, 1) := by decide +kernel
theorem dL_packetsTo_23 : decode cL_packetsTo 23 = .ok (.iconst 0, 1) := by decide +kernel
theorem dL_packetsTo_24 : decode cL_packetsTo 24 = .ok (.ireturn, 1) := by decide +kernel
theorem dL_law_0 : decode cL_law 0 = .ok (.new 8, 3) := by decide +kernel
theorem dL_law_3 : decode cL_law 3 = .ok (.dup, 1) := by decide +kernel
theorem dL_law_4 : decode cL_law 4 = .ok (.invokespecial 84, 3) := by decide +kernel
theorem dL_law_7 : decode cL_law 7 = .ok (.astore_n 1, 1) := by decide +kernel
theorem dL_law_8 : decode cL_law 8 = .ok (.new 85, 3) := by decide +kernel
theorem dL_law_11 : decode cL_law 11 = .ok (.dup, 1) := by decide +kernel
theorem dL_law_12 : decode cL_law 12 = .ok (.invokespecial 87, 3) := by decide +kernel
theorem dL_law_15 : decode cL_law 15 = .ok (.astore_n 2, 1) := by decide +kernel
theorem dL_law_16 : decode cL_law 16 = .ok (.iconst 1, 1) := by decide +kernel
theorem dL_law_17 : decode cL_law 17 = .ok (.newarray .long, 2) := by decide +kernel
theorem dL_law_19 : decode cL_law 19 = .ok (.astore_n 3, 1) := by decide +kernel
theorem dL_law_20 : decode cL_law 20 = .ok (.iconst 0, 1) := by decide +kernel
theorem dL_law_21 : decode cL_law 21 = .ok (.istore 4, 2) := by decide +kernel
theorem dL_law_23 : decode cL_law 23 = .ok (.iload 4, 2) := by decide +kernel
theorem dL_law_25 : decode cL_law 25 = .ok (.aload_n 0, 1) := by decide +kernel
theorem dL_law_26 : decode cL_law 26 = .ok (.arraylength, 1) := by decide +kernel
theorem dL_law_27 : decode cL_law 27 = .ok (.iconst 5, 1) := by decide +kernel
theorem dL_law_28 : decode cL_law 28 = .ok (.isub, 1) := by decide +kernel
theorem dL_law_29 : decode cL_law 29 = .ok (.if_icmp .gt 1573, 3) := by decide +kernel
theorem dL_law_32 : decode cL_law 32 = .ok (.aload_n 0, 1) := by decide +kernel
theorem dL_law_33 : decode cL_law 33 = .ok (.iload 4, 2) := by decide +kernel
theorem dL_law_35 : decode cL_law 35 = .ok (.iaload, 1) := by decide +kernel
theorem dL_law_36 : decode cL_law 36 = .ok (.bipush 31, 2) := by decide +kernel
theorem dL_law_38 : decode cL_law 38 = .ok (.iand, 1) := by decide +kernel
theorem dL_law_39 : decode cL_law 39 = .ok (.tableswitch 1557 0 21 #[101, 169, 225, 317, 397, 465, 521, 577, 633, 713, 804, 860, 916, 984, 1080, 1148, 1204, 1260, 1328, 1396, 1464, 1544], 101) := by decide +kernel
theorem dL_law_140 : decode cL_law 140 = .ok (.aload_n 1, 1) := by decide +kernel
theorem dL_law_141 : decode cL_law 141 = .ok (.aload_n 0, 1) := by decide +kernel
theorem dL_law_142 : decode cL_law 142 = .ok (.iload 4, 2) := by decide +kernel
theorem dL_law_144 : decode cL_law 144 = .ok (.iconst 1, 1) := by decide +kernel
theorem dL_law_145 : decode cL_law 145 = .ok (.iadd, 1) := by decide +kernel
theorem dL_law_146 : decode cL_law 146 = .ok (.iaload, 1) := by decide +kernel
theorem dL_law_147 : decode cL_law 147 = .ok (.aload_n 0, 1) := by decide +kernel
theorem dL_law_148 : decode cL_law 148 = .ok (.iload 4, 2) := by decide +kernel
theorem dL_law_150 : decode cL_law 150 = .ok (.iconst 2, 1) := by decide +kernel
theorem dL_law_151 : decode cL_law 151 = .ok (.iadd, 1) := by decide +kernel
theorem dL_law_152 : decode cL_law 152 = .ok (.iaload, 1) := by decide +kernel
theorem dL_law_153 : decode cL_law 153 = .ok (.aload_n 3, 1) := by decide +kernel
theorem dL_law_154 : decode cL_law 154 = .ok (.invokestatic 88, 3) := by decide +kernel
theorem dL_law_157 : decode cL_law 157 = .ok (.istore 5, 2) := by decide +kernel
theorem dL_law_159 : decode cL_law 159 = .ok (.aload_n 2, 1) := by decide +kernel
theorem dL_law_160 : decode cL_law 160 = .ok (.aload_n 0, 1) := by decide +kernel
theorem dL_law_161 : decode cL_law 161 = .ok (.iload 4, 2) := by decide +kernel
theorem dL_law_163 : decode cL_law 163 = .ok (.iconst 1, 1) := by decide +kernel
theorem dL_law_164 : decode cL_law 164 = .ok (.iadd, 1) := by decide +kernel
theorem dL_law_165 : decode cL_law 165 = .ok (.iaload, 1) := by decide +kernel
theorem dL_law_166 : decode cL_law 166 = .ok (.aload_n 0, 1) := by decide +kernel
theorem dL_law_167 : decode cL_law 167 = .ok (.iload 4, 2) := by decide +kernel
theorem dL_law_169 : decode cL_law 169 = .ok (.iconst 2, 1) := by decide +kernel
theorem dL_law_170 : decode cL_law 170 = .ok (.iadd, 1) := by decide +kernel
theorem dL_law_171 : decode cL_law 171 = .ok (.iaload, 1) := by decide +kernel
theorem dL_law_172 : decode cL_law 172 = .ok (.invokevirtual 93, 3) := by decide +kernel
theorem dL_law_175 : decode cL_law 175 = .ok (.istore 6, 2) := by decide +kernel
theorem dL_law_177 : decode cL_law 177 = .ok (.aload_n 2, 1) := by decide +kernel
theorem dL_law_178 : decode cL_law 178 = .ok (.invokevirtual 94, 3) := by decide +kernel
theorem dL_law_181 : decode cL_law 181 = .ok (.iload 5, 2) := by decide +kernel
theorem dL_law_183 : decode cL_law 183 = .ok (.if_icmp .eq 5, 3) := by decide +kernel
theorem dL_law_186 : decode cL_law 186 = .ok (.iconst 0, 1) := by decide +kernel
theorem dL_law_187 : decode cL_law 187 = .ok (.ireturn, 1) := by decide +kernel
theorem dL_law_188 : decode cL_law 188 = .ok (.iload 5, 2) := by decide +kernel
theorem dL_law_190 : decode cL_law 190 = .ok (.ifCond .ne 15, 3) := by decide +kernel
theorem dL_law_193 : decode cL_law 193 = .ok (.aload_n 3, 1) := by decide +kernel
theorem dL_law_194 : decode cL_law 194 = .ok (.iconst 0, 1) := by decide +kernel
theorem dL_law_195 : decode cL_law 195 = .ok (.laload, 1) := by decide +kernel
theorem dL_law_196 : decode cL_law 196 = .ok (.iload 6, 2) := by decide +kernel
theorem dL_law_198 : decode cL_law 198 = .ok (.i2l, 1) := by decide +kernel
theorem dL_law_199 : decode cL_law 199 = .ok (.lcmp, 1) := by decide +kernel
theorem dL_law_200 : decode cL_law 200 = .ok (.ifCond .eq 5, 3) := by decide +kernel
theorem dL_law_203 : decode cL_law 203 = .ok (.iconst 0, 1) := by decide +kernel
theorem dL_law_204 : decode cL_law 204 = .ok (.ireturn, 1) := by decide +kernel
theorem dL_law_205 : decode cL_law 205 = .ok (.goto 1391, 3) := by decide +kernel
theorem dL_law_208 : decode cL_law 208 = .ok (.aload_n 1, 1) := by decide +kernel
theorem dL_law_209 : decode cL_law 209 = .ok (.aload_n 0, 1) := by decide +kernel
theorem dL_law_210 : decode cL_law 210 = .ok (.iload 4, 2) := by decide +kernel
theorem dL_law_212 : decode cL_law 212 = .ok (.iconst 1, 1) := by decide +kernel
theorem dL_law_213 : decode cL_law 213 = .ok (.iadd, 1) := by decide +kernel
theorem dL_law_214 : decode cL_law 214 = .ok (.iaload, 1) := by decide +kernel
theorem dL_law_215 : decode cL_law 215 = .ok (.aload_n 3, 1) := by decide +kernel
theorem dL_law_216 : decode cL_law 216 = .ok (.invokestatic 98, 3) := by decide +kernel
theorem dL_law_219 : decode cL_law 219 = .ok (.istore 5, 2) := by decide +kernel
theorem dL_law_221 : decode cL_law 221 = .ok (.aload_n 2, 1) := by decide +kernel
theorem dL_law_222 : decode cL_law 222 = .ok (.aload_n 0, 1) := by decide +kernel
theorem dL_law_223 : decode cL_law 223 = .ok (.iload 4, 2) := by decide +kernel
theorem dL_law_225 : decode cL_law 225 = .ok (.iconst 1, 1) := by decide +kernel
theorem dL_law_226 : decode cL_law 226 = .ok (.iadd, 1) := by decide +kernel
theorem dL_law_227 : decode cL_law 227 = .ok (.iaload, 1) := by decide +kernel
theorem dL_law_228 : decode cL_law 228 = .ok (.invokevirtual 101, 3) := by decide +kernel
theorem dL_law_231 : decode cL_law 231 = .ok (.istore 6, 2) := by decide +kernel
theorem dL_law_233 : decode cL_law 233 = .ok (.aload_n 2, 1) := by decide +kernel
theorem dL_law_234 : decode cL_law 234 = .ok (.invokevirtual 94, 3) := by decide +kernel
theorem dL_law_237 : decode cL_law 237 = .ok (.iload 5, 2) := by decide +kernel
theorem dL_law_239 : decode cL_law 239 = .ok (.if_icmp .eq 5, 3) := by decide +kernel
theorem dL_law_242 : decode cL_law 242 = .ok (.iconst 0, 1) := by decide +kernel
theorem dL_law_243 : decode cL_law 243 = .ok (.ireturn, 1) := by decide +kernel
theorem dL_law_244 : decode cL_law 244 = .ok (.iload 5, 2) := by decide +kernel
theorem dL_law_246 : decode cL_law 246 = .ok (.ifCond .ne 15, 3) := by decide +kernel
theorem dL_law_249 : decode cL_law 249 = .ok (.aload_n 3, 1) := by decide +kernel
theorem dL_law_250 : decode cL_law 250 = .ok (.iconst 0, 1) := by decide +kernel
theorem dL_law_251 : decode cL_law 251 = .ok (.laload, 1) := by decide +kernel
theorem dL_law_252 : decode cL_law 252 = .ok (.iload 6, 2) := by decide +kernel
theorem dL_law_254 : decode cL_law 254 = .ok (.i2l, 1) := by decide +kernel
theorem dL_law_255 : decode cL_law 255 = .ok (.lcmp, 1) := by decide +kernel
theorem dL_law_256 : decode cL_law 256 = .ok (.ifCond .eq 5, 3) := by decide +kernel
theorem dL_law_259 : decode cL_law 259 = .ok (.iconst 0, 1) := by decide +kernel
theorem dL_law_260 : decode cL_law 260 = .ok (.ireturn, 1) := by decide +kernel
theorem dL_law_261 : decode cL_law 261 = .ok (.goto 1335, 3) := by decide +kernel
theorem dL_law_264 : decode cL_law 264 = .ok (.aload_n 1, 1) := by decide +kernel
theorem dL_law_265 : decode cL_law 265 = .ok (.aload_n 0, 1) := by decide +kernel
theorem dL_law_266 : decode cL_law 266 = .ok (.iload 4, 2) := by decide +kernel
theorem dL_law_268 : decode cL_law 268 = .ok (.iconst 1, 1) := by decide +kernel
theorem dL_law_269 : decode cL_law 269 = .ok (.iadd, 1) := by decide +kernel
theorem dL_law_270 : decode cL_law 270 = .ok (.iaload, 1) := by decide +kernel
theorem dL_law_271 : decode cL_law 271 = .ok (.aload_n 0, 1) := by decide +kernel
theorem dL_law_272 : decode cL_law 272 = .ok (.iload 4, 2) := by decide +kernel
theorem dL_law_274 : decode cL_law 274 = .ok (.iconst 2, 1) := by decide +kernel
theorem dL_law_275 : decode cL_law 275 = .ok (.iadd, 1) := by decide +kernel
theorem dL_law_276 : decode cL_law 276 = .ok (.iaload, 1) := by decide +kernel
theorem dL_law_277 : decode cL_law 277 = .ok (.aload_n 0, 1) := by decide +kernel
theorem dL_law_278 : decode cL_law 278 = .ok (.iload 4, 2) := by decide +kernel
theorem dL_law_280 : decode cL_law 280 = .ok (.iconst 3, 1) := by decide +kernel
theorem dL_law_281 : decode cL_law 281 = .ok (.iadd, 1) := by decide +kernel
theorem dL_law_282 : decode cL_law 282 = .ok (.iaload, 1) := by decide +kernel
theorem dL_law_283 : decode cL_law 283 = .ok (.aload_n 0, 1) := by decide +kernel
theorem dL_law_284 : decode cL_law 284 = .ok (.iload 4, 2) := by decide +kernel
theorem dL_law_286 : decode cL_law 286 = .ok (.iconst 4, 1) := by decide +kernel
theorem dL_law_287 : decode cL_law 287 = .ok (.iadd, 1) := by decide +kernel
theorem dL_law_288 : decode cL_law 288 = .ok (.iaload, 1) := by decide +kernel
theorem dL_law_289 : decode cL_law 289 = .ok (.aload_n 3, 1) := by decide +kernel
theorem dL_law_290 : decode cL_law 290 = .ok (.invokestatic 102, 3) := by decide +kernel
theorem dL_law_293 : decode cL_law 293 = .ok (.istore 5, 2) := by decide +kernel
theorem dL_law_295 : decode cL_law 295 = .ok (.aload_n 2, 1) := by decide +kernel
theorem dL_law_296 : decode cL_law 296 = .ok (.aload_n 0, 1) := by decide +kernel
theorem dL_law_297 : decode cL_law 297 = .ok (.iload 4, 2) := by decide +kernel
theorem dL_law_299 : decode cL_law 299 = .ok (.iconst 1, 1) := by decide +kernel
theorem dL_law_300 : decode cL_law 300 = .ok (.iadd, 1) := by decide +kernel
theorem dL_law_301 : decode cL_law 301 = .ok (.iaload, 1) := by decide +kernel
theorem dL_law_302 : decode cL_law 302 = .ok (.aload_n 0, 1) := by decide +kernel
theorem dL_law_303 : decode cL_law 303 = .ok (.iload 4, 2) := by decide +kernel
theorem dL_law_305 : decode cL_law 305 = .ok (.iconst 2, 1) := by decide +kernel
theorem dL_law_306 : decode cL_law 306 = .ok (.iadd, 1) := by decide +kernel
theorem dL_law_307 : decode cL_law 307 = .ok (.iaload, 1) := by decide +kernel
theorem dL_law_308 : decode cL_law 308 = .ok (.aload_n 0, 1) := by decide +kernel
theorem dL_law_309 : decode cL_law 309 = .ok (.iload 4, 2) := by decide +kernel
theorem dL_law_311 : decode cL_law 311 = .ok (.iconst 3, 1) := by decide +kernel
theorem dL_law_312 : decode cL_law 312 = .ok (.iadd, 1) := by decide +kernel
theorem dL_law_313 : decode cL_law 313 = .ok (.iaload, 1) := by decide +kernel
theorem dL_law_314 : decode cL_law 314 = .ok (.aload_n 0, 1) := by decide +kernel
theorem dL_law_315 : decode cL_law 315 = .ok (.iload 4, 2) := by decide +kernel
theorem dL_law_317 : decode cL_law 317 = .ok (.iconst 4, 1) := by decide +kernel
theorem dL_law_318 : decode cL_law 318 = .ok (.iadd, 1) := by decide +kernel
theorem dL_law_319 : decode cL_law 319 = .ok (.iaload, 1) := by decide +kernel
theorem dL_law_320 : decode cL_law 320 = .ok (.invokevirtual 105, 3) := by decide +kernel
theorem dL_law_323 : decode cL_law 323 = .ok (.istore 6, 2) := by decide +kernel
theorem dL_law_325 : decode cL_law 325 = .ok (.aload_n 2, 1) := by decide +kernel
theorem dL_law_326 : decode cL_law 326 = .ok (.invokevirtual 94, 3) := by decide +kernel
theorem dL_law_329 : decode cL_law 329 = .ok (.iload 5, 2) := by decide +kernel
theorem dL_law_331 : decode cL_law 331 = .ok (.if_icmp .eq 5, 3) := by decide +kernel
theorem dL_law_334 : decode cL_law 334 = .ok (.iconst 0, 1) := by decide +kernel
theorem dL_law_335 : decode cL_law 335 = .ok (.ireturn, 1) := by decide +kernel
theorem dL_law_336 : decode cL_law 336 = .ok (.iload 5, 2) := by decide +kernel
theorem dL_law_338 : decode cL_law 338 = .ok (.ifCond .ne 15, 3) := by decide +kernel
theorem dL_law_341 : decode cL_law 341 = .ok (.aload_n 3, 1) := by decide +kernel
theorem dL_law_342 : decode cL_law 342 = .ok (.iconst 0, 1) := by decide +kernel
theorem dL_law_343 : decode cL_law 343 = .ok (.laload, 1) := by decide +kernel
theorem dL_law_344 : decode cL_law 344 = .ok (.iload 6, 2) := by decide +kernel
theorem dL_law_346 : decode cL_law 346 = .ok (.i2l, 1) := by decide +kernel
theorem dL_law_347 : decode cL_law 347 = .ok (.lcmp, 1) := by decide +kernel
theorem dL_law_348 : decode cL_law 348 = .ok (.ifCond .eq 5, 3) := by decide +kernel
theorem dL_law_351 : decode cL_law 351 = .ok (.iconst 0, 1) := by decide +kernel
theorem dL_law_352 : decode cL_law 352 = .ok (.ireturn, 1) := by decide +kernel
theorem dL_law_353 : decode cL_law 353 = .ok (.goto 1243, 3) := by decide +kernel
theorem dL_law_356 : decode cL_law 356 = .ok (.aload_n 1, 1) := by decide +kernel
theorem dL_law_357 : decode cL_law 357 = .ok (.aload_n 0, 1) := by decide +kernel
theorem dL_law_358 : decode cL_law 358 = .ok (.iload 4, 2) := by decide +kernel
theorem dL_law_360 : decode cL_law 360 = .ok (.iconst 1, 1) := by decide +kernel
theorem dL_law_361 : decode cL_law 361 = .ok (.iadd, 1) := by decide +kernel
theorem dL_law_362 : decode cL_law 362 = .ok (.iaload, 1) := by decide +kernel
theorem dL_law_363 : decode cL_law 363 = .ok (.aload_n 0, 1) := by decide +kernel
theorem dL_law_364 : decode cL_law 364 = .ok (.iload 4, 2) := by decide +kernel
theorem dL_law_366 : decode cL_law 366 = .ok (.iconst 2, 1) := by decide +kernel
theorem dL_law_367 : decode cL_law 367 = .ok (.iadd, 1) := by decide +kernel
theorem dL_law_368 : decode cL_law 368 = .ok (.iaload, 1) := by decide +kernel
theorem dL_law_369 : decode cL_law 369 = .ok (.aload_n 0, 1) := by decide +kernel
theorem dL_law_370 : decode cL_law 370 = .ok (.iload 4, 2) := by decide +kernel
theorem dL_law_372 : decode cL_law 372 = .ok (.iconst 3, 1) := by decide +kernel
theorem dL_law_373 : decode cL_law 373 = .ok (.iadd, 1) := by decide +kernel
theorem dL_law_374 : decode cL_law 374 = .ok (.iaload, 1) := by decide +kernel
theorem dL_law_375 : decode cL_law 375 = .ok (.aload_n 3, 1) := by decide +kernel
theorem dL_law_376 : decode cL_law 376 = .ok (.invokestatic 106, 3) := by decide +kernel
theorem dL_law_379 : decode cL_law 379 = .ok (.istore 5, 2) := by decide +kernel
theorem dL_law_381 : decode cL_law 381 = .ok (.aload_n 2, 1) := by decide +kernel
theorem dL_law_382 : decode cL_law 382 = .ok (.aload_n 0, 1) := by decide +kernel
theorem dL_law_383 : decode cL_law 383 = .ok (.iload 4, 2) := by decide +kernel
theorem dL_law_385 : decode cL_law 385 = .ok (.iconst 1, 1) := by decide +kernel
theorem dL_law_386 : decode cL_law 386 = .ok (.iadd, 1) := by decide +kernel
theorem dL_law_387 : decode cL_law 387 = .ok (.iaload, 1) := by decide +kernel
theorem dL_law_388 : decode cL_law 388 = .ok (.aload_n 0, 1) := by decide +kernel
theorem dL_law_389 : decode cL_law 389 = .ok (.iload 4, 2) := by decide +kernel
theorem dL_law_391 : decode cL_law 391 = .ok (.iconst 2, 1) := by decide +kernel
theorem dL_law_392 : decode cL_law 392 = .ok (.iadd, 1) := by decide +kernel
theorem dL_law_393 : decode cL_law 393 = .ok (.iaload, 1) := by decide +kernel
theorem dL_law_394 : decode cL_law 394 = .ok (.aload_n 0, 1) := by decide +kernel
theorem dL_law_395 : decode cL_law 395 = .ok (.iload 4, 2) := by decide +kernel
theorem dL_law_397 : decode cL_law 397 = .ok (.iconst 3, 1) := by decide +kernel
theorem dL_law_398 : decode cL_law 398 = .ok (.iadd, 1) := by decide +kernel
theorem dL_law_399 : decode cL_law 399 = .ok (.iaload, 1) := by decide +kernel
theorem dL_law_400 : decode cL_law 400 = .ok (.invokevirtual 109, 3) := by decide +kernel
theorem dL_law_403 : decode cL_law 403 = .ok (.istore 6, 2) := by decide +kernel
theorem dL_law_405 : decode cL_law 405 = .ok (.aload_n 2, 1) := by decide +kernel
theorem dL_law_406 : decode cL_law 406 = .ok (.invokevirtual 94, 3) := by decide +kernel
theorem dL_law_409 : decode cL_law 409 = .ok (.iload 5, 2) := by decide +kernel
theorem dL_law_411 : decode cL_law 411 = .ok (.if_icmp .eq 5, 3) := by decide +kernel
theorem dL_law_414 : decode cL_law 414 = .ok (.iconst 0, 1) := by decide +kernel
theorem dL_law_415 : decode cL_law 415 = .ok (.ireturn, 1) := by decide +kernel
theorem dL_law_416 : decode cL_law 416 = .ok (.iload 5, 2) := by decide +kernel
theorem dL_law_418 : decode cL_law 418 = .ok (.ifCond .ne 15, 3) := by decide +kernel
theorem dL_law_421 : decode cL_law 421 = .ok (.aload_n 3, 1) := by decide +kernel
theorem dL_law_422 : decode cL_law 422 = .ok (.iconst 0, 1) := by decide +kernel
theorem dL_law_423 : decode cL_law 423 = .ok (.laload, 1) := by decide +kernel
theorem dL_law_424 : decode cL_law 424 = .ok (.iload 6, 2) := by decide +kernel
theorem dL_law_426 : decode cL_law 426 = .ok (.i2l, 1) := by decide +kernel
theorem dL_law_427 : decode cL_law 427 = .ok (.lcmp, 1) := by decide +kernel
theorem dL_law_428 : decode cL_law 428 = .ok (.ifCond .eq 5, 3) := by decide +kernel
theorem dL_law_431 : decode cL_law 431 = .ok (.iconst 0, 1) := by decide +kernel
theorem dL_law_432 : decode cL_law 432 = .ok (.ireturn, 1) := by decide +kernel
theorem dL_law_433 : decode cL_law 433 = .ok (.goto 1163, 3) := by decide +kernel
theorem dL_law_436 : decode cL_law 436 = .ok (.aload_n 1, 1) := by decide +kernel
theorem dL_law_437 : decode cL_law 437 = .ok (.aload_n 0, 1) := by decide +kernel
theorem dL_law_438 : decode cL_law 438 = .ok (.iload 4, 2) := by decide +kernel
theorem dL_law_440 : decode cL_law 440 = .ok (.iconst 1, 1) := by decide +kernel
theorem dL_law_441 : decode cL_law 441 = .ok (.iadd, 1) := by decide +kernel
theorem dL_law_442 : decode cL_law 442 = .ok (.iaload, 1) := by decide +kernel
theorem dL_law_443 : decode cL_law 443 = .ok (.aload_n 0, 1) := by decide +kernel
theorem dL_law_444 : decode cL_law 444 = .ok (.iload 4, 2) := by decide +kernel
theorem dL_law_446 : decode cL_law 446 = .ok (.iconst 2, 1) := by decide +kernel
theorem dL_law_447 : decode cL_law 447 = .ok (.iadd, 1) := by decide +kernel
theorem dL_law_448 : decode cL_law 448 = .ok (.iaload, 1) := by decide +kernel
theorem dL_law_449 : decode cL_law 449 = .ok (.aload_n 3, 1) := by decide +kernel
theorem dL_law_450 : decode cL_law 450 = .ok (.invokestatic 110, 3) := by decide +kernel
theorem dL_law_453 : decode cL_law 453 = .ok (.istore 5, 2) := by decide +kernel
theorem dL_law_455 : decode cL_law 455 = .ok (.aload_n 2, 1) := by decide +kernel
theorem dL_law_456 : decode cL_law 456 = .ok (.aload_n 0, 1) := by decide +kernel
theorem dL_law_457 : decode cL_law 457 = .ok (.iload 4, 2) := by decide +kernel
theorem dL_law_459 : decode cL_law 459 = .ok (.iconst 1, 1) := by decide +kernel
theorem dL_law_460 : decode cL_law 460 = .ok (.iadd, 1) := by decide +kernel
theorem dL_law_461 : decode cL_law 461 = .ok (.iaload, 1) := by decide +kernel
theorem dL_law_462 : decode cL_law 462 = .ok (.aload_n 0, 1) := by decide +kernel
theorem dL_law_463 : decode cL_law 463 = .ok (.iload 4, 2) := by decide +kernel
theorem dL_law_465 : decode cL_law 465 = .ok (.iconst 2, 1) := by decide +kernel
theorem dL_law_466 : decode cL_law 466 = .ok (.iadd, 1) := by decide +kernel
theorem dL_law_467 : decode cL_law 467 = .ok (.iaload, 1) := by decide +kernel
theorem dL_law_468 : decode cL_law 468 = .ok (.invokevirtual 112, 3) := by decide +kernel
theorem dL_law_471 : decode cL_law 471 = .ok (.istore 6, 2) := by decide +kernel
theorem dL_law_473 : decode cL_law 473 = .ok (.aload_n 2, 1) := by decide +kernel
theorem dL_law_474 : decode cL_law 474 = .ok (.invokevirtual 94, 3) := by decide +kernel
theorem dL_law_477 : decode cL_law 477 = .ok (.iload 5, 2) := by decide +kernel
theorem dL_law_479 : decode cL_law 479 = .ok (.if_icmp .eq 5, 3) := by decide +kernel
theorem dL_law_482 : decode cL_law 482 = .ok (.iconst 0, 1) := by decide +kernel
theorem dL_law_483 : decode cL_law 483 = .ok (.ireturn, 1) := by decide +kernel
theorem dL_law_484 : decode cL_law 484 = .ok (.iload 5, 2) := by decide +kernel
theorem dL_law_486 : decode cL_law 486 = .ok (.ifCond .ne 15, 3) := by decide +kernel
theorem dL_law_489 : decode cL_law 489 = .ok (.aload_n 3, 1) := by decide +kernel
theorem dL_law_490 : decode cL_law 490 = .ok (.iconst 0, 1) := by decide +kernel
theorem dL_law_491 : decode cL_law 491 = .ok (.laload, 1) := by decide +kernel
theorem dL_law_492 : decode cL_law 492 = .ok (.iload 6, 2) := by decide +kernel
theorem dL_law_494 : decode cL_law 494 = .ok (.i2l, 1) := by decide +kernel
theorem dL_law_495 : decode cL_law 495 = .ok (.lcmp, 1) := by decide +kernel
theorem dL_law_496 : decode cL_law 496 = .ok (.ifCond .eq 5, 3) := by decide +kernel
theorem dL_law_499 : decode cL_law 499 = .ok (.iconst 0, 1) := by decide +kernel
theorem dL_law_500 : decode cL_law 500 = .ok (.ireturn, 1) := by decide +kernel
theorem dL_law_501 : decode cL_law 501 = .ok (.goto 1095, 3) := by decide +kernel
theorem dL_law_504 : decode cL_law 504 = .ok (.aload_n 1, 1) := by decide +kernel
theorem dL_law_505 : decode cL_law 505 = .ok (.aload_n 0, 1) := by decide +kernel
theorem dL_law_506 : decode cL_law 506 = .ok (.iload 4, 2) := by decide +kernel
theorem dL_law_508 : decode cL_law 508 = .ok (.iconst 1, 1) := by decide +kernel
theorem dL_law_509 : decode cL_law 509 = .ok (.iadd, 1) := by decide +kernel
theorem dL_law_510 : decode cL_law 510 = .ok (.iaload, 1) := by decide +kernel
theorem dL_law_511 : decode cL_law 511 = .ok (.aload_n 3, 1) := by decide +kernel
theorem dL_law_512 : decode cL_law 512 = .ok (.invokestatic 113, 3) := by decide +kernel
theorem dL_law_515 : decode cL_law 515 = .ok (.istore 5, 2) := by decide +kernel
theorem dL_law_517 : decode cL_law 517 = .ok (.aload_n 2, 1) := by decide +kernel
theorem dL_law_518 : decode cL_law 518 = .ok (.aload_n 0, 1) := by decide +kernel
theorem dL_law_519 : decode cL_law 519 = .ok (.iload 4, 2) := by decide +kernel
theorem dL_law_521 : decode cL_law 521 = .ok (.iconst 1, 1) := by decide +kernel
theorem dL_law_522 : decode cL_law 522 = .ok (.iadd, 1) := by decide +kernel
theorem dL_law_523 : decode cL_law 523 = .ok (.iaload, 1) := by decide +kernel
theorem dL_law_524 : decode cL_law 524 = .ok (.invokevirtual 115, 3) := by decide +kernel
theorem dL_law_527 : decode cL_law 527 = .ok (.istore 6, 2) := by decide +kernel
theorem dL_law_529 : decode cL_law 529 = .ok (.aload_n 2, 1) := by decide +kernel
theorem dL_law_530 : decode cL_law 530 = .ok (.invokevirtual 94, 3) := by decide +kernel
theorem dL_law_533 : decode cL_law 533 = .ok (.iload 5, 2) := by decide +kernel
theorem dL_law_535 : decode cL_law 535 = .ok (.if_icmp .eq 5, 3) := by decide +kernel
theorem dL_law_538 : decode cL_law 538 = .ok (.iconst 0, 1) := by decide +kernel
theorem dL_law_539 : decode cL_law 539 = .ok (.ireturn, 1) := by decide +kernel
theorem dL_law_540 : decode cL_law 540 = .ok (.iload 5, 2) := by decide +kernel
theorem dL_law_542 : decode cL_law 542 = .ok (.ifCond .ne 15, 3) := by decide +kernel
theorem dL_law_545 : decode cL_law 545 = .ok (.aload_n 3, 1) := by decide +kernel
theorem dL_law_546 : decode cL_law 546 = .ok (.iconst 0, 1) := by decide +kernel
theorem dL_law_547 : decode cL_law 547 = .ok (.laload, 1) := by decide +kernel
theorem dL_law_548 : decode cL_law 548 = .ok (.iload 6, 2) := by decide +kernel
theorem dL_law_550 : decode cL_law 550 = .ok (.i2l, 1) := by decide +kernel
theorem dL_law_551 : decode cL_law 551 = .ok (.lcmp, 1) := by decide +kernel
theorem dL_law_552 : decode cL_law 552 = .ok (.ifCond .eq 5, 3) := by decide +kernel
theorem dL_law_555 : decode cL_law 555 = .ok (.iconst 0, 1) := by decide +kernel
theorem dL_law_556 : decode cL_law 556 = .ok (.ireturn, 1) := by decide +kernel
theorem dL_law_557 : decode cL_law 557 = .ok (.goto 1039, 3) := by decide +kernel
theorem dL_law_560 : decode cL_law 560 = .ok (.aload_n 1, 1) := by decide +kernel
theorem dL_law_561 : decode cL_law 561 = .ok (.aload_n 0, 1) := by decide +kernel
theorem dL_law_562 : decode cL_law 562 = .ok (.iload 4, 2) := by decide +kernel
theorem dL_law_564 : decode cL_law 564 = .ok (.iconst 1, 1) := by decide +kernel
theorem dL_law_565 : decode cL_law 565 = .ok (.iadd, 1) := by decide +kernel
theorem dL_law_566 : decode cL_law 566 = .ok (.iaload, 1) := by decide +kernel
theorem dL_law_567 : decode cL_law 567 = .ok (.aload_n 3, 1) := by decide +kernel
theorem dL_law_568 : decode cL_law 568 = .ok (.invokestatic 116, 3) := by decide +kernel
theorem dL_law_571 : decode cL_law 571 = .ok (.istore 5, 2) := by decide +kernel
theorem dL_law_573 : decode cL_law 573 = .ok (.aload_n 2, 1) := by decide +kernel
theorem dL_law_574 : decode cL_law 574 = .ok (.aload_n 0, 1) := by decide +kernel
theorem dL_law_575 : decode cL_law 575 = .ok (.iload 4, 2) := by decide +kernel
theorem dL_law_577 : decode cL_law 577 = .ok (.iconst 1, 1) := by decide +kernel
theorem dL_law_578 : decode cL_law 578 = .ok (.iadd, 1) := by decide +kernel
theorem dL_law_579 : decode cL_law 579 = .ok (.iaload, 1) := by decide +kernel
theorem dL_law_580 : decode cL_law 580 = .ok (.invokevirtual 118, 3) := by decide +kernel
theorem dL_law_583 : decode cL_law 583 = .ok (.istore 6, 2) := by decide +kernel
theorem dL_law_585 : decode cL_law 585 = .ok (.aload_n 2, 1) := by decide +kernel
theorem dL_law_586 : decode cL_law 586 = .ok (.invokevirtual 94, 3) := by decide +kernel
theorem dL_law_589 : decode cL_law 589 = .ok (.iload 5, 2) := by decide +kernel
theorem dL_law_591 : decode cL_law 591 = .ok (.if_icmp .eq 5, 3) := by decide +kernel
theorem dL_law_594 : decode cL_law 594 = .ok (.iconst 0, 1) := by decide +kernel
theorem dL_law_595 : decode cL_law 595 = .ok (.ireturn, 1) := by decide +kernel
theorem dL_law_596 : decode cL_law 596 = .ok (.iload 5, 2) := by decide +kernel
theorem dL_law_598 : decode cL_law 598 = .ok (.ifCond .ne 15, 3) := by decide +kernel
theorem dL_law_601 : decode cL_law 601 = .ok (.aload_n 3, 1) := by decide +kernel
theorem dL_law_602 : decode cL_law 602 = .ok (.iconst 0, 1) := by decide +kernel
theorem dL_law_603 : decode cL_law 603 = .ok (.laload, 1) := by decide +kernel
theorem dL_law_604 : decode cL_law 604 = .ok (.iload 6, 2) := by decide +kernel
theorem dL_law_606 : decode cL_law 606 = .ok (.i2l, 1) := by decide +kernel
theorem dL_law_607 : decode cL_law 607 = .ok (.lcmp, 1) := by decide +kernel
theorem dL_law_608 : decode cL_law 608 = .ok (.ifCond .eq 5, 3) := by decide +kernel
theorem dL_law_611 : decode cL_law 611 = .ok (.iconst 0, 1) := by decide +kernel
theorem dL_law_612 : decode cL_law 612 = .ok (.ireturn, 1) := by decide +kernel
theorem dL_law_613 : decode cL_law 613 = .ok (.goto 983, 3) := by decide +kernel
theorem dL_law_616 : decode cL_law 616 = .ok (.aload_n 1, 1) := by decide +kernel
theorem dL_law_617 : decode cL_law 617 = .ok (.aload_n 0, 1) := by decide +kernel
theorem dL_law_618 : decode cL_law 618 = .ok (.iload 4, 2) := by decide +kernel
theorem dL_law_620 : decode cL_law 620 = .ok (.iconst 1, 1) := by decide +kernel
theorem dL_law_621 : decode cL_law 621 = .ok (.iadd, 1) := by decide +kernel
theorem dL_law_622 : decode cL_law 622 = .ok (.iaload, 1) := by decide +kernel
theorem dL_law_623 : decode cL_law 623 = .ok (.aload_n 3, 1) := by decide +kernel
theorem dL_law_624 : decode cL_law 624 = .ok (.invokestatic 119, 3) := by decide +kernel
theorem dL_law_627 : decode cL_law 627 = .ok (.istore 5, 2) := by decide +kernel
theorem dL_law_629 : decode cL_law 629 = .ok (.aload_n 2, 1) := by decide +kernel
theorem dL_law_630 : decode cL_law 630 = .ok (.aload_n 0, 1) := by decide +kernel
theorem dL_law_631 : decode cL_law 631 = .ok (.iload 4, 2) := by decide +kernel
theorem dL_law_633 : decode cL_law 633 = .ok (.iconst 1, 1) := by decide +kernel
theorem dL_law_634 : decode cL_law 634 = .ok (.iadd, 1) := by decide +kernel
theorem dL_law_635 : decode cL_law 635 = .ok (.iaload, 1) := by decide +kernel
theorem dL_law_636 : decode cL_law 636 = .ok (.invokevirtual 121, 3) := by decide +kernel
theorem dL_law_639 : decode cL_law 639 = .ok (.istore 6, 2) := by decide +kernel
theorem dL_law_641 : decode cL_law 641 = .ok (.aload_n 2, 1) := by decide +kernel
theorem dL_law_642 : decode cL_law 642 = .ok (.invokevirtual 94, 3) := by decide +kernel
theorem dL_law_645 : decode cL_law 645 = .ok (.iload 5, 2) := by decide +kernel
theorem dL_law_647 : decode cL_law 647 = .ok (.if_icmp .eq 5, 3) := by decide +kernel
theorem dL_law_650 : decode cL_law 650 = .ok (.iconst 0, 1) := by decide +kernel
theorem dL_law_651 : decode cL_law 651 = .ok (.ireturn, 1) := by decide +kernel
theorem dL_law_652 : decode cL_law 652 = .ok (.iload 5, 2) := by decide +kernel
theorem dL_law_654 : decode cL_law 654 = .ok (.ifCond .ne 15, 3) := by decide +kernel
theorem dL_law_657 : decode cL_law 657 = .ok (.aload_n 3, 1) := by decide +kernel
theorem dL_law_658 : decode cL_law 658 = .ok (.iconst 0, 1) := by decide +kernel
theorem dL_law_659 : decode cL_law 659 = .ok (.laload, 1) := by decide +kernel
theorem dL_law_660 : decode cL_law 660 = .ok (.iload 6, 2) := by decide +kernel
theorem dL_law_662 : decode cL_law 662 = .ok (.i2l, 1) := by decide +kernel
theorem dL_law_663 : decode cL_law 663 = .ok (.lcmp, 1) := by decide +kernel
theorem dL_law_664 : decode cL_law 664 = .ok (.ifCond .eq 5, 3) := by decide +kernel
theorem dL_law_667 : decode cL_law 667 = .ok (.iconst 0, 1) := by decide +kernel
theorem dL_law_668 : decode cL_law 668 = .ok (.ireturn, 1) := by decide +kernel
theorem dL_law_669 : decode cL_law 669 = .ok (.goto 927, 3) := by decide +kernel
theorem dL_law_672 : decode cL_law 672 = .ok (.aload_n 1, 1) := by decide +kernel
theorem dL_law_673 : decode cL_law 673 = .ok (.aload_n 0, 1) := by decide +kernel
theorem dL_law_674 : decode cL_law 674 = .ok (.iload 4, 2) := by decide +kernel
theorem dL_law_676 : decode cL_law 676 = .ok (.iconst 1, 1) := by decide +kernel
theorem dL_law_677 : decode cL_law 677 = .ok (.iadd, 1) := by decide +kernel
theorem dL_law_678 : decode cL_law 678 = .ok (.iaload, 1) := by decide +kernel
theorem dL_law_679 : decode cL_law 679 = .ok (.aload_n 0, 1) := by decide +kernel
theorem dL_law_680 : decode cL_law 680 = .ok (.iload 4, 2) := by decide +kernel
theorem dL_law_682 : decode cL_law 682 = .ok (.iconst 2, 1) := by decide +kernel
theorem dL_law_683 : decode cL_law 683 = .ok (.iadd, 1) := by decide +kernel
theorem dL_law_684 : decode cL_law 684 = .ok (.iaload, 1) := by decide +kernel
theorem dL_law_685 : decode cL_law 685 = .ok (.aload_n 0, 1) := by decide +kernel
theorem dL_law_686 : decode cL_law 686 = .ok (.iload 4, 2) := by decide +kernel
theorem dL_law_688 : decode cL_law 688 = .ok (.iconst 3, 1) := by decide +kernel
theorem dL_law_689 : decode cL_law 689 = .ok (.iadd, 1) := by decide +kernel
theorem dL_law_690 : decode cL_law 690 = .ok (.iaload, 1) := by decide +kernel
theorem dL_law_691 : decode cL_law 691 = .ok (.aload_n 3, 1) := by decide +kernel
theorem dL_law_692 : decode cL_law 692 = .ok (.invokestatic 122, 3) := by decide +kernel
theorem dL_law_695 : decode cL_law 695 = .ok (.istore 5, 2) := by decide +kernel
theorem dL_law_697 : decode cL_law 697 = .ok (.aload_n 2, 1) := by decide +kernel
theorem dL_law_698 : decode cL_law 698 = .ok (.aload_n 0, 1) := by decide +kernel
theorem dL_law_699 : decode cL_law 699 = .ok (.iload 4, 2) := by decide +kernel
theorem dL_law_701 : decode cL_law 701 = .ok (.iconst 1, 1) := by decide +kernel
theorem dL_law_702 : decode cL_law 702 = .ok (.iadd, 1) := by decide +kernel
theorem dL_law_703 : decode cL_law 703 = .ok (.iaload, 1) := by decide +kernel
theorem dL_law_704 : decode cL_law 704 = .ok (.aload_n 0, 1) := by decide +kernel
theorem dL_law_705 : decode cL_law 705 = .ok (.iload 4, 2) := by decide +kernel
theorem dL_law_707 : decode cL_law 707 = .ok (.iconst 2, 1) := by decide +kernel
theorem dL_law_708 : decode cL_law 708 = .ok (.iadd, 1) := by decide +kernel
theorem dL_law_709 : decode cL_law 709 = .ok (.iaload, 1) := by decide +kernel
theorem dL_law_710 : decode cL_law 710 = .ok (.aload_n 0, 1) := by decide +kernel
theorem dL_law_711 : decode cL_law 711 = .ok (.iload 4, 2) := by decide +kernel
theorem dL_law_713 : decode cL_law 713 = .ok (.iconst 3, 1) := by decide +kernel
end
section
theorem dL_law_714 : decode cL_law 714 = .ok (.iadd, 1) := by decide +kernel
theorem dL_law_715 : decode cL_law 715 = .ok (.iaload, 1) := by decide +kernel
theorem dL_law_716 : decode cL_law 716 = .ok (.invokevirtual 124, 3) := by decide +kernel
theorem dL_law_719 : decode cL_law 719 = .ok (.istore 6, 2) := by decide +kernel
theorem dL_law_721 : decode cL_law 721 = .ok (.aload_n 2, 1) := by decide +kernel
theorem dL_law_722 : decode cL_law 722 = .ok (.invokevirtual 94, 3) := by decide +kernel
theorem dL_law_725 : decode cL_law 725 = .ok (.iload 5, 2) := by decide +kernel
theorem dL_law_727 : decode cL_law 727 = .ok (.if_icmp .eq 5, 3) := by decide +kernel
theorem dL_law_730 : decode cL_law 730 = .ok (.iconst 0, 1) := by decide +kernel
theorem dL_law_731 : decode cL_law 731 = .ok (.ireturn, 1) := by decide +kernel
theorem dL_law_732 : decode cL_law 732 = .ok (.iload 5, 2) := by decide +kernel
theorem dL_law_734 : decode cL_law 734 = .ok (.ifCond .ne 15, 3) := by decide +kernel
theorem dL_law_737 : decode cL_law 737 = .ok (.aload_n 3, 1) := by decide +kernel
theorem dL_law_738 : decode cL_law 738 = .ok (.iconst 0, 1) := by decide +kernel
theorem dL_law_739 : decode cL_law 739 = .ok (.laload, 1) := by decide +kernel
theorem dL_law_740 : decode cL_law 740 = .ok (.iload 6, 2) := by decide +kernel
theorem dL_law_742 : decode cL_law 742 = .ok (.i2l, 1) := by decide +kernel
theorem dL_law_743 : decode cL_law 743 = .ok (.lcmp, 1) := by decide +kernel
theorem dL_law_744 : decode cL_law 744 = .ok (.ifCond .eq 5, 3) := by decide +kernel
theorem dL_law_747 : decode cL_law 747 = .ok (.iconst 0, 1) := by decide +kernel
theorem dL_law_748 : decode cL_law 748 = .ok (.ireturn, 1) := by decide +kernel
theorem dL_law_749 : decode cL_law 749 = .ok (.goto 847, 3) := by decide +kernel
theorem dL_law_752 : decode cL_law 752 = .ok (.aload_n 1, 1) := by decide +kernel
theorem dL_law_753 : decode cL_law 753 = .ok (.aload_n 0, 1) := by decide +kernel
theorem dL_law_754 : decode cL_law 754 = .ok (.iload 4, 2) := by decide +kernel
theorem dL_law_756 : decode cL_law 756 = .ok (.iconst 1, 1) := by decide +kernel
theorem dL_law_757 : decode cL_law 757 = .ok (.iadd, 1) := by decide +kernel
theorem dL_law_758 : decode cL_law 758 = .ok (.iaload, 1) := by decide +kernel
theorem dL_law_759 : decode cL_law 759 = .ok (.aload_n 0, 1) := by decide +kernel
theorem dL_law_760 : decode cL_law 760 = .ok (.iload 4, 2) := by decide +kernel
theorem dL_law_762 : decode cL_law 762 = .ok (.iconst 2, 1) := by decide +kernel
theorem dL_law_763 : decode cL_law 763 = .ok (.iadd, 1) := by decide +kernel
theorem dL_law_764 : decode cL_law 764 = .ok (.iaload, 1) := by decide +kernel
theorem dL_law_765 : decode cL_law 765 = .ok (.ifCond .eq 7, 3) := by decide +kernel
theorem dL_law_768 : decode cL_law 768 = .ok (.iconst 1, 1) := by decide +kernel
theorem dL_law_769 : decode cL_law 769 = .ok (.goto 4, 3) := by decide +kernel
theorem dL_law_772 : decode cL_law 772 = .ok (.iconst 0, 1) := by decide +kernel
theorem dL_law_773 : decode cL_law 773 = .ok (.aload_n 3, 1) := by decide +kernel
theorem dL_law_774 : decode cL_law 774 = .ok (.invokestatic 125, 3) := by decide +kernel
theorem dL_law_777 : decode cL_law 777 = .ok (.istore 5, 2) := by decide +kernel
theorem dL_law_779 : decode cL_law 779 = .ok (.aload_n 2, 1) := by decide +kernel
theorem dL_law_780 : decode cL_law 780 = .ok (.aload_n 0, 1) := by decide +kernel
theorem dL_law_781 : decode cL_law 781 = .ok (.iload 4, 2) := by decide +kernel
theorem dL_law_783 : decode cL_law 783 = .ok (.iconst 1, 1) := by decide +kernel
theorem dL_law_784 : decode cL_law 784 = .ok (.iadd, 1) := by decide +kernel
theorem dL_law_785 : decode cL_law 785 = .ok (.iaload, 1) := by decide +kernel
theorem dL_law_786 : decode cL_law 786 = .ok (.aload_n 0, 1) := by decide +kernel
theorem dL_law_787 : decode cL_law 787 = .ok (.iload 4, 2) := by decide +kernel
theorem dL_law_789 : decode cL_law 789 = .ok (.iconst 2, 1) := by decide +kernel
theorem dL_law_790 : decode cL_law 790 = .ok (.iadd, 1) := by decide +kernel
theorem dL_law_791 : decode cL_law 791 = .ok (.iaload, 1) := by decide +kernel
theorem dL_law_792 : decode cL_law 792 = .ok (.ifCond .eq 7, 3) := by decide +kernel
theorem dL_law_795 : decode cL_law 795 = .ok (.iconst 1, 1) := by decide +kernel
theorem dL_law_796 : decode cL_law 796 = .ok (.goto 4, 3) := by decide +kernel
theorem dL_law_799 : decode cL_law 799 = .ok (.iconst 0, 1) := by decide +kernel
theorem dL_law_800 : decode cL_law 800 = .ok (.invokevirtual 128, 3) := by decide +kernel
theorem dL_law_803 : decode cL_law 803 = .ok (.istore 6, 2) := by decide +kernel
theorem dL_law_805 : decode cL_law 805 = .ok (.aload_n 2, 1) := by decide +kernel
theorem dL_law_806 : decode cL_law 806 = .ok (.invokevirtual 94, 3) := by decide +kernel
theorem dL_law_809 : decode cL_law 809 = .ok (.iload 5, 2) := by decide +kernel
theorem dL_law_811 : decode cL_law 811 = .ok (.if_icmp .eq 5, 3) := by decide +kernel
theorem dL_law_814 : decode cL_law 814 = .ok (.iconst 0, 1) := by decide +kernel
theorem dL_law_815 : decode cL_law 815 = .ok (.ireturn, 1) := by decide +kernel
theorem dL_law_816 : decode cL_law 816 = .ok (.iload 5, 2) := by decide +kernel
theorem dL_law_818 : decode cL_law 818 = .ok (.ifCond .ne 22, 3) := by decide +kernel
theorem dL_law_821 : decode cL_law 821 = .ok (.aload_n 3, 1) := by decide +kernel
theorem dL_law_822 : decode cL_law 822 = .ok (.iconst 0, 1) := by decide +kernel
theorem dL_law_823 : decode cL_law 823 = .ok (.laload, 1) := by decide +kernel
theorem dL_law_824 : decode cL_law 824 = .ok (.iload 6, 2) := by decide +kernel
theorem dL_law_826 : decode cL_law 826 = .ok (.ifCond .eq 7, 3) := by decide +kernel
theorem dL_law_829 : decode cL_law 829 = .ok (.lconst 1, 1) := by decide +kernel
theorem dL_law_830 : decode cL_law 830 = .ok (.goto 4, 3) := by decide +kernel
theorem dL_law_833 : decode cL_law 833 = .ok (.lconst 0, 1) := by decide +kernel
theorem dL_law_834 : decode cL_law 834 = .ok (.lcmp, 1) := by decide +kernel
theorem dL_law_835 : decode cL_law 835 = .ok (.ifCond .eq 5, 3) := by decide +kernel
theorem dL_law_838 : decode cL_law 838 = .ok (.iconst 0, 1) := by decide +kernel
theorem dL_law_839 : decode cL_law 839 = .ok (.ireturn, 1) := by decide +kernel
theorem dL_law_840 : decode cL_law 840 = .ok (.goto 756, 3) := by decide +kernel
theorem dL_law_843 : decode cL_law 843 = .ok (.aload_n 1, 1) := by decide +kernel
theorem dL_law_844 : decode cL_law 844 = .ok (.aload_n 0, 1) := by decide +kernel
theorem dL_law_845 : decode cL_law 845 = .ok (.iload 4, 2) := by decide +kernel
theorem dL_law_847 : decode cL_law 847 = .ok (.iconst 1, 1) := by decide +kernel
theorem dL_law_848 : decode cL_law 848 = .ok (.iadd, 1) := by decide +kernel
theorem dL_law_849 : decode cL_law 849 = .ok (.iaload, 1) := by decide +kernel
theorem dL_law_850 : decode cL_law 850 = .ok (.aload_n 3, 1) := by decide +kernel
theorem dL_law_851 : decode cL_law 851 = .ok (.invokestatic 129, 3) := by decide +kernel
theorem dL_law_854 : decode cL_law 854 = .ok (.istore 5, 2) := by decide +kernel
theorem dL_law_856 : decode cL_law 856 = .ok (.aload_n 2, 1) := by decide +kernel
theorem dL_law_857 : decode cL_law 857 = .ok (.aload_n 0, 1) := by decide +kernel
theorem dL_law_858 : decode cL_law 858 = .ok (.iload 4, 2) := by decide +kernel
theorem dL_law_860 : decode cL_law 860 = .ok (.iconst 1, 1) := by decide +kernel
theorem dL_law_861 : decode cL_law 861 = .ok (.iadd, 1) := by decide +kernel
theorem dL_law_862 : decode cL_law 862 = .ok (.iaload, 1) := by decide +kernel
theorem dL_law_863 : decode cL_law 863 = .ok (.invokevirtual 131, 3) := by decide +kernel
theorem dL_law_866 : decode cL_law 866 = .ok (.istore 6, 2) := by decide +kernel
theorem dL_law_868 : decode cL_law 868 = .ok (.aload_n 2, 1) := by decide +kernel
theorem dL_law_869 : decode cL_law 869 = .ok (.invokevirtual 94, 3) := by decide +kernel
theorem dL_law_872 : decode cL_law 872 = .ok (.iload 5, 2) := by decide +kernel
theorem dL_law_874 : decode cL_law 874 = .ok (.if_icmp .eq 5, 3) := by decide +kernel
theorem dL_law_877 : decode cL_law 877 = .ok (.iconst 0, 1) := by decide +kernel
theorem dL_law_878 : decode cL_law 878 = .ok (.ireturn, 1) := by decide +kernel
theorem dL_law_879 : decode cL_law 879 = .ok (.iload 5, 2) := by decide +kernel
theorem dL_law_881 : decode cL_law 881 = .ok (.ifCond .ne 15, 3) := by decide +kernel
theorem dL_law_884 : decode cL_law 884 = .ok (.aload_n 3, 1) := by decide +kernel
theorem dL_law_885 : decode cL_law 885 = .ok (.iconst 0, 1) := by decide +kernel
theorem dL_law_886 : decode cL_law 886 = .ok (.laload, 1) := by decide +kernel
theorem dL_law_887 : decode cL_law 887 = .ok (.iload 6, 2) := by decide +kernel
theorem dL_law_889 : decode cL_law 889 = .ok (.i2l, 1) := by decide +kernel
theorem dL_law_890 : decode cL_law 890 = .ok (.lcmp, 1) := by decide +kernel
theorem dL_law_891 : decode cL_law 891 = .ok (.ifCond .eq 5, 3) := by decide +kernel
theorem dL_law_894 : decode cL_law 894 = .ok (.iconst 0, 1) := by decide +kernel
theorem dL_law_895 : decode cL_law 895 = .ok (.ireturn, 1) := by decide +kernel
theorem dL_law_896 : decode cL_law 896 = .ok (.goto 700, 3) := by decide +kernel
theorem dL_law_899 : decode cL_law 899 = .ok (.aload_n 1, 1) := by decide +kernel
theorem dL_law_900 : decode cL_law 900 = .ok (.aload_n 0, 1) := by decide +kernel
theorem dL_law_901 : decode cL_law 901 = .ok (.iload 4, 2) := by decide +kernel
theorem dL_law_903 : decode cL_law 903 = .ok (.iconst 1, 1) := by decide +kernel
theorem dL_law_904 : decode cL_law 904 = .ok (.iadd, 1) := by decide +kernel
theorem dL_law_905 : decode cL_law 905 = .ok (.iaload, 1) := by decide +kernel
theorem dL_law_906 : decode cL_law 906 = .ok (.aload_n 3, 1) := by decide +kernel
theorem dL_law_907 : decode cL_law 907 = .ok (.invokestatic 132, 3) := by decide +kernel
theorem dL_law_910 : decode cL_law 910 = .ok (.istore 5, 2) := by decide +kernel
theorem dL_law_912 : decode cL_law 912 = .ok (.aload_n 2, 1) := by decide +kernel
theorem dL_law_913 : decode cL_law 913 = .ok (.aload_n 0, 1) := by decide +kernel
theorem dL_law_914 : decode cL_law 914 = .ok (.iload 4, 2) := by decide +kernel
theorem dL_law_916 : decode cL_law 916 = .ok (.iconst 1, 1) := by decide +kernel
theorem dL_law_917 : decode cL_law 917 = .ok (.iadd, 1) := by decide +kernel
theorem dL_law_918 : decode cL_law 918 = .ok (.iaload, 1) := by decide +kernel
theorem dL_law_919 : decode cL_law 919 = .ok (.invokevirtual 134, 3) := by decide +kernel
theorem dL_law_922 : decode cL_law 922 = .ok (.istore 6, 2) := by decide +kernel
theorem dL_law_924 : decode cL_law 924 = .ok (.aload_n 2, 1) := by decide +kernel
theorem dL_law_925 : decode cL_law 925 = .ok (.invokevirtual 94, 3) := by decide +kernel
theorem dL_law_928 : decode cL_law 928 = .ok (.iload 5, 2) := by decide +kernel
theorem dL_law_930 : decode cL_law 930 = .ok (.if_icmp .eq 5, 3) := by decide +kernel
theorem dL_law_933 : decode cL_law 933 = .ok (.iconst 0, 1) := by decide +kernel
theorem dL_law_934 : decode cL_law 934 = .ok (.ireturn, 1) := by decide +kernel
theorem dL_law_935 : decode cL_law 935 = .ok (.iload 5, 2) := by decide +kernel
theorem dL_law_937 : decode cL_law 937 = .ok (.ifCond .ne 15, 3) := by decide +kernel
theorem dL_law_940 : decode cL_law 940 = .ok (.aload_n 3, 1) := by decide +kernel
theorem dL_law_941 : decode cL_law 941 = .ok (.iconst 0, 1) := by decide +kernel
theorem dL_law_942 : decode cL_law 942 = .ok (.laload, 1) := by decide +kernel
theorem dL_law_943 : decode cL_law 943 = .ok (.iload 6, 2) := by decide +kernel
theorem dL_law_945 : decode cL_law 945 = .ok (.i2l, 1) := by decide +kernel
theorem dL_law_946 : decode cL_law 946 = .ok (.lcmp, 1) := by decide +kernel
theorem dL_law_947 : decode cL_law 947 = .ok (.ifCond .eq 5, 3) := by decide +kernel
theorem dL_law_950 : decode cL_law 950 = .ok (.iconst 0, 1) := by decide +kernel
theorem dL_law_951 : decode cL_law 951 = .ok (.ireturn, 1) := by decide +kernel
theorem dL_law_952 : decode cL_law 952 = .ok (.goto 644, 3) := by decide +kernel
theorem dL_law_955 : decode cL_law 955 = .ok (.aload_n 1, 1) := by decide +kernel
theorem dL_law_956 : decode cL_law 956 = .ok (.aload_n 0, 1) := by decide +kernel
theorem dL_law_957 : decode cL_law 957 = .ok (.iload 4, 2) := by decide +kernel
theorem dL_law_959 : decode cL_law 959 = .ok (.iconst 1, 1) := by decide +kernel
theorem dL_law_960 : decode cL_law 960 = .ok (.iadd, 1) := by decide +kernel
theorem dL_law_961 : decode cL_law 961 = .ok (.iaload, 1) := by decide +kernel
theorem dL_law_962 : decode cL_law 962 = .ok (.aload_n 0, 1) := by decide +kernel
theorem dL_law_963 : decode cL_law 963 = .ok (.iload 4, 2) := by decide +kernel
theorem dL_law_965 : decode cL_law 965 = .ok (.iconst 2, 1) := by decide +kernel
theorem dL_law_966 : decode cL_law 966 = .ok (.iadd, 1) := by decide +kernel
theorem dL_law_967 : decode cL_law 967 = .ok (.iaload, 1) := by decide +kernel
theorem dL_law_968 : decode cL_law 968 = .ok (.aload_n 3, 1) := by decide +kernel
theorem dL_law_969 : decode cL_law 969 = .ok (.invokestatic 135, 3) := by decide +kernel
theorem dL_law_972 : decode cL_law 972 = .ok (.istore 5, 2) := by decide +kernel
theorem dL_law_974 : decode cL_law 974 = .ok (.aload_n 2, 1) := by decide +kernel
theorem dL_law_975 : decode cL_law 975 = .ok (.aload_n 0, 1) := by decide +kernel
theorem dL_law_976 : decode cL_law 976 = .ok (.iload 4, 2) := by decide +kernel
theorem dL_law_978 : decode cL_law 978 = .ok (.iconst 1, 1) := by decide +kernel
theorem dL_law_979 : decode cL_law 979 = .ok (.iadd, 1) := by decide +kernel
theorem dL_law_980 : decode cL_law 980 = .ok (.iaload, 1) := by decide +kernel
theorem dL_law_981 : decode cL_law 981 = .ok (.aload_n 0, 1) := by decide +kernel
theorem dL_law_982 : decode cL_law 982 = .ok (.iload 4, 2) := by decide +kernel
theorem dL_law_984 : decode cL_law 984 = .ok (.iconst 2, 1) := by decide +kernel
theorem dL_law_985 : decode cL_law 985 = .ok (.iadd, 1) := by decide +kernel
theorem dL_law_986 : decode cL_law 986 = .ok (.iaload, 1) := by decide +kernel
theorem dL_law_987 : decode cL_law 987 = .ok (.invokevirtual 137, 3) := by decide +kernel
theorem dL_law_990 : decode cL_law 990 = .ok (.istore 6, 2) := by decide +kernel
theorem dL_law_992 : decode cL_law 992 = .ok (.aload_n 2, 1) := by decide +kernel
theorem dL_law_993 : decode cL_law 993 = .ok (.invokevirtual 94, 3) := by decide +kernel
theorem dL_law_996 : decode cL_law 996 = .ok (.iload 5, 2) := by decide +kernel
theorem dL_law_998 : decode cL_law 998 = .ok (.if_icmp .eq 5, 3) := by decide +kernel
theorem dL_law_1001 : decode cL_law 1001 = .ok (.iconst 0, 1) := by decide +kernel
theorem dL_law_1002 : decode cL_law 1002 = .ok (.ireturn, 1) := by decide +kernel
theorem dL_law_1003 : decode cL_law 1003 = .ok (.iload 5, 2) := by decide +kernel
theorem dL_law_1005 : decode cL_law 1005 = .ok (.ifCond .ne 15, 3) := by decide +kernel
theorem dL_law_1008 : decode cL_law 1008 = .ok (.aload_n 3, 1) := by decide +kernel
theorem dL_law_1009 : decode cL_law 1009 = .ok (.iconst 0, 1) := by decide +kernel
theorem dL_law_1010 : decode cL_law 1010 = .ok (.laload, 1) := by decide +kernel
theorem dL_law_1011 : decode cL_law 1011 = .ok (.iload 6, 2) := by decide +kernel
theorem dL_law_1013 : decode cL_law 1013 = .ok (.i2l, 1) := by decide +kernel
theorem dL_law_1014 : decode cL_law 1014 = .ok (.lcmp, 1) := by decide +kernel
theorem dL_law_1015 : decode cL_law 1015 = .ok (.ifCond .eq 5, 3) := by decide +kernel
theorem dL_law_1018 : decode cL_law 1018 = .ok (.iconst 0, 1) := by decide +kernel
theorem dL_law_1019 : decode cL_law 1019 = .ok (.ireturn, 1) := by decide +kernel
theorem dL_law_1020 : decode cL_law 1020 = .ok (.goto 576, 3) := by decide +kernel
theorem dL_law_1023 : decode cL_law 1023 = .ok (.aload_n 1, 1) := by decide +kernel
theorem dL_law_1024 : decode cL_law 1024 = .ok (.aload_n 0, 1) := by decide +kernel
theorem dL_law_1025 : decode cL_law 1025 = .ok (.iload 4, 2) := by decide +kernel
theorem dL_law_1027 : decode cL_law 1027 = .ok (.iconst 1, 1) := by decide +kernel
theorem dL_law_1028 : decode cL_law 1028 = .ok (.iadd, 1) := by decide +kernel
theorem dL_law_1029 : decode cL_law 1029 = .ok (.iaload, 1) := by decide +kernel
theorem dL_law_1030 : decode cL_law 1030 = .ok (.aload_n 0, 1) := by decide +kernel
theorem dL_law_1031 : decode cL_law 1031 = .ok (.iload 4, 2) := by decide +kernel
theorem dL_law_1033 : decode cL_law 1033 = .ok (.iconst 2, 1) := by decide +kernel
theorem dL_law_1034 : decode cL_law 1034 = .ok (.iadd, 1) := by decide +kernel
theorem dL_law_1035 : decode cL_law 1035 = .ok (.iaload, 1) := by decide +kernel
theorem dL_law_1036 : decode cL_law 1036 = .ok (.aload_n 0, 1) := by decide +kernel
theorem dL_law_1037 : decode cL_law 1037 = .ok (.iload 4, 2) := by decide +kernel
theorem dL_law_1039 : decode cL_law 1039 = .ok (.iconst 3, 1) := by decide +kernel
theorem dL_law_1040 : decode cL_law 1040 = .ok (.iadd, 1) := by decide +kernel
theorem dL_law_1041 : decode cL_law 1041 = .ok (.iaload, 1) := by decide +kernel
theorem dL_law_1042 : decode cL_law 1042 = .ok (.ifCond .eq 7, 3) := by decide +kernel
theorem dL_law_1045 : decode cL_law 1045 = .ok (.iconst 1, 1) := by decide +kernel
theorem dL_law_1046 : decode cL_law 1046 = .ok (.goto 4, 3) := by decide +kernel
theorem dL_law_1049 : decode cL_law 1049 = .ok (.iconst 0, 1) := by decide +kernel
theorem dL_law_1050 : decode cL_law 1050 = .ok (.aload_n 3, 1) := by decide +kernel
theorem dL_law_1051 : decode cL_law 1051 = .ok (.invokestatic 138, 3) := by decide +kernel
theorem dL_law_1054 : decode cL_law 1054 = .ok (.istore 5, 2) := by decide +kernel
theorem dL_law_1056 : decode cL_law 1056 = .ok (.aload_n 2, 1) := by decide +kernel
theorem dL_law_1057 : decode cL_law 1057 = .ok (.aload_n 0, 1) := by decide +kernel
theorem dL_law_1058 : decode cL_law 1058 = .ok (.iload 4, 2) := by decide +kernel
theorem dL_law_1060 : decode cL_law 1060 = .ok (.iconst 1, 1) := by decide +kernel
theorem dL_law_1061 : decode cL_law 1061 = .ok (.iadd, 1) := by decide +kernel
theorem dL_law_1062 : decode cL_law 1062 = .ok (.iaload, 1) := by decide +kernel
theorem dL_law_1063 : decode cL_law 1063 = .ok (.aload_n 0, 1) := by decide +kernel
theorem dL_law_1064 : decode cL_law 1064 = .ok (.iload 4, 2) := by decide +kernel
theorem dL_law_1066 : decode cL_law 1066 = .ok (.iconst 2, 1) := by decide +kernel
theorem dL_law_1067 : decode cL_law 1067 = .ok (.iadd, 1) := by decide +kernel
theorem dL_law_1068 : decode cL_law 1068 = .ok (.iaload, 1) := by decide +kernel
theorem dL_law_1069 : decode cL_law 1069 = .ok (.aload_n 0, 1) := by decide +kernel
theorem dL_law_1070 : decode cL_law 1070 = .ok (.iload 4, 2) := by decide +kernel
theorem dL_law_1072 : decode cL_law 1072 = .ok (.iconst 3, 1) := by decide +kernel
theorem dL_law_1073 : decode cL_law 1073 = .ok (.iadd, 1) := by decide +kernel
theorem dL_law_1074 : decode cL_law 1074 = .ok (.iaload, 1) := by decide +kernel
theorem dL_law_1075 : decode cL_law 1075 = .ok (.ifCond .eq 7, 3) := by decide +kernel
theorem dL_law_1078 : decode cL_law 1078 = .ok (.iconst 1, 1) := by decide +kernel
theorem dL_law_1079 : decode cL_law 1079 = .ok (.goto 4, 3) := by decide +kernel
theorem dL_law_1082 : decode cL_law 1082 = .ok (.iconst 0, 1) := by decide +kernel
theorem dL_law_1083 : decode cL_law 1083 = .ok (.invokevirtual 141, 3) := by decide +kernel
theorem dL_law_1086 : decode cL_law 1086 = .ok (.istore 6, 2) := by decide +kernel
theorem dL_law_1088 : decode cL_law 1088 = .ok (.aload_n 2, 1) := by decide +kernel
theorem dL_law_1089 : decode cL_law 1089 = .ok (.invokevirtual 94, 3) := by decide +kernel
theorem dL_law_1092 : decode cL_law 1092 = .ok (.iload 5, 2) := by decide +kernel
theorem dL_law_1094 : decode cL_law 1094 = .ok (.if_icmp .eq 5, 3) := by decide +kernel
theorem dL_law_1097 : decode cL_law 1097 = .ok (.iconst 0, 1) := by decide +kernel
theorem dL_law_1098 : decode cL_law 1098 = .ok (.ireturn, 1) := by decide +kernel
theorem dL_law_1099 : decode cL_law 1099 = .ok (.iload 5, 2) := by decide +kernel
theorem dL_law_1101 : decode cL_law 1101 = .ok (.ifCond .ne 15, 3) := by decide +kernel
theorem dL_law_1104 : decode cL_law 1104 = .ok (.aload_n 3, 1) := by decide +kernel
theorem dL_law_1105 : decode cL_law 1105 = .ok (.iconst 0, 1) := by decide +kernel
theorem dL_law_1106 : decode cL_law 1106 = .ok (.laload, 1) := by decide +kernel
theorem dL_law_1107 : decode cL_law 1107 = .ok (.iload 6, 2) := by decide +kernel
theorem dL_law_1109 : decode cL_law 1109 = .ok (.i2l, 1) := by decide +kernel
theorem dL_law_1110 : decode cL_law 1110 = .ok (.lcmp, 1) := by decide +kernel
theorem dL_law_1111 : decode cL_law 1111 = .ok (.ifCond .eq 5, 3) := by decide +kernel
theorem dL_law_1114 : decode cL_law 1114 = .ok (.iconst 0, 1) := by decide +kernel
theorem dL_law_1115 : decode cL_law 1115 = .ok (.ireturn, 1) := by decide +kernel
theorem dL_law_1116 : decode cL_law 1116 = .ok (.goto 480, 3) := by decide +kernel
theorem dL_law_1119 : decode cL_law 1119 = .ok (.aload_n 1, 1) := by decide +kernel
theorem dL_law_1120 : decode cL_law 1120 = .ok (.aload_n 0, 1) := by decide +kernel
theorem dL_law_1121 : decode cL_law 1121 = .ok (.iload 4, 2) := by decide +kernel
theorem dL_law_1123 : decode cL_law 1123 = .ok (.iconst 1, 1) := by decide +kernel
theorem dL_law_1124 : decode cL_law 1124 = .ok (.iadd, 1) := by decide +kernel
theorem dL_law_1125 : decode cL_law 1125 = .ok (.iaload, 1) := by decide +kernel
theorem dL_law_1126 : decode cL_law 1126 = .ok (.aload_n 0, 1) := by decide +kernel
theorem dL_law_1127 : decode cL_law 1127 = .ok (.iload 4, 2) := by decide +kernel
theorem dL_law_1129 : decode cL_law 1129 = .ok (.iconst 2, 1) := by decide +kernel
theorem dL_law_1130 : decode cL_law 1130 = .ok (.iadd, 1) := by decide +kernel
theorem dL_law_1131 : decode cL_law 1131 = .ok (.iaload, 1) := by decide +kernel
theorem dL_law_1132 : decode cL_law 1132 = .ok (.aload_n 3, 1) := by decide +kernel
theorem dL_law_1133 : decode cL_law 1133 = .ok (.invokestatic 142, 3) := by decide +kernel
theorem dL_law_1136 : decode cL_law 1136 = .ok (.istore 5, 2) := by decide +kernel
theorem dL_law_1138 : decode cL_law 1138 = .ok (.aload_n 2, 1) := by decide +kernel
theorem dL_law_1139 : decode cL_law 1139 = .ok (.aload_n 0, 1) := by decide +kernel
theorem dL_law_1140 : decode cL_law 1140 = .ok (.iload 4, 2) := by decide +kernel
theorem dL_law_1142 : decode cL_law 1142 = .ok (.iconst 1, 1) := by decide +kernel
theorem dL_law_1143 : decode cL_law 1143 = .ok (.iadd, 1) := by decide +kernel
theorem dL_law_1144 : decode cL_law 1144 = .ok (.iaload, 1) := by decide +kernel
theorem dL_law_1145 : decode cL_law 1145 = .ok (.aload_n 0, 1) := by decide +kernel
theorem dL_law_1146 : decode cL_law 1146 = .ok (.iload 4, 2) := by decide +kernel
theorem dL_law_1148 : decode cL_law 1148 = .ok (.iconst 2, 1) := by decide +kernel
theorem dL_law_1149 : decode cL_law 1149 = .ok (.iadd, 1) := by decide +kernel
theorem dL_law_1150 : decode cL_law 1150 = .ok (.iaload, 1) := by decide +kernel
theorem dL_law_1151 : decode cL_law 1151 = .ok (.invokevirtual 144, 3) := by decide +kernel
theorem dL_law_1154 : decode cL_law 1154 = .ok (.istore 6, 2) := by decide +kernel
theorem dL_law_1156 : decode cL_law 1156 = .ok (.aload_n 2, 1) := by decide +kernel
theorem dL_law_1157 : decode cL_law 1157 = .ok (.invokevirtual 94, 3) := by decide +kernel
theorem dL_law_1160 : decode cL_law 1160 = .ok (.iload 5, 2) := by decide +kernel
theorem dL_law_1162 : decode cL_law 1162 = .ok (.if_icmp .eq 5, 3) := by decide +kernel
theorem dL_law_1165 : decode cL_law 1165 = .ok (.iconst 0, 1) := by decide +kernel
theorem dL_law_1166 : decode cL_law 1166 = .ok (.ireturn, 1) := by decide +kernel
theorem dL_law_1167 : decode cL_law 1167 = .ok (.iload 5, 2) := by decide +kernel
theorem dL_law_1169 : decode cL_law 1169 = .ok (.ifCond .ne 15, 3) := by decide +kernel
theorem dL_law_1172 : decode cL_law 1172 = .ok (.aload_n 3, 1) := by decide +kernel
theorem dL_law_1173 : decode cL_law 1173 = .ok (.iconst 0, 1) := by decide +kernel
theorem dL_law_1174 : decode cL_law 1174 = .ok (.laload, 1) := by decide +kernel
theorem dL_law_1175 : decode cL_law 1175 = .ok (.iload 6, 2) := by decide +kernel
theorem dL_law_1177 : decode cL_law 1177 = .ok (.i2l, 1) := by decide +kernel
theorem dL_law_1178 : decode cL_law 1178 = .ok (.lcmp, 1) := by decide +kernel
theorem dL_law_1179 : decode cL_law 1179 = .ok (.ifCond .eq 5, 3) := by decide +kernel
theorem dL_law_1182 : decode cL_law 1182 = .ok (.iconst 0, 1) := by decide +kernel
theorem dL_law_1183 : decode cL_law 1183 = .ok (.ireturn, 1) := by decide +kernel
theorem dL_law_1184 : decode cL_law 1184 = .ok (.goto 412, 3) := by decide +kernel
theorem dL_law_1187 : decode cL_law 1187 = .ok (.aload_n 1, 1) := by decide +kernel
theorem dL_law_1188 : decode cL_law 1188 = .ok (.aload_n 0, 1) := by decide +kernel
theorem dL_law_1189 : decode cL_law 1189 = .ok (.iload 4, 2) := by decide +kernel
theorem dL_law_1191 : decode cL_law 1191 = .ok (.iconst 1, 1) := by decide +kernel
theorem dL_law_1192 : decode cL_law 1192 = .ok (.iadd, 1) := by decide +kernel
theorem dL_law_1193 : decode cL_law 1193 = .ok (.iaload, 1) := by decide +kernel
theorem dL_law_1194 : decode cL_law 1194 = .ok (.aload_n 3, 1) := by decide +kernel
theorem dL_law_1195 : decode cL_law 1195 = .ok (.invokestatic 145, 3) := by decide +kernel
theorem dL_law_1198 : decode cL_law 1198 = .ok (.istore 5, 2) := by decide +kernel
theorem dL_law_1200 : decode cL_law 1200 = .ok (.aload_n 2, 1) := by decide +kernel
theorem dL_law_1201 : decode cL_law 1201 = .ok (.aload_n 0, 1) := by decide +kernel
theorem dL_law_1202 : decode cL_law 1202 = .ok (.iload 4, 2) := by decide +kernel
theorem dL_law_1204 : decode cL_law 1204 = .ok (.iconst 1, 1) := by decide +kernel
theorem dL_law_1205 : decode cL_law 1205 = .ok (.iadd, 1) := by decide +kernel
theorem dL_law_1206 : decode cL_law 1206 = .ok (.iaload, 1) := by decide +kernel
theorem dL_law_1207 : decode cL_law 1207 = .ok (.invokevirtual 147, 3) := by decide +kernel
theorem dL_law_1210 : decode cL_law 1210 = .ok (.istore 6, 2) := by decide +kernel
theorem dL_law_1212 : decode cL_law 1212 = .ok (.aload_n 2, 1) := by decide +kernel
theorem dL_law_1213 : decode cL_law 1213 = .ok (.invokevirtual 94, 3) := by decide +kernel
theorem dL_law_1216 : decode cL_law 1216 = .ok (.iload 5, 2) := by decide +kernel
theorem dL_law_1218 : decode cL_law 1218 = .ok (.if_icmp .eq 5, 3) := by decide +kernel
theorem dL_law_1221 : decode cL_law 1221 = .ok (.iconst 0, 1) := by decide +kernel
theorem dL_law_1222 : decode cL_law 1222 = .ok (.ireturn, 1) := by decide +kernel
theorem dL_law_1223 : decode cL_law 1223 = .ok (.iload 5, 2) := by decide +kernel
theorem dL_law_1225 : decode cL_law 1225 = .ok (.ifCond .ne 15, 3) := by decide +kernel
theorem dL_law_1228 : decode cL_law 1228 = .ok (.aload_n 3, 1) := by decide +kernel
theorem dL_law_1229 : decode cL_law 1229 = .ok (.iconst 0, 1) := by decide +kernel
theorem dL_law_1230 : decode cL_law 1230 = .ok (.laload, 1) := by decide +kernel
theorem dL_law_1231 : decode cL_law 1231 = .ok (.iload 6, 2) := by decide +kernel
theorem dL_law_1233 : decode cL_law 1233 = .ok (.i2l, 1) := by decide +kernel
theorem dL_law_1234 : decode cL_law 1234 = .ok (.lcmp, 1) := by decide +kernel
theorem dL_law_1235 : decode cL_law 1235 = .ok (.ifCond .eq 5, 3) := by decide +kernel
theorem dL_law_1238 : decode cL_law 1238 = .ok (.iconst 0, 1) := by decide +kernel
theorem dL_law_1239 : decode cL_law 1239 = .ok (.ireturn, 1) := by decide +kernel
theorem dL_law_1240 : decode cL_law 1240 = .ok (.goto 356, 3) := by decide +kernel
theorem dL_law_1243 : decode cL_law 1243 = .ok (.aload_n 1, 1) := by decide +kernel
theorem dL_law_1244 : decode cL_law 1244 = .ok (.aload_n 0, 1) := by decide +kernel
theorem dL_law_1245 : decode cL_law 1245 = .ok (.iload 4, 2) := by decide +kernel
theorem dL_law_1247 : decode cL_law 1247 = .ok (.iconst 1, 1) := by decide +kernel
theorem dL_law_1248 : decode cL_law 1248 = .ok (.iadd, 1) := by decide +kernel
theorem dL_law_1249 : decode cL_law 1249 = .ok (.iaload, 1) := by decide +kernel
theorem dL_law_1250 : decode cL_law 1250 = .ok (.aload_n 3, 1) := by decide +kernel
theorem dL_law_1251 : decode cL_law 1251 = .ok (.invokestatic 148, 3) := by decide +kernel
theorem dL_law_1254 : decode cL_law 1254 = .ok (.istore 5, 2) := by decide +kernel
theorem dL_law_1256 : decode cL_law 1256 = .ok (.aload_n 2, 1) := by decide +kernel
theorem dL_law_1257 : decode cL_law 1257 = .ok (.aload_n 0, 1) := by decide +kernel
theorem dL_law_1258 : decode cL_law 1258 = .ok (.iload 4, 2) := by decide +kernel
theorem dL_law_1260 : decode cL_law 1260 = .ok (.iconst 1, 1) := by decide +kernel
theorem dL_law_1261 : decode cL_law 1261 = .ok (.iadd, 1) := by decide +kernel
theorem dL_law_1262 : decode cL_law 1262 = .ok (.iaload, 1) := by decide +kernel
theorem dL_law_1263 : decode cL_law 1263 = .ok (.invokevirtual 150, 3) := by decide +kernel
theorem dL_law_1266 : decode cL_law 1266 = .ok (.istore 6, 2) := by decide +kernel
theorem dL_law_1268 : decode cL_law 1268 = .ok (.aload_n 2, 1) := by decide +kernel
theorem dL_law_1269 : decode cL_law 1269 = .ok (.invokevirtual 94, 3) := by decide +kernel
theorem dL_law_1272 : decode cL_law 1272 = .ok (.iload 5, 2) := by decide +kernel
theorem dL_law_1274 : decode cL_law 1274 = .ok (.if_icmp .eq 5, 3) := by decide +kernel
theorem dL_law_1277 : decode cL_law 1277 = .ok (.iconst 0, 1) := by decide +kernel
theorem dL_law_1278 : decode cL_law 1278 = .ok (.ireturn, 1) := by decide +kernel
theorem dL_law_1279 : decode cL_law 1279 = .ok (.iload 5, 2) := by decide +kernel
theorem dL_law_1281 : decode cL_law 1281 = .ok (.ifCond .ne 15, 3) := by decide +kernel
theorem dL_law_1284 : decode cL_law 1284 = .ok (.aload_n 3, 1) := by decide +kernel
theorem dL_law_1285 : decode cL_law 1285 = .ok (.iconst 0, 1) := by decide +kernel
theorem dL_law_1286 : decode cL_law 1286 = .ok (.laload, 1) := by decide +kernel
theorem dL_law_1287 : decode cL_law 1287 = .ok (.iload 6, 2) := by decide +kernel
theorem dL_law_1289 : decode cL_law 1289 = .ok (.i2l, 1) := by decide +kernel
theorem dL_law_1290 : decode cL_law 1290 = .ok (.lcmp, 1) := by decide +kernel
theorem dL_law_1291 : decode cL_law 1291 = .ok (.ifCond .eq 5, 3) := by decide +kernel
theorem dL_law_1294 : decode cL_law 1294 = .ok (.iconst 0, 1) := by decide +kernel
theorem dL_law_1295 : decode cL_law 1295 = .ok (.ireturn, 1) := by decide +kernel
theorem dL_law_1296 : decode cL_law 1296 = .ok (.goto 300, 3) := by decide +kernel
theorem dL_law_1299 : decode cL_law 1299 = .ok (.aload_n 1, 1) := by decide +kernel
theorem dL_law_1300 : decode cL_law 1300 = .ok (.aload_n 0, 1) := by decide +kernel
theorem dL_law_1301 : decode cL_law 1301 = .ok (.iload 4, 2) := by decide +kernel
theorem dL_law_1303 : decode cL_law 1303 = .ok (.iconst 1, 1) := by decide +kernel
theorem dL_law_1304 : decode cL_law 1304 = .ok (.iadd, 1) := by decide +kernel
theorem dL_law_1305 : decode cL_law 1305 = .ok (.iaload, 1) := by decide +kernel
theorem dL_law_1306 : decode cL_law 1306 = .ok (.aload_n 0, 1) := by decide +kernel
theorem dL_law_1307 : decode cL_law 1307 = .ok (.iload 4, 2) := by decide +kernel
theorem dL_law_1309 : decode cL_law 1309 = .ok (.iconst 2, 1) := by decide +kernel
theorem dL_law_1310 : decode cL_law 1310 = .ok (.iadd, 1) := by decide +kernel
theorem dL_law_1311 : decode cL_law 1311 = .ok (.iaload, 1) := by decide +kernel
theorem dL_law_1312 : decode cL_law 1312 = .ok (.aload_n 3, 1) := by decide +kernel
theorem dL_law_1313 : decode cL_law 1313 = .ok (.invokestatic 151, 3) := by decide +kernel
theorem dL_law_1316 : decode cL_law 1316 = .ok (.istore 5, 2) := by decide +kernel
theorem dL_law_1318 : decode cL_law 1318 = .ok (.aload_n 2, 1) := by decide +kernel
theorem dL_law_1319 : decode cL_law 1319 = .ok (.aload_n 0, 1) := by decide +kernel
theorem dL_law_1320 : decode cL_law 1320 = .ok (.iload 4, 2) := by decide +kernel
theorem dL_law_1322 : decode cL_law 1322 = .ok (.iconst 1, 1) := by decide +kernel
theorem dL_law_1323 : decode cL_law 1323 = .ok (.iadd, 1) := by decide +kernel
theorem dL_law_1324 : decode cL_law 1324 = .ok (.iaload, 1) := by decide +kernel
theorem dL_law_1325 : decode cL_law 1325 = .ok (.aload_n 0, 1) := by decide +kernel
theorem dL_law_1326 : decode cL_law 1326 = .ok (.iload 4, 2) := by decide +kernel
theorem dL_law_1328 : decode cL_law 1328 = .ok (.iconst 2, 1) := by decide +kernel
theorem dL_law_1329 : decode cL_law 1329 = .ok (.iadd, 1) := by decide +kernel
theorem dL_law_1330 : decode cL_law 1330 = .ok (.iaload, 1) := by decide +kernel
theorem dL_law_1331 : decode cL_law 1331 = .ok (.invokevirtual 153, 3) := by decide +kernel
theorem dL_law_1334 : decode cL_law 1334 = .ok (.istore 6, 2) := by decide +kernel
theorem dL_law_1336 : decode cL_law 1336 = .ok (.aload_n 2, 1) := by decide +kernel
theorem dL_law_1337 : decode cL_law 1337 = .ok (.invokevirtual 94, 3) := by decide +kernel
theorem dL_law_1340 : decode cL_law 1340 = .ok (.iload 5, 2) := by decide +kernel
theorem dL_law_1342 : decode cL_law 1342 = .ok (.if_icmp .eq 5, 3) := by decide +kernel
theorem dL_law_1345 : decode cL_law 1345 = .ok (.iconst 0, 1) := by decide +kernel
theorem dL_law_1346 : decode cL_law 1346 = .ok (.ireturn, 1) := by decide +kernel
theorem dL_law_1347 : decode cL_law 1347 = .ok (.iload 5, 2) := by decide +kernel
theorem dL_law_1349 : decode cL_law 1349 = .ok (.ifCond .ne 15, 3) := by decide +kernel
theorem dL_law_1352 : decode cL_law 1352 = .ok (.aload_n 3, 1) := by decide +kernel
theorem dL_law_1353 : decode cL_law 1353 = .ok (.iconst 0, 1) := by decide +kernel
theorem dL_law_1354 : decode cL_law 1354 = .ok (.laload, 1) := by decide +kernel
theorem dL_law_1355 : decode cL_law 1355 = .ok (.iload 6, 2) := by decide +kernel
theorem dL_law_1357 : decode cL_law 1357 = .ok (.i2l, 1) := by decide +kernel
theorem dL_law_1358 : decode cL_law 1358 = .ok (.lcmp, 1) := by decide +kernel
theorem dL_law_1359 : decode cL_law 1359 = .ok (.ifCond .eq 5, 3) := by decide +kernel
theorem dL_law_1362 : decode cL_law 1362 = .ok (.iconst 0, 1) := by decide +kernel
theorem dL_law_1363 : decode cL_law 1363 = .ok (.ireturn, 1) := by decide +kernel
theorem dL_law_1364 : decode cL_law 1364 = .ok (.goto 232, 3) := by decide +kernel
theorem dL_law_1367 : decode cL_law 1367 = .ok (.aload_n 1, 1) := by decide +kernel
theorem dL_law_1368 : decode cL_law 1368 = .ok (.aload_n 0, 1) := by decide +kernel
theorem dL_law_1369 : decode cL_law 1369 = .ok (.iload 4, 2) := by decide +kernel
theorem dL_law_1371 : decode cL_law 1371 = .ok (.iconst 1, 1) := by decide +kernel
theorem dL_law_1372 : decode cL_law 1372 = .ok (.iadd, 1) := by decide +kernel
theorem dL_law_1373 : decode cL_law 1373 = .ok (.iaload, 1) := by decide +kernel
theorem dL_law_1374 : decode cL_law 1374 = .ok (.aload_n 0, 1) := by decide +kernel
theorem dL_law_1375 : decode cL_law 1375 = .ok (.iload 4, 2) := by decide +kernel
theorem dL_law_1377 : decode cL_law 1377 = .ok (.iconst 2, 1) := by decide +kernel
theorem dL_law_1378 : decode cL_law 1378 = .ok (.iadd, 1) := by decide +kernel
theorem dL_law_1379 : decode cL_law 1379 = .ok (.iaload, 1) := by decide +kernel
theorem dL_law_1380 : decode cL_law 1380 = .ok (.aload_n 3, 1) := by decide +kernel
theorem dL_law_1381 : decode cL_law 1381 = .ok (.invokestatic 154, 3) := by decide +kernel
theorem dL_law_1384 : decode cL_law 1384 = .ok (.istore 5, 2) := by decide +kernel
theorem dL_law_1386 : decode cL_law 1386 = .ok (.aload_n 2, 1) := by decide +kernel
theorem dL_law_1387 : decode cL_law 1387 = .ok (.aload_n 0, 1) := by decide +kernel
theorem dL_law_1388 : decode cL_law 1388 = .ok (.iload 4, 2) := by decide +kernel
theorem dL_law_1390 : decode cL_law 1390 = .ok (.iconst 1, 1) := by decide +kernel
theorem dL_law_1391 : decode cL_law 1391 = .ok (.iadd, 1) := by decide +kernel
theorem dL_law_1392 : decode cL_law 1392 = .ok (.iaload, 1) := by decide +kernel
theorem dL_law_1393 : decode cL_law 1393 = .ok (.aload_n 0, 1) := by decide +kernel
theorem dL_law_1394 : decode cL_law 1394 = .ok (.iload 4, 2) := by decide +kernel
theorem dL_law_1396 : decode cL_law 1396 = .ok (.iconst 2, 1) := by decide +kernel
theorem dL_law_1397 : decode cL_law 1397 = .ok (.iadd, 1) := by decide +kernel
theorem dL_law_1398 : decode cL_law 1398 = .ok (.iaload, 1) := by decide +kernel
theorem dL_law_1399 : decode cL_law 1399 = .ok (.invokevirtual 156, 3) := by decide +kernel
theorem dL_law_1402 : decode cL_law 1402 = .ok (.istore 6, 2) := by decide +kernel
theorem dL_law_1404 : decode cL_law 1404 = .ok (.aload_n 2, 1) := by decide +kernel
theorem dL_law_1405 : decode cL_law 1405 = .ok (.invokevirtual 94, 3) := by decide +kernel
theorem dL_law_1408 : decode cL_law 1408 = .ok (.iload 5, 2) := by decide +kernel
theorem dL_law_1410 : decode cL_law 1410 = .ok (.if_icmp .eq 5, 3) := by decide +kernel
theorem dL_law_1413 : decode cL_law 1413 = .ok (.iconst 0, 1) := by decide +kernel
theorem dL_law_1414 : decode cL_law 1414 = .ok (.ireturn, 1) := by decide +kernel
theorem dL_law_1415 : decode cL_law 1415 = .ok (.iload 5, 2) := by decide +kernel
theorem dL_law_1417 : decode cL_law 1417 = .ok (.ifCond .ne 15, 3) := by decide +kernel
theorem dL_law_1420 : decode cL_law 1420 = .ok (.aload_n 3, 1) := by decide +kernel
theorem dL_law_1421 : decode cL_law 1421 = .ok (.iconst 0, 1) := by decide +kernel
theorem dL_law_1422 : decode cL_law 1422 = .ok (.laload, 1) := by decide +kernel
theorem dL_law_1423 : decode cL_law 1423 = .ok (.iload 6, 2) := by decide +kernel
theorem dL_law_1425 : decode cL_law 1425 = .ok (.i2l, 1) := by decide +kernel
theorem dL_law_1426 : decode cL_law 1426 = .ok (.lcmp, 1) := by decide +kernel
theorem dL_law_1427 : decode cL_law 1427 = .ok (.ifCond .eq 5, 3) := by decide +kernel
theorem dL_law_1430 : decode cL_law 1430 = .ok (.iconst 0, 1) := by decide +kernel
theorem dL_law_1431 : decode cL_law 1431 = .ok (.ireturn, 1) := by decide +kernel
theorem dL_law_1432 : decode cL_law 1432 = .ok (.goto 164, 3) := by decide +kernel
theorem dL_law_1435 : decode cL_law 1435 = .ok (.aload_n 1, 1) := by decide +kernel
theorem dL_law_1436 : decode cL_law 1436 = .ok (.aload_n 0, 1) := by decide +kernel
theorem dL_law_1437 : decode cL_law 1437 = .ok (.iload 4, 2) := by decide +kernel
theorem dL_law_1439 : decode cL_law 1439 = .ok (.iconst 1, 1) := by decide +kernel
theorem dL_law_1440 : decode cL_law 1440 = .ok (.iadd, 1) := by decide +kernel
theorem dL_law_1441 : decode cL_law 1441 = .ok (.iaload, 1) := by decide +kernel
theorem dL_law_1442 : decode cL_law 1442 = .ok (.aload_n 0, 1) := by decide +kernel
theorem dL_law_1443 : decode cL_law 1443 = .ok (.iload 4, 2) := by decide +kernel
theorem dL_law_1445 : decode cL_law 1445 = .ok (.iconst 2, 1) := by decide +kernel
theorem dL_law_1446 : decode cL_law 1446 = .ok (.iadd, 1) := by decide +kernel
theorem dL_law_1447 : decode cL_law 1447 = .ok (.iaload, 1) := by decide +kernel
theorem dL_law_1448 : decode cL_law 1448 = .ok (.aload_n 3, 1) := by decide +kernel
theorem dL_law_1449 : decode cL_law 1449 = .ok (.invokestatic 157, 3) := by decide +kernel
theorem dL_law_1452 : decode cL_law 1452 = .ok (.istore 5, 2) := by decide +kernel
theorem dL_law_1454 : decode cL_law 1454 = .ok (.aload_n 2, 1) := by decide +kernel
theorem dL_law_1455 : decode cL_law 1455 = .ok (.aload_n 0, 1) := by decide +kernel
theorem dL_law_1456 : decode cL_law 1456 = .ok (.iload 4, 2) := by decide +kernel
theorem dL_law_1458 : decode cL_law 1458 = .ok (.iconst 1, 1) := by decide +kernel
theorem dL_law_1459 : decode cL_law 1459 = .ok (.iadd, 1) := by decide +kernel
theorem dL_law_1460 : decode cL_law 1460 = .ok (.iaload, 1) := by decide +kernel
theorem dL_law_1461 : decode cL_law 1461 = .ok (.aload_n 0, 1) := by decide +kernel
theorem dL_law_1462 : decode cL_law 1462 = .ok (.iload 4, 2) := by decide +kernel
theorem dL_law_1464 : decode cL_law 1464 = .ok (.iconst 2, 1) := by decide +kernel
theorem dL_law_1465 : decode cL_law 1465 = .ok (.iadd, 1) := by decide +kernel
theorem dL_law_1466 : decode cL_law 1466 = .ok (.iaload, 1) := by decide +kernel
theorem dL_law_1467 : decode cL_law 1467 = .ok (.invokevirtual 159, 3) := by decide +kernel
theorem dL_law_1470 : decode cL_law 1470 = .ok (.istore 6, 2) := by decide +kernel
theorem dL_law_1472 : decode cL_law 1472 = .ok (.aload_n 2, 1) := by decide +kernel
theorem dL_law_1473 : decode cL_law 1473 = .ok (.invokevirtual 94, 3) := by decide +kernel
theorem dL_law_1476 : decode cL_law 1476 = .ok (.iload 5, 2) := by decide +kernel
theorem dL_law_1478 : decode cL_law 1478 = .ok (.if_icmp .eq 5, 3) := by decide +kernel
theorem dL_law_1481 : decode cL_law 1481 = .ok (.iconst 0, 1) := by decide +kernel
theorem dL_law_1482 : decode cL_law 1482 = .ok (.ireturn, 1) := by decide +kernel
theorem dL_law_1483 : decode cL_law 1483 = .ok (.iload 5, 2) := by decide +kernel
theorem dL_law_1485 : decode cL_law 1485 = .ok (.ifCond .ne 15, 3) := by decide +kernel
theorem dL_law_1488 : decode cL_law 1488 = .ok (.aload_n 3, 1) := by decide +kernel
theorem dL_law_1489 : decode cL_law 1489 = .ok (.iconst 0, 1) := by decide +kernel
theorem dL_law_1490 : decode cL_law 1490 = .ok (.laload, 1) := by decide +kernel
theorem dL_law_1491 : decode cL_law 1491 = .ok (.iload 6, 2) := by decide +kernel
theorem dL_law_1493 : decode cL_law 1493 = .ok (.i2l, 1) := by decide +kernel
theorem dL_law_1494 : decode cL_law 1494 = .ok (.lcmp, 1) := by decide +kernel
theorem dL_law_1495 : decode cL_law 1495 = .ok (.ifCond .eq 5, 3) := by decide +kernel
theorem dL_law_1498 : decode cL_law 1498 = .ok (.iconst 0, 1) := by decide +kernel
theorem dL_law_1499 : decode cL_law 1499 = .ok (.ireturn, 1) := by decide +kernel
theorem dL_law_1500 : decode cL_law 1500 = .ok (.goto 96, 3) := by decide +kernel
theorem dL_law_1503 : decode cL_law 1503 = .ok (.aload_n 1, 1) := by decide +kernel
theorem dL_law_1504 : decode cL_law 1504 = .ok (.aload_n 0, 1) := by decide +kernel
theorem dL_law_1505 : decode cL_law 1505 = .ok (.iload 4, 2) := by decide +kernel
theorem dL_law_1507 : decode cL_law 1507 = .ok (.iconst 1, 1) := by decide +kernel
theorem dL_law_1508 : decode cL_law 1508 = .ok (.iadd, 1) := by decide +kernel
theorem dL_law_1509 : decode cL_law 1509 = .ok (.iaload, 1) := by decide +kernel
theorem dL_law_1510 : decode cL_law 1510 = .ok (.aload_n 0, 1) := by decide +kernel
theorem dL_law_1511 : decode cL_law 1511 = .ok (.iload 4, 2) := by decide +kernel
theorem dL_law_1513 : decode cL_law 1513 = .ok (.iconst 2, 1) := by decide +kernel
theorem dL_law_1514 : decode cL_law 1514 = .ok (.iadd, 1) := by decide +kernel
theorem dL_law_1515 : decode cL_law 1515 = .ok (.iaload, 1) := by decide +kernel
theorem dL_law_1516 : decode cL_law 1516 = .ok (.aload_n 0, 1) := by decide +kernel
theorem dL_law_1517 : decode cL_law 1517 = .ok (.iload 4, 2) := by decide +kernel
theorem dL_law_1519 : decode cL_law 1519 = .ok (.iconst 3, 1) := by decide +kernel
theorem dL_law_1520 : decode cL_law 1520 = .ok (.iadd, 1) := by decide +kernel
theorem dL_law_1521 : decode cL_law 1521 = .ok (.iaload, 1) := by decide +kernel
theorem dL_law_1522 : decode cL_law 1522 = .ok (.aload_n 3, 1) := by decide +kernel
theorem dL_law_1523 : decode cL_law 1523 = .ok (.invokestatic 160, 3) := by decide +kernel
theorem dL_law_1526 : decode cL_law 1526 = .ok (.istore 5, 2) := by decide +kernel
theorem dL_law_1528 : decode cL_law 1528 = .ok (.aload_n 2, 1) := by decide +kernel
theorem dL_law_1529 : decode cL_law 1529 = .ok (.aload_n 0, 1) := by decide +kernel
theorem dL_law_1530 : decode cL_law 1530 = .ok (.iload 4, 2) := by decide +kernel
theorem dL_law_1532 : decode cL_law 1532 = .ok (.iconst 1, 1) := by decide +kernel
theorem dL_law_1533 : decode cL_law 1533 = .ok (.iadd, 1) := by decide +kernel
theorem dL_law_1534 : decode cL_law 1534 = .ok (.iaload, 1) := by decide +kernel
theorem dL_law_1535 : decode cL_law 1535 = .ok (.aload_n 0, 1) := by decide +kernel
theorem dL_law_1536 : decode cL_law 1536 = .ok (.iload 4, 2) := by decide +kernel
theorem dL_law_1538 : decode cL_law 1538 = .ok (.iconst 2, 1) := by decide +kernel
theorem dL_law_1539 : decode cL_law 1539 = .ok (.iadd, 1) := by decide +kernel
theorem dL_law_1540 : decode cL_law 1540 = .ok (.iaload, 1) := by decide +kernel
theorem dL_law_1541 : decode cL_law 1541 = .ok (.aload_n 0, 1) := by decide +kernel
theorem dL_law_1542 : decode cL_law 1542 = .ok (.iload 4, 2) := by decide +kernel
theorem dL_law_1544 : decode cL_law 1544 = .ok (.iconst 3, 1) := by decide +kernel
theorem dL_law_1545 : decode cL_law 1545 = .ok (.iadd, 1) := by decide +kernel
theorem dL_law_1546 : decode cL_law 1546 = .ok (.iaload, 1) := by decide +kernel
theorem dL_law_1547 : decode cL_law 1547 = .ok (.invokevirtual 162, 3) := by decide +kernel
theorem dL_law_1550 : decode cL_law 1550 = .ok (.istore 6, 2) := by decide +kernel
theorem dL_law_1552 : decode cL_law 1552 = .ok (.aload_n 2, 1) := by decide +kernel
theorem dL_law_1553 : decode cL_law 1553 = .ok (.invokevirtual 94, 3) := by decide +kernel
theorem dL_law_1556 : decode cL_law 1556 = .ok (.iload 5, 2) := by decide +kernel
theorem dL_law_1558 : decode cL_law 1558 = .ok (.if_icmp .eq 5, 3) := by decide +kernel
theorem dL_law_1561 : decode cL_law 1561 = .ok (.iconst 0, 1) := by decide +kernel
theorem dL_law_1562 : decode cL_law 1562 = .ok (.ireturn, 1) := by decide +kernel
theorem dL_law_1563 : decode cL_law 1563 = .ok (.iload 5, 2) := by decide +kernel
theorem dL_law_1565 : decode cL_law 1565 = .ok (.ifCond .ne 15, 3) := by decide +kernel
theorem dL_law_1568 : decode cL_law 1568 = .ok (.aload_n 3, 1) := by decide +kernel
theorem dL_law_1569 : decode cL_law 1569 = .ok (.iconst 0, 1) := by decide +kernel
theorem dL_law_1570 : decode cL_law 1570 = .ok (.laload, 1) := by decide +kernel
theorem dL_law_1571 : decode cL_law 1571 = .ok (.iload 6, 2) := by decide +kernel
theorem dL_law_1573 : decode cL_law 1573 = .ok (.i2l, 1) := by decide +kernel
theorem dL_law_1574 : decode cL_law 1574 = .ok (.lcmp, 1) := by decide +kernel
theorem dL_law_1575 : decode cL_law 1575 = .ok (.ifCond .eq 5, 3) := by decide +kernel
theorem dL_law_1578 : decode cL_law 1578 = .ok (.iconst 0, 1) := by decide +kernel
theorem dL_law_1579 : decode cL_law 1579 = .ok (.ireturn, 1) := by decide +kernel
theorem dL_law_1580 : decode cL_law 1580 = .ok (.goto 16, 3) := by decide +kernel
theorem dL_law_1583 : decode cL_law 1583 = .ok (.aload_n 1, 1) := by decide +kernel
theorem dL_law_1584 : decode cL_law 1584 = .ok (.invokevirtual 163, 3) := by decide +kernel
theorem dL_law_1587 : decode cL_law 1587 = .ok (.aload_n 2, 1) := by decide +kernel
theorem dL_law_1588 : decode cL_law 1588 = .ok (.invokevirtual 166, 3) := by decide +kernel
theorem dL_law_1591 : decode cL_law 1591 = .ok (.if_icmp .eq 5, 3) := by decide +kernel
theorem dL_law_1594 : decode cL_law 1594 = .ok (.iconst 0, 1) := by decide +kernel
theorem dL_law_1595 : decode cL_law 1595 = .ok (.ireturn, 1) := by decide +kernel
theorem dL_law_1596 : decode cL_law 1596 = .ok (.iinc 4 5, 3) := by decide +kernel
theorem dL_law_1599 : decode cL_law 1599 = .ok (.goto (-1576), 3) := by decide +kernel
theorem dL_law_1602 : decode cL_law 1602 = .ok (.iconst 1, 1) := by decide +kernel
theorem dL_law_1603 : decode cL_law 1603 = .ok (.ireturn, 1) := by decide +kernel
end
section
theorem wini_L : (Cond.initialized RL) ∈ lw_tbl := List.mem_of_getElem? (i := 30) (by decide +kernel)
theorem wini_7 : (Cond.initialized RX7) ∈ lw_tbl := List.mem_of_getElem? (i := 31) (by decide +kernel)
theorem wini_4 : (Cond.initialized RX4) ∈ lw_tbl := List.mem_of_getElem? (i := 32) (by decide +kernel)
theorem wini_2 : (Cond.initialized RX2) ∈ lw_tbl := List.mem_of_getElem? (i := 33) (by decide +kernel)
theorem wini_3 : (Cond.initialized RX3) ∈ lw_tbl := List.mem_of_getElem? (i := 34) (by decide +kernel)
theorem wini_1 : (Cond.initialized RX1) ∈ lw_tbl := List.mem_of_getElem? (i := 35) (by decide +kernel)
theorem wini_6 : (Cond.initialized RX6) ∈ lw_tbl := List.mem_of_getElem? (i := 36) (by decide +kernel)
theorem wini_5 : (Cond.initialized RX5) ∈ lw_tbl := List.mem_of_getElem? (i := 37) (by decide +kernel)
theorem wini_0 : (Cond.initialized RX0) ∈ lw_tbl := List.mem_of_getElem? (i := 38) (by decide +kernel)
theorem wini_8 : (Cond.initialized RX8) ∈ lw_tbl := List.mem_of_getElem? (i := 39) (by decide +kernel)
theorem wini_Throwable : (Cond.initialized "java/lang/Throwable") ∈ lw_tbl := List.mem_of_getElem? (i := 40) (by decide +kernel)
theorem wini_Exception : (Cond.initialized "java/lang/Exception") ∈ lw_tbl := List.mem_of_getElem? (i := 41) (by decide +kernel)
theorem wini_RuntimeException : (Cond.initialized "java/lang/RuntimeException") ∈ lw_tbl := List.mem_of_getElem? (i := 42) (by decide +kernel)
theorem wini_IllegalArgumentException : (Cond.initialized "java/lang/IllegalArgumentException") ∈ lw_tbl := List.mem_of_getElem? (i := 43) (by decide +kernel)
theorem wini_IllegalStateException : (Cond.initialized "java/lang/IllegalStateException") ∈ lw_tbl := List.mem_of_getElem? (i := 44) (by decide +kernel)
theorem wini_Math : (Cond.initialized "java/lang/Math") ∈ lw_tbl := List.mem_of_getElem? (i := 45) (by decide +kernel)
theorem wini_IndexOutOfBoundsException : (Cond.initialized "java/lang/IndexOutOfBoundsException") ∈ lw_tbl := List.mem_of_getElem? (i := 46) (by decide +kernel)
theorem wcl_L_8 : (Cond.classLink RL 8 RX7) ∈ lw_tbl := List.mem_of_getElem? (i := 47) (by decide +kernel)
theorem wnew_7 : (Cond.instantiable RX7 7) ∈ lw_tbl := List.mem_of_getElem? (i := 48) (by decide +kernel)
theorem wm_L_84 : (Cond.methodLink RL 84 yX7_init) ∈ lw_tbl := List.mem_of_getElem? (i := 49) (by decide +kernel)
theorem wi_X7_init : (Cond.instanceMethod yX7_init) ∈ lw_tbl := List.mem_of_getElem? (i := 50) (by decide +kernel)
theorem wc_X7_init : (Cond.code yX7_init cX7_init 2 (none)) ∈ lw_tbl := List.mem_of_getElem? (i := 51) (by decide +kernel)
theorem wm_7_3 : (Cond.methodLink RX7 3 (⟨"java/lang/Object", "<init>", "()V"⟩ : MethodName)) ∈ lw_tbl := List.mem_of_getElem? (i := 52) (by decide +kernel)
theorem wi__Object_init : (Cond.instanceMethod (⟨"java/lang/Object", "<init>", "()V"⟩ : MethodName)) ∈ lw_tbl := List.mem_of_getElem? (i := 53) (by decide +kernel)
theorem wc__Object_init : (Cond.code (⟨"java/lang/Object", "<init>", "()V"⟩ : MethodName) object_method_1_code 1 (none)) ∈ lw_tbl := List.mem_of_getElem? (i := 54) (by decide +kernel)
theorem wcl_7_9 : (Cond.classLink RX7 9 RX4) ∈ lw_tbl := List.mem_of_getElem? (i := 55) (by decide +kernel)
theorem wnew_4 : (Cond.instantiable RX4 2) ∈ lw_tbl := List.mem_of_getElem? (i := 56) (by decide +kernel)
theorem wm_7_11 : (Cond.methodLink RX7 11 yX4_init) ∈ lw_tbl := List.mem_of_getElem? (i := 57) (by decide +kernel)
theorem wi_X4_init : (Cond.instanceMethod yX4_init) ∈ lw_tbl := List.mem_of_getElem? (i := 58) (by decide +kernel)
theorem wc_X4_init : (Cond.code yX4_init cX4_init 2 (none)) ∈ lw_tbl := List.mem_of_getElem? (i := 59) (by decide +kernel)
theorem wm_4_3 : (Cond.methodLink RX4 3 (⟨"java/lang/Object", "<init>", "()V"⟩ : MethodName)) ∈ lw_tbl := List.mem_of_getElem? (i := 60) (by decide +kernel)
theorem wcl_4_9 : (Cond.classLink RX4 9 RX2) ∈ lw_tbl := List.mem_of_getElem? (i := 61) (by decide +kernel)
theorem wnew_2 : (Cond.instantiable RX2 4) ∈ lw_tbl := List.mem_of_getElem? (i := 63) (by decide +kernel)
theorem wi_X2_init : (Cond.instanceMethod yX2_init) ∈ lw_tbl := List.mem_of_getElem? (i := 65) (by decide +kernel)
theorem wc_X2_init : (Cond.code yX2_init cX2_init 1 (none)) ∈ lw_tbl := List.mem_of_getElem? (i := 66) (by decide +kernel)
theorem wm_2_1 : (Cond.methodLink RX2 1 (⟨"java/lang/Object", "<init>", "()V"⟩ : MethodName)) ∈ lw_tbl := List.mem_of_getElem? (i := 67) (by decide +kernel)
theorem wcl_2_7 : (Cond.classLink RX2 7 RX3) ∈ lw_tbl := List.mem_of_getElem? (i := 68) (by decide +kernel)
theorem wnew_3 : (Cond.instantiable RX3 2) ∈ lw_tbl := List.mem_of_getElem? (i := 69) (by decide +kernel)
theorem wi_X3_init : (Cond.instanceMethod yX3_init) ∈ lw_tbl := List.mem_of_getElem? (i := 71) (by decide +kernel)
theorem wc_X3_init : (Cond.code yX3_init cX3_init 1 (none)) ∈ lw_tbl := List.mem_of_getElem? (i := 72) (by decide +kernel)
theorem wm_3_3 : (Cond.methodLink RX3 3 (⟨"java/lang/Object", "<init>", "()V"⟩ : MethodName)) ∈ lw_tbl := List.mem_of_getElem? (i := 73) (by decide +kernel)
theorem wf_3_9 : (Cond.fieldLink RX3 9 "LocatorMapper$Prefix" "value" "I") ∈ lw_tbl := List.mem_of_getElem? (i := 74) (by decide +kernel)
theorem wf_5_43 : (Cond.fieldLink RX5 43 "LocatorMapper$Prefix" "value" "I") ∈ lw_tbl := List.mem_of_getElem? (i := 75) (by decide +kernel)
theorem wf_7_199 : (Cond.fieldLink RX7 199 "LocatorMapper$Prefix" "value" "I") ∈ lw_tbl := List.mem_of_getElem? (i := 76) (by decide +kernel)
theorem wf_3_15 : (Cond.fieldLink RX3 15 "LocatorMapper$Prefix" "length" "I") ∈ lw_tbl := List.mem_of_getElem? (i := 77) (by decide +kernel)
theorem wf_5_46 : (Cond.fieldLink RX5 46 "LocatorMapper$Prefix" "length" "I") ∈ lw_tbl := List.mem_of_getElem? (i := 78) (by decide +kernel)
theorem wf_6_41 : (Cond.fieldLink RX6 41 "LocatorMapper$Prefix" "length" "I") ∈ lw_tbl := List.mem_of_getElem? (i := 79) (by decide +kernel)
theorem wf_4_40 : (Cond.fieldLink RX4 40 "LocatorMapper$Prefix" "length" "I") ∈ lw_tbl := List.mem_of_getElem? (i := 80) (by decide +kernel)
theorem wf_7_204 : (Cond.fieldLink RX7 204 "LocatorMapper$Prefix" "length" "I") ∈ lw_tbl := List.mem_of_getElem? (i := 81) (by decide +kernel)
theorem wcl_2_16 : (Cond.classLink RX2 16 RX1) ∈ lw_tbl := List.mem_of_getElem? (i := 87) (by decide +kernel)
theorem wnew_1 : (Cond.instantiable RX1 4) ∈ lw_tbl := List.mem_of_getElem? (i := 88) (by decide +kernel)
theorem wi_X1_init : (Cond.instanceMethod yX1_init) ∈ lw_tbl := List.mem_of_getElem? (i := 90) (by decide +kernel)
theorem wc_X1_init : (Cond.code yX1_init cX1_init 1 (none)) ∈ lw_tbl := List.mem_of_getElem? (i := 91) (by decide +kernel)
theorem wm_1_3 : (Cond.methodLink RX1 3 (⟨"java/lang/Object", "<init>", "()V"⟩ : MethodName)) ∈ lw_tbl := List.mem_of_getElem? (i := 92) (by decide +kernel)
theorem wf_1_9 : (Cond.fieldLink RX1 9 "LocatorMapper$Locators" "addresses" "[I") ∈ lw_tbl := List.mem_of_getElem? (i := 93) (by decide +kernel)
theorem wf_0_62 : (Cond.fieldLink RX0 62 "LocatorMapper$Locators" "addresses" "[I") ∈ lw_tbl := List.mem_of_getElem? (i := 94) (by decide +kernel)
theorem wf_7_128 : (Cond.fieldLink RX7 128 "LocatorMapper$Locators" "addresses" "[I") ∈ lw_tbl := List.mem_of_getElem? (i := 95) (by decide +kernel)
theorem wf_1_15 : (Cond.fieldLink RX1 15 "LocatorMapper$Locators" "priorities" "[I") ∈ lw_tbl := List.mem_of_getElem? (i := 96) (by decide +kernel)
theorem wf_0_68 : (Cond.fieldLink RX0 68 "LocatorMapper$Locators" "priorities" "[I") ∈ lw_tbl := List.mem_of_getElem? (i := 97) (by decide +kernel)
theorem wf_1_18 : (Cond.fieldLink RX1 18 "LocatorMapper$Locators" "weights" "[I") ∈ lw_tbl := List.mem_of_getElem? (i := 98) (by decide +kernel)
theorem wf_0_81 : (Cond.fieldLink RX0 81 "LocatorMapper$Locators" "weights" "[I") ∈ lw_tbl := List.mem_of_getElem? (i := 99) (by decide +kernel)
theorem wf_1_21 : (Cond.fieldLink RX1 21 "LocatorMapper$Locators" "count" "I") ∈ lw_tbl := List.mem_of_getElem? (i := 100) (by decide +kernel)
theorem wf_7_107 : (Cond.fieldLink RX7 107 "LocatorMapper$Locators" "count" "I") ∈ lw_tbl := List.mem_of_getElem? (i := 101) (by decide +kernel)
theorem wf_0_65 : (Cond.fieldLink RX0 65 "LocatorMapper$Locators" "count" "I") ∈ lw_tbl := List.mem_of_getElem? (i := 102) (by decide +kernel)
theorem wf_2_10 : (Cond.fieldLink RX2 10 "LocatorMapper$Mapping" "prefix" "LLocatorMapper$Prefix;") ∈ lw_tbl := List.mem_of_getElem? (i := 113) (by decide +kernel)
theorem wf_4_22 : (Cond.fieldLink RX4 22 "LocatorMapper$Mapping" "prefix" "LLocatorMapper$Prefix;") ∈ lw_tbl := List.mem_of_getElem? (i := 114) (by decide +kernel)
theorem wf_7_69 : (Cond.fieldLink RX7 69 "LocatorMapper$Mapping" "prefix" "LLocatorMapper$Prefix;") ∈ lw_tbl := List.mem_of_getElem? (i := 115) (by decide +kernel)
theorem wf_2_19 : (Cond.fieldLink RX2 19 "LocatorMapper$Mapping" "locators" "LLocatorMapper$Locators;") ∈ lw_tbl := List.mem_of_getElem? (i := 116) (by decide +kernel)
theorem wf_0_49 : (Cond.fieldLink RX0 49 "LocatorMapper$Mapping" "locators" "LLocatorMapper$Locators;") ∈ lw_tbl := List.mem_of_getElem? (i := 117) (by decide +kernel)
theorem wf_7_103 : (Cond.fieldLink RX7 103 "LocatorMapper$Mapping" "locators" "LLocatorMapper$Locators;") ∈ lw_tbl := List.mem_of_getElem? (i := 118) (by decide +kernel)
theorem wf_2_23 : (Cond.fieldLink RX2 23 "LocatorMapper$Mapping" "version" "I") ∈ lw_tbl := List.mem_of_getElem? (i := 119) (by decide +kernel)
theorem wf_0_46 : (Cond.fieldLink RX0 46 "LocatorMapper$Mapping" "version" "I") ∈ lw_tbl := List.mem_of_getElem? (i := 120) (by decide +kernel)
theorem wf_7_144 : (Cond.fieldLink RX7 144 "LocatorMapper$Mapping" "version" "I") ∈ lw_tbl := List.mem_of_getElem? (i := 121) (by decide +kernel)
theorem wf_2_27 : (Cond.fieldLink RX2 27 "LocatorMapper$Mapping" "isWithdrawn" "Z") ∈ lw_tbl := List.mem_of_getElem? (i := 122) (by decide +kernel)
theorem wf_7_87 : (Cond.fieldLink RX7 87 "LocatorMapper$Mapping" "isWithdrawn" "Z") ∈ lw_tbl := List.mem_of_getElem? (i := 123) (by decide +kernel)
theorem wf_4_32 : (Cond.fieldLink RX4 32 "LocatorMapper$Mapping" "isWithdrawn" "Z") ∈ lw_tbl := List.mem_of_getElem? (i := 124) (by decide +kernel)
theorem wf_4_11 : (Cond.fieldLink RX4 11 "LocatorMapper$Registry" "mappings" "[LLocatorMapper$Mapping;") ∈ lw_tbl := List.mem_of_getElem? (i := 134) (by decide +kernel)
theorem wf_7_65 : (Cond.fieldLink RX7 65 "LocatorMapper$Registry" "mappings" "[LLocatorMapper$Mapping;") ∈ lw_tbl := List.mem_of_getElem? (i := 135) (by decide +kernel)
theorem wf_4_17 : (Cond.fieldLink RX4 17 "LocatorMapper$Registry" "count" "I") ∈ lw_tbl := List.mem_of_getElem? (i := 136) (by decide +kernel)
theorem wf_7_47 : (Cond.fieldLink RX7 47 "LocatorMapper$Registry" "count" "I") ∈ lw_tbl := List.mem_of_getElem? (i := 137) (by decide +kernel)
theorem wcl_7_16 : (Cond.classLink RX7 16 RX6) ∈ lw_tbl := List.mem_of_getElem? (i := 143) (by decide +kernel)
theorem wnew_6 : (Cond.instantiable RX6 5) ∈ lw_tbl := List.mem_of_getElem? (i := 144) (by decide +kernel)
theorem wm_7_18 : (Cond.methodLink RX7 18 yX6_init) ∈ lw_tbl := List.mem_of_getElem? (i := 145) (by decide +kernel)
theorem wi_X6_init : (Cond.instanceMethod yX6_init) ∈ lw_tbl := List.mem_of_getElem? (i := 146) (by decide +kernel)
theorem wc_X6_init : (Cond.code yX6_init cX6_init 2 (none)) ∈ lw_tbl := List.mem_of_getElem? (i := 147) (by decide +kernel)
theorem wm_6_3 : (Cond.methodLink RX6 3 (⟨"java/lang/Object", "<init>", "()V"⟩ : MethodName)) ∈ lw_tbl := List.mem_of_getElem? (i := 148) (by decide +kernel)
theorem wcl_6_19 : (Cond.classLink RX6 19 RX3) ∈ lw_tbl := List.mem_of_getElem? (i := 149) (by decide +kernel)
theorem wf_6_9 : (Cond.fieldLink RX6 9 "LocatorMapper$Servers" "isDown" "[Z") ∈ lw_tbl := List.mem_of_getElem? (i := 152) (by decide +kernel)
theorem wf_7_159 : (Cond.fieldLink RX7 159 "LocatorMapper$Servers" "isDown" "[Z") ∈ lw_tbl := List.mem_of_getElem? (i := 153) (by decide +kernel)
theorem wf_6_15 : (Cond.fieldLink RX6 15 "LocatorMapper$Servers" "answered" "[I") ∈ lw_tbl := List.mem_of_getElem? (i := 154) (by decide +kernel)
theorem wf_7_164 : (Cond.fieldLink RX7 164 "LocatorMapper$Servers" "answered" "[I") ∈ lw_tbl := List.mem_of_getElem? (i := 155) (by decide +kernel)
theorem wf_6_21 : (Cond.fieldLink RX6 21 "LocatorMapper$Servers" "delegated" "[LLocatorMapper$Prefix;") ∈ lw_tbl := List.mem_of_getElem? (i := 156) (by decide +kernel)
theorem wf_6_25 : (Cond.fieldLink RX6 25 "LocatorMapper$Servers" "delegatedTo" "[I") ∈ lw_tbl := List.mem_of_getElem? (i := 157) (by decide +kernel)
theorem wf_7_156 : (Cond.fieldLink RX7 156 "LocatorMapper$Servers" "delegatedTo" "[I") ∈ lw_tbl := List.mem_of_getElem? (i := 158) (by decide +kernel)
theorem wf_6_28 : (Cond.fieldLink RX6 28 "LocatorMapper$Servers" "count" "I") ∈ lw_tbl := List.mem_of_getElem? (i := 159) (by decide +kernel)
theorem wf_7_152 : (Cond.fieldLink RX7 152 "LocatorMapper$Servers" "count" "I") ∈ lw_tbl := List.mem_of_getElem? (i := 160) (by decide +kernel)
theorem wcl_7_23 : (Cond.classLink RX7 23 RX5) ∈ lw_tbl := List.mem_of_getElem? (i := 173) (by decide +kernel)
theorem wnew_5 : (Cond.instantiable RX5 3) ∈ lw_tbl := List.mem_of_getElem? (i := 175) (by decide +kernel)
theorem wm_7_42 : (Cond.methodLink RX7 42 yX5_init) ∈ lw_tbl := List.mem_of_getElem? (i := 176) (by decide +kernel)
theorem wi_X5_init : (Cond.instanceMethod yX5_init) ∈ lw_tbl := List.mem_of_getElem? (i := 177) (by decide +kernel)
theorem wc_X5_init : (Cond.code yX5_init cX5_init 2 (none)) ∈ lw_tbl := List.mem_of_getElem? (i := 178) (by decide +kernel)
theorem wm_5_3 : (Cond.methodLink RX5 3 (⟨"java/lang/Object", "<init>", "()V"⟩ : MethodName)) ∈ lw_tbl := List.mem_of_getElem? (i := 179) (by decide +kernel)
theorem wcl_5_9 : (Cond.classLink RX5 9 RX0) ∈ lw_tbl := List.mem_of_getElem? (i := 180) (by decide +kernel)
theorem wnew_0 : (Cond.instantiable RX0 7) ∈ lw_tbl := List.mem_of_getElem? (i := 182) (by decide +kernel)
theorem wi_X0_init : (Cond.instanceMethod yX0_init) ∈ lw_tbl := List.mem_of_getElem? (i := 184) (by decide +kernel)
theorem wc_X0_init : (Cond.code yX0_init cX0_init 1 (none)) ∈ lw_tbl := List.mem_of_getElem? (i := 185) (by decide +kernel)
theorem wm_0_3 : (Cond.methodLink RX0 3 (⟨"java/lang/Object", "<init>", "()V"⟩ : MethodName)) ∈ lw_tbl := List.mem_of_getElem? (i := 186) (by decide +kernel)
theorem wcl_0_9 : (Cond.classLink RX0 9 RX3) ∈ lw_tbl := List.mem_of_getElem? (i := 187) (by decide +kernel)
theorem wcl_0_18 : (Cond.classLink RX0 18 RX1) ∈ lw_tbl := List.mem_of_getElem? (i := 189) (by decide +kernel)
theorem wf_0_12 : (Cond.fieldLink RX0 12 "LocatorMapper$Entry" "prefix" "LLocatorMapper$Prefix;") ∈ lw_tbl := List.mem_of_getElem? (i := 191) (by decide +kernel)
theorem wf_5_34 : (Cond.fieldLink RX5 34 "LocatorMapper$Entry" "prefix" "LLocatorMapper$Prefix;") ∈ lw_tbl := List.mem_of_getElem? (i := 192) (by decide +kernel)
theorem wf_7_198 : (Cond.fieldLink RX7 198 "LocatorMapper$Entry" "prefix" "LLocatorMapper$Prefix;") ∈ lw_tbl := List.mem_of_getElem? (i := 193) (by decide +kernel)
theorem wf_0_21 : (Cond.fieldLink RX0 21 "LocatorMapper$Entry" "locators" "LLocatorMapper$Locators;") ∈ lw_tbl := List.mem_of_getElem? (i := 194) (by decide +kernel)
theorem wf_7_221 : (Cond.fieldLink RX7 221 "LocatorMapper$Entry" "locators" "LLocatorMapper$Locators;") ∈ lw_tbl := List.mem_of_getElem? (i := 195) (by decide +kernel)
theorem wf_0_25 : (Cond.fieldLink RX0 25 "LocatorMapper$Entry" "packets" "[I") ∈ lw_tbl := List.mem_of_getElem? (i := 196) (by decide +kernel)
theorem wf_7_222 : (Cond.fieldLink RX7 222 "LocatorMapper$Entry" "packets" "[I") ∈ lw_tbl := List.mem_of_getElem? (i := 197) (by decide +kernel)
theorem wf_0_29 : (Cond.fieldLink RX0 29 "LocatorMapper$Entry" "mapping" "I") ∈ lw_tbl := List.mem_of_getElem? (i := 198) (by decide +kernel)
theorem wf_7_207 : (Cond.fieldLink RX7 207 "LocatorMapper$Entry" "mapping" "I") ∈ lw_tbl := List.mem_of_getElem? (i := 199) (by decide +kernel)
theorem wf_0_33 : (Cond.fieldLink RX0 33 "LocatorMapper$Entry" "version" "I") ∈ lw_tbl := List.mem_of_getElem? (i := 200) (by decide +kernel)
theorem wf_7_210 : (Cond.fieldLink RX7 210 "LocatorMapper$Entry" "version" "I") ∈ lw_tbl := List.mem_of_getElem? (i := 201) (by decide +kernel)
theorem wf_0_36 : (Cond.fieldLink RX0 36 "LocatorMapper$Entry" "end" "I") ∈ lw_tbl := List.mem_of_getElem? (i := 202) (by decide +kernel)
theorem wf_7_218 : (Cond.fieldLink RX7 218 "LocatorMapper$Entry" "end" "I") ∈ lw_tbl := List.mem_of_getElem? (i := 203) (by decide +kernel)
theorem wf_0_39 : (Cond.fieldLink RX0 39 "LocatorMapper$Entry" "isSolicited" "Z") ∈ lw_tbl := List.mem_of_getElem? (i := 204) (by decide +kernel)
theorem wf_5_26 : (Cond.fieldLink RX5 26 "LocatorMapper$Entry" "isSolicited" "Z") ∈ lw_tbl := List.mem_of_getElem? (i := 205) (by decide +kernel)
theorem wf_7_211 : (Cond.fieldLink RX7 211 "LocatorMapper$Entry" "isSolicited" "Z") ∈ lw_tbl := List.mem_of_getElem? (i := 206) (by decide +kernel)
theorem wf_5_11 : (Cond.fieldLink RX5 11 "LocatorMapper$Router" "entries" "[LLocatorMapper$Entry;") ∈ lw_tbl := List.mem_of_getElem? (i := 222) (by decide +kernel)
theorem wf_7_235 : (Cond.fieldLink RX7 235 "LocatorMapper$Router" "entries" "[LLocatorMapper$Entry;") ∈ lw_tbl := List.mem_of_getElem? (i := 223) (by decide +kernel)
theorem wf_5_17 : (Cond.fieldLink RX5 17 "LocatorMapper$Router" "isUnreachable" "[Z") ∈ lw_tbl := List.mem_of_getElem? (i := 224) (by decide +kernel)
theorem wf_7_181 : (Cond.fieldLink RX7 181 "LocatorMapper$Router" "isUnreachable" "[Z") ∈ lw_tbl := List.mem_of_getElem? (i := 225) (by decide +kernel)
theorem wf_5_21 : (Cond.fieldLink RX5 21 "LocatorMapper$Router" "count" "I") ∈ lw_tbl := List.mem_of_getElem? (i := 226) (by decide +kernel)
theorem wf_7_193 : (Cond.fieldLink RX7 193 "LocatorMapper$Router" "count" "I") ∈ lw_tbl := List.mem_of_getElem? (i := 227) (by decide +kernel)
theorem wf_7_12 : (Cond.fieldLink RX7 12 "LocatorMapper" "registry" "LLocatorMapper$Registry;") ∈ lw_tbl := List.mem_of_getElem? (i := 235) (by decide +kernel)
theorem wf_7_19 : (Cond.fieldLink RX7 19 "LocatorMapper" "servers" "LLocatorMapper$Servers;") ∈ lw_tbl := List.mem_of_getElem? (i := 236) (by decide +kernel)
theorem wf_7_25 : (Cond.fieldLink RX7 25 "LocatorMapper" "routers" "[LLocatorMapper$Router;") ∈ lw_tbl := List.mem_of_getElem? (i := 237) (by decide +kernel)
theorem wf_7_29 : (Cond.fieldLink RX7 29 "LocatorMapper" "time" "I") ∈ lw_tbl := List.mem_of_getElem? (i := 238) (by decide +kernel)
theorem wf_7_33 : (Cond.fieldLink RX7 33 "LocatorMapper" "positiveLifetime" "I") ∈ lw_tbl := List.mem_of_getElem? (i := 239) (by decide +kernel)
theorem wf_7_36 : (Cond.fieldLink RX7 36 "LocatorMapper" "negativeLifetime" "I") ∈ lw_tbl := List.mem_of_getElem? (i := 240) (by decide +kernel)
theorem wf_7_39 : (Cond.fieldLink RX7 39 "LocatorMapper" "solicited" "I") ∈ lw_tbl := List.mem_of_getElem? (i := 241) (by decide +kernel)
theorem wm_L_163 : (Cond.methodLink RL 163 yX7_solicitations) ∈ lw_tbl := List.mem_of_getElem? (i := 257) (by decide +kernel)
theorem wi_X7_solicitations : (Cond.instanceMethod yX7_solicitations) ∈ lw_tbl := List.mem_of_getElem? (i := 258) (by decide +kernel)
theorem wse_X7_solicitations : (Cond.selects RX7 yX7_solicitations yX7_solicitations) ∈ lw_tbl := List.mem_of_getElem? (i := 259) (by decide +kernel)
theorem wc_X7_solicitations : (Cond.code yX7_solicitations cX7_solicitations 1 (some .int)) ∈ lw_tbl := List.mem_of_getElem? (i := 260) (by decide +kernel)
theorem wm_L_88 : (Cond.methodLink RL 88 yL_register) ∈ lw_tbl := List.mem_of_getElem? (i := 261) (by decide +kernel)
theorem wst_L_register : (Cond.static yL_register) ∈ lw_tbl := List.mem_of_getElem? (i := 262) (by decide +kernel)
theorem wcl_L_13 : (Cond.classLink RL 13 "java/lang/IllegalArgumentException") ∈ lw_tbl := List.mem_of_getElem? (i := 264) (by decide +kernel)
theorem wcl_L_15 : (Cond.classLink RL 15 "java/lang/IllegalStateException") ∈ lw_tbl := List.mem_of_getElem? (i := 265) (by decide +kernel)
theorem wm_L_7 : (Cond.methodLink RL 7 yX7_register) ∈ lw_tbl := List.mem_of_getElem? (i := 266) (by decide +kernel)
theorem wi_X7_register : (Cond.instanceMethod yX7_register) ∈ lw_tbl := List.mem_of_getElem? (i := 267) (by decide +kernel)
theorem wse_X7_register : (Cond.selects RX7 yX7_register yX7_register) ∈ lw_tbl := List.mem_of_getElem? (i := 268) (by decide +kernel)
theorem wc_X7_register : (Cond.code yX7_register cX7_register 4 (some .int)) ∈ lw_tbl := List.mem_of_getElem? (i := 269) (by decide +kernel)
theorem wm_7_43 : (Cond.methodLink RX7 43 yX7_requirePrefix) ∈ lw_tbl := List.mem_of_getElem? (i := 270) (by decide +kernel)
theorem wst_X7_requirePrefix : (Cond.static yX7_requirePrefix) ∈ lw_tbl := List.mem_of_getElem? (i := 271) (by decide +kernel)
theorem wc_X7_requirePrefix : (Cond.code yX7_requirePrefix cX7_requirePrefix 2 (none)) ∈ lw_tbl := List.mem_of_getElem? (i := 272) (by decide +kernel)
theorem wm_7_135 : (Cond.methodLink RX7 135 yX7_requireIdentifier) ∈ lw_tbl := List.mem_of_getElem? (i := 273) (by decide +kernel)
theorem wst_X7_requireIdentifier : (Cond.static yX7_requireIdentifier) ∈ lw_tbl := List.mem_of_getElem? (i := 274) (by decide +kernel)
theorem wc_X7_requireIdentifier : (Cond.code yX7_requireIdentifier cX7_requireIdentifier 1 (none)) ∈ lw_tbl := List.mem_of_getElem? (i := 275) (by decide +kernel)
theorem wk_7_259 : (Cond.constant RX7 259 65535) ∈ lw_tbl := List.mem_of_getElem? (i := 276) (by decide +kernel)
theorem wm_7_99 : (Cond.methodLink RX7 99 yX7_requireWithin) ∈ lw_tbl := List.mem_of_getElem? (i := 277) (by decide +kernel)
theorem wst_X7_requireWithin : (Cond.static yX7_requireWithin) ∈ lw_tbl := List.mem_of_getElem? (i := 278) (by decide +kernel)
theorem wc_X7_requireWithin : (Cond.code yX7_requireWithin cX7_requireWithin 3 (none)) ∈ lw_tbl := List.mem_of_getElem? (i := 279) (by decide +kernel)
theorem wcl_7_254 : (Cond.classLink RX7 254 "java/lang/IllegalArgumentException") ∈ lw_tbl := List.mem_of_getElem? (i := 280) (by decide +kernel)
theorem wnew_IllegalArgumentException : (Cond.instantiable "java/lang/IllegalArgumentException" 6) ∈ lw_tbl := List.mem_of_getElem? (i := 281) (by decide +kernel)
theorem wnew_Throwable : (Cond.instantiable "java/lang/Throwable" 6) ∈ lw_tbl := List.mem_of_getElem? (i := 319) (by decide +kernel)
theorem wm_7_258 : (Cond.methodLink RX7 258 (⟨"java/lang/IllegalArgumentException", "<init>", "(Ljava/lang/String;)V"⟩ : MethodName)) ∈ lw_tbl := List.mem_of_getElem? (i := 322) (by decide +kernel)
theorem wm_7_229 : (Cond.methodLink RX7 229 yX7_firstBits) ∈ lw_tbl := List.mem_of_getElem? (i := 348) (by decide +kernel)
theorem wst_X7_firstBits : (Cond.static yX7_firstBits) ∈ lw_tbl := List.mem_of_getElem? (i := 349) (by decide +kernel)
theorem wc_X7_firstBits : (Cond.code yX7_firstBits cX7_firstBits 2 (some .int)) ∈ lw_tbl := List.mem_of_getElem? (i := 350) (by decide +kernel)
theorem wm_7_50 : (Cond.methodLink RX7 50 yX4_has) ∈ lw_tbl := List.mem_of_getElem? (i := 352) (by decide +kernel)
theorem wi_X4_has : (Cond.instanceMethod yX4_has) ∈ lw_tbl := List.mem_of_getElem? (i := 353) (by decide +kernel)
theorem wse_X4_has : (Cond.selects RX4 yX4_has yX4_has) ∈ lw_tbl := List.mem_of_getElem? (i := 354) (by decide +kernel)
theorem wc_X4_has : (Cond.code yX4_has cX4_has 4 (some .boolean)) ∈ lw_tbl := List.mem_of_getElem? (i := 355) (by decide +kernel)
theorem wm_4_36 : (Cond.methodLink RX4 36 yX3_is) ∈ lw_tbl := List.mem_of_getElem? (i := 356) (by decide +kernel)
theorem wi_X3_is : (Cond.instanceMethod yX3_is) ∈ lw_tbl := List.mem_of_getElem? (i := 357) (by decide +kernel)
theorem wse_X3_is : (Cond.selects RX3 yX3_is yX3_is) ∈ lw_tbl := List.mem_of_getElem? (i := 358) (by decide +kernel)
theorem wc_X3_is : (Cond.code yX3_is cX3_is 3 (some .boolean)) ∈ lw_tbl := List.mem_of_getElem? (i := 359) (by decide +kernel)
theorem wcl_7_54 : (Cond.classLink RX7 54 "java/lang/IllegalStateException") ∈ lw_tbl := List.mem_of_getElem? (i := 360) (by decide +kernel)
theorem wnew_IllegalStateException : (Cond.instantiable "java/lang/IllegalStateException" 6) ∈ lw_tbl := List.mem_of_getElem? (i := 361) (by decide +kernel)
theorem wm_7_58 : (Cond.methodLink RX7 58 (⟨"java/lang/IllegalStateException", "<init>", "(Ljava/lang/String;)V"⟩ : MethodName)) ∈ lw_tbl := List.mem_of_getElem? (i := 370) (by decide +kernel)
theorem wm_7_61 : (Cond.methodLink RX7 61 yX4_add) ∈ lw_tbl := List.mem_of_getElem? (i := 376) (by decide +kernel)
theorem wi_X4_add : (Cond.instanceMethod yX4_add) ∈ lw_tbl := List.mem_of_getElem? (i := 377) (by decide +kernel)
theorem wse_X4_add : (Cond.selects RX4 yX4_add yX4_add) ∈ lw_tbl := List.mem_of_getElem? (i := 378) (by decide +kernel)
theorem wc_X4_add : (Cond.code yX4_add cX4_add 4 (some .int)) ∈ lw_tbl := List.mem_of_getElem? (i := 379) (by decide +kernel)
theorem wm_4_26 : (Cond.methodLink RX4 26 yX3_set) ∈ lw_tbl := List.mem_of_getElem? (i := 380) (by decide +kernel)
theorem wi_X3_set : (Cond.instanceMethod yX3_set) ∈ lw_tbl := List.mem_of_getElem? (i := 381) (by decide +kernel)
theorem wse_X3_set : (Cond.selects RX3 yX3_set yX3_set) ∈ lw_tbl := List.mem_of_getElem? (i := 382) (by decide +kernel)
theorem wc_X3_set : (Cond.code yX3_set cX3_set 3 (none)) ∈ lw_tbl := List.mem_of_getElem? (i := 383) (by decide +kernel)
theorem wm_7_75 : (Cond.methodLink RX7 75 yX7_solicit) ∈ lw_tbl := List.mem_of_getElem? (i := 384) (by decide +kernel)
theorem wpr_X7_solicit : (Cond.privateMethod yX7_solicit) ∈ lw_tbl := List.mem_of_getElem? (i := 385) (by decide +kernel)
theorem wi_X7_solicit : (Cond.instanceMethod yX7_solicit) ∈ lw_tbl := List.mem_of_getElem? (i := 386) (by decide +kernel)
theorem wc_X7_solicit : (Cond.code yX7_solicit cX7_solicit 3 (none)) ∈ lw_tbl := List.mem_of_getElem? (i := 387) (by decide +kernel)
theorem wm_7_225 : (Cond.methodLink RX7 225 yX5_solicitMeeting) ∈ lw_tbl := List.mem_of_getElem? (i := 388) (by decide +kernel)
theorem wi_X5_solicitMeeting : (Cond.instanceMethod yX5_solicitMeeting) ∈ lw_tbl := List.mem_of_getElem? (i := 389) (by decide +kernel)
theorem wse_X5_solicitMeeting : (Cond.selects RX5 yX5_solicitMeeting yX5_solicitMeeting) ∈ lw_tbl := List.mem_of_getElem? (i := 390) (by decide +kernel)
theorem wc_X5_solicitMeeting : (Cond.code yX5_solicitMeeting cX5_solicitMeeting 5 (some .int)) ∈ lw_tbl := List.mem_of_getElem? (i := 391) (by decide +kernel)
theorem wm_5_49 : (Cond.methodLink RX5 49 yX3_meets) ∈ lw_tbl := List.mem_of_getElem? (i := 392) (by decide +kernel)
theorem wi_X3_meets : (Cond.instanceMethod yX3_meets) ∈ lw_tbl := List.mem_of_getElem? (i := 393) (by decide +kernel)
theorem wse_X3_meets : (Cond.selects RX3 yX3_meets yX3_meets) ∈ lw_tbl := List.mem_of_getElem? (i := 394) (by decide +kernel)
theorem wc_X3_meets : (Cond.code yX3_meets cX3_meets 4 (some .boolean)) ∈ lw_tbl := List.mem_of_getElem? (i := 395) (by decide +kernel)
theorem wm_3_18 : (Cond.methodLink RX3 18 (⟨"java/lang/Math", "min", "(II)I"⟩ : MethodName)) ∈ lw_tbl := List.mem_of_getElem? (i := 396) (by decide +kernel)
theorem wst__Math_min : (Cond.static (⟨"java/lang/Math", "min", "(II)I"⟩ : MethodName)) ∈ lw_tbl := List.mem_of_getElem? (i := 397) (by decide +kernel)
theorem wc__Math_min : (Cond.code (⟨"java/lang/Math", "min", "(II)I"⟩ : MethodName) prog_15_method_69_code 2 (some .int)) ∈ lw_tbl := List.mem_of_getElem? (i := 398) (by decide +kernel)
theorem wm_L_98 : (Cond.methodLink RL 98 yL_withdraw) ∈ lw_tbl := List.mem_of_getElem? (i := 399) (by decide +kernel)
theorem wst_L_withdraw : (Cond.static yL_withdraw) ∈ lw_tbl := List.mem_of_getElem? (i := 400) (by decide +kernel)
theorem wcl_L_21 : (Cond.classLink RL 21 "java/lang/IndexOutOfBoundsException") ∈ lw_tbl := List.mem_of_getElem? (i := 402) (by decide +kernel)
theorem wm_L_17 : (Cond.methodLink RL 17 yX7_withdraw) ∈ lw_tbl := List.mem_of_getElem? (i := 403) (by decide +kernel)
theorem wi_X7_withdraw : (Cond.instanceMethod yX7_withdraw) ∈ lw_tbl := List.mem_of_getElem? (i := 404) (by decide +kernel)
theorem wse_X7_withdraw : (Cond.selects RX7 yX7_withdraw yX7_withdraw) ∈ lw_tbl := List.mem_of_getElem? (i := 405) (by decide +kernel)
theorem wc_X7_withdraw : (Cond.code yX7_withdraw cX7_withdraw 3 (some .int)) ∈ lw_tbl := List.mem_of_getElem? (i := 406) (by decide +kernel)
theorem wm_7_79 : (Cond.methodLink RX7 79 yX7_requireMapping) ∈ lw_tbl := List.mem_of_getElem? (i := 407) (by decide +kernel)
theorem wpr_X7_requireMapping : (Cond.privateMethod yX7_requireMapping) ∈ lw_tbl := List.mem_of_getElem? (i := 408) (by decide +kernel)
theorem wi_X7_requireMapping : (Cond.instanceMethod yX7_requireMapping) ∈ lw_tbl := List.mem_of_getElem? (i := 409) (by decide +kernel)
theorem wc_X7_requireMapping : (Cond.code yX7_requireMapping cX7_requireMapping 2 (Option.some (.object "LocatorMapper$Mapping"))) ∈ lw_tbl := List.mem_of_getElem? (i := 410) (by decide +kernel)
theorem wm_7_147 : (Cond.methodLink RX7 147 yX7_requireIndex) ∈ lw_tbl := List.mem_of_getElem? (i := 411) (by decide +kernel)
theorem wst_X7_requireIndex : (Cond.static yX7_requireIndex) ∈ lw_tbl := List.mem_of_getElem? (i := 412) (by decide +kernel)
theorem wc_X7_requireIndex : (Cond.code yX7_requireIndex cX7_requireIndex 2 (none)) ∈ lw_tbl := List.mem_of_getElem? (i := 413) (by decide +kernel)
theorem wcl_7_249 : (Cond.classLink RX7 249 "java/lang/IndexOutOfBoundsException") ∈ lw_tbl := List.mem_of_getElem? (i := 414) (by decide +kernel)
theorem wnew_IndexOutOfBoundsException : (Cond.instantiable "java/lang/IndexOutOfBoundsException" 6) ∈ lw_tbl := List.mem_of_getElem? (i := 415) (by decide +kernel)
theorem wm_7_253 : (Cond.methodLink RX7 253 (⟨"java/lang/IndexOutOfBoundsException", "<init>", "(Ljava/lang/String;)V"⟩ : MethodName)) ∈ lw_tbl := List.mem_of_getElem? (i := 424) (by decide +kernel)
theorem wm_7_83 : (Cond.methodLink RX7 83 yX7_requireRegistered) ∈ lw_tbl := List.mem_of_getElem? (i := 430) (by decide +kernel)
theorem wst_X7_requireRegistered : (Cond.static yX7_requireRegistered) ∈ lw_tbl := List.mem_of_getElem? (i := 431) (by decide +kernel)
theorem wc_X7_requireRegistered : (Cond.code yX7_requireRegistered cX7_requireRegistered 1 (none)) ∈ lw_tbl := List.mem_of_getElem? (i := 432) (by decide +kernel)
theorem wm_7_91 : (Cond.methodLink RX7 91 yX4_countRegistered) ∈ lw_tbl := List.mem_of_getElem? (i := 434) (by decide +kernel)
theorem wi_X4_countRegistered : (Cond.instanceMethod yX4_countRegistered) ∈ lw_tbl := List.mem_of_getElem? (i := 435) (by decide +kernel)
theorem wse_X4_countRegistered : (Cond.selects RX4 yX4_countRegistered yX4_countRegistered) ∈ lw_tbl := List.mem_of_getElem? (i := 436) (by decide +kernel)
theorem wc_X4_countRegistered : (Cond.code yX4_countRegistered cX4_countRegistered 3 (some .int)) ∈ lw_tbl := List.mem_of_getElem? (i := 437) (by decide +kernel)
theorem wm_L_102 : (Cond.methodLink RL 102 yL_addLocator) ∈ lw_tbl := List.mem_of_getElem? (i := 438) (by decide +kernel)
theorem wst_L_addLocator : (Cond.static yL_addLocator) ∈ lw_tbl := List.mem_of_getElem? (i := 439) (by decide +kernel)
theorem wm_L_23 : (Cond.methodLink RL 23 yX7_addLocator) ∈ lw_tbl := List.mem_of_getElem? (i := 441) (by decide +kernel)
theorem wi_X7_addLocator : (Cond.instanceMethod yX7_addLocator) ∈ lw_tbl := List.mem_of_getElem? (i := 442) (by decide +kernel)
theorem wse_X7_addLocator : (Cond.selects RX7 yX7_addLocator yX7_addLocator) ∈ lw_tbl := List.mem_of_getElem? (i := 443) (by decide +kernel)
theorem wc_X7_addLocator : (Cond.code yX7_addLocator cX7_addLocator 7 (some .int)) ∈ lw_tbl := List.mem_of_getElem? (i := 444) (by decide +kernel)
theorem wm_7_95 : (Cond.methodLink RX7 95 yX7_requireAddress) ∈ lw_tbl := List.mem_of_getElem? (i := 445) (by decide +kernel)
theorem wst_X7_requireAddress : (Cond.static yX7_requireAddress) ∈ lw_tbl := List.mem_of_getElem? (i := 446) (by decide +kernel)
theorem wc_X7_requireAddress : (Cond.code yX7_requireAddress cX7_requireAddress 1 (none)) ∈ lw_tbl := List.mem_of_getElem? (i := 447) (by decide +kernel)
theorem wm_7_110 : (Cond.methodLink RX7 110 yX1_placeOf) ∈ lw_tbl := List.mem_of_getElem? (i := 448) (by decide +kernel)
theorem wi_X1_placeOf : (Cond.instanceMethod yX1_placeOf) ∈ lw_tbl := List.mem_of_getElem? (i := 449) (by decide +kernel)
theorem wse_X1_placeOf : (Cond.selects RX1 yX1_placeOf yX1_placeOf) ∈ lw_tbl := List.mem_of_getElem? (i := 450) (by decide +kernel)
theorem wc_X1_placeOf : (Cond.code yX1_placeOf cX1_placeOf 3 (some .int)) ∈ lw_tbl := List.mem_of_getElem? (i := 451) (by decide +kernel)
theorem wm_7_116 : (Cond.methodLink RX7 116 yX1_add) ∈ lw_tbl := List.mem_of_getElem? (i := 453) (by decide +kernel)
theorem wi_X1_add : (Cond.instanceMethod yX1_add) ∈ lw_tbl := List.mem_of_getElem? (i := 454) (by decide +kernel)
theorem wse_X1_add : (Cond.selects RX1 yX1_add yX1_add) ∈ lw_tbl := List.mem_of_getElem? (i := 455) (by decide +kernel)
theorem wc_X1_add : (Cond.code yX1_add cX1_add 4 (none)) ∈ lw_tbl := List.mem_of_getElem? (i := 456) (by decide +kernel)
theorem wm_7_118 : (Cond.methodLink RX7 118 yX7_tellChange) ∈ lw_tbl := List.mem_of_getElem? (i := 457) (by decide +kernel)
theorem wpr_X7_tellChange : (Cond.privateMethod yX7_tellChange) ∈ lw_tbl := List.mem_of_getElem? (i := 458) (by decide +kernel)
theorem wi_X7_tellChange : (Cond.instanceMethod yX7_tellChange) ∈ lw_tbl := List.mem_of_getElem? (i := 459) (by decide +kernel)
theorem wc_X7_tellChange : (Cond.code yX7_tellChange cX7_tellChange 2 (some .int)) ∈ lw_tbl := List.mem_of_getElem? (i := 460) (by decide +kernel)
theorem wm_L_106 : (Cond.methodLink RL 106 yL_move) ∈ lw_tbl := List.mem_of_getElem? (i := 461) (by decide +kernel)
theorem wst_L_move : (Cond.static yL_move) ∈ lw_tbl := List.mem_of_getElem? (i := 462) (by decide +kernel)
theorem wm_L_27 : (Cond.methodLink RL 27 yX7_move) ∈ lw_tbl := List.mem_of_getElem? (i := 464) (by decide +kernel)
theorem wi_X7_move : (Cond.instanceMethod yX7_move) ∈ lw_tbl := List.mem_of_getElem? (i := 465) (by decide +kernel)
theorem wse_X7_move : (Cond.selects RX7 yX7_move yX7_move) ∈ lw_tbl := List.mem_of_getElem? (i := 466) (by decide +kernel)
theorem wc_X7_move : (Cond.code yX7_move cX7_move 6 (some .int)) ∈ lw_tbl := List.mem_of_getElem? (i := 467) (by decide +kernel)
theorem wm_7_122 : (Cond.methodLink RX7 122 yX7_requireLocator) ∈ lw_tbl := List.mem_of_getElem? (i := 468) (by decide +kernel)
theorem wst_X7_requireLocator : (Cond.static yX7_requireLocator) ∈ lw_tbl := List.mem_of_getElem? (i := 469) (by decide +kernel)
theorem wc_X7_requireLocator : (Cond.code yX7_requireLocator cX7_requireLocator 3 (some .int)) ∈ lw_tbl := List.mem_of_getElem? (i := 470) (by decide +kernel)
theorem wm_L_110 : (Cond.methodLink RL 110 yL_removeLocator) ∈ lw_tbl := List.mem_of_getElem? (i := 473) (by decide +kernel)
theorem wst_L_removeLocator : (Cond.static yL_removeLocator) ∈ lw_tbl := List.mem_of_getElem? (i := 474) (by decide +kernel)
theorem wm_L_31 : (Cond.methodLink RL 31 yX7_removeLocator) ∈ lw_tbl := List.mem_of_getElem? (i := 476) (by decide +kernel)
theorem wi_X7_removeLocator : (Cond.instanceMethod yX7_removeLocator) ∈ lw_tbl := List.mem_of_getElem? (i := 477) (by decide +kernel)
theorem wse_X7_removeLocator : (Cond.selects RX7 yX7_removeLocator yX7_removeLocator) ∈ lw_tbl := List.mem_of_getElem? (i := 478) (by decide +kernel)
theorem wc_X7_removeLocator : (Cond.code yX7_removeLocator cX7_removeLocator 5 (some .int)) ∈ lw_tbl := List.mem_of_getElem? (i := 479) (by decide +kernel)
theorem wm_7_132 : (Cond.methodLink RX7 132 yX1_removeAt) ∈ lw_tbl := List.mem_of_getElem? (i := 480) (by decide +kernel)
theorem wi_X1_removeAt : (Cond.instanceMethod yX1_removeAt) ∈ lw_tbl := List.mem_of_getElem? (i := 481) (by decide +kernel)
theorem wse_X1_removeAt : (Cond.selects RX1 yX1_removeAt yX1_removeAt) ∈ lw_tbl := List.mem_of_getElem? (i := 482) (by decide +kernel)
theorem wc_X1_removeAt : (Cond.code yX1_removeAt cX1_removeAt 3 (none)) ∈ lw_tbl := List.mem_of_getElem? (i := 483) (by decide +kernel)
theorem wm_L_113 : (Cond.methodLink RL 113 yL_mappingOf) ∈ lw_tbl := List.mem_of_getElem? (i := 484) (by decide +kernel)
theorem wst_L_mappingOf : (Cond.static yL_mappingOf) ∈ lw_tbl := List.mem_of_getElem? (i := 485) (by decide +kernel)
theorem wm_L_34 : (Cond.methodLink RL 34 yX7_mappingOf) ∈ lw_tbl := List.mem_of_getElem? (i := 487) (by decide +kernel)
theorem wi_X7_mappingOf : (Cond.instanceMethod yX7_mappingOf) ∈ lw_tbl := List.mem_of_getElem? (i := 488) (by decide +kernel)
theorem wse_X7_mappingOf : (Cond.selects RX7 yX7_mappingOf yX7_mappingOf) ∈ lw_tbl := List.mem_of_getElem? (i := 489) (by decide +kernel)
theorem wc_X7_mappingOf : (Cond.code yX7_mappingOf cX7_mappingOf 2 (some .int)) ∈ lw_tbl := List.mem_of_getElem? (i := 490) (by decide +kernel)
theorem wm_7_138 : (Cond.methodLink RX7 138 yX4_find) ∈ lw_tbl := List.mem_of_getElem? (i := 491) (by decide +kernel)
theorem wi_X4_find : (Cond.instanceMethod yX4_find) ∈ lw_tbl := List.mem_of_getElem? (i := 492) (by decide +kernel)
theorem wse_X4_find : (Cond.selects RX4 yX4_find yX4_find) ∈ lw_tbl := List.mem_of_getElem? (i := 493) (by decide +kernel)
theorem wc_X4_find : (Cond.code yX4_find cX4_find 6 (some .int)) ∈ lw_tbl := List.mem_of_getElem? (i := 494) (by decide +kernel)
theorem wm_4_43 : (Cond.methodLink RX4 43 yX3_covers) ∈ lw_tbl := List.mem_of_getElem? (i := 495) (by decide +kernel)
theorem wi_X3_covers : (Cond.instanceMethod yX3_covers) ∈ lw_tbl := List.mem_of_getElem? (i := 496) (by decide +kernel)
theorem wse_X3_covers : (Cond.selects RX3 yX3_covers yX3_covers) ∈ lw_tbl := List.mem_of_getElem? (i := 497) (by decide +kernel)
theorem wc_X3_covers : (Cond.code yX3_covers cX3_covers 2 (some .boolean)) ∈ lw_tbl := List.mem_of_getElem? (i := 498) (by decide +kernel)
theorem wm_3_24 : (Cond.methodLink RX3 24 yX3_meets) ∈ lw_tbl := List.mem_of_getElem? (i := 499) (by decide +kernel)
theorem wm_L_116 : (Cond.methodLink RL 116 yL_answerLength) ∈ lw_tbl := List.mem_of_getElem? (i := 500) (by decide +kernel)
theorem wst_L_answerLength : (Cond.static yL_answerLength) ∈ lw_tbl := List.mem_of_getElem? (i := 501) (by decide +kernel)
theorem wm_L_37 : (Cond.methodLink RL 37 yX7_answerLength) ∈ lw_tbl := List.mem_of_getElem? (i := 503) (by decide +kernel)
theorem wi_X7_answerLength : (Cond.instanceMethod yX7_answerLength) ∈ lw_tbl := List.mem_of_getElem? (i := 504) (by decide +kernel)
theorem wse_X7_answerLength : (Cond.selects RX7 yX7_answerLength yX7_answerLength) ∈ lw_tbl := List.mem_of_getElem? (i := 505) (by decide +kernel)
theorem wc_X7_answerLength : (Cond.code yX7_answerLength cX7_answerLength 4 (some .int)) ∈ lw_tbl := List.mem_of_getElem? (i := 506) (by decide +kernel)
theorem wm_7_141 : (Cond.methodLink RX7 141 yX4_narrow) ∈ lw_tbl := List.mem_of_getElem? (i := 507) (by decide +kernel)
theorem wi_X4_narrow : (Cond.instanceMethod yX4_narrow) ∈ lw_tbl := List.mem_of_getElem? (i := 508) (by decide +kernel)
theorem wse_X4_narrow : (Cond.selects RX4 yX4_narrow yX4_narrow) ∈ lw_tbl := List.mem_of_getElem? (i := 509) (by decide +kernel)
theorem wc_X4_narrow : (Cond.code yX4_narrow cX4_narrow 5 (some .int)) ∈ lw_tbl := List.mem_of_getElem? (i := 510) (by decide +kernel)
theorem wm_4_47 : (Cond.methodLink RX4 47 (⟨"java/lang/Math", "max", "(II)I"⟩ : MethodName)) ∈ lw_tbl := List.mem_of_getElem? (i := 511) (by decide +kernel)
theorem wst__Math_max : (Cond.static (⟨"java/lang/Math", "max", "(II)I"⟩ : MethodName)) ∈ lw_tbl := List.mem_of_getElem? (i := 512) (by decide +kernel)
theorem wc__Math_max : (Cond.code (⟨"java/lang/Math", "max", "(II)I"⟩ : MethodName) prog_15_method_65_code 2 (some .int)) ∈ lw_tbl := List.mem_of_getElem? (i := 513) (by decide +kernel)
theorem wm_4_53 : (Cond.methodLink RX4 53 yX4_hidesLonger) ∈ lw_tbl := List.mem_of_getElem? (i := 514) (by decide +kernel)
theorem wpr_X4_hidesLonger : (Cond.privateMethod yX4_hidesLonger) ∈ lw_tbl := List.mem_of_getElem? (i := 515) (by decide +kernel)
theorem wi_X4_hidesLonger : (Cond.instanceMethod yX4_hidesLonger) ∈ lw_tbl := List.mem_of_getElem? (i := 516) (by decide +kernel)
theorem wc_X4_hidesLonger : (Cond.code yX4_hidesLonger cX4_hidesLonger 6 (some .boolean)) ∈ lw_tbl := List.mem_of_getElem? (i := 517) (by decide +kernel)
theorem wm_4_57 : (Cond.methodLink RX4 57 yX3_meets) ∈ lw_tbl := List.mem_of_getElem? (i := 518) (by decide +kernel)
theorem wm_L_119 : (Cond.methodLink RL 119 yL_version) ∈ lw_tbl := List.mem_of_getElem? (i := 519) (by decide +kernel)
theorem wst_L_version : (Cond.static yL_version) ∈ lw_tbl := List.mem_of_getElem? (i := 520) (by decide +kernel)
theorem wm_L_40 : (Cond.methodLink RL 40 yX7_version) ∈ lw_tbl := List.mem_of_getElem? (i := 522) (by decide +kernel)
theorem wi_X7_version : (Cond.instanceMethod yX7_version) ∈ lw_tbl := List.mem_of_getElem? (i := 523) (by decide +kernel)
theorem wse_X7_version : (Cond.selects RX7 yX7_version yX7_version) ∈ lw_tbl := List.mem_of_getElem? (i := 524) (by decide +kernel)
theorem wc_X7_version : (Cond.code yX7_version cX7_version 3 (some .int)) ∈ lw_tbl := List.mem_of_getElem? (i := 525) (by decide +kernel)
theorem wm_L_122 : (Cond.methodLink RL 122 yL_delegate) ∈ lw_tbl := List.mem_of_getElem? (i := 526) (by decide +kernel)
theorem wst_L_delegate : (Cond.static yL_delegate) ∈ lw_tbl := List.mem_of_getElem? (i := 527) (by decide +kernel)
theorem wm_L_43 : (Cond.methodLink RL 43 yX7_delegate) ∈ lw_tbl := List.mem_of_getElem? (i := 529) (by decide +kernel)
theorem wi_X7_delegate : (Cond.instanceMethod yX7_delegate) ∈ lw_tbl := List.mem_of_getElem? (i := 530) (by decide +kernel)
theorem wse_X7_delegate : (Cond.selects RX7 yX7_delegate yX7_delegate) ∈ lw_tbl := List.mem_of_getElem? (i := 531) (by decide +kernel)
theorem wc_X7_delegate : (Cond.code yX7_delegate cX7_delegate 5 (some .int)) ∈ lw_tbl := List.mem_of_getElem? (i := 532) (by decide +kernel)
theorem wm_7_150 : (Cond.methodLink RX7 150 yX6_placeOf) ∈ lw_tbl := List.mem_of_getElem? (i := 533) (by decide +kernel)
theorem wi_X6_placeOf : (Cond.instanceMethod yX6_placeOf) ∈ lw_tbl := List.mem_of_getElem? (i := 534) (by decide +kernel)
theorem wse_X6_placeOf : (Cond.selects RX6 yX6_placeOf yX6_placeOf) ∈ lw_tbl := List.mem_of_getElem? (i := 535) (by decide +kernel)
theorem wc_X6_placeOf : (Cond.code yX6_placeOf cX6_placeOf 4 (some .int)) ∈ lw_tbl := List.mem_of_getElem? (i := 536) (by decide +kernel)
theorem wm_6_33 : (Cond.methodLink RX6 33 yX3_is) ∈ lw_tbl := List.mem_of_getElem? (i := 537) (by decide +kernel)
theorem wm_7_155 : (Cond.methodLink RX7 155 yX6_add) ∈ lw_tbl := List.mem_of_getElem? (i := 539) (by decide +kernel)
theorem wi_X6_add : (Cond.instanceMethod yX6_add) ∈ lw_tbl := List.mem_of_getElem? (i := 540) (by decide +kernel)
theorem wse_X6_add : (Cond.selects RX6 yX6_add yX6_add) ∈ lw_tbl := List.mem_of_getElem? (i := 541) (by decide +kernel)
theorem wc_X6_add : (Cond.code yX6_add cX6_add 4 (none)) ∈ lw_tbl := List.mem_of_getElem? (i := 542) (by decide +kernel)
theorem wm_6_37 : (Cond.methodLink RX6 37 yX3_set) ∈ lw_tbl := List.mem_of_getElem? (i := 543) (by decide +kernel)
theorem wm_L_125 : (Cond.methodLink RL 125 yL_setUp) ∈ lw_tbl := List.mem_of_getElem? (i := 544) (by decide +kernel)
theorem wst_L_setUp : (Cond.static yL_setUp) ∈ lw_tbl := List.mem_of_getElem? (i := 545) (by decide +kernel)
theorem wm_L_46 : (Cond.methodLink RL 46 yX7_setUp) ∈ lw_tbl := List.mem_of_getElem? (i := 547) (by decide +kernel)
theorem wi_X7_setUp : (Cond.instanceMethod yX7_setUp) ∈ lw_tbl := List.mem_of_getElem? (i := 548) (by decide +kernel)
theorem wse_X7_setUp : (Cond.selects RX7 yX7_setUp yX7_setUp) ∈ lw_tbl := List.mem_of_getElem? (i := 549) (by decide +kernel)
theorem wc_X7_setUp : (Cond.code yX7_setUp cX7_setUp 4 (some .boolean)) ∈ lw_tbl := List.mem_of_getElem? (i := 550) (by decide +kernel)
theorem wm_L_129 : (Cond.methodLink RL 129 yL_serverOf) ∈ lw_tbl := List.mem_of_getElem? (i := 551) (by decide +kernel)
theorem wst_L_serverOf : (Cond.static yL_serverOf) ∈ lw_tbl := List.mem_of_getElem? (i := 552) (by decide +kernel)
theorem wm_L_50 : (Cond.methodLink RL 50 yX7_serverOf) ∈ lw_tbl := List.mem_of_getElem? (i := 554) (by decide +kernel)
theorem wi_X7_serverOf : (Cond.instanceMethod yX7_serverOf) ∈ lw_tbl := List.mem_of_getElem? (i := 555) (by decide +kernel)
theorem wse_X7_serverOf : (Cond.selects RX7 yX7_serverOf yX7_serverOf) ∈ lw_tbl := List.mem_of_getElem? (i := 556) (by decide +kernel)
theorem wc_X7_serverOf : (Cond.code yX7_serverOf cX7_serverOf 2 (some .int)) ∈ lw_tbl := List.mem_of_getElem? (i := 557) (by decide +kernel)
theorem wm_7_163 : (Cond.methodLink RX7 163 yX6_find) ∈ lw_tbl := List.mem_of_getElem? (i := 558) (by decide +kernel)
theorem wi_X6_find : (Cond.instanceMethod yX6_find) ∈ lw_tbl := List.mem_of_getElem? (i := 559) (by decide +kernel)
theorem wse_X6_find : (Cond.selects RX6 yX6_find yX6_find) ∈ lw_tbl := List.mem_of_getElem? (i := 560) (by decide +kernel)
theorem wc_X6_find : (Cond.code yX6_find cX6_find 5 (some .int)) ∈ lw_tbl := List.mem_of_getElem? (i := 561) (by decide +kernel)
theorem wm_6_44 : (Cond.methodLink RX6 44 yX3_covers) ∈ lw_tbl := List.mem_of_getElem? (i := 562) (by decide +kernel)
theorem wm_L_132 : (Cond.methodLink RL 132 yL_answers) ∈ lw_tbl := List.mem_of_getElem? (i := 563) (by decide +kernel)
theorem wst_L_answers : (Cond.static yL_answers) ∈ lw_tbl := List.mem_of_getElem? (i := 564) (by decide +kernel)
theorem wm_L_53 : (Cond.methodLink RL 53 yX7_answers) ∈ lw_tbl := List.mem_of_getElem? (i := 566) (by decide +kernel)
theorem wi_X7_answers : (Cond.instanceMethod yX7_answers) ∈ lw_tbl := List.mem_of_getElem? (i := 567) (by decide +kernel)
theorem wse_X7_answers : (Cond.selects RX7 yX7_answers yX7_answers) ∈ lw_tbl := List.mem_of_getElem? (i := 568) (by decide +kernel)
theorem wc_X7_answers : (Cond.code yX7_answers cX7_answers 2 (some .int)) ∈ lw_tbl := List.mem_of_getElem? (i := 569) (by decide +kernel)
theorem wm_L_135 : (Cond.methodLink RL 135 yL_send) ∈ lw_tbl := List.mem_of_getElem? (i := 570) (by decide +kernel)
theorem wst_L_send : (Cond.static yL_send) ∈ lw_tbl := List.mem_of_getElem? (i := 571) (by decide +kernel)
theorem wm_L_56 : (Cond.methodLink RL 56 yX7_send) ∈ lw_tbl := List.mem_of_getElem? (i := 573) (by decide +kernel)
theorem wi_X7_send : (Cond.instanceMethod yX7_send) ∈ lw_tbl := List.mem_of_getElem? (i := 574) (by decide +kernel)
theorem wse_X7_send : (Cond.selects RX7 yX7_send yX7_send) ∈ lw_tbl := List.mem_of_getElem? (i := 575) (by decide +kernel)
theorem wc_X7_send : (Cond.code yX7_send cX7_send 6 (some .int)) ∈ lw_tbl := List.mem_of_getElem? (i := 576) (by decide +kernel)
theorem wm_7_167 : (Cond.methodLink RX7 167 yX7_requireRouter) ∈ lw_tbl := List.mem_of_getElem? (i := 577) (by decide +kernel)
theorem wpr_X7_requireRouter : (Cond.privateMethod yX7_requireRouter) ∈ lw_tbl := List.mem_of_getElem? (i := 578) (by decide +kernel)
theorem wi_X7_requireRouter : (Cond.instanceMethod yX7_requireRouter) ∈ lw_tbl := List.mem_of_getElem? (i := 579) (by decide +kernel)
theorem wc_X7_requireRouter : (Cond.code yX7_requireRouter cX7_requireRouter 2 (Option.some (.object "LocatorMapper$Router"))) ∈ lw_tbl := List.mem_of_getElem? (i := 580) (by decide +kernel)
theorem wm_7_171 : (Cond.methodLink RX7 171 yX5_find) ∈ lw_tbl := List.mem_of_getElem? (i := 581) (by decide +kernel)
theorem wi_X5_find : (Cond.instanceMethod yX5_find) ∈ lw_tbl := List.mem_of_getElem? (i := 582) (by decide +kernel)
theorem wse_X5_find : (Cond.selects RX5 yX5_find yX5_find) ∈ lw_tbl := List.mem_of_getElem? (i := 583) (by decide +kernel)
theorem wc_X5_find : (Cond.code yX5_find cX5_find 5 (some .int)) ∈ lw_tbl := List.mem_of_getElem? (i := 584) (by decide +kernel)
theorem wm_5_30 : (Cond.methodLink RX5 30 yX0_hasEnded) ∈ lw_tbl := List.mem_of_getElem? (i := 585) (by decide +kernel)
theorem wi_X0_hasEnded : (Cond.instanceMethod yX0_hasEnded) ∈ lw_tbl := List.mem_of_getElem? (i := 586) (by decide +kernel)
theorem wse_X0_hasEnded : (Cond.selects RX0 yX0_hasEnded yX0_hasEnded) ∈ lw_tbl := List.mem_of_getElem? (i := 587) (by decide +kernel)
theorem wc_X0_hasEnded : (Cond.code yX0_hasEnded cX0_hasEnded 2 (some .boolean)) ∈ lw_tbl := List.mem_of_getElem? (i := 588) (by decide +kernel)
theorem wm_5_38 : (Cond.methodLink RX5 38 yX3_covers) ∈ lw_tbl := List.mem_of_getElem? (i := 589) (by decide +kernel)
theorem wm_7_173 : (Cond.methodLink RX7 173 yX7_keepAnswer) ∈ lw_tbl := List.mem_of_getElem? (i := 590) (by decide +kernel)
theorem wpr_X7_keepAnswer : (Cond.privateMethod yX7_keepAnswer) ∈ lw_tbl := List.mem_of_getElem? (i := 591) (by decide +kernel)
theorem wi_X7_keepAnswer : (Cond.instanceMethod yX7_keepAnswer) ∈ lw_tbl := List.mem_of_getElem? (i := 592) (by decide +kernel)
theorem wc_X7_keepAnswer : (Cond.code yX7_keepAnswer cX7_keepAnswer 8 (some .int)) ∈ lw_tbl := List.mem_of_getElem? (i := 593) (by decide +kernel)
theorem wm_7_232 : (Cond.methodLink RX7 232 yX5_makeRoom) ∈ lw_tbl := List.mem_of_getElem? (i := 594) (by decide +kernel)
theorem wi_X5_makeRoom : (Cond.instanceMethod yX5_makeRoom) ∈ lw_tbl := List.mem_of_getElem? (i := 595) (by decide +kernel)
theorem wse_X5_makeRoom : (Cond.selects RX5 yX5_makeRoom yX5_makeRoom) ∈ lw_tbl := List.mem_of_getElem? (i := 596) (by decide +kernel)
theorem wc_X5_makeRoom : (Cond.code yX5_makeRoom cX5_makeRoom 4 (some .int)) ∈ lw_tbl := List.mem_of_getElem? (i := 597) (by decide +kernel)
theorem wm_5_53 : (Cond.methodLink RX5 53 yX5_takeOut) ∈ lw_tbl := List.mem_of_getElem? (i := 598) (by decide +kernel)
theorem wpr_X5_takeOut : (Cond.privateMethod yX5_takeOut) ∈ lw_tbl := List.mem_of_getElem? (i := 599) (by decide +kernel)
theorem wi_X5_takeOut : (Cond.instanceMethod yX5_takeOut) ∈ lw_tbl := List.mem_of_getElem? (i := 600) (by decide +kernel)
theorem wc_X5_takeOut : (Cond.code yX5_takeOut cX5_takeOut 2 (none)) ∈ lw_tbl := List.mem_of_getElem? (i := 601) (by decide +kernel)
theorem wm_5_57 : (Cond.methodLink RX5 57 yX5_moveToEnd) ∈ lw_tbl := List.mem_of_getElem? (i := 602) (by decide +kernel)
theorem wi_X5_moveToEnd : (Cond.instanceMethod yX5_moveToEnd) ∈ lw_tbl := List.mem_of_getElem? (i := 603) (by decide +kernel)
theorem wse_X5_moveToEnd : (Cond.selects RX5 yX5_moveToEnd yX5_moveToEnd) ∈ lw_tbl := List.mem_of_getElem? (i := 604) (by decide +kernel)
theorem wc_X5_moveToEnd : (Cond.code yX5_moveToEnd cX5_moveToEnd 4 (Option.some (.object "LocatorMapper$Entry"))) ∈ lw_tbl := List.mem_of_getElem? (i := 605) (by decide +kernel)
theorem wm_7_239 : (Cond.methodLink RX7 239 yX3_set) ∈ lw_tbl := List.mem_of_getElem? (i := 606) (by decide +kernel)
theorem wm_7_242 : (Cond.methodLink RX7 242 yX0_keepNegative) ∈ lw_tbl := List.mem_of_getElem? (i := 607) (by decide +kernel)
theorem wi_X0_keepNegative : (Cond.instanceMethod yX0_keepNegative) ∈ lw_tbl := List.mem_of_getElem? (i := 608) (by decide +kernel)
theorem wse_X0_keepNegative : (Cond.selects RX0 yX0_keepNegative yX0_keepNegative) ∈ lw_tbl := List.mem_of_getElem? (i := 609) (by decide +kernel)
theorem wc_X0_keepNegative : (Cond.code yX0_keepNegative cX0_keepNegative 2 (none)) ∈ lw_tbl := List.mem_of_getElem? (i := 610) (by decide +kernel)
theorem wm_0_43 : (Cond.methodLink RX0 43 yX1_clear) ∈ lw_tbl := List.mem_of_getElem? (i := 611) (by decide +kernel)
theorem wi_X1_clear : (Cond.instanceMethod yX1_clear) ∈ lw_tbl := List.mem_of_getElem? (i := 612) (by decide +kernel)
theorem wse_X1_clear : (Cond.selects RX1 yX1_clear yX1_clear) ∈ lw_tbl := List.mem_of_getElem? (i := 613) (by decide +kernel)
theorem wc_X1_clear : (Cond.code yX1_clear cX1_clear 1 (none)) ∈ lw_tbl := List.mem_of_getElem? (i := 614) (by decide +kernel)
theorem wm_7_245 : (Cond.methodLink RX7 245 yX0_keepPositive) ∈ lw_tbl := List.mem_of_getElem? (i := 615) (by decide +kernel)
theorem wi_X0_keepPositive : (Cond.instanceMethod yX0_keepPositive) ∈ lw_tbl := List.mem_of_getElem? (i := 616) (by decide +kernel)
theorem wse_X0_keepPositive : (Cond.selects RX0 yX0_keepPositive yX0_keepPositive) ∈ lw_tbl := List.mem_of_getElem? (i := 617) (by decide +kernel)
theorem wc_X0_keepPositive : (Cond.code yX0_keepPositive cX0_keepPositive 5 (none)) ∈ lw_tbl := List.mem_of_getElem? (i := 618) (by decide +kernel)
theorem wm_0_50 : (Cond.methodLink RX0 50 yX1_copy) ∈ lw_tbl := List.mem_of_getElem? (i := 619) (by decide +kernel)
theorem wi_X1_copy : (Cond.instanceMethod yX1_copy) ∈ lw_tbl := List.mem_of_getElem? (i := 620) (by decide +kernel)
theorem wse_X1_copy : (Cond.selects RX1 yX1_copy yX1_copy) ∈ lw_tbl := List.mem_of_getElem? (i := 621) (by decide +kernel)
theorem wc_X1_copy : (Cond.code yX1_copy cX1_copy 3 (none)) ∈ lw_tbl := List.mem_of_getElem? (i := 622) (by decide +kernel)
theorem wm_1_25 : (Cond.methodLink RX1 25 yX1_clear) ∈ lw_tbl := List.mem_of_getElem? (i := 623) (by decide +kernel)
theorem wm_1_28 : (Cond.methodLink RX1 28 yX1_add) ∈ lw_tbl := List.mem_of_getElem? (i := 624) (by decide +kernel)
theorem wm_7_177 : (Cond.methodLink RX7 177 yX5_moveToEnd) ∈ lw_tbl := List.mem_of_getElem? (i := 625) (by decide +kernel)
theorem wm_7_184 : (Cond.methodLink RX7 184 yX0_sendPacket) ∈ lw_tbl := List.mem_of_getElem? (i := 626) (by decide +kernel)
theorem wi_X0_sendPacket : (Cond.instanceMethod yX0_sendPacket) ∈ lw_tbl := List.mem_of_getElem? (i := 627) (by decide +kernel)
theorem wse_X0_sendPacket : (Cond.selects RX0 yX0_sendPacket yX0_sendPacket) ∈ lw_tbl := List.mem_of_getElem? (i := 628) (by decide +kernel)
theorem wc_X0_sendPacket : (Cond.code yX0_sendPacket cX0_sendPacket 3 (some .int)) ∈ lw_tbl := List.mem_of_getElem? (i := 629) (by decide +kernel)
theorem wm_0_54 : (Cond.methodLink RX0 54 yX0_bestPriority) ∈ lw_tbl := List.mem_of_getElem? (i := 630) (by decide +kernel)
theorem wpr_X0_bestPriority : (Cond.privateMethod yX0_bestPriority) ∈ lw_tbl := List.mem_of_getElem? (i := 631) (by decide +kernel)
theorem wi_X0_bestPriority : (Cond.instanceMethod yX0_bestPriority) ∈ lw_tbl := List.mem_of_getElem? (i := 632) (by decide +kernel)
theorem wc_X0_bestPriority : (Cond.code yX0_bestPriority cX0_bestPriority 4 (some .int)) ∈ lw_tbl := List.mem_of_getElem? (i := 633) (by decide +kernel)
theorem wm_0_71 : (Cond.methodLink RX0 71 (⟨"java/lang/Math", "min", "(II)I"⟩ : MethodName)) ∈ lw_tbl := List.mem_of_getElem? (i := 634) (by decide +kernel)
theorem wm_0_58 : (Cond.methodLink RX0 58 yX0_choose) ∈ lw_tbl := List.mem_of_getElem? (i := 635) (by decide +kernel)
theorem wpr_X0_choose : (Cond.privateMethod yX0_choose) ∈ lw_tbl := List.mem_of_getElem? (i := 636) (by decide +kernel)
theorem wi_X0_choose : (Cond.instanceMethod yX0_choose) ∈ lw_tbl := List.mem_of_getElem? (i := 637) (by decide +kernel)
theorem wc_X0_choose : (Cond.code yX0_choose cX0_choose 9 (some .int)) ∈ lw_tbl := List.mem_of_getElem? (i := 638) (by decide +kernel)
theorem wm_0_77 : (Cond.methodLink RX0 77 yX0_isLookedAt) ∈ lw_tbl := List.mem_of_getElem? (i := 639) (by decide +kernel)
theorem wpr_X0_isLookedAt : (Cond.privateMethod yX0_isLookedAt) ∈ lw_tbl := List.mem_of_getElem? (i := 640) (by decide +kernel)
theorem wi_X0_isLookedAt : (Cond.instanceMethod yX0_isLookedAt) ∈ lw_tbl := List.mem_of_getElem? (i := 641) (by decide +kernel)
theorem wc_X0_isLookedAt : (Cond.code yX0_isLookedAt cX0_isLookedAt 4 (some .boolean)) ∈ lw_tbl := List.mem_of_getElem? (i := 642) (by decide +kernel)
theorem wm_L_138 : (Cond.methodLink RL 138 yL_probe) ∈ lw_tbl := List.mem_of_getElem? (i := 643) (by decide +kernel)
theorem wst_L_probe : (Cond.static yL_probe) ∈ lw_tbl := List.mem_of_getElem? (i := 644) (by decide +kernel)
theorem wm_L_59 : (Cond.methodLink RL 59 yX7_probe) ∈ lw_tbl := List.mem_of_getElem? (i := 646) (by decide +kernel)
theorem wi_X7_probe : (Cond.instanceMethod yX7_probe) ∈ lw_tbl := List.mem_of_getElem? (i := 647) (by decide +kernel)
theorem wse_X7_probe : (Cond.selects RX7 yX7_probe yX7_probe) ∈ lw_tbl := List.mem_of_getElem? (i := 648) (by decide +kernel)
theorem wc_X7_probe : (Cond.code yX7_probe cX7_probe 5 (some .int)) ∈ lw_tbl := List.mem_of_getElem? (i := 649) (by decide +kernel)
theorem wm_7_190 : (Cond.methodLink RX7 190 yX5_countUnreachable) ∈ lw_tbl := List.mem_of_getElem? (i := 650) (by decide +kernel)
theorem wi_X5_countUnreachable : (Cond.instanceMethod yX5_countUnreachable) ∈ lw_tbl := List.mem_of_getElem? (i := 651) (by decide +kernel)
theorem wse_X5_countUnreachable : (Cond.selects RX5 yX5_countUnreachable yX5_countUnreachable) ∈ lw_tbl := List.mem_of_getElem? (i := 652) (by decide +kernel)
theorem wc_X5_countUnreachable : (Cond.code yX5_countUnreachable cX5_countUnreachable 3 (some .int)) ∈ lw_tbl := List.mem_of_getElem? (i := 653) (by decide +kernel)
theorem wm_L_142 : (Cond.methodLink RL 142 yL_setLifetimes) ∈ lw_tbl := List.mem_of_getElem? (i := 654) (by decide +kernel)
theorem wst_L_setLifetimes : (Cond.static yL_setLifetimes) ∈ lw_tbl := List.mem_of_getElem? (i := 655) (by decide +kernel)
theorem wm_L_63 : (Cond.methodLink RL 63 yX7_setLifetimes) ∈ lw_tbl := List.mem_of_getElem? (i := 657) (by decide +kernel)
theorem wi_X7_setLifetimes : (Cond.instanceMethod yX7_setLifetimes) ∈ lw_tbl := List.mem_of_getElem? (i := 658) (by decide +kernel)
theorem wse_X7_setLifetimes : (Cond.selects RX7 yX7_setLifetimes yX7_setLifetimes) ∈ lw_tbl := List.mem_of_getElem? (i := 659) (by decide +kernel)
theorem wc_X7_setLifetimes : (Cond.code yX7_setLifetimes cX7_setLifetimes 4 (some .int)) ∈ lw_tbl := List.mem_of_getElem? (i := 660) (by decide +kernel)
theorem wm_L_145 : (Cond.methodLink RL 145 yL_pass) ∈ lw_tbl := List.mem_of_getElem? (i := 661) (by decide +kernel)
theorem wst_L_pass : (Cond.static yL_pass) ∈ lw_tbl := List.mem_of_getElem? (i := 662) (by decide +kernel)
theorem wm_L_66 : (Cond.methodLink RL 66 yX7_pass) ∈ lw_tbl := List.mem_of_getElem? (i := 664) (by decide +kernel)
theorem wi_X7_pass : (Cond.instanceMethod yX7_pass) ∈ lw_tbl := List.mem_of_getElem? (i := 665) (by decide +kernel)
theorem wse_X7_pass : (Cond.selects RX7 yX7_pass yX7_pass) ∈ lw_tbl := List.mem_of_getElem? (i := 666) (by decide +kernel)
theorem wc_X7_pass : (Cond.code yX7_pass cX7_pass 2 (some .int)) ∈ lw_tbl := List.mem_of_getElem? (i := 667) (by decide +kernel)
theorem wm_L_148 : (Cond.methodLink RL 148 yL_entries) ∈ lw_tbl := List.mem_of_getElem? (i := 668) (by decide +kernel)
theorem wst_L_entries : (Cond.static yL_entries) ∈ lw_tbl := List.mem_of_getElem? (i := 669) (by decide +kernel)
theorem wm_L_69 : (Cond.methodLink RL 69 yX7_entries) ∈ lw_tbl := List.mem_of_getElem? (i := 671) (by decide +kernel)
theorem wi_X7_entries : (Cond.instanceMethod yX7_entries) ∈ lw_tbl := List.mem_of_getElem? (i := 672) (by decide +kernel)
theorem wse_X7_entries : (Cond.selects RX7 yX7_entries yX7_entries) ∈ lw_tbl := List.mem_of_getElem? (i := 673) (by decide +kernel)
theorem wc_X7_entries : (Cond.code yX7_entries cX7_entries 2 (some .int)) ∈ lw_tbl := List.mem_of_getElem? (i := 674) (by decide +kernel)
theorem wm_L_151 : (Cond.methodLink RL 151 yL_prefixOf) ∈ lw_tbl := List.mem_of_getElem? (i := 675) (by decide +kernel)
theorem wst_L_prefixOf : (Cond.static yL_prefixOf) ∈ lw_tbl := List.mem_of_getElem? (i := 676) (by decide +kernel)
theorem wm_L_72 : (Cond.methodLink RL 72 yX7_prefixOf) ∈ lw_tbl := List.mem_of_getElem? (i := 678) (by decide +kernel)
theorem wi_X7_prefixOf : (Cond.instanceMethod yX7_prefixOf) ∈ lw_tbl := List.mem_of_getElem? (i := 679) (by decide +kernel)
theorem wse_X7_prefixOf : (Cond.selects RX7 yX7_prefixOf yX7_prefixOf) ∈ lw_tbl := List.mem_of_getElem? (i := 680) (by decide +kernel)
theorem wc_X7_prefixOf : (Cond.code yX7_prefixOf cX7_prefixOf 4 (some .int)) ∈ lw_tbl := List.mem_of_getElem? (i := 681) (by decide +kernel)
theorem wm_7_194 : (Cond.methodLink RX7 194 yX7_requireEntry) ∈ lw_tbl := List.mem_of_getElem? (i := 682) (by decide +kernel)
theorem wpr_X7_requireEntry : (Cond.privateMethod yX7_requireEntry) ∈ lw_tbl := List.mem_of_getElem? (i := 683) (by decide +kernel)
theorem wi_X7_requireEntry : (Cond.instanceMethod yX7_requireEntry) ∈ lw_tbl := List.mem_of_getElem? (i := 684) (by decide +kernel)
theorem wc_X7_requireEntry : (Cond.code yX7_requireEntry cX7_requireEntry 4 (Option.some (.object "LocatorMapper$Entry"))) ∈ lw_tbl := List.mem_of_getElem? (i := 685) (by decide +kernel)
theorem wm_L_154 : (Cond.methodLink RL 154 yL_mappingAt) ∈ lw_tbl := List.mem_of_getElem? (i := 686) (by decide +kernel)
theorem wst_L_mappingAt : (Cond.static yL_mappingAt) ∈ lw_tbl := List.mem_of_getElem? (i := 687) (by decide +kernel)
theorem wm_L_75 : (Cond.methodLink RL 75 yX7_mappingAt) ∈ lw_tbl := List.mem_of_getElem? (i := 689) (by decide +kernel)
theorem wi_X7_mappingAt : (Cond.instanceMethod yX7_mappingAt) ∈ lw_tbl := List.mem_of_getElem? (i := 690) (by decide +kernel)
theorem wse_X7_mappingAt : (Cond.selects RX7 yX7_mappingAt yX7_mappingAt) ∈ lw_tbl := List.mem_of_getElem? (i := 691) (by decide +kernel)
theorem wc_X7_mappingAt : (Cond.code yX7_mappingAt cX7_mappingAt 4 (some .int)) ∈ lw_tbl := List.mem_of_getElem? (i := 692) (by decide +kernel)
theorem wm_L_157 : (Cond.methodLink RL 157 yL_lasts) ∈ lw_tbl := List.mem_of_getElem? (i := 693) (by decide +kernel)
theorem wst_L_lasts : (Cond.static yL_lasts) ∈ lw_tbl := List.mem_of_getElem? (i := 694) (by decide +kernel)
theorem wm_L_78 : (Cond.methodLink RL 78 yX7_lasts) ∈ lw_tbl := List.mem_of_getElem? (i := 696) (by decide +kernel)
theorem wi_X7_lasts : (Cond.instanceMethod yX7_lasts) ∈ lw_tbl := List.mem_of_getElem? (i := 697) (by decide +kernel)
theorem wse_X7_lasts : (Cond.selects RX7 yX7_lasts yX7_lasts) ∈ lw_tbl := List.mem_of_getElem? (i := 698) (by decide +kernel)
theorem wc_X7_lasts : (Cond.code yX7_lasts cX7_lasts 4 (some .int)) ∈ lw_tbl := List.mem_of_getElem? (i := 699) (by decide +kernel)
theorem wm_7_214 : (Cond.methodLink RX7 214 yX0_hasEnded) ∈ lw_tbl := List.mem_of_getElem? (i := 700) (by decide +kernel)
theorem wm_L_160 : (Cond.methodLink RL 160 yL_packetsTo) ∈ lw_tbl := List.mem_of_getElem? (i := 701) (by decide +kernel)
theorem wst_L_packetsTo : (Cond.static yL_packetsTo) ∈ lw_tbl := List.mem_of_getElem? (i := 702) (by decide +kernel)
theorem wm_L_81 : (Cond.methodLink RL 81 yX7_packetsTo) ∈ lw_tbl := List.mem_of_getElem? (i := 704) (by decide +kernel)
theorem wi_X7_packetsTo : (Cond.instanceMethod yX7_packetsTo) ∈ lw_tbl := List.mem_of_getElem? (i := 705) (by decide +kernel)
theorem wse_X7_packetsTo : (Cond.selects RX7 yX7_packetsTo yX7_packetsTo) ∈ lw_tbl := List.mem_of_getElem? (i := 706) (by decide +kernel)
theorem wc_X7_packetsTo : (Cond.code yX7_packetsTo cX7_packetsTo 6 (some .int)) ∈ lw_tbl := List.mem_of_getElem? (i := 707) (by decide +kernel)
theorem wcl_L_85 : (Cond.classLink RL 85 RX8) ∈ lw_tbl := List.mem_of_getElem? (i := 708) (by decide +kernel)
theorem wnew_8 : (Cond.instantiable RX8 35) ∈ lw_tbl := List.mem_of_getElem? (i := 709) (by decide +kernel)
theorem wm_L_87 : (Cond.methodLink RL 87 yX8_init) ∈ lw_tbl := List.mem_of_getElem? (i := 710) (by decide +kernel)
theorem wi_X8_init : (Cond.instanceMethod yX8_init) ∈ lw_tbl := List.mem_of_getElem? (i := 711) (by decide +kernel)
theorem wc_X8_init : (Cond.code yX8_init cX8_init 1 (none)) ∈ lw_tbl := List.mem_of_getElem? (i := 712) (by decide +kernel)
theorem wm_8_1 : (Cond.methodLink RX8 1 (⟨"java/lang/Object", "<init>", "()V"⟩ : MethodName)) ∈ lw_tbl := List.mem_of_getElem? (i := 713) (by decide +kernel)
theorem wf_8_99 : (Cond.fieldLink RX8 99 "LocatorMapperModel" "thrown" "I") ∈ lw_tbl := List.mem_of_getElem? (i := 714) (by decide +kernel)
theorem wf_8_173 : (Cond.fieldLink RX8 173 "LocatorMapperModel" "time" "I") ∈ lw_tbl := List.mem_of_getElem? (i := 715) (by decide +kernel)
theorem wf_8_7 : (Cond.fieldLink RX8 7 "LocatorMapperModel" "positive" "I") ∈ lw_tbl := List.mem_of_getElem? (i := 716) (by decide +kernel)
theorem wf_8_13 : (Cond.fieldLink RX8 13 "LocatorMapperModel" "negative" "I") ∈ lw_tbl := List.mem_of_getElem? (i := 717) (by decide +kernel)
theorem wf_8_115 : (Cond.fieldLink RX8 115 "LocatorMapperModel" "mappings" "I") ∈ lw_tbl := List.mem_of_getElem? (i := 718) (by decide +kernel)
theorem wf_8_16 : (Cond.fieldLink RX8 16 "LocatorMapperModel" "value" "[I") ∈ lw_tbl := List.mem_of_getElem? (i := 719) (by decide +kernel)
theorem wf_8_20 : (Cond.fieldLink RX8 20 "LocatorMapperModel" "length" "[I") ∈ lw_tbl := List.mem_of_getElem? (i := 720) (by decide +kernel)
theorem wf_8_23 : (Cond.fieldLink RX8 23 "LocatorMapperModel" "isGone" "[Z") ∈ lw_tbl := List.mem_of_getElem? (i := 721) (by decide +kernel)
theorem wf_8_27 : (Cond.fieldLink RX8 27 "LocatorMapperModel" "version" "[I") ∈ lw_tbl := List.mem_of_getElem? (i := 722) (by decide +kernel)
theorem wf_8_30 : (Cond.fieldLink RX8 30 "LocatorMapperModel" "many" "[I") ∈ lw_tbl := List.mem_of_getElem? (i := 723) (by decide +kernel)
theorem wf_8_33 : (Cond.fieldLink RX8 33 "LocatorMapperModel" "address" "[I") ∈ lw_tbl := List.mem_of_getElem? (i := 724) (by decide +kernel)
theorem wf_8_36 : (Cond.fieldLink RX8 36 "LocatorMapperModel" "priority" "[I") ∈ lw_tbl := List.mem_of_getElem? (i := 725) (by decide +kernel)
theorem wf_8_39 : (Cond.fieldLink RX8 39 "LocatorMapperModel" "weight" "[I") ∈ lw_tbl := List.mem_of_getElem? (i := 726) (by decide +kernel)
theorem wf_8_161 : (Cond.fieldLink RX8 161 "LocatorMapperModel" "delegated" "I") ∈ lw_tbl := List.mem_of_getElem? (i := 727) (by decide +kernel)
theorem wf_8_42 : (Cond.fieldLink RX8 42 "LocatorMapperModel" "delegatedValue" "[I") ∈ lw_tbl := List.mem_of_getElem? (i := 728) (by decide +kernel)
theorem wf_8_45 : (Cond.fieldLink RX8 45 "LocatorMapperModel" "delegatedLength" "[I") ∈ lw_tbl := List.mem_of_getElem? (i := 729) (by decide +kernel)
theorem wf_8_48 : (Cond.fieldLink RX8 48 "LocatorMapperModel" "server" "[I") ∈ lw_tbl := List.mem_of_getElem? (i := 730) (by decide +kernel)
theorem wf_8_51 : (Cond.fieldLink RX8 51 "LocatorMapperModel" "isDown" "[Z") ∈ lw_tbl := List.mem_of_getElem? (i := 731) (by decide +kernel)
theorem wf_8_54 : (Cond.fieldLink RX8 54 "LocatorMapperModel" "answers" "[I") ∈ lw_tbl := List.mem_of_getElem? (i := 732) (by decide +kernel)
theorem wf_8_57 : (Cond.fieldLink RX8 57 "LocatorMapperModel" "isEntry" "[Z") ∈ lw_tbl := List.mem_of_getElem? (i := 733) (by decide +kernel)
theorem wf_8_60 : (Cond.fieldLink RX8 60 "LocatorMapperModel" "used" "[I") ∈ lw_tbl := List.mem_of_getElem? (i := 734) (by decide +kernel)
theorem wf_8_167 : (Cond.fieldLink RX8 167 "LocatorMapperModel" "uses" "I") ∈ lw_tbl := List.mem_of_getElem? (i := 735) (by decide +kernel)
theorem wf_8_63 : (Cond.fieldLink RX8 63 "LocatorMapperModel" "entryValue" "[I") ∈ lw_tbl := List.mem_of_getElem? (i := 736) (by decide +kernel)
theorem wf_8_66 : (Cond.fieldLink RX8 66 "LocatorMapperModel" "entryLength" "[I") ∈ lw_tbl := List.mem_of_getElem? (i := 737) (by decide +kernel)
theorem wf_8_69 : (Cond.fieldLink RX8 69 "LocatorMapperModel" "of" "[I") ∈ lw_tbl := List.mem_of_getElem? (i := 738) (by decide +kernel)
theorem wf_8_72 : (Cond.fieldLink RX8 72 "LocatorMapperModel" "ofVersion" "[I") ∈ lw_tbl := List.mem_of_getElem? (i := 739) (by decide +kernel)
theorem wf_8_75 : (Cond.fieldLink RX8 75 "LocatorMapperModel" "ends" "[I") ∈ lw_tbl := List.mem_of_getElem? (i := 740) (by decide +kernel)
theorem wf_8_78 : (Cond.fieldLink RX8 78 "LocatorMapperModel" "isSolicited" "[Z") ∈ lw_tbl := List.mem_of_getElem? (i := 741) (by decide +kernel)
theorem wf_8_81 : (Cond.fieldLink RX8 81 "LocatorMapperModel" "entryMany" "[I") ∈ lw_tbl := List.mem_of_getElem? (i := 742) (by decide +kernel)
theorem wf_8_84 : (Cond.fieldLink RX8 84 "LocatorMapperModel" "to" "[I") ∈ lw_tbl := List.mem_of_getElem? (i := 743) (by decide +kernel)
theorem wf_8_87 : (Cond.fieldLink RX8 87 "LocatorMapperModel" "toPriority" "[I") ∈ lw_tbl := List.mem_of_getElem? (i := 744) (by decide +kernel)
theorem wf_8_90 : (Cond.fieldLink RX8 90 "LocatorMapperModel" "toWeight" "[I") ∈ lw_tbl := List.mem_of_getElem? (i := 745) (by decide +kernel)
theorem wf_8_93 : (Cond.fieldLink RX8 93 "LocatorMapperModel" "packets" "[I") ∈ lw_tbl := List.mem_of_getElem? (i := 746) (by decide +kernel)
theorem wf_8_96 : (Cond.fieldLink RX8 96 "LocatorMapperModel" "isLost" "[Z") ∈ lw_tbl := List.mem_of_getElem? (i := 747) (by decide +kernel)
theorem wf_8_122 : (Cond.fieldLink RX8 122 "LocatorMapperModel" "solicitations" "I") ∈ lw_tbl := List.mem_of_getElem? (i := 748) (by decide +kernel)
theorem wm_L_94 : (Cond.methodLink RL 94 yX8_thrown) ∈ lw_tbl := List.mem_of_getElem? (i := 820) (by decide +kernel)
theorem wi_X8_thrown : (Cond.instanceMethod yX8_thrown) ∈ lw_tbl := List.mem_of_getElem? (i := 821) (by decide +kernel)
theorem wse_X8_thrown : (Cond.selects RX8 yX8_thrown yX8_thrown) ∈ lw_tbl := List.mem_of_getElem? (i := 822) (by decide +kernel)
theorem wc_X8_thrown : (Cond.code yX8_thrown cX8_thrown 1 (some .int)) ∈ lw_tbl := List.mem_of_getElem? (i := 823) (by decide +kernel)
theorem wm_L_93 : (Cond.methodLink RL 93 yX8_register) ∈ lw_tbl := List.mem_of_getElem? (i := 824) (by decide +kernel)
theorem wi_X8_register : (Cond.instanceMethod yX8_register) ∈ lw_tbl := List.mem_of_getElem? (i := 825) (by decide +kernel)
theorem wse_X8_register : (Cond.selects RX8 yX8_register yX8_register) ∈ lw_tbl := List.mem_of_getElem? (i := 826) (by decide +kernel)
theorem wc_X8_register : (Cond.code yX8_register cX8_register 5 (some .int)) ∈ lw_tbl := List.mem_of_getElem? (i := 827) (by decide +kernel)
theorem wm_8_125 : (Cond.methodLink RX8 125 yX8_isPrefix) ∈ lw_tbl := List.mem_of_getElem? (i := 828) (by decide +kernel)
theorem wst_X8_isPrefix : (Cond.static yX8_isPrefix) ∈ lw_tbl := List.mem_of_getElem? (i := 829) (by decide +kernel)
theorem wc_X8_isPrefix : (Cond.code yX8_isPrefix cX8_isPrefix 2 (some .boolean)) ∈ lw_tbl := List.mem_of_getElem? (i := 830) (by decide +kernel)
theorem wm_8_107 : (Cond.methodLink RX8 107 yX8_isIdentifier) ∈ lw_tbl := List.mem_of_getElem? (i := 831) (by decide +kernel)
theorem wst_X8_isIdentifier : (Cond.static yX8_isIdentifier) ∈ lw_tbl := List.mem_of_getElem? (i := 832) (by decide +kernel)
theorem wc_X8_isIdentifier : (Cond.code yX8_isIdentifier cX8_isIdentifier 1 (some .boolean)) ∈ lw_tbl := List.mem_of_getElem? (i := 833) (by decide +kernel)
theorem wk_8_102 : (Cond.constant RX8 102 65535) ∈ lw_tbl := List.mem_of_getElem? (i := 834) (by decide +kernel)
theorem wm_8_103 : (Cond.methodLink RX8 103 yX8_in) ∈ lw_tbl := List.mem_of_getElem? (i := 835) (by decide +kernel)
theorem wst_X8_in : (Cond.static yX8_in) ∈ lw_tbl := List.mem_of_getElem? (i := 836) (by decide +kernel)
theorem wc_X8_in : (Cond.code yX8_in cX8_in 3 (some .boolean)) ∈ lw_tbl := List.mem_of_getElem? (i := 837) (by decide +kernel)
theorem wm_8_111 : (Cond.methodLink RX8 111 yX8_first) ∈ lw_tbl := List.mem_of_getElem? (i := 838) (by decide +kernel)
theorem wst_X8_first : (Cond.static yX8_first) ∈ lw_tbl := List.mem_of_getElem? (i := 839) (by decide +kernel)
theorem wc_X8_first : (Cond.code yX8_first cX8_first 2 (some .int)) ∈ lw_tbl := List.mem_of_getElem? (i := 840) (by decide +kernel)
theorem wm_8_129 : (Cond.methodLink RX8 129 yX8_solicits) ∈ lw_tbl := List.mem_of_getElem? (i := 841) (by decide +kernel)
theorem wpr_X8_solicits : (Cond.privateMethod yX8_solicits) ∈ lw_tbl := List.mem_of_getElem? (i := 842) (by decide +kernel)
theorem wi_X8_solicits : (Cond.instanceMethod yX8_solicits) ∈ lw_tbl := List.mem_of_getElem? (i := 843) (by decide +kernel)
theorem wc_X8_solicits : (Cond.code yX8_solicits cX8_solicits 4 (none)) ∈ lw_tbl := List.mem_of_getElem? (i := 844) (by decide +kernel)
theorem wm_8_118 : (Cond.methodLink RX8 118 yX8_meet) ∈ lw_tbl := List.mem_of_getElem? (i := 845) (by decide +kernel)
theorem wst_X8_meet : (Cond.static yX8_meet) ∈ lw_tbl := List.mem_of_getElem? (i := 846) (by decide +kernel)
theorem wc_X8_meet : (Cond.code yX8_meet cX8_meet 5 (some .boolean)) ∈ lw_tbl := List.mem_of_getElem? (i := 847) (by decide +kernel)
theorem wm_L_101 : (Cond.methodLink RL 101 yX8_withdraw) ∈ lw_tbl := List.mem_of_getElem? (i := 848) (by decide +kernel)
theorem wi_X8_withdraw : (Cond.instanceMethod yX8_withdraw) ∈ lw_tbl := List.mem_of_getElem? (i := 849) (by decide +kernel)
theorem wse_X8_withdraw : (Cond.selects RX8 yX8_withdraw yX8_withdraw) ∈ lw_tbl := List.mem_of_getElem? (i := 850) (by decide +kernel)
theorem wc_X8_withdraw : (Cond.code yX8_withdraw cX8_withdraw 4 (some .int)) ∈ lw_tbl := List.mem_of_getElem? (i := 851) (by decide +kernel)
theorem wm_8_133 : (Cond.methodLink RX8 133 yX8_isMapping) ∈ lw_tbl := List.mem_of_getElem? (i := 852) (by decide +kernel)
theorem wpr_X8_isMapping : (Cond.privateMethod yX8_isMapping) ∈ lw_tbl := List.mem_of_getElem? (i := 853) (by decide +kernel)
theorem wi_X8_isMapping : (Cond.instanceMethod yX8_isMapping) ∈ lw_tbl := List.mem_of_getElem? (i := 854) (by decide +kernel)
theorem wc_X8_isMapping : (Cond.code yX8_isMapping cX8_isMapping 2 (some .boolean)) ∈ lw_tbl := List.mem_of_getElem? (i := 855) (by decide +kernel)
theorem wm_L_105 : (Cond.methodLink RL 105 yX8_addLocator) ∈ lw_tbl := List.mem_of_getElem? (i := 856) (by decide +kernel)
theorem wi_X8_addLocator : (Cond.instanceMethod yX8_addLocator) ∈ lw_tbl := List.mem_of_getElem? (i := 857) (by decide +kernel)
theorem wse_X8_addLocator : (Cond.selects RX8 yX8_addLocator yX8_addLocator) ∈ lw_tbl := List.mem_of_getElem? (i := 858) (by decide +kernel)
theorem wc_X8_addLocator : (Cond.code yX8_addLocator cX8_addLocator 7 (some .int)) ∈ lw_tbl := List.mem_of_getElem? (i := 859) (by decide +kernel)
theorem wm_8_136 : (Cond.methodLink RX8 136 yX8_placeOf) ∈ lw_tbl := List.mem_of_getElem? (i := 860) (by decide +kernel)
theorem wpr_X8_placeOf : (Cond.privateMethod yX8_placeOf) ∈ lw_tbl := List.mem_of_getElem? (i := 861) (by decide +kernel)
theorem wi_X8_placeOf : (Cond.instanceMethod yX8_placeOf) ∈ lw_tbl := List.mem_of_getElem? (i := 862) (by decide +kernel)
theorem wc_X8_placeOf : (Cond.code yX8_placeOf cX8_placeOf 5 (some .int)) ∈ lw_tbl := List.mem_of_getElem? (i := 863) (by decide +kernel)
theorem wm_8_139 : (Cond.methodLink RX8 139 yX8_changes) ∈ lw_tbl := List.mem_of_getElem? (i := 864) (by decide +kernel)
theorem wpr_X8_changes : (Cond.privateMethod yX8_changes) ∈ lw_tbl := List.mem_of_getElem? (i := 865) (by decide +kernel)
theorem wi_X8_changes : (Cond.instanceMethod yX8_changes) ∈ lw_tbl := List.mem_of_getElem? (i := 866) (by decide +kernel)
theorem wc_X8_changes : (Cond.code yX8_changes cX8_changes 2 (some .int)) ∈ lw_tbl := List.mem_of_getElem? (i := 867) (by decide +kernel)
theorem wm_L_109 : (Cond.methodLink RL 109 yX8_move) ∈ lw_tbl := List.mem_of_getElem? (i := 868) (by decide +kernel)
theorem wi_X8_move : (Cond.instanceMethod yX8_move) ∈ lw_tbl := List.mem_of_getElem? (i := 869) (by decide +kernel)
theorem wse_X8_move : (Cond.selects RX8 yX8_move yX8_move) ∈ lw_tbl := List.mem_of_getElem? (i := 870) (by decide +kernel)
theorem wc_X8_move : (Cond.code yX8_move cX8_move 5 (some .int)) ∈ lw_tbl := List.mem_of_getElem? (i := 871) (by decide +kernel)
theorem wm_L_112 : (Cond.methodLink RL 112 yX8_removeLocator) ∈ lw_tbl := List.mem_of_getElem? (i := 872) (by decide +kernel)
theorem wi_X8_removeLocator : (Cond.instanceMethod yX8_removeLocator) ∈ lw_tbl := List.mem_of_getElem? (i := 873) (by decide +kernel)
theorem wse_X8_removeLocator : (Cond.selects RX8 yX8_removeLocator yX8_removeLocator) ∈ lw_tbl := List.mem_of_getElem? (i := 874) (by decide +kernel)
theorem wc_X8_removeLocator : (Cond.code yX8_removeLocator cX8_removeLocator 4 (some .int)) ∈ lw_tbl := List.mem_of_getElem? (i := 875) (by decide +kernel)
theorem wm_8_143 : (Cond.methodLink RX8 143 yX8_placeAmong) ∈ lw_tbl := List.mem_of_getElem? (i := 876) (by decide +kernel)
theorem wpr_X8_placeAmong : (Cond.privateMethod yX8_placeAmong) ∈ lw_tbl := List.mem_of_getElem? (i := 877) (by decide +kernel)
theorem wi_X8_placeAmong : (Cond.instanceMethod yX8_placeAmong) ∈ lw_tbl := List.mem_of_getElem? (i := 878) (by decide +kernel)
theorem wc_X8_placeAmong : (Cond.code yX8_placeAmong cX8_placeAmong 4 (some .int)) ∈ lw_tbl := List.mem_of_getElem? (i := 879) (by decide +kernel)
theorem wm_L_115 : (Cond.methodLink RL 115 yX8_mappingOf) ∈ lw_tbl := List.mem_of_getElem? (i := 880) (by decide +kernel)
theorem wi_X8_mappingOf : (Cond.instanceMethod yX8_mappingOf) ∈ lw_tbl := List.mem_of_getElem? (i := 881) (by decide +kernel)
theorem wse_X8_mappingOf : (Cond.selects RX8 yX8_mappingOf yX8_mappingOf) ∈ lw_tbl := List.mem_of_getElem? (i := 882) (by decide +kernel)
theorem wc_X8_mappingOf : (Cond.code yX8_mappingOf cX8_mappingOf 2 (some .int)) ∈ lw_tbl := List.mem_of_getElem? (i := 883) (by decide +kernel)
theorem wm_8_149 : (Cond.methodLink RX8 149 yX8_mappingFor) ∈ lw_tbl := List.mem_of_getElem? (i := 884) (by decide +kernel)
theorem wpr_X8_mappingFor : (Cond.privateMethod yX8_mappingFor) ∈ lw_tbl := List.mem_of_getElem? (i := 885) (by decide +kernel)
theorem wi_X8_mappingFor : (Cond.instanceMethod yX8_mappingFor) ∈ lw_tbl := List.mem_of_getElem? (i := 886) (by decide +kernel)
theorem wc_X8_mappingFor : (Cond.code yX8_mappingFor cX8_mappingFor 5 (some .int)) ∈ lw_tbl := List.mem_of_getElem? (i := 887) (by decide +kernel)
theorem wm_8_146 : (Cond.methodLink RX8 146 yX8_covers) ∈ lw_tbl := List.mem_of_getElem? (i := 888) (by decide +kernel)
theorem wst_X8_covers : (Cond.static yX8_covers) ∈ lw_tbl := List.mem_of_getElem? (i := 889) (by decide +kernel)
theorem wc_X8_covers : (Cond.code yX8_covers cX8_covers 3 (some .boolean)) ∈ lw_tbl := List.mem_of_getElem? (i := 890) (by decide +kernel)
theorem wm_L_118 : (Cond.methodLink RL 118 yX8_answerLength) ∈ lw_tbl := List.mem_of_getElem? (i := 891) (by decide +kernel)
theorem wi_X8_answerLength : (Cond.instanceMethod yX8_answerLength) ∈ lw_tbl := List.mem_of_getElem? (i := 892) (by decide +kernel)
theorem wse_X8_answerLength : (Cond.selects RX8 yX8_answerLength yX8_answerLength) ∈ lw_tbl := List.mem_of_getElem? (i := 893) (by decide +kernel)
theorem wc_X8_answerLength : (Cond.code yX8_answerLength cX8_answerLength 3 (some .int)) ∈ lw_tbl := List.mem_of_getElem? (i := 894) (by decide +kernel)
theorem wm_8_155 : (Cond.methodLink RX8 155 yX8_bitsFor) ∈ lw_tbl := List.mem_of_getElem? (i := 895) (by decide +kernel)
theorem wpr_X8_bitsFor : (Cond.privateMethod yX8_bitsFor) ∈ lw_tbl := List.mem_of_getElem? (i := 896) (by decide +kernel)
theorem wi_X8_bitsFor : (Cond.instanceMethod yX8_bitsFor) ∈ lw_tbl := List.mem_of_getElem? (i := 897) (by decide +kernel)
theorem wc_X8_bitsFor : (Cond.code yX8_bitsFor cX8_bitsFor 4 (some .int)) ∈ lw_tbl := List.mem_of_getElem? (i := 898) (by decide +kernel)
theorem wm_8_152 : (Cond.methodLink RX8 152 yX8_isHiding) ∈ lw_tbl := List.mem_of_getElem? (i := 899) (by decide +kernel)
theorem wpr_X8_isHiding : (Cond.privateMethod yX8_isHiding) ∈ lw_tbl := List.mem_of_getElem? (i := 900) (by decide +kernel)
theorem wi_X8_isHiding : (Cond.instanceMethod yX8_isHiding) ∈ lw_tbl := List.mem_of_getElem? (i := 901) (by decide +kernel)
theorem wc_X8_isHiding : (Cond.code yX8_isHiding cX8_isHiding 7 (some .boolean)) ∈ lw_tbl := List.mem_of_getElem? (i := 902) (by decide +kernel)
theorem wm_L_121 : (Cond.methodLink RL 121 yX8_version) ∈ lw_tbl := List.mem_of_getElem? (i := 903) (by decide +kernel)
theorem wi_X8_version : (Cond.instanceMethod yX8_version) ∈ lw_tbl := List.mem_of_getElem? (i := 904) (by decide +kernel)
theorem wse_X8_version : (Cond.selects RX8 yX8_version yX8_version) ∈ lw_tbl := List.mem_of_getElem? (i := 905) (by decide +kernel)
theorem wc_X8_version : (Cond.code yX8_version cX8_version 2 (some .int)) ∈ lw_tbl := List.mem_of_getElem? (i := 906) (by decide +kernel)
theorem wm_L_124 : (Cond.methodLink RL 124 yX8_delegate) ∈ lw_tbl := List.mem_of_getElem? (i := 907) (by decide +kernel)
theorem wi_X8_delegate : (Cond.instanceMethod yX8_delegate) ∈ lw_tbl := List.mem_of_getElem? (i := 908) (by decide +kernel)
theorem wse_X8_delegate : (Cond.selects RX8 yX8_delegate yX8_delegate) ∈ lw_tbl := List.mem_of_getElem? (i := 909) (by decide +kernel)
theorem wc_X8_delegate : (Cond.code yX8_delegate cX8_delegate 6 (some .int)) ∈ lw_tbl := List.mem_of_getElem? (i := 910) (by decide +kernel)
theorem wm_8_158 : (Cond.methodLink RX8 158 yX8_isServer) ∈ lw_tbl := List.mem_of_getElem? (i := 911) (by decide +kernel)
theorem wst_X8_isServer : (Cond.static yX8_isServer) ∈ lw_tbl := List.mem_of_getElem? (i := 912) (by decide +kernel)
theorem wc_X8_isServer : (Cond.code yX8_isServer cX8_isServer 1 (some .boolean)) ∈ lw_tbl := List.mem_of_getElem? (i := 913) (by decide +kernel)
theorem wm_L_128 : (Cond.methodLink RL 128 yX8_setUp) ∈ lw_tbl := List.mem_of_getElem? (i := 914) (by decide +kernel)
theorem wi_X8_setUp : (Cond.instanceMethod yX8_setUp) ∈ lw_tbl := List.mem_of_getElem? (i := 915) (by decide +kernel)
theorem wse_X8_setUp : (Cond.selects RX8 yX8_setUp yX8_setUp) ∈ lw_tbl := List.mem_of_getElem? (i := 916) (by decide +kernel)
theorem wc_X8_setUp : (Cond.code yX8_setUp cX8_setUp 4 (some .boolean)) ∈ lw_tbl := List.mem_of_getElem? (i := 917) (by decide +kernel)
theorem wm_L_131 : (Cond.methodLink RL 131 yX8_serverOf) ∈ lw_tbl := List.mem_of_getElem? (i := 918) (by decide +kernel)
theorem wi_X8_serverOf : (Cond.instanceMethod yX8_serverOf) ∈ lw_tbl := List.mem_of_getElem? (i := 919) (by decide +kernel)
theorem wse_X8_serverOf : (Cond.selects RX8 yX8_serverOf yX8_serverOf) ∈ lw_tbl := List.mem_of_getElem? (i := 920) (by decide +kernel)
theorem wc_X8_serverOf : (Cond.code yX8_serverOf cX8_serverOf 2 (some .int)) ∈ lw_tbl := List.mem_of_getElem? (i := 921) (by decide +kernel)
theorem wm_8_164 : (Cond.methodLink RX8 164 yX8_serverFor) ∈ lw_tbl := List.mem_of_getElem? (i := 922) (by decide +kernel)
theorem wpr_X8_serverFor : (Cond.privateMethod yX8_serverFor) ∈ lw_tbl := List.mem_of_getElem? (i := 923) (by decide +kernel)
theorem wi_X8_serverFor : (Cond.instanceMethod yX8_serverFor) ∈ lw_tbl := List.mem_of_getElem? (i := 924) (by decide +kernel)
theorem wc_X8_serverFor : (Cond.code yX8_serverFor cX8_serverFor 5 (some .int)) ∈ lw_tbl := List.mem_of_getElem? (i := 925) (by decide +kernel)
theorem wm_L_134 : (Cond.methodLink RL 134 yX8_answers) ∈ lw_tbl := List.mem_of_getElem? (i := 926) (by decide +kernel)
theorem wi_X8_answers : (Cond.instanceMethod yX8_answers) ∈ lw_tbl := List.mem_of_getElem? (i := 927) (by decide +kernel)
theorem wse_X8_answers : (Cond.selects RX8 yX8_answers yX8_answers) ∈ lw_tbl := List.mem_of_getElem? (i := 928) (by decide +kernel)
theorem wc_X8_answers : (Cond.code yX8_answers cX8_answers 2 (some .int)) ∈ lw_tbl := List.mem_of_getElem? (i := 929) (by decide +kernel)
theorem wm_L_137 : (Cond.methodLink RL 137 yX8_send) ∈ lw_tbl := List.mem_of_getElem? (i := 930) (by decide +kernel)
theorem wi_X8_send : (Cond.instanceMethod yX8_send) ∈ lw_tbl := List.mem_of_getElem? (i := 931) (by decide +kernel)
theorem wse_X8_send : (Cond.selects RX8 yX8_send yX8_send) ∈ lw_tbl := List.mem_of_getElem? (i := 932) (by decide +kernel)
theorem wc_X8_send : (Cond.code yX8_send cX8_send 5 (some .int)) ∈ lw_tbl := List.mem_of_getElem? (i := 933) (by decide +kernel)
theorem wm_8_188 : (Cond.methodLink RX8 188 yX8_isRouter) ∈ lw_tbl := List.mem_of_getElem? (i := 934) (by decide +kernel)
theorem wst_X8_isRouter : (Cond.static yX8_isRouter) ∈ lw_tbl := List.mem_of_getElem? (i := 935) (by decide +kernel)
theorem wc_X8_isRouter : (Cond.code yX8_isRouter cX8_isRouter 1 (some .boolean)) ∈ lw_tbl := List.mem_of_getElem? (i := 936) (by decide +kernel)
theorem wm_8_191 : (Cond.methodLink RX8 191 yX8_entryFor) ∈ lw_tbl := List.mem_of_getElem? (i := 937) (by decide +kernel)
theorem wpr_X8_entryFor : (Cond.privateMethod yX8_entryFor) ∈ lw_tbl := List.mem_of_getElem? (i := 938) (by decide +kernel)
theorem wi_X8_entryFor : (Cond.instanceMethod yX8_entryFor) ∈ lw_tbl := List.mem_of_getElem? (i := 939) (by decide +kernel)
theorem wc_X8_entryFor : (Cond.code yX8_entryFor cX8_entryFor 6 (some .int)) ∈ lw_tbl := List.mem_of_getElem? (i := 940) (by decide +kernel)
theorem wm_8_194 : (Cond.methodLink RX8 194 yX8_gets) ∈ lw_tbl := List.mem_of_getElem? (i := 941) (by decide +kernel)
theorem wpr_X8_gets : (Cond.privateMethod yX8_gets) ∈ lw_tbl := List.mem_of_getElem? (i := 942) (by decide +kernel)
theorem wi_X8_gets : (Cond.instanceMethod yX8_gets) ∈ lw_tbl := List.mem_of_getElem? (i := 943) (by decide +kernel)
theorem wc_X8_gets : (Cond.code yX8_gets cX8_gets 8 (some .int)) ∈ lw_tbl := List.mem_of_getElem? (i := 944) (by decide +kernel)
theorem wm_8_182 : (Cond.methodLink RX8 182 yX8_frees) ∈ lw_tbl := List.mem_of_getElem? (i := 945) (by decide +kernel)
theorem wpr_X8_frees : (Cond.privateMethod yX8_frees) ∈ lw_tbl := List.mem_of_getElem? (i := 946) (by decide +kernel)
theorem wi_X8_frees : (Cond.instanceMethod yX8_frees) ∈ lw_tbl := List.mem_of_getElem? (i := 947) (by decide +kernel)
theorem wc_X8_frees : (Cond.code yX8_frees cX8_frees 3 (some .int)) ∈ lw_tbl := List.mem_of_getElem? (i := 948) (by decide +kernel)
theorem wm_8_176 : (Cond.methodLink RX8 176 yX8_manyOf) ∈ lw_tbl := List.mem_of_getElem? (i := 949) (by decide +kernel)
theorem wpr_X8_manyOf : (Cond.privateMethod yX8_manyOf) ∈ lw_tbl := List.mem_of_getElem? (i := 950) (by decide +kernel)
theorem wi_X8_manyOf : (Cond.instanceMethod yX8_manyOf) ∈ lw_tbl := List.mem_of_getElem? (i := 951) (by decide +kernel)
theorem wc_X8_manyOf : (Cond.code yX8_manyOf cX8_manyOf 2 (some .int)) ∈ lw_tbl := List.mem_of_getElem? (i := 952) (by decide +kernel)
theorem wm_8_170 : (Cond.methodLink RX8 170 yX8_manyBefore) ∈ lw_tbl := List.mem_of_getElem? (i := 953) (by decide +kernel)
theorem wpr_X8_manyBefore : (Cond.privateMethod yX8_manyBefore) ∈ lw_tbl := List.mem_of_getElem? (i := 954) (by decide +kernel)
theorem wi_X8_manyBefore : (Cond.instanceMethod yX8_manyBefore) ∈ lw_tbl := List.mem_of_getElem? (i := 955) (by decide +kernel)
theorem wc_X8_manyBefore : (Cond.code yX8_manyBefore cX8_manyBefore 5 (some .int)) ∈ lw_tbl := List.mem_of_getElem? (i := 956) (by decide +kernel)
theorem wm_8_179 : (Cond.methodLink RX8 179 yX8_placeOfEntry) ∈ lw_tbl := List.mem_of_getElem? (i := 957) (by decide +kernel)
theorem wpr_X8_placeOfEntry : (Cond.privateMethod yX8_placeOfEntry) ∈ lw_tbl := List.mem_of_getElem? (i := 958) (by decide +kernel)
theorem wi_X8_placeOfEntry : (Cond.instanceMethod yX8_placeOfEntry) ∈ lw_tbl := List.mem_of_getElem? (i := 959) (by decide +kernel)
theorem wc_X8_placeOfEntry : (Cond.code yX8_placeOfEntry cX8_placeOfEntry 5 (some .int)) ∈ lw_tbl := List.mem_of_getElem? (i := 960) (by decide +kernel)
theorem wm_8_185 : (Cond.methodLink RX8 185 yX8_bestOf) ∈ lw_tbl := List.mem_of_getElem? (i := 961) (by decide +kernel)
theorem wpr_X8_bestOf : (Cond.privateMethod yX8_bestOf) ∈ lw_tbl := List.mem_of_getElem? (i := 962) (by decide +kernel)
theorem wi_X8_bestOf : (Cond.instanceMethod yX8_bestOf) ∈ lw_tbl := List.mem_of_getElem? (i := 963) (by decide +kernel)
theorem wc_X8_bestOf : (Cond.code yX8_bestOf cX8_bestOf 5 (some .int)) ∈ lw_tbl := List.mem_of_getElem? (i := 964) (by decide +kernel)
theorem wm_8_197 : (Cond.methodLink RX8 197 yX8_goesTo) ∈ lw_tbl := List.mem_of_getElem? (i := 965) (by decide +kernel)
theorem wpr_X8_goesTo : (Cond.privateMethod yX8_goesTo) ∈ lw_tbl := List.mem_of_getElem? (i := 966) (by decide +kernel)
theorem wi_X8_goesTo : (Cond.instanceMethod yX8_goesTo) ∈ lw_tbl := List.mem_of_getElem? (i := 967) (by decide +kernel)
theorem wc_X8_goesTo : (Cond.code yX8_goesTo cX8_goesTo 11 (some .int)) ∈ lw_tbl := List.mem_of_getElem? (i := 968) (by decide +kernel)
theorem wm_L_141 : (Cond.methodLink RL 141 yX8_probe) ∈ lw_tbl := List.mem_of_getElem? (i := 969) (by decide +kernel)
theorem wi_X8_probe : (Cond.instanceMethod yX8_probe) ∈ lw_tbl := List.mem_of_getElem? (i := 970) (by decide +kernel)
theorem wse_X8_probe : (Cond.selects RX8 yX8_probe yX8_probe) ∈ lw_tbl := List.mem_of_getElem? (i := 971) (by decide +kernel)
theorem wc_X8_probe : (Cond.code yX8_probe cX8_probe 6 (some .int)) ∈ lw_tbl := List.mem_of_getElem? (i := 972) (by decide +kernel)
theorem wm_L_144 : (Cond.methodLink RL 144 yX8_setLifetimes) ∈ lw_tbl := List.mem_of_getElem? (i := 973) (by decide +kernel)
theorem wi_X8_setLifetimes : (Cond.instanceMethod yX8_setLifetimes) ∈ lw_tbl := List.mem_of_getElem? (i := 974) (by decide +kernel)
theorem wse_X8_setLifetimes : (Cond.selects RX8 yX8_setLifetimes yX8_setLifetimes) ∈ lw_tbl := List.mem_of_getElem? (i := 975) (by decide +kernel)
theorem wc_X8_setLifetimes : (Cond.code yX8_setLifetimes cX8_setLifetimes 4 (some .int)) ∈ lw_tbl := List.mem_of_getElem? (i := 976) (by decide +kernel)
theorem wm_L_147 : (Cond.methodLink RL 147 yX8_pass) ∈ lw_tbl := List.mem_of_getElem? (i := 977) (by decide +kernel)
theorem wi_X8_pass : (Cond.instanceMethod yX8_pass) ∈ lw_tbl := List.mem_of_getElem? (i := 978) (by decide +kernel)
theorem wse_X8_pass : (Cond.selects RX8 yX8_pass yX8_pass) ∈ lw_tbl := List.mem_of_getElem? (i := 979) (by decide +kernel)
theorem wc_X8_pass : (Cond.code yX8_pass cX8_pass 2 (some .int)) ∈ lw_tbl := List.mem_of_getElem? (i := 980) (by decide +kernel)
theorem wm_L_150 : (Cond.methodLink RL 150 yX8_entries) ∈ lw_tbl := List.mem_of_getElem? (i := 981) (by decide +kernel)
theorem wi_X8_entries : (Cond.instanceMethod yX8_entries) ∈ lw_tbl := List.mem_of_getElem? (i := 982) (by decide +kernel)
theorem wse_X8_entries : (Cond.selects RX8 yX8_entries yX8_entries) ∈ lw_tbl := List.mem_of_getElem? (i := 983) (by decide +kernel)
theorem wc_X8_entries : (Cond.code yX8_entries cX8_entries 2 (some .int)) ∈ lw_tbl := List.mem_of_getElem? (i := 984) (by decide +kernel)
theorem wm_L_153 : (Cond.methodLink RL 153 yX8_prefixOf) ∈ lw_tbl := List.mem_of_getElem? (i := 985) (by decide +kernel)
theorem wi_X8_prefixOf : (Cond.instanceMethod yX8_prefixOf) ∈ lw_tbl := List.mem_of_getElem? (i := 986) (by decide +kernel)
theorem wse_X8_prefixOf : (Cond.selects RX8 yX8_prefixOf yX8_prefixOf) ∈ lw_tbl := List.mem_of_getElem? (i := 987) (by decide +kernel)
theorem wc_X8_prefixOf : (Cond.code yX8_prefixOf cX8_prefixOf 4 (some .int)) ∈ lw_tbl := List.mem_of_getElem? (i := 988) (by decide +kernel)
theorem wm_8_200 : (Cond.methodLink RX8 200 yX8_asks) ∈ lw_tbl := List.mem_of_getElem? (i := 989) (by decide +kernel)
theorem wpr_X8_asks : (Cond.privateMethod yX8_asks) ∈ lw_tbl := List.mem_of_getElem? (i := 990) (by decide +kernel)
theorem wi_X8_asks : (Cond.instanceMethod yX8_asks) ∈ lw_tbl := List.mem_of_getElem? (i := 991) (by decide +kernel)
theorem wc_X8_asks : (Cond.code yX8_asks cX8_asks 3 (some .int)) ∈ lw_tbl := List.mem_of_getElem? (i := 992) (by decide +kernel)
theorem wm_L_156 : (Cond.methodLink RL 156 yX8_mappingAt) ∈ lw_tbl := List.mem_of_getElem? (i := 993) (by decide +kernel)
theorem wi_X8_mappingAt : (Cond.instanceMethod yX8_mappingAt) ∈ lw_tbl := List.mem_of_getElem? (i := 994) (by decide +kernel)
theorem wse_X8_mappingAt : (Cond.selects RX8 yX8_mappingAt yX8_mappingAt) ∈ lw_tbl := List.mem_of_getElem? (i := 995) (by decide +kernel)
theorem wc_X8_mappingAt : (Cond.code yX8_mappingAt cX8_mappingAt 4 (some .int)) ∈ lw_tbl := List.mem_of_getElem? (i := 996) (by decide +kernel)
theorem wm_L_159 : (Cond.methodLink RL 159 yX8_lasts) ∈ lw_tbl := List.mem_of_getElem? (i := 997) (by decide +kernel)
theorem wi_X8_lasts : (Cond.instanceMethod yX8_lasts) ∈ lw_tbl := List.mem_of_getElem? (i := 998) (by decide +kernel)
theorem wse_X8_lasts : (Cond.selects RX8 yX8_lasts yX8_lasts) ∈ lw_tbl := List.mem_of_getElem? (i := 999) (by decide +kernel)
theorem wc_X8_lasts : (Cond.code yX8_lasts cX8_lasts 4 (some .int)) ∈ lw_tbl := List.mem_of_getElem? (i := 1000) (by decide +kernel)
theorem wm_L_162 : (Cond.methodLink RL 162 yX8_packetsTo) ∈ lw_tbl := List.mem_of_getElem? (i := 1001) (by decide +kernel)
theorem wi_X8_packetsTo : (Cond.instanceMethod yX8_packetsTo) ∈ lw_tbl := List.mem_of_getElem? (i := 1002) (by decide +kernel)
theorem wse_X8_packetsTo : (Cond.selects RX8 yX8_packetsTo yX8_packetsTo) ∈ lw_tbl := List.mem_of_getElem? (i := 1003) (by decide +kernel)
theorem wc_X8_packetsTo : (Cond.code yX8_packetsTo cX8_packetsTo 7 (some .int)) ∈ lw_tbl := List.mem_of_getElem? (i := 1004) (by decide +kernel)
theorem wm_L_166 : (Cond.methodLink RL 166 yX8_solicitations) ∈ lw_tbl := List.mem_of_getElem? (i := 1005) (by decide +kernel)
theorem wi_X8_solicitations : (Cond.instanceMethod yX8_solicitations) ∈ lw_tbl := List.mem_of_getElem? (i := 1006) (by decide +kernel)
theorem wse_X8_solicitations : (Cond.selects RX8 yX8_solicitations yX8_solicitations) ∈ lw_tbl := List.mem_of_getElem? (i := 1007) (by decide +kernel)
theorem wc_X8_solicitations : (Cond.code yX8_solicitations cX8_solicitations 1 (some .int)) ∈ lw_tbl := List.mem_of_getElem? (i := 1008) (by decide +kernel)
theorem wse_X7_solicit : (Cond.selects RX7 yX7_solicit yX7_solicit) ∈ lw_tbl := List.mem_of_getElem? (i := 1) (by decide +kernel)
theorem wse_X7_requireMapping : (Cond.selects RX7 yX7_requireMapping yX7_requireMapping) ∈ lw_tbl := List.mem_of_getElem? (i := 2) (by decide +kernel)
theorem wse_X7_tellChange : (Cond.selects RX7 yX7_tellChange yX7_tellChange) ∈ lw_tbl := List.mem_of_getElem? (i := 3) (by decide +kernel)
theorem wse_X4_hidesLonger : (Cond.selects RX4 yX4_hidesLonger yX4_hidesLonger) ∈ lw_tbl := List.mem_of_getElem? (i := 4) (by decide +kernel)
theorem wse_X7_requireRouter : (Cond.selects RX7 yX7_requireRouter yX7_requireRouter) ∈ lw_tbl := List.mem_of_getElem? (i := 5) (by decide +kernel)
theorem wse_X7_keepAnswer : (Cond.selects RX7 yX7_keepAnswer yX7_keepAnswer) ∈ lw_tbl := List.mem_of_getElem? (i := 6) (by decide +kernel)
theorem wse_X5_takeOut : (Cond.selects RX5 yX5_takeOut yX5_takeOut) ∈ lw_tbl := List.mem_of_getElem? (i := 7) (by decide +kernel)
theorem wse_X0_bestPriority : (Cond.selects RX0 yX0_bestPriority yX0_bestPriority) ∈ lw_tbl := List.mem_of_getElem? (i := 8) (by decide +kernel)
theorem wse_X0_choose : (Cond.selects RX0 yX0_choose yX0_choose) ∈ lw_tbl := List.mem_of_getElem? (i := 9) (by decide +kernel)
theorem wse_X0_isLookedAt : (Cond.selects RX0 yX0_isLookedAt yX0_isLookedAt) ∈ lw_tbl := List.mem_of_getElem? (i := 10) (by decide +kernel)
theorem wse_X7_requireEntry : (Cond.selects RX7 yX7_requireEntry yX7_requireEntry) ∈ lw_tbl := List.mem_of_getElem? (i := 11) (by decide +kernel)
theorem wse_X8_solicits : (Cond.selects RX8 yX8_solicits yX8_solicits) ∈ lw_tbl := List.mem_of_getElem? (i := 12) (by decide +kernel)
theorem wse_X8_isMapping : (Cond.selects RX8 yX8_isMapping yX8_isMapping) ∈ lw_tbl := List.mem_of_getElem? (i := 13) (by decide +kernel)
theorem wse_X8_placeOf : (Cond.selects RX8 yX8_placeOf yX8_placeOf) ∈ lw_tbl := List.mem_of_getElem? (i := 14) (by decide +kernel)
theorem wse_X8_changes : (Cond.selects RX8 yX8_changes yX8_changes) ∈ lw_tbl := List.mem_of_getElem? (i := 15) (by decide +kernel)
theorem wse_X8_placeAmong : (Cond.selects RX8 yX8_placeAmong yX8_placeAmong) ∈ lw_tbl := List.mem_of_getElem? (i := 16) (by decide +kernel)
theorem wse_X8_mappingFor : (Cond.selects RX8 yX8_mappingFor yX8_mappingFor) ∈ lw_tbl := List.mem_of_getElem? (i := 17) (by decide +kernel)
theorem wse_X8_bitsFor : (Cond.selects RX8 yX8_bitsFor yX8_bitsFor) ∈ lw_tbl := List.mem_of_getElem? (i := 18) (by decide +kernel)
theorem wse_X8_isHiding : (Cond.selects RX8 yX8_isHiding yX8_isHiding) ∈ lw_tbl := List.mem_of_getElem? (i := 19) (by decide +kernel)
theorem wse_X8_serverFor : (Cond.selects RX8 yX8_serverFor yX8_serverFor) ∈ lw_tbl := List.mem_of_getElem? (i := 20) (by decide +kernel)
theorem wse_X8_entryFor : (Cond.selects RX8 yX8_entryFor yX8_entryFor) ∈ lw_tbl := List.mem_of_getElem? (i := 21) (by decide +kernel)
theorem wse_X8_gets : (Cond.selects RX8 yX8_gets yX8_gets) ∈ lw_tbl := List.mem_of_getElem? (i := 22) (by decide +kernel)
theorem wse_X8_frees : (Cond.selects RX8 yX8_frees yX8_frees) ∈ lw_tbl := List.mem_of_getElem? (i := 23) (by decide +kernel)
theorem wse_X8_manyOf : (Cond.selects RX8 yX8_manyOf yX8_manyOf) ∈ lw_tbl := List.mem_of_getElem? (i := 24) (by decide +kernel)
theorem wse_X8_manyBefore : (Cond.selects RX8 yX8_manyBefore yX8_manyBefore) ∈ lw_tbl := List.mem_of_getElem? (i := 25) (by decide +kernel)
theorem wse_X8_placeOfEntry : (Cond.selects RX8 yX8_placeOfEntry yX8_placeOfEntry) ∈ lw_tbl := List.mem_of_getElem? (i := 26) (by decide +kernel)
theorem wse_X8_bestOf : (Cond.selects RX8 yX8_bestOf yX8_bestOf) ∈ lw_tbl := List.mem_of_getElem? (i := 27) (by decide +kernel)
theorem wse_X8_goesTo : (Cond.selects RX8 yX8_goesTo yX8_goesTo) ∈ lw_tbl := List.mem_of_getElem? (i := 28) (by decide +kernel)
theorem wse_X8_asks : (Cond.selects RX8 yX8_asks yX8_asks) ∈ lw_tbl := List.mem_of_getElem? (i := 29) (by decide +kernel)
end
section
/-! numbers: an int as a whole number, with its range -/
def zI (x : Int) : Int32 := Int32.ofInt x
abbrev zrg (x : Int) : Prop := -2147483648 ≤ x ∧ x < 2147483648
theorem zI_toInt {x : Int} (h : zrg x) : (zI x).toInt = x := Int32.toInt_ofInt_of_le (by omega) (by omega)
theorem zI_of (a : Int32) : zI a.toInt = a := Int32.ofInt_toInt a
theorem zrgI (a : Int32) : zrg a.toInt := ⟨by have := Int32.le_toInt a; omega, by have := Int32.toInt_lt a; omega⟩
theorem zI_lt {x y : Int} (hx : zrg x) (hy : zrg y) : zI x < zI y ↔ x < y := by rw [Int32.lt_iff_toInt_lt, zI_toInt hx, zI_toInt hy]
theorem zI_le {x y : Int} (hx : zrg x) (hy : zrg y) : zI x ≤ zI y ↔ x ≤ y := by rw [Int32.le_iff_toInt_le, zI_toInt hx, zI_toInt hy]
theorem zI_eq {x y : Int} (hx : zrg x) (hy : zrg y) : zI x = zI y ↔ x = y := by rw [← Int32.toInt_inj, zI_toInt hx, zI_toInt hy]
theorem zI_add (x y : Int) : zI x + zI y = zI (x + y) := (Int32.ofInt_add x y).symm
theorem zI_sub (x y : Int) : zI x - zI y = zI (x - y) := (Int32.ofInt_sub x y).symm
theorem zI_mul (x y : Int) : zI x * zI y = zI (x * y) := (Int32.ofInt_mul x y).symm
theorem zI_neg (x : Int) : - zI x = zI (-x) := (Int32.ofInt_neg x).symm
theorem zI_0 : zI 0 = 0 := rfl
theorem zI_nat {x : Int} (h : zrg x) : (zI x).toNatClampNeg = x.toNat := Int32.toNatClampNeg_ofInt_of_le (by omega) (by omega)
theorem zI_in {x : Int} {n : Nat} (h0 : 0 ≤ x) (h1 : x < n) (hr : zrg x) : vp_in (zI x) n := by
  intro h
  rcases h with h | h
  · rw [← zI_0, zI_lt hr (by decide)] at h
    omega
  · rw [zI_nat hr] at h
    omega

/-! the world: every object by kind and number -/
abbrev zG : Type := va_G × (Nat → ClassId) × Heap
abbrev zB (G : zG) : Heap := G.2.2
abbrev zA (G : zG) : Nat → Prop := fun q => (zB G).size ≤ q
abbrev zMem : Type := Nat → Nat → Nat → Int32
def zcd (κ i : Nat) : Nat := match κ with
  | 0 => 0
  | 1 => 1
  | 2 => 2
  | 3 => 3 + 6 * i
  | 4 => 4 + 6 * i
  | 5 => 5 + 6 * i
  | 6 => 6 + 6 * i
  | 7 => 7 + 6 * i
  | 8 => 8 + 6 * i
  | 9 => 147
  | 10 => 148
  | 11 => 149
  | 12 => 150
  | 13 => 151
  | 14 => 152 + i
  | 15 => 164
  | 16 => 165 + 59 * i
  | 17 => 166 + 59 * i
  | 18 => 167 + 59 * i
  | 19 => 168 + 59 * (i / 8) + 7 * (i % 8)
  | 20 => 169 + 59 * (i / 8) + 7 * (i % 8)
  | 21 => 170 + 59 * (i / 8) + 7 * (i % 8)
  | 22 => 171 + 59 * (i / 8) + 7 * (i % 8)
  | 23 => 172 + 59 * (i / 8) + 7 * (i % 8)
  | 24 => 173 + 59 * (i / 8) + 7 * (i % 8)
  | 25 => 174 + 59 * (i / 8) + 7 * (i % 8)
  | 26 => 342
  | 27 => 370
  | 35 => 343
  | 36 => 344
  | 37 => 345
  | 38 => 346
  | 39 => 347
  | 40 => 348
  | 41 => 349
  | 42 => 350
  | 44 => 351
  | 45 => 352
  | 46 => 353
  | 47 => 354
  | 48 => 355
  | 49 => 356
  | 50 => 357
  | 52 => 358
  | 53 => 359
  | 54 => 360
  | 55 => 361
  | 56 => 362
  | 57 => 363
  | 58 => 364
  | 59 => 365
  | 60 => 366
  | 61 => 367
  | 62 => 368
  | 63 => 369
  | _ => 0
def znum (κ : Nat) : Nat := match κ with
  | 0 => 1
  | 1 => 1
  | 2 => 1
  | 3 => 24
  | 4 => 24
  | 5 => 24
  | 6 => 24
  | 7 => 24
  | 8 => 24
  | 9 => 1
  | 10 => 1
  | 11 => 1
  | 12 => 1
  | 13 => 1
  | 14 => 12
  | 15 => 1
  | 16 => 3
  | 17 => 3
  | 18 => 3
  | 19 => 24
  | 20 => 24
  | 21 => 24
  | 22 => 24
  | 23 => 24
  | 24 => 24
  | 25 => 24
  | 26 => 1
  | 27 => 1
  | 35 => 1
  | 36 => 1
  | 37 => 1
  | 38 => 1
  | 39 => 1
  | 40 => 1
  | 41 => 1
  | 42 => 1
  | 44 => 1
  | 45 => 1
  | 46 => 1
  | 47 => 1
  | 48 => 1
  | 49 => 1
  | 50 => 1
  | 52 => 1
  | 53 => 1
  | 54 => 1
  | 55 => 1
  | 56 => 1
  | 57 => 1
  | 58 => 1
  | 59 => 1
  | 60 => 1
  | 61 => 1
  | 62 => 1
  | 63 => 1
  | _ => 0
def zlist : List (Nat × Nat) := [(0, 0), (1, 0), (2, 0), (3, 0), (4, 0), (5, 0), (6, 0), (7, 0), (8, 0), (3, 1), (4, 1), (5, 1), (6, 1), (7, 1), (8, 1), (3, 2), (4, 2), (5, 2), (6, 2), (7, 2), (8, 2), (3, 3), (4, 3), (5, 3), (6, 3), (7, 3), (8, 3), (3, 4), (4, 4), (5, 4), (6, 4), (7, 4), (8, 4), (3, 5), (4, 5), (5, 5), (6, 5), (7, 5), (8, 5), (3, 6), (4, 6), (5, 6), (6, 6), (7, 6), (8, 6), (3, 7), (4, 7), (5, 7), (6, 7), (7, 7), (8, 7), (3, 8), (4, 8), (5, 8), (6, 8), (7, 8), (8, 8), (3, 9), (4, 9), (5, 9), (6, 9), (7, 9), (8, 9), (3, 10), (4, 10), (5, 10), (6, 10), (7, 10), (8, 10), (3, 11), (4, 11), (5, 11), (6, 11), (7, 11), (8, 11), (3, 12), (4, 12), (5, 12), (6, 12), (7, 12), (8, 12), (3, 13), (4, 13), (5, 13), (6, 13), (7, 13), (8, 13), (3, 14), (4, 14), (5, 14), (6, 14), (7, 14), (8, 14), (3, 15), (4, 15), (5, 15), (6, 15), (7, 15), (8, 15), (3, 16), (4, 16), (5, 16), (6, 16), (7, 16), (8, 16), (3, 17), (4, 17), (5, 17), (6, 17), (7, 17), (8, 17), (3, 18), (4, 18), (5, 18), (6, 18), (7, 18), (8, 18), (3, 19), (4, 19), (5, 19), (6, 19), (7, 19), (8, 19), (3, 20), (4, 20), (5, 20), (6, 20), (7, 20), (8, 20), (3, 21), (4, 21), (5, 21), (6, 21), (7, 21), (8, 21), (3, 22), (4, 22), (5, 22), (6, 22), (7, 22), (8, 22), (3, 23), (4, 23), (5, 23), (6, 23), (7, 23), (8, 23), (9, 0), (10, 0), (11, 0), (12, 0), (13, 0), (14, 0), (14, 1), (14, 2), (14, 3), (14, 4), (14, 5), (14, 6), (14, 7), (14, 8), (14, 9), (14, 10), (14, 11), (15, 0), (16, 0), (17, 0), (18, 0), (19, 0), (20, 0), (21, 0), (22, 0), (23, 0), (24, 0), (25, 0), (19, 1), (20, 1), (21, 1), (22, 1), (23, 1), (24, 1), (25, 1), (19, 2), (20, 2), (21, 2), (22, 2), (23, 2), (24, 2), (25, 2), (19, 3), (20, 3), (21, 3), (22, 3), (23, 3), (24, 3), (25, 3), (19, 4), (20, 4), (21, 4), (22, 4), (23, 4), (24, 4), (25, 4), (19, 5), (20, 5), (21, 5), (22, 5), (23, 5), (24, 5), (25, 5), (19, 6), (20, 6), (21, 6), (22, 6), (23, 6), (24, 6), (25, 6), (19, 7), (20, 7), (21, 7), (22, 7), (23, 7), (24, 7), (25, 7), (16, 1), (17, 1), (18, 1), (19, 8), (20, 8), (21, 8), (22, 8), (23, 8), (24, 8), (25, 8), (19, 9), (20, 9), (21, 9), (22, 9), (23, 9), (24, 9), (25, 9), (19, 10), (20, 10), (21, 10), (22, 10), (23, 10), (24, 10), (25, 10), (19, 11), (20, 11), (21, 11), (22, 11), (23, 11), (24, 11), (25, 11), (19, 12), (20, 12), (21, 12), (22, 12), (23, 12), (24, 12), (25, 12), (19, 13), (20, 13), (21, 13), (22, 13), (23, 13), (24, 13), (25, 13), (19, 14), (20, 14), (21, 14), (22, 14), (23, 14), (24, 14), (25, 14), (19, 15), (20, 15), (21, 15), (22, 15), (23, 15), (24, 15), (25, 15), (16, 2), (17, 2), (18, 2), (19, 16), (20, 16), (21, 16), (22, 16), (23, 16), (24, 16), (25, 16), (19, 17), (20, 17), (21, 17), (22, 17), (23, 17), (24, 17), (25, 17), (19, 18), (20, 18), (21, 18), (22, 18), (23, 18), (24, 18), (25, 18), (19, 19), (20, 19), (21, 19), (22, 19), (23, 19), (24, 19), (25, 19), (19, 20), (20, 20), (21, 20), (22, 20), (23, 20), (24, 20), (25, 20), (19, 21), (20, 21), (21, 21), (22, 21), (23, 21), (24, 21), (25, 21), (19, 22), (20, 22), (21, 22), (22, 22), (23, 22), (24, 22), (25, 22), (19, 23), (20, 23), (21, 23), (22, 23), (23, 23), (24, 23), (25, 23), (26, 0), (35, 0), (36, 0), (37, 0), (38, 0), (39, 0), (40, 0), (41, 0), (42, 0), (44, 0), (45, 0), (46, 0), (47, 0), (48, 0), (49, 0), (50, 0), (52, 0), (53, 0), (54, 0), (55, 0), (56, 0), (57, 0), (58, 0), (59, 0), (60, 0), (61, 0), (62, 0), (63, 0), (27, 0)]
def zad (G : zG) (κ i : Nat) : Nat := (zB G).size + zcd κ i
def zcel (G : zG) (κ i : Nat) (f : Nat → Int32) : va_E := match κ with
  | 0 => .inr (7, [.ref (zad G 1 0), .ref (zad G 9 0), .ref (zad G 15 0), .int (f 3), .int (f 4), .int (f 5), .int (f 6)])
  | 1 => .inr (4, [.ref (zad G 2 0), .int (f 1)])
  | 2 => .inl (G.2.1 4, 24, .inr (.inr (.inr (.inr (fun j => some (zad G 3 j))))))
  | 3 => .inr (2, [.ref (zad G 4 i), .ref (zad G 5 i), .int (f 2), .int (f 3)])
  | 4 => .inr (3, [.int (f 0), .int (f 1)])
  | 5 => .inr (1, [.ref (zad G 6 i), .ref (zad G 7 i), .ref (zad G 8 i), .int (f 3)])
  | 6 => .inl (G.2.1 0, 4, .inl f)
  | 7 => .inl (G.2.1 0, 4, .inl f)
  | 8 => .inl (G.2.1 0, 4, .inl f)
  | 9 => .inr (6, [.ref (zad G 10 0), .ref (zad G 11 0), .ref (zad G 12 0), .ref (zad G 13 0), .int (f 4)])
  | 10 => .inl (G.2.1 1, 4, .inl f)
  | 11 => .inl (G.2.1 0, 4, .inl f)
  | 12 => .inl (G.2.1 5, 12, .inr (.inr (.inr (.inr (fun j => some (zad G 14 j))))))
  | 13 => .inl (G.2.1 0, 12, .inl f)
  | 14 => .inr (3, [.int (f 0), .int (f 1)])
  | 15 => .inl (G.2.1 6, 3, .inr (.inr (.inr (.inr (fun j => some (zad G 16 j))))))
  | 16 => .inr (5, [.ref (zad G 17 i), .ref (zad G 18 i), .int (f 2)])
  | 17 => .inl (G.2.1 3, 8, .inr (.inr (.inr (.inr (fun j => some (zad G 19 (f j).toNatClampNeg))))))
  | 18 => .inl (G.2.1 1, 32, .inl f)
  | 19 => .inr (0, [.ref (zad G 20 i), .ref (zad G 21 i), .ref (zad G 25 i), .int (f 3), .int (f 4), .int (f 5), .int (f 6)])
  | 20 => .inr (3, [.int (f 0), .int (f 1)])
  | 21 => .inr (1, [.ref (zad G 22 i), .ref (zad G 23 i), .ref (zad G 24 i), .int (f 3)])
  | 22 => .inl (G.2.1 0, 4, .inl f)
  | 23 => .inl (G.2.1 0, 4, .inl f)
  | 24 => .inl (G.2.1 0, 4, .inl f)
  | 25 => .inl (G.2.1 0, 4, .inl f)
  | 26 => .inr (8, [.int (f 0), .int (f 1), .int (f 2), .int (f 3), .int (f 4), .ref (zad G 35 0), .ref (zad G 36 0), .ref (zad G 37 0), .ref (zad G 38 0), .ref (zad G 39 0), .ref (zad G 40 0), .ref (zad G 41 0), .ref (zad G 42 0), .int (f 13), .ref (zad G 44 0), .ref (zad G 45 0), .ref (zad G 46 0), .ref (zad G 47 0), .ref (zad G 48 0), .ref (zad G 49 0), .ref (zad G 50 0), .int (f 21), .ref (zad G 52 0), .ref (zad G 53 0), .ref (zad G 54 0), .ref (zad G 55 0), .ref (zad G 56 0), .ref (zad G 57 0), .ref (zad G 58 0), .ref (zad G 59 0), .ref (zad G 60 0), .ref (zad G 61 0), .ref (zad G 62 0), .ref (zad G 63 0), .int (f 34)])
  | 27 => .inl (G.2.1 2, 1, .inr (.inl (fun j => (f j).toInt64)))
  | 35 => .inl (G.2.1 0, 24, .inl f)
  | 36 => .inl (G.2.1 0, 24, .inl f)
  | 37 => .inl (G.2.1 1, 24, .inl f)
  | 38 => .inl (G.2.1 0, 24, .inl f)
  | 39 => .inl (G.2.1 0, 24, .inl f)
  | 40 => .inl (G.2.1 0, 96, .inl f)
  | 41 => .inl (G.2.1 0, 96, .inl f)
  | 42 => .inl (G.2.1 0, 96, .inl f)
  | 44 => .inl (G.2.1 0, 12, .inl f)
  | 45 => .inl (G.2.1 0, 12, .inl f)
  | 46 => .inl (G.2.1 0, 12, .inl f)
  | 47 => .inl (G.2.1 1, 4, .inl f)
  | 48 => .inl (G.2.1 0, 4, .inl f)
  | 49 => .inl (G.2.1 1, 24, .inl f)
  | 50 => .inl (G.2.1 0, 24, .inl f)
  | 52 => .inl (G.2.1 0, 24, .inl f)
  | 53 => .inl (G.2.1 0, 24, .inl f)
  | 54 => .inl (G.2.1 0, 24, .inl f)
  | 55 => .inl (G.2.1 0, 24, .inl f)
  | 56 => .inl (G.2.1 0, 24, .inl f)
  | 57 => .inl (G.2.1 1, 24, .inl f)
  | 58 => .inl (G.2.1 0, 24, .inl f)
  | 59 => .inl (G.2.1 0, 96, .inl f)
  | 60 => .inl (G.2.1 0, 96, .inl f)
  | 61 => .inl (G.2.1 0, 96, .inl f)
  | 62 => .inl (G.2.1 0, 96, .inl f)
  | 63 => .inl (G.2.1 1, 96, .inl f)
  | _ => .inl (0, 0, .inl f)
def zM (G : zG) (M : zMem) (H : Heap) : Prop := ∀ κ i : Nat, i < znum κ → va_at G.1 vwCl (zad G κ i, zcel G κ i (M κ i)) H
set_option maxRecDepth 100000 in
theorem zcd_at : ∀ κ, κ < 64 → ∀ i, i < znum κ → zlist[zcd κ i]? = some (κ, i) := by decide +kernel
theorem znum_lt {κ i : Nat} (h : i < znum κ) : κ < 64 := by
  rcases Nat.lt_or_ge κ 64 with q | q
  · exact q
  · have e : znum κ = 0 := by unfold znum; split <;> first | rfl | omega
    omega
theorem zcd_inj {κ i κ' i' : Nat} (h : i < znum κ) (h' : i' < znum κ') (e : zcd κ i = zcd κ' i') : κ = κ' ∧ i = i' := by
  have h1 := zcd_at κ (znum_lt h) i h
  have h2 := zcd_at κ' (znum_lt h') i' h'
  rw [e, h2] at h1
  have := Option.some.inj h1
  exact ⟨(Prod.mk.inj this).1.symm, (Prod.mk.inj this).2.symm⟩
def zup (M : zMem) (κ i j : Nat) (v : Int32) : zMem := fun κ' i' j' => if κ' = κ ∧ i' = i ∧ j' = j then v else M κ' i' j'
theorem zup_row {M : zMem} {κ i j : Nat} {v : Int32} : (zup M κ i j v) κ i = upd (M κ i) j v := by
  funext q
  simp only [zup, upd, true_and]
theorem zup_ne {M : zMem} {κ i j : Nat} {v : Int32} {κ' i' : Nat} (h : ¬ (κ' = κ ∧ i' = i)) : (zup M κ i j v) κ' i' = M κ' i' := by
  funext q
  simp only [zup]
  rw [if_neg]
  rintro ⟨h1, h2, -⟩
  exact h ⟨h1, h2⟩
def zV (M : zMem) (κ i j : Nat) : Int := (M κ i j).toInt
theorem zV_rg (M : zMem) (κ i j : Nat) : zrg (zV M κ i j) := zrgI _
theorem zI_V (M : zMem) (κ i j : Nat) : zI (zV M κ i j) = M κ i j := zI_of _
theorem zV_up {M : zMem} {κ i j : Nat} {x : Int} (h : zrg x) (κ' i' j' : Nat) : zV (zup M κ i j (zI x)) κ' i' j' = if κ' = κ ∧ i' = i ∧ j' = j then x else zV M κ' i' j' := by
  unfold zV zup
  split
  · exact zI_toInt h
  · rfl
/-- what a heap that differs at one thing alone holds -/
theorem zM_put {G : zG} {M M' : zMem} {H H1 : Heap} {κ i : Nat} (hi : i < znum κ) (h : zM G M H) (h1 : va_at G.1 vwCl (zad G κ i, zcel G κ i (M' κ i)) H1) (ho : ∀ q, q ≠ zad G κ i → H1[q]? = H[q]?) (hM : ∀ κ' i', ¬ (κ' = κ ∧ i' = i) → M' κ' i' = M κ' i') : zM G M' H1 := by
  intro κ' i' hi'
  by_cases e : κ' = κ ∧ i' = i
  · obtain ⟨rfl, rfl⟩ := e
    exact h1
  · rw [hM κ' i' e]
    refine va_at.kept (h κ' i' hi') (ho _ fun q => e ?_)
    unfold zad at q
    exact zcd_inj hi' hi (by omega)
theorem zM_kept {G : zG} {M : zMem} {H H1 : Heap} (h : zM G M H) (ho : ∀ q, q < H.size → H1[q]? = H[q]?) : zM G M H1 := fun κ i hi => va_at.kept (h κ i hi) (ho _ (va_at.lt (h κ i hi)))
def zTy (t : Nat → ClassId) : List (ClassId × FieldType) := [(t 0, .int), (t 1, .boolean), (t 2, .long), (t 3, .object "LocatorMapper$Entry"), (t 4, .object "LocatorMapper$Mapping"), (t 5, .object "LocatorMapper$Prefix"), (t 6, .object "LocatorMapper$Router")]
def zStr : List (Nat × String) := [(256, "an argument is out of range"), (260, "the value has bits behind the length"), (56, "the prefix is taken, or there is no room for a mapping"), (251, "there is none with this number"), (262, "the mapping is withdrawn"), (114, "the address is taken, or there is no room for a locator"), (264, "the mapping has no locator with the address"), (126, "the other address is taken"), (153, "there is no room for a delegated prefix")]
def zgood : Cond → Bool
  | .castable _ _ => true
  | .declares _ => true
  | .methodLinkNest _ _ _ _ => true
  | w => goodWord w
theorem zword {args a' : Array Value} {s U : State} {w : Cond} (hW : s.WarmedH U.vm) (hg : zgood w = true) (h : w.before args s = true) : w.before a' U = true := by
  by_cases g : goodWord w = true
  · exact word_at hW (good_of_word g) h
  · cases w <;> first | exact va_Nw.use rfl (va_Nw.warmC hW (va_Nw.of rfl h)) | exact va_Nw.use rfl (va_Nw.warmD hW (va_Nw.of rfl h)) | exact va_Nw.use rfl (va_Nw.warmM hW (va_Nw.of rfl h)) | exact absurd hg g
/-- what a state's classes and statics are -/
def zK (G : zG) (U : State) : Prop := va_K G.1 vwCl (zTy G.2.1) U ∧ (∀ w ∈ lw_tbl, zgood w = true → w.before #[] U = true) ∧ vx_Zq Bundle.tN "UNASSIGNED_STACK" Bundle.steD (zA G) U (zB G) ∧ vx_Zq Bundle.tN "SUPPRESSED_SENTINEL" Bundle.listD (zA G) U (zB G) ∧ ∀ q ∈ zStr, ∃ sa, vk_R RX7 q.1 q.2 sa U
theorem zK_warm {G : zG} {s U : State} (hW : s.WarmedH U.vm) (h : zK G s) : zK G U :=
  ⟨va_K.moved hW.alike h.1, fun w hw hg => zword hW hg (h.2.1 w hw hg), vx_Zq.moved hW.alike h.2.2.1, vx_Zq.moved hW.alike h.2.2.2.1, fun q hq => by
    obtain ⟨sa, hs⟩ := h.2.2.2.2 q hq
    exact ⟨sa, vk_R.warm hW hs⟩⟩
/-- what holds throughout a method's body -/
def zC (p : Program) (s : State) (m : MethodId) (args : Array Value) (meth : Method) (c : Code) (G : zG) (own : String) (cc : ByteArray) (nL : Nat) (rt : Option FieldType) : Prop :=
  p.tables.exec = Jvm.exec ∧ c.code = cc ∧ c.maxLocals = nL ∧ s.vm.findClass own = some m.cls ∧ (∀ w ∈ lw_tbl, zgood w = true → w.before args s = true) ∧ zK G s ∧ meth.locks = false ∧ meth.sig.returnType = rt ∧ va_S (zA G) (zB G) s.heap []
/-- the method at pc, with locals lv, stack st and memory M, comes to Q -/
def zZ (p : Program) (l : Launch) (e : Env) (R : Room) (s : State) (m : MethodId) (args : Array Value) (below : List Frame) (meth : Method) (c : Code) (G : zG) (nL : Nat) (Q : State → Prop) (M : zMem) (cells slots : Nat) (pc : Nat) (lv : List (Nat × Value)) (st : List Value) : Prop :=
  ∀ (H : Heap) (locs : List Loc) (ls : Array Slot), zM G M H → va_S (zA G) s.heap H locs → lv_has ls nL lv → W p l e R s m args below meth c H locs cells slots Q (F0 m pc ls st)
/-- a contract's start -/
def zPc (G : zG) (M : zMem) (av : List Value) : Array Value → State → Prop := va_Pc av (fun U => zM G M U.heap ∧ va_S (zA G) (zB G) U.heap [] ∧ zK G U)
theorem zPc_blind {G : zG} {M : zMem} {av : List Value} : FrameBlind (zPc G M av) := fun a U g mk h => ⟨h.1, h.2.1, h.2.2.1, zK_warm (s := U) (U := U.calling g mk a) (State.WarmedH.refl U) h.2.2.2⟩
def zR (d mc ms : Nat) : Room := { frames := d, cells := mc, slots := ms, locals := 40 * d }
def zCl (ci : Nat) (C : String) (T : u_T) (N : Nat) (ty : Nat → FieldType) : Prop := vwCl[ci]? = some (C, T, N) ∧ (∀ w ∈ u_ws C T N, w ∈ lw_tbl ∧ zgood w = true) ∧ (∀ k, k < N → parseFieldDescriptor (T k).2.2.1 = some (ty k)) ∧ (∀ a, a < N → ∀ b, b < N → a ≠ b → (T a).2.1 ≠ (T b).2.1)
set_option maxRecDepth 100000 in
theorem zcl0 : zCl 0 RX0 TX0 7 tyX0 := ⟨rfl, by decide +kernel, tyX0_ok, nmX0⟩
set_option maxRecDepth 100000 in
theorem zcl1 : zCl 1 RX1 TX1 4 tyX1 := ⟨rfl, by decide +kernel, tyX1_ok, nmX1⟩
set_option maxRecDepth 100000 in
theorem zcl2 : zCl 2 RX2 TX2 4 tyX2 := ⟨rfl, by decide +kernel, tyX2_ok, nmX2⟩
set_option maxRecDepth 100000 in
theorem zcl3 : zCl 3 RX3 TX3 2 tyX3 := ⟨rfl, by decide +kernel, tyX3_ok, nmX3⟩
set_option maxRecDepth 100000 in
theorem zcl4 : zCl 4 RX4 TX4 2 tyX4 := ⟨rfl, by decide +kernel, tyX4_ok, nmX4⟩
set_option maxRecDepth 100000 in
theorem zcl5 : zCl 5 RX5 TX5 3 tyX5 := ⟨rfl, by decide +kernel, tyX5_ok, nmX5⟩
set_option maxRecDepth 100000 in
theorem zcl6 : zCl 6 RX6 TX6 5 tyX6 := ⟨rfl, by decide +kernel, tyX6_ok, nmX6⟩
set_option maxRecDepth 100000 in
theorem zcl7 : zCl 7 RX7 TX7 7 tyX7 := ⟨rfl, by decide +kernel, tyX7_ok, nmX7⟩
set_option maxRecDepth 100000 in
theorem zcl8 : zCl 8 RX8 TX8 35 tyX8 := ⟨rfl, by decide +kernel, tyX8_ok, nmX8⟩
end
section
section ZROWS
variable {p : Program} {l : Launch} {e : Env} {R : Room} {s : State} {m : MethodId} {args : Array Value} {below : List Frame} {meth : Method} {c : Code} {G : zG} {own : String} {cc : ByteArray} {nL : Nat} {rt : Option FieldType} {Q : State → Prop} {M : zMem} {cells slots : Nat} {lv : List (Nat × Value)} {st : List Value}
theorem zC.w (C : zC p s m args meth c G own cc nL rt) {w : Cond} (h : w ∈ lw_tbl) (g : zgood w = true) : w.before args s = true := C.2.2.2.2.1 w h g
theorem zC.k (C : zC p s m args meth c G own cc nL rt) : zK G s := C.2.2.2.2.2.1
theorem zC.o (C : zC p s m args meth c G own cc nL rt) : s.vm.findClass own = some m.cls := C.2.2.2.1
theorem zC.b (C : zC p s m args meth c G own cc nL rt) : va_S (zA G) (zB G) s.heap [] := C.2.2.2.2.2.2.2.2
theorem zC.S (C : zC p s m args meth c G own cc nL rt) {H : Heap} {locs : List Loc} (h : va_S (zA G) s.heap H locs) : va_S (zA G) (zB G) H [] :=
  ⟨Nat.le_trans C.b.1 h.1, fun q h1 h2 => by rw [h.2.1 q (Nat.lt_of_lt_of_le h1 C.b.1) h2]; exact C.b.2.1 q h1 h2, fun _ h => by cases h⟩
theorem zP_one {D : va_G} {cl : List vw_C} {q : Nat × va_E} {H : Heap} (h : va_at D cl q H) : va_P D cl [q] H := fun k q' hk => by
  cases k with
  | zero => cases hk; exact h
  | succ k => simp at hk
theorem zad_in {κ i : Nat} : zA G (zad G κ i) := Nat.le_add_right _ _
theorem z_iconst (C : zC p s m args meth c G own cc nL rt) (pc : Nat) {n : Int} (d : decode cc pc = .ok (.iconst n, 1)) (k : zZ p l e R s m args below meth c G nL Q M cells slots (pc + 1) lv (.int (zI n) :: st)) : zZ p l e R s m args below meth c G nL Q M cells slots pc lv st := fun H locs ls hM hS hl => lv_iconst C.1 C.2.1 d rfl (k H locs ls hM hS hl)
theorem z_bipush (C : zC p s m args meth c G own cc nL rt) (pc : Nat) {n : Int} (d : decode cc pc = .ok (.bipush n, 2)) (hv : (Int8.ofInt n).toInt32 = zI n) (k : zZ p l e R s m args below meth c G nL Q M cells slots (pc + 2) lv (.int (zI n) :: st)) : zZ p l e R s m args below meth c G nL Q M cells slots pc lv st := fun H locs ls hM hS hl => lv_bipush C.1 C.2.1 d hv (k H locs ls hM hS hl)
theorem z_sipush (C : zC p s m args meth c G own cc nL rt) (pc : Nat) {n : Int} (d : decode cc pc = .ok (.sipush n, 3)) (hv : (Int16.ofInt n).toInt32 = zI n) (k : zZ p l e R s m args below meth c G nL Q M cells slots (pc + 3) lv (.int (zI n) :: st)) : zZ p l e R s m args below meth c G nL Q M cells slots pc lv st := fun H locs ls hM hS hl => lv_sipush C.1 C.2.1 d hv (k H locs ls hM hS hl)
theorem z_ldc (C : zC p s m args meth c G own cc nL rt) (pc : Nat) {idx : Nat} (hw : Cond.constant own idx 65535 ∈ lw_tbl) (d : decode cc pc = .ok (.ldc idx, 2)) (k : zZ p l e R s m args below meth c G nL Q M cells slots (pc + 2) lv (.int (zI 65535) :: st)) : zZ p l e R s m args below meth c G nL Q M cells slots pc lv st := fun H locs ls hM hS hl => W.ldc (v := zI 65535) C.1 C.2.1 C.o (C.w hw rfl) rfl d (k H locs ls hM hS hl)
theorem z_ldcw (C : zC p s m args meth c G own cc nL rt) (pc : Nat) {idx : Nat} (hw : Cond.constant own idx 65535 ∈ lw_tbl) (d : decode cc pc = .ok (.ldc_w idx, 3)) (k : zZ p l e R s m args below meth c G nL Q M cells slots (pc + 3) lv (.int (zI 65535) :: st)) : zZ p l e R s m args below meth c G nL Q M cells slots pc lv st := fun H locs ls hM hS hl => lv_ldcw (v := zI 65535) C.1 C.2.1 C.o (C.w hw rfl) d (k H locs ls hM hS hl)
theorem z_iload_n (C : zC p s m args meth c G own cc nL rt) (pc : Nat) {j : Fin 4} {i : Nat} {x : Int} (d : decode cc pc = .ok (.iload_n j, 1)) (hi : (j : Nat) = i) (q : Nat) (hq : lv[q]? = some (i, .int (zI x))) (k : zZ p l e R s m args below meth c G nL Q M cells slots (pc + 1) lv (.int (zI x) :: st)) : zZ p l e R s m args below meth c G nL Q M cells slots pc lv st := fun H locs ls hM hS hl => lv_iload_n C.1 C.2.1 d hi (lv_at hl q hq) (k H locs ls hM hS hl)
theorem z_iload (C : zC p s m args meth c G own cc nL rt) (pc : Nat) {i : Nat} {x : Int} (d : decode cc pc = .ok (.iload i, 2)) (q : Nat) (hq : lv[q]? = some (i, .int (zI x))) (k : zZ p l e R s m args below meth c G nL Q M cells slots (pc + 2) lv (.int (zI x) :: st)) : zZ p l e R s m args below meth c G nL Q M cells slots pc lv st := fun H locs ls hM hS hl => lv_iload C.1 C.2.1 d (lv_at hl q hq) (k H locs ls hM hS hl)
theorem z_istore_n (C : zC p s m args meth c G own cc nL rt) (pc : Nat) {j : Fin 4} {i : Nat} {x : Int} {lv' : List (Nat × Value)} (d : decode cc pc = .ok (.istore_n j, 1)) (hi : (j : Nat) = i) (hn : i < nL) (hl' : (i, Value.int (zI x)) :: lv.filter (fun q => !(q.1 == i) && !(q.1 + 1 == i && q.2.category == 2)) = lv') (k : zZ p l e R s m args below meth c G nL Q M cells slots (pc + 1) lv' st) : zZ p l e R s m args below meth c G nL Q M cells slots pc lv (.int (zI x) :: st) := fun H locs ls hM hS hl => lv_istore_n C.1 C.2.1 d hi hl hn hl' (fun ls' h' => k H locs ls' hM hS h')
theorem z_istore (C : zC p s m args meth c G own cc nL rt) (pc : Nat) {i : Nat} {x : Int} {lv' : List (Nat × Value)} (d : decode cc pc = .ok (.istore i, 2)) (hn : i < nL) (hl' : (i, Value.int (zI x)) :: lv.filter (fun q => !(q.1 == i) && !(q.1 + 1 == i && q.2.category == 2)) = lv') (k : zZ p l e R s m args below meth c G nL Q M cells slots (pc + 2) lv' st) : zZ p l e R s m args below meth c G nL Q M cells slots pc lv (.int (zI x) :: st) := fun H locs ls hM hS hl => lv_istore C.1 C.2.1 d hl hn hl' (fun ls' h' => k H locs ls' hM hS h')
theorem z_aload_n (C : zC p s m args meth c G own cc nL rt) (pc : Nat) {j : Fin 4} {i : Nat} {x : Nat} (d : decode cc pc = .ok (.aload_n j, 1)) (hi : (j : Nat) = i) (q : Nat) (hq : lv[q]? = some (i, .ref x)) (k : zZ p l e R s m args below meth c G nL Q M cells slots (pc + 1) lv (.ref x :: st)) : zZ p l e R s m args below meth c G nL Q M cells slots pc lv st := fun H locs ls hM hS hl => lv_aload_n C.1 C.2.1 d hi (lv_at hl q hq) (k H locs ls hM hS hl)
theorem z_aload (C : zC p s m args meth c G own cc nL rt) (pc : Nat) {i : Nat} {x : Nat} (d : decode cc pc = .ok (.aload i, 2)) (q : Nat) (hq : lv[q]? = some (i, .ref x)) (k : zZ p l e R s m args below meth c G nL Q M cells slots (pc + 2) lv (.ref x :: st)) : zZ p l e R s m args below meth c G nL Q M cells slots pc lv st := fun H locs ls hM hS hl => lv_aload C.1 C.2.1 d (lv_at hl q hq) (k H locs ls hM hS hl)
theorem z_astore_n (C : zC p s m args meth c G own cc nL rt) (pc : Nat) {j : Fin 4} {i : Nat} {x : Nat} {lv' : List (Nat × Value)} (d : decode cc pc = .ok (.astore_n j, 1)) (hi : (j : Nat) = i) (hn : i < nL) (hl' : (i, Value.ref x) :: lv.filter (fun q => !(q.1 == i) && !(q.1 + 1 == i && q.2.category == 2)) = lv') (k : zZ p l e R s m args below meth c G nL Q M cells slots (pc + 1) lv' st) : zZ p l e R s m args below meth c G nL Q M cells slots pc lv (.ref x :: st) := fun H locs ls hM hS hl => lv_astore_n C.1 C.2.1 d hi hl hn hl' (fun ls' h' => k H locs ls' hM hS h')
theorem z_astore (C : zC p s m args meth c G own cc nL rt) (pc : Nat) {i : Nat} {x : Nat} {lv' : List (Nat × Value)} (d : decode cc pc = .ok (.astore i, 2)) (hn : i < nL) (hl' : (i, Value.ref x) :: lv.filter (fun q => !(q.1 == i) && !(q.1 + 1 == i && q.2.category == 2)) = lv') (k : zZ p l e R s m args below meth c G nL Q M cells slots (pc + 2) lv' st) : zZ p l e R s m args below meth c G nL Q M cells slots pc lv (.ref x :: st) := fun H locs ls hM hS hl => lv_astore C.1 C.2.1 d hl hn hl' (fun ls' h' => k H locs ls' hM hS h')
theorem z_iinc (C : zC p s m args meth c G own cc nL rt) (pc : Nat) {i : Nat} {n x : Int} {lv' : List (Nat × Value)} (d : decode cc pc = .ok (.iinc i n, 3)) (q : Nat) (hq : lv[q]? = some (i, .int (zI x))) (hn : i < nL) (hl' : (i, Value.int (zI (x + n))) :: lv.filter (fun q => !(q.1 == i) && !(q.1 + 1 == i && q.2.category == 2)) = lv') (k : zZ p l e R s m args below meth c G nL Q M cells slots (pc + 3) lv' st) : zZ p l e R s m args below meth c G nL Q M cells slots pc lv st := fun H locs ls hM hS hl => lv_iinc C.1 C.2.1 d hl hq (zI_add x n) hn hl' (fun ls' h' => k H locs ls' hM hS h')
theorem z_iadd (C : zC p s m args meth c G own cc nL rt) (pc : Nat) {x y : Int} (d : decode cc pc = .ok (.iadd, 1)) (k : zZ p l e R s m args below meth c G nL Q M cells slots (pc + 1) lv (.int (zI (x + y)) :: st)) : zZ p l e R s m args below meth c G nL Q M cells slots pc lv (.int (zI y) :: .int (zI x) :: st) := fun H locs ls hM hS hl => lv_iadd C.1 C.2.1 d (by rw [zI_add]; exact (k H locs ls hM hS hl))
theorem z_isub (C : zC p s m args meth c G own cc nL rt) (pc : Nat) {x y : Int} (d : decode cc pc = .ok (.isub, 1)) (k : zZ p l e R s m args below meth c G nL Q M cells slots (pc + 1) lv (.int (zI (x - y)) :: st)) : zZ p l e R s m args below meth c G nL Q M cells slots pc lv (.int (zI y) :: .int (zI x) :: st) := fun H locs ls hM hS hl => lv_isub C.1 C.2.1 d (by rw [zI_sub]; exact (k H locs ls hM hS hl))
theorem z_imul (C : zC p s m args meth c G own cc nL rt) (pc : Nat) {x y : Int} (d : decode cc pc = .ok (.imul, 1)) (k : zZ p l e R s m args below meth c G nL Q M cells slots (pc + 1) lv (.int (zI (x * y)) :: st)) : zZ p l e R s m args below meth c G nL Q M cells slots pc lv (.int (zI y) :: .int (zI x) :: st) := fun H locs ls hM hS hl => lv_imul C.1 C.2.1 d (by rw [zI_mul]; exact (k H locs ls hM hS hl))
theorem z_ineg (C : zC p s m args meth c G own cc nL rt) (pc : Nat) {x : Int} (d : decode cc pc = .ok (.ineg, 1)) (k : zZ p l e R s m args below meth c G nL Q M cells slots (pc + 1) lv (.int (zI (-x)) :: st)) : zZ p l e R s m args below meth c G nL Q M cells slots pc lv (.int (zI x) :: st) := fun H locs ls hM hS hl => lv_ineg C.1 C.2.1 d (by rw [zI_neg]; exact (k H locs ls hM hS hl))
theorem z_ishr (C : zC p s m args meth c G own cc nL rt) (pc : Nat) {x y : Int} {v : Int} (d : decode cc pc = .ok (.ishr, 1)) (hv : zI x >>> (zI y &&& 31) = zI v) (k : zZ p l e R s m args below meth c G nL Q M cells slots (pc + 1) lv (.int (zI v) :: st)) : zZ p l e R s m args below meth c G nL Q M cells slots pc lv (.int (zI y) :: .int (zI x) :: st) := fun H locs ls hM hS hl => lv_ishr C.1 C.2.1 d (by rw [hv]; exact (k H locs ls hM hS hl))
theorem z_ishl (C : zC p s m args meth c G own cc nL rt) (pc : Nat) {x y : Int} {v : Int} (d : decode cc pc = .ok (.ishl, 1)) (hv : zI x <<< (zI y &&& 31) = zI v) (k : zZ p l e R s m args below meth c G nL Q M cells slots (pc + 1) lv (.int (zI v) :: st)) : zZ p l e R s m args below meth c G nL Q M cells slots pc lv (.int (zI y) :: .int (zI x) :: st) := fun H locs ls hM hS hl => lv_ishl C.1 C.2.1 d (by rw [hv]; exact (k H locs ls hM hS hl))
theorem z_iand (C : zC p s m args meth c G own cc nL rt) (pc : Nat) {x y : Int} {v : Int} (d : decode cc pc = .ok (.iand, 1)) (hv : zI x &&& zI y = zI v) (k : zZ p l e R s m args below meth c G nL Q M cells slots (pc + 1) lv (.int (zI v) :: st)) : zZ p l e R s m args below meth c G nL Q M cells slots pc lv (.int (zI y) :: .int (zI x) :: st) := fun H locs ls hM hS hl => lv_iand C.1 C.2.1 d (by rw [hv]; exact (k H locs ls hM hS hl))
theorem z_ixor (C : zC p s m args meth c G own cc nL rt) (pc : Nat) {x y : Int} {v : Int} (d : decode cc pc = .ok (.ixor, 1)) (hv : zI x ^^^ zI y = zI v) (k : zZ p l e R s m args below meth c G nL Q M cells slots (pc + 1) lv (.int (zI v) :: st)) : zZ p l e R s m args below meth c G nL Q M cells slots pc lv (.int (zI y) :: .int (zI x) :: st) := fun H locs ls hM hS hl => lv_ixor C.1 C.2.1 d (by rw [hv]; exact (k H locs ls hM hS hl))
theorem z_iushr (C : zC p s m args meth c G own cc nL rt) (pc : Nat) {x y v : Int} (d : decode cc pc = .ok (.iushr, 1)) (hv : ((zI x).toUInt32 >>> ((zI y).toUInt32 &&& Int32.toUInt32 31)).toInt32 = zI v) (k : zZ p l e R s m args below meth c G nL Q M cells slots (pc + 1) lv (.int (zI v) :: st)) : zZ p l e R s m args below meth c G nL Q M cells slots pc lv (.int (zI y) :: .int (zI x) :: st) := fun H locs ls hM hS hl => lv_iushr C.1 C.2.1 d hv (k H locs ls hM hS hl)
theorem z_dup (C : zC p s m args meth c G own cc nL rt) (pc : Nat) {v : Value} (d : decode cc pc = .ok (.dup, 1)) (hv : v.category = 1) (k : zZ p l e R s m args below meth c G nL Q M cells slots (pc + 1) lv (v :: v :: st)) : zZ p l e R s m args below meth c G nL Q M cells slots pc lv (v :: st) := fun H locs ls hM hS hl => lv_dup C.1 C.2.1 d hv (k H locs ls hM hS hl)
theorem z_dup2 (C : zC p s m args meth c G own cc nL rt) (pc : Nat) {v w : Value} (d : decode cc pc = .ok (.dup2, 1)) (hv : v.category = 1) (hw : w.category = 1) (k : zZ p l e R s m args below meth c G nL Q M cells slots (pc + 1) lv (v :: w :: v :: w :: st)) : zZ p l e R s m args below meth c G nL Q M cells slots pc lv (v :: w :: st) := fun H locs ls hM hS hl => lv_dup2_11 C.1 C.2.1 d hv hw (k H locs ls hM hS hl)
theorem z_pop (C : zC p s m args meth c G own cc nL rt) (pc : Nat) {v : Value} (d : decode cc pc = .ok (.pop, 1)) (hv : v.category = 1) (k : zZ p l e R s m args below meth c G nL Q M cells slots (pc + 1) lv st) : zZ p l e R s m args below meth c G nL Q M cells slots pc lv (v :: st) := fun H locs ls hM hS hl => lv_pop C.1 C.2.1 d hv (k H locs ls hM hS hl)
theorem z_goto (C : zC p s m args meth c G own cc nL rt) (pc : Nat) {off : Int} (tgt : Nat) (d : decode cc pc = .ok (.goto off, 3)) (ht : (pc : Int) + off = (tgt : Int)) (k : zZ p l e R s m args below meth c G nL Q M cells slots tgt lv st) : zZ p l e R s m args below meth c G nL Q M cells slots pc lv st := fun H locs ls hM hS hl => lv_goto C.1 C.2.1 d ht (k H locs ls hM hS hl)
theorem z_i2l (C : zC p s m args meth c G own cc nL rt) (pc : Nat) {x : Int} (d : decode cc pc = .ok (.i2l, 1)) (k : zZ p l e R s m args below meth c G nL Q M cells slots (pc + 1) lv (.long (zI x).toInt64 :: st)) : zZ p l e R s m args below meth c G nL Q M cells slots pc lv (.int (zI x) :: st) := fun H locs ls hM hS hl => lv_i2l C.1 C.2.1 d rfl (k H locs ls hM hS hl)
theorem z_lconst (C : zC p s m args meth c G own cc nL rt) (pc : Nat) {n : Fin 2} {x : Int} (d : decode cc pc = .ok (.lconst n, 1)) (hx : Int64.ofNat (n : Nat) = (zI x).toInt64) (k : zZ p l e R s m args below meth c G nL Q M cells slots (pc + 1) lv (.long (zI x).toInt64 :: st)) : zZ p l e R s m args below meth c G nL Q M cells slots pc lv st := fun H locs ls hM hS hl => lv_lconst C.1 C.2.1 d hx (k H locs ls hM hS hl)
theorem z_icmp_eq (C : zC p s m args meth c G own cc nL rt) (pc tgt : Nat) {off x y : Int} (d : decode cc pc = .ok (.if_icmp .eq off, 3)) (ht : (pc : Int) + off = (tgt : Int)) (hx : zrg x) (hy : zrg y) (kt : x = y → zZ p l e R s m args below meth c G nL Q M cells slots tgt lv st) (kf : ¬ x = y → zZ p l e R s m args below meth c G nL Q M cells slots (pc + 3) lv st) : zZ p l e R s m args below meth c G nL Q M cells slots pc lv (.int (zI y) :: .int (zI x) :: st) := fun H locs ls hM hS hl => lv_icmp_eq C.1 C.2.1 d ht (fun q => kt ((zI_eq hx hy).mp q) H locs ls hM hS hl) (fun q => kf (fun z => q ((zI_eq hx hy).mpr z)) H locs ls hM hS hl)
theorem z_if_eq (C : zC p s m args meth c G own cc nL rt) (pc tgt : Nat) {off x : Int} (d : decode cc pc = .ok (.ifCond .eq off, 3)) (ht : (pc : Int) + off = (tgt : Int)) (hx : zrg x) (kt : x = 0 → zZ p l e R s m args below meth c G nL Q M cells slots tgt lv st) (kf : ¬ x = 0 → zZ p l e R s m args below meth c G nL Q M cells slots (pc + 3) lv st) : zZ p l e R s m args below meth c G nL Q M cells slots pc lv (.int (zI x) :: st) := fun H locs ls hM hS hl => lv_if_eq C.1 C.2.1 d ht (fun q => kt ((zI_eq hx (by decide : zrg 0)).mp q) H locs ls hM hS hl) (fun q => kf (fun z => q ((zI_eq hx (by decide : zrg 0)).mpr z)) H locs ls hM hS hl)
theorem z_icmp_ne (C : zC p s m args meth c G own cc nL rt) (pc tgt : Nat) {off x y : Int} (d : decode cc pc = .ok (.if_icmp .ne off, 3)) (ht : (pc : Int) + off = (tgt : Int)) (hx : zrg x) (hy : zrg y) (kt : ¬ x = y → zZ p l e R s m args below meth c G nL Q M cells slots tgt lv st) (kf : x = y → zZ p l e R s m args below meth c G nL Q M cells slots (pc + 3) lv st) : zZ p l e R s m args below meth c G nL Q M cells slots pc lv (.int (zI y) :: .int (zI x) :: st) := fun H locs ls hM hS hl => lv_icmp_ne C.1 C.2.1 d ht (fun q => kt (fun z => q ((zI_eq hx hy).mpr z)) H locs ls hM hS hl) (fun q => kf ((zI_eq hx hy).mp q) H locs ls hM hS hl)
theorem z_if_ne (C : zC p s m args meth c G own cc nL rt) (pc tgt : Nat) {off x : Int} (d : decode cc pc = .ok (.ifCond .ne off, 3)) (ht : (pc : Int) + off = (tgt : Int)) (hx : zrg x) (kt : ¬ x = 0 → zZ p l e R s m args below meth c G nL Q M cells slots tgt lv st) (kf : x = 0 → zZ p l e R s m args below meth c G nL Q M cells slots (pc + 3) lv st) : zZ p l e R s m args below meth c G nL Q M cells slots pc lv (.int (zI x) :: st) := fun H locs ls hM hS hl => lv_if_ne C.1 C.2.1 d ht (fun q => kt (fun z => q ((zI_eq hx (by decide : zrg 0)).mpr z)) H locs ls hM hS hl) (fun q => kf ((zI_eq hx (by decide : zrg 0)).mp q) H locs ls hM hS hl)
theorem z_icmp_lt (C : zC p s m args meth c G own cc nL rt) (pc tgt : Nat) {off x y : Int} (d : decode cc pc = .ok (.if_icmp .lt off, 3)) (ht : (pc : Int) + off = (tgt : Int)) (hx : zrg x) (hy : zrg y) (kt : x < y → zZ p l e R s m args below meth c G nL Q M cells slots tgt lv st) (kf : y ≤ x → zZ p l e R s m args below meth c G nL Q M cells slots (pc + 3) lv st) : zZ p l e R s m args below meth c G nL Q M cells slots pc lv (.int (zI y) :: .int (zI x) :: st) := fun H locs ls hM hS hl => lv_icmp_lt C.1 C.2.1 d ht (fun q => kt ((zI_lt hx hy).mp q) H locs ls hM hS hl) (fun q => kf (Int.not_lt.mp fun z => q ((zI_lt hx hy).mpr z)) H locs ls hM hS hl)
theorem z_if_lt (C : zC p s m args meth c G own cc nL rt) (pc tgt : Nat) {off x : Int} (d : decode cc pc = .ok (.ifCond .lt off, 3)) (ht : (pc : Int) + off = (tgt : Int)) (hx : zrg x) (kt : x < 0 → zZ p l e R s m args below meth c G nL Q M cells slots tgt lv st) (kf : 0 ≤ x → zZ p l e R s m args below meth c G nL Q M cells slots (pc + 3) lv st) : zZ p l e R s m args below meth c G nL Q M cells slots pc lv (.int (zI x) :: st) := fun H locs ls hM hS hl => lv_if_lt C.1 C.2.1 d ht (fun q => kt ((zI_lt hx (by decide : zrg 0)).mp q) H locs ls hM hS hl) (fun q => kf (Int.not_lt.mp fun z => q ((zI_lt hx (by decide : zrg 0)).mpr z)) H locs ls hM hS hl)
theorem z_icmp_ge (C : zC p s m args meth c G own cc nL rt) (pc tgt : Nat) {off x y : Int} (d : decode cc pc = .ok (.if_icmp .ge off, 3)) (ht : (pc : Int) + off = (tgt : Int)) (hx : zrg x) (hy : zrg y) (kt : y ≤ x → zZ p l e R s m args below meth c G nL Q M cells slots tgt lv st) (kf : x < y → zZ p l e R s m args below meth c G nL Q M cells slots (pc + 3) lv st) : zZ p l e R s m args below meth c G nL Q M cells slots pc lv (.int (zI y) :: .int (zI x) :: st) := fun H locs ls hM hS hl => lv_icmp_ge C.1 C.2.1 d ht (fun q => kt ((zI_le hy hx).mp q) H locs ls hM hS hl) (fun q => kf (Int.not_le.mp fun z => q ((zI_le hy hx).mpr z)) H locs ls hM hS hl)
theorem z_if_ge (C : zC p s m args meth c G own cc nL rt) (pc tgt : Nat) {off x : Int} (d : decode cc pc = .ok (.ifCond .ge off, 3)) (ht : (pc : Int) + off = (tgt : Int)) (hx : zrg x) (kt : 0 ≤ x → zZ p l e R s m args below meth c G nL Q M cells slots tgt lv st) (kf : x < 0 → zZ p l e R s m args below meth c G nL Q M cells slots (pc + 3) lv st) : zZ p l e R s m args below meth c G nL Q M cells slots pc lv (.int (zI x) :: st) := fun H locs ls hM hS hl => lv_if_ge C.1 C.2.1 d ht (fun q => kt ((zI_le (by decide : zrg 0) hx).mp q) H locs ls hM hS hl) (fun q => kf (Int.not_le.mp fun z => q ((zI_le (by decide : zrg 0) hx).mpr z)) H locs ls hM hS hl)
theorem z_icmp_gt (C : zC p s m args meth c G own cc nL rt) (pc tgt : Nat) {off x y : Int} (d : decode cc pc = .ok (.if_icmp .gt off, 3)) (ht : (pc : Int) + off = (tgt : Int)) (hx : zrg x) (hy : zrg y) (kt : y < x → zZ p l e R s m args below meth c G nL Q M cells slots tgt lv st) (kf : x ≤ y → zZ p l e R s m args below meth c G nL Q M cells slots (pc + 3) lv st) : zZ p l e R s m args below meth c G nL Q M cells slots pc lv (.int (zI y) :: .int (zI x) :: st) := fun H locs ls hM hS hl => lv_icmp_gt C.1 C.2.1 d ht (fun q => kt ((zI_lt hy hx).mp q) H locs ls hM hS hl) (fun q => kf (Int.not_lt.mp fun z => q ((zI_lt hy hx).mpr z)) H locs ls hM hS hl)
theorem z_if_gt (C : zC p s m args meth c G own cc nL rt) (pc tgt : Nat) {off x : Int} (d : decode cc pc = .ok (.ifCond .gt off, 3)) (ht : (pc : Int) + off = (tgt : Int)) (hx : zrg x) (kt : 0 < x → zZ p l e R s m args below meth c G nL Q M cells slots tgt lv st) (kf : x ≤ 0 → zZ p l e R s m args below meth c G nL Q M cells slots (pc + 3) lv st) : zZ p l e R s m args below meth c G nL Q M cells slots pc lv (.int (zI x) :: st) := fun H locs ls hM hS hl => lv_if_gt C.1 C.2.1 d ht (fun q => kt ((zI_lt (by decide : zrg 0) hx).mp q) H locs ls hM hS hl) (fun q => kf (Int.not_lt.mp fun z => q ((zI_lt (by decide : zrg 0) hx).mpr z)) H locs ls hM hS hl)
theorem z_icmp_le (C : zC p s m args meth c G own cc nL rt) (pc tgt : Nat) {off x y : Int} (d : decode cc pc = .ok (.if_icmp .le off, 3)) (ht : (pc : Int) + off = (tgt : Int)) (hx : zrg x) (hy : zrg y) (kt : x ≤ y → zZ p l e R s m args below meth c G nL Q M cells slots tgt lv st) (kf : y < x → zZ p l e R s m args below meth c G nL Q M cells slots (pc + 3) lv st) : zZ p l e R s m args below meth c G nL Q M cells slots pc lv (.int (zI y) :: .int (zI x) :: st) := fun H locs ls hM hS hl => lv_icmp_le C.1 C.2.1 d ht (fun q => kt ((zI_le hx hy).mp q) H locs ls hM hS hl) (fun q => kf (Int.not_le.mp fun z => q ((zI_le hx hy).mpr z)) H locs ls hM hS hl)
theorem z_if_le (C : zC p s m args meth c G own cc nL rt) (pc tgt : Nat) {off x : Int} (d : decode cc pc = .ok (.ifCond .le off, 3)) (ht : (pc : Int) + off = (tgt : Int)) (hx : zrg x) (kt : x ≤ 0 → zZ p l e R s m args below meth c G nL Q M cells slots tgt lv st) (kf : 0 < x → zZ p l e R s m args below meth c G nL Q M cells slots (pc + 3) lv st) : zZ p l e R s m args below meth c G nL Q M cells slots pc lv (.int (zI x) :: st) := fun H locs ls hM hS hl => lv_if_le C.1 C.2.1 d ht (fun q => kt ((zI_le hx (by decide : zrg 0)).mp q) H locs ls hM hS hl) (fun q => kf (Int.not_le.mp fun z => q ((zI_le hx (by decide : zrg 0)).mpr z)) H locs ls hM hS hl)
theorem z_get (C : zC p s m args meth c G own cc nL rt) (pc : Nat) {κ i ci N idx : Nat} {C0 : String} {T : u_T} {ty : Nat → FieldType} {fs : List Value} (cl : zCl ci C0 T N ty) (hi : i < znum κ) (hc : zcel G κ i (M κ i) = .inr (ci, fs)) (j : Nat) (hj : j < N) {v : Value} (hv : fs[j]? = some v) (hw : Cond.fieldLink own idx (T j).1 (T j).2.1 (T j).2.2.1 ∈ lw_tbl) (d : decode cc pc = .ok (.getfield idx, 3)) (k : zZ p l e R s m args below meth c G nL Q M cells slots (pc + 3) lv (v :: st)) : zZ p l e R s m args below meth c G nL Q M cells slots pc lv (.ref (zad G κ i) :: st) := by
  intro H locs ls hM hS hl
  have h1 := hM κ i hi
  rw [hc] at h1
  exact va_get (D := G.1) (ws := [(zad G κ i, .inr (ci, fs))]) (ci := ci) (v := v) (C := C0) (T := T) (N := N) (Ts := u_ws C0 T N) C.1 C.2.1 (fun w hw => C.w (cl.2.1 w hw).1 (cl.2.1 w hw).2) (fun _ h => h) C.o C.k.1 (zP_one h1) 0 rfl cl.1 j hj (C.w hw rfl) (fun _ h => h) hv d (k H locs ls hM hS hl)
theorem z_getI (C : zC p s m args meth c G own cc nL rt) (pc : Nat) {κ i ci N idx : Nat} {C0 : String} {T : u_T} {ty : Nat → FieldType} {fs : List Value} (cl : zCl ci C0 T N ty) (hi : i < znum κ) (hc : zcel G κ i (M κ i) = .inr (ci, fs)) (j : Nat) (hj : j < N) (hv : fs[j]? = some (.int (M κ i j))) (hw : Cond.fieldLink own idx (T j).1 (T j).2.1 (T j).2.2.1 ∈ lw_tbl) (d : decode cc pc = .ok (.getfield idx, 3)) (k : ∀ x : Int, x = zV M κ i j → zrg x → zZ p l e R s m args below meth c G nL Q M cells slots (pc + 3) lv (.int (zI x) :: st)) : zZ p l e R s m args below meth c G nL Q M cells slots pc lv (.ref (zad G κ i) :: st) :=
  z_get C pc cl hi hc j hj (v := .int (zI (zV M κ i j))) (by rw [zI_V]; exact hv) hw d (k _ rfl (zV_rg M κ i j))
set_option maxHeartbeats 1000000 in
theorem z_putI (C : zC p s m args meth c G own cc nL rt) (pc : Nat) {κ i ci N idx : Nat} {C0 : String} {T : u_T} {ty : Nat → FieldType} {fs : List Value} (cl : zCl ci C0 T N ty) (hi : i < znum κ) (hc : zcel G κ i (M κ i) = .inr (ci, fs)) (j : Nat) (hj : j < N) (hw : Cond.fieldLink own idx (T j).1 (T j).2.1 (T j).2.2.1 ∈ lw_tbl) (hfin : (T j).2.2.2 = false) {x : Int} (hn : narrow (ty j) (.int (zI x)) = .int (zI x)) (hfit : fits (ty j) (.int (zI x)) = true) (hlen : j < fs.length) (hc' : zcel G κ i (upd (M κ i) j (zI x)) = .inr (ci, fs.set j (.int (zI x)))) (d : decode cc pc = .ok (.putfield idx, 3)) (k : zZ p l e R s m args below meth c G nL Q (zup M κ i j (zI x)) cells slots (pc + 3) lv st) : zZ p l e R s m args below meth c G nL Q M cells slots pc lv (.int (zI x) :: .ref (zad G κ i) :: st) := by
  intro H locs ls hM hS hl
  have h0 := hM κ i hi
  rw [hc] at h0
  have hts : ∀ w ∈ u_ws C0 T N, w.before args s = true := fun w hw => C.w (cl.2.1 w hw).1 (cl.2.1 w hw).2
  have hap := va_apart (own := own) (D := G.1) (tys := zTy G.2.1) (cl := vwCl) (ci := ci) hts (fun _ h => h) ty cl.2.2.1 cl.2.2.2 C.k.1 cl.1
  obtain ⟨r, h1, cell, q1, q2, q3, q4⟩ := h0
  have hr : r = (C0, T, N) := Option.some.inj (h1.symm.trans cl.1)
  subst hr
  obtain ⟨hSl, hfc, kC, hkC, hkind⟩ := C.k.1.1 ci _ cl.1
  obtain ⟨cf, kf, fi, f, hi2, hsl⟩ := hSl j hj
  have hlay := hts _ (u_in_lay hj)
  unfold u_lay at hlay
  rw [if_neg (by rw [hfin]; decide)] at hlay
  have hst := (u_facts hfc hkC (u_lays hts (fun _ h => h) hj) hi2).1
  have h6 := u_store hfc hkC hkind hlay hi2 (cl.2.2.1 j hj) hn hfit
  refine W.putK C.1 C.2.1 (f := f) ⟨C.o, C.w hw rfl, ⟨_, _, _, hi2⟩, hst⟩ (by rw [q2]; exact h6) q1 q3 (by rw [hsl]; exact k2_hasslot (q4 j hj)) rfl rfl d fun H' e1 e2 e3 => ?_
  rw [hsl] at e1 ⊢
  refine k H' _ ls (zM_put hi hM ?_ e3 (fun κ' i' h => zup_ne h)) (hS.put e2 e3 zad_in) hl
  rw [zup_row, hc']
  exact ⟨_, cl.1, t_OB.to (V := updV (vp_V fs) j (.int (zI x))) ⟨_, e1, q2, q3, t_set q4 hap hj _⟩ (fun j' _ => vp_updV_set hlen _ j')⟩
theorem z_iald (C : zC p s m args meth c G own cc nL rt) (pc : Nat) {κ i n : Nat} (hi : i < znum κ) (hc : zcel G κ i (M κ i) = .inl (G.2.1 0, n, .inl (M κ i))) {x : Int} (hx : zrg x) (h0 : 0 ≤ x) (h1 : x < n) (d : decode cc pc = .ok (.iaload, 1)) (k : ∀ y : Int, y = zV M κ i x.toNat → zrg y → zZ p l e R s m args below meth c G nL Q M cells slots (pc + 1) lv (.int (zI y) :: st)) : zZ p l e R s m args below meth c G nL Q M cells slots pc lv (.int (zI x) :: .ref (zad G κ i) :: st) := by
  intro H locs ls hM hS hl
  have h2 := hM κ i hi
  rw [hc] at h2
  refine va_iald (D := G.1) (cl := vwCl) (tys := zTy G.2.1) (ws := [(zad G κ i, .inl (G.2.1 0, n, .inl (M κ i)))]) C.1 C.2.1 C.k.1 (zP_one h2) 0 0 rfl rfl (zI_in h0 h1 hx) d ?_
  rw [zI_nat hx, ← zI_V M κ i x.toNat]
  exact k _ rfl (zV_rg _ _ _ _) H locs ls hM hS hl
theorem z_zald (C : zC p s m args meth c G own cc nL rt) (pc : Nat) {κ i n : Nat} (hi : i < znum κ) (hc : zcel G κ i (M κ i) = .inl (G.2.1 1, n, .inl (M κ i))) {x : Int} (hx : zrg x) (h0 : 0 ≤ x) (h1 : x < n) (d : decode cc pc = .ok (.baload, 1)) (k : ∀ y : Int, y = zV M κ i x.toNat → zrg y → zZ p l e R s m args below meth c G nL Q M cells slots (pc + 1) lv (.int (zI y) :: st)) : zZ p l e R s m args below meth c G nL Q M cells slots pc lv (.int (zI x) :: .ref (zad G κ i) :: st) := by
  intro H locs ls hM hS hl
  have h2 := hM κ i hi
  rw [hc] at h2
  refine va_zald (D := G.1) (cl := vwCl) (tys := zTy G.2.1) (ws := [(zad G κ i, .inl (G.2.1 1, n, .inl (M κ i)))]) C.1 C.2.1 C.k.1 (zP_one h2) 0 1 rfl rfl (zI_in h0 h1 hx) d ?_
  rw [zI_nat hx, ← zI_V M κ i x.toNat]
  exact k _ rfl (zV_rg _ _ _ _) H locs ls hM hS hl
theorem z_iast (C : zC p s m args meth c G own cc nL rt) (pc : Nat) {κ i n : Nat} (hi : i < znum κ) (hc : zcel G κ i (M κ i) = .inl (G.2.1 0, n, .inl (M κ i))) {x : Int} (hx : zrg x) (h0 : 0 ≤ x) (h1 : x < n) {y : Int} (hc' : zcel G κ i (upd (M κ i) x.toNat (zI y)) = .inl (G.2.1 0, n, .inl (upd (M κ i) x.toNat (zI y)))) (d : decode cc pc = .ok (.iastore, 1)) (k : zZ p l e R s m args below meth c G nL Q (zup M κ i x.toNat (zI y)) cells slots (pc + 1) lv st) : zZ p l e R s m args below meth c G nL Q M cells slots pc lv (.int (zI y) :: .int (zI x) :: .ref (zad G κ i) :: st) := by
  intro H locs ls hM hS hl
  have h2 := hM κ i hi
  rw [hc] at h2
  have hin : vp_in (zI x) n := zI_in h0 h1 hx
  refine W.iast C.1 C.2.1 (show H[zad G κ i]? = some (vp_cell _ _) from h2) ((C.k.1.2 0 _ rfl).1 n (fun j => .int (M κ i j))) (fun q => by cases q) (by show ¬ (zI x < 0 ∨ (arrV _ _ _).slots.size ≤ _); rw [arrV_size]; exact hin) rfl rfl d fun H1 e z oq => ?_
  refine k H1 _ ls (zM_put hi hM ?_ oq (fun κ' i' h => zup_ne h)) (hS.put z oq zad_in) hl
  rw [zup_row, hc']
  show H1[zad G κ i]? = some (vp_cell _ _)
  rw [e]
  rw [vp_cell_i, vp_cell_i, arrV_store, zI_nat hx]
  congr 2
  funext q
  by_cases hq : q = x.toNat
  · subst hq
    simp [updV, upd]
  · simp [updV, upd, hq]
theorem z_zast (C : zC p s m args meth c G own cc nL rt) (pc : Nat) {κ i n : Nat} (hi : i < znum κ) (hc : zcel G κ i (M κ i) = .inl (G.2.1 1, n, .inl (M κ i))) {x : Int} (hx : zrg x) (h0 : 0 ≤ x) (h1 : x < n) {y : Int} (hz : y = 0 ∨ y = 1) (hc' : zcel G κ i (upd (M κ i) x.toNat (zI y)) = .inl (G.2.1 1, n, .inl (upd (M κ i) x.toNat (zI y)))) (d : decode cc pc = .ok (.bastore, 1)) (k : zZ p l e R s m args below meth c G nL Q (zup M κ i x.toNat (zI y)) cells slots (pc + 1) lv st) : zZ p l e R s m args below meth c G nL Q M cells slots pc lv (.int (zI y) :: .int (zI x) :: .ref (zad G κ i) :: st) := by
  intro H locs ls hM hS hl
  have h2 := hM κ i hi
  rw [hc] at h2
  have hin : vp_in (zI x) n := zI_in h0 h1 hx
  have hnar : narrow FieldType.boolean (.int (zI y)) = .int (zI y) := by rcases hz with rfl | rfl <;> rfl
  refine W.zast C.1 C.2.1 (show H[zad G κ i]? = some (vp_cell _ _) from h2) ((C.k.1.2 1 _ rfl).1 n (fun j => .int (M κ i j))) (fun q => by cases q) (by show ¬ (zI x < 0 ∨ (arrV _ _ _).slots.size ≤ _); rw [arrV_size]; exact hin) rfl rfl d fun H1 e z oq => ?_
  refine k H1 _ ls (zM_put hi hM ?_ oq (fun κ' i' h => zup_ne h)) (hS.put z oq zad_in) hl
  rw [zup_row, hc']
  show H1[zad G κ i]? = some (vp_cell _ _)
  rw [e]
  rw [hnar, vp_cell_i, vp_cell_i, arrV_store, zI_nat hx]
  congr 2
  funext q
  by_cases hq : q = x.toNat
  · subst hq
    simp [updV, upd]
  · simp [updV, upd, hq]
theorem z_aald (C : zC p s m args meth c G own cc nL rt) (pc : Nat) {κ i n t : Nat} {C0 : String} {w : Nat → Nat} (hi : i < znum κ) (hc : zcel G κ i (M κ i) = .inl (G.2.1 t, n, .inr (.inr (.inr (.inr (fun j => some (w j))))))) (ht : (zTy G.2.1)[t]? = some (G.2.1 t, .object C0)) {x : Int} (hx : zrg x) (h0 : 0 ≤ x) (h1 : x < n) (d : decode cc pc = .ok (.aaload, 1)) (k : zZ p l e R s m args below meth c G nL Q M cells slots (pc + 1) lv (.ref (w x.toNat) :: st)) : zZ p l e R s m args below meth c G nL Q M cells slots pc lv (.int (zI x) :: .ref (zad G κ i) :: st) := by
  intro H locs ls hM hS hl
  have h2 := hM κ i hi
  rw [hc] at h2
  refine va_aldq (D := G.1) (cl := vwCl) (tys := zTy G.2.1) (ws := [(zad G κ i, .inl (G.2.1 t, n, .inr (.inr (.inr (.inr (fun j => some (w j)))))))]) C.1 C.2.1 C.k.1 (zP_one h2) 0 t rfl ht (zI_in h0 h1 hx) d ?_
  rw [zI_nat hx]
  exact k H locs ls hM hS hl
theorem z_aast (C : zC p s m args meth c G own cc nL rt) (pc : Nat) {i : Nat} (hi : i < 3) {x y : Int} (hx : zrg x) (h0 : 0 ≤ x) (h1 : x < (8 : Nat)) (hy0 : 0 ≤ y) (hy1 : y < 24) (d : decode cc pc = .ok (.aastore, 1)) (k : zZ p l e R s m args below meth c G nL Q (zup M 17 i x.toNat (zI y)) cells slots (pc + 1) lv st) : zZ p l e R s m args below meth c G nL Q M cells slots pc lv (.ref (zad G 19 y.toNat) :: .int (zI x) :: .ref (zad G 17 i) :: st) := by
  intro H locs ls hM hS hl
  have h2 := hM 17 i hi
  have h3 := hM 19 y.toNat (show y.toNat < 24 by omega)
  have hin : vp_in (zI x) 8 := zI_in h0 h1 hx
  have hlt : (zI x).toNatClampNeg < 8 := Nat.not_le.mp fun q => hin (Or.inr q)
  have hn0 : ¬ zI x < 0 := fun q => hin (Or.inl q)
  obtain ⟨r', hr', cellV, g1, g2, g3, -⟩ := h3
  have hcls := (C.k.1.1 0 (RX0, TX0, 7) rfl).2
  obtain ⟨kA, comp, k1, k2, k3, -⟩ := (C.k.1.2 3 (G.2.1 3, .object "LocatorMapper$Entry") rfl).2
  have hcomp : comp = G.1.1 0 := Option.some.inj (k3.symm.trans hcls.1)
  subst hcomp
  obtain ⟨kC, hkC, -⟩ := hcls.2
  have hcl19 := (show H[zad G 17 i]? = some (vp_cell _ _) from h2)
  refine W.aast C.1 C.2.1 hcl19 (fun q h => by cases h) (fun h => by cases h) k1 k2 rfl hkC ⟨hn0, by show _ < (arrV _ _ _).slots.size; rw [arrV_size]; exact hlt⟩ g1 (fun q h => by rw [g3] at h; cases h) (by rw [g2]; exact hkC) (by rw [g2]; exact va_assign hcls) rfl rfl d fun H1 e z oq => ?_
  refine k H1 _ ls (zM_put (κ := 17) hi hM ?_ oq (fun κ' i' h => zup_ne h)) (hS.put z oq zad_in) hl
  rw [zup_row]
  show H1[zad G 17 i]? = some (vp_cell _ _)
  rw [e]
  show some ((vp_cell (G.2.1 3) (8, _)).setSlot _ _) = _
  rw [vp_cell_q, vp_cell_q, arrV_store, zI_nat hx]
  congr 2
  funext q
  by_cases hq : q = x.toNat
  · subst hq
    have e9 : (zI y).toNatClampNeg = y.toNat := zI_nat (by omega)
    simp [updV, upd, va_rf, e9]
  · simp [updV, upd, hq]
end ZROWS
end
section
section ZCALLS
variable {p : Program} {l : Launch} {e : Env} {R : Room} {s : State} {m : MethodId} {args : Array Value} {below : List Frame} {meth : Method} {c : Code} {G : zG} {own : String} {cc : ByteArray} {nL : Nat} {rt : Option FieldType} {Q : State → Prop} {M : zMem} {cells slots : Nat} {lv : List (Nat × Value)} {st : List Value}
/-- a contract's end: the memory -/
def zE (G : zG) : zMem → State → Prop := fun M' t => zM G M' t.heap
def zQi (G : zG) (P : Int → zMem → Prop) : Array Value → State → Outcome → State → Prop := va_Qi (fun r M' => P r.toInt M') (zE G) (zA G)
def zQv (G : zG) (P : zMem → Prop) : Array Value → State → Outcome → State → Prop := va_Qv (fun M' => P M') (zE G) (zA G)
def zQr (G : zG) (P : Nat → zMem → Prop) : Array Value → State → Outcome → State → Prop := va_Qr (S := zMem) (fun _ => True) (fun M' a t => P a M' ∧ zM G M' t.heap) (zA G)
/-- .. when it throws: the memory stays -/
def zX (G : zG) (M : zMem) (EX : String → Prop) : String → State → State → Prop := vx_X (S := Unit) (fun _ => True) (fun E _ t => EX E ∧ zM G M t.heap) (zA G)
theorem z_met {y : MethodName} {bytes : ByteArray} {maxL d mc ms : Nat} {ret : Option FieldType} {Qc : Array Value → State → Outcome → State → Prop} {av : List Value} (lv : List (Nat × Value)) (hy : plainName y.cls = true) (hlen : (lg_sl av).length ≤ maxL) (hlv : lv_args 0 av = lv)
    (body : ∀ (p : Program) (e : Env) (s : State) (m : MethodId) (below : List Frame) (meth : Method) (c : Code), zC p s m av.toArray meth c G y.cls bytes maxL ret → zZ p l e (zR d mc ms) s m av.toArray below meth c G maxL (MQ below Qc av.toArray s mc ms (zA G)) M 0 0 0 lv []) :
    Met l y [.code y bytes maxL ret] (zR d mc ms) (zPc G M av) Qc mc ms (zA G) := by
  refine Met.ofW (cc := bytes) (maxL := maxL) (ret := ret) hy rfl ?_
  intro p e s m args below meth c s₁ B hml hv
  obtain ⟨rfl, hM, hS, hK⟩ := hv
  have hl := lv_entry av (n := maxL) hlen
  rw [lg_entry_eq]
  rw [hlv] at hl
  exact body p e s m below meth c ⟨B.exec, B.bytes, hml, findClass_of_methodNamed B.named, fun w hw hg => zword (State.WarmedH.refl s) hg (hK.2.1 w hw hg), hK, B.notSynchronized, B.returns, hS⟩ s.heap [] _ hM va_S.rf hl
theorem zx_met {y : MethodName} {bytes : ByteArray} {maxL d mc ms : Nat} {ret : Option FieldType} {Qc : Array Value → State → Outcome → State → Prop} {XC : String → State → State → Prop} {av : List Value} (lv : List (Nat × Value)) (hy : plainName y.cls = true) (hlen : (lg_sl av).length ≤ maxL) (hlv : lv_args 0 av = lv)
    (body : ∀ (p : Program) (e : Env) (s : State) (m : MethodId) (below : List Frame) (meth : Method) (c : Code), zC p s m av.toArray meth c G y.cls bytes maxL ret → (∀ x ∈ c.exceptionTable.toList, False) → zZ p l e (zR d mc ms) s m av.toArray below meth c G maxL (vx_MQ below Qc XC av.toArray s mc ms (zA G)) M 0 0 0 lv []) :
    vx_Met l y [.code y bytes maxL ret] (zR d mc ms) (zPc G M av) Qc XC mc ms (zA G) := by
  refine vx_ofW (cc := bytes) (maxL := maxL) (ret := ret) hy rfl ?_
  intro p e s m args below meth c s₁ B hml ht hv
  obtain ⟨rfl, hM, hS, hK⟩ := hv
  have hl := lv_entry av (n := maxL) hlen
  rw [lg_entry_eq]
  rw [hlv] at hl
  exact body p e s m below meth c ⟨B.exec, B.bytes, hml, findClass_of_methodNamed B.named, fun w hw hg => zword (State.WarmedH.refl s) hg (hK.2.1 w hw hg), hK, B.notSynchronized, B.returns, hS⟩ ht s.heap [] _ hM va_S.rf hl
theorem z_iret (C : zC p s m args meth c G own cc nL (some .int)) (pc : Nat) {mc ms : Nat} {P : Int → zMem → Prop} {x : Int} (d : decode cc pc = .ok (.ireturn, 1)) (h1 : cells ≤ mc) (h2 : slots ≤ ms) (hx : zrg x) (hP : P x M) : zZ p l e R s m args below meth c G nL (MQ below (zQi G P) args s mc ms (zA G)) M cells slots pc lv [.int (zI x)] :=
  fun H locs ls hM hS hl => W.widen h1 h2 (W.iret C.1 C.2.1 C.2.2.2.2.2.2.2.1 (fun t ht hW => ⟨⟨zI x, M, rfl, by show P (zI x).toInt M; rw [zI_toInt hx]; exact hP, by show zM G M t.heap; rw [ht]; exact hM⟩, hS.F ht⟩) hS.2.2 d C.2.2.2.2.2.2.1)
theorem z_zret (C : zC p s m args meth c G own cc nL (some .boolean)) (pc : Nat) {mc ms : Nat} {P : Int → zMem → Prop} {x : Int} (d : decode cc pc = .ok (.ireturn, 1)) (h1 : cells ≤ mc) (h2 : slots ≤ ms) (hx : x = 0 ∨ x = 1) (hP : P x M) : zZ p l e R s m args below meth c G nL (MQ below (zQi G P) args s mc ms (zA G)) M cells slots pc lv [.int (zI x)] :=
  fun H locs ls hM hS hl => W.widen h1 h2 (W.zret C.1 C.2.1 C.2.2.2.2.2.2.2.1 (by rcases hx with rfl | rfl <;> rfl) (fun t ht hW => ⟨⟨zI x, M, rfl, by show P (zI x).toInt M; rw [zI_toInt (show zrg x by omega)]; exact hP, by show zM G M t.heap; rw [ht]; exact hM⟩, hS.F ht⟩) hS.2.2 d C.2.2.2.2.2.2.1)
theorem z_vret (C : zC p s m args meth c G own cc nL none) (pc : Nat) {mc ms : Nat} {P : zMem → Prop} (d : decode cc pc = .ok (.return_, 1)) (h1 : cells ≤ mc) (h2 : slots ≤ ms) (hP : P M) : zZ p l e R s m args below meth c G nL (MQ below (zQv G P) args s mc ms (zA G)) M cells slots pc lv [] :=
  fun H locs ls hM hS hl => W.widen h1 h2 (W.vret C.1 C.2.1 C.2.2.2.2.2.2.2.1 (fun t ht hW => ⟨⟨M, rfl, hP, by show zM G M t.heap; rw [ht]; exact hM⟩, hS.F ht⟩) hS.2.2 d C.2.2.2.2.2.2.1)
theorem z_aret {nm : String} (C : zC p s m args meth c G own cc nL (some (.object nm))) (pc : Nat) {mc ms : Nat} {P : Nat → zMem → Prop} {a : Nat} (d : decode cc pc = .ok (.areturn, 1)) (h1 : cells ≤ mc) (h2 : slots ≤ ms) (hP : P a M) : zZ p l e R s m args below meth c G nL (MQ below (zQr G P) args s mc ms (zA G)) M cells slots pc lv [.ref a] :=
  fun H locs ls hM hS hl => W.widen h1 h2 (W.aret C.1 C.2.1 C.2.2.2.2.2.2.2.1 (Or.inl ⟨_, rfl⟩) (Or.inr ⟨a, rfl⟩) (fun t ht hW => ⟨⟨M, a, rfl, trivial, ⟨hP, by rw [ht]; exact hM⟩⟩, hS.F ht⟩) hS.2.2 d C.2.2.2.2.2.2.1)
theorem zx_iret (C : zC p s m args meth c G own cc nL (some .int)) (pc : Nat) {mc ms : Nat} {XC : String → State → State → Prop} {P : Int → zMem → Prop} {x : Int} (d : decode cc pc = .ok (.ireturn, 1)) (h1 : cells ≤ mc) (h2 : slots ≤ ms) (hx : zrg x) (hP : P x M) : zZ p l e R s m args below meth c G nL (vx_MQ below (zQi G P) XC args s mc ms (zA G)) M cells slots pc lv [.int (zI x)] :=
  fun H locs ls hM hS hl => W.widen h1 h2 (vx_ret (W.iret C.1 C.2.1 C.2.2.2.2.2.2.2.1 (fun t ht hW => ⟨⟨zI x, M, rfl, by show P (zI x).toInt M; rw [zI_toInt hx]; exact hP, by show zM G M t.heap; rw [ht]; exact hM⟩, hS.F ht⟩) hS.2.2 d C.2.2.2.2.2.2.1))
theorem zx_zret (C : zC p s m args meth c G own cc nL (some .boolean)) (pc : Nat) {mc ms : Nat} {XC : String → State → State → Prop} {P : Int → zMem → Prop} {x : Int} (d : decode cc pc = .ok (.ireturn, 1)) (h1 : cells ≤ mc) (h2 : slots ≤ ms) (hx : x = 0 ∨ x = 1) (hP : P x M) : zZ p l e R s m args below meth c G nL (vx_MQ below (zQi G P) XC args s mc ms (zA G)) M cells slots pc lv [.int (zI x)] :=
  fun H locs ls hM hS hl => W.widen h1 h2 (vx_ret (W.zret C.1 C.2.1 C.2.2.2.2.2.2.2.1 (by rcases hx with rfl | rfl <;> rfl) (fun t ht hW => ⟨⟨zI x, M, rfl, by show P (zI x).toInt M; rw [zI_toInt (show zrg x by omega)]; exact hP, by show zM G M t.heap; rw [ht]; exact hM⟩, hS.F ht⟩) hS.2.2 d C.2.2.2.2.2.2.1))
theorem zx_vret (C : zC p s m args meth c G own cc nL none) (pc : Nat) {mc ms : Nat} {XC : String → State → State → Prop} {P : zMem → Prop} (d : decode cc pc = .ok (.return_, 1)) (h1 : cells ≤ mc) (h2 : slots ≤ ms) (hP : P M) : zZ p l e R s m args below meth c G nL (vx_MQ below (zQv G P) XC args s mc ms (zA G)) M cells slots pc lv [] :=
  fun H locs ls hM hS hl => W.widen h1 h2 (vx_ret (W.vret C.1 C.2.1 C.2.2.2.2.2.2.2.1 (fun t ht hW => ⟨⟨M, rfl, hP, by show zM G M t.heap; rw [ht]; exact hM⟩, hS.F ht⟩) hS.2.2 d C.2.2.2.2.2.2.1))
theorem zx_aret {nm : String} (C : zC p s m args meth c G own cc nL (some (.object nm))) (pc : Nat) {mc ms : Nat} {XC : String → State → State → Prop} {P : Nat → zMem → Prop} {a : Nat} (d : decode cc pc = .ok (.areturn, 1)) (h1 : cells ≤ mc) (h2 : slots ≤ ms) (hP : P a M) : zZ p l e R s m args below meth c G nL (vx_MQ below (zQr G P) XC args s mc ms (zA G)) M cells slots pc lv [.ref a] :=
  fun H locs ls hM hS hl => W.widen h1 h2 (vx_ret (W.aret C.1 C.2.1 C.2.2.2.2.2.2.2.1 (Or.inl ⟨_, rfl⟩) (Or.inr ⟨a, rfl⟩) (fun t ht hW => ⟨⟨M, a, rfl, trivial, ⟨hP, by rw [ht]; exact hM⟩⟩, hS.F ht⟩) hS.2.2 d C.2.2.2.2.2.2.1))
theorem zB_of {y : MethodName} {bytes : ByteArray} {maxL idx dd mc ms : Nat} {ret : Option FieldType} (n : Nat) (C : zC p s m args meth c G own cc nL rt) (hwl : Cond.methodLink own idx y ∈ lw_tbl) (hwc : Cond.code y bytes maxL ret ∈ lw_tbl) (hwi : Cond.initialized y.cls ∈ lw_tbl)
    (hd : y.cls ≠ "java/lang/invoke/MethodHandle" ∧ y.cls ≠ "java/lang/invoke/VarHandle" ∧ (parseMethodDescriptor y.desc).map (fun d => d.parameters.length) = some n) (hR : dd + 1 ≤ R.frames ∧ 8 + (maxL + 11) + 40 * dd ≤ R.locals) :
    CallB R s args own idx y bytes maxL ret [.code y bytes maxL ret] (zR dd mc ms) mc ms n := by
  have hc := C.w hwc (by first | rfl | simp [zgood, goodWord, Cond.onTables, Cond.keeps])
  refine ⟨rfl, rfl, hR.1, hR.2, ?_, List.mem_cons_self, hc, C.w hwi (by first | rfl | simp [zgood, goodWord, Cond.onTables, Cond.keeps]), ⟨hd.1, hd.2.1⟩, fun sig h => ?_, C.w hwl (by first | rfl | simp [zgood, goodWord, Cond.onTables, Cond.keeps])⟩
  · intro w hw a' U hW
    rcases List.mem_cons.mp hw with rfl | hw
    · exact word_at hW (good_of_word (by first | rfl | simp [zgood, goodWord, Cond.onTables, Cond.keeps])) hc
    · cases hw
  · have h2 := hd.2.2
    rw [h] at h2
    exact (Option.some.inj h2).symm
theorem zW_of {y : MethodName} {bytes : ByteArray} {maxL idx dd mc ms : Nat} {ret : Option FieldType} (n : Nat) (C : zC p s m args meth c G own cc nL rt) (hwl : Cond.methodLink own idx y ∈ lw_tbl) (hwc : Cond.code y bytes maxL ret ∈ lw_tbl) (hwi : Cond.initialized y.cls ∈ lw_tbl) (hwm : Cond.instanceMethod y ∈ lw_tbl) (hws : Cond.selects y.cls y y ∈ lw_tbl)
    (hd : y.cls ≠ "java/lang/invoke/MethodHandle" ∧ y.cls ≠ "java/lang/invoke/VarHandle" ∧ (parseMethodDescriptor y.desc).map (fun d => d.parameters.length) = some n) (hR : dd + 1 ≤ R.frames ∧ 8 + (maxL + 11) + 40 * dd ≤ R.locals) :
    CallW R s args own y.cls idx y bytes maxL ret [.code y bytes maxL ret] (zR dd mc ms) mc ms n :=
  ⟨zB_of n C hwl hwc hwi hd hR, C.w hwm (by first | rfl | simp [zgood, goodWord, Cond.onTables, Cond.keeps]), C.w hws (by first | rfl | simp [zgood, goodWord, Cond.onTables, Cond.keeps])⟩
theorem zS_of {y : MethodName} {bytes : ByteArray} {maxL idx dd mc ms : Nat} {ret : Option FieldType} (n : Nat) (C : zC p s m args meth c G own cc nL rt) (hwl : Cond.methodLink own idx y ∈ lw_tbl) (hwc : Cond.code y bytes maxL ret ∈ lw_tbl) (hwi : Cond.initialized y.cls ∈ lw_tbl) (hwm : Cond.static y ∈ lw_tbl)
    (hd : y.cls ≠ "java/lang/invoke/MethodHandle" ∧ y.cls ≠ "java/lang/invoke/VarHandle" ∧ (parseMethodDescriptor y.desc).map (fun d => d.parameters.length) = some n) (hR : dd + 1 ≤ R.frames ∧ 8 + (maxL + 11) + 40 * dd ≤ R.locals) :
    CallB R s args own idx y bytes maxL ret [.code y bytes maxL ret] (zR dd mc ms) mc ms n ∧ (Cond.static y).before args s = true :=
  ⟨zB_of n C hwl hwc hwi hd hR, C.w hwm (by first | rfl | simp [zgood, goodWord, Cond.onTables, Cond.keeps])⟩
theorem z_fix (C : zC p s m args meth c G own cc nL rt) : CallFix p m c cc nL s args [] own := ⟨C.1, C.2.1, C.2.2.1, C.o, fun _ h => by cases h⟩
theorem z_preS {H : Heap} {locs : List Loc} {As : List Value} (C : zC p s m args meth c G own cc nL rt) (hM : zM G M H) (hS : va_S (zA G) s.heap H locs) : PreS s H (zPc G M As) As :=
  ⟨zPc_blind, fun U hU hW => ⟨rfl, by rw [hU]; exact hM, by rw [hU]; exact C.S hS, zK_warm hW C.k⟩⟩
theorem z_preV {H : Heap} {locs : List Loc} {As : List Value} {κ i ci N : Nat} {C0 : String} {T : u_T} {ty : Nat → FieldType} {fs : List Value} (C : zC p s m args meth c G own cc nL rt) (cl : zCl ci C0 T N ty) (hi : i < znum κ) (hc : zcel G κ i (M κ i) = .inr (ci, fs)) (hM : zM G M H) (hS : va_S (zA G) s.heap H locs) : PreV s H C0 (zad G κ i) (zPc G M (.ref (zad G κ i) :: As)) As := by
  have h1 := hM κ i hi
  rw [hc] at h1
  exact ⟨zPc_blind, va_recv (tys := zTy G.2.1) C.k.1 (zP_one h1) cl.1 (q0 := 0) rfl, fun U hU hW => ⟨rfl, by rw [hU]; exact hM, by rw [hU]; exact C.S hS, zK_warm hW C.k⟩⟩
variable {y : MethodName} {bytes : ByteArray} {maxL idx dd mc ms n : Nat} {ret : Option FieldType} {κ i ci N : Nat} {C0 : String} {T : u_T} {ty : Nat → FieldType} {fs : List Value} {As rest : List Value} {a : Array Value}
theorem vx_callr {H : Heap} {locs : List Loc} {mc ms : Nat} {free : Addr → Prop} {A0 A1 : Nat → Prop} {H0 : Heap} {pc : Nat} {ls : Array Slot} {st0 rest : List Value} {a : Array Value} {S SX : Type} {post : S → Prop} {px : SX → Prop} {B : S → Nat → State → Prop} {BX : String → SX → State → Prop} {AX : Nat → Prop} (hr : vx_Run p l e R s m args below meth c H locs cells slots mc ms (F0 m pc ls st0) rest (va_Qr post B A1 a) (vx_X px BX AX) free) (hS : va_S A0 H0 H locs) (hA : ∀ q, q < H.size → A1 q → A0 q) (hf : ∀ q, free q → A0 q) (hAX : ∀ q, q < H.size → AX q → A0 q)
    (kx : ∀ (E : String) (ce : Cell) (q9 : Addr) (u : SX) (t : State) (H1 : Heap) (locs1 : List Loc), t.heap = H1 → s.vm.Alike t.vm → px u → BX E u t → H.size ≤ H1.size → (∀ q : Nat, q < H.size → ¬ AX q → H1[q]? = H[q]?) → va_S A0 H0 H1 locs1 → H1[q9]? = some ce → ce.vm = .none → s.vm.findClass E = some ce.cls → vx_W p l e R s m args below meth c H1 locs1 (cells + mc) (slots + ms) Q (F0 m pc ls rest) q9)
    (kk : ∀ (u : S) (a1 : Nat) (t : State) (H1 : Heap) (locs1 : List Loc), t.heap = H1 → s.vm.Alike t.vm → post u → B u a1 t → H.size ≤ H1.size → (∀ q : Nat, q < H.size → ¬ A1 q → H1[q]? = H[q]?) → va_S A0 H0 H1 locs1 → W p l e R s m args below meth c H1 locs1 (cells + mc) (slots + ms) Q (F0 m (pc + 3) ls (.ref a1 :: rest))) : W p l e R s m args below meth c H locs cells slots Q (F0 m pc ls st0) := by
  intro T hT X
  rcases hr T hT X with ⟨v, st₀, t, T', L, h0, X', hL, e1, e2, ⟨⟨u, a1, hv, hp, hb⟩, hF⟩, st⟩ | ⟨q, st₀, t, T', L, E, ce, h0, X', hL, e1, e2, ⟨u, hp, hb, hF⟩, hce, hcv, hcl, st⟩
  · cases hv
    obtain ⟨k1, k2, k3⟩ := vx_keep h0 e1 hS hA hf hL hF
    obtain ⟨t2, a2, b1⟩ := kk u a1 t T'.heap (locs ++ L) e1.symm (by rw [← e2]; exact X'.warmed.alike) hp hb k1 k2 k3 T' rfl X'
    exact ⟨t2, st t2 a2, b1⟩
  · obtain ⟨k1, k2, k3⟩ := vx_keep h0 e1 hS hAX hf hL hF
    obtain ⟨t2, a2, b1⟩ := kx E ce q u t T'.heap (locs ++ L) e1.symm (by rw [← e2]; exact X'.warmed.alike) hp hb k1 k2 k3 (by rw [e1]; exact hce) hcv hcl T' rfl X'
    exact ⟨t2, st.trans a2, b1⟩
theorem z_callVi (C : zC p s m args meth c G own cc nL rt) (pc : Nat) {P : Int → zMem → Prop} {st0 : List Value} (hM0 : Met l y [.code y bytes maxL ret] (zR dd mc ms) (zPc G M (.ref (zad G κ i) :: As)) (zQi G P) mc ms (zA G)) (cl : zCl ci C0 T N ty) (hi : i < znum κ) (hc : zcel G κ i (M κ i) = .inr (ci, fs)) (cw : CallW R s args own C0 idx y bytes maxL ret [.code y bytes maxL ret] (zR dd mc ms) mc ms n) (hn : As.length = n) (hW : (rest.map fun v => v.category).sum ≤ 8) (hf : cells + mc ≤ R.cells ∧ slots + ms ≤ R.slots) (d : decode cc pc = .ok (.invokevirtual idx, 3)) (hst : st0 = (As.reverse ++ .ref (zad G κ i) :: rest)) (k : ∀ (x : Int) (M1 : zMem), zrg x → P x M1 → zZ p l e R s m args below meth c G nL Q M1 (cells + mc) (slots + ms) (pc + 3) lv (.int (zI x) :: rest)) : zZ p l e R s m args below meth c G nL Q M cells slots pc lv st0 := by
  subst hst
  intro H locs ls hM hS hl
  exact va_calli (va_runV (As := As) (rest := rest) (z_fix C) hM0 cw (z_preV C cl hi hc hM hS) rfl hn hl.1 rfl (lv_room hW) d hf) hS (fun _ _ h => h) (fun _ h => h) (fun r u t H1 locs1 ht hvm hw hB hz1 hk1 hS1 => by rw [← zI_of r]; exact k _ u (zrgI r) hw H1 locs1 ls (ht ▸ hB) hS1 hl)
theorem zx_callVi (C : zC p s m args meth c G own cc nL rt) (ht : ∀ x ∈ c.exceptionTable.toList, False) (pc : Nat) {P : Int → zMem → Prop} {EX EX1 : String → Prop} {mc1 ms1 : Nat} {Qc : Array Value → State → Outcome → State → Prop} {st0 : List Value} (hM0 : vx_Met l y [.code y bytes maxL ret] (zR dd mc ms) (zPc G M (.ref (zad G κ i) :: As)) (zQi G P) (zX G M EX) mc ms (zA G)) (cl : zCl ci C0 T N ty) (hi : i < znum κ) (hc : zcel G κ i (M κ i) = .inr (ci, fs)) (cw : CallW R s args own C0 idx y bytes maxL ret [.code y bytes maxL ret] (zR dd mc ms) mc ms n) (hn : As.length = n) (hW : (rest.map fun v => v.category).sum ≤ 8) (hf : cells + mc ≤ R.cells ∧ slots + ms ≤ R.slots) (d : decode cc pc = .ok (.invokevirtual idx, 3)) (hst : st0 = (As.reverse ++ .ref (zad G κ i) :: rest)) (hc1 : cells + mc ≤ mc1) (hs1 : slots + ms ≤ ms1) (hX : ∀ E, EX E → EX1 E) (k : ∀ (x : Int) (M1 : zMem), zrg x → P x M1 → zZ p l e R s m args below meth c G nL (vx_MQ below Qc (zX G M EX1) args s mc1 ms1 (zA G)) M1 (cells + mc) (slots + ms) (pc + 3) lv (.int (zI x) :: rest)) : zZ p l e R s m args below meth c G nL (vx_MQ below Qc (zX G M EX1) args s mc1 ms1 (zA G)) M cells slots pc lv st0 := by
  subst hst
  intro H locs ls hM hS hl
  exact vx_calli (vx_runV (As := As) (rest := rest) (z_fix C) hM0 cw (z_preV C cl hi hc hM hS) rfl hn hl.1 rfl (lv_room hW) d hf) hS (fun _ _ h => h) (fun _ h => h) (fun _ _ h => h) (fun E ce q9 u t H1 locs1 ht9 hvm hw hB hz1 hk1 hS1 h6 h7 h8 => vx_out (fun x hx => (ht x hx).elim) C.2.2.2.2.2.2.1 h6 h7 h8 (fun t2 ht2 hvm2 => ⟨(), trivial, ⟨hX E hB.1, by rw [ht2, ← ht9]; exact hB.2⟩, hS1.F ht2⟩) hS1.2.2 hc1 hs1) (fun r u t H1 locs1 ht hvm hw hB hz1 hk1 hS1 => by rw [← zI_of r]; exact k _ u (zrgI r) hw H1 locs1 ls (ht ▸ hB) hS1 hl)
theorem z_callSi (C : zC p s m args meth c G own cc nL rt) (pc : Nat) {P : Int → zMem → Prop} {st0 : List Value} (hM0 : Met l y [.code y bytes maxL ret] (zR dd mc ms) (zPc G M As) (zQi G P) mc ms (zA G)) (cw : CallB R s args own idx y bytes maxL ret [.code y bytes maxL ret] (zR dd mc ms) mc ms n ∧ (Cond.static y).before args s = true) (hn : As.length = n) (hW : (rest.map fun v => v.category).sum ≤ 8) (hf : cells + mc ≤ R.cells ∧ slots + ms ≤ R.slots) (d : decode cc pc = .ok (.invokestatic idx, 3)) (hst : st0 = (As.reverse ++ rest)) (k : ∀ (x : Int) (M1 : zMem), zrg x → P x M1 → zZ p l e R s m args below meth c G nL Q M1 (cells + mc) (slots + ms) (pc + 3) lv (.int (zI x) :: rest)) : zZ p l e R s m args below meth c G nL Q M cells slots pc lv st0 := by
  subst hst
  intro H locs ls hM hS hl
  exact va_calli (va_runS (As := As) (rest := rest) (z_fix C) hM0 cw (z_preS C hM hS) rfl hn hl.1 rfl (lv_room hW) d hf) hS (fun _ _ h => h) (fun _ h => h) (fun r u t H1 locs1 ht hvm hw hB hz1 hk1 hS1 => by rw [← zI_of r]; exact k _ u (zrgI r) hw H1 locs1 ls (ht ▸ hB) hS1 hl)
theorem zx_callSi (C : zC p s m args meth c G own cc nL rt) (ht : ∀ x ∈ c.exceptionTable.toList, False) (pc : Nat) {P : Int → zMem → Prop} {EX EX1 : String → Prop} {mc1 ms1 : Nat} {Qc : Array Value → State → Outcome → State → Prop} {st0 : List Value} (hM0 : vx_Met l y [.code y bytes maxL ret] (zR dd mc ms) (zPc G M As) (zQi G P) (zX G M EX) mc ms (zA G)) (cw : CallB R s args own idx y bytes maxL ret [.code y bytes maxL ret] (zR dd mc ms) mc ms n ∧ (Cond.static y).before args s = true) (hn : As.length = n) (hW : (rest.map fun v => v.category).sum ≤ 8) (hf : cells + mc ≤ R.cells ∧ slots + ms ≤ R.slots) (d : decode cc pc = .ok (.invokestatic idx, 3)) (hst : st0 = (As.reverse ++ rest)) (hc1 : cells + mc ≤ mc1) (hs1 : slots + ms ≤ ms1) (hX : ∀ E, EX E → EX1 E) (k : ∀ (x : Int) (M1 : zMem), zrg x → P x M1 → zZ p l e R s m args below meth c G nL (vx_MQ below Qc (zX G M EX1) args s mc1 ms1 (zA G)) M1 (cells + mc) (slots + ms) (pc + 3) lv (.int (zI x) :: rest)) : zZ p l e R s m args below meth c G nL (vx_MQ below Qc (zX G M EX1) args s mc1 ms1 (zA G)) M cells slots pc lv st0 := by
  subst hst
  intro H locs ls hM hS hl
  exact vx_calli (vx_runS (As := As) (rest := rest) (z_fix C) hM0 cw (z_preS C hM hS) rfl hn hl.1 rfl (lv_room hW) d hf) hS (fun _ _ h => h) (fun _ h => h) (fun _ _ h => h) (fun E ce q9 u t H1 locs1 ht9 hvm hw hB hz1 hk1 hS1 h6 h7 h8 => vx_out (fun x hx => (ht x hx).elim) C.2.2.2.2.2.2.1 h6 h7 h8 (fun t2 ht2 hvm2 => ⟨(), trivial, ⟨hX E hB.1, by rw [ht2, ← ht9]; exact hB.2⟩, hS1.F ht2⟩) hS1.2.2 hc1 hs1) (fun r u t H1 locs1 ht hvm hw hB hz1 hk1 hS1 => by rw [← zI_of r]; exact k _ u (zrgI r) hw H1 locs1 ls (ht ▸ hB) hS1 hl)
theorem z_callVv (C : zC p s m args meth c G own cc nL rt) (pc : Nat) {P : zMem → Prop} {st0 : List Value} (hM0 : Met l y [.code y bytes maxL ret] (zR dd mc ms) (zPc G M (.ref (zad G κ i) :: As)) (zQv G P) mc ms (zA G)) (cl : zCl ci C0 T N ty) (hi : i < znum κ) (hc : zcel G κ i (M κ i) = .inr (ci, fs)) (cw : CallW R s args own C0 idx y bytes maxL ret [.code y bytes maxL ret] (zR dd mc ms) mc ms n) (hn : As.length = n) (hW : (rest.map fun v => v.category).sum ≤ 8) (hf : cells + mc ≤ R.cells ∧ slots + ms ≤ R.slots) (d : decode cc pc = .ok (.invokevirtual idx, 3)) (hst : st0 = (As.reverse ++ .ref (zad G κ i) :: rest)) (k : ∀ (M1 : zMem), P M1 → zZ p l e R s m args below meth c G nL Q M1 (cells + mc) (slots + ms) (pc + 3) lv rest) : zZ p l e R s m args below meth c G nL Q M cells slots pc lv st0 := by
  subst hst
  intro H locs ls hM hS hl
  exact va_callv (va_runV (As := As) (rest := rest) (z_fix C) hM0 cw (z_preV C cl hi hc hM hS) rfl hn hl.1 rfl (lv_room hW) d hf) hS (fun _ _ h => h) (fun _ h => h) (fun u t H1 locs1 ht hvm hw hB hz1 hk1 hS1 => k u hw H1 locs1 ls (ht ▸ hB) hS1 hl)
theorem zx_callVv (C : zC p s m args meth c G own cc nL rt) (ht : ∀ x ∈ c.exceptionTable.toList, False) (pc : Nat) {P : zMem → Prop} {EX EX1 : String → Prop} {mc1 ms1 : Nat} {Qc : Array Value → State → Outcome → State → Prop} {st0 : List Value} (hM0 : vx_Met l y [.code y bytes maxL ret] (zR dd mc ms) (zPc G M (.ref (zad G κ i) :: As)) (zQv G P) (zX G M EX) mc ms (zA G)) (cl : zCl ci C0 T N ty) (hi : i < znum κ) (hc : zcel G κ i (M κ i) = .inr (ci, fs)) (cw : CallW R s args own C0 idx y bytes maxL ret [.code y bytes maxL ret] (zR dd mc ms) mc ms n) (hn : As.length = n) (hW : (rest.map fun v => v.category).sum ≤ 8) (hf : cells + mc ≤ R.cells ∧ slots + ms ≤ R.slots) (d : decode cc pc = .ok (.invokevirtual idx, 3)) (hst : st0 = (As.reverse ++ .ref (zad G κ i) :: rest)) (hc1 : cells + mc ≤ mc1) (hs1 : slots + ms ≤ ms1) (hX : ∀ E, EX E → EX1 E) (k : ∀ (M1 : zMem), P M1 → zZ p l e R s m args below meth c G nL (vx_MQ below Qc (zX G M EX1) args s mc1 ms1 (zA G)) M1 (cells + mc) (slots + ms) (pc + 3) lv rest) : zZ p l e R s m args below meth c G nL (vx_MQ below Qc (zX G M EX1) args s mc1 ms1 (zA G)) M cells slots pc lv st0 := by
  subst hst
  intro H locs ls hM hS hl
  exact vx_callv (vx_runV (As := As) (rest := rest) (z_fix C) hM0 cw (z_preV C cl hi hc hM hS) rfl hn hl.1 rfl (lv_room hW) d hf) hS (fun _ _ h => h) (fun _ h => h) (fun _ _ h => h) (fun E ce q9 u t H1 locs1 ht9 hvm hw hB hz1 hk1 hS1 h6 h7 h8 => vx_out (fun x hx => (ht x hx).elim) C.2.2.2.2.2.2.1 h6 h7 h8 (fun t2 ht2 hvm2 => ⟨(), trivial, ⟨hX E hB.1, by rw [ht2, ← ht9]; exact hB.2⟩, hS1.F ht2⟩) hS1.2.2 hc1 hs1) (fun u t H1 locs1 ht hvm hw hB hz1 hk1 hS1 => k u hw H1 locs1 ls (ht ▸ hB) hS1 hl)
theorem z_callSv (C : zC p s m args meth c G own cc nL rt) (pc : Nat) {P : zMem → Prop} {st0 : List Value} (hM0 : Met l y [.code y bytes maxL ret] (zR dd mc ms) (zPc G M As) (zQv G P) mc ms (zA G)) (cw : CallB R s args own idx y bytes maxL ret [.code y bytes maxL ret] (zR dd mc ms) mc ms n ∧ (Cond.static y).before args s = true) (hn : As.length = n) (hW : (rest.map fun v => v.category).sum ≤ 8) (hf : cells + mc ≤ R.cells ∧ slots + ms ≤ R.slots) (d : decode cc pc = .ok (.invokestatic idx, 3)) (hst : st0 = (As.reverse ++ rest)) (k : ∀ (M1 : zMem), P M1 → zZ p l e R s m args below meth c G nL Q M1 (cells + mc) (slots + ms) (pc + 3) lv rest) : zZ p l e R s m args below meth c G nL Q M cells slots pc lv st0 := by
  subst hst
  intro H locs ls hM hS hl
  exact va_callv (va_runS (As := As) (rest := rest) (z_fix C) hM0 cw (z_preS C hM hS) rfl hn hl.1 rfl (lv_room hW) d hf) hS (fun _ _ h => h) (fun _ h => h) (fun u t H1 locs1 ht hvm hw hB hz1 hk1 hS1 => k u hw H1 locs1 ls (ht ▸ hB) hS1 hl)
theorem zx_callSv (C : zC p s m args meth c G own cc nL rt) (ht : ∀ x ∈ c.exceptionTable.toList, False) (pc : Nat) {P : zMem → Prop} {EX EX1 : String → Prop} {mc1 ms1 : Nat} {Qc : Array Value → State → Outcome → State → Prop} {st0 : List Value} (hM0 : vx_Met l y [.code y bytes maxL ret] (zR dd mc ms) (zPc G M As) (zQv G P) (zX G M EX) mc ms (zA G)) (cw : CallB R s args own idx y bytes maxL ret [.code y bytes maxL ret] (zR dd mc ms) mc ms n ∧ (Cond.static y).before args s = true) (hn : As.length = n) (hW : (rest.map fun v => v.category).sum ≤ 8) (hf : cells + mc ≤ R.cells ∧ slots + ms ≤ R.slots) (d : decode cc pc = .ok (.invokestatic idx, 3)) (hst : st0 = (As.reverse ++ rest)) (hc1 : cells + mc ≤ mc1) (hs1 : slots + ms ≤ ms1) (hX : ∀ E, EX E → EX1 E) (k : ∀ (M1 : zMem), P M1 → zZ p l e R s m args below meth c G nL (vx_MQ below Qc (zX G M EX1) args s mc1 ms1 (zA G)) M1 (cells + mc) (slots + ms) (pc + 3) lv rest) : zZ p l e R s m args below meth c G nL (vx_MQ below Qc (zX G M EX1) args s mc1 ms1 (zA G)) M cells slots pc lv st0 := by
  subst hst
  intro H locs ls hM hS hl
  exact vx_callv (vx_runS (As := As) (rest := rest) (z_fix C) hM0 cw (z_preS C hM hS) rfl hn hl.1 rfl (lv_room hW) d hf) hS (fun _ _ h => h) (fun _ h => h) (fun _ _ h => h) (fun E ce q9 u t H1 locs1 ht9 hvm hw hB hz1 hk1 hS1 h6 h7 h8 => vx_out (fun x hx => (ht x hx).elim) C.2.2.2.2.2.2.1 h6 h7 h8 (fun t2 ht2 hvm2 => ⟨(), trivial, ⟨hX E hB.1, by rw [ht2, ← ht9]; exact hB.2⟩, hS1.F ht2⟩) hS1.2.2 hc1 hs1) (fun u t H1 locs1 ht hvm hw hB hz1 hk1 hS1 => k u hw H1 locs1 ls (ht ▸ hB) hS1 hl)
theorem z_callVr (C : zC p s m args meth c G own cc nL rt) (pc : Nat) {P : Nat → zMem → Prop} {st0 : List Value} (hM0 : Met l y [.code y bytes maxL ret] (zR dd mc ms) (zPc G M (.ref (zad G κ i) :: As)) (zQr G P) mc ms (zA G)) (cl : zCl ci C0 T N ty) (hi : i < znum κ) (hc : zcel G κ i (M κ i) = .inr (ci, fs)) (cw : CallW R s args own C0 idx y bytes maxL ret [.code y bytes maxL ret] (zR dd mc ms) mc ms n) (hn : As.length = n) (hW : (rest.map fun v => v.category).sum ≤ 8) (hf : cells + mc ≤ R.cells ∧ slots + ms ≤ R.slots) (d : decode cc pc = .ok (.invokevirtual idx, 3)) (hst : st0 = (As.reverse ++ .ref (zad G κ i) :: rest)) (k : ∀ (a : Nat) (M1 : zMem), P a M1 → zZ p l e R s m args below meth c G nL Q M1 (cells + mc) (slots + ms) (pc + 3) lv (.ref a :: rest)) : zZ p l e R s m args below meth c G nL Q M cells slots pc lv st0 := by
  subst hst
  intro H locs ls hM hS hl
  exact va_callr (va_runV (As := As) (rest := rest) (z_fix C) hM0 cw (z_preV C cl hi hc hM hS) rfl hn hl.1 rfl (lv_room hW) d hf) hS (fun _ _ h => h) (fun _ h => h) (fun u a1 t H1 locs1 ht hvm hw hB hz1 hk1 hS1 => k a1 u hB.1 H1 locs1 ls (ht ▸ hB.2) hS1 hl)
theorem zx_callVr (C : zC p s m args meth c G own cc nL rt) (ht : ∀ x ∈ c.exceptionTable.toList, False) (pc : Nat) {P : Nat → zMem → Prop} {EX EX1 : String → Prop} {mc1 ms1 : Nat} {Qc : Array Value → State → Outcome → State → Prop} {st0 : List Value} (hM0 : vx_Met l y [.code y bytes maxL ret] (zR dd mc ms) (zPc G M (.ref (zad G κ i) :: As)) (zQr G P) (zX G M EX) mc ms (zA G)) (cl : zCl ci C0 T N ty) (hi : i < znum κ) (hc : zcel G κ i (M κ i) = .inr (ci, fs)) (cw : CallW R s args own C0 idx y bytes maxL ret [.code y bytes maxL ret] (zR dd mc ms) mc ms n) (hn : As.length = n) (hW : (rest.map fun v => v.category).sum ≤ 8) (hf : cells + mc ≤ R.cells ∧ slots + ms ≤ R.slots) (d : decode cc pc = .ok (.invokevirtual idx, 3)) (hst : st0 = (As.reverse ++ .ref (zad G κ i) :: rest)) (hc1 : cells + mc ≤ mc1) (hs1 : slots + ms ≤ ms1) (hX : ∀ E, EX E → EX1 E) (k : ∀ (a : Nat) (M1 : zMem), P a M1 → zZ p l e R s m args below meth c G nL (vx_MQ below Qc (zX G M EX1) args s mc1 ms1 (zA G)) M1 (cells + mc) (slots + ms) (pc + 3) lv (.ref a :: rest)) : zZ p l e R s m args below meth c G nL (vx_MQ below Qc (zX G M EX1) args s mc1 ms1 (zA G)) M cells slots pc lv st0 := by
  subst hst
  intro H locs ls hM hS hl
  exact vx_callr (vx_runV (As := As) (rest := rest) (z_fix C) hM0 cw (z_preV C cl hi hc hM hS) rfl hn hl.1 rfl (lv_room hW) d hf) hS (fun _ _ h => h) (fun _ h => h) (fun _ _ h => h) (fun E ce q9 u t H1 locs1 ht9 hvm hw hB hz1 hk1 hS1 h6 h7 h8 => vx_out (fun x hx => (ht x hx).elim) C.2.2.2.2.2.2.1 h6 h7 h8 (fun t2 ht2 hvm2 => ⟨(), trivial, ⟨hX E hB.1, by rw [ht2, ← ht9]; exact hB.2⟩, hS1.F ht2⟩) hS1.2.2 hc1 hs1) (fun u a1 t H1 locs1 ht hvm hw hB hz1 hk1 hS1 => k a1 u hB.1 H1 locs1 ls (ht ▸ hB.2) hS1 hl)
theorem z_callSr (C : zC p s m args meth c G own cc nL rt) (pc : Nat) {P : Nat → zMem → Prop} {st0 : List Value} (hM0 : Met l y [.code y bytes maxL ret] (zR dd mc ms) (zPc G M As) (zQr G P) mc ms (zA G)) (cw : CallB R s args own idx y bytes maxL ret [.code y bytes maxL ret] (zR dd mc ms) mc ms n ∧ (Cond.static y).before args s = true) (hn : As.length = n) (hW : (rest.map fun v => v.category).sum ≤ 8) (hf : cells + mc ≤ R.cells ∧ slots + ms ≤ R.slots) (d : decode cc pc = .ok (.invokestatic idx, 3)) (hst : st0 = (As.reverse ++ rest)) (k : ∀ (a : Nat) (M1 : zMem), P a M1 → zZ p l e R s m args below meth c G nL Q M1 (cells + mc) (slots + ms) (pc + 3) lv (.ref a :: rest)) : zZ p l e R s m args below meth c G nL Q M cells slots pc lv st0 := by
  subst hst
  intro H locs ls hM hS hl
  exact va_callr (va_runS (As := As) (rest := rest) (z_fix C) hM0 cw (z_preS C hM hS) rfl hn hl.1 rfl (lv_room hW) d hf) hS (fun _ _ h => h) (fun _ h => h) (fun u a1 t H1 locs1 ht hvm hw hB hz1 hk1 hS1 => k a1 u hB.1 H1 locs1 ls (ht ▸ hB.2) hS1 hl)
theorem zx_callSr (C : zC p s m args meth c G own cc nL rt) (ht : ∀ x ∈ c.exceptionTable.toList, False) (pc : Nat) {P : Nat → zMem → Prop} {EX EX1 : String → Prop} {mc1 ms1 : Nat} {Qc : Array Value → State → Outcome → State → Prop} {st0 : List Value} (hM0 : vx_Met l y [.code y bytes maxL ret] (zR dd mc ms) (zPc G M As) (zQr G P) (zX G M EX) mc ms (zA G)) (cw : CallB R s args own idx y bytes maxL ret [.code y bytes maxL ret] (zR dd mc ms) mc ms n ∧ (Cond.static y).before args s = true) (hn : As.length = n) (hW : (rest.map fun v => v.category).sum ≤ 8) (hf : cells + mc ≤ R.cells ∧ slots + ms ≤ R.slots) (d : decode cc pc = .ok (.invokestatic idx, 3)) (hst : st0 = (As.reverse ++ rest)) (hc1 : cells + mc ≤ mc1) (hs1 : slots + ms ≤ ms1) (hX : ∀ E, EX E → EX1 E) (k : ∀ (a : Nat) (M1 : zMem), P a M1 → zZ p l e R s m args below meth c G nL (vx_MQ below Qc (zX G M EX1) args s mc1 ms1 (zA G)) M1 (cells + mc) (slots + ms) (pc + 3) lv (.ref a :: rest)) : zZ p l e R s m args below meth c G nL (vx_MQ below Qc (zX G M EX1) args s mc1 ms1 (zA G)) M cells slots pc lv st0 := by
  subst hst
  intro H locs ls hM hS hl
  exact vx_callr (vx_runS (As := As) (rest := rest) (z_fix C) hM0 cw (z_preS C hM hS) rfl hn hl.1 rfl (lv_room hW) d hf) hS (fun _ _ h => h) (fun _ h => h) (fun _ _ h => h) (fun E ce q9 u t H1 locs1 ht9 hvm hw hB hz1 hk1 hS1 h6 h7 h8 => vx_out (fun x hx => (ht x hx).elim) C.2.2.2.2.2.2.1 h6 h7 h8 (fun t2 ht2 hvm2 => ⟨(), trivial, ⟨hX E hB.1, by rw [ht2, ← ht9]; exact hB.2⟩, hS1.F ht2⟩) hS1.2.2 hc1 hs1) (fun u a1 t H1 locs1 ht hvm hw hB hz1 hk1 hS1 => k a1 u hB.1 H1 locs1 ls (ht ▸ hB.2) hS1 hl)
end ZCALLS
end
section
abbrev zNm : List String := ["java/lang/RuntimeException", "java/lang/Exception"]
def zThr (ik ic : Nat) (cls : String) : Prop := (∀ w ∈ vx_atS RX7 ic cls zNm, w ∈ lw_tbl ∧ zgood w = true) ∧ (∀ w ∈ Cond.classLink RX7 ik cls :: Cond.initialized cls :: vx_atS RX7 ic cls zNm, vx_ot w = true) ∧ Bundle.fit cls = true ∧ (∀ n ∈ zNm, Bundle.fit n = true) ∧ Cond.classLink RX7 ik cls ∈ lw_tbl ∧ Cond.initialized cls ∈ lw_tbl
abbrev xIOB : String := "java/lang/IndexOutOfBoundsException"
abbrev xIAE : String := "java/lang/IllegalArgumentException"
abbrev xISE : String := "java/lang/IllegalStateException"
set_option maxRecDepth 100000 in
theorem zt_iob : zThr 249 253 xIOB := ⟨by decide +kernel, by decide +kernel, by decide +kernel, by decide +kernel, wcl_7_249, wini_IndexOutOfBoundsException⟩
set_option maxRecDepth 100000 in
theorem zt_iae : zThr 254 258 xIAE := ⟨by decide +kernel, by decide +kernel, by decide +kernel, by decide +kernel, wcl_7_254, wini_IllegalArgumentException⟩
set_option maxRecDepth 100000 in
theorem zt_ise : zThr 54 58 xISE := ⟨by decide +kernel, by decide +kernel, by decide +kernel, by decide +kernel, wcl_7_54, wini_IllegalStateException⟩
section ZTHROW
variable {p : Program} {l : Launch} {e : Env} {R : Room} {s : State} {m : MethodId} {args : Array Value} {below : List Frame} {meth : Method} {c : Code} {G : zG} {cc : ByteArray} {nL : Nat} {rt : Option FieldType} {M : zMem} {cells slots : Nat} {lv : List (Nat × Value)} {st : List Value}
theorem z_throw (C : zC p s m args meth c G RX7 cc nL rt) (ht : ∀ x ∈ c.exceptionTable.toList, False) (hl : l.stackTraces = false) (pc : Nat) {ik is ic mc ms : Nat} {cls text : String} {EX : String → Prop} {Qc : Array Value → State → Outcome → State → Prop} (hT : zThr ik ic cls) (hstr : (is, text) ∈ zStr)
    (d0 : decode cc pc = .ok (.new ik, 3)) (d3 : decode cc (pc + 3) = .ok (.dup, 1)) (d4 : decode cc (pc + 4) = .ok (.ldc is, 2)) (d6 : decode cc (pc + 6) = .ok (.invokespecial ic, 3)) (d9 : decode cc (pc + 9) = .ok (.athrow, 1))
    (hR : 5 < R.frames ∧ (st.map fun v => v.category).sum + 82 ≤ R.locals ∧ cells + 1 ≤ R.cells ∧ slots + 6 ≤ R.slots) (hc : cells + 1 ≤ mc ∧ slots + 6 ≤ ms) (hE : EX cls) : zZ p l e R s m args below meth c G nL (vx_MQ below Qc (zX G M EX) args s mc ms (zA G)) M cells slots pc lv st := by
  intro H locs ls hM hS hl2
  obtain ⟨sa, hsa⟩ := C.k.2.2.2.2 _ hstr
  obtain ⟨t1, t2, t3, t4, t5, t6⟩ := hT
  exact vx_throwS (A := zA G) (names := zNm) C.1 C.2.1 hl C.o t3 t4 (C.w t5 rfl) (C.w t6 rfl) hsa (fun w hw => C.w (t1 w hw).1 (t1 w hw).2) t2
    (vx_Zq.kept C.k.2.2.1 (fun a h1 h2 => C.b.2.1 a h1 h2)) (vx_Zq.kept C.k.2.2.2.1 (fun a h1 h2 => C.b.2.1 a h1 h2)) hS (hl2.1.trans C.2.2.1.symm) d0 d3 d4 d6 d9 (fun x hx => (ht x hx).elim) hR.1 hR.2.1 hR.2.2.1 hR.2.2.2 C.2.2.2.2.2.2.1
    (fun t hvm hz hk => ⟨(), trivial, ⟨hE, zM_kept hM hk⟩, ⟨Nat.le_trans hS.1 hz, fun q h1 h2 => by rw [hk q (Nat.lt_of_lt_of_le h1 hS.1)]; exact hS.2.1 q h1 h2⟩⟩) hS.2.2 hc.1 hc.2
theorem z_throwW (C : zC p s m args meth c G RX7 cc nL rt) (ht : ∀ x ∈ c.exceptionTable.toList, False) (hl : l.stackTraces = false) (pc : Nat) {ik is ic mc ms : Nat} {cls text : String} {EX : String → Prop} {Qc : Array Value → State → Outcome → State → Prop} (hT : zThr ik ic cls) (hstr : (is, text) ∈ zStr)
    (d0 : decode cc pc = .ok (.new ik, 3)) (d3 : decode cc (pc + 3) = .ok (.dup, 1)) (d4 : decode cc (pc + 4) = .ok (.ldc_w is, 3)) (d6 : decode cc (pc + 7) = .ok (.invokespecial ic, 3)) (d9 : decode cc (pc + 10) = .ok (.athrow, 1))
    (hR : 5 < R.frames ∧ (st.map fun v => v.category).sum + 82 ≤ R.locals ∧ cells + 1 ≤ R.cells ∧ slots + 6 ≤ R.slots) (hc : cells + 1 ≤ mc ∧ slots + 6 ≤ ms) (hE : EX cls) : zZ p l e R s m args below meth c G nL (vx_MQ below Qc (zX G M EX) args s mc ms (zA G)) M cells slots pc lv st := by
  intro H locs ls hM hS hl2
  obtain ⟨sa, hsa⟩ := C.k.2.2.2.2 _ hstr
  obtain ⟨t1, t2, t3, t4, t5, t6⟩ := hT
  exact vx_throwSW (A := zA G) (names := zNm) C.1 C.2.1 hl C.o t3 t4 (C.w t5 rfl) (C.w t6 rfl) hsa (fun w hw => C.w (t1 w hw).1 (t1 w hw).2) t2
    (vx_Zq.kept C.k.2.2.1 (fun a h1 h2 => C.b.2.1 a h1 h2)) (vx_Zq.kept C.k.2.2.2.1 (fun a h1 h2 => C.b.2.1 a h1 h2)) hS (hl2.1.trans C.2.2.1.symm) d0 d3 d4 d6 d9 (fun x hx => (ht x hx).elim) hR.1 hR.2.1 hR.2.2.1 hR.2.2.2 C.2.2.2.2.2.2.1
    (fun t hvm hz hk => ⟨(), trivial, ⟨hE, zM_kept hM hk⟩, ⟨Nat.le_trans hS.1 hz, fun q h1 h2 => by rw [hk q (Nat.lt_of_lt_of_le h1 hS.1)]; exact hS.2.1 q h1 h2⟩⟩) hS.2.2 hc.1 hc.2
end ZTHROW
end
section
theorem zc0 (G : zG) (i : Nat) (f : Nat → Int32) : zcel G 0 i f = .inr (7, [.ref (zad G 1 0), .ref (zad G 9 0), .ref (zad G 15 0), .int (f 3), .int (f 4), .int (f 5), .int (f 6)]) := rfl
theorem zc1 (G : zG) (i : Nat) (f : Nat → Int32) : zcel G 1 i f = .inr (4, [.ref (zad G 2 0), .int (f 1)]) := rfl
theorem zc2 (G : zG) (i : Nat) (f : Nat → Int32) : zcel G 2 i f = .inl (G.2.1 4, 24, .inr (.inr (.inr (.inr (fun j => some (zad G 3 j)))))) := rfl
theorem zc3 (G : zG) (i : Nat) (f : Nat → Int32) : zcel G 3 i f = .inr (2, [.ref (zad G 4 i), .ref (zad G 5 i), .int (f 2), .int (f 3)]) := rfl
theorem zc4 (G : zG) (i : Nat) (f : Nat → Int32) : zcel G 4 i f = .inr (3, [.int (f 0), .int (f 1)]) := rfl
theorem zc5 (G : zG) (i : Nat) (f : Nat → Int32) : zcel G 5 i f = .inr (1, [.ref (zad G 6 i), .ref (zad G 7 i), .ref (zad G 8 i), .int (f 3)]) := rfl
theorem zc6 (G : zG) (i : Nat) (f : Nat → Int32) : zcel G 6 i f = .inl (G.2.1 0, 4, .inl f) := rfl
theorem zc7 (G : zG) (i : Nat) (f : Nat → Int32) : zcel G 7 i f = .inl (G.2.1 0, 4, .inl f) := rfl
theorem zc8 (G : zG) (i : Nat) (f : Nat → Int32) : zcel G 8 i f = .inl (G.2.1 0, 4, .inl f) := rfl
theorem zc9 (G : zG) (i : Nat) (f : Nat → Int32) : zcel G 9 i f = .inr (6, [.ref (zad G 10 0), .ref (zad G 11 0), .ref (zad G 12 0), .ref (zad G 13 0), .int (f 4)]) := rfl
theorem zc10 (G : zG) (i : Nat) (f : Nat → Int32) : zcel G 10 i f = .inl (G.2.1 1, 4, .inl f) := rfl
theorem zc11 (G : zG) (i : Nat) (f : Nat → Int32) : zcel G 11 i f = .inl (G.2.1 0, 4, .inl f) := rfl
theorem zc12 (G : zG) (i : Nat) (f : Nat → Int32) : zcel G 12 i f = .inl (G.2.1 5, 12, .inr (.inr (.inr (.inr (fun j => some (zad G 14 j)))))) := rfl
theorem zc13 (G : zG) (i : Nat) (f : Nat → Int32) : zcel G 13 i f = .inl (G.2.1 0, 12, .inl f) := rfl
theorem zc14 (G : zG) (i : Nat) (f : Nat → Int32) : zcel G 14 i f = .inr (3, [.int (f 0), .int (f 1)]) := rfl
theorem zc15 (G : zG) (i : Nat) (f : Nat → Int32) : zcel G 15 i f = .inl (G.2.1 6, 3, .inr (.inr (.inr (.inr (fun j => some (zad G 16 j)))))) := rfl
theorem zc16 (G : zG) (i : Nat) (f : Nat → Int32) : zcel G 16 i f = .inr (5, [.ref (zad G 17 i), .ref (zad G 18 i), .int (f 2)]) := rfl
theorem zc17 (G : zG) (i : Nat) (f : Nat → Int32) : zcel G 17 i f = .inl (G.2.1 3, 8, .inr (.inr (.inr (.inr (fun j => some (zad G 19 (f j).toNatClampNeg)))))) := rfl
theorem zc18 (G : zG) (i : Nat) (f : Nat → Int32) : zcel G 18 i f = .inl (G.2.1 1, 32, .inl f) := rfl
theorem zc19 (G : zG) (i : Nat) (f : Nat → Int32) : zcel G 19 i f = .inr (0, [.ref (zad G 20 i), .ref (zad G 21 i), .ref (zad G 25 i), .int (f 3), .int (f 4), .int (f 5), .int (f 6)]) := rfl
theorem zc20 (G : zG) (i : Nat) (f : Nat → Int32) : zcel G 20 i f = .inr (3, [.int (f 0), .int (f 1)]) := rfl
theorem zc21 (G : zG) (i : Nat) (f : Nat → Int32) : zcel G 21 i f = .inr (1, [.ref (zad G 22 i), .ref (zad G 23 i), .ref (zad G 24 i), .int (f 3)]) := rfl
theorem zc22 (G : zG) (i : Nat) (f : Nat → Int32) : zcel G 22 i f = .inl (G.2.1 0, 4, .inl f) := rfl
theorem zc23 (G : zG) (i : Nat) (f : Nat → Int32) : zcel G 23 i f = .inl (G.2.1 0, 4, .inl f) := rfl
theorem zc24 (G : zG) (i : Nat) (f : Nat → Int32) : zcel G 24 i f = .inl (G.2.1 0, 4, .inl f) := rfl
theorem zc25 (G : zG) (i : Nat) (f : Nat → Int32) : zcel G 25 i f = .inl (G.2.1 0, 4, .inl f) := rfl
theorem zc26 (G : zG) (i : Nat) (f : Nat → Int32) : zcel G 26 i f = .inr (8, [.int (f 0), .int (f 1), .int (f 2), .int (f 3), .int (f 4), .ref (zad G 35 0), .ref (zad G 36 0), .ref (zad G 37 0), .ref (zad G 38 0), .ref (zad G 39 0), .ref (zad G 40 0), .ref (zad G 41 0), .ref (zad G 42 0), .int (f 13), .ref (zad G 44 0), .ref (zad G 45 0), .ref (zad G 46 0), .ref (zad G 47 0), .ref (zad G 48 0), .ref (zad G 49 0), .ref (zad G 50 0), .int (f 21), .ref (zad G 52 0), .ref (zad G 53 0), .ref (zad G 54 0), .ref (zad G 55 0), .ref (zad G 56 0), .ref (zad G 57 0), .ref (zad G 58 0), .ref (zad G 59 0), .ref (zad G 60 0), .ref (zad G 61 0), .ref (zad G 62 0), .ref (zad G 63 0), .int (f 34)]) := rfl
theorem zc27 (G : zG) (i : Nat) (f : Nat → Int32) : zcel G 27 i f = .inl (G.2.1 2, 1, .inr (.inl (fun j => (f j).toInt64))) := rfl
theorem zc35 (G : zG) (i : Nat) (f : Nat → Int32) : zcel G 35 i f = .inl (G.2.1 0, 24, .inl f) := rfl
theorem zc36 (G : zG) (i : Nat) (f : Nat → Int32) : zcel G 36 i f = .inl (G.2.1 0, 24, .inl f) := rfl
theorem zc37 (G : zG) (i : Nat) (f : Nat → Int32) : zcel G 37 i f = .inl (G.2.1 1, 24, .inl f) := rfl
theorem zc38 (G : zG) (i : Nat) (f : Nat → Int32) : zcel G 38 i f = .inl (G.2.1 0, 24, .inl f) := rfl
theorem zc39 (G : zG) (i : Nat) (f : Nat → Int32) : zcel G 39 i f = .inl (G.2.1 0, 24, .inl f) := rfl
theorem zc40 (G : zG) (i : Nat) (f : Nat → Int32) : zcel G 40 i f = .inl (G.2.1 0, 96, .inl f) := rfl
theorem zc41 (G : zG) (i : Nat) (f : Nat → Int32) : zcel G 41 i f = .inl (G.2.1 0, 96, .inl f) := rfl
theorem zc42 (G : zG) (i : Nat) (f : Nat → Int32) : zcel G 42 i f = .inl (G.2.1 0, 96, .inl f) := rfl
theorem zc44 (G : zG) (i : Nat) (f : Nat → Int32) : zcel G 44 i f = .inl (G.2.1 0, 12, .inl f) := rfl
theorem zc45 (G : zG) (i : Nat) (f : Nat → Int32) : zcel G 45 i f = .inl (G.2.1 0, 12, .inl f) := rfl
theorem zc46 (G : zG) (i : Nat) (f : Nat → Int32) : zcel G 46 i f = .inl (G.2.1 0, 12, .inl f) := rfl
theorem zc47 (G : zG) (i : Nat) (f : Nat → Int32) : zcel G 47 i f = .inl (G.2.1 1, 4, .inl f) := rfl
theorem zc48 (G : zG) (i : Nat) (f : Nat → Int32) : zcel G 48 i f = .inl (G.2.1 0, 4, .inl f) := rfl
theorem zc49 (G : zG) (i : Nat) (f : Nat → Int32) : zcel G 49 i f = .inl (G.2.1 1, 24, .inl f) := rfl
theorem zc50 (G : zG) (i : Nat) (f : Nat → Int32) : zcel G 50 i f = .inl (G.2.1 0, 24, .inl f) := rfl
theorem zc52 (G : zG) (i : Nat) (f : Nat → Int32) : zcel G 52 i f = .inl (G.2.1 0, 24, .inl f) := rfl
theorem zc53 (G : zG) (i : Nat) (f : Nat → Int32) : zcel G 53 i f = .inl (G.2.1 0, 24, .inl f) := rfl
theorem zc54 (G : zG) (i : Nat) (f : Nat → Int32) : zcel G 54 i f = .inl (G.2.1 0, 24, .inl f) := rfl
theorem zc55 (G : zG) (i : Nat) (f : Nat → Int32) : zcel G 55 i f = .inl (G.2.1 0, 24, .inl f) := rfl
theorem zc56 (G : zG) (i : Nat) (f : Nat → Int32) : zcel G 56 i f = .inl (G.2.1 0, 24, .inl f) := rfl
theorem zc57 (G : zG) (i : Nat) (f : Nat → Int32) : zcel G 57 i f = .inl (G.2.1 1, 24, .inl f) := rfl
theorem zc58 (G : zG) (i : Nat) (f : Nat → Int32) : zcel G 58 i f = .inl (G.2.1 0, 24, .inl f) := rfl
theorem zc59 (G : zG) (i : Nat) (f : Nat → Int32) : zcel G 59 i f = .inl (G.2.1 0, 96, .inl f) := rfl
theorem zc60 (G : zG) (i : Nat) (f : Nat → Int32) : zcel G 60 i f = .inl (G.2.1 0, 96, .inl f) := rfl
theorem zc61 (G : zG) (i : Nat) (f : Nat → Int32) : zcel G 61 i f = .inl (G.2.1 0, 96, .inl f) := rfl
theorem zc62 (G : zG) (i : Nat) (f : Nat → Int32) : zcel G 62 i f = .inl (G.2.1 0, 96, .inl f) := rfl
theorem zc63 (G : zG) (i : Nat) (f : Nat → Int32) : zcel G 63 i f = .inl (G.2.1 1, 96, .inl f) := rfl
section ZMORE
variable {p : Program} {l : Launch} {e : Env} {R : Room} {s : State} {m : MethodId} {args : Array Value} {below : List Frame} {meth : Method} {c : Code} {G : zG} {own : String} {cc : ByteArray} {nL : Nat} {rt : Option FieldType} {Q : State → Prop} {M : zMem} {cells slots : Nat} {lv : List (Nat × Value)} {st : List Value}
theorem z_ent {pc i j : Nat} (k : ∀ q : Nat, q = (zV M 17 i j).toNat → zZ p l e R s m args below meth c G nL Q M cells slots pc lv (.ref (zad G 19 q) :: st)) : zZ p l e R s m args below meth c G nL Q M cells slots pc lv (.ref (zad G 19 (M 17 i j).toNatClampNeg) :: st) := k _ rfl
theorem zZ_cs {pc k n : Nat} (h1 : cells = k) (h2 : slots = n) (kk : zZ p l e R s m args below meth c G nL Q M k n pc lv st) : zZ p l e R s m args below meth c G nL Q M cells slots pc lv st := by
  subst h1; subst h2; exact kk
theorem z_sub {pc : Nat} {lv' : List (Nat × Value)} (ks : List Nat) (h : lv_pick lv ks = lv') (kk : zZ p l e R s m args below meth c G nL Q M cells slots pc lv' st) : zZ p l e R s m args below meth c G nL Q M cells slots pc lv st := fun H locs ls hM hS hl => kk H locs ls hM hS (lv_sub hl ks h)
theorem z_min (C : zC p s m args meth c G own cc nL rt) (pc : Nat) {idx : Nat} (hw : Cond.methodLink own idx Lib.Math.min.name ∈ lw_tbl) {x y : Int} (hx : zrg x) (hy : zrg y) (hR : 1 ≤ R.frames ∧ (st.map fun v => v.category).sum + 13 ≤ R.locals ∧ cells ≤ R.cells ∧ slots ≤ R.slots) (d : decode cc pc = .ok (.invokestatic idx, 3)) (k : zZ p l e R s m args below meth c G nL Q M cells slots (pc + 3) lv (.int (zI (min x y)) :: st)) : zZ p l e R s m args below meth c G nL Q M cells slots pc lv (.int (zI y) :: .int (zI x) :: st) := by
  intro H locs ls hM hS hl
  refine va_mmin C.1 C.2.1 (C.2.2.1.trans hl.1.symm) C.o (C.w hw rfl) (C.w wst__Math_min rfl) (C.w wini_Math rfl) (C.w wc__Math_min rfl) hR.1 hR.2.1 hR.2.2.1 hR.2.2.2 d ?_
  have e1 : (if zI y < zI x then zI y else zI x) = zI (min x y) := by
    rw [show (if zI y < zI x then zI y else zI x) = zI (if y < x then y else x) from by
      by_cases q : y < x
      · rw [if_pos q, if_pos ((zI_lt hy hx).mpr q)]
      · rw [if_neg q, if_neg (fun z => q ((zI_lt hy hx).mp z))]]
    congr 1
    by_cases q : y < x
    · rw [if_pos q]; omega
    · rw [if_neg q]; omega
  rw [e1]
  exact k H locs ls hM hS hl
theorem z_max (C : zC p s m args meth c G own cc nL rt) (pc : Nat) {idx : Nat} (hw : Cond.methodLink own idx Lib.Math.max.name ∈ lw_tbl) {x y : Int} (hx : zrg x) (hy : zrg y) (hR : 1 ≤ R.frames ∧ (st.map fun v => v.category).sum + 13 ≤ R.locals ∧ cells ≤ R.cells ∧ slots ≤ R.slots) (d : decode cc pc = .ok (.invokestatic idx, 3)) (k : zZ p l e R s m args below meth c G nL Q M cells slots (pc + 3) lv (.int (zI (max x y)) :: st)) : zZ p l e R s m args below meth c G nL Q M cells slots pc lv (.int (zI y) :: .int (zI x) :: st) := by
  intro H locs ls hM hS hl
  refine va_mmax C.1 C.2.1 (C.2.2.1.trans hl.1.symm) C.o (C.w hw rfl) (C.w wst__Math_max rfl) (C.w wini_Math rfl) (C.w wc__Math_max rfl) hR.1 hR.2.1 hR.2.2.1 hR.2.2.2 d ?_
  have e1 : (if zI x < zI y then zI y else zI x) = zI (max x y) := by
    rw [show (if zI x < zI y then zI y else zI x) = zI (if x < y then y else x) from by
      by_cases q : x < y
      · rw [if_pos q, if_pos ((zI_lt hx hy).mpr q)]
      · rw [if_neg q, if_neg (fun z => q ((zI_lt hx hy).mp z))]]
    congr 1
    by_cases q : x < y
    · rw [if_pos q]; omega
    · rw [if_neg q]; omega
  rw [e1]
  exact k H locs ls hM hS hl
end ZMORE
/-- a truth value as a number -/
def zb (x : Int) (p : Prop) : Prop := (x = 0 ∨ x = 1) ∧ (x = 1 ↔ p)
theorem zb.t {x : Int} {p : Prop} (h : zb x p) (q : ¬ x = 0) : p := h.2.mp (by rcases h.1 with h | h; exact absurd h q; exact h)
theorem zb.f {x : Int} {p : Prop} (h : zb x p) (q : x = 0) : ¬ p := fun z => by have := h.2.mpr z; omega
theorem zb.one {p : Prop} (h : p) : zb 1 p := ⟨Or.inr rfl, ⟨fun _ => h, fun _ => rfl⟩⟩
theorem zb.zero {p : Prop} (h : ¬ p) : zb 0 p := ⟨Or.inl rfl, ⟨fun z => absurd z (by decide), fun z => absurd z h⟩⟩
/-- the first bits -/
def zfs (v b : Int) : Int := v / 2 ^ (16 - b).toNat
def zmeet (v b w d : Int) : Prop := zfs v (min b d) = zfs w (min b d)
/-- a value and a length -/
def zpfx (v b : Int) : Prop := 0 ≤ v ∧ v < 65536 ∧ 0 ≤ b ∧ b ≤ 16
theorem zV_upg (M : zMem) (κ i j : Nat) (v : Int32) (κ' i' j' : Nat) : zV (zup M κ i j v) κ' i' j' = if κ' = κ ∧ i' = i ∧ j' = j then v.toInt else zV M κ' i' j' := by
  unfold zV zup
  split <;> rfl
theorem zV_ne {M : zMem} {κ i j : Nat} {v : Int32} {κ' i' j' : Nat} (h : κ' ≠ κ) : zV (zup M κ i j v) κ' i' j' = zV M κ' i' j' := by rw [zV_upg, if_neg (fun q => h q.1)]
theorem zV_ni {M : zMem} {κ i j : Nat} {v : Int32} {κ' i' j' : Nat} (h : i' ≠ i) : zV (zup M κ i j v) κ' i' j' = zV M κ' i' j' := by rw [zV_upg, if_neg (fun q => h q.2.1)]
theorem zV_nj {M : zMem} {κ i j : Nat} {v : Int32} {κ' i' j' : Nat} (h : j' ≠ j) : zV (zup M κ i j v) κ' i' j' = zV M κ' i' j' := by rw [zV_upg, if_neg (fun q => h q.2.2)]
theorem zV_eq {M : zMem} {κ i j : Nat} {x : Int} (h : zrg x) : zV (zup M κ i j (zI x)) κ i j = x := by rw [zV_upg, if_pos ⟨rfl, rfl, rfl⟩]; exact zI_toInt h
/-- the place of a value among the first n, the first one; -1 if it isn't there -/
def zplace (f : Nat → Int) (n a x : Int) : Prop := (x = -1 ∧ ∀ j : Nat, (j : Int) < n → f j ≠ a) ∨ ∃ j : Nat, x = (j : Int) ∧ (j : Int) < n ∧ f j = a ∧ ∀ j' : Nat, j' < j → f j' ≠ a
theorem zsh_cases {b : Int} (h0 : 0 ≤ b) (h1 : b ≤ 16) : b = 0 ∨ b = 1 ∨ b = 2 ∨ b = 3 ∨ b = 4 ∨ b = 5 ∨ b = 6 ∨ b = 7 ∨ b = 8 ∨ b = 9 ∨ b = 10 ∨ b = 11 ∨ b = 12 ∨ b = 13 ∨ b = 14 ∨ b = 15 ∨ b = 16 := by omega
end
section
/-! rows on bits, shifts and unsigned numbers, to paste: each family out of a closed proof of our own, whole with what it rests on; each by itself clean at Lean in its own claim (generation 39, form 5). Take a family whole -/
/-! ===== Int32 by its bits: bt x i ===== -/
def bt (x : Int32) (i : Nat) : Bool := x.toBitVec.getLsbD i
theorem b_ext {x y : Int32} (h : ∀ i, i < 32 → bt x i = bt y i) : x = y := Int32.toBitVec_inj.mp (BitVec.eq_of_getLsbD_eq (fun i hi => h i hi))
theorem b_or (x y : Int32) (i : Nat) : bt (x ||| y) i = (bt x i || bt y i) := by unfold bt; rw [Int32.toBitVec_or, BitVec.getLsbD_or]
theorem b_and (x y : Int32) (i : Nat) : bt (x &&& y) i = (bt x i && bt y i) := by unfold bt; rw [Int32.toBitVec_and, BitVec.getLsbD_and]
theorem b_xor (x y : Int32) (i : Nat) : bt (x ^^^ y) i = (bt x i ^^ bt y i) := by unfold bt; rw [Int32.toBitVec_xor, BitVec.getLsbD_xor]
theorem b_big {x : Int32} {i : Nat} (h : 32 ≤ i) : bt x i = false := BitVec.getLsbD_of_ge _ _ h
theorem b_255 (i : Nat) : bt 255 i = decide (i < 8) := by
  rcases Nat.lt_or_ge i 32 with h | h
  · exact (by decide +kernel : ∀ i, i < 32 → bt 255 i = decide (i < 8)) i h
  · rw [b_big h, decide_eq_false (by omega)]
theorem b_65535 (i : Nat) : bt 65535 i = decide (i < 16) := by
  rcases Nat.lt_or_ge i 32 with h | h
  · exact (by decide +kernel : ∀ i, i < 32 → bt 65535 i = decide (i < 16)) i h
  · rw [b_big h, decide_eq_false (by omega)]
theorem b_m1 : ∀ i, i < 32 → bt (-1) i = true := by decide +kernel
theorem b_0 (i : Nat) : bt 0 i = false := BitVec.getLsbD_zero
theorem s_l : ∀ n, n < 32 → ((nI n &&& 31).toBitVec.smod 32).toNat = n := by decide +kernel
theorem s_u : ∀ n, n < 32 → (((nI n).toUInt32 &&& Int32.toUInt32 31).toBitVec % 32).toNat = n := by decide +kernel
theorem b_shl (n : Nat) (hn : n < 32) (x : Int32) {i : Nat} (hi : i < 32) : bt (x <<< (nI n &&& 31)) i = (decide (n ≤ i) && bt x (i - n)) := by
  unfold bt
  rw [Int32.toBitVec_shiftLeft]
  show (x.toBitVec <<< ((nI n &&& 31).toBitVec.smod 32).toNat).getLsbD i = _
  rw [s_l n hn, BitVec.getLsbD_shiftLeft]
  rcases Nat.lt_or_ge i n with h | h
  · simp [h, Nat.not_le.mpr h]
  · simp [hi, h, Nat.not_lt.mpr h]
theorem b_ushr (n : Nat) (hn : n < 32) (x : Int32) (i : Nat) : bt ((x.toUInt32 >>> ((nI n).toUInt32 &&& Int32.toUInt32 31)).toInt32) i = bt x (n + i) := by
  show (x.toUInt32 >>> ((nI n).toUInt32 &&& Int32.toUInt32 31)).toBitVec.getLsbD i = x.toUInt32.toBitVec.getLsbD (n + i)
  rw [UInt32.toBitVec_shiftRight]
  show (x.toUInt32.toBitVec >>> (((nI n).toUInt32 &&& Int32.toUInt32 31).toBitVec % 32).toNat).getLsbD i = _
  rw [s_u n hn, BitVec.getLsbD_ushiftRight]
theorem b_sshr (n : Nat) (hn : n < 32) (x : Int32) {i : Nat} (hi : i < 32) : bt (x >>> (nI n &&& 31)) i = if n + i < 32 then bt x (n + i) else bt x 31 := by
  unfold bt
  rw [Int32.toBitVec_shiftRight]
  show (x.toBitVec.sshiftRight ((nI n &&& 31).toBitVec.smod 32).toNat).getLsbD i = _
  rw [s_l n hn, BitVec.getLsbD_sshiftRight, BitVec.msb_eq_getLsbD_last]
  simp [hi]
theorem b_shl8 (x : Int32) {i : Nat} (hi : i < 32) : bt (x <<< ((8 : Int32) &&& 31)) i = (decide (8 ≤ i) && bt x (i - 8)) := b_shl 8 (by omega) x hi
theorem b_shl16 (x : Int32) {i : Nat} (hi : i < 32) : bt (x <<< ((16 : Int32) &&& 31)) i = (decide (16 ≤ i) && bt x (i - 16)) := b_shl 16 (by omega) x hi
theorem b_shl24 (x : Int32) {i : Nat} (hi : i < 32) : bt (x <<< ((24 : Int32) &&& 31)) i = (decide (24 ≤ i) && bt x (i - 24)) := b_shl 24 (by omega) x hi
theorem b_sshr8 (x : Int32) {i : Nat} (hi : i < 32) : bt (x >>> ((8 : Int32) &&& 31)) i = if 8 + i < 32 then bt x (8 + i) else bt x 31 := b_sshr 8 (by omega) x hi
/-! ===== nI under and, xor, >>>, one bit, 65535 ===== -/
theorem nx_and (a b : Nat) : nI a &&& nI b = nI (a &&& b) := by
  apply Int32.toBitVec_inj.1
  show BitVec.ofNat 32 a &&& BitVec.ofNat 32 b = BitVec.ofNat 32 (a &&& b)
  apply BitVec.eq_of_getLsbD_eq
  intro i hi
  simp [hi]
theorem nx_xor (a b : Nat) : nI a ^^^ nI b = nI (a ^^^ b) := by
  apply Int32.toBitVec_inj.1
  show BitVec.ofNat 32 a ^^^ BitVec.ofNat 32 b = BitVec.ofNat 32 (a ^^^ b)
  apply BitVec.eq_of_getLsbD_eq
  intro i hi
  simp [hi]
theorem nx_cnt : ∀ j : Fin 32, (UInt32.ofNat j.val &&& Int32.toUInt32 31).toNat % 32 = j.val := by decide +kernel
theorem nx_ush {k j : Nat} (hk : k < 65536) (hj : j < 32) : ((nI k).toUInt32 >>> ((nI j).toUInt32 &&& Int32.toUInt32 31)).toInt32 = nI (k >>> j) := by
  have hs : k >>> j ≤ k := by
    rw [Nat.shiftRight_eq_div_pow]
    exact Nat.div_le_self _ _
  have e2 : UInt32.ofNat k >>> (UInt32.ofNat j &&& Int32.toUInt32 31) = UInt32.ofNat (k >>> j) := by
    apply UInt32.toNat_inj.1
    have h1 : (UInt32.ofNat k).toNat = k := Nat.mod_eq_of_lt (by omega)
    have h2 : (UInt32.ofNat (k >>> j)).toNat = k >>> j := Nat.mod_eq_of_lt (by omega)
    rw [UInt32.toNat_shiftRight, nx_cnt ⟨j, hj⟩, h1, h2]
  show (UInt32.ofNat k >>> (UInt32.ofNat j &&& Int32.toUInt32 31)).toInt32 = _
  rw [e2]
  rfl

theorem zI_nI {x : Int} (h : 0 ≤ x) : zI x = nI x.toNat := by
  unfold zI nI
  obtain ⟨n, rfl⟩ := Int.eq_ofNat_of_zero_le h
  exact Int32.ofInt_eq_ofNat
theorem zbt {k i : Nat} (hi : i < 32) : bt (nI k) i = k.testBit i := by
  unfold bt nI
  show (BitVec.ofNat 32 k).getLsbD i = _
  rw [BitVec.getLsbD_ofNat]
  simp [hi]
theorem ztb {k i : Nat} (hk : k < 65536) (hi : 16 ≤ i) : k.testBit i = false := Nat.testBit_lt_two_pow (Nat.lt_of_lt_of_le hk (by calc (65536 : Nat) = 2 ^ 16 := rfl
  _ ≤ 2 ^ i := Nat.pow_le_pow_right (by decide) hi))
theorem zn_shr {v j : Nat} (hv : v < 65536) (hj : j ≤ 16) : nI v >>> (nI j &&& 31) = nI (v / 2 ^ j) := by
  apply b_ext
  intro i hi
  rw [b_sshr j (by omega) _ hi, zbt hi, Nat.testBit_div_two_pow]
  by_cases q : j + i < 32
  · rw [if_pos q, zbt q, Nat.add_comm]
  · rw [if_neg q, zbt (by decide), ztb hv (by decide), ztb hv (by omega)]
theorem zn_shl {v j : Nat} (hv : v * 2 ^ j ≤ 65536) (hj : j ≤ 16) : nI v <<< (nI j &&& 31) = nI (v * 2 ^ j) := by
  apply b_ext
  intro i hi
  rw [b_shl j (by omega) _ hi, zbt hi, Nat.testBit_mul_two_pow]
  by_cases q : j ≤ i
  · rw [zbt (by omega)]; first | done | simp [q]
  · simp [q]
theorem zn_msk : ∀ j, j < 17 → ∀ i, i < 32 → bt (zI (-(2 ^ j))) i = decide (j ≤ i) := by decide +kernel
theorem zn_and {v j : Nat} (hv : v < 65536) (hj : j ≤ 16) : nI v &&& zI (-(2 ^ j)) = nI (v / 2 ^ j * 2 ^ j) := by
  apply b_ext
  intro i hi
  rw [b_and, zn_msk j (by omega) i hi, zbt hi, zbt hi, Nat.testBit_mul_two_pow, Nat.testBit_div_two_pow]
  by_cases q : j ≤ i
  · rw [Nat.sub_add_cancel q]; simp [q]
  · simp [q]
/-- 16 - b as a natural number -/
theorem zj {b : Int} (h0 : 0 ≤ b) (h1 : b ≤ 16) : ∃ j : Nat, j ≤ 16 ∧ 16 - b = (j : Int) := ⟨(16 - b).toNat, by omega, by omega⟩
theorem zfs_nat {v b : Int} {j : Nat} (hv : 0 ≤ v) (hj : 16 - b = (j : Int)) : zfs v b = ((v.toNat / 2 ^ j : Nat) : Int) := by
  unfold zfs
  rw [hj]
  obtain ⟨n, rfl⟩ := Int.eq_ofNat_of_zero_le hv
  simp
theorem z_shr {v b : Int} (h0 : 0 ≤ v) (h1 : v < 65536) (h2 : 0 ≤ b) (h3 : b ≤ 16) : zI v >>> (zI (16 - b) &&& 31) = zI (zfs v b) := by
  obtain ⟨j, hj, e⟩ := zj h2 h3
  rw [zfs_nat h0 e, e, zI_nI h0, zI_nI (Int.natCast_nonneg _), zI_nI (Int.natCast_nonneg _)]
  simp only [Int.toNat_natCast]
  exact zn_shr (by omega) hj
theorem zfs_rg {v b : Int} (h0 : 0 ≤ v) (h1 : v < 65536) (h2 : 0 ≤ b) (h3 : b ≤ 16) : 0 ≤ zfs v b ∧ zfs v b < 65536 := by
  obtain ⟨j, hj, e⟩ := zj h2 h3
  rw [zfs_nat h0 e]
  have h := Nat.div_le_self v.toNat (2 ^ j)
  generalize v.toNat / 2 ^ j = q at h ⊢
  omega
/-- the value whose bits behind the first ones are 0 -/
def zfb (v b : Int) : Int := zfs v b * 2 ^ (16 - b).toNat
theorem zfb_nat {v b : Int} {j : Nat} (hv : 0 ≤ v) (hj : 16 - b = (j : Int)) : zfb v b = ((v.toNat / 2 ^ j * 2 ^ j : Nat) : Int) := by
  unfold zfb
  rw [zfs_nat hv hj, hj]
  simp
theorem zfb_rg {v b : Int} (h0 : 0 ≤ v) (h1 : v < 65536) (h2 : 0 ≤ b) (h3 : b ≤ 16) : 0 ≤ zfb v b ∧ zfb v b ≤ v := by
  obtain ⟨j, hj, e⟩ := zj h2 h3
  rw [zfb_nat h0 e]
  have := Nat.div_mul_le_self v.toNat (2 ^ j)
  omega
theorem z_shl {v b : Int} (h0 : 0 ≤ v) (h1 : v < 65536) (h2 : 0 ≤ b) (h3 : b ≤ 16) : zI (zfs v b) <<< (zI (16 - b) &&& 31) = zI (zfb v b) := by
  obtain ⟨j, hj, e⟩ := zj h2 h3
  rw [zfb_nat h0 e, zfs_nat h0 e, e, zI_nI (Int.natCast_nonneg _), zI_nI (Int.natCast_nonneg _), zI_nI (Int.natCast_nonneg _)]
  simp only [Int.toNat_natCast]
  exact zn_shl (by have := Nat.div_mul_le_self v.toNat (2 ^ j); omega) hj
theorem z_one_shl {b : Int} (h2 : 0 ≤ b) (h3 : b ≤ 16) : zI 1 <<< (zI (16 - b) &&& 31) = zI (2 ^ (16 - b).toNat) := by
  obtain ⟨j, hj, e⟩ := zj h2 h3
  rw [e]
  simp only [Int.toNat_natCast]
  rw [zI_nI (x := 1) (by decide), zI_nI (Int.natCast_nonneg _), show ((2 : Int) ^ j) = ((1 * 2 ^ j : Nat) : Int) by simp, zI_nI (Int.natCast_nonneg _)]
  simp only [Int.toNat_natCast]
  exact zn_shl (v := 1) (by rw [Nat.one_mul]; exact Nat.pow_le_pow_right (by decide) hj) hj
theorem z_msk {v b : Int} (h0 : 0 ≤ v) (h1 : v < 65536) (h2 : 0 ≤ b) (h3 : b ≤ 16) : zI v &&& zI (-(2 ^ (16 - b).toNat)) = zI (zfb v b) := by
  obtain ⟨j, hj, e⟩ := zj h2 h3
  rw [zfb_nat h0 e, e]
  simp only [Int.toNat_natCast]
  rw [zI_nI h0, zI_nI (Int.natCast_nonneg _)]
  simp only [Int.toNat_natCast]
  exact zn_and (by omega) hj
def zxr (x y : Int) : Int := ((x.toNat ^^^ y.toNat : Nat) : Int)
theorem z_xor {x y : Int} (h0 : 0 ≤ x) (h1 : 0 ≤ y) : zI x ^^^ zI y = zI (zxr x y) := by
  unfold zxr
  rw [zI_nI h0, zI_nI h1, zI_nI (Int.natCast_nonneg _), nx_xor]
  simp
def zxs (x y b : Int) : Int := (((x.toNat ^^^ y.toNat) >>> (16 - b).toNat : Nat) : Int)
theorem zxr_lt {x y : Int} (h0 : 0 ≤ x) (h1 : x < 65536) (h2 : 0 ≤ y) (h3 : y < 65536) : x.toNat ^^^ y.toNat < 65536 := Nat.xor_lt_two_pow (n := 16) (by omega) (by omega)
theorem z_xsh {x y b : Int} (h0 : 0 ≤ x) (h1 : x < 65536) (h2 : 0 ≤ y) (h3 : y < 65536) (h4 : 0 ≤ b) (h5 : b ≤ 16) : ((zI (zxr x y)).toUInt32 >>> ((zI (16 - b)).toUInt32 &&& Int32.toUInt32 31)).toInt32 = zI (zxs x y b) := by
  obtain ⟨j, hj, e⟩ := zj h4 h5
  unfold zxr zxs
  rw [e, zI_nI (Int.natCast_nonneg _), zI_nI (Int.natCast_nonneg _), zI_nI (Int.natCast_nonneg _)]
  simp only [Int.toNat_natCast]
  exact nx_ush (zxr_lt h0 h1 h2 h3) (by omega)
theorem zxs_rg {x y b : Int} (h0 : 0 ≤ x) (h1 : x < 65536) (h2 : 0 ≤ y) (h3 : y < 65536) : zrg (zxs x y b) := by
  have h := zxr_lt h0 h1 h2 h3
  have h9 := Nat.shiftRight_le (x.toNat ^^^ y.toNat) (16 - b).toNat
  unfold zxs
  generalize (x.toNat ^^^ y.toNat) >>> (16 - b).toNat = q at h9 ⊢
  omega
theorem zxs_0 {x y b : Int} (h0 : 0 ≤ x) (h2 : 0 ≤ y) (h4 : 0 ≤ b) (h5 : b ≤ 16) : zxs x y b = 0 ↔ zfs x b = zfs y b := by
  obtain ⟨j, hj, e⟩ := zj h4 h5
  rw [zfs_nat h0 e, zfs_nat h2 e]
  unfold zxs
  rw [e, Nat.shiftRight_xor_distrib]
  simp only [Int.toNat_natCast, Nat.shiftRight_eq_div_pow]
  constructor
  · intro h
    generalize x.toNat / 2 ^ j = u at h ⊢
    generalize y.toNat / 2 ^ j = v at h ⊢
    have h9 : u ^^^ v = 0 := by omega
    have h8 : u = (u ^^^ v) ^^^ v := by rw [Nat.xor_assoc, Nat.xor_self, Nat.xor_zero]
    rw [h9, Nat.zero_xor] at h8
    rw [h8]
  · intro h
    have h9 : x.toNat / 2 ^ j = y.toNat / 2 ^ j := Int.ofNat.inj h
    rw [h9, Nat.xor_self]
    rfl
end
section
/-- what a row of tactics needs often -/
theorem zV_of {M M' : zMem} {κ i j : Nat} (h : M κ i j = M' κ i j) : zV M κ i j = zV M' κ i j := by unfold zV; rw [h]
theorem zup_at {M : zMem} {κ i j : Nat} {v : Int32} {κ' i' j' : Nat} (h : ¬ (κ' = κ ∧ i' = i ∧ j' = j)) : zup M κ i j v κ' i' j' = M κ' i' j' := by unfold zup; rw [if_neg h]
/-- a mapping's locators from pl to k moved by one -/
def zshift (M M1 : zMem) (i : Nat) (pl k n1 : Int) : Prop :=
  zV M1 5 i 3 = n1 ∧ (∀ j : Nat, zV M1 6 i j = if pl ≤ j ∧ (j : Int) < k then zV M 6 i (j + 1) else zV M 6 i j) ∧ (∀ j : Nat, zV M1 7 i j = if pl ≤ j ∧ (j : Int) < k then zV M 7 i (j + 1) else zV M 7 i j) ∧ (∀ j : Nat, zV M1 8 i j = if pl ≤ j ∧ (j : Int) < k then zV M 8 i (j + 1) else zV M 8 i j) ∧
  ∀ κ' i' j' : Nat, ¬ (i' = i ∧ (κ' = 5 ∧ j' = 3 ∨ κ' = 6 ∨ κ' = 7 ∨ κ' = 8)) → M1 κ' i' j' = M κ' i' j'
theorem zshift_0 (M : zMem) (i : Nat) (pl : Int) {n1 : Int} (h : zrg n1) : zshift M (zup M 5 i 3 (zI n1)) i pl pl n1 := by
  refine ⟨zV_eq h, fun j => ?_, fun j => ?_, fun j => ?_, fun κ' i' j' h => zup_at (fun q => h ⟨q.2.1, Or.inl ⟨q.1, q.2.2⟩⟩)⟩ <;> rw [zV_ne (by decide), if_neg (by omega)]
theorem zshift_row {M M1 : zMem} {κ i : Nat} {pl k x : Int} (hk : 0 ≤ k) (hpk : pl ≤ k) (h : ∀ j : Nat, zV M1 κ i j = if pl ≤ j ∧ (j : Int) < k then zV M κ i (j + 1) else zV M κ i j) (hx : x = zV M1 κ i (k + 1).toNat) (hr : zrg x) {A B : zMem} (hA : ∀ j, zV A κ i j = zV M1 κ i j) (hB : ∀ j, zV B κ i j = zV (zup A κ i k.toNat (zI x)) κ i j) : ∀ j : Nat, zV B κ i j = if pl ≤ j ∧ (j : Int) < k + 1 then zV M κ i (j + 1) else zV M κ i j := by
  intro j
  rw [hB, zV_upg]
  have e1 : (k + 1).toNat = k.toNat + 1 := by omega
  rw [e1, h, if_neg (by omega)] at hx
  by_cases q : j = k.toNat
  · subst q
    rw [if_pos ⟨rfl, rfl, rfl⟩, if_pos (by omega), zI_toInt hr, hx]
  · rw [if_neg (fun z => q z.2.2), hA, h]
    by_cases q2 : pl ≤ j ∧ (j : Int) < k
    · rw [if_pos q2, if_pos (by omega)]
    · rw [if_neg q2, if_neg (by omega)]
theorem zshift_1 {M M1 : zMem} {i : Nat} {pl k n1 x6 x7 x8 : Int} (hk : 0 ≤ k) (hpk : pl ≤ k) (h : zshift M M1 i pl k n1) (h6 : x6 = zV M1 6 i (k + 1).toNat) (r6 : zrg x6) (h7 : x7 = zV M1 7 i (k + 1).toNat) (r7 : zrg x7) (h8 : x8 = zV M1 8 i (k + 1).toNat) (r8 : zrg x8) : zshift M (zup (zup (zup M1 6 i k.toNat (zI x6)) 7 i k.toNat (zI x7)) 8 i k.toNat (zI x8)) i pl (k + 1) n1 := by
  obtain ⟨a0, a6, a7, a8, a9⟩ := h
  refine ⟨?_, ?_, ?_, ?_, ?_⟩
  · rw [zV_ne (by decide), zV_ne (by decide), zV_ne (by decide)]; exact a0
  · exact zshift_row hk hpk a6 h6 r6 (A := M1) (fun j => rfl) (fun j => by rw [zV_ne (by decide), zV_ne (by decide)])
  · exact zshift_row hk hpk a7 h7 r7 (A := zup M1 6 i k.toNat (zI x6)) (fun j => zV_ne (by decide)) (fun j => by rw [zV_ne (by decide)])
  · exact zshift_row hk hpk a8 h8 r8 (A := zup (zup M1 6 i k.toNat (zI x6)) 7 i k.toNat (zI x7)) (fun j => by rw [zV_ne (by decide), zV_ne (by decide)]) (fun j => rfl)
  · intro κ' i' j' h
    rw [zup_at (fun q => h ⟨q.2.1, by omega⟩), zup_at (fun q => h ⟨q.2.1, by omega⟩), zup_at (fun q => h ⟨q.2.1, by omega⟩)]
    exact a9 κ' i' j' h
/-- an entry's locators, k of them copied of a mapping's -/
def zcopy (M M1 : zMem) (e i : Nat) (k : Int) : Prop :=
  zV M1 21 e 3 = k ∧ (∀ j : Nat, (j : Int) < k → zV M1 22 e j = zV M 6 i j ∧ zV M1 23 e j = zV M 7 i j ∧ zV M1 24 e j = zV M 8 i j) ∧
  (∀ j : Nat, k ≤ j → zV M1 22 e j = zV M 22 e j ∧ zV M1 23 e j = zV M 23 e j ∧ zV M1 24 e j = zV M 24 e j) ∧
  ∀ κ' i' j' : Nat, ¬ (i' = e ∧ (κ' = 21 ∧ j' = 3 ∨ κ' = 22 ∨ κ' = 23 ∨ κ' = 24)) → M1 κ' i' j' = M κ' i' j'
theorem zcopy_0 (M : zMem) (e i : Nat) : zcopy M (zup M 21 e 3 (zI 0)) e i 0 := by
  refine ⟨zV_eq (by decide), fun j h => absurd h (by omega), fun j _ => ⟨zV_ne (by decide), zV_ne (by decide), zV_ne (by decide)⟩, fun κ' i' j' h => zup_at (fun q => h ⟨q.2.1, Or.inl ⟨q.1, q.2.2⟩⟩)⟩
theorem zcopy_1 {M M1 : zMem} {e i : Nat} {k x6 x7 x8 : Int} (hk : 0 ≤ k) (hk4 : k < 4) (h : zcopy M M1 e i k) (h6 : x6 = zV M1 6 i k.toNat) (h7 : x7 = zV M1 7 i k.toNat) (h8 : x8 = zV M1 8 i k.toNat) (r6 : zrg x6) (r7 : zrg x7) (r8 : zrg x8) {M2 : zMem}
    (h2 : M2 = zup (zup (zup (zup M1 22 e (zV M1 21 e 3).toNat (zI x6)) 23 e (zV M1 21 e 3).toNat (zI x7)) 24 e (zV M1 21 e 3).toNat (zI x8)) 21 e 3 (zI (zV M1 21 e 3 + 1))) : zcopy M M2 e i (k + 1) := by
  obtain ⟨a0, a1, a2, a3⟩ := h
  rw [a0] at h2
  subst h2
  have f6 : zV M1 6 i k.toNat = zV M 6 i k.toNat := zV_of (a3 _ _ _ (by omega))
  have f7 : zV M1 7 i k.toNat = zV M 7 i k.toNat := zV_of (a3 _ _ _ (by omega))
  have f8 : zV M1 8 i k.toNat = zV M 8 i k.toNat := zV_of (a3 _ _ _ (by omega))
  refine ⟨zV_eq (by omega), fun j hj => ?_, fun j hj => ?_, ?_⟩
  · by_cases q : j = k.toNat
    · subst q
      refine ⟨?_, ?_, ?_⟩
      · rw [zV_ne (by decide), zV_ne (by decide), zV_ne (by decide), zV_eq r6, h6, f6]
      · rw [zV_ne (by decide), zV_ne (by decide), zV_eq r7, h7, f7]
      · rw [zV_ne (by decide), zV_eq r8, h8, f8]
    · obtain ⟨b1, b2, b3⟩ := a1 j (by omega)
      refine ⟨?_, ?_, ?_⟩
      · rw [zV_ne (by decide), zV_ne (by decide), zV_ne (by decide), zV_nj q, b1]
      · rw [zV_ne (by decide), zV_ne (by decide), zV_nj q, zV_ne (by decide), b2]
      · rw [zV_ne (by decide), zV_nj q, zV_ne (by decide), zV_ne (by decide), b3]
  · have q : j ≠ k.toNat := by omega
    obtain ⟨b1, b2, b3⟩ := a2 j (by omega)
    refine ⟨?_, ?_, ?_⟩
    · rw [zV_ne (by decide), zV_ne (by decide), zV_ne (by decide), zV_nj q, b1]
    · rw [zV_ne (by decide), zV_ne (by decide), zV_nj q, zV_ne (by decide), b2]
    · rw [zV_ne (by decide), zV_nj q, zV_ne (by decide), zV_ne (by decide), b3]
  · intro κ' i' j' h
    rw [zup_at (fun q => h ⟨q.2.1, by omega⟩), zup_at (fun q => h ⟨q.2.1, by omega⟩), zup_at (fun q => h ⟨q.2.1, by omega⟩), zup_at (fun q => h ⟨q.2.1, by omega⟩)]
    exact a3 κ' i' j' h
end
section
set_option maxHeartbeats 4000000 in
set_option maxRecDepth 100000 in
theorem c_X3_set_4 (l : Launch) (G : zG) (M : zMem) (i : Nat) (hi : i < 24) (v b : Int) : Met l yX3_set [.code yX3_set cX3_set 3 none] (zR 0 0 0) (zPc G M [.ref (zad G 4 i), .int (zI v), .int (zI b)]) (zQv G (fun M' => M' = zup (zup M 4 i 0 (zI v)) 4 i 1 (zI b))) 0 0 (zA G) := by
  refine z_met [(0, .ref (zad G 4 i)), (1, .int (zI v)), (2, .int (zI b))] (by decide) (Nat.le_of_ble_eq_true rfl) rfl ?_
  intro p e s m below meth c C
  have C : zC p s m ([.ref (zad G 4 i), .int (zI v), .int (zI b)] : List Value).toArray meth c G RX3 cX3_set 3 none := C
  refine z_aload_n C 0 dX3_set_0 rfl 0 rfl ?_
  refine z_iload_n C 1 dX3_set_1 rfl 1 rfl ?_
  refine z_putI C 2 zcl3 (show i < 24 by omega) (zc4 ..) 0 (by decide) wf_3_9 rfl rfl rfl (Nat.le_of_ble_eq_true rfl) (zc4 ..) dX3_set_2 ?_
  refine z_aload_n C 5 dX3_set_5 rfl 0 rfl ?_
  refine z_iload_n C 6 dX3_set_6 rfl 2 rfl ?_
  refine z_putI C 7 zcl3 (show i < 24 by omega) (zc4 ..) 1 (by decide) wf_3_15 rfl rfl rfl (Nat.le_of_ble_eq_true rfl) (zc4 ..) dX3_set_7 ?_
  refine z_vret C 10 dX3_set_10 (by decide) (by decide) ?_
  exact rfl
set_option maxHeartbeats 4000000 in
set_option maxRecDepth 100000 in
theorem c_X3_is_4 (l : Launch) (G : zG) (M : zMem) (i : Nat) (hi : i < 24) (v b : Int) (hv : zrg v) (hb : zrg b) : Met l yX3_is [.code yX3_is cX3_is 3 (some .boolean)] (zR 0 0 0) (zPc G M [.ref (zad G 4 i), .int (zI v), .int (zI b)]) (zQi G (fun x M' => M = M' ∧ zb x (zV M 4 i 0 = v ∧ zV M 4 i 1 = b))) 0 0 (zA G) := by
  refine z_met [(0, .ref (zad G 4 i)), (1, .int (zI v)), (2, .int (zI b))] (by decide) (Nat.le_of_ble_eq_true rfl) rfl ?_
  intro p e s m below meth c C
  have C : zC p s m ([.ref (zad G 4 i), .int (zI v), .int (zI b)] : List Value).toArray meth c G RX3 cX3_is 3 (some .boolean) := C
  refine z_aload_n C 0 dX3_is_0 rfl 0 rfl ?_
  refine z_getI C 1 zcl3 (show i < 24 by omega) (zc4 ..) 0 (by decide) rfl wf_3_9 dX3_is_1 (fun zq1 ezq1 hzq1 => ?_)
  refine z_iload_n C 4 dX3_is_4 rfl 1 rfl ?_
  refine z_icmp_ne C 5 20 dX3_is_5 (by decide) hzq1 (by first | assumption | omega) (fun c5_9 => ?_) (fun c5_9 => ?_)
  · have hF : ¬ (zV M 4 i 0 = v ∧ zV M 4 i 1 = b) := by omega
    refine z_iconst C 20 dX3_is_20 ?_
    refine z_zret C 21 dX3_is_21 (by decide) (by decide) (by decide) ?_
    exact ⟨rfl, zb.zero hF⟩
  refine z_aload_n C 8 dX3_is_8 rfl 0 rfl ?_
  refine z_getI C 9 zcl3 (show i < 24 by omega) (zc4 ..) 1 (by decide) rfl wf_3_15 dX3_is_9 (fun zq2 ezq2 hzq2 => ?_)
  refine z_iload_n C 12 dX3_is_12 rfl 2 rfl ?_
  refine z_icmp_ne C 13 20 dX3_is_13 (by decide) hzq2 (by first | assumption | omega) (fun c13_17 => ?_) (fun c13_17 => ?_)
  · have hF : ¬ (zV M 4 i 0 = v ∧ zV M 4 i 1 = b) := by omega
    refine z_iconst C 20 dX3_is_20 ?_
    refine z_zret C 21 dX3_is_21 (by decide) (by decide) (by decide) ?_
    exact ⟨rfl, zb.zero hF⟩
  refine z_iconst C 16 dX3_is_16 ?_
  refine z_goto C 17 21 dX3_is_17 (by decide) ?_
  refine z_zret C 21 dX3_is_21 (by decide) (by decide) (by decide) ?_
  exact ⟨rfl, zb.one (by omega)⟩
set_option maxHeartbeats 4000000 in
set_option maxRecDepth 100000 in
theorem c_X3_meets_4 (l : Launch) (G : zG) (M : zMem) (i : Nat) (hi : i < 24) (hp : zpfx (zV M 4 i 0) (zV M 4 i 1)) (v b : Int) (hv : zpfx v b) : Met l yX3_meets [.code yX3_meets cX3_meets 4 (some .boolean)] (zR 1 0 0) (zPc G M [.ref (zad G 4 i), .int (zI v), .int (zI b)]) (zQi G (fun x M' => M = M' ∧ zb x (zmeet (zV M 4 i 0) (zV M 4 i 1) v b))) 0 0 (zA G) := by
  refine z_met [(0, .ref (zad G 4 i)), (1, .int (zI v)), (2, .int (zI b))] (by decide) (Nat.le_of_ble_eq_true rfl) rfl ?_
  intro p e s m below meth c C
  have C : zC p s m ([.ref (zad G 4 i), .int (zI v), .int (zI b)] : List Value).toArray meth c G RX3 cX3_meets 4 (some .boolean) := C
  obtain ⟨p0, p1, p2, p3⟩ := hp
  obtain ⟨v0, v1, v2, v3⟩ := hv
  refine z_aload_n C 0 dX3_meets_0 rfl 0 rfl ?_
  refine z_getI C 1 zcl3 (show i < 24 by omega) (zc4 ..) 1 (by decide) rfl wf_3_15 dX3_meets_1 (fun zq1 ezq1 hzq1 => ?_)
  refine z_iload_n C 4 dX3_meets_4 rfl 2 rfl ?_
  refine z_min C 5 wm_3_18 hzq1 (by first | assumption | omega) (by decide) dX3_meets_5 ?_
  refine z_istore_n (lv' := [(3, .int (zI (min zq1 b))), (0, .ref (zad G 4 i)), (1, .int (zI v)), (2, .int (zI b))]) C 8 dX3_meets_8 rfl (by decide) rfl ?_
  refine z_aload_n C 9 dX3_meets_9 rfl 1 rfl ?_
  refine z_getI C 10 zcl3 (show i < 24 by omega) (zc4 ..) 0 (by decide) rfl wf_3_9 dX3_meets_10 (fun zq2 ezq2 hzq2 => ?_)
  refine z_iload_n C 13 dX3_meets_13 rfl 2 rfl ?_
  refine z_ixor C 14 (v := zxr zq2 v) dX3_meets_14 (z_xor (by omega) (by omega)) ?_
  refine z_bipush C 15 dX3_meets_15 (by decide +kernel) ?_
  refine z_iload_n C 17 dX3_meets_17 rfl 0 rfl ?_
  refine z_isub C 18 dX3_meets_18 ?_
  refine z_iushr C 19 (v := zxs zq2 v (min zq1 b)) dX3_meets_19 (z_xsh (by omega) (by omega) (by omega) (by omega) (by omega) (by omega)) ?_
  refine z_if_ne C 20 27 dX3_meets_20 (by decide) (zxs_rg (by omega) (by omega) (by omega) (by omega)) (fun c20_21 => ?_) (fun c20_21 => ?_)
  · rw [zxs_0 (by omega) (by omega) (by omega) (by omega), ezq1, ezq2] at c20_21
    have hF : ¬ zmeet (zV M 4 i 0) (zV M 4 i 1) v b := c20_21
    refine z_iconst C 27 dX3_meets_27 ?_
    refine z_zret C 28 dX3_meets_28 (by decide) (by decide) (by decide) ?_
    exact ⟨rfl, zb.zero hF⟩
  rw [zxs_0 (by omega) (by omega) (by omega) (by omega), ezq1, ezq2] at c20_21
  have hF : zmeet (zV M 4 i 0) (zV M 4 i 1) v b := c20_21
  refine z_iconst C 23 dX3_meets_23 ?_
  refine z_goto C 24 28 dX3_meets_24 (by decide) ?_
  refine z_zret C 28 dX3_meets_28 (by decide) (by decide) (by decide) ?_
  exact ⟨rfl, zb.one hF⟩
set_option maxHeartbeats 4000000 in
set_option maxRecDepth 100000 in
theorem c_X3_covers_4 (l : Launch) (G : zG) (M : zMem) (i : Nat) (hi : i < 24) (hp : zpfx (zV M 4 i 0) (zV M 4 i 1)) (v : Int) (hv : 0 ≤ v ∧ v < 65536) : Met l yX3_covers [.code yX3_covers cX3_covers 2 (some .boolean)] (zR 2 0 0) (zPc G M [.ref (zad G 4 i), .int (zI v)]) (zQi G (fun x M' => M = M' ∧ zb x (zmeet (zV M 4 i 0) (zV M 4 i 1) v 16))) 0 0 (zA G) := by
  refine z_met [(0, .ref (zad G 4 i)), (1, .int (zI v))] (by decide) (Nat.le_of_ble_eq_true rfl) rfl ?_
  intro p e s m below meth c C
  have C : zC p s m ([.ref (zad G 4 i), .int (zI v)] : List Value).toArray meth c G RX3 cX3_covers 2 (some .boolean) := C
  refine z_aload_n C 0 dX3_covers_0 rfl 0 rfl ?_
  refine z_iload_n C 1 dX3_covers_1 rfl 1 rfl ?_
  refine z_bipush C 2 dX3_covers_2 (by decide +kernel) ?_
  refine z_callVi C 4 (As := [.int (zI v), .int (zI 16)]) (rest := []) (c_X3_meets_4 l G M i hi hp v 16 ⟨hv.1, hv.2, by decide, by decide⟩) zcl3 (show i < 24 by omega) (zc4 ..) (zW_of 2 C wm_3_24 wc_X3_meets wini_3 wi_X3_meets wse_X3_meets ⟨by decide, by decide, by decide⟩ ⟨by decide, by decide⟩) rfl (by decide) ⟨by decide, by decide⟩ dX3_covers_4 rfl (fun zq1 Mz2 hzq1 hPz1 => ?_)
  obtain ⟨rfl, hPz1⟩ := hPz1
  refine z_zret C 7 dX3_covers_7 (by decide) (by decide) (hPz1.1) ?_
  exact ⟨rfl, hPz1⟩
set_option maxHeartbeats 4000000 in
set_option maxRecDepth 100000 in
theorem c_X3_set_14 (l : Launch) (G : zG) (M : zMem) (i : Nat) (hi : i < 12) (v b : Int) : Met l yX3_set [.code yX3_set cX3_set 3 none] (zR 0 0 0) (zPc G M [.ref (zad G 14 i), .int (zI v), .int (zI b)]) (zQv G (fun M' => M' = zup (zup M 14 i 0 (zI v)) 14 i 1 (zI b))) 0 0 (zA G) := by
  refine z_met [(0, .ref (zad G 14 i)), (1, .int (zI v)), (2, .int (zI b))] (by decide) (Nat.le_of_ble_eq_true rfl) rfl ?_
  intro p e s m below meth c C
  have C : zC p s m ([.ref (zad G 14 i), .int (zI v), .int (zI b)] : List Value).toArray meth c G RX3 cX3_set 3 none := C
  refine z_aload_n C 0 dX3_set_0 rfl 0 rfl ?_
  refine z_iload_n C 1 dX3_set_1 rfl 1 rfl ?_
  refine z_putI C 2 zcl3 (show i < 12 by omega) (zc14 ..) 0 (by decide) wf_3_9 rfl rfl rfl (Nat.le_of_ble_eq_true rfl) (zc14 ..) dX3_set_2 ?_
  refine z_aload_n C 5 dX3_set_5 rfl 0 rfl ?_
  refine z_iload_n C 6 dX3_set_6 rfl 2 rfl ?_
  refine z_putI C 7 zcl3 (show i < 12 by omega) (zc14 ..) 1 (by decide) wf_3_15 rfl rfl rfl (Nat.le_of_ble_eq_true rfl) (zc14 ..) dX3_set_7 ?_
  refine z_vret C 10 dX3_set_10 (by decide) (by decide) ?_
  exact rfl
set_option maxHeartbeats 4000000 in
set_option maxRecDepth 100000 in
theorem c_X3_is_14 (l : Launch) (G : zG) (M : zMem) (i : Nat) (hi : i < 12) (v b : Int) (hv : zrg v) (hb : zrg b) : Met l yX3_is [.code yX3_is cX3_is 3 (some .boolean)] (zR 0 0 0) (zPc G M [.ref (zad G 14 i), .int (zI v), .int (zI b)]) (zQi G (fun x M' => M = M' ∧ zb x (zV M 14 i 0 = v ∧ zV M 14 i 1 = b))) 0 0 (zA G) := by
  refine z_met [(0, .ref (zad G 14 i)), (1, .int (zI v)), (2, .int (zI b))] (by decide) (Nat.le_of_ble_eq_true rfl) rfl ?_
  intro p e s m below meth c C
  have C : zC p s m ([.ref (zad G 14 i), .int (zI v), .int (zI b)] : List Value).toArray meth c G RX3 cX3_is 3 (some .boolean) := C
  refine z_aload_n C 0 dX3_is_0 rfl 0 rfl ?_
  refine z_getI C 1 zcl3 (show i < 12 by omega) (zc14 ..) 0 (by decide) rfl wf_3_9 dX3_is_1 (fun zq1 ezq1 hzq1 => ?_)
  refine z_iload_n C 4 dX3_is_4 rfl 1 rfl ?_
  refine z_icmp_ne C 5 20 dX3_is_5 (by decide) hzq1 (by first | assumption | omega) (fun c5_9 => ?_) (fun c5_9 => ?_)
  · have hF : ¬ (zV M 14 i 0 = v ∧ zV M 14 i 1 = b) := by omega
    refine z_iconst C 20 dX3_is_20 ?_
    refine z_zret C 21 dX3_is_21 (by decide) (by decide) (by decide) ?_
    exact ⟨rfl, zb.zero hF⟩
  refine z_aload_n C 8 dX3_is_8 rfl 0 rfl ?_
  refine z_getI C 9 zcl3 (show i < 12 by omega) (zc14 ..) 1 (by decide) rfl wf_3_15 dX3_is_9 (fun zq2 ezq2 hzq2 => ?_)
  refine z_iload_n C 12 dX3_is_12 rfl 2 rfl ?_
  refine z_icmp_ne C 13 20 dX3_is_13 (by decide) hzq2 (by first | assumption | omega) (fun c13_17 => ?_) (fun c13_17 => ?_)
  · have hF : ¬ (zV M 14 i 0 = v ∧ zV M 14 i 1 = b) := by omega
    refine z_iconst C 20 dX3_is_20 ?_
    refine z_zret C 21 dX3_is_21 (by decide) (by decide) (by decide) ?_
    exact ⟨rfl, zb.zero hF⟩
  refine z_iconst C 16 dX3_is_16 ?_
  refine z_goto C 17 21 dX3_is_17 (by decide) ?_
  refine z_zret C 21 dX3_is_21 (by decide) (by decide) (by decide) ?_
  exact ⟨rfl, zb.one (by omega)⟩
set_option maxHeartbeats 4000000 in
set_option maxRecDepth 100000 in
theorem c_X3_meets_14 (l : Launch) (G : zG) (M : zMem) (i : Nat) (hi : i < 12) (hp : zpfx (zV M 14 i 0) (zV M 14 i 1)) (v b : Int) (hv : zpfx v b) : Met l yX3_meets [.code yX3_meets cX3_meets 4 (some .boolean)] (zR 1 0 0) (zPc G M [.ref (zad G 14 i), .int (zI v), .int (zI b)]) (zQi G (fun x M' => M = M' ∧ zb x (zmeet (zV M 14 i 0) (zV M 14 i 1) v b))) 0 0 (zA G) := by
  refine z_met [(0, .ref (zad G 14 i)), (1, .int (zI v)), (2, .int (zI b))] (by decide) (Nat.le_of_ble_eq_true rfl) rfl ?_
  intro p e s m below meth c C
  have C : zC p s m ([.ref (zad G 14 i), .int (zI v), .int (zI b)] : List Value).toArray meth c G RX3 cX3_meets 4 (some .boolean) := C
  obtain ⟨p0, p1, p2, p3⟩ := hp
  obtain ⟨v0, v1, v2, v3⟩ := hv
  refine z_aload_n C 0 dX3_meets_0 rfl 0 rfl ?_
  refine z_getI C 1 zcl3 (show i < 12 by omega) (zc14 ..) 1 (by decide) rfl wf_3_15 dX3_meets_1 (fun zq1 ezq1 hzq1 => ?_)
  refine z_iload_n C 4 dX3_meets_4 rfl 2 rfl ?_
  refine z_min C 5 wm_3_18 hzq1 (by first | assumption | omega) (by decide) dX3_meets_5 ?_
  refine z_istore_n (lv' := [(3, .int (zI (min zq1 b))), (0, .ref (zad G 14 i)), (1, .int (zI v)), (2, .int (zI b))]) C 8 dX3_meets_8 rfl (by decide) rfl ?_
  refine z_aload_n C 9 dX3_meets_9 rfl 1 rfl ?_
  refine z_getI C 10 zcl3 (show i < 12 by omega) (zc14 ..) 0 (by decide) rfl wf_3_9 dX3_meets_10 (fun zq2 ezq2 hzq2 => ?_)
  refine z_iload_n C 13 dX3_meets_13 rfl 2 rfl ?_
  refine z_ixor C 14 (v := zxr zq2 v) dX3_meets_14 (z_xor (by omega) (by omega)) ?_
  refine z_bipush C 15 dX3_meets_15 (by decide +kernel) ?_
  refine z_iload_n C 17 dX3_meets_17 rfl 0 rfl ?_
  refine z_isub C 18 dX3_meets_18 ?_
  refine z_iushr C 19 (v := zxs zq2 v (min zq1 b)) dX3_meets_19 (z_xsh (by omega) (by omega) (by omega) (by omega) (by omega) (by omega)) ?_
  refine z_if_ne C 20 27 dX3_meets_20 (by decide) (zxs_rg (by omega) (by omega) (by omega) (by omega)) (fun c20_21 => ?_) (fun c20_21 => ?_)
  · rw [zxs_0 (by omega) (by omega) (by omega) (by omega), ezq1, ezq2] at c20_21
    have hF : ¬ zmeet (zV M 14 i 0) (zV M 14 i 1) v b := c20_21
    refine z_iconst C 27 dX3_meets_27 ?_
    refine z_zret C 28 dX3_meets_28 (by decide) (by decide) (by decide) ?_
    exact ⟨rfl, zb.zero hF⟩
  rw [zxs_0 (by omega) (by omega) (by omega) (by omega), ezq1, ezq2] at c20_21
  have hF : zmeet (zV M 14 i 0) (zV M 14 i 1) v b := c20_21
  refine z_iconst C 23 dX3_meets_23 ?_
  refine z_goto C 24 28 dX3_meets_24 (by decide) ?_
  refine z_zret C 28 dX3_meets_28 (by decide) (by decide) (by decide) ?_
  exact ⟨rfl, zb.one hF⟩
set_option maxHeartbeats 4000000 in
set_option maxRecDepth 100000 in
theorem c_X3_covers_14 (l : Launch) (G : zG) (M : zMem) (i : Nat) (hi : i < 12) (hp : zpfx (zV M 14 i 0) (zV M 14 i 1)) (v : Int) (hv : 0 ≤ v ∧ v < 65536) : Met l yX3_covers [.code yX3_covers cX3_covers 2 (some .boolean)] (zR 2 0 0) (zPc G M [.ref (zad G 14 i), .int (zI v)]) (zQi G (fun x M' => M = M' ∧ zb x (zmeet (zV M 14 i 0) (zV M 14 i 1) v 16))) 0 0 (zA G) := by
  refine z_met [(0, .ref (zad G 14 i)), (1, .int (zI v))] (by decide) (Nat.le_of_ble_eq_true rfl) rfl ?_
  intro p e s m below meth c C
  have C : zC p s m ([.ref (zad G 14 i), .int (zI v)] : List Value).toArray meth c G RX3 cX3_covers 2 (some .boolean) := C
  refine z_aload_n C 0 dX3_covers_0 rfl 0 rfl ?_
  refine z_iload_n C 1 dX3_covers_1 rfl 1 rfl ?_
  refine z_bipush C 2 dX3_covers_2 (by decide +kernel) ?_
  refine z_callVi C 4 (As := [.int (zI v), .int (zI 16)]) (rest := []) (c_X3_meets_14 l G M i hi hp v 16 ⟨hv.1, hv.2, by decide, by decide⟩) zcl3 (show i < 12 by omega) (zc14 ..) (zW_of 2 C wm_3_24 wc_X3_meets wini_3 wi_X3_meets wse_X3_meets ⟨by decide, by decide, by decide⟩ ⟨by decide, by decide⟩) rfl (by decide) ⟨by decide, by decide⟩ dX3_covers_4 rfl (fun zq1 Mz2 hzq1 hPz1 => ?_)
  obtain ⟨rfl, hPz1⟩ := hPz1
  refine z_zret C 7 dX3_covers_7 (by decide) (by decide) (hPz1.1) ?_
  exact ⟨rfl, hPz1⟩
set_option maxHeartbeats 4000000 in
set_option maxRecDepth 100000 in
theorem c_X3_set_20 (l : Launch) (G : zG) (M : zMem) (i : Nat) (hi : i < 24) (v b : Int) : Met l yX3_set [.code yX3_set cX3_set 3 none] (zR 0 0 0) (zPc G M [.ref (zad G 20 i), .int (zI v), .int (zI b)]) (zQv G (fun M' => M' = zup (zup M 20 i 0 (zI v)) 20 i 1 (zI b))) 0 0 (zA G) := by
  refine z_met [(0, .ref (zad G 20 i)), (1, .int (zI v)), (2, .int (zI b))] (by decide) (Nat.le_of_ble_eq_true rfl) rfl ?_
  intro p e s m below meth c C
  have C : zC p s m ([.ref (zad G 20 i), .int (zI v), .int (zI b)] : List Value).toArray meth c G RX3 cX3_set 3 none := C
  refine z_aload_n C 0 dX3_set_0 rfl 0 rfl ?_
  refine z_iload_n C 1 dX3_set_1 rfl 1 rfl ?_
  refine z_putI C 2 zcl3 (show i < 24 by omega) (zc20 ..) 0 (by decide) wf_3_9 rfl rfl rfl (Nat.le_of_ble_eq_true rfl) (zc20 ..) dX3_set_2 ?_
  refine z_aload_n C 5 dX3_set_5 rfl 0 rfl ?_
  refine z_iload_n C 6 dX3_set_6 rfl 2 rfl ?_
  refine z_putI C 7 zcl3 (show i < 24 by omega) (zc20 ..) 1 (by decide) wf_3_15 rfl rfl rfl (Nat.le_of_ble_eq_true rfl) (zc20 ..) dX3_set_7 ?_
  refine z_vret C 10 dX3_set_10 (by decide) (by decide) ?_
  exact rfl
set_option maxHeartbeats 4000000 in
set_option maxRecDepth 100000 in
theorem c_X3_meets_20 (l : Launch) (G : zG) (M : zMem) (i : Nat) (hi : i < 24) (hp : zpfx (zV M 20 i 0) (zV M 20 i 1)) (v b : Int) (hv : zpfx v b) : Met l yX3_meets [.code yX3_meets cX3_meets 4 (some .boolean)] (zR 1 0 0) (zPc G M [.ref (zad G 20 i), .int (zI v), .int (zI b)]) (zQi G (fun x M' => M = M' ∧ zb x (zmeet (zV M 20 i 0) (zV M 20 i 1) v b))) 0 0 (zA G) := by
  refine z_met [(0, .ref (zad G 20 i)), (1, .int (zI v)), (2, .int (zI b))] (by decide) (Nat.le_of_ble_eq_true rfl) rfl ?_
  intro p e s m below meth c C
  have C : zC p s m ([.ref (zad G 20 i), .int (zI v), .int (zI b)] : List Value).toArray meth c G RX3 cX3_meets 4 (some .boolean) := C
  obtain ⟨p0, p1, p2, p3⟩ := hp
  obtain ⟨v0, v1, v2, v3⟩ := hv
  refine z_aload_n C 0 dX3_meets_0 rfl 0 rfl ?_
  refine z_getI C 1 zcl3 (show i < 24 by omega) (zc20 ..) 1 (by decide) rfl wf_3_15 dX3_meets_1 (fun zq1 ezq1 hzq1 => ?_)
  refine z_iload_n C 4 dX3_meets_4 rfl 2 rfl ?_
  refine z_min C 5 wm_3_18 hzq1 (by first | assumption | omega) (by decide) dX3_meets_5 ?_
  refine z_istore_n (lv' := [(3, .int (zI (min zq1 b))), (0, .ref (zad G 20 i)), (1, .int (zI v)), (2, .int (zI b))]) C 8 dX3_meets_8 rfl (by decide) rfl ?_
  refine z_aload_n C 9 dX3_meets_9 rfl 1 rfl ?_
  refine z_getI C 10 zcl3 (show i < 24 by omega) (zc20 ..) 0 (by decide) rfl wf_3_9 dX3_meets_10 (fun zq2 ezq2 hzq2 => ?_)
  refine z_iload_n C 13 dX3_meets_13 rfl 2 rfl ?_
  refine z_ixor C 14 (v := zxr zq2 v) dX3_meets_14 (z_xor (by omega) (by omega)) ?_
  refine z_bipush C 15 dX3_meets_15 (by decide +kernel) ?_
  refine z_iload_n C 17 dX3_meets_17 rfl 0 rfl ?_
  refine z_isub C 18 dX3_meets_18 ?_
  refine z_iushr C 19 (v := zxs zq2 v (min zq1 b)) dX3_meets_19 (z_xsh (by omega) (by omega) (by omega) (by omega) (by omega) (by omega)) ?_
  refine z_if_ne C 20 27 dX3_meets_20 (by decide) (zxs_rg (by omega) (by omega) (by omega) (by omega)) (fun c20_21 => ?_) (fun c20_21 => ?_)
  · rw [zxs_0 (by omega) (by omega) (by omega) (by omega), ezq1, ezq2] at c20_21
    have hF : ¬ zmeet (zV M 20 i 0) (zV M 20 i 1) v b := c20_21
    refine z_iconst C 27 dX3_meets_27 ?_
    refine z_zret C 28 dX3_meets_28 (by decide) (by decide) (by decide) ?_
    exact ⟨rfl, zb.zero hF⟩
  rw [zxs_0 (by omega) (by omega) (by omega) (by omega), ezq1, ezq2] at c20_21
  have hF : zmeet (zV M 20 i 0) (zV M 20 i 1) v b := c20_21
  refine z_iconst C 23 dX3_meets_23 ?_
  refine z_goto C 24 28 dX3_meets_24 (by decide) ?_
  refine z_zret C 28 dX3_meets_28 (by decide) (by decide) (by decide) ?_
  exact ⟨rfl, zb.one hF⟩
set_option maxHeartbeats 4000000 in
set_option maxRecDepth 100000 in
theorem c_X3_covers_20 (l : Launch) (G : zG) (M : zMem) (i : Nat) (hi : i < 24) (hp : zpfx (zV M 20 i 0) (zV M 20 i 1)) (v : Int) (hv : 0 ≤ v ∧ v < 65536) : Met l yX3_covers [.code yX3_covers cX3_covers 2 (some .boolean)] (zR 2 0 0) (zPc G M [.ref (zad G 20 i), .int (zI v)]) (zQi G (fun x M' => M = M' ∧ zb x (zmeet (zV M 20 i 0) (zV M 20 i 1) v 16))) 0 0 (zA G) := by
  refine z_met [(0, .ref (zad G 20 i)), (1, .int (zI v))] (by decide) (Nat.le_of_ble_eq_true rfl) rfl ?_
  intro p e s m below meth c C
  have C : zC p s m ([.ref (zad G 20 i), .int (zI v)] : List Value).toArray meth c G RX3 cX3_covers 2 (some .boolean) := C
  refine z_aload_n C 0 dX3_covers_0 rfl 0 rfl ?_
  refine z_iload_n C 1 dX3_covers_1 rfl 1 rfl ?_
  refine z_bipush C 2 dX3_covers_2 (by decide +kernel) ?_
  refine z_callVi C 4 (As := [.int (zI v), .int (zI 16)]) (rest := []) (c_X3_meets_20 l G M i hi hp v 16 ⟨hv.1, hv.2, by decide, by decide⟩) zcl3 (show i < 24 by omega) (zc20 ..) (zW_of 2 C wm_3_24 wc_X3_meets wini_3 wi_X3_meets wse_X3_meets ⟨by decide, by decide, by decide⟩ ⟨by decide, by decide⟩) rfl (by decide) ⟨by decide, by decide⟩ dX3_covers_4 rfl (fun zq1 Mz2 hzq1 hPz1 => ?_)
  obtain ⟨rfl, hPz1⟩ := hPz1
  refine z_zret C 7 dX3_covers_7 (by decide) (by decide) (hPz1.1) ?_
  exact ⟨rfl, hPz1⟩
set_option maxHeartbeats 4000000 in
set_option maxRecDepth 100000 in
theorem c_X1_placeOf_5 (l : Launch) (G : zG) (M : zMem) (i : Nat) (hi : i < 24) (hn : 0 ≤ zV M 5 i 3 ∧ zV M 5 i 3 ≤ 4) (a : Int) (ha : zrg a) : Met l yX1_placeOf [.code yX1_placeOf cX1_placeOf 3 (some .int)] (zR 0 0 0) (zPc G M [.ref (zad G 5 i), .int (zI a)]) (zQi G (fun x M' => M = M' ∧ zplace (fun j => zV M 6 i j) (zV M 5 i 3) a x)) 0 0 (zA G) := by
  refine z_met [(0, .ref (zad G 5 i)), (1, .int (zI a))] (by decide) (Nat.le_of_ble_eq_true rfl) rfl ?_
  intro p e s m below meth c C
  have C : zC p s m ([.ref (zad G 5 i), .int (zI a)] : List Value).toArray meth c G RX1 cX1_placeOf 3 (some .int) := C
  refine z_iconst C 0 dX1_placeOf_0 ?_
  refine z_istore_n (lv' := [(2, .int (zI 0)), (0, .ref (zad G 5 i)), (1, .int (zI a))]) C 1 dX1_placeOf_1 rfl (by decide) rfl ?_
  have L2_1 : ∀ (kz1 : Nat) (k : Int), (0 ≤ k ∧ k ≤ zV M 5 i 3) → (∀ j : Nat, (j : Int) < k → (fun j => zV M 6 i j) j ≠ a) → (zV M 5 i 3 - k) < (kz1 : Int) → zZ p l e (zR 0 0 0) s m ([.ref (zad G 5 i), .int (zI a)] : List Value).toArray below meth c G 3 (MQ below (zQi G (fun x M' => M = M' ∧ zplace (fun j => zV M 6 i j) (zV M 5 i 3) a x)) ([.ref (zad G 5 i), .int (zI a)] : List Value).toArray s 0 0 (zA G)) M 0 0 2 [(0, .ref (zad G 5 i)), (1, .int (zI a)), (2, .int (zI k))] [] := by
    intro kz1
    induction kz1 with
    | zero =>
      intro k g0 g1 hk
      exact absurd hk (by omega)
    | succ kz1 ihz2 =>
      intro k g0 g1 hk
      refine z_iload_n C 2 dX1_placeOf_2 rfl 2 rfl ?_
      refine z_aload_n C 3 dX1_placeOf_3 rfl 0 rfl ?_
      refine z_getI C 4 zcl1 (show i < 24 by omega) (zc5 ..) 3 (by decide) rfl wf_1_21 dX1_placeOf_4 (fun zq3 ezq3 hzq3 => ?_)
      refine z_icmp_ge C 7 28 dX1_placeOf_7 (by decide) (by first | assumption | omega) hzq3 (fun c7_19 => ?_) (fun c7_19 => ?_)
      · refine z_iconst C 28 dX1_placeOf_28 ?_
        refine z_iret C 29 dX1_placeOf_29 (by decide) (by decide) (by decide) ?_
        exact ⟨rfl, Or.inl ⟨rfl, fun j hj => g1 j (by omega)⟩⟩
      refine z_aload_n C 10 dX1_placeOf_10 rfl 0 rfl ?_
      refine z_get C 11 zcl1 (show i < 24 by omega) (zc5 ..) 0 (by decide) rfl wf_1_9 dX1_placeOf_11 ?_
      refine z_iload_n C 14 dX1_placeOf_14 rfl 2 rfl ?_
      refine z_iald C 15 (show i < 24 by omega) (zc6 ..) (by first | assumption | omega) (by omega) (show k < ((4 : Nat) : Int) by omega) dX1_placeOf_15 (fun zq4 ezq4 hzq4 => ?_)
      refine z_iload_n C 16 dX1_placeOf_16 rfl 1 rfl ?_
      refine z_icmp_ne C 17 22 dX1_placeOf_17 (by decide) hzq4 (by first | assumption | omega) (fun c17_28 => ?_) (fun c17_28 => ?_)
      · refine z_iinc (lv' := [(2, .int (zI (k + 1))), (0, .ref (zad G 5 i)), (1, .int (zI a))]) C 22 dX1_placeOf_22 2 rfl (by decide) rfl ?_
        refine z_goto C 25 2 dX1_placeOf_25 (by decide) ?_
        refine z_sub (lv' := [(0, .ref (zad G 5 i)), (1, .int (zI a)), (2, .int (zI (k + 1)))]) [1, 2, 0] rfl ?_
        exact ihz2 (k + 1) (by omega) (by intro j hj; exact (Int.lt_or_le (j : Int) k).elim (g1 j) (fun q => by rw [show j = k.toNat by omega]; show zV M 6 i k.toNat ≠ a; omega)) (by omega)
      refine z_iload_n C 20 dX1_placeOf_20 rfl 2 rfl ?_
      refine z_iret C 21 dX1_placeOf_21 (by decide) (by decide) (by first | assumption | omega) ?_
      exact ⟨rfl, Or.inr ⟨k.toNat, by omega, by omega, by show zV M 6 i k.toNat = a; omega, fun j hj => g1 j (by omega)⟩⟩
  refine z_sub (lv' := [(0, .ref (zad G 5 i)), (1, .int (zI a)), (2, .int (zI 0))]) [1, 2, 0] rfl ?_
  exact L2_1 ((zV M 5 i 3 - 0).toNat + 1) 0 (by omega) (by intro j hj; omega) (by omega)
set_option maxHeartbeats 4000000 in
set_option maxRecDepth 100000 in
theorem c_X1_add_5 (l : Launch) (G : zG) (M : zMem) (i : Nat) (hi : i < 24) (hn : 0 ≤ zV M 5 i 3 ∧ zV M 5 i 3 < 4) (a b w : Int) : Met l yX1_add [.code yX1_add cX1_add 4 none] (zR 0 0 0) (zPc G M [.ref (zad G 5 i), .int (zI a), .int (zI b), .int (zI w)]) (zQv G (fun M' => M' = zup (zup (zup (zup M 6 i (zV M 5 i 3).toNat (zI a)) 7 i (zV M 5 i 3).toNat (zI b)) 8 i (zV M 5 i 3).toNat (zI w)) 5 i 3 (zI (zV M 5 i 3 + 1)))) 0 0 (zA G) := by
  refine z_met [(0, .ref (zad G 5 i)), (1, .int (zI a)), (2, .int (zI b)), (3, .int (zI w))] (by decide) (Nat.le_of_ble_eq_true rfl) rfl ?_
  intro p e s m below meth c C
  have C : zC p s m ([.ref (zad G 5 i), .int (zI a), .int (zI b), .int (zI w)] : List Value).toArray meth c G RX1 cX1_add 4 none := C
  refine z_aload_n C 0 dX1_add_0 rfl 0 rfl ?_
  refine z_get C 1 zcl1 (show i < 24 by omega) (zc5 ..) 0 (by decide) rfl wf_1_9 dX1_add_1 ?_
  refine z_aload_n C 4 dX1_add_4 rfl 0 rfl ?_
  refine z_getI C 5 zcl1 (show i < 24 by omega) (zc5 ..) 3 (by decide) rfl wf_1_21 dX1_add_5 (fun zq1 ezq1 hzq1 => ?_)
  refine z_iload_n C 8 dX1_add_8 rfl 1 rfl ?_
  refine z_iast C 9 (show i < 24 by omega) (zc6 ..) hzq1 (by omega) (show zq1 < ((4 : Nat) : Int) by omega) (zc6 ..) dX1_add_9 ?_
  refine z_aload_n C 10 dX1_add_10 rfl 0 rfl ?_
  refine z_get C 11 zcl1 (show i < 24 by omega) (zc5 ..) 1 (by decide) rfl wf_1_15 dX1_add_11 ?_
  refine z_aload_n C 14 dX1_add_14 rfl 0 rfl ?_
  refine z_getI C 15 zcl1 (show i < 24 by omega) (zc5 ..) 3 (by decide) rfl wf_1_21 dX1_add_15 (fun zq2 ezq2 hzq2 => ?_)
  rw [zV_ne (by decide)] at ezq2
  refine z_iload_n C 18 dX1_add_18 rfl 2 rfl ?_
  refine z_iast C 19 (show i < 24 by omega) (zc7 ..) hzq2 (by omega) (show zq2 < ((4 : Nat) : Int) by omega) (zc7 ..) dX1_add_19 ?_
  refine z_aload_n C 20 dX1_add_20 rfl 0 rfl ?_
  refine z_get C 21 zcl1 (show i < 24 by omega) (zc5 ..) 2 (by decide) rfl wf_1_18 dX1_add_21 ?_
  refine z_aload_n C 24 dX1_add_24 rfl 0 rfl ?_
  refine z_getI C 25 zcl1 (show i < 24 by omega) (zc5 ..) 3 (by decide) rfl wf_1_21 dX1_add_25 (fun zq3 ezq3 hzq3 => ?_)
  rw [zV_ne (by decide)] at ezq3
  rw [zV_ne (by decide)] at ezq3
  refine z_iload_n C 28 dX1_add_28 rfl 3 rfl ?_
  refine z_iast C 29 (show i < 24 by omega) (zc8 ..) hzq3 (by omega) (show zq3 < ((4 : Nat) : Int) by omega) (zc8 ..) dX1_add_29 ?_
  refine z_aload_n C 30 dX1_add_30 rfl 0 rfl ?_
  refine z_dup C 31 dX1_add_31 rfl ?_
  refine z_getI C 32 zcl1 (show i < 24 by omega) (zc5 ..) 3 (by decide) rfl wf_1_21 dX1_add_32 (fun zq4 ezq4 hzq4 => ?_)
  rw [zV_ne (by decide)] at ezq4
  rw [zV_ne (by decide)] at ezq4
  rw [zV_ne (by decide)] at ezq4
  refine z_iconst C 35 dX1_add_35 ?_
  refine z_iadd C 36 dX1_add_36 ?_
  refine z_putI C 37 zcl1 (show i < 24 by omega) (zc5 ..) 3 (by decide) wf_1_21 rfl rfl rfl (Nat.le_of_ble_eq_true rfl) (zc5 ..) dX1_add_37 ?_
  refine z_vret C 40 dX1_add_40 (by decide) (by decide) ?_
  show _ = _
  obtain rfl := ezq1
  obtain rfl := ezq2
  obtain rfl := ezq3
  obtain rfl := ezq4
  rfl
set_option maxHeartbeats 4000000 in
set_option maxRecDepth 100000 in
theorem c_X1_placeOf_21 (l : Launch) (G : zG) (M : zMem) (i : Nat) (hi : i < 24) (hn : 0 ≤ zV M 21 i 3 ∧ zV M 21 i 3 ≤ 4) (a : Int) (ha : zrg a) : Met l yX1_placeOf [.code yX1_placeOf cX1_placeOf 3 (some .int)] (zR 0 0 0) (zPc G M [.ref (zad G 21 i), .int (zI a)]) (zQi G (fun x M' => M = M' ∧ zplace (fun j => zV M 22 i j) (zV M 21 i 3) a x)) 0 0 (zA G) := by
  refine z_met [(0, .ref (zad G 21 i)), (1, .int (zI a))] (by decide) (Nat.le_of_ble_eq_true rfl) rfl ?_
  intro p e s m below meth c C
  have C : zC p s m ([.ref (zad G 21 i), .int (zI a)] : List Value).toArray meth c G RX1 cX1_placeOf 3 (some .int) := C
  refine z_iconst C 0 dX1_placeOf_0 ?_
  refine z_istore_n (lv' := [(2, .int (zI 0)), (0, .ref (zad G 21 i)), (1, .int (zI a))]) C 1 dX1_placeOf_1 rfl (by decide) rfl ?_
  have L2_1 : ∀ (kz1 : Nat) (k : Int), (0 ≤ k ∧ k ≤ zV M 21 i 3) → (∀ j : Nat, (j : Int) < k → (fun j => zV M 22 i j) j ≠ a) → (zV M 21 i 3 - k) < (kz1 : Int) → zZ p l e (zR 0 0 0) s m ([.ref (zad G 21 i), .int (zI a)] : List Value).toArray below meth c G 3 (MQ below (zQi G (fun x M' => M = M' ∧ zplace (fun j => zV M 22 i j) (zV M 21 i 3) a x)) ([.ref (zad G 21 i), .int (zI a)] : List Value).toArray s 0 0 (zA G)) M 0 0 2 [(0, .ref (zad G 21 i)), (1, .int (zI a)), (2, .int (zI k))] [] := by
    intro kz1
    induction kz1 with
    | zero =>
      intro k g0 g1 hk
      exact absurd hk (by omega)
    | succ kz1 ihz2 =>
      intro k g0 g1 hk
      refine z_iload_n C 2 dX1_placeOf_2 rfl 2 rfl ?_
      refine z_aload_n C 3 dX1_placeOf_3 rfl 0 rfl ?_
      refine z_getI C 4 zcl1 (show i < 24 by omega) (zc21 ..) 3 (by decide) rfl wf_1_21 dX1_placeOf_4 (fun zq3 ezq3 hzq3 => ?_)
      refine z_icmp_ge C 7 28 dX1_placeOf_7 (by decide) (by first | assumption | omega) hzq3 (fun c7_19 => ?_) (fun c7_19 => ?_)
      · refine z_iconst C 28 dX1_placeOf_28 ?_
        refine z_iret C 29 dX1_placeOf_29 (by decide) (by decide) (by decide) ?_
        exact ⟨rfl, Or.inl ⟨rfl, fun j hj => g1 j (by omega)⟩⟩
      refine z_aload_n C 10 dX1_placeOf_10 rfl 0 rfl ?_
      refine z_get C 11 zcl1 (show i < 24 by omega) (zc21 ..) 0 (by decide) rfl wf_1_9 dX1_placeOf_11 ?_
      refine z_iload_n C 14 dX1_placeOf_14 rfl 2 rfl ?_
      refine z_iald C 15 (show i < 24 by omega) (zc22 ..) (by first | assumption | omega) (by omega) (show k < ((4 : Nat) : Int) by omega) dX1_placeOf_15 (fun zq4 ezq4 hzq4 => ?_)
      refine z_iload_n C 16 dX1_placeOf_16 rfl 1 rfl ?_
      refine z_icmp_ne C 17 22 dX1_placeOf_17 (by decide) hzq4 (by first | assumption | omega) (fun c17_28 => ?_) (fun c17_28 => ?_)
      · refine z_iinc (lv' := [(2, .int (zI (k + 1))), (0, .ref (zad G 21 i)), (1, .int (zI a))]) C 22 dX1_placeOf_22 2 rfl (by decide) rfl ?_
        refine z_goto C 25 2 dX1_placeOf_25 (by decide) ?_
        refine z_sub (lv' := [(0, .ref (zad G 21 i)), (1, .int (zI a)), (2, .int (zI (k + 1)))]) [1, 2, 0] rfl ?_
        exact ihz2 (k + 1) (by omega) (by intro j hj; exact (Int.lt_or_le (j : Int) k).elim (g1 j) (fun q => by rw [show j = k.toNat by omega]; show zV M 22 i k.toNat ≠ a; omega)) (by omega)
      refine z_iload_n C 20 dX1_placeOf_20 rfl 2 rfl ?_
      refine z_iret C 21 dX1_placeOf_21 (by decide) (by decide) (by first | assumption | omega) ?_
      exact ⟨rfl, Or.inr ⟨k.toNat, by omega, by omega, by show zV M 22 i k.toNat = a; omega, fun j hj => g1 j (by omega)⟩⟩
  refine z_sub (lv' := [(0, .ref (zad G 21 i)), (1, .int (zI a)), (2, .int (zI 0))]) [1, 2, 0] rfl ?_
  exact L2_1 ((zV M 21 i 3 - 0).toNat + 1) 0 (by omega) (by intro j hj; omega) (by omega)
set_option maxHeartbeats 4000000 in
set_option maxRecDepth 100000 in
theorem c_X1_add_21 (l : Launch) (G : zG) (M : zMem) (i : Nat) (hi : i < 24) (hn : 0 ≤ zV M 21 i 3 ∧ zV M 21 i 3 < 4) (a b w : Int) : Met l yX1_add [.code yX1_add cX1_add 4 none] (zR 0 0 0) (zPc G M [.ref (zad G 21 i), .int (zI a), .int (zI b), .int (zI w)]) (zQv G (fun M' => M' = zup (zup (zup (zup M 22 i (zV M 21 i 3).toNat (zI a)) 23 i (zV M 21 i 3).toNat (zI b)) 24 i (zV M 21 i 3).toNat (zI w)) 21 i 3 (zI (zV M 21 i 3 + 1)))) 0 0 (zA G) := by
  refine z_met [(0, .ref (zad G 21 i)), (1, .int (zI a)), (2, .int (zI b)), (3, .int (zI w))] (by decide) (Nat.le_of_ble_eq_true rfl) rfl ?_
  intro p e s m below meth c C
  have C : zC p s m ([.ref (zad G 21 i), .int (zI a), .int (zI b), .int (zI w)] : List Value).toArray meth c G RX1 cX1_add 4 none := C
  refine z_aload_n C 0 dX1_add_0 rfl 0 rfl ?_
  refine z_get C 1 zcl1 (show i < 24 by omega) (zc21 ..) 0 (by decide) rfl wf_1_9 dX1_add_1 ?_
  refine z_aload_n C 4 dX1_add_4 rfl 0 rfl ?_
  refine z_getI C 5 zcl1 (show i < 24 by omega) (zc21 ..) 3 (by decide) rfl wf_1_21 dX1_add_5 (fun zq1 ezq1 hzq1 => ?_)
  refine z_iload_n C 8 dX1_add_8 rfl 1 rfl ?_
  refine z_iast C 9 (show i < 24 by omega) (zc22 ..) hzq1 (by omega) (show zq1 < ((4 : Nat) : Int) by omega) (zc22 ..) dX1_add_9 ?_
  refine z_aload_n C 10 dX1_add_10 rfl 0 rfl ?_
  refine z_get C 11 zcl1 (show i < 24 by omega) (zc21 ..) 1 (by decide) rfl wf_1_15 dX1_add_11 ?_
  refine z_aload_n C 14 dX1_add_14 rfl 0 rfl ?_
  refine z_getI C 15 zcl1 (show i < 24 by omega) (zc21 ..) 3 (by decide) rfl wf_1_21 dX1_add_15 (fun zq2 ezq2 hzq2 => ?_)
  rw [zV_ne (by decide)] at ezq2
  refine z_iload_n C 18 dX1_add_18 rfl 2 rfl ?_
  refine z_iast C 19 (show i < 24 by omega) (zc23 ..) hzq2 (by omega) (show zq2 < ((4 : Nat) : Int) by omega) (zc23 ..) dX1_add_19 ?_
  refine z_aload_n C 20 dX1_add_20 rfl 0 rfl ?_
  refine z_get C 21 zcl1 (show i < 24 by omega) (zc21 ..) 2 (by decide) rfl wf_1_18 dX1_add_21 ?_
  refine z_aload_n C 24 dX1_add_24 rfl 0 rfl ?_
  refine z_getI C 25 zcl1 (show i < 24 by omega) (zc21 ..) 3 (by decide) rfl wf_1_21 dX1_add_25 (fun zq3 ezq3 hzq3 => ?_)
  rw [zV_ne (by decide)] at ezq3
  rw [zV_ne (by decide)] at ezq3
  refine z_iload_n C 28 dX1_add_28 rfl 3 rfl ?_
  refine z_iast C 29 (show i < 24 by omega) (zc24 ..) hzq3 (by omega) (show zq3 < ((4 : Nat) : Int) by omega) (zc24 ..) dX1_add_29 ?_
  refine z_aload_n C 30 dX1_add_30 rfl 0 rfl ?_
  refine z_dup C 31 dX1_add_31 rfl ?_
  refine z_getI C 32 zcl1 (show i < 24 by omega) (zc21 ..) 3 (by decide) rfl wf_1_21 dX1_add_32 (fun zq4 ezq4 hzq4 => ?_)
  rw [zV_ne (by decide)] at ezq4
  rw [zV_ne (by decide)] at ezq4
  rw [zV_ne (by decide)] at ezq4
  refine z_iconst C 35 dX1_add_35 ?_
  refine z_iadd C 36 dX1_add_36 ?_
  refine z_putI C 37 zcl1 (show i < 24 by omega) (zc21 ..) 3 (by decide) wf_1_21 rfl rfl rfl (Nat.le_of_ble_eq_true rfl) (zc21 ..) dX1_add_37 ?_
  refine z_vret C 40 dX1_add_40 (by decide) (by decide) ?_
  show _ = _
  obtain rfl := ezq1
  obtain rfl := ezq2
  obtain rfl := ezq3
  obtain rfl := ezq4
  rfl
set_option maxHeartbeats 4000000 in
set_option maxRecDepth 100000 in
theorem c_X1_clear_21 (l : Launch) (G : zG) (M : zMem) (i : Nat) (hi : i < 24)  : Met l yX1_clear [.code yX1_clear cX1_clear 1 none] (zR 0 0 0) (zPc G M [.ref (zad G 21 i)]) (zQv G (fun M' => M' = zup M 21 i 3 (zI 0))) 0 0 (zA G) := by
  refine z_met [(0, .ref (zad G 21 i))] (by decide) (Nat.le_of_ble_eq_true rfl) rfl ?_
  intro p e s m below meth c C
  have C : zC p s m ([.ref (zad G 21 i)] : List Value).toArray meth c G RX1 cX1_clear 1 none := C
  refine z_aload_n C 0 dX1_clear_0 rfl 0 rfl ?_
  refine z_iconst C 1 dX1_clear_1 ?_
  refine z_putI C 2 zcl1 (show i < 24 by omega) (zc21 ..) 3 (by decide) wf_1_21 rfl rfl rfl (Nat.le_of_ble_eq_true rfl) (zc21 ..) dX1_clear_2 ?_
  refine z_vret C 5 dX1_clear_5 (by decide) (by decide) ?_
  exact rfl
set_option maxHeartbeats 4000000 in
set_option maxRecDepth 100000 in
theorem c_X1_removeAt_5 (l : Launch) (G : zG) (M : zMem) (i : Nat) (hi : i < 24) (hn : zV M 5 i 3 ≤ 4) (a : Int) (ha : 0 ≤ a ∧ a < zV M 5 i 3) : Met l yX1_removeAt [.code yX1_removeAt cX1_removeAt 3 none] (zR 0 0 0) (zPc G M [.ref (zad G 5 i), .int (zI a)]) (zQv G (fun M' => zshift M M' i a (zV M 5 i 3 - 1) (zV M 5 i 3 - 1))) 0 0 (zA G) := by
  refine z_met [(0, .ref (zad G 5 i)), (1, .int (zI a))] (by decide) (Nat.le_of_ble_eq_true rfl) rfl ?_
  intro p e s m below meth c C
  have C : zC p s m ([.ref (zad G 5 i), .int (zI a)] : List Value).toArray meth c G RX1 cX1_removeAt 3 none := C
  refine z_aload_n C 0 dX1_removeAt_0 rfl 0 rfl ?_
  refine z_dup C 1 dX1_removeAt_1 rfl ?_
  refine z_getI C 2 zcl1 (show i < 24 by omega) (zc5 ..) 3 (by decide) rfl wf_1_21 dX1_removeAt_2 (fun zq1 ezq1 hzq1 => ?_)
  refine z_iconst C 5 dX1_removeAt_5 ?_
  refine z_isub C 6 dX1_removeAt_6 ?_
  refine z_putI C 7 zcl1 (show i < 24 by omega) (zc5 ..) 3 (by decide) wf_1_21 rfl rfl rfl (Nat.le_of_ble_eq_true rfl) (zc5 ..) dX1_removeAt_7 ?_
  refine z_iload_n C 10 dX1_removeAt_10 rfl 1 rfl ?_
  refine z_istore_n (lv' := [(2, .int (zI a)), (0, .ref (zad G 5 i)), (1, .int (zI a))]) C 11 dX1_removeAt_11 rfl (by decide) rfl ?_
  have L12_2 : ∀ (kz2 : Nat) (M1 : zMem) (k : Int), (a ≤ k ∧ k ≤ zV M 5 i 3 - 1) → (zshift M M1 i a k (zV M 5 i 3 - 1)) → (zV M 5 i 3 - 1 - k) < (kz2 : Int) → zZ p l e (zR 0 0 0) s m ([.ref (zad G 5 i), .int (zI a)] : List Value).toArray below meth c G 3 (MQ below (zQv G (fun M' => zshift M M' i a (zV M 5 i 3 - 1) (zV M 5 i 3 - 1))) ([.ref (zad G 5 i), .int (zI a)] : List Value).toArray s 0 0 (zA G)) M1 0 0 12 [(0, .ref (zad G 5 i)), (1, .int (zI a)), (2, .int (zI k))] [] := by
    intro kz2
    induction kz2 with
    | zero =>
      intro M1 k g0 g1 hk
      exact absurd hk (by omega)
    | succ kz2 ihz3 =>
      intro M1 k g0 g1 hk
      refine z_iload_n C 12 dX1_removeAt_12 rfl 2 rfl ?_
      refine z_aload_n C 13 dX1_removeAt_13 rfl 0 rfl ?_
      refine z_getI C 14 zcl1 (show i < 24 by omega) (zc5 ..) 3 (by decide) rfl wf_1_21 dX1_removeAt_14 (fun zq4 ezq4 hzq4 => ?_)
      have hc := g1.1
      refine z_icmp_ge C 17 68 dX1_removeAt_17 (by decide) (by first | assumption | omega) hzq4 (fun c17_26 => ?_) (fun c17_26 => ?_)
      · refine z_vret C 68 dX1_removeAt_68 (by decide) (by decide) ?_
        have hk9 : k = zV M 5 i 3 - 1 := by omega
        subst hk9
        exact g1
      refine z_aload_n C 20 dX1_removeAt_20 rfl 0 rfl ?_
      refine z_get C 21 zcl1 (show i < 24 by omega) (zc5 ..) 0 (by decide) rfl wf_1_9 dX1_removeAt_21 ?_
      refine z_iload_n C 24 dX1_removeAt_24 rfl 2 rfl ?_
      refine z_aload_n C 25 dX1_removeAt_25 rfl 0 rfl ?_
      refine z_get C 26 zcl1 (show i < 24 by omega) (zc5 ..) 0 (by decide) rfl wf_1_9 dX1_removeAt_26 ?_
      refine z_iload_n C 29 dX1_removeAt_29 rfl 2 rfl ?_
      refine z_iconst C 30 dX1_removeAt_30 ?_
      refine z_iadd C 31 dX1_removeAt_31 ?_
      refine z_iald C 32 (show i < 24 by omega) (zc6 ..) (by first | assumption | omega) (by omega) (show (k + 1) < ((4 : Nat) : Int) by omega) dX1_removeAt_32 (fun zq5 ezq5 hzq5 => ?_)
      refine z_iast C 33 (show i < 24 by omega) (zc6 ..) (by first | assumption | omega) (by omega) (show k < ((4 : Nat) : Int) by omega) (zc6 ..) dX1_removeAt_33 ?_
      refine z_aload_n C 34 dX1_removeAt_34 rfl 0 rfl ?_
      refine z_get C 35 zcl1 (show i < 24 by omega) (zc5 ..) 1 (by decide) rfl wf_1_15 dX1_removeAt_35 ?_
      refine z_iload_n C 38 dX1_removeAt_38 rfl 2 rfl ?_
      refine z_aload_n C 39 dX1_removeAt_39 rfl 0 rfl ?_
      refine z_get C 40 zcl1 (show i < 24 by omega) (zc5 ..) 1 (by decide) rfl wf_1_15 dX1_removeAt_40 ?_
      refine z_iload_n C 43 dX1_removeAt_43 rfl 2 rfl ?_
      refine z_iconst C 44 dX1_removeAt_44 ?_
      refine z_iadd C 45 dX1_removeAt_45 ?_
      refine z_iald C 46 (show i < 24 by omega) (zc7 ..) (by first | assumption | omega) (by omega) (show (k + 1) < ((4 : Nat) : Int) by omega) dX1_removeAt_46 (fun zq6 ezq6 hzq6 => ?_)
      rw [zV_ne (by decide)] at ezq6
      refine z_iast C 47 (show i < 24 by omega) (zc7 ..) (by first | assumption | omega) (by omega) (show k < ((4 : Nat) : Int) by omega) (zc7 ..) dX1_removeAt_47 ?_
      refine z_aload_n C 48 dX1_removeAt_48 rfl 0 rfl ?_
      refine z_get C 49 zcl1 (show i < 24 by omega) (zc5 ..) 2 (by decide) rfl wf_1_18 dX1_removeAt_49 ?_
      refine z_iload_n C 52 dX1_removeAt_52 rfl 2 rfl ?_
      refine z_aload_n C 53 dX1_removeAt_53 rfl 0 rfl ?_
      refine z_get C 54 zcl1 (show i < 24 by omega) (zc5 ..) 2 (by decide) rfl wf_1_18 dX1_removeAt_54 ?_
      refine z_iload_n C 57 dX1_removeAt_57 rfl 2 rfl ?_
      refine z_iconst C 58 dX1_removeAt_58 ?_
      refine z_iadd C 59 dX1_removeAt_59 ?_
      refine z_iald C 60 (show i < 24 by omega) (zc8 ..) (by first | assumption | omega) (by omega) (show (k + 1) < ((4 : Nat) : Int) by omega) dX1_removeAt_60 (fun zq7 ezq7 hzq7 => ?_)
      rw [zV_ne (by decide)] at ezq7
      rw [zV_ne (by decide)] at ezq7
      refine z_iast C 61 (show i < 24 by omega) (zc8 ..) (by first | assumption | omega) (by omega) (show k < ((4 : Nat) : Int) by omega) (zc8 ..) dX1_removeAt_61 ?_
      refine z_iinc (lv' := [(2, .int (zI (k + 1))), (0, .ref (zad G 5 i)), (1, .int (zI a))]) C 62 dX1_removeAt_62 2 rfl (by decide) rfl ?_
      refine z_goto C 65 12 dX1_removeAt_65 (by decide) ?_
      refine z_sub (lv' := [(0, .ref (zad G 5 i)), (1, .int (zI a)), (2, .int (zI (k + 1)))]) [1, 2, 0] rfl ?_
      exact ihz3 (zup (zup (zup M1 6 i k.toNat (zI zq5)) 7 i k.toNat (zI zq6)) 8 i k.toNat (zI zq7)) (k + 1) (by omega) (by exact zshift_1 (by omega) (by omega) g1 ezq5 hzq5 ezq6 hzq6 ezq7 hzq7) (by omega)
  refine z_sub (lv' := [(0, .ref (zad G 5 i)), (1, .int (zI a)), (2, .int (zI a))]) [1, 2, 0] rfl ?_
  exact L12_2 ((zV M 5 i 3 - 1 - a).toNat + 1) (zup M 5 i 3 (zI (zq1 - 1))) a (by omega) (by rw [ezq1]; exact zshift_0 M i a (by omega)) (by omega)
set_option maxHeartbeats 4000000 in
set_option maxRecDepth 100000 in
theorem c_X1_copy_21 (l : Launch) (G : zG) (M : zMem) (en : Nat) (he : en < 24) (i : Nat) (hi : i < 24) (hn : 0 ≤ zV M 5 i 3 ∧ zV M 5 i 3 ≤ 4) : Met l yX1_copy [.code yX1_copy cX1_copy 3 none] (zR 1 0 0) (zPc G M [.ref (zad G 21 en), .ref (zad G 5 i)]) (zQv G (fun M' => zcopy M M' en i (zV M 5 i 3))) 0 0 (zA G) := by
  refine z_met [(0, .ref (zad G 21 en)), (1, .ref (zad G 5 i))] (by decide) (Nat.le_of_ble_eq_true rfl) rfl ?_
  intro p e s m below meth c C
  have C : zC p s m ([.ref (zad G 21 en), .ref (zad G 5 i)] : List Value).toArray meth c G RX1 cX1_copy 3 none := C
  refine z_aload_n C 0 dX1_copy_0 rfl 0 rfl ?_
  refine z_callVv C 1 (As := []) (rest := []) (c_X1_clear_21 l G M en he) zcl1 (show en < 24 by omega) (zc21 ..) (zW_of 0 C wm_1_25 wc_X1_clear wini_1 wi_X1_clear wse_X1_clear ⟨by decide, by decide, by decide⟩ ⟨by decide, by decide⟩) rfl (by decide) ⟨by decide, by decide⟩ dX1_copy_1 rfl (fun Mz2 hPz1 => ?_)
  refine z_iconst C 4 dX1_copy_4 ?_
  refine z_istore_n (lv' := [(2, .int (zI 0)), (0, .ref (zad G 21 en)), (1, .ref (zad G 5 i))]) C 5 dX1_copy_5 rfl (by decide) rfl ?_
  have L6_3 : ∀ (kz3 : Nat) (M1 : zMem) (k : Int), (0 ≤ k ∧ k ≤ zV M 5 i 3) → (zcopy M M1 en i k) → (zV M 5 i 3 - k) < (kz3 : Int) → zZ p l e (zR 1 0 0) s m ([.ref (zad G 21 en), .ref (zad G 5 i)] : List Value).toArray below meth c G 3 (MQ below (zQv G (fun M' => zcopy M M' en i (zV M 5 i 3))) ([.ref (zad G 21 en), .ref (zad G 5 i)] : List Value).toArray s 0 0 (zA G)) M1 0 0 6 [(0, .ref (zad G 21 en)), (1, .ref (zad G 5 i)), (2, .int (zI k))] [] := by
    intro kz3
    induction kz3 with
    | zero =>
      intro M1 k g0 g1 hk
      exact absurd hk (by omega)
    | succ kz3 ihz4 =>
      intro M1 k g0 g1 hk
      refine z_iload_n C 6 dX1_copy_6 rfl 2 rfl ?_
      refine z_aload_n C 7 dX1_copy_7 rfl 1 rfl ?_
      refine z_getI C 8 zcl1 (show i < 24 by omega) (zc5 ..) 3 (by decide) rfl wf_1_21 dX1_copy_8 (fun zq5 ezq5 hzq5 => ?_)
      have hc : zV M1 5 i 3 = zV M 5 i 3 := zV_of (g1.2.2.2 5 i 3 (by omega))
      refine z_icmp_ge C 11 42 dX1_copy_11 (by decide) (by first | assumption | omega) hzq5 (fun c11_22 => ?_) (fun c11_22 => ?_)
      · refine z_vret C 42 dX1_copy_42 (by decide) (by decide) ?_
        have hk9 : k = zV M 5 i 3 := by omega
        subst hk9
        exact g1
      refine z_aload_n C 14 dX1_copy_14 rfl 0 rfl ?_
      refine z_aload_n C 15 dX1_copy_15 rfl 1 rfl ?_
      refine z_get C 16 zcl1 (show i < 24 by omega) (zc5 ..) 0 (by decide) rfl wf_1_9 dX1_copy_16 ?_
      refine z_iload_n C 19 dX1_copy_19 rfl 2 rfl ?_
      refine z_iald C 20 (show i < 24 by omega) (zc6 ..) (by first | assumption | omega) (by omega) (show k < ((4 : Nat) : Int) by omega) dX1_copy_20 (fun zq6 ezq6 hzq6 => ?_)
      refine z_aload_n C 21 dX1_copy_21 rfl 1 rfl ?_
      refine z_get C 22 zcl1 (show i < 24 by omega) (zc5 ..) 1 (by decide) rfl wf_1_15 dX1_copy_22 ?_
      refine z_iload_n C 25 dX1_copy_25 rfl 2 rfl ?_
      refine z_iald C 26 (show i < 24 by omega) (zc7 ..) (by first | assumption | omega) (by omega) (show k < ((4 : Nat) : Int) by omega) dX1_copy_26 (fun zq7 ezq7 hzq7 => ?_)
      refine z_aload_n C 27 dX1_copy_27 rfl 1 rfl ?_
      refine z_get C 28 zcl1 (show i < 24 by omega) (zc5 ..) 2 (by decide) rfl wf_1_18 dX1_copy_28 ?_
      refine z_iload_n C 31 dX1_copy_31 rfl 2 rfl ?_
      refine z_iald C 32 (show i < 24 by omega) (zc8 ..) (by first | assumption | omega) (by omega) (show k < ((4 : Nat) : Int) by omega) dX1_copy_32 (fun zq8 ezq8 hzq8 => ?_)
      refine z_callVv C 33 (As := [.int (zI zq6), .int (zI zq7), .int (zI zq8)]) (rest := []) (c_X1_add_21 l G M1 en he (by have := g1.1; omega) zq6 zq7 zq8) zcl1 (show en < 24 by omega) (zc21 ..) (zW_of 3 C wm_1_28 wc_X1_add wini_1 wi_X1_add wse_X1_add ⟨by decide, by decide, by decide⟩ ⟨by decide, by decide⟩) rfl (by decide) ⟨by decide, by decide⟩ dX1_copy_33 rfl (fun Mz10 hPz9 => ?_)
      refine z_iinc (lv' := [(2, .int (zI (k + 1))), (0, .ref (zad G 21 en)), (1, .ref (zad G 5 i))]) C 36 dX1_copy_36 2 rfl (by decide) rfl ?_
      refine z_goto C 39 6 dX1_copy_39 (by decide) ?_
      refine z_sub (lv' := [(0, .ref (zad G 21 en)), (1, .ref (zad G 5 i)), (2, .int (zI (k + 1)))]) [1, 2, 0] rfl ?_
      exact ihz4 Mz10 (k + 1) (by omega) (by exact zcopy_1 (by omega) (by omega) g1 ezq6 ezq7 ezq8 hzq6 hzq7 hzq8 hPz9) (by omega)
  refine z_sub (lv' := [(0, .ref (zad G 21 en)), (1, .ref (zad G 5 i)), (2, .int (zI 0))]) [1, 2, 0] rfl ?_
  exact L6_3 ((zV M 5 i 3 - 0).toNat + 1) Mz2 0 (by omega) (by rw [hPz1]; exact zcopy_0 M en i) (by omega)
end
section
/-! the registry and the delegations as rows of numbers: v values, l lengths, g gone, n how many -/
def zcov (v l g : Nat → Int) (n id : Int) (i : Nat) : Prop := (i : Int) < n ∧ g i = 0 ∧ zmeet (v i) (l i) id 16
/-- the first longest one that covers id; -1 if none does -/
def zfnd (v l g : Nat → Int) (n id x : Int) : Prop := (x = -1 ∧ ∀ i, ¬ zcov v l g n id i) ∨ ∃ i : Nat, x = (i : Int) ∧ zcov v l g n id i ∧ ∀ i' : Nat, zcov v l g n id i' → l i' ≤ l i ∧ (i' < i → l i' < l i)
/-- .. of the first k -/
def zfndk (v l g : Nat → Int) (n id k b bl : Int) : Prop := (b = -1 ∧ bl = -1 ∧ ∀ i : Nat, (i : Int) < k → ¬ zcov v l g n id i) ∨ ∃ i : Nat, b = (i : Int) ∧ bl = l i ∧ (i : Int) < k ∧ zcov v l g n id i ∧ ∀ i' : Nat, (i' : Int) < k → zcov v l g n id i' → l i' ≤ l i ∧ (i' < i → l i' < l i)
theorem zfnd_0 (v l g : Nat → Int) (n id : Int) : zfndk v l g n id 0 (-1) (-1) := Or.inl ⟨rfl, rfl, fun i h => absurd h (by omega)⟩
theorem zfnd_skip {v l g : Nat → Int} {n id k b bl : Int} (h : zfndk v l g n id k b bl) (hk : 0 ≤ k) (hl : ∀ i, 0 ≤ l i ∨ ¬ (i : Int) < n) (hs : zcov v l g n id k.toNat → l k.toNat ≤ bl) : zfndk v l g n id (k + 1) b bl := by
  rcases h with ⟨h1, h2, h3⟩ | ⟨i, h1, h2, h3, h4, h5⟩
  · refine Or.inl ⟨h1, h2, fun i hi => ?_⟩
    by_cases q : (i : Int) < k
    · exact h3 i q
    · have e : i = k.toNat := by omega
      subst e
      intro hc
      have := hs hc
      rcases hl k.toNat with z | z
      · omega
      · exact z hc.1
  · refine Or.inr ⟨i, h1, h2, by omega, h4, fun i' hi' hc => ?_⟩
    by_cases q : (i' : Int) < k
    · exact h5 i' q hc
    · have e : i' = k.toNat := by omega
      subst e
      have := hs hc
      exact ⟨by omega, fun z => by omega⟩
theorem zfnd_take {v l g : Nat → Int} {n id k b bl : Int} (h : zfndk v l g n id k b bl) (hk : 0 ≤ k) (hc : zcov v l g n id k.toNat) (hs : bl < l k.toNat) : zfndk v l g n id (k + 1) k (l k.toNat) := by
  refine Or.inr ⟨k.toNat, by omega, rfl, by omega, hc, fun i' hi' hc' => ?_⟩
  by_cases q : i' = k.toNat
  · subst q
    exact ⟨Int.le_refl _, fun z => absurd z (by omega)⟩
  · rcases h with ⟨h1, h2, h3⟩ | ⟨i, h1, h2, h3, h4, h5⟩
    · exact absurd hc' (h3 i' (by omega))
    · have := h5 i' (by omega) hc'
      exact ⟨by omega, fun _ => by omega⟩
theorem zfnd_end {v l g : Nat → Int} {n id k b bl : Int} (h : zfndk v l g n id k b bl) (hk : n ≤ k) : zfnd v l g n id b := by
  rcases h with ⟨h1, h2, h3⟩ | ⟨i, h1, h2, h3, h4, h5⟩
  · exact Or.inl ⟨h1, fun i hc => h3 i (by have := hc.1; omega) hc⟩
  · exact Or.inr ⟨i, h1, h4, fun i' hc => h5 i' (by have := hc.1; omega) hc⟩
theorem zfnd_rg {v l g : Nat → Int} {n id x : Int} (h : zfnd v l g n id x) : -1 ≤ x ∧ (x < n ∨ x = -1) := by
  rcases h with ⟨h1, -⟩ | ⟨i, h1, h2, -⟩
  · omega
  · have := h2.1
    omega
def zcnt (g : Nat → Int) : Nat → Int
  | 0 => 0
  | k + 1 => zcnt g k + (if g k = 0 then 1 else 0)
theorem zcnt_rg (g : Nat → Int) (k : Nat) : 0 ≤ zcnt g k ∧ zcnt g k ≤ k := by
  induction k with
  | zero => exact ⟨Int.le_refl _, Int.le_refl _⟩
  | succ k ih =>
    unfold zcnt
    split <;> omega
theorem zcnt_s {g : Nat → Int} {k x : Int} (hk : 0 ≤ k) (hx : x = g k.toNat) : zcnt g (k + 1).toNat = zcnt g k.toNat + (if x = 0 then 1 else 0) := by
  rw [show (k + 1).toNat = k.toNat + 1 by omega, hx]
  rfl
/-- whether one that is longer than own meets the first L bits of id -/
def zhid (v l g : Nat → Int) (n id L own : Int) : Prop := ∃ i : Nat, (i : Int) < n ∧ g i = 0 ∧ own < l i ∧ zmeet (v i) (l i) id L
/-- the length of an answer's prefix -/
def znar (v l g : Nat → Int) (n id own x : Int) : Prop := max own 0 ≤ x ∧ x ≤ 16 ∧ (∀ L : Int, max own 0 ≤ L → L < x → zhid v l g n id L own) ∧ (x < 16 → ¬ zhid v l g n id x own)
def zown (l : Nat → Int) (m : Int) : Int := if m = -1 then -1 else l m.toNat
/-- the class's own rows -/
def zmv (M : zMem) (i : Nat) : Int := zV M 4 i 0
def zml (M : zMem) (i : Nat) : Int := zV M 4 i 1
def zmg (M : zMem) (i : Nat) : Int := zV M 3 i 3
def zmn (M : zMem) : Int := zV M 1 0 1
def zdv (M : zMem) (i : Nat) : Int := zV M 14 i 0
def zdl (M : zMem) (i : Nat) : Int := zV M 14 i 1
def zdn (M : zMem) : Int := zV M 9 0 4
def zdt (M : zMem) (i : Nat) : Int := zV M 13 0 i
def z0 (_ : Nat) : Int := 0
def zsv (t : Nat → Int) (y : Int) : Int := if y = -1 then 0 else t y.toNat
/-- the mappings' and the delegations' rows are prefixes -/
def zwm (M : zMem) : Prop := (0 ≤ zV M 1 0 1 ∧ zV M 1 0 1 ≤ 24) ∧ ∀ i : Nat, i < 24 → zpfx (zV M 4 i 0) (zV M 4 i 1)
def zwd (M : zMem) : Prop := (0 ≤ zV M 9 0 4 ∧ zV M 9 0 4 ≤ 12) ∧ (∀ i : Nat, i < 12 → zpfx (zV M 14 i 0) (zV M 14 i 1)) ∧ ∀ i : Nat, i < 12 → 0 ≤ zV M 13 0 i ∧ zV M 13 0 i < 4
theorem zwm_l {M : zMem} (h : zwm M) (i : Nat) : 0 ≤ zml M i ∨ ¬ (i : Int) < zmn M := by
  by_cases q : i < 24
  · exact Or.inl (h.2 i q).2.2.1
  · exact Or.inr (by have := h.1.2; show ¬ (i : Int) < zV M 1 0 1; omega)
theorem zwd_l {M : zMem} (h : zwd M) (i : Nat) : 0 ≤ zdl M i ∨ ¬ (i : Int) < zdn M := by
  by_cases q : i < 12
  · exact Or.inl (h.2.1 i q).2.2.1
  · exact Or.inr (by have := h.1.2; show ¬ (i : Int) < zV M 9 0 4; omega)
end
section
set_option maxHeartbeats 4000000 in
set_option maxRecDepth 100000 in
theorem c_X4_add (l : Launch) (G : zG) (M : zMem) (hn : 0 ≤ zV M 1 0 1 ∧ zV M 1 0 1 < 24) (v b : Int) : Met l yX4_add [.code yX4_add cX4_add 4 (some .int)] (zR 1 0 0) (zPc G M [.ref (zad G 1 0), .int (zI v), .int (zI b)]) (zQi G (fun x M' => x = zV M 1 0 1 ∧ M' = zup (zup (zup M 4 (zV M 1 0 1).toNat 0 (zI v)) 4 (zV M 1 0 1).toNat 1 (zI b)) 1 0 1 (zI (zV M 1 0 1 + 1)))) 0 0 (zA G) := by
  refine z_met [(0, .ref (zad G 1 0)), (1, .int (zI v)), (2, .int (zI b))] (by decide) (Nat.le_of_ble_eq_true rfl) rfl ?_
  intro p e s m below meth c C
  have C : zC p s m ([.ref (zad G 1 0), .int (zI v), .int (zI b)] : List Value).toArray meth c G RX4 cX4_add 4 (some .int) := C
  refine z_aload_n C 0 dX4_add_0 rfl 0 rfl ?_
  refine z_getI C 1 zcl4 (show 0 < 1 by omega) (zc1 ..) 1 (by decide) rfl wf_4_17 dX4_add_1 (fun zq1 ezq1 hzq1 => ?_)
  refine z_istore_n (lv' := [(3, .int (zI zq1)), (0, .ref (zad G 1 0)), (1, .int (zI v)), (2, .int (zI b))]) C 4 dX4_add_4 rfl (by decide) rfl ?_
  refine z_aload_n C 5 dX4_add_5 rfl 1 rfl ?_
  refine z_get C 6 zcl4 (show 0 < 1 by omega) (zc1 ..) 0 (by decide) rfl wf_4_11 dX4_add_6 ?_
  refine z_iload_n C 9 dX4_add_9 rfl 0 rfl ?_
  refine z_aald C 10 (show 0 < 1 by omega) (zc2 ..) rfl hzq1 (by omega) (show zq1 < ((24 : Nat) : Int) by omega) dX4_add_10 ?_
  refine z_get C 11 zcl2 (show zq1.toNat < 24 by omega) (zc3 ..) 0 (by decide) rfl wf_4_22 dX4_add_11 ?_
  refine z_iload_n C 14 dX4_add_14 rfl 2 rfl ?_
  refine z_iload_n C 15 dX4_add_15 rfl 3 rfl ?_
  refine z_callVv C 16 (As := [.int (zI v), .int (zI b)]) (rest := []) (c_X3_set_4 l G M (zq1).toNat (by omega) v b) zcl3 (show zq1.toNat < 24 by omega) (zc4 ..) (zW_of 2 C wm_4_26 wc_X3_set wini_3 wi_X3_set wse_X3_set ⟨by decide, by decide, by decide⟩ ⟨by decide, by decide⟩) rfl (by decide) ⟨by decide, by decide⟩ dX4_add_16 rfl (fun Mz3 hPz2 => ?_)
  refine z_aload_n C 19 dX4_add_19 rfl 1 rfl ?_
  refine z_dup C 20 dX4_add_20 rfl ?_
  refine z_getI C 21 zcl4 (show 0 < 1 by omega) (zc1 ..) 1 (by decide) rfl wf_4_17 dX4_add_21 (fun zq4 ezq4 hzq4 => ?_)
  rw [hPz2, zV_ne (by decide), zV_ne (by decide)] at ezq4
  refine z_iconst C 24 dX4_add_24 ?_
  refine z_iadd C 25 dX4_add_25 ?_
  refine z_putI C 26 zcl4 (show 0 < 1 by omega) (zc1 ..) 1 (by decide) wf_4_17 rfl rfl rfl (Nat.le_of_ble_eq_true rfl) (zc1 ..) dX4_add_26 ?_
  refine z_iload_n C 29 dX4_add_29 rfl 0 rfl ?_
  refine z_iret C 30 dX4_add_30 (by decide) (by decide) hzq1 ?_
  refine ⟨ezq1, ?_⟩
  rw [hPz2]
  obtain rfl := ezq1
  obtain rfl := ezq4
  rfl
set_option maxHeartbeats 4000000 in
set_option maxRecDepth 100000 in
theorem c_X4_has (l : Launch) (G : zG) (M : zMem) (hw : zwm M) (v b : Int) (hv : zrg v) (hb : zrg b) : Met l yX4_has [.code yX4_has cX4_has 4 (some .boolean)] (zR 1 0 0) (zPc G M [.ref (zad G 1 0), .int (zI v), .int (zI b)]) (zQi G (fun x M' => M = M' ∧ zb x (∃ i : Nat, (i : Int) < zmn M ∧ zmg M i = 0 ∧ zmv M i = v ∧ zml M i = b))) 0 0 (zA G) := by
  refine z_met [(0, .ref (zad G 1 0)), (1, .int (zI v)), (2, .int (zI b))] (by decide) (Nat.le_of_ble_eq_true rfl) rfl ?_
  intro p e s m below meth c C
  have C : zC p s m ([.ref (zad G 1 0), .int (zI v), .int (zI b)] : List Value).toArray meth c G RX4 cX4_has 4 (some .boolean) := C
  have hw9z := hw
  obtain ⟨⟨n0, n1⟩, hp⟩ := hw9z
  refine z_iconst C 0 dX4_has_0 ?_
  refine z_istore_n (lv' := [(3, .int (zI 0)), (0, .ref (zad G 1 0)), (1, .int (zI v)), (2, .int (zI b))]) C 1 dX4_has_1 rfl (by decide) rfl ?_
  have L2_1 : ∀ (kz1 : Nat) (k : Int), (0 ≤ k ∧ k ≤ zV M 1 0 1) → (∀ i : Nat, (i : Int) < k → ¬ (zmg M i = 0 ∧ zmv M i = v ∧ zml M i = b)) → (zV M 1 0 1 - k) < (kz1 : Int) → zZ p l e (zR 1 0 0) s m ([.ref (zad G 1 0), .int (zI v), .int (zI b)] : List Value).toArray below meth c G 4 (MQ below (zQi G (fun x M' => M = M' ∧ zb x (∃ i : Nat, (i : Int) < zmn M ∧ zmg M i = 0 ∧ zmv M i = v ∧ zml M i = b))) ([.ref (zad G 1 0), .int (zI v), .int (zI b)] : List Value).toArray s 0 0 (zA G)) M 0 0 2 [(0, .ref (zad G 1 0)), (1, .int (zI v)), (2, .int (zI b)), (3, .int (zI k))] [] := by
    intro kz1
    induction kz1 with
    | zero =>
      intro k g0 g1 hk
      exact absurd hk (by omega)
    | succ kz1 ihz2 =>
      intro k g0 g1 hk
      refine z_iload_n C 2 dX4_has_2 rfl 3 rfl ?_
      refine z_aload_n C 3 dX4_has_3 rfl 0 rfl ?_
      refine z_getI C 4 zcl4 (show 0 < 1 by omega) (zc1 ..) 1 (by decide) rfl wf_4_17 dX4_has_4 (fun zq3 ezq3 hzq3 => ?_)
      refine z_icmp_ge C 7 47 dX4_has_7 (by decide) (by first | assumption | omega) hzq3 (fun c7_21 => ?_) (fun c7_21 => ?_)
      · refine z_iconst C 47 dX4_has_47 ?_
        refine z_zret C 48 dX4_has_48 (by decide) (by decide) (by decide) ?_
        exact ⟨rfl, zb.zero (fun w => by obtain ⟨i, w1, w2⟩ := w; exact g1 i (by have w3 : (i : Int) < zV M 1 0 1 := w1; omega) w2)⟩
      refine z_aload_n C 10 dX4_has_10 rfl 0 rfl ?_
      refine z_get C 11 zcl4 (show 0 < 1 by omega) (zc1 ..) 0 (by decide) rfl wf_4_11 dX4_has_11 ?_
      refine z_iload_n C 14 dX4_has_14 rfl 3 rfl ?_
      refine z_aald C 15 (show 0 < 1 by omega) (zc2 ..) rfl (by first | assumption | omega) (by omega) (show k < ((24 : Nat) : Int) by omega) dX4_has_15 ?_
      refine z_getI C 16 zcl2 (show k.toNat < 24 by omega) (zc3 ..) 3 (by decide) rfl wf_4_32 dX4_has_16 (fun zq4 ezq4 hzq4 => ?_)
      refine z_if_ne C 19 41 dX4_has_19 (by decide) hzq4 (fun c19_30 => ?_) (fun c19_30 => ?_)
      · have hS : ¬ (zmg M k.toNat = 0 ∧ zmv M k.toNat = v ∧ zml M k.toNat = b) := fun w => by have w1 : zV M 3 k.toNat 3 = 0 := w.1; omega
        refine z_iinc (lv' := [(3, .int (zI (k + 1))), (0, .ref (zad G 1 0)), (1, .int (zI v)), (2, .int (zI b))]) C 41 dX4_has_41 3 rfl (by decide) rfl ?_
        refine z_goto C 44 2 dX4_has_44 (by decide) ?_
        refine z_sub (lv' := [(0, .ref (zad G 1 0)), (1, .int (zI v)), (2, .int (zI b)), (3, .int (zI (k + 1)))]) [1, 2, 3, 0] rfl ?_
        exact ihz2 (k + 1) (by omega) (by intro i h; exact (Int.lt_or_le (i : Int) k).elim (g1 i) (fun q => by rw [show i = k.toNat by omega]; exact hS)) (by omega)
      refine z_aload_n C 22 dX4_has_22 rfl 0 rfl ?_
      refine z_get C 23 zcl4 (show 0 < 1 by omega) (zc1 ..) 0 (by decide) rfl wf_4_11 dX4_has_23 ?_
      refine z_iload_n C 26 dX4_has_26 rfl 3 rfl ?_
      refine z_aald C 27 (show 0 < 1 by omega) (zc2 ..) rfl (by first | assumption | omega) (by omega) (show k < ((24 : Nat) : Int) by omega) dX4_has_27 ?_
      refine z_get C 28 zcl2 (show k.toNat < 24 by omega) (zc3 ..) 0 (by decide) rfl wf_4_22 dX4_has_28 ?_
      refine z_iload_n C 31 dX4_has_31 rfl 1 rfl ?_
      refine z_iload_n C 32 dX4_has_32 rfl 2 rfl ?_
      refine z_callVi C 33 (As := [.int (zI v), .int (zI b)]) (rest := []) (c_X3_is_4 l G M k.toNat (by omega) v b hv hb) zcl3 (show k.toNat < 24 by omega) (zc4 ..) (zW_of 2 C wm_4_36 wc_X3_is wini_3 wi_X3_is wse_X3_is ⟨by decide, by decide, by decide⟩ ⟨by decide, by decide⟩) rfl (by decide) ⟨by decide, by decide⟩ dX4_has_33 rfl (fun zq5 Mz6 hzq5 hPz5 => ?_)
      obtain ⟨rfl, hPz5⟩ := hPz5
      refine z_if_eq C 36 41 dX4_has_36 (by decide) hzq5 (fun c36_45 => ?_) (fun c36_45 => ?_)
      · have hS : ¬ (zmg M k.toNat = 0 ∧ zmv M k.toNat = v ∧ zml M k.toNat = b) := fun w => (hPz5.f c36_45) w.2
        refine z_iinc (lv' := [(3, .int (zI (k + 1))), (0, .ref (zad G 1 0)), (1, .int (zI v)), (2, .int (zI b))]) C 41 dX4_has_41 3 rfl (by decide) rfl ?_
        refine z_goto C 44 2 dX4_has_44 (by decide) ?_
        refine z_sub (lv' := [(0, .ref (zad G 1 0)), (1, .int (zI v)), (2, .int (zI b)), (3, .int (zI (k + 1)))]) [1, 2, 3, 0] rfl ?_
        exact ihz2 (k + 1) (by omega) (by intro i h; exact (Int.lt_or_le (i : Int) k).elim (g1 i) (fun q => by rw [show i = k.toNat by omega]; exact hS)) (by omega)
      refine z_iconst C 39 dX4_has_39 ?_
      refine z_zret C 40 dX4_has_40 (by decide) (by decide) (by decide) ?_
      exact ⟨rfl, zb.one ⟨k.toNat, by show _ < zV M 1 0 1; omega, by show zV M 3 k.toNat 3 = 0; omega, (hPz5.t (by assumption))⟩⟩
  refine z_sub (lv' := [(0, .ref (zad G 1 0)), (1, .int (zI v)), (2, .int (zI b)), (3, .int (zI 0))]) [1, 2, 3, 0] rfl ?_
  exact L2_1 ((zV M 1 0 1 - 0).toNat + 1) 0 (by omega) (by intro i h; omega) (by omega)
set_option maxHeartbeats 4000000 in
set_option maxRecDepth 100000 in
theorem c_X4_countRegistered (l : Launch) (G : zG) (M : zMem) (hn : 0 ≤ zV M 1 0 1 ∧ zV M 1 0 1 ≤ 24) : Met l yX4_countRegistered [.code yX4_countRegistered cX4_countRegistered 3 (some .int)] (zR 0 0 0) (zPc G M [.ref (zad G 1 0)]) (zQi G (fun x M' => M = M' ∧ x = zcnt (zmg M) (zV M 1 0 1).toNat)) 0 0 (zA G) := by
  refine z_met [(0, .ref (zad G 1 0))] (by decide) (Nat.le_of_ble_eq_true rfl) rfl ?_
  intro p e s m below meth c C
  have C : zC p s m ([.ref (zad G 1 0)] : List Value).toArray meth c G RX4 cX4_countRegistered 3 (some .int) := C
  refine z_iconst C 0 dX4_countRegistered_0 ?_
  refine z_istore_n (lv' := [(1, .int (zI 0)), (0, .ref (zad G 1 0))]) C 1 dX4_countRegistered_1 rfl (by decide) rfl ?_
  refine z_iconst C 2 dX4_countRegistered_2 ?_
  refine z_istore_n (lv' := [(2, .int (zI 0)), (1, .int (zI 0)), (0, .ref (zad G 1 0))]) C 3 dX4_countRegistered_3 rfl (by decide) rfl ?_
  have L4_1 : ∀ (kz1 : Nat) (r : Int) (k : Int), (0 ≤ k ∧ k ≤ zV M 1 0 1) → (r = zcnt (zmg M) k.toNat) → (zV M 1 0 1 - k) < (kz1 : Int) → zZ p l e (zR 0 0 0) s m ([.ref (zad G 1 0)] : List Value).toArray below meth c G 3 (MQ below (zQi G (fun x M' => M = M' ∧ x = zcnt (zmg M) (zV M 1 0 1).toNat)) ([.ref (zad G 1 0)] : List Value).toArray s 0 0 (zA G)) M 0 0 4 [(0, .ref (zad G 1 0)), (1, .int (zI r)), (2, .int (zI k))] [] := by
    intro kz1
    induction kz1 with
    | zero =>
      intro r k g0 g1 hk
      exact absurd hk (by omega)
    | succ kz1 ihz2 =>
      intro r k g0 g1 hk
      have hr9 := zcnt_rg (zmg M) k.toNat
      refine z_iload_n C 4 dX4_countRegistered_4 rfl 2 rfl ?_
      refine z_aload_n C 5 dX4_countRegistered_5 rfl 0 rfl ?_
      refine z_getI C 6 zcl4 (show 0 < 1 by omega) (zc1 ..) 1 (by decide) rfl wf_4_17 dX4_countRegistered_6 (fun zq3 ezq3 hzq3 => ?_)
      refine z_icmp_ge C 9 33 dX4_countRegistered_9 (by decide) (by first | assumption | omega) hzq3 (fun c9_22 => ?_) (fun c9_22 => ?_)
      · refine z_iload_n C 33 dX4_countRegistered_33 rfl 1 rfl ?_
        refine z_iret C 34 dX4_countRegistered_34 (by decide) (by decide) (by first | assumption | omega) ?_
        exact ⟨rfl, by rw [g1, show k = zV M 1 0 1 by omega]⟩
      refine z_aload_n C 12 dX4_countRegistered_12 rfl 0 rfl ?_
      refine z_get C 13 zcl4 (show 0 < 1 by omega) (zc1 ..) 0 (by decide) rfl wf_4_11 dX4_countRegistered_13 ?_
      refine z_iload_n C 16 dX4_countRegistered_16 rfl 2 rfl ?_
      refine z_aald C 17 (show 0 < 1 by omega) (zc2 ..) rfl (by first | assumption | omega) (by omega) (show k < ((24 : Nat) : Int) by omega) dX4_countRegistered_17 ?_
      refine z_getI C 18 zcl2 (show k.toNat < 24 by omega) (zc3 ..) 3 (by decide) rfl wf_4_32 dX4_countRegistered_18 (fun zq4 ezq4 hzq4 => ?_)
      refine z_if_ne C 21 27 dX4_countRegistered_21 (by decide) hzq4 (fun c21_31 => ?_) (fun c21_31 => ?_)
      · refine z_iinc (lv' := [(2, .int (zI (k + 1))), (0, .ref (zad G 1 0)), (1, .int (zI r))]) C 27 dX4_countRegistered_27 2 rfl (by decide) rfl ?_
        refine z_goto C 30 4 dX4_countRegistered_30 (by decide) ?_
        refine z_sub (lv' := [(0, .ref (zad G 1 0)), (1, .int (zI r)), (2, .int (zI (k + 1)))]) [1, 2, 0] rfl ?_
        exact ihz2 r (k + 1) (by omega) (by rw [zcnt_s (x := zq4) (by omega) ezq4]; first | (rw [if_pos (by omega)]; omega) | (rw [if_neg (by omega)]; omega)) (by omega)
      refine z_iinc (lv' := [(1, .int (zI (r + 1))), (0, .ref (zad G 1 0)), (2, .int (zI k))]) C 24 dX4_countRegistered_24 1 rfl (by decide) rfl ?_
      refine z_iinc (lv' := [(2, .int (zI (k + 1))), (1, .int (zI (r + 1))), (0, .ref (zad G 1 0))]) C 27 dX4_countRegistered_27 2 rfl (by decide) rfl ?_
      refine z_goto C 30 4 dX4_countRegistered_30 (by decide) ?_
      refine z_sub (lv' := [(0, .ref (zad G 1 0)), (1, .int (zI (r + 1))), (2, .int (zI (k + 1)))]) [2, 1, 0] rfl ?_
      exact ihz2 (r + 1) (k + 1) (by omega) (by rw [zcnt_s (x := zq4) (by omega) ezq4]; first | (rw [if_pos (by omega)]; omega) | (rw [if_neg (by omega)]; omega)) (by omega)
  refine z_sub (lv' := [(0, .ref (zad G 1 0)), (1, .int (zI 0)), (2, .int (zI 0))]) [2, 1, 0] rfl ?_
  exact L4_1 ((zV M 1 0 1 - 0).toNat + 1) 0 0 (by omega) (by rfl) (by omega)
set_option maxHeartbeats 4000000 in
set_option maxRecDepth 100000 in
theorem c_X4_find (l : Launch) (G : zG) (M : zMem) (hw : zwm M) (id : Int) (hid : 0 ≤ id ∧ id < 65536) : Met l yX4_find [.code yX4_find cX4_find 6 (some .int)] (zR 3 0 0) (zPc G M [.ref (zad G 1 0), .int (zI id)]) (zQi G (fun x M' => M = M' ∧ zfnd (zmv M) (zml M) (zmg M) (zmn M) id x)) 0 0 (zA G) := by
  refine z_met [(0, .ref (zad G 1 0)), (1, .int (zI id))] (by decide) (Nat.le_of_ble_eq_true rfl) rfl ?_
  intro p e s m below meth c C
  have C : zC p s m ([.ref (zad G 1 0), .int (zI id)] : List Value).toArray meth c G RX4 cX4_find 6 (some .int) := C
  have hw9z := hw
  obtain ⟨⟨n0, n1⟩, hp⟩ := hw9z
  refine z_iconst C 0 dX4_find_0 ?_
  refine z_istore_n (lv' := [(2, .int (zI (-1))), (0, .ref (zad G 1 0)), (1, .int (zI id))]) C 1 dX4_find_1 rfl (by decide) rfl ?_
  refine z_iconst C 2 dX4_find_2 ?_
  refine z_istore_n (lv' := [(3, .int (zI (-1))), (2, .int (zI (-1))), (0, .ref (zad G 1 0)), (1, .int (zI id))]) C 3 dX4_find_3 rfl (by decide) rfl ?_
  refine z_iconst C 4 dX4_find_4 ?_
  refine z_istore (lv' := [(4, .int (zI 0)), (3, .int (zI (-1))), (2, .int (zI (-1))), (0, .ref (zad G 1 0)), (1, .int (zI id))]) C 5 dX4_find_5 (by decide) rfl ?_
  have L7_1 : ∀ (kz1 : Nat) (b : Int) (bl : Int) (k : Int), (0 ≤ k ∧ k ≤ zV M 1 0 1) → (zfndk (zmv M) (zml M) (zmg M) (zmn M) id k b bl) → (-1 ≤ b ∧ b < 24 ∧ -1 ≤ bl ∧ bl ≤ 16) → (zV M 1 0 1 - k) < (kz1 : Int) → zZ p l e (zR 3 0 0) s m ([.ref (zad G 1 0), .int (zI id)] : List Value).toArray below meth c G 6 (MQ below (zQi G (fun x M' => M = M' ∧ zfnd (zmv M) (zml M) (zmg M) (zmn M) id x)) ([.ref (zad G 1 0), .int (zI id)] : List Value).toArray s 0 0 (zA G)) M 0 0 7 [(0, .ref (zad G 1 0)), (1, .int (zI id)), (2, .int (zI b)), (3, .int (zI bl)), (4, .int (zI k))] [] := by
    intro kz1
    induction kz1 with
    | zero =>
      intro b bl k g0 g1 g2 hk
      exact absurd hk (by omega)
    | succ kz1 ihz2 =>
      intro b bl k g0 g1 g2 hk
      have hpk := hp k.toNat
      refine z_iload C 7 dX4_find_7 4 rfl ?_
      refine z_aload_n C 9 dX4_find_9 rfl 0 rfl ?_
      refine z_getI C 10 zcl4 (show 0 < 1 by omega) (zc1 ..) 1 (by decide) rfl wf_4_17 dX4_find_10 (fun zq3 ezq3 hzq3 => ?_)
      refine z_icmp_ge C 13 75 dX4_find_13 (by decide) (by first | assumption | omega) hzq3 (fun c13_26 => ?_) (fun c13_26 => ?_)
      · refine z_iload_n C 75 dX4_find_75 rfl 2 rfl ?_
        refine z_iret C 76 dX4_find_76 (by decide) (by decide) (by first | assumption | omega) ?_
        exact ⟨rfl, zfnd_end g1 (by show zV M 1 0 1 ≤ k; omega)⟩
      refine z_aload_n C 16 dX4_find_16 rfl 0 rfl ?_
      refine z_get C 17 zcl4 (show 0 < 1 by omega) (zc1 ..) 0 (by decide) rfl wf_4_11 dX4_find_17 ?_
      refine z_iload C 20 dX4_find_20 4 rfl ?_
      refine z_aald C 22 (show 0 < 1 by omega) (zc2 ..) rfl (by first | assumption | omega) (by omega) (show k < ((24 : Nat) : Int) by omega) dX4_find_22 ?_
      refine z_astore (lv' := [(5, .ref (zad G 3 k.toNat)), (0, .ref (zad G 1 0)), (1, .int (zI id)), (2, .int (zI b)), (3, .int (zI bl)), (4, .int (zI k))]) C 23 dX4_find_23 (by decide) rfl ?_
      refine z_aload C 25 dX4_find_25 0 rfl ?_
      refine z_getI C 27 zcl2 (show k.toNat < 24 by omega) (zc3 ..) 3 (by decide) rfl wf_4_32 dX4_find_27 (fun zq4 ezq4 hzq4 => ?_)
      refine z_if_ne C 30 69 dX4_find_30 (by decide) hzq4 (fun c30_37 => ?_) (fun c30_37 => ?_)
      · have hS : zcov (zmv M) (zml M) (zmg M) (zmn M) id k.toNat → zml M k.toNat ≤ bl := fun w => absurd w.2.1 (by show ¬ zV M 3 k.toNat 3 = 0; omega)
        refine z_iinc (lv' := [(4, .int (zI (k + 1))), (5, .ref (zad G 3 k.toNat)), (0, .ref (zad G 1 0)), (1, .int (zI id)), (2, .int (zI b)), (3, .int (zI bl))]) C 69 dX4_find_69 5 rfl (by decide) rfl ?_
        refine z_goto C 72 7 dX4_find_72 (by decide) ?_
        refine z_sub (lv' := [(0, .ref (zad G 1 0)), (1, .int (zI id)), (2, .int (zI b)), (3, .int (zI bl)), (4, .int (zI (k + 1)))]) [2, 3, 4, 5, 0] rfl ?_
        exact ihz2 b bl (k + 1) (by omega) (by exact zfnd_skip g1 (by omega) (zwm_l hw) hS) (by exact g2) (by omega)
      refine z_aload C 33 dX4_find_33 0 rfl ?_
      refine z_get C 35 zcl2 (show k.toNat < 24 by omega) (zc3 ..) 0 (by decide) rfl wf_4_22 dX4_find_35 ?_
      refine z_getI C 38 zcl3 (show k.toNat < 24 by omega) (zc4 ..) 1 (by decide) rfl wf_4_40 dX4_find_38 (fun zq5 ezq5 hzq5 => ?_)
      refine z_iload_n C 41 dX4_find_41 rfl 4 rfl ?_
      refine z_icmp_le C 42 69 dX4_find_42 (by decide) hzq5 (by first | assumption | omega) (fun c42_47 => ?_) (fun c42_47 => ?_)
      · have hS : zcov (zmv M) (zml M) (zmg M) (zmn M) id k.toNat → zml M k.toNat ≤ bl := fun w => by show zV M 4 k.toNat 1 ≤ bl; omega
        refine z_iinc (lv' := [(4, .int (zI (k + 1))), (5, .ref (zad G 3 k.toNat)), (0, .ref (zad G 1 0)), (1, .int (zI id)), (2, .int (zI b)), (3, .int (zI bl))]) C 69 dX4_find_69 5 rfl (by decide) rfl ?_
        refine z_goto C 72 7 dX4_find_72 (by decide) ?_
        refine z_sub (lv' := [(0, .ref (zad G 1 0)), (1, .int (zI id)), (2, .int (zI b)), (3, .int (zI bl)), (4, .int (zI (k + 1)))]) [2, 3, 4, 5, 0] rfl ?_
        exact ihz2 b bl (k + 1) (by omega) (by exact zfnd_skip g1 (by omega) (zwm_l hw) hS) (by exact g2) (by omega)
      refine z_aload C 45 dX4_find_45 0 rfl ?_
      refine z_get C 47 zcl2 (show k.toNat < 24 by omega) (zc3 ..) 0 (by decide) rfl wf_4_22 dX4_find_47 ?_
      refine z_iload_n C 50 dX4_find_50 rfl 2 rfl ?_
      refine z_callVi C 51 (As := [.int (zI id)]) (rest := []) (c_X3_covers_4 l G M k.toNat (by omega) (hp _ (by omega)) id hid) zcl3 (show k.toNat < 24 by omega) (zc4 ..) (zW_of 1 C wm_4_43 wc_X3_covers wini_3 wi_X3_covers wse_X3_covers ⟨by decide, by decide, by decide⟩ ⟨by decide, by decide⟩) rfl (by decide) ⟨by decide, by decide⟩ dX4_find_51 rfl (fun zq6 Mz7 hzq6 hPz6 => ?_)
      obtain ⟨rfl, hPz6⟩ := hPz6
      refine z_if_eq C 54 69 dX4_find_54 (by decide) hzq6 (fun c54_58 => ?_) (fun c54_58 => ?_)
      · have hS : zcov (zmv M) (zml M) (zmg M) (zmn M) id k.toNat → zml M k.toNat ≤ bl := fun w => absurd w.2.2 (hPz6.f c54_58)
        refine z_iinc (lv' := [(4, .int (zI (k + 1))), (5, .ref (zad G 3 k.toNat)), (0, .ref (zad G 1 0)), (1, .int (zI id)), (2, .int (zI b)), (3, .int (zI bl))]) C 69 dX4_find_69 5 rfl (by decide) rfl ?_
        refine z_goto C 72 7 dX4_find_72 (by decide) ?_
        refine z_sub (lv' := [(0, .ref (zad G 1 0)), (1, .int (zI id)), (2, .int (zI b)), (3, .int (zI bl)), (4, .int (zI (k + 1)))]) [2, 3, 4, 5, 0] rfl ?_
        exact ihz2 b bl (k + 1) (by omega) (by exact zfnd_skip g1 (by omega) (zwm_l hw) hS) (by exact g2) (by omega)
      have hT : zcov (zmv M) (zml M) (zmg M) (zmn M) id k.toNat := ⟨by show _ < zV M 1 0 1; omega, by show zV M 3 k.toNat 3 = 0; omega, hPz6.t c54_58⟩
      refine z_iload C 57 dX4_find_57 5 rfl ?_
      refine z_istore_n (lv' := [(2, .int (zI k)), (5, .ref (zad G 3 k.toNat)), (0, .ref (zad G 1 0)), (1, .int (zI id)), (3, .int (zI bl)), (4, .int (zI k))]) C 59 dX4_find_59 rfl (by decide) rfl ?_
      refine z_aload C 60 dX4_find_60 1 rfl ?_
      refine z_get C 62 zcl2 (show k.toNat < 24 by omega) (zc3 ..) 0 (by decide) rfl wf_4_22 dX4_find_62 ?_
      refine z_getI C 65 zcl3 (show k.toNat < 24 by omega) (zc4 ..) 1 (by decide) rfl wf_4_40 dX4_find_65 (fun zq8 ezq8 hzq8 => ?_)
      refine z_istore_n (lv' := [(3, .int (zI zq8)), (2, .int (zI k)), (5, .ref (zad G 3 k.toNat)), (0, .ref (zad G 1 0)), (1, .int (zI id)), (4, .int (zI k))]) C 68 dX4_find_68 rfl (by decide) rfl ?_
      refine z_iinc (lv' := [(4, .int (zI (k + 1))), (3, .int (zI zq8)), (2, .int (zI k)), (5, .ref (zad G 3 k.toNat)), (0, .ref (zad G 1 0)), (1, .int (zI id))]) C 69 dX4_find_69 5 rfl (by decide) rfl ?_
      refine z_goto C 72 7 dX4_find_72 (by decide) ?_
      refine z_sub (lv' := [(0, .ref (zad G 1 0)), (1, .int (zI id)), (2, .int (zI k)), (3, .int (zI zq8)), (4, .int (zI (k + 1)))]) [4, 5, 2, 1, 0] rfl ?_
      exact ihz2 k zq8 (k + 1) (by omega) (by rw [ezq8]; exact zfnd_take g1 (by omega) hT (by show bl < zV M 4 k.toNat 1; omega)) (by have hpk9 := hpk (by omega); unfold zpfx at hpk9; omega) (by omega)
  refine z_sub (lv' := [(0, .ref (zad G 1 0)), (1, .int (zI id)), (2, .int (zI (-1))), (3, .int (zI (-1))), (4, .int (zI 0))]) [3, 4, 2, 1, 0] rfl ?_
  exact L7_1 ((zV M 1 0 1 - 0).toNat + 1) (-1) (-1) 0 (by omega) (by exact zfnd_0 _ _ _ _ _) (by omega) (by omega)
set_option maxHeartbeats 4000000 in
set_option maxRecDepth 100000 in
theorem c_X4_hidesLonger (l : Launch) (G : zG) (M : zMem) (hw : zwm M) (id L w : Int) (hid : zpfx id L) (hw9 : zrg w) : Met l yX4_hidesLonger [.code yX4_hidesLonger cX4_hidesLonger 6 (some .boolean)] (zR 2 0 0) (zPc G M [.ref (zad G 1 0), .int (zI id), .int (zI L), .int (zI w)]) (zQi G (fun x M' => M = M' ∧ zb x (zhid (zmv M) (zml M) (zmg M) (zmn M) id L w))) 0 0 (zA G) := by
  refine z_met [(0, .ref (zad G 1 0)), (1, .int (zI id)), (2, .int (zI L)), (3, .int (zI w))] (by decide) (Nat.le_of_ble_eq_true rfl) rfl ?_
  intro p e s m below meth c C
  have C : zC p s m ([.ref (zad G 1 0), .int (zI id), .int (zI L), .int (zI w)] : List Value).toArray meth c G RX4 cX4_hidesLonger 6 (some .boolean) := C
  have hw9z := hw
  obtain ⟨⟨n0, n1⟩, hp⟩ := hw9z
  refine z_iconst C 0 dX4_hidesLonger_0 ?_
  refine z_istore (lv' := [(4, .int (zI 0)), (0, .ref (zad G 1 0)), (1, .int (zI id)), (2, .int (zI L)), (3, .int (zI w))]) C 1 dX4_hidesLonger_1 (by decide) rfl ?_
  have L3_1 : ∀ (kz1 : Nat) (k : Int), (0 ≤ k ∧ k ≤ zV M 1 0 1) → (∀ i : Nat, (i : Int) < k → ¬ (zmg M i = 0 ∧ w < zml M i ∧ zmeet (zmv M i) (zml M i) id L)) → (zV M 1 0 1 - k) < (kz1 : Int) → zZ p l e (zR 2 0 0) s m ([.ref (zad G 1 0), .int (zI id), .int (zI L), .int (zI w)] : List Value).toArray below meth c G 6 (MQ below (zQi G (fun x M' => M = M' ∧ zb x (zhid (zmv M) (zml M) (zmg M) (zmn M) id L w))) ([.ref (zad G 1 0), .int (zI id), .int (zI L), .int (zI w)] : List Value).toArray s 0 0 (zA G)) M 0 0 3 [(0, .ref (zad G 1 0)), (1, .int (zI id)), (2, .int (zI L)), (3, .int (zI w)), (4, .int (zI k))] [] := by
    intro kz1
    induction kz1 with
    | zero =>
      intro k g0 g1 hk
      exact absurd hk (by omega)
    | succ kz1 ihz2 =>
      intro k g0 g1 hk
      refine z_iload C 3 dX4_hidesLonger_3 4 rfl ?_
      refine z_aload_n C 5 dX4_hidesLonger_5 rfl 0 rfl ?_
      refine z_getI C 6 zcl4 (show 0 < 1 by omega) (zc1 ..) 1 (by decide) rfl wf_4_17 dX4_hidesLonger_6 (fun zq3 ezq3 hzq3 => ?_)
      refine z_icmp_ge C 9 62 dX4_hidesLonger_9 (by decide) (by first | assumption | omega) hzq3 (fun c9_21 => ?_) (fun c9_21 => ?_)
      · refine z_iconst C 62 dX4_hidesLonger_62 ?_
        refine z_zret C 63 dX4_hidesLonger_63 (by decide) (by decide) (by decide) ?_
        exact ⟨rfl, zb.zero (fun z => by obtain ⟨i, w1, w2⟩ := z; exact g1 i (by have w3 : (i : Int) < zV M 1 0 1 := w1; omega) w2)⟩
      refine z_aload_n C 12 dX4_hidesLonger_12 rfl 0 rfl ?_
      refine z_get C 13 zcl4 (show 0 < 1 by omega) (zc1 ..) 0 (by decide) rfl wf_4_11 dX4_hidesLonger_13 ?_
      refine z_iload C 16 dX4_hidesLonger_16 4 rfl ?_
      refine z_aald C 18 (show 0 < 1 by omega) (zc2 ..) rfl (by first | assumption | omega) (by omega) (show k < ((24 : Nat) : Int) by omega) dX4_hidesLonger_18 ?_
      refine z_astore (lv' := [(5, .ref (zad G 3 k.toNat)), (0, .ref (zad G 1 0)), (1, .int (zI id)), (2, .int (zI L)), (3, .int (zI w)), (4, .int (zI k))]) C 19 dX4_hidesLonger_19 (by decide) rfl ?_
      refine z_aload C 21 dX4_hidesLonger_21 0 rfl ?_
      refine z_getI C 23 zcl2 (show k.toNat < 24 by omega) (zc3 ..) 3 (by decide) rfl wf_4_32 dX4_hidesLonger_23 (fun zq4 ezq4 hzq4 => ?_)
      refine z_if_ne C 26 56 dX4_hidesLonger_26 (by decide) hzq4 (fun c26_32 => ?_) (fun c26_32 => ?_)
      · have hS : ¬ (zmg M k.toNat = 0 ∧ w < zml M k.toNat ∧ zmeet (zmv M k.toNat) (zml M k.toNat) id L) := fun z => by have w1 : zV M 3 k.toNat 3 = 0 := z.1; omega
        refine z_iinc (lv' := [(4, .int (zI (k + 1))), (5, .ref (zad G 3 k.toNat)), (0, .ref (zad G 1 0)), (1, .int (zI id)), (2, .int (zI L)), (3, .int (zI w))]) C 56 dX4_hidesLonger_56 5 rfl (by decide) rfl ?_
        refine z_goto C 59 3 dX4_hidesLonger_59 (by decide) ?_
        refine z_sub (lv' := [(0, .ref (zad G 1 0)), (1, .int (zI id)), (2, .int (zI L)), (3, .int (zI w)), (4, .int (zI (k + 1)))]) [2, 3, 4, 5, 0] rfl ?_
        exact ihz2 (k + 1) (by omega) (by intro i h; exact (Int.lt_or_le (i : Int) k).elim (g1 i) (fun q => by rw [show i = k.toNat by omega]; exact hS)) (by omega)
      refine z_aload C 29 dX4_hidesLonger_29 0 rfl ?_
      refine z_get C 31 zcl2 (show k.toNat < 24 by omega) (zc3 ..) 0 (by decide) rfl wf_4_22 dX4_hidesLonger_31 ?_
      refine z_getI C 34 zcl3 (show k.toNat < 24 by omega) (zc4 ..) 1 (by decide) rfl wf_4_40 dX4_hidesLonger_34 (fun zq5 ezq5 hzq5 => ?_)
      refine z_iload_n C 37 dX4_hidesLonger_37 rfl 4 rfl ?_
      refine z_icmp_le C 38 56 dX4_hidesLonger_38 (by decide) hzq5 (by first | assumption | omega) (fun c38_42 => ?_) (fun c38_42 => ?_)
      · have hS : ¬ (zmg M k.toNat = 0 ∧ w < zml M k.toNat ∧ zmeet (zmv M k.toNat) (zml M k.toNat) id L) := fun z => by have w1 : w < zV M 4 k.toNat 1 := z.2.1; omega
        refine z_iinc (lv' := [(4, .int (zI (k + 1))), (5, .ref (zad G 3 k.toNat)), (0, .ref (zad G 1 0)), (1, .int (zI id)), (2, .int (zI L)), (3, .int (zI w))]) C 56 dX4_hidesLonger_56 5 rfl (by decide) rfl ?_
        refine z_goto C 59 3 dX4_hidesLonger_59 (by decide) ?_
        refine z_sub (lv' := [(0, .ref (zad G 1 0)), (1, .int (zI id)), (2, .int (zI L)), (3, .int (zI w)), (4, .int (zI (k + 1)))]) [2, 3, 4, 5, 0] rfl ?_
        exact ihz2 (k + 1) (by omega) (by intro i h; exact (Int.lt_or_le (i : Int) k).elim (g1 i) (fun q => by rw [show i = k.toNat by omega]; exact hS)) (by omega)
      refine z_aload C 41 dX4_hidesLonger_41 0 rfl ?_
      refine z_get C 43 zcl2 (show k.toNat < 24 by omega) (zc3 ..) 0 (by decide) rfl wf_4_22 dX4_hidesLonger_43 ?_
      refine z_iload_n C 46 dX4_hidesLonger_46 rfl 2 rfl ?_
      refine z_iload_n C 47 dX4_hidesLonger_47 rfl 3 rfl ?_
      refine z_callVi C 48 (As := [.int (zI id), .int (zI L)]) (rest := []) (c_X3_meets_4 l G M k.toNat (by omega) (hp _ (by omega)) id L hid) zcl3 (show k.toNat < 24 by omega) (zc4 ..) (zW_of 2 C wm_4_57 wc_X3_meets wini_3 wi_X3_meets wse_X3_meets ⟨by decide, by decide, by decide⟩ ⟨by decide, by decide⟩) rfl (by decide) ⟨by decide, by decide⟩ dX4_hidesLonger_48 rfl (fun zq6 Mz7 hzq6 hPz6 => ?_)
      obtain ⟨rfl, hPz6⟩ := hPz6
      refine z_if_eq C 51 56 dX4_hidesLonger_51 (by decide) hzq6 (fun c51_54 => ?_) (fun c51_54 => ?_)
      · have hS : ¬ (zmg M k.toNat = 0 ∧ w < zml M k.toNat ∧ zmeet (zmv M k.toNat) (zml M k.toNat) id L) := fun z => (hPz6.f c51_54) z.2.2
        refine z_iinc (lv' := [(4, .int (zI (k + 1))), (5, .ref (zad G 3 k.toNat)), (0, .ref (zad G 1 0)), (1, .int (zI id)), (2, .int (zI L)), (3, .int (zI w))]) C 56 dX4_hidesLonger_56 5 rfl (by decide) rfl ?_
        refine z_goto C 59 3 dX4_hidesLonger_59 (by decide) ?_
        refine z_sub (lv' := [(0, .ref (zad G 1 0)), (1, .int (zI id)), (2, .int (zI L)), (3, .int (zI w)), (4, .int (zI (k + 1)))]) [2, 3, 4, 5, 0] rfl ?_
        exact ihz2 (k + 1) (by omega) (by intro i h; exact (Int.lt_or_le (i : Int) k).elim (g1 i) (fun q => by rw [show i = k.toNat by omega]; exact hS)) (by omega)
      refine z_iconst C 54 dX4_hidesLonger_54 ?_
      refine z_zret C 55 dX4_hidesLonger_55 (by decide) (by decide) (by decide) ?_
      exact ⟨rfl, zb.one ⟨k.toNat, by show _ < zV M 1 0 1; omega, by show zV M 3 k.toNat 3 = 0; omega, by show w < zV M 4 k.toNat 1; omega, (hPz6.t (by assumption))⟩⟩
  refine z_sub (lv' := [(0, .ref (zad G 1 0)), (1, .int (zI id)), (2, .int (zI L)), (3, .int (zI w)), (4, .int (zI 0))]) [1, 2, 3, 4, 0] rfl ?_
  exact L3_1 ((zV M 1 0 1 - 0).toNat + 1) 0 (by omega) (by intro i h; omega) (by omega)
set_option maxHeartbeats 4000000 in
set_option maxRecDepth 100000 in
theorem c_X4_narrow (l : Launch) (G : zG) (M : zMem) (hw : zwm M) (id m0 : Int) (hid : 0 ≤ id ∧ id < 65536) (hm : -1 ≤ m0 ∧ m0 < 24) : Met l yX4_narrow [.code yX4_narrow cX4_narrow 5 (some .int)] (zR 3 0 0) (zPc G M [.ref (zad G 1 0), .int (zI id), .int (zI m0)]) (zQi G (fun x M' => M = M' ∧ znar (zmv M) (zml M) (zmg M) (zmn M) id (zown (zml M) m0) x)) 0 0 (zA G) := by
  refine z_met [(0, .ref (zad G 1 0)), (1, .int (zI id)), (2, .int (zI m0))] (by decide) (Nat.le_of_ble_eq_true rfl) rfl ?_
  intro p e s m below meth c C
  have C : zC p s m ([.ref (zad G 1 0), .int (zI id), .int (zI m0)] : List Value).toArray meth c G RX4 cX4_narrow 5 (some .int) := C
  have hw9z := hw
  obtain ⟨⟨n0, n1⟩, hp⟩ := hw9z
  refine z_iload_n C 0 dX4_narrow_0 rfl 2 rfl ?_
  refine z_iconst C 1 dX4_narrow_1 ?_
  have J21_1 : ∀ (w : Int), (w = zown (zml M) m0) → (-1 ≤ w ∧ w ≤ 16) → zZ p l e (zR 3 0 0) s m ([.ref (zad G 1 0), .int (zI id), .int (zI m0)] : List Value).toArray below meth c G 5 (MQ below (zQi G (fun x M' => M = M' ∧ znar (zmv M) (zml M) (zmg M) (zmn M) id (zown (zml M) m0) x)) ([.ref (zad G 1 0), .int (zI id), .int (zI m0)] : List Value).toArray s 0 0 (zA G)) M 0 0 21 [(0, .ref (zad G 1 0)), (1, .int (zI id)), (2, .int (zI m0))] [.int (zI w)] := by
    intro w hw1 hw2
    refine z_istore_n (lv' := [(3, .int (zI w)), (0, .ref (zad G 1 0)), (1, .int (zI id)), (2, .int (zI m0))]) C 21 dX4_narrow_21 rfl (by decide) rfl ?_
    refine z_iload_n C 22 dX4_narrow_22 rfl 0 rfl ?_
    refine z_iconst C 23 dX4_narrow_23 ?_
    refine z_max C 24 wm_4_47 (by first | assumption | omega) (by decide) (by decide) dX4_narrow_24 ?_
    refine z_istore (lv' := [(4, .int (zI (max w 0))), (3, .int (zI w)), (0, .ref (zad G 1 0)), (1, .int (zI id)), (2, .int (zI m0))]) C 27 dX4_narrow_27 (by decide) rfl ?_
    have L29_2 : ∀ (kz2 : Nat) (L : Int), (max w 0 ≤ L ∧ L ≤ 16) → (∀ q : Int, max w 0 ≤ q → q < L → zhid (zmv M) (zml M) (zmg M) (zmn M) id q w) → (16 - L) < (kz2 : Int) → zZ p l e (zR 3 0 0) s m ([.ref (zad G 1 0), .int (zI id), .int (zI m0)] : List Value).toArray below meth c G 5 (MQ below (zQi G (fun x M' => M = M' ∧ znar (zmv M) (zml M) (zmg M) (zmn M) id (zown (zml M) m0) x)) ([.ref (zad G 1 0), .int (zI id), .int (zI m0)] : List Value).toArray s 0 0 (zA G)) M 0 0 29 [(3, .int (zI w)), (0, .ref (zad G 1 0)), (1, .int (zI id)), (2, .int (zI m0)), (4, .int (zI L))] [] := by
      intro kz2
      induction kz2 with
      | zero =>
        intro L g0 g1 hk
        exact absurd hk (by omega)
      | succ kz2 ihz3 =>
        intro L g0 g1 hk
        refine z_iload C 29 dX4_narrow_29 4 rfl ?_
        refine z_bipush C 31 dX4_narrow_31 (by decide +kernel) ?_
        refine z_icmp_ge C 33 56 dX4_narrow_33 (by decide) (by first | assumption | omega) (by decide) (fun c33_27 => ?_) (fun c33_27 => ?_)
        · refine z_bipush C 56 dX4_narrow_56 (by decide +kernel) ?_
          refine z_iret C 58 dX4_narrow_58 (by decide) (by decide) (by decide) ?_
          exact ⟨rfl, by rw [← hw1]; exact ⟨by omega, by omega, fun q h1 h2 => g1 q h1 (by omega), fun h => absurd h (by decide)⟩⟩
        refine z_aload_n C 36 dX4_narrow_36 rfl 1 rfl ?_
        refine z_iload_n C 37 dX4_narrow_37 rfl 2 rfl ?_
        refine z_iload C 38 dX4_narrow_38 4 rfl ?_
        refine z_iload_n C 40 dX4_narrow_40 rfl 0 rfl ?_
        refine z_callVi C 41 (As := [.int (zI id), .int (zI L), .int (zI w)]) (rest := []) (c_X4_hidesLonger l G M hw id L w ⟨hid.1, hid.2, by omega, by omega⟩ (by omega)) zcl4 (show 0 < 1 by omega) (zc1 ..) (zW_of 3 C wm_4_53 wc_X4_hidesLonger wini_4 wi_X4_hidesLonger wse_X4_hidesLonger ⟨by decide, by decide, by decide⟩ ⟨by decide, by decide⟩) rfl (by decide) ⟨by decide, by decide⟩ dX4_narrow_41 rfl (fun zq4 Mz5 hzq4 hPz4 => ?_)
        obtain ⟨rfl, hPz4⟩ := hPz4
        refine z_if_ne C 44 50 dX4_narrow_44 (by decide) hzq4 (fun c44_37 => ?_) (fun c44_37 => ?_)
        · refine z_iinc (lv' := [(4, .int (zI (L + 1))), (3, .int (zI w)), (0, .ref (zad G 1 0)), (1, .int (zI id)), (2, .int (zI m0))]) C 50 dX4_narrow_50 4 rfl (by decide) rfl ?_
          refine z_goto C 53 29 dX4_narrow_53 (by decide) ?_
          refine z_sub (lv' := [(3, .int (zI w)), (0, .ref (zad G 1 0)), (1, .int (zI id)), (2, .int (zI m0)), (4, .int (zI (L + 1)))]) [1, 2, 3, 4, 0] rfl ?_
          exact ihz3 (L + 1) (by omega) (by intro q h1 h2; exact (Int.lt_or_le q L).elim (g1 q h1) (fun z => by rw [show q = L by omega]; exact (hPz4.t (by assumption)))) (by omega)
        refine z_iload C 47 dX4_narrow_47 4 rfl ?_
        refine z_iret C 49 dX4_narrow_49 (by decide) (by decide) (by first | assumption | omega) ?_
        exact ⟨rfl, by rw [← hw1]; exact ⟨by omega, by omega, g1, fun _ => hPz4.f (by assumption)⟩⟩
    refine z_sub (lv' := [(3, .int (zI w)), (0, .ref (zad G 1 0)), (1, .int (zI id)), (2, .int (zI m0)), (4, .int (zI (max w 0)))]) [1, 2, 3, 4, 0] rfl ?_
    exact L29_2 ((16 - (max w 0)).toNat + 1) (max w 0) (by omega) (by intro q h1 h2; omega) (by omega)
  refine z_icmp_ne C 2 9 dX4_narrow_2 (by decide) (by first | assumption | omega) (by decide) (fun c2_47 => ?_) (fun c2_47 => ?_)
  · refine z_aload_n C 9 dX4_narrow_9 rfl 0 rfl ?_
    refine z_get C 10 zcl4 (show 0 < 1 by omega) (zc1 ..) 0 (by decide) rfl wf_4_11 dX4_narrow_10 ?_
    refine z_iload_n C 13 dX4_narrow_13 rfl 2 rfl ?_
    refine z_aald C 14 (show 0 < 1 by omega) (zc2 ..) rfl (by first | assumption | omega) (by omega) (show m0 < ((24 : Nat) : Int) by omega) dX4_narrow_14 ?_
    refine z_get C 15 zcl2 (show m0.toNat < 24 by omega) (zc3 ..) 0 (by decide) rfl wf_4_22 dX4_narrow_15 ?_
    refine z_getI C 18 zcl3 (show m0.toNat < 24 by omega) (zc4 ..) 1 (by decide) rfl wf_4_40 dX4_narrow_18 (fun zq6 ezq6 hzq6 => ?_)
    exact J21_1 zq6 (by unfold zown; rw [if_neg (by omega)]; exact ezq6) (by have hp9z := hp m0.toNat (by omega); unfold zpfx at hp9z; omega)
  refine z_iconst C 5 dX4_narrow_5 ?_
  refine z_goto C 6 21 dX4_narrow_6 (by decide) ?_
  exact J21_1 (-1) (by unfold zown; rw [if_pos (by omega)]) (by omega)
set_option maxHeartbeats 4000000 in
set_option maxRecDepth 100000 in
theorem c_X6_placeOf (l : Launch) (G : zG) (M : zMem) (hw : zwd M) (v b : Int) (hv : zrg v) (hb : zrg b) : Met l yX6_placeOf [.code yX6_placeOf cX6_placeOf 4 (some .int)] (zR 1 0 0) (zPc G M [.ref (zad G 9 0), .int (zI v), .int (zI b)]) (zQi G (fun x M' => M = M' ∧ ((x = -1 ∧ ∀ i : Nat, (i : Int) < zdn M → ¬ (zdv M i = v ∧ zdl M i = b)) ∨ ∃ i : Nat, x = (i : Int) ∧ (i : Int) < zdn M ∧ zdv M i = v ∧ zdl M i = b))) 0 0 (zA G) := by
  refine z_met [(0, .ref (zad G 9 0)), (1, .int (zI v)), (2, .int (zI b))] (by decide) (Nat.le_of_ble_eq_true rfl) rfl ?_
  intro p e s m below meth c C
  have C : zC p s m ([.ref (zad G 9 0), .int (zI v), .int (zI b)] : List Value).toArray meth c G RX6 cX6_placeOf 4 (some .int) := C
  have hw9z := hw
  obtain ⟨⟨n0, n1⟩, hp, ht⟩ := hw9z
  refine z_iconst C 0 dX6_placeOf_0 ?_
  refine z_istore_n (lv' := [(3, .int (zI 0)), (0, .ref (zad G 9 0)), (1, .int (zI v)), (2, .int (zI b))]) C 1 dX6_placeOf_1 rfl (by decide) rfl ?_
  have L2_1 : ∀ (kz1 : Nat) (k : Int), (0 ≤ k ∧ k ≤ zV M 9 0 4) → (∀ i : Nat, (i : Int) < k → ¬ (zdv M i = v ∧ zdl M i = b)) → (zV M 9 0 4 - k) < (kz1 : Int) → zZ p l e (zR 1 0 0) s m ([.ref (zad G 9 0), .int (zI v), .int (zI b)] : List Value).toArray below meth c G 4 (MQ below (zQi G (fun x M' => M = M' ∧ ((x = -1 ∧ ∀ i : Nat, (i : Int) < zdn M → ¬ (zdv M i = v ∧ zdl M i = b)) ∨ ∃ i : Nat, x = (i : Int) ∧ (i : Int) < zdn M ∧ zdv M i = v ∧ zdl M i = b))) ([.ref (zad G 9 0), .int (zI v), .int (zI b)] : List Value).toArray s 0 0 (zA G)) M 0 0 2 [(0, .ref (zad G 9 0)), (1, .int (zI v)), (2, .int (zI b)), (3, .int (zI k))] [] := by
    intro kz1
    induction kz1 with
    | zero =>
      intro k g0 g1 hk
      exact absurd hk (by omega)
    | succ kz1 ihz2 =>
      intro k g0 g1 hk
      refine z_iload_n C 2 dX6_placeOf_2 rfl 3 rfl ?_
      refine z_aload_n C 3 dX6_placeOf_3 rfl 0 rfl ?_
      refine z_getI C 4 zcl6 (show 0 < 1 by omega) (zc9 ..) 4 (by decide) rfl wf_6_28 dX6_placeOf_4 (fun zq3 ezq3 hzq3 => ?_)
      refine z_icmp_ge C 7 32 dX6_placeOf_7 (by decide) (by first | assumption | omega) hzq3 (fun c7_21 => ?_) (fun c7_21 => ?_)
      · refine z_iconst C 32 dX6_placeOf_32 ?_
        refine z_iret C 33 dX6_placeOf_33 (by decide) (by decide) (by decide) ?_
        exact ⟨rfl, Or.inl ⟨rfl, fun i h => g1 i (by have w : (i : Int) < zV M 9 0 4 := h; omega)⟩⟩
      refine z_aload_n C 10 dX6_placeOf_10 rfl 0 rfl ?_
      refine z_get C 11 zcl6 (show 0 < 1 by omega) (zc9 ..) 2 (by decide) rfl wf_6_21 dX6_placeOf_11 ?_
      refine z_iload_n C 14 dX6_placeOf_14 rfl 3 rfl ?_
      refine z_aald C 15 (show 0 < 1 by omega) (zc12 ..) rfl (by first | assumption | omega) (by omega) (show k < ((12 : Nat) : Int) by omega) dX6_placeOf_15 ?_
      refine z_iload_n C 16 dX6_placeOf_16 rfl 1 rfl ?_
      refine z_iload_n C 17 dX6_placeOf_17 rfl 2 rfl ?_
      refine z_callVi C 18 (As := [.int (zI v), .int (zI b)]) (rest := []) (c_X3_is_14 l G M k.toNat (by omega) v b hv hb) zcl3 (show k.toNat < 12 by omega) (zc14 ..) (zW_of 2 C wm_6_33 wc_X3_is wini_3 wi_X3_is wse_X3_is ⟨by decide, by decide, by decide⟩ ⟨by decide, by decide⟩) rfl (by decide) ⟨by decide, by decide⟩ dX6_placeOf_18 rfl (fun zq4 Mz5 hzq4 hPz4 => ?_)
      obtain ⟨rfl, hPz4⟩ := hPz4
      refine z_if_eq C 21 26 dX6_placeOf_21 (by decide) hzq4 (fun c21_33 => ?_) (fun c21_33 => ?_)
      · refine z_iinc (lv' := [(3, .int (zI (k + 1))), (0, .ref (zad G 9 0)), (1, .int (zI v)), (2, .int (zI b))]) C 26 dX6_placeOf_26 3 rfl (by decide) rfl ?_
        refine z_goto C 29 2 dX6_placeOf_29 (by decide) ?_
        refine z_sub (lv' := [(0, .ref (zad G 9 0)), (1, .int (zI v)), (2, .int (zI b)), (3, .int (zI (k + 1)))]) [1, 2, 3, 0] rfl ?_
        exact ihz2 (k + 1) (by omega) (by intro i h; exact (Int.lt_or_le (i : Int) k).elim (g1 i) (fun q => by rw [show i = k.toNat by omega]; exact (hPz4.f (by assumption)))) (by omega)
      refine z_iload_n C 24 dX6_placeOf_24 rfl 3 rfl ?_
      refine z_iret C 25 dX6_placeOf_25 (by decide) (by decide) (by first | assumption | omega) ?_
      exact ⟨rfl, Or.inr ⟨k.toNat, by omega, by show _ < zV M 9 0 4; omega, (hPz4.t (by assumption))⟩⟩
  refine z_sub (lv' := [(0, .ref (zad G 9 0)), (1, .int (zI v)), (2, .int (zI b)), (3, .int (zI 0))]) [1, 2, 3, 0] rfl ?_
  exact L2_1 ((zV M 9 0 4 - 0).toNat + 1) 0 (by omega) (by intro i h; omega) (by omega)
set_option maxHeartbeats 4000000 in
set_option maxRecDepth 100000 in
theorem c_X6_add (l : Launch) (G : zG) (M : zMem) (hn : 0 ≤ zV M 9 0 4 ∧ zV M 9 0 4 < 12) (v b t : Int) : Met l yX6_add [.code yX6_add cX6_add 4 none] (zR 1 0 0) (zPc G M [.ref (zad G 9 0), .int (zI v), .int (zI b), .int (zI t)]) (zQv G (fun M' => M' = zup (zup (zup (zup M 14 (zV M 9 0 4).toNat 0 (zI v)) 14 (zV M 9 0 4).toNat 1 (zI b)) 13 0 (zV M 9 0 4).toNat (zI t)) 9 0 4 (zI (zV M 9 0 4 + 1)))) 0 0 (zA G) := by
  refine z_met [(0, .ref (zad G 9 0)), (1, .int (zI v)), (2, .int (zI b)), (3, .int (zI t))] (by decide) (Nat.le_of_ble_eq_true rfl) rfl ?_
  intro p e s m below meth c C
  have C : zC p s m ([.ref (zad G 9 0), .int (zI v), .int (zI b), .int (zI t)] : List Value).toArray meth c G RX6 cX6_add 4 none := C
  refine z_aload_n C 0 dX6_add_0 rfl 0 rfl ?_
  refine z_get C 1 zcl6 (show 0 < 1 by omega) (zc9 ..) 2 (by decide) rfl wf_6_21 dX6_add_1 ?_
  refine z_aload_n C 4 dX6_add_4 rfl 0 rfl ?_
  refine z_getI C 5 zcl6 (show 0 < 1 by omega) (zc9 ..) 4 (by decide) rfl wf_6_28 dX6_add_5 (fun zq1 ezq1 hzq1 => ?_)
  refine z_aald C 8 (show 0 < 1 by omega) (zc12 ..) rfl hzq1 (by omega) (show zq1 < ((12 : Nat) : Int) by omega) dX6_add_8 ?_
  refine z_iload_n C 9 dX6_add_9 rfl 1 rfl ?_
  refine z_iload_n C 10 dX6_add_10 rfl 2 rfl ?_
  refine z_callVv C 11 (As := [.int (zI v), .int (zI b)]) (rest := []) (c_X3_set_14 l G M (zq1).toNat (by omega) v b) zcl3 (show zq1.toNat < 12 by omega) (zc14 ..) (zW_of 2 C wm_6_37 wc_X3_set wini_3 wi_X3_set wse_X3_set ⟨by decide, by decide, by decide⟩ ⟨by decide, by decide⟩) rfl (by decide) ⟨by decide, by decide⟩ dX6_add_11 rfl (fun Mz3 hPz2 => ?_)
  refine z_aload_n C 14 dX6_add_14 rfl 0 rfl ?_
  refine z_get C 15 zcl6 (show 0 < 1 by omega) (zc9 ..) 3 (by decide) rfl wf_6_25 dX6_add_15 ?_
  refine z_aload_n C 18 dX6_add_18 rfl 0 rfl ?_
  refine z_getI C 19 zcl6 (show 0 < 1 by omega) (zc9 ..) 4 (by decide) rfl wf_6_28 dX6_add_19 (fun zq4 ezq4 hzq4 => ?_)
  rw [hPz2, zV_ne (by decide), zV_ne (by decide)] at ezq4
  refine z_iload_n C 22 dX6_add_22 rfl 3 rfl ?_
  refine z_iast C 23 (show 0 < 1 by omega) (zc13 ..) hzq4 (by omega) (show zq4 < ((12 : Nat) : Int) by omega) (zc13 ..) dX6_add_23 ?_
  refine z_aload_n C 24 dX6_add_24 rfl 0 rfl ?_
  refine z_dup C 25 dX6_add_25 rfl ?_
  refine z_getI C 26 zcl6 (show 0 < 1 by omega) (zc9 ..) 4 (by decide) rfl wf_6_28 dX6_add_26 (fun zq5 ezq5 hzq5 => ?_)
  rw [zV_ne (by decide)] at ezq5
  rw [hPz2, zV_ne (by decide), zV_ne (by decide)] at ezq5
  refine z_iconst C 29 dX6_add_29 ?_
  refine z_iadd C 30 dX6_add_30 ?_
  refine z_putI C 31 zcl6 (show 0 < 1 by omega) (zc9 ..) 4 (by decide) wf_6_28 rfl rfl rfl (Nat.le_of_ble_eq_true rfl) (zc9 ..) dX6_add_31 ?_
  refine z_vret C 34 dX6_add_34 (by decide) (by decide) ?_
  rw [hPz2]
  obtain rfl := ezq1
  obtain rfl := ezq4
  obtain rfl := ezq5
  rfl
set_option maxHeartbeats 4000000 in
set_option maxRecDepth 100000 in
theorem c_X6_find (l : Launch) (G : zG) (M : zMem) (hw : zwd M) (id : Int) (hid : 0 ≤ id ∧ id < 65536) : Met l yX6_find [.code yX6_find cX6_find 5 (some .int)] (zR 3 0 0) (zPc G M [.ref (zad G 9 0), .int (zI id)]) (zQi G (fun x M' => M = M' ∧ ∃ y : Int, zfnd (zdv M) (zdl M) z0 (zdn M) id y ∧ x = zsv (zdt M) y)) 0 0 (zA G) := by
  refine z_met [(0, .ref (zad G 9 0)), (1, .int (zI id))] (by decide) (Nat.le_of_ble_eq_true rfl) rfl ?_
  intro p e s m below meth c C
  have C : zC p s m ([.ref (zad G 9 0), .int (zI id)] : List Value).toArray meth c G RX6 cX6_find 5 (some .int) := C
  have hw9z := hw
  obtain ⟨⟨n0, n1⟩, hp, ht⟩ := hw9z
  refine z_iconst C 0 dX6_find_0 ?_
  refine z_istore_n (lv' := [(2, .int (zI 0)), (0, .ref (zad G 9 0)), (1, .int (zI id))]) C 1 dX6_find_1 rfl (by decide) rfl ?_
  refine z_iconst C 2 dX6_find_2 ?_
  refine z_istore_n (lv' := [(3, .int (zI (-1))), (2, .int (zI 0)), (0, .ref (zad G 9 0)), (1, .int (zI id))]) C 3 dX6_find_3 rfl (by decide) rfl ?_
  refine z_iconst C 4 dX6_find_4 ?_
  refine z_istore (lv' := [(4, .int (zI 0)), (3, .int (zI (-1))), (2, .int (zI 0)), (0, .ref (zad G 9 0)), (1, .int (zI id))]) C 5 dX6_find_5 (by decide) rfl ?_
  have L7_1 : ∀ (kz1 : Nat) (b : Int) (bl : Int) (k : Int) (y : Int), (0 ≤ k ∧ k ≤ zV M 9 0 4) → (zfndk (zdv M) (zdl M) z0 (zdn M) id k y bl) → (0 ≤ b ∧ b < 4 ∧ -1 ≤ bl ∧ bl ≤ 16) → (b = zsv (zdt M) y) → (zV M 9 0 4 - k) < (kz1 : Int) → zZ p l e (zR 3 0 0) s m ([.ref (zad G 9 0), .int (zI id)] : List Value).toArray below meth c G 5 (MQ below (zQi G (fun x M' => M = M' ∧ ∃ y : Int, zfnd (zdv M) (zdl M) z0 (zdn M) id y ∧ x = zsv (zdt M) y)) ([.ref (zad G 9 0), .int (zI id)] : List Value).toArray s 0 0 (zA G)) M 0 0 7 [(0, .ref (zad G 9 0)), (1, .int (zI id)), (2, .int (zI b)), (3, .int (zI bl)), (4, .int (zI k))] [] := by
    intro kz1
    induction kz1 with
    | zero =>
      intro b bl k y g0 g1 g2 g3 hk
      exact absurd hk (by omega)
    | succ kz1 ihz2 =>
      intro b bl k y g0 g1 g2 g3 hk
      have hpk := hp k.toNat
      have htk := ht k.toNat
      refine z_iload C 7 dX6_find_7 4 rfl ?_
      refine z_aload_n C 9 dX6_find_9 rfl 0 rfl ?_
      refine z_getI C 10 zcl6 (show 0 < 1 by omega) (zc9 ..) 4 (by decide) rfl wf_6_28 dX6_find_10 (fun zq3 ezq3 hzq3 => ?_)
      refine z_icmp_ge C 13 69 dX6_find_13 (by decide) (by first | assumption | omega) hzq3 (fun c13_27 => ?_) (fun c13_27 => ?_)
      · refine z_iload_n C 69 dX6_find_69 rfl 2 rfl ?_
        refine z_iret C 70 dX6_find_70 (by decide) (by decide) (by first | assumption | omega) ?_
        exact ⟨rfl, y, zfnd_end g1 (by show zV M 9 0 4 ≤ k; omega), g3⟩
      refine z_aload_n C 16 dX6_find_16 rfl 0 rfl ?_
      refine z_get C 17 zcl6 (show 0 < 1 by omega) (zc9 ..) 2 (by decide) rfl wf_6_21 dX6_find_17 ?_
      refine z_iload C 20 dX6_find_20 4 rfl ?_
      refine z_aald C 22 (show 0 < 1 by omega) (zc12 ..) rfl (by first | assumption | omega) (by omega) (show k < ((12 : Nat) : Int) by omega) dX6_find_22 ?_
      refine z_getI C 23 zcl3 (show k.toNat < 12 by omega) (zc14 ..) 1 (by decide) rfl wf_6_41 dX6_find_23 (fun zq4 ezq4 hzq4 => ?_)
      refine z_iload_n C 26 dX6_find_26 rfl 3 rfl ?_
      refine z_icmp_le C 27 63 dX6_find_27 (by decide) hzq4 (by first | assumption | omega) (fun c27_37 => ?_) (fun c27_37 => ?_)
      · have hS : zcov (zdv M) (zdl M) z0 (zdn M) id k.toNat → zdl M k.toNat ≤ bl := fun w => by show zV M 14 k.toNat 1 ≤ bl; omega
        refine z_iinc (lv' := [(4, .int (zI (k + 1))), (0, .ref (zad G 9 0)), (1, .int (zI id)), (2, .int (zI b)), (3, .int (zI bl))]) C 63 dX6_find_63 4 rfl (by decide) rfl ?_
        refine z_goto C 66 7 dX6_find_66 (by decide) ?_
        refine z_sub (lv' := [(0, .ref (zad G 9 0)), (1, .int (zI id)), (2, .int (zI b)), (3, .int (zI bl)), (4, .int (zI (k + 1)))]) [1, 2, 3, 4, 0] rfl ?_
        exact ihz2 b bl (k + 1) y (by omega) (by exact zfnd_skip g1 (by omega) (zwd_l hw) hS) (by exact g2) (by exact g3) (by omega)
      refine z_aload_n C 30 dX6_find_30 rfl 0 rfl ?_
      refine z_get C 31 zcl6 (show 0 < 1 by omega) (zc9 ..) 2 (by decide) rfl wf_6_21 dX6_find_31 ?_
      refine z_iload C 34 dX6_find_34 4 rfl ?_
      refine z_aald C 36 (show 0 < 1 by omega) (zc12 ..) rfl (by first | assumption | omega) (by omega) (show k < ((12 : Nat) : Int) by omega) dX6_find_36 ?_
      refine z_iload_n C 37 dX6_find_37 rfl 1 rfl ?_
      refine z_callVi C 38 (As := [.int (zI id)]) (rest := []) (c_X3_covers_14 l G M k.toNat (by omega) (hp _ (by omega)) id hid) zcl3 (show k.toNat < 12 by omega) (zc14 ..) (zW_of 1 C wm_6_44 wc_X3_covers wini_3 wi_X3_covers wse_X3_covers ⟨by decide, by decide, by decide⟩ ⟨by decide, by decide⟩) rfl (by decide) ⟨by decide, by decide⟩ dX6_find_38 rfl (fun zq5 Mz6 hzq5 hPz5 => ?_)
      obtain ⟨rfl, hPz5⟩ := hPz5
      refine z_if_eq C 41 63 dX6_find_41 (by decide) hzq5 (fun c41_50 => ?_) (fun c41_50 => ?_)
      · have hS : zcov (zdv M) (zdl M) z0 (zdn M) id k.toNat → zdl M k.toNat ≤ bl := fun w => absurd w.2.2 (hPz5.f c41_50)
        refine z_iinc (lv' := [(4, .int (zI (k + 1))), (0, .ref (zad G 9 0)), (1, .int (zI id)), (2, .int (zI b)), (3, .int (zI bl))]) C 63 dX6_find_63 4 rfl (by decide) rfl ?_
        refine z_goto C 66 7 dX6_find_66 (by decide) ?_
        refine z_sub (lv' := [(0, .ref (zad G 9 0)), (1, .int (zI id)), (2, .int (zI b)), (3, .int (zI bl)), (4, .int (zI (k + 1)))]) [1, 2, 3, 4, 0] rfl ?_
        exact ihz2 b bl (k + 1) y (by omega) (by exact zfnd_skip g1 (by omega) (zwd_l hw) hS) (by exact g2) (by exact g3) (by omega)
      have hT : zcov (zdv M) (zdl M) z0 (zdn M) id k.toNat := ⟨by show _ < zV M 9 0 4; omega, rfl, hPz5.t c41_50⟩
      refine z_aload_n C 44 dX6_find_44 rfl 0 rfl ?_
      refine z_get C 45 zcl6 (show 0 < 1 by omega) (zc9 ..) 3 (by decide) rfl wf_6_25 dX6_find_45 ?_
      refine z_iload C 48 dX6_find_48 4 rfl ?_
      refine z_iald C 50 (show 0 < 1 by omega) (zc13 ..) (by first | assumption | omega) (by omega) (show k < ((12 : Nat) : Int) by omega) dX6_find_50 (fun zq7 ezq7 hzq7 => ?_)
      refine z_istore_n (lv' := [(2, .int (zI zq7)), (0, .ref (zad G 9 0)), (1, .int (zI id)), (3, .int (zI bl)), (4, .int (zI k))]) C 51 dX6_find_51 rfl (by decide) rfl ?_
      refine z_aload_n C 52 dX6_find_52 rfl 1 rfl ?_
      refine z_get C 53 zcl6 (show 0 < 1 by omega) (zc9 ..) 2 (by decide) rfl wf_6_21 dX6_find_53 ?_
      refine z_iload C 56 dX6_find_56 4 rfl ?_
      refine z_aald C 58 (show 0 < 1 by omega) (zc12 ..) rfl (by first | assumption | omega) (by omega) (show k < ((12 : Nat) : Int) by omega) dX6_find_58 ?_
      refine z_getI C 59 zcl3 (show k.toNat < 12 by omega) (zc14 ..) 1 (by decide) rfl wf_6_41 dX6_find_59 (fun zq8 ezq8 hzq8 => ?_)
      refine z_istore_n (lv' := [(3, .int (zI zq8)), (2, .int (zI zq7)), (0, .ref (zad G 9 0)), (1, .int (zI id)), (4, .int (zI k))]) C 62 dX6_find_62 rfl (by decide) rfl ?_
      refine z_iinc (lv' := [(4, .int (zI (k + 1))), (3, .int (zI zq8)), (2, .int (zI zq7)), (0, .ref (zad G 9 0)), (1, .int (zI id))]) C 63 dX6_find_63 4 rfl (by decide) rfl ?_
      refine z_goto C 66 7 dX6_find_66 (by decide) ?_
      refine z_sub (lv' := [(0, .ref (zad G 9 0)), (1, .int (zI id)), (2, .int (zI zq7)), (3, .int (zI zq8)), (4, .int (zI (k + 1)))]) [3, 4, 2, 1, 0] rfl ?_
      exact ihz2 zq7 zq8 (k + 1) k (by omega) (by rw [ezq8]; exact zfnd_take g1 (by omega) hT (by show bl < zV M 14 k.toNat 1; omega)) (by have hpk9 := hpk (by omega); have htk9 := htk (by omega); unfold zpfx at hpk9; omega) (by rw [ezq7]; unfold zsv; rw [if_neg (by omega)]; rfl) (by omega)
  refine z_sub (lv' := [(0, .ref (zad G 9 0)), (1, .int (zI id)), (2, .int (zI 0)), (3, .int (zI (-1))), (4, .int (zI 0))]) [3, 4, 2, 1, 0] rfl ?_
  exact L7_1 ((zV M 9 0 4 - 0).toNat + 1) 0 (-1) 0 (-1) (by omega) (by exact zfnd_0 _ _ _ _ _) (by omega) (by rfl) (by omega)
end
section
/-- an int's value after it has wrapped around -/
def zw (x : Int) : Int := (zI x).toInt
theorem zw_rg (x : Int) : zrg (zw x) := zrgI _
theorem zw_I (x : Int) : zI (zw x) = zI x := zI_of _
theorem zw_eq {x : Int} (h : zrg x) : zw x = x := zI_toInt h
theorem zV_upw (M : zMem) (κ i j : Nat) (x : Int) : zV (zup M κ i j (zI x)) κ i j = zw x := by rw [zV_upg, if_pos ⟨rfl, rfl, rfl⟩]; rfl
noncomputable def zind (p : Prop) : Int := @ite Int p (Classical.propDecidable p) 1 0
theorem zind_t {p : Prop} (h : p) : zind p = 1 := by unfold zind; exact if_pos h
theorem zind_f {p : Prop} (h : ¬ p) : zind p = 0 := by unfold zind; exact if_neg h
theorem zind_rg (p : Prop) : 0 ≤ zind p ∧ zind p ≤ 1 := by
  by_cases h : p
  · rw [zind_t h]; decide
  · rw [zind_f h]; decide
/-- the sum of the first k -/
def zsm (f : Nat → Int) : Nat → Int
  | 0 => 0
  | k + 1 => zsm f k + f k
theorem zsm_s (f : Nat → Int) {k : Int} (hk : 0 ≤ k) : zsm f (k + 1).toNat = zsm f k.toNat + f k.toNat := by
  rw [show (k + 1).toNat = k.toNat + 1 by omega]
  rfl
theorem zsm_ext {f g : Nat → Int} {n : Nat} (h : ∀ k, k < n → f k = g k) : zsm f n = zsm g n := by
  induction n with
  | zero => rfl
  | succ n ih =>
    show zsm f n + f n = zsm g n + g n
    rw [ih (fun k hk => h k (by omega)), h n (by omega)]
theorem zsm_01 {f : Nat → Int} (h : ∀ k, 0 ≤ f k ∧ f k ≤ 1) (n : Nat) : 0 ≤ zsm f n ∧ zsm f n ≤ n := by
  induction n with
  | zero => exact ⟨Int.le_refl _, Int.le_refl _⟩
  | succ n ih =>
    have := h n
    show 0 ≤ zsm f n + f n ∧ zsm f n + f n ≤ _
    omega
/-- the best priority of the first k locators with reachable addresses; 4 if there are none -/
def zbp (un ad pr : Nat → Int) : Nat → Int
  | 0 => 4
  | k + 1 => if un (ad k).toNat = 0 then min (zbp un ad pr k) (pr k) else zbp un ad pr k
theorem zbp_s (un ad pr : Nat → Int) {k : Int} (hk : 0 ≤ k) : zbp un ad pr (k + 1).toNat = if un (ad k.toNat).toNat = 0 then min (zbp un ad pr k.toNat) (pr k.toNat) else zbp un ad pr k.toNat := by
  rw [show (k + 1).toNat = k.toNat + 1 by omega]
  rfl
def zlk (un ad pr : Nat → Int) (b : Int) (k : Nat) : Prop := pr k = b ∧ un (ad k).toNat = 0
noncomputable def zls (un ad pr f : Nat → Int) (b : Int) (k : Nat) : Int := zind (zlk un ad pr b k) * f k
theorem zls_t {un ad pr f : Nat → Int} {b : Int} {k : Nat} (h : zlk un ad pr b k) : zls un ad pr f b k = f k := by unfold zls; rw [zind_t h, Int.one_mul]
theorem zls_f {un ad pr f : Nat → Int} {b : Int} {k : Nat} (h : ¬ zlk un ad pr b k) : zls un ad pr f b k = 0 := by unfold zls; rw [zind_f h, Int.zero_mul]
def zlack (wt pk : Nat → Int) (S W : Int) (k : Nat) : Int := zw (wt k * (S + 1) - W * pk k)
/-- the one with the greatest lack among the first k, and its lack -/
noncomputable def zch (un ad pr wt pk : Nat → Int) (b S W : Int) : Nat → Int × Int
  | 0 => (-1, 0)
  | k + 1 => @ite (Int × Int) (zlk un ad pr b k ∧ ((zch un ad pr wt pk b S W k).1 = -1 ∨ (zch un ad pr wt pk b S W k).2 < zlack wt pk S W k)) (Classical.propDecidable _) ((k : Int), zlack wt pk S W k) (zch un ad pr wt pk b S W k)
theorem zch_t {un ad pr wt pk : Nat → Int} {b S W k x y : Int} (hk : 0 ≤ k) (e : zch un ad pr wt pk b S W k.toNat = (x, y)) (h : zlk un ad pr b k.toNat) (h2 : x = -1 ∨ y < zlack wt pk S W k.toNat) : zch un ad pr wt pk b S W (k + 1).toNat = (k, zlack wt pk S W k.toNat) := by
  rw [show (k + 1).toNat = k.toNat + 1 by omega]
  unfold zch
  rw [if_pos ⟨h, by rw [e]; exact h2⟩, show ((k.toNat : Nat) : Int) = k by omega]
theorem zch_f {un ad pr wt pk : Nat → Int} {b S W k x y : Int} (hk : 0 ≤ k) (e : zch un ad pr wt pk b S W k.toNat = (x, y)) (h : ¬ (zlk un ad pr b k.toNat ∧ (x = -1 ∨ y < zlack wt pk S W k.toNat))) : zch un ad pr wt pk b S W (k + 1).toNat = (x, y) := by
  rw [show (k + 1).toNat = k.toNat + 1 by omega]
  unfold zch
  rw [if_neg (by rw [e]; exact h), e]
theorem zch_rg (un ad pr wt pk : Nat → Int) (b S W : Int) (k : Nat) : -1 ≤ (zch un ad pr wt pk b S W k).1 ∧ (zch un ad pr wt pk b S W k).1 < k ∧ zrg (zch un ad pr wt pk b S W k).2 := by
  induction k with
  | zero =>
    show (-1 : Int) ≤ -1 ∧ (-1 : Int) < ((0 : Nat) : Int) ∧ zrg 0
    exact ⟨by decide, by decide, by decide⟩
  | succ k ih =>
    unfold zch
    split
    · exact ⟨by show (-1 : Int) ≤ (k : Int); omega, by show (k : Int) < ((k + 1 : Nat) : Int); omega, zw_rg _⟩
    · exact ⟨ih.1, by have := ih.2.1; omega, ih.2.2⟩
/-- the functions of an entry and its router -/
def zun (M : zMem) (r : Nat) (a : Nat) : Int := zV M 18 r a
def zea (M : zMem) (q : Nat) (k : Nat) : Int := zV M 22 q k
def zep (M : zMem) (q : Nat) (k : Nat) : Int := zV M 23 q k
def zew (M : zMem) (q : Nat) (k : Nat) : Int := zV M 24 q k
def zek (M : zMem) (q : Nat) (k : Nat) : Int := zV M 25 q k
def zeb (M : zMem) (r q : Nat) : Int := zbp (zun M r) (zea M q) (zep M q) (zV M 21 q 3).toNat
noncomputable def zeS (M : zMem) (r q : Nat) (b : Int) : Int := zsm (zls (zun M r) (zea M q) (zep M q) (zek M q) b) (zV M 21 q 3).toNat
noncomputable def zeW (M : zMem) (r q : Nat) (b : Int) : Int := zsm (zls (zun M r) (zea M q) (zep M q) (zew M q) b) (zV M 21 q 3).toNat
noncomputable def zechk (M : zMem) (r q : Nat) (b : Int) (k : Nat) : Int × Int := zch (zun M r) (zea M q) (zep M q) (zew M q) (zek M q) b (zeS M r q b) (zeW M r q b) k
noncomputable def zech (M : zMem) (r q : Nat) (b : Int) : Int := (zechk M r q b (zV M 21 q 3).toNat).1
/-- an entry's locators lie within -/
def zwe (M : zMem) (q : Nat) : Prop := (0 ≤ zV M 21 q 3 ∧ zV M 21 q 3 ≤ 4) ∧ ∀ j : Nat, j < 4 → 0 ≤ zV M 22 q j ∧ zV M 22 q j < 32
/-- what a positive answer makes of an entry -/
def zkp (M M' : zMem) (q i : Nat) (num en : Int) : Prop :=
  zV M' 19 q 3 = num ∧ zV M' 19 q 4 = zV M 3 i 2 ∧ zV M' 19 q 5 = en ∧ zV M' 19 q 6 = 0 ∧ zV M' 21 q 3 = zV M 5 i 3 ∧
  (∀ j : Nat, (j : Int) < zV M 5 i 3 → zV M' 22 q j = zV M 6 i j ∧ zV M' 23 q j = zV M 7 i j ∧ zV M' 24 q j = zV M 8 i j) ∧
  (∀ j : Nat, zV M 5 i 3 ≤ j → zV M' 22 q j = zV M 22 q j ∧ zV M' 23 q j = zV M 23 q j ∧ zV M' 24 q j = zV M 24 q j) ∧
  (∀ j : Nat, j < 4 → zV M' 25 q j = 0) ∧
  ∀ κ' i' j' : Nat, ¬ (i' = q ∧ (κ' = 19 ∧ 3 ≤ j' ∨ κ' = 21 ∧ j' = 3 ∨ κ' = 22 ∨ κ' = 23 ∨ κ' = 24 ∨ κ' = 25)) → M' κ' i' j' = M κ' i' j'
def zkpk (M M1 : zMem) (q : Nat) (k : Int) : Prop := (∀ j : Nat, (j : Int) < k → zV M1 25 q j = 0) ∧ ∀ κ' i' j' : Nat, ¬ (κ' = 25 ∧ i' = q) → M1 κ' i' j' = M κ' i' j'
theorem zkpk_1 {M M1 : zMem} {q : Nat} {k : Int} (hk : 0 ≤ k) (h : zkpk M M1 q k) : zkpk M (zup M1 25 q k.toNat (zI 0)) q (k + 1) := by
  refine ⟨fun j hj => ?_, fun κ' i' j' h9 => ?_⟩
  · by_cases z : j = k.toNat
    · subst z; exact zV_eq (by decide)
    · rw [zV_nj z]; exact h.1 j (by omega)
  · rw [zup_at (fun z => h9 ⟨z.1, z.2.1⟩)]; exact h.2 κ' i' j' h9
theorem zkp_end {M Ma Mb Mc Md : zMem} {q i : Nat} {num en : Int} (hnum : zrg num) (hen : zrg en) (ha : Ma = zup (zup M 19 q 3 (zI num)) 19 q 4 (zI (zV M 3 i 2))) (hb : zcopy Ma Mb q i (zV Ma 5 i 3)) (hc : zkpk Mb Mc q 4) (hd : Md = zup (zup Mc 19 q 5 (zI en)) 19 q 6 (zI 0)) : zkp M Md q i num en := by
  obtain ⟨b0, b1, b2, b3⟩ := hb
  obtain ⟨c1, c2⟩ := hc
  subst hd
  have e5 : zV Ma 5 i 3 = zV M 5 i 3 := by rw [ha, zV_ne (by decide), zV_ne (by decide)]
  have c19 : ∀ j, zV Mc 19 q j = zV Ma 19 q j := fun j => (zV_of (c2 19 q j (by omega))).trans (zV_of (b3 19 q j (by omega)))
  have hc' : ∀ κ' j, κ' ≠ 25 → zV Mc κ' q j = zV Mb κ' q j := fun κ' j h => zV_of (c2 κ' q j (fun z => h z.1))
  have a22 : ∀ κ' i' j, κ' ≠ 19 → zV Ma κ' i' j = zV M κ' i' j := fun κ' i' j h => by rw [ha, zV_ne h, zV_ne h]
  refine ⟨?_, ?_, ?_, ?_, ?_, fun j hj => ?_, fun j hj => ?_, fun j hj => ?_, fun κ' i' j' h => ?_⟩
  · rw [zV_nj (by decide), zV_nj (by decide), c19, ha, zV_nj (by decide), zV_eq hnum]
  · rw [zV_nj (by decide), zV_nj (by decide), c19, ha, zV_eq (zV_rg _ _ _ _)]
  · rw [zV_nj (by decide), zV_eq hen]
  · exact zV_eq (by decide)
  · rw [zV_ne (by decide), zV_ne (by decide), hc' 21 3 (by decide), b0, e5]
  · obtain ⟨d1, d2, d3⟩ := b1 j (by rw [e5]; exact hj)
    refine ⟨?_, ?_, ?_⟩
    · rw [zV_ne (by decide), zV_ne (by decide), hc' 22 j (by decide), d1, a22 _ _ _ (by decide)]
    · rw [zV_ne (by decide), zV_ne (by decide), hc' 23 j (by decide), d2, a22 _ _ _ (by decide)]
    · rw [zV_ne (by decide), zV_ne (by decide), hc' 24 j (by decide), d3, a22 _ _ _ (by decide)]
  · obtain ⟨d1, d2, d3⟩ := b2 j (by rw [e5]; exact hj)
    refine ⟨?_, ?_, ?_⟩
    · rw [zV_ne (by decide), zV_ne (by decide), hc' 22 j (by decide), d1, a22 _ _ _ (by decide)]
    · rw [zV_ne (by decide), zV_ne (by decide), hc' 23 j (by decide), d2, a22 _ _ _ (by decide)]
    · rw [zV_ne (by decide), zV_ne (by decide), hc' 24 j (by decide), d3, a22 _ _ _ (by decide)]
  · rw [zV_ne (by decide), zV_ne (by decide)]; exact c1 j (by omega)
  · rw [zup_at (fun z => h ⟨z.2.1, by omega⟩), zup_at (fun z => h ⟨z.2.1, by omega⟩), c2 κ' i' j' (fun z => h ⟨z.2, by omega⟩), b3 κ' i' j' (fun z => h ⟨z.1, by omega⟩), ha, zup_at (fun z => h ⟨z.2.1, by omega⟩), zup_at (fun z => h ⟨z.2.1, by omega⟩)]
section ZNORM
variable {p : Program} {l : Launch} {e : Env} {R : Room} {s : State} {m : MethodId} {args : Array Value} {below : List Frame} {meth : Method} {c : Code} {G : zG} {nL : Nat} {Q : State → Prop} {M : zMem} {cells slots pc : Nat} {lv : List (Nat × Value)} {st : List Value}
theorem z_norm {x : Int} (k : ∀ y : Int, y = zw x → zrg y → zZ p l e R s m args below meth c G nL Q M cells slots pc lv (.int (zI y) :: st)) : zZ p l e R s m args below meth c G nL Q M cells slots pc lv (.int (zI x) :: st) := by
  have h := k _ rfl (zw_rg x)
  rw [zw_I] at h
  exact h
end ZNORM
/-- what a packet makes of an entry: its answer, and the memory then -/
def zsnd (M M' : zMem) (r q : Nat) (x : Int) : Prop :=
  (zV M 19 q 3 = -1 ∧ x = -1 ∧ M' = M) ∨ (zV M 19 q 3 ≠ -1 ∧ zech M r q (zeb M r q) = -1 ∧ x = -3 ∧ M' = M) ∨
  (zV M 19 q 3 ≠ -1 ∧ 0 ≤ zech M r q (zeb M r q) ∧ zech M r q (zeb M r q) < zV M 21 q 3 ∧ x = zea M q (zech M r q (zeb M r q)).toNat ∧ M' = zup M 25 q (zech M r q (zeb M r q)).toNat (zI (zek M q (zech M r q (zeb M r q)).toNat + 1)))
end
section
set_option maxHeartbeats 4000000 in
set_option maxRecDepth 100000 in
theorem c_X0_hasEnded (l : Launch) (G : zG) (M : zMem) (q : Nat) (hq : q < 24) (t : Int) (ht : zrg t) : Met l yX0_hasEnded [.code yX0_hasEnded cX0_hasEnded 2 (some .boolean)] (zR 0 0 0) (zPc G M [.ref (zad G 19 q), .int (zI t)]) (zQi G (fun x M' => M = M' ∧ zb x (zV M 19 q 5 ≤ t))) 0 0 (zA G) := by
  refine z_met [(0, .ref (zad G 19 q)), (1, .int (zI t))] (by decide) (Nat.le_of_ble_eq_true rfl) rfl ?_
  intro p e s m below meth c C
  have C : zC p s m ([.ref (zad G 19 q), .int (zI t)] : List Value).toArray meth c G RX0 cX0_hasEnded 2 (some .boolean) := C
  refine z_iload_n C 0 dX0_hasEnded_0 rfl 1 rfl ?_
  refine z_aload_n C 1 dX0_hasEnded_1 rfl 0 rfl ?_
  refine z_getI C 2 zcl0 (show q < 24 by omega) (zc19 ..) 5 (by decide) rfl wf_0_36 dX0_hasEnded_2 (fun zq1 ezq1 hzq1 => ?_)
  refine z_icmp_lt C 5 12 dX0_hasEnded_5 (by decide) (by first | assumption | omega) hzq1 (fun c5_9 => ?_) (fun c5_9 => ?_)
  · refine z_iconst C 12 dX0_hasEnded_12 ?_
    refine z_zret C 13 dX0_hasEnded_13 (by decide) (by decide) (by decide) ?_
    exact ⟨rfl, zb.zero (by omega)⟩
  refine z_iconst C 8 dX0_hasEnded_8 ?_
  refine z_goto C 9 13 dX0_hasEnded_9 (by decide) ?_
  refine z_zret C 13 dX0_hasEnded_13 (by decide) (by decide) (by decide) ?_
  exact ⟨rfl, zb.one (by omega)⟩
set_option maxHeartbeats 4000000 in
set_option maxRecDepth 100000 in
theorem c_X0_keepNegative (l : Launch) (G : zG) (M : zMem) (q : Nat) (hq : q < 24) (t : Int) : Met l yX0_keepNegative [.code yX0_keepNegative cX0_keepNegative 2 none] (zR 1 0 0) (zPc G M [.ref (zad G 19 q), .int (zI t)]) (zQv G (fun M' => M' = zup (zup (zup (zup M 19 q 3 (zI (-1))) 21 q 3 (zI 0)) 19 q 5 (zI t)) 19 q 6 (zI 0))) 0 0 (zA G) := by
  refine z_met [(0, .ref (zad G 19 q)), (1, .int (zI t))] (by decide) (Nat.le_of_ble_eq_true rfl) rfl ?_
  intro p e s m below meth c C
  have C : zC p s m ([.ref (zad G 19 q), .int (zI t)] : List Value).toArray meth c G RX0 cX0_keepNegative 2 none := C
  refine z_aload_n C 0 dX0_keepNegative_0 rfl 0 rfl ?_
  refine z_iconst C 1 dX0_keepNegative_1 ?_
  refine z_putI C 2 zcl0 (show q < 24 by omega) (zc19 ..) 3 (by decide) wf_0_29 rfl rfl rfl (Nat.le_of_ble_eq_true rfl) (zc19 ..) dX0_keepNegative_2 ?_
  refine z_aload_n C 5 dX0_keepNegative_5 rfl 0 rfl ?_
  refine z_get C 6 zcl0 (show q < 24 by omega) (zc19 ..) 1 (by decide) rfl wf_0_21 dX0_keepNegative_6 ?_
  refine z_callVv C 9 (As := []) (rest := []) (c_X1_clear_21 l G (zup M 19 q 3 (zI (-1))) q hq) zcl1 (show q < 24 by omega) (zc21 ..) (zW_of 0 C wm_0_43 wc_X1_clear wini_1 wi_X1_clear wse_X1_clear ⟨by decide, by decide, by decide⟩ ⟨by decide, by decide⟩) rfl (Nat.le_of_ble_eq_true rfl) ⟨by decide, by decide⟩ dX0_keepNegative_9 rfl (fun Mz2 hPz1 => ?_)
  refine z_aload_n C 12 dX0_keepNegative_12 rfl 0 rfl ?_
  refine z_iload_n C 13 dX0_keepNegative_13 rfl 1 rfl ?_
  refine z_putI C 14 zcl0 (show q < 24 by omega) (zc19 ..) 5 (by decide) wf_0_36 rfl rfl rfl (Nat.le_of_ble_eq_true rfl) (zc19 ..) dX0_keepNegative_14 ?_
  refine z_aload_n C 17 dX0_keepNegative_17 rfl 0 rfl ?_
  refine z_iconst C 18 dX0_keepNegative_18 ?_
  refine z_putI C 19 zcl0 (show q < 24 by omega) (zc19 ..) 6 (by decide) wf_0_39 rfl rfl rfl (Nat.le_of_ble_eq_true rfl) (zc19 ..) dX0_keepNegative_19 ?_
  refine z_vret C 22 dX0_keepNegative_22 (by decide) (by decide) ?_
  rw [hPz1]
set_option maxHeartbeats 4000000 in
set_option maxRecDepth 100000 in
theorem c_X0_keepPositive (l : Launch) (G : zG) (M : zMem) (q : Nat) (hq : q < 24) (num : Int) (hnum : zrg num) (i : Nat) (hi : i < 24) (t : Int) (ht : zrg t) (hn : 0 ≤ zV M 5 i 3 ∧ zV M 5 i 3 ≤ 4) : Met l yX0_keepPositive [.code yX0_keepPositive cX0_keepPositive 5 none] (zR 2 0 0) (zPc G M [.ref (zad G 19 q), .int (zI num), .ref (zad G 3 i), .int (zI t)]) (zQv G (fun M' => zkp M M' q i num t)) 0 0 (zA G) := by
  refine z_met [(0, .ref (zad G 19 q)), (1, .int (zI num)), (2, .ref (zad G 3 i)), (3, .int (zI t))] (by decide) (Nat.le_of_ble_eq_true rfl) rfl ?_
  intro p e s m below meth c C
  have C : zC p s m ([.ref (zad G 19 q), .int (zI num), .ref (zad G 3 i), .int (zI t)] : List Value).toArray meth c G RX0 cX0_keepPositive 5 none := C
  refine z_aload_n C 0 dX0_keepPositive_0 rfl 0 rfl ?_
  refine z_iload_n C 1 dX0_keepPositive_1 rfl 1 rfl ?_
  refine z_putI C 2 zcl0 (show q < 24 by omega) (zc19 ..) 3 (by decide) wf_0_29 rfl rfl rfl (Nat.le_of_ble_eq_true rfl) (zc19 ..) dX0_keepPositive_2 ?_
  refine z_aload_n C 5 dX0_keepPositive_5 rfl 0 rfl ?_
  refine z_aload_n C 6 dX0_keepPositive_6 rfl 2 rfl ?_
  refine z_getI C 7 zcl2 (show i < 24 by omega) (zc3 ..) 2 (by decide) rfl wf_0_46 dX0_keepPositive_7 (fun zq1 ezq1 hzq1 => ?_)
  rw [zV_ne (by decide)] at ezq1
  refine z_putI C 10 zcl0 (show q < 24 by omega) (zc19 ..) 4 (by decide) wf_0_33 rfl rfl rfl (Nat.le_of_ble_eq_true rfl) (zc19 ..) dX0_keepPositive_10 ?_
  refine z_aload_n C 13 dX0_keepPositive_13 rfl 0 rfl ?_
  refine z_get C 14 zcl0 (show q < 24 by omega) (zc19 ..) 1 (by decide) rfl wf_0_21 dX0_keepPositive_14 ?_
  refine z_aload_n C 17 dX0_keepPositive_17 rfl 2 rfl ?_
  refine z_get C 18 zcl2 (show i < 24 by omega) (zc3 ..) 1 (by decide) rfl wf_0_49 dX0_keepPositive_18 ?_
  refine z_callVv C 21 (As := [.ref (zad G 5 i)]) (rest := []) (c_X1_copy_21 l G (zup (zup M 19 q 3 (zI num)) 19 q 4 (zI zq1)) q hq i hi (by rw [zV_ne (by decide), zV_ne (by decide)]; exact hn)) zcl1 (show q < 24 by omega) (zc21 ..) (zW_of 1 C wm_0_50 wc_X1_copy wini_1 wi_X1_copy wse_X1_copy ⟨by decide, by decide, by decide⟩ ⟨by decide, by decide⟩) rfl (Nat.le_of_ble_eq_true rfl) ⟨by decide, by decide⟩ dX0_keepPositive_21 rfl (fun Mz3 hPz2 => ?_)
  refine z_iconst C 24 dX0_keepPositive_24 ?_
  refine z_istore (lv' := [(4, .int (zI 0)), (0, .ref (zad G 19 q)), (1, .int (zI num)), (2, .ref (zad G 3 i)), (3, .int (zI t))]) C 25 dX0_keepPositive_25 (by decide) rfl ?_
  have L27_4 : ∀ (kz4 : Nat) (M1 : zMem) (k : Int), (0 ≤ k ∧ k ≤ 4) → (zkpk Mz3 M1 q k) → (4 - k) < (kz4 : Int) → zZ p l e (zR 2 0 0) s m ([.ref (zad G 19 q), .int (zI num), .ref (zad G 3 i), .int (zI t)] : List Value).toArray below meth c G 5 (MQ below (zQv G (fun M' => zkp M M' q i num t)) ([.ref (zad G 19 q), .int (zI num), .ref (zad G 3 i), .int (zI t)] : List Value).toArray s 0 0 (zA G)) M1 0 0 27 [(0, .ref (zad G 19 q)), (1, .int (zI num)), (2, .ref (zad G 3 i)), (3, .int (zI t)), (4, .int (zI k))] [] := by
    intro kz4
    induction kz4 with
    | zero =>
      intro M1 k g0 g1 hk
      exact absurd hk (by omega)
    | succ kz4 ihz5 =>
      intro M1 k g0 g1 hk
      refine z_iload C 27 dX0_keepPositive_27 4 rfl ?_
      refine z_iconst C 29 dX0_keepPositive_29 ?_
      refine z_icmp_ge C 30 47 dX0_keepPositive_30 (by decide) (by first | assumption | omega) (by decide) (fun c30_31 => ?_) (fun c30_31 => ?_)
      · refine z_aload_n C 47 dX0_keepPositive_47 rfl 0 rfl ?_
        refine z_iload_n C 48 dX0_keepPositive_48 rfl 3 rfl ?_
        refine z_putI C 49 zcl0 (show q < 24 by omega) (zc19 ..) 5 (by decide) wf_0_36 rfl rfl rfl (Nat.le_of_ble_eq_true rfl) (zc19 ..) dX0_keepPositive_49 ?_
        refine z_aload_n C 52 dX0_keepPositive_52 rfl 0 rfl ?_
        refine z_iconst C 53 dX0_keepPositive_53 ?_
        refine z_putI C 54 zcl0 (show q < 24 by omega) (zc19 ..) 6 (by decide) wf_0_39 rfl rfl rfl (Nat.le_of_ble_eq_true rfl) (zc19 ..) dX0_keepPositive_54 ?_
        refine z_vret C 57 dX0_keepPositive_57 (by decide) (by decide) ?_
        have hk9 : k = 4 := by omega
        subst hk9
        exact zkp_end hnum ht (by rw [ezq1]) hPz2 g1 rfl
      refine z_aload_n C 33 dX0_keepPositive_33 rfl 0 rfl ?_
      refine z_get C 34 zcl0 (show q < 24 by omega) (zc19 ..) 2 (by decide) rfl wf_0_25 dX0_keepPositive_34 ?_
      refine z_iload C 37 dX0_keepPositive_37 4 rfl ?_
      refine z_iconst C 39 dX0_keepPositive_39 ?_
      refine z_iast C 40 (show q < 24 by omega) (zc25 ..) (by first | assumption | omega) (by omega) (show k < ((4 : Nat) : Int) by omega) (zc25 ..) dX0_keepPositive_40 ?_
      refine z_iinc (lv' := [(4, .int (zI (k + 1))), (0, .ref (zad G 19 q)), (1, .int (zI num)), (2, .ref (zad G 3 i)), (3, .int (zI t))]) C 41 dX0_keepPositive_41 4 rfl (by decide) rfl ?_
      refine z_goto C 44 27 dX0_keepPositive_44 (by decide) ?_
      refine z_sub (lv' := [(0, .ref (zad G 19 q)), (1, .int (zI num)), (2, .ref (zad G 3 i)), (3, .int (zI t)), (4, .int (zI (k + 1)))]) [1, 2, 3, 4, 0] rfl ?_
      exact ihz5 (zup M1 25 q k.toNat (zI 0)) (k + 1) (by omega) (by exact zkpk_1 (by omega) g1) (by omega)
  refine z_sub (lv' := [(0, .ref (zad G 19 q)), (1, .int (zI num)), (2, .ref (zad G 3 i)), (3, .int (zI t)), (4, .int (zI 0))]) [1, 2, 3, 4, 0] rfl ?_
  exact L27_4 (((4 - 0 : Int)).toNat + 1) Mz3 0 (by omega) (by exact ⟨fun j hj => absurd hj (by omega), fun _ _ _ _ => rfl⟩) (by omega)
set_option maxHeartbeats 4000000 in
set_option maxRecDepth 100000 in
theorem c_X0_isLookedAt (l : Launch) (G : zG) (M : zMem) (q : Nat) (hq : q < 24) (r : Nat) (hr : r < 3) (hw : zwe M q) (k b : Int) (hk : 0 ≤ k ∧ k < 4) (hb : zrg b) : Met l yX0_isLookedAt [.code yX0_isLookedAt cX0_isLookedAt 4 (some .boolean)] (zR 0 0 0) (zPc G M [.ref (zad G 19 q), .int (zI k), .ref (zad G 18 r), .int (zI b)]) (zQi G (fun x M' => M = M' ∧ zb x (zlk (zun M r) (zea M q) (zep M q) b k.toNat))) 0 0 (zA G) := by
  refine z_met [(0, .ref (zad G 19 q)), (1, .int (zI k)), (2, .ref (zad G 18 r)), (3, .int (zI b))] (by decide) (Nat.le_of_ble_eq_true rfl) rfl ?_
  intro p e s m below meth c C
  have C : zC p s m ([.ref (zad G 19 q), .int (zI k), .ref (zad G 18 r), .int (zI b)] : List Value).toArray meth c G RX0 cX0_isLookedAt 4 (some .boolean) := C
  have hw9z := hw
  obtain ⟨⟨n0, n1⟩, ha⟩ := hw9z
  have ha9 := ha k.toNat (by omega)
  refine z_aload_n C 0 dX0_isLookedAt_0 rfl 0 rfl ?_
  refine z_get C 1 zcl0 (show q < 24 by omega) (zc19 ..) 1 (by decide) rfl wf_0_21 dX0_isLookedAt_1 ?_
  refine z_get C 4 zcl1 (show q < 24 by omega) (zc21 ..) 1 (by decide) rfl wf_0_68 dX0_isLookedAt_4 ?_
  refine z_iload_n C 7 dX0_isLookedAt_7 rfl 1 rfl ?_
  refine z_iald C 8 (show q < 24 by omega) (zc23 ..) (by first | assumption | omega) (by omega) (show k < ((4 : Nat) : Int) by omega) dX0_isLookedAt_8 (fun zq1 ezq1 hzq1 => ?_)
  refine z_iload_n C 9 dX0_isLookedAt_9 rfl 3 rfl ?_
  refine z_icmp_ne C 10 31 dX0_isLookedAt_10 (by decide) hzq1 (by first | assumption | omega) (fun c10_15 => ?_) (fun c10_15 => ?_)
  · have hF : ¬ zlk (zun M r) (zea M q) (zep M q) b k.toNat := fun z => by have z1 : zV M 23 q k.toNat = b := z.1; omega
    refine z_iconst C 31 dX0_isLookedAt_31 ?_
    refine z_zret C 32 dX0_isLookedAt_32 (by decide) (by decide) (by decide) ?_
    exact ⟨rfl, zb.zero hF⟩
  refine z_aload_n C 13 dX0_isLookedAt_13 rfl 2 rfl ?_
  refine z_aload_n C 14 dX0_isLookedAt_14 rfl 0 rfl ?_
  refine z_get C 15 zcl0 (show q < 24 by omega) (zc19 ..) 1 (by decide) rfl wf_0_21 dX0_isLookedAt_15 ?_
  refine z_get C 18 zcl1 (show q < 24 by omega) (zc21 ..) 0 (by decide) rfl wf_0_62 dX0_isLookedAt_18 ?_
  refine z_iload_n C 21 dX0_isLookedAt_21 rfl 1 rfl ?_
  refine z_iald C 22 (show q < 24 by omega) (zc22 ..) (by first | assumption | omega) (by omega) (show k < ((4 : Nat) : Int) by omega) dX0_isLookedAt_22 (fun zq2 ezq2 hzq2 => ?_)
  refine z_zald C 23 (show r < 3 by omega) (zc18 ..) hzq2 (by omega) (show zq2 < ((32 : Nat) : Int) by omega) dX0_isLookedAt_23 (fun zq3 ezq3 hzq3 => ?_)
  refine z_if_ne C 24 31 dX0_isLookedAt_24 (by decide) hzq3 (fun c24_27 => ?_) (fun c24_27 => ?_)
  · have hF : ¬ zlk (zun M r) (zea M q) (zep M q) b k.toNat := fun z => by have z1 : zV M 18 r (zV M 22 q k.toNat).toNat = 0 := z.2; rw [← ezq2, ← ezq3] at z1; omega
    refine z_iconst C 31 dX0_isLookedAt_31 ?_
    refine z_zret C 32 dX0_isLookedAt_32 (by decide) (by decide) (by decide) ?_
    exact ⟨rfl, zb.zero hF⟩
  refine z_iconst C 27 dX0_isLookedAt_27 ?_
  refine z_goto C 28 32 dX0_isLookedAt_28 (by decide) ?_
  refine z_zret C 32 dX0_isLookedAt_32 (by decide) (by decide) (by decide) ?_
  exact ⟨rfl, zb.one ⟨by show zV M 23 q k.toNat = b; omega, by show zV M 18 r (zV M 22 q k.toNat).toNat = 0; rw [← ezq2, ← ezq3]; omega⟩⟩
set_option maxHeartbeats 4000000 in
set_option maxRecDepth 100000 in
theorem c_X0_bestPriority (l : Launch) (G : zG) (M : zMem) (q : Nat) (hq : q < 24) (r : Nat) (hr : r < 3) (hw : zwe M q)  : Met l yX0_bestPriority [.code yX0_bestPriority cX0_bestPriority 4 (some .int)] (zR 1 0 0) (zPc G M [.ref (zad G 19 q), .ref (zad G 18 r)]) (zQi G (fun x M' => M = M' ∧ x = zeb M r q)) 0 0 (zA G) := by
  refine z_met [(0, .ref (zad G 19 q)), (1, .ref (zad G 18 r))] (by decide) (Nat.le_of_ble_eq_true rfl) rfl ?_
  intro p e s m below meth c C
  have C : zC p s m ([.ref (zad G 19 q), .ref (zad G 18 r)] : List Value).toArray meth c G RX0 cX0_bestPriority 4 (some .int) := C
  have hw9z := hw
  obtain ⟨⟨n0, n1⟩, ha⟩ := hw9z
  refine z_iconst C 0 dX0_bestPriority_0 ?_
  refine z_istore_n (lv' := [(2, .int (zI 4)), (0, .ref (zad G 19 q)), (1, .ref (zad G 18 r))]) C 1 dX0_bestPriority_1 rfl (by decide) rfl ?_
  refine z_iconst C 2 dX0_bestPriority_2 ?_
  refine z_istore_n (lv' := [(3, .int (zI 0)), (2, .int (zI 4)), (0, .ref (zad G 19 q)), (1, .ref (zad G 18 r))]) C 3 dX0_bestPriority_3 rfl (by decide) rfl ?_
  have L4_1 : ∀ (kz1 : Nat) (b : Int) (k : Int), (0 ≤ k ∧ k ≤ zV M 21 q 3) → (b = zbp (zun M r) (zea M q) (zep M q) k.toNat) → (zrg b) → (zV M 21 q 3 - k) < (kz1 : Int) → zZ p l e (zR 1 0 0) s m ([.ref (zad G 19 q), .ref (zad G 18 r)] : List Value).toArray below meth c G 4 (MQ below (zQi G (fun x M' => M = M' ∧ x = zeb M r q)) ([.ref (zad G 19 q), .ref (zad G 18 r)] : List Value).toArray s 0 0 (zA G)) M 0 0 4 [(0, .ref (zad G 19 q)), (1, .ref (zad G 18 r)), (2, .int (zI b)), (3, .int (zI k))] [] := by
    intro kz1
    induction kz1 with
    | zero =>
      intro b k g0 g1 g2 hk
      exact absurd hk (by omega)
    | succ kz1 ihz2 =>
      intro b k g0 g1 g2 hk
      have ha9 := ha k.toNat
      refine z_iload_n C 4 dX0_bestPriority_4 rfl 3 rfl ?_
      refine z_aload_n C 5 dX0_bestPriority_5 rfl 0 rfl ?_
      refine z_get C 6 zcl0 (show q < 24 by omega) (zc19 ..) 1 (by decide) rfl wf_0_21 dX0_bestPriority_6 ?_
      refine z_getI C 9 zcl1 (show q < 24 by omega) (zc21 ..) 3 (by decide) rfl wf_0_65 dX0_bestPriority_9 (fun zq3 ezq3 hzq3 => ?_)
      refine z_icmp_ge C 12 49 dX0_bestPriority_12 (by decide) (by first | assumption | omega) hzq3 (fun c12_25 => ?_) (fun c12_25 => ?_)
      · refine z_iload_n C 49 dX0_bestPriority_49 rfl 2 rfl ?_
        refine z_iret C 50 dX0_bestPriority_50 (by decide) (by decide) (by first | assumption | omega) ?_
        refine ⟨rfl, ?_⟩
        rw [g1]
        unfold zeb
        rw [show k = zV M 21 q 3 by omega]
      refine z_aload_n C 15 dX0_bestPriority_15 rfl 1 rfl ?_
      refine z_aload_n C 16 dX0_bestPriority_16 rfl 0 rfl ?_
      refine z_get C 17 zcl0 (show q < 24 by omega) (zc19 ..) 1 (by decide) rfl wf_0_21 dX0_bestPriority_17 ?_
      refine z_get C 20 zcl1 (show q < 24 by omega) (zc21 ..) 0 (by decide) rfl wf_0_62 dX0_bestPriority_20 ?_
      refine z_iload_n C 23 dX0_bestPriority_23 rfl 3 rfl ?_
      refine z_iald C 24 (show q < 24 by omega) (zc22 ..) (by first | assumption | omega) (by omega) (show k < ((4 : Nat) : Int) by omega) dX0_bestPriority_24 (fun zq4 ezq4 hzq4 => ?_)
      refine z_zald C 25 (show r < 3 by omega) (zc18 ..) hzq4 (by omega) (show zq4 < ((32 : Nat) : Int) by omega) dX0_bestPriority_25 (fun zq5 ezq5 hzq5 => ?_)
      refine z_if_ne C 26 43 dX0_bestPriority_26 (by decide) hzq5 (fun c26_39 => ?_) (fun c26_39 => ?_)
      · refine z_iinc (lv' := [(3, .int (zI (k + 1))), (0, .ref (zad G 19 q)), (1, .ref (zad G 18 r)), (2, .int (zI b))]) C 43 dX0_bestPriority_43 3 rfl (by decide) rfl ?_
        refine z_goto C 46 4 dX0_bestPriority_46 (by decide) ?_
        refine z_sub (lv' := [(0, .ref (zad G 19 q)), (1, .ref (zad G 18 r)), (2, .int (zI b)), (3, .int (zI (k + 1)))]) [1, 2, 3, 0] rfl ?_
        exact ihz2 b (k + 1) (by omega) (by rw [zbp_s _ _ _ (by omega), if_neg (by show ¬ zV M 18 r (zV M 22 q k.toNat).toNat = 0; rw [← ezq4, ← ezq5]; omega)]; exact g1) (by omega) (by omega)
      refine z_iload_n C 29 dX0_bestPriority_29 rfl 2 rfl ?_
      refine z_aload_n C 30 dX0_bestPriority_30 rfl 0 rfl ?_
      refine z_get C 31 zcl0 (show q < 24 by omega) (zc19 ..) 1 (by decide) rfl wf_0_21 dX0_bestPriority_31 ?_
      refine z_get C 34 zcl1 (show q < 24 by omega) (zc21 ..) 1 (by decide) rfl wf_0_68 dX0_bestPriority_34 ?_
      refine z_iload_n C 37 dX0_bestPriority_37 rfl 3 rfl ?_
      refine z_iald C 38 (show q < 24 by omega) (zc23 ..) (by first | assumption | omega) (by omega) (show k < ((4 : Nat) : Int) by omega) dX0_bestPriority_38 (fun zq6 ezq6 hzq6 => ?_)
      refine z_min C 39 wm_0_71 (by first | assumption | omega) hzq6 (by decide) dX0_bestPriority_39 ?_
      refine z_istore_n (lv' := [(2, .int (zI (min b zq6))), (0, .ref (zad G 19 q)), (1, .ref (zad G 18 r)), (3, .int (zI k))]) C 42 dX0_bestPriority_42 rfl (by decide) rfl ?_
      refine z_iinc (lv' := [(3, .int (zI (k + 1))), (2, .int (zI (min b zq6))), (0, .ref (zad G 19 q)), (1, .ref (zad G 18 r))]) C 43 dX0_bestPriority_43 3 rfl (by decide) rfl ?_
      refine z_goto C 46 4 dX0_bestPriority_46 (by decide) ?_
      refine z_sub (lv' := [(0, .ref (zad G 19 q)), (1, .ref (zad G 18 r)), (2, .int (zI (min b zq6))), (3, .int (zI (k + 1)))]) [2, 3, 1, 0] rfl ?_
      exact ihz2 (min b zq6) (k + 1) (by omega) (by rw [zbp_s _ _ _ (by omega), if_pos (by show zV M 18 r (zV M 22 q k.toNat).toNat = 0; rw [← ezq4, ← ezq5]; omega), ← g1, ezq6]; rfl) (by omega) (by omega)
  refine z_sub (lv' := [(0, .ref (zad G 19 q)), (1, .ref (zad G 18 r)), (2, .int (zI 4)), (3, .int (zI 0))]) [2, 3, 1, 0] rfl ?_
  exact L4_1 (((zV M 21 q 3 - 0 : Int)).toNat + 1) 4 0 (by omega) (by rfl) (by omega) (by omega)
set_option maxHeartbeats 4000000 in
set_option maxRecDepth 100000 in
theorem c_X0_choose (l : Launch) (G : zG) (M : zMem) (q : Nat) (hq : q < 24) (r : Nat) (hr : r < 3) (hw : zwe M q) (b : Int) (hb : zrg b) : Met l yX0_choose [.code yX0_choose cX0_choose 9 (some .int)] (zR 1 0 0) (zPc G M [.ref (zad G 19 q), .ref (zad G 18 r), .int (zI b)]) (zQi G (fun x M' => M = M' ∧ x = zech M r q b)) 0 0 (zA G) := by
  refine z_met [(0, .ref (zad G 19 q)), (1, .ref (zad G 18 r)), (2, .int (zI b))] (by decide) (Nat.le_of_ble_eq_true rfl) rfl ?_
  intro p e s m below meth c C
  have C : zC p s m ([.ref (zad G 19 q), .ref (zad G 18 r), .int (zI b)] : List Value).toArray meth c G RX0 cX0_choose 9 (some .int) := C
  have hw9z := hw
  obtain ⟨⟨n0, n1⟩, ha⟩ := hw9z
  refine z_iconst C 0 dX0_choose_0 ?_
  refine z_istore_n (lv' := [(3, .int (zI 0)), (0, .ref (zad G 19 q)), (1, .ref (zad G 18 r)), (2, .int (zI b))]) C 1 dX0_choose_1 rfl (by decide) rfl ?_
  refine z_iconst C 2 dX0_choose_2 ?_
  refine z_istore (lv' := [(4, .int (zI 0)), (3, .int (zI 0)), (0, .ref (zad G 19 q)), (1, .ref (zad G 18 r)), (2, .int (zI b))]) C 3 dX0_choose_3 (by decide) rfl ?_
  refine z_iconst C 5 dX0_choose_5 ?_
  refine z_istore (lv' := [(5, .int (zI 0)), (4, .int (zI 0)), (3, .int (zI 0)), (0, .ref (zad G 19 q)), (1, .ref (zad G 18 r)), (2, .int (zI b))]) C 6 dX0_choose_6 (by decide) rfl ?_
  have L8_1 : ∀ (kz1 : Nat) (S : Int) (w : Int) (k : Int), (0 ≤ k ∧ k ≤ zV M 21 q 3) → (S = zsm (zls (zun M r) (zea M q) (zep M q) (zek M q) b) k.toNat) → (w = zsm (zls (zun M r) (zea M q) (zep M q) (zew M q) b) k.toNat) → (zV M 21 q 3 - k) < (kz1 : Int) → zZ p l e (zR 1 0 0) s m ([.ref (zad G 19 q), .ref (zad G 18 r), .int (zI b)] : List Value).toArray below meth c G 9 (MQ below (zQi G (fun x M' => M = M' ∧ x = zech M r q b)) ([.ref (zad G 19 q), .ref (zad G 18 r), .int (zI b)] : List Value).toArray s 0 0 (zA G)) M 0 0 8 [(0, .ref (zad G 19 q)), (1, .ref (zad G 18 r)), (2, .int (zI b)), (3, .int (zI S)), (4, .int (zI w)), (5, .int (zI k))] [] := by
    intro kz1
    induction kz1 with
    | zero =>
      intro S w k g0 g1 g2 hk
      exact absurd hk (by omega)
    | succ kz1 ihz2 =>
      intro S w k g0 g1 g2 hk
      refine z_iload C 8 dX0_choose_8 5 rfl ?_
      refine z_aload_n C 10 dX0_choose_10 rfl 0 rfl ?_
      refine z_get C 11 zcl0 (show q < 24 by omega) (zc19 ..) 1 (by decide) rfl wf_0_21 dX0_choose_11 ?_
      refine z_getI C 14 zcl1 (show q < 24 by omega) (zc21 ..) 3 (by decide) rfl wf_0_65 dX0_choose_14 (fun zq3 ezq3 hzq3 => ?_)
      refine z_icmp_ge C 17 62 dX0_choose_17 (by decide) (by first | assumption | omega) hzq3 (fun c17_26 => ?_) (fun c17_26 => ?_)
      · refine z_iconst C 62 dX0_choose_62 ?_
        refine z_istore (lv' := [(5, .int (zI (-1))), (0, .ref (zad G 19 q)), (1, .ref (zad G 18 r)), (2, .int (zI b)), (3, .int (zI S)), (4, .int (zI w))]) C 63 dX0_choose_63 (by decide) rfl ?_
        refine z_iconst C 65 dX0_choose_65 ?_
        refine z_istore (lv' := [(6, .int (zI 0)), (5, .int (zI (-1))), (0, .ref (zad G 19 q)), (1, .ref (zad G 18 r)), (2, .int (zI b)), (3, .int (zI S)), (4, .int (zI w))]) C 66 dX0_choose_66 (by decide) rfl ?_
        refine z_iconst C 68 dX0_choose_68 ?_
        refine z_istore (lv' := [(7, .int (zI 0)), (6, .int (zI 0)), (5, .int (zI (-1))), (0, .ref (zad G 19 q)), (1, .ref (zad G 18 r)), (2, .int (zI b)), (3, .int (zI S)), (4, .int (zI w))]) C 69 dX0_choose_69 (by decide) rfl ?_
        have L71_4 : ∀ (kz4 : Nat) (f : Int) (y : Int) (j : Int), (0 ≤ j ∧ j ≤ zV M 21 q 3) → (zechk M r q b j.toNat = (f, y)) → (zrg y ∧ zrg f) → (zV M 21 q 3 - j) < (kz4 : Int) → zZ p l e (zR 1 0 0) s m ([.ref (zad G 19 q), .ref (zad G 18 r), .int (zI b)] : List Value).toArray below meth c G 9 (MQ below (zQi G (fun x M' => M = M' ∧ x = zech M r q b)) ([.ref (zad G 19 q), .ref (zad G 18 r), .int (zI b)] : List Value).toArray s 0 0 (zA G)) M 0 0 71 [(0, .ref (zad G 19 q)), (1, .ref (zad G 18 r)), (2, .int (zI b)), (3, .int (zI S)), (4, .int (zI w)), (5, .int (zI f)), (6, .int (zI y)), (7, .int (zI j))] [] := by
          intro kz4
          induction kz4 with
          | zero =>
            intro f y j f0 f1 f2 hk
            exact absurd hk (by omega)
          | succ kz4 ihz5 =>
            intro f y j f0 f1 f2 hk
            have hS9 : S = zeS M r q b := by rw [g1]; unfold zeS; rw [show k = zV M 21 q 3 by omega]
            have hW9 : w = zeW M r q b := by rw [g2]; unfold zeW; rw [show k = zV M 21 q 3 by omega]
            refine z_iload C 71 dX0_choose_71 7 rfl ?_
            refine z_aload_n C 73 dX0_choose_73 rfl 0 rfl ?_
            refine z_get C 74 zcl0 (show q < 24 by omega) (zc19 ..) 1 (by decide) rfl wf_0_21 dX0_choose_74 ?_
            refine z_getI C 77 zcl1 (show q < 24 by omega) (zc21 ..) 3 (by decide) rfl wf_0_65 dX0_choose_77 (fun zq6 ezq6 hzq6 => ?_)
            refine z_icmp_ge C 80 148 dX0_choose_80 (by decide) (by first | assumption | omega) hzq6 (fun c80_48 => ?_) (fun c80_48 => ?_)
            · refine z_iload C 148 dX0_choose_148 5 rfl ?_
              refine z_iret C 150 dX0_choose_150 (by decide) (by decide) (by first | assumption | omega) ?_
              refine ⟨rfl, ?_⟩
              unfold zech
              rw [← show j = zV M 21 q 3 by omega, f1]
            refine z_aload_n C 83 dX0_choose_83 rfl 0 rfl ?_
            refine z_get C 84 zcl0 (show q < 24 by omega) (zc19 ..) 1 (by decide) rfl wf_0_21 dX0_choose_84 ?_
            refine z_get C 87 zcl1 (show q < 24 by omega) (zc21 ..) 2 (by decide) rfl wf_0_81 dX0_choose_87 ?_
            refine z_iload C 90 dX0_choose_90 7 rfl ?_
            refine z_iald C 92 (show q < 24 by omega) (zc24 ..) (by first | assumption | omega) (by omega) (show j < ((4 : Nat) : Int) by omega) dX0_choose_92 (fun zq7 ezq7 hzq7 => ?_)
            refine z_iload_n C 93 dX0_choose_93 rfl 3 rfl ?_
            refine z_iconst C 94 dX0_choose_94 ?_
            refine z_iadd C 95 dX0_choose_95 ?_
            refine z_imul C 96 dX0_choose_96 ?_
            refine z_iload C 97 dX0_choose_97 4 rfl ?_
            refine z_aload_n C 99 dX0_choose_99 rfl 0 rfl ?_
            refine z_get C 100 zcl0 (show q < 24 by omega) (zc19 ..) 2 (by decide) rfl wf_0_25 dX0_choose_100 ?_
            refine z_iload C 103 dX0_choose_103 7 rfl ?_
            refine z_iald C 105 (show q < 24 by omega) (zc25 ..) (by first | assumption | omega) (by omega) (show j < ((4 : Nat) : Int) by omega) dX0_choose_105 (fun zq8 ezq8 hzq8 => ?_)
            refine z_imul C 106 dX0_choose_106 ?_
            refine z_isub C 107 dX0_choose_107 ?_
            refine z_norm ?_
            intro yy eyy hyy
            have hlk : yy = zlack (zew M q) (zek M q) (zeS M r q b) (zeW M r q b) j.toNat := by rw [eyy, hS9, hW9, ezq7, ezq8]; rfl
            refine z_istore (lv' := [(8, .int (zI yy)), (0, .ref (zad G 19 q)), (1, .ref (zad G 18 r)), (2, .int (zI b)), (3, .int (zI S)), (4, .int (zI w)), (5, .int (zI f)), (6, .int (zI y)), (7, .int (zI j))]) C 108 dX0_choose_108 (by decide) rfl ?_
            refine z_aload_n C 110 dX0_choose_110 rfl 1 rfl ?_
            refine z_iload C 111 dX0_choose_111 8 rfl ?_
            refine z_aload_n C 113 dX0_choose_113 rfl 2 rfl ?_
            refine z_iload_n C 114 dX0_choose_114 rfl 3 rfl ?_
            refine z_callVi C 115 (As := [.int (zI j), .ref (zad G 18 r), .int (zI b)]) (rest := []) (c_X0_isLookedAt l G M q hq r hr hw j b (by omega) hb) zcl0 (show q < 24 by omega) (zc19 ..) (zW_of 3 C wm_0_77 wc_X0_isLookedAt wini_0 wi_X0_isLookedAt wse_X0_isLookedAt ⟨by decide, by decide, by decide⟩ ⟨by decide, by decide⟩) rfl (Nat.le_of_ble_eq_true rfl) ⟨by decide, by decide⟩ dX0_choose_115 rfl (fun zq9 Mz10 hzq9 hPz9 => ?_)
            obtain ⟨rfl, hPz9⟩ := hPz9
            refine z_if_eq C 118 142 dX0_choose_118 (by decide) hzq9 (fun c118_80 => ?_) (fun c118_80 => ?_)
            · have hF : ¬ (zlk (zun M r) (zea M q) (zep M q) b j.toNat ∧ (f = -1 ∨ y < zlack (zew M q) (zek M q) (zeS M r q b) (zeW M r q b) j.toNat)) := fun z => (hPz9.f c118_80) z.1
              refine z_iinc (lv' := [(7, .int (zI (j + 1))), (8, .int (zI yy)), (0, .ref (zad G 19 q)), (1, .ref (zad G 18 r)), (2, .int (zI b)), (3, .int (zI S)), (4, .int (zI w)), (5, .int (zI f)), (6, .int (zI y))]) C 142 dX0_choose_142 8 rfl (by decide) rfl ?_
              refine z_goto C 145 71 dX0_choose_145 (by decide) ?_
              refine z_sub (lv' := [(0, .ref (zad G 19 q)), (1, .ref (zad G 18 r)), (2, .int (zI b)), (3, .int (zI S)), (4, .int (zI w)), (5, .int (zI f)), (6, .int (zI y)), (7, .int (zI (j + 1)))]) [2, 3, 4, 5, 6, 7, 8, 0] rfl ?_
              exact ihz5 f y (j + 1) (by omega) (by exact zch_f (by omega) f1 hF) (by omega) (by omega)
            have hT : zlk (zun M r) (zea M q) (zep M q) b j.toNat := hPz9.t c118_80
            have hY : yy = zlack (zew M q) (zek M q) (zeS M r q b) (zeW M r q b) j.toNat := hlk
            refine z_iload C 121 dX0_choose_121 6 rfl ?_
            refine z_iconst C 123 dX0_choose_123 ?_
            refine z_icmp_eq C 124 134 dX0_choose_124 (by decide) (by first | assumption | omega) (by decide) (fun c124_90 => ?_) (fun c124_90 => ?_)
            · refine z_iload C 134 dX0_choose_134 8 rfl ?_
              refine z_istore (lv' := [(5, .int (zI j)), (8, .int (zI yy)), (0, .ref (zad G 19 q)), (1, .ref (zad G 18 r)), (2, .int (zI b)), (3, .int (zI S)), (4, .int (zI w)), (6, .int (zI y)), (7, .int (zI j))]) C 136 dX0_choose_136 (by decide) rfl ?_
              refine z_iload C 138 dX0_choose_138 1 rfl ?_
              refine z_istore (lv' := [(6, .int (zI yy)), (5, .int (zI j)), (8, .int (zI yy)), (0, .ref (zad G 19 q)), (1, .ref (zad G 18 r)), (2, .int (zI b)), (3, .int (zI S)), (4, .int (zI w)), (7, .int (zI j))]) C 140 dX0_choose_140 (by decide) rfl ?_
              refine z_iinc (lv' := [(7, .int (zI (j + 1))), (6, .int (zI yy)), (5, .int (zI j)), (8, .int (zI yy)), (0, .ref (zad G 19 q)), (1, .ref (zad G 18 r)), (2, .int (zI b)), (3, .int (zI S)), (4, .int (zI w))]) C 142 dX0_choose_142 8 rfl (by decide) rfl ?_
              refine z_goto C 145 71 dX0_choose_145 (by decide) ?_
              refine z_sub (lv' := [(0, .ref (zad G 19 q)), (1, .ref (zad G 18 r)), (2, .int (zI b)), (3, .int (zI S)), (4, .int (zI w)), (5, .int (zI j)), (6, .int (zI yy)), (7, .int (zI (j + 1)))]) [4, 5, 6, 7, 8, 2, 1, 0] rfl ?_
              exact ihz5 j yy (j + 1) (by omega) (by rw [hY]; exact zch_t (by omega) f1 hT (by rw [← hlk]; omega)) (by omega) (by omega)
            refine z_iload C 127 dX0_choose_127 0 rfl ?_
            refine z_iload C 129 dX0_choose_129 7 rfl ?_
            refine z_icmp_le C 131 142 dX0_choose_131 (by decide) hyy (by first | assumption | omega) (fun c131_101 => ?_) (fun c131_101 => ?_)
            · have hF : ¬ (zlk (zun M r) (zea M q) (zep M q) b j.toNat ∧ (f = -1 ∨ y < zlack (zew M q) (zek M q) (zeS M r q b) (zeW M r q b) j.toNat)) := fun z => by have z2 := z.2; rw [← hlk] at z2; omega
              refine z_iinc (lv' := [(7, .int (zI (j + 1))), (8, .int (zI yy)), (0, .ref (zad G 19 q)), (1, .ref (zad G 18 r)), (2, .int (zI b)), (3, .int (zI S)), (4, .int (zI w)), (5, .int (zI f)), (6, .int (zI y))]) C 142 dX0_choose_142 8 rfl (by decide) rfl ?_
              refine z_goto C 145 71 dX0_choose_145 (by decide) ?_
              refine z_sub (lv' := [(0, .ref (zad G 19 q)), (1, .ref (zad G 18 r)), (2, .int (zI b)), (3, .int (zI S)), (4, .int (zI w)), (5, .int (zI f)), (6, .int (zI y)), (7, .int (zI (j + 1)))]) [2, 3, 4, 5, 6, 7, 8, 0] rfl ?_
              exact ihz5 f y (j + 1) (by omega) (by exact zch_f (by omega) f1 hF) (by omega) (by omega)
            refine z_iload C 134 dX0_choose_134 8 rfl ?_
            refine z_istore (lv' := [(5, .int (zI j)), (8, .int (zI yy)), (0, .ref (zad G 19 q)), (1, .ref (zad G 18 r)), (2, .int (zI b)), (3, .int (zI S)), (4, .int (zI w)), (6, .int (zI y)), (7, .int (zI j))]) C 136 dX0_choose_136 (by decide) rfl ?_
            refine z_iload C 138 dX0_choose_138 1 rfl ?_
            refine z_istore (lv' := [(6, .int (zI yy)), (5, .int (zI j)), (8, .int (zI yy)), (0, .ref (zad G 19 q)), (1, .ref (zad G 18 r)), (2, .int (zI b)), (3, .int (zI S)), (4, .int (zI w)), (7, .int (zI j))]) C 140 dX0_choose_140 (by decide) rfl ?_
            refine z_iinc (lv' := [(7, .int (zI (j + 1))), (6, .int (zI yy)), (5, .int (zI j)), (8, .int (zI yy)), (0, .ref (zad G 19 q)), (1, .ref (zad G 18 r)), (2, .int (zI b)), (3, .int (zI S)), (4, .int (zI w))]) C 142 dX0_choose_142 8 rfl (by decide) rfl ?_
            refine z_goto C 145 71 dX0_choose_145 (by decide) ?_
            refine z_sub (lv' := [(0, .ref (zad G 19 q)), (1, .ref (zad G 18 r)), (2, .int (zI b)), (3, .int (zI S)), (4, .int (zI w)), (5, .int (zI j)), (6, .int (zI yy)), (7, .int (zI (j + 1)))]) [4, 5, 6, 7, 8, 2, 1, 0] rfl ?_
            exact ihz5 j yy (j + 1) (by omega) (by rw [hY]; exact zch_t (by omega) f1 hT (by rw [← hlk]; omega)) (by omega) (by omega)
        refine z_sub (lv' := [(0, .ref (zad G 19 q)), (1, .ref (zad G 18 r)), (2, .int (zI b)), (3, .int (zI S)), (4, .int (zI w)), (5, .int (zI (-1))), (6, .int (zI 0)), (7, .int (zI 0))]) [3, 4, 5, 6, 7, 2, 1, 0] rfl ?_
        exact L71_4 (((zV M 21 q 3 - 0 : Int)).toNat + 1) (-1) 0 0 (by omega) (by rfl) (by omega) (by omega)
      refine z_aload_n C 20 dX0_choose_20 rfl 0 rfl ?_
      refine z_iload C 21 dX0_choose_21 5 rfl ?_
      refine z_aload_n C 23 dX0_choose_23 rfl 1 rfl ?_
      refine z_iload_n C 24 dX0_choose_24 rfl 2 rfl ?_
      refine z_callVi C 25 (As := [.int (zI k), .ref (zad G 18 r), .int (zI b)]) (rest := []) (c_X0_isLookedAt l G M q hq r hr hw k b (by omega) hb) zcl0 (show q < 24 by omega) (zc19 ..) (zW_of 3 C wm_0_77 wc_X0_isLookedAt wini_0 wi_X0_isLookedAt wse_X0_isLookedAt ⟨by decide, by decide, by decide⟩ ⟨by decide, by decide⟩) rfl (Nat.le_of_ble_eq_true rfl) ⟨by decide, by decide⟩ dX0_choose_25 rfl (fun zq11 Mz12 hzq11 hPz11 => ?_)
      obtain ⟨rfl, hPz11⟩ := hPz11
      refine z_if_eq C 28 56 dX0_choose_28 (by decide) hzq11 (fun c28_122 => ?_) (fun c28_122 => ?_)
      · refine z_iinc (lv' := [(5, .int (zI (k + 1))), (0, .ref (zad G 19 q)), (1, .ref (zad G 18 r)), (2, .int (zI b)), (3, .int (zI S)), (4, .int (zI w))]) C 56 dX0_choose_56 5 rfl (by decide) rfl ?_
        refine z_goto C 59 8 dX0_choose_59 (by decide) ?_
        refine z_sub (lv' := [(0, .ref (zad G 19 q)), (1, .ref (zad G 18 r)), (2, .int (zI b)), (3, .int (zI S)), (4, .int (zI w)), (5, .int (zI (k + 1)))]) [1, 2, 3, 4, 5, 0] rfl ?_
        exact ihz2 S w (k + 1) (by omega) (by rw [zsm_s _ (by omega), ← g1, zls_f (hPz11.f (by assumption)), Int.add_zero]) (by rw [zsm_s _ (by omega), ← g2, zls_f (hPz11.f (by assumption)), Int.add_zero]) (by omega)
      refine z_iload_n C 31 dX0_choose_31 rfl 3 rfl ?_
      refine z_aload_n C 32 dX0_choose_32 rfl 0 rfl ?_
      refine z_get C 33 zcl0 (show q < 24 by omega) (zc19 ..) 2 (by decide) rfl wf_0_25 dX0_choose_33 ?_
      refine z_iload C 36 dX0_choose_36 5 rfl ?_
      refine z_iald C 38 (show q < 24 by omega) (zc25 ..) (by first | assumption | omega) (by omega) (show k < ((4 : Nat) : Int) by omega) dX0_choose_38 (fun zq13 ezq13 hzq13 => ?_)
      refine z_iadd C 39 dX0_choose_39 ?_
      refine z_istore_n (lv' := [(3, .int (zI (S + zq13))), (0, .ref (zad G 19 q)), (1, .ref (zad G 18 r)), (2, .int (zI b)), (4, .int (zI w)), (5, .int (zI k))]) C 40 dX0_choose_40 rfl (by decide) rfl ?_
      refine z_iload C 41 dX0_choose_41 4 rfl ?_
      refine z_aload_n C 43 dX0_choose_43 rfl 1 rfl ?_
      refine z_get C 44 zcl0 (show q < 24 by omega) (zc19 ..) 1 (by decide) rfl wf_0_21 dX0_choose_44 ?_
      refine z_get C 47 zcl1 (show q < 24 by omega) (zc21 ..) 2 (by decide) rfl wf_0_81 dX0_choose_47 ?_
      refine z_iload C 50 dX0_choose_50 5 rfl ?_
      refine z_iald C 52 (show q < 24 by omega) (zc24 ..) (by first | assumption | omega) (by omega) (show k < ((4 : Nat) : Int) by omega) dX0_choose_52 (fun zq14 ezq14 hzq14 => ?_)
      refine z_iadd C 53 dX0_choose_53 ?_
      refine z_istore (lv' := [(4, .int (zI (w + zq14))), (3, .int (zI (S + zq13))), (0, .ref (zad G 19 q)), (1, .ref (zad G 18 r)), (2, .int (zI b)), (5, .int (zI k))]) C 54 dX0_choose_54 (by decide) rfl ?_
      refine z_iinc (lv' := [(5, .int (zI (k + 1))), (4, .int (zI (w + zq14))), (3, .int (zI (S + zq13))), (0, .ref (zad G 19 q)), (1, .ref (zad G 18 r)), (2, .int (zI b))]) C 56 dX0_choose_56 5 rfl (by decide) rfl ?_
      refine z_goto C 59 8 dX0_choose_59 (by decide) ?_
      refine z_sub (lv' := [(0, .ref (zad G 19 q)), (1, .ref (zad G 18 r)), (2, .int (zI b)), (3, .int (zI (S + zq13))), (4, .int (zI (w + zq14))), (5, .int (zI (k + 1)))]) [3, 4, 5, 2, 1, 0] rfl ?_
      exact ihz2 (S + zq13) (w + zq14) (k + 1) (by omega) (by rw [zsm_s _ (by omega), ← g1, zls_t (hPz11.t (by assumption)), ezq13]; rfl) (by rw [zsm_s _ (by omega), ← g2, zls_t (hPz11.t (by assumption)), ezq14]; rfl) (by omega)
  refine z_sub (lv' := [(0, .ref (zad G 19 q)), (1, .ref (zad G 18 r)), (2, .int (zI b)), (3, .int (zI 0)), (4, .int (zI 0)), (5, .int (zI 0))]) [3, 4, 5, 2, 1, 0] rfl ?_
  exact L8_1 (((zV M 21 q 3 - 0 : Int)).toNat + 1) 0 0 0 (by omega) (by rfl) (by rfl) (by omega)
set_option maxHeartbeats 4000000 in
set_option maxRecDepth 100000 in
theorem c_X0_sendPacket (l : Launch) (G : zG) (M : zMem) (q : Nat) (hq : q < 24) (r : Nat) (hr : r < 3) (hw : zwe M q)  : Met l yX0_sendPacket [.code yX0_sendPacket cX0_sendPacket 3 (some .int)] (zR 2 0 0) (zPc G M [.ref (zad G 19 q), .ref (zad G 18 r)]) (zQi G (fun x M' => zsnd M M' r q x)) 0 0 (zA G) := by
  refine z_met [(0, .ref (zad G 19 q)), (1, .ref (zad G 18 r))] (by decide) (Nat.le_of_ble_eq_true rfl) rfl ?_
  intro p e s m below meth c C
  have C : zC p s m ([.ref (zad G 19 q), .ref (zad G 18 r)] : List Value).toArray meth c G RX0 cX0_sendPacket 3 (some .int) := C
  have hw9z := hw
  obtain ⟨⟨n0, n1⟩, ha⟩ := hw9z
  have hc9 := zch_rg (zun M r) (zea M q) (zep M q) (zew M q) (zek M q) (zeb M r q) (zeS M r q (zeb M r q)) (zeW M r q (zeb M r q)) (zV M 21 q 3).toNat
  refine z_aload_n C 0 dX0_sendPacket_0 rfl 0 rfl ?_
  refine z_getI C 1 zcl0 (show q < 24 by omega) (zc19 ..) 3 (by decide) rfl wf_0_29 dX0_sendPacket_1 (fun zq1 ezq1 hzq1 => ?_)
  refine z_iconst C 4 dX0_sendPacket_4 ?_
  refine z_icmp_ne C 5 10 dX0_sendPacket_5 (by decide) hzq1 (by decide) (fun c5_12 => ?_) (fun c5_12 => ?_)
  · refine z_aload_n C 10 dX0_sendPacket_10 rfl 0 rfl ?_
    refine z_aload_n C 11 dX0_sendPacket_11 rfl 1 rfl ?_
    refine z_aload_n C 12 dX0_sendPacket_12 rfl 0 rfl ?_
    refine z_aload_n C 13 dX0_sendPacket_13 rfl 1 rfl ?_
    refine z_callVi C 14 (As := [.ref (zad G 18 r)]) (rest := [.ref (zad G 18 r), .ref (zad G 19 q)]) (c_X0_bestPriority l G M q hq r hr hw) zcl0 (show q < 24 by omega) (zc19 ..) (zW_of 1 C wm_0_54 wc_X0_bestPriority wini_0 wi_X0_bestPriority wse_X0_bestPriority ⟨by decide, by decide, by decide⟩ ⟨by decide, by decide⟩) rfl (Nat.le_of_ble_eq_true rfl) ⟨by decide, by decide⟩ dX0_sendPacket_14 rfl (fun zq2 Mz3 hzq2 hPz2 => ?_)
    obtain ⟨rfl, hPz2⟩ := hPz2
    refine z_callVi C 17 (As := [.ref (zad G 18 r), .int (zI zq2)]) (rest := []) (c_X0_choose l G M q hq r hr hw zq2 hzq2) zcl0 (show q < 24 by omega) (zc19 ..) (zW_of 2 C wm_0_58 wc_X0_choose wini_0 wi_X0_choose wse_X0_choose ⟨by decide, by decide, by decide⟩ ⟨by decide, by decide⟩) rfl (Nat.le_of_ble_eq_true rfl) ⟨by decide, by decide⟩ dX0_sendPacket_17 rfl (fun zq4 Mz5 hzq4 hPz4 => ?_)
    obtain ⟨rfl, hPz4⟩ := hPz4
    rw [hPz2] at hPz4
    have hc8 : -1 ≤ zq4 ∧ zq4 < zV M 21 q 3 := by rw [hPz4]; exact ⟨hc9.1, by have := hc9.2.1; unfold zech zechk; omega⟩
    have ha9 := ha (zq4).toNat
    refine z_istore_n (lv' := [(2, .int (zI zq4)), (0, .ref (zad G 19 q)), (1, .ref (zad G 18 r))]) C 20 dX0_sendPacket_20 rfl (by decide) rfl ?_
    refine z_iload_n C 21 dX0_sendPacket_21 rfl 0 rfl ?_
    refine z_iconst C 22 dX0_sendPacket_22 ?_
    refine z_icmp_ne C 23 29 dX0_sendPacket_23 (by decide) hzq4 (by decide) (fun c23_28 => ?_) (fun c23_28 => ?_)
    · refine z_aload_n C 29 dX0_sendPacket_29 rfl 1 rfl ?_
      refine z_get C 30 zcl0 (show q < 24 by omega) (zc19 ..) 2 (by decide) rfl wf_0_25 dX0_sendPacket_30 ?_
      refine z_iload_n C 33 dX0_sendPacket_33 rfl 0 rfl ?_
      refine z_dup2 C 34 dX0_sendPacket_34 rfl rfl ?_
      refine z_iald C 35 (show q < 24 by omega) (zc25 ..) hzq4 (by omega) (show zq4 < ((4 : Nat) : Int) by omega) dX0_sendPacket_35 (fun zq6 ezq6 hzq6 => ?_)
      refine z_iconst C 36 dX0_sendPacket_36 ?_
      refine z_iadd C 37 dX0_sendPacket_37 ?_
      refine z_iast C 38 (show q < 24 by omega) (zc25 ..) hzq4 (by omega) (show zq4 < ((4 : Nat) : Int) by omega) (zc25 ..) dX0_sendPacket_38 ?_
      refine z_aload_n C 39 dX0_sendPacket_39 rfl 1 rfl ?_
      refine z_get C 40 zcl0 (show q < 24 by omega) (zc19 ..) 1 (by decide) rfl wf_0_21 dX0_sendPacket_40 ?_
      refine z_get C 43 zcl1 (show q < 24 by omega) (zc21 ..) 0 (by decide) rfl wf_0_62 dX0_sendPacket_43 ?_
      refine z_iload_n C 46 dX0_sendPacket_46 rfl 0 rfl ?_
      refine z_iald C 47 (show q < 24 by omega) (zc22 ..) hzq4 (by omega) (show zq4 < ((4 : Nat) : Int) by omega) dX0_sendPacket_47 (fun zq7 ezq7 hzq7 => ?_)
      rw [zV_ne (by decide)] at ezq7
      refine z_iret C 48 dX0_sendPacket_48 (by decide) (by decide) hzq7 ?_
      refine Or.inr (Or.inr ⟨by omega, by omega, by omega, ?_, ?_⟩)
      rw [← hPz4, ezq7]; rfl
      rw [← hPz4, ezq6]; rfl
    refine z_bipush C 26 dX0_sendPacket_26 (by decide +kernel) ?_
    refine z_iret C 28 dX0_sendPacket_28 (by decide) (by decide) (by decide) ?_
    exact Or.inr (Or.inl ⟨by omega, by omega, rfl, rfl⟩)
  refine z_iconst C 8 dX0_sendPacket_8 ?_
  refine z_iret C 9 dX0_sendPacket_9 (by decide) (by decide) (by decide) ?_
  exact Or.inl ⟨by omega, rfl, rfl⟩
end
