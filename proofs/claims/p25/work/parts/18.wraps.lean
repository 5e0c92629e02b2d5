theorem wca_xIAE : (Cond.castable xIAE xIAE) ∈ lw_tbl := List.mem_of_getElem? (i := 276) (by decide +kernel)
theorem wca_xISE : (Cond.castable xISE xISE) ∈ lw_tbl := List.mem_of_getElem? (i := 356) (by decide +kernel)
theorem wca_xIOB : (Cond.castable xIOB xIOB) ∈ lw_tbl := List.mem_of_getElem? (i := 411) (by decide +kernel)
abbrev hh_register : List (Nat × Nat × Nat × Nat) := [(0, 7, 10, 14), (0, 7, 15, 16)]
theorem wcw_L_register : (Cond.codeWith yL_register cL_register 5 (some .int) hh_register) ∈ lw_tbl := List.mem_of_getElem? (i := 257) (by decide +kernel)
abbrev hh_version : List (Nat × Nat × Nat × Nat) := [(0, 6, 9, 22)]
theorem wcw_L_version : (Cond.codeWith yL_version cL_version 4 (some .int) hh_version) ∈ lw_tbl := List.mem_of_getElem? (i := 396) (by decide +kernel)
abbrev hh_withdraw : List (Nat × Nat × Nat × Nat) := [(0, 6, 9, 22), (0, 6, 13, 16)]
theorem wcw_L_withdraw : (Cond.codeWith yL_withdraw cL_withdraw 4 (some .int) hh_withdraw) ∈ lw_tbl := List.mem_of_getElem? (i := 439) (by decide +kernel)
abbrev hh_addLocator : List (Nat × Nat × Nat × Nat) := [(0, 11, 14, 22), (0, 11, 19, 14), (0, 11, 24, 16)]
theorem wcw_L_addLocator : (Cond.codeWith yL_addLocator cL_addLocator 7 (some .int) hh_addLocator) ∈ lw_tbl := List.mem_of_getElem? (i := 454) (by decide +kernel)
abbrev hh_move : List (Nat × Nat × Nat × Nat) := [(0, 9, 12, 22), (0, 9, 17, 14), (0, 9, 22, 16)]
theorem wcw_L_move : (Cond.codeWith yL_move cL_move 6 (some .int) hh_move) ∈ lw_tbl := List.mem_of_getElem? (i := 477) (by decide +kernel)
abbrev hh_removeLocator : List (Nat × Nat × Nat × Nat) := [(0, 7, 10, 22), (0, 7, 15, 14), (0, 7, 20, 16)]
theorem wcw_L_removeLocator : (Cond.codeWith yL_removeLocator cL_removeLocator 5 (some .int) hh_removeLocator) ∈ lw_tbl := List.mem_of_getElem? (i := 489) (by decide +kernel)
abbrev hh_send : List (Nat × Nat × Nat × Nat) := [(0, 7, 10, 22), (0, 7, 15, 14)]
theorem wcw_L_send : (Cond.codeWith yL_send cL_send 5 (some .int) hh_send) ∈ lw_tbl := List.mem_of_getElem? (i := 519) (by decide +kernel)
abbrev hh_probe : List (Nat × Nat × Nat × Nat) := [(0, 9, 12, 22), (0, 9, 17, 14)]
theorem wcw_L_probe : (Cond.codeWith yL_probe cL_probe 6 (some .int) hh_probe) ∈ lw_tbl := List.mem_of_getElem? (i := 618) (by decide +kernel)
abbrev hh_delegate : List (Nat × Nat × Nat × Nat) := [(0, 9, 12, 22), (0, 9, 17, 14), (0, 9, 22, 16)]
theorem wcw_L_delegate : (Cond.codeWith yL_delegate cL_delegate 6 (some .int) hh_delegate) ∈ lw_tbl := List.mem_of_getElem? (i := 629) (by decide +kernel)
abbrev hh_setUp : List (Nat × Nat × Nat × Nat) := [(0, 7, 10, 22)]
theorem wcw_L_setUp : (Cond.codeWith yL_setUp cL_setUp 5 (some .int) hh_setUp) ∈ lw_tbl := List.mem_of_getElem? (i := 647) (by decide +kernel)
abbrev hh_setLifetimes : List (Nat × Nat × Nat × Nat) := [(0, 7, 10, 14)]
theorem wcw_L_setLifetimes : (Cond.codeWith yL_setLifetimes cL_setLifetimes 5 (some .int) hh_setLifetimes) ∈ lw_tbl := List.mem_of_getElem? (i := 654) (by decide +kernel)
abbrev hh_pass : List (Nat × Nat × Nat × Nat) := [(0, 6, 9, 14)]
theorem wcw_L_pass : (Cond.codeWith yL_pass cL_pass 4 (some .int) hh_pass) ∈ lw_tbl := List.mem_of_getElem? (i := 661) (by decide +kernel)
abbrev hh_prefixOf : List (Nat × Nat × Nat × Nat) := [(0, 7, 10, 22)]
theorem wcw_L_prefixOf : (Cond.codeWith yL_prefixOf cL_prefixOf 5 (some .int) hh_prefixOf) ∈ lw_tbl := List.mem_of_getElem? (i := 675) (by decide +kernel)
abbrev hh_packetsTo : List (Nat × Nat × Nat × Nat) := [(0, 9, 12, 22), (0, 9, 17, 14)]
theorem wcw_L_packetsTo : (Cond.codeWith yL_packetsTo cL_packetsTo 6 (some .int) hh_packetsTo) ∈ lw_tbl := List.mem_of_getElem? (i := 686) (by decide +kernel)
abbrev hh_mappingOf : List (Nat × Nat × Nat × Nat) := [(0, 6, 9, 14)]
theorem wcw_L_mappingOf : (Cond.codeWith yL_mappingOf cL_mappingOf 4 (some .int) hh_mappingOf) ∈ lw_tbl := List.mem_of_getElem? (i := 702) (by decide +kernel)
abbrev hh_answerLength : List (Nat × Nat × Nat × Nat) := [(0, 6, 9, 14)]
theorem wcw_L_answerLength : (Cond.codeWith yL_answerLength cL_answerLength 4 (some .int) hh_answerLength) ∈ lw_tbl := List.mem_of_getElem? (i := 709) (by decide +kernel)
abbrev hh_serverOf : List (Nat × Nat × Nat × Nat) := [(0, 6, 9, 14)]
theorem wcw_L_serverOf : (Cond.codeWith yL_serverOf cL_serverOf 4 (some .int) hh_serverOf) ∈ lw_tbl := List.mem_of_getElem? (i := 716) (by decide +kernel)
set_option maxHeartbeats 4000000 in
set_option maxRecDepth 100000 in
theorem v_register (l : Launch) (hfl : l.stackTraces = false) (G : zG) (M : zMem) (hw : zWC M) (v b : Int) (hv : zrg v) (hb : zrg b) : Met l yL_register [.codeWith yL_register cL_register 5 (some .int) hh_register] (zR 10 4 24) (zPc G M [.ref (zad G 0 0), .int (zI v), .int (zI b)]) (zQi G (jr2 M (-72) (zvp v b) (-73) ((zmn M < 24 ∧ ¬ zhas M v b)) (fun x M' => x = zmn M ∧ zsolk (zreg M v b) M' (zmn M).toNat 3))) 4 24 (zA G) := by
  refine zw_met [(0, .ref (zad G 0 0)), (1, .int (zI v)), (2, .int (zI b))] (by decide) (Nat.le_of_ble_eq_true rfl) rfl ?_
  intro p e s m below meth cz C htb
  have C : zC p s m ([.ref (zad G 0 0), .int (zI v), .int (zI b)] : List Value).toArray meth cz G RL cL_register 5 (some .int) := C
  have hN := C.n
  refine z_aload_n C 0 dL_register_0 rfl 0 rfl ?_
  refine z_iload_n C 1 dL_register_1 rfl 1 rfl ?_
  refine z_iload_n C 2 dL_register_2 rfl 2 rfl ?_
  refine zw_callVi C 3 (As := [.int (zI v), .int (zI b)]) (rest := []) (c_X7_register l hfl G M hw v b hv hb) zcl7 (show 0 < 1 by omega) (zc0 ..) (zW_of 2 C wm_L_8 wc_X7_register wini_7 wi_X7_register wse_X7_register ⟨by decide, by decide, by decide⟩ ⟨by decide, by decide⟩) rfl (Nat.le_of_ble_eq_true rfl) ⟨by decide, by decide⟩ dL_register_3 rfl (fun E hE => ?_) (fun x M1 hx h => ?_)
  · rcases hE with hE | hE
    · have hEn := hE.1
      subst hEn
      refine ⟨10, ⟨[], ⟨0, 7, 10, 14⟩, [⟨0, 7, 15, 16⟩], xIAE, htb, (fun z hz => by cases hz), by decide, by decide, C.w wcl_L_14 rfl, C.w wca_xIAE rfl, rfl⟩, fun q => ?_⟩
      refine z_astore (lv' := [(4, .ref q), (0, .ref (zad G 0 0)), (1, .int (zI v)), (2, .int (zI b))]) C 10 dL_register_10 (by decide) rfl ?_
      refine z_bipush C 12 dL_register_12 (by decide +kernel) ?_
      exact z_iret C 14 dL_register_14 (by decide) (by decide) (by decide) ⟨fun h1 => ⟨rfl, rfl⟩, fun h1 h2 => absurd h1 hE.2, fun h1 h2 => absurd h1 hE.2⟩
    · have hEn := hE.1
      subst hEn
      refine ⟨15, ⟨[⟨0, 7, 10, 14⟩], ⟨0, 7, 15, 16⟩, [], xISE, htb, (fun z hz => by rcases List.mem_cons.mp hz with rfl | hz; exact Or.inr ⟨by decide, _, C.w wcl_L_14 rfl, hN.2.2⟩; cases hz), by decide, by decide, C.w wcl_L_16 rfl, C.w wca_xISE rfl, rfl⟩, fun q => ?_⟩
      refine z_astore (lv' := [(4, .ref q), (0, .ref (zad G 0 0)), (1, .int (zI v)), (2, .int (zI b))]) C 15 dL_register_15 (by decide) rfl ?_
      refine z_bipush C 17 dL_register_17 (by decide +kernel) ?_
      exact z_iret C 19 dL_register_19 (by decide) (by decide) (by decide) ⟨fun h1 => absurd hE.2.1 h1, fun h1 h2 => ⟨rfl, rfl⟩, fun h1 h2 => absurd h2 hE.2.2⟩
  refine z_istore_n (lv' := [(3, .int (zI x)), (0, .ref (zad G 0 0)), (1, .int (zI v)), (2, .int (zI b))]) C 6 dL_register_6 rfl (by decide) rfl ?_
  refine z_goto C 7 20 dL_register_7 (by decide) ?_
  refine z_iload_n C 20 dL_register_20 rfl 0 rfl ?_
  exact z_iret C 21 dL_register_21 (by decide) (by decide) hx ⟨fun h1 => absurd h.1 h1, fun h1 h2 => absurd h.2.1 h2, fun h1 h2 => h.2.2⟩
set_option maxHeartbeats 4000000 in
set_option maxRecDepth 100000 in
theorem v_withdraw (l : Launch) (hfl : l.stackTraces = false) (G : zG) (M : zMem) (hw : zWC M) (a : Int) (ha : zrg a) : Met l yL_withdraw [.codeWith yL_withdraw cL_withdraw 4 (some .int) hh_withdraw] (zR 9 2 12) (zPc G M [.ref (zad G 0 0), .int (zI a)]) (zQi G (jr2 M (-71) ((0 ≤ a ∧ a < zmn M)) (-73) (zV M 3 a.toNat 3 = 0) (fun x M' => zsolk (zup M 3 a.toNat 3 (zI 1)) M' a.toNat 3 ∧ x = zcnt (zmg M') (zV M' 1 0 1).toNat))) 2 12 (zA G) := by
  refine zw_met [(0, .ref (zad G 0 0)), (1, .int (zI a))] (by decide) (Nat.le_of_ble_eq_true rfl) rfl ?_
  intro p e s m below meth cz C htb
  have C : zC p s m ([.ref (zad G 0 0), .int (zI a)] : List Value).toArray meth cz G RL cL_withdraw 4 (some .int) := C
  have hN := C.n
  refine z_aload_n C 0 dL_withdraw_0 rfl 0 rfl ?_
  refine z_iload_n C 1 dL_withdraw_1 rfl 1 rfl ?_
  refine zw_callVi C 2 (As := [.int (zI a)]) (rest := []) (c_X7_withdraw l hfl G M hw a ha) zcl7 (show 0 < 1 by omega) (zc0 ..) (zW_of 1 C wm_L_18 wc_X7_withdraw wini_7 wi_X7_withdraw wse_X7_withdraw ⟨by decide, by decide, by decide⟩ ⟨by decide, by decide⟩) rfl (Nat.le_of_ble_eq_true rfl) ⟨by decide, by decide⟩ dL_withdraw_2 rfl (fun E hE => ?_) (fun x M1 hx h => ?_)
  · rcases hE with hE | hE
    · have hEn := hE.1
      subst hEn
      refine ⟨9, ⟨[], ⟨0, 6, 9, 22⟩, [⟨0, 6, 13, 16⟩], xIOB, htb, (fun z hz => by cases hz), by decide, by decide, C.w wcl_L_22 rfl, C.w wca_xIOB rfl, rfl⟩, fun q => ?_⟩
      refine z_astore_n (lv' := [(3, .ref q), (0, .ref (zad G 0 0)), (1, .int (zI a))]) C 9 dL_withdraw_9 rfl (by decide) rfl ?_
      refine z_bipush C 10 dL_withdraw_10 (by decide +kernel) ?_
      exact z_iret C 12 dL_withdraw_12 (by decide) (by decide) (by decide) ⟨fun h1 => ⟨rfl, rfl⟩, fun h1 h2 => absurd h1 hE.2, fun h1 h2 => absurd h1 hE.2⟩
    · have hEn := hE.1
      subst hEn
      refine ⟨13, ⟨[⟨0, 6, 9, 22⟩], ⟨0, 6, 13, 16⟩, [], xISE, htb, (fun z hz => by rcases List.mem_cons.mp hz with rfl | hz; exact Or.inr ⟨by decide, _, C.w wcl_L_22 rfl, hN.2.1⟩; cases hz), by decide, by decide, C.w wcl_L_16 rfl, C.w wca_xISE rfl, rfl⟩, fun q => ?_⟩
      refine z_astore_n (lv' := [(3, .ref q), (0, .ref (zad G 0 0)), (1, .int (zI a))]) C 13 dL_withdraw_13 rfl (by decide) rfl ?_
      refine z_bipush C 14 dL_withdraw_14 (by decide +kernel) ?_
      exact z_iret C 16 dL_withdraw_16 (by decide) (by decide) (by decide) ⟨fun h1 => absurd hE.2.1 h1, fun h1 h2 => ⟨rfl, rfl⟩, fun h1 h2 => absurd h2 hE.2.2⟩
  refine z_istore_n (lv' := [(2, .int (zI x)), (0, .ref (zad G 0 0)), (1, .int (zI a))]) C 5 dL_withdraw_5 rfl (by decide) rfl ?_
  refine z_goto C 6 17 dL_withdraw_6 (by decide) ?_
  refine z_iload_n C 17 dL_withdraw_17 rfl 0 rfl ?_
  exact z_iret C 18 dL_withdraw_18 (by decide) (by decide) hx ⟨fun h1 => absurd h.1 h1, fun h1 h2 => absurd h.2.1 h2, fun h1 h2 => h.2.2⟩
set_option maxHeartbeats 4000000 in
set_option maxRecDepth 100000 in
theorem v_addLocator (l : Launch) (hfl : l.stackTraces = false) (G : zG) (M : zMem) (hw : zWC M) (a b pr w : Int) (ha : zrg a) (hb : zrg b) (hp : zrg pr) (hww : zrg w) : Met l yL_addLocator [.codeWith yL_addLocator cL_addLocator 7 (some .int) hh_addLocator] (zR 9 6 36) (zPc G M [.ref (zad G 0 0), .int (zI a), .int (zI b), .int (zI pr), .int (zI w)]) (zQi G (jr3 M (-71) ((0 ≤ a ∧ a < zmn M)) (-72) (((0 ≤ b ∧ b < 32) ∧ (0 ≤ pr ∧ pr ≤ 3) ∧ 1 ≤ w ∧ w ≤ 10)) (-73) ((zV M 3 a.toNat 3 = 0 ∧ zV M 5 a.toNat 3 < 4 ∧ ¬ zloc M a.toNat b)) (fun x M' => x = zw (zV M 3 a.toNat 2 + 1) ∧ zsolk (zver (zadl M a.toNat b pr w) a.toNat) M' a.toNat 3))) 6 36 (zA G) := by
  refine zw_met [(0, .ref (zad G 0 0)), (1, .int (zI a)), (2, .int (zI b)), (3, .int (zI pr)), (4, .int (zI w))] (by decide) (Nat.le_of_ble_eq_true rfl) rfl ?_
  intro p e s m below meth cz C htb
  have C : zC p s m ([.ref (zad G 0 0), .int (zI a), .int (zI b), .int (zI pr), .int (zI w)] : List Value).toArray meth cz G RL cL_addLocator 7 (some .int) := C
  have hN := C.n
  refine z_aload_n C 0 dL_addLocator_0 rfl 0 rfl ?_
  refine z_iload_n C 1 dL_addLocator_1 rfl 1 rfl ?_
  refine z_iload_n C 2 dL_addLocator_2 rfl 2 rfl ?_
  refine z_iload_n C 3 dL_addLocator_3 rfl 3 rfl ?_
  refine z_iload C 4 dL_addLocator_4 4 rfl ?_
  refine zw_callVi C 6 (As := [.int (zI a), .int (zI b), .int (zI pr), .int (zI w)]) (rest := []) (c_X7_addLocator l hfl G M hw a b pr w ha hb hp hww) zcl7 (show 0 < 1 by omega) (zc0 ..) (zW_of 4 C wm_L_24 wc_X7_addLocator wini_7 wi_X7_addLocator wse_X7_addLocator ⟨by decide, by decide, by decide⟩ ⟨by decide, by decide⟩) rfl (Nat.le_of_ble_eq_true rfl) ⟨by decide, by decide⟩ dL_addLocator_6 rfl (fun E hE => ?_) (fun x M1 hx h => ?_)
  · rcases hE with hE | hE | hE
    · have hEn := hE.1
      subst hEn
      refine ⟨14, ⟨[], ⟨0, 11, 14, 22⟩, [⟨0, 11, 19, 14⟩, ⟨0, 11, 24, 16⟩], xIOB, htb, (fun z hz => by cases hz), by decide, by decide, C.w wcl_L_22 rfl, C.w wca_xIOB rfl, rfl⟩, fun q => ?_⟩
      refine z_astore (lv' := [(6, .ref q), (0, .ref (zad G 0 0)), (1, .int (zI a)), (2, .int (zI b)), (3, .int (zI pr)), (4, .int (zI w))]) C 14 dL_addLocator_14 (by decide) rfl ?_
      refine z_bipush C 16 dL_addLocator_16 (by decide +kernel) ?_
      exact z_iret C 18 dL_addLocator_18 (by decide) (by decide) (by decide) ⟨fun h1 => ⟨rfl, rfl⟩, fun h1 h2 => absurd h1 hE.2, fun h1 h2 h3 => absurd h1 hE.2, fun h1 h2 h3 => absurd h1 hE.2⟩
    · have hEn := hE.1
      subst hEn
      refine ⟨19, ⟨[⟨0, 11, 14, 22⟩], ⟨0, 11, 19, 14⟩, [⟨0, 11, 24, 16⟩], xIAE, htb, (fun z hz => by rcases List.mem_cons.mp hz with rfl | hz; exact Or.inr ⟨by decide, _, C.w wcl_L_22 rfl, hN.1⟩; cases hz), by decide, by decide, C.w wcl_L_14 rfl, C.w wca_xIAE rfl, rfl⟩, fun q => ?_⟩
      refine z_astore (lv' := [(6, .ref q), (0, .ref (zad G 0 0)), (1, .int (zI a)), (2, .int (zI b)), (3, .int (zI pr)), (4, .int (zI w))]) C 19 dL_addLocator_19 (by decide) rfl ?_
      refine z_bipush C 21 dL_addLocator_21 (by decide +kernel) ?_
      exact z_iret C 23 dL_addLocator_23 (by decide) (by decide) (by decide) ⟨fun h1 => absurd hE.2.1 h1, fun h1 h2 => ⟨rfl, rfl⟩, fun h1 h2 h3 => absurd h2 hE.2.2, fun h1 h2 h3 => absurd h2 hE.2.2⟩
    · have hEn := hE.1
      subst hEn
      refine ⟨24, ⟨[⟨0, 11, 14, 22⟩, ⟨0, 11, 19, 14⟩], ⟨0, 11, 24, 16⟩, [], xISE, htb, (fun z hz => by rcases List.mem_cons.mp hz with rfl | hz; exact Or.inr ⟨by decide, _, C.w wcl_L_22 rfl, hN.2.1⟩; rcases List.mem_cons.mp hz with rfl | hz; exact Or.inr ⟨by decide, _, C.w wcl_L_14 rfl, hN.2.2⟩; cases hz), by decide, by decide, C.w wcl_L_16 rfl, C.w wca_xISE rfl, rfl⟩, fun q => ?_⟩
      refine z_astore (lv' := [(6, .ref q), (0, .ref (zad G 0 0)), (1, .int (zI a)), (2, .int (zI b)), (3, .int (zI pr)), (4, .int (zI w))]) C 24 dL_addLocator_24 (by decide) rfl ?_
      refine z_bipush C 26 dL_addLocator_26 (by decide +kernel) ?_
      exact z_iret C 28 dL_addLocator_28 (by decide) (by decide) (by decide) ⟨fun h1 => absurd hE.2.1 h1, fun h1 h2 => absurd hE.2.2.1 h2, fun h1 h2 h3 => ⟨rfl, rfl⟩, fun h1 h2 h3 => absurd h3 hE.2.2.2⟩
  refine z_istore (lv' := [(5, .int (zI x)), (0, .ref (zad G 0 0)), (1, .int (zI a)), (2, .int (zI b)), (3, .int (zI pr)), (4, .int (zI w))]) C 9 dL_addLocator_9 (by decide) rfl ?_
  refine z_goto C 11 29 dL_addLocator_11 (by decide) ?_
  refine z_iload C 29 dL_addLocator_29 0 rfl ?_
  exact z_iret C 31 dL_addLocator_31 (by decide) (by decide) hx ⟨fun h1 => absurd h.1 h1, fun h1 h2 => absurd h.2.1 h2, fun h1 h2 h3 => absurd h.2.2.1 h3, fun h1 h2 h3 => h.2.2.2⟩
set_option maxHeartbeats 4000000 in
set_option maxRecDepth 100000 in
theorem v_move (l : Launch) (hfl : l.stackTraces = false) (G : zG) (M : zMem) (hw : zWC M) (a b t : Int) (ha : zrg a) (hb : zrg b) (ht : zrg t) : Met l yL_move [.codeWith yL_move cL_move 6 (some .int) hh_move] (zR 9 6 36) (zPc G M [.ref (zad G 0 0), .int (zI a), .int (zI b), .int (zI t)]) (zQi G (jr3 M (-71) ((0 ≤ a ∧ a < zmn M)) (-72) (((0 ≤ b ∧ b < 32) ∧ 0 ≤ t ∧ t < 32)) (-73) ((zV M 3 a.toNat 3 = 0 ∧ zloc M a.toNat b ∧ ¬ zloc M a.toNat t)) (fun x M' => x = zw (zV M 3 a.toNat 2 + 1) ∧ ∃ pl : Nat, (pl : Int) < zV M 5 a.toNat 3 ∧ zV M 6 a.toNat pl = b ∧ zsolk (zver (zup M 6 a.toNat pl (zI t)) a.toNat) M' a.toNat 3))) 6 36 (zA G) := by
  refine zw_met [(0, .ref (zad G 0 0)), (1, .int (zI a)), (2, .int (zI b)), (3, .int (zI t))] (by decide) (Nat.le_of_ble_eq_true rfl) rfl ?_
  intro p e s m below meth cz C htb
  have C : zC p s m ([.ref (zad G 0 0), .int (zI a), .int (zI b), .int (zI t)] : List Value).toArray meth cz G RL cL_move 6 (some .int) := C
  have hN := C.n
  refine z_aload_n C 0 dL_move_0 rfl 0 rfl ?_
  refine z_iload_n C 1 dL_move_1 rfl 1 rfl ?_
  refine z_iload_n C 2 dL_move_2 rfl 2 rfl ?_
  refine z_iload_n C 3 dL_move_3 rfl 3 rfl ?_
  refine zw_callVi C 4 (As := [.int (zI a), .int (zI b), .int (zI t)]) (rest := []) (c_X7_move l hfl G M hw a b t ha hb ht) zcl7 (show 0 < 1 by omega) (zc0 ..) (zW_of 3 C wm_L_28 wc_X7_move wini_7 wi_X7_move wse_X7_move ⟨by decide, by decide, by decide⟩ ⟨by decide, by decide⟩) rfl (Nat.le_of_ble_eq_true rfl) ⟨by decide, by decide⟩ dL_move_4 rfl (fun E hE => ?_) (fun x M1 hx h => ?_)
  · rcases hE with hE | hE | hE
    · have hEn := hE.1
      subst hEn
      refine ⟨12, ⟨[], ⟨0, 9, 12, 22⟩, [⟨0, 9, 17, 14⟩, ⟨0, 9, 22, 16⟩], xIOB, htb, (fun z hz => by cases hz), by decide, by decide, C.w wcl_L_22 rfl, C.w wca_xIOB rfl, rfl⟩, fun q => ?_⟩
      refine z_astore (lv' := [(5, .ref q), (0, .ref (zad G 0 0)), (1, .int (zI a)), (2, .int (zI b)), (3, .int (zI t))]) C 12 dL_move_12 (by decide) rfl ?_
      refine z_bipush C 14 dL_move_14 (by decide +kernel) ?_
      exact z_iret C 16 dL_move_16 (by decide) (by decide) (by decide) ⟨fun h1 => ⟨rfl, rfl⟩, fun h1 h2 => absurd h1 hE.2, fun h1 h2 h3 => absurd h1 hE.2, fun h1 h2 h3 => absurd h1 hE.2⟩
    · have hEn := hE.1
      subst hEn
      refine ⟨17, ⟨[⟨0, 9, 12, 22⟩], ⟨0, 9, 17, 14⟩, [⟨0, 9, 22, 16⟩], xIAE, htb, (fun z hz => by rcases List.mem_cons.mp hz with rfl | hz; exact Or.inr ⟨by decide, _, C.w wcl_L_22 rfl, hN.1⟩; cases hz), by decide, by decide, C.w wcl_L_14 rfl, C.w wca_xIAE rfl, rfl⟩, fun q => ?_⟩
      refine z_astore (lv' := [(5, .ref q), (0, .ref (zad G 0 0)), (1, .int (zI a)), (2, .int (zI b)), (3, .int (zI t))]) C 17 dL_move_17 (by decide) rfl ?_
      refine z_bipush C 19 dL_move_19 (by decide +kernel) ?_
      exact z_iret C 21 dL_move_21 (by decide) (by decide) (by decide) ⟨fun h1 => absurd hE.2.1 h1, fun h1 h2 => ⟨rfl, rfl⟩, fun h1 h2 h3 => absurd h2 hE.2.2, fun h1 h2 h3 => absurd h2 hE.2.2⟩
    · have hEn := hE.1
      subst hEn
      refine ⟨22, ⟨[⟨0, 9, 12, 22⟩, ⟨0, 9, 17, 14⟩], ⟨0, 9, 22, 16⟩, [], xISE, htb, (fun z hz => by rcases List.mem_cons.mp hz with rfl | hz; exact Or.inr ⟨by decide, _, C.w wcl_L_22 rfl, hN.2.1⟩; rcases List.mem_cons.mp hz with rfl | hz; exact Or.inr ⟨by decide, _, C.w wcl_L_14 rfl, hN.2.2⟩; cases hz), by decide, by decide, C.w wcl_L_16 rfl, C.w wca_xISE rfl, rfl⟩, fun q => ?_⟩
      refine z_astore (lv' := [(5, .ref q), (0, .ref (zad G 0 0)), (1, .int (zI a)), (2, .int (zI b)), (3, .int (zI t))]) C 22 dL_move_22 (by decide) rfl ?_
      refine z_bipush C 24 dL_move_24 (by decide +kernel) ?_
      exact z_iret C 26 dL_move_26 (by decide) (by decide) (by decide) ⟨fun h1 => absurd hE.2.1 h1, fun h1 h2 => absurd hE.2.2.1 h2, fun h1 h2 h3 => ⟨rfl, rfl⟩, fun h1 h2 h3 => absurd h3 hE.2.2.2⟩
  refine z_istore (lv' := [(4, .int (zI x)), (0, .ref (zad G 0 0)), (1, .int (zI a)), (2, .int (zI b)), (3, .int (zI t))]) C 7 dL_move_7 (by decide) rfl ?_
  refine z_goto C 9 27 dL_move_9 (by decide) ?_
  refine z_iload C 27 dL_move_27 0 rfl ?_
  exact z_iret C 29 dL_move_29 (by decide) (by decide) hx ⟨fun h1 => absurd h.1 h1, fun h1 h2 => absurd h.2.1 h2, fun h1 h2 h3 => absurd h.2.2.1 h3, fun h1 h2 h3 => h.2.2.2⟩
set_option maxHeartbeats 4000000 in
set_option maxRecDepth 100000 in
theorem v_removeLocator (l : Launch) (hfl : l.stackTraces = false) (G : zG) (M : zMem) (hw : zWC M) (a b : Int) (ha : zrg a) (hb : zrg b) : Met l yL_removeLocator [.codeWith yL_removeLocator cL_removeLocator 5 (some .int) hh_removeLocator] (zR 9 4 24) (zPc G M [.ref (zad G 0 0), .int (zI a), .int (zI b)]) (zQi G (jr3 M (-71) ((0 ≤ a ∧ a < zmn M)) (-72) ((0 ≤ b ∧ b < 32)) (-73) ((zV M 3 a.toNat 3 = 0 ∧ zloc M a.toNat b)) (fun x M' => x = zw (zV M 3 a.toNat 2 + 1) ∧ ∃ (pl : Int) (M1 : zMem), 0 ≤ pl ∧ pl < zV M 5 a.toNat 3 ∧ zV M 6 a.toNat pl.toNat = b ∧ zshift M M1 a.toNat pl (zV M 5 a.toNat 3 - 1) (zV M 5 a.toNat 3 - 1) ∧ zsolk (zver M1 a.toNat) M' a.toNat 3))) 4 24 (zA G) := by
  refine zw_met [(0, .ref (zad G 0 0)), (1, .int (zI a)), (2, .int (zI b))] (by decide) (Nat.le_of_ble_eq_true rfl) rfl ?_
  intro p e s m below meth cz C htb
  have C : zC p s m ([.ref (zad G 0 0), .int (zI a), .int (zI b)] : List Value).toArray meth cz G RL cL_removeLocator 5 (some .int) := C
  have hN := C.n
  refine z_aload_n C 0 dL_removeLocator_0 rfl 0 rfl ?_
  refine z_iload_n C 1 dL_removeLocator_1 rfl 1 rfl ?_
  refine z_iload_n C 2 dL_removeLocator_2 rfl 2 rfl ?_
  refine zw_callVi C 3 (As := [.int (zI a), .int (zI b)]) (rest := []) (c_X7_removeLocator l hfl G M hw a b ha hb) zcl7 (show 0 < 1 by omega) (zc0 ..) (zW_of 2 C wm_L_32 wc_X7_removeLocator wini_7 wi_X7_removeLocator wse_X7_removeLocator ⟨by decide, by decide, by decide⟩ ⟨by decide, by decide⟩) rfl (Nat.le_of_ble_eq_true rfl) ⟨by decide, by decide⟩ dL_removeLocator_3 rfl (fun E hE => ?_) (fun x M1 hx h => ?_)
  · rcases hE with hE | hE | hE
    · have hEn := hE.1
      subst hEn
      refine ⟨10, ⟨[], ⟨0, 7, 10, 22⟩, [⟨0, 7, 15, 14⟩, ⟨0, 7, 20, 16⟩], xIOB, htb, (fun z hz => by cases hz), by decide, by decide, C.w wcl_L_22 rfl, C.w wca_xIOB rfl, rfl⟩, fun q => ?_⟩
      refine z_astore (lv' := [(4, .ref q), (0, .ref (zad G 0 0)), (1, .int (zI a)), (2, .int (zI b))]) C 10 dL_removeLocator_10 (by decide) rfl ?_
      refine z_bipush C 12 dL_removeLocator_12 (by decide +kernel) ?_
      exact z_iret C 14 dL_removeLocator_14 (by decide) (by decide) (by decide) ⟨fun h1 => ⟨rfl, rfl⟩, fun h1 h2 => absurd h1 hE.2, fun h1 h2 h3 => absurd h1 hE.2, fun h1 h2 h3 => absurd h1 hE.2⟩
    · have hEn := hE.1
      subst hEn
      refine ⟨15, ⟨[⟨0, 7, 10, 22⟩], ⟨0, 7, 15, 14⟩, [⟨0, 7, 20, 16⟩], xIAE, htb, (fun z hz => by rcases List.mem_cons.mp hz with rfl | hz; exact Or.inr ⟨by decide, _, C.w wcl_L_22 rfl, hN.1⟩; cases hz), by decide, by decide, C.w wcl_L_14 rfl, C.w wca_xIAE rfl, rfl⟩, fun q => ?_⟩
      refine z_astore (lv' := [(4, .ref q), (0, .ref (zad G 0 0)), (1, .int (zI a)), (2, .int (zI b))]) C 15 dL_removeLocator_15 (by decide) rfl ?_
      refine z_bipush C 17 dL_removeLocator_17 (by decide +kernel) ?_
      exact z_iret C 19 dL_removeLocator_19 (by decide) (by decide) (by decide) ⟨fun h1 => absurd hE.2.1 h1, fun h1 h2 => ⟨rfl, rfl⟩, fun h1 h2 h3 => absurd h2 hE.2.2, fun h1 h2 h3 => absurd h2 hE.2.2⟩
    · have hEn := hE.1
      subst hEn
      refine ⟨20, ⟨[⟨0, 7, 10, 22⟩, ⟨0, 7, 15, 14⟩], ⟨0, 7, 20, 16⟩, [], xISE, htb, (fun z hz => by rcases List.mem_cons.mp hz with rfl | hz; exact Or.inr ⟨by decide, _, C.w wcl_L_22 rfl, hN.2.1⟩; rcases List.mem_cons.mp hz with rfl | hz; exact Or.inr ⟨by decide, _, C.w wcl_L_14 rfl, hN.2.2⟩; cases hz), by decide, by decide, C.w wcl_L_16 rfl, C.w wca_xISE rfl, rfl⟩, fun q => ?_⟩
      refine z_astore (lv' := [(4, .ref q), (0, .ref (zad G 0 0)), (1, .int (zI a)), (2, .int (zI b))]) C 20 dL_removeLocator_20 (by decide) rfl ?_
      refine z_bipush C 22 dL_removeLocator_22 (by decide +kernel) ?_
      exact z_iret C 24 dL_removeLocator_24 (by decide) (by decide) (by decide) ⟨fun h1 => absurd hE.2.1 h1, fun h1 h2 => absurd hE.2.2.1 h2, fun h1 h2 h3 => ⟨rfl, rfl⟩, fun h1 h2 h3 => absurd h3 hE.2.2.2⟩
  refine z_istore_n (lv' := [(3, .int (zI x)), (0, .ref (zad G 0 0)), (1, .int (zI a)), (2, .int (zI b))]) C 6 dL_removeLocator_6 rfl (by decide) rfl ?_
  refine z_goto C 7 25 dL_removeLocator_7 (by decide) ?_
  refine z_iload_n C 25 dL_removeLocator_25 rfl 0 rfl ?_
  exact z_iret C 26 dL_removeLocator_26 (by decide) (by decide) hx ⟨fun h1 => absurd h.1 h1, fun h1 h2 => absurd h.2.1 h2, fun h1 h2 h3 => absurd h.2.2.1 h3, fun h1 h2 h3 => h.2.2.2⟩
set_option maxHeartbeats 4000000 in
set_option maxRecDepth 100000 in
theorem v_mappingOf (l : Launch) (hfl : l.stackTraces = false) (G : zG) (M : zMem) (hw : zWC M) (a : Int) (ha : zrg a) : Met l yL_mappingOf [.codeWith yL_mappingOf cL_mappingOf 4 (some .int) hh_mappingOf] (zR 9 1 6) (zPc G M [.ref (zad G 0 0), .int (zI a)]) (zQi G (jr1 M (-72) ((0 ≤ a ∧ a < 65536)) (fun x M' => M = M' ∧ zfnd (zmv M) (zml M) (zmg M) (zmn M) a x))) 1 6 (zA G) := by
  refine zw_met [(0, .ref (zad G 0 0)), (1, .int (zI a))] (by decide) (Nat.le_of_ble_eq_true rfl) rfl ?_
  intro p e s m below meth cz C htb
  have C : zC p s m ([.ref (zad G 0 0), .int (zI a)] : List Value).toArray meth cz G RL cL_mappingOf 4 (some .int) := C
  have hN := C.n
  refine z_aload_n C 0 dL_mappingOf_0 rfl 0 rfl ?_
  refine z_iload_n C 1 dL_mappingOf_1 rfl 1 rfl ?_
  refine zw_callVi C 2 (As := [.int (zI a)]) (rest := []) (c_X7_mappingOf l hfl G M hw a ha) zcl7 (show 0 < 1 by omega) (zc0 ..) (zW_of 1 C wm_L_35 wc_X7_mappingOf wini_7 wi_X7_mappingOf wse_X7_mappingOf ⟨by decide, by decide, by decide⟩ ⟨by decide, by decide⟩) rfl (Nat.le_of_ble_eq_true rfl) ⟨by decide, by decide⟩ dL_mappingOf_2 rfl (fun E hE => ?_) (fun x M1 hx h => ?_)
  · have hE := hE
    have hEn := hE.1
    subst hEn
    refine ⟨9, ⟨[], ⟨0, 6, 9, 14⟩, [], xIAE, htb, (fun z hz => by cases hz), by decide, by decide, C.w wcl_L_14 rfl, C.w wca_xIAE rfl, rfl⟩, fun q => ?_⟩
    refine z_astore_n (lv' := [(3, .ref q), (0, .ref (zad G 0 0)), (1, .int (zI a))]) C 9 dL_mappingOf_9 rfl (by decide) rfl ?_
    refine z_bipush C 10 dL_mappingOf_10 (by decide +kernel) ?_
    exact z_iret C 12 dL_mappingOf_12 (by decide) (by decide) (by decide) ⟨fun h1 => ⟨rfl, rfl⟩, fun h1 => absurd h1 hE.2⟩
  refine z_istore_n (lv' := [(2, .int (zI x)), (0, .ref (zad G 0 0)), (1, .int (zI a))]) C 5 dL_mappingOf_5 rfl (by decide) rfl ?_
  refine z_goto C 6 13 dL_mappingOf_6 (by decide) ?_
  refine z_iload_n C 13 dL_mappingOf_13 rfl 0 rfl ?_
  exact z_iret C 14 dL_mappingOf_14 (by decide) (by decide) hx ⟨fun h1 => absurd h.2.1 h1, fun h1 => ⟨h.1, h.2.2⟩⟩
set_option maxHeartbeats 4000000 in
set_option maxRecDepth 100000 in
theorem v_answerLength (l : Launch) (hfl : l.stackTraces = false) (G : zG) (M : zMem) (hw : zWC M) (a : Int) (ha : zrg a) : Met l yL_answerLength [.codeWith yL_answerLength cL_answerLength 4 (some .int) hh_answerLength] (zR 9 1 6) (zPc G M [.ref (zad G 0 0), .int (zI a)]) (zQi G (jr1 M (-72) ((0 ≤ a ∧ a < 65536)) (fun x M' => M = M' ∧ ∃ mm L : Int, zfnd (zmv M) (zml M) (zmg M) (zmn M) a mm ∧ znar (zmv M) (zml M) (zmg M) (zmn M) a (zown (zml M) mm) L ∧ x = if mm = -1 then L + 17 else L))) 1 6 (zA G) := by
  refine zw_met [(0, .ref (zad G 0 0)), (1, .int (zI a))] (by decide) (Nat.le_of_ble_eq_true rfl) rfl ?_
  intro p e s m below meth cz C htb
  have C : zC p s m ([.ref (zad G 0 0), .int (zI a)] : List Value).toArray meth cz G RL cL_answerLength 4 (some .int) := C
  have hN := C.n
  refine z_aload_n C 0 dL_answerLength_0 rfl 0 rfl ?_
  refine z_iload_n C 1 dL_answerLength_1 rfl 1 rfl ?_
  refine zw_callVi C 2 (As := [.int (zI a)]) (rest := []) (c_X7_answerLength l hfl G M hw a ha) zcl7 (show 0 < 1 by omega) (zc0 ..) (zW_of 1 C wm_L_38 wc_X7_answerLength wini_7 wi_X7_answerLength wse_X7_answerLength ⟨by decide, by decide, by decide⟩ ⟨by decide, by decide⟩) rfl (Nat.le_of_ble_eq_true rfl) ⟨by decide, by decide⟩ dL_answerLength_2 rfl (fun E hE => ?_) (fun x M1 hx h => ?_)
  · have hE := hE
    have hEn := hE.1
    subst hEn
    refine ⟨9, ⟨[], ⟨0, 6, 9, 14⟩, [], xIAE, htb, (fun z hz => by cases hz), by decide, by decide, C.w wcl_L_14 rfl, C.w wca_xIAE rfl, rfl⟩, fun q => ?_⟩
    refine z_astore_n (lv' := [(3, .ref q), (0, .ref (zad G 0 0)), (1, .int (zI a))]) C 9 dL_answerLength_9 rfl (by decide) rfl ?_
    refine z_bipush C 10 dL_answerLength_10 (by decide +kernel) ?_
    exact z_iret C 12 dL_answerLength_12 (by decide) (by decide) (by decide) ⟨fun h1 => ⟨rfl, rfl⟩, fun h1 => absurd h1 hE.2⟩
  refine z_istore_n (lv' := [(2, .int (zI x)), (0, .ref (zad G 0 0)), (1, .int (zI a))]) C 5 dL_answerLength_5 rfl (by decide) rfl ?_
  refine z_goto C 6 13 dL_answerLength_6 (by decide) ?_
  refine z_iload_n C 13 dL_answerLength_13 rfl 0 rfl ?_
  exact z_iret C 14 dL_answerLength_14 (by decide) (by decide) hx ⟨fun h1 => absurd h.2.1 h1, fun h1 => ⟨h.1, h.2.2⟩⟩
set_option maxHeartbeats 4000000 in
set_option maxRecDepth 100000 in
theorem v_version (l : Launch) (hfl : l.stackTraces = false) (G : zG) (M : zMem) (hw : zWC M) (a : Int) (ha : zrg a) : Met l yL_version [.codeWith yL_version cL_version 4 (some .int) hh_version] (zR 9 1 6) (zPc G M [.ref (zad G 0 0), .int (zI a)]) (zQi G (jr1 M (-71) ((0 ≤ a ∧ a < zmn M)) (fun x M' => M = M' ∧ x = if zV M 3 a.toNat 3 = 0 then zV M 3 a.toNat 2 else -1))) 1 6 (zA G) := by
  refine zw_met [(0, .ref (zad G 0 0)), (1, .int (zI a))] (by decide) (Nat.le_of_ble_eq_true rfl) rfl ?_
  intro p e s m below meth cz C htb
  have C : zC p s m ([.ref (zad G 0 0), .int (zI a)] : List Value).toArray meth cz G RL cL_version 4 (some .int) := C
  have hN := C.n
  refine z_aload_n C 0 dL_version_0 rfl 0 rfl ?_
  refine z_iload_n C 1 dL_version_1 rfl 1 rfl ?_
  refine zw_callVi C 2 (As := [.int (zI a)]) (rest := []) (c_X7_version l hfl G M hw a ha) zcl7 (show 0 < 1 by omega) (zc0 ..) (zW_of 1 C wm_L_41 wc_X7_version wini_7 wi_X7_version wse_X7_version ⟨by decide, by decide, by decide⟩ ⟨by decide, by decide⟩) rfl (Nat.le_of_ble_eq_true rfl) ⟨by decide, by decide⟩ dL_version_2 rfl (fun E hE => ?_) (fun x M1 hx h => ?_)
  · have hE := hE
    have hEn := hE.1
    subst hEn
    refine ⟨9, ⟨[], ⟨0, 6, 9, 22⟩, [], xIOB, htb, (fun z hz => by cases hz), by decide, by decide, C.w wcl_L_22 rfl, C.w wca_xIOB rfl, rfl⟩, fun q => ?_⟩
    refine z_astore_n (lv' := [(3, .ref q), (0, .ref (zad G 0 0)), (1, .int (zI a))]) C 9 dL_version_9 rfl (by decide) rfl ?_
    refine z_bipush C 10 dL_version_10 (by decide +kernel) ?_
    exact z_iret C 12 dL_version_12 (by decide) (by decide) (by decide) ⟨fun h1 => ⟨rfl, rfl⟩, fun h1 => absurd h1 hE.2⟩
  refine z_istore_n (lv' := [(2, .int (zI x)), (0, .ref (zad G 0 0)), (1, .int (zI a))]) C 5 dL_version_5 rfl (by decide) rfl ?_
  refine z_goto C 6 13 dL_version_6 (by decide) ?_
  refine z_iload_n C 13 dL_version_13 rfl 0 rfl ?_
  exact z_iret C 14 dL_version_14 (by decide) (by decide) hx ⟨fun h1 => absurd h.2.1 h1, fun h1 => ⟨h.1, h.2.2⟩⟩
set_option maxHeartbeats 4000000 in
set_option maxRecDepth 100000 in
theorem v_delegate (l : Launch) (hfl : l.stackTraces = false) (G : zG) (M : zMem) (hw : zWC M) (v b t : Int) (hv : zrg v) (hb : zrg b) (ht : zrg t) : Met l yL_delegate [.codeWith yL_delegate cL_delegate 6 (some .int) hh_delegate] (zR 10 5 30) (zPc G M [.ref (zad G 0 0), .int (zI v), .int (zI b), .int (zI t)]) (zQi G (jr3 M (-71) ((0 ≤ t ∧ t < 4)) (-72) (zvp v b) (-73) (¬ ((∀ i : Nat, (i : Int) < zdn M → ¬ (zdv M i = v ∧ zdl M i = b)) ∧ 12 ≤ zdn M)) (fun x M' => (∃ i : Nat, (i : Int) < zdn M ∧ zdv M i = v ∧ zdl M i = b ∧ x = zdn M ∧ M' = zup M 13 0 i (zI t)) ∨ ((∀ i : Nat, (i : Int) < zdn M → ¬ (zdv M i = v ∧ zdl M i = b)) ∧ zdn M < 12 ∧ x = zdn M + 1 ∧ M' = zdel M v b t)))) 5 30 (zA G) := by
  refine zw_met [(0, .ref (zad G 0 0)), (1, .int (zI v)), (2, .int (zI b)), (3, .int (zI t))] (by decide) (Nat.le_of_ble_eq_true rfl) rfl ?_
  intro p e s m below meth cz C htb
  have C : zC p s m ([.ref (zad G 0 0), .int (zI v), .int (zI b), .int (zI t)] : List Value).toArray meth cz G RL cL_delegate 6 (some .int) := C
  have hN := C.n
  refine z_aload_n C 0 dL_delegate_0 rfl 0 rfl ?_
  refine z_iload_n C 1 dL_delegate_1 rfl 1 rfl ?_
  refine z_iload_n C 2 dL_delegate_2 rfl 2 rfl ?_
  refine z_iload_n C 3 dL_delegate_3 rfl 3 rfl ?_
  refine zw_callVi C 4 (As := [.int (zI v), .int (zI b), .int (zI t)]) (rest := []) (c_X7_delegate l hfl G M hw v b t hv hb ht) zcl7 (show 0 < 1 by omega) (zc0 ..) (zW_of 3 C wm_L_44 wc_X7_delegate wini_7 wi_X7_delegate wse_X7_delegate ⟨by decide, by decide, by decide⟩ ⟨by decide, by decide⟩) rfl (Nat.le_of_ble_eq_true rfl) ⟨by decide, by decide⟩ dL_delegate_4 rfl (fun E hE => ?_) (fun x M1 hx h => ?_)
  · rcases hE with hE | hE | hE
    · have hEn := hE.1
      subst hEn
      refine ⟨12, ⟨[], ⟨0, 9, 12, 22⟩, [⟨0, 9, 17, 14⟩, ⟨0, 9, 22, 16⟩], xIOB, htb, (fun z hz => by cases hz), by decide, by decide, C.w wcl_L_22 rfl, C.w wca_xIOB rfl, rfl⟩, fun q => ?_⟩
      refine z_astore (lv' := [(5, .ref q), (0, .ref (zad G 0 0)), (1, .int (zI v)), (2, .int (zI b)), (3, .int (zI t))]) C 12 dL_delegate_12 (by decide) rfl ?_
      refine z_bipush C 14 dL_delegate_14 (by decide +kernel) ?_
      exact z_iret C 16 dL_delegate_16 (by decide) (by decide) (by decide) ⟨fun h1 => ⟨rfl, rfl⟩, fun h1 h2 => absurd h1 hE.2, fun h1 h2 h3 => absurd h1 hE.2, fun h1 h2 h3 => absurd h1 hE.2⟩
    · have hEn := hE.1
      subst hEn
      refine ⟨17, ⟨[⟨0, 9, 12, 22⟩], ⟨0, 9, 17, 14⟩, [⟨0, 9, 22, 16⟩], xIAE, htb, (fun z hz => by rcases List.mem_cons.mp hz with rfl | hz; exact Or.inr ⟨by decide, _, C.w wcl_L_22 rfl, hN.1⟩; cases hz), by decide, by decide, C.w wcl_L_14 rfl, C.w wca_xIAE rfl, rfl⟩, fun q => ?_⟩
      refine z_astore (lv' := [(5, .ref q), (0, .ref (zad G 0 0)), (1, .int (zI v)), (2, .int (zI b)), (3, .int (zI t))]) C 17 dL_delegate_17 (by decide) rfl ?_
      refine z_bipush C 19 dL_delegate_19 (by decide +kernel) ?_
      exact z_iret C 21 dL_delegate_21 (by decide) (by decide) (by decide) ⟨fun h1 => absurd hE.2.1 h1, fun h1 h2 => ⟨rfl, rfl⟩, fun h1 h2 h3 => absurd h2 hE.2.2, fun h1 h2 h3 => absurd h2 hE.2.2⟩
    · have hEn := hE.1
      subst hEn
      refine ⟨22, ⟨[⟨0, 9, 12, 22⟩, ⟨0, 9, 17, 14⟩], ⟨0, 9, 22, 16⟩, [], xISE, htb, (fun z hz => by rcases List.mem_cons.mp hz with rfl | hz; exact Or.inr ⟨by decide, _, C.w wcl_L_22 rfl, hN.2.1⟩; rcases List.mem_cons.mp hz with rfl | hz; exact Or.inr ⟨by decide, _, C.w wcl_L_14 rfl, hN.2.2⟩; cases hz), by decide, by decide, C.w wcl_L_16 rfl, C.w wca_xISE rfl, rfl⟩, fun q => ?_⟩
      refine z_astore (lv' := [(5, .ref q), (0, .ref (zad G 0 0)), (1, .int (zI v)), (2, .int (zI b)), (3, .int (zI t))]) C 22 dL_delegate_22 (by decide) rfl ?_
      refine z_bipush C 24 dL_delegate_24 (by decide +kernel) ?_
      exact z_iret C 26 dL_delegate_26 (by decide) (by decide) (by decide) ⟨fun h1 => absurd hE.2.1 h1, fun h1 h2 => absurd hE.2.2.1 h2, fun h1 h2 h3 => ⟨rfl, rfl⟩, fun h1 h2 h3 => absurd h3 (fun z => z hE.2.2.2)⟩
  refine z_istore (lv' := [(4, .int (zI x)), (0, .ref (zad G 0 0)), (1, .int (zI v)), (2, .int (zI b)), (3, .int (zI t))]) C 7 dL_delegate_7 (by decide) rfl ?_
  refine z_goto C 9 27 dL_delegate_9 (by decide) ?_
  refine z_iload C 27 dL_delegate_27 0 rfl ?_
  exact z_iret C 29 dL_delegate_29 (by decide) (by decide) hx ⟨fun h1 => absurd h.1 h1, fun h1 h2 => absurd h.2.1 h2, fun h1 h2 h3 => absurd (fun z => h.2.2.elim (fun q => by obtain ⟨i, q1, q2, q3, -⟩ := q; exact z.1 i q1 ⟨q2, q3⟩) (fun q => by have q1 := q.2.1; have q2 := z.2; omega)) h3, fun h1 h2 h3 => h.2.2⟩
set_option maxHeartbeats 4000000 in
set_option maxRecDepth 100000 in
theorem v_setUp (l : Launch) (hfl : l.stackTraces = false) (G : zG) (M : zMem) (hw : zWC M) (t u : Int) (ht : zrg t) (hu : u = 0 ∨ u = 1) : Met l yL_setUp [.codeWith yL_setUp cL_setUp 5 (some .int) hh_setUp] (zR 9 1 6) (zPc G M [.ref (zad G 0 0), .int (zI t), .int (zI u)]) (zQi G (jr1 M (-71) ((0 ≤ t ∧ t < 4)) (fun x M' => x = (if zV M 10 0 t.toNat = 0 then 1 else 0) ∧ M' = zup M 10 0 t.toNat (zI (if u = 0 then 1 else 0))))) 1 6 (zA G) := by
  refine zw_met [(0, .ref (zad G 0 0)), (1, .int (zI t)), (2, .int (zI u))] (by decide) (Nat.le_of_ble_eq_true rfl) rfl ?_
  intro p e s m below meth cz C htb
  have C : zC p s m ([.ref (zad G 0 0), .int (zI t), .int (zI u)] : List Value).toArray meth cz G RL cL_setUp 5 (some .int) := C
  have hN := C.n
  refine z_aload_n C 0 dL_setUp_0 rfl 0 rfl ?_
  refine z_iload_n C 1 dL_setUp_1 rfl 1 rfl ?_
  refine z_iload_n C 2 dL_setUp_2 rfl 2 rfl ?_
  refine zw_callVi C 3 (As := [.int (zI t), .int (zI u)]) (rest := []) (c_X7_setUp l hfl G M hw t u ht hu) zcl7 (show 0 < 1 by omega) (zc0 ..) (zW_of 2 C wm_L_47 wc_X7_setUp wini_7 wi_X7_setUp wse_X7_setUp ⟨by decide, by decide, by decide⟩ ⟨by decide, by decide⟩) rfl (Nat.le_of_ble_eq_true rfl) ⟨by decide, by decide⟩ dL_setUp_3 rfl (fun E hE => ?_) (fun x M1 hx h => ?_)
  · have hE := hE
    have hEn := hE.1
    subst hEn
    refine ⟨10, ⟨[], ⟨0, 7, 10, 22⟩, [], xIOB, htb, (fun z hz => by cases hz), by decide, by decide, C.w wcl_L_22 rfl, C.w wca_xIOB rfl, rfl⟩, fun q => ?_⟩
    refine z_astore (lv' := [(4, .ref q), (0, .ref (zad G 0 0)), (1, .int (zI t)), (2, .int (zI u))]) C 10 dL_setUp_10 (by decide) rfl ?_
    refine z_bipush C 12 dL_setUp_12 (by decide +kernel) ?_
    exact z_iret C 14 dL_setUp_14 (by decide) (by decide) (by decide) ⟨fun h1 => ⟨rfl, rfl⟩, fun h1 => absurd h1 hE.2⟩
  refine z_istore_n (lv' := [(3, .int (zI x)), (0, .ref (zad G 0 0)), (1, .int (zI t)), (2, .int (zI u))]) C 6 dL_setUp_6 rfl (by decide) rfl ?_
  refine z_goto C 7 15 dL_setUp_7 (by decide) ?_
  refine z_iload_n C 15 dL_setUp_15 rfl 0 rfl ?_
  have hb : x = 0 ∨ x = 1 := by rw [h.2.1]; split <;> omega
  refine z_if_eq C 16 23 dL_setUp_16 (by decide) hx (fun c1 => ?_) (fun c1 => ?_)
  · refine z_iconst C 23 dL_setUp_23 ?_
    exact z_iret C 24 dL_setUp_24 (by decide) (by decide) (by decide) (by subst c1; exact ⟨fun h1 => absurd h.1 h1, fun h1 => h.2⟩)
  · have c2 : x = 1 := by omega
    refine z_iconst C 19 dL_setUp_19 ?_
    refine z_goto C 20 24 dL_setUp_20 (by decide) ?_
    exact z_iret C 24 dL_setUp_24 (by decide) (by decide) (by decide) (by subst c2; exact ⟨fun h1 => absurd h.1 h1, fun h1 => h.2⟩)
set_option maxHeartbeats 4000000 in
set_option maxRecDepth 100000 in
theorem v_serverOf (l : Launch) (hfl : l.stackTraces = false) (G : zG) (M : zMem) (hw : zWC M) (a : Int) (ha : zrg a) : Met l yL_serverOf [.codeWith yL_serverOf cL_serverOf 4 (some .int) hh_serverOf] (zR 9 1 6) (zPc G M [.ref (zad G 0 0), .int (zI a)]) (zQi G (jr1 M (-72) ((0 ≤ a ∧ a < 65536)) (fun x M' => M = M' ∧ ∃ y : Int, zfnd (zdv M) (zdl M) z0 (zdn M) a y ∧ x = zsv (zdt M) y))) 1 6 (zA G) := by
  refine zw_met [(0, .ref (zad G 0 0)), (1, .int (zI a))] (by decide) (Nat.le_of_ble_eq_true rfl) rfl ?_
  intro p e s m below meth cz C htb
  have C : zC p s m ([.ref (zad G 0 0), .int (zI a)] : List Value).toArray meth cz G RL cL_serverOf 4 (some .int) := C
  have hN := C.n
  refine z_aload_n C 0 dL_serverOf_0 rfl 0 rfl ?_
  refine z_iload_n C 1 dL_serverOf_1 rfl 1 rfl ?_
  refine zw_callVi C 2 (As := [.int (zI a)]) (rest := []) (c_X7_serverOf l hfl G M hw a ha) zcl7 (show 0 < 1 by omega) (zc0 ..) (zW_of 1 C wm_L_51 wc_X7_serverOf wini_7 wi_X7_serverOf wse_X7_serverOf ⟨by decide, by decide, by decide⟩ ⟨by decide, by decide⟩) rfl (Nat.le_of_ble_eq_true rfl) ⟨by decide, by decide⟩ dL_serverOf_2 rfl (fun E hE => ?_) (fun x M1 hx h => ?_)
  · have hE := hE
    have hEn := hE.1
    subst hEn
    refine ⟨9, ⟨[], ⟨0, 6, 9, 14⟩, [], xIAE, htb, (fun z hz => by cases hz), by decide, by decide, C.w wcl_L_14 rfl, C.w wca_xIAE rfl, rfl⟩, fun q => ?_⟩
    refine z_astore_n (lv' := [(3, .ref q), (0, .ref (zad G 0 0)), (1, .int (zI a))]) C 9 dL_serverOf_9 rfl (by decide) rfl ?_
    refine z_bipush C 10 dL_serverOf_10 (by decide +kernel) ?_
    exact z_iret C 12 dL_serverOf_12 (by decide) (by decide) (by decide) ⟨fun h1 => ⟨rfl, rfl⟩, fun h1 => absurd h1 hE.2⟩
  refine z_istore_n (lv' := [(2, .int (zI x)), (0, .ref (zad G 0 0)), (1, .int (zI a))]) C 5 dL_serverOf_5 rfl (by decide) rfl ?_
  refine z_goto C 6 13 dL_serverOf_6 (by decide) ?_
  refine z_iload_n C 13 dL_serverOf_13 rfl 0 rfl ?_
  exact z_iret C 14 dL_serverOf_14 (by decide) (by decide) hx ⟨fun h1 => absurd h.2.1 h1, fun h1 => ⟨h.1, h.2.2⟩⟩
set_option maxHeartbeats 4000000 in
set_option maxRecDepth 100000 in
theorem v_send (l : Launch) (hfl : l.stackTraces = false) (G : zG) (M : zMem) (hw : zWC M) (a b : Int) (ha : zrg a) (hb : zrg b) : Met l yL_send [.codeWith yL_send cL_send 5 (some .int) hh_send] (zR 9 2 12) (zPc G M [.ref (zad G 0 0), .int (zI a), .int (zI b)]) (zQi G (jr2 M (-71) ((0 ≤ a ∧ a < 3)) (-72) ((0 ≤ b ∧ b < 65536)) (fun x M' => zsnt M M' a.toNat b x))) 2 12 (zA G) := by
  refine zw_met [(0, .ref (zad G 0 0)), (1, .int (zI a)), (2, .int (zI b))] (by decide) (Nat.le_of_ble_eq_true rfl) rfl ?_
  intro p e s m below meth cz C htb
  have C : zC p s m ([.ref (zad G 0 0), .int (zI a), .int (zI b)] : List Value).toArray meth cz G RL cL_send 5 (some .int) := C
  have hN := C.n
  refine z_aload_n C 0 dL_send_0 rfl 0 rfl ?_
  refine z_iload_n C 1 dL_send_1 rfl 1 rfl ?_
  refine z_iload_n C 2 dL_send_2 rfl 2 rfl ?_
  refine zw_callVi C 3 (As := [.int (zI a), .int (zI b)]) (rest := []) (c_X7_send l hfl G M hw a b ha hb) zcl7 (show 0 < 1 by omega) (zc0 ..) (zW_of 2 C wm_L_54 wc_X7_send wini_7 wi_X7_send wse_X7_send ⟨by decide, by decide, by decide⟩ ⟨by decide, by decide⟩) rfl (Nat.le_of_ble_eq_true rfl) ⟨by decide, by decide⟩ dL_send_3 rfl (fun E hE => ?_) (fun x M1 hx h => ?_)
  · rcases hE with hE | hE
    · have hEn := hE.1
      subst hEn
      refine ⟨10, ⟨[], ⟨0, 7, 10, 22⟩, [⟨0, 7, 15, 14⟩], xIOB, htb, (fun z hz => by cases hz), by decide, by decide, C.w wcl_L_22 rfl, C.w wca_xIOB rfl, rfl⟩, fun q => ?_⟩
      refine z_astore (lv' := [(4, .ref q), (0, .ref (zad G 0 0)), (1, .int (zI a)), (2, .int (zI b))]) C 10 dL_send_10 (by decide) rfl ?_
      refine z_bipush C 12 dL_send_12 (by decide +kernel) ?_
      exact z_iret C 14 dL_send_14 (by decide) (by decide) (by decide) ⟨fun h1 => ⟨rfl, rfl⟩, fun h1 h2 => absurd h1 hE.2, fun h1 h2 => absurd h1 hE.2⟩
    · have hEn := hE.1
      subst hEn
      refine ⟨15, ⟨[⟨0, 7, 10, 22⟩], ⟨0, 7, 15, 14⟩, [], xIAE, htb, (fun z hz => by rcases List.mem_cons.mp hz with rfl | hz; exact Or.inr ⟨by decide, _, C.w wcl_L_22 rfl, hN.1⟩; cases hz), by decide, by decide, C.w wcl_L_14 rfl, C.w wca_xIAE rfl, rfl⟩, fun q => ?_⟩
      refine z_astore (lv' := [(4, .ref q), (0, .ref (zad G 0 0)), (1, .int (zI a)), (2, .int (zI b))]) C 15 dL_send_15 (by decide) rfl ?_
      refine z_bipush C 17 dL_send_17 (by decide +kernel) ?_
      exact z_iret C 19 dL_send_19 (by decide) (by decide) (by decide) ⟨fun h1 => absurd hE.2.1 h1, fun h1 h2 => ⟨rfl, rfl⟩, fun h1 h2 => absurd h2 hE.2.2⟩
  refine z_istore_n (lv' := [(3, .int (zI x)), (0, .ref (zad G 0 0)), (1, .int (zI a)), (2, .int (zI b))]) C 6 dL_send_6 rfl (by decide) rfl ?_
  refine z_goto C 7 20 dL_send_7 (by decide) ?_
  refine z_iload_n C 20 dL_send_20 rfl 0 rfl ?_
  exact z_iret C 21 dL_send_21 (by decide) (by decide) hx ⟨fun h1 => absurd h.1 h1, fun h1 h2 => absurd h.2.1 h2, fun h1 h2 => h.2.2⟩
set_option maxHeartbeats 4000000 in
set_option maxRecDepth 100000 in
theorem v_probe (l : Launch) (hfl : l.stackTraces = false) (G : zG) (M : zMem) (hw : zWC M) (a b u : Int) (ha : zrg a) (hb : zrg b) (hu : u = 0 ∨ u = 1) : Met l yL_probe [.codeWith yL_probe cL_probe 6 (some .int) hh_probe] (zR 9 2 12) (zPc G M [.ref (zad G 0 0), .int (zI a), .int (zI b), .int (zI u)]) (zQi G (jr2 M (-71) ((0 ≤ a ∧ a < 3)) (-72) ((0 ≤ b ∧ b < 32)) (fun x M' => M' = zup M 18 a.toNat b.toNat (zI (if u = 0 then 1 else 0)) ∧ x = zprb M' a.toNat))) 2 12 (zA G) := by
  refine zw_met [(0, .ref (zad G 0 0)), (1, .int (zI a)), (2, .int (zI b)), (3, .int (zI u))] (by decide) (Nat.le_of_ble_eq_true rfl) rfl ?_
  intro p e s m below meth cz C htb
  have C : zC p s m ([.ref (zad G 0 0), .int (zI a), .int (zI b), .int (zI u)] : List Value).toArray meth cz G RL cL_probe 6 (some .int) := C
  have hN := C.n
  refine z_aload_n C 0 dL_probe_0 rfl 0 rfl ?_
  refine z_iload_n C 1 dL_probe_1 rfl 1 rfl ?_
  refine z_iload_n C 2 dL_probe_2 rfl 2 rfl ?_
  refine z_iload_n C 3 dL_probe_3 rfl 3 rfl ?_
  refine zw_callVi C 4 (As := [.int (zI a), .int (zI b), .int (zI u)]) (rest := []) (c_X7_probe l hfl G M hw a b u ha hb hu) zcl7 (show 0 < 1 by omega) (zc0 ..) (zW_of 3 C wm_L_57 wc_X7_probe wini_7 wi_X7_probe wse_X7_probe ⟨by decide, by decide, by decide⟩ ⟨by decide, by decide⟩) rfl (Nat.le_of_ble_eq_true rfl) ⟨by decide, by decide⟩ dL_probe_4 rfl (fun E hE => ?_) (fun x M1 hx h => ?_)
  · rcases hE with hE | hE
    · have hEn := hE.1
      subst hEn
      refine ⟨12, ⟨[], ⟨0, 9, 12, 22⟩, [⟨0, 9, 17, 14⟩], xIOB, htb, (fun z hz => by cases hz), by decide, by decide, C.w wcl_L_22 rfl, C.w wca_xIOB rfl, rfl⟩, fun q => ?_⟩
      refine z_astore (lv' := [(5, .ref q), (0, .ref (zad G 0 0)), (1, .int (zI a)), (2, .int (zI b)), (3, .int (zI u))]) C 12 dL_probe_12 (by decide) rfl ?_
      refine z_bipush C 14 dL_probe_14 (by decide +kernel) ?_
      exact z_iret C 16 dL_probe_16 (by decide) (by decide) (by decide) ⟨fun h1 => ⟨rfl, rfl⟩, fun h1 h2 => absurd h1 hE.2, fun h1 h2 => absurd h1 hE.2⟩
    · have hEn := hE.1
      subst hEn
      refine ⟨17, ⟨[⟨0, 9, 12, 22⟩], ⟨0, 9, 17, 14⟩, [], xIAE, htb, (fun z hz => by rcases List.mem_cons.mp hz with rfl | hz; exact Or.inr ⟨by decide, _, C.w wcl_L_22 rfl, hN.1⟩; cases hz), by decide, by decide, C.w wcl_L_14 rfl, C.w wca_xIAE rfl, rfl⟩, fun q => ?_⟩
      refine z_astore (lv' := [(5, .ref q), (0, .ref (zad G 0 0)), (1, .int (zI a)), (2, .int (zI b)), (3, .int (zI u))]) C 17 dL_probe_17 (by decide) rfl ?_
      refine z_bipush C 19 dL_probe_19 (by decide +kernel) ?_
      exact z_iret C 21 dL_probe_21 (by decide) (by decide) (by decide) ⟨fun h1 => absurd hE.2.1 h1, fun h1 h2 => ⟨rfl, rfl⟩, fun h1 h2 => absurd h2 hE.2.2⟩
  refine z_istore (lv' := [(4, .int (zI x)), (0, .ref (zad G 0 0)), (1, .int (zI a)), (2, .int (zI b)), (3, .int (zI u))]) C 7 dL_probe_7 (by decide) rfl ?_
  refine z_goto C 9 22 dL_probe_9 (by decide) ?_
  refine z_iload C 22 dL_probe_22 0 rfl ?_
  exact z_iret C 24 dL_probe_24 (by decide) (by decide) hx ⟨fun h1 => absurd h.1 h1, fun h1 h2 => absurd h.2.1 h2, fun h1 h2 => h.2.2⟩
set_option maxHeartbeats 4000000 in
set_option maxRecDepth 100000 in
theorem v_setLifetimes (l : Launch) (hfl : l.stackTraces = false) (G : zG) (M : zMem) (a b : Int) (ha : zrg a) (hb : zrg b) : Met l yL_setLifetimes [.codeWith yL_setLifetimes cL_setLifetimes 5 (some .int) hh_setLifetimes] (zR 9 2 12) (zPc G M [.ref (zad G 0 0), .int (zI a), .int (zI b)]) (zQi G (jr1 M (-72) (((1 ≤ a ∧ a ≤ 1000) ∧ 1 ≤ b ∧ b ≤ 1000)) (fun x M' => x = zV M 0 0 4 ∧ M' = zup (zup M 0 0 4 (zI a)) 0 0 5 (zI b)))) 2 12 (zA G) := by
  refine zw_met [(0, .ref (zad G 0 0)), (1, .int (zI a)), (2, .int (zI b))] (by decide) (Nat.le_of_ble_eq_true rfl) rfl ?_
  intro p e s m below meth cz C htb
  have C : zC p s m ([.ref (zad G 0 0), .int (zI a), .int (zI b)] : List Value).toArray meth cz G RL cL_setLifetimes 5 (some .int) := C
  have hN := C.n
  refine z_aload_n C 0 dL_setLifetimes_0 rfl 0 rfl ?_
  refine z_iload_n C 1 dL_setLifetimes_1 rfl 1 rfl ?_
  refine z_iload_n C 2 dL_setLifetimes_2 rfl 2 rfl ?_
  refine zw_callVi C 3 (As := [.int (zI a), .int (zI b)]) (rest := []) (c_X7_setLifetimes l hfl G M a b ha hb) zcl7 (show 0 < 1 by omega) (zc0 ..) (zW_of 2 C wm_L_61 wc_X7_setLifetimes wini_7 wi_X7_setLifetimes wse_X7_setLifetimes ⟨by decide, by decide, by decide⟩ ⟨by decide, by decide⟩) rfl (Nat.le_of_ble_eq_true rfl) ⟨by decide, by decide⟩ dL_setLifetimes_3 rfl (fun E hE => ?_) (fun x M1 hx h => ?_)
  · have hE := hE
    have hEn := hE.1
    subst hEn
    refine ⟨10, ⟨[], ⟨0, 7, 10, 14⟩, [], xIAE, htb, (fun z hz => by cases hz), by decide, by decide, C.w wcl_L_14 rfl, C.w wca_xIAE rfl, rfl⟩, fun q => ?_⟩
    refine z_astore (lv' := [(4, .ref q), (0, .ref (zad G 0 0)), (1, .int (zI a)), (2, .int (zI b))]) C 10 dL_setLifetimes_10 (by decide) rfl ?_
    refine z_bipush C 12 dL_setLifetimes_12 (by decide +kernel) ?_
    exact z_iret C 14 dL_setLifetimes_14 (by decide) (by decide) (by decide) ⟨fun h1 => ⟨rfl, rfl⟩, fun h1 => absurd h1 hE.2⟩
  refine z_istore_n (lv' := [(3, .int (zI x)), (0, .ref (zad G 0 0)), (1, .int (zI a)), (2, .int (zI b))]) C 6 dL_setLifetimes_6 rfl (by decide) rfl ?_
  refine z_goto C 7 15 dL_setLifetimes_7 (by decide) ?_
  refine z_iload_n C 15 dL_setLifetimes_15 rfl 0 rfl ?_
  exact z_iret C 16 dL_setLifetimes_16 (by decide) (by decide) hx ⟨fun h1 => absurd h.1 h1, fun h1 => h.2⟩
set_option maxHeartbeats 4000000 in
set_option maxRecDepth 100000 in
theorem v_pass (l : Launch) (hfl : l.stackTraces = false) (G : zG) (M : zMem) (a : Int) (ha : zrg a) : Met l yL_pass [.codeWith yL_pass cL_pass 4 (some .int) hh_pass] (zR 9 1 6) (zPc G M [.ref (zad G 0 0), .int (zI a)]) (zQi G (jr1 M (-72) ((1 ≤ a ∧ a ≤ 1000)) (fun x M' => x = zw (zV M 0 0 3 + a) ∧ M' = zup M 0 0 3 (zI (zV M 0 0 3 + a))))) 1 6 (zA G) := by
  refine zw_met [(0, .ref (zad G 0 0)), (1, .int (zI a))] (by decide) (Nat.le_of_ble_eq_true rfl) rfl ?_
  intro p e s m below meth cz C htb
  have C : zC p s m ([.ref (zad G 0 0), .int (zI a)] : List Value).toArray meth cz G RL cL_pass 4 (some .int) := C
  have hN := C.n
  refine z_aload_n C 0 dL_pass_0 rfl 0 rfl ?_
  refine z_iload_n C 1 dL_pass_1 rfl 1 rfl ?_
  refine zw_callVi C 2 (As := [.int (zI a)]) (rest := []) (c_X7_pass l hfl G M a ha) zcl7 (show 0 < 1 by omega) (zc0 ..) (zW_of 1 C wm_L_64 wc_X7_pass wini_7 wi_X7_pass wse_X7_pass ⟨by decide, by decide, by decide⟩ ⟨by decide, by decide⟩) rfl (Nat.le_of_ble_eq_true rfl) ⟨by decide, by decide⟩ dL_pass_2 rfl (fun E hE => ?_) (fun x M1 hx h => ?_)
  · have hE := hE
    have hEn := hE.1
    subst hEn
    refine ⟨9, ⟨[], ⟨0, 6, 9, 14⟩, [], xIAE, htb, (fun z hz => by cases hz), by decide, by decide, C.w wcl_L_14 rfl, C.w wca_xIAE rfl, rfl⟩, fun q => ?_⟩
    refine z_astore_n (lv' := [(3, .ref q), (0, .ref (zad G 0 0)), (1, .int (zI a))]) C 9 dL_pass_9 rfl (by decide) rfl ?_
    refine z_bipush C 10 dL_pass_10 (by decide +kernel) ?_
    exact z_iret C 12 dL_pass_12 (by decide) (by decide) (by decide) ⟨fun h1 => ⟨rfl, rfl⟩, fun h1 => absurd h1 hE.2⟩
  refine z_istore_n (lv' := [(2, .int (zI x)), (0, .ref (zad G 0 0)), (1, .int (zI a))]) C 5 dL_pass_5 rfl (by decide) rfl ?_
  refine z_goto C 6 13 dL_pass_6 (by decide) ?_
  refine z_iload_n C 13 dL_pass_13 rfl 0 rfl ?_
  exact z_iret C 14 dL_pass_14 (by decide) (by decide) hx ⟨fun h1 => absurd h.1 h1, fun h1 => h.2⟩
set_option maxHeartbeats 4000000 in
set_option maxRecDepth 100000 in
theorem v_prefixOf (l : Launch) (hfl : l.stackTraces = false) (G : zG) (M : zMem) (hw : zWC M) (a b : Int) (ha : zrg a) (hb : zrg b) : Met l yL_prefixOf [.codeWith yL_prefixOf cL_prefixOf 5 (some .int) hh_prefixOf] (zR 10 2 12) (zPc G M [.ref (zad G 0 0), .int (zI a), .int (zI b)]) (zQi G (jr1 M (-71) (((0 ≤ a ∧ a < 3) ∧ 0 ≤ b ∧ b < zV M 16 a.toNat 2)) (fun x M' => M = M' ∧ x = zw (32 * zV M 20 (zq M a.toNat b.toNat) 0 + zV M 20 (zq M a.toNat b.toNat) 1)))) 2 12 (zA G) := by
  refine zw_met [(0, .ref (zad G 0 0)), (1, .int (zI a)), (2, .int (zI b))] (by decide) (Nat.le_of_ble_eq_true rfl) rfl ?_
  intro p e s m below meth cz C htb
  have C : zC p s m ([.ref (zad G 0 0), .int (zI a), .int (zI b)] : List Value).toArray meth cz G RL cL_prefixOf 5 (some .int) := C
  have hN := C.n
  refine z_aload_n C 0 dL_prefixOf_0 rfl 0 rfl ?_
  refine z_iload_n C 1 dL_prefixOf_1 rfl 1 rfl ?_
  refine z_iload_n C 2 dL_prefixOf_2 rfl 2 rfl ?_
  refine zw_callVi C 3 (As := [.int (zI a), .int (zI b)]) (rest := []) (c_X7_prefixOf l hfl G M hw a b ha hb) zcl7 (show 0 < 1 by omega) (zc0 ..) (zW_of 2 C wm_L_67 wc_X7_prefixOf wini_7 wi_X7_prefixOf wse_X7_prefixOf ⟨by decide, by decide, by decide⟩ ⟨by decide, by decide⟩) rfl (Nat.le_of_ble_eq_true rfl) ⟨by decide, by decide⟩ dL_prefixOf_3 rfl (fun E hE => ?_) (fun x M1 hx h => ?_)
  · have hE := hE
    have hEn := hE.1
    subst hEn
    refine ⟨10, ⟨[], ⟨0, 7, 10, 22⟩, [], xIOB, htb, (fun z hz => by cases hz), by decide, by decide, C.w wcl_L_22 rfl, C.w wca_xIOB rfl, rfl⟩, fun q => ?_⟩
    refine z_astore (lv' := [(4, .ref q), (0, .ref (zad G 0 0)), (1, .int (zI a)), (2, .int (zI b))]) C 10 dL_prefixOf_10 (by decide) rfl ?_
    refine z_bipush C 12 dL_prefixOf_12 (by decide +kernel) ?_
    exact z_iret C 14 dL_prefixOf_14 (by decide) (by decide) (by decide) ⟨fun h1 => ⟨rfl, rfl⟩, fun h1 => absurd h1 hE.2⟩
  refine z_istore_n (lv' := [(3, .int (zI x)), (0, .ref (zad G 0 0)), (1, .int (zI a)), (2, .int (zI b))]) C 6 dL_prefixOf_6 rfl (by decide) rfl ?_
  refine z_goto C 7 15 dL_prefixOf_7 (by decide) ?_
  refine z_iload_n C 15 dL_prefixOf_15 rfl 0 rfl ?_
  exact z_iret C 16 dL_prefixOf_16 (by decide) (by decide) hx ⟨fun h1 => absurd h.2.1 h1, fun h1 => ⟨h.1, h.2.2⟩⟩
set_option maxHeartbeats 4000000 in
set_option maxRecDepth 100000 in
theorem v_packetsTo (l : Launch) (hfl : l.stackTraces = false) (G : zG) (M : zMem) (hw : zWC M) (a b t : Int) (ha : zrg a) (hb : zrg b) (ht : zrg t) : Met l yL_packetsTo [.codeWith yL_packetsTo cL_packetsTo 6 (some .int) hh_packetsTo] (zR 10 3 18) (zPc G M [.ref (zad G 0 0), .int (zI a), .int (zI b), .int (zI t)]) (zQi G (jr2 M (-71) (((0 ≤ a ∧ a < 3) ∧ 0 ≤ b ∧ b < zV M 16 a.toNat 2)) (-72) ((0 ≤ t ∧ t < 32)) (fun x M' => M = M' ∧ ∃ pl : Int, zplace (fun j => zV M 22 (zq M a.toNat b.toNat) j) (zV M 21 (zq M a.toNat b.toNat) 3) t pl ∧ x = if pl = -1 then 0 else zV M 25 (zq M a.toNat b.toNat) pl.toNat))) 3 18 (zA G) := by
  refine zw_met [(0, .ref (zad G 0 0)), (1, .int (zI a)), (2, .int (zI b)), (3, .int (zI t))] (by decide) (Nat.le_of_ble_eq_true rfl) rfl ?_
  intro p e s m below meth cz C htb
  have C : zC p s m ([.ref (zad G 0 0), .int (zI a), .int (zI b), .int (zI t)] : List Value).toArray meth cz G RL cL_packetsTo 6 (some .int) := C
  have hN := C.n
  refine z_aload_n C 0 dL_packetsTo_0 rfl 0 rfl ?_
  refine z_iload_n C 1 dL_packetsTo_1 rfl 1 rfl ?_
  refine z_iload_n C 2 dL_packetsTo_2 rfl 2 rfl ?_
  refine z_iload_n C 3 dL_packetsTo_3 rfl 3 rfl ?_
  refine zw_callVi C 4 (As := [.int (zI a), .int (zI b), .int (zI t)]) (rest := []) (c_X7_packetsTo l hfl G M hw a b t ha hb ht) zcl7 (show 0 < 1 by omega) (zc0 ..) (zW_of 3 C wm_L_70 wc_X7_packetsTo wini_7 wi_X7_packetsTo wse_X7_packetsTo ⟨by decide, by decide, by decide⟩ ⟨by decide, by decide⟩) rfl (Nat.le_of_ble_eq_true rfl) ⟨by decide, by decide⟩ dL_packetsTo_4 rfl (fun E hE => ?_) (fun x M1 hx h => ?_)
  · rcases hE with hE | hE
    · have hEn := hE.1
      subst hEn
      refine ⟨12, ⟨[], ⟨0, 9, 12, 22⟩, [⟨0, 9, 17, 14⟩], xIOB, htb, (fun z hz => by cases hz), by decide, by decide, C.w wcl_L_22 rfl, C.w wca_xIOB rfl, rfl⟩, fun q => ?_⟩
      refine z_astore (lv' := [(5, .ref q), (0, .ref (zad G 0 0)), (1, .int (zI a)), (2, .int (zI b)), (3, .int (zI t))]) C 12 dL_packetsTo_12 (by decide) rfl ?_
      refine z_bipush C 14 dL_packetsTo_14 (by decide +kernel) ?_
      exact z_iret C 16 dL_packetsTo_16 (by decide) (by decide) (by decide) ⟨fun h1 => ⟨rfl, rfl⟩, fun h1 h2 => absurd h1 hE.2, fun h1 h2 => absurd h1 hE.2⟩
    · have hEn := hE.1
      subst hEn
      refine ⟨17, ⟨[⟨0, 9, 12, 22⟩], ⟨0, 9, 17, 14⟩, [], xIAE, htb, (fun z hz => by rcases List.mem_cons.mp hz with rfl | hz; exact Or.inr ⟨by decide, _, C.w wcl_L_22 rfl, hN.1⟩; cases hz), by decide, by decide, C.w wcl_L_14 rfl, C.w wca_xIAE rfl, rfl⟩, fun q => ?_⟩
      refine z_astore (lv' := [(5, .ref q), (0, .ref (zad G 0 0)), (1, .int (zI a)), (2, .int (zI b)), (3, .int (zI t))]) C 17 dL_packetsTo_17 (by decide) rfl ?_
      refine z_bipush C 19 dL_packetsTo_19 (by decide +kernel) ?_
      exact z_iret C 21 dL_packetsTo_21 (by decide) (by decide) (by decide) ⟨fun h1 => absurd hE.2.1 h1, fun h1 h2 => ⟨rfl, rfl⟩, fun h1 h2 => absurd h2 hE.2.2⟩
  refine z_istore (lv' := [(4, .int (zI x)), (0, .ref (zad G 0 0)), (1, .int (zI a)), (2, .int (zI b)), (3, .int (zI t))]) C 7 dL_packetsTo_7 (by decide) rfl ?_
  refine z_goto C 9 22 dL_packetsTo_9 (by decide) ?_
  refine z_iload C 22 dL_packetsTo_22 0 rfl ?_
  exact z_iret C 24 dL_packetsTo_24 (by decide) (by decide) hx ⟨fun h1 => absurd h.2.1 h1, fun h1 h2 => absurd h.2.2.1 h2, fun h1 h2 => ⟨h.1, h.2.2.2⟩⟩
