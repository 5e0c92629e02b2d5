theorem jor_s {Q : Nat → Prop} {x b k : Int} (hk : 0 ≤ k) (h : zb x (∃ i : Nat, (i : Int) < k ∧ Q i)) (hb : zb b (Q k.toNat)) : zb (max x b) (∃ i : Nat, (i : Int) < k + 1 ∧ Q i) := by
  obtain ⟨h1, h2⟩ := h
  obtain ⟨b1, b2⟩ := hb
  refine ⟨by omega, ?_⟩
  constructor
  · intro z
    rcases h1 with q | q
    · rcases b1 with w | w
      · omega
      · exact ⟨k.toNat, by omega, b2.mp w⟩
    · obtain ⟨i, i1, i2⟩ := h2.mp q
      exact ⟨i, by omega, i2⟩
  · rintro ⟨i, i1, i2⟩
    by_cases q : (i : Int) < k
    · have := h2.mpr ⟨i, q, i2⟩
      omega
    · rw [show i = k.toNat by omega] at i2
      have := b2.mpr i2
      omega
theorem jor_0 {Q : Nat → Prop} : zb 0 (∃ i : Nat, (i : Int) < 0 ∧ Q i) := ⟨Or.inl rfl, fun z => absurd z (by decide), fun z => by obtain ⟨i, hi, -⟩ := z; omega⟩
set_option maxHeartbeats 4000000 in
set_option maxRecDepth 100000 in
theorem c_L_registers (l : Launch) (G : zG) (M : zMem) {n : Nat} (hfl : l.stackTraces = false) (h : iN n M M) (hn : n ≤ 119) (act y z : Int) (hact : 0 ≤ act ∧ act < 12) : Met l yL_registers [.code yL_registers cL_registers 17 (some .boolean)] (zR 11 40 240) (zPc G M [.ref (zad G 0 0), .int (zI act), .int (zI y), .int (zI z), .ref (zad G 26 0), .ref (zad G 27 0), .ref (zad G 28 0), .ref (zad G 30 0), .ref (zad G 32 0), .ref (zad G 36 0)]) (zQi G (fun x M' => x = 1 ∧ iN (n + 1) M' M')) 40 240 (zA G) := by
  refine z_met [(0, .ref (zad G 0 0)), (1, .int (zI act)), (2, .int (zI y)), (3, .int (zI z)), (4, .ref (zad G 26 0)), (5, .ref (zad G 27 0)), (6, .ref (zad G 28 0)), (7, .ref (zad G 30 0)), (8, .ref (zad G 32 0)), (9, .ref (zad G 36 0))] (by decide) (Nat.le_of_ble_eq_true rfl) rfl ?_
  intro p e s m below meth c C
  have C : zC p s m ([.ref (zad G 0 0), .int (zI act), .int (zI y), .int (zI z), .ref (zad G 26 0), .ref (zad G 27 0), .ref (zad G 28 0), .ref (zad G 30 0), .ref (zad G 32 0), .ref (zad G 36 0)] : List Value).toArray meth c G RL cL_registers 17 (some .boolean) := C
  have hw := iN_WC h (by omega)
  have hA := h.1
  have hA1 := hA.1
  have hA2 := hA.2.1
  have hmn : zmn M = zV M 1 0 1 := rfl
  have hW := h.2.2.2.2.2.2.2.2.1
  have hC6 := h.2.2.2.1.2.1
  have hC7 := h.2.2.2.1.2.2.2.2
  refine z_iload_n C 0 dL_registers_0 rfl 1 rfl ?_
  refine z_iconst C 1 dL_registers_1 ?_
  refine z_icmp_ge C 2 254 dL_registers_2 (by decide) (by first | assumption | omega) (by decide) (fun c2_16 => ?_) (fun c2_16 => ?_)
  · refine z_iload_n C 254 dL_registers_254 rfl 2 rfl ?_
    refine z_aload C 255 dL_registers_255 9 rfl ?_
    refine z_iconst C 257 dL_registers_257 ?_
    refine z_ialdj C 258 (show 0 < 1 by omega) (zc36 ..) 3 rfl (by decide) (by omega) (show 3 < ((12 : Nat) : Int) by omega) dL_registers_258 (fun zq1 ezq1 hzq1 => ?_)
    refine z_iconst C 259 dL_registers_259 ?_
    refine z_iadd C 260 dL_registers_260 ?_
    refine z_callSi C 261 (As := [.int (zI y), .int (zI (zq1 + 1))]) (rest := []) (c_L_low l G M y (zq1 + 1) (by omega)) (zS_of 2 C wm_L_85 wc_L_low wini_L wst_L_low ⟨by decide, by decide, by decide⟩ ⟨by decide, by decide⟩) rfl (Nat.le_of_ble_eq_true rfl) ⟨by decide, by decide⟩ dL_registers_261 rfl (fun zq2 Mz3 hzq2 hPz2 => ?_)
    obtain ⟨rfl, hPz2⟩ := hPz2
    refine z_istore (lv' := [(10, .int (zI zq2)), (0, .ref (zad G 0 0)), (1, .int (zI act)), (2, .int (zI y)), (3, .int (zI z)), (4, .ref (zad G 26 0)), (5, .ref (zad G 27 0)), (6, .ref (zad G 28 0)), (7, .ref (zad G 30 0)), (8, .ref (zad G 32 0)), (9, .ref (zad G 36 0))]) C 264 dL_registers_264 (by decide) rfl ?_
    have J319_4 : ∀ (w : Int), (0 ≤ w ∧ w ≤ zV M 1 0 1) → zZ p l e (zR 11 40 240) s m ([.ref (zad G 0 0), .int (zI act), .int (zI y), .int (zI z), .ref (zad G 26 0), .ref (zad G 27 0), .ref (zad G 28 0), .ref (zad G 30 0), .ref (zad G 32 0), .ref (zad G 36 0)] : List Value).toArray below meth c G 17 (MQ below (zQi G (fun x M' => x = 1 ∧ iN (n + 1) M' M')) ([.ref (zad G 0 0), .int (zI act), .int (zI y), .int (zI z), .ref (zad G 26 0), .ref (zad G 27 0), .ref (zad G 28 0), .ref (zad G 30 0), .ref (zad G 32 0), .ref (zad G 36 0)] : List Value).toArray s 40 240 (zA G)) M 0 0 319 [(0, .ref (zad G 0 0)), (1, .int (zI act)), (2, .int (zI y)), (3, .int (zI z)), (4, .ref (zad G 26 0)), (5, .ref (zad G 27 0)), (6, .ref (zad G 28 0)), (7, .ref (zad G 30 0)), (8, .ref (zad G 32 0)), (9, .ref (zad G 36 0)), (10, .int (zI w))] [] := by
      intro w hw0
      refine z_iload_n C 319 dL_registers_319 rfl 1 rfl ?_
      refine z_iconst C 320 dL_registers_320 ?_
      refine z_icmp_ne C 321 461 dL_registers_321 (by decide) (by first | assumption | omega) (by decide) (fun c321_31 => ?_) (fun c321_31 => ?_)
      · refine z_iload_n C 461 dL_registers_461 rfl 3 rfl ?_
        refine z_bipush C 462 dL_registers_462 (by decide +kernel) ?_
        refine z_ishr_any C 464 dL_registers_464 (fun zv5 hzv5 => ?_)
        refine z_bipush C 465 dL_registers_465 (by decide +kernel) ?_
        refine z_callSi C 467 (As := [.int (zI zv5), .int (zI 6)]) (rest := []) (c_L_low l G M zv5 6 (by omega)) (zS_of 2 C wm_L_85 wc_L_low wini_L wst_L_low ⟨by decide, by decide, by decide⟩ ⟨by decide, by decide⟩) rfl (Nat.le_of_ble_eq_true rfl) ⟨by decide, by decide⟩ dL_registers_467 rfl (fun zq6 Mz7 hzq6 hPz6 => ?_)
        obtain ⟨rfl, hPz6⟩ := hPz6
        refine z_istore (lv' := [(11, .int (zI zq6)), (0, .ref (zad G 0 0)), (1, .int (zI act)), (2, .int (zI y)), (3, .int (zI z)), (4, .ref (zad G 26 0)), (5, .ref (zad G 27 0)), (6, .ref (zad G 28 0)), (7, .ref (zad G 30 0)), (8, .ref (zad G 32 0)), (9, .ref (zad G 36 0)), (10, .int (zI w))]) C 470 dL_registers_470 (by decide) rfl ?_
        refine z_iload C 472 dL_registers_472 11 rfl ?_
        refine z_aload C 474 dL_registers_474 10 rfl ?_
        refine z_iconst C 476 dL_registers_476 ?_
        refine z_ialdj C 477 (show 0 < 1 by omega) (zc36 ..) 3 rfl (by decide) (by omega) (show 3 < ((12 : Nat) : Int) by omega) dL_registers_477 (fun zq8 ezq8 hzq8 => ?_)
        refine z_icmp_ne C 478 527 dL_registers_478 (by decide) (by first | assumption | omega) hzq8 (fun c478_44 => ?_) (fun c478_44 => ?_)
        · have hmw := iA_m hA (i := w.toNat) (by omega)
          have hcw := (hA.2.2.1 w.toNat (by omega)).2.2.2.1
          refine z_iconst C 527 dL_registers_527 ?_
          refine z_istore (lv' := [(12, .int (zI (-1))), (11, .int (zI zq6)), (0, .ref (zad G 0 0)), (1, .int (zI act)), (2, .int (zI y)), (3, .int (zI z)), (4, .ref (zad G 26 0)), (5, .ref (zad G 27 0)), (6, .ref (zad G 28 0)), (7, .ref (zad G 30 0)), (8, .ref (zad G 32 0)), (9, .ref (zad G 36 0)), (10, .int (zI w))]) C 528 dL_registers_528 (by decide) rfl ?_
          refine z_iconst C 530 dL_registers_530 ?_
          refine z_istore (lv' := [(13, .int (zI 0)), (12, .int (zI (-1))), (11, .int (zI zq6)), (0, .ref (zad G 0 0)), (1, .int (zI act)), (2, .int (zI y)), (3, .int (zI z)), (4, .ref (zad G 26 0)), (5, .ref (zad G 27 0)), (6, .ref (zad G 28 0)), (7, .ref (zad G 30 0)), (8, .ref (zad G 32 0)), (9, .ref (zad G 36 0)), (10, .int (zI w))]) C 531 dL_registers_531 (by decide) rfl ?_
          refine z_iconst C 533 dL_registers_533 ?_
          refine z_istore (lv' := [(14, .int (zI 0)), (13, .int (zI 0)), (12, .int (zI (-1))), (11, .int (zI zq6)), (0, .ref (zad G 0 0)), (1, .int (zI act)), (2, .int (zI y)), (3, .int (zI z)), (4, .ref (zad G 26 0)), (5, .ref (zad G 27 0)), (6, .ref (zad G 28 0)), (7, .ref (zad G 30 0)), (8, .ref (zad G 32 0)), (9, .ref (zad G 36 0)), (10, .int (zI w))]) C 534 dL_registers_534 (by decide) rfl ?_
          have L536_9 : ∀ (kz9 : Nat) (f : Int) (mn : Int) (k : Int), (0 ≤ k ∧ k ≤ 4) → (jatk M w zq6 f k) → (mn = zsm (fun j => zind (0 < zV M 28 0 (4 * w.toNat + j))) k.toNat) → (-1 ≤ f ∧ f < 64) → (4 - k) < (kz9 : Int) → zZ p l e (zR 11 40 240) s m ([.ref (zad G 0 0), .int (zI act), .int (zI y), .int (zI z), .ref (zad G 26 0), .ref (zad G 27 0), .ref (zad G 28 0), .ref (zad G 30 0), .ref (zad G 32 0), .ref (zad G 36 0)] : List Value).toArray below meth c G 17 (MQ below (zQi G (fun x M' => x = 1 ∧ iN (n + 1) M' M')) ([.ref (zad G 0 0), .int (zI act), .int (zI y), .int (zI z), .ref (zad G 26 0), .ref (zad G 27 0), .ref (zad G 28 0), .ref (zad G 30 0), .ref (zad G 32 0), .ref (zad G 36 0)] : List Value).toArray s 40 240 (zA G)) M 0 0 536 [(11, .int (zI zq6)), (0, .ref (zad G 0 0)), (1, .int (zI act)), (2, .int (zI y)), (3, .int (zI z)), (4, .ref (zad G 26 0)), (5, .ref (zad G 27 0)), (6, .ref (zad G 28 0)), (7, .ref (zad G 30 0)), (8, .ref (zad G 32 0)), (9, .ref (zad G 36 0)), (10, .int (zI w)), (12, .int (zI f)), (13, .int (zI mn)), (14, .int (zI k))] [] := by
            intro kz9
            induction kz9 with
            | zero =>
              intro f mn k g0 g1 g2 g3 hk
              exact absurd hk (by omega)
            | succ kz9 ihz10 =>
              intro f mn k g0 g1 g2 g3 hk
              have hl9 := zsm_01 (f := fun j => zind (0 < zV M 28 0 (4 * w.toNat + j))) (fun _ => zind_rg _) k.toNat
              refine z_iload C 536 dL_registers_536 14 rfl ?_
              refine z_iconst C 538 dL_registers_538 ?_
              refine z_icmp_ge C 539 616 dL_registers_539 (by decide) (by first | assumption | omega) (by decide) (fun c539_65 => ?_) (fun c539_65 => ?_)
              · have hk4 : k = 4 := by omega
                subst hk4
                have hat := g1
                have hmm : mn = zV M 5 w.toNat 3 := by rw [g2]; exact i_cnt4 hA (by omega)
                refine z_iload_n C 616 dL_registers_616 rfl 2 rfl ?_
                refine z_bipush C 617 dL_registers_617 (by decide +kernel) ?_
                refine z_icmp_ge C 619 829 dL_registers_619 (by decide) (by first | assumption | omega) (by decide) (fun c619_73 => ?_) (fun c619_73 => ?_)
                · refine z_iload_n C 829 dL_registers_829 rfl 2 rfl ?_
                  refine z_bipush C 830 dL_registers_830 (by decide +kernel) ?_
                  refine z_icmp_ne C 832 1033 dL_registers_832 (by decide) (by first | assumption | omega) (by decide) (fun c832_77 => ?_) (fun c832_77 => ?_)
                  · refine z_aload_n C 1033 dL_registers_1033 rfl 1 rfl ?_
                    refine z_iload C 1034 dL_registers_1034 11 rfl ?_
                    refine z_bipush C 1036 dL_registers_1036 (by decide +kernel) ?_
                    refine zs_call C 1038 (n := 3) (As := [.ref (zad G 0 0), .int (zI w), .int (zI 32)]) (rest := []) (v_removeLocator l hfl G M hw w 32 (by first | assumption | decide | omega) (by first | assumption | decide | omega)) wm_L_114 wcw_L_removeLocator wini_L wst_L_removeLocator ⟨by decide, by decide, by decide⟩ ⟨by decide, by decide⟩ rfl (Nat.le_of_ble_eq_true rfl) ⟨by decide, by decide⟩ dL_registers_1038 rfl (fun zq11 Mz12 hzq11 hPz11 => ?_)
                    refine zZ_cs (k := 4) (n := 24) (by decide) (by decide) ?_
                    obtain ⟨ezzq11, emzq11⟩ := hPz11.2.1 (show 0 ≤ w ∧ w < zmn M from ⟨by omega, by show w < zV M 1 0 1; omega⟩) (fun q => by omega)
                    subst ezzq11
                    have emzq11 := emzq11.symm
                    subst emzq11
                    refine z_bipush C 1041 dL_registers_1041 (by decide +kernel) ?_
                    refine z_icmp_eq C 1043 1048 dL_registers_1043 (by decide) (by decide) (by decide) (fun c1043_89 => ?_) (fun c1043_89 => ?_)
                    rotate_left
                    · exact absurd c1043_89 (by decide)
                    refine z_aload C 1048 dL_registers_1048 6 rfl ?_
                    refine z_iload C 1050 dL_registers_1050 11 rfl ?_
                    refine z_ialdj C 1052 (show 0 < 1 by omega) (zc27 ..) w.toNat rfl (by first | assumption | omega) (by omega) (show w < ((16 : Nat) : Int) by omega) dL_registers_1052 (fun zq13 ezq13 hzq13 => ?_)
                    refine z_if_eq C 1053 1061 dL_registers_1053 (by decide) hzq13 (fun c1053_95 => ?_) (fun c1053_95 => ?_)
                    · have hX : ¬ (zV M 3 w.toNat 3 = 0 ∧ zloc M w.toNat zq6) := fun q => hmw.2.2.2.1.mp (by omega) q.1
                      refine z_aload_n C 1061 dL_registers_1061 rfl 1 rfl ?_
                      refine z_iload C 1062 dL_registers_1062 11 rfl ?_
                      refine z_iload C 1064 dL_registers_1064 0 rfl ?_
                      refine zs_call C 1066 (n := 3) (As := [.ref (zad G 0 0), .int (zI w), .int (zI zq6)]) (rest := []) (v_removeLocator l hfl G M hw w zq6 (by first | assumption | decide | omega) (by first | assumption | decide | omega)) wm_L_114 wcw_L_removeLocator wini_L wst_L_removeLocator ⟨by decide, by decide, by decide⟩ ⟨by decide, by decide⟩ rfl (Nat.le_of_ble_eq_true rfl) ⟨by decide, by decide⟩ dL_registers_1066 rfl (fun zq14 Mz15 hzq14 hPz14 => ?_)
                      refine zZ_cs (k := 8) (n := 48) (by decide) (by decide) ?_
                      obtain ⟨ezzq14, emzq14⟩ := hPz14.2.2.1 (show 0 ≤ w ∧ w < zmn M from ⟨by omega, by show w < zV M 1 0 1; omega⟩) (by omega) hX
                      subst ezzq14
                      have emzq14 := emzq14.symm
                      subst emzq14
                      refine z_bipush C 1069 dL_registers_1069 (by decide +kernel) ?_
                      refine z_icmp_ne C 1071 1078 dL_registers_1071 (by decide) (by decide) (by decide) (fun c1071_108 => ?_) (fun c1071_108 => ?_)
                      · exact absurd c1071_108 (by decide)
                      refine z_iconst C 1074 dL_registers_1074 ?_
                      refine z_goto C 1075 1079 dL_registers_1075 (by decide) ?_
                      refine z_zret C 1079 dL_registers_1079 (by decide) (by decide) (by decide) ?_
                      exact ⟨rfl, iN_up h (by omega)⟩
                    refine z_iload C 1056 dL_registers_1056 12 rfl ?_
                    refine z_if_ge C 1058 1080 dL_registers_1058 (by decide) (by first | assumption | omega) (fun c1058_114 => ?_) (fun c1058_114 => ?_)
                    · have hg0 : zV M 3 w.toNat 3 = 0 := hmw.2.2.1.mp (by have := hmw.2.2.2.2; omega)
                      obtain ⟨hly, j9, hj1, hj2, hj3, hj4⟩ := jatk_y hA (by omega) hat (by omega)
                      refine z_iload C 1080 dL_registers_1080 12 rfl ?_
                      refine z_istore (lv' := [(14, .int (zI f)), (11, .int (zI zq6)), (0, .ref (zad G 0 0)), (1, .int (zI act)), (2, .int (zI y)), (3, .int (zI z)), (4, .ref (zad G 26 0)), (5, .ref (zad G 27 0)), (6, .ref (zad G 28 0)), (7, .ref (zad G 30 0)), (8, .ref (zad G 32 0)), (9, .ref (zad G 36 0)), (10, .int (zI w)), (12, .int (zI f)), (13, .int (zI mn))]) C 1082 dL_registers_1082 (by decide) rfl ?_
                      have L1084_16 : ∀ (kz16 : Nat) (Mr : zMem) (k : Int), (f ≤ k ∧ k ≤ 4 * w + 4) → (jrm M Mr w.toNat ((4 * w.toNat + j9 : Nat) : Int) k) → (4 * w + 4 - k) < (kz16 : Int) → zZ p l e (zR 11 40 240) s m ([.ref (zad G 0 0), .int (zI act), .int (zI y), .int (zI z), .ref (zad G 26 0), .ref (zad G 27 0), .ref (zad G 28 0), .ref (zad G 30 0), .ref (zad G 32 0), .ref (zad G 36 0)] : List Value).toArray below meth c G 17 (MQ below (zQi G (fun x M' => x = 1 ∧ iN (n + 1) M' M')) ([.ref (zad G 0 0), .int (zI act), .int (zI y), .int (zI z), .ref (zad G 26 0), .ref (zad G 27 0), .ref (zad G 28 0), .ref (zad G 30 0), .ref (zad G 32 0), .ref (zad G 36 0)] : List Value).toArray s 40 240 (zA G)) Mr 4 24 1084 [(11, .int (zI zq6)), (0, .ref (zad G 0 0)), (1, .int (zI act)), (2, .int (zI y)), (3, .int (zI z)), (4, .ref (zad G 26 0)), (5, .ref (zad G 27 0)), (6, .ref (zad G 28 0)), (7, .ref (zad G 30 0)), (8, .ref (zad G 32 0)), (9, .ref (zad G 36 0)), (10, .int (zI w)), (12, .int (zI f)), (13, .int (zI mn)), (14, .int (zI k))] [] := by
                        intro kz16
                        induction kz16 with
                        | zero =>
                          intro Mr k f0 f1 hk
                          exact absurd hk (by omega)
                        | succ kz16 ihz17 =>
                          intro Mr k f0 f1 hk
                          refine z_iload C 1084 dL_registers_1084 14 rfl ?_
                          refine z_iconst C 1086 dL_registers_1086 ?_
                          refine z_iload C 1087 dL_registers_1087 11 rfl ?_
                          refine z_imul C 1089 dL_registers_1089 ?_
                          refine z_iconst C 1090 dL_registers_1090 ?_
                          refine z_iadd C 1091 dL_registers_1091 ?_
                          refine z_icmp_ge C 1092 1128 dL_registers_1092 (by decide) (by first | assumption | omega) (by first | assumption | omega) (fun c1092_134 => ?_) (fun c1092_134 => ?_)
                          · have f2 := f1
                            rw [show k = 4 * ((w.toNat : Nat) : Int) + 4 by omega] at f2
                            refine z_aload C 1128 dL_registers_1128 6 rfl ?_
                            refine z_iload C 1130 dL_registers_1130 11 rfl ?_
                            refine z_dup2 C 1132 dL_registers_1132 rfl rfl ?_
                            refine z_ialdj C 1133 (show 0 < 1 by omega) (zc27 ..) w.toNat rfl (by first | assumption | omega) (by omega) (show w < ((16 : Nat) : Int) by omega) dL_registers_1133 (fun zq18 ezq18 hzq18 => ?_)
                            refine z_iconst C 1134 dL_registers_1134 ?_
                            refine z_iadd C 1135 dL_registers_1135 ?_
                            refine z_iastj C 1136 (show 0 < 1 by omega) (zc27 ..) w.toNat rfl (by first | assumption | omega) (by omega) (show w < ((16 : Nat) : Int) by omega) (zc27 ..) dL_registers_1136 ?_
                            generalize hD1 : zup Mr 27 0 w.toNat (zI (zq18 + 1)) = D1
                            have r0 : i_rf M Mr := fun κ i j q => f2.2 κ i j (by omega)
                            have r1 : i_rf M D1 := by rw [← hD1]; exact r0.u (by decide)
                            have fMr : ∀ κ j : Nat, κ ≠ 28 → zV Mr κ 0 j = zV M κ 0 j := fun κ j q => zV_of (f2.2 κ 0 j (by omega))
                            have hWd : iW n D1 := iW_c hW (Nat.le_refl n) (fun κ j q => by rw [← hD1, zV_ne (by omega)]; exact fMr κ j (by omega))
                            have hd6 : zV D1 36 0 6 = zV M 36 0 6 := by rw [← hD1, zV_ne (by decide)]; exact fMr _ _ (by decide)
                            have hd3 : zV D1 36 0 3 = zV M 36 0 3 := by rw [← hD1, zV_ne (by decide)]; exact fMr _ _ (by decide)
                            have hm26 : zV D1 26 0 w.toNat = zV M 26 0 w.toNat := by rw [← hD1, zV_ne (by decide)]; exact fMr _ _ (by decide)
                            have hmx : zV M 26 0 w.toNat = 32 * zV M 4 w.toNat 0 + zV M 4 w.toNat 1 := hmw.2.1
                            have htr : zq18 = zV M 27 0 w.toNat := by rw [ezq18]; exact fMr _ _ (by decide)
                            have hD1e := hD1.symm
                            refine z_aload C 1137 dL_registers_1137 8 rfl ?_
                            refine z_aload C 1139 dL_registers_1139 9 rfl ?_
                            refine z_aload C 1141 dL_registers_1141 10 rfl ?_
                            refine z_aload C 1143 dL_registers_1143 5 rfl ?_
                            refine z_iload C 1145 dL_registers_1145 11 rfl ?_
                            refine z_ialdj C 1147 (show 0 < 1 by omega) (zc26 ..) w.toNat rfl (by first | assumption | omega) (by omega) (show w < ((16 : Nat) : Int) by omega) dL_registers_1147 (fun zq19 ezq19 hzq19 => ?_)
                            refine z_callSv C 1148 (As := [.ref (zad G 30 0), .ref (zad G 32 0), .ref (zad G 36 0), .int (zI zq19)]) (rest := []) (c_L_solicit l G D1 hWd (zV M 4 w.toNat 0) (zV M 4 w.toNat 1) zq19 (by omega) hmw.1.1 (by omega)) (zS_of 4 C wm_L_102 wc_L_solicit wini_L wst_L_solicit ⟨by decide, by decide, by decide⟩ ⟨by decide, by decide⟩) rfl (Nat.le_of_ble_eq_true rfl) ⟨by decide, by decide⟩ dL_registers_1148 rfl (fun Mz21 hPz20 => ?_)
                            have hsk := hPz20
                            have r2 := r1.t (i_rf.jsk hsk)
                            have hw2 := i_WC hw r2
                            refine z_aload_n C 1151 dL_registers_1151 rfl 1 rfl ?_
                            refine z_iload C 1152 dL_registers_1152 11 rfl ?_
                            refine z_iload C 1154 dL_registers_1154 0 rfl ?_
                            refine zs_call C 1156 (n := 3) (As := [.ref (zad G 0 0), .int (zI w), .int (zI zq6)]) (rest := []) (v_removeLocator l hfl G Mz21 hw2 w zq6 (by first | assumption | decide | omega) (by first | assumption | decide | omega)) wm_L_114 wcw_L_removeLocator wini_L wst_L_removeLocator ⟨by decide, by decide, by decide⟩ ⟨by decide, by decide⟩ rfl (Nat.le_of_ble_eq_true rfl) ⟨by decide, by decide⟩ dL_registers_1156 rfl (fun zq22 Mz23 hzq22 hPz22 => ?_)
                            refine zZ_cs (k := 8) (n := 48) (by decide) (by decide) ?_
                            have hs9 := hPz22.2.2.2 ⟨by omega, by show w < zV Mz21 1 0 1; rw [r2.v (by decide)]; omega⟩ (by omega) ⟨by rw [r2.v (by decide)]; exact hg0, (i_loc r2).mpr hly⟩
                            obtain ⟨hs1, pl9, C19, hs2, hs3, hs5, hs6, hs4⟩ := hs9
                            have hN9 := i_rem h (by omega) (m := w.toNat) (k := j9) (by omega) hg0 hj2 hj3 htr f2 hD1e hsk hs2 hs3 hs5 hs6 hs4
                            have hv9 := iA_ver hA (m := w.toNat) (by omega) hg0
                            have hx9 : zq22 = zV M 3 w.toNat 2 + 1 := by rw [hs1, r2.v (by decide)]; exact zw_eq (by omega)
                            have fC : ∀ κ i j : Nat, κ ≤ 4 → zV C19 κ i j = zV M κ i j := fun κ i j q => (zV_of (hs6.2.2.2.2 κ i j (by omega))).trans (r2.v (by omega))
                            have ht9 : zV Mz23 27 0 w.toNat = zV M 3 w.toNat 2 + 1 := by
                              have hz9 := iA_ver hN9.1 (m := w.toNat) (by rw [zV_of (hs4.2.2.2 1 0 1 (by omega) (by omega))]; unfold zver; rw [zV_ne (by decide), fC _ _ _ (by decide)]; omega) (by rw [zV_of (hs4.2.2.2 3 _ 3 (by omega) (by omega))]; unfold zver; rw [zV_nj (by decide), fC _ _ _ (by decide)]; exact hg0)
                              rw [hz9.1, zV_of (hs4.2.2.2 3 _ 2 (by omega) (by omega))]
                              unfold zver
                              rw [zV_eq (by rw [fC _ _ _ (by decide)]; omega), fC _ _ _ (by decide)]
                            refine z_aload C 1159 dL_registers_1159 6 rfl ?_
                            refine z_iload C 1161 dL_registers_1161 11 rfl ?_
                            refine z_ialdj C 1163 (show 0 < 1 by omega) (zc27 ..) w.toNat rfl (by first | assumption | omega) (by omega) (show w < ((16 : Nat) : Int) by omega) dL_registers_1163 (fun zq24 ezq24 hzq24 => ?_)
                            refine z_icmp_ne C 1164 1171 dL_registers_1164 (by decide) hzq22 hzq24 (fun c1164_185 => ?_) (fun c1164_185 => ?_)
                            · exact absurd (by omega) c1164_185
                            refine z_iconst C 1167 dL_registers_1167 ?_
                            refine z_goto C 1168 1172 dL_registers_1168 (by decide) ?_
                            refine z_zret C 1172 dL_registers_1172 (by decide) (by decide) (by decide) ?_
                            exact ⟨rfl, hN9⟩
                          refine z_aload C 1095 dL_registers_1095 7 rfl ?_
                          refine z_iload C 1097 dL_registers_1097 14 rfl ?_
                          refine z_iload C 1099 dL_registers_1099 14 rfl ?_
                          refine z_iconst C 1101 dL_registers_1101 ?_
                          refine z_iload C 1102 dL_registers_1102 11 rfl ?_
                          refine z_imul C 1104 dL_registers_1104 ?_
                          refine z_iconst C 1105 dL_registers_1105 ?_
                          refine z_iadd C 1106 dL_registers_1106 ?_
                          refine z_icmp_ge C 1107 1120 dL_registers_1107 (by decide) (by first | assumption | omega) (by first | assumption | omega) (fun c1107_198 => ?_) (fun c1107_198 => ?_)
                          · refine z_iconst C 1120 dL_registers_1120 ?_
                            refine z_iastj C 1121 (show 0 < 1 by omega) (zc28 ..) k.toNat rfl (by first | assumption | omega) (by omega) (show k < ((64 : Nat) : Int) by omega) (zc28 ..) dL_registers_1121 ?_
                            refine z_iinc (lv' := [(14, .int (zI (k + 1))), (11, .int (zI zq6)), (0, .ref (zad G 0 0)), (1, .int (zI act)), (2, .int (zI y)), (3, .int (zI z)), (4, .ref (zad G 26 0)), (5, .ref (zad G 27 0)), (6, .ref (zad G 28 0)), (7, .ref (zad G 30 0)), (8, .ref (zad G 32 0)), (9, .ref (zad G 36 0)), (10, .int (zI w)), (12, .int (zI f)), (13, .int (zI mn))]) C 1122 dL_registers_1122 14 rfl (by decide) rfl ?_
                            refine z_goto C 1125 1084 dL_registers_1125 (by decide) ?_
                            refine z_sub (lv' := [(11, .int (zI zq6)), (0, .ref (zad G 0 0)), (1, .int (zI act)), (2, .int (zI y)), (3, .int (zI z)), (4, .ref (zad G 26 0)), (5, .ref (zad G 27 0)), (6, .ref (zad G 28 0)), (7, .ref (zad G 30 0)), (8, .ref (zad G 32 0)), (9, .ref (zad G 36 0)), (10, .int (zI w)), (12, .int (zI f)), (13, .int (zI mn)), (14, .int (zI (k + 1)))]) [1, 2, 3, 4, 5, 6, 7, 8, 9, 10, 11, 12, 13, 14, 0] rfl ?_
                            exact ihz17 (zup Mr 28 0 k.toNat (zI 0)) (k + 1) (by omega) (by exact jrm_1 (by omega) (by omega) f1 (by first | (rw [if_pos (by omega)]; assumption) | rw [if_neg (by omega)]) (by first | decide | assumption)) (by omega)
                          refine z_aload C 1110 dL_registers_1110 7 rfl ?_
                          refine z_iload C 1112 dL_registers_1112 14 rfl ?_
                          refine z_iconst C 1114 dL_registers_1114 ?_
                          refine z_iadd C 1115 dL_registers_1115 ?_
                          refine z_ialdj C 1116 (show 0 < 1 by omega) (zc28 ..) (k.toNat + 1) (by omega) (by first | assumption | omega) (by omega) (show (k + 1) < ((64 : Nat) : Int) by omega) dL_registers_1116 (fun zq25 ezq25 hzq25 => ?_)
                          refine z_goto C 1117 1121 dL_registers_1117 (by decide) ?_
                          refine z_iastj C 1121 (show 0 < 1 by omega) (zc28 ..) k.toNat rfl (by first | assumption | omega) (by omega) (show k < ((64 : Nat) : Int) by omega) (zc28 ..) dL_registers_1121 ?_
                          refine z_iinc (lv' := [(14, .int (zI (k + 1))), (11, .int (zI zq6)), (0, .ref (zad G 0 0)), (1, .int (zI act)), (2, .int (zI y)), (3, .int (zI z)), (4, .ref (zad G 26 0)), (5, .ref (zad G 27 0)), (6, .ref (zad G 28 0)), (7, .ref (zad G 30 0)), (8, .ref (zad G 32 0)), (9, .ref (zad G 36 0)), (10, .int (zI w)), (12, .int (zI f)), (13, .int (zI mn))]) C 1122 dL_registers_1122 14 rfl (by decide) rfl ?_
                          refine z_goto C 1125 1084 dL_registers_1125 (by decide) ?_
                          refine z_sub (lv' := [(11, .int (zI zq6)), (0, .ref (zad G 0 0)), (1, .int (zI act)), (2, .int (zI y)), (3, .int (zI z)), (4, .ref (zad G 26 0)), (5, .ref (zad G 27 0)), (6, .ref (zad G 28 0)), (7, .ref (zad G 30 0)), (8, .ref (zad G 32 0)), (9, .ref (zad G 36 0)), (10, .int (zI w)), (12, .int (zI f)), (13, .int (zI mn)), (14, .int (zI (k + 1)))]) [1, 2, 3, 4, 5, 6, 7, 8, 9, 10, 11, 12, 13, 14, 0] rfl ?_
                          exact ihz17 (zup Mr 28 0 k.toNat (zI zq25)) (k + 1) (by omega) (by exact jrm_1 (by omega) (by omega) f1 (by first | (rw [if_pos (by omega)]; assumption) | rw [if_neg (by omega)]) (by first | decide | assumption)) (by omega)
                      refine z_sub (lv' := [(11, .int (zI zq6)), (0, .ref (zad G 0 0)), (1, .int (zI act)), (2, .int (zI y)), (3, .int (zI z)), (4, .ref (zad G 26 0)), (5, .ref (zad G 27 0)), (6, .ref (zad G 28 0)), (7, .ref (zad G 30 0)), (8, .ref (zad G 32 0)), (9, .ref (zad G 36 0)), (10, .int (zI w)), (12, .int (zI f)), (13, .int (zI mn)), (14, .int (zI f))]) [1, 2, 3, 4, 5, 6, 7, 8, 9, 10, 11, 12, 13, 14, 0] rfl ?_
                      exact L1084_16 (((4 * w + 4 - f : Int)).toNat + 1) M f (by omega) (by rw [show ((4 * w.toNat + j9 : Nat) : Int) = f by omega]; exact jrm_0 _ _ _) (by omega)
                    have hX : ¬ (zV M 3 w.toNat 3 = 0 ∧ zloc M w.toNat zq6) := fun q => jatk_n hA (by omega) hat (by omega) q.2
                    refine z_aload_n C 1061 dL_registers_1061 rfl 1 rfl ?_
                    refine z_iload C 1062 dL_registers_1062 11 rfl ?_
                    refine z_iload C 1064 dL_registers_1064 0 rfl ?_
                    refine zs_call C 1066 (n := 3) (As := [.ref (zad G 0 0), .int (zI w), .int (zI zq6)]) (rest := []) (v_removeLocator l hfl G M hw w zq6 (by first | assumption | decide | omega) (by first | assumption | decide | omega)) wm_L_114 wcw_L_removeLocator wini_L wst_L_removeLocator ⟨by decide, by decide, by decide⟩ ⟨by decide, by decide⟩ rfl (Nat.le_of_ble_eq_true rfl) ⟨by decide, by decide⟩ dL_registers_1066 rfl (fun zq26 Mz27 hzq26 hPz26 => ?_)
                    refine zZ_cs (k := 8) (n := 48) (by decide) (by decide) ?_
                    obtain ⟨ezzq26, emzq26⟩ := hPz26.2.2.1 (show 0 ≤ w ∧ w < zmn M from ⟨by omega, by show w < zV M 1 0 1; omega⟩) (by omega) hX
                    subst ezzq26
                    have emzq26 := emzq26.symm
                    subst emzq26
                    refine z_bipush C 1069 dL_registers_1069 (by decide +kernel) ?_
                    refine z_icmp_ne C 1071 1078 dL_registers_1071 (by decide) (by decide) (by decide) (fun c1071_228 => ?_) (fun c1071_228 => ?_)
                    · exact absurd c1071_228 (by decide)
                    refine z_iconst C 1074 dL_registers_1074 ?_
                    refine z_goto C 1075 1079 dL_registers_1075 (by decide) ?_
                    refine z_zret C 1079 dL_registers_1079 (by decide) (by decide) (by decide) ?_
                    exact ⟨rfl, iN_up h (by omega)⟩
                  refine z_iload_n C 835 dL_registers_835 rfl 4 rfl ?_
                  refine z_bipush C 836 dL_registers_836 (by decide +kernel) ?_
                  refine z_ishr_any C 838 dL_registers_838 (fun zv28 hzv28 => ?_)
                  refine z_bipush C 839 dL_registers_839 (by decide +kernel) ?_
                  refine z_callSi C 841 (As := [.int (zI zv28), .int (zI 6)]) (rest := []) (c_L_low l G M zv28 6 (by omega)) (zS_of 2 C wm_L_85 wc_L_low wini_L wst_L_low ⟨by decide, by decide, by decide⟩ ⟨by decide, by decide⟩) rfl (Nat.le_of_ble_eq_true rfl) ⟨by decide, by decide⟩ dL_registers_841 rfl (fun zq29 Mz30 hzq29 hPz29 => ?_)
                  obtain ⟨rfl, hPz29⟩ := hPz29
                  refine z_istore (lv' := [(14, .int (zI zq29)), (11, .int (zI zq6)), (0, .ref (zad G 0 0)), (1, .int (zI act)), (2, .int (zI y)), (3, .int (zI z)), (4, .ref (zad G 26 0)), (5, .ref (zad G 27 0)), (6, .ref (zad G 28 0)), (7, .ref (zad G 30 0)), (8, .ref (zad G 32 0)), (9, .ref (zad G 36 0)), (10, .int (zI w)), (12, .int (zI f)), (13, .int (zI mn))]) C 844 dL_registers_844 (by decide) rfl ?_
                  refine z_iconst C 846 dL_registers_846 ?_
                  refine z_istore (lv' := [(15, .int (zI 0)), (14, .int (zI zq29)), (11, .int (zI zq6)), (0, .ref (zad G 0 0)), (1, .int (zI act)), (2, .int (zI y)), (3, .int (zI z)), (4, .ref (zad G 26 0)), (5, .ref (zad G 27 0)), (6, .ref (zad G 28 0)), (7, .ref (zad G 30 0)), (8, .ref (zad G 32 0)), (9, .ref (zad G 36 0)), (10, .int (zI w)), (12, .int (zI f)), (13, .int (zI mn))]) C 847 dL_registers_847 (by decide) rfl ?_
                  refine z_iconst C 849 dL_registers_849 ?_
                  refine z_istore (lv' := [(16, .int (zI 0)), (15, .int (zI 0)), (14, .int (zI zq29)), (11, .int (zI zq6)), (0, .ref (zad G 0 0)), (1, .int (zI act)), (2, .int (zI y)), (3, .int (zI z)), (4, .ref (zad G 26 0)), (5, .ref (zad G 27 0)), (6, .ref (zad G 28 0)), (7, .ref (zad G 30 0)), (8, .ref (zad G 32 0)), (9, .ref (zad G 36 0)), (10, .int (zI w)), (12, .int (zI f)), (13, .int (zI mn))]) C 850 dL_registers_850 (by decide) rfl ?_
                  have L852_31 : ∀ (kz31 : Nat) (hs : Int) (k : Int), (0 ≤ k ∧ k ≤ 4) → (zb hs (∃ i : Nat, (i : Int) < k ∧ (0 < zV M 28 0 (4 * w.toNat + i) ∧ zV M 28 0 (4 * w.toNat + i) % 32 = zq29))) → (4 - k) < (kz31 : Int) → zZ p l e (zR 11 40 240) s m ([.ref (zad G 0 0), .int (zI act), .int (zI y), .int (zI z), .ref (zad G 26 0), .ref (zad G 27 0), .ref (zad G 28 0), .ref (zad G 30 0), .ref (zad G 32 0), .ref (zad G 36 0)] : List Value).toArray below meth c G 17 (MQ below (zQi G (fun x M' => x = 1 ∧ iN (n + 1) M' M')) ([.ref (zad G 0 0), .int (zI act), .int (zI y), .int (zI z), .ref (zad G 26 0), .ref (zad G 27 0), .ref (zad G 28 0), .ref (zad G 30 0), .ref (zad G 32 0), .ref (zad G 36 0)] : List Value).toArray s 40 240 (zA G)) M 0 0 852 [(14, .int (zI zq29)), (11, .int (zI zq6)), (0, .ref (zad G 0 0)), (1, .int (zI act)), (2, .int (zI y)), (3, .int (zI z)), (4, .ref (zad G 26 0)), (5, .ref (zad G 27 0)), (6, .ref (zad G 28 0)), (7, .ref (zad G 30 0)), (8, .ref (zad G 32 0)), (9, .ref (zad G 36 0)), (10, .int (zI w)), (12, .int (zI f)), (13, .int (zI mn)), (15, .int (zI hs)), (16, .int (zI k))] [] := by
                    intro kz31
                    induction kz31 with
                    | zero =>
                      intro hs k f0 f1 hk
                      exact absurd hk (by omega)
                    | succ kz31 ihz32 =>
                      intro hs k f0 f1 hk
                      have hth := f1.1
                      refine z_iload C 852 dL_registers_852 16 rfl ?_
                      refine z_iconst C 854 dL_registers_854 ?_
                      refine z_icmp_ge C 855 905 dL_registers_855 (by decide) (by first | assumption | omega) (by decide) (fun c855_255 => ?_) (fun c855_255 => ?_)
                      · have hth := f1.1
                        have hk4 : k = 4 := by omega
                        subst hk4
                        refine z_aload_n C 905 dL_registers_905 rfl 2 rfl ?_
                        refine z_iload C 906 dL_registers_906 12 rfl ?_
                        refine z_bipush C 908 dL_registers_908 (by decide +kernel) ?_
                        refine z_iconst C 910 dL_registers_910 ?_
                        refine zs_call C 911 (n := 4) (As := [.ref (zad G 0 0), .int (zI w), .int (zI 32), .int (zI 0)]) (rest := []) (v_move l hfl G M hw w 32 0 (by first | assumption | decide | omega) (by first | assumption | decide | omega) (by first | assumption | decide | omega)) wm_L_111 wcw_L_move wini_L wst_L_move ⟨by decide, by decide, by decide⟩ ⟨by decide, by decide⟩ rfl (Nat.le_of_ble_eq_true rfl) ⟨by decide, by decide⟩ dL_registers_911 rfl (fun zq33 Mz34 hzq33 hPz33 => ?_)
                        refine zZ_cs (k := 6) (n := 36) (by decide) (by decide) ?_
                        obtain ⟨ezzq33, emzq33⟩ := hPz33.2.1 (show 0 ≤ w ∧ w < zmn M from ⟨by omega, by show w < zV M 1 0 1; omega⟩) (fun q => by omega)
                        subst ezzq33
                        have emzq33 := emzq33.symm
                        subst emzq33
                        refine z_bipush C 914 dL_registers_914 (by decide +kernel) ?_
                        refine z_icmp_ne C 916 932 dL_registers_916 (by decide) (by decide) (by decide) (fun c916_271 => ?_) (fun c916_271 => ?_)
                        · exact absurd c916_271 (by decide)
                        refine z_aload_n C 919 dL_registers_919 rfl 2 rfl ?_
                        refine z_iload C 920 dL_registers_920 12 rfl ?_
                        refine z_iconst C 922 dL_registers_922 ?_
                        refine z_iconst C 923 dL_registers_923 ?_
                        refine zs_call C 924 (n := 4) (As := [.ref (zad G 0 0), .int (zI w), .int (zI 0), .int (zI (-1))]) (rest := []) (v_move l hfl G M hw w 0 (-1) (by first | assumption | decide | omega) (by first | assumption | decide | omega) (by first | assumption | decide | omega)) wm_L_111 wcw_L_move wini_L wst_L_move ⟨by decide, by decide, by decide⟩ ⟨by decide, by decide⟩ rfl (Nat.le_of_ble_eq_true rfl) ⟨by decide, by decide⟩ dL_registers_924 rfl (fun zq35 Mz36 hzq35 hPz35 => ?_)
                        refine zZ_cs (k := 12) (n := 72) (by decide) (by decide) ?_
                        obtain ⟨ezzq35, emzq35⟩ := hPz35.2.1 (show 0 ≤ w ∧ w < zmn M from ⟨by omega, by show w < zV M 1 0 1; omega⟩) (fun q => by omega)
                        subst ezzq35
                        have emzq35 := emzq35.symm
                        subst emzq35
                        refine z_bipush C 927 dL_registers_927 (by decide +kernel) ?_
                        refine z_icmp_eq C 929 934 dL_registers_929 (by decide) (by decide) (by decide) (fun c929_284 => ?_) (fun c929_284 => ?_)
                        rotate_left
                        · exact absurd c929_284 (by decide)
                        refine z_aload C 934 dL_registers_934 7 rfl ?_
                        refine z_iload C 936 dL_registers_936 12 rfl ?_
                        refine z_ialdj C 938 (show 0 < 1 by omega) (zc27 ..) w.toNat rfl (by first | assumption | omega) (by omega) (show w < ((16 : Nat) : Int) by omega) dL_registers_938 (fun zq37 ezq37 hzq37 => ?_)
                        refine z_if_eq C 939 952 dL_registers_939 (by decide) hzq37 (fun c939_290 => ?_) (fun c939_290 => ?_)
                        · have hX : ¬ (zV M 3 w.toNat 3 = 0 ∧ zloc M w.toNat zq6 ∧ ¬ zloc M w.toNat zq29) := fun q => hmw.2.2.2.1.mp (by omega) q.1
                          refine z_aload_n C 952 dL_registers_952 rfl 2 rfl ?_
                          refine z_iload C 953 dL_registers_953 12 rfl ?_
                          refine z_iload C 955 dL_registers_955 1 rfl ?_
                          refine z_iload C 957 dL_registers_957 0 rfl ?_
                          refine zs_call C 959 (n := 4) (As := [.ref (zad G 0 0), .int (zI w), .int (zI zq6), .int (zI zq29)]) (rest := []) (v_move l hfl G M hw w zq6 zq29 (by first | assumption | decide | omega) (by first | assumption | decide | omega) (by first | assumption | decide | omega)) wm_L_111 wcw_L_move wini_L wst_L_move ⟨by decide, by decide, by decide⟩ ⟨by decide, by decide⟩ rfl (Nat.le_of_ble_eq_true rfl) ⟨by decide, by decide⟩ dL_registers_959 rfl (fun zq38 Mz39 hzq38 hPz38 => ?_)
                          refine zZ_cs (k := 18) (n := 108) (by decide) (by decide) ?_
                          obtain ⟨ezzq38, emzq38⟩ := hPz38.2.2.1 (show 0 ≤ w ∧ w < zmn M from ⟨by omega, by show w < zV M 1 0 1; omega⟩) (by omega) hX
                          subst ezzq38
                          have emzq38 := emzq38.symm
                          subst emzq38
                          refine z_bipush C 962 dL_registers_962 (by decide +kernel) ?_
                          refine z_icmp_ne C 964 971 dL_registers_964 (by decide) (by decide) (by decide) (fun c964_304 => ?_) (fun c964_304 => ?_)
                          · exact absurd c964_304 (by decide)
                          refine z_iconst C 967 dL_registers_967 ?_
                          refine z_goto C 968 972 dL_registers_968 (by decide) ?_
                          refine z_zret C 972 dL_registers_972 (by decide) (by decide) (by decide) ?_
                          exact ⟨rfl, iN_up h (by omega)⟩
                        refine z_iload C 942 dL_registers_942 13 rfl ?_
                        refine z_if_lt C 944 952 dL_registers_944 (by decide) (by first | assumption | omega) (fun c944_310 => ?_) (fun c944_310 => ?_)
                        · have hX : ¬ (zV M 3 w.toNat 3 = 0 ∧ zloc M w.toNat zq6 ∧ ¬ zloc M w.toNat zq29) := fun q => jatk_n hA (by omega) hat (by omega) q.2.1
                          refine z_aload_n C 952 dL_registers_952 rfl 2 rfl ?_
                          refine z_iload C 953 dL_registers_953 12 rfl ?_
                          refine z_iload C 955 dL_registers_955 1 rfl ?_
                          refine z_iload C 957 dL_registers_957 0 rfl ?_
                          refine zs_call C 959 (n := 4) (As := [.ref (zad G 0 0), .int (zI w), .int (zI zq6), .int (zI zq29)]) (rest := []) (v_move l hfl G M hw w zq6 zq29 (by first | assumption | decide | omega) (by first | assumption | decide | omega) (by first | assumption | decide | omega)) wm_L_111 wcw_L_move wini_L wst_L_move ⟨by decide, by decide, by decide⟩ ⟨by decide, by decide⟩ rfl (Nat.le_of_ble_eq_true rfl) ⟨by decide, by decide⟩ dL_registers_959 rfl (fun zq40 Mz41 hzq40 hPz40 => ?_)
                          refine zZ_cs (k := 18) (n := 108) (by decide) (by decide) ?_
                          obtain ⟨ezzq40, emzq40⟩ := hPz40.2.2.1 (show 0 ≤ w ∧ w < zmn M from ⟨by omega, by show w < zV M 1 0 1; omega⟩) (by omega) hX
                          subst ezzq40
                          have emzq40 := emzq40.symm
                          subst emzq40
                          refine z_bipush C 962 dL_registers_962 (by decide +kernel) ?_
                          refine z_icmp_ne C 964 971 dL_registers_964 (by decide) (by decide) (by decide) (fun c964_324 => ?_) (fun c964_324 => ?_)
                          · exact absurd c964_324 (by decide)
                          refine z_iconst C 967 dL_registers_967 ?_
                          refine z_goto C 968 972 dL_registers_968 (by decide) ?_
                          refine z_zret C 972 dL_registers_972 (by decide) (by decide) (by decide) ?_
                          exact ⟨rfl, iN_up h (by omega)⟩
                        refine z_iload C 947 dL_registers_947 15 rfl ?_
                        refine z_if_eq C 949 973 dL_registers_949 (by decide) (by first | assumption | omega) (fun c949_330 => ?_) (fun c949_330 => ?_)
                        · have hg0 : zV M 3 w.toNat 3 = 0 := hmw.2.2.1.mp (by have := hmw.2.2.2.2; omega)
                          obtain ⟨hly, j9, hj1, hj2, hj3, hj4⟩ := jatk_y hA (by omega) hat (by omega)
                          have hlc : ¬ zloc M w.toNat zq29 := by
                            rintro ⟨i9, hi1, hi2⟩
                            have hi3 := iA_at hA (m := w.toNat) (j := i9) (by omega) (by omega)
                            exact (f1.f (by omega)) ⟨i9, by omega, hi3.1.mpr hi1, (hi3.2.1 hi1).trans hi2⟩
                          have hlj := (iA_at hA (m := w.toNat) (j := j9) (by omega) (by omega)).2.2
                          refine z_aload C 973 dL_registers_973 8 rfl ?_
                          refine z_iload C 975 dL_registers_975 13 rfl ?_
                          refine z_dup2 C 977 dL_registers_977 rfl rfl ?_
                          refine z_ialdj C 978 (show 0 < 1 by omega) (zc28 ..) (4 * w.toNat + j9) (by omega) (by first | assumption | omega) (by omega) (show f < ((64 : Nat) : Int) by omega) dL_registers_978 (fun zq42 ezq42 hzq42 => ?_)
                          refine z_iload C 979 dL_registers_979 0 rfl ?_
                          refine z_iload C 981 dL_registers_981 1 rfl ?_
                          refine z_isub C 983 dL_registers_983 ?_
                          refine z_iadd C 984 dL_registers_984 ?_
                          refine z_iastj C 985 (show 0 < 1 by omega) (zc28 ..) (4 * w.toNat + j9) (by omega) (by first | assumption | omega) (by omega) (show f < ((64 : Nat) : Int) by omega) (zc28 ..) dL_registers_985 ?_
                          refine z_aload C 986 dL_registers_986 7 rfl ?_
                          refine z_iload C 988 dL_registers_988 12 rfl ?_
                          refine z_dup2 C 990 dL_registers_990 rfl rfl ?_
                          refine z_ialdj C 991 (show 0 < 1 by omega) (zc27 ..) w.toNat rfl (by first | assumption | omega) (by omega) (show w < ((16 : Nat) : Int) by omega) dL_registers_991 (fun zq43 ezq43 hzq43 => ?_)
                          rw [zV_ne (by decide)] at ezq43
                          refine z_iconst C 992 dL_registers_992 ?_
                          refine z_iadd C 993 dL_registers_993 ?_
                          refine z_iastj C 994 (show 0 < 1 by omega) (zc27 ..) w.toNat rfl (by first | assumption | omega) (by omega) (show w < ((16 : Nat) : Int) by omega) (zc27 ..) dL_registers_994 ?_
                          generalize hD1 : zup (zup M 28 0 (4 * w.toNat + j9) (zI (zq42 + (zq29 - zq6)))) 27 0 w.toNat (zI (zq43 + 1)) = D1
                          have r1 : i_rf M D1 := by rw [← hD1]; exact ((i_rf.r M).u (by decide)).u (by decide)
                          have hWd : iW n D1 := iW_c hW (Nat.le_refl n) (fun κ j q => by rw [← hD1]; repeat rw [zV_ne (by omega)])
                          have hd6 : zV D1 36 0 6 = zV M 36 0 6 := by rw [← hD1]; repeat rw [zV_ne (by decide)]
                          have hd3 : zV D1 36 0 3 = zV M 36 0 3 := by rw [← hD1]; repeat rw [zV_ne (by decide)]
                          have hm26 : zV D1 26 0 w.toNat = zV M 26 0 w.toNat := by rw [← hD1]; repeat rw [zV_ne (by decide)]
                          have hmx : zV M 26 0 w.toNat = 32 * zV M 4 w.toNat 0 + zV M 4 w.toNat 1 := hmw.2.1
                          have hD1e := hD1.symm
                          have hx28 : zq42 + (zq29 - zq6) = zV M 28 0 (4 * w.toNat + j9) + (zq29 - zq6) := by rw [ezq42]
                          refine z_aload C 995 dL_registers_995 9 rfl ?_
                          refine z_aload C 997 dL_registers_997 10 rfl ?_
                          refine z_aload C 999 dL_registers_999 11 rfl ?_
                          refine z_aload C 1001 dL_registers_1001 6 rfl ?_
                          refine z_iload C 1003 dL_registers_1003 12 rfl ?_
                          refine z_ialdj C 1005 (show 0 < 1 by omega) (zc26 ..) w.toNat rfl (by first | assumption | omega) (by omega) (show w < ((16 : Nat) : Int) by omega) dL_registers_1005 (fun zq44 ezq44 hzq44 => ?_)
                          refine z_callSv C 1006 (As := [.ref (zad G 30 0), .ref (zad G 32 0), .ref (zad G 36 0), .int (zI zq44)]) (rest := []) (c_L_solicit l G D1 hWd (zV M 4 w.toNat 0) (zV M 4 w.toNat 1) zq44 (by omega) hmw.1.1 (by omega)) (zS_of 4 C wm_L_102 wc_L_solicit wini_L wst_L_solicit ⟨by decide, by decide, by decide⟩ ⟨by decide, by decide⟩) rfl (Nat.le_of_ble_eq_true rfl) ⟨by decide, by decide⟩ dL_registers_1006 rfl (fun Mz46 hPz45 => ?_)
                          have hsk := hPz45
                          have r2 := r1.t (i_rf.jsk hsk)
                          have hw2 := i_WC hw r2
                          refine z_aload_n C 1009 dL_registers_1009 rfl 2 rfl ?_
                          refine z_iload C 1010 dL_registers_1010 12 rfl ?_
                          refine z_iload C 1012 dL_registers_1012 1 rfl ?_
                          refine z_iload C 1014 dL_registers_1014 0 rfl ?_
                          refine zs_call C 1016 (n := 4) (As := [.ref (zad G 0 0), .int (zI w), .int (zI zq6), .int (zI zq29)]) (rest := []) (v_move l hfl G Mz46 hw2 w zq6 zq29 (by first | assumption | decide | omega) (by first | assumption | decide | omega) (by first | assumption | decide | omega)) wm_L_111 wcw_L_move wini_L wst_L_move ⟨by decide, by decide, by decide⟩ ⟨by decide, by decide⟩ rfl (Nat.le_of_ble_eq_true rfl) ⟨by decide, by decide⟩ dL_registers_1016 rfl (fun zq47 Mz48 hzq47 hPz47 => ?_)
                          refine zZ_cs (k := 18) (n := 108) (by decide) (by decide) ?_
                          have hs9 := hPz47.2.2.2 ⟨by omega, by show w < zV Mz46 1 0 1; rw [r2.v (by decide)]; omega⟩ (by omega) ⟨by rw [r2.v (by decide)]; exact hg0, (i_loc r2).mpr hly, fun q => hlc ((i_loc r2).mp q)⟩
                          obtain ⟨hs1, pl9, hs2, hs3, hs4⟩ := hs9
                          have hN9 := i_mov h (by omega) (m := w.toNat) (k := j9) (by omega) hg0 hj2 hj3 (by omega) hlc hx28 ezq43 hD1e hsk hs2 hs3 hs4
                          have hv9 := iA_ver hA (m := w.toNat) (by omega) hg0
                          have hx9 : zq47 = zV M 3 w.toNat 2 + 1 := by rw [hs1, r2.v (by decide)]; exact zw_eq (by omega)
                          have ht9 : zV Mz48 27 0 w.toNat = zV M 3 w.toNat 2 + 1 := by
                            have hz9 := iA_ver hN9.1 (m := w.toNat) (by rw [zV_of (hs4.2.2.2 1 0 1 (by omega) (by omega))]; unfold zver; rw [zV_ne (by decide), zV_ne (by decide), r2.v (by decide)]; omega) (by rw [zV_of (hs4.2.2.2 3 _ 3 (by omega) (by omega))]; unfold zver; rw [zV_nj (by decide), zV_ne (by decide), r2.v (by decide)]; exact hg0)
                            rw [hz9.1, zV_of (hs4.2.2.2 3 _ 2 (by omega) (by omega))]
                            unfold zver
                            have hq9 : zV (zup Mz46 6 w.toNat pl9 (zI zq29)) 3 w.toNat 2 = zV M 3 w.toNat 2 := by rw [zV_ne (by decide)]; exact r2.v (by decide)
                            rw [zV_eq (by rw [hq9]; omega), hq9]
                          refine z_aload C 1019 dL_registers_1019 7 rfl ?_
                          refine z_iload C 1021 dL_registers_1021 12 rfl ?_
                          refine z_ialdj C 1023 (show 0 < 1 by omega) (zc27 ..) w.toNat rfl (by first | assumption | omega) (by omega) (show w < ((16 : Nat) : Int) by omega) dL_registers_1023 (fun zq49 ezq49 hzq49 => ?_)
                          refine z_icmp_ne C 1024 1031 dL_registers_1024 (by decide) hzq47 hzq49 (fun c1024_395 => ?_) (fun c1024_395 => ?_)
                          · exact absurd (by omega) c1024_395
                          refine z_iconst C 1027 dL_registers_1027 ?_
                          refine z_goto C 1028 1032 dL_registers_1028 (by decide) ?_
                          refine z_zret C 1032 dL_registers_1032 (by decide) (by decide) (by decide) ?_
                          exact ⟨rfl, hN9⟩
                        have hX : ¬ (zV M 3 w.toNat 3 = 0 ∧ zloc M w.toNat zq6 ∧ ¬ zloc M w.toNat zq29) := by
                          rintro ⟨-, -, hq3⟩
                          obtain ⟨i9, hi1, hi2, hi3⟩ := f1.t (by omega)
                          have hi4 := iA_at hA (m := w.toNat) (j := i9) (by omega) (by omega)
                          exact hq3 ⟨i9, hi4.1.mp hi2, (hi4.2.1 (hi4.1.mp hi2)).symm.trans hi3⟩
                        refine z_aload_n C 952 dL_registers_952 rfl 2 rfl ?_
                        refine z_iload C 953 dL_registers_953 12 rfl ?_
                        refine z_iload C 955 dL_registers_955 1 rfl ?_
                        refine z_iload C 957 dL_registers_957 0 rfl ?_
                        refine zs_call C 959 (n := 4) (As := [.ref (zad G 0 0), .int (zI w), .int (zI zq6), .int (zI zq29)]) (rest := []) (v_move l hfl G M hw w zq6 zq29 (by first | assumption | decide | omega) (by first | assumption | decide | omega) (by first | assumption | decide | omega)) wm_L_111 wcw_L_move wini_L wst_L_move ⟨by decide, by decide, by decide⟩ ⟨by decide, by decide⟩ rfl (Nat.le_of_ble_eq_true rfl) ⟨by decide, by decide⟩ dL_registers_959 rfl (fun zq50 Mz51 hzq50 hPz50 => ?_)
                        refine zZ_cs (k := 18) (n := 108) (by decide) (by decide) ?_
                        obtain ⟨ezzq50, emzq50⟩ := hPz50.2.2.1 (show 0 ≤ w ∧ w < zmn M from ⟨by omega, by show w < zV M 1 0 1; omega⟩) (by omega) hX
                        subst ezzq50
                        have emzq50 := emzq50.symm
                        subst emzq50
                        refine z_bipush C 962 dL_registers_962 (by decide +kernel) ?_
                        refine z_icmp_ne C 964 971 dL_registers_964 (by decide) (by decide) (by decide) (fun c964_416 => ?_) (fun c964_416 => ?_)
                        · exact absurd c964_416 (by decide)
                        refine z_iconst C 967 dL_registers_967 ?_
                        refine z_goto C 968 972 dL_registers_968 (by decide) ?_
                        refine z_zret C 972 dL_registers_972 (by decide) (by decide) (by decide) ?_
                        exact ⟨rfl, iN_up h (by omega)⟩
                      have hlk := (iA_at hA (m := w.toNat) (j := k.toNat) (by omega) (by omega)).2.2
                      have hth := f1.1
                      refine z_iload C 858 dL_registers_858 15 rfl ?_
                      refine z_aload C 860 dL_registers_860 8 rfl ?_
                      refine z_iconst C 862 dL_registers_862 ?_
                      refine z_iload C 863 dL_registers_863 12 rfl ?_
                      refine z_imul C 865 dL_registers_865 ?_
                      refine z_iload C 866 dL_registers_866 16 rfl ?_
                      refine z_iadd C 868 dL_registers_868 ?_
                      refine z_ialdj C 869 (show 0 < 1 by omega) (zc28 ..) (4 * w.toNat + k.toNat) (by omega) (by first | assumption | omega) (by omega) (show ((4 * w) + k) < ((64 : Nat) : Int) by omega) dL_registers_869 (fun zq52 ezq52 hzq52 => ?_)
                      refine z_if_le C 870 895 dL_registers_870 (by decide) hzq52 (fun c870_431 => ?_) (fun c870_431 => ?_)
                      · have hQ : zb 0 (0 < zV M 28 0 (4 * w.toNat + k.toNat) ∧ zV M 28 0 (4 * w.toNat + k.toNat) % 32 = zq29) := zb.zero (fun q => by omega)
                        refine z_iconst C 895 dL_registers_895 ?_
                        refine z_ior C 896 (v := max hs 0) dL_registers_896 (j_orb (by omega) (by decide)) ?_
                        refine z_istore (lv' := [(15, .int (zI (max hs 0))), (14, .int (zI zq29)), (11, .int (zI zq6)), (0, .ref (zad G 0 0)), (1, .int (zI act)), (2, .int (zI y)), (3, .int (zI z)), (4, .ref (zad G 26 0)), (5, .ref (zad G 27 0)), (6, .ref (zad G 28 0)), (7, .ref (zad G 30 0)), (8, .ref (zad G 32 0)), (9, .ref (zad G 36 0)), (10, .int (zI w)), (12, .int (zI f)), (13, .int (zI mn)), (16, .int (zI k))]) C 897 dL_registers_897 (by decide) rfl ?_
                        refine z_iinc (lv' := [(16, .int (zI (k + 1))), (15, .int (zI (max hs 0))), (14, .int (zI zq29)), (11, .int (zI zq6)), (0, .ref (zad G 0 0)), (1, .int (zI act)), (2, .int (zI y)), (3, .int (zI z)), (4, .ref (zad G 26 0)), (5, .ref (zad G 27 0)), (6, .ref (zad G 28 0)), (7, .ref (zad G 30 0)), (8, .ref (zad G 32 0)), (9, .ref (zad G 36 0)), (10, .int (zI w)), (12, .int (zI f)), (13, .int (zI mn))]) C 899 dL_registers_899 16 rfl (by decide) rfl ?_
                        refine z_goto C 902 852 dL_registers_902 (by decide) ?_
                        refine z_sub (lv' := [(14, .int (zI zq29)), (11, .int (zI zq6)), (0, .ref (zad G 0 0)), (1, .int (zI act)), (2, .int (zI y)), (3, .int (zI z)), (4, .ref (zad G 26 0)), (5, .ref (zad G 27 0)), (6, .ref (zad G 28 0)), (7, .ref (zad G 30 0)), (8, .ref (zad G 32 0)), (9, .ref (zad G 36 0)), (10, .int (zI w)), (12, .int (zI f)), (13, .int (zI mn)), (15, .int (zI (max hs 0))), (16, .int (zI (k + 1)))]) [2, 3, 4, 5, 6, 7, 8, 9, 10, 11, 12, 13, 14, 15, 16, 1, 0] rfl ?_
                        exact ihz32 (max hs 0) (k + 1) (by omega) (by exact jor_s (by omega) f1 hQ) (by omega)
                      refine z_aload C 873 dL_registers_873 8 rfl ?_
                      refine z_iconst C 875 dL_registers_875 ?_
                      refine z_iload C 876 dL_registers_876 12 rfl ?_
                      refine z_imul C 878 dL_registers_878 ?_
                      refine z_iload C 879 dL_registers_879 16 rfl ?_
                      refine z_iadd C 881 dL_registers_881 ?_
                      refine z_ialdj C 882 (show 0 < 1 by omega) (zc28 ..) (4 * w.toNat + k.toNat) (by omega) (by first | assumption | omega) (by omega) (show ((4 * w) + k) < ((64 : Nat) : Int) by omega) dL_registers_882 (fun zq53 ezq53 hzq53 => ?_)
                      refine z_bipush C 883 dL_registers_883 (by decide +kernel) ?_
                      refine z_irem C 885 dL_registers_885 hzq53 (by omega) (by decide) (by decide) ?_
                      refine z_iload C 886 dL_registers_886 0 rfl ?_
                      refine z_icmp_ne C 888 895 dL_registers_888 (by decide) (by first | assumption | omega) hzq29 (fun c888_450 => ?_) (fun c888_450 => ?_)
                      · have hQ : zb 0 (0 < zV M 28 0 (4 * w.toNat + k.toNat) ∧ zV M 28 0 (4 * w.toNat + k.toNat) % 32 = zq29) := zb.zero (fun q => by omega)
                        refine z_iconst C 895 dL_registers_895 ?_
                        refine z_ior C 896 (v := max hs 0) dL_registers_896 (j_orb (by omega) (by decide)) ?_
                        refine z_istore (lv' := [(15, .int (zI (max hs 0))), (14, .int (zI zq29)), (11, .int (zI zq6)), (0, .ref (zad G 0 0)), (1, .int (zI act)), (2, .int (zI y)), (3, .int (zI z)), (4, .ref (zad G 26 0)), (5, .ref (zad G 27 0)), (6, .ref (zad G 28 0)), (7, .ref (zad G 30 0)), (8, .ref (zad G 32 0)), (9, .ref (zad G 36 0)), (10, .int (zI w)), (12, .int (zI f)), (13, .int (zI mn)), (16, .int (zI k))]) C 897 dL_registers_897 (by decide) rfl ?_
                        refine z_iinc (lv' := [(16, .int (zI (k + 1))), (15, .int (zI (max hs 0))), (14, .int (zI zq29)), (11, .int (zI zq6)), (0, .ref (zad G 0 0)), (1, .int (zI act)), (2, .int (zI y)), (3, .int (zI z)), (4, .ref (zad G 26 0)), (5, .ref (zad G 27 0)), (6, .ref (zad G 28 0)), (7, .ref (zad G 30 0)), (8, .ref (zad G 32 0)), (9, .ref (zad G 36 0)), (10, .int (zI w)), (12, .int (zI f)), (13, .int (zI mn))]) C 899 dL_registers_899 16 rfl (by decide) rfl ?_
                        refine z_goto C 902 852 dL_registers_902 (by decide) ?_
                        refine z_sub (lv' := [(14, .int (zI zq29)), (11, .int (zI zq6)), (0, .ref (zad G 0 0)), (1, .int (zI act)), (2, .int (zI y)), (3, .int (zI z)), (4, .ref (zad G 26 0)), (5, .ref (zad G 27 0)), (6, .ref (zad G 28 0)), (7, .ref (zad G 30 0)), (8, .ref (zad G 32 0)), (9, .ref (zad G 36 0)), (10, .int (zI w)), (12, .int (zI f)), (13, .int (zI mn)), (15, .int (zI (max hs 0))), (16, .int (zI (k + 1)))]) [2, 3, 4, 5, 6, 7, 8, 9, 10, 11, 12, 13, 14, 15, 16, 1, 0] rfl ?_
                        exact ihz32 (max hs 0) (k + 1) (by omega) (by exact jor_s (by omega) f1 hQ) (by omega)
                      have hQ : zb 1 (0 < zV M 28 0 (4 * w.toNat + k.toNat) ∧ zV M 28 0 (4 * w.toNat + k.toNat) % 32 = zq29) := zb.one ⟨by omega, by omega⟩
                      refine z_iconst C 891 dL_registers_891 ?_
                      refine z_goto C 892 896 dL_registers_892 (by decide) ?_
                      refine z_ior C 896 (v := max hs 1) dL_registers_896 (j_orb (by omega) (by decide)) ?_
                      refine z_istore (lv' := [(15, .int (zI (max hs 1))), (14, .int (zI zq29)), (11, .int (zI zq6)), (0, .ref (zad G 0 0)), (1, .int (zI act)), (2, .int (zI y)), (3, .int (zI z)), (4, .ref (zad G 26 0)), (5, .ref (zad G 27 0)), (6, .ref (zad G 28 0)), (7, .ref (zad G 30 0)), (8, .ref (zad G 32 0)), (9, .ref (zad G 36 0)), (10, .int (zI w)), (12, .int (zI f)), (13, .int (zI mn)), (16, .int (zI k))]) C 897 dL_registers_897 (by decide) rfl ?_
                      refine z_iinc (lv' := [(16, .int (zI (k + 1))), (15, .int (zI (max hs 1))), (14, .int (zI zq29)), (11, .int (zI zq6)), (0, .ref (zad G 0 0)), (1, .int (zI act)), (2, .int (zI y)), (3, .int (zI z)), (4, .ref (zad G 26 0)), (5, .ref (zad G 27 0)), (6, .ref (zad G 28 0)), (7, .ref (zad G 30 0)), (8, .ref (zad G 32 0)), (9, .ref (zad G 36 0)), (10, .int (zI w)), (12, .int (zI f)), (13, .int (zI mn))]) C 899 dL_registers_899 16 rfl (by decide) rfl ?_
                      refine z_goto C 902 852 dL_registers_902 (by decide) ?_
                      refine z_sub (lv' := [(14, .int (zI zq29)), (11, .int (zI zq6)), (0, .ref (zad G 0 0)), (1, .int (zI act)), (2, .int (zI y)), (3, .int (zI z)), (4, .ref (zad G 26 0)), (5, .ref (zad G 27 0)), (6, .ref (zad G 28 0)), (7, .ref (zad G 30 0)), (8, .ref (zad G 32 0)), (9, .ref (zad G 36 0)), (10, .int (zI w)), (12, .int (zI f)), (13, .int (zI mn)), (15, .int (zI (max hs 1))), (16, .int (zI (k + 1)))]) [2, 3, 4, 5, 6, 7, 8, 9, 10, 11, 12, 13, 14, 15, 16, 1, 0] rfl ?_
                      exact ihz32 (max hs 1) (k + 1) (by omega) (by exact jor_s (by omega) f1 hQ) (by omega)
                  refine z_sub (lv' := [(14, .int (zI zq29)), (11, .int (zI zq6)), (0, .ref (zad G 0 0)), (1, .int (zI act)), (2, .int (zI y)), (3, .int (zI z)), (4, .ref (zad G 26 0)), (5, .ref (zad G 27 0)), (6, .ref (zad G 28 0)), (7, .ref (zad G 30 0)), (8, .ref (zad G 32 0)), (9, .ref (zad G 36 0)), (10, .int (zI w)), (12, .int (zI f)), (13, .int (zI mn)), (15, .int (zI 0)), (16, .int (zI 0))]) [2, 3, 4, 5, 6, 7, 8, 9, 10, 11, 12, 13, 14, 15, 16, 1, 0] rfl ?_
                  exact L852_31 (((4 - 0 : Int)).toNat + 1) 0 0 (by omega) (by exact jor_0) (by omega)
                refine z_iload_n C 622 dL_registers_622 rfl 4 rfl ?_
                refine z_bipush C 623 dL_registers_623 (by decide +kernel) ?_
                refine z_ishr_any C 625 dL_registers_625 (fun zv54 hzv54 => ?_)
                refine z_iconst C 626 dL_registers_626 ?_
                refine z_callSi C 627 (As := [.int (zI zv54), .int (zI 3)]) (rest := []) (c_L_low l G M zv54 3 (by omega)) (zS_of 2 C wm_L_85 wc_L_low wini_L wst_L_low ⟨by decide, by decide, by decide⟩ ⟨by decide, by decide⟩) rfl (Nat.le_of_ble_eq_true rfl) ⟨by decide, by decide⟩ dL_registers_627 rfl (fun zq55 Mz56 hzq55 hPz55 => ?_)
                obtain ⟨rfl, hPz55⟩ := hPz55
                refine z_istore (lv' := [(14, .int (zI zq55)), (11, .int (zI zq6)), (0, .ref (zad G 0 0)), (1, .int (zI act)), (2, .int (zI y)), (3, .int (zI z)), (4, .ref (zad G 26 0)), (5, .ref (zad G 27 0)), (6, .ref (zad G 28 0)), (7, .ref (zad G 30 0)), (8, .ref (zad G 32 0)), (9, .ref (zad G 36 0)), (10, .int (zI w)), (12, .int (zI f)), (13, .int (zI mn))]) C 630 dL_registers_630 (by decide) rfl ?_
                refine z_iconst C 632 dL_registers_632 ?_
                refine z_iload_n C 633 dL_registers_633 rfl 5 rfl ?_
                refine z_bipush C 634 dL_registers_634 (by decide +kernel) ?_
                refine z_ishr_any C 636 dL_registers_636 (fun zv57 hzv57 => ?_)
                refine z_bipush C 637 dL_registers_637 (by decide +kernel) ?_
                refine z_callSi C 639 (As := [.int (zI zv57), .int (zI 10)]) (rest := [.int (zI 1)]) (c_L_low l G M zv57 10 (by omega)) (zS_of 2 C wm_L_85 wc_L_low wini_L wst_L_low ⟨by decide, by decide, by decide⟩ ⟨by decide, by decide⟩) rfl (Nat.le_of_ble_eq_true rfl) ⟨by decide, by decide⟩ dL_registers_639 rfl (fun zq58 Mz59 hzq58 hPz58 => ?_)
                obtain ⟨rfl, hPz58⟩ := hPz58
                refine z_iadd C 642 dL_registers_642 ?_
                refine z_istore (lv' := [(15, .int (zI (1 + zq58))), (14, .int (zI zq55)), (11, .int (zI zq6)), (0, .ref (zad G 0 0)), (1, .int (zI act)), (2, .int (zI y)), (3, .int (zI z)), (4, .ref (zad G 26 0)), (5, .ref (zad G 27 0)), (6, .ref (zad G 28 0)), (7, .ref (zad G 30 0)), (8, .ref (zad G 32 0)), (9, .ref (zad G 36 0)), (10, .int (zI w)), (12, .int (zI f)), (13, .int (zI mn))]) C 643 dL_registers_643 (by decide) rfl ?_
                refine z_aload_n C 645 dL_registers_645 rfl 3 rfl ?_
                refine z_iload C 646 dL_registers_646 13 rfl ?_
                refine z_bipush C 648 dL_registers_648 (by decide +kernel) ?_
                refine z_iload C 650 dL_registers_650 1 rfl ?_
                refine z_iload C 652 dL_registers_652 0 rfl ?_
                refine zs_call C 654 (n := 5) (As := [.ref (zad G 0 0), .int (zI w), .int (zI 32), .int (zI zq55), .int (zI (1 + zq58))]) (rest := []) (v_addLocator l hfl G M hw w 32 zq55 (1 + zq58) (by first | assumption | decide | omega) (by first | assumption | decide | omega) (by first | assumption | decide | omega) (by first | assumption | decide | omega)) wm_L_108 wcw_L_addLocator wini_L wst_L_addLocator ⟨by decide, by decide, by decide⟩ ⟨by decide, by decide⟩ rfl (Nat.le_of_ble_eq_true rfl) ⟨by decide, by decide⟩ dL_registers_654 rfl (fun zq60 Mz61 hzq60 hPz60 => ?_)
                refine zZ_cs (k := 6) (n := 36) (by decide) (by decide) ?_
                obtain ⟨ezzq60, emzq60⟩ := hPz60.2.1 (show 0 ≤ w ∧ w < zmn M from ⟨by omega, by show w < zV M 1 0 1; omega⟩) (fun q => by omega)
                subst ezzq60
                have emzq60 := emzq60.symm
                subst emzq60
                refine z_bipush C 657 dL_registers_657 (by decide +kernel) ?_
                refine z_icmp_ne C 659 711 dL_registers_659 (by decide) (by decide) (by decide) (fun c659_497 => ?_) (fun c659_497 => ?_)
                · exact absurd c659_497 (by decide)
                refine z_aload_n C 662 dL_registers_662 rfl 3 rfl ?_
                refine z_iload C 663 dL_registers_663 13 rfl ?_
                refine z_iload C 665 dL_registers_665 2 rfl ?_
                refine z_iconst C 667 dL_registers_667 ?_
                refine z_iload C 668 dL_registers_668 0 rfl ?_
                refine zs_call C 670 (n := 5) (As := [.ref (zad G 0 0), .int (zI w), .int (zI zq6), .int (zI 4), .int (zI (1 + zq58))]) (rest := []) (v_addLocator l hfl G M hw w zq6 4 (1 + zq58) (by first | assumption | decide | omega) (by first | assumption | decide | omega) (by first | assumption | decide | omega) (by first | assumption | decide | omega)) wm_L_108 wcw_L_addLocator wini_L wst_L_addLocator ⟨by decide, by decide, by decide⟩ ⟨by decide, by decide⟩ rfl (Nat.le_of_ble_eq_true rfl) ⟨by decide, by decide⟩ dL_registers_670 rfl (fun zq62 Mz63 hzq62 hPz62 => ?_)
                refine zZ_cs (k := 12) (n := 72) (by decide) (by decide) ?_
                obtain ⟨ezzq62, emzq62⟩ := hPz62.2.1 (show 0 ≤ w ∧ w < zmn M from ⟨by omega, by show w < zV M 1 0 1; omega⟩) (fun q => by omega)
                subst ezzq62
                have emzq62 := emzq62.symm
                subst emzq62
                refine z_bipush C 673 dL_registers_673 (by decide +kernel) ?_
                refine z_icmp_ne C 675 711 dL_registers_675 (by decide) (by decide) (by decide) (fun c675_511 => ?_) (fun c675_511 => ?_)
                · exact absurd c675_511 (by decide)
                refine z_aload_n C 678 dL_registers_678 rfl 3 rfl ?_
                refine z_iload C 679 dL_registers_679 13 rfl ?_
                refine z_iload C 681 dL_registers_681 2 rfl ?_
                refine z_iload C 683 dL_registers_683 1 rfl ?_
                refine z_iconst C 685 dL_registers_685 ?_
                refine zs_call C 686 (n := 5) (As := [.ref (zad G 0 0), .int (zI w), .int (zI zq6), .int (zI zq55), .int (zI 0)]) (rest := []) (v_addLocator l hfl G M hw w zq6 zq55 0 (by first | assumption | decide | omega) (by first | assumption | decide | omega) (by first | assumption | decide | omega) (by first | assumption | decide | omega)) wm_L_108 wcw_L_addLocator wini_L wst_L_addLocator ⟨by decide, by decide, by decide⟩ ⟨by decide, by decide⟩ rfl (Nat.le_of_ble_eq_true rfl) ⟨by decide, by decide⟩ dL_registers_686 rfl (fun zq64 Mz65 hzq64 hPz64 => ?_)
                refine zZ_cs (k := 18) (n := 108) (by decide) (by decide) ?_
                obtain ⟨ezzq64, emzq64⟩ := hPz64.2.1 (show 0 ≤ w ∧ w < zmn M from ⟨by omega, by show w < zV M 1 0 1; omega⟩) (fun q => by omega)
                subst ezzq64
                have emzq64 := emzq64.symm
                subst emzq64
                refine z_bipush C 689 dL_registers_689 (by decide +kernel) ?_
                refine z_icmp_ne C 691 711 dL_registers_691 (by decide) (by decide) (by decide) (fun c691_525 => ?_) (fun c691_525 => ?_)
                · exact absurd c691_525 (by decide)
                refine z_aload_n C 694 dL_registers_694 rfl 3 rfl ?_
                refine z_iload C 695 dL_registers_695 13 rfl ?_
                refine z_iload C 697 dL_registers_697 2 rfl ?_
                refine z_iload C 699 dL_registers_699 1 rfl ?_
                refine z_bipush C 701 dL_registers_701 (by decide +kernel) ?_
                refine zs_call C 703 (n := 5) (As := [.ref (zad G 0 0), .int (zI w), .int (zI zq6), .int (zI zq55), .int (zI 11)]) (rest := []) (v_addLocator l hfl G M hw w zq6 zq55 11 (by first | assumption | decide | omega) (by first | assumption | decide | omega) (by first | assumption | decide | omega) (by first | assumption | decide | omega)) wm_L_108 wcw_L_addLocator wini_L wst_L_addLocator ⟨by decide, by decide, by decide⟩ ⟨by decide, by decide⟩ rfl (Nat.le_of_ble_eq_true rfl) ⟨by decide, by decide⟩ dL_registers_703 rfl (fun zq66 Mz67 hzq66 hPz66 => ?_)
                refine zZ_cs (k := 24) (n := 144) (by decide) (by decide) ?_
                obtain ⟨ezzq66, emzq66⟩ := hPz66.2.1 (show 0 ≤ w ∧ w < zmn M from ⟨by omega, by show w < zV M 1 0 1; omega⟩) (fun q => by omega)
                subst ezzq66
                have emzq66 := emzq66.symm
                subst emzq66
                refine z_bipush C 706 dL_registers_706 (by decide +kernel) ?_
                refine z_icmp_eq C 708 713 dL_registers_708 (by decide) (by decide) (by decide) (fun c708_539 => ?_) (fun c708_539 => ?_)
                rotate_left
                · exact absurd c708_539 (by decide)
                refine z_aload C 713 dL_registers_713 8 rfl ?_
                refine z_iload C 715 dL_registers_715 13 rfl ?_
                refine z_ialdj C 717 (show 0 < 1 by omega) (zc27 ..) w.toNat rfl (by first | assumption | omega) (by omega) (show w < ((16 : Nat) : Int) by omega) dL_registers_717 (fun zq68 ezq68 hzq68 => ?_)
                refine z_if_eq C 718 732 dL_registers_718 (by decide) hzq68 (fun c718_545 => ?_) (fun c718_545 => ?_)
                · have hX : ¬ (zV M 3 w.toNat 3 = 0 ∧ zV M 5 w.toNat 3 < 4 ∧ ¬ zloc M w.toNat zq6) := fun q => hmw.2.2.2.1.mp (by omega) q.1
                  refine z_aload_n C 732 dL_registers_732 rfl 3 rfl ?_
                  refine z_iload C 733 dL_registers_733 13 rfl ?_
                  refine z_iload C 735 dL_registers_735 2 rfl ?_
                  refine z_iload C 737 dL_registers_737 1 rfl ?_
                  refine z_iload C 739 dL_registers_739 0 rfl ?_
                  refine zs_call C 741 (n := 5) (As := [.ref (zad G 0 0), .int (zI w), .int (zI zq6), .int (zI zq55), .int (zI (1 + zq58))]) (rest := []) (v_addLocator l hfl G M hw w zq6 zq55 (1 + zq58) (by first | assumption | decide | omega) (by first | assumption | decide | omega) (by first | assumption | decide | omega) (by first | assumption | decide | omega)) wm_L_108 wcw_L_addLocator wini_L wst_L_addLocator ⟨by decide, by decide, by decide⟩ ⟨by decide, by decide⟩ rfl (Nat.le_of_ble_eq_true rfl) ⟨by decide, by decide⟩ dL_registers_741 rfl (fun zq69 Mz70 hzq69 hPz69 => ?_)
                  refine zZ_cs (k := 30) (n := 180) (by decide) (by decide) ?_
                  obtain ⟨ezzq69, emzq69⟩ := hPz69.2.2.1 (show 0 ≤ w ∧ w < zmn M from ⟨by omega, by show w < zV M 1 0 1; omega⟩) (by omega) hX
                  subst ezzq69
                  have emzq69 := emzq69.symm
                  subst emzq69
                  refine z_bipush C 744 dL_registers_744 (by decide +kernel) ?_
                  refine z_icmp_ne C 746 753 dL_registers_746 (by decide) (by decide) (by decide) (fun c746_560 => ?_) (fun c746_560 => ?_)
                  · exact absurd c746_560 (by decide)
                  refine z_iconst C 749 dL_registers_749 ?_
                  refine z_goto C 750 754 dL_registers_750 (by decide) ?_
                  refine z_zret C 754 dL_registers_754 (by decide) (by decide) (by decide) ?_
                  exact ⟨rfl, iN_up h (by omega)⟩
                refine z_iload C 721 dL_registers_721 14 rfl ?_
                refine z_if_ge C 723 732 dL_registers_723 (by decide) (by first | assumption | omega) (fun c723_566 => ?_) (fun c723_566 => ?_)
                · have hX : ¬ (zV M 3 w.toNat 3 = 0 ∧ zV M 5 w.toNat 3 < 4 ∧ ¬ zloc M w.toNat zq6) := fun q => q.2.2 (jatk_y hA (by omega) hat (by omega)).1
                  refine z_aload_n C 732 dL_registers_732 rfl 3 rfl ?_
                  refine z_iload C 733 dL_registers_733 13 rfl ?_
                  refine z_iload C 735 dL_registers_735 2 rfl ?_
                  refine z_iload C 737 dL_registers_737 1 rfl ?_
                  refine z_iload C 739 dL_registers_739 0 rfl ?_
                  refine zs_call C 741 (n := 5) (As := [.ref (zad G 0 0), .int (zI w), .int (zI zq6), .int (zI zq55), .int (zI (1 + zq58))]) (rest := []) (v_addLocator l hfl G M hw w zq6 zq55 (1 + zq58) (by first | assumption | decide | omega) (by first | assumption | decide | omega) (by first | assumption | decide | omega) (by first | assumption | decide | omega)) wm_L_108 wcw_L_addLocator wini_L wst_L_addLocator ⟨by decide, by decide, by decide⟩ ⟨by decide, by decide⟩ rfl (Nat.le_of_ble_eq_true rfl) ⟨by decide, by decide⟩ dL_registers_741 rfl (fun zq71 Mz72 hzq71 hPz71 => ?_)
                  refine zZ_cs (k := 30) (n := 180) (by decide) (by decide) ?_
                  obtain ⟨ezzq71, emzq71⟩ := hPz71.2.2.1 (show 0 ≤ w ∧ w < zmn M from ⟨by omega, by show w < zV M 1 0 1; omega⟩) (by omega) hX
                  subst ezzq71
                  have emzq71 := emzq71.symm
                  subst emzq71
                  refine z_bipush C 744 dL_registers_744 (by decide +kernel) ?_
                  refine z_icmp_ne C 746 753 dL_registers_746 (by decide) (by decide) (by decide) (fun c746_581 => ?_) (fun c746_581 => ?_)
                  · exact absurd c746_581 (by decide)
                  refine z_iconst C 749 dL_registers_749 ?_
                  refine z_goto C 750 754 dL_registers_750 (by decide) ?_
                  refine z_zret C 754 dL_registers_754 (by decide) (by decide) (by decide) ?_
                  exact ⟨rfl, iN_up h (by omega)⟩
                refine z_iload C 726 dL_registers_726 15 rfl ?_
                refine z_iconst C 728 dL_registers_728 ?_
                refine z_icmp_ne C 729 755 dL_registers_729 (by decide) (by first | assumption | omega) (by decide) (fun c729_588 => ?_) (fun c729_588 => ?_)
                · have hg0 : zV M 3 w.toNat 3 = 0 := hmw.2.2.1.mp (by have := hmw.2.2.2.2; omega)
                  obtain ⟨k9, hk9⟩ : ∃ k : Nat, zV M 5 w.toNat 3 = (k : Int) := ⟨(zV M 5 w.toNat 3).toNat, by omega⟩
                  have hlc := jatk_n hA (by omega) hat (by omega)
                  refine z_aload C 755 dL_registers_755 9 rfl ?_
                  refine z_iconst C 757 dL_registers_757 ?_
                  refine z_iload C 758 dL_registers_758 13 rfl ?_
                  refine z_imul C 760 dL_registers_760 ?_
                  refine z_iload C 761 dL_registers_761 15 rfl ?_
                  refine z_iadd C 763 dL_registers_763 ?_
                  refine z_iload C 764 dL_registers_764 2 rfl ?_
                  refine z_bipush C 766 dL_registers_766 (by decide +kernel) ?_
                  refine z_iload C 768 dL_registers_768 1 rfl ?_
                  refine z_imul C 770 dL_registers_770 ?_
                  refine z_iadd C 771 dL_registers_771 ?_
                  refine z_sipush C 772 dL_registers_772 (by decide +kernel) ?_
                  refine z_iload C 775 dL_registers_775 0 rfl ?_
                  refine z_imul C 777 dL_registers_777 ?_
                  refine z_iadd C 778 dL_registers_778 ?_
                  refine z_iastj C 779 (show 0 < 1 by omega) (zc28 ..) (4 * w.toNat + k9) (by omega) (by first | assumption | omega) (by omega) (show ((4 * w) + mn) < ((64 : Nat) : Int) by omega) (zc28 ..) dL_registers_779 ?_
                  refine z_aload C 780 dL_registers_780 8 rfl ?_
                  refine z_iload C 782 dL_registers_782 13 rfl ?_
                  refine z_dup2 C 784 dL_registers_784 rfl rfl ?_
                  refine z_ialdj C 785 (show 0 < 1 by omega) (zc27 ..) w.toNat rfl (by first | assumption | omega) (by omega) (show w < ((16 : Nat) : Int) by omega) dL_registers_785 (fun zq73 ezq73 hzq73 => ?_)
                  rw [zV_ne (by decide)] at ezq73
                  refine z_iconst C 786 dL_registers_786 ?_
                  refine z_iadd C 787 dL_registers_787 ?_
                  refine z_iastj C 788 (show 0 < 1 by omega) (zc27 ..) w.toNat rfl (by first | assumption | omega) (by omega) (show w < ((16 : Nat) : Int) by omega) (zc27 ..) dL_registers_788 ?_
                  generalize hD1 : zup (zup M 28 0 (4 * w.toNat + k9) (zI ((zq6 + (32 * zq55)) + (128 * (1 + zq58))))) 27 0 w.toNat (zI (zq73 + 1)) = D1
                  have r1 : i_rf M D1 := by rw [← hD1]; exact ((i_rf.r M).u (by decide)).u (by decide)
                  have hWd : iW n D1 := iW_c hW (Nat.le_refl n) (fun κ j q => by rw [← hD1]; repeat rw [zV_ne (by omega)])
                  have hd6 : zV D1 36 0 6 = zV M 36 0 6 := by rw [← hD1]; repeat rw [zV_ne (by decide)]
                  have hd3 : zV D1 36 0 3 = zV M 36 0 3 := by rw [← hD1]; repeat rw [zV_ne (by decide)]
                  have hm26 : zV D1 26 0 w.toNat = zV M 26 0 w.toNat := by rw [← hD1]; repeat rw [zV_ne (by decide)]
                  have hmx : zV M 26 0 w.toNat = 32 * zV M 4 w.toNat 0 + zV M 4 w.toNat 1 := hmw.2.1
                  have hD1e := hD1.symm
                  refine z_aload C 789 dL_registers_789 10 rfl ?_
                  refine z_aload C 791 dL_registers_791 11 rfl ?_
                  refine z_aload C 793 dL_registers_793 12 rfl ?_
                  refine z_aload C 795 dL_registers_795 7 rfl ?_
                  refine z_iload C 797 dL_registers_797 13 rfl ?_
                  refine z_ialdj C 799 (show 0 < 1 by omega) (zc26 ..) w.toNat rfl (by first | assumption | omega) (by omega) (show w < ((16 : Nat) : Int) by omega) dL_registers_799 (fun zq74 ezq74 hzq74 => ?_)
                  refine z_callSv C 800 (As := [.ref (zad G 30 0), .ref (zad G 32 0), .ref (zad G 36 0), .int (zI zq74)]) (rest := []) (c_L_solicit l G D1 hWd (zV M 4 w.toNat 0) (zV M 4 w.toNat 1) zq74 (by omega) hmw.1.1 (by omega)) (zS_of 4 C wm_L_102 wc_L_solicit wini_L wst_L_solicit ⟨by decide, by decide, by decide⟩ ⟨by decide, by decide⟩) rfl (Nat.le_of_ble_eq_true rfl) ⟨by decide, by decide⟩ dL_registers_800 rfl (fun Mz76 hPz75 => ?_)
                  have hsk := hPz75
                  have r2 := r1.t (i_rf.jsk hsk)
                  have hw2 := i_WC hw r2
                  refine z_aload_n C 803 dL_registers_803 rfl 3 rfl ?_
                  refine z_iload C 804 dL_registers_804 13 rfl ?_
                  refine z_iload C 806 dL_registers_806 2 rfl ?_
                  refine z_iload C 808 dL_registers_808 1 rfl ?_
                  refine z_iload C 810 dL_registers_810 0 rfl ?_
                  refine zs_call C 812 (n := 5) (As := [.ref (zad G 0 0), .int (zI w), .int (zI zq6), .int (zI zq55), .int (zI (1 + zq58))]) (rest := []) (v_addLocator l hfl G Mz76 hw2 w zq6 zq55 (1 + zq58) (by first | assumption | decide | omega) (by first | assumption | decide | omega) (by first | assumption | decide | omega) (by first | assumption | decide | omega)) wm_L_108 wcw_L_addLocator wini_L wst_L_addLocator ⟨by decide, by decide, by decide⟩ ⟨by decide, by decide⟩ rfl (Nat.le_of_ble_eq_true rfl) ⟨by decide, by decide⟩ dL_registers_812 rfl (fun zq77 Mz78 hzq77 hPz77 => ?_)
                  refine zZ_cs (k := 30) (n := 180) (by decide) (by decide) ?_
                  have hs9 := hPz77.2.2.2 ⟨by omega, by show w < zV Mz76 1 0 1; rw [r2.v (by decide)]; omega⟩ (by omega) ⟨by rw [r2.v (by decide)]; exact hg0, by rw [r2.v (by decide)]; omega, fun q => hlc ((i_loc r2).mp q)⟩
                  have hN9 := i_add h (by omega) (m := w.toNat) (by omega) hg0 hk9 (by omega) (by omega) (by omega) (by omega) hlc rfl ezq73 hD1e hsk hs9.2
                  have hv9 := iA_ver hA (m := w.toNat) (by omega) hg0
                  have hx9 : zq77 = zV M 3 w.toNat 2 + 1 := by rw [hs9.1, r2.v (by decide)]; exact zw_eq (by omega)
                  have ht9 : zV Mz78 27 0 w.toNat = zV M 3 w.toNat 2 + 1 := by
                    have hz9 := iA_ver hN9.1 (m := w.toNat) (by rw [zV_of (hs9.2.2.2.2 1 0 1 (by omega) (by omega))]; unfold zver zadl; rw [zV_ne (by decide), zV_ne (by decide), zV_ne (by decide), zV_ne (by decide), zV_ne (by decide), r2.v (by decide)]; omega) (by rw [zV_of (hs9.2.2.2.2 3 _ 3 (by omega) (by omega))]; unfold zver zadl; rw [zV_nj (by decide), zV_ne (by decide), zV_ne (by decide), zV_ne (by decide), zV_ne (by decide), r2.v (by decide)]; exact hg0)
                    rw [hz9.1, zV_of (hs9.2.2.2.2 3 _ 2 (by omega) (by omega))]
                    unfold zver
                    have hq9 : zV (zadl Mz76 w.toNat zq6 zq55 (1 + zq58)) 3 w.toNat 2 = zV M 3 w.toNat 2 := by unfold zadl; rw [zV_ne (by decide), zV_ne (by decide), zV_ne (by decide), zV_ne (by decide)]; exact r2.v (by decide)
                    rw [zV_eq (by rw [hq9]; omega), hq9]
                  refine z_aload C 815 dL_registers_815 8 rfl ?_
                  refine z_iload C 817 dL_registers_817 13 rfl ?_
                  refine z_ialdj C 819 (show 0 < 1 by omega) (zc27 ..) w.toNat rfl (by first | assumption | omega) (by omega) (show w < ((16 : Nat) : Int) by omega) dL_registers_819 (fun zq79 ezq79 hzq79 => ?_)
                  refine z_icmp_ne C 820 827 dL_registers_820 (by decide) hzq77 hzq79 (fun c820_655 => ?_) (fun c820_655 => ?_)
                  · exact absurd (by omega) c820_655
                  refine z_iconst C 823 dL_registers_823 ?_
                  refine z_goto C 824 828 dL_registers_824 (by decide) ?_
                  refine z_zret C 828 dL_registers_828 (by decide) (by decide) (by decide) ?_
                  exact ⟨rfl, hN9⟩
                have hX : ¬ (zV M 3 w.toNat 3 = 0 ∧ zV M 5 w.toNat 3 < 4 ∧ ¬ zloc M w.toNat zq6) := fun q => by have q1 := q.2.1; omega
                refine z_aload_n C 732 dL_registers_732 rfl 3 rfl ?_
                refine z_iload C 733 dL_registers_733 13 rfl ?_
                refine z_iload C 735 dL_registers_735 2 rfl ?_
                refine z_iload C 737 dL_registers_737 1 rfl ?_
                refine z_iload C 739 dL_registers_739 0 rfl ?_
                refine zs_call C 741 (n := 5) (As := [.ref (zad G 0 0), .int (zI w), .int (zI zq6), .int (zI zq55), .int (zI (1 + zq58))]) (rest := []) (v_addLocator l hfl G M hw w zq6 zq55 (1 + zq58) (by first | assumption | decide | omega) (by first | assumption | decide | omega) (by first | assumption | decide | omega) (by first | assumption | decide | omega)) wm_L_108 wcw_L_addLocator wini_L wst_L_addLocator ⟨by decide, by decide, by decide⟩ ⟨by decide, by decide⟩ rfl (Nat.le_of_ble_eq_true rfl) ⟨by decide, by decide⟩ dL_registers_741 rfl (fun zq80 Mz81 hzq80 hPz80 => ?_)
                refine zZ_cs (k := 30) (n := 180) (by decide) (by decide) ?_
                obtain ⟨ezzq80, emzq80⟩ := hPz80.2.2.1 (show 0 ≤ w ∧ w < zmn M from ⟨by omega, by show w < zV M 1 0 1; omega⟩) (by omega) hX
                subst ezzq80
                have emzq80 := emzq80.symm
                subst emzq80
                refine z_bipush C 744 dL_registers_744 (by decide +kernel) ?_
                refine z_icmp_ne C 746 753 dL_registers_746 (by decide) (by decide) (by decide) (fun c746_673 => ?_) (fun c746_673 => ?_)
                · exact absurd c746_673 (by decide)
                refine z_iconst C 749 dL_registers_749 ?_
                refine z_goto C 750 754 dL_registers_750 (by decide) ?_
                refine z_zret C 754 dL_registers_754 (by decide) (by decide) (by decide) ?_
                exact ⟨rfl, iN_up h (by omega)⟩
              have hlk := (iA_at hA (m := w.toNat) (j := k.toNat) (by omega) (by omega)).2.2
              refine z_aload C 542 dL_registers_542 7 rfl ?_
              refine z_iconst C 544 dL_registers_544 ?_
              refine z_iload C 545 dL_registers_545 11 rfl ?_
              refine z_imul C 547 dL_registers_547 ?_
              refine z_iload C 548 dL_registers_548 14 rfl ?_
              refine z_iadd C 550 dL_registers_550 ?_
              refine z_ialdj C 551 (show 0 < 1 by omega) (zc28 ..) (4 * w.toNat + k.toNat) (by omega) (by first | assumption | omega) (by omega) (show ((4 * w) + k) < ((64 : Nat) : Int) by omega) dL_registers_551 (fun zq82 ezq82 hzq82 => ?_)
              refine z_if_le C 552 583 dL_registers_552 (by decide) hzq82 (fun c552_686 => ?_) (fun c552_686 => ?_)
              · have hN : ¬ (0 < zV M 28 0 (4 * w.toNat + k.toNat) ∧ zV M 28 0 (4 * w.toNat + k.toNat) % 32 = zq6) := fun q => by omega
                refine z_iload C 583 dL_registers_583 12 rfl ?_
                refine z_istore (lv' := [(12, .int (zI f)), (11, .int (zI zq6)), (0, .ref (zad G 0 0)), (1, .int (zI act)), (2, .int (zI y)), (3, .int (zI z)), (4, .ref (zad G 26 0)), (5, .ref (zad G 27 0)), (6, .ref (zad G 28 0)), (7, .ref (zad G 30 0)), (8, .ref (zad G 32 0)), (9, .ref (zad G 36 0)), (10, .int (zI w)), (13, .int (zI mn)), (14, .int (zI k))]) C 585 dL_registers_585 (by decide) rfl ?_
                refine z_iload C 587 dL_registers_587 13 rfl ?_
                refine z_aload C 589 dL_registers_589 8 rfl ?_
                refine z_iconst C 591 dL_registers_591 ?_
                refine z_iload C 592 dL_registers_592 12 rfl ?_
                refine z_imul C 594 dL_registers_594 ?_
                refine z_iload C 595 dL_registers_595 14 rfl ?_
                refine z_iadd C 597 dL_registers_597 ?_
                refine z_ialdj C 598 (show 0 < 1 by omega) (zc28 ..) (4 * w.toNat + k.toNat) (by omega) (by first | assumption | omega) (by omega) (show ((4 * w) + k) < ((64 : Nat) : Int) by omega) dL_registers_598 (fun zq83 ezq83 hzq83 => ?_)
                refine z_if_le C 599 606 dL_registers_599 (by decide) hzq83 (fun c599_699 => ?_) (fun c599_699 => ?_)
                rotate_left
                · exact absurd c599_699 (by omega)
                refine z_iconst C 606 dL_registers_606 ?_
                refine z_iadd C 607 dL_registers_607 ?_
                refine z_istore (lv' := [(13, .int (zI (mn + 0))), (12, .int (zI f)), (11, .int (zI zq6)), (0, .ref (zad G 0 0)), (1, .int (zI act)), (2, .int (zI y)), (3, .int (zI z)), (4, .ref (zad G 26 0)), (5, .ref (zad G 27 0)), (6, .ref (zad G 28 0)), (7, .ref (zad G 30 0)), (8, .ref (zad G 32 0)), (9, .ref (zad G 36 0)), (10, .int (zI w)), (14, .int (zI k))]) C 608 dL_registers_608 (by decide) rfl ?_
                refine z_iinc (lv' := [(14, .int (zI (k + 1))), (13, .int (zI (mn + 0))), (12, .int (zI f)), (11, .int (zI zq6)), (0, .ref (zad G 0 0)), (1, .int (zI act)), (2, .int (zI y)), (3, .int (zI z)), (4, .ref (zad G 26 0)), (5, .ref (zad G 27 0)), (6, .ref (zad G 28 0)), (7, .ref (zad G 30 0)), (8, .ref (zad G 32 0)), (9, .ref (zad G 36 0)), (10, .int (zI w))]) C 610 dL_registers_610 14 rfl (by decide) rfl ?_
                refine z_goto C 613 536 dL_registers_613 (by decide) ?_
                refine z_sub (lv' := [(11, .int (zI zq6)), (0, .ref (zad G 0 0)), (1, .int (zI act)), (2, .int (zI y)), (3, .int (zI z)), (4, .ref (zad G 26 0)), (5, .ref (zad G 27 0)), (6, .ref (zad G 28 0)), (7, .ref (zad G 30 0)), (8, .ref (zad G 32 0)), (9, .ref (zad G 36 0)), (10, .int (zI w)), (12, .int (zI f)), (13, .int (zI (mn + 0))), (14, .int (zI (k + 1)))]) [3, 4, 5, 6, 7, 8, 9, 10, 11, 12, 13, 14, 2, 1, 0] rfl ?_
                exact ihz10 f (mn + 0) (k + 1) (by omega) (by exact jatk_f (by omega) g1 hN) (by rw [zsm_s _ g0.1, ← g2, zind_f (by omega)]) (by omega) (by omega)
              refine z_aload C 555 dL_registers_555 7 rfl ?_
              refine z_iconst C 557 dL_registers_557 ?_
              refine z_iload C 558 dL_registers_558 11 rfl ?_
              refine z_imul C 560 dL_registers_560 ?_
              refine z_iload C 561 dL_registers_561 14 rfl ?_
              refine z_iadd C 563 dL_registers_563 ?_
              refine z_ialdj C 564 (show 0 < 1 by omega) (zc28 ..) (4 * w.toNat + k.toNat) (by omega) (by first | assumption | omega) (by omega) (show ((4 * w) + k) < ((64 : Nat) : Int) by omega) dL_registers_564 (fun zq84 ezq84 hzq84 => ?_)
              refine z_bipush C 565 dL_registers_565 (by decide +kernel) ?_
              refine z_irem C 567 dL_registers_567 hzq84 (by omega) (by decide) (by decide) ?_
              refine z_iload C 568 dL_registers_568 0 rfl ?_
              refine z_icmp_ne C 570 583 dL_registers_570 (by decide) (by first | assumption | omega) hzq6 (fun c570_718 => ?_) (fun c570_718 => ?_)
              · have hN : ¬ (0 < zV M 28 0 (4 * w.toNat + k.toNat) ∧ zV M 28 0 (4 * w.toNat + k.toNat) % 32 = zq6) := fun q => by omega
                refine z_iload C 583 dL_registers_583 12 rfl ?_
                refine z_istore (lv' := [(12, .int (zI f)), (11, .int (zI zq6)), (0, .ref (zad G 0 0)), (1, .int (zI act)), (2, .int (zI y)), (3, .int (zI z)), (4, .ref (zad G 26 0)), (5, .ref (zad G 27 0)), (6, .ref (zad G 28 0)), (7, .ref (zad G 30 0)), (8, .ref (zad G 32 0)), (9, .ref (zad G 36 0)), (10, .int (zI w)), (13, .int (zI mn)), (14, .int (zI k))]) C 585 dL_registers_585 (by decide) rfl ?_
                refine z_iload C 587 dL_registers_587 13 rfl ?_
                refine z_aload C 589 dL_registers_589 8 rfl ?_
                refine z_iconst C 591 dL_registers_591 ?_
                refine z_iload C 592 dL_registers_592 12 rfl ?_
                refine z_imul C 594 dL_registers_594 ?_
                refine z_iload C 595 dL_registers_595 14 rfl ?_
                refine z_iadd C 597 dL_registers_597 ?_
                refine z_ialdj C 598 (show 0 < 1 by omega) (zc28 ..) (4 * w.toNat + k.toNat) (by omega) (by first | assumption | omega) (by omega) (show ((4 * w) + k) < ((64 : Nat) : Int) by omega) dL_registers_598 (fun zq85 ezq85 hzq85 => ?_)
                refine z_if_le C 599 606 dL_registers_599 (by decide) hzq85 (fun c599_731 => ?_) (fun c599_731 => ?_)
                · exact absurd c599_731 (by omega)
                refine z_iconst C 602 dL_registers_602 ?_
                refine z_goto C 603 607 dL_registers_603 (by decide) ?_
                refine z_iadd C 607 dL_registers_607 ?_
                refine z_istore (lv' := [(13, .int (zI (mn + 1))), (12, .int (zI f)), (11, .int (zI zq6)), (0, .ref (zad G 0 0)), (1, .int (zI act)), (2, .int (zI y)), (3, .int (zI z)), (4, .ref (zad G 26 0)), (5, .ref (zad G 27 0)), (6, .ref (zad G 28 0)), (7, .ref (zad G 30 0)), (8, .ref (zad G 32 0)), (9, .ref (zad G 36 0)), (10, .int (zI w)), (14, .int (zI k))]) C 608 dL_registers_608 (by decide) rfl ?_
                refine z_iinc (lv' := [(14, .int (zI (k + 1))), (13, .int (zI (mn + 1))), (12, .int (zI f)), (11, .int (zI zq6)), (0, .ref (zad G 0 0)), (1, .int (zI act)), (2, .int (zI y)), (3, .int (zI z)), (4, .ref (zad G 26 0)), (5, .ref (zad G 27 0)), (6, .ref (zad G 28 0)), (7, .ref (zad G 30 0)), (8, .ref (zad G 32 0)), (9, .ref (zad G 36 0)), (10, .int (zI w))]) C 610 dL_registers_610 14 rfl (by decide) rfl ?_
                refine z_goto C 613 536 dL_registers_613 (by decide) ?_
                refine z_sub (lv' := [(11, .int (zI zq6)), (0, .ref (zad G 0 0)), (1, .int (zI act)), (2, .int (zI y)), (3, .int (zI z)), (4, .ref (zad G 26 0)), (5, .ref (zad G 27 0)), (6, .ref (zad G 28 0)), (7, .ref (zad G 30 0)), (8, .ref (zad G 32 0)), (9, .ref (zad G 36 0)), (10, .int (zI w)), (12, .int (zI f)), (13, .int (zI (mn + 1))), (14, .int (zI (k + 1)))]) [3, 4, 5, 6, 7, 8, 9, 10, 11, 12, 13, 14, 2, 1, 0] rfl ?_
                exact ihz10 f (mn + 1) (k + 1) (by omega) (by exact jatk_f (by omega) g1 hN) (by rw [zsm_s _ g0.1, ← g2, zind_t (by omega)]) (by omega) (by omega)
              refine z_iconst C 573 dL_registers_573 ?_
              refine z_iload C 574 dL_registers_574 11 rfl ?_
              refine z_imul C 576 dL_registers_576 ?_
              refine z_iload C 577 dL_registers_577 14 rfl ?_
              refine z_iadd C 579 dL_registers_579 ?_
              refine z_goto C 580 585 dL_registers_580 (by decide) ?_
              refine z_istore (lv' := [(12, .int (zI ((4 * w) + k))), (11, .int (zI zq6)), (0, .ref (zad G 0 0)), (1, .int (zI act)), (2, .int (zI y)), (3, .int (zI z)), (4, .ref (zad G 26 0)), (5, .ref (zad G 27 0)), (6, .ref (zad G 28 0)), (7, .ref (zad G 30 0)), (8, .ref (zad G 32 0)), (9, .ref (zad G 36 0)), (10, .int (zI w)), (13, .int (zI mn)), (14, .int (zI k))]) C 585 dL_registers_585 (by decide) rfl ?_
              refine z_iload C 587 dL_registers_587 13 rfl ?_
              refine z_aload C 589 dL_registers_589 8 rfl ?_
              refine z_iconst C 591 dL_registers_591 ?_
              refine z_iload C 592 dL_registers_592 12 rfl ?_
              refine z_imul C 594 dL_registers_594 ?_
              refine z_iload C 595 dL_registers_595 14 rfl ?_
              refine z_iadd C 597 dL_registers_597 ?_
              refine z_ialdj C 598 (show 0 < 1 by omega) (zc28 ..) (4 * w.toNat + k.toNat) (by omega) (by first | assumption | omega) (by omega) (show ((4 * w) + k) < ((64 : Nat) : Int) by omega) dL_registers_598 (fun zq86 ezq86 hzq86 => ?_)
              refine z_if_le C 599 606 dL_registers_599 (by decide) hzq86 (fun c599_755 => ?_) (fun c599_755 => ?_)
              · exact absurd c599_755 (by omega)
              refine z_iconst C 602 dL_registers_602 ?_
              refine z_goto C 603 607 dL_registers_603 (by decide) ?_
              refine z_iadd C 607 dL_registers_607 ?_
              refine z_istore (lv' := [(13, .int (zI (mn + 1))), (12, .int (zI ((4 * w) + k))), (11, .int (zI zq6)), (0, .ref (zad G 0 0)), (1, .int (zI act)), (2, .int (zI y)), (3, .int (zI z)), (4, .ref (zad G 26 0)), (5, .ref (zad G 27 0)), (6, .ref (zad G 28 0)), (7, .ref (zad G 30 0)), (8, .ref (zad G 32 0)), (9, .ref (zad G 36 0)), (10, .int (zI w)), (14, .int (zI k))]) C 608 dL_registers_608 (by decide) rfl ?_
              refine z_iinc (lv' := [(14, .int (zI (k + 1))), (13, .int (zI (mn + 1))), (12, .int (zI ((4 * w) + k))), (11, .int (zI zq6)), (0, .ref (zad G 0 0)), (1, .int (zI act)), (2, .int (zI y)), (3, .int (zI z)), (4, .ref (zad G 26 0)), (5, .ref (zad G 27 0)), (6, .ref (zad G 28 0)), (7, .ref (zad G 30 0)), (8, .ref (zad G 32 0)), (9, .ref (zad G 36 0)), (10, .int (zI w))]) C 610 dL_registers_610 14 rfl (by decide) rfl ?_
              refine z_goto C 613 536 dL_registers_613 (by decide) ?_
              refine z_sub (lv' := [(11, .int (zI zq6)), (0, .ref (zad G 0 0)), (1, .int (zI act)), (2, .int (zI y)), (3, .int (zI z)), (4, .ref (zad G 26 0)), (5, .ref (zad G 27 0)), (6, .ref (zad G 28 0)), (7, .ref (zad G 30 0)), (8, .ref (zad G 32 0)), (9, .ref (zad G 36 0)), (10, .int (zI w)), (12, .int (zI ((4 * w) + k))), (13, .int (zI (mn + 1))), (14, .int (zI (k + 1)))]) [3, 4, 5, 6, 7, 8, 9, 10, 11, 12, 13, 14, 2, 1, 0] rfl ?_
              exact ihz10 ((4 * w) + k) (mn + 1) (k + 1) (by omega) (by exact jatk_t (by omega) rfl (by omega) (by omega)) (by rw [zsm_s _ g0.1, ← g2, zind_t (by omega)]) (by omega) (by omega)
          refine z_sub (lv' := [(11, .int (zI zq6)), (0, .ref (zad G 0 0)), (1, .int (zI act)), (2, .int (zI y)), (3, .int (zI z)), (4, .ref (zad G 26 0)), (5, .ref (zad G 27 0)), (6, .ref (zad G 28 0)), (7, .ref (zad G 30 0)), (8, .ref (zad G 32 0)), (9, .ref (zad G 36 0)), (10, .int (zI w)), (12, .int (zI (-1))), (13, .int (zI 0)), (14, .int (zI 0))]) [3, 4, 5, 6, 7, 8, 9, 10, 11, 12, 13, 14, 2, 1, 0] rfl ?_
          exact L536_9 (((4 - 0 : Int)).toNat + 1) (-1) 0 0 (by omega) (by exact jatk_0 _ _ _) (by rfl) (by omega) (by omega)
        refine z_aload_n C 481 dL_registers_481 rfl 1 rfl ?_
        refine z_iload C 482 dL_registers_482 11 rfl ?_
        refine z_bipush C 484 dL_registers_484 (by decide +kernel) ?_
        refine z_iconst C 486 dL_registers_486 ?_
        refine z_iconst C 487 dL_registers_487 ?_
        refine zs_call C 488 (n := 5) (As := [.ref (zad G 0 0), .int (zI w), .int (zI 32), .int (zI 0), .int (zI 1)]) (rest := []) (v_addLocator l hfl G M hw w 32 0 1 (by first | assumption | decide | omega) (by first | assumption | decide | omega) (by first | assumption | decide | omega) (by first | assumption | decide | omega)) wm_L_108 wcw_L_addLocator wini_L wst_L_addLocator ⟨by decide, by decide, by decide⟩ ⟨by decide, by decide⟩ rfl (Nat.le_of_ble_eq_true rfl) ⟨by decide, by decide⟩ dL_registers_488 rfl (fun zq87 Mz88 hzq87 hPz87 => ?_)
        refine zZ_cs (k := 6) (n := 36) (by decide) (by decide) ?_
        obtain ⟨ezzq87, emzq87⟩ := hPz87.1 (fun q => by have q1 : w < zV M 1 0 1 := q.2; omega)
        subst ezzq87
        have emzq87 := emzq87.symm
        subst emzq87
        refine z_bipush C 491 dL_registers_491 (by decide +kernel) ?_
        refine z_icmp_ne C 493 525 dL_registers_493 (by decide) (by decide) (by decide) (fun c493_778 => ?_) (fun c493_778 => ?_)
        · exact absurd c493_778 (by decide)
        refine z_aload_n C 496 dL_registers_496 rfl 1 rfl ?_
        refine z_iload C 497 dL_registers_497 11 rfl ?_
        refine z_iconst C 499 dL_registers_499 ?_
        refine z_iconst C 500 dL_registers_500 ?_
        refine zs_call C 501 (n := 4) (As := [.ref (zad G 0 0), .int (zI w), .int (zI (-1)), .int (zI 0)]) (rest := []) (v_move l hfl G M hw w (-1) 0 (by first | assumption | decide | omega) (by first | assumption | decide | omega) (by first | assumption | decide | omega)) wm_L_111 wcw_L_move wini_L wst_L_move ⟨by decide, by decide, by decide⟩ ⟨by decide, by decide⟩ rfl (Nat.le_of_ble_eq_true rfl) ⟨by decide, by decide⟩ dL_registers_501 rfl (fun zq89 Mz90 hzq89 hPz89 => ?_)
        refine zZ_cs (k := 12) (n := 72) (by decide) (by decide) ?_
        obtain ⟨ezzq89, emzq89⟩ := hPz89.1 (fun q => by have q1 : w < zV M 1 0 1 := q.2; omega)
        subst ezzq89
        have emzq89 := emzq89.symm
        subst emzq89
        refine z_bipush C 504 dL_registers_504 (by decide +kernel) ?_
        refine z_icmp_ne C 506 525 dL_registers_506 (by decide) (by decide) (by decide) (fun c506_791 => ?_) (fun c506_791 => ?_)
        · exact absurd c506_791 (by decide)
        refine z_aload_n C 509 dL_registers_509 rfl 1 rfl ?_
        refine z_iconst C 510 dL_registers_510 ?_
        refine z_bipush C 511 dL_registers_511 (by decide +kernel) ?_
        refine zs_call C 513 (n := 3) (As := [.ref (zad G 0 0), .int (zI (-1)), .int (zI 32)]) (rest := []) (v_removeLocator l hfl G M hw (-1) 32 (by first | assumption | decide | omega) (by first | assumption | decide | omega)) wm_L_114 wcw_L_removeLocator wini_L wst_L_removeLocator ⟨by decide, by decide, by decide⟩ ⟨by decide, by decide⟩ rfl (Nat.le_of_ble_eq_true rfl) ⟨by decide, by decide⟩ dL_registers_513 rfl (fun zq91 Mz92 hzq91 hPz91 => ?_)
        refine zZ_cs (k := 16) (n := 96) (by decide) (by decide) ?_
        obtain ⟨ezzq91, emzq91⟩ := hPz91.1 (fun q => by omega)
        subst ezzq91
        have emzq91 := emzq91.symm
        subst emzq91
        refine z_bipush C 516 dL_registers_516 (by decide +kernel) ?_
        refine z_icmp_ne C 518 525 dL_registers_518 (by decide) (by decide) (by decide) (fun c518_803 => ?_) (fun c518_803 => ?_)
        · exact absurd c518_803 (by decide)
        refine z_iconst C 521 dL_registers_521 ?_
        refine z_goto C 522 526 dL_registers_522 (by decide) ?_
        refine z_zret C 526 dL_registers_526 (by decide) (by decide) (by decide) ?_
        exact ⟨rfl, iN_up h (by omega)⟩
      refine z_iload C 324 dL_registers_324 10 rfl ?_
      refine z_aload C 326 dL_registers_326 9 rfl ?_
      refine z_iconst C 328 dL_registers_328 ?_
      refine z_ialdj C 329 (show 0 < 1 by omega) (zc36 ..) 3 rfl (by decide) (by omega) (show 3 < ((12 : Nat) : Int) by omega) dL_registers_329 (fun zq93 ezq93 hzq93 => ?_)
      refine z_icmp_ne C 330 360 dL_registers_330 (by decide) (by first | assumption | omega) hzq93 (fun c330_812 => ?_) (fun c330_812 => ?_)
      · have hmw := iA_m hA (i := w.toNat) (by omega)
        refine z_aload C 360 dL_registers_360 5 rfl ?_
        refine z_iload C 362 dL_registers_362 10 rfl ?_
        refine z_ialdj C 364 (show 0 < 1 by omega) (zc27 ..) w.toNat rfl (by first | assumption | omega) (by omega) (show w < ((16 : Nat) : Int) by omega) dL_registers_364 (fun zq94 ezq94 hzq94 => ?_)
        refine z_if_ne C 365 385 dL_registers_365 (by decide) hzq94 (fun c365_818 => ?_) (fun c365_818 => ?_)
        · have hg0 : zV M 3 w.toNat 3 = 0 := hmw.2.2.1.mp (by have := hmw.2.2.2.2; omega)
          refine z_aload C 385 dL_registers_385 5 rfl ?_
          refine z_iload C 387 dL_registers_387 10 rfl ?_
          refine z_iconst C 389 dL_registers_389 ?_
          refine z_iastj C 390 (show 0 < 1 by omega) (zc27 ..) w.toNat rfl (by first | assumption | omega) (by omega) (show w < ((16 : Nat) : Int) by omega) (zc27 ..) dL_registers_390 ?_
          generalize hD1 : zup M 27 0 w.toNat (zI 0) = D1
          have r1 : i_rf M D1 := by rw [← hD1]; exact (i_rf.r M).u (by decide)
          have hWd : iW n D1 := iW_c hW (Nat.le_refl n) (fun κ j q => by rw [← hD1]; repeat rw [zV_ne (by omega)])
          have hd6 : zV D1 36 0 6 = zV M 36 0 6 := by rw [← hD1]; repeat rw [zV_ne (by decide)]
          have hd3 : zV D1 36 0 3 = zV M 36 0 3 := by rw [← hD1]; repeat rw [zV_ne (by decide)]
          have hm26 : zV D1 26 0 w.toNat = zV M 26 0 w.toNat := by rw [← hD1]; repeat rw [zV_ne (by decide)]
          have hmx : zV M 26 0 w.toNat = 32 * zV M 4 w.toNat 0 + zV M 4 w.toNat 1 := hmw.2.1
          refine z_aload C 391 dL_registers_391 7 rfl ?_
          refine z_aload C 393 dL_registers_393 8 rfl ?_
          refine z_aload C 395 dL_registers_395 9 rfl ?_
          refine z_aload C 397 dL_registers_397 4 rfl ?_
          refine z_iload C 399 dL_registers_399 10 rfl ?_
          refine z_ialdj C 401 (show 0 < 1 by omega) (zc26 ..) w.toNat rfl (by first | assumption | omega) (by omega) (show w < ((16 : Nat) : Int) by omega) dL_registers_401 (fun zq95 ezq95 hzq95 => ?_)
          refine z_callSv C 402 (As := [.ref (zad G 30 0), .ref (zad G 32 0), .ref (zad G 36 0), .int (zI zq95)]) (rest := []) (c_L_solicit l G D1 hWd (zV M 4 w.toNat 0) (zV M 4 w.toNat 1) zq95 (by omega) hmw.1.1 (by omega)) (zS_of 4 C wm_L_102 wc_L_solicit wini_L wst_L_solicit ⟨by decide, by decide, by decide⟩ ⟨by decide, by decide⟩) rfl (Nat.le_of_ble_eq_true rfl) ⟨by decide, by decide⟩ dL_registers_402 rfl (fun Mz97 hPz96 => ?_)
          have hsk := hPz96
          have r2 := r1.t (i_rf.jsk hsk)
          have hw2 := i_WC hw r2
          have hgd3 : zV Mz97 36 0 3 = zV D1 36 0 3 := zV_of (hsk.2.2.2 36 0 3 (by omega) (by omega))
          refine z_iconst C 405 dL_registers_405 ?_
          refine z_istore (lv' := [(11, .int (zI 0)), (0, .ref (zad G 0 0)), (1, .int (zI act)), (2, .int (zI y)), (3, .int (zI z)), (4, .ref (zad G 26 0)), (5, .ref (zad G 27 0)), (6, .ref (zad G 28 0)), (7, .ref (zad G 30 0)), (8, .ref (zad G 32 0)), (9, .ref (zad G 36 0)), (10, .int (zI w))]) C 406 dL_registers_406 (by decide) rfl ?_
          refine z_iconst C 408 dL_registers_408 ?_
          refine z_istore (lv' := [(12, .int (zI 0)), (11, .int (zI 0)), (0, .ref (zad G 0 0)), (1, .int (zI act)), (2, .int (zI y)), (3, .int (zI z)), (4, .ref (zad G 26 0)), (5, .ref (zad G 27 0)), (6, .ref (zad G 28 0)), (7, .ref (zad G 30 0)), (8, .ref (zad G 32 0)), (9, .ref (zad G 36 0)), (10, .int (zI w))]) C 409 dL_registers_409 (by decide) rfl ?_
          have L411_98 : ∀ (kz98 : Nat) (lf : Int) (k : Int), (0 ≤ k ∧ k ≤ zV M 1 0 1) → (lf = zsm (fun k => zind (0 < zV Mz97 27 0 k)) k.toNat) → (zV M 1 0 1 - k) < (kz98 : Int) → zZ p l e (zR 11 40 240) s m ([.ref (zad G 0 0), .int (zI act), .int (zI y), .int (zI z), .ref (zad G 26 0), .ref (zad G 27 0), .ref (zad G 28 0), .ref (zad G 30 0), .ref (zad G 32 0), .ref (zad G 36 0)] : List Value).toArray below meth c G 17 (MQ below (zQi G (fun x M' => x = 1 ∧ iN (n + 1) M' M')) ([.ref (zad G 0 0), .int (zI act), .int (zI y), .int (zI z), .ref (zad G 26 0), .ref (zad G 27 0), .ref (zad G 28 0), .ref (zad G 30 0), .ref (zad G 32 0), .ref (zad G 36 0)] : List Value).toArray s 40 240 (zA G)) Mz97 0 0 411 [(0, .ref (zad G 0 0)), (1, .int (zI act)), (2, .int (zI y)), (3, .int (zI z)), (4, .ref (zad G 26 0)), (5, .ref (zad G 27 0)), (6, .ref (zad G 28 0)), (7, .ref (zad G 30 0)), (8, .ref (zad G 32 0)), (9, .ref (zad G 36 0)), (10, .int (zI w)), (11, .int (zI lf)), (12, .int (zI k))] [] := by
            intro kz98
            induction kz98 with
            | zero =>
              intro lf k g0 g1 hk
              exact absurd hk (by omega)
            | succ kz98 ihz99 =>
              intro lf k g0 g1 hk
              have hl9 := zsm_01 (f := fun k => zind (0 < zV Mz97 27 0 k)) (fun _ => zind_rg _) k.toNat
              refine z_iload C 411 dL_registers_411 12 rfl ?_
              refine z_aload C 413 dL_registers_413 9 rfl ?_
              refine z_iconst C 415 dL_registers_415 ?_
              refine z_ialdj C 416 (show 0 < 1 by omega) (zc36 ..) 3 rfl (by decide) (by omega) (show 3 < ((12 : Nat) : Int) by omega) dL_registers_416 (fun zq100 ezq100 hzq100 => ?_)
              refine z_icmp_ge C 417 444 dL_registers_417 (by decide) (by first | assumption | omega) hzq100 (fun c417_860 => ?_) (fun c417_860 => ?_)
              · refine z_aload_n C 444 dL_registers_444 rfl 0 rfl ?_
                refine z_iload C 445 dL_registers_445 10 rfl ?_
                refine zs_call C 447 (n := 2) (As := [.ref (zad G 0 0), .int (zI w)]) (rest := []) (v_withdraw l hfl G Mz97 hw2 w (by first | assumption | decide | omega)) wm_L_106 wcw_L_withdraw wini_L wst_L_withdraw ⟨by decide, by decide, by decide⟩ ⟨by decide, by decide⟩ rfl (Nat.le_of_ble_eq_true rfl) ⟨by decide, by decide⟩ dL_registers_447 rfl (fun zq101 Mz102 hzq101 hPz101 => ?_)
                refine zZ_cs (k := 2) (n := 12) (by decide) (by decide) ?_
                have hs9 := hPz101.2.2 ⟨by omega, by show w < zV Mz97 1 0 1; rw [r2.v (by decide)]; omega⟩ (by rw [r2.v (by decide)]; exact hg0)
                have hN9 := i_wdr h (m := w.toNat) (by omega) hg0 hD1.symm hsk hs9.1
                have hl8 := i_left hN9.1
                have hx9 : zq101 = lf := by
                  rw [hs9.2, hl8, g1]
                  have hz1 : (zV Mz102 1 0 1).toNat = k.toNat := by
                    have hz2 : zV Mz102 1 0 1 = zV M 1 0 1 := by rw [zV_of (hs9.1.2.2.2 1 0 1 (by omega) (by omega)), zV_ne (by decide)]; exact r2.v (by decide)
                    omega
                  rw [hz1]
                  exact zsm_ext fun k8 _ => by rw [zV_of (hs9.1.2.2.2 27 0 k8 (by omega) (by omega)), zV_ne (by decide)]
                refine z_iload C 450 dL_registers_450 11 rfl ?_
                refine z_icmp_ne C 452 459 dL_registers_452 (by decide) hzq101 (by first | assumption | omega) (fun c452_877 => ?_) (fun c452_877 => ?_)
                · exact absurd hx9 c452_877
                refine z_iconst C 455 dL_registers_455 ?_
                refine z_goto C 456 460 dL_registers_456 (by decide) ?_
                refine z_zret C 460 dL_registers_460 (by decide) (by decide) (by decide) ?_
                exact ⟨rfl, hN9⟩
              have hk16 : k < 16 := by omega
              refine z_iload C 420 dL_registers_420 11 rfl ?_
              refine z_aload C 422 dL_registers_422 5 rfl ?_
              refine z_iload C 424 dL_registers_424 12 rfl ?_
              refine z_ialdj C 426 (show 0 < 1 by omega) (zc27 ..) k.toNat rfl (by first | assumption | omega) (by omega) (show k < ((16 : Nat) : Int) by omega) dL_registers_426 (fun zq103 ezq103 hzq103 => ?_)
              refine z_if_le C 427 434 dL_registers_427 (by decide) hzq103 (fun c427_887 => ?_) (fun c427_887 => ?_)
              · refine z_iconst C 434 dL_registers_434 ?_
                refine z_iadd C 435 dL_registers_435 ?_
                refine z_istore (lv' := [(11, .int (zI (lf + 0))), (0, .ref (zad G 0 0)), (1, .int (zI act)), (2, .int (zI y)), (3, .int (zI z)), (4, .ref (zad G 26 0)), (5, .ref (zad G 27 0)), (6, .ref (zad G 28 0)), (7, .ref (zad G 30 0)), (8, .ref (zad G 32 0)), (9, .ref (zad G 36 0)), (10, .int (zI w)), (12, .int (zI k))]) C 436 dL_registers_436 (by decide) rfl ?_
                refine z_iinc (lv' := [(12, .int (zI (k + 1))), (11, .int (zI (lf + 0))), (0, .ref (zad G 0 0)), (1, .int (zI act)), (2, .int (zI y)), (3, .int (zI z)), (4, .ref (zad G 26 0)), (5, .ref (zad G 27 0)), (6, .ref (zad G 28 0)), (7, .ref (zad G 30 0)), (8, .ref (zad G 32 0)), (9, .ref (zad G 36 0)), (10, .int (zI w))]) C 438 dL_registers_438 12 rfl (by decide) rfl ?_
                refine z_goto C 441 411 dL_registers_441 (by decide) ?_
                refine z_sub (lv' := [(0, .ref (zad G 0 0)), (1, .int (zI act)), (2, .int (zI y)), (3, .int (zI z)), (4, .ref (zad G 26 0)), (5, .ref (zad G 27 0)), (6, .ref (zad G 28 0)), (7, .ref (zad G 30 0)), (8, .ref (zad G 32 0)), (9, .ref (zad G 36 0)), (10, .int (zI w)), (11, .int (zI (lf + 0))), (12, .int (zI (k + 1)))]) [2, 3, 4, 5, 6, 7, 8, 9, 10, 11, 12, 1, 0] rfl ?_
                exact ihz99 (lf + 0) (k + 1) (by omega) (by rw [zsm_s _ g0.1, ← g1, zind_f (by omega)]) (by omega)
              refine z_iconst C 430 dL_registers_430 ?_
              refine z_goto C 431 435 dL_registers_431 (by decide) ?_
              refine z_iadd C 435 dL_registers_435 ?_
              refine z_istore (lv' := [(11, .int (zI (lf + 1))), (0, .ref (zad G 0 0)), (1, .int (zI act)), (2, .int (zI y)), (3, .int (zI z)), (4, .ref (zad G 26 0)), (5, .ref (zad G 27 0)), (6, .ref (zad G 28 0)), (7, .ref (zad G 30 0)), (8, .ref (zad G 32 0)), (9, .ref (zad G 36 0)), (10, .int (zI w)), (12, .int (zI k))]) C 436 dL_registers_436 (by decide) rfl ?_
              refine z_iinc (lv' := [(12, .int (zI (k + 1))), (11, .int (zI (lf + 1))), (0, .ref (zad G 0 0)), (1, .int (zI act)), (2, .int (zI y)), (3, .int (zI z)), (4, .ref (zad G 26 0)), (5, .ref (zad G 27 0)), (6, .ref (zad G 28 0)), (7, .ref (zad G 30 0)), (8, .ref (zad G 32 0)), (9, .ref (zad G 36 0)), (10, .int (zI w))]) C 438 dL_registers_438 12 rfl (by decide) rfl ?_
              refine z_goto C 441 411 dL_registers_441 (by decide) ?_
              refine z_sub (lv' := [(0, .ref (zad G 0 0)), (1, .int (zI act)), (2, .int (zI y)), (3, .int (zI z)), (4, .ref (zad G 26 0)), (5, .ref (zad G 27 0)), (6, .ref (zad G 28 0)), (7, .ref (zad G 30 0)), (8, .ref (zad G 32 0)), (9, .ref (zad G 36 0)), (10, .int (zI w)), (11, .int (zI (lf + 1))), (12, .int (zI (k + 1)))]) [2, 3, 4, 5, 6, 7, 8, 9, 10, 11, 12, 1, 0] rfl ?_
              exact ihz99 (lf + 1) (k + 1) (by omega) (by rw [zsm_s _ g0.1, ← g1, zind_t (by omega)]) (by omega)
          refine z_sub (lv' := [(0, .ref (zad G 0 0)), (1, .int (zI act)), (2, .int (zI y)), (3, .int (zI z)), (4, .ref (zad G 26 0)), (5, .ref (zad G 27 0)), (6, .ref (zad G 28 0)), (7, .ref (zad G 30 0)), (8, .ref (zad G 32 0)), (9, .ref (zad G 36 0)), (10, .int (zI w)), (11, .int (zI 0)), (12, .int (zI 0))]) [2, 3, 4, 5, 6, 7, 8, 9, 10, 11, 12, 1, 0] rfl ?_
          exact L411_98 (((zV M 1 0 1 - 0 : Int)).toNat + 1) 0 0 (by omega) (by rfl) (by omega)
        refine z_aload_n C 368 dL_registers_368 rfl 0 rfl ?_
        refine z_iload C 369 dL_registers_369 10 rfl ?_
        refine zs_call C 371 (n := 2) (As := [.ref (zad G 0 0), .int (zI w)]) (rest := []) (v_withdraw l hfl G M hw w (by first | assumption | decide | omega)) wm_L_106 wcw_L_withdraw wini_L wst_L_withdraw ⟨by decide, by decide, by decide⟩ ⟨by decide, by decide⟩ rfl (Nat.le_of_ble_eq_true rfl) ⟨by decide, by decide⟩ dL_registers_371 rfl (fun zq104 Mz105 hzq104 hPz104 => ?_)
        refine zZ_cs (k := 2) (n := 12) (by decide) (by decide) ?_
        obtain ⟨ezzq104, emzq104⟩ := hPz104.2.1 (show 0 ≤ w ∧ w < zmn M from ⟨by omega, by show w < zV M 1 0 1; omega⟩) (hmw.2.2.2.1.mp (by omega))
        subst ezzq104
        have emzq104 := emzq104.symm
        subst emzq104
        refine z_bipush C 374 dL_registers_374 (by decide +kernel) ?_
        refine z_icmp_ne C 376 383 dL_registers_376 (by decide) (by decide) (by decide) (fun c376_913 => ?_) (fun c376_913 => ?_)
        · exact absurd c376_913 (by decide)
        refine z_iconst C 379 dL_registers_379 ?_
        refine z_goto C 380 384 dL_registers_380 (by decide) ?_
        refine z_zret C 384 dL_registers_384 (by decide) (by decide) (by decide) ?_
        exact ⟨rfl, iN_up h (by omega)⟩
      refine z_aload_n C 333 dL_registers_333 rfl 0 rfl ?_
      refine z_iload C 334 dL_registers_334 10 rfl ?_
      refine zs_call C 336 (n := 2) (As := [.ref (zad G 0 0), .int (zI w)]) (rest := []) (v_withdraw l hfl G M hw w (by first | assumption | decide | omega)) wm_L_106 wcw_L_withdraw wini_L wst_L_withdraw ⟨by decide, by decide, by decide⟩ ⟨by decide, by decide⟩ rfl (Nat.le_of_ble_eq_true rfl) ⟨by decide, by decide⟩ dL_registers_336 rfl (fun zq106 Mz107 hzq106 hPz106 => ?_)
      refine zZ_cs (k := 2) (n := 12) (by decide) (by decide) ?_
      obtain ⟨ezzq106, emzq106⟩ := hPz106.1 (fun q => by have q1 : w < zV M 1 0 1 := q.2; omega)
      subst ezzq106
      have emzq106 := emzq106.symm
      subst emzq106
      refine z_bipush C 339 dL_registers_339 (by decide +kernel) ?_
      refine z_icmp_ne C 341 358 dL_registers_341 (by decide) (by decide) (by decide) (fun c341_927 => ?_) (fun c341_927 => ?_)
      · exact absurd c341_927 (by decide)
      refine z_aload_n C 344 dL_registers_344 rfl 0 rfl ?_
      refine z_iconst C 345 dL_registers_345 ?_
      refine zs_call C 346 (n := 2) (As := [.ref (zad G 0 0), .int (zI (-1))]) (rest := []) (v_withdraw l hfl G M hw (-1) (by first | assumption | decide | omega)) wm_L_106 wcw_L_withdraw wini_L wst_L_withdraw ⟨by decide, by decide, by decide⟩ ⟨by decide, by decide⟩ rfl (Nat.le_of_ble_eq_true rfl) ⟨by decide, by decide⟩ dL_registers_346 rfl (fun zq108 Mz109 hzq108 hPz108 => ?_)
      refine zZ_cs (k := 4) (n := 24) (by decide) (by decide) ?_
      obtain ⟨ezzq108, emzq108⟩ := hPz108.1 (fun q => by omega)
      subst ezzq108
      have emzq108 := emzq108.symm
      subst emzq108
      refine z_bipush C 349 dL_registers_349 (by decide +kernel) ?_
      refine z_icmp_ne C 351 358 dL_registers_351 (by decide) (by decide) (by decide) (fun c351_938 => ?_) (fun c351_938 => ?_)
      · exact absurd c351_938 (by decide)
      refine z_iconst C 354 dL_registers_354 ?_
      refine z_goto C 355 359 dL_registers_355 (by decide) ?_
      refine z_zret C 359 dL_registers_359 (by decide) (by decide) (by decide) ?_
      exact ⟨rfl, iN_up h (by omega)⟩
    refine z_iconst C 266 dL_registers_266 ?_
    refine z_istore (lv' := [(11, .int (zI 0)), (10, .int (zI zq2)), (0, .ref (zad G 0 0)), (1, .int (zI act)), (2, .int (zI y)), (3, .int (zI z)), (4, .ref (zad G 26 0)), (5, .ref (zad G 27 0)), (6, .ref (zad G 28 0)), (7, .ref (zad G 30 0)), (8, .ref (zad G 32 0)), (9, .ref (zad G 36 0))]) C 267 dL_registers_267 (by decide) rfl ?_
    have L269_110 : ∀ (kz110 : Nat) (w : Int) (k : Int), (0 ≤ k ∧ k ≤ zV M 1 0 1) → (0 ≤ w ∧ w ≤ zV M 1 0 1) → (zV M 1 0 1 - k) < (kz110 : Int) → zZ p l e (zR 11 40 240) s m ([.ref (zad G 0 0), .int (zI act), .int (zI y), .int (zI z), .ref (zad G 26 0), .ref (zad G 27 0), .ref (zad G 28 0), .ref (zad G 30 0), .ref (zad G 32 0), .ref (zad G 36 0)] : List Value).toArray below meth c G 17 (MQ below (zQi G (fun x M' => x = 1 ∧ iN (n + 1) M' M')) ([.ref (zad G 0 0), .int (zI act), .int (zI y), .int (zI z), .ref (zad G 26 0), .ref (zad G 27 0), .ref (zad G 28 0), .ref (zad G 30 0), .ref (zad G 32 0), .ref (zad G 36 0)] : List Value).toArray s 40 240 (zA G)) M 0 0 269 [(0, .ref (zad G 0 0)), (1, .int (zI act)), (2, .int (zI y)), (3, .int (zI z)), (4, .ref (zad G 26 0)), (5, .ref (zad G 27 0)), (6, .ref (zad G 28 0)), (7, .ref (zad G 30 0)), (8, .ref (zad G 32 0)), (9, .ref (zad G 36 0)), (10, .int (zI w)), (11, .int (zI k))] [] := by
      intro kz110
      induction kz110 with
      | zero =>
        intro w k g0 g1 hk
        exact absurd hk (by omega)
      | succ kz110 ihz111 =>
        intro w k g0 g1 hk
        refine z_iload C 269 dL_registers_269 11 rfl ?_
        refine z_aload C 271 dL_registers_271 9 rfl ?_
        refine z_iconst C 273 dL_registers_273 ?_
        refine z_ialdj C 274 (show 0 < 1 by omega) (zc36 ..) 3 rfl (by decide) (by omega) (show 3 < ((12 : Nat) : Int) by omega) dL_registers_274 (fun zq112 ezq112 hzq112 => ?_)
        refine z_icmp_ge C 275 319 dL_registers_275 (by decide) (by first | assumption | omega) hzq112 (fun c275_958 => ?_) (fun c275_958 => ?_)
        · refine z_sub (lv' := [(0, .ref (zad G 0 0)), (1, .int (zI act)), (2, .int (zI y)), (3, .int (zI z)), (4, .ref (zad G 26 0)), (5, .ref (zad G 27 0)), (6, .ref (zad G 28 0)), (7, .ref (zad G 30 0)), (8, .ref (zad G 32 0)), (9, .ref (zad G 36 0)), (10, .int (zI w))]) [0, 1, 2, 3, 4, 5, 6, 7, 8, 9, 10] rfl ?_
          exact J319_4 w (by omega)
        refine z_iload_n C 278 dL_registers_278 rfl 3 rfl ?_
        refine z_bipush C 279 dL_registers_279 (by decide +kernel) ?_
        refine z_iand_any C 281 dL_registers_281 (fun zv113 hzv113 => ?_)
        refine z_if_le C 282 319 dL_registers_282 (by decide) hzv113 (fun c282_964 => ?_) (fun c282_964 => ?_)
        · refine z_sub (lv' := [(0, .ref (zad G 0 0)), (1, .int (zI act)), (2, .int (zI y)), (3, .int (zI z)), (4, .ref (zad G 26 0)), (5, .ref (zad G 27 0)), (6, .ref (zad G 28 0)), (7, .ref (zad G 30 0)), (8, .ref (zad G 32 0)), (9, .ref (zad G 36 0)), (10, .int (zI w))]) [0, 1, 2, 3, 4, 5, 6, 7, 8, 9, 10] rfl ?_
          exact J319_4 w (by omega)
        refine z_iload C 285 dL_registers_285 10 rfl ?_
        refine z_aload C 287 dL_registers_287 9 rfl ?_
        refine z_iconst C 289 dL_registers_289 ?_
        refine z_ialdj C 290 (show 0 < 1 by omega) (zc36 ..) 3 rfl (by decide) (by omega) (show 3 < ((12 : Nat) : Int) by omega) dL_registers_290 (fun zq114 ezq114 hzq114 => ?_)
        refine z_icmp_eq C 291 302 dL_registers_291 (by decide) (by first | assumption | omega) hzq114 (fun c291_971 => ?_) (fun c291_971 => ?_)
        · refine z_iload C 302 dL_registers_302 10 rfl ?_
          refine z_iconst C 304 dL_registers_304 ?_
          refine z_iadd C 305 dL_registers_305 ?_
          refine z_aload C 306 dL_registers_306 9 rfl ?_
          refine z_iconst C 308 dL_registers_308 ?_
          refine z_ialdj C 309 (show 0 < 1 by omega) (zc36 ..) 3 rfl (by decide) (by omega) (show 3 < ((12 : Nat) : Int) by omega) dL_registers_309 (fun zq115 ezq115 hzq115 => ?_)
          refine z_irem C 310 dL_registers_310 (by first | assumption | omega) (by omega) hzq115 (by omega) ?_
          have hm0 := Int.emod_nonneg (w + 1) (show zq115 ≠ 0 by omega)
          have hm1 := Int.emod_lt_of_pos (w + 1) (show 0 < zq115 by omega)
          refine z_istore (lv' := [(10, .int (zI ((w + 1) % zq115))), (0, .ref (zad G 0 0)), (1, .int (zI act)), (2, .int (zI y)), (3, .int (zI z)), (4, .ref (zad G 26 0)), (5, .ref (zad G 27 0)), (6, .ref (zad G 28 0)), (7, .ref (zad G 30 0)), (8, .ref (zad G 32 0)), (9, .ref (zad G 36 0)), (11, .int (zI k))]) C 311 dL_registers_311 (by decide) rfl ?_
          refine z_iinc (lv' := [(11, .int (zI (k + 1))), (10, .int (zI ((w + 1) % zq115))), (0, .ref (zad G 0 0)), (1, .int (zI act)), (2, .int (zI y)), (3, .int (zI z)), (4, .ref (zad G 26 0)), (5, .ref (zad G 27 0)), (6, .ref (zad G 28 0)), (7, .ref (zad G 30 0)), (8, .ref (zad G 32 0)), (9, .ref (zad G 36 0))]) C 313 dL_registers_313 11 rfl (by decide) rfl ?_
          refine z_goto C 316 269 dL_registers_316 (by decide) ?_
          refine z_sub (lv' := [(0, .ref (zad G 0 0)), (1, .int (zI act)), (2, .int (zI y)), (3, .int (zI z)), (4, .ref (zad G 26 0)), (5, .ref (zad G 27 0)), (6, .ref (zad G 28 0)), (7, .ref (zad G 30 0)), (8, .ref (zad G 32 0)), (9, .ref (zad G 36 0)), (10, .int (zI ((w + 1) % zq115))), (11, .int (zI (k + 1)))]) [2, 3, 4, 5, 6, 7, 8, 9, 10, 11, 1, 0] rfl ?_
          exact ihz111 ((w + 1) % zq115) (k + 1) (by omega) (by omega) (by omega)
        refine z_aload C 294 dL_registers_294 5 rfl ?_
        refine z_iload C 296 dL_registers_296 10 rfl ?_
        refine z_ialdj C 298 (show 0 < 1 by omega) (zc27 ..) w.toNat rfl (by first | assumption | omega) (by omega) (show w < ((16 : Nat) : Int) by omega) dL_registers_298 (fun zq116 ezq116 hzq116 => ?_)
        refine z_if_ne C 299 319 dL_registers_299 (by decide) hzq116 (fun c299_989 => ?_) (fun c299_989 => ?_)
        · refine z_sub (lv' := [(0, .ref (zad G 0 0)), (1, .int (zI act)), (2, .int (zI y)), (3, .int (zI z)), (4, .ref (zad G 26 0)), (5, .ref (zad G 27 0)), (6, .ref (zad G 28 0)), (7, .ref (zad G 30 0)), (8, .ref (zad G 32 0)), (9, .ref (zad G 36 0)), (10, .int (zI w))]) [0, 1, 2, 3, 4, 5, 6, 7, 8, 9, 10] rfl ?_
          exact J319_4 w (by omega)
        refine z_iload C 302 dL_registers_302 10 rfl ?_
        refine z_iconst C 304 dL_registers_304 ?_
        refine z_iadd C 305 dL_registers_305 ?_
        refine z_aload C 306 dL_registers_306 9 rfl ?_
        refine z_iconst C 308 dL_registers_308 ?_
        refine z_ialdj C 309 (show 0 < 1 by omega) (zc36 ..) 3 rfl (by decide) (by omega) (show 3 < ((12 : Nat) : Int) by omega) dL_registers_309 (fun zq117 ezq117 hzq117 => ?_)
        refine z_irem C 310 dL_registers_310 (by first | assumption | omega) (by omega) hzq117 (by omega) ?_
        have hm0 := Int.emod_nonneg (w + 1) (show zq117 ≠ 0 by omega)
        have hm1 := Int.emod_lt_of_pos (w + 1) (show 0 < zq117 by omega)
        refine z_istore (lv' := [(10, .int (zI ((w + 1) % zq117))), (0, .ref (zad G 0 0)), (1, .int (zI act)), (2, .int (zI y)), (3, .int (zI z)), (4, .ref (zad G 26 0)), (5, .ref (zad G 27 0)), (6, .ref (zad G 28 0)), (7, .ref (zad G 30 0)), (8, .ref (zad G 32 0)), (9, .ref (zad G 36 0)), (11, .int (zI k))]) C 311 dL_registers_311 (by decide) rfl ?_
        refine z_iinc (lv' := [(11, .int (zI (k + 1))), (10, .int (zI ((w + 1) % zq117))), (0, .ref (zad G 0 0)), (1, .int (zI act)), (2, .int (zI y)), (3, .int (zI z)), (4, .ref (zad G 26 0)), (5, .ref (zad G 27 0)), (6, .ref (zad G 28 0)), (7, .ref (zad G 30 0)), (8, .ref (zad G 32 0)), (9, .ref (zad G 36 0))]) C 313 dL_registers_313 11 rfl (by decide) rfl ?_
        refine z_goto C 316 269 dL_registers_316 (by decide) ?_
        refine z_sub (lv' := [(0, .ref (zad G 0 0)), (1, .int (zI act)), (2, .int (zI y)), (3, .int (zI z)), (4, .ref (zad G 26 0)), (5, .ref (zad G 27 0)), (6, .ref (zad G 28 0)), (7, .ref (zad G 30 0)), (8, .ref (zad G 32 0)), (9, .ref (zad G 36 0)), (10, .int (zI ((w + 1) % zq117))), (11, .int (zI (k + 1)))]) [2, 3, 4, 5, 6, 7, 8, 9, 10, 11, 1, 0] rfl ?_
        exact ihz111 ((w + 1) % zq117) (k + 1) (by omega) (by omega) (by omega)
    refine z_sub (lv' := [(0, .ref (zad G 0 0)), (1, .int (zI act)), (2, .int (zI y)), (3, .int (zI z)), (4, .ref (zad G 26 0)), (5, .ref (zad G 27 0)), (6, .ref (zad G 28 0)), (7, .ref (zad G 30 0)), (8, .ref (zad G 32 0)), (9, .ref (zad G 36 0)), (10, .int (zI zq2)), (11, .int (zI 0))]) [2, 3, 4, 5, 6, 7, 8, 9, 10, 11, 1, 0] rfl ?_
    exact L269_110 (((zV M 1 0 1 - 0 : Int)).toNat + 1) zq2 0 (by omega) (by omega) (by omega)
  refine z_iload_n C 5 dL_registers_5 rfl 2 rfl ?_
  refine z_iload_n C 6 dL_registers_6 rfl 3 rfl ?_
  refine z_callSi C 7 (As := [.int (zI y), .int (zI z)]) (rest := []) (c_L_prefix l G M y z) (zS_of 2 C wm_L_92 wc_L_prefix wini_L wst_L_prefix ⟨by decide, by decide, by decide⟩ ⟨by decide, by decide⟩) rfl (Nat.le_of_ble_eq_true rfl) ⟨by decide, by decide⟩ dL_registers_7 rfl (fun zq118 Mz119 hzq118 hPz118 => ?_)
  obtain ⟨rfl, hPz118⟩ := hPz118
  obtain ⟨v9, b9, hpv, hvp⟩ := hPz118
  have hvp9 := hvp.1
  unfold zpfx at hvp9
  have e1 : zq118 / 32 = v9 := by omega
  have e2 : zq118 % 32 = b9 := by omega
  refine z_istore (lv' := [(10, .int (zI zq118)), (0, .ref (zad G 0 0)), (1, .int (zI act)), (2, .int (zI y)), (3, .int (zI z)), (4, .ref (zad G 26 0)), (5, .ref (zad G 27 0)), (6, .ref (zad G 28 0)), (7, .ref (zad G 30 0)), (8, .ref (zad G 32 0)), (9, .ref (zad G 36 0))]) C 10 dL_registers_10 (by decide) rfl ?_
  refine z_aload_n C 12 dL_registers_12 rfl 1 rfl ?_
  refine z_ldc C 13 wk_L_88 dL_registers_13 ?_
  refine z_iconst C 15 dL_registers_15 ?_
  refine zs_call C 16 (n := 3) (As := [.ref (zad G 0 0), .int (zI 65536), .int (zI 0)]) (rest := []) (v_register l hfl G M hw 65536 0 (by first | assumption | decide | omega) (by first | assumption | decide | omega)) wm_L_95 wcw_L_register wini_L wst_L_register ⟨by decide, by decide, by decide⟩ ⟨by decide, by decide⟩ rfl (Nat.le_of_ble_eq_true rfl) ⟨by decide, by decide⟩ dL_registers_16 rfl (fun zq120 Mz121 hzq120 hPz120 => ?_)
  refine zZ_cs (k := 4) (n := 24) (by decide) (by decide) ?_
  obtain ⟨ezzq120, emzq120⟩ := hPz120.1 (fun q => by have q1 := q.1; unfold zpfx at q1; omega)
  subst ezzq120
  have emzq120 := emzq120.symm
  subst emzq120
  refine z_bipush C 19 dL_registers_19 (by decide +kernel) ?_
  refine z_icmp_ne C 21 82 dL_registers_21 (by decide) (by decide) (by decide) (fun c21_1027 => ?_) (fun c21_1027 => ?_)
  · exact absurd c21_1027 (by decide)
  refine z_aload_n C 24 dL_registers_24 rfl 1 rfl ?_
  refine z_iconst C 25 dL_registers_25 ?_
  refine z_iconst C 26 dL_registers_26 ?_
  refine zs_call C 27 (n := 3) (As := [.ref (zad G 0 0), .int (zI (-1)), .int (zI 3)]) (rest := []) (v_register l hfl G M hw (-1) 3 (by first | assumption | decide | omega) (by first | assumption | decide | omega)) wm_L_95 wcw_L_register wini_L wst_L_register ⟨by decide, by decide, by decide⟩ ⟨by decide, by decide⟩ rfl (Nat.le_of_ble_eq_true rfl) ⟨by decide, by decide⟩ dL_registers_27 rfl (fun zq122 Mz123 hzq122 hPz122 => ?_)
  refine zZ_cs (k := 8) (n := 48) (by decide) (by decide) ?_
  obtain ⟨ezzq122, emzq122⟩ := hPz122.1 (fun q => by have q1 := q.1; unfold zpfx at q1; omega)
  subst ezzq122
  have emzq122 := emzq122.symm
  subst emzq122
  refine z_bipush C 30 dL_registers_30 (by decide +kernel) ?_
  refine z_icmp_ne C 32 82 dL_registers_32 (by decide) (by decide) (by decide) (fun c32_1039 => ?_) (fun c32_1039 => ?_)
  · exact absurd c32_1039 (by decide)
  refine z_aload_n C 35 dL_registers_35 rfl 1 rfl ?_
  refine z_iconst C 36 dL_registers_36 ?_
  refine z_bipush C 37 dL_registers_37 (by decide +kernel) ?_
  refine zs_call C 39 (n := 3) (As := [.ref (zad G 0 0), .int (zI 0), .int (zI 17)]) (rest := []) (v_register l hfl G M hw 0 17 (by first | assumption | decide | omega) (by first | assumption | decide | omega)) wm_L_95 wcw_L_register wini_L wst_L_register ⟨by decide, by decide, by decide⟩ ⟨by decide, by decide⟩ rfl (Nat.le_of_ble_eq_true rfl) ⟨by decide, by decide⟩ dL_registers_39 rfl (fun zq124 Mz125 hzq124 hPz124 => ?_)
  refine zZ_cs (k := 12) (n := 72) (by decide) (by decide) ?_
  obtain ⟨ezzq124, emzq124⟩ := hPz124.1 (fun q => by have q1 := q.1; unfold zpfx at q1; omega)
  subst ezzq124
  have emzq124 := emzq124.symm
  subst emzq124
  refine z_bipush C 42 dL_registers_42 (by decide +kernel) ?_
  refine z_icmp_ne C 44 82 dL_registers_44 (by decide) (by decide) (by decide) (fun c44_1051 => ?_) (fun c44_1051 => ?_)
  · exact absurd c44_1051 (by decide)
  refine z_aload_n C 47 dL_registers_47 rfl 1 rfl ?_
  refine z_iconst C 48 dL_registers_48 ?_
  refine z_iconst C 49 dL_registers_49 ?_
  refine zs_call C 50 (n := 3) (As := [.ref (zad G 0 0), .int (zI 0), .int (zI (-1))]) (rest := []) (v_register l hfl G M hw 0 (-1) (by first | assumption | decide | omega) (by first | assumption | decide | omega)) wm_L_95 wcw_L_register wini_L wst_L_register ⟨by decide, by decide, by decide⟩ ⟨by decide, by decide⟩ rfl (Nat.le_of_ble_eq_true rfl) ⟨by decide, by decide⟩ dL_registers_50 rfl (fun zq126 Mz127 hzq126 hPz126 => ?_)
  refine zZ_cs (k := 16) (n := 96) (by decide) (by decide) ?_
  obtain ⟨ezzq126, emzq126⟩ := hPz126.1 (fun q => by have q1 := q.1; unfold zpfx at q1; omega)
  subst ezzq126
  have emzq126 := emzq126.symm
  subst emzq126
  refine z_bipush C 53 dL_registers_53 (by decide +kernel) ?_
  refine z_icmp_ne C 55 82 dL_registers_55 (by decide) (by decide) (by decide) (fun c55_1063 => ?_) (fun c55_1063 => ?_)
  · exact absurd c55_1063 (by decide)
  refine z_aload_n C 58 dL_registers_58 rfl 1 rfl ?_
  refine z_iconst C 59 dL_registers_59 ?_
  refine z_bipush C 60 dL_registers_60 (by decide +kernel) ?_
  refine zs_call C 62 (n := 3) (As := [.ref (zad G 0 0), .int (zI 1), .int (zI 15)]) (rest := []) (v_register l hfl G M hw 1 15 (by first | assumption | decide | omega) (by first | assumption | decide | omega)) wm_L_95 wcw_L_register wini_L wst_L_register ⟨by decide, by decide, by decide⟩ ⟨by decide, by decide⟩ rfl (Nat.le_of_ble_eq_true rfl) ⟨by decide, by decide⟩ dL_registers_62 rfl (fun zq128 Mz129 hzq128 hPz128 => ?_)
  refine zZ_cs (k := 20) (n := 120) (by decide) (by decide) ?_
  obtain ⟨ezzq128, emzq128⟩ := hPz128.1 (fun q => absurd q.2 (by decide))
  subst ezzq128
  have emzq128 := emzq128.symm
  subst emzq128
  refine z_bipush C 65 dL_registers_65 (by decide +kernel) ?_
  refine z_icmp_ne C 67 82 dL_registers_67 (by decide) (by decide) (by decide) (fun c67_1075 => ?_) (fun c67_1075 => ?_)
  · exact absurd c67_1075 (by decide)
  refine z_aload_n C 70 dL_registers_70 rfl 1 rfl ?_
  refine z_ldc C 71 wk_L_98 dL_registers_71 ?_
  refine z_iconst C 73 dL_registers_73 ?_
  refine zs_call C 74 (n := 3) (As := [.ref (zad G 0 0), .int (zI 32768), .int (zI 0)]) (rest := []) (v_register l hfl G M hw 32768 0 (by first | assumption | decide | omega) (by first | assumption | decide | omega)) wm_L_95 wcw_L_register wini_L wst_L_register ⟨by decide, by decide, by decide⟩ ⟨by decide, by decide⟩ rfl (Nat.le_of_ble_eq_true rfl) ⟨by decide, by decide⟩ dL_registers_74 rfl (fun zq130 Mz131 hzq130 hPz130 => ?_)
  refine zZ_cs (k := 24) (n := 144) (by decide) (by decide) ?_
  obtain ⟨ezzq130, emzq130⟩ := hPz130.1 (fun q => absurd q.2 (by decide))
  subst ezzq130
  have emzq130 := emzq130.symm
  subst emzq130
  refine z_bipush C 77 dL_registers_77 (by decide +kernel) ?_
  refine z_icmp_eq C 79 84 dL_registers_79 (by decide) (by decide) (by decide) (fun c79_1087 => ?_) (fun c79_1087 => ?_)
  rotate_left
  · exact absurd c79_1087 (by decide)
  refine z_iconst C 84 dL_registers_84 ?_
  refine z_istore (lv' := [(11, .int (zI 0)), (10, .int (zI zq118)), (0, .ref (zad G 0 0)), (1, .int (zI act)), (2, .int (zI y)), (3, .int (zI z)), (4, .ref (zad G 26 0)), (5, .ref (zad G 27 0)), (6, .ref (zad G 28 0)), (7, .ref (zad G 30 0)), (8, .ref (zad G 32 0)), (9, .ref (zad G 36 0))]) C 85 dL_registers_85 (by decide) rfl ?_
  refine z_iconst C 87 dL_registers_87 ?_
  refine z_istore (lv' := [(12, .int (zI 0)), (11, .int (zI 0)), (10, .int (zI zq118)), (0, .ref (zad G 0 0)), (1, .int (zI act)), (2, .int (zI y)), (3, .int (zI z)), (4, .ref (zad G 26 0)), (5, .ref (zad G 27 0)), (6, .ref (zad G 28 0)), (7, .ref (zad G 30 0)), (8, .ref (zad G 32 0)), (9, .ref (zad G 36 0))]) C 88 dL_registers_88 (by decide) rfl ?_
  have L90_132 : ∀ (kz132 : Nat) (th : Int) (k : Int), (0 ≤ k ∧ k ≤ zV M 1 0 1) → (zb th (∃ i : Nat, (i : Int) < k ∧ (0 < zV M 27 0 i ∧ zV M 26 0 i = zq118))) → (zV M 1 0 1 - k) < (kz132 : Int) → zZ p l e (zR 11 40 240) s m ([.ref (zad G 0 0), .int (zI act), .int (zI y), .int (zI z), .ref (zad G 26 0), .ref (zad G 27 0), .ref (zad G 28 0), .ref (zad G 30 0), .ref (zad G 32 0), .ref (zad G 36 0)] : List Value).toArray below meth c G 17 (MQ below (zQi G (fun x M' => x = 1 ∧ iN (n + 1) M' M')) ([.ref (zad G 0 0), .int (zI act), .int (zI y), .int (zI z), .ref (zad G 26 0), .ref (zad G 27 0), .ref (zad G 28 0), .ref (zad G 30 0), .ref (zad G 32 0), .ref (zad G 36 0)] : List Value).toArray s 40 240 (zA G)) M 24 144 90 [(10, .int (zI zq118)), (0, .ref (zad G 0 0)), (1, .int (zI act)), (2, .int (zI y)), (3, .int (zI z)), (4, .ref (zad G 26 0)), (5, .ref (zad G 27 0)), (6, .ref (zad G 28 0)), (7, .ref (zad G 30 0)), (8, .ref (zad G 32 0)), (9, .ref (zad G 36 0)), (11, .int (zI th)), (12, .int (zI k))] [] := by
    intro kz132
    induction kz132 with
    | zero =>
      intro th k g0 g1 hk
      exact absurd hk (by omega)
    | succ kz132 ihz133 =>
      intro th k g0 g1 hk
      have hth := g1.1
      refine z_iload C 90 dL_registers_90 12 rfl ?_
      refine z_aload C 92 dL_registers_92 10 rfl ?_
      refine z_iconst C 94 dL_registers_94 ?_
      refine z_ialdj C 95 (show 0 < 1 by omega) (zc36 ..) 3 rfl (by decide) (by omega) (show 3 < ((12 : Nat) : Int) by omega) dL_registers_95 (fun zq134 ezq134 hzq134 => ?_)
      refine z_icmp_ge C 96 133 dL_registers_96 (by decide) (by first | assumption | omega) hzq134 (fun c96_1107 => ?_) (fun c96_1107 => ?_)
      · have hth := g1.1
        refine z_iload C 133 dL_registers_133 11 rfl ?_
        refine z_if_eq C 135 163 dL_registers_135 (by decide) (by first | assumption | omega) (fun c135_1111 => ?_) (fun c135_1111 => ?_)
        · have hno : ¬ zhas M v9 b9 := i_hasF hA hpv (fun i9 hi1 hi2 => (g1.f c135_1111) ⟨i9, by omega, hi2⟩)
          refine z_aload C 163 dL_registers_163 10 rfl ?_
          refine z_iconst C 165 dL_registers_165 ?_
          refine z_ialdj C 166 (show 0 < 1 by omega) (zc36 ..) 3 rfl (by decide) (by omega) (show 3 < ((12 : Nat) : Int) by omega) dL_registers_166 (fun zq135 ezq135 hzq135 => ?_)
          refine z_bipush C 167 dL_registers_167 (by decide +kernel) ?_
          refine z_icmp_ne C 169 189 dL_registers_169 (by decide) hzq135 (by decide) (fun c169_1118 => ?_) (fun c169_1118 => ?_)
          · obtain ⟨m9, hm9⟩ : ∃ m : Nat, zV M 1 0 1 = (m : Int) := ⟨(zV M 1 0 1).toNat, by omega⟩
            refine z_aload C 189 dL_registers_189 5 rfl ?_
            refine z_aload C 191 dL_registers_191 10 rfl ?_
            refine z_iconst C 193 dL_registers_193 ?_
            refine z_ialdj C 194 (show 0 < 1 by omega) (zc36 ..) 3 rfl (by decide) (by omega) (show 3 < ((12 : Nat) : Int) by omega) dL_registers_194 (fun zq136 ezq136 hzq136 => ?_)
            refine z_iload C 195 dL_registers_195 0 rfl ?_
            refine z_iastj C 197 (show 0 < 1 by omega) (zc26 ..) m9 (by omega) hzq136 (by omega) (show zq136 < ((16 : Nat) : Int) by omega) (zc26 ..) dL_registers_197 ?_
            refine z_aload C 198 dL_registers_198 6 rfl ?_
            refine z_aload C 200 dL_registers_200 10 rfl ?_
            refine z_iconst C 202 dL_registers_202 ?_
            refine z_ialdj C 203 (show 0 < 1 by omega) (zc36 ..) 3 rfl (by decide) (by omega) (show 3 < ((12 : Nat) : Int) by omega) dL_registers_203 (fun zq137 ezq137 hzq137 => ?_)
            rw [zV_ne (by decide)] at ezq137
            refine z_iconst C 204 dL_registers_204 ?_
            refine z_iastj C 205 (show 0 < 1 by omega) (zc27 ..) m9 (by omega) hzq137 (by omega) (show zq137 < ((16 : Nat) : Int) by omega) (zc27 ..) dL_registers_205 ?_
            refine z_aload C 206 dL_registers_206 10 rfl ?_
            refine z_iconst C 208 dL_registers_208 ?_
            refine z_dup2 C 209 dL_registers_209 rfl rfl ?_
            refine z_ialdj C 210 (show 0 < 1 by omega) (zc36 ..) 3 rfl (by decide) (by omega) (show 3 < ((12 : Nat) : Int) by omega) dL_registers_210 (fun zq138 ezq138 hzq138 => ?_)
            rw [zV_ne (by decide)] at ezq138
            rw [zV_ne (by decide)] at ezq138
            refine z_iconst C 211 dL_registers_211 ?_
            refine z_iadd C 212 dL_registers_212 ?_
            refine z_iastj C 213 (show 0 < 1 by omega) (zc36 ..) 3 rfl (by decide) (by omega) (show 3 < ((12 : Nat) : Int) by omega) (zc36 ..) dL_registers_213 ?_
            generalize hD1 : zup (zup (zup M 26 0 m9 (zI zq118)) 27 0 m9 (zI 1)) 36 0 3 (zI (zq138 + 1)) = D1
            have r1 : i_rf M D1 := by rw [← hD1]; exact (((i_rf.r M).u (by decide)).u (by decide)).u (by decide)
            have hWd : iW n D1 := iW_c hW (Nat.le_refl n) (fun κ j q => by rw [← hD1]; repeat rw [zV_ne (by omega)])
            have hd6 : zV D1 36 0 6 = zV M 36 0 6 := by rw [← hD1, zV_nj (by decide), zV_ne (by decide), zV_ne (by decide)]
            have hD1e : D1 = zup (zup (zup M 26 0 m9 (zI zq118)) 27 0 m9 (zI 1)) 36 0 3 (zI ((m9 : Int) + 1)) := by rw [← hD1, show zq138 = (m9 : Int) by omega]
            have hd3 : zV D1 36 0 3 = (m9 : Int) + 1 := by rw [hD1e]; exact zV_eq (by omega)
            refine z_aload C 214 dL_registers_214 8 rfl ?_
            refine z_aload C 216 dL_registers_216 9 rfl ?_
            refine z_aload C 218 dL_registers_218 10 rfl ?_
            refine z_iload C 220 dL_registers_220 0 rfl ?_
            refine z_callSv C 222 (As := [.ref (zad G 30 0), .ref (zad G 32 0), .ref (zad G 36 0), .int (zI zq118)]) (rest := []) (c_L_solicit l G D1 hWd v9 b9 zq118 hpv hvp.1 (by omega)) (zS_of 4 C wm_L_102 wc_L_solicit wini_L wst_L_solicit ⟨by decide, by decide, by decide⟩ ⟨by decide, by decide⟩) rfl (Nat.le_of_ble_eq_true rfl) ⟨by decide, by decide⟩ dL_registers_222 rfl (fun Mz140 hPz139 => ?_)
            have hsk := hPz139
            have r2 := r1.t (i_rf.jsk hsk)
            have hw2 := i_WC hw r2
            have hh2 : zmn D1 = zV M 1 0 1 := r1.v (by decide)
            have hh3 := r2.v (κ := 1) (i := 0) (j := 1) (by decide)
            have hh4 : ¬ zhas Mz140 v9 b9 := fun q => hno ((i_has r2).mp q)
            refine z_aload_n C 225 dL_registers_225 rfl 1 rfl ?_
            refine z_iload C 226 dL_registers_226 0 rfl ?_
            refine z_bipush C 228 dL_registers_228 (by decide +kernel) ?_
            refine z_idiv C 230 dL_registers_230 hzq118 (by omega) (by decide) (by decide) ?_
            refine z_iload C 231 dL_registers_231 0 rfl ?_
            refine z_bipush C 233 dL_registers_233 (by decide +kernel) ?_
            refine z_irem C 235 dL_registers_235 hzq118 (by omega) (by decide) (by decide) ?_
            refine zs_call C 236 (n := 3) (As := [.ref (zad G 0 0), .int (zI (zq118 / 32)), .int (zI (zq118 % 32))]) (rest := []) (v_register l hfl G Mz140 hw2 (zq118 / 32) (zq118 % 32) (by first | assumption | decide | omega) (by first | assumption | decide | omega)) wm_L_95 wcw_L_register wini_L wst_L_register ⟨by decide, by decide, by decide⟩ ⟨by decide, by decide⟩ rfl (Nat.le_of_ble_eq_true rfl) ⟨by decide, by decide⟩ dL_registers_236 rfl (fun zq141 Mz142 hzq141 hPz141 => ?_)
            refine zZ_cs (k := 28) (n := 168) (by decide) (by decide) ?_
            rw [e1, e2] at hPz141
            have hs9 := hPz141.2.2 hvp ⟨by show zV Mz140 1 0 1 < 24; omega, hh4⟩
            have hs1 : zq141 = zV Mz140 1 0 1 := hs9.1
            have hs2 := hs9.2
            rw [show (zmn Mz140).toNat = m9 by show (zV Mz140 1 0 1).toNat = m9; omega] at hs2
            have hN9 := i_reg h hvp hno hm9 (by omega) hpv hD1e hsk hs2
            have hg9 : zV Mz142 36 0 3 = zV Mz142 1 0 1 := hN9.1.2.1
            have hg8 : zV Mz142 36 0 3 = zV D1 36 0 3 := by rw [zV_of (hs2.2.2.2 36 0 3 (by omega) (by omega)), show zV (zreg Mz140 v9 b9) 36 0 3 = zV Mz140 36 0 3 by unfold zreg; rw [zV_ne (by decide), zV_ne (by decide), zV_ne (by decide)]]; exact zV_of (hsk.2.2.2 36 0 3 (by omega) (by omega))
            refine z_aload C 239 dL_registers_239 10 rfl ?_
            refine z_iconst C 241 dL_registers_241 ?_
            refine z_ialdj C 242 (show 0 < 1 by omega) (zc36 ..) 3 rfl (by decide) (by omega) (show 3 < ((12 : Nat) : Int) by omega) dL_registers_242 (fun zq143 ezq143 hzq143 => ?_)
            refine z_iconst C 243 dL_registers_243 ?_
            refine z_isub C 244 dL_registers_244 ?_
            refine z_icmp_ne C 245 252 dL_registers_245 (by decide) hzq141 (by first | assumption | omega) (fun c245_1182 => ?_) (fun c245_1182 => ?_)
            · exact absurd (by omega) c245_1182
            refine z_iconst C 248 dL_registers_248 ?_
            refine z_goto C 249 253 dL_registers_249 (by decide) ?_
            refine z_zret C 253 dL_registers_253 (by decide) (by decide) (by decide) ?_
            exact ⟨rfl, hN9⟩
          refine z_aload_n C 172 dL_registers_172 rfl 1 rfl ?_
          refine z_bipush C 173 dL_registers_173 (by decide +kernel) ?_
          refine zs_call C 175 (n := 2) (As := [.ref (zad G 0 0), .int (zI 15)]) (rest := []) (v_version l hfl G M hw 15 (by first | assumption | decide | omega)) wm_L_99 wcw_L_version wini_L wst_L_version ⟨by decide, by decide, by decide⟩ ⟨by decide, by decide⟩ rfl (Nat.le_of_ble_eq_true rfl) ⟨by decide, by decide⟩ dL_registers_175 rfl (fun zq144 Mz145 hzq144 hPz144 => ?_)
          refine zZ_cs (k := 25) (n := 150) (by decide) (by decide) ?_
          obtain ⟨emzq144, hPz144r⟩ := hPz144.2 ⟨by omega, by show (15 : Int) < zV M 1 0 1; omega⟩
          subst emzq144
          have hv15 := (hA.2.2.1 15 (by omega)).1
          have hne9 : ¬ zq144 = -71 := by
            rw [hPz144r, show (15 : Int).toNat = 15 from rfl]
            split <;> omega
          refine z_bipush C 178 dL_registers_178 (by decide +kernel) ?_
          refine z_icmp_eq C 180 187 dL_registers_180 (by decide) hzq144 (by decide) (fun c180_1198 => ?_) (fun c180_1198 => ?_)
          · exact absurd c180_1198 hne9
          refine z_iconst C 183 dL_registers_183 ?_
          refine z_goto C 184 188 dL_registers_184 (by decide) ?_
          refine z_zret C 188 dL_registers_188 (by decide) (by decide) (by decide) ?_
          exact ⟨rfl, iN_up h (by omega)⟩
        have hhas : zhas M v9 b9 := by
          obtain ⟨i9, hi1, hi2, hi3⟩ := g1.t c135_1111
          exact i_hasT hA hvp hpv (by omega) hi2 hi3
        refine z_aload_n C 138 dL_registers_138 rfl 1 rfl ?_
        refine z_iload C 139 dL_registers_139 0 rfl ?_
        refine z_bipush C 141 dL_registers_141 (by decide +kernel) ?_
        refine z_idiv C 143 dL_registers_143 hzq118 (by omega) (by decide) (by decide) ?_
        refine z_iload C 144 dL_registers_144 0 rfl ?_
        refine z_bipush C 146 dL_registers_146 (by decide +kernel) ?_
        refine z_irem C 148 dL_registers_148 hzq118 (by omega) (by decide) (by decide) ?_
        refine zs_call C 149 (n := 3) (As := [.ref (zad G 0 0), .int (zI (zq118 / 32)), .int (zI (zq118 % 32))]) (rest := []) (v_register l hfl G M hw (zq118 / 32) (zq118 % 32) (by first | assumption | decide | omega) (by first | assumption | decide | omega)) wm_L_95 wcw_L_register wini_L wst_L_register ⟨by decide, by decide, by decide⟩ ⟨by decide, by decide⟩ rfl (Nat.le_of_ble_eq_true rfl) ⟨by decide, by decide⟩ dL_registers_149 rfl (fun zq146 Mz147 hzq146 hPz146 => ?_)
        refine zZ_cs (k := 28) (n := 168) (by decide) (by decide) ?_
        obtain ⟨ezzq146, emzq146⟩ := hPz146.2.1 (by rw [e1, e2]; exact hvp) (fun q => q.2 (by rw [e1, e2]; exact hhas))
        subst ezzq146
        have emzq146 := emzq146.symm
        subst emzq146
        refine z_bipush C 152 dL_registers_152 (by decide +kernel) ?_
        refine z_icmp_ne C 154 161 dL_registers_154 (by decide) (by decide) (by decide) (fun c154_1220 => ?_) (fun c154_1220 => ?_)
        · exact absurd c154_1220 (by decide)
        refine z_iconst C 157 dL_registers_157 ?_
        refine z_goto C 158 162 dL_registers_158 (by decide) ?_
        refine z_zret C 162 dL_registers_162 (by decide) (by decide) (by decide) ?_
        exact ⟨rfl, iN_up h (by omega)⟩
      refine z_iload C 99 dL_registers_99 11 rfl ?_
      refine z_aload C 101 dL_registers_101 6 rfl ?_
      refine z_iload C 103 dL_registers_103 12 rfl ?_
      refine z_ialdj C 105 (show 0 < 1 by omega) (zc27 ..) k.toNat rfl (by first | assumption | omega) (by omega) (show k < ((16 : Nat) : Int) by omega) dL_registers_105 (fun zq148 ezq148 hzq148 => ?_)
      refine z_if_le C 106 123 dL_registers_106 (by decide) hzq148 (fun c106_1229 => ?_) (fun c106_1229 => ?_)
      · have hQ : zb 0 (0 < zV M 27 0 k.toNat ∧ zV M 26 0 k.toNat = zq118) := zb.zero (fun q => by omega)
        refine z_iconst C 123 dL_registers_123 ?_
        refine z_ior C 124 (v := max th 0) dL_registers_124 (j_orb (by omega) (by decide)) ?_
        refine z_istore (lv' := [(11, .int (zI (max th 0))), (10, .int (zI zq118)), (0, .ref (zad G 0 0)), (1, .int (zI act)), (2, .int (zI y)), (3, .int (zI z)), (4, .ref (zad G 26 0)), (5, .ref (zad G 27 0)), (6, .ref (zad G 28 0)), (7, .ref (zad G 30 0)), (8, .ref (zad G 32 0)), (9, .ref (zad G 36 0)), (12, .int (zI k))]) C 125 dL_registers_125 (by decide) rfl ?_
        refine z_iinc (lv' := [(12, .int (zI (k + 1))), (11, .int (zI (max th 0))), (10, .int (zI zq118)), (0, .ref (zad G 0 0)), (1, .int (zI act)), (2, .int (zI y)), (3, .int (zI z)), (4, .ref (zad G 26 0)), (5, .ref (zad G 27 0)), (6, .ref (zad G 28 0)), (7, .ref (zad G 30 0)), (8, .ref (zad G 32 0)), (9, .ref (zad G 36 0))]) C 127 dL_registers_127 12 rfl (by decide) rfl ?_
        refine z_goto C 130 90 dL_registers_130 (by decide) ?_
        refine z_sub (lv' := [(10, .int (zI zq118)), (0, .ref (zad G 0 0)), (1, .int (zI act)), (2, .int (zI y)), (3, .int (zI z)), (4, .ref (zad G 26 0)), (5, .ref (zad G 27 0)), (6, .ref (zad G 28 0)), (7, .ref (zad G 30 0)), (8, .ref (zad G 32 0)), (9, .ref (zad G 36 0)), (11, .int (zI (max th 0))), (12, .int (zI (k + 1)))]) [2, 3, 4, 5, 6, 7, 8, 9, 10, 11, 12, 1, 0] rfl ?_
        exact ihz133 (max th 0) (k + 1) (by omega) (by exact jor_s (by omega) g1 hQ) (by omega)
      refine z_aload C 109 dL_registers_109 5 rfl ?_
      refine z_iload C 111 dL_registers_111 12 rfl ?_
      refine z_ialdj C 113 (show 0 < 1 by omega) (zc26 ..) k.toNat rfl (by first | assumption | omega) (by omega) (show k < ((16 : Nat) : Int) by omega) dL_registers_113 (fun zq149 ezq149 hzq149 => ?_)
      refine z_iload C 114 dL_registers_114 0 rfl ?_
      refine z_icmp_ne C 116 123 dL_registers_116 (by decide) hzq149 hzq118 (fun c116_1242 => ?_) (fun c116_1242 => ?_)
      · have hQ : zb 0 (0 < zV M 27 0 k.toNat ∧ zV M 26 0 k.toNat = zq118) := zb.zero (fun q => by omega)
        refine z_iconst C 123 dL_registers_123 ?_
        refine z_ior C 124 (v := max th 0) dL_registers_124 (j_orb (by omega) (by decide)) ?_
        refine z_istore (lv' := [(11, .int (zI (max th 0))), (10, .int (zI zq118)), (0, .ref (zad G 0 0)), (1, .int (zI act)), (2, .int (zI y)), (3, .int (zI z)), (4, .ref (zad G 26 0)), (5, .ref (zad G 27 0)), (6, .ref (zad G 28 0)), (7, .ref (zad G 30 0)), (8, .ref (zad G 32 0)), (9, .ref (zad G 36 0)), (12, .int (zI k))]) C 125 dL_registers_125 (by decide) rfl ?_
        refine z_iinc (lv' := [(12, .int (zI (k + 1))), (11, .int (zI (max th 0))), (10, .int (zI zq118)), (0, .ref (zad G 0 0)), (1, .int (zI act)), (2, .int (zI y)), (3, .int (zI z)), (4, .ref (zad G 26 0)), (5, .ref (zad G 27 0)), (6, .ref (zad G 28 0)), (7, .ref (zad G 30 0)), (8, .ref (zad G 32 0)), (9, .ref (zad G 36 0))]) C 127 dL_registers_127 12 rfl (by decide) rfl ?_
        refine z_goto C 130 90 dL_registers_130 (by decide) ?_
        refine z_sub (lv' := [(10, .int (zI zq118)), (0, .ref (zad G 0 0)), (1, .int (zI act)), (2, .int (zI y)), (3, .int (zI z)), (4, .ref (zad G 26 0)), (5, .ref (zad G 27 0)), (6, .ref (zad G 28 0)), (7, .ref (zad G 30 0)), (8, .ref (zad G 32 0)), (9, .ref (zad G 36 0)), (11, .int (zI (max th 0))), (12, .int (zI (k + 1)))]) [2, 3, 4, 5, 6, 7, 8, 9, 10, 11, 12, 1, 0] rfl ?_
        exact ihz133 (max th 0) (k + 1) (by omega) (by exact jor_s (by omega) g1 hQ) (by omega)
      have hQ : zb 1 (0 < zV M 27 0 k.toNat ∧ zV M 26 0 k.toNat = zq118) := zb.one ⟨by omega, by omega⟩
      refine z_iconst C 119 dL_registers_119 ?_
      refine z_goto C 120 124 dL_registers_120 (by decide) ?_
      refine z_ior C 124 (v := max th 1) dL_registers_124 (j_orb (by omega) (by decide)) ?_
      refine z_istore (lv' := [(11, .int (zI (max th 1))), (10, .int (zI zq118)), (0, .ref (zad G 0 0)), (1, .int (zI act)), (2, .int (zI y)), (3, .int (zI z)), (4, .ref (zad G 26 0)), (5, .ref (zad G 27 0)), (6, .ref (zad G 28 0)), (7, .ref (zad G 30 0)), (8, .ref (zad G 32 0)), (9, .ref (zad G 36 0)), (12, .int (zI k))]) C 125 dL_registers_125 (by decide) rfl ?_
      refine z_iinc (lv' := [(12, .int (zI (k + 1))), (11, .int (zI (max th 1))), (10, .int (zI zq118)), (0, .ref (zad G 0 0)), (1, .int (zI act)), (2, .int (zI y)), (3, .int (zI z)), (4, .ref (zad G 26 0)), (5, .ref (zad G 27 0)), (6, .ref (zad G 28 0)), (7, .ref (zad G 30 0)), (8, .ref (zad G 32 0)), (9, .ref (zad G 36 0))]) C 127 dL_registers_127 12 rfl (by decide) rfl ?_
      refine z_goto C 130 90 dL_registers_130 (by decide) ?_
      refine z_sub (lv' := [(10, .int (zI zq118)), (0, .ref (zad G 0 0)), (1, .int (zI act)), (2, .int (zI y)), (3, .int (zI z)), (4, .ref (zad G 26 0)), (5, .ref (zad G 27 0)), (6, .ref (zad G 28 0)), (7, .ref (zad G 30 0)), (8, .ref (zad G 32 0)), (9, .ref (zad G 36 0)), (11, .int (zI (max th 1))), (12, .int (zI (k + 1)))]) [2, 3, 4, 5, 6, 7, 8, 9, 10, 11, 12, 1, 0] rfl ?_
      exact ihz133 (max th 1) (k + 1) (by omega) (by exact jor_s (by omega) g1 hQ) (by omega)
  refine z_sub (lv' := [(10, .int (zI zq118)), (0, .ref (zad G 0 0)), (1, .int (zI act)), (2, .int (zI y)), (3, .int (zI z)), (4, .ref (zad G 26 0)), (5, .ref (zad G 27 0)), (6, .ref (zad G 28 0)), (7, .ref (zad G 30 0)), (8, .ref (zad G 32 0)), (9, .ref (zad G 36 0)), (11, .int (zI 0)), (12, .int (zI 0))]) [2, 3, 4, 5, 6, 7, 8, 9, 10, 11, 12, 1, 0] rfl ?_
  exact L90_132 (((zV M 1 0 1 - 0 : Int)).toNat + 1) 0 0 (by omega) (by exact jor_0) (by omega)
