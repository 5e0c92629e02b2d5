set_option maxHeartbeats 4000000 in
set_option maxRecDepth 100000 in
theorem c_L_isTold (l : Launch) (G : zG) (M : zMem) {n : Nat} (hfl : l.stackTraces = false) (h : iN n M M) (hn : n ≤ 120) (y : Int) : Met l yL_isTold [.code yL_isTold cL_isTold 18 (some .boolean)] (zR 11 500 3000) (zPc G M [.ref (zad G 0 0), .int (zI y), .ref (zad G 26 0), .ref (zad G 27 0), .ref (zad G 29 0), .ref (zad G 30 0), .ref (zad G 31 0), .ref (zad G 32 0), .ref (zad G 33 0), .ref (zad G 34 0), .ref (zad G 36 0)]) (zQi G (fun x M' => M = M' ∧ x = 1)) 500 3000 (zA G) := by
  refine z_met [(0, .ref (zad G 0 0)), (1, .int (zI y)), (2, .ref (zad G 26 0)), (3, .ref (zad G 27 0)), (4, .ref (zad G 29 0)), (5, .ref (zad G 30 0)), (6, .ref (zad G 31 0)), (7, .ref (zad G 32 0)), (8, .ref (zad G 33 0)), (9, .ref (zad G 34 0)), (10, .ref (zad G 36 0))] (by decide) (Nat.le_of_ble_eq_true rfl) rfl ?_
  intro p e s m below meth c C
  have C : zC p s m ([.ref (zad G 0 0), .int (zI y), .ref (zad G 26 0), .ref (zad G 27 0), .ref (zad G 29 0), .ref (zad G 30 0), .ref (zad G 31 0), .ref (zad G 32 0), .ref (zad G 33 0), .ref (zad G 34 0), .ref (zad G 36 0)] : List Value).toArray meth c G RL cL_isTold 18 (some .boolean) := C
  have hw := iN_WC h (by omega)
  have hA := h.1
  have hA1 := hA.1
  have hA2 := hA.2.1
  have hB := h.2.1
  have hS := h.2.2.1
  have hC := h.2.2.2.1
  have hC1 := hC.1
  have hC6 := hC.2.1
  have hC3 := hC.2.2.1
  have h161 := h.2.2.2.2.2.2.2.1
  have hW := h.2.2.2.2.2.2.2.2.1
  have hmn : zmn M = zV M 1 0 1 := rfl
  refine z_iconst C 0 dL_isTold_0 ?_
  refine z_istore (lv' := [(11, .int (zI 0)), (0, .ref (zad G 0 0)), (1, .int (zI y)), (2, .ref (zad G 26 0)), (3, .ref (zad G 27 0)), (4, .ref (zad G 29 0)), (5, .ref (zad G 30 0)), (6, .ref (zad G 31 0)), (7, .ref (zad G 32 0)), (8, .ref (zad G 33 0)), (9, .ref (zad G 34 0)), (10, .ref (zad G 36 0))]) C 1 dL_isTold_1 (by decide) rfl ?_
  have L3_1 : ∀ (kz1 : Nat) (k0 : Int), (0 ≤ k0 ∧ k0 ≤ zV M 1 0 1) → (zV M 1 0 1 - k0) < (kz1 : Int) → zZ p l e (zR 11 500 3000) s m ([.ref (zad G 0 0), .int (zI y), .ref (zad G 26 0), .ref (zad G 27 0), .ref (zad G 29 0), .ref (zad G 30 0), .ref (zad G 31 0), .ref (zad G 32 0), .ref (zad G 33 0), .ref (zad G 34 0), .ref (zad G 36 0)] : List Value).toArray below meth c G 18 (MQ below (zQi G (fun x M' => M = M' ∧ x = 1)) ([.ref (zad G 0 0), .int (zI y), .ref (zad G 26 0), .ref (zad G 27 0), .ref (zad G 29 0), .ref (zad G 30 0), .ref (zad G 31 0), .ref (zad G 32 0), .ref (zad G 33 0), .ref (zad G 34 0), .ref (zad G 36 0)] : List Value).toArray s 500 3000 (zA G)) M (0 + 1 * k0.toNat) (0 + 6 * k0.toNat) 3 [(0, .ref (zad G 0 0)), (1, .int (zI y)), (2, .ref (zad G 26 0)), (3, .ref (zad G 27 0)), (4, .ref (zad G 29 0)), (5, .ref (zad G 30 0)), (6, .ref (zad G 31 0)), (7, .ref (zad G 32 0)), (8, .ref (zad G 33 0)), (9, .ref (zad G 34 0)), (10, .ref (zad G 36 0)), (11, .int (zI k0))] [] := by
    intro kz1
    induction kz1 with
    | zero =>
      intro k0 g0 hk
      exact absurd hk (by omega)
    | succ kz1 ihz2 =>
      intro k0 g0 hk
      refine z_iload C 3 dL_isTold_3 11 rfl ?_
      refine z_aload C 5 dL_isTold_5 10 rfl ?_
      refine z_iconst C 7 dL_isTold_7 ?_
      refine z_ialdj C 8 (show 0 < 1 by omega) (zc36 ..) 3 rfl (by decide) (by omega) (show 3 < ((12 : Nat) : Int) by omega) dL_isTold_8 (fun zq3 ezq3 hzq3 => ?_)
      refine z_icmp_ge C 9 44 dL_isTold_9 (by decide) (by first | assumption | omega) hzq3 (fun c9_33 => ?_) (fun c9_33 => ?_)
      · refine z_iconst C 44 dL_isTold_44 ?_
        refine z_istore (lv' := [(11, .int (zI 0)), (0, .ref (zad G 0 0)), (1, .int (zI y)), (2, .ref (zad G 26 0)), (3, .ref (zad G 27 0)), (4, .ref (zad G 29 0)), (5, .ref (zad G 30 0)), (6, .ref (zad G 31 0)), (7, .ref (zad G 32 0)), (8, .ref (zad G 33 0)), (9, .ref (zad G 34 0)), (10, .ref (zad G 36 0))]) C 45 dL_isTold_45 (by decide) rfl ?_
        have L47_4 : ∀ (kz4 : Nat) (r : Int), (0 ≤ r ∧ r ≤ 2) → (2 - r) < (kz4 : Int) → zZ p l e (zR 11 500 3000) s m ([.ref (zad G 0 0), .int (zI y), .ref (zad G 26 0), .ref (zad G 27 0), .ref (zad G 29 0), .ref (zad G 30 0), .ref (zad G 31 0), .ref (zad G 32 0), .ref (zad G 33 0), .ref (zad G 34 0), .ref (zad G 36 0)] : List Value).toArray below meth c G 18 (MQ below (zQi G (fun x M' => M = M' ∧ x = 1)) ([.ref (zad G 0 0), .int (zI y), .ref (zad G 26 0), .ref (zad G 27 0), .ref (zad G 29 0), .ref (zad G 30 0), .ref (zad G 31 0), .ref (zad G 32 0), .ref (zad G 33 0), .ref (zad G 34 0), .ref (zad G 36 0)] : List Value).toArray s 500 3000 (zA G)) M (16 + 224 * r.toNat) (96 + 1344 * r.toNat) 47 [(0, .ref (zad G 0 0)), (1, .int (zI y)), (2, .ref (zad G 26 0)), (3, .ref (zad G 27 0)), (4, .ref (zad G 29 0)), (5, .ref (zad G 30 0)), (6, .ref (zad G 31 0)), (7, .ref (zad G 32 0)), (8, .ref (zad G 33 0)), (9, .ref (zad G 34 0)), (10, .ref (zad G 36 0)), (11, .int (zI r))] [] := by
          intro kz4
          induction kz4 with
          | zero =>
            intro r r0 hk
            exact absurd hk (by omega)
          | succ kz4 ihz5 =>
            intro r r0 hk
            refine z_iload C 47 dL_isTold_47 11 rfl ?_
            refine z_iconst C 49 dL_isTold_49 ?_
            refine z_icmp_ge C 50 432 dL_isTold_50 (by decide) (by first | assumption | omega) (by decide) (fun c50_47 => ?_) (fun c50_47 => ?_)
            · refine z_iconst C 432 dL_isTold_432 ?_
              refine z_istore (lv' := [(11, .int (zI 0)), (0, .ref (zad G 0 0)), (1, .int (zI y)), (2, .ref (zad G 26 0)), (3, .ref (zad G 27 0)), (4, .ref (zad G 29 0)), (5, .ref (zad G 30 0)), (6, .ref (zad G 31 0)), (7, .ref (zad G 32 0)), (8, .ref (zad G 33 0)), (9, .ref (zad G 34 0)), (10, .ref (zad G 36 0))]) C 433 dL_isTold_433 (by decide) rfl ?_
              have L435_6 : ∀ (kz6 : Nat) (i4 : Int), (0 ≤ i4 ∧ i4 ≤ 4) → (4 - i4) < (kz6 : Int) → zZ p l e (zR 11 500 3000) s m ([.ref (zad G 0 0), .int (zI y), .ref (zad G 26 0), .ref (zad G 27 0), .ref (zad G 29 0), .ref (zad G 30 0), .ref (zad G 31 0), .ref (zad G 32 0), .ref (zad G 33 0), .ref (zad G 34 0), .ref (zad G 36 0)] : List Value).toArray below meth c G 18 (MQ below (zQi G (fun x M' => M = M' ∧ x = 1)) ([.ref (zad G 0 0), .int (zI y), .ref (zad G 26 0), .ref (zad G 27 0), .ref (zad G 29 0), .ref (zad G 30 0), .ref (zad G 31 0), .ref (zad G 32 0), .ref (zad G 33 0), .ref (zad G 34 0), .ref (zad G 36 0)] : List Value).toArray s 500 3000 (zA G)) M (464 + 4 * i4.toNat) (2784 + 24 * i4.toNat) 435 [(0, .ref (zad G 0 0)), (1, .int (zI y)), (2, .ref (zad G 26 0)), (3, .ref (zad G 27 0)), (4, .ref (zad G 29 0)), (5, .ref (zad G 30 0)), (6, .ref (zad G 31 0)), (7, .ref (zad G 32 0)), (8, .ref (zad G 33 0)), (9, .ref (zad G 34 0)), (10, .ref (zad G 36 0)), (11, .int (zI i4))] [] := by
                intro kz6
                induction kz6 with
                | zero =>
                  intro i4 m0 hk
                  exact absurd hk (by omega)
                | succ kz6 ihz7 =>
                  intro i4 m0 hk
                  refine z_iload C 435 dL_isTold_435 11 rfl ?_
                  refine z_iconst C 437 dL_isTold_437 ?_
                  refine z_icmp_ge C 438 549 dL_isTold_438 (by decide) (by first | assumption | omega) (by decide) (fun c438_61 => ?_) (fun c438_61 => ?_)
                  · refine z_aload_n C 549 dL_isTold_549 rfl 0 rfl ?_
                    refine z_callVi C 550 (As := []) (rest := []) (c_X7_solicitations l G M) zcl7 (show 0 < 1 by omega) (zc0 ..) (zW_of 0 C wm_L_173 wc_X7_solicitations wini_7 wi_X7_solicitations wse_X7_solicitations ⟨by decide, by decide, by decide⟩ ⟨by decide, by decide⟩) rfl (Nat.le_of_ble_eq_true rfl) ⟨by show _ ≤ 500; omega, by show _ ≤ 3000; omega⟩ dL_isTold_550 rfl (fun zq8 Mz9 hzq8 hPz8 => ?_)
                    refine zZ_cs (k := 464 + 4 * i4.toNat) (n := 2784 + 24 * i4.toNat) (by omega) (by omega) ?_
                    obtain ⟨rfl, hPz8⟩ := hPz8
                    refine z_aload C 553 dL_isTold_553 10 rfl ?_
                    refine z_bipush C 555 dL_isTold_555 (by decide +kernel) ?_
                    refine z_ialdj C 557 (show 0 < 1 by omega) (zc36 ..) 6 rfl (by decide) (by omega) (show 6 < ((12 : Nat) : Int) by omega) dL_isTold_557 (fun zq10 ezq10 hzq10 => ?_)
                    refine z_icmp_ne C 558 639 dL_isTold_558 (by decide) hzq8 hzq10 (fun c558_70 => ?_) (fun c558_70 => ?_)
                    · exact absurd (by omega) c558_70
                    refine z_aload_n C 561 dL_isTold_561 rfl 0 rfl ?_
                    refine z_iconst C 562 dL_isTold_562 ?_
                    refine zn_callVi C 563 (As := [.int (zI 1)]) (rest := []) (c_X7_entries l hfl G M 1 (by decide)) (fun E q => q.2 ⟨by decide, by decide⟩) zcl7 (show 0 < 1 by omega) (zc0 ..) (zW_of 1 C wm_L_151 wc_X7_entries wini_7 wi_X7_entries wse_X7_entries ⟨by decide, by decide, by decide⟩ ⟨by decide, by decide⟩) rfl (Nat.le_of_ble_eq_true rfl) ⟨by show _ ≤ 500; omega, by show _ ≤ 3000; omega⟩ dL_isTold_563 rfl (fun zq11 Mz12 hzq11 hPz11 => ?_)
                    refine zZ_cs (k := 465 + 4 * i4.toNat) (n := 2790 + 24 * i4.toNat) (by omega) (by omega) ?_
                    obtain ⟨rfl, hPz11⟩ := hPz11
                    have hx9 : zq11 = 0 := hPz11.2.trans h161
                    refine z_if_ne C 566 639 dL_isTold_566 (by decide) hzq11 (fun c566_78 => ?_) (fun c566_78 => ?_)
                    · exact absurd hx9 c566_78
                    refine z_aload_n C 569 dL_isTold_569 rfl 0 rfl ?_
                    refine z_aload C 570 dL_isTold_570 10 rfl ?_
                    refine z_iconst C 572 dL_isTold_572 ?_
                    refine z_ialdj C 573 (show 0 < 1 by omega) (zc36 ..) 3 rfl (by decide) (by omega) (show 3 < ((12 : Nat) : Int) by omega) dL_isTold_573 (fun zq13 ezq13 hzq13 => ?_)
                    refine zs_call C 574 (n := 2) (As := [.ref (zad G 0 0), .int (zI zq13)]) (rest := []) (v_version l hfl G M hw zq13 (by first | assumption | decide | omega)) wm_L_99 wcw_L_version wini_L wst_L_version ⟨by decide, by decide, by decide⟩ ⟨by decide, by decide⟩ rfl (Nat.le_of_ble_eq_true rfl) ⟨by show _ ≤ 500; omega, by show _ ≤ 3000; omega⟩ dL_isTold_574 rfl (fun zq14 Mz15 hzq14 hPz14 => ?_)
                    refine zZ_cs (k := 466 + 4 * i4.toNat) (n := 2796 + 24 * i4.toNat) (by omega) (by omega) ?_
                    obtain ⟨ezzq14, emzq14⟩ := hPz14.1 (fun q => by have q1 : zq13 < zV M 1 0 1 := q.2; omega)
                    subst ezzq14
                    have emzq14 := emzq14.symm
                    subst emzq14
                    refine z_bipush C 577 dL_isTold_577 (by decide +kernel) ?_
                    refine z_icmp_ne C 579 639 dL_isTold_579 (by decide) (by decide) (by decide) (fun c579_91 => ?_) (fun c579_91 => ?_)
                    · exact absurd c579_91 (by decide)
                    refine z_aload_n C 582 dL_isTold_582 rfl 0 rfl ?_
                    refine z_iconst C 583 dL_isTold_583 ?_
                    refine zs_call C 584 (n := 2) (As := [.ref (zad G 0 0), .int (zI (-1))]) (rest := []) (v_version l hfl G M hw (-1) (by first | assumption | decide | omega)) wm_L_99 wcw_L_version wini_L wst_L_version ⟨by decide, by decide, by decide⟩ ⟨by decide, by decide⟩ rfl (Nat.le_of_ble_eq_true rfl) ⟨by show _ ≤ 500; omega, by show _ ≤ 3000; omega⟩ dL_isTold_584 rfl (fun zq16 Mz17 hzq16 hPz16 => ?_)
                    refine zZ_cs (k := 467 + 4 * i4.toNat) (n := 2802 + 24 * i4.toNat) (by omega) (by omega) ?_
                    obtain ⟨ezzq16, emzq16⟩ := hPz16.1 (fun q => by omega)
                    subst ezzq16
                    have emzq16 := emzq16.symm
                    subst emzq16
                    refine z_bipush C 587 dL_isTold_587 (by decide +kernel) ?_
                    refine z_icmp_ne C 589 639 dL_isTold_589 (by decide) (by decide) (by decide) (fun c589_102 => ?_) (fun c589_102 => ?_)
                    · exact absurd c589_102 (by decide)
                    refine z_aload_n C 592 dL_isTold_592 rfl 0 rfl ?_
                    refine z_ldc C 593 wk_L_88 dL_isTold_593 ?_
                    refine zs_call C 595 (n := 2) (As := [.ref (zad G 0 0), .int (zI 65536)]) (rest := []) (v_mappingOf l hfl G M hw 65536 (by first | assumption | decide | omega)) wm_L_164 wcw_L_mappingOf wini_L wst_L_mappingOf ⟨by decide, by decide, by decide⟩ ⟨by decide, by decide⟩ rfl (Nat.le_of_ble_eq_true rfl) ⟨by show _ ≤ 500; omega, by show _ ≤ 3000; omega⟩ dL_isTold_595 rfl (fun zq18 Mz19 hzq18 hPz18 => ?_)
                    refine zZ_cs (k := 468 + 4 * i4.toNat) (n := 2808 + 24 * i4.toNat) (by omega) (by omega) ?_
                    obtain ⟨ezzq18, emzq18⟩ := hPz18.1 (fun q => by omega)
                    subst ezzq18
                    have emzq18 := emzq18.symm
                    subst emzq18
                    refine z_bipush C 598 dL_isTold_598 (by decide +kernel) ?_
                    refine z_icmp_ne C 600 639 dL_isTold_600 (by decide) (by decide) (by decide) (fun c600_113 => ?_) (fun c600_113 => ?_)
                    · exact absurd c600_113 (by decide)
                    refine z_aload_n C 603 dL_isTold_603 rfl 0 rfl ?_
                    refine z_iconst C 604 dL_isTold_604 ?_
                    refine zs_call C 605 (n := 2) (As := [.ref (zad G 0 0), .int (zI (-1))]) (rest := []) (v_answerLength l hfl G M hw (-1) (by first | assumption | decide | omega)) wm_L_166 wcw_L_answerLength wini_L wst_L_answerLength ⟨by decide, by decide, by decide⟩ ⟨by decide, by decide⟩ rfl (Nat.le_of_ble_eq_true rfl) ⟨by show _ ≤ 500; omega, by show _ ≤ 3000; omega⟩ dL_isTold_605 rfl (fun zq20 Mz21 hzq20 hPz20 => ?_)
                    refine zZ_cs (k := 469 + 4 * i4.toNat) (n := 2814 + 24 * i4.toNat) (by omega) (by omega) ?_
                    obtain ⟨ezzq20, emzq20⟩ := hPz20.1 (fun q => by omega)
                    subst ezzq20
                    have emzq20 := emzq20.symm
                    subst emzq20
                    refine z_bipush C 608 dL_isTold_608 (by decide +kernel) ?_
                    refine z_icmp_ne C 610 639 dL_isTold_610 (by decide) (by decide) (by decide) (fun c610_124 => ?_) (fun c610_124 => ?_)
                    · exact absurd c610_124 (by decide)
                    refine z_aload_n C 613 dL_isTold_613 rfl 0 rfl ?_
                    refine z_ldc C 614 wk_L_88 dL_isTold_614 ?_
                    refine zs_call C 616 (n := 2) (As := [.ref (zad G 0 0), .int (zI 65536)]) (rest := []) (v_serverOf l hfl G M hw 65536 (by first | assumption | decide | omega)) wm_L_168 wcw_L_serverOf wini_L wst_L_serverOf ⟨by decide, by decide, by decide⟩ ⟨by decide, by decide⟩ rfl (Nat.le_of_ble_eq_true rfl) ⟨by show _ ≤ 500; omega, by show _ ≤ 3000; omega⟩ dL_isTold_616 rfl (fun zq22 Mz23 hzq22 hPz22 => ?_)
                    refine zZ_cs (k := 470 + 4 * i4.toNat) (n := 2820 + 24 * i4.toNat) (by omega) (by omega) ?_
                    obtain ⟨ezzq22, emzq22⟩ := hPz22.1 (fun q => by omega)
                    subst ezzq22
                    have emzq22 := emzq22.symm
                    subst emzq22
                    refine z_bipush C 619 dL_isTold_619 (by decide +kernel) ?_
                    refine z_icmp_ne C 621 639 dL_isTold_621 (by decide) (by decide) (by decide) (fun c621_135 => ?_) (fun c621_135 => ?_)
                    · exact absurd c621_135 (by decide)
                    refine z_aload_n C 624 dL_isTold_624 rfl 0 rfl ?_
                    refine z_iconst C 625 dL_isTold_625 ?_
                    refine z_iconst C 626 dL_isTold_626 ?_
                    refine zs_call C 627 (n := 3) (As := [.ref (zad G 0 0), .int (zI 3), .int (zI 0)]) (rest := []) (v_prefixOf l hfl G M hw 3 0 (by first | assumption | decide | omega) (by first | assumption | decide | omega)) wm_L_154 wcw_L_prefixOf wini_L wst_L_prefixOf ⟨by decide, by decide, by decide⟩ ⟨by decide, by decide⟩ rfl (Nat.le_of_ble_eq_true rfl) ⟨by show _ ≤ 500; omega, by show _ ≤ 3000; omega⟩ dL_isTold_627 rfl (fun zq24 Mz25 hzq24 hPz24 => ?_)
                    refine zZ_cs (k := 472 + 4 * i4.toNat) (n := 2832 + 24 * i4.toNat) (by omega) (by omega) ?_
                    obtain ⟨ezzq24, emzq24⟩ := hPz24.1 (fun q => by omega)
                    subst ezzq24
                    have emzq24 := emzq24.symm
                    subst emzq24
                    refine z_bipush C 630 dL_isTold_630 (by decide +kernel) ?_
                    refine z_icmp_ne C 632 639 dL_isTold_632 (by decide) (by decide) (by decide) (fun c632_147 => ?_) (fun c632_147 => ?_)
                    · exact absurd c632_147 (by decide)
                    refine z_iconst C 635 dL_isTold_635 ?_
                    refine z_goto C 636 640 dL_isTold_636 (by decide) ?_
                    refine z_zret C 640 dL_isTold_640 (by omega) (by omega) (by decide) ?_
                    exact ⟨rfl, rfl⟩
                  refine z_iload_n C 441 dL_isTold_441 rfl 1 rfl ?_
                  refine z_iconst C 442 dL_isTold_442 ?_
                  refine z_iload C 443 dL_isTold_443 11 rfl ?_
                  refine z_imul C 445 dL_isTold_445 ?_
                  refine z_ishr_any C 446 dL_isTold_446 (fun zv26 hzv26 => ?_)
                  refine z_callSi C 447 (As := [.int (zI zv26)]) (rest := []) (c_L_identifier l G M zv26) (zS_of 1 C wm_L_89 wc_L_identifier wini_L wst_L_identifier ⟨by decide, by decide, by decide⟩ ⟨by decide, by decide⟩) rfl (Nat.le_of_ble_eq_true rfl) ⟨by show _ ≤ 500; omega, by show _ ≤ 3000; omega⟩ dL_isTold_447 rfl (fun zq27 Mz28 hzq27 hPz27 => ?_)
                  refine zZ_cs (k := 464 + 4 * i4.toNat) (n := 2784 + 24 * i4.toNat) (by omega) (by omega) ?_
                  obtain ⟨rfl, hPz27⟩ := hPz27
                  refine z_istore (lv' := [(12, .int (zI zq27)), (0, .ref (zad G 0 0)), (1, .int (zI y)), (2, .ref (zad G 26 0)), (3, .ref (zad G 27 0)), (4, .ref (zad G 29 0)), (5, .ref (zad G 30 0)), (6, .ref (zad G 31 0)), (7, .ref (zad G 32 0)), (8, .ref (zad G 33 0)), (9, .ref (zad G 34 0)), (10, .ref (zad G 36 0)), (11, .int (zI i4))]) C 450 dL_isTold_450 (by decide) rfl ?_
                  refine z_aload_n C 452 dL_isTold_452 rfl 3 rfl ?_
                  refine z_aload_n C 453 dL_isTold_453 rfl 4 rfl ?_
                  refine z_aload C 454 dL_isTold_454 11 rfl ?_
                  refine z_iload C 456 dL_isTold_456 0 rfl ?_
                  refine z_callSi C 458 (As := [.ref (zad G 26 0), .ref (zad G 27 0), .ref (zad G 36 0), .int (zI zq27)]) (rest := []) (c_L_mapping l G M hA zq27 (by omega)) (zS_of 4 C wm_L_121 wc_L_mapping wini_L wst_L_mapping ⟨by decide, by decide, by decide⟩ ⟨by decide, by decide⟩) rfl (Nat.le_of_ble_eq_true rfl) ⟨by show _ ≤ 500; omega, by show _ ≤ 3000; omega⟩ dL_isTold_458 rfl (fun zq29 Mz30 hzq29 hPz29 => ?_)
                  refine zZ_cs (k := 464 + 4 * i4.toNat) (n := 2784 + 24 * i4.toNat) (by omega) (by omega) ?_
                  obtain ⟨rfl, hPz29⟩ := hPz29
                  have hmf := hPz29
                  have hmr := zfnd_rg hmf
                  refine z_istore (lv' := [(13, .int (zI zq29)), (12, .int (zI zq27)), (0, .ref (zad G 0 0)), (1, .int (zI y)), (2, .ref (zad G 26 0)), (3, .ref (zad G 27 0)), (4, .ref (zad G 29 0)), (5, .ref (zad G 30 0)), (6, .ref (zad G 31 0)), (7, .ref (zad G 32 0)), (8, .ref (zad G 33 0)), (9, .ref (zad G 34 0)), (10, .ref (zad G 36 0)), (11, .int (zI i4))]) C 461 dL_isTold_461 (by decide) rfl ?_
                  refine z_aload_n C 463 dL_isTold_463 rfl 2 rfl ?_
                  refine z_iload C 464 dL_isTold_464 1 rfl ?_
                  refine zs_call C 466 (n := 2) (As := [.ref (zad G 0 0), .int (zI zq27)]) (rest := []) (v_mappingOf l hfl G M hw zq27 (by first | assumption | decide | omega)) wm_L_164 wcw_L_mappingOf wini_L wst_L_mappingOf ⟨by decide, by decide, by decide⟩ ⟨by decide, by decide⟩ rfl (Nat.le_of_ble_eq_true rfl) ⟨by show _ ≤ 500; omega, by show _ ≤ 3000; omega⟩ dL_isTold_466 rfl (fun zq31 Mz32 hzq31 hPz31 => ?_)
                  refine zZ_cs (k := 465 + 4 * i4.toNat) (n := 2790 + 24 * i4.toNat) (by omega) (by omega) ?_
                  obtain ⟨emzq31, hPz31r⟩ := hPz31.2 (by omega)
                  subst emzq31
                  have hx9 := i_fu hPz31r hmf
                  refine z_iload C 469 dL_isTold_469 0 rfl ?_
                  refine z_icmp_ne C 471 541 dL_isTold_471 (by decide) hzq31 hzq29 (fun c471_179 => ?_) (fun c471_179 => ?_)
                  · exact absurd hx9 c471_179
                  refine z_aload_n C 474 dL_isTold_474 rfl 2 rfl ?_
                  refine z_iload C 475 dL_isTold_475 1 rfl ?_
                  refine zs_call C 477 (n := 2) (As := [.ref (zad G 0 0), .int (zI zq27)]) (rest := []) (v_answerLength l hfl G M hw zq27 (by first | assumption | decide | omega)) wm_L_166 wcw_L_answerLength wini_L wst_L_answerLength ⟨by decide, by decide, by decide⟩ ⟨by decide, by decide⟩ rfl (Nat.le_of_ble_eq_true rfl) ⟨by show _ ≤ 500; omega, by show _ ≤ 3000; omega⟩ dL_isTold_477 rfl (fun zq33 Mz34 hzq33 hPz33 => ?_)
                  refine zZ_cs (k := 466 + 4 * i4.toNat) (n := 2796 + 24 * i4.toNat) (by omega) (by omega) ?_
                  obtain ⟨emzq33, hPz33r⟩ := hPz33.2 (by omega)
                  subst emzq33
                  obtain ⟨mm9, L9, ha1, ha2, ha3⟩ := hPz33r
                  have hmm9 := i_fu ha1 hmf
                  rw [hmm9] at ha2 ha3
                  refine z_aload_n C 480 dL_isTold_480 rfl 4 rfl ?_
                  refine z_aload_n C 481 dL_isTold_481 rfl 5 rfl ?_
                  refine z_aload C 482 dL_isTold_482 12 rfl ?_
                  refine z_iload C 484 dL_isTold_484 1 rfl ?_
                  refine z_iload C 486 dL_isTold_486 0 rfl ?_
                  refine z_callSi C 488 (As := [.ref (zad G 26 0), .ref (zad G 27 0), .ref (zad G 36 0), .int (zI zq27), .int (zI zq29)]) (rest := [.int (zI zq33)]) (c_L_bits l G M hA zq27 zq29 (by omega) hmf) (zS_of 5 C wm_L_125 wc_L_bits wini_L wst_L_bits ⟨by decide, by decide, by decide⟩ ⟨by decide, by decide⟩) rfl (Nat.le_of_ble_eq_true rfl) ⟨by show _ ≤ 500; omega, by show _ ≤ 3000; omega⟩ dL_isTold_488 rfl (fun zq35 Mz36 hzq35 hPz35 => ?_)
                  refine zZ_cs (k := 466 + 4 * i4.toNat) (n := 2796 + 24 * i4.toNat) (by omega) (by omega) ?_
                  obtain ⟨rfl, hPz35⟩ := hPz35
                  have hL9 := znar_u ha2 hPz35
                  rw [hL9] at ha3
                  have hbr : 0 ≤ zq35 ∧ zq35 ≤ 16 := ⟨by have := hPz35.1; omega, hPz35.2.1⟩
                  refine z_iload C 491 dL_isTold_491 0 rfl ?_
                  refine z_if_ge C 493 501 dL_isTold_493 (by decide) hzq29 (fun c493_202 => ?_) (fun c493_202 => ?_)
                  · have hy9 : zq33 = zq35 := by rw [ha3, if_neg (show ¬ zq29 = -1 by omega)]
                    refine z_iconst C 501 dL_isTold_501 ?_
                    refine z_iadd C 502 dL_isTold_502 ?_
                    refine z_icmp_ne C 503 541 dL_isTold_503 (by decide) hzq33 (by first | assumption | omega) (fun c503_207 => ?_) (fun c503_207 => ?_)
                    · exact absurd (by omega) c503_207
                    refine z_aload_n C 506 dL_isTold_506 rfl 2 rfl ?_
                    refine z_iload C 507 dL_isTold_507 1 rfl ?_
                    refine zs_call C 509 (n := 2) (As := [.ref (zad G 0 0), .int (zI zq27)]) (rest := []) (v_serverOf l hfl G M hw zq27 (by first | assumption | decide | omega)) wm_L_168 wcw_L_serverOf wini_L wst_L_serverOf ⟨by decide, by decide, by decide⟩ ⟨by decide, by decide⟩ rfl (Nat.le_of_ble_eq_true rfl) ⟨by show _ ≤ 500; omega, by show _ ≤ 3000; omega⟩ dL_isTold_509 rfl (fun zq37 Mz38 hzq37 hPz37 => ?_)
                    refine zZ_cs (k := 467 + 4 * i4.toNat) (n := 2802 + 24 * i4.toNat) (by omega) (by omega) ?_
                    obtain ⟨emzq37, hPz37r⟩ := hPz37.2 (by omega)
                    subst emzq37
                    obtain ⟨w9, hw9, hw8⟩ := hPz37r
                    refine z_aload C 512 dL_isTold_512 6 rfl ?_
                    refine z_aload C 514 dL_isTold_514 12 rfl ?_
                    refine z_iload C 516 dL_isTold_516 1 rfl ?_
                    refine z_callSi C 518 (As := [.ref (zad G 29 0), .ref (zad G 36 0), .int (zI zq27)]) (rest := [.int (zI zq37)]) (c_L_server l G M hB zq27 (by omega)) (zS_of 3 C wm_L_117 wc_L_server wini_L wst_L_server ⟨by decide, by decide, by decide⟩ ⟨by decide, by decide⟩) rfl (Nat.le_of_ble_eq_true rfl) ⟨by show _ ≤ 500; omega, by show _ ≤ 3000; omega⟩ dL_isTold_518 rfl (fun zq39 Mz40 hzq39 hPz39 => ?_)
                    refine zZ_cs (k := 467 + 4 * i4.toNat) (n := 2802 + 24 * i4.toNat) (by omega) (by omega) ?_
                    obtain ⟨rfl, hPz39⟩ := hPz39
                    obtain ⟨w7, hw7, hw6⟩ := hPz39
                    have hx9 : zq37 = zq39 := by rw [hw8, hw6, i_fu hw9 hw7]
                    refine z_icmp_ne C 521 541 dL_isTold_521 (by decide) hzq37 hzq39 (fun c521_224 => ?_) (fun c521_224 => ?_)
                    · exact absurd hx9 c521_224
                    refine z_aload_n C 524 dL_isTold_524 rfl 2 rfl ?_
                    refine z_iload C 525 dL_isTold_525 13 rfl ?_
                    refine zn_callVi C 527 (As := [.int (zI i4)]) (rest := []) (c_X7_answers l hfl G M hw i4 (by omega)) (fun E q => q.2 ⟨by omega, by omega⟩) zcl7 (show 0 < 1 by omega) (zc0 ..) (zW_of 1 C wm_L_170 wc_X7_answers wini_7 wi_X7_answers wse_X7_answers ⟨by decide, by decide, by decide⟩ ⟨by decide, by decide⟩) rfl (Nat.le_of_ble_eq_true rfl) ⟨by show _ ≤ 500; omega, by show _ ≤ 3000; omega⟩ dL_isTold_527 rfl (fun zq41 Mz42 hzq41 hPz41 => ?_)
                    refine zZ_cs (k := 468 + 4 * i4.toNat) (n := 2808 + 24 * i4.toNat) (by omega) (by omega) ?_
                    obtain ⟨rfl, hPz41⟩ := hPz41
                    have ha9 := (hS.2 i4.toNat (by omega)).2.2.1
                    have hx8 := hPz41.2
                    refine z_aload C 530 dL_isTold_530 12 rfl ?_
                    refine z_bipush C 532 dL_isTold_532 (by decide +kernel) ?_
                    refine z_iload C 534 dL_isTold_534 13 rfl ?_
                    refine z_iadd C 536 dL_isTold_536 ?_
                    refine z_ialdj C 537 (show 0 < 1 by omega) (zc36 ..) (8 + i4.toNat) (by omega) (by first | assumption | omega) (by omega) (show (8 + i4) < ((12 : Nat) : Int) by omega) dL_isTold_537 (fun zq43 ezq43 hzq43 => ?_)
                    refine z_icmp_eq C 538 543 dL_isTold_538 (by decide) hzq41 hzq43 (fun c538_238 => ?_) (fun c538_238 => ?_)
                    rotate_left
                    · exact absurd (by omega) c538_238
                    refine z_iinc (lv' := [(11, .int (zI (i4 + 1))), (13, .int (zI zq29)), (12, .int (zI zq27)), (0, .ref (zad G 0 0)), (1, .int (zI y)), (2, .ref (zad G 26 0)), (3, .ref (zad G 27 0)), (4, .ref (zad G 29 0)), (5, .ref (zad G 30 0)), (6, .ref (zad G 31 0)), (7, .ref (zad G 32 0)), (8, .ref (zad G 33 0)), (9, .ref (zad G 34 0)), (10, .ref (zad G 36 0))]) C 543 dL_isTold_543 13 rfl (by decide) rfl ?_
                    refine z_goto C 546 435 dL_isTold_546 (by decide) ?_
                    refine z_sub (lv' := [(0, .ref (zad G 0 0)), (1, .int (zI y)), (2, .ref (zad G 26 0)), (3, .ref (zad G 27 0)), (4, .ref (zad G 29 0)), (5, .ref (zad G 30 0)), (6, .ref (zad G 31 0)), (7, .ref (zad G 32 0)), (8, .ref (zad G 33 0)), (9, .ref (zad G 34 0)), (10, .ref (zad G 36 0)), (11, .int (zI (i4 + 1)))]) [3, 4, 5, 6, 7, 8, 9, 10, 11, 12, 13, 0] rfl ?_
                    refine zZ_wd (k := 464 + 4 * (i4 + 1 : Int).toNat) (n := 2784 + 24 * (i4 + 1 : Int).toNat) (by omega) (by omega) ?_
                    exact ihz7 (i4 + 1) (by omega) (by omega)
                  have hy9 : zq33 = zq35 + 17 := by rw [ha3, if_pos (show zq29 = -1 by omega)]
                  refine z_bipush C 496 dL_isTold_496 (by decide +kernel) ?_
                  refine z_goto C 498 502 dL_isTold_498 (by decide) ?_
                  refine z_iadd C 502 dL_isTold_502 ?_
                  refine z_icmp_ne C 503 541 dL_isTold_503 (by decide) hzq33 (by first | assumption | omega) (fun c503_249 => ?_) (fun c503_249 => ?_)
                  · exact absurd (by omega) c503_249
                  refine z_aload_n C 506 dL_isTold_506 rfl 2 rfl ?_
                  refine z_iload C 507 dL_isTold_507 1 rfl ?_
                  refine zs_call C 509 (n := 2) (As := [.ref (zad G 0 0), .int (zI zq27)]) (rest := []) (v_serverOf l hfl G M hw zq27 (by first | assumption | decide | omega)) wm_L_168 wcw_L_serverOf wini_L wst_L_serverOf ⟨by decide, by decide, by decide⟩ ⟨by decide, by decide⟩ rfl (Nat.le_of_ble_eq_true rfl) ⟨by show _ ≤ 500; omega, by show _ ≤ 3000; omega⟩ dL_isTold_509 rfl (fun zq44 Mz45 hzq44 hPz44 => ?_)
                  refine zZ_cs (k := 467 + 4 * i4.toNat) (n := 2802 + 24 * i4.toNat) (by omega) (by omega) ?_
                  obtain ⟨emzq44, hPz44r⟩ := hPz44.2 (by omega)
                  subst emzq44
                  obtain ⟨w9, hw9, hw8⟩ := hPz44r
                  refine z_aload C 512 dL_isTold_512 6 rfl ?_
                  refine z_aload C 514 dL_isTold_514 12 rfl ?_
                  refine z_iload C 516 dL_isTold_516 1 rfl ?_
                  refine z_callSi C 518 (As := [.ref (zad G 29 0), .ref (zad G 36 0), .int (zI zq27)]) (rest := [.int (zI zq44)]) (c_L_server l G M hB zq27 (by omega)) (zS_of 3 C wm_L_117 wc_L_server wini_L wst_L_server ⟨by decide, by decide, by decide⟩ ⟨by decide, by decide⟩) rfl (Nat.le_of_ble_eq_true rfl) ⟨by show _ ≤ 500; omega, by show _ ≤ 3000; omega⟩ dL_isTold_518 rfl (fun zq46 Mz47 hzq46 hPz46 => ?_)
                  refine zZ_cs (k := 467 + 4 * i4.toNat) (n := 2802 + 24 * i4.toNat) (by omega) (by omega) ?_
                  obtain ⟨rfl, hPz46⟩ := hPz46
                  obtain ⟨w7, hw7, hw6⟩ := hPz46
                  have hx9 : zq44 = zq46 := by rw [hw8, hw6, i_fu hw9 hw7]
                  refine z_icmp_ne C 521 541 dL_isTold_521 (by decide) hzq44 hzq46 (fun c521_266 => ?_) (fun c521_266 => ?_)
                  · exact absurd hx9 c521_266
                  refine z_aload_n C 524 dL_isTold_524 rfl 2 rfl ?_
                  refine z_iload C 525 dL_isTold_525 13 rfl ?_
                  refine zn_callVi C 527 (As := [.int (zI i4)]) (rest := []) (c_X7_answers l hfl G M hw i4 (by omega)) (fun E q => q.2 ⟨by omega, by omega⟩) zcl7 (show 0 < 1 by omega) (zc0 ..) (zW_of 1 C wm_L_170 wc_X7_answers wini_7 wi_X7_answers wse_X7_answers ⟨by decide, by decide, by decide⟩ ⟨by decide, by decide⟩) rfl (Nat.le_of_ble_eq_true rfl) ⟨by show _ ≤ 500; omega, by show _ ≤ 3000; omega⟩ dL_isTold_527 rfl (fun zq48 Mz49 hzq48 hPz48 => ?_)
                  refine zZ_cs (k := 468 + 4 * i4.toNat) (n := 2808 + 24 * i4.toNat) (by omega) (by omega) ?_
                  obtain ⟨rfl, hPz48⟩ := hPz48
                  have ha9 := (hS.2 i4.toNat (by omega)).2.2.1
                  have hx8 := hPz48.2
                  refine z_aload C 530 dL_isTold_530 12 rfl ?_
                  refine z_bipush C 532 dL_isTold_532 (by decide +kernel) ?_
                  refine z_iload C 534 dL_isTold_534 13 rfl ?_
                  refine z_iadd C 536 dL_isTold_536 ?_
                  refine z_ialdj C 537 (show 0 < 1 by omega) (zc36 ..) (8 + i4.toNat) (by omega) (by first | assumption | omega) (by omega) (show (8 + i4) < ((12 : Nat) : Int) by omega) dL_isTold_537 (fun zq50 ezq50 hzq50 => ?_)
                  refine z_icmp_eq C 538 543 dL_isTold_538 (by decide) hzq48 hzq50 (fun c538_280 => ?_) (fun c538_280 => ?_)
                  rotate_left
                  · exact absurd (by omega) c538_280
                  refine z_iinc (lv' := [(11, .int (zI (i4 + 1))), (13, .int (zI zq29)), (12, .int (zI zq27)), (0, .ref (zad G 0 0)), (1, .int (zI y)), (2, .ref (zad G 26 0)), (3, .ref (zad G 27 0)), (4, .ref (zad G 29 0)), (5, .ref (zad G 30 0)), (6, .ref (zad G 31 0)), (7, .ref (zad G 32 0)), (8, .ref (zad G 33 0)), (9, .ref (zad G 34 0)), (10, .ref (zad G 36 0))]) C 543 dL_isTold_543 13 rfl (by decide) rfl ?_
                  refine z_goto C 546 435 dL_isTold_546 (by decide) ?_
                  refine z_sub (lv' := [(0, .ref (zad G 0 0)), (1, .int (zI y)), (2, .ref (zad G 26 0)), (3, .ref (zad G 27 0)), (4, .ref (zad G 29 0)), (5, .ref (zad G 30 0)), (6, .ref (zad G 31 0)), (7, .ref (zad G 32 0)), (8, .ref (zad G 33 0)), (9, .ref (zad G 34 0)), (10, .ref (zad G 36 0)), (11, .int (zI (i4 + 1)))]) [3, 4, 5, 6, 7, 8, 9, 10, 11, 12, 13, 0] rfl ?_
                  refine zZ_wd (k := 464 + 4 * (i4 + 1 : Int).toNat) (n := 2784 + 24 * (i4 + 1 : Int).toNat) (by omega) (by omega) ?_
                  exact ihz7 (i4 + 1) (by omega) (by omega)
              refine z_sub (lv' := [(0, .ref (zad G 0 0)), (1, .int (zI y)), (2, .ref (zad G 26 0)), (3, .ref (zad G 27 0)), (4, .ref (zad G 29 0)), (5, .ref (zad G 30 0)), (6, .ref (zad G 31 0)), (7, .ref (zad G 32 0)), (8, .ref (zad G 33 0)), (9, .ref (zad G 34 0)), (10, .ref (zad G 36 0)), (11, .int (zI 0))]) [1, 2, 3, 4, 5, 6, 7, 8, 9, 10, 11, 0] rfl ?_
              refine zZ_wd (k := 464 + 4 * (0 : Int).toNat) (n := 2784 + 24 * (0 : Int).toNat) (by omega) (by omega) ?_
              exact L435_6 (((4 - 0 : Int)).toNat + 1) 0 (by omega) (by omega)
            refine z_iconst C 53 dL_isTold_53 ?_
            refine z_istore (lv' := [(12, .int (zI 0)), (0, .ref (zad G 0 0)), (1, .int (zI y)), (2, .ref (zad G 26 0)), (3, .ref (zad G 27 0)), (4, .ref (zad G 29 0)), (5, .ref (zad G 30 0)), (6, .ref (zad G 31 0)), (7, .ref (zad G 32 0)), (8, .ref (zad G 33 0)), (9, .ref (zad G 34 0)), (10, .ref (zad G 36 0)), (11, .int (zI r))]) C 54 dL_isTold_54 (by decide) rfl ?_
            refine z_bipush C 56 dL_isTold_56 (by decide +kernel) ?_
            refine z_iload C 58 dL_isTold_58 12 rfl ?_
            refine z_imul C 60 dL_isTold_60 ?_
            refine z_istore (lv' := [(13, .int (zI (8 * r))), (12, .int (zI 0)), (0, .ref (zad G 0 0)), (1, .int (zI y)), (2, .ref (zad G 26 0)), (3, .ref (zad G 27 0)), (4, .ref (zad G 29 0)), (5, .ref (zad G 30 0)), (6, .ref (zad G 31 0)), (7, .ref (zad G 32 0)), (8, .ref (zad G 33 0)), (9, .ref (zad G 34 0)), (10, .ref (zad G 36 0)), (11, .int (zI r))]) C 61 dL_isTold_61 (by decide) rfl ?_
            have L63_51 : ∀ (kz51 : Nat) (ct : Int) (k1 : Int), (8 * r ≤ k1 ∧ k1 ≤ 8 * r + 8) → (ct = zsm (fun j => zind (0 ≤ zV M 30 0 (8 * r.toNat + j))) (k1 - 8 * r).toNat) → (8 * r + 8 - k1) < (kz51 : Int) → zZ p l e (zR 11 500 3000) s m ([.ref (zad G 0 0), .int (zI y), .ref (zad G 26 0), .ref (zad G 27 0), .ref (zad G 29 0), .ref (zad G 30 0), .ref (zad G 31 0), .ref (zad G 32 0), .ref (zad G 33 0), .ref (zad G 34 0), .ref (zad G 36 0)] : List Value).toArray below meth c G 18 (MQ below (zQi G (fun x M' => M = M' ∧ x = 1)) ([.ref (zad G 0 0), .int (zI y), .ref (zad G 26 0), .ref (zad G 27 0), .ref (zad G 29 0), .ref (zad G 30 0), .ref (zad G 31 0), .ref (zad G 32 0), .ref (zad G 33 0), .ref (zad G 34 0), .ref (zad G 36 0)] : List Value).toArray s 500 3000 (zA G)) M (16 + 224 * r.toNat) (96 + 1344 * r.toNat) 63 [(0, .ref (zad G 0 0)), (1, .int (zI y)), (2, .ref (zad G 26 0)), (3, .ref (zad G 27 0)), (4, .ref (zad G 29 0)), (5, .ref (zad G 30 0)), (6, .ref (zad G 31 0)), (7, .ref (zad G 32 0)), (8, .ref (zad G 33 0)), (9, .ref (zad G 34 0)), (10, .ref (zad G 36 0)), (11, .int (zI r)), (12, .int (zI ct)), (13, .int (zI k1))] [] := by
              intro kz51
              induction kz51 with
              | zero =>
                intro ct k1 f0 f1 hk
                exact absurd hk (by omega)
              | succ kz51 ihz52 =>
                intro ct k1 f0 f1 hk
                have hl9 := zsm_01 (f := fun j => zind (0 ≤ zV M 30 0 (8 * r.toNat + j))) (fun _ => zind_rg _) (k1 - 8 * r).toNat
                refine z_iload C 63 dL_isTold_63 13 rfl ?_
                refine z_bipush C 65 dL_isTold_65 (by decide +kernel) ?_
                refine z_iload C 67 dL_isTold_67 11 rfl ?_
                refine z_imul C 69 dL_isTold_69 ?_
                refine z_bipush C 70 dL_isTold_70 (by decide +kernel) ?_
                refine z_iadd C 72 dL_isTold_72 ?_
                refine z_icmp_ge C 73 100 dL_isTold_73 (by decide) (by first | assumption | omega) (by first | assumption | omega) (fun c73_311 => ?_) (fun c73_311 => ?_)
                · have hc9 := t_cnt h (r := r) ⟨by omega, by omega⟩
                  rw [show (k1 - 8 * r).toNat = 8 by omega, hc9.1] at f1
                  have hc8 := hc9.2
                  clear hc9
                  refine z_aload_n C 100 dL_isTold_100 rfl 0 rfl ?_
                  refine z_iconst C 101 dL_isTold_101 ?_
                  refine z_iload C 102 dL_isTold_102 11 rfl ?_
                  refine z_imul C 104 dL_isTold_104 ?_
                  refine zn_callVi C 105 (As := [.int (zI (2 * r))]) (rest := []) (c_X7_entries l hfl G M (2 * r) (by omega)) (fun E q => q.2 ⟨by omega, by omega⟩) zcl7 (show 0 < 1 by omega) (zc0 ..) (zW_of 1 C wm_L_151 wc_X7_entries wini_7 wi_X7_entries wse_X7_entries ⟨by decide, by decide, by decide⟩ ⟨by decide, by decide⟩) rfl (Nat.le_of_ble_eq_true rfl) ⟨by show _ ≤ 500; omega, by show _ ≤ 3000; omega⟩ dL_isTold_105 rfl (fun zq53 Mz54 hzq53 hPz53 => ?_)
                  refine zZ_cs (k := 17 + 224 * r.toNat) (n := 102 + 1344 * r.toNat) (by omega) (by omega) ?_
                  obtain ⟨rfl, hPz53⟩ := hPz53
                  have hx9 := hPz53.2
                  refine z_iload C 108 dL_isTold_108 12 rfl ?_
                  refine z_icmp_ne C 110 159 dL_isTold_110 (by decide) hzq53 (by first | assumption | omega) (fun c110_326 => ?_) (fun c110_326 => ?_)
                  · exact absurd (by omega) c110_326
                  refine z_aload_n C 113 dL_isTold_113 rfl 0 rfl ?_
                  refine z_iconst C 114 dL_isTold_114 ?_
                  refine z_iload C 115 dL_isTold_115 11 rfl ?_
                  refine z_imul C 117 dL_isTold_117 ?_
                  refine z_iload C 118 dL_isTold_118 12 rfl ?_
                  refine zs_call C 120 (n := 3) (As := [.ref (zad G 0 0), .int (zI (2 * r)), .int (zI ct)]) (rest := []) (v_prefixOf l hfl G M hw (2 * r) ct (by first | assumption | decide | omega) (by first | assumption | decide | omega)) wm_L_154 wcw_L_prefixOf wini_L wst_L_prefixOf ⟨by decide, by decide, by decide⟩ ⟨by decide, by decide⟩ rfl (Nat.le_of_ble_eq_true rfl) ⟨by show _ ≤ 500; omega, by show _ ≤ 3000; omega⟩ dL_isTold_120 rfl (fun zq55 Mz56 hzq55 hPz55 => ?_)
                  refine zZ_cs (k := 19 + 224 * r.toNat) (n := 114 + 1344 * r.toNat) (by omega) (by omega) ?_
                  obtain ⟨ezzq55, emzq55⟩ := hPz55.1 (fun q => by omega)
                  subst ezzq55
                  have emzq55 := emzq55.symm
                  subst emzq55
                  refine z_bipush C 123 dL_isTold_123 (by decide +kernel) ?_
                  refine z_icmp_ne C 125 159 dL_isTold_125 (by decide) (by decide) (by decide) (fun c125_340 => ?_) (fun c125_340 => ?_)
                  · exact absurd c125_340 (by decide)
                  refine z_aload_n C 128 dL_isTold_128 rfl 0 rfl ?_
                  refine z_iconst C 129 dL_isTold_129 ?_
                  refine z_iload C 130 dL_isTold_130 11 rfl ?_
                  refine z_imul C 132 dL_isTold_132 ?_
                  refine z_iconst C 133 dL_isTold_133 ?_
                  refine zs_call C 134 (n := 3) (As := [.ref (zad G 0 0), .int (zI (2 * r)), .int (zI (-1))]) (rest := []) (v_prefixOf l hfl G M hw (2 * r) (-1) (by first | assumption | decide | omega) (by first | assumption | decide | omega)) wm_L_154 wcw_L_prefixOf wini_L wst_L_prefixOf ⟨by decide, by decide, by decide⟩ ⟨by decide, by decide⟩ rfl (Nat.le_of_ble_eq_true rfl) ⟨by show _ ≤ 500; omega, by show _ ≤ 3000; omega⟩ dL_isTold_134 rfl (fun zq57 Mz58 hzq57 hPz57 => ?_)
                  refine zZ_cs (k := 21 + 224 * r.toNat) (n := 126 + 1344 * r.toNat) (by omega) (by omega) ?_
                  obtain ⟨ezzq57, emzq57⟩ := hPz57.1 (fun q => by omega)
                  subst ezzq57
                  have emzq57 := emzq57.symm
                  subst emzq57
                  refine z_bipush C 137 dL_isTold_137 (by decide +kernel) ?_
                  refine z_icmp_ne C 139 159 dL_isTold_139 (by decide) (by decide) (by decide) (fun c139_354 => ?_) (fun c139_354 => ?_)
                  · exact absurd c139_354 (by decide)
                  refine z_aload_n C 142 dL_isTold_142 rfl 0 rfl ?_
                  refine z_iconst C 143 dL_isTold_143 ?_
                  refine z_iload C 144 dL_isTold_144 11 rfl ?_
                  refine z_imul C 146 dL_isTold_146 ?_
                  refine z_iload C 147 dL_isTold_147 12 rfl ?_
                  refine z_bipush C 149 dL_isTold_149 (by decide +kernel) ?_
                  refine zs_call C 151 (n := 4) (As := [.ref (zad G 0 0), .int (zI (2 * r)), .int (zI ct), .int (zI 32)]) (rest := []) (v_packetsTo l hfl G M hw (2 * r) ct 32 (by first | assumption | decide | omega) (by first | assumption | decide | omega) (by first | assumption | decide | omega)) wm_L_156 wcw_L_packetsTo wini_L wst_L_packetsTo ⟨by decide, by decide, by decide⟩ ⟨by decide, by decide⟩ rfl (Nat.le_of_ble_eq_true rfl) ⟨by show _ ≤ 500; omega, by show _ ≤ 3000; omega⟩ dL_isTold_151 rfl (fun zq59 Mz60 hzq59 hPz59 => ?_)
                  refine zZ_cs (k := 24 + 224 * r.toNat) (n := 144 + 1344 * r.toNat) (by omega) (by omega) ?_
                  obtain ⟨ezzq59, emzq59⟩ := hPz59.1 (fun q => by omega)
                  subst ezzq59
                  have emzq59 := emzq59.symm
                  subst emzq59
                  refine z_bipush C 154 dL_isTold_154 (by decide +kernel) ?_
                  refine z_icmp_eq C 156 161 dL_isTold_156 (by decide) (by decide) (by decide) (fun c156_369 => ?_) (fun c156_369 => ?_)
                  rotate_left
                  · exact absurd c156_369 (by decide)
                  refine z_iconst C 161 dL_isTold_161 ?_
                  refine z_istore (lv' := [(13, .int (zI 0)), (0, .ref (zad G 0 0)), (1, .int (zI y)), (2, .ref (zad G 26 0)), (3, .ref (zad G 27 0)), (4, .ref (zad G 29 0)), (5, .ref (zad G 30 0)), (6, .ref (zad G 31 0)), (7, .ref (zad G 32 0)), (8, .ref (zad G 33 0)), (9, .ref (zad G 34 0)), (10, .ref (zad G 36 0)), (11, .int (zI r)), (12, .int (zI ct))]) C 162 dL_isTold_162 (by decide) rfl ?_
                  have L164_61 : ∀ (kz61 : Nat) (k : Int), (0 ≤ k ∧ k ≤ ct) → (ct - k) < (kz61 : Int) → zZ p l e (zR 11 500 3000) s m ([.ref (zad G 0 0), .int (zI y), .ref (zad G 26 0), .ref (zad G 27 0), .ref (zad G 29 0), .ref (zad G 30 0), .ref (zad G 31 0), .ref (zad G 32 0), .ref (zad G 33 0), .ref (zad G 34 0), .ref (zad G 36 0)] : List Value).toArray below meth c G 18 (MQ below (zQi G (fun x M' => M = M' ∧ x = 1)) ([.ref (zad G 0 0), .int (zI y), .ref (zad G 26 0), .ref (zad G 27 0), .ref (zad G 29 0), .ref (zad G 30 0), .ref (zad G 31 0), .ref (zad G 32 0), .ref (zad G 33 0), .ref (zad G 34 0), .ref (zad G 36 0)] : List Value).toArray s 500 3000 (zA G)) M (24 + 224 * r.toNat + 27 * k.toNat) (144 + 1344 * r.toNat + 162 * k.toNat) 164 [(0, .ref (zad G 0 0)), (1, .int (zI y)), (2, .ref (zad G 26 0)), (3, .ref (zad G 27 0)), (4, .ref (zad G 29 0)), (5, .ref (zad G 30 0)), (6, .ref (zad G 31 0)), (7, .ref (zad G 32 0)), (8, .ref (zad G 33 0)), (9, .ref (zad G 34 0)), (10, .ref (zad G 36 0)), (11, .int (zI r)), (12, .int (zI ct)), (13, .int (zI k))] [] := by
                    intro kz61
                    induction kz61 with
                    | zero =>
                      intro k h0 hk
                      exact absurd hk (by omega)
                    | succ kz61 ihz62 =>
                      intro k h0 hk
                      refine z_iload C 164 dL_isTold_164 13 rfl ?_
                      refine z_iload C 166 dL_isTold_166 12 rfl ?_
                      refine z_icmp_ge C 168 426 dL_isTold_168 (by decide) (by first | assumption | omega) (by first | assumption | omega) (fun c168_384 => ?_) (fun c168_384 => ?_)
                      · refine z_iinc (lv' := [(11, .int (zI (r + 1))), (0, .ref (zad G 0 0)), (1, .int (zI y)), (2, .ref (zad G 26 0)), (3, .ref (zad G 27 0)), (4, .ref (zad G 29 0)), (5, .ref (zad G 30 0)), (6, .ref (zad G 31 0)), (7, .ref (zad G 32 0)), (8, .ref (zad G 33 0)), (9, .ref (zad G 34 0)), (10, .ref (zad G 36 0)), (12, .int (zI ct)), (13, .int (zI k))]) C 426 dL_isTold_426 11 rfl (by decide) rfl ?_
                        refine z_goto C 429 47 dL_isTold_429 (by decide) ?_
                        refine z_sub (lv' := [(0, .ref (zad G 0 0)), (1, .int (zI y)), (2, .ref (zad G 26 0)), (3, .ref (zad G 27 0)), (4, .ref (zad G 29 0)), (5, .ref (zad G 30 0)), (6, .ref (zad G 31 0)), (7, .ref (zad G 32 0)), (8, .ref (zad G 33 0)), (9, .ref (zad G 34 0)), (10, .ref (zad G 36 0)), (11, .int (zI (r + 1)))]) [1, 2, 3, 4, 5, 6, 7, 8, 9, 10, 11, 0] rfl ?_
                        refine zZ_wd (k := 16 + 224 * (r + 1 : Int).toNat) (n := 96 + 1344 * (r + 1 : Int).toNat) (by omega) (by omega) ?_
                        exact ihz5 (r + 1) (by omega) (by omega)
                      refine z_aload C 171 dL_isTold_171 5 rfl ?_
                      refine z_aload C 173 dL_isTold_173 8 rfl ?_
                      refine z_iload C 175 dL_isTold_175 11 rfl ?_
                      refine z_iload C 177 dL_isTold_177 13 rfl ?_
                      refine z_callSi C 179 (As := [.ref (zad G 30 0), .ref (zad G 33 0), .int (zI r), .int (zI k)]) (rest := []) (c_L_entry l G M r (by omega) k (by omega)) (zS_of 4 C wm_L_129 wc_L_entry wini_L wst_L_entry ⟨by decide, by decide, by decide⟩ ⟨by decide, by decide⟩) rfl (Nat.le_of_ble_eq_true rfl) ⟨by show _ ≤ 500; omega, by show _ ≤ 3000; omega⟩ dL_isTold_179 rfl (fun zq63 Mz64 hzq63 hPz63 => ?_)
                      refine zZ_cs (k := 24 + 224 * r.toNat + 27 * k.toNat) (n := 144 + 1344 * r.toNat + 162 * k.toNat) (by omega) (by omega) ?_
                      obtain ⟨rfl, hPz63⟩ := hPz63
                      obtain ⟨s9, hs1, hs2, hen, hwe9, hpf9⟩ := t_ent h ⟨by omega, by omega⟩ (by omega) (by omega) hPz63
                      refine z_istore (lv' := [(14, .int (zI zq63)), (0, .ref (zad G 0 0)), (1, .int (zI y)), (2, .ref (zad G 26 0)), (3, .ref (zad G 27 0)), (4, .ref (zad G 29 0)), (5, .ref (zad G 30 0)), (6, .ref (zad G 31 0)), (7, .ref (zad G 32 0)), (8, .ref (zad G 33 0)), (9, .ref (zad G 34 0)), (10, .ref (zad G 36 0)), (11, .int (zI r)), (12, .int (zI ct)), (13, .int (zI k))]) C 182 dL_isTold_182 (by decide) rfl ?_
                      refine z_aload_n C 184 dL_isTold_184 rfl 1 rfl ?_
                      refine z_iconst C 185 dL_isTold_185 ?_
                      refine z_iload C 186 dL_isTold_186 12 rfl ?_
                      refine z_imul C 188 dL_isTold_188 ?_
                      refine z_iload C 189 dL_isTold_189 14 rfl ?_
                      refine zs_call C 191 (n := 3) (As := [.ref (zad G 0 0), .int (zI (2 * r)), .int (zI k)]) (rest := []) (v_prefixOf l hfl G M hw (2 * r) k (by first | assumption | decide | omega) (by first | assumption | decide | omega)) wm_L_154 wcw_L_prefixOf wini_L wst_L_prefixOf ⟨by decide, by decide, by decide⟩ ⟨by decide, by decide⟩ rfl (Nat.le_of_ble_eq_true rfl) ⟨by show _ ≤ 500; omega, by show _ ≤ 3000; omega⟩ dL_isTold_191 rfl (fun zq65 Mz66 hzq65 hPz65 => ?_)
                      refine zZ_cs (k := 26 + 224 * r.toNat + 27 * k.toNat) (n := 156 + 1344 * r.toNat + 162 * k.toNat) (by omega) (by omega) ?_
                      obtain ⟨emzq65, hPz65r⟩ := hPz65.2 ⟨⟨by omega, by omega⟩, by omega, by omega⟩
                      subst emzq65
                      have hx9 := hPz65r.trans (t_pre hen hpf9)
                      refine z_aload C 194 dL_isTold_194 6 rfl ?_
                      refine z_iload C 196 dL_isTold_196 0 rfl ?_
                      refine z_ialdj C 198 (show 0 < 1 by omega) (zc30 ..) s9 (by omega) hzq63 (by omega) (show zq63 < ((16 : Nat) : Int) by omega) dL_isTold_198 (fun zq67 ezq67 hzq67 => ?_)
                      refine z_icmp_ne C 199 318 dL_isTold_199 (by decide) hzq65 hzq67 (fun c199_412 => ?_) (fun c199_412 => ?_)
                      · exact absurd (by omega) c199_412
                      refine z_aload_n C 202 dL_isTold_202 rfl 1 rfl ?_
                      refine z_iconst C 203 dL_isTold_203 ?_
                      refine z_iload C 204 dL_isTold_204 12 rfl ?_
                      refine z_imul C 206 dL_isTold_206 ?_
                      refine z_iload C 207 dL_isTold_207 14 rfl ?_
                      refine zn_callVi C 209 (As := [.int (zI (2 * r)), .int (zI k)]) (rest := []) (c_X7_mappingAt l hfl G M hw (2 * r) k (by omega) (by omega)) (fun E q => q.2 ⟨⟨by omega, by omega⟩, by omega, by omega⟩) zcl7 (show 0 < 1 by omega) (zc0 ..) (zW_of 2 C wm_L_158 wc_X7_mappingAt wini_7 wi_X7_mappingAt wse_X7_mappingAt ⟨by decide, by decide, by decide⟩ ⟨by decide, by decide⟩) rfl (Nat.le_of_ble_eq_true rfl) ⟨by show _ ≤ 500; omega, by show _ ≤ 3000; omega⟩ dL_isTold_209 rfl (fun zq68 Mz69 hzq68 hPz68 => ?_)
                      refine zZ_cs (k := 28 + 224 * r.toNat + 27 * k.toNat) (n := 168 + 1344 * r.toNat + 162 * k.toNat) (by omega) (by omega) ?_
                      obtain ⟨rfl, hPz68⟩ := hPz68
                      obtain ⟨hm8, hm7, hm9⟩ := t_qs (by omega) hen
                      have hx9 := hPz68.2.trans hm9
                      have J250_70 : zZ p l e (zR 11 500 3000) s m ([.ref (zad G 0 0), .int (zI y), .ref (zad G 26 0), .ref (zad G 27 0), .ref (zad G 29 0), .ref (zad G 30 0), .ref (zad G 31 0), .ref (zad G 32 0), .ref (zad G 33 0), .ref (zad G 34 0), .ref (zad G 36 0)] : List Value).toArray below meth c G 18 (MQ below (zQi G (fun x M' => M = M' ∧ x = 1)) ([.ref (zad G 0 0), .int (zI y), .ref (zad G 26 0), .ref (zad G 27 0), .ref (zad G 29 0), .ref (zad G 30 0), .ref (zad G 31 0), .ref (zad G 32 0), .ref (zad G 33 0), .ref (zad G 34 0), .ref (zad G 36 0)] : List Value).toArray s 500 3000 (zA G)) M (28 + 224 * r.toNat + 27 * k.toNat) (168 + 1344 * r.toNat + 162 * k.toNat) 250 [(14, .int (zI zq63)), (0, .ref (zad G 0 0)), (1, .int (zI y)), (2, .ref (zad G 26 0)), (3, .ref (zad G 27 0)), (4, .ref (zad G 29 0)), (5, .ref (zad G 30 0)), (6, .ref (zad G 31 0)), (7, .ref (zad G 32 0)), (8, .ref (zad G 33 0)), (9, .ref (zad G 34 0)), (10, .ref (zad G 36 0)), (11, .int (zI r)), (12, .int (zI ct)), (13, .int (zI k))] [] := by
                        refine z_aload_n C 250 dL_isTold_250 rfl 1 rfl ?_
                        refine z_iconst C 251 dL_isTold_251 ?_
                        refine z_iload C 252 dL_isTold_252 12 rfl ?_
                        refine z_imul C 254 dL_isTold_254 ?_
                        refine z_iload C 255 dL_isTold_255 14 rfl ?_
                        refine zn_callVi C 257 (As := [.int (zI (2 * r)), .int (zI k)]) (rest := []) (c_X7_lasts l hfl G M hw (2 * r) k (by omega) (by omega)) (fun E q => q.2 ⟨⟨by omega, by omega⟩, by omega, by omega⟩) zcl7 (show 0 < 1 by omega) (zc0 ..) (zW_of 2 C wm_L_161 wc_X7_lasts wini_7 wi_X7_lasts wse_X7_lasts ⟨by decide, by decide, by decide⟩ ⟨by decide, by decide⟩) rfl (Nat.le_of_ble_eq_true rfl) ⟨by show _ ≤ 500; omega, by show _ ≤ 3000; omega⟩ dL_isTold_257 rfl (fun zq71 Mz72 hzq71 hPz71 => ?_)
                        refine zZ_cs (k := 30 + 224 * r.toNat + 27 * k.toNat) (n := 180 + 1344 * r.toNat + 162 * k.toNat) (by omega) (by omega) ?_
                        obtain ⟨rfl, hPz71⟩ := hPz71
                        obtain ⟨hm8, hm7, hm9⟩ := t_es (by omega) hC hen
                        have hx9 := hPz71.2.trans hm9
                        have J301_73 : zZ p l e (zR 11 500 3000) s m ([.ref (zad G 0 0), .int (zI y), .ref (zad G 26 0), .ref (zad G 27 0), .ref (zad G 29 0), .ref (zad G 30 0), .ref (zad G 31 0), .ref (zad G 32 0), .ref (zad G 33 0), .ref (zad G 34 0), .ref (zad G 36 0)] : List Value).toArray below meth c G 18 (MQ below (zQi G (fun x M' => M = M' ∧ x = 1)) ([.ref (zad G 0 0), .int (zI y), .ref (zad G 26 0), .ref (zad G 27 0), .ref (zad G 29 0), .ref (zad G 30 0), .ref (zad G 31 0), .ref (zad G 32 0), .ref (zad G 33 0), .ref (zad G 34 0), .ref (zad G 36 0)] : List Value).toArray s 500 3000 (zA G)) M (30 + 224 * r.toNat + 27 * k.toNat) (180 + 1344 * r.toNat + 162 * k.toNat) 301 [(14, .int (zI zq63)), (0, .ref (zad G 0 0)), (1, .int (zI y)), (2, .ref (zad G 26 0)), (3, .ref (zad G 27 0)), (4, .ref (zad G 29 0)), (5, .ref (zad G 30 0)), (6, .ref (zad G 31 0)), (7, .ref (zad G 32 0)), (8, .ref (zad G 33 0)), (9, .ref (zad G 34 0)), (10, .ref (zad G 36 0)), (11, .int (zI r)), (12, .int (zI ct)), (13, .int (zI k))] [] := by
                          refine z_aload_n C 301 dL_isTold_301 rfl 1 rfl ?_
                          refine z_iconst C 302 dL_isTold_302 ?_
                          refine z_iload C 303 dL_isTold_303 12 rfl ?_
                          refine z_imul C 305 dL_isTold_305 ?_
                          refine z_iload C 306 dL_isTold_306 14 rfl ?_
                          refine z_bipush C 308 dL_isTold_308 (by decide +kernel) ?_
                          refine zs_call C 310 (n := 4) (As := [.ref (zad G 0 0), .int (zI (2 * r)), .int (zI k), .int (zI 32)]) (rest := []) (v_packetsTo l hfl G M hw (2 * r) k 32 (by first | assumption | decide | omega) (by first | assumption | decide | omega) (by first | assumption | decide | omega)) wm_L_156 wcw_L_packetsTo wini_L wst_L_packetsTo ⟨by decide, by decide, by decide⟩ ⟨by decide, by decide⟩ rfl (Nat.le_of_ble_eq_true rfl) ⟨by show _ ≤ 500; omega, by show _ ≤ 3000; omega⟩ dL_isTold_310 rfl (fun zq74 Mz75 hzq74 hPz74 => ?_)
                          refine zZ_cs (k := 33 + 224 * r.toNat + 27 * k.toNat) (n := 198 + 1344 * r.toNat + 162 * k.toNat) (by omega) (by omega) ?_
                          obtain ⟨ezzq74, emzq74⟩ := hPz74.2.1 ⟨⟨by omega, by omega⟩, by omega, by omega⟩ (fun q => by omega)
                          subst ezzq74
                          have emzq74 := emzq74.symm
                          subst emzq74
                          refine z_bipush C 313 dL_isTold_313 (by decide +kernel) ?_
                          refine z_icmp_eq C 315 320 dL_isTold_315 (by decide) (by decide) (by decide) (fun c315_449 => ?_) (fun c315_449 => ?_)
                          rotate_left
                          · exact absurd c315_449 (by decide)
                          refine z_iconst C 320 dL_isTold_320 ?_
                          refine z_istore (lv' := [(15, .int (zI 0)), (14, .int (zI zq63)), (0, .ref (zad G 0 0)), (1, .int (zI y)), (2, .ref (zad G 26 0)), (3, .ref (zad G 27 0)), (4, .ref (zad G 29 0)), (5, .ref (zad G 30 0)), (6, .ref (zad G 31 0)), (7, .ref (zad G 32 0)), (8, .ref (zad G 33 0)), (9, .ref (zad G 34 0)), (10, .ref (zad G 36 0)), (11, .int (zI r)), (12, .int (zI ct)), (13, .int (zI k))]) C 321 dL_isTold_321 (by decide) rfl ?_
                          have L323_76 : ∀ (kz76 : Nat) (b : Int), (0 ≤ b ∧ b ≤ 6) → (6 - b) < (kz76 : Int) → zZ p l e (zR 11 500 3000) s m ([.ref (zad G 0 0), .int (zI y), .ref (zad G 26 0), .ref (zad G 27 0), .ref (zad G 29 0), .ref (zad G 30 0), .ref (zad G 31 0), .ref (zad G 32 0), .ref (zad G 33 0), .ref (zad G 34 0), .ref (zad G 36 0)] : List Value).toArray below meth c G 18 (MQ below (zQi G (fun x M' => M = M' ∧ x = 1)) ([.ref (zad G 0 0), .int (zI y), .ref (zad G 26 0), .ref (zad G 27 0), .ref (zad G 29 0), .ref (zad G 30 0), .ref (zad G 31 0), .ref (zad G 32 0), .ref (zad G 33 0), .ref (zad G 34 0), .ref (zad G 36 0)] : List Value).toArray s 500 3000 (zA G)) M (33 + 224 * r.toNat + 27 * k.toNat + 3 * b.toNat) (198 + 1344 * r.toNat + 162 * k.toNat + 18 * b.toNat) 323 [(14, .int (zI zq63)), (0, .ref (zad G 0 0)), (1, .int (zI y)), (2, .ref (zad G 26 0)), (3, .ref (zad G 27 0)), (4, .ref (zad G 29 0)), (5, .ref (zad G 30 0)), (6, .ref (zad G 31 0)), (7, .ref (zad G 32 0)), (8, .ref (zad G 33 0)), (9, .ref (zad G 34 0)), (10, .ref (zad G 36 0)), (11, .int (zI r)), (12, .int (zI ct)), (13, .int (zI k)), (15, .int (zI b))] [] := by
                            intro kz76
                            induction kz76 with
                            | zero =>
                              intro b b0 hk
                              exact absurd hk (by omega)
                            | succ kz76 ihz77 =>
                              intro b b0 hk
                              refine z_iload C 323 dL_isTold_323 15 rfl ?_
                              refine z_bipush C 325 dL_isTold_325 (by decide +kernel) ?_
                              refine z_icmp_ge C 327 420 dL_isTold_327 (by decide) (by first | assumption | omega) (by decide) (fun c327_464 => ?_) (fun c327_464 => ?_)
                              · refine z_iinc (lv' := [(13, .int (zI (k + 1))), (14, .int (zI zq63)), (0, .ref (zad G 0 0)), (1, .int (zI y)), (2, .ref (zad G 26 0)), (3, .ref (zad G 27 0)), (4, .ref (zad G 29 0)), (5, .ref (zad G 30 0)), (6, .ref (zad G 31 0)), (7, .ref (zad G 32 0)), (8, .ref (zad G 33 0)), (9, .ref (zad G 34 0)), (10, .ref (zad G 36 0)), (11, .int (zI r)), (12, .int (zI ct)), (15, .int (zI b))]) C 420 dL_isTold_420 14 rfl (by decide) rfl ?_
                                refine z_goto C 423 164 dL_isTold_423 (by decide) ?_
                                refine z_sub (lv' := [(0, .ref (zad G 0 0)), (1, .int (zI y)), (2, .ref (zad G 26 0)), (3, .ref (zad G 27 0)), (4, .ref (zad G 29 0)), (5, .ref (zad G 30 0)), (6, .ref (zad G 31 0)), (7, .ref (zad G 32 0)), (8, .ref (zad G 33 0)), (9, .ref (zad G 34 0)), (10, .ref (zad G 36 0)), (11, .int (zI r)), (12, .int (zI ct)), (13, .int (zI (k + 1)))]) [2, 3, 4, 5, 6, 7, 8, 9, 10, 11, 12, 13, 14, 0] rfl ?_
                                refine zZ_wd (k := 24 + 224 * r.toNat + 27 * (k + 1 : Int).toNat) (n := 144 + 1344 * r.toNat + 162 * (k + 1 : Int).toNat) (by omega) (by omega) ?_
                                exact ihz62 (k + 1) (by omega) (by omega)
                              refine z_iconst C 330 dL_isTold_330 ?_
                              refine z_istore (lv' := [(16, .int (zI 0)), (14, .int (zI zq63)), (0, .ref (zad G 0 0)), (1, .int (zI y)), (2, .ref (zad G 26 0)), (3, .ref (zad G 27 0)), (4, .ref (zad G 29 0)), (5, .ref (zad G 30 0)), (6, .ref (zad G 31 0)), (7, .ref (zad G 32 0)), (8, .ref (zad G 33 0)), (9, .ref (zad G 34 0)), (10, .ref (zad G 36 0)), (11, .int (zI r)), (12, .int (zI ct)), (13, .int (zI k)), (15, .int (zI b))]) C 331 dL_isTold_331 (by decide) rfl ?_
                              refine z_iconst C 333 dL_isTold_333 ?_
                              refine z_iload C 334 dL_isTold_334 1 rfl ?_
                              refine z_imul C 336 dL_isTold_336 ?_
                              refine z_istore (lv' := [(17, .int (zI (4 * zq63))), (16, .int (zI 0)), (14, .int (zI zq63)), (0, .ref (zad G 0 0)), (1, .int (zI y)), (2, .ref (zad G 26 0)), (3, .ref (zad G 27 0)), (4, .ref (zad G 29 0)), (5, .ref (zad G 30 0)), (6, .ref (zad G 31 0)), (7, .ref (zad G 32 0)), (8, .ref (zad G 33 0)), (9, .ref (zad G 34 0)), (10, .ref (zad G 36 0)), (11, .int (zI r)), (12, .int (zI ct)), (13, .int (zI k)), (15, .int (zI b))]) C 337 dL_isTold_337 (by decide) rfl ?_
                              have L339_78 : ∀ (kz78 : Nat) (sm : Int) (k2 : Int), (4 * zq63 ≤ k2 ∧ k2 ≤ 4 * zq63 + 4) → (sm = zsm (jpt M s9 b) (k2 - 4 * zq63).toNat) → (0 ≤ sm ∧ sm ≤ 1000 * (k2 - 4 * zq63)) → (4 * zq63 + 4 - k2) < (kz78 : Int) → zZ p l e (zR 11 500 3000) s m ([.ref (zad G 0 0), .int (zI y), .ref (zad G 26 0), .ref (zad G 27 0), .ref (zad G 29 0), .ref (zad G 30 0), .ref (zad G 31 0), .ref (zad G 32 0), .ref (zad G 33 0), .ref (zad G 34 0), .ref (zad G 36 0)] : List Value).toArray below meth c G 18 (MQ below (zQi G (fun x M' => M = M' ∧ x = 1)) ([.ref (zad G 0 0), .int (zI y), .ref (zad G 26 0), .ref (zad G 27 0), .ref (zad G 29 0), .ref (zad G 30 0), .ref (zad G 31 0), .ref (zad G 32 0), .ref (zad G 33 0), .ref (zad G 34 0), .ref (zad G 36 0)] : List Value).toArray s 500 3000 (zA G)) M (33 + 224 * r.toNat + 27 * k.toNat + 3 * b.toNat) (198 + 1344 * r.toNat + 162 * k.toNat + 18 * b.toNat) 339 [(14, .int (zI zq63)), (0, .ref (zad G 0 0)), (1, .int (zI y)), (2, .ref (zad G 26 0)), (3, .ref (zad G 27 0)), (4, .ref (zad G 29 0)), (5, .ref (zad G 30 0)), (6, .ref (zad G 31 0)), (7, .ref (zad G 32 0)), (8, .ref (zad G 33 0)), (9, .ref (zad G 34 0)), (10, .ref (zad G 36 0)), (11, .int (zI r)), (12, .int (zI ct)), (13, .int (zI k)), (15, .int (zI b)), (16, .int (zI sm)), (17, .int (zI k2))] [] := by
                                intro kz78
                                induction kz78 with
                                | zero =>
                                  intro sm k2 d0 d1 d2 hk
                                  exact absurd hk (by omega)
                                | succ kz78 ihz79 =>
                                  intro sm k2 d0 d1 d2 hk
                                  refine z_iload C 339 dL_isTold_339 17 rfl ?_
                                  refine z_iconst C 341 dL_isTold_341 ?_
                                  refine z_iload C 342 dL_isTold_342 0 rfl ?_
                                  refine z_imul C 344 dL_isTold_344 ?_
                                  refine z_iconst C 345 dL_isTold_345 ?_
                                  refine z_iadd C 346 dL_isTold_346 ?_
                                  refine z_icmp_ge C 347 395 dL_isTold_347 (by decide) (by first | assumption | omega) (by first | assumption | omega) (fun c347_490 => ?_) (fun c347_490 => ?_)
                                  · rw [show (k2 - 4 * zq63).toNat = 4 by omega] at d1
                                    refine z_aload_n C 395 dL_isTold_395 rfl 1 rfl ?_
                                    refine z_iconst C 396 dL_isTold_396 ?_
                                    refine z_iload C 397 dL_isTold_397 12 rfl ?_
                                    refine z_imul C 399 dL_isTold_399 ?_
                                    refine z_iload C 400 dL_isTold_400 14 rfl ?_
                                    refine z_iload C 402 dL_isTold_402 15 rfl ?_
                                    refine zs_call C 404 (n := 4) (As := [.ref (zad G 0 0), .int (zI (2 * r)), .int (zI k), .int (zI b)]) (rest := []) (v_packetsTo l hfl G M hw (2 * r) k b (by first | assumption | decide | omega) (by first | assumption | decide | omega) (by first | assumption | decide | omega)) wm_L_156 wcw_L_packetsTo wini_L wst_L_packetsTo ⟨by decide, by decide, by decide⟩ ⟨by decide, by decide⟩ rfl (Nat.le_of_ble_eq_true rfl) ⟨by show _ ≤ 500; omega, by show _ ≤ 3000; omega⟩ dL_isTold_404 rfl (fun zq80 Mz81 hzq80 hPz80 => ?_)
                                    refine zZ_cs (k := 36 + 224 * r.toNat + 27 * k.toNat + 3 * b.toNat) (n := 216 + 1344 * r.toNat + 162 * k.toNat + 18 * b.toNat) (by omega) (by omega) ?_
                                    obtain ⟨emzq80, hPz80r⟩ := hPz80.2.2 ⟨⟨by omega, by omega⟩, by omega, by omega⟩ (by omega)
                                    subst emzq80
                                    obtain ⟨pl9, hp1, hp2⟩ := hPz80r
                                    have hx9 := t_pkt hen hwe9 hp1 hp2
                                    refine z_iload C 407 dL_isTold_407 16 rfl ?_
                                    refine z_icmp_eq C 409 414 dL_isTold_409 (by decide) hzq80 (by first | assumption | omega) (fun c409_506 => ?_) (fun c409_506 => ?_)
                                    rotate_left
                                    · exact absurd (hx9.trans d1.symm) c409_506
                                    refine z_iinc (lv' := [(15, .int (zI (b + 1))), (14, .int (zI zq63)), (0, .ref (zad G 0 0)), (1, .int (zI y)), (2, .ref (zad G 26 0)), (3, .ref (zad G 27 0)), (4, .ref (zad G 29 0)), (5, .ref (zad G 30 0)), (6, .ref (zad G 31 0)), (7, .ref (zad G 32 0)), (8, .ref (zad G 33 0)), (9, .ref (zad G 34 0)), (10, .ref (zad G 36 0)), (11, .int (zI r)), (12, .int (zI ct)), (13, .int (zI k)), (16, .int (zI sm)), (17, .int (zI k2))]) C 414 dL_isTold_414 15 rfl (by decide) rfl ?_
                                    refine z_goto C 417 323 dL_isTold_417 (by decide) ?_
                                    refine z_sub (lv' := [(14, .int (zI zq63)), (0, .ref (zad G 0 0)), (1, .int (zI y)), (2, .ref (zad G 26 0)), (3, .ref (zad G 27 0)), (4, .ref (zad G 29 0)), (5, .ref (zad G 30 0)), (6, .ref (zad G 31 0)), (7, .ref (zad G 32 0)), (8, .ref (zad G 33 0)), (9, .ref (zad G 34 0)), (10, .ref (zad G 36 0)), (11, .int (zI r)), (12, .int (zI ct)), (13, .int (zI k)), (15, .int (zI (b + 1)))]) [1, 2, 3, 4, 5, 6, 7, 8, 9, 10, 11, 12, 13, 14, 15, 0] rfl ?_
                                    refine zZ_wd (k := 33 + 224 * r.toNat + 27 * k.toNat + 3 * (b + 1 : Int).toNat) (n := 198 + 1344 * r.toNat + 162 * k.toNat + 18 * (b + 1 : Int).toNat) (by omega) (by omega) ?_
                                    exact ihz77 (b + 1) (by omega) (by omega)
                                  obtain ⟨hj8, hj9⟩ := t_jpt (by omega) hW (s := s9) (b := b) (k := k2) (c := 4 * zq63) (by omega) (by omega) (by omega) (by omega)
                                  refine z_iload C 350 dL_isTold_350 16 rfl ?_
                                  refine z_aload C 352 dL_isTold_352 10 rfl ?_
                                  refine z_iload C 354 dL_isTold_354 17 rfl ?_
                                  refine z_ialdj C 356 (show 0 < 1 by omega) (zc34 ..) k2.toNat rfl (by first | assumption | omega) (by omega) (show k2 < ((64 : Nat) : Int) by omega) dL_isTold_356 (fun zq82 ezq82 hzq82 => ?_)
                                  refine z_if_le C 357 385 dL_isTold_357 (by decide) hzq82 (fun c357_518 => ?_) (fun c357_518 => ?_)
                                  · refine z_iconst C 385 dL_isTold_385 ?_
                                    refine z_iadd C 386 dL_isTold_386 ?_
                                    refine z_istore (lv' := [(16, .int (zI (sm + 0))), (14, .int (zI zq63)), (0, .ref (zad G 0 0)), (1, .int (zI y)), (2, .ref (zad G 26 0)), (3, .ref (zad G 27 0)), (4, .ref (zad G 29 0)), (5, .ref (zad G 30 0)), (6, .ref (zad G 31 0)), (7, .ref (zad G 32 0)), (8, .ref (zad G 33 0)), (9, .ref (zad G 34 0)), (10, .ref (zad G 36 0)), (11, .int (zI r)), (12, .int (zI ct)), (13, .int (zI k)), (15, .int (zI b)), (17, .int (zI k2))]) C 387 dL_isTold_387 (by decide) rfl ?_
                                    refine z_iinc (lv' := [(17, .int (zI (k2 + 1))), (16, .int (zI (sm + 0))), (14, .int (zI zq63)), (0, .ref (zad G 0 0)), (1, .int (zI y)), (2, .ref (zad G 26 0)), (3, .ref (zad G 27 0)), (4, .ref (zad G 29 0)), (5, .ref (zad G 30 0)), (6, .ref (zad G 31 0)), (7, .ref (zad G 32 0)), (8, .ref (zad G 33 0)), (9, .ref (zad G 34 0)), (10, .ref (zad G 36 0)), (11, .int (zI r)), (12, .int (zI ct)), (13, .int (zI k)), (15, .int (zI b))]) C 389 dL_isTold_389 17 rfl (by decide) rfl ?_
                                    refine z_goto C 392 339 dL_isTold_392 (by decide) ?_
                                    refine z_sub (lv' := [(14, .int (zI zq63)), (0, .ref (zad G 0 0)), (1, .int (zI y)), (2, .ref (zad G 26 0)), (3, .ref (zad G 27 0)), (4, .ref (zad G 29 0)), (5, .ref (zad G 30 0)), (6, .ref (zad G 31 0)), (7, .ref (zad G 32 0)), (8, .ref (zad G 33 0)), (9, .ref (zad G 34 0)), (10, .ref (zad G 36 0)), (11, .int (zI r)), (12, .int (zI ct)), (13, .int (zI k)), (15, .int (zI b)), (16, .int (zI (sm + 0))), (17, .int (zI (k2 + 1)))]) [2, 3, 4, 5, 6, 7, 8, 9, 10, 11, 12, 13, 14, 15, 16, 17, 1, 0] rfl ?_
                                    exact ihz79 (sm + 0) (k2 + 1) (by omega) (by rw [zsm_sh _ d0.1, ← d1, hj9, if_neg (show ¬ (0 < zV M 34 0 k2.toNat ∧ zV M 34 0 k2.toNat % 32 = b) by omega)]) (by omega) (by omega)
                                  refine z_aload C 360 dL_isTold_360 10 rfl ?_
                                  refine z_iload C 362 dL_isTold_362 17 rfl ?_
                                  refine z_ialdj C 364 (show 0 < 1 by omega) (zc34 ..) k2.toNat rfl (by first | assumption | omega) (by omega) (show k2 < ((64 : Nat) : Int) by omega) dL_isTold_364 (fun zq83 ezq83 hzq83 => ?_)
                                  refine z_bipush C 365 dL_isTold_365 (by decide +kernel) ?_
                                  refine z_irem C 367 dL_isTold_367 hzq83 (by omega) (by decide) (by decide) ?_
                                  refine z_iload C 368 dL_isTold_368 15 rfl ?_
                                  refine z_icmp_ne C 370 385 dL_isTold_370 (by decide) (by first | assumption | omega) (by first | assumption | omega) (fun c370_532 => ?_) (fun c370_532 => ?_)
                                  · refine z_iconst C 385 dL_isTold_385 ?_
                                    refine z_iadd C 386 dL_isTold_386 ?_
                                    refine z_istore (lv' := [(16, .int (zI (sm + 0))), (14, .int (zI zq63)), (0, .ref (zad G 0 0)), (1, .int (zI y)), (2, .ref (zad G 26 0)), (3, .ref (zad G 27 0)), (4, .ref (zad G 29 0)), (5, .ref (zad G 30 0)), (6, .ref (zad G 31 0)), (7, .ref (zad G 32 0)), (8, .ref (zad G 33 0)), (9, .ref (zad G 34 0)), (10, .ref (zad G 36 0)), (11, .int (zI r)), (12, .int (zI ct)), (13, .int (zI k)), (15, .int (zI b)), (17, .int (zI k2))]) C 387 dL_isTold_387 (by decide) rfl ?_
                                    refine z_iinc (lv' := [(17, .int (zI (k2 + 1))), (16, .int (zI (sm + 0))), (14, .int (zI zq63)), (0, .ref (zad G 0 0)), (1, .int (zI y)), (2, .ref (zad G 26 0)), (3, .ref (zad G 27 0)), (4, .ref (zad G 29 0)), (5, .ref (zad G 30 0)), (6, .ref (zad G 31 0)), (7, .ref (zad G 32 0)), (8, .ref (zad G 33 0)), (9, .ref (zad G 34 0)), (10, .ref (zad G 36 0)), (11, .int (zI r)), (12, .int (zI ct)), (13, .int (zI k)), (15, .int (zI b))]) C 389 dL_isTold_389 17 rfl (by decide) rfl ?_
                                    refine z_goto C 392 339 dL_isTold_392 (by decide) ?_
                                    refine z_sub (lv' := [(14, .int (zI zq63)), (0, .ref (zad G 0 0)), (1, .int (zI y)), (2, .ref (zad G 26 0)), (3, .ref (zad G 27 0)), (4, .ref (zad G 29 0)), (5, .ref (zad G 30 0)), (6, .ref (zad G 31 0)), (7, .ref (zad G 32 0)), (8, .ref (zad G 33 0)), (9, .ref (zad G 34 0)), (10, .ref (zad G 36 0)), (11, .int (zI r)), (12, .int (zI ct)), (13, .int (zI k)), (15, .int (zI b)), (16, .int (zI (sm + 0))), (17, .int (zI (k2 + 1)))]) [2, 3, 4, 5, 6, 7, 8, 9, 10, 11, 12, 13, 14, 15, 16, 17, 1, 0] rfl ?_
                                    exact ihz79 (sm + 0) (k2 + 1) (by omega) (by rw [zsm_sh _ d0.1, ← d1, hj9, if_neg (show ¬ (0 < zV M 34 0 k2.toNat ∧ zV M 34 0 k2.toNat % 32 = b) by omega)]) (by omega) (by omega)
                                  refine z_aload C 373 dL_isTold_373 10 rfl ?_
                                  refine z_iload C 375 dL_isTold_375 17 rfl ?_
                                  refine z_ialdj C 377 (show 0 < 1 by omega) (zc34 ..) k2.toNat rfl (by first | assumption | omega) (by omega) (show k2 < ((64 : Nat) : Int) by omega) dL_isTold_377 (fun zq84 ezq84 hzq84 => ?_)
                                  refine z_sipush C 378 dL_isTold_378 (by decide +kernel) ?_
                                  refine z_idiv C 381 dL_isTold_381 hzq84 (by omega) (by decide) (by decide) ?_
                                  refine z_goto C 382 386 dL_isTold_382 (by decide) ?_
                                  refine z_iadd C 386 dL_isTold_386 ?_
                                  refine z_istore (lv' := [(16, .int (zI (sm + (zq84 / 2048)))), (14, .int (zI zq63)), (0, .ref (zad G 0 0)), (1, .int (zI y)), (2, .ref (zad G 26 0)), (3, .ref (zad G 27 0)), (4, .ref (zad G 29 0)), (5, .ref (zad G 30 0)), (6, .ref (zad G 31 0)), (7, .ref (zad G 32 0)), (8, .ref (zad G 33 0)), (9, .ref (zad G 34 0)), (10, .ref (zad G 36 0)), (11, .int (zI r)), (12, .int (zI ct)), (13, .int (zI k)), (15, .int (zI b)), (17, .int (zI k2))]) C 387 dL_isTold_387 (by decide) rfl ?_
                                  refine z_iinc (lv' := [(17, .int (zI (k2 + 1))), (16, .int (zI (sm + (zq84 / 2048)))), (14, .int (zI zq63)), (0, .ref (zad G 0 0)), (1, .int (zI y)), (2, .ref (zad G 26 0)), (3, .ref (zad G 27 0)), (4, .ref (zad G 29 0)), (5, .ref (zad G 30 0)), (6, .ref (zad G 31 0)), (7, .ref (zad G 32 0)), (8, .ref (zad G 33 0)), (9, .ref (zad G 34 0)), (10, .ref (zad G 36 0)), (11, .int (zI r)), (12, .int (zI ct)), (13, .int (zI k)), (15, .int (zI b))]) C 389 dL_isTold_389 17 rfl (by decide) rfl ?_
                                  refine z_goto C 392 339 dL_isTold_392 (by decide) ?_
                                  refine z_sub (lv' := [(14, .int (zI zq63)), (0, .ref (zad G 0 0)), (1, .int (zI y)), (2, .ref (zad G 26 0)), (3, .ref (zad G 27 0)), (4, .ref (zad G 29 0)), (5, .ref (zad G 30 0)), (6, .ref (zad G 31 0)), (7, .ref (zad G 32 0)), (8, .ref (zad G 33 0)), (9, .ref (zad G 34 0)), (10, .ref (zad G 36 0)), (11, .int (zI r)), (12, .int (zI ct)), (13, .int (zI k)), (15, .int (zI b)), (16, .int (zI (sm + (zq84 / 2048)))), (17, .int (zI (k2 + 1)))]) [2, 3, 4, 5, 6, 7, 8, 9, 10, 11, 12, 13, 14, 15, 16, 17, 1, 0] rfl ?_
                                  exact ihz79 (sm + (zq84 / 2048)) (k2 + 1) (by omega) (by rw [zsm_sh _ d0.1, ← d1, hj9, if_pos (show 0 < zV M 34 0 k2.toNat ∧ zV M 34 0 k2.toNat % 32 = b by omega), ezq84]) (by omega) (by omega)
                              refine z_sub (lv' := [(14, .int (zI zq63)), (0, .ref (zad G 0 0)), (1, .int (zI y)), (2, .ref (zad G 26 0)), (3, .ref (zad G 27 0)), (4, .ref (zad G 29 0)), (5, .ref (zad G 30 0)), (6, .ref (zad G 31 0)), (7, .ref (zad G 32 0)), (8, .ref (zad G 33 0)), (9, .ref (zad G 34 0)), (10, .ref (zad G 36 0)), (11, .int (zI r)), (12, .int (zI ct)), (13, .int (zI k)), (15, .int (zI b)), (16, .int (zI 0)), (17, .int (zI (4 * zq63)))]) [2, 3, 4, 5, 6, 7, 8, 9, 10, 11, 12, 13, 14, 15, 16, 17, 1, 0] rfl ?_
                              exact L339_78 (((4 * zq63 + 4 - (4 * zq63) : Int)).toNat + 1) 0 (4 * zq63) (by omega) (by rw [show (4 * zq63 - 4 * zq63).toNat = 0 by omega]; rfl) (by omega) (by omega)
                          refine z_sub (lv' := [(14, .int (zI zq63)), (0, .ref (zad G 0 0)), (1, .int (zI y)), (2, .ref (zad G 26 0)), (3, .ref (zad G 27 0)), (4, .ref (zad G 29 0)), (5, .ref (zad G 30 0)), (6, .ref (zad G 31 0)), (7, .ref (zad G 32 0)), (8, .ref (zad G 33 0)), (9, .ref (zad G 34 0)), (10, .ref (zad G 36 0)), (11, .int (zI r)), (12, .int (zI ct)), (13, .int (zI k)), (15, .int (zI 0))]) [1, 2, 3, 4, 5, 6, 7, 8, 9, 10, 11, 12, 13, 14, 15, 0] rfl ?_
                          refine zZ_wd (k := 33 + 224 * r.toNat + 27 * k.toNat + 3 * (0 : Int).toNat) (n := 198 + 1344 * r.toNat + 162 * k.toNat + 18 * (0 : Int).toNat) (by omega) (by omega) ?_
                          exact L323_76 (((6 - 0 : Int)).toNat + 1) 0 (by omega) (by omega)
                        refine z_aload C 260 dL_isTold_260 8 rfl ?_
                        refine z_iload C 262 dL_isTold_262 0 rfl ?_
                        refine z_ialdj C 264 (show 0 < 1 by omega) (zc32 ..) s9 (by omega) hzq63 (by omega) (show zq63 < ((16 : Nat) : Int) by omega) dL_isTold_264 (fun zq85 ezq85 hzq85 => ?_)
                        refine z_if_ge C 265 272 dL_isTold_265 (by decide) hzq85 (fun c265_560 => ?_) (fun c265_560 => ?_)
                        · refine z_aload C 272 dL_isTold_272 8 rfl ?_
                          refine z_iload C 274 dL_isTold_274 0 rfl ?_
                          refine z_ialdj C 276 (show 0 < 1 by omega) (zc32 ..) s9 (by omega) hzq63 (by omega) (show zq63 < ((16 : Nat) : Int) by omega) dL_isTold_276 (fun zq86 ezq86 hzq86 => ?_)
                          refine z_aload C 277 dL_isTold_277 11 rfl ?_
                          refine z_iconst C 279 dL_isTold_279 ?_
                          refine z_ialdj C 280 (show 0 < 1 by omega) (zc36 ..) 0 rfl (by decide) (by omega) (show 0 < ((12 : Nat) : Int) by omega) dL_isTold_280 (fun zq87 ezq87 hzq87 => ?_)
                          refine z_icmp_le C 281 297 dL_isTold_281 (by decide) hzq86 hzq87 (fun c281_568 => ?_) (fun c281_568 => ?_)
                          · have hy9 : zq71 = 0 := by rw [hx9, if_neg (show ¬ zV M 32 0 s9 < 0 by omega), if_neg (show ¬ zV M 36 0 0 < zV M 32 0 s9 by omega)]
                            refine z_iconst C 297 dL_isTold_297 ?_
                            refine z_icmp_ne C 298 318 dL_isTold_298 (by decide) hzq71 (by decide) (fun c298_572 => ?_) (fun c298_572 => ?_)
                            · exact absurd (by omega) c298_572
                            exact J301_73  
                          have hy9 : zq71 = zV M 32 0 s9 - zV M 36 0 0 := by rw [hx9, if_neg (show ¬ zV M 32 0 s9 < 0 by omega), if_pos (show zV M 36 0 0 < zV M 32 0 s9 by omega)]
                          refine z_aload C 284 dL_isTold_284 8 rfl ?_
                          refine z_iload C 286 dL_isTold_286 0 rfl ?_
                          refine z_ialdj C 288 (show 0 < 1 by omega) (zc32 ..) s9 (by omega) hzq63 (by omega) (show zq63 < ((16 : Nat) : Int) by omega) dL_isTold_288 (fun zq88 ezq88 hzq88 => ?_)
                          refine z_aload C 289 dL_isTold_289 11 rfl ?_
                          refine z_iconst C 291 dL_isTold_291 ?_
                          refine z_ialdj C 292 (show 0 < 1 by omega) (zc36 ..) 0 rfl (by decide) (by omega) (show 0 < ((12 : Nat) : Int) by omega) dL_isTold_292 (fun zq89 ezq89 hzq89 => ?_)
                          refine z_isub C 293 dL_isTold_293 ?_
                          refine z_goto C 294 298 dL_isTold_294 (by decide) ?_
                          refine z_icmp_ne C 298 318 dL_isTold_298 (by decide) hzq71 (by first | assumption | omega) (fun c298_583 => ?_) (fun c298_583 => ?_)
                          · exact absurd (by omega) c298_583
                          exact J301_73  
                        have hy9 : zq71 = -1 := by rw [hx9, if_pos (show zV M 32 0 s9 < 0 by omega)]
                        refine z_iconst C 268 dL_isTold_268 ?_
                        refine z_goto C 269 298 dL_isTold_269 (by decide) ?_
                        refine z_icmp_ne C 298 318 dL_isTold_298 (by decide) hzq71 (by decide) (fun c298_588 => ?_) (fun c298_588 => ?_)
                        · exact absurd (by omega) c298_588
                        exact J301_73  
                      refine z_aload C 212 dL_isTold_212 7 rfl ?_
                      refine z_iload C 214 dL_isTold_214 0 rfl ?_
                      refine z_ialdj C 216 (show 0 < 1 by omega) (zc31 ..) s9 (by omega) hzq63 (by omega) (show zq63 < ((16 : Nat) : Int) by omega) dL_isTold_216 (fun zq90 ezq90 hzq90 => ?_)
                      refine z_if_ne C 217 224 dL_isTold_217 (by decide) hzq90 (fun c217_594 => ?_) (fun c217_594 => ?_)
                      · have hy9 : zq68 = 1000 * (zV M 31 0 s9 / 32) + zV M 31 0 s9 % 32 - 1 := by rw [hx9, if_neg (show ¬ zV M 31 0 s9 = 0 by omega)]
                        refine z_sipush C 224 dL_isTold_224 (by decide +kernel) ?_
                        refine z_aload C 227 dL_isTold_227 7 rfl ?_
                        refine z_iload C 229 dL_isTold_229 0 rfl ?_
                        refine z_ialdj C 231 (show 0 < 1 by omega) (zc31 ..) s9 (by omega) hzq63 (by omega) (show zq63 < ((16 : Nat) : Int) by omega) dL_isTold_231 (fun zq91 ezq91 hzq91 => ?_)
                        refine z_bipush C 232 dL_isTold_232 (by decide +kernel) ?_
                        refine z_idiv C 234 dL_isTold_234 hzq91 (by omega) (by decide) (by decide) ?_
                        refine z_imul C 235 dL_isTold_235 ?_
                        refine z_aload C 236 dL_isTold_236 7 rfl ?_
                        refine z_iload C 238 dL_isTold_238 0 rfl ?_
                        refine z_ialdj C 240 (show 0 < 1 by omega) (zc31 ..) s9 (by omega) hzq63 (by omega) (show zq63 < ((16 : Nat) : Int) by omega) dL_isTold_240 (fun zq92 ezq92 hzq92 => ?_)
                        refine z_bipush C 241 dL_isTold_241 (by decide +kernel) ?_
                        refine z_irem C 243 dL_isTold_243 hzq92 (by omega) (by decide) (by decide) ?_
                        refine z_iadd C 244 dL_isTold_244 ?_
                        refine z_iconst C 245 dL_isTold_245 ?_
                        refine z_isub C 246 dL_isTold_246 ?_
                        refine z_icmp_ne C 247 318 dL_isTold_247 (by decide) hzq68 (by first | assumption | omega) (fun c247_612 => ?_) (fun c247_612 => ?_)
                        · exact absurd (by omega) c247_612
                        exact J250_70  
                      have hy9 : zq68 = -1 := by rw [hx9, if_pos (show zV M 31 0 s9 = 0 by omega)]
                      refine z_iconst C 220 dL_isTold_220 ?_
                      refine z_goto C 221 247 dL_isTold_221 (by decide) ?_
                      refine z_icmp_ne C 247 318 dL_isTold_247 (by decide) hzq68 (by decide) (fun c247_617 => ?_) (fun c247_617 => ?_)
                      · exact absurd (by omega) c247_617
                      exact J250_70  
                  refine z_sub (lv' := [(0, .ref (zad G 0 0)), (1, .int (zI y)), (2, .ref (zad G 26 0)), (3, .ref (zad G 27 0)), (4, .ref (zad G 29 0)), (5, .ref (zad G 30 0)), (6, .ref (zad G 31 0)), (7, .ref (zad G 32 0)), (8, .ref (zad G 33 0)), (9, .ref (zad G 34 0)), (10, .ref (zad G 36 0)), (11, .int (zI r)), (12, .int (zI ct)), (13, .int (zI 0))]) [1, 2, 3, 4, 5, 6, 7, 8, 9, 10, 11, 12, 13, 0] rfl ?_
                  refine zZ_wd (k := 24 + 224 * r.toNat + 27 * (0 : Int).toNat) (n := 144 + 1344 * r.toNat + 162 * (0 : Int).toNat) (by omega) (by omega) ?_
                  exact L164_61 (((ct - 0 : Int)).toNat + 1) 0 (by omega) (by omega)
                refine z_iload C 76 dL_isTold_76 12 rfl ?_
                refine z_aload C 78 dL_isTold_78 5 rfl ?_
                refine z_iload C 80 dL_isTold_80 13 rfl ?_
                refine z_ialdj C 82 (show 0 < 1 by omega) (zc30 ..) k1.toNat rfl (by first | assumption | omega) (by omega) (show k1 < ((16 : Nat) : Int) by omega) dL_isTold_82 (fun zq93 ezq93 hzq93 => ?_)
                refine z_if_lt C 83 90 dL_isTold_83 (by decide) hzq93 (fun c83_626 => ?_) (fun c83_626 => ?_)
                · refine z_iconst C 90 dL_isTold_90 ?_
                  refine z_iadd C 91 dL_isTold_91 ?_
                  refine z_istore (lv' := [(12, .int (zI (ct + 0))), (0, .ref (zad G 0 0)), (1, .int (zI y)), (2, .ref (zad G 26 0)), (3, .ref (zad G 27 0)), (4, .ref (zad G 29 0)), (5, .ref (zad G 30 0)), (6, .ref (zad G 31 0)), (7, .ref (zad G 32 0)), (8, .ref (zad G 33 0)), (9, .ref (zad G 34 0)), (10, .ref (zad G 36 0)), (11, .int (zI r)), (13, .int (zI k1))]) C 92 dL_isTold_92 (by decide) rfl ?_
                  refine z_iinc (lv' := [(13, .int (zI (k1 + 1))), (12, .int (zI (ct + 0))), (0, .ref (zad G 0 0)), (1, .int (zI y)), (2, .ref (zad G 26 0)), (3, .ref (zad G 27 0)), (4, .ref (zad G 29 0)), (5, .ref (zad G 30 0)), (6, .ref (zad G 31 0)), (7, .ref (zad G 32 0)), (8, .ref (zad G 33 0)), (9, .ref (zad G 34 0)), (10, .ref (zad G 36 0)), (11, .int (zI r))]) C 94 dL_isTold_94 13 rfl (by decide) rfl ?_
                  refine z_goto C 97 63 dL_isTold_97 (by decide) ?_
                  refine z_sub (lv' := [(0, .ref (zad G 0 0)), (1, .int (zI y)), (2, .ref (zad G 26 0)), (3, .ref (zad G 27 0)), (4, .ref (zad G 29 0)), (5, .ref (zad G 30 0)), (6, .ref (zad G 31 0)), (7, .ref (zad G 32 0)), (8, .ref (zad G 33 0)), (9, .ref (zad G 34 0)), (10, .ref (zad G 36 0)), (11, .int (zI r)), (12, .int (zI (ct + 0))), (13, .int (zI (k1 + 1)))]) [2, 3, 4, 5, 6, 7, 8, 9, 10, 11, 12, 13, 1, 0] rfl ?_
                  exact ihz52 (ct + 0) (k1 + 1) (by omega) (by rw [zsm_sh _ f0.1, ← f1, zind_f (by rw [show 8 * r.toNat + (k1 - 8 * r).toNat = k1.toNat by omega]; omega)]) (by omega)
                refine z_iconst C 86 dL_isTold_86 ?_
                refine z_goto C 87 91 dL_isTold_87 (by decide) ?_
                refine z_iadd C 91 dL_isTold_91 ?_
                refine z_istore (lv' := [(12, .int (zI (ct + 1))), (0, .ref (zad G 0 0)), (1, .int (zI y)), (2, .ref (zad G 26 0)), (3, .ref (zad G 27 0)), (4, .ref (zad G 29 0)), (5, .ref (zad G 30 0)), (6, .ref (zad G 31 0)), (7, .ref (zad G 32 0)), (8, .ref (zad G 33 0)), (9, .ref (zad G 34 0)), (10, .ref (zad G 36 0)), (11, .int (zI r)), (13, .int (zI k1))]) C 92 dL_isTold_92 (by decide) rfl ?_
                refine z_iinc (lv' := [(13, .int (zI (k1 + 1))), (12, .int (zI (ct + 1))), (0, .ref (zad G 0 0)), (1, .int (zI y)), (2, .ref (zad G 26 0)), (3, .ref (zad G 27 0)), (4, .ref (zad G 29 0)), (5, .ref (zad G 30 0)), (6, .ref (zad G 31 0)), (7, .ref (zad G 32 0)), (8, .ref (zad G 33 0)), (9, .ref (zad G 34 0)), (10, .ref (zad G 36 0)), (11, .int (zI r))]) C 94 dL_isTold_94 13 rfl (by decide) rfl ?_
                refine z_goto C 97 63 dL_isTold_97 (by decide) ?_
                refine z_sub (lv' := [(0, .ref (zad G 0 0)), (1, .int (zI y)), (2, .ref (zad G 26 0)), (3, .ref (zad G 27 0)), (4, .ref (zad G 29 0)), (5, .ref (zad G 30 0)), (6, .ref (zad G 31 0)), (7, .ref (zad G 32 0)), (8, .ref (zad G 33 0)), (9, .ref (zad G 34 0)), (10, .ref (zad G 36 0)), (11, .int (zI r)), (12, .int (zI (ct + 1))), (13, .int (zI (k1 + 1)))]) [2, 3, 4, 5, 6, 7, 8, 9, 10, 11, 12, 13, 1, 0] rfl ?_
                exact ihz52 (ct + 1) (k1 + 1) (by omega) (by rw [zsm_sh _ f0.1, ← f1, zind_t (by rw [show 8 * r.toNat + (k1 - 8 * r).toNat = k1.toNat by omega]; omega)]) (by omega)
            refine z_sub (lv' := [(0, .ref (zad G 0 0)), (1, .int (zI y)), (2, .ref (zad G 26 0)), (3, .ref (zad G 27 0)), (4, .ref (zad G 29 0)), (5, .ref (zad G 30 0)), (6, .ref (zad G 31 0)), (7, .ref (zad G 32 0)), (8, .ref (zad G 33 0)), (9, .ref (zad G 34 0)), (10, .ref (zad G 36 0)), (11, .int (zI r)), (12, .int (zI 0)), (13, .int (zI (8 * r)))]) [2, 3, 4, 5, 6, 7, 8, 9, 10, 11, 12, 13, 1, 0] rfl ?_
            exact L63_51 (((8 * r + 8 - (8 * r) : Int)).toNat + 1) 0 (8 * r) (by omega) (by rw [show (8 * r - 8 * r).toNat = 0 by omega]; rfl) (by omega)
        refine z_sub (lv' := [(0, .ref (zad G 0 0)), (1, .int (zI y)), (2, .ref (zad G 26 0)), (3, .ref (zad G 27 0)), (4, .ref (zad G 29 0)), (5, .ref (zad G 30 0)), (6, .ref (zad G 31 0)), (7, .ref (zad G 32 0)), (8, .ref (zad G 33 0)), (9, .ref (zad G 34 0)), (10, .ref (zad G 36 0)), (11, .int (zI 0))]) [1, 2, 3, 4, 5, 6, 7, 8, 9, 10, 11, 0] rfl ?_
        refine zZ_wd (k := 16 + 224 * (0 : Int).toNat) (n := 96 + 1344 * (0 : Int).toNat) (by omega) (by omega) ?_
        exact L47_4 (((2 - 0 : Int)).toNat + 1) 0 (by omega) (by omega)
      refine z_aload_n C 12 dL_isTold_12 rfl 0 rfl ?_
      refine z_iload C 13 dL_isTold_13 11 rfl ?_
      refine zs_call C 15 (n := 2) (As := [.ref (zad G 0 0), .int (zI k0)]) (rest := []) (v_version l hfl G M hw k0 (by first | assumption | decide | omega)) wm_L_99 wcw_L_version wini_L wst_L_version ⟨by decide, by decide, by decide⟩ ⟨by decide, by decide⟩ rfl (Nat.le_of_ble_eq_true rfl) ⟨by show _ ≤ 500; omega, by show _ ≤ 3000; omega⟩ dL_isTold_15 rfl (fun zq94 Mz95 hzq94 hPz94 => ?_)
      refine zZ_cs (k := 1 + 1 * k0.toNat) (n := 6 + 6 * k0.toNat) (by omega) (by omega) ?_
      obtain ⟨emzq94, hPz94r⟩ := hPz94.2 ⟨by omega, by show k0 < zV M 1 0 1; omega⟩
      subst emzq94
      have hv9 := t_ver hA (i := k0) (by omega) (by omega)
      have hx9 := hPz94r.trans hv9.2
      have hv8 := hv9.1
      clear hv9
      refine z_aload_n C 18 dL_isTold_18 rfl 3 rfl ?_
      refine z_iload C 19 dL_isTold_19 11 rfl ?_
      refine z_ialdj C 21 (show 0 < 1 by omega) (zc27 ..) k0.toNat rfl (by first | assumption | omega) (by omega) (show k0 < ((16 : Nat) : Int) by omega) dL_isTold_21 (fun zq96 ezq96 hzq96 => ?_)
      refine z_if_ne C 22 29 dL_isTold_22 (by decide) hzq96 (fun c22_659 => ?_) (fun c22_659 => ?_)
      · have hy9 : zq94 = zV M 27 0 k0.toNat := by rw [hx9, if_neg (show ¬ zV M 27 0 k0.toNat = 0 by omega)]
        refine z_aload_n C 29 dL_isTold_29 rfl 3 rfl ?_
        refine z_iload C 30 dL_isTold_30 11 rfl ?_
        refine z_ialdj C 32 (show 0 < 1 by omega) (zc27 ..) k0.toNat rfl (by first | assumption | omega) (by omega) (show k0 < ((16 : Nat) : Int) by omega) dL_isTold_32 (fun zq97 ezq97 hzq97 => ?_)
        refine z_icmp_eq C 33 38 dL_isTold_33 (by decide) hzq94 hzq97 (fun c33_665 => ?_) (fun c33_665 => ?_)
        rotate_left
        · exact absurd (by omega) c33_665
        refine z_iinc (lv' := [(11, .int (zI (k0 + 1))), (0, .ref (zad G 0 0)), (1, .int (zI y)), (2, .ref (zad G 26 0)), (3, .ref (zad G 27 0)), (4, .ref (zad G 29 0)), (5, .ref (zad G 30 0)), (6, .ref (zad G 31 0)), (7, .ref (zad G 32 0)), (8, .ref (zad G 33 0)), (9, .ref (zad G 34 0)), (10, .ref (zad G 36 0))]) C 38 dL_isTold_38 11 rfl (by decide) rfl ?_
        refine z_goto C 41 3 dL_isTold_41 (by decide) ?_
        refine z_sub (lv' := [(0, .ref (zad G 0 0)), (1, .int (zI y)), (2, .ref (zad G 26 0)), (3, .ref (zad G 27 0)), (4, .ref (zad G 29 0)), (5, .ref (zad G 30 0)), (6, .ref (zad G 31 0)), (7, .ref (zad G 32 0)), (8, .ref (zad G 33 0)), (9, .ref (zad G 34 0)), (10, .ref (zad G 36 0)), (11, .int (zI (k0 + 1)))]) [1, 2, 3, 4, 5, 6, 7, 8, 9, 10, 11, 0] rfl ?_
        refine zZ_wd (k := 0 + 1 * (k0 + 1 : Int).toNat) (n := 0 + 6 * (k0 + 1 : Int).toNat) (by omega) (by omega) ?_
        exact ihz2 (k0 + 1) (by omega) (by omega)
      have hy9 : zq94 = -1 := by rw [hx9, if_pos (show zV M 27 0 k0.toNat = 0 by omega)]
      refine z_iconst C 25 dL_isTold_25 ?_
      refine z_goto C 26 33 dL_isTold_26 (by decide) ?_
      refine z_icmp_eq C 33 38 dL_isTold_33 (by decide) hzq94 (by decide) (fun c33_675 => ?_) (fun c33_675 => ?_)
      rotate_left
      · exact absurd (by omega) c33_675
      refine z_iinc (lv' := [(11, .int (zI (k0 + 1))), (0, .ref (zad G 0 0)), (1, .int (zI y)), (2, .ref (zad G 26 0)), (3, .ref (zad G 27 0)), (4, .ref (zad G 29 0)), (5, .ref (zad G 30 0)), (6, .ref (zad G 31 0)), (7, .ref (zad G 32 0)), (8, .ref (zad G 33 0)), (9, .ref (zad G 34 0)), (10, .ref (zad G 36 0))]) C 38 dL_isTold_38 11 rfl (by decide) rfl ?_
      refine z_goto C 41 3 dL_isTold_41 (by decide) ?_
      refine z_sub (lv' := [(0, .ref (zad G 0 0)), (1, .int (zI y)), (2, .ref (zad G 26 0)), (3, .ref (zad G 27 0)), (4, .ref (zad G 29 0)), (5, .ref (zad G 30 0)), (6, .ref (zad G 31 0)), (7, .ref (zad G 32 0)), (8, .ref (zad G 33 0)), (9, .ref (zad G 34 0)), (10, .ref (zad G 36 0)), (11, .int (zI (k0 + 1)))]) [1, 2, 3, 4, 5, 6, 7, 8, 9, 10, 11, 0] rfl ?_
      refine zZ_wd (k := 0 + 1 * (k0 + 1 : Int).toNat) (n := 0 + 6 * (k0 + 1 : Int).toNat) (by omega) (by omega) ?_
      exact ihz2 (k0 + 1) (by omega) (by omega)
  refine z_sub (lv' := [(0, .ref (zad G 0 0)), (1, .int (zI y)), (2, .ref (zad G 26 0)), (3, .ref (zad G 27 0)), (4, .ref (zad G 29 0)), (5, .ref (zad G 30 0)), (6, .ref (zad G 31 0)), (7, .ref (zad G 32 0)), (8, .ref (zad G 33 0)), (9, .ref (zad G 34 0)), (10, .ref (zad G 36 0)), (11, .int (zI 0))]) [1, 2, 3, 4, 5, 6, 7, 8, 9, 10, 11, 0] rfl ?_
  refine zZ_wd (k := 0 + 1 * (0 : Int).toNat) (n := 0 + 6 * (0 : Int).toNat) (by omega) (by omega) ?_
  exact L3_1 (((zV M 1 0 1 - 0 : Int)).toNat + 1) 0 (by omega) (by omega)
