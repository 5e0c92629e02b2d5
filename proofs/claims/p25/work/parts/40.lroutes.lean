set_option maxHeartbeats 4000000 in
set_option maxRecDepth 100000 in
theorem c_L_routes (l : Launch) (G : zG) (M : zMem) {n : Nat} (hfl : l.stackTraces = false) (h : iN n M M) (hn : n ≤ 119) (act y z : Int) (hact : 0 ≤ act ∧ act < 20) : Met l yL_routes [.code yL_routes cL_routes 20 (some .boolean)] (zR 11 20 120) (zPc G M [.ref (zad G 0 0), .int (zI act), .int (zI y), .int (zI z), .ref (zad G 26 0), .ref (zad G 27 0), .ref (zad G 28 0), .ref (zad G 29 0), .ref (zad G 30 0), .ref (zad G 31 0), .ref (zad G 32 0), .ref (zad G 33 0), .ref (zad G 34 0), .ref (zad G 35 0), .ref (zad G 36 0)]) (zQi G (fun x M' => x = 1 ∧ iN (n + 1) M' M')) 20 120 (zA G) := by
  refine z_met [(0, .ref (zad G 0 0)), (1, .int (zI act)), (2, .int (zI y)), (3, .int (zI z)), (4, .ref (zad G 26 0)), (5, .ref (zad G 27 0)), (6, .ref (zad G 28 0)), (7, .ref (zad G 29 0)), (8, .ref (zad G 30 0)), (9, .ref (zad G 31 0)), (10, .ref (zad G 32 0)), (11, .ref (zad G 33 0)), (12, .ref (zad G 34 0)), (13, .ref (zad G 35 0)), (14, .ref (zad G 36 0))] (by decide) (Nat.le_of_ble_eq_true rfl) rfl ?_
  intro p e s m below meth c C
  have C : zC p s m ([.ref (zad G 0 0), .int (zI act), .int (zI y), .int (zI z), .ref (zad G 26 0), .ref (zad G 27 0), .ref (zad G 28 0), .ref (zad G 29 0), .ref (zad G 30 0), .ref (zad G 31 0), .ref (zad G 32 0), .ref (zad G 33 0), .ref (zad G 34 0), .ref (zad G 35 0), .ref (zad G 36 0)] : List Value).toArray meth c G RL cL_routes 20 (some .boolean) := C
  have hw := iN_WC h (by omega)
  have hB := h.2.1
  have hB1 := hB.1
  have hS := h.2.2.1
  have hS1 := hS.1
  have hC1 := h.2.2.2.1.1
  have hC3 := h.2.2.2.1.2.2.1
  refine z_iload_n C 0 dL_routes_0 rfl 2 rfl ?_
  refine z_iconst C 1 dL_routes_1 ?_
  refine z_callSi C 2 (As := [.int (zI y), .int (zI 2)]) (rest := []) (c_L_low l G M y 2 (by omega)) (zS_of 2 C wm_L_85 wc_L_low wini_L wst_L_low ⟨by decide, by decide, by decide⟩ ⟨by decide, by decide⟩) rfl (Nat.le_of_ble_eq_true rfl) ⟨by decide, by decide⟩ dL_routes_2 rfl (fun zq1 Mz2 hzq1 hPz1 => ?_)
  obtain ⟨rfl, hPz1⟩ := hPz1
  refine z_istore (lv' := [(15, .int (zI zq1)), (0, .ref (zad G 0 0)), (1, .int (zI act)), (2, .int (zI y)), (3, .int (zI z)), (4, .ref (zad G 26 0)), (5, .ref (zad G 27 0)), (6, .ref (zad G 28 0)), (7, .ref (zad G 29 0)), (8, .ref (zad G 30 0)), (9, .ref (zad G 31 0)), (10, .ref (zad G 32 0)), (11, .ref (zad G 33 0)), (12, .ref (zad G 34 0)), (13, .ref (zad G 35 0)), (14, .ref (zad G 36 0))]) C 5 dL_routes_5 (by decide) rfl ?_
  refine z_iload_n C 7 dL_routes_7 rfl 2 rfl ?_
  refine z_bipush C 8 dL_routes_8 (by decide +kernel) ?_
  refine z_icmp_ge C 10 122 dL_routes_10 (by decide) (by first | assumption | omega) (by decide) (fun c10_20 => ?_) (fun c10_20 => ?_)
  · refine z_iload_n C 122 dL_routes_122 rfl 2 rfl ?_
    refine z_bipush C 123 dL_routes_123 (by decide +kernel) ?_
    refine z_icmp_ge C 125 291 dL_routes_125 (by decide) (by first | assumption | omega) (by decide) (fun c125_24 => ?_) (fun c125_24 => ?_)
    · refine z_iload_n C 291 dL_routes_291 rfl 2 rfl ?_
      refine z_bipush C 292 dL_routes_292 (by decide +kernel) ?_
      refine z_icmp_ge C 294 498 dL_routes_294 (by decide) (by first | assumption | omega) (by decide) (fun c294_28 => ?_) (fun c294_28 => ?_)
      · refine z_iload_n C 498 dL_routes_498 rfl 2 rfl ?_
        refine z_bipush C 499 dL_routes_499 (by decide +kernel) ?_
        refine z_icmp_ne C 501 613 dL_routes_501 (by decide) (by first | assumption | omega) (by decide) (fun c501_32 => ?_) (fun c501_32 => ?_)
        · refine z_iload_n C 613 dL_routes_613 rfl 2 rfl ?_
          refine z_bipush C 614 dL_routes_614 (by decide +kernel) ?_
          refine z_icmp_ne C 616 709 dL_routes_616 (by decide) (by first | assumption | omega) (by decide) (fun c616_36 => ?_) (fun c616_36 => ?_)
          · refine z_iconst C 709 dL_routes_709 ?_
            refine z_iload_n C 710 dL_routes_710 rfl 4 rfl ?_
            refine z_iload_n C 711 dL_routes_711 rfl 4 rfl ?_
            refine z_bipush C 712 dL_routes_712 (by decide +kernel) ?_
            refine z_iand_any C 714 dL_routes_714 (fun zv3 hzv3 => ?_)
            refine z_if_ne C 715 723 dL_routes_715 (by decide) hzv3 (fun c715_43 => ?_) (fun c715_43 => ?_)
            · refine z_bipush C 723 dL_routes_723 (by decide +kernel) ?_
              refine z_callSi C 725 (As := [.int (zI z), .int (zI 9)]) (rest := [.int (zI 1)]) (c_L_low l G M z 9 (by omega)) (zS_of 2 C wm_L_85 wc_L_low wini_L wst_L_low ⟨by decide, by decide, by decide⟩ ⟨by decide, by decide⟩) rfl (Nat.le_of_ble_eq_true rfl) ⟨by decide, by decide⟩ dL_routes_725 rfl (fun zq4 Mz5 hzq4 hPz4 => ?_)
              obtain ⟨rfl, hPz4⟩ := hPz4
              refine z_iadd C 728 dL_routes_728 ?_
              refine z_istore (lv' := [(16, .int (zI (1 + zq4))), (15, .int (zI zq1)), (0, .ref (zad G 0 0)), (1, .int (zI act)), (2, .int (zI y)), (3, .int (zI z)), (4, .ref (zad G 26 0)), (5, .ref (zad G 27 0)), (6, .ref (zad G 28 0)), (7, .ref (zad G 29 0)), (8, .ref (zad G 30 0)), (9, .ref (zad G 31 0)), (10, .ref (zad G 32 0)), (11, .ref (zad G 33 0)), (12, .ref (zad G 34 0)), (13, .ref (zad G 35 0)), (14, .ref (zad G 36 0))]) C 729 dL_routes_729 (by decide) rfl ?_
              refine z_aload C 731 dL_routes_731 16 rfl ?_
              refine z_iconst C 733 dL_routes_733 ?_
              refine z_dup2 C 734 dL_routes_734 rfl rfl ?_
              refine z_ialdj C 735 (show 0 < 1 by omega) (zc36 ..) 0 rfl (by decide) (by omega) (show 0 < ((12 : Nat) : Int) by omega) dL_routes_735 (fun zq6 ezq6 hzq6 => ?_)
              refine z_iload C 736 dL_routes_736 0 rfl ?_
              refine z_iadd C 738 dL_routes_738 ?_
              refine z_iastj C 739 (show 0 < 1 by omega) (zc36 ..) 0 rfl (by decide) (by omega) (show 0 < ((12 : Nat) : Int) by omega) (zc36 ..) dL_routes_739 ?_
              generalize hD1 : zup M 36 0 0 (zI (zq6 + (1 + zq4))) = M9
              have r1 : i_rf M M9 := by rw [← hD1]; exact (i_rf.r M).u (by decide)
              have hw1 := i_WC hw r1
              refine z_aload_n C 740 dL_routes_740 rfl 2 rfl ?_
              refine z_iconst C 741 dL_routes_741 ?_
              refine zs_call C 742 (n := 2) (As := [.ref (zad G 0 0), .int (zI 0)]) (rest := []) (v_pass l hfl G M9  0 (by first | assumption | decide | omega)) wm_L_149 wcw_L_pass wini_L wst_L_pass ⟨by decide, by decide, by decide⟩ ⟨by decide, by decide⟩ rfl (Nat.le_of_ble_eq_true rfl) ⟨by decide, by decide⟩ dL_routes_742 rfl (fun zq7 Mz8 hzq7 hPz7 => ?_)
              refine zZ_cs (k := 1) (n := 6) (by decide) (by decide) ?_
              obtain ⟨ezzq7, emzq7⟩ := hPz7.1 (fun q => by omega)
              subst ezzq7
              have emzq7 := emzq7.symm
              subst emzq7
              refine z_bipush C 745 dL_routes_745 (by decide +kernel) ?_
              refine z_icmp_ne C 747 779 dL_routes_747 (by decide) (by decide) (by decide) (fun c747_69 => ?_) (fun c747_69 => ?_)
              · exact absurd c747_69 (by decide)
              refine z_aload_n C 750 dL_routes_750 rfl 2 rfl ?_
              refine z_sipush C 751 dL_routes_751 (by decide +kernel) ?_
              refine zs_call C 754 (n := 2) (As := [.ref (zad G 0 0), .int (zI 1001)]) (rest := []) (v_pass l hfl G M9  1001 (by first | assumption | decide | omega)) wm_L_149 wcw_L_pass wini_L wst_L_pass ⟨by decide, by decide, by decide⟩ ⟨by decide, by decide⟩ rfl (Nat.le_of_ble_eq_true rfl) ⟨by decide, by decide⟩ dL_routes_754 rfl (fun zq9 Mz10 hzq9 hPz9 => ?_)
              refine zZ_cs (k := 2) (n := 12) (by decide) (by decide) ?_
              obtain ⟨ezzq9, emzq9⟩ := hPz9.1 (fun q => by omega)
              subst ezzq9
              have emzq9 := emzq9.symm
              subst emzq9
              refine z_bipush C 757 dL_routes_757 (by decide +kernel) ?_
              refine z_icmp_ne C 759 779 dL_routes_759 (by decide) (by decide) (by decide) (fun c759_80 => ?_) (fun c759_80 => ?_)
              · exact absurd c759_80 (by decide)
              refine z_aload_n C 762 dL_routes_762 rfl 2 rfl ?_
              refine z_iload C 763 dL_routes_763 0 rfl ?_
              refine zs_call C 765 (n := 2) (As := [.ref (zad G 0 0), .int (zI (1 + zq4))]) (rest := []) (v_pass l hfl G M9  (1 + zq4) (by first | assumption | decide | omega)) wm_L_149 wcw_L_pass wini_L wst_L_pass ⟨by decide, by decide, by decide⟩ ⟨by decide, by decide⟩ rfl (Nat.le_of_ble_eq_true rfl) ⟨by decide, by decide⟩ dL_routes_765 rfl (fun zq11 Mz12 hzq11 hPz11 => ?_)
              refine zZ_cs (k := 3) (n := 18) (by decide) (by decide) ?_
              obtain ⟨hs1, hs2⟩ := hPz11.2 ⟨by omega, by omega⟩
              rw [r1.v (by decide)] at hs1 hs2
              rw [zw_eq (by omega)] at hs1
              have hg9 : zV Mz12 36 0 0 = zq6 + (1 + zq4) := by rw [hs2, zV_ne (by decide), ← hD1, zV_eq (by omega)]
              have hN9 := i_pas (M2 := Mz12) (d := 1 + zq4) h (by omega) (fun κ i j q1 q2 => by rw [hs2, zV_upg, if_neg (fun q => q2 ⟨q.1, q.2.2⟩), ← hD1, zV_upg, if_neg (fun q => q1 ⟨q.1, q.2.2⟩)]) (by rw [hg9]; omega) (by rw [hs2, zV_eq (by omega)])
              refine z_aload C 768 dL_routes_768 16 rfl ?_
              refine z_iconst C 770 dL_routes_770 ?_
              refine z_ialdj C 771 (show 0 < 1 by omega) (zc36 ..) 0 rfl (by decide) (by omega) (show 0 < ((12 : Nat) : Int) by omega) dL_routes_771 (fun zq13 ezq13 hzq13 => ?_)
              refine z_icmp_ne C 772 779 dL_routes_772 (by decide) hzq11 hzq13 (fun c772_94 => ?_) (fun c772_94 => ?_)
              · exact absurd (by omega) c772_94
              refine z_iconst C 775 dL_routes_775 ?_
              refine z_goto C 776 780 dL_routes_776 (by decide) ?_
              refine z_zret C 780 dL_routes_780 (by decide) (by decide) (by decide) ?_
              exact ⟨rfl, hN9⟩
            refine z_bipush C 718 dL_routes_718 (by decide +kernel) ?_
            refine z_goto C 720 725 dL_routes_720 (by decide) ?_
            refine z_callSi C 725 (As := [.int (zI z), .int (zI 90)]) (rest := [.int (zI 1)]) (c_L_low l G M z 90 (by omega)) (zS_of 2 C wm_L_85 wc_L_low wini_L wst_L_low ⟨by decide, by decide, by decide⟩ ⟨by decide, by decide⟩) rfl (Nat.le_of_ble_eq_true rfl) ⟨by decide, by decide⟩ dL_routes_725 rfl (fun zq14 Mz15 hzq14 hPz14 => ?_)
            obtain ⟨rfl, hPz14⟩ := hPz14
            refine z_iadd C 728 dL_routes_728 ?_
            refine z_istore (lv' := [(16, .int (zI (1 + zq14))), (15, .int (zI zq1)), (0, .ref (zad G 0 0)), (1, .int (zI act)), (2, .int (zI y)), (3, .int (zI z)), (4, .ref (zad G 26 0)), (5, .ref (zad G 27 0)), (6, .ref (zad G 28 0)), (7, .ref (zad G 29 0)), (8, .ref (zad G 30 0)), (9, .ref (zad G 31 0)), (10, .ref (zad G 32 0)), (11, .ref (zad G 33 0)), (12, .ref (zad G 34 0)), (13, .ref (zad G 35 0)), (14, .ref (zad G 36 0))]) C 729 dL_routes_729 (by decide) rfl ?_
            refine z_aload C 731 dL_routes_731 16 rfl ?_
            refine z_iconst C 733 dL_routes_733 ?_
            refine z_dup2 C 734 dL_routes_734 rfl rfl ?_
            refine z_ialdj C 735 (show 0 < 1 by omega) (zc36 ..) 0 rfl (by decide) (by omega) (show 0 < ((12 : Nat) : Int) by omega) dL_routes_735 (fun zq16 ezq16 hzq16 => ?_)
            refine z_iload C 736 dL_routes_736 0 rfl ?_
            refine z_iadd C 738 dL_routes_738 ?_
            refine z_iastj C 739 (show 0 < 1 by omega) (zc36 ..) 0 rfl (by decide) (by omega) (show 0 < ((12 : Nat) : Int) by omega) (zc36 ..) dL_routes_739 ?_
            generalize hD1 : zup M 36 0 0 (zI (zq16 + (1 + zq14))) = M9
            have r1 : i_rf M M9 := by rw [← hD1]; exact (i_rf.r M).u (by decide)
            have hw1 := i_WC hw r1
            refine z_aload_n C 740 dL_routes_740 rfl 2 rfl ?_
            refine z_iconst C 741 dL_routes_741 ?_
            refine zs_call C 742 (n := 2) (As := [.ref (zad G 0 0), .int (zI 0)]) (rest := []) (v_pass l hfl G M9  0 (by first | assumption | decide | omega)) wm_L_149 wcw_L_pass wini_L wst_L_pass ⟨by decide, by decide, by decide⟩ ⟨by decide, by decide⟩ rfl (Nat.le_of_ble_eq_true rfl) ⟨by decide, by decide⟩ dL_routes_742 rfl (fun zq17 Mz18 hzq17 hPz17 => ?_)
            refine zZ_cs (k := 1) (n := 6) (by decide) (by decide) ?_
            obtain ⟨ezzq17, emzq17⟩ := hPz17.1 (fun q => by omega)
            subst ezzq17
            have emzq17 := emzq17.symm
            subst emzq17
            refine z_bipush C 745 dL_routes_745 (by decide +kernel) ?_
            refine z_icmp_ne C 747 779 dL_routes_747 (by decide) (by decide) (by decide) (fun c747_124 => ?_) (fun c747_124 => ?_)
            · exact absurd c747_124 (by decide)
            refine z_aload_n C 750 dL_routes_750 rfl 2 rfl ?_
            refine z_sipush C 751 dL_routes_751 (by decide +kernel) ?_
            refine zs_call C 754 (n := 2) (As := [.ref (zad G 0 0), .int (zI 1001)]) (rest := []) (v_pass l hfl G M9  1001 (by first | assumption | decide | omega)) wm_L_149 wcw_L_pass wini_L wst_L_pass ⟨by decide, by decide, by decide⟩ ⟨by decide, by decide⟩ rfl (Nat.le_of_ble_eq_true rfl) ⟨by decide, by decide⟩ dL_routes_754 rfl (fun zq19 Mz20 hzq19 hPz19 => ?_)
            refine zZ_cs (k := 2) (n := 12) (by decide) (by decide) ?_
            obtain ⟨ezzq19, emzq19⟩ := hPz19.1 (fun q => by omega)
            subst ezzq19
            have emzq19 := emzq19.symm
            subst emzq19
            refine z_bipush C 757 dL_routes_757 (by decide +kernel) ?_
            refine z_icmp_ne C 759 779 dL_routes_759 (by decide) (by decide) (by decide) (fun c759_135 => ?_) (fun c759_135 => ?_)
            · exact absurd c759_135 (by decide)
            refine z_aload_n C 762 dL_routes_762 rfl 2 rfl ?_
            refine z_iload C 763 dL_routes_763 0 rfl ?_
            refine zs_call C 765 (n := 2) (As := [.ref (zad G 0 0), .int (zI (1 + zq14))]) (rest := []) (v_pass l hfl G M9  (1 + zq14) (by first | assumption | decide | omega)) wm_L_149 wcw_L_pass wini_L wst_L_pass ⟨by decide, by decide, by decide⟩ ⟨by decide, by decide⟩ rfl (Nat.le_of_ble_eq_true rfl) ⟨by decide, by decide⟩ dL_routes_765 rfl (fun zq21 Mz22 hzq21 hPz21 => ?_)
            refine zZ_cs (k := 3) (n := 18) (by decide) (by decide) ?_
            obtain ⟨hs1, hs2⟩ := hPz21.2 ⟨by omega, by omega⟩
            rw [r1.v (by decide)] at hs1 hs2
            rw [zw_eq (by omega)] at hs1
            have hg9 : zV Mz22 36 0 0 = zq16 + (1 + zq14) := by rw [hs2, zV_ne (by decide), ← hD1, zV_eq (by omega)]
            have hN9 := i_pas (M2 := Mz22) (d := 1 + zq14) h (by omega) (fun κ i j q1 q2 => by rw [hs2, zV_upg, if_neg (fun q => q2 ⟨q.1, q.2.2⟩), ← hD1, zV_upg, if_neg (fun q => q1 ⟨q.1, q.2.2⟩)]) (by rw [hg9]; omega) (by rw [hs2, zV_eq (by omega)])
            refine z_aload C 768 dL_routes_768 16 rfl ?_
            refine z_iconst C 770 dL_routes_770 ?_
            refine z_ialdj C 771 (show 0 < 1 by omega) (zc36 ..) 0 rfl (by decide) (by omega) (show 0 < ((12 : Nat) : Int) by omega) dL_routes_771 (fun zq23 ezq23 hzq23 => ?_)
            refine z_icmp_ne C 772 779 dL_routes_772 (by decide) hzq21 hzq23 (fun c772_149 => ?_) (fun c772_149 => ?_)
            · exact absurd (by omega) c772_149
            refine z_iconst C 775 dL_routes_775 ?_
            refine z_goto C 776 780 dL_routes_776 (by decide) ?_
            refine z_zret C 780 dL_routes_780 (by decide) (by decide) (by decide) ?_
            exact ⟨rfl, hN9⟩
          refine z_aload C 619 dL_routes_619 15 rfl ?_
          refine z_iconst C 621 dL_routes_621 ?_
          refine z_ialdj C 622 (show 0 < 1 by omega) (zc36 ..) 1 rfl (by decide) (by omega) (show 1 < ((12 : Nat) : Int) by omega) dL_routes_622 (fun zq24 ezq24 hzq24 => ?_)
          refine z_istore (lv' := [(16, .int (zI zq24)), (15, .int (zI zq1)), (0, .ref (zad G 0 0)), (1, .int (zI act)), (2, .int (zI y)), (3, .int (zI z)), (4, .ref (zad G 26 0)), (5, .ref (zad G 27 0)), (6, .ref (zad G 28 0)), (7, .ref (zad G 29 0)), (8, .ref (zad G 30 0)), (9, .ref (zad G 31 0)), (10, .ref (zad G 32 0)), (11, .ref (zad G 33 0)), (12, .ref (zad G 34 0)), (13, .ref (zad G 35 0)), (14, .ref (zad G 36 0))]) C 623 dL_routes_623 (by decide) rfl ?_
          refine z_aload C 625 dL_routes_625 16 rfl ?_
          refine z_iconst C 627 dL_routes_627 ?_
          refine z_iconst C 628 dL_routes_628 ?_
          refine z_iload_n C 629 dL_routes_629 rfl 4 rfl ?_
          refine z_bipush C 630 dL_routes_630 (by decide +kernel) ?_
          refine z_callSi C 632 (As := [.int (zI y), .int (zI 60)]) (rest := [.int (zI 1), .int (zI 1), .ref (zad G 36 0)]) (c_L_low l G M y 60 (by omega)) (zS_of 2 C wm_L_85 wc_L_low wini_L wst_L_low ⟨by decide, by decide, by decide⟩ ⟨by decide, by decide⟩) rfl (Nat.le_of_ble_eq_true rfl) ⟨by decide, by decide⟩ dL_routes_632 rfl (fun zq25 Mz26 hzq25 hPz25 => ?_)
          obtain ⟨rfl, hPz25⟩ := hPz25
          refine z_iadd C 635 dL_routes_635 ?_
          refine z_iastj C 636 (show 0 < 1 by omega) (zc36 ..) 1 rfl (by decide) (by omega) (show 1 < ((12 : Nat) : Int) by omega) (zc36 ..) dL_routes_636 ?_
          refine z_aload C 637 dL_routes_637 16 rfl ?_
          refine z_iconst C 639 dL_routes_639 ?_
          refine z_iconst C 640 dL_routes_640 ?_
          refine z_iload_n C 641 dL_routes_641 rfl 5 rfl ?_
          refine z_bipush C 642 dL_routes_642 (by decide +kernel) ?_
          refine z_callSi C 644 (As := [.int (zI z), .int (zI 30)]) (rest := [.int (zI 1), .int (zI 2), .ref (zad G 36 0)]) (c_L_low l G (zup M 36 0 1 (zI (1 + zq25))) z 30 (by omega)) (zS_of 2 C wm_L_85 wc_L_low wini_L wst_L_low ⟨by decide, by decide, by decide⟩ ⟨by decide, by decide⟩) rfl (Nat.le_of_ble_eq_true rfl) ⟨by decide, by decide⟩ dL_routes_644 rfl (fun zq27 Mz28 hzq27 hPz27 => ?_)
          obtain ⟨rfl, hPz27⟩ := hPz27
          refine z_iadd C 647 dL_routes_647 ?_
          refine z_iastj C 648 (show 0 < 1 by omega) (zc36 ..) 2 rfl (by decide) (by omega) (show 2 < ((12 : Nat) : Int) by omega) (zc36 ..) dL_routes_648 ?_
          generalize hD1 : zup (zup M 36 0 1 (zI (1 + zq25))) 36 0 2 (zI (1 + zq27)) = M9
          have r1 : i_rf M M9 := by rw [← hD1]; exact ((i_rf.r M).u (by decide)).u (by decide)
          have hw1 := i_WC hw r1
          have hg1 : zV M9 36 0 1 = 1 + zq25 := by rw [← hD1, zV_nj (by decide), zV_eq (by omega)]
          have hg2 : zV M9 36 0 2 = 1 + zq27 := by rw [← hD1, zV_eq (by omega)]
          refine z_aload_n C 649 dL_routes_649 rfl 2 rfl ?_
          refine z_iconst C 650 dL_routes_650 ?_
          refine z_iconst C 651 dL_routes_651 ?_
          refine zs_call C 652 (n := 3) (As := [.ref (zad G 0 0), .int (zI 0), .int (zI 1)]) (rest := []) (v_setLifetimes l hfl G M9  0 1 (by first | assumption | decide | omega) (by first | assumption | decide | omega)) wm_L_147 wcw_L_setLifetimes wini_L wst_L_setLifetimes ⟨by decide, by decide, by decide⟩ ⟨by decide, by decide⟩ rfl (Nat.le_of_ble_eq_true rfl) ⟨by decide, by decide⟩ dL_routes_652 rfl (fun zq29 Mz30 hzq29 hPz29 => ?_)
          refine zZ_cs (k := 2) (n := 12) (by decide) (by decide) ?_
          obtain ⟨ezzq29, emzq29⟩ := hPz29.1 (fun q => by omega)
          subst ezzq29
          have emzq29 := emzq29.symm
          subst emzq29
          refine z_bipush C 655 dL_routes_655 (by decide +kernel) ?_
          refine z_icmp_ne C 657 707 dL_routes_657 (by decide) (by decide) (by decide) (fun c657_191 => ?_) (fun c657_191 => ?_)
          · exact absurd c657_191 (by decide)
          refine z_aload_n C 660 dL_routes_660 rfl 2 rfl ?_
          refine z_iconst C 661 dL_routes_661 ?_
          refine z_sipush C 662 dL_routes_662 (by decide +kernel) ?_
          refine zs_call C 665 (n := 3) (As := [.ref (zad G 0 0), .int (zI 1), .int (zI 1001)]) (rest := []) (v_setLifetimes l hfl G M9  1 1001 (by first | assumption | decide | omega) (by first | assumption | decide | omega)) wm_L_147 wcw_L_setLifetimes wini_L wst_L_setLifetimes ⟨by decide, by decide, by decide⟩ ⟨by decide, by decide⟩ rfl (Nat.le_of_ble_eq_true rfl) ⟨by decide, by decide⟩ dL_routes_665 rfl (fun zq31 Mz32 hzq31 hPz31 => ?_)
          refine zZ_cs (k := 4) (n := 24) (by decide) (by decide) ?_
          obtain ⟨ezzq31, emzq31⟩ := hPz31.1 (fun q => by omega)
          subst ezzq31
          have emzq31 := emzq31.symm
          subst emzq31
          refine z_bipush C 668 dL_routes_668 (by decide +kernel) ?_
          refine z_icmp_ne C 670 707 dL_routes_670 (by decide) (by decide) (by decide) (fun c670_203 => ?_) (fun c670_203 => ?_)
          · exact absurd c670_203 (by decide)
          refine z_aload_n C 673 dL_routes_673 rfl 2 rfl ?_
          refine z_sipush C 674 dL_routes_674 (by decide +kernel) ?_
          refine z_iconst C 677 dL_routes_677 ?_
          refine zs_call C 678 (n := 3) (As := [.ref (zad G 0 0), .int (zI 1001), .int (zI 1)]) (rest := []) (v_setLifetimes l hfl G M9  1001 1 (by first | assumption | decide | omega) (by first | assumption | decide | omega)) wm_L_147 wcw_L_setLifetimes wini_L wst_L_setLifetimes ⟨by decide, by decide, by decide⟩ ⟨by decide, by decide⟩ rfl (Nat.le_of_ble_eq_true rfl) ⟨by decide, by decide⟩ dL_routes_678 rfl (fun zq33 Mz34 hzq33 hPz33 => ?_)
          refine zZ_cs (k := 6) (n := 36) (by decide) (by decide) ?_
          obtain ⟨ezzq33, emzq33⟩ := hPz33.1 (fun q => by omega)
          subst ezzq33
          have emzq33 := emzq33.symm
          subst emzq33
          refine z_bipush C 681 dL_routes_681 (by decide +kernel) ?_
          refine z_icmp_ne C 683 707 dL_routes_683 (by decide) (by decide) (by decide) (fun c683_215 => ?_) (fun c683_215 => ?_)
          · exact absurd c683_215 (by decide)
          refine z_aload_n C 686 dL_routes_686 rfl 2 rfl ?_
          refine z_aload C 687 dL_routes_687 16 rfl ?_
          refine z_iconst C 689 dL_routes_689 ?_
          refine z_ialdj C 690 (show 0 < 1 by omega) (zc36 ..) 1 rfl (by decide) (by omega) (show 1 < ((12 : Nat) : Int) by omega) dL_routes_690 (fun zq35 ezq35 hzq35 => ?_)
          refine z_aload C 691 dL_routes_691 16 rfl ?_
          refine z_iconst C 693 dL_routes_693 ?_
          refine z_ialdj C 694 (show 0 < 1 by omega) (zc36 ..) 2 rfl (by decide) (by omega) (show 2 < ((12 : Nat) : Int) by omega) dL_routes_694 (fun zq36 ezq36 hzq36 => ?_)
          refine zs_call C 695 (n := 3) (As := [.ref (zad G 0 0), .int (zI zq35), .int (zI zq36)]) (rest := []) (v_setLifetimes l hfl G M9  zq35 zq36 (by first | assumption | decide | omega) (by first | assumption | decide | omega)) wm_L_147 wcw_L_setLifetimes wini_L wst_L_setLifetimes ⟨by decide, by decide, by decide⟩ ⟨by decide, by decide⟩ rfl (Nat.le_of_ble_eq_true rfl) ⟨by decide, by decide⟩ dL_routes_695 rfl (fun zq37 Mz38 hzq37 hPz37 => ?_)
          refine zZ_cs (k := 8) (n := 48) (by decide) (by decide) ?_
          obtain ⟨hs1, hs2⟩ := hPz37.2 (by omega)
          have hx9 : zq37 = zq24 := by rw [hs1, r1.v (by decide), ezq24]; exact hC1.2.1.symm
          have hN9 := i_slt (M2 := Mz38) (a := 1 + zq25) (b := 1 + zq27) h (by omega) (by omega) (fun κ i j q1 q2 => by rw [hs2, zV_upg, if_neg (by omega), zV_upg, if_neg (by omega), ← hD1, zV_upg, if_neg (by omega), zV_upg, if_neg (by omega)]) (by rw [hs2, zV_ne (by decide), zV_ne (by decide)]; exact hg1) (by rw [hs2, zV_ne (by decide), zV_ne (by decide)]; exact hg2) (by rw [hs2, zV_nj (by decide), zV_eq (by omega)]; omega) (by rw [hs2, zV_eq (by omega)]; omega)
          refine z_iload C 698 dL_routes_698 0 rfl ?_
          refine z_icmp_ne C 700 707 dL_routes_700 (by decide) hzq37 hzq24 (fun c700_230 => ?_) (fun c700_230 => ?_)
          · exact absurd hx9 c700_230
          refine z_iconst C 703 dL_routes_703 ?_
          refine z_goto C 704 708 dL_routes_704 (by decide) ?_
          refine z_zret C 708 dL_routes_708 (by decide) (by decide) (by decide) ?_
          exact ⟨rfl, hN9⟩
        refine z_iload_n C 504 dL_routes_504 rfl 3 rfl ?_
        refine z_iconst C 505 dL_routes_505 ?_
        refine z_callSi C 506 (As := [.int (zI y), .int (zI 4)]) (rest := []) (c_L_low l G M y 4 (by omega)) (zS_of 2 C wm_L_85 wc_L_low wini_L wst_L_low ⟨by decide, by decide, by decide⟩ ⟨by decide, by decide⟩) rfl (Nat.le_of_ble_eq_true rfl) ⟨by decide, by decide⟩ dL_routes_506 rfl (fun zq39 Mz40 hzq39 hPz39 => ?_)
        obtain ⟨rfl, hPz39⟩ := hPz39
        refine z_istore (lv' := [(16, .int (zI zq39)), (15, .int (zI zq1)), (0, .ref (zad G 0 0)), (1, .int (zI act)), (2, .int (zI y)), (3, .int (zI z)), (4, .ref (zad G 26 0)), (5, .ref (zad G 27 0)), (6, .ref (zad G 28 0)), (7, .ref (zad G 29 0)), (8, .ref (zad G 30 0)), (9, .ref (zad G 31 0)), (10, .ref (zad G 32 0)), (11, .ref (zad G 33 0)), (12, .ref (zad G 34 0)), (13, .ref (zad G 35 0)), (14, .ref (zad G 36 0))]) C 509 dL_routes_509 (by decide) rfl ?_
        refine z_iload_n C 511 dL_routes_511 rfl 5 rfl ?_
        refine z_bipush C 512 dL_routes_512 (by decide +kernel) ?_
        refine z_iand_any C 514 dL_routes_514 (fun zv41 hzv41 => ?_)
        refine z_if_le C 515 522 dL_routes_515 (by decide) hzv41 (fun c515_243 => ?_) (fun c515_243 => ?_)
        · refine z_iconst C 522 dL_routes_522 ?_
          refine z_istore (lv' := [(17, .int (zI 0)), (16, .int (zI zq39)), (15, .int (zI zq1)), (0, .ref (zad G 0 0)), (1, .int (zI act)), (2, .int (zI y)), (3, .int (zI z)), (4, .ref (zad G 26 0)), (5, .ref (zad G 27 0)), (6, .ref (zad G 28 0)), (7, .ref (zad G 29 0)), (8, .ref (zad G 30 0)), (9, .ref (zad G 31 0)), (10, .ref (zad G 32 0)), (11, .ref (zad G 33 0)), (12, .ref (zad G 34 0)), (13, .ref (zad G 35 0)), (14, .ref (zad G 36 0))]) C 523 dL_routes_523 (by decide) rfl ?_
          refine z_aload C 525 dL_routes_525 17 rfl ?_
          refine z_iconst C 527 dL_routes_527 ?_
          refine z_ialdj C 528 (show 0 < 1 by omega) (zc36 ..) 5 rfl (by decide) (by omega) (show 5 < ((12 : Nat) : Int) by omega) dL_routes_528 (fun zq42 ezq42 hzq42 => ?_)
          refine z_iload C 529 dL_routes_529 1 rfl ?_
          refine z_ishr C 531 (v := (zq42 / 2 ^ zq39.toNat)) dL_routes_531 (j_sar (by omega) (by omega) (by omega) (by omega) rfl) ?_
          refine z_iconst C 532 dL_routes_532 ?_
          refine z_iand C 533 (v := ((zq42 / 2 ^ zq39.toNat) % 2)) dL_routes_533 (j_mask (k := 1) (p := 2) (j_div2 (by omega)).1 rfl rfl) ?_
          have hq9 : 0 ≤ zq42 / 2 ^ zq39.toNat % 2 ∧ zq42 / 2 ^ zq39.toNat % 2 < 2 := ⟨Int.emod_nonneg _ (by decide), Int.emod_lt_of_pos _ (by decide)⟩
          refine z_istore (lv' := [(18, .int (zI ((zq42 / 2 ^ zq39.toNat) % 2))), (17, .int (zI 0)), (16, .int (zI zq39)), (15, .int (zI zq1)), (0, .ref (zad G 0 0)), (1, .int (zI act)), (2, .int (zI y)), (3, .int (zI z)), (4, .ref (zad G 26 0)), (5, .ref (zad G 27 0)), (6, .ref (zad G 28 0)), (7, .ref (zad G 29 0)), (8, .ref (zad G 30 0)), (9, .ref (zad G 31 0)), (10, .ref (zad G 32 0)), (11, .ref (zad G 33 0)), (12, .ref (zad G 34 0)), (13, .ref (zad G 35 0)), (14, .ref (zad G 36 0))]) C 534 dL_routes_534 (by decide) rfl ?_
          refine z_aload C 536 dL_routes_536 18 rfl ?_
          refine z_iconst C 538 dL_routes_538 ?_
          refine z_iload C 539 dL_routes_539 1 rfl ?_
          refine z_if_eq C 541 558 dL_routes_541 (by decide) (by decide) (fun c541_259 => ?_) (fun c541_259 => ?_)
          rotate_left
          · exact absurd c541_259 (by decide)
          refine z_aload C 558 dL_routes_558 18 rfl ?_
          refine z_iconst C 560 dL_routes_560 ?_
          refine z_ialdj C 561 (show 0 < 1 by omega) (zc36 ..) 5 rfl (by decide) (by omega) (show 5 < ((12 : Nat) : Int) by omega) dL_routes_561 (fun zq43 ezq43 hzq43 => ?_)
          obtain ⟨s9, w9, hb1, hb3, hb4, hb5, hb6⟩ := i_bset (g := zq43) (k := zq39) (by omega) (by omega)
          refine z_iconst C 562 dL_routes_562 ?_
          refine z_iload C 563 dL_routes_563 2 rfl ?_
          refine z_ishl C 565 (v := s9) dL_routes_565 hb1 ?_
          refine z_ior C 566 (v := w9) dL_routes_566 hb3 ?_
          refine z_iastj C 567 (show 0 < 1 by omega) (zc36 ..) 5 rfl (by decide) (by omega) (show 5 < ((12 : Nat) : Int) by omega) (zc36 ..) dL_routes_567 ?_
          generalize hD1 : zup M 36 0 5 (zI w9) = M9
          have r1 : i_rf M M9 := by rw [← hD1]; exact (i_rf.r M).u (by decide)
          have hw1 := i_WC hw r1
          refine z_aload_n C 568 dL_routes_568 rfl 4 rfl ?_
          refine z_iconst C 569 dL_routes_569 ?_
          refine z_iload C 570 dL_routes_570 1 rfl ?_
          refine zs_call C 572 (n := 3) (As := [.ref (zad G 0 0), .int (zI 4), .int (zI 0)]) (rest := []) (v_setUp l hfl G M9 hw1 4 0 (by first | assumption | decide | omega) (by first | assumption | decide | omega)) wm_L_144 wcw_L_setUp wini_L wst_L_setUp ⟨by decide, by decide, by decide⟩ ⟨by decide, by decide⟩ rfl (Nat.le_of_ble_eq_true rfl) ⟨by decide, by decide⟩ dL_routes_572 rfl (fun zq44 Mz45 hzq44 hPz44 => ?_)
          refine zZ_cs (k := 1) (n := 6) (by decide) (by decide) ?_
          obtain ⟨ezzq44, emzq44⟩ := hPz44.1 (fun q => by omega)
          subst ezzq44
          have emzq44 := emzq44.symm
          subst emzq44
          refine z_bipush C 575 dL_routes_575 (by decide +kernel) ?_
          refine z_icmp_ne C 577 611 dL_routes_577 (by decide) (by decide) (by decide) (fun c577_284 => ?_) (fun c577_284 => ?_)
          · exact absurd c577_284 (by decide)
          refine z_aload_n C 580 dL_routes_580 rfl 4 rfl ?_
          refine z_iconst C 581 dL_routes_581 ?_
          refine z_iload C 582 dL_routes_582 1 rfl ?_
          refine zs_call C 584 (n := 3) (As := [.ref (zad G 0 0), .int (zI (-1)), .int (zI 0)]) (rest := []) (v_setUp l hfl G M9 hw1 (-1) 0 (by first | assumption | decide | omega) (by first | assumption | decide | omega)) wm_L_144 wcw_L_setUp wini_L wst_L_setUp ⟨by decide, by decide, by decide⟩ ⟨by decide, by decide⟩ rfl (Nat.le_of_ble_eq_true rfl) ⟨by decide, by decide⟩ dL_routes_584 rfl (fun zq46 Mz47 hzq46 hPz46 => ?_)
          refine zZ_cs (k := 2) (n := 12) (by decide) (by decide) ?_
          obtain ⟨ezzq46, emzq46⟩ := hPz46.1 (fun q => by omega)
          subst ezzq46
          have emzq46 := emzq46.symm
          subst emzq46
          refine z_bipush C 587 dL_routes_587 (by decide +kernel) ?_
          refine z_icmp_ne C 589 611 dL_routes_589 (by decide) (by decide) (by decide) (fun c589_296 => ?_) (fun c589_296 => ?_)
          · exact absurd c589_296 (by decide)
          refine z_aload_n C 592 dL_routes_592 rfl 4 rfl ?_
          refine z_iload C 593 dL_routes_593 2 rfl ?_
          refine z_iload C 595 dL_routes_595 1 rfl ?_
          refine zs_call C 597 (n := 3) (As := [.ref (zad G 0 0), .int (zI zq39), .int (zI 0)]) (rest := []) (v_setUp l hfl G M9 hw1 zq39 0 (by first | assumption | decide | omega) (by first | assumption | decide | omega)) wm_L_144 wcw_L_setUp wini_L wst_L_setUp ⟨by decide, by decide, by decide⟩ ⟨by decide, by decide⟩ rfl (Nat.le_of_ble_eq_true rfl) ⟨by decide, by decide⟩ dL_routes_597 rfl (fun zq48 Mz49 hzq48 hPz48 => ?_)
          refine zZ_cs (k := 3) (n := 18) (by decide) (by decide) ?_
          obtain ⟨hs1, hs2⟩ := hPz48.2 ⟨by omega, by omega⟩
          have hs4 := hS.2 zq39.toNat (by omega)
          have hx9 : zq48 = 1 - zq42 / 2 ^ zq39.toNat % 2 := by
            rw [hs1, r1.v (by decide), ezq42, hs4.2.1]
            rcases hs4.1 with q | q <;> rw [q] <;> rfl
          have hN9 := i_sup (M2 := Mz49) (t := zq39.toNat) (w := w9) (e := 1) h (by omega) (by decide) ⟨by omega, hb5 (by omega) (by omega)⟩ (fun j hj => by rw [hb6 j hj, ezq43]) (fun κ i j q1 q2 => by rw [hs2, zV_upg, if_neg (fun q => q2 ⟨q.1, q.2.2⟩), ← hD1, zV_upg, if_neg (fun q => q1 ⟨q.1, q.2.2⟩)]) (by rw [hs2, zV_ne (by decide), ← hD1, zV_eq (by omega)]) (by rw [hs2, zV_eq (by decide)]; rfl)
          refine z_iconst C 600 dL_routes_600 ?_
          refine z_iload C 601 dL_routes_601 0 rfl ?_
          refine z_isub C 603 dL_routes_603 ?_
          refine z_icmp_ne C 604 611 dL_routes_604 (by decide) hzq48 (by first | assumption | omega) (fun c604_312 => ?_) (fun c604_312 => ?_)
          · exact absurd hx9 c604_312
          refine z_iconst C 607 dL_routes_607 ?_
          refine z_goto C 608 612 dL_routes_608 (by decide) ?_
          refine z_zret C 612 dL_routes_612 (by decide) (by decide) (by decide) ?_
          exact ⟨rfl, hN9⟩
        refine z_iconst C 518 dL_routes_518 ?_
        refine z_goto C 519 523 dL_routes_519 (by decide) ?_
        refine z_istore (lv' := [(17, .int (zI 1)), (16, .int (zI zq39)), (15, .int (zI zq1)), (0, .ref (zad G 0 0)), (1, .int (zI act)), (2, .int (zI y)), (3, .int (zI z)), (4, .ref (zad G 26 0)), (5, .ref (zad G 27 0)), (6, .ref (zad G 28 0)), (7, .ref (zad G 29 0)), (8, .ref (zad G 30 0)), (9, .ref (zad G 31 0)), (10, .ref (zad G 32 0)), (11, .ref (zad G 33 0)), (12, .ref (zad G 34 0)), (13, .ref (zad G 35 0)), (14, .ref (zad G 36 0))]) C 523 dL_routes_523 (by decide) rfl ?_
        refine z_aload C 525 dL_routes_525 17 rfl ?_
        refine z_iconst C 527 dL_routes_527 ?_
        refine z_ialdj C 528 (show 0 < 1 by omega) (zc36 ..) 5 rfl (by decide) (by omega) (show 5 < ((12 : Nat) : Int) by omega) dL_routes_528 (fun zq50 ezq50 hzq50 => ?_)
        refine z_iload C 529 dL_routes_529 1 rfl ?_
        refine z_ishr C 531 (v := (zq50 / 2 ^ zq39.toNat)) dL_routes_531 (j_sar (by omega) (by omega) (by omega) (by omega) rfl) ?_
        refine z_iconst C 532 dL_routes_532 ?_
        refine z_iand C 533 (v := ((zq50 / 2 ^ zq39.toNat) % 2)) dL_routes_533 (j_mask (k := 1) (p := 2) (j_div2 (by omega)).1 rfl rfl) ?_
        have hq9 : 0 ≤ zq50 / 2 ^ zq39.toNat % 2 ∧ zq50 / 2 ^ zq39.toNat % 2 < 2 := ⟨Int.emod_nonneg _ (by decide), Int.emod_lt_of_pos _ (by decide)⟩
        refine z_istore (lv' := [(18, .int (zI ((zq50 / 2 ^ zq39.toNat) % 2))), (17, .int (zI 1)), (16, .int (zI zq39)), (15, .int (zI zq1)), (0, .ref (zad G 0 0)), (1, .int (zI act)), (2, .int (zI y)), (3, .int (zI z)), (4, .ref (zad G 26 0)), (5, .ref (zad G 27 0)), (6, .ref (zad G 28 0)), (7, .ref (zad G 29 0)), (8, .ref (zad G 30 0)), (9, .ref (zad G 31 0)), (10, .ref (zad G 32 0)), (11, .ref (zad G 33 0)), (12, .ref (zad G 34 0)), (13, .ref (zad G 35 0)), (14, .ref (zad G 36 0))]) C 534 dL_routes_534 (by decide) rfl ?_
        refine z_aload C 536 dL_routes_536 18 rfl ?_
        refine z_iconst C 538 dL_routes_538 ?_
        refine z_iload C 539 dL_routes_539 1 rfl ?_
        refine z_if_eq C 541 558 dL_routes_541 (by decide) (by decide) (fun c541_332 => ?_) (fun c541_332 => ?_)
        · exact absurd c541_332 (by decide)
        refine z_aload C 544 dL_routes_544 18 rfl ?_
        refine z_iconst C 546 dL_routes_546 ?_
        refine z_ialdj C 547 (show 0 < 1 by omega) (zc36 ..) 5 rfl (by decide) (by omega) (show 5 < ((12 : Nat) : Int) by omega) dL_routes_547 (fun zq51 ezq51 hzq51 => ?_)
        obtain ⟨s9, t9, w9, hb1, hb2, hb3, hb4, hb5, hb6⟩ := i_bclr (g := zq51) (k := zq39) (by omega) (by omega)
        refine z_iconst C 548 dL_routes_548 ?_
        refine z_iload C 549 dL_routes_549 2 rfl ?_
        refine z_ishl C 551 (v := s9) dL_routes_551 hb1 ?_
        refine z_iconst C 552 dL_routes_552 ?_
        refine z_ixor C 553 (v := t9) dL_routes_553 hb2 ?_
        refine z_iand C 554 (v := w9) dL_routes_554 hb3 ?_
        refine z_goto C 555 567 dL_routes_555 (by decide) ?_
        refine z_iastj C 567 (show 0 < 1 by omega) (zc36 ..) 5 rfl (by decide) (by omega) (show 5 < ((12 : Nat) : Int) by omega) (zc36 ..) dL_routes_567 ?_
        generalize hD1 : zup M 36 0 5 (zI w9) = M9
        have r1 : i_rf M M9 := by rw [← hD1]; exact (i_rf.r M).u (by decide)
        have hw1 := i_WC hw r1
        refine z_aload_n C 568 dL_routes_568 rfl 4 rfl ?_
        refine z_iconst C 569 dL_routes_569 ?_
        refine z_iload C 570 dL_routes_570 1 rfl ?_
        refine zs_call C 572 (n := 3) (As := [.ref (zad G 0 0), .int (zI 4), .int (zI 1)]) (rest := []) (v_setUp l hfl G M9 hw1 4 1 (by first | assumption | decide | omega) (by first | assumption | decide | omega)) wm_L_144 wcw_L_setUp wini_L wst_L_setUp ⟨by decide, by decide, by decide⟩ ⟨by decide, by decide⟩ rfl (Nat.le_of_ble_eq_true rfl) ⟨by decide, by decide⟩ dL_routes_572 rfl (fun zq52 Mz53 hzq52 hPz52 => ?_)
        refine zZ_cs (k := 1) (n := 6) (by decide) (by decide) ?_
        obtain ⟨ezzq52, emzq52⟩ := hPz52.1 (fun q => by omega)
        subst ezzq52
        have emzq52 := emzq52.symm
        subst emzq52
        refine z_bipush C 575 dL_routes_575 (by decide +kernel) ?_
        refine z_icmp_ne C 577 611 dL_routes_577 (by decide) (by decide) (by decide) (fun c577_359 => ?_) (fun c577_359 => ?_)
        · exact absurd c577_359 (by decide)
        refine z_aload_n C 580 dL_routes_580 rfl 4 rfl ?_
        refine z_iconst C 581 dL_routes_581 ?_
        refine z_iload C 582 dL_routes_582 1 rfl ?_
        refine zs_call C 584 (n := 3) (As := [.ref (zad G 0 0), .int (zI (-1)), .int (zI 1)]) (rest := []) (v_setUp l hfl G M9 hw1 (-1) 1 (by first | assumption | decide | omega) (by first | assumption | decide | omega)) wm_L_144 wcw_L_setUp wini_L wst_L_setUp ⟨by decide, by decide, by decide⟩ ⟨by decide, by decide⟩ rfl (Nat.le_of_ble_eq_true rfl) ⟨by decide, by decide⟩ dL_routes_584 rfl (fun zq54 Mz55 hzq54 hPz54 => ?_)
        refine zZ_cs (k := 2) (n := 12) (by decide) (by decide) ?_
        obtain ⟨ezzq54, emzq54⟩ := hPz54.1 (fun q => by omega)
        subst ezzq54
        have emzq54 := emzq54.symm
        subst emzq54
        refine z_bipush C 587 dL_routes_587 (by decide +kernel) ?_
        refine z_icmp_ne C 589 611 dL_routes_589 (by decide) (by decide) (by decide) (fun c589_371 => ?_) (fun c589_371 => ?_)
        · exact absurd c589_371 (by decide)
        refine z_aload_n C 592 dL_routes_592 rfl 4 rfl ?_
        refine z_iload C 593 dL_routes_593 2 rfl ?_
        refine z_iload C 595 dL_routes_595 1 rfl ?_
        refine zs_call C 597 (n := 3) (As := [.ref (zad G 0 0), .int (zI zq39), .int (zI 1)]) (rest := []) (v_setUp l hfl G M9 hw1 zq39 1 (by first | assumption | decide | omega) (by first | assumption | decide | omega)) wm_L_144 wcw_L_setUp wini_L wst_L_setUp ⟨by decide, by decide, by decide⟩ ⟨by decide, by decide⟩ rfl (Nat.le_of_ble_eq_true rfl) ⟨by decide, by decide⟩ dL_routes_597 rfl (fun zq56 Mz57 hzq56 hPz56 => ?_)
        refine zZ_cs (k := 3) (n := 18) (by decide) (by decide) ?_
        obtain ⟨hs1, hs2⟩ := hPz56.2 ⟨by omega, by omega⟩
        have hs4 := hS.2 zq39.toNat (by omega)
        have hx9 : zq56 = 1 - zq50 / 2 ^ zq39.toNat % 2 := by
          rw [hs1, r1.v (by decide), ezq50, hs4.2.1]
          rcases hs4.1 with q | q <;> rw [q] <;> rfl
        have hN9 := i_sup (M2 := Mz57) (t := zq39.toNat) (w := w9) (e := 0) h (by omega) (by decide) ⟨by omega, hb5 (by omega) (by omega)⟩ (fun j hj => by rw [hb6 j hj, ezq51]) (fun κ i j q1 q2 => by rw [hs2, zV_upg, if_neg (fun q => q2 ⟨q.1, q.2.2⟩), ← hD1, zV_upg, if_neg (fun q => q1 ⟨q.1, q.2.2⟩)]) (by rw [hs2, zV_ne (by decide), ← hD1, zV_eq (by omega)]) (by rw [hs2, zV_eq (by decide)]; rfl)
        refine z_iconst C 600 dL_routes_600 ?_
        refine z_iload C 601 dL_routes_601 0 rfl ?_
        refine z_isub C 603 dL_routes_603 ?_
        refine z_icmp_ne C 604 611 dL_routes_604 (by decide) hzq56 (by first | assumption | omega) (fun c604_387 => ?_) (fun c604_387 => ?_)
        · exact absurd hx9 c604_387
        refine z_iconst C 607 dL_routes_607 ?_
        refine z_goto C 608 612 dL_routes_608 (by decide) ?_
        refine z_zret C 612 dL_routes_612 (by decide) (by decide) (by decide) ?_
        exact ⟨rfl, hN9⟩
      refine z_iload_n C 297 dL_routes_297 rfl 3 rfl ?_
      refine z_iload_n C 298 dL_routes_298 rfl 4 rfl ?_
      refine z_callSi C 299 (As := [.int (zI y), .int (zI z)]) (rest := []) (c_L_prefix l G M y z) (zS_of 2 C wm_L_92 wc_L_prefix wini_L wst_L_prefix ⟨by decide, by decide, by decide⟩ ⟨by decide, by decide⟩) rfl (Nat.le_of_ble_eq_true rfl) ⟨by decide, by decide⟩ dL_routes_299 rfl (fun zq58 Mz59 hzq58 hPz58 => ?_)
      obtain ⟨rfl, hPz58⟩ := hPz58
      obtain ⟨v9, b9, hpv, hvp⟩ := hPz58
      have hvp9 := hvp.1
      unfold zpfx at hvp9
      have e1 : zq58 / 32 = v9 := by omega
      have e2 : zq58 % 32 = b9 := by omega
      refine z_istore (lv' := [(16, .int (zI zq58)), (15, .int (zI zq1)), (0, .ref (zad G 0 0)), (1, .int (zI act)), (2, .int (zI y)), (3, .int (zI z)), (4, .ref (zad G 26 0)), (5, .ref (zad G 27 0)), (6, .ref (zad G 28 0)), (7, .ref (zad G 29 0)), (8, .ref (zad G 30 0)), (9, .ref (zad G 31 0)), (10, .ref (zad G 32 0)), (11, .ref (zad G 33 0)), (12, .ref (zad G 34 0)), (13, .ref (zad G 35 0)), (14, .ref (zad G 36 0))]) C 302 dL_routes_302 (by decide) rfl ?_
      refine z_iload_n C 304 dL_routes_304 rfl 4 rfl ?_
      refine z_bipush C 305 dL_routes_305 (by decide +kernel) ?_
      refine z_ishr_any C 307 dL_routes_307 (fun zv60 hzv60 => ?_)
      refine z_iconst C 308 dL_routes_308 ?_
      refine z_callSi C 309 (As := [.int (zI zv60), .int (zI 4)]) (rest := []) (c_L_low l G M zv60 4 (by omega)) (zS_of 2 C wm_L_85 wc_L_low wini_L wst_L_low ⟨by decide, by decide, by decide⟩ ⟨by decide, by decide⟩) rfl (Nat.le_of_ble_eq_true rfl) ⟨by decide, by decide⟩ dL_routes_309 rfl (fun zq61 Mz62 hzq61 hPz61 => ?_)
      obtain ⟨rfl, hPz61⟩ := hPz61
      refine z_istore (lv' := [(17, .int (zI zq61)), (16, .int (zI zq58)), (15, .int (zI zq1)), (0, .ref (zad G 0 0)), (1, .int (zI act)), (2, .int (zI y)), (3, .int (zI z)), (4, .ref (zad G 26 0)), (5, .ref (zad G 27 0)), (6, .ref (zad G 28 0)), (7, .ref (zad G 29 0)), (8, .ref (zad G 30 0)), (9, .ref (zad G 31 0)), (10, .ref (zad G 32 0)), (11, .ref (zad G 33 0)), (12, .ref (zad G 34 0)), (13, .ref (zad G 35 0)), (14, .ref (zad G 36 0))]) C 312 dL_routes_312 (by decide) rfl ?_
      refine z_aload_n C 314 dL_routes_314 rfl 3 rfl ?_
      refine z_iconst C 315 dL_routes_315 ?_
      refine z_iconst C 316 dL_routes_316 ?_
      refine z_iconst C 317 dL_routes_317 ?_
      refine zs_call C 318 (n := 4) (As := [.ref (zad G 0 0), .int (zI 1), .int (zI 0), .int (zI 4)]) (rest := []) (v_delegate l hfl G M hw 1 0 4 (by first | assumption | decide | omega) (by first | assumption | decide | omega) (by first | assumption | decide | omega)) wm_L_142 wcw_L_delegate wini_L wst_L_delegate ⟨by decide, by decide, by decide⟩ ⟨by decide, by decide⟩ rfl (Nat.le_of_ble_eq_true rfl) ⟨by decide, by decide⟩ dL_routes_318 rfl (fun zq63 Mz64 hzq63 hPz63 => ?_)
      refine zZ_cs (k := 5) (n := 30) (by decide) (by decide) ?_
      obtain ⟨ezzq63, emzq63⟩ := hPz63.1 (fun q => by omega)
      subst ezzq63
      have emzq63 := emzq63.symm
      subst emzq63
      refine z_bipush C 321 dL_routes_321 (by decide +kernel) ?_
      refine z_icmp_ne C 323 353 dL_routes_323 (by decide) (by decide) (by decide) (fun c323_420 => ?_) (fun c323_420 => ?_)
      · exact absurd c323_420 (by decide)
      refine z_aload_n C 326 dL_routes_326 rfl 3 rfl ?_
      refine z_iconst C 327 dL_routes_327 ?_
      refine z_iconst C 328 dL_routes_328 ?_
      refine z_iload C 329 dL_routes_329 0 rfl ?_
      refine zs_call C 331 (n := 4) (As := [.ref (zad G 0 0), .int (zI 1), .int (zI 0), .int (zI zq61)]) (rest := []) (v_delegate l hfl G M hw 1 0 zq61 (by first | assumption | decide | omega) (by first | assumption | decide | omega) (by first | assumption | decide | omega)) wm_L_142 wcw_L_delegate wini_L wst_L_delegate ⟨by decide, by decide, by decide⟩ ⟨by decide, by decide⟩ rfl (Nat.le_of_ble_eq_true rfl) ⟨by decide, by decide⟩ dL_routes_331 rfl (fun zq65 Mz66 hzq65 hPz65 => ?_)
      refine zZ_cs (k := 10) (n := 60) (by decide) (by decide) ?_
      obtain ⟨ezzq65, emzq65⟩ := hPz65.2.1 (by omega) (fun q => absurd q.2 (by decide))
      subst ezzq65
      have emzq65 := emzq65.symm
      subst emzq65
      refine z_bipush C 334 dL_routes_334 (by decide +kernel) ?_
      refine z_icmp_ne C 336 353 dL_routes_336 (by decide) (by decide) (by decide) (fun c336_433 => ?_) (fun c336_433 => ?_)
      · exact absurd c336_433 (by decide)
      refine z_aload_n C 339 dL_routes_339 rfl 3 rfl ?_
      refine z_iconst C 340 dL_routes_340 ?_
      refine z_bipush C 341 dL_routes_341 (by decide +kernel) ?_
      refine z_iload C 343 dL_routes_343 0 rfl ?_
      refine zs_call C 345 (n := 4) (As := [.ref (zad G 0 0), .int (zI 0), .int (zI 17), .int (zI zq61)]) (rest := []) (v_delegate l hfl G M hw 0 17 zq61 (by first | assumption | decide | omega) (by first | assumption | decide | omega) (by first | assumption | decide | omega)) wm_L_142 wcw_L_delegate wini_L wst_L_delegate ⟨by decide, by decide, by decide⟩ ⟨by decide, by decide⟩ rfl (Nat.le_of_ble_eq_true rfl) ⟨by decide, by decide⟩ dL_routes_345 rfl (fun zq67 Mz68 hzq67 hPz67 => ?_)
      refine zZ_cs (k := 15) (n := 90) (by decide) (by decide) ?_
      obtain ⟨ezzq67, emzq67⟩ := hPz67.2.1 (by omega) (fun q => by have q1 := q.1; unfold zpfx at q1; omega)
      subst ezzq67
      have emzq67 := emzq67.symm
      subst emzq67
      refine z_bipush C 348 dL_routes_348 (by decide +kernel) ?_
      refine z_icmp_eq C 350 355 dL_routes_350 (by decide) (by decide) (by decide) (fun c350_446 => ?_) (fun c350_446 => ?_)
      rotate_left
      · exact absurd c350_446 (by decide)
      refine z_aload C 355 dL_routes_355 17 rfl ?_
      refine z_iconst C 357 dL_routes_357 ?_
      refine z_ialdj C 358 (show 0 < 1 by omega) (zc36 ..) 4 rfl (by decide) (by omega) (show 4 < ((12 : Nat) : Int) by omega) dL_routes_358 (fun zq69 ezq69 hzq69 => ?_)
      refine z_istore (lv' := [(18, .int (zI zq69)), (17, .int (zI zq61)), (16, .int (zI zq58)), (15, .int (zI zq1)), (0, .ref (zad G 0 0)), (1, .int (zI act)), (2, .int (zI y)), (3, .int (zI z)), (4, .ref (zad G 26 0)), (5, .ref (zad G 27 0)), (6, .ref (zad G 28 0)), (7, .ref (zad G 29 0)), (8, .ref (zad G 30 0)), (9, .ref (zad G 31 0)), (10, .ref (zad G 32 0)), (11, .ref (zad G 33 0)), (12, .ref (zad G 34 0)), (13, .ref (zad G 35 0)), (14, .ref (zad G 36 0))]) C 359 dL_routes_359 (by decide) rfl ?_
      refine z_iconst C 361 dL_routes_361 ?_
      refine z_istore (lv' := [(19, .int (zI 0)), (18, .int (zI zq69)), (17, .int (zI zq61)), (16, .int (zI zq58)), (15, .int (zI zq1)), (0, .ref (zad G 0 0)), (1, .int (zI act)), (2, .int (zI y)), (3, .int (zI z)), (4, .ref (zad G 26 0)), (5, .ref (zad G 27 0)), (6, .ref (zad G 28 0)), (7, .ref (zad G 29 0)), (8, .ref (zad G 30 0)), (9, .ref (zad G 31 0)), (10, .ref (zad G 32 0)), (11, .ref (zad G 33 0)), (12, .ref (zad G 34 0)), (13, .ref (zad G 35 0)), (14, .ref (zad G 36 0))]) C 362 dL_routes_362 (by decide) rfl ?_
      have L364_70 : ∀ (kz70 : Nat) (f : Int) (k : Int), (0 ≤ k ∧ k ≤ zV M 36 0 4) → (jdf M zq58 f k) → (0 ≤ f ∧ f ≤ 12) → (zV M 36 0 4 - k) < (kz70 : Int) → zZ p l e (zR 11 20 120) s m ([.ref (zad G 0 0), .int (zI act), .int (zI y), .int (zI z), .ref (zad G 26 0), .ref (zad G 27 0), .ref (zad G 28 0), .ref (zad G 29 0), .ref (zad G 30 0), .ref (zad G 31 0), .ref (zad G 32 0), .ref (zad G 33 0), .ref (zad G 34 0), .ref (zad G 35 0), .ref (zad G 36 0)] : List Value).toArray below meth c G 20 (MQ below (zQi G (fun x M' => x = 1 ∧ iN (n + 1) M' M')) ([.ref (zad G 0 0), .int (zI act), .int (zI y), .int (zI z), .ref (zad G 26 0), .ref (zad G 27 0), .ref (zad G 28 0), .ref (zad G 29 0), .ref (zad G 30 0), .ref (zad G 31 0), .ref (zad G 32 0), .ref (zad G 33 0), .ref (zad G 34 0), .ref (zad G 35 0), .ref (zad G 36 0)] : List Value).toArray s 20 120 (zA G)) M 15 90 364 [(17, .int (zI zq61)), (16, .int (zI zq58)), (15, .int (zI zq1)), (0, .ref (zad G 0 0)), (1, .int (zI act)), (2, .int (zI y)), (3, .int (zI z)), (4, .ref (zad G 26 0)), (5, .ref (zad G 27 0)), (6, .ref (zad G 28 0)), (7, .ref (zad G 29 0)), (8, .ref (zad G 30 0)), (9, .ref (zad G 31 0)), (10, .ref (zad G 32 0)), (11, .ref (zad G 33 0)), (12, .ref (zad G 34 0)), (13, .ref (zad G 35 0)), (14, .ref (zad G 36 0)), (18, .int (zI f)), (19, .int (zI k))] [] := by
        intro kz70
        induction kz70 with
        | zero =>
          intro f k g0 g1 g2 hk
          exact absurd hk (by omega)
        | succ kz70 ihz71 =>
          intro f k g0 g1 g2 hk
          refine z_iload C 364 dL_routes_364 19 rfl ?_
          refine z_aload C 366 dL_routes_366 17 rfl ?_
          refine z_iconst C 368 dL_routes_368 ?_
          refine z_ialdj C 369 (show 0 < 1 by omega) (zc36 ..) 4 rfl (by decide) (by omega) (show 4 < ((12 : Nat) : Int) by omega) dL_routes_369 (fun zq72 ezq72 hzq72 => ?_)
          refine z_icmp_ge C 370 401 dL_routes_370 (by decide) (by first | assumption | omega) hzq72 (fun c370_467 => ?_) (fun c370_467 => ?_)
          · refine z_iload C 401 dL_routes_401 18 rfl ?_
            refine z_bipush C 403 dL_routes_403 (by decide +kernel) ?_
            refine z_icmp_ne C 405 435 dL_routes_405 (by decide) (by first | assumption | omega) (by decide) (fun c405_471 => ?_) (fun c405_471 => ?_)
            · refine z_aload C 435 dL_routes_435 10 rfl ?_
              refine z_iload C 437 dL_routes_437 18 rfl ?_
              refine z_iload C 439 dL_routes_439 1 rfl ?_
              refine z_iload C 441 dL_routes_441 0 rfl ?_
              refine z_bipush C 443 dL_routes_443 (by decide +kernel) ?_
              refine z_ishl C 445 (v := (zq61 * 4194304)) dL_routes_445 (j_shl (by omega) (by decide) (by decide) (by decide)) ?_
              refine z_iadd C 446 dL_routes_446 ?_
              refine z_iastj C 447 (show 0 < 1 by omega) (zc29 ..) f.toNat rfl (by first | assumption | omega) (by omega) (show f < ((12 : Nat) : Int) by omega) (zc29 ..) dL_routes_447 ?_
              refine z_aload C 448 dL_routes_448 17 rfl ?_
              refine z_iconst C 450 dL_routes_450 ?_
              refine z_dup2 C 451 dL_routes_451 rfl rfl ?_
              refine z_ialdj C 452 (show 0 < 1 by omega) (zc36 ..) 4 rfl (by decide) (by omega) (show 4 < ((12 : Nat) : Int) by omega) dL_routes_452 (fun zq73 ezq73 hzq73 => ?_)
              rw [zV_ne (by decide)] at ezq73
              refine z_iload C 453 dL_routes_453 18 rfl ?_
              refine z_aload C 455 dL_routes_455 17 rfl ?_
              refine z_iconst C 457 dL_routes_457 ?_
              refine z_ialdj C 458 (show 0 < 1 by omega) (zc36 ..) 4 rfl (by decide) (by omega) (show 4 < ((12 : Nat) : Int) by omega) dL_routes_458 (fun zq74 ezq74 hzq74 => ?_)
              rw [zV_ne (by decide)] at ezq74
              refine z_icmp_ne C 459 466 dL_routes_459 (by decide) (by first | assumption | omega) hzq74 (fun c459_491 => ?_) (fun c459_491 => ?_)
              · refine z_iconst C 466 dL_routes_466 ?_
                refine z_iadd C 467 dL_routes_467 ?_
                refine z_iastj C 468 (show 0 < 1 by omega) (zc36 ..) 4 rfl (by decide) (by omega) (show 4 < ((12 : Nat) : Int) by omega) (zc36 ..) dL_routes_468 ?_
                generalize hD1 : zup (zup M 29 0 f.toNat (zI (zq58 + (zq61 * 4194304)))) 36 0 4 (zI (zq73 + 0)) = M9
                have r1 : i_rf M M9 := by rw [← hD1]; exact ((i_rf.r M).u (by decide)).u (by decide)
                have hw1 := i_WC hw r1
                refine z_aload_n C 469 dL_routes_469 rfl 3 rfl ?_
                refine z_iload C 470 dL_routes_470 1 rfl ?_
                refine z_bipush C 472 dL_routes_472 (by decide +kernel) ?_
                refine z_idiv C 474 dL_routes_474 hzq58 (by omega) (by decide) (by decide) ?_
                refine z_iload C 475 dL_routes_475 1 rfl ?_
                refine z_bipush C 477 dL_routes_477 (by decide +kernel) ?_
                refine z_irem C 479 dL_routes_479 hzq58 (by omega) (by decide) (by decide) ?_
                refine z_iload C 480 dL_routes_480 0 rfl ?_
                refine zs_call C 482 (n := 4) (As := [.ref (zad G 0 0), .int (zI (zq58 / 32)), .int (zI (zq58 % 32)), .int (zI zq61)]) (rest := []) (v_delegate l hfl G M9 hw1 (zq58 / 32) (zq58 % 32) zq61 (by first | assumption | decide | omega) (by first | assumption | decide | omega) (by first | assumption | decide | omega)) wm_L_142 wcw_L_delegate wini_L wst_L_delegate ⟨by decide, by decide, by decide⟩ ⟨by decide, by decide⟩ rfl (Nat.le_of_ble_eq_true rfl) ⟨by decide, by decide⟩ dL_routes_482 rfl (fun zq75 Mz76 hzq75 hPz75 => ?_)
                refine zZ_cs (k := 20) (n := 120) (by decide) (by decide) ?_
                rw [e1, e2] at hPz75
                obtain ⟨j9, hj1, hj2, hj3⟩ := g1.resolve_left (fun q => by have q1 := q.1; clear q g1; omega)
                have hm9 := (i_dpf hB hvp.1 (i := j9) (by omega)).mp (by rw [hj3, hpv])
                have hs9 := hPz75.2.2.2 (by omega) hvp (fun q => q.1 j9 (by show (j9 : Int) < zV M9 9 0 4; rw [r1.v (by decide)]; clear q g1; omega) ⟨(r1.v (by decide)).trans hm9.1, (r1.v (by decide)).trans hm9.2⟩)
                rw [show f.toNat = j9 by clear g1; omega] at hD1
                obtain ⟨hx9, hN9, hg9⟩ := i_dlB (f := j9) h hvp (by omega) hj2 (by rw [hj3, hpv]) hD1 (by clear g1; omega) (by clear g1; omega) hs9
                clear g1
                refine z_aload C 485 dL_routes_485 17 rfl ?_
                refine z_iconst C 487 dL_routes_487 ?_
                refine z_ialdj C 488 (show 0 < 1 by omega) (zc36 ..) 4 rfl (by decide) (by omega) (show 4 < ((12 : Nat) : Int) by omega) dL_routes_488 (fun zq77 ezq77 hzq77 => ?_)
                refine z_icmp_ne C 489 496 dL_routes_489 (by decide) hzq75 hzq77 (fun c489_519 => ?_) (fun c489_519 => ?_)
                · exact absurd (by omega) c489_519
                refine z_iconst C 492 dL_routes_492 ?_
                refine z_goto C 493 497 dL_routes_493 (by decide) ?_
                refine z_zret C 497 dL_routes_497 (by decide) (by decide) (by decide) ?_
                exact ⟨rfl, hN9⟩
              refine z_iconst C 462 dL_routes_462 ?_
              refine z_goto C 463 467 dL_routes_463 (by decide) ?_
              refine z_iadd C 467 dL_routes_467 ?_
              refine z_iastj C 468 (show 0 < 1 by omega) (zc36 ..) 4 rfl (by decide) (by omega) (show 4 < ((12 : Nat) : Int) by omega) (zc36 ..) dL_routes_468 ?_
              generalize hD1 : zup (zup M 29 0 f.toNat (zI (zq58 + (zq61 * 4194304)))) 36 0 4 (zI (zq73 + 1)) = M9
              have r1 : i_rf M M9 := by rw [← hD1]; exact ((i_rf.r M).u (by decide)).u (by decide)
              have hw1 := i_WC hw r1
              refine z_aload_n C 469 dL_routes_469 rfl 3 rfl ?_
              refine z_iload C 470 dL_routes_470 1 rfl ?_
              refine z_bipush C 472 dL_routes_472 (by decide +kernel) ?_
              refine z_idiv C 474 dL_routes_474 hzq58 (by omega) (by decide) (by decide) ?_
              refine z_iload C 475 dL_routes_475 1 rfl ?_
              refine z_bipush C 477 dL_routes_477 (by decide +kernel) ?_
              refine z_irem C 479 dL_routes_479 hzq58 (by omega) (by decide) (by decide) ?_
              refine z_iload C 480 dL_routes_480 0 rfl ?_
              refine zs_call C 482 (n := 4) (As := [.ref (zad G 0 0), .int (zI (zq58 / 32)), .int (zI (zq58 % 32)), .int (zI zq61)]) (rest := []) (v_delegate l hfl G M9 hw1 (zq58 / 32) (zq58 % 32) zq61 (by first | assumption | decide | omega) (by first | assumption | decide | omega) (by first | assumption | decide | omega)) wm_L_142 wcw_L_delegate wini_L wst_L_delegate ⟨by decide, by decide, by decide⟩ ⟨by decide, by decide⟩ rfl (Nat.le_of_ble_eq_true rfl) ⟨by decide, by decide⟩ dL_routes_482 rfl (fun zq78 Mz79 hzq78 hPz78 => ?_)
              refine zZ_cs (k := 20) (n := 120) (by decide) (by decide) ?_
              rw [e1, e2] at hPz78
              have hj9 : ∀ i : Nat, (i : Int) < k → ¬ zV M 29 0 i % 4194304 = zq58 := by
                rcases g1 with q | ⟨j, j1, j2, -⟩
                · exact q.2
                · omega
              have hs9 := hPz78.2.2.2 (by omega) hvp (fun q => by have q2 : 12 ≤ zV M9 9 0 4 := q.2; rw [r1.v (by decide)] at q2; clear q g1; omega)
              obtain ⟨hx9, hN9, hg9⟩ := i_dlA (k := f.toNat) h hvp (by omega) (by clear g1; omega) (by clear g1; omega) (fun i hi => by rw [← hpv]; exact hj9 i (by clear g1; omega)) hD1 (by clear g1; omega) (by clear g1; omega) hs9
              clear g1
              refine z_aload C 485 dL_routes_485 17 rfl ?_
              refine z_iconst C 487 dL_routes_487 ?_
              refine z_ialdj C 488 (show 0 < 1 by omega) (zc36 ..) 4 rfl (by decide) (by omega) (show 4 < ((12 : Nat) : Int) by omega) dL_routes_488 (fun zq80 ezq80 hzq80 => ?_)
              refine z_icmp_ne C 489 496 dL_routes_489 (by decide) hzq78 hzq80 (fun c489_552 => ?_) (fun c489_552 => ?_)
              · exact absurd (by omega) c489_552
              refine z_iconst C 492 dL_routes_492 ?_
              refine z_goto C 493 497 dL_routes_493 (by decide) ?_
              refine z_zret C 497 dL_routes_497 (by decide) (by decide) (by decide) ?_
              exact ⟨rfl, hN9⟩
            have hj9 : f = zV M 36 0 4 ∧ ∀ i : Nat, (i : Int) < k → ¬ zV M 29 0 i % 4194304 = zq58 := by
              rcases g1 with q | ⟨j, j1, j2, -⟩
              · exact q
              · omega
            clear g1
            have hno9 : ∀ i : Nat, (i : Int) < zdn M → ¬ (zdv M i = v9 ∧ zdl M i = b9) := fun i hi q => hj9.2 i (by have hi2 : (i : Int) < zV M 9 0 4 := hi; omega) (by rw [hpv]; exact (i_dpf hB hvp.1 hi).mpr q)
            have hdn9 : 12 ≤ zdn M := by show 12 ≤ zV M 9 0 4; have hj8 := hj9.1; omega
            refine z_aload_n C 408 dL_routes_408 rfl 3 rfl ?_
            refine z_iload C 409 dL_routes_409 1 rfl ?_
            refine z_bipush C 411 dL_routes_411 (by decide +kernel) ?_
            refine z_idiv C 413 dL_routes_413 hzq58 (by omega) (by decide) (by decide) ?_
            refine z_iload C 414 dL_routes_414 1 rfl ?_
            refine z_bipush C 416 dL_routes_416 (by decide +kernel) ?_
            refine z_irem C 418 dL_routes_418 hzq58 (by omega) (by decide) (by decide) ?_
            refine z_iload C 419 dL_routes_419 0 rfl ?_
            refine zs_call C 421 (n := 4) (As := [.ref (zad G 0 0), .int (zI (zq58 / 32)), .int (zI (zq58 % 32)), .int (zI zq61)]) (rest := []) (v_delegate l hfl G M hw (zq58 / 32) (zq58 % 32) zq61 (by first | assumption | decide | omega) (by first | assumption | decide | omega) (by first | assumption | decide | omega)) wm_L_142 wcw_L_delegate wini_L wst_L_delegate ⟨by decide, by decide, by decide⟩ ⟨by decide, by decide⟩ rfl (Nat.le_of_ble_eq_true rfl) ⟨by decide, by decide⟩ dL_routes_421 rfl (fun zq81 Mz82 hzq81 hPz81 => ?_)
            refine zZ_cs (k := 20) (n := 120) (by decide) (by decide) ?_
            obtain ⟨ezzq81, emzq81⟩ := hPz81.2.2.1 (by omega) (by rw [e1, e2]; exact hvp) (fun q => q ⟨by rw [e1, e2]; exact hno9, hdn9⟩)
            subst ezzq81
            have emzq81 := emzq81.symm
            subst emzq81
            refine z_bipush C 424 dL_routes_424 (by decide +kernel) ?_
            refine z_icmp_ne C 426 433 dL_routes_426 (by decide) (by decide) (by decide) (fun c426_579 => ?_) (fun c426_579 => ?_)
            · exact absurd c426_579 (by decide)
            refine z_iconst C 429 dL_routes_429 ?_
            refine z_goto C 430 434 dL_routes_430 (by decide) ?_
            refine z_zret C 434 dL_routes_434 (by decide) (by decide) (by decide) ?_
            exact ⟨rfl, iN_up h (by omega)⟩
          refine z_aload C 373 dL_routes_373 10 rfl ?_
          refine z_iload C 375 dL_routes_375 19 rfl ?_
          refine z_ialdj C 377 (show 0 < 1 by omega) (zc29 ..) k.toNat rfl (by first | assumption | omega) (by omega) (show k < ((12 : Nat) : Int) by omega) dL_routes_377 (fun zq83 ezq83 hzq83 => ?_)
          refine z_ldc C 378 wk_L_116 dL_routes_378 ?_
          have hd9 := iB_d hB (i := k.toNat) (by omega)
          have hd8 := hd9.1
          unfold zpfx at hd8
          refine z_iand C 380 (v := (zq83 % 4194304)) dL_routes_380 (j_mask (k := 22) (p := 4194304) (by omega) rfl (by decide)) ?_
          refine z_iload C 381 dL_routes_381 1 rfl ?_
          refine z_icmp_ne C 383 391 dL_routes_383 (by decide) (by first | assumption | omega) hzq58 (fun c383_593 => ?_) (fun c383_593 => ?_)
          · refine z_iload C 391 dL_routes_391 18 rfl ?_
            refine z_istore (lv' := [(18, .int (zI f)), (17, .int (zI zq61)), (16, .int (zI zq58)), (15, .int (zI zq1)), (0, .ref (zad G 0 0)), (1, .int (zI act)), (2, .int (zI y)), (3, .int (zI z)), (4, .ref (zad G 26 0)), (5, .ref (zad G 27 0)), (6, .ref (zad G 28 0)), (7, .ref (zad G 29 0)), (8, .ref (zad G 30 0)), (9, .ref (zad G 31 0)), (10, .ref (zad G 32 0)), (11, .ref (zad G 33 0)), (12, .ref (zad G 34 0)), (13, .ref (zad G 35 0)), (14, .ref (zad G 36 0)), (19, .int (zI k))]) C 393 dL_routes_393 (by decide) rfl ?_
            refine z_iinc (lv' := [(19, .int (zI (k + 1))), (18, .int (zI f)), (17, .int (zI zq61)), (16, .int (zI zq58)), (15, .int (zI zq1)), (0, .ref (zad G 0 0)), (1, .int (zI act)), (2, .int (zI y)), (3, .int (zI z)), (4, .ref (zad G 26 0)), (5, .ref (zad G 27 0)), (6, .ref (zad G 28 0)), (7, .ref (zad G 29 0)), (8, .ref (zad G 30 0)), (9, .ref (zad G 31 0)), (10, .ref (zad G 32 0)), (11, .ref (zad G 33 0)), (12, .ref (zad G 34 0)), (13, .ref (zad G 35 0)), (14, .ref (zad G 36 0))]) C 395 dL_routes_395 19 rfl (by decide) rfl ?_
            refine z_goto C 398 364 dL_routes_398 (by decide) ?_
            refine z_sub (lv' := [(17, .int (zI zq61)), (16, .int (zI zq58)), (15, .int (zI zq1)), (0, .ref (zad G 0 0)), (1, .int (zI act)), (2, .int (zI y)), (3, .int (zI z)), (4, .ref (zad G 26 0)), (5, .ref (zad G 27 0)), (6, .ref (zad G 28 0)), (7, .ref (zad G 29 0)), (8, .ref (zad G 30 0)), (9, .ref (zad G 31 0)), (10, .ref (zad G 32 0)), (11, .ref (zad G 33 0)), (12, .ref (zad G 34 0)), (13, .ref (zad G 35 0)), (14, .ref (zad G 36 0)), (18, .int (zI f)), (19, .int (zI (k + 1)))]) [2, 3, 4, 5, 6, 7, 8, 9, 10, 11, 12, 13, 14, 15, 16, 17, 18, 19, 1, 0] rfl ?_
            exact ihz71 f (k + 1) (by omega) (by exact jdf_f g0.1 g1 (by rw [← ezq83]; assumption)) (by omega) (by omega)
          refine z_iload C 386 dL_routes_386 19 rfl ?_
          refine z_goto C 388 393 dL_routes_388 (by decide) ?_
          refine z_istore (lv' := [(18, .int (zI k)), (17, .int (zI zq61)), (16, .int (zI zq58)), (15, .int (zI zq1)), (0, .ref (zad G 0 0)), (1, .int (zI act)), (2, .int (zI y)), (3, .int (zI z)), (4, .ref (zad G 26 0)), (5, .ref (zad G 27 0)), (6, .ref (zad G 28 0)), (7, .ref (zad G 29 0)), (8, .ref (zad G 30 0)), (9, .ref (zad G 31 0)), (10, .ref (zad G 32 0)), (11, .ref (zad G 33 0)), (12, .ref (zad G 34 0)), (13, .ref (zad G 35 0)), (14, .ref (zad G 36 0)), (19, .int (zI k))]) C 393 dL_routes_393 (by decide) rfl ?_
          refine z_iinc (lv' := [(19, .int (zI (k + 1))), (18, .int (zI k)), (17, .int (zI zq61)), (16, .int (zI zq58)), (15, .int (zI zq1)), (0, .ref (zad G 0 0)), (1, .int (zI act)), (2, .int (zI y)), (3, .int (zI z)), (4, .ref (zad G 26 0)), (5, .ref (zad G 27 0)), (6, .ref (zad G 28 0)), (7, .ref (zad G 29 0)), (8, .ref (zad G 30 0)), (9, .ref (zad G 31 0)), (10, .ref (zad G 32 0)), (11, .ref (zad G 33 0)), (12, .ref (zad G 34 0)), (13, .ref (zad G 35 0)), (14, .ref (zad G 36 0))]) C 395 dL_routes_395 19 rfl (by decide) rfl ?_
          refine z_goto C 398 364 dL_routes_398 (by decide) ?_
          refine z_sub (lv' := [(17, .int (zI zq61)), (16, .int (zI zq58)), (15, .int (zI zq1)), (0, .ref (zad G 0 0)), (1, .int (zI act)), (2, .int (zI y)), (3, .int (zI z)), (4, .ref (zad G 26 0)), (5, .ref (zad G 27 0)), (6, .ref (zad G 28 0)), (7, .ref (zad G 29 0)), (8, .ref (zad G 30 0)), (9, .ref (zad G 31 0)), (10, .ref (zad G 32 0)), (11, .ref (zad G 33 0)), (12, .ref (zad G 34 0)), (13, .ref (zad G 35 0)), (14, .ref (zad G 36 0)), (18, .int (zI k)), (19, .int (zI (k + 1)))]) [2, 3, 4, 5, 6, 7, 8, 9, 10, 11, 12, 13, 14, 15, 16, 17, 18, 19, 1, 0] rfl ?_
          exact ihz71 k (k + 1) (by omega) (by exact jdf_t g0.1 (by omega) (by rw [← ezq83]; assumption)) (by omega) (by omega)
      refine z_sub (lv' := [(17, .int (zI zq61)), (16, .int (zI zq58)), (15, .int (zI zq1)), (0, .ref (zad G 0 0)), (1, .int (zI act)), (2, .int (zI y)), (3, .int (zI z)), (4, .ref (zad G 26 0)), (5, .ref (zad G 27 0)), (6, .ref (zad G 28 0)), (7, .ref (zad G 29 0)), (8, .ref (zad G 30 0)), (9, .ref (zad G 31 0)), (10, .ref (zad G 32 0)), (11, .ref (zad G 33 0)), (12, .ref (zad G 34 0)), (13, .ref (zad G 35 0)), (14, .ref (zad G 36 0)), (18, .int (zI zq69)), (19, .int (zI 0))]) [2, 3, 4, 5, 6, 7, 8, 9, 10, 11, 12, 13, 14, 15, 16, 17, 18, 19, 1, 0] rfl ?_
      exact L364_70 (((zV M 36 0 4 - 0 : Int)).toNat + 1) zq69 0 (by omega) (by exact jdf_0 _ _ ezq69) (by omega) (by omega)
    refine z_iload_n C 128 dL_routes_128 rfl 3 rfl ?_
    refine z_iconst C 129 dL_routes_129 ?_
    refine z_ishr_any C 130 dL_routes_130 (fun zv84 hzv84 => ?_)
    refine z_bipush C 131 dL_routes_131 (by decide +kernel) ?_
    refine z_callSi C 133 (As := [.int (zI zv84), .int (zI 6)]) (rest := []) (c_L_low l G M zv84 6 (by omega)) (zS_of 2 C wm_L_85 wc_L_low wini_L wst_L_low ⟨by decide, by decide, by decide⟩ ⟨by decide, by decide⟩) rfl (Nat.le_of_ble_eq_true rfl) ⟨by decide, by decide⟩ dL_routes_133 rfl (fun zq85 Mz86 hzq85 hPz85 => ?_)
    obtain ⟨rfl, hPz85⟩ := hPz85
    refine z_istore (lv' := [(16, .int (zI zq85)), (15, .int (zI zq1)), (0, .ref (zad G 0 0)), (1, .int (zI act)), (2, .int (zI y)), (3, .int (zI z)), (4, .ref (zad G 26 0)), (5, .ref (zad G 27 0)), (6, .ref (zad G 28 0)), (7, .ref (zad G 29 0)), (8, .ref (zad G 30 0)), (9, .ref (zad G 31 0)), (10, .ref (zad G 32 0)), (11, .ref (zad G 33 0)), (12, .ref (zad G 34 0)), (13, .ref (zad G 35 0)), (14, .ref (zad G 36 0))]) C 136 dL_routes_136 (by decide) rfl ?_
    refine z_iload_n C 138 dL_routes_138 rfl 5 rfl ?_
    refine z_bipush C 139 dL_routes_139 (by decide +kernel) ?_
    refine z_iand_any C 141 dL_routes_141 (fun zv87 hzv87 => ?_)
    refine z_if_le C 142 149 dL_routes_142 (by decide) hzv87 (fun c142_618 => ?_) (fun c142_618 => ?_)
    · refine z_iconst C 149 dL_routes_149 ?_
      refine z_istore (lv' := [(17, .int (zI 0)), (16, .int (zI zq85)), (15, .int (zI zq1)), (0, .ref (zad G 0 0)), (1, .int (zI act)), (2, .int (zI y)), (3, .int (zI z)), (4, .ref (zad G 26 0)), (5, .ref (zad G 27 0)), (6, .ref (zad G 28 0)), (7, .ref (zad G 29 0)), (8, .ref (zad G 30 0)), (9, .ref (zad G 31 0)), (10, .ref (zad G 32 0)), (11, .ref (zad G 33 0)), (12, .ref (zad G 34 0)), (13, .ref (zad G 35 0)), (14, .ref (zad G 36 0))]) C 150 dL_routes_150 (by decide) rfl ?_
      refine z_aload C 152 dL_routes_152 16 rfl ?_
      refine z_iload C 154 dL_routes_154 2 rfl ?_
      refine z_iload C 156 dL_routes_156 0 rfl ?_
      refine z_if_eq C 158 176 dL_routes_158 (by decide) (by decide) (fun c158_625 => ?_) (fun c158_625 => ?_)
      rotate_left
      · exact absurd c158_625 (by decide)
      refine z_aload C 176 dL_routes_176 16 rfl ?_
      refine z_iload C 178 dL_routes_178 2 rfl ?_
      refine z_ialdj C 180 (show 0 < 1 by omega) (zc35 ..) zq1.toNat rfl hzq1 (by omega) (show zq1 < ((2 : Nat) : Int) by omega) dL_routes_180 (fun zq88 ezq88 hzq88 => ?_)
      have hd9 := (h.2.2.2.2.1.2 zq1.toNat (by omega)).1
      obtain ⟨s9, w9, hb1, hb3, hb4, hb5, hb6⟩ := i_bset (g := zq88) (k := zq85) (by omega) (by omega)
      refine z_iconst C 181 dL_routes_181 ?_
      refine z_iload C 182 dL_routes_182 1 rfl ?_
      refine z_ishl C 184 (v := s9) dL_routes_184 hb1 ?_
      refine z_ior C 185 (v := w9) dL_routes_185 hb3 ?_
      refine z_iastj C 186 (show 0 < 1 by omega) (zc35 ..) zq1.toNat rfl hzq1 (by omega) (show zq1 < ((2 : Nat) : Int) by omega) (zc35 ..) dL_routes_186 ?_
      generalize hD1 : zup M 35 0 zq1.toNat (zI w9) = M9
      have r1 : i_rf M M9 := by rw [← hD1]; exact (i_rf.r M).u (by decide)
      have hw1 := i_WC hw r1
      have hg9 : zV M9 35 0 zq1.toNat = w9 := by rw [← hD1]; exact zV_eq (by omega)
      refine z_iconst C 187 dL_routes_187 ?_
      refine z_istore (lv' := [(18, .int (zI 0)), (17, .int (zI 0)), (16, .int (zI zq85)), (15, .int (zI zq1)), (0, .ref (zad G 0 0)), (1, .int (zI act)), (2, .int (zI y)), (3, .int (zI z)), (4, .ref (zad G 26 0)), (5, .ref (zad G 27 0)), (6, .ref (zad G 28 0)), (7, .ref (zad G 29 0)), (8, .ref (zad G 30 0)), (9, .ref (zad G 31 0)), (10, .ref (zad G 32 0)), (11, .ref (zad G 33 0)), (12, .ref (zad G 34 0)), (13, .ref (zad G 35 0)), (14, .ref (zad G 36 0))]) C 188 dL_routes_188 (by decide) rfl ?_
      refine z_iconst C 190 dL_routes_190 ?_
      refine z_istore (lv' := [(19, .int (zI 0)), (18, .int (zI 0)), (17, .int (zI 0)), (16, .int (zI zq85)), (15, .int (zI zq1)), (0, .ref (zad G 0 0)), (1, .int (zI act)), (2, .int (zI y)), (3, .int (zI z)), (4, .ref (zad G 26 0)), (5, .ref (zad G 27 0)), (6, .ref (zad G 28 0)), (7, .ref (zad G 29 0)), (8, .ref (zad G 30 0)), (9, .ref (zad G 31 0)), (10, .ref (zad G 32 0)), (11, .ref (zad G 33 0)), (12, .ref (zad G 34 0)), (13, .ref (zad G 35 0)), (14, .ref (zad G 36 0))]) C 191 dL_routes_191 (by decide) rfl ?_
      have L193_89 : ∀ (kz89 : Nat) (ct : Int) (k : Int), (0 ≤ k ∧ k ≤ 32) → (ct = zsm (fun a => w9 / 2 ^ a % 2) k.toNat) → (32 - k) < (kz89 : Int) → zZ p l e (zR 11 20 120) s m ([.ref (zad G 0 0), .int (zI act), .int (zI y), .int (zI z), .ref (zad G 26 0), .ref (zad G 27 0), .ref (zad G 28 0), .ref (zad G 29 0), .ref (zad G 30 0), .ref (zad G 31 0), .ref (zad G 32 0), .ref (zad G 33 0), .ref (zad G 34 0), .ref (zad G 35 0), .ref (zad G 36 0)] : List Value).toArray below meth c G 20 (MQ below (zQi G (fun x M' => x = 1 ∧ iN (n + 1) M' M')) ([.ref (zad G 0 0), .int (zI act), .int (zI y), .int (zI z), .ref (zad G 26 0), .ref (zad G 27 0), .ref (zad G 28 0), .ref (zad G 29 0), .ref (zad G 30 0), .ref (zad G 31 0), .ref (zad G 32 0), .ref (zad G 33 0), .ref (zad G 34 0), .ref (zad G 35 0), .ref (zad G 36 0)] : List Value).toArray s 20 120 (zA G)) M9 0 0 193 [(17, .int (zI 0)), (16, .int (zI zq85)), (15, .int (zI zq1)), (0, .ref (zad G 0 0)), (1, .int (zI act)), (2, .int (zI y)), (3, .int (zI z)), (4, .ref (zad G 26 0)), (5, .ref (zad G 27 0)), (6, .ref (zad G 28 0)), (7, .ref (zad G 29 0)), (8, .ref (zad G 30 0)), (9, .ref (zad G 31 0)), (10, .ref (zad G 32 0)), (11, .ref (zad G 33 0)), (12, .ref (zad G 34 0)), (13, .ref (zad G 35 0)), (14, .ref (zad G 36 0)), (18, .int (zI ct)), (19, .int (zI k))] [] := by
        intro kz89
        induction kz89 with
        | zero =>
          intro ct k g0 g1 hk
          exact absurd hk (by omega)
        | succ kz89 ihz90 =>
          intro ct k g0 g1 hk
          have hl9 := zsm_01 (f := fun a => w9 / 2 ^ a % 2) (fun a => ⟨Int.emod_nonneg _ (by decide), Int.lt_add_one_iff.mp (Int.emod_lt_of_pos _ (by decide))⟩) k.toNat
          refine z_iload C 193 dL_routes_193 19 rfl ?_
          refine z_bipush C 195 dL_routes_195 (by decide +kernel) ?_
          refine z_icmp_ge C 197 221 dL_routes_197 (by decide) (by first | assumption | omega) (by decide) (fun c197_657 => ?_) (fun c197_657 => ?_)
          · refine z_aload_n C 221 dL_routes_221 rfl 3 rfl ?_
            refine z_iconst C 222 dL_routes_222 ?_
            refine z_bipush C 223 dL_routes_223 (by decide +kernel) ?_
            refine z_iload C 225 dL_routes_225 0 rfl ?_
            refine zs_call C 227 (n := 4) (As := [.ref (zad G 0 0), .int (zI 3), .int (zI 32), .int (zI 0)]) (rest := []) (v_probe l hfl G M9 hw1 3 32 0 (by first | assumption | decide | omega) (by first | assumption | decide | omega) (by first | assumption | decide | omega)) wm_L_139 wcw_L_probe wini_L wst_L_probe ⟨by decide, by decide, by decide⟩ ⟨by decide, by decide⟩ rfl (Nat.le_of_ble_eq_true rfl) ⟨by decide, by decide⟩ dL_routes_227 rfl (fun zq91 Mz92 hzq91 hPz91 => ?_)
            refine zZ_cs (k := 2) (n := 12) (by decide) (by decide) ?_
            obtain ⟨ezzq91, emzq91⟩ := hPz91.1 (fun q => by omega)
            subst ezzq91
            have emzq91 := emzq91.symm
            subst emzq91
            refine z_bipush C 230 dL_routes_230 (by decide +kernel) ?_
            refine z_icmp_ne C 232 289 dL_routes_232 (by decide) (by decide) (by decide) (fun c232_670 => ?_) (fun c232_670 => ?_)
            · exact absurd c232_670 (by decide)
            refine z_aload_n C 235 dL_routes_235 rfl 3 rfl ?_
            refine z_iconst C 236 dL_routes_236 ?_
            refine z_iload C 237 dL_routes_237 2 rfl ?_
            refine z_imul C 239 dL_routes_239 ?_
            refine z_bipush C 240 dL_routes_240 (by decide +kernel) ?_
            refine z_iload C 242 dL_routes_242 0 rfl ?_
            refine zs_call C 244 (n := 4) (As := [.ref (zad G 0 0), .int (zI (2 * zq1)), .int (zI 32), .int (zI 0)]) (rest := []) (v_probe l hfl G M9 hw1 (2 * zq1) 32 0 (by first | assumption | decide | omega) (by first | assumption | decide | omega) (by first | assumption | decide | omega)) wm_L_139 wcw_L_probe wini_L wst_L_probe ⟨by decide, by decide, by decide⟩ ⟨by decide, by decide⟩ rfl (Nat.le_of_ble_eq_true rfl) ⟨by decide, by decide⟩ dL_routes_244 rfl (fun zq93 Mz94 hzq93 hPz93 => ?_)
            refine zZ_cs (k := 4) (n := 24) (by decide) (by decide) ?_
            obtain ⟨ezzq93, emzq93⟩ := hPz93.2.1 ⟨by omega, by omega⟩ (fun q => by omega)
            subst ezzq93
            have emzq93 := emzq93.symm
            subst emzq93
            refine z_bipush C 247 dL_routes_247 (by decide +kernel) ?_
            refine z_icmp_ne C 249 289 dL_routes_249 (by decide) (by decide) (by decide) (fun c249_685 => ?_) (fun c249_685 => ?_)
            · exact absurd c249_685 (by decide)
            refine z_aload_n C 252 dL_routes_252 rfl 3 rfl ?_
            refine z_iconst C 253 dL_routes_253 ?_
            refine z_iload C 254 dL_routes_254 2 rfl ?_
            refine z_imul C 256 dL_routes_256 ?_
            refine z_iconst C 257 dL_routes_257 ?_
            refine z_iload C 258 dL_routes_258 0 rfl ?_
            refine zs_call C 260 (n := 4) (As := [.ref (zad G 0 0), .int (zI (2 * zq1)), .int (zI (-1)), .int (zI 0)]) (rest := []) (v_probe l hfl G M9 hw1 (2 * zq1) (-1) 0 (by first | assumption | decide | omega) (by first | assumption | decide | omega) (by first | assumption | decide | omega)) wm_L_139 wcw_L_probe wini_L wst_L_probe ⟨by decide, by decide, by decide⟩ ⟨by decide, by decide⟩ rfl (Nat.le_of_ble_eq_true rfl) ⟨by decide, by decide⟩ dL_routes_260 rfl (fun zq95 Mz96 hzq95 hPz95 => ?_)
            refine zZ_cs (k := 6) (n := 36) (by decide) (by decide) ?_
            obtain ⟨ezzq95, emzq95⟩ := hPz95.2.1 ⟨by omega, by omega⟩ (fun q => by omega)
            subst ezzq95
            have emzq95 := emzq95.symm
            subst emzq95
            refine z_bipush C 263 dL_routes_263 (by decide +kernel) ?_
            refine z_icmp_ne C 265 289 dL_routes_265 (by decide) (by decide) (by decide) (fun c265_700 => ?_) (fun c265_700 => ?_)
            · exact absurd c265_700 (by decide)
            refine z_aload_n C 268 dL_routes_268 rfl 3 rfl ?_
            refine z_iconst C 269 dL_routes_269 ?_
            refine z_iload C 270 dL_routes_270 2 rfl ?_
            refine z_imul C 272 dL_routes_272 ?_
            refine z_iload C 273 dL_routes_273 1 rfl ?_
            refine z_iload C 275 dL_routes_275 0 rfl ?_
            refine zs_call C 277 (n := 4) (As := [.ref (zad G 0 0), .int (zI (2 * zq1)), .int (zI zq85), .int (zI 0)]) (rest := []) (v_probe l hfl G M9 hw1 (2 * zq1) zq85 0 (by first | assumption | decide | omega) (by first | assumption | decide | omega) (by first | assumption | decide | omega)) wm_L_139 wcw_L_probe wini_L wst_L_probe ⟨by decide, by decide, by decide⟩ ⟨by decide, by decide⟩ rfl (Nat.le_of_ble_eq_true rfl) ⟨by decide, by decide⟩ dL_routes_277 rfl (fun zq97 Mz98 hzq97 hPz97 => ?_)
            refine zZ_cs (k := 8) (n := 48) (by decide) (by decide) ?_
            obtain ⟨hs1, hs2⟩ := hPz97.2.2 ⟨by omega, by omega⟩ (by omega)
            rw [show (2 * zq1).toNat = 2 * zq1.toNat by omega] at hs1 hs2
            obtain ⟨hN9, hpr9⟩ := i_prb (M2 := Mz98) (r := zq1.toNat) (k := zq85.toNat) (w := w9) (e := 1) h (by omega) (by omega) (by decide) hb4 (fun j hj => by rw [hb6 j hj, ezq88]) (fun κ i j q1 q2 => by rw [hs1, zV_upg, if_neg q2, ← hD1, zV_upg, if_neg (fun q => q1 ⟨q.1, q.2.2⟩)]) (by rw [hs1, zV_ne (by decide)]; exact hg9) (by rw [hs1, zV_eq (by decide)]; rfl)
            have hx9 : zq97 = ct := by rw [hs2, hpr9, g1, show k.toNat = 32 by omega]
            refine z_iload C 280 dL_routes_280 18 rfl ?_
            refine z_icmp_ne C 282 289 dL_routes_282 (by decide) hzq97 (by first | assumption | omega) (fun c282_715 => ?_) (fun c282_715 => ?_)
            · exact absurd hx9 c282_715
            refine z_iconst C 285 dL_routes_285 ?_
            refine z_goto C 286 290 dL_routes_286 (by decide) ?_
            refine z_zret C 290 dL_routes_290 (by decide) (by decide) (by decide) ?_
            exact ⟨rfl, hN9⟩
          refine z_iload C 200 dL_routes_200 18 rfl ?_
          refine z_aload C 202 dL_routes_202 16 rfl ?_
          refine z_iload C 204 dL_routes_204 2 rfl ?_
          refine z_ialdj C 206 (show 0 < 1 by omega) (zc35 ..) zq1.toNat rfl hzq1 (by omega) (show zq1 < ((2 : Nat) : Int) by omega) dL_routes_206 (fun zq99 ezq99 hzq99 => ?_)
          refine z_iload C 207 dL_routes_207 19 rfl ?_
          refine z_ishr C 209 (v := (w9 / 2 ^ k.toNat)) dL_routes_209 (by rw [show zq99 = w9 from ezq99.trans hg9]; exact j_sar (by omega) (by omega) (by omega) (by omega) rfl) ?_
          refine z_iconst C 210 dL_routes_210 ?_
          refine z_iand C 211 (v := ((w9 / 2 ^ k.toNat) % 2)) dL_routes_211 (j_mask (k := 1) (p := 2) (j_div2 (by omega)).1 rfl rfl) ?_
          refine z_iadd C 212 dL_routes_212 ?_
          refine z_istore (lv' := [(18, .int (zI (ct + ((w9 / 2 ^ k.toNat) % 2)))), (17, .int (zI 0)), (16, .int (zI zq85)), (15, .int (zI zq1)), (0, .ref (zad G 0 0)), (1, .int (zI act)), (2, .int (zI y)), (3, .int (zI z)), (4, .ref (zad G 26 0)), (5, .ref (zad G 27 0)), (6, .ref (zad G 28 0)), (7, .ref (zad G 29 0)), (8, .ref (zad G 30 0)), (9, .ref (zad G 31 0)), (10, .ref (zad G 32 0)), (11, .ref (zad G 33 0)), (12, .ref (zad G 34 0)), (13, .ref (zad G 35 0)), (14, .ref (zad G 36 0)), (19, .int (zI k))]) C 213 dL_routes_213 (by decide) rfl ?_
          refine z_iinc (lv' := [(19, .int (zI (k + 1))), (18, .int (zI (ct + ((w9 / 2 ^ k.toNat) % 2)))), (17, .int (zI 0)), (16, .int (zI zq85)), (15, .int (zI zq1)), (0, .ref (zad G 0 0)), (1, .int (zI act)), (2, .int (zI y)), (3, .int (zI z)), (4, .ref (zad G 26 0)), (5, .ref (zad G 27 0)), (6, .ref (zad G 28 0)), (7, .ref (zad G 29 0)), (8, .ref (zad G 30 0)), (9, .ref (zad G 31 0)), (10, .ref (zad G 32 0)), (11, .ref (zad G 33 0)), (12, .ref (zad G 34 0)), (13, .ref (zad G 35 0)), (14, .ref (zad G 36 0))]) C 215 dL_routes_215 19 rfl (by decide) rfl ?_
          refine z_goto C 218 193 dL_routes_218 (by decide) ?_
          refine z_sub (lv' := [(17, .int (zI 0)), (16, .int (zI zq85)), (15, .int (zI zq1)), (0, .ref (zad G 0 0)), (1, .int (zI act)), (2, .int (zI y)), (3, .int (zI z)), (4, .ref (zad G 26 0)), (5, .ref (zad G 27 0)), (6, .ref (zad G 28 0)), (7, .ref (zad G 29 0)), (8, .ref (zad G 30 0)), (9, .ref (zad G 31 0)), (10, .ref (zad G 32 0)), (11, .ref (zad G 33 0)), (12, .ref (zad G 34 0)), (13, .ref (zad G 35 0)), (14, .ref (zad G 36 0)), (18, .int (zI (ct + ((w9 / 2 ^ k.toNat) % 2)))), (19, .int (zI (k + 1)))]) [2, 3, 4, 5, 6, 7, 8, 9, 10, 11, 12, 13, 14, 15, 16, 17, 18, 19, 1, 0] rfl ?_
          exact ihz90 (ct + ((w9 / 2 ^ k.toNat) % 2)) (k + 1) (by omega) (by rw [zsm_s _ g0.1, ← g1]) (by omega)
      refine z_sub (lv' := [(17, .int (zI 0)), (16, .int (zI zq85)), (15, .int (zI zq1)), (0, .ref (zad G 0 0)), (1, .int (zI act)), (2, .int (zI y)), (3, .int (zI z)), (4, .ref (zad G 26 0)), (5, .ref (zad G 27 0)), (6, .ref (zad G 28 0)), (7, .ref (zad G 29 0)), (8, .ref (zad G 30 0)), (9, .ref (zad G 31 0)), (10, .ref (zad G 32 0)), (11, .ref (zad G 33 0)), (12, .ref (zad G 34 0)), (13, .ref (zad G 35 0)), (14, .ref (zad G 36 0)), (18, .int (zI 0)), (19, .int (zI 0))]) [2, 3, 4, 5, 6, 7, 8, 9, 10, 11, 12, 13, 14, 15, 16, 17, 18, 19, 1, 0] rfl ?_
      exact L193_89 (((32 - 0 : Int)).toNat + 1) 0 0 (by omega) (by rfl) (by omega)
    refine z_iconst C 145 dL_routes_145 ?_
    refine z_goto C 146 150 dL_routes_146 (by decide) ?_
    refine z_istore (lv' := [(17, .int (zI 1)), (16, .int (zI zq85)), (15, .int (zI zq1)), (0, .ref (zad G 0 0)), (1, .int (zI act)), (2, .int (zI y)), (3, .int (zI z)), (4, .ref (zad G 26 0)), (5, .ref (zad G 27 0)), (6, .ref (zad G 28 0)), (7, .ref (zad G 29 0)), (8, .ref (zad G 30 0)), (9, .ref (zad G 31 0)), (10, .ref (zad G 32 0)), (11, .ref (zad G 33 0)), (12, .ref (zad G 34 0)), (13, .ref (zad G 35 0)), (14, .ref (zad G 36 0))]) C 150 dL_routes_150 (by decide) rfl ?_
    refine z_aload C 152 dL_routes_152 16 rfl ?_
    refine z_iload C 154 dL_routes_154 2 rfl ?_
    refine z_iload C 156 dL_routes_156 0 rfl ?_
    refine z_if_eq C 158 176 dL_routes_158 (by decide) (by decide) (fun c158_741 => ?_) (fun c158_741 => ?_)
    · exact absurd c158_741 (by decide)
    refine z_aload C 161 dL_routes_161 16 rfl ?_
    refine z_iload C 163 dL_routes_163 2 rfl ?_
    refine z_ialdj C 165 (show 0 < 1 by omega) (zc35 ..) zq1.toNat rfl hzq1 (by omega) (show zq1 < ((2 : Nat) : Int) by omega) dL_routes_165 (fun zq100 ezq100 hzq100 => ?_)
    have hd9 := (h.2.2.2.2.1.2 zq1.toNat (by omega)).1
    obtain ⟨s9, t9, w9, hb1, hb2, hb3, hb4, hb5, hb6⟩ := i_bclr (g := zq100) (k := zq85) (by omega) (by omega)
    refine z_iconst C 166 dL_routes_166 ?_
    refine z_iload C 167 dL_routes_167 1 rfl ?_
    refine z_ishl C 169 (v := s9) dL_routes_169 hb1 ?_
    refine z_iconst C 170 dL_routes_170 ?_
    refine z_ixor C 171 (v := t9) dL_routes_171 hb2 ?_
    refine z_iand C 172 (v := w9) dL_routes_172 hb3 ?_
    refine z_goto C 173 186 dL_routes_173 (by decide) ?_
    refine z_iastj C 186 (show 0 < 1 by omega) (zc35 ..) zq1.toNat rfl hzq1 (by omega) (show zq1 < ((2 : Nat) : Int) by omega) (zc35 ..) dL_routes_186 ?_
    generalize hD1 : zup M 35 0 zq1.toNat (zI w9) = M9
    have r1 : i_rf M M9 := by rw [← hD1]; exact (i_rf.r M).u (by decide)
    have hw1 := i_WC hw r1
    have hg9 : zV M9 35 0 zq1.toNat = w9 := by rw [← hD1]; exact zV_eq (by omega)
    refine z_iconst C 187 dL_routes_187 ?_
    refine z_istore (lv' := [(18, .int (zI 0)), (17, .int (zI 1)), (16, .int (zI zq85)), (15, .int (zI zq1)), (0, .ref (zad G 0 0)), (1, .int (zI act)), (2, .int (zI y)), (3, .int (zI z)), (4, .ref (zad G 26 0)), (5, .ref (zad G 27 0)), (6, .ref (zad G 28 0)), (7, .ref (zad G 29 0)), (8, .ref (zad G 30 0)), (9, .ref (zad G 31 0)), (10, .ref (zad G 32 0)), (11, .ref (zad G 33 0)), (12, .ref (zad G 34 0)), (13, .ref (zad G 35 0)), (14, .ref (zad G 36 0))]) C 188 dL_routes_188 (by decide) rfl ?_
    refine z_iconst C 190 dL_routes_190 ?_
    refine z_istore (lv' := [(19, .int (zI 0)), (18, .int (zI 0)), (17, .int (zI 1)), (16, .int (zI zq85)), (15, .int (zI zq1)), (0, .ref (zad G 0 0)), (1, .int (zI act)), (2, .int (zI y)), (3, .int (zI z)), (4, .ref (zad G 26 0)), (5, .ref (zad G 27 0)), (6, .ref (zad G 28 0)), (7, .ref (zad G 29 0)), (8, .ref (zad G 30 0)), (9, .ref (zad G 31 0)), (10, .ref (zad G 32 0)), (11, .ref (zad G 33 0)), (12, .ref (zad G 34 0)), (13, .ref (zad G 35 0)), (14, .ref (zad G 36 0))]) C 191 dL_routes_191 (by decide) rfl ?_
    have L193_101 : ∀ (kz101 : Nat) (ct : Int) (k : Int), (0 ≤ k ∧ k ≤ 32) → (ct = zsm (fun a => w9 / 2 ^ a % 2) k.toNat) → (32 - k) < (kz101 : Int) → zZ p l e (zR 11 20 120) s m ([.ref (zad G 0 0), .int (zI act), .int (zI y), .int (zI z), .ref (zad G 26 0), .ref (zad G 27 0), .ref (zad G 28 0), .ref (zad G 29 0), .ref (zad G 30 0), .ref (zad G 31 0), .ref (zad G 32 0), .ref (zad G 33 0), .ref (zad G 34 0), .ref (zad G 35 0), .ref (zad G 36 0)] : List Value).toArray below meth c G 20 (MQ below (zQi G (fun x M' => x = 1 ∧ iN (n + 1) M' M')) ([.ref (zad G 0 0), .int (zI act), .int (zI y), .int (zI z), .ref (zad G 26 0), .ref (zad G 27 0), .ref (zad G 28 0), .ref (zad G 29 0), .ref (zad G 30 0), .ref (zad G 31 0), .ref (zad G 32 0), .ref (zad G 33 0), .ref (zad G 34 0), .ref (zad G 35 0), .ref (zad G 36 0)] : List Value).toArray s 20 120 (zA G)) M9 0 0 193 [(17, .int (zI 1)), (16, .int (zI zq85)), (15, .int (zI zq1)), (0, .ref (zad G 0 0)), (1, .int (zI act)), (2, .int (zI y)), (3, .int (zI z)), (4, .ref (zad G 26 0)), (5, .ref (zad G 27 0)), (6, .ref (zad G 28 0)), (7, .ref (zad G 29 0)), (8, .ref (zad G 30 0)), (9, .ref (zad G 31 0)), (10, .ref (zad G 32 0)), (11, .ref (zad G 33 0)), (12, .ref (zad G 34 0)), (13, .ref (zad G 35 0)), (14, .ref (zad G 36 0)), (18, .int (zI ct)), (19, .int (zI k))] [] := by
      intro kz101
      induction kz101 with
      | zero =>
        intro ct k g0 g1 hk
        exact absurd hk (by omega)
      | succ kz101 ihz102 =>
        intro ct k g0 g1 hk
        have hl9 := zsm_01 (f := fun a => w9 / 2 ^ a % 2) (fun a => ⟨Int.emod_nonneg _ (by decide), Int.lt_add_one_iff.mp (Int.emod_lt_of_pos _ (by decide))⟩) k.toNat
        refine z_iload C 193 dL_routes_193 19 rfl ?_
        refine z_bipush C 195 dL_routes_195 (by decide +kernel) ?_
        refine z_icmp_ge C 197 221 dL_routes_197 (by decide) (by first | assumption | omega) (by decide) (fun c197_775 => ?_) (fun c197_775 => ?_)
        · refine z_aload_n C 221 dL_routes_221 rfl 3 rfl ?_
          refine z_iconst C 222 dL_routes_222 ?_
          refine z_bipush C 223 dL_routes_223 (by decide +kernel) ?_
          refine z_iload C 225 dL_routes_225 0 rfl ?_
          refine zs_call C 227 (n := 4) (As := [.ref (zad G 0 0), .int (zI 3), .int (zI 32), .int (zI 1)]) (rest := []) (v_probe l hfl G M9 hw1 3 32 1 (by first | assumption | decide | omega) (by first | assumption | decide | omega) (by first | assumption | decide | omega)) wm_L_139 wcw_L_probe wini_L wst_L_probe ⟨by decide, by decide, by decide⟩ ⟨by decide, by decide⟩ rfl (Nat.le_of_ble_eq_true rfl) ⟨by decide, by decide⟩ dL_routes_227 rfl (fun zq103 Mz104 hzq103 hPz103 => ?_)
          refine zZ_cs (k := 2) (n := 12) (by decide) (by decide) ?_
          obtain ⟨ezzq103, emzq103⟩ := hPz103.1 (fun q => by omega)
          subst ezzq103
          have emzq103 := emzq103.symm
          subst emzq103
          refine z_bipush C 230 dL_routes_230 (by decide +kernel) ?_
          refine z_icmp_ne C 232 289 dL_routes_232 (by decide) (by decide) (by decide) (fun c232_788 => ?_) (fun c232_788 => ?_)
          · exact absurd c232_788 (by decide)
          refine z_aload_n C 235 dL_routes_235 rfl 3 rfl ?_
          refine z_iconst C 236 dL_routes_236 ?_
          refine z_iload C 237 dL_routes_237 2 rfl ?_
          refine z_imul C 239 dL_routes_239 ?_
          refine z_bipush C 240 dL_routes_240 (by decide +kernel) ?_
          refine z_iload C 242 dL_routes_242 0 rfl ?_
          refine zs_call C 244 (n := 4) (As := [.ref (zad G 0 0), .int (zI (2 * zq1)), .int (zI 32), .int (zI 1)]) (rest := []) (v_probe l hfl G M9 hw1 (2 * zq1) 32 1 (by first | assumption | decide | omega) (by first | assumption | decide | omega) (by first | assumption | decide | omega)) wm_L_139 wcw_L_probe wini_L wst_L_probe ⟨by decide, by decide, by decide⟩ ⟨by decide, by decide⟩ rfl (Nat.le_of_ble_eq_true rfl) ⟨by decide, by decide⟩ dL_routes_244 rfl (fun zq105 Mz106 hzq105 hPz105 => ?_)
          refine zZ_cs (k := 4) (n := 24) (by decide) (by decide) ?_
          obtain ⟨ezzq105, emzq105⟩ := hPz105.2.1 ⟨by omega, by omega⟩ (fun q => by omega)
          subst ezzq105
          have emzq105 := emzq105.symm
          subst emzq105
          refine z_bipush C 247 dL_routes_247 (by decide +kernel) ?_
          refine z_icmp_ne C 249 289 dL_routes_249 (by decide) (by decide) (by decide) (fun c249_803 => ?_) (fun c249_803 => ?_)
          · exact absurd c249_803 (by decide)
          refine z_aload_n C 252 dL_routes_252 rfl 3 rfl ?_
          refine z_iconst C 253 dL_routes_253 ?_
          refine z_iload C 254 dL_routes_254 2 rfl ?_
          refine z_imul C 256 dL_routes_256 ?_
          refine z_iconst C 257 dL_routes_257 ?_
          refine z_iload C 258 dL_routes_258 0 rfl ?_
          refine zs_call C 260 (n := 4) (As := [.ref (zad G 0 0), .int (zI (2 * zq1)), .int (zI (-1)), .int (zI 1)]) (rest := []) (v_probe l hfl G M9 hw1 (2 * zq1) (-1) 1 (by first | assumption | decide | omega) (by first | assumption | decide | omega) (by first | assumption | decide | omega)) wm_L_139 wcw_L_probe wini_L wst_L_probe ⟨by decide, by decide, by decide⟩ ⟨by decide, by decide⟩ rfl (Nat.le_of_ble_eq_true rfl) ⟨by decide, by decide⟩ dL_routes_260 rfl (fun zq107 Mz108 hzq107 hPz107 => ?_)
          refine zZ_cs (k := 6) (n := 36) (by decide) (by decide) ?_
          obtain ⟨ezzq107, emzq107⟩ := hPz107.2.1 ⟨by omega, by omega⟩ (fun q => by omega)
          subst ezzq107
          have emzq107 := emzq107.symm
          subst emzq107
          refine z_bipush C 263 dL_routes_263 (by decide +kernel) ?_
          refine z_icmp_ne C 265 289 dL_routes_265 (by decide) (by decide) (by decide) (fun c265_818 => ?_) (fun c265_818 => ?_)
          · exact absurd c265_818 (by decide)
          refine z_aload_n C 268 dL_routes_268 rfl 3 rfl ?_
          refine z_iconst C 269 dL_routes_269 ?_
          refine z_iload C 270 dL_routes_270 2 rfl ?_
          refine z_imul C 272 dL_routes_272 ?_
          refine z_iload C 273 dL_routes_273 1 rfl ?_
          refine z_iload C 275 dL_routes_275 0 rfl ?_
          refine zs_call C 277 (n := 4) (As := [.ref (zad G 0 0), .int (zI (2 * zq1)), .int (zI zq85), .int (zI 1)]) (rest := []) (v_probe l hfl G M9 hw1 (2 * zq1) zq85 1 (by first | assumption | decide | omega) (by first | assumption | decide | omega) (by first | assumption | decide | omega)) wm_L_139 wcw_L_probe wini_L wst_L_probe ⟨by decide, by decide, by decide⟩ ⟨by decide, by decide⟩ rfl (Nat.le_of_ble_eq_true rfl) ⟨by decide, by decide⟩ dL_routes_277 rfl (fun zq109 Mz110 hzq109 hPz109 => ?_)
          refine zZ_cs (k := 8) (n := 48) (by decide) (by decide) ?_
          obtain ⟨hs1, hs2⟩ := hPz109.2.2 ⟨by omega, by omega⟩ (by omega)
          rw [show (2 * zq1).toNat = 2 * zq1.toNat by omega] at hs1 hs2
          obtain ⟨hN9, hpr9⟩ := i_prb (M2 := Mz110) (r := zq1.toNat) (k := zq85.toNat) (w := w9) (e := 0) h (by omega) (by omega) (by decide) hb4 (fun j hj => by rw [hb6 j hj, ezq100]) (fun κ i j q1 q2 => by rw [hs1, zV_upg, if_neg q2, ← hD1, zV_upg, if_neg (fun q => q1 ⟨q.1, q.2.2⟩)]) (by rw [hs1, zV_ne (by decide)]; exact hg9) (by rw [hs1, zV_eq (by decide)]; rfl)
          have hx9 : zq109 = ct := by rw [hs2, hpr9, g1, show k.toNat = 32 by omega]
          refine z_iload C 280 dL_routes_280 18 rfl ?_
          refine z_icmp_ne C 282 289 dL_routes_282 (by decide) hzq109 (by first | assumption | omega) (fun c282_833 => ?_) (fun c282_833 => ?_)
          · exact absurd hx9 c282_833
          refine z_iconst C 285 dL_routes_285 ?_
          refine z_goto C 286 290 dL_routes_286 (by decide) ?_
          refine z_zret C 290 dL_routes_290 (by decide) (by decide) (by decide) ?_
          exact ⟨rfl, hN9⟩
        refine z_iload C 200 dL_routes_200 18 rfl ?_
        refine z_aload C 202 dL_routes_202 16 rfl ?_
        refine z_iload C 204 dL_routes_204 2 rfl ?_
        refine z_ialdj C 206 (show 0 < 1 by omega) (zc35 ..) zq1.toNat rfl hzq1 (by omega) (show zq1 < ((2 : Nat) : Int) by omega) dL_routes_206 (fun zq111 ezq111 hzq111 => ?_)
        refine z_iload C 207 dL_routes_207 19 rfl ?_
        refine z_ishr C 209 (v := (w9 / 2 ^ k.toNat)) dL_routes_209 (by rw [show zq111 = w9 from ezq111.trans hg9]; exact j_sar (by omega) (by omega) (by omega) (by omega) rfl) ?_
        refine z_iconst C 210 dL_routes_210 ?_
        refine z_iand C 211 (v := ((w9 / 2 ^ k.toNat) % 2)) dL_routes_211 (j_mask (k := 1) (p := 2) (j_div2 (by omega)).1 rfl rfl) ?_
        refine z_iadd C 212 dL_routes_212 ?_
        refine z_istore (lv' := [(18, .int (zI (ct + ((w9 / 2 ^ k.toNat) % 2)))), (17, .int (zI 1)), (16, .int (zI zq85)), (15, .int (zI zq1)), (0, .ref (zad G 0 0)), (1, .int (zI act)), (2, .int (zI y)), (3, .int (zI z)), (4, .ref (zad G 26 0)), (5, .ref (zad G 27 0)), (6, .ref (zad G 28 0)), (7, .ref (zad G 29 0)), (8, .ref (zad G 30 0)), (9, .ref (zad G 31 0)), (10, .ref (zad G 32 0)), (11, .ref (zad G 33 0)), (12, .ref (zad G 34 0)), (13, .ref (zad G 35 0)), (14, .ref (zad G 36 0)), (19, .int (zI k))]) C 213 dL_routes_213 (by decide) rfl ?_
        refine z_iinc (lv' := [(19, .int (zI (k + 1))), (18, .int (zI (ct + ((w9 / 2 ^ k.toNat) % 2)))), (17, .int (zI 1)), (16, .int (zI zq85)), (15, .int (zI zq1)), (0, .ref (zad G 0 0)), (1, .int (zI act)), (2, .int (zI y)), (3, .int (zI z)), (4, .ref (zad G 26 0)), (5, .ref (zad G 27 0)), (6, .ref (zad G 28 0)), (7, .ref (zad G 29 0)), (8, .ref (zad G 30 0)), (9, .ref (zad G 31 0)), (10, .ref (zad G 32 0)), (11, .ref (zad G 33 0)), (12, .ref (zad G 34 0)), (13, .ref (zad G 35 0)), (14, .ref (zad G 36 0))]) C 215 dL_routes_215 19 rfl (by decide) rfl ?_
        refine z_goto C 218 193 dL_routes_218 (by decide) ?_
        refine z_sub (lv' := [(17, .int (zI 1)), (16, .int (zI zq85)), (15, .int (zI zq1)), (0, .ref (zad G 0 0)), (1, .int (zI act)), (2, .int (zI y)), (3, .int (zI z)), (4, .ref (zad G 26 0)), (5, .ref (zad G 27 0)), (6, .ref (zad G 28 0)), (7, .ref (zad G 29 0)), (8, .ref (zad G 30 0)), (9, .ref (zad G 31 0)), (10, .ref (zad G 32 0)), (11, .ref (zad G 33 0)), (12, .ref (zad G 34 0)), (13, .ref (zad G 35 0)), (14, .ref (zad G 36 0)), (18, .int (zI (ct + ((w9 / 2 ^ k.toNat) % 2)))), (19, .int (zI (k + 1)))]) [2, 3, 4, 5, 6, 7, 8, 9, 10, 11, 12, 13, 14, 15, 16, 17, 18, 19, 1, 0] rfl ?_
        exact ihz102 (ct + ((w9 / 2 ^ k.toNat) % 2)) (k + 1) (by omega) (by rw [zsm_s _ g0.1, ← g1]) (by omega)
    refine z_sub (lv' := [(17, .int (zI 1)), (16, .int (zI zq85)), (15, .int (zI zq1)), (0, .ref (zad G 0 0)), (1, .int (zI act)), (2, .int (zI y)), (3, .int (zI z)), (4, .ref (zad G 26 0)), (5, .ref (zad G 27 0)), (6, .ref (zad G 28 0)), (7, .ref (zad G 29 0)), (8, .ref (zad G 30 0)), (9, .ref (zad G 31 0)), (10, .ref (zad G 32 0)), (11, .ref (zad G 33 0)), (12, .ref (zad G 34 0)), (13, .ref (zad G 35 0)), (14, .ref (zad G 36 0)), (18, .int (zI 0)), (19, .int (zI 0))]) [2, 3, 4, 5, 6, 7, 8, 9, 10, 11, 12, 13, 14, 15, 16, 17, 18, 19, 1, 0] rfl ?_
    exact L193_101 (((32 - 0 : Int)).toNat + 1) 0 0 (by omega) (by rfl) (by omega)
  refine z_iload_n C 13 dL_routes_13 rfl 4 rfl ?_
  refine z_callSi C 14 (As := [.int (zI z)]) (rest := []) (c_L_identifier l G M z) (zS_of 1 C wm_L_89 wc_L_identifier wini_L wst_L_identifier ⟨by decide, by decide, by decide⟩ ⟨by decide, by decide⟩) rfl (Nat.le_of_ble_eq_true rfl) ⟨by decide, by decide⟩ dL_routes_14 rfl (fun zq112 Mz113 hzq112 hPz112 => ?_)
  obtain ⟨rfl, hPz112⟩ := hPz112
  refine z_istore (lv' := [(16, .int (zI zq112)), (15, .int (zI zq1)), (0, .ref (zad G 0 0)), (1, .int (zI act)), (2, .int (zI y)), (3, .int (zI z)), (4, .ref (zad G 26 0)), (5, .ref (zad G 27 0)), (6, .ref (zad G 28 0)), (7, .ref (zad G 29 0)), (8, .ref (zad G 30 0)), (9, .ref (zad G 31 0)), (10, .ref (zad G 32 0)), (11, .ref (zad G 33 0)), (12, .ref (zad G 34 0)), (13, .ref (zad G 35 0)), (14, .ref (zad G 36 0))]) C 17 dL_routes_17 (by decide) rfl ?_
  refine z_iload C 19 dL_routes_19 0 rfl ?_
  refine z_iload C 21 dL_routes_21 1 rfl ?_
  refine z_aload C 23 dL_routes_23 6 rfl ?_
  refine z_aload C 25 dL_routes_25 7 rfl ?_
  refine z_aload C 27 dL_routes_27 8 rfl ?_
  refine z_aload C 29 dL_routes_29 9 rfl ?_
  refine z_aload C 31 dL_routes_31 10 rfl ?_
  refine z_aload C 33 dL_routes_33 11 rfl ?_
  refine z_aload C 35 dL_routes_35 12 rfl ?_
  refine z_aload C 37 dL_routes_37 13 rfl ?_
  refine z_aload C 39 dL_routes_39 14 rfl ?_
  refine z_aload C 41 dL_routes_41 15 rfl ?_
  refine z_aload C 43 dL_routes_43 16 rfl ?_
  refine z_callSi C 45 (As := [.int (zI zq112), .int (zI zq1), .ref (zad G 26 0), .ref (zad G 27 0), .ref (zad G 28 0), .ref (zad G 29 0), .ref (zad G 30 0), .ref (zad G 31 0), .ref (zad G 32 0), .ref (zad G 33 0), .ref (zad G 34 0), .ref (zad G 35 0), .ref (zad G 36 0)]) (rest := []) (c_L_packet l G M h (by omega) zq112 zq1 (by omega) (by omega)) (zS_of 13 C wm_L_133 wc_L_packet wini_L wst_L_packet ⟨by decide, by decide, by decide⟩ ⟨by decide, by decide⟩) rfl (Nat.le_of_ble_eq_true rfl) ⟨by decide, by decide⟩ dL_routes_45 rfl (fun zq114 Mz115 hzq114 hPz114 => ?_)
  have hp1 := hPz114
  have r1 := i_rf.snt hp1
  have hw1 := i_WC hw r1
  refine z_istore (lv' := [(17, .int (zI zq114)), (16, .int (zI zq112)), (15, .int (zI zq1)), (0, .ref (zad G 0 0)), (1, .int (zI act)), (2, .int (zI y)), (3, .int (zI z)), (4, .ref (zad G 26 0)), (5, .ref (zad G 27 0)), (6, .ref (zad G 28 0)), (7, .ref (zad G 29 0)), (8, .ref (zad G 30 0)), (9, .ref (zad G 31 0)), (10, .ref (zad G 32 0)), (11, .ref (zad G 33 0)), (12, .ref (zad G 34 0)), (13, .ref (zad G 35 0)), (14, .ref (zad G 36 0))]) C 48 dL_routes_48 (by decide) rfl ?_
  refine z_aload_n C 50 dL_routes_50 rfl 3 rfl ?_
  refine z_iconst C 51 dL_routes_51 ?_
  refine z_iconst C 52 dL_routes_52 ?_
  refine zs_call C 53 (n := 3) (As := [.ref (zad G 0 0), .int (zI 3), .int (zI (-1))]) (rest := []) (v_send l hfl G Mz115 hw1 3 (-1) (by first | assumption | decide | omega) (by first | assumption | decide | omega)) wm_L_137 wcw_L_send wini_L wst_L_send ⟨by decide, by decide, by decide⟩ ⟨by decide, by decide⟩ rfl (Nat.le_of_ble_eq_true rfl) ⟨by decide, by decide⟩ dL_routes_53 rfl (fun zq116 Mz117 hzq116 hPz116 => ?_)
  refine zZ_cs (k := 2) (n := 12) (by decide) (by decide) ?_
  obtain ⟨ezzq116, emzq116⟩ := hPz116.1 (fun q => by omega)
  subst ezzq116
  have emzq116 := emzq116.symm
  subst emzq116
  refine z_bipush C 56 dL_routes_56 (by decide +kernel) ?_
  refine z_icmp_ne C 58 120 dL_routes_58 (by decide) (by decide) (by decide) (fun c58_885 => ?_) (fun c58_885 => ?_)
  · exact absurd c58_885 (by decide)
  refine z_aload_n C 61 dL_routes_61 rfl 3 rfl ?_
  refine z_iconst C 62 dL_routes_62 ?_
  refine z_iload C 63 dL_routes_63 2 rfl ?_
  refine z_imul C 65 dL_routes_65 ?_
  refine z_ldc C 66 wk_L_88 dL_routes_66 ?_
  refine zs_call C 68 (n := 3) (As := [.ref (zad G 0 0), .int (zI (2 * zq1)), .int (zI 65536)]) (rest := []) (v_send l hfl G Mz115 hw1 (2 * zq1) 65536 (by first | assumption | decide | omega) (by first | assumption | decide | omega)) wm_L_137 wcw_L_send wini_L wst_L_send ⟨by decide, by decide, by decide⟩ ⟨by decide, by decide⟩ rfl (Nat.le_of_ble_eq_true rfl) ⟨by decide, by decide⟩ dL_routes_68 rfl (fun zq118 Mz119 hzq118 hPz118 => ?_)
  refine zZ_cs (k := 4) (n := 24) (by decide) (by decide) ?_
  obtain ⟨ezzq118, emzq118⟩ := hPz118.2.1 ⟨by omega, by omega⟩ (fun q => by omega)
  subst ezzq118
  have emzq118 := emzq118.symm
  subst emzq118
  refine z_bipush C 71 dL_routes_71 (by decide +kernel) ?_
  refine z_icmp_ne C 73 120 dL_routes_73 (by decide) (by decide) (by decide) (fun c73_899 => ?_) (fun c73_899 => ?_)
  · exact absurd c73_899 (by decide)
  refine z_aload_n C 76 dL_routes_76 rfl 3 rfl ?_
  refine z_iconst C 77 dL_routes_77 ?_
  refine z_iconst C 78 dL_routes_78 ?_
  refine zs_call C 79 (n := 3) (As := [.ref (zad G 0 0), .int (zI (-1)), .int (zI 0)]) (rest := []) (v_send l hfl G Mz115 hw1 (-1) 0 (by first | assumption | decide | omega) (by first | assumption | decide | omega)) wm_L_137 wcw_L_send wini_L wst_L_send ⟨by decide, by decide, by decide⟩ ⟨by decide, by decide⟩ rfl (Nat.le_of_ble_eq_true rfl) ⟨by decide, by decide⟩ dL_routes_79 rfl (fun zq120 Mz121 hzq120 hPz120 => ?_)
  refine zZ_cs (k := 6) (n := 36) (by decide) (by decide) ?_
  obtain ⟨ezzq120, emzq120⟩ := hPz120.1 (fun q => by omega)
  subst ezzq120
  have emzq120 := emzq120.symm
  subst emzq120
  refine z_bipush C 82 dL_routes_82 (by decide +kernel) ?_
  refine z_icmp_ne C 84 120 dL_routes_84 (by decide) (by decide) (by decide) (fun c84_911 => ?_) (fun c84_911 => ?_)
  · exact absurd c84_911 (by decide)
  refine z_aload_n C 87 dL_routes_87 rfl 3 rfl ?_
  refine z_iconst C 88 dL_routes_88 ?_
  refine z_iload C 89 dL_routes_89 2 rfl ?_
  refine z_imul C 91 dL_routes_91 ?_
  refine z_iconst C 92 dL_routes_92 ?_
  refine zs_call C 93 (n := 3) (As := [.ref (zad G 0 0), .int (zI (2 * zq1)), .int (zI (-1))]) (rest := []) (v_send l hfl G Mz115 hw1 (2 * zq1) (-1) (by first | assumption | decide | omega) (by first | assumption | decide | omega)) wm_L_137 wcw_L_send wini_L wst_L_send ⟨by decide, by decide, by decide⟩ ⟨by decide, by decide⟩ rfl (Nat.le_of_ble_eq_true rfl) ⟨by decide, by decide⟩ dL_routes_93 rfl (fun zq122 Mz123 hzq122 hPz122 => ?_)
  refine zZ_cs (k := 8) (n := 48) (by decide) (by decide) ?_
  obtain ⟨ezzq122, emzq122⟩ := hPz122.2.1 ⟨by omega, by omega⟩ (fun q => by omega)
  subst ezzq122
  have emzq122 := emzq122.symm
  subst emzq122
  refine z_bipush C 96 dL_routes_96 (by decide +kernel) ?_
  refine z_icmp_ne C 98 120 dL_routes_98 (by decide) (by decide) (by decide) (fun c98_925 => ?_) (fun c98_925 => ?_)
  · exact absurd c98_925 (by decide)
  refine z_aload_n C 101 dL_routes_101 rfl 3 rfl ?_
  refine z_iconst C 102 dL_routes_102 ?_
  refine z_iload C 103 dL_routes_103 2 rfl ?_
  refine z_imul C 105 dL_routes_105 ?_
  refine z_iload C 106 dL_routes_106 1 rfl ?_
  refine zs_call C 108 (n := 3) (As := [.ref (zad G 0 0), .int (zI (2 * zq1)), .int (zI zq112)]) (rest := []) (v_send l hfl G Mz115 hw1 (2 * zq1) zq112 (by first | assumption | decide | omega) (by first | assumption | decide | omega)) wm_L_137 wcw_L_send wini_L wst_L_send ⟨by decide, by decide, by decide⟩ ⟨by decide, by decide⟩ rfl (Nat.le_of_ble_eq_true rfl) ⟨by decide, by decide⟩ dL_routes_108 rfl (fun zq124 Mz125 hzq124 hPz124 => ?_)
  refine zZ_cs (k := 10) (n := 60) (by decide) (by decide) ?_
  obtain ⟨hx9, hN9⟩ := i_sndI (by omega) h (by omega) (by omega) hp1 (hPz124.2.2 ⟨by omega, by omega⟩ (by omega))
  refine z_iload C 111 dL_routes_111 0 rfl ?_
  refine z_icmp_ne C 113 120 dL_routes_113 (by decide) hzq124 hzq114 (fun c113_936 => ?_) (fun c113_936 => ?_)
  · exact absurd hx9 c113_936
  refine z_iconst C 116 dL_routes_116 ?_
  refine z_goto C 117 121 dL_routes_117 (by decide) ?_
  refine z_zret C 121 dL_routes_121 (by decide) (by decide) (by decide) ?_
  exact ⟨rfl, hN9⟩
