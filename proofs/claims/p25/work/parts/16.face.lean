set_option maxHeartbeats 4000000 in
set_option maxRecDepth 100000 in
theorem c_X7_keepAnswer (l : Launch) (G : zG) (M : zMem) (r : Nat) (hr : r < 3) (hw : zWC M) (id : Int) (hid : 0 ≤ id ∧ id < 65536) : Met l yX7_keepAnswer [.code yX7_keepAnswer cX7_keepAnswer 8 (some .int)] (zR 4 0 0) (zPc G M [.ref (zad G 0 0), .ref (zad G 16 r), .int (zI id)]) (zQi G (fun x M' => zans M M' r id x)) 0 0 (zA G) := by
  refine z_met [(0, .ref (zad G 0 0)), (1, .ref (zad G 16 r)), (2, .int (zI id))] (by decide) (Nat.le_of_ble_eq_true rfl) rfl ?_
  intro p e s m below meth c C
  have C : zC p s m ([.ref (zad G 0 0), .ref (zad G 16 r), .int (zI id)] : List Value).toArray meth c G RX7 cX7_keepAnswer 8 (some .int) := C
  have hw9z := hw
  obtain ⟨w1, w2, w3, w4, w5, w6, w7, w8, w9, w10⟩ := hw9z
  refine z_aload_n C 0 dX7_keepAnswer_0 rfl 0 rfl ?_
  refine z_get C 1 zcl7 (show 0 < 1 by omega) (zc0 ..) 0 (by decide) rfl wf_7_12 dX7_keepAnswer_1 ?_
  refine z_iload_n C 4 dX7_keepAnswer_4 rfl 2 rfl ?_
  refine z_callVi C 5 (As := [.int (zI id)]) (rest := []) (c_X4_find l G M w1 id hid) zcl4 (show 0 < 1 by omega) (zc1 ..) (zW_of 1 C wm_7_138 wc_X4_find wini_4 wi_X4_find wse_X4_find ⟨by decide, by decide, by decide⟩ ⟨by decide, by decide⟩) rfl (Nat.le_of_ble_eq_true rfl) ⟨by decide, by decide⟩ dX7_keepAnswer_5 rfl (fun zq1 Mz2 hzq1 hPz1 => ?_)
  obtain ⟨rfl, hPz1⟩ := hPz1
  refine z_istore_n (lv' := [(3, .int (zI zq1)), (0, .ref (zad G 0 0)), (1, .ref (zad G 16 r)), (2, .int (zI id))]) C 8 dX7_keepAnswer_8 rfl (by decide) rfl ?_
  refine z_aload_n C 9 dX7_keepAnswer_9 rfl 1 rfl ?_
  refine z_get C 10 zcl7 (show 0 < 1 by omega) (zc0 ..) 0 (by decide) rfl wf_7_12 dX7_keepAnswer_10 ?_
  refine z_iload_n C 13 dX7_keepAnswer_13 rfl 3 rfl ?_
  refine z_iload_n C 14 dX7_keepAnswer_14 rfl 0 rfl ?_
  refine z_callVi C 15 (As := [.int (zI id), .int (zI zq1)]) (rest := []) (c_X4_narrow l G M w1 id zq1 hid (by have z1 := zfnd_rg hPz1; have z2 := w1.1.2; unfold zmn at z1; omega)) zcl4 (show 0 < 1 by omega) (zc1 ..) (zW_of 2 C wm_7_141 wc_X4_narrow wini_4 wi_X4_narrow wse_X4_narrow ⟨by decide, by decide, by decide⟩ ⟨by decide, by decide⟩) rfl (Nat.le_of_ble_eq_true rfl) ⟨by decide, by decide⟩ dX7_keepAnswer_15 rfl (fun zq3 Mz4 hzq3 hPz3 => ?_)
  obtain ⟨rfl, hPz3⟩ := hPz3
  refine z_istore (lv' := [(4, .int (zI zq3)), (3, .int (zI zq1)), (0, .ref (zad G 0 0)), (1, .ref (zad G 16 r)), (2, .int (zI id))]) C 18 dX7_keepAnswer_18 (by decide) rfl ?_
  refine z_iload_n C 20 dX7_keepAnswer_20 rfl 4 rfl ?_
  refine z_iload C 21 dX7_keepAnswer_21 0 rfl ?_
  refine z_callSi C 23 (As := [.int (zI id), .int (zI zq3)]) (rest := []) (c_X7_firstBits l G M id zq3 ⟨hid.1, hid.2, by have z1 := hPz3.1; omega, hPz3.2.1⟩) (zS_of 2 C wm_7_229 wc_X7_firstBits wini_7 wst_X7_firstBits ⟨by decide, by decide, by decide⟩ ⟨by decide, by decide⟩) rfl (Nat.le_of_ble_eq_true rfl) ⟨by decide, by decide⟩ dX7_keepAnswer_23 rfl (fun zq5 Mz6 hzq5 hPz5 => ?_)
  obtain ⟨rfl, hPz5⟩ := hPz5
  have hrg9 := zfb_rg hid.1 hid.2 (b := zq3) (by have z1 := hPz3.1; omega) hPz3.2.1
  have hvb : zpfx zq5 zq3 := ⟨by omega, by omega, by have z1 := hPz3.1; omega, hPz3.2.1⟩
  have hm9 := zfnd_rg hPz1
  have hn9 := w1.1
  have hmn9 : zmn M = zV M 1 0 1 := rfl
  refine z_istore (lv' := [(5, .int (zI zq5)), (4, .int (zI zq3)), (3, .int (zI zq1)), (0, .ref (zad G 0 0)), (1, .ref (zad G 16 r)), (2, .int (zI id))]) C 26 dX7_keepAnswer_26 (by decide) rfl ?_
  refine z_aload_n C 28 dX7_keepAnswer_28 rfl 4 rfl ?_
  refine z_iload C 29 dX7_keepAnswer_29 0 rfl ?_
  refine z_iload C 31 dX7_keepAnswer_31 1 rfl ?_
  refine z_callVi C 33 (As := [.int (zI zq5), .int (zI zq3)]) (rest := []) (c_X5_makeRoom l G M r hr (w4 r hr) w3 zq5 zq3 hvb) zcl5 (show r < 3 by omega) (zc16 ..) (zW_of 2 C wm_7_232 wc_X5_makeRoom wini_5 wi_X5_makeRoom wse_X5_makeRoom ⟨by decide, by decide, by decide⟩ ⟨by decide, by decide⟩) rfl (Nat.le_of_ble_eq_true rfl) ⟨by decide, by decide⟩ dX7_keepAnswer_33 rfl (fun zq7 Mz8 hzq7 hPz7 => ?_)
  have hwr1 := hPz7.1.2.1 (zq7).toNat (by have z1 := hPz7.2.1; have z2 := hPz7.2.2.1; omega)
  have hx9 : 0 ≤ zq7 ∧ zq7 < 8 := ⟨by have z1 := hPz7.2.1; omega, hPz7.2.2.1⟩
  refine z_istore (lv' := [(6, .int (zI zq7)), (5, .int (zI zq5)), (4, .int (zI zq3)), (3, .int (zI zq1)), (0, .ref (zad G 0 0)), (1, .ref (zad G 16 r)), (2, .int (zI id))]) C 36 dX7_keepAnswer_36 (by decide) rfl ?_
  refine z_aload_n C 38 dX7_keepAnswer_38 rfl 5 rfl ?_
  refine z_get C 39 zcl5 (show r < 3 by omega) (zc16 ..) 0 (by decide) rfl wf_7_235 dX7_keepAnswer_39 ?_
  refine z_iload C 42 dX7_keepAnswer_42 0 rfl ?_
  refine z_aald C 44 (show r < 3 by omega) (zc17 ..) rfl hzq7 (by omega) (show zq7 < ((8 : Nat) : Int) by omega) dX7_keepAnswer_44 ?_
  refine z_ent ?_; intro zp9 ezp9
  refine z_astore (lv' := [(7, .ref (zad G 19 zp9)), (6, .int (zI zq7)), (5, .int (zI zq5)), (4, .int (zI zq3)), (3, .int (zI zq1)), (0, .ref (zad G 0 0)), (1, .ref (zad G 16 r)), (2, .int (zI id))]) C 45 dX7_keepAnswer_45 (by decide) rfl ?_
  refine z_aload C 47 dX7_keepAnswer_47 0 rfl ?_
  refine z_get C 49 zcl0 (show zp9 < 24 by omega) (zc19 ..) 0 (by decide) rfl wf_7_198 dX7_keepAnswer_49 ?_
  refine z_iload C 52 dX7_keepAnswer_52 2 rfl ?_
  refine z_iload C 54 dX7_keepAnswer_54 3 rfl ?_
  refine z_callVv C 56 (As := [.int (zI zq5), .int (zI zq3)]) (rest := []) (c_X3_set_20 l G Mz8 zp9 (by omega) zq5 zq3) zcl3 (show zp9 < 24 by omega) (zc20 ..) (zW_of 2 C wm_7_239 wc_X3_set wini_3 wi_X3_set wse_X3_set ⟨by decide, by decide, by decide⟩ ⟨by decide, by decide⟩) rfl (Nat.le_of_ble_eq_true rfl) ⟨by decide, by decide⟩ dX7_keepAnswer_56 rfl (fun Mz11 hPz10 => ?_)
  have ft : zV Mz11 0 0 3 = zV M 0 0 3 := by rw [hPz10, zV_ne (by decide), zV_ne (by decide), zV_of (hPz7.2.2.2.2.2 0 0 3 (by omega))]
  have fn : zV Mz11 0 0 5 = zV M 0 0 5 := by rw [hPz10, zV_ne (by decide), zV_ne (by decide), zV_of (hPz7.2.2.2.2.2 0 0 5 (by omega))]
  have fp : zV Mz11 0 0 4 = zV M 0 0 4 := by rw [hPz10, zV_ne (by decide), zV_ne (by decide), zV_of (hPz7.2.2.2.2.2 0 0 4 (by omega))]
  refine z_iload_n C 59 dX7_keepAnswer_59 rfl 4 rfl ?_
  refine z_iconst C 60 dX7_keepAnswer_60 ?_
  refine z_icmp_ne C 61 81 dX7_keepAnswer_61 (by decide) hzq1 (by decide) (fun c61_54 => ?_) (fun c61_54 => ?_)
  · refine z_aload C 81 dX7_keepAnswer_81 0 rfl ?_
    refine z_iload_n C 83 dX7_keepAnswer_83 rfl 4 rfl ?_
    refine z_aload_n C 84 dX7_keepAnswer_84 rfl 5 rfl ?_
    refine z_get C 85 zcl7 (show 0 < 1 by omega) (zc0 ..) 0 (by decide) rfl wf_7_12 dX7_keepAnswer_85 ?_
    refine z_get C 88 zcl4 (show 0 < 1 by omega) (zc1 ..) 0 (by decide) rfl wf_7_65 dX7_keepAnswer_88 ?_
    refine z_iload_n C 91 dX7_keepAnswer_91 rfl 4 rfl ?_
    refine z_aald C 92 (show 0 < 1 by omega) (zc2 ..) rfl hzq1 (by omega) (show zq1 < ((24 : Nat) : Int) by omega) dX7_keepAnswer_92 ?_
    refine z_aload_n C 93 dX7_keepAnswer_93 rfl 5 rfl ?_
    refine z_getI C 94 zcl7 (show 0 < 1 by omega) (zc0 ..) 3 (by decide) rfl wf_7_29 dX7_keepAnswer_94 (fun zq12 ezq12 hzq12 => ?_)
    refine z_aload_n C 97 dX7_keepAnswer_97 rfl 5 rfl ?_
    refine z_getI C 98 zcl7 (show 0 < 1 by omega) (zc0 ..) 4 (by decide) rfl wf_7_33 dX7_keepAnswer_98 (fun zq13 ezq13 hzq13 => ?_)
    refine z_iadd C 101 dX7_keepAnswer_101 ?_
    refine z_norm ?_
    intro yy eyy hyy
    refine z_callVv C 102 (As := [.int (zI zq1), .ref (zad G 3 zq1.toNat), .int (zI yy)]) (rest := []) (c_X0_keepPositive l G Mz11 zp9 (by omega) zq1 hzq1 (zq1).toNat (by omega) yy hyy (by rw [hPz10, zV_ne (by decide), zV_ne (by decide), zV_of (hPz7.2.2.2.2.2 5 _ 3 (by omega))]; exact (w5 _ (by omega)).1)) zcl0 (show zp9 < 24 by omega) (zc19 ..) (zW_of 3 C wm_7_245 wc_X0_keepPositive wini_0 wi_X0_keepPositive wse_X0_keepPositive ⟨by decide, by decide, by decide⟩ ⟨by decide, by decide⟩) rfl (Nat.le_of_ble_eq_true rfl) ⟨by decide, by decide⟩ dX7_keepAnswer_102 rfl (fun Mz15 hPz14 => ?_)
    refine z_iload C 105 dX7_keepAnswer_105 1 rfl ?_
    refine z_iret C 107 dX7_keepAnswer_107 (by decide) (by decide) hzq7 ?_
    rw [hPz5] at hPz7 hPz10
    rw [ezp9] at hPz10 hPz14
    refine ⟨zq1, zq3, Mz8, Mz11, hPz1, hPz3, hPz7, hPz10, ?_⟩
    refine Or.inr ⟨by omega, by omega, by omega, ?_⟩
    rw [eyy, ezq12, ezq13, ft, fp] at hPz14
    exact hPz14
  refine z_aload C 64 dX7_keepAnswer_64 0 rfl ?_
  refine z_aload_n C 66 dX7_keepAnswer_66 rfl 5 rfl ?_
  refine z_getI C 67 zcl7 (show 0 < 1 by omega) (zc0 ..) 3 (by decide) rfl wf_7_29 dX7_keepAnswer_67 (fun zq16 ezq16 hzq16 => ?_)
  refine z_aload_n C 70 dX7_keepAnswer_70 rfl 5 rfl ?_
  refine z_getI C 71 zcl7 (show 0 < 1 by omega) (zc0 ..) 5 (by decide) rfl wf_7_36 dX7_keepAnswer_71 (fun zq17 ezq17 hzq17 => ?_)
  refine z_iadd C 74 dX7_keepAnswer_74 ?_
  refine z_callVv C 75 (As := [.int (zI (zq16 + zq17))]) (rest := []) (c_X0_keepNegative l G Mz11 zp9 (by omega) (zq16 + zq17)) zcl0 (show zp9 < 24 by omega) (zc19 ..) (zW_of 1 C wm_7_242 wc_X0_keepNegative wini_0 wi_X0_keepNegative wse_X0_keepNegative ⟨by decide, by decide, by decide⟩ ⟨by decide, by decide⟩) rfl (Nat.le_of_ble_eq_true rfl) ⟨by decide, by decide⟩ dX7_keepAnswer_75 rfl (fun Mz19 hPz18 => ?_)
  refine z_goto C 78 105 dX7_keepAnswer_78 (by decide) ?_
  refine z_iload C 105 dX7_keepAnswer_105 1 rfl ?_
  refine z_iret C 107 dX7_keepAnswer_107 (by decide) (by decide) hzq7 ?_
  rw [hPz5] at hPz7 hPz10
  rw [ezp9] at hPz10 hPz18
  refine ⟨zq1, zq3, Mz8, Mz11, hPz1, hPz3, hPz7, hPz10, ?_⟩
  exact Or.inl ⟨by omega, by rw [hPz18, ezq16, ezq17, ft, fn]; rfl⟩
set_option maxHeartbeats 4000000 in
set_option maxRecDepth 100000 in
theorem c_X7_register (l : Launch) (hfl : l.stackTraces = false) (G : zG) (M : zMem) (hw : zWC M) (v b : Int) (hv : zrg v) (hb : zrg b) : vx_Met l yX7_register [.code yX7_register cX7_register 4 (some .int)] (zR 9 4 24) (zPc G M [.ref (zad G 0 0), .int (zI v), .int (zI b)]) (zQi G (fun x M' => zvp v b ∧ (zmn M < 24 ∧ ¬ zhas M v b) ∧ x = zmn M ∧ zsolk (zreg M v b) M' (zmn M).toNat 3)) (zX G M (fun E => (E = xIAE ∧ ¬ zvp v b) ∨ (E = xISE ∧ zvp v b ∧ ¬ (zmn M < 24 ∧ ¬ zhas M v b)))) 4 24 (zA G) := by
  refine zx_met [(0, .ref (zad G 0 0)), (1, .int (zI v)), (2, .int (zI b))] (by decide) (Nat.le_of_ble_eq_true rfl) rfl ?_
  intro p e s m below meth c C hT
  have C : zC p s m ([.ref (zad G 0 0), .int (zI v), .int (zI b)] : List Value).toArray meth c G RX7 cX7_register 4 (some .int) := C
  have hw9z := hw
  obtain ⟨w1, w2, w3, w4, w5, w6, w7, w8, w9, w10⟩ := hw9z
  refine z_iload_n C 0 dX7_register_0 rfl 1 rfl ?_
  refine z_iload_n C 1 dX7_register_1 rfl 2 rfl ?_
  refine zx_callSv C hT 2 (As := [.int (zI v), .int (zI b)]) (rest := []) (c_X7_requirePrefix l hfl G M v b hv hb) (zS_of 2 C wm_7_43 wc_X7_requirePrefix wini_7 wst_X7_requirePrefix ⟨by decide, by decide, by decide⟩ ⟨by decide, by decide⟩) rfl (Nat.le_of_ble_eq_true rfl) ⟨by decide, by decide⟩ dX7_register_2 rfl (by decide) (by decide) (fun E h => Or.inl h) (fun Mz2 hPz1 => ?_)
  refine zZ_cs (k := 3) (n := 18) (by decide) (by decide) ?_
  obtain ⟨rfl, hPz1⟩ := hPz1
  refine z_aload_n C 5 dX7_register_5 rfl 0 rfl ?_
  refine z_get C 6 zcl7 (show 0 < 1 by omega) (zc0 ..) 0 (by decide) rfl wf_7_12 dX7_register_6 ?_
  refine z_getI C 9 zcl4 (show 0 < 1 by omega) (zc1 ..) 1 (by decide) rfl wf_7_47 dX7_register_9 (fun zq3 ezq3 hzq3 => ?_)
  refine z_bipush C 12 dX7_register_12 (by decide +kernel) ?_
  refine z_icmp_ge C 14 29 dX7_register_14 (by decide) hzq3 (by decide) (fun c14_17 => ?_) (fun c14_17 => ?_)
  · have hX : ¬ (zV M 1 0 1 < 24 ∧ ¬ zhas M v b) := fun z => by omega
    have hmn9 : zmn M = zV M 1 0 1 := rfl
    refine z_throw C hT hfl 29 zt_ise (List.mem_of_getElem? (i := 2) rfl) dX7_register_29 dX7_register_32 dX7_register_33 dX7_register_35 dX7_register_38 ⟨by decide, by decide, by decide, by decide⟩ ⟨by decide, by decide⟩ ?_
    exact Or.inr ⟨rfl, hPz1, hX⟩
  refine z_aload_n C 17 dX7_register_17 rfl 0 rfl ?_
  refine z_get C 18 zcl7 (show 0 < 1 by omega) (zc0 ..) 0 (by decide) rfl wf_7_12 dX7_register_18 ?_
  refine z_iload_n C 21 dX7_register_21 rfl 1 rfl ?_
  refine z_iload_n C 22 dX7_register_22 rfl 2 rfl ?_
  refine z_callVi C 23 (As := [.int (zI v), .int (zI b)]) (rest := []) (c_X4_has l G M w1 v b hv hb) zcl4 (show 0 < 1 by omega) (zc1 ..) (zW_of 2 C wm_7_50 wc_X4_has wini_4 wi_X4_has wse_X4_has ⟨by decide, by decide, by decide⟩ ⟨by decide, by decide⟩) rfl (Nat.le_of_ble_eq_true rfl) ⟨by decide, by decide⟩ dX7_register_23 rfl (fun zq4 Mz5 hzq4 hPz4 => ?_)
  obtain ⟨rfl, hPz4⟩ := hPz4
  refine z_if_eq C 26 39 dX7_register_26 (by decide) hzq4 (fun c26_28 => ?_) (fun c26_28 => ?_)
  · have hmn9 : zmn M = zV M 1 0 1 := rfl
    have hlt : zV M 1 0 1 < 24 := by omega
    have hn0 := w1.1
    refine z_aload_n C 39 dX7_register_39 rfl 0 rfl ?_
    refine z_get C 40 zcl7 (show 0 < 1 by omega) (zc0 ..) 0 (by decide) rfl wf_7_12 dX7_register_40 ?_
    refine z_iload_n C 43 dX7_register_43 rfl 1 rfl ?_
    refine z_iload_n C 44 dX7_register_44 rfl 2 rfl ?_
    refine z_callVi C 45 (As := [.int (zI v), .int (zI b)]) (rest := []) (c_X4_add l G M ⟨w1.1.1, hlt⟩ v b) zcl4 (show 0 < 1 by omega) (zc1 ..) (zW_of 2 C wm_7_61 wc_X4_add wini_4 wi_X4_add wse_X4_add ⟨by decide, by decide, by decide⟩ ⟨by decide, by decide⟩) rfl (Nat.le_of_ble_eq_true rfl) ⟨by decide, by decide⟩ dX7_register_45 rfl (fun zq6 Mz7 hzq6 hPz6 => ?_)
    refine z_istore_n (lv' := [(3, .int (zI zq6)), (0, .ref (zad G 0 0)), (1, .int (zI v)), (2, .int (zI b))]) C 48 dX7_register_48 rfl (by decide) rfl ?_
    refine z_aload_n C 49 dX7_register_49 rfl 1 rfl ?_
    refine z_aload_n C 50 dX7_register_50 rfl 1 rfl ?_
    refine z_get C 51 zcl7 (show 0 < 1 by omega) (zc0 ..) 0 (by decide) rfl wf_7_12 dX7_register_51 ?_
    refine z_get C 54 zcl4 (show 0 < 1 by omega) (zc1 ..) 0 (by decide) rfl wf_7_65 dX7_register_54 ?_
    refine z_iload_n C 57 dX7_register_57 rfl 0 rfl ?_
    refine z_aald C 58 (show 0 < 1 by omega) (zc2 ..) rfl hzq6 (by omega) (show zq6 < ((24 : Nat) : Int) by omega) dX7_register_58 ?_
    refine z_get C 59 zcl2 (show zq6.toNat < 24 by omega) (zc3 ..) 0 (by decide) rfl wf_7_69 dX7_register_59 ?_
    refine z_callVv C 62 (As := [.ref (zad G 4 zq6.toNat)]) (rest := []) (c_X7_solicit l G Mz7 zq6.toNat (by omega) (by rw [hPz6.1, hPz6.2]; exact zWs_reg hw hPz1.1 hlt)) zcl7 (show 0 < 1 by omega) (zc0 ..) (zW_of 1 C wm_7_75 wc_X7_solicit wini_7 wi_X7_solicit wse_X7_solicit ⟨by decide, by decide, by decide⟩ ⟨by decide, by decide⟩) rfl (Nat.le_of_ble_eq_true rfl) ⟨by decide, by decide⟩ dX7_register_62 rfl (fun Mz9 hPz8 => ?_)
    refine z_iload_n C 65 dX7_register_65 rfl 0 rfl ?_
    refine zx_iret C 66 dX7_register_66 (by decide) (by decide) hzq6 ?_
    refine ⟨hPz1, ⟨hlt, hPz4.f (by assumption)⟩, hPz6.1, ?_⟩
    have h9 := hPz8
    rw [hPz6.1, hPz6.2] at h9
    exact h9
  have hX : ¬ (zV M 1 0 1 < 24 ∧ ¬ zhas M v b) := fun z => z.2 (hPz4.t (by assumption))
  have hmn9 : zmn M = zV M 1 0 1 := rfl
  refine z_throw C hT hfl 29 zt_ise (List.mem_of_getElem? (i := 2) rfl) dX7_register_29 dX7_register_32 dX7_register_33 dX7_register_35 dX7_register_38 ⟨by decide, by decide, by decide, by decide⟩ ⟨by decide, by decide⟩ ?_
  exact Or.inr ⟨rfl, hPz1, hX⟩
set_option maxHeartbeats 4000000 in
set_option maxRecDepth 100000 in
theorem c_X7_withdraw (l : Launch) (hfl : l.stackTraces = false) (G : zG) (M : zMem) (hw : zWC M) (a : Int) (ha : zrg a) : vx_Met l yX7_withdraw [.code yX7_withdraw cX7_withdraw 3 (some .int)] (zR 8 2 12) (zPc G M [.ref (zad G 0 0), .int (zI a)]) (zQi G (fun x M' => (0 ≤ a ∧ a < zmn M) ∧ zV M 3 a.toNat 3 = 0 ∧ zsolk (zup M 3 a.toNat 3 (zI 1)) M' a.toNat 3 ∧ x = zcnt (zmg M') (zV M' 1 0 1).toNat)) (zX G M (fun E => (E = xIOB ∧ ¬ (0 ≤ a ∧ a < zmn M)) ∨ (E = xISE ∧ (0 ≤ a ∧ a < zmn M) ∧ ¬ zV M 3 a.toNat 3 = 0))) 2 12 (zA G) := by
  refine zx_met [(0, .ref (zad G 0 0)), (1, .int (zI a))] (by decide) (Nat.le_of_ble_eq_true rfl) rfl ?_
  intro p e s m below meth c C hT
  have C : zC p s m ([.ref (zad G 0 0), .int (zI a)] : List Value).toArray meth c G RX7 cX7_withdraw 3 (some .int) := C
  have hw9z := hw
  obtain ⟨w1, w2, w3, w4, w5, w6, w7, w8, w9, w10⟩ := hw9z
  refine z_aload_n C 0 dX7_withdraw_0 rfl 0 rfl ?_
  refine z_iload_n C 1 dX7_withdraw_1 rfl 1 rfl ?_
  refine zx_callVr C hT 2 (As := [.int (zI a)]) (rest := []) (c_X7_requireMapping l hfl G M w1.1 a ha) zcl7 (show 0 < 1 by omega) (zc0 ..) (zW_of 1 C wm_7_79 wc_X7_requireMapping wini_7 wi_X7_requireMapping wse_X7_requireMapping ⟨by decide, by decide, by decide⟩ ⟨by decide, by decide⟩) rfl (Nat.le_of_ble_eq_true rfl) ⟨by decide, by decide⟩ dX7_withdraw_2 rfl (by decide) (by decide) (fun E h => Or.inl h) (fun zq1 Mz2 hPz1 => ?_)
  refine zZ_cs (k := 1) (n := 6) (by decide) (by decide) ?_
  obtain ⟨rfl, hPz1⟩ := hPz1
  obtain ⟨rfl, hPz1⟩ := hPz1
  have hn0 := w1.1
  refine z_astore_n (lv' := [(2, .ref (zad G 3 a.toNat)), (0, .ref (zad G 0 0)), (1, .int (zI a))]) C 5 dX7_withdraw_5 rfl (by decide) rfl ?_
  refine z_aload_n C 6 dX7_withdraw_6 rfl 0 rfl ?_
  refine zx_callSv C hT 7 (As := [.ref (zad G 3 a.toNat)]) (rest := []) (c_X7_requireRegistered l hfl G M a.toNat (by omega)) (zS_of 1 C wm_7_83 wc_X7_requireRegistered wini_7 wst_X7_requireRegistered ⟨by decide, by decide, by decide⟩ ⟨by decide, by decide⟩) rfl (Nat.le_of_ble_eq_true rfl) ⟨by decide, by decide⟩ dX7_withdraw_7 rfl (by decide) (by decide) (fun E h => Or.inr ⟨h.1, hPz1, h.2⟩) (fun Mz4 hPz3 => ?_)
  refine zZ_cs (k := 2) (n := 12) (by decide) (by decide) ?_
  obtain ⟨rfl, hPz3⟩ := hPz3
  refine z_aload_n C 10 dX7_withdraw_10 rfl 0 rfl ?_
  refine z_iconst C 11 dX7_withdraw_11 ?_
  refine z_putI C 12 zcl2 (show a.toNat < 24 by omega) (zc3 ..) 3 (by decide) wf_7_87 rfl rfl rfl (Nat.le_of_ble_eq_true rfl) (zc3 ..) dX7_withdraw_12 ?_
  refine z_aload_n C 15 dX7_withdraw_15 rfl 1 rfl ?_
  refine z_aload_n C 16 dX7_withdraw_16 rfl 0 rfl ?_
  refine z_get C 17 zcl2 (show a.toNat < 24 by omega) (zc3 ..) 0 (by decide) rfl wf_7_69 dX7_withdraw_17 ?_
  refine z_callVv C 20 (As := [.ref (zad G 4 a.toNat)]) (rest := []) (c_X7_solicit l G (zup M 3 a.toNat 3 (zI 1)) a.toNat (by omega) (zWs_up (zWC_s hw (by omega)) (by decide))) zcl7 (show 0 < 1 by omega) (zc0 ..) (zW_of 1 C wm_7_75 wc_X7_solicit wini_7 wi_X7_solicit wse_X7_solicit ⟨by decide, by decide, by decide⟩ ⟨by decide, by decide⟩) rfl (Nat.le_of_ble_eq_true rfl) ⟨by decide, by decide⟩ dX7_withdraw_20 rfl (fun Mz6 hPz5 => ?_)
  refine z_aload_n C 23 dX7_withdraw_23 rfl 1 rfl ?_
  refine z_get C 24 zcl7 (show 0 < 1 by omega) (zc0 ..) 0 (by decide) rfl wf_7_12 dX7_withdraw_24 ?_
  refine z_callVi C 27 (As := []) (rest := []) (c_X4_countRegistered l G Mz6 (by rw [zV_of (hPz5.2.2.2 1 0 1 (by omega) (by omega)), zV_ne (by decide)]; exact w1.1)) zcl4 (show 0 < 1 by omega) (zc1 ..) (zW_of 0 C wm_7_91 wc_X4_countRegistered wini_4 wi_X4_countRegistered wse_X4_countRegistered ⟨by decide, by decide, by decide⟩ ⟨by decide, by decide⟩) rfl (Nat.le_of_ble_eq_true rfl) ⟨by decide, by decide⟩ dX7_withdraw_27 rfl (fun zq7 Mz8 hzq7 hPz7 => ?_)
  obtain ⟨rfl, hPz7⟩ := hPz7
  refine zx_iret C 30 dX7_withdraw_30 (by decide) (by decide) hzq7 ?_
  exact ⟨hPz1, hPz3, hPz5, hPz7⟩
set_option maxHeartbeats 4000000 in
set_option maxRecDepth 100000 in
theorem c_X7_addLocator (l : Launch) (hfl : l.stackTraces = false) (G : zG) (M : zMem) (hw : zWC M) (a b pr w : Int) (ha : zrg a) (hb : zrg b) (hp : zrg pr) (hww : zrg w) : vx_Met l yX7_addLocator [.code yX7_addLocator cX7_addLocator 7 (some .int)] (zR 8 6 36) (zPc G M [.ref (zad G 0 0), .int (zI a), .int (zI b), .int (zI pr), .int (zI w)]) (zQi G (fun x M' => (0 ≤ a ∧ a < zmn M) ∧ ((0 ≤ b ∧ b < 32) ∧ (0 ≤ pr ∧ pr ≤ 3) ∧ 1 ≤ w ∧ w ≤ 10) ∧ (zV M 3 a.toNat 3 = 0 ∧ zV M 5 a.toNat 3 < 4 ∧ ¬ zloc M a.toNat b) ∧ x = zw (zV M 3 a.toNat 2 + 1) ∧ zsolk (zver (zadl M a.toNat b pr w) a.toNat) M' a.toNat 3)) (zX G M (fun E => (E = xIOB ∧ ¬ (0 ≤ a ∧ a < zmn M)) ∨ (E = xIAE ∧ (0 ≤ a ∧ a < zmn M) ∧ ¬ ((0 ≤ b ∧ b < 32) ∧ (0 ≤ pr ∧ pr ≤ 3) ∧ 1 ≤ w ∧ w ≤ 10)) ∨ (E = xISE ∧ (0 ≤ a ∧ a < zmn M) ∧ ((0 ≤ b ∧ b < 32) ∧ (0 ≤ pr ∧ pr ≤ 3) ∧ 1 ≤ w ∧ w ≤ 10) ∧ ¬ (zV M 3 a.toNat 3 = 0 ∧ zV M 5 a.toNat 3 < 4 ∧ ¬ zloc M a.toNat b)))) 6 36 (zA G) := by
  refine zx_met [(0, .ref (zad G 0 0)), (1, .int (zI a)), (2, .int (zI b)), (3, .int (zI pr)), (4, .int (zI w))] (by decide) (Nat.le_of_ble_eq_true rfl) rfl ?_
  intro p e s m below meth c C hT
  have C : zC p s m ([.ref (zad G 0 0), .int (zI a), .int (zI b), .int (zI pr), .int (zI w)] : List Value).toArray meth c G RX7 cX7_addLocator 7 (some .int) := C
  have hw9z := hw
  obtain ⟨w1, w2, w3, w4, w5, w6, w7, w8, w9, w10⟩ := hw9z
  refine z_aload_n C 0 dX7_addLocator_0 rfl 0 rfl ?_
  refine z_iload_n C 1 dX7_addLocator_1 rfl 1 rfl ?_
  refine zx_callVr C hT 2 (As := [.int (zI a)]) (rest := []) (c_X7_requireMapping l hfl G M w1.1 a ha) zcl7 (show 0 < 1 by omega) (zc0 ..) (zW_of 1 C wm_7_79 wc_X7_requireMapping wini_7 wi_X7_requireMapping wse_X7_requireMapping ⟨by decide, by decide, by decide⟩ ⟨by decide, by decide⟩) rfl (Nat.le_of_ble_eq_true rfl) ⟨by decide, by decide⟩ dX7_addLocator_2 rfl (by decide) (by decide) (fun E h => Or.inl h) (fun zq1 Mz2 hPz1 => ?_)
  refine zZ_cs (k := 1) (n := 6) (by decide) (by decide) ?_
  obtain ⟨rfl, hPz1⟩ := hPz1
  obtain ⟨rfl, hPz1⟩ := hPz1
  have hn0 := w1.1
  refine z_astore (lv' := [(5, .ref (zad G 3 a.toNat)), (0, .ref (zad G 0 0)), (1, .int (zI a)), (2, .int (zI b)), (3, .int (zI pr)), (4, .int (zI w))]) C 5 dX7_addLocator_5 (by decide) rfl ?_
  refine z_iload_n C 7 dX7_addLocator_7 rfl 3 rfl ?_
  refine zx_callSv C hT 8 (As := [.int (zI b)]) (rest := []) (c_X7_requireAddress l hfl G M b hb) (zS_of 1 C wm_7_95 wc_X7_requireAddress wini_7 wst_X7_requireAddress ⟨by decide, by decide, by decide⟩ ⟨by decide, by decide⟩) rfl (Nat.le_of_ble_eq_true rfl) ⟨by decide, by decide⟩ dX7_addLocator_8 rfl (by decide) (by decide) (fun E h => Or.inr (Or.inl ⟨h.1, hPz1, fun z => h.2 z.1⟩)) (fun Mz4 hPz3 => ?_)
  refine zZ_cs (k := 2) (n := 12) (by decide) (by decide) ?_
  obtain ⟨rfl, hPz3⟩ := hPz3
  refine z_iload_n C 11 dX7_addLocator_11 rfl 4 rfl ?_
  refine z_iconst C 12 dX7_addLocator_12 ?_
  refine z_iconst C 13 dX7_addLocator_13 ?_
  refine zx_callSv C hT 14 (As := [.int (zI pr), .int (zI 0), .int (zI 3)]) (rest := []) (c_X7_requireWithin l hfl G M pr 0 3 hp (by decide) (by decide)) (zS_of 3 C wm_7_99 wc_X7_requireWithin wini_7 wst_X7_requireWithin ⟨by decide, by decide, by decide⟩ ⟨by decide, by decide⟩) rfl (Nat.le_of_ble_eq_true rfl) ⟨by decide, by decide⟩ dX7_addLocator_14 rfl (by decide) (by decide) (fun E h => Or.inr (Or.inl ⟨h.1, hPz1, fun z => h.2 z.2.1⟩)) (fun Mz6 hPz5 => ?_)
  refine zZ_cs (k := 3) (n := 18) (by decide) (by decide) ?_
  obtain ⟨rfl, hPz5⟩ := hPz5
  refine z_iload C 17 dX7_addLocator_17 5 rfl ?_
  refine z_iconst C 19 dX7_addLocator_19 ?_
  refine z_bipush C 20 dX7_addLocator_20 (by decide +kernel) ?_
  refine zx_callSv C hT 22 (As := [.int (zI w), .int (zI 1), .int (zI 10)]) (rest := []) (c_X7_requireWithin l hfl G M w 1 10 hww (by decide) (by decide)) (zS_of 3 C wm_7_99 wc_X7_requireWithin wini_7 wst_X7_requireWithin ⟨by decide, by decide, by decide⟩ ⟨by decide, by decide⟩) rfl (Nat.le_of_ble_eq_true rfl) ⟨by decide, by decide⟩ dX7_addLocator_22 rfl (by decide) (by decide) (fun E h => Or.inr (Or.inl ⟨h.1, hPz1, fun z => h.2 z.2.2⟩)) (fun Mz8 hPz7 => ?_)
  refine zZ_cs (k := 4) (n := 24) (by decide) (by decide) ?_
  obtain ⟨rfl, hPz7⟩ := hPz7
  refine z_aload C 25 dX7_addLocator_25 0 rfl ?_
  refine zx_callSv C hT 27 (As := [.ref (zad G 3 a.toNat)]) (rest := []) (c_X7_requireRegistered l hfl G M a.toNat (by omega)) (zS_of 1 C wm_7_83 wc_X7_requireRegistered wini_7 wst_X7_requireRegistered ⟨by decide, by decide, by decide⟩ ⟨by decide, by decide⟩) rfl (Nat.le_of_ble_eq_true rfl) ⟨by decide, by decide⟩ dX7_addLocator_27 rfl (by decide) (by decide) (fun E h => Or.inr (Or.inr ⟨h.1, hPz1, ⟨hPz3, hPz5, hPz7⟩, fun z => h.2 z.1⟩)) (fun Mz10 hPz9 => ?_)
  refine zZ_cs (k := 5) (n := 30) (by decide) (by decide) ?_
  obtain ⟨rfl, hPz9⟩ := hPz9
  refine z_aload C 30 dX7_addLocator_30 0 rfl ?_
  refine z_get C 32 zcl2 (show a.toNat < 24 by omega) (zc3 ..) 1 (by decide) rfl wf_7_103 dX7_addLocator_32 ?_
  refine z_astore (lv' := [(6, .ref (zad G 5 a.toNat)), (5, .ref (zad G 3 a.toNat)), (0, .ref (zad G 0 0)), (1, .int (zI a)), (2, .int (zI b)), (3, .int (zI pr)), (4, .int (zI w))]) C 35 dX7_addLocator_35 (by decide) rfl ?_
  refine z_aload C 37 dX7_addLocator_37 0 rfl ?_
  refine z_getI C 39 zcl1 (show a.toNat < 24 by omega) (zc5 ..) 3 (by decide) rfl wf_7_107 dX7_addLocator_39 (fun zq11 ezq11 hzq11 => ?_)
  refine z_iconst C 42 dX7_addLocator_42 ?_
  refine z_icmp_ge C 43 56 dX7_addLocator_43 (by decide) hzq11 (by decide) (fun c43_42 => ?_) (fun c43_42 => ?_)
  · have hX : ¬ (zV M 3 a.toNat 3 = 0 ∧ zV M 5 a.toNat 3 < 4 ∧ ¬ zloc M a.toNat b) := fun z => by omega
    refine z_throw C hT hfl 56 zt_ise (List.mem_of_getElem? (i := 5) rfl) dX7_addLocator_56 dX7_addLocator_59 dX7_addLocator_60 dX7_addLocator_62 dX7_addLocator_65 ⟨by decide, by decide, by decide, by decide⟩ ⟨by decide, by decide⟩ ?_
    exact Or.inr (Or.inr ⟨rfl, hPz1, ⟨hPz3, hPz5, hPz7⟩, hX⟩)
  refine z_aload C 46 dX7_addLocator_46 0 rfl ?_
  refine z_iload_n C 48 dX7_addLocator_48 rfl 4 rfl ?_
  refine z_callVi C 49 (As := [.int (zI b)]) (rest := []) (c_X1_placeOf_5 l G M a.toNat (by omega) (w5 _ (by omega)).1 b hb) zcl1 (show a.toNat < 24 by omega) (zc5 ..) (zW_of 1 C wm_7_110 wc_X1_placeOf wini_1 wi_X1_placeOf wse_X1_placeOf ⟨by decide, by decide, by decide⟩ ⟨by decide, by decide⟩) rfl (Nat.le_of_ble_eq_true rfl) ⟨by decide, by decide⟩ dX7_addLocator_49 rfl (fun zq12 Mz13 hzq12 hPz12 => ?_)
  obtain ⟨rfl, hPz12⟩ := hPz12
  refine z_iconst C 52 dX7_addLocator_52 ?_
  refine z_icmp_eq C 53 66 dX7_addLocator_53 (by decide) hzq12 (by decide) (fun c53_51 => ?_) (fun c53_51 => ?_)
  · refine z_aload C 66 dX7_addLocator_66 0 rfl ?_
    refine z_iload_n C 68 dX7_addLocator_68 rfl 4 rfl ?_
    refine z_iload_n C 69 dX7_addLocator_69 rfl 5 rfl ?_
    refine z_iload C 70 dX7_addLocator_70 6 rfl ?_
    refine z_callVv C 72 (As := [.int (zI b), .int (zI pr), .int (zI w)]) (rest := []) (c_X1_add_5 l G M a.toNat (by omega) (by have z1 := (w5 a.toNat (by omega)).1; omega) b pr w) zcl1 (show a.toNat < 24 by omega) (zc5 ..) (zW_of 3 C wm_7_116 wc_X1_add wini_1 wi_X1_add wse_X1_add ⟨by decide, by decide, by decide⟩ ⟨by decide, by decide⟩) rfl (Nat.le_of_ble_eq_true rfl) ⟨by decide, by decide⟩ dX7_addLocator_72 rfl (fun Mz15 hPz14 => ?_)
    refine z_aload_n C 75 dX7_addLocator_75 rfl 2 rfl ?_
    refine z_aload C 76 dX7_addLocator_76 1 rfl ?_
    refine z_callVi C 78 (As := [.ref (zad G 3 a.toNat)]) (rest := []) (c_X7_tellChange l G Mz15 a.toNat (by omega) (by rw [hPz14]; exact zWs_adl (zWC_s hw (by omega)))) zcl7 (show 0 < 1 by omega) (zc0 ..) (zW_of 1 C wm_7_118 wc_X7_tellChange wini_7 wi_X7_tellChange wse_X7_tellChange ⟨by decide, by decide, by decide⟩ ⟨by decide, by decide⟩) rfl (Nat.le_of_ble_eq_true rfl) ⟨by decide, by decide⟩ dX7_addLocator_78 rfl (fun zq16 Mz17 hzq16 hPz16 => ?_)
    refine zx_iret C 81 dX7_addLocator_81 (by decide) (by decide) hzq16 ?_
    have h9 := hPz16
    rw [hPz14] at h9
    refine ⟨hPz1, ⟨hPz3, hPz5, hPz7⟩, ⟨hPz9, by omega, zplace_n hPz12 (by assumption)⟩, ?_, h9.2⟩
    rw [h9.1, zV_ne (by decide), zV_ne (by decide), zV_ne (by decide), zV_ne (by decide)]
  have hX : ¬ (zV M 3 a.toNat 3 = 0 ∧ zV M 5 a.toNat 3 < 4 ∧ ¬ zloc M a.toNat b) := fun z => z.2.2 (zplace_y hPz12 (by assumption)).1
  refine z_throw C hT hfl 56 zt_ise (List.mem_of_getElem? (i := 5) rfl) dX7_addLocator_56 dX7_addLocator_59 dX7_addLocator_60 dX7_addLocator_62 dX7_addLocator_65 ⟨by decide, by decide, by decide, by decide⟩ ⟨by decide, by decide⟩ ?_
  exact Or.inr (Or.inr ⟨rfl, hPz1, ⟨hPz3, hPz5, hPz7⟩, hX⟩)
set_option maxHeartbeats 4000000 in
set_option maxRecDepth 100000 in
theorem c_X7_move (l : Launch) (hfl : l.stackTraces = false) (G : zG) (M : zMem) (hw : zWC M) (a b t : Int) (ha : zrg a) (hb : zrg b) (ht : zrg t) : vx_Met l yX7_move [.code yX7_move cX7_move 6 (some .int)] (zR 8 6 36) (zPc G M [.ref (zad G 0 0), .int (zI a), .int (zI b), .int (zI t)]) (zQi G (fun x M' => (0 ≤ a ∧ a < zmn M) ∧ ((0 ≤ b ∧ b < 32) ∧ 0 ≤ t ∧ t < 32) ∧ (zV M 3 a.toNat 3 = 0 ∧ zloc M a.toNat b ∧ ¬ zloc M a.toNat t) ∧ x = zw (zV M 3 a.toNat 2 + 1) ∧ ∃ pl : Nat, (pl : Int) < zV M 5 a.toNat 3 ∧ zV M 6 a.toNat pl = b ∧ zsolk (zver (zup M 6 a.toNat pl (zI t)) a.toNat) M' a.toNat 3)) (zX G M (fun E => (E = xIOB ∧ ¬ (0 ≤ a ∧ a < zmn M)) ∨ (E = xIAE ∧ (0 ≤ a ∧ a < zmn M) ∧ ¬ ((0 ≤ b ∧ b < 32) ∧ 0 ≤ t ∧ t < 32)) ∨ (E = xISE ∧ (0 ≤ a ∧ a < zmn M) ∧ ((0 ≤ b ∧ b < 32) ∧ 0 ≤ t ∧ t < 32) ∧ ¬ (zV M 3 a.toNat 3 = 0 ∧ zloc M a.toNat b ∧ ¬ zloc M a.toNat t)))) 6 36 (zA G) := by
  refine zx_met [(0, .ref (zad G 0 0)), (1, .int (zI a)), (2, .int (zI b)), (3, .int (zI t))] (by decide) (Nat.le_of_ble_eq_true rfl) rfl ?_
  intro p e s m below meth c C hT
  have C : zC p s m ([.ref (zad G 0 0), .int (zI a), .int (zI b), .int (zI t)] : List Value).toArray meth c G RX7 cX7_move 6 (some .int) := C
  have hw9z := hw
  obtain ⟨w1, w2, w3, w4, w5, w6, w7, w8, w9, w10⟩ := hw9z
  refine z_aload_n C 0 dX7_move_0 rfl 0 rfl ?_
  refine z_iload_n C 1 dX7_move_1 rfl 1 rfl ?_
  refine zx_callVr C hT 2 (As := [.int (zI a)]) (rest := []) (c_X7_requireMapping l hfl G M w1.1 a ha) zcl7 (show 0 < 1 by omega) (zc0 ..) (zW_of 1 C wm_7_79 wc_X7_requireMapping wini_7 wi_X7_requireMapping wse_X7_requireMapping ⟨by decide, by decide, by decide⟩ ⟨by decide, by decide⟩) rfl (Nat.le_of_ble_eq_true rfl) ⟨by decide, by decide⟩ dX7_move_2 rfl (by decide) (by decide) (fun E h => Or.inl h) (fun zq1 Mz2 hPz1 => ?_)
  refine zZ_cs (k := 1) (n := 6) (by decide) (by decide) ?_
  obtain ⟨rfl, hPz1⟩ := hPz1
  obtain ⟨rfl, hPz1⟩ := hPz1
  have hn0 := w1.1
  refine z_astore (lv' := [(4, .ref (zad G 3 a.toNat)), (0, .ref (zad G 0 0)), (1, .int (zI a)), (2, .int (zI b)), (3, .int (zI t))]) C 5 dX7_move_5 (by decide) rfl ?_
  refine z_iload_n C 7 dX7_move_7 rfl 3 rfl ?_
  refine zx_callSv C hT 8 (As := [.int (zI b)]) (rest := []) (c_X7_requireAddress l hfl G M b hb) (zS_of 1 C wm_7_95 wc_X7_requireAddress wini_7 wst_X7_requireAddress ⟨by decide, by decide, by decide⟩ ⟨by decide, by decide⟩) rfl (Nat.le_of_ble_eq_true rfl) ⟨by decide, by decide⟩ dX7_move_8 rfl (by decide) (by decide) (fun E h => Or.inr (Or.inl ⟨h.1, hPz1, fun z => h.2 z.1⟩)) (fun Mz4 hPz3 => ?_)
  refine zZ_cs (k := 2) (n := 12) (by decide) (by decide) ?_
  obtain ⟨rfl, hPz3⟩ := hPz3
  refine z_iload_n C 11 dX7_move_11 rfl 4 rfl ?_
  refine zx_callSv C hT 12 (As := [.int (zI t)]) (rest := []) (c_X7_requireAddress l hfl G M t ht) (zS_of 1 C wm_7_95 wc_X7_requireAddress wini_7 wst_X7_requireAddress ⟨by decide, by decide, by decide⟩ ⟨by decide, by decide⟩) rfl (Nat.le_of_ble_eq_true rfl) ⟨by decide, by decide⟩ dX7_move_12 rfl (by decide) (by decide) (fun E h => Or.inr (Or.inl ⟨h.1, hPz1, fun z => h.2 z.2⟩)) (fun Mz6 hPz5 => ?_)
  refine zZ_cs (k := 3) (n := 18) (by decide) (by decide) ?_
  obtain ⟨rfl, hPz5⟩ := hPz5
  refine z_aload C 15 dX7_move_15 0 rfl ?_
  refine z_iload_n C 17 dX7_move_17 rfl 3 rfl ?_
  refine zx_callSi C hT 18 (As := [.ref (zad G 3 a.toNat), .int (zI b)]) (rest := []) (c_X7_requireLocator l hfl G M a.toNat (by omega) (w5 _ (by omega)).1 b hb) (zS_of 2 C wm_7_122 wc_X7_requireLocator wini_7 wst_X7_requireLocator ⟨by decide, by decide, by decide⟩ ⟨by decide, by decide⟩) rfl (Nat.le_of_ble_eq_true rfl) ⟨by decide, by decide⟩ dX7_move_18 rfl (by decide) (by decide) (fun E h => Or.inr (Or.inr ⟨h.1, hPz1, ⟨hPz3, hPz5⟩, fun z => h.2 ⟨z.1, z.2.1⟩⟩)) (fun zq7 Mz8 hzq7 hPz7 => ?_)
  refine zZ_cs (k := 5) (n := 30) (by decide) (by decide) ?_
  obtain ⟨rfl, hPz7⟩ := hPz7
  have hl9 := (w5 a.toNat (by omega)).1
  refine z_istore (lv' := [(5, .int (zI zq7)), (4, .ref (zad G 3 a.toNat)), (0, .ref (zad G 0 0)), (1, .int (zI a)), (2, .int (zI b)), (3, .int (zI t))]) C 21 dX7_move_21 (by decide) rfl ?_
  refine z_aload C 23 dX7_move_23 1 rfl ?_
  refine z_get C 25 zcl2 (show a.toNat < 24 by omega) (zc3 ..) 1 (by decide) rfl wf_7_103 dX7_move_25 ?_
  refine z_iload_n C 28 dX7_move_28 rfl 5 rfl ?_
  refine z_callVi C 29 (As := [.int (zI t)]) (rest := []) (c_X1_placeOf_5 l G M a.toNat (by omega) (w5 _ (by omega)).1 t ht) zcl1 (show a.toNat < 24 by omega) (zc5 ..) (zW_of 1 C wm_7_110 wc_X1_placeOf wini_1 wi_X1_placeOf wse_X1_placeOf ⟨by decide, by decide, by decide⟩ ⟨by decide, by decide⟩) rfl (Nat.le_of_ble_eq_true rfl) ⟨by decide, by decide⟩ dX7_move_29 rfl (fun zq9 Mz10 hzq9 hPz9 => ?_)
  obtain ⟨rfl, hPz9⟩ := hPz9
  refine z_iconst C 32 dX7_move_32 ?_
  refine z_icmp_eq C 33 46 dX7_move_33 (by decide) hzq9 (by decide) (fun c33_37 => ?_) (fun c33_37 => ?_)
  · refine z_aload C 46 dX7_move_46 1 rfl ?_
    refine z_get C 48 zcl2 (show a.toNat < 24 by omega) (zc3 ..) 1 (by decide) rfl wf_7_103 dX7_move_48 ?_
    refine z_get C 51 zcl1 (show a.toNat < 24 by omega) (zc5 ..) 0 (by decide) rfl wf_7_128 dX7_move_51 ?_
    refine z_iload C 54 dX7_move_54 0 rfl ?_
    refine z_iload_n C 56 dX7_move_56 rfl 5 rfl ?_
    refine z_iast C 57 (show a.toNat < 24 by omega) (zc6 ..) hzq7 (by omega) (show zq7 < ((4 : Nat) : Int) by omega) (zc6 ..) dX7_move_57 ?_
    refine z_aload_n C 58 dX7_move_58 rfl 2 rfl ?_
    refine z_aload C 59 dX7_move_59 1 rfl ?_
    refine z_callVi C 61 (As := [.ref (zad G 3 a.toNat)]) (rest := []) (c_X7_tellChange l G (zup M 6 a.toNat zq7.toNat (zI t)) a.toNat (by omega) (zWs_up (zWC_s hw (by omega)) (by decide))) zcl7 (show 0 < 1 by omega) (zc0 ..) (zW_of 1 C wm_7_118 wc_X7_tellChange wini_7 wi_X7_tellChange wse_X7_tellChange ⟨by decide, by decide, by decide⟩ ⟨by decide, by decide⟩) rfl (Nat.le_of_ble_eq_true rfl) ⟨by decide, by decide⟩ dX7_move_61 rfl (fun zq11 Mz12 hzq11 hPz11 => ?_)
    refine zx_iret C 64 dX7_move_64 (by decide) (by decide) hzq11 ?_
    refine ⟨hPz1, ⟨hPz3, hPz5⟩, ⟨hPz7.1, hPz7.2.1, zplace_n hPz9 (by assumption)⟩, ?_, (zq7).toNat, by omega, hPz7.2.2.2.2, hPz11.2⟩
    rw [hPz11.1, zV_ne (by decide)]
  refine z_throw C hT hfl 36 zt_ise (List.mem_of_getElem? (i := 7) rfl) dX7_move_36 dX7_move_39 dX7_move_40 dX7_move_42 dX7_move_45 ⟨by decide, by decide, by decide, by decide⟩ ⟨by decide, by decide⟩ ?_
  exact Or.inr (Or.inr ⟨rfl, hPz1, ⟨hPz3, hPz5⟩, fun z => z.2.2 (zplace_y hPz9 (by assumption)).1⟩)
set_option maxHeartbeats 4000000 in
set_option maxRecDepth 100000 in
theorem c_X7_removeLocator (l : Launch) (hfl : l.stackTraces = false) (G : zG) (M : zMem) (hw : zWC M) (a b : Int) (ha : zrg a) (hb : zrg b) : vx_Met l yX7_removeLocator [.code yX7_removeLocator cX7_removeLocator 5 (some .int)] (zR 8 4 24) (zPc G M [.ref (zad G 0 0), .int (zI a), .int (zI b)]) (zQi G (fun x M' => (0 ≤ a ∧ a < zmn M) ∧ (0 ≤ b ∧ b < 32) ∧ (zV M 3 a.toNat 3 = 0 ∧ zloc M a.toNat b) ∧ x = zw (zV M 3 a.toNat 2 + 1) ∧ ∃ (pl : Int) (M1 : zMem), 0 ≤ pl ∧ pl < zV M 5 a.toNat 3 ∧ zV M 6 a.toNat pl.toNat = b ∧ zshift M M1 a.toNat pl (zV M 5 a.toNat 3 - 1) (zV M 5 a.toNat 3 - 1) ∧ zsolk (zver M1 a.toNat) M' a.toNat 3)) (zX G M (fun E => (E = xIOB ∧ ¬ (0 ≤ a ∧ a < zmn M)) ∨ (E = xIAE ∧ (0 ≤ a ∧ a < zmn M) ∧ ¬ (0 ≤ b ∧ b < 32)) ∨ (E = xISE ∧ (0 ≤ a ∧ a < zmn M) ∧ (0 ≤ b ∧ b < 32) ∧ ¬ (zV M 3 a.toNat 3 = 0 ∧ zloc M a.toNat b)))) 4 24 (zA G) := by
  refine zx_met [(0, .ref (zad G 0 0)), (1, .int (zI a)), (2, .int (zI b))] (by decide) (Nat.le_of_ble_eq_true rfl) rfl ?_
  intro p e s m below meth c C hT
  have C : zC p s m ([.ref (zad G 0 0), .int (zI a), .int (zI b)] : List Value).toArray meth c G RX7 cX7_removeLocator 5 (some .int) := C
  have hw9z := hw
  obtain ⟨w1, w2, w3, w4, w5, w6, w7, w8, w9, w10⟩ := hw9z
  refine z_aload_n C 0 dX7_removeLocator_0 rfl 0 rfl ?_
  refine z_iload_n C 1 dX7_removeLocator_1 rfl 1 rfl ?_
  refine zx_callVr C hT 2 (As := [.int (zI a)]) (rest := []) (c_X7_requireMapping l hfl G M w1.1 a ha) zcl7 (show 0 < 1 by omega) (zc0 ..) (zW_of 1 C wm_7_79 wc_X7_requireMapping wini_7 wi_X7_requireMapping wse_X7_requireMapping ⟨by decide, by decide, by decide⟩ ⟨by decide, by decide⟩) rfl (Nat.le_of_ble_eq_true rfl) ⟨by decide, by decide⟩ dX7_removeLocator_2 rfl (by decide) (by decide) (fun E h => Or.inl h) (fun zq1 Mz2 hPz1 => ?_)
  refine zZ_cs (k := 1) (n := 6) (by decide) (by decide) ?_
  obtain ⟨rfl, hPz1⟩ := hPz1
  obtain ⟨rfl, hPz1⟩ := hPz1
  have hn0 := w1.1
  refine z_astore_n (lv' := [(3, .ref (zad G 3 a.toNat)), (0, .ref (zad G 0 0)), (1, .int (zI a)), (2, .int (zI b))]) C 5 dX7_removeLocator_5 rfl (by decide) rfl ?_
  refine z_iload_n C 6 dX7_removeLocator_6 rfl 3 rfl ?_
  refine zx_callSv C hT 7 (As := [.int (zI b)]) (rest := []) (c_X7_requireAddress l hfl G M b hb) (zS_of 1 C wm_7_95 wc_X7_requireAddress wini_7 wst_X7_requireAddress ⟨by decide, by decide, by decide⟩ ⟨by decide, by decide⟩) rfl (Nat.le_of_ble_eq_true rfl) ⟨by decide, by decide⟩ dX7_removeLocator_7 rfl (by decide) (by decide) (fun E h => Or.inr (Or.inl ⟨h.1, hPz1, h.2⟩)) (fun Mz4 hPz3 => ?_)
  refine zZ_cs (k := 2) (n := 12) (by decide) (by decide) ?_
  obtain ⟨rfl, hPz3⟩ := hPz3
  refine z_aload_n C 10 dX7_removeLocator_10 rfl 0 rfl ?_
  refine z_iload_n C 11 dX7_removeLocator_11 rfl 3 rfl ?_
  refine zx_callSi C hT 12 (As := [.ref (zad G 3 a.toNat), .int (zI b)]) (rest := []) (c_X7_requireLocator l hfl G M a.toNat (by omega) (w5 _ (by omega)).1 b hb) (zS_of 2 C wm_7_122 wc_X7_requireLocator wini_7 wst_X7_requireLocator ⟨by decide, by decide, by decide⟩ ⟨by decide, by decide⟩) rfl (Nat.le_of_ble_eq_true rfl) ⟨by decide, by decide⟩ dX7_removeLocator_12 rfl (by decide) (by decide) (fun E h => Or.inr (Or.inr ⟨h.1, hPz1, hPz3, h.2⟩)) (fun zq5 Mz6 hzq5 hPz5 => ?_)
  refine zZ_cs (k := 4) (n := 24) (by decide) (by decide) ?_
  obtain ⟨rfl, hPz5⟩ := hPz5
  refine z_istore (lv' := [(4, .int (zI zq5)), (3, .ref (zad G 3 a.toNat)), (0, .ref (zad G 0 0)), (1, .int (zI a)), (2, .int (zI b))]) C 15 dX7_removeLocator_15 (by decide) rfl ?_
  refine z_aload_n C 17 dX7_removeLocator_17 rfl 1 rfl ?_
  refine z_get C 18 zcl2 (show a.toNat < 24 by omega) (zc3 ..) 1 (by decide) rfl wf_7_103 dX7_removeLocator_18 ?_
  refine z_iload C 21 dX7_removeLocator_21 0 rfl ?_
  refine z_callVv C 23 (As := [.int (zI zq5)]) (rest := []) (c_X1_removeAt_5 l G M a.toNat (by omega) (w5 _ (by omega)).1.2 zq5 ⟨hPz5.2.2.1, hPz5.2.2.2.1⟩) zcl1 (show a.toNat < 24 by omega) (zc5 ..) (zW_of 1 C wm_7_132 wc_X1_removeAt wini_1 wi_X1_removeAt wse_X1_removeAt ⟨by decide, by decide, by decide⟩ ⟨by decide, by decide⟩) rfl (Nat.le_of_ble_eq_true rfl) ⟨by decide, by decide⟩ dX7_removeLocator_23 rfl (fun Mz8 hPz7 => ?_)
  refine z_aload_n C 26 dX7_removeLocator_26 rfl 2 rfl ?_
  refine z_aload_n C 27 dX7_removeLocator_27 rfl 1 rfl ?_
  refine z_callVi C 28 (As := [.ref (zad G 3 a.toNat)]) (rest := []) (c_X7_tellChange l G Mz8 a.toNat (by omega) (zWs_congr (zWC_s hw (by omega)) (fun κ i1 j1 h => hPz7.2.2.2.2 κ i1 j1 (by omega)))) zcl7 (show 0 < 1 by omega) (zc0 ..) (zW_of 1 C wm_7_118 wc_X7_tellChange wini_7 wi_X7_tellChange wse_X7_tellChange ⟨by decide, by decide, by decide⟩ ⟨by decide, by decide⟩) rfl (Nat.le_of_ble_eq_true rfl) ⟨by decide, by decide⟩ dX7_removeLocator_28 rfl (fun zq9 Mz10 hzq9 hPz9 => ?_)
  refine zx_iret C 31 dX7_removeLocator_31 (by decide) (by decide) hzq9 ?_
  refine ⟨hPz1, hPz3, ⟨hPz5.1, hPz5.2.1⟩, ?_, zq5, Mz8, hPz5.2.2.1, hPz5.2.2.2.1, hPz5.2.2.2.2, hPz7, hPz9.2⟩
  rw [hPz9.1, zV_of (hPz7.2.2.2.2 3 _ 2 (by omega))]
set_option maxHeartbeats 4000000 in
set_option maxRecDepth 100000 in
theorem c_X7_mappingOf (l : Launch) (hfl : l.stackTraces = false) (G : zG) (M : zMem) (hw : zWC M) (id : Int) (hid : zrg id) : vx_Met l yX7_mappingOf [.code yX7_mappingOf cX7_mappingOf 2 (some .int)] (zR 8 1 6) (zPc G M [.ref (zad G 0 0), .int (zI id)]) (zQi G (fun x M' => M = M' ∧ (0 ≤ id ∧ id < 65536) ∧ zfnd (zmv M) (zml M) (zmg M) (zmn M) id x)) (zX G M (fun E => (E = xIAE ∧ ¬ (0 ≤ id ∧ id < 65536)))) 1 6 (zA G) := by
  refine zx_met [(0, .ref (zad G 0 0)), (1, .int (zI id))] (by decide) (Nat.le_of_ble_eq_true rfl) rfl ?_
  intro p e s m below meth c C hT
  have C : zC p s m ([.ref (zad G 0 0), .int (zI id)] : List Value).toArray meth c G RX7 cX7_mappingOf 2 (some .int) := C
  have hw9z := hw
  obtain ⟨w1, w2, w3, w4, w5, w6, w7, w8, w9, w10⟩ := hw9z
  refine z_iload_n C 0 dX7_mappingOf_0 rfl 1 rfl ?_
  refine zx_callSv C hT 1 (As := [.int (zI id)]) (rest := []) (c_X7_requireIdentifier l hfl G M id hid) (zS_of 1 C wm_7_135 wc_X7_requireIdentifier wini_7 wst_X7_requireIdentifier ⟨by decide, by decide, by decide⟩ ⟨by decide, by decide⟩) rfl (Nat.le_of_ble_eq_true rfl) ⟨by decide, by decide⟩ dX7_mappingOf_1 rfl (by decide) (by decide) (fun E h => h) (fun Mz2 hPz1 => ?_)
  refine zZ_cs (k := 1) (n := 6) (by decide) (by decide) ?_
  obtain ⟨rfl, hPz1⟩ := hPz1
  refine z_aload_n C 4 dX7_mappingOf_4 rfl 0 rfl ?_
  refine z_get C 5 zcl7 (show 0 < 1 by omega) (zc0 ..) 0 (by decide) rfl wf_7_12 dX7_mappingOf_5 ?_
  refine z_iload_n C 8 dX7_mappingOf_8 rfl 1 rfl ?_
  refine z_callVi C 9 (As := [.int (zI id)]) (rest := []) (c_X4_find l G M w1 id hPz1) zcl4 (show 0 < 1 by omega) (zc1 ..) (zW_of 1 C wm_7_138 wc_X4_find wini_4 wi_X4_find wse_X4_find ⟨by decide, by decide, by decide⟩ ⟨by decide, by decide⟩) rfl (Nat.le_of_ble_eq_true rfl) ⟨by decide, by decide⟩ dX7_mappingOf_9 rfl (fun zq3 Mz4 hzq3 hPz3 => ?_)
  obtain ⟨rfl, hPz3⟩ := hPz3
  refine zx_iret C 12 dX7_mappingOf_12 (by decide) (by decide) hzq3 ?_
  exact ⟨rfl, hPz1, hPz3⟩
set_option maxHeartbeats 4000000 in
set_option maxRecDepth 100000 in
theorem c_X7_answerLength (l : Launch) (hfl : l.stackTraces = false) (G : zG) (M : zMem) (hw : zWC M) (id : Int) (hid : zrg id) : vx_Met l yX7_answerLength [.code yX7_answerLength cX7_answerLength 4 (some .int)] (zR 8 1 6) (zPc G M [.ref (zad G 0 0), .int (zI id)]) (zQi G (fun x M' => M = M' ∧ (0 ≤ id ∧ id < 65536) ∧ ∃ mm L : Int, zfnd (zmv M) (zml M) (zmg M) (zmn M) id mm ∧ znar (zmv M) (zml M) (zmg M) (zmn M) id (zown (zml M) mm) L ∧ x = if mm = -1 then L + 17 else L)) (zX G M (fun E => (E = xIAE ∧ ¬ (0 ≤ id ∧ id < 65536)))) 1 6 (zA G) := by
  refine zx_met [(0, .ref (zad G 0 0)), (1, .int (zI id))] (by decide) (Nat.le_of_ble_eq_true rfl) rfl ?_
  intro p e s m below meth c C hT
  have C : zC p s m ([.ref (zad G 0 0), .int (zI id)] : List Value).toArray meth c G RX7 cX7_answerLength 4 (some .int) := C
  have hw9z := hw
  obtain ⟨w1, w2, w3, w4, w5, w6, w7, w8, w9, w10⟩ := hw9z
  refine z_iload_n C 0 dX7_answerLength_0 rfl 1 rfl ?_
  refine zx_callSv C hT 1 (As := [.int (zI id)]) (rest := []) (c_X7_requireIdentifier l hfl G M id hid) (zS_of 1 C wm_7_135 wc_X7_requireIdentifier wini_7 wst_X7_requireIdentifier ⟨by decide, by decide, by decide⟩ ⟨by decide, by decide⟩) rfl (Nat.le_of_ble_eq_true rfl) ⟨by decide, by decide⟩ dX7_answerLength_1 rfl (by decide) (by decide) (fun E h => h) (fun Mz2 hPz1 => ?_)
  refine zZ_cs (k := 1) (n := 6) (by decide) (by decide) ?_
  obtain ⟨rfl, hPz1⟩ := hPz1
  refine z_aload_n C 4 dX7_answerLength_4 rfl 0 rfl ?_
  refine z_get C 5 zcl7 (show 0 < 1 by omega) (zc0 ..) 0 (by decide) rfl wf_7_12 dX7_answerLength_5 ?_
  refine z_iload_n C 8 dX7_answerLength_8 rfl 1 rfl ?_
  refine z_callVi C 9 (As := [.int (zI id)]) (rest := []) (c_X4_find l G M w1 id hPz1) zcl4 (show 0 < 1 by omega) (zc1 ..) (zW_of 1 C wm_7_138 wc_X4_find wini_4 wi_X4_find wse_X4_find ⟨by decide, by decide, by decide⟩ ⟨by decide, by decide⟩) rfl (Nat.le_of_ble_eq_true rfl) ⟨by decide, by decide⟩ dX7_answerLength_9 rfl (fun zq3 Mz4 hzq3 hPz3 => ?_)
  obtain ⟨rfl, hPz3⟩ := hPz3
  refine z_istore_n (lv' := [(2, .int (zI zq3)), (0, .ref (zad G 0 0)), (1, .int (zI id))]) C 12 dX7_answerLength_12 rfl (by decide) rfl ?_
  refine z_aload_n C 13 dX7_answerLength_13 rfl 1 rfl ?_
  refine z_get C 14 zcl7 (show 0 < 1 by omega) (zc0 ..) 0 (by decide) rfl wf_7_12 dX7_answerLength_14 ?_
  refine z_iload_n C 17 dX7_answerLength_17 rfl 2 rfl ?_
  refine z_iload_n C 18 dX7_answerLength_18 rfl 0 rfl ?_
  refine z_callVi C 19 (As := [.int (zI id), .int (zI zq3)]) (rest := []) (c_X4_narrow l G M w1 id zq3 hPz1 (by have z1 := zfnd_rg hPz3; have z2 := w1.1.2; unfold zmn at z1; omega)) zcl4 (show 0 < 1 by omega) (zc1 ..) (zW_of 2 C wm_7_141 wc_X4_narrow wini_4 wi_X4_narrow wse_X4_narrow ⟨by decide, by decide, by decide⟩ ⟨by decide, by decide⟩) rfl (Nat.le_of_ble_eq_true rfl) ⟨by decide, by decide⟩ dX7_answerLength_19 rfl (fun zq5 Mz6 hzq5 hPz5 => ?_)
  obtain ⟨rfl, hPz5⟩ := hPz5
  refine z_istore_n (lv' := [(3, .int (zI zq5)), (2, .int (zI zq3)), (0, .ref (zad G 0 0)), (1, .int (zI id))]) C 22 dX7_answerLength_22 rfl (by decide) rfl ?_
  refine z_iload_n C 23 dX7_answerLength_23 rfl 1 rfl ?_
  refine z_iconst C 24 dX7_answerLength_24 ?_
  refine z_icmp_ne C 25 35 dX7_answerLength_25 (by decide) hzq3 (by decide) (fun c25_27 => ?_) (fun c25_27 => ?_)
  · refine z_iload_n C 35 dX7_answerLength_35 rfl 0 rfl ?_
    refine zx_iret C 36 dX7_answerLength_36 (by decide) (by decide) (by have z1 := hPz5.1; have z2 := hPz5.2.1; omega) ?_
    refine ⟨rfl, hPz1, zq3, zq5, hPz3, hPz5, ?_⟩
    first | rw [if_pos (by assumption)] | rw [if_neg (by assumption)]
  refine z_iload_n C 28 dX7_answerLength_28 rfl 0 rfl ?_
  refine z_bipush C 29 dX7_answerLength_29 (by decide +kernel) ?_
  refine z_iadd C 31 dX7_answerLength_31 ?_
  refine z_goto C 32 36 dX7_answerLength_32 (by decide) ?_
  refine zx_iret C 36 dX7_answerLength_36 (by decide) (by decide) (by have z1 := hPz5.1; have z2 := hPz5.2.1; omega) ?_
  refine ⟨rfl, hPz1, zq3, zq5, hPz3, hPz5, ?_⟩
  first | rw [if_pos (by assumption)] | rw [if_neg (by assumption)]
set_option maxHeartbeats 4000000 in
set_option maxRecDepth 100000 in
theorem c_X7_version (l : Launch) (hfl : l.stackTraces = false) (G : zG) (M : zMem) (hw : zWC M) (a : Int) (ha : zrg a) : vx_Met l yX7_version [.code yX7_version cX7_version 3 (some .int)] (zR 8 1 6) (zPc G M [.ref (zad G 0 0), .int (zI a)]) (zQi G (fun x M' => M = M' ∧ (0 ≤ a ∧ a < zmn M) ∧ x = if zV M 3 a.toNat 3 = 0 then zV M 3 a.toNat 2 else -1)) (zX G M (fun E => (E = xIOB ∧ ¬ (0 ≤ a ∧ a < zmn M)))) 1 6 (zA G) := by
  refine zx_met [(0, .ref (zad G 0 0)), (1, .int (zI a))] (by decide) (Nat.le_of_ble_eq_true rfl) rfl ?_
  intro p e s m below meth c C hT
  have C : zC p s m ([.ref (zad G 0 0), .int (zI a)] : List Value).toArray meth c G RX7 cX7_version 3 (some .int) := C
  have hw9z := hw
  obtain ⟨w1, w2, w3, w4, w5, w6, w7, w8, w9, w10⟩ := hw9z
  refine z_aload_n C 0 dX7_version_0 rfl 0 rfl ?_
  refine z_iload_n C 1 dX7_version_1 rfl 1 rfl ?_
  refine zx_callVr C hT 2 (As := [.int (zI a)]) (rest := []) (c_X7_requireMapping l hfl G M w1.1 a ha) zcl7 (show 0 < 1 by omega) (zc0 ..) (zW_of 1 C wm_7_79 wc_X7_requireMapping wini_7 wi_X7_requireMapping wse_X7_requireMapping ⟨by decide, by decide, by decide⟩ ⟨by decide, by decide⟩) rfl (Nat.le_of_ble_eq_true rfl) ⟨by decide, by decide⟩ dX7_version_2 rfl (by decide) (by decide) (fun E h => h) (fun zq1 Mz2 hPz1 => ?_)
  refine zZ_cs (k := 1) (n := 6) (by decide) (by decide) ?_
  obtain ⟨rfl, hPz1⟩ := hPz1
  obtain ⟨rfl, hPz1⟩ := hPz1
  have hn0 := w1.1
  refine z_astore_n (lv' := [(2, .ref (zad G 3 a.toNat)), (0, .ref (zad G 0 0)), (1, .int (zI a))]) C 5 dX7_version_5 rfl (by decide) rfl ?_
  refine z_aload_n C 6 dX7_version_6 rfl 0 rfl ?_
  refine z_getI C 7 zcl2 (show a.toNat < 24 by omega) (zc3 ..) 3 (by decide) rfl wf_7_87 dX7_version_7 (fun zq3 ezq3 hzq3 => ?_)
  refine z_if_eq C 10 17 dX7_version_10 (by decide) hzq3 (fun c10_18 => ?_) (fun c10_18 => ?_)
  · refine z_aload_n C 17 dX7_version_17 rfl 0 rfl ?_
    refine z_getI C 18 zcl2 (show a.toNat < 24 by omega) (zc3 ..) 2 (by decide) rfl wf_7_144 dX7_version_18 (fun zq4 ezq4 hzq4 => ?_)
    refine zx_iret C 21 dX7_version_21 (by decide) (by decide) hzq4 ?_
    refine ⟨rfl, hPz1, ?_⟩
    first | rw [if_pos (by omega)] | rw [if_neg (by omega)]
    first | done | omega
  refine z_iconst C 13 dX7_version_13 ?_
  refine z_goto C 14 21 dX7_version_14 (by decide) ?_
  refine zx_iret C 21 dX7_version_21 (by decide) (by decide) (by decide) ?_
  refine ⟨rfl, hPz1, ?_⟩
  first | rw [if_pos (by omega)] | rw [if_neg (by omega)]
  first | done | omega
set_option maxHeartbeats 4000000 in
set_option maxRecDepth 100000 in
theorem c_X7_delegate (l : Launch) (hfl : l.stackTraces = false) (G : zG) (M : zMem) (hw : zWC M) (v b t : Int) (hv : zrg v) (hb : zrg b) (ht : zrg t) : vx_Met l yX7_delegate [.code yX7_delegate cX7_delegate 5 (some .int)] (zR 9 5 30) (zPc G M [.ref (zad G 0 0), .int (zI v), .int (zI b), .int (zI t)]) (zQi G (fun x M' => (0 ≤ t ∧ t < 4) ∧ zvp v b ∧ ((∃ i : Nat, (i : Int) < zdn M ∧ zdv M i = v ∧ zdl M i = b ∧ x = zdn M ∧ M' = zup M 13 0 i (zI t)) ∨ ((∀ i : Nat, (i : Int) < zdn M → ¬ (zdv M i = v ∧ zdl M i = b)) ∧ zdn M < 12 ∧ x = zdn M + 1 ∧ M' = zdel M v b t)))) (zX G M (fun E => (E = xIOB ∧ ¬ (0 ≤ t ∧ t < 4)) ∨ (E = xIAE ∧ (0 ≤ t ∧ t < 4) ∧ ¬ zvp v b) ∨ (E = xISE ∧ (0 ≤ t ∧ t < 4) ∧ zvp v b ∧ (∀ i : Nat, (i : Int) < zdn M → ¬ (zdv M i = v ∧ zdl M i = b)) ∧ 12 ≤ zdn M))) 5 30 (zA G) := by
  refine zx_met [(0, .ref (zad G 0 0)), (1, .int (zI v)), (2, .int (zI b)), (3, .int (zI t))] (by decide) (Nat.le_of_ble_eq_true rfl) rfl ?_
  intro p e s m below meth c C hT
  have C : zC p s m ([.ref (zad G 0 0), .int (zI v), .int (zI b), .int (zI t)] : List Value).toArray meth c G RX7 cX7_delegate 5 (some .int) := C
  have hw9z := hw
  obtain ⟨w1, w2, w3, w4, w5, w6, w7, w8, w9, w10⟩ := hw9z
  refine z_iload_n C 0 dX7_delegate_0 rfl 3 rfl ?_
  refine z_iconst C 1 dX7_delegate_1 ?_
  refine zx_callSv C hT 2 (As := [.int (zI t), .int (zI 4)]) (rest := []) (c_X7_requireIndex l hfl G M t 4 ht (by decide)) (zS_of 2 C wm_7_147 wc_X7_requireIndex wini_7 wst_X7_requireIndex ⟨by decide, by decide, by decide⟩ ⟨by decide, by decide⟩) rfl (Nat.le_of_ble_eq_true rfl) ⟨by decide, by decide⟩ dX7_delegate_2 rfl (by decide) (by decide) (fun E h => Or.inl h) (fun Mz2 hPz1 => ?_)
  refine zZ_cs (k := 1) (n := 6) (by decide) (by decide) ?_
  obtain ⟨rfl, hPz1⟩ := hPz1
  refine z_iload_n C 5 dX7_delegate_5 rfl 1 rfl ?_
  refine z_iload_n C 6 dX7_delegate_6 rfl 2 rfl ?_
  refine zx_callSv C hT 7 (As := [.int (zI v), .int (zI b)]) (rest := []) (c_X7_requirePrefix l hfl G M v b hv hb) (zS_of 2 C wm_7_43 wc_X7_requirePrefix wini_7 wst_X7_requirePrefix ⟨by decide, by decide, by decide⟩ ⟨by decide, by decide⟩) rfl (Nat.le_of_ble_eq_true rfl) ⟨by decide, by decide⟩ dX7_delegate_7 rfl (by decide) (by decide) (fun E h => Or.inr (Or.inl ⟨h.1, hPz1, h.2⟩)) (fun Mz4 hPz3 => ?_)
  refine zZ_cs (k := 4) (n := 24) (by decide) (by decide) ?_
  obtain ⟨rfl, hPz3⟩ := hPz3
  refine z_aload_n C 10 dX7_delegate_10 rfl 0 rfl ?_
  refine z_get C 11 zcl7 (show 0 < 1 by omega) (zc0 ..) 1 (by decide) rfl wf_7_19 dX7_delegate_11 ?_
  refine z_iload_n C 14 dX7_delegate_14 rfl 1 rfl ?_
  refine z_iload_n C 15 dX7_delegate_15 rfl 2 rfl ?_
  refine z_callVi C 16 (As := [.int (zI v), .int (zI b)]) (rest := []) (c_X6_placeOf l G M w2 v b hv hb) zcl6 (show 0 < 1 by omega) (zc9 ..) (zW_of 2 C wm_7_150 wc_X6_placeOf wini_6 wi_X6_placeOf wse_X6_placeOf ⟨by decide, by decide, by decide⟩ ⟨by decide, by decide⟩) rfl (Nat.le_of_ble_eq_true rfl) ⟨by decide, by decide⟩ dX7_delegate_16 rfl (fun zq5 Mz6 hzq5 hPz5 => ?_)
  obtain ⟨rfl, hPz5⟩ := hPz5
  have hdn9 : zdn M = zV M 9 0 4 := rfl
  have hd12 := w2.1
  refine z_istore (lv' := [(4, .int (zI zq5)), (0, .ref (zad G 0 0)), (1, .int (zI v)), (2, .int (zI b)), (3, .int (zI t))]) C 19 dX7_delegate_19 (by decide) rfl ?_
  refine z_iload C 21 dX7_delegate_21 0 rfl ?_
  refine z_iconst C 23 dX7_delegate_23 ?_
  refine z_icmp_ne C 24 49 dX7_delegate_24 (by decide) hzq5 (by decide) (fun c24_29 => ?_) (fun c24_29 => ?_)
  · obtain ⟨z1, z2⟩ | ⟨i9, z1, z2, z3, z4⟩ := hPz5
    · exact absurd z1 (by omega)
    refine z_iload C 49 dX7_delegate_49 0 rfl ?_
    refine z_iconst C 51 dX7_delegate_51 ?_
    refine z_icmp_ne C 52 68 dX7_delegate_52 (by decide) hzq5 (by decide) (fun c52_35 => ?_) (fun c52_35 => ?_)
    rotate_left
    · exact absurd c52_35 (by omega)
    refine z_aload_n C 68 dX7_delegate_68 rfl 1 rfl ?_
    refine z_get C 69 zcl7 (show 0 < 1 by omega) (zc0 ..) 1 (by decide) rfl wf_7_19 dX7_delegate_69 ?_
    refine z_get C 72 zcl6 (show 0 < 1 by omega) (zc9 ..) 3 (by decide) rfl wf_7_156 dX7_delegate_72 ?_
    refine z_iload C 75 dX7_delegate_75 0 rfl ?_
    refine z_iload_n C 77 dX7_delegate_77 rfl 4 rfl ?_
    refine z_iast C 78 (show 0 < 1 by omega) (zc13 ..) hzq5 (by omega) (show zq5 < ((12 : Nat) : Int) by omega) (zc13 ..) dX7_delegate_78 ?_
    refine z_aload_n C 79 dX7_delegate_79 rfl 1 rfl ?_
    refine z_get C 80 zcl7 (show 0 < 1 by omega) (zc0 ..) 1 (by decide) rfl wf_7_19 dX7_delegate_80 ?_
    refine z_getI C 83 zcl6 (show 0 < 1 by omega) (zc9 ..) 4 (by decide) rfl wf_7_152 dX7_delegate_83 (fun zq7 ezq7 hzq7 => ?_)
    rw [zV_ne (by decide)] at ezq7
    refine zx_iret C 86 dX7_delegate_86 (by decide) (by decide) hzq7 ?_
    refine ⟨hPz1, hPz3, Or.inl ⟨i9, z2, z3, z4, by omega, ?_⟩⟩
    rw [show (zq5).toNat = i9 by omega]
  obtain ⟨z1, z2⟩ | ⟨i9, z1, z3⟩ := hPz5
  rotate_left
  · exact absurd z1 (by omega)
  refine z_aload_n C 27 dX7_delegate_27 rfl 1 rfl ?_
  refine z_get C 28 zcl7 (show 0 < 1 by omega) (zc0 ..) 1 (by decide) rfl wf_7_19 dX7_delegate_28 ?_
  refine z_getI C 31 zcl6 (show 0 < 1 by omega) (zc9 ..) 4 (by decide) rfl wf_7_152 dX7_delegate_31 (fun zq8 ezq8 hzq8 => ?_)
  refine z_bipush C 34 dX7_delegate_34 (by decide +kernel) ?_
  refine z_icmp_lt C 36 49 dX7_delegate_36 (by decide) hzq8 (by decide) (fun c36_57 => ?_) (fun c36_57 => ?_)
  · refine z_iload C 49 dX7_delegate_49 0 rfl ?_
    refine z_iconst C 51 dX7_delegate_51 ?_
    refine z_icmp_ne C 52 68 dX7_delegate_52 (by decide) hzq5 (by decide) (fun c52_61 => ?_) (fun c52_61 => ?_)
    · exact absurd z1 c52_61
    refine z_aload_n C 55 dX7_delegate_55 rfl 1 rfl ?_
    refine z_get C 56 zcl7 (show 0 < 1 by omega) (zc0 ..) 1 (by decide) rfl wf_7_19 dX7_delegate_56 ?_
    refine z_iload_n C 59 dX7_delegate_59 rfl 2 rfl ?_
    refine z_iload_n C 60 dX7_delegate_60 rfl 3 rfl ?_
    refine z_iload_n C 61 dX7_delegate_61 rfl 4 rfl ?_
    refine z_callVv C 62 (As := [.int (zI v), .int (zI b), .int (zI t)]) (rest := []) (c_X6_add l G M ⟨w2.1.1, by omega⟩ v b t) zcl6 (show 0 < 1 by omega) (zc9 ..) (zW_of 3 C wm_7_155 wc_X6_add wini_6 wi_X6_add wse_X6_add ⟨by decide, by decide, by decide⟩ ⟨by decide, by decide⟩) rfl (Nat.le_of_ble_eq_true rfl) ⟨by decide, by decide⟩ dX7_delegate_62 rfl (fun Mz10 hPz9 => ?_)
    refine z_goto C 65 79 dX7_delegate_65 (by decide) ?_
    refine z_aload_n C 79 dX7_delegate_79 rfl 1 rfl ?_
    refine z_get C 80 zcl7 (show 0 < 1 by omega) (zc0 ..) 1 (by decide) rfl wf_7_19 dX7_delegate_80 ?_
    refine z_getI C 83 zcl6 (show 0 < 1 by omega) (zc9 ..) 4 (by decide) rfl wf_7_152 dX7_delegate_83 (fun zq11 ezq11 hzq11 => ?_)
    refine zx_iret C 86 dX7_delegate_86 (by decide) (by decide) hzq11 ?_
    refine ⟨hPz1, hPz3, Or.inr ⟨z2, by omega, ?_, hPz9⟩⟩
    rw [ezq11, hPz9, zV_eq (by omega)]; rfl
  refine z_throw C hT hfl 39 zt_ise (List.mem_of_getElem? (i := 8) rfl) dX7_delegate_39 dX7_delegate_42 dX7_delegate_43 dX7_delegate_45 dX7_delegate_48 ⟨by decide, by decide, by decide, by decide⟩ ⟨by decide, by decide⟩ ?_
  exact Or.inr (Or.inr ⟨rfl, hPz1, hPz3, z2, by omega⟩)
set_option maxHeartbeats 4000000 in
set_option maxRecDepth 100000 in
theorem c_X7_setUp (l : Launch) (hfl : l.stackTraces = false) (G : zG) (M : zMem) (hw : zWC M) (t u : Int) (ht : zrg t) (hu : u = 0 ∨ u = 1) : vx_Met l yX7_setUp [.code yX7_setUp cX7_setUp 4 (some .boolean)] (zR 8 1 6) (zPc G M [.ref (zad G 0 0), .int (zI t), .int (zI u)]) (zQi G (fun x M' => (0 ≤ t ∧ t < 4) ∧ x = (if zV M 10 0 t.toNat = 0 then 1 else 0) ∧ M' = zup M 10 0 t.toNat (zI (if u = 0 then 1 else 0)))) (zX G M (fun E => (E = xIOB ∧ ¬ (0 ≤ t ∧ t < 4)))) 1 6 (zA G) := by
  refine zx_met [(0, .ref (zad G 0 0)), (1, .int (zI t)), (2, .int (zI u))] (by decide) (Nat.le_of_ble_eq_true rfl) rfl ?_
  intro p e s m below meth c C hT
  have C : zC p s m ([.ref (zad G 0 0), .int (zI t), .int (zI u)] : List Value).toArray meth c G RX7 cX7_setUp 4 (some .boolean) := C
  have hw9z := hw
  obtain ⟨w1, w2, w3, w4, w5, w6, w7, w8, w9, w10⟩ := hw9z
  refine z_iload_n C 0 dX7_setUp_0 rfl 1 rfl ?_
  refine z_iconst C 1 dX7_setUp_1 ?_
  refine zx_callSv C hT 2 (As := [.int (zI t), .int (zI 4)]) (rest := []) (c_X7_requireIndex l hfl G M t 4 ht (by decide)) (zS_of 2 C wm_7_147 wc_X7_requireIndex wini_7 wst_X7_requireIndex ⟨by decide, by decide, by decide⟩ ⟨by decide, by decide⟩) rfl (Nat.le_of_ble_eq_true rfl) ⟨by decide, by decide⟩ dX7_setUp_2 rfl (by decide) (by decide) (fun E h => h) (fun Mz2 hPz1 => ?_)
  refine zZ_cs (k := 1) (n := 6) (by decide) (by decide) ?_
  obtain ⟨rfl, hPz1⟩ := hPz1
  refine z_aload_n C 5 dX7_setUp_5 rfl 0 rfl ?_
  refine z_get C 6 zcl7 (show 0 < 1 by omega) (zc0 ..) 1 (by decide) rfl wf_7_19 dX7_setUp_6 ?_
  refine z_get C 9 zcl6 (show 0 < 1 by omega) (zc9 ..) 0 (by decide) rfl wf_7_159 dX7_setUp_9 ?_
  refine z_iload_n C 12 dX7_setUp_12 rfl 1 rfl ?_
  refine z_zald C 13 (show 0 < 1 by omega) (zc10 ..) (by first | assumption | omega) (by omega) (show t < ((4 : Nat) : Int) by omega) dX7_setUp_13 (fun zq3 ezq3 hzq3 => ?_)
  refine z_if_ne C 14 21 dX7_setUp_14 (by decide) hzq3 (fun c14_18 => ?_) (fun c14_18 => ?_)
  · refine z_iconst C 21 dX7_setUp_21 ?_
    refine z_istore_n (lv' := [(3, .int (zI 0)), (0, .ref (zad G 0 0)), (1, .int (zI t)), (2, .int (zI u))]) C 22 dX7_setUp_22 rfl (by decide) rfl ?_
    refine z_aload_n C 23 dX7_setUp_23 rfl 1 rfl ?_
    refine z_get C 24 zcl7 (show 0 < 1 by omega) (zc0 ..) 1 (by decide) rfl wf_7_19 dX7_setUp_24 ?_
    refine z_get C 27 zcl6 (show 0 < 1 by omega) (zc9 ..) 0 (by decide) rfl wf_7_159 dX7_setUp_27 ?_
    refine z_iload_n C 30 dX7_setUp_30 rfl 2 rfl ?_
    refine z_iload_n C 31 dX7_setUp_31 rfl 3 rfl ?_
    refine z_if_ne C 32 39 dX7_setUp_32 (by decide) (by first | assumption | omega) (fun c32_27 => ?_) (fun c32_27 => ?_)
    · refine z_iconst C 39 dX7_setUp_39 ?_
      refine z_zast C 40 (show 0 < 1 by omega) (zc10 ..) (by first | assumption | omega) (by omega) (show t < ((4 : Nat) : Int) by omega) (by first | assumption | omega) (zc10 ..) dX7_setUp_40 ?_
      refine z_iload_n C 41 dX7_setUp_41 rfl 0 rfl ?_
      refine zx_zret C 42 dX7_setUp_42 (by decide) (by decide) (by decide) ?_
      refine ⟨hPz1, ?_, ?_⟩
      · first | rw [if_pos (by omega)] | rw [if_neg (by omega)]
      · first | rw [if_pos (by omega)] | rw [if_neg (by omega)]
    refine z_iconst C 35 dX7_setUp_35 ?_
    refine z_goto C 36 40 dX7_setUp_36 (by decide) ?_
    refine z_zast C 40 (show 0 < 1 by omega) (zc10 ..) (by first | assumption | omega) (by omega) (show t < ((4 : Nat) : Int) by omega) (by first | assumption | omega) (zc10 ..) dX7_setUp_40 ?_
    refine z_iload_n C 41 dX7_setUp_41 rfl 0 rfl ?_
    refine zx_zret C 42 dX7_setUp_42 (by decide) (by decide) (by decide) ?_
    refine ⟨hPz1, ?_, ?_⟩
    · first | rw [if_pos (by omega)] | rw [if_neg (by omega)]
    · first | rw [if_pos (by omega)] | rw [if_neg (by omega)]
  refine z_iconst C 17 dX7_setUp_17 ?_
  refine z_goto C 18 22 dX7_setUp_18 (by decide) ?_
  refine z_istore_n (lv' := [(3, .int (zI 1)), (0, .ref (zad G 0 0)), (1, .int (zI t)), (2, .int (zI u))]) C 22 dX7_setUp_22 rfl (by decide) rfl ?_
  refine z_aload_n C 23 dX7_setUp_23 rfl 1 rfl ?_
  refine z_get C 24 zcl7 (show 0 < 1 by omega) (zc0 ..) 1 (by decide) rfl wf_7_19 dX7_setUp_24 ?_
  refine z_get C 27 zcl6 (show 0 < 1 by omega) (zc9 ..) 0 (by decide) rfl wf_7_159 dX7_setUp_27 ?_
  refine z_iload_n C 30 dX7_setUp_30 rfl 2 rfl ?_
  refine z_iload_n C 31 dX7_setUp_31 rfl 3 rfl ?_
  refine z_if_ne C 32 39 dX7_setUp_32 (by decide) (by first | assumption | omega) (fun c32_50 => ?_) (fun c32_50 => ?_)
  · refine z_iconst C 39 dX7_setUp_39 ?_
    refine z_zast C 40 (show 0 < 1 by omega) (zc10 ..) (by first | assumption | omega) (by omega) (show t < ((4 : Nat) : Int) by omega) (by first | assumption | omega) (zc10 ..) dX7_setUp_40 ?_
    refine z_iload_n C 41 dX7_setUp_41 rfl 0 rfl ?_
    refine zx_zret C 42 dX7_setUp_42 (by decide) (by decide) (by decide) ?_
    refine ⟨hPz1, ?_, ?_⟩
    · first | rw [if_pos (by omega)] | rw [if_neg (by omega)]
    · first | rw [if_pos (by omega)] | rw [if_neg (by omega)]
  refine z_iconst C 35 dX7_setUp_35 ?_
  refine z_goto C 36 40 dX7_setUp_36 (by decide) ?_
  refine z_zast C 40 (show 0 < 1 by omega) (zc10 ..) (by first | assumption | omega) (by omega) (show t < ((4 : Nat) : Int) by omega) (by first | assumption | omega) (zc10 ..) dX7_setUp_40 ?_
  refine z_iload_n C 41 dX7_setUp_41 rfl 0 rfl ?_
  refine zx_zret C 42 dX7_setUp_42 (by decide) (by decide) (by decide) ?_
  refine ⟨hPz1, ?_, ?_⟩
  · first | rw [if_pos (by omega)] | rw [if_neg (by omega)]
  · first | rw [if_pos (by omega)] | rw [if_neg (by omega)]
set_option maxHeartbeats 4000000 in
set_option maxRecDepth 100000 in
theorem c_X7_serverOf (l : Launch) (hfl : l.stackTraces = false) (G : zG) (M : zMem) (hw : zWC M) (id : Int) (hid : zrg id) : vx_Met l yX7_serverOf [.code yX7_serverOf cX7_serverOf 2 (some .int)] (zR 8 1 6) (zPc G M [.ref (zad G 0 0), .int (zI id)]) (zQi G (fun x M' => M = M' ∧ (0 ≤ id ∧ id < 65536) ∧ ∃ y : Int, zfnd (zdv M) (zdl M) z0 (zdn M) id y ∧ x = zsv (zdt M) y)) (zX G M (fun E => (E = xIAE ∧ ¬ (0 ≤ id ∧ id < 65536)))) 1 6 (zA G) := by
  refine zx_met [(0, .ref (zad G 0 0)), (1, .int (zI id))] (by decide) (Nat.le_of_ble_eq_true rfl) rfl ?_
  intro p e s m below meth c C hT
  have C : zC p s m ([.ref (zad G 0 0), .int (zI id)] : List Value).toArray meth c G RX7 cX7_serverOf 2 (some .int) := C
  have hw9z := hw
  obtain ⟨w1, w2, w3, w4, w5, w6, w7, w8, w9, w10⟩ := hw9z
  refine z_iload_n C 0 dX7_serverOf_0 rfl 1 rfl ?_
  refine zx_callSv C hT 1 (As := [.int (zI id)]) (rest := []) (c_X7_requireIdentifier l hfl G M id hid) (zS_of 1 C wm_7_135 wc_X7_requireIdentifier wini_7 wst_X7_requireIdentifier ⟨by decide, by decide, by decide⟩ ⟨by decide, by decide⟩) rfl (Nat.le_of_ble_eq_true rfl) ⟨by decide, by decide⟩ dX7_serverOf_1 rfl (by decide) (by decide) (fun E h => h) (fun Mz2 hPz1 => ?_)
  refine zZ_cs (k := 1) (n := 6) (by decide) (by decide) ?_
  obtain ⟨rfl, hPz1⟩ := hPz1
  refine z_aload_n C 4 dX7_serverOf_4 rfl 0 rfl ?_
  refine z_get C 5 zcl7 (show 0 < 1 by omega) (zc0 ..) 1 (by decide) rfl wf_7_19 dX7_serverOf_5 ?_
  refine z_iload_n C 8 dX7_serverOf_8 rfl 1 rfl ?_
  refine z_callVi C 9 (As := [.int (zI id)]) (rest := []) (c_X6_find l G M w2 id hPz1) zcl6 (show 0 < 1 by omega) (zc9 ..) (zW_of 1 C wm_7_163 wc_X6_find wini_6 wi_X6_find wse_X6_find ⟨by decide, by decide, by decide⟩ ⟨by decide, by decide⟩) rfl (Nat.le_of_ble_eq_true rfl) ⟨by decide, by decide⟩ dX7_serverOf_9 rfl (fun zq3 Mz4 hzq3 hPz3 => ?_)
  obtain ⟨rfl, hPz3⟩ := hPz3
  refine zx_iret C 12 dX7_serverOf_12 (by decide) (by decide) hzq3 ?_
  exact ⟨rfl, hPz1, hPz3⟩
set_option maxHeartbeats 4000000 in
set_option maxRecDepth 100000 in
theorem c_X7_answers (l : Launch) (hfl : l.stackTraces = false) (G : zG) (M : zMem) (hw : zWC M) (t : Int) (ht : zrg t) : vx_Met l yX7_answers [.code yX7_answers cX7_answers 2 (some .int)] (zR 8 1 6) (zPc G M [.ref (zad G 0 0), .int (zI t)]) (zQi G (fun x M' => M = M' ∧ (0 ≤ t ∧ t < 4) ∧ x = zV M 11 0 t.toNat)) (zX G M (fun E => (E = xIOB ∧ ¬ (0 ≤ t ∧ t < 4)))) 1 6 (zA G) := by
  refine zx_met [(0, .ref (zad G 0 0)), (1, .int (zI t))] (by decide) (Nat.le_of_ble_eq_true rfl) rfl ?_
  intro p e s m below meth c C hT
  have C : zC p s m ([.ref (zad G 0 0), .int (zI t)] : List Value).toArray meth c G RX7 cX7_answers 2 (some .int) := C
  refine z_iload_n C 0 dX7_answers_0 rfl 1 rfl ?_
  refine z_iconst C 1 dX7_answers_1 ?_
  refine zx_callSv C hT 2 (As := [.int (zI t), .int (zI 4)]) (rest := []) (c_X7_requireIndex l hfl G M t 4 ht (by decide)) (zS_of 2 C wm_7_147 wc_X7_requireIndex wini_7 wst_X7_requireIndex ⟨by decide, by decide, by decide⟩ ⟨by decide, by decide⟩) rfl (Nat.le_of_ble_eq_true rfl) ⟨by decide, by decide⟩ dX7_answers_2 rfl (by decide) (by decide) (fun E h => h) (fun Mz2 hPz1 => ?_)
  refine zZ_cs (k := 1) (n := 6) (by decide) (by decide) ?_
  obtain ⟨rfl, hPz1⟩ := hPz1
  refine z_aload_n C 5 dX7_answers_5 rfl 0 rfl ?_
  refine z_get C 6 zcl7 (show 0 < 1 by omega) (zc0 ..) 1 (by decide) rfl wf_7_19 dX7_answers_6 ?_
  refine z_get C 9 zcl6 (show 0 < 1 by omega) (zc9 ..) 1 (by decide) rfl wf_7_164 dX7_answers_9 ?_
  refine z_iload_n C 12 dX7_answers_12 rfl 1 rfl ?_
  refine z_iald C 13 (show 0 < 1 by omega) (zc11 ..) (by first | assumption | omega) (by omega) (show t < ((4 : Nat) : Int) by omega) dX7_answers_13 (fun zq3 ezq3 hzq3 => ?_)
  refine zx_iret C 14 dX7_answers_14 (by decide) (by decide) hzq3 ?_
  exact ⟨rfl, hPz1, ezq3⟩
set_option maxHeartbeats 4000000 in
set_option maxRecDepth 100000 in
theorem c_X7_send (l : Launch) (hfl : l.stackTraces = false) (G : zG) (M : zMem) (hw : zWC M) (a id : Int) (ha : zrg a) (hid : zrg id) : vx_Met l yX7_send [.code yX7_send cX7_send 6 (some .int)] (zR 8 2 12) (zPc G M [.ref (zad G 0 0), .int (zI a), .int (zI id)]) (zQi G (fun x M' => (0 ≤ a ∧ a < 3) ∧ (0 ≤ id ∧ id < 65536) ∧ zsnt M M' a.toNat id x)) (zX G M (fun E => (E = xIOB ∧ ¬ (0 ≤ a ∧ a < 3)) ∨ (E = xIAE ∧ (0 ≤ a ∧ a < 3) ∧ ¬ (0 ≤ id ∧ id < 65536)))) 2 12 (zA G) := by
  refine zx_met [(0, .ref (zad G 0 0)), (1, .int (zI a)), (2, .int (zI id))] (by decide) (Nat.le_of_ble_eq_true rfl) rfl ?_
  intro p e s m below meth c C hT
  have C : zC p s m ([.ref (zad G 0 0), .int (zI a), .int (zI id)] : List Value).toArray meth c G RX7 cX7_send 6 (some .int) := C
  have hw9z := hw
  obtain ⟨w1, w2, w3, w4, w5, w6, w7, w8, w9, w10⟩ := hw9z
  refine z_aload_n C 0 dX7_send_0 rfl 0 rfl ?_
  refine z_iload_n C 1 dX7_send_1 rfl 1 rfl ?_
  refine zx_callVr C hT 2 (As := [.int (zI a)]) (rest := []) (c_X7_requireRouter l hfl G M a ha) zcl7 (show 0 < 1 by omega) (zc0 ..) (zW_of 1 C wm_7_167 wc_X7_requireRouter wini_7 wi_X7_requireRouter wse_X7_requireRouter ⟨by decide, by decide, by decide⟩ ⟨by decide, by decide⟩) rfl (Nat.le_of_ble_eq_true rfl) ⟨by decide, by decide⟩ dX7_send_2 rfl (by decide) (by decide) (fun E h => Or.inl h) (fun zq1 Mz2 hPz1 => ?_)
  refine zZ_cs (k := 1) (n := 6) (by decide) (by decide) ?_
  obtain ⟨rfl, hPz1⟩ := hPz1
  obtain ⟨rfl, hPz1⟩ := hPz1
  have hr9 := w4 a.toNat (by omega)
  refine z_astore_n (lv' := [(3, .ref (zad G 16 a.toNat)), (0, .ref (zad G 0 0)), (1, .int (zI a)), (2, .int (zI id))]) C 5 dX7_send_5 rfl (by decide) rfl ?_
  refine z_iload_n C 6 dX7_send_6 rfl 3 rfl ?_
  refine zx_callSv C hT 7 (As := [.int (zI id)]) (rest := []) (c_X7_requireIdentifier l hfl G M id hid) (zS_of 1 C wm_7_135 wc_X7_requireIdentifier wini_7 wst_X7_requireIdentifier ⟨by decide, by decide, by decide⟩ ⟨by decide, by decide⟩) rfl (Nat.le_of_ble_eq_true rfl) ⟨by decide, by decide⟩ dX7_send_7 rfl (by decide) (by decide) (fun E h => Or.inr ⟨h.1, hPz1, h.2⟩) (fun Mz4 hPz3 => ?_)
  refine zZ_cs (k := 2) (n := 12) (by decide) (by decide) ?_
  obtain ⟨rfl, hPz3⟩ := hPz3
  refine z_aload_n C 10 dX7_send_10 rfl 0 rfl ?_
  refine z_iload_n C 11 dX7_send_11 rfl 3 rfl ?_
  refine z_aload_n C 12 dX7_send_12 rfl 1 rfl ?_
  refine z_getI C 13 zcl7 (show 0 < 1 by omega) (zc0 ..) 3 (by decide) rfl wf_7_29 dX7_send_13 (fun zq5 ezq5 hzq5 => ?_)
  refine z_callVi C 16 (As := [.int (zI id), .int (zI zq5)]) (rest := []) (c_X5_find l G M a.toNat (by omega) (w4 _ (by omega)) w3 id zq5 hPz3 hzq5) zcl5 (show a.toNat < 3 by omega) (zc16 ..) (zW_of 2 C wm_7_171 wc_X5_find wini_5 wi_X5_find wse_X5_find ⟨by decide, by decide, by decide⟩ ⟨by decide, by decide⟩) rfl (Nat.le_of_ble_eq_true rfl) ⟨by decide, by decide⟩ dX7_send_16 rfl (fun zq6 Mz7 hzq6 hPz6 => ?_)
  obtain ⟨rfl, hPz6⟩ := hPz6
  refine z_istore (lv' := [(4, .int (zI zq6)), (3, .ref (zad G 16 a.toNat)), (0, .ref (zad G 0 0)), (1, .int (zI a)), (2, .int (zI id))]) C 19 dX7_send_19 (by decide) rfl ?_
  refine z_iload C 21 dX7_send_21 0 rfl ?_
  refine z_iconst C 23 dX7_send_23 ?_
  refine z_icmp_ne C 24 75 dX7_send_24 (by decide) hzq6 (by decide) (fun c24_29 => ?_) (fun c24_29 => ?_)
  · obtain ⟨z1, z2⟩ | ⟨j9, z1, z2, z3, z4⟩ := hPz6
    · exact absurd z1 (by omega)
    have hb9 := hr9.2.1 (zq6).toNat (by have z5 := hr9.1; omega)
    refine z_aload_n C 75 dX7_send_75 rfl 1 rfl ?_
    refine z_iload C 76 dX7_send_76 0 rfl ?_
    refine z_callVr C 78 (As := [.int (zI zq6)]) (rest := []) (c_X5_moveToEnd l G M a.toNat (by omega) (w4 _ (by omega)) zq6 (by omega)) zcl5 (show a.toNat < 3 by omega) (zc16 ..) (zW_of 1 C wm_7_177 wc_X5_moveToEnd wini_5 wi_X5_moveToEnd wse_X5_moveToEnd ⟨by decide, by decide, by decide⟩ ⟨by decide, by decide⟩) rfl (Nat.le_of_ble_eq_true rfl) ⟨by decide, by decide⟩ dX7_send_78 rfl (fun zq8 Mz9 hPz8 => ?_)
    obtain ⟨rfl, hPz8⟩ := hPz8
    refine z_astore (lv' := [(5, .ref (zad G 19 ((zV M 17 a.toNat (zq6).toNat).toNat))), (4, .int (zI zq6)), (3, .ref (zad G 16 a.toNat)), (0, .ref (zad G 0 0)), (1, .int (zI a)), (2, .int (zI id))]) C 81 dX7_send_81 (by decide) rfl ?_
    refine z_aload C 83 dX7_send_83 0 rfl ?_
    refine z_aload_n C 85 dX7_send_85 rfl 2 rfl ?_
    refine z_get C 86 zcl5 (show a.toNat < 3 by omega) (zc16 ..) 1 (by decide) rfl wf_7_181 dX7_send_86 ?_
    refine z_callVi C 89 (As := [.ref (zad G 18 a.toNat)]) (rest := []) (c_X0_sendPacket l G Mz9 ((zV M 17 a.toNat (zq6).toNat).toNat) (by omega) a.toNat (by omega) (zwe_congr (w6 _ (by omega)) (zV_of (hPz8.2.2 21 _ 3 (by omega))) (fun j => zV_of (hPz8.2.2 22 _ j (by omega))))) zcl0 (show ((zV M 17 a.toNat (zq6).toNat).toNat) < 24 by omega) (zc19 ..) (zW_of 1 C wm_7_184 wc_X0_sendPacket wini_0 wi_X0_sendPacket wse_X0_sendPacket ⟨by decide, by decide, by decide⟩ ⟨by decide, by decide⟩) rfl (Nat.le_of_ble_eq_true rfl) ⟨by decide, by decide⟩ dX7_send_89 rfl (fun zq10 Mz11 hzq10 hPz10 => ?_)
    refine zx_iret C 92 dX7_send_92 (by decide) (by decide) hzq10 ?_
    refine ⟨hPz1, hPz3, Or.inl ⟨j9, Mz9, z2, by rw [← ezq5]; exact z3, by rw [← ezq5]; exact z4, ?_, ?_⟩⟩
    · have h9 := hPz8; rw [z1] at h9; exact h9
    · have h9 := hPz10; rw [z1] at h9; exact h9
  obtain ⟨z1, z2⟩ | ⟨j9, z1, z3⟩ := hPz6
  rotate_left
  · exact absurd z1 (by omega)
  refine z_aload_n C 27 dX7_send_27 rfl 2 rfl ?_
  refine z_get C 28 zcl7 (show 0 < 1 by omega) (zc0 ..) 1 (by decide) rfl wf_7_19 dX7_send_28 ?_
  refine z_iload_n C 31 dX7_send_31 rfl 4 rfl ?_
  refine z_callVi C 32 (As := [.int (zI id)]) (rest := []) (c_X6_find l G M w2 id hPz3) zcl6 (show 0 < 1 by omega) (zc9 ..) (zW_of 1 C wm_7_163 wc_X6_find wini_6 wi_X6_find wse_X6_find ⟨by decide, by decide, by decide⟩ ⟨by decide, by decide⟩) rfl (Nat.le_of_ble_eq_true rfl) ⟨by decide, by decide⟩ dX7_send_32 rfl (fun zq12 Mz13 hzq12 hPz12 => ?_)
  obtain ⟨rfl, hPz12⟩ := hPz12
  obtain ⟨y9, hy1, hy2⟩ := hPz12
  have hy3 : 0 ≤ zq12 ∧ zq12 < 4 := by rw [hy2]; unfold zsv; split; decide; have z1 := zfnd_rg hy1; have z3 : zdn M = zV M 9 0 4 := rfl; have z4 := w2.1; exact w2.2.2 _ (by omega)
  refine z_istore (lv' := [(5, .int (zI zq12)), (4, .int (zI zq6)), (3, .ref (zad G 16 a.toNat)), (0, .ref (zad G 0 0)), (1, .int (zI a)), (2, .int (zI id))]) C 35 dX7_send_35 (by decide) rfl ?_
  refine z_aload_n C 37 dX7_send_37 rfl 3 rfl ?_
  refine z_get C 38 zcl7 (show 0 < 1 by omega) (zc0 ..) 1 (by decide) rfl wf_7_19 dX7_send_38 ?_
  refine z_get C 41 zcl6 (show 0 < 1 by omega) (zc9 ..) 0 (by decide) rfl wf_7_159 dX7_send_41 ?_
  refine z_iload C 44 dX7_send_44 0 rfl ?_
  refine z_zald C 46 (show 0 < 1 by omega) (zc10 ..) hzq12 (by omega) (show zq12 < ((4 : Nat) : Int) by omega) dX7_send_46 (fun zq14 ezq14 hzq14 => ?_)
  refine z_if_eq C 47 53 dX7_send_47 (by decide) hzq14 (fun c47_62 => ?_) (fun c47_62 => ?_)
  · refine z_aload_n C 53 dX7_send_53 rfl 3 rfl ?_
    refine z_get C 54 zcl7 (show 0 < 1 by omega) (zc0 ..) 1 (by decide) rfl wf_7_19 dX7_send_54 ?_
    refine z_get C 57 zcl6 (show 0 < 1 by omega) (zc9 ..) 1 (by decide) rfl wf_7_164 dX7_send_57 ?_
    refine z_iload C 60 dX7_send_60 0 rfl ?_
    refine z_dup2 C 62 dX7_send_62 rfl rfl ?_
    refine z_iald C 63 (show 0 < 1 by omega) (zc11 ..) hzq12 (by omega) (show zq12 < ((4 : Nat) : Int) by omega) dX7_send_63 (fun zq15 ezq15 hzq15 => ?_)
    refine z_iconst C 64 dX7_send_64 ?_
    refine z_iadd C 65 dX7_send_65 ?_
    refine z_iast C 66 (show 0 < 1 by omega) (zc11 ..) hzq12 (by omega) (show zq12 < ((4 : Nat) : Int) by omega) (zc11 ..) dX7_send_66 ?_
    refine z_aload_n C 67 dX7_send_67 rfl 3 rfl ?_
    refine z_aload_n C 68 dX7_send_68 rfl 2 rfl ?_
    refine z_iload_n C 69 dX7_send_69 rfl 5 rfl ?_
    refine z_callVi C 70 (As := [.ref (zad G 16 a.toNat), .int (zI id)]) (rest := []) (c_X7_keepAnswer l G (zup M 11 0 zq12.toNat (zI (zq15 + 1))) a.toNat (by omega) (zWC_congr hw (fun κ i1 j1 h => zup_at (fun z => h z.1))) id hPz3) zcl7 (show 0 < 1 by omega) (zc0 ..) (zW_of 2 C wm_7_173 wc_X7_keepAnswer wini_7 wi_X7_keepAnswer wse_X7_keepAnswer ⟨by decide, by decide, by decide⟩ ⟨by decide, by decide⟩) rfl (Nat.le_of_ble_eq_true rfl) ⟨by decide, by decide⟩ dX7_send_70 rfl (fun zq16 Mz17 hzq16 hPz16 => ?_)
    have hka := zans_f (by omega) hPz16
    have hke := zans_we (by omega) (zWC_congr hw (fun κ i1 j1 h => zup_at (fun z => h z.1))) hPz16
    have hkb := hka.1.2.1 (zq16).toNat (by have z1 := hka.1.1; omega)
    refine z_istore (lv' := [(4, .int (zI zq16)), (5, .int (zI zq12)), (3, .ref (zad G 16 a.toNat)), (0, .ref (zad G 0 0)), (1, .int (zI a)), (2, .int (zI id))]) C 73 dX7_send_73 (by decide) rfl ?_
    refine z_aload_n C 75 dX7_send_75 rfl 2 rfl ?_
    refine z_iload C 76 dX7_send_76 0 rfl ?_
    refine z_callVr C 78 (As := [.int (zI zq16)]) (rest := []) (c_X5_moveToEnd l G Mz17 a.toNat (by omega) hka.1 zq16 hka.2) zcl5 (show a.toNat < 3 by omega) (zc16 ..) (zW_of 1 C wm_7_177 wc_X5_moveToEnd wini_5 wi_X5_moveToEnd wse_X5_moveToEnd ⟨by decide, by decide, by decide⟩ ⟨by decide, by decide⟩) rfl (Nat.le_of_ble_eq_true rfl) ⟨by decide, by decide⟩ dX7_send_78 rfl (fun zq18 Mz19 hPz18 => ?_)
    obtain ⟨rfl, hPz18⟩ := hPz18
    refine z_astore (lv' := [(5, .ref (zad G 19 ((zV Mz17 17 a.toNat (zq16).toNat).toNat))), (4, .int (zI zq16)), (3, .ref (zad G 16 a.toNat)), (0, .ref (zad G 0 0)), (1, .int (zI a)), (2, .int (zI id))]) C 81 dX7_send_81 (by decide) rfl ?_
    refine z_aload C 83 dX7_send_83 0 rfl ?_
    refine z_aload_n C 85 dX7_send_85 rfl 2 rfl ?_
    refine z_get C 86 zcl5 (show a.toNat < 3 by omega) (zc16 ..) 1 (by decide) rfl wf_7_181 dX7_send_86 ?_
    refine z_callVi C 89 (As := [.ref (zad G 18 a.toNat)]) (rest := []) (c_X0_sendPacket l G Mz19 ((zV Mz17 17 a.toNat (zq16).toNat).toNat) (by omega) a.toNat (by omega) (zwe_congr (hke _ (by omega)) (zV_of (hPz18.2.2 21 _ 3 (by omega))) (fun j => zV_of (hPz18.2.2 22 _ j (by omega))))) zcl0 (show ((zV Mz17 17 a.toNat (zq16).toNat).toNat) < 24 by omega) (zc19 ..) (zW_of 1 C wm_7_184 wc_X0_sendPacket wini_0 wi_X0_sendPacket wse_X0_sendPacket ⟨by decide, by decide, by decide⟩ ⟨by decide, by decide⟩) rfl (Nat.le_of_ble_eq_true rfl) ⟨by decide, by decide⟩ dX7_send_89 rfl (fun zq20 Mz21 hzq20 hPz20 => ?_)
    refine zx_iret C 92 dX7_send_92 (by decide) (by decide) hzq20 ?_
    refine ⟨hPz1, hPz3, Or.inr ⟨by rw [← ezq5]; exact z2, y9, hy1, Or.inr ⟨?_, zq16, Mz17, Mz19, ?_, hPz18, hPz20⟩⟩⟩
    · rw [← hy2]; omega
    · have h9 := hPz16; rw [ezq15, hy2] at h9; exact h9
  refine z_bipush C 50 dX7_send_50 (by decide +kernel) ?_
  refine zx_iret C 52 dX7_send_52 (by decide) (by decide) (by decide) ?_
  refine ⟨hPz1, hPz3, Or.inr ⟨by rw [← ezq5]; exact z2, y9, hy1, Or.inl ⟨?_, rfl, rfl⟩⟩⟩
  rw [← hy2]; omega
set_option maxHeartbeats 4000000 in
set_option maxRecDepth 100000 in
theorem c_X7_probe (l : Launch) (hfl : l.stackTraces = false) (G : zG) (M : zMem) (hw : zWC M) (a b u : Int) (ha : zrg a) (hb : zrg b) (hu : u = 0 ∨ u = 1) : vx_Met l yX7_probe [.code yX7_probe cX7_probe 5 (some .int)] (zR 8 2 12) (zPc G M [.ref (zad G 0 0), .int (zI a), .int (zI b), .int (zI u)]) (zQi G (fun x M' => (0 ≤ a ∧ a < 3) ∧ (0 ≤ b ∧ b < 32) ∧ M' = zup M 18 a.toNat b.toNat (zI (if u = 0 then 1 else 0)) ∧ x = zprb M' a.toNat)) (zX G M (fun E => (E = xIOB ∧ ¬ (0 ≤ a ∧ a < 3)) ∨ (E = xIAE ∧ (0 ≤ a ∧ a < 3) ∧ ¬ (0 ≤ b ∧ b < 32)))) 2 12 (zA G) := by
  refine zx_met [(0, .ref (zad G 0 0)), (1, .int (zI a)), (2, .int (zI b)), (3, .int (zI u))] (by decide) (Nat.le_of_ble_eq_true rfl) rfl ?_
  intro p e s m below meth c C hT
  have C : zC p s m ([.ref (zad G 0 0), .int (zI a), .int (zI b), .int (zI u)] : List Value).toArray meth c G RX7 cX7_probe 5 (some .int) := C
  have hw9z := hw
  obtain ⟨w1, w2, w3, w4, w5, w6, w7, w8, w9, w10⟩ := hw9z
  refine z_aload_n C 0 dX7_probe_0 rfl 0 rfl ?_
  refine z_iload_n C 1 dX7_probe_1 rfl 1 rfl ?_
  refine zx_callVr C hT 2 (As := [.int (zI a)]) (rest := []) (c_X7_requireRouter l hfl G M a ha) zcl7 (show 0 < 1 by omega) (zc0 ..) (zW_of 1 C wm_7_167 wc_X7_requireRouter wini_7 wi_X7_requireRouter wse_X7_requireRouter ⟨by decide, by decide, by decide⟩ ⟨by decide, by decide⟩) rfl (Nat.le_of_ble_eq_true rfl) ⟨by decide, by decide⟩ dX7_probe_2 rfl (by decide) (by decide) (fun E h => Or.inl h) (fun zq1 Mz2 hPz1 => ?_)
  refine zZ_cs (k := 1) (n := 6) (by decide) (by decide) ?_
  obtain ⟨rfl, hPz1⟩ := hPz1
  obtain ⟨rfl, hPz1⟩ := hPz1
  refine z_astore (lv' := [(4, .ref (zad G 16 a.toNat)), (0, .ref (zad G 0 0)), (1, .int (zI a)), (2, .int (zI b)), (3, .int (zI u))]) C 5 dX7_probe_5 (by decide) rfl ?_
  refine z_iload_n C 7 dX7_probe_7 rfl 3 rfl ?_
  refine zx_callSv C hT 8 (As := [.int (zI b)]) (rest := []) (c_X7_requireAddress l hfl G M b hb) (zS_of 1 C wm_7_95 wc_X7_requireAddress wini_7 wst_X7_requireAddress ⟨by decide, by decide, by decide⟩ ⟨by decide, by decide⟩) rfl (Nat.le_of_ble_eq_true rfl) ⟨by decide, by decide⟩ dX7_probe_8 rfl (by decide) (by decide) (fun E h => Or.inr ⟨h.1, hPz1, h.2⟩) (fun Mz4 hPz3 => ?_)
  refine zZ_cs (k := 2) (n := 12) (by decide) (by decide) ?_
  obtain ⟨rfl, hPz3⟩ := hPz3
  refine z_aload C 11 dX7_probe_11 0 rfl ?_
  refine z_get C 13 zcl5 (show a.toNat < 3 by omega) (zc16 ..) 1 (by decide) rfl wf_7_181 dX7_probe_13 ?_
  refine z_iload_n C 16 dX7_probe_16 rfl 3 rfl ?_
  refine z_iload_n C 17 dX7_probe_17 rfl 4 rfl ?_
  refine z_if_ne C 18 25 dX7_probe_18 (by decide) (by first | assumption | omega) (fun c18_23 => ?_) (fun c18_23 => ?_)
  · refine z_iconst C 25 dX7_probe_25 ?_
    refine z_zast C 26 (show a.toNat < 3 by omega) (zc18 ..) (by first | assumption | omega) (by omega) (show b < ((32 : Nat) : Int) by omega) (by first | assumption | omega) (zc18 ..) dX7_probe_26 ?_
    refine z_aload C 27 dX7_probe_27 0 rfl ?_
    refine z_callVi C 29 (As := []) (rest := []) (c_X5_countUnreachable l G (zup M 18 a.toNat b.toNat (zI 0)) a.toNat (by omega)) zcl5 (show a.toNat < 3 by omega) (zc16 ..) (zW_of 0 C wm_7_190 wc_X5_countUnreachable wini_5 wi_X5_countUnreachable wse_X5_countUnreachable ⟨by decide, by decide, by decide⟩ ⟨by decide, by decide⟩) rfl (Nat.le_of_ble_eq_true rfl) ⟨by decide, by decide⟩ dX7_probe_29 rfl (fun zq5 Mz6 hzq5 hPz5 => ?_)
    obtain ⟨rfl, hPz5⟩ := hPz5
    refine zx_iret C 32 dX7_probe_32 (by decide) (by decide) hzq5 ?_
    refine ⟨hPz1, hPz3, ?_, hPz5⟩
    first | rw [if_pos (by omega)] | rw [if_neg (by omega)]
  refine z_iconst C 21 dX7_probe_21 ?_
  refine z_goto C 22 26 dX7_probe_22 (by decide) ?_
  refine z_zast C 26 (show a.toNat < 3 by omega) (zc18 ..) (by first | assumption | omega) (by omega) (show b < ((32 : Nat) : Int) by omega) (by first | assumption | omega) (zc18 ..) dX7_probe_26 ?_
  refine z_aload C 27 dX7_probe_27 0 rfl ?_
  refine z_callVi C 29 (As := []) (rest := []) (c_X5_countUnreachable l G (zup M 18 a.toNat b.toNat (zI 1)) a.toNat (by omega)) zcl5 (show a.toNat < 3 by omega) (zc16 ..) (zW_of 0 C wm_7_190 wc_X5_countUnreachable wini_5 wi_X5_countUnreachable wse_X5_countUnreachable ⟨by decide, by decide, by decide⟩ ⟨by decide, by decide⟩) rfl (Nat.le_of_ble_eq_true rfl) ⟨by decide, by decide⟩ dX7_probe_29 rfl (fun zq7 Mz8 hzq7 hPz7 => ?_)
  obtain ⟨rfl, hPz7⟩ := hPz7
  refine zx_iret C 32 dX7_probe_32 (by decide) (by decide) hzq7 ?_
  refine ⟨hPz1, hPz3, ?_, hPz7⟩
  first | rw [if_pos (by omega)] | rw [if_neg (by omega)]
set_option maxHeartbeats 4000000 in
set_option maxRecDepth 100000 in
theorem c_X7_setLifetimes (l : Launch) (hfl : l.stackTraces = false) (G : zG) (M : zMem) (a b : Int) (ha : zrg a) (hb : zrg b) : vx_Met l yX7_setLifetimes [.code yX7_setLifetimes cX7_setLifetimes 4 (some .int)] (zR 8 2 12) (zPc G M [.ref (zad G 0 0), .int (zI a), .int (zI b)]) (zQi G (fun x M' => ((1 ≤ a ∧ a ≤ 1000) ∧ 1 ≤ b ∧ b ≤ 1000) ∧ x = zV M 0 0 4 ∧ M' = zup (zup M 0 0 4 (zI a)) 0 0 5 (zI b))) (zX G M (fun E => (E = xIAE ∧ ¬ ((1 ≤ a ∧ a ≤ 1000) ∧ 1 ≤ b ∧ b ≤ 1000)))) 2 12 (zA G) := by
  refine zx_met [(0, .ref (zad G 0 0)), (1, .int (zI a)), (2, .int (zI b))] (by decide) (Nat.le_of_ble_eq_true rfl) rfl ?_
  intro p e s m below meth c C hT
  have C : zC p s m ([.ref (zad G 0 0), .int (zI a), .int (zI b)] : List Value).toArray meth c G RX7 cX7_setLifetimes 4 (some .int) := C
  refine z_iload_n C 0 dX7_setLifetimes_0 rfl 1 rfl ?_
  refine z_iconst C 1 dX7_setLifetimes_1 ?_
  refine z_sipush C 2 dX7_setLifetimes_2 (by decide +kernel) ?_
  refine zx_callSv C hT 5 (As := [.int (zI a), .int (zI 1), .int (zI 1000)]) (rest := []) (c_X7_requireWithin l hfl G M a 1 1000 ha (by decide) (by decide)) (zS_of 3 C wm_7_99 wc_X7_requireWithin wini_7 wst_X7_requireWithin ⟨by decide, by decide, by decide⟩ ⟨by decide, by decide⟩) rfl (Nat.le_of_ble_eq_true rfl) ⟨by decide, by decide⟩ dX7_setLifetimes_5 rfl (by decide) (by decide) (fun E h => ⟨h.1, fun z => h.2 z.1⟩) (fun Mz2 hPz1 => ?_)
  refine zZ_cs (k := 1) (n := 6) (by decide) (by decide) ?_
  obtain ⟨rfl, hPz1⟩ := hPz1
  refine z_iload_n C 8 dX7_setLifetimes_8 rfl 2 rfl ?_
  refine z_iconst C 9 dX7_setLifetimes_9 ?_
  refine z_sipush C 10 dX7_setLifetimes_10 (by decide +kernel) ?_
  refine zx_callSv C hT 13 (As := [.int (zI b), .int (zI 1), .int (zI 1000)]) (rest := []) (c_X7_requireWithin l hfl G M b 1 1000 hb (by decide) (by decide)) (zS_of 3 C wm_7_99 wc_X7_requireWithin wini_7 wst_X7_requireWithin ⟨by decide, by decide, by decide⟩ ⟨by decide, by decide⟩) rfl (Nat.le_of_ble_eq_true rfl) ⟨by decide, by decide⟩ dX7_setLifetimes_13 rfl (by decide) (by decide) (fun E h => ⟨h.1, fun z => h.2 z.2⟩) (fun Mz4 hPz3 => ?_)
  refine zZ_cs (k := 2) (n := 12) (by decide) (by decide) ?_
  obtain ⟨rfl, hPz3⟩ := hPz3
  refine z_aload_n C 16 dX7_setLifetimes_16 rfl 0 rfl ?_
  refine z_getI C 17 zcl7 (show 0 < 1 by omega) (zc0 ..) 4 (by decide) rfl wf_7_33 dX7_setLifetimes_17 (fun zq5 ezq5 hzq5 => ?_)
  refine z_istore_n (lv' := [(3, .int (zI zq5)), (0, .ref (zad G 0 0)), (1, .int (zI a)), (2, .int (zI b))]) C 20 dX7_setLifetimes_20 rfl (by decide) rfl ?_
  refine z_aload_n C 21 dX7_setLifetimes_21 rfl 1 rfl ?_
  refine z_iload_n C 22 dX7_setLifetimes_22 rfl 2 rfl ?_
  refine z_putI C 23 zcl7 (show 0 < 1 by omega) (zc0 ..) 4 (by decide) wf_7_33 rfl rfl rfl (Nat.le_of_ble_eq_true rfl) (zc0 ..) dX7_setLifetimes_23 ?_
  refine z_aload_n C 26 dX7_setLifetimes_26 rfl 1 rfl ?_
  refine z_iload_n C 27 dX7_setLifetimes_27 rfl 3 rfl ?_
  refine z_putI C 28 zcl7 (show 0 < 1 by omega) (zc0 ..) 5 (by decide) wf_7_36 rfl rfl rfl (Nat.le_of_ble_eq_true rfl) (zc0 ..) dX7_setLifetimes_28 ?_
  refine z_iload_n C 31 dX7_setLifetimes_31 rfl 0 rfl ?_
  refine zx_iret C 32 dX7_setLifetimes_32 (by decide) (by decide) hzq5 ?_
  exact ⟨⟨hPz1, hPz3⟩, ezq5, rfl⟩
set_option maxHeartbeats 4000000 in
set_option maxRecDepth 100000 in
theorem c_X7_pass (l : Launch) (hfl : l.stackTraces = false) (G : zG) (M : zMem) (a : Int) (ha : zrg a) : vx_Met l yX7_pass [.code yX7_pass cX7_pass 2 (some .int)] (zR 8 1 6) (zPc G M [.ref (zad G 0 0), .int (zI a)]) (zQi G (fun x M' => (1 ≤ a ∧ a ≤ 1000) ∧ x = zw (zV M 0 0 3 + a) ∧ M' = zup M 0 0 3 (zI (zV M 0 0 3 + a)))) (zX G M (fun E => (E = xIAE ∧ ¬ (1 ≤ a ∧ a ≤ 1000)))) 1 6 (zA G) := by
  refine zx_met [(0, .ref (zad G 0 0)), (1, .int (zI a))] (by decide) (Nat.le_of_ble_eq_true rfl) rfl ?_
  intro p e s m below meth c C hT
  have C : zC p s m ([.ref (zad G 0 0), .int (zI a)] : List Value).toArray meth c G RX7 cX7_pass 2 (some .int) := C
  refine z_iload_n C 0 dX7_pass_0 rfl 1 rfl ?_
  refine z_iconst C 1 dX7_pass_1 ?_
  refine z_sipush C 2 dX7_pass_2 (by decide +kernel) ?_
  refine zx_callSv C hT 5 (As := [.int (zI a), .int (zI 1), .int (zI 1000)]) (rest := []) (c_X7_requireWithin l hfl G M a 1 1000 ha (by decide) (by decide)) (zS_of 3 C wm_7_99 wc_X7_requireWithin wini_7 wst_X7_requireWithin ⟨by decide, by decide, by decide⟩ ⟨by decide, by decide⟩) rfl (Nat.le_of_ble_eq_true rfl) ⟨by decide, by decide⟩ dX7_pass_5 rfl (by decide) (by decide) (fun E h => h) (fun Mz2 hPz1 => ?_)
  refine zZ_cs (k := 1) (n := 6) (by decide) (by decide) ?_
  obtain ⟨rfl, hPz1⟩ := hPz1
  refine z_aload_n C 8 dX7_pass_8 rfl 0 rfl ?_
  refine z_dup C 9 dX7_pass_9 rfl ?_
  refine z_getI C 10 zcl7 (show 0 < 1 by omega) (zc0 ..) 3 (by decide) rfl wf_7_29 dX7_pass_10 (fun zq3 ezq3 hzq3 => ?_)
  refine z_iload_n C 13 dX7_pass_13 rfl 1 rfl ?_
  refine z_iadd C 14 dX7_pass_14 ?_
  refine z_norm ?_
  intro yy eyy hyy
  refine z_putI C 15 zcl7 (show 0 < 1 by omega) (zc0 ..) 3 (by decide) wf_7_29 rfl rfl rfl (Nat.le_of_ble_eq_true rfl) (zc0 ..) dX7_pass_15 ?_
  refine z_aload_n C 18 dX7_pass_18 rfl 0 rfl ?_
  refine z_getI C 19 zcl7 (show 0 < 1 by omega) (zc0 ..) 3 (by decide) rfl wf_7_29 dX7_pass_19 (fun zq4 ezq4 hzq4 => ?_)
  rw [zV_eq (by first | assumption | decide | omega)] at ezq4
  refine zx_iret C 22 dX7_pass_22 (by decide) (by decide) hzq4 ?_
  refine ⟨hPz1, ?_, ?_⟩
  · rw [ezq4, eyy, ezq3]
  · rw [eyy, zw_I, ezq3]
set_option maxHeartbeats 4000000 in
set_option maxRecDepth 100000 in
theorem c_X7_entries (l : Launch) (hfl : l.stackTraces = false) (G : zG) (M : zMem) (a : Int) (ha : zrg a) : vx_Met l yX7_entries [.code yX7_entries cX7_entries 2 (some .int)] (zR 8 1 6) (zPc G M [.ref (zad G 0 0), .int (zI a)]) (zQi G (fun x M' => M = M' ∧ (0 ≤ a ∧ a < 3) ∧ x = zV M 16 a.toNat 2)) (zX G M (fun E => (E = xIOB ∧ ¬ (0 ≤ a ∧ a < 3)))) 1 6 (zA G) := by
  refine zx_met [(0, .ref (zad G 0 0)), (1, .int (zI a))] (by decide) (Nat.le_of_ble_eq_true rfl) rfl ?_
  intro p e s m below meth c C hT
  have C : zC p s m ([.ref (zad G 0 0), .int (zI a)] : List Value).toArray meth c G RX7 cX7_entries 2 (some .int) := C
  refine z_aload_n C 0 dX7_entries_0 rfl 0 rfl ?_
  refine z_iload_n C 1 dX7_entries_1 rfl 1 rfl ?_
  refine zx_callVr C hT 2 (As := [.int (zI a)]) (rest := []) (c_X7_requireRouter l hfl G M a ha) zcl7 (show 0 < 1 by omega) (zc0 ..) (zW_of 1 C wm_7_167 wc_X7_requireRouter wini_7 wi_X7_requireRouter wse_X7_requireRouter ⟨by decide, by decide, by decide⟩ ⟨by decide, by decide⟩) rfl (Nat.le_of_ble_eq_true rfl) ⟨by decide, by decide⟩ dX7_entries_2 rfl (by decide) (by decide) (fun E h => h) (fun zq1 Mz2 hPz1 => ?_)
  refine zZ_cs (k := 1) (n := 6) (by decide) (by decide) ?_
  obtain ⟨rfl, hPz1⟩ := hPz1
  obtain ⟨rfl, hPz1⟩ := hPz1
  refine z_getI C 5 zcl5 (show a.toNat < 3 by omega) (zc16 ..) 2 (by decide) rfl wf_7_193 dX7_entries_5 (fun zq3 ezq3 hzq3 => ?_)
  refine zx_iret C 8 dX7_entries_8 (by decide) (by decide) hzq3 ?_
  exact ⟨rfl, hPz1, ezq3⟩
set_option maxHeartbeats 4000000 in
set_option maxRecDepth 100000 in
theorem c_X7_prefixOf (l : Launch) (hfl : l.stackTraces = false) (G : zG) (M : zMem) (hw : zWC M) (a b : Int) (ha : zrg a) (hb : zrg b) : vx_Met l yX7_prefixOf [.code yX7_prefixOf cX7_prefixOf 4 (some .int)] (zR 9 2 12) (zPc G M [.ref (zad G 0 0), .int (zI a), .int (zI b)]) (zQi G (fun x M' => M = M' ∧ ((0 ≤ a ∧ a < 3) ∧ 0 ≤ b ∧ b < zV M 16 a.toNat 2) ∧ x = zw (32 * zV M 20 (zq M a.toNat b.toNat) 0 + zV M 20 (zq M a.toNat b.toNat) 1))) (zX G M (fun E => (E = xIOB ∧ ¬ ((0 ≤ a ∧ a < 3) ∧ 0 ≤ b ∧ b < zV M 16 a.toNat 2)))) 2 12 (zA G) := by
  refine zx_met [(0, .ref (zad G 0 0)), (1, .int (zI a)), (2, .int (zI b))] (by decide) (Nat.le_of_ble_eq_true rfl) rfl ?_
  intro p e s m below meth c C hT
  have C : zC p s m ([.ref (zad G 0 0), .int (zI a), .int (zI b)] : List Value).toArray meth c G RX7 cX7_prefixOf 4 (some .int) := C
  have hw9z := hw
  obtain ⟨w1, w2, w3, w4, w5, w6, w7, w8, w9, w10⟩ := hw9z
  refine z_aload_n C 0 dX7_prefixOf_0 rfl 0 rfl ?_
  refine z_iload_n C 1 dX7_prefixOf_1 rfl 1 rfl ?_
  refine z_iload_n C 2 dX7_prefixOf_2 rfl 2 rfl ?_
  refine zx_callVr C hT 3 (As := [.int (zI a), .int (zI b)]) (rest := []) (c_X7_requireEntry l hfl G M w4 a b ha hb) zcl7 (show 0 < 1 by omega) (zc0 ..) (zW_of 2 C wm_7_194 wc_X7_requireEntry wini_7 wi_X7_requireEntry wse_X7_requireEntry ⟨by decide, by decide, by decide⟩ ⟨by decide, by decide⟩) rfl (Nat.le_of_ble_eq_true rfl) ⟨by decide, by decide⟩ dX7_prefixOf_3 rfl (by decide) (by decide) (fun E h => h) (fun zq1 Mz2 hPz1 => ?_)
  refine zZ_cs (k := 2) (n := 12) (by decide) (by decide) ?_
  obtain ⟨rfl, hPz1⟩ := hPz1
  obtain ⟨rfl, hPz1⟩ := hPz1
  have hr9 := w4 a.toNat (by omega)
  have hq9 : zq M a.toNat b.toNat < 24 := by have z1 := hr9.2.1 b.toNat (by have z5 := hr9.1; omega); unfold zq; omega
  refine z_get C 6 zcl0 (show (zq M a.toNat b.toNat) < 24 by omega) (zc19 ..) 0 (by decide) rfl wf_7_198 dX7_prefixOf_6 ?_
  refine z_astore_n (lv' := [(3, .ref (zad G 20 (zq M a.toNat b.toNat))), (0, .ref (zad G 0 0)), (1, .int (zI a)), (2, .int (zI b))]) C 9 dX7_prefixOf_9 rfl (by decide) rfl ?_
  refine z_bipush C 10 dX7_prefixOf_10 (by decide +kernel) ?_
  refine z_aload_n C 12 dX7_prefixOf_12 rfl 0 rfl ?_
  refine z_getI C 13 zcl3 (show (zq M a.toNat b.toNat) < 24 by omega) (zc20 ..) 0 (by decide) rfl wf_7_199 dX7_prefixOf_13 (fun zq3 ezq3 hzq3 => ?_)
  refine z_imul C 16 dX7_prefixOf_16 ?_
  refine z_aload_n C 17 dX7_prefixOf_17 rfl 0 rfl ?_
  refine z_getI C 18 zcl3 (show (zq M a.toNat b.toNat) < 24 by omega) (zc20 ..) 1 (by decide) rfl wf_7_204 dX7_prefixOf_18 (fun zq4 ezq4 hzq4 => ?_)
  refine z_iadd C 21 dX7_prefixOf_21 ?_
  refine z_norm ?_
  intro yy eyy hyy
  refine zx_iret C 22 dX7_prefixOf_22 (by decide) (by decide) hyy ?_
  exact ⟨rfl, hPz1, by rw [eyy, ezq3, ezq4]⟩
set_option maxHeartbeats 4000000 in
set_option maxRecDepth 100000 in
theorem c_X7_mappingAt (l : Launch) (hfl : l.stackTraces = false) (G : zG) (M : zMem) (hw : zWC M) (a b : Int) (ha : zrg a) (hb : zrg b) : vx_Met l yX7_mappingAt [.code yX7_mappingAt cX7_mappingAt 4 (some .int)] (zR 9 2 12) (zPc G M [.ref (zad G 0 0), .int (zI a), .int (zI b)]) (zQi G (fun x M' => M = M' ∧ ((0 ≤ a ∧ a < 3) ∧ 0 ≤ b ∧ b < zV M 16 a.toNat 2) ∧ x = zmat M (zq M a.toNat b.toNat))) (zX G M (fun E => (E = xIOB ∧ ¬ ((0 ≤ a ∧ a < 3) ∧ 0 ≤ b ∧ b < zV M 16 a.toNat 2)))) 2 12 (zA G) := by
  refine zx_met [(0, .ref (zad G 0 0)), (1, .int (zI a)), (2, .int (zI b))] (by decide) (Nat.le_of_ble_eq_true rfl) rfl ?_
  intro p e s m below meth c C hT
  have C : zC p s m ([.ref (zad G 0 0), .int (zI a), .int (zI b)] : List Value).toArray meth c G RX7 cX7_mappingAt 4 (some .int) := C
  have hw9z := hw
  obtain ⟨w1, w2, w3, w4, w5, w6, w7, w8, w9, w10⟩ := hw9z
  refine z_aload_n C 0 dX7_mappingAt_0 rfl 0 rfl ?_
  refine z_iload_n C 1 dX7_mappingAt_1 rfl 1 rfl ?_
  refine z_iload_n C 2 dX7_mappingAt_2 rfl 2 rfl ?_
  refine zx_callVr C hT 3 (As := [.int (zI a), .int (zI b)]) (rest := []) (c_X7_requireEntry l hfl G M w4 a b ha hb) zcl7 (show 0 < 1 by omega) (zc0 ..) (zW_of 2 C wm_7_194 wc_X7_requireEntry wini_7 wi_X7_requireEntry wse_X7_requireEntry ⟨by decide, by decide, by decide⟩ ⟨by decide, by decide⟩) rfl (Nat.le_of_ble_eq_true rfl) ⟨by decide, by decide⟩ dX7_mappingAt_3 rfl (by decide) (by decide) (fun E h => h) (fun zq1 Mz2 hPz1 => ?_)
  refine zZ_cs (k := 2) (n := 12) (by decide) (by decide) ?_
  obtain ⟨rfl, hPz1⟩ := hPz1
  obtain ⟨rfl, hPz1⟩ := hPz1
  have hr9 := w4 a.toNat (by omega)
  have hq9 : zq M a.toNat b.toNat < 24 := by have z1 := hr9.2.1 b.toNat (by have z5 := hr9.1; omega); unfold zq; omega
  refine z_astore_n (lv' := [(3, .ref (zad G 19 (zq M a.toNat b.toNat))), (0, .ref (zad G 0 0)), (1, .int (zI a)), (2, .int (zI b))]) C 6 dX7_mappingAt_6 rfl (by decide) rfl ?_
  refine z_aload_n C 7 dX7_mappingAt_7 rfl 0 rfl ?_
  refine z_getI C 8 zcl0 (show (zq M a.toNat b.toNat) < 24 by omega) (zc19 ..) 3 (by decide) rfl wf_7_207 dX7_mappingAt_8 (fun zq3 ezq3 hzq3 => ?_)
  refine z_iconst C 11 dX7_mappingAt_11 ?_
  refine z_icmp_ne C 12 19 dX7_mappingAt_12 (by decide) hzq3 (by decide) (fun c12_21 => ?_) (fun c12_21 => ?_)
  · refine z_sipush C 19 dX7_mappingAt_19 (by decide +kernel) ?_
    refine z_aload_n C 22 dX7_mappingAt_22 rfl 0 rfl ?_
    refine z_getI C 23 zcl0 (show (zq M a.toNat b.toNat) < 24 by omega) (zc19 ..) 4 (by decide) rfl wf_7_210 dX7_mappingAt_23 (fun zq4 ezq4 hzq4 => ?_)
    refine z_imul C 26 dX7_mappingAt_26 ?_
    refine z_aload_n C 27 dX7_mappingAt_27 rfl 0 rfl ?_
    refine z_getI C 28 zcl0 (show (zq M a.toNat b.toNat) < 24 by omega) (zc19 ..) 3 (by decide) rfl wf_7_207 dX7_mappingAt_28 (fun zq5 ezq5 hzq5 => ?_)
    refine z_iadd C 31 dX7_mappingAt_31 ?_
    refine z_norm ?_
    intro yy eyy hyy
    refine zx_iret C 32 dX7_mappingAt_32 (by decide) (by decide) hyy ?_
    refine ⟨rfl, hPz1, ?_⟩
    unfold zmat
    first | (rw [if_pos (by omega), eyy]; exact zw_eq (by decide)) | rw [if_neg (by omega), eyy, ezq4, ezq5]
  refine z_iconst C 15 dX7_mappingAt_15 ?_
  refine z_goto C 16 32 dX7_mappingAt_16 (by decide) ?_
  refine z_norm ?_
  intro yy eyy hyy
  refine zx_iret C 32 dX7_mappingAt_32 (by decide) (by decide) hyy ?_
  refine ⟨rfl, hPz1, ?_⟩
  unfold zmat
  first | (rw [if_pos (by omega), eyy]; exact zw_eq (by decide)) | rw [if_neg (by omega), eyy, ezq4, ezq5]
set_option maxHeartbeats 4000000 in
set_option maxRecDepth 100000 in
theorem c_X7_lasts (l : Launch) (hfl : l.stackTraces = false) (G : zG) (M : zMem) (hw : zWC M) (a b : Int) (ha : zrg a) (hb : zrg b) : vx_Met l yX7_lasts [.code yX7_lasts cX7_lasts 4 (some .int)] (zR 9 2 12) (zPc G M [.ref (zad G 0 0), .int (zI a), .int (zI b)]) (zQi G (fun x M' => M = M' ∧ ((0 ≤ a ∧ a < 3) ∧ 0 ≤ b ∧ b < zV M 16 a.toNat 2) ∧ x = zlst M (zq M a.toNat b.toNat))) (zX G M (fun E => (E = xIOB ∧ ¬ ((0 ≤ a ∧ a < 3) ∧ 0 ≤ b ∧ b < zV M 16 a.toNat 2)))) 2 12 (zA G) := by
  refine zx_met [(0, .ref (zad G 0 0)), (1, .int (zI a)), (2, .int (zI b))] (by decide) (Nat.le_of_ble_eq_true rfl) rfl ?_
  intro p e s m below meth c C hT
  have C : zC p s m ([.ref (zad G 0 0), .int (zI a), .int (zI b)] : List Value).toArray meth c G RX7 cX7_lasts 4 (some .int) := C
  have hw9z := hw
  obtain ⟨w1, w2, w3, w4, w5, w6, w7, w8, w9, w10⟩ := hw9z
  refine z_aload_n C 0 dX7_lasts_0 rfl 0 rfl ?_
  refine z_iload_n C 1 dX7_lasts_1 rfl 1 rfl ?_
  refine z_iload_n C 2 dX7_lasts_2 rfl 2 rfl ?_
  refine zx_callVr C hT 3 (As := [.int (zI a), .int (zI b)]) (rest := []) (c_X7_requireEntry l hfl G M w4 a b ha hb) zcl7 (show 0 < 1 by omega) (zc0 ..) (zW_of 2 C wm_7_194 wc_X7_requireEntry wini_7 wi_X7_requireEntry wse_X7_requireEntry ⟨by decide, by decide, by decide⟩ ⟨by decide, by decide⟩) rfl (Nat.le_of_ble_eq_true rfl) ⟨by decide, by decide⟩ dX7_lasts_3 rfl (by decide) (by decide) (fun E h => h) (fun zq1 Mz2 hPz1 => ?_)
  refine zZ_cs (k := 2) (n := 12) (by decide) (by decide) ?_
  obtain ⟨rfl, hPz1⟩ := hPz1
  obtain ⟨rfl, hPz1⟩ := hPz1
  have hr9 := w4 a.toNat (by omega)
  have hq9 : zq M a.toNat b.toNat < 24 := by have z1 := hr9.2.1 b.toNat (by have z5 := hr9.1; omega); unfold zq; omega
  refine z_astore_n (lv' := [(3, .ref (zad G 19 (zq M a.toNat b.toNat))), (0, .ref (zad G 0 0)), (1, .int (zI a)), (2, .int (zI b))]) C 6 dX7_lasts_6 rfl (by decide) rfl ?_
  refine z_aload_n C 7 dX7_lasts_7 rfl 0 rfl ?_
  refine z_getI C 8 zcl0 (show (zq M a.toNat b.toNat) < 24 by omega) (zc19 ..) 6 (by decide) rfl wf_7_211 dX7_lasts_8 (fun zq3 ezq3 hzq3 => ?_)
  refine z_if_eq C 11 16 dX7_lasts_11 (by decide) hzq3 (fun c11_20 => ?_) (fun c11_20 => ?_)
  · refine z_aload_n C 16 dX7_lasts_16 rfl 0 rfl ?_
    refine z_aload_n C 17 dX7_lasts_17 rfl 1 rfl ?_
    refine z_getI C 18 zcl7 (show 0 < 1 by omega) (zc0 ..) 3 (by decide) rfl wf_7_29 dX7_lasts_18 (fun zq4 ezq4 hzq4 => ?_)
    refine z_callVi C 21 (As := [.int (zI zq4)]) (rest := []) (c_X0_hasEnded l G M (zq M a.toNat b.toNat) (by omega) zq4 hzq4) zcl0 (show (zq M a.toNat b.toNat) < 24 by omega) (zc19 ..) (zW_of 1 C wm_7_214 wc_X0_hasEnded wini_0 wi_X0_hasEnded wse_X0_hasEnded ⟨by decide, by decide, by decide⟩ ⟨by decide, by decide⟩) rfl (Nat.le_of_ble_eq_true rfl) ⟨by decide, by decide⟩ dX7_lasts_21 rfl (fun zq5 Mz6 hzq5 hPz5 => ?_)
    obtain ⟨rfl, hPz5⟩ := hPz5
    refine z_if_eq C 24 31 dX7_lasts_24 (by decide) hzq5 (fun c24_27 => ?_) (fun c24_27 => ?_)
    · refine z_aload_n C 31 dX7_lasts_31 rfl 0 rfl ?_
      refine z_getI C 32 zcl0 (show (zq M a.toNat b.toNat) < 24 by omega) (zc19 ..) 5 (by decide) rfl wf_7_218 dX7_lasts_32 (fun zq7 ezq7 hzq7 => ?_)
      refine z_aload_n C 35 dX7_lasts_35 rfl 1 rfl ?_
      refine z_getI C 36 zcl7 (show 0 < 1 by omega) (zc0 ..) 3 (by decide) rfl wf_7_29 dX7_lasts_36 (fun zq8 ezq8 hzq8 => ?_)
      refine z_isub C 39 dX7_lasts_39 ?_
      refine z_norm ?_
      intro yy eyy hyy
      refine zx_iret C 40 dX7_lasts_40 (by decide) (by decide) hyy ?_
      refine ⟨rfl, hPz1, ?_⟩
      unfold zlst
      have h9 := hPz5.f (by assumption)
      rw [if_pos (by omega), if_neg (by omega), eyy, ezq7, ezq8]
    refine z_iconst C 27 dX7_lasts_27 ?_
    refine z_goto C 28 40 dX7_lasts_28 (by decide) ?_
    refine zx_iret C 40 dX7_lasts_40 (by decide) (by decide) (by decide) ?_
    refine ⟨rfl, hPz1, ?_⟩
    unfold zlst
    have h9 := hPz5.t (by assumption)
    rw [if_pos (by omega), if_pos (by omega)]
  refine z_iconst C 14 dX7_lasts_14 ?_
  refine zx_iret C 15 dX7_lasts_15 (by decide) (by decide) (by decide) ?_
  refine ⟨rfl, hPz1, ?_⟩
  unfold zlst
  rw [if_neg (by omega)]
set_option maxHeartbeats 4000000 in
set_option maxRecDepth 100000 in
theorem c_X7_packetsTo (l : Launch) (hfl : l.stackTraces = false) (G : zG) (M : zMem) (hw : zWC M) (a b t : Int) (ha : zrg a) (hb : zrg b) (ht : zrg t) : vx_Met l yX7_packetsTo [.code yX7_packetsTo cX7_packetsTo 6 (some .int)] (zR 9 3 18) (zPc G M [.ref (zad G 0 0), .int (zI a), .int (zI b), .int (zI t)]) (zQi G (fun x M' => M = M' ∧ ((0 ≤ a ∧ a < 3) ∧ 0 ≤ b ∧ b < zV M 16 a.toNat 2) ∧ (0 ≤ t ∧ t < 32) ∧ ∃ pl : Int, zplace (fun j => zV M 22 (zq M a.toNat b.toNat) j) (zV M 21 (zq M a.toNat b.toNat) 3) t pl ∧ x = if pl = -1 then 0 else zV M 25 (zq M a.toNat b.toNat) pl.toNat)) (zX G M (fun E => (E = xIOB ∧ ¬ ((0 ≤ a ∧ a < 3) ∧ 0 ≤ b ∧ b < zV M 16 a.toNat 2)) ∨ (E = xIAE ∧ ((0 ≤ a ∧ a < 3) ∧ 0 ≤ b ∧ b < zV M 16 a.toNat 2) ∧ ¬ (0 ≤ t ∧ t < 32)))) 3 18 (zA G) := by
  refine zx_met [(0, .ref (zad G 0 0)), (1, .int (zI a)), (2, .int (zI b)), (3, .int (zI t))] (by decide) (Nat.le_of_ble_eq_true rfl) rfl ?_
  intro p e s m below meth c C hT
  have C : zC p s m ([.ref (zad G 0 0), .int (zI a), .int (zI b), .int (zI t)] : List Value).toArray meth c G RX7 cX7_packetsTo 6 (some .int) := C
  have hw9z := hw
  obtain ⟨w1, w2, w3, w4, w5, w6, w7, w8, w9, w10⟩ := hw9z
  refine z_aload_n C 0 dX7_packetsTo_0 rfl 0 rfl ?_
  refine z_iload_n C 1 dX7_packetsTo_1 rfl 1 rfl ?_
  refine z_iload_n C 2 dX7_packetsTo_2 rfl 2 rfl ?_
  refine zx_callVr C hT 3 (As := [.int (zI a), .int (zI b)]) (rest := []) (c_X7_requireEntry l hfl G M w4 a b ha hb) zcl7 (show 0 < 1 by omega) (zc0 ..) (zW_of 2 C wm_7_194 wc_X7_requireEntry wini_7 wi_X7_requireEntry wse_X7_requireEntry ⟨by decide, by decide, by decide⟩ ⟨by decide, by decide⟩) rfl (Nat.le_of_ble_eq_true rfl) ⟨by decide, by decide⟩ dX7_packetsTo_3 rfl (by decide) (by decide) (fun E h => Or.inl h) (fun zq1 Mz2 hPz1 => ?_)
  refine zZ_cs (k := 2) (n := 12) (by decide) (by decide) ?_
  obtain ⟨rfl, hPz1⟩ := hPz1
  obtain ⟨rfl, hPz1⟩ := hPz1
  have hr9 := w4 a.toNat (by omega)
  have hq9 : zq M a.toNat b.toNat < 24 := by have z1 := hr9.2.1 b.toNat (by have z5 := hr9.1; omega); unfold zq; omega
  refine z_astore (lv' := [(4, .ref (zad G 19 (zq M a.toNat b.toNat))), (0, .ref (zad G 0 0)), (1, .int (zI a)), (2, .int (zI b)), (3, .int (zI t))]) C 6 dX7_packetsTo_6 (by decide) rfl ?_
  refine z_iload_n C 8 dX7_packetsTo_8 rfl 4 rfl ?_
  refine zx_callSv C hT 9 (As := [.int (zI t)]) (rest := []) (c_X7_requireAddress l hfl G M t ht) (zS_of 1 C wm_7_95 wc_X7_requireAddress wini_7 wst_X7_requireAddress ⟨by decide, by decide, by decide⟩ ⟨by decide, by decide⟩) rfl (Nat.le_of_ble_eq_true rfl) ⟨by decide, by decide⟩ dX7_packetsTo_9 rfl (by decide) (by decide) (fun E h => Or.inr ⟨h.1, hPz1, h.2⟩) (fun Mz4 hPz3 => ?_)
  refine zZ_cs (k := 3) (n := 18) (by decide) (by decide) ?_
  obtain ⟨rfl, hPz3⟩ := hPz3
  refine z_aload C 12 dX7_packetsTo_12 0 rfl ?_
  refine z_get C 14 zcl0 (show (zq M a.toNat b.toNat) < 24 by omega) (zc19 ..) 1 (by decide) rfl wf_7_221 dX7_packetsTo_14 ?_
  refine z_iload_n C 17 dX7_packetsTo_17 rfl 4 rfl ?_
  refine z_callVi C 18 (As := [.int (zI t)]) (rest := []) (c_X1_placeOf_21 l G M (zq M a.toNat b.toNat) (by omega) (w6 _ (by omega)).1 t ht) zcl1 (show (zq M a.toNat b.toNat) < 24 by omega) (zc21 ..) (zW_of 1 C wm_7_110 wc_X1_placeOf wini_1 wi_X1_placeOf wse_X1_placeOf ⟨by decide, by decide, by decide⟩ ⟨by decide, by decide⟩) rfl (Nat.le_of_ble_eq_true rfl) ⟨by decide, by decide⟩ dX7_packetsTo_18 rfl (fun zq5 Mz6 hzq5 hPz5 => ?_)
  obtain ⟨rfl, hPz5⟩ := hPz5
  have hp9 : zq5 = -1 ∨ 0 ≤ zq5 ∧ zq5 < 4 := by have z6 := (w6 _ hq9).1; rcases hPz5 with ⟨z1, -⟩ | ⟨j1, z1, z2, -⟩; exact Or.inl z1; exact Or.inr (by omega)
  refine z_istore (lv' := [(5, .int (zI zq5)), (4, .ref (zad G 19 (zq M a.toNat b.toNat))), (0, .ref (zad G 0 0)), (1, .int (zI a)), (2, .int (zI b)), (3, .int (zI t))]) C 21 dX7_packetsTo_21 (by decide) rfl ?_
  refine z_iload C 23 dX7_packetsTo_23 0 rfl ?_
  refine z_iconst C 25 dX7_packetsTo_25 ?_
  refine z_icmp_ne C 26 33 dX7_packetsTo_26 (by decide) hzq5 (by decide) (fun c26_31 => ?_) (fun c26_31 => ?_)
  · refine z_aload C 33 dX7_packetsTo_33 1 rfl ?_
    refine z_get C 35 zcl0 (show (zq M a.toNat b.toNat) < 24 by omega) (zc19 ..) 2 (by decide) rfl wf_7_222 dX7_packetsTo_35 ?_
    refine z_iload C 38 dX7_packetsTo_38 0 rfl ?_
    refine z_iald C 40 (show (zq M a.toNat b.toNat) < 24 by omega) (zc25 ..) hzq5 (by omega) (show zq5 < ((4 : Nat) : Int) by omega) dX7_packetsTo_40 (fun zq7 ezq7 hzq7 => ?_)
    refine zx_iret C 41 dX7_packetsTo_41 (by decide) (by decide) hzq7 ?_
    refine ⟨rfl, hPz1, hPz3, zq5, hPz5, ?_⟩
    first | rw [if_pos (by omega)] | (rw [if_neg (by omega)]; assumption)
  refine z_iconst C 29 dX7_packetsTo_29 ?_
  refine z_goto C 30 41 dX7_packetsTo_30 (by decide) ?_
  refine zx_iret C 41 dX7_packetsTo_41 (by decide) (by decide) (by decide) ?_
  refine ⟨rfl, hPz1, hPz3, zq5, hPz5, ?_⟩
  first | rw [if_pos (by omega)] | (rw [if_neg (by omega)]; assumption)
set_option maxHeartbeats 4000000 in
set_option maxRecDepth 100000 in
theorem c_X7_solicitations (l : Launch) (G : zG) (M : zMem)  : Met l yX7_solicitations [.code yX7_solicitations cX7_solicitations 1 (some .int)] (zR 8 0 0) (zPc G M [.ref (zad G 0 0)]) (zQi G (fun x M' => M = M' ∧ x = zV M 0 0 6)) 0 0 (zA G) := by
  refine z_met [(0, .ref (zad G 0 0))] (by decide) (Nat.le_of_ble_eq_true rfl) rfl ?_
  intro p e s m below meth c C
  have C : zC p s m ([.ref (zad G 0 0)] : List Value).toArray meth c G RX7 cX7_solicitations 1 (some .int) := C
  refine z_aload_n C 0 dX7_solicitations_0 rfl 0 rfl ?_
  refine z_getI C 1 zcl7 (show 0 < 1 by omega) (zc0 ..) 6 (by decide) rfl wf_7_39 dX7_solicitations_1 (fun zq1 ezq1 hzq1 => ?_)
  refine z_iret C 4 dX7_solicitations_4 (by decide) (by decide) hzq1 ?_
  exact ⟨rfl, ezq1⟩
