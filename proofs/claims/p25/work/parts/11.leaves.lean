set_option maxHeartbeats 4000000 in
set_option maxRecDepth 100000 in
theorem c_X3_set_4 (l : Launch) (G : zG) (M : zMem) (i : Nat) (hi : i < 24) (v b : Int) : Met l yX3_set [.code yX3_set cX3_set 3 none] (zR 0 0 0) (zPc G M [.ref (zad G 4 i), .int (zI v), .int (zI b)]) (zQv G (fun M' => M' = zup (zup M 4 i 0 (zI v)) 4 i 1 (zI b))) 0 0 (zA G) := by
  refine z_met [(0, .ref (zad G 4 i)), (1, .int (zI v)), (2, .int (zI b))] (by decide) (Nat.le_of_ble_eq_true rfl) rfl ?_
  intro p e s m below meth c C
  have C : zC p s m ([.ref (zad G 4 i), .int (zI v), .int (zI b)] : List Value).toArray meth c G RX3 cX3_set 3 none := C
  refine z_aload_n C 0 dX3_set_0 rfl 0 rfl ?_
  refine z_iload_n C 1 dX3_set_1 rfl 1 rfl ?_
  refine z_putI C 2 zcl3 (show i < 24 by omega) (zc4 ..) 0 (by decide) wf_3_9 rfl rfl rfl (Nat.le_of_ble_eq_true rfl) (zc4 ..) dX3_set_2 ?_
  refine z_aload_n C 5 dX3_set_5 rfl 0 rfl ?_
  refine z_iload_n C 6 dX3_set_6 rfl 2 rfl ?_
  refine z_putI C 7 zcl3 (show i < 24 by omega) (zc4 ..) 1 (by decide) wf_3_15 rfl rfl rfl (Nat.le_of_ble_eq_true rfl) (zc4 ..) dX3_set_7 ?_
  refine z_vret C 10 dX3_set_10 (by decide) (by decide) ?_
  exact rfl
set_option maxHeartbeats 4000000 in
set_option maxRecDepth 100000 in
theorem c_X3_is_4 (l : Launch) (G : zG) (M : zMem) (i : Nat) (hi : i < 24) (v b : Int) (hv : zrg v) (hb : zrg b) : Met l yX3_is [.code yX3_is cX3_is 3 (some .boolean)] (zR 0 0 0) (zPc G M [.ref (zad G 4 i), .int (zI v), .int (zI b)]) (zQi G (fun x M' => M = M' ∧ zb x (zV M 4 i 0 = v ∧ zV M 4 i 1 = b))) 0 0 (zA G) := by
  refine z_met [(0, .ref (zad G 4 i)), (1, .int (zI v)), (2, .int (zI b))] (by decide) (Nat.le_of_ble_eq_true rfl) rfl ?_
  intro p e s m below meth c C
  have C : zC p s m ([.ref (zad G 4 i), .int (zI v), .int (zI b)] : List Value).toArray meth c G RX3 cX3_is 3 (some .boolean) := C
  refine z_aload_n C 0 dX3_is_0 rfl 0 rfl ?_
  refine z_getI C 1 zcl3 (show i < 24 by omega) (zc4 ..) 0 (by decide) rfl wf_3_9 dX3_is_1 (fun zq1 ezq1 hzq1 => ?_)
  refine z_iload_n C 4 dX3_is_4 rfl 1 rfl ?_
  refine z_icmp_ne C 5 20 dX3_is_5 (by decide) hzq1 (by first | assumption | omega) (fun c5_9 => ?_) (fun c5_9 => ?_)
  · have hF : ¬ (zV M 4 i 0 = v ∧ zV M 4 i 1 = b) := by omega
    refine z_iconst C 20 dX3_is_20 ?_
    refine z_zret C 21 dX3_is_21 (by decide) (by decide) (by decide) ?_
    exact ⟨rfl, zb.zero hF⟩
  refine z_aload_n C 8 dX3_is_8 rfl 0 rfl ?_
  refine z_getI C 9 zcl3 (show i < 24 by omega) (zc4 ..) 1 (by decide) rfl wf_3_15 dX3_is_9 (fun zq2 ezq2 hzq2 => ?_)
  refine z_iload_n C 12 dX3_is_12 rfl 2 rfl ?_
  refine z_icmp_ne C 13 20 dX3_is_13 (by decide) hzq2 (by first | assumption | omega) (fun c13_17 => ?_) (fun c13_17 => ?_)
  · have hF : ¬ (zV M 4 i 0 = v ∧ zV M 4 i 1 = b) := by omega
    refine z_iconst C 20 dX3_is_20 ?_
    refine z_zret C 21 dX3_is_21 (by decide) (by decide) (by decide) ?_
    exact ⟨rfl, zb.zero hF⟩
  refine z_iconst C 16 dX3_is_16 ?_
  refine z_goto C 17 21 dX3_is_17 (by decide) ?_
  refine z_zret C 21 dX3_is_21 (by decide) (by decide) (by decide) ?_
  exact ⟨rfl, zb.one (by omega)⟩
set_option maxHeartbeats 4000000 in
set_option maxRecDepth 100000 in
theorem c_X3_meets_4 (l : Launch) (G : zG) (M : zMem) (i : Nat) (hi : i < 24) (hp : zpfx (zV M 4 i 0) (zV M 4 i 1)) (v b : Int) (hv : zpfx v b) : Met l yX3_meets [.code yX3_meets cX3_meets 4 (some .boolean)] (zR 1 0 0) (zPc G M [.ref (zad G 4 i), .int (zI v), .int (zI b)]) (zQi G (fun x M' => M = M' ∧ zb x (zmeet (zV M 4 i 0) (zV M 4 i 1) v b))) 0 0 (zA G) := by
  refine z_met [(0, .ref (zad G 4 i)), (1, .int (zI v)), (2, .int (zI b))] (by decide) (Nat.le_of_ble_eq_true rfl) rfl ?_
  intro p e s m below meth c C
  have C : zC p s m ([.ref (zad G 4 i), .int (zI v), .int (zI b)] : List Value).toArray meth c G RX3 cX3_meets 4 (some .boolean) := C
  obtain ⟨p0, p1, p2, p3⟩ := hp
  obtain ⟨v0, v1, v2, v3⟩ := hv
  refine z_aload_n C 0 dX3_meets_0 rfl 0 rfl ?_
  refine z_getI C 1 zcl3 (show i < 24 by omega) (zc4 ..) 1 (by decide) rfl wf_3_15 dX3_meets_1 (fun zq1 ezq1 hzq1 => ?_)
  refine z_iload_n C 4 dX3_meets_4 rfl 2 rfl ?_
  refine z_min C 5 wm_3_18 hzq1 (by first | assumption | omega) (by decide) dX3_meets_5 ?_
  refine z_istore_n (lv' := [(3, .int (zI (min zq1 b))), (0, .ref (zad G 4 i)), (1, .int (zI v)), (2, .int (zI b))]) C 8 dX3_meets_8 rfl (by decide) rfl ?_
  refine z_aload_n C 9 dX3_meets_9 rfl 1 rfl ?_
  refine z_getI C 10 zcl3 (show i < 24 by omega) (zc4 ..) 0 (by decide) rfl wf_3_9 dX3_meets_10 (fun zq2 ezq2 hzq2 => ?_)
  refine z_iload_n C 13 dX3_meets_13 rfl 2 rfl ?_
  refine z_ixor C 14 (v := zxr zq2 v) dX3_meets_14 (z_xor (by omega) (by omega)) ?_
  refine z_bipush C 15 dX3_meets_15 (by decide +kernel) ?_
  refine z_iload_n C 17 dX3_meets_17 rfl 0 rfl ?_
  refine z_isub C 18 dX3_meets_18 ?_
  refine z_iushr C 19 (v := zxs zq2 v (min zq1 b)) dX3_meets_19 (z_xsh (by omega) (by omega) (by omega) (by omega) (by omega) (by omega)) ?_
  refine z_if_ne C 20 27 dX3_meets_20 (by decide) (zxs_rg (by omega) (by omega) (by omega) (by omega)) (fun c20_21 => ?_) (fun c20_21 => ?_)
  · rw [zxs_0 (by omega) (by omega) (by omega) (by omega), ezq1, ezq2] at c20_21
    have hF : ¬ zmeet (zV M 4 i 0) (zV M 4 i 1) v b := c20_21
    refine z_iconst C 27 dX3_meets_27 ?_
    refine z_zret C 28 dX3_meets_28 (by decide) (by decide) (by decide) ?_
    exact ⟨rfl, zb.zero hF⟩
  rw [zxs_0 (by omega) (by omega) (by omega) (by omega), ezq1, ezq2] at c20_21
  have hF : zmeet (zV M 4 i 0) (zV M 4 i 1) v b := c20_21
  refine z_iconst C 23 dX3_meets_23 ?_
  refine z_goto C 24 28 dX3_meets_24 (by decide) ?_
  refine z_zret C 28 dX3_meets_28 (by decide) (by decide) (by decide) ?_
  exact ⟨rfl, zb.one hF⟩
set_option maxHeartbeats 4000000 in
set_option maxRecDepth 100000 in
theorem c_X3_covers_4 (l : Launch) (G : zG) (M : zMem) (i : Nat) (hi : i < 24) (hp : zpfx (zV M 4 i 0) (zV M 4 i 1)) (v : Int) (hv : 0 ≤ v ∧ v < 65536) : Met l yX3_covers [.code yX3_covers cX3_covers 2 (some .boolean)] (zR 2 0 0) (zPc G M [.ref (zad G 4 i), .int (zI v)]) (zQi G (fun x M' => M = M' ∧ zb x (zmeet (zV M 4 i 0) (zV M 4 i 1) v 16))) 0 0 (zA G) := by
  refine z_met [(0, .ref (zad G 4 i)), (1, .int (zI v))] (by decide) (Nat.le_of_ble_eq_true rfl) rfl ?_
  intro p e s m below meth c C
  have C : zC p s m ([.ref (zad G 4 i), .int (zI v)] : List Value).toArray meth c G RX3 cX3_covers 2 (some .boolean) := C
  refine z_aload_n C 0 dX3_covers_0 rfl 0 rfl ?_
  refine z_iload_n C 1 dX3_covers_1 rfl 1 rfl ?_
  refine z_bipush C 2 dX3_covers_2 (by decide +kernel) ?_
  refine z_callVi C 4 (As := [.int (zI v), .int (zI 16)]) (rest := []) (c_X3_meets_4 l G M i hi hp v 16 ⟨hv.1, hv.2, by decide, by decide⟩) zcl3 (show i < 24 by omega) (zc4 ..) (zW_of 2 C wm_3_24 wc_X3_meets wini_3 wi_X3_meets wse_X3_meets ⟨by decide, by decide, by decide⟩ ⟨by decide, by decide⟩) rfl (Nat.le_of_ble_eq_true rfl) ⟨by decide, by decide⟩ dX3_covers_4 rfl (fun zq1 Mz2 hzq1 hPz1 => ?_)
  obtain ⟨rfl, hPz1⟩ := hPz1
  refine z_zret C 7 dX3_covers_7 (by decide) (by decide) (hPz1.1) ?_
  exact ⟨rfl, hPz1⟩
set_option maxHeartbeats 4000000 in
set_option maxRecDepth 100000 in
theorem c_X3_set_14 (l : Launch) (G : zG) (M : zMem) (i : Nat) (hi : i < 12) (v b : Int) : Met l yX3_set [.code yX3_set cX3_set 3 none] (zR 0 0 0) (zPc G M [.ref (zad G 14 i), .int (zI v), .int (zI b)]) (zQv G (fun M' => M' = zup (zup M 14 i 0 (zI v)) 14 i 1 (zI b))) 0 0 (zA G) := by
  refine z_met [(0, .ref (zad G 14 i)), (1, .int (zI v)), (2, .int (zI b))] (by decide) (Nat.le_of_ble_eq_true rfl) rfl ?_
  intro p e s m below meth c C
  have C : zC p s m ([.ref (zad G 14 i), .int (zI v), .int (zI b)] : List Value).toArray meth c G RX3 cX3_set 3 none := C
  refine z_aload_n C 0 dX3_set_0 rfl 0 rfl ?_
  refine z_iload_n C 1 dX3_set_1 rfl 1 rfl ?_
  refine z_putI C 2 zcl3 (show i < 12 by omega) (zc14 ..) 0 (by decide) wf_3_9 rfl rfl rfl (Nat.le_of_ble_eq_true rfl) (zc14 ..) dX3_set_2 ?_
  refine z_aload_n C 5 dX3_set_5 rfl 0 rfl ?_
  refine z_iload_n C 6 dX3_set_6 rfl 2 rfl ?_
  refine z_putI C 7 zcl3 (show i < 12 by omega) (zc14 ..) 1 (by decide) wf_3_15 rfl rfl rfl (Nat.le_of_ble_eq_true rfl) (zc14 ..) dX3_set_7 ?_
  refine z_vret C 10 dX3_set_10 (by decide) (by decide) ?_
  exact rfl
set_option maxHeartbeats 4000000 in
set_option maxRecDepth 100000 in
theorem c_X3_is_14 (l : Launch) (G : zG) (M : zMem) (i : Nat) (hi : i < 12) (v b : Int) (hv : zrg v) (hb : zrg b) : Met l yX3_is [.code yX3_is cX3_is 3 (some .boolean)] (zR 0 0 0) (zPc G M [.ref (zad G 14 i), .int (zI v), .int (zI b)]) (zQi G (fun x M' => M = M' ∧ zb x (zV M 14 i 0 = v ∧ zV M 14 i 1 = b))) 0 0 (zA G) := by
  refine z_met [(0, .ref (zad G 14 i)), (1, .int (zI v)), (2, .int (zI b))] (by decide) (Nat.le_of_ble_eq_true rfl) rfl ?_
  intro p e s m below meth c C
  have C : zC p s m ([.ref (zad G 14 i), .int (zI v), .int (zI b)] : List Value).toArray meth c G RX3 cX3_is 3 (some .boolean) := C
  refine z_aload_n C 0 dX3_is_0 rfl 0 rfl ?_
  refine z_getI C 1 zcl3 (show i < 12 by omega) (zc14 ..) 0 (by decide) rfl wf_3_9 dX3_is_1 (fun zq1 ezq1 hzq1 => ?_)
  refine z_iload_n C 4 dX3_is_4 rfl 1 rfl ?_
  refine z_icmp_ne C 5 20 dX3_is_5 (by decide) hzq1 (by first | assumption | omega) (fun c5_9 => ?_) (fun c5_9 => ?_)
  · have hF : ¬ (zV M 14 i 0 = v ∧ zV M 14 i 1 = b) := by omega
    refine z_iconst C 20 dX3_is_20 ?_
    refine z_zret C 21 dX3_is_21 (by decide) (by decide) (by decide) ?_
    exact ⟨rfl, zb.zero hF⟩
  refine z_aload_n C 8 dX3_is_8 rfl 0 rfl ?_
  refine z_getI C 9 zcl3 (show i < 12 by omega) (zc14 ..) 1 (by decide) rfl wf_3_15 dX3_is_9 (fun zq2 ezq2 hzq2 => ?_)
  refine z_iload_n C 12 dX3_is_12 rfl 2 rfl ?_
  refine z_icmp_ne C 13 20 dX3_is_13 (by decide) hzq2 (by first | assumption | omega) (fun c13_17 => ?_) (fun c13_17 => ?_)
  · have hF : ¬ (zV M 14 i 0 = v ∧ zV M 14 i 1 = b) := by omega
    refine z_iconst C 20 dX3_is_20 ?_
    refine z_zret C 21 dX3_is_21 (by decide) (by decide) (by decide) ?_
    exact ⟨rfl, zb.zero hF⟩
  refine z_iconst C 16 dX3_is_16 ?_
  refine z_goto C 17 21 dX3_is_17 (by decide) ?_
  refine z_zret C 21 dX3_is_21 (by decide) (by decide) (by decide) ?_
  exact ⟨rfl, zb.one (by omega)⟩
set_option maxHeartbeats 4000000 in
set_option maxRecDepth 100000 in
theorem c_X3_meets_14 (l : Launch) (G : zG) (M : zMem) (i : Nat) (hi : i < 12) (hp : zpfx (zV M 14 i 0) (zV M 14 i 1)) (v b : Int) (hv : zpfx v b) : Met l yX3_meets [.code yX3_meets cX3_meets 4 (some .boolean)] (zR 1 0 0) (zPc G M [.ref (zad G 14 i), .int (zI v), .int (zI b)]) (zQi G (fun x M' => M = M' ∧ zb x (zmeet (zV M 14 i 0) (zV M 14 i 1) v b))) 0 0 (zA G) := by
  refine z_met [(0, .ref (zad G 14 i)), (1, .int (zI v)), (2, .int (zI b))] (by decide) (Nat.le_of_ble_eq_true rfl) rfl ?_
  intro p e s m below meth c C
  have C : zC p s m ([.ref (zad G 14 i), .int (zI v), .int (zI b)] : List Value).toArray meth c G RX3 cX3_meets 4 (some .boolean) := C
  obtain ⟨p0, p1, p2, p3⟩ := hp
  obtain ⟨v0, v1, v2, v3⟩ := hv
  refine z_aload_n C 0 dX3_meets_0 rfl 0 rfl ?_
  refine z_getI C 1 zcl3 (show i < 12 by omega) (zc14 ..) 1 (by decide) rfl wf_3_15 dX3_meets_1 (fun zq1 ezq1 hzq1 => ?_)
  refine z_iload_n C 4 dX3_meets_4 rfl 2 rfl ?_
  refine z_min C 5 wm_3_18 hzq1 (by first | assumption | omega) (by decide) dX3_meets_5 ?_
  refine z_istore_n (lv' := [(3, .int (zI (min zq1 b))), (0, .ref (zad G 14 i)), (1, .int (zI v)), (2, .int (zI b))]) C 8 dX3_meets_8 rfl (by decide) rfl ?_
  refine z_aload_n C 9 dX3_meets_9 rfl 1 rfl ?_
  refine z_getI C 10 zcl3 (show i < 12 by omega) (zc14 ..) 0 (by decide) rfl wf_3_9 dX3_meets_10 (fun zq2 ezq2 hzq2 => ?_)
  refine z_iload_n C 13 dX3_meets_13 rfl 2 rfl ?_
  refine z_ixor C 14 (v := zxr zq2 v) dX3_meets_14 (z_xor (by omega) (by omega)) ?_
  refine z_bipush C 15 dX3_meets_15 (by decide +kernel) ?_
  refine z_iload_n C 17 dX3_meets_17 rfl 0 rfl ?_
  refine z_isub C 18 dX3_meets_18 ?_
  refine z_iushr C 19 (v := zxs zq2 v (min zq1 b)) dX3_meets_19 (z_xsh (by omega) (by omega) (by omega) (by omega) (by omega) (by omega)) ?_
  refine z_if_ne C 20 27 dX3_meets_20 (by decide) (zxs_rg (by omega) (by omega) (by omega) (by omega)) (fun c20_21 => ?_) (fun c20_21 => ?_)
  · rw [zxs_0 (by omega) (by omega) (by omega) (by omega), ezq1, ezq2] at c20_21
    have hF : ¬ zmeet (zV M 14 i 0) (zV M 14 i 1) v b := c20_21
    refine z_iconst C 27 dX3_meets_27 ?_
    refine z_zret C 28 dX3_meets_28 (by decide) (by decide) (by decide) ?_
    exact ⟨rfl, zb.zero hF⟩
  rw [zxs_0 (by omega) (by omega) (by omega) (by omega), ezq1, ezq2] at c20_21
  have hF : zmeet (zV M 14 i 0) (zV M 14 i 1) v b := c20_21
  refine z_iconst C 23 dX3_meets_23 ?_
  refine z_goto C 24 28 dX3_meets_24 (by decide) ?_
  refine z_zret C 28 dX3_meets_28 (by decide) (by decide) (by decide) ?_
  exact ⟨rfl, zb.one hF⟩
set_option maxHeartbeats 4000000 in
set_option maxRecDepth 100000 in
theorem c_X3_covers_14 (l : Launch) (G : zG) (M : zMem) (i : Nat) (hi : i < 12) (hp : zpfx (zV M 14 i 0) (zV M 14 i 1)) (v : Int) (hv : 0 ≤ v ∧ v < 65536) : Met l yX3_covers [.code yX3_covers cX3_covers 2 (some .boolean)] (zR 2 0 0) (zPc G M [.ref (zad G 14 i), .int (zI v)]) (zQi G (fun x M' => M = M' ∧ zb x (zmeet (zV M 14 i 0) (zV M 14 i 1) v 16))) 0 0 (zA G) := by
  refine z_met [(0, .ref (zad G 14 i)), (1, .int (zI v))] (by decide) (Nat.le_of_ble_eq_true rfl) rfl ?_
  intro p e s m below meth c C
  have C : zC p s m ([.ref (zad G 14 i), .int (zI v)] : List Value).toArray meth c G RX3 cX3_covers 2 (some .boolean) := C
  refine z_aload_n C 0 dX3_covers_0 rfl 0 rfl ?_
  refine z_iload_n C 1 dX3_covers_1 rfl 1 rfl ?_
  refine z_bipush C 2 dX3_covers_2 (by decide +kernel) ?_
  refine z_callVi C 4 (As := [.int (zI v), .int (zI 16)]) (rest := []) (c_X3_meets_14 l G M i hi hp v 16 ⟨hv.1, hv.2, by decide, by decide⟩) zcl3 (show i < 12 by omega) (zc14 ..) (zW_of 2 C wm_3_24 wc_X3_meets wini_3 wi_X3_meets wse_X3_meets ⟨by decide, by decide, by decide⟩ ⟨by decide, by decide⟩) rfl (Nat.le_of_ble_eq_true rfl) ⟨by decide, by decide⟩ dX3_covers_4 rfl (fun zq1 Mz2 hzq1 hPz1 => ?_)
  obtain ⟨rfl, hPz1⟩ := hPz1
  refine z_zret C 7 dX3_covers_7 (by decide) (by decide) (hPz1.1) ?_
  exact ⟨rfl, hPz1⟩
set_option maxHeartbeats 4000000 in
set_option maxRecDepth 100000 in
theorem c_X3_set_20 (l : Launch) (G : zG) (M : zMem) (i : Nat) (hi : i < 24) (v b : Int) : Met l yX3_set [.code yX3_set cX3_set 3 none] (zR 0 0 0) (zPc G M [.ref (zad G 20 i), .int (zI v), .int (zI b)]) (zQv G (fun M' => M' = zup (zup M 20 i 0 (zI v)) 20 i 1 (zI b))) 0 0 (zA G) := by
  refine z_met [(0, .ref (zad G 20 i)), (1, .int (zI v)), (2, .int (zI b))] (by decide) (Nat.le_of_ble_eq_true rfl) rfl ?_
  intro p e s m below meth c C
  have C : zC p s m ([.ref (zad G 20 i), .int (zI v), .int (zI b)] : List Value).toArray meth c G RX3 cX3_set 3 none := C
  refine z_aload_n C 0 dX3_set_0 rfl 0 rfl ?_
  refine z_iload_n C 1 dX3_set_1 rfl 1 rfl ?_
  refine z_putI C 2 zcl3 (show i < 24 by omega) (zc20 ..) 0 (by decide) wf_3_9 rfl rfl rfl (Nat.le_of_ble_eq_true rfl) (zc20 ..) dX3_set_2 ?_
  refine z_aload_n C 5 dX3_set_5 rfl 0 rfl ?_
  refine z_iload_n C 6 dX3_set_6 rfl 2 rfl ?_
  refine z_putI C 7 zcl3 (show i < 24 by omega) (zc20 ..) 1 (by decide) wf_3_15 rfl rfl rfl (Nat.le_of_ble_eq_true rfl) (zc20 ..) dX3_set_7 ?_
  refine z_vret C 10 dX3_set_10 (by decide) (by decide) ?_
  exact rfl
set_option maxHeartbeats 4000000 in
set_option maxRecDepth 100000 in
theorem c_X3_meets_20 (l : Launch) (G : zG) (M : zMem) (i : Nat) (hi : i < 24) (hp : zpfx (zV M 20 i 0) (zV M 20 i 1)) (v b : Int) (hv : zpfx v b) : Met l yX3_meets [.code yX3_meets cX3_meets 4 (some .boolean)] (zR 1 0 0) (zPc G M [.ref (zad G 20 i), .int (zI v), .int (zI b)]) (zQi G (fun x M' => M = M' ∧ zb x (zmeet (zV M 20 i 0) (zV M 20 i 1) v b))) 0 0 (zA G) := by
  refine z_met [(0, .ref (zad G 20 i)), (1, .int (zI v)), (2, .int (zI b))] (by decide) (Nat.le_of_ble_eq_true rfl) rfl ?_
  intro p e s m below meth c C
  have C : zC p s m ([.ref (zad G 20 i), .int (zI v), .int (zI b)] : List Value).toArray meth c G RX3 cX3_meets 4 (some .boolean) := C
  obtain ⟨p0, p1, p2, p3⟩ := hp
  obtain ⟨v0, v1, v2, v3⟩ := hv
  refine z_aload_n C 0 dX3_meets_0 rfl 0 rfl ?_
  refine z_getI C 1 zcl3 (show i < 24 by omega) (zc20 ..) 1 (by decide) rfl wf_3_15 dX3_meets_1 (fun zq1 ezq1 hzq1 => ?_)
  refine z_iload_n C 4 dX3_meets_4 rfl 2 rfl ?_
  refine z_min C 5 wm_3_18 hzq1 (by first | assumption | omega) (by decide) dX3_meets_5 ?_
  refine z_istore_n (lv' := [(3, .int (zI (min zq1 b))), (0, .ref (zad G 20 i)), (1, .int (zI v)), (2, .int (zI b))]) C 8 dX3_meets_8 rfl (by decide) rfl ?_
  refine z_aload_n C 9 dX3_meets_9 rfl 1 rfl ?_
  refine z_getI C 10 zcl3 (show i < 24 by omega) (zc20 ..) 0 (by decide) rfl wf_3_9 dX3_meets_10 (fun zq2 ezq2 hzq2 => ?_)
  refine z_iload_n C 13 dX3_meets_13 rfl 2 rfl ?_
  refine z_ixor C 14 (v := zxr zq2 v) dX3_meets_14 (z_xor (by omega) (by omega)) ?_
  refine z_bipush C 15 dX3_meets_15 (by decide +kernel) ?_
  refine z_iload_n C 17 dX3_meets_17 rfl 0 rfl ?_
  refine z_isub C 18 dX3_meets_18 ?_
  refine z_iushr C 19 (v := zxs zq2 v (min zq1 b)) dX3_meets_19 (z_xsh (by omega) (by omega) (by omega) (by omega) (by omega) (by omega)) ?_
  refine z_if_ne C 20 27 dX3_meets_20 (by decide) (zxs_rg (by omega) (by omega) (by omega) (by omega)) (fun c20_21 => ?_) (fun c20_21 => ?_)
  · rw [zxs_0 (by omega) (by omega) (by omega) (by omega), ezq1, ezq2] at c20_21
    have hF : ¬ zmeet (zV M 20 i 0) (zV M 20 i 1) v b := c20_21
    refine z_iconst C 27 dX3_meets_27 ?_
    refine z_zret C 28 dX3_meets_28 (by decide) (by decide) (by decide) ?_
    exact ⟨rfl, zb.zero hF⟩
  rw [zxs_0 (by omega) (by omega) (by omega) (by omega), ezq1, ezq2] at c20_21
  have hF : zmeet (zV M 20 i 0) (zV M 20 i 1) v b := c20_21
  refine z_iconst C 23 dX3_meets_23 ?_
  refine z_goto C 24 28 dX3_meets_24 (by decide) ?_
  refine z_zret C 28 dX3_meets_28 (by decide) (by decide) (by decide) ?_
  exact ⟨rfl, zb.one hF⟩
set_option maxHeartbeats 4000000 in
set_option maxRecDepth 100000 in
theorem c_X3_covers_20 (l : Launch) (G : zG) (M : zMem) (i : Nat) (hi : i < 24) (hp : zpfx (zV M 20 i 0) (zV M 20 i 1)) (v : Int) (hv : 0 ≤ v ∧ v < 65536) : Met l yX3_covers [.code yX3_covers cX3_covers 2 (some .boolean)] (zR 2 0 0) (zPc G M [.ref (zad G 20 i), .int (zI v)]) (zQi G (fun x M' => M = M' ∧ zb x (zmeet (zV M 20 i 0) (zV M 20 i 1) v 16))) 0 0 (zA G) := by
  refine z_met [(0, .ref (zad G 20 i)), (1, .int (zI v))] (by decide) (Nat.le_of_ble_eq_true rfl) rfl ?_
  intro p e s m below meth c C
  have C : zC p s m ([.ref (zad G 20 i), .int (zI v)] : List Value).toArray meth c G RX3 cX3_covers 2 (some .boolean) := C
  refine z_aload_n C 0 dX3_covers_0 rfl 0 rfl ?_
  refine z_iload_n C 1 dX3_covers_1 rfl 1 rfl ?_
  refine z_bipush C 2 dX3_covers_2 (by decide +kernel) ?_
  refine z_callVi C 4 (As := [.int (zI v), .int (zI 16)]) (rest := []) (c_X3_meets_20 l G M i hi hp v 16 ⟨hv.1, hv.2, by decide, by decide⟩) zcl3 (show i < 24 by omega) (zc20 ..) (zW_of 2 C wm_3_24 wc_X3_meets wini_3 wi_X3_meets wse_X3_meets ⟨by decide, by decide, by decide⟩ ⟨by decide, by decide⟩) rfl (Nat.le_of_ble_eq_true rfl) ⟨by decide, by decide⟩ dX3_covers_4 rfl (fun zq1 Mz2 hzq1 hPz1 => ?_)
  obtain ⟨rfl, hPz1⟩ := hPz1
  refine z_zret C 7 dX3_covers_7 (by decide) (by decide) (hPz1.1) ?_
  exact ⟨rfl, hPz1⟩
set_option maxHeartbeats 4000000 in
set_option maxRecDepth 100000 in
theorem c_X1_placeOf_5 (l : Launch) (G : zG) (M : zMem) (i : Nat) (hi : i < 24) (hn : 0 ≤ zV M 5 i 3 ∧ zV M 5 i 3 ≤ 4) (a : Int) (ha : zrg a) : Met l yX1_placeOf [.code yX1_placeOf cX1_placeOf 3 (some .int)] (zR 0 0 0) (zPc G M [.ref (zad G 5 i), .int (zI a)]) (zQi G (fun x M' => M = M' ∧ zplace (fun j => zV M 6 i j) (zV M 5 i 3) a x)) 0 0 (zA G) := by
  refine z_met [(0, .ref (zad G 5 i)), (1, .int (zI a))] (by decide) (Nat.le_of_ble_eq_true rfl) rfl ?_
  intro p e s m below meth c C
  have C : zC p s m ([.ref (zad G 5 i), .int (zI a)] : List Value).toArray meth c G RX1 cX1_placeOf 3 (some .int) := C
  refine z_iconst C 0 dX1_placeOf_0 ?_
  refine z_istore_n (lv' := [(2, .int (zI 0)), (0, .ref (zad G 5 i)), (1, .int (zI a))]) C 1 dX1_placeOf_1 rfl (by decide) rfl ?_
  have L2_1 : ∀ (kz1 : Nat) (k : Int), (0 ≤ k ∧ k ≤ zV M 5 i 3) → (∀ j : Nat, (j : Int) < k → (fun j => zV M 6 i j) j ≠ a) → (zV M 5 i 3 - k) < (kz1 : Int) → zZ p l e (zR 0 0 0) s m ([.ref (zad G 5 i), .int (zI a)] : List Value).toArray below meth c G 3 (MQ below (zQi G (fun x M' => M = M' ∧ zplace (fun j => zV M 6 i j) (zV M 5 i 3) a x)) ([.ref (zad G 5 i), .int (zI a)] : List Value).toArray s 0 0 (zA G)) M 0 0 2 [(0, .ref (zad G 5 i)), (1, .int (zI a)), (2, .int (zI k))] [] := by
    intro kz1
    induction kz1 with
    | zero =>
      intro k g0 g1 hk
      exact absurd hk (by omega)
    | succ kz1 ihz2 =>
      intro k g0 g1 hk
      refine z_iload_n C 2 dX1_placeOf_2 rfl 2 rfl ?_
      refine z_aload_n C 3 dX1_placeOf_3 rfl 0 rfl ?_
      refine z_getI C 4 zcl1 (show i < 24 by omega) (zc5 ..) 3 (by decide) rfl wf_1_21 dX1_placeOf_4 (fun zq3 ezq3 hzq3 => ?_)
      refine z_icmp_ge C 7 28 dX1_placeOf_7 (by decide) (by first | assumption | omega) hzq3 (fun c7_19 => ?_) (fun c7_19 => ?_)
      · refine z_iconst C 28 dX1_placeOf_28 ?_
        refine z_iret C 29 dX1_placeOf_29 (by decide) (by decide) (by decide) ?_
        exact ⟨rfl, Or.inl ⟨rfl, fun j hj => g1 j (by omega)⟩⟩
      refine z_aload_n C 10 dX1_placeOf_10 rfl 0 rfl ?_
      refine z_get C 11 zcl1 (show i < 24 by omega) (zc5 ..) 0 (by decide) rfl wf_1_9 dX1_placeOf_11 ?_
      refine z_iload_n C 14 dX1_placeOf_14 rfl 2 rfl ?_
      refine z_iald C 15 (show i < 24 by omega) (zc6 ..) (by first | assumption | omega) (by omega) (show k < ((4 : Nat) : Int) by omega) dX1_placeOf_15 (fun zq4 ezq4 hzq4 => ?_)
      refine z_iload_n C 16 dX1_placeOf_16 rfl 1 rfl ?_
      refine z_icmp_ne C 17 22 dX1_placeOf_17 (by decide) hzq4 (by first | assumption | omega) (fun c17_28 => ?_) (fun c17_28 => ?_)
      · refine z_iinc (lv' := [(2, .int (zI (k + 1))), (0, .ref (zad G 5 i)), (1, .int (zI a))]) C 22 dX1_placeOf_22 2 rfl (by decide) rfl ?_
        refine z_goto C 25 2 dX1_placeOf_25 (by decide) ?_
        refine z_sub (lv' := [(0, .ref (zad G 5 i)), (1, .int (zI a)), (2, .int (zI (k + 1)))]) [1, 2, 0] rfl ?_
        exact ihz2 (k + 1) (by omega) (by intro j hj; exact (Int.lt_or_le (j : Int) k).elim (g1 j) (fun q => by rw [show j = k.toNat by omega]; show zV M 6 i k.toNat ≠ a; omega)) (by omega)
      refine z_iload_n C 20 dX1_placeOf_20 rfl 2 rfl ?_
      refine z_iret C 21 dX1_placeOf_21 (by decide) (by decide) (by first | assumption | omega) ?_
      exact ⟨rfl, Or.inr ⟨k.toNat, by omega, by omega, by show zV M 6 i k.toNat = a; omega, fun j hj => g1 j (by omega)⟩⟩
  refine z_sub (lv' := [(0, .ref (zad G 5 i)), (1, .int (zI a)), (2, .int (zI 0))]) [1, 2, 0] rfl ?_
  exact L2_1 (((zV M 5 i 3 - 0 : Int)).toNat + 1) 0 (by omega) (by intro j hj; omega) (by omega)
set_option maxHeartbeats 4000000 in
set_option maxRecDepth 100000 in
theorem c_X1_add_5 (l : Launch) (G : zG) (M : zMem) (i : Nat) (hi : i < 24) (hn : 0 ≤ zV M 5 i 3 ∧ zV M 5 i 3 < 4) (a b w : Int) : Met l yX1_add [.code yX1_add cX1_add 4 none] (zR 0 0 0) (zPc G M [.ref (zad G 5 i), .int (zI a), .int (zI b), .int (zI w)]) (zQv G (fun M' => M' = zup (zup (zup (zup M 6 i (zV M 5 i 3).toNat (zI a)) 7 i (zV M 5 i 3).toNat (zI b)) 8 i (zV M 5 i 3).toNat (zI w)) 5 i 3 (zI (zV M 5 i 3 + 1)))) 0 0 (zA G) := by
  refine z_met [(0, .ref (zad G 5 i)), (1, .int (zI a)), (2, .int (zI b)), (3, .int (zI w))] (by decide) (Nat.le_of_ble_eq_true rfl) rfl ?_
  intro p e s m below meth c C
  have C : zC p s m ([.ref (zad G 5 i), .int (zI a), .int (zI b), .int (zI w)] : List Value).toArray meth c G RX1 cX1_add 4 none := C
  refine z_aload_n C 0 dX1_add_0 rfl 0 rfl ?_
  refine z_get C 1 zcl1 (show i < 24 by omega) (zc5 ..) 0 (by decide) rfl wf_1_9 dX1_add_1 ?_
  refine z_aload_n C 4 dX1_add_4 rfl 0 rfl ?_
  refine z_getI C 5 zcl1 (show i < 24 by omega) (zc5 ..) 3 (by decide) rfl wf_1_21 dX1_add_5 (fun zq1 ezq1 hzq1 => ?_)
  refine z_iload_n C 8 dX1_add_8 rfl 1 rfl ?_
  refine z_iast C 9 (show i < 24 by omega) (zc6 ..) hzq1 (by omega) (show zq1 < ((4 : Nat) : Int) by omega) (zc6 ..) dX1_add_9 ?_
  refine z_aload_n C 10 dX1_add_10 rfl 0 rfl ?_
  refine z_get C 11 zcl1 (show i < 24 by omega) (zc5 ..) 1 (by decide) rfl wf_1_15 dX1_add_11 ?_
  refine z_aload_n C 14 dX1_add_14 rfl 0 rfl ?_
  refine z_getI C 15 zcl1 (show i < 24 by omega) (zc5 ..) 3 (by decide) rfl wf_1_21 dX1_add_15 (fun zq2 ezq2 hzq2 => ?_)
  rw [zV_ne (by decide)] at ezq2
  refine z_iload_n C 18 dX1_add_18 rfl 2 rfl ?_
  refine z_iast C 19 (show i < 24 by omega) (zc7 ..) hzq2 (by omega) (show zq2 < ((4 : Nat) : Int) by omega) (zc7 ..) dX1_add_19 ?_
  refine z_aload_n C 20 dX1_add_20 rfl 0 rfl ?_
  refine z_get C 21 zcl1 (show i < 24 by omega) (zc5 ..) 2 (by decide) rfl wf_1_18 dX1_add_21 ?_
  refine z_aload_n C 24 dX1_add_24 rfl 0 rfl ?_
  refine z_getI C 25 zcl1 (show i < 24 by omega) (zc5 ..) 3 (by decide) rfl wf_1_21 dX1_add_25 (fun zq3 ezq3 hzq3 => ?_)
  rw [zV_ne (by decide)] at ezq3
  rw [zV_ne (by decide)] at ezq3
  refine z_iload_n C 28 dX1_add_28 rfl 3 rfl ?_
  refine z_iast C 29 (show i < 24 by omega) (zc8 ..) hzq3 (by omega) (show zq3 < ((4 : Nat) : Int) by omega) (zc8 ..) dX1_add_29 ?_
  refine z_aload_n C 30 dX1_add_30 rfl 0 rfl ?_
  refine z_dup C 31 dX1_add_31 rfl ?_
  refine z_getI C 32 zcl1 (show i < 24 by omega) (zc5 ..) 3 (by decide) rfl wf_1_21 dX1_add_32 (fun zq4 ezq4 hzq4 => ?_)
  rw [zV_ne (by decide)] at ezq4
  rw [zV_ne (by decide)] at ezq4
  rw [zV_ne (by decide)] at ezq4
  refine z_iconst C 35 dX1_add_35 ?_
  refine z_iadd C 36 dX1_add_36 ?_
  refine z_putI C 37 zcl1 (show i < 24 by omega) (zc5 ..) 3 (by decide) wf_1_21 rfl rfl rfl (Nat.le_of_ble_eq_true rfl) (zc5 ..) dX1_add_37 ?_
  refine z_vret C 40 dX1_add_40 (by decide) (by decide) ?_
  show _ = _
  obtain rfl := ezq1
  obtain rfl := ezq2
  obtain rfl := ezq3
  obtain rfl := ezq4
  rfl
set_option maxHeartbeats 4000000 in
set_option maxRecDepth 100000 in
theorem c_X1_placeOf_21 (l : Launch) (G : zG) (M : zMem) (i : Nat) (hi : i < 24) (hn : 0 ≤ zV M 21 i 3 ∧ zV M 21 i 3 ≤ 4) (a : Int) (ha : zrg a) : Met l yX1_placeOf [.code yX1_placeOf cX1_placeOf 3 (some .int)] (zR 0 0 0) (zPc G M [.ref (zad G 21 i), .int (zI a)]) (zQi G (fun x M' => M = M' ∧ zplace (fun j => zV M 22 i j) (zV M 21 i 3) a x)) 0 0 (zA G) := by
  refine z_met [(0, .ref (zad G 21 i)), (1, .int (zI a))] (by decide) (Nat.le_of_ble_eq_true rfl) rfl ?_
  intro p e s m below meth c C
  have C : zC p s m ([.ref (zad G 21 i), .int (zI a)] : List Value).toArray meth c G RX1 cX1_placeOf 3 (some .int) := C
  refine z_iconst C 0 dX1_placeOf_0 ?_
  refine z_istore_n (lv' := [(2, .int (zI 0)), (0, .ref (zad G 21 i)), (1, .int (zI a))]) C 1 dX1_placeOf_1 rfl (by decide) rfl ?_
  have L2_1 : ∀ (kz1 : Nat) (k : Int), (0 ≤ k ∧ k ≤ zV M 21 i 3) → (∀ j : Nat, (j : Int) < k → (fun j => zV M 22 i j) j ≠ a) → (zV M 21 i 3 - k) < (kz1 : Int) → zZ p l e (zR 0 0 0) s m ([.ref (zad G 21 i), .int (zI a)] : List Value).toArray below meth c G 3 (MQ below (zQi G (fun x M' => M = M' ∧ zplace (fun j => zV M 22 i j) (zV M 21 i 3) a x)) ([.ref (zad G 21 i), .int (zI a)] : List Value).toArray s 0 0 (zA G)) M 0 0 2 [(0, .ref (zad G 21 i)), (1, .int (zI a)), (2, .int (zI k))] [] := by
    intro kz1
    induction kz1 with
    | zero =>
      intro k g0 g1 hk
      exact absurd hk (by omega)
    | succ kz1 ihz2 =>
      intro k g0 g1 hk
      refine z_iload_n C 2 dX1_placeOf_2 rfl 2 rfl ?_
      refine z_aload_n C 3 dX1_placeOf_3 rfl 0 rfl ?_
      refine z_getI C 4 zcl1 (show i < 24 by omega) (zc21 ..) 3 (by decide) rfl wf_1_21 dX1_placeOf_4 (fun zq3 ezq3 hzq3 => ?_)
      refine z_icmp_ge C 7 28 dX1_placeOf_7 (by decide) (by first | assumption | omega) hzq3 (fun c7_19 => ?_) (fun c7_19 => ?_)
      · refine z_iconst C 28 dX1_placeOf_28 ?_
        refine z_iret C 29 dX1_placeOf_29 (by decide) (by decide) (by decide) ?_
        exact ⟨rfl, Or.inl ⟨rfl, fun j hj => g1 j (by omega)⟩⟩
      refine z_aload_n C 10 dX1_placeOf_10 rfl 0 rfl ?_
      refine z_get C 11 zcl1 (show i < 24 by omega) (zc21 ..) 0 (by decide) rfl wf_1_9 dX1_placeOf_11 ?_
      refine z_iload_n C 14 dX1_placeOf_14 rfl 2 rfl ?_
      refine z_iald C 15 (show i < 24 by omega) (zc22 ..) (by first | assumption | omega) (by omega) (show k < ((4 : Nat) : Int) by omega) dX1_placeOf_15 (fun zq4 ezq4 hzq4 => ?_)
      refine z_iload_n C 16 dX1_placeOf_16 rfl 1 rfl ?_
      refine z_icmp_ne C 17 22 dX1_placeOf_17 (by decide) hzq4 (by first | assumption | omega) (fun c17_28 => ?_) (fun c17_28 => ?_)
      · refine z_iinc (lv' := [(2, .int (zI (k + 1))), (0, .ref (zad G 21 i)), (1, .int (zI a))]) C 22 dX1_placeOf_22 2 rfl (by decide) rfl ?_
        refine z_goto C 25 2 dX1_placeOf_25 (by decide) ?_
        refine z_sub (lv' := [(0, .ref (zad G 21 i)), (1, .int (zI a)), (2, .int (zI (k + 1)))]) [1, 2, 0] rfl ?_
        exact ihz2 (k + 1) (by omega) (by intro j hj; exact (Int.lt_or_le (j : Int) k).elim (g1 j) (fun q => by rw [show j = k.toNat by omega]; show zV M 22 i k.toNat ≠ a; omega)) (by omega)
      refine z_iload_n C 20 dX1_placeOf_20 rfl 2 rfl ?_
      refine z_iret C 21 dX1_placeOf_21 (by decide) (by decide) (by first | assumption | omega) ?_
      exact ⟨rfl, Or.inr ⟨k.toNat, by omega, by omega, by show zV M 22 i k.toNat = a; omega, fun j hj => g1 j (by omega)⟩⟩
  refine z_sub (lv' := [(0, .ref (zad G 21 i)), (1, .int (zI a)), (2, .int (zI 0))]) [1, 2, 0] rfl ?_
  exact L2_1 (((zV M 21 i 3 - 0 : Int)).toNat + 1) 0 (by omega) (by intro j hj; omega) (by omega)
set_option maxHeartbeats 4000000 in
set_option maxRecDepth 100000 in
theorem c_X1_add_21 (l : Launch) (G : zG) (M : zMem) (i : Nat) (hi : i < 24) (hn : 0 ≤ zV M 21 i 3 ∧ zV M 21 i 3 < 4) (a b w : Int) : Met l yX1_add [.code yX1_add cX1_add 4 none] (zR 0 0 0) (zPc G M [.ref (zad G 21 i), .int (zI a), .int (zI b), .int (zI w)]) (zQv G (fun M' => M' = zup (zup (zup (zup M 22 i (zV M 21 i 3).toNat (zI a)) 23 i (zV M 21 i 3).toNat (zI b)) 24 i (zV M 21 i 3).toNat (zI w)) 21 i 3 (zI (zV M 21 i 3 + 1)))) 0 0 (zA G) := by
  refine z_met [(0, .ref (zad G 21 i)), (1, .int (zI a)), (2, .int (zI b)), (3, .int (zI w))] (by decide) (Nat.le_of_ble_eq_true rfl) rfl ?_
  intro p e s m below meth c C
  have C : zC p s m ([.ref (zad G 21 i), .int (zI a), .int (zI b), .int (zI w)] : List Value).toArray meth c G RX1 cX1_add 4 none := C
  refine z_aload_n C 0 dX1_add_0 rfl 0 rfl ?_
  refine z_get C 1 zcl1 (show i < 24 by omega) (zc21 ..) 0 (by decide) rfl wf_1_9 dX1_add_1 ?_
  refine z_aload_n C 4 dX1_add_4 rfl 0 rfl ?_
  refine z_getI C 5 zcl1 (show i < 24 by omega) (zc21 ..) 3 (by decide) rfl wf_1_21 dX1_add_5 (fun zq1 ezq1 hzq1 => ?_)
  refine z_iload_n C 8 dX1_add_8 rfl 1 rfl ?_
  refine z_iast C 9 (show i < 24 by omega) (zc22 ..) hzq1 (by omega) (show zq1 < ((4 : Nat) : Int) by omega) (zc22 ..) dX1_add_9 ?_
  refine z_aload_n C 10 dX1_add_10 rfl 0 rfl ?_
  refine z_get C 11 zcl1 (show i < 24 by omega) (zc21 ..) 1 (by decide) rfl wf_1_15 dX1_add_11 ?_
  refine z_aload_n C 14 dX1_add_14 rfl 0 rfl ?_
  refine z_getI C 15 zcl1 (show i < 24 by omega) (zc21 ..) 3 (by decide) rfl wf_1_21 dX1_add_15 (fun zq2 ezq2 hzq2 => ?_)
  rw [zV_ne (by decide)] at ezq2
  refine z_iload_n C 18 dX1_add_18 rfl 2 rfl ?_
  refine z_iast C 19 (show i < 24 by omega) (zc23 ..) hzq2 (by omega) (show zq2 < ((4 : Nat) : Int) by omega) (zc23 ..) dX1_add_19 ?_
  refine z_aload_n C 20 dX1_add_20 rfl 0 rfl ?_
  refine z_get C 21 zcl1 (show i < 24 by omega) (zc21 ..) 2 (by decide) rfl wf_1_18 dX1_add_21 ?_
  refine z_aload_n C 24 dX1_add_24 rfl 0 rfl ?_
  refine z_getI C 25 zcl1 (show i < 24 by omega) (zc21 ..) 3 (by decide) rfl wf_1_21 dX1_add_25 (fun zq3 ezq3 hzq3 => ?_)
  rw [zV_ne (by decide)] at ezq3
  rw [zV_ne (by decide)] at ezq3
  refine z_iload_n C 28 dX1_add_28 rfl 3 rfl ?_
  refine z_iast C 29 (show i < 24 by omega) (zc24 ..) hzq3 (by omega) (show zq3 < ((4 : Nat) : Int) by omega) (zc24 ..) dX1_add_29 ?_
  refine z_aload_n C 30 dX1_add_30 rfl 0 rfl ?_
  refine z_dup C 31 dX1_add_31 rfl ?_
  refine z_getI C 32 zcl1 (show i < 24 by omega) (zc21 ..) 3 (by decide) rfl wf_1_21 dX1_add_32 (fun zq4 ezq4 hzq4 => ?_)
  rw [zV_ne (by decide)] at ezq4
  rw [zV_ne (by decide)] at ezq4
  rw [zV_ne (by decide)] at ezq4
  refine z_iconst C 35 dX1_add_35 ?_
  refine z_iadd C 36 dX1_add_36 ?_
  refine z_putI C 37 zcl1 (show i < 24 by omega) (zc21 ..) 3 (by decide) wf_1_21 rfl rfl rfl (Nat.le_of_ble_eq_true rfl) (zc21 ..) dX1_add_37 ?_
  refine z_vret C 40 dX1_add_40 (by decide) (by decide) ?_
  show _ = _
  obtain rfl := ezq1
  obtain rfl := ezq2
  obtain rfl := ezq3
  obtain rfl := ezq4
  rfl
set_option maxHeartbeats 4000000 in
set_option maxRecDepth 100000 in
theorem c_X1_clear_21 (l : Launch) (G : zG) (M : zMem) (i : Nat) (hi : i < 24)  : Met l yX1_clear [.code yX1_clear cX1_clear 1 none] (zR 0 0 0) (zPc G M [.ref (zad G 21 i)]) (zQv G (fun M' => M' = zup M 21 i 3 (zI 0))) 0 0 (zA G) := by
  refine z_met [(0, .ref (zad G 21 i))] (by decide) (Nat.le_of_ble_eq_true rfl) rfl ?_
  intro p e s m below meth c C
  have C : zC p s m ([.ref (zad G 21 i)] : List Value).toArray meth c G RX1 cX1_clear 1 none := C
  refine z_aload_n C 0 dX1_clear_0 rfl 0 rfl ?_
  refine z_iconst C 1 dX1_clear_1 ?_
  refine z_putI C 2 zcl1 (show i < 24 by omega) (zc21 ..) 3 (by decide) wf_1_21 rfl rfl rfl (Nat.le_of_ble_eq_true rfl) (zc21 ..) dX1_clear_2 ?_
  refine z_vret C 5 dX1_clear_5 (by decide) (by decide) ?_
  exact rfl
set_option maxHeartbeats 4000000 in
set_option maxRecDepth 100000 in
theorem c_X1_removeAt_5 (l : Launch) (G : zG) (M : zMem) (i : Nat) (hi : i < 24) (hn : zV M 5 i 3 ≤ 4) (a : Int) (ha : 0 ≤ a ∧ a < zV M 5 i 3) : Met l yX1_removeAt [.code yX1_removeAt cX1_removeAt 3 none] (zR 0 0 0) (zPc G M [.ref (zad G 5 i), .int (zI a)]) (zQv G (fun M' => zshift M M' i a (zV M 5 i 3 - 1) (zV M 5 i 3 - 1))) 0 0 (zA G) := by
  refine z_met [(0, .ref (zad G 5 i)), (1, .int (zI a))] (by decide) (Nat.le_of_ble_eq_true rfl) rfl ?_
  intro p e s m below meth c C
  have C : zC p s m ([.ref (zad G 5 i), .int (zI a)] : List Value).toArray meth c G RX1 cX1_removeAt 3 none := C
  refine z_aload_n C 0 dX1_removeAt_0 rfl 0 rfl ?_
  refine z_dup C 1 dX1_removeAt_1 rfl ?_
  refine z_getI C 2 zcl1 (show i < 24 by omega) (zc5 ..) 3 (by decide) rfl wf_1_21 dX1_removeAt_2 (fun zq1 ezq1 hzq1 => ?_)
  refine z_iconst C 5 dX1_removeAt_5 ?_
  refine z_isub C 6 dX1_removeAt_6 ?_
  refine z_putI C 7 zcl1 (show i < 24 by omega) (zc5 ..) 3 (by decide) wf_1_21 rfl rfl rfl (Nat.le_of_ble_eq_true rfl) (zc5 ..) dX1_removeAt_7 ?_
  refine z_iload_n C 10 dX1_removeAt_10 rfl 1 rfl ?_
  refine z_istore_n (lv' := [(2, .int (zI a)), (0, .ref (zad G 5 i)), (1, .int (zI a))]) C 11 dX1_removeAt_11 rfl (by decide) rfl ?_
  have L12_2 : ∀ (kz2 : Nat) (M1 : zMem) (k : Int), (a ≤ k ∧ k ≤ zV M 5 i 3 - 1) → (zshift M M1 i a k (zV M 5 i 3 - 1)) → (zV M 5 i 3 - 1 - k) < (kz2 : Int) → zZ p l e (zR 0 0 0) s m ([.ref (zad G 5 i), .int (zI a)] : List Value).toArray below meth c G 3 (MQ below (zQv G (fun M' => zshift M M' i a (zV M 5 i 3 - 1) (zV M 5 i 3 - 1))) ([.ref (zad G 5 i), .int (zI a)] : List Value).toArray s 0 0 (zA G)) M1 0 0 12 [(0, .ref (zad G 5 i)), (1, .int (zI a)), (2, .int (zI k))] [] := by
    intro kz2
    induction kz2 with
    | zero =>
      intro M1 k g0 g1 hk
      exact absurd hk (by omega)
    | succ kz2 ihz3 =>
      intro M1 k g0 g1 hk
      refine z_iload_n C 12 dX1_removeAt_12 rfl 2 rfl ?_
      refine z_aload_n C 13 dX1_removeAt_13 rfl 0 rfl ?_
      refine z_getI C 14 zcl1 (show i < 24 by omega) (zc5 ..) 3 (by decide) rfl wf_1_21 dX1_removeAt_14 (fun zq4 ezq4 hzq4 => ?_)
      have hc := g1.1
      refine z_icmp_ge C 17 68 dX1_removeAt_17 (by decide) (by first | assumption | omega) hzq4 (fun c17_26 => ?_) (fun c17_26 => ?_)
      · refine z_vret C 68 dX1_removeAt_68 (by decide) (by decide) ?_
        have hk9 : k = zV M 5 i 3 - 1 := by omega
        subst hk9
        exact g1
      refine z_aload_n C 20 dX1_removeAt_20 rfl 0 rfl ?_
      refine z_get C 21 zcl1 (show i < 24 by omega) (zc5 ..) 0 (by decide) rfl wf_1_9 dX1_removeAt_21 ?_
      refine z_iload_n C 24 dX1_removeAt_24 rfl 2 rfl ?_
      refine z_aload_n C 25 dX1_removeAt_25 rfl 0 rfl ?_
      refine z_get C 26 zcl1 (show i < 24 by omega) (zc5 ..) 0 (by decide) rfl wf_1_9 dX1_removeAt_26 ?_
      refine z_iload_n C 29 dX1_removeAt_29 rfl 2 rfl ?_
      refine z_iconst C 30 dX1_removeAt_30 ?_
      refine z_iadd C 31 dX1_removeAt_31 ?_
      refine z_iald C 32 (show i < 24 by omega) (zc6 ..) (by first | assumption | omega) (by omega) (show (k + 1) < ((4 : Nat) : Int) by omega) dX1_removeAt_32 (fun zq5 ezq5 hzq5 => ?_)
      refine z_iast C 33 (show i < 24 by omega) (zc6 ..) (by first | assumption | omega) (by omega) (show k < ((4 : Nat) : Int) by omega) (zc6 ..) dX1_removeAt_33 ?_
      refine z_aload_n C 34 dX1_removeAt_34 rfl 0 rfl ?_
      refine z_get C 35 zcl1 (show i < 24 by omega) (zc5 ..) 1 (by decide) rfl wf_1_15 dX1_removeAt_35 ?_
      refine z_iload_n C 38 dX1_removeAt_38 rfl 2 rfl ?_
      refine z_aload_n C 39 dX1_removeAt_39 rfl 0 rfl ?_
      refine z_get C 40 zcl1 (show i < 24 by omega) (zc5 ..) 1 (by decide) rfl wf_1_15 dX1_removeAt_40 ?_
      refine z_iload_n C 43 dX1_removeAt_43 rfl 2 rfl ?_
      refine z_iconst C 44 dX1_removeAt_44 ?_
      refine z_iadd C 45 dX1_removeAt_45 ?_
      refine z_iald C 46 (show i < 24 by omega) (zc7 ..) (by first | assumption | omega) (by omega) (show (k + 1) < ((4 : Nat) : Int) by omega) dX1_removeAt_46 (fun zq6 ezq6 hzq6 => ?_)
      rw [zV_ne (by decide)] at ezq6
      refine z_iast C 47 (show i < 24 by omega) (zc7 ..) (by first | assumption | omega) (by omega) (show k < ((4 : Nat) : Int) by omega) (zc7 ..) dX1_removeAt_47 ?_
      refine z_aload_n C 48 dX1_removeAt_48 rfl 0 rfl ?_
      refine z_get C 49 zcl1 (show i < 24 by omega) (zc5 ..) 2 (by decide) rfl wf_1_18 dX1_removeAt_49 ?_
      refine z_iload_n C 52 dX1_removeAt_52 rfl 2 rfl ?_
      refine z_aload_n C 53 dX1_removeAt_53 rfl 0 rfl ?_
      refine z_get C 54 zcl1 (show i < 24 by omega) (zc5 ..) 2 (by decide) rfl wf_1_18 dX1_removeAt_54 ?_
      refine z_iload_n C 57 dX1_removeAt_57 rfl 2 rfl ?_
      refine z_iconst C 58 dX1_removeAt_58 ?_
      refine z_iadd C 59 dX1_removeAt_59 ?_
      refine z_iald C 60 (show i < 24 by omega) (zc8 ..) (by first | assumption | omega) (by omega) (show (k + 1) < ((4 : Nat) : Int) by omega) dX1_removeAt_60 (fun zq7 ezq7 hzq7 => ?_)
      rw [zV_ne (by decide)] at ezq7
      rw [zV_ne (by decide)] at ezq7
      refine z_iast C 61 (show i < 24 by omega) (zc8 ..) (by first | assumption | omega) (by omega) (show k < ((4 : Nat) : Int) by omega) (zc8 ..) dX1_removeAt_61 ?_
      refine z_iinc (lv' := [(2, .int (zI (k + 1))), (0, .ref (zad G 5 i)), (1, .int (zI a))]) C 62 dX1_removeAt_62 2 rfl (by decide) rfl ?_
      refine z_goto C 65 12 dX1_removeAt_65 (by decide) ?_
      refine z_sub (lv' := [(0, .ref (zad G 5 i)), (1, .int (zI a)), (2, .int (zI (k + 1)))]) [1, 2, 0] rfl ?_
      exact ihz3 (zup (zup (zup M1 6 i k.toNat (zI zq5)) 7 i k.toNat (zI zq6)) 8 i k.toNat (zI zq7)) (k + 1) (by omega) (by exact zshift_1 (by omega) (by omega) g1 ezq5 hzq5 ezq6 hzq6 ezq7 hzq7) (by omega)
  refine z_sub (lv' := [(0, .ref (zad G 5 i)), (1, .int (zI a)), (2, .int (zI a))]) [1, 2, 0] rfl ?_
  exact L12_2 (((zV M 5 i 3 - 1 - a : Int)).toNat + 1) (zup M 5 i 3 (zI (zq1 - 1))) a (by omega) (by rw [ezq1]; exact zshift_0 M i a (by omega)) (by omega)
set_option maxHeartbeats 4000000 in
set_option maxRecDepth 100000 in
theorem c_X1_copy_21 (l : Launch) (G : zG) (M : zMem) (en : Nat) (he : en < 24) (i : Nat) (hi : i < 24) (hn : 0 ≤ zV M 5 i 3 ∧ zV M 5 i 3 ≤ 4) : Met l yX1_copy [.code yX1_copy cX1_copy 3 none] (zR 1 0 0) (zPc G M [.ref (zad G 21 en), .ref (zad G 5 i)]) (zQv G (fun M' => zcopy M M' en i (zV M 5 i 3))) 0 0 (zA G) := by
  refine z_met [(0, .ref (zad G 21 en)), (1, .ref (zad G 5 i))] (by decide) (Nat.le_of_ble_eq_true rfl) rfl ?_
  intro p e s m below meth c C
  have C : zC p s m ([.ref (zad G 21 en), .ref (zad G 5 i)] : List Value).toArray meth c G RX1 cX1_copy 3 none := C
  refine z_aload_n C 0 dX1_copy_0 rfl 0 rfl ?_
  refine z_callVv C 1 (As := []) (rest := []) (c_X1_clear_21 l G M en he) zcl1 (show en < 24 by omega) (zc21 ..) (zW_of 0 C wm_1_25 wc_X1_clear wini_1 wi_X1_clear wse_X1_clear ⟨by decide, by decide, by decide⟩ ⟨by decide, by decide⟩) rfl (Nat.le_of_ble_eq_true rfl) ⟨by decide, by decide⟩ dX1_copy_1 rfl (fun Mz2 hPz1 => ?_)
  refine z_iconst C 4 dX1_copy_4 ?_
  refine z_istore_n (lv' := [(2, .int (zI 0)), (0, .ref (zad G 21 en)), (1, .ref (zad G 5 i))]) C 5 dX1_copy_5 rfl (by decide) rfl ?_
  have L6_3 : ∀ (kz3 : Nat) (M1 : zMem) (k : Int), (0 ≤ k ∧ k ≤ zV M 5 i 3) → (zcopy M M1 en i k) → (zV M 5 i 3 - k) < (kz3 : Int) → zZ p l e (zR 1 0 0) s m ([.ref (zad G 21 en), .ref (zad G 5 i)] : List Value).toArray below meth c G 3 (MQ below (zQv G (fun M' => zcopy M M' en i (zV M 5 i 3))) ([.ref (zad G 21 en), .ref (zad G 5 i)] : List Value).toArray s 0 0 (zA G)) M1 0 0 6 [(0, .ref (zad G 21 en)), (1, .ref (zad G 5 i)), (2, .int (zI k))] [] := by
    intro kz3
    induction kz3 with
    | zero =>
      intro M1 k g0 g1 hk
      exact absurd hk (by omega)
    | succ kz3 ihz4 =>
      intro M1 k g0 g1 hk
      refine z_iload_n C 6 dX1_copy_6 rfl 2 rfl ?_
      refine z_aload_n C 7 dX1_copy_7 rfl 1 rfl ?_
      refine z_getI C 8 zcl1 (show i < 24 by omega) (zc5 ..) 3 (by decide) rfl wf_1_21 dX1_copy_8 (fun zq5 ezq5 hzq5 => ?_)
      have hc : zV M1 5 i 3 = zV M 5 i 3 := zV_of (g1.2.2.2 5 i 3 (by omega))
      refine z_icmp_ge C 11 42 dX1_copy_11 (by decide) (by first | assumption | omega) hzq5 (fun c11_22 => ?_) (fun c11_22 => ?_)
      · refine z_vret C 42 dX1_copy_42 (by decide) (by decide) ?_
        have hk9 : k = zV M 5 i 3 := by omega
        subst hk9
        exact g1
      refine z_aload_n C 14 dX1_copy_14 rfl 0 rfl ?_
      refine z_aload_n C 15 dX1_copy_15 rfl 1 rfl ?_
      refine z_get C 16 zcl1 (show i < 24 by omega) (zc5 ..) 0 (by decide) rfl wf_1_9 dX1_copy_16 ?_
      refine z_iload_n C 19 dX1_copy_19 rfl 2 rfl ?_
      refine z_iald C 20 (show i < 24 by omega) (zc6 ..) (by first | assumption | omega) (by omega) (show k < ((4 : Nat) : Int) by omega) dX1_copy_20 (fun zq6 ezq6 hzq6 => ?_)
      refine z_aload_n C 21 dX1_copy_21 rfl 1 rfl ?_
      refine z_get C 22 zcl1 (show i < 24 by omega) (zc5 ..) 1 (by decide) rfl wf_1_15 dX1_copy_22 ?_
      refine z_iload_n C 25 dX1_copy_25 rfl 2 rfl ?_
      refine z_iald C 26 (show i < 24 by omega) (zc7 ..) (by first | assumption | omega) (by omega) (show k < ((4 : Nat) : Int) by omega) dX1_copy_26 (fun zq7 ezq7 hzq7 => ?_)
      refine z_aload_n C 27 dX1_copy_27 rfl 1 rfl ?_
      refine z_get C 28 zcl1 (show i < 24 by omega) (zc5 ..) 2 (by decide) rfl wf_1_18 dX1_copy_28 ?_
      refine z_iload_n C 31 dX1_copy_31 rfl 2 rfl ?_
      refine z_iald C 32 (show i < 24 by omega) (zc8 ..) (by first | assumption | omega) (by omega) (show k < ((4 : Nat) : Int) by omega) dX1_copy_32 (fun zq8 ezq8 hzq8 => ?_)
      refine z_callVv C 33 (As := [.int (zI zq6), .int (zI zq7), .int (zI zq8)]) (rest := []) (c_X1_add_21 l G M1 en he (by have := g1.1; omega) zq6 zq7 zq8) zcl1 (show en < 24 by omega) (zc21 ..) (zW_of 3 C wm_1_28 wc_X1_add wini_1 wi_X1_add wse_X1_add ⟨by decide, by decide, by decide⟩ ⟨by decide, by decide⟩) rfl (Nat.le_of_ble_eq_true rfl) ⟨by decide, by decide⟩ dX1_copy_33 rfl (fun Mz10 hPz9 => ?_)
      refine z_iinc (lv' := [(2, .int (zI (k + 1))), (0, .ref (zad G 21 en)), (1, .ref (zad G 5 i))]) C 36 dX1_copy_36 2 rfl (by decide) rfl ?_
      refine z_goto C 39 6 dX1_copy_39 (by decide) ?_
      refine z_sub (lv' := [(0, .ref (zad G 21 en)), (1, .ref (zad G 5 i)), (2, .int (zI (k + 1)))]) [1, 2, 0] rfl ?_
      exact ihz4 Mz10 (k + 1) (by omega) (by exact zcopy_1 (by omega) (by omega) g1 ezq6 ezq7 ezq8 hzq6 hzq7 hzq8 hPz9) (by omega)
  refine z_sub (lv' := [(0, .ref (zad G 21 en)), (1, .ref (zad G 5 i)), (2, .int (zI 0))]) [1, 2, 0] rfl ?_
  exact L6_3 (((zV M 5 i 3 - 0 : Int)).toNat + 1) Mz2 0 (by omega) (by rw [hPz1]; exact zcopy_0 M en i) (by omega)
