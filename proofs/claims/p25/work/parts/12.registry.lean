set_option maxHeartbeats 4000000 in
set_option maxRecDepth 100000 in
theorem c_X4_add (l : Launch) (G : zG) (M : zMem) (hn : 0 ≤ zV M 1 0 1 ∧ zV M 1 0 1 < 24) (v b : Int) : Met l yX4_add [.code yX4_add cX4_add 4 (some .int)] (zR 1 0 0) (zPc G M [.ref (zad G 1 0), .int (zI v), .int (zI b)]) (zQi G (fun x M' => x = zV M 1 0 1 ∧ M' = zup (zup (zup M 4 (zV M 1 0 1).toNat 0 (zI v)) 4 (zV M 1 0 1).toNat 1 (zI b)) 1 0 1 (zI (zV M 1 0 1 + 1)))) 0 0 (zA G) := by
  refine z_met [(0, .ref (zad G 1 0)), (1, .int (zI v)), (2, .int (zI b))] (by decide) (Nat.le_of_ble_eq_true rfl) rfl ?_
  intro p e s m below meth c C
  have C : zC p s m ([.ref (zad G 1 0), .int (zI v), .int (zI b)] : List Value).toArray meth c G RX4 cX4_add 4 (some .int) := C
  refine z_aload_n C 0 dX4_add_0 rfl 0 rfl ?_
  refine z_getI C 1 zcl4 (show 0 < 1 by omega) (zc1 ..) 1 (by decide) rfl wf_4_17 dX4_add_1 (fun zq1 ezq1 hzq1 => ?_)
  refine z_istore_n (lv' := [(3, .int (zI zq1)), (0, .ref (zad G 1 0)), (1, .int (zI v)), (2, .int (zI b))]) C 4 dX4_add_4 rfl (by decide) rfl ?_
  refine z_aload_n C 5 dX4_add_5 rfl 1 rfl ?_
  refine z_get C 6 zcl4 (show 0 < 1 by omega) (zc1 ..) 0 (by decide) rfl wf_4_11 dX4_add_6 ?_
  refine z_iload_n C 9 dX4_add_9 rfl 0 rfl ?_
  refine z_aald C 10 (show 0 < 1 by omega) (zc2 ..) rfl hzq1 (by omega) (show zq1 < ((24 : Nat) : Int) by omega) dX4_add_10 ?_
  refine z_get C 11 zcl2 (show zq1.toNat < 24 by omega) (zc3 ..) 0 (by decide) rfl wf_4_22 dX4_add_11 ?_
  refine z_iload_n C 14 dX4_add_14 rfl 2 rfl ?_
  refine z_iload_n C 15 dX4_add_15 rfl 3 rfl ?_
  refine z_callVv C 16 (As := [.int (zI v), .int (zI b)]) (rest := []) (c_X3_set_4 l G M (zq1).toNat (by omega) v b) zcl3 (show zq1.toNat < 24 by omega) (zc4 ..) (zW_of 2 C wm_4_26 wc_X3_set wini_3 wi_X3_set wse_X3_set ⟨by decide, by decide, by decide⟩ ⟨by decide, by decide⟩) rfl (Nat.le_of_ble_eq_true rfl) ⟨by decide, by decide⟩ dX4_add_16 rfl (fun Mz3 hPz2 => ?_)
  refine z_aload_n C 19 dX4_add_19 rfl 1 rfl ?_
  refine z_dup C 20 dX4_add_20 rfl ?_
  refine z_getI C 21 zcl4 (show 0 < 1 by omega) (zc1 ..) 1 (by decide) rfl wf_4_17 dX4_add_21 (fun zq4 ezq4 hzq4 => ?_)
  rw [hPz2, zV_ne (by decide), zV_ne (by decide)] at ezq4
  refine z_iconst C 24 dX4_add_24 ?_
  refine z_iadd C 25 dX4_add_25 ?_
  refine z_putI C 26 zcl4 (show 0 < 1 by omega) (zc1 ..) 1 (by decide) wf_4_17 rfl rfl rfl (Nat.le_of_ble_eq_true rfl) (zc1 ..) dX4_add_26 ?_
  refine z_iload_n C 29 dX4_add_29 rfl 0 rfl ?_
  refine z_iret C 30 dX4_add_30 (by decide) (by decide) hzq1 ?_
  refine ⟨ezq1, ?_⟩
  rw [hPz2]
  obtain rfl := ezq1
  obtain rfl := ezq4
  rfl
set_option maxHeartbeats 4000000 in
set_option maxRecDepth 100000 in
theorem c_X4_has (l : Launch) (G : zG) (M : zMem) (hw : zwm M) (v b : Int) (hv : zrg v) (hb : zrg b) : Met l yX4_has [.code yX4_has cX4_has 4 (some .boolean)] (zR 1 0 0) (zPc G M [.ref (zad G 1 0), .int (zI v), .int (zI b)]) (zQi G (fun x M' => M = M' ∧ zb x (∃ i : Nat, (i : Int) < zmn M ∧ zmg M i = 0 ∧ zmv M i = v ∧ zml M i = b))) 0 0 (zA G) := by
  refine z_met [(0, .ref (zad G 1 0)), (1, .int (zI v)), (2, .int (zI b))] (by decide) (Nat.le_of_ble_eq_true rfl) rfl ?_
  intro p e s m below meth c C
  have C : zC p s m ([.ref (zad G 1 0), .int (zI v), .int (zI b)] : List Value).toArray meth c G RX4 cX4_has 4 (some .boolean) := C
  have hw9z := hw
  obtain ⟨⟨n0, n1⟩, hp⟩ := hw9z
  refine z_iconst C 0 dX4_has_0 ?_
  refine z_istore_n (lv' := [(3, .int (zI 0)), (0, .ref (zad G 1 0)), (1, .int (zI v)), (2, .int (zI b))]) C 1 dX4_has_1 rfl (by decide) rfl ?_
  have L2_1 : ∀ (kz1 : Nat) (k : Int), (0 ≤ k ∧ k ≤ zV M 1 0 1) → (∀ i : Nat, (i : Int) < k → ¬ (zmg M i = 0 ∧ zmv M i = v ∧ zml M i = b)) → (zV M 1 0 1 - k) < (kz1 : Int) → zZ p l e (zR 1 0 0) s m ([.ref (zad G 1 0), .int (zI v), .int (zI b)] : List Value).toArray below meth c G 4 (MQ below (zQi G (fun x M' => M = M' ∧ zb x (∃ i : Nat, (i : Int) < zmn M ∧ zmg M i = 0 ∧ zmv M i = v ∧ zml M i = b))) ([.ref (zad G 1 0), .int (zI v), .int (zI b)] : List Value).toArray s 0 0 (zA G)) M 0 0 2 [(0, .ref (zad G 1 0)), (1, .int (zI v)), (2, .int (zI b)), (3, .int (zI k))] [] := by
    intro kz1
    induction kz1 with
    | zero =>
      intro k g0 g1 hk
      exact absurd hk (by omega)
    | succ kz1 ihz2 =>
      intro k g0 g1 hk
      refine z_iload_n C 2 dX4_has_2 rfl 3 rfl ?_
      refine z_aload_n C 3 dX4_has_3 rfl 0 rfl ?_
      refine z_getI C 4 zcl4 (show 0 < 1 by omega) (zc1 ..) 1 (by decide) rfl wf_4_17 dX4_has_4 (fun zq3 ezq3 hzq3 => ?_)
      refine z_icmp_ge C 7 47 dX4_has_7 (by decide) (by first | assumption | omega) hzq3 (fun c7_21 => ?_) (fun c7_21 => ?_)
      · refine z_iconst C 47 dX4_has_47 ?_
        refine z_zret C 48 dX4_has_48 (by decide) (by decide) (by decide) ?_
        exact ⟨rfl, zb.zero (fun w => by obtain ⟨i, w1, w2⟩ := w; exact g1 i (by have w3 : (i : Int) < zV M 1 0 1 := w1; omega) w2)⟩
      refine z_aload_n C 10 dX4_has_10 rfl 0 rfl ?_
      refine z_get C 11 zcl4 (show 0 < 1 by omega) (zc1 ..) 0 (by decide) rfl wf_4_11 dX4_has_11 ?_
      refine z_iload_n C 14 dX4_has_14 rfl 3 rfl ?_
      refine z_aald C 15 (show 0 < 1 by omega) (zc2 ..) rfl (by first | assumption | omega) (by omega) (show k < ((24 : Nat) : Int) by omega) dX4_has_15 ?_
      refine z_getI C 16 zcl2 (show k.toNat < 24 by omega) (zc3 ..) 3 (by decide) rfl wf_4_32 dX4_has_16 (fun zq4 ezq4 hzq4 => ?_)
      refine z_if_ne C 19 41 dX4_has_19 (by decide) hzq4 (fun c19_30 => ?_) (fun c19_30 => ?_)
      · have hS : ¬ (zmg M k.toNat = 0 ∧ zmv M k.toNat = v ∧ zml M k.toNat = b) := fun w => by have w1 : zV M 3 k.toNat 3 = 0 := w.1; omega
        refine z_iinc (lv' := [(3, .int (zI (k + 1))), (0, .ref (zad G 1 0)), (1, .int (zI v)), (2, .int (zI b))]) C 41 dX4_has_41 3 rfl (by decide) rfl ?_
        refine z_goto C 44 2 dX4_has_44 (by decide) ?_
        refine z_sub (lv' := [(0, .ref (zad G 1 0)), (1, .int (zI v)), (2, .int (zI b)), (3, .int (zI (k + 1)))]) [1, 2, 3, 0] rfl ?_
        exact ihz2 (k + 1) (by omega) (by intro i h; exact (Int.lt_or_le (i : Int) k).elim (g1 i) (fun q => by rw [show i = k.toNat by omega]; exact hS)) (by omega)
      refine z_aload_n C 22 dX4_has_22 rfl 0 rfl ?_
      refine z_get C 23 zcl4 (show 0 < 1 by omega) (zc1 ..) 0 (by decide) rfl wf_4_11 dX4_has_23 ?_
      refine z_iload_n C 26 dX4_has_26 rfl 3 rfl ?_
      refine z_aald C 27 (show 0 < 1 by omega) (zc2 ..) rfl (by first | assumption | omega) (by omega) (show k < ((24 : Nat) : Int) by omega) dX4_has_27 ?_
      refine z_get C 28 zcl2 (show k.toNat < 24 by omega) (zc3 ..) 0 (by decide) rfl wf_4_22 dX4_has_28 ?_
      refine z_iload_n C 31 dX4_has_31 rfl 1 rfl ?_
      refine z_iload_n C 32 dX4_has_32 rfl 2 rfl ?_
      refine z_callVi C 33 (As := [.int (zI v), .int (zI b)]) (rest := []) (c_X3_is_4 l G M k.toNat (by omega) v b hv hb) zcl3 (show k.toNat < 24 by omega) (zc4 ..) (zW_of 2 C wm_4_36 wc_X3_is wini_3 wi_X3_is wse_X3_is ⟨by decide, by decide, by decide⟩ ⟨by decide, by decide⟩) rfl (Nat.le_of_ble_eq_true rfl) ⟨by decide, by decide⟩ dX4_has_33 rfl (fun zq5 Mz6 hzq5 hPz5 => ?_)
      obtain ⟨rfl, hPz5⟩ := hPz5
      refine z_if_eq C 36 41 dX4_has_36 (by decide) hzq5 (fun c36_45 => ?_) (fun c36_45 => ?_)
      · have hS : ¬ (zmg M k.toNat = 0 ∧ zmv M k.toNat = v ∧ zml M k.toNat = b) := fun w => (hPz5.f c36_45) w.2
        refine z_iinc (lv' := [(3, .int (zI (k + 1))), (0, .ref (zad G 1 0)), (1, .int (zI v)), (2, .int (zI b))]) C 41 dX4_has_41 3 rfl (by decide) rfl ?_
        refine z_goto C 44 2 dX4_has_44 (by decide) ?_
        refine z_sub (lv' := [(0, .ref (zad G 1 0)), (1, .int (zI v)), (2, .int (zI b)), (3, .int (zI (k + 1)))]) [1, 2, 3, 0] rfl ?_
        exact ihz2 (k + 1) (by omega) (by intro i h; exact (Int.lt_or_le (i : Int) k).elim (g1 i) (fun q => by rw [show i = k.toNat by omega]; exact hS)) (by omega)
      refine z_iconst C 39 dX4_has_39 ?_
      refine z_zret C 40 dX4_has_40 (by decide) (by decide) (by decide) ?_
      exact ⟨rfl, zb.one ⟨k.toNat, by show _ < zV M 1 0 1; omega, by show zV M 3 k.toNat 3 = 0; omega, (hPz5.t (by assumption))⟩⟩
  refine z_sub (lv' := [(0, .ref (zad G 1 0)), (1, .int (zI v)), (2, .int (zI b)), (3, .int (zI 0))]) [1, 2, 3, 0] rfl ?_
  exact L2_1 (((zV M 1 0 1 - 0 : Int)).toNat + 1) 0 (by omega) (by intro i h; omega) (by omega)
set_option maxHeartbeats 4000000 in
set_option maxRecDepth 100000 in
theorem c_X4_countRegistered (l : Launch) (G : zG) (M : zMem) (hn : 0 ≤ zV M 1 0 1 ∧ zV M 1 0 1 ≤ 24) : Met l yX4_countRegistered [.code yX4_countRegistered cX4_countRegistered 3 (some .int)] (zR 0 0 0) (zPc G M [.ref (zad G 1 0)]) (zQi G (fun x M' => M = M' ∧ x = zcnt (zmg M) (zV M 1 0 1).toNat)) 0 0 (zA G) := by
  refine z_met [(0, .ref (zad G 1 0))] (by decide) (Nat.le_of_ble_eq_true rfl) rfl ?_
  intro p e s m below meth c C
  have C : zC p s m ([.ref (zad G 1 0)] : List Value).toArray meth c G RX4 cX4_countRegistered 3 (some .int) := C
  refine z_iconst C 0 dX4_countRegistered_0 ?_
  refine z_istore_n (lv' := [(1, .int (zI 0)), (0, .ref (zad G 1 0))]) C 1 dX4_countRegistered_1 rfl (by decide) rfl ?_
  refine z_iconst C 2 dX4_countRegistered_2 ?_
  refine z_istore_n (lv' := [(2, .int (zI 0)), (1, .int (zI 0)), (0, .ref (zad G 1 0))]) C 3 dX4_countRegistered_3 rfl (by decide) rfl ?_
  have L4_1 : ∀ (kz1 : Nat) (r : Int) (k : Int), (0 ≤ k ∧ k ≤ zV M 1 0 1) → (r = zcnt (zmg M) k.toNat) → (zV M 1 0 1 - k) < (kz1 : Int) → zZ p l e (zR 0 0 0) s m ([.ref (zad G 1 0)] : List Value).toArray below meth c G 3 (MQ below (zQi G (fun x M' => M = M' ∧ x = zcnt (zmg M) (zV M 1 0 1).toNat)) ([.ref (zad G 1 0)] : List Value).toArray s 0 0 (zA G)) M 0 0 4 [(0, .ref (zad G 1 0)), (1, .int (zI r)), (2, .int (zI k))] [] := by
    intro kz1
    induction kz1 with
    | zero =>
      intro r k g0 g1 hk
      exact absurd hk (by omega)
    | succ kz1 ihz2 =>
      intro r k g0 g1 hk
      have hr9 := zcnt_rg (zmg M) k.toNat
      refine z_iload_n C 4 dX4_countRegistered_4 rfl 2 rfl ?_
      refine z_aload_n C 5 dX4_countRegistered_5 rfl 0 rfl ?_
      refine z_getI C 6 zcl4 (show 0 < 1 by omega) (zc1 ..) 1 (by decide) rfl wf_4_17 dX4_countRegistered_6 (fun zq3 ezq3 hzq3 => ?_)
      refine z_icmp_ge C 9 33 dX4_countRegistered_9 (by decide) (by first | assumption | omega) hzq3 (fun c9_22 => ?_) (fun c9_22 => ?_)
      · refine z_iload_n C 33 dX4_countRegistered_33 rfl 1 rfl ?_
        refine z_iret C 34 dX4_countRegistered_34 (by decide) (by decide) (by first | assumption | omega) ?_
        exact ⟨rfl, by rw [g1, show k = zV M 1 0 1 by omega]⟩
      refine z_aload_n C 12 dX4_countRegistered_12 rfl 0 rfl ?_
      refine z_get C 13 zcl4 (show 0 < 1 by omega) (zc1 ..) 0 (by decide) rfl wf_4_11 dX4_countRegistered_13 ?_
      refine z_iload_n C 16 dX4_countRegistered_16 rfl 2 rfl ?_
      refine z_aald C 17 (show 0 < 1 by omega) (zc2 ..) rfl (by first | assumption | omega) (by omega) (show k < ((24 : Nat) : Int) by omega) dX4_countRegistered_17 ?_
      refine z_getI C 18 zcl2 (show k.toNat < 24 by omega) (zc3 ..) 3 (by decide) rfl wf_4_32 dX4_countRegistered_18 (fun zq4 ezq4 hzq4 => ?_)
      refine z_if_ne C 21 27 dX4_countRegistered_21 (by decide) hzq4 (fun c21_31 => ?_) (fun c21_31 => ?_)
      · refine z_iinc (lv' := [(2, .int (zI (k + 1))), (0, .ref (zad G 1 0)), (1, .int (zI r))]) C 27 dX4_countRegistered_27 2 rfl (by decide) rfl ?_
        refine z_goto C 30 4 dX4_countRegistered_30 (by decide) ?_
        refine z_sub (lv' := [(0, .ref (zad G 1 0)), (1, .int (zI r)), (2, .int (zI (k + 1)))]) [1, 2, 0] rfl ?_
        exact ihz2 r (k + 1) (by omega) (by rw [zcnt_s (x := zq4) (by omega) ezq4]; first | (rw [if_pos (by omega)]; omega) | (rw [if_neg (by omega)]; omega)) (by omega)
      refine z_iinc (lv' := [(1, .int (zI (r + 1))), (0, .ref (zad G 1 0)), (2, .int (zI k))]) C 24 dX4_countRegistered_24 1 rfl (by decide) rfl ?_
      refine z_iinc (lv' := [(2, .int (zI (k + 1))), (1, .int (zI (r + 1))), (0, .ref (zad G 1 0))]) C 27 dX4_countRegistered_27 2 rfl (by decide) rfl ?_
      refine z_goto C 30 4 dX4_countRegistered_30 (by decide) ?_
      refine z_sub (lv' := [(0, .ref (zad G 1 0)), (1, .int (zI (r + 1))), (2, .int (zI (k + 1)))]) [2, 1, 0] rfl ?_
      exact ihz2 (r + 1) (k + 1) (by omega) (by rw [zcnt_s (x := zq4) (by omega) ezq4]; first | (rw [if_pos (by omega)]; omega) | (rw [if_neg (by omega)]; omega)) (by omega)
  refine z_sub (lv' := [(0, .ref (zad G 1 0)), (1, .int (zI 0)), (2, .int (zI 0))]) [2, 1, 0] rfl ?_
  exact L4_1 (((zV M 1 0 1 - 0 : Int)).toNat + 1) 0 0 (by omega) (by rfl) (by omega)
set_option maxHeartbeats 4000000 in
set_option maxRecDepth 100000 in
theorem c_X4_find (l : Launch) (G : zG) (M : zMem) (hw : zwm M) (id : Int) (hid : 0 ≤ id ∧ id < 65536) : Met l yX4_find [.code yX4_find cX4_find 6 (some .int)] (zR 3 0 0) (zPc G M [.ref (zad G 1 0), .int (zI id)]) (zQi G (fun x M' => M = M' ∧ zfnd (zmv M) (zml M) (zmg M) (zmn M) id x)) 0 0 (zA G) := by
  refine z_met [(0, .ref (zad G 1 0)), (1, .int (zI id))] (by decide) (Nat.le_of_ble_eq_true rfl) rfl ?_
  intro p e s m below meth c C
  have C : zC p s m ([.ref (zad G 1 0), .int (zI id)] : List Value).toArray meth c G RX4 cX4_find 6 (some .int) := C
  have hw9z := hw
  obtain ⟨⟨n0, n1⟩, hp⟩ := hw9z
  refine z_iconst C 0 dX4_find_0 ?_
  refine z_istore_n (lv' := [(2, .int (zI (-1))), (0, .ref (zad G 1 0)), (1, .int (zI id))]) C 1 dX4_find_1 rfl (by decide) rfl ?_
  refine z_iconst C 2 dX4_find_2 ?_
  refine z_istore_n (lv' := [(3, .int (zI (-1))), (2, .int (zI (-1))), (0, .ref (zad G 1 0)), (1, .int (zI id))]) C 3 dX4_find_3 rfl (by decide) rfl ?_
  refine z_iconst C 4 dX4_find_4 ?_
  refine z_istore (lv' := [(4, .int (zI 0)), (3, .int (zI (-1))), (2, .int (zI (-1))), (0, .ref (zad G 1 0)), (1, .int (zI id))]) C 5 dX4_find_5 (by decide) rfl ?_
  have L7_1 : ∀ (kz1 : Nat) (b : Int) (bl : Int) (k : Int), (0 ≤ k ∧ k ≤ zV M 1 0 1) → (zfndk (zmv M) (zml M) (zmg M) (zmn M) id k b bl) → (-1 ≤ b ∧ b < 24 ∧ -1 ≤ bl ∧ bl ≤ 16) → (zV M 1 0 1 - k) < (kz1 : Int) → zZ p l e (zR 3 0 0) s m ([.ref (zad G 1 0), .int (zI id)] : List Value).toArray below meth c G 6 (MQ below (zQi G (fun x M' => M = M' ∧ zfnd (zmv M) (zml M) (zmg M) (zmn M) id x)) ([.ref (zad G 1 0), .int (zI id)] : List Value).toArray s 0 0 (zA G)) M 0 0 7 [(0, .ref (zad G 1 0)), (1, .int (zI id)), (2, .int (zI b)), (3, .int (zI bl)), (4, .int (zI k))] [] := by
    intro kz1
    induction kz1 with
    | zero =>
      intro b bl k g0 g1 g2 hk
      exact absurd hk (by omega)
    | succ kz1 ihz2 =>
      intro b bl k g0 g1 g2 hk
      have hpk := hp k.toNat
      refine z_iload C 7 dX4_find_7 4 rfl ?_
      refine z_aload_n C 9 dX4_find_9 rfl 0 rfl ?_
      refine z_getI C 10 zcl4 (show 0 < 1 by omega) (zc1 ..) 1 (by decide) rfl wf_4_17 dX4_find_10 (fun zq3 ezq3 hzq3 => ?_)
      refine z_icmp_ge C 13 75 dX4_find_13 (by decide) (by first | assumption | omega) hzq3 (fun c13_26 => ?_) (fun c13_26 => ?_)
      · refine z_iload_n C 75 dX4_find_75 rfl 2 rfl ?_
        refine z_iret C 76 dX4_find_76 (by decide) (by decide) (by first | assumption | omega) ?_
        exact ⟨rfl, zfnd_end g1 (by show zV M 1 0 1 ≤ k; omega)⟩
      refine z_aload_n C 16 dX4_find_16 rfl 0 rfl ?_
      refine z_get C 17 zcl4 (show 0 < 1 by omega) (zc1 ..) 0 (by decide) rfl wf_4_11 dX4_find_17 ?_
      refine z_iload C 20 dX4_find_20 4 rfl ?_
      refine z_aald C 22 (show 0 < 1 by omega) (zc2 ..) rfl (by first | assumption | omega) (by omega) (show k < ((24 : Nat) : Int) by omega) dX4_find_22 ?_
      refine z_astore (lv' := [(5, .ref (zad G 3 k.toNat)), (0, .ref (zad G 1 0)), (1, .int (zI id)), (2, .int (zI b)), (3, .int (zI bl)), (4, .int (zI k))]) C 23 dX4_find_23 (by decide) rfl ?_
      refine z_aload C 25 dX4_find_25 0 rfl ?_
      refine z_getI C 27 zcl2 (show k.toNat < 24 by omega) (zc3 ..) 3 (by decide) rfl wf_4_32 dX4_find_27 (fun zq4 ezq4 hzq4 => ?_)
      refine z_if_ne C 30 69 dX4_find_30 (by decide) hzq4 (fun c30_37 => ?_) (fun c30_37 => ?_)
      · have hS : zcov (zmv M) (zml M) (zmg M) (zmn M) id k.toNat → zml M k.toNat ≤ bl := fun w => absurd w.2.1 (by show ¬ zV M 3 k.toNat 3 = 0; omega)
        refine z_iinc (lv' := [(4, .int (zI (k + 1))), (5, .ref (zad G 3 k.toNat)), (0, .ref (zad G 1 0)), (1, .int (zI id)), (2, .int (zI b)), (3, .int (zI bl))]) C 69 dX4_find_69 5 rfl (by decide) rfl ?_
        refine z_goto C 72 7 dX4_find_72 (by decide) ?_
        refine z_sub (lv' := [(0, .ref (zad G 1 0)), (1, .int (zI id)), (2, .int (zI b)), (3, .int (zI bl)), (4, .int (zI (k + 1)))]) [2, 3, 4, 5, 0] rfl ?_
        exact ihz2 b bl (k + 1) (by omega) (by exact zfnd_skip g1 (by omega) (zwm_l hw) hS) (by exact g2) (by omega)
      refine z_aload C 33 dX4_find_33 0 rfl ?_
      refine z_get C 35 zcl2 (show k.toNat < 24 by omega) (zc3 ..) 0 (by decide) rfl wf_4_22 dX4_find_35 ?_
      refine z_getI C 38 zcl3 (show k.toNat < 24 by omega) (zc4 ..) 1 (by decide) rfl wf_4_40 dX4_find_38 (fun zq5 ezq5 hzq5 => ?_)
      refine z_iload_n C 41 dX4_find_41 rfl 4 rfl ?_
      refine z_icmp_le C 42 69 dX4_find_42 (by decide) hzq5 (by first | assumption | omega) (fun c42_47 => ?_) (fun c42_47 => ?_)
      · have hS : zcov (zmv M) (zml M) (zmg M) (zmn M) id k.toNat → zml M k.toNat ≤ bl := fun w => by show zV M 4 k.toNat 1 ≤ bl; omega
        refine z_iinc (lv' := [(4, .int (zI (k + 1))), (5, .ref (zad G 3 k.toNat)), (0, .ref (zad G 1 0)), (1, .int (zI id)), (2, .int (zI b)), (3, .int (zI bl))]) C 69 dX4_find_69 5 rfl (by decide) rfl ?_
        refine z_goto C 72 7 dX4_find_72 (by decide) ?_
        refine z_sub (lv' := [(0, .ref (zad G 1 0)), (1, .int (zI id)), (2, .int (zI b)), (3, .int (zI bl)), (4, .int (zI (k + 1)))]) [2, 3, 4, 5, 0] rfl ?_
        exact ihz2 b bl (k + 1) (by omega) (by exact zfnd_skip g1 (by omega) (zwm_l hw) hS) (by exact g2) (by omega)
      refine z_aload C 45 dX4_find_45 0 rfl ?_
      refine z_get C 47 zcl2 (show k.toNat < 24 by omega) (zc3 ..) 0 (by decide) rfl wf_4_22 dX4_find_47 ?_
      refine z_iload_n C 50 dX4_find_50 rfl 2 rfl ?_
      refine z_callVi C 51 (As := [.int (zI id)]) (rest := []) (c_X3_covers_4 l G M k.toNat (by omega) (hp _ (by omega)) id hid) zcl3 (show k.toNat < 24 by omega) (zc4 ..) (zW_of 1 C wm_4_43 wc_X3_covers wini_3 wi_X3_covers wse_X3_covers ⟨by decide, by decide, by decide⟩ ⟨by decide, by decide⟩) rfl (Nat.le_of_ble_eq_true rfl) ⟨by decide, by decide⟩ dX4_find_51 rfl (fun zq6 Mz7 hzq6 hPz6 => ?_)
      obtain ⟨rfl, hPz6⟩ := hPz6
      refine z_if_eq C 54 69 dX4_find_54 (by decide) hzq6 (fun c54_58 => ?_) (fun c54_58 => ?_)
      · have hS : zcov (zmv M) (zml M) (zmg M) (zmn M) id k.toNat → zml M k.toNat ≤ bl := fun w => absurd w.2.2 (hPz6.f c54_58)
        refine z_iinc (lv' := [(4, .int (zI (k + 1))), (5, .ref (zad G 3 k.toNat)), (0, .ref (zad G 1 0)), (1, .int (zI id)), (2, .int (zI b)), (3, .int (zI bl))]) C 69 dX4_find_69 5 rfl (by decide) rfl ?_
        refine z_goto C 72 7 dX4_find_72 (by decide) ?_
        refine z_sub (lv' := [(0, .ref (zad G 1 0)), (1, .int (zI id)), (2, .int (zI b)), (3, .int (zI bl)), (4, .int (zI (k + 1)))]) [2, 3, 4, 5, 0] rfl ?_
        exact ihz2 b bl (k + 1) (by omega) (by exact zfnd_skip g1 (by omega) (zwm_l hw) hS) (by exact g2) (by omega)
      have hT : zcov (zmv M) (zml M) (zmg M) (zmn M) id k.toNat := ⟨by show _ < zV M 1 0 1; omega, by show zV M 3 k.toNat 3 = 0; omega, hPz6.t c54_58⟩
      refine z_iload C 57 dX4_find_57 5 rfl ?_
      refine z_istore_n (lv' := [(2, .int (zI k)), (5, .ref (zad G 3 k.toNat)), (0, .ref (zad G 1 0)), (1, .int (zI id)), (3, .int (zI bl)), (4, .int (zI k))]) C 59 dX4_find_59 rfl (by decide) rfl ?_
      refine z_aload C 60 dX4_find_60 1 rfl ?_
      refine z_get C 62 zcl2 (show k.toNat < 24 by omega) (zc3 ..) 0 (by decide) rfl wf_4_22 dX4_find_62 ?_
      refine z_getI C 65 zcl3 (show k.toNat < 24 by omega) (zc4 ..) 1 (by decide) rfl wf_4_40 dX4_find_65 (fun zq8 ezq8 hzq8 => ?_)
      refine z_istore_n (lv' := [(3, .int (zI zq8)), (2, .int (zI k)), (5, .ref (zad G 3 k.toNat)), (0, .ref (zad G 1 0)), (1, .int (zI id)), (4, .int (zI k))]) C 68 dX4_find_68 rfl (by decide) rfl ?_
      refine z_iinc (lv' := [(4, .int (zI (k + 1))), (3, .int (zI zq8)), (2, .int (zI k)), (5, .ref (zad G 3 k.toNat)), (0, .ref (zad G 1 0)), (1, .int (zI id))]) C 69 dX4_find_69 5 rfl (by decide) rfl ?_
      refine z_goto C 72 7 dX4_find_72 (by decide) ?_
      refine z_sub (lv' := [(0, .ref (zad G 1 0)), (1, .int (zI id)), (2, .int (zI k)), (3, .int (zI zq8)), (4, .int (zI (k + 1)))]) [4, 5, 2, 1, 0] rfl ?_
      exact ihz2 k zq8 (k + 1) (by omega) (by rw [ezq8]; exact zfnd_take g1 (by omega) hT (by show bl < zV M 4 k.toNat 1; omega)) (by have hpk9 := hpk (by omega); unfold zpfx at hpk9; omega) (by omega)
  refine z_sub (lv' := [(0, .ref (zad G 1 0)), (1, .int (zI id)), (2, .int (zI (-1))), (3, .int (zI (-1))), (4, .int (zI 0))]) [3, 4, 2, 1, 0] rfl ?_
  exact L7_1 (((zV M 1 0 1 - 0 : Int)).toNat + 1) (-1) (-1) 0 (by omega) (by exact zfnd_0 _ _ _ _ _) (by omega) (by omega)
set_option maxHeartbeats 4000000 in
set_option maxRecDepth 100000 in
theorem c_X4_hidesLonger (l : Launch) (G : zG) (M : zMem) (hw : zwm M) (id L w : Int) (hid : zpfx id L) (hw9 : zrg w) : Met l yX4_hidesLonger [.code yX4_hidesLonger cX4_hidesLonger 6 (some .boolean)] (zR 2 0 0) (zPc G M [.ref (zad G 1 0), .int (zI id), .int (zI L), .int (zI w)]) (zQi G (fun x M' => M = M' ∧ zb x (zhid (zmv M) (zml M) (zmg M) (zmn M) id L w))) 0 0 (zA G) := by
  refine z_met [(0, .ref (zad G 1 0)), (1, .int (zI id)), (2, .int (zI L)), (3, .int (zI w))] (by decide) (Nat.le_of_ble_eq_true rfl) rfl ?_
  intro p e s m below meth c C
  have C : zC p s m ([.ref (zad G 1 0), .int (zI id), .int (zI L), .int (zI w)] : List Value).toArray meth c G RX4 cX4_hidesLonger 6 (some .boolean) := C
  have hw9z := hw
  obtain ⟨⟨n0, n1⟩, hp⟩ := hw9z
  refine z_iconst C 0 dX4_hidesLonger_0 ?_
  refine z_istore (lv' := [(4, .int (zI 0)), (0, .ref (zad G 1 0)), (1, .int (zI id)), (2, .int (zI L)), (3, .int (zI w))]) C 1 dX4_hidesLonger_1 (by decide) rfl ?_
  have L3_1 : ∀ (kz1 : Nat) (k : Int), (0 ≤ k ∧ k ≤ zV M 1 0 1) → (∀ i : Nat, (i : Int) < k → ¬ (zmg M i = 0 ∧ w < zml M i ∧ zmeet (zmv M i) (zml M i) id L)) → (zV M 1 0 1 - k) < (kz1 : Int) → zZ p l e (zR 2 0 0) s m ([.ref (zad G 1 0), .int (zI id), .int (zI L), .int (zI w)] : List Value).toArray below meth c G 6 (MQ below (zQi G (fun x M' => M = M' ∧ zb x (zhid (zmv M) (zml M) (zmg M) (zmn M) id L w))) ([.ref (zad G 1 0), .int (zI id), .int (zI L), .int (zI w)] : List Value).toArray s 0 0 (zA G)) M 0 0 3 [(0, .ref (zad G 1 0)), (1, .int (zI id)), (2, .int (zI L)), (3, .int (zI w)), (4, .int (zI k))] [] := by
    intro kz1
    induction kz1 with
    | zero =>
      intro k g0 g1 hk
      exact absurd hk (by omega)
    | succ kz1 ihz2 =>
      intro k g0 g1 hk
      refine z_iload C 3 dX4_hidesLonger_3 4 rfl ?_
      refine z_aload_n C 5 dX4_hidesLonger_5 rfl 0 rfl ?_
      refine z_getI C 6 zcl4 (show 0 < 1 by omega) (zc1 ..) 1 (by decide) rfl wf_4_17 dX4_hidesLonger_6 (fun zq3 ezq3 hzq3 => ?_)
      refine z_icmp_ge C 9 62 dX4_hidesLonger_9 (by decide) (by first | assumption | omega) hzq3 (fun c9_21 => ?_) (fun c9_21 => ?_)
      · refine z_iconst C 62 dX4_hidesLonger_62 ?_
        refine z_zret C 63 dX4_hidesLonger_63 (by decide) (by decide) (by decide) ?_
        exact ⟨rfl, zb.zero (fun z => by obtain ⟨i, w1, w2⟩ := z; exact g1 i (by have w3 : (i : Int) < zV M 1 0 1 := w1; omega) w2)⟩
      refine z_aload_n C 12 dX4_hidesLonger_12 rfl 0 rfl ?_
      refine z_get C 13 zcl4 (show 0 < 1 by omega) (zc1 ..) 0 (by decide) rfl wf_4_11 dX4_hidesLonger_13 ?_
      refine z_iload C 16 dX4_hidesLonger_16 4 rfl ?_
      refine z_aald C 18 (show 0 < 1 by omega) (zc2 ..) rfl (by first | assumption | omega) (by omega) (show k < ((24 : Nat) : Int) by omega) dX4_hidesLonger_18 ?_
      refine z_astore (lv' := [(5, .ref (zad G 3 k.toNat)), (0, .ref (zad G 1 0)), (1, .int (zI id)), (2, .int (zI L)), (3, .int (zI w)), (4, .int (zI k))]) C 19 dX4_hidesLonger_19 (by decide) rfl ?_
      refine z_aload C 21 dX4_hidesLonger_21 0 rfl ?_
      refine z_getI C 23 zcl2 (show k.toNat < 24 by omega) (zc3 ..) 3 (by decide) rfl wf_4_32 dX4_hidesLonger_23 (fun zq4 ezq4 hzq4 => ?_)
      refine z_if_ne C 26 56 dX4_hidesLonger_26 (by decide) hzq4 (fun c26_32 => ?_) (fun c26_32 => ?_)
      · have hS : ¬ (zmg M k.toNat = 0 ∧ w < zml M k.toNat ∧ zmeet (zmv M k.toNat) (zml M k.toNat) id L) := fun z => by have w1 : zV M 3 k.toNat 3 = 0 := z.1; omega
        refine z_iinc (lv' := [(4, .int (zI (k + 1))), (5, .ref (zad G 3 k.toNat)), (0, .ref (zad G 1 0)), (1, .int (zI id)), (2, .int (zI L)), (3, .int (zI w))]) C 56 dX4_hidesLonger_56 5 rfl (by decide) rfl ?_
        refine z_goto C 59 3 dX4_hidesLonger_59 (by decide) ?_
        refine z_sub (lv' := [(0, .ref (zad G 1 0)), (1, .int (zI id)), (2, .int (zI L)), (3, .int (zI w)), (4, .int (zI (k + 1)))]) [2, 3, 4, 5, 0] rfl ?_
        exact ihz2 (k + 1) (by omega) (by intro i h; exact (Int.lt_or_le (i : Int) k).elim (g1 i) (fun q => by rw [show i = k.toNat by omega]; exact hS)) (by omega)
      refine z_aload C 29 dX4_hidesLonger_29 0 rfl ?_
      refine z_get C 31 zcl2 (show k.toNat < 24 by omega) (zc3 ..) 0 (by decide) rfl wf_4_22 dX4_hidesLonger_31 ?_
      refine z_getI C 34 zcl3 (show k.toNat < 24 by omega) (zc4 ..) 1 (by decide) rfl wf_4_40 dX4_hidesLonger_34 (fun zq5 ezq5 hzq5 => ?_)
      refine z_iload_n C 37 dX4_hidesLonger_37 rfl 4 rfl ?_
      refine z_icmp_le C 38 56 dX4_hidesLonger_38 (by decide) hzq5 (by first | assumption | omega) (fun c38_42 => ?_) (fun c38_42 => ?_)
      · have hS : ¬ (zmg M k.toNat = 0 ∧ w < zml M k.toNat ∧ zmeet (zmv M k.toNat) (zml M k.toNat) id L) := fun z => by have w1 : w < zV M 4 k.toNat 1 := z.2.1; omega
        refine z_iinc (lv' := [(4, .int (zI (k + 1))), (5, .ref (zad G 3 k.toNat)), (0, .ref (zad G 1 0)), (1, .int (zI id)), (2, .int (zI L)), (3, .int (zI w))]) C 56 dX4_hidesLonger_56 5 rfl (by decide) rfl ?_
        refine z_goto C 59 3 dX4_hidesLonger_59 (by decide) ?_
        refine z_sub (lv' := [(0, .ref (zad G 1 0)), (1, .int (zI id)), (2, .int (zI L)), (3, .int (zI w)), (4, .int (zI (k + 1)))]) [2, 3, 4, 5, 0] rfl ?_
        exact ihz2 (k + 1) (by omega) (by intro i h; exact (Int.lt_or_le (i : Int) k).elim (g1 i) (fun q => by rw [show i = k.toNat by omega]; exact hS)) (by omega)
      refine z_aload C 41 dX4_hidesLonger_41 0 rfl ?_
      refine z_get C 43 zcl2 (show k.toNat < 24 by omega) (zc3 ..) 0 (by decide) rfl wf_4_22 dX4_hidesLonger_43 ?_
      refine z_iload_n C 46 dX4_hidesLonger_46 rfl 2 rfl ?_
      refine z_iload_n C 47 dX4_hidesLonger_47 rfl 3 rfl ?_
      refine z_callVi C 48 (As := [.int (zI id), .int (zI L)]) (rest := []) (c_X3_meets_4 l G M k.toNat (by omega) (hp _ (by omega)) id L hid) zcl3 (show k.toNat < 24 by omega) (zc4 ..) (zW_of 2 C wm_4_57 wc_X3_meets wini_3 wi_X3_meets wse_X3_meets ⟨by decide, by decide, by decide⟩ ⟨by decide, by decide⟩) rfl (Nat.le_of_ble_eq_true rfl) ⟨by decide, by decide⟩ dX4_hidesLonger_48 rfl (fun zq6 Mz7 hzq6 hPz6 => ?_)
      obtain ⟨rfl, hPz6⟩ := hPz6
      refine z_if_eq C 51 56 dX4_hidesLonger_51 (by decide) hzq6 (fun c51_54 => ?_) (fun c51_54 => ?_)
      · have hS : ¬ (zmg M k.toNat = 0 ∧ w < zml M k.toNat ∧ zmeet (zmv M k.toNat) (zml M k.toNat) id L) := fun z => (hPz6.f c51_54) z.2.2
        refine z_iinc (lv' := [(4, .int (zI (k + 1))), (5, .ref (zad G 3 k.toNat)), (0, .ref (zad G 1 0)), (1, .int (zI id)), (2, .int (zI L)), (3, .int (zI w))]) C 56 dX4_hidesLonger_56 5 rfl (by decide) rfl ?_
        refine z_goto C 59 3 dX4_hidesLonger_59 (by decide) ?_
        refine z_sub (lv' := [(0, .ref (zad G 1 0)), (1, .int (zI id)), (2, .int (zI L)), (3, .int (zI w)), (4, .int (zI (k + 1)))]) [2, 3, 4, 5, 0] rfl ?_
        exact ihz2 (k + 1) (by omega) (by intro i h; exact (Int.lt_or_le (i : Int) k).elim (g1 i) (fun q => by rw [show i = k.toNat by omega]; exact hS)) (by omega)
      refine z_iconst C 54 dX4_hidesLonger_54 ?_
      refine z_zret C 55 dX4_hidesLonger_55 (by decide) (by decide) (by decide) ?_
      exact ⟨rfl, zb.one ⟨k.toNat, by show _ < zV M 1 0 1; omega, by show zV M 3 k.toNat 3 = 0; omega, by show w < zV M 4 k.toNat 1; omega, (hPz6.t (by assumption))⟩⟩
  refine z_sub (lv' := [(0, .ref (zad G 1 0)), (1, .int (zI id)), (2, .int (zI L)), (3, .int (zI w)), (4, .int (zI 0))]) [1, 2, 3, 4, 0] rfl ?_
  exact L3_1 (((zV M 1 0 1 - 0 : Int)).toNat + 1) 0 (by omega) (by intro i h; omega) (by omega)
set_option maxHeartbeats 4000000 in
set_option maxRecDepth 100000 in
theorem c_X4_narrow (l : Launch) (G : zG) (M : zMem) (hw : zwm M) (id m0 : Int) (hid : 0 ≤ id ∧ id < 65536) (hm : -1 ≤ m0 ∧ m0 < 24) : Met l yX4_narrow [.code yX4_narrow cX4_narrow 5 (some .int)] (zR 3 0 0) (zPc G M [.ref (zad G 1 0), .int (zI id), .int (zI m0)]) (zQi G (fun x M' => M = M' ∧ znar (zmv M) (zml M) (zmg M) (zmn M) id (zown (zml M) m0) x)) 0 0 (zA G) := by
  refine z_met [(0, .ref (zad G 1 0)), (1, .int (zI id)), (2, .int (zI m0))] (by decide) (Nat.le_of_ble_eq_true rfl) rfl ?_
  intro p e s m below meth c C
  have C : zC p s m ([.ref (zad G 1 0), .int (zI id), .int (zI m0)] : List Value).toArray meth c G RX4 cX4_narrow 5 (some .int) := C
  have hw9z := hw
  obtain ⟨⟨n0, n1⟩, hp⟩ := hw9z
  refine z_iload_n C 0 dX4_narrow_0 rfl 2 rfl ?_
  refine z_iconst C 1 dX4_narrow_1 ?_
  have J21_1 : ∀ (w : Int), (w = zown (zml M) m0) → (-1 ≤ w ∧ w ≤ 16) → zZ p l e (zR 3 0 0) s m ([.ref (zad G 1 0), .int (zI id), .int (zI m0)] : List Value).toArray below meth c G 5 (MQ below (zQi G (fun x M' => M = M' ∧ znar (zmv M) (zml M) (zmg M) (zmn M) id (zown (zml M) m0) x)) ([.ref (zad G 1 0), .int (zI id), .int (zI m0)] : List Value).toArray s 0 0 (zA G)) M 0 0 21 [(0, .ref (zad G 1 0)), (1, .int (zI id)), (2, .int (zI m0))] [.int (zI w)] := by
    intro w hw1 hw2
    refine z_istore_n (lv' := [(3, .int (zI w)), (0, .ref (zad G 1 0)), (1, .int (zI id)), (2, .int (zI m0))]) C 21 dX4_narrow_21 rfl (by decide) rfl ?_
    refine z_iload_n C 22 dX4_narrow_22 rfl 0 rfl ?_
    refine z_iconst C 23 dX4_narrow_23 ?_
    refine z_max C 24 wm_4_47 (by first | assumption | omega) (by decide) (by decide) dX4_narrow_24 ?_
    refine z_istore (lv' := [(4, .int (zI (max w 0))), (3, .int (zI w)), (0, .ref (zad G 1 0)), (1, .int (zI id)), (2, .int (zI m0))]) C 27 dX4_narrow_27 (by decide) rfl ?_
    have L29_2 : ∀ (kz2 : Nat) (L : Int), (max w 0 ≤ L ∧ L ≤ 16) → (∀ q : Int, max w 0 ≤ q → q < L → zhid (zmv M) (zml M) (zmg M) (zmn M) id q w) → (16 - L) < (kz2 : Int) → zZ p l e (zR 3 0 0) s m ([.ref (zad G 1 0), .int (zI id), .int (zI m0)] : List Value).toArray below meth c G 5 (MQ below (zQi G (fun x M' => M = M' ∧ znar (zmv M) (zml M) (zmg M) (zmn M) id (zown (zml M) m0) x)) ([.ref (zad G 1 0), .int (zI id), .int (zI m0)] : List Value).toArray s 0 0 (zA G)) M 0 0 29 [(3, .int (zI w)), (0, .ref (zad G 1 0)), (1, .int (zI id)), (2, .int (zI m0)), (4, .int (zI L))] [] := by
      intro kz2
      induction kz2 with
      | zero =>
        intro L g0 g1 hk
        exact absurd hk (by omega)
      | succ kz2 ihz3 =>
        intro L g0 g1 hk
        refine z_iload C 29 dX4_narrow_29 4 rfl ?_
        refine z_bipush C 31 dX4_narrow_31 (by decide +kernel) ?_
        refine z_icmp_ge C 33 56 dX4_narrow_33 (by decide) (by first | assumption | omega) (by decide) (fun c33_27 => ?_) (fun c33_27 => ?_)
        · refine z_bipush C 56 dX4_narrow_56 (by decide +kernel) ?_
          refine z_iret C 58 dX4_narrow_58 (by decide) (by decide) (by decide) ?_
          exact ⟨rfl, by rw [← hw1]; exact ⟨by omega, by omega, fun q h1 h2 => g1 q h1 (by omega), fun h => absurd h (by decide)⟩⟩
        refine z_aload_n C 36 dX4_narrow_36 rfl 1 rfl ?_
        refine z_iload_n C 37 dX4_narrow_37 rfl 2 rfl ?_
        refine z_iload C 38 dX4_narrow_38 4 rfl ?_
        refine z_iload_n C 40 dX4_narrow_40 rfl 0 rfl ?_
        refine z_callVi C 41 (As := [.int (zI id), .int (zI L), .int (zI w)]) (rest := []) (c_X4_hidesLonger l G M hw id L w ⟨hid.1, hid.2, by omega, by omega⟩ (by omega)) zcl4 (show 0 < 1 by omega) (zc1 ..) (zW_of 3 C wm_4_53 wc_X4_hidesLonger wini_4 wi_X4_hidesLonger wse_X4_hidesLonger ⟨by decide, by decide, by decide⟩ ⟨by decide, by decide⟩) rfl (Nat.le_of_ble_eq_true rfl) ⟨by decide, by decide⟩ dX4_narrow_41 rfl (fun zq4 Mz5 hzq4 hPz4 => ?_)
        obtain ⟨rfl, hPz4⟩ := hPz4
        refine z_if_ne C 44 50 dX4_narrow_44 (by decide) hzq4 (fun c44_37 => ?_) (fun c44_37 => ?_)
        · refine z_iinc (lv' := [(4, .int (zI (L + 1))), (3, .int (zI w)), (0, .ref (zad G 1 0)), (1, .int (zI id)), (2, .int (zI m0))]) C 50 dX4_narrow_50 4 rfl (by decide) rfl ?_
          refine z_goto C 53 29 dX4_narrow_53 (by decide) ?_
          refine z_sub (lv' := [(3, .int (zI w)), (0, .ref (zad G 1 0)), (1, .int (zI id)), (2, .int (zI m0)), (4, .int (zI (L + 1)))]) [1, 2, 3, 4, 0] rfl ?_
          exact ihz3 (L + 1) (by omega) (by intro q h1 h2; exact (Int.lt_or_le q L).elim (g1 q h1) (fun z => by rw [show q = L by omega]; exact (hPz4.t (by assumption)))) (by omega)
        refine z_iload C 47 dX4_narrow_47 4 rfl ?_
        refine z_iret C 49 dX4_narrow_49 (by decide) (by decide) (by first | assumption | omega) ?_
        exact ⟨rfl, by rw [← hw1]; exact ⟨by omega, by omega, g1, fun _ => hPz4.f (by assumption)⟩⟩
    refine z_sub (lv' := [(3, .int (zI w)), (0, .ref (zad G 1 0)), (1, .int (zI id)), (2, .int (zI m0)), (4, .int (zI (max w 0)))]) [1, 2, 3, 4, 0] rfl ?_
    exact L29_2 (((16 - (max w 0) : Int)).toNat + 1) (max w 0) (by omega) (by intro q h1 h2; omega) (by omega)
  refine z_icmp_ne C 2 9 dX4_narrow_2 (by decide) (by first | assumption | omega) (by decide) (fun c2_47 => ?_) (fun c2_47 => ?_)
  · refine z_aload_n C 9 dX4_narrow_9 rfl 0 rfl ?_
    refine z_get C 10 zcl4 (show 0 < 1 by omega) (zc1 ..) 0 (by decide) rfl wf_4_11 dX4_narrow_10 ?_
    refine z_iload_n C 13 dX4_narrow_13 rfl 2 rfl ?_
    refine z_aald C 14 (show 0 < 1 by omega) (zc2 ..) rfl (by first | assumption | omega) (by omega) (show m0 < ((24 : Nat) : Int) by omega) dX4_narrow_14 ?_
    refine z_get C 15 zcl2 (show m0.toNat < 24 by omega) (zc3 ..) 0 (by decide) rfl wf_4_22 dX4_narrow_15 ?_
    refine z_getI C 18 zcl3 (show m0.toNat < 24 by omega) (zc4 ..) 1 (by decide) rfl wf_4_40 dX4_narrow_18 (fun zq6 ezq6 hzq6 => ?_)
    exact J21_1 zq6 (by unfold zown; rw [if_neg (by omega)]; exact ezq6) (by have hp9z := hp m0.toNat (by omega); unfold zpfx at hp9z; omega)
  refine z_iconst C 5 dX4_narrow_5 ?_
  refine z_goto C 6 21 dX4_narrow_6 (by decide) ?_
  exact J21_1 (-1) (by unfold zown; rw [if_pos (by omega)]) (by omega)
set_option maxHeartbeats 4000000 in
set_option maxRecDepth 100000 in
theorem c_X6_placeOf (l : Launch) (G : zG) (M : zMem) (hw : zwd M) (v b : Int) (hv : zrg v) (hb : zrg b) : Met l yX6_placeOf [.code yX6_placeOf cX6_placeOf 4 (some .int)] (zR 1 0 0) (zPc G M [.ref (zad G 9 0), .int (zI v), .int (zI b)]) (zQi G (fun x M' => M = M' ∧ ((x = -1 ∧ ∀ i : Nat, (i : Int) < zdn M → ¬ (zdv M i = v ∧ zdl M i = b)) ∨ ∃ i : Nat, x = (i : Int) ∧ (i : Int) < zdn M ∧ zdv M i = v ∧ zdl M i = b))) 0 0 (zA G) := by
  refine z_met [(0, .ref (zad G 9 0)), (1, .int (zI v)), (2, .int (zI b))] (by decide) (Nat.le_of_ble_eq_true rfl) rfl ?_
  intro p e s m below meth c C
  have C : zC p s m ([.ref (zad G 9 0), .int (zI v), .int (zI b)] : List Value).toArray meth c G RX6 cX6_placeOf 4 (some .int) := C
  have hw9z := hw
  obtain ⟨⟨n0, n1⟩, hp, ht⟩ := hw9z
  refine z_iconst C 0 dX6_placeOf_0 ?_
  refine z_istore_n (lv' := [(3, .int (zI 0)), (0, .ref (zad G 9 0)), (1, .int (zI v)), (2, .int (zI b))]) C 1 dX6_placeOf_1 rfl (by decide) rfl ?_
  have L2_1 : ∀ (kz1 : Nat) (k : Int), (0 ≤ k ∧ k ≤ zV M 9 0 4) → (∀ i : Nat, (i : Int) < k → ¬ (zdv M i = v ∧ zdl M i = b)) → (zV M 9 0 4 - k) < (kz1 : Int) → zZ p l e (zR 1 0 0) s m ([.ref (zad G 9 0), .int (zI v), .int (zI b)] : List Value).toArray below meth c G 4 (MQ below (zQi G (fun x M' => M = M' ∧ ((x = -1 ∧ ∀ i : Nat, (i : Int) < zdn M → ¬ (zdv M i = v ∧ zdl M i = b)) ∨ ∃ i : Nat, x = (i : Int) ∧ (i : Int) < zdn M ∧ zdv M i = v ∧ zdl M i = b))) ([.ref (zad G 9 0), .int (zI v), .int (zI b)] : List Value).toArray s 0 0 (zA G)) M 0 0 2 [(0, .ref (zad G 9 0)), (1, .int (zI v)), (2, .int (zI b)), (3, .int (zI k))] [] := by
    intro kz1
    induction kz1 with
    | zero =>
      intro k g0 g1 hk
      exact absurd hk (by omega)
    | succ kz1 ihz2 =>
      intro k g0 g1 hk
      refine z_iload_n C 2 dX6_placeOf_2 rfl 3 rfl ?_
      refine z_aload_n C 3 dX6_placeOf_3 rfl 0 rfl ?_
      refine z_getI C 4 zcl6 (show 0 < 1 by omega) (zc9 ..) 4 (by decide) rfl wf_6_28 dX6_placeOf_4 (fun zq3 ezq3 hzq3 => ?_)
      refine z_icmp_ge C 7 32 dX6_placeOf_7 (by decide) (by first | assumption | omega) hzq3 (fun c7_21 => ?_) (fun c7_21 => ?_)
      · refine z_iconst C 32 dX6_placeOf_32 ?_
        refine z_iret C 33 dX6_placeOf_33 (by decide) (by decide) (by decide) ?_
        exact ⟨rfl, Or.inl ⟨rfl, fun i h => g1 i (by have w : (i : Int) < zV M 9 0 4 := h; omega)⟩⟩
      refine z_aload_n C 10 dX6_placeOf_10 rfl 0 rfl ?_
      refine z_get C 11 zcl6 (show 0 < 1 by omega) (zc9 ..) 2 (by decide) rfl wf_6_21 dX6_placeOf_11 ?_
      refine z_iload_n C 14 dX6_placeOf_14 rfl 3 rfl ?_
      refine z_aald C 15 (show 0 < 1 by omega) (zc12 ..) rfl (by first | assumption | omega) (by omega) (show k < ((12 : Nat) : Int) by omega) dX6_placeOf_15 ?_
      refine z_iload_n C 16 dX6_placeOf_16 rfl 1 rfl ?_
      refine z_iload_n C 17 dX6_placeOf_17 rfl 2 rfl ?_
      refine z_callVi C 18 (As := [.int (zI v), .int (zI b)]) (rest := []) (c_X3_is_14 l G M k.toNat (by omega) v b hv hb) zcl3 (show k.toNat < 12 by omega) (zc14 ..) (zW_of 2 C wm_6_33 wc_X3_is wini_3 wi_X3_is wse_X3_is ⟨by decide, by decide, by decide⟩ ⟨by decide, by decide⟩) rfl (Nat.le_of_ble_eq_true rfl) ⟨by decide, by decide⟩ dX6_placeOf_18 rfl (fun zq4 Mz5 hzq4 hPz4 => ?_)
      obtain ⟨rfl, hPz4⟩ := hPz4
      refine z_if_eq C 21 26 dX6_placeOf_21 (by decide) hzq4 (fun c21_33 => ?_) (fun c21_33 => ?_)
      · refine z_iinc (lv' := [(3, .int (zI (k + 1))), (0, .ref (zad G 9 0)), (1, .int (zI v)), (2, .int (zI b))]) C 26 dX6_placeOf_26 3 rfl (by decide) rfl ?_
        refine z_goto C 29 2 dX6_placeOf_29 (by decide) ?_
        refine z_sub (lv' := [(0, .ref (zad G 9 0)), (1, .int (zI v)), (2, .int (zI b)), (3, .int (zI (k + 1)))]) [1, 2, 3, 0] rfl ?_
        exact ihz2 (k + 1) (by omega) (by intro i h; exact (Int.lt_or_le (i : Int) k).elim (g1 i) (fun q => by rw [show i = k.toNat by omega]; exact (hPz4.f (by assumption)))) (by omega)
      refine z_iload_n C 24 dX6_placeOf_24 rfl 3 rfl ?_
      refine z_iret C 25 dX6_placeOf_25 (by decide) (by decide) (by first | assumption | omega) ?_
      exact ⟨rfl, Or.inr ⟨k.toNat, by omega, by show _ < zV M 9 0 4; omega, (hPz4.t (by assumption))⟩⟩
  refine z_sub (lv' := [(0, .ref (zad G 9 0)), (1, .int (zI v)), (2, .int (zI b)), (3, .int (zI 0))]) [1, 2, 3, 0] rfl ?_
  exact L2_1 (((zV M 9 0 4 - 0 : Int)).toNat + 1) 0 (by omega) (by intro i h; omega) (by omega)
set_option maxHeartbeats 4000000 in
set_option maxRecDepth 100000 in
theorem c_X6_add (l : Launch) (G : zG) (M : zMem) (hn : 0 ≤ zV M 9 0 4 ∧ zV M 9 0 4 < 12) (v b t : Int) : Met l yX6_add [.code yX6_add cX6_add 4 none] (zR 1 0 0) (zPc G M [.ref (zad G 9 0), .int (zI v), .int (zI b), .int (zI t)]) (zQv G (fun M' => M' = zup (zup (zup (zup M 14 (zV M 9 0 4).toNat 0 (zI v)) 14 (zV M 9 0 4).toNat 1 (zI b)) 13 0 (zV M 9 0 4).toNat (zI t)) 9 0 4 (zI (zV M 9 0 4 + 1)))) 0 0 (zA G) := by
  refine z_met [(0, .ref (zad G 9 0)), (1, .int (zI v)), (2, .int (zI b)), (3, .int (zI t))] (by decide) (Nat.le_of_ble_eq_true rfl) rfl ?_
  intro p e s m below meth c C
  have C : zC p s m ([.ref (zad G 9 0), .int (zI v), .int (zI b), .int (zI t)] : List Value).toArray meth c G RX6 cX6_add 4 none := C
  refine z_aload_n C 0 dX6_add_0 rfl 0 rfl ?_
  refine z_get C 1 zcl6 (show 0 < 1 by omega) (zc9 ..) 2 (by decide) rfl wf_6_21 dX6_add_1 ?_
  refine z_aload_n C 4 dX6_add_4 rfl 0 rfl ?_
  refine z_getI C 5 zcl6 (show 0 < 1 by omega) (zc9 ..) 4 (by decide) rfl wf_6_28 dX6_add_5 (fun zq1 ezq1 hzq1 => ?_)
  refine z_aald C 8 (show 0 < 1 by omega) (zc12 ..) rfl hzq1 (by omega) (show zq1 < ((12 : Nat) : Int) by omega) dX6_add_8 ?_
  refine z_iload_n C 9 dX6_add_9 rfl 1 rfl ?_
  refine z_iload_n C 10 dX6_add_10 rfl 2 rfl ?_
  refine z_callVv C 11 (As := [.int (zI v), .int (zI b)]) (rest := []) (c_X3_set_14 l G M (zq1).toNat (by omega) v b) zcl3 (show zq1.toNat < 12 by omega) (zc14 ..) (zW_of 2 C wm_6_37 wc_X3_set wini_3 wi_X3_set wse_X3_set ⟨by decide, by decide, by decide⟩ ⟨by decide, by decide⟩) rfl (Nat.le_of_ble_eq_true rfl) ⟨by decide, by decide⟩ dX6_add_11 rfl (fun Mz3 hPz2 => ?_)
  refine z_aload_n C 14 dX6_add_14 rfl 0 rfl ?_
  refine z_get C 15 zcl6 (show 0 < 1 by omega) (zc9 ..) 3 (by decide) rfl wf_6_25 dX6_add_15 ?_
  refine z_aload_n C 18 dX6_add_18 rfl 0 rfl ?_
  refine z_getI C 19 zcl6 (show 0 < 1 by omega) (zc9 ..) 4 (by decide) rfl wf_6_28 dX6_add_19 (fun zq4 ezq4 hzq4 => ?_)
  rw [hPz2, zV_ne (by decide), zV_ne (by decide)] at ezq4
  refine z_iload_n C 22 dX6_add_22 rfl 3 rfl ?_
  refine z_iast C 23 (show 0 < 1 by omega) (zc13 ..) hzq4 (by omega) (show zq4 < ((12 : Nat) : Int) by omega) (zc13 ..) dX6_add_23 ?_
  refine z_aload_n C 24 dX6_add_24 rfl 0 rfl ?_
  refine z_dup C 25 dX6_add_25 rfl ?_
  refine z_getI C 26 zcl6 (show 0 < 1 by omega) (zc9 ..) 4 (by decide) rfl wf_6_28 dX6_add_26 (fun zq5 ezq5 hzq5 => ?_)
  rw [zV_ne (by decide)] at ezq5
  rw [hPz2, zV_ne (by decide), zV_ne (by decide)] at ezq5
  refine z_iconst C 29 dX6_add_29 ?_
  refine z_iadd C 30 dX6_add_30 ?_
  refine z_putI C 31 zcl6 (show 0 < 1 by omega) (zc9 ..) 4 (by decide) wf_6_28 rfl rfl rfl (Nat.le_of_ble_eq_true rfl) (zc9 ..) dX6_add_31 ?_
  refine z_vret C 34 dX6_add_34 (by decide) (by decide) ?_
  rw [hPz2]
  obtain rfl := ezq1
  obtain rfl := ezq4
  obtain rfl := ezq5
  rfl
set_option maxHeartbeats 4000000 in
set_option maxRecDepth 100000 in
theorem c_X6_find (l : Launch) (G : zG) (M : zMem) (hw : zwd M) (id : Int) (hid : 0 ≤ id ∧ id < 65536) : Met l yX6_find [.code yX6_find cX6_find 5 (some .int)] (zR 3 0 0) (zPc G M [.ref (zad G 9 0), .int (zI id)]) (zQi G (fun x M' => M = M' ∧ ∃ y : Int, zfnd (zdv M) (zdl M) z0 (zdn M) id y ∧ x = zsv (zdt M) y)) 0 0 (zA G) := by
  refine z_met [(0, .ref (zad G 9 0)), (1, .int (zI id))] (by decide) (Nat.le_of_ble_eq_true rfl) rfl ?_
  intro p e s m below meth c C
  have C : zC p s m ([.ref (zad G 9 0), .int (zI id)] : List Value).toArray meth c G RX6 cX6_find 5 (some .int) := C
  have hw9z := hw
  obtain ⟨⟨n0, n1⟩, hp, ht⟩ := hw9z
  refine z_iconst C 0 dX6_find_0 ?_
  refine z_istore_n (lv' := [(2, .int (zI 0)), (0, .ref (zad G 9 0)), (1, .int (zI id))]) C 1 dX6_find_1 rfl (by decide) rfl ?_
  refine z_iconst C 2 dX6_find_2 ?_
  refine z_istore_n (lv' := [(3, .int (zI (-1))), (2, .int (zI 0)), (0, .ref (zad G 9 0)), (1, .int (zI id))]) C 3 dX6_find_3 rfl (by decide) rfl ?_
  refine z_iconst C 4 dX6_find_4 ?_
  refine z_istore (lv' := [(4, .int (zI 0)), (3, .int (zI (-1))), (2, .int (zI 0)), (0, .ref (zad G 9 0)), (1, .int (zI id))]) C 5 dX6_find_5 (by decide) rfl ?_
  have L7_1 : ∀ (kz1 : Nat) (b : Int) (bl : Int) (k : Int) (y : Int), (0 ≤ k ∧ k ≤ zV M 9 0 4) → (zfndk (zdv M) (zdl M) z0 (zdn M) id k y bl) → (0 ≤ b ∧ b < 4 ∧ -1 ≤ bl ∧ bl ≤ 16) → (b = zsv (zdt M) y) → (zV M 9 0 4 - k) < (kz1 : Int) → zZ p l e (zR 3 0 0) s m ([.ref (zad G 9 0), .int (zI id)] : List Value).toArray below meth c G 5 (MQ below (zQi G (fun x M' => M = M' ∧ ∃ y : Int, zfnd (zdv M) (zdl M) z0 (zdn M) id y ∧ x = zsv (zdt M) y)) ([.ref (zad G 9 0), .int (zI id)] : List Value).toArray s 0 0 (zA G)) M 0 0 7 [(0, .ref (zad G 9 0)), (1, .int (zI id)), (2, .int (zI b)), (3, .int (zI bl)), (4, .int (zI k))] [] := by
    intro kz1
    induction kz1 with
    | zero =>
      intro b bl k y g0 g1 g2 g3 hk
      exact absurd hk (by omega)
    | succ kz1 ihz2 =>
      intro b bl k y g0 g1 g2 g3 hk
      have hpk := hp k.toNat
      have htk := ht k.toNat
      refine z_iload C 7 dX6_find_7 4 rfl ?_
      refine z_aload_n C 9 dX6_find_9 rfl 0 rfl ?_
      refine z_getI C 10 zcl6 (show 0 < 1 by omega) (zc9 ..) 4 (by decide) rfl wf_6_28 dX6_find_10 (fun zq3 ezq3 hzq3 => ?_)
      refine z_icmp_ge C 13 69 dX6_find_13 (by decide) (by first | assumption | omega) hzq3 (fun c13_27 => ?_) (fun c13_27 => ?_)
      · refine z_iload_n C 69 dX6_find_69 rfl 2 rfl ?_
        refine z_iret C 70 dX6_find_70 (by decide) (by decide) (by first | assumption | omega) ?_
        exact ⟨rfl, y, zfnd_end g1 (by show zV M 9 0 4 ≤ k; omega), g3⟩
      refine z_aload_n C 16 dX6_find_16 rfl 0 rfl ?_
      refine z_get C 17 zcl6 (show 0 < 1 by omega) (zc9 ..) 2 (by decide) rfl wf_6_21 dX6_find_17 ?_
      refine z_iload C 20 dX6_find_20 4 rfl ?_
      refine z_aald C 22 (show 0 < 1 by omega) (zc12 ..) rfl (by first | assumption | omega) (by omega) (show k < ((12 : Nat) : Int) by omega) dX6_find_22 ?_
      refine z_getI C 23 zcl3 (show k.toNat < 12 by omega) (zc14 ..) 1 (by decide) rfl wf_6_41 dX6_find_23 (fun zq4 ezq4 hzq4 => ?_)
      refine z_iload_n C 26 dX6_find_26 rfl 3 rfl ?_
      refine z_icmp_le C 27 63 dX6_find_27 (by decide) hzq4 (by first | assumption | omega) (fun c27_37 => ?_) (fun c27_37 => ?_)
      · have hS : zcov (zdv M) (zdl M) z0 (zdn M) id k.toNat → zdl M k.toNat ≤ bl := fun w => by show zV M 14 k.toNat 1 ≤ bl; omega
        refine z_iinc (lv' := [(4, .int (zI (k + 1))), (0, .ref (zad G 9 0)), (1, .int (zI id)), (2, .int (zI b)), (3, .int (zI bl))]) C 63 dX6_find_63 4 rfl (by decide) rfl ?_
        refine z_goto C 66 7 dX6_find_66 (by decide) ?_
        refine z_sub (lv' := [(0, .ref (zad G 9 0)), (1, .int (zI id)), (2, .int (zI b)), (3, .int (zI bl)), (4, .int (zI (k + 1)))]) [1, 2, 3, 4, 0] rfl ?_
        exact ihz2 b bl (k + 1) y (by omega) (by exact zfnd_skip g1 (by omega) (zwd_l hw) hS) (by exact g2) (by exact g3) (by omega)
      refine z_aload_n C 30 dX6_find_30 rfl 0 rfl ?_
      refine z_get C 31 zcl6 (show 0 < 1 by omega) (zc9 ..) 2 (by decide) rfl wf_6_21 dX6_find_31 ?_
      refine z_iload C 34 dX6_find_34 4 rfl ?_
      refine z_aald C 36 (show 0 < 1 by omega) (zc12 ..) rfl (by first | assumption | omega) (by omega) (show k < ((12 : Nat) : Int) by omega) dX6_find_36 ?_
      refine z_iload_n C 37 dX6_find_37 rfl 1 rfl ?_
      refine z_callVi C 38 (As := [.int (zI id)]) (rest := []) (c_X3_covers_14 l G M k.toNat (by omega) (hp _ (by omega)) id hid) zcl3 (show k.toNat < 12 by omega) (zc14 ..) (zW_of 1 C wm_6_44 wc_X3_covers wini_3 wi_X3_covers wse_X3_covers ⟨by decide, by decide, by decide⟩ ⟨by decide, by decide⟩) rfl (Nat.le_of_ble_eq_true rfl) ⟨by decide, by decide⟩ dX6_find_38 rfl (fun zq5 Mz6 hzq5 hPz5 => ?_)
      obtain ⟨rfl, hPz5⟩ := hPz5
      refine z_if_eq C 41 63 dX6_find_41 (by decide) hzq5 (fun c41_50 => ?_) (fun c41_50 => ?_)
      · have hS : zcov (zdv M) (zdl M) z0 (zdn M) id k.toNat → zdl M k.toNat ≤ bl := fun w => absurd w.2.2 (hPz5.f c41_50)
        refine z_iinc (lv' := [(4, .int (zI (k + 1))), (0, .ref (zad G 9 0)), (1, .int (zI id)), (2, .int (zI b)), (3, .int (zI bl))]) C 63 dX6_find_63 4 rfl (by decide) rfl ?_
        refine z_goto C 66 7 dX6_find_66 (by decide) ?_
        refine z_sub (lv' := [(0, .ref (zad G 9 0)), (1, .int (zI id)), (2, .int (zI b)), (3, .int (zI bl)), (4, .int (zI (k + 1)))]) [1, 2, 3, 4, 0] rfl ?_
        exact ihz2 b bl (k + 1) y (by omega) (by exact zfnd_skip g1 (by omega) (zwd_l hw) hS) (by exact g2) (by exact g3) (by omega)
      have hT : zcov (zdv M) (zdl M) z0 (zdn M) id k.toNat := ⟨by show _ < zV M 9 0 4; omega, rfl, hPz5.t c41_50⟩
      refine z_aload_n C 44 dX6_find_44 rfl 0 rfl ?_
      refine z_get C 45 zcl6 (show 0 < 1 by omega) (zc9 ..) 3 (by decide) rfl wf_6_25 dX6_find_45 ?_
      refine z_iload C 48 dX6_find_48 4 rfl ?_
      refine z_iald C 50 (show 0 < 1 by omega) (zc13 ..) (by first | assumption | omega) (by omega) (show k < ((12 : Nat) : Int) by omega) dX6_find_50 (fun zq7 ezq7 hzq7 => ?_)
      refine z_istore_n (lv' := [(2, .int (zI zq7)), (0, .ref (zad G 9 0)), (1, .int (zI id)), (3, .int (zI bl)), (4, .int (zI k))]) C 51 dX6_find_51 rfl (by decide) rfl ?_
      refine z_aload_n C 52 dX6_find_52 rfl 1 rfl ?_
      refine z_get C 53 zcl6 (show 0 < 1 by omega) (zc9 ..) 2 (by decide) rfl wf_6_21 dX6_find_53 ?_
      refine z_iload C 56 dX6_find_56 4 rfl ?_
      refine z_aald C 58 (show 0 < 1 by omega) (zc12 ..) rfl (by first | assumption | omega) (by omega) (show k < ((12 : Nat) : Int) by omega) dX6_find_58 ?_
      refine z_getI C 59 zcl3 (show k.toNat < 12 by omega) (zc14 ..) 1 (by decide) rfl wf_6_41 dX6_find_59 (fun zq8 ezq8 hzq8 => ?_)
      refine z_istore_n (lv' := [(3, .int (zI zq8)), (2, .int (zI zq7)), (0, .ref (zad G 9 0)), (1, .int (zI id)), (4, .int (zI k))]) C 62 dX6_find_62 rfl (by decide) rfl ?_
      refine z_iinc (lv' := [(4, .int (zI (k + 1))), (3, .int (zI zq8)), (2, .int (zI zq7)), (0, .ref (zad G 9 0)), (1, .int (zI id))]) C 63 dX6_find_63 4 rfl (by decide) rfl ?_
      refine z_goto C 66 7 dX6_find_66 (by decide) ?_
      refine z_sub (lv' := [(0, .ref (zad G 9 0)), (1, .int (zI id)), (2, .int (zI zq7)), (3, .int (zI zq8)), (4, .int (zI (k + 1)))]) [3, 4, 2, 1, 0] rfl ?_
      exact ihz2 zq7 zq8 (k + 1) k (by omega) (by rw [ezq8]; exact zfnd_take g1 (by omega) hT (by show bl < zV M 14 k.toNat 1; omega)) (by have hpk9 := hpk (by omega); have htk9 := htk (by omega); unfold zpfx at hpk9; omega) (by rw [ezq7]; unfold zsv; rw [if_neg (by omega)]; rfl) (by omega)
  refine z_sub (lv' := [(0, .ref (zad G 9 0)), (1, .int (zI id)), (2, .int (zI 0)), (3, .int (zI (-1))), (4, .int (zI 0))]) [3, 4, 2, 1, 0] rfl ?_
  exact L7_1 (((zV M 9 0 4 - 0 : Int)).toNat + 1) 0 (-1) 0 (-1) (by omega) (by exact zfnd_0 _ _ _ _ _) (by omega) (by rfl) (by omega)
