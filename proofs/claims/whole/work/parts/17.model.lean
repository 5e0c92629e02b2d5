set_option maxHeartbeats 4000000 in
set_option maxRecDepth 100000 in
theorem c_X8_thrown (l : Launch) (G : zG) (M : zMem)  : Met l yX8_thrown [.code yX8_thrown cX8_thrown 1 (some .int)] (zR 0 0 0) (zPc G M [.ref (zad G 26 0)]) (zQi G (fun x M' => M = M' ∧ x = zV M 26 0 0)) 0 0 (zA G) := by
  refine z_met [(0, .ref (zad G 26 0))] (by decide) (Nat.le_of_ble_eq_true rfl) rfl ?_
  intro p e s m below meth c C
  have C : zC p s m ([.ref (zad G 26 0)] : List Value).toArray meth c G RX8 cX8_thrown 1 (some .int) := C
  refine z_aload_n C 0 dX8_thrown_0 rfl 0 rfl ?_
  refine z_getI C 1 zcl8 (show 0 < 1 by omega) (zc26 ..) 0 (by decide) rfl wf_8_99 dX8_thrown_1 (fun zq1 ezq1 hzq1 => ?_)
  refine z_iret C 4 dX8_thrown_4 (by decide) (by decide) hzq1 ?_
  exact ⟨rfl, ezq1⟩
set_option maxHeartbeats 4000000 in
set_option maxRecDepth 100000 in
theorem c_X8_in (l : Launch) (G : zG) (M : zMem) (v lo hi : Int) (h1 : zrg v) (h2 : zrg lo) (h3 : zrg hi) : Met l yX8_in [.code yX8_in cX8_in 3 (some .boolean)] (zR 0 0 0) (zPc G M [.int (zI v), .int (zI lo), .int (zI hi)]) (zQi G (fun x M' => M = M' ∧ zb x (lo ≤ v ∧ v ≤ hi))) 0 0 (zA G) := by
  refine z_met [(0, .int (zI v)), (1, .int (zI lo)), (2, .int (zI hi))] (by decide) (Nat.le_of_ble_eq_true rfl) rfl ?_
  intro p e s m below meth c C
  have C : zC p s m ([.int (zI v), .int (zI lo), .int (zI hi)] : List Value).toArray meth c G RX8 cX8_in 3 (some .boolean) := C
  refine z_iload_n C 0 dX8_in_0 rfl 0 rfl ?_
  refine z_iload_n C 1 dX8_in_1 rfl 1 rfl ?_
  refine z_icmp_lt C 2 14 dX8_in_2 (by decide) (by first | assumption | omega) (by first | assumption | omega) (fun c2_8 => ?_) (fun c2_8 => ?_)
  · refine z_iconst C 14 dX8_in_14 ?_
    refine z_zret C 15 dX8_in_15 (by decide) (by decide) (by decide) ?_
    exact ⟨rfl, zb.zero (by omega)⟩
  refine z_iload_n C 5 dX8_in_5 rfl 0 rfl ?_
  refine z_iload_n C 6 dX8_in_6 rfl 2 rfl ?_
  refine z_icmp_gt C 7 14 dX8_in_7 (by decide) (by first | assumption | omega) (by first | assumption | omega) (fun c7_14 => ?_) (fun c7_14 => ?_)
  · refine z_iconst C 14 dX8_in_14 ?_
    refine z_zret C 15 dX8_in_15 (by decide) (by decide) (by decide) ?_
    exact ⟨rfl, zb.zero (by omega)⟩
  refine z_iconst C 10 dX8_in_10 ?_
  refine z_goto C 11 15 dX8_in_11 (by decide) ?_
  refine z_zret C 15 dX8_in_15 (by decide) (by decide) (by decide) ?_
  exact ⟨rfl, zb.one (by omega)⟩
set_option maxHeartbeats 4000000 in
set_option maxRecDepth 100000 in
theorem c_X8_isIdentifier (l : Launch) (G : zG) (M : zMem) (v : Int) (h1 : zrg v) : Met l yX8_isIdentifier [.code yX8_isIdentifier cX8_isIdentifier 1 (some .boolean)] (zR 1 0 0) (zPc G M [.int (zI v)]) (zQi G (fun x M' => M = M' ∧ zb x (0 ≤ v ∧ v < 65536))) 0 0 (zA G) := by
  refine z_met [(0, .int (zI v))] (by decide) (Nat.le_of_ble_eq_true rfl) rfl ?_
  intro p e s m below meth c C
  have C : zC p s m ([.int (zI v)] : List Value).toArray meth c G RX8 cX8_isIdentifier 1 (some .boolean) := C
  refine z_iload_n C 0 dX8_isIdentifier_0 rfl 0 rfl ?_
  refine z_iconst C 1 dX8_isIdentifier_1 ?_
  refine z_ldc C 2 wk_8_102 dX8_isIdentifier_2 ?_
  refine z_callSi C 4 (As := [.int (zI v), .int (zI 0), .int (zI 65535)]) (rest := []) (c_X8_in l G M v 0 65535 (by first | assumption | decide | omega) (by first | assumption | decide | omega) (by first | assumption | decide | omega)) (zS_of 3 C wm_8_103 wc_X8_in wini_8 wst_X8_in ⟨by decide, by decide, by decide⟩ ⟨by decide, by decide⟩) rfl (Nat.le_of_ble_eq_true rfl) ⟨by decide, by decide⟩ dX8_isIdentifier_4 rfl (fun zq1 Mz2 hzq1 hPz1 => ?_)
  obtain ⟨rfl, hPz1⟩ := hPz1
  refine z_zret C 7 dX8_isIdentifier_7 (by decide) (by decide) (hPz1.1) ?_
  exact ⟨rfl, hPz1.1, hPz1.2.trans ⟨fun z => by omega, fun z => by omega⟩⟩
set_option maxHeartbeats 4000000 in
set_option maxRecDepth 100000 in
theorem c_X8_isServer (l : Launch) (G : zG) (M : zMem) (v : Int) (h1 : zrg v) : Met l yX8_isServer [.code yX8_isServer cX8_isServer 1 (some .boolean)] (zR 1 0 0) (zPc G M [.int (zI v)]) (zQi G (fun x M' => M = M' ∧ zb x (0 ≤ v ∧ v < 4))) 0 0 (zA G) := by
  refine z_met [(0, .int (zI v))] (by decide) (Nat.le_of_ble_eq_true rfl) rfl ?_
  intro p e s m below meth c C
  have C : zC p s m ([.int (zI v)] : List Value).toArray meth c G RX8 cX8_isServer 1 (some .boolean) := C
  refine z_iload_n C 0 dX8_isServer_0 rfl 0 rfl ?_
  refine z_iconst C 1 dX8_isServer_1 ?_
  refine z_iconst C 2 dX8_isServer_2 ?_
  refine z_callSi C 3 (As := [.int (zI v), .int (zI 0), .int (zI 3)]) (rest := []) (c_X8_in l G M v 0 3 (by first | assumption | decide | omega) (by first | assumption | decide | omega) (by first | assumption | decide | omega)) (zS_of 3 C wm_8_103 wc_X8_in wini_8 wst_X8_in ⟨by decide, by decide, by decide⟩ ⟨by decide, by decide⟩) rfl (Nat.le_of_ble_eq_true rfl) ⟨by decide, by decide⟩ dX8_isServer_3 rfl (fun zq1 Mz2 hzq1 hPz1 => ?_)
  obtain ⟨rfl, hPz1⟩ := hPz1
  refine z_zret C 6 dX8_isServer_6 (by decide) (by decide) (hPz1.1) ?_
  exact ⟨rfl, hPz1.1, hPz1.2.trans ⟨fun z => by omega, fun z => by omega⟩⟩
set_option maxHeartbeats 4000000 in
set_option maxRecDepth 100000 in
theorem c_X8_isRouter (l : Launch) (G : zG) (M : zMem) (v : Int) (h1 : zrg v) : Met l yX8_isRouter [.code yX8_isRouter cX8_isRouter 1 (some .boolean)] (zR 1 0 0) (zPc G M [.int (zI v)]) (zQi G (fun x M' => M = M' ∧ zb x (0 ≤ v ∧ v < 3))) 0 0 (zA G) := by
  refine z_met [(0, .int (zI v))] (by decide) (Nat.le_of_ble_eq_true rfl) rfl ?_
  intro p e s m below meth c C
  have C : zC p s m ([.int (zI v)] : List Value).toArray meth c G RX8 cX8_isRouter 1 (some .boolean) := C
  refine z_iload_n C 0 dX8_isRouter_0 rfl 0 rfl ?_
  refine z_iconst C 1 dX8_isRouter_1 ?_
  refine z_iconst C 2 dX8_isRouter_2 ?_
  refine z_callSi C 3 (As := [.int (zI v), .int (zI 0), .int (zI 2)]) (rest := []) (c_X8_in l G M v 0 2 (by first | assumption | decide | omega) (by first | assumption | decide | omega) (by first | assumption | decide | omega)) (zS_of 3 C wm_8_103 wc_X8_in wini_8 wst_X8_in ⟨by decide, by decide, by decide⟩ ⟨by decide, by decide⟩) rfl (Nat.le_of_ble_eq_true rfl) ⟨by decide, by decide⟩ dX8_isRouter_3 rfl (fun zq1 Mz2 hzq1 hPz1 => ?_)
  obtain ⟨rfl, hPz1⟩ := hPz1
  refine z_zret C 6 dX8_isRouter_6 (by decide) (by decide) (hPz1.1) ?_
  exact ⟨rfl, hPz1.1, hPz1.2.trans ⟨fun z => by omega, fun z => by omega⟩⟩
set_option maxHeartbeats 4000000 in
set_option maxRecDepth 100000 in
theorem c_X8_first (l : Launch) (G : zG) (M : zMem) (v b : Int) (h1 : zpfx v b) : Met l yX8_first [.code yX8_first cX8_first 2 (some .int)] (zR 0 0 0) (zPc G M [.int (zI v), .int (zI b)]) (zQi G (fun x M' => M = M' ∧ x = zfs v b)) 0 0 (zA G) := by
  refine z_met [(0, .int (zI v)), (1, .int (zI b))] (by decide) (Nat.le_of_ble_eq_true rfl) rfl ?_
  intro p e s m below meth c C
  have C : zC p s m ([.int (zI v), .int (zI b)] : List Value).toArray meth c G RX8 cX8_first 2 (some .int) := C
  obtain ⟨v0, v1, v2, v3⟩ := h1
  refine z_iload_n C 0 dX8_first_0 rfl 0 rfl ?_
  refine z_bipush C 1 dX8_first_1 (by decide +kernel) ?_
  refine z_iload_n C 3 dX8_first_3 rfl 1 rfl ?_
  refine z_isub C 4 dX8_first_4 ?_
  refine z_ishr C 5 (v := zfs v b) dX8_first_5 (z_shr v0 v1 v2 v3) ?_
  refine z_iret C 6 dX8_first_6 (by decide) (by decide) (by have := zfs_rg v0 v1 v2 v3; omega) ?_
  exact ⟨rfl, rfl⟩
set_option maxHeartbeats 4000000 in
set_option maxRecDepth 100000 in
theorem c_X8_isPrefix (l : Launch) (G : zG) (M : zMem) (v b : Int) (h1 : zrg v) (h2 : zrg b) : Met l yX8_isPrefix [.code yX8_isPrefix cX8_isPrefix 2 (some .boolean)] (zR 2 0 0) (zPc G M [.int (zI v), .int (zI b)]) (zQi G (fun x M' => M = M' ∧ zb x (zvp v b))) 0 0 (zA G) := by
  refine z_met [(0, .int (zI v)), (1, .int (zI b))] (by decide) (Nat.le_of_ble_eq_true rfl) rfl ?_
  intro p e s m below meth c C
  have C : zC p s m ([.int (zI v), .int (zI b)] : List Value).toArray meth c G RX8 cX8_isPrefix 2 (some .boolean) := C
  refine z_iload_n C 0 dX8_isPrefix_0 rfl 0 rfl ?_
  refine z_callSi C 1 (As := [.int (zI v)]) (rest := []) (c_X8_isIdentifier l G M v h1) (zS_of 1 C wm_8_107 wc_X8_isIdentifier wini_8 wst_X8_isIdentifier ⟨by decide, by decide, by decide⟩ ⟨by decide, by decide⟩) rfl (Nat.le_of_ble_eq_true rfl) ⟨by decide, by decide⟩ dX8_isPrefix_1 rfl (fun zq1 Mz2 hzq1 hPz1 => ?_)
  obtain ⟨rfl, hPz1⟩ := hPz1
  refine z_if_eq C 4 35 dX8_isPrefix_4 (by decide) hzq1 (fun c4_9 => ?_) (fun c4_9 => ?_)
  · have hF : ¬ zvp v b := fun z => hPz1.f c4_9 ⟨z.1.1, z.1.2.1⟩
    refine z_iconst C 35 dX8_isPrefix_35 ?_
    refine z_zret C 36 dX8_isPrefix_36 (by decide) (by decide) (by decide) ?_
    exact ⟨rfl, zb.zero hF⟩
  refine z_iload_n C 7 dX8_isPrefix_7 rfl 1 rfl ?_
  refine z_iconst C 8 dX8_isPrefix_8 ?_
  refine z_bipush C 9 dX8_isPrefix_9 (by decide +kernel) ?_
  refine z_callSi C 11 (As := [.int (zI b), .int (zI 0), .int (zI 16)]) (rest := []) (c_X8_in l G M b 0 16 (by first | assumption | decide | omega) (by first | assumption | decide | omega) (by first | assumption | decide | omega)) (zS_of 3 C wm_8_103 wc_X8_in wini_8 wst_X8_in ⟨by decide, by decide, by decide⟩ ⟨by decide, by decide⟩) rfl (Nat.le_of_ble_eq_true rfl) ⟨by decide, by decide⟩ dX8_isPrefix_11 rfl (fun zq3 Mz4 hzq3 hPz3 => ?_)
  obtain ⟨rfl, hPz3⟩ := hPz3
  refine z_if_eq C 14 35 dX8_isPrefix_14 (by decide) hzq3 (fun c14_19 => ?_) (fun c14_19 => ?_)
  · have hF : ¬ zvp v b := fun z => hPz3.f c14_19 ⟨z.1.2.2.1, z.1.2.2.2⟩
    refine z_iconst C 35 dX8_isPrefix_35 ?_
    refine z_zret C 36 dX8_isPrefix_36 (by decide) (by decide) (by decide) ?_
    exact ⟨rfl, zb.zero hF⟩
  have hp1 := hPz1.t (by assumption)
  have hp2 := hPz3.t (by assumption)
  have hp : zpfx v b := ⟨hp1.1, hp1.2, hp2.1, hp2.2⟩
  refine z_iload_n C 17 dX8_isPrefix_17 rfl 0 rfl ?_
  refine z_iload_n C 18 dX8_isPrefix_18 rfl 1 rfl ?_
  refine z_callSi C 19 (As := [.int (zI v), .int (zI b)]) (rest := []) (c_X8_first l G M v b hp) (zS_of 2 C wm_8_111 wc_X8_first wini_8 wst_X8_first ⟨by decide, by decide, by decide⟩ ⟨by decide, by decide⟩) rfl (Nat.le_of_ble_eq_true rfl) ⟨by decide, by decide⟩ dX8_isPrefix_19 rfl (fun zq5 Mz6 hzq5 hPz5 => ?_)
  obtain ⟨rfl, hPz5⟩ := hPz5
  refine z_bipush C 22 dX8_isPrefix_22 (by decide +kernel) ?_
  refine z_iload_n C 24 dX8_isPrefix_24 rfl 1 rfl ?_
  refine z_isub C 25 dX8_isPrefix_25 ?_
  rw [hPz5]
  refine z_ishl C 26 (v := zfb v b) dX8_isPrefix_26 (z_shl hp1.1 hp1.2 hp2.1 hp2.2) ?_
  refine z_iload_n C 27 dX8_isPrefix_27 rfl 0 rfl ?_
  refine z_icmp_ne C 28 35 dX8_isPrefix_28 (by decide) (by have := zfb_rg hp1.1 hp1.2 hp2.1 hp2.2; omega) h1 (fun c28_37 => ?_) (fun c28_37 => ?_)
  · have hF : ¬ zvp v b := fun z => by have := z.2; omega
    refine z_iconst C 35 dX8_isPrefix_35 ?_
    refine z_zret C 36 dX8_isPrefix_36 (by decide) (by decide) (by decide) ?_
    exact ⟨rfl, zb.zero hF⟩
  refine z_iconst C 31 dX8_isPrefix_31 ?_
  refine z_goto C 32 36 dX8_isPrefix_32 (by decide) ?_
  refine z_zret C 36 dX8_isPrefix_36 (by decide) (by decide) (by decide) ?_
  exact ⟨rfl, zb.one ⟨hp, by omega⟩⟩
set_option maxHeartbeats 4000000 in
set_option maxRecDepth 100000 in
theorem c_X8_meet (l : Launch) (G : zG) (M : zMem) (v b w d : Int) (h1 : zpfx v b) (h2 : zpfx w d) : Met l yX8_meet [.code yX8_meet cX8_meet 5 (some .boolean)] (zR 1 0 0) (zPc G M [.int (zI v), .int (zI b), .int (zI w), .int (zI d)]) (zQi G (fun x M' => M = M' ∧ zb x (zmeet v b w d))) 0 0 (zA G) := by
  refine z_met [(0, .int (zI v)), (1, .int (zI b)), (2, .int (zI w)), (3, .int (zI d))] (by decide) (Nat.le_of_ble_eq_true rfl) rfl ?_
  intro p e s m below meth c C
  have C : zC p s m ([.int (zI v), .int (zI b), .int (zI w), .int (zI d)] : List Value).toArray meth c G RX8 cX8_meet 5 (some .boolean) := C
  obtain ⟨v0, v1, v2, v3⟩ := h1
  obtain ⟨u0, u1, u2, u3⟩ := h2
  refine z_iload_n C 0 dX8_meet_0 rfl 1 rfl ?_
  refine z_iload_n C 1 dX8_meet_1 rfl 3 rfl ?_
  refine z_icmp_ge C 2 9 dX8_meet_2 (by decide) (by first | assumption | omega) (by first | assumption | omega) (fun c2_10 => ?_) (fun c2_10 => ?_)
  · refine z_iload_n C 9 dX8_meet_9 rfl 3 rfl ?_
    refine z_istore (lv' := [(4, .int (zI d)), (0, .int (zI v)), (1, .int (zI b)), (2, .int (zI w)), (3, .int (zI d))]) C 10 dX8_meet_10 (by decide) rfl ?_
    refine z_iload_n C 12 dX8_meet_12 rfl 1 rfl ?_
    refine z_iload C 13 dX8_meet_13 0 rfl ?_
    refine z_callSi C 15 (As := [.int (zI v), .int (zI d)]) (rest := []) (c_X8_first l G M v d ⟨v0, v1, by omega, by omega⟩) (zS_of 2 C wm_8_111 wc_X8_first wini_8 wst_X8_first ⟨by decide, by decide, by decide⟩ ⟨by decide, by decide⟩) rfl (Nat.le_of_ble_eq_true rfl) ⟨by decide, by decide⟩ dX8_meet_15 rfl (fun zq1 Mz2 hzq1 hPz1 => ?_)
    obtain ⟨rfl, hPz1⟩ := hPz1
    refine z_iload_n C 18 dX8_meet_18 rfl 3 rfl ?_
    refine z_iload C 19 dX8_meet_19 0 rfl ?_
    refine z_callSi C 21 (As := [.int (zI w), .int (zI d)]) (rest := [.int (zI zq1)]) (c_X8_first l G M w d ⟨u0, u1, by omega, by omega⟩) (zS_of 2 C wm_8_111 wc_X8_first wini_8 wst_X8_first ⟨by decide, by decide, by decide⟩ ⟨by decide, by decide⟩) rfl (Nat.le_of_ble_eq_true rfl) ⟨by decide, by decide⟩ dX8_meet_21 rfl (fun zq3 Mz4 hzq3 hPz3 => ?_)
    obtain ⟨rfl, hPz3⟩ := hPz3
    have hm9 : min b d = d := by omega
    refine z_icmp_ne C 24 31 dX8_meet_24 (by decide) hzq1 hzq3 (fun c24_23 => ?_) (fun c24_23 => ?_)
    · refine z_iconst C 31 dX8_meet_31 ?_
      refine z_zret C 32 dX8_meet_32 (by decide) (by decide) (by decide) ?_
      unfold zmeet
      rw [hm9, ← hPz1, ← hPz3]
      exact ⟨rfl, zb.zero (by omega)⟩
    refine z_iconst C 27 dX8_meet_27 ?_
    refine z_goto C 28 32 dX8_meet_28 (by decide) ?_
    refine z_zret C 32 dX8_meet_32 (by decide) (by decide) (by decide) ?_
    unfold zmeet
    rw [hm9, ← hPz1, ← hPz3]
    exact ⟨rfl, zb.one (by omega)⟩
  refine z_iload_n C 5 dX8_meet_5 rfl 1 rfl ?_
  refine z_goto C 6 10 dX8_meet_6 (by decide) ?_
  refine z_istore (lv' := [(4, .int (zI b)), (0, .int (zI v)), (1, .int (zI b)), (2, .int (zI w)), (3, .int (zI d))]) C 10 dX8_meet_10 (by decide) rfl ?_
  refine z_iload_n C 12 dX8_meet_12 rfl 1 rfl ?_
  refine z_iload C 13 dX8_meet_13 0 rfl ?_
  refine z_callSi C 15 (As := [.int (zI v), .int (zI b)]) (rest := []) (c_X8_first l G M v b ⟨v0, v1, by omega, by omega⟩) (zS_of 2 C wm_8_111 wc_X8_first wini_8 wst_X8_first ⟨by decide, by decide, by decide⟩ ⟨by decide, by decide⟩) rfl (Nat.le_of_ble_eq_true rfl) ⟨by decide, by decide⟩ dX8_meet_15 rfl (fun zq5 Mz6 hzq5 hPz5 => ?_)
  obtain ⟨rfl, hPz5⟩ := hPz5
  refine z_iload_n C 18 dX8_meet_18 rfl 3 rfl ?_
  refine z_iload C 19 dX8_meet_19 0 rfl ?_
  refine z_callSi C 21 (As := [.int (zI w), .int (zI b)]) (rest := [.int (zI zq5)]) (c_X8_first l G M w b ⟨u0, u1, by omega, by omega⟩) (zS_of 2 C wm_8_111 wc_X8_first wini_8 wst_X8_first ⟨by decide, by decide, by decide⟩ ⟨by decide, by decide⟩) rfl (Nat.le_of_ble_eq_true rfl) ⟨by decide, by decide⟩ dX8_meet_21 rfl (fun zq7 Mz8 hzq7 hPz7 => ?_)
  obtain ⟨rfl, hPz7⟩ := hPz7
  have hm9 : min b d = b := by omega
  refine z_icmp_ne C 24 31 dX8_meet_24 (by decide) hzq5 hzq7 (fun c24_46 => ?_) (fun c24_46 => ?_)
  · refine z_iconst C 31 dX8_meet_31 ?_
    refine z_zret C 32 dX8_meet_32 (by decide) (by decide) (by decide) ?_
    unfold zmeet
    rw [hm9, ← hPz5, ← hPz7]
    exact ⟨rfl, zb.zero (by omega)⟩
  refine z_iconst C 27 dX8_meet_27 ?_
  refine z_goto C 28 32 dX8_meet_28 (by decide) ?_
  refine z_zret C 32 dX8_meet_32 (by decide) (by decide) (by decide) ?_
  unfold zmeet
  rw [hm9, ← hPz5, ← hPz7]
  exact ⟨rfl, zb.one (by omega)⟩
set_option maxHeartbeats 4000000 in
set_option maxRecDepth 100000 in
theorem c_X8_covers (l : Launch) (G : zG) (M : zMem) (v b id : Int) (h1 : zpfx v b) (h2 : 0 ≤ id ∧ id < 65536) : Met l yX8_covers [.code yX8_covers cX8_covers 3 (some .boolean)] (zR 1 0 0) (zPc G M [.int (zI v), .int (zI b), .int (zI id)]) (zQi G (fun x M' => M = M' ∧ zb x (zmeet v b id 16))) 0 0 (zA G) := by
  refine z_met [(0, .int (zI v)), (1, .int (zI b)), (2, .int (zI id))] (by decide) (Nat.le_of_ble_eq_true rfl) rfl ?_
  intro p e s m below meth c C
  have C : zC p s m ([.int (zI v), .int (zI b), .int (zI id)] : List Value).toArray meth c G RX8 cX8_covers 3 (some .boolean) := C
  obtain ⟨v0, v1, v2, v3⟩ := h1
  refine z_iload_n C 0 dX8_covers_0 rfl 0 rfl ?_
  refine z_iload_n C 1 dX8_covers_1 rfl 1 rfl ?_
  refine z_callSi C 2 (As := [.int (zI v), .int (zI b)]) (rest := []) (c_X8_first l G M v b ⟨v0, v1, v2, v3⟩) (zS_of 2 C wm_8_111 wc_X8_first wini_8 wst_X8_first ⟨by decide, by decide, by decide⟩ ⟨by decide, by decide⟩) rfl (Nat.le_of_ble_eq_true rfl) ⟨by decide, by decide⟩ dX8_covers_2 rfl (fun zq1 Mz2 hzq1 hPz1 => ?_)
  obtain ⟨rfl, hPz1⟩ := hPz1
  refine z_iload_n C 5 dX8_covers_5 rfl 2 rfl ?_
  refine z_iload_n C 6 dX8_covers_6 rfl 1 rfl ?_
  refine z_callSi C 7 (As := [.int (zI id), .int (zI b)]) (rest := [.int (zI zq1)]) (c_X8_first l G M id b ⟨h2.1, h2.2, v2, v3⟩) (zS_of 2 C wm_8_111 wc_X8_first wini_8 wst_X8_first ⟨by decide, by decide, by decide⟩ ⟨by decide, by decide⟩) rfl (Nat.le_of_ble_eq_true rfl) ⟨by decide, by decide⟩ dX8_covers_7 rfl (fun zq3 Mz4 hzq3 hPz3 => ?_)
  obtain ⟨rfl, hPz3⟩ := hPz3
  have hm9 : min b 16 = b := by omega
  refine z_icmp_ne C 10 17 dX8_covers_10 (by decide) hzq1 hzq3 (fun c10_16 => ?_) (fun c10_16 => ?_)
  · refine z_iconst C 17 dX8_covers_17 ?_
    refine z_zret C 18 dX8_covers_18 (by decide) (by decide) (by decide) ?_
    unfold zmeet
    rw [hm9, ← hPz1, ← hPz3]
    exact ⟨rfl, zb.zero (by omega)⟩
  refine z_iconst C 13 dX8_covers_13 ?_
  refine z_goto C 14 18 dX8_covers_14 (by decide) ?_
  refine z_zret C 18 dX8_covers_18 (by decide) (by decide) (by decide) ?_
  unfold zmeet
  rw [hm9, ← hPz1, ← hPz3]
  exact ⟨rfl, zb.one (by omega)⟩
set_option maxHeartbeats 4000000 in
set_option maxRecDepth 100000 in
theorem c_X8_isMapping (l : Launch) (G : zG) (M : zMem) (a : Int) (h1 : zrg a) (hn : 0 ≤ zV M 26 0 4 ∧ zV M 26 0 4 ≤ 24) : Met l yX8_isMapping [.code yX8_isMapping cX8_isMapping 2 (some .boolean)] (zR 1 0 0) (zPc G M [.ref (zad G 26 0), .int (zI a)]) (zQi G (fun x M' => M = M' ∧ zb x (0 ≤ a ∧ a < znn M))) 0 0 (zA G) := by
  refine z_met [(0, .ref (zad G 26 0)), (1, .int (zI a))] (by decide) (Nat.le_of_ble_eq_true rfl) rfl ?_
  intro p e s m below meth c C
  have C : zC p s m ([.ref (zad G 26 0), .int (zI a)] : List Value).toArray meth c G RX8 cX8_isMapping 2 (some .boolean) := C
  refine z_iload_n C 0 dX8_isMapping_0 rfl 1 rfl ?_
  refine z_iconst C 1 dX8_isMapping_1 ?_
  refine z_aload_n C 2 dX8_isMapping_2 rfl 0 rfl ?_
  refine z_getI C 3 zcl8 (show 0 < 1 by omega) (zc26 ..) 4 (by decide) rfl wf_8_115 dX8_isMapping_3 (fun zq1 ezq1 hzq1 => ?_)
  refine z_iconst C 6 dX8_isMapping_6 ?_
  refine z_isub C 7 dX8_isMapping_7 ?_
  refine z_callSi C 8 (As := [.int (zI a), .int (zI 0), .int (zI (zq1 - 1))]) (rest := []) (c_X8_in l G M a 0 (zq1 - 1) (by first | assumption | decide | omega) (by first | assumption | decide | omega) (by first | assumption | decide | omega)) (zS_of 3 C wm_8_103 wc_X8_in wini_8 wst_X8_in ⟨by decide, by decide, by decide⟩ ⟨by decide, by decide⟩) rfl (Nat.le_of_ble_eq_true rfl) ⟨by decide, by decide⟩ dX8_isMapping_8 rfl (fun zq2 Mz3 hzq2 hPz2 => ?_)
  obtain ⟨rfl, hPz2⟩ := hPz2
  refine z_zret C 11 dX8_isMapping_11 (by decide) (by decide) (hPz2.1) ?_
  have hn9 : znn M = zV M 26 0 4 := rfl
  exact ⟨rfl, hPz2.1, hPz2.2.trans ⟨fun z => by omega, fun z => by omega⟩⟩
set_option maxHeartbeats 4000000 in
set_option maxRecDepth 100000 in
theorem c_X8_solicits (l : Launch) (G : zG) (M : zMem) (hw : zWM M) (a : Int) (ha : 0 ≤ a ∧ a < 24) : Met l yX8_solicits [.code yX8_solicits cX8_solicits 4 none] (zR 2 0 0) (zPc G M [.ref (zad G 26 0), .int (zI a)]) (zQv G (fun M' => zmsk M M' a.toNat 24)) 0 0 (zA G) := by
  refine z_met [(0, .ref (zad G 26 0)), (1, .int (zI a))] (by decide) (Nat.le_of_ble_eq_true rfl) rfl ?_
  intro p e s m below meth c C
  have C : zC p s m ([.ref (zad G 26 0), .int (zI a)] : List Value).toArray meth c G RX8 cX8_solicits 4 none := C
  have hw9z := hw
  obtain ⟨w1, w2, w3, w4, w5, w6, w7, w8, w9, w10, w11, w12, w13, w14⟩ := hw9z
  refine z_iconst C 0 dX8_solicits_0 ?_
  refine z_istore_n (lv' := [(2, .int (zI 0)), (0, .ref (zad G 26 0)), (1, .int (zI a))]) C 1 dX8_solicits_1 rfl (by decide) rfl ?_
  have L2_1 : ∀ (kz1 : Nat) (M1 : zMem) (r : Int), (0 ≤ r ∧ r ≤ 3) → (zmsk M M1 a.toNat (8 * r)) → (3 - r) < (kz1 : Int) → zZ p l e (zR 2 0 0) s m ([.ref (zad G 26 0), .int (zI a)] : List Value).toArray below meth c G 4 (MQ below (zQv G (fun M' => zmsk M M' a.toNat 24)) ([.ref (zad G 26 0), .int (zI a)] : List Value).toArray s 0 0 (zA G)) M1 0 0 2 [(0, .ref (zad G 26 0)), (1, .int (zI a)), (2, .int (zI r))] [] := by
    intro kz1
    induction kz1 with
    | zero =>
      intro M1 r g0 g1 hk
      exact absurd hk (by omega)
    | succ kz1 ihz2 =>
      intro M1 r g0 g1 hk
      refine z_iload_n C 2 dX8_solicits_2 rfl 2 rfl ?_
      refine z_iconst C 3 dX8_solicits_3 ?_
      refine z_icmp_ge C 4 100 dX8_solicits_4 (by decide) (by first | assumption | omega) (by decide) (fun c4_20 => ?_) (fun c4_20 => ?_)
      · refine z_vret C 100 dX8_solicits_100 (by decide) (by decide) ?_
        rw [show (24 : Int) = 8 * r by omega]
        exact g1
      refine z_bipush C 7 dX8_solicits_7 (by decide +kernel) ?_
      refine z_iload_n C 9 dX8_solicits_9 rfl 2 rfl ?_
      refine z_imul C 10 dX8_solicits_10 ?_
      refine z_istore_n (lv' := [(3, .int (zI (8 * r))), (0, .ref (zad G 26 0)), (1, .int (zI a)), (2, .int (zI r))]) C 11 dX8_solicits_11 rfl (by decide) rfl ?_
      have L12_3 : ∀ (kz3 : Nat) (M2 : zMem) (k : Int), (8 * r ≤ k ∧ k ≤ 8 * r + 8) → (zmsk M M2 a.toNat k) → (8 * r + 8 - k) < (kz3 : Int) → zZ p l e (zR 2 0 0) s m ([.ref (zad G 26 0), .int (zI a)] : List Value).toArray below meth c G 4 (MQ below (zQv G (fun M' => zmsk M M' a.toNat 24)) ([.ref (zad G 26 0), .int (zI a)] : List Value).toArray s 0 0 (zA G)) M2 0 0 12 [(0, .ref (zad G 26 0)), (1, .int (zI a)), (2, .int (zI r)), (3, .int (zI k))] [] := by
        intro kz3
        induction kz3 with
        | zero =>
          intro M2 k f0 f1 hk
          exact absurd hk (by omega)
        | succ kz3 ihz4 =>
          intro M2 k f0 f1 hk
          have fe : ∀ κ i1 j1 : Nat, κ ≠ 57 → ¬ (κ = 26 ∧ j1 = 34) → zV M2 κ i1 j1 = zV M κ i1 j1 := fun κ i1 j1 h h2 => zV_of (f1.2.2.2 κ i1 j1 h h2)
          refine z_iload_n C 12 dX8_solicits_12 rfl 3 rfl ?_
          refine z_bipush C 13 dX8_solicits_13 (by decide +kernel) ?_
          refine z_iload_n C 15 dX8_solicits_15 rfl 2 rfl ?_
          refine z_imul C 16 dX8_solicits_16 ?_
          refine z_bipush C 17 dX8_solicits_17 (by decide +kernel) ?_
          refine z_iadd C 19 dX8_solicits_19 ?_
          refine z_icmp_ge C 20 94 dX8_solicits_20 (by decide) (by first | assumption | omega) (by first | assumption | omega) (fun c20_43 => ?_) (fun c20_43 => ?_)
          · refine z_iinc (lv' := [(2, .int (zI (r + 1))), (0, .ref (zad G 26 0)), (1, .int (zI a)), (3, .int (zI k))]) C 94 dX8_solicits_94 2 rfl (by decide) rfl ?_
            refine z_goto C 97 2 dX8_solicits_97 (by decide) ?_
            refine z_sub (lv' := [(0, .ref (zad G 26 0)), (1, .int (zI a)), (2, .int (zI (r + 1)))]) [1, 2, 0] rfl ?_
            exact ihz2 M2 (r + 1) (by omega) (by rw [show 8 * (r + 1) = k by omega]; exact f1) (by omega)
          refine z_aload_n C 23 dX8_solicits_23 rfl 0 rfl ?_
          refine z_get C 24 zcl8 (show 0 < 1 by omega) (zc26 ..) 19 (by decide) rfl wf_8_57 dX8_solicits_24 ?_
          refine z_iload_n C 27 dX8_solicits_27 rfl 3 rfl ?_
          refine z_zald C 28 (show 0 < 1 by omega) (zc49 ..) (by first | assumption | omega) (by omega) (show k < ((24 : Nat) : Int) by omega) dX8_solicits_28 (fun zq5 ezq5 hzq5 => ?_)
          rw [fe 49 _ _ (by decide) (by omega)] at ezq5
          refine z_if_eq C 29 88 dX8_solicits_29 (by decide) hzq5 (fun c29_53 => ?_) (fun c29_53 => ?_)
          · have hF : ¬ zms M a.toNat k.toNat := fun z => z.1 (by omega)
            refine z_iinc (lv' := [(3, .int (zI (k + 1))), (0, .ref (zad G 26 0)), (1, .int (zI a)), (2, .int (zI r))]) C 88 dX8_solicits_88 3 rfl (by decide) rfl ?_
            refine z_goto C 91 12 dX8_solicits_91 (by decide) ?_
            refine z_sub (lv' := [(0, .ref (zad G 26 0)), (1, .int (zI a)), (2, .int (zI r)), (3, .int (zI (k + 1)))]) [1, 2, 3, 0] rfl ?_
            exact ihz4 M2 (k + 1) (by omega) (by exact zmsk_f (by omega) f1 hF) (by omega)
          refine z_aload_n C 32 dX8_solicits_32 rfl 0 rfl ?_
          refine z_get C 33 zcl8 (show 0 < 1 by omega) (zc26 ..) 27 (by decide) rfl wf_8_78 dX8_solicits_33 ?_
          refine z_iload_n C 36 dX8_solicits_36 rfl 3 rfl ?_
          refine z_zald C 37 (show 0 < 1 by omega) (zc57 ..) (by first | assumption | omega) (by omega) (show k < ((24 : Nat) : Int) by omega) dX8_solicits_37 (fun zq6 ezq6 hzq6 => ?_)
          have h57 : zq6 = zV M 57 0 k.toNat := by rw [ezq6]; exact f1.2.2.1 _ (fun z => by omega)
          refine z_if_ne C 38 88 dX8_solicits_38 (by decide) hzq6 (fun c38_64 => ?_) (fun c38_64 => ?_)
          · have hF : ¬ zms M a.toNat k.toNat := fun z => by have := z.2.1; omega
            refine z_iinc (lv' := [(3, .int (zI (k + 1))), (0, .ref (zad G 26 0)), (1, .int (zI a)), (2, .int (zI r))]) C 88 dX8_solicits_88 3 rfl (by decide) rfl ?_
            refine z_goto C 91 12 dX8_solicits_91 (by decide) ?_
            refine z_sub (lv' := [(0, .ref (zad G 26 0)), (1, .int (zI a)), (2, .int (zI r)), (3, .int (zI (k + 1)))]) [1, 2, 3, 0] rfl ?_
            exact ihz4 M2 (k + 1) (by omega) (by exact zmsk_f (by omega) f1 hF) (by omega)
          refine z_aload_n C 41 dX8_solicits_41 rfl 0 rfl ?_
          refine z_get C 42 zcl8 (show 0 < 1 by omega) (zc26 ..) 22 (by decide) rfl wf_8_63 dX8_solicits_42 ?_
          refine z_iload_n C 45 dX8_solicits_45 rfl 3 rfl ?_
          refine z_iald C 46 (show 0 < 1 by omega) (zc52 ..) (by first | assumption | omega) (by omega) (show k < ((24 : Nat) : Int) by omega) dX8_solicits_46 (fun zq7 ezq7 hzq7 => ?_)
          refine z_aload_n C 47 dX8_solicits_47 rfl 0 rfl ?_
          refine z_get C 48 zcl8 (show 0 < 1 by omega) (zc26 ..) 23 (by decide) rfl wf_8_66 dX8_solicits_48 ?_
          refine z_iload_n C 51 dX8_solicits_51 rfl 3 rfl ?_
          refine z_iald C 52 (show 0 < 1 by omega) (zc53 ..) (by first | assumption | omega) (by omega) (show k < ((24 : Nat) : Int) by omega) dX8_solicits_52 (fun zq8 ezq8 hzq8 => ?_)
          refine z_aload_n C 53 dX8_solicits_53 rfl 0 rfl ?_
          refine z_get C 54 zcl8 (show 0 < 1 by omega) (zc26 ..) 5 (by decide) rfl wf_8_16 dX8_solicits_54 ?_
          refine z_iload_n C 57 dX8_solicits_57 rfl 1 rfl ?_
          refine z_iald C 58 (show 0 < 1 by omega) (zc35 ..) (by first | assumption | omega) (by omega) (show a < ((24 : Nat) : Int) by omega) dX8_solicits_58 (fun zq9 ezq9 hzq9 => ?_)
          refine z_aload_n C 59 dX8_solicits_59 rfl 0 rfl ?_
          refine z_get C 60 zcl8 (show 0 < 1 by omega) (zc26 ..) 6 (by decide) rfl wf_8_20 dX8_solicits_60 ?_
          refine z_iload_n C 63 dX8_solicits_63 rfl 1 rfl ?_
          refine z_iald C 64 (show 0 < 1 by omega) (zc36 ..) (by first | assumption | omega) (by omega) (show a < ((24 : Nat) : Int) by omega) dX8_solicits_64 (fun zq10 ezq10 hzq10 => ?_)
          refine z_callSi C 65 (As := [.int (zI zq7), .int (zI zq8), .int (zI zq9), .int (zI zq10)]) (rest := []) (c_X8_meet l G M2 zq7 zq8 zq9 zq10 (by rw [ezq7, ezq8, fe 52 _ _ (by decide) (by omega), fe 53 _ _ (by decide) (by omega)]; exact w7 _ (by omega)) (by rw [ezq9, ezq10, fe 35 _ _ (by decide) (by omega), fe 36 _ _ (by decide) (by omega)]; exact w2 _ (by omega))) (zS_of 4 C wm_8_118 wc_X8_meet wini_8 wst_X8_meet ⟨by decide, by decide, by decide⟩ ⟨by decide, by decide⟩) rfl (Nat.le_of_ble_eq_true rfl) ⟨by decide, by decide⟩ dX8_solicits_65 rfl (fun zq11 Mz12 hzq11 hPz11 => ?_)
          obtain ⟨rfl, hPz11⟩ := hPz11
          refine z_if_eq C 68 88 dX8_solicits_68 (by decide) hzq11 (fun c68_88 => ?_) (fun c68_88 => ?_)
          · have hF : ¬ zms M a.toNat k.toNat := fun z => by have z1 := hPz11.f c68_88; rw [ezq7, ezq8, ezq9, ezq10, fe 52 _ _ (by decide) (by omega), fe 53 _ _ (by decide) (by omega), fe 35 _ _ (by decide) (by omega), fe 36 _ _ (by decide) (by omega)] at z1; exact z1 z.2.2
            refine z_iinc (lv' := [(3, .int (zI (k + 1))), (0, .ref (zad G 26 0)), (1, .int (zI a)), (2, .int (zI r))]) C 88 dX8_solicits_88 3 rfl (by decide) rfl ?_
            refine z_goto C 91 12 dX8_solicits_91 (by decide) ?_
            refine z_sub (lv' := [(0, .ref (zad G 26 0)), (1, .int (zI a)), (2, .int (zI r)), (3, .int (zI (k + 1)))]) [1, 2, 3, 0] rfl ?_
            exact ihz4 M2 (k + 1) (by omega) (by exact zmsk_f (by omega) f1 hF) (by omega)
          have hT : zms M a.toNat k.toNat := by have z1 := hPz11.t c68_88; rw [ezq7, ezq8, ezq9, ezq10, fe 52 _ _ (by decide) (by omega), fe 53 _ _ (by decide) (by omega), fe 35 _ _ (by decide) (by omega), fe 36 _ _ (by decide) (by omega)] at z1; exact ⟨by omega, by omega, z1⟩
          refine z_aload_n C 71 dX8_solicits_71 rfl 0 rfl ?_
          refine z_get C 72 zcl8 (show 0 < 1 by omega) (zc26 ..) 27 (by decide) rfl wf_8_78 dX8_solicits_72 ?_
          refine z_iload_n C 75 dX8_solicits_75 rfl 3 rfl ?_
          refine z_iconst C 76 dX8_solicits_76 ?_
          refine z_zast C 77 (show 0 < 1 by omega) (zc57 ..) (by first | assumption | omega) (by omega) (show k < ((24 : Nat) : Int) by omega) (by first | assumption | omega) (zc57 ..) dX8_solicits_77 ?_
          refine z_aload_n C 78 dX8_solicits_78 rfl 0 rfl ?_
          refine z_dup C 79 dX8_solicits_79 rfl ?_
          refine z_getI C 80 zcl8 (show 0 < 1 by omega) (zc26 ..) 34 (by decide) rfl wf_8_122 dX8_solicits_80 (fun zq13 ezq13 hzq13 => ?_)
          rw [zV_ne (by decide)] at ezq13
          refine z_iconst C 83 dX8_solicits_83 ?_
          refine z_iadd C 84 dX8_solicits_84 ?_
          refine z_putI C 85 zcl8 (show 0 < 1 by omega) (zc26 ..) 34 (by decide) wf_8_122 rfl rfl rfl (Nat.le_of_ble_eq_true rfl) (zc26 ..) dX8_solicits_85 ?_
          refine z_iinc (lv' := [(3, .int (zI (k + 1))), (0, .ref (zad G 26 0)), (1, .int (zI a)), (2, .int (zI r))]) C 88 dX8_solicits_88 3 rfl (by decide) rfl ?_
          refine z_goto C 91 12 dX8_solicits_91 (by decide) ?_
          refine z_sub (lv' := [(0, .ref (zad G 26 0)), (1, .int (zI a)), (2, .int (zI r)), (3, .int (zI (k + 1)))]) [1, 2, 3, 0] rfl ?_
          exact ihz4 (zup (zup M2 57 0 k.toNat (zI 1)) 26 0 34 (zI (zq13 + 1))) (k + 1) (by omega) (by exact zmsk_t (by omega) (by omega) w12 f1 hT ezq13) (by omega)
      refine z_sub (lv' := [(0, .ref (zad G 26 0)), (1, .int (zI a)), (2, .int (zI r)), (3, .int (zI (8 * r)))]) [1, 2, 3, 0] rfl ?_
      exact L12_3 (((8 * r + 8 - (8 * r) : Int)).toNat + 1) M1 (8 * r) (by omega) (by exact g1) (by omega)
  refine z_sub (lv' := [(0, .ref (zad G 26 0)), (1, .int (zI a)), (2, .int (zI 0))]) [1, 2, 0] rfl ?_
  exact L2_1 (((3 - 0 : Int)).toNat + 1) M 0 (by omega) (by exact zmsk_0 M _) (by omega)
set_option maxHeartbeats 4000000 in
set_option maxRecDepth 100000 in
theorem c_X8_placeOf (l : Launch) (G : zG) (M : zMem) (a ad : Int) (ha : 0 ≤ a ∧ a < 24) (hn : 0 ≤ zV M 39 0 a.toNat ∧ zV M 39 0 a.toNat ≤ 4) (had : zrg ad) : Met l yX8_placeOf [.code yX8_placeOf cX8_placeOf 5 (some .int)] (zR 0 0 0) (zPc G M [.ref (zad G 26 0), .int (zI a), .int (zI ad)]) (zQi G (fun x M' => M = M' ∧ znp M a.toNat ad x)) 0 0 (zA G) := by
  refine z_met [(0, .ref (zad G 26 0)), (1, .int (zI a)), (2, .int (zI ad))] (by decide) (Nat.le_of_ble_eq_true rfl) rfl ?_
  intro p e s m below meth c C
  have C : zC p s m ([.ref (zad G 26 0), .int (zI a), .int (zI ad)] : List Value).toArray meth c G RX8 cX8_placeOf 5 (some .int) := C
  refine z_iconst C 0 dX8_placeOf_0 ?_
  refine z_istore_n (lv' := [(3, .int (zI (-1))), (0, .ref (zad G 26 0)), (1, .int (zI a)), (2, .int (zI ad))]) C 1 dX8_placeOf_1 rfl (by decide) rfl ?_
  refine z_iconst C 2 dX8_placeOf_2 ?_
  refine z_iload_n C 3 dX8_placeOf_3 rfl 2 rfl ?_
  refine z_imul C 4 dX8_placeOf_4 ?_
  refine z_istore (lv' := [(4, .int (zI (4 * a))), (3, .int (zI (-1))), (0, .ref (zad G 26 0)), (1, .int (zI a)), (2, .int (zI ad))]) C 5 dX8_placeOf_5 (by decide) rfl ?_
  have L7_1 : ∀ (kz1 : Nat) (f : Int) (k : Int), (4 * a ≤ k ∧ k ≤ 4 * a + zV M 39 0 a.toNat) → (zrg f) → ((f = -1 ∧ ∀ j : Nat, 4 * a + (j : Int) < k → zV M 40 0 (4 * a.toNat + j) ≠ ad) ∨ ∃ j : Nat, f = ((4 * a.toNat + j : Nat) : Int) ∧ (j : Int) < zV M 39 0 a.toNat ∧ zV M 40 0 (4 * a.toNat + j) = ad) → (4 * a + zV M 39 0 a.toNat - k) < (kz1 : Int) → zZ p l e (zR 0 0 0) s m ([.ref (zad G 26 0), .int (zI a), .int (zI ad)] : List Value).toArray below meth c G 5 (MQ below (zQi G (fun x M' => M = M' ∧ znp M a.toNat ad x)) ([.ref (zad G 26 0), .int (zI a), .int (zI ad)] : List Value).toArray s 0 0 (zA G)) M 0 0 7 [(0, .ref (zad G 26 0)), (1, .int (zI a)), (2, .int (zI ad)), (3, .int (zI f)), (4, .int (zI k))] [] := by
    intro kz1
    induction kz1 with
    | zero =>
      intro f k g0 g2 g1 hk
      exact absurd hk (by omega)
    | succ kz1 ihz2 =>
      intro f k g0 g2 g1 hk
      refine z_iload C 7 dX8_placeOf_7 4 rfl ?_
      refine z_iconst C 9 dX8_placeOf_9 ?_
      refine z_iload_n C 10 dX8_placeOf_10 rfl 1 rfl ?_
      refine z_imul C 11 dX8_placeOf_11 ?_
      refine z_aload_n C 12 dX8_placeOf_12 rfl 0 rfl ?_
      refine z_get C 13 zcl8 (show 0 < 1 by omega) (zc26 ..) 9 (by decide) rfl wf_8_30 dX8_placeOf_13 ?_
      refine z_iload_n C 16 dX8_placeOf_16 rfl 1 rfl ?_
      refine z_iald C 17 (show 0 < 1 by omega) (zc39 ..) (by first | assumption | omega) (by omega) (show a < ((24 : Nat) : Int) by omega) dX8_placeOf_17 (fun zq3 ezq3 hzq3 => ?_)
      refine z_iadd C 18 dX8_placeOf_18 ?_
      refine z_icmp_ge C 19 46 dX8_placeOf_19 (by decide) (by first | assumption | omega) (by first | assumption | omega) (fun c19_29 => ?_) (fun c19_29 => ?_)
      · refine z_iload_n C 46 dX8_placeOf_46 rfl 3 rfl ?_
        refine z_iret C 47 dX8_placeOf_47 (by decide) (by decide) (by first | assumption | omega) ?_
        refine ⟨rfl, ?_⟩
        rcases g1 with ⟨z1, z2⟩ | z1
        · exact Or.inl ⟨z1, fun j hj => z2 j (by omega)⟩
        · exact Or.inr z1
      refine z_aload_n C 22 dX8_placeOf_22 rfl 0 rfl ?_
      refine z_get C 23 zcl8 (show 0 < 1 by omega) (zc26 ..) 10 (by decide) rfl wf_8_33 dX8_placeOf_23 ?_
      refine z_iload C 26 dX8_placeOf_26 4 rfl ?_
      refine z_iald C 28 (show 0 < 1 by omega) (zc40 ..) (by first | assumption | omega) (by omega) (show k < ((96 : Nat) : Int) by omega) dX8_placeOf_28 (fun zq4 ezq4 hzq4 => ?_)
      refine z_iload_n C 29 dX8_placeOf_29 rfl 2 rfl ?_
      refine z_icmp_ne C 30 38 dX8_placeOf_30 (by decide) hzq4 (by first | assumption | omega) (fun c30_41 => ?_) (fun c30_41 => ?_)
      · refine z_iload_n C 38 dX8_placeOf_38 rfl 3 rfl ?_
        refine z_istore_n (lv' := [(3, .int (zI f)), (0, .ref (zad G 26 0)), (1, .int (zI a)), (2, .int (zI ad)), (4, .int (zI k))]) C 39 dX8_placeOf_39 rfl (by decide) rfl ?_
        refine z_iinc (lv' := [(4, .int (zI (k + 1))), (3, .int (zI f)), (0, .ref (zad G 26 0)), (1, .int (zI a)), (2, .int (zI ad))]) C 40 dX8_placeOf_40 4 rfl (by decide) rfl ?_
        refine z_goto C 43 7 dX8_placeOf_43 (by decide) ?_
        refine z_sub (lv' := [(0, .ref (zad G 26 0)), (1, .int (zI a)), (2, .int (zI ad)), (3, .int (zI f)), (4, .int (zI (k + 1)))]) [2, 3, 4, 1, 0] rfl ?_
        exact ihz2 f (k + 1) (by omega) (by omega) (by rcases g1 with ⟨z1, z2⟩ | z1; exact Or.inl ⟨z1, fun j hj => (Int.lt_or_le (4 * a + (j : Int)) k).elim (z2 j) (fun q => by rw [show 4 * a.toNat + j = k.toNat by omega]; omega)⟩; exact Or.inr z1) (by omega)
      refine z_iload C 33 dX8_placeOf_33 4 rfl ?_
      refine z_goto C 35 39 dX8_placeOf_35 (by decide) ?_
      refine z_istore_n (lv' := [(3, .int (zI k)), (0, .ref (zad G 26 0)), (1, .int (zI a)), (2, .int (zI ad)), (4, .int (zI k))]) C 39 dX8_placeOf_39 rfl (by decide) rfl ?_
      refine z_iinc (lv' := [(4, .int (zI (k + 1))), (3, .int (zI k)), (0, .ref (zad G 26 0)), (1, .int (zI a)), (2, .int (zI ad))]) C 40 dX8_placeOf_40 4 rfl (by decide) rfl ?_
      refine z_goto C 43 7 dX8_placeOf_43 (by decide) ?_
      refine z_sub (lv' := [(0, .ref (zad G 26 0)), (1, .int (zI a)), (2, .int (zI ad)), (3, .int (zI k)), (4, .int (zI (k + 1)))]) [2, 3, 4, 1, 0] rfl ?_
      exact ihz2 k (k + 1) (by omega) (by omega) (by exact Or.inr ⟨(k - 4 * a).toNat, by omega, by omega, by rw [show 4 * a.toNat + (k - 4 * a).toNat = k.toNat by omega]; omega⟩) (by omega)
  refine z_sub (lv' := [(0, .ref (zad G 26 0)), (1, .int (zI a)), (2, .int (zI ad)), (3, .int (zI (-1))), (4, .int (zI (4 * a)))]) [2, 3, 4, 1, 0] rfl ?_
  exact L7_1 (((4 * a + zV M 39 0 a.toNat - (4 * a) : Int)).toNat + 1) (-1) (4 * a) (by omega) (by omega) (by exact Or.inl ⟨rfl, fun j hj => absurd hj (by omega)⟩) (by omega)
set_option maxHeartbeats 4000000 in
set_option maxRecDepth 100000 in
theorem c_X8_changes (l : Launch) (G : zG) (M : zMem) (hw : zWM M) (a : Int) (ha : 0 ≤ a ∧ a < 24) : Met l yX8_changes [.code yX8_changes cX8_changes 2 (some .int)] (zR 3 0 0) (zPc G M [.ref (zad G 26 0), .int (zI a)]) (zQi G (fun x M' => x = zw (zV M 38 0 a.toNat + 1) ∧ zmsk (znver M a.toNat) M' a.toNat 24)) 0 0 (zA G) := by
  refine z_met [(0, .ref (zad G 26 0)), (1, .int (zI a))] (by decide) (Nat.le_of_ble_eq_true rfl) rfl ?_
  intro p e s m below meth c C
  have C : zC p s m ([.ref (zad G 26 0), .int (zI a)] : List Value).toArray meth c G RX8 cX8_changes 2 (some .int) := C
  have hw9z := hw
  obtain ⟨w1, w2, w3, w4, w5, w6, w7, w8, w9, w10, w11, w12, w13, w14⟩ := hw9z
  refine z_aload_n C 0 dX8_changes_0 rfl 0 rfl ?_
  refine z_get C 1 zcl8 (show 0 < 1 by omega) (zc26 ..) 8 (by decide) rfl wf_8_27 dX8_changes_1 ?_
  refine z_iload_n C 4 dX8_changes_4 rfl 1 rfl ?_
  refine z_dup2 C 5 dX8_changes_5 rfl rfl ?_
  refine z_iald C 6 (show 0 < 1 by omega) (zc38 ..) (by first | assumption | omega) (by omega) (show a < ((24 : Nat) : Int) by omega) dX8_changes_6 (fun zq1 ezq1 hzq1 => ?_)
  refine z_iconst C 7 dX8_changes_7 ?_
  refine z_iadd C 8 dX8_changes_8 ?_
  refine z_iast C 9 (show 0 < 1 by omega) (zc38 ..) (by first | assumption | omega) (by omega) (show a < ((24 : Nat) : Int) by omega) (zc38 ..) dX8_changes_9 ?_
  refine z_aload_n C 10 dX8_changes_10 rfl 0 rfl ?_
  refine z_iload_n C 11 dX8_changes_11 rfl 1 rfl ?_
  refine z_callVv C 12 (As := [.int (zI a)]) (rest := []) (c_X8_solicits l G (zup M 38 0 a.toNat (zI (zq1 + 1))) (zWM_ver hw) a ha) zcl8 (show 0 < 1 by omega) (zc26 ..) (zW_of 1 C wm_8_129 wc_X8_solicits wini_8 wi_X8_solicits wse_X8_solicits ⟨by decide, by decide, by decide⟩ ⟨by decide, by decide⟩) rfl (Nat.le_of_ble_eq_true rfl) ⟨by decide, by decide⟩ dX8_changes_12 rfl (fun Mz3 hPz2 => ?_)
  refine z_aload_n C 15 dX8_changes_15 rfl 0 rfl ?_
  refine z_get C 16 zcl8 (show 0 < 1 by omega) (zc26 ..) 8 (by decide) rfl wf_8_27 dX8_changes_16 ?_
  refine z_iload_n C 19 dX8_changes_19 rfl 1 rfl ?_
  refine z_iald C 20 (show 0 < 1 by omega) (zc38 ..) (by first | assumption | omega) (by omega) (show a < ((24 : Nat) : Int) by omega) dX8_changes_20 (fun zq4 ezq4 hzq4 => ?_)
  refine z_iret C 21 dX8_changes_21 (by decide) (by decide) hzq4 ?_
  obtain rfl := ezq1
  refine ⟨?_, hPz2⟩
  rw [ezq4, zV_of (hPz2.2.2.2 38 0 _ (by decide) (by omega)), zV_upw]
set_option maxHeartbeats 4000000 in
set_option maxRecDepth 100000 in
theorem c_X8_register (l : Launch) (G : zG) (M : zMem) (hw : zWM M) (v b : Int) (hv : zrg v) (hb : zrg b) : Met l yX8_register [.code yX8_register cX8_register 5 (some .int)] (zR 3 0 0) (zPc G M [.ref (zad G 26 0), .int (zI v), .int (zI b)]) (zQi G (fun x M' => (¬ zvp v b ∧ zthr M M' 1) ∨ (zvp v b ∧ ¬ (znn M < 24 ∧ ¬ znhas M v b) ∧ zthr M M' 2) ∨ (zvp v b ∧ (znn M < 24 ∧ ¬ znhas M v b) ∧ x = znn M ∧ ∃ M1, zthr M M1 0 ∧ zmsk (znreg M1 v b) M' (znn M).toNat 24))) 0 0 (zA G) := by
  refine z_met [(0, .ref (zad G 26 0)), (1, .int (zI v)), (2, .int (zI b))] (by decide) (Nat.le_of_ble_eq_true rfl) rfl ?_
  intro p e s m below meth c C
  have C : zC p s m ([.ref (zad G 26 0), .int (zI v), .int (zI b)] : List Value).toArray meth c G RX8 cX8_register 5 (some .int) := C
  have hw9z := hw
  obtain ⟨w1, w2, w3, w4, w5, w6, w7, w8, w9, w10, w11, w12, w13, w14⟩ := hw9z
  refine z_aload_n C 0 dX8_register_0 rfl 0 rfl ?_
  refine z_iload_n C 1 dX8_register_1 rfl 1 rfl ?_
  refine z_iload_n C 2 dX8_register_2 rfl 2 rfl ?_
  refine z_callSi C 3 (As := [.int (zI v), .int (zI b)]) (rest := [.ref (zad G 26 0)]) (c_X8_isPrefix l G M v b hv hb) (zS_of 2 C wm_8_125 wc_X8_isPrefix wini_8 wst_X8_isPrefix ⟨by decide, by decide, by decide⟩ ⟨by decide, by decide⟩) rfl (Nat.le_of_ble_eq_true rfl) ⟨by decide, by decide⟩ dX8_register_3 rfl (fun zq1 Mz2 hzq1 hPz1 => ?_)
  obtain ⟨rfl, hPz1⟩ := hPz1
  refine z_if_eq C 6 13 dX8_register_6 (by decide) hzq1 (fun c6_13 => ?_) (fun c6_13 => ?_)
  · refine z_iconst C 13 dX8_register_13 ?_
    refine z_putI C 14 zcl8 (show 0 < 1 by omega) (zc26 ..) 0 (by decide) wf_8_99 rfl rfl rfl (Nat.le_of_ble_eq_true rfl) (zc26 ..) dX8_register_14 ?_
    refine z_aload_n C 17 dX8_register_17 rfl 0 rfl ?_
    refine z_getI C 18 zcl8 (show 0 < 1 by omega) (zc26 ..) 0 (by decide) rfl wf_8_99 dX8_register_18 (fun zq3 ezq3 hzq3 => ?_)
    rw [zV_eq (by first | assumption | decide | omega)] at ezq3
    subst ezq3
    refine z_if_le C 21 26 dX8_register_21 (by decide) (by decide) (fun c21_21 => ?_) (fun c21_21 => ?_)
    · exact absurd c21_21 (by decide)
    refine z_iconst C 24 dX8_register_24 ?_
    refine z_iret C 25 dX8_register_25 (by decide) (by decide) (by decide) ?_
    exact Or.inl ⟨hPz1.f (by assumption), zthr_1 _ (by decide)⟩
  refine z_iconst C 9 dX8_register_9 ?_
  refine z_goto C 10 14 dX8_register_10 (by decide) ?_
  refine z_putI C 14 zcl8 (show 0 < 1 by omega) (zc26 ..) 0 (by decide) wf_8_99 rfl rfl rfl (Nat.le_of_ble_eq_true rfl) (zc26 ..) dX8_register_14 ?_
  refine z_aload_n C 17 dX8_register_17 rfl 0 rfl ?_
  refine z_getI C 18 zcl8 (show 0 < 1 by omega) (zc26 ..) 0 (by decide) rfl wf_8_99 dX8_register_18 (fun zq4 ezq4 hzq4 => ?_)
  rw [zV_eq (by first | assumption | decide | omega)] at ezq4
  subst ezq4
  refine z_if_le C 21 26 dX8_register_21 (by decide) (by decide) (fun c21_32 => ?_) (fun c21_32 => ?_)
  rotate_left
  · exact absurd c21_32 (by decide)
  refine z_aload_n C 26 dX8_register_26 rfl 0 rfl ?_
  refine z_getI C 27 zcl8 (show 0 < 1 by omega) (zc26 ..) 4 (by decide) rfl wf_8_115 dX8_register_27 (fun zq5 ezq5 hzq5 => ?_)
  rw [zV_nj (by decide)] at ezq5
  refine z_bipush C 30 dX8_register_30 (by decide +kernel) ?_
  refine z_icmp_ge C 32 39 dX8_register_32 (by decide) hzq5 (by decide) (fun c32_39 => ?_) (fun c32_39 => ?_)
  · refine z_iconst C 39 dX8_register_39 ?_
    refine z_istore_n (lv' := [(3, .int (zI 0)), (0, .ref (zad G 26 0)), (1, .int (zI v)), (2, .int (zI b))]) C 40 dX8_register_40 rfl (by decide) rfl ?_
    refine z_iconst C 41 dX8_register_41 ?_
    refine z_istore (lv' := [(4, .int (zI 0)), (3, .int (zI 0)), (0, .ref (zad G 26 0)), (1, .int (zI v)), (2, .int (zI b))]) C 42 dX8_register_42 (by decide) rfl ?_
    have L44_6 : ∀ (kz6 : Nat) (may : Int) (k : Int), (0 ≤ k ∧ k ≤ zV M 26 0 4) → (may = 0 ∨ may = 1) → (may = 1 ↔ (zV M 26 0 4 < 24 ∧ ∀ i : Nat, (i : Int) < k → ¬ (zng M i = 0 ∧ znv M i = v ∧ znl M i = b))) → (zV M 26 0 4 - k) < (kz6 : Int) → zZ p l e (zR 3 0 0) s m ([.ref (zad G 26 0), .int (zI v), .int (zI b)] : List Value).toArray below meth c G 5 (MQ below (zQi G (fun x M' => (¬ zvp v b ∧ zthr M M' 1) ∨ (zvp v b ∧ ¬ (znn M < 24 ∧ ¬ znhas M v b) ∧ zthr M M' 2) ∨ (zvp v b ∧ (znn M < 24 ∧ ¬ znhas M v b) ∧ x = znn M ∧ ∃ M1, zthr M M1 0 ∧ zmsk (znreg M1 v b) M' (znn M).toNat 24))) ([.ref (zad G 26 0), .int (zI v), .int (zI b)] : List Value).toArray s 0 0 (zA G)) (zup M 26 0 0 (zI 0)) 0 0 44 [(0, .ref (zad G 26 0)), (1, .int (zI v)), (2, .int (zI b)), (3, .int (zI may)), (4, .int (zI k))] [] := by
      intro kz6
      induction kz6 with
      | zero =>
        intro may k g0 g2 g1 hk
        exact absurd hk (by omega)
      | succ kz6 ihz7 =>
        intro may k g0 g2 g1 hk
        refine z_iload C 44 dX8_register_44 4 rfl ?_
        refine z_aload_n C 46 dX8_register_46 rfl 0 rfl ?_
        refine z_getI C 47 zcl8 (show 0 < 1 by omega) (zc26 ..) 4 (by decide) rfl wf_8_115 dX8_register_47 (fun zq8 ezq8 hzq8 => ?_)
        rw [zV_nj (by decide)] at ezq8
        refine z_icmp_ge C 50 101 dX8_register_50 (by decide) (by first | assumption | omega) hzq8 (fun c50_57 => ?_) (fun c50_57 => ?_)
        · refine z_aload_n C 101 dX8_register_101 rfl 0 rfl ?_
          have hq9 : may = 1 ↔ (znn M < 24 ∧ ¬ znhas M v b) := g1.trans ⟨fun z => ⟨z.1, fun w => by obtain ⟨i, y1, y2⟩ := w; exact z.2 i (by have y3 : (i : Int) < zV M 26 0 4 := y1; omega) y2⟩, fun z => ⟨z.1, fun i hi y => z.2 ⟨i, by show (i : Int) < zV M 26 0 4; omega, y⟩⟩⟩
          refine z_iload_n C 102 dX8_register_102 rfl 3 rfl ?_
          refine z_if_eq C 103 110 dX8_register_103 (by decide) (by first | assumption | omega) (fun c103_62 => ?_) (fun c103_62 => ?_)
          · refine z_iconst C 110 dX8_register_110 ?_
            refine z_putI C 111 zcl8 (show 0 < 1 by omega) (zc26 ..) 0 (by decide) wf_8_99 rfl rfl rfl (Nat.le_of_ble_eq_true rfl) (zc26 ..) dX8_register_111 ?_
            refine z_aload_n C 114 dX8_register_114 rfl 0 rfl ?_
            refine z_getI C 115 zcl8 (show 0 < 1 by omega) (zc26 ..) 0 (by decide) rfl wf_8_99 dX8_register_115 (fun zq9 ezq9 hzq9 => ?_)
            rw [zV_eq (by first | assumption | decide | omega)] at ezq9
            subst ezq9
            refine z_if_le C 118 123 dX8_register_118 (by decide) (by decide) (fun c118_70 => ?_) (fun c118_70 => ?_)
            · exact absurd c118_70 (by decide)
            refine z_iconst C 121 dX8_register_121 ?_
            refine z_iret C 122 dX8_register_122 (by decide) (by decide) (by decide) ?_
            exact Or.inr (Or.inl ⟨hPz1.t (by assumption), fun z => by have := hq9.mpr z; omega, zthr_2 _ _ (by decide)⟩)
          refine z_iconst C 106 dX8_register_106 ?_
          refine z_goto C 107 111 dX8_register_107 (by decide) ?_
          refine z_putI C 111 zcl8 (show 0 < 1 by omega) (zc26 ..) 0 (by decide) wf_8_99 rfl rfl rfl (Nat.le_of_ble_eq_true rfl) (zc26 ..) dX8_register_111 ?_
          refine z_aload_n C 114 dX8_register_114 rfl 0 rfl ?_
          refine z_getI C 115 zcl8 (show 0 < 1 by omega) (zc26 ..) 0 (by decide) rfl wf_8_99 dX8_register_115 (fun zq10 ezq10 hzq10 => ?_)
          rw [zV_eq (by first | assumption | decide | omega)] at ezq10
          subst ezq10
          refine z_if_le C 118 123 dX8_register_118 (by decide) (by decide) (fun c118_81 => ?_) (fun c118_81 => ?_)
          rotate_left
          · exact absurd c118_81 (by decide)
          have hlt : zV M 26 0 4 < 24 := (hq9.mp (by omega)).1
          refine z_aload_n C 123 dX8_register_123 rfl 0 rfl ?_
          refine z_getI C 124 zcl8 (show 0 < 1 by omega) (zc26 ..) 4 (by decide) rfl wf_8_115 dX8_register_124 (fun zq11 ezq11 hzq11 => ?_)
          rw [zV_nj (by decide)] at ezq11
          rw [zV_nj (by decide)] at ezq11
          refine z_istore (lv' := [(4, .int (zI zq11)), (0, .ref (zad G 26 0)), (1, .int (zI v)), (2, .int (zI b)), (3, .int (zI may))]) C 127 dX8_register_127 (by decide) rfl ?_
          refine z_aload_n C 129 dX8_register_129 rfl 1 rfl ?_
          refine z_dup C 130 dX8_register_130 rfl ?_
          refine z_getI C 131 zcl8 (show 0 < 1 by omega) (zc26 ..) 4 (by decide) rfl wf_8_115 dX8_register_131 (fun zq12 ezq12 hzq12 => ?_)
          rw [zV_nj (by decide)] at ezq12
          rw [zV_nj (by decide)] at ezq12
          refine z_iconst C 134 dX8_register_134 ?_
          refine z_iadd C 135 dX8_register_135 ?_
          refine z_putI C 136 zcl8 (show 0 < 1 by omega) (zc26 ..) 4 (by decide) wf_8_115 rfl rfl rfl (Nat.le_of_ble_eq_true rfl) (zc26 ..) dX8_register_136 ?_
          refine z_aload_n C 139 dX8_register_139 rfl 1 rfl ?_
          refine z_get C 140 zcl8 (show 0 < 1 by omega) (zc26 ..) 5 (by decide) rfl wf_8_16 dX8_register_140 ?_
          refine z_iload C 143 dX8_register_143 0 rfl ?_
          refine z_iload_n C 145 dX8_register_145 rfl 2 rfl ?_
          refine z_iast C 146 (show 0 < 1 by omega) (zc35 ..) hzq11 (by omega) (show zq11 < ((24 : Nat) : Int) by omega) (zc35 ..) dX8_register_146 ?_
          refine z_aload_n C 147 dX8_register_147 rfl 1 rfl ?_
          refine z_get C 148 zcl8 (show 0 < 1 by omega) (zc26 ..) 6 (by decide) rfl wf_8_20 dX8_register_148 ?_
          refine z_iload C 151 dX8_register_151 0 rfl ?_
          refine z_iload_n C 153 dX8_register_153 rfl 3 rfl ?_
          refine z_iast C 154 (show 0 < 1 by omega) (zc36 ..) hzq11 (by omega) (show zq11 < ((24 : Nat) : Int) by omega) (zc36 ..) dX8_register_154 ?_
          refine z_aload_n C 155 dX8_register_155 rfl 1 rfl ?_
          refine z_get C 156 zcl8 (show 0 < 1 by omega) (zc26 ..) 8 (by decide) rfl wf_8_27 dX8_register_156 ?_
          refine z_iload C 159 dX8_register_159 0 rfl ?_
          refine z_iconst C 161 dX8_register_161 ?_
          refine z_iast C 162 (show 0 < 1 by omega) (zc38 ..) hzq11 (by omega) (show zq11 < ((24 : Nat) : Int) by omega) (zc38 ..) dX8_register_162 ?_
          refine z_aload_n C 163 dX8_register_163 rfl 1 rfl ?_
          refine z_iload C 164 dX8_register_164 0 rfl ?_
          refine z_callVv C 166 (As := [.int (zI zq11)]) (rest := []) (c_X8_solicits l G (zup (zup (zup (zup (zup (zup M 26 0 0 (zI 0)) 26 0 0 (zI 0)) 26 0 4 (zI (zq12 + 1))) 35 0 zq11.toNat (zI v)) 36 0 zq11.toNat (zI b)) 38 0 zq11.toNat (zI 1)) (zWM_reg hw (hPz1.t (by assumption)).1 hlt ezq11 ezq12) zq11 (by omega)) zcl8 (show 0 < 1 by omega) (zc26 ..) (zW_of 1 C wm_8_129 wc_X8_solicits wini_8 wi_X8_solicits wse_X8_solicits ⟨by decide, by decide, by decide⟩ ⟨by decide, by decide⟩) rfl (Nat.le_of_ble_eq_true rfl) ⟨by decide, by decide⟩ dX8_register_166 rfl (fun Mz14 hPz13 => ?_)
          refine z_iload C 169 dX8_register_169 0 rfl ?_
          refine z_iret C 171 dX8_register_171 (by decide) (by decide) hzq11 ?_
          refine Or.inr (Or.inr ⟨hPz1.t (by assumption), hq9.mp (by omega), ezq11, _, zthr_2 _ (zI 0) (by decide), ?_⟩)
          have h9 := hPz13
          rw [ezq11] at h9
          unfold znreg
          have e9 : zV (zup (zup M 26 0 0 (zI 0)) 26 0 0 (zI 0)) 26 0 4 = zV M 26 0 4 := by rw [zV_nj (by decide), zV_nj (by decide)]
          rw [e9]
          rw [ezq12] at h9
          exact h9
        refine z_iload_n C 53 dX8_register_53 rfl 3 rfl ?_
        refine z_if_eq C 54 93 dX8_register_54 (by decide) (by first | assumption | omega) (fun c54_126 => ?_) (fun c54_126 => ?_)
        · have hN : ¬ (zV M 26 0 4 < 24 ∧ ∀ i : Nat, (i : Int) < k → ¬ (zng M i = 0 ∧ znv M i = v ∧ znl M i = b)) ∨ ¬ ¬ (zng M k.toNat = 0 ∧ znv M k.toNat = v ∧ znl M k.toNat = b) := Or.inl (fun z => by have := g1.mpr z; omega)
          refine z_iconst C 93 dX8_register_93 ?_
          refine z_istore_n (lv' := [(3, .int (zI 0)), (0, .ref (zad G 26 0)), (1, .int (zI v)), (2, .int (zI b)), (4, .int (zI k))]) C 94 dX8_register_94 rfl (by decide) rfl ?_
          refine z_iinc (lv' := [(4, .int (zI (k + 1))), (3, .int (zI 0)), (0, .ref (zad G 26 0)), (1, .int (zI v)), (2, .int (zI b))]) C 95 dX8_register_95 4 rfl (by decide) rfl ?_
          refine z_goto C 98 44 dX8_register_98 (by decide) ?_
          refine z_sub (lv' := [(0, .ref (zad G 26 0)), (1, .int (zI v)), (2, .int (zI b)), (3, .int (zI 0)), (4, .int (zI (k + 1)))]) [2, 3, 4, 1, 0] rfl ?_
          exact ihz7 0 (k + 1) (by omega) (by omega) (by exact ⟨fun z => absurd z (by decide), fun z => (hN.elim (fun y => y ⟨z.1, fun i hi => z.2 i (by omega)⟩) (fun y => y (z.2 k.toNat (by omega)))).elim⟩) (by omega)
        refine z_aload_n C 57 dX8_register_57 rfl 0 rfl ?_
        refine z_get C 58 zcl8 (show 0 < 1 by omega) (zc26 ..) 7 (by decide) rfl wf_8_23 dX8_register_58 ?_
        refine z_iload C 61 dX8_register_61 4 rfl ?_
        refine z_zald C 63 (show 0 < 1 by omega) (zc37 ..) (by first | assumption | omega) (by omega) (show k < ((24 : Nat) : Int) by omega) dX8_register_63 (fun zq15 ezq15 hzq15 => ?_)
        rw [zV_ne (by decide)] at ezq15
        refine z_if_ne C 64 89 dX8_register_64 (by decide) hzq15 (fun c64_139 => ?_) (fun c64_139 => ?_)
        · have hS : ¬ (zng M k.toNat = 0 ∧ znv M k.toNat = v ∧ znl M k.toNat = b) := fun z => by have z1 : zV M 37 0 k.toNat = 0 := z.1; omega
          refine z_iconst C 89 dX8_register_89 ?_
          refine z_goto C 90 94 dX8_register_90 (by decide) ?_
          refine z_istore_n (lv' := [(3, .int (zI 1)), (0, .ref (zad G 26 0)), (1, .int (zI v)), (2, .int (zI b)), (4, .int (zI k))]) C 94 dX8_register_94 rfl (by decide) rfl ?_
          refine z_iinc (lv' := [(4, .int (zI (k + 1))), (3, .int (zI 1)), (0, .ref (zad G 26 0)), (1, .int (zI v)), (2, .int (zI b))]) C 95 dX8_register_95 4 rfl (by decide) rfl ?_
          refine z_goto C 98 44 dX8_register_98 (by decide) ?_
          refine z_sub (lv' := [(0, .ref (zad G 26 0)), (1, .int (zI v)), (2, .int (zI b)), (3, .int (zI 1)), (4, .int (zI (k + 1)))]) [2, 3, 4, 1, 0] rfl ?_
          exact ihz7 1 (k + 1) (by omega) (by omega) (by exact ⟨fun _ => ⟨(g1.mp (by omega)).1, fun i hi => (Int.lt_or_le (i : Int) k).elim ((g1.mp (by omega)).2 i) (fun q => by rw [show i = k.toNat by omega]; exact hS)⟩, fun _ => rfl⟩) (by omega)
        refine z_aload_n C 67 dX8_register_67 rfl 0 rfl ?_
        refine z_get C 68 zcl8 (show 0 < 1 by omega) (zc26 ..) 5 (by decide) rfl wf_8_16 dX8_register_68 ?_
        refine z_iload C 71 dX8_register_71 4 rfl ?_
        refine z_iald C 73 (show 0 < 1 by omega) (zc35 ..) (by first | assumption | omega) (by omega) (show k < ((24 : Nat) : Int) by omega) dX8_register_73 (fun zq16 ezq16 hzq16 => ?_)
        rw [zV_ne (by decide)] at ezq16
        refine z_iload_n C 74 dX8_register_74 rfl 1 rfl ?_
        refine z_icmp_ne C 75 89 dX8_register_75 (by decide) hzq16 (by first | assumption | omega) (fun c75_154 => ?_) (fun c75_154 => ?_)
        · have hS : ¬ (zng M k.toNat = 0 ∧ znv M k.toNat = v ∧ znl M k.toNat = b) := fun z => by have z1 : zV M 35 0 k.toNat = v := z.2.1; omega
          refine z_iconst C 89 dX8_register_89 ?_
          refine z_goto C 90 94 dX8_register_90 (by decide) ?_
          refine z_istore_n (lv' := [(3, .int (zI 1)), (0, .ref (zad G 26 0)), (1, .int (zI v)), (2, .int (zI b)), (4, .int (zI k))]) C 94 dX8_register_94 rfl (by decide) rfl ?_
          refine z_iinc (lv' := [(4, .int (zI (k + 1))), (3, .int (zI 1)), (0, .ref (zad G 26 0)), (1, .int (zI v)), (2, .int (zI b))]) C 95 dX8_register_95 4 rfl (by decide) rfl ?_
          refine z_goto C 98 44 dX8_register_98 (by decide) ?_
          refine z_sub (lv' := [(0, .ref (zad G 26 0)), (1, .int (zI v)), (2, .int (zI b)), (3, .int (zI 1)), (4, .int (zI (k + 1)))]) [2, 3, 4, 1, 0] rfl ?_
          exact ihz7 1 (k + 1) (by omega) (by omega) (by exact ⟨fun _ => ⟨(g1.mp (by omega)).1, fun i hi => (Int.lt_or_le (i : Int) k).elim ((g1.mp (by omega)).2 i) (fun q => by rw [show i = k.toNat by omega]; exact hS)⟩, fun _ => rfl⟩) (by omega)
        refine z_aload_n C 78 dX8_register_78 rfl 0 rfl ?_
        refine z_get C 79 zcl8 (show 0 < 1 by omega) (zc26 ..) 6 (by decide) rfl wf_8_20 dX8_register_79 ?_
        refine z_iload C 82 dX8_register_82 4 rfl ?_
        refine z_iald C 84 (show 0 < 1 by omega) (zc36 ..) (by first | assumption | omega) (by omega) (show k < ((24 : Nat) : Int) by omega) dX8_register_84 (fun zq17 ezq17 hzq17 => ?_)
        rw [zV_ne (by decide)] at ezq17
        refine z_iload_n C 85 dX8_register_85 rfl 2 rfl ?_
        refine z_icmp_eq C 86 93 dX8_register_86 (by decide) hzq17 (by first | assumption | omega) (fun c86_169 => ?_) (fun c86_169 => ?_)
        · have hN : ¬ (zV M 26 0 4 < 24 ∧ ∀ i : Nat, (i : Int) < k → ¬ (zng M i = 0 ∧ znv M i = v ∧ znl M i = b)) ∨ ¬ ¬ (zng M k.toNat = 0 ∧ znv M k.toNat = v ∧ znl M k.toNat = b) := Or.inr (fun z => z ⟨by show zV M 37 0 k.toNat = 0; omega, by show zV M 35 0 k.toNat = v; omega, by show zV M 36 0 k.toNat = b; omega⟩)
          refine z_iconst C 93 dX8_register_93 ?_
          refine z_istore_n (lv' := [(3, .int (zI 0)), (0, .ref (zad G 26 0)), (1, .int (zI v)), (2, .int (zI b)), (4, .int (zI k))]) C 94 dX8_register_94 rfl (by decide) rfl ?_
          refine z_iinc (lv' := [(4, .int (zI (k + 1))), (3, .int (zI 0)), (0, .ref (zad G 26 0)), (1, .int (zI v)), (2, .int (zI b))]) C 95 dX8_register_95 4 rfl (by decide) rfl ?_
          refine z_goto C 98 44 dX8_register_98 (by decide) ?_
          refine z_sub (lv' := [(0, .ref (zad G 26 0)), (1, .int (zI v)), (2, .int (zI b)), (3, .int (zI 0)), (4, .int (zI (k + 1)))]) [2, 3, 4, 1, 0] rfl ?_
          exact ihz7 0 (k + 1) (by omega) (by omega) (by exact ⟨fun z => absurd z (by decide), fun z => (hN.elim (fun y => y ⟨z.1, fun i hi => z.2 i (by omega)⟩) (fun y => y (z.2 k.toNat (by omega)))).elim⟩) (by omega)
        have hS : ¬ (zng M k.toNat = 0 ∧ znv M k.toNat = v ∧ znl M k.toNat = b) := fun z => by have z1 : zV M 36 0 k.toNat = b := z.2.2; omega
        refine z_iconst C 89 dX8_register_89 ?_
        refine z_goto C 90 94 dX8_register_90 (by decide) ?_
        refine z_istore_n (lv' := [(3, .int (zI 1)), (0, .ref (zad G 26 0)), (1, .int (zI v)), (2, .int (zI b)), (4, .int (zI k))]) C 94 dX8_register_94 rfl (by decide) rfl ?_
        refine z_iinc (lv' := [(4, .int (zI (k + 1))), (3, .int (zI 1)), (0, .ref (zad G 26 0)), (1, .int (zI v)), (2, .int (zI b))]) C 95 dX8_register_95 4 rfl (by decide) rfl ?_
        refine z_goto C 98 44 dX8_register_98 (by decide) ?_
        refine z_sub (lv' := [(0, .ref (zad G 26 0)), (1, .int (zI v)), (2, .int (zI b)), (3, .int (zI 1)), (4, .int (zI (k + 1)))]) [2, 3, 4, 1, 0] rfl ?_
        exact ihz7 1 (k + 1) (by omega) (by omega) (by exact ⟨fun _ => ⟨(g1.mp (by omega)).1, fun i hi => (Int.lt_or_le (i : Int) k).elim ((g1.mp (by omega)).2 i) (fun q => by rw [show i = k.toNat by omega]; exact hS)⟩, fun _ => rfl⟩) (by omega)
    refine z_sub (lv' := [(0, .ref (zad G 26 0)), (1, .int (zI v)), (2, .int (zI b)), (3, .int (zI 0)), (4, .int (zI 0))]) [2, 3, 4, 1, 0] rfl ?_
    exact L44_6 (((zV M 26 0 4 - 0 : Int)).toNat + 1) 0 0 (by omega) (by omega) (by exact ⟨fun z => ⟨by omega, fun i hi => absurd hi (by omega)⟩, fun z => by have := z.1; omega⟩) (by omega)
  refine z_iconst C 35 dX8_register_35 ?_
  refine z_goto C 36 40 dX8_register_36 (by decide) ?_
  refine z_istore_n (lv' := [(3, .int (zI 1)), (0, .ref (zad G 26 0)), (1, .int (zI v)), (2, .int (zI b))]) C 40 dX8_register_40 rfl (by decide) rfl ?_
  refine z_iconst C 41 dX8_register_41 ?_
  refine z_istore (lv' := [(4, .int (zI 0)), (3, .int (zI 1)), (0, .ref (zad G 26 0)), (1, .int (zI v)), (2, .int (zI b))]) C 42 dX8_register_42 (by decide) rfl ?_
  have L44_18 : ∀ (kz18 : Nat) (may : Int) (k : Int), (0 ≤ k ∧ k ≤ zV M 26 0 4) → (may = 0 ∨ may = 1) → (may = 1 ↔ (zV M 26 0 4 < 24 ∧ ∀ i : Nat, (i : Int) < k → ¬ (zng M i = 0 ∧ znv M i = v ∧ znl M i = b))) → (zV M 26 0 4 - k) < (kz18 : Int) → zZ p l e (zR 3 0 0) s m ([.ref (zad G 26 0), .int (zI v), .int (zI b)] : List Value).toArray below meth c G 5 (MQ below (zQi G (fun x M' => (¬ zvp v b ∧ zthr M M' 1) ∨ (zvp v b ∧ ¬ (znn M < 24 ∧ ¬ znhas M v b) ∧ zthr M M' 2) ∨ (zvp v b ∧ (znn M < 24 ∧ ¬ znhas M v b) ∧ x = znn M ∧ ∃ M1, zthr M M1 0 ∧ zmsk (znreg M1 v b) M' (znn M).toNat 24))) ([.ref (zad G 26 0), .int (zI v), .int (zI b)] : List Value).toArray s 0 0 (zA G)) (zup M 26 0 0 (zI 0)) 0 0 44 [(0, .ref (zad G 26 0)), (1, .int (zI v)), (2, .int (zI b)), (3, .int (zI may)), (4, .int (zI k))] [] := by
    intro kz18
    induction kz18 with
    | zero =>
      intro may k g0 g2 g1 hk
      exact absurd hk (by omega)
    | succ kz18 ihz19 =>
      intro may k g0 g2 g1 hk
      refine z_iload C 44 dX8_register_44 4 rfl ?_
      refine z_aload_n C 46 dX8_register_46 rfl 0 rfl ?_
      refine z_getI C 47 zcl8 (show 0 < 1 by omega) (zc26 ..) 4 (by decide) rfl wf_8_115 dX8_register_47 (fun zq20 ezq20 hzq20 => ?_)
      rw [zV_nj (by decide)] at ezq20
      refine z_icmp_ge C 50 101 dX8_register_50 (by decide) (by first | assumption | omega) hzq20 (fun c50_203 => ?_) (fun c50_203 => ?_)
      · refine z_aload_n C 101 dX8_register_101 rfl 0 rfl ?_
        have hq9 : may = 1 ↔ (znn M < 24 ∧ ¬ znhas M v b) := g1.trans ⟨fun z => ⟨z.1, fun w => by obtain ⟨i, y1, y2⟩ := w; exact z.2 i (by have y3 : (i : Int) < zV M 26 0 4 := y1; omega) y2⟩, fun z => ⟨z.1, fun i hi y => z.2 ⟨i, by show (i : Int) < zV M 26 0 4; omega, y⟩⟩⟩
        refine z_iload_n C 102 dX8_register_102 rfl 3 rfl ?_
        refine z_if_eq C 103 110 dX8_register_103 (by decide) (by first | assumption | omega) (fun c103_208 => ?_) (fun c103_208 => ?_)
        · refine z_iconst C 110 dX8_register_110 ?_
          refine z_putI C 111 zcl8 (show 0 < 1 by omega) (zc26 ..) 0 (by decide) wf_8_99 rfl rfl rfl (Nat.le_of_ble_eq_true rfl) (zc26 ..) dX8_register_111 ?_
          refine z_aload_n C 114 dX8_register_114 rfl 0 rfl ?_
          refine z_getI C 115 zcl8 (show 0 < 1 by omega) (zc26 ..) 0 (by decide) rfl wf_8_99 dX8_register_115 (fun zq21 ezq21 hzq21 => ?_)
          rw [zV_eq (by first | assumption | decide | omega)] at ezq21
          subst ezq21
          refine z_if_le C 118 123 dX8_register_118 (by decide) (by decide) (fun c118_216 => ?_) (fun c118_216 => ?_)
          · exact absurd c118_216 (by decide)
          refine z_iconst C 121 dX8_register_121 ?_
          refine z_iret C 122 dX8_register_122 (by decide) (by decide) (by decide) ?_
          exact Or.inr (Or.inl ⟨hPz1.t (by assumption), fun z => by have := hq9.mpr z; omega, zthr_2 _ _ (by decide)⟩)
        refine z_iconst C 106 dX8_register_106 ?_
        refine z_goto C 107 111 dX8_register_107 (by decide) ?_
        refine z_putI C 111 zcl8 (show 0 < 1 by omega) (zc26 ..) 0 (by decide) wf_8_99 rfl rfl rfl (Nat.le_of_ble_eq_true rfl) (zc26 ..) dX8_register_111 ?_
        refine z_aload_n C 114 dX8_register_114 rfl 0 rfl ?_
        refine z_getI C 115 zcl8 (show 0 < 1 by omega) (zc26 ..) 0 (by decide) rfl wf_8_99 dX8_register_115 (fun zq22 ezq22 hzq22 => ?_)
        rw [zV_eq (by first | assumption | decide | omega)] at ezq22
        subst ezq22
        refine z_if_le C 118 123 dX8_register_118 (by decide) (by decide) (fun c118_227 => ?_) (fun c118_227 => ?_)
        rotate_left
        · exact absurd c118_227 (by decide)
        have hlt : zV M 26 0 4 < 24 := (hq9.mp (by omega)).1
        refine z_aload_n C 123 dX8_register_123 rfl 0 rfl ?_
        refine z_getI C 124 zcl8 (show 0 < 1 by omega) (zc26 ..) 4 (by decide) rfl wf_8_115 dX8_register_124 (fun zq23 ezq23 hzq23 => ?_)
        rw [zV_nj (by decide)] at ezq23
        rw [zV_nj (by decide)] at ezq23
        refine z_istore (lv' := [(4, .int (zI zq23)), (0, .ref (zad G 26 0)), (1, .int (zI v)), (2, .int (zI b)), (3, .int (zI may))]) C 127 dX8_register_127 (by decide) rfl ?_
        refine z_aload_n C 129 dX8_register_129 rfl 1 rfl ?_
        refine z_dup C 130 dX8_register_130 rfl ?_
        refine z_getI C 131 zcl8 (show 0 < 1 by omega) (zc26 ..) 4 (by decide) rfl wf_8_115 dX8_register_131 (fun zq24 ezq24 hzq24 => ?_)
        rw [zV_nj (by decide)] at ezq24
        rw [zV_nj (by decide)] at ezq24
        refine z_iconst C 134 dX8_register_134 ?_
        refine z_iadd C 135 dX8_register_135 ?_
        refine z_putI C 136 zcl8 (show 0 < 1 by omega) (zc26 ..) 4 (by decide) wf_8_115 rfl rfl rfl (Nat.le_of_ble_eq_true rfl) (zc26 ..) dX8_register_136 ?_
        refine z_aload_n C 139 dX8_register_139 rfl 1 rfl ?_
        refine z_get C 140 zcl8 (show 0 < 1 by omega) (zc26 ..) 5 (by decide) rfl wf_8_16 dX8_register_140 ?_
        refine z_iload C 143 dX8_register_143 0 rfl ?_
        refine z_iload_n C 145 dX8_register_145 rfl 2 rfl ?_
        refine z_iast C 146 (show 0 < 1 by omega) (zc35 ..) hzq23 (by omega) (show zq23 < ((24 : Nat) : Int) by omega) (zc35 ..) dX8_register_146 ?_
        refine z_aload_n C 147 dX8_register_147 rfl 1 rfl ?_
        refine z_get C 148 zcl8 (show 0 < 1 by omega) (zc26 ..) 6 (by decide) rfl wf_8_20 dX8_register_148 ?_
        refine z_iload C 151 dX8_register_151 0 rfl ?_
        refine z_iload_n C 153 dX8_register_153 rfl 3 rfl ?_
        refine z_iast C 154 (show 0 < 1 by omega) (zc36 ..) hzq23 (by omega) (show zq23 < ((24 : Nat) : Int) by omega) (zc36 ..) dX8_register_154 ?_
        refine z_aload_n C 155 dX8_register_155 rfl 1 rfl ?_
        refine z_get C 156 zcl8 (show 0 < 1 by omega) (zc26 ..) 8 (by decide) rfl wf_8_27 dX8_register_156 ?_
        refine z_iload C 159 dX8_register_159 0 rfl ?_
        refine z_iconst C 161 dX8_register_161 ?_
        refine z_iast C 162 (show 0 < 1 by omega) (zc38 ..) hzq23 (by omega) (show zq23 < ((24 : Nat) : Int) by omega) (zc38 ..) dX8_register_162 ?_
        refine z_aload_n C 163 dX8_register_163 rfl 1 rfl ?_
        refine z_iload C 164 dX8_register_164 0 rfl ?_
        refine z_callVv C 166 (As := [.int (zI zq23)]) (rest := []) (c_X8_solicits l G (zup (zup (zup (zup (zup (zup M 26 0 0 (zI 0)) 26 0 0 (zI 0)) 26 0 4 (zI (zq24 + 1))) 35 0 zq23.toNat (zI v)) 36 0 zq23.toNat (zI b)) 38 0 zq23.toNat (zI 1)) (zWM_reg hw (hPz1.t (by assumption)).1 hlt ezq23 ezq24) zq23 (by omega)) zcl8 (show 0 < 1 by omega) (zc26 ..) (zW_of 1 C wm_8_129 wc_X8_solicits wini_8 wi_X8_solicits wse_X8_solicits ⟨by decide, by decide, by decide⟩ ⟨by decide, by decide⟩) rfl (Nat.le_of_ble_eq_true rfl) ⟨by decide, by decide⟩ dX8_register_166 rfl (fun Mz26 hPz25 => ?_)
        refine z_iload C 169 dX8_register_169 0 rfl ?_
        refine z_iret C 171 dX8_register_171 (by decide) (by decide) hzq23 ?_
        refine Or.inr (Or.inr ⟨hPz1.t (by assumption), hq9.mp (by omega), ezq23, _, zthr_2 _ (zI 0) (by decide), ?_⟩)
        have h9 := hPz25
        rw [ezq23] at h9
        unfold znreg
        have e9 : zV (zup (zup M 26 0 0 (zI 0)) 26 0 0 (zI 0)) 26 0 4 = zV M 26 0 4 := by rw [zV_nj (by decide), zV_nj (by decide)]
        rw [e9]
        rw [ezq24] at h9
        exact h9
      refine z_iload_n C 53 dX8_register_53 rfl 3 rfl ?_
      refine z_if_eq C 54 93 dX8_register_54 (by decide) (by first | assumption | omega) (fun c54_272 => ?_) (fun c54_272 => ?_)
      · have hN : ¬ (zV M 26 0 4 < 24 ∧ ∀ i : Nat, (i : Int) < k → ¬ (zng M i = 0 ∧ znv M i = v ∧ znl M i = b)) ∨ ¬ ¬ (zng M k.toNat = 0 ∧ znv M k.toNat = v ∧ znl M k.toNat = b) := Or.inl (fun z => by have := g1.mpr z; omega)
        refine z_iconst C 93 dX8_register_93 ?_
        refine z_istore_n (lv' := [(3, .int (zI 0)), (0, .ref (zad G 26 0)), (1, .int (zI v)), (2, .int (zI b)), (4, .int (zI k))]) C 94 dX8_register_94 rfl (by decide) rfl ?_
        refine z_iinc (lv' := [(4, .int (zI (k + 1))), (3, .int (zI 0)), (0, .ref (zad G 26 0)), (1, .int (zI v)), (2, .int (zI b))]) C 95 dX8_register_95 4 rfl (by decide) rfl ?_
        refine z_goto C 98 44 dX8_register_98 (by decide) ?_
        refine z_sub (lv' := [(0, .ref (zad G 26 0)), (1, .int (zI v)), (2, .int (zI b)), (3, .int (zI 0)), (4, .int (zI (k + 1)))]) [2, 3, 4, 1, 0] rfl ?_
        exact ihz19 0 (k + 1) (by omega) (by omega) (by exact ⟨fun z => absurd z (by decide), fun z => (hN.elim (fun y => y ⟨z.1, fun i hi => z.2 i (by omega)⟩) (fun y => y (z.2 k.toNat (by omega)))).elim⟩) (by omega)
      refine z_aload_n C 57 dX8_register_57 rfl 0 rfl ?_
      refine z_get C 58 zcl8 (show 0 < 1 by omega) (zc26 ..) 7 (by decide) rfl wf_8_23 dX8_register_58 ?_
      refine z_iload C 61 dX8_register_61 4 rfl ?_
      refine z_zald C 63 (show 0 < 1 by omega) (zc37 ..) (by first | assumption | omega) (by omega) (show k < ((24 : Nat) : Int) by omega) dX8_register_63 (fun zq27 ezq27 hzq27 => ?_)
      rw [zV_ne (by decide)] at ezq27
      refine z_if_ne C 64 89 dX8_register_64 (by decide) hzq27 (fun c64_285 => ?_) (fun c64_285 => ?_)
      · have hS : ¬ (zng M k.toNat = 0 ∧ znv M k.toNat = v ∧ znl M k.toNat = b) := fun z => by have z1 : zV M 37 0 k.toNat = 0 := z.1; omega
        refine z_iconst C 89 dX8_register_89 ?_
        refine z_goto C 90 94 dX8_register_90 (by decide) ?_
        refine z_istore_n (lv' := [(3, .int (zI 1)), (0, .ref (zad G 26 0)), (1, .int (zI v)), (2, .int (zI b)), (4, .int (zI k))]) C 94 dX8_register_94 rfl (by decide) rfl ?_
        refine z_iinc (lv' := [(4, .int (zI (k + 1))), (3, .int (zI 1)), (0, .ref (zad G 26 0)), (1, .int (zI v)), (2, .int (zI b))]) C 95 dX8_register_95 4 rfl (by decide) rfl ?_
        refine z_goto C 98 44 dX8_register_98 (by decide) ?_
        refine z_sub (lv' := [(0, .ref (zad G 26 0)), (1, .int (zI v)), (2, .int (zI b)), (3, .int (zI 1)), (4, .int (zI (k + 1)))]) [2, 3, 4, 1, 0] rfl ?_
        exact ihz19 1 (k + 1) (by omega) (by omega) (by exact ⟨fun _ => ⟨(g1.mp (by omega)).1, fun i hi => (Int.lt_or_le (i : Int) k).elim ((g1.mp (by omega)).2 i) (fun q => by rw [show i = k.toNat by omega]; exact hS)⟩, fun _ => rfl⟩) (by omega)
      refine z_aload_n C 67 dX8_register_67 rfl 0 rfl ?_
      refine z_get C 68 zcl8 (show 0 < 1 by omega) (zc26 ..) 5 (by decide) rfl wf_8_16 dX8_register_68 ?_
      refine z_iload C 71 dX8_register_71 4 rfl ?_
      refine z_iald C 73 (show 0 < 1 by omega) (zc35 ..) (by first | assumption | omega) (by omega) (show k < ((24 : Nat) : Int) by omega) dX8_register_73 (fun zq28 ezq28 hzq28 => ?_)
      rw [zV_ne (by decide)] at ezq28
      refine z_iload_n C 74 dX8_register_74 rfl 1 rfl ?_
      refine z_icmp_ne C 75 89 dX8_register_75 (by decide) hzq28 (by first | assumption | omega) (fun c75_300 => ?_) (fun c75_300 => ?_)
      · have hS : ¬ (zng M k.toNat = 0 ∧ znv M k.toNat = v ∧ znl M k.toNat = b) := fun z => by have z1 : zV M 35 0 k.toNat = v := z.2.1; omega
        refine z_iconst C 89 dX8_register_89 ?_
        refine z_goto C 90 94 dX8_register_90 (by decide) ?_
        refine z_istore_n (lv' := [(3, .int (zI 1)), (0, .ref (zad G 26 0)), (1, .int (zI v)), (2, .int (zI b)), (4, .int (zI k))]) C 94 dX8_register_94 rfl (by decide) rfl ?_
        refine z_iinc (lv' := [(4, .int (zI (k + 1))), (3, .int (zI 1)), (0, .ref (zad G 26 0)), (1, .int (zI v)), (2, .int (zI b))]) C 95 dX8_register_95 4 rfl (by decide) rfl ?_
        refine z_goto C 98 44 dX8_register_98 (by decide) ?_
        refine z_sub (lv' := [(0, .ref (zad G 26 0)), (1, .int (zI v)), (2, .int (zI b)), (3, .int (zI 1)), (4, .int (zI (k + 1)))]) [2, 3, 4, 1, 0] rfl ?_
        exact ihz19 1 (k + 1) (by omega) (by omega) (by exact ⟨fun _ => ⟨(g1.mp (by omega)).1, fun i hi => (Int.lt_or_le (i : Int) k).elim ((g1.mp (by omega)).2 i) (fun q => by rw [show i = k.toNat by omega]; exact hS)⟩, fun _ => rfl⟩) (by omega)
      refine z_aload_n C 78 dX8_register_78 rfl 0 rfl ?_
      refine z_get C 79 zcl8 (show 0 < 1 by omega) (zc26 ..) 6 (by decide) rfl wf_8_20 dX8_register_79 ?_
      refine z_iload C 82 dX8_register_82 4 rfl ?_
      refine z_iald C 84 (show 0 < 1 by omega) (zc36 ..) (by first | assumption | omega) (by omega) (show k < ((24 : Nat) : Int) by omega) dX8_register_84 (fun zq29 ezq29 hzq29 => ?_)
      rw [zV_ne (by decide)] at ezq29
      refine z_iload_n C 85 dX8_register_85 rfl 2 rfl ?_
      refine z_icmp_eq C 86 93 dX8_register_86 (by decide) hzq29 (by first | assumption | omega) (fun c86_315 => ?_) (fun c86_315 => ?_)
      · have hN : ¬ (zV M 26 0 4 < 24 ∧ ∀ i : Nat, (i : Int) < k → ¬ (zng M i = 0 ∧ znv M i = v ∧ znl M i = b)) ∨ ¬ ¬ (zng M k.toNat = 0 ∧ znv M k.toNat = v ∧ znl M k.toNat = b) := Or.inr (fun z => z ⟨by show zV M 37 0 k.toNat = 0; omega, by show zV M 35 0 k.toNat = v; omega, by show zV M 36 0 k.toNat = b; omega⟩)
        refine z_iconst C 93 dX8_register_93 ?_
        refine z_istore_n (lv' := [(3, .int (zI 0)), (0, .ref (zad G 26 0)), (1, .int (zI v)), (2, .int (zI b)), (4, .int (zI k))]) C 94 dX8_register_94 rfl (by decide) rfl ?_
        refine z_iinc (lv' := [(4, .int (zI (k + 1))), (3, .int (zI 0)), (0, .ref (zad G 26 0)), (1, .int (zI v)), (2, .int (zI b))]) C 95 dX8_register_95 4 rfl (by decide) rfl ?_
        refine z_goto C 98 44 dX8_register_98 (by decide) ?_
        refine z_sub (lv' := [(0, .ref (zad G 26 0)), (1, .int (zI v)), (2, .int (zI b)), (3, .int (zI 0)), (4, .int (zI (k + 1)))]) [2, 3, 4, 1, 0] rfl ?_
        exact ihz19 0 (k + 1) (by omega) (by omega) (by exact ⟨fun z => absurd z (by decide), fun z => (hN.elim (fun y => y ⟨z.1, fun i hi => z.2 i (by omega)⟩) (fun y => y (z.2 k.toNat (by omega)))).elim⟩) (by omega)
      have hS : ¬ (zng M k.toNat = 0 ∧ znv M k.toNat = v ∧ znl M k.toNat = b) := fun z => by have z1 : zV M 36 0 k.toNat = b := z.2.2; omega
      refine z_iconst C 89 dX8_register_89 ?_
      refine z_goto C 90 94 dX8_register_90 (by decide) ?_
      refine z_istore_n (lv' := [(3, .int (zI 1)), (0, .ref (zad G 26 0)), (1, .int (zI v)), (2, .int (zI b)), (4, .int (zI k))]) C 94 dX8_register_94 rfl (by decide) rfl ?_
      refine z_iinc (lv' := [(4, .int (zI (k + 1))), (3, .int (zI 1)), (0, .ref (zad G 26 0)), (1, .int (zI v)), (2, .int (zI b))]) C 95 dX8_register_95 4 rfl (by decide) rfl ?_
      refine z_goto C 98 44 dX8_register_98 (by decide) ?_
      refine z_sub (lv' := [(0, .ref (zad G 26 0)), (1, .int (zI v)), (2, .int (zI b)), (3, .int (zI 1)), (4, .int (zI (k + 1)))]) [2, 3, 4, 1, 0] rfl ?_
      exact ihz19 1 (k + 1) (by omega) (by omega) (by exact ⟨fun _ => ⟨(g1.mp (by omega)).1, fun i hi => (Int.lt_or_le (i : Int) k).elim ((g1.mp (by omega)).2 i) (fun q => by rw [show i = k.toNat by omega]; exact hS)⟩, fun _ => rfl⟩) (by omega)
  refine z_sub (lv' := [(0, .ref (zad G 26 0)), (1, .int (zI v)), (2, .int (zI b)), (3, .int (zI 1)), (4, .int (zI 0))]) [2, 3, 4, 1, 0] rfl ?_
  exact L44_18 (((zV M 26 0 4 - 0 : Int)).toNat + 1) 1 0 (by omega) (by omega) (by exact ⟨fun z => ⟨by omega, fun i hi => absurd hi (by omega)⟩, fun z => by have := z.1; omega⟩) (by omega)
