set_option maxHeartbeats 4000000 in
set_option maxRecDepth 100000 in
theorem c_L_cell (l : Launch) (G : zG) (M : zMem) (k : Int) (hk : 0 ≤ k ∧ k < 1000) : Met l yL_cell [.code yL_cell cL_cell 2 (some .int)] (zR 0 0 0) (zPc G M [.ref (zS G).1, .int (zI k)]) (zQi G (fun x M' => M = M')) 0 0 (zA G) := by
  refine z_met [(0, .ref (zS G).1), (1, .int (zI k))] (by decide) (Nat.le_of_ble_eq_true rfl) rfl ?_
  intro p e s m below meth c C
  have C : zC p s m ([.ref (zS G).1, .int (zI k)] : List Value).toArray meth c G RL cL_cell 2 (some .int) := C
  have hL9 := C.x.2.2
  refine z_iload_n C 0 dL_cell_0 rfl 1 rfl ?_
  refine z_aload_n C 1 dL_cell_1 rfl 0 rfl ?_
  refine z_slen C 2 dL_cell_2 ?_
  refine z_icmp_ge C 3 12 dL_cell_3 (by decide) (by first | assumption | omega) (by first | assumption | omega) (fun c3_10 => ?_) (fun c3_10 => ?_)
  · refine z_ldc C 12 wk_L_7 dL_cell_12 ?_
    refine z_iload_n C 14 dL_cell_14 rfl 1 rfl ?_
    refine z_iconst C 15 dL_cell_15 ?_
    refine z_iadd C 16 dL_cell_16 ?_
    refine z_imul C 17 dL_cell_17 ?_
    refine z_any C (fun vv hvv => ?_)
    refine z_iret C 18 dL_cell_18 (by decide) (by decide) hvv ?_
    exact rfl
  refine z_aload_n C 6 dL_cell_6 rfl 0 rfl ?_
  refine z_iload_n C 7 dL_cell_7 rfl 1 rfl ?_
  refine z_sld C 8 (by first | assumption | omega) (by omega) (by omega) dL_cell_8 (fun zq1 hzq1 => ?_)
  refine z_goto C 9 18 dL_cell_9 (by decide) ?_
  refine z_iret C 18 dL_cell_18 (by decide) (by decide) hzq1 ?_
  exact rfl
set_option maxHeartbeats 4000000 in
set_option maxRecDepth 100000 in
theorem c_L_low (l : Launch) (G : zG) (M : zMem) (v n : Int) (hn : 0 < n ∧ n ≤ 65536) : Met l yL_low [.code yL_low cL_low 2 (some .int)] (zR 0 0 0) (zPc G M [.int (zI v), .int (zI n)]) (zQi G (fun x M' => M = M' ∧ 0 ≤ x ∧ x < n)) 0 0 (zA G) := by
  refine z_met [(0, .int (zI v)), (1, .int (zI n))] (by decide) (Nat.le_of_ble_eq_true rfl) rfl ?_
  intro p e s m below meth c C
  have C : zC p s m ([.int (zI v), .int (zI n)] : List Value).toArray meth c G RL cL_low 2 (some .int) := C
  refine z_iload_n C 0 dL_low_0 rfl 0 rfl ?_
  refine z_iconst C 1 dL_low_1 ?_
  obtain ⟨v9, hv0, hv1, ev9⟩ := j_ush1 v
  refine z_iushr C 2 (v := v9) dL_low_2 ev9 ?_
  refine z_iload_n C 3 dL_low_3 rfl 1 rfl ?_
  refine z_irem C 4 dL_low_4 (by first | assumption | omega) (by omega) (by first | assumption | omega) (by omega) ?_
  have hm0 := Int.emod_nonneg v9 (show n ≠ 0 by omega)
  have hm1 := Int.emod_lt_of_pos v9 (show 0 < n by omega)
  refine z_iret C 5 dL_low_5 (by decide) (by decide) (show zrg (v9 % n) by omega) ?_
  exact ⟨rfl, hm0, hm1⟩
set_option maxHeartbeats 4000000 in
set_option maxRecDepth 100000 in
theorem c_L_alike (l : Launch) (G : zG) (M : zMem) (a b : Int) (ha : 0 ≤ a ∧ a < 65536) (hb : 0 ≤ b ∧ b < 65536) : Met l yL_alike [.code yL_alike cL_alike 4 (some .int)] (zR 0 0 0) (zPc G M [.int (zI a), .int (zI b)]) (zQi G (fun x M' => M = M' ∧ jalk a b x)) 0 0 (zA G) := by
  refine z_met [(0, .int (zI a)), (1, .int (zI b))] (by decide) (Nat.le_of_ble_eq_true rfl) rfl ?_
  intro p e s m below meth c C
  have C : zC p s m ([.int (zI a), .int (zI b)] : List Value).toArray meth c G RL cL_alike 4 (some .int) := C
  refine z_bipush C 0 dL_alike_0 (by decide +kernel) ?_
  refine z_istore_n (lv' := [(2, .int (zI 16)), (0, .int (zI a)), (1, .int (zI b))]) C 2 dL_alike_2 rfl (by decide) rfl ?_
  refine z_iload_n C 3 dL_alike_3 rfl 1 rfl ?_
  refine z_iload_n C 4 dL_alike_4 rfl 2 rfl ?_
  refine z_ixor C 5 (v := zxr a b) dL_alike_5 (z_xor (by omega) (by omega)) ?_
  refine z_istore_n (lv' := [(3, .int (zI (zxr a b))), (2, .int (zI 16)), (0, .int (zI a)), (1, .int (zI b))]) C 6 dL_alike_6 rfl (by decide) rfl ?_
  have L7_1 : ∀ (kz1 : Nat) (n : Int) (t : Int), (0 ≤ n ∧ n ≤ 16) → (t = zxs a b n) → (∀ k : Int, n < k → k ≤ 16 → ¬ zfs a k = zfs b k) → n < (kz1 : Int) → zZ p l e (zR 0 0 0) s m ([.int (zI a), .int (zI b)] : List Value).toArray below meth c G 4 (MQ below (zQi G (fun x M' => M = M' ∧ jalk a b x)) ([.int (zI a), .int (zI b)] : List Value).toArray s 0 0 (zA G)) M 0 0 7 [(0, .int (zI a)), (1, .int (zI b)), (2, .int (zI n)), (3, .int (zI t))] [] := by
    intro kz1
    induction kz1 with
    | zero =>
      intro n t g0 g1 g2 hk
      exact absurd hk (by omega)
    | succ kz1 ihz2 =>
      intro n t g0 g1 g2 hk
      have ht9 := j_xsrg (n := n) ha hb
      refine z_iload_n C 7 dL_alike_7 rfl 3 rfl ?_
      refine z_if_le C 8 21 dL_alike_8 (by decide) (show zrg t by omega) (fun c8_22 => ?_) (fun c8_22 => ?_)
      · refine z_iload_n C 21 dL_alike_21 rfl 2 rfl ?_
        refine z_iret C 22 dL_alike_22 (by decide) (by decide) (by first | assumption | omega) ?_
        exact ⟨rfl, j_alk0 ha hb g0 (by omega) g2⟩
      have hn1 : 1 ≤ n := j_xs0 ha hb g0 (by omega)
      refine z_iinc (lv' := [(2, .int (zI (n + (-1)))), (0, .int (zI a)), (1, .int (zI b)), (3, .int (zI t))]) C 11 dL_alike_11 2 rfl (by decide) rfl ?_
      refine z_iload_n C 14 dL_alike_14 rfl 3 rfl ?_
      refine z_iconst C 15 dL_alike_15 ?_
      refine z_ishr C 16 (v := zxs a b (n + (-1))) dL_alike_16 (by rw [g1]; exact (j_sar (p := 2) (by omega) (by omega) (by decide) (by decide) rfl).trans (by rw [j_xs1 ⟨hn1, by omega⟩])) ?_
      refine z_istore_n (lv' := [(3, .int (zI (zxs a b (n + (-1))))), (2, .int (zI (n + (-1)))), (0, .int (zI a)), (1, .int (zI b))]) C 17 dL_alike_17 rfl (by decide) rfl ?_
      refine z_goto C 18 7 dL_alike_18 (by decide) ?_
      refine z_sub (lv' := [(0, .int (zI a)), (1, .int (zI b)), (2, .int (zI (n + (-1)))), (3, .int (zI (zxs a b (n + (-1)))))]) [2, 3, 1, 0] rfl ?_
      exact ihz2 (n + (-1)) (zxs a b (n + (-1))) (by omega) (by rfl) (by intro k h1 h2; exact (Int.lt_or_le n k).elim (fun q => g2 k q h2) (fun q => by rw [show k = n by omega, ← zxs_0 ha.1 hb.1 (by omega) (by omega)]; omega)) (by omega)
  refine z_sub (lv' := [(0, .int (zI a)), (1, .int (zI b)), (2, .int (zI 16)), (3, .int (zI (zxr a b)))]) [2, 3, 1, 0] rfl ?_
  exact L7_1 (((16 : Int)).toNat + 1) 16 (zxr a b) (by omega) (by exact j_xs16) (by intro k h1 h2; omega) (by omega)
set_option maxHeartbeats 4000000 in
set_option maxRecDepth 100000 in
theorem c_L_covers (l : Launch) (G : zG) (M : zMem) (v b pp id : Int) (hp : pp = 32 * v + b) (hv : zpfx v b) (hid : 0 ≤ id ∧ id < 65536) : Met l yL_covers [.code yL_covers cL_covers 2 (some .boolean)] (zR 1 0 0) (zPc G M [.int (zI pp), .int (zI id)]) (zQi G (fun x M' => M = M' ∧ zb x (zmeet v b id 16))) 0 0 (zA G) := by
  refine z_met [(0, .int (zI pp)), (1, .int (zI id))] (by decide) (Nat.le_of_ble_eq_true rfl) rfl ?_
  intro p e s m below meth c C
  have C : zC p s m ([.int (zI pp), .int (zI id)] : List Value).toArray meth c G RL cL_covers 2 (some .boolean) := C
  have hv9 := hv
  unfold zpfx at hv9
  have e1 : pp / 32 = v := by omega
  have e2 : pp % 32 = b := by omega
  refine z_iload_n C 0 dL_covers_0 rfl 0 rfl ?_
  refine z_bipush C 1 dL_covers_1 (by decide +kernel) ?_
  refine z_idiv C 3 dL_covers_3 (by first | assumption | omega) (by omega) (by decide) (by decide) ?_
  refine z_iload_n C 4 dL_covers_4 rfl 1 rfl ?_
  refine z_callSi C 5 (As := [.int (zI (pp / 32)), .int (zI id)]) (rest := []) (c_L_alike l G M (pp / 32) id (by omega) hid) (zS_of 2 C wm_L_73 wc_L_alike wini_L wst_L_alike ⟨by decide, by decide, by decide⟩ ⟨by decide, by decide⟩) rfl (Nat.le_of_ble_eq_true rfl) ⟨by decide, by decide⟩ dL_covers_5 rfl (fun zq1 Mz2 hzq1 hPz1 => ?_)
  obtain ⟨rfl, hPz1⟩ := hPz1
  rw [e1] at hPz1
  have hal := hPz1.1
  refine z_iload_n C 8 dL_covers_8 rfl 0 rfl ?_
  refine z_bipush C 9 dL_covers_9 (by decide +kernel) ?_
  refine z_irem C 11 dL_covers_11 (by first | assumption | omega) (by omega) (by decide) (by decide) ?_
  refine z_icmp_lt C 12 19 dL_covers_12 (by decide) hzq1 (by first | assumption | omega) (fun c12_21 => ?_) (fun c12_21 => ?_)
  · refine z_iconst C 19 dL_covers_19 ?_
    refine z_zret C 20 dL_covers_20 (by decide) (by decide) (by decide) ?_
    exact ⟨rfl, zb.zero (fun z => by have z1 := (j_cov hv hPz1).mp z; omega)⟩
  refine z_iconst C 15 dL_covers_15 ?_
  refine z_goto C 16 20 dL_covers_16 (by decide) ?_
  refine z_zret C 20 dL_covers_20 (by decide) (by decide) (by decide) ?_
  exact ⟨rfl, zb.one ((j_cov hv hPz1).mpr (by omega))⟩
set_option maxHeartbeats 4000000 in
set_option maxRecDepth 100000 in
theorem c_L_meet (l : Launch) (G : zG) (M : zMem) (v b w b2 pp qq : Int) (hp : pp = 32 * v + b) (hq : qq = 32 * w + b2) (hv : zpfx v b) (hw : zpfx w b2) : Met l yL_meet [.code yL_meet cL_meet 2 (some .boolean)] (zR 2 0 0) (zPc G M [.int (zI pp), .int (zI qq)]) (zQi G (fun x M' => M = M' ∧ zb x (zmeet v b w b2))) 0 0 (zA G) := by
  refine z_met [(0, .int (zI pp)), (1, .int (zI qq))] (by decide) (Nat.le_of_ble_eq_true rfl) rfl ?_
  intro p e s m below meth c C
  have C : zC p s m ([.int (zI pp), .int (zI qq)] : List Value).toArray meth c G RL cL_meet 2 (some .boolean) := C
  have hv9 := hv
  unfold zpfx at hv9
  have hw9 := hw
  unfold zpfx at hw9
  have e1 : pp / 32 = v := by omega
  have e2 : qq / 32 = w := by omega
  refine z_iload_n C 0 dL_meet_0 rfl 0 rfl ?_
  refine z_iload_n C 1 dL_meet_1 rfl 1 rfl ?_
  refine z_bipush C 2 dL_meet_2 (by decide +kernel) ?_
  refine z_idiv C 4 dL_meet_4 (by first | assumption | omega) (by omega) (by decide) (by decide) ?_
  refine z_callSi C 5 (As := [.int (zI pp), .int (zI (qq / 32))]) (rest := []) (c_L_covers l G M v b pp (qq / 32) hp hv (by omega)) (zS_of 2 C wm_L_78 wc_L_covers wini_L wst_L_covers ⟨by decide, by decide, by decide⟩ ⟨by decide, by decide⟩) rfl (Nat.le_of_ble_eq_true rfl) ⟨by decide, by decide⟩ dL_meet_5 rfl (fun zq1 Mz2 hzq1 hPz1 => ?_)
  obtain ⟨rfl, hPz1⟩ := hPz1
  rw [e2] at hPz1
  refine z_if_ne C 8 22 dL_meet_8 (by decide) hzq1 (fun c8_19 => ?_) (fun c8_19 => ?_)
  · refine z_iconst C 22 dL_meet_22 ?_
    refine z_goto C 23 27 dL_meet_23 (by decide) ?_
    refine z_zret C 27 dL_meet_27 (by decide) (by decide) (by decide) ?_
    exact ⟨rfl, zb.one ((j_meet hv hw).mpr (Or.inl (hPz1.t (by assumption))))⟩
  refine z_iload_n C 11 dL_meet_11 rfl 1 rfl ?_
  refine z_iload_n C 12 dL_meet_12 rfl 0 rfl ?_
  refine z_bipush C 13 dL_meet_13 (by decide +kernel) ?_
  refine z_idiv C 15 dL_meet_15 (by first | assumption | omega) (by omega) (by decide) (by decide) ?_
  refine z_callSi C 16 (As := [.int (zI qq), .int (zI (pp / 32))]) (rest := []) (c_L_covers l G M w b2 qq (pp / 32) hq hw (by omega)) (zS_of 2 C wm_L_78 wc_L_covers wini_L wst_L_covers ⟨by decide, by decide, by decide⟩ ⟨by decide, by decide⟩) rfl (Nat.le_of_ble_eq_true rfl) ⟨by decide, by decide⟩ dL_meet_16 rfl (fun zq3 Mz4 hzq3 hPz3 => ?_)
  obtain ⟨rfl, hPz3⟩ := hPz3
  rw [e1] at hPz3
  refine z_if_eq C 19 26 dL_meet_19 (by decide) hzq3 (fun c19_31 => ?_) (fun c19_31 => ?_)
  · refine z_iconst C 26 dL_meet_26 ?_
    refine z_zret C 27 dL_meet_27 (by decide) (by decide) (by decide) ?_
    exact ⟨rfl, zb.zero (fun z => ((j_meet hv hw).mp z).elim (hPz1.f (by assumption)) (hPz3.f (by assumption)))⟩
  refine z_iconst C 22 dL_meet_22 ?_
  refine z_goto C 23 27 dL_meet_23 (by decide) ?_
  refine z_zret C 27 dL_meet_27 (by decide) (by decide) (by decide) ?_
  exact ⟨rfl, zb.one ((j_meet hv hw).mpr (Or.inr (hPz3.t (by assumption))))⟩
set_option maxHeartbeats 4000000 in
set_option maxRecDepth 100000 in
theorem c_L_identifier (l : Launch) (G : zG) (M : zMem) (y : Int) : Met l yL_identifier [.code yL_identifier cL_identifier 1 (some .int)] (zR 1 0 0) (zPc G M [.int (zI y)]) (zQi G (fun x M' => M = M' ∧ 0 ≤ x ∧ x < 65536)) 0 0 (zA G) := by
  refine z_met [(0, .int (zI y))] (by decide) (Nat.le_of_ble_eq_true rfl) rfl ?_
  intro p e s m below meth c C
  have C : zC p s m ([.int (zI y)] : List Value).toArray meth c G RL cL_identifier 1 (some .int) := C
  refine z_iload_n C 0 dL_identifier_0 rfl 0 rfl ?_
  refine z_iconst C 1 dL_identifier_1 ?_
  refine z_callSi C 2 (As := [.int (zI y), .int (zI 4)]) (rest := []) (c_L_low l G M y 4 ⟨by decide, by decide⟩) (zS_of 2 C wm_L_85 wc_L_low wini_L wst_L_low ⟨by decide, by decide, by decide⟩ ⟨by decide, by decide⟩) rfl (Nat.le_of_ble_eq_true rfl) ⟨by decide, by decide⟩ dL_identifier_2 rfl (fun zq1 Mz2 hzq1 hPz1 => ?_)
  obtain ⟨rfl, hPz1⟩ := hPz1
  rcases (show zq1 = 0 ∨ zq1 = 1 ∨ zq1 = 2 ∨ zq1 = 3 by omega) with csw | csw | csw | csw
  · rw [csw]
    refine z_lookup (off := 27) C 5 32 (by decide) dL_identifier_5 (by decide +kernel) (by decide +kernel) (by decide) ?_
    refine z_iload_n C 32 dL_identifier_32 rfl 0 rfl ?_
    refine z_iconst C 33 dL_identifier_33 ?_
    refine z_ishr_any C 34 dL_identifier_34 (fun zv3 hzv3 => ?_)
    refine z_ldc C 35 wk_L_88 dL_identifier_35 ?_
    refine z_callSi C 37 (As := [.int (zI zv3), .int (zI 65536)]) (rest := []) (c_L_low l G M zv3 65536 ⟨by decide, by decide⟩) (zS_of 2 C wm_L_85 wc_L_low wini_L wst_L_low ⟨by decide, by decide, by decide⟩ ⟨by decide, by decide⟩) rfl (Nat.le_of_ble_eq_true rfl) ⟨by decide, by decide⟩ dL_identifier_37 rfl (fun zq4 Mz5 hzq4 hPz4 => ?_)
    obtain ⟨rfl, hPz4⟩ := hPz4
    refine z_iret C 40 dL_identifier_40 (by decide) (by decide) hzq4 ?_
    exact ⟨rfl, hPz4⟩
  · rw [csw]
    refine z_lookup (off := 36) C 5 41 (by decide) dL_identifier_5 (by decide +kernel) (by decide +kernel) (by decide) ?_
    refine z_iload_n C 41 dL_identifier_41 rfl 0 rfl ?_
    refine z_iconst C 42 dL_identifier_42 ?_
    refine z_ishr_any C 43 dL_identifier_43 (fun zv6 hzv6 => ?_)
    refine z_bipush C 44 dL_identifier_44 (by decide +kernel) ?_
    refine z_callSi C 46 (As := [.int (zI zv6), .int (zI 8)]) (rest := []) (c_L_low l G M zv6 8 ⟨by decide, by decide⟩) (zS_of 2 C wm_L_85 wc_L_low wini_L wst_L_low ⟨by decide, by decide, by decide⟩ ⟨by decide, by decide⟩) rfl (Nat.le_of_ble_eq_true rfl) ⟨by decide, by decide⟩ dL_identifier_46 rfl (fun zq7 Mz8 hzq7 hPz7 => ?_)
    obtain ⟨rfl, hPz7⟩ := hPz7
    refine z_bipush C 49 dL_identifier_49 (by decide +kernel) ?_
    refine z_ishl C 51 (v := zq7 * 8192) dL_identifier_51 (j_shl (by omega) (by decide) (by decide) rfl) ?_
    refine z_iload_n C 52 dL_identifier_52 rfl 0 rfl ?_
    refine z_bipush C 53 dL_identifier_53 (by decide +kernel) ?_
    refine z_ishr_any C 55 dL_identifier_55 (fun zv9 hzv9 => ?_)
    refine z_iconst C 56 dL_identifier_56 ?_
    refine z_callSi C 57 (As := [.int (zI zv9), .int (zI 3)]) (rest := [.int (zI (zq7 * 8192))]) (c_L_low l G M zv9 3 ⟨by decide, by decide⟩) (zS_of 2 C wm_L_85 wc_L_low wini_L wst_L_low ⟨by decide, by decide, by decide⟩ ⟨by decide, by decide⟩) rfl (Nat.le_of_ble_eq_true rfl) ⟨by decide, by decide⟩ dL_identifier_57 rfl (fun zq10 Mz11 hzq10 hPz10 => ?_)
    obtain ⟨rfl, hPz10⟩ := hPz10
    obtain ⟨wo60, wa60, wb60, ewo60⟩ := j_or (a := (zq7 * 8192)) (b := zq10) (by omega) (by omega)
    refine z_ior C 60 (v := wo60) dL_identifier_60 ewo60 ?_
    refine z_iret C 61 dL_identifier_61 (by decide) (by decide) (by first | assumption | omega) ?_
    exact ⟨rfl, wa60, wb60⟩
  · rw [csw]
    refine z_lookup (off := 57) C 5 62 (by decide) dL_identifier_5 (by decide +kernel) (by decide +kernel) (by decide) ?_
    refine z_iload_n C 62 dL_identifier_62 rfl 0 rfl ?_
    refine z_iconst C 63 dL_identifier_63 ?_
    refine z_ishr_any C 64 dL_identifier_64 (fun zv12 hzv12 => ?_)
    refine z_iconst C 65 dL_identifier_65 ?_
    refine z_callSi C 66 (As := [.int (zI zv12), .int (zI 4)]) (rest := []) (c_L_low l G M zv12 4 ⟨by decide, by decide⟩) (zS_of 2 C wm_L_85 wc_L_low wini_L wst_L_low ⟨by decide, by decide, by decide⟩ ⟨by decide, by decide⟩) rfl (Nat.le_of_ble_eq_true rfl) ⟨by decide, by decide⟩ dL_identifier_66 rfl (fun zq13 Mz14 hzq13 hPz13 => ?_)
    obtain ⟨rfl, hPz13⟩ := hPz13
    refine z_bipush C 69 dL_identifier_69 (by decide +kernel) ?_
    refine z_ishl C 71 (v := zq13 * 16384) dL_identifier_71 (j_shl (by omega) (by decide) (by decide) rfl) ?_
    refine z_iload_n C 72 dL_identifier_72 rfl 0 rfl ?_
    refine z_iconst C 73 dL_identifier_73 ?_
    refine z_ishr_any C 74 dL_identifier_74 (fun zv15 hzv15 => ?_)
    refine z_iconst C 75 dL_identifier_75 ?_
    refine z_callSi C 76 (As := [.int (zI zv15), .int (zI 3)]) (rest := [.int (zI (zq13 * 16384))]) (c_L_low l G M zv15 3 ⟨by decide, by decide⟩) (zS_of 2 C wm_L_85 wc_L_low wini_L wst_L_low ⟨by decide, by decide, by decide⟩ ⟨by decide, by decide⟩) rfl (Nat.le_of_ble_eq_true rfl) ⟨by decide, by decide⟩ dL_identifier_76 rfl (fun zq16 Mz17 hzq16 hPz16 => ?_)
    obtain ⟨rfl, hPz16⟩ := hPz16
    refine z_bipush C 79 dL_identifier_79 (by decide +kernel) ?_
    refine z_ishl C 81 (v := zq16 * 256) dL_identifier_81 (j_shl (by omega) (by decide) (by decide) rfl) ?_
    obtain ⟨wo82, wa82, wb82, ewo82⟩ := j_or (a := (zq13 * 16384)) (b := (zq16 * 256)) (by omega) (by omega)
    refine z_ior C 82 (v := wo82) dL_identifier_82 ewo82 ?_
    refine z_iload_n C 83 dL_identifier_83 rfl 0 rfl ?_
    refine z_bipush C 84 dL_identifier_84 (by decide +kernel) ?_
    refine z_ishr_any C 86 dL_identifier_86 (fun zv18 hzv18 => ?_)
    refine z_iconst C 87 dL_identifier_87 ?_
    refine z_callSi C 88 (As := [.int (zI zv18), .int (zI 2)]) (rest := [.int (zI wo82)]) (c_L_low l G M zv18 2 ⟨by decide, by decide⟩) (zS_of 2 C wm_L_85 wc_L_low wini_L wst_L_low ⟨by decide, by decide, by decide⟩ ⟨by decide, by decide⟩) rfl (Nat.le_of_ble_eq_true rfl) ⟨by decide, by decide⟩ dL_identifier_88 rfl (fun zq19 Mz20 hzq19 hPz19 => ?_)
    obtain ⟨rfl, hPz19⟩ := hPz19
    obtain ⟨wo91, wa91, wb91, ewo91⟩ := j_or (a := wo82) (b := zq19) (by omega) (by omega)
    refine z_ior C 91 (v := wo91) dL_identifier_91 ewo91 ?_
    refine z_iret C 92 dL_identifier_92 (by decide) (by decide) (by first | assumption | omega) ?_
    exact ⟨rfl, wa91, wb91⟩
  · rw [csw]
    refine z_lookup (off := 57) C 5 62 (by decide) dL_identifier_5 (by decide +kernel) (by decide +kernel) (by decide) ?_
    refine z_iload_n C 62 dL_identifier_62 rfl 0 rfl ?_
    refine z_iconst C 63 dL_identifier_63 ?_
    refine z_ishr_any C 64 dL_identifier_64 (fun zv21 hzv21 => ?_)
    refine z_iconst C 65 dL_identifier_65 ?_
    refine z_callSi C 66 (As := [.int (zI zv21), .int (zI 4)]) (rest := []) (c_L_low l G M zv21 4 ⟨by decide, by decide⟩) (zS_of 2 C wm_L_85 wc_L_low wini_L wst_L_low ⟨by decide, by decide, by decide⟩ ⟨by decide, by decide⟩) rfl (Nat.le_of_ble_eq_true rfl) ⟨by decide, by decide⟩ dL_identifier_66 rfl (fun zq22 Mz23 hzq22 hPz22 => ?_)
    obtain ⟨rfl, hPz22⟩ := hPz22
    refine z_bipush C 69 dL_identifier_69 (by decide +kernel) ?_
    refine z_ishl C 71 (v := zq22 * 16384) dL_identifier_71 (j_shl (by omega) (by decide) (by decide) rfl) ?_
    refine z_iload_n C 72 dL_identifier_72 rfl 0 rfl ?_
    refine z_iconst C 73 dL_identifier_73 ?_
    refine z_ishr_any C 74 dL_identifier_74 (fun zv24 hzv24 => ?_)
    refine z_iconst C 75 dL_identifier_75 ?_
    refine z_callSi C 76 (As := [.int (zI zv24), .int (zI 3)]) (rest := [.int (zI (zq22 * 16384))]) (c_L_low l G M zv24 3 ⟨by decide, by decide⟩) (zS_of 2 C wm_L_85 wc_L_low wini_L wst_L_low ⟨by decide, by decide, by decide⟩ ⟨by decide, by decide⟩) rfl (Nat.le_of_ble_eq_true rfl) ⟨by decide, by decide⟩ dL_identifier_76 rfl (fun zq25 Mz26 hzq25 hPz25 => ?_)
    obtain ⟨rfl, hPz25⟩ := hPz25
    refine z_bipush C 79 dL_identifier_79 (by decide +kernel) ?_
    refine z_ishl C 81 (v := zq25 * 256) dL_identifier_81 (j_shl (by omega) (by decide) (by decide) rfl) ?_
    obtain ⟨wo82, wa82, wb82, ewo82⟩ := j_or (a := (zq22 * 16384)) (b := (zq25 * 256)) (by omega) (by omega)
    refine z_ior C 82 (v := wo82) dL_identifier_82 ewo82 ?_
    refine z_iload_n C 83 dL_identifier_83 rfl 0 rfl ?_
    refine z_bipush C 84 dL_identifier_84 (by decide +kernel) ?_
    refine z_ishr_any C 86 dL_identifier_86 (fun zv27 hzv27 => ?_)
    refine z_iconst C 87 dL_identifier_87 ?_
    refine z_callSi C 88 (As := [.int (zI zv27), .int (zI 2)]) (rest := [.int (zI wo82)]) (c_L_low l G M zv27 2 ⟨by decide, by decide⟩) (zS_of 2 C wm_L_85 wc_L_low wini_L wst_L_low ⟨by decide, by decide, by decide⟩ ⟨by decide, by decide⟩) rfl (Nat.le_of_ble_eq_true rfl) ⟨by decide, by decide⟩ dL_identifier_88 rfl (fun zq28 Mz29 hzq28 hPz28 => ?_)
    obtain ⟨rfl, hPz28⟩ := hPz28
    obtain ⟨wo91, wa91, wb91, ewo91⟩ := j_or (a := wo82) (b := zq28) (by omega) (by omega)
    refine z_ior C 91 (v := wo91) dL_identifier_91 ewo91 ?_
    refine z_iret C 92 dL_identifier_92 (by decide) (by decide) (by first | assumption | omega) ?_
    exact ⟨rfl, wa91, wb91⟩
set_option maxHeartbeats 4000000 in
set_option maxRecDepth 100000 in
theorem c_L_prefix (l : Launch) (G : zG) (M : zMem) (y z : Int) : Met l yL_prefix [.code yL_prefix cL_prefix 4 (some .int)] (zR 2 0 0) (zPc G M [.int (zI y), .int (zI z)]) (zQi G (fun x M' => M = M' ∧ ∃ v b : Int, x = 32 * v + b ∧ zvp v b)) 0 0 (zA G) := by
  refine z_met [(0, .int (zI y)), (1, .int (zI z))] (by decide) (Nat.le_of_ble_eq_true rfl) rfl ?_
  intro p e s m below meth c C
  have C : zC p s m ([.int (zI y), .int (zI z)] : List Value).toArray meth c G RL cL_prefix 4 (some .int) := C
  refine z_iload_n C 0 dL_prefix_0 rfl 1 rfl ?_
  refine z_bipush C 1 dL_prefix_1 (by decide +kernel) ?_
  refine z_iand_any C 3 dL_prefix_3 (fun zv1 hzv1 => ?_)
  have J29_2 : ∀ (w : Int), (0 ≤ w ∧ w ≤ 16) → zZ p l e (zR 2 0 0) s m ([.int (zI y), .int (zI z)] : List Value).toArray below meth c G 4 (MQ below (zQi G (fun x M' => M = M' ∧ ∃ v b : Int, x = 32 * v + b ∧ zvp v b)) ([.int (zI y), .int (zI z)] : List Value).toArray s 0 0 (zA G)) M 0 0 29 [(0, .int (zI y)), (1, .int (zI z))] [.int (zI w)] := by
    intro w hw
    refine z_istore_n (lv' := [(2, .int (zI w)), (0, .int (zI y)), (1, .int (zI z))]) C 29 dL_prefix_29 rfl (by decide) rfl ?_
    refine z_iload_n C 30 dL_prefix_30 rfl 1 rfl ?_
    refine z_callSi C 31 (As := [.int (zI y)]) (rest := []) (c_L_identifier l G M y) (zS_of 1 C wm_L_89 wc_L_identifier wini_L wst_L_identifier ⟨by decide, by decide, by decide⟩ ⟨by decide, by decide⟩) rfl (Nat.le_of_ble_eq_true rfl) ⟨by decide, by decide⟩ dL_prefix_31 rfl (fun zq3 Mz4 hzq3 hPz3 => ?_)
    obtain ⟨rfl, hPz3⟩ := hPz3
    refine z_istore_n (lv' := [(3, .int (zI zq3)), (2, .int (zI w)), (0, .int (zI y)), (1, .int (zI z))]) C 34 dL_prefix_34 rfl (by decide) rfl ?_
    refine z_bipush C 35 dL_prefix_35 (by decide +kernel) ?_
    refine z_iload_n C 37 dL_prefix_37 rfl 0 rfl ?_
    refine z_bipush C 38 dL_prefix_38 (by decide +kernel) ?_
    refine z_iload_n C 40 dL_prefix_40 rfl 1 rfl ?_
    refine z_isub C 41 dL_prefix_41 ?_
    refine z_ishr C 42 (v := zfs zq3 w) dL_prefix_42 (z_shr (by omega) (by omega) (by omega) (by omega)) ?_
    refine z_bipush C 43 dL_prefix_43 (by decide +kernel) ?_
    refine z_iload_n C 45 dL_prefix_45 rfl 1 rfl ?_
    refine z_isub C 46 dL_prefix_46 ?_
    refine z_ishl C 47 (v := zfb zq3 w) dL_prefix_47 (z_shl (by omega) (by omega) (by omega) (by omega)) ?_
    refine z_imul C 48 dL_prefix_48 ?_
    refine z_iload_n C 49 dL_prefix_49 rfl 1 rfl ?_
    refine z_iadd C 50 dL_prefix_50 ?_
    have hz9 := zfb_rg (v := zq3) (b := w) (by omega) (by omega) (by omega) (by omega)
    refine z_iret C 51 dL_prefix_51 (by decide) (by decide) (by first | assumption | omega) ?_
    exact ⟨rfl, _, _, rfl, j_vp hPz3.1 hPz3.2 hw.1 hw.2⟩
  refine z_if_ne C 4 18 dL_prefix_4 (by decide) hzv1 (fun c4_32 => ?_) (fun c4_32 => ?_)
  · refine z_iconst C 18 dL_prefix_18 ?_
    refine z_iload_n C 19 dL_prefix_19 rfl 1 rfl ?_
    refine z_iconst C 20 dL_prefix_20 ?_
    refine z_ishr_any C 21 dL_prefix_21 (fun zv5 hzv5 => ?_)
    refine z_iconst C 22 dL_prefix_22 ?_
    refine z_callSi C 23 (As := [.int (zI zv5), .int (zI 3)]) (rest := [.int (zI 2)]) (c_L_low l G M zv5 3 ⟨by decide, by decide⟩) (zS_of 2 C wm_L_85 wc_L_low wini_L wst_L_low ⟨by decide, by decide, by decide⟩ ⟨by decide, by decide⟩) rfl (Nat.le_of_ble_eq_true rfl) ⟨by decide, by decide⟩ dL_prefix_23 rfl (fun zq6 Mz7 hzq6 hPz6 => ?_)
    obtain ⟨rfl, hPz6⟩ := hPz6
    refine z_iconst C 26 dL_prefix_26 ?_
    refine z_imul C 27 dL_prefix_27 ?_
    refine z_iadd C 28 dL_prefix_28 ?_
    exact J29_2 (2 + (zq6 * 3)) (by omega)
  refine z_iload_n C 7 dL_prefix_7 rfl 1 rfl ?_
  refine z_iconst C 8 dL_prefix_8 ?_
  refine z_ishr_any C 9 dL_prefix_9 (fun zv8 hzv8 => ?_)
  refine z_bipush C 10 dL_prefix_10 (by decide +kernel) ?_
  refine z_callSi C 12 (As := [.int (zI zv8), .int (zI 17)]) (rest := []) (c_L_low l G M zv8 17 ⟨by decide, by decide⟩) (zS_of 2 C wm_L_85 wc_L_low wini_L wst_L_low ⟨by decide, by decide, by decide⟩ ⟨by decide, by decide⟩) rfl (Nat.le_of_ble_eq_true rfl) ⟨by decide, by decide⟩ dL_prefix_12 rfl (fun zq9 Mz10 hzq9 hPz9 => ?_)
  obtain ⟨rfl, hPz9⟩ := hPz9
  refine z_goto C 15 29 dL_prefix_15 (by decide) ?_
  exact J29_2 zq9 (by omega)
