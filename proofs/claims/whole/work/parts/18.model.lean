set_option maxHeartbeats 4000000 in
set_option maxRecDepth 100000 in
theorem c_X8_withdraw (l : Launch) (G : zG) (M : zMem) (hw : zWM M) (a : Int) (ha : zrg a) : Met l yX8_withdraw [.code yX8_withdraw cX8_withdraw 4 (some .int)] (zR 3 0 0) (zPc G M [.ref (zad G 26 0), .int (zI a)]) (zQi G (fun x M' => (¬ (0 ≤ a ∧ a < znn M) ∧ zthr M M' 1) ∨ ((0 ≤ a ∧ a < znn M) ∧ ¬ zng M a.toNat = 0 ∧ zthr M M' 2) ∨ ((0 ≤ a ∧ a < znn M) ∧ zng M a.toNat = 0 ∧ (∃ M1, zthr M M1 0 ∧ zmsk (zup M1 37 0 a.toNat (zI 1)) M' a.toNat 24) ∧ x = zcnt (zng M') (zV M' 26 0 4).toNat))) 0 0 (zA G) := by
  refine z_met [(0, .ref (zad G 26 0)), (1, .int (zI a))] (by decide) (Nat.le_of_ble_eq_true rfl) rfl ?_
  intro p e s m below meth c C
  have C : zC p s m ([.ref (zad G 26 0), .int (zI a)] : List Value).toArray meth c G RX8 cX8_withdraw 4 (some .int) := C
  have hw9z := hw
  obtain ⟨w1, w2, w3, w4, w5, w6, w7, w8, w9, w10, w11, w12, w13, w14⟩ := hw9z
  have hn9 : znn M = zV M 26 0 4 := rfl
  refine z_aload_n C 0 dX8_withdraw_0 rfl 0 rfl ?_
  refine z_aload_n C 1 dX8_withdraw_1 rfl 0 rfl ?_
  refine z_iload_n C 2 dX8_withdraw_2 rfl 1 rfl ?_
  refine z_callVi C 3 (As := [.int (zI a)]) (rest := [.ref (zad G 26 0)]) (c_X8_isMapping l G M a ha w1) zcl8 (show 0 < 1 by omega) (zc26 ..) (zW_of 1 C wm_8_133 wc_X8_isMapping wini_8 wi_X8_isMapping wse_X8_isMapping ⟨by decide, by decide, by decide⟩ ⟨by decide, by decide⟩) rfl (Nat.le_of_ble_eq_true rfl) ⟨by decide, by decide⟩ dX8_withdraw_3 rfl (fun zq1 Mz2 hzq1 hPz1 => ?_)
  obtain ⟨rfl, hPz1⟩ := hPz1
  refine z_if_ne C 6 13 dX8_withdraw_6 (by decide) hzq1 (fun c6_14 => ?_) (fun c6_14 => ?_)
  · have hcm := hPz1.t c6_14
    refine z_aload_n C 13 dX8_withdraw_13 rfl 0 rfl ?_
    refine z_get C 14 zcl8 (show 0 < 1 by omega) (zc26 ..) 7 (by decide) rfl wf_8_23 dX8_withdraw_14 ?_
    refine z_iload_n C 17 dX8_withdraw_17 rfl 1 rfl ?_
    refine z_zald C 18 (show 0 < 1 by omega) (zc37 ..) (by first | assumption | omega) (by omega) (show a < ((24 : Nat) : Int) by omega) dX8_withdraw_18 (fun zq3 ezq3 hzq3 => ?_)
    refine z_if_eq C 19 26 dX8_withdraw_19 (by decide) hzq3 (fun c19_21 => ?_) (fun c19_21 => ?_)
    · refine z_iconst C 26 dX8_withdraw_26 ?_
      refine z_putI C 27 zcl8 (show 0 < 1 by omega) (zc26 ..) 0 (by decide) wf_8_99 rfl rfl rfl (Nat.le_of_ble_eq_true rfl) (zc26 ..) dX8_withdraw_27 ?_
      refine z_aload_n C 30 dX8_withdraw_30 rfl 0 rfl ?_
      refine z_getI C 31 zcl8 (show 0 < 1 by omega) (zc26 ..) 0 (by decide) rfl wf_8_99 dX8_withdraw_31 (fun zq4 ezq4 hzq4 => ?_)
      rw [zV_eq (by first | assumption | decide | omega)] at ezq4
      subst ezq4
      refine z_if_le C 34 39 dX8_withdraw_34 (by decide) (by decide) (fun c34_29 => ?_) (fun c34_29 => ?_)
      rotate_left
      · exact absurd c34_29 (by decide)
      refine z_aload_n C 39 dX8_withdraw_39 rfl 0 rfl ?_
      refine z_get C 40 zcl8 (show 0 < 1 by omega) (zc26 ..) 7 (by decide) rfl wf_8_23 dX8_withdraw_40 ?_
      refine z_iload_n C 43 dX8_withdraw_43 rfl 1 rfl ?_
      refine z_iconst C 44 dX8_withdraw_44 ?_
      refine z_zast C 45 (show 0 < 1 by omega) (zc37 ..) (by first | assumption | omega) (by omega) (show a < ((24 : Nat) : Int) by omega) (by first | assumption | omega) (zc37 ..) dX8_withdraw_45 ?_
      refine z_aload_n C 46 dX8_withdraw_46 rfl 0 rfl ?_
      refine z_iload_n C 47 dX8_withdraw_47 rfl 1 rfl ?_
      refine z_callVv C 48 (As := [.int (zI a)]) (rest := []) (c_X8_solicits l G (zup (zup M 26 0 0 (zI 0)) 37 0 a.toNat (zI 1)) (zWM_ne (zWM_up0 hw) (by unfold zWMk; omega)) a (by omega)) zcl8 (show 0 < 1 by omega) (zc26 ..) (zW_of 1 C wm_8_129 wc_X8_solicits wini_8 wi_X8_solicits wse_X8_solicits ⟨by decide, by decide, by decide⟩ ⟨by decide, by decide⟩) rfl (Nat.le_of_ble_eq_true rfl) ⟨by decide, by decide⟩ dX8_withdraw_48 rfl (fun Mz6 hPz5 => ?_)
      refine z_iconst C 51 dX8_withdraw_51 ?_
      refine z_istore_n (lv' := [(2, .int (zI 0)), (0, .ref (zad G 26 0)), (1, .int (zI a))]) C 52 dX8_withdraw_52 rfl (by decide) rfl ?_
      refine z_iconst C 53 dX8_withdraw_53 ?_
      refine z_istore_n (lv' := [(3, .int (zI 0)), (2, .int (zI 0)), (0, .ref (zad G 26 0)), (1, .int (zI a))]) C 54 dX8_withdraw_54 rfl (by decide) rfl ?_
      have L55_7 : ∀ (kz7 : Nat) (n : Int) (k : Int), (0 ≤ k ∧ k ≤ zV Mz6 26 0 4) → (n = zcnt (zng Mz6) k.toNat) → (zV Mz6 26 0 4 - k) < (kz7 : Int) → zZ p l e (zR 3 0 0) s m ([.ref (zad G 26 0), .int (zI a)] : List Value).toArray below meth c G 4 (MQ below (zQi G (fun x M' => (¬ (0 ≤ a ∧ a < znn M) ∧ zthr M M' 1) ∨ ((0 ≤ a ∧ a < znn M) ∧ ¬ zng M a.toNat = 0 ∧ zthr M M' 2) ∨ ((0 ≤ a ∧ a < znn M) ∧ zng M a.toNat = 0 ∧ (∃ M1, zthr M M1 0 ∧ zmsk (zup M1 37 0 a.toNat (zI 1)) M' a.toNat 24) ∧ x = zcnt (zng M') (zV M' 26 0 4).toNat))) ([.ref (zad G 26 0), .int (zI a)] : List Value).toArray s 0 0 (zA G)) Mz6 0 0 55 [(0, .ref (zad G 26 0)), (1, .int (zI a)), (2, .int (zI n)), (3, .int (zI k))] [] := by
        intro kz7
        induction kz7 with
        | zero =>
          intro n k g0 g1 hk
          exact absurd hk (by omega)
        | succ kz7 ihz8 =>
          intro n k g0 g1 hk
          have hnn9 : zV Mz6 26 0 4 = zV M 26 0 4 := by rw [zV_of (hPz5.2.2.2 26 0 4 (by decide) (by omega)), zV_ne (by decide), zV_nj (by decide)]
          have hr9 := zcnt_rg (zng Mz6) k.toNat
          refine z_iload_n C 55 dX8_withdraw_55 rfl 3 rfl ?_
          refine z_aload_n C 56 dX8_withdraw_56 rfl 0 rfl ?_
          refine z_getI C 57 zcl8 (show 0 < 1 by omega) (zc26 ..) 4 (by decide) rfl wf_8_115 dX8_withdraw_57 (fun zq9 ezq9 hzq9 => ?_)
          refine z_icmp_ge C 60 86 dX8_withdraw_60 (by decide) (by first | assumption | omega) hzq9 (fun c60_57 => ?_) (fun c60_57 => ?_)
          · refine z_iload_n C 86 dX8_withdraw_86 rfl 2 rfl ?_
            refine z_iret C 87 dX8_withdraw_87 (by decide) (by decide) (by omega) ?_
            refine Or.inr (Or.inr ⟨hcm, by show zV M 37 0 a.toNat = 0; omega, ⟨_, zthr_1 _ (by decide), hPz5⟩, ?_⟩)
            rw [g1]
            congr 1
            omega
          refine z_iload_n C 63 dX8_withdraw_63 rfl 2 rfl ?_
          refine z_aload_n C 64 dX8_withdraw_64 rfl 0 rfl ?_
          refine z_get C 65 zcl8 (show 0 < 1 by omega) (zc26 ..) 7 (by decide) rfl wf_8_23 dX8_withdraw_65 ?_
          refine z_iload_n C 68 dX8_withdraw_68 rfl 3 rfl ?_
          refine z_zald C 69 (show 0 < 1 by omega) (zc37 ..) (by first | assumption | omega) (by omega) (show k < ((24 : Nat) : Int) by omega) dX8_withdraw_69 (fun zq10 ezq10 hzq10 => ?_)
          refine z_if_eq C 70 77 dX8_withdraw_70 (by decide) hzq10 (fun c70_69 => ?_) (fun c70_69 => ?_)
          · refine z_iconst C 77 dX8_withdraw_77 ?_
            refine z_iadd C 78 dX8_withdraw_78 ?_
            refine z_istore_n (lv' := [(2, .int (zI (n + 1))), (0, .ref (zad G 26 0)), (1, .int (zI a)), (3, .int (zI k))]) C 79 dX8_withdraw_79 rfl (by decide) rfl ?_
            refine z_iinc (lv' := [(3, .int (zI (k + 1))), (2, .int (zI (n + 1))), (0, .ref (zad G 26 0)), (1, .int (zI a))]) C 80 dX8_withdraw_80 3 rfl (by decide) rfl ?_
            refine z_goto C 83 55 dX8_withdraw_83 (by decide) ?_
            refine z_sub (lv' := [(0, .ref (zad G 26 0)), (1, .int (zI a)), (2, .int (zI (n + 1))), (3, .int (zI (k + 1)))]) [2, 3, 1, 0] rfl ?_
            exact ihz8 (n + 1) (k + 1) (by omega) (by rw [zcnt_s (g := zng Mz6) (x := zq10) (by omega) ezq10]; first | (rw [if_pos (by omega)]; omega) | (rw [if_neg (by omega)]; omega)) (by omega)
          refine z_iconst C 73 dX8_withdraw_73 ?_
          refine z_goto C 74 78 dX8_withdraw_74 (by decide) ?_
          refine z_iadd C 78 dX8_withdraw_78 ?_
          refine z_istore_n (lv' := [(2, .int (zI (n + 0))), (0, .ref (zad G 26 0)), (1, .int (zI a)), (3, .int (zI k))]) C 79 dX8_withdraw_79 rfl (by decide) rfl ?_
          refine z_iinc (lv' := [(3, .int (zI (k + 1))), (2, .int (zI (n + 0))), (0, .ref (zad G 26 0)), (1, .int (zI a))]) C 80 dX8_withdraw_80 3 rfl (by decide) rfl ?_
          refine z_goto C 83 55 dX8_withdraw_83 (by decide) ?_
          refine z_sub (lv' := [(0, .ref (zad G 26 0)), (1, .int (zI a)), (2, .int (zI (n + 0))), (3, .int (zI (k + 1)))]) [2, 3, 1, 0] rfl ?_
          exact ihz8 (n + 0) (k + 1) (by omega) (by rw [zcnt_s (g := zng Mz6) (x := zq10) (by omega) ezq10]; first | (rw [if_pos (by omega)]; omega) | (rw [if_neg (by omega)]; omega)) (by omega)
      refine z_sub (lv' := [(0, .ref (zad G 26 0)), (1, .int (zI a)), (2, .int (zI 0)), (3, .int (zI 0))]) [2, 3, 1, 0] rfl ?_
      have hnn9 : zV Mz6 26 0 4 = zV M 26 0 4 := by rw [zV_of (hPz5.2.2.2 26 0 4 (by decide) (by omega)), zV_ne (by decide), zV_nj (by decide)]
      exact L55_7 (((zV Mz6 26 0 4 - 0 : Int)).toNat + 1) 0 0 (by omega) (by rfl) (by omega)
    refine z_iconst C 22 dX8_withdraw_22 ?_
    refine z_goto C 23 27 dX8_withdraw_23 (by decide) ?_
    refine z_putI C 27 zcl8 (show 0 < 1 by omega) (zc26 ..) 0 (by decide) wf_8_99 rfl rfl rfl (Nat.le_of_ble_eq_true rfl) (zc26 ..) dX8_withdraw_27 ?_
    refine z_aload_n C 30 dX8_withdraw_30 rfl 0 rfl ?_
    refine z_getI C 31 zcl8 (show 0 < 1 by omega) (zc26 ..) 0 (by decide) rfl wf_8_99 dX8_withdraw_31 (fun zq11 ezq11 hzq11 => ?_)
    rw [zV_eq (by first | assumption | decide | omega)] at ezq11
    subst ezq11
    refine z_if_le C 34 39 dX8_withdraw_34 (by decide) (by decide) (fun c34_94 => ?_) (fun c34_94 => ?_)
    · exact absurd c34_94 (by decide)
    refine z_iconst C 37 dX8_withdraw_37 ?_
    refine z_iret C 38 dX8_withdraw_38 (by decide) (by decide) (by decide) ?_
    first | exact Or.inl ⟨hPz1.f (by assumption), zthr_1 _ (by decide)⟩ | exact Or.inr (Or.inl ⟨hcm, by show ¬ zV M 37 0 a.toNat = 0; omega, zthr_1 _ (by decide)⟩)
  refine z_iconst C 9 dX8_withdraw_9 ?_
  refine z_goto C 10 27 dX8_withdraw_10 (by decide) ?_
  refine z_putI C 27 zcl8 (show 0 < 1 by omega) (zc26 ..) 0 (by decide) wf_8_99 rfl rfl rfl (Nat.le_of_ble_eq_true rfl) (zc26 ..) dX8_withdraw_27 ?_
  refine z_aload_n C 30 dX8_withdraw_30 rfl 0 rfl ?_
  refine z_getI C 31 zcl8 (show 0 < 1 by omega) (zc26 ..) 0 (by decide) rfl wf_8_99 dX8_withdraw_31 (fun zq12 ezq12 hzq12 => ?_)
  rw [zV_eq (by first | assumption | decide | omega)] at ezq12
  subst ezq12
  refine z_if_le C 34 39 dX8_withdraw_34 (by decide) (by decide) (fun c34_105 => ?_) (fun c34_105 => ?_)
  · exact absurd c34_105 (by decide)
  refine z_iconst C 37 dX8_withdraw_37 ?_
  refine z_iret C 38 dX8_withdraw_38 (by decide) (by decide) (by decide) ?_
  first | exact Or.inl ⟨hPz1.f (by assumption), zthr_1 _ (by decide)⟩ | exact Or.inr (Or.inl ⟨hcm, by show ¬ zV M 37 0 a.toNat = 0; omega, zthr_1 _ (by decide)⟩)
set_option maxHeartbeats 4000000 in
set_option maxRecDepth 100000 in
theorem c_X8_mappingFor (l : Launch) (G : zG) (M : zMem) (hw : zWM M) (id : Int) (hid : 0 ≤ id ∧ id < 65536) : Met l yX8_mappingFor [.code yX8_mappingFor cX8_mappingFor 5 (some .int)] (zR 2 0 0) (zPc G M [.ref (zad G 26 0), .int (zI id)]) (zQi G (fun x M' => M = M' ∧ zfnd (znv M) (znl M) (zng M) (znn M) id x)) 0 0 (zA G) := by
  refine z_met [(0, .ref (zad G 26 0)), (1, .int (zI id))] (by decide) (Nat.le_of_ble_eq_true rfl) rfl ?_
  intro p e s m below meth c C
  have C : zC p s m ([.ref (zad G 26 0), .int (zI id)] : List Value).toArray meth c G RX8 cX8_mappingFor 5 (some .int) := C
  have hw9z := hw
  obtain ⟨w1, w2, w3, w4, w5, w6, w7, w8, w9, w10, w11, w12, w13, w14⟩ := hw9z
  refine z_iconst C 0 dX8_mappingFor_0 ?_
  refine z_istore_n (lv' := [(2, .int (zI (-1))), (0, .ref (zad G 26 0)), (1, .int (zI id))]) C 1 dX8_mappingFor_1 rfl (by decide) rfl ?_
  refine z_iconst C 2 dX8_mappingFor_2 ?_
  refine z_istore_n (lv' := [(3, .int (zI 0)), (2, .int (zI (-1))), (0, .ref (zad G 26 0)), (1, .int (zI id))]) C 3 dX8_mappingFor_3 rfl (by decide) rfl ?_
  have L4_1 : ∀ (kz1 : Nat) (f : Int) (k : Int) (bl : Int), (0 ≤ k ∧ k ≤ zV M 26 0 4) → (zfndk (znv M) (znl M) (zng M) (znn M) id k f bl) → ((f = -1 ∧ bl = -1) ∨ (0 ≤ f ∧ f < 24 ∧ bl = zV M 36 0 f.toNat)) → (zV M 26 0 4 - k) < (kz1 : Int) → zZ p l e (zR 2 0 0) s m ([.ref (zad G 26 0), .int (zI id)] : List Value).toArray below meth c G 5 (MQ below (zQi G (fun x M' => M = M' ∧ zfnd (znv M) (znl M) (zng M) (znn M) id x)) ([.ref (zad G 26 0), .int (zI id)] : List Value).toArray s 0 0 (zA G)) M 0 0 4 [(0, .ref (zad G 26 0)), (1, .int (zI id)), (2, .int (zI f)), (3, .int (zI k))] [] := by
    intro kz1
    induction kz1 with
    | zero =>
      intro f k bl g0 g1 g2 hk
      exact absurd hk (by omega)
    | succ kz1 ihz2 =>
      intro f k bl g0 g1 g2 hk
      have hpk := w2 k.toNat
      refine z_iload_n C 4 dX8_mappingFor_4 rfl 3 rfl ?_
      refine z_aload_n C 5 dX8_mappingFor_5 rfl 0 rfl ?_
      refine z_getI C 6 zcl8 (show 0 < 1 by omega) (zc26 ..) 4 (by decide) rfl wf_8_115 dX8_mappingFor_6 (fun zq3 ezq3 hzq3 => ?_)
      refine z_icmp_ge C 9 84 dX8_mappingFor_9 (by decide) (by first | assumption | omega) hzq3 (fun c9_24 => ?_) (fun c9_24 => ?_)
      · refine z_iload_n C 84 dX8_mappingFor_84 rfl 2 rfl ?_
        refine z_iret C 85 dX8_mappingFor_85 (by decide) (by decide) (by first | assumption | omega) ?_
        exact ⟨rfl, zfnd_end g1 (by show zV M 26 0 4 ≤ k; omega)⟩
      refine z_aload_n C 12 dX8_mappingFor_12 rfl 0 rfl ?_
      refine z_get C 13 zcl8 (show 0 < 1 by omega) (zc26 ..) 7 (by decide) rfl wf_8_23 dX8_mappingFor_13 ?_
      refine z_iload_n C 16 dX8_mappingFor_16 rfl 3 rfl ?_
      refine z_zald C 17 (show 0 < 1 by omega) (zc37 ..) (by first | assumption | omega) (by omega) (show k < ((24 : Nat) : Int) by omega) dX8_mappingFor_17 (fun zq4 ezq4 hzq4 => ?_)
      refine z_if_ne C 18 44 dX8_mappingFor_18 (by decide) hzq4 (fun c18_32 => ?_) (fun c18_32 => ?_)
      · have hS : zcov (znv M) (znl M) (zng M) (znn M) id k.toNat → znl M k.toNat ≤ bl := fun z => absurd z.2.1 (by show ¬ zV M 37 0 k.toNat = 0; omega)
        refine z_iconst C 44 dX8_mappingFor_44 ?_
        refine z_istore (lv' := [(4, .int (zI 0)), (0, .ref (zad G 26 0)), (1, .int (zI id)), (2, .int (zI f)), (3, .int (zI k))]) C 45 dX8_mappingFor_45 (by decide) rfl ?_
        refine z_iload C 47 dX8_mappingFor_47 0 rfl ?_
        refine z_if_eq C 49 76 dX8_mappingFor_49 (by decide) (by decide) (fun c49_38 => ?_) (fun c49_38 => ?_)
        rotate_left
        · exact absurd c49_38 (by decide)
        refine z_iload_n C 76 dX8_mappingFor_76 rfl 3 rfl ?_
        refine z_istore_n (lv' := [(2, .int (zI f)), (4, .int (zI 0)), (0, .ref (zad G 26 0)), (1, .int (zI id)), (3, .int (zI k))]) C 77 dX8_mappingFor_77 rfl (by decide) rfl ?_
        refine z_iinc (lv' := [(3, .int (zI (k + 1))), (2, .int (zI f)), (4, .int (zI 0)), (0, .ref (zad G 26 0)), (1, .int (zI id))]) C 78 dX8_mappingFor_78 4 rfl (by decide) rfl ?_
        refine z_goto C 81 4 dX8_mappingFor_81 (by decide) ?_
        refine z_sub (lv' := [(0, .ref (zad G 26 0)), (1, .int (zI id)), (2, .int (zI f)), (3, .int (zI (k + 1)))]) [3, 4, 1, 0] rfl ?_
        exact ihz2 f (k + 1) bl (by omega) (by exact zfnd_skip g1 (by omega) (zWM_l hw) hS) (by exact g2) (by omega)
      refine z_aload_n C 21 dX8_mappingFor_21 rfl 0 rfl ?_
      refine z_get C 22 zcl8 (show 0 < 1 by omega) (zc26 ..) 5 (by decide) rfl wf_8_16 dX8_mappingFor_22 ?_
      refine z_iload_n C 25 dX8_mappingFor_25 rfl 3 rfl ?_
      refine z_iald C 26 (show 0 < 1 by omega) (zc35 ..) (by first | assumption | omega) (by omega) (show k < ((24 : Nat) : Int) by omega) dX8_mappingFor_26 (fun zq5 ezq5 hzq5 => ?_)
      refine z_aload_n C 27 dX8_mappingFor_27 rfl 0 rfl ?_
      refine z_get C 28 zcl8 (show 0 < 1 by omega) (zc26 ..) 6 (by decide) rfl wf_8_20 dX8_mappingFor_28 ?_
      refine z_iload_n C 31 dX8_mappingFor_31 rfl 3 rfl ?_
      refine z_iald C 32 (show 0 < 1 by omega) (zc36 ..) (by first | assumption | omega) (by omega) (show k < ((24 : Nat) : Int) by omega) dX8_mappingFor_32 (fun zq6 ezq6 hzq6 => ?_)
      refine z_iload_n C 33 dX8_mappingFor_33 rfl 1 rfl ?_
      refine z_callSi C 34 (As := [.int (zI zq5), .int (zI zq6), .int (zI id)]) (rest := []) (c_X8_covers l G M zq5 zq6 id (by rw [ezq5, ezq6]; exact w2 _ (by omega)) hid) (zS_of 3 C wm_8_146 wc_X8_covers wini_8 wst_X8_covers ⟨by decide, by decide, by decide⟩ ⟨by decide, by decide⟩) rfl (Nat.le_of_ble_eq_true rfl) ⟨by decide, by decide⟩ dX8_mappingFor_34 rfl (fun zq7 Mz8 hzq7 hPz7 => ?_)
      obtain ⟨rfl, hPz7⟩ := hPz7
      refine z_if_eq C 37 44 dX8_mappingFor_37 (by decide) hzq7 (fun c37_57 => ?_) (fun c37_57 => ?_)
      · have hS : zcov (znv M) (znl M) (zng M) (znn M) id k.toNat → znl M k.toNat ≤ bl := fun z => absurd z.2.2 (by have z1 := hPz7.f c37_57; rw [ezq5, ezq6] at z1; exact z1)
        refine z_iconst C 44 dX8_mappingFor_44 ?_
        refine z_istore (lv' := [(4, .int (zI 0)), (0, .ref (zad G 26 0)), (1, .int (zI id)), (2, .int (zI f)), (3, .int (zI k))]) C 45 dX8_mappingFor_45 (by decide) rfl ?_
        refine z_iload C 47 dX8_mappingFor_47 0 rfl ?_
        refine z_if_eq C 49 76 dX8_mappingFor_49 (by decide) (by decide) (fun c49_63 => ?_) (fun c49_63 => ?_)
        rotate_left
        · exact absurd c49_63 (by decide)
        refine z_iload_n C 76 dX8_mappingFor_76 rfl 3 rfl ?_
        refine z_istore_n (lv' := [(2, .int (zI f)), (4, .int (zI 0)), (0, .ref (zad G 26 0)), (1, .int (zI id)), (3, .int (zI k))]) C 77 dX8_mappingFor_77 rfl (by decide) rfl ?_
        refine z_iinc (lv' := [(3, .int (zI (k + 1))), (2, .int (zI f)), (4, .int (zI 0)), (0, .ref (zad G 26 0)), (1, .int (zI id))]) C 78 dX8_mappingFor_78 4 rfl (by decide) rfl ?_
        refine z_goto C 81 4 dX8_mappingFor_81 (by decide) ?_
        refine z_sub (lv' := [(0, .ref (zad G 26 0)), (1, .int (zI id)), (2, .int (zI f)), (3, .int (zI (k + 1)))]) [3, 4, 1, 0] rfl ?_
        exact ihz2 f (k + 1) bl (by omega) (by exact zfnd_skip g1 (by omega) (zWM_l hw) hS) (by exact g2) (by omega)
      have hT : zcov (znv M) (znl M) (zng M) (znn M) id k.toNat := ⟨by show (k.toNat : Int) < zV M 26 0 4; omega, by show zV M 37 0 k.toNat = 0; omega, by have z1 := hPz7.t c37_57; rw [ezq5, ezq6] at z1; exact z1⟩
      refine z_iconst C 40 dX8_mappingFor_40 ?_
      refine z_goto C 41 45 dX8_mappingFor_41 (by decide) ?_
      refine z_istore (lv' := [(4, .int (zI 1)), (0, .ref (zad G 26 0)), (1, .int (zI id)), (2, .int (zI f)), (3, .int (zI k))]) C 45 dX8_mappingFor_45 (by decide) rfl ?_
      refine z_iload C 47 dX8_mappingFor_47 0 rfl ?_
      refine z_if_eq C 49 76 dX8_mappingFor_49 (by decide) (by decide) (fun c49_76 => ?_) (fun c49_76 => ?_)
      · exact absurd c49_76 (by decide)
      refine z_iload_n C 52 dX8_mappingFor_52 rfl 3 rfl ?_
      refine z_iconst C 53 dX8_mappingFor_53 ?_
      refine z_icmp_eq C 54 72 dX8_mappingFor_54 (by decide) (by first | assumption | omega) (by decide) (fun c54_80 => ?_) (fun c54_80 => ?_)
      · refine z_iload_n C 72 dX8_mappingFor_72 rfl 4 rfl ?_
        refine z_goto C 73 77 dX8_mappingFor_73 (by decide) ?_
        refine z_istore_n (lv' := [(2, .int (zI k)), (4, .int (zI 1)), (0, .ref (zad G 26 0)), (1, .int (zI id)), (3, .int (zI k))]) C 77 dX8_mappingFor_77 rfl (by decide) rfl ?_
        refine z_iinc (lv' := [(3, .int (zI (k + 1))), (2, .int (zI k)), (4, .int (zI 1)), (0, .ref (zad G 26 0)), (1, .int (zI id))]) C 78 dX8_mappingFor_78 4 rfl (by decide) rfl ?_
        refine z_goto C 81 4 dX8_mappingFor_81 (by decide) ?_
        refine z_sub (lv' := [(0, .ref (zad G 26 0)), (1, .int (zI id)), (2, .int (zI k)), (3, .int (zI (k + 1)))]) [3, 4, 1, 0] rfl ?_
        exact ihz2 k (k + 1) (znl M k.toNat) (by omega) (by exact zfnd_take g1 (by omega) hT (by have hpk9 := hpk (by omega); unfold zpfx at hpk9; show bl < zV M 36 0 k.toNat; omega)) (by exact Or.inr ⟨by omega, by omega, rfl⟩) (by omega)
      refine z_aload_n C 57 dX8_mappingFor_57 rfl 1 rfl ?_
      refine z_get C 58 zcl8 (show 0 < 1 by omega) (zc26 ..) 6 (by decide) rfl wf_8_20 dX8_mappingFor_58 ?_
      refine z_iload_n C 61 dX8_mappingFor_61 rfl 4 rfl ?_
      refine z_iald C 62 (show 0 < 1 by omega) (zc36 ..) (by first | assumption | omega) (by omega) (show k < ((24 : Nat) : Int) by omega) dX8_mappingFor_62 (fun zq9 ezq9 hzq9 => ?_)
      refine z_aload_n C 63 dX8_mappingFor_63 rfl 1 rfl ?_
      refine z_get C 64 zcl8 (show 0 < 1 by omega) (zc26 ..) 6 (by decide) rfl wf_8_20 dX8_mappingFor_64 ?_
      refine z_iload_n C 67 dX8_mappingFor_67 rfl 3 rfl ?_
      refine z_iald C 68 (show 0 < 1 by omega) (zc36 ..) (by first | assumption | omega) (by omega) (show f < ((24 : Nat) : Int) by omega) dX8_mappingFor_68 (fun zq10 ezq10 hzq10 => ?_)
      refine z_icmp_le C 69 76 dX8_mappingFor_69 (by decide) hzq9 hzq10 (fun c69_96 => ?_) (fun c69_96 => ?_)
      · have hS : zcov (znv M) (znl M) (zng M) (znn M) id k.toNat → znl M k.toNat ≤ bl := fun z => by show zV M 36 0 k.toNat ≤ bl; omega
        refine z_iload_n C 76 dX8_mappingFor_76 rfl 3 rfl ?_
        refine z_istore_n (lv' := [(2, .int (zI f)), (4, .int (zI 1)), (0, .ref (zad G 26 0)), (1, .int (zI id)), (3, .int (zI k))]) C 77 dX8_mappingFor_77 rfl (by decide) rfl ?_
        refine z_iinc (lv' := [(3, .int (zI (k + 1))), (2, .int (zI f)), (4, .int (zI 1)), (0, .ref (zad G 26 0)), (1, .int (zI id))]) C 78 dX8_mappingFor_78 4 rfl (by decide) rfl ?_
        refine z_goto C 81 4 dX8_mappingFor_81 (by decide) ?_
        refine z_sub (lv' := [(0, .ref (zad G 26 0)), (1, .int (zI id)), (2, .int (zI f)), (3, .int (zI (k + 1)))]) [3, 4, 1, 0] rfl ?_
        exact ihz2 f (k + 1) bl (by omega) (by exact zfnd_skip g1 (by omega) (zWM_l hw) hS) (by exact g2) (by omega)
      refine z_iload_n C 72 dX8_mappingFor_72 rfl 4 rfl ?_
      refine z_goto C 73 77 dX8_mappingFor_73 (by decide) ?_
      refine z_istore_n (lv' := [(2, .int (zI k)), (4, .int (zI 1)), (0, .ref (zad G 26 0)), (1, .int (zI id)), (3, .int (zI k))]) C 77 dX8_mappingFor_77 rfl (by decide) rfl ?_
      refine z_iinc (lv' := [(3, .int (zI (k + 1))), (2, .int (zI k)), (4, .int (zI 1)), (0, .ref (zad G 26 0)), (1, .int (zI id))]) C 78 dX8_mappingFor_78 4 rfl (by decide) rfl ?_
      refine z_goto C 81 4 dX8_mappingFor_81 (by decide) ?_
      refine z_sub (lv' := [(0, .ref (zad G 26 0)), (1, .int (zI id)), (2, .int (zI k)), (3, .int (zI (k + 1)))]) [3, 4, 1, 0] rfl ?_
      exact ihz2 k (k + 1) (znl M k.toNat) (by omega) (by exact zfnd_take g1 (by omega) hT (by have hpk9 := hpk (by omega); unfold zpfx at hpk9; show bl < zV M 36 0 k.toNat; omega)) (by exact Or.inr ⟨by omega, by omega, rfl⟩) (by omega)
  refine z_sub (lv' := [(0, .ref (zad G 26 0)), (1, .int (zI id)), (2, .int (zI (-1))), (3, .int (zI 0))]) [2, 3, 1, 0] rfl ?_
  exact L4_1 (((zV M 26 0 4 - 0 : Int)).toNat + 1) (-1) 0 (-1) (by omega) (by exact zfnd_0 _ _ _ _ _) (by omega) (by omega)
set_option maxHeartbeats 4000000 in
set_option maxRecDepth 100000 in
theorem c_X8_mappingOf (l : Launch) (G : zG) (M : zMem) (hw : zWM M) (id : Int) (hid : zrg id) : Met l yX8_mappingOf [.code yX8_mappingOf cX8_mappingOf 2 (some .int)] (zR 3 0 0) (zPc G M [.ref (zad G 26 0), .int (zI id)]) (zQi G (fun x M' => (¬ (0 ≤ id ∧ id < 65536) ∧ zthr M M' 1) ∨ ((0 ≤ id ∧ id < 65536) ∧ zthr M M' 0 ∧ zfnd (znv M') (znl M') (zng M') (znn M') id x))) 0 0 (zA G) := by
  refine z_met [(0, .ref (zad G 26 0)), (1, .int (zI id))] (by decide) (Nat.le_of_ble_eq_true rfl) rfl ?_
  intro p e s m below meth c C
  have C : zC p s m ([.ref (zad G 26 0), .int (zI id)] : List Value).toArray meth c G RX8 cX8_mappingOf 2 (some .int) := C
  refine z_aload_n C 0 dX8_mappingOf_0 rfl 0 rfl ?_
  refine z_iload_n C 1 dX8_mappingOf_1 rfl 1 rfl ?_
  refine z_callSi C 2 (As := [.int (zI id)]) (rest := [.ref (zad G 26 0)]) (c_X8_isIdentifier l G M id hid) (zS_of 1 C wm_8_107 wc_X8_isIdentifier wini_8 wst_X8_isIdentifier ⟨by decide, by decide, by decide⟩ ⟨by decide, by decide⟩) rfl (Nat.le_of_ble_eq_true rfl) ⟨by decide, by decide⟩ dX8_mappingOf_2 rfl (fun zq1 Mz2 hzq1 hPz1 => ?_)
  obtain ⟨rfl, hPz1⟩ := hPz1
  refine z_if_eq C 5 12 dX8_mappingOf_5 (by decide) hzq1 (fun c5_10 => ?_) (fun c5_10 => ?_)
  · refine z_iconst C 12 dX8_mappingOf_12 ?_
    refine z_putI C 13 zcl8 (show 0 < 1 by omega) (zc26 ..) 0 (by decide) wf_8_99 rfl rfl rfl (Nat.le_of_ble_eq_true rfl) (zc26 ..) dX8_mappingOf_13 ?_
    refine z_aload_n C 16 dX8_mappingOf_16 rfl 0 rfl ?_
    refine z_getI C 17 zcl8 (show 0 < 1 by omega) (zc26 ..) 0 (by decide) rfl wf_8_99 dX8_mappingOf_17 (fun zq3 ezq3 hzq3 => ?_)
    rw [zV_eq (by first | assumption | decide | omega)] at ezq3
    subst ezq3
    refine z_if_le C 20 27 dX8_mappingOf_20 (by decide) (by decide) (fun c20_18 => ?_) (fun c20_18 => ?_)
    · exact absurd c20_18 (by decide)
    refine z_iconst C 23 dX8_mappingOf_23 ?_
    refine z_goto C 24 32 dX8_mappingOf_24 (by decide) ?_
    refine z_iret C 32 dX8_mappingOf_32 (by decide) (by decide) (by decide) ?_
    exact Or.inl ⟨hPz1.f (by assumption), zthr_1 _ (by decide)⟩
  refine z_iconst C 8 dX8_mappingOf_8 ?_
  refine z_goto C 9 13 dX8_mappingOf_9 (by decide) ?_
  refine z_putI C 13 zcl8 (show 0 < 1 by omega) (zc26 ..) 0 (by decide) wf_8_99 rfl rfl rfl (Nat.le_of_ble_eq_true rfl) (zc26 ..) dX8_mappingOf_13 ?_
  refine z_aload_n C 16 dX8_mappingOf_16 rfl 0 rfl ?_
  refine z_getI C 17 zcl8 (show 0 < 1 by omega) (zc26 ..) 0 (by decide) rfl wf_8_99 dX8_mappingOf_17 (fun zq4 ezq4 hzq4 => ?_)
  rw [zV_eq (by first | assumption | decide | omega)] at ezq4
  subst ezq4
  refine z_if_le C 20 27 dX8_mappingOf_20 (by decide) (by decide) (fun c20_30 => ?_) (fun c20_30 => ?_)
  rotate_left
  · exact absurd c20_30 (by decide)
  refine z_aload_n C 27 dX8_mappingOf_27 rfl 0 rfl ?_
  refine z_iload_n C 28 dX8_mappingOf_28 rfl 1 rfl ?_
  refine z_callVi C 29 (As := [.int (zI id)]) (rest := []) (c_X8_mappingFor l G (zup M 26 0 0 (zI 0)) (zWM_up0 hw) id (hPz1.t (by assumption))) zcl8 (show 0 < 1 by omega) (zc26 ..) (zW_of 1 C wm_8_149 wc_X8_mappingFor wini_8 wi_X8_mappingFor wse_X8_mappingFor ⟨by decide, by decide, by decide⟩ ⟨by decide, by decide⟩) rfl (Nat.le_of_ble_eq_true rfl) ⟨by decide, by decide⟩ dX8_mappingOf_29 rfl (fun zq5 Mz6 hzq5 hPz5 => ?_)
  obtain ⟨rfl, hPz5⟩ := hPz5
  refine z_iret C 32 dX8_mappingOf_32 (by decide) (by decide) hzq5 ?_
  exact Or.inr ⟨hPz1.t (by assumption), zthr_1 _ (by decide), hPz5⟩
set_option maxHeartbeats 4000000 in
set_option maxRecDepth 100000 in
theorem c_X8_isHiding (l : Launch) (G : zG) (M : zMem) (hw : zWM M) (id L a : Int) (hid : zpfx id L) (ha : -1 ≤ a ∧ a < 24) : Met l yX8_isHiding [.code yX8_isHiding cX8_isHiding 7 (some .boolean)] (zR 2 0 0) (zPc G M [.ref (zad G 26 0), .int (zI id), .int (zI L), .int (zI a)]) (zQi G (fun x M' => M = M' ∧ zb x (znh M id L a))) 0 0 (zA G) := by
  refine z_met [(0, .ref (zad G 26 0)), (1, .int (zI id)), (2, .int (zI L)), (3, .int (zI a))] (by decide) (Nat.le_of_ble_eq_true rfl) rfl ?_
  intro p e s m below meth c C
  have C : zC p s m ([.ref (zad G 26 0), .int (zI id), .int (zI L), .int (zI a)] : List Value).toArray meth c G RX8 cX8_isHiding 7 (some .boolean) := C
  have hw9z := hw
  obtain ⟨w1, w2, w3, w4, w5, w6, w7, w8, w9, w10, w11, w12, w13, w14⟩ := hw9z
  refine z_iconst C 0 dX8_isHiding_0 ?_
  refine z_istore (lv' := [(4, .int (zI 0)), (0, .ref (zad G 26 0)), (1, .int (zI id)), (2, .int (zI L)), (3, .int (zI a))]) C 1 dX8_isHiding_1 (by decide) rfl ?_
  refine z_iconst C 3 dX8_isHiding_3 ?_
  refine z_istore (lv' := [(5, .int (zI 0)), (4, .int (zI 0)), (0, .ref (zad G 26 0)), (1, .int (zI id)), (2, .int (zI L)), (3, .int (zI a))]) C 4 dX8_isHiding_4 (by decide) rfl ?_
  have L6_1 : ∀ (kz1 : Nat) (y : Int) (k : Int), (0 ≤ k ∧ k ≤ zV M 26 0 4) → (y = 0 ∨ y = 1) → (y = 1 ↔ ∃ i : Nat, (i : Int) < k ∧ zhc M id L a i) → (zV M 26 0 4 - k) < (kz1 : Int) → zZ p l e (zR 2 0 0) s m ([.ref (zad G 26 0), .int (zI id), .int (zI L), .int (zI a)] : List Value).toArray below meth c G 7 (MQ below (zQi G (fun x M' => M = M' ∧ zb x (znh M id L a))) ([.ref (zad G 26 0), .int (zI id), .int (zI L), .int (zI a)] : List Value).toArray s 0 0 (zA G)) M 0 0 6 [(0, .ref (zad G 26 0)), (1, .int (zI id)), (2, .int (zI L)), (3, .int (zI a)), (4, .int (zI y)), (5, .int (zI k))] [] := by
    intro kz1
    induction kz1 with
    | zero =>
      intro y k g0 g2 g1 hk
      exact absurd hk (by omega)
    | succ kz1 ihz2 =>
      intro y k g0 g2 g1 hk
      refine z_iload C 6 dX8_isHiding_6 5 rfl ?_
      refine z_aload_n C 8 dX8_isHiding_8 rfl 0 rfl ?_
      refine z_getI C 9 zcl8 (show 0 < 1 by omega) (zc26 ..) 4 (by decide) rfl wf_8_115 dX8_isHiding_9 (fun zq3 ezq3 hzq3 => ?_)
      refine z_icmp_ge C 12 129 dX8_isHiding_12 (by decide) (by first | assumption | omega) hzq3 (fun c12_23 => ?_) (fun c12_23 => ?_)
      · refine z_iload C 129 dX8_isHiding_129 4 rfl ?_
        refine z_zret C 131 dX8_isHiding_131 (by decide) (by decide) (by first | assumption | omega) ?_
        have hn9 : znn M = zV M 26 0 4 := rfl
        refine ⟨rfl, g2, g1.trans ⟨fun z => ?_, fun z => ?_⟩⟩
        · obtain ⟨i, z1, z2⟩ := z
          exact ⟨i, by omega, z2⟩
        · obtain ⟨i, z1, z2⟩ := z
          exact ⟨i, by omega, z2⟩
      refine z_aload_n C 15 dX8_isHiding_15 rfl 0 rfl ?_
      refine z_get C 16 zcl8 (show 0 < 1 by omega) (zc26 ..) 7 (by decide) rfl wf_8_23 dX8_isHiding_16 ?_
      refine z_iload C 19 dX8_isHiding_19 5 rfl ?_
      refine z_zald C 21 (show 0 < 1 by omega) (zc37 ..) (by first | assumption | omega) (by omega) (show k < ((24 : Nat) : Int) by omega) dX8_isHiding_21 (fun zq4 ezq4 hzq4 => ?_)
      refine z_if_ne C 22 81 dX8_isHiding_22 (by decide) hzq4 (fun c22_36 => ?_) (fun c22_36 => ?_)
      · have hS : ¬ zhc M id L a k.toNat := fun z => by have z1 : zV M 37 0 k.toNat = 0 := z.1; omega
        refine z_iconst C 81 dX8_isHiding_81 ?_
        refine z_istore (lv' := [(6, .int (zI 0)), (0, .ref (zad G 26 0)), (1, .int (zI id)), (2, .int (zI L)), (3, .int (zI a)), (4, .int (zI y)), (5, .int (zI k))]) C 82 dX8_isHiding_82 (by decide) rfl ?_
        refine z_iload C 84 dX8_isHiding_84 5 rfl ?_
        refine z_if_ne C 86 116 dX8_isHiding_86 (by decide) (by first | assumption | omega) (fun c86_42 => ?_) (fun c86_42 => ?_)
        · have hY : (1 : Int) = 1 ↔ (y = 1 ∨ zhc M id L a k.toNat) := ⟨fun _ => Or.inl (by omega), fun _ => rfl⟩
          refine z_iconst C 116 dX8_isHiding_116 ?_
          refine z_goto C 117 121 dX8_isHiding_117 (by decide) ?_
          refine z_istore (lv' := [(4, .int (zI 1)), (6, .int (zI 0)), (0, .ref (zad G 26 0)), (1, .int (zI id)), (2, .int (zI L)), (3, .int (zI a)), (5, .int (zI k))]) C 121 dX8_isHiding_121 (by decide) rfl ?_
          refine z_iinc (lv' := [(5, .int (zI (k + 1))), (4, .int (zI 1)), (6, .int (zI 0)), (0, .ref (zad G 26 0)), (1, .int (zI id)), (2, .int (zI L)), (3, .int (zI a))]) C 123 dX8_isHiding_123 6 rfl (by decide) rfl ?_
          refine z_goto C 126 6 dX8_isHiding_126 (by decide) ?_
          refine z_sub (lv' := [(0, .ref (zad G 26 0)), (1, .int (zI id)), (2, .int (zI L)), (3, .int (zI a)), (4, .int (zI 1)), (5, .int (zI (k + 1)))]) [3, 4, 5, 6, 1, 0] rfl ?_
          exact ihz2 1 (k + 1) (by omega) (by omega) (by exact zhc_s (by omega) g1 hY) (by omega)
        refine z_iload C 89 dX8_isHiding_89 0 rfl ?_
        refine z_if_eq C 91 120 dX8_isHiding_91 (by decide) (by decide) (fun c91_52 => ?_) (fun c91_52 => ?_)
        rotate_left
        · exact absurd c91_52 (by decide)
        have hY : (0 : Int) = 1 ↔ (y = 1 ∨ zhc M id L a k.toNat) := ⟨fun z => absurd z (by decide), fun z => (z.elim (fun z1 => by omega) (fun z1 => (hS z1).elim))⟩
        refine z_iconst C 120 dX8_isHiding_120 ?_
        refine z_istore (lv' := [(4, .int (zI 0)), (6, .int (zI 0)), (0, .ref (zad G 26 0)), (1, .int (zI id)), (2, .int (zI L)), (3, .int (zI a)), (5, .int (zI k))]) C 121 dX8_isHiding_121 (by decide) rfl ?_
        refine z_iinc (lv' := [(5, .int (zI (k + 1))), (4, .int (zI 0)), (6, .int (zI 0)), (0, .ref (zad G 26 0)), (1, .int (zI id)), (2, .int (zI L)), (3, .int (zI a))]) C 123 dX8_isHiding_123 6 rfl (by decide) rfl ?_
        refine z_goto C 126 6 dX8_isHiding_126 (by decide) ?_
        refine z_sub (lv' := [(0, .ref (zad G 26 0)), (1, .int (zI id)), (2, .int (zI L)), (3, .int (zI a)), (4, .int (zI 0)), (5, .int (zI (k + 1)))]) [3, 4, 5, 6, 1, 0] rfl ?_
        exact ihz2 0 (k + 1) (by omega) (by omega) (by exact zhc_s (by omega) g1 hY) (by omega)
      refine z_iload C 25 dX8_isHiding_25 5 rfl ?_
      refine z_iload_n C 27 dX8_isHiding_27 rfl 3 rfl ?_
      refine z_icmp_eq C 28 81 dX8_isHiding_28 (by decide) (by first | assumption | omega) (by first | assumption | omega) (fun c28_63 => ?_) (fun c28_63 => ?_)
      · have hS : ¬ zhc M id L a k.toNat := fun z => z.2.1 (by omega)
        refine z_iconst C 81 dX8_isHiding_81 ?_
        refine z_istore (lv' := [(6, .int (zI 0)), (0, .ref (zad G 26 0)), (1, .int (zI id)), (2, .int (zI L)), (3, .int (zI a)), (4, .int (zI y)), (5, .int (zI k))]) C 82 dX8_isHiding_82 (by decide) rfl ?_
        refine z_iload C 84 dX8_isHiding_84 5 rfl ?_
        refine z_if_ne C 86 116 dX8_isHiding_86 (by decide) (by first | assumption | omega) (fun c86_69 => ?_) (fun c86_69 => ?_)
        · have hY : (1 : Int) = 1 ↔ (y = 1 ∨ zhc M id L a k.toNat) := ⟨fun _ => Or.inl (by omega), fun _ => rfl⟩
          refine z_iconst C 116 dX8_isHiding_116 ?_
          refine z_goto C 117 121 dX8_isHiding_117 (by decide) ?_
          refine z_istore (lv' := [(4, .int (zI 1)), (6, .int (zI 0)), (0, .ref (zad G 26 0)), (1, .int (zI id)), (2, .int (zI L)), (3, .int (zI a)), (5, .int (zI k))]) C 121 dX8_isHiding_121 (by decide) rfl ?_
          refine z_iinc (lv' := [(5, .int (zI (k + 1))), (4, .int (zI 1)), (6, .int (zI 0)), (0, .ref (zad G 26 0)), (1, .int (zI id)), (2, .int (zI L)), (3, .int (zI a))]) C 123 dX8_isHiding_123 6 rfl (by decide) rfl ?_
          refine z_goto C 126 6 dX8_isHiding_126 (by decide) ?_
          refine z_sub (lv' := [(0, .ref (zad G 26 0)), (1, .int (zI id)), (2, .int (zI L)), (3, .int (zI a)), (4, .int (zI 1)), (5, .int (zI (k + 1)))]) [3, 4, 5, 6, 1, 0] rfl ?_
          exact ihz2 1 (k + 1) (by omega) (by omega) (by exact zhc_s (by omega) g1 hY) (by omega)
        refine z_iload C 89 dX8_isHiding_89 0 rfl ?_
        refine z_if_eq C 91 120 dX8_isHiding_91 (by decide) (by decide) (fun c91_79 => ?_) (fun c91_79 => ?_)
        rotate_left
        · exact absurd c91_79 (by decide)
        have hY : (0 : Int) = 1 ↔ (y = 1 ∨ zhc M id L a k.toNat) := ⟨fun z => absurd z (by decide), fun z => (z.elim (fun z1 => by omega) (fun z1 => (hS z1).elim))⟩
        refine z_iconst C 120 dX8_isHiding_120 ?_
        refine z_istore (lv' := [(4, .int (zI 0)), (6, .int (zI 0)), (0, .ref (zad G 26 0)), (1, .int (zI id)), (2, .int (zI L)), (3, .int (zI a)), (5, .int (zI k))]) C 121 dX8_isHiding_121 (by decide) rfl ?_
        refine z_iinc (lv' := [(5, .int (zI (k + 1))), (4, .int (zI 0)), (6, .int (zI 0)), (0, .ref (zad G 26 0)), (1, .int (zI id)), (2, .int (zI L)), (3, .int (zI a))]) C 123 dX8_isHiding_123 6 rfl (by decide) rfl ?_
        refine z_goto C 126 6 dX8_isHiding_126 (by decide) ?_
        refine z_sub (lv' := [(0, .ref (zad G 26 0)), (1, .int (zI id)), (2, .int (zI L)), (3, .int (zI a)), (4, .int (zI 0)), (5, .int (zI (k + 1)))]) [3, 4, 5, 6, 1, 0] rfl ?_
        exact ihz2 0 (k + 1) (by omega) (by omega) (by exact zhc_s (by omega) g1 hY) (by omega)
      refine z_iload_n C 31 dX8_isHiding_31 rfl 3 rfl ?_
      refine z_iconst C 32 dX8_isHiding_32 ?_
      refine z_icmp_eq C 33 77 dX8_isHiding_33 (by decide) (by first | assumption | omega) (by decide) (fun c33_90 => ?_) (fun c33_90 => ?_)
      · have hO : a = -1 ∨ znl M a.toNat ≤ znl M k.toNat ∧ zmeet (znv M a.toNat) (znl M a.toNat) (znv M k.toNat) 16 := Or.inl (by omega)
        refine z_iconst C 77 dX8_isHiding_77 ?_
        refine z_goto C 78 82 dX8_isHiding_78 (by decide) ?_
        refine z_istore (lv' := [(6, .int (zI 1)), (0, .ref (zad G 26 0)), (1, .int (zI id)), (2, .int (zI L)), (3, .int (zI a)), (4, .int (zI y)), (5, .int (zI k))]) C 82 dX8_isHiding_82 (by decide) rfl ?_
        refine z_iload C 84 dX8_isHiding_84 5 rfl ?_
        refine z_if_ne C 86 116 dX8_isHiding_86 (by decide) (by first | assumption | omega) (fun c86_97 => ?_) (fun c86_97 => ?_)
        · have hY : (1 : Int) = 1 ↔ (y = 1 ∨ zhc M id L a k.toNat) := ⟨fun _ => Or.inl (by omega), fun _ => rfl⟩
          refine z_iconst C 116 dX8_isHiding_116 ?_
          refine z_goto C 117 121 dX8_isHiding_117 (by decide) ?_
          refine z_istore (lv' := [(4, .int (zI 1)), (6, .int (zI 1)), (0, .ref (zad G 26 0)), (1, .int (zI id)), (2, .int (zI L)), (3, .int (zI a)), (5, .int (zI k))]) C 121 dX8_isHiding_121 (by decide) rfl ?_
          refine z_iinc (lv' := [(5, .int (zI (k + 1))), (4, .int (zI 1)), (6, .int (zI 1)), (0, .ref (zad G 26 0)), (1, .int (zI id)), (2, .int (zI L)), (3, .int (zI a))]) C 123 dX8_isHiding_123 6 rfl (by decide) rfl ?_
          refine z_goto C 126 6 dX8_isHiding_126 (by decide) ?_
          refine z_sub (lv' := [(0, .ref (zad G 26 0)), (1, .int (zI id)), (2, .int (zI L)), (3, .int (zI a)), (4, .int (zI 1)), (5, .int (zI (k + 1)))]) [3, 4, 5, 6, 1, 0] rfl ?_
          exact ihz2 1 (k + 1) (by omega) (by omega) (by exact zhc_s (by omega) g1 hY) (by omega)
        refine z_iload C 89 dX8_isHiding_89 0 rfl ?_
        refine z_if_eq C 91 120 dX8_isHiding_91 (by decide) (by decide) (fun c91_107 => ?_) (fun c91_107 => ?_)
        · exact absurd c91_107 (by decide)
        refine z_iload_n C 94 dX8_isHiding_94 rfl 2 rfl ?_
        refine z_iload_n C 95 dX8_isHiding_95 rfl 3 rfl ?_
        refine z_aload_n C 96 dX8_isHiding_96 rfl 1 rfl ?_
        refine z_get C 97 zcl8 (show 0 < 1 by omega) (zc26 ..) 5 (by decide) rfl wf_8_16 dX8_isHiding_97 ?_
        refine z_iload C 100 dX8_isHiding_100 6 rfl ?_
        refine z_iald C 102 (show 0 < 1 by omega) (zc35 ..) (by first | assumption | omega) (by omega) (show k < ((24 : Nat) : Int) by omega) dX8_isHiding_102 (fun zq5 ezq5 hzq5 => ?_)
        refine z_aload_n C 103 dX8_isHiding_103 rfl 1 rfl ?_
        refine z_get C 104 zcl8 (show 0 < 1 by omega) (zc26 ..) 6 (by decide) rfl wf_8_20 dX8_isHiding_104 ?_
        refine z_iload C 107 dX8_isHiding_107 6 rfl ?_
        refine z_iald C 109 (show 0 < 1 by omega) (zc36 ..) (by first | assumption | omega) (by omega) (show k < ((24 : Nat) : Int) by omega) dX8_isHiding_109 (fun zq6 ezq6 hzq6 => ?_)
        refine z_callSi C 110 (As := [.int (zI id), .int (zI L), .int (zI zq5), .int (zI zq6)]) (rest := []) (c_X8_meet l G M id L zq5 zq6 hid (by rw [ezq5, ezq6]; exact w2 _ (by omega))) (zS_of 4 C wm_8_118 wc_X8_meet wini_8 wst_X8_meet ⟨by decide, by decide, by decide⟩ ⟨by decide, by decide⟩) rfl (Nat.le_of_ble_eq_true rfl) ⟨by decide, by decide⟩ dX8_isHiding_110 rfl (fun zq7 Mz8 hzq7 hPz7 => ?_)
        obtain ⟨rfl, hPz7⟩ := hPz7
        refine z_if_eq C 113 120 dX8_isHiding_113 (by decide) hzq7 (fun c113_121 => ?_) (fun c113_121 => ?_)
        · have hY : (0 : Int) = 1 ↔ (y = 1 ∨ zhc M id L a k.toNat) := ⟨fun z => absurd z (by decide), fun z => (z.elim (fun z1 => by omega) (fun z1 => by have z2 := hPz7.f c113_121; rw [ezq5, ezq6] at z2; exact (z2 z1.2.2.2).elim))⟩
          refine z_iconst C 120 dX8_isHiding_120 ?_
          refine z_istore (lv' := [(4, .int (zI 0)), (6, .int (zI 1)), (0, .ref (zad G 26 0)), (1, .int (zI id)), (2, .int (zI L)), (3, .int (zI a)), (5, .int (zI k))]) C 121 dX8_isHiding_121 (by decide) rfl ?_
          refine z_iinc (lv' := [(5, .int (zI (k + 1))), (4, .int (zI 0)), (6, .int (zI 1)), (0, .ref (zad G 26 0)), (1, .int (zI id)), (2, .int (zI L)), (3, .int (zI a))]) C 123 dX8_isHiding_123 6 rfl (by decide) rfl ?_
          refine z_goto C 126 6 dX8_isHiding_126 (by decide) ?_
          refine z_sub (lv' := [(0, .ref (zad G 26 0)), (1, .int (zI id)), (2, .int (zI L)), (3, .int (zI a)), (4, .int (zI 0)), (5, .int (zI (k + 1)))]) [3, 4, 5, 6, 1, 0] rfl ?_
          exact ihz2 0 (k + 1) (by omega) (by omega) (by exact zhc_s (by omega) g1 hY) (by omega)
        have hY : (1 : Int) = 1 ↔ (y = 1 ∨ zhc M id L a k.toNat) := ⟨fun _ => Or.inr ⟨by show zV M 37 0 k.toNat = 0; omega, by omega, hO, by have z2 := hPz7.t c113_121; rw [ezq5, ezq6] at z2; exact z2⟩, fun _ => rfl⟩
        refine z_iconst C 116 dX8_isHiding_116 ?_
        refine z_goto C 117 121 dX8_isHiding_117 (by decide) ?_
        refine z_istore (lv' := [(4, .int (zI 1)), (6, .int (zI 1)), (0, .ref (zad G 26 0)), (1, .int (zI id)), (2, .int (zI L)), (3, .int (zI a)), (5, .int (zI k))]) C 121 dX8_isHiding_121 (by decide) rfl ?_
        refine z_iinc (lv' := [(5, .int (zI (k + 1))), (4, .int (zI 1)), (6, .int (zI 1)), (0, .ref (zad G 26 0)), (1, .int (zI id)), (2, .int (zI L)), (3, .int (zI a))]) C 123 dX8_isHiding_123 6 rfl (by decide) rfl ?_
        refine z_goto C 126 6 dX8_isHiding_126 (by decide) ?_
        refine z_sub (lv' := [(0, .ref (zad G 26 0)), (1, .int (zI id)), (2, .int (zI L)), (3, .int (zI a)), (4, .int (zI 1)), (5, .int (zI (k + 1)))]) [3, 4, 5, 6, 1, 0] rfl ?_
        exact ihz2 1 (k + 1) (by omega) (by omega) (by exact zhc_s (by omega) g1 hY) (by omega)
      refine z_aload_n C 36 dX8_isHiding_36 rfl 0 rfl ?_
      refine z_get C 37 zcl8 (show 0 < 1 by omega) (zc26 ..) 6 (by decide) rfl wf_8_20 dX8_isHiding_37 ?_
      refine z_iload C 40 dX8_isHiding_40 5 rfl ?_
      refine z_iald C 42 (show 0 < 1 by omega) (zc36 ..) (by first | assumption | omega) (by omega) (show k < ((24 : Nat) : Int) by omega) dX8_isHiding_42 (fun zq9 ezq9 hzq9 => ?_)
      refine z_aload_n C 43 dX8_isHiding_43 rfl 0 rfl ?_
      refine z_get C 44 zcl8 (show 0 < 1 by omega) (zc26 ..) 6 (by decide) rfl wf_8_20 dX8_isHiding_44 ?_
      refine z_iload_n C 47 dX8_isHiding_47 rfl 3 rfl ?_
      refine z_iald C 48 (show 0 < 1 by omega) (zc36 ..) (by first | assumption | omega) (by omega) (show a < ((24 : Nat) : Int) by omega) dX8_isHiding_48 (fun zq10 ezq10 hzq10 => ?_)
      refine z_icmp_lt C 49 81 dX8_isHiding_49 (by decide) hzq9 hzq10 (fun c49_144 => ?_) (fun c49_144 => ?_)
      · have hS : ¬ zhc M id L a k.toNat := fun z => z.2.2.1.elim (fun z1 => by omega) (fun z1 => by have z2 : zV M 36 0 a.toNat ≤ zV M 36 0 k.toNat := z1.1; omega)
        refine z_iconst C 81 dX8_isHiding_81 ?_
        refine z_istore (lv' := [(6, .int (zI 0)), (0, .ref (zad G 26 0)), (1, .int (zI id)), (2, .int (zI L)), (3, .int (zI a)), (4, .int (zI y)), (5, .int (zI k))]) C 82 dX8_isHiding_82 (by decide) rfl ?_
        refine z_iload C 84 dX8_isHiding_84 5 rfl ?_
        refine z_if_ne C 86 116 dX8_isHiding_86 (by decide) (by first | assumption | omega) (fun c86_150 => ?_) (fun c86_150 => ?_)
        · have hY : (1 : Int) = 1 ↔ (y = 1 ∨ zhc M id L a k.toNat) := ⟨fun _ => Or.inl (by omega), fun _ => rfl⟩
          refine z_iconst C 116 dX8_isHiding_116 ?_
          refine z_goto C 117 121 dX8_isHiding_117 (by decide) ?_
          refine z_istore (lv' := [(4, .int (zI 1)), (6, .int (zI 0)), (0, .ref (zad G 26 0)), (1, .int (zI id)), (2, .int (zI L)), (3, .int (zI a)), (5, .int (zI k))]) C 121 dX8_isHiding_121 (by decide) rfl ?_
          refine z_iinc (lv' := [(5, .int (zI (k + 1))), (4, .int (zI 1)), (6, .int (zI 0)), (0, .ref (zad G 26 0)), (1, .int (zI id)), (2, .int (zI L)), (3, .int (zI a))]) C 123 dX8_isHiding_123 6 rfl (by decide) rfl ?_
          refine z_goto C 126 6 dX8_isHiding_126 (by decide) ?_
          refine z_sub (lv' := [(0, .ref (zad G 26 0)), (1, .int (zI id)), (2, .int (zI L)), (3, .int (zI a)), (4, .int (zI 1)), (5, .int (zI (k + 1)))]) [3, 4, 5, 6, 1, 0] rfl ?_
          exact ihz2 1 (k + 1) (by omega) (by omega) (by exact zhc_s (by omega) g1 hY) (by omega)
        refine z_iload C 89 dX8_isHiding_89 0 rfl ?_
        refine z_if_eq C 91 120 dX8_isHiding_91 (by decide) (by decide) (fun c91_160 => ?_) (fun c91_160 => ?_)
        rotate_left
        · exact absurd c91_160 (by decide)
        have hY : (0 : Int) = 1 ↔ (y = 1 ∨ zhc M id L a k.toNat) := ⟨fun z => absurd z (by decide), fun z => (z.elim (fun z1 => by omega) (fun z1 => (hS z1).elim))⟩
        refine z_iconst C 120 dX8_isHiding_120 ?_
        refine z_istore (lv' := [(4, .int (zI 0)), (6, .int (zI 0)), (0, .ref (zad G 26 0)), (1, .int (zI id)), (2, .int (zI L)), (3, .int (zI a)), (5, .int (zI k))]) C 121 dX8_isHiding_121 (by decide) rfl ?_
        refine z_iinc (lv' := [(5, .int (zI (k + 1))), (4, .int (zI 0)), (6, .int (zI 0)), (0, .ref (zad G 26 0)), (1, .int (zI id)), (2, .int (zI L)), (3, .int (zI a))]) C 123 dX8_isHiding_123 6 rfl (by decide) rfl ?_
        refine z_goto C 126 6 dX8_isHiding_126 (by decide) ?_
        refine z_sub (lv' := [(0, .ref (zad G 26 0)), (1, .int (zI id)), (2, .int (zI L)), (3, .int (zI a)), (4, .int (zI 0)), (5, .int (zI (k + 1)))]) [3, 4, 5, 6, 1, 0] rfl ?_
        exact ihz2 0 (k + 1) (by omega) (by omega) (by exact zhc_s (by omega) g1 hY) (by omega)
      refine z_aload_n C 52 dX8_isHiding_52 rfl 0 rfl ?_
      refine z_get C 53 zcl8 (show 0 < 1 by omega) (zc26 ..) 5 (by decide) rfl wf_8_16 dX8_isHiding_53 ?_
      refine z_iload_n C 56 dX8_isHiding_56 rfl 3 rfl ?_
      refine z_iald C 57 (show 0 < 1 by omega) (zc35 ..) (by first | assumption | omega) (by omega) (show a < ((24 : Nat) : Int) by omega) dX8_isHiding_57 (fun zq11 ezq11 hzq11 => ?_)
      refine z_aload_n C 58 dX8_isHiding_58 rfl 0 rfl ?_
      refine z_get C 59 zcl8 (show 0 < 1 by omega) (zc26 ..) 6 (by decide) rfl wf_8_20 dX8_isHiding_59 ?_
      refine z_iload_n C 62 dX8_isHiding_62 rfl 3 rfl ?_
      refine z_iald C 63 (show 0 < 1 by omega) (zc36 ..) (by first | assumption | omega) (by omega) (show a < ((24 : Nat) : Int) by omega) dX8_isHiding_63 (fun zq12 ezq12 hzq12 => ?_)
      refine z_aload_n C 64 dX8_isHiding_64 rfl 0 rfl ?_
      refine z_get C 65 zcl8 (show 0 < 1 by omega) (zc26 ..) 5 (by decide) rfl wf_8_16 dX8_isHiding_65 ?_
      refine z_iload C 68 dX8_isHiding_68 5 rfl ?_
      refine z_iald C 70 (show 0 < 1 by omega) (zc35 ..) (by first | assumption | omega) (by omega) (show k < ((24 : Nat) : Int) by omega) dX8_isHiding_70 (fun zq13 ezq13 hzq13 => ?_)
      refine z_callSi C 71 (As := [.int (zI zq11), .int (zI zq12), .int (zI zq13)]) (rest := []) (c_X8_covers l G M zq11 zq12 zq13 (by rw [ezq11, ezq12]; exact w2 _ (by omega)) (by have z1 := w2 k.toNat (by omega); rw [ezq13]; exact ⟨z1.1, z1.2.1⟩)) (zS_of 3 C wm_8_146 wc_X8_covers wini_8 wst_X8_covers ⟨by decide, by decide, by decide⟩ ⟨by decide, by decide⟩) rfl (Nat.le_of_ble_eq_true rfl) ⟨by decide, by decide⟩ dX8_isHiding_71 rfl (fun zq14 Mz15 hzq14 hPz14 => ?_)
      obtain ⟨rfl, hPz14⟩ := hPz14
      refine z_if_eq C 74 81 dX8_isHiding_74 (by decide) hzq14 (fun c74_183 => ?_) (fun c74_183 => ?_)
      · have hS : ¬ zhc M id L a k.toNat := fun z => z.2.2.1.elim (fun z1 => by omega) (fun z1 => by have z2 := hPz14.f c74_183; rw [ezq11, ezq12, ezq13] at z2; exact z2 z1.2)
        refine z_iconst C 81 dX8_isHiding_81 ?_
        refine z_istore (lv' := [(6, .int (zI 0)), (0, .ref (zad G 26 0)), (1, .int (zI id)), (2, .int (zI L)), (3, .int (zI a)), (4, .int (zI y)), (5, .int (zI k))]) C 82 dX8_isHiding_82 (by decide) rfl ?_
        refine z_iload C 84 dX8_isHiding_84 5 rfl ?_
        refine z_if_ne C 86 116 dX8_isHiding_86 (by decide) (by first | assumption | omega) (fun c86_189 => ?_) (fun c86_189 => ?_)
        · have hY : (1 : Int) = 1 ↔ (y = 1 ∨ zhc M id L a k.toNat) := ⟨fun _ => Or.inl (by omega), fun _ => rfl⟩
          refine z_iconst C 116 dX8_isHiding_116 ?_
          refine z_goto C 117 121 dX8_isHiding_117 (by decide) ?_
          refine z_istore (lv' := [(4, .int (zI 1)), (6, .int (zI 0)), (0, .ref (zad G 26 0)), (1, .int (zI id)), (2, .int (zI L)), (3, .int (zI a)), (5, .int (zI k))]) C 121 dX8_isHiding_121 (by decide) rfl ?_
          refine z_iinc (lv' := [(5, .int (zI (k + 1))), (4, .int (zI 1)), (6, .int (zI 0)), (0, .ref (zad G 26 0)), (1, .int (zI id)), (2, .int (zI L)), (3, .int (zI a))]) C 123 dX8_isHiding_123 6 rfl (by decide) rfl ?_
          refine z_goto C 126 6 dX8_isHiding_126 (by decide) ?_
          refine z_sub (lv' := [(0, .ref (zad G 26 0)), (1, .int (zI id)), (2, .int (zI L)), (3, .int (zI a)), (4, .int (zI 1)), (5, .int (zI (k + 1)))]) [3, 4, 5, 6, 1, 0] rfl ?_
          exact ihz2 1 (k + 1) (by omega) (by omega) (by exact zhc_s (by omega) g1 hY) (by omega)
        refine z_iload C 89 dX8_isHiding_89 0 rfl ?_
        refine z_if_eq C 91 120 dX8_isHiding_91 (by decide) (by decide) (fun c91_199 => ?_) (fun c91_199 => ?_)
        rotate_left
        · exact absurd c91_199 (by decide)
        have hY : (0 : Int) = 1 ↔ (y = 1 ∨ zhc M id L a k.toNat) := ⟨fun z => absurd z (by decide), fun z => (z.elim (fun z1 => by omega) (fun z1 => (hS z1).elim))⟩
        refine z_iconst C 120 dX8_isHiding_120 ?_
        refine z_istore (lv' := [(4, .int (zI 0)), (6, .int (zI 0)), (0, .ref (zad G 26 0)), (1, .int (zI id)), (2, .int (zI L)), (3, .int (zI a)), (5, .int (zI k))]) C 121 dX8_isHiding_121 (by decide) rfl ?_
        refine z_iinc (lv' := [(5, .int (zI (k + 1))), (4, .int (zI 0)), (6, .int (zI 0)), (0, .ref (zad G 26 0)), (1, .int (zI id)), (2, .int (zI L)), (3, .int (zI a))]) C 123 dX8_isHiding_123 6 rfl (by decide) rfl ?_
        refine z_goto C 126 6 dX8_isHiding_126 (by decide) ?_
        refine z_sub (lv' := [(0, .ref (zad G 26 0)), (1, .int (zI id)), (2, .int (zI L)), (3, .int (zI a)), (4, .int (zI 0)), (5, .int (zI (k + 1)))]) [3, 4, 5, 6, 1, 0] rfl ?_
        exact ihz2 0 (k + 1) (by omega) (by omega) (by exact zhc_s (by omega) g1 hY) (by omega)
      have hO : a = -1 ∨ znl M a.toNat ≤ znl M k.toNat ∧ zmeet (znv M a.toNat) (znl M a.toNat) (znv M k.toNat) 16 := Or.inr ⟨by show zV M 36 0 a.toNat ≤ zV M 36 0 k.toNat; omega, by have z2 := hPz14.t c74_183; rw [ezq11, ezq12, ezq13] at z2; exact z2⟩
      refine z_iconst C 77 dX8_isHiding_77 ?_
      refine z_goto C 78 82 dX8_isHiding_78 (by decide) ?_
      refine z_istore (lv' := [(6, .int (zI 1)), (0, .ref (zad G 26 0)), (1, .int (zI id)), (2, .int (zI L)), (3, .int (zI a)), (4, .int (zI y)), (5, .int (zI k))]) C 82 dX8_isHiding_82 (by decide) rfl ?_
      refine z_iload C 84 dX8_isHiding_84 5 rfl ?_
      refine z_if_ne C 86 116 dX8_isHiding_86 (by decide) (by first | assumption | omega) (fun c86_213 => ?_) (fun c86_213 => ?_)
      · have hY : (1 : Int) = 1 ↔ (y = 1 ∨ zhc M id L a k.toNat) := ⟨fun _ => Or.inl (by omega), fun _ => rfl⟩
        refine z_iconst C 116 dX8_isHiding_116 ?_
        refine z_goto C 117 121 dX8_isHiding_117 (by decide) ?_
        refine z_istore (lv' := [(4, .int (zI 1)), (6, .int (zI 1)), (0, .ref (zad G 26 0)), (1, .int (zI id)), (2, .int (zI L)), (3, .int (zI a)), (5, .int (zI k))]) C 121 dX8_isHiding_121 (by decide) rfl ?_
        refine z_iinc (lv' := [(5, .int (zI (k + 1))), (4, .int (zI 1)), (6, .int (zI 1)), (0, .ref (zad G 26 0)), (1, .int (zI id)), (2, .int (zI L)), (3, .int (zI a))]) C 123 dX8_isHiding_123 6 rfl (by decide) rfl ?_
        refine z_goto C 126 6 dX8_isHiding_126 (by decide) ?_
        refine z_sub (lv' := [(0, .ref (zad G 26 0)), (1, .int (zI id)), (2, .int (zI L)), (3, .int (zI a)), (4, .int (zI 1)), (5, .int (zI (k + 1)))]) [3, 4, 5, 6, 1, 0] rfl ?_
        exact ihz2 1 (k + 1) (by omega) (by omega) (by exact zhc_s (by omega) g1 hY) (by omega)
      refine z_iload C 89 dX8_isHiding_89 0 rfl ?_
      refine z_if_eq C 91 120 dX8_isHiding_91 (by decide) (by decide) (fun c91_223 => ?_) (fun c91_223 => ?_)
      · exact absurd c91_223 (by decide)
      refine z_iload_n C 94 dX8_isHiding_94 rfl 2 rfl ?_
      refine z_iload_n C 95 dX8_isHiding_95 rfl 3 rfl ?_
      refine z_aload_n C 96 dX8_isHiding_96 rfl 1 rfl ?_
      refine z_get C 97 zcl8 (show 0 < 1 by omega) (zc26 ..) 5 (by decide) rfl wf_8_16 dX8_isHiding_97 ?_
      refine z_iload C 100 dX8_isHiding_100 6 rfl ?_
      refine z_iald C 102 (show 0 < 1 by omega) (zc35 ..) (by first | assumption | omega) (by omega) (show k < ((24 : Nat) : Int) by omega) dX8_isHiding_102 (fun zq16 ezq16 hzq16 => ?_)
      refine z_aload_n C 103 dX8_isHiding_103 rfl 1 rfl ?_
      refine z_get C 104 zcl8 (show 0 < 1 by omega) (zc26 ..) 6 (by decide) rfl wf_8_20 dX8_isHiding_104 ?_
      refine z_iload C 107 dX8_isHiding_107 6 rfl ?_
      refine z_iald C 109 (show 0 < 1 by omega) (zc36 ..) (by first | assumption | omega) (by omega) (show k < ((24 : Nat) : Int) by omega) dX8_isHiding_109 (fun zq17 ezq17 hzq17 => ?_)
      refine z_callSi C 110 (As := [.int (zI id), .int (zI L), .int (zI zq16), .int (zI zq17)]) (rest := []) (c_X8_meet l G M id L zq16 zq17 hid (by rw [ezq16, ezq17]; exact w2 _ (by omega))) (zS_of 4 C wm_8_118 wc_X8_meet wini_8 wst_X8_meet ⟨by decide, by decide, by decide⟩ ⟨by decide, by decide⟩) rfl (Nat.le_of_ble_eq_true rfl) ⟨by decide, by decide⟩ dX8_isHiding_110 rfl (fun zq18 Mz19 hzq18 hPz18 => ?_)
      obtain ⟨rfl, hPz18⟩ := hPz18
      refine z_if_eq C 113 120 dX8_isHiding_113 (by decide) hzq18 (fun c113_237 => ?_) (fun c113_237 => ?_)
      · have hY : (0 : Int) = 1 ↔ (y = 1 ∨ zhc M id L a k.toNat) := ⟨fun z => absurd z (by decide), fun z => (z.elim (fun z1 => by omega) (fun z1 => by have z2 := hPz18.f c113_237; rw [ezq16, ezq17] at z2; exact (z2 z1.2.2.2).elim))⟩
        refine z_iconst C 120 dX8_isHiding_120 ?_
        refine z_istore (lv' := [(4, .int (zI 0)), (6, .int (zI 1)), (0, .ref (zad G 26 0)), (1, .int (zI id)), (2, .int (zI L)), (3, .int (zI a)), (5, .int (zI k))]) C 121 dX8_isHiding_121 (by decide) rfl ?_
        refine z_iinc (lv' := [(5, .int (zI (k + 1))), (4, .int (zI 0)), (6, .int (zI 1)), (0, .ref (zad G 26 0)), (1, .int (zI id)), (2, .int (zI L)), (3, .int (zI a))]) C 123 dX8_isHiding_123 6 rfl (by decide) rfl ?_
        refine z_goto C 126 6 dX8_isHiding_126 (by decide) ?_
        refine z_sub (lv' := [(0, .ref (zad G 26 0)), (1, .int (zI id)), (2, .int (zI L)), (3, .int (zI a)), (4, .int (zI 0)), (5, .int (zI (k + 1)))]) [3, 4, 5, 6, 1, 0] rfl ?_
        exact ihz2 0 (k + 1) (by omega) (by omega) (by exact zhc_s (by omega) g1 hY) (by omega)
      have hY : (1 : Int) = 1 ↔ (y = 1 ∨ zhc M id L a k.toNat) := ⟨fun _ => Or.inr ⟨by show zV M 37 0 k.toNat = 0; omega, by omega, hO, by have z2 := hPz18.t c113_237; rw [ezq16, ezq17] at z2; exact z2⟩, fun _ => rfl⟩
      refine z_iconst C 116 dX8_isHiding_116 ?_
      refine z_goto C 117 121 dX8_isHiding_117 (by decide) ?_
      refine z_istore (lv' := [(4, .int (zI 1)), (6, .int (zI 1)), (0, .ref (zad G 26 0)), (1, .int (zI id)), (2, .int (zI L)), (3, .int (zI a)), (5, .int (zI k))]) C 121 dX8_isHiding_121 (by decide) rfl ?_
      refine z_iinc (lv' := [(5, .int (zI (k + 1))), (4, .int (zI 1)), (6, .int (zI 1)), (0, .ref (zad G 26 0)), (1, .int (zI id)), (2, .int (zI L)), (3, .int (zI a))]) C 123 dX8_isHiding_123 6 rfl (by decide) rfl ?_
      refine z_goto C 126 6 dX8_isHiding_126 (by decide) ?_
      refine z_sub (lv' := [(0, .ref (zad G 26 0)), (1, .int (zI id)), (2, .int (zI L)), (3, .int (zI a)), (4, .int (zI 1)), (5, .int (zI (k + 1)))]) [3, 4, 5, 6, 1, 0] rfl ?_
      exact ihz2 1 (k + 1) (by omega) (by omega) (by exact zhc_s (by omega) g1 hY) (by omega)
  refine z_sub (lv' := [(0, .ref (zad G 26 0)), (1, .int (zI id)), (2, .int (zI L)), (3, .int (zI a)), (4, .int (zI 0)), (5, .int (zI 0))]) [2, 3, 4, 5, 1, 0] rfl ?_
  exact L6_1 (((zV M 26 0 4 - 0 : Int)).toNat + 1) 0 0 (by omega) (by omega) (by exact ⟨fun z => absurd z (by decide), fun z => by obtain ⟨i, h1, h2⟩ := z; omega⟩) (by omega)
set_option maxHeartbeats 4000000 in
set_option maxRecDepth 100000 in
theorem c_X8_bitsFor (l : Launch) (G : zG) (M : zMem) (hw : zWM M) (id a : Int) (hid : 0 ≤ id ∧ id < 65536) (ha : -1 ≤ a ∧ a < 24) (h16 : ¬ znh M id 16 a) : Met l yX8_bitsFor [.code yX8_bitsFor cX8_bitsFor 4 (some .int)] (zR 3 0 0) (zPc G M [.ref (zad G 26 0), .int (zI id), .int (zI a)]) (zQi G (fun x M' => M = M' ∧ znb M id a x)) 0 0 (zA G) := by
  refine z_met [(0, .ref (zad G 26 0)), (1, .int (zI id)), (2, .int (zI a))] (by decide) (Nat.le_of_ble_eq_true rfl) rfl ?_
  intro p e s m below meth c C
  have C : zC p s m ([.ref (zad G 26 0), .int (zI id), .int (zI a)] : List Value).toArray meth c G RX8 cX8_bitsFor 4 (some .int) := C
  have hw9z := hw
  obtain ⟨w1, w2, w3, w4, w5, w6, w7, w8, w9, w10, w11, w12, w13, w14⟩ := hw9z
  refine z_iload_n C 0 dX8_bitsFor_0 rfl 2 rfl ?_
  refine z_iconst C 1 dX8_bitsFor_1 ?_
  have J15_1 : ∀ (w : Int), (w = if a = -1 then 0 else znl M a.toNat) → (0 ≤ w ∧ w ≤ 16) → zZ p l e (zR 3 0 0) s m ([.ref (zad G 26 0), .int (zI id), .int (zI a)] : List Value).toArray below meth c G 4 (MQ below (zQi G (fun x M' => M = M' ∧ znb M id a x)) ([.ref (zad G 26 0), .int (zI id), .int (zI a)] : List Value).toArray s 0 0 (zA G)) M 0 0 15 [(0, .ref (zad G 26 0)), (1, .int (zI id)), (2, .int (zI a))] [.int (zI w)] := by
    intro w hw1 hw2
    refine z_istore_n (lv' := [(3, .int (zI w)), (0, .ref (zad G 26 0)), (1, .int (zI id)), (2, .int (zI a))]) C 15 dX8_bitsFor_15 rfl (by decide) rfl ?_
    have L16_2 : ∀ (kz2 : Nat) (b : Int), (w ≤ b ∧ b ≤ 16) → (∀ L : Int, w ≤ L → L < b → znh M id L a) → (16 - b) < (kz2 : Int) → zZ p l e (zR 3 0 0) s m ([.ref (zad G 26 0), .int (zI id), .int (zI a)] : List Value).toArray below meth c G 4 (MQ below (zQi G (fun x M' => M = M' ∧ znb M id a x)) ([.ref (zad G 26 0), .int (zI id), .int (zI a)] : List Value).toArray s 0 0 (zA G)) M 0 0 16 [(0, .ref (zad G 26 0)), (1, .int (zI id)), (2, .int (zI a)), (3, .int (zI b))] [] := by
      intro kz2
      induction kz2 with
      | zero =>
        intro b g0 g1 hk
        exact absurd hk (by omega)
      | succ kz2 ihz3 =>
        intro b g0 g1 hk
        refine z_aload_n C 16 dX8_bitsFor_16 rfl 0 rfl ?_
        refine z_iload_n C 17 dX8_bitsFor_17 rfl 1 rfl ?_
        refine z_iload_n C 18 dX8_bitsFor_18 rfl 3 rfl ?_
        refine z_iload_n C 19 dX8_bitsFor_19 rfl 2 rfl ?_
        refine z_callVi C 20 (As := [.int (zI id), .int (zI b), .int (zI a)]) (rest := []) (c_X8_isHiding l G M hw id b a ⟨hid.1, hid.2, by omega, by omega⟩ ha) zcl8 (show 0 < 1 by omega) (zc26 ..) (zW_of 3 C wm_8_152 wc_X8_isHiding wini_8 wi_X8_isHiding wse_X8_isHiding ⟨by decide, by decide, by decide⟩ ⟨by decide, by decide⟩) rfl (Nat.le_of_ble_eq_true rfl) ⟨by decide, by decide⟩ dX8_bitsFor_20 rfl (fun zq4 Mz5 hzq4 hPz4 => ?_)
        obtain ⟨rfl, hPz4⟩ := hPz4
        refine z_if_eq C 23 32 dX8_bitsFor_23 (by decide) hzq4 (fun c23_27 => ?_) (fun c23_27 => ?_)
        · refine z_iload_n C 32 dX8_bitsFor_32 rfl 3 rfl ?_
          refine z_iret C 33 dX8_bitsFor_33 (by decide) (by decide) (by first | assumption | omega) ?_
          refine ⟨rfl, ?_⟩
          unfold znb
          rw [← hw1]
          exact ⟨by omega, by omega, g1, hPz4.f (by assumption)⟩
        refine z_iinc (lv' := [(3, .int (zI (b + 1))), (0, .ref (zad G 26 0)), (1, .int (zI id)), (2, .int (zI a))]) C 26 dX8_bitsFor_26 3 rfl (by decide) rfl ?_
        refine z_goto C 29 16 dX8_bitsFor_29 (by decide) ?_
        refine z_sub (lv' := [(0, .ref (zad G 26 0)), (1, .int (zI id)), (2, .int (zI a)), (3, .int (zI (b + 1)))]) [1, 2, 3, 0] rfl ?_
        have hb16 : b ≠ 16 := fun z => h16 (by rw [← z]; exact hPz4.t (by assumption))
        exact ihz3 (b + 1) (by omega) (by intro L h1 h2; exact (Int.lt_or_le L b).elim (g1 L h1) (fun z => by rw [show L = b by omega]; exact hPz4.t (by assumption))) (by omega)
    refine z_sub (lv' := [(0, .ref (zad G 26 0)), (1, .int (zI id)), (2, .int (zI a)), (3, .int (zI w))]) [1, 2, 3, 0] rfl ?_
    exact L16_2 (((16 - w : Int)).toNat + 1) w (by omega) (by intro L h1 h2; omega) (by omega)
  refine z_icmp_ne C 2 9 dX8_bitsFor_2 (by decide) (by first | assumption | omega) (by decide) (fun c2_41 => ?_) (fun c2_41 => ?_)
  · refine z_aload_n C 9 dX8_bitsFor_9 rfl 0 rfl ?_
    refine z_get C 10 zcl8 (show 0 < 1 by omega) (zc26 ..) 6 (by decide) rfl wf_8_20 dX8_bitsFor_10 ?_
    refine z_iload_n C 13 dX8_bitsFor_13 rfl 2 rfl ?_
    refine z_iald C 14 (show 0 < 1 by omega) (zc36 ..) (by first | assumption | omega) (by omega) (show a < ((24 : Nat) : Int) by omega) dX8_bitsFor_14 (fun zq6 ezq6 hzq6 => ?_)
    exact J15_1 zq6 (by rw [if_neg (by omega)]; exact ezq6) (by have z1 := w2 a.toNat (by omega); unfold zpfx at z1; omega)
  refine z_iconst C 5 dX8_bitsFor_5 ?_
  refine z_goto C 6 15 dX8_bitsFor_6 (by decide) ?_
  exact J15_1 0 (by rw [if_pos (by omega)]) (by omega)
set_option maxHeartbeats 4000000 in
set_option maxRecDepth 100000 in
theorem c_X8_answerLength (l : Launch) (G : zG) (M : zMem) (hw : zWM M) (id : Int) (hid : zrg id) (h16 : ∀ mm : Int, zfnd (znv M) (znl M) (zng M) (znn M) id mm → ¬ znh M id 16 mm)  : Met l yX8_answerLength [.code yX8_answerLength cX8_answerLength 3 (some .int)] (zR 4 0 0) (zPc G M [.ref (zad G 26 0), .int (zI id)]) (zQi G (fun x M' => (¬ (0 ≤ id ∧ id < 65536) ∧ zthr M M' 1) ∨ ((0 ≤ id ∧ id < 65536) ∧ zthr M M' 0 ∧ ∃ mm L : Int, zfnd (znv M') (znl M') (zng M') (znn M') id mm ∧ znb M' id mm L ∧ x = L + (if mm = -1 then 17 else 0)))) 0 0 (zA G) := by
  refine z_met [(0, .ref (zad G 26 0)), (1, .int (zI id))] (by decide) (Nat.le_of_ble_eq_true rfl) rfl ?_
  intro p e s m below meth c C
  have C : zC p s m ([.ref (zad G 26 0), .int (zI id)] : List Value).toArray meth c G RX8 cX8_answerLength 3 (some .int) := C
  have hw9z := hw
  obtain ⟨w1, w2, w3, w4, w5, w6, w7, w8, w9, w10, w11, w12, w13, w14⟩ := hw9z
  refine z_aload_n C 0 dX8_answerLength_0 rfl 0 rfl ?_
  refine z_iload_n C 1 dX8_answerLength_1 rfl 1 rfl ?_
  refine z_callSi C 2 (As := [.int (zI id)]) (rest := [.ref (zad G 26 0)]) (c_X8_isIdentifier l G M id hid) (zS_of 1 C wm_8_107 wc_X8_isIdentifier wini_8 wst_X8_isIdentifier ⟨by decide, by decide, by decide⟩ ⟨by decide, by decide⟩) rfl (Nat.le_of_ble_eq_true rfl) ⟨by decide, by decide⟩ dX8_answerLength_2 rfl (fun zq1 Mz2 hzq1 hPz1 => ?_)
  obtain ⟨rfl, hPz1⟩ := hPz1
  refine z_if_eq C 5 12 dX8_answerLength_5 (by decide) hzq1 (fun c5_12 => ?_) (fun c5_12 => ?_)
  · refine z_iconst C 12 dX8_answerLength_12 ?_
    refine z_putI C 13 zcl8 (show 0 < 1 by omega) (zc26 ..) 0 (by decide) wf_8_99 rfl rfl rfl (Nat.le_of_ble_eq_true rfl) (zc26 ..) dX8_answerLength_13 ?_
    refine z_aload_n C 16 dX8_answerLength_16 rfl 0 rfl ?_
    refine z_getI C 17 zcl8 (show 0 < 1 by omega) (zc26 ..) 0 (by decide) rfl wf_8_99 dX8_answerLength_17 (fun zq3 ezq3 hzq3 => ?_)
    rw [zV_eq (by first | assumption | decide | omega)] at ezq3
    subst ezq3
    refine z_if_le C 20 25 dX8_answerLength_20 (by decide) (by decide) (fun c20_20 => ?_) (fun c20_20 => ?_)
    · exact absurd c20_20 (by decide)
    refine z_iconst C 23 dX8_answerLength_23 ?_
    refine z_iret C 24 dX8_answerLength_24 (by decide) (by decide) (by decide) ?_
    exact Or.inl ⟨hPz1.f (by assumption), zthr_1 _ (by decide)⟩
  refine z_iconst C 8 dX8_answerLength_8 ?_
  refine z_goto C 9 13 dX8_answerLength_9 (by decide) ?_
  refine z_putI C 13 zcl8 (show 0 < 1 by omega) (zc26 ..) 0 (by decide) wf_8_99 rfl rfl rfl (Nat.le_of_ble_eq_true rfl) (zc26 ..) dX8_answerLength_13 ?_
  refine z_aload_n C 16 dX8_answerLength_16 rfl 0 rfl ?_
  refine z_getI C 17 zcl8 (show 0 < 1 by omega) (zc26 ..) 0 (by decide) rfl wf_8_99 dX8_answerLength_17 (fun zq4 ezq4 hzq4 => ?_)
  rw [zV_eq (by first | assumption | decide | omega)] at ezq4
  subst ezq4
  refine z_if_le C 20 25 dX8_answerLength_20 (by decide) (by decide) (fun c20_31 => ?_) (fun c20_31 => ?_)
  rotate_left
  · exact absurd c20_31 (by decide)
  refine z_aload_n C 25 dX8_answerLength_25 rfl 0 rfl ?_
  refine z_iload_n C 26 dX8_answerLength_26 rfl 1 rfl ?_
  refine z_callVi C 27 (As := [.int (zI id)]) (rest := []) (c_X8_mappingFor l G (zup M 26 0 0 (zI 0)) (zWM_up0 hw) id (hPz1.t (by assumption))) zcl8 (show 0 < 1 by omega) (zc26 ..) (zW_of 1 C wm_8_149 wc_X8_mappingFor wini_8 wi_X8_mappingFor wse_X8_mappingFor ⟨by decide, by decide, by decide⟩ ⟨by decide, by decide⟩) rfl (Nat.le_of_ble_eq_true rfl) ⟨by decide, by decide⟩ dX8_answerLength_27 rfl (fun zq5 Mz6 hzq5 hPz5 => ?_)
  obtain ⟨rfl, hPz5⟩ := hPz5
  have hm2 : -1 ≤ zq5 ∧ zq5 < 24 := by have z1 := zfnd_rg hPz5; have z2 : znn (zup M 26 0 0 (zI 0)) = zV M 26 0 4 := zV_nj (by decide); omega
  refine z_istore_n (lv' := [(2, .int (zI zq5)), (0, .ref (zad G 26 0)), (1, .int (zI id))]) C 30 dX8_answerLength_30 rfl (by decide) rfl ?_
  refine z_aload_n C 31 dX8_answerLength_31 rfl 1 rfl ?_
  refine z_iload_n C 32 dX8_answerLength_32 rfl 2 rfl ?_
  refine z_iload_n C 33 dX8_answerLength_33 rfl 0 rfl ?_
  refine z_callVi C 34 (As := [.int (zI id), .int (zI zq5)]) (rest := []) (c_X8_bitsFor l G (zup M 26 0 0 (zI 0)) (zWM_up0 hw) id zq5 (hPz1.t (by assumption)) hm2 (zh16_up (h16 _ (zfnd_up0 hPz5)))) zcl8 (show 0 < 1 by omega) (zc26 ..) (zW_of 2 C wm_8_155 wc_X8_bitsFor wini_8 wi_X8_bitsFor wse_X8_bitsFor ⟨by decide, by decide, by decide⟩ ⟨by decide, by decide⟩) rfl (Nat.le_of_ble_eq_true rfl) ⟨by decide, by decide⟩ dX8_answerLength_34 rfl (fun zq7 Mz8 hzq7 hPz7 => ?_)
  obtain ⟨rfl, hPz7⟩ := hPz7
  have hL2 : 0 ≤ zq7 ∧ zq7 ≤ 16 := ⟨znb_0 (zWM_up0 hw) hm2 hPz7, hPz7.2.1⟩
  refine z_iload_n C 37 dX8_answerLength_37 rfl 0 rfl ?_
  refine z_iconst C 38 dX8_answerLength_38 ?_
  refine z_icmp_ne C 39 47 dX8_answerLength_39 (by decide) hzq5 (by decide) (fun c39_48 => ?_) (fun c39_48 => ?_)
  · refine z_iconst C 47 dX8_answerLength_47 ?_
    refine z_iadd C 48 dX8_answerLength_48 ?_
    refine z_iret C 49 dX8_answerLength_49 (by decide) (by decide) (by omega) ?_
    refine Or.inr ⟨hPz1.t (by assumption), zthr_1 _ (by decide), zq5, zq7, hPz5, hPz7, ?_⟩
    first | rw [if_pos (by assumption)] | rw [if_neg (by assumption)]
  refine z_bipush C 42 dX8_answerLength_42 (by decide +kernel) ?_
  refine z_goto C 44 48 dX8_answerLength_44 (by decide) ?_
  refine z_iadd C 48 dX8_answerLength_48 ?_
  refine z_iret C 49 dX8_answerLength_49 (by decide) (by decide) (by omega) ?_
  refine Or.inr ⟨hPz1.t (by assumption), zthr_1 _ (by decide), zq5, zq7, hPz5, hPz7, ?_⟩
  first | rw [if_pos (by assumption)] | rw [if_neg (by assumption)]
set_option maxHeartbeats 4000000 in
set_option maxRecDepth 100000 in
theorem c_X8_version (l : Launch) (G : zG) (M : zMem) (hw : zWM M) (a : Int) (ha : zrg a) : Met l yX8_version [.code yX8_version cX8_version 2 (some .int)] (zR 2 0 0) (zPc G M [.ref (zad G 26 0), .int (zI a)]) (zQi G (fun x M' => (¬ (0 ≤ a ∧ a < znn M) ∧ zthr M M' 1) ∨ ((0 ≤ a ∧ a < znn M) ∧ zthr M M' 0 ∧ x = if zng M a.toNat = 0 then zV M 38 0 a.toNat else -1))) 0 0 (zA G) := by
  refine z_met [(0, .ref (zad G 26 0)), (1, .int (zI a))] (by decide) (Nat.le_of_ble_eq_true rfl) rfl ?_
  intro p e s m below meth c C
  have C : zC p s m ([.ref (zad G 26 0), .int (zI a)] : List Value).toArray meth c G RX8 cX8_version 2 (some .int) := C
  have hw9z := hw
  obtain ⟨w1, w2, w3, w4, w5, w6, w7, w8, w9, w10, w11, w12, w13, w14⟩ := hw9z
  have hn9 : znn M = zV M 26 0 4 := rfl
  refine z_aload_n C 0 dX8_version_0 rfl 0 rfl ?_
  refine z_aload_n C 1 dX8_version_1 rfl 0 rfl ?_
  refine z_iload_n C 2 dX8_version_2 rfl 1 rfl ?_
  refine z_callVi C 3 (As := [.int (zI a)]) (rest := [.ref (zad G 26 0)]) (c_X8_isMapping l G M a ha w1) zcl8 (show 0 < 1 by omega) (zc26 ..) (zW_of 1 C wm_8_133 wc_X8_isMapping wini_8 wi_X8_isMapping wse_X8_isMapping ⟨by decide, by decide, by decide⟩ ⟨by decide, by decide⟩) rfl (Nat.le_of_ble_eq_true rfl) ⟨by decide, by decide⟩ dX8_version_3 rfl (fun zq1 Mz2 hzq1 hPz1 => ?_)
  obtain ⟨rfl, hPz1⟩ := hPz1
  refine z_if_eq C 6 13 dX8_version_6 (by decide) hzq1 (fun c6_14 => ?_) (fun c6_14 => ?_)
  · refine z_iconst C 13 dX8_version_13 ?_
    refine z_putI C 14 zcl8 (show 0 < 1 by omega) (zc26 ..) 0 (by decide) wf_8_99 rfl rfl rfl (Nat.le_of_ble_eq_true rfl) (zc26 ..) dX8_version_14 ?_
    refine z_aload_n C 17 dX8_version_17 rfl 0 rfl ?_
    refine z_getI C 18 zcl8 (show 0 < 1 by omega) (zc26 ..) 0 (by decide) rfl wf_8_99 dX8_version_18 (fun zq3 ezq3 hzq3 => ?_)
    rw [zV_eq (by first | assumption | decide | omega)] at ezq3
    subst ezq3
    refine z_if_le C 21 28 dX8_version_21 (by decide) (by decide) (fun c21_22 => ?_) (fun c21_22 => ?_)
    · exact absurd c21_22 (by decide)
    refine z_iconst C 24 dX8_version_24 ?_
    refine z_goto C 25 47 dX8_version_25 (by decide) ?_
    refine z_iret C 47 dX8_version_47 (by decide) (by decide) (by decide) ?_
    exact Or.inl ⟨hPz1.f (by assumption), zthr_1 _ (by decide)⟩
  have hcm := hPz1.t c6_14
  refine z_iconst C 9 dX8_version_9 ?_
  refine z_goto C 10 14 dX8_version_10 (by decide) ?_
  refine z_putI C 14 zcl8 (show 0 < 1 by omega) (zc26 ..) 0 (by decide) wf_8_99 rfl rfl rfl (Nat.le_of_ble_eq_true rfl) (zc26 ..) dX8_version_14 ?_
  refine z_aload_n C 17 dX8_version_17 rfl 0 rfl ?_
  refine z_getI C 18 zcl8 (show 0 < 1 by omega) (zc26 ..) 0 (by decide) rfl wf_8_99 dX8_version_18 (fun zq4 ezq4 hzq4 => ?_)
  rw [zV_eq (by first | assumption | decide | omega)] at ezq4
  subst ezq4
  refine z_if_le C 21 28 dX8_version_21 (by decide) (by decide) (fun c21_35 => ?_) (fun c21_35 => ?_)
  rotate_left
  · exact absurd c21_35 (by decide)
  refine z_aload_n C 28 dX8_version_28 rfl 0 rfl ?_
  refine z_get C 29 zcl8 (show 0 < 1 by omega) (zc26 ..) 7 (by decide) rfl wf_8_23 dX8_version_29 ?_
  refine z_iload_n C 32 dX8_version_32 rfl 1 rfl ?_
  refine z_zald C 33 (show 0 < 1 by omega) (zc37 ..) (by first | assumption | omega) (by omega) (show a < ((24 : Nat) : Int) by omega) dX8_version_33 (fun zq5 ezq5 hzq5 => ?_)
  rw [zV_ne (by decide)] at ezq5
  refine z_if_eq C 34 41 dX8_version_34 (by decide) hzq5 (fun c34_43 => ?_) (fun c34_43 => ?_)
  · refine z_aload_n C 41 dX8_version_41 rfl 0 rfl ?_
    refine z_get C 42 zcl8 (show 0 < 1 by omega) (zc26 ..) 8 (by decide) rfl wf_8_27 dX8_version_42 ?_
    refine z_iload_n C 45 dX8_version_45 rfl 1 rfl ?_
    refine z_iald C 46 (show 0 < 1 by omega) (zc38 ..) (by first | assumption | omega) (by omega) (show a < ((24 : Nat) : Int) by omega) dX8_version_46 (fun zq6 ezq6 hzq6 => ?_)
    rw [zV_ne (by decide)] at ezq6
    refine z_iret C 47 dX8_version_47 (by decide) (by decide) hzq6 ?_
    refine Or.inr ⟨hcm, zthr_1 _ (by decide), ?_⟩
    have hg9 : zng M a.toNat = zV M 37 0 a.toNat := rfl
    first | rw [if_pos (by omega)] | rw [if_neg (by omega)]
    first | done | omega
  refine z_iconst C 37 dX8_version_37 ?_
  refine z_goto C 38 47 dX8_version_38 (by decide) ?_
  refine z_iret C 47 dX8_version_47 (by decide) (by decide) (by decide) ?_
  refine Or.inr ⟨hcm, zthr_1 _ (by decide), ?_⟩
  have hg9 : zng M a.toNat = zV M 37 0 a.toNat := rfl
  first | rw [if_pos (by omega)] | rw [if_neg (by omega)]
  first | done | omega
set_option maxHeartbeats 4000000 in
set_option maxRecDepth 100000 in
theorem c_X8_addLocator (l : Launch) (G : zG) (M : zMem) (hw : zWM M) (a b pr w : Int) (ha : zrg a) (hb : zrg b) (hp : zrg pr) (hww : zrg w) : Met l yX8_addLocator [.code yX8_addLocator cX8_addLocator 7 (some .int)] (zR 4 0 0) (zPc G M [.ref (zad G 26 0), .int (zI a), .int (zI b), .int (zI pr), .int (zI w)]) (zQi G (fun x M' => (¬ (0 ≤ a ∧ a < znn M) ∧ zthr M M' 1) ∨ ((0 ≤ a ∧ a < znn M) ∧ ¬ ((0 ≤ b ∧ b < 32) ∧ (0 ≤ pr ∧ pr ≤ 3) ∧ 1 ≤ w ∧ w ≤ 10) ∧ zthr M M' 2) ∨ ((0 ≤ a ∧ a < znn M) ∧ ((0 ≤ b ∧ b < 32) ∧ (0 ≤ pr ∧ pr ≤ 3) ∧ 1 ≤ w ∧ w ≤ 10) ∧ ¬ (zng M a.toNat = 0 ∧ ¬ zV M 39 0 a.toNat = 4 ∧ ¬ znloc M a.toNat b) ∧ zthr M M' 3) ∨ ((0 ≤ a ∧ a < znn M) ∧ ((0 ≤ b ∧ b < 32) ∧ (0 ≤ pr ∧ pr ≤ 3) ∧ 1 ≤ w ∧ w ≤ 10) ∧ (zng M a.toNat = 0 ∧ ¬ zV M 39 0 a.toNat = 4 ∧ ¬ znloc M a.toNat b) ∧ x = zw (zV M 38 0 a.toNat + 1) ∧ ∃ M1, zthr M M1 0 ∧ zmsk (znver (znadd M1 a b pr w) a.toNat) M' a.toNat 24))) 0 0 (zA G) := by
  refine z_met [(0, .ref (zad G 26 0)), (1, .int (zI a)), (2, .int (zI b)), (3, .int (zI pr)), (4, .int (zI w))] (by decide) (Nat.le_of_ble_eq_true rfl) rfl ?_
  intro p e s m below meth c C
  have C : zC p s m ([.ref (zad G 26 0), .int (zI a), .int (zI b), .int (zI pr), .int (zI w)] : List Value).toArray meth c G RX8 cX8_addLocator 7 (some .int) := C
  have hw9z := hw
  obtain ⟨w1, w2, w3, w4, w5, w6, w7, w8, w9, w10, w11, w12, w13, w14⟩ := hw9z
  have hn9 : znn M = zV M 26 0 4 := rfl
  have J37_1 : ∀ (gd : Int), (zb gd ((0 ≤ b ∧ b < 32) ∧ (0 ≤ pr ∧ pr ≤ 3) ∧ 1 ≤ w ∧ w ≤ 10)) → zZ p l e (zR 4 0 0) s m ([.ref (zad G 26 0), .int (zI a), .int (zI b), .int (zI pr), .int (zI w)] : List Value).toArray below meth c G 7 (MQ below (zQi G (fun x M' => (¬ (0 ≤ a ∧ a < znn M) ∧ zthr M M' 1) ∨ ((0 ≤ a ∧ a < znn M) ∧ ¬ ((0 ≤ b ∧ b < 32) ∧ (0 ≤ pr ∧ pr ≤ 3) ∧ 1 ≤ w ∧ w ≤ 10) ∧ zthr M M' 2) ∨ ((0 ≤ a ∧ a < znn M) ∧ ((0 ≤ b ∧ b < 32) ∧ (0 ≤ pr ∧ pr ≤ 3) ∧ 1 ≤ w ∧ w ≤ 10) ∧ ¬ (zng M a.toNat = 0 ∧ ¬ zV M 39 0 a.toNat = 4 ∧ ¬ znloc M a.toNat b) ∧ zthr M M' 3) ∨ ((0 ≤ a ∧ a < znn M) ∧ ((0 ≤ b ∧ b < 32) ∧ (0 ≤ pr ∧ pr ≤ 3) ∧ 1 ≤ w ∧ w ≤ 10) ∧ (zng M a.toNat = 0 ∧ ¬ zV M 39 0 a.toNat = 4 ∧ ¬ znloc M a.toNat b) ∧ x = zw (zV M 38 0 a.toNat + 1) ∧ ∃ M1, zthr M M1 0 ∧ zmsk (znver (znadd M1 a b pr w) a.toNat) M' a.toNat 24))) ([.ref (zad G 26 0), .int (zI a), .int (zI b), .int (zI pr), .int (zI w)] : List Value).toArray s 0 0 (zA G)) M 0 0 37 [(0, .ref (zad G 26 0)), (1, .int (zI a)), (2, .int (zI b)), (3, .int (zI pr)), (4, .int (zI w)), (5, .int (zI gd))] [] := by
    intro gd hg
    refine z_aload_n C 37 dX8_addLocator_37 rfl 0 rfl ?_
    refine z_aload_n C 38 dX8_addLocator_38 rfl 0 rfl ?_
    refine z_iload_n C 39 dX8_addLocator_39 rfl 1 rfl ?_
    refine z_callVi C 40 (As := [.int (zI a)]) (rest := [.ref (zad G 26 0)]) (c_X8_isMapping l G M a ha w1) zcl8 (show 0 < 1 by omega) (zc26 ..) (zW_of 1 C wm_8_133 wc_X8_isMapping wini_8 wi_X8_isMapping wse_X8_isMapping ⟨by decide, by decide, by decide⟩ ⟨by decide, by decide⟩) rfl (Nat.le_of_ble_eq_true rfl) ⟨by decide, by decide⟩ dX8_addLocator_40 rfl (fun zq2 Mz3 hzq2 hPz2 => ?_)
    obtain ⟨rfl, hPz2⟩ := hPz2
    refine z_if_ne C 43 50 dX8_addLocator_43 (by decide) hzq2 (fun c43_16 => ?_) (fun c43_16 => ?_)
    · have hcm := hPz2.t c43_16
      refine z_iload C 50 dX8_addLocator_50 5 rfl ?_
      refine z_if_ne C 52 59 dX8_addLocator_52 (by decide) (by have := hg.1; omega) (fun c52_20 => ?_) (fun c52_20 => ?_)
      · have hca := hg.t c52_20
        refine z_iconst C 59 dX8_addLocator_59 ?_
        refine z_putI C 60 zcl8 (show 0 < 1 by omega) (zc26 ..) 0 (by decide) wf_8_99 rfl rfl rfl (Nat.le_of_ble_eq_true rfl) (zc26 ..) dX8_addLocator_60 ?_
        refine z_aload_n C 63 dX8_addLocator_63 rfl 0 rfl ?_
        refine z_getI C 64 zcl8 (show 0 < 1 by omega) (zc26 ..) 0 (by decide) rfl wf_8_99 dX8_addLocator_64 (fun zq4 ezq4 hzq4 => ?_)
        rw [zV_eq (by first | assumption | decide | omega)] at ezq4
        subst ezq4
        refine z_if_ne C 67 108 dX8_addLocator_67 (by decide) (by decide) (fun c67_29 => ?_) (fun c67_29 => ?_)
        · exact absurd c67_29 (by decide)
        refine z_aload_n C 70 dX8_addLocator_70 rfl 0 rfl ?_
        refine z_aload_n C 71 dX8_addLocator_71 rfl 0 rfl ?_
        refine z_get C 72 zcl8 (show 0 < 1 by omega) (zc26 ..) 7 (by decide) rfl wf_8_23 dX8_addLocator_72 ?_
        refine z_iload_n C 75 dX8_addLocator_75 rfl 1 rfl ?_
        refine z_zald C 76 (show 0 < 1 by omega) (zc37 ..) (by first | assumption | omega) (by omega) (show a < ((24 : Nat) : Int) by omega) dX8_addLocator_76 (fun zq5 ezq5 hzq5 => ?_)
        rw [zV_ne (by decide)] at ezq5
        refine z_if_ne C 77 100 dX8_addLocator_77 (by decide) hzq5 (fun c77_37 => ?_) (fun c77_37 => ?_)
        · have hX : ¬ (zng M a.toNat = 0 ∧ ¬ zV M 39 0 a.toNat = 4 ∧ ¬ znloc M a.toNat b) := fun z => by have z1 : zV M 37 0 a.toNat = 0 := z.1; omega
          refine z_iconst C 100 dX8_addLocator_100 ?_
          refine z_goto C 101 105 dX8_addLocator_101 (by decide) ?_
          refine z_putI C 105 zcl8 (show 0 < 1 by omega) (zc26 ..) 0 (by decide) wf_8_99 rfl rfl rfl (Nat.le_of_ble_eq_true rfl) (zc26 ..) dX8_addLocator_105 ?_
          refine z_aload_n C 108 dX8_addLocator_108 rfl 0 rfl ?_
          refine z_getI C 109 zcl8 (show 0 < 1 by omega) (zc26 ..) 0 (by decide) rfl wf_8_99 dX8_addLocator_109 (fun zq6 ezq6 hzq6 => ?_)
          rw [zV_eq (by first | assumption | decide | omega)] at ezq6
          subst ezq6
          refine z_if_le C 112 117 dX8_addLocator_112 (by decide) (by decide) (fun c112_47 => ?_) (fun c112_47 => ?_)
          · exact absurd c112_47 (by decide)
          refine z_iconst C 115 dX8_addLocator_115 ?_
          refine z_iret C 116 dX8_addLocator_116 (by decide) (by decide) (by decide) ?_
          first | exact Or.inl ⟨hPz2.f (by assumption), zthr_1 _ (by decide)⟩ | exact Or.inr (Or.inl ⟨hcm, hg.f (by assumption), zthr_1 _ (by decide)⟩) | exact Or.inr (Or.inr (Or.inl ⟨hcm, hca, hX, zthr_2 _ _ (by decide)⟩))
        refine z_aload_n C 80 dX8_addLocator_80 rfl 0 rfl ?_
        refine z_get C 81 zcl8 (show 0 < 1 by omega) (zc26 ..) 9 (by decide) rfl wf_8_30 dX8_addLocator_81 ?_
        refine z_iload_n C 84 dX8_addLocator_84 rfl 1 rfl ?_
        refine z_iald C 85 (show 0 < 1 by omega) (zc39 ..) (by first | assumption | omega) (by omega) (show a < ((24 : Nat) : Int) by omega) dX8_addLocator_85 (fun zq7 ezq7 hzq7 => ?_)
        rw [zV_ne (by decide)] at ezq7
        refine z_iconst C 86 dX8_addLocator_86 ?_
        refine z_icmp_eq C 87 100 dX8_addLocator_87 (by decide) hzq7 (by decide) (fun c87_57 => ?_) (fun c87_57 => ?_)
        · have hX : ¬ (zng M a.toNat = 0 ∧ ¬ zV M 39 0 a.toNat = 4 ∧ ¬ znloc M a.toNat b) := fun z => z.2.1 (by omega)
          refine z_iconst C 100 dX8_addLocator_100 ?_
          refine z_goto C 101 105 dX8_addLocator_101 (by decide) ?_
          refine z_putI C 105 zcl8 (show 0 < 1 by omega) (zc26 ..) 0 (by decide) wf_8_99 rfl rfl rfl (Nat.le_of_ble_eq_true rfl) (zc26 ..) dX8_addLocator_105 ?_
          refine z_aload_n C 108 dX8_addLocator_108 rfl 0 rfl ?_
          refine z_getI C 109 zcl8 (show 0 < 1 by omega) (zc26 ..) 0 (by decide) rfl wf_8_99 dX8_addLocator_109 (fun zq8 ezq8 hzq8 => ?_)
          rw [zV_eq (by first | assumption | decide | omega)] at ezq8
          subst ezq8
          refine z_if_le C 112 117 dX8_addLocator_112 (by decide) (by decide) (fun c112_67 => ?_) (fun c112_67 => ?_)
          · exact absurd c112_67 (by decide)
          refine z_iconst C 115 dX8_addLocator_115 ?_
          refine z_iret C 116 dX8_addLocator_116 (by decide) (by decide) (by decide) ?_
          first | exact Or.inl ⟨hPz2.f (by assumption), zthr_1 _ (by decide)⟩ | exact Or.inr (Or.inl ⟨hcm, hg.f (by assumption), zthr_1 _ (by decide)⟩) | exact Or.inr (Or.inr (Or.inl ⟨hcm, hca, hX, zthr_2 _ _ (by decide)⟩))
        refine z_aload_n C 90 dX8_addLocator_90 rfl 0 rfl ?_
        refine z_iload_n C 91 dX8_addLocator_91 rfl 1 rfl ?_
        refine z_iload_n C 92 dX8_addLocator_92 rfl 2 rfl ?_
        refine z_callVi C 93 (As := [.int (zI a), .int (zI b)]) (rest := [.ref (zad G 26 0)]) (c_X8_placeOf l G (zup M 26 0 0 (zI 0)) a b (by omega) (by rw [zV_ne (by decide)]; exact w3 _ (by omega)) hb) zcl8 (show 0 < 1 by omega) (zc26 ..) (zW_of 2 C wm_8_136 wc_X8_placeOf wini_8 wi_X8_placeOf wse_X8_placeOf ⟨by decide, by decide, by decide⟩ ⟨by decide, by decide⟩) rfl (Nat.le_of_ble_eq_true rfl) ⟨by decide, by decide⟩ dX8_addLocator_93 rfl (fun zq9 Mz10 hzq9 hPz9 => ?_)
        obtain ⟨rfl, hPz9⟩ := hPz9
        refine z_iconst C 96 dX8_addLocator_96 ?_
        refine z_icmp_eq C 97 104 dX8_addLocator_97 (by decide) hzq9 (by decide) (fun c97_77 => ?_) (fun c97_77 => ?_)
        · have hY : (zng M a.toNat = 0 ∧ ¬ zV M 39 0 a.toNat = 4 ∧ ¬ znloc M a.toNat b) := ⟨by show zV M 37 0 a.toNat = 0; omega, by omega, znp_n (znp_up hPz9) c97_77⟩
          refine z_iconst C 104 dX8_addLocator_104 ?_
          refine z_putI C 105 zcl8 (show 0 < 1 by omega) (zc26 ..) 0 (by decide) wf_8_99 rfl rfl rfl (Nat.le_of_ble_eq_true rfl) (zc26 ..) dX8_addLocator_105 ?_
          refine z_aload_n C 108 dX8_addLocator_108 rfl 0 rfl ?_
          refine z_getI C 109 zcl8 (show 0 < 1 by omega) (zc26 ..) 0 (by decide) rfl wf_8_99 dX8_addLocator_109 (fun zq11 ezq11 hzq11 => ?_)
          rw [zV_eq (by first | assumption | decide | omega)] at ezq11
          subst ezq11
          refine z_if_le C 112 117 dX8_addLocator_112 (by decide) (by decide) (fun c112_86 => ?_) (fun c112_86 => ?_)
          rotate_left
          · exact absurd c112_86 (by decide)
          refine z_iconst C 117 dX8_addLocator_117 ?_
          refine z_iload_n C 118 dX8_addLocator_118 rfl 1 rfl ?_
          refine z_imul C 119 dX8_addLocator_119 ?_
          refine z_aload_n C 120 dX8_addLocator_120 rfl 0 rfl ?_
          refine z_get C 121 zcl8 (show 0 < 1 by omega) (zc26 ..) 9 (by decide) rfl wf_8_30 dX8_addLocator_121 ?_
          refine z_iload_n C 124 dX8_addLocator_124 rfl 1 rfl ?_
          refine z_iald C 125 (show 0 < 1 by omega) (zc39 ..) (by first | assumption | omega) (by omega) (show a < ((24 : Nat) : Int) by omega) dX8_addLocator_125 (fun zq12 ezq12 hzq12 => ?_)
          rw [zV_ne (by decide)] at ezq12
          rw [zV_ne (by decide)] at ezq12
          refine z_iadd C 126 dX8_addLocator_126 ?_
          refine z_istore (lv' := [(6, .int (zI ((4 * a) + zq12))), (0, .ref (zad G 26 0)), (1, .int (zI a)), (2, .int (zI b)), (3, .int (zI pr)), (4, .int (zI w)), (5, .int (zI gd))]) C 127 dX8_addLocator_127 (by decide) rfl ?_
          have hmm1 := w3 a.toNat (by omega)
          refine z_aload_n C 129 dX8_addLocator_129 rfl 1 rfl ?_
          refine z_get C 130 zcl8 (show 0 < 1 by omega) (zc26 ..) 9 (by decide) rfl wf_8_30 dX8_addLocator_130 ?_
          refine z_iload_n C 133 dX8_addLocator_133 rfl 2 rfl ?_
          refine z_dup2 C 134 dX8_addLocator_134 rfl rfl ?_
          refine z_iald C 135 (show 0 < 1 by omega) (zc39 ..) (by first | assumption | omega) (by omega) (show a < ((24 : Nat) : Int) by omega) dX8_addLocator_135 (fun zq13 ezq13 hzq13 => ?_)
          rw [zV_ne (by decide)] at ezq13
          rw [zV_ne (by decide)] at ezq13
          refine z_iconst C 136 dX8_addLocator_136 ?_
          refine z_iadd C 137 dX8_addLocator_137 ?_
          refine z_iast C 138 (show 0 < 1 by omega) (zc39 ..) (by first | assumption | omega) (by omega) (show a < ((24 : Nat) : Int) by omega) (zc39 ..) dX8_addLocator_138 ?_
          refine z_aload_n C 139 dX8_addLocator_139 rfl 1 rfl ?_
          refine z_get C 140 zcl8 (show 0 < 1 by omega) (zc26 ..) 10 (by decide) rfl wf_8_33 dX8_addLocator_140 ?_
          refine z_iload C 143 dX8_addLocator_143 0 rfl ?_
          refine z_iload_n C 145 dX8_addLocator_145 rfl 3 rfl ?_
          refine z_iast C 146 (show 0 < 1 by omega) (zc40 ..) (by first | assumption | omega) (by omega) (show ((4 * a) + zq12) < ((96 : Nat) : Int) by omega) (zc40 ..) dX8_addLocator_146 ?_
          refine z_aload_n C 147 dX8_addLocator_147 rfl 1 rfl ?_
          refine z_get C 148 zcl8 (show 0 < 1 by omega) (zc26 ..) 11 (by decide) rfl wf_8_36 dX8_addLocator_148 ?_
          refine z_iload C 151 dX8_addLocator_151 0 rfl ?_
          refine z_iload_n C 153 dX8_addLocator_153 rfl 4 rfl ?_
          refine z_iast C 154 (show 0 < 1 by omega) (zc41 ..) (by first | assumption | omega) (by omega) (show ((4 * a) + zq12) < ((96 : Nat) : Int) by omega) (zc41 ..) dX8_addLocator_154 ?_
          refine z_aload_n C 155 dX8_addLocator_155 rfl 1 rfl ?_
          refine z_get C 156 zcl8 (show 0 < 1 by omega) (zc26 ..) 12 (by decide) rfl wf_8_39 dX8_addLocator_156 ?_
          refine z_iload C 159 dX8_addLocator_159 0 rfl ?_
          refine z_iload C 161 dX8_addLocator_161 5 rfl ?_
          refine z_iast C 163 (show 0 < 1 by omega) (zc42 ..) (by first | assumption | omega) (by omega) (show ((4 * a) + zq12) < ((96 : Nat) : Int) by omega) (zc42 ..) dX8_addLocator_163 ?_
          have hmm : 0 ≤ zq13 + 1 ∧ zq13 + 1 ≤ 4 := by omega
          refine z_aload_n C 164 dX8_addLocator_164 rfl 1 rfl ?_
          refine z_iload_n C 165 dX8_addLocator_165 rfl 2 rfl ?_
          refine z_callVi C 166 (As := [.int (zI a)]) (rest := []) (c_X8_changes l G (zup (zup (zup (zup (zup (zup M 26 0 0 (zI 0)) 26 0 0 (zI 0)) 39 0 a.toNat (zI (zq13 + 1))) 40 0 ((4 * a) + zq12).toNat (zI b)) 41 0 ((4 * a) + zq12).toNat (zI pr)) 42 0 ((4 * a) + zq12).toNat (zI w)) (zWM_add hw hmm hca.1) a (by omega)) zcl8 (show 0 < 1 by omega) (zc26 ..) (zW_of 1 C wm_8_139 wc_X8_changes wini_8 wi_X8_changes wse_X8_changes ⟨by decide, by decide, by decide⟩ ⟨by decide, by decide⟩) rfl (Nat.le_of_ble_eq_true rfl) ⟨by decide, by decide⟩ dX8_addLocator_166 rfl (fun zq14 Mz15 hzq14 hPz14 => ?_)
          refine z_iret C 169 dX8_addLocator_169 (by decide) (by decide) hzq14 ?_
          refine Or.inr (Or.inr (Or.inr ⟨hcm, hca, hY, ?_, _, zthr_2 _ (zI 0) (by decide), ?_⟩))
          · rw [hPz14.1, zV_ne (by decide), zV_ne (by decide), zV_ne (by decide), zV_ne (by decide), zV_ne (by decide), zV_ne (by decide)]
          · have h9 := hPz14.2
            have e9 : zV (zup (zup M 26 0 0 (zI 0)) 26 0 0 (zI 0)) 39 0 a.toNat = zV M 39 0 a.toNat := by rw [zV_ne (by decide), zV_ne (by decide)]
            rw [ezq12, ezq13] at h9
            unfold znadd
            rw [e9]
            exact h9
        have hX : ¬ (zng M a.toNat = 0 ∧ ¬ zV M 39 0 a.toNat = 4 ∧ ¬ znloc M a.toNat b) := fun z => z.2.2 (znp_yl (znp_up hPz9) c97_77)
        refine z_iconst C 100 dX8_addLocator_100 ?_
        refine z_goto C 101 105 dX8_addLocator_101 (by decide) ?_
        refine z_putI C 105 zcl8 (show 0 < 1 by omega) (zc26 ..) 0 (by decide) wf_8_99 rfl rfl rfl (Nat.le_of_ble_eq_true rfl) (zc26 ..) dX8_addLocator_105 ?_
        refine z_aload_n C 108 dX8_addLocator_108 rfl 0 rfl ?_
        refine z_getI C 109 zcl8 (show 0 < 1 by omega) (zc26 ..) 0 (by decide) rfl wf_8_99 dX8_addLocator_109 (fun zq16 ezq16 hzq16 => ?_)
        rw [zV_eq (by first | assumption | decide | omega)] at ezq16
        subst ezq16
        refine z_if_le C 112 117 dX8_addLocator_112 (by decide) (by decide) (fun c112_146 => ?_) (fun c112_146 => ?_)
        · exact absurd c112_146 (by decide)
        refine z_iconst C 115 dX8_addLocator_115 ?_
        refine z_iret C 116 dX8_addLocator_116 (by decide) (by decide) (by decide) ?_
        first | exact Or.inl ⟨hPz2.f (by assumption), zthr_1 _ (by decide)⟩ | exact Or.inr (Or.inl ⟨hcm, hg.f (by assumption), zthr_1 _ (by decide)⟩) | exact Or.inr (Or.inr (Or.inl ⟨hcm, hca, hX, zthr_2 _ _ (by decide)⟩))
      refine z_iconst C 55 dX8_addLocator_55 ?_
      refine z_goto C 56 60 dX8_addLocator_56 (by decide) ?_
      refine z_putI C 60 zcl8 (show 0 < 1 by omega) (zc26 ..) 0 (by decide) wf_8_99 rfl rfl rfl (Nat.le_of_ble_eq_true rfl) (zc26 ..) dX8_addLocator_60 ?_
      refine z_aload_n C 63 dX8_addLocator_63 rfl 0 rfl ?_
      refine z_getI C 64 zcl8 (show 0 < 1 by omega) (zc26 ..) 0 (by decide) rfl wf_8_99 dX8_addLocator_64 (fun zq17 ezq17 hzq17 => ?_)
      rw [zV_eq (by first | assumption | decide | omega)] at ezq17
      subst ezq17
      refine z_if_ne C 67 108 dX8_addLocator_67 (by decide) (by decide) (fun c67_157 => ?_) (fun c67_157 => ?_)
      rotate_left
      · exact absurd c67_157 (by decide)
      refine z_aload_n C 108 dX8_addLocator_108 rfl 0 rfl ?_
      refine z_getI C 109 zcl8 (show 0 < 1 by omega) (zc26 ..) 0 (by decide) rfl wf_8_99 dX8_addLocator_109 (fun zq18 ezq18 hzq18 => ?_)
      rw [zV_eq (by first | assumption | decide | omega)] at ezq18
      subst ezq18
      refine z_if_le C 112 117 dX8_addLocator_112 (by decide) (by decide) (fun c112_164 => ?_) (fun c112_164 => ?_)
      · exact absurd c112_164 (by decide)
      refine z_iconst C 115 dX8_addLocator_115 ?_
      refine z_iret C 116 dX8_addLocator_116 (by decide) (by decide) (by decide) ?_
      first | exact Or.inl ⟨hPz2.f (by assumption), zthr_1 _ (by decide)⟩ | exact Or.inr (Or.inl ⟨hcm, hg.f (by assumption), zthr_1 _ (by decide)⟩) | exact Or.inr (Or.inr (Or.inl ⟨hcm, hca, hX, zthr_2 _ _ (by decide)⟩))
    refine z_iconst C 46 dX8_addLocator_46 ?_
    refine z_goto C 47 60 dX8_addLocator_47 (by decide) ?_
    refine z_putI C 60 zcl8 (show 0 < 1 by omega) (zc26 ..) 0 (by decide) wf_8_99 rfl rfl rfl (Nat.le_of_ble_eq_true rfl) (zc26 ..) dX8_addLocator_60 ?_
    refine z_aload_n C 63 dX8_addLocator_63 rfl 0 rfl ?_
    refine z_getI C 64 zcl8 (show 0 < 1 by omega) (zc26 ..) 0 (by decide) rfl wf_8_99 dX8_addLocator_64 (fun zq19 ezq19 hzq19 => ?_)
    rw [zV_eq (by first | assumption | decide | omega)] at ezq19
    subst ezq19
    refine z_if_ne C 67 108 dX8_addLocator_67 (by decide) (by decide) (fun c67_175 => ?_) (fun c67_175 => ?_)
    rotate_left
    · exact absurd c67_175 (by decide)
    refine z_aload_n C 108 dX8_addLocator_108 rfl 0 rfl ?_
    refine z_getI C 109 zcl8 (show 0 < 1 by omega) (zc26 ..) 0 (by decide) rfl wf_8_99 dX8_addLocator_109 (fun zq20 ezq20 hzq20 => ?_)
    rw [zV_eq (by first | assumption | decide | omega)] at ezq20
    subst ezq20
    refine z_if_le C 112 117 dX8_addLocator_112 (by decide) (by decide) (fun c112_182 => ?_) (fun c112_182 => ?_)
    · exact absurd c112_182 (by decide)
    refine z_iconst C 115 dX8_addLocator_115 ?_
    refine z_iret C 116 dX8_addLocator_116 (by decide) (by decide) (by decide) ?_
    first | exact Or.inl ⟨hPz2.f (by assumption), zthr_1 _ (by decide)⟩ | exact Or.inr (Or.inl ⟨hcm, hg.f (by assumption), zthr_1 _ (by decide)⟩) | exact Or.inr (Or.inr (Or.inl ⟨hcm, hca, hX, zthr_2 _ _ (by decide)⟩))
  refine z_iload_n C 0 dX8_addLocator_0 rfl 2 rfl ?_
  refine z_iconst C 1 dX8_addLocator_1 ?_
  refine z_bipush C 2 dX8_addLocator_2 (by decide +kernel) ?_
  refine z_callSi C 4 (As := [.int (zI b), .int (zI 0), .int (zI 31)]) (rest := []) (c_X8_in l G M b 0 31 (by first | assumption | decide | omega) (by first | assumption | decide | omega) (by first | assumption | decide | omega)) (zS_of 3 C wm_8_103 wc_X8_in wini_8 wst_X8_in ⟨by decide, by decide, by decide⟩ ⟨by decide, by decide⟩) rfl (Nat.le_of_ble_eq_true rfl) ⟨by decide, by decide⟩ dX8_addLocator_4 rfl (fun zq21 Mz22 hzq21 hPz21 => ?_)
  obtain ⟨rfl, hPz21⟩ := hPz21
  refine z_if_eq C 7 34 dX8_addLocator_7 (by decide) hzq21 (fun c7_192 => ?_) (fun c7_192 => ?_)
  · have hF : ¬ ((0 ≤ b ∧ b < 32) ∧ (0 ≤ pr ∧ pr ≤ 3) ∧ 1 ≤ w ∧ w ≤ 10) := fun z => hPz21.f c7_192 (by omega)
    refine z_iconst C 34 dX8_addLocator_34 ?_
    refine z_istore (lv' := [(5, .int (zI 0)), (0, .ref (zad G 26 0)), (1, .int (zI a)), (2, .int (zI b)), (3, .int (zI pr)), (4, .int (zI w))]) C 35 dX8_addLocator_35 (by decide) rfl ?_
    refine z_sub (lv' := [(0, .ref (zad G 26 0)), (1, .int (zI a)), (2, .int (zI b)), (3, .int (zI pr)), (4, .int (zI w)), (5, .int (zI 0))]) [1, 2, 3, 4, 5, 0] rfl ?_
    exact J37_1 0 (by exact zb.zero hF)
  refine z_iload_n C 10 dX8_addLocator_10 rfl 3 rfl ?_
  refine z_iconst C 11 dX8_addLocator_11 ?_
  refine z_iconst C 12 dX8_addLocator_12 ?_
  refine z_callSi C 13 (As := [.int (zI pr), .int (zI 0), .int (zI 3)]) (rest := []) (c_X8_in l G M pr 0 3 (by first | assumption | decide | omega) (by first | assumption | decide | omega) (by first | assumption | decide | omega)) (zS_of 3 C wm_8_103 wc_X8_in wini_8 wst_X8_in ⟨by decide, by decide, by decide⟩ ⟨by decide, by decide⟩) rfl (Nat.le_of_ble_eq_true rfl) ⟨by decide, by decide⟩ dX8_addLocator_13 rfl (fun zq23 Mz24 hzq23 hPz23 => ?_)
  obtain ⟨rfl, hPz23⟩ := hPz23
  refine z_if_eq C 16 34 dX8_addLocator_16 (by decide) hzq23 (fun c16_203 => ?_) (fun c16_203 => ?_)
  · have hF : ¬ ((0 ≤ b ∧ b < 32) ∧ (0 ≤ pr ∧ pr ≤ 3) ∧ 1 ≤ w ∧ w ≤ 10) := fun z => hPz23.f c16_203 (by omega)
    refine z_iconst C 34 dX8_addLocator_34 ?_
    refine z_istore (lv' := [(5, .int (zI 0)), (0, .ref (zad G 26 0)), (1, .int (zI a)), (2, .int (zI b)), (3, .int (zI pr)), (4, .int (zI w))]) C 35 dX8_addLocator_35 (by decide) rfl ?_
    refine z_sub (lv' := [(0, .ref (zad G 26 0)), (1, .int (zI a)), (2, .int (zI b)), (3, .int (zI pr)), (4, .int (zI w)), (5, .int (zI 0))]) [1, 2, 3, 4, 5, 0] rfl ?_
    exact J37_1 0 (by exact zb.zero hF)
  refine z_iload C 19 dX8_addLocator_19 4 rfl ?_
  refine z_iconst C 21 dX8_addLocator_21 ?_
  refine z_bipush C 22 dX8_addLocator_22 (by decide +kernel) ?_
  refine z_callSi C 24 (As := [.int (zI w), .int (zI 1), .int (zI 10)]) (rest := []) (c_X8_in l G M w 1 10 (by first | assumption | decide | omega) (by first | assumption | decide | omega) (by first | assumption | decide | omega)) (zS_of 3 C wm_8_103 wc_X8_in wini_8 wst_X8_in ⟨by decide, by decide, by decide⟩ ⟨by decide, by decide⟩) rfl (Nat.le_of_ble_eq_true rfl) ⟨by decide, by decide⟩ dX8_addLocator_24 rfl (fun zq25 Mz26 hzq25 hPz25 => ?_)
  obtain ⟨rfl, hPz25⟩ := hPz25
  refine z_if_eq C 27 34 dX8_addLocator_27 (by decide) hzq25 (fun c27_214 => ?_) (fun c27_214 => ?_)
  · have hF : ¬ ((0 ≤ b ∧ b < 32) ∧ (0 ≤ pr ∧ pr ≤ 3) ∧ 1 ≤ w ∧ w ≤ 10) := fun z => hPz25.f c27_214 (by omega)
    refine z_iconst C 34 dX8_addLocator_34 ?_
    refine z_istore (lv' := [(5, .int (zI 0)), (0, .ref (zad G 26 0)), (1, .int (zI a)), (2, .int (zI b)), (3, .int (zI pr)), (4, .int (zI w))]) C 35 dX8_addLocator_35 (by decide) rfl ?_
    refine z_sub (lv' := [(0, .ref (zad G 26 0)), (1, .int (zI a)), (2, .int (zI b)), (3, .int (zI pr)), (4, .int (zI w)), (5, .int (zI 0))]) [1, 2, 3, 4, 5, 0] rfl ?_
    exact J37_1 0 (by exact zb.zero hF)
  refine z_iconst C 30 dX8_addLocator_30 ?_
  refine z_goto C 31 35 dX8_addLocator_31 (by decide) ?_
  refine z_istore (lv' := [(5, .int (zI 1)), (0, .ref (zad G 26 0)), (1, .int (zI a)), (2, .int (zI b)), (3, .int (zI pr)), (4, .int (zI w))]) C 35 dX8_addLocator_35 (by decide) rfl ?_
  refine z_sub (lv' := [(0, .ref (zad G 26 0)), (1, .int (zI a)), (2, .int (zI b)), (3, .int (zI pr)), (4, .int (zI w)), (5, .int (zI 1))]) [1, 2, 3, 4, 5, 0] rfl ?_
  exact J37_1 1 (by exact zb.one ⟨by have := hPz21.t (by assumption); omega, hPz23.t (by assumption), hPz25.t (by assumption)⟩)
set_option maxHeartbeats 4000000 in
set_option maxRecDepth 100000 in
theorem c_X8_move (l : Launch) (G : zG) (M : zMem) (hw : zWM M) (a b t : Int) (ha : zrg a) (hb : zrg b) (ht : zrg t) : Met l yX8_move [.code yX8_move cX8_move 5 (some .int)] (zR 4 0 0) (zPc G M [.ref (zad G 26 0), .int (zI a), .int (zI b), .int (zI t)]) (zQi G (fun x M' => (¬ (0 ≤ a ∧ a < znn M) ∧ zthr M M' 1) ∨ ((0 ≤ a ∧ a < znn M) ∧ ¬ ((0 ≤ b ∧ b < 32) ∧ 0 ≤ t ∧ t < 32) ∧ zthr M M' 2) ∨ ((0 ≤ a ∧ a < znn M) ∧ ((0 ≤ b ∧ b < 32) ∧ 0 ≤ t ∧ t < 32) ∧ ¬ (zng M a.toNat = 0 ∧ znloc M a.toNat b ∧ ¬ znloc M a.toNat t) ∧ zthr M M' 3) ∨ ((0 ≤ a ∧ a < znn M) ∧ ((0 ≤ b ∧ b < 32) ∧ 0 ≤ t ∧ t < 32) ∧ (zng M a.toNat = 0 ∧ znloc M a.toNat b ∧ ¬ znloc M a.toNat t) ∧ x = zw (zV M 38 0 a.toNat + 1) ∧ ∃ (j : Nat) (M1 : zMem), (j : Int) < zV M 39 0 a.toNat ∧ zV M 40 0 (4 * a.toNat + j) = b ∧ zthr M M1 0 ∧ zmsk (znver (zup M1 40 0 (4 * a.toNat + j) (zI t)) a.toNat) M' a.toNat 24))) 0 0 (zA G) := by
  refine z_met [(0, .ref (zad G 26 0)), (1, .int (zI a)), (2, .int (zI b)), (3, .int (zI t))] (by decide) (Nat.le_of_ble_eq_true rfl) rfl ?_
  intro p e s m below meth c C
  have C : zC p s m ([.ref (zad G 26 0), .int (zI a), .int (zI b), .int (zI t)] : List Value).toArray meth c G RX8 cX8_move 5 (some .int) := C
  have hw9z := hw
  obtain ⟨w1, w2, w3, w4, w5, w6, w7, w8, w9, w10, w11, w12, w13, w14⟩ := hw9z
  have hn9 : znn M = zV M 26 0 4 := rfl
  refine z_aload_n C 0 dX8_move_0 rfl 0 rfl ?_
  refine z_aload_n C 1 dX8_move_1 rfl 0 rfl ?_
  refine z_iload_n C 2 dX8_move_2 rfl 1 rfl ?_
  refine z_callVi C 3 (As := [.int (zI a)]) (rest := [.ref (zad G 26 0)]) (c_X8_isMapping l G M a ha w1) zcl8 (show 0 < 1 by omega) (zc26 ..) (zW_of 1 C wm_8_133 wc_X8_isMapping wini_8 wi_X8_isMapping wse_X8_isMapping ⟨by decide, by decide, by decide⟩ ⟨by decide, by decide⟩) rfl (Nat.le_of_ble_eq_true rfl) ⟨by decide, by decide⟩ dX8_move_3 rfl (fun zq1 Mz2 hzq1 hPz1 => ?_)
  obtain ⟨rfl, hPz1⟩ := hPz1
  refine z_if_ne C 6 13 dX8_move_6 (by decide) hzq1 (fun c6_14 => ?_) (fun c6_14 => ?_)
  · have hcm := hPz1.t c6_14
    refine z_iload_n C 13 dX8_move_13 rfl 2 rfl ?_
    refine z_iconst C 14 dX8_move_14 ?_
    refine z_bipush C 15 dX8_move_15 (by decide +kernel) ?_
    refine z_callSi C 17 (As := [.int (zI b), .int (zI 0), .int (zI 31)]) (rest := [.ref (zad G 26 0)]) (c_X8_in l G M b 0 31 (by first | assumption | decide | omega) (by first | assumption | decide | omega) (by first | assumption | decide | omega)) (zS_of 3 C wm_8_103 wc_X8_in wini_8 wst_X8_in ⟨by decide, by decide, by decide⟩ ⟨by decide, by decide⟩) rfl (Nat.le_of_ble_eq_true rfl) ⟨by decide, by decide⟩ dX8_move_17 rfl (fun zq3 Mz4 hzq3 hPz3 => ?_)
    obtain ⟨rfl, hPz3⟩ := hPz3
    refine z_if_eq C 20 37 dX8_move_20 (by decide) hzq3 (fun c20_22 => ?_) (fun c20_22 => ?_)
    · have hF : ¬ ((0 ≤ b ∧ b < 32) ∧ 0 ≤ t ∧ t < 32) := fun z => hPz3.f c20_22 (by omega)
      refine z_iconst C 37 dX8_move_37 ?_
      refine z_putI C 38 zcl8 (show 0 < 1 by omega) (zc26 ..) 0 (by decide) wf_8_99 rfl rfl rfl (Nat.le_of_ble_eq_true rfl) (zc26 ..) dX8_move_38 ?_
      refine z_aload_n C 41 dX8_move_41 rfl 0 rfl ?_
      refine z_getI C 42 zcl8 (show 0 < 1 by omega) (zc26 ..) 0 (by decide) rfl wf_8_99 dX8_move_42 (fun zq5 ezq5 hzq5 => ?_)
      rw [zV_eq (by first | assumption | decide | omega)] at ezq5
      subst ezq5
      refine z_if_ne C 45 98 dX8_move_45 (by decide) (by decide) (fun c45_31 => ?_) (fun c45_31 => ?_)
      rotate_left
      · exact absurd c45_31 (by decide)
      refine z_aload_n C 98 dX8_move_98 rfl 0 rfl ?_
      refine z_getI C 99 zcl8 (show 0 < 1 by omega) (zc26 ..) 0 (by decide) rfl wf_8_99 dX8_move_99 (fun zq6 ezq6 hzq6 => ?_)
      rw [zV_eq (by first | assumption | decide | omega)] at ezq6
      subst ezq6
      refine z_if_le C 102 107 dX8_move_102 (by decide) (by decide) (fun c102_38 => ?_) (fun c102_38 => ?_)
      · exact absurd c102_38 (by decide)
      refine z_iconst C 105 dX8_move_105 ?_
      refine z_iret C 106 dX8_move_106 (by decide) (by decide) (by decide) ?_
      first | exact Or.inl ⟨hPz1.f (by assumption), zthr_1 _ (by decide)⟩ | exact Or.inr (Or.inl ⟨hcm, hF, zthr_1 _ (by decide)⟩) | exact Or.inr (Or.inr (Or.inl ⟨hcm, hca, hX, zthr_2 _ _ (by decide)⟩))
    refine z_iload_n C 23 dX8_move_23 rfl 3 rfl ?_
    refine z_iconst C 24 dX8_move_24 ?_
    refine z_bipush C 25 dX8_move_25 (by decide +kernel) ?_
    refine z_callSi C 27 (As := [.int (zI t), .int (zI 0), .int (zI 31)]) (rest := [.ref (zad G 26 0)]) (c_X8_in l G M t 0 31 (by first | assumption | decide | omega) (by first | assumption | decide | omega) (by first | assumption | decide | omega)) (zS_of 3 C wm_8_103 wc_X8_in wini_8 wst_X8_in ⟨by decide, by decide, by decide⟩ ⟨by decide, by decide⟩) rfl (Nat.le_of_ble_eq_true rfl) ⟨by decide, by decide⟩ dX8_move_27 rfl (fun zq7 Mz8 hzq7 hPz7 => ?_)
    obtain ⟨rfl, hPz7⟩ := hPz7
    refine z_if_eq C 30 37 dX8_move_30 (by decide) hzq7 (fun c30_47 => ?_) (fun c30_47 => ?_)
    · have hF : ¬ ((0 ≤ b ∧ b < 32) ∧ 0 ≤ t ∧ t < 32) := fun z => hPz7.f c30_47 (by omega)
      refine z_iconst C 37 dX8_move_37 ?_
      refine z_putI C 38 zcl8 (show 0 < 1 by omega) (zc26 ..) 0 (by decide) wf_8_99 rfl rfl rfl (Nat.le_of_ble_eq_true rfl) (zc26 ..) dX8_move_38 ?_
      refine z_aload_n C 41 dX8_move_41 rfl 0 rfl ?_
      refine z_getI C 42 zcl8 (show 0 < 1 by omega) (zc26 ..) 0 (by decide) rfl wf_8_99 dX8_move_42 (fun zq9 ezq9 hzq9 => ?_)
      rw [zV_eq (by first | assumption | decide | omega)] at ezq9
      subst ezq9
      refine z_if_ne C 45 98 dX8_move_45 (by decide) (by decide) (fun c45_56 => ?_) (fun c45_56 => ?_)
      rotate_left
      · exact absurd c45_56 (by decide)
      refine z_aload_n C 98 dX8_move_98 rfl 0 rfl ?_
      refine z_getI C 99 zcl8 (show 0 < 1 by omega) (zc26 ..) 0 (by decide) rfl wf_8_99 dX8_move_99 (fun zq10 ezq10 hzq10 => ?_)
      rw [zV_eq (by first | assumption | decide | omega)] at ezq10
      subst ezq10
      refine z_if_le C 102 107 dX8_move_102 (by decide) (by decide) (fun c102_63 => ?_) (fun c102_63 => ?_)
      · exact absurd c102_63 (by decide)
      refine z_iconst C 105 dX8_move_105 ?_
      refine z_iret C 106 dX8_move_106 (by decide) (by decide) (by decide) ?_
      first | exact Or.inl ⟨hPz1.f (by assumption), zthr_1 _ (by decide)⟩ | exact Or.inr (Or.inl ⟨hcm, hF, zthr_1 _ (by decide)⟩) | exact Or.inr (Or.inr (Or.inl ⟨hcm, hca, hX, zthr_2 _ _ (by decide)⟩))
    have hca : ((0 ≤ b ∧ b < 32) ∧ 0 ≤ t ∧ t < 32) := ⟨by have := hPz3.t (by assumption); omega, by have := hPz7.t (by assumption); omega⟩
    refine z_iconst C 33 dX8_move_33 ?_
    refine z_goto C 34 38 dX8_move_34 (by decide) ?_
    refine z_putI C 38 zcl8 (show 0 < 1 by omega) (zc26 ..) 0 (by decide) wf_8_99 rfl rfl rfl (Nat.le_of_ble_eq_true rfl) (zc26 ..) dX8_move_38 ?_
    refine z_aload_n C 41 dX8_move_41 rfl 0 rfl ?_
    refine z_getI C 42 zcl8 (show 0 < 1 by omega) (zc26 ..) 0 (by decide) rfl wf_8_99 dX8_move_42 (fun zq11 ezq11 hzq11 => ?_)
    rw [zV_eq (by first | assumption | decide | omega)] at ezq11
    subst ezq11
    refine z_if_ne C 45 98 dX8_move_45 (by decide) (by decide) (fun c45_75 => ?_) (fun c45_75 => ?_)
    · exact absurd c45_75 (by decide)
    refine z_aload_n C 48 dX8_move_48 rfl 0 rfl ?_
    refine z_get C 49 zcl8 (show 0 < 1 by omega) (zc26 ..) 7 (by decide) rfl wf_8_23 dX8_move_49 ?_
    refine z_iload_n C 52 dX8_move_52 rfl 1 rfl ?_
    refine z_zald C 53 (show 0 < 1 by omega) (zc37 ..) (by first | assumption | omega) (by omega) (show a < ((24 : Nat) : Int) by omega) dX8_move_53 (fun zq12 ezq12 hzq12 => ?_)
    rw [zV_ne (by decide)] at ezq12
    refine z_if_ne C 54 81 dX8_move_54 (by decide) hzq12 (fun c54_82 => ?_) (fun c54_82 => ?_)
    · have hX : ¬ (zng M a.toNat = 0 ∧ znloc M a.toNat b ∧ ¬ znloc M a.toNat t) := fun z => by have z1 : zV M 37 0 a.toNat = 0 := z.1; omega
      refine z_iconst C 81 dX8_move_81 ?_
      refine z_istore (lv' := [(4, .int (zI 0)), (0, .ref (zad G 26 0)), (1, .int (zI a)), (2, .int (zI b)), (3, .int (zI t))]) C 82 dX8_move_82 (by decide) rfl ?_
      refine z_aload_n C 84 dX8_move_84 rfl 1 rfl ?_
      refine z_iload C 85 dX8_move_85 0 rfl ?_
      refine z_if_eq C 87 94 dX8_move_87 (by decide) (by decide) (fun c87_89 => ?_) (fun c87_89 => ?_)
      rotate_left
      · exact absurd c87_89 (by decide)
      refine z_iconst C 94 dX8_move_94 ?_
      refine z_putI C 95 zcl8 (show 0 < 1 by omega) (zc26 ..) 0 (by decide) wf_8_99 rfl rfl rfl (Nat.le_of_ble_eq_true rfl) (zc26 ..) dX8_move_95 ?_
      refine z_aload_n C 98 dX8_move_98 rfl 1 rfl ?_
      refine z_getI C 99 zcl8 (show 0 < 1 by omega) (zc26 ..) 0 (by decide) rfl wf_8_99 dX8_move_99 (fun zq13 ezq13 hzq13 => ?_)
      rw [zV_eq (by first | assumption | decide | omega)] at ezq13
      subst ezq13
      refine z_if_le C 102 107 dX8_move_102 (by decide) (by decide) (fun c102_98 => ?_) (fun c102_98 => ?_)
      · exact absurd c102_98 (by decide)
      refine z_iconst C 105 dX8_move_105 ?_
      refine z_iret C 106 dX8_move_106 (by decide) (by decide) (by decide) ?_
      first | exact Or.inl ⟨hPz1.f (by assumption), zthr_1 _ (by decide)⟩ | exact Or.inr (Or.inl ⟨hcm, hF, zthr_1 _ (by decide)⟩) | exact Or.inr (Or.inr (Or.inl ⟨hcm, hca, hX, zthr_2 _ _ (by decide)⟩))
    refine z_aload_n C 57 dX8_move_57 rfl 0 rfl ?_
    refine z_iload_n C 58 dX8_move_58 rfl 1 rfl ?_
    refine z_iload_n C 59 dX8_move_59 rfl 2 rfl ?_
    refine z_callVi C 60 (As := [.int (zI a), .int (zI b)]) (rest := []) (c_X8_placeOf l G (zup M 26 0 0 (zI 0)) a b (by omega) (by repeat rw [zV_ne (by decide)]; exact w3 _ (by omega)) hb) zcl8 (show 0 < 1 by omega) (zc26 ..) (zW_of 2 C wm_8_136 wc_X8_placeOf wini_8 wi_X8_placeOf wse_X8_placeOf ⟨by decide, by decide, by decide⟩ ⟨by decide, by decide⟩) rfl (Nat.le_of_ble_eq_true rfl) ⟨by decide, by decide⟩ dX8_move_60 rfl (fun zq14 Mz15 hzq14 hPz14 => ?_)
    obtain ⟨rfl, hPz14⟩ := hPz14
    refine z_iconst C 63 dX8_move_63 ?_
    refine z_icmp_eq C 64 81 dX8_move_64 (by decide) hzq14 (by decide) (fun c64_108 => ?_) (fun c64_108 => ?_)
    · have hX : ¬ (zng M a.toNat = 0 ∧ znloc M a.toNat b ∧ ¬ znloc M a.toNat t) := fun z => znp_n (znp_up hPz14) c64_108 z.2.1
      refine z_iconst C 81 dX8_move_81 ?_
      refine z_istore (lv' := [(4, .int (zI 0)), (0, .ref (zad G 26 0)), (1, .int (zI a)), (2, .int (zI b)), (3, .int (zI t))]) C 82 dX8_move_82 (by decide) rfl ?_
      refine z_aload_n C 84 dX8_move_84 rfl 1 rfl ?_
      refine z_iload C 85 dX8_move_85 0 rfl ?_
      refine z_if_eq C 87 94 dX8_move_87 (by decide) (by decide) (fun c87_115 => ?_) (fun c87_115 => ?_)
      rotate_left
      · exact absurd c87_115 (by decide)
      refine z_iconst C 94 dX8_move_94 ?_
      refine z_putI C 95 zcl8 (show 0 < 1 by omega) (zc26 ..) 0 (by decide) wf_8_99 rfl rfl rfl (Nat.le_of_ble_eq_true rfl) (zc26 ..) dX8_move_95 ?_
      refine z_aload_n C 98 dX8_move_98 rfl 1 rfl ?_
      refine z_getI C 99 zcl8 (show 0 < 1 by omega) (zc26 ..) 0 (by decide) rfl wf_8_99 dX8_move_99 (fun zq16 ezq16 hzq16 => ?_)
      rw [zV_eq (by first | assumption | decide | omega)] at ezq16
      subst ezq16
      refine z_if_le C 102 107 dX8_move_102 (by decide) (by decide) (fun c102_124 => ?_) (fun c102_124 => ?_)
      · exact absurd c102_124 (by decide)
      refine z_iconst C 105 dX8_move_105 ?_
      refine z_iret C 106 dX8_move_106 (by decide) (by decide) (by decide) ?_
      first | exact Or.inl ⟨hPz1.f (by assumption), zthr_1 _ (by decide)⟩ | exact Or.inr (Or.inl ⟨hcm, hF, zthr_1 _ (by decide)⟩) | exact Or.inr (Or.inr (Or.inl ⟨hcm, hca, hX, zthr_2 _ _ (by decide)⟩))
    refine z_aload_n C 67 dX8_move_67 rfl 0 rfl ?_
    refine z_iload_n C 68 dX8_move_68 rfl 1 rfl ?_
    refine z_iload_n C 69 dX8_move_69 rfl 3 rfl ?_
    refine z_callVi C 70 (As := [.int (zI a), .int (zI t)]) (rest := []) (c_X8_placeOf l G (zup M 26 0 0 (zI 0)) a t (by omega) (by repeat rw [zV_ne (by decide)]; exact w3 _ (by omega)) ht) zcl8 (show 0 < 1 by omega) (zc26 ..) (zW_of 2 C wm_8_136 wc_X8_placeOf wini_8 wi_X8_placeOf wse_X8_placeOf ⟨by decide, by decide, by decide⟩ ⟨by decide, by decide⟩) rfl (Nat.le_of_ble_eq_true rfl) ⟨by decide, by decide⟩ dX8_move_70 rfl (fun zq17 Mz18 hzq17 hPz17 => ?_)
    obtain ⟨rfl, hPz17⟩ := hPz17
    refine z_iconst C 73 dX8_move_73 ?_
    refine z_icmp_ne C 74 81 dX8_move_74 (by decide) hzq17 (by decide) (fun c74_134 => ?_) (fun c74_134 => ?_)
    · have hX : ¬ (zng M a.toNat = 0 ∧ znloc M a.toNat b ∧ ¬ znloc M a.toNat t) := fun z => z.2.2 (znp_yl (znp_up hPz17) c74_134)
      refine z_iconst C 81 dX8_move_81 ?_
      refine z_istore (lv' := [(4, .int (zI 0)), (0, .ref (zad G 26 0)), (1, .int (zI a)), (2, .int (zI b)), (3, .int (zI t))]) C 82 dX8_move_82 (by decide) rfl ?_
      refine z_aload_n C 84 dX8_move_84 rfl 1 rfl ?_
      refine z_iload C 85 dX8_move_85 0 rfl ?_
      refine z_if_eq C 87 94 dX8_move_87 (by decide) (by decide) (fun c87_141 => ?_) (fun c87_141 => ?_)
      rotate_left
      · exact absurd c87_141 (by decide)
      refine z_iconst C 94 dX8_move_94 ?_
      refine z_putI C 95 zcl8 (show 0 < 1 by omega) (zc26 ..) 0 (by decide) wf_8_99 rfl rfl rfl (Nat.le_of_ble_eq_true rfl) (zc26 ..) dX8_move_95 ?_
      refine z_aload_n C 98 dX8_move_98 rfl 1 rfl ?_
      refine z_getI C 99 zcl8 (show 0 < 1 by omega) (zc26 ..) 0 (by decide) rfl wf_8_99 dX8_move_99 (fun zq19 ezq19 hzq19 => ?_)
      rw [zV_eq (by first | assumption | decide | omega)] at ezq19
      subst ezq19
      refine z_if_le C 102 107 dX8_move_102 (by decide) (by decide) (fun c102_150 => ?_) (fun c102_150 => ?_)
      · exact absurd c102_150 (by decide)
      refine z_iconst C 105 dX8_move_105 ?_
      refine z_iret C 106 dX8_move_106 (by decide) (by decide) (by decide) ?_
      first | exact Or.inl ⟨hPz1.f (by assumption), zthr_1 _ (by decide)⟩ | exact Or.inr (Or.inl ⟨hcm, hF, zthr_1 _ (by decide)⟩) | exact Or.inr (Or.inr (Or.inl ⟨hcm, hca, hX, zthr_2 _ _ (by decide)⟩))
    have hY : (zng M a.toNat = 0 ∧ znloc M a.toNat b ∧ ¬ znloc M a.toNat t) := ⟨by show zV M 37 0 a.toNat = 0; omega, znp_yl (znp_up hPz14) (by assumption), znp_n (znp_up hPz17) (by omega)⟩
    refine z_iconst C 77 dX8_move_77 ?_
    refine z_goto C 78 82 dX8_move_78 (by decide) ?_
    refine z_istore (lv' := [(4, .int (zI 1)), (0, .ref (zad G 26 0)), (1, .int (zI a)), (2, .int (zI b)), (3, .int (zI t))]) C 82 dX8_move_82 (by decide) rfl ?_
    refine z_aload_n C 84 dX8_move_84 rfl 1 rfl ?_
    refine z_iload C 85 dX8_move_85 0 rfl ?_
    refine z_if_eq C 87 94 dX8_move_87 (by decide) (by decide) (fun c87_160 => ?_) (fun c87_160 => ?_)
    · exact absurd c87_160 (by decide)
    refine z_iconst C 90 dX8_move_90 ?_
    refine z_goto C 91 95 dX8_move_91 (by decide) ?_
    refine z_putI C 95 zcl8 (show 0 < 1 by omega) (zc26 ..) 0 (by decide) wf_8_99 rfl rfl rfl (Nat.le_of_ble_eq_true rfl) (zc26 ..) dX8_move_95 ?_
    refine z_aload_n C 98 dX8_move_98 rfl 1 rfl ?_
    refine z_getI C 99 zcl8 (show 0 < 1 by omega) (zc26 ..) 0 (by decide) rfl wf_8_99 dX8_move_99 (fun zq20 ezq20 hzq20 => ?_)
    rw [zV_eq (by first | assumption | decide | omega)] at ezq20
    subst ezq20
    refine z_if_le C 102 107 dX8_move_102 (by decide) (by decide) (fun c102_169 => ?_) (fun c102_169 => ?_)
    rotate_left
    · exact absurd c102_169 (by decide)
    refine z_aload_n C 107 dX8_move_107 rfl 1 rfl ?_
    refine z_get C 108 zcl8 (show 0 < 1 by omega) (zc26 ..) 10 (by decide) rfl wf_8_33 dX8_move_108 ?_
    refine z_aload_n C 111 dX8_move_111 rfl 1 rfl ?_
    refine z_iload_n C 112 dX8_move_112 rfl 2 rfl ?_
    refine z_iload_n C 113 dX8_move_113 rfl 3 rfl ?_
    refine z_callVi C 114 (As := [.int (zI a), .int (zI b)]) (rest := [.ref (zad G 40 0)]) (c_X8_placeOf l G (zup (zup M 26 0 0 (zI 0)) 26 0 0 (zI 0)) a b (by omega) (by repeat rw [zV_ne (by decide)]; exact w3 _ (by omega)) hb) zcl8 (show 0 < 1 by omega) (zc26 ..) (zW_of 2 C wm_8_136 wc_X8_placeOf wini_8 wi_X8_placeOf wse_X8_placeOf ⟨by decide, by decide, by decide⟩ ⟨by decide, by decide⟩) rfl (Nat.le_of_ble_eq_true rfl) ⟨by decide, by decide⟩ dX8_move_114 rfl (fun zq21 Mz22 hzq21 hPz21 => ?_)
    obtain ⟨rfl, hPz21⟩ := hPz21
    have hmm1 := w3 a.toNat (by omega)
    have h114 := znp_up (znp_up hPz21)
    have h115 : ¬ zq21 = -1 := fun z => znp_n h114 z hY.2.1
    obtain ⟨j9, hj1, hj2, hj3⟩ := znp_y h114 h115
    refine z_iload_n C 117 dX8_move_117 rfl 4 rfl ?_
    refine z_iast C 118 (show 0 < 1 by omega) (zc40 ..) hzq21 (by omega) (show zq21 < ((96 : Nat) : Int) by omega) (zc40 ..) dX8_move_118 ?_
    refine z_aload_n C 119 dX8_move_119 rfl 1 rfl ?_
    refine z_iload_n C 120 dX8_move_120 rfl 2 rfl ?_
    refine z_callVi C 121 (As := [.int (zI a)]) (rest := []) (c_X8_changes l G (zup (zup (zup M 26 0 0 (zI 0)) 26 0 0 (zI 0)) 40 0 zq21.toNat (zI t)) (zWM_addr (zWM_up0 (zWM_up0 hw)) hca.2) a (by omega)) zcl8 (show 0 < 1 by omega) (zc26 ..) (zW_of 1 C wm_8_139 wc_X8_changes wini_8 wi_X8_changes wse_X8_changes ⟨by decide, by decide, by decide⟩ ⟨by decide, by decide⟩) rfl (Nat.le_of_ble_eq_true rfl) ⟨by decide, by decide⟩ dX8_move_121 rfl (fun zq23 Mz24 hzq23 hPz23 => ?_)
    refine z_iret C 124 dX8_move_124 (by decide) (by decide) hzq23 ?_
    refine Or.inr (Or.inr (Or.inr ⟨hcm, hca, hY, ?_, j9, _, hj2, hj3, zthr_2 _ (zI 0) (by decide), ?_⟩))
    · rw [hPz23.1, zV_ne (by decide), zV_ne (by decide), zV_ne (by decide)]
    · have h9 := hPz23.2
      rw [show (zq21).toNat = 4 * a.toNat + j9 by omega] at h9
      exact h9
  refine z_iconst C 9 dX8_move_9 ?_
  refine z_goto C 10 38 dX8_move_10 (by decide) ?_
  refine z_putI C 38 zcl8 (show 0 < 1 by omega) (zc26 ..) 0 (by decide) wf_8_99 rfl rfl rfl (Nat.le_of_ble_eq_true rfl) (zc26 ..) dX8_move_38 ?_
  refine z_aload_n C 41 dX8_move_41 rfl 0 rfl ?_
  refine z_getI C 42 zcl8 (show 0 < 1 by omega) (zc26 ..) 0 (by decide) rfl wf_8_99 dX8_move_42 (fun zq25 ezq25 hzq25 => ?_)
  rw [zV_eq (by first | assumption | decide | omega)] at ezq25
  subst ezq25
  refine z_if_ne C 45 98 dX8_move_45 (by decide) (by decide) (fun c45_200 => ?_) (fun c45_200 => ?_)
  rotate_left
  · exact absurd c45_200 (by decide)
  refine z_aload_n C 98 dX8_move_98 rfl 0 rfl ?_
  refine z_getI C 99 zcl8 (show 0 < 1 by omega) (zc26 ..) 0 (by decide) rfl wf_8_99 dX8_move_99 (fun zq26 ezq26 hzq26 => ?_)
  rw [zV_eq (by first | assumption | decide | omega)] at ezq26
  subst ezq26
  refine z_if_le C 102 107 dX8_move_102 (by decide) (by decide) (fun c102_207 => ?_) (fun c102_207 => ?_)
  · exact absurd c102_207 (by decide)
  refine z_iconst C 105 dX8_move_105 ?_
  refine z_iret C 106 dX8_move_106 (by decide) (by decide) (by decide) ?_
  first | exact Or.inl ⟨hPz1.f (by assumption), zthr_1 _ (by decide)⟩ | exact Or.inr (Or.inl ⟨hcm, hF, zthr_1 _ (by decide)⟩) | exact Or.inr (Or.inr (Or.inl ⟨hcm, hca, hX, zthr_2 _ _ (by decide)⟩))
set_option maxHeartbeats 4000000 in
set_option maxRecDepth 100000 in
theorem c_X8_placeAmong (l : Launch) (G : zG) (M : zMem) (a b : Int) (ha : 0 ≤ a ∧ a < 24) (hb : zrg b) (j0 : Nat) (hj : j0 < 4) (hj2 : zV M 40 0 (4 * a.toNat + j0) = b) : Met l yX8_placeAmong [.code yX8_placeAmong cX8_placeAmong 4 (some .int)] (zR 0 0 0) (zPc G M [.ref (zad G 26 0), .int (zI a), .int (zI b)]) (zQi G (fun x M' => M = M' ∧ ∃ j : Nat, x = ((4 * a.toNat + j : Nat) : Int) ∧ j ≤ j0 ∧ zV M 40 0 (4 * a.toNat + j) = b)) 0 0 (zA G) := by
  refine z_met [(0, .ref (zad G 26 0)), (1, .int (zI a)), (2, .int (zI b))] (by decide) (Nat.le_of_ble_eq_true rfl) rfl ?_
  intro p e s m below meth c C
  have C : zC p s m ([.ref (zad G 26 0), .int (zI a), .int (zI b)] : List Value).toArray meth c G RX8 cX8_placeAmong 4 (some .int) := C
  refine z_iconst C 0 dX8_placeAmong_0 ?_
  refine z_iload_n C 1 dX8_placeAmong_1 rfl 1 rfl ?_
  refine z_imul C 2 dX8_placeAmong_2 ?_
  refine z_istore_n (lv' := [(3, .int (zI (4 * a))), (0, .ref (zad G 26 0)), (1, .int (zI a)), (2, .int (zI b))]) C 3 dX8_placeAmong_3 rfl (by decide) rfl ?_
  have L4_1 : ∀ (kz1 : Nat) (k : Int), (4 * a ≤ k ∧ k ≤ 4 * a + j0) → (4 * a + j0 - k) < (kz1 : Int) → zZ p l e (zR 0 0 0) s m ([.ref (zad G 26 0), .int (zI a), .int (zI b)] : List Value).toArray below meth c G 4 (MQ below (zQi G (fun x M' => M = M' ∧ ∃ j : Nat, x = ((4 * a.toNat + j : Nat) : Int) ∧ j ≤ j0 ∧ zV M 40 0 (4 * a.toNat + j) = b)) ([.ref (zad G 26 0), .int (zI a), .int (zI b)] : List Value).toArray s 0 0 (zA G)) M 0 0 4 [(0, .ref (zad G 26 0)), (1, .int (zI a)), (2, .int (zI b)), (3, .int (zI k))] [] := by
    intro kz1
    induction kz1 with
    | zero =>
      intro k g0 hk
      exact absurd hk (by omega)
    | succ kz1 ihz2 =>
      intro k g0 hk
      refine z_aload_n C 4 dX8_placeAmong_4 rfl 0 rfl ?_
      refine z_get C 5 zcl8 (show 0 < 1 by omega) (zc26 ..) 10 (by decide) rfl wf_8_33 dX8_placeAmong_5 ?_
      refine z_iload_n C 8 dX8_placeAmong_8 rfl 3 rfl ?_
      refine z_iald C 9 (show 0 < 1 by omega) (zc40 ..) (by first | assumption | omega) (by omega) (show k < ((96 : Nat) : Int) by omega) dX8_placeAmong_9 (fun zq3 ezq3 hzq3 => ?_)
      refine z_iload_n C 10 dX8_placeAmong_10 rfl 2 rfl ?_
      refine z_icmp_eq C 11 20 dX8_placeAmong_11 (by decide) hzq3 (by first | assumption | omega) (fun c11_23 => ?_) (fun c11_23 => ?_)
      · refine z_iload_n C 20 dX8_placeAmong_20 rfl 3 rfl ?_
        refine z_iret C 21 dX8_placeAmong_21 (by decide) (by decide) (by first | assumption | omega) ?_
        exact ⟨rfl, (k - 4 * a).toNat, by omega, by omega, by rw [show 4 * a.toNat + (k - 4 * a).toNat = k.toNat by omega]; omega⟩
      refine z_iinc (lv' := [(3, .int (zI (k + 1))), (0, .ref (zad G 26 0)), (1, .int (zI a)), (2, .int (zI b))]) C 14 dX8_placeAmong_14 3 rfl (by decide) rfl ?_
      refine z_goto C 17 4 dX8_placeAmong_17 (by decide) ?_
      refine z_sub (lv' := [(0, .ref (zad G 26 0)), (1, .int (zI a)), (2, .int (zI b)), (3, .int (zI (k + 1)))]) [1, 2, 3, 0] rfl ?_
      have hk9 : k ≠ 4 * a + j0 := fun z => by rw [show 4 * a.toNat + j0 = k.toNat by omega] at hj2; omega
      exact ihz2 (k + 1) (by omega) (by omega)
  refine z_sub (lv' := [(0, .ref (zad G 26 0)), (1, .int (zI a)), (2, .int (zI b)), (3, .int (zI (4 * a)))]) [1, 2, 3, 0] rfl ?_
  exact L4_1 (((4 * a + j0 - (4 * a) : Int)).toNat + 1) (4 * a) (by omega) (by omega)
set_option maxHeartbeats 4000000 in
set_option maxRecDepth 100000 in
theorem c_X8_removeLocator (l : Launch) (G : zG) (M : zMem) (hw : zWM M) (a b : Int) (ha : zrg a) (hb : zrg b) : Met l yX8_removeLocator [.code yX8_removeLocator cX8_removeLocator 4 (some .int)] (zR 4 0 0) (zPc G M [.ref (zad G 26 0), .int (zI a), .int (zI b)]) (zQi G (fun x M' => (¬ (0 ≤ a ∧ a < znn M) ∧ zthr M M' 1) ∨ ((0 ≤ a ∧ a < znn M) ∧ ¬ (0 ≤ b ∧ b < 32) ∧ zthr M M' 2) ∨ ((0 ≤ a ∧ a < znn M) ∧ (0 ≤ b ∧ b < 32) ∧ ¬ (zng M a.toNat = 0 ∧ znloc M a.toNat b) ∧ zthr M M' 3) ∨ ((0 ≤ a ∧ a < znn M) ∧ (0 ≤ b ∧ b < 32) ∧ (zng M a.toNat = 0 ∧ znloc M a.toNat b) ∧ x = zw (zV M 38 0 a.toNat + 1) ∧ ∃ (j : Nat) (M1 M2 : zMem), (j : Int) < zV M 39 0 a.toNat ∧ zV M 40 0 (4 * a.toNat + j) = b ∧ zthr M M1 0 ∧ zmsh (zup M1 39 0 a.toNat (zI (zV M 39 0 a.toNat - 1))) M2 ((4 * a.toNat + j : Nat) : Int) (4 * a + (zV M 39 0 a.toNat - 1)) ∧ zmsk (znver M2 a.toNat) M' a.toNat 24))) 0 0 (zA G) := by
  refine z_met [(0, .ref (zad G 26 0)), (1, .int (zI a)), (2, .int (zI b))] (by decide) (Nat.le_of_ble_eq_true rfl) rfl ?_
  intro p e s m below meth c C
  have C : zC p s m ([.ref (zad G 26 0), .int (zI a), .int (zI b)] : List Value).toArray meth c G RX8 cX8_removeLocator 4 (some .int) := C
  have hw9z := hw
  obtain ⟨w1, w2, w3, w4, w5, w6, w7, w8, w9, w10, w11, w12, w13, w14⟩ := hw9z
  have hn9 : znn M = zV M 26 0 4 := rfl
  refine z_aload_n C 0 dX8_removeLocator_0 rfl 0 rfl ?_
  refine z_aload_n C 1 dX8_removeLocator_1 rfl 0 rfl ?_
  refine z_iload_n C 2 dX8_removeLocator_2 rfl 1 rfl ?_
  refine z_callVi C 3 (As := [.int (zI a)]) (rest := [.ref (zad G 26 0)]) (c_X8_isMapping l G M a ha w1) zcl8 (show 0 < 1 by omega) (zc26 ..) (zW_of 1 C wm_8_133 wc_X8_isMapping wini_8 wi_X8_isMapping wse_X8_isMapping ⟨by decide, by decide, by decide⟩ ⟨by decide, by decide⟩) rfl (Nat.le_of_ble_eq_true rfl) ⟨by decide, by decide⟩ dX8_removeLocator_3 rfl (fun zq1 Mz2 hzq1 hPz1 => ?_)
  obtain ⟨rfl, hPz1⟩ := hPz1
  refine z_if_ne C 6 13 dX8_removeLocator_6 (by decide) hzq1 (fun c6_14 => ?_) (fun c6_14 => ?_)
  · have hcm := hPz1.t c6_14
    refine z_iload_n C 13 dX8_removeLocator_13 rfl 2 rfl ?_
    refine z_iconst C 14 dX8_removeLocator_14 ?_
    refine z_bipush C 15 dX8_removeLocator_15 (by decide +kernel) ?_
    refine z_callSi C 17 (As := [.int (zI b), .int (zI 0), .int (zI 31)]) (rest := [.ref (zad G 26 0)]) (c_X8_in l G M b 0 31 (by first | assumption | decide | omega) (by first | assumption | decide | omega) (by first | assumption | decide | omega)) (zS_of 3 C wm_8_103 wc_X8_in wini_8 wst_X8_in ⟨by decide, by decide, by decide⟩ ⟨by decide, by decide⟩) rfl (Nat.le_of_ble_eq_true rfl) ⟨by decide, by decide⟩ dX8_removeLocator_17 rfl (fun zq3 Mz4 hzq3 hPz3 => ?_)
    obtain ⟨rfl, hPz3⟩ := hPz3
    refine z_if_eq C 20 27 dX8_removeLocator_20 (by decide) hzq3 (fun c20_22 => ?_) (fun c20_22 => ?_)
    · have hF : ¬ (0 ≤ b ∧ b < 32) := fun z => hPz3.f c20_22 (by omega)
      refine z_iconst C 27 dX8_removeLocator_27 ?_
      refine z_putI C 28 zcl8 (show 0 < 1 by omega) (zc26 ..) 0 (by decide) wf_8_99 rfl rfl rfl (Nat.le_of_ble_eq_true rfl) (zc26 ..) dX8_removeLocator_28 ?_
      refine z_aload_n C 31 dX8_removeLocator_31 rfl 0 rfl ?_
      refine z_getI C 32 zcl8 (show 0 < 1 by omega) (zc26 ..) 0 (by decide) rfl wf_8_99 dX8_removeLocator_32 (fun zq5 ezq5 hzq5 => ?_)
      rw [zV_eq (by first | assumption | decide | omega)] at ezq5
      subst ezq5
      refine z_if_ne C 35 66 dX8_removeLocator_35 (by decide) (by decide) (fun c35_31 => ?_) (fun c35_31 => ?_)
      rotate_left
      · exact absurd c35_31 (by decide)
      refine z_aload_n C 66 dX8_removeLocator_66 rfl 0 rfl ?_
      refine z_getI C 67 zcl8 (show 0 < 1 by omega) (zc26 ..) 0 (by decide) rfl wf_8_99 dX8_removeLocator_67 (fun zq6 ezq6 hzq6 => ?_)
      rw [zV_eq (by first | assumption | decide | omega)] at ezq6
      subst ezq6
      refine z_if_le C 70 75 dX8_removeLocator_70 (by decide) (by decide) (fun c70_38 => ?_) (fun c70_38 => ?_)
      · exact absurd c70_38 (by decide)
      refine z_iconst C 73 dX8_removeLocator_73 ?_
      refine z_iret C 74 dX8_removeLocator_74 (by decide) (by decide) (by decide) ?_
      first | exact Or.inl ⟨hPz1.f (by assumption), zthr_1 _ (by decide)⟩ | exact Or.inr (Or.inl ⟨hcm, hF, zthr_1 _ (by decide)⟩) | exact Or.inr (Or.inr (Or.inl ⟨hcm, hca, hX, zthr_2 _ _ (by decide)⟩))
    have hca : (0 ≤ b ∧ b < 32) := by have := hPz3.t c20_22; omega
    refine z_iconst C 23 dX8_removeLocator_23 ?_
    refine z_goto C 24 28 dX8_removeLocator_24 (by decide) ?_
    refine z_putI C 28 zcl8 (show 0 < 1 by omega) (zc26 ..) 0 (by decide) wf_8_99 rfl rfl rfl (Nat.le_of_ble_eq_true rfl) (zc26 ..) dX8_removeLocator_28 ?_
    refine z_aload_n C 31 dX8_removeLocator_31 rfl 0 rfl ?_
    refine z_getI C 32 zcl8 (show 0 < 1 by omega) (zc26 ..) 0 (by decide) rfl wf_8_99 dX8_removeLocator_32 (fun zq7 ezq7 hzq7 => ?_)
    rw [zV_eq (by first | assumption | decide | omega)] at ezq7
    subst ezq7
    refine z_if_ne C 35 66 dX8_removeLocator_35 (by decide) (by decide) (fun c35_50 => ?_) (fun c35_50 => ?_)
    · exact absurd c35_50 (by decide)
    refine z_aload_n C 38 dX8_removeLocator_38 rfl 0 rfl ?_
    refine z_aload_n C 39 dX8_removeLocator_39 rfl 0 rfl ?_
    refine z_get C 40 zcl8 (show 0 < 1 by omega) (zc26 ..) 7 (by decide) rfl wf_8_23 dX8_removeLocator_40 ?_
    refine z_iload_n C 43 dX8_removeLocator_43 rfl 1 rfl ?_
    refine z_zald C 44 (show 0 < 1 by omega) (zc37 ..) (by first | assumption | omega) (by omega) (show a < ((24 : Nat) : Int) by omega) dX8_removeLocator_44 (fun zq8 ezq8 hzq8 => ?_)
    rw [zV_ne (by decide)] at ezq8
    refine z_if_ne C 45 58 dX8_removeLocator_45 (by decide) hzq8 (fun c45_58 => ?_) (fun c45_58 => ?_)
    · have hX : ¬ (zng M a.toNat = 0 ∧ znloc M a.toNat b) := fun z => by have z1 : zV M 37 0 a.toNat = 0 := z.1; omega
      refine z_iconst C 58 dX8_removeLocator_58 ?_
      refine z_goto C 59 63 dX8_removeLocator_59 (by decide) ?_
      refine z_putI C 63 zcl8 (show 0 < 1 by omega) (zc26 ..) 0 (by decide) wf_8_99 rfl rfl rfl (Nat.le_of_ble_eq_true rfl) (zc26 ..) dX8_removeLocator_63 ?_
      refine z_aload_n C 66 dX8_removeLocator_66 rfl 0 rfl ?_
      refine z_getI C 67 zcl8 (show 0 < 1 by omega) (zc26 ..) 0 (by decide) rfl wf_8_99 dX8_removeLocator_67 (fun zq9 ezq9 hzq9 => ?_)
      rw [zV_eq (by first | assumption | decide | omega)] at ezq9
      subst ezq9
      refine z_if_le C 70 75 dX8_removeLocator_70 (by decide) (by decide) (fun c70_68 => ?_) (fun c70_68 => ?_)
      · exact absurd c70_68 (by decide)
      refine z_iconst C 73 dX8_removeLocator_73 ?_
      refine z_iret C 74 dX8_removeLocator_74 (by decide) (by decide) (by decide) ?_
      first | exact Or.inl ⟨hPz1.f (by assumption), zthr_1 _ (by decide)⟩ | exact Or.inr (Or.inl ⟨hcm, hF, zthr_1 _ (by decide)⟩) | exact Or.inr (Or.inr (Or.inl ⟨hcm, hca, hX, zthr_2 _ _ (by decide)⟩))
    refine z_aload_n C 48 dX8_removeLocator_48 rfl 0 rfl ?_
    refine z_iload_n C 49 dX8_removeLocator_49 rfl 1 rfl ?_
    refine z_iload_n C 50 dX8_removeLocator_50 rfl 2 rfl ?_
    refine z_callVi C 51 (As := [.int (zI a), .int (zI b)]) (rest := [.ref (zad G 26 0)]) (c_X8_placeOf l G (zup M 26 0 0 (zI 0)) a b (by omega) (by repeat rw [zV_ne (by decide)]; exact w3 _ (by omega)) hb) zcl8 (show 0 < 1 by omega) (zc26 ..) (zW_of 2 C wm_8_136 wc_X8_placeOf wini_8 wi_X8_placeOf wse_X8_placeOf ⟨by decide, by decide, by decide⟩ ⟨by decide, by decide⟩) rfl (Nat.le_of_ble_eq_true rfl) ⟨by decide, by decide⟩ dX8_removeLocator_51 rfl (fun zq10 Mz11 hzq10 hPz10 => ?_)
    obtain ⟨rfl, hPz10⟩ := hPz10
    refine z_iconst C 54 dX8_removeLocator_54 ?_
    refine z_icmp_ne C 55 62 dX8_removeLocator_55 (by decide) hzq10 (by decide) (fun c55_78 => ?_) (fun c55_78 => ?_)
    · have hY : (zng M a.toNat = 0 ∧ znloc M a.toNat b) := ⟨by show zV M 37 0 a.toNat = 0; omega, znp_yl (znp_up hPz10) c55_78⟩
      refine z_iconst C 62 dX8_removeLocator_62 ?_
      refine z_putI C 63 zcl8 (show 0 < 1 by omega) (zc26 ..) 0 (by decide) wf_8_99 rfl rfl rfl (Nat.le_of_ble_eq_true rfl) (zc26 ..) dX8_removeLocator_63 ?_
      refine z_aload_n C 66 dX8_removeLocator_66 rfl 0 rfl ?_
      refine z_getI C 67 zcl8 (show 0 < 1 by omega) (zc26 ..) 0 (by decide) rfl wf_8_99 dX8_removeLocator_67 (fun zq12 ezq12 hzq12 => ?_)
      rw [zV_eq (by first | assumption | decide | omega)] at ezq12
      subst ezq12
      refine z_if_le C 70 75 dX8_removeLocator_70 (by decide) (by decide) (fun c70_87 => ?_) (fun c70_87 => ?_)
      rotate_left
      · exact absurd c70_87 (by decide)
      have hmm1 := w3 a.toNat (by omega)
      have hY2 := hY.2
      obtain ⟨j8, hl8, hj8⟩ := hY2
      refine z_aload_n C 75 dX8_removeLocator_75 rfl 0 rfl ?_
      refine z_get C 76 zcl8 (show 0 < 1 by omega) (zc26 ..) 9 (by decide) rfl wf_8_30 dX8_removeLocator_76 ?_
      refine z_iload_n C 79 dX8_removeLocator_79 rfl 1 rfl ?_
      refine z_dup2 C 80 dX8_removeLocator_80 rfl rfl ?_
      refine z_iald C 81 (show 0 < 1 by omega) (zc39 ..) (by first | assumption | omega) (by omega) (show a < ((24 : Nat) : Int) by omega) dX8_removeLocator_81 (fun zq13 ezq13 hzq13 => ?_)
      rw [zV_ne (by decide)] at ezq13
      rw [zV_ne (by decide)] at ezq13
      refine z_iconst C 82 dX8_removeLocator_82 ?_
      refine z_isub C 83 dX8_removeLocator_83 ?_
      refine z_iast C 84 (show 0 < 1 by omega) (zc39 ..) (by first | assumption | omega) (by omega) (show a < ((24 : Nat) : Int) by omega) (zc39 ..) dX8_removeLocator_84 ?_
      refine z_aload_n C 85 dX8_removeLocator_85 rfl 0 rfl ?_
      refine z_iload_n C 86 dX8_removeLocator_86 rfl 1 rfl ?_
      refine z_iload_n C 87 dX8_removeLocator_87 rfl 2 rfl ?_
      refine z_callVi C 88 (As := [.int (zI a), .int (zI b)]) (rest := []) (c_X8_placeAmong l G (zup (zup (zup M 26 0 0 (zI 0)) 26 0 0 (zI 0)) 39 0 a.toNat (zI (zq13 - 1))) a b (by omega) hb j8 (by omega) (by rw [zV_ne (by decide), zV_ne (by decide), zV_ne (by decide)]; exact hj8)) zcl8 (show 0 < 1 by omega) (zc26 ..) (zW_of 2 C wm_8_143 wc_X8_placeAmong wini_8 wi_X8_placeAmong wse_X8_placeAmong ⟨by decide, by decide, by decide⟩ ⟨by decide, by decide⟩) rfl (Nat.le_of_ble_eq_true rfl) ⟨by decide, by decide⟩ dX8_removeLocator_88 rfl (fun zq14 Mz15 hzq14 hPz14 => ?_)
      obtain ⟨rfl, hPz14⟩ := hPz14
      obtain ⟨j9, hj1, hj2, hj3⟩ := hPz14
      rw [zV_ne (by decide), zV_ne (by decide), zV_ne (by decide)] at hj3
      refine z_istore_n (lv' := [(3, .int (zI zq14)), (0, .ref (zad G 26 0)), (1, .int (zI a)), (2, .int (zI b))]) C 91 dX8_removeLocator_91 rfl (by decide) rfl ?_
      have L92_16 : ∀ (kz16 : Nat) (M2 : zMem) (k : Int), (((4 * a.toNat + j9 : Nat) : Int) ≤ k ∧ k ≤ 4 * a + (zV M 39 0 a.toNat - 1)) → (zmsh (zup (zup (zup M 26 0 0 (zI 0)) 26 0 0 (zI 0)) 39 0 a.toNat (zI (zq13 - 1))) M2 ((4 * a.toNat + j9 : Nat) : Int) k) → (4 * a + (zV M 39 0 a.toNat - 1) - k) < (kz16 : Int) → zZ p l e (zR 4 0 0) s m ([.ref (zad G 26 0), .int (zI a), .int (zI b)] : List Value).toArray below meth c G 4 (MQ below (zQi G (fun x M' => (¬ (0 ≤ a ∧ a < znn M) ∧ zthr M M' 1) ∨ ((0 ≤ a ∧ a < znn M) ∧ ¬ (0 ≤ b ∧ b < 32) ∧ zthr M M' 2) ∨ ((0 ≤ a ∧ a < znn M) ∧ (0 ≤ b ∧ b < 32) ∧ ¬ (zng M a.toNat = 0 ∧ znloc M a.toNat b) ∧ zthr M M' 3) ∨ ((0 ≤ a ∧ a < znn M) ∧ (0 ≤ b ∧ b < 32) ∧ (zng M a.toNat = 0 ∧ znloc M a.toNat b) ∧ x = zw (zV M 38 0 a.toNat + 1) ∧ ∃ (j : Nat) (M1 M2 : zMem), (j : Int) < zV M 39 0 a.toNat ∧ zV M 40 0 (4 * a.toNat + j) = b ∧ zthr M M1 0 ∧ zmsh (zup M1 39 0 a.toNat (zI (zV M 39 0 a.toNat - 1))) M2 ((4 * a.toNat + j : Nat) : Int) (4 * a + (zV M 39 0 a.toNat - 1)) ∧ zmsk (znver M2 a.toNat) M' a.toNat 24))) ([.ref (zad G 26 0), .int (zI a), .int (zI b)] : List Value).toArray s 0 0 (zA G)) M2 0 0 92 [(0, .ref (zad G 26 0)), (1, .int (zI a)), (2, .int (zI b)), (3, .int (zI k))] [] := by
        intro kz16
        induction kz16 with
        | zero =>
          intro M2 k g0 g1 hk
          exact absurd hk (by omega)
        | succ kz16 ihz17 =>
          intro M2 k g0 g1 hk
          have fe39 : zV M2 39 0 a.toNat = zV M 39 0 a.toNat - 1 := by rw [zV_of (g1.2.2.2 39 0 _ (by omega)), zV_eq (by omega)]; omega
          refine z_iload_n C 92 dX8_removeLocator_92 rfl 3 rfl ?_
          refine z_iconst C 93 dX8_removeLocator_93 ?_
          refine z_iload_n C 94 dX8_removeLocator_94 rfl 1 rfl ?_
          refine z_imul C 95 dX8_removeLocator_95 ?_
          refine z_aload_n C 96 dX8_removeLocator_96 rfl 0 rfl ?_
          refine z_get C 97 zcl8 (show 0 < 1 by omega) (zc26 ..) 9 (by decide) rfl wf_8_30 dX8_removeLocator_97 ?_
          refine z_iload_n C 100 dX8_removeLocator_100 rfl 1 rfl ?_
          refine z_iald C 101 (show 0 < 1 by omega) (zc39 ..) (by first | assumption | omega) (by omega) (show a < ((24 : Nat) : Int) by omega) dX8_removeLocator_101 (fun zq18 ezq18 hzq18 => ?_)
          refine z_iadd C 102 dX8_removeLocator_102 ?_
          refine z_icmp_ge C 103 154 dX8_removeLocator_103 (by decide) (by first | assumption | omega) (by first | assumption | omega) (fun c103_129 => ?_) (fun c103_129 => ?_)
          · have hwm2 : zWM M2 := zWM_msh (zWM_many (zWM_up0 (zWM_up0 hw)) (by omega)) (by omega) g1
            refine z_aload_n C 154 dX8_removeLocator_154 rfl 0 rfl ?_
            refine z_iload_n C 155 dX8_removeLocator_155 rfl 1 rfl ?_
            refine z_callVi C 156 (As := [.int (zI a)]) (rest := []) (c_X8_changes l G M2 hwm2 a (by omega)) zcl8 (show 0 < 1 by omega) (zc26 ..) (zW_of 1 C wm_8_139 wc_X8_changes wini_8 wi_X8_changes wse_X8_changes ⟨by decide, by decide, by decide⟩ ⟨by decide, by decide⟩) rfl (Nat.le_of_ble_eq_true rfl) ⟨by decide, by decide⟩ dX8_removeLocator_156 rfl (fun zq19 Mz20 hzq19 hPz19 => ?_)
            refine z_iret C 159 dX8_removeLocator_159 (by decide) (by decide) hzq19 ?_
            refine Or.inr (Or.inr (Or.inr ⟨hcm, hca, hY, ?_, j9, _, M2, by omega, hj3, zthr_2 _ (zI 0) (by decide), ?_, hPz19.2⟩))
            · rw [hPz19.1, zV_of (g1.2.2.2 38 0 _ (by omega)), zV_ne (by decide), zV_ne (by decide), zV_ne (by decide)]
            · rw [ezq13] at g1
              rw [show 4 * a + (zV M 39 0 a.toNat - 1) = k by omega]
              exact g1
          refine z_aload_n C 106 dX8_removeLocator_106 rfl 0 rfl ?_
          refine z_get C 107 zcl8 (show 0 < 1 by omega) (zc26 ..) 10 (by decide) rfl wf_8_33 dX8_removeLocator_107 ?_
          refine z_iload_n C 110 dX8_removeLocator_110 rfl 3 rfl ?_
          refine z_aload_n C 111 dX8_removeLocator_111 rfl 0 rfl ?_
          refine z_get C 112 zcl8 (show 0 < 1 by omega) (zc26 ..) 10 (by decide) rfl wf_8_33 dX8_removeLocator_112 ?_
          refine z_iload_n C 115 dX8_removeLocator_115 rfl 3 rfl ?_
          refine z_iconst C 116 dX8_removeLocator_116 ?_
          refine z_iadd C 117 dX8_removeLocator_117 ?_
          refine z_iald C 118 (show 0 < 1 by omega) (zc40 ..) (by first | assumption | omega) (by omega) (show (k + 1) < ((96 : Nat) : Int) by omega) dX8_removeLocator_118 (fun zq21 ezq21 hzq21 => ?_)
          refine z_iast C 119 (show 0 < 1 by omega) (zc40 ..) (by first | assumption | omega) (by omega) (show k < ((96 : Nat) : Int) by omega) (zc40 ..) dX8_removeLocator_119 ?_
          refine z_aload_n C 120 dX8_removeLocator_120 rfl 0 rfl ?_
          refine z_get C 121 zcl8 (show 0 < 1 by omega) (zc26 ..) 11 (by decide) rfl wf_8_36 dX8_removeLocator_121 ?_
          refine z_iload_n C 124 dX8_removeLocator_124 rfl 3 rfl ?_
          refine z_aload_n C 125 dX8_removeLocator_125 rfl 0 rfl ?_
          refine z_get C 126 zcl8 (show 0 < 1 by omega) (zc26 ..) 11 (by decide) rfl wf_8_36 dX8_removeLocator_126 ?_
          refine z_iload_n C 129 dX8_removeLocator_129 rfl 3 rfl ?_
          refine z_iconst C 130 dX8_removeLocator_130 ?_
          refine z_iadd C 131 dX8_removeLocator_131 ?_
          refine z_iald C 132 (show 0 < 1 by omega) (zc41 ..) (by first | assumption | omega) (by omega) (show (k + 1) < ((96 : Nat) : Int) by omega) dX8_removeLocator_132 (fun zq22 ezq22 hzq22 => ?_)
          rw [zV_ne (by decide)] at ezq22
          refine z_iast C 133 (show 0 < 1 by omega) (zc41 ..) (by first | assumption | omega) (by omega) (show k < ((96 : Nat) : Int) by omega) (zc41 ..) dX8_removeLocator_133 ?_
          refine z_aload_n C 134 dX8_removeLocator_134 rfl 0 rfl ?_
          refine z_get C 135 zcl8 (show 0 < 1 by omega) (zc26 ..) 12 (by decide) rfl wf_8_39 dX8_removeLocator_135 ?_
          refine z_iload_n C 138 dX8_removeLocator_138 rfl 3 rfl ?_
          refine z_aload_n C 139 dX8_removeLocator_139 rfl 0 rfl ?_
          refine z_get C 140 zcl8 (show 0 < 1 by omega) (zc26 ..) 12 (by decide) rfl wf_8_39 dX8_removeLocator_140 ?_
          refine z_iload_n C 143 dX8_removeLocator_143 rfl 3 rfl ?_
          refine z_iconst C 144 dX8_removeLocator_144 ?_
          refine z_iadd C 145 dX8_removeLocator_145 ?_
          refine z_iald C 146 (show 0 < 1 by omega) (zc42 ..) (by first | assumption | omega) (by omega) (show (k + 1) < ((96 : Nat) : Int) by omega) dX8_removeLocator_146 (fun zq23 ezq23 hzq23 => ?_)
          rw [zV_ne (by decide)] at ezq23
          rw [zV_ne (by decide)] at ezq23
          refine z_iast C 147 (show 0 < 1 by omega) (zc42 ..) (by first | assumption | omega) (by omega) (show k < ((96 : Nat) : Int) by omega) (zc42 ..) dX8_removeLocator_147 ?_
          refine z_iinc (lv' := [(3, .int (zI (k + 1))), (0, .ref (zad G 26 0)), (1, .int (zI a)), (2, .int (zI b))]) C 148 dX8_removeLocator_148 3 rfl (by decide) rfl ?_
          refine z_goto C 151 92 dX8_removeLocator_151 (by decide) ?_
          refine z_sub (lv' := [(0, .ref (zad G 26 0)), (1, .int (zI a)), (2, .int (zI b)), (3, .int (zI (k + 1)))]) [1, 2, 3, 0] rfl ?_
          exact ihz17 (zup (zup (zup M2 40 0 k.toNat (zI zq21)) 41 0 k.toNat (zI zq22)) 42 0 k.toNat (zI zq23)) (k + 1) (by omega) (by exact zmsh_1 (by omega) (by omega) g1 ezq21 hzq21 ezq22 hzq22 ezq23 hzq23) (by omega)
      refine z_sub (lv' := [(0, .ref (zad G 26 0)), (1, .int (zI a)), (2, .int (zI b)), (3, .int (zI zq14))]) [1, 2, 3, 0] rfl ?_
      exact L92_16 (((4 * a + (zV M 39 0 a.toNat - 1) - zq14 : Int)).toNat + 1) (zup (zup (zup M 26 0 0 (zI 0)) 26 0 0 (zI 0)) 39 0 a.toNat (zI (zq13 - 1))) zq14 (by omega) (by rw [hj1]; exact zmsh_0 _ _) (by omega)
    have hX : ¬ (zng M a.toNat = 0 ∧ znloc M a.toNat b) := fun z => znp_n (znp_up hPz10) (by omega) z.2
    refine z_iconst C 58 dX8_removeLocator_58 ?_
    refine z_goto C 59 63 dX8_removeLocator_59 (by decide) ?_
    refine z_putI C 63 zcl8 (show 0 < 1 by omega) (zc26 ..) 0 (by decide) wf_8_99 rfl rfl rfl (Nat.le_of_ble_eq_true rfl) (zc26 ..) dX8_removeLocator_63 ?_
    refine z_aload_n C 66 dX8_removeLocator_66 rfl 0 rfl ?_
    refine z_getI C 67 zcl8 (show 0 < 1 by omega) (zc26 ..) 0 (by decide) rfl wf_8_99 dX8_removeLocator_67 (fun zq24 ezq24 hzq24 => ?_)
    rw [zV_eq (by first | assumption | decide | omega)] at ezq24
    subst ezq24
    refine z_if_le C 70 75 dX8_removeLocator_70 (by decide) (by decide) (fun c70_186 => ?_) (fun c70_186 => ?_)
    · exact absurd c70_186 (by decide)
    refine z_iconst C 73 dX8_removeLocator_73 ?_
    refine z_iret C 74 dX8_removeLocator_74 (by decide) (by decide) (by decide) ?_
    first | exact Or.inl ⟨hPz1.f (by assumption), zthr_1 _ (by decide)⟩ | exact Or.inr (Or.inl ⟨hcm, hF, zthr_1 _ (by decide)⟩) | exact Or.inr (Or.inr (Or.inl ⟨hcm, hca, hX, zthr_2 _ _ (by decide)⟩))
  refine z_iconst C 9 dX8_removeLocator_9 ?_
  refine z_goto C 10 28 dX8_removeLocator_10 (by decide) ?_
  refine z_putI C 28 zcl8 (show 0 < 1 by omega) (zc26 ..) 0 (by decide) wf_8_99 rfl rfl rfl (Nat.le_of_ble_eq_true rfl) (zc26 ..) dX8_removeLocator_28 ?_
  refine z_aload_n C 31 dX8_removeLocator_31 rfl 0 rfl ?_
  refine z_getI C 32 zcl8 (show 0 < 1 by omega) (zc26 ..) 0 (by decide) rfl wf_8_99 dX8_removeLocator_32 (fun zq25 ezq25 hzq25 => ?_)
  rw [zV_eq (by first | assumption | decide | omega)] at ezq25
  subst ezq25
  refine z_if_ne C 35 66 dX8_removeLocator_35 (by decide) (by decide) (fun c35_197 => ?_) (fun c35_197 => ?_)
  rotate_left
  · exact absurd c35_197 (by decide)
  refine z_aload_n C 66 dX8_removeLocator_66 rfl 0 rfl ?_
  refine z_getI C 67 zcl8 (show 0 < 1 by omega) (zc26 ..) 0 (by decide) rfl wf_8_99 dX8_removeLocator_67 (fun zq26 ezq26 hzq26 => ?_)
  rw [zV_eq (by first | assumption | decide | omega)] at ezq26
  subst ezq26
  refine z_if_le C 70 75 dX8_removeLocator_70 (by decide) (by decide) (fun c70_204 => ?_) (fun c70_204 => ?_)
  · exact absurd c70_204 (by decide)
  refine z_iconst C 73 dX8_removeLocator_73 ?_
  refine z_iret C 74 dX8_removeLocator_74 (by decide) (by decide) (by decide) ?_
  first | exact Or.inl ⟨hPz1.f (by assumption), zthr_1 _ (by decide)⟩ | exact Or.inr (Or.inl ⟨hcm, hF, zthr_1 _ (by decide)⟩) | exact Or.inr (Or.inr (Or.inl ⟨hcm, hca, hX, zthr_2 _ _ (by decide)⟩))
