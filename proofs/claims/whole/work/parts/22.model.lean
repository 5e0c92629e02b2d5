set_option maxHeartbeats 4000000 in
set_option maxRecDepth 100000 in
theorem c_X8_send (l : Launch) (G : zG) (M : zMem) (hw : zWM M) (a idn : Int) (ha : zrg a) (hid : zrg idn) (hu : zV M 26 0 21 < 1000000) (h16 : ∀ (M1 : zMem) (mm : Int), (∀ κ i1 j1 : Nat, κ ≠ 48 → ¬ (κ = 26 ∧ j1 = 0) → M1 κ i1 j1 = M κ i1 j1) → zfnd (znv M1) (znl M1) (zng M1) (znn M1) idn mm → ¬ znh M1 idn 16 mm) (hfr : 0 ≤ a ∧ a < 3 → ∀ (M0 M1 : zMem) (v b : Int), (∀ κ i1 j1 : Nat, κ ≠ 48 → ¬ (κ = 26 ∧ j1 = 0) → M0 κ i1 j1 = M κ i1 j1) → zclr M0 M1 a v b (8 * a + 8) → zhfr M1 a.toNat) : Met l yX8_send [.code yX8_send cX8_send 5 (some .int)] (zR 5 0 0) (zPc G M [.ref (zad G 26 0), .int (zI a), .int (zI idn)]) (zQi G (fun x M' => (¬ (0 ≤ a ∧ a < 3) ∧ zthr M M' 1) ∨ ((0 ≤ a ∧ a < 3) ∧ ¬ (0 ≤ idn ∧ idn < 65536) ∧ zthr M M' 2) ∨ ((0 ≤ a ∧ a < 3) ∧ (0 ≤ idn ∧ idn < 65536) ∧ ∃ M0, zthr M M0 0 ∧ zmsnt M0 M' a idn x))) 0 0 (zA G) := by
  refine z_met [(0, .ref (zad G 26 0)), (1, .int (zI a)), (2, .int (zI idn))] (by decide) (Nat.le_of_ble_eq_true rfl) rfl ?_
  intro p e s m below meth c C
  have C : zC p s m ([.ref (zad G 26 0), .int (zI a), .int (zI idn)] : List Value).toArray meth c G RX8 cX8_send 5 (some .int) := C
  have hw9z := hw
  obtain ⟨w1, w2, w3, w4, w5, w6, w7, w8, w9, w10, w11, w12, w13, w14⟩ := hw9z
  refine z_aload_n C 0 dX8_send_0 rfl 0 rfl ?_
  refine z_iload_n C 1 dX8_send_1 rfl 1 rfl ?_
  refine z_callSi C 2 (As := [.int (zI a)]) (rest := [.ref (zad G 26 0)]) (c_X8_isRouter l G M a ha) (zS_of 1 C wm_8_188 wc_X8_isRouter wini_8 wst_X8_isRouter ⟨by decide, by decide, by decide⟩ ⟨by decide, by decide⟩) rfl (Nat.le_of_ble_eq_true rfl) ⟨by decide, by decide⟩ dX8_send_2 rfl (fun zq1 Mz2 hzq1 hPz1 => ?_)
  obtain ⟨rfl, hPz1⟩ := hPz1
  refine z_if_ne C 5 12 dX8_send_5 (by decide) hzq1 (fun c5_12 => ?_) (fun c5_12 => ?_)
  · have hcr := hPz1.t c5_12
    refine z_iload_n C 12 dX8_send_12 rfl 2 rfl ?_
    refine z_callSi C 13 (As := [.int (zI idn)]) (rest := [.ref (zad G 26 0)]) (c_X8_isIdentifier l G M idn hid) (zS_of 1 C wm_8_107 wc_X8_isIdentifier wini_8 wst_X8_isIdentifier ⟨by decide, by decide, by decide⟩ ⟨by decide, by decide⟩) rfl (Nat.le_of_ble_eq_true rfl) ⟨by decide, by decide⟩ dX8_send_13 rfl (fun zq3 Mz4 hzq3 hPz3 => ?_)
    obtain ⟨rfl, hPz3⟩ := hPz3
    refine z_if_eq C 16 23 dX8_send_16 (by decide) hzq3 (fun c16_18 => ?_) (fun c16_18 => ?_)
    · refine z_iconst C 23 dX8_send_23 ?_
      refine z_putI C 24 zcl8 (show 0 < 1 by omega) (zc26 ..) 0 (by decide) wf_8_99 rfl rfl rfl (Nat.le_of_ble_eq_true rfl) (zc26 ..) dX8_send_24 ?_
      refine z_aload_n C 27 dX8_send_27 rfl 0 rfl ?_
      refine z_getI C 28 zcl8 (show 0 < 1 by omega) (zc26 ..) 0 (by decide) rfl wf_8_99 dX8_send_28 (fun zq5 ezq5 hzq5 => ?_)
      rw [zV_eq (by first | assumption | decide | omega)] at ezq5
      subst ezq5
      refine z_if_le C 31 36 dX8_send_31 (by decide) (by decide) (fun c31_26 => ?_) (fun c31_26 => ?_)
      · exact absurd c31_26 (by decide)
      refine z_iconst C 34 dX8_send_34 ?_
      refine z_iret C 35 dX8_send_35 (by decide) (by decide) (by decide) ?_
      first | exact Or.inl ⟨hPz1.f (by assumption), zthr_1 _ (by decide)⟩ | exact Or.inr (Or.inl ⟨hcr, hPz3.f (by assumption), zthr_1 _ (by decide)⟩)
    have hci := hPz3.t c16_18
    refine z_iconst C 19 dX8_send_19 ?_
    refine z_goto C 20 24 dX8_send_20 (by decide) ?_
    refine z_putI C 24 zcl8 (show 0 < 1 by omega) (zc26 ..) 0 (by decide) wf_8_99 rfl rfl rfl (Nat.le_of_ble_eq_true rfl) (zc26 ..) dX8_send_24 ?_
    refine z_aload_n C 27 dX8_send_27 rfl 0 rfl ?_
    refine z_getI C 28 zcl8 (show 0 < 1 by omega) (zc26 ..) 0 (by decide) rfl wf_8_99 dX8_send_28 (fun zq6 ezq6 hzq6 => ?_)
    rw [zV_eq (by first | assumption | decide | omega)] at ezq6
    subst ezq6
    refine z_if_le C 31 36 dX8_send_31 (by decide) (by decide) (fun c31_38 => ?_) (fun c31_38 => ?_)
    rotate_left
    · exact absurd c31_38 (by decide)
    refine z_aload_n C 36 dX8_send_36 rfl 0 rfl ?_
    refine z_iload_n C 37 dX8_send_37 rfl 1 rfl ?_
    refine z_iload_n C 38 dX8_send_38 rfl 2 rfl ?_
    refine z_callVi C 39 (As := [.int (zI a), .int (zI idn)]) (rest := []) (c_X8_entryFor l G (zup M 26 0 0 (zI 0)) (zWM_up0 hw) a hcr idn hci) zcl8 (show 0 < 1 by omega) (zc26 ..) (zW_of 2 C wm_8_191 wc_X8_entryFor wini_8 wi_X8_entryFor wse_X8_entryFor ⟨by decide, by decide, by decide⟩ ⟨by decide, by decide⟩) rfl (Nat.le_of_ble_eq_true rfl) ⟨by decide, by decide⟩ dX8_send_39 rfl (fun zq7 Mz8 hzq7 hPz7 => ?_)
    obtain ⟨rfl, hPz7⟩ := hPz7
    have hef : zq7 = -1 ∨ 0 ≤ zq7 ∧ zq7 < 24 := by rcases hPz7 with ⟨z1, -⟩ | ⟨j1, z1, z2, -⟩; exact Or.inl z1; exact Or.inr (by omega)
    refine z_istore_n (lv' := [(3, .int (zI zq7)), (0, .ref (zad G 26 0)), (1, .int (zI a)), (2, .int (zI idn))]) C 42 dX8_send_42 rfl (by decide) rfl ?_
    refine z_iload_n C 43 dX8_send_43 rfl 0 rfl ?_
    refine z_iconst C 44 dX8_send_44 ?_
    refine z_icmp_ne C 45 86 dX8_send_45 (by decide) hzq7 (by decide) (fun c45_50 => ?_) (fun c45_50 => ?_)
    · refine z_aload_n C 86 dX8_send_86 rfl 1 rfl ?_
      refine z_dup C 87 dX8_send_87 rfl ?_
      refine z_getI C 88 zcl8 (show 0 < 1 by omega) (zc26 ..) 21 (by decide) rfl wf_8_167 dX8_send_88 (fun zq9 ezq9 hzq9 => ?_)
      rw [zV_nj (by decide)] at ezq9
      refine z_iconst C 91 dX8_send_91 ?_
      refine z_iadd C 92 dX8_send_92 ?_
      refine z_putI C 93 zcl8 (show 0 < 1 by omega) (zc26 ..) 21 (by decide) wf_8_167 rfl rfl rfl (Nat.le_of_ble_eq_true rfl) (zc26 ..) dX8_send_93 ?_
      refine z_aload_n C 96 dX8_send_96 rfl 1 rfl ?_
      refine z_get C 97 zcl8 (show 0 < 1 by omega) (zc26 ..) 20 (by decide) rfl wf_8_60 dX8_send_97 ?_
      refine z_iload_n C 100 dX8_send_100 rfl 0 rfl ?_
      refine z_aload_n C 101 dX8_send_101 rfl 1 rfl ?_
      refine z_getI C 102 zcl8 (show 0 < 1 by omega) (zc26 ..) 21 (by decide) rfl wf_8_167 dX8_send_102 (fun zq10 ezq10 hzq10 => ?_)
      rw [zV_eq (by first | assumption | decide | omega)] at ezq10
      refine z_iast C 105 (show 0 < 1 by omega) (zc50 ..) hzq7 (by omega) (show zq7 < ((24 : Nat) : Int) by omega) (zc50 ..) dX8_send_105 ?_
      have hwm : zWM (zup (zup (zup M 26 0 0 (zI 0)) 26 0 21 (zI (zq9 + 1))) 50 0 zq7.toNat (zI zq10)) := zWM_up (zWM_uses (zWM_up0 hw) (by have := w13; omega)) (by omega)
      have hxe : 0 ≤ zq7 ∧ zq7 < 24 := by omega
      refine z_aload_n C 106 dX8_send_106 rfl 1 rfl ?_
      refine z_get C 107 zcl8 (show 0 < 1 by omega) (zc26 ..) 24 (by decide) rfl wf_8_69 dX8_send_107 ?_
      refine z_iload_n C 110 dX8_send_110 rfl 0 rfl ?_
      refine z_iald C 111 (show 0 < 1 by omega) (zc54 ..) hzq7 (by omega) (show zq7 < ((24 : Nat) : Int) by omega) dX8_send_111 (fun zq11 ezq11 hzq11 => ?_)
      rw [zV_ne (by decide)] at ezq11
      rw [zV_ne (by decide)] at ezq11
      rw [zV_ne (by decide)] at ezq11
      have h54 : zV (zup (zup (zup M 26 0 0 (zI 0)) 26 0 21 (zI (zq9 + 1))) 50 0 zq7.toNat (zI zq10)) 54 0 (zq7).toNat = zq11 := by rw [zV_ne (by decide), zV_ne (by decide), zV_ne (by decide), ezq11]
      have hM2 : (zup (zup (zup M 26 0 0 (zI 0)) 26 0 21 (zI (zq9 + 1))) 50 0 zq7.toNat (zI zq10)) = zup (zup (zup M 26 0 0 (zI 0)) 26 0 21 (zI (zV (zup M 26 0 0 (zI 0)) 26 0 21 + 1))) 50 0 (zq7).toNat (zI (zV (zup M 26 0 0 (zI 0)) 26 0 21 + 1)) := by rw [zV_nj (by decide), ← ezq9, ezq10]
      refine z_iconst C 112 dX8_send_112 ?_
      refine z_icmp_ne C 113 120 dX8_send_113 (by decide) hzq11 (by decide) (fun c113_78 => ?_) (fun c113_78 => ?_)
      · refine z_aload_n C 120 dX8_send_120 rfl 1 rfl ?_
        refine z_iload_n C 121 dX8_send_121 rfl 2 rfl ?_
        refine z_iload_n C 122 dX8_send_122 rfl 0 rfl ?_
        refine z_callVi C 123 (As := [.int (zI a), .int (zI zq7)]) (rest := []) (c_X8_bestOf l G (zup (zup (zup M 26 0 0 (zI 0)) 26 0 21 (zI (zq9 + 1))) 50 0 zq7.toNat (zI zq10)) hwm a zq7 hcr hxe) zcl8 (show 0 < 1 by omega) (zc26 ..) (zW_of 2 C wm_8_185 wc_X8_bestOf wini_8 wi_X8_bestOf wse_X8_bestOf ⟨by decide, by decide, by decide⟩ ⟨by decide, by decide⟩) rfl (Nat.le_of_ble_eq_true rfl) ⟨by decide, by decide⟩ dX8_send_123 rfl (fun zq12 Mz13 hzq12 hPz12 => ?_)
        obtain ⟨rfl, hPz12⟩ := hPz12
        refine z_iconst C 126 dX8_send_126 ?_
        refine z_icmp_ne C 127 135 dX8_send_127 (by decide) hzq12 (by decide) (fun c127_86 => ?_) (fun c127_86 => ?_)
        · have hb4 := c127_86
          refine z_aload_n C 135 dX8_send_135 rfl 1 rfl ?_
          refine z_iload_n C 136 dX8_send_136 rfl 2 rfl ?_
          refine z_iload_n C 137 dX8_send_137 rfl 0 rfl ?_
          refine z_callVi C 138 (As := [.int (zI a), .int (zI zq7)]) (rest := []) (c_X8_goesTo l G (zup (zup (zup M 26 0 0 (zI 0)) 26 0 21 (zI (zq9 + 1))) 50 0 zq7.toNat (zI zq10)) hwm a zq7 hcr hxe _ rfl (zch_ge (zbp_ex (fun z => hb4 (hPz12.trans z))))) zcl8 (show 0 < 1 by omega) (zc26 ..) (zW_of 2 C wm_8_197 wc_X8_goesTo wini_8 wi_X8_goesTo wse_X8_goesTo ⟨by decide, by decide, by decide⟩ ⟨by decide, by decide⟩) rfl (Nat.le_of_ble_eq_true rfl) ⟨by decide, by decide⟩ dX8_send_138 rfl (fun zq14 Mz15 hzq14 hPz14 => ?_)
          refine z_iret C 141 dX8_send_141 (by decide) (by decide) hzq14 ?_
          refine Or.inr (Or.inr ⟨hcr, hci, _, zthr_1 _ (by decide), ?_⟩)
          refine Or.inl ⟨zq7, by omega, hPz7, _, hM2, ?_⟩
          exact Or.inr (Or.inr ⟨by omega, by rw [← hPz12]; omega, hPz14.1, hPz14.2⟩)
        refine z_bipush C 130 dX8_send_130 (by decide +kernel) ?_
        refine z_goto C 132 141 dX8_send_132 (by decide) ?_
        refine z_iret C 141 dX8_send_141 (by decide) (by decide) (by decide) ?_
        refine Or.inr (Or.inr ⟨hcr, hci, _, zthr_1 _ (by decide), ?_⟩)
        refine Or.inl ⟨zq7, by omega, hPz7, _, hM2, ?_⟩
        exact Or.inr (Or.inl ⟨by omega, by omega, rfl, rfl⟩)
      refine z_iconst C 116 dX8_send_116 ?_
      refine z_goto C 117 141 dX8_send_117 (by decide) ?_
      refine z_iret C 141 dX8_send_141 (by decide) (by decide) (by decide) ?_
      refine Or.inr (Or.inr ⟨hcr, hci, _, zthr_1 _ (by decide), ?_⟩)
      refine Or.inl ⟨zq7, by omega, hPz7, _, hM2, ?_⟩
      exact Or.inl ⟨by omega, rfl, rfl⟩
    refine z_aload_n C 48 dX8_send_48 rfl 1 rfl ?_
    refine z_iload_n C 49 dX8_send_49 rfl 3 rfl ?_
    refine z_callVi C 50 (As := [.int (zI idn)]) (rest := []) (c_X8_serverFor l G (zup M 26 0 0 (zI 0)) (zWM_up0 hw) idn hci) zcl8 (show 0 < 1 by omega) (zc26 ..) (zW_of 1 C wm_8_164 wc_X8_serverFor wini_8 wi_X8_serverFor wse_X8_serverFor ⟨by decide, by decide, by decide⟩ ⟨by decide, by decide⟩) rfl (Nat.le_of_ble_eq_true rfl) ⟨by decide, by decide⟩ dX8_send_50 rfl (fun zq16 Mz17 hzq16 hPz16 => ?_)
    obtain ⟨rfl, hPz16⟩ := hPz16
    obtain ⟨y9, hy1, hy2⟩ := hPz16
    have hy3 : 0 ≤ zq16 ∧ zq16 < 4 := by rw [hy2]; unfold zsv; split; decide; have z1 := zfnd_rg hy1; have z3 : zndn (zup M 26 0 0 (zI 0)) = zV M 26 0 13 := zV_nj (by decide); have z4 := (zWM_up0 (v := zI 0) hw).2.2.2.2.2.1; exact z4 _ (by omega)
    refine z_istore (lv' := [(4, .int (zI zq16)), (3, .int (zI zq7)), (0, .ref (zad G 26 0)), (1, .int (zI a)), (2, .int (zI idn))]) C 53 dX8_send_53 (by decide) rfl ?_
    refine z_aload_n C 55 dX8_send_55 rfl 2 rfl ?_
    refine z_get C 56 zcl8 (show 0 < 1 by omega) (zc26 ..) 17 (by decide) rfl wf_8_51 dX8_send_56 ?_
    refine z_iload C 59 dX8_send_59 0 rfl ?_
    refine z_zald C 61 (show 0 < 1 by omega) (zc47 ..) hzq16 (by omega) (show zq16 < ((4 : Nat) : Int) by omega) dX8_send_61 (fun zq18 ezq18 hzq18 => ?_)
    rw [zV_ne (by decide)] at ezq18
    refine z_if_eq C 62 68 dX8_send_62 (by decide) hzq18 (fun c62_118 => ?_) (fun c62_118 => ?_)
    · refine z_aload_n C 68 dX8_send_68 rfl 2 rfl ?_
      refine z_get C 69 zcl8 (show 0 < 1 by omega) (zc26 ..) 18 (by decide) rfl wf_8_54 dX8_send_69 ?_
      refine z_iload C 72 dX8_send_72 0 rfl ?_
      refine z_dup2 C 74 dX8_send_74 rfl rfl ?_
      refine z_iald C 75 (show 0 < 1 by omega) (zc48 ..) hzq16 (by omega) (show zq16 < ((4 : Nat) : Int) by omega) dX8_send_75 (fun zq19 ezq19 hzq19 => ?_)
      rw [zV_ne (by decide)] at ezq19
      refine z_iconst C 76 dX8_send_76 ?_
      refine z_iadd C 77 dX8_send_77 ?_
      refine z_iast C 78 (show 0 < 1 by omega) (zc48 ..) hzq16 (by omega) (show zq16 < ((4 : Nat) : Int) by omega) (zc48 ..) dX8_send_78 ?_
      refine z_aload_n C 79 dX8_send_79 rfl 2 rfl ?_
      refine z_iload_n C 80 dX8_send_80 rfl 3 rfl ?_
      refine z_iload_n C 81 dX8_send_81 rfl 4 rfl ?_
      refine z_callVi C 82 (As := [.int (zI a), .int (zI idn)]) (rest := []) (c_X8_gets l G (zup (zup M 26 0 0 (zI 0)) 48 0 zq16.toNat (zI (zq19 + 1))) (zWM_up (zWM_up0 hw) (by omega)) a hcr idn hci (fun mm hmm => h16 _ mm (fun κ i1 j1 h h2 => by rw [zup_at (fun z => h z.1), zup_at (fun z => h2 ⟨z.1, z.2.2⟩)]) hmm) (fun M1 v b hc => hfr hcr _ M1 v b (fun κ i1 j1 h h2 => by rw [zup_at (fun z => h z.1), zup_at (fun z => h2 ⟨z.1, z.2.2⟩)]) hc)) zcl8 (show 0 < 1 by omega) (zc26 ..) (zW_of 2 C wm_8_194 wc_X8_gets wini_8 wi_X8_gets wse_X8_gets ⟨by decide, by decide, by decide⟩ ⟨by decide, by decide⟩) rfl (Nat.le_of_ble_eq_true rfl) ⟨by decide, by decide⟩ dX8_send_82 rfl (fun zq20 Mz21 hzq20 hPz20 => ?_)
      have hwg := zWM_got (zWM_up (zWM_up0 hw) (by omega)) hcr hci hPz20
      have hug : zV Mz21 26 0 21 = zV M 26 0 21 := by rw [zgot_u hPz20, zV_ne (by decide), zV_nj (by decide)]
      have hxg : 8 * a ≤ zq20 ∧ zq20 < 8 * a + 8 := zgot_x hPz20
      refine z_istore_n (lv' := [(3, .int (zI zq20)), (4, .int (zI zq16)), (0, .ref (zad G 26 0)), (1, .int (zI a)), (2, .int (zI idn))]) C 85 dX8_send_85 rfl (by decide) rfl ?_
      refine z_aload_n C 86 dX8_send_86 rfl 2 rfl ?_
      refine z_dup C 87 dX8_send_87 rfl ?_
      refine z_getI C 88 zcl8 (show 0 < 1 by omega) (zc26 ..) 21 (by decide) rfl wf_8_167 dX8_send_88 (fun zq22 ezq22 hzq22 => ?_)
      refine z_iconst C 91 dX8_send_91 ?_
      refine z_iadd C 92 dX8_send_92 ?_
      refine z_putI C 93 zcl8 (show 0 < 1 by omega) (zc26 ..) 21 (by decide) wf_8_167 rfl rfl rfl (Nat.le_of_ble_eq_true rfl) (zc26 ..) dX8_send_93 ?_
      refine z_aload_n C 96 dX8_send_96 rfl 2 rfl ?_
      refine z_get C 97 zcl8 (show 0 < 1 by omega) (zc26 ..) 20 (by decide) rfl wf_8_60 dX8_send_97 ?_
      refine z_iload_n C 100 dX8_send_100 rfl 0 rfl ?_
      refine z_aload_n C 101 dX8_send_101 rfl 2 rfl ?_
      refine z_getI C 102 zcl8 (show 0 < 1 by omega) (zc26 ..) 21 (by decide) rfl wf_8_167 dX8_send_102 (fun zq23 ezq23 hzq23 => ?_)
      rw [zV_eq (by first | assumption | decide | omega)] at ezq23
      refine z_iast C 105 (show 0 < 1 by omega) (zc50 ..) hzq20 (by omega) (show zq20 < ((24 : Nat) : Int) by omega) (zc50 ..) dX8_send_105 ?_
      have hwm : zWM (zup (zup Mz21 26 0 21 (zI (zq22 + 1))) 50 0 zq20.toNat (zI zq23)) := zWM_up (zWM_uses hwg (by have := w13; omega)) (by omega)
      have hxe : 0 ≤ zq20 ∧ zq20 < 24 := by omega
      refine z_aload_n C 106 dX8_send_106 rfl 2 rfl ?_
      refine z_get C 107 zcl8 (show 0 < 1 by omega) (zc26 ..) 24 (by decide) rfl wf_8_69 dX8_send_107 ?_
      refine z_iload_n C 110 dX8_send_110 rfl 0 rfl ?_
      refine z_iald C 111 (show 0 < 1 by omega) (zc54 ..) hzq20 (by omega) (show zq20 < ((24 : Nat) : Int) by omega) dX8_send_111 (fun zq24 ezq24 hzq24 => ?_)
      rw [zV_ne (by decide)] at ezq24
      rw [zV_ne (by decide)] at ezq24
      have h54 : zV (zup (zup Mz21 26 0 21 (zI (zq22 + 1))) 50 0 zq20.toNat (zI zq23)) 54 0 (zq20).toNat = zq24 := by rw [zV_ne (by decide), zV_ne (by decide), ezq24]
      have hM2 : (zup (zup Mz21 26 0 21 (zI (zq22 + 1))) 50 0 zq20.toNat (zI zq23)) = zup (zup Mz21 26 0 21 (zI (zV Mz21 26 0 21 + 1))) 50 0 (zq20).toNat (zI (zV Mz21 26 0 21 + 1)) := by rw [← ezq22, ezq23]
      refine z_iconst C 112 dX8_send_112 ?_
      refine z_icmp_ne C 113 120 dX8_send_113 (by decide) hzq24 (by decide) (fun c113_161 => ?_) (fun c113_161 => ?_)
      · refine z_aload_n C 120 dX8_send_120 rfl 2 rfl ?_
        refine z_iload_n C 121 dX8_send_121 rfl 3 rfl ?_
        refine z_iload_n C 122 dX8_send_122 rfl 0 rfl ?_
        refine z_callVi C 123 (As := [.int (zI a), .int (zI zq20)]) (rest := []) (c_X8_bestOf l G (zup (zup Mz21 26 0 21 (zI (zq22 + 1))) 50 0 zq20.toNat (zI zq23)) hwm a zq20 hcr hxe) zcl8 (show 0 < 1 by omega) (zc26 ..) (zW_of 2 C wm_8_185 wc_X8_bestOf wini_8 wi_X8_bestOf wse_X8_bestOf ⟨by decide, by decide, by decide⟩ ⟨by decide, by decide⟩) rfl (Nat.le_of_ble_eq_true rfl) ⟨by decide, by decide⟩ dX8_send_123 rfl (fun zq25 Mz26 hzq25 hPz25 => ?_)
        obtain ⟨rfl, hPz25⟩ := hPz25
        refine z_iconst C 126 dX8_send_126 ?_
        refine z_icmp_ne C 127 135 dX8_send_127 (by decide) hzq25 (by decide) (fun c127_169 => ?_) (fun c127_169 => ?_)
        · have hb4 := c127_169
          refine z_aload_n C 135 dX8_send_135 rfl 2 rfl ?_
          refine z_iload_n C 136 dX8_send_136 rfl 3 rfl ?_
          refine z_iload_n C 137 dX8_send_137 rfl 0 rfl ?_
          refine z_callVi C 138 (As := [.int (zI a), .int (zI zq20)]) (rest := []) (c_X8_goesTo l G (zup (zup Mz21 26 0 21 (zI (zq22 + 1))) 50 0 zq20.toNat (zI zq23)) hwm a zq20 hcr hxe _ rfl (zch_ge (zbp_ex (fun z => hb4 (hPz25.trans z))))) zcl8 (show 0 < 1 by omega) (zc26 ..) (zW_of 2 C wm_8_197 wc_X8_goesTo wini_8 wi_X8_goesTo wse_X8_goesTo ⟨by decide, by decide, by decide⟩ ⟨by decide, by decide⟩) rfl (Nat.le_of_ble_eq_true rfl) ⟨by decide, by decide⟩ dX8_send_138 rfl (fun zq27 Mz28 hzq27 hPz27 => ?_)
          refine z_iret C 141 dX8_send_141 (by decide) (by decide) hzq27 ?_
          refine Or.inr (Or.inr ⟨hcr, hci, _, zthr_1 _ (by decide), ?_⟩)
          refine Or.inr ⟨by rw [show (-1 : Int) = zq7 by omega]; exact hPz7, y9, hy1, Or.inr ⟨?_, zq20, Mz21, ?_, _, hM2, ?_⟩⟩
          · rw [← hy2, zV_ne (by decide)]; omega
          · have h9 := hPz20
            rw [ezq19, hy2] at h9
            rw [zV_ne (by decide)]
            exact h9
          exact Or.inr (Or.inr ⟨by omega, by rw [← hPz25]; omega, hPz27.1, hPz27.2⟩)
        refine z_bipush C 130 dX8_send_130 (by decide +kernel) ?_
        refine z_goto C 132 141 dX8_send_132 (by decide) ?_
        refine z_iret C 141 dX8_send_141 (by decide) (by decide) (by decide) ?_
        refine Or.inr (Or.inr ⟨hcr, hci, _, zthr_1 _ (by decide), ?_⟩)
        refine Or.inr ⟨by rw [show (-1 : Int) = zq7 by omega]; exact hPz7, y9, hy1, Or.inr ⟨?_, zq20, Mz21, ?_, _, hM2, ?_⟩⟩
        · rw [← hy2, zV_ne (by decide)]; omega
        · have h9 := hPz20
          rw [ezq19, hy2] at h9
          rw [zV_ne (by decide)]
          exact h9
        exact Or.inr (Or.inl ⟨by omega, by omega, rfl, rfl⟩)
      refine z_iconst C 116 dX8_send_116 ?_
      refine z_goto C 117 141 dX8_send_117 (by decide) ?_
      refine z_iret C 141 dX8_send_141 (by decide) (by decide) (by decide) ?_
      refine Or.inr (Or.inr ⟨hcr, hci, _, zthr_1 _ (by decide), ?_⟩)
      refine Or.inr ⟨by rw [show (-1 : Int) = zq7 by omega]; exact hPz7, y9, hy1, Or.inr ⟨?_, zq20, Mz21, ?_, _, hM2, ?_⟩⟩
      · rw [← hy2, zV_ne (by decide)]; omega
      · have h9 := hPz20
        rw [ezq19, hy2] at h9
        rw [zV_ne (by decide)]
        exact h9
      exact Or.inl ⟨by omega, rfl, rfl⟩
    refine z_bipush C 65 dX8_send_65 (by decide +kernel) ?_
    refine z_iret C 67 dX8_send_67 (by decide) (by decide) (by decide) ?_
    refine Or.inr (Or.inr ⟨hcr, hci, _, zthr_1 _ (by decide), Or.inr ⟨by rw [show (-1 : Int) = zq7 by omega]; exact hPz7, y9, hy1, Or.inl ⟨?_, rfl, rfl⟩⟩⟩)
    rw [← hy2, zV_ne (by decide)]; omega
  refine z_iconst C 8 dX8_send_8 ?_
  refine z_goto C 9 24 dX8_send_9 (by decide) ?_
  refine z_putI C 24 zcl8 (show 0 < 1 by omega) (zc26 ..) 0 (by decide) wf_8_99 rfl rfl rfl (Nat.le_of_ble_eq_true rfl) (zc26 ..) dX8_send_24 ?_
  refine z_aload_n C 27 dX8_send_27 rfl 0 rfl ?_
  refine z_getI C 28 zcl8 (show 0 < 1 by omega) (zc26 ..) 0 (by decide) rfl wf_8_99 dX8_send_28 (fun zq29 ezq29 hzq29 => ?_)
  rw [zV_eq (by first | assumption | decide | omega)] at ezq29
  subst ezq29
  refine z_if_le C 31 36 dX8_send_31 (by decide) (by decide) (fun c31_214 => ?_) (fun c31_214 => ?_)
  · exact absurd c31_214 (by decide)
  refine z_iconst C 34 dX8_send_34 ?_
  refine z_iret C 35 dX8_send_35 (by decide) (by decide) (by decide) ?_
  first | exact Or.inl ⟨hPz1.f (by assumption), zthr_1 _ (by decide)⟩ | exact Or.inr (Or.inl ⟨hcr, hPz3.f (by assumption), zthr_1 _ (by decide)⟩)
set_option maxHeartbeats 4000000 in
set_option maxRecDepth 100000 in
theorem c_X8_probe (l : Launch) (G : zG) (M : zMem) (a b u : Int) (ha : zrg a) (hb : zrg b) (hu : u = 0 ∨ u = 1) : Met l yX8_probe [.code yX8_probe cX8_probe 6 (some .int)] (zR 2 0 0) (zPc G M [.ref (zad G 26 0), .int (zI a), .int (zI b), .int (zI u)]) (zQi G (fun x M' => (¬ (0 ≤ a ∧ a < 3) ∧ zthr M M' 1) ∨ ((0 ≤ a ∧ a < 3) ∧ ¬ (0 ≤ b ∧ b < 32) ∧ zthr M M' 2) ∨ ((0 ≤ a ∧ a < 3) ∧ (0 ≤ b ∧ b < 32) ∧ ∃ M0, zthr M M0 0 ∧ M' = zup M0 63 0 (32 * a + b).toNat (zI (if u = 0 then 1 else 0)) ∧ x = zsm (fun j => zind (znu M' a.toNat j ≠ 0)) 32))) 0 0 (zA G) := by
  refine z_met [(0, .ref (zad G 26 0)), (1, .int (zI a)), (2, .int (zI b)), (3, .int (zI u))] (by decide) (Nat.le_of_ble_eq_true rfl) rfl ?_
  intro p e s m below meth c C
  have C : zC p s m ([.ref (zad G 26 0), .int (zI a), .int (zI b), .int (zI u)] : List Value).toArray meth c G RX8 cX8_probe 6 (some .int) := C
  refine z_aload_n C 0 dX8_probe_0 rfl 0 rfl ?_
  refine z_iload_n C 1 dX8_probe_1 rfl 1 rfl ?_
  refine z_callSi C 2 (As := [.int (zI a)]) (rest := [.ref (zad G 26 0)]) (c_X8_isRouter l G M a ha) (zS_of 1 C wm_8_188 wc_X8_isRouter wini_8 wst_X8_isRouter ⟨by decide, by decide, by decide⟩ ⟨by decide, by decide⟩) rfl (Nat.le_of_ble_eq_true rfl) ⟨by decide, by decide⟩ dX8_probe_2 rfl (fun zq1 Mz2 hzq1 hPz1 => ?_)
  obtain ⟨rfl, hPz1⟩ := hPz1
  refine z_if_ne C 5 12 dX8_probe_5 (by decide) hzq1 (fun c5_10 => ?_) (fun c5_10 => ?_)
  · have hcr := hPz1.t c5_10
    refine z_iload_n C 12 dX8_probe_12 rfl 2 rfl ?_
    refine z_iconst C 13 dX8_probe_13 ?_
    refine z_bipush C 14 dX8_probe_14 (by decide +kernel) ?_
    refine z_callSi C 16 (As := [.int (zI b), .int (zI 0), .int (zI 31)]) (rest := [.ref (zad G 26 0)]) (c_X8_in l G M b 0 31 (by first | assumption | decide | omega) (by first | assumption | decide | omega) (by first | assumption | decide | omega)) (zS_of 3 C wm_8_103 wc_X8_in wini_8 wst_X8_in ⟨by decide, by decide, by decide⟩ ⟨by decide, by decide⟩) rfl (Nat.le_of_ble_eq_true rfl) ⟨by decide, by decide⟩ dX8_probe_16 rfl (fun zq3 Mz4 hzq3 hPz3 => ?_)
    obtain ⟨rfl, hPz3⟩ := hPz3
    refine z_if_eq C 19 26 dX8_probe_19 (by decide) hzq3 (fun c19_18 => ?_) (fun c19_18 => ?_)
    · refine z_iconst C 26 dX8_probe_26 ?_
      refine z_putI C 27 zcl8 (show 0 < 1 by omega) (zc26 ..) 0 (by decide) wf_8_99 rfl rfl rfl (Nat.le_of_ble_eq_true rfl) (zc26 ..) dX8_probe_27 ?_
      refine z_aload_n C 30 dX8_probe_30 rfl 0 rfl ?_
      refine z_getI C 31 zcl8 (show 0 < 1 by omega) (zc26 ..) 0 (by decide) rfl wf_8_99 dX8_probe_31 (fun zq5 ezq5 hzq5 => ?_)
      rw [zV_eq (by first | assumption | decide | omega)] at ezq5
      subst ezq5
      refine z_if_le C 34 39 dX8_probe_34 (by decide) (by decide) (fun c34_26 => ?_) (fun c34_26 => ?_)
      · exact absurd c34_26 (by decide)
      refine z_iconst C 37 dX8_probe_37 ?_
      refine z_iret C 38 dX8_probe_38 (by decide) (by decide) (by decide) ?_
      first | exact Or.inl ⟨hPz1.f (by assumption), zthr_1 _ (by decide)⟩ | exact Or.inr (Or.inl ⟨hcr, fun z => hPz3.f (by assumption) (by omega), zthr_1 _ (by decide)⟩)
    have hcb := hPz3.t c19_18
    refine z_iconst C 22 dX8_probe_22 ?_
    refine z_goto C 23 27 dX8_probe_23 (by decide) ?_
    refine z_putI C 27 zcl8 (show 0 < 1 by omega) (zc26 ..) 0 (by decide) wf_8_99 rfl rfl rfl (Nat.le_of_ble_eq_true rfl) (zc26 ..) dX8_probe_27 ?_
    refine z_aload_n C 30 dX8_probe_30 rfl 0 rfl ?_
    refine z_getI C 31 zcl8 (show 0 < 1 by omega) (zc26 ..) 0 (by decide) rfl wf_8_99 dX8_probe_31 (fun zq6 ezq6 hzq6 => ?_)
    rw [zV_eq (by first | assumption | decide | omega)] at ezq6
    subst ezq6
    refine z_if_le C 34 39 dX8_probe_34 (by decide) (by decide) (fun c34_38 => ?_) (fun c34_38 => ?_)
    rotate_left
    · exact absurd c34_38 (by decide)
    refine z_aload_n C 39 dX8_probe_39 rfl 0 rfl ?_
    refine z_get C 40 zcl8 (show 0 < 1 by omega) (zc26 ..) 33 (by decide) rfl wf_8_96 dX8_probe_40 ?_
    refine z_bipush C 43 dX8_probe_43 (by decide +kernel) ?_
    refine z_iload_n C 45 dX8_probe_45 rfl 1 rfl ?_
    refine z_imul C 46 dX8_probe_46 ?_
    refine z_iload_n C 47 dX8_probe_47 rfl 2 rfl ?_
    refine z_iadd C 48 dX8_probe_48 ?_
    refine z_iload_n C 49 dX8_probe_49 rfl 3 rfl ?_
    refine z_if_ne C 50 57 dX8_probe_50 (by decide) (by first | assumption | omega) (fun c50_49 => ?_) (fun c50_49 => ?_)
    · refine z_iconst C 57 dX8_probe_57 ?_
      refine z_zast C 58 (show 0 < 1 by omega) (zc63 ..) (by first | assumption | omega) (by omega) (show ((32 * a) + b) < ((96 : Nat) : Int) by omega) (by first | assumption | omega) (zc63 ..) dX8_probe_58 ?_
      refine z_iconst C 59 dX8_probe_59 ?_
      refine z_istore (lv' := [(4, .int (zI 0)), (0, .ref (zad G 26 0)), (1, .int (zI a)), (2, .int (zI b)), (3, .int (zI u))]) C 60 dX8_probe_60 (by decide) rfl ?_
      refine z_iconst C 62 dX8_probe_62 ?_
      refine z_istore (lv' := [(5, .int (zI 0)), (4, .int (zI 0)), (0, .ref (zad G 26 0)), (1, .int (zI a)), (2, .int (zI b)), (3, .int (zI u))]) C 63 dX8_probe_63 (by decide) rfl ?_
      have L65_7 : ∀ (kz7 : Nat) (n : Int) (k : Int), (0 ≤ k ∧ k ≤ 32) → (n = zsm (fun j => zind (znu (zup (zup M 26 0 0 (zI 0)) 63 0 ((32 * a) + b).toNat (zI 0)) a.toNat j ≠ 0)) k.toNat) → (32 - k) < (kz7 : Int) → zZ p l e (zR 2 0 0) s m ([.ref (zad G 26 0), .int (zI a), .int (zI b), .int (zI u)] : List Value).toArray below meth c G 6 (MQ below (zQi G (fun x M' => (¬ (0 ≤ a ∧ a < 3) ∧ zthr M M' 1) ∨ ((0 ≤ a ∧ a < 3) ∧ ¬ (0 ≤ b ∧ b < 32) ∧ zthr M M' 2) ∨ ((0 ≤ a ∧ a < 3) ∧ (0 ≤ b ∧ b < 32) ∧ ∃ M0, zthr M M0 0 ∧ M' = zup M0 63 0 (32 * a + b).toNat (zI (if u = 0 then 1 else 0)) ∧ x = zsm (fun j => zind (znu M' a.toNat j ≠ 0)) 32))) ([.ref (zad G 26 0), .int (zI a), .int (zI b), .int (zI u)] : List Value).toArray s 0 0 (zA G)) (zup (zup M 26 0 0 (zI 0)) 63 0 ((32 * a) + b).toNat (zI 0)) 0 0 65 [(0, .ref (zad G 26 0)), (1, .int (zI a)), (2, .int (zI b)), (3, .int (zI u)), (4, .int (zI n)), (5, .int (zI k))] [] := by
        intro kz7
        induction kz7 with
        | zero =>
          intro n k g0 g1 hk
          exact absurd hk (by omega)
        | succ kz7 ihz8 =>
          intro n k g0 g1 hk
          have hs9 := zsm_01 (f := fun j => zind (znu (zup (zup M 26 0 0 (zI 0)) 63 0 ((32 * a) + b).toNat (zI 0)) a.toNat j ≠ 0)) (fun _ => zind_rg _) k.toNat
          refine z_iload C 65 dX8_probe_65 5 rfl ?_
          refine z_bipush C 67 dX8_probe_67 (by decide +kernel) ?_
          refine z_icmp_ge C 69 103 dX8_probe_69 (by decide) (by first | assumption | omega) (by decide) (fun c69_68 => ?_) (fun c69_68 => ?_)
          · refine z_iload C 103 dX8_probe_103 4 rfl ?_
            refine z_iret C 105 dX8_probe_105 (by decide) (by decide) (by first | assumption | omega) ?_
            refine Or.inr (Or.inr ⟨hcr, by omega, _, zthr_1 _ (by decide), ?_, ?_⟩)
            · first | rw [if_pos (by omega)] | rw [if_neg (by omega)]
            · rw [g1, show k = 32 by omega]; rfl
          refine z_iload C 72 dX8_probe_72 4 rfl ?_
          refine z_aload_n C 74 dX8_probe_74 rfl 0 rfl ?_
          refine z_get C 75 zcl8 (show 0 < 1 by omega) (zc26 ..) 33 (by decide) rfl wf_8_96 dX8_probe_75 ?_
          refine z_bipush C 78 dX8_probe_78 (by decide +kernel) ?_
          refine z_iload_n C 80 dX8_probe_80 rfl 1 rfl ?_
          refine z_imul C 81 dX8_probe_81 ?_
          refine z_iload C 82 dX8_probe_82 5 rfl ?_
          refine z_iadd C 84 dX8_probe_84 ?_
          refine z_zald C 85 (show 0 < 1 by omega) (zc63 ..) (by first | assumption | omega) (by omega) (show ((32 * a) + k) < ((96 : Nat) : Int) by omega) dX8_probe_85 (fun zq9 ezq9 hzq9 => ?_)
          have hz9 : znu (zup (zup M 26 0 0 (zI 0)) 63 0 ((32 * a) + b).toNat (zI 0)) a.toNat k.toNat = zq9 := by unfold znu; rw [show 32 * a.toNat + k.toNat = (32 * a + k).toNat by omega, ← ezq9]
          refine z_if_eq C 86 93 dX8_probe_86 (by decide) hzq9 (fun c86_84 => ?_) (fun c86_84 => ?_)
          · have hq9 := c86_84
            refine z_iconst C 93 dX8_probe_93 ?_
            refine z_iadd C 94 dX8_probe_94 ?_
            refine z_istore (lv' := [(4, .int (zI (n + 0))), (0, .ref (zad G 26 0)), (1, .int (zI a)), (2, .int (zI b)), (3, .int (zI u)), (5, .int (zI k))]) C 95 dX8_probe_95 (by decide) rfl ?_
            refine z_iinc (lv' := [(5, .int (zI (k + 1))), (4, .int (zI (n + 0))), (0, .ref (zad G 26 0)), (1, .int (zI a)), (2, .int (zI b)), (3, .int (zI u))]) C 97 dX8_probe_97 5 rfl (by decide) rfl ?_
            refine z_goto C 100 65 dX8_probe_100 (by decide) ?_
            refine z_sub (lv' := [(0, .ref (zad G 26 0)), (1, .int (zI a)), (2, .int (zI b)), (3, .int (zI u)), (4, .int (zI (n + 0))), (5, .int (zI (k + 1)))]) [2, 3, 4, 5, 1, 0] rfl ?_
            exact ihz8 (n + 0) (k + 1) (by omega) (by rw [zsm_s _ (by omega), ← g1, zind_f (fun z => (hz9 ▸ z) hq9)]) (by omega)
          have hq9 := c86_84
          refine z_iconst C 89 dX8_probe_89 ?_
          refine z_goto C 90 94 dX8_probe_90 (by decide) ?_
          refine z_iadd C 94 dX8_probe_94 ?_
          refine z_istore (lv' := [(4, .int (zI (n + 1))), (0, .ref (zad G 26 0)), (1, .int (zI a)), (2, .int (zI b)), (3, .int (zI u)), (5, .int (zI k))]) C 95 dX8_probe_95 (by decide) rfl ?_
          refine z_iinc (lv' := [(5, .int (zI (k + 1))), (4, .int (zI (n + 1))), (0, .ref (zad G 26 0)), (1, .int (zI a)), (2, .int (zI b)), (3, .int (zI u))]) C 97 dX8_probe_97 5 rfl (by decide) rfl ?_
          refine z_goto C 100 65 dX8_probe_100 (by decide) ?_
          refine z_sub (lv' := [(0, .ref (zad G 26 0)), (1, .int (zI a)), (2, .int (zI b)), (3, .int (zI u)), (4, .int (zI (n + 1))), (5, .int (zI (k + 1)))]) [2, 3, 4, 5, 1, 0] rfl ?_
          exact ihz8 (n + 1) (k + 1) (by omega) (by rw [zsm_s _ (by omega), ← g1, zind_t (hz9 ▸ hq9)]) (by omega)
      refine z_sub (lv' := [(0, .ref (zad G 26 0)), (1, .int (zI a)), (2, .int (zI b)), (3, .int (zI u)), (4, .int (zI 0)), (5, .int (zI 0))]) [2, 3, 4, 5, 1, 0] rfl ?_
      exact L65_7 (((32 - 0 : Int)).toNat + 1) 0 0 (by omega) (by rfl) (by omega)
    refine z_iconst C 53 dX8_probe_53 ?_
    refine z_goto C 54 58 dX8_probe_54 (by decide) ?_
    refine z_zast C 58 (show 0 < 1 by omega) (zc63 ..) (by first | assumption | omega) (by omega) (show ((32 * a) + b) < ((96 : Nat) : Int) by omega) (by first | assumption | omega) (zc63 ..) dX8_probe_58 ?_
    refine z_iconst C 59 dX8_probe_59 ?_
    refine z_istore (lv' := [(4, .int (zI 0)), (0, .ref (zad G 26 0)), (1, .int (zI a)), (2, .int (zI b)), (3, .int (zI u))]) C 60 dX8_probe_60 (by decide) rfl ?_
    refine z_iconst C 62 dX8_probe_62 ?_
    refine z_istore (lv' := [(5, .int (zI 0)), (4, .int (zI 0)), (0, .ref (zad G 26 0)), (1, .int (zI a)), (2, .int (zI b)), (3, .int (zI u))]) C 63 dX8_probe_63 (by decide) rfl ?_
    have L65_10 : ∀ (kz10 : Nat) (n : Int) (k : Int), (0 ≤ k ∧ k ≤ 32) → (n = zsm (fun j => zind (znu (zup (zup M 26 0 0 (zI 0)) 63 0 ((32 * a) + b).toNat (zI 1)) a.toNat j ≠ 0)) k.toNat) → (32 - k) < (kz10 : Int) → zZ p l e (zR 2 0 0) s m ([.ref (zad G 26 0), .int (zI a), .int (zI b), .int (zI u)] : List Value).toArray below meth c G 6 (MQ below (zQi G (fun x M' => (¬ (0 ≤ a ∧ a < 3) ∧ zthr M M' 1) ∨ ((0 ≤ a ∧ a < 3) ∧ ¬ (0 ≤ b ∧ b < 32) ∧ zthr M M' 2) ∨ ((0 ≤ a ∧ a < 3) ∧ (0 ≤ b ∧ b < 32) ∧ ∃ M0, zthr M M0 0 ∧ M' = zup M0 63 0 (32 * a + b).toNat (zI (if u = 0 then 1 else 0)) ∧ x = zsm (fun j => zind (znu M' a.toNat j ≠ 0)) 32))) ([.ref (zad G 26 0), .int (zI a), .int (zI b), .int (zI u)] : List Value).toArray s 0 0 (zA G)) (zup (zup M 26 0 0 (zI 0)) 63 0 ((32 * a) + b).toNat (zI 1)) 0 0 65 [(0, .ref (zad G 26 0)), (1, .int (zI a)), (2, .int (zI b)), (3, .int (zI u)), (4, .int (zI n)), (5, .int (zI k))] [] := by
      intro kz10
      induction kz10 with
      | zero =>
        intro n k g0 g1 hk
        exact absurd hk (by omega)
      | succ kz10 ihz11 =>
        intro n k g0 g1 hk
        have hs9 := zsm_01 (f := fun j => zind (znu (zup (zup M 26 0 0 (zI 0)) 63 0 ((32 * a) + b).toNat (zI 1)) a.toNat j ≠ 0)) (fun _ => zind_rg _) k.toNat
        refine z_iload C 65 dX8_probe_65 5 rfl ?_
        refine z_bipush C 67 dX8_probe_67 (by decide +kernel) ?_
        refine z_icmp_ge C 69 103 dX8_probe_69 (by decide) (by first | assumption | omega) (by decide) (fun c69_121 => ?_) (fun c69_121 => ?_)
        · refine z_iload C 103 dX8_probe_103 4 rfl ?_
          refine z_iret C 105 dX8_probe_105 (by decide) (by decide) (by first | assumption | omega) ?_
          refine Or.inr (Or.inr ⟨hcr, by omega, _, zthr_1 _ (by decide), ?_, ?_⟩)
          · first | rw [if_pos (by omega)] | rw [if_neg (by omega)]
          · rw [g1, show k = 32 by omega]; rfl
        refine z_iload C 72 dX8_probe_72 4 rfl ?_
        refine z_aload_n C 74 dX8_probe_74 rfl 0 rfl ?_
        refine z_get C 75 zcl8 (show 0 < 1 by omega) (zc26 ..) 33 (by decide) rfl wf_8_96 dX8_probe_75 ?_
        refine z_bipush C 78 dX8_probe_78 (by decide +kernel) ?_
        refine z_iload_n C 80 dX8_probe_80 rfl 1 rfl ?_
        refine z_imul C 81 dX8_probe_81 ?_
        refine z_iload C 82 dX8_probe_82 5 rfl ?_
        refine z_iadd C 84 dX8_probe_84 ?_
        refine z_zald C 85 (show 0 < 1 by omega) (zc63 ..) (by first | assumption | omega) (by omega) (show ((32 * a) + k) < ((96 : Nat) : Int) by omega) dX8_probe_85 (fun zq12 ezq12 hzq12 => ?_)
        have hz9 : znu (zup (zup M 26 0 0 (zI 0)) 63 0 ((32 * a) + b).toNat (zI 1)) a.toNat k.toNat = zq12 := by unfold znu; rw [show 32 * a.toNat + k.toNat = (32 * a + k).toNat by omega, ← ezq12]
        refine z_if_eq C 86 93 dX8_probe_86 (by decide) hzq12 (fun c86_137 => ?_) (fun c86_137 => ?_)
        · have hq9 := c86_137
          refine z_iconst C 93 dX8_probe_93 ?_
          refine z_iadd C 94 dX8_probe_94 ?_
          refine z_istore (lv' := [(4, .int (zI (n + 0))), (0, .ref (zad G 26 0)), (1, .int (zI a)), (2, .int (zI b)), (3, .int (zI u)), (5, .int (zI k))]) C 95 dX8_probe_95 (by decide) rfl ?_
          refine z_iinc (lv' := [(5, .int (zI (k + 1))), (4, .int (zI (n + 0))), (0, .ref (zad G 26 0)), (1, .int (zI a)), (2, .int (zI b)), (3, .int (zI u))]) C 97 dX8_probe_97 5 rfl (by decide) rfl ?_
          refine z_goto C 100 65 dX8_probe_100 (by decide) ?_
          refine z_sub (lv' := [(0, .ref (zad G 26 0)), (1, .int (zI a)), (2, .int (zI b)), (3, .int (zI u)), (4, .int (zI (n + 0))), (5, .int (zI (k + 1)))]) [2, 3, 4, 5, 1, 0] rfl ?_
          exact ihz11 (n + 0) (k + 1) (by omega) (by rw [zsm_s _ (by omega), ← g1, zind_f (fun z => (hz9 ▸ z) hq9)]) (by omega)
        have hq9 := c86_137
        refine z_iconst C 89 dX8_probe_89 ?_
        refine z_goto C 90 94 dX8_probe_90 (by decide) ?_
        refine z_iadd C 94 dX8_probe_94 ?_
        refine z_istore (lv' := [(4, .int (zI (n + 1))), (0, .ref (zad G 26 0)), (1, .int (zI a)), (2, .int (zI b)), (3, .int (zI u)), (5, .int (zI k))]) C 95 dX8_probe_95 (by decide) rfl ?_
        refine z_iinc (lv' := [(5, .int (zI (k + 1))), (4, .int (zI (n + 1))), (0, .ref (zad G 26 0)), (1, .int (zI a)), (2, .int (zI b)), (3, .int (zI u))]) C 97 dX8_probe_97 5 rfl (by decide) rfl ?_
        refine z_goto C 100 65 dX8_probe_100 (by decide) ?_
        refine z_sub (lv' := [(0, .ref (zad G 26 0)), (1, .int (zI a)), (2, .int (zI b)), (3, .int (zI u)), (4, .int (zI (n + 1))), (5, .int (zI (k + 1)))]) [2, 3, 4, 5, 1, 0] rfl ?_
        exact ihz11 (n + 1) (k + 1) (by omega) (by rw [zsm_s _ (by omega), ← g1, zind_t (hz9 ▸ hq9)]) (by omega)
    refine z_sub (lv' := [(0, .ref (zad G 26 0)), (1, .int (zI a)), (2, .int (zI b)), (3, .int (zI u)), (4, .int (zI 0)), (5, .int (zI 0))]) [2, 3, 4, 5, 1, 0] rfl ?_
    exact L65_10 (((32 - 0 : Int)).toNat + 1) 0 0 (by omega) (by rfl) (by omega)
  refine z_iconst C 8 dX8_probe_8 ?_
  refine z_goto C 9 27 dX8_probe_9 (by decide) ?_
  refine z_putI C 27 zcl8 (show 0 < 1 by omega) (zc26 ..) 0 (by decide) wf_8_99 rfl rfl rfl (Nat.le_of_ble_eq_true rfl) (zc26 ..) dX8_probe_27 ?_
  refine z_aload_n C 30 dX8_probe_30 rfl 0 rfl ?_
  refine z_getI C 31 zcl8 (show 0 < 1 by omega) (zc26 ..) 0 (by decide) rfl wf_8_99 dX8_probe_31 (fun zq13 ezq13 hzq13 => ?_)
  rw [zV_eq (by first | assumption | decide | omega)] at ezq13
  subst ezq13
  refine z_if_le C 34 39 dX8_probe_34 (by decide) (by decide) (fun c34_163 => ?_) (fun c34_163 => ?_)
  · exact absurd c34_163 (by decide)
  refine z_iconst C 37 dX8_probe_37 ?_
  refine z_iret C 38 dX8_probe_38 (by decide) (by decide) (by decide) ?_
  first | exact Or.inl ⟨hPz1.f (by assumption), zthr_1 _ (by decide)⟩ | exact Or.inr (Or.inl ⟨hcr, fun z => hPz3.f (by assumption) (by omega), zthr_1 _ (by decide)⟩)
set_option maxHeartbeats 4000000 in
set_option maxRecDepth 100000 in
theorem c_X8_setLifetimes (l : Launch) (G : zG) (M : zMem) (a b : Int) (ha : zrg a) (hb : zrg b) : Met l yX8_setLifetimes [.code yX8_setLifetimes cX8_setLifetimes 4 (some .int)] (zR 1 0 0) (zPc G M [.ref (zad G 26 0), .int (zI a), .int (zI b)]) (zQi G (fun x M' => (¬ ((1 ≤ a ∧ a ≤ 1000) ∧ 1 ≤ b ∧ b ≤ 1000) ∧ zthr M M' 1) ∨ (((1 ≤ a ∧ a ≤ 1000) ∧ 1 ≤ b ∧ b ≤ 1000) ∧ x = zV M 26 0 2 ∧ ∃ M0, zthr M M0 0 ∧ M' = zup (zup M0 26 0 2 (zI a)) 26 0 3 (zI b)))) 0 0 (zA G) := by
  refine z_met [(0, .ref (zad G 26 0)), (1, .int (zI a)), (2, .int (zI b))] (by decide) (Nat.le_of_ble_eq_true rfl) rfl ?_
  intro p e s m below meth c C
  have C : zC p s m ([.ref (zad G 26 0), .int (zI a), .int (zI b)] : List Value).toArray meth c G RX8 cX8_setLifetimes 4 (some .int) := C
  refine z_aload_n C 0 dX8_setLifetimes_0 rfl 0 rfl ?_
  refine z_iload_n C 1 dX8_setLifetimes_1 rfl 1 rfl ?_
  refine z_iconst C 2 dX8_setLifetimes_2 ?_
  refine z_sipush C 3 dX8_setLifetimes_3 (by decide +kernel) ?_
  refine z_callSi C 6 (As := [.int (zI a), .int (zI 1), .int (zI 1000)]) (rest := [.ref (zad G 26 0)]) (c_X8_in l G M a 1 1000 (by first | assumption | decide | omega) (by first | assumption | decide | omega) (by first | assumption | decide | omega)) (zS_of 3 C wm_8_103 wc_X8_in wini_8 wst_X8_in ⟨by decide, by decide, by decide⟩ ⟨by decide, by decide⟩) rfl (Nat.le_of_ble_eq_true rfl) ⟨by decide, by decide⟩ dX8_setLifetimes_6 rfl (fun zq1 Mz2 hzq1 hPz1 => ?_)
  obtain ⟨rfl, hPz1⟩ := hPz1
  refine z_if_eq C 9 27 dX8_setLifetimes_9 (by decide) hzq1 (fun c9_12 => ?_) (fun c9_12 => ?_)
  · refine z_iconst C 27 dX8_setLifetimes_27 ?_
    refine z_putI C 28 zcl8 (show 0 < 1 by omega) (zc26 ..) 0 (by decide) wf_8_99 rfl rfl rfl (Nat.le_of_ble_eq_true rfl) (zc26 ..) dX8_setLifetimes_28 ?_
    refine z_aload_n C 31 dX8_setLifetimes_31 rfl 0 rfl ?_
    refine z_getI C 32 zcl8 (show 0 < 1 by omega) (zc26 ..) 0 (by decide) rfl wf_8_99 dX8_setLifetimes_32 (fun zq3 ezq3 hzq3 => ?_)
    rw [zV_eq (by first | assumption | decide | omega)] at ezq3
    subst ezq3
    refine z_if_le C 35 40 dX8_setLifetimes_35 (by decide) (by decide) (fun c35_20 => ?_) (fun c35_20 => ?_)
    · exact absurd c35_20 (by decide)
    refine z_iconst C 38 dX8_setLifetimes_38 ?_
    refine z_iret C 39 dX8_setLifetimes_39 (by decide) (by decide) (by decide) ?_
    first | exact Or.inl ⟨fun z => hPz1.f (by assumption) z.1, zthr_1 _ (by decide)⟩ | exact Or.inl ⟨fun z => hPnone.f (by assumption) z.2, zthr_1 _ (by decide)⟩
  refine z_iload_n C 12 dX8_setLifetimes_12 rfl 2 rfl ?_
  refine z_iconst C 13 dX8_setLifetimes_13 ?_
  refine z_sipush C 14 dX8_setLifetimes_14 (by decide +kernel) ?_
  refine z_callSi C 17 (As := [.int (zI b), .int (zI 1), .int (zI 1000)]) (rest := [.ref (zad G 26 0)]) (c_X8_in l G M b 1 1000 (by first | assumption | decide | omega) (by first | assumption | decide | omega) (by first | assumption | decide | omega)) (zS_of 3 C wm_8_103 wc_X8_in wini_8 wst_X8_in ⟨by decide, by decide, by decide⟩ ⟨by decide, by decide⟩) rfl (Nat.le_of_ble_eq_true rfl) ⟨by decide, by decide⟩ dX8_setLifetimes_17 rfl (fun zq4 Mz5 hzq4 hPz4 => ?_)
  obtain ⟨rfl, hPz4⟩ := hPz4
  refine z_if_eq C 20 27 dX8_setLifetimes_20 (by decide) hzq4 (fun c20_29 => ?_) (fun c20_29 => ?_)
  · refine z_iconst C 27 dX8_setLifetimes_27 ?_
    refine z_putI C 28 zcl8 (show 0 < 1 by omega) (zc26 ..) 0 (by decide) wf_8_99 rfl rfl rfl (Nat.le_of_ble_eq_true rfl) (zc26 ..) dX8_setLifetimes_28 ?_
    refine z_aload_n C 31 dX8_setLifetimes_31 rfl 0 rfl ?_
    refine z_getI C 32 zcl8 (show 0 < 1 by omega) (zc26 ..) 0 (by decide) rfl wf_8_99 dX8_setLifetimes_32 (fun zq6 ezq6 hzq6 => ?_)
    rw [zV_eq (by first | assumption | decide | omega)] at ezq6
    subst ezq6
    refine z_if_le C 35 40 dX8_setLifetimes_35 (by decide) (by decide) (fun c35_37 => ?_) (fun c35_37 => ?_)
    · exact absurd c35_37 (by decide)
    refine z_iconst C 38 dX8_setLifetimes_38 ?_
    refine z_iret C 39 dX8_setLifetimes_39 (by decide) (by decide) (by decide) ?_
    first | exact Or.inl ⟨fun z => hPz1.f (by assumption) z.1, zthr_1 _ (by decide)⟩ | exact Or.inl ⟨fun z => hPz4.f (by assumption) z.2, zthr_1 _ (by decide)⟩
  refine z_iconst C 23 dX8_setLifetimes_23 ?_
  refine z_goto C 24 28 dX8_setLifetimes_24 (by decide) ?_
  refine z_putI C 28 zcl8 (show 0 < 1 by omega) (zc26 ..) 0 (by decide) wf_8_99 rfl rfl rfl (Nat.le_of_ble_eq_true rfl) (zc26 ..) dX8_setLifetimes_28 ?_
  refine z_aload_n C 31 dX8_setLifetimes_31 rfl 0 rfl ?_
  refine z_getI C 32 zcl8 (show 0 < 1 by omega) (zc26 ..) 0 (by decide) rfl wf_8_99 dX8_setLifetimes_32 (fun zq7 ezq7 hzq7 => ?_)
  rw [zV_eq (by first | assumption | decide | omega)] at ezq7
  subst ezq7
  refine z_if_le C 35 40 dX8_setLifetimes_35 (by decide) (by decide) (fun c35_48 => ?_) (fun c35_48 => ?_)
  rotate_left
  · exact absurd c35_48 (by decide)
  refine z_aload_n C 40 dX8_setLifetimes_40 rfl 0 rfl ?_
  refine z_getI C 41 zcl8 (show 0 < 1 by omega) (zc26 ..) 2 (by decide) rfl wf_8_7 dX8_setLifetimes_41 (fun zq8 ezq8 hzq8 => ?_)
  rw [zV_nj (by decide)] at ezq8
  refine z_istore_n (lv' := [(3, .int (zI zq8)), (0, .ref (zad G 26 0)), (1, .int (zI a)), (2, .int (zI b))]) C 44 dX8_setLifetimes_44 rfl (by decide) rfl ?_
  refine z_aload_n C 45 dX8_setLifetimes_45 rfl 1 rfl ?_
  refine z_iload_n C 46 dX8_setLifetimes_46 rfl 2 rfl ?_
  refine z_putI C 47 zcl8 (show 0 < 1 by omega) (zc26 ..) 2 (by decide) wf_8_7 rfl rfl rfl (Nat.le_of_ble_eq_true rfl) (zc26 ..) dX8_setLifetimes_47 ?_
  refine z_aload_n C 50 dX8_setLifetimes_50 rfl 1 rfl ?_
  refine z_iload_n C 51 dX8_setLifetimes_51 rfl 3 rfl ?_
  refine z_putI C 52 zcl8 (show 0 < 1 by omega) (zc26 ..) 3 (by decide) wf_8_13 rfl rfl rfl (Nat.le_of_ble_eq_true rfl) (zc26 ..) dX8_setLifetimes_52 ?_
  refine z_iload_n C 55 dX8_setLifetimes_55 rfl 0 rfl ?_
  refine z_iret C 56 dX8_setLifetimes_56 (by decide) (by decide) hzq8 ?_
  exact Or.inr ⟨⟨hPz1.t (by assumption), hPz4.t (by assumption)⟩, ezq8, _, zthr_1 _ (by decide), rfl⟩
set_option maxHeartbeats 4000000 in
set_option maxRecDepth 100000 in
theorem c_X8_pass (l : Launch) (G : zG) (M : zMem) (a : Int) (ha : zrg a) : Met l yX8_pass [.code yX8_pass cX8_pass 2 (some .int)] (zR 1 0 0) (zPc G M [.ref (zad G 26 0), .int (zI a)]) (zQi G (fun x M' => (¬ (1 ≤ a ∧ a ≤ 1000) ∧ zthr M M' 1) ∨ ((1 ≤ a ∧ a ≤ 1000) ∧ x = zw (zV M 26 0 1 + a) ∧ ∃ M0, zthr M M0 0 ∧ M' = zup M0 26 0 1 (zI (zV M 26 0 1 + a))))) 0 0 (zA G) := by
  refine z_met [(0, .ref (zad G 26 0)), (1, .int (zI a))] (by decide) (Nat.le_of_ble_eq_true rfl) rfl ?_
  intro p e s m below meth c C
  have C : zC p s m ([.ref (zad G 26 0), .int (zI a)] : List Value).toArray meth c G RX8 cX8_pass 2 (some .int) := C
  refine z_aload_n C 0 dX8_pass_0 rfl 0 rfl ?_
  refine z_iload_n C 1 dX8_pass_1 rfl 1 rfl ?_
  refine z_iconst C 2 dX8_pass_2 ?_
  refine z_sipush C 3 dX8_pass_3 (by decide +kernel) ?_
  refine z_callSi C 6 (As := [.int (zI a), .int (zI 1), .int (zI 1000)]) (rest := [.ref (zad G 26 0)]) (c_X8_in l G M a 1 1000 (by first | assumption | decide | omega) (by first | assumption | decide | omega) (by first | assumption | decide | omega)) (zS_of 3 C wm_8_103 wc_X8_in wini_8 wst_X8_in ⟨by decide, by decide, by decide⟩ ⟨by decide, by decide⟩) rfl (Nat.le_of_ble_eq_true rfl) ⟨by decide, by decide⟩ dX8_pass_6 rfl (fun zq1 Mz2 hzq1 hPz1 => ?_)
  obtain ⟨rfl, hPz1⟩ := hPz1
  refine z_if_eq C 9 16 dX8_pass_9 (by decide) hzq1 (fun c9_12 => ?_) (fun c9_12 => ?_)
  · refine z_iconst C 16 dX8_pass_16 ?_
    refine z_putI C 17 zcl8 (show 0 < 1 by omega) (zc26 ..) 0 (by decide) wf_8_99 rfl rfl rfl (Nat.le_of_ble_eq_true rfl) (zc26 ..) dX8_pass_17 ?_
    refine z_aload_n C 20 dX8_pass_20 rfl 0 rfl ?_
    refine z_getI C 21 zcl8 (show 0 < 1 by omega) (zc26 ..) 0 (by decide) rfl wf_8_99 dX8_pass_21 (fun zq3 ezq3 hzq3 => ?_)
    rw [zV_eq (by first | assumption | decide | omega)] at ezq3
    subst ezq3
    refine z_if_le C 24 29 dX8_pass_24 (by decide) (by decide) (fun c24_20 => ?_) (fun c24_20 => ?_)
    · exact absurd c24_20 (by decide)
    refine z_iconst C 27 dX8_pass_27 ?_
    refine z_iret C 28 dX8_pass_28 (by decide) (by decide) (by decide) ?_
    exact Or.inl ⟨hPz1.f (by assumption), zthr_1 _ (by decide)⟩
  refine z_iconst C 12 dX8_pass_12 ?_
  refine z_goto C 13 17 dX8_pass_13 (by decide) ?_
  refine z_putI C 17 zcl8 (show 0 < 1 by omega) (zc26 ..) 0 (by decide) wf_8_99 rfl rfl rfl (Nat.le_of_ble_eq_true rfl) (zc26 ..) dX8_pass_17 ?_
  refine z_aload_n C 20 dX8_pass_20 rfl 0 rfl ?_
  refine z_getI C 21 zcl8 (show 0 < 1 by omega) (zc26 ..) 0 (by decide) rfl wf_8_99 dX8_pass_21 (fun zq4 ezq4 hzq4 => ?_)
  rw [zV_eq (by first | assumption | decide | omega)] at ezq4
  subst ezq4
  refine z_if_le C 24 29 dX8_pass_24 (by decide) (by decide) (fun c24_31 => ?_) (fun c24_31 => ?_)
  rotate_left
  · exact absurd c24_31 (by decide)
  refine z_aload_n C 29 dX8_pass_29 rfl 0 rfl ?_
  refine z_dup C 30 dX8_pass_30 rfl ?_
  refine z_getI C 31 zcl8 (show 0 < 1 by omega) (zc26 ..) 1 (by decide) rfl wf_8_173 dX8_pass_31 (fun zq5 ezq5 hzq5 => ?_)
  rw [zV_nj (by decide)] at ezq5
  refine z_iload_n C 34 dX8_pass_34 rfl 1 rfl ?_
  refine z_iadd C 35 dX8_pass_35 ?_
  refine z_norm ?_
  intro yy eyy hyy
  refine z_putI C 36 zcl8 (show 0 < 1 by omega) (zc26 ..) 1 (by decide) wf_8_173 rfl rfl rfl (Nat.le_of_ble_eq_true rfl) (zc26 ..) dX8_pass_36 ?_
  refine z_aload_n C 39 dX8_pass_39 rfl 0 rfl ?_
  refine z_getI C 40 zcl8 (show 0 < 1 by omega) (zc26 ..) 1 (by decide) rfl wf_8_173 dX8_pass_40 (fun zq6 ezq6 hzq6 => ?_)
  rw [zV_eq (by first | assumption | decide | omega)] at ezq6
  refine z_iret C 43 dX8_pass_43 (by decide) (by decide) hzq6 ?_
  refine Or.inr ⟨hPz1.t (by assumption), ?_, _, zthr_1 _ (by decide), ?_⟩
  · rw [ezq6, eyy, ezq5]
  · rw [eyy, zw_I, ezq5]
set_option maxHeartbeats 4000000 in
set_option maxRecDepth 100000 in
theorem c_X8_entries (l : Launch) (G : zG) (M : zMem) (hw : zWM M) (a : Int) (ha : zrg a) : Met l yX8_entries [.code yX8_entries cX8_entries 2 (some .int)] (zR 2 0 0) (zPc G M [.ref (zad G 26 0), .int (zI a)]) (zQi G (fun x M' => (¬ (0 ≤ a ∧ a < 3) ∧ zthr M M' 1) ∨ ((0 ≤ a ∧ a < 3) ∧ zthr M M' 0 ∧ x = zmb M' a.toNat (zV M' 26 0 21 + 1)))) 0 0 (zA G) := by
  refine z_met [(0, .ref (zad G 26 0)), (1, .int (zI a))] (by decide) (Nat.le_of_ble_eq_true rfl) rfl ?_
  intro p e s m below meth c C
  have C : zC p s m ([.ref (zad G 26 0), .int (zI a)] : List Value).toArray meth c G RX8 cX8_entries 2 (some .int) := C
  have hw9z := hw
  obtain ⟨w1, w2, w3, w4, w5, w6, w7, w8, w9, w10, w11, w12, w13, w14⟩ := hw9z
  refine z_aload_n C 0 dX8_entries_0 rfl 0 rfl ?_
  refine z_iload_n C 1 dX8_entries_1 rfl 1 rfl ?_
  refine z_callSi C 2 (As := [.int (zI a)]) (rest := [.ref (zad G 26 0)]) (c_X8_isRouter l G M a ha) (zS_of 1 C wm_8_188 wc_X8_isRouter wini_8 wst_X8_isRouter ⟨by decide, by decide, by decide⟩ ⟨by decide, by decide⟩) rfl (Nat.le_of_ble_eq_true rfl) ⟨by decide, by decide⟩ dX8_entries_2 rfl (fun zq1 Mz2 hzq1 hPz1 => ?_)
  obtain ⟨rfl, hPz1⟩ := hPz1
  refine z_if_eq C 5 12 dX8_entries_5 (by decide) hzq1 (fun c5_12 => ?_) (fun c5_12 => ?_)
  · refine z_iconst C 12 dX8_entries_12 ?_
    refine z_putI C 13 zcl8 (show 0 < 1 by omega) (zc26 ..) 0 (by decide) wf_8_99 rfl rfl rfl (Nat.le_of_ble_eq_true rfl) (zc26 ..) dX8_entries_13 ?_
    refine z_aload_n C 16 dX8_entries_16 rfl 0 rfl ?_
    refine z_getI C 17 zcl8 (show 0 < 1 by omega) (zc26 ..) 0 (by decide) rfl wf_8_99 dX8_entries_17 (fun zq3 ezq3 hzq3 => ?_)
    rw [zV_eq (by first | assumption | decide | omega)] at ezq3
    subst ezq3
    refine z_if_le C 20 27 dX8_entries_20 (by decide) (by decide) (fun c20_20 => ?_) (fun c20_20 => ?_)
    · exact absurd c20_20 (by decide)
    refine z_iconst C 23 dX8_entries_23 ?_
    refine z_goto C 24 32 dX8_entries_24 (by decide) ?_
    refine z_iret C 32 dX8_entries_32 (by decide) (by decide) (by decide) ?_
    exact Or.inl ⟨hPz1.f (by assumption), zthr_1 _ (by decide)⟩
  have hcr := hPz1.t c5_12
  refine z_iconst C 8 dX8_entries_8 ?_
  refine z_goto C 9 13 dX8_entries_9 (by decide) ?_
  refine z_putI C 13 zcl8 (show 0 < 1 by omega) (zc26 ..) 0 (by decide) wf_8_99 rfl rfl rfl (Nat.le_of_ble_eq_true rfl) (zc26 ..) dX8_entries_13 ?_
  refine z_aload_n C 16 dX8_entries_16 rfl 0 rfl ?_
  refine z_getI C 17 zcl8 (show 0 < 1 by omega) (zc26 ..) 0 (by decide) rfl wf_8_99 dX8_entries_17 (fun zq4 ezq4 hzq4 => ?_)
  rw [zV_eq (by first | assumption | decide | omega)] at ezq4
  subst ezq4
  refine z_if_le C 20 27 dX8_entries_20 (by decide) (by decide) (fun c20_33 => ?_) (fun c20_33 => ?_)
  rotate_left
  · exact absurd c20_33 (by decide)
  refine z_aload_n C 27 dX8_entries_27 rfl 0 rfl ?_
  refine z_iload_n C 28 dX8_entries_28 rfl 1 rfl ?_
  refine z_callVi C 29 (As := [.int (zI a)]) (rest := []) (c_X8_manyOf l G (zup M 26 0 0 (zI 0)) (zWM_up0 hw) a hcr) zcl8 (show 0 < 1 by omega) (zc26 ..) (zW_of 1 C wm_8_176 wc_X8_manyOf wini_8 wi_X8_manyOf wse_X8_manyOf ⟨by decide, by decide, by decide⟩ ⟨by decide, by decide⟩) rfl (Nat.le_of_ble_eq_true rfl) ⟨by decide, by decide⟩ dX8_entries_29 rfl (fun zq5 Mz6 hzq5 hPz5 => ?_)
  obtain ⟨rfl, hPz5⟩ := hPz5
  refine z_iret C 32 dX8_entries_32 (by decide) (by decide) hzq5 ?_
  exact Or.inr ⟨hcr, zthr_1 _ (by decide), hPz5⟩
set_option maxHeartbeats 4000000 in
set_option maxRecDepth 100000 in
theorem c_X8_asks (l : Launch) (G : zG) (M : zMem) (hw : zWM M) (a b : Int) (ha : zrg a) (hb : zrg b) : Met l yX8_asks [.code yX8_asks cX8_asks 3 (some .int)] (zR 2 0 0) (zPc G M [.ref (zad G 26 0), .int (zI a), .int (zI b)]) (zQi G (fun x M' => (¬ ((0 ≤ a ∧ a < 3) ∧ 0 ≤ b ∧ b < zmb M a.toNat (zV M 26 0 21 + 1)) ∧ zthr M M' 1 ∧ x = -1) ∨ (((0 ≤ a ∧ a < 3) ∧ 0 ≤ b ∧ b < zmb M a.toNat (zV M 26 0 21 + 1)) ∧ zthr M M' 0 ∧ zpe M' a.toNat b x))) 0 0 (zA G) := by
  refine z_met [(0, .ref (zad G 26 0)), (1, .int (zI a)), (2, .int (zI b))] (by decide) (Nat.le_of_ble_eq_true rfl) rfl ?_
  intro p e s m below meth c C
  have C : zC p s m ([.ref (zad G 26 0), .int (zI a), .int (zI b)] : List Value).toArray meth c G RX8 cX8_asks 3 (some .int) := C
  have hw9z := hw
  obtain ⟨w1, w2, w3, w4, w5, w6, w7, w8, w9, w10, w11, w12, w13, w14⟩ := hw9z
  have hmb9 := zsm_01 (f := zmf M a.toNat (zV M 26 0 21 + 1)) (fun _ => zind_rg _) 8
  refine z_aload_n C 0 dX8_asks_0 rfl 0 rfl ?_
  refine z_iload_n C 1 dX8_asks_1 rfl 1 rfl ?_
  refine z_callSi C 2 (As := [.int (zI a)]) (rest := [.ref (zad G 26 0)]) (c_X8_isRouter l G M a ha) (zS_of 1 C wm_8_188 wc_X8_isRouter wini_8 wst_X8_isRouter ⟨by decide, by decide, by decide⟩ ⟨by decide, by decide⟩) rfl (Nat.le_of_ble_eq_true rfl) ⟨by decide, by decide⟩ dX8_asks_2 rfl (fun zq1 Mz2 hzq1 hPz1 => ?_)
  obtain ⟨rfl, hPz1⟩ := hPz1
  refine z_if_eq C 5 27 dX8_asks_5 (by decide) hzq1 (fun c5_13 => ?_) (fun c5_13 => ?_)
  · refine z_iconst C 27 dX8_asks_27 ?_
    refine z_putI C 28 zcl8 (show 0 < 1 by omega) (zc26 ..) 0 (by decide) wf_8_99 rfl rfl rfl (Nat.le_of_ble_eq_true rfl) (zc26 ..) dX8_asks_28 ?_
    refine z_aload_n C 31 dX8_asks_31 rfl 0 rfl ?_
    refine z_getI C 32 zcl8 (show 0 < 1 by omega) (zc26 ..) 0 (by decide) rfl wf_8_99 dX8_asks_32 (fun zq3 ezq3 hzq3 => ?_)
    rw [zV_eq (by first | assumption | decide | omega)] at ezq3
    subst ezq3
    refine z_if_le C 35 42 dX8_asks_35 (by decide) (by decide) (fun c35_21 => ?_) (fun c35_21 => ?_)
    · exact absurd c35_21 (by decide)
    refine z_iconst C 38 dX8_asks_38 ?_
    refine z_goto C 39 48 dX8_asks_39 (by decide) ?_
    refine z_iret C 48 dX8_asks_48 (by decide) (by decide) (by decide) ?_
    first | exact Or.inl ⟨fun z => hPz1.f (by assumption) z.1, zthr_1 _ (by decide), rfl⟩ | exact Or.inl ⟨fun z => hPnone.f (by assumption) ⟨z.2.1, by rw [hPnone]; omega⟩, zthr_1 _ (by decide), rfl⟩
  have hcr := hPz1.t c5_13
  refine z_iload_n C 8 dX8_asks_8 rfl 2 rfl ?_
  refine z_iconst C 9 dX8_asks_9 ?_
  refine z_aload_n C 10 dX8_asks_10 rfl 0 rfl ?_
  refine z_iload_n C 11 dX8_asks_11 rfl 1 rfl ?_
  refine z_callVi C 12 (As := [.int (zI a)]) (rest := [.int (zI 0), .int (zI b), .ref (zad G 26 0)]) (c_X8_manyOf l G M hw a hcr) zcl8 (show 0 < 1 by omega) (zc26 ..) (zW_of 1 C wm_8_176 wc_X8_manyOf wini_8 wi_X8_manyOf wse_X8_manyOf ⟨by decide, by decide, by decide⟩ ⟨by decide, by decide⟩) rfl (Nat.le_of_ble_eq_true rfl) ⟨by decide, by decide⟩ dX8_asks_12 rfl (fun zq4 Mz5 hzq4 hPz4 => ?_)
  obtain ⟨rfl, hPz4⟩ := hPz4
  have hmb8 : 0 ≤ zq4 ∧ zq4 ≤ 8 := by rw [hPz4]; unfold zmb; omega
  refine z_iconst C 15 dX8_asks_15 ?_
  refine z_isub C 16 dX8_asks_16 ?_
  refine z_callSi C 17 (As := [.int (zI b), .int (zI 0), .int (zI (zq4 - 1))]) (rest := [.ref (zad G 26 0)]) (c_X8_in l G M b 0 (zq4 - 1) (by first | assumption | decide | omega) (by first | assumption | decide | omega) (by first | assumption | decide | omega)) (zS_of 3 C wm_8_103 wc_X8_in wini_8 wst_X8_in ⟨by decide, by decide, by decide⟩ ⟨by decide, by decide⟩) rfl (Nat.le_of_ble_eq_true rfl) ⟨by decide, by decide⟩ dX8_asks_17 rfl (fun zq6 Mz7 hzq6 hPz6 => ?_)
  obtain ⟨rfl, hPz6⟩ := hPz6
  refine z_if_eq C 20 27 dX8_asks_20 (by decide) hzq6 (fun c20_38 => ?_) (fun c20_38 => ?_)
  · refine z_iconst C 27 dX8_asks_27 ?_
    refine z_putI C 28 zcl8 (show 0 < 1 by omega) (zc26 ..) 0 (by decide) wf_8_99 rfl rfl rfl (Nat.le_of_ble_eq_true rfl) (zc26 ..) dX8_asks_28 ?_
    refine z_aload_n C 31 dX8_asks_31 rfl 0 rfl ?_
    refine z_getI C 32 zcl8 (show 0 < 1 by omega) (zc26 ..) 0 (by decide) rfl wf_8_99 dX8_asks_32 (fun zq8 ezq8 hzq8 => ?_)
    rw [zV_eq (by first | assumption | decide | omega)] at ezq8
    subst ezq8
    refine z_if_le C 35 42 dX8_asks_35 (by decide) (by decide) (fun c35_46 => ?_) (fun c35_46 => ?_)
    · exact absurd c35_46 (by decide)
    refine z_iconst C 38 dX8_asks_38 ?_
    refine z_goto C 39 48 dX8_asks_39 (by decide) ?_
    refine z_iret C 48 dX8_asks_48 (by decide) (by decide) (by decide) ?_
    first | exact Or.inl ⟨fun z => hPz1.f (by assumption) z.1, zthr_1 _ (by decide), rfl⟩ | exact Or.inl ⟨fun z => hPz6.f (by assumption) ⟨z.2.1, by rw [hPz4]; omega⟩, zthr_1 _ (by decide), rfl⟩
  refine z_iconst C 23 dX8_asks_23 ?_
  refine z_goto C 24 28 dX8_asks_24 (by decide) ?_
  refine z_putI C 28 zcl8 (show 0 < 1 by omega) (zc26 ..) 0 (by decide) wf_8_99 rfl rfl rfl (Nat.le_of_ble_eq_true rfl) (zc26 ..) dX8_asks_28 ?_
  refine z_aload_n C 31 dX8_asks_31 rfl 0 rfl ?_
  refine z_getI C 32 zcl8 (show 0 < 1 by omega) (zc26 ..) 0 (by decide) rfl wf_8_99 dX8_asks_32 (fun zq9 ezq9 hzq9 => ?_)
  rw [zV_eq (by first | assumption | decide | omega)] at ezq9
  subst ezq9
  refine z_if_le C 35 42 dX8_asks_35 (by decide) (by decide) (fun c35_58 => ?_) (fun c35_58 => ?_)
  rotate_left
  · exact absurd c35_58 (by decide)
  refine z_aload_n C 42 dX8_asks_42 rfl 0 rfl ?_
  refine z_iload_n C 43 dX8_asks_43 rfl 1 rfl ?_
  refine z_iload_n C 44 dX8_asks_44 rfl 2 rfl ?_
  refine z_callVi C 45 (As := [.int (zI a), .int (zI b)]) (rest := []) (c_X8_placeOfEntry l G (zup M 26 0 0 (zI 0)) a hcr b hb) zcl8 (show 0 < 1 by omega) (zc26 ..) (zW_of 2 C wm_8_179 wc_X8_placeOfEntry wini_8 wi_X8_placeOfEntry wse_X8_placeOfEntry ⟨by decide, by decide, by decide⟩ ⟨by decide, by decide⟩) rfl (Nat.le_of_ble_eq_true rfl) ⟨by decide, by decide⟩ dX8_asks_45 rfl (fun zq10 Mz11 hzq10 hPz10 => ?_)
  obtain ⟨rfl, hPz10⟩ := hPz10
  refine z_iret C 48 dX8_asks_48 (by decide) (by decide) hzq10 ?_
  have hc17 := hPz6.t (by assumption)
  exact Or.inr ⟨⟨hcr, hc17.1, by rw [← hPz4]; omega⟩, zthr_1 _ (by decide), hPz10⟩
set_option maxHeartbeats 4000000 in
set_option maxRecDepth 100000 in
theorem c_X8_prefixOf (l : Launch) (G : zG) (M : zMem) (hw : zWM M) (a b : Int) (ha : zrg a) (hb : zrg b) (hx : ∀ (M1 : zMem) (x : Int), zthr M M1 0 → ((0 ≤ a ∧ a < 3) ∧ 0 ≤ b ∧ b < zmb M a.toNat (zV M 26 0 21 + 1)) → zpe M1 a.toNat b x → 0 ≤ x)  : Met l yX8_prefixOf [.code yX8_prefixOf cX8_prefixOf 4 (some .int)] (zR 3 0 0) (zPc G M [.ref (zad G 26 0), .int (zI a), .int (zI b)]) (zQi G (fun x M' => (¬ ((0 ≤ a ∧ a < 3) ∧ 0 ≤ b ∧ b < zmb M a.toNat (zV M 26 0 21 + 1)) ∧ zthr M M' 1) ∨ (((0 ≤ a ∧ a < 3) ∧ 0 ≤ b ∧ b < zmb M a.toNat (zV M 26 0 21 + 1)) ∧ zthr M M' 0 ∧ ∃ q : Int, 0 ≤ q ∧ zpe M' a.toNat b q ∧ x = zw (32 * zV M' 52 0 q.toNat + zV M' 53 0 q.toNat)))) 0 0 (zA G) := by
  refine z_met [(0, .ref (zad G 26 0)), (1, .int (zI a)), (2, .int (zI b))] (by decide) (Nat.le_of_ble_eq_true rfl) rfl ?_
  intro p e s m below meth c C
  have C : zC p s m ([.ref (zad G 26 0), .int (zI a), .int (zI b)] : List Value).toArray meth c G RX8 cX8_prefixOf 4 (some .int) := C
  have hw9z := hw
  obtain ⟨w1, w2, w3, w4, w5, w6, w7, w8, w9, w10, w11, w12, w13, w14⟩ := hw9z
  refine z_aload_n C 0 dX8_prefixOf_0 rfl 0 rfl ?_
  refine z_iload_n C 1 dX8_prefixOf_1 rfl 1 rfl ?_
  refine z_iload_n C 2 dX8_prefixOf_2 rfl 2 rfl ?_
  refine z_callVi C 3 (As := [.int (zI a), .int (zI b)]) (rest := []) (c_X8_asks l G M hw a b ha hb) zcl8 (show 0 < 1 by omega) (zc26 ..) (zW_of 2 C wm_8_200 wc_X8_asks wini_8 wi_X8_asks wse_X8_asks ⟨by decide, by decide, by decide⟩ ⟨by decide, by decide⟩) rfl (Nat.le_of_ble_eq_true rfl) ⟨by decide, by decide⟩ dX8_prefixOf_3 rfl (fun zq1 Mz2 hzq1 hPz1 => ?_)
  refine z_istore_n (lv' := [(3, .int (zI zq1)), (0, .ref (zad G 26 0)), (1, .int (zI a)), (2, .int (zI b))]) C 6 dX8_prefixOf_6 rfl (by decide) rfl ?_
  refine z_aload_n C 7 dX8_prefixOf_7 rfl 1 rfl ?_
  refine z_getI C 8 zcl8 (show 0 < 1 by omega) (zc26 ..) 0 (by decide) rfl wf_8_99 dX8_prefixOf_8 (fun zq3 ezq3 hzq3 => ?_)
  refine z_if_le C 11 18 dX8_prefixOf_11 (by decide) hzq3 (fun c11_15 => ?_) (fun c11_15 => ?_)
  · obtain ⟨z1, z2, -⟩ | ⟨hce, hth, hpe⟩ := hPz1
    · exact absurd z2.1 (by omega)
    have hx0 := hx _ _ hth hce hpe
    have hwm := zWM_thr hw hth
    have hx1 : 0 ≤ zq1 ∧ zq1 < 24 := by rcases hpe with ⟨y1, -⟩ | ⟨j1, y1, y2, -⟩; omega; omega
    refine z_bipush C 18 dX8_prefixOf_18 (by decide +kernel) ?_
    refine z_aload_n C 20 dX8_prefixOf_20 rfl 1 rfl ?_
    refine z_get C 21 zcl8 (show 0 < 1 by omega) (zc26 ..) 22 (by decide) rfl wf_8_63 dX8_prefixOf_21 ?_
    refine z_iload_n C 24 dX8_prefixOf_24 rfl 0 rfl ?_
    refine z_iald C 25 (show 0 < 1 by omega) (zc52 ..) hzq1 (by omega) (show zq1 < ((24 : Nat) : Int) by omega) dX8_prefixOf_25 (fun zq4 ezq4 hzq4 => ?_)
    refine z_imul C 26 dX8_prefixOf_26 ?_
    refine z_aload_n C 27 dX8_prefixOf_27 rfl 1 rfl ?_
    refine z_get C 28 zcl8 (show 0 < 1 by omega) (zc26 ..) 23 (by decide) rfl wf_8_66 dX8_prefixOf_28 ?_
    refine z_iload_n C 31 dX8_prefixOf_31 rfl 0 rfl ?_
    refine z_iald C 32 (show 0 < 1 by omega) (zc53 ..) hzq1 (by omega) (show zq1 < ((24 : Nat) : Int) by omega) dX8_prefixOf_32 (fun zq5 ezq5 hzq5 => ?_)
    refine z_iadd C 33 dX8_prefixOf_33 ?_
    refine z_norm ?_
    intro yy eyy hyy
    refine z_iret C 34 dX8_prefixOf_34 (by decide) (by decide) hyy ?_
    refine Or.inr ⟨hce, hth, zq1, hx0, hpe, ?_⟩
    rw [eyy, ezq4, ezq5]
  obtain ⟨hce, hth, -⟩ | ⟨z1, z2, -⟩ := hPz1
  rotate_left
  · exact absurd z2.1 (by omega)
  refine z_iconst C 14 dX8_prefixOf_14 ?_
  refine z_goto C 15 34 dX8_prefixOf_15 (by decide) ?_
  refine z_iret C 34 dX8_prefixOf_34 (by decide) (by decide) (by decide) ?_
  exact Or.inl ⟨hce, hth⟩
set_option maxHeartbeats 4000000 in
set_option maxRecDepth 100000 in
theorem c_X8_mappingAt (l : Launch) (G : zG) (M : zMem) (hw : zWM M) (a b : Int) (ha : zrg a) (hb : zrg b) (hx : ∀ (M1 : zMem) (x : Int), zthr M M1 0 → ((0 ≤ a ∧ a < 3) ∧ 0 ≤ b ∧ b < zmb M a.toNat (zV M 26 0 21 + 1)) → zpe M1 a.toNat b x → 0 ≤ x)  : Met l yX8_mappingAt [.code yX8_mappingAt cX8_mappingAt 4 (some .int)] (zR 3 0 0) (zPc G M [.ref (zad G 26 0), .int (zI a), .int (zI b)]) (zQi G (fun x M' => (¬ ((0 ≤ a ∧ a < 3) ∧ 0 ≤ b ∧ b < zmb M a.toNat (zV M 26 0 21 + 1)) ∧ zthr M M' 1) ∨ (((0 ≤ a ∧ a < 3) ∧ 0 ≤ b ∧ b < zmb M a.toNat (zV M 26 0 21 + 1)) ∧ zthr M M' 0 ∧ ∃ q : Int, 0 ≤ q ∧ zpe M' a.toNat b q ∧ x = (if zV M' 54 0 q.toNat = -1 then -1 else zw (1000 * zV M' 55 0 q.toNat + zV M' 54 0 q.toNat))))) 0 0 (zA G) := by
  refine z_met [(0, .ref (zad G 26 0)), (1, .int (zI a)), (2, .int (zI b))] (by decide) (Nat.le_of_ble_eq_true rfl) rfl ?_
  intro p e s m below meth c C
  have C : zC p s m ([.ref (zad G 26 0), .int (zI a), .int (zI b)] : List Value).toArray meth c G RX8 cX8_mappingAt 4 (some .int) := C
  have hw9z := hw
  obtain ⟨w1, w2, w3, w4, w5, w6, w7, w8, w9, w10, w11, w12, w13, w14⟩ := hw9z
  refine z_aload_n C 0 dX8_mappingAt_0 rfl 0 rfl ?_
  refine z_iload_n C 1 dX8_mappingAt_1 rfl 1 rfl ?_
  refine z_iload_n C 2 dX8_mappingAt_2 rfl 2 rfl ?_
  refine z_callVi C 3 (As := [.int (zI a), .int (zI b)]) (rest := []) (c_X8_asks l G M hw a b ha hb) zcl8 (show 0 < 1 by omega) (zc26 ..) (zW_of 2 C wm_8_200 wc_X8_asks wini_8 wi_X8_asks wse_X8_asks ⟨by decide, by decide, by decide⟩ ⟨by decide, by decide⟩) rfl (Nat.le_of_ble_eq_true rfl) ⟨by decide, by decide⟩ dX8_mappingAt_3 rfl (fun zq1 Mz2 hzq1 hPz1 => ?_)
  refine z_istore_n (lv' := [(3, .int (zI zq1)), (0, .ref (zad G 26 0)), (1, .int (zI a)), (2, .int (zI b))]) C 6 dX8_mappingAt_6 rfl (by decide) rfl ?_
  refine z_aload_n C 7 dX8_mappingAt_7 rfl 1 rfl ?_
  refine z_getI C 8 zcl8 (show 0 < 1 by omega) (zc26 ..) 0 (by decide) rfl wf_8_99 dX8_mappingAt_8 (fun zq3 ezq3 hzq3 => ?_)
  refine z_if_le C 11 18 dX8_mappingAt_11 (by decide) hzq3 (fun c11_15 => ?_) (fun c11_15 => ?_)
  · obtain ⟨z1, z2, -⟩ | ⟨hce, hth, hpe⟩ := hPz1
    · exact absurd z2.1 (by omega)
    have hx0 := hx _ _ hth hce hpe
    have hwm := zWM_thr hw hth
    have hx1 : 0 ≤ zq1 ∧ zq1 < 24 := by rcases hpe with ⟨y1, -⟩ | ⟨j1, y1, y2, -⟩; omega; omega
    refine z_aload_n C 18 dX8_mappingAt_18 rfl 1 rfl ?_
    refine z_get C 19 zcl8 (show 0 < 1 by omega) (zc26 ..) 24 (by decide) rfl wf_8_69 dX8_mappingAt_19 ?_
    refine z_iload_n C 22 dX8_mappingAt_22 rfl 0 rfl ?_
    refine z_iald C 23 (show 0 < 1 by omega) (zc54 ..) hzq1 (by omega) (show zq1 < ((24 : Nat) : Int) by omega) dX8_mappingAt_23 (fun zq4 ezq4 hzq4 => ?_)
    refine z_iconst C 24 dX8_mappingAt_24 ?_
    refine z_icmp_ne C 25 32 dX8_mappingAt_25 (by decide) hzq4 (by decide) (fun c25_27 => ?_) (fun c25_27 => ?_)
    · refine z_sipush C 32 dX8_mappingAt_32 (by decide +kernel) ?_
      refine z_aload_n C 35 dX8_mappingAt_35 rfl 1 rfl ?_
      refine z_get C 36 zcl8 (show 0 < 1 by omega) (zc26 ..) 25 (by decide) rfl wf_8_72 dX8_mappingAt_36 ?_
      refine z_iload_n C 39 dX8_mappingAt_39 rfl 0 rfl ?_
      refine z_iald C 40 (show 0 < 1 by omega) (zc55 ..) hzq1 (by omega) (show zq1 < ((24 : Nat) : Int) by omega) dX8_mappingAt_40 (fun zq5 ezq5 hzq5 => ?_)
      refine z_imul C 41 dX8_mappingAt_41 ?_
      refine z_aload_n C 42 dX8_mappingAt_42 rfl 1 rfl ?_
      refine z_get C 43 zcl8 (show 0 < 1 by omega) (zc26 ..) 24 (by decide) rfl wf_8_69 dX8_mappingAt_43 ?_
      refine z_iload_n C 46 dX8_mappingAt_46 rfl 0 rfl ?_
      refine z_iald C 47 (show 0 < 1 by omega) (zc54 ..) hzq1 (by omega) (show zq1 < ((24 : Nat) : Int) by omega) dX8_mappingAt_47 (fun zq6 ezq6 hzq6 => ?_)
      refine z_iadd C 48 dX8_mappingAt_48 ?_
      refine z_norm ?_
      intro yy eyy hyy
      refine z_iret C 49 dX8_mappingAt_49 (by decide) (by decide) hyy ?_
      refine Or.inr ⟨hce, hth, zq1, hx0, hpe, ?_⟩
      rw [if_neg (by omega), eyy, ezq5, ezq6]
    refine z_iconst C 28 dX8_mappingAt_28 ?_
    refine z_goto C 29 49 dX8_mappingAt_29 (by decide) ?_
    refine z_iret C 49 dX8_mappingAt_49 (by decide) (by decide) (by decide) ?_
    refine Or.inr ⟨hce, hth, zq1, hx0, hpe, ?_⟩
    rw [if_pos (by omega)]
  obtain ⟨hce, hth, -⟩ | ⟨z1, z2, -⟩ := hPz1
  rotate_left
  · exact absurd z2.1 (by omega)
  refine z_iconst C 14 dX8_mappingAt_14 ?_
  refine z_goto C 15 49 dX8_mappingAt_15 (by decide) ?_
  refine z_iret C 49 dX8_mappingAt_49 (by decide) (by decide) (by decide) ?_
  exact Or.inl ⟨hce, hth⟩
set_option maxHeartbeats 4000000 in
set_option maxRecDepth 100000 in
theorem c_X8_lasts (l : Launch) (G : zG) (M : zMem) (hw : zWM M) (a b : Int) (ha : zrg a) (hb : zrg b) (hx : ∀ (M1 : zMem) (x : Int), zthr M M1 0 → ((0 ≤ a ∧ a < 3) ∧ 0 ≤ b ∧ b < zmb M a.toNat (zV M 26 0 21 + 1)) → zpe M1 a.toNat b x → 0 ≤ x)  : Met l yX8_lasts [.code yX8_lasts cX8_lasts 4 (some .int)] (zR 3 0 0) (zPc G M [.ref (zad G 26 0), .int (zI a), .int (zI b)]) (zQi G (fun x M' => (¬ ((0 ≤ a ∧ a < 3) ∧ 0 ≤ b ∧ b < zmb M a.toNat (zV M 26 0 21 + 1)) ∧ zthr M M' 1) ∨ (((0 ≤ a ∧ a < 3) ∧ 0 ≤ b ∧ b < zmb M a.toNat (zV M 26 0 21 + 1)) ∧ zthr M M' 0 ∧ ∃ q : Int, 0 ≤ q ∧ zpe M' a.toNat b q ∧ x = (if zV M' 57 0 q.toNat = 0 then (if zV M' 26 0 1 < zV M' 56 0 q.toNat then zw (zV M' 56 0 q.toNat - zV M' 26 0 1) else 0) else -1)))) 0 0 (zA G) := by
  refine z_met [(0, .ref (zad G 26 0)), (1, .int (zI a)), (2, .int (zI b))] (by decide) (Nat.le_of_ble_eq_true rfl) rfl ?_
  intro p e s m below meth c C
  have C : zC p s m ([.ref (zad G 26 0), .int (zI a), .int (zI b)] : List Value).toArray meth c G RX8 cX8_lasts 4 (some .int) := C
  have hw9z := hw
  obtain ⟨w1, w2, w3, w4, w5, w6, w7, w8, w9, w10, w11, w12, w13, w14⟩ := hw9z
  refine z_aload_n C 0 dX8_lasts_0 rfl 0 rfl ?_
  refine z_iload_n C 1 dX8_lasts_1 rfl 1 rfl ?_
  refine z_iload_n C 2 dX8_lasts_2 rfl 2 rfl ?_
  refine z_callVi C 3 (As := [.int (zI a), .int (zI b)]) (rest := []) (c_X8_asks l G M hw a b ha hb) zcl8 (show 0 < 1 by omega) (zc26 ..) (zW_of 2 C wm_8_200 wc_X8_asks wini_8 wi_X8_asks wse_X8_asks ⟨by decide, by decide, by decide⟩ ⟨by decide, by decide⟩) rfl (Nat.le_of_ble_eq_true rfl) ⟨by decide, by decide⟩ dX8_lasts_3 rfl (fun zq1 Mz2 hzq1 hPz1 => ?_)
  refine z_istore_n (lv' := [(3, .int (zI zq1)), (0, .ref (zad G 26 0)), (1, .int (zI a)), (2, .int (zI b))]) C 6 dX8_lasts_6 rfl (by decide) rfl ?_
  refine z_aload_n C 7 dX8_lasts_7 rfl 1 rfl ?_
  refine z_getI C 8 zcl8 (show 0 < 1 by omega) (zc26 ..) 0 (by decide) rfl wf_8_99 dX8_lasts_8 (fun zq3 ezq3 hzq3 => ?_)
  refine z_if_le C 11 18 dX8_lasts_11 (by decide) hzq3 (fun c11_15 => ?_) (fun c11_15 => ?_)
  · obtain ⟨z1, z2, -⟩ | ⟨hce, hth, hpe⟩ := hPz1
    · exact absurd z2.1 (by omega)
    have hx0 := hx _ _ hth hce hpe
    have hwm := zWM_thr hw hth
    have hx1 : 0 ≤ zq1 ∧ zq1 < 24 := by rcases hpe with ⟨y1, -⟩ | ⟨j1, y1, y2, -⟩; omega; omega
    refine z_aload_n C 18 dX8_lasts_18 rfl 1 rfl ?_
    refine z_get C 19 zcl8 (show 0 < 1 by omega) (zc26 ..) 27 (by decide) rfl wf_8_78 dX8_lasts_19 ?_
    refine z_iload_n C 22 dX8_lasts_22 rfl 0 rfl ?_
    refine z_zald C 23 (show 0 < 1 by omega) (zc57 ..) hzq1 (by omega) (show zq1 < ((24 : Nat) : Int) by omega) dX8_lasts_23 (fun zq4 ezq4 hzq4 => ?_)
    refine z_if_eq C 24 31 dX8_lasts_24 (by decide) hzq4 (fun c24_26 => ?_) (fun c24_26 => ?_)
    · refine z_aload_n C 31 dX8_lasts_31 rfl 1 rfl ?_
      refine z_get C 32 zcl8 (show 0 < 1 by omega) (zc26 ..) 26 (by decide) rfl wf_8_75 dX8_lasts_32 ?_
      refine z_iload_n C 35 dX8_lasts_35 rfl 0 rfl ?_
      refine z_iald C 36 (show 0 < 1 by omega) (zc56 ..) hzq1 (by omega) (show zq1 < ((24 : Nat) : Int) by omega) dX8_lasts_36 (fun zq5 ezq5 hzq5 => ?_)
      refine z_aload_n C 37 dX8_lasts_37 rfl 1 rfl ?_
      refine z_getI C 38 zcl8 (show 0 < 1 by omega) (zc26 ..) 1 (by decide) rfl wf_8_173 dX8_lasts_38 (fun zq6 ezq6 hzq6 => ?_)
      refine z_icmp_le C 41 58 dX8_lasts_41 (by decide) hzq5 hzq6 (fun c41_34 => ?_) (fun c41_34 => ?_)
      · refine z_iconst C 58 dX8_lasts_58 ?_
        refine z_iret C 59 dX8_lasts_59 (by decide) (by decide) (by decide) ?_
        refine Or.inr ⟨hce, hth, zq1, hx0, hpe, ?_⟩
        rw [if_pos (by omega), if_neg (by omega)]
      refine z_aload_n C 44 dX8_lasts_44 rfl 1 rfl ?_
      refine z_get C 45 zcl8 (show 0 < 1 by omega) (zc26 ..) 26 (by decide) rfl wf_8_75 dX8_lasts_45 ?_
      refine z_iload_n C 48 dX8_lasts_48 rfl 0 rfl ?_
      refine z_iald C 49 (show 0 < 1 by omega) (zc56 ..) hzq1 (by omega) (show zq1 < ((24 : Nat) : Int) by omega) dX8_lasts_49 (fun zq7 ezq7 hzq7 => ?_)
      refine z_aload_n C 50 dX8_lasts_50 rfl 1 rfl ?_
      refine z_getI C 51 zcl8 (show 0 < 1 by omega) (zc26 ..) 1 (by decide) rfl wf_8_173 dX8_lasts_51 (fun zq8 ezq8 hzq8 => ?_)
      refine z_isub C 54 dX8_lasts_54 ?_
      refine z_goto C 55 59 dX8_lasts_55 (by decide) ?_
      refine z_norm ?_
      intro yy eyy hyy
      refine z_iret C 59 dX8_lasts_59 (by decide) (by decide) hyy ?_
      refine Or.inr ⟨hce, hth, zq1, hx0, hpe, ?_⟩
      rw [if_pos (by omega), if_pos (by omega), eyy, ezq7, ezq8]
    refine z_iconst C 27 dX8_lasts_27 ?_
    refine z_goto C 28 59 dX8_lasts_28 (by decide) ?_
    refine z_iret C 59 dX8_lasts_59 (by decide) (by decide) (by decide) ?_
    refine Or.inr ⟨hce, hth, zq1, hx0, hpe, ?_⟩
    rw [if_neg (by omega)]
  obtain ⟨hce, hth, -⟩ | ⟨z1, z2, -⟩ := hPz1
  rotate_left
  · exact absurd z2.1 (by omega)
  refine z_iconst C 14 dX8_lasts_14 ?_
  refine z_goto C 15 59 dX8_lasts_15 (by decide) ?_
  refine z_iret C 59 dX8_lasts_59 (by decide) (by decide) (by decide) ?_
  exact Or.inl ⟨hce, hth⟩
set_option maxHeartbeats 4000000 in
set_option maxRecDepth 100000 in
theorem c_X8_solicitations (l : Launch) (G : zG) (M : zMem)  : Met l yX8_solicitations [.code yX8_solicitations cX8_solicitations 1 (some .int)] (zR 0 0 0) (zPc G M [.ref (zad G 26 0)]) (zQi G (fun x M' => zthr M M' 0 ∧ x = zV M 26 0 34)) 0 0 (zA G) := by
  refine z_met [(0, .ref (zad G 26 0))] (by decide) (Nat.le_of_ble_eq_true rfl) rfl ?_
  intro p e s m below meth c C
  have C : zC p s m ([.ref (zad G 26 0)] : List Value).toArray meth c G RX8 cX8_solicitations 1 (some .int) := C
  refine z_aload_n C 0 dX8_solicitations_0 rfl 0 rfl ?_
  refine z_iconst C 1 dX8_solicitations_1 ?_
  refine z_putI C 2 zcl8 (show 0 < 1 by omega) (zc26 ..) 0 (by decide) wf_8_99 rfl rfl rfl (Nat.le_of_ble_eq_true rfl) (zc26 ..) dX8_solicitations_2 ?_
  refine z_aload_n C 5 dX8_solicitations_5 rfl 0 rfl ?_
  refine z_getI C 6 zcl8 (show 0 < 1 by omega) (zc26 ..) 34 (by decide) rfl wf_8_122 dX8_solicitations_6 (fun zq1 ezq1 hzq1 => ?_)
  rw [zV_nj (by decide)] at ezq1
  refine z_iret C 9 dX8_solicitations_9 (by decide) (by decide) hzq1 ?_
  exact ⟨zthr_1 _ (by decide), ezq1⟩
set_option maxHeartbeats 4000000 in
set_option maxRecDepth 100000 in
theorem c_X8_packetsTo (l : Launch) (G : zG) (M : zMem) (hw : zWM M) (a b : Int) (ha : zrg a) (hb : zrg b) (d : Int) (hd : zrg d) (hx : ∀ (M1 : zMem) (x : Int), zthr M M1 0 → ((0 ≤ a ∧ a < 3) ∧ 0 ≤ b ∧ b < zmb M a.toNat (zV M 26 0 21 + 1)) → zpe M1 a.toNat b x → 0 ≤ x)  : Met l yX8_packetsTo [.code yX8_packetsTo cX8_packetsTo 7 (some .int)] (zR 3 0 0) (zPc G M [.ref (zad G 26 0), .int (zI a), .int (zI b), .int (zI d)]) (zQi G (fun x M' => (¬ ((0 ≤ a ∧ a < 3) ∧ 0 ≤ b ∧ b < zmb M a.toNat (zV M 26 0 21 + 1)) ∧ zthr M M' 1) ∨ (((0 ≤ a ∧ a < 3) ∧ 0 ≤ b ∧ b < zmb M a.toNat (zV M 26 0 21 + 1)) ∧ ∃ M1, zthr M M1 0 ∧ ((¬ (0 ≤ d ∧ d < 32) ∧ zthr M1 M' 2) ∨ ((0 ≤ d ∧ d < 32) ∧ zthr M1 M' 0 ∧ ∃ q : Int, 0 ≤ q ∧ zpe M1 a.toNat b q ∧ x = zw (zsm (zpkm M1 q d) (zV M1 58 0 q.toNat).toNat)))))) 0 0 (zA G) := by
  refine z_met [(0, .ref (zad G 26 0)), (1, .int (zI a)), (2, .int (zI b)), (3, .int (zI d))] (by decide) (Nat.le_of_ble_eq_true rfl) rfl ?_
  intro p e s m below meth c C
  have C : zC p s m ([.ref (zad G 26 0), .int (zI a), .int (zI b), .int (zI d)] : List Value).toArray meth c G RX8 cX8_packetsTo 7 (some .int) := C
  have hw9z := hw
  obtain ⟨w1, w2, w3, w4, w5, w6, w7, w8, w9, w10, w11, w12, w13, w14⟩ := hw9z
  refine z_aload_n C 0 dX8_packetsTo_0 rfl 0 rfl ?_
  refine z_iload_n C 1 dX8_packetsTo_1 rfl 1 rfl ?_
  refine z_iload_n C 2 dX8_packetsTo_2 rfl 2 rfl ?_
  refine z_callVi C 3 (As := [.int (zI a), .int (zI b)]) (rest := []) (c_X8_asks l G M hw a b ha hb) zcl8 (show 0 < 1 by omega) (zc26 ..) (zW_of 2 C wm_8_200 wc_X8_asks wini_8 wi_X8_asks wse_X8_asks ⟨by decide, by decide, by decide⟩ ⟨by decide, by decide⟩) rfl (Nat.le_of_ble_eq_true rfl) ⟨by decide, by decide⟩ dX8_packetsTo_3 rfl (fun zq1 Mz2 hzq1 hPz1 => ?_)
  refine z_istore (lv' := [(4, .int (zI zq1)), (0, .ref (zad G 26 0)), (1, .int (zI a)), (2, .int (zI b)), (3, .int (zI d))]) C 6 dX8_packetsTo_6 (by decide) rfl ?_
  refine z_aload_n C 8 dX8_packetsTo_8 rfl 1 rfl ?_
  refine z_getI C 9 zcl8 (show 0 < 1 by omega) (zc26 ..) 0 (by decide) rfl wf_8_99 dX8_packetsTo_9 (fun zq3 ezq3 hzq3 => ?_)
  refine z_if_ne C 12 34 dX8_packetsTo_12 (by decide) hzq3 (fun c12_15 => ?_) (fun c12_15 => ?_)
  · obtain ⟨hce, hth, -⟩ | ⟨z1, z2, -⟩ := hPz1
    rotate_left
    · exact absurd z2.1 (by omega)
    refine z_iconst C 34 dX8_packetsTo_34 ?_
    refine z_istore (lv' := [(5, .int (zI 0)), (4, .int (zI zq1)), (0, .ref (zad G 26 0)), (1, .int (zI a)), (2, .int (zI b)), (3, .int (zI d))]) C 35 dX8_packetsTo_35 (by decide) rfl ?_
    refine z_iconst C 37 dX8_packetsTo_37 ?_
    refine z_iload C 38 dX8_packetsTo_38 1 rfl ?_
    refine z_imul C 40 dX8_packetsTo_40 ?_
    refine z_istore (lv' := [(6, .int (zI (4 * zq1))), (5, .int (zI 0)), (4, .int (zI zq1)), (0, .ref (zad G 26 0)), (1, .int (zI a)), (2, .int (zI b)), (3, .int (zI d))]) C 41 dX8_packetsTo_41 (by decide) rfl ?_
    have L43_4 : ∀ (kz4 : Nat) (n : Int) (k : Int), (n = 0) → 0 < (kz4 : Int) → zZ p l e (zR 3 0 0) s m ([.ref (zad G 26 0), .int (zI a), .int (zI b), .int (zI d)] : List Value).toArray below meth c G 7 (MQ below (zQi G (fun x M' => (¬ ((0 ≤ a ∧ a < 3) ∧ 0 ≤ b ∧ b < zmb M a.toNat (zV M 26 0 21 + 1)) ∧ zthr M M' 1) ∨ (((0 ≤ a ∧ a < 3) ∧ 0 ≤ b ∧ b < zmb M a.toNat (zV M 26 0 21 + 1)) ∧ ∃ M1, zthr M M1 0 ∧ ((¬ (0 ≤ d ∧ d < 32) ∧ zthr M1 M' 2) ∨ ((0 ≤ d ∧ d < 32) ∧ zthr M1 M' 0 ∧ ∃ q : Int, 0 ≤ q ∧ zpe M1 a.toNat b q ∧ x = zw (zsm (zpkm M1 q d) (zV M1 58 0 q.toNat).toNat)))))) ([.ref (zad G 26 0), .int (zI a), .int (zI b), .int (zI d)] : List Value).toArray s 0 0 (zA G)) Mz2 0 0 43 [(4, .int (zI zq1)), (0, .ref (zad G 26 0)), (1, .int (zI a)), (2, .int (zI b)), (3, .int (zI d)), (5, .int (zI n)), (6, .int (zI k))] [] := by
      intro kz4
      induction kz4 with
      | zero =>
        intro n k g0 hk
        exact absurd hk (by omega)
      | succ kz4 ihz5 =>
        intro n k g0 hk
        refine z_aload_n C 43 dX8_packetsTo_43 rfl 1 rfl ?_
        refine z_getI C 44 zcl8 (show 0 < 1 by omega) (zc26 ..) 0 (by decide) rfl wf_8_99 dX8_packetsTo_44 (fun zq6 ezq6 hzq6 => ?_)
        refine z_if_ne C 47 100 dX8_packetsTo_47 (by decide) hzq6 (fun c47_36 => ?_) (fun c47_36 => ?_)
        rotate_left
        · (exfalso; have := hth.1; omega)
        refine z_iload C 100 dX8_packetsTo_100 5 rfl ?_
        refine z_iret C 102 dX8_packetsTo_102 (by decide) (by decide) (by first | assumption | omega) ?_
        exact Or.inl ⟨hce, hth⟩
    refine z_sub (lv' := [(4, .int (zI zq1)), (0, .ref (zad G 26 0)), (1, .int (zI a)), (2, .int (zI b)), (3, .int (zI d)), (5, .int (zI 0)), (6, .int (zI (4 * zq1)))]) [2, 3, 4, 5, 6, 1, 0] rfl ?_
    exact L43_4 (((0 : Int)).toNat + 1) 0 (4 * zq1) (by omega) (by omega)
  obtain ⟨z1, z2, -⟩ | ⟨hce, hth, hpe⟩ := hPz1
  · exact absurd z2.1 (by omega)
  have hx0 := hx _ _ hth hce hpe
  have hwm := zWM_thr hw hth
  have hx1 : 0 ≤ zq1 ∧ zq1 < 24 := by rcases hpe with ⟨y1, -⟩ | ⟨j1, y1, y2, -⟩; omega; omega
  have hmn9 := hwm.2.2.2.2.2.2.2.1 (zq1).toNat (by omega)
  refine z_aload_n C 15 dX8_packetsTo_15 rfl 1 rfl ?_
  refine z_iload_n C 16 dX8_packetsTo_16 rfl 4 rfl ?_
  refine z_iconst C 17 dX8_packetsTo_17 ?_
  refine z_bipush C 18 dX8_packetsTo_18 (by decide +kernel) ?_
  refine z_callSi C 20 (As := [.int (zI d), .int (zI 0), .int (zI 31)]) (rest := [.ref (zad G 26 0)]) (c_X8_in l G Mz2 d 0 31 (by first | assumption | decide | omega) (by first | assumption | decide | omega) (by first | assumption | decide | omega)) (zS_of 3 C wm_8_103 wc_X8_in wini_8 wst_X8_in ⟨by decide, by decide, by decide⟩ ⟨by decide, by decide⟩) rfl (Nat.le_of_ble_eq_true rfl) ⟨by decide, by decide⟩ dX8_packetsTo_20 rfl (fun zq7 Mz8 hzq7 hPz7 => ?_)
  obtain ⟨rfl, hPz7⟩ := hPz7
  refine z_if_eq C 23 30 dX8_packetsTo_23 (by decide) hzq7 (fun c23_55 => ?_) (fun c23_55 => ?_)
  · have hcd := hPz7.f c23_55
    refine z_iconst C 30 dX8_packetsTo_30 ?_
    refine z_putI C 31 zcl8 (show 0 < 1 by omega) (zc26 ..) 0 (by decide) wf_8_99 rfl rfl rfl (Nat.le_of_ble_eq_true rfl) (zc26 ..) dX8_packetsTo_31 ?_
    refine z_iconst C 34 dX8_packetsTo_34 ?_
    refine z_istore (lv' := [(5, .int (zI 0)), (4, .int (zI zq1)), (0, .ref (zad G 26 0)), (1, .int (zI a)), (2, .int (zI b)), (3, .int (zI d))]) C 35 dX8_packetsTo_35 (by decide) rfl ?_
    refine z_iconst C 37 dX8_packetsTo_37 ?_
    refine z_iload C 38 dX8_packetsTo_38 1 rfl ?_
    refine z_imul C 40 dX8_packetsTo_40 ?_
    refine z_istore (lv' := [(6, .int (zI (4 * zq1))), (5, .int (zI 0)), (4, .int (zI zq1)), (0, .ref (zad G 26 0)), (1, .int (zI a)), (2, .int (zI b)), (3, .int (zI d))]) C 41 dX8_packetsTo_41 (by decide) rfl ?_
    have L43_9 : ∀ (kz9 : Nat) (n : Int) (k : Int), (n = 0) → 0 < (kz9 : Int) → zZ p l e (zR 3 0 0) s m ([.ref (zad G 26 0), .int (zI a), .int (zI b), .int (zI d)] : List Value).toArray below meth c G 7 (MQ below (zQi G (fun x M' => (¬ ((0 ≤ a ∧ a < 3) ∧ 0 ≤ b ∧ b < zmb M a.toNat (zV M 26 0 21 + 1)) ∧ zthr M M' 1) ∨ (((0 ≤ a ∧ a < 3) ∧ 0 ≤ b ∧ b < zmb M a.toNat (zV M 26 0 21 + 1)) ∧ ∃ M1, zthr M M1 0 ∧ ((¬ (0 ≤ d ∧ d < 32) ∧ zthr M1 M' 2) ∨ ((0 ≤ d ∧ d < 32) ∧ zthr M1 M' 0 ∧ ∃ q : Int, 0 ≤ q ∧ zpe M1 a.toNat b q ∧ x = zw (zsm (zpkm M1 q d) (zV M1 58 0 q.toNat).toNat)))))) ([.ref (zad G 26 0), .int (zI a), .int (zI b), .int (zI d)] : List Value).toArray s 0 0 (zA G)) (zup Mz2 26 0 0 (zI 2)) 0 0 43 [(4, .int (zI zq1)), (0, .ref (zad G 26 0)), (1, .int (zI a)), (2, .int (zI b)), (3, .int (zI d)), (5, .int (zI n)), (6, .int (zI k))] [] := by
      intro kz9
      induction kz9 with
      | zero =>
        intro n k g0 hk
        exact absurd hk (by omega)
      | succ kz9 ihz10 =>
        intro n k g0 hk
        refine z_aload_n C 43 dX8_packetsTo_43 rfl 1 rfl ?_
        refine z_getI C 44 zcl8 (show 0 < 1 by omega) (zc26 ..) 0 (by decide) rfl wf_8_99 dX8_packetsTo_44 (fun zq11 ezq11 hzq11 => ?_)
        rw [zV_eq (by first | assumption | decide | omega)] at ezq11
        subst ezq11
        refine z_if_ne C 47 100 dX8_packetsTo_47 (by decide) (by decide) (fun c47_78 => ?_) (fun c47_78 => ?_)
        rotate_left
        · exact absurd c47_78 (by decide)
        refine z_iload C 100 dX8_packetsTo_100 5 rfl ?_
        refine z_iret C 102 dX8_packetsTo_102 (by decide) (by decide) (by first | assumption | omega) ?_
        exact Or.inr ⟨hce, _, hth, Or.inl ⟨fun z => hcd (by omega), zthr_1 _ (by decide)⟩⟩
    refine z_sub (lv' := [(4, .int (zI zq1)), (0, .ref (zad G 26 0)), (1, .int (zI a)), (2, .int (zI b)), (3, .int (zI d)), (5, .int (zI 0)), (6, .int (zI (4 * zq1)))]) [2, 3, 4, 5, 6, 1, 0] rfl ?_
    exact L43_9 (((0 : Int)).toNat + 1) 0 (4 * zq1) (by omega) (by omega)
  have hcd := hPz7.t c23_55
  refine z_iconst C 26 dX8_packetsTo_26 ?_
  refine z_goto C 27 31 dX8_packetsTo_27 (by decide) ?_
  refine z_putI C 31 zcl8 (show 0 < 1 by omega) (zc26 ..) 0 (by decide) wf_8_99 rfl rfl rfl (Nat.le_of_ble_eq_true rfl) (zc26 ..) dX8_packetsTo_31 ?_
  refine z_iconst C 34 dX8_packetsTo_34 ?_
  refine z_istore (lv' := [(5, .int (zI 0)), (4, .int (zI zq1)), (0, .ref (zad G 26 0)), (1, .int (zI a)), (2, .int (zI b)), (3, .int (zI d))]) C 35 dX8_packetsTo_35 (by decide) rfl ?_
  refine z_iconst C 37 dX8_packetsTo_37 ?_
  refine z_iload C 38 dX8_packetsTo_38 1 rfl ?_
  refine z_imul C 40 dX8_packetsTo_40 ?_
  refine z_istore (lv' := [(6, .int (zI (4 * zq1))), (5, .int (zI 0)), (4, .int (zI zq1)), (0, .ref (zad G 26 0)), (1, .int (zI a)), (2, .int (zI b)), (3, .int (zI d))]) C 41 dX8_packetsTo_41 (by decide) rfl ?_
  have L43_12 : ∀ (kz12 : Nat) (n : Int) (k : Int), (4 * zq1 ≤ k ∧ k ≤ 4 * zq1 + zV Mz2 58 0 (zq1).toNat) → (n = zsm (zpkm Mz2 zq1 d) (k - 4 * zq1).toNat) → (4 * zq1 + zV Mz2 58 0 (zq1).toNat - k) < (kz12 : Int) → zZ p l e (zR 3 0 0) s m ([.ref (zad G 26 0), .int (zI a), .int (zI b), .int (zI d)] : List Value).toArray below meth c G 7 (MQ below (zQi G (fun x M' => (¬ ((0 ≤ a ∧ a < 3) ∧ 0 ≤ b ∧ b < zmb M a.toNat (zV M 26 0 21 + 1)) ∧ zthr M M' 1) ∨ (((0 ≤ a ∧ a < 3) ∧ 0 ≤ b ∧ b < zmb M a.toNat (zV M 26 0 21 + 1)) ∧ ∃ M1, zthr M M1 0 ∧ ((¬ (0 ≤ d ∧ d < 32) ∧ zthr M1 M' 2) ∨ ((0 ≤ d ∧ d < 32) ∧ zthr M1 M' 0 ∧ ∃ q : Int, 0 ≤ q ∧ zpe M1 a.toNat b q ∧ x = zw (zsm (zpkm M1 q d) (zV M1 58 0 q.toNat).toNat)))))) ([.ref (zad G 26 0), .int (zI a), .int (zI b), .int (zI d)] : List Value).toArray s 0 0 (zA G)) (zup Mz2 26 0 0 (zI 0)) 0 0 43 [(4, .int (zI zq1)), (0, .ref (zad G 26 0)), (1, .int (zI a)), (2, .int (zI b)), (3, .int (zI d)), (5, .int (zI n)), (6, .int (zI k))] [] := by
    intro kz12
    induction kz12 with
    | zero =>
      intro n k g0 g1 hk
      exact absurd hk (by omega)
    | succ kz12 ihz13 =>
      intro n k g0 g1 hk
      refine z_aload_n C 43 dX8_packetsTo_43 rfl 1 rfl ?_
      refine z_getI C 44 zcl8 (show 0 < 1 by omega) (zc26 ..) 0 (by decide) rfl wf_8_99 dX8_packetsTo_44 (fun zq14 ezq14 hzq14 => ?_)
      rw [zV_eq (by first | assumption | decide | omega)] at ezq14
      subst ezq14
      refine z_if_ne C 47 100 dX8_packetsTo_47 (by decide) (by decide) (fun c47_107 => ?_) (fun c47_107 => ?_)
      · exact absurd c47_107 (by decide)
      refine z_iload C 50 dX8_packetsTo_50 6 rfl ?_
      refine z_iconst C 52 dX8_packetsTo_52 ?_
      refine z_iload C 53 dX8_packetsTo_53 0 rfl ?_
      refine z_imul C 55 dX8_packetsTo_55 ?_
      refine z_aload_n C 56 dX8_packetsTo_56 rfl 1 rfl ?_
      refine z_get C 57 zcl8 (show 0 < 1 by omega) (zc26 ..) 28 (by decide) rfl wf_8_81 dX8_packetsTo_57 ?_
      refine z_iload C 60 dX8_packetsTo_60 0 rfl ?_
      refine z_iald C 62 (show 0 < 1 by omega) (zc58 ..) hzq1 (by omega) (show zq1 < ((24 : Nat) : Int) by omega) dX8_packetsTo_62 (fun zq15 ezq15 hzq15 => ?_)
      rw [zV_ne (by decide)] at ezq15
      refine z_iadd C 63 dX8_packetsTo_63 ?_
      refine z_icmp_ge C 64 100 dX8_packetsTo_64 (by decide) (by first | assumption | omega) (by first | assumption | omega) (fun c64_119 => ?_) (fun c64_119 => ?_)
      · refine z_iload C 100 dX8_packetsTo_100 5 rfl ?_
        refine z_norm ?_
        intro yy eyy hyy
        refine z_iret C 102 dX8_packetsTo_102 (by decide) (by decide) hyy ?_
        refine Or.inr ⟨hce, _, hth, Or.inr ⟨by omega, zthr_1 _ (by decide), zq1, hx0, hpe, ?_⟩⟩
        rw [eyy, g1, show k - 4 * zq1 = zV Mz2 58 0 (zq1).toNat by omega]
      refine z_iload C 67 dX8_packetsTo_67 5 rfl ?_
      refine z_aload_n C 69 dX8_packetsTo_69 rfl 1 rfl ?_
      refine z_get C 70 zcl8 (show 0 < 1 by omega) (zc26 ..) 29 (by decide) rfl wf_8_84 dX8_packetsTo_70 ?_
      refine z_iload C 73 dX8_packetsTo_73 6 rfl ?_
      refine z_iald C 75 (show 0 < 1 by omega) (zc59 ..) (by first | assumption | omega) (by omega) (show k < ((96 : Nat) : Int) by omega) dX8_packetsTo_75 (fun zq16 ezq16 hzq16 => ?_)
      rw [zV_ne (by decide)] at ezq16
      refine z_iload_n C 76 dX8_packetsTo_76 rfl 4 rfl ?_
      refine z_icmp_ne C 77 90 dX8_packetsTo_77 (by decide) hzq16 (by first | assumption | omega) (fun c77_133 => ?_) (fun c77_133 => ?_)
      · have hq9 := (fun z => c77_133 (ezq16.trans z))
        refine z_iconst C 90 dX8_packetsTo_90 ?_
        refine z_iadd C 91 dX8_packetsTo_91 ?_
        refine z_istore (lv' := [(5, .int (zI (n + 0))), (4, .int (zI zq1)), (0, .ref (zad G 26 0)), (1, .int (zI a)), (2, .int (zI b)), (3, .int (zI d)), (6, .int (zI k))]) C 92 dX8_packetsTo_92 (by decide) rfl ?_
        refine z_iinc (lv' := [(6, .int (zI (k + 1))), (5, .int (zI (n + 0))), (4, .int (zI zq1)), (0, .ref (zad G 26 0)), (1, .int (zI a)), (2, .int (zI b)), (3, .int (zI d))]) C 94 dX8_packetsTo_94 6 rfl (by decide) rfl ?_
        refine z_goto C 97 43 dX8_packetsTo_97 (by decide) ?_
        refine z_sub (lv' := [(4, .int (zI zq1)), (0, .ref (zad G 26 0)), (1, .int (zI a)), (2, .int (zI b)), (3, .int (zI d)), (5, .int (zI (n + 0))), (6, .int (zI (k + 1)))]) [2, 3, 4, 5, 6, 1, 0] rfl ?_
        exact ihz13 (n + 0) (k + 1) (by omega) (by rw [zsm_k (by omega), ← g1, zpkm_f (show 4 * (zq1).toNat + (k - 4 * zq1).toNat = k.toNat by omega) hq9]) (by omega)
      have hq9 := ezq16.symm.trans c77_133
      refine z_aload_n C 80 dX8_packetsTo_80 rfl 1 rfl ?_
      refine z_get C 81 zcl8 (show 0 < 1 by omega) (zc26 ..) 32 (by decide) rfl wf_8_93 dX8_packetsTo_81 ?_
      refine z_iload C 84 dX8_packetsTo_84 6 rfl ?_
      refine z_iald C 86 (show 0 < 1 by omega) (zc62 ..) (by first | assumption | omega) (by omega) (show k < ((96 : Nat) : Int) by omega) dX8_packetsTo_86 (fun zq17 ezq17 hzq17 => ?_)
      rw [zV_ne (by decide)] at ezq17
      refine z_goto C 87 91 dX8_packetsTo_87 (by decide) ?_
      refine z_iadd C 91 dX8_packetsTo_91 ?_
      refine z_istore (lv' := [(5, .int (zI (n + zq17))), (4, .int (zI zq1)), (0, .ref (zad G 26 0)), (1, .int (zI a)), (2, .int (zI b)), (3, .int (zI d)), (6, .int (zI k))]) C 92 dX8_packetsTo_92 (by decide) rfl ?_
      refine z_iinc (lv' := [(6, .int (zI (k + 1))), (5, .int (zI (n + zq17))), (4, .int (zI zq1)), (0, .ref (zad G 26 0)), (1, .int (zI a)), (2, .int (zI b)), (3, .int (zI d))]) C 94 dX8_packetsTo_94 6 rfl (by decide) rfl ?_
      refine z_goto C 97 43 dX8_packetsTo_97 (by decide) ?_
      refine z_sub (lv' := [(4, .int (zI zq1)), (0, .ref (zad G 26 0)), (1, .int (zI a)), (2, .int (zI b)), (3, .int (zI d)), (5, .int (zI (n + zq17))), (6, .int (zI (k + 1)))]) [2, 3, 4, 5, 6, 1, 0] rfl ?_
      exact ihz13 (n + zq17) (k + 1) (by omega) (by rw [zsm_k (by omega), ← g1, zpkm_t (show 4 * (zq1).toNat + (k - 4 * zq1).toNat = k.toNat by omega) hq9, ezq17]) (by omega)
  refine z_sub (lv' := [(4, .int (zI zq1)), (0, .ref (zad G 26 0)), (1, .int (zI a)), (2, .int (zI b)), (3, .int (zI d)), (5, .int (zI 0)), (6, .int (zI (4 * zq1)))]) [2, 3, 4, 5, 6, 1, 0] rfl ?_
  exact L43_12 (((4 * zq1 + zV Mz2 58 0 (zq1).toNat - (4 * zq1) : Int)).toNat + 1) 0 (4 * zq1) (by omega) (by rw [Int.sub_self]; rfl) (by omega)
