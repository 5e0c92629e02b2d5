set_option maxHeartbeats 4000000 in
set_option maxRecDepth 100000 in
theorem c_X8_send (l : Launch) (G : zG) (M : zMem) (hw : zWM M) (a idn : Int) (ha : zrg a) (hid : zrg idn) (hu : zV M 26 0 21 < 1000000) (h16 : ∀ (M1 : zMem) (mm : Int), (∀ κ i1 j1 : Nat, κ ≠ 48 → ¬ (κ = 26 ∧ j1 = 0) → M1 κ i1 j1 = M κ i1 j1) → zfnd (znv M1) (znl M1) (zng M1) (znn M1) idn mm → ¬ znh M1 idn 16 mm) (hfr : 0 ≤ a ∧ a < 3 → ∀ (M0 M1 : zMem) (v b : Int), (∀ κ i1 j1 : Nat, κ ≠ 48 → ¬ (κ = 26 ∧ j1 = 0) → M0 κ i1 j1 = M κ i1 j1) → zclr M0 M1 a v b (8 * a + 8) → zhfr M1 a.toNat) : Met l yX8_send [.code yX8_send cX8_send 5 (some .int)] (zR 5 0 0) (zPc G M [.ref (zad G 26 0), .int (zI a), .int (zI idn)]) (zQi G (fun x M' => (¬ (0 ≤ a ∧ a < 3) ∧ zthr M M' 1) ∨ ((0 ≤ a ∧ a < 3) ∧ ¬ (0 ≤ idn ∧ idn < 65536) ∧ zthr M M' 2) ∨ ((0 ≤ a ∧ a < 3) ∧ (0 ≤ idn ∧ idn < 65536) ∧ ∃ M0, zthr M M0 0 ∧ zmsnt M0 M' a idn x))) 0 0 (zA G) := by
  refine z_met [(0, .ref (zad G 26 0)), (1, .int (zI a)), (2, .int (zI idn))] (by decide) (Nat.le_of_ble_eq_true rfl) rfl ?_
  intro p e s m below meth c C
  have C : zC p s m ([.ref (zad G 26 0), .int (zI a), .int (zI idn)] : List Value).toArray meth c G RX8 cX8_send 5 (some .int) := C
  have hw9z := hw
  obtain ⟨w1, w2, w3, w4, w5, w6, w7, w8, w9, w10, w11, w12, w13, w14⟩ := hw9z
  refine z_aload_n C 0 dX8_send_0 rfl 0 rfl ?_
  refine z_iload_n C 1 dX8_send_1 rfl 1 rfl ?_
  refine z_callSi C 2 (As := [.int (zI a)]) (rest := [.ref (zad G 26 0)]) (c_X8_isRouter l G M a ha) (zS_of 1 C wm_8_188 wc_X8_isRouter wini_8 wst_X8_isRouter ⟨by decide, by decide, by decide⟩ ⟨by decide, by decide⟩) rfl (Nat.le_of_ble_eq_true rfl) ⟨by decide, by decide⟩ dX8_send_2 rfl (fun zq1 Mz2 hzq1 hPz1 => ?_)
  obtain ⟨rfl, hPz1⟩ := hPz1
  refine z_if_ne C 5 12 dX8_send_5 (by decide) hzq1 (fun c5_12 => ?_) (fun c5_12 => ?_)
  · have hcr := hPz1.t c5_12
    refine z_iload_n C 12 dX8_send_12 rfl 2 rfl ?_
    refine z_callSi C 13 (As := [.int (zI idn)]) (rest := [.ref (zad G 26 0)]) (c_X8_isIdentifier l G M idn hid) (zS_of 1 C wm_8_107 wc_X8_isIdentifier wini_8 wst_X8_isIdentifier ⟨by decide, by decide, by decide⟩ ⟨by decide, by decide⟩) rfl (Nat.le_of_ble_eq_true rfl) ⟨by decide, by decide⟩ dX8_send_13 rfl (fun zq3 Mz4 hzq3 hPz3 => ?_)
    obtain ⟨rfl, hPz3⟩ := hPz3
    refine z_if_eq C 16 23 dX8_send_16 (by decide) hzq3 (fun c16_18 => ?_) (fun c16_18 => ?_)
    · refine z_iconst C 23 dX8_send_23 ?_
      refine z_putI C 24 zcl8 (show 0 < 1 by omega) (zc26 ..) 0 (by decide) wf_8_99 rfl rfl rfl (Nat.le_of_ble_eq_true rfl) (zc26 ..) dX8_send_24 ?_
      refine z_aload_n C 27 dX8_send_27 rfl 0 rfl ?_
      refine z_getI C 28 zcl8 (show 0 < 1 by omega) (zc26 ..) 0 (by decide) rfl wf_8_99 dX8_send_28 (fun zq5 ezq5 hzq5 => ?_)
      rw [zV_eq (by first | assumption | decide | omega)] at ezq5
      subst ezq5
      refine z_if_le C 31 36 dX8_send_31 (by decide) (by decide) (fun c31_26 => ?_) (fun c31_26 => ?_)
      · exact absurd c31_26 (by decide)
      refine z_iconst C 34 dX8_send_34 ?_
      refine z_iret C 35 dX8_send_35 (by decide) (by decide) (by decide) ?_
      first | exact Or.inl ⟨hPz1.f (by assumption), zthr_1 _ (by decide)⟩ | exact Or.inr (Or.inl ⟨hcr, hPz3.f (by assumption), zthr_1 _ (by decide)⟩)
    have hci := hPz3.t c16_18
    refine z_iconst C 19 dX8_send_19 ?_
    refine z_goto C 20 24 dX8_send_20 (by decide) ?_
    refine z_putI C 24 zcl8 (show 0 < 1 by omega) (zc26 ..) 0 (by decide) wf_8_99 rfl rfl rfl (Nat.le_of_ble_eq_true rfl) (zc26 ..) dX8_send_24 ?_
    refine z_aload_n C 27 dX8_send_27 rfl 0 rfl ?_
    refine z_getI C 28 zcl8 (show 0 < 1 by omega) (zc26 ..) 0 (by decide) rfl wf_8_99 dX8_send_28 (fun zq6 ezq6 hzq6 => ?_)
    rw [zV_eq (by first | assumption | decide | omega)] at ezq6
    subst ezq6
    refine z_if_le C 31 36 dX8_send_31 (by decide) (by decide) (fun c31_38 => ?_) (fun c31_38 => ?_)
    rotate_left
    · exact absurd c31_38 (by decide)
    refine z_aload_n C 36 dX8_send_36 rfl 0 rfl ?_
    refine z_iload_n C 37 dX8_send_37 rfl 1 rfl ?_
    refine z_iload_n C 38 dX8_send_38 rfl 2 rfl ?_
    refine z_callVi C 39 (As := [.int (zI a), .int (zI idn)]) (rest := []) (c_X8_entryFor l G (zup M 26 0 0 (zI 0)) (zWM_up0 hw) a hcr idn hci) zcl8 (show 0 < 1 by omega) (zc26 ..) (zW_of 2 C wm_8_191 wc_X8_entryFor wini_8 wi_X8_entryFor wse_X8_entryFor ⟨by decide, by decide, by decide⟩ ⟨by decide, by decide⟩) rfl (Nat.le_of_ble_eq_true rfl) ⟨by decide, by decide⟩ dX8_send_39 rfl (fun zq7 Mz8 hzq7 hPz7 => ?_)
    obtain ⟨rfl, hPz7⟩ := hPz7
    have hef : zq7 = -1 ∨ 0 ≤ zq7 ∧ zq7 < 24 := by rcases hPz7 with ⟨z1, -⟩ | ⟨j1, z1, z2, -⟩; exact Or.inl z1; exact Or.inr (by omega)
    refine z_istore_n (lv' := [(3, .int (zI zq7)), (0, .ref (zad G 26 0)), (1, .int (zI a)), (2, .int (zI idn))]) C 42 dX8_send_42 rfl (by decide) rfl ?_
    refine z_iload_n C 43 dX8_send_43 rfl 0 rfl ?_
    refine z_iconst C 44 dX8_send_44 ?_
    refine z_icmp_ne C 45 86 dX8_send_45 (by decide) hzq7 (by decide) (fun c45_50 => ?_) (fun c45_50 => ?_)
    · refine z_aload_n C 86 dX8_send_86 rfl 1 rfl ?_
      refine z_dup C 87 dX8_send_87 rfl ?_
      refine z_getI C 88 zcl8 (show 0 < 1 by omega) (zc26 ..) 21 (by decide) rfl wf_8_167 dX8_send_88 (fun zq9 ezq9 hzq9 => ?_)
      rw [zV_nj (by decide)] at ezq9
      refine z_iconst C 91 dX8_send_91 ?_
      refine z_iadd C 92 dX8_send_92 ?_
      refine z_putI C 93 zcl8 (show 0 < 1 by omega) (zc26 ..) 21 (by decide) wf_8_167 rfl rfl rfl (Nat.le_of_ble_eq_true rfl) (zc26 ..) dX8_send_93 ?_
      refine z_aload_n C 96 dX8_send_96 rfl 1 rfl ?_
      refine z_get C 97 zcl8 (show 0 < 1 by omega) (zc26 ..) 20 (by decide) rfl wf_8_60 dX8_send_97 ?_
      refine z_iload_n C 100 dX8_send_100 rfl 0 rfl ?_
      refine z_aload_n C 101 dX8_send_101 rfl 1 rfl ?_
      refine z_getI C 102 zcl8 (show 0 < 1 by omega) (zc26 ..) 21 (by decide) rfl wf_8_167 dX8_send_102 (fun zq10 ezq10 hzq10 => ?_)
      rw [zV_eq (by first | assumption | decide | omega)] at ezq10
      refine z_iast C 105 (show 0 < 1 by omega) (zc50 ..) hzq7 (by omega) (show zq7 < ((24 : Nat) : Int) by omega) (zc50 ..) dX8_send_105 ?_
      have hwm : zWM (zup (zup (zup M 26 0 0 (zI 0)) 26 0 21 (zI (zq9 + 1))) 50 0 zq7.toNat (zI zq10)) := zWM_up (zWM_uses (zWM_up0 hw) (by have := w13; omega)) (by omega)
      have hxe : 0 ≤ zq7 ∧ zq7 < 24 := by omega
      refine z_aload_n C 106 dX8_send_106 rfl 1 rfl ?_
      refine z_get C 107 zcl8 (show 0 < 1 by omega) (zc26 ..) 24 (by decide) rfl wf_8_69 dX8_send_107 ?_
      refine z_iload_n C 110 dX8_send_110 rfl 0 rfl ?_
      refine z_iald C 111 (show 0 < 1 by omega) (zc54 ..) hzq7 (by omega) (show zq7 < ((24 : Nat) : Int) by omega) dX8_send_111 (fun zq11 ezq11 hzq11 => ?_)
      rw [zV_ne (by decide)] at ezq11
      rw [zV_ne (by decide)] at ezq11
      rw [zV_ne (by decide)] at ezq11
      refine z_iconst C 112 dX8_send_112 ?_
      refine z_icmp_ne C 113 120 dX8_send_113 (by decide) hzq11 (by decide) (fun c113_76 => ?_) (fun c113_76 => ?_)
      · refine z_aload_n C 120 dX8_send_120 rfl 1 rfl ?_
        refine z_iload_n C 121 dX8_send_121 rfl 2 rfl ?_
        refine z_iload_n C 122 dX8_send_122 rfl 0 rfl ?_
        refine z_callVi C 123 (As := [.int (zI a), .int (zI zq7)]) (rest := []) (c_X8_bestOf l G (zup (zup (zup M 26 0 0 (zI 0)) 26 0 21 (zI (zq9 + 1))) 50 0 zq7.toNat (zI zq10)) hwm a zq7 hcr hxe) zcl8 (show 0 < 1 by omega) (zc26 ..) (zW_of 2 C wm_8_185 wc_X8_bestOf wini_8 wi_X8_bestOf wse_X8_bestOf ⟨by decide, by decide, by decide⟩ ⟨by decide, by decide⟩) rfl (Nat.le_of_ble_eq_true rfl) ⟨by decide, by decide⟩ dX8_send_123 rfl (fun zq12 Mz13 hzq12 hPz12 => ?_)
        obtain ⟨rfl, hPz12⟩ := hPz12
        refine z_iconst C 126 dX8_send_126 ?_
        refine z_icmp_ne C 127 135 dX8_send_127 (by decide) hzq12 (by decide) (fun c127_84 => ?_) (fun c127_84 => ?_)
        · have hb4 := c127_84
          refine z_aload_n C 135 dX8_send_135 rfl 1 rfl ?_
          refine z_iload_n C 136 dX8_send_136 rfl 2 rfl ?_
          refine z_iload_n C 137 dX8_send_137 rfl 0 rfl ?_
          refine z_callVi C 138 (As := [.int (zI a), .int (zI zq7)]) (rest := []) (c_X8_goesTo l G (zup (zup (zup M 26 0 0 (zI 0)) 26 0 21 (zI (zq9 + 1))) 50 0 zq7.toNat (zI zq10)) hwm a zq7 hcr hxe _ rfl (zch_ge (zbp_ex (by rw [hPz12] at 127; exact 127)))) zcl8 (show 0 < 1 by omega) (zc26 ..) (zW_of 2 C wm_8_197 wc_X8_goesTo wini_8 wi_X8_goesTo wse_X8_goesTo ⟨by decide, by decide, by decide⟩ ⟨by decide, by decide⟩) rfl (Nat.le_of_ble_eq_true rfl) ⟨by decide, by decide⟩ dX8_send_138 rfl (fun zq14 Mz15 hzq14 hPz14 => ?_)
          refine z_iret C 141 dX8_send_141 (by decide) (by decide) hzq14 ?_
          refine Or.inr (Or.inr ⟨hcr, hci, _, zthr_1 _ (by decide), ?_⟩)
          refine Or.inl ⟨zq7, by omega, hPz7, _, rfl, ?_⟩
          sorry
        refine z_bipush C 130 dX8_send_130 (by decide +kernel) ?_
        refine z_goto C 132 141 dX8_send_132 (by decide) ?_
        refine z_iret C 141 dX8_send_141 (by decide) (by decide) (by decide) ?_
        refine Or.inr (Or.inr ⟨hcr, hci, _, zthr_1 _ (by decide), ?_⟩)
        refine Or.inl ⟨zq7, by omega, hPz7, _, rfl, ?_⟩
        sorry
      refine z_iconst C 116 dX8_send_116 ?_
      refine z_goto C 117 141 dX8_send_117 (by decide) ?_
      refine z_iret C 141 dX8_send_141 (by decide) (by decide) (by decide) ?_
      refine Or.inr (Or.inr ⟨hcr, hci, _, zthr_1 _ (by decide), ?_⟩)
      refine Or.inl ⟨zq7, by omega, hPz7, _, rfl, ?_⟩
      sorry
    refine z_aload_n C 48 dX8_send_48 rfl 1 rfl ?_
    refine z_iload_n C 49 dX8_send_49 rfl 3 rfl ?_
    refine z_callVi C 50 (As := [.int (zI idn)]) (rest := []) (c_X8_serverFor l G (zup M 26 0 0 (zI 0)) (zWM_up0 hw) idn hci) zcl8 (show 0 < 1 by omega) (zc26 ..) (zW_of 1 C wm_8_164 wc_X8_serverFor wini_8 wi_X8_serverFor wse_X8_serverFor ⟨by decide, by decide, by decide⟩ ⟨by decide, by decide⟩) rfl (Nat.le_of_ble_eq_true rfl) ⟨by decide, by decide⟩ dX8_send_50 rfl (fun zq16 Mz17 hzq16 hPz16 => ?_)
    obtain ⟨rfl, hPz16⟩ := hPz16
    obtain ⟨y9, hy1, hy2⟩ := hPz16
    have hy3 : 0 ≤ zq16 ∧ zq16 < 4 := by rw [hy2]; unfold zsv; split; decide; have z1 := zfnd_rg hy1; have z3 : zndn (zup M 26 0 0 (zI 0)) = zV M 26 0 13 := zV_nj (by decide); have z4 := (zWM_up0 (v := zI 0) hw).2.2.2.2.2.1; exact z4 _ (by omega)
    refine z_istore (lv' := [(4, .int (zI zq16)), (3, .int (zI zq7)), (0, .ref (zad G 26 0)), (1, .int (zI a)), (2, .int (zI idn))]) C 53 dX8_send_53 (by decide) rfl ?_
    refine z_aload_n C 55 dX8_send_55 rfl 2 rfl ?_
    refine z_get C 56 zcl8 (show 0 < 1 by omega) (zc26 ..) 17 (by decide) rfl wf_8_51 dX8_send_56 ?_
    refine z_iload C 59 dX8_send_59 0 rfl ?_
    refine z_zald C 61 (show 0 < 1 by omega) (zc47 ..) hzq16 (by omega) (show zq16 < ((4 : Nat) : Int) by omega) dX8_send_61 (fun zq18 ezq18 hzq18 => ?_)
    rw [zV_ne (by decide)] at ezq18
    refine z_if_eq C 62 68 dX8_send_62 (by decide) hzq18 (fun c62_116 => ?_) (fun c62_116 => ?_)
    · refine z_aload_n C 68 dX8_send_68 rfl 2 rfl ?_
      refine z_get C 69 zcl8 (show 0 < 1 by omega) (zc26 ..) 18 (by decide) rfl wf_8_54 dX8_send_69 ?_
      refine z_iload C 72 dX8_send_72 0 rfl ?_
      refine z_dup2 C 74 dX8_send_74 rfl rfl ?_
      refine z_iald C 75 (show 0 < 1 by omega) (zc48 ..) hzq16 (by omega) (show zq16 < ((4 : Nat) : Int) by omega) dX8_send_75 (fun zq19 ezq19 hzq19 => ?_)
      rw [zV_ne (by decide)] at ezq19
      refine z_iconst C 76 dX8_send_76 ?_
      refine z_iadd C 77 dX8_send_77 ?_
      refine z_iast C 78 (show 0 < 1 by omega) (zc48 ..) hzq16 (by omega) (show zq16 < ((4 : Nat) : Int) by omega) (zc48 ..) dX8_send_78 ?_
      refine z_aload_n C 79 dX8_send_79 rfl 2 rfl ?_
      refine z_iload_n C 80 dX8_send_80 rfl 3 rfl ?_
      refine z_iload_n C 81 dX8_send_81 rfl 4 rfl ?_
      refine z_callVi C 82 (As := [.int (zI a), .int (zI idn)]) (rest := []) (c_X8_gets l G (zup (zup M 26 0 0 (zI 0)) 48 0 zq16.toNat (zI (zq19 + 1))) (zWM_up (zWM_up0 hw) (by omega)) a hcr idn hci (fun mm hmm => h16 _ mm (fun κ i1 j1 h h2 => by rw [zup_at (fun z => h z.1), zup_at (fun z => h2 ⟨z.1, z.2.2⟩)]) hmm) (fun M1 v b hc => hfr hcr _ M1 v b (fun κ i1 j1 h h2 => by rw [zup_at (fun z => h z.1), zup_at (fun z => h2 ⟨z.1, z.2.2⟩)]) hc)) zcl8 (show 0 < 1 by omega) (zc26 ..) (zW_of 2 C wm_8_194 wc_X8_gets wini_8 wi_X8_gets wse_X8_gets ⟨by decide, by decide, by decide⟩ ⟨by decide, by decide⟩) rfl (Nat.le_of_ble_eq_true rfl) ⟨by decide, by decide⟩ dX8_send_82 rfl (fun zq20 Mz21 hzq20 hPz20 => ?_)
      have hwg := zWM_got (zWM_up (zWM_up0 hw) (by omega)) hcr hci hPz20
      have hug : zV Mz21 26 0 21 = zV M 26 0 21 := by rw [zgot_u hPz20, zV_ne (by decide), zV_nj (by decide)]
      have hxg : 8 * a ≤ zq20 ∧ zq20 < 8 * a + 8 := zgot_x hPz20
      refine z_istore_n (lv' := [(3, .int (zI zq20)), (4, .int (zI zq16)), (0, .ref (zad G 26 0)), (1, .int (zI a)), (2, .int (zI idn))]) C 85 dX8_send_85 rfl (by decide) rfl ?_
      refine z_aload_n C 86 dX8_send_86 rfl 2 rfl ?_
      refine z_dup C 87 dX8_send_87 rfl ?_
      refine z_getI C 88 zcl8 (show 0 < 1 by omega) (zc26 ..) 21 (by decide) rfl wf_8_167 dX8_send_88 (fun zq22 ezq22 hzq22 => ?_)
      refine z_iconst C 91 dX8_send_91 ?_
      refine z_iadd C 92 dX8_send_92 ?_
      refine z_putI C 93 zcl8 (show 0 < 1 by omega) (zc26 ..) 21 (by decide) wf_8_167 rfl rfl rfl (Nat.le_of_ble_eq_true rfl) (zc26 ..) dX8_send_93 ?_
      refine z_aload_n C 96 dX8_send_96 rfl 2 rfl ?_
      refine z_get C 97 zcl8 (show 0 < 1 by omega) (zc26 ..) 20 (by decide) rfl wf_8_60 dX8_send_97 ?_
      refine z_iload_n C 100 dX8_send_100 rfl 0 rfl ?_
      refine z_aload_n C 101 dX8_send_101 rfl 2 rfl ?_
      refine z_getI C 102 zcl8 (show 0 < 1 by omega) (zc26 ..) 21 (by decide) rfl wf_8_167 dX8_send_102 (fun zq23 ezq23 hzq23 => ?_)
      rw [zV_eq (by first | assumption | decide | omega)] at ezq23
      refine z_iast C 105 (show 0 < 1 by omega) (zc50 ..) hzq20 (by omega) (show zq20 < ((24 : Nat) : Int) by omega) (zc50 ..) dX8_send_105 ?_
      have hwm : zWM (zup (zup Mz21 26 0 21 (zI (zq22 + 1))) 50 0 zq20.toNat (zI zq23)) := zWM_up (zWM_uses hwg (by have := w13; omega)) (by omega)
      have hxe : 0 ≤ zq20 ∧ zq20 < 24 := by omega
      refine z_aload_n C 106 dX8_send_106 rfl 2 rfl ?_
      refine z_get C 107 zcl8 (show 0 < 1 by omega) (zc26 ..) 24 (by decide) rfl wf_8_69 dX8_send_107 ?_
      refine z_iload_n C 110 dX8_send_110 rfl 0 rfl ?_
      refine z_iald C 111 (show 0 < 1 by omega) (zc54 ..) hzq20 (by omega) (show zq20 < ((24 : Nat) : Int) by omega) dX8_send_111 (fun zq24 ezq24 hzq24 => ?_)
      rw [zV_ne (by decide)] at ezq24
      rw [zV_ne (by decide)] at ezq24
      refine z_iconst C 112 dX8_send_112 ?_
      refine z_icmp_ne C 113 120 dX8_send_113 (by decide) hzq24 (by decide) (fun c113_157 => ?_) (fun c113_157 => ?_)
      · refine z_aload_n C 120 dX8_send_120 rfl 2 rfl ?_
        refine z_iload_n C 121 dX8_send_121 rfl 3 rfl ?_
        refine z_iload_n C 122 dX8_send_122 rfl 0 rfl ?_
        refine z_callVi C 123 (As := [.int (zI a), .int (zI zq20)]) (rest := []) (c_X8_bestOf l G (zup (zup Mz21 26 0 21 (zI (zq22 + 1))) 50 0 zq20.toNat (zI zq23)) hwm a zq20 hcr hxe) zcl8 (show 0 < 1 by omega) (zc26 ..) (zW_of 2 C wm_8_185 wc_X8_bestOf wini_8 wi_X8_bestOf wse_X8_bestOf ⟨by decide, by decide, by decide⟩ ⟨by decide, by decide⟩) rfl (Nat.le_of_ble_eq_true rfl) ⟨by decide, by decide⟩ dX8_send_123 rfl (fun zq25 Mz26 hzq25 hPz25 => ?_)
        obtain ⟨rfl, hPz25⟩ := hPz25
        refine z_iconst C 126 dX8_send_126 ?_
        refine z_icmp_ne C 127 135 dX8_send_127 (by decide) hzq25 (by decide) (fun c127_165 => ?_) (fun c127_165 => ?_)
        · have hb4 := c127_165
          refine z_aload_n C 135 dX8_send_135 rfl 2 rfl ?_
          refine z_iload_n C 136 dX8_send_136 rfl 3 rfl ?_
          refine z_iload_n C 137 dX8_send_137 rfl 0 rfl ?_
          refine z_callVi C 138 (As := [.int (zI a), .int (zI zq20)]) (rest := []) (c_X8_goesTo l G (zup (zup Mz21 26 0 21 (zI (zq22 + 1))) 50 0 zq20.toNat (zI zq23)) hwm a zq20 hcr hxe _ rfl (zch_ge (zbp_ex (by rw [hPz25] at 127; exact 127)))) zcl8 (show 0 < 1 by omega) (zc26 ..) (zW_of 2 C wm_8_197 wc_X8_goesTo wini_8 wi_X8_goesTo wse_X8_goesTo ⟨by decide, by decide, by decide⟩ ⟨by decide, by decide⟩) rfl (Nat.le_of_ble_eq_true rfl) ⟨by decide, by decide⟩ dX8_send_138 rfl (fun zq27 Mz28 hzq27 hPz27 => ?_)
          refine z_iret C 141 dX8_send_141 (by decide) (by decide) hzq27 ?_
          refine Or.inr (Or.inr ⟨hcr, hci, _, zthr_1 _ (by decide), ?_⟩)
          refine Or.inr ⟨by rw [show (-1 : Int) = zq7 by omega]; exact hPz7, y9, hy1, Or.inr ⟨?_, zq20, Mz21, ?_, _, rfl, ?_⟩⟩
          · rw [← hy2, zV_ne (by decide)]; omega
          · have h9 := hPz20
            rw [ezq19, hy2] at h9
            rw [zV_ne (by decide)]
            exact h9
          sorry
        refine z_bipush C 130 dX8_send_130 (by decide +kernel) ?_
        refine z_goto C 132 141 dX8_send_132 (by decide) ?_
        refine z_iret C 141 dX8_send_141 (by decide) (by decide) (by decide) ?_
        refine Or.inr (Or.inr ⟨hcr, hci, _, zthr_1 _ (by decide), ?_⟩)
        refine Or.inr ⟨by rw [show (-1 : Int) = zq7 by omega]; exact hPz7, y9, hy1, Or.inr ⟨?_, zq20, Mz21, ?_, _, rfl, ?_⟩⟩
        · rw [← hy2, zV_ne (by decide)]; omega
        · have h9 := hPz20
          rw [ezq19, hy2] at h9
          rw [zV_ne (by decide)]
          exact h9
        sorry
      refine z_iconst C 116 dX8_send_116 ?_
      refine z_goto C 117 141 dX8_send_117 (by decide) ?_
      refine z_iret C 141 dX8_send_141 (by decide) (by decide) (by decide) ?_
      refine Or.inr (Or.inr ⟨hcr, hci, _, zthr_1 _ (by decide), ?_⟩)
      refine Or.inr ⟨by rw [show (-1 : Int) = zq7 by omega]; exact hPz7, y9, hy1, Or.inr ⟨?_, zq20, Mz21, ?_, _, rfl, ?_⟩⟩
      · rw [← hy2, zV_ne (by decide)]; omega
      · have h9 := hPz20
        rw [ezq19, hy2] at h9
        rw [zV_ne (by decide)]
        exact h9
      sorry
    refine z_bipush C 65 dX8_send_65 (by decide +kernel) ?_
    refine z_iret C 67 dX8_send_67 (by decide) (by decide) (by decide) ?_
    refine Or.inr (Or.inr ⟨hcr, hci, _, zthr_1 _ (by decide), Or.inr ⟨by rw [show (-1 : Int) = zq7 by omega]; exact hPz7, y9, hy1, Or.inl ⟨?_, rfl, rfl⟩⟩⟩)
    rw [← hy2, zV_ne (by decide)]; omega
  refine z_iconst C 8 dX8_send_8 ?_
  refine z_goto C 9 24 dX8_send_9 (by decide) ?_
  refine z_putI C 24 zcl8 (show 0 < 1 by omega) (zc26 ..) 0 (by decide) wf_8_99 rfl rfl rfl (Nat.le_of_ble_eq_true rfl) (zc26 ..) dX8_send_24 ?_
  refine z_aload_n C 27 dX8_send_27 rfl 0 rfl ?_
  refine z_getI C 28 zcl8 (show 0 < 1 by omega) (zc26 ..) 0 (by decide) rfl wf_8_99 dX8_send_28 (fun zq29 ezq29 hzq29 => ?_)
  rw [zV_eq (by first | assumption | decide | omega)] at ezq29
  subst ezq29
  refine z_if_le C 31 36 dX8_send_31 (by decide) (by decide) (fun c31_210 => ?_) (fun c31_210 => ?_)
  · exact absurd c31_210 (by decide)
  refine z_iconst C 34 dX8_send_34 ?_
  refine z_iret C 35 dX8_send_35 (by decide) (by decide) (by decide) ?_
  first | exact Or.inl ⟨hPz1.f (by assumption), zthr_1 _ (by decide)⟩ | exact Or.inr (Or.inl ⟨hcr, hPz3.f (by assumption), zthr_1 _ (by decide)⟩)
