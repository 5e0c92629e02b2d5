set_option maxHeartbeats 4000000 in
set_option maxRecDepth 100000 in
theorem c_X8_gets (l : Launch) (G : zG) (M : zMem) (hw : zWM M) (a : Int) (ha : 0 ≤ a ∧ a < 3) (idn : Int) (hid : 0 ≤ idn ∧ idn < 65536) (h16 : ∀ mm : Int, zfnd (znv M) (znl M) (zng M) (znn M) idn mm → ¬ znh M idn 16 mm) (hfr : ∀ (M1 : zMem) (v b : Int), zclr M M1 a v b (8 * a + 8) → zhfr M1 a.toNat)  : Met l yX8_gets [.code yX8_gets cX8_gets 8 (some .int)] (zR 4 0 0) (zPc G M [.ref (zad G 26 0), .int (zI a), .int (zI idn)]) (zQi G (fun x M' => zgot M M' a idn x)) 0 0 (zA G) := by
  refine z_met [(0, .ref (zad G 26 0)), (1, .int (zI a)), (2, .int (zI idn))] (by decide) (Nat.le_of_ble_eq_true rfl) rfl ?_
  intro p e s m below meth c C
  have C : zC p s m ([.ref (zad G 26 0), .int (zI a), .int (zI idn)] : List Value).toArray meth c G RX8 cX8_gets 8 (some .int) := C
  have hw9z := hw
  obtain ⟨w1, w2, w3, w4, w5, w6, w7, w8, w9, w10, w11, w12, w13, w14⟩ := hw9z
  refine z_aload_n C 0 dX8_gets_0 rfl 0 rfl ?_
  refine z_iload_n C 1 dX8_gets_1 rfl 2 rfl ?_
  refine z_callVi C 2 (As := [.int (zI idn)]) (rest := []) (c_X8_mappingFor l G M hw idn hid) zcl8 (show 0 < 1 by omega) (zc26 ..) (zW_of 1 C wm_8_149 wc_X8_mappingFor wini_8 wi_X8_mappingFor wse_X8_mappingFor ⟨by decide, by decide, by decide⟩ ⟨by decide, by decide⟩) rfl (Nat.le_of_ble_eq_true rfl) ⟨by decide, by decide⟩ dX8_gets_2 rfl (fun zq1 Mz2 hzq1 hPz1 => ?_)
  obtain ⟨rfl, hPz1⟩ := hPz1
  have hm2 : -1 ≤ zq1 ∧ zq1 < 24 := by have z1 := zfnd_rg hPz1; have z2 : znn M = zV M 26 0 4 := rfl; omega
  refine z_istore_n (lv' := [(3, .int (zI zq1)), (0, .ref (zad G 26 0)), (1, .int (zI a)), (2, .int (zI idn))]) C 5 dX8_gets_5 rfl (by decide) rfl ?_
  refine z_aload_n C 6 dX8_gets_6 rfl 1 rfl ?_
  refine z_iload_n C 7 dX8_gets_7 rfl 3 rfl ?_
  refine z_iload_n C 8 dX8_gets_8 rfl 0 rfl ?_
  refine z_callVi C 9 (As := [.int (zI idn), .int (zI zq1)]) (rest := []) (c_X8_bitsFor l G M hw idn zq1 hid hm2 (h16 _ hPz1)) zcl8 (show 0 < 1 by omega) (zc26 ..) (zW_of 2 C wm_8_155 wc_X8_bitsFor wini_8 wi_X8_bitsFor wse_X8_bitsFor ⟨by decide, by decide, by decide⟩ ⟨by decide, by decide⟩) rfl (Nat.le_of_ble_eq_true rfl) ⟨by decide, by decide⟩ dX8_gets_9 rfl (fun zq3 Mz4 hzq3 hPz3 => ?_)
  obtain ⟨rfl, hPz3⟩ := hPz3
  have hL2 : 0 ≤ zq3 ∧ zq3 ≤ 16 := ⟨znb_0 hw hm2 hPz3, hPz3.2.1⟩
  refine z_istore (lv' := [(4, .int (zI zq3)), (3, .int (zI zq1)), (0, .ref (zad G 26 0)), (1, .int (zI a)), (2, .int (zI idn))]) C 12 dX8_gets_12 (by decide) rfl ?_
  refine z_iload_n C 14 dX8_gets_14 rfl 4 rfl ?_
  refine z_iload C 15 dX8_gets_15 0 rfl ?_
  refine z_callSi C 17 (As := [.int (zI idn), .int (zI zq3)]) (rest := []) (c_X8_first l G M idn zq3 ⟨hid.1, hid.2, hL2.1, hL2.2⟩) (zS_of 2 C wm_8_111 wc_X8_first wini_8 wst_X8_first ⟨by decide, by decide, by decide⟩ ⟨by decide, by decide⟩) rfl (Nat.le_of_ble_eq_true rfl) ⟨by decide, by decide⟩ dX8_gets_17 rfl (fun zq5 Mz6 hzq5 hPz5 => ?_)
  obtain ⟨rfl, hPz5⟩ := hPz5
  refine z_bipush C 20 dX8_gets_20 (by decide +kernel) ?_
  refine z_iload C 22 dX8_gets_22 0 rfl ?_
  refine z_isub C 24 dX8_gets_24 ?_
  rw [hPz5]
  refine z_ishl C 25 (v := (zfb idn zq3)) dX8_gets_25 (z_shl hid.1 hid.2 hL2.1 hL2.2) ?_
  refine z_istore (lv' := [(5, .int (zI (zfb idn zq3))), (4, .int (zI zq3)), (3, .int (zI zq1)), (0, .ref (zad G 26 0)), (1, .int (zI a)), (2, .int (zI idn))]) C 26 dX8_gets_26 (by decide) rfl ?_
  have hzr := zfb_rg hid.1 hid.2 hL2.1 hL2.2
  have hvp : zpfx (zfb idn zq3) zq3 := ⟨hzr.1, by omega, hL2.1, hL2.2⟩
  refine z_bipush C 28 dX8_gets_28 (by decide +kernel) ?_
  refine z_iload_n C 30 dX8_gets_30 rfl 4 rfl ?_
  refine z_imul C 31 dX8_gets_31 ?_
  refine z_istore (lv' := [(6, .int (zI (8 * a))), (5, .int (zI (zfb idn zq3))), (4, .int (zI zq3)), (3, .int (zI zq1)), (0, .ref (zad G 26 0)), (1, .int (zI a)), (2, .int (zI idn))]) C 32 dX8_gets_32 (by decide) rfl ?_
  have L34_7 : ∀ (kz7 : Nat) (M1 : zMem) (k : Int), (8 * a ≤ k ∧ k ≤ 8 * a + 8) → (zclr M M1 a (zfb idn zq3) zq3 k) → (8 * a + 8 - k) < (kz7 : Int) → zZ p l e (zR 4 0 0) s m ([.ref (zad G 26 0), .int (zI a), .int (zI idn)] : List Value).toArray below meth c G 8 (MQ below (zQi G (fun x M' => zgot M M' a idn x)) ([.ref (zad G 26 0), .int (zI a), .int (zI idn)] : List Value).toArray s 0 0 (zA G)) M1 0 0 34 [(5, .int (zI (zfb idn zq3))), (4, .int (zI zq3)), (3, .int (zI zq1)), (0, .ref (zad G 26 0)), (1, .int (zI a)), (2, .int (zI idn)), (6, .int (zI k))] [] := by
    intro kz7
    induction kz7 with
    | zero =>
      intro M1 k g0 g1 hk
      exact absurd hk (by omega)
    | succ kz7 ihz8 =>
      intro M1 k g0 g1 hk
      have fe : ∀ κ j1 : Nat, κ ≠ 49 → zV M1 κ 0 j1 = zV M κ 0 j1 := fun κ j1 h => zV_of (g1.2 κ 0 j1 (by omega))
      have h49 : zV M1 49 0 k.toNat = zV M 49 0 k.toNat := (g1.1 k.toNat).2 (fun z => by omega)
      have h14 := w14 k.toNat
      refine z_iload C 34 dX8_gets_34 6 rfl ?_
      refine z_bipush C 36 dX8_gets_36 (by decide +kernel) ?_
      refine z_iload_n C 38 dX8_gets_38 rfl 4 rfl ?_
      refine z_imul C 39 dX8_gets_39 ?_
      refine z_bipush C 40 dX8_gets_40 (by decide +kernel) ?_
      refine z_iadd C 42 dX8_gets_42 ?_
      refine z_icmp_ge C 43 98 dX8_gets_43 (by decide) (by first | assumption | omega) (by first | assumption | omega) (fun c43_54 => ?_) (fun c43_54 => ?_)
      · have hcl : zclr M M1 a (zfb idn zq3) zq3 (8 * a + 8) := by rw [show 8 * a + 8 = k by omega]; exact g1
        refine z_aload_n C 98 dX8_gets_98 rfl 3 rfl ?_
        refine z_iload_n C 99 dX8_gets_99 rfl 4 rfl ?_
        refine z_callVi C 100 (As := [.int (zI a)]) (rest := []) (c_X8_frees l G M1 (zWM_clr hw hcl) a ha (hfr _ _ _ hcl)) zcl8 (show 0 < 1 by omega) (zc26 ..) (zW_of 1 C wm_8_182 wc_X8_frees wini_8 wi_X8_frees wse_X8_frees ⟨by decide, by decide, by decide⟩ ⟨by decide, by decide⟩) rfl (Nat.le_of_ble_eq_true rfl) ⟨by decide, by decide⟩ dX8_gets_100 rfl (fun zq9 Mz10 hzq9 hPz9 => ?_)
        have hwf := zWM_fr1 (zWM_clr hw hcl) hPz9.1
        have fe2 : ∀ κ j1 : Nat, κ ≠ 49 → zV Mz10 κ 0 j1 = zV M κ 0 j1 := fun κ j1 h => by rcases hPz9.1 with ⟨-, j5, -, -, h5⟩ | ⟨-, h5⟩; rw [h5, zV_ne h]; exact zV_of (hcl.2 κ 0 j1 (by omega)); rw [h5]; exact zV_of (hcl.2 κ 0 j1 (by omega))
        refine z_istore (lv' := [(6, .int (zI zq9)), (5, .int (zI (zfb idn zq3))), (4, .int (zI zq3)), (3, .int (zI zq1)), (0, .ref (zad G 26 0)), (1, .int (zI a)), (2, .int (zI idn))]) C 103 dX8_gets_103 (by decide) rfl ?_
        refine z_aload_n C 105 dX8_gets_105 rfl 4 rfl ?_
        refine z_get C 106 zcl8 (show 0 < 1 by omega) (zc26 ..) 19 (by decide) rfl wf_8_57 dX8_gets_106 ?_
        refine z_iload C 109 dX8_gets_109 0 rfl ?_
        refine z_iconst C 111 dX8_gets_111 ?_
        refine z_zast C 112 (show 0 < 1 by omega) (zc49 ..) hzq9 (by omega) (show zq9 < ((24 : Nat) : Int) by omega) (by first | assumption | omega) (zc49 ..) dX8_gets_112 ?_
        refine z_aload_n C 113 dX8_gets_113 rfl 4 rfl ?_
        refine z_get C 114 zcl8 (show 0 < 1 by omega) (zc26 ..) 22 (by decide) rfl wf_8_63 dX8_gets_114 ?_
        refine z_iload C 117 dX8_gets_117 0 rfl ?_
        refine z_iload C 119 dX8_gets_119 1 rfl ?_
        refine z_iast C 121 (show 0 < 1 by omega) (zc52 ..) hzq9 (by omega) (show zq9 < ((24 : Nat) : Int) by omega) (zc52 ..) dX8_gets_121 ?_
        refine z_aload_n C 122 dX8_gets_122 rfl 4 rfl ?_
        refine z_get C 123 zcl8 (show 0 < 1 by omega) (zc26 ..) 23 (by decide) rfl wf_8_66 dX8_gets_123 ?_
        refine z_iload C 126 dX8_gets_126 0 rfl ?_
        refine z_iload C 128 dX8_gets_128 2 rfl ?_
        refine z_iast C 130 (show 0 < 1 by omega) (zc53 ..) hzq9 (by omega) (show zq9 < ((24 : Nat) : Int) by omega) (zc53 ..) dX8_gets_130 ?_
        refine z_aload_n C 131 dX8_gets_131 rfl 4 rfl ?_
        refine z_get C 132 zcl8 (show 0 < 1 by omega) (zc26 ..) 24 (by decide) rfl wf_8_69 dX8_gets_132 ?_
        refine z_iload C 135 dX8_gets_135 0 rfl ?_
        refine z_iload_n C 137 dX8_gets_137 rfl 3 rfl ?_
        refine z_iast C 138 (show 0 < 1 by omega) (zc54 ..) hzq9 (by omega) (show zq9 < ((24 : Nat) : Int) by omega) (zc54 ..) dX8_gets_138 ?_
        refine z_aload_n C 139 dX8_gets_139 rfl 4 rfl ?_
        refine z_get C 140 zcl8 (show 0 < 1 by omega) (zc26 ..) 25 (by decide) rfl wf_8_72 dX8_gets_140 ?_
        refine z_iload C 143 dX8_gets_143 0 rfl ?_
        refine z_iload_n C 145 dX8_gets_145 rfl 3 rfl ?_
        refine z_iconst C 146 dX8_gets_146 ?_
        refine z_icmp_ne C 147 154 dX8_gets_147 (by decide) hzq1 (by decide) (fun c147_88 => ?_) (fun c147_88 => ?_)
        · refine z_aload_n C 154 dX8_gets_154 rfl 4 rfl ?_
          refine z_get C 155 zcl8 (show 0 < 1 by omega) (zc26 ..) 8 (by decide) rfl wf_8_27 dX8_gets_155 ?_
          refine z_iload_n C 158 dX8_gets_158 rfl 3 rfl ?_
          refine z_iald C 159 (show 0 < 1 by omega) (zc38 ..) hzq1 (by omega) (show zq1 < ((24 : Nat) : Int) by omega) dX8_gets_159 (fun zq11 ezq11 hzq11 => ?_)
          rw [zV_ne (by decide)] at ezq11
          rw [zV_ne (by decide)] at ezq11
          rw [zV_ne (by decide)] at ezq11
          rw [zV_ne (by decide)] at ezq11
          refine z_iast C 160 (show 0 < 1 by omega) (zc55 ..) hzq9 (by omega) (show zq9 < ((24 : Nat) : Int) by omega) (zc55 ..) dX8_gets_160 ?_
          refine z_aload_n C 161 dX8_gets_161 rfl 4 rfl ?_
          refine z_get C 162 zcl8 (show 0 < 1 by omega) (zc26 ..) 26 (by decide) rfl wf_8_75 dX8_gets_162 ?_
          refine z_iload C 165 dX8_gets_165 0 rfl ?_
          refine z_aload_n C 167 dX8_gets_167 rfl 4 rfl ?_
          refine z_getI C 168 zcl8 (show 0 < 1 by omega) (zc26 ..) 1 (by decide) rfl wf_8_173 dX8_gets_168 (fun zq12 ezq12 hzq12 => ?_)
          rw [zV_ne (by decide)] at ezq12
          rw [zV_ne (by decide)] at ezq12
          rw [zV_ne (by decide)] at ezq12
          rw [zV_ne (by decide)] at ezq12
          rw [zV_ne (by decide)] at ezq12
          refine z_iload_n C 171 dX8_gets_171 rfl 3 rfl ?_
          refine z_iconst C 172 dX8_gets_172 ?_
          refine z_icmp_ne C 173 183 dX8_gets_173 (by decide) hzq1 (by decide) (fun c173_111 => ?_) (fun c173_111 => ?_)
          rotate_left
          · (exfalso; omega)
          refine z_aload_n C 183 dX8_gets_183 rfl 4 rfl ?_
          refine z_getI C 184 zcl8 (show 0 < 1 by omega) (zc26 ..) 2 (by decide) rfl wf_8_7 dX8_gets_184 (fun zq13 ezq13 hzq13 => ?_)
          rw [zV_ne (by decide)] at ezq13
          rw [zV_ne (by decide)] at ezq13
          rw [zV_ne (by decide)] at ezq13
          rw [zV_ne (by decide)] at ezq13
          rw [zV_ne (by decide)] at ezq13
          refine z_iadd C 187 dX8_gets_187 ?_
          refine z_iast C 188 (show 0 < 1 by omega) (zc56 ..) hzq9 (by omega) (show zq9 < ((24 : Nat) : Int) by omega) (zc56 ..) dX8_gets_188 ?_
          refine z_aload_n C 189 dX8_gets_189 rfl 4 rfl ?_
          refine z_get C 190 zcl8 (show 0 < 1 by omega) (zc26 ..) 27 (by decide) rfl wf_8_78 dX8_gets_190 ?_
          refine z_iload C 193 dX8_gets_193 0 rfl ?_
          refine z_iconst C 195 dX8_gets_195 ?_
          refine z_zast C 196 (show 0 < 1 by omega) (zc57 ..) hzq9 (by omega) (show zq9 < ((24 : Nat) : Int) by omega) (by first | assumption | omega) (zc57 ..) dX8_gets_196 ?_
          refine z_aload_n C 197 dX8_gets_197 rfl 4 rfl ?_
          refine z_get C 198 zcl8 (show 0 < 1 by omega) (zc26 ..) 28 (by decide) rfl wf_8_81 dX8_gets_198 ?_
          refine z_iload C 201 dX8_gets_201 0 rfl ?_
          refine z_iload_n C 203 dX8_gets_203 rfl 3 rfl ?_
          refine z_iconst C 204 dX8_gets_204 ?_
          refine z_icmp_ne C 205 212 dX8_gets_205 (by decide) hzq1 (by decide) (fun c205_133 => ?_) (fun c205_133 => ?_)
          rotate_left
          · (exfalso; omega)
          refine z_aload_n C 212 dX8_gets_212 rfl 4 rfl ?_
          refine z_get C 213 zcl8 (show 0 < 1 by omega) (zc26 ..) 9 (by decide) rfl wf_8_30 dX8_gets_213 ?_
          refine z_iload_n C 216 dX8_gets_216 rfl 3 rfl ?_
          refine z_iald C 217 (show 0 < 1 by omega) (zc39 ..) hzq1 (by omega) (show zq1 < ((24 : Nat) : Int) by omega) dX8_gets_217 (fun zq14 ezq14 hzq14 => ?_)
          rw [zV_ne (by decide)] at ezq14
          rw [zV_ne (by decide)] at ezq14
          rw [zV_ne (by decide)] at ezq14
          rw [zV_ne (by decide)] at ezq14
          rw [zV_ne (by decide)] at ezq14
          rw [zV_ne (by decide)] at ezq14
          rw [zV_ne (by decide)] at ezq14
          refine z_iast C 218 (show 0 < 1 by omega) (zc58 ..) hzq9 (by omega) (show zq9 < ((24 : Nat) : Int) by omega) (zc58 ..) dX8_gets_218 ?_
          have hmn := w3 (zq1).toNat (by omega)
          have hmn2 : 0 ≤ zq14 ∧ zq14 ≤ 4 := by rw [ezq14, fe2 39 _ (by decide)]; exact hmn
          refine z_iconst C 219 dX8_gets_219 ?_
          refine z_istore (lv' := [(7, .int (zI 0)), (6, .int (zI zq9)), (5, .int (zI (zfb idn zq3))), (4, .int (zI zq3)), (3, .int (zI zq1)), (0, .ref (zad G 26 0)), (1, .int (zI a)), (2, .int (zI idn))]) C 220 dX8_gets_220 (by decide) rfl ?_
          have L222_15 : ∀ (kz15 : Nat) (M3 : zMem) (k : Int), (0 ≤ k ∧ k ≤ zq14) → (zgcp (zup (zup (zup (zup (zup (zup (zup (zup Mz10 49 0 zq9.toNat (zI 1)) 52 0 zq9.toNat (zI (zfb idn zq3))) 53 0 zq9.toNat (zI zq3)) 54 0 zq9.toNat (zI zq1)) 55 0 zq9.toNat (zI zq11)) 56 0 zq9.toNat (zI (zq12 + zq13))) 57 0 zq9.toNat (zI 0)) 58 0 zq9.toNat (zI zq14)) M3 zq9 zq1 k) → (zq14 - k) < (kz15 : Int) → zZ p l e (zR 4 0 0) s m ([.ref (zad G 26 0), .int (zI a), .int (zI idn)] : List Value).toArray below meth c G 8 (MQ below (zQi G (fun x M' => zgot M M' a idn x)) ([.ref (zad G 26 0), .int (zI a), .int (zI idn)] : List Value).toArray s 0 0 (zA G)) M3 0 0 222 [(6, .int (zI zq9)), (5, .int (zI (zfb idn zq3))), (4, .int (zI zq3)), (3, .int (zI zq1)), (0, .ref (zad G 26 0)), (1, .int (zI a)), (2, .int (zI idn)), (7, .int (zI k))] [] := by
            intro kz15
            induction kz15 with
            | zero =>
              intro M3 k f0 f1 hk
              exact absurd hk (by omega)
            | succ kz15 ihz16 =>
              intro M3 k f0 f1 hk
              have h58 : zV M3 58 0 (zq9).toNat = zq14 := by rw [zV_of (f1.2 58 0 _ (by omega)), zV_eq (by first | assumption | decide)]
              refine z_iload C 222 dX8_gets_222 7 rfl ?_
              refine z_aload_n C 224 dX8_gets_224 rfl 4 rfl ?_
              refine z_get C 225 zcl8 (show 0 < 1 by omega) (zc26 ..) 28 (by decide) rfl wf_8_81 dX8_gets_225 ?_
              refine z_iload C 228 dX8_gets_228 0 rfl ?_
              refine z_iald C 230 (show 0 < 1 by omega) (zc58 ..) hzq9 (by omega) (show zq9 < ((24 : Nat) : Int) by omega) dX8_gets_230 (fun zq17 ezq17 hzq17 => ?_)
              refine z_icmp_ge C 231 322 dX8_gets_231 (by decide) (by first | assumption | omega) hzq17 (fun c231_166 => ?_) (fun c231_166 => ?_)
              · refine z_iload C 322 dX8_gets_322 0 rfl ?_
                refine z_iret C 324 dX8_gets_324 (by decide) (by decide) hzq9 ?_
                refine ⟨zq1, zq3, M1, Mz10, hPz1, hPz3, hcl, hPz9.1, hPz9.2.1, hPz9.2.2, ?_⟩
                have hb1 : ¬ zq1 = -1 := by omega
                rw [if_neg hb1, if_neg hb1, if_neg hb1]
                have hk0 : k = zq14 := by omega
                rw [hk0, ezq11, ezq12, ezq13, ezq14, fe2 26 1 (by decide), fe2 26 2 (by decide), fe2 38 _ (by decide), fe2 39 _ (by decide)] at f1
                unfold zgset
                exact f1
              refine z_aload_n C 234 dX8_gets_234 rfl 4 rfl ?_
              refine z_get C 235 zcl8 (show 0 < 1 by omega) (zc26 ..) 29 (by decide) rfl wf_8_84 dX8_gets_235 ?_
              refine z_iconst C 238 dX8_gets_238 ?_
              refine z_iload C 239 dX8_gets_239 0 rfl ?_
              refine z_imul C 241 dX8_gets_241 ?_
              refine z_iload C 242 dX8_gets_242 7 rfl ?_
              refine z_iadd C 244 dX8_gets_244 ?_
              refine z_aload_n C 245 dX8_gets_245 rfl 4 rfl ?_
              refine z_get C 246 zcl8 (show 0 < 1 by omega) (zc26 ..) 10 (by decide) rfl wf_8_33 dX8_gets_246 ?_
              refine z_iconst C 249 dX8_gets_249 ?_
              refine z_iload_n C 250 dX8_gets_250 rfl 3 rfl ?_
              refine z_imul C 251 dX8_gets_251 ?_
              refine z_iload C 252 dX8_gets_252 7 rfl ?_
              refine z_iadd C 254 dX8_gets_254 ?_
              refine z_iald C 255 (show 0 < 1 by omega) (zc40 ..) (by first | assumption | omega) (by omega) (show ((4 * zq1) + k) < ((96 : Nat) : Int) by omega) dX8_gets_255 (fun zq18 ezq18 hzq18 => ?_)
              refine z_iast C 256 (show 0 < 1 by omega) (zc59 ..) (by first | assumption | omega) (by omega) (show ((4 * zq9) + k) < ((96 : Nat) : Int) by omega) (zc59 ..) dX8_gets_256 ?_
              refine z_aload_n C 257 dX8_gets_257 rfl 4 rfl ?_
              refine z_get C 258 zcl8 (show 0 < 1 by omega) (zc26 ..) 30 (by decide) rfl wf_8_87 dX8_gets_258 ?_
              refine z_iconst C 261 dX8_gets_261 ?_
              refine z_iload C 262 dX8_gets_262 0 rfl ?_
              refine z_imul C 264 dX8_gets_264 ?_
              refine z_iload C 265 dX8_gets_265 7 rfl ?_
              refine z_iadd C 267 dX8_gets_267 ?_
              refine z_aload_n C 268 dX8_gets_268 rfl 4 rfl ?_
              refine z_get C 269 zcl8 (show 0 < 1 by omega) (zc26 ..) 11 (by decide) rfl wf_8_36 dX8_gets_269 ?_
              refine z_iconst C 272 dX8_gets_272 ?_
              refine z_iload_n C 273 dX8_gets_273 rfl 3 rfl ?_
              refine z_imul C 274 dX8_gets_274 ?_
              refine z_iload C 275 dX8_gets_275 7 rfl ?_
              refine z_iadd C 277 dX8_gets_277 ?_
              refine z_iald C 278 (show 0 < 1 by omega) (zc41 ..) (by first | assumption | omega) (by omega) (show ((4 * zq1) + k) < ((96 : Nat) : Int) by omega) dX8_gets_278 (fun zq19 ezq19 hzq19 => ?_)
              rw [zV_ne (by decide)] at ezq19
              refine z_iast C 279 (show 0 < 1 by omega) (zc60 ..) (by first | assumption | omega) (by omega) (show ((4 * zq9) + k) < ((96 : Nat) : Int) by omega) (zc60 ..) dX8_gets_279 ?_
              refine z_aload_n C 280 dX8_gets_280 rfl 4 rfl ?_
              refine z_get C 281 zcl8 (show 0 < 1 by omega) (zc26 ..) 31 (by decide) rfl wf_8_90 dX8_gets_281 ?_
              refine z_iconst C 284 dX8_gets_284 ?_
              refine z_iload C 285 dX8_gets_285 0 rfl ?_
              refine z_imul C 287 dX8_gets_287 ?_
              refine z_iload C 288 dX8_gets_288 7 rfl ?_
              refine z_iadd C 290 dX8_gets_290 ?_
              refine z_aload_n C 291 dX8_gets_291 rfl 4 rfl ?_
              refine z_get C 292 zcl8 (show 0 < 1 by omega) (zc26 ..) 12 (by decide) rfl wf_8_39 dX8_gets_292 ?_
              refine z_iconst C 295 dX8_gets_295 ?_
              refine z_iload_n C 296 dX8_gets_296 rfl 3 rfl ?_
              refine z_imul C 297 dX8_gets_297 ?_
              refine z_iload C 298 dX8_gets_298 7 rfl ?_
              refine z_iadd C 300 dX8_gets_300 ?_
              refine z_iald C 301 (show 0 < 1 by omega) (zc42 ..) (by first | assumption | omega) (by omega) (show ((4 * zq1) + k) < ((96 : Nat) : Int) by omega) dX8_gets_301 (fun zq20 ezq20 hzq20 => ?_)
              rw [zV_ne (by decide)] at ezq20
              rw [zV_ne (by decide)] at ezq20
              refine z_iast C 302 (show 0 < 1 by omega) (zc61 ..) (by first | assumption | omega) (by omega) (show ((4 * zq9) + k) < ((96 : Nat) : Int) by omega) (zc61 ..) dX8_gets_302 ?_
              refine z_aload_n C 303 dX8_gets_303 rfl 4 rfl ?_
              refine z_get C 304 zcl8 (show 0 < 1 by omega) (zc26 ..) 32 (by decide) rfl wf_8_93 dX8_gets_304 ?_
              refine z_iconst C 307 dX8_gets_307 ?_
              refine z_iload C 308 dX8_gets_308 0 rfl ?_
              refine z_imul C 310 dX8_gets_310 ?_
              refine z_iload C 311 dX8_gets_311 7 rfl ?_
              refine z_iadd C 313 dX8_gets_313 ?_
              refine z_iconst C 314 dX8_gets_314 ?_
              refine z_iast C 315 (show 0 < 1 by omega) (zc62 ..) (by first | assumption | omega) (by omega) (show ((4 * zq9) + k) < ((96 : Nat) : Int) by omega) (zc62 ..) dX8_gets_315 ?_
              refine z_iinc (lv' := [(7, .int (zI (k + 1))), (6, .int (zI zq9)), (5, .int (zI (zfb idn zq3))), (4, .int (zI zq3)), (3, .int (zI zq1)), (0, .ref (zad G 26 0)), (1, .int (zI a)), (2, .int (zI idn))]) C 316 dX8_gets_316 7 rfl (by decide) rfl ?_
              refine z_goto C 319 222 dX8_gets_319 (by decide) ?_
              refine z_sub (lv' := [(6, .int (zI zq9)), (5, .int (zI (zfb idn zq3))), (4, .int (zI zq3)), (3, .int (zI zq1)), (0, .ref (zad G 26 0)), (1, .int (zI a)), (2, .int (zI idn)), (7, .int (zI (k + 1)))]) [1, 2, 3, 4, 5, 6, 7, 0] rfl ?_
              exact ihz16 (zup (zup (zup (zup M3 59 0 ((4 * zq9) + k).toNat (zI zq18)) 60 0 ((4 * zq9) + k).toNat (zI zq19)) 61 0 ((4 * zq9) + k).toNat (zI zq20)) 62 0 ((4 * zq9) + k).toNat (zI 0)) (k + 1) (by omega) (by exact zgcp_1 (by omega) (by omega) f1 ezq18 hzq18 ezq19 hzq19 ezq20 hzq20) (by omega)
          refine z_sub (lv' := [(6, .int (zI zq9)), (5, .int (zI (zfb idn zq3))), (4, .int (zI zq3)), (3, .int (zI zq1)), (0, .ref (zad G 26 0)), (1, .int (zI a)), (2, .int (zI idn)), (7, .int (zI 0))]) [1, 2, 3, 4, 5, 6, 7, 0] rfl ?_
          exact L222_15 (((zq14 - 0 : Int)).toNat + 1) (zup (zup (zup (zup (zup (zup (zup (zup Mz10 49 0 zq9.toNat (zI 1)) 52 0 zq9.toNat (zI (zfb idn zq3))) 53 0 zq9.toNat (zI zq3)) 54 0 zq9.toNat (zI zq1)) 55 0 zq9.toNat (zI zq11)) 56 0 zq9.toNat (zI (zq12 + zq13))) 57 0 zq9.toNat (zI 0)) 58 0 zq9.toNat (zI zq14)) 0 (by omega) (by exact zgcp_0 _ _ _) (by omega)
        refine z_iconst C 150 dX8_gets_150 ?_
        refine z_goto C 151 160 dX8_gets_151 (by decide) ?_
        refine z_iast C 160 (show 0 < 1 by omega) (zc55 ..) hzq9 (by omega) (show zq9 < ((24 : Nat) : Int) by omega) (zc55 ..) dX8_gets_160 ?_
        refine z_aload_n C 161 dX8_gets_161 rfl 4 rfl ?_
        refine z_get C 162 zcl8 (show 0 < 1 by omega) (zc26 ..) 26 (by decide) rfl wf_8_75 dX8_gets_162 ?_
        refine z_iload C 165 dX8_gets_165 0 rfl ?_
        refine z_aload_n C 167 dX8_gets_167 rfl 4 rfl ?_
        refine z_getI C 168 zcl8 (show 0 < 1 by omega) (zc26 ..) 1 (by decide) rfl wf_8_173 dX8_gets_168 (fun zq21 ezq21 hzq21 => ?_)
        rw [zV_ne (by decide)] at ezq21
        rw [zV_ne (by decide)] at ezq21
        rw [zV_ne (by decide)] at ezq21
        rw [zV_ne (by decide)] at ezq21
        rw [zV_ne (by decide)] at ezq21
        refine z_iload_n C 171 dX8_gets_171 rfl 3 rfl ?_
        refine z_iconst C 172 dX8_gets_172 ?_
        refine z_icmp_ne C 173 183 dX8_gets_173 (by decide) hzq1 (by decide) (fun c173_256 => ?_) (fun c173_256 => ?_)
        · (exfalso; omega)
        refine z_aload_n C 176 dX8_gets_176 rfl 4 rfl ?_
        refine z_getI C 177 zcl8 (show 0 < 1 by omega) (zc26 ..) 3 (by decide) rfl wf_8_13 dX8_gets_177 (fun zq22 ezq22 hzq22 => ?_)
        rw [zV_ne (by decide)] at ezq22
        rw [zV_ne (by decide)] at ezq22
        rw [zV_ne (by decide)] at ezq22
        rw [zV_ne (by decide)] at ezq22
        rw [zV_ne (by decide)] at ezq22
        refine z_goto C 180 187 dX8_gets_180 (by decide) ?_
        refine z_iadd C 187 dX8_gets_187 ?_
        refine z_iast C 188 (show 0 < 1 by omega) (zc56 ..) hzq9 (by omega) (show zq9 < ((24 : Nat) : Int) by omega) (zc56 ..) dX8_gets_188 ?_
        refine z_aload_n C 189 dX8_gets_189 rfl 4 rfl ?_
        refine z_get C 190 zcl8 (show 0 < 1 by omega) (zc26 ..) 27 (by decide) rfl wf_8_78 dX8_gets_190 ?_
        refine z_iload C 193 dX8_gets_193 0 rfl ?_
        refine z_iconst C 195 dX8_gets_195 ?_
        refine z_zast C 196 (show 0 < 1 by omega) (zc57 ..) hzq9 (by omega) (show zq9 < ((24 : Nat) : Int) by omega) (by first | assumption | omega) (zc57 ..) dX8_gets_196 ?_
        refine z_aload_n C 197 dX8_gets_197 rfl 4 rfl ?_
        refine z_get C 198 zcl8 (show 0 < 1 by omega) (zc26 ..) 28 (by decide) rfl wf_8_81 dX8_gets_198 ?_
        refine z_iload C 201 dX8_gets_201 0 rfl ?_
        refine z_iload_n C 203 dX8_gets_203 rfl 3 rfl ?_
        refine z_iconst C 204 dX8_gets_204 ?_
        refine z_icmp_ne C 205 212 dX8_gets_205 (by decide) hzq1 (by decide) (fun c205_278 => ?_) (fun c205_278 => ?_)
        · (exfalso; omega)
        refine z_iconst C 208 dX8_gets_208 ?_
        refine z_goto C 209 218 dX8_gets_209 (by decide) ?_
        refine z_iast C 218 (show 0 < 1 by omega) (zc58 ..) hzq9 (by omega) (show zq9 < ((24 : Nat) : Int) by omega) (zc58 ..) dX8_gets_218 ?_
        refine z_iconst C 219 dX8_gets_219 ?_
        refine z_istore (lv' := [(7, .int (zI 0)), (6, .int (zI zq9)), (5, .int (zI (zfb idn zq3))), (4, .int (zI zq3)), (3, .int (zI zq1)), (0, .ref (zad G 26 0)), (1, .int (zI a)), (2, .int (zI idn))]) C 220 dX8_gets_220 (by decide) rfl ?_
        have L222_23 : ∀ (kz23 : Nat) (M3 : zMem) (k : Int), (0 ≤ k ∧ k ≤ 0) → (zgcp (zup (zup (zup (zup (zup (zup (zup (zup Mz10 49 0 zq9.toNat (zI 1)) 52 0 zq9.toNat (zI (zfb idn zq3))) 53 0 zq9.toNat (zI zq3)) 54 0 zq9.toNat (zI zq1)) 55 0 zq9.toNat (zI 0)) 56 0 zq9.toNat (zI (zq21 + zq22))) 57 0 zq9.toNat (zI 0)) 58 0 zq9.toNat (zI 0)) M3 zq9 zq1 k) → (0 - k) < (kz23 : Int) → zZ p l e (zR 4 0 0) s m ([.ref (zad G 26 0), .int (zI a), .int (zI idn)] : List Value).toArray below meth c G 8 (MQ below (zQi G (fun x M' => zgot M M' a idn x)) ([.ref (zad G 26 0), .int (zI a), .int (zI idn)] : List Value).toArray s 0 0 (zA G)) M3 0 0 222 [(6, .int (zI zq9)), (5, .int (zI (zfb idn zq3))), (4, .int (zI zq3)), (3, .int (zI zq1)), (0, .ref (zad G 26 0)), (1, .int (zI a)), (2, .int (zI idn)), (7, .int (zI k))] [] := by
          intro kz23
          induction kz23 with
          | zero =>
            intro M3 k f0 f1 hk
            exact absurd hk (by omega)
          | succ kz23 ihz24 =>
            intro M3 k f0 f1 hk
            have h58 : zV M3 58 0 (zq9).toNat = 0 := by rw [zV_of (f1.2 58 0 _ (by omega)), zV_eq (by first | assumption | decide)]
            refine z_iload C 222 dX8_gets_222 7 rfl ?_
            refine z_aload_n C 224 dX8_gets_224 rfl 4 rfl ?_
            refine z_get C 225 zcl8 (show 0 < 1 by omega) (zc26 ..) 28 (by decide) rfl wf_8_81 dX8_gets_225 ?_
            refine z_iload C 228 dX8_gets_228 0 rfl ?_
            refine z_iald C 230 (show 0 < 1 by omega) (zc58 ..) hzq9 (by omega) (show zq9 < ((24 : Nat) : Int) by omega) dX8_gets_230 (fun zq25 ezq25 hzq25 => ?_)
            refine z_icmp_ge C 231 322 dX8_gets_231 (by decide) (by first | assumption | omega) hzq25 (fun c231_299 => ?_) (fun c231_299 => ?_)
            rotate_left
            · (exfalso; omega)
            refine z_iload C 322 dX8_gets_322 0 rfl ?_
            refine z_iret C 324 dX8_gets_324 (by decide) (by decide) hzq9 ?_
            refine ⟨zq1, zq3, M1, Mz10, hPz1, hPz3, hcl, hPz9.1, hPz9.2.1, hPz9.2.2, ?_⟩
            have hb1 : zq1 = -1 := by omega
            rw [if_pos hb1, if_pos hb1, if_pos hb1]
            have hk0 : k = 0 := by omega
            rw [hk0] at f1
            unfold zgset
            rw [ezq21, ezq22, fe2 26 1 (by decide), fe2 26 3 (by decide)] at f1
            exact f1
        refine z_sub (lv' := [(6, .int (zI zq9)), (5, .int (zI (zfb idn zq3))), (4, .int (zI zq3)), (3, .int (zI zq1)), (0, .ref (zad G 26 0)), (1, .int (zI a)), (2, .int (zI idn)), (7, .int (zI 0))]) [1, 2, 3, 4, 5, 6, 7, 0] rfl ?_
        exact L222_23 (((0 - 0 : Int)).toNat + 1) (zup (zup (zup (zup (zup (zup (zup (zup Mz10 49 0 zq9.toNat (zI 1)) 52 0 zq9.toNat (zI (zfb idn zq3))) 53 0 zq9.toNat (zI zq3)) 54 0 zq9.toNat (zI zq1)) 55 0 zq9.toNat (zI 0)) 56 0 zq9.toNat (zI (zq21 + zq22))) 57 0 zq9.toNat (zI 0)) 58 0 zq9.toNat (zI 0)) 0 (by omega) (by exact zgcp_0 _ _ _) (by omega)
      refine z_aload_n C 46 dX8_gets_46 rfl 3 rfl ?_
      refine z_get C 47 zcl8 (show 0 < 1 by omega) (zc26 ..) 19 (by decide) rfl wf_8_57 dX8_gets_47 ?_
      refine z_iload C 50 dX8_gets_50 6 rfl ?_
      refine z_aload_n C 52 dX8_gets_52 rfl 3 rfl ?_
      refine z_get C 53 zcl8 (show 0 < 1 by omega) (zc26 ..) 19 (by decide) rfl wf_8_57 dX8_gets_53 ?_
      refine z_iload C 56 dX8_gets_56 6 rfl ?_
      refine z_zald C 58 (show 0 < 1 by omega) (zc49 ..) (by first | assumption | omega) (by omega) (show k < ((24 : Nat) : Int) by omega) dX8_gets_58 (fun zq26 ezq26 hzq26 => ?_)
      refine z_if_eq C 59 90 dX8_gets_59 (by decide) hzq26 (fun c59_320 => ?_) (fun c59_320 => ?_)
      · have hm9 : zmeet (zV M 52 0 k.toNat) (zV M 53 0 k.toNat) (zfb idn zq3) zq3 → (0 : Int) = 0 := fun _ => rfl
        have hn9 : ¬ zmeet (zV M 52 0 k.toNat) (zV M 53 0 k.toNat) (zfb idn zq3) zq3 → (0 : Int) = zV M 49 0 k.toNat := fun _ => by omega
        refine z_iconst C 90 dX8_gets_90 ?_
        refine z_zast C 91 (show 0 < 1 by omega) (zc49 ..) (by first | assumption | omega) (by omega) (show k < ((24 : Nat) : Int) by omega) (by first | assumption | omega) (zc49 ..) dX8_gets_91 ?_
        refine z_iinc (lv' := [(6, .int (zI (k + 1))), (5, .int (zI (zfb idn zq3))), (4, .int (zI zq3)), (3, .int (zI zq1)), (0, .ref (zad G 26 0)), (1, .int (zI a)), (2, .int (zI idn))]) C 92 dX8_gets_92 6 rfl (by decide) rfl ?_
        refine z_goto C 95 34 dX8_gets_95 (by decide) ?_
        refine z_sub (lv' := [(5, .int (zI (zfb idn zq3))), (4, .int (zI zq3)), (3, .int (zI zq1)), (0, .ref (zad G 26 0)), (1, .int (zI a)), (2, .int (zI idn)), (6, .int (zI (k + 1)))]) [1, 2, 3, 4, 5, 6, 0] rfl ?_
        exact ihz8 (zup M1 49 0 k.toNat (zI 0)) (k + 1) (by omega) (by exact zclr_1 (by omega) (by omega) g1 (by decide) hm9 hn9) (by omega)
      refine z_aload_n C 62 dX8_gets_62 rfl 3 rfl ?_
      refine z_get C 63 zcl8 (show 0 < 1 by omega) (zc26 ..) 22 (by decide) rfl wf_8_63 dX8_gets_63 ?_
      refine z_iload C 66 dX8_gets_66 6 rfl ?_
      refine z_iald C 68 (show 0 < 1 by omega) (zc52 ..) (by first | assumption | omega) (by omega) (show k < ((24 : Nat) : Int) by omega) dX8_gets_68 (fun zq27 ezq27 hzq27 => ?_)
      refine z_aload_n C 69 dX8_gets_69 rfl 3 rfl ?_
      refine z_get C 70 zcl8 (show 0 < 1 by omega) (zc26 ..) 23 (by decide) rfl wf_8_66 dX8_gets_70 ?_
      refine z_iload C 73 dX8_gets_73 6 rfl ?_
      refine z_iald C 75 (show 0 < 1 by omega) (zc53 ..) (by first | assumption | omega) (by omega) (show k < ((24 : Nat) : Int) by omega) dX8_gets_75 (fun zq28 ezq28 hzq28 => ?_)
      refine z_iload C 76 dX8_gets_76 0 rfl ?_
      refine z_iload C 78 dX8_gets_78 1 rfl ?_
      refine z_callSi C 80 (As := [.int (zI zq27), .int (zI zq28), .int (zI (zfb idn zq3)), .int (zI zq3)]) (rest := [.int (zI k), .ref (zad G 49 0)]) (c_X8_meet l G M1 zq27 zq28 (zfb idn zq3) zq3 (by rw [ezq27, ezq28, fe 52 _ (by decide), fe 53 _ (by decide)]; exact w7 _ (by omega)) hvp) (zS_of 4 C wm_8_118 wc_X8_meet wini_8 wst_X8_meet ⟨by decide, by decide, by decide⟩ ⟨by decide, by decide⟩) rfl (Nat.le_of_ble_eq_true rfl) ⟨by decide, by decide⟩ dX8_gets_80 rfl (fun zq29 Mz30 hzq29 hPz29 => ?_)
      obtain ⟨rfl, hPz29⟩ := hPz29
      refine z_if_ne C 83 90 dX8_gets_83 (by decide) hzq29 (fun c83_341 => ?_) (fun c83_341 => ?_)
      · have hm9 : zmeet (zV M 52 0 k.toNat) (zV M 53 0 k.toNat) (zfb idn zq3) zq3 → (0 : Int) = 0 := fun _ => rfl
        have hn9 : ¬ zmeet (zV M 52 0 k.toNat) (zV M 53 0 k.toNat) (zfb idn zq3) zq3 → (0 : Int) = zV M 49 0 k.toNat := fun z => (z (by have z1 := hPz29.t c83_341; rw [ezq27, ezq28, fe 52 _ (by decide), fe 53 _ (by decide)] at z1; exact z1)).elim
        refine z_iconst C 90 dX8_gets_90 ?_
        refine z_zast C 91 (show 0 < 1 by omega) (zc49 ..) (by first | assumption | omega) (by omega) (show k < ((24 : Nat) : Int) by omega) (by first | assumption | omega) (zc49 ..) dX8_gets_91 ?_
        refine z_iinc (lv' := [(6, .int (zI (k + 1))), (5, .int (zI (zfb idn zq3))), (4, .int (zI zq3)), (3, .int (zI zq1)), (0, .ref (zad G 26 0)), (1, .int (zI a)), (2, .int (zI idn))]) C 92 dX8_gets_92 6 rfl (by decide) rfl ?_
        refine z_goto C 95 34 dX8_gets_95 (by decide) ?_
        refine z_sub (lv' := [(5, .int (zI (zfb idn zq3))), (4, .int (zI zq3)), (3, .int (zI zq1)), (0, .ref (zad G 26 0)), (1, .int (zI a)), (2, .int (zI idn)), (6, .int (zI (k + 1)))]) [1, 2, 3, 4, 5, 6, 0] rfl ?_
        exact ihz8 (zup M1 49 0 k.toNat (zI 0)) (k + 1) (by omega) (by exact zclr_1 (by omega) (by omega) g1 (by decide) hm9 hn9) (by omega)
      have hm9 : zmeet (zV M 52 0 k.toNat) (zV M 53 0 k.toNat) (zfb idn zq3) zq3 → (1 : Int) = 0 := fun z => ((hPz29.f c83_341) (by rw [ezq27, ezq28, fe 52 _ (by decide), fe 53 _ (by decide)]; exact z)).elim
      have hn9 : ¬ zmeet (zV M 52 0 k.toNat) (zV M 53 0 k.toNat) (zfb idn zq3) zq3 → (1 : Int) = zV M 49 0 k.toNat := fun _ => by have := h14 (by omega); omega
      refine z_iconst C 86 dX8_gets_86 ?_
      refine z_goto C 87 91 dX8_gets_87 (by decide) ?_
      refine z_zast C 91 (show 0 < 1 by omega) (zc49 ..) (by first | assumption | omega) (by omega) (show k < ((24 : Nat) : Int) by omega) (by first | assumption | omega) (zc49 ..) dX8_gets_91 ?_
      refine z_iinc (lv' := [(6, .int (zI (k + 1))), (5, .int (zI (zfb idn zq3))), (4, .int (zI zq3)), (3, .int (zI zq1)), (0, .ref (zad G 26 0)), (1, .int (zI a)), (2, .int (zI idn))]) C 92 dX8_gets_92 6 rfl (by decide) rfl ?_
      refine z_goto C 95 34 dX8_gets_95 (by decide) ?_
      refine z_sub (lv' := [(5, .int (zI (zfb idn zq3))), (4, .int (zI zq3)), (3, .int (zI zq1)), (0, .ref (zad G 26 0)), (1, .int (zI a)), (2, .int (zI idn)), (6, .int (zI (k + 1)))]) [1, 2, 3, 4, 5, 6, 0] rfl ?_
      exact ihz8 (zup M1 49 0 k.toNat (zI 1)) (k + 1) (by omega) (by exact zclr_1 (by omega) (by omega) g1 (by decide) hm9 hn9) (by omega)
  refine z_sub (lv' := [(5, .int (zI (zfb idn zq3))), (4, .int (zI zq3)), (3, .int (zI zq1)), (0, .ref (zad G 26 0)), (1, .int (zI a)), (2, .int (zI idn)), (6, .int (zI (8 * a)))]) [1, 2, 3, 4, 5, 6, 0] rfl ?_
  exact L34_7 (((8 * a + 8 - (8 * a) : Int)).toNat + 1) M (8 * a) (by omega) (by exact zclr_0 _ _ _ _) (by omega)
