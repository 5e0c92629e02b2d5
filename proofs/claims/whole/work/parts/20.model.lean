set_option maxHeartbeats 4000000 in
set_option maxRecDepth 100000 in
theorem c_X8_goesTo (l : Launch) (G : zG) (M : zMem) (hw : zWM M) (a en : Int) (ha : 0 ≤ a ∧ a < 3) (he : 0 ≤ en ∧ en < 24) (b : Int) (hbb : b = (znbp M a.toNat en.toNat)) (hge : 0 ≤ znch M a.toNat en.toNat b) : Met l yX8_goesTo [.code yX8_goesTo cX8_goesTo 11 (some .int)] (zR 1 0 0) (zPc G M [.ref (zad G 26 0), .int (zI a), .int (zI en)]) (zQi G (fun x M' => x = zna M en.toNat (znch M a.toNat en.toNat b).toNat ∧ M' = zup M 62 0 (4 * en.toNat + (znch M a.toNat en.toNat b).toNat) (zI (znk M en.toNat (znch M a.toNat en.toNat b).toNat + 1)))) 0 0 (zA G) := by
  refine z_met [(0, .ref (zad G 26 0)), (1, .int (zI a)), (2, .int (zI en))] (by decide) (Nat.le_of_ble_eq_true rfl) rfl ?_
  intro p e s m below meth c C
  have C : zC p s m ([.ref (zad G 26 0), .int (zI a), .int (zI en)] : List Value).toArray meth c G RX8 cX8_goesTo 11 (some .int) := C
  have hw9z := hw
  obtain ⟨w1, w2, w3, w4, w5, w6, w7, w8, w9, w10, w11, w12, w13, w14⟩ := hw9z
  have h8 := w8 en.toNat (by omega)
  have hcr := zch_rg (znu M a.toNat) (zna M en.toNat) (znpr M en.toNat) (znw M en.toNat) (znk M en.toNat) b (znS M a.toNat en.toNat b) (znW M a.toNat en.toNat b)
  refine z_aload_n C 0 dX8_goesTo_0 rfl 0 rfl ?_
  refine z_iload_n C 1 dX8_goesTo_1 rfl 1 rfl ?_
  refine z_iload_n C 2 dX8_goesTo_2 rfl 2 rfl ?_
  refine z_callVi C 3 (As := [.int (zI a), .int (zI en)]) (rest := []) (c_X8_bestOf l G M hw a en ha he) zcl8 (show 0 < 1 by omega) (zc26 ..) (zW_of 2 C wm_8_185 wc_X8_bestOf wini_8 wi_X8_bestOf wse_X8_bestOf ⟨by decide, by decide, by decide⟩ ⟨by decide, by decide⟩) rfl (Nat.le_of_ble_eq_true rfl) ⟨by decide, by decide⟩ dX8_goesTo_3 rfl (fun zq1 Mz2 hzq1 hPz1 => ?_)
  obtain ⟨rfl, hPz1⟩ := hPz1
  rw [← hbb] at hPz1
  refine z_istore_n (lv' := [(3, .int (zI zq1)), (0, .ref (zad G 26 0)), (1, .int (zI a)), (2, .int (zI en))]) C 6 dX8_goesTo_6 rfl (by decide) rfl ?_
  refine z_iconst C 7 dX8_goesTo_7 ?_
  refine z_istore (lv' := [(4, .int (zI 0)), (3, .int (zI zq1)), (0, .ref (zad G 26 0)), (1, .int (zI a)), (2, .int (zI en))]) C 8 dX8_goesTo_8 (by decide) rfl ?_
  refine z_iconst C 10 dX8_goesTo_10 ?_
  refine z_istore (lv' := [(5, .int (zI 0)), (4, .int (zI 0)), (3, .int (zI zq1)), (0, .ref (zad G 26 0)), (1, .int (zI a)), (2, .int (zI en))]) C 11 dX8_goesTo_11 (by decide) rfl ?_
  refine z_iconst C 13 dX8_goesTo_13 ?_
  refine z_iload_n C 14 dX8_goesTo_14 rfl 5 rfl ?_
  refine z_imul C 15 dX8_goesTo_15 ?_
  refine z_istore (lv' := [(6, .int (zI (4 * en))), (5, .int (zI 0)), (4, .int (zI 0)), (3, .int (zI zq1)), (0, .ref (zad G 26 0)), (1, .int (zI a)), (2, .int (zI en))]) C 16 dX8_goesTo_16 (by decide) rfl ?_
  have L18_3 : ∀ (kz3 : Nat) (S : Int) (w : Int) (k : Int), (4 * en ≤ k ∧ k ≤ 4 * en + zV M 58 0 en.toNat) → (S = zsm (zls (znu M a.toNat) (zna M en.toNat) (znpr M en.toNat) (znk M en.toNat) b) (k - 4 * en).toNat) → (w = zsm (zls (znu M a.toNat) (zna M en.toNat) (znpr M en.toNat) (znw M en.toNat) b) (k - 4 * en).toNat) → (4 * en + zV M 58 0 en.toNat - k) < (kz3 : Int) → zZ p l e (zR 1 0 0) s m ([.ref (zad G 26 0), .int (zI a), .int (zI en)] : List Value).toArray below meth c G 11 (MQ below (zQi G (fun x M' => x = zna M en.toNat (znch M a.toNat en.toNat b).toNat ∧ M' = zup M 62 0 (4 * en.toNat + (znch M a.toNat en.toNat b).toNat) (zI (znk M en.toNat (znch M a.toNat en.toNat b).toNat + 1)))) ([.ref (zad G 26 0), .int (zI a), .int (zI en)] : List Value).toArray s 0 0 (zA G)) M 0 0 18 [(3, .int (zI zq1)), (0, .ref (zad G 26 0)), (1, .int (zI a)), (2, .int (zI en)), (4, .int (zI S)), (5, .int (zI w)), (6, .int (zI k))] [] := by
    intro kz3
    induction kz3 with
    | zero =>
      intro S w k g0 g1 g2 hk
      exact absurd hk (by omega)
    | succ kz3 ihz4 =>
      intro S w k g0 g1 g2 hk
      have h10 := w10 k.toNat
      have hna : zna M en.toNat (k - 4 * en).toNat = zV M 59 0 k.toNat := by unfold zna; rw [show 4 * en.toNat + (k - 4 * en).toNat = k.toNat by omega]
      have hnp : znpr M en.toNat (k - 4 * en).toNat = zV M 60 0 k.toNat := by unfold znpr; rw [show 4 * en.toNat + (k - 4 * en).toNat = k.toNat by omega]
      have hnk : znk M en.toNat (k - 4 * en).toNat = zV M 62 0 k.toNat := by unfold znk; rw [show 4 * en.toNat + (k - 4 * en).toNat = k.toNat by omega]
      have hnw : znw M en.toNat (k - 4 * en).toNat = zV M 61 0 k.toNat := by unfold znw; rw [show 4 * en.toNat + (k - 4 * en).toNat = k.toNat by omega]
      refine z_iload C 18 dX8_goesTo_18 6 rfl ?_
      refine z_iconst C 20 dX8_goesTo_20 ?_
      refine z_iload_n C 21 dX8_goesTo_21 rfl 3 rfl ?_
      refine z_imul C 22 dX8_goesTo_22 ?_
      refine z_aload_n C 23 dX8_goesTo_23 rfl 1 rfl ?_
      refine z_get C 24 zcl8 (show 0 < 1 by omega) (zc26 ..) 28 (by decide) rfl wf_8_81 dX8_goesTo_24 ?_
      refine z_iload_n C 27 dX8_goesTo_27 rfl 3 rfl ?_
      refine z_iald C 28 (show 0 < 1 by omega) (zc58 ..) (by first | assumption | omega) (by omega) (show en < ((24 : Nat) : Int) by omega) dX8_goesTo_28 (fun zq5 ezq5 hzq5 => ?_)
      refine z_iadd C 29 dX8_goesTo_29 ?_
      refine z_icmp_ge C 30 119 dX8_goesTo_30 (by decide) (by first | assumption | omega) (by first | assumption | omega) (fun c30_47 => ?_) (fun c30_47 => ?_)
      · refine z_iconst C 119 dX8_goesTo_119 ?_
        refine z_istore (lv' := [(6, .int (zI (-1))), (3, .int (zI zq1)), (0, .ref (zad G 26 0)), (1, .int (zI a)), (2, .int (zI en)), (4, .int (zI S)), (5, .int (zI w))]) C 120 dX8_goesTo_120 (by decide) rfl ?_
        refine z_iconst C 122 dX8_goesTo_122 ?_
        refine z_istore (lv' := [(7, .int (zI 0)), (6, .int (zI (-1))), (3, .int (zI zq1)), (0, .ref (zad G 26 0)), (1, .int (zI a)), (2, .int (zI en)), (4, .int (zI S)), (5, .int (zI w))]) C 123 dX8_goesTo_123 (by decide) rfl ?_
        refine z_iconst C 125 dX8_goesTo_125 ?_
        refine z_iload_n C 126 dX8_goesTo_126 rfl 5 rfl ?_
        refine z_imul C 127 dX8_goesTo_127 ?_
        refine z_istore (lv' := [(8, .int (zI (4 * en))), (7, .int (zI 0)), (6, .int (zI (-1))), (3, .int (zI zq1)), (0, .ref (zad G 26 0)), (1, .int (zI a)), (2, .int (zI en)), (4, .int (zI S)), (5, .int (zI w))]) C 128 dX8_goesTo_128 (by decide) rfl ?_
        have L130_6 : ∀ (kz6 : Nat) (f : Int) (y : Int) (j : Int) (g : Int), (4 * en ≤ j ∧ j ≤ 4 * en + zV M 58 0 en.toNat) → (znchk M a.toNat en.toNat b (j - 4 * en).toNat = (g, y)) → (zrg y) → ((g = -1 ∧ f = -1) ∨ (0 ≤ g ∧ f = 4 * en + g ∧ f < 96)) → (4 * en + zV M 58 0 en.toNat - j) < (kz6 : Int) → zZ p l e (zR 1 0 0) s m ([.ref (zad G 26 0), .int (zI a), .int (zI en)] : List Value).toArray below meth c G 11 (MQ below (zQi G (fun x M' => x = zna M en.toNat (znch M a.toNat en.toNat b).toNat ∧ M' = zup M 62 0 (4 * en.toNat + (znch M a.toNat en.toNat b).toNat) (zI (znk M en.toNat (znch M a.toNat en.toNat b).toNat + 1)))) ([.ref (zad G 26 0), .int (zI a), .int (zI en)] : List Value).toArray s 0 0 (zA G)) M 0 0 130 [(3, .int (zI zq1)), (0, .ref (zad G 26 0)), (1, .int (zI a)), (2, .int (zI en)), (4, .int (zI S)), (5, .int (zI w)), (6, .int (zI f)), (7, .int (zI y)), (8, .int (zI j))] [] := by
          intro kz6
          induction kz6 with
          | zero =>
            intro f y j g f0 f1 f2 f3 hk
            exact absurd hk (by omega)
          | succ kz6 ihz7 =>
            intro f y j g f0 f1 f2 f3 hk
            have h10 := w10 j.toNat
            have hna : zna M en.toNat (j - 4 * en).toNat = zV M 59 0 j.toNat := by unfold zna; rw [show 4 * en.toNat + (j - 4 * en).toNat = j.toNat by omega]
            have hnp : znpr M en.toNat (j - 4 * en).toNat = zV M 60 0 j.toNat := by unfold znpr; rw [show 4 * en.toNat + (j - 4 * en).toNat = j.toNat by omega]
            have hnk : znk M en.toNat (j - 4 * en).toNat = zV M 62 0 j.toNat := by unfold znk; rw [show 4 * en.toNat + (j - 4 * en).toNat = j.toNat by omega]
            have hnw : znw M en.toNat (j - 4 * en).toNat = zV M 61 0 j.toNat := by unfold znw; rw [show 4 * en.toNat + (j - 4 * en).toNat = j.toNat by omega]
            have hS9 : S = znS M a.toNat en.toNat b := by rw [g1]; unfold znS; rw [show (k - 4 * en).toNat = (zV M 58 0 en.toNat).toNat by omega]
            have hW9 : w = znW M a.toNat en.toNat b := by rw [g2]; unfold znW; rw [show (k - 4 * en).toNat = (zV M 58 0 en.toNat).toNat by omega]
            refine z_iload C 130 dX8_goesTo_130 8 rfl ?_
            refine z_iconst C 132 dX8_goesTo_132 ?_
            refine z_iload_n C 133 dX8_goesTo_133 rfl 3 rfl ?_
            refine z_imul C 134 dX8_goesTo_134 ?_
            refine z_aload_n C 135 dX8_goesTo_135 rfl 1 rfl ?_
            refine z_get C 136 zcl8 (show 0 < 1 by omega) (zc26 ..) 28 (by decide) rfl wf_8_81 dX8_goesTo_136 ?_
            refine z_iload_n C 139 dX8_goesTo_139 rfl 3 rfl ?_
            refine z_iald C 140 (show 0 < 1 by omega) (zc58 ..) (by first | assumption | omega) (by omega) (show en < ((24 : Nat) : Int) by omega) dX8_goesTo_140 (fun zq8 ezq8 hzq8 => ?_)
            refine z_iadd C 141 dX8_goesTo_141 ?_
            refine z_icmp_ge C 142 240 dX8_goesTo_142 (by decide) (by first | assumption | omega) (by first | assumption | omega) (fun c142_81 => ?_) (fun c142_81 => ?_)
            · have hje : (j - 4 * en).toNat = (zV M 58 0 en.toNat).toNat := by omega
              have hg9 : znch M a.toNat en.toNat b = g := by unfold znch; rw [← hje, f1]
              have hge2 : 0 ≤ g := by rw [← hg9]; exact hge
              refine z_aload_n C 240 dX8_goesTo_240 rfl 1 rfl ?_
              refine z_get C 241 zcl8 (show 0 < 1 by omega) (zc26 ..) 32 (by decide) rfl wf_8_93 dX8_goesTo_241 ?_
              refine z_iload C 244 dX8_goesTo_244 6 rfl ?_
              refine z_dup2 C 246 dX8_goesTo_246 rfl rfl ?_
              refine z_iald C 247 (show 0 < 1 by omega) (zc62 ..) (by first | assumption | omega) (by omega) (show f < ((96 : Nat) : Int) by omega) dX8_goesTo_247 (fun zq9 ezq9 hzq9 => ?_)
              refine z_iconst C 248 dX8_goesTo_248 ?_
              refine z_iadd C 249 dX8_goesTo_249 ?_
              refine z_iast C 250 (show 0 < 1 by omega) (zc62 ..) (by first | assumption | omega) (by omega) (show f < ((96 : Nat) : Int) by omega) (zc62 ..) dX8_goesTo_250 ?_
              refine z_aload_n C 251 dX8_goesTo_251 rfl 1 rfl ?_
              refine z_get C 252 zcl8 (show 0 < 1 by omega) (zc26 ..) 29 (by decide) rfl wf_8_84 dX8_goesTo_252 ?_
              refine z_iload C 255 dX8_goesTo_255 6 rfl ?_
              refine z_iald C 257 (show 0 < 1 by omega) (zc59 ..) (by first | assumption | omega) (by omega) (show f < ((96 : Nat) : Int) by omega) dX8_goesTo_257 (fun zq10 ezq10 hzq10 => ?_)
              rw [zV_ne (by decide)] at ezq10
              refine z_iret C 258 dX8_goesTo_258 (by decide) (by decide) hzq10 ?_
              rw [hg9]
              have hf9 : f.toNat = 4 * en.toNat + g.toNat := by omega
              refine ⟨?_, ?_⟩
              · rw [ezq10, hf9]; rfl
              · rw [ezq9, hf9]; rfl
            refine z_aload_n C 145 dX8_goesTo_145 rfl 1 rfl ?_
            refine z_get C 146 zcl8 (show 0 < 1 by omega) (zc26 ..) 33 (by decide) rfl wf_8_96 dX8_goesTo_146 ?_
            refine z_bipush C 149 dX8_goesTo_149 (by decide +kernel) ?_
            refine z_iload_n C 151 dX8_goesTo_151 rfl 2 rfl ?_
            refine z_imul C 152 dX8_goesTo_152 ?_
            refine z_aload_n C 153 dX8_goesTo_153 rfl 1 rfl ?_
            refine z_get C 154 zcl8 (show 0 < 1 by omega) (zc26 ..) 29 (by decide) rfl wf_8_84 dX8_goesTo_154 ?_
            refine z_iload C 157 dX8_goesTo_157 8 rfl ?_
            refine z_iald C 159 (show 0 < 1 by omega) (zc59 ..) (by first | assumption | omega) (by omega) (show j < ((96 : Nat) : Int) by omega) dX8_goesTo_159 (fun zq11 ezq11 hzq11 => ?_)
            refine z_iadd C 160 dX8_goesTo_160 ?_
            refine z_zald C 161 (show 0 < 1 by omega) (zc63 ..) (by first | assumption | omega) (by omega) (show ((32 * a) + zq11) < ((96 : Nat) : Int) by omega) dX8_goesTo_161 (fun zq12 ezq12 hzq12 => ?_)
            refine z_if_ne C 162 180 dX8_goesTo_162 (by decide) hzq12 (fun c162_115 => ?_) (fun c162_115 => ?_)
            · have hu9 : znu M a.toNat (zna M en.toNat (j - 4 * en).toNat).toNat = zq12 := by rw [hna, ezq12]; unfold znu; rw [show (32 * a + zq11).toNat = 32 * a.toNat + (zV M 59 0 j.toNat).toNat by omega]
              have hF : ¬ zlk (znu M a.toNat) (zna M en.toNat) (znpr M en.toNat) b (j - 4 * en).toNat := fun z => by have z1 := z.2; omega
              refine z_iconst C 180 dX8_goesTo_180 ?_
              refine z_istore (lv' := [(9, .int (zI 0)), (3, .int (zI zq1)), (0, .ref (zad G 26 0)), (1, .int (zI a)), (2, .int (zI en)), (4, .int (zI S)), (5, .int (zI w)), (6, .int (zI f)), (7, .int (zI y)), (8, .int (zI j))]) C 181 dX8_goesTo_181 (by decide) rfl ?_
              refine z_aload_n C 183 dX8_goesTo_183 rfl 2 rfl ?_
              refine z_get C 184 zcl8 (show 0 < 1 by omega) (zc26 ..) 31 (by decide) rfl wf_8_90 dX8_goesTo_184 ?_
              refine z_iload C 187 dX8_goesTo_187 9 rfl ?_
              refine z_iald C 189 (show 0 < 1 by omega) (zc61 ..) (by first | assumption | omega) (by omega) (show j < ((96 : Nat) : Int) by omega) dX8_goesTo_189 (fun zq13 ezq13 hzq13 => ?_)
              refine z_iload C 190 dX8_goesTo_190 5 rfl ?_
              refine z_iconst C 192 dX8_goesTo_192 ?_
              refine z_iadd C 193 dX8_goesTo_193 ?_
              refine z_imul C 194 dX8_goesTo_194 ?_
              refine z_iload C 195 dX8_goesTo_195 6 rfl ?_
              refine z_aload_n C 197 dX8_goesTo_197 rfl 2 rfl ?_
              refine z_get C 198 zcl8 (show 0 < 1 by omega) (zc26 ..) 32 (by decide) rfl wf_8_93 dX8_goesTo_198 ?_
              refine z_iload C 201 dX8_goesTo_201 9 rfl ?_
              refine z_iald C 203 (show 0 < 1 by omega) (zc62 ..) (by first | assumption | omega) (by omega) (show j < ((96 : Nat) : Int) by omega) dX8_goesTo_203 (fun zq14 ezq14 hzq14 => ?_)
              refine z_imul C 204 dX8_goesTo_204 ?_
              refine z_isub C 205 dX8_goesTo_205 ?_
              refine z_norm ?_
              intro yy eyy hyy
              have hlk : yy = zlack (znw M en.toNat) (znk M en.toNat) (znS M a.toNat en.toNat b) (znW M a.toNat en.toNat b) (j - 4 * en).toNat := by rw [eyy, hS9, hW9, ezq13, ezq14]; unfold zlack; rw [hnw, hnk]
              refine z_istore (lv' := [(10, .int (zI yy)), (9, .int (zI 0)), (3, .int (zI zq1)), (0, .ref (zad G 26 0)), (1, .int (zI a)), (2, .int (zI en)), (4, .int (zI S)), (5, .int (zI w)), (6, .int (zI f)), (7, .int (zI y)), (8, .int (zI j))]) C 206 dX8_goesTo_206 (by decide) rfl ?_
              have hX : ¬ (zlk (znu M a.toNat) (zna M en.toNat) (znpr M en.toNat) b (j - 4 * en).toNat ∧ (g = -1 ∨ y < zlack (znw M en.toNat) (znk M en.toNat) (znS M a.toNat en.toNat b) (znW M a.toNat en.toNat b) (j - 4 * en).toNat)) := fun z => hF z.1
              refine z_iload C 208 dX8_goesTo_208 1 rfl ?_
              refine z_if_eq C 210 234 dX8_goesTo_210 (by decide) (by decide) (fun c210_142 => ?_) (fun c210_142 => ?_)
              rotate_left
              · exact absurd c210_142 (by decide)
              refine z_iinc (lv' := [(8, .int (zI (j + 1))), (10, .int (zI yy)), (9, .int (zI 0)), (3, .int (zI zq1)), (0, .ref (zad G 26 0)), (1, .int (zI a)), (2, .int (zI en)), (4, .int (zI S)), (5, .int (zI w)), (6, .int (zI f)), (7, .int (zI y))]) C 234 dX8_goesTo_234 10 rfl (by decide) rfl ?_
              refine z_goto C 237 130 dX8_goesTo_237 (by decide) ?_
              refine z_sub (lv' := [(3, .int (zI zq1)), (0, .ref (zad G 26 0)), (1, .int (zI a)), (2, .int (zI en)), (4, .int (zI S)), (5, .int (zI w)), (6, .int (zI f)), (7, .int (zI y)), (8, .int (zI (j + 1)))]) [3, 4, 5, 6, 7, 8, 9, 10, 0] rfl ?_
              exact ihz7 f y (j + 1) g (by omega) (by rw [show (j + 1 - 4 * en).toNat = ((j - 4 * en) + 1).toNat by omega]; exact zch_f (by omega) f1 hX) (by omega) (by omega) (by omega)
            refine z_aload_n C 165 dX8_goesTo_165 rfl 1 rfl ?_
            refine z_get C 166 zcl8 (show 0 < 1 by omega) (zc26 ..) 30 (by decide) rfl wf_8_87 dX8_goesTo_166 ?_
            refine z_iload C 169 dX8_goesTo_169 8 rfl ?_
            refine z_iald C 171 (show 0 < 1 by omega) (zc60 ..) (by first | assumption | omega) (by omega) (show j < ((96 : Nat) : Int) by omega) dX8_goesTo_171 (fun zq15 ezq15 hzq15 => ?_)
            refine z_iload_n C 172 dX8_goesTo_172 rfl 0 rfl ?_
            refine z_icmp_ne C 173 180 dX8_goesTo_173 (by decide) hzq15 hzq1 (fun c173_153 => ?_) (fun c173_153 => ?_)
            · have hF : ¬ zlk (znu M a.toNat) (zna M en.toNat) (znpr M en.toNat) b (j - 4 * en).toNat := fun z => by have z1 := z.1; omega
              refine z_iconst C 180 dX8_goesTo_180 ?_
              refine z_istore (lv' := [(9, .int (zI 0)), (3, .int (zI zq1)), (0, .ref (zad G 26 0)), (1, .int (zI a)), (2, .int (zI en)), (4, .int (zI S)), (5, .int (zI w)), (6, .int (zI f)), (7, .int (zI y)), (8, .int (zI j))]) C 181 dX8_goesTo_181 (by decide) rfl ?_
              refine z_aload_n C 183 dX8_goesTo_183 rfl 2 rfl ?_
              refine z_get C 184 zcl8 (show 0 < 1 by omega) (zc26 ..) 31 (by decide) rfl wf_8_90 dX8_goesTo_184 ?_
              refine z_iload C 187 dX8_goesTo_187 9 rfl ?_
              refine z_iald C 189 (show 0 < 1 by omega) (zc61 ..) (by first | assumption | omega) (by omega) (show j < ((96 : Nat) : Int) by omega) dX8_goesTo_189 (fun zq16 ezq16 hzq16 => ?_)
              refine z_iload C 190 dX8_goesTo_190 5 rfl ?_
              refine z_iconst C 192 dX8_goesTo_192 ?_
              refine z_iadd C 193 dX8_goesTo_193 ?_
              refine z_imul C 194 dX8_goesTo_194 ?_
              refine z_iload C 195 dX8_goesTo_195 6 rfl ?_
              refine z_aload_n C 197 dX8_goesTo_197 rfl 2 rfl ?_
              refine z_get C 198 zcl8 (show 0 < 1 by omega) (zc26 ..) 32 (by decide) rfl wf_8_93 dX8_goesTo_198 ?_
              refine z_iload C 201 dX8_goesTo_201 9 rfl ?_
              refine z_iald C 203 (show 0 < 1 by omega) (zc62 ..) (by first | assumption | omega) (by omega) (show j < ((96 : Nat) : Int) by omega) dX8_goesTo_203 (fun zq17 ezq17 hzq17 => ?_)
              refine z_imul C 204 dX8_goesTo_204 ?_
              refine z_isub C 205 dX8_goesTo_205 ?_
              refine z_norm ?_
              intro yy eyy hyy
              have hlk : yy = zlack (znw M en.toNat) (znk M en.toNat) (znS M a.toNat en.toNat b) (znW M a.toNat en.toNat b) (j - 4 * en).toNat := by rw [eyy, hS9, hW9, ezq16, ezq17]; unfold zlack; rw [hnw, hnk]
              refine z_istore (lv' := [(10, .int (zI yy)), (9, .int (zI 0)), (3, .int (zI zq1)), (0, .ref (zad G 26 0)), (1, .int (zI a)), (2, .int (zI en)), (4, .int (zI S)), (5, .int (zI w)), (6, .int (zI f)), (7, .int (zI y)), (8, .int (zI j))]) C 206 dX8_goesTo_206 (by decide) rfl ?_
              have hX : ¬ (zlk (znu M a.toNat) (zna M en.toNat) (znpr M en.toNat) b (j - 4 * en).toNat ∧ (g = -1 ∨ y < zlack (znw M en.toNat) (znk M en.toNat) (znS M a.toNat en.toNat b) (znW M a.toNat en.toNat b) (j - 4 * en).toNat)) := fun z => hF z.1
              refine z_iload C 208 dX8_goesTo_208 1 rfl ?_
              refine z_if_eq C 210 234 dX8_goesTo_210 (by decide) (by decide) (fun c210_179 => ?_) (fun c210_179 => ?_)
              rotate_left
              · exact absurd c210_179 (by decide)
              refine z_iinc (lv' := [(8, .int (zI (j + 1))), (10, .int (zI yy)), (9, .int (zI 0)), (3, .int (zI zq1)), (0, .ref (zad G 26 0)), (1, .int (zI a)), (2, .int (zI en)), (4, .int (zI S)), (5, .int (zI w)), (6, .int (zI f)), (7, .int (zI y))]) C 234 dX8_goesTo_234 10 rfl (by decide) rfl ?_
              refine z_goto C 237 130 dX8_goesTo_237 (by decide) ?_
              refine z_sub (lv' := [(3, .int (zI zq1)), (0, .ref (zad G 26 0)), (1, .int (zI a)), (2, .int (zI en)), (4, .int (zI S)), (5, .int (zI w)), (6, .int (zI f)), (7, .int (zI y)), (8, .int (zI (j + 1)))]) [3, 4, 5, 6, 7, 8, 9, 10, 0] rfl ?_
              exact ihz7 f y (j + 1) g (by omega) (by rw [show (j + 1 - 4 * en).toNat = ((j - 4 * en) + 1).toNat by omega]; exact zch_f (by omega) f1 hX) (by omega) (by omega) (by omega)
            have hu9 : znu M a.toNat (zna M en.toNat (j - 4 * en).toNat).toNat = zq12 := by rw [hna, ezq12]; unfold znu; rw [show (32 * a + zq11).toNat = 32 * a.toNat + (zV M 59 0 j.toNat).toNat by omega]
            have hT : zlk (znu M a.toNat) (zna M en.toNat) (znpr M en.toNat) b (j - 4 * en).toNat := ⟨by omega, by omega⟩
            refine z_iconst C 176 dX8_goesTo_176 ?_
            refine z_goto C 177 181 dX8_goesTo_177 (by decide) ?_
            refine z_istore (lv' := [(9, .int (zI 1)), (3, .int (zI zq1)), (0, .ref (zad G 26 0)), (1, .int (zI a)), (2, .int (zI en)), (4, .int (zI S)), (5, .int (zI w)), (6, .int (zI f)), (7, .int (zI y)), (8, .int (zI j))]) C 181 dX8_goesTo_181 (by decide) rfl ?_
            refine z_aload_n C 183 dX8_goesTo_183 rfl 2 rfl ?_
            refine z_get C 184 zcl8 (show 0 < 1 by omega) (zc26 ..) 31 (by decide) rfl wf_8_90 dX8_goesTo_184 ?_
            refine z_iload C 187 dX8_goesTo_187 9 rfl ?_
            refine z_iald C 189 (show 0 < 1 by omega) (zc61 ..) (by first | assumption | omega) (by omega) (show j < ((96 : Nat) : Int) by omega) dX8_goesTo_189 (fun zq18 ezq18 hzq18 => ?_)
            refine z_iload C 190 dX8_goesTo_190 5 rfl ?_
            refine z_iconst C 192 dX8_goesTo_192 ?_
            refine z_iadd C 193 dX8_goesTo_193 ?_
            refine z_imul C 194 dX8_goesTo_194 ?_
            refine z_iload C 195 dX8_goesTo_195 6 rfl ?_
            refine z_aload_n C 197 dX8_goesTo_197 rfl 2 rfl ?_
            refine z_get C 198 zcl8 (show 0 < 1 by omega) (zc26 ..) 32 (by decide) rfl wf_8_93 dX8_goesTo_198 ?_
            refine z_iload C 201 dX8_goesTo_201 9 rfl ?_
            refine z_iald C 203 (show 0 < 1 by omega) (zc62 ..) (by first | assumption | omega) (by omega) (show j < ((96 : Nat) : Int) by omega) dX8_goesTo_203 (fun zq19 ezq19 hzq19 => ?_)
            refine z_imul C 204 dX8_goesTo_204 ?_
            refine z_isub C 205 dX8_goesTo_205 ?_
            refine z_norm ?_
            intro yy eyy hyy
            have hlk : yy = zlack (znw M en.toNat) (znk M en.toNat) (znS M a.toNat en.toNat b) (znW M a.toNat en.toNat b) (j - 4 * en).toNat := by rw [eyy, hS9, hW9, ezq18, ezq19]; unfold zlack; rw [hnw, hnk]
            refine z_istore (lv' := [(10, .int (zI yy)), (9, .int (zI 1)), (3, .int (zI zq1)), (0, .ref (zad G 26 0)), (1, .int (zI a)), (2, .int (zI en)), (4, .int (zI S)), (5, .int (zI w)), (6, .int (zI f)), (7, .int (zI y)), (8, .int (zI j))]) C 206 dX8_goesTo_206 (by decide) rfl ?_
            refine z_iload C 208 dX8_goesTo_208 1 rfl ?_
            refine z_if_eq C 210 234 dX8_goesTo_210 (by decide) (by decide) (fun c210_210 => ?_) (fun c210_210 => ?_)
            · exact absurd c210_210 (by decide)
            refine z_iload C 213 dX8_goesTo_213 8 rfl ?_
            refine z_iconst C 215 dX8_goesTo_215 ?_
            refine z_icmp_eq C 216 226 dX8_goesTo_216 (by decide) (by first | assumption | omega) (by decide) (fun c216_214 => ?_) (fun c216_214 => ?_)
            · refine z_iload C 226 dX8_goesTo_226 10 rfl ?_
              refine z_istore (lv' := [(6, .int (zI j)), (10, .int (zI yy)), (9, .int (zI 1)), (3, .int (zI zq1)), (0, .ref (zad G 26 0)), (1, .int (zI a)), (2, .int (zI en)), (4, .int (zI S)), (5, .int (zI w)), (7, .int (zI y)), (8, .int (zI j))]) C 228 dX8_goesTo_228 (by decide) rfl ?_
              refine z_iload C 230 dX8_goesTo_230 1 rfl ?_
              refine z_istore (lv' := [(7, .int (zI yy)), (6, .int (zI j)), (10, .int (zI yy)), (9, .int (zI 1)), (3, .int (zI zq1)), (0, .ref (zad G 26 0)), (1, .int (zI a)), (2, .int (zI en)), (4, .int (zI S)), (5, .int (zI w)), (8, .int (zI j))]) C 232 dX8_goesTo_232 (by decide) rfl ?_
              refine z_iinc (lv' := [(8, .int (zI (j + 1))), (7, .int (zI yy)), (6, .int (zI j)), (10, .int (zI yy)), (9, .int (zI 1)), (3, .int (zI zq1)), (0, .ref (zad G 26 0)), (1, .int (zI a)), (2, .int (zI en)), (4, .int (zI S)), (5, .int (zI w))]) C 234 dX8_goesTo_234 10 rfl (by decide) rfl ?_
              refine z_goto C 237 130 dX8_goesTo_237 (by decide) ?_
              refine z_sub (lv' := [(3, .int (zI zq1)), (0, .ref (zad G 26 0)), (1, .int (zI a)), (2, .int (zI en)), (4, .int (zI S)), (5, .int (zI w)), (6, .int (zI j)), (7, .int (zI yy)), (8, .int (zI (j + 1)))]) [5, 6, 7, 8, 9, 10, 2, 1, 0] rfl ?_
              exact ihz7 j yy (j + 1) (j - 4 * en) (by omega) (by rw [show (j + 1 - 4 * en).toNat = ((j - 4 * en) + 1).toNat by omega, hlk]; exact zch_t (by omega) f1 hT (by rw [← hlk]; omega)) (by omega) (by omega) (by omega)
            refine z_iload C 219 dX8_goesTo_219 0 rfl ?_
            refine z_iload C 221 dX8_goesTo_221 9 rfl ?_
            refine z_icmp_le C 223 234 dX8_goesTo_223 (by decide) hyy (by first | assumption | omega) (fun c223_225 => ?_) (fun c223_225 => ?_)
            · have hX : ¬ (zlk (znu M a.toNat) (zna M en.toNat) (znpr M en.toNat) b (j - 4 * en).toNat ∧ (g = -1 ∨ y < zlack (znw M en.toNat) (znk M en.toNat) (znS M a.toNat en.toNat b) (znW M a.toNat en.toNat b) (j - 4 * en).toNat)) := fun z => by have z2 := z.2; rw [← hlk] at z2; omega
              refine z_iinc (lv' := [(8, .int (zI (j + 1))), (10, .int (zI yy)), (9, .int (zI 1)), (3, .int (zI zq1)), (0, .ref (zad G 26 0)), (1, .int (zI a)), (2, .int (zI en)), (4, .int (zI S)), (5, .int (zI w)), (6, .int (zI f)), (7, .int (zI y))]) C 234 dX8_goesTo_234 10 rfl (by decide) rfl ?_
              refine z_goto C 237 130 dX8_goesTo_237 (by decide) ?_
              refine z_sub (lv' := [(3, .int (zI zq1)), (0, .ref (zad G 26 0)), (1, .int (zI a)), (2, .int (zI en)), (4, .int (zI S)), (5, .int (zI w)), (6, .int (zI f)), (7, .int (zI y)), (8, .int (zI (j + 1)))]) [3, 4, 5, 6, 7, 8, 9, 10, 0] rfl ?_
              exact ihz7 f y (j + 1) g (by omega) (by rw [show (j + 1 - 4 * en).toNat = ((j - 4 * en) + 1).toNat by omega]; exact zch_f (by omega) f1 hX) (by omega) (by omega) (by omega)
            refine z_iload C 226 dX8_goesTo_226 10 rfl ?_
            refine z_istore (lv' := [(6, .int (zI j)), (10, .int (zI yy)), (9, .int (zI 1)), (3, .int (zI zq1)), (0, .ref (zad G 26 0)), (1, .int (zI a)), (2, .int (zI en)), (4, .int (zI S)), (5, .int (zI w)), (7, .int (zI y)), (8, .int (zI j))]) C 228 dX8_goesTo_228 (by decide) rfl ?_
            refine z_iload C 230 dX8_goesTo_230 1 rfl ?_
            refine z_istore (lv' := [(7, .int (zI yy)), (6, .int (zI j)), (10, .int (zI yy)), (9, .int (zI 1)), (3, .int (zI zq1)), (0, .ref (zad G 26 0)), (1, .int (zI a)), (2, .int (zI en)), (4, .int (zI S)), (5, .int (zI w)), (8, .int (zI j))]) C 232 dX8_goesTo_232 (by decide) rfl ?_
            refine z_iinc (lv' := [(8, .int (zI (j + 1))), (7, .int (zI yy)), (6, .int (zI j)), (10, .int (zI yy)), (9, .int (zI 1)), (3, .int (zI zq1)), (0, .ref (zad G 26 0)), (1, .int (zI a)), (2, .int (zI en)), (4, .int (zI S)), (5, .int (zI w))]) C 234 dX8_goesTo_234 10 rfl (by decide) rfl ?_
            refine z_goto C 237 130 dX8_goesTo_237 (by decide) ?_
            refine z_sub (lv' := [(3, .int (zI zq1)), (0, .ref (zad G 26 0)), (1, .int (zI a)), (2, .int (zI en)), (4, .int (zI S)), (5, .int (zI w)), (6, .int (zI j)), (7, .int (zI yy)), (8, .int (zI (j + 1)))]) [5, 6, 7, 8, 9, 10, 2, 1, 0] rfl ?_
            exact ihz7 j yy (j + 1) (j - 4 * en) (by omega) (by rw [show (j + 1 - 4 * en).toNat = ((j - 4 * en) + 1).toNat by omega, hlk]; exact zch_t (by omega) f1 hT (by rw [← hlk]; omega)) (by omega) (by omega) (by omega)
        refine z_sub (lv' := [(3, .int (zI zq1)), (0, .ref (zad G 26 0)), (1, .int (zI a)), (2, .int (zI en)), (4, .int (zI S)), (5, .int (zI w)), (6, .int (zI (-1))), (7, .int (zI 0)), (8, .int (zI (4 * en)))]) [3, 4, 5, 6, 7, 8, 2, 1, 0] rfl ?_
        exact L130_6 (((4 * en + zV M 58 0 en.toNat - (4 * en) : Int)).toNat + 1) (-1) 0 (4 * en) (-1) (by omega) (by rw [show (4 * en - 4 * en).toNat = 0 by omega]; rfl) (by omega) (by omega) (by omega)
      refine z_aload_n C 33 dX8_goesTo_33 rfl 1 rfl ?_
      refine z_get C 34 zcl8 (show 0 < 1 by omega) (zc26 ..) 33 (by decide) rfl wf_8_96 dX8_goesTo_34 ?_
      refine z_bipush C 37 dX8_goesTo_37 (by decide +kernel) ?_
      refine z_iload_n C 39 dX8_goesTo_39 rfl 2 rfl ?_
      refine z_imul C 40 dX8_goesTo_40 ?_
      refine z_aload_n C 41 dX8_goesTo_41 rfl 1 rfl ?_
      refine z_get C 42 zcl8 (show 0 < 1 by omega) (zc26 ..) 29 (by decide) rfl wf_8_84 dX8_goesTo_42 ?_
      refine z_iload C 45 dX8_goesTo_45 6 rfl ?_
      refine z_iald C 47 (show 0 < 1 by omega) (zc59 ..) (by first | assumption | omega) (by omega) (show k < ((96 : Nat) : Int) by omega) dX8_goesTo_47 (fun zq20 ezq20 hzq20 => ?_)
      refine z_iadd C 48 dX8_goesTo_48 ?_
      refine z_zald C 49 (show 0 < 1 by omega) (zc63 ..) (by first | assumption | omega) (by omega) (show ((32 * a) + zq20) < ((96 : Nat) : Int) by omega) dX8_goesTo_49 (fun zq21 ezq21 hzq21 => ?_)
      refine z_if_ne C 50 68 dX8_goesTo_50 (by decide) hzq21 (fun c50_251 => ?_) (fun c50_251 => ?_)
      · have hu9 : znu M a.toNat (zna M en.toNat (k - 4 * en).toNat).toNat = zq21 := by rw [hna, ezq21]; unfold znu; rw [show (32 * a + zq20).toNat = 32 * a.toNat + (zV M 59 0 k.toNat).toNat by omega]
        have hF : ¬ zlk (znu M a.toNat) (zna M en.toNat) (znpr M en.toNat) b (k - 4 * en).toNat := fun z => by have z1 := z.2; omega
        refine z_iconst C 68 dX8_goesTo_68 ?_
        refine z_istore (lv' := [(7, .int (zI 0)), (3, .int (zI zq1)), (0, .ref (zad G 26 0)), (1, .int (zI a)), (2, .int (zI en)), (4, .int (zI S)), (5, .int (zI w)), (6, .int (zI k))]) C 69 dX8_goesTo_69 (by decide) rfl ?_
        refine z_iload C 71 dX8_goesTo_71 5 rfl ?_
        refine z_iload C 73 dX8_goesTo_73 0 rfl ?_
        refine z_if_eq C 75 88 dX8_goesTo_75 (by decide) (by decide) (fun c75_259 => ?_) (fun c75_259 => ?_)
        rotate_left
        · exact absurd c75_259 (by decide)
        refine z_iconst C 88 dX8_goesTo_88 ?_
        refine z_iadd C 89 dX8_goesTo_89 ?_
        refine z_istore (lv' := [(4, .int (zI (S + 0))), (7, .int (zI 0)), (3, .int (zI zq1)), (0, .ref (zad G 26 0)), (1, .int (zI a)), (2, .int (zI en)), (5, .int (zI w)), (6, .int (zI k))]) C 90 dX8_goesTo_90 (by decide) rfl ?_
        refine z_iload C 92 dX8_goesTo_92 6 rfl ?_
        refine z_iload C 94 dX8_goesTo_94 1 rfl ?_
        refine z_if_eq C 96 109 dX8_goesTo_96 (by decide) (by decide) (fun c96_267 => ?_) (fun c96_267 => ?_)
        rotate_left
        · exact absurd c96_267 (by decide)
        refine z_iconst C 109 dX8_goesTo_109 ?_
        refine z_iadd C 110 dX8_goesTo_110 ?_
        refine z_istore (lv' := [(5, .int (zI (w + 0))), (4, .int (zI (S + 0))), (7, .int (zI 0)), (3, .int (zI zq1)), (0, .ref (zad G 26 0)), (1, .int (zI a)), (2, .int (zI en)), (6, .int (zI k))]) C 111 dX8_goesTo_111 (by decide) rfl ?_
        refine z_iinc (lv' := [(6, .int (zI (k + 1))), (5, .int (zI (w + 0))), (4, .int (zI (S + 0))), (7, .int (zI 0)), (3, .int (zI zq1)), (0, .ref (zad G 26 0)), (1, .int (zI a)), (2, .int (zI en))]) C 113 dX8_goesTo_113 7 rfl (by decide) rfl ?_
        refine z_goto C 116 18 dX8_goesTo_116 (by decide) ?_
        refine z_sub (lv' := [(3, .int (zI zq1)), (0, .ref (zad G 26 0)), (1, .int (zI a)), (2, .int (zI en)), (4, .int (zI (S + 0))), (5, .int (zI (w + 0))), (6, .int (zI (k + 1)))]) [4, 5, 6, 7, 2, 1, 0] rfl ?_
        exact ihz4 (S + 0) (w + 0) (k + 1) (by omega) (by rw [zsm_k g0.1, ← g1, zls_f hF]) (by rw [zsm_k g0.1, ← g2, zls_f hF]) (by omega)
      refine z_aload_n C 53 dX8_goesTo_53 rfl 1 rfl ?_
      refine z_get C 54 zcl8 (show 0 < 1 by omega) (zc26 ..) 30 (by decide) rfl wf_8_87 dX8_goesTo_54 ?_
      refine z_iload C 57 dX8_goesTo_57 6 rfl ?_
      refine z_iald C 59 (show 0 < 1 by omega) (zc60 ..) (by first | assumption | omega) (by omega) (show k < ((96 : Nat) : Int) by omega) dX8_goesTo_59 (fun zq22 ezq22 hzq22 => ?_)
      refine z_iload_n C 60 dX8_goesTo_60 rfl 0 rfl ?_
      refine z_icmp_ne C 61 68 dX8_goesTo_61 (by decide) hzq22 hzq1 (fun c61_281 => ?_) (fun c61_281 => ?_)
      · have hF : ¬ zlk (znu M a.toNat) (zna M en.toNat) (znpr M en.toNat) b (k - 4 * en).toNat := fun z => by have z1 := z.1; omega
        refine z_iconst C 68 dX8_goesTo_68 ?_
        refine z_istore (lv' := [(7, .int (zI 0)), (3, .int (zI zq1)), (0, .ref (zad G 26 0)), (1, .int (zI a)), (2, .int (zI en)), (4, .int (zI S)), (5, .int (zI w)), (6, .int (zI k))]) C 69 dX8_goesTo_69 (by decide) rfl ?_
        refine z_iload C 71 dX8_goesTo_71 5 rfl ?_
        refine z_iload C 73 dX8_goesTo_73 0 rfl ?_
        refine z_if_eq C 75 88 dX8_goesTo_75 (by decide) (by decide) (fun c75_288 => ?_) (fun c75_288 => ?_)
        rotate_left
        · exact absurd c75_288 (by decide)
        refine z_iconst C 88 dX8_goesTo_88 ?_
        refine z_iadd C 89 dX8_goesTo_89 ?_
        refine z_istore (lv' := [(4, .int (zI (S + 0))), (7, .int (zI 0)), (3, .int (zI zq1)), (0, .ref (zad G 26 0)), (1, .int (zI a)), (2, .int (zI en)), (5, .int (zI w)), (6, .int (zI k))]) C 90 dX8_goesTo_90 (by decide) rfl ?_
        refine z_iload C 92 dX8_goesTo_92 6 rfl ?_
        refine z_iload C 94 dX8_goesTo_94 1 rfl ?_
        refine z_if_eq C 96 109 dX8_goesTo_96 (by decide) (by decide) (fun c96_296 => ?_) (fun c96_296 => ?_)
        rotate_left
        · exact absurd c96_296 (by decide)
        refine z_iconst C 109 dX8_goesTo_109 ?_
        refine z_iadd C 110 dX8_goesTo_110 ?_
        refine z_istore (lv' := [(5, .int (zI (w + 0))), (4, .int (zI (S + 0))), (7, .int (zI 0)), (3, .int (zI zq1)), (0, .ref (zad G 26 0)), (1, .int (zI a)), (2, .int (zI en)), (6, .int (zI k))]) C 111 dX8_goesTo_111 (by decide) rfl ?_
        refine z_iinc (lv' := [(6, .int (zI (k + 1))), (5, .int (zI (w + 0))), (4, .int (zI (S + 0))), (7, .int (zI 0)), (3, .int (zI zq1)), (0, .ref (zad G 26 0)), (1, .int (zI a)), (2, .int (zI en))]) C 113 dX8_goesTo_113 7 rfl (by decide) rfl ?_
        refine z_goto C 116 18 dX8_goesTo_116 (by decide) ?_
        refine z_sub (lv' := [(3, .int (zI zq1)), (0, .ref (zad G 26 0)), (1, .int (zI a)), (2, .int (zI en)), (4, .int (zI (S + 0))), (5, .int (zI (w + 0))), (6, .int (zI (k + 1)))]) [4, 5, 6, 7, 2, 1, 0] rfl ?_
        exact ihz4 (S + 0) (w + 0) (k + 1) (by omega) (by rw [zsm_k g0.1, ← g1, zls_f hF]) (by rw [zsm_k g0.1, ← g2, zls_f hF]) (by omega)
      have hu9 : znu M a.toNat (zna M en.toNat (k - 4 * en).toNat).toNat = zq21 := by rw [hna, ezq21]; unfold znu; rw [show (32 * a + zq20).toNat = 32 * a.toNat + (zV M 59 0 k.toNat).toNat by omega]
      have hT : zlk (znu M a.toNat) (zna M en.toNat) (znpr M en.toNat) b (k - 4 * en).toNat := ⟨by omega, by omega⟩
      refine z_iconst C 64 dX8_goesTo_64 ?_
      refine z_goto C 65 69 dX8_goesTo_65 (by decide) ?_
      refine z_istore (lv' := [(7, .int (zI 1)), (3, .int (zI zq1)), (0, .ref (zad G 26 0)), (1, .int (zI a)), (2, .int (zI en)), (4, .int (zI S)), (5, .int (zI w)), (6, .int (zI k))]) C 69 dX8_goesTo_69 (by decide) rfl ?_
      refine z_iload C 71 dX8_goesTo_71 5 rfl ?_
      refine z_iload C 73 dX8_goesTo_73 0 rfl ?_
      refine z_if_eq C 75 88 dX8_goesTo_75 (by decide) (by decide) (fun c75_312 => ?_) (fun c75_312 => ?_)
      · exact absurd c75_312 (by decide)
      refine z_aload_n C 78 dX8_goesTo_78 rfl 2 rfl ?_
      refine z_get C 79 zcl8 (show 0 < 1 by omega) (zc26 ..) 32 (by decide) rfl wf_8_93 dX8_goesTo_79 ?_
      refine z_iload C 82 dX8_goesTo_82 7 rfl ?_
      refine z_iald C 84 (show 0 < 1 by omega) (zc62 ..) (by first | assumption | omega) (by omega) (show k < ((96 : Nat) : Int) by omega) dX8_goesTo_84 (fun zq23 ezq23 hzq23 => ?_)
      refine z_goto C 85 89 dX8_goesTo_85 (by decide) ?_
      refine z_iadd C 89 dX8_goesTo_89 ?_
      refine z_istore (lv' := [(4, .int (zI (S + zq23))), (7, .int (zI 1)), (3, .int (zI zq1)), (0, .ref (zad G 26 0)), (1, .int (zI a)), (2, .int (zI en)), (5, .int (zI w)), (6, .int (zI k))]) C 90 dX8_goesTo_90 (by decide) rfl ?_
      refine z_iload C 92 dX8_goesTo_92 6 rfl ?_
      refine z_iload C 94 dX8_goesTo_94 1 rfl ?_
      refine z_if_eq C 96 109 dX8_goesTo_96 (by decide) (by decide) (fun c96_323 => ?_) (fun c96_323 => ?_)
      · exact absurd c96_323 (by decide)
      refine z_aload_n C 99 dX8_goesTo_99 rfl 3 rfl ?_
      refine z_get C 100 zcl8 (show 0 < 1 by omega) (zc26 ..) 31 (by decide) rfl wf_8_90 dX8_goesTo_100 ?_
      refine z_iload C 103 dX8_goesTo_103 7 rfl ?_
      refine z_iald C 105 (show 0 < 1 by omega) (zc61 ..) (by first | assumption | omega) (by omega) (show k < ((96 : Nat) : Int) by omega) dX8_goesTo_105 (fun zq24 ezq24 hzq24 => ?_)
      refine z_goto C 106 110 dX8_goesTo_106 (by decide) ?_
      refine z_iadd C 110 dX8_goesTo_110 ?_
      refine z_istore (lv' := [(5, .int (zI (w + zq24))), (4, .int (zI (S + zq23))), (7, .int (zI 1)), (3, .int (zI zq1)), (0, .ref (zad G 26 0)), (1, .int (zI a)), (2, .int (zI en)), (6, .int (zI k))]) C 111 dX8_goesTo_111 (by decide) rfl ?_
      refine z_iinc (lv' := [(6, .int (zI (k + 1))), (5, .int (zI (w + zq24))), (4, .int (zI (S + zq23))), (7, .int (zI 1)), (3, .int (zI zq1)), (0, .ref (zad G 26 0)), (1, .int (zI a)), (2, .int (zI en))]) C 113 dX8_goesTo_113 7 rfl (by decide) rfl ?_
      refine z_goto C 116 18 dX8_goesTo_116 (by decide) ?_
      refine z_sub (lv' := [(3, .int (zI zq1)), (0, .ref (zad G 26 0)), (1, .int (zI a)), (2, .int (zI en)), (4, .int (zI (S + zq23))), (5, .int (zI (w + zq24))), (6, .int (zI (k + 1)))]) [4, 5, 6, 7, 2, 1, 0] rfl ?_
      exact ihz4 (S + zq23) (w + zq24) (k + 1) (by omega) (by rw [zsm_k g0.1, ← g1, zls_t hT, hnk, ezq23]) (by rw [zsm_k g0.1, ← g2, zls_t hT, hnw, ezq24]) (by omega)
  refine z_sub (lv' := [(3, .int (zI zq1)), (0, .ref (zad G 26 0)), (1, .int (zI a)), (2, .int (zI en)), (4, .int (zI 0)), (5, .int (zI 0)), (6, .int (zI (4 * en)))]) [3, 4, 5, 6, 2, 1, 0] rfl ?_
  exact L18_3 (((4 * en + zV M 58 0 en.toNat - (4 * en) : Int)).toNat + 1) 0 0 (4 * en) (by omega) (by rw [show (4 * en - 4 * en).toNat = 0 by omega]; rfl) (by rw [show (4 * en - 4 * en).toNat = 0 by omega]; rfl) (by omega)
