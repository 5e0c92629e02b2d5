set_option maxHeartbeats 4000000 in
set_option maxRecDepth 100000 in
theorem law_loop {p : Program} {e : Env} {s : State} {m : MethodId} {below : List Frame} {meth : Method} {c : Code} (l : Launch) (hfl : l.stackTraces = false) {b : Nat} (G : zG) (hG : zB G = s.heap) (C : zC p s m #[Value.ref b] meth c G RL cL_law 18 (some .boolean)) : zZ p l e room_1 s m #[Value.ref b] below meth c G 18 (lw_Z below #[Value.ref b] s) zM0 353 1700 74 [(13, .int (zI 0)), (12, .ref (zad G 36 0)), (11, .ref (zad G 35 0)), (10, .ref (zad G 34 0)), (9, .ref (zad G 33 0)), (8, .ref (zad G 32 0)), (7, .ref (zad G 31 0)), (6, .ref (zad G 30 0)), (5, .ref (zad G 29 0)), (4, .ref (zad G 28 0)), (3, .ref (zad G 27 0)), (2, .ref (zad G 26 0)), (1, .ref (zad G 0 0)), (0, .ref (zS G).1)] [] := by
  have L74_1 : ∀ (kz1 : Nat) (Mr : zMem) (k : Int), (0 ≤ k ∧ k ≤ 16) → (jz0 Mr k) → (16 - k) < (kz1 : Int) → zZ p l e room_1 s m #[Value.ref b] below meth c G 18 (lw_Z below #[Value.ref b] s) Mr 353 1700 74 [(12, .ref (zad G 36 0)), (11, .ref (zad G 35 0)), (10, .ref (zad G 34 0)), (9, .ref (zad G 33 0)), (8, .ref (zad G 32 0)), (7, .ref (zad G 31 0)), (6, .ref (zad G 30 0)), (5, .ref (zad G 29 0)), (4, .ref (zad G 28 0)), (3, .ref (zad G 27 0)), (2, .ref (zad G 26 0)), (1, .ref (zad G 0 0)), (0, .ref (zS G).1), (13, .int (zI k))] [] := by
    intro kz1
    induction kz1 with
    | zero =>
      intro Mr k g0 g1 hk
      exact absurd hk (by omega)
    | succ kz1 ihz2 =>
      intro Mr k g0 g1 hk
      refine z_iload C 74 dL_law_74 13 rfl ?_
      refine z_bipush C 76 dL_law_76 (by decide +kernel) ?_
      refine z_icmp_ge C 78 93 dL_law_78 (by decide) (by first | assumption | omega) (by decide) (fun c78_13 => ?_) (fun c78_13 => ?_)
      · refine z_aload C 93 dL_law_93 0 rfl ?_
        refine z_iconst C 95 dL_law_95 ?_
        refine z_bipush C 96 dL_law_96 (by decide +kernel) ?_
        refine z_iastj C 98 (show 0 < 1 by omega) (zc36 ..) 1 rfl (by decide) (by omega) (show 1 < ((12 : Nat) : Int) by omega) (zc36 ..) dL_law_98 ?_
        refine z_aload C 99 dL_law_99 0 rfl ?_
        refine z_iconst C 101 dL_law_101 ?_
        refine z_bipush C 102 dL_law_102 (by decide +kernel) ?_
        refine z_iastj C 104 (show 0 < 1 by omega) (zc36 ..) 2 rfl (by decide) (by omega) (show 2 < ((12 : Nat) : Int) by omega) (zc36 ..) dL_law_104 ?_
        generalize hN0 : zup (zup Mr 36 0 1 (zI 100)) 36 0 2 (zI 20) = N0
        have hk16 : k = 16 := by omega
        subst hk16
        have nv : ∀ κ i j : Nat, ¬ (κ = 36 ∧ (j = 1 ∨ j = 2)) → zV N0 κ i j = zV Mr κ i j := fun κ i j q => by rw [← hN0, zV_upg, if_neg (fun z => q ⟨z.1, Or.inr z.2.2⟩), zV_upg, if_neg (fun z => q ⟨z.1, Or.inl z.2.2⟩)]
        have h0N : iN 0 N0 N0 := iN_0 (fun κ i j q => by rw [nv κ i j (by omega)]; exact g1.2 κ i j (by omega)) (fun s hs => by rw [nv 30 0 s (by omega)]; exact g1.1 s (by omega)) (by rw [← hN0, zV_nj (by decide), zV_eq (by decide)]) (by rw [← hN0, zV_eq (by decide)]) (fun κ j q1 q2 q3 => by rw [nv κ 0 j q3, g1.2 κ 0 j q2]; exact zM0_hi (by omega))
        refine z_aload_n C 105 dL_law_105 rfl 11 rfl ?_
        refine z_iconst C 106 dL_law_106 ?_
        refine z_aload_n C 107 dL_law_107 rfl 10 rfl ?_
        refine z_aload_n C 108 dL_law_108 rfl 9 rfl ?_
        refine z_aload C 109 dL_law_109 7 rfl ?_
        refine z_aload C 111 dL_law_111 6 rfl ?_
        refine z_aload C 113 dL_law_113 5 rfl ?_
        refine z_aload C 115 dL_law_115 4 rfl ?_
        refine z_aload C 117 dL_law_117 3 rfl ?_
        refine z_aload C 119 dL_law_119 2 rfl ?_
        refine z_aload C 121 dL_law_121 0 rfl ?_
        refine z_callSi C 123 (As := [.ref (zad G 0 0), .int (zI 0), .ref (zad G 26 0), .ref (zad G 27 0), .ref (zad G 29 0), .ref (zad G 30 0), .ref (zad G 31 0), .ref (zad G 32 0), .ref (zad G 33 0), .ref (zad G 34 0), .ref (zad G 36 0)]) (rest := []) (c_L_isTold l G N0 hfl h0N (by omega) 0) (zS_of 11 C wm_L_178 wc_L_isTold wini_L wst_L_isTold ⟨by decide, by decide, by decide⟩ ⟨by decide, by decide⟩) rfl (Nat.le_of_ble_eq_true rfl) ⟨by decide, by decide⟩ dL_law_123 rfl (fun zq3 Mz4 hzq3 hPz3 => ?_)
        refine zZ_cs (k := 853) (n := 4700) (by decide) (by decide) ?_
        obtain ⟨rfl, hPz3⟩ := hPz3
        have hx9 := hPz3
        refine z_if_ne C 126 131 dL_law_126 (by decide) hzq3 (fun c126_43 => ?_) (fun c126_43 => ?_)
        rotate_left
        · exact absurd c126_43 (by omega)
        refine z_iconst C 131 dL_law_131 ?_
        refine z_istore (lv' := [(13, .int (zI 0)), (12, .ref (zad G 36 0)), (11, .ref (zad G 35 0)), (10, .ref (zad G 34 0)), (9, .ref (zad G 33 0)), (8, .ref (zad G 32 0)), (7, .ref (zad G 31 0)), (6, .ref (zad G 30 0)), (5, .ref (zad G 29 0)), (4, .ref (zad G 28 0)), (3, .ref (zad G 27 0)), (2, .ref (zad G 26 0)), (1, .ref (zad G 0 0)), (0, .ref (zS G).1)]) C 132 dL_law_132 (by decide) rfl ?_
        have L134_5 : ∀ (kz5 : Nat) (Ml : zMem) (k : Int), (0 ≤ k ∧ k ≤ 120) → (iN k.toNat Ml Ml) → (120 - k) < (kz5 : Int) → zZ p l e room_1 s m #[Value.ref b] below meth c G 18 (lw_Z below #[Value.ref b] s) Ml (853 + 540 * k.toNat) (4700 + 3240 * k.toNat) 134 [(12, .ref (zad G 36 0)), (11, .ref (zad G 35 0)), (10, .ref (zad G 34 0)), (9, .ref (zad G 33 0)), (8, .ref (zad G 32 0)), (7, .ref (zad G 31 0)), (6, .ref (zad G 30 0)), (5, .ref (zad G 29 0)), (4, .ref (zad G 28 0)), (3, .ref (zad G 27 0)), (2, .ref (zad G 26 0)), (1, .ref (zad G 0 0)), (0, .ref (zS G).1), (13, .int (zI k))] [] := by
          intro kz5
          induction kz5 with
          | zero =>
            intro Ml k t0 t1 hk
            exact absurd hk (by omega)
          | succ kz5 ihz6 =>
            intro Ml k t0 t1 hk
            refine z_iload C 134 dL_law_134 13 rfl ?_
            refine z_bipush C 136 dL_law_136 (by decide +kernel) ?_
            refine z_icmp_ge C 138 313 dL_law_138 (by decide) (by first | assumption | omega) (by decide) (fun c138_58 => ?_) (fun c138_58 => ?_)
            · refine z_iconst C 313 dL_law_313 ?_
              exact zs_end C rfl hG (by omega) (by omega) dL_law_314
            refine z_aload_n C 141 dL_law_141 rfl 12 rfl ?_
            refine z_iconst C 142 dL_law_142 ?_
            refine z_iload C 143 dL_law_143 13 rfl ?_
            refine z_imul C 145 dL_law_145 ?_
            refine z_callSi C 146 (As := [.ref (zS G).1, .int (zI (3 * k))]) (rest := []) (c_L_cell l G Ml (3 * k) ⟨by omega, by omega⟩) (zS_of 2 C wm_L_182 wc_L_cell wini_L wst_L_cell ⟨by decide, by decide, by decide⟩ ⟨by decide, by decide⟩) rfl (Nat.le_of_ble_eq_true rfl) ⟨by show _ ≤ 600104; omega, by show _ ≤ 7301314; omega⟩ dL_law_146 rfl (fun zq7 Mz8 hzq7 hPz7 => ?_)
            refine zZ_cs (k := 853 + 540 * k.toNat) (n := 4700 + 3240 * k.toNat) (by omega) (by omega) ?_
            obtain ⟨rfl, hPz7⟩ := hPz7
            refine z_istore (lv' := [(14, .int (zI zq7)), (12, .ref (zad G 36 0)), (11, .ref (zad G 35 0)), (10, .ref (zad G 34 0)), (9, .ref (zad G 33 0)), (8, .ref (zad G 32 0)), (7, .ref (zad G 31 0)), (6, .ref (zad G 30 0)), (5, .ref (zad G 29 0)), (4, .ref (zad G 28 0)), (3, .ref (zad G 27 0)), (2, .ref (zad G 26 0)), (1, .ref (zad G 0 0)), (0, .ref (zS G).1), (13, .int (zI k))]) C 149 dL_law_149 (by decide) rfl ?_
            refine z_aload_n C 151 dL_law_151 rfl 13 rfl ?_
            refine z_iconst C 152 dL_law_152 ?_
            refine z_iload C 153 dL_law_153 14 rfl ?_
            refine z_imul C 155 dL_law_155 ?_
            refine z_iconst C 156 dL_law_156 ?_
            refine z_iadd C 157 dL_law_157 ?_
            refine z_callSi C 158 (As := [.ref (zS G).1, .int (zI ((3 * k) + 1))]) (rest := []) (c_L_cell l G Ml ((3 * k) + 1) ⟨by omega, by omega⟩) (zS_of 2 C wm_L_182 wc_L_cell wini_L wst_L_cell ⟨by decide, by decide, by decide⟩ ⟨by decide, by decide⟩) rfl (Nat.le_of_ble_eq_true rfl) ⟨by show _ ≤ 600104; omega, by show _ ≤ 7301314; omega⟩ dL_law_158 rfl (fun zq9 Mz10 hzq9 hPz9 => ?_)
            refine zZ_cs (k := 853 + 540 * k.toNat) (n := 4700 + 3240 * k.toNat) (by omega) (by omega) ?_
            obtain ⟨rfl, hPz9⟩ := hPz9
            refine z_istore (lv' := [(15, .int (zI zq9)), (14, .int (zI zq7)), (12, .ref (zad G 36 0)), (11, .ref (zad G 35 0)), (10, .ref (zad G 34 0)), (9, .ref (zad G 33 0)), (8, .ref (zad G 32 0)), (7, .ref (zad G 31 0)), (6, .ref (zad G 30 0)), (5, .ref (zad G 29 0)), (4, .ref (zad G 28 0)), (3, .ref (zad G 27 0)), (2, .ref (zad G 26 0)), (1, .ref (zad G 0 0)), (0, .ref (zS G).1), (13, .int (zI k))]) C 161 dL_law_161 (by decide) rfl ?_
            refine z_aload_n C 163 dL_law_163 rfl 14 rfl ?_
            refine z_iconst C 164 dL_law_164 ?_
            refine z_iload C 165 dL_law_165 15 rfl ?_
            refine z_imul C 167 dL_law_167 ?_
            refine z_iconst C 168 dL_law_168 ?_
            refine z_iadd C 169 dL_law_169 ?_
            refine z_callSi C 170 (As := [.ref (zS G).1, .int (zI ((3 * k) + 2))]) (rest := []) (c_L_cell l G Ml ((3 * k) + 2) ⟨by omega, by omega⟩) (zS_of 2 C wm_L_182 wc_L_cell wini_L wst_L_cell ⟨by decide, by decide, by decide⟩ ⟨by decide, by decide⟩) rfl (Nat.le_of_ble_eq_true rfl) ⟨by show _ ≤ 600104; omega, by show _ ≤ 7301314; omega⟩ dL_law_170 rfl (fun zq11 Mz12 hzq11 hPz11 => ?_)
            refine zZ_cs (k := 853 + 540 * k.toNat) (n := 4700 + 3240 * k.toNat) (by omega) (by omega) ?_
            obtain ⟨rfl, hPz11⟩ := hPz11
            refine z_istore (lv' := [(16, .int (zI zq11)), (15, .int (zI zq9)), (14, .int (zI zq7)), (12, .ref (zad G 36 0)), (11, .ref (zad G 35 0)), (10, .ref (zad G 34 0)), (9, .ref (zad G 33 0)), (8, .ref (zad G 32 0)), (7, .ref (zad G 31 0)), (6, .ref (zad G 30 0)), (5, .ref (zad G 29 0)), (4, .ref (zad G 28 0)), (3, .ref (zad G 27 0)), (2, .ref (zad G 26 0)), (1, .ref (zad G 0 0)), (0, .ref (zS G).1), (13, .int (zI k))]) C 173 dL_law_173 (by decide) rfl ?_
            have J204_13 : ∀ (a : Int), (0 ≤ a ∧ a < 32) → zZ p l e room_1 s m #[Value.ref b] below meth c G 18 (lw_Z below #[Value.ref b] s) Ml (853 + 540 * k.toNat) (4700 + 3240 * k.toNat) 204 [(16, .int (zI zq11)), (15, .int (zI zq9)), (14, .int (zI zq7)), (12, .ref (zad G 36 0)), (11, .ref (zad G 35 0)), (10, .ref (zad G 34 0)), (9, .ref (zad G 33 0)), (8, .ref (zad G 32 0)), (7, .ref (zad G 31 0)), (6, .ref (zad G 30 0)), (5, .ref (zad G 29 0)), (4, .ref (zad G 28 0)), (3, .ref (zad G 27 0)), (2, .ref (zad G 26 0)), (1, .ref (zad G 0 0)), (0, .ref (zS G).1), (13, .int (zI k))] [.int (zI a)] := by
              intro a a0
              refine z_istore (lv' := [(17, .int (zI a)), (16, .int (zI zq11)), (15, .int (zI zq9)), (14, .int (zI zq7)), (12, .ref (zad G 36 0)), (11, .ref (zad G 35 0)), (10, .ref (zad G 34 0)), (9, .ref (zad G 33 0)), (8, .ref (zad G 32 0)), (7, .ref (zad G 31 0)), (6, .ref (zad G 30 0)), (5, .ref (zad G 29 0)), (4, .ref (zad G 28 0)), (3, .ref (zad G 27 0)), (2, .ref (zad G 26 0)), (1, .ref (zad G 0 0)), (0, .ref (zS G).1), (13, .int (zI k))]) C 204 dL_law_204 (by decide) rfl ?_
              refine z_iload C 206 dL_law_206 0 rfl ?_
              refine z_bipush C 208 dL_law_208 (by decide +kernel) ?_
              refine z_icmp_ge C 210 239 dL_law_210 (by decide) (by first | assumption | omega) (by decide) (fun c210_94 => ?_) (fun c210_94 => ?_)
              · refine z_aload_n C 239 dL_law_239 rfl 15 rfl ?_
                refine z_iload C 240 dL_law_240 0 rfl ?_
                refine z_bipush C 242 dL_law_242 (by decide +kernel) ?_
                refine z_isub C 244 dL_law_244 ?_
                refine z_iload C 245 dL_law_245 2 rfl ?_
                refine z_iload C 247 dL_law_247 1 rfl ?_
                refine z_aload_n C 249 dL_law_249 rfl 14 rfl ?_
                refine z_aload_n C 250 dL_law_250 rfl 13 rfl ?_
                refine z_aload C 251 dL_law_251 12 rfl ?_
                refine z_aload C 253 dL_law_253 11 rfl ?_
                refine z_aload C 255 dL_law_255 10 rfl ?_
                refine z_aload C 257 dL_law_257 9 rfl ?_
                refine z_aload C 259 dL_law_259 8 rfl ?_
                refine z_aload C 261 dL_law_261 7 rfl ?_
                refine z_aload C 263 dL_law_263 6 rfl ?_
                refine z_aload C 265 dL_law_265 5 rfl ?_
                refine z_aload C 267 dL_law_267 4 rfl ?_
                refine z_callSi C 269 (As := [.ref (zad G 0 0), .int (zI (a - 12)), .int (zI zq9), .int (zI zq11), .ref (zad G 26 0), .ref (zad G 27 0), .ref (zad G 28 0), .ref (zad G 29 0), .ref (zad G 30 0), .ref (zad G 31 0), .ref (zad G 32 0), .ref (zad G 33 0), .ref (zad G 34 0), .ref (zad G 35 0), .ref (zad G 36 0)]) (rest := []) (c_L_routes l G Ml hfl t1 (by omega) (a - 12) zq9 zq11 (by omega)) (zS_of 15 C wm_L_190 wc_L_routes wini_L wst_L_routes ⟨by decide, by decide, by decide⟩ ⟨by decide, by decide⟩) rfl (Nat.le_of_ble_eq_true rfl) ⟨by show _ ≤ 600104; omega, by show _ ≤ 7301314; omega⟩ dL_law_269 rfl (fun zq14 Mz15 hzq14 hPz14 => ?_)
                refine zZ_cs (k := 873 + 540 * k.toNat) (n := 4820 + 3240 * k.toNat) (by omega) (by omega) ?_
                obtain ⟨hx9, hN9⟩ := hPz14
                refine z_if_eq C 272 305 dL_law_272 (by decide) hzq14 (fun c272_116 => ?_) (fun c272_116 => ?_)
                · exact absurd c272_116 (by omega)
                refine z_aload_n C 275 dL_law_275 rfl 15 rfl ?_
                refine z_iload C 276 dL_law_276 3 rfl ?_
                refine z_iconst C 278 dL_law_278 ?_
                refine z_ishr_any C 279 dL_law_279 (fun zv16 hzv16 => ?_)
                refine z_iload C 280 dL_law_280 2 rfl ?_
                refine z_ixor_any C 282 dL_law_282 (fun zv17 hzv17 => ?_)
                refine z_aload_n C 283 dL_law_283 rfl 14 rfl ?_
                refine z_aload_n C 284 dL_law_284 rfl 13 rfl ?_
                refine z_aload C 285 dL_law_285 11 rfl ?_
                refine z_aload C 287 dL_law_287 10 rfl ?_
                refine z_aload C 289 dL_law_289 9 rfl ?_
                refine z_aload C 291 dL_law_291 8 rfl ?_
                refine z_aload C 293 dL_law_293 7 rfl ?_
                refine z_aload C 295 dL_law_295 6 rfl ?_
                refine z_aload C 297 dL_law_297 4 rfl ?_
                refine z_callSi C 299 (As := [.ref (zad G 0 0), .int (zI zv17), .ref (zad G 26 0), .ref (zad G 27 0), .ref (zad G 29 0), .ref (zad G 30 0), .ref (zad G 31 0), .ref (zad G 32 0), .ref (zad G 33 0), .ref (zad G 34 0), .ref (zad G 36 0)]) (rest := []) (c_L_isTold l G Mz15 hfl hN9 (by omega) zv17) (zS_of 11 C wm_L_178 wc_L_isTold wini_L wst_L_isTold ⟨by decide, by decide, by decide⟩ ⟨by decide, by decide⟩) rfl (Nat.le_of_ble_eq_true rfl) ⟨by show _ ≤ 600104; omega, by show _ ≤ 7301314; omega⟩ dL_law_299 rfl (fun zq18 Mz19 hzq18 hPz18 => ?_)
                refine zZ_cs (k := 1373 + 540 * k.toNat) (n := 7820 + 3240 * k.toNat) (by omega) (by omega) ?_
                obtain ⟨rfl, hPz18⟩ := hPz18
                have hx8 := hPz18
                refine z_if_ne C 302 307 dL_law_302 (by decide) hzq18 (fun c302_137 => ?_) (fun c302_137 => ?_)
                rotate_left
                · exact absurd c302_137 (by omega)
                refine z_iinc (lv' := [(13, .int (zI (k + 1))), (17, .int (zI a)), (16, .int (zI zq11)), (15, .int (zI zq9)), (14, .int (zI zq7)), (12, .ref (zad G 36 0)), (11, .ref (zad G 35 0)), (10, .ref (zad G 34 0)), (9, .ref (zad G 33 0)), (8, .ref (zad G 32 0)), (7, .ref (zad G 31 0)), (6, .ref (zad G 30 0)), (5, .ref (zad G 29 0)), (4, .ref (zad G 28 0)), (3, .ref (zad G 27 0)), (2, .ref (zad G 26 0)), (1, .ref (zad G 0 0)), (0, .ref (zS G).1)]) C 307 dL_law_307 17 rfl (by decide) rfl ?_
                refine z_goto C 310 134 dL_law_310 (by decide) ?_
                refine z_sub (lv' := [(12, .ref (zad G 36 0)), (11, .ref (zad G 35 0)), (10, .ref (zad G 34 0)), (9, .ref (zad G 33 0)), (8, .ref (zad G 32 0)), (7, .ref (zad G 31 0)), (6, .ref (zad G 30 0)), (5, .ref (zad G 29 0)), (4, .ref (zad G 28 0)), (3, .ref (zad G 27 0)), (2, .ref (zad G 26 0)), (1, .ref (zad G 0 0)), (0, .ref (zS G).1), (13, .int (zI (k + 1)))]) [5, 6, 7, 8, 9, 10, 11, 12, 13, 14, 15, 16, 17, 0] rfl ?_
                refine zZ_wd (k := 853 + 540 * (k + 1 : Int).toNat) (n := 4700 + 3240 * (k + 1 : Int).toNat) (by omega) (by omega) ?_
                exact ihz6 Mz15 (k + 1) (by omega) (by rw [show (k + 1).toNat = k.toNat + 1 by omega]; exact hN9) (by omega)
              refine z_aload_n C 213 dL_law_213 rfl 15 rfl ?_
              refine z_iload C 214 dL_law_214 0 rfl ?_
              refine z_iload C 216 dL_law_216 2 rfl ?_
              refine z_iload C 218 dL_law_218 1 rfl ?_
              refine z_aload_n C 220 dL_law_220 rfl 14 rfl ?_
              refine z_aload_n C 221 dL_law_221 rfl 13 rfl ?_
              refine z_aload C 222 dL_law_222 12 rfl ?_
              refine z_aload C 224 dL_law_224 10 rfl ?_
              refine z_aload C 226 dL_law_226 8 rfl ?_
              refine z_aload C 228 dL_law_228 4 rfl ?_
              refine z_callSi C 230 (As := [.ref (zad G 0 0), .int (zI a), .int (zI zq9), .int (zI zq11), .ref (zad G 26 0), .ref (zad G 27 0), .ref (zad G 28 0), .ref (zad G 30 0), .ref (zad G 32 0), .ref (zad G 36 0)]) (rest := []) (c_L_registers l G Ml hfl t1 (by omega) a zq9 zq11 (by omega)) (zS_of 10 C wm_L_186 wc_L_registers wini_L wst_L_registers ⟨by decide, by decide, by decide⟩ ⟨by decide, by decide⟩) rfl (Nat.le_of_ble_eq_true rfl) ⟨by show _ ≤ 600104; omega, by show _ ≤ 7301314; omega⟩ dL_law_230 rfl (fun zq20 Mz21 hzq20 hPz20 => ?_)
              refine zZ_cs (k := 893 + 540 * k.toNat) (n := 4940 + 3240 * k.toNat) (by omega) (by omega) ?_
              obtain ⟨hx9, hN9⟩ := hPz20
              refine z_if_eq C 233 305 dL_law_233 (by decide) hzq20 (fun c233_157 => ?_) (fun c233_157 => ?_)
              · exact absurd c233_157 (by omega)
              refine z_goto C 236 275 dL_law_236 (by decide) ?_
              refine z_aload_n C 275 dL_law_275 rfl 15 rfl ?_
              refine z_iload C 276 dL_law_276 3 rfl ?_
              refine z_iconst C 278 dL_law_278 ?_
              refine z_ishr_any C 279 dL_law_279 (fun zv22 hzv22 => ?_)
              refine z_iload C 280 dL_law_280 2 rfl ?_
              refine z_ixor_any C 282 dL_law_282 (fun zv23 hzv23 => ?_)
              refine z_aload_n C 283 dL_law_283 rfl 14 rfl ?_
              refine z_aload_n C 284 dL_law_284 rfl 13 rfl ?_
              refine z_aload C 285 dL_law_285 11 rfl ?_
              refine z_aload C 287 dL_law_287 10 rfl ?_
              refine z_aload C 289 dL_law_289 9 rfl ?_
              refine z_aload C 291 dL_law_291 8 rfl ?_
              refine z_aload C 293 dL_law_293 7 rfl ?_
              refine z_aload C 295 dL_law_295 6 rfl ?_
              refine z_aload C 297 dL_law_297 4 rfl ?_
              refine z_callSi C 299 (As := [.ref (zad G 0 0), .int (zI zv23), .ref (zad G 26 0), .ref (zad G 27 0), .ref (zad G 29 0), .ref (zad G 30 0), .ref (zad G 31 0), .ref (zad G 32 0), .ref (zad G 33 0), .ref (zad G 34 0), .ref (zad G 36 0)]) (rest := []) (c_L_isTold l G Mz21 hfl hN9 (by omega) zv23) (zS_of 11 C wm_L_178 wc_L_isTold wini_L wst_L_isTold ⟨by decide, by decide, by decide⟩ ⟨by decide, by decide⟩) rfl (Nat.le_of_ble_eq_true rfl) ⟨by show _ ≤ 600104; omega, by show _ ≤ 7301314; omega⟩ dL_law_299 rfl (fun zq24 Mz25 hzq24 hPz24 => ?_)
              refine zZ_cs (k := 1393 + 540 * k.toNat) (n := 7940 + 3240 * k.toNat) (by omega) (by omega) ?_
              obtain ⟨rfl, hPz24⟩ := hPz24
              have hx8 := hPz24
              refine z_if_ne C 302 307 dL_law_302 (by decide) hzq24 (fun c302_179 => ?_) (fun c302_179 => ?_)
              rotate_left
              · exact absurd c302_179 (by omega)
              refine z_iinc (lv' := [(13, .int (zI (k + 1))), (17, .int (zI a)), (16, .int (zI zq11)), (15, .int (zI zq9)), (14, .int (zI zq7)), (12, .ref (zad G 36 0)), (11, .ref (zad G 35 0)), (10, .ref (zad G 34 0)), (9, .ref (zad G 33 0)), (8, .ref (zad G 32 0)), (7, .ref (zad G 31 0)), (6, .ref (zad G 30 0)), (5, .ref (zad G 29 0)), (4, .ref (zad G 28 0)), (3, .ref (zad G 27 0)), (2, .ref (zad G 26 0)), (1, .ref (zad G 0 0)), (0, .ref (zS G).1)]) C 307 dL_law_307 17 rfl (by decide) rfl ?_
              refine z_goto C 310 134 dL_law_310 (by decide) ?_
              refine z_sub (lv' := [(12, .ref (zad G 36 0)), (11, .ref (zad G 35 0)), (10, .ref (zad G 34 0)), (9, .ref (zad G 33 0)), (8, .ref (zad G 32 0)), (7, .ref (zad G 31 0)), (6, .ref (zad G 30 0)), (5, .ref (zad G 29 0)), (4, .ref (zad G 28 0)), (3, .ref (zad G 27 0)), (2, .ref (zad G 26 0)), (1, .ref (zad G 0 0)), (0, .ref (zS G).1), (13, .int (zI (k + 1)))]) [5, 6, 7, 8, 9, 10, 11, 12, 13, 14, 15, 16, 17, 0] rfl ?_
              refine zZ_wd (k := 853 + 540 * (k + 1 : Int).toNat) (n := 4700 + 3240 * (k + 1 : Int).toNat) (by omega) (by omega) ?_
              exact ihz6 Mz21 (k + 1) (by omega) (by rw [show (k + 1).toNat = k.toNat + 1 by omega]; exact hN9) (by omega)
            refine z_iload C 175 dL_law_175 16 rfl ?_
            refine z_iconst C 177 dL_law_177 ?_
            refine z_icmp_ge C 178 185 dL_law_178 (by decide) (by first | assumption | omega) (by decide) (fun c178_189 => ?_) (fun c178_189 => ?_)
            · refine z_iload C 185 dL_law_185 16 rfl ?_
              refine z_bipush C 187 dL_law_187 (by decide +kernel) ?_
              refine z_icmp_ge C 189 197 dL_law_189 (by decide) (by first | assumption | omega) (by decide) (fun c189_193 => ?_) (fun c189_193 => ?_)
              · refine z_iload C 197 dL_law_197 2 rfl ?_
                refine z_bipush C 199 dL_law_199 (by decide +kernel) ?_
                refine z_callSi C 201 (As := [.int (zI zq7), .int (zI 32)]) (rest := []) (c_L_low l G Ml zq7 32 (by omega)) (zS_of 2 C wm_L_85 wc_L_low wini_L wst_L_low ⟨by decide, by decide, by decide⟩ ⟨by decide, by decide⟩) rfl (Nat.le_of_ble_eq_true rfl) ⟨by show _ ≤ 600104; omega, by show _ ≤ 7301314; omega⟩ dL_law_201 rfl (fun zq26 Mz27 hzq26 hPz26 => ?_)
                refine zZ_cs (k := 853 + 540 * k.toNat) (n := 4700 + 3240 * k.toNat) (by omega) (by omega) ?_
                obtain ⟨rfl, hPz26⟩ := hPz26
                exact J204_13 zq26 (by omega)
              refine z_bipush C 192 dL_law_192 (by decide +kernel) ?_
              refine z_goto C 194 204 dL_law_194 (by decide) ?_
              exact J204_13 6 (by omega)
            refine z_iconst C 181 dL_law_181 ?_
            refine z_goto C 182 204 dL_law_182 (by decide) ?_
            exact J204_13 0 (by omega)
        refine z_sub (lv' := [(12, .ref (zad G 36 0)), (11, .ref (zad G 35 0)), (10, .ref (zad G 34 0)), (9, .ref (zad G 33 0)), (8, .ref (zad G 32 0)), (7, .ref (zad G 31 0)), (6, .ref (zad G 30 0)), (5, .ref (zad G 29 0)), (4, .ref (zad G 28 0)), (3, .ref (zad G 27 0)), (2, .ref (zad G 26 0)), (1, .ref (zad G 0 0)), (0, .ref (zS G).1), (13, .int (zI 0))]) [1, 2, 3, 4, 5, 6, 7, 8, 9, 10, 11, 12, 13, 0] rfl ?_
        refine zZ_wd (k := 853 + 540 * (0 : Int).toNat) (n := 4700 + 3240 * (0 : Int).toNat) (by omega) (by omega) ?_
        exact L134_5 (((120 - 0 : Int)).toNat + 1) N0 0 (by omega) (by exact h0N) (by omega)
      refine z_aload C 81 dL_law_81 6 rfl ?_
      refine z_iload C 83 dL_law_83 13 rfl ?_
      refine z_iconst C 85 dL_law_85 ?_
      refine z_iastj C 86 (show 0 < 1 by omega) (zc30 ..) k.toNat rfl (by first | assumption | omega) (by omega) (show k < ((16 : Nat) : Int) by omega) (zc30 ..) dL_law_86 ?_
      refine z_iinc (lv' := [(13, .int (zI (k + 1))), (12, .ref (zad G 36 0)), (11, .ref (zad G 35 0)), (10, .ref (zad G 34 0)), (9, .ref (zad G 33 0)), (8, .ref (zad G 32 0)), (7, .ref (zad G 31 0)), (6, .ref (zad G 30 0)), (5, .ref (zad G 29 0)), (4, .ref (zad G 28 0)), (3, .ref (zad G 27 0)), (2, .ref (zad G 26 0)), (1, .ref (zad G 0 0)), (0, .ref (zS G).1)]) C 87 dL_law_87 13 rfl (by decide) rfl ?_
      refine z_goto C 90 74 dL_law_90 (by decide) ?_
      refine z_sub (lv' := [(12, .ref (zad G 36 0)), (11, .ref (zad G 35 0)), (10, .ref (zad G 34 0)), (9, .ref (zad G 33 0)), (8, .ref (zad G 32 0)), (7, .ref (zad G 31 0)), (6, .ref (zad G 30 0)), (5, .ref (zad G 29 0)), (4, .ref (zad G 28 0)), (3, .ref (zad G 27 0)), (2, .ref (zad G 26 0)), (1, .ref (zad G 0 0)), (0, .ref (zS G).1), (13, .int (zI (k + 1)))]) [1, 2, 3, 4, 5, 6, 7, 8, 9, 10, 11, 12, 13, 0] rfl ?_
      exact ihz2 (zup Mr 30 0 k.toNat (zI (-1))) (k + 1) (by omega) (by exact jz0_1 (by omega) g1) (by omega)
  refine z_sub (lv' := [(12, .ref (zad G 36 0)), (11, .ref (zad G 35 0)), (10, .ref (zad G 34 0)), (9, .ref (zad G 33 0)), (8, .ref (zad G 32 0)), (7, .ref (zad G 31 0)), (6, .ref (zad G 30 0)), (5, .ref (zad G 29 0)), (4, .ref (zad G 28 0)), (3, .ref (zad G 27 0)), (2, .ref (zad G 26 0)), (1, .ref (zad G 0 0)), (0, .ref (zS G).1), (13, .int (zI 0))]) [1, 2, 3, 4, 5, 6, 7, 8, 9, 10, 11, 12, 13, 0] rfl ?_
  exact L74_1 (((16 - 0 : Int)).toNat + 1) zM0 0 (by omega) (by exact jz0_0) (by omega)
/-- from the entry to the end -/
theorem whole_start {p : Program} {e : Env} {s : State} {m : MethodId} {below : List Frame} {meth : Method} {c : Code} (l : Launch) (hflags : l.flags = flags0) {b L : Nat} {xs : Nat → Int32} (hL : L ≤ 260) (C0 : lw_At p s m meth c b L xs) : W p l e room_1 s m #[Value.ref b] below meth c s.heap [] 0 0 (lw_Z below #[Value.ref b] s) (entryFrame m ([Value.ref b] : List Value).toArray 18) :=
  law_begin l hL C0 (fun G hG C => law_loop l (zflags hflags) G hG C)
