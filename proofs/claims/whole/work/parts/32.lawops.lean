set_option maxHeartbeats 4000000 in
set_option maxRecDepth 100000 in
theorem law_op0 {p : Program} {l : Launch} {e : Env} {s : State} {m : MethodId} {below : List Frame} {meth : Method} {c : Code} {G : zG} {b L : Nat} {xs : Nat → Int32} {M : zMem} {cells slots : Nat} {i : Int} (C : zC p s m #[Value.ref b] meth c G RL cL_law 7 (some .boolean)) (hN : zNC s) (hX : va_X b L xs s s.heap) (hbl : b < s.heap.size) (hG : G.2.2 = s.heap) (hi : 0 ≤ i) (hi5 : i + 5 ≤ L) (hL : L ≤ 2560) (hc : cells + 6 ≤ 668696) (hs : slots + 36 ≤ 7090017) {PW : Int → zMem → Prop} {NX : zMem → Prop} (hW : Met l yL_register [.codeWith yL_register cL_register 5 (some .int) hh_register] (zR 10 4 24) (zwPc G M [.ref (zad G 0 0), .int (zI (xs (i + 1).toNat).toInt), .int (zI (xs (i + 2).toNat).toInt), .ref (zad G 27 0)]) (zQi G PW) 4 24 (zA G))
    (hop : ∀ (k : Int) (M1 : zMem), zrg k → PW k M1 → ∃ PR : Int → zMem → Prop, Met l yX8_register [.code yX8_register cX8_register 5 (some .int)] (zR 3 0 0) (zPc G M1 [.ref (zad G 26 0), .int (zI (xs (i + 1).toNat).toInt), .int (zI (xs (i + 2).toNat).toInt)]) (zQi G PR) 0 0 (zA G) ∧ ∀ (x : Int) (M2 : zMem), zrg x → PR x M2 → zV M2 26 0 0 = k ∧ (k = 0 → zV M2 27 0 0 = x) ∧ NX M2)
    (hnx : ∀ M2 : zMem, NX M2 → zZ p l e room_1 s m #[Value.ref b] below meth c G 7 (lw_Z below #[Value.ref b] s) M2 (cells + 4) (slots + 24) 1596 [(4, .int (zI i)), (3, .ref (zad G 27 0)), (2, .ref (zad G 26 0)), (1, .ref (zad G 0 0)), (0, .ref b)] []) : zZ p l e room_1 s m #[Value.ref b] below meth c G 7 (lw_Z below #[Value.ref b] s) M cells slots 140 [(4, .int (zI i)), (3, .ref (zad G 27 0)), (2, .ref (zad G 26 0)), (1, .ref (zad G 0 0)), (0, .ref b)] [] := by
  refine z_aload_n C 140 dL_law_140 rfl 3 rfl ?_
  refine z_aload_n C 141 dL_law_141 rfl 4 rfl ?_
  refine z_iload C 142 dL_law_142 0 rfl ?_
  refine z_iconst C 144 dL_law_144 ?_
  refine z_iadd C 145 dL_law_145 ?_
  refine zs_ld C hX hbl hG 146 (by omega) (by omega) (by omega) dL_law_146 (fun y1 hy1 ey => ?_)
  subst ey
  refine z_aload_n C 147 dL_law_147 rfl 4 rfl ?_
  refine z_iload C 148 dL_law_148 0 rfl ?_
  refine z_iconst C 150 dL_law_150 ?_
  refine z_iadd C 151 dL_law_151 ?_
  refine zs_ld C hX hbl hG 152 (by omega) (by omega) (by omega) dL_law_152 (fun y2 hy2 ey => ?_)
  subst ey
  refine z_aload_n C 153 dL_law_153 rfl 1 rfl ?_
  refine zs_call C hN 154 (As := [.ref (zad G 0 0), .int (zI (xs (i + 1).toNat).toInt), .int (zI (xs (i + 2).toNat).toInt), .ref (zad G 27 0)]) (rest := []) (n := 4) (hh := hh_register) hW wm_L_88 wcw_L_register wini_L wst_L_register ⟨by decide, by decide, by decide⟩ ⟨by decide, by decide⟩ rfl (Nat.le_of_ble_eq_true rfl) ⟨by show _ ≤ (668696 : Nat); omega, by show _ ≤ (7090017 : Nat); omega⟩ dL_law_154 rfl (fun k M1 hk hPW => ?_)
  obtain ⟨PR, hR, hend⟩ := hop k M1 hk hPW
  refine z_istore (lv' := [(5, .int (zI k)), (4, .int (zI i)), (3, .ref (zad G 27 0)), (2, .ref (zad G 26 0)), (1, .ref (zad G 0 0)), (0, .ref b)]) C 157 dL_law_157 (by decide) rfl ?_
  refine z_aload_n C 159 dL_law_159 rfl 3 rfl ?_
  refine z_aload_n C 160 dL_law_160 rfl 5 rfl ?_
  refine z_iload C 161 dL_law_161 1 rfl ?_
  refine z_iconst C 163 dL_law_163 ?_
  refine z_iadd C 164 dL_law_164 ?_
  refine zs_ld C hX hbl hG 165 (by omega) (by omega) (by omega) dL_law_165 (fun y3 hy3 ey => ?_)
  subst ey
  refine z_aload_n C 166 dL_law_166 rfl 5 rfl ?_
  refine z_iload C 167 dL_law_167 1 rfl ?_
  refine z_iconst C 169 dL_law_169 ?_
  refine z_iadd C 170 dL_law_170 ?_
  refine zs_ld C hX hbl hG 171 (by omega) (by omega) (by omega) dL_law_171 (fun y4 hy4 ey => ?_)
  subst ey
  refine z_callVi C 172 (As := [.int (zI (xs (i + 1).toNat).toInt), .int (zI (xs (i + 2).toNat).toInt)]) (rest := []) hR zcl8 (show 0 < 1 by omega) (zc26 ..) (zW_of 2 C wm_L_93 wc_X8_register wini_8 wi_X8_register wse_X8_register ⟨by decide, by decide, by decide⟩ ⟨by decide, by decide⟩) rfl (Nat.le_of_ble_eq_true rfl) ⟨by show _ ≤ (668696 : Nat); omega, by show _ ≤ (7090017 : Nat); omega⟩ dL_law_172 rfl (fun x M2 hx hPR => ?_)
  obtain ⟨he1, he2, hn2⟩ := hend x M2 hx hPR
  refine z_istore (lv' := [(6, .int (zI x)), (5, .int (zI k)), (4, .int (zI i)), (3, .ref (zad G 27 0)), (2, .ref (zad G 26 0)), (1, .ref (zad G 0 0)), (0, .ref b)]) C 175 dL_law_175 (by decide) rfl ?_
  refine z_aload_n C 177 dL_law_177 rfl 4 rfl ?_
  refine z_callVi C 178 (As := []) (rest := []) (c_X8_thrown l G M2) zcl8 (show 0 < 1 by omega) (zc26 ..) (zW_of 0 C wm_L_94 wc_X8_thrown wini_8 wi_X8_thrown wse_X8_thrown ⟨by decide, by decide, by decide⟩ ⟨by decide, by decide⟩) rfl (Nat.le_of_ble_eq_true rfl) ⟨by show _ ≤ (668696 : Nat); omega, by show _ ≤ (7090017 : Nat); omega⟩ dL_law_178 rfl (fun th M3 hth hP3 => ?_)
  obtain ⟨rfl, hP3⟩ := hP3
  have hP3 : th = k := hP3.trans he1
  subst hP3
  refine z_iload C 181 dL_law_181 1 rfl ?_
  refine z_icmp_eq C 183 188 dL_law_183 (by decide) hth hth (fun _ => ?_) (fun c1 => absurd rfl c1)
  refine z_iload C 188 dL_law_188 1 rfl ?_
  refine z_if_ne C 190 205 dL_law_190 (by decide) hth (fun c1 => ?_) (fun c1 => ?_)
  · refine z_goto C 205 1596 dL_law_205 (by decide) ?_
    refine z_sub (lv' := [(4, .int (zI i)), (3, .ref (zad G 27 0)), (2, .ref (zad G 26 0)), (1, .ref (zad G 0 0)), (0, .ref b)]) [2, 3, 4, 5, 6] rfl ?_
    exact hnx M2 hn2
  have hz0 : th = 0 := by omega
  have he2 := he2 hz0
  refine z_aload_n C 193 dL_law_193 rfl 3 rfl ?_
  refine z_iconst C 194 dL_law_194 ?_
  refine zs_lald C 195 dL_law_195 ?_
  rw [he2]
  refine z_iload C 196 dL_law_196 0 rfl ?_
  refine z_i2l C 198 dL_law_198 ?_
  refine zs_cmp C 199 dL_law_199 ?_
  refine z_if_eq C 200 205 dL_law_200 (by decide) (by decide) (fun _ => ?_) (fun c3 => absurd rfl c3)
  refine z_goto C 205 1596 dL_law_205 (by decide) ?_
  refine z_sub (lv' := [(4, .int (zI i)), (3, .ref (zad G 27 0)), (2, .ref (zad G 26 0)), (1, .ref (zad G 0 0)), (0, .ref b)]) [2, 3, 4, 5, 6] rfl ?_
  exact hnx M2 hn2
set_option maxHeartbeats 4000000 in
set_option maxRecDepth 100000 in
theorem law_op1 {p : Program} {l : Launch} {e : Env} {s : State} {m : MethodId} {below : List Frame} {meth : Method} {c : Code} {G : zG} {b L : Nat} {xs : Nat → Int32} {M : zMem} {cells slots : Nat} {i : Int} (C : zC p s m #[Value.ref b] meth c G RL cL_law 7 (some .boolean)) (hN : zNC s) (hX : va_X b L xs s s.heap) (hbl : b < s.heap.size) (hG : G.2.2 = s.heap) (hi : 0 ≤ i) (hi5 : i + 5 ≤ L) (hL : L ≤ 2560) (hc : cells + 6 ≤ 668696) (hs : slots + 36 ≤ 7090017) {PW : Int → zMem → Prop} {NX : zMem → Prop} (hW : Met l yL_withdraw [.codeWith yL_withdraw cL_withdraw 4 (some .int) hh_withdraw] (zR 9 2 12) (zwPc G M [.ref (zad G 0 0), .int (zI (xs (i + 1).toNat).toInt), .ref (zad G 27 0)]) (zQi G PW) 2 12 (zA G))
    (hop : ∀ (k : Int) (M1 : zMem), zrg k → PW k M1 → ∃ PR : Int → zMem → Prop, Met l yX8_withdraw [.code yX8_withdraw cX8_withdraw 4 (some .int)] (zR 3 0 0) (zPc G M1 [.ref (zad G 26 0), .int (zI (xs (i + 1).toNat).toInt)]) (zQi G PR) 0 0 (zA G) ∧ ∀ (x : Int) (M2 : zMem), zrg x → PR x M2 → zV M2 26 0 0 = k ∧ (k = 0 → zV M2 27 0 0 = x) ∧ NX M2)
    (hnx : ∀ M2 : zMem, NX M2 → zZ p l e room_1 s m #[Value.ref b] below meth c G 7 (lw_Z below #[Value.ref b] s) M2 (cells + 2) (slots + 12) 1596 [(4, .int (zI i)), (3, .ref (zad G 27 0)), (2, .ref (zad G 26 0)), (1, .ref (zad G 0 0)), (0, .ref b)] []) : zZ p l e room_1 s m #[Value.ref b] below meth c G 7 (lw_Z below #[Value.ref b] s) M cells slots 208 [(4, .int (zI i)), (3, .ref (zad G 27 0)), (2, .ref (zad G 26 0)), (1, .ref (zad G 0 0)), (0, .ref b)] [] := by
  refine z_aload_n C 208 dL_law_208 rfl 3 rfl ?_
  refine z_aload_n C 209 dL_law_209 rfl 4 rfl ?_
  refine z_iload C 210 dL_law_210 0 rfl ?_
  refine z_iconst C 212 dL_law_212 ?_
  refine z_iadd C 213 dL_law_213 ?_
  refine zs_ld C hX hbl hG 214 (by omega) (by omega) (by omega) dL_law_214 (fun y1 hy1 ey => ?_)
  subst ey
  refine z_aload_n C 215 dL_law_215 rfl 1 rfl ?_
  refine zs_call C hN 216 (As := [.ref (zad G 0 0), .int (zI (xs (i + 1).toNat).toInt), .ref (zad G 27 0)]) (rest := []) (n := 3) (hh := hh_withdraw) hW wm_L_98 wcw_L_withdraw wini_L wst_L_withdraw ⟨by decide, by decide, by decide⟩ ⟨by decide, by decide⟩ rfl (Nat.le_of_ble_eq_true rfl) ⟨by show _ ≤ (668696 : Nat); omega, by show _ ≤ (7090017 : Nat); omega⟩ dL_law_216 rfl (fun k M1 hk hPW => ?_)
  obtain ⟨PR, hR, hend⟩ := hop k M1 hk hPW
  refine z_istore (lv' := [(5, .int (zI k)), (4, .int (zI i)), (3, .ref (zad G 27 0)), (2, .ref (zad G 26 0)), (1, .ref (zad G 0 0)), (0, .ref b)]) C 219 dL_law_219 (by decide) rfl ?_
  refine z_aload_n C 221 dL_law_221 rfl 3 rfl ?_
  refine z_aload_n C 222 dL_law_222 rfl 5 rfl ?_
  refine z_iload C 223 dL_law_223 1 rfl ?_
  refine z_iconst C 225 dL_law_225 ?_
  refine z_iadd C 226 dL_law_226 ?_
  refine zs_ld C hX hbl hG 227 (by omega) (by omega) (by omega) dL_law_227 (fun y2 hy2 ey => ?_)
  subst ey
  refine z_callVi C 228 (As := [.int (zI (xs (i + 1).toNat).toInt)]) (rest := []) hR zcl8 (show 0 < 1 by omega) (zc26 ..) (zW_of 1 C wm_L_101 wc_X8_withdraw wini_8 wi_X8_withdraw wse_X8_withdraw ⟨by decide, by decide, by decide⟩ ⟨by decide, by decide⟩) rfl (Nat.le_of_ble_eq_true rfl) ⟨by show _ ≤ (668696 : Nat); omega, by show _ ≤ (7090017 : Nat); omega⟩ dL_law_228 rfl (fun x M2 hx hPR => ?_)
  obtain ⟨he1, he2, hn2⟩ := hend x M2 hx hPR
  refine z_istore (lv' := [(6, .int (zI x)), (5, .int (zI k)), (4, .int (zI i)), (3, .ref (zad G 27 0)), (2, .ref (zad G 26 0)), (1, .ref (zad G 0 0)), (0, .ref b)]) C 231 dL_law_231 (by decide) rfl ?_
  refine z_aload_n C 233 dL_law_233 rfl 4 rfl ?_
  refine z_callVi C 234 (As := []) (rest := []) (c_X8_thrown l G M2) zcl8 (show 0 < 1 by omega) (zc26 ..) (zW_of 0 C wm_L_94 wc_X8_thrown wini_8 wi_X8_thrown wse_X8_thrown ⟨by decide, by decide, by decide⟩ ⟨by decide, by decide⟩) rfl (Nat.le_of_ble_eq_true rfl) ⟨by show _ ≤ (668696 : Nat); omega, by show _ ≤ (7090017 : Nat); omega⟩ dL_law_234 rfl (fun th M3 hth hP3 => ?_)
  obtain ⟨rfl, hP3⟩ := hP3
  have hP3 : th = k := hP3.trans he1
  subst hP3
  refine z_iload C 237 dL_law_237 1 rfl ?_
  refine z_icmp_eq C 239 244 dL_law_239 (by decide) hth hth (fun _ => ?_) (fun c1 => absurd rfl c1)
  refine z_iload C 244 dL_law_244 1 rfl ?_
  refine z_if_ne C 246 261 dL_law_246 (by decide) hth (fun c1 => ?_) (fun c1 => ?_)
  · refine z_goto C 261 1596 dL_law_261 (by decide) ?_
    refine z_sub (lv' := [(4, .int (zI i)), (3, .ref (zad G 27 0)), (2, .ref (zad G 26 0)), (1, .ref (zad G 0 0)), (0, .ref b)]) [2, 3, 4, 5, 6] rfl ?_
    exact hnx M2 hn2
  have hz0 : th = 0 := by omega
  have he2 := he2 hz0
  refine z_aload_n C 249 dL_law_249 rfl 3 rfl ?_
  refine z_iconst C 250 dL_law_250 ?_
  refine zs_lald C 251 dL_law_251 ?_
  rw [he2]
  refine z_iload C 252 dL_law_252 0 rfl ?_
  refine z_i2l C 254 dL_law_254 ?_
  refine zs_cmp C 255 dL_law_255 ?_
  refine z_if_eq C 256 261 dL_law_256 (by decide) (by decide) (fun _ => ?_) (fun c3 => absurd rfl c3)
  refine z_goto C 261 1596 dL_law_261 (by decide) ?_
  refine z_sub (lv' := [(4, .int (zI i)), (3, .ref (zad G 27 0)), (2, .ref (zad G 26 0)), (1, .ref (zad G 0 0)), (0, .ref b)]) [2, 3, 4, 5, 6] rfl ?_
  exact hnx M2 hn2
set_option maxHeartbeats 4000000 in
set_option maxRecDepth 100000 in
theorem law_op2 {p : Program} {l : Launch} {e : Env} {s : State} {m : MethodId} {below : List Frame} {meth : Method} {c : Code} {G : zG} {b L : Nat} {xs : Nat → Int32} {M : zMem} {cells slots : Nat} {i : Int} (C : zC p s m #[Value.ref b] meth c G RL cL_law 7 (some .boolean)) (hN : zNC s) (hX : va_X b L xs s s.heap) (hbl : b < s.heap.size) (hG : G.2.2 = s.heap) (hi : 0 ≤ i) (hi5 : i + 5 ≤ L) (hL : L ≤ 2560) (hc : cells + 6 ≤ 668696) (hs : slots + 36 ≤ 7090017) {PW : Int → zMem → Prop} {NX : zMem → Prop} (hW : Met l yL_addLocator [.codeWith yL_addLocator cL_addLocator 7 (some .int) hh_addLocator] (zR 9 6 36) (zwPc G M [.ref (zad G 0 0), .int (zI (xs (i + 1).toNat).toInt), .int (zI (xs (i + 2).toNat).toInt), .int (zI (xs (i + 3).toNat).toInt), .int (zI (xs (i + 4).toNat).toInt), .ref (zad G 27 0)]) (zQi G PW) 6 36 (zA G))
    (hop : ∀ (k : Int) (M1 : zMem), zrg k → PW k M1 → ∃ PR : Int → zMem → Prop, Met l yX8_addLocator [.code yX8_addLocator cX8_addLocator 7 (some .int)] (zR 4 0 0) (zPc G M1 [.ref (zad G 26 0), .int (zI (xs (i + 1).toNat).toInt), .int (zI (xs (i + 2).toNat).toInt), .int (zI (xs (i + 3).toNat).toInt), .int (zI (xs (i + 4).toNat).toInt)]) (zQi G PR) 0 0 (zA G) ∧ ∀ (x : Int) (M2 : zMem), zrg x → PR x M2 → zV M2 26 0 0 = k ∧ (k = 0 → zV M2 27 0 0 = x) ∧ NX M2)
    (hnx : ∀ M2 : zMem, NX M2 → zZ p l e room_1 s m #[Value.ref b] below meth c G 7 (lw_Z below #[Value.ref b] s) M2 (cells + 6) (slots + 36) 1596 [(4, .int (zI i)), (3, .ref (zad G 27 0)), (2, .ref (zad G 26 0)), (1, .ref (zad G 0 0)), (0, .ref b)] []) : zZ p l e room_1 s m #[Value.ref b] below meth c G 7 (lw_Z below #[Value.ref b] s) M cells slots 264 [(4, .int (zI i)), (3, .ref (zad G 27 0)), (2, .ref (zad G 26 0)), (1, .ref (zad G 0 0)), (0, .ref b)] [] := by
  refine z_aload_n C 264 dL_law_264 rfl 3 rfl ?_
  refine z_aload_n C 265 dL_law_265 rfl 4 rfl ?_
  refine z_iload C 266 dL_law_266 0 rfl ?_
  refine z_iconst C 268 dL_law_268 ?_
  refine z_iadd C 269 dL_law_269 ?_
  refine zs_ld C hX hbl hG 270 (by omega) (by omega) (by omega) dL_law_270 (fun y1 hy1 ey => ?_)
  subst ey
  refine z_aload_n C 271 dL_law_271 rfl 4 rfl ?_
  refine z_iload C 272 dL_law_272 0 rfl ?_
  refine z_iconst C 274 dL_law_274 ?_
  refine z_iadd C 275 dL_law_275 ?_
  refine zs_ld C hX hbl hG 276 (by omega) (by omega) (by omega) dL_law_276 (fun y2 hy2 ey => ?_)
  subst ey
  refine z_aload_n C 277 dL_law_277 rfl 4 rfl ?_
  refine z_iload C 278 dL_law_278 0 rfl ?_
  refine z_iconst C 280 dL_law_280 ?_
  refine z_iadd C 281 dL_law_281 ?_
  refine zs_ld C hX hbl hG 282 (by omega) (by omega) (by omega) dL_law_282 (fun y3 hy3 ey => ?_)
  subst ey
  refine z_aload_n C 283 dL_law_283 rfl 4 rfl ?_
  refine z_iload C 284 dL_law_284 0 rfl ?_
  refine z_iconst C 286 dL_law_286 ?_
  refine z_iadd C 287 dL_law_287 ?_
  refine zs_ld C hX hbl hG 288 (by omega) (by omega) (by omega) dL_law_288 (fun y4 hy4 ey => ?_)
  subst ey
  refine z_aload_n C 289 dL_law_289 rfl 1 rfl ?_
  refine zs_call C hN 290 (As := [.ref (zad G 0 0), .int (zI (xs (i + 1).toNat).toInt), .int (zI (xs (i + 2).toNat).toInt), .int (zI (xs (i + 3).toNat).toInt), .int (zI (xs (i + 4).toNat).toInt), .ref (zad G 27 0)]) (rest := []) (n := 6) (hh := hh_addLocator) hW wm_L_102 wcw_L_addLocator wini_L wst_L_addLocator ⟨by decide, by decide, by decide⟩ ⟨by decide, by decide⟩ rfl (Nat.le_of_ble_eq_true rfl) ⟨by show _ ≤ (668696 : Nat); omega, by show _ ≤ (7090017 : Nat); omega⟩ dL_law_290 rfl (fun k M1 hk hPW => ?_)
  obtain ⟨PR, hR, hend⟩ := hop k M1 hk hPW
  refine z_istore (lv' := [(5, .int (zI k)), (4, .int (zI i)), (3, .ref (zad G 27 0)), (2, .ref (zad G 26 0)), (1, .ref (zad G 0 0)), (0, .ref b)]) C 293 dL_law_293 (by decide) rfl ?_
  refine z_aload_n C 295 dL_law_295 rfl 3 rfl ?_
  refine z_aload_n C 296 dL_law_296 rfl 5 rfl ?_
  refine z_iload C 297 dL_law_297 1 rfl ?_
  refine z_iconst C 299 dL_law_299 ?_
  refine z_iadd C 300 dL_law_300 ?_
  refine zs_ld C hX hbl hG 301 (by omega) (by omega) (by omega) dL_law_301 (fun y5 hy5 ey => ?_)
  subst ey
  refine z_aload_n C 302 dL_law_302 rfl 5 rfl ?_
  refine z_iload C 303 dL_law_303 1 rfl ?_
  refine z_iconst C 305 dL_law_305 ?_
  refine z_iadd C 306 dL_law_306 ?_
  refine zs_ld C hX hbl hG 307 (by omega) (by omega) (by omega) dL_law_307 (fun y6 hy6 ey => ?_)
  subst ey
  refine z_aload_n C 308 dL_law_308 rfl 5 rfl ?_
  refine z_iload C 309 dL_law_309 1 rfl ?_
  refine z_iconst C 311 dL_law_311 ?_
  refine z_iadd C 312 dL_law_312 ?_
  refine zs_ld C hX hbl hG 313 (by omega) (by omega) (by omega) dL_law_313 (fun y7 hy7 ey => ?_)
  subst ey
  refine z_aload_n C 314 dL_law_314 rfl 5 rfl ?_
  refine z_iload C 315 dL_law_315 1 rfl ?_
  refine z_iconst C 317 dL_law_317 ?_
  refine z_iadd C 318 dL_law_318 ?_
  refine zs_ld C hX hbl hG 319 (by omega) (by omega) (by omega) dL_law_319 (fun y8 hy8 ey => ?_)
  subst ey
  refine z_callVi C 320 (As := [.int (zI (xs (i + 1).toNat).toInt), .int (zI (xs (i + 2).toNat).toInt), .int (zI (xs (i + 3).toNat).toInt), .int (zI (xs (i + 4).toNat).toInt)]) (rest := []) hR zcl8 (show 0 < 1 by omega) (zc26 ..) (zW_of 4 C wm_L_105 wc_X8_addLocator wini_8 wi_X8_addLocator wse_X8_addLocator ⟨by decide, by decide, by decide⟩ ⟨by decide, by decide⟩) rfl (Nat.le_of_ble_eq_true rfl) ⟨by show _ ≤ (668696 : Nat); omega, by show _ ≤ (7090017 : Nat); omega⟩ dL_law_320 rfl (fun x M2 hx hPR => ?_)
  obtain ⟨he1, he2, hn2⟩ := hend x M2 hx hPR
  refine z_istore (lv' := [(6, .int (zI x)), (5, .int (zI k)), (4, .int (zI i)), (3, .ref (zad G 27 0)), (2, .ref (zad G 26 0)), (1, .ref (zad G 0 0)), (0, .ref b)]) C 323 dL_law_323 (by decide) rfl ?_
  refine z_aload_n C 325 dL_law_325 rfl 4 rfl ?_
  refine z_callVi C 326 (As := []) (rest := []) (c_X8_thrown l G M2) zcl8 (show 0 < 1 by omega) (zc26 ..) (zW_of 0 C wm_L_94 wc_X8_thrown wini_8 wi_X8_thrown wse_X8_thrown ⟨by decide, by decide, by decide⟩ ⟨by decide, by decide⟩) rfl (Nat.le_of_ble_eq_true rfl) ⟨by show _ ≤ (668696 : Nat); omega, by show _ ≤ (7090017 : Nat); omega⟩ dL_law_326 rfl (fun th M3 hth hP3 => ?_)
  obtain ⟨rfl, hP3⟩ := hP3
  have hP3 : th = k := hP3.trans he1
  subst hP3
  refine z_iload C 329 dL_law_329 1 rfl ?_
  refine z_icmp_eq C 331 336 dL_law_331 (by decide) hth hth (fun _ => ?_) (fun c1 => absurd rfl c1)
  refine z_iload C 336 dL_law_336 1 rfl ?_
  refine z_if_ne C 338 353 dL_law_338 (by decide) hth (fun c1 => ?_) (fun c1 => ?_)
  · refine z_goto C 353 1596 dL_law_353 (by decide) ?_
    refine z_sub (lv' := [(4, .int (zI i)), (3, .ref (zad G 27 0)), (2, .ref (zad G 26 0)), (1, .ref (zad G 0 0)), (0, .ref b)]) [2, 3, 4, 5, 6] rfl ?_
    exact hnx M2 hn2
  have hz0 : th = 0 := by omega
  have he2 := he2 hz0
  refine z_aload_n C 341 dL_law_341 rfl 3 rfl ?_
  refine z_iconst C 342 dL_law_342 ?_
  refine zs_lald C 343 dL_law_343 ?_
  rw [he2]
  refine z_iload C 344 dL_law_344 0 rfl ?_
  refine z_i2l C 346 dL_law_346 ?_
  refine zs_cmp C 347 dL_law_347 ?_
  refine z_if_eq C 348 353 dL_law_348 (by decide) (by decide) (fun _ => ?_) (fun c3 => absurd rfl c3)
  refine z_goto C 353 1596 dL_law_353 (by decide) ?_
  refine z_sub (lv' := [(4, .int (zI i)), (3, .ref (zad G 27 0)), (2, .ref (zad G 26 0)), (1, .ref (zad G 0 0)), (0, .ref b)]) [2, 3, 4, 5, 6] rfl ?_
  exact hnx M2 hn2
set_option maxHeartbeats 4000000 in
set_option maxRecDepth 100000 in
theorem law_op3 {p : Program} {l : Launch} {e : Env} {s : State} {m : MethodId} {below : List Frame} {meth : Method} {c : Code} {G : zG} {b L : Nat} {xs : Nat → Int32} {M : zMem} {cells slots : Nat} {i : Int} (C : zC p s m #[Value.ref b] meth c G RL cL_law 7 (some .boolean)) (hN : zNC s) (hX : va_X b L xs s s.heap) (hbl : b < s.heap.size) (hG : G.2.2 = s.heap) (hi : 0 ≤ i) (hi5 : i + 5 ≤ L) (hL : L ≤ 2560) (hc : cells + 6 ≤ 668696) (hs : slots + 36 ≤ 7090017) {PW : Int → zMem → Prop} {NX : zMem → Prop} (hW : Met l yL_move [.codeWith yL_move cL_move 6 (some .int) hh_move] (zR 9 6 36) (zwPc G M [.ref (zad G 0 0), .int (zI (xs (i + 1).toNat).toInt), .int (zI (xs (i + 2).toNat).toInt), .int (zI (xs (i + 3).toNat).toInt), .ref (zad G 27 0)]) (zQi G PW) 6 36 (zA G))
    (hop : ∀ (k : Int) (M1 : zMem), zrg k → PW k M1 → ∃ PR : Int → zMem → Prop, Met l yX8_move [.code yX8_move cX8_move 5 (some .int)] (zR 4 0 0) (zPc G M1 [.ref (zad G 26 0), .int (zI (xs (i + 1).toNat).toInt), .int (zI (xs (i + 2).toNat).toInt), .int (zI (xs (i + 3).toNat).toInt)]) (zQi G PR) 0 0 (zA G) ∧ ∀ (x : Int) (M2 : zMem), zrg x → PR x M2 → zV M2 26 0 0 = k ∧ (k = 0 → zV M2 27 0 0 = x) ∧ NX M2)
    (hnx : ∀ M2 : zMem, NX M2 → zZ p l e room_1 s m #[Value.ref b] below meth c G 7 (lw_Z below #[Value.ref b] s) M2 (cells + 6) (slots + 36) 1596 [(4, .int (zI i)), (3, .ref (zad G 27 0)), (2, .ref (zad G 26 0)), (1, .ref (zad G 0 0)), (0, .ref b)] []) : zZ p l e room_1 s m #[Value.ref b] below meth c G 7 (lw_Z below #[Value.ref b] s) M cells slots 356 [(4, .int (zI i)), (3, .ref (zad G 27 0)), (2, .ref (zad G 26 0)), (1, .ref (zad G 0 0)), (0, .ref b)] [] := by
  refine z_aload_n C 356 dL_law_356 rfl 3 rfl ?_
  refine z_aload_n C 357 dL_law_357 rfl 4 rfl ?_
  refine z_iload C 358 dL_law_358 0 rfl ?_
  refine z_iconst C 360 dL_law_360 ?_
  refine z_iadd C 361 dL_law_361 ?_
  refine zs_ld C hX hbl hG 362 (by omega) (by omega) (by omega) dL_law_362 (fun y1 hy1 ey => ?_)
  subst ey
  refine z_aload_n C 363 dL_law_363 rfl 4 rfl ?_
  refine z_iload C 364 dL_law_364 0 rfl ?_
  refine z_iconst C 366 dL_law_366 ?_
  refine z_iadd C 367 dL_law_367 ?_
  refine zs_ld C hX hbl hG 368 (by omega) (by omega) (by omega) dL_law_368 (fun y2 hy2 ey => ?_)
  subst ey
  refine z_aload_n C 369 dL_law_369 rfl 4 rfl ?_
  refine z_iload C 370 dL_law_370 0 rfl ?_
  refine z_iconst C 372 dL_law_372 ?_
  refine z_iadd C 373 dL_law_373 ?_
  refine zs_ld C hX hbl hG 374 (by omega) (by omega) (by omega) dL_law_374 (fun y3 hy3 ey => ?_)
  subst ey
  refine z_aload_n C 375 dL_law_375 rfl 1 rfl ?_
  refine zs_call C hN 376 (As := [.ref (zad G 0 0), .int (zI (xs (i + 1).toNat).toInt), .int (zI (xs (i + 2).toNat).toInt), .int (zI (xs (i + 3).toNat).toInt), .ref (zad G 27 0)]) (rest := []) (n := 5) (hh := hh_move) hW wm_L_106 wcw_L_move wini_L wst_L_move ⟨by decide, by decide, by decide⟩ ⟨by decide, by decide⟩ rfl (Nat.le_of_ble_eq_true rfl) ⟨by show _ ≤ (668696 : Nat); omega, by show _ ≤ (7090017 : Nat); omega⟩ dL_law_376 rfl (fun k M1 hk hPW => ?_)
  obtain ⟨PR, hR, hend⟩ := hop k M1 hk hPW
  refine z_istore (lv' := [(5, .int (zI k)), (4, .int (zI i)), (3, .ref (zad G 27 0)), (2, .ref (zad G 26 0)), (1, .ref (zad G 0 0)), (0, .ref b)]) C 379 dL_law_379 (by decide) rfl ?_
  refine z_aload_n C 381 dL_law_381 rfl 3 rfl ?_
  refine z_aload_n C 382 dL_law_382 rfl 5 rfl ?_
  refine z_iload C 383 dL_law_383 1 rfl ?_
  refine z_iconst C 385 dL_law_385 ?_
  refine z_iadd C 386 dL_law_386 ?_
  refine zs_ld C hX hbl hG 387 (by omega) (by omega) (by omega) dL_law_387 (fun y4 hy4 ey => ?_)
  subst ey
  refine z_aload_n C 388 dL_law_388 rfl 5 rfl ?_
  refine z_iload C 389 dL_law_389 1 rfl ?_
  refine z_iconst C 391 dL_law_391 ?_
  refine z_iadd C 392 dL_law_392 ?_
  refine zs_ld C hX hbl hG 393 (by omega) (by omega) (by omega) dL_law_393 (fun y5 hy5 ey => ?_)
  subst ey
  refine z_aload_n C 394 dL_law_394 rfl 5 rfl ?_
  refine z_iload C 395 dL_law_395 1 rfl ?_
  refine z_iconst C 397 dL_law_397 ?_
  refine z_iadd C 398 dL_law_398 ?_
  refine zs_ld C hX hbl hG 399 (by omega) (by omega) (by omega) dL_law_399 (fun y6 hy6 ey => ?_)
  subst ey
  refine z_callVi C 400 (As := [.int (zI (xs (i + 1).toNat).toInt), .int (zI (xs (i + 2).toNat).toInt), .int (zI (xs (i + 3).toNat).toInt)]) (rest := []) hR zcl8 (show 0 < 1 by omega) (zc26 ..) (zW_of 3 C wm_L_109 wc_X8_move wini_8 wi_X8_move wse_X8_move ⟨by decide, by decide, by decide⟩ ⟨by decide, by decide⟩) rfl (Nat.le_of_ble_eq_true rfl) ⟨by show _ ≤ (668696 : Nat); omega, by show _ ≤ (7090017 : Nat); omega⟩ dL_law_400 rfl (fun x M2 hx hPR => ?_)
  obtain ⟨he1, he2, hn2⟩ := hend x M2 hx hPR
  refine z_istore (lv' := [(6, .int (zI x)), (5, .int (zI k)), (4, .int (zI i)), (3, .ref (zad G 27 0)), (2, .ref (zad G 26 0)), (1, .ref (zad G 0 0)), (0, .ref b)]) C 403 dL_law_403 (by decide) rfl ?_
  refine z_aload_n C 405 dL_law_405 rfl 4 rfl ?_
  refine z_callVi C 406 (As := []) (rest := []) (c_X8_thrown l G M2) zcl8 (show 0 < 1 by omega) (zc26 ..) (zW_of 0 C wm_L_94 wc_X8_thrown wini_8 wi_X8_thrown wse_X8_thrown ⟨by decide, by decide, by decide⟩ ⟨by decide, by decide⟩) rfl (Nat.le_of_ble_eq_true rfl) ⟨by show _ ≤ (668696 : Nat); omega, by show _ ≤ (7090017 : Nat); omega⟩ dL_law_406 rfl (fun th M3 hth hP3 => ?_)
  obtain ⟨rfl, hP3⟩ := hP3
  have hP3 : th = k := hP3.trans he1
  subst hP3
  refine z_iload C 409 dL_law_409 1 rfl ?_
  refine z_icmp_eq C 411 416 dL_law_411 (by decide) hth hth (fun _ => ?_) (fun c1 => absurd rfl c1)
  refine z_iload C 416 dL_law_416 1 rfl ?_
  refine z_if_ne C 418 433 dL_law_418 (by decide) hth (fun c1 => ?_) (fun c1 => ?_)
  · refine z_goto C 433 1596 dL_law_433 (by decide) ?_
    refine z_sub (lv' := [(4, .int (zI i)), (3, .ref (zad G 27 0)), (2, .ref (zad G 26 0)), (1, .ref (zad G 0 0)), (0, .ref b)]) [2, 3, 4, 5, 6] rfl ?_
    exact hnx M2 hn2
  have hz0 : th = 0 := by omega
  have he2 := he2 hz0
  refine z_aload_n C 421 dL_law_421 rfl 3 rfl ?_
  refine z_iconst C 422 dL_law_422 ?_
  refine zs_lald C 423 dL_law_423 ?_
  rw [he2]
  refine z_iload C 424 dL_law_424 0 rfl ?_
  refine z_i2l C 426 dL_law_426 ?_
  refine zs_cmp C 427 dL_law_427 ?_
  refine z_if_eq C 428 433 dL_law_428 (by decide) (by decide) (fun _ => ?_) (fun c3 => absurd rfl c3)
  refine z_goto C 433 1596 dL_law_433 (by decide) ?_
  refine z_sub (lv' := [(4, .int (zI i)), (3, .ref (zad G 27 0)), (2, .ref (zad G 26 0)), (1, .ref (zad G 0 0)), (0, .ref b)]) [2, 3, 4, 5, 6] rfl ?_
  exact hnx M2 hn2
set_option maxHeartbeats 4000000 in
set_option maxRecDepth 100000 in
theorem law_op4 {p : Program} {l : Launch} {e : Env} {s : State} {m : MethodId} {below : List Frame} {meth : Method} {c : Code} {G : zG} {b L : Nat} {xs : Nat → Int32} {M : zMem} {cells slots : Nat} {i : Int} (C : zC p s m #[Value.ref b] meth c G RL cL_law 7 (some .boolean)) (hN : zNC s) (hX : va_X b L xs s s.heap) (hbl : b < s.heap.size) (hG : G.2.2 = s.heap) (hi : 0 ≤ i) (hi5 : i + 5 ≤ L) (hL : L ≤ 2560) (hc : cells + 6 ≤ 668696) (hs : slots + 36 ≤ 7090017) {PW : Int → zMem → Prop} {NX : zMem → Prop} (hW : Met l yL_removeLocator [.codeWith yL_removeLocator cL_removeLocator 5 (some .int) hh_removeLocator] (zR 9 4 24) (zwPc G M [.ref (zad G 0 0), .int (zI (xs (i + 1).toNat).toInt), .int (zI (xs (i + 2).toNat).toInt), .ref (zad G 27 0)]) (zQi G PW) 4 24 (zA G))
    (hop : ∀ (k : Int) (M1 : zMem), zrg k → PW k M1 → ∃ PR : Int → zMem → Prop, Met l yX8_removeLocator [.code yX8_removeLocator cX8_removeLocator 4 (some .int)] (zR 4 0 0) (zPc G M1 [.ref (zad G 26 0), .int (zI (xs (i + 1).toNat).toInt), .int (zI (xs (i + 2).toNat).toInt)]) (zQi G PR) 0 0 (zA G) ∧ ∀ (x : Int) (M2 : zMem), zrg x → PR x M2 → zV M2 26 0 0 = k ∧ (k = 0 → zV M2 27 0 0 = x) ∧ NX M2)
    (hnx : ∀ M2 : zMem, NX M2 → zZ p l e room_1 s m #[Value.ref b] below meth c G 7 (lw_Z below #[Value.ref b] s) M2 (cells + 4) (slots + 24) 1596 [(4, .int (zI i)), (3, .ref (zad G 27 0)), (2, .ref (zad G 26 0)), (1, .ref (zad G 0 0)), (0, .ref b)] []) : zZ p l e room_1 s m #[Value.ref b] below meth c G 7 (lw_Z below #[Value.ref b] s) M cells slots 436 [(4, .int (zI i)), (3, .ref (zad G 27 0)), (2, .ref (zad G 26 0)), (1, .ref (zad G 0 0)), (0, .ref b)] [] := by
  refine z_aload_n C 436 dL_law_436 rfl 3 rfl ?_
  refine z_aload_n C 437 dL_law_437 rfl 4 rfl ?_
  refine z_iload C 438 dL_law_438 0 rfl ?_
  refine z_iconst C 440 dL_law_440 ?_
  refine z_iadd C 441 dL_law_441 ?_
  refine zs_ld C hX hbl hG 442 (by omega) (by omega) (by omega) dL_law_442 (fun y1 hy1 ey => ?_)
  subst ey
  refine z_aload_n C 443 dL_law_443 rfl 4 rfl ?_
  refine z_iload C 444 dL_law_444 0 rfl ?_
  refine z_iconst C 446 dL_law_446 ?_
  refine z_iadd C 447 dL_law_447 ?_
  refine zs_ld C hX hbl hG 448 (by omega) (by omega) (by omega) dL_law_448 (fun y2 hy2 ey => ?_)
  subst ey
  refine z_aload_n C 449 dL_law_449 rfl 1 rfl ?_
  refine zs_call C hN 450 (As := [.ref (zad G 0 0), .int (zI (xs (i + 1).toNat).toInt), .int (zI (xs (i + 2).toNat).toInt), .ref (zad G 27 0)]) (rest := []) (n := 4) (hh := hh_removeLocator) hW wm_L_110 wcw_L_removeLocator wini_L wst_L_removeLocator ⟨by decide, by decide, by decide⟩ ⟨by decide, by decide⟩ rfl (Nat.le_of_ble_eq_true rfl) ⟨by show _ ≤ (668696 : Nat); omega, by show _ ≤ (7090017 : Nat); omega⟩ dL_law_450 rfl (fun k M1 hk hPW => ?_)
  obtain ⟨PR, hR, hend⟩ := hop k M1 hk hPW
  refine z_istore (lv' := [(5, .int (zI k)), (4, .int (zI i)), (3, .ref (zad G 27 0)), (2, .ref (zad G 26 0)), (1, .ref (zad G 0 0)), (0, .ref b)]) C 453 dL_law_453 (by decide) rfl ?_
  refine z_aload_n C 455 dL_law_455 rfl 3 rfl ?_
  refine z_aload_n C 456 dL_law_456 rfl 5 rfl ?_
  refine z_iload C 457 dL_law_457 1 rfl ?_
  refine z_iconst C 459 dL_law_459 ?_
  refine z_iadd C 460 dL_law_460 ?_
  refine zs_ld C hX hbl hG 461 (by omega) (by omega) (by omega) dL_law_461 (fun y3 hy3 ey => ?_)
  subst ey
  refine z_aload_n C 462 dL_law_462 rfl 5 rfl ?_
  refine z_iload C 463 dL_law_463 1 rfl ?_
  refine z_iconst C 465 dL_law_465 ?_
  refine z_iadd C 466 dL_law_466 ?_
  refine zs_ld C hX hbl hG 467 (by omega) (by omega) (by omega) dL_law_467 (fun y4 hy4 ey => ?_)
  subst ey
  refine z_callVi C 468 (As := [.int (zI (xs (i + 1).toNat).toInt), .int (zI (xs (i + 2).toNat).toInt)]) (rest := []) hR zcl8 (show 0 < 1 by omega) (zc26 ..) (zW_of 2 C wm_L_112 wc_X8_removeLocator wini_8 wi_X8_removeLocator wse_X8_removeLocator ⟨by decide, by decide, by decide⟩ ⟨by decide, by decide⟩) rfl (Nat.le_of_ble_eq_true rfl) ⟨by show _ ≤ (668696 : Nat); omega, by show _ ≤ (7090017 : Nat); omega⟩ dL_law_468 rfl (fun x M2 hx hPR => ?_)
  obtain ⟨he1, he2, hn2⟩ := hend x M2 hx hPR
  refine z_istore (lv' := [(6, .int (zI x)), (5, .int (zI k)), (4, .int (zI i)), (3, .ref (zad G 27 0)), (2, .ref (zad G 26 0)), (1, .ref (zad G 0 0)), (0, .ref b)]) C 471 dL_law_471 (by decide) rfl ?_
  refine z_aload_n C 473 dL_law_473 rfl 4 rfl ?_
  refine z_callVi C 474 (As := []) (rest := []) (c_X8_thrown l G M2) zcl8 (show 0 < 1 by omega) (zc26 ..) (zW_of 0 C wm_L_94 wc_X8_thrown wini_8 wi_X8_thrown wse_X8_thrown ⟨by decide, by decide, by decide⟩ ⟨by decide, by decide⟩) rfl (Nat.le_of_ble_eq_true rfl) ⟨by show _ ≤ (668696 : Nat); omega, by show _ ≤ (7090017 : Nat); omega⟩ dL_law_474 rfl (fun th M3 hth hP3 => ?_)
  obtain ⟨rfl, hP3⟩ := hP3
  have hP3 : th = k := hP3.trans he1
  subst hP3
  refine z_iload C 477 dL_law_477 1 rfl ?_
  refine z_icmp_eq C 479 484 dL_law_479 (by decide) hth hth (fun _ => ?_) (fun c1 => absurd rfl c1)
  refine z_iload C 484 dL_law_484 1 rfl ?_
  refine z_if_ne C 486 501 dL_law_486 (by decide) hth (fun c1 => ?_) (fun c1 => ?_)
  · refine z_goto C 501 1596 dL_law_501 (by decide) ?_
    refine z_sub (lv' := [(4, .int (zI i)), (3, .ref (zad G 27 0)), (2, .ref (zad G 26 0)), (1, .ref (zad G 0 0)), (0, .ref b)]) [2, 3, 4, 5, 6] rfl ?_
    exact hnx M2 hn2
  have hz0 : th = 0 := by omega
  have he2 := he2 hz0
  refine z_aload_n C 489 dL_law_489 rfl 3 rfl ?_
  refine z_iconst C 490 dL_law_490 ?_
  refine zs_lald C 491 dL_law_491 ?_
  rw [he2]
  refine z_iload C 492 dL_law_492 0 rfl ?_
  refine z_i2l C 494 dL_law_494 ?_
  refine zs_cmp C 495 dL_law_495 ?_
  refine z_if_eq C 496 501 dL_law_496 (by decide) (by decide) (fun _ => ?_) (fun c3 => absurd rfl c3)
  refine z_goto C 501 1596 dL_law_501 (by decide) ?_
  refine z_sub (lv' := [(4, .int (zI i)), (3, .ref (zad G 27 0)), (2, .ref (zad G 26 0)), (1, .ref (zad G 0 0)), (0, .ref b)]) [2, 3, 4, 5, 6] rfl ?_
  exact hnx M2 hn2
set_option maxHeartbeats 4000000 in
set_option maxRecDepth 100000 in
theorem law_op5 {p : Program} {l : Launch} {e : Env} {s : State} {m : MethodId} {below : List Frame} {meth : Method} {c : Code} {G : zG} {b L : Nat} {xs : Nat → Int32} {M : zMem} {cells slots : Nat} {i : Int} (C : zC p s m #[Value.ref b] meth c G RL cL_law 7 (some .boolean)) (hN : zNC s) (hX : va_X b L xs s s.heap) (hbl : b < s.heap.size) (hG : G.2.2 = s.heap) (hi : 0 ≤ i) (hi5 : i + 5 ≤ L) (hL : L ≤ 2560) (hc : cells + 6 ≤ 668696) (hs : slots + 36 ≤ 7090017) {PW : Int → zMem → Prop} {NX : zMem → Prop} (hW : Met l yL_mappingOf [.codeWith yL_mappingOf cL_mappingOf 4 (some .int) hh_mappingOf] (zR 9 1 6) (zwPc G M [.ref (zad G 0 0), .int (zI (xs (i + 1).toNat).toInt), .ref (zad G 27 0)]) (zQi G PW) 1 6 (zA G))
    (hop : ∀ (k : Int) (M1 : zMem), zrg k → PW k M1 → ∃ PR : Int → zMem → Prop, Met l yX8_mappingOf [.code yX8_mappingOf cX8_mappingOf 2 (some .int)] (zR 3 0 0) (zPc G M1 [.ref (zad G 26 0), .int (zI (xs (i + 1).toNat).toInt)]) (zQi G PR) 0 0 (zA G) ∧ ∀ (x : Int) (M2 : zMem), zrg x → PR x M2 → zV M2 26 0 0 = k ∧ (k = 0 → zV M2 27 0 0 = x) ∧ NX M2)
    (hnx : ∀ M2 : zMem, NX M2 → zZ p l e room_1 s m #[Value.ref b] below meth c G 7 (lw_Z below #[Value.ref b] s) M2 (cells + 1) (slots + 6) 1596 [(4, .int (zI i)), (3, .ref (zad G 27 0)), (2, .ref (zad G 26 0)), (1, .ref (zad G 0 0)), (0, .ref b)] []) : zZ p l e room_1 s m #[Value.ref b] below meth c G 7 (lw_Z below #[Value.ref b] s) M cells slots 504 [(4, .int (zI i)), (3, .ref (zad G 27 0)), (2, .ref (zad G 26 0)), (1, .ref (zad G 0 0)), (0, .ref b)] [] := by
  refine z_aload_n C 504 dL_law_504 rfl 3 rfl ?_
  refine z_aload_n C 505 dL_law_505 rfl 4 rfl ?_
  refine z_iload C 506 dL_law_506 0 rfl ?_
  refine z_iconst C 508 dL_law_508 ?_
  refine z_iadd C 509 dL_law_509 ?_
  refine zs_ld C hX hbl hG 510 (by omega) (by omega) (by omega) dL_law_510 (fun y1 hy1 ey => ?_)
  subst ey
  refine z_aload_n C 511 dL_law_511 rfl 1 rfl ?_
  refine zs_call C hN 512 (As := [.ref (zad G 0 0), .int (zI (xs (i + 1).toNat).toInt), .ref (zad G 27 0)]) (rest := []) (n := 3) (hh := hh_mappingOf) hW wm_L_113 wcw_L_mappingOf wini_L wst_L_mappingOf ⟨by decide, by decide, by decide⟩ ⟨by decide, by decide⟩ rfl (Nat.le_of_ble_eq_true rfl) ⟨by show _ ≤ (668696 : Nat); omega, by show _ ≤ (7090017 : Nat); omega⟩ dL_law_512 rfl (fun k M1 hk hPW => ?_)
  obtain ⟨PR, hR, hend⟩ := hop k M1 hk hPW
  refine z_istore (lv' := [(5, .int (zI k)), (4, .int (zI i)), (3, .ref (zad G 27 0)), (2, .ref (zad G 26 0)), (1, .ref (zad G 0 0)), (0, .ref b)]) C 515 dL_law_515 (by decide) rfl ?_
  refine z_aload_n C 517 dL_law_517 rfl 3 rfl ?_
  refine z_aload_n C 518 dL_law_518 rfl 5 rfl ?_
  refine z_iload C 519 dL_law_519 1 rfl ?_
  refine z_iconst C 521 dL_law_521 ?_
  refine z_iadd C 522 dL_law_522 ?_
  refine zs_ld C hX hbl hG 523 (by omega) (by omega) (by omega) dL_law_523 (fun y2 hy2 ey => ?_)
  subst ey
  refine z_callVi C 524 (As := [.int (zI (xs (i + 1).toNat).toInt)]) (rest := []) hR zcl8 (show 0 < 1 by omega) (zc26 ..) (zW_of 1 C wm_L_115 wc_X8_mappingOf wini_8 wi_X8_mappingOf wse_X8_mappingOf ⟨by decide, by decide, by decide⟩ ⟨by decide, by decide⟩) rfl (Nat.le_of_ble_eq_true rfl) ⟨by show _ ≤ (668696 : Nat); omega, by show _ ≤ (7090017 : Nat); omega⟩ dL_law_524 rfl (fun x M2 hx hPR => ?_)
  obtain ⟨he1, he2, hn2⟩ := hend x M2 hx hPR
  refine z_istore (lv' := [(6, .int (zI x)), (5, .int (zI k)), (4, .int (zI i)), (3, .ref (zad G 27 0)), (2, .ref (zad G 26 0)), (1, .ref (zad G 0 0)), (0, .ref b)]) C 527 dL_law_527 (by decide) rfl ?_
  refine z_aload_n C 529 dL_law_529 rfl 4 rfl ?_
  refine z_callVi C 530 (As := []) (rest := []) (c_X8_thrown l G M2) zcl8 (show 0 < 1 by omega) (zc26 ..) (zW_of 0 C wm_L_94 wc_X8_thrown wini_8 wi_X8_thrown wse_X8_thrown ⟨by decide, by decide, by decide⟩ ⟨by decide, by decide⟩) rfl (Nat.le_of_ble_eq_true rfl) ⟨by show _ ≤ (668696 : Nat); omega, by show _ ≤ (7090017 : Nat); omega⟩ dL_law_530 rfl (fun th M3 hth hP3 => ?_)
  obtain ⟨rfl, hP3⟩ := hP3
  have hP3 : th = k := hP3.trans he1
  subst hP3
  refine z_iload C 533 dL_law_533 1 rfl ?_
  refine z_icmp_eq C 535 540 dL_law_535 (by decide) hth hth (fun _ => ?_) (fun c1 => absurd rfl c1)
  refine z_iload C 540 dL_law_540 1 rfl ?_
  refine z_if_ne C 542 557 dL_law_542 (by decide) hth (fun c1 => ?_) (fun c1 => ?_)
  · refine z_goto C 557 1596 dL_law_557 (by decide) ?_
    refine z_sub (lv' := [(4, .int (zI i)), (3, .ref (zad G 27 0)), (2, .ref (zad G 26 0)), (1, .ref (zad G 0 0)), (0, .ref b)]) [2, 3, 4, 5, 6] rfl ?_
    exact hnx M2 hn2
  have hz0 : th = 0 := by omega
  have he2 := he2 hz0
  refine z_aload_n C 545 dL_law_545 rfl 3 rfl ?_
  refine z_iconst C 546 dL_law_546 ?_
  refine zs_lald C 547 dL_law_547 ?_
  rw [he2]
  refine z_iload C 548 dL_law_548 0 rfl ?_
  refine z_i2l C 550 dL_law_550 ?_
  refine zs_cmp C 551 dL_law_551 ?_
  refine z_if_eq C 552 557 dL_law_552 (by decide) (by decide) (fun _ => ?_) (fun c3 => absurd rfl c3)
  refine z_goto C 557 1596 dL_law_557 (by decide) ?_
  refine z_sub (lv' := [(4, .int (zI i)), (3, .ref (zad G 27 0)), (2, .ref (zad G 26 0)), (1, .ref (zad G 0 0)), (0, .ref b)]) [2, 3, 4, 5, 6] rfl ?_
  exact hnx M2 hn2
set_option maxHeartbeats 4000000 in
set_option maxRecDepth 100000 in
theorem law_op6 {p : Program} {l : Launch} {e : Env} {s : State} {m : MethodId} {below : List Frame} {meth : Method} {c : Code} {G : zG} {b L : Nat} {xs : Nat → Int32} {M : zMem} {cells slots : Nat} {i : Int} (C : zC p s m #[Value.ref b] meth c G RL cL_law 7 (some .boolean)) (hN : zNC s) (hX : va_X b L xs s s.heap) (hbl : b < s.heap.size) (hG : G.2.2 = s.heap) (hi : 0 ≤ i) (hi5 : i + 5 ≤ L) (hL : L ≤ 2560) (hc : cells + 6 ≤ 668696) (hs : slots + 36 ≤ 7090017) {PW : Int → zMem → Prop} {NX : zMem → Prop} (hW : Met l yL_answerLength [.codeWith yL_answerLength cL_answerLength 4 (some .int) hh_answerLength] (zR 9 1 6) (zwPc G M [.ref (zad G 0 0), .int (zI (xs (i + 1).toNat).toInt), .ref (zad G 27 0)]) (zQi G PW) 1 6 (zA G))
    (hop : ∀ (k : Int) (M1 : zMem), zrg k → PW k M1 → ∃ PR : Int → zMem → Prop, Met l yX8_answerLength [.code yX8_answerLength cX8_answerLength 3 (some .int)] (zR 4 0 0) (zPc G M1 [.ref (zad G 26 0), .int (zI (xs (i + 1).toNat).toInt)]) (zQi G PR) 0 0 (zA G) ∧ ∀ (x : Int) (M2 : zMem), zrg x → PR x M2 → zV M2 26 0 0 = k ∧ (k = 0 → zV M2 27 0 0 = x) ∧ NX M2)
    (hnx : ∀ M2 : zMem, NX M2 → zZ p l e room_1 s m #[Value.ref b] below meth c G 7 (lw_Z below #[Value.ref b] s) M2 (cells + 1) (slots + 6) 1596 [(4, .int (zI i)), (3, .ref (zad G 27 0)), (2, .ref (zad G 26 0)), (1, .ref (zad G 0 0)), (0, .ref b)] []) : zZ p l e room_1 s m #[Value.ref b] below meth c G 7 (lw_Z below #[Value.ref b] s) M cells slots 560 [(4, .int (zI i)), (3, .ref (zad G 27 0)), (2, .ref (zad G 26 0)), (1, .ref (zad G 0 0)), (0, .ref b)] [] := by
  refine z_aload_n C 560 dL_law_560 rfl 3 rfl ?_
  refine z_aload_n C 561 dL_law_561 rfl 4 rfl ?_
  refine z_iload C 562 dL_law_562 0 rfl ?_
  refine z_iconst C 564 dL_law_564 ?_
  refine z_iadd C 565 dL_law_565 ?_
  refine zs_ld C hX hbl hG 566 (by omega) (by omega) (by omega) dL_law_566 (fun y1 hy1 ey => ?_)
  subst ey
  refine z_aload_n C 567 dL_law_567 rfl 1 rfl ?_
  refine zs_call C hN 568 (As := [.ref (zad G 0 0), .int (zI (xs (i + 1).toNat).toInt), .ref (zad G 27 0)]) (rest := []) (n := 3) (hh := hh_answerLength) hW wm_L_116 wcw_L_answerLength wini_L wst_L_answerLength ⟨by decide, by decide, by decide⟩ ⟨by decide, by decide⟩ rfl (Nat.le_of_ble_eq_true rfl) ⟨by show _ ≤ (668696 : Nat); omega, by show _ ≤ (7090017 : Nat); omega⟩ dL_law_568 rfl (fun k M1 hk hPW => ?_)
  obtain ⟨PR, hR, hend⟩ := hop k M1 hk hPW
  refine z_istore (lv' := [(5, .int (zI k)), (4, .int (zI i)), (3, .ref (zad G 27 0)), (2, .ref (zad G 26 0)), (1, .ref (zad G 0 0)), (0, .ref b)]) C 571 dL_law_571 (by decide) rfl ?_
  refine z_aload_n C 573 dL_law_573 rfl 3 rfl ?_
  refine z_aload_n C 574 dL_law_574 rfl 5 rfl ?_
  refine z_iload C 575 dL_law_575 1 rfl ?_
  refine z_iconst C 577 dL_law_577 ?_
  refine z_iadd C 578 dL_law_578 ?_
  refine zs_ld C hX hbl hG 579 (by omega) (by omega) (by omega) dL_law_579 (fun y2 hy2 ey => ?_)
  subst ey
  refine z_callVi C 580 (As := [.int (zI (xs (i + 1).toNat).toInt)]) (rest := []) hR zcl8 (show 0 < 1 by omega) (zc26 ..) (zW_of 1 C wm_L_118 wc_X8_answerLength wini_8 wi_X8_answerLength wse_X8_answerLength ⟨by decide, by decide, by decide⟩ ⟨by decide, by decide⟩) rfl (Nat.le_of_ble_eq_true rfl) ⟨by show _ ≤ (668696 : Nat); omega, by show _ ≤ (7090017 : Nat); omega⟩ dL_law_580 rfl (fun x M2 hx hPR => ?_)
  obtain ⟨he1, he2, hn2⟩ := hend x M2 hx hPR
  refine z_istore (lv' := [(6, .int (zI x)), (5, .int (zI k)), (4, .int (zI i)), (3, .ref (zad G 27 0)), (2, .ref (zad G 26 0)), (1, .ref (zad G 0 0)), (0, .ref b)]) C 583 dL_law_583 (by decide) rfl ?_
  refine z_aload_n C 585 dL_law_585 rfl 4 rfl ?_
  refine z_callVi C 586 (As := []) (rest := []) (c_X8_thrown l G M2) zcl8 (show 0 < 1 by omega) (zc26 ..) (zW_of 0 C wm_L_94 wc_X8_thrown wini_8 wi_X8_thrown wse_X8_thrown ⟨by decide, by decide, by decide⟩ ⟨by decide, by decide⟩) rfl (Nat.le_of_ble_eq_true rfl) ⟨by show _ ≤ (668696 : Nat); omega, by show _ ≤ (7090017 : Nat); omega⟩ dL_law_586 rfl (fun th M3 hth hP3 => ?_)
  obtain ⟨rfl, hP3⟩ := hP3
  have hP3 : th = k := hP3.trans he1
  subst hP3
  refine z_iload C 589 dL_law_589 1 rfl ?_
  refine z_icmp_eq C 591 596 dL_law_591 (by decide) hth hth (fun _ => ?_) (fun c1 => absurd rfl c1)
  refine z_iload C 596 dL_law_596 1 rfl ?_
  refine z_if_ne C 598 613 dL_law_598 (by decide) hth (fun c1 => ?_) (fun c1 => ?_)
  · refine z_goto C 613 1596 dL_law_613 (by decide) ?_
    refine z_sub (lv' := [(4, .int (zI i)), (3, .ref (zad G 27 0)), (2, .ref (zad G 26 0)), (1, .ref (zad G 0 0)), (0, .ref b)]) [2, 3, 4, 5, 6] rfl ?_
    exact hnx M2 hn2
  have hz0 : th = 0 := by omega
  have he2 := he2 hz0
  refine z_aload_n C 601 dL_law_601 rfl 3 rfl ?_
  refine z_iconst C 602 dL_law_602 ?_
  refine zs_lald C 603 dL_law_603 ?_
  rw [he2]
  refine z_iload C 604 dL_law_604 0 rfl ?_
  refine z_i2l C 606 dL_law_606 ?_
  refine zs_cmp C 607 dL_law_607 ?_
  refine z_if_eq C 608 613 dL_law_608 (by decide) (by decide) (fun _ => ?_) (fun c3 => absurd rfl c3)
  refine z_goto C 613 1596 dL_law_613 (by decide) ?_
  refine z_sub (lv' := [(4, .int (zI i)), (3, .ref (zad G 27 0)), (2, .ref (zad G 26 0)), (1, .ref (zad G 0 0)), (0, .ref b)]) [2, 3, 4, 5, 6] rfl ?_
  exact hnx M2 hn2
set_option maxHeartbeats 4000000 in
set_option maxRecDepth 100000 in
theorem law_op7 {p : Program} {l : Launch} {e : Env} {s : State} {m : MethodId} {below : List Frame} {meth : Method} {c : Code} {G : zG} {b L : Nat} {xs : Nat → Int32} {M : zMem} {cells slots : Nat} {i : Int} (C : zC p s m #[Value.ref b] meth c G RL cL_law 7 (some .boolean)) (hN : zNC s) (hX : va_X b L xs s s.heap) (hbl : b < s.heap.size) (hG : G.2.2 = s.heap) (hi : 0 ≤ i) (hi5 : i + 5 ≤ L) (hL : L ≤ 2560) (hc : cells + 6 ≤ 668696) (hs : slots + 36 ≤ 7090017) {PW : Int → zMem → Prop} {NX : zMem → Prop} (hW : Met l yL_version [.codeWith yL_version cL_version 4 (some .int) hh_version] (zR 9 1 6) (zwPc G M [.ref (zad G 0 0), .int (zI (xs (i + 1).toNat).toInt), .ref (zad G 27 0)]) (zQi G PW) 1 6 (zA G))
    (hop : ∀ (k : Int) (M1 : zMem), zrg k → PW k M1 → ∃ PR : Int → zMem → Prop, Met l yX8_version [.code yX8_version cX8_version 2 (some .int)] (zR 2 0 0) (zPc G M1 [.ref (zad G 26 0), .int (zI (xs (i + 1).toNat).toInt)]) (zQi G PR) 0 0 (zA G) ∧ ∀ (x : Int) (M2 : zMem), zrg x → PR x M2 → zV M2 26 0 0 = k ∧ (k = 0 → zV M2 27 0 0 = x) ∧ NX M2)
    (hnx : ∀ M2 : zMem, NX M2 → zZ p l e room_1 s m #[Value.ref b] below meth c G 7 (lw_Z below #[Value.ref b] s) M2 (cells + 1) (slots + 6) 1596 [(4, .int (zI i)), (3, .ref (zad G 27 0)), (2, .ref (zad G 26 0)), (1, .ref (zad G 0 0)), (0, .ref b)] []) : zZ p l e room_1 s m #[Value.ref b] below meth c G 7 (lw_Z below #[Value.ref b] s) M cells slots 616 [(4, .int (zI i)), (3, .ref (zad G 27 0)), (2, .ref (zad G 26 0)), (1, .ref (zad G 0 0)), (0, .ref b)] [] := by
  refine z_aload_n C 616 dL_law_616 rfl 3 rfl ?_
  refine z_aload_n C 617 dL_law_617 rfl 4 rfl ?_
  refine z_iload C 618 dL_law_618 0 rfl ?_
  refine z_iconst C 620 dL_law_620 ?_
  refine z_iadd C 621 dL_law_621 ?_
  refine zs_ld C hX hbl hG 622 (by omega) (by omega) (by omega) dL_law_622 (fun y1 hy1 ey => ?_)
  subst ey
  refine z_aload_n C 623 dL_law_623 rfl 1 rfl ?_
  refine zs_call C hN 624 (As := [.ref (zad G 0 0), .int (zI (xs (i + 1).toNat).toInt), .ref (zad G 27 0)]) (rest := []) (n := 3) (hh := hh_version) hW wm_L_119 wcw_L_version wini_L wst_L_version ⟨by decide, by decide, by decide⟩ ⟨by decide, by decide⟩ rfl (Nat.le_of_ble_eq_true rfl) ⟨by show _ ≤ (668696 : Nat); omega, by show _ ≤ (7090017 : Nat); omega⟩ dL_law_624 rfl (fun k M1 hk hPW => ?_)
  obtain ⟨PR, hR, hend⟩ := hop k M1 hk hPW
  refine z_istore (lv' := [(5, .int (zI k)), (4, .int (zI i)), (3, .ref (zad G 27 0)), (2, .ref (zad G 26 0)), (1, .ref (zad G 0 0)), (0, .ref b)]) C 627 dL_law_627 (by decide) rfl ?_
  refine z_aload_n C 629 dL_law_629 rfl 3 rfl ?_
  refine z_aload_n C 630 dL_law_630 rfl 5 rfl ?_
  refine z_iload C 631 dL_law_631 1 rfl ?_
  refine z_iconst C 633 dL_law_633 ?_
  refine z_iadd C 634 dL_law_634 ?_
  refine zs_ld C hX hbl hG 635 (by omega) (by omega) (by omega) dL_law_635 (fun y2 hy2 ey => ?_)
  subst ey
  refine z_callVi C 636 (As := [.int (zI (xs (i + 1).toNat).toInt)]) (rest := []) hR zcl8 (show 0 < 1 by omega) (zc26 ..) (zW_of 1 C wm_L_121 wc_X8_version wini_8 wi_X8_version wse_X8_version ⟨by decide, by decide, by decide⟩ ⟨by decide, by decide⟩) rfl (Nat.le_of_ble_eq_true rfl) ⟨by show _ ≤ (668696 : Nat); omega, by show _ ≤ (7090017 : Nat); omega⟩ dL_law_636 rfl (fun x M2 hx hPR => ?_)
  obtain ⟨he1, he2, hn2⟩ := hend x M2 hx hPR
  refine z_istore (lv' := [(6, .int (zI x)), (5, .int (zI k)), (4, .int (zI i)), (3, .ref (zad G 27 0)), (2, .ref (zad G 26 0)), (1, .ref (zad G 0 0)), (0, .ref b)]) C 639 dL_law_639 (by decide) rfl ?_
  refine z_aload_n C 641 dL_law_641 rfl 4 rfl ?_
  refine z_callVi C 642 (As := []) (rest := []) (c_X8_thrown l G M2) zcl8 (show 0 < 1 by omega) (zc26 ..) (zW_of 0 C wm_L_94 wc_X8_thrown wini_8 wi_X8_thrown wse_X8_thrown ⟨by decide, by decide, by decide⟩ ⟨by decide, by decide⟩) rfl (Nat.le_of_ble_eq_true rfl) ⟨by show _ ≤ (668696 : Nat); omega, by show _ ≤ (7090017 : Nat); omega⟩ dL_law_642 rfl (fun th M3 hth hP3 => ?_)
  obtain ⟨rfl, hP3⟩ := hP3
  have hP3 : th = k := hP3.trans he1
  subst hP3
  refine z_iload C 645 dL_law_645 1 rfl ?_
  refine z_icmp_eq C 647 652 dL_law_647 (by decide) hth hth (fun _ => ?_) (fun c1 => absurd rfl c1)
  refine z_iload C 652 dL_law_652 1 rfl ?_
  refine z_if_ne C 654 669 dL_law_654 (by decide) hth (fun c1 => ?_) (fun c1 => ?_)
  · refine z_goto C 669 1596 dL_law_669 (by decide) ?_
    refine z_sub (lv' := [(4, .int (zI i)), (3, .ref (zad G 27 0)), (2, .ref (zad G 26 0)), (1, .ref (zad G 0 0)), (0, .ref b)]) [2, 3, 4, 5, 6] rfl ?_
    exact hnx M2 hn2
  have hz0 : th = 0 := by omega
  have he2 := he2 hz0
  refine z_aload_n C 657 dL_law_657 rfl 3 rfl ?_
  refine z_iconst C 658 dL_law_658 ?_
  refine zs_lald C 659 dL_law_659 ?_
  rw [he2]
  refine z_iload C 660 dL_law_660 0 rfl ?_
  refine z_i2l C 662 dL_law_662 ?_
  refine zs_cmp C 663 dL_law_663 ?_
  refine z_if_eq C 664 669 dL_law_664 (by decide) (by decide) (fun _ => ?_) (fun c3 => absurd rfl c3)
  refine z_goto C 669 1596 dL_law_669 (by decide) ?_
  refine z_sub (lv' := [(4, .int (zI i)), (3, .ref (zad G 27 0)), (2, .ref (zad G 26 0)), (1, .ref (zad G 0 0)), (0, .ref b)]) [2, 3, 4, 5, 6] rfl ?_
  exact hnx M2 hn2
set_option maxHeartbeats 4000000 in
set_option maxRecDepth 100000 in
theorem law_op8 {p : Program} {l : Launch} {e : Env} {s : State} {m : MethodId} {below : List Frame} {meth : Method} {c : Code} {G : zG} {b L : Nat} {xs : Nat → Int32} {M : zMem} {cells slots : Nat} {i : Int} (C : zC p s m #[Value.ref b] meth c G RL cL_law 7 (some .boolean)) (hN : zNC s) (hX : va_X b L xs s s.heap) (hbl : b < s.heap.size) (hG : G.2.2 = s.heap) (hi : 0 ≤ i) (hi5 : i + 5 ≤ L) (hL : L ≤ 2560) (hc : cells + 6 ≤ 668696) (hs : slots + 36 ≤ 7090017) {PW : Int → zMem → Prop} {NX : zMem → Prop} (hW : Met l yL_delegate [.codeWith yL_delegate cL_delegate 6 (some .int) hh_delegate] (zR 10 5 30) (zwPc G M [.ref (zad G 0 0), .int (zI (xs (i + 1).toNat).toInt), .int (zI (xs (i + 2).toNat).toInt), .int (zI (xs (i + 3).toNat).toInt), .ref (zad G 27 0)]) (zQi G PW) 5 30 (zA G))
    (hop : ∀ (k : Int) (M1 : zMem), zrg k → PW k M1 → ∃ PR : Int → zMem → Prop, Met l yX8_delegate [.code yX8_delegate cX8_delegate 6 (some .int)] (zR 3 0 0) (zPc G M1 [.ref (zad G 26 0), .int (zI (xs (i + 1).toNat).toInt), .int (zI (xs (i + 2).toNat).toInt), .int (zI (xs (i + 3).toNat).toInt)]) (zQi G PR) 0 0 (zA G) ∧ ∀ (x : Int) (M2 : zMem), zrg x → PR x M2 → zV M2 26 0 0 = k ∧ (k = 0 → zV M2 27 0 0 = x) ∧ NX M2)
    (hnx : ∀ M2 : zMem, NX M2 → zZ p l e room_1 s m #[Value.ref b] below meth c G 7 (lw_Z below #[Value.ref b] s) M2 (cells + 5) (slots + 30) 1596 [(4, .int (zI i)), (3, .ref (zad G 27 0)), (2, .ref (zad G 26 0)), (1, .ref (zad G 0 0)), (0, .ref b)] []) : zZ p l e room_1 s m #[Value.ref b] below meth c G 7 (lw_Z below #[Value.ref b] s) M cells slots 672 [(4, .int (zI i)), (3, .ref (zad G 27 0)), (2, .ref (zad G 26 0)), (1, .ref (zad G 0 0)), (0, .ref b)] [] := by
  refine z_aload_n C 672 dL_law_672 rfl 3 rfl ?_
  refine z_aload_n C 673 dL_law_673 rfl 4 rfl ?_
  refine z_iload C 674 dL_law_674 0 rfl ?_
  refine z_iconst C 676 dL_law_676 ?_
  refine z_iadd C 677 dL_law_677 ?_
  refine zs_ld C hX hbl hG 678 (by omega) (by omega) (by omega) dL_law_678 (fun y1 hy1 ey => ?_)
  subst ey
  refine z_aload_n C 679 dL_law_679 rfl 4 rfl ?_
  refine z_iload C 680 dL_law_680 0 rfl ?_
  refine z_iconst C 682 dL_law_682 ?_
  refine z_iadd C 683 dL_law_683 ?_
  refine zs_ld C hX hbl hG 684 (by omega) (by omega) (by omega) dL_law_684 (fun y2 hy2 ey => ?_)
  subst ey
  refine z_aload_n C 685 dL_law_685 rfl 4 rfl ?_
  refine z_iload C 686 dL_law_686 0 rfl ?_
  refine z_iconst C 688 dL_law_688 ?_
  refine z_iadd C 689 dL_law_689 ?_
  refine zs_ld C hX hbl hG 690 (by omega) (by omega) (by omega) dL_law_690 (fun y3 hy3 ey => ?_)
  subst ey
  refine z_aload_n C 691 dL_law_691 rfl 1 rfl ?_
  refine zs_call C hN 692 (As := [.ref (zad G 0 0), .int (zI (xs (i + 1).toNat).toInt), .int (zI (xs (i + 2).toNat).toInt), .int (zI (xs (i + 3).toNat).toInt), .ref (zad G 27 0)]) (rest := []) (n := 5) (hh := hh_delegate) hW wm_L_122 wcw_L_delegate wini_L wst_L_delegate ⟨by decide, by decide, by decide⟩ ⟨by decide, by decide⟩ rfl (Nat.le_of_ble_eq_true rfl) ⟨by show _ ≤ (668696 : Nat); omega, by show _ ≤ (7090017 : Nat); omega⟩ dL_law_692 rfl (fun k M1 hk hPW => ?_)
  obtain ⟨PR, hR, hend⟩ := hop k M1 hk hPW
  refine z_istore (lv' := [(5, .int (zI k)), (4, .int (zI i)), (3, .ref (zad G 27 0)), (2, .ref (zad G 26 0)), (1, .ref (zad G 0 0)), (0, .ref b)]) C 695 dL_law_695 (by decide) rfl ?_
  refine z_aload_n C 697 dL_law_697 rfl 3 rfl ?_
  refine z_aload_n C 698 dL_law_698 rfl 5 rfl ?_
  refine z_iload C 699 dL_law_699 1 rfl ?_
  refine z_iconst C 701 dL_law_701 ?_
  refine z_iadd C 702 dL_law_702 ?_
  refine zs_ld C hX hbl hG 703 (by omega) (by omega) (by omega) dL_law_703 (fun y4 hy4 ey => ?_)
  subst ey
  refine z_aload_n C 704 dL_law_704 rfl 5 rfl ?_
  refine z_iload C 705 dL_law_705 1 rfl ?_
  refine z_iconst C 707 dL_law_707 ?_
  refine z_iadd C 708 dL_law_708 ?_
  refine zs_ld C hX hbl hG 709 (by omega) (by omega) (by omega) dL_law_709 (fun y5 hy5 ey => ?_)
  subst ey
  refine z_aload_n C 710 dL_law_710 rfl 5 rfl ?_
  refine z_iload C 711 dL_law_711 1 rfl ?_
  refine z_iconst C 713 dL_law_713 ?_
  refine z_iadd C 714 dL_law_714 ?_
  refine zs_ld C hX hbl hG 715 (by omega) (by omega) (by omega) dL_law_715 (fun y6 hy6 ey => ?_)
  subst ey
  refine z_callVi C 716 (As := [.int (zI (xs (i + 1).toNat).toInt), .int (zI (xs (i + 2).toNat).toInt), .int (zI (xs (i + 3).toNat).toInt)]) (rest := []) hR zcl8 (show 0 < 1 by omega) (zc26 ..) (zW_of 3 C wm_L_124 wc_X8_delegate wini_8 wi_X8_delegate wse_X8_delegate ⟨by decide, by decide, by decide⟩ ⟨by decide, by decide⟩) rfl (Nat.le_of_ble_eq_true rfl) ⟨by show _ ≤ (668696 : Nat); omega, by show _ ≤ (7090017 : Nat); omega⟩ dL_law_716 rfl (fun x M2 hx hPR => ?_)
  obtain ⟨he1, he2, hn2⟩ := hend x M2 hx hPR
  refine z_istore (lv' := [(6, .int (zI x)), (5, .int (zI k)), (4, .int (zI i)), (3, .ref (zad G 27 0)), (2, .ref (zad G 26 0)), (1, .ref (zad G 0 0)), (0, .ref b)]) C 719 dL_law_719 (by decide) rfl ?_
  refine z_aload_n C 721 dL_law_721 rfl 4 rfl ?_
  refine z_callVi C 722 (As := []) (rest := []) (c_X8_thrown l G M2) zcl8 (show 0 < 1 by omega) (zc26 ..) (zW_of 0 C wm_L_94 wc_X8_thrown wini_8 wi_X8_thrown wse_X8_thrown ⟨by decide, by decide, by decide⟩ ⟨by decide, by decide⟩) rfl (Nat.le_of_ble_eq_true rfl) ⟨by show _ ≤ (668696 : Nat); omega, by show _ ≤ (7090017 : Nat); omega⟩ dL_law_722 rfl (fun th M3 hth hP3 => ?_)
  obtain ⟨rfl, hP3⟩ := hP3
  have hP3 : th = k := hP3.trans he1
  subst hP3
  refine z_iload C 725 dL_law_725 1 rfl ?_
  refine z_icmp_eq C 727 732 dL_law_727 (by decide) hth hth (fun _ => ?_) (fun c1 => absurd rfl c1)
  refine z_iload C 732 dL_law_732 1 rfl ?_
  refine z_if_ne C 734 749 dL_law_734 (by decide) hth (fun c1 => ?_) (fun c1 => ?_)
  · refine z_goto C 749 1596 dL_law_749 (by decide) ?_
    refine z_sub (lv' := [(4, .int (zI i)), (3, .ref (zad G 27 0)), (2, .ref (zad G 26 0)), (1, .ref (zad G 0 0)), (0, .ref b)]) [2, 3, 4, 5, 6] rfl ?_
    exact hnx M2 hn2
  have hz0 : th = 0 := by omega
  have he2 := he2 hz0
  refine z_aload_n C 737 dL_law_737 rfl 3 rfl ?_
  refine z_iconst C 738 dL_law_738 ?_
  refine zs_lald C 739 dL_law_739 ?_
  rw [he2]
  refine z_iload C 740 dL_law_740 0 rfl ?_
  refine z_i2l C 742 dL_law_742 ?_
  refine zs_cmp C 743 dL_law_743 ?_
  refine z_if_eq C 744 749 dL_law_744 (by decide) (by decide) (fun _ => ?_) (fun c3 => absurd rfl c3)
  refine z_goto C 749 1596 dL_law_749 (by decide) ?_
  refine z_sub (lv' := [(4, .int (zI i)), (3, .ref (zad G 27 0)), (2, .ref (zad G 26 0)), (1, .ref (zad G 0 0)), (0, .ref b)]) [2, 3, 4, 5, 6] rfl ?_
  exact hnx M2 hn2
set_option maxHeartbeats 4000000 in
set_option maxRecDepth 100000 in
theorem law_op9 {p : Program} {l : Launch} {e : Env} {s : State} {m : MethodId} {below : List Frame} {meth : Method} {c : Code} {G : zG} {b L : Nat} {xs : Nat → Int32} {M : zMem} {cells slots : Nat} {i : Int} (C : zC p s m #[Value.ref b] meth c G RL cL_law 7 (some .boolean)) (hN : zNC s) (hX : va_X b L xs s s.heap) (hbl : b < s.heap.size) (hG : G.2.2 = s.heap) (hi : 0 ≤ i) (hi5 : i + 5 ≤ L) (hL : L ≤ 2560) (hc : cells + 6 ≤ 668696) (hs : slots + 36 ≤ 7090017) {u : Int} (hu : ((xs (i + 2).toNat).toInt = 0 ∧ u = 0) ∨ (¬ (xs (i + 2).toNat).toInt = 0 ∧ u = 1)) {PW : Int → zMem → Prop} {NX : zMem → Prop} (hW : Met l yL_setUp [.codeWith yL_setUp cL_setUp 5 (some .int) hh_setUp] (zR 9 1 6) (zwPc G M [.ref (zad G 0 0), .int (zI (xs (i + 1).toNat).toInt), .int (zI u), .ref (zad G 27 0)]) (zQi G PW) 1 6 (zA G))
    (hop : ∀ (k : Int) (M1 : zMem), zrg k → PW k M1 → ∃ PR : Int → zMem → Prop, Met l yX8_setUp [.code yX8_setUp cX8_setUp 4 (some .boolean)] (zR 2 0 0) (zPc G M1 [.ref (zad G 26 0), .int (zI (xs (i + 1).toNat).toInt), .int (zI u)]) (zQi G PR) 0 0 (zA G) ∧ ∀ (x : Int) (M2 : zMem), zrg x → PR x M2 → zV M2 26 0 0 = k ∧ (k = 0 → zV M2 27 0 0 = x) ∧ (k = 0 → x = 0 ∨ x = 1) ∧ NX M2)
    (hnx : ∀ M2 : zMem, NX M2 → zZ p l e room_1 s m #[Value.ref b] below meth c G 7 (lw_Z below #[Value.ref b] s) M2 (cells + 1) (slots + 6) 1596 [(4, .int (zI i)), (3, .ref (zad G 27 0)), (2, .ref (zad G 26 0)), (1, .ref (zad G 0 0)), (0, .ref b)] []) : zZ p l e room_1 s m #[Value.ref b] below meth c G 7 (lw_Z below #[Value.ref b] s) M cells slots 752 [(4, .int (zI i)), (3, .ref (zad G 27 0)), (2, .ref (zad G 26 0)), (1, .ref (zad G 0 0)), (0, .ref b)] [] := by
  rcases hu with ⟨hu, rfl⟩ | ⟨hu, rfl⟩
  · skip
    refine z_aload_n C 752 dL_law_752 rfl 3 rfl ?_
    refine z_aload_n C 753 dL_law_753 rfl 4 rfl ?_
    refine z_iload C 754 dL_law_754 0 rfl ?_
    refine z_iconst C 756 dL_law_756 ?_
    refine z_iadd C 757 dL_law_757 ?_
    refine zs_ld C hX hbl hG 758 (by omega) (by omega) (by omega) dL_law_758 (fun y1 hy1 ey => ?_)
    subst ey
    refine z_aload_n C 759 dL_law_759 rfl 4 rfl ?_
    refine z_iload C 760 dL_law_760 0 rfl ?_
    refine z_iconst C 762 dL_law_762 ?_
    refine z_iadd C 763 dL_law_763 ?_
    refine zs_ld C hX hbl hG 764 (by omega) (by omega) (by omega) dL_law_764 (fun y2 hy2 ey => ?_)
    subst ey
    refine z_if_eq C 765 772 dL_law_765 (by decide) (by assumption) (fun c1 => ?_) (fun c1 => ?_)
    rotate_left
    · exact absurd hu c1
    refine z_iconst C 772 dL_law_772 ?_
    refine z_aload_n C 773 dL_law_773 rfl 1 rfl ?_
    refine zs_call C hN 774 (As := [.ref (zad G 0 0), .int (zI (xs (i + 1).toNat).toInt), .int (zI 0), .ref (zad G 27 0)]) (rest := []) (n := 4) (hh := hh_setUp) hW wm_L_125 wcw_L_setUp wini_L wst_L_setUp ⟨by decide, by decide, by decide⟩ ⟨by decide, by decide⟩ rfl (Nat.le_of_ble_eq_true rfl) ⟨by show _ ≤ (668696 : Nat); omega, by show _ ≤ (7090017 : Nat); omega⟩ dL_law_774 rfl (fun k M1 hk hPW => ?_)
    obtain ⟨PR, hR, hend⟩ := hop k M1 hk hPW
    refine z_istore (lv' := [(5, .int (zI k)), (4, .int (zI i)), (3, .ref (zad G 27 0)), (2, .ref (zad G 26 0)), (1, .ref (zad G 0 0)), (0, .ref b)]) C 777 dL_law_777 (by decide) rfl ?_
    refine z_aload_n C 779 dL_law_779 rfl 3 rfl ?_
    refine z_aload_n C 780 dL_law_780 rfl 5 rfl ?_
    refine z_iload C 781 dL_law_781 1 rfl ?_
    refine z_iconst C 783 dL_law_783 ?_
    refine z_iadd C 784 dL_law_784 ?_
    refine zs_ld C hX hbl hG 785 (by omega) (by omega) (by omega) dL_law_785 (fun y3 hy3 ey => ?_)
    subst ey
    refine z_aload_n C 786 dL_law_786 rfl 5 rfl ?_
    refine z_iload C 787 dL_law_787 1 rfl ?_
    refine z_iconst C 789 dL_law_789 ?_
    refine z_iadd C 790 dL_law_790 ?_
    refine zs_ld C hX hbl hG 791 (by omega) (by omega) (by omega) dL_law_791 (fun y4 hy4 ey => ?_)
    subst ey
    refine z_if_eq C 792 799 dL_law_792 (by decide) (by assumption) (fun c1 => ?_) (fun c1 => ?_)
    rotate_left
    · exact absurd hu c1
    refine z_iconst C 799 dL_law_799 ?_
    refine z_callVi C 800 (As := [.int (zI (xs (i + 1).toNat).toInt), .int (zI 0)]) (rest := []) hR zcl8 (show 0 < 1 by omega) (zc26 ..) (zW_of 2 C wm_L_128 wc_X8_setUp wini_8 wi_X8_setUp wse_X8_setUp ⟨by decide, by decide, by decide⟩ ⟨by decide, by decide⟩) rfl (Nat.le_of_ble_eq_true rfl) ⟨by show _ ≤ (668696 : Nat); omega, by show _ ≤ (7090017 : Nat); omega⟩ dL_law_800 rfl (fun x M2 hx hPR => ?_)
    obtain ⟨he1, he2, hxb, hn2⟩ := hend x M2 hx hPR
    refine z_istore (lv' := [(6, .int (zI x)), (5, .int (zI k)), (4, .int (zI i)), (3, .ref (zad G 27 0)), (2, .ref (zad G 26 0)), (1, .ref (zad G 0 0)), (0, .ref b)]) C 803 dL_law_803 (by decide) rfl ?_
    refine z_aload_n C 805 dL_law_805 rfl 4 rfl ?_
    refine z_callVi C 806 (As := []) (rest := []) (c_X8_thrown l G M2) zcl8 (show 0 < 1 by omega) (zc26 ..) (zW_of 0 C wm_L_94 wc_X8_thrown wini_8 wi_X8_thrown wse_X8_thrown ⟨by decide, by decide, by decide⟩ ⟨by decide, by decide⟩) rfl (Nat.le_of_ble_eq_true rfl) ⟨by show _ ≤ (668696 : Nat); omega, by show _ ≤ (7090017 : Nat); omega⟩ dL_law_806 rfl (fun th M3 hth hP3 => ?_)
    obtain ⟨rfl, hP3⟩ := hP3
    have hP3 : th = k := hP3.trans he1
    subst hP3
    refine z_iload C 809 dL_law_809 1 rfl ?_
    refine z_icmp_eq C 811 816 dL_law_811 (by decide) hth hth (fun _ => ?_) (fun c1 => absurd rfl c1)
    refine z_iload C 816 dL_law_816 1 rfl ?_
    refine z_if_ne C 818 840 dL_law_818 (by decide) hth (fun c1 => ?_) (fun c1 => ?_)
    · refine z_goto C 840 1596 dL_law_840 (by decide) ?_
      refine z_sub (lv' := [(4, .int (zI i)), (3, .ref (zad G 27 0)), (2, .ref (zad G 26 0)), (1, .ref (zad G 0 0)), (0, .ref b)]) [2, 3, 4, 5, 6] rfl ?_
      exact hnx M2 hn2
    have hz0 : th = 0 := by omega
    have he2 := he2 hz0
    have hxb := hxb hz0
    refine z_aload_n C 821 dL_law_821 rfl 3 rfl ?_
    refine z_iconst C 822 dL_law_822 ?_
    refine zs_lald C 823 dL_law_823 ?_
    rw [he2]
    refine z_iload C 824 dL_law_824 0 rfl ?_
    refine z_if_eq C 826 833 dL_law_826 (by decide) hx (fun c2 => ?_) (fun c2 => ?_)
    · have hx9 : x = 0 := by omega
      subst hx9
      refine z_lconst C 833 (x := 0) dL_law_833 (by decide +kernel) ?_
      refine zs_cmp C 834 dL_law_834 ?_
      refine z_if_eq C 835 840 dL_law_835 (by decide) (by decide) (fun _ => ?_) (fun c3 => absurd rfl c3)
      refine z_goto C 840 1596 dL_law_840 (by decide) ?_
      refine z_sub (lv' := [(4, .int (zI i)), (3, .ref (zad G 27 0)), (2, .ref (zad G 26 0)), (1, .ref (zad G 0 0)), (0, .ref b)]) [2, 3, 4, 5, 6] rfl ?_
      exact hnx M2 hn2
    · have hx9 : x = 1 := by omega
      subst hx9
      refine z_lconst C 829 (x := 1) dL_law_829 (by decide +kernel) ?_
      refine z_goto C 830 834 dL_law_830 (by decide) ?_
      refine zs_cmp C 834 dL_law_834 ?_
      refine z_if_eq C 835 840 dL_law_835 (by decide) (by decide) (fun _ => ?_) (fun c3 => absurd rfl c3)
      refine z_goto C 840 1596 dL_law_840 (by decide) ?_
      refine z_sub (lv' := [(4, .int (zI i)), (3, .ref (zad G 27 0)), (2, .ref (zad G 26 0)), (1, .ref (zad G 0 0)), (0, .ref b)]) [2, 3, 4, 5, 6] rfl ?_
      exact hnx M2 hn2
  · skip
    refine z_aload_n C 752 dL_law_752 rfl 3 rfl ?_
    refine z_aload_n C 753 dL_law_753 rfl 4 rfl ?_
    refine z_iload C 754 dL_law_754 0 rfl ?_
    refine z_iconst C 756 dL_law_756 ?_
    refine z_iadd C 757 dL_law_757 ?_
    refine zs_ld C hX hbl hG 758 (by omega) (by omega) (by omega) dL_law_758 (fun y1 hy1 ey => ?_)
    subst ey
    refine z_aload_n C 759 dL_law_759 rfl 4 rfl ?_
    refine z_iload C 760 dL_law_760 0 rfl ?_
    refine z_iconst C 762 dL_law_762 ?_
    refine z_iadd C 763 dL_law_763 ?_
    refine zs_ld C hX hbl hG 764 (by omega) (by omega) (by omega) dL_law_764 (fun y2 hy2 ey => ?_)
    subst ey
    refine z_if_eq C 765 772 dL_law_765 (by decide) (by assumption) (fun c1 => ?_) (fun c1 => ?_)
    · exact absurd c1 hu
    refine z_iconst C 768 dL_law_768 ?_
    refine z_goto C 769 773 dL_law_769 (by decide) ?_
    refine z_aload_n C 773 dL_law_773 rfl 1 rfl ?_
    refine zs_call C hN 774 (As := [.ref (zad G 0 0), .int (zI (xs (i + 1).toNat).toInt), .int (zI 1), .ref (zad G 27 0)]) (rest := []) (n := 4) (hh := hh_setUp) hW wm_L_125 wcw_L_setUp wini_L wst_L_setUp ⟨by decide, by decide, by decide⟩ ⟨by decide, by decide⟩ rfl (Nat.le_of_ble_eq_true rfl) ⟨by show _ ≤ (668696 : Nat); omega, by show _ ≤ (7090017 : Nat); omega⟩ dL_law_774 rfl (fun k M1 hk hPW => ?_)
    obtain ⟨PR, hR, hend⟩ := hop k M1 hk hPW
    refine z_istore (lv' := [(5, .int (zI k)), (4, .int (zI i)), (3, .ref (zad G 27 0)), (2, .ref (zad G 26 0)), (1, .ref (zad G 0 0)), (0, .ref b)]) C 777 dL_law_777 (by decide) rfl ?_
    refine z_aload_n C 779 dL_law_779 rfl 3 rfl ?_
    refine z_aload_n C 780 dL_law_780 rfl 5 rfl ?_
    refine z_iload C 781 dL_law_781 1 rfl ?_
    refine z_iconst C 783 dL_law_783 ?_
    refine z_iadd C 784 dL_law_784 ?_
    refine zs_ld C hX hbl hG 785 (by omega) (by omega) (by omega) dL_law_785 (fun y3 hy3 ey => ?_)
    subst ey
    refine z_aload_n C 786 dL_law_786 rfl 5 rfl ?_
    refine z_iload C 787 dL_law_787 1 rfl ?_
    refine z_iconst C 789 dL_law_789 ?_
    refine z_iadd C 790 dL_law_790 ?_
    refine zs_ld C hX hbl hG 791 (by omega) (by omega) (by omega) dL_law_791 (fun y4 hy4 ey => ?_)
    subst ey
    refine z_if_eq C 792 799 dL_law_792 (by decide) (by assumption) (fun c1 => ?_) (fun c1 => ?_)
    · exact absurd c1 hu
    refine z_iconst C 795 dL_law_795 ?_
    refine z_goto C 796 800 dL_law_796 (by decide) ?_
    refine z_callVi C 800 (As := [.int (zI (xs (i + 1).toNat).toInt), .int (zI 1)]) (rest := []) hR zcl8 (show 0 < 1 by omega) (zc26 ..) (zW_of 2 C wm_L_128 wc_X8_setUp wini_8 wi_X8_setUp wse_X8_setUp ⟨by decide, by decide, by decide⟩ ⟨by decide, by decide⟩) rfl (Nat.le_of_ble_eq_true rfl) ⟨by show _ ≤ (668696 : Nat); omega, by show _ ≤ (7090017 : Nat); omega⟩ dL_law_800 rfl (fun x M2 hx hPR => ?_)
    obtain ⟨he1, he2, hxb, hn2⟩ := hend x M2 hx hPR
    refine z_istore (lv' := [(6, .int (zI x)), (5, .int (zI k)), (4, .int (zI i)), (3, .ref (zad G 27 0)), (2, .ref (zad G 26 0)), (1, .ref (zad G 0 0)), (0, .ref b)]) C 803 dL_law_803 (by decide) rfl ?_
    refine z_aload_n C 805 dL_law_805 rfl 4 rfl ?_
    refine z_callVi C 806 (As := []) (rest := []) (c_X8_thrown l G M2) zcl8 (show 0 < 1 by omega) (zc26 ..) (zW_of 0 C wm_L_94 wc_X8_thrown wini_8 wi_X8_thrown wse_X8_thrown ⟨by decide, by decide, by decide⟩ ⟨by decide, by decide⟩) rfl (Nat.le_of_ble_eq_true rfl) ⟨by show _ ≤ (668696 : Nat); omega, by show _ ≤ (7090017 : Nat); omega⟩ dL_law_806 rfl (fun th M3 hth hP3 => ?_)
    obtain ⟨rfl, hP3⟩ := hP3
    have hP3 : th = k := hP3.trans he1
    subst hP3
    refine z_iload C 809 dL_law_809 1 rfl ?_
    refine z_icmp_eq C 811 816 dL_law_811 (by decide) hth hth (fun _ => ?_) (fun c1 => absurd rfl c1)
    refine z_iload C 816 dL_law_816 1 rfl ?_
    refine z_if_ne C 818 840 dL_law_818 (by decide) hth (fun c1 => ?_) (fun c1 => ?_)
    · refine z_goto C 840 1596 dL_law_840 (by decide) ?_
      refine z_sub (lv' := [(4, .int (zI i)), (3, .ref (zad G 27 0)), (2, .ref (zad G 26 0)), (1, .ref (zad G 0 0)), (0, .ref b)]) [2, 3, 4, 5, 6] rfl ?_
      exact hnx M2 hn2
    have hz0 : th = 0 := by omega
    have he2 := he2 hz0
    have hxb := hxb hz0
    refine z_aload_n C 821 dL_law_821 rfl 3 rfl ?_
    refine z_iconst C 822 dL_law_822 ?_
    refine zs_lald C 823 dL_law_823 ?_
    rw [he2]
    refine z_iload C 824 dL_law_824 0 rfl ?_
    refine z_if_eq C 826 833 dL_law_826 (by decide) hx (fun c2 => ?_) (fun c2 => ?_)
    · have hx9 : x = 0 := by omega
      subst hx9
      refine z_lconst C 833 (x := 0) dL_law_833 (by decide +kernel) ?_
      refine zs_cmp C 834 dL_law_834 ?_
      refine z_if_eq C 835 840 dL_law_835 (by decide) (by decide) (fun _ => ?_) (fun c3 => absurd rfl c3)
      refine z_goto C 840 1596 dL_law_840 (by decide) ?_
      refine z_sub (lv' := [(4, .int (zI i)), (3, .ref (zad G 27 0)), (2, .ref (zad G 26 0)), (1, .ref (zad G 0 0)), (0, .ref b)]) [2, 3, 4, 5, 6] rfl ?_
      exact hnx M2 hn2
    · have hx9 : x = 1 := by omega
      subst hx9
      refine z_lconst C 829 (x := 1) dL_law_829 (by decide +kernel) ?_
      refine z_goto C 830 834 dL_law_830 (by decide) ?_
      refine zs_cmp C 834 dL_law_834 ?_
      refine z_if_eq C 835 840 dL_law_835 (by decide) (by decide) (fun _ => ?_) (fun c3 => absurd rfl c3)
      refine z_goto C 840 1596 dL_law_840 (by decide) ?_
      refine z_sub (lv' := [(4, .int (zI i)), (3, .ref (zad G 27 0)), (2, .ref (zad G 26 0)), (1, .ref (zad G 0 0)), (0, .ref b)]) [2, 3, 4, 5, 6] rfl ?_
      exact hnx M2 hn2
set_option maxHeartbeats 4000000 in
set_option maxRecDepth 100000 in
theorem law_op10 {p : Program} {l : Launch} {e : Env} {s : State} {m : MethodId} {below : List Frame} {meth : Method} {c : Code} {G : zG} {b L : Nat} {xs : Nat → Int32} {M : zMem} {cells slots : Nat} {i : Int} (C : zC p s m #[Value.ref b] meth c G RL cL_law 7 (some .boolean)) (hN : zNC s) (hX : va_X b L xs s s.heap) (hbl : b < s.heap.size) (hG : G.2.2 = s.heap) (hi : 0 ≤ i) (hi5 : i + 5 ≤ L) (hL : L ≤ 2560) (hc : cells + 6 ≤ 668696) (hs : slots + 36 ≤ 7090017) {PW : Int → zMem → Prop} {NX : zMem → Prop} (hW : Met l yL_serverOf [.codeWith yL_serverOf cL_serverOf 4 (some .int) hh_serverOf] (zR 9 1 6) (zwPc G M [.ref (zad G 0 0), .int (zI (xs (i + 1).toNat).toInt), .ref (zad G 27 0)]) (zQi G PW) 1 6 (zA G))
    (hop : ∀ (k : Int) (M1 : zMem), zrg k → PW k M1 → ∃ PR : Int → zMem → Prop, Met l yX8_serverOf [.code yX8_serverOf cX8_serverOf 2 (some .int)] (zR 3 0 0) (zPc G M1 [.ref (zad G 26 0), .int (zI (xs (i + 1).toNat).toInt)]) (zQi G PR) 0 0 (zA G) ∧ ∀ (x : Int) (M2 : zMem), zrg x → PR x M2 → zV M2 26 0 0 = k ∧ (k = 0 → zV M2 27 0 0 = x) ∧ NX M2)
    (hnx : ∀ M2 : zMem, NX M2 → zZ p l e room_1 s m #[Value.ref b] below meth c G 7 (lw_Z below #[Value.ref b] s) M2 (cells + 1) (slots + 6) 1596 [(4, .int (zI i)), (3, .ref (zad G 27 0)), (2, .ref (zad G 26 0)), (1, .ref (zad G 0 0)), (0, .ref b)] []) : zZ p l e room_1 s m #[Value.ref b] below meth c G 7 (lw_Z below #[Value.ref b] s) M cells slots 843 [(4, .int (zI i)), (3, .ref (zad G 27 0)), (2, .ref (zad G 26 0)), (1, .ref (zad G 0 0)), (0, .ref b)] [] := by
  refine z_aload_n C 843 dL_law_843 rfl 3 rfl ?_
  refine z_aload_n C 844 dL_law_844 rfl 4 rfl ?_
  refine z_iload C 845 dL_law_845 0 rfl ?_
  refine z_iconst C 847 dL_law_847 ?_
  refine z_iadd C 848 dL_law_848 ?_
  refine zs_ld C hX hbl hG 849 (by omega) (by omega) (by omega) dL_law_849 (fun y1 hy1 ey => ?_)
  subst ey
  refine z_aload_n C 850 dL_law_850 rfl 1 rfl ?_
  refine zs_call C hN 851 (As := [.ref (zad G 0 0), .int (zI (xs (i + 1).toNat).toInt), .ref (zad G 27 0)]) (rest := []) (n := 3) (hh := hh_serverOf) hW wm_L_129 wcw_L_serverOf wini_L wst_L_serverOf ⟨by decide, by decide, by decide⟩ ⟨by decide, by decide⟩ rfl (Nat.le_of_ble_eq_true rfl) ⟨by show _ ≤ (668696 : Nat); omega, by show _ ≤ (7090017 : Nat); omega⟩ dL_law_851 rfl (fun k M1 hk hPW => ?_)
  obtain ⟨PR, hR, hend⟩ := hop k M1 hk hPW
  refine z_istore (lv' := [(5, .int (zI k)), (4, .int (zI i)), (3, .ref (zad G 27 0)), (2, .ref (zad G 26 0)), (1, .ref (zad G 0 0)), (0, .ref b)]) C 854 dL_law_854 (by decide) rfl ?_
  refine z_aload_n C 856 dL_law_856 rfl 3 rfl ?_
  refine z_aload_n C 857 dL_law_857 rfl 5 rfl ?_
  refine z_iload C 858 dL_law_858 1 rfl ?_
  refine z_iconst C 860 dL_law_860 ?_
  refine z_iadd C 861 dL_law_861 ?_
  refine zs_ld C hX hbl hG 862 (by omega) (by omega) (by omega) dL_law_862 (fun y2 hy2 ey => ?_)
  subst ey
  refine z_callVi C 863 (As := [.int (zI (xs (i + 1).toNat).toInt)]) (rest := []) hR zcl8 (show 0 < 1 by omega) (zc26 ..) (zW_of 1 C wm_L_131 wc_X8_serverOf wini_8 wi_X8_serverOf wse_X8_serverOf ⟨by decide, by decide, by decide⟩ ⟨by decide, by decide⟩) rfl (Nat.le_of_ble_eq_true rfl) ⟨by show _ ≤ (668696 : Nat); omega, by show _ ≤ (7090017 : Nat); omega⟩ dL_law_863 rfl (fun x M2 hx hPR => ?_)
  obtain ⟨he1, he2, hn2⟩ := hend x M2 hx hPR
  refine z_istore (lv' := [(6, .int (zI x)), (5, .int (zI k)), (4, .int (zI i)), (3, .ref (zad G 27 0)), (2, .ref (zad G 26 0)), (1, .ref (zad G 0 0)), (0, .ref b)]) C 866 dL_law_866 (by decide) rfl ?_
  refine z_aload_n C 868 dL_law_868 rfl 4 rfl ?_
  refine z_callVi C 869 (As := []) (rest := []) (c_X8_thrown l G M2) zcl8 (show 0 < 1 by omega) (zc26 ..) (zW_of 0 C wm_L_94 wc_X8_thrown wini_8 wi_X8_thrown wse_X8_thrown ⟨by decide, by decide, by decide⟩ ⟨by decide, by decide⟩) rfl (Nat.le_of_ble_eq_true rfl) ⟨by show _ ≤ (668696 : Nat); omega, by show _ ≤ (7090017 : Nat); omega⟩ dL_law_869 rfl (fun th M3 hth hP3 => ?_)
  obtain ⟨rfl, hP3⟩ := hP3
  have hP3 : th = k := hP3.trans he1
  subst hP3
  refine z_iload C 872 dL_law_872 1 rfl ?_
  refine z_icmp_eq C 874 879 dL_law_874 (by decide) hth hth (fun _ => ?_) (fun c1 => absurd rfl c1)
  refine z_iload C 879 dL_law_879 1 rfl ?_
  refine z_if_ne C 881 896 dL_law_881 (by decide) hth (fun c1 => ?_) (fun c1 => ?_)
  · refine z_goto C 896 1596 dL_law_896 (by decide) ?_
    refine z_sub (lv' := [(4, .int (zI i)), (3, .ref (zad G 27 0)), (2, .ref (zad G 26 0)), (1, .ref (zad G 0 0)), (0, .ref b)]) [2, 3, 4, 5, 6] rfl ?_
    exact hnx M2 hn2
  have hz0 : th = 0 := by omega
  have he2 := he2 hz0
  refine z_aload_n C 884 dL_law_884 rfl 3 rfl ?_
  refine z_iconst C 885 dL_law_885 ?_
  refine zs_lald C 886 dL_law_886 ?_
  rw [he2]
  refine z_iload C 887 dL_law_887 0 rfl ?_
  refine z_i2l C 889 dL_law_889 ?_
  refine zs_cmp C 890 dL_law_890 ?_
  refine z_if_eq C 891 896 dL_law_891 (by decide) (by decide) (fun _ => ?_) (fun c3 => absurd rfl c3)
  refine z_goto C 896 1596 dL_law_896 (by decide) ?_
  refine z_sub (lv' := [(4, .int (zI i)), (3, .ref (zad G 27 0)), (2, .ref (zad G 26 0)), (1, .ref (zad G 0 0)), (0, .ref b)]) [2, 3, 4, 5, 6] rfl ?_
  exact hnx M2 hn2
set_option maxHeartbeats 4000000 in
set_option maxRecDepth 100000 in
theorem law_op11 {p : Program} {l : Launch} {e : Env} {s : State} {m : MethodId} {below : List Frame} {meth : Method} {c : Code} {G : zG} {b L : Nat} {xs : Nat → Int32} {M : zMem} {cells slots : Nat} {i : Int} (C : zC p s m #[Value.ref b] meth c G RL cL_law 7 (some .boolean)) (hN : zNC s) (hX : va_X b L xs s s.heap) (hbl : b < s.heap.size) (hG : G.2.2 = s.heap) (hi : 0 ≤ i) (hi5 : i + 5 ≤ L) (hL : L ≤ 2560) (hc : cells + 6 ≤ 668696) (hs : slots + 36 ≤ 7090017) {PW : Int → zMem → Prop} {NX : zMem → Prop} (hW : Met l yL_answers [.codeWith yL_answers cL_answers 4 (some .int) hh_answers] (zR 9 1 6) (zwPc G M [.ref (zad G 0 0), .int (zI (xs (i + 1).toNat).toInt), .ref (zad G 27 0)]) (zQi G PW) 1 6 (zA G))
    (hop : ∀ (k : Int) (M1 : zMem), zrg k → PW k M1 → ∃ PR : Int → zMem → Prop, Met l yX8_answers [.code yX8_answers cX8_answers 2 (some .int)] (zR 2 0 0) (zPc G M1 [.ref (zad G 26 0), .int (zI (xs (i + 1).toNat).toInt)]) (zQi G PR) 0 0 (zA G) ∧ ∀ (x : Int) (M2 : zMem), zrg x → PR x M2 → zV M2 26 0 0 = k ∧ (k = 0 → zV M2 27 0 0 = x) ∧ NX M2)
    (hnx : ∀ M2 : zMem, NX M2 → zZ p l e room_1 s m #[Value.ref b] below meth c G 7 (lw_Z below #[Value.ref b] s) M2 (cells + 1) (slots + 6) 1596 [(4, .int (zI i)), (3, .ref (zad G 27 0)), (2, .ref (zad G 26 0)), (1, .ref (zad G 0 0)), (0, .ref b)] []) : zZ p l e room_1 s m #[Value.ref b] below meth c G 7 (lw_Z below #[Value.ref b] s) M cells slots 899 [(4, .int (zI i)), (3, .ref (zad G 27 0)), (2, .ref (zad G 26 0)), (1, .ref (zad G 0 0)), (0, .ref b)] [] := by
  refine z_aload_n C 899 dL_law_899 rfl 3 rfl ?_
  refine z_aload_n C 900 dL_law_900 rfl 4 rfl ?_
  refine z_iload C 901 dL_law_901 0 rfl ?_
  refine z_iconst C 903 dL_law_903 ?_
  refine z_iadd C 904 dL_law_904 ?_
  refine zs_ld C hX hbl hG 905 (by omega) (by omega) (by omega) dL_law_905 (fun y1 hy1 ey => ?_)
  subst ey
  refine z_aload_n C 906 dL_law_906 rfl 1 rfl ?_
  refine zs_call C hN 907 (As := [.ref (zad G 0 0), .int (zI (xs (i + 1).toNat).toInt), .ref (zad G 27 0)]) (rest := []) (n := 3) (hh := hh_answers) hW wm_L_132 wcw_L_answers wini_L wst_L_answers ⟨by decide, by decide, by decide⟩ ⟨by decide, by decide⟩ rfl (Nat.le_of_ble_eq_true rfl) ⟨by show _ ≤ (668696 : Nat); omega, by show _ ≤ (7090017 : Nat); omega⟩ dL_law_907 rfl (fun k M1 hk hPW => ?_)
  obtain ⟨PR, hR, hend⟩ := hop k M1 hk hPW
  refine z_istore (lv' := [(5, .int (zI k)), (4, .int (zI i)), (3, .ref (zad G 27 0)), (2, .ref (zad G 26 0)), (1, .ref (zad G 0 0)), (0, .ref b)]) C 910 dL_law_910 (by decide) rfl ?_
  refine z_aload_n C 912 dL_law_912 rfl 3 rfl ?_
  refine z_aload_n C 913 dL_law_913 rfl 5 rfl ?_
  refine z_iload C 914 dL_law_914 1 rfl ?_
  refine z_iconst C 916 dL_law_916 ?_
  refine z_iadd C 917 dL_law_917 ?_
  refine zs_ld C hX hbl hG 918 (by omega) (by omega) (by omega) dL_law_918 (fun y2 hy2 ey => ?_)
  subst ey
  refine z_callVi C 919 (As := [.int (zI (xs (i + 1).toNat).toInt)]) (rest := []) hR zcl8 (show 0 < 1 by omega) (zc26 ..) (zW_of 1 C wm_L_134 wc_X8_answers wini_8 wi_X8_answers wse_X8_answers ⟨by decide, by decide, by decide⟩ ⟨by decide, by decide⟩) rfl (Nat.le_of_ble_eq_true rfl) ⟨by show _ ≤ (668696 : Nat); omega, by show _ ≤ (7090017 : Nat); omega⟩ dL_law_919 rfl (fun x M2 hx hPR => ?_)
  obtain ⟨he1, he2, hn2⟩ := hend x M2 hx hPR
  refine z_istore (lv' := [(6, .int (zI x)), (5, .int (zI k)), (4, .int (zI i)), (3, .ref (zad G 27 0)), (2, .ref (zad G 26 0)), (1, .ref (zad G 0 0)), (0, .ref b)]) C 922 dL_law_922 (by decide) rfl ?_
  refine z_aload_n C 924 dL_law_924 rfl 4 rfl ?_
  refine z_callVi C 925 (As := []) (rest := []) (c_X8_thrown l G M2) zcl8 (show 0 < 1 by omega) (zc26 ..) (zW_of 0 C wm_L_94 wc_X8_thrown wini_8 wi_X8_thrown wse_X8_thrown ⟨by decide, by decide, by decide⟩ ⟨by decide, by decide⟩) rfl (Nat.le_of_ble_eq_true rfl) ⟨by show _ ≤ (668696 : Nat); omega, by show _ ≤ (7090017 : Nat); omega⟩ dL_law_925 rfl (fun th M3 hth hP3 => ?_)
  obtain ⟨rfl, hP3⟩ := hP3
  have hP3 : th = k := hP3.trans he1
  subst hP3
  refine z_iload C 928 dL_law_928 1 rfl ?_
  refine z_icmp_eq C 930 935 dL_law_930 (by decide) hth hth (fun _ => ?_) (fun c1 => absurd rfl c1)
  refine z_iload C 935 dL_law_935 1 rfl ?_
  refine z_if_ne C 937 952 dL_law_937 (by decide) hth (fun c1 => ?_) (fun c1 => ?_)
  · refine z_goto C 952 1596 dL_law_952 (by decide) ?_
    refine z_sub (lv' := [(4, .int (zI i)), (3, .ref (zad G 27 0)), (2, .ref (zad G 26 0)), (1, .ref (zad G 0 0)), (0, .ref b)]) [2, 3, 4, 5, 6] rfl ?_
    exact hnx M2 hn2
  have hz0 : th = 0 := by omega
  have he2 := he2 hz0
  refine z_aload_n C 940 dL_law_940 rfl 3 rfl ?_
  refine z_iconst C 941 dL_law_941 ?_
  refine zs_lald C 942 dL_law_942 ?_
  rw [he2]
  refine z_iload C 943 dL_law_943 0 rfl ?_
  refine z_i2l C 945 dL_law_945 ?_
  refine zs_cmp C 946 dL_law_946 ?_
  refine z_if_eq C 947 952 dL_law_947 (by decide) (by decide) (fun _ => ?_) (fun c3 => absurd rfl c3)
  refine z_goto C 952 1596 dL_law_952 (by decide) ?_
  refine z_sub (lv' := [(4, .int (zI i)), (3, .ref (zad G 27 0)), (2, .ref (zad G 26 0)), (1, .ref (zad G 0 0)), (0, .ref b)]) [2, 3, 4, 5, 6] rfl ?_
  exact hnx M2 hn2
set_option maxHeartbeats 4000000 in
set_option maxRecDepth 100000 in
theorem law_op12 {p : Program} {l : Launch} {e : Env} {s : State} {m : MethodId} {below : List Frame} {meth : Method} {c : Code} {G : zG} {b L : Nat} {xs : Nat → Int32} {M : zMem} {cells slots : Nat} {i : Int} (C : zC p s m #[Value.ref b] meth c G RL cL_law 7 (some .boolean)) (hN : zNC s) (hX : va_X b L xs s s.heap) (hbl : b < s.heap.size) (hG : G.2.2 = s.heap) (hi : 0 ≤ i) (hi5 : i + 5 ≤ L) (hL : L ≤ 2560) (hc : cells + 6 ≤ 668696) (hs : slots + 36 ≤ 7090017) {PW : Int → zMem → Prop} {NX : zMem → Prop} (hW : Met l yL_send [.codeWith yL_send cL_send 5 (some .int) hh_send] (zR 9 2 12) (zwPc G M [.ref (zad G 0 0), .int (zI (xs (i + 1).toNat).toInt), .int (zI (xs (i + 2).toNat).toInt), .ref (zad G 27 0)]) (zQi G PW) 2 12 (zA G))
    (hop : ∀ (k : Int) (M1 : zMem), zrg k → PW k M1 → ∃ PR : Int → zMem → Prop, Met l yX8_send [.code yX8_send cX8_send 5 (some .int)] (zR 5 0 0) (zPc G M1 [.ref (zad G 26 0), .int (zI (xs (i + 1).toNat).toInt), .int (zI (xs (i + 2).toNat).toInt)]) (zQi G PR) 0 0 (zA G) ∧ ∀ (x : Int) (M2 : zMem), zrg x → PR x M2 → zV M2 26 0 0 = k ∧ (k = 0 → zV M2 27 0 0 = x) ∧ NX M2)
    (hnx : ∀ M2 : zMem, NX M2 → zZ p l e room_1 s m #[Value.ref b] below meth c G 7 (lw_Z below #[Value.ref b] s) M2 (cells + 2) (slots + 12) 1596 [(4, .int (zI i)), (3, .ref (zad G 27 0)), (2, .ref (zad G 26 0)), (1, .ref (zad G 0 0)), (0, .ref b)] []) : zZ p l e room_1 s m #[Value.ref b] below meth c G 7 (lw_Z below #[Value.ref b] s) M cells slots 955 [(4, .int (zI i)), (3, .ref (zad G 27 0)), (2, .ref (zad G 26 0)), (1, .ref (zad G 0 0)), (0, .ref b)] [] := by
  refine z_aload_n C 955 dL_law_955 rfl 3 rfl ?_
  refine z_aload_n C 956 dL_law_956 rfl 4 rfl ?_
  refine z_iload C 957 dL_law_957 0 rfl ?_
  refine z_iconst C 959 dL_law_959 ?_
  refine z_iadd C 960 dL_law_960 ?_
  refine zs_ld C hX hbl hG 961 (by omega) (by omega) (by omega) dL_law_961 (fun y1 hy1 ey => ?_)
  subst ey
  refine z_aload_n C 962 dL_law_962 rfl 4 rfl ?_
  refine z_iload C 963 dL_law_963 0 rfl ?_
  refine z_iconst C 965 dL_law_965 ?_
  refine z_iadd C 966 dL_law_966 ?_
  refine zs_ld C hX hbl hG 967 (by omega) (by omega) (by omega) dL_law_967 (fun y2 hy2 ey => ?_)
  subst ey
  refine z_aload_n C 968 dL_law_968 rfl 1 rfl ?_
  refine zs_call C hN 969 (As := [.ref (zad G 0 0), .int (zI (xs (i + 1).toNat).toInt), .int (zI (xs (i + 2).toNat).toInt), .ref (zad G 27 0)]) (rest := []) (n := 4) (hh := hh_send) hW wm_L_135 wcw_L_send wini_L wst_L_send ⟨by decide, by decide, by decide⟩ ⟨by decide, by decide⟩ rfl (Nat.le_of_ble_eq_true rfl) ⟨by show _ ≤ (668696 : Nat); omega, by show _ ≤ (7090017 : Nat); omega⟩ dL_law_969 rfl (fun k M1 hk hPW => ?_)
  obtain ⟨PR, hR, hend⟩ := hop k M1 hk hPW
  refine z_istore (lv' := [(5, .int (zI k)), (4, .int (zI i)), (3, .ref (zad G 27 0)), (2, .ref (zad G 26 0)), (1, .ref (zad G 0 0)), (0, .ref b)]) C 972 dL_law_972 (by decide) rfl ?_
  refine z_aload_n C 974 dL_law_974 rfl 3 rfl ?_
  refine z_aload_n C 975 dL_law_975 rfl 5 rfl ?_
  refine z_iload C 976 dL_law_976 1 rfl ?_
  refine z_iconst C 978 dL_law_978 ?_
  refine z_iadd C 979 dL_law_979 ?_
  refine zs_ld C hX hbl hG 980 (by omega) (by omega) (by omega) dL_law_980 (fun y3 hy3 ey => ?_)
  subst ey
  refine z_aload_n C 981 dL_law_981 rfl 5 rfl ?_
  refine z_iload C 982 dL_law_982 1 rfl ?_
  refine z_iconst C 984 dL_law_984 ?_
  refine z_iadd C 985 dL_law_985 ?_
  refine zs_ld C hX hbl hG 986 (by omega) (by omega) (by omega) dL_law_986 (fun y4 hy4 ey => ?_)
  subst ey
  refine z_callVi C 987 (As := [.int (zI (xs (i + 1).toNat).toInt), .int (zI (xs (i + 2).toNat).toInt)]) (rest := []) hR zcl8 (show 0 < 1 by omega) (zc26 ..) (zW_of 2 C wm_L_137 wc_X8_send wini_8 wi_X8_send wse_X8_send ⟨by decide, by decide, by decide⟩ ⟨by decide, by decide⟩) rfl (Nat.le_of_ble_eq_true rfl) ⟨by show _ ≤ (668696 : Nat); omega, by show _ ≤ (7090017 : Nat); omega⟩ dL_law_987 rfl (fun x M2 hx hPR => ?_)
  obtain ⟨he1, he2, hn2⟩ := hend x M2 hx hPR
  refine z_istore (lv' := [(6, .int (zI x)), (5, .int (zI k)), (4, .int (zI i)), (3, .ref (zad G 27 0)), (2, .ref (zad G 26 0)), (1, .ref (zad G 0 0)), (0, .ref b)]) C 990 dL_law_990 (by decide) rfl ?_
  refine z_aload_n C 992 dL_law_992 rfl 4 rfl ?_
  refine z_callVi C 993 (As := []) (rest := []) (c_X8_thrown l G M2) zcl8 (show 0 < 1 by omega) (zc26 ..) (zW_of 0 C wm_L_94 wc_X8_thrown wini_8 wi_X8_thrown wse_X8_thrown ⟨by decide, by decide, by decide⟩ ⟨by decide, by decide⟩) rfl (Nat.le_of_ble_eq_true rfl) ⟨by show _ ≤ (668696 : Nat); omega, by show _ ≤ (7090017 : Nat); omega⟩ dL_law_993 rfl (fun th M3 hth hP3 => ?_)
  obtain ⟨rfl, hP3⟩ := hP3
  have hP3 : th = k := hP3.trans he1
  subst hP3
  refine z_iload C 996 dL_law_996 1 rfl ?_
  refine z_icmp_eq C 998 1003 dL_law_998 (by decide) hth hth (fun _ => ?_) (fun c1 => absurd rfl c1)
  refine z_iload C 1003 dL_law_1003 1 rfl ?_
  refine z_if_ne C 1005 1020 dL_law_1005 (by decide) hth (fun c1 => ?_) (fun c1 => ?_)
  · refine z_goto C 1020 1596 dL_law_1020 (by decide) ?_
    refine z_sub (lv' := [(4, .int (zI i)), (3, .ref (zad G 27 0)), (2, .ref (zad G 26 0)), (1, .ref (zad G 0 0)), (0, .ref b)]) [2, 3, 4, 5, 6] rfl ?_
    exact hnx M2 hn2
  have hz0 : th = 0 := by omega
  have he2 := he2 hz0
  refine z_aload_n C 1008 dL_law_1008 rfl 3 rfl ?_
  refine z_iconst C 1009 dL_law_1009 ?_
  refine zs_lald C 1010 dL_law_1010 ?_
  rw [he2]
  refine z_iload C 1011 dL_law_1011 0 rfl ?_
  refine z_i2l C 1013 dL_law_1013 ?_
  refine zs_cmp C 1014 dL_law_1014 ?_
  refine z_if_eq C 1015 1020 dL_law_1015 (by decide) (by decide) (fun _ => ?_) (fun c3 => absurd rfl c3)
  refine z_goto C 1020 1596 dL_law_1020 (by decide) ?_
  refine z_sub (lv' := [(4, .int (zI i)), (3, .ref (zad G 27 0)), (2, .ref (zad G 26 0)), (1, .ref (zad G 0 0)), (0, .ref b)]) [2, 3, 4, 5, 6] rfl ?_
  exact hnx M2 hn2
set_option maxHeartbeats 4000000 in
set_option maxRecDepth 100000 in
theorem law_op13 {p : Program} {l : Launch} {e : Env} {s : State} {m : MethodId} {below : List Frame} {meth : Method} {c : Code} {G : zG} {b L : Nat} {xs : Nat → Int32} {M : zMem} {cells slots : Nat} {i : Int} (C : zC p s m #[Value.ref b] meth c G RL cL_law 7 (some .boolean)) (hN : zNC s) (hX : va_X b L xs s s.heap) (hbl : b < s.heap.size) (hG : G.2.2 = s.heap) (hi : 0 ≤ i) (hi5 : i + 5 ≤ L) (hL : L ≤ 2560) (hc : cells + 6 ≤ 668696) (hs : slots + 36 ≤ 7090017) {u : Int} (hu : ((xs (i + 3).toNat).toInt = 0 ∧ u = 0) ∨ (¬ (xs (i + 3).toNat).toInt = 0 ∧ u = 1)) {PW : Int → zMem → Prop} {NX : zMem → Prop} (hW : Met l yL_probe [.codeWith yL_probe cL_probe 6 (some .int) hh_probe] (zR 9 2 12) (zwPc G M [.ref (zad G 0 0), .int (zI (xs (i + 1).toNat).toInt), .int (zI (xs (i + 2).toNat).toInt), .int (zI u), .ref (zad G 27 0)]) (zQi G PW) 2 12 (zA G))
    (hop : ∀ (k : Int) (M1 : zMem), zrg k → PW k M1 → ∃ PR : Int → zMem → Prop, Met l yX8_probe [.code yX8_probe cX8_probe 6 (some .int)] (zR 2 0 0) (zPc G M1 [.ref (zad G 26 0), .int (zI (xs (i + 1).toNat).toInt), .int (zI (xs (i + 2).toNat).toInt), .int (zI u)]) (zQi G PR) 0 0 (zA G) ∧ ∀ (x : Int) (M2 : zMem), zrg x → PR x M2 → zV M2 26 0 0 = k ∧ (k = 0 → zV M2 27 0 0 = x) ∧ NX M2)
    (hnx : ∀ M2 : zMem, NX M2 → zZ p l e room_1 s m #[Value.ref b] below meth c G 7 (lw_Z below #[Value.ref b] s) M2 (cells + 2) (slots + 12) 1596 [(4, .int (zI i)), (3, .ref (zad G 27 0)), (2, .ref (zad G 26 0)), (1, .ref (zad G 0 0)), (0, .ref b)] []) : zZ p l e room_1 s m #[Value.ref b] below meth c G 7 (lw_Z below #[Value.ref b] s) M cells slots 1023 [(4, .int (zI i)), (3, .ref (zad G 27 0)), (2, .ref (zad G 26 0)), (1, .ref (zad G 0 0)), (0, .ref b)] [] := by
  rcases hu with ⟨hu, rfl⟩ | ⟨hu, rfl⟩
  · skip
    refine z_aload_n C 1023 dL_law_1023 rfl 3 rfl ?_
    refine z_aload_n C 1024 dL_law_1024 rfl 4 rfl ?_
    refine z_iload C 1025 dL_law_1025 0 rfl ?_
    refine z_iconst C 1027 dL_law_1027 ?_
    refine z_iadd C 1028 dL_law_1028 ?_
    refine zs_ld C hX hbl hG 1029 (by omega) (by omega) (by omega) dL_law_1029 (fun y1 hy1 ey => ?_)
    subst ey
    refine z_aload_n C 1030 dL_law_1030 rfl 4 rfl ?_
    refine z_iload C 1031 dL_law_1031 0 rfl ?_
    refine z_iconst C 1033 dL_law_1033 ?_
    refine z_iadd C 1034 dL_law_1034 ?_
    refine zs_ld C hX hbl hG 1035 (by omega) (by omega) (by omega) dL_law_1035 (fun y2 hy2 ey => ?_)
    subst ey
    refine z_aload_n C 1036 dL_law_1036 rfl 4 rfl ?_
    refine z_iload C 1037 dL_law_1037 0 rfl ?_
    refine z_iconst C 1039 dL_law_1039 ?_
    refine z_iadd C 1040 dL_law_1040 ?_
    refine zs_ld C hX hbl hG 1041 (by omega) (by omega) (by omega) dL_law_1041 (fun y3 hy3 ey => ?_)
    subst ey
    refine z_if_eq C 1042 1049 dL_law_1042 (by decide) (by assumption) (fun c1 => ?_) (fun c1 => ?_)
    rotate_left
    · exact absurd hu c1
    refine z_iconst C 1049 dL_law_1049 ?_
    refine z_aload_n C 1050 dL_law_1050 rfl 1 rfl ?_
    refine zs_call C hN 1051 (As := [.ref (zad G 0 0), .int (zI (xs (i + 1).toNat).toInt), .int (zI (xs (i + 2).toNat).toInt), .int (zI 0), .ref (zad G 27 0)]) (rest := []) (n := 5) (hh := hh_probe) hW wm_L_138 wcw_L_probe wini_L wst_L_probe ⟨by decide, by decide, by decide⟩ ⟨by decide, by decide⟩ rfl (Nat.le_of_ble_eq_true rfl) ⟨by show _ ≤ (668696 : Nat); omega, by show _ ≤ (7090017 : Nat); omega⟩ dL_law_1051 rfl (fun k M1 hk hPW => ?_)
    obtain ⟨PR, hR, hend⟩ := hop k M1 hk hPW
    refine z_istore (lv' := [(5, .int (zI k)), (4, .int (zI i)), (3, .ref (zad G 27 0)), (2, .ref (zad G 26 0)), (1, .ref (zad G 0 0)), (0, .ref b)]) C 1054 dL_law_1054 (by decide) rfl ?_
    refine z_aload_n C 1056 dL_law_1056 rfl 3 rfl ?_
    refine z_aload_n C 1057 dL_law_1057 rfl 5 rfl ?_
    refine z_iload C 1058 dL_law_1058 1 rfl ?_
    refine z_iconst C 1060 dL_law_1060 ?_
    refine z_iadd C 1061 dL_law_1061 ?_
    refine zs_ld C hX hbl hG 1062 (by omega) (by omega) (by omega) dL_law_1062 (fun y4 hy4 ey => ?_)
    subst ey
    refine z_aload_n C 1063 dL_law_1063 rfl 5 rfl ?_
    refine z_iload C 1064 dL_law_1064 1 rfl ?_
    refine z_iconst C 1066 dL_law_1066 ?_
    refine z_iadd C 1067 dL_law_1067 ?_
    refine zs_ld C hX hbl hG 1068 (by omega) (by omega) (by omega) dL_law_1068 (fun y5 hy5 ey => ?_)
    subst ey
    refine z_aload_n C 1069 dL_law_1069 rfl 5 rfl ?_
    refine z_iload C 1070 dL_law_1070 1 rfl ?_
    refine z_iconst C 1072 dL_law_1072 ?_
    refine z_iadd C 1073 dL_law_1073 ?_
    refine zs_ld C hX hbl hG 1074 (by omega) (by omega) (by omega) dL_law_1074 (fun y6 hy6 ey => ?_)
    subst ey
    refine z_if_eq C 1075 1082 dL_law_1075 (by decide) (by assumption) (fun c1 => ?_) (fun c1 => ?_)
    rotate_left
    · exact absurd hu c1
    refine z_iconst C 1082 dL_law_1082 ?_
    refine z_callVi C 1083 (As := [.int (zI (xs (i + 1).toNat).toInt), .int (zI (xs (i + 2).toNat).toInt), .int (zI 0)]) (rest := []) hR zcl8 (show 0 < 1 by omega) (zc26 ..) (zW_of 3 C wm_L_141 wc_X8_probe wini_8 wi_X8_probe wse_X8_probe ⟨by decide, by decide, by decide⟩ ⟨by decide, by decide⟩) rfl (Nat.le_of_ble_eq_true rfl) ⟨by show _ ≤ (668696 : Nat); omega, by show _ ≤ (7090017 : Nat); omega⟩ dL_law_1083 rfl (fun x M2 hx hPR => ?_)
    obtain ⟨he1, he2, hn2⟩ := hend x M2 hx hPR
    refine z_istore (lv' := [(6, .int (zI x)), (5, .int (zI k)), (4, .int (zI i)), (3, .ref (zad G 27 0)), (2, .ref (zad G 26 0)), (1, .ref (zad G 0 0)), (0, .ref b)]) C 1086 dL_law_1086 (by decide) rfl ?_
    refine z_aload_n C 1088 dL_law_1088 rfl 4 rfl ?_
    refine z_callVi C 1089 (As := []) (rest := []) (c_X8_thrown l G M2) zcl8 (show 0 < 1 by omega) (zc26 ..) (zW_of 0 C wm_L_94 wc_X8_thrown wini_8 wi_X8_thrown wse_X8_thrown ⟨by decide, by decide, by decide⟩ ⟨by decide, by decide⟩) rfl (Nat.le_of_ble_eq_true rfl) ⟨by show _ ≤ (668696 : Nat); omega, by show _ ≤ (7090017 : Nat); omega⟩ dL_law_1089 rfl (fun th M3 hth hP3 => ?_)
    obtain ⟨rfl, hP3⟩ := hP3
    have hP3 : th = k := hP3.trans he1
    subst hP3
    refine z_iload C 1092 dL_law_1092 1 rfl ?_
    refine z_icmp_eq C 1094 1099 dL_law_1094 (by decide) hth hth (fun _ => ?_) (fun c1 => absurd rfl c1)
    refine z_iload C 1099 dL_law_1099 1 rfl ?_
    refine z_if_ne C 1101 1116 dL_law_1101 (by decide) hth (fun c1 => ?_) (fun c1 => ?_)
    · refine z_goto C 1116 1596 dL_law_1116 (by decide) ?_
      refine z_sub (lv' := [(4, .int (zI i)), (3, .ref (zad G 27 0)), (2, .ref (zad G 26 0)), (1, .ref (zad G 0 0)), (0, .ref b)]) [2, 3, 4, 5, 6] rfl ?_
      exact hnx M2 hn2
    have hz0 : th = 0 := by omega
    have he2 := he2 hz0
    refine z_aload_n C 1104 dL_law_1104 rfl 3 rfl ?_
    refine z_iconst C 1105 dL_law_1105 ?_
    refine zs_lald C 1106 dL_law_1106 ?_
    rw [he2]
    refine z_iload C 1107 dL_law_1107 0 rfl ?_
    refine z_i2l C 1109 dL_law_1109 ?_
    refine zs_cmp C 1110 dL_law_1110 ?_
    refine z_if_eq C 1111 1116 dL_law_1111 (by decide) (by decide) (fun _ => ?_) (fun c3 => absurd rfl c3)
    refine z_goto C 1116 1596 dL_law_1116 (by decide) ?_
    refine z_sub (lv' := [(4, .int (zI i)), (3, .ref (zad G 27 0)), (2, .ref (zad G 26 0)), (1, .ref (zad G 0 0)), (0, .ref b)]) [2, 3, 4, 5, 6] rfl ?_
    exact hnx M2 hn2
  · skip
    refine z_aload_n C 1023 dL_law_1023 rfl 3 rfl ?_
    refine z_aload_n C 1024 dL_law_1024 rfl 4 rfl ?_
    refine z_iload C 1025 dL_law_1025 0 rfl ?_
    refine z_iconst C 1027 dL_law_1027 ?_
    refine z_iadd C 1028 dL_law_1028 ?_
    refine zs_ld C hX hbl hG 1029 (by omega) (by omega) (by omega) dL_law_1029 (fun y1 hy1 ey => ?_)
    subst ey
    refine z_aload_n C 1030 dL_law_1030 rfl 4 rfl ?_
    refine z_iload C 1031 dL_law_1031 0 rfl ?_
    refine z_iconst C 1033 dL_law_1033 ?_
    refine z_iadd C 1034 dL_law_1034 ?_
    refine zs_ld C hX hbl hG 1035 (by omega) (by omega) (by omega) dL_law_1035 (fun y2 hy2 ey => ?_)
    subst ey
    refine z_aload_n C 1036 dL_law_1036 rfl 4 rfl ?_
    refine z_iload C 1037 dL_law_1037 0 rfl ?_
    refine z_iconst C 1039 dL_law_1039 ?_
    refine z_iadd C 1040 dL_law_1040 ?_
    refine zs_ld C hX hbl hG 1041 (by omega) (by omega) (by omega) dL_law_1041 (fun y3 hy3 ey => ?_)
    subst ey
    refine z_if_eq C 1042 1049 dL_law_1042 (by decide) (by assumption) (fun c1 => ?_) (fun c1 => ?_)
    · exact absurd c1 hu
    refine z_iconst C 1045 dL_law_1045 ?_
    refine z_goto C 1046 1050 dL_law_1046 (by decide) ?_
    refine z_aload_n C 1050 dL_law_1050 rfl 1 rfl ?_
    refine zs_call C hN 1051 (As := [.ref (zad G 0 0), .int (zI (xs (i + 1).toNat).toInt), .int (zI (xs (i + 2).toNat).toInt), .int (zI 1), .ref (zad G 27 0)]) (rest := []) (n := 5) (hh := hh_probe) hW wm_L_138 wcw_L_probe wini_L wst_L_probe ⟨by decide, by decide, by decide⟩ ⟨by decide, by decide⟩ rfl (Nat.le_of_ble_eq_true rfl) ⟨by show _ ≤ (668696 : Nat); omega, by show _ ≤ (7090017 : Nat); omega⟩ dL_law_1051 rfl (fun k M1 hk hPW => ?_)
    obtain ⟨PR, hR, hend⟩ := hop k M1 hk hPW
    refine z_istore (lv' := [(5, .int (zI k)), (4, .int (zI i)), (3, .ref (zad G 27 0)), (2, .ref (zad G 26 0)), (1, .ref (zad G 0 0)), (0, .ref b)]) C 1054 dL_law_1054 (by decide) rfl ?_
    refine z_aload_n C 1056 dL_law_1056 rfl 3 rfl ?_
    refine z_aload_n C 1057 dL_law_1057 rfl 5 rfl ?_
    refine z_iload C 1058 dL_law_1058 1 rfl ?_
    refine z_iconst C 1060 dL_law_1060 ?_
    refine z_iadd C 1061 dL_law_1061 ?_
    refine zs_ld C hX hbl hG 1062 (by omega) (by omega) (by omega) dL_law_1062 (fun y4 hy4 ey => ?_)
    subst ey
    refine z_aload_n C 1063 dL_law_1063 rfl 5 rfl ?_
    refine z_iload C 1064 dL_law_1064 1 rfl ?_
    refine z_iconst C 1066 dL_law_1066 ?_
    refine z_iadd C 1067 dL_law_1067 ?_
    refine zs_ld C hX hbl hG 1068 (by omega) (by omega) (by omega) dL_law_1068 (fun y5 hy5 ey => ?_)
    subst ey
    refine z_aload_n C 1069 dL_law_1069 rfl 5 rfl ?_
    refine z_iload C 1070 dL_law_1070 1 rfl ?_
    refine z_iconst C 1072 dL_law_1072 ?_
    refine z_iadd C 1073 dL_law_1073 ?_
    refine zs_ld C hX hbl hG 1074 (by omega) (by omega) (by omega) dL_law_1074 (fun y6 hy6 ey => ?_)
    subst ey
    refine z_if_eq C 1075 1082 dL_law_1075 (by decide) (by assumption) (fun c1 => ?_) (fun c1 => ?_)
    · exact absurd c1 hu
    refine z_iconst C 1078 dL_law_1078 ?_
    refine z_goto C 1079 1083 dL_law_1079 (by decide) ?_
    refine z_callVi C 1083 (As := [.int (zI (xs (i + 1).toNat).toInt), .int (zI (xs (i + 2).toNat).toInt), .int (zI 1)]) (rest := []) hR zcl8 (show 0 < 1 by omega) (zc26 ..) (zW_of 3 C wm_L_141 wc_X8_probe wini_8 wi_X8_probe wse_X8_probe ⟨by decide, by decide, by decide⟩ ⟨by decide, by decide⟩) rfl (Nat.le_of_ble_eq_true rfl) ⟨by show _ ≤ (668696 : Nat); omega, by show _ ≤ (7090017 : Nat); omega⟩ dL_law_1083 rfl (fun x M2 hx hPR => ?_)
    obtain ⟨he1, he2, hn2⟩ := hend x M2 hx hPR
    refine z_istore (lv' := [(6, .int (zI x)), (5, .int (zI k)), (4, .int (zI i)), (3, .ref (zad G 27 0)), (2, .ref (zad G 26 0)), (1, .ref (zad G 0 0)), (0, .ref b)]) C 1086 dL_law_1086 (by decide) rfl ?_
    refine z_aload_n C 1088 dL_law_1088 rfl 4 rfl ?_
    refine z_callVi C 1089 (As := []) (rest := []) (c_X8_thrown l G M2) zcl8 (show 0 < 1 by omega) (zc26 ..) (zW_of 0 C wm_L_94 wc_X8_thrown wini_8 wi_X8_thrown wse_X8_thrown ⟨by decide, by decide, by decide⟩ ⟨by decide, by decide⟩) rfl (Nat.le_of_ble_eq_true rfl) ⟨by show _ ≤ (668696 : Nat); omega, by show _ ≤ (7090017 : Nat); omega⟩ dL_law_1089 rfl (fun th M3 hth hP3 => ?_)
    obtain ⟨rfl, hP3⟩ := hP3
    have hP3 : th = k := hP3.trans he1
    subst hP3
    refine z_iload C 1092 dL_law_1092 1 rfl ?_
    refine z_icmp_eq C 1094 1099 dL_law_1094 (by decide) hth hth (fun _ => ?_) (fun c1 => absurd rfl c1)
    refine z_iload C 1099 dL_law_1099 1 rfl ?_
    refine z_if_ne C 1101 1116 dL_law_1101 (by decide) hth (fun c1 => ?_) (fun c1 => ?_)
    · refine z_goto C 1116 1596 dL_law_1116 (by decide) ?_
      refine z_sub (lv' := [(4, .int (zI i)), (3, .ref (zad G 27 0)), (2, .ref (zad G 26 0)), (1, .ref (zad G 0 0)), (0, .ref b)]) [2, 3, 4, 5, 6] rfl ?_
      exact hnx M2 hn2
    have hz0 : th = 0 := by omega
    have he2 := he2 hz0
    refine z_aload_n C 1104 dL_law_1104 rfl 3 rfl ?_
    refine z_iconst C 1105 dL_law_1105 ?_
    refine zs_lald C 1106 dL_law_1106 ?_
    rw [he2]
    refine z_iload C 1107 dL_law_1107 0 rfl ?_
    refine z_i2l C 1109 dL_law_1109 ?_
    refine zs_cmp C 1110 dL_law_1110 ?_
    refine z_if_eq C 1111 1116 dL_law_1111 (by decide) (by decide) (fun _ => ?_) (fun c3 => absurd rfl c3)
    refine z_goto C 1116 1596 dL_law_1116 (by decide) ?_
    refine z_sub (lv' := [(4, .int (zI i)), (3, .ref (zad G 27 0)), (2, .ref (zad G 26 0)), (1, .ref (zad G 0 0)), (0, .ref b)]) [2, 3, 4, 5, 6] rfl ?_
    exact hnx M2 hn2
set_option maxHeartbeats 4000000 in
set_option maxRecDepth 100000 in
theorem law_op14 {p : Program} {l : Launch} {e : Env} {s : State} {m : MethodId} {below : List Frame} {meth : Method} {c : Code} {G : zG} {b L : Nat} {xs : Nat → Int32} {M : zMem} {cells slots : Nat} {i : Int} (C : zC p s m #[Value.ref b] meth c G RL cL_law 7 (some .boolean)) (hN : zNC s) (hX : va_X b L xs s s.heap) (hbl : b < s.heap.size) (hG : G.2.2 = s.heap) (hi : 0 ≤ i) (hi5 : i + 5 ≤ L) (hL : L ≤ 2560) (hc : cells + 6 ≤ 668696) (hs : slots + 36 ≤ 7090017) {PW : Int → zMem → Prop} {NX : zMem → Prop} (hW : Met l yL_setLifetimes [.codeWith yL_setLifetimes cL_setLifetimes 5 (some .int) hh_setLifetimes] (zR 9 2 12) (zwPc G M [.ref (zad G 0 0), .int (zI (xs (i + 1).toNat).toInt), .int (zI (xs (i + 2).toNat).toInt), .ref (zad G 27 0)]) (zQi G PW) 2 12 (zA G))
    (hop : ∀ (k : Int) (M1 : zMem), zrg k → PW k M1 → ∃ PR : Int → zMem → Prop, Met l yX8_setLifetimes [.code yX8_setLifetimes cX8_setLifetimes 4 (some .int)] (zR 1 0 0) (zPc G M1 [.ref (zad G 26 0), .int (zI (xs (i + 1).toNat).toInt), .int (zI (xs (i + 2).toNat).toInt)]) (zQi G PR) 0 0 (zA G) ∧ ∀ (x : Int) (M2 : zMem), zrg x → PR x M2 → zV M2 26 0 0 = k ∧ (k = 0 → zV M2 27 0 0 = x) ∧ NX M2)
    (hnx : ∀ M2 : zMem, NX M2 → zZ p l e room_1 s m #[Value.ref b] below meth c G 7 (lw_Z below #[Value.ref b] s) M2 (cells + 2) (slots + 12) 1596 [(4, .int (zI i)), (3, .ref (zad G 27 0)), (2, .ref (zad G 26 0)), (1, .ref (zad G 0 0)), (0, .ref b)] []) : zZ p l e room_1 s m #[Value.ref b] below meth c G 7 (lw_Z below #[Value.ref b] s) M cells slots 1119 [(4, .int (zI i)), (3, .ref (zad G 27 0)), (2, .ref (zad G 26 0)), (1, .ref (zad G 0 0)), (0, .ref b)] [] := by
  refine z_aload_n C 1119 dL_law_1119 rfl 3 rfl ?_
  refine z_aload_n C 1120 dL_law_1120 rfl 4 rfl ?_
  refine z_iload C 1121 dL_law_1121 0 rfl ?_
  refine z_iconst C 1123 dL_law_1123 ?_
  refine z_iadd C 1124 dL_law_1124 ?_
  refine zs_ld C hX hbl hG 1125 (by omega) (by omega) (by omega) dL_law_1125 (fun y1 hy1 ey => ?_)
  subst ey
  refine z_aload_n C 1126 dL_law_1126 rfl 4 rfl ?_
  refine z_iload C 1127 dL_law_1127 0 rfl ?_
  refine z_iconst C 1129 dL_law_1129 ?_
  refine z_iadd C 1130 dL_law_1130 ?_
  refine zs_ld C hX hbl hG 1131 (by omega) (by omega) (by omega) dL_law_1131 (fun y2 hy2 ey => ?_)
  subst ey
  refine z_aload_n C 1132 dL_law_1132 rfl 1 rfl ?_
  refine zs_call C hN 1133 (As := [.ref (zad G 0 0), .int (zI (xs (i + 1).toNat).toInt), .int (zI (xs (i + 2).toNat).toInt), .ref (zad G 27 0)]) (rest := []) (n := 4) (hh := hh_setLifetimes) hW wm_L_142 wcw_L_setLifetimes wini_L wst_L_setLifetimes ⟨by decide, by decide, by decide⟩ ⟨by decide, by decide⟩ rfl (Nat.le_of_ble_eq_true rfl) ⟨by show _ ≤ (668696 : Nat); omega, by show _ ≤ (7090017 : Nat); omega⟩ dL_law_1133 rfl (fun k M1 hk hPW => ?_)
  obtain ⟨PR, hR, hend⟩ := hop k M1 hk hPW
  refine z_istore (lv' := [(5, .int (zI k)), (4, .int (zI i)), (3, .ref (zad G 27 0)), (2, .ref (zad G 26 0)), (1, .ref (zad G 0 0)), (0, .ref b)]) C 1136 dL_law_1136 (by decide) rfl ?_
  refine z_aload_n C 1138 dL_law_1138 rfl 3 rfl ?_
  refine z_aload_n C 1139 dL_law_1139 rfl 5 rfl ?_
  refine z_iload C 1140 dL_law_1140 1 rfl ?_
  refine z_iconst C 1142 dL_law_1142 ?_
  refine z_iadd C 1143 dL_law_1143 ?_
  refine zs_ld C hX hbl hG 1144 (by omega) (by omega) (by omega) dL_law_1144 (fun y3 hy3 ey => ?_)
  subst ey
  refine z_aload_n C 1145 dL_law_1145 rfl 5 rfl ?_
  refine z_iload C 1146 dL_law_1146 1 rfl ?_
  refine z_iconst C 1148 dL_law_1148 ?_
  refine z_iadd C 1149 dL_law_1149 ?_
  refine zs_ld C hX hbl hG 1150 (by omega) (by omega) (by omega) dL_law_1150 (fun y4 hy4 ey => ?_)
  subst ey
  refine z_callVi C 1151 (As := [.int (zI (xs (i + 1).toNat).toInt), .int (zI (xs (i + 2).toNat).toInt)]) (rest := []) hR zcl8 (show 0 < 1 by omega) (zc26 ..) (zW_of 2 C wm_L_144 wc_X8_setLifetimes wini_8 wi_X8_setLifetimes wse_X8_setLifetimes ⟨by decide, by decide, by decide⟩ ⟨by decide, by decide⟩) rfl (Nat.le_of_ble_eq_true rfl) ⟨by show _ ≤ (668696 : Nat); omega, by show _ ≤ (7090017 : Nat); omega⟩ dL_law_1151 rfl (fun x M2 hx hPR => ?_)
  obtain ⟨he1, he2, hn2⟩ := hend x M2 hx hPR
  refine z_istore (lv' := [(6, .int (zI x)), (5, .int (zI k)), (4, .int (zI i)), (3, .ref (zad G 27 0)), (2, .ref (zad G 26 0)), (1, .ref (zad G 0 0)), (0, .ref b)]) C 1154 dL_law_1154 (by decide) rfl ?_
  refine z_aload_n C 1156 dL_law_1156 rfl 4 rfl ?_
  refine z_callVi C 1157 (As := []) (rest := []) (c_X8_thrown l G M2) zcl8 (show 0 < 1 by omega) (zc26 ..) (zW_of 0 C wm_L_94 wc_X8_thrown wini_8 wi_X8_thrown wse_X8_thrown ⟨by decide, by decide, by decide⟩ ⟨by decide, by decide⟩) rfl (Nat.le_of_ble_eq_true rfl) ⟨by show _ ≤ (668696 : Nat); omega, by show _ ≤ (7090017 : Nat); omega⟩ dL_law_1157 rfl (fun th M3 hth hP3 => ?_)
  obtain ⟨rfl, hP3⟩ := hP3
  have hP3 : th = k := hP3.trans he1
  subst hP3
  refine z_iload C 1160 dL_law_1160 1 rfl ?_
  refine z_icmp_eq C 1162 1167 dL_law_1162 (by decide) hth hth (fun _ => ?_) (fun c1 => absurd rfl c1)
  refine z_iload C 1167 dL_law_1167 1 rfl ?_
  refine z_if_ne C 1169 1184 dL_law_1169 (by decide) hth (fun c1 => ?_) (fun c1 => ?_)
  · refine z_goto C 1184 1596 dL_law_1184 (by decide) ?_
    refine z_sub (lv' := [(4, .int (zI i)), (3, .ref (zad G 27 0)), (2, .ref (zad G 26 0)), (1, .ref (zad G 0 0)), (0, .ref b)]) [2, 3, 4, 5, 6] rfl ?_
    exact hnx M2 hn2
  have hz0 : th = 0 := by omega
  have he2 := he2 hz0
  refine z_aload_n C 1172 dL_law_1172 rfl 3 rfl ?_
  refine z_iconst C 1173 dL_law_1173 ?_
  refine zs_lald C 1174 dL_law_1174 ?_
  rw [he2]
  refine z_iload C 1175 dL_law_1175 0 rfl ?_
  refine z_i2l C 1177 dL_law_1177 ?_
  refine zs_cmp C 1178 dL_law_1178 ?_
  refine z_if_eq C 1179 1184 dL_law_1179 (by decide) (by decide) (fun _ => ?_) (fun c3 => absurd rfl c3)
  refine z_goto C 1184 1596 dL_law_1184 (by decide) ?_
  refine z_sub (lv' := [(4, .int (zI i)), (3, .ref (zad G 27 0)), (2, .ref (zad G 26 0)), (1, .ref (zad G 0 0)), (0, .ref b)]) [2, 3, 4, 5, 6] rfl ?_
  exact hnx M2 hn2
set_option maxHeartbeats 4000000 in
set_option maxRecDepth 100000 in
theorem law_op15 {p : Program} {l : Launch} {e : Env} {s : State} {m : MethodId} {below : List Frame} {meth : Method} {c : Code} {G : zG} {b L : Nat} {xs : Nat → Int32} {M : zMem} {cells slots : Nat} {i : Int} (C : zC p s m #[Value.ref b] meth c G RL cL_law 7 (some .boolean)) (hN : zNC s) (hX : va_X b L xs s s.heap) (hbl : b < s.heap.size) (hG : G.2.2 = s.heap) (hi : 0 ≤ i) (hi5 : i + 5 ≤ L) (hL : L ≤ 2560) (hc : cells + 6 ≤ 668696) (hs : slots + 36 ≤ 7090017) {PW : Int → zMem → Prop} {NX : zMem → Prop} (hW : Met l yL_pass [.codeWith yL_pass cL_pass 4 (some .int) hh_pass] (zR 9 1 6) (zwPc G M [.ref (zad G 0 0), .int (zI (xs (i + 1).toNat).toInt), .ref (zad G 27 0)]) (zQi G PW) 1 6 (zA G))
    (hop : ∀ (k : Int) (M1 : zMem), zrg k → PW k M1 → ∃ PR : Int → zMem → Prop, Met l yX8_pass [.code yX8_pass cX8_pass 2 (some .int)] (zR 1 0 0) (zPc G M1 [.ref (zad G 26 0), .int (zI (xs (i + 1).toNat).toInt)]) (zQi G PR) 0 0 (zA G) ∧ ∀ (x : Int) (M2 : zMem), zrg x → PR x M2 → zV M2 26 0 0 = k ∧ (k = 0 → zV M2 27 0 0 = x) ∧ NX M2)
    (hnx : ∀ M2 : zMem, NX M2 → zZ p l e room_1 s m #[Value.ref b] below meth c G 7 (lw_Z below #[Value.ref b] s) M2 (cells + 1) (slots + 6) 1596 [(4, .int (zI i)), (3, .ref (zad G 27 0)), (2, .ref (zad G 26 0)), (1, .ref (zad G 0 0)), (0, .ref b)] []) : zZ p l e room_1 s m #[Value.ref b] below meth c G 7 (lw_Z below #[Value.ref b] s) M cells slots 1187 [(4, .int (zI i)), (3, .ref (zad G 27 0)), (2, .ref (zad G 26 0)), (1, .ref (zad G 0 0)), (0, .ref b)] [] := by
  refine z_aload_n C 1187 dL_law_1187 rfl 3 rfl ?_
  refine z_aload_n C 1188 dL_law_1188 rfl 4 rfl ?_
  refine z_iload C 1189 dL_law_1189 0 rfl ?_
  refine z_iconst C 1191 dL_law_1191 ?_
  refine z_iadd C 1192 dL_law_1192 ?_
  refine zs_ld C hX hbl hG 1193 (by omega) (by omega) (by omega) dL_law_1193 (fun y1 hy1 ey => ?_)
  subst ey
  refine z_aload_n C 1194 dL_law_1194 rfl 1 rfl ?_
  refine zs_call C hN 1195 (As := [.ref (zad G 0 0), .int (zI (xs (i + 1).toNat).toInt), .ref (zad G 27 0)]) (rest := []) (n := 3) (hh := hh_pass) hW wm_L_145 wcw_L_pass wini_L wst_L_pass ⟨by decide, by decide, by decide⟩ ⟨by decide, by decide⟩ rfl (Nat.le_of_ble_eq_true rfl) ⟨by show _ ≤ (668696 : Nat); omega, by show _ ≤ (7090017 : Nat); omega⟩ dL_law_1195 rfl (fun k M1 hk hPW => ?_)
  obtain ⟨PR, hR, hend⟩ := hop k M1 hk hPW
  refine z_istore (lv' := [(5, .int (zI k)), (4, .int (zI i)), (3, .ref (zad G 27 0)), (2, .ref (zad G 26 0)), (1, .ref (zad G 0 0)), (0, .ref b)]) C 1198 dL_law_1198 (by decide) rfl ?_
  refine z_aload_n C 1200 dL_law_1200 rfl 3 rfl ?_
  refine z_aload_n C 1201 dL_law_1201 rfl 5 rfl ?_
  refine z_iload C 1202 dL_law_1202 1 rfl ?_
  refine z_iconst C 1204 dL_law_1204 ?_
  refine z_iadd C 1205 dL_law_1205 ?_
  refine zs_ld C hX hbl hG 1206 (by omega) (by omega) (by omega) dL_law_1206 (fun y2 hy2 ey => ?_)
  subst ey
  refine z_callVi C 1207 (As := [.int (zI (xs (i + 1).toNat).toInt)]) (rest := []) hR zcl8 (show 0 < 1 by omega) (zc26 ..) (zW_of 1 C wm_L_147 wc_X8_pass wini_8 wi_X8_pass wse_X8_pass ⟨by decide, by decide, by decide⟩ ⟨by decide, by decide⟩) rfl (Nat.le_of_ble_eq_true rfl) ⟨by show _ ≤ (668696 : Nat); omega, by show _ ≤ (7090017 : Nat); omega⟩ dL_law_1207 rfl (fun x M2 hx hPR => ?_)
  obtain ⟨he1, he2, hn2⟩ := hend x M2 hx hPR
  refine z_istore (lv' := [(6, .int (zI x)), (5, .int (zI k)), (4, .int (zI i)), (3, .ref (zad G 27 0)), (2, .ref (zad G 26 0)), (1, .ref (zad G 0 0)), (0, .ref b)]) C 1210 dL_law_1210 (by decide) rfl ?_
  refine z_aload_n C 1212 dL_law_1212 rfl 4 rfl ?_
  refine z_callVi C 1213 (As := []) (rest := []) (c_X8_thrown l G M2) zcl8 (show 0 < 1 by omega) (zc26 ..) (zW_of 0 C wm_L_94 wc_X8_thrown wini_8 wi_X8_thrown wse_X8_thrown ⟨by decide, by decide, by decide⟩ ⟨by decide, by decide⟩) rfl (Nat.le_of_ble_eq_true rfl) ⟨by show _ ≤ (668696 : Nat); omega, by show _ ≤ (7090017 : Nat); omega⟩ dL_law_1213 rfl (fun th M3 hth hP3 => ?_)
  obtain ⟨rfl, hP3⟩ := hP3
  have hP3 : th = k := hP3.trans he1
  subst hP3
  refine z_iload C 1216 dL_law_1216 1 rfl ?_
  refine z_icmp_eq C 1218 1223 dL_law_1218 (by decide) hth hth (fun _ => ?_) (fun c1 => absurd rfl c1)
  refine z_iload C 1223 dL_law_1223 1 rfl ?_
  refine z_if_ne C 1225 1240 dL_law_1225 (by decide) hth (fun c1 => ?_) (fun c1 => ?_)
  · refine z_goto C 1240 1596 dL_law_1240 (by decide) ?_
    refine z_sub (lv' := [(4, .int (zI i)), (3, .ref (zad G 27 0)), (2, .ref (zad G 26 0)), (1, .ref (zad G 0 0)), (0, .ref b)]) [2, 3, 4, 5, 6] rfl ?_
    exact hnx M2 hn2
  have hz0 : th = 0 := by omega
  have he2 := he2 hz0
  refine z_aload_n C 1228 dL_law_1228 rfl 3 rfl ?_
  refine z_iconst C 1229 dL_law_1229 ?_
  refine zs_lald C 1230 dL_law_1230 ?_
  rw [he2]
  refine z_iload C 1231 dL_law_1231 0 rfl ?_
  refine z_i2l C 1233 dL_law_1233 ?_
  refine zs_cmp C 1234 dL_law_1234 ?_
  refine z_if_eq C 1235 1240 dL_law_1235 (by decide) (by decide) (fun _ => ?_) (fun c3 => absurd rfl c3)
  refine z_goto C 1240 1596 dL_law_1240 (by decide) ?_
  refine z_sub (lv' := [(4, .int (zI i)), (3, .ref (zad G 27 0)), (2, .ref (zad G 26 0)), (1, .ref (zad G 0 0)), (0, .ref b)]) [2, 3, 4, 5, 6] rfl ?_
  exact hnx M2 hn2
set_option maxHeartbeats 4000000 in
set_option maxRecDepth 100000 in
theorem law_op16 {p : Program} {l : Launch} {e : Env} {s : State} {m : MethodId} {below : List Frame} {meth : Method} {c : Code} {G : zG} {b L : Nat} {xs : Nat → Int32} {M : zMem} {cells slots : Nat} {i : Int} (C : zC p s m #[Value.ref b] meth c G RL cL_law 7 (some .boolean)) (hN : zNC s) (hX : va_X b L xs s s.heap) (hbl : b < s.heap.size) (hG : G.2.2 = s.heap) (hi : 0 ≤ i) (hi5 : i + 5 ≤ L) (hL : L ≤ 2560) (hc : cells + 6 ≤ 668696) (hs : slots + 36 ≤ 7090017) {PW : Int → zMem → Prop} {NX : zMem → Prop} (hW : Met l yL_entries [.codeWith yL_entries cL_entries 4 (some .int) hh_entries] (zR 9 1 6) (zwPc G M [.ref (zad G 0 0), .int (zI (xs (i + 1).toNat).toInt), .ref (zad G 27 0)]) (zQi G PW) 1 6 (zA G))
    (hop : ∀ (k : Int) (M1 : zMem), zrg k → PW k M1 → ∃ PR : Int → zMem → Prop, Met l yX8_entries [.code yX8_entries cX8_entries 2 (some .int)] (zR 2 0 0) (zPc G M1 [.ref (zad G 26 0), .int (zI (xs (i + 1).toNat).toInt)]) (zQi G PR) 0 0 (zA G) ∧ ∀ (x : Int) (M2 : zMem), zrg x → PR x M2 → zV M2 26 0 0 = k ∧ (k = 0 → zV M2 27 0 0 = x) ∧ NX M2)
    (hnx : ∀ M2 : zMem, NX M2 → zZ p l e room_1 s m #[Value.ref b] below meth c G 7 (lw_Z below #[Value.ref b] s) M2 (cells + 1) (slots + 6) 1596 [(4, .int (zI i)), (3, .ref (zad G 27 0)), (2, .ref (zad G 26 0)), (1, .ref (zad G 0 0)), (0, .ref b)] []) : zZ p l e room_1 s m #[Value.ref b] below meth c G 7 (lw_Z below #[Value.ref b] s) M cells slots 1243 [(4, .int (zI i)), (3, .ref (zad G 27 0)), (2, .ref (zad G 26 0)), (1, .ref (zad G 0 0)), (0, .ref b)] [] := by
  refine z_aload_n C 1243 dL_law_1243 rfl 3 rfl ?_
  refine z_aload_n C 1244 dL_law_1244 rfl 4 rfl ?_
  refine z_iload C 1245 dL_law_1245 0 rfl ?_
  refine z_iconst C 1247 dL_law_1247 ?_
  refine z_iadd C 1248 dL_law_1248 ?_
  refine zs_ld C hX hbl hG 1249 (by omega) (by omega) (by omega) dL_law_1249 (fun y1 hy1 ey => ?_)
  subst ey
  refine z_aload_n C 1250 dL_law_1250 rfl 1 rfl ?_
  refine zs_call C hN 1251 (As := [.ref (zad G 0 0), .int (zI (xs (i + 1).toNat).toInt), .ref (zad G 27 0)]) (rest := []) (n := 3) (hh := hh_entries) hW wm_L_148 wcw_L_entries wini_L wst_L_entries ⟨by decide, by decide, by decide⟩ ⟨by decide, by decide⟩ rfl (Nat.le_of_ble_eq_true rfl) ⟨by show _ ≤ (668696 : Nat); omega, by show _ ≤ (7090017 : Nat); omega⟩ dL_law_1251 rfl (fun k M1 hk hPW => ?_)
  obtain ⟨PR, hR, hend⟩ := hop k M1 hk hPW
  refine z_istore (lv' := [(5, .int (zI k)), (4, .int (zI i)), (3, .ref (zad G 27 0)), (2, .ref (zad G 26 0)), (1, .ref (zad G 0 0)), (0, .ref b)]) C 1254 dL_law_1254 (by decide) rfl ?_
  refine z_aload_n C 1256 dL_law_1256 rfl 3 rfl ?_
  refine z_aload_n C 1257 dL_law_1257 rfl 5 rfl ?_
  refine z_iload C 1258 dL_law_1258 1 rfl ?_
  refine z_iconst C 1260 dL_law_1260 ?_
  refine z_iadd C 1261 dL_law_1261 ?_
  refine zs_ld C hX hbl hG 1262 (by omega) (by omega) (by omega) dL_law_1262 (fun y2 hy2 ey => ?_)
  subst ey
  refine z_callVi C 1263 (As := [.int (zI (xs (i + 1).toNat).toInt)]) (rest := []) hR zcl8 (show 0 < 1 by omega) (zc26 ..) (zW_of 1 C wm_L_150 wc_X8_entries wini_8 wi_X8_entries wse_X8_entries ⟨by decide, by decide, by decide⟩ ⟨by decide, by decide⟩) rfl (Nat.le_of_ble_eq_true rfl) ⟨by show _ ≤ (668696 : Nat); omega, by show _ ≤ (7090017 : Nat); omega⟩ dL_law_1263 rfl (fun x M2 hx hPR => ?_)
  obtain ⟨he1, he2, hn2⟩ := hend x M2 hx hPR
  refine z_istore (lv' := [(6, .int (zI x)), (5, .int (zI k)), (4, .int (zI i)), (3, .ref (zad G 27 0)), (2, .ref (zad G 26 0)), (1, .ref (zad G 0 0)), (0, .ref b)]) C 1266 dL_law_1266 (by decide) rfl ?_
  refine z_aload_n C 1268 dL_law_1268 rfl 4 rfl ?_
  refine z_callVi C 1269 (As := []) (rest := []) (c_X8_thrown l G M2) zcl8 (show 0 < 1 by omega) (zc26 ..) (zW_of 0 C wm_L_94 wc_X8_thrown wini_8 wi_X8_thrown wse_X8_thrown ⟨by decide, by decide, by decide⟩ ⟨by decide, by decide⟩) rfl (Nat.le_of_ble_eq_true rfl) ⟨by show _ ≤ (668696 : Nat); omega, by show _ ≤ (7090017 : Nat); omega⟩ dL_law_1269 rfl (fun th M3 hth hP3 => ?_)
  obtain ⟨rfl, hP3⟩ := hP3
  have hP3 : th = k := hP3.trans he1
  subst hP3
  refine z_iload C 1272 dL_law_1272 1 rfl ?_
  refine z_icmp_eq C 1274 1279 dL_law_1274 (by decide) hth hth (fun _ => ?_) (fun c1 => absurd rfl c1)
  refine z_iload C 1279 dL_law_1279 1 rfl ?_
  refine z_if_ne C 1281 1296 dL_law_1281 (by decide) hth (fun c1 => ?_) (fun c1 => ?_)
  · refine z_goto C 1296 1596 dL_law_1296 (by decide) ?_
    refine z_sub (lv' := [(4, .int (zI i)), (3, .ref (zad G 27 0)), (2, .ref (zad G 26 0)), (1, .ref (zad G 0 0)), (0, .ref b)]) [2, 3, 4, 5, 6] rfl ?_
    exact hnx M2 hn2
  have hz0 : th = 0 := by omega
  have he2 := he2 hz0
  refine z_aload_n C 1284 dL_law_1284 rfl 3 rfl ?_
  refine z_iconst C 1285 dL_law_1285 ?_
  refine zs_lald C 1286 dL_law_1286 ?_
  rw [he2]
  refine z_iload C 1287 dL_law_1287 0 rfl ?_
  refine z_i2l C 1289 dL_law_1289 ?_
  refine zs_cmp C 1290 dL_law_1290 ?_
  refine z_if_eq C 1291 1296 dL_law_1291 (by decide) (by decide) (fun _ => ?_) (fun c3 => absurd rfl c3)
  refine z_goto C 1296 1596 dL_law_1296 (by decide) ?_
  refine z_sub (lv' := [(4, .int (zI i)), (3, .ref (zad G 27 0)), (2, .ref (zad G 26 0)), (1, .ref (zad G 0 0)), (0, .ref b)]) [2, 3, 4, 5, 6] rfl ?_
  exact hnx M2 hn2
set_option maxHeartbeats 4000000 in
set_option maxRecDepth 100000 in
theorem law_op17 {p : Program} {l : Launch} {e : Env} {s : State} {m : MethodId} {below : List Frame} {meth : Method} {c : Code} {G : zG} {b L : Nat} {xs : Nat → Int32} {M : zMem} {cells slots : Nat} {i : Int} (C : zC p s m #[Value.ref b] meth c G RL cL_law 7 (some .boolean)) (hN : zNC s) (hX : va_X b L xs s s.heap) (hbl : b < s.heap.size) (hG : G.2.2 = s.heap) (hi : 0 ≤ i) (hi5 : i + 5 ≤ L) (hL : L ≤ 2560) (hc : cells + 6 ≤ 668696) (hs : slots + 36 ≤ 7090017) {PW : Int → zMem → Prop} {NX : zMem → Prop} (hW : Met l yL_prefixOf [.codeWith yL_prefixOf cL_prefixOf 5 (some .int) hh_prefixOf] (zR 10 2 12) (zwPc G M [.ref (zad G 0 0), .int (zI (xs (i + 1).toNat).toInt), .int (zI (xs (i + 2).toNat).toInt), .ref (zad G 27 0)]) (zQi G PW) 2 12 (zA G))
    (hop : ∀ (k : Int) (M1 : zMem), zrg k → PW k M1 → ∃ PR : Int → zMem → Prop, Met l yX8_prefixOf [.code yX8_prefixOf cX8_prefixOf 4 (some .int)] (zR 3 0 0) (zPc G M1 [.ref (zad G 26 0), .int (zI (xs (i + 1).toNat).toInt), .int (zI (xs (i + 2).toNat).toInt)]) (zQi G PR) 0 0 (zA G) ∧ ∀ (x : Int) (M2 : zMem), zrg x → PR x M2 → zV M2 26 0 0 = k ∧ (k = 0 → zV M2 27 0 0 = x) ∧ NX M2)
    (hnx : ∀ M2 : zMem, NX M2 → zZ p l e room_1 s m #[Value.ref b] below meth c G 7 (lw_Z below #[Value.ref b] s) M2 (cells + 2) (slots + 12) 1596 [(4, .int (zI i)), (3, .ref (zad G 27 0)), (2, .ref (zad G 26 0)), (1, .ref (zad G 0 0)), (0, .ref b)] []) : zZ p l e room_1 s m #[Value.ref b] below meth c G 7 (lw_Z below #[Value.ref b] s) M cells slots 1299 [(4, .int (zI i)), (3, .ref (zad G 27 0)), (2, .ref (zad G 26 0)), (1, .ref (zad G 0 0)), (0, .ref b)] [] := by
  refine z_aload_n C 1299 dL_law_1299 rfl 3 rfl ?_
  refine z_aload_n C 1300 dL_law_1300 rfl 4 rfl ?_
  refine z_iload C 1301 dL_law_1301 0 rfl ?_
  refine z_iconst C 1303 dL_law_1303 ?_
  refine z_iadd C 1304 dL_law_1304 ?_
  refine zs_ld C hX hbl hG 1305 (by omega) (by omega) (by omega) dL_law_1305 (fun y1 hy1 ey => ?_)
  subst ey
  refine z_aload_n C 1306 dL_law_1306 rfl 4 rfl ?_
  refine z_iload C 1307 dL_law_1307 0 rfl ?_
  refine z_iconst C 1309 dL_law_1309 ?_
  refine z_iadd C 1310 dL_law_1310 ?_
  refine zs_ld C hX hbl hG 1311 (by omega) (by omega) (by omega) dL_law_1311 (fun y2 hy2 ey => ?_)
  subst ey
  refine z_aload_n C 1312 dL_law_1312 rfl 1 rfl ?_
  refine zs_call C hN 1313 (As := [.ref (zad G 0 0), .int (zI (xs (i + 1).toNat).toInt), .int (zI (xs (i + 2).toNat).toInt), .ref (zad G 27 0)]) (rest := []) (n := 4) (hh := hh_prefixOf) hW wm_L_151 wcw_L_prefixOf wini_L wst_L_prefixOf ⟨by decide, by decide, by decide⟩ ⟨by decide, by decide⟩ rfl (Nat.le_of_ble_eq_true rfl) ⟨by show _ ≤ (668696 : Nat); omega, by show _ ≤ (7090017 : Nat); omega⟩ dL_law_1313 rfl (fun k M1 hk hPW => ?_)
  obtain ⟨PR, hR, hend⟩ := hop k M1 hk hPW
  refine z_istore (lv' := [(5, .int (zI k)), (4, .int (zI i)), (3, .ref (zad G 27 0)), (2, .ref (zad G 26 0)), (1, .ref (zad G 0 0)), (0, .ref b)]) C 1316 dL_law_1316 (by decide) rfl ?_
  refine z_aload_n C 1318 dL_law_1318 rfl 3 rfl ?_
  refine z_aload_n C 1319 dL_law_1319 rfl 5 rfl ?_
  refine z_iload C 1320 dL_law_1320 1 rfl ?_
  refine z_iconst C 1322 dL_law_1322 ?_
  refine z_iadd C 1323 dL_law_1323 ?_
  refine zs_ld C hX hbl hG 1324 (by omega) (by omega) (by omega) dL_law_1324 (fun y3 hy3 ey => ?_)
  subst ey
  refine z_aload_n C 1325 dL_law_1325 rfl 5 rfl ?_
  refine z_iload C 1326 dL_law_1326 1 rfl ?_
  refine z_iconst C 1328 dL_law_1328 ?_
  refine z_iadd C 1329 dL_law_1329 ?_
  refine zs_ld C hX hbl hG 1330 (by omega) (by omega) (by omega) dL_law_1330 (fun y4 hy4 ey => ?_)
  subst ey
  refine z_callVi C 1331 (As := [.int (zI (xs (i + 1).toNat).toInt), .int (zI (xs (i + 2).toNat).toInt)]) (rest := []) hR zcl8 (show 0 < 1 by omega) (zc26 ..) (zW_of 2 C wm_L_153 wc_X8_prefixOf wini_8 wi_X8_prefixOf wse_X8_prefixOf ⟨by decide, by decide, by decide⟩ ⟨by decide, by decide⟩) rfl (Nat.le_of_ble_eq_true rfl) ⟨by show _ ≤ (668696 : Nat); omega, by show _ ≤ (7090017 : Nat); omega⟩ dL_law_1331 rfl (fun x M2 hx hPR => ?_)
  obtain ⟨he1, he2, hn2⟩ := hend x M2 hx hPR
  refine z_istore (lv' := [(6, .int (zI x)), (5, .int (zI k)), (4, .int (zI i)), (3, .ref (zad G 27 0)), (2, .ref (zad G 26 0)), (1, .ref (zad G 0 0)), (0, .ref b)]) C 1334 dL_law_1334 (by decide) rfl ?_
  refine z_aload_n C 1336 dL_law_1336 rfl 4 rfl ?_
  refine z_callVi C 1337 (As := []) (rest := []) (c_X8_thrown l G M2) zcl8 (show 0 < 1 by omega) (zc26 ..) (zW_of 0 C wm_L_94 wc_X8_thrown wini_8 wi_X8_thrown wse_X8_thrown ⟨by decide, by decide, by decide⟩ ⟨by decide, by decide⟩) rfl (Nat.le_of_ble_eq_true rfl) ⟨by show _ ≤ (668696 : Nat); omega, by show _ ≤ (7090017 : Nat); omega⟩ dL_law_1337 rfl (fun th M3 hth hP3 => ?_)
  obtain ⟨rfl, hP3⟩ := hP3
  have hP3 : th = k := hP3.trans he1
  subst hP3
  refine z_iload C 1340 dL_law_1340 1 rfl ?_
  refine z_icmp_eq C 1342 1347 dL_law_1342 (by decide) hth hth (fun _ => ?_) (fun c1 => absurd rfl c1)
  refine z_iload C 1347 dL_law_1347 1 rfl ?_
  refine z_if_ne C 1349 1364 dL_law_1349 (by decide) hth (fun c1 => ?_) (fun c1 => ?_)
  · refine z_goto C 1364 1596 dL_law_1364 (by decide) ?_
    refine z_sub (lv' := [(4, .int (zI i)), (3, .ref (zad G 27 0)), (2, .ref (zad G 26 0)), (1, .ref (zad G 0 0)), (0, .ref b)]) [2, 3, 4, 5, 6] rfl ?_
    exact hnx M2 hn2
  have hz0 : th = 0 := by omega
  have he2 := he2 hz0
  refine z_aload_n C 1352 dL_law_1352 rfl 3 rfl ?_
  refine z_iconst C 1353 dL_law_1353 ?_
  refine zs_lald C 1354 dL_law_1354 ?_
  rw [he2]
  refine z_iload C 1355 dL_law_1355 0 rfl ?_
  refine z_i2l C 1357 dL_law_1357 ?_
  refine zs_cmp C 1358 dL_law_1358 ?_
  refine z_if_eq C 1359 1364 dL_law_1359 (by decide) (by decide) (fun _ => ?_) (fun c3 => absurd rfl c3)
  refine z_goto C 1364 1596 dL_law_1364 (by decide) ?_
  refine z_sub (lv' := [(4, .int (zI i)), (3, .ref (zad G 27 0)), (2, .ref (zad G 26 0)), (1, .ref (zad G 0 0)), (0, .ref b)]) [2, 3, 4, 5, 6] rfl ?_
  exact hnx M2 hn2
set_option maxHeartbeats 4000000 in
set_option maxRecDepth 100000 in
theorem law_op18 {p : Program} {l : Launch} {e : Env} {s : State} {m : MethodId} {below : List Frame} {meth : Method} {c : Code} {G : zG} {b L : Nat} {xs : Nat → Int32} {M : zMem} {cells slots : Nat} {i : Int} (C : zC p s m #[Value.ref b] meth c G RL cL_law 7 (some .boolean)) (hN : zNC s) (hX : va_X b L xs s s.heap) (hbl : b < s.heap.size) (hG : G.2.2 = s.heap) (hi : 0 ≤ i) (hi5 : i + 5 ≤ L) (hL : L ≤ 2560) (hc : cells + 6 ≤ 668696) (hs : slots + 36 ≤ 7090017) {PW : Int → zMem → Prop} {NX : zMem → Prop} (hW : Met l yL_mappingAt [.codeWith yL_mappingAt cL_mappingAt 5 (some .int) hh_mappingAt] (zR 10 2 12) (zwPc G M [.ref (zad G 0 0), .int (zI (xs (i + 1).toNat).toInt), .int (zI (xs (i + 2).toNat).toInt), .ref (zad G 27 0)]) (zQi G PW) 2 12 (zA G))
    (hop : ∀ (k : Int) (M1 : zMem), zrg k → PW k M1 → ∃ PR : Int → zMem → Prop, Met l yX8_mappingAt [.code yX8_mappingAt cX8_mappingAt 4 (some .int)] (zR 3 0 0) (zPc G M1 [.ref (zad G 26 0), .int (zI (xs (i + 1).toNat).toInt), .int (zI (xs (i + 2).toNat).toInt)]) (zQi G PR) 0 0 (zA G) ∧ ∀ (x : Int) (M2 : zMem), zrg x → PR x M2 → zV M2 26 0 0 = k ∧ (k = 0 → zV M2 27 0 0 = x) ∧ NX M2)
    (hnx : ∀ M2 : zMem, NX M2 → zZ p l e room_1 s m #[Value.ref b] below meth c G 7 (lw_Z below #[Value.ref b] s) M2 (cells + 2) (slots + 12) 1596 [(4, .int (zI i)), (3, .ref (zad G 27 0)), (2, .ref (zad G 26 0)), (1, .ref (zad G 0 0)), (0, .ref b)] []) : zZ p l e room_1 s m #[Value.ref b] below meth c G 7 (lw_Z below #[Value.ref b] s) M cells slots 1367 [(4, .int (zI i)), (3, .ref (zad G 27 0)), (2, .ref (zad G 26 0)), (1, .ref (zad G 0 0)), (0, .ref b)] [] := by
  refine z_aload_n C 1367 dL_law_1367 rfl 3 rfl ?_
  refine z_aload_n C 1368 dL_law_1368 rfl 4 rfl ?_
  refine z_iload C 1369 dL_law_1369 0 rfl ?_
  refine z_iconst C 1371 dL_law_1371 ?_
  refine z_iadd C 1372 dL_law_1372 ?_
  refine zs_ld C hX hbl hG 1373 (by omega) (by omega) (by omega) dL_law_1373 (fun y1 hy1 ey => ?_)
  subst ey
  refine z_aload_n C 1374 dL_law_1374 rfl 4 rfl ?_
  refine z_iload C 1375 dL_law_1375 0 rfl ?_
  refine z_iconst C 1377 dL_law_1377 ?_
  refine z_iadd C 1378 dL_law_1378 ?_
  refine zs_ld C hX hbl hG 1379 (by omega) (by omega) (by omega) dL_law_1379 (fun y2 hy2 ey => ?_)
  subst ey
  refine z_aload_n C 1380 dL_law_1380 rfl 1 rfl ?_
  refine zs_call C hN 1381 (As := [.ref (zad G 0 0), .int (zI (xs (i + 1).toNat).toInt), .int (zI (xs (i + 2).toNat).toInt), .ref (zad G 27 0)]) (rest := []) (n := 4) (hh := hh_mappingAt) hW wm_L_154 wcw_L_mappingAt wini_L wst_L_mappingAt ⟨by decide, by decide, by decide⟩ ⟨by decide, by decide⟩ rfl (Nat.le_of_ble_eq_true rfl) ⟨by show _ ≤ (668696 : Nat); omega, by show _ ≤ (7090017 : Nat); omega⟩ dL_law_1381 rfl (fun k M1 hk hPW => ?_)
  obtain ⟨PR, hR, hend⟩ := hop k M1 hk hPW
  refine z_istore (lv' := [(5, .int (zI k)), (4, .int (zI i)), (3, .ref (zad G 27 0)), (2, .ref (zad G 26 0)), (1, .ref (zad G 0 0)), (0, .ref b)]) C 1384 dL_law_1384 (by decide) rfl ?_
  refine z_aload_n C 1386 dL_law_1386 rfl 3 rfl ?_
  refine z_aload_n C 1387 dL_law_1387 rfl 5 rfl ?_
  refine z_iload C 1388 dL_law_1388 1 rfl ?_
  refine z_iconst C 1390 dL_law_1390 ?_
  refine z_iadd C 1391 dL_law_1391 ?_
  refine zs_ld C hX hbl hG 1392 (by omega) (by omega) (by omega) dL_law_1392 (fun y3 hy3 ey => ?_)
  subst ey
  refine z_aload_n C 1393 dL_law_1393 rfl 5 rfl ?_
  refine z_iload C 1394 dL_law_1394 1 rfl ?_
  refine z_iconst C 1396 dL_law_1396 ?_
  refine z_iadd C 1397 dL_law_1397 ?_
  refine zs_ld C hX hbl hG 1398 (by omega) (by omega) (by omega) dL_law_1398 (fun y4 hy4 ey => ?_)
  subst ey
  refine z_callVi C 1399 (As := [.int (zI (xs (i + 1).toNat).toInt), .int (zI (xs (i + 2).toNat).toInt)]) (rest := []) hR zcl8 (show 0 < 1 by omega) (zc26 ..) (zW_of 2 C wm_L_156 wc_X8_mappingAt wini_8 wi_X8_mappingAt wse_X8_mappingAt ⟨by decide, by decide, by decide⟩ ⟨by decide, by decide⟩) rfl (Nat.le_of_ble_eq_true rfl) ⟨by show _ ≤ (668696 : Nat); omega, by show _ ≤ (7090017 : Nat); omega⟩ dL_law_1399 rfl (fun x M2 hx hPR => ?_)
  obtain ⟨he1, he2, hn2⟩ := hend x M2 hx hPR
  refine z_istore (lv' := [(6, .int (zI x)), (5, .int (zI k)), (4, .int (zI i)), (3, .ref (zad G 27 0)), (2, .ref (zad G 26 0)), (1, .ref (zad G 0 0)), (0, .ref b)]) C 1402 dL_law_1402 (by decide) rfl ?_
  refine z_aload_n C 1404 dL_law_1404 rfl 4 rfl ?_
  refine z_callVi C 1405 (As := []) (rest := []) (c_X8_thrown l G M2) zcl8 (show 0 < 1 by omega) (zc26 ..) (zW_of 0 C wm_L_94 wc_X8_thrown wini_8 wi_X8_thrown wse_X8_thrown ⟨by decide, by decide, by decide⟩ ⟨by decide, by decide⟩) rfl (Nat.le_of_ble_eq_true rfl) ⟨by show _ ≤ (668696 : Nat); omega, by show _ ≤ (7090017 : Nat); omega⟩ dL_law_1405 rfl (fun th M3 hth hP3 => ?_)
  obtain ⟨rfl, hP3⟩ := hP3
  have hP3 : th = k := hP3.trans he1
  subst hP3
  refine z_iload C 1408 dL_law_1408 1 rfl ?_
  refine z_icmp_eq C 1410 1415 dL_law_1410 (by decide) hth hth (fun _ => ?_) (fun c1 => absurd rfl c1)
  refine z_iload C 1415 dL_law_1415 1 rfl ?_
  refine z_if_ne C 1417 1432 dL_law_1417 (by decide) hth (fun c1 => ?_) (fun c1 => ?_)
  · refine z_goto C 1432 1596 dL_law_1432 (by decide) ?_
    refine z_sub (lv' := [(4, .int (zI i)), (3, .ref (zad G 27 0)), (2, .ref (zad G 26 0)), (1, .ref (zad G 0 0)), (0, .ref b)]) [2, 3, 4, 5, 6] rfl ?_
    exact hnx M2 hn2
  have hz0 : th = 0 := by omega
  have he2 := he2 hz0
  refine z_aload_n C 1420 dL_law_1420 rfl 3 rfl ?_
  refine z_iconst C 1421 dL_law_1421 ?_
  refine zs_lald C 1422 dL_law_1422 ?_
  rw [he2]
  refine z_iload C 1423 dL_law_1423 0 rfl ?_
  refine z_i2l C 1425 dL_law_1425 ?_
  refine zs_cmp C 1426 dL_law_1426 ?_
  refine z_if_eq C 1427 1432 dL_law_1427 (by decide) (by decide) (fun _ => ?_) (fun c3 => absurd rfl c3)
  refine z_goto C 1432 1596 dL_law_1432 (by decide) ?_
  refine z_sub (lv' := [(4, .int (zI i)), (3, .ref (zad G 27 0)), (2, .ref (zad G 26 0)), (1, .ref (zad G 0 0)), (0, .ref b)]) [2, 3, 4, 5, 6] rfl ?_
  exact hnx M2 hn2
set_option maxHeartbeats 4000000 in
set_option maxRecDepth 100000 in
theorem law_op19 {p : Program} {l : Launch} {e : Env} {s : State} {m : MethodId} {below : List Frame} {meth : Method} {c : Code} {G : zG} {b L : Nat} {xs : Nat → Int32} {M : zMem} {cells slots : Nat} {i : Int} (C : zC p s m #[Value.ref b] meth c G RL cL_law 7 (some .boolean)) (hN : zNC s) (hX : va_X b L xs s s.heap) (hbl : b < s.heap.size) (hG : G.2.2 = s.heap) (hi : 0 ≤ i) (hi5 : i + 5 ≤ L) (hL : L ≤ 2560) (hc : cells + 6 ≤ 668696) (hs : slots + 36 ≤ 7090017) {PW : Int → zMem → Prop} {NX : zMem → Prop} (hW : Met l yL_lasts [.codeWith yL_lasts cL_lasts 5 (some .int) hh_lasts] (zR 10 2 12) (zwPc G M [.ref (zad G 0 0), .int (zI (xs (i + 1).toNat).toInt), .int (zI (xs (i + 2).toNat).toInt), .ref (zad G 27 0)]) (zQi G PW) 2 12 (zA G))
    (hop : ∀ (k : Int) (M1 : zMem), zrg k → PW k M1 → ∃ PR : Int → zMem → Prop, Met l yX8_lasts [.code yX8_lasts cX8_lasts 4 (some .int)] (zR 3 0 0) (zPc G M1 [.ref (zad G 26 0), .int (zI (xs (i + 1).toNat).toInt), .int (zI (xs (i + 2).toNat).toInt)]) (zQi G PR) 0 0 (zA G) ∧ ∀ (x : Int) (M2 : zMem), zrg x → PR x M2 → zV M2 26 0 0 = k ∧ (k = 0 → zV M2 27 0 0 = x) ∧ NX M2)
    (hnx : ∀ M2 : zMem, NX M2 → zZ p l e room_1 s m #[Value.ref b] below meth c G 7 (lw_Z below #[Value.ref b] s) M2 (cells + 2) (slots + 12) 1596 [(4, .int (zI i)), (3, .ref (zad G 27 0)), (2, .ref (zad G 26 0)), (1, .ref (zad G 0 0)), (0, .ref b)] []) : zZ p l e room_1 s m #[Value.ref b] below meth c G 7 (lw_Z below #[Value.ref b] s) M cells slots 1435 [(4, .int (zI i)), (3, .ref (zad G 27 0)), (2, .ref (zad G 26 0)), (1, .ref (zad G 0 0)), (0, .ref b)] [] := by
  refine z_aload_n C 1435 dL_law_1435 rfl 3 rfl ?_
  refine z_aload_n C 1436 dL_law_1436 rfl 4 rfl ?_
  refine z_iload C 1437 dL_law_1437 0 rfl ?_
  refine z_iconst C 1439 dL_law_1439 ?_
  refine z_iadd C 1440 dL_law_1440 ?_
  refine zs_ld C hX hbl hG 1441 (by omega) (by omega) (by omega) dL_law_1441 (fun y1 hy1 ey => ?_)
  subst ey
  refine z_aload_n C 1442 dL_law_1442 rfl 4 rfl ?_
  refine z_iload C 1443 dL_law_1443 0 rfl ?_
  refine z_iconst C 1445 dL_law_1445 ?_
  refine z_iadd C 1446 dL_law_1446 ?_
  refine zs_ld C hX hbl hG 1447 (by omega) (by omega) (by omega) dL_law_1447 (fun y2 hy2 ey => ?_)
  subst ey
  refine z_aload_n C 1448 dL_law_1448 rfl 1 rfl ?_
  refine zs_call C hN 1449 (As := [.ref (zad G 0 0), .int (zI (xs (i + 1).toNat).toInt), .int (zI (xs (i + 2).toNat).toInt), .ref (zad G 27 0)]) (rest := []) (n := 4) (hh := hh_lasts) hW wm_L_157 wcw_L_lasts wini_L wst_L_lasts ⟨by decide, by decide, by decide⟩ ⟨by decide, by decide⟩ rfl (Nat.le_of_ble_eq_true rfl) ⟨by show _ ≤ (668696 : Nat); omega, by show _ ≤ (7090017 : Nat); omega⟩ dL_law_1449 rfl (fun k M1 hk hPW => ?_)
  obtain ⟨PR, hR, hend⟩ := hop k M1 hk hPW
  refine z_istore (lv' := [(5, .int (zI k)), (4, .int (zI i)), (3, .ref (zad G 27 0)), (2, .ref (zad G 26 0)), (1, .ref (zad G 0 0)), (0, .ref b)]) C 1452 dL_law_1452 (by decide) rfl ?_
  refine z_aload_n C 1454 dL_law_1454 rfl 3 rfl ?_
  refine z_aload_n C 1455 dL_law_1455 rfl 5 rfl ?_
  refine z_iload C 1456 dL_law_1456 1 rfl ?_
  refine z_iconst C 1458 dL_law_1458 ?_
  refine z_iadd C 1459 dL_law_1459 ?_
  refine zs_ld C hX hbl hG 1460 (by omega) (by omega) (by omega) dL_law_1460 (fun y3 hy3 ey => ?_)
  subst ey
  refine z_aload_n C 1461 dL_law_1461 rfl 5 rfl ?_
  refine z_iload C 1462 dL_law_1462 1 rfl ?_
  refine z_iconst C 1464 dL_law_1464 ?_
  refine z_iadd C 1465 dL_law_1465 ?_
  refine zs_ld C hX hbl hG 1466 (by omega) (by omega) (by omega) dL_law_1466 (fun y4 hy4 ey => ?_)
  subst ey
  refine z_callVi C 1467 (As := [.int (zI (xs (i + 1).toNat).toInt), .int (zI (xs (i + 2).toNat).toInt)]) (rest := []) hR zcl8 (show 0 < 1 by omega) (zc26 ..) (zW_of 2 C wm_L_159 wc_X8_lasts wini_8 wi_X8_lasts wse_X8_lasts ⟨by decide, by decide, by decide⟩ ⟨by decide, by decide⟩) rfl (Nat.le_of_ble_eq_true rfl) ⟨by show _ ≤ (668696 : Nat); omega, by show _ ≤ (7090017 : Nat); omega⟩ dL_law_1467 rfl (fun x M2 hx hPR => ?_)
  obtain ⟨he1, he2, hn2⟩ := hend x M2 hx hPR
  refine z_istore (lv' := [(6, .int (zI x)), (5, .int (zI k)), (4, .int (zI i)), (3, .ref (zad G 27 0)), (2, .ref (zad G 26 0)), (1, .ref (zad G 0 0)), (0, .ref b)]) C 1470 dL_law_1470 (by decide) rfl ?_
  refine z_aload_n C 1472 dL_law_1472 rfl 4 rfl ?_
  refine z_callVi C 1473 (As := []) (rest := []) (c_X8_thrown l G M2) zcl8 (show 0 < 1 by omega) (zc26 ..) (zW_of 0 C wm_L_94 wc_X8_thrown wini_8 wi_X8_thrown wse_X8_thrown ⟨by decide, by decide, by decide⟩ ⟨by decide, by decide⟩) rfl (Nat.le_of_ble_eq_true rfl) ⟨by show _ ≤ (668696 : Nat); omega, by show _ ≤ (7090017 : Nat); omega⟩ dL_law_1473 rfl (fun th M3 hth hP3 => ?_)
  obtain ⟨rfl, hP3⟩ := hP3
  have hP3 : th = k := hP3.trans he1
  subst hP3
  refine z_iload C 1476 dL_law_1476 1 rfl ?_
  refine z_icmp_eq C 1478 1483 dL_law_1478 (by decide) hth hth (fun _ => ?_) (fun c1 => absurd rfl c1)
  refine z_iload C 1483 dL_law_1483 1 rfl ?_
  refine z_if_ne C 1485 1500 dL_law_1485 (by decide) hth (fun c1 => ?_) (fun c1 => ?_)
  · refine z_goto C 1500 1596 dL_law_1500 (by decide) ?_
    refine z_sub (lv' := [(4, .int (zI i)), (3, .ref (zad G 27 0)), (2, .ref (zad G 26 0)), (1, .ref (zad G 0 0)), (0, .ref b)]) [2, 3, 4, 5, 6] rfl ?_
    exact hnx M2 hn2
  have hz0 : th = 0 := by omega
  have he2 := he2 hz0
  refine z_aload_n C 1488 dL_law_1488 rfl 3 rfl ?_
  refine z_iconst C 1489 dL_law_1489 ?_
  refine zs_lald C 1490 dL_law_1490 ?_
  rw [he2]
  refine z_iload C 1491 dL_law_1491 0 rfl ?_
  refine z_i2l C 1493 dL_law_1493 ?_
  refine zs_cmp C 1494 dL_law_1494 ?_
  refine z_if_eq C 1495 1500 dL_law_1495 (by decide) (by decide) (fun _ => ?_) (fun c3 => absurd rfl c3)
  refine z_goto C 1500 1596 dL_law_1500 (by decide) ?_
  refine z_sub (lv' := [(4, .int (zI i)), (3, .ref (zad G 27 0)), (2, .ref (zad G 26 0)), (1, .ref (zad G 0 0)), (0, .ref b)]) [2, 3, 4, 5, 6] rfl ?_
  exact hnx M2 hn2
set_option maxHeartbeats 4000000 in
set_option maxRecDepth 100000 in
theorem law_op20 {p : Program} {l : Launch} {e : Env} {s : State} {m : MethodId} {below : List Frame} {meth : Method} {c : Code} {G : zG} {b L : Nat} {xs : Nat → Int32} {M : zMem} {cells slots : Nat} {i : Int} (C : zC p s m #[Value.ref b] meth c G RL cL_law 7 (some .boolean)) (hN : zNC s) (hX : va_X b L xs s s.heap) (hbl : b < s.heap.size) (hG : G.2.2 = s.heap) (hi : 0 ≤ i) (hi5 : i + 5 ≤ L) (hL : L ≤ 2560) (hc : cells + 6 ≤ 668696) (hs : slots + 36 ≤ 7090017) {PW : Int → zMem → Prop} {NX : zMem → Prop} (hW : Met l yL_packetsTo [.codeWith yL_packetsTo cL_packetsTo 6 (some .int) hh_packetsTo] (zR 10 3 18) (zwPc G M [.ref (zad G 0 0), .int (zI (xs (i + 1).toNat).toInt), .int (zI (xs (i + 2).toNat).toInt), .int (zI (xs (i + 3).toNat).toInt), .ref (zad G 27 0)]) (zQi G PW) 3 18 (zA G))
    (hop : ∀ (k : Int) (M1 : zMem), zrg k → PW k M1 → ∃ PR : Int → zMem → Prop, Met l yX8_packetsTo [.code yX8_packetsTo cX8_packetsTo 7 (some .int)] (zR 3 0 0) (zPc G M1 [.ref (zad G 26 0), .int (zI (xs (i + 1).toNat).toInt), .int (zI (xs (i + 2).toNat).toInt), .int (zI (xs (i + 3).toNat).toInt)]) (zQi G PR) 0 0 (zA G) ∧ ∀ (x : Int) (M2 : zMem), zrg x → PR x M2 → zV M2 26 0 0 = k ∧ (k = 0 → zV M2 27 0 0 = x) ∧ NX M2)
    (hnx : ∀ M2 : zMem, NX M2 → zZ p l e room_1 s m #[Value.ref b] below meth c G 7 (lw_Z below #[Value.ref b] s) M2 (cells + 3) (slots + 18) 1596 [(4, .int (zI i)), (3, .ref (zad G 27 0)), (2, .ref (zad G 26 0)), (1, .ref (zad G 0 0)), (0, .ref b)] []) : zZ p l e room_1 s m #[Value.ref b] below meth c G 7 (lw_Z below #[Value.ref b] s) M cells slots 1503 [(4, .int (zI i)), (3, .ref (zad G 27 0)), (2, .ref (zad G 26 0)), (1, .ref (zad G 0 0)), (0, .ref b)] [] := by
  refine z_aload_n C 1503 dL_law_1503 rfl 3 rfl ?_
  refine z_aload_n C 1504 dL_law_1504 rfl 4 rfl ?_
  refine z_iload C 1505 dL_law_1505 0 rfl ?_
  refine z_iconst C 1507 dL_law_1507 ?_
  refine z_iadd C 1508 dL_law_1508 ?_
  refine zs_ld C hX hbl hG 1509 (by omega) (by omega) (by omega) dL_law_1509 (fun y1 hy1 ey => ?_)
  subst ey
  refine z_aload_n C 1510 dL_law_1510 rfl 4 rfl ?_
  refine z_iload C 1511 dL_law_1511 0 rfl ?_
  refine z_iconst C 1513 dL_law_1513 ?_
  refine z_iadd C 1514 dL_law_1514 ?_
  refine zs_ld C hX hbl hG 1515 (by omega) (by omega) (by omega) dL_law_1515 (fun y2 hy2 ey => ?_)
  subst ey
  refine z_aload_n C 1516 dL_law_1516 rfl 4 rfl ?_
  refine z_iload C 1517 dL_law_1517 0 rfl ?_
  refine z_iconst C 1519 dL_law_1519 ?_
  refine z_iadd C 1520 dL_law_1520 ?_
  refine zs_ld C hX hbl hG 1521 (by omega) (by omega) (by omega) dL_law_1521 (fun y3 hy3 ey => ?_)
  subst ey
  refine z_aload_n C 1522 dL_law_1522 rfl 1 rfl ?_
  refine zs_call C hN 1523 (As := [.ref (zad G 0 0), .int (zI (xs (i + 1).toNat).toInt), .int (zI (xs (i + 2).toNat).toInt), .int (zI (xs (i + 3).toNat).toInt), .ref (zad G 27 0)]) (rest := []) (n := 5) (hh := hh_packetsTo) hW wm_L_160 wcw_L_packetsTo wini_L wst_L_packetsTo ⟨by decide, by decide, by decide⟩ ⟨by decide, by decide⟩ rfl (Nat.le_of_ble_eq_true rfl) ⟨by show _ ≤ (668696 : Nat); omega, by show _ ≤ (7090017 : Nat); omega⟩ dL_law_1523 rfl (fun k M1 hk hPW => ?_)
  obtain ⟨PR, hR, hend⟩ := hop k M1 hk hPW
  refine z_istore (lv' := [(5, .int (zI k)), (4, .int (zI i)), (3, .ref (zad G 27 0)), (2, .ref (zad G 26 0)), (1, .ref (zad G 0 0)), (0, .ref b)]) C 1526 dL_law_1526 (by decide) rfl ?_
  refine z_aload_n C 1528 dL_law_1528 rfl 3 rfl ?_
  refine z_aload_n C 1529 dL_law_1529 rfl 5 rfl ?_
  refine z_iload C 1530 dL_law_1530 1 rfl ?_
  refine z_iconst C 1532 dL_law_1532 ?_
  refine z_iadd C 1533 dL_law_1533 ?_
  refine zs_ld C hX hbl hG 1534 (by omega) (by omega) (by omega) dL_law_1534 (fun y4 hy4 ey => ?_)
  subst ey
  refine z_aload_n C 1535 dL_law_1535 rfl 5 rfl ?_
  refine z_iload C 1536 dL_law_1536 1 rfl ?_
  refine z_iconst C 1538 dL_law_1538 ?_
  refine z_iadd C 1539 dL_law_1539 ?_
  refine zs_ld C hX hbl hG 1540 (by omega) (by omega) (by omega) dL_law_1540 (fun y5 hy5 ey => ?_)
  subst ey
  refine z_aload_n C 1541 dL_law_1541 rfl 5 rfl ?_
  refine z_iload C 1542 dL_law_1542 1 rfl ?_
  refine z_iconst C 1544 dL_law_1544 ?_
  refine z_iadd C 1545 dL_law_1545 ?_
  refine zs_ld C hX hbl hG 1546 (by omega) (by omega) (by omega) dL_law_1546 (fun y6 hy6 ey => ?_)
  subst ey
  refine z_callVi C 1547 (As := [.int (zI (xs (i + 1).toNat).toInt), .int (zI (xs (i + 2).toNat).toInt), .int (zI (xs (i + 3).toNat).toInt)]) (rest := []) hR zcl8 (show 0 < 1 by omega) (zc26 ..) (zW_of 3 C wm_L_162 wc_X8_packetsTo wini_8 wi_X8_packetsTo wse_X8_packetsTo ⟨by decide, by decide, by decide⟩ ⟨by decide, by decide⟩) rfl (Nat.le_of_ble_eq_true rfl) ⟨by show _ ≤ (668696 : Nat); omega, by show _ ≤ (7090017 : Nat); omega⟩ dL_law_1547 rfl (fun x M2 hx hPR => ?_)
  obtain ⟨he1, he2, hn2⟩ := hend x M2 hx hPR
  refine z_istore (lv' := [(6, .int (zI x)), (5, .int (zI k)), (4, .int (zI i)), (3, .ref (zad G 27 0)), (2, .ref (zad G 26 0)), (1, .ref (zad G 0 0)), (0, .ref b)]) C 1550 dL_law_1550 (by decide) rfl ?_
  refine z_aload_n C 1552 dL_law_1552 rfl 4 rfl ?_
  refine z_callVi C 1553 (As := []) (rest := []) (c_X8_thrown l G M2) zcl8 (show 0 < 1 by omega) (zc26 ..) (zW_of 0 C wm_L_94 wc_X8_thrown wini_8 wi_X8_thrown wse_X8_thrown ⟨by decide, by decide, by decide⟩ ⟨by decide, by decide⟩) rfl (Nat.le_of_ble_eq_true rfl) ⟨by show _ ≤ (668696 : Nat); omega, by show _ ≤ (7090017 : Nat); omega⟩ dL_law_1553 rfl (fun th M3 hth hP3 => ?_)
  obtain ⟨rfl, hP3⟩ := hP3
  have hP3 : th = k := hP3.trans he1
  subst hP3
  refine z_iload C 1556 dL_law_1556 1 rfl ?_
  refine z_icmp_eq C 1558 1563 dL_law_1558 (by decide) hth hth (fun _ => ?_) (fun c1 => absurd rfl c1)
  refine z_iload C 1563 dL_law_1563 1 rfl ?_
  refine z_if_ne C 1565 1580 dL_law_1565 (by decide) hth (fun c1 => ?_) (fun c1 => ?_)
  · refine z_goto C 1580 1596 dL_law_1580 (by decide) ?_
    refine z_sub (lv' := [(4, .int (zI i)), (3, .ref (zad G 27 0)), (2, .ref (zad G 26 0)), (1, .ref (zad G 0 0)), (0, .ref b)]) [2, 3, 4, 5, 6] rfl ?_
    exact hnx M2 hn2
  have hz0 : th = 0 := by omega
  have he2 := he2 hz0
  refine z_aload_n C 1568 dL_law_1568 rfl 3 rfl ?_
  refine z_iconst C 1569 dL_law_1569 ?_
  refine zs_lald C 1570 dL_law_1570 ?_
  rw [he2]
  refine z_iload C 1571 dL_law_1571 0 rfl ?_
  refine z_i2l C 1573 dL_law_1573 ?_
  refine zs_cmp C 1574 dL_law_1574 ?_
  refine z_if_eq C 1575 1580 dL_law_1575 (by decide) (by decide) (fun _ => ?_) (fun c3 => absurd rfl c3)
  refine z_goto C 1580 1596 dL_law_1580 (by decide) ?_
  refine z_sub (lv' := [(4, .int (zI i)), (3, .ref (zad G 27 0)), (2, .ref (zad G 26 0)), (1, .ref (zad G 0 0)), (0, .ref b)]) [2, 3, 4, 5, 6] rfl ?_
  exact hnx M2 hn2
