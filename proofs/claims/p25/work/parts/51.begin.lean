set_option maxHeartbeats 4000000 in
set_option maxRecDepth 100000 in
theorem law_begin {p : Program} {e : Env} {s : State} {m : MethodId} {below : List Frame} {meth : Method} {c : Code} (l : Launch) {b L : Nat} {xs : Nat → Int32} (hL : L ≤ 260) (C0 : lw_At p s m meth c b L xs)
    (hloop : ∀ G : zG, zB G = s.heap → zC p s m #[Value.ref b] meth c G RL cL_law 18 (some .boolean) → zZ p l e room_1 s m #[Value.ref b] below meth c G 18 (lw_Z below #[Value.ref b] s) zM0 353 1700 74 [(13, .int (zI 0)), (12, .ref (zad G 36 0)), (11, .ref (zad G 35 0)), (10, .ref (zad G 34 0)), (9, .ref (zad G 33 0)), (8, .ref (zad G 32 0)), (7, .ref (zad G 31 0)), (6, .ref (zad G 30 0)), (5, .ref (zad G 29 0)), (4, .ref (zad G 28 0)), (3, .ref (zad G 27 0)), (2, .ref (zad G 26 0)), (1, .ref (zad G 0 0)), (0, .ref (zS G).1)] []) :
    W p l e room_1 s m #[Value.ref b] below meth c s.heap [] 0 0 (lw_Z below #[Value.ref b] s) (entryFrame m ([Value.ref b] : List Value).toArray 18) := by
  obtain ⟨hx, hb, hr, hml, hown, hts, hX, hbl, hlocks, hgv⟩ := id C0
  obtain ⟨G, hG, hSG, hK⟩ := zK_of hts hgv hX hbl hL
  have hAO := zAO_of hts
  have C : zC p s m #[Value.ref b] meth c G RL cL_law 18 (some .boolean) := ⟨hx, hb, hml, hown, fun w hw _ => hts w hw, hK, hlocks, hr, by show va_S _ (zB G) s.heap []; rw [hG]; exact va_S.rf⟩
  have K : zY p l e room_1 s m #[Value.ref b] below meth c G 18 (lw_Z below #[Value.ref b] s) [] [] 0 0 0 [(0, .ref b)] [] := by
    refine zy_new (j := 0) (L' := [zb7]) C 0 zcl7 zdf7 wcl_L_9 wnew_7 wini_7 (Nat.le_of_ble_eq_true rfl) (Nat.le_of_ble_eq_true rfl) rfl rfl dL_law_0 ?_
    refine zy_cs (k := 1) (n := 7) rfl rfl ?_
    refine zy_dup C 3 dL_law_3 rfl ?_
    refine zy_callI (L0 := []) (j := 0) C hAO 4 (c_X7_init l G ([] ++ [])) wm_L_177 wc_X7_init wini_7 wi_X7_init rfl ⟨by decide, by decide, by decide⟩ ⟨by decide, by decide⟩ (Nat.le_of_ble_eq_true rfl) ⟨(Nat.le_of_ble_eq_true rfl), (Nat.le_of_ble_eq_true rfl)⟩ rfl rfl dL_law_4 ?_
    refine zy_cs (k := 342) (n := 1450) rfl rfl ?_
    refine zy_astore_n (lv' := [(1, .ref (zra G 0)), (0, .ref b)]) C 7 dL_law_7 rfl (by decide) rfl ?_
    refine zy_eq (zL7 G 0) rfl ?_
    refine zy_bipush C 8 dL_law_8 (by decide +kernel) ?_
    refine zy_newa (at0 := .int) (ty := .int) (t := 0) (j := 342) (n := 16) (a0 := (16, .inl (fun _ => 0))) (L' := zL7 G 0 ++ [zAi G 16]) C 10 rfl rfl (fun _ _ h => h) war_int (fun _ => rfl) (by decide) (by decide) rfl (by decide) (Nat.le_of_ble_eq_true rfl) (Nat.le_of_ble_eq_true rfl) (zL7_len ..) rfl dL_law_10 ?_
    refine zy_cs (k := 343) (n := 1466) rfl rfl ?_
    refine zy_astore_n (lv' := [(2, .ref (zra G 342)), (1, .ref (zra G 0)), (0, .ref b)]) C 12 dL_law_12 rfl (by decide) (by rw [show ([] : List va_E).length + 342 = 342 from rfl]; rfl) ?_
    refine zy_bipush C 13 dL_law_13 (by decide +kernel) ?_
    refine zy_newa (at0 := .int) (ty := .int) (t := 0) (j := 343) (n := 16) (a0 := (16, .inl (fun _ => 0))) (L' := zL7 G 0 ++ [zAi G 16, zAi G 16]) C 15 rfl rfl (fun _ _ h => h) war_int (fun _ => rfl) (by decide) (by decide) rfl (by decide) (Nat.le_of_ble_eq_true rfl) (Nat.le_of_ble_eq_true rfl) (by rw [List.length_append, zL7_len]; rfl) (by rw [List.append_assoc]; rfl) dL_law_15 ?_
    refine zy_cs (k := 344) (n := 1482) rfl rfl ?_
    refine zy_astore_n (lv' := [(3, .ref (zra G 343)), (2, .ref (zra G 342)), (1, .ref (zra G 0)), (0, .ref b)]) C 17 dL_law_17 rfl (by decide) (by rw [show ([] : List va_E).length + 343 = 343 from rfl]; rfl) ?_
    refine zy_bipush C 18 dL_law_18 (by decide +kernel) ?_
    refine zy_newa (at0 := .int) (ty := .int) (t := 0) (j := 344) (n := 64) (a0 := (64, .inl (fun _ => 0))) (L' := zL7 G 0 ++ [zAi G 16, zAi G 16, zAi G 64]) C 20 rfl rfl (fun _ _ h => h) war_int (fun _ => rfl) (by decide) (by decide) rfl (by decide) (Nat.le_of_ble_eq_true rfl) (Nat.le_of_ble_eq_true rfl) (by rw [List.length_append, zL7_len]; rfl) (by rw [List.append_assoc]; rfl) dL_law_20 ?_
    refine zy_cs (k := 345) (n := 1546) rfl rfl ?_
    refine zy_astore (lv' := [(4, .ref (zra G 344)), (3, .ref (zra G 343)), (2, .ref (zra G 342)), (1, .ref (zra G 0)), (0, .ref b)]) C 22 dL_law_22 (by decide) (by rw [show ([] : List va_E).length + 344 = 344 from rfl]; rfl) ?_
    refine zy_bipush C 24 dL_law_24 (by decide +kernel) ?_
    refine zy_newa (at0 := .int) (ty := .int) (t := 0) (j := 345) (n := 12) (a0 := (12, .inl (fun _ => 0))) (L' := zL7 G 0 ++ [zAi G 16, zAi G 16, zAi G 64, zAi G 12]) C 26 rfl rfl (fun _ _ h => h) war_int (fun _ => rfl) (by decide) (by decide) rfl (by decide) (Nat.le_of_ble_eq_true rfl) (Nat.le_of_ble_eq_true rfl) (by rw [List.length_append, zL7_len]; rfl) (by rw [List.append_assoc]; rfl) dL_law_26 ?_
    refine zy_cs (k := 346) (n := 1558) rfl rfl ?_
    refine zy_astore (lv' := [(5, .ref (zra G 345)), (4, .ref (zra G 344)), (3, .ref (zra G 343)), (2, .ref (zra G 342)), (1, .ref (zra G 0)), (0, .ref b)]) C 28 dL_law_28 (by decide) (by rw [show ([] : List va_E).length + 345 = 345 from rfl]; rfl) ?_
    refine zy_bipush C 30 dL_law_30 (by decide +kernel) ?_
    refine zy_newa (at0 := .int) (ty := .int) (t := 0) (j := 346) (n := 16) (a0 := (16, .inl (fun _ => 0))) (L' := zL7 G 0 ++ [zAi G 16, zAi G 16, zAi G 64, zAi G 12, zAi G 16]) C 32 rfl rfl (fun _ _ h => h) war_int (fun _ => rfl) (by decide) (by decide) rfl (by decide) (Nat.le_of_ble_eq_true rfl) (Nat.le_of_ble_eq_true rfl) (by rw [List.length_append, zL7_len]; rfl) (by rw [List.append_assoc]; rfl) dL_law_32 ?_
    refine zy_cs (k := 347) (n := 1574) rfl rfl ?_
    refine zy_astore (lv' := [(6, .ref (zra G 346)), (5, .ref (zra G 345)), (4, .ref (zra G 344)), (3, .ref (zra G 343)), (2, .ref (zra G 342)), (1, .ref (zra G 0)), (0, .ref b)]) C 34 dL_law_34 (by decide) (by rw [show ([] : List va_E).length + 346 = 346 from rfl]; rfl) ?_
    refine zy_bipush C 36 dL_law_36 (by decide +kernel) ?_
    refine zy_newa (at0 := .int) (ty := .int) (t := 0) (j := 347) (n := 16) (a0 := (16, .inl (fun _ => 0))) (L' := zL7 G 0 ++ [zAi G 16, zAi G 16, zAi G 64, zAi G 12, zAi G 16, zAi G 16]) C 38 rfl rfl (fun _ _ h => h) war_int (fun _ => rfl) (by decide) (by decide) rfl (by decide) (Nat.le_of_ble_eq_true rfl) (Nat.le_of_ble_eq_true rfl) (by rw [List.length_append, zL7_len]; rfl) (by rw [List.append_assoc]; rfl) dL_law_38 ?_
    refine zy_cs (k := 348) (n := 1590) rfl rfl ?_
    refine zy_astore (lv' := [(7, .ref (zra G 347)), (6, .ref (zra G 346)), (5, .ref (zra G 345)), (4, .ref (zra G 344)), (3, .ref (zra G 343)), (2, .ref (zra G 342)), (1, .ref (zra G 0)), (0, .ref b)]) C 40 dL_law_40 (by decide) (by rw [show ([] : List va_E).length + 347 = 347 from rfl]; rfl) ?_
    refine zy_bipush C 42 dL_law_42 (by decide +kernel) ?_
    refine zy_newa (at0 := .int) (ty := .int) (t := 0) (j := 348) (n := 16) (a0 := (16, .inl (fun _ => 0))) (L' := zL7 G 0 ++ [zAi G 16, zAi G 16, zAi G 64, zAi G 12, zAi G 16, zAi G 16, zAi G 16]) C 44 rfl rfl (fun _ _ h => h) war_int (fun _ => rfl) (by decide) (by decide) rfl (by decide) (Nat.le_of_ble_eq_true rfl) (Nat.le_of_ble_eq_true rfl) (by rw [List.length_append, zL7_len]; rfl) (by rw [List.append_assoc]; rfl) dL_law_44 ?_
    refine zy_cs (k := 349) (n := 1606) rfl rfl ?_
    refine zy_astore (lv' := [(8, .ref (zra G 348)), (7, .ref (zra G 347)), (6, .ref (zra G 346)), (5, .ref (zra G 345)), (4, .ref (zra G 344)), (3, .ref (zra G 343)), (2, .ref (zra G 342)), (1, .ref (zra G 0)), (0, .ref b)]) C 46 dL_law_46 (by decide) (by rw [show ([] : List va_E).length + 348 = 348 from rfl]; rfl) ?_
    refine zy_bipush C 48 dL_law_48 (by decide +kernel) ?_
    refine zy_newa (at0 := .int) (ty := .int) (t := 0) (j := 349) (n := 16) (a0 := (16, .inl (fun _ => 0))) (L' := zL7 G 0 ++ [zAi G 16, zAi G 16, zAi G 64, zAi G 12, zAi G 16, zAi G 16, zAi G 16, zAi G 16]) C 50 rfl rfl (fun _ _ h => h) war_int (fun _ => rfl) (by decide) (by decide) rfl (by decide) (Nat.le_of_ble_eq_true rfl) (Nat.le_of_ble_eq_true rfl) (by rw [List.length_append, zL7_len]; rfl) (by rw [List.append_assoc]; rfl) dL_law_50 ?_
    refine zy_cs (k := 350) (n := 1622) rfl rfl ?_
    refine zy_astore (lv' := [(9, .ref (zra G 349)), (8, .ref (zra G 348)), (7, .ref (zra G 347)), (6, .ref (zra G 346)), (5, .ref (zra G 345)), (4, .ref (zra G 344)), (3, .ref (zra G 343)), (2, .ref (zra G 342)), (1, .ref (zra G 0)), (0, .ref b)]) C 52 dL_law_52 (by decide) (by rw [show ([] : List va_E).length + 349 = 349 from rfl]; rfl) ?_
    refine zy_bipush C 54 dL_law_54 (by decide +kernel) ?_
    refine zy_newa (at0 := .int) (ty := .int) (t := 0) (j := 350) (n := 64) (a0 := (64, .inl (fun _ => 0))) (L' := zL7 G 0 ++ [zAi G 16, zAi G 16, zAi G 64, zAi G 12, zAi G 16, zAi G 16, zAi G 16, zAi G 16, zAi G 64]) C 56 rfl rfl (fun _ _ h => h) war_int (fun _ => rfl) (by decide) (by decide) rfl (by decide) (Nat.le_of_ble_eq_true rfl) (Nat.le_of_ble_eq_true rfl) (by rw [List.length_append, zL7_len]; rfl) (by rw [List.append_assoc]; rfl) dL_law_56 ?_
    refine zy_cs (k := 351) (n := 1686) rfl rfl ?_
    refine zy_astore (lv' := [(10, .ref (zra G 350)), (9, .ref (zra G 349)), (8, .ref (zra G 348)), (7, .ref (zra G 347)), (6, .ref (zra G 346)), (5, .ref (zra G 345)), (4, .ref (zra G 344)), (3, .ref (zra G 343)), (2, .ref (zra G 342)), (1, .ref (zra G 0)), (0, .ref b)]) C 58 dL_law_58 (by decide) (by rw [show ([] : List va_E).length + 350 = 350 from rfl]; rfl) ?_
    refine zy_iconst C 60 dL_law_60 ?_
    refine zy_newa (at0 := .int) (ty := .int) (t := 0) (j := 351) (n := 2) (a0 := (2, .inl (fun _ => 0))) (L' := zL7 G 0 ++ [zAi G 16, zAi G 16, zAi G 64, zAi G 12, zAi G 16, zAi G 16, zAi G 16, zAi G 16, zAi G 64, zAi G 2]) C 61 rfl rfl (fun _ _ h => h) war_int (fun _ => rfl) (by decide) (by decide) rfl (by decide) (Nat.le_of_ble_eq_true rfl) (Nat.le_of_ble_eq_true rfl) (by rw [List.length_append, zL7_len]; rfl) (by rw [List.append_assoc]; rfl) dL_law_61 ?_
    refine zy_cs (k := 352) (n := 1688) rfl rfl ?_
    refine zy_astore (lv' := [(11, .ref (zra G 351)), (10, .ref (zra G 350)), (9, .ref (zra G 349)), (8, .ref (zra G 348)), (7, .ref (zra G 347)), (6, .ref (zra G 346)), (5, .ref (zra G 345)), (4, .ref (zra G 344)), (3, .ref (zra G 343)), (2, .ref (zra G 342)), (1, .ref (zra G 0)), (0, .ref b)]) C 63 dL_law_63 (by decide) (by rw [show ([] : List va_E).length + 351 = 351 from rfl]; rfl) ?_
    refine zy_bipush C 65 dL_law_65 (by decide +kernel) ?_
    refine zy_newa (at0 := .int) (ty := .int) (t := 0) (j := 352) (n := 12) (a0 := (12, .inl (fun _ => 0))) (L' := zL7 G 0 ++ [zAi G 16, zAi G 16, zAi G 64, zAi G 12, zAi G 16, zAi G 16, zAi G 16, zAi G 16, zAi G 64, zAi G 2, zAi G 12]) C 67 rfl rfl (fun _ _ h => h) war_int (fun _ => rfl) (by decide) (by decide) rfl (by decide) (Nat.le_of_ble_eq_true rfl) (Nat.le_of_ble_eq_true rfl) (by rw [List.length_append, zL7_len]; rfl) (by rw [List.append_assoc]; rfl) dL_law_67 ?_
    refine zy_cs (k := 353) (n := 1700) rfl rfl ?_
    refine zy_astore (lv' := [(12, .ref (zra G 352)), (11, .ref (zra G 351)), (10, .ref (zra G 350)), (9, .ref (zra G 349)), (8, .ref (zra G 348)), (7, .ref (zra G 347)), (6, .ref (zra G 346)), (5, .ref (zra G 345)), (4, .ref (zra G 344)), (3, .ref (zra G 343)), (2, .ref (zra G 342)), (1, .ref (zra G 0)), (0, .ref b)]) C 69 dL_law_69 (by decide) (by rw [show ([] : List va_E).length + 352 = 352 from rfl]; rfl) ?_
    refine zy_iconst C 71 dL_law_71 ?_
    refine zy_istore (lv' := [(13, .int (zI 0)), (12, .ref (zra G 352)), (11, .ref (zra G 351)), (10, .ref (zra G 350)), (9, .ref (zra G 349)), (8, .ref (zra G 348)), (7, .ref (zra G 347)), (6, .ref (zra G 346)), (5, .ref (zra G 345)), (4, .ref (zra G 344)), (3, .ref (zra G 343)), (2, .ref (zra G 342)), (1, .ref (zra G 0)), (0, .ref b)]) C 72 dL_law_72 (by decide) rfl ?_
    exact fun H locs ls hM hS hl => hloop G hG C H locs ls (zM_init hM) hS (by rw [hSG]; exact hl)
  have hl := lv_entry ([.ref b]) (n := 18) (Nat.le_of_ble_eq_true rfl)
  rw [lg_entry_eq]
  have hl : lv_has _ 18 [(0, .ref b)] := hl
  exact K s.heap [] _ ⟨by show s.heap.size = (zB G).size + 0; rw [hG]; rfl, fun i e h => by simp at h⟩ va_S.rf hl
