set_option maxHeartbeats 4000000 in
set_option maxRecDepth 100000 in
theorem law_begin {p : Program} {e : Env} {s : State} {m : MethodId} {below : List Frame} {meth : Method} {c : Code} (l : Launch) {b L : Nat} {xs : Nat → Int32} (C0 : lw_At p s m meth c b L xs)
    (hloop : ∀ G : zG, G.2.2 = s.heap → zC p s m #[Value.ref b] meth c G RL cL_law 7 (some .boolean) → zNC s → zZ p l e room_1 s m #[Value.ref b] below meth c G 7 (lw_Z below #[Value.ref b] s) zM0 371 2634 23 [(4, .int (zI 0)), (3, .ref (zad G 27 0)), (2, .ref (zad G 26 0)), (1, .ref (zad G 0 0)), (0, .ref b)] []) :
    W p l e room_1 s m #[Value.ref b] below meth c s.heap [] 0 0 (lw_Z below #[Value.ref b] s) (entryFrame m ([Value.ref b] : List Value).toArray 7) := by
  obtain ⟨hx, hb, hr, hml, hown, hts, hX, hbl, hlocks, hgv⟩ := id C0
  obtain ⟨G, hG, hK⟩ := zK_of hts hgv
  have hNC := zNC_of hgv
  have hAO := zAO_of hts
  have C : zC p s m #[Value.ref b] meth c G RL cL_law 7 (some .boolean) := ⟨hx, hb, hml, hown, fun w hw _ => hts w hw, hK, hlocks, hr, by show va_S _ G.2.2 s.heap []; rw [hG]; exact va_S.rf⟩
  have K : zY p l e room_1 s m #[Value.ref b] below meth c G 7 (lw_Z below #[Value.ref b] s) [] [] 0 0 0 [(0, .ref b)] [] := by
    refine zy_new (j := 0) (L' := [zb7]) C 0 zcl7 zdf7 wcl_L_8 wnew_7 wini_7 (Nat.le_of_ble_eq_true rfl) (Nat.le_of_ble_eq_true rfl) rfl rfl dL_law_0 ?_
    refine zy_cs (k := 1) (n := 7) rfl rfl ?_
    refine zy_dup C 3 dL_law_3 rfl ?_
    refine zy_callI (L0 := []) (j := 0) C hAO 4 (c_X7_init l G ([] ++ [])) wm_L_84 wc_X7_init wini_7 wi_X7_init rfl ⟨by decide, by decide, by decide⟩ ⟨by decide, by decide⟩ (Nat.le_of_ble_eq_true rfl) ⟨(Nat.le_of_ble_eq_true rfl), (Nat.le_of_ble_eq_true rfl)⟩ rfl rfl dL_law_4 ?_
    refine zy_cs (k := 342) (n := 1450) rfl rfl ?_
    refine zy_astore_n (lv' := [(1, .ref (zra G 0)), (0, .ref b)]) C 7 dL_law_7 rfl (by decide) rfl ?_
    refine zy_eq (zL7 G 0) rfl ?_
    refine zy_new (j := 342) (L' := zL7 G 0 ++ [zb8]) C 8 zcl8 zdf8 wcl_L_85 wnew_8 wini_8 (Nat.le_of_ble_eq_true rfl) (Nat.le_of_ble_eq_true rfl) (zL7_len ..) rfl dL_law_8 ?_
    refine zy_cs (k := 343) (n := 1485) rfl rfl ?_
    refine zy_dup C 11 dL_law_11 rfl ?_
    refine zy_callI (L0 := zL7 G 0) (j := 342) C hAO 12 (c_X8_init l G ([] ++ zL7 G 0)) wm_L_87 wc_X8_init wini_8 wi_X8_init rfl ⟨by decide, by decide, by decide⟩ ⟨by decide, by decide⟩ (Nat.le_of_ble_eq_true rfl) ⟨(Nat.le_of_ble_eq_true rfl), (Nat.le_of_ble_eq_true rfl)⟩ rfl (zL7_len ..) dL_law_12 ?_
    refine zy_cs (k := 370) (n := 2633) rfl rfl ?_
    refine zy_eq (zL7 G 0 ++ zL8 G 342) (by rw [List.nil_append, zL7_len]) ?_
    refine zy_astore_n (lv' := [(2, .ref (zra G 342)), (1, .ref (zra G 0)), (0, .ref b)]) C 15 dL_law_15 rfl (by decide) (by rw [show ([] : List va_E).length + 342 = 342 from rfl]; rfl) ?_
    refine zy_iconst C 16 dL_law_16 ?_
    refine zy_newa (at0 := .long) (ty := .long) (t := 2) (j := 370) (n := 1) (a0 := (1, .inr (.inl (fun _ => 0)))) (L' := zWlst G) C 17 rfl rfl (fun _ _ h => h) war_long (fun _ => rfl) (by decide) (by decide) rfl (by decide) (Nat.le_of_ble_eq_true rfl) (Nat.le_of_ble_eq_true rfl) (by rw [List.length_append, zL7_len, zL8_len]) (by rw [zWlst, List.append_assoc]; rfl) dL_law_17 ?_
    refine zy_cs (k := 371) (n := 2634) rfl rfl ?_
    refine zy_astore_n (lv' := [(3, .ref (zra G 370)), (2, .ref (zra G 342)), (1, .ref (zra G 0)), (0, .ref b)]) C 19 dL_law_19 rfl (by decide) (by rw [show ([] : List va_E).length + 370 = 370 from rfl]; rfl) ?_
    refine zy_iconst C 20 dL_law_20 ?_
    refine zy_istore (lv' := [(4, .int (zI 0)), (3, .ref (zra G 370)), (2, .ref (zra G 342)), (1, .ref (zra G 0)), (0, .ref b)]) C 21 dL_law_21 (by decide) rfl ?_
    exact fun H locs ls hM hS hl => hloop G hG C hNC H locs ls (zM_init hM) hS hl
  have hl := lv_entry ([.ref b]) (n := 7) (Nat.le_of_ble_eq_true rfl)
  rw [lg_entry_eq]
  have hl : lv_has _ 7 [(0, .ref b)] := hl
  exact K s.heap [] _ ⟨by show s.heap.size = G.2.2.size + 0; rw [hG]; rfl, fun i e h => by simp at h⟩ va_S.rf hl
