set_option maxHeartbeats 4000000 in
set_option maxRecDepth 100000 in
theorem zyc7 (l : Launch) (G : zG) (P : List va_E) (A B : List va_E) (F : Nat → List va_E) (vs : Nat → List Value) (hA : A.length = 146) (hB : B.length = 17) (hF : ∀ i, (F i).length = 59) (hF0 : ∀ i, (F i)[0]? = some (.inr (5, vs i))) (h4 : Met l yX4_init [.code yX4_init cX4_init 2 none] (zR 3 145 552) (zyPc G ((P ++ [zb7]) ++ [zb4]) [.ref (zra G ((P ++ [zb7])).length)]) (zyQ G ((P ++ [zb7]) ++ A)) 145 552 (zA G)) (h6 : ∀ L0 : List va_E, L0.length = 147 → Met l yX6_init [.code yX6_init cX6_init 2 none] (zR 2 16 56) (zyPc G ((P ++ L0) ++ [zb6]) [.ref (zra G ((P ++ L0)).length)]) (zyQ G ((P ++ L0) ++ B)) 16 56 (zA G)) (h5 : ∀ (t : Nat) (L0 : List va_E), L0.length = 165 + 59 * t → Met l yX5_init [.code yX5_init cX5_init 2 none] (zR 3 58 272) (zyPc G ((P ++ L0) ++ [zb5]) [.ref (zra G ((P ++ L0)).length)]) (zyQ G ((P ++ L0) ++ F t)) 58 272 (zA G)) : Met l yX7_init [.code yX7_init cX7_init 2 none] (zR 4 341 1443) (zyPc G (P ++ [zb7]) [.ref (zra G P.length)]) (zyQ G (P ++ ((((([.inr (7, [.ref (zra G (P.length + 1)), .ref (zra G (P.length + 147)), .ref (zra G (P.length + 164)), .int 0, .int (zI 100), .int (zI 20), .int 0])] : List va_E) ++ A) ++ B) ++ [.inl (G.2.1 6, 3, .inr (.inr (.inr (.inr (fun j => some (zra G (P.length + (165 + 59 * j))))))))]) ++ zfl F 3))) 341 1443 (zA G) := by
  have hH : ∀ x : va_E, ((([x] : List va_E) ++ A) ++ B).length = 164 := fun x => by rw [List.length_append, List.length_append, hA, hB]; rfl
  refine zy_met [(0, .ref (zra G P.length))] (by decide) rfl (Nat.le_of_ble_eq_true rfl) rfl ?_
  intro p e s m below meth cz C hini hAO
  have C : zC p s m ([.ref (zra G P.length)] : List Value).toArray meth cz G RX7 cX7_init 2 none := C
  refine zy_aload_n C 0 dX7_init_0 rfl 0 rfl ?_
  refine zy_obj C 1 wm_7_3 dX7_init_1 (by decide) (by decide) ?_
  refine zy_aload_n C 4 dX7_init_4 rfl 0 rfl ?_
  refine zy_new (j := 1) (L' := [zb7, zb4]) C 5 zcl4 zdf4 wcl_7_9 wnew_4 wini_4 (by show _ ≤ (341 : Nat); omega) (by show _ ≤ (1443 : Nat); omega) rfl rfl dX7_init_5 ?_
  refine zy_cs (k := 1) (n := 2) rfl rfl ?_
  refine zy_dup C 8 dX7_init_8 rfl ?_
  refine zy_callI (L0 := [zb7]) (j := 1) C hAO 9 h4 wm_7_11 wc_X4_init wini_4 wi_X4_init rfl ⟨by decide, by decide, by decide⟩ ⟨by decide, by decide⟩ (Nat.le_of_ble_eq_true rfl) ⟨(by show _ ≤ (341 : Nat); omega), (by show _ ≤ (1443 : Nat); omega)⟩ rfl rfl dX7_init_9 ?_
  refine zy_cs (k := 146) (n := 554) rfl rfl ?_
  refine zy_putF (j := 0) (v := .ref (zra G (P.length + 1))) (L' := ([.inr (7, [.ref (zra G (P.length + 1)), .null, .null, .int 0, .int 0, .int 0, .int 0])] ++ A : List va_E)) C hini 12 zcl7 rfl 0 (by decide) wf_7_12 rfl rfl rfl rfl (Nat.le_of_ble_eq_true rfl) rfl dX7_init_12 ?_
  refine zy_aload_n C 15 dX7_init_15 rfl 0 rfl ?_
  refine zy_new (j := 147) (L' := (([.inr (7, [.ref (zra G (P.length + 1)), .null, .null, .int 0, .int 0, .int 0, .int 0])] ++ A : List va_E) ++ [zb6] : List va_E)) C 16 zcl6 zdf6 wcl_7_16 wnew_6 wini_6 (by show _ ≤ (341 : Nat); omega) (by show _ ≤ (1443 : Nat); omega) (by rw [List.length_append, hA]; rfl) rfl dX7_init_16 ?_
  refine zy_cs (k := 147) (n := 559) rfl rfl ?_
  refine zy_dup C 19 dX7_init_19 rfl ?_
  refine zy_callI (L0 := ([.inr (7, [.ref (zra G (P.length + 1)), .null, .null, .int 0, .int 0, .int 0, .int 0])] ++ A : List va_E)) (j := 147) C hAO 20 (h6 ([.inr (7, [.ref (zra G (P.length + 1)), .null, .null, .int 0, .int 0, .int 0, .int 0])] ++ A : List va_E) (by rw [List.length_append, hA]; rfl)) wm_7_18 wc_X6_init wini_6 wi_X6_init rfl ⟨by decide, by decide, by decide⟩ ⟨by decide, by decide⟩ (Nat.le_of_ble_eq_true rfl) ⟨(by show _ ≤ (341 : Nat); omega), (by show _ ≤ (1443 : Nat); omega)⟩ rfl (by rw [List.length_append, hA]; rfl) dX7_init_20 ?_
  refine zy_cs (k := 163) (n := 615) rfl rfl ?_
  refine zy_putF (j := 0) (v := .ref (zra G (P.length + 147))) (L' := ((([.inr (7, [.ref (zra G (P.length + 1)), .ref (zra G (P.length + 147)), .null, .int 0, .int 0, .int 0, .int 0])] ++ A) ++ B : List va_E))) C hini 23 zcl7 rfl 1 (by decide) wf_7_19 rfl rfl rfl rfl (Nat.le_of_ble_eq_true rfl) rfl dX7_init_23 ?_
  refine zy_aload_n C 26 dX7_init_26 rfl 0 rfl ?_
  refine zy_iconst C 27 dX7_init_27 ?_
  refine zy_anew (C0 := "LocatorMapper$Router") (t := 6) (j := 164) (n := 3) (L' := (([.inr (7, [.ref (zra G (P.length + 1)), .ref (zra G (P.length + 147)), .null, .int 0, .int 0, .int 0, .int 0])] ++ A) ++ B : List va_E) ++ [.inl (G.2.1 6, 3, .inr (.inr (.inr (.inr (fun _ => none)))))]) C hAO 28 rfl wcl_7_23 wao_X5 (by decide) (by decide) rfl (by decide) (by show _ ≤ (341 : Nat); omega) (by show _ ≤ (1443 : Nat); omega) (hH _) rfl dX7_init_28 ?_
  refine zy_cs (k := 164) (n := 618) rfl rfl ?_
  refine zy_putF (j := 0) (v := .ref (zra G (P.length + 164))) (L' := ((([.inr (7, [.ref (zra G (P.length + 1)), .ref (zra G (P.length + 147)), .ref (zra G (P.length + 164)), .int 0, .int 0, .int 0, .int 0])] ++ A) ++ B : List va_E) ++ [.inl (G.2.1 6, 3, .inr (.inr (.inr (.inr (fun _ => none)))))])) C hini 31 zcl7 rfl 2 (by decide) wf_7_25 rfl rfl rfl rfl (Nat.le_of_ble_eq_true rfl) rfl dX7_init_31 ?_
  refine zy_aload_n C 34 dX7_init_34 rfl 0 rfl ?_
  refine zy_iconst C 35 dX7_init_35 ?_
  refine zy_put (j := 0) (v := .int 0) (L' := ((([.inr (7, [.ref (zra G (P.length + 1)), .ref (zra G (P.length + 147)), .ref (zra G (P.length + 164)), .int 0, .int 0, .int 0, .int 0])] ++ A) ++ B : List va_E) ++ [.inl (G.2.1 6, 3, .inr (.inr (.inr (.inr (fun _ => none)))))])) C 36 zcl7 rfl 3 (by decide) wf_7_29 rfl rfl rfl (Nat.le_of_ble_eq_true rfl) rfl dX7_init_36 ?_
  refine zy_aload_n C 39 dX7_init_39 rfl 0 rfl ?_
  refine zy_bipush C 40 dX7_init_40 (by decide +kernel) ?_
  refine zy_put (j := 0) (v := .int (zI 100)) (L' := ((([.inr (7, [.ref (zra G (P.length + 1)), .ref (zra G (P.length + 147)), .ref (zra G (P.length + 164)), .int 0, .int (zI 100), .int 0, .int 0])] ++ A) ++ B : List va_E) ++ [.inl (G.2.1 6, 3, .inr (.inr (.inr (.inr (fun _ => none)))))])) C 42 zcl7 rfl 4 (by decide) wf_7_33 rfl rfl rfl (Nat.le_of_ble_eq_true rfl) rfl dX7_init_42 ?_
  refine zy_aload_n C 45 dX7_init_45 rfl 0 rfl ?_
  refine zy_bipush C 46 dX7_init_46 (by decide +kernel) ?_
  refine zy_put (j := 0) (v := .int (zI 20)) (L' := ((([.inr (7, [.ref (zra G (P.length + 1)), .ref (zra G (P.length + 147)), .ref (zra G (P.length + 164)), .int 0, .int (zI 100), .int (zI 20), .int 0])] ++ A) ++ B : List va_E) ++ [.inl (G.2.1 6, 3, .inr (.inr (.inr (.inr (fun _ => none)))))])) C 48 zcl7 rfl 5 (by decide) wf_7_36 rfl rfl rfl (Nat.le_of_ble_eq_true rfl) rfl dX7_init_48 ?_
  refine zy_aload_n C 51 dX7_init_51 rfl 0 rfl ?_
  refine zy_iconst C 52 dX7_init_52 ?_
  refine zy_put (j := 0) (v := .int 0) (L' := ((([.inr (7, [.ref (zra G (P.length + 1)), .ref (zra G (P.length + 147)), .ref (zra G (P.length + 164)), .int 0, .int (zI 100), .int (zI 20), .int 0])] ++ A) ++ B : List va_E) ++ [.inl (G.2.1 6, 3, .inr (.inr (.inr (.inr (fun _ => none)))))])) C 53 zcl7 rfl 6 (by decide) wf_7_39 rfl rfl rfl (Nat.le_of_ble_eq_true rfl) rfl dX7_init_53 ?_
  refine zy_iconst C 56 dX7_init_56 ?_
  refine zy_istore_n (lv' := [(1, .int (zI 0)), (0, .ref (zra G P.length))]) C 57 dX7_init_57 rfl (by decide) rfl ?_
  have hfl9 : ∀ t : Nat, (zfl F t).length = 59 * t := zfl_len hF
  have hL9 : ∀ (kz t : Nat), t ≤ 3 → 3 - t < kz → zY p l e (zR 4 341 1443) s m ([.ref (zra G P.length)] : List Value).toArray below meth cz G 2 (MQ below (zyQ G (P ++ ((((([.inr (7, [.ref (zra G (P.length + 1)), .ref (zra G (P.length + 147)), .ref (zra G (P.length + 164)), .int 0, .int (zI 100), .int (zI 20), .int 0])] : List va_E) ++ A) ++ B) ++ [.inl (G.2.1 6, 3, .inr (.inr (.inr (.inr (fun j => some (zra G (P.length + (165 + 59 * j))))))))]) ++ zfl F 3))) ([.ref (zra G P.length)] : List Value).toArray s 341 1443 (zA G)) P (((([.inr (7, [.ref (zra G (P.length + 1)), .ref (zra G (P.length + 147)), .ref (zra G (P.length + 164)), .int 0, .int (zI 100), .int (zI 20), .int 0])] : List va_E) ++ A) ++ B ++ [.inl (G.2.1 6, 3, .inr (.inr (.inr (.inr (zfill (fun j => zra G (P.length + (165 + 59 * j))) t)))))]) ++ zfl F t) (164 + 59 * t) (618 + 275 * t) 58 [(1, .int (zI (t : Int))), (0, .ref (zra G P.length))] [] := by
    intro kz
    induction kz with
    | zero => intro t h1 h2; omega
    | succ kz ih =>
      intro t h1 h2
      have hlen9 : ((((([.inr (7, [.ref (zra G (P.length + 1)), .ref (zra G (P.length + 147)), .ref (zra G (P.length + 164)), .int 0, .int (zI 100), .int (zI 20), .int 0])] : List va_E) ++ A) ++ B ++ [.inl (G.2.1 6, 3, .inr (.inr (.inr (.inr (zfill (fun j => zra G (P.length + (165 + 59 * j))) t)))))]) ++ zfl F t) : List va_E).length = 165 + 59 * t := by rw [List.length_append, List.length_append, hfl9, hH]; rfl
      refine zy_iload_n C 58 dX7_init_58 rfl 0 rfl ?_
      refine zy_iconst C 59 dX7_init_59 ?_
      refine zy_icmp_ge C 60 82 dX7_init_60 (by decide) (by omega) (by decide) (fun c9 => ?_) (fun c9 => ?_)
      · have ht : t = 3 := by omega
        subst ht
        refine zy_to _ (zN_swap 164 (zgetA (hH _)) (zsetA (hH _)) (fun H a h => zfill_at h)) ?_
        exact zy_ret C 82 dX7_init_82 (by decide) (by decide) (by rfl)
      refine zy_aload_n C 63 dX7_init_63 rfl 1 rfl ?_
      refine zy_get (j := 0) C 64 zcl7 rfl 2 (by decide) rfl wf_7_25 dX7_init_64 ?_
      refine zy_iload_n C 67 dX7_init_67 rfl 0 rfl ?_
      refine zy_new (j := 165 + 59 * t) C 68 zcl5 zdf5 wcl_7_23 wnew_5 wini_5 (by show _ ≤ (341 : Nat); omega) (by show _ ≤ (1443 : Nat); omega) hlen9 rfl dX7_init_68 ?_
      refine zy_dup C 71 dX7_init_71 rfl ?_
      refine zy_callI (L0 := ((([.inr (7, [.ref (zra G (P.length + 1)), .ref (zra G (P.length + 147)), .ref (zra G (P.length + 164)), .int 0, .int (zI 100), .int (zI 20), .int 0])] : List va_E) ++ A) ++ B ++ [.inl (G.2.1 6, 3, .inr (.inr (.inr (.inr (zfill (fun j => zra G (P.length + (165 + 59 * j))) t)))))]) ++ zfl F t) (j := 165 + 59 * t) C hAO 72 (h5 t (((([.inr (7, [.ref (zra G (P.length + 1)), .ref (zra G (P.length + 147)), .ref (zra G (P.length + 164)), .int 0, .int (zI 100), .int (zI 20), .int 0])] : List va_E) ++ A) ++ B ++ [.inl (G.2.1 6, 3, .inr (.inr (.inr (.inr (zfill (fun j => zra G (P.length + (165 + 59 * j))) t)))))]) ++ zfl F t) hlen9) wm_7_42 wc_X5_init wini_5 wi_X5_init rfl ⟨by decide, by decide, by decide⟩ ⟨by decide, by decide⟩ (Nat.le_of_ble_eq_true rfl) ⟨(by show _ ≤ (341 : Nat); omega), (by show _ ≤ (1443 : Nat); omega)⟩ rfl hlen9 dX7_init_72 ?_
      refine zy_aast (j := 164) (jv := 165 + 59 * t) (t := 6) (ci := 5) (r := (RX5, TX5, 3)) (vs := vs t) (L' := (((([.inr (7, [.ref (zra G (P.length + 1)), .ref (zra G (P.length + 147)), .ref (zra G (P.length + 164)), .int 0, .int (zI 100), .int (zI 20), .int 0])] : List va_E) ++ A) ++ B ++ [.inl (G.2.1 6, 3, .inr (.inr (.inr (.inr (zfill (fun j => zra G (P.length + (165 + 59 * j))) (t + 1))))))]) ++ zfl F t) ++ F t) C 75 rfl rfl ((congrArg (fun q : List va_E => q[164]?) (List.append_assoc ..)).trans (zgetA (hH _))) ((zget0 hlen9).trans (hF0 t)) (by omega) (by omega) (by omega) (by rw [show ((t : Int)).toNat = t from rfl, zfill_up (w := fun j => zra G (P.length + (165 + 59 * j))) (t := t) rfl, List.append_assoc (bs := zfl F t), zsetA (hH _), ← List.append_assoc]) dX7_init_75 ?_
      refine zy_iinc (lv' := [(1, .int (zI ((t : Int) + 1))), (0, .ref (zra G P.length))]) C 76 dX7_init_76 0 rfl (by decide) rfl ?_
      refine zy_goto C 79 58 dX7_init_79 (by decide) ?_
      refine zy_eq (((([.inr (7, [.ref (zra G (P.length + 1)), .ref (zra G (P.length + 147)), .ref (zra G (P.length + 164)), .int 0, .int (zI 100), .int (zI 20), .int 0])] : List va_E) ++ A) ++ B ++ [.inl (G.2.1 6, 3, .inr (.inr (.inr (.inr (zfill (fun j => zra G (P.length + (165 + 59 * j))) (t + 1))))))]) ++ zfl F (t + 1)) (List.append_assoc _ _ _) ?_
      refine zy_cs (k := 164 + 59 * (t + 1)) (n := 618 + 275 * (t + 1)) (by omega) (by omega) ?_
      exact ih (t + 1) (by omega) (by omega)
  refine zy_to _ (zN_swap 164 (L' := ((([.inr (7, [.ref (zra G (P.length + 1)), .ref (zra G (P.length + 147)), .ref (zra G (P.length + 164)), .int 0, .int (zI 100), .int (zI 20), .int 0])] : List va_E) ++ A) ++ B ++ [.inl (G.2.1 6, 3, .inr (.inr (.inr (.inr (zfill (fun j => zra G (P.length + (165 + 59 * j))) 0)))))]) ++ zfl F 0) (y := .inl (G.2.1 6, 3, .inr (.inr (.inr (.inr (zfill (fun j => zra G (P.length + (165 + 59 * j))) 0)))))) (by rw [← List.append_nil (_ ++ [_])]; exact zgetA (hH _)) (by rw [← List.append_nil (_ ++ [_])]; exact zsetA (hH _)) (fun H a h => h)) ?_
  exact hL9 4 0 (by omega) (by omega)
theorem c_X7_init (l : Launch) (G : zG) (P : List va_E) : Met l yX7_init [.code yX7_init cX7_init 2 none] (zR 4 341 1443) (zyPc G (P ++ [zb7]) [.ref (zra G P.length)]) (zyQ G (P ++ zL7 G P.length)) 341 1443 (zA G) :=
  zyc7 l G P (zL4 G (P.length + 1)) (zL6 G (P.length + 147)) (fun i => zL5 G (P.length + (165 + 59 * i))) (fun i => [.ref (zra G (P.length + (165 + 59 * i) + 1)), .ref (zra G (P.length + (165 + 59 * i) + 2)), .int 0]) (zL4_len ..) (zL6_len ..) (fun i => zL5_len ..) (fun i => rfl)
    (by have h := c_X4_init l G (P ++ [zb7]); rw [show zL4 G (P ++ [zb7]).length = zL4 G (P.length + 1) by rw [List.length_append]; rfl] at h; exact h)
    (fun L0 h0 => by have h := c_X6_init l G (P ++ L0); rw [show zL6 G (P ++ L0).length = zL6 G (P.length + 147) by rw [List.length_append, h0]] at h; exact h)
    (fun t L0 h0 => by have h := c_X5_init l G (P ++ L0); rw [show zL5 G (P ++ L0).length = zL5 G (P.length + (165 + 59 * t)) by rw [List.length_append, h0]] at h; exact h)
