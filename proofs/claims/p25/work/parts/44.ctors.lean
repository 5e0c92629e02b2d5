def zb0 : va_E := .inr (0, [.null, .null, .null, .int 0, .int 0, .int 0, .int 0])
theorem zdf0 : ∀ j, j < 7 → defaultValue (tyX0 j) = vp_V [.null, .null, .null, .int 0, .int 0, .int 0, .int 0] j := by
  intro j hj
  match j with
  | 0 => rfl
  | 1 => rfl
  | 2 => rfl
  | 3 => rfl
  | 4 => rfl
  | 5 => rfl
  | 6 => rfl
  | (q + 7) => omega
def zb1 : va_E := .inr (1, [.null, .null, .null, .int 0])
theorem zdf1 : ∀ j, j < 4 → defaultValue (tyX1 j) = vp_V [.null, .null, .null, .int 0] j := by
  intro j hj
  match j with
  | 0 => rfl
  | 1 => rfl
  | 2 => rfl
  | 3 => rfl
  | (q + 4) => omega
def zb2 : va_E := .inr (2, [.null, .null, .int 0, .int 0])
theorem zdf2 : ∀ j, j < 4 → defaultValue (tyX2 j) = vp_V [.null, .null, .int 0, .int 0] j := by
  intro j hj
  match j with
  | 0 => rfl
  | 1 => rfl
  | 2 => rfl
  | 3 => rfl
  | (q + 4) => omega
def zb3 : va_E := .inr (3, [.int 0, .int 0])
theorem zdf3 : ∀ j, j < 2 → defaultValue (tyX3 j) = vp_V [.int 0, .int 0] j := by
  intro j hj
  match j with
  | 0 => rfl
  | 1 => rfl
  | (q + 2) => omega
def zb4 : va_E := .inr (4, [.null, .int 0])
theorem zdf4 : ∀ j, j < 2 → defaultValue (tyX4 j) = vp_V [.null, .int 0] j := by
  intro j hj
  match j with
  | 0 => rfl
  | 1 => rfl
  | (q + 2) => omega
def zb5 : va_E := .inr (5, [.null, .null, .int 0])
theorem zdf5 : ∀ j, j < 3 → defaultValue (tyX5 j) = vp_V [.null, .null, .int 0] j := by
  intro j hj
  match j with
  | 0 => rfl
  | 1 => rfl
  | 2 => rfl
  | (q + 3) => omega
def zb6 : va_E := .inr (6, [.null, .null, .null, .null, .int 0])
theorem zdf6 : ∀ j, j < 5 → defaultValue (tyX6 j) = vp_V [.null, .null, .null, .null, .int 0] j := by
  intro j hj
  match j with
  | 0 => rfl
  | 1 => rfl
  | 2 => rfl
  | 3 => rfl
  | 4 => rfl
  | (q + 5) => omega
def zb7 : va_E := .inr (7, [.null, .null, .null, .int 0, .int 0, .int 0, .int 0])
theorem zdf7 : ∀ j, j < 7 → defaultValue (tyX7 j) = vp_V [.null, .null, .null, .int 0, .int 0, .int 0, .int 0] j := by
  intro j hj
  match j with
  | 0 => rfl
  | 1 => rfl
  | 2 => rfl
  | 3 => rfl
  | 4 => rfl
  | 5 => rfl
  | 6 => rfl
  | (q + 7) => omega
def zfl (f : Nat → List va_E) : Nat → List va_E
  | 0 => []
  | t + 1 => zfl f t ++ f t
theorem zfl_len {f : Nat → List va_E} {n : Nat} (h : ∀ i, (f i).length = n) (t : Nat) : (zfl f t).length = n * t := by
  induction t with
  | zero => rfl
  | succ t ih => rw [zfl, List.length_append, ih, h, Nat.mul_succ]
theorem zfl_get {f : Nat → List va_E} {n : Nat} (h : ∀ i, (f i).length = n) (t i r : Nat) (hi : i < t) (hr : r < n) : (zfl f t)[n * i + r]? = (f i)[r]? := by
  induction t with
  | zero => omega
  | succ t ih =>
    rw [zfl]
    have hl := zfl_len h t
    by_cases e : i = t
    · subst e
      rw [List.getElem?_append_right (by omega), hl, Nat.add_sub_cancel_left]
    · have h1 : n * i + n ≤ n * t := by rw [← Nat.mul_succ]; exact Nat.mul_le_mul_left n (by omega)
      rw [List.getElem?_append_left (by omega)]
      exact ih (by omega)
def zfill (w : Nat → Nat) (t : Nat) : Nat → Option Nat := fun j => if j < t then some (w j) else none
theorem zfill_up {w : Nat → Nat} {t a : Nat} (h : a = w t) : va_up (zfill w t) t (some a) = zfill w (t + 1) := by
  subst h
  funext j
  unfold va_up zfill
  by_cases e : j = t
  · subst e
    rw [if_pos rfl, if_pos (by omega)]
  · rw [if_neg e]
    by_cases z : j < t
    · rw [if_pos z, if_pos (by omega)]
    · rw [if_neg z, if_neg (by omega)]
theorem zfill_at {D : va_G} {cl : List vw_C} {a n : Nat} {cA : ClassId} {w : Nat → Nat} {H : Heap} (h : va_at D cl (a, .inl (cA, n, .inr (.inr (.inr (.inr (zfill w n)))))) H) : va_at D cl (a, .inl (cA, n, .inr (.inr (.inr (.inr (fun j => some (w j))))))) H := by
  have h1 : H[a]? = some (vp_cell cA (n, .inr (.inr (.inr (.inr (zfill w n)))))) := h
  show H[a]? = some (vp_cell cA (n, .inr (.inr (.inr (.inr (fun j => some (w j)))))))
  rw [h1, vp_cell_q, vp_cell_q]
  unfold arrV
  congr 2
  congr 1
  funext j
  show va_rf (zfill w n j.val) = _
  unfold zfill
  rw [if_pos j.isLt]
theorem zN_swap {G : zG} {P L L' : List va_E} {x y : va_E} (j : Nat) (hj : L[j]? = some x) (hL : L.set j y = L') (hxy : ∀ (H : Heap) (a : Nat), va_at G.1 vwCl (a, x) H → va_at G.1 vwCl (a, y) H) : ∀ H : Heap, zN G (P ++ L) H → zN G (P ++ L') H :=
  fun H h => zN_put h hj hL rfl (fun _ _ => rfl) (hxy H _ (zN_get h hj))
theorem zget0 {L0 Lc : List va_E} {j : Nat} (h : L0.length = j) : (L0 ++ Lc)[j]? = Lc[0]? := by
  subst h
  rw [List.getElem?_append_right (Nat.le_refl _), Nat.sub_self]
def zAi (G : zG) (n : Nat) : va_E := .inl (G.2.1 0, n, .inl (fun _ => 0))
def zAz (G : zG) (n : Nat) : va_E := .inl (G.2.1 1, n, .inl (fun _ => 0))
def zAq (G : zG) (t n : Nat) (w : Nat → Nat) : va_E := .inl (G.2.1 t, n, .inr (.inr (.inr (.inr (fun j => some (zra G (w j)))))))
def zL3 : List va_E := [.inr (3, [.int 0, .int 0])]
def zL1 (G : zG) (k : Nat) : List va_E := [.inr (1, [.ref (zra G (k + 1)), .ref (zra G (k + 2)), .ref (zra G (k + 3)), .int 0]), zAi G 4, zAi G 4, zAi G 4]
def zL2 (G : zG) (k : Nat) : List va_E := .inr (2, [.ref (zra G (k + 1)), .ref (zra G (k + 2)), .int 1, .int 0]) :: (zL3 ++ zL1 G (k + 2))
def zL0 (G : zG) (k : Nat) : List va_E := .inr (0, [.ref (zra G (k + 1)), .ref (zra G (k + 2)), .ref (zra G (k + 6)), .int (-1), .int 0, .int 0, .int 0]) :: (zL3 ++ (zL1 G (k + 2) ++ [zAi G 4]))
def zL4 (G : zG) (k : Nat) : List va_E := [.inr (4, [.ref (zra G (k + 1)), .int 0]), zAq G 4 24 (fun j => k + (2 + 6 * j))] ++ zfl (fun i => zL2 G (k + (2 + 6 * i))) 24
def zL6 (G : zG) (k : Nat) : List va_E := [.inr (6, [.ref (zra G (k + 1)), .ref (zra G (k + 2)), .ref (zra G (k + 3)), .ref (zra G (k + 4)), .int 0]), zAz G 4, zAi G 4, zAq G 5 12 (fun j => k + (5 + 1 * j)), zAi G 12] ++ zfl (fun _ => zL3) 12
def zL5 (G : zG) (k : Nat) : List va_E := [.inr (5, [.ref (zra G (k + 1)), .ref (zra G (k + 2)), .int 0]), zAq G 3 8 (fun j => k + (3 + 7 * j)), zAz G 32] ++ zfl (fun i => zL0 G (k + (3 + 7 * i))) 8
def zL7h (G : zG) (k : Nat) (x : va_E) : List va_E := ([x] ++ zL4 G (k + 1)) ++ zL6 G (k + 147)
def zL7s (G : zG) (k : Nat) : va_E := .inr (7, [.ref (zra G (k + 1)), .ref (zra G (k + 147)), .ref (zra G (k + 164)), .int 0, .int (zI 100), .int (zI 20), .int 0])
def zL7 (G : zG) (k : Nat) : List va_E := (zL7h G k (zL7s G k) ++ [zAq G 6 3 (fun j => k + (165 + 59 * j))]) ++ zfl (fun i => zL5 G (k + (165 + 59 * i))) 3
theorem zL4_len (G : zG) (k : Nat) : (zL4 G k).length = 146 := by rw [zL4, List.length_append, zfl_len (n := 6) (fun _ => rfl)]; rfl
theorem zL6_len (G : zG) (k : Nat) : (zL6 G k).length = 17 := by rw [zL6, List.length_append, zfl_len (n := 1) (fun _ => rfl)]; rfl
theorem zL5_len (G : zG) (k : Nat) : (zL5 G k).length = 59 := by rw [zL5, List.length_append, zfl_len (n := 7) (fun _ => rfl)]; rfl
theorem zL7h_len (G : zG) (k : Nat) (x : va_E) : (zL7h G k x).length = 164 := by rw [zL7h, List.length_append, List.length_append, zL4_len, zL6_len]; rfl
theorem zgetA {L0 T : List va_E} {a : va_E} {n : Nat} (h : L0.length = n) : ((L0 ++ [a]) ++ T)[n]? = some a := by
  subst h
  rw [List.getElem?_append_left (by rw [List.length_append]; exact Nat.lt_succ_self _), List.getElem?_append_right (Nat.le_refl _), Nat.sub_self]
  rfl
theorem zsetA {L0 T : List va_E} {a b : va_E} {n : Nat} (h : L0.length = n) : ((L0 ++ [a]) ++ T).set n b = (L0 ++ [b]) ++ T := by
  subst h
  rw [List.set_append_left _ _ (by rw [List.length_append]; exact Nat.lt_succ_self _), List.set_append_right _ _ (Nat.le_refl _), Nat.sub_self]
  rfl
set_option maxHeartbeats 4000000 in
set_option maxRecDepth 100000 in
theorem c_X3_init (l : Launch) (G : zG) (P : List va_E) : Met l yX3_init [.code yX3_init cX3_init 1 none] (zR 1 0 0) (zyPc G (P ++ [zb3]) [.ref (zra G P.length)]) (zyQ G (P ++ zL3)) 0 0 (zA G) := by
  refine zy_met [(0, .ref (zra G P.length))] (by decide) rfl (Nat.le_of_ble_eq_true rfl) rfl ?_
  intro p e s m below meth cz C hini hAO
  have C : zC p s m ([.ref (zra G P.length)] : List Value).toArray meth cz G RX3 cX3_init 1 none := C
  refine zy_aload_n C 0 dX3_init_0 rfl 0 rfl ?_
  refine zy_obj C 1 wm_3_3 dX3_init_1 (by decide) (by decide) ?_
  refine zy_aload_n C 4 dX3_init_4 rfl 0 rfl ?_
  refine zy_iconst C 5 dX3_init_5 ?_
  refine zy_put (j := 0) (v := .int (zI 0)) (L' := [.inr (3, [.int 0, .int 0])]) C 6 zcl3 rfl 0 (by decide) wf_3_9 rfl rfl rfl (Nat.le_of_ble_eq_true rfl) rfl dX3_init_6 ?_
  refine zy_aload_n C 9 dX3_init_9 rfl 0 rfl ?_
  refine zy_iconst C 10 dX3_init_10 ?_
  refine zy_put (j := 0) (v := .int (zI 0)) (L' := [.inr (3, [.int 0, .int 0])]) C 11 zcl3 rfl 1 (by decide) wf_3_15 rfl rfl rfl (Nat.le_of_ble_eq_true rfl) rfl dX3_init_11 ?_
  exact zy_ret C 14 dX3_init_14 (by decide) (by decide) (by rfl)
set_option maxHeartbeats 4000000 in
set_option maxRecDepth 100000 in
theorem c_X1_init (l : Launch) (G : zG) (P : List va_E) : Met l yX1_init [.code yX1_init cX1_init 1 none] (zR 1 3 12) (zyPc G (P ++ [zb1]) [.ref (zra G P.length)]) (zyQ G (P ++ zL1 G P.length)) 3 12 (zA G) := by
  refine zy_met [(0, .ref (zra G P.length))] (by decide) rfl (Nat.le_of_ble_eq_true rfl) rfl ?_
  intro p e s m below meth cz C hini hAO
  have C : zC p s m ([.ref (zra G P.length)] : List Value).toArray meth cz G RX1 cX1_init 1 none := C
  refine zy_aload_n C 0 dX1_init_0 rfl 0 rfl ?_
  refine zy_obj C 1 wm_1_3 dX1_init_1 (by decide) (by decide) ?_
  refine zy_aload_n C 4 dX1_init_4 rfl 0 rfl ?_
  refine zy_iconst C 5 dX1_init_5 ?_
  refine zy_newa (at0 := .int) (ty := .int) (t := 0) (j := 1) (n := 4) (a0 := (4, .inl (fun _ => 0))) (L' := [.inr (1, [.null, .null, .null, .int 0]), zAi G 4]) C 6 rfl rfl (fun _ _ h => h) war_int (fun _ => rfl) (by decide) (by decide) rfl (by decide) (by show _ ≤ (3 : Nat); omega) (by show _ ≤ (12 : Nat); omega) rfl rfl dX1_init_6 ?_
  refine zy_cs (k := 1) (n := 4) rfl rfl ?_
  refine zy_putF (j := 0) (v := .ref (zra G (P.length + 1))) (L' := [.inr (1, [.ref (zra G (P.length + 1)), .null, .null, .int 0]), zAi G 4]) C hini 8 zcl1 rfl 0 (by decide) wf_1_9 rfl rfl rfl rfl (Nat.le_of_ble_eq_true rfl) rfl dX1_init_8 ?_
  refine zy_aload_n C 11 dX1_init_11 rfl 0 rfl ?_
  refine zy_iconst C 12 dX1_init_12 ?_
  refine zy_newa (at0 := .int) (ty := .int) (t := 0) (j := 2) (n := 4) (a0 := (4, .inl (fun _ => 0))) (L' := [.inr (1, [.ref (zra G (P.length + 1)), .null, .null, .int 0]), zAi G 4, zAi G 4]) C 13 rfl rfl (fun _ _ h => h) war_int (fun _ => rfl) (by decide) (by decide) rfl (by decide) (by show _ ≤ (3 : Nat); omega) (by show _ ≤ (12 : Nat); omega) rfl rfl dX1_init_13 ?_
  refine zy_cs (k := 2) (n := 8) rfl rfl ?_
  refine zy_putF (j := 0) (v := .ref (zra G (P.length + 2))) (L' := [.inr (1, [.ref (zra G (P.length + 1)), .ref (zra G (P.length + 2)), .null, .int 0]), zAi G 4, zAi G 4]) C hini 15 zcl1 rfl 1 (by decide) wf_1_15 rfl rfl rfl rfl (Nat.le_of_ble_eq_true rfl) rfl dX1_init_15 ?_
  refine zy_aload_n C 18 dX1_init_18 rfl 0 rfl ?_
  refine zy_iconst C 19 dX1_init_19 ?_
  refine zy_newa (at0 := .int) (ty := .int) (t := 0) (j := 3) (n := 4) (a0 := (4, .inl (fun _ => 0))) (L' := [.inr (1, [.ref (zra G (P.length + 1)), .ref (zra G (P.length + 2)), .null, .int 0]), zAi G 4, zAi G 4, zAi G 4]) C 20 rfl rfl (fun _ _ h => h) war_int (fun _ => rfl) (by decide) (by decide) rfl (by decide) (by show _ ≤ (3 : Nat); omega) (by show _ ≤ (12 : Nat); omega) rfl rfl dX1_init_20 ?_
  refine zy_cs (k := 3) (n := 12) rfl rfl ?_
  refine zy_putF (j := 0) (v := .ref (zra G (P.length + 3))) (L' := [.inr (1, [.ref (zra G (P.length + 1)), .ref (zra G (P.length + 2)), .ref (zra G (P.length + 3)), .int 0]), zAi G 4, zAi G 4, zAi G 4]) C hini 22 zcl1 rfl 2 (by decide) wf_1_18 rfl rfl rfl rfl (Nat.le_of_ble_eq_true rfl) rfl dX1_init_22 ?_
  refine zy_aload_n C 25 dX1_init_25 rfl 0 rfl ?_
  refine zy_iconst C 26 dX1_init_26 ?_
  refine zy_put (j := 0) (v := .int (zI 0)) (L' := [.inr (1, [.ref (zra G (P.length + 1)), .ref (zra G (P.length + 2)), .ref (zra G (P.length + 3)), .int 0]), zAi G 4, zAi G 4, zAi G 4]) C 27 zcl1 rfl 3 (by decide) wf_1_21 rfl rfl rfl (Nat.le_of_ble_eq_true rfl) rfl dX1_init_27 ?_
  exact zy_ret C 30 dX1_init_30 (by decide) (by decide) (by rfl)
set_option maxHeartbeats 4000000 in
set_option maxRecDepth 100000 in
theorem c_X2_init (l : Launch) (G : zG) (P : List va_E) : Met l yX2_init [.code yX2_init cX2_init 1 none] (zR 2 5 18) (zyPc G (P ++ [zb2]) [.ref (zra G P.length)]) (zyQ G (P ++ zL2 G P.length)) 5 18 (zA G) := by
  refine zy_met [(0, .ref (zra G P.length))] (by decide) rfl (Nat.le_of_ble_eq_true rfl) rfl ?_
  intro p e s m below meth cz C hini hAO
  have C : zC p s m ([.ref (zra G P.length)] : List Value).toArray meth cz G RX2 cX2_init 1 none := C
  refine zy_aload_n C 0 dX2_init_0 rfl 0 rfl ?_
  refine zy_obj C 1 wm_2_1 dX2_init_1 (by decide) (by decide) ?_
  refine zy_aload_n C 4 dX2_init_4 rfl 0 rfl ?_
  refine zy_new (j := 1) C 5 zcl3 zdf3 wcl_2_7 wnew_3 wini_3 (by show _ ≤ (5 : Nat); omega) (by show _ ≤ (18 : Nat); omega) rfl rfl dX2_init_5 ?_
  refine zy_cs (k := 1) (n := 2) rfl rfl ?_
  refine zy_dup C 8 dX2_init_8 rfl ?_
  refine zy_callN (L0 := [.inr (2, [.null, .null, .int 0, .int 0])]) (j := 1) C hAO 9 (c_X3_init l G (P ++ ([.inr (2, [.null, .null, .int 0, .int 0])]))) wn_2_9 wc_X3_init wini_3 wi_X3_init rfl ⟨by decide, by decide, by decide⟩ ⟨by decide, by decide⟩ (Nat.le_of_ble_eq_true rfl) ⟨(by show _ ≤ (5 : Nat); omega), (by show _ ≤ (18 : Nat); omega)⟩ rfl rfl dX2_init_9 ?_
  refine zy_cs (k := 1) (n := 2) rfl rfl ?_
  refine zy_eq ([.inr (2, [.null, .null, .int 0, .int 0]), .inr (3, [.int 0, .int 0])]) (by first | rfl | (rw [List.length_append]; rfl)) ?_
  refine zy_putF (j := 0) (v := .ref (zra G (P.length + 1))) (L' := [.inr (2, [.ref (zra G (P.length + 1)), .null, .int 0, .int 0]), .inr (3, [.int 0, .int 0])]) C hini 12 zcl2 rfl 0 (by decide) wf_2_10 rfl rfl rfl rfl (Nat.le_of_ble_eq_true rfl) rfl dX2_init_12 ?_
  refine zy_aload_n C 15 dX2_init_15 rfl 0 rfl ?_
  refine zy_new (j := 2) C 16 zcl1 zdf1 wcl_2_16 wnew_1 wini_1 (by show _ ≤ (5 : Nat); omega) (by show _ ≤ (18 : Nat); omega) rfl rfl dX2_init_16 ?_
  refine zy_cs (k := 2) (n := 6) rfl rfl ?_
  refine zy_dup C 19 dX2_init_19 rfl ?_
  refine zy_callN (L0 := [.inr (2, [.ref (zra G (P.length + 1)), .null, .int 0, .int 0]), .inr (3, [.int 0, .int 0])]) (j := 2) C hAO 20 (c_X1_init l G (P ++ ([.inr (2, [.ref (zra G (P.length + 1)), .null, .int 0, .int 0]), .inr (3, [.int 0, .int 0])]))) wn_2_18 wc_X1_init wini_1 wi_X1_init rfl ⟨by decide, by decide, by decide⟩ ⟨by decide, by decide⟩ (Nat.le_of_ble_eq_true rfl) ⟨(by show _ ≤ (5 : Nat); omega), (by show _ ≤ (18 : Nat); omega)⟩ rfl rfl dX2_init_20 ?_
  refine zy_cs (k := 5) (n := 18) rfl rfl ?_
  refine zy_eq ([.inr (2, [.ref (zra G (P.length + 1)), .null, .int 0, .int 0]), .inr (3, [.int 0, .int 0]), .inr (1, [.ref (zra G (P.length + 3)), .ref (zra G (P.length + 4)), .ref (zra G (P.length + 5)), .int 0]), zAi G 4, zAi G 4, zAi G 4]) (by first | rfl | (rw [List.length_append]; rfl)) ?_
  refine zy_putF (j := 0) (v := .ref (zra G (P.length + 2))) (L' := [.inr (2, [.ref (zra G (P.length + 1)), .ref (zra G (P.length + 2)), .int 0, .int 0]), .inr (3, [.int 0, .int 0]), .inr (1, [.ref (zra G (P.length + 3)), .ref (zra G (P.length + 4)), .ref (zra G (P.length + 5)), .int 0]), zAi G 4, zAi G 4, zAi G 4]) C hini 23 zcl2 rfl 1 (by decide) wf_2_19 rfl rfl rfl rfl (Nat.le_of_ble_eq_true rfl) rfl dX2_init_23 ?_
  refine zy_aload_n C 26 dX2_init_26 rfl 0 rfl ?_
  refine zy_iconst C 27 dX2_init_27 ?_
  refine zy_put (j := 0) (v := .int (zI 1)) (L' := [.inr (2, [.ref (zra G (P.length + 1)), .ref (zra G (P.length + 2)), .int (zI 1), .int 0]), .inr (3, [.int 0, .int 0]), .inr (1, [.ref (zra G (P.length + 3)), .ref (zra G (P.length + 4)), .ref (zra G (P.length + 5)), .int 0]), zAi G 4, zAi G 4, zAi G 4]) C 28 zcl2 rfl 2 (by decide) wf_2_23 rfl rfl rfl (Nat.le_of_ble_eq_true rfl) rfl dX2_init_28 ?_
  refine zy_aload_n C 31 dX2_init_31 rfl 0 rfl ?_
  refine zy_iconst C 32 dX2_init_32 ?_
  refine zy_put (j := 0) (v := .int (zI 0)) (L' := [.inr (2, [.ref (zra G (P.length + 1)), .ref (zra G (P.length + 2)), .int (zI 1), .int 0]), .inr (3, [.int 0, .int 0]), .inr (1, [.ref (zra G (P.length + 3)), .ref (zra G (P.length + 4)), .ref (zra G (P.length + 5)), .int 0]), zAi G 4, zAi G 4, zAi G 4]) C 33 zcl2 rfl 3 (by decide) wf_2_27 rfl rfl rfl (Nat.le_of_ble_eq_true rfl) rfl dX2_init_33 ?_
  exact zy_ret C 36 dX2_init_36 (by decide) (by decide) (by rfl)
set_option maxHeartbeats 4000000 in
set_option maxRecDepth 100000 in
theorem c_X0_init (l : Launch) (G : zG) (P : List va_E) : Met l yX0_init [.code yX0_init cX0_init 1 none] (zR 2 6 22) (zyPc G (P ++ [zb0]) [.ref (zra G P.length)]) (zyQ G (P ++ zL0 G P.length)) 6 22 (zA G) := by
  refine zy_met [(0, .ref (zra G P.length))] (by decide) rfl (Nat.le_of_ble_eq_true rfl) rfl ?_
  intro p e s m below meth cz C hini hAO
  have C : zC p s m ([.ref (zra G P.length)] : List Value).toArray meth cz G RX0 cX0_init 1 none := C
  refine zy_aload_n C 0 dX0_init_0 rfl 0 rfl ?_
  refine zy_obj C 1 wm_0_3 dX0_init_1 (by decide) (by decide) ?_
  refine zy_aload_n C 4 dX0_init_4 rfl 0 rfl ?_
  refine zy_new (j := 1) C 5 zcl3 zdf3 wcl_0_9 wnew_3 wini_3 (by show _ ≤ (6 : Nat); omega) (by show _ ≤ (22 : Nat); omega) rfl rfl dX0_init_5 ?_
  refine zy_cs (k := 1) (n := 2) rfl rfl ?_
  refine zy_dup C 8 dX0_init_8 rfl ?_
  refine zy_callN (L0 := [.inr (0, [.null, .null, .null, .int 0, .int 0, .int 0, .int 0])]) (j := 1) C hAO 9 (c_X3_init l G (P ++ ([.inr (0, [.null, .null, .null, .int 0, .int 0, .int 0, .int 0])]))) wn_0_11 wc_X3_init wini_3 wi_X3_init rfl ⟨by decide, by decide, by decide⟩ ⟨by decide, by decide⟩ (Nat.le_of_ble_eq_true rfl) ⟨(by show _ ≤ (6 : Nat); omega), (by show _ ≤ (22 : Nat); omega)⟩ rfl rfl dX0_init_9 ?_
  refine zy_cs (k := 1) (n := 2) rfl rfl ?_
  refine zy_eq ([.inr (0, [.null, .null, .null, .int 0, .int 0, .int 0, .int 0]), .inr (3, [.int 0, .int 0])]) (by first | rfl | (rw [List.length_append]; rfl)) ?_
  refine zy_putF (j := 0) (v := .ref (zra G (P.length + 1))) (L' := [.inr (0, [.ref (zra G (P.length + 1)), .null, .null, .int 0, .int 0, .int 0, .int 0]), .inr (3, [.int 0, .int 0])]) C hini 12 zcl0 rfl 0 (by decide) wf_0_12 rfl rfl rfl rfl (Nat.le_of_ble_eq_true rfl) rfl dX0_init_12 ?_
  refine zy_aload_n C 15 dX0_init_15 rfl 0 rfl ?_
  refine zy_new (j := 2) C 16 zcl1 zdf1 wcl_0_18 wnew_1 wini_1 (by show _ ≤ (6 : Nat); omega) (by show _ ≤ (22 : Nat); omega) rfl rfl dX0_init_16 ?_
  refine zy_cs (k := 2) (n := 6) rfl rfl ?_
  refine zy_dup C 19 dX0_init_19 rfl ?_
  refine zy_callN (L0 := [.inr (0, [.ref (zra G (P.length + 1)), .null, .null, .int 0, .int 0, .int 0, .int 0]), .inr (3, [.int 0, .int 0])]) (j := 2) C hAO 20 (c_X1_init l G (P ++ ([.inr (0, [.ref (zra G (P.length + 1)), .null, .null, .int 0, .int 0, .int 0, .int 0]), .inr (3, [.int 0, .int 0])]))) wn_0_20 wc_X1_init wini_1 wi_X1_init rfl ⟨by decide, by decide, by decide⟩ ⟨by decide, by decide⟩ (Nat.le_of_ble_eq_true rfl) ⟨(by show _ ≤ (6 : Nat); omega), (by show _ ≤ (22 : Nat); omega)⟩ rfl rfl dX0_init_20 ?_
  refine zy_cs (k := 5) (n := 18) rfl rfl ?_
  refine zy_eq ([.inr (0, [.ref (zra G (P.length + 1)), .null, .null, .int 0, .int 0, .int 0, .int 0]), .inr (3, [.int 0, .int 0]), .inr (1, [.ref (zra G (P.length + 3)), .ref (zra G (P.length + 4)), .ref (zra G (P.length + 5)), .int 0]), zAi G 4, zAi G 4, zAi G 4]) (by first | rfl | (rw [List.length_append]; rfl)) ?_
  refine zy_putF (j := 0) (v := .ref (zra G (P.length + 2))) (L' := [.inr (0, [.ref (zra G (P.length + 1)), .ref (zra G (P.length + 2)), .null, .int 0, .int 0, .int 0, .int 0]), .inr (3, [.int 0, .int 0]), .inr (1, [.ref (zra G (P.length + 3)), .ref (zra G (P.length + 4)), .ref (zra G (P.length + 5)), .int 0]), zAi G 4, zAi G 4, zAi G 4]) C hini 23 zcl0 rfl 1 (by decide) wf_0_21 rfl rfl rfl rfl (Nat.le_of_ble_eq_true rfl) rfl dX0_init_23 ?_
  refine zy_aload_n C 26 dX0_init_26 rfl 0 rfl ?_
  refine zy_iconst C 27 dX0_init_27 ?_
  refine zy_newa (at0 := .int) (ty := .int) (t := 0) (j := 6) (n := 4) (a0 := (4, .inl (fun _ => 0))) (L' := [.inr (0, [.ref (zra G (P.length + 1)), .ref (zra G (P.length + 2)), .null, .int 0, .int 0, .int 0, .int 0]), .inr (3, [.int 0, .int 0]), .inr (1, [.ref (zra G (P.length + 3)), .ref (zra G (P.length + 4)), .ref (zra G (P.length + 5)), .int 0]), zAi G 4, zAi G 4, zAi G 4, zAi G 4]) C 28 rfl rfl (fun _ _ h => h) war_int (fun _ => rfl) (by decide) (by decide) rfl (by decide) (by show _ ≤ (6 : Nat); omega) (by show _ ≤ (22 : Nat); omega) rfl rfl dX0_init_28 ?_
  refine zy_cs (k := 6) (n := 22) rfl rfl ?_
  refine zy_putF (j := 0) (v := .ref (zra G (P.length + 6))) (L' := [.inr (0, [.ref (zra G (P.length + 1)), .ref (zra G (P.length + 2)), .ref (zra G (P.length + 6)), .int 0, .int 0, .int 0, .int 0]), .inr (3, [.int 0, .int 0]), .inr (1, [.ref (zra G (P.length + 3)), .ref (zra G (P.length + 4)), .ref (zra G (P.length + 5)), .int 0]), zAi G 4, zAi G 4, zAi G 4, zAi G 4]) C hini 30 zcl0 rfl 2 (by decide) wf_0_25 rfl rfl rfl rfl (Nat.le_of_ble_eq_true rfl) rfl dX0_init_30 ?_
  refine zy_aload_n C 33 dX0_init_33 rfl 0 rfl ?_
  refine zy_iconst C 34 dX0_init_34 ?_
  refine zy_put (j := 0) (v := .int (zI (-1))) (L' := [.inr (0, [.ref (zra G (P.length + 1)), .ref (zra G (P.length + 2)), .ref (zra G (P.length + 6)), .int (zI (-1)), .int 0, .int 0, .int 0]), .inr (3, [.int 0, .int 0]), .inr (1, [.ref (zra G (P.length + 3)), .ref (zra G (P.length + 4)), .ref (zra G (P.length + 5)), .int 0]), zAi G 4, zAi G 4, zAi G 4, zAi G 4]) C 35 zcl0 rfl 3 (by decide) wf_0_29 rfl rfl rfl (Nat.le_of_ble_eq_true rfl) rfl dX0_init_35 ?_
  refine zy_aload_n C 38 dX0_init_38 rfl 0 rfl ?_
  refine zy_iconst C 39 dX0_init_39 ?_
  refine zy_put (j := 0) (v := .int (zI 0)) (L' := [.inr (0, [.ref (zra G (P.length + 1)), .ref (zra G (P.length + 2)), .ref (zra G (P.length + 6)), .int (zI (-1)), .int 0, .int 0, .int 0]), .inr (3, [.int 0, .int 0]), .inr (1, [.ref (zra G (P.length + 3)), .ref (zra G (P.length + 4)), .ref (zra G (P.length + 5)), .int 0]), zAi G 4, zAi G 4, zAi G 4, zAi G 4]) C 40 zcl0 rfl 4 (by decide) wf_0_33 rfl rfl rfl (Nat.le_of_ble_eq_true rfl) rfl dX0_init_40 ?_
  refine zy_aload_n C 43 dX0_init_43 rfl 0 rfl ?_
  refine zy_iconst C 44 dX0_init_44 ?_
  refine zy_put (j := 0) (v := .int (zI 0)) (L' := [.inr (0, [.ref (zra G (P.length + 1)), .ref (zra G (P.length + 2)), .ref (zra G (P.length + 6)), .int (zI (-1)), .int 0, .int 0, .int 0]), .inr (3, [.int 0, .int 0]), .inr (1, [.ref (zra G (P.length + 3)), .ref (zra G (P.length + 4)), .ref (zra G (P.length + 5)), .int 0]), zAi G 4, zAi G 4, zAi G 4, zAi G 4]) C 45 zcl0 rfl 5 (by decide) wf_0_36 rfl rfl rfl (Nat.le_of_ble_eq_true rfl) rfl dX0_init_45 ?_
  refine zy_aload_n C 48 dX0_init_48 rfl 0 rfl ?_
  refine zy_iconst C 49 dX0_init_49 ?_
  refine zy_put (j := 0) (v := .int (zI 0)) (L' := [.inr (0, [.ref (zra G (P.length + 1)), .ref (zra G (P.length + 2)), .ref (zra G (P.length + 6)), .int (zI (-1)), .int 0, .int 0, .int 0]), .inr (3, [.int 0, .int 0]), .inr (1, [.ref (zra G (P.length + 3)), .ref (zra G (P.length + 4)), .ref (zra G (P.length + 5)), .int 0]), zAi G 4, zAi G 4, zAi G 4, zAi G 4]) C 50 zcl0 rfl 6 (by decide) wf_0_39 rfl rfl rfl (Nat.le_of_ble_eq_true rfl) rfl dX0_init_50 ?_
  exact zy_ret C 53 dX0_init_53 (by decide) (by decide) (by rfl)
set_option maxHeartbeats 4000000 in
set_option maxRecDepth 100000 in
theorem c_X4_init (l : Launch) (G : zG) (P : List va_E) : Met l yX4_init [.code yX4_init cX4_init 2 none] (zR 3 145 552) (zyPc G (P ++ [zb4]) [.ref (zra G P.length)]) (zyQ G (P ++ zL4 G P.length)) 145 552 (zA G) := by
  refine zy_met [(0, .ref (zra G P.length))] (by decide) rfl (Nat.le_of_ble_eq_true rfl) rfl ?_
  intro p e s m below meth cz C hini hAO
  have C : zC p s m ([.ref (zra G P.length)] : List Value).toArray meth cz G RX4 cX4_init 2 none := C
  refine zy_aload_n C 0 dX4_init_0 rfl 0 rfl ?_
  refine zy_obj C 1 wm_4_3 dX4_init_1 (by decide) (by decide) ?_
  refine zy_aload_n C 4 dX4_init_4 rfl 0 rfl ?_
  refine zy_bipush C 5 dX4_init_5 (by decide +kernel) ?_
  refine zy_anew (C0 := "LocatorMapper$Mapping") (t := 4) (j := 1) (n := 24) (L' := [.inr (4, [.null, .int 0]), .inl (G.2.1 4, 24, .inr (.inr (.inr (.inr (fun _ => none)))))]) C hAO 7 rfl wcl_4_9 wao_X2 (by decide) (by decide) rfl (by decide) (by show _ ≤ (145 : Nat); omega) (by show _ ≤ (552 : Nat); omega) rfl rfl dX4_init_7 ?_
  refine zy_cs (k := 1) (n := 24) rfl rfl ?_
  refine zy_putF (j := 0) (v := .ref (zra G (P.length + 1))) (L' := [.inr (4, [.ref (zra G (P.length + 1)), .int 0]), .inl (G.2.1 4, 24, .inr (.inr (.inr (.inr (fun _ => none)))))]) C hini 10 zcl4 rfl 0 (by decide) wf_4_11 rfl rfl rfl rfl (Nat.le_of_ble_eq_true rfl) rfl dX4_init_10 ?_
  refine zy_aload_n C 13 dX4_init_13 rfl 0 rfl ?_
  refine zy_iconst C 14 dX4_init_14 ?_
  refine zy_put (j := 0) (v := .int (zI 0)) (L' := [.inr (4, [.ref (zra G (P.length + 1)), .int 0]), .inl (G.2.1 4, 24, .inr (.inr (.inr (.inr (fun _ => none)))))]) C 15 zcl4 rfl 1 (by decide) wf_4_17 rfl rfl rfl (Nat.le_of_ble_eq_true rfl) rfl dX4_init_15 ?_
  refine zy_iconst C 18 dX4_init_18 ?_
  refine zy_istore_n (lv' := [(1, .int (zI 0)), (0, .ref (zra G P.length))]) C 19 dX4_init_19 rfl (by decide) rfl ?_
  have hfl9 : ∀ t : Nat, (zfl (fun i => zL2 G (P.length + (2 + 6 * i))) t).length = 6 * t := zfl_len fun i => rfl
  have hL9 : ∀ (kz t : Nat), t ≤ 24 → 24 - t < kz → zY p l e (zR 3 145 552) s m ([.ref (zra G P.length)] : List Value).toArray below meth cz G 2 (MQ below (zyQ G (P ++ zL4 G P.length)) ([.ref (zra G P.length)] : List Value).toArray s 145 552 (zA G)) P (([.inr (4, [.ref (zra G (P.length + 1)), .int 0]), .inl (G.2.1 4, 24, .inr (.inr (.inr (.inr (zfill (fun j => zra G (P.length + (2 + 6 * j))) t)))))] : List va_E) ++ zfl (fun i => zL2 G (P.length + (2 + 6 * i))) t) (1 + 6 * t) (24 + 22 * t) 20 [(1, .int (zI (t : Int))), (0, .ref (zra G P.length))] [] := by
    intro kz
    induction kz with
    | zero => intro t h1 h2; omega
    | succ kz ih =>
      intro t h1 h2
      have hlen9 : (([.inr (4, [.ref (zra G (P.length + 1)), .int 0]), .inl (G.2.1 4, 24, .inr (.inr (.inr (.inr (zfill (fun j => zra G (P.length + (2 + 6 * j))) t)))))] : List va_E) ++ zfl (fun i => zL2 G (P.length + (2 + 6 * i))) t).length = 2 + 6 * t := by rw [List.length_append, hfl9]; rfl
      refine zy_iload_n C 20 dX4_init_20 rfl 0 rfl ?_
      refine zy_bipush C 21 dX4_init_21 (by decide +kernel) ?_
      refine zy_icmp_ge C 23 45 dX4_init_23 (by decide) (by omega) (by decide) (fun c9 => ?_) (fun c9 => ?_)
      · have ht : t = 24 := by omega
        subst ht
        refine zy_to _ (zN_swap 1 rfl rfl (fun H a h => zfill_at h)) ?_
        exact zy_ret C 45 dX4_init_45 (by decide) (by decide) (by rfl)
      refine zy_aload_n C 26 dX4_init_26 rfl 1 rfl ?_
      refine zy_get (j := 0) C 27 zcl4 rfl 0 (by decide) rfl wf_4_11 dX4_init_27 ?_
      refine zy_iload_n C 30 dX4_init_30 rfl 0 rfl ?_
      refine zy_new (j := 2 + 6 * t) C 31 zcl2 zdf2 wcl_4_9 wnew_2 wini_2 (by show _ ≤ (145 : Nat); omega) (by show _ ≤ (552 : Nat); omega) hlen9 rfl dX4_init_31 ?_
      refine zy_dup C 34 dX4_init_34 rfl ?_
      refine zy_callN (L0 := ([.inr (4, [.ref (zra G (P.length + 1)), .int 0]), .inl (G.2.1 4, 24, .inr (.inr (.inr (.inr (zfill (fun j => zra G (P.length + (2 + 6 * j))) t)))))] : List va_E) ++ zfl (fun i => zL2 G (P.length + (2 + 6 * i))) t) (j := 2 + 6 * t) C hAO 35 (c_X2_init l G (P ++ (([.inr (4, [.ref (zra G (P.length + 1)), .int 0]), .inl (G.2.1 4, 24, .inr (.inr (.inr (.inr (zfill (fun j => zra G (P.length + (2 + 6 * j))) t)))))] : List va_E) ++ zfl (fun i => zL2 G (P.length + (2 + 6 * i))) t))) wn_4_21 wc_X2_init wini_2 wi_X2_init rfl ⟨by decide, by decide, by decide⟩ ⟨by decide, by decide⟩ (Nat.le_of_ble_eq_true rfl) ⟨(by show _ ≤ (145 : Nat); omega), (by show _ ≤ (552 : Nat); omega)⟩ rfl hlen9 dX4_init_35 ?_
      refine zy_eq ((([.inr (4, [.ref (zra G (P.length + 1)), .int 0]), .inl (G.2.1 4, 24, .inr (.inr (.inr (.inr (zfill (fun j => zra G (P.length + (2 + 6 * j))) t)))))] : List va_E) ++ zfl (fun i => zL2 G (P.length + (2 + 6 * i))) t) ++ zL2 G (P.length + (2 + 6 * t))) (by rw [show (P ++ (([.inr (4, [.ref (zra G (P.length + 1)), .int 0]), .inl (G.2.1 4, 24, .inr (.inr (.inr (.inr (zfill (fun j => zra G (P.length + (2 + 6 * j))) t)))))] : List va_E) ++ zfl (fun i => zL2 G (P.length + (2 + 6 * i))) t)).length = P.length + (2 + 6 * t) by rw [List.length_append, hlen9]]) ?_
      refine zy_aast (j := 1) (jv := 2 + 6 * t) (t := 4) (ci := 2) (r := (RX2, TX2, 4)) (vs := [.ref (zra G (P.length + (2 + 6 * t) + 1)), .ref (zra G (P.length + (2 + 6 * t) + 2)), .int 1, .int 0]) (L' := (([.inr (4, [.ref (zra G (P.length + 1)), .int 0]), .inl (G.2.1 4, 24, .inr (.inr (.inr (.inr (zfill (fun j => zra G (P.length + (2 + 6 * j))) (t + 1))))))] : List va_E) ++ zfl (fun i => zL2 G (P.length + (2 + 6 * i))) t) ++ zL2 G (P.length + (2 + 6 * t))) C 38 rfl rfl rfl ((zget0 hlen9).trans rfl) (by omega) (by omega) (by omega) (by rw [show ((t : Int)).toNat = t from rfl, zfill_up (w := fun j => zra G (P.length + (2 + 6 * j))) (t := t) rfl]; rfl) dX4_init_38 ?_
      refine zy_iinc (lv' := [(1, .int (zI ((t : Int) + 1))), (0, .ref (zra G P.length))]) C 39 dX4_init_39 0 rfl (by decide) rfl ?_
      refine zy_goto C 42 20 dX4_init_42 (by decide) ?_
      refine zy_eq (([.inr (4, [.ref (zra G (P.length + 1)), .int 0]), .inl (G.2.1 4, 24, .inr (.inr (.inr (.inr (zfill (fun j => zra G (P.length + (2 + 6 * j))) (t + 1))))))] : List va_E) ++ zfl (fun i => zL2 G (P.length + (2 + 6 * i))) (t + 1)) (List.append_assoc _ _ _) ?_
      refine zy_cs (k := 1 + 6 * (t + 1)) (n := 24 + 22 * (t + 1)) (by omega) (by omega) ?_
      exact ih (t + 1) (by omega) (by omega)
  exact hL9 25 0 (by omega) (by omega)
set_option maxHeartbeats 4000000 in
set_option maxRecDepth 100000 in
theorem c_X6_init (l : Launch) (G : zG) (P : List va_E) : Met l yX6_init [.code yX6_init cX6_init 2 none] (zR 2 16 56) (zyPc G (P ++ [zb6]) [.ref (zra G P.length)]) (zyQ G (P ++ zL6 G P.length)) 16 56 (zA G) := by
  refine zy_met [(0, .ref (zra G P.length))] (by decide) rfl (Nat.le_of_ble_eq_true rfl) rfl ?_
  intro p e s m below meth cz C hini hAO
  have C : zC p s m ([.ref (zra G P.length)] : List Value).toArray meth cz G RX6 cX6_init 2 none := C
  refine zy_aload_n C 0 dX6_init_0 rfl 0 rfl ?_
  refine zy_obj C 1 wm_6_3 dX6_init_1 (by decide) (by decide) ?_
  refine zy_aload_n C 4 dX6_init_4 rfl 0 rfl ?_
  refine zy_iconst C 5 dX6_init_5 ?_
  refine zy_newa (at0 := .boolean) (ty := .boolean) (t := 1) (j := 1) (n := 4) (a0 := (4, .inl (fun _ => 0))) (L' := [.inr (6, [.null, .null, .null, .null, .int 0]), zAz G 4]) C 6 rfl rfl (fun _ _ h => h) war_boolean (fun _ => rfl) (by decide) (by decide) rfl (by decide) (by show _ ≤ (16 : Nat); omega) (by show _ ≤ (56 : Nat); omega) rfl rfl dX6_init_6 ?_
  refine zy_cs (k := 1) (n := 4) rfl rfl ?_
  refine zy_putF (j := 0) (v := .ref (zra G (P.length + 1))) (L' := [.inr (6, [.ref (zra G (P.length + 1)), .null, .null, .null, .int 0]), zAz G 4]) C hini 8 zcl6 rfl 0 (by decide) wf_6_9 rfl rfl rfl rfl (Nat.le_of_ble_eq_true rfl) rfl dX6_init_8 ?_
  refine zy_aload_n C 11 dX6_init_11 rfl 0 rfl ?_
  refine zy_iconst C 12 dX6_init_12 ?_
  refine zy_newa (at0 := .int) (ty := .int) (t := 0) (j := 2) (n := 4) (a0 := (4, .inl (fun _ => 0))) (L' := [.inr (6, [.ref (zra G (P.length + 1)), .null, .null, .null, .int 0]), zAz G 4, zAi G 4]) C 13 rfl rfl (fun _ _ h => h) war_int (fun _ => rfl) (by decide) (by decide) rfl (by decide) (by show _ ≤ (16 : Nat); omega) (by show _ ≤ (56 : Nat); omega) rfl rfl dX6_init_13 ?_
  refine zy_cs (k := 2) (n := 8) rfl rfl ?_
  refine zy_putF (j := 0) (v := .ref (zra G (P.length + 2))) (L' := [.inr (6, [.ref (zra G (P.length + 1)), .ref (zra G (P.length + 2)), .null, .null, .int 0]), zAz G 4, zAi G 4]) C hini 15 zcl6 rfl 1 (by decide) wf_6_15 rfl rfl rfl rfl (Nat.le_of_ble_eq_true rfl) rfl dX6_init_15 ?_
  refine zy_aload_n C 18 dX6_init_18 rfl 0 rfl ?_
  refine zy_bipush C 19 dX6_init_19 (by decide +kernel) ?_
  refine zy_anew (C0 := "LocatorMapper$Prefix") (t := 5) (j := 3) (n := 12) (L' := [.inr (6, [.ref (zra G (P.length + 1)), .ref (zra G (P.length + 2)), .null, .null, .int 0]), zAz G 4, zAi G 4, .inl (G.2.1 5, 12, .inr (.inr (.inr (.inr (fun _ => none)))))]) C hAO 21 rfl wcl_6_19 wao_X3 (by decide) (by decide) rfl (by decide) (by show _ ≤ (16 : Nat); omega) (by show _ ≤ (56 : Nat); omega) rfl rfl dX6_init_21 ?_
  refine zy_cs (k := 3) (n := 20) rfl rfl ?_
  refine zy_putF (j := 0) (v := .ref (zra G (P.length + 3))) (L' := [.inr (6, [.ref (zra G (P.length + 1)), .ref (zra G (P.length + 2)), .ref (zra G (P.length + 3)), .null, .int 0]), zAz G 4, zAi G 4, .inl (G.2.1 5, 12, .inr (.inr (.inr (.inr (fun _ => none)))))]) C hini 24 zcl6 rfl 2 (by decide) wf_6_21 rfl rfl rfl rfl (Nat.le_of_ble_eq_true rfl) rfl dX6_init_24 ?_
  refine zy_aload_n C 27 dX6_init_27 rfl 0 rfl ?_
  refine zy_bipush C 28 dX6_init_28 (by decide +kernel) ?_
  refine zy_newa (at0 := .int) (ty := .int) (t := 0) (j := 4) (n := 12) (a0 := (12, .inl (fun _ => 0))) (L' := [.inr (6, [.ref (zra G (P.length + 1)), .ref (zra G (P.length + 2)), .ref (zra G (P.length + 3)), .null, .int 0]), zAz G 4, zAi G 4, .inl (G.2.1 5, 12, .inr (.inr (.inr (.inr (fun _ => none))))), zAi G 12]) C 30 rfl rfl (fun _ _ h => h) war_int (fun _ => rfl) (by decide) (by decide) rfl (by decide) (by show _ ≤ (16 : Nat); omega) (by show _ ≤ (56 : Nat); omega) rfl rfl dX6_init_30 ?_
  refine zy_cs (k := 4) (n := 32) rfl rfl ?_
  refine zy_putF (j := 0) (v := .ref (zra G (P.length + 4))) (L' := [.inr (6, [.ref (zra G (P.length + 1)), .ref (zra G (P.length + 2)), .ref (zra G (P.length + 3)), .ref (zra G (P.length + 4)), .int 0]), zAz G 4, zAi G 4, .inl (G.2.1 5, 12, .inr (.inr (.inr (.inr (fun _ => none))))), zAi G 12]) C hini 32 zcl6 rfl 3 (by decide) wf_6_25 rfl rfl rfl rfl (Nat.le_of_ble_eq_true rfl) rfl dX6_init_32 ?_
  refine zy_aload_n C 35 dX6_init_35 rfl 0 rfl ?_
  refine zy_iconst C 36 dX6_init_36 ?_
  refine zy_put (j := 0) (v := .int (zI 0)) (L' := [.inr (6, [.ref (zra G (P.length + 1)), .ref (zra G (P.length + 2)), .ref (zra G (P.length + 3)), .ref (zra G (P.length + 4)), .int 0]), zAz G 4, zAi G 4, .inl (G.2.1 5, 12, .inr (.inr (.inr (.inr (fun _ => none))))), zAi G 12]) C 37 zcl6 rfl 4 (by decide) wf_6_28 rfl rfl rfl (Nat.le_of_ble_eq_true rfl) rfl dX6_init_37 ?_
  refine zy_iconst C 40 dX6_init_40 ?_
  refine zy_istore_n (lv' := [(1, .int (zI 0)), (0, .ref (zra G P.length))]) C 41 dX6_init_41 rfl (by decide) rfl ?_
  have hfl9 : ∀ t : Nat, (zfl (fun _ => zL3) t).length = 1 * t := zfl_len fun i => rfl
  have hL9 : ∀ (kz t : Nat), t ≤ 12 → 12 - t < kz → zY p l e (zR 2 16 56) s m ([.ref (zra G P.length)] : List Value).toArray below meth cz G 2 (MQ below (zyQ G (P ++ zL6 G P.length)) ([.ref (zra G P.length)] : List Value).toArray s 16 56 (zA G)) P (([.inr (6, [.ref (zra G (P.length + 1)), .ref (zra G (P.length + 2)), .ref (zra G (P.length + 3)), .ref (zra G (P.length + 4)), .int 0]), zAz G 4, zAi G 4, .inl (G.2.1 5, 12, .inr (.inr (.inr (.inr (zfill (fun j => zra G (P.length + (5 + 1 * j))) t))))), zAi G 12] : List va_E) ++ zfl (fun _ => zL3) t) (4 + 1 * t) (32 + 2 * t) 42 [(1, .int (zI (t : Int))), (0, .ref (zra G P.length))] [] := by
    intro kz
    induction kz with
    | zero => intro t h1 h2; omega
    | succ kz ih =>
      intro t h1 h2
      have hlen9 : (([.inr (6, [.ref (zra G (P.length + 1)), .ref (zra G (P.length + 2)), .ref (zra G (P.length + 3)), .ref (zra G (P.length + 4)), .int 0]), zAz G 4, zAi G 4, .inl (G.2.1 5, 12, .inr (.inr (.inr (.inr (zfill (fun j => zra G (P.length + (5 + 1 * j))) t))))), zAi G 12] : List va_E) ++ zfl (fun _ => zL3) t).length = 5 + 1 * t := by rw [List.length_append, hfl9]; rfl
      refine zy_iload_n C 42 dX6_init_42 rfl 0 rfl ?_
      refine zy_bipush C 43 dX6_init_43 (by decide +kernel) ?_
      refine zy_icmp_ge C 45 67 dX6_init_45 (by decide) (by omega) (by decide) (fun c9 => ?_) (fun c9 => ?_)
      · have ht : t = 12 := by omega
        subst ht
        refine zy_to _ (zN_swap 3 rfl rfl (fun H a h => zfill_at h)) ?_
        exact zy_ret C 67 dX6_init_67 (by decide) (by decide) (by rfl)
      refine zy_aload_n C 48 dX6_init_48 rfl 1 rfl ?_
      refine zy_get (j := 0) C 49 zcl6 rfl 2 (by decide) rfl wf_6_21 dX6_init_49 ?_
      refine zy_iload_n C 52 dX6_init_52 rfl 0 rfl ?_
      refine zy_new (j := 5 + 1 * t) C 53 zcl3 zdf3 wcl_6_19 wnew_3 wini_3 (by show _ ≤ (16 : Nat); omega) (by show _ ≤ (56 : Nat); omega) hlen9 rfl dX6_init_53 ?_
      refine zy_dup C 56 dX6_init_56 rfl ?_
      refine zy_callN (L0 := ([.inr (6, [.ref (zra G (P.length + 1)), .ref (zra G (P.length + 2)), .ref (zra G (P.length + 3)), .ref (zra G (P.length + 4)), .int 0]), zAz G 4, zAi G 4, .inl (G.2.1 5, 12, .inr (.inr (.inr (.inr (zfill (fun j => zra G (P.length + (5 + 1 * j))) t))))), zAi G 12] : List va_E) ++ zfl (fun _ => zL3) t) (j := 5 + 1 * t) C hAO 57 (c_X3_init l G (P ++ (([.inr (6, [.ref (zra G (P.length + 1)), .ref (zra G (P.length + 2)), .ref (zra G (P.length + 3)), .ref (zra G (P.length + 4)), .int 0]), zAz G 4, zAi G 4, .inl (G.2.1 5, 12, .inr (.inr (.inr (.inr (zfill (fun j => zra G (P.length + (5 + 1 * j))) t))))), zAi G 12] : List va_E) ++ zfl (fun _ => zL3) t))) wn_6_32 wc_X3_init wini_3 wi_X3_init rfl ⟨by decide, by decide, by decide⟩ ⟨by decide, by decide⟩ (Nat.le_of_ble_eq_true rfl) ⟨(by show _ ≤ (16 : Nat); omega), (by show _ ≤ (56 : Nat); omega)⟩ rfl hlen9 dX6_init_57 ?_
      refine zy_aast (j := 3) (jv := 5 + 1 * t) (t := 5) (ci := 3) (r := (RX3, TX3, 2)) (vs := [.int 0, .int 0]) (L' := (([.inr (6, [.ref (zra G (P.length + 1)), .ref (zra G (P.length + 2)), .ref (zra G (P.length + 3)), .ref (zra G (P.length + 4)), .int 0]), zAz G 4, zAi G 4, .inl (G.2.1 5, 12, .inr (.inr (.inr (.inr (zfill (fun j => zra G (P.length + (5 + 1 * j))) (t + 1)))))), zAi G 12] : List va_E) ++ zfl (fun _ => zL3) t) ++ zL3) C 60 rfl rfl rfl ((zget0 hlen9).trans rfl) (by omega) (by omega) (by omega) (by rw [show ((t : Int)).toNat = t from rfl, zfill_up (w := fun j => zra G (P.length + (5 + 1 * j))) (t := t) rfl]; rfl) dX6_init_60 ?_
      refine zy_iinc (lv' := [(1, .int (zI ((t : Int) + 1))), (0, .ref (zra G P.length))]) C 61 dX6_init_61 0 rfl (by decide) rfl ?_
      refine zy_goto C 64 42 dX6_init_64 (by decide) ?_
      refine zy_eq (([.inr (6, [.ref (zra G (P.length + 1)), .ref (zra G (P.length + 2)), .ref (zra G (P.length + 3)), .ref (zra G (P.length + 4)), .int 0]), zAz G 4, zAi G 4, .inl (G.2.1 5, 12, .inr (.inr (.inr (.inr (zfill (fun j => zra G (P.length + (5 + 1 * j))) (t + 1)))))), zAi G 12] : List va_E) ++ zfl (fun _ => zL3) (t + 1)) (List.append_assoc _ _ _) ?_
      refine zy_cs (k := 4 + 1 * (t + 1)) (n := 32 + 2 * (t + 1)) (by omega) (by omega) ?_
      exact ih (t + 1) (by omega) (by omega)
  exact hL9 13 0 (by omega) (by omega)
set_option maxHeartbeats 4000000 in
set_option maxRecDepth 100000 in
theorem c_X5_init (l : Launch) (G : zG) (P : List va_E) : Met l yX5_init [.code yX5_init cX5_init 2 none] (zR 3 58 272) (zyPc G (P ++ [zb5]) [.ref (zra G P.length)]) (zyQ G (P ++ zL5 G P.length)) 58 272 (zA G) := by
  refine zy_met [(0, .ref (zra G P.length))] (by decide) rfl (Nat.le_of_ble_eq_true rfl) rfl ?_
  intro p e s m below meth cz C hini hAO
  have C : zC p s m ([.ref (zra G P.length)] : List Value).toArray meth cz G RX5 cX5_init 2 none := C
  refine zy_aload_n C 0 dX5_init_0 rfl 0 rfl ?_
  refine zy_obj C 1 wm_5_3 dX5_init_1 (by decide) (by decide) ?_
  refine zy_aload_n C 4 dX5_init_4 rfl 0 rfl ?_
  refine zy_bipush C 5 dX5_init_5 (by decide +kernel) ?_
  refine zy_anew (C0 := "LocatorMapper$Entry") (t := 3) (j := 1) (n := 8) (L' := [.inr (5, [.null, .null, .int 0]), .inl (G.2.1 3, 8, .inr (.inr (.inr (.inr (fun _ => none)))))]) C hAO 7 rfl wcl_5_9 wao_X0 (by decide) (by decide) rfl (by decide) (by show _ ≤ (58 : Nat); omega) (by show _ ≤ (272 : Nat); omega) rfl rfl dX5_init_7 ?_
  refine zy_cs (k := 1) (n := 8) rfl rfl ?_
  refine zy_putF (j := 0) (v := .ref (zra G (P.length + 1))) (L' := [.inr (5, [.ref (zra G (P.length + 1)), .null, .int 0]), .inl (G.2.1 3, 8, .inr (.inr (.inr (.inr (fun _ => none)))))]) C hini 10 zcl5 rfl 0 (by decide) wf_5_11 rfl rfl rfl rfl (Nat.le_of_ble_eq_true rfl) rfl dX5_init_10 ?_
  refine zy_aload_n C 13 dX5_init_13 rfl 0 rfl ?_
  refine zy_bipush C 14 dX5_init_14 (by decide +kernel) ?_
  refine zy_newa (at0 := .boolean) (ty := .boolean) (t := 1) (j := 2) (n := 32) (a0 := (32, .inl (fun _ => 0))) (L' := [.inr (5, [.ref (zra G (P.length + 1)), .null, .int 0]), .inl (G.2.1 3, 8, .inr (.inr (.inr (.inr (fun _ => none))))), zAz G 32]) C 16 rfl rfl (fun _ _ h => h) war_boolean (fun _ => rfl) (by decide) (by decide) rfl (by decide) (by show _ ≤ (58 : Nat); omega) (by show _ ≤ (272 : Nat); omega) rfl rfl dX5_init_16 ?_
  refine zy_cs (k := 2) (n := 40) rfl rfl ?_
  refine zy_putF (j := 0) (v := .ref (zra G (P.length + 2))) (L' := [.inr (5, [.ref (zra G (P.length + 1)), .ref (zra G (P.length + 2)), .int 0]), .inl (G.2.1 3, 8, .inr (.inr (.inr (.inr (fun _ => none))))), zAz G 32]) C hini 18 zcl5 rfl 1 (by decide) wf_5_17 rfl rfl rfl rfl (Nat.le_of_ble_eq_true rfl) rfl dX5_init_18 ?_
  refine zy_aload_n C 21 dX5_init_21 rfl 0 rfl ?_
  refine zy_iconst C 22 dX5_init_22 ?_
  refine zy_put (j := 0) (v := .int (zI 0)) (L' := [.inr (5, [.ref (zra G (P.length + 1)), .ref (zra G (P.length + 2)), .int 0]), .inl (G.2.1 3, 8, .inr (.inr (.inr (.inr (fun _ => none))))), zAz G 32]) C 23 zcl5 rfl 2 (by decide) wf_5_21 rfl rfl rfl (Nat.le_of_ble_eq_true rfl) rfl dX5_init_23 ?_
  refine zy_iconst C 26 dX5_init_26 ?_
  refine zy_istore_n (lv' := [(1, .int (zI 0)), (0, .ref (zra G P.length))]) C 27 dX5_init_27 rfl (by decide) rfl ?_
  have hfl9 : ∀ t : Nat, (zfl (fun i => zL0 G (P.length + (3 + 7 * i))) t).length = 7 * t := zfl_len fun i => rfl
  have hL9 : ∀ (kz t : Nat), t ≤ 8 → 8 - t < kz → zY p l e (zR 3 58 272) s m ([.ref (zra G P.length)] : List Value).toArray below meth cz G 2 (MQ below (zyQ G (P ++ zL5 G P.length)) ([.ref (zra G P.length)] : List Value).toArray s 58 272 (zA G)) P (([.inr (5, [.ref (zra G (P.length + 1)), .ref (zra G (P.length + 2)), .int 0]), .inl (G.2.1 3, 8, .inr (.inr (.inr (.inr (zfill (fun j => zra G (P.length + (3 + 7 * j))) t))))), zAz G 32] : List va_E) ++ zfl (fun i => zL0 G (P.length + (3 + 7 * i))) t) (2 + 7 * t) (40 + 29 * t) 28 [(1, .int (zI (t : Int))), (0, .ref (zra G P.length))] [] := by
    intro kz
    induction kz with
    | zero => intro t h1 h2; omega
    | succ kz ih =>
      intro t h1 h2
      have hlen9 : (([.inr (5, [.ref (zra G (P.length + 1)), .ref (zra G (P.length + 2)), .int 0]), .inl (G.2.1 3, 8, .inr (.inr (.inr (.inr (zfill (fun j => zra G (P.length + (3 + 7 * j))) t))))), zAz G 32] : List va_E) ++ zfl (fun i => zL0 G (P.length + (3 + 7 * i))) t).length = 3 + 7 * t := by rw [List.length_append, hfl9]; rfl
      refine zy_iload_n C 28 dX5_init_28 rfl 0 rfl ?_
      refine zy_bipush C 29 dX5_init_29 (by decide +kernel) ?_
      refine zy_icmp_ge C 31 53 dX5_init_31 (by decide) (by omega) (by decide) (fun c9 => ?_) (fun c9 => ?_)
      · have ht : t = 8 := by omega
        subst ht
        refine zy_to _ (zN_swap 1 rfl rfl (fun H a h => zfill_at h)) ?_
        exact zy_ret C 53 dX5_init_53 (by decide) (by decide) (by rfl)
      refine zy_aload_n C 34 dX5_init_34 rfl 1 rfl ?_
      refine zy_get (j := 0) C 35 zcl5 rfl 0 (by decide) rfl wf_5_11 dX5_init_35 ?_
      refine zy_iload_n C 38 dX5_init_38 rfl 0 rfl ?_
      refine zy_new (j := 3 + 7 * t) C 39 zcl0 zdf0 wcl_5_9 wnew_0 wini_0 (by show _ ≤ (58 : Nat); omega) (by show _ ≤ (272 : Nat); omega) hlen9 rfl dX5_init_39 ?_
      refine zy_dup C 42 dX5_init_42 rfl ?_
      refine zy_callN (L0 := ([.inr (5, [.ref (zra G (P.length + 1)), .ref (zra G (P.length + 2)), .int 0]), .inl (G.2.1 3, 8, .inr (.inr (.inr (.inr (zfill (fun j => zra G (P.length + (3 + 7 * j))) t))))), zAz G 32] : List va_E) ++ zfl (fun i => zL0 G (P.length + (3 + 7 * i))) t) (j := 3 + 7 * t) C hAO 43 (c_X0_init l G (P ++ (([.inr (5, [.ref (zra G (P.length + 1)), .ref (zra G (P.length + 2)), .int 0]), .inl (G.2.1 3, 8, .inr (.inr (.inr (.inr (zfill (fun j => zra G (P.length + (3 + 7 * j))) t))))), zAz G 32] : List va_E) ++ zfl (fun i => zL0 G (P.length + (3 + 7 * i))) t))) wn_5_25 wc_X0_init wini_0 wi_X0_init rfl ⟨by decide, by decide, by decide⟩ ⟨by decide, by decide⟩ (Nat.le_of_ble_eq_true rfl) ⟨(by show _ ≤ (58 : Nat); omega), (by show _ ≤ (272 : Nat); omega)⟩ rfl hlen9 dX5_init_43 ?_
      refine zy_eq ((([.inr (5, [.ref (zra G (P.length + 1)), .ref (zra G (P.length + 2)), .int 0]), .inl (G.2.1 3, 8, .inr (.inr (.inr (.inr (zfill (fun j => zra G (P.length + (3 + 7 * j))) t))))), zAz G 32] : List va_E) ++ zfl (fun i => zL0 G (P.length + (3 + 7 * i))) t) ++ zL0 G (P.length + (3 + 7 * t))) (by rw [show (P ++ (([.inr (5, [.ref (zra G (P.length + 1)), .ref (zra G (P.length + 2)), .int 0]), .inl (G.2.1 3, 8, .inr (.inr (.inr (.inr (zfill (fun j => zra G (P.length + (3 + 7 * j))) t))))), zAz G 32] : List va_E) ++ zfl (fun i => zL0 G (P.length + (3 + 7 * i))) t)).length = P.length + (3 + 7 * t) by rw [List.length_append, hlen9]]) ?_
      refine zy_aast (j := 1) (jv := 3 + 7 * t) (t := 3) (ci := 0) (r := (RX0, TX0, 7)) (vs := [.ref (zra G (P.length + (3 + 7 * t) + 1)), .ref (zra G (P.length + (3 + 7 * t) + 2)), .ref (zra G (P.length + (3 + 7 * t) + 6)), .int (-1), .int 0, .int 0, .int 0]) (L' := (([.inr (5, [.ref (zra G (P.length + 1)), .ref (zra G (P.length + 2)), .int 0]), .inl (G.2.1 3, 8, .inr (.inr (.inr (.inr (zfill (fun j => zra G (P.length + (3 + 7 * j))) (t + 1)))))), zAz G 32] : List va_E) ++ zfl (fun i => zL0 G (P.length + (3 + 7 * i))) t) ++ zL0 G (P.length + (3 + 7 * t))) C 46 rfl rfl rfl ((zget0 hlen9).trans rfl) (by omega) (by omega) (by omega) (by rw [show ((t : Int)).toNat = t from rfl, zfill_up (w := fun j => zra G (P.length + (3 + 7 * j))) (t := t) rfl]; rfl) dX5_init_46 ?_
      refine zy_iinc (lv' := [(1, .int (zI ((t : Int) + 1))), (0, .ref (zra G P.length))]) C 47 dX5_init_47 0 rfl (by decide) rfl ?_
      refine zy_goto C 50 28 dX5_init_50 (by decide) ?_
      refine zy_eq (([.inr (5, [.ref (zra G (P.length + 1)), .ref (zra G (P.length + 2)), .int 0]), .inl (G.2.1 3, 8, .inr (.inr (.inr (.inr (zfill (fun j => zra G (P.length + (3 + 7 * j))) (t + 1)))))), zAz G 32] : List va_E) ++ zfl (fun i => zL0 G (P.length + (3 + 7 * i))) (t + 1)) (List.append_assoc _ _ _) ?_
      refine zy_cs (k := 2 + 7 * (t + 1)) (n := 40 + 29 * (t + 1)) (by omega) (by omega) ?_
      exact ih (t + 1) (by omega) (by omega)
  exact hL9 9 0 (by omega) (by omega)
