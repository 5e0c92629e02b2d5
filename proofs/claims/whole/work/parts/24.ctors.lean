def zb0 : va_E := .inr (0, [.null, .null, .null, .int 0, .int 0, .int 0, .int 0])
theorem zdf0 : ∀ j, j < 7 → defaultValue (tyX0 j) = vp_V [.null, .null, .null, .int 0, .int 0, .int 0, .int 0] j := by
  intro j hj
  match j with
  | 0 => rfl
  | 1 => rfl
  | 2 => rfl
  | 3 => rfl
  | 4 => rfl
  | 5 => rfl
  | 6 => rfl
  | (q + 7) => omega
def zb1 : va_E := .inr (1, [.null, .null, .null, .int 0])
theorem zdf1 : ∀ j, j < 4 → defaultValue (tyX1 j) = vp_V [.null, .null, .null, .int 0] j := by
  intro j hj
  match j with
  | 0 => rfl
  | 1 => rfl
  | 2 => rfl
  | 3 => rfl
  | (q + 4) => omega
def zb2 : va_E := .inr (2, [.null, .null, .int 0, .int 0])
theorem zdf2 : ∀ j, j < 4 → defaultValue (tyX2 j) = vp_V [.null, .null, .int 0, .int 0] j := by
  intro j hj
  match j with
  | 0 => rfl
  | 1 => rfl
  | 2 => rfl
  | 3 => rfl
  | (q + 4) => omega
def zb3 : va_E := .inr (3, [.int 0, .int 0])
theorem zdf3 : ∀ j, j < 2 → defaultValue (tyX3 j) = vp_V [.int 0, .int 0] j := by
  intro j hj
  match j with
  | 0 => rfl
  | 1 => rfl
  | (q + 2) => omega
def zb4 : va_E := .inr (4, [.null, .int 0])
theorem zdf4 : ∀ j, j < 2 → defaultValue (tyX4 j) = vp_V [.null, .int 0] j := by
  intro j hj
  match j with
  | 0 => rfl
  | 1 => rfl
  | (q + 2) => omega
def zb5 : va_E := .inr (5, [.null, .null, .int 0])
theorem zdf5 : ∀ j, j < 3 → defaultValue (tyX5 j) = vp_V [.null, .null, .int 0] j := by
  intro j hj
  match j with
  | 0 => rfl
  | 1 => rfl
  | 2 => rfl
  | (q + 3) => omega
def zb6 : va_E := .inr (6, [.null, .null, .null, .null, .int 0])
theorem zdf6 : ∀ j, j < 5 → defaultValue (tyX6 j) = vp_V [.null, .null, .null, .null, .int 0] j := by
  intro j hj
  match j with
  | 0 => rfl
  | 1 => rfl
  | 2 => rfl
  | 3 => rfl
  | 4 => rfl
  | (q + 5) => omega
def zb7 : va_E := .inr (7, [.null, .null, .null, .int 0, .int 0, .int 0, .int 0])
theorem zdf7 : ∀ j, j < 7 → defaultValue (tyX7 j) = vp_V [.null, .null, .null, .int 0, .int 0, .int 0, .int 0] j := by
  intro j hj
  match j with
  | 0 => rfl
  | 1 => rfl
  | 2 => rfl
  | 3 => rfl
  | 4 => rfl
  | 5 => rfl
  | 6 => rfl
  | (q + 7) => omega
def zb8 : va_E := .inr (8, [.int 0, .int 0, .int 0, .int 0, .int 0, .null, .null, .null, .null, .null, .null, .null, .null, .int 0, .null, .null, .null, .null, .null, .null, .null, .int 0, .null, .null, .null, .null, .null, .null, .null, .null, .null, .null, .null, .null, .int 0])
theorem zdf8 : ∀ j, j < 35 → defaultValue (tyX8 j) = vp_V [.int 0, .int 0, .int 0, .int 0, .int 0, .null, .null, .null, .null, .null, .null, .null, .null, .int 0, .null, .null, .null, .null, .null, .null, .null, .int 0, .null, .null, .null, .null, .null, .null, .null, .null, .null, .null, .null, .null, .int 0] j := by
  intro j hj
  match j with
  | 0 => rfl
  | 1 => rfl
  | 2 => rfl
  | 3 => rfl
  | 4 => rfl
  | 5 => rfl
  | 6 => rfl
  | 7 => rfl
  | 8 => rfl
  | 9 => rfl
  | 10 => rfl
  | 11 => rfl
  | 12 => rfl
  | 13 => rfl
  | 14 => rfl
  | 15 => rfl
  | 16 => rfl
  | 17 => rfl
  | 18 => rfl
  | 19 => rfl
  | 20 => rfl
  | 21 => rfl
  | 22 => rfl
  | 23 => rfl
  | 24 => rfl
  | 25 => rfl
  | 26 => rfl
  | 27 => rfl
  | 28 => rfl
  | 29 => rfl
  | 30 => rfl
  | 31 => rfl
  | 32 => rfl
  | 33 => rfl
  | 34 => rfl
  | (q + 35) => omega
def zfl (f : Nat → List va_E) : Nat → List va_E
  | 0 => []
  | t + 1 => zfl f t ++ f t
theorem zfl_len {f : Nat → List va_E} {n : Nat} (h : ∀ i, (f i).length = n) (t : Nat) : (zfl f t).length = n * t := by
  induction t with
  | zero => rfl
  | succ t ih => rw [zfl, List.length_append, ih, h, Nat.mul_succ]
theorem zfl_get {f : Nat → List va_E} {n : Nat} (h : ∀ i, (f i).length = n) (t i r : Nat) (hi : i < t) (hr : r < n) : (zfl f t)[n * i + r]? = (f i)[r]? := by
  induction t with
  | zero => omega
  | succ t ih =>
    rw [zfl]
    have hl := zfl_len h t
    by_cases e : i = t
    · subst e
      rw [List.getElem?_append_right (by omega), hl, Nat.add_sub_cancel_left]
    · have h1 : n * i + n ≤ n * t := by rw [← Nat.mul_succ]; exact Nat.mul_le_mul_left n (by omega)
      rw [List.getElem?_append_left (by omega)]
      exact ih (by omega)
def zfill (w : Nat → Nat) (t : Nat) : Nat → Option Nat := fun j => if j < t then some (w j) else none
theorem zfill_up {w : Nat → Nat} {t a : Nat} (h : a = w t) : va_up (zfill w t) t (some a) = zfill w (t + 1) := by
  subst h
  funext j
  unfold va_up zfill
  by_cases e : j = t
  · subst e
    rw [if_pos rfl, if_pos (by omega)]
  · rw [if_neg e]
    by_cases z : j < t
    · rw [if_pos z, if_pos (by omega)]
    · rw [if_neg z, if_neg (by omega)]
theorem zfill_at {D : va_G} {cl : List vw_C} {a n : Nat} {cA : ClassId} {w : Nat → Nat} {H : Heap} (h : va_at D cl (a, .inl (cA, n, .inr (.inr (.inr (.inr (zfill w n)))))) H) : va_at D cl (a, .inl (cA, n, .inr (.inr (.inr (.inr (fun j => some (w j))))))) H := by
  have h1 : H[a]? = some (vp_cell cA (n, .inr (.inr (.inr (.inr (zfill w n)))))) := h
  show H[a]? = some (vp_cell cA (n, .inr (.inr (.inr (.inr (fun j => some (w j)))))))
  rw [h1, vp_cell_q, vp_cell_q]
  unfold arrV
  congr 2
  congr 1
  funext j
  show va_rf (zfill w n j.val) = _
  unfold zfill
  rw [if_pos j.isLt]
theorem zN_swap {G : zG} {P L L' : List va_E} {x y : va_E} (j : Nat) (hj : L[j]? = some x) (hL : L.set j y = L') (hxy : ∀ (H : Heap) (a : Nat), va_at G.1 vwCl (a, x) H → va_at G.1 vwCl (a, y) H) : ∀ H : Heap, zN G (P ++ L) H → zN G (P ++ L') H :=
  fun H h => zN_put h hj hL rfl (fun _ _ => rfl) (hxy H _ (zN_get h hj))
theorem zget0 {L0 Lc : List va_E} {j : Nat} (h : L0.length = j) : (L0 ++ Lc)[j]? = Lc[0]? := by
  subst h
  rw [List.getElem?_append_right (Nat.le_refl _), Nat.sub_self]
def zAi (G : zG) (n : Nat) : va_E := .inl (G.2.1 0, n, .inl (fun _ => 0))
def zAz (G : zG) (n : Nat) : va_E := .inl (G.2.1 1, n, .inl (fun _ => 0))
def zAq (G : zG) (t n : Nat) (w : Nat → Nat) : va_E := .inl (G.2.1 t, n, .inr (.inr (.inr (.inr (fun j => some (zra G (w j)))))))
def zL3 : List va_E := [.inr (3, [.int 0, .int 0])]
def zL1 (G : zG) (k : Nat) : List va_E := [.inr (1, [.ref (zra G (k + 1)), .ref (zra G (k + 2)), .ref (zra G (k + 3)), .int 0]), zAi G 4, zAi G 4, zAi G 4]
def zL2 (G : zG) (k : Nat) : List va_E := .inr (2, [.ref (zra G (k + 1)), .ref (zra G (k + 2)), .int 1, .int 0]) :: (zL3 ++ zL1 G (k + 2))
def zL0 (G : zG) (k : Nat) : List va_E := .inr (0, [.ref (zra G (k + 1)), .ref (zra G (k + 2)), .ref (zra G (k + 6)), .int (-1), .int 0, .int 0, .int 0]) :: (zL3 ++ (zL1 G (k + 2) ++ [zAi G 4]))
def zL4 (G : zG) (k : Nat) : List va_E := [.inr (4, [.ref (zra G (k + 1)), .int 0]), zAq G 4 24 (fun j => k + (2 + 6 * j))] ++ zfl (fun i => zL2 G (k + (2 + 6 * i))) 24
def zL6 (G : zG) (k : Nat) : List va_E := [.inr (6, [.ref (zra G (k + 1)), .ref (zra G (k + 2)), .ref (zra G (k + 3)), .ref (zra G (k + 4)), .int 0]), zAz G 4, zAi G 4, zAq G 5 12 (fun j => k + (5 + 1 * j)), zAi G 12] ++ zfl (fun _ => zL3) 12
def zL5 (G : zG) (k : Nat) : List va_E := [.inr (5, [.ref (zra G (k + 1)), .ref (zra G (k + 2)), .int 0]), zAq G 3 8 (fun j => k + (3 + 7 * j)), zAz G 32] ++ zfl (fun i => zL0 G (k + (3 + 7 * i))) 8
def zL7h (G : zG) (k : Nat) (x : va_E) : List va_E := ([x] ++ zL4 G (k + 1)) ++ zL6 G (k + 147)
def zL7s (G : zG) (k : Nat) : va_E := .inr (7, [.ref (zra G (k + 1)), .ref (zra G (k + 147)), .ref (zra G (k + 164)), .int 0, .int (zI 100), .int (zI 20), .int 0])
def zL7 (G : zG) (k : Nat) : List va_E := (zL7h G k (zL7s G k) ++ [zAq G 6 3 (fun j => k + (165 + 59 * j))]) ++ zfl (fun i => zL5 G (k + (165 + 59 * i))) 3
theorem zL4_len (G : zG) (k : Nat) : (zL4 G k).length = 146 := by rw [zL4, List.length_append, zfl_len (n := 6) (fun _ => rfl)]; rfl
theorem zL6_len (G : zG) (k : Nat) : (zL6 G k).length = 17 := by rw [zL6, List.length_append, zfl_len (n := 1) (fun _ => rfl)]; rfl
theorem zL5_len (G : zG) (k : Nat) : (zL5 G k).length = 59 := by rw [zL5, List.length_append, zfl_len (n := 7) (fun _ => rfl)]; rfl
theorem zL7h_len (G : zG) (k : Nat) (x : va_E) : (zL7h G k x).length = 164 := by rw [zL7h, List.length_append, List.length_append, zL4_len, zL6_len]; rfl
theorem zgetA {L0 T : List va_E} {a : va_E} {n : Nat} (h : L0.length = n) : ((L0 ++ [a]) ++ T)[n]? = some a := by
  subst h
  rw [List.getElem?_append_left (by rw [List.length_append]; exact Nat.lt_succ_self _), List.getElem?_append_right (Nat.le_refl _), Nat.sub_self]
  rfl
theorem zsetA {L0 T : List va_E} {a b : va_E} {n : Nat} (h : L0.length = n) : ((L0 ++ [a]) ++ T).set n b = (L0 ++ [b]) ++ T := by
  subst h
  rw [List.set_append_left _ _ (by rw [List.length_append]; exact Nat.lt_succ_self _), List.set_append_right _ _ (Nat.le_refl _), Nat.sub_self]
  rfl
set_option maxHeartbeats 4000000 in
set_option maxRecDepth 100000 in
theorem c_X3_init (l : Launch) (G : zG) (P : List va_E) : Met l yX3_init [.code yX3_init cX3_init 1 none] (zR 1 0 0) (zyPc G (P ++ [zb3]) [.ref (zra G P.length)]) (zyQ G (P ++ zL3)) 0 0 (zA G) := by
  refine zy_met [(0, .ref (zra G P.length))] (by decide) rfl (Nat.le_of_ble_eq_true rfl) rfl ?_
  intro p e s m below meth cz C hini hAO
  have C : zC p s m ([.ref (zra G P.length)] : List Value).toArray meth cz G RX3 cX3_init 1 none := C
  refine zy_aload_n C 0 dX3_init_0 rfl 0 rfl ?_
  refine zy_obj C 1 wm_3_3 dX3_init_1 (by decide) (by decide) ?_
  refine zy_aload_n C 4 dX3_init_4 rfl 0 rfl ?_
  refine zy_iconst C 5 dX3_init_5 ?_
  refine zy_put (j := 0) (v := .int (zI 0)) (L' := [.inr (3, [.int 0, .int 0])]) C 6 zcl3 rfl 0 (by decide) wf_3_9 rfl rfl rfl (Nat.le_of_ble_eq_true rfl) rfl dX3_init_6 ?_
  refine zy_aload_n C 9 dX3_init_9 rfl 0 rfl ?_
  refine zy_iconst C 10 dX3_init_10 ?_
  refine zy_put (j := 0) (v := .int (zI 0)) (L' := [.inr (3, [.int 0, .int 0])]) C 11 zcl3 rfl 1 (by decide) wf_3_15 rfl rfl rfl (Nat.le_of_ble_eq_true rfl) rfl dX3_init_11 ?_
  exact zy_ret C 14 dX3_init_14 (by decide) (by decide) (by rfl)
set_option maxHeartbeats 4000000 in
set_option maxRecDepth 100000 in
theorem c_X1_init (l : Launch) (G : zG) (P : List va_E) : Met l yX1_init [.code yX1_init cX1_init 1 none] (zR 1 3 12) (zyPc G (P ++ [zb1]) [.ref (zra G P.length)]) (zyQ G (P ++ zL1 G P.length)) 3 12 (zA G) := by
  refine zy_met [(0, .ref (zra G P.length))] (by decide) rfl (Nat.le_of_ble_eq_true rfl) rfl ?_
  intro p e s m below meth cz C hini hAO
  have C : zC p s m ([.ref (zra G P.length)] : List Value).toArray meth cz G RX1 cX1_init 1 none := C
  refine zy_aload_n C 0 dX1_init_0 rfl 0 rfl ?_
  refine zy_obj C 1 wm_1_3 dX1_init_1 (by decide) (by decide) ?_
  refine zy_aload_n C 4 dX1_init_4 rfl 0 rfl ?_
  refine zy_iconst C 5 dX1_init_5 ?_
  refine zy_newa (at0 := .int) (ty := .int) (t := 0) (j := 1) (n := 4) (a0 := (4, .inl (fun _ => 0))) (L' := [.inr (1, [.null, .null, .null, .int 0]), zAi G 4]) C 6 rfl rfl (fun _ _ h => h) war_int (fun _ => rfl) (by decide) (by decide) rfl (by decide) (by show _ ≤ (3 : Nat); omega) (by show _ ≤ (12 : Nat); omega) rfl rfl dX1_init_6 ?_
  refine zy_cs (k := 1) (n := 4) rfl rfl ?_
  refine zy_putF (j := 0) (v := .ref (zra G (P.length + 1))) (L' := [.inr (1, [.ref (zra G (P.length + 1)), .null, .null, .int 0]), zAi G 4]) C hini 8 zcl1 rfl 0 (by decide) wf_1_9 rfl rfl rfl rfl (Nat.le_of_ble_eq_true rfl) rfl dX1_init_8 ?_
  refine zy_aload_n C 11 dX1_init_11 rfl 0 rfl ?_
  refine zy_iconst C 12 dX1_init_12 ?_
  refine zy_newa (at0 := .int) (ty := .int) (t := 0) (j := 2) (n := 4) (a0 := (4, .inl (fun _ => 0))) (L' := [.inr (1, [.ref (zra G (P.length + 1)), .null, .null, .int 0]), zAi G 4, zAi G 4]) C 13 rfl rfl (fun _ _ h => h) war_int (fun _ => rfl) (by decide) (by decide) rfl (by decide) (by show _ ≤ (3 : Nat); omega) (by show _ ≤ (12 : Nat); omega) rfl rfl dX1_init_13 ?_
  refine zy_cs (k := 2) (n := 8) rfl rfl ?_
  refine zy_putF (j := 0) (v := .ref (zra G (P.length + 2))) (L' := [.inr (1, [.ref (zra G (P.length + 1)), .ref (zra G (P.length + 2)), .null, .int 0]), zAi G 4, zAi G 4]) C hini 15 zcl1 rfl 1 (by decide) wf_1_15 rfl rfl rfl rfl (Nat.le_of_ble_eq_true rfl) rfl dX1_init_15 ?_
  refine zy_aload_n C 18 dX1_init_18 rfl 0 rfl ?_
  refine zy_iconst C 19 dX1_init_19 ?_
  refine zy_newa (at0 := .int) (ty := .int) (t := 0) (j := 3) (n := 4) (a0 := (4, .inl (fun _ => 0))) (L' := [.inr (1, [.ref (zra G (P.length + 1)), .ref (zra G (P.length + 2)), .null, .int 0]), zAi G 4, zAi G 4, zAi G 4]) C 20 rfl rfl (fun _ _ h => h) war_int (fun _ => rfl) (by decide) (by decide) rfl (by decide) (by show _ ≤ (3 : Nat); omega) (by show _ ≤ (12 : Nat); omega) rfl rfl dX1_init_20 ?_
  refine zy_cs (k := 3) (n := 12) rfl rfl ?_
  refine zy_putF (j := 0) (v := .ref (zra G (P.length + 3))) (L' := [.inr (1, [.ref (zra G (P.length + 1)), .ref (zra G (P.length + 2)), .ref (zra G (P.length + 3)), .int 0]), zAi G 4, zAi G 4, zAi G 4]) C hini 22 zcl1 rfl 2 (by decide) wf_1_18 rfl rfl rfl rfl (Nat.le_of_ble_eq_true rfl) rfl dX1_init_22 ?_
  refine zy_aload_n C 25 dX1_init_25 rfl 0 rfl ?_
  refine zy_iconst C 26 dX1_init_26 ?_
  refine zy_put (j := 0) (v := .int (zI 0)) (L' := [.inr (1, [.ref (zra G (P.length + 1)), .ref (zra G (P.length + 2)), .ref (zra G (P.length + 3)), .int 0]), zAi G 4, zAi G 4, zAi G 4]) C 27 zcl1 rfl 3 (by decide) wf_1_21 rfl rfl rfl (Nat.le_of_ble_eq_true rfl) rfl dX1_init_27 ?_
  exact zy_ret C 30 dX1_init_30 (by decide) (by decide) (by rfl)
set_option maxHeartbeats 4000000 in
set_option maxRecDepth 100000 in
theorem c_X2_init (l : Launch) (G : zG) (P : List va_E) : Met l yX2_init [.code yX2_init cX2_init 1 none] (zR 2 5 18) (zyPc G (P ++ [zb2]) [.ref (zra G P.length)]) (zyQ G (P ++ zL2 G P.length)) 5 18 (zA G) := by
  refine zy_met [(0, .ref (zra G P.length))] (by decide) rfl (Nat.le_of_ble_eq_true rfl) rfl ?_
  intro p e s m below meth cz C hini hAO
  have C : zC p s m ([.ref (zra G P.length)] : List Value).toArray meth cz G RX2 cX2_init 1 none := C
  refine zy_aload_n C 0 dX2_init_0 rfl 0 rfl ?_
  refine zy_obj C 1 wm_2_1 dX2_init_1 (by decide) (by decide) ?_
  refine zy_aload_n C 4 dX2_init_4 rfl 0 rfl ?_
  refine zy_new (j := 1) C 5 zcl3 zdf3 wcl_2_7 wnew_3 wini_3 (by show _ ≤ (5 : Nat); omega) (by show _ ≤ (18 : Nat); omega) rfl rfl dX2_init_5 ?_
  refine zy_cs (k := 1) (n := 2) rfl rfl ?_
  refine zy_dup C 8 dX2_init_8 rfl ?_
  refine zy_callN (L0 := [.inr (2, [.null, .null, .int 0, .int 0])]) (j := 1) C hAO 9 (c_X3_init l G (P ++ ([.inr (2, [.null, .null, .int 0, .int 0])]))) wn_2_9 wc_X3_init wini_3 wi_X3_init rfl ⟨by decide, by decide, by decide⟩ ⟨by decide, by decide⟩ (Nat.le_of_ble_eq_true rfl) ⟨(by show _ ≤ (5 : Nat); omega), (by show _ ≤ (18 : Nat); omega)⟩ rfl rfl dX2_init_9 ?_
  refine zy_cs (k := 1) (n := 2) rfl rfl ?_
  refine zy_eq ([.inr (2, [.null, .null, .int 0, .int 0]), .inr (3, [.int 0, .int 0])]) (by first | rfl | (rw [List.length_append]; rfl)) ?_
  refine zy_putF (j := 0) (v := .ref (zra G (P.length + 1))) (L' := [.inr (2, [.ref (zra G (P.length + 1)), .null, .int 0, .int 0]), .inr (3, [.int 0, .int 0])]) C hini 12 zcl2 rfl 0 (by decide) wf_2_10 rfl rfl rfl rfl (Nat.le_of_ble_eq_true rfl) rfl dX2_init_12 ?_
  refine zy_aload_n C 15 dX2_init_15 rfl 0 rfl ?_
  refine zy_new (j := 2) C 16 zcl1 zdf1 wcl_2_16 wnew_1 wini_1 (by show _ ≤ (5 : Nat); omega) (by show _ ≤ (18 : Nat); omega) rfl rfl dX2_init_16 ?_
  refine zy_cs (k := 2) (n := 6) rfl rfl ?_
  refine zy_dup C 19 dX2_init_19 rfl ?_
  refine zy_callN (L0 := [.inr (2, [.ref (zra G (P.length + 1)), .null, .int 0, .int 0]), .inr (3, [.int 0, .int 0])]) (j := 2) C hAO 20 (c_X1_init l G (P ++ ([.inr (2, [.ref (zra G (P.length + 1)), .null, .int 0, .int 0]), .inr (3, [.int 0, .int 0])]))) wn_2_18 wc_X1_init wini_1 wi_X1_init rfl ⟨by decide, by decide, by decide⟩ ⟨by decide, by decide⟩ (Nat.le_of_ble_eq_true rfl) ⟨(by show _ ≤ (5 : Nat); omega), (by show _ ≤ (18 : Nat); omega)⟩ rfl rfl dX2_init_20 ?_
  refine zy_cs (k := 5) (n := 18) rfl rfl ?_
  refine zy_eq ([.inr (2, [.ref (zra G (P.length + 1)), .null, .int 0, .int 0]), .inr (3, [.int 0, .int 0]), .inr (1, [.ref (zra G (P.length + 3)), .ref (zra G (P.length + 4)), .ref (zra G (P.length + 5)), .int 0]), zAi G 4, zAi G 4, zAi G 4]) (by first | rfl | (rw [List.length_append]; rfl)) ?_
  refine zy_putF (j := 0) (v := .ref (zra G (P.length + 2))) (L' := [.inr (2, [.ref (zra G (P.length + 1)), .ref (zra G (P.length + 2)), .int 0, .int 0]), .inr (3, [.int 0, .int 0]), .inr (1, [.ref (zra G (P.length + 3)), .ref (zra G (P.length + 4)), .ref (zra G (P.length + 5)), .int 0]), zAi G 4, zAi G 4, zAi G 4]) C hini 23 zcl2 rfl 1 (by decide) wf_2_19 rfl rfl rfl rfl (Nat.le_of_ble_eq_true rfl) rfl dX2_init_23 ?_
  refine zy_aload_n C 26 dX2_init_26 rfl 0 rfl ?_
  refine zy_iconst C 27 dX2_init_27 ?_
  refine zy_put (j := 0) (v := .int (zI 1)) (L' := [.inr (2, [.ref (zra G (P.length + 1)), .ref (zra G (P.length + 2)), .int (zI 1), .int 0]), .inr (3, [.int 0, .int 0]), .inr (1, [.ref (zra G (P.length + 3)), .ref (zra G (P.length + 4)), .ref (zra G (P.length + 5)), .int 0]), zAi G 4, zAi G 4, zAi G 4]) C 28 zcl2 rfl 2 (by decide) wf_2_23 rfl rfl rfl (Nat.le_of_ble_eq_true rfl) rfl dX2_init_28 ?_
  refine zy_aload_n C 31 dX2_init_31 rfl 0 rfl ?_
  refine zy_iconst C 32 dX2_init_32 ?_
  refine zy_put (j := 0) (v := .int (zI 0)) (L' := [.inr (2, [.ref (zra G (P.length + 1)), .ref (zra G (P.length + 2)), .int (zI 1), .int 0]), .inr (3, [.int 0, .int 0]), .inr (1, [.ref (zra G (P.length + 3)), .ref (zra G (P.length + 4)), .ref (zra G (P.length + 5)), .int 0]), zAi G 4, zAi G 4, zAi G 4]) C 33 zcl2 rfl 3 (by decide) wf_2_27 rfl rfl rfl (Nat.le_of_ble_eq_true rfl) rfl dX2_init_33 ?_
  exact zy_ret C 36 dX2_init_36 (by decide) (by decide) (by rfl)
set_option maxHeartbeats 4000000 in
set_option maxRecDepth 100000 in
theorem c_X0_init (l : Launch) (G : zG) (P : List va_E) : Met l yX0_init [.code yX0_init cX0_init 1 none] (zR 2 6 22) (zyPc G (P ++ [zb0]) [.ref (zra G P.length)]) (zyQ G (P ++ zL0 G P.length)) 6 22 (zA G) := by
  refine zy_met [(0, .ref (zra G P.length))] (by decide) rfl (Nat.le_of_ble_eq_true rfl) rfl ?_
  intro p e s m below meth cz C hini hAO
  have C : zC p s m ([.ref (zra G P.length)] : List Value).toArray meth cz G RX0 cX0_init 1 none := C
  refine zy_aload_n C 0 dX0_init_0 rfl 0 rfl ?_
  refine zy_obj C 1 wm_0_3 dX0_init_1 (by decide) (by decide) ?_
  refine zy_aload_n C 4 dX0_init_4 rfl 0 rfl ?_
  refine zy_new (j := 1) C 5 zcl3 zdf3 wcl_0_9 wnew_3 wini_3 (by show _ ≤ (6 : Nat); omega) (by show _ ≤ (22 : Nat); omega) rfl rfl dX0_init_5 ?_
  refine zy_cs (k := 1) (n := 2) rfl rfl ?_
  refine zy_dup C 8 dX0_init_8 rfl ?_
  refine zy_callN (L0 := [.inr (0, [.null, .null, .null, .int 0, .int 0, .int 0, .int 0])]) (j := 1) C hAO 9 (c_X3_init l G (P ++ ([.inr (0, [.null, .null, .null, .int 0, .int 0, .int 0, .int 0])]))) wn_0_11 wc_X3_init wini_3 wi_X3_init rfl ⟨by decide, by decide, by decide⟩ ⟨by decide, by decide⟩ (Nat.le_of_ble_eq_true rfl) ⟨(by show _ ≤ (6 : Nat); omega), (by show _ ≤ (22 : Nat); omega)⟩ rfl rfl dX0_init_9 ?_
  refine zy_cs (k := 1) (n := 2) rfl rfl ?_
  refine zy_eq ([.inr (0, [.null, .null, .null, .int 0, .int 0, .int 0, .int 0]), .inr (3, [.int 0, .int 0])]) (by first | rfl | (rw [List.length_append]; rfl)) ?_
  refine zy_putF (j := 0) (v := .ref (zra G (P.length + 1))) (L' := [.inr (0, [.ref (zra G (P.length + 1)), .null, .null, .int 0, .int 0, .int 0, .int 0]), .inr (3, [.int 0, .int 0])]) C hini 12 zcl0 rfl 0 (by decide) wf_0_12 rfl rfl rfl rfl (Nat.le_of_ble_eq_true rfl) rfl dX0_init_12 ?_
  refine zy_aload_n C 15 dX0_init_15 rfl 0 rfl ?_
  refine zy_new (j := 2) C 16 zcl1 zdf1 wcl_0_18 wnew_1 wini_1 (by show _ ≤ (6 : Nat); omega) (by show _ ≤ (22 : Nat); omega) rfl rfl dX0_init_16 ?_
  refine zy_cs (k := 2) (n := 6) rfl rfl ?_
  refine zy_dup C 19 dX0_init_19 rfl ?_
  refine zy_callN (L0 := [.inr (0, [.ref (zra G (P.length + 1)), .null, .null, .int 0, .int 0, .int 0, .int 0]), .inr (3, [.int 0, .int 0])]) (j := 2) C hAO 20 (c_X1_init l G (P ++ ([.inr (0, [.ref (zra G (P.length + 1)), .null, .null, .int 0, .int 0, .int 0, .int 0]), .inr (3, [.int 0, .int 0])]))) wn_0_20 wc_X1_init wini_1 wi_X1_init rfl ⟨by decide, by decide, by decide⟩ ⟨by decide, by decide⟩ (Nat.le_of_ble_eq_true rfl) ⟨(by show _ ≤ (6 : Nat); omega), (by show _ ≤ (22 : Nat); omega)⟩ rfl rfl dX0_init_20 ?_
  refine zy_cs (k := 5) (n := 18) rfl rfl ?_
  refine zy_eq ([.inr (0, [.ref (zra G (P.length + 1)), .null, .null, .int 0, .int 0, .int 0, .int 0]), .inr (3, [.int 0, .int 0]), .inr (1, [.ref (zra G (P.length + 3)), .ref (zra G (P.length + 4)), .ref (zra G (P.length + 5)), .int 0]), zAi G 4, zAi G 4, zAi G 4]) (by first | rfl | (rw [List.length_append]; rfl)) ?_
  refine zy_putF (j := 0) (v := .ref (zra G (P.length + 2))) (L' := [.inr (0, [.ref (zra G (P.length + 1)), .ref (zra G (P.length + 2)), .null, .int 0, .int 0, .int 0, .int 0]), .inr (3, [.int 0, .int 0]), .inr (1, [.ref (zra G (P.length + 3)), .ref (zra G (P.length + 4)), .ref (zra G (P.length + 5)), .int 0]), zAi G 4, zAi G 4, zAi G 4]) C hini 23 zcl0 rfl 1 (by decide) wf_0_21 rfl rfl rfl rfl (Nat.le_of_ble_eq_true rfl) rfl dX0_init_23 ?_
  refine zy_aload_n C 26 dX0_init_26 rfl 0 rfl ?_
  refine zy_iconst C 27 dX0_init_27 ?_
  refine zy_newa (at0 := .int) (ty := .int) (t := 0) (j := 6) (n := 4) (a0 := (4, .inl (fun _ => 0))) (L' := [.inr (0, [.ref (zra G (P.length + 1)), .ref (zra G (P.length + 2)), .null, .int 0, .int 0, .int 0, .int 0]), .inr (3, [.int 0, .int 0]), .inr (1, [.ref (zra G (P.length + 3)), .ref (zra G (P.length + 4)), .ref (zra G (P.length + 5)), .int 0]), zAi G 4, zAi G 4, zAi G 4, zAi G 4]) C 28 rfl rfl (fun _ _ h => h) war_int (fun _ => rfl) (by decide) (by decide) rfl (by decide) (by show _ ≤ (6 : Nat); omega) (by show _ ≤ (22 : Nat); omega) rfl rfl dX0_init_28 ?_
  refine zy_cs (k := 6) (n := 22) rfl rfl ?_
  refine zy_putF (j := 0) (v := .ref (zra G (P.length + 6))) (L' := [.inr (0, [.ref (zra G (P.length + 1)), .ref (zra G (P.length + 2)), .ref (zra G (P.length + 6)), .int 0, .int 0, .int 0, .int 0]), .inr (3, [.int 0, .int 0]), .inr (1, [.ref (zra G (P.length + 3)), .ref (zra G (P.length + 4)), .ref (zra G (P.length + 5)), .int 0]), zAi G 4, zAi G 4, zAi G 4, zAi G 4]) C hini 30 zcl0 rfl 2 (by decide) wf_0_25 rfl rfl rfl rfl (Nat.le_of_ble_eq_true rfl) rfl dX0_init_30 ?_
  refine zy_aload_n C 33 dX0_init_33 rfl 0 rfl ?_
  refine zy_iconst C 34 dX0_init_34 ?_
  refine zy_put (j := 0) (v := .int (zI (-1))) (L' := [.inr (0, [.ref (zra G (P.length + 1)), .ref (zra G (P.length + 2)), .ref (zra G (P.length + 6)), .int (zI (-1)), .int 0, .int 0, .int 0]), .inr (3, [.int 0, .int 0]), .inr (1, [.ref (zra G (P.length + 3)), .ref (zra G (P.length + 4)), .ref (zra G (P.length + 5)), .int 0]), zAi G 4, zAi G 4, zAi G 4, zAi G 4]) C 35 zcl0 rfl 3 (by decide) wf_0_29 rfl rfl rfl (Nat.le_of_ble_eq_true rfl) rfl dX0_init_35 ?_
  refine zy_aload_n C 38 dX0_init_38 rfl 0 rfl ?_
  refine zy_iconst C 39 dX0_init_39 ?_
  refine zy_put (j := 0) (v := .int (zI 0)) (L' := [.inr (0, [.ref (zra G (P.length + 1)), .ref (zra G (P.length + 2)), .ref (zra G (P.length + 6)), .int (zI (-1)), .int 0, .int 0, .int 0]), .inr (3, [.int 0, .int 0]), .inr (1, [.ref (zra G (P.length + 3)), .ref (zra G (P.length + 4)), .ref (zra G (P.length + 5)), .int 0]), zAi G 4, zAi G 4, zAi G 4, zAi G 4]) C 40 zcl0 rfl 4 (by decide) wf_0_33 rfl rfl rfl (Nat.le_of_ble_eq_true rfl) rfl dX0_init_40 ?_
  refine zy_aload_n C 43 dX0_init_43 rfl 0 rfl ?_
  refine zy_iconst C 44 dX0_init_44 ?_
  refine zy_put (j := 0) (v := .int (zI 0)) (L' := [.inr (0, [.ref (zra G (P.length + 1)), .ref (zra G (P.length + 2)), .ref (zra G (P.length + 6)), .int (zI (-1)), .int 0, .int 0, .int 0]), .inr (3, [.int 0, .int 0]), .inr (1, [.ref (zra G (P.length + 3)), .ref (zra G (P.length + 4)), .ref (zra G (P.length + 5)), .int 0]), zAi G 4, zAi G 4, zAi G 4, zAi G 4]) C 45 zcl0 rfl 5 (by decide) wf_0_36 rfl rfl rfl (Nat.le_of_ble_eq_true rfl) rfl dX0_init_45 ?_
  refine zy_aload_n C 48 dX0_init_48 rfl 0 rfl ?_
  refine zy_iconst C 49 dX0_init_49 ?_
  refine zy_put (j := 0) (v := .int (zI 0)) (L' := [.inr (0, [.ref (zra G (P.length + 1)), .ref (zra G (P.length + 2)), .ref (zra G (P.length + 6)), .int (zI (-1)), .int 0, .int 0, .int 0]), .inr (3, [.int 0, .int 0]), .inr (1, [.ref (zra G (P.length + 3)), .ref (zra G (P.length + 4)), .ref (zra G (P.length + 5)), .int 0]), zAi G 4, zAi G 4, zAi G 4, zAi G 4]) C 50 zcl0 rfl 6 (by decide) wf_0_39 rfl rfl rfl (Nat.le_of_ble_eq_true rfl) rfl dX0_init_50 ?_
  exact zy_ret C 53 dX0_init_53 (by decide) (by decide) (by rfl)
set_option maxHeartbeats 4000000 in
set_option maxRecDepth 100000 in
theorem c_X4_init (l : Launch) (G : zG) (P : List va_E) : Met l yX4_init [.code yX4_init cX4_init 2 none] (zR 3 145 552) (zyPc G (P ++ [zb4]) [.ref (zra G P.length)]) (zyQ G (P ++ zL4 G P.length)) 145 552 (zA G) := by
  refine zy_met [(0, .ref (zra G P.length))] (by decide) rfl (Nat.le_of_ble_eq_true rfl) rfl ?_
  intro p e s m below meth cz C hini hAO
  have C : zC p s m ([.ref (zra G P.length)] : List Value).toArray meth cz G RX4 cX4_init 2 none := C
  refine zy_aload_n C 0 dX4_init_0 rfl 0 rfl ?_
  refine zy_obj C 1 wm_4_3 dX4_init_1 (by decide) (by decide) ?_
  refine zy_aload_n C 4 dX4_init_4 rfl 0 rfl ?_
  refine zy_bipush C 5 dX4_init_5 (by decide +kernel) ?_
  refine zy_anew (C0 := "LocatorMapper$Mapping") (t := 4) (j := 1) (n := 24) (L' := [.inr (4, [.null, .int 0]), .inl (G.2.1 4, 24, .inr (.inr (.inr (.inr (fun _ => none)))))]) C hAO 7 rfl wcl_4_9 wao_X2 (by decide) (by decide) rfl (by decide) (by show _ ≤ (145 : Nat); omega) (by show _ ≤ (552 : Nat); omega) rfl rfl dX4_init_7 ?_
  refine zy_cs (k := 1) (n := 24) rfl rfl ?_
  refine zy_putF (j := 0) (v := .ref (zra G (P.length + 1))) (L' := [.inr (4, [.ref (zra G (P.length + 1)), .int 0]), .inl (G.2.1 4, 24, .inr (.inr (.inr (.inr (fun _ => none)))))]) C hini 10 zcl4 rfl 0 (by decide) wf_4_11 rfl rfl rfl rfl (Nat.le_of_ble_eq_true rfl) rfl dX4_init_10 ?_
  refine zy_aload_n C 13 dX4_init_13 rfl 0 rfl ?_
  refine zy_iconst C 14 dX4_init_14 ?_
  refine zy_put (j := 0) (v := .int (zI 0)) (L' := [.inr (4, [.ref (zra G (P.length + 1)), .int 0]), .inl (G.2.1 4, 24, .inr (.inr (.inr (.inr (fun _ => none)))))]) C 15 zcl4 rfl 1 (by decide) wf_4_17 rfl rfl rfl (Nat.le_of_ble_eq_true rfl) rfl dX4_init_15 ?_
  refine zy_iconst C 18 dX4_init_18 ?_
  refine zy_istore_n (lv' := [(1, .int (zI 0)), (0, .ref (zra G P.length))]) C 19 dX4_init_19 rfl (by decide) rfl ?_
  have hfl9 : ∀ t : Nat, (zfl (fun i => zL2 G (P.length + (2 + 6 * i))) t).length = 6 * t := zfl_len fun i => rfl
  have hL9 : ∀ (kz t : Nat), t ≤ 24 → 24 - t < kz → zY p l e (zR 3 145 552) s m ([.ref (zra G P.length)] : List Value).toArray below meth cz G 2 (MQ below (zyQ G (P ++ zL4 G P.length)) ([.ref (zra G P.length)] : List Value).toArray s 145 552 (zA G)) P (([.inr (4, [.ref (zra G (P.length + 1)), .int 0]), .inl (G.2.1 4, 24, .inr (.inr (.inr (.inr (zfill (fun j => zra G (P.length + (2 + 6 * j))) t)))))] : List va_E) ++ zfl (fun i => zL2 G (P.length + (2 + 6 * i))) t) (1 + 6 * t) (24 + 22 * t) 20 [(1, .int (zI (t : Int))), (0, .ref (zra G P.length))] [] := by
    intro kz
    induction kz with
    | zero => intro t h1 h2; omega
    | succ kz ih =>
      intro t h1 h2
      have hlen9 : (([.inr (4, [.ref (zra G (P.length + 1)), .int 0]), .inl (G.2.1 4, 24, .inr (.inr (.inr (.inr (zfill (fun j => zra G (P.length + (2 + 6 * j))) t)))))] : List va_E) ++ zfl (fun i => zL2 G (P.length + (2 + 6 * i))) t).length = 2 + 6 * t := by rw [List.length_append, hfl9]; rfl
      refine zy_iload_n C 20 dX4_init_20 rfl 0 rfl ?_
      refine zy_bipush C 21 dX4_init_21 (by decide +kernel) ?_
      refine zy_icmp_ge C 23 45 dX4_init_23 (by decide) (by omega) (by decide) (fun c9 => ?_) (fun c9 => ?_)
      · have ht : t = 24 := by omega
        subst ht
        refine zy_to _ (zN_swap 1 rfl rfl (fun H a h => zfill_at h)) ?_
        exact zy_ret C 45 dX4_init_45 (by decide) (by decide) (by rfl)
      refine zy_aload_n C 26 dX4_init_26 rfl 1 rfl ?_
      refine zy_get (j := 0) C 27 zcl4 rfl 0 (by decide) rfl wf_4_11 dX4_init_27 ?_
      refine zy_iload_n C 30 dX4_init_30 rfl 0 rfl ?_
      refine zy_new (j := 2 + 6 * t) C 31 zcl2 zdf2 wcl_4_9 wnew_2 wini_2 (by show _ ≤ (145 : Nat); omega) (by show _ ≤ (552 : Nat); omega) hlen9 rfl dX4_init_31 ?_
      refine zy_dup C 34 dX4_init_34 rfl ?_
      refine zy_callN (L0 := ([.inr (4, [.ref (zra G (P.length + 1)), .int 0]), .inl (G.2.1 4, 24, .inr (.inr (.inr (.inr (zfill (fun j => zra G (P.length + (2 + 6 * j))) t)))))] : List va_E) ++ zfl (fun i => zL2 G (P.length + (2 + 6 * i))) t) (j := 2 + 6 * t) C hAO 35 (c_X2_init l G (P ++ (([.inr (4, [.ref (zra G (P.length + 1)), .int 0]), .inl (G.2.1 4, 24, .inr (.inr (.inr (.inr (zfill (fun j => zra G (P.length + (2 + 6 * j))) t)))))] : List va_E) ++ zfl (fun i => zL2 G (P.length + (2 + 6 * i))) t))) wn_4_21 wc_X2_init wini_2 wi_X2_init rfl ⟨by decide, by decide, by decide⟩ ⟨by decide, by decide⟩ (Nat.le_of_ble_eq_true rfl) ⟨(by show _ ≤ (145 : Nat); omega), (by show _ ≤ (552 : Nat); omega)⟩ rfl hlen9 dX4_init_35 ?_
      refine zy_eq ((([.inr (4, [.ref (zra G (P.length + 1)), .int 0]), .inl (G.2.1 4, 24, .inr (.inr (.inr (.inr (zfill (fun j => zra G (P.length + (2 + 6 * j))) t)))))] : List va_E) ++ zfl (fun i => zL2 G (P.length + (2 + 6 * i))) t) ++ zL2 G (P.length + (2 + 6 * t))) (by rw [show (P ++ (([.inr (4, [.ref (zra G (P.length + 1)), .int 0]), .inl (G.2.1 4, 24, .inr (.inr (.inr (.inr (zfill (fun j => zra G (P.length + (2 + 6 * j))) t)))))] : List va_E) ++ zfl (fun i => zL2 G (P.length + (2 + 6 * i))) t)).length = P.length + (2 + 6 * t) by rw [List.length_append, hlen9]]) ?_
      refine zy_aast (j := 1) (jv := 2 + 6 * t) (t := 4) (ci := 2) (r := (RX2, TX2, 4)) (vs := [.ref (zra G (P.length + (2 + 6 * t) + 1)), .ref (zra G (P.length + (2 + 6 * t) + 2)), .int 1, .int 0]) (L' := (([.inr (4, [.ref (zra G (P.length + 1)), .int 0]), .inl (G.2.1 4, 24, .inr (.inr (.inr (.inr (zfill (fun j => zra G (P.length + (2 + 6 * j))) (t + 1))))))] : List va_E) ++ zfl (fun i => zL2 G (P.length + (2 + 6 * i))) t) ++ zL2 G (P.length + (2 + 6 * t))) C 38 rfl rfl rfl ((zget0 hlen9).trans rfl) (by omega) (by omega) (by omega) (by rw [show ((t : Int)).toNat = t from rfl, zfill_up (w := fun j => zra G (P.length + (2 + 6 * j))) (t := t) rfl]; rfl) dX4_init_38 ?_
      refine zy_iinc (lv' := [(1, .int (zI ((t : Int) + 1))), (0, .ref (zra G P.length))]) C 39 dX4_init_39 0 rfl (by decide) rfl ?_
      refine zy_goto C 42 20 dX4_init_42 (by decide) ?_
      refine zy_eq (([.inr (4, [.ref (zra G (P.length + 1)), .int 0]), .inl (G.2.1 4, 24, .inr (.inr (.inr (.inr (zfill (fun j => zra G (P.length + (2 + 6 * j))) (t + 1))))))] : List va_E) ++ zfl (fun i => zL2 G (P.length + (2 + 6 * i))) (t + 1)) (List.append_assoc _ _ _) ?_
      refine zy_cs (k := 1 + 6 * (t + 1)) (n := 24 + 22 * (t + 1)) (by omega) (by omega) ?_
      exact ih (t + 1) (by omega) (by omega)
  exact hL9 25 0 (by omega) (by omega)
set_option maxHeartbeats 4000000 in
set_option maxRecDepth 100000 in
theorem c_X6_init (l : Launch) (G : zG) (P : List va_E) : Met l yX6_init [.code yX6_init cX6_init 2 none] (zR 2 16 56) (zyPc G (P ++ [zb6]) [.ref (zra G P.length)]) (zyQ G (P ++ zL6 G P.length)) 16 56 (zA G) := by
  refine zy_met [(0, .ref (zra G P.length))] (by decide) rfl (Nat.le_of_ble_eq_true rfl) rfl ?_
  intro p e s m below meth cz C hini hAO
  have C : zC p s m ([.ref (zra G P.length)] : List Value).toArray meth cz G RX6 cX6_init 2 none := C
  refine zy_aload_n C 0 dX6_init_0 rfl 0 rfl ?_
  refine zy_obj C 1 wm_6_3 dX6_init_1 (by decide) (by decide) ?_
  refine zy_aload_n C 4 dX6_init_4 rfl 0 rfl ?_
  refine zy_iconst C 5 dX6_init_5 ?_
  refine zy_newa (at0 := .boolean) (ty := .boolean) (t := 1) (j := 1) (n := 4) (a0 := (4, .inl (fun _ => 0))) (L' := [.inr (6, [.null, .null, .null, .null, .int 0]), zAz G 4]) C 6 rfl rfl (fun _ _ h => h) war_boolean (fun _ => rfl) (by decide) (by decide) rfl (by decide) (by show _ ≤ (16 : Nat); omega) (by show _ ≤ (56 : Nat); omega) rfl rfl dX6_init_6 ?_
  refine zy_cs (k := 1) (n := 4) rfl rfl ?_
  refine zy_putF (j := 0) (v := .ref (zra G (P.length + 1))) (L' := [.inr (6, [.ref (zra G (P.length + 1)), .null, .null, .null, .int 0]), zAz G 4]) C hini 8 zcl6 rfl 0 (by decide) wf_6_9 rfl rfl rfl rfl (Nat.le_of_ble_eq_true rfl) rfl dX6_init_8 ?_
  refine zy_aload_n C 11 dX6_init_11 rfl 0 rfl ?_
  refine zy_iconst C 12 dX6_init_12 ?_
  refine zy_newa (at0 := .int) (ty := .int) (t := 0) (j := 2) (n := 4) (a0 := (4, .inl (fun _ => 0))) (L' := [.inr (6, [.ref (zra G (P.length + 1)), .null, .null, .null, .int 0]), zAz G 4, zAi G 4]) C 13 rfl rfl (fun _ _ h => h) war_int (fun _ => rfl) (by decide) (by decide) rfl (by decide) (by show _ ≤ (16 : Nat); omega) (by show _ ≤ (56 : Nat); omega) rfl rfl dX6_init_13 ?_
  refine zy_cs (k := 2) (n := 8) rfl rfl ?_
  refine zy_putF (j := 0) (v := .ref (zra G (P.length + 2))) (L' := [.inr (6, [.ref (zra G (P.length + 1)), .ref (zra G (P.length + 2)), .null, .null, .int 0]), zAz G 4, zAi G 4]) C hini 15 zcl6 rfl 1 (by decide) wf_6_15 rfl rfl rfl rfl (Nat.le_of_ble_eq_true rfl) rfl dX6_init_15 ?_
  refine zy_aload_n C 18 dX6_init_18 rfl 0 rfl ?_
  refine zy_bipush C 19 dX6_init_19 (by decide +kernel) ?_
  refine zy_anew (C0 := "LocatorMapper$Prefix") (t := 5) (j := 3) (n := 12) (L' := [.inr (6, [.ref (zra G (P.length + 1)), .ref (zra G (P.length + 2)), .null, .null, .int 0]), zAz G 4, zAi G 4, .inl (G.2.1 5, 12, .inr (.inr (.inr (.inr (fun _ => none)))))]) C hAO 21 rfl wcl_6_19 wao_X3 (by decide) (by decide) rfl (by decide) (by show _ ≤ (16 : Nat); omega) (by show _ ≤ (56 : Nat); omega) rfl rfl dX6_init_21 ?_
  refine zy_cs (k := 3) (n := 20) rfl rfl ?_
  refine zy_putF (j := 0) (v := .ref (zra G (P.length + 3))) (L' := [.inr (6, [.ref (zra G (P.length + 1)), .ref (zra G (P.length + 2)), .ref (zra G (P.length + 3)), .null, .int 0]), zAz G 4, zAi G 4, .inl (G.2.1 5, 12, .inr (.inr (.inr (.inr (fun _ => none)))))]) C hini 24 zcl6 rfl 2 (by decide) wf_6_21 rfl rfl rfl rfl (Nat.le_of_ble_eq_true rfl) rfl dX6_init_24 ?_
  refine zy_aload_n C 27 dX6_init_27 rfl 0 rfl ?_
  refine zy_bipush C 28 dX6_init_28 (by decide +kernel) ?_
  refine zy_newa (at0 := .int) (ty := .int) (t := 0) (j := 4) (n := 12) (a0 := (12, .inl (fun _ => 0))) (L' := [.inr (6, [.ref (zra G (P.length + 1)), .ref (zra G (P.length + 2)), .ref (zra G (P.length + 3)), .null, .int 0]), zAz G 4, zAi G 4, .inl (G.2.1 5, 12, .inr (.inr (.inr (.inr (fun _ => none))))), zAi G 12]) C 30 rfl rfl (fun _ _ h => h) war_int (fun _ => rfl) (by decide) (by decide) rfl (by decide) (by show _ ≤ (16 : Nat); omega) (by show _ ≤ (56 : Nat); omega) rfl rfl dX6_init_30 ?_
  refine zy_cs (k := 4) (n := 32) rfl rfl ?_
  refine zy_putF (j := 0) (v := .ref (zra G (P.length + 4))) (L' := [.inr (6, [.ref (zra G (P.length + 1)), .ref (zra G (P.length + 2)), .ref (zra G (P.length + 3)), .ref (zra G (P.length + 4)), .int 0]), zAz G 4, zAi G 4, .inl (G.2.1 5, 12, .inr (.inr (.inr (.inr (fun _ => none))))), zAi G 12]) C hini 32 zcl6 rfl 3 (by decide) wf_6_25 rfl rfl rfl rfl (Nat.le_of_ble_eq_true rfl) rfl dX6_init_32 ?_
  refine zy_aload_n C 35 dX6_init_35 rfl 0 rfl ?_
  refine zy_iconst C 36 dX6_init_36 ?_
  refine zy_put (j := 0) (v := .int (zI 0)) (L' := [.inr (6, [.ref (zra G (P.length + 1)), .ref (zra G (P.length + 2)), .ref (zra G (P.length + 3)), .ref (zra G (P.length + 4)), .int 0]), zAz G 4, zAi G 4, .inl (G.2.1 5, 12, .inr (.inr (.inr (.inr (fun _ => none))))), zAi G 12]) C 37 zcl6 rfl 4 (by decide) wf_6_28 rfl rfl rfl (Nat.le_of_ble_eq_true rfl) rfl dX6_init_37 ?_
  refine zy_iconst C 40 dX6_init_40 ?_
  refine zy_istore_n (lv' := [(1, .int (zI 0)), (0, .ref (zra G P.length))]) C 41 dX6_init_41 rfl (by decide) rfl ?_
  have hfl9 : ∀ t : Nat, (zfl (fun _ => zL3) t).length = 1 * t := zfl_len fun i => rfl
  have hL9 : ∀ (kz t : Nat), t ≤ 12 → 12 - t < kz → zY p l e (zR 2 16 56) s m ([.ref (zra G P.length)] : List Value).toArray below meth cz G 2 (MQ below (zyQ G (P ++ zL6 G P.length)) ([.ref (zra G P.length)] : List Value).toArray s 16 56 (zA G)) P (([.inr (6, [.ref (zra G (P.length + 1)), .ref (zra G (P.length + 2)), .ref (zra G (P.length + 3)), .ref (zra G (P.length + 4)), .int 0]), zAz G 4, zAi G 4, .inl (G.2.1 5, 12, .inr (.inr (.inr (.inr (zfill (fun j => zra G (P.length + (5 + 1 * j))) t))))), zAi G 12] : List va_E) ++ zfl (fun _ => zL3) t) (4 + 1 * t) (32 + 2 * t) 42 [(1, .int (zI (t : Int))), (0, .ref (zra G P.length))] [] := by
    intro kz
    induction kz with
    | zero => intro t h1 h2; omega
    | succ kz ih =>
      intro t h1 h2
      have hlen9 : (([.inr (6, [.ref (zra G (P.length + 1)), .ref (zra G (P.length + 2)), .ref (zra G (P.length + 3)), .ref (zra G (P.length + 4)), .int 0]), zAz G 4, zAi G 4, .inl (G.2.1 5, 12, .inr (.inr (.inr (.inr (zfill (fun j => zra G (P.length + (5 + 1 * j))) t))))), zAi G 12] : List va_E) ++ zfl (fun _ => zL3) t).length = 5 + 1 * t := by rw [List.length_append, hfl9]; rfl
      refine zy_iload_n C 42 dX6_init_42 rfl 0 rfl ?_
      refine zy_bipush C 43 dX6_init_43 (by decide +kernel) ?_
      refine zy_icmp_ge C 45 67 dX6_init_45 (by decide) (by omega) (by decide) (fun c9 => ?_) (fun c9 => ?_)
      · have ht : t = 12 := by omega
        subst ht
        refine zy_to _ (zN_swap 3 rfl rfl (fun H a h => zfill_at h)) ?_
        exact zy_ret C 67 dX6_init_67 (by decide) (by decide) (by rfl)
      refine zy_aload_n C 48 dX6_init_48 rfl 1 rfl ?_
      refine zy_get (j := 0) C 49 zcl6 rfl 2 (by decide) rfl wf_6_21 dX6_init_49 ?_
      refine zy_iload_n C 52 dX6_init_52 rfl 0 rfl ?_
      refine zy_new (j := 5 + 1 * t) C 53 zcl3 zdf3 wcl_6_19 wnew_3 wini_3 (by show _ ≤ (16 : Nat); omega) (by show _ ≤ (56 : Nat); omega) hlen9 rfl dX6_init_53 ?_
      refine zy_dup C 56 dX6_init_56 rfl ?_
      refine zy_callN (L0 := ([.inr (6, [.ref (zra G (P.length + 1)), .ref (zra G (P.length + 2)), .ref (zra G (P.length + 3)), .ref (zra G (P.length + 4)), .int 0]), zAz G 4, zAi G 4, .inl (G.2.1 5, 12, .inr (.inr (.inr (.inr (zfill (fun j => zra G (P.length + (5 + 1 * j))) t))))), zAi G 12] : List va_E) ++ zfl (fun _ => zL3) t) (j := 5 + 1 * t) C hAO 57 (c_X3_init l G (P ++ (([.inr (6, [.ref (zra G (P.length + 1)), .ref (zra G (P.length + 2)), .ref (zra G (P.length + 3)), .ref (zra G (P.length + 4)), .int 0]), zAz G 4, zAi G 4, .inl (G.2.1 5, 12, .inr (.inr (.inr (.inr (zfill (fun j => zra G (P.length + (5 + 1 * j))) t))))), zAi G 12] : List va_E) ++ zfl (fun _ => zL3) t))) wn_6_32 wc_X3_init wini_3 wi_X3_init rfl ⟨by decide, by decide, by decide⟩ ⟨by decide, by decide⟩ (Nat.le_of_ble_eq_true rfl) ⟨(by show _ ≤ (16 : Nat); omega), (by show _ ≤ (56 : Nat); omega)⟩ rfl hlen9 dX6_init_57 ?_
      refine zy_aast (j := 3) (jv := 5 + 1 * t) (t := 5) (ci := 3) (r := (RX3, TX3, 2)) (vs := [.int 0, .int 0]) (L' := (([.inr (6, [.ref (zra G (P.length + 1)), .ref (zra G (P.length + 2)), .ref (zra G (P.length + 3)), .ref (zra G (P.length + 4)), .int 0]), zAz G 4, zAi G 4, .inl (G.2.1 5, 12, .inr (.inr (.inr (.inr (zfill (fun j => zra G (P.length + (5 + 1 * j))) (t + 1)))))), zAi G 12] : List va_E) ++ zfl (fun _ => zL3) t) ++ zL3) C 60 rfl rfl rfl ((zget0 hlen9).trans rfl) (by omega) (by omega) (by omega) (by rw [show ((t : Int)).toNat = t from rfl, zfill_up (w := fun j => zra G (P.length + (5 + 1 * j))) (t := t) rfl]; rfl) dX6_init_60 ?_
      refine zy_iinc (lv' := [(1, .int (zI ((t : Int) + 1))), (0, .ref (zra G P.length))]) C 61 dX6_init_61 0 rfl (by decide) rfl ?_
      refine zy_goto C 64 42 dX6_init_64 (by decide) ?_
      refine zy_eq (([.inr (6, [.ref (zra G (P.length + 1)), .ref (zra G (P.length + 2)), .ref (zra G (P.length + 3)), .ref (zra G (P.length + 4)), .int 0]), zAz G 4, zAi G 4, .inl (G.2.1 5, 12, .inr (.inr (.inr (.inr (zfill (fun j => zra G (P.length + (5 + 1 * j))) (t + 1)))))), zAi G 12] : List va_E) ++ zfl (fun _ => zL3) (t + 1)) (List.append_assoc _ _ _) ?_
      refine zy_cs (k := 4 + 1 * (t + 1)) (n := 32 + 2 * (t + 1)) (by omega) (by omega) ?_
      exact ih (t + 1) (by omega) (by omega)
  exact hL9 13 0 (by omega) (by omega)
set_option maxHeartbeats 4000000 in
set_option maxRecDepth 100000 in
theorem c_X5_init (l : Launch) (G : zG) (P : List va_E) : Met l yX5_init [.code yX5_init cX5_init 2 none] (zR 3 58 272) (zyPc G (P ++ [zb5]) [.ref (zra G P.length)]) (zyQ G (P ++ zL5 G P.length)) 58 272 (zA G) := by
  refine zy_met [(0, .ref (zra G P.length))] (by decide) rfl (Nat.le_of_ble_eq_true rfl) rfl ?_
  intro p e s m below meth cz C hini hAO
  have C : zC p s m ([.ref (zra G P.length)] : List Value).toArray meth cz G RX5 cX5_init 2 none := C
  refine zy_aload_n C 0 dX5_init_0 rfl 0 rfl ?_
  refine zy_obj C 1 wm_5_3 dX5_init_1 (by decide) (by decide) ?_
  refine zy_aload_n C 4 dX5_init_4 rfl 0 rfl ?_
  refine zy_bipush C 5 dX5_init_5 (by decide +kernel) ?_
  refine zy_anew (C0 := "LocatorMapper$Entry") (t := 3) (j := 1) (n := 8) (L' := [.inr (5, [.null, .null, .int 0]), .inl (G.2.1 3, 8, .inr (.inr (.inr (.inr (fun _ => none)))))]) C hAO 7 rfl wcl_5_9 wao_X0 (by decide) (by decide) rfl (by decide) (by show _ ≤ (58 : Nat); omega) (by show _ ≤ (272 : Nat); omega) rfl rfl dX5_init_7 ?_
  refine zy_cs (k := 1) (n := 8) rfl rfl ?_
  refine zy_putF (j := 0) (v := .ref (zra G (P.length + 1))) (L' := [.inr (5, [.ref (zra G (P.length + 1)), .null, .int 0]), .inl (G.2.1 3, 8, .inr (.inr (.inr (.inr (fun _ => none)))))]) C hini 10 zcl5 rfl 0 (by decide) wf_5_11 rfl rfl rfl rfl (Nat.le_of_ble_eq_true rfl) rfl dX5_init_10 ?_
  refine zy_aload_n C 13 dX5_init_13 rfl 0 rfl ?_
  refine zy_bipush C 14 dX5_init_14 (by decide +kernel) ?_
  refine zy_newa (at0 := .boolean) (ty := .boolean) (t := 1) (j := 2) (n := 32) (a0 := (32, .inl (fun _ => 0))) (L' := [.inr (5, [.ref (zra G (P.length + 1)), .null, .int 0]), .inl (G.2.1 3, 8, .inr (.inr (.inr (.inr (fun _ => none))))), zAz G 32]) C 16 rfl rfl (fun _ _ h => h) war_boolean (fun _ => rfl) (by decide) (by decide) rfl (by decide) (by show _ ≤ (58 : Nat); omega) (by show _ ≤ (272 : Nat); omega) rfl rfl dX5_init_16 ?_
  refine zy_cs (k := 2) (n := 40) rfl rfl ?_
  refine zy_putF (j := 0) (v := .ref (zra G (P.length + 2))) (L' := [.inr (5, [.ref (zra G (P.length + 1)), .ref (zra G (P.length + 2)), .int 0]), .inl (G.2.1 3, 8, .inr (.inr (.inr (.inr (fun _ => none))))), zAz G 32]) C hini 18 zcl5 rfl 1 (by decide) wf_5_17 rfl rfl rfl rfl (Nat.le_of_ble_eq_true rfl) rfl dX5_init_18 ?_
  refine zy_aload_n C 21 dX5_init_21 rfl 0 rfl ?_
  refine zy_iconst C 22 dX5_init_22 ?_
  refine zy_put (j := 0) (v := .int (zI 0)) (L' := [.inr (5, [.ref (zra G (P.length + 1)), .ref (zra G (P.length + 2)), .int 0]), .inl (G.2.1 3, 8, .inr (.inr (.inr (.inr (fun _ => none))))), zAz G 32]) C 23 zcl5 rfl 2 (by decide) wf_5_21 rfl rfl rfl (Nat.le_of_ble_eq_true rfl) rfl dX5_init_23 ?_
  refine zy_iconst C 26 dX5_init_26 ?_
  refine zy_istore_n (lv' := [(1, .int (zI 0)), (0, .ref (zra G P.length))]) C 27 dX5_init_27 rfl (by decide) rfl ?_
  have hfl9 : ∀ t : Nat, (zfl (fun i => zL0 G (P.length + (3 + 7 * i))) t).length = 7 * t := zfl_len fun i => rfl
  have hL9 : ∀ (kz t : Nat), t ≤ 8 → 8 - t < kz → zY p l e (zR 3 58 272) s m ([.ref (zra G P.length)] : List Value).toArray below meth cz G 2 (MQ below (zyQ G (P ++ zL5 G P.length)) ([.ref (zra G P.length)] : List Value).toArray s 58 272 (zA G)) P (([.inr (5, [.ref (zra G (P.length + 1)), .ref (zra G (P.length + 2)), .int 0]), .inl (G.2.1 3, 8, .inr (.inr (.inr (.inr (zfill (fun j => zra G (P.length + (3 + 7 * j))) t))))), zAz G 32] : List va_E) ++ zfl (fun i => zL0 G (P.length + (3 + 7 * i))) t) (2 + 7 * t) (40 + 29 * t) 28 [(1, .int (zI (t : Int))), (0, .ref (zra G P.length))] [] := by
    intro kz
    induction kz with
    | zero => intro t h1 h2; omega
    | succ kz ih =>
      intro t h1 h2
      have hlen9 : (([.inr (5, [.ref (zra G (P.length + 1)), .ref (zra G (P.length + 2)), .int 0]), .inl (G.2.1 3, 8, .inr (.inr (.inr (.inr (zfill (fun j => zra G (P.length + (3 + 7 * j))) t))))), zAz G 32] : List va_E) ++ zfl (fun i => zL0 G (P.length + (3 + 7 * i))) t).length = 3 + 7 * t := by rw [List.length_append, hfl9]; rfl
      refine zy_iload_n C 28 dX5_init_28 rfl 0 rfl ?_
      refine zy_bipush C 29 dX5_init_29 (by decide +kernel) ?_
      refine zy_icmp_ge C 31 53 dX5_init_31 (by decide) (by omega) (by decide) (fun c9 => ?_) (fun c9 => ?_)
      · have ht : t = 8 := by omega
        subst ht
        refine zy_to _ (zN_swap 1 rfl rfl (fun H a h => zfill_at h)) ?_
        exact zy_ret C 53 dX5_init_53 (by decide) (by decide) (by rfl)
      refine zy_aload_n C 34 dX5_init_34 rfl 1 rfl ?_
      refine zy_get (j := 0) C 35 zcl5 rfl 0 (by decide) rfl wf_5_11 dX5_init_35 ?_
      refine zy_iload_n C 38 dX5_init_38 rfl 0 rfl ?_
      refine zy_new (j := 3 + 7 * t) C 39 zcl0 zdf0 wcl_5_9 wnew_0 wini_0 (by show _ ≤ (58 : Nat); omega) (by show _ ≤ (272 : Nat); omega) hlen9 rfl dX5_init_39 ?_
      refine zy_dup C 42 dX5_init_42 rfl ?_
      refine zy_callN (L0 := ([.inr (5, [.ref (zra G (P.length + 1)), .ref (zra G (P.length + 2)), .int 0]), .inl (G.2.1 3, 8, .inr (.inr (.inr (.inr (zfill (fun j => zra G (P.length + (3 + 7 * j))) t))))), zAz G 32] : List va_E) ++ zfl (fun i => zL0 G (P.length + (3 + 7 * i))) t) (j := 3 + 7 * t) C hAO 43 (c_X0_init l G (P ++ (([.inr (5, [.ref (zra G (P.length + 1)), .ref (zra G (P.length + 2)), .int 0]), .inl (G.2.1 3, 8, .inr (.inr (.inr (.inr (zfill (fun j => zra G (P.length + (3 + 7 * j))) t))))), zAz G 32] : List va_E) ++ zfl (fun i => zL0 G (P.length + (3 + 7 * i))) t))) wn_5_25 wc_X0_init wini_0 wi_X0_init rfl ⟨by decide, by decide, by decide⟩ ⟨by decide, by decide⟩ (Nat.le_of_ble_eq_true rfl) ⟨(by show _ ≤ (58 : Nat); omega), (by show _ ≤ (272 : Nat); omega)⟩ rfl hlen9 dX5_init_43 ?_
      refine zy_eq ((([.inr (5, [.ref (zra G (P.length + 1)), .ref (zra G (P.length + 2)), .int 0]), .inl (G.2.1 3, 8, .inr (.inr (.inr (.inr (zfill (fun j => zra G (P.length + (3 + 7 * j))) t))))), zAz G 32] : List va_E) ++ zfl (fun i => zL0 G (P.length + (3 + 7 * i))) t) ++ zL0 G (P.length + (3 + 7 * t))) (by rw [show (P ++ (([.inr (5, [.ref (zra G (P.length + 1)), .ref (zra G (P.length + 2)), .int 0]), .inl (G.2.1 3, 8, .inr (.inr (.inr (.inr (zfill (fun j => zra G (P.length + (3 + 7 * j))) t))))), zAz G 32] : List va_E) ++ zfl (fun i => zL0 G (P.length + (3 + 7 * i))) t)).length = P.length + (3 + 7 * t) by rw [List.length_append, hlen9]]) ?_
      refine zy_aast (j := 1) (jv := 3 + 7 * t) (t := 3) (ci := 0) (r := (RX0, TX0, 7)) (vs := [.ref (zra G (P.length + (3 + 7 * t) + 1)), .ref (zra G (P.length + (3 + 7 * t) + 2)), .ref (zra G (P.length + (3 + 7 * t) + 6)), .int (-1), .int 0, .int 0, .int 0]) (L' := (([.inr (5, [.ref (zra G (P.length + 1)), .ref (zra G (P.length + 2)), .int 0]), .inl (G.2.1 3, 8, .inr (.inr (.inr (.inr (zfill (fun j => zra G (P.length + (3 + 7 * j))) (t + 1)))))), zAz G 32] : List va_E) ++ zfl (fun i => zL0 G (P.length + (3 + 7 * i))) t) ++ zL0 G (P.length + (3 + 7 * t))) C 46 rfl rfl rfl ((zget0 hlen9).trans rfl) (by omega) (by omega) (by omega) (by rw [show ((t : Int)).toNat = t from rfl, zfill_up (w := fun j => zra G (P.length + (3 + 7 * j))) (t := t) rfl]; rfl) dX5_init_46 ?_
      refine zy_iinc (lv' := [(1, .int (zI ((t : Int) + 1))), (0, .ref (zra G P.length))]) C 47 dX5_init_47 0 rfl (by decide) rfl ?_
      refine zy_goto C 50 28 dX5_init_50 (by decide) ?_
      refine zy_eq (([.inr (5, [.ref (zra G (P.length + 1)), .ref (zra G (P.length + 2)), .int 0]), .inl (G.2.1 3, 8, .inr (.inr (.inr (.inr (zfill (fun j => zra G (P.length + (3 + 7 * j))) (t + 1)))))), zAz G 32] : List va_E) ++ zfl (fun i => zL0 G (P.length + (3 + 7 * i))) (t + 1)) (List.append_assoc _ _ _) ?_
      refine zy_cs (k := 2 + 7 * (t + 1)) (n := 40 + 29 * (t + 1)) (by omega) (by omega) ?_
      exact ih (t + 1) (by omega) (by omega)
  exact hL9 9 0 (by omega) (by omega)
def zL8 (G : zG) (k : Nat) : List va_E := [.inr (8, [.int 0, .int 0, .int (zI 100), .int (zI 20), .int 0, .ref (zra G (k + 1)), .ref (zra G (k + 2)), .ref (zra G (k + 3)), .ref (zra G (k + 4)), .ref (zra G (k + 5)), .ref (zra G (k + 6)), .ref (zra G (k + 7)), .ref (zra G (k + 8)), .int 0, .ref (zra G (k + 9)), .ref (zra G (k + 10)), .ref (zra G (k + 11)), .ref (zra G (k + 12)), .ref (zra G (k + 13)), .ref (zra G (k + 14)), .ref (zra G (k + 15)), .int 0, .ref (zra G (k + 16)), .ref (zra G (k + 17)), .ref (zra G (k + 18)), .ref (zra G (k + 19)), .ref (zra G (k + 20)), .ref (zra G (k + 21)), .ref (zra G (k + 22)), .ref (zra G (k + 23)), .ref (zra G (k + 24)), .ref (zra G (k + 25)), .ref (zra G (k + 26)), .ref (zra G (k + 27)), .int 0]), zAi G 24, zAi G 24, zAz G 24, zAi G 24, zAi G 24, zAi G 96, zAi G 96, zAi G 96, zAi G 12, zAi G 12, zAi G 12, zAz G 4, zAi G 4, zAz G 24, zAi G 24, zAi G 24, zAi G 24, zAi G 24, zAi G 24, zAi G 24, zAz G 24, zAi G 24, zAi G 96, zAi G 96, zAi G 96, zAi G 96, zAz G 96]
set_option maxHeartbeats 4000000 in
set_option maxRecDepth 100000 in
theorem c_X8_init (l : Launch) (G : zG) (P : List va_E) : Met l yX8_init [.code yX8_init cX8_init 1 none] (zR 1 27 1148) (zyPc G (P ++ [zb8]) [.ref (zra G P.length)]) (zyQ G (P ++ zL8 G P.length)) 27 1148 (zA G) := by
  refine zy_met [(0, .ref (zra G P.length))] (by decide) rfl (Nat.le_of_ble_eq_true rfl) rfl ?_
  intro p e s m below meth cz C hini hAO
  have C : zC p s m ([.ref (zra G P.length)] : List Value).toArray meth cz G RX8 cX8_init 1 none := C
  refine zy_aload_n C 0 dX8_init_0 rfl 0 rfl ?_
  refine zy_obj C 1 wm_8_1 dX8_init_1 (by decide) (by decide) ?_
  refine zy_aload_n C 4 dX8_init_4 rfl 0 rfl ?_
  refine zy_bipush C 5 dX8_init_5 (by decide +kernel) ?_
  refine zy_put (j := 0) (v := .int (zI 100)) (L' := [.inr (8, [.int 0, .int 0, .int (zI 100), .int 0, .int 0, .null, .null, .null, .null, .null, .null, .null, .null, .int 0, .null, .null, .null, .null, .null, .null, .null, .int 0, .null, .null, .null, .null, .null, .null, .null, .null, .null, .null, .null, .null, .int 0])]) C 7 zcl8 rfl 2 (by decide) wf_8_7 rfl rfl rfl (Nat.le_of_ble_eq_true rfl) rfl dX8_init_7 ?_
  refine zy_aload_n C 10 dX8_init_10 rfl 0 rfl ?_
  refine zy_bipush C 11 dX8_init_11 (by decide +kernel) ?_
  refine zy_put (j := 0) (v := .int (zI 20)) (L' := [.inr (8, [.int 0, .int 0, .int (zI 100), .int (zI 20), .int 0, .null, .null, .null, .null, .null, .null, .null, .null, .int 0, .null, .null, .null, .null, .null, .null, .null, .int 0, .null, .null, .null, .null, .null, .null, .null, .null, .null, .null, .null, .null, .int 0])]) C 13 zcl8 rfl 3 (by decide) wf_8_13 rfl rfl rfl (Nat.le_of_ble_eq_true rfl) rfl dX8_init_13 ?_
  refine zy_aload_n C 16 dX8_init_16 rfl 0 rfl ?_
  refine zy_bipush C 17 dX8_init_17 (by decide +kernel) ?_
  refine zy_newa (at0 := .int) (ty := .int) (t := 0) (j := 1) (n := 24) (a0 := (24, .inl (fun _ => 0))) (L' := [.inr (8, [.int 0, .int 0, .int (zI 100), .int (zI 20), .int 0, .null, .null, .null, .null, .null, .null, .null, .null, .int 0, .null, .null, .null, .null, .null, .null, .null, .int 0, .null, .null, .null, .null, .null, .null, .null, .null, .null, .null, .null, .null, .int 0]), zAi G 24]) C 19 rfl rfl (fun _ _ h => h) war_int (fun _ => rfl) (by decide) (by decide) rfl (by decide) (by show _ ≤ (27 : Nat); omega) (by show _ ≤ (1148 : Nat); omega) rfl rfl dX8_init_19 ?_
  refine zy_cs (k := 1) (n := 24) rfl rfl ?_
  refine zy_putF (j := 0) (v := .ref (zra G (P.length + 1))) (L' := [.inr (8, [.int 0, .int 0, .int (zI 100), .int (zI 20), .int 0, .ref (zra G (P.length + 1)), .null, .null, .null, .null, .null, .null, .null, .int 0, .null, .null, .null, .null, .null, .null, .null, .int 0, .null, .null, .null, .null, .null, .null, .null, .null, .null, .null, .null, .null, .int 0]), zAi G 24]) C hini 21 zcl8 rfl 5 (by decide) wf_8_16 rfl rfl rfl rfl (Nat.le_of_ble_eq_true rfl) rfl dX8_init_21 ?_
  refine zy_aload_n C 24 dX8_init_24 rfl 0 rfl ?_
  refine zy_bipush C 25 dX8_init_25 (by decide +kernel) ?_
  refine zy_newa (at0 := .int) (ty := .int) (t := 0) (j := 2) (n := 24) (a0 := (24, .inl (fun _ => 0))) (L' := [.inr (8, [.int 0, .int 0, .int (zI 100), .int (zI 20), .int 0, .ref (zra G (P.length + 1)), .null, .null, .null, .null, .null, .null, .null, .int 0, .null, .null, .null, .null, .null, .null, .null, .int 0, .null, .null, .null, .null, .null, .null, .null, .null, .null, .null, .null, .null, .int 0]), zAi G 24, zAi G 24]) C 27 rfl rfl (fun _ _ h => h) war_int (fun _ => rfl) (by decide) (by decide) rfl (by decide) (by show _ ≤ (27 : Nat); omega) (by show _ ≤ (1148 : Nat); omega) rfl rfl dX8_init_27 ?_
  refine zy_cs (k := 2) (n := 48) rfl rfl ?_
  refine zy_putF (j := 0) (v := .ref (zra G (P.length + 2))) (L' := [.inr (8, [.int 0, .int 0, .int (zI 100), .int (zI 20), .int 0, .ref (zra G (P.length + 1)), .ref (zra G (P.length + 2)), .null, .null, .null, .null, .null, .null, .int 0, .null, .null, .null, .null, .null, .null, .null, .int 0, .null, .null, .null, .null, .null, .null, .null, .null, .null, .null, .null, .null, .int 0]), zAi G 24, zAi G 24]) C hini 29 zcl8 rfl 6 (by decide) wf_8_20 rfl rfl rfl rfl (Nat.le_of_ble_eq_true rfl) rfl dX8_init_29 ?_
  refine zy_aload_n C 32 dX8_init_32 rfl 0 rfl ?_
  refine zy_bipush C 33 dX8_init_33 (by decide +kernel) ?_
  refine zy_newa (at0 := .boolean) (ty := .boolean) (t := 1) (j := 3) (n := 24) (a0 := (24, .inl (fun _ => 0))) (L' := [.inr (8, [.int 0, .int 0, .int (zI 100), .int (zI 20), .int 0, .ref (zra G (P.length + 1)), .ref (zra G (P.length + 2)), .null, .null, .null, .null, .null, .null, .int 0, .null, .null, .null, .null, .null, .null, .null, .int 0, .null, .null, .null, .null, .null, .null, .null, .null, .null, .null, .null, .null, .int 0]), zAi G 24, zAi G 24, zAz G 24]) C 35 rfl rfl (fun _ _ h => h) war_boolean (fun _ => rfl) (by decide) (by decide) rfl (by decide) (by show _ ≤ (27 : Nat); omega) (by show _ ≤ (1148 : Nat); omega) rfl rfl dX8_init_35 ?_
  refine zy_cs (k := 3) (n := 72) rfl rfl ?_
  refine zy_putF (j := 0) (v := .ref (zra G (P.length + 3))) (L' := [.inr (8, [.int 0, .int 0, .int (zI 100), .int (zI 20), .int 0, .ref (zra G (P.length + 1)), .ref (zra G (P.length + 2)), .ref (zra G (P.length + 3)), .null, .null, .null, .null, .null, .int 0, .null, .null, .null, .null, .null, .null, .null, .int 0, .null, .null, .null, .null, .null, .null, .null, .null, .null, .null, .null, .null, .int 0]), zAi G 24, zAi G 24, zAz G 24]) C hini 37 zcl8 rfl 7 (by decide) wf_8_23 rfl rfl rfl rfl (Nat.le_of_ble_eq_true rfl) rfl dX8_init_37 ?_
  refine zy_aload_n C 40 dX8_init_40 rfl 0 rfl ?_
  refine zy_bipush C 41 dX8_init_41 (by decide +kernel) ?_
  refine zy_newa (at0 := .int) (ty := .int) (t := 0) (j := 4) (n := 24) (a0 := (24, .inl (fun _ => 0))) (L' := [.inr (8, [.int 0, .int 0, .int (zI 100), .int (zI 20), .int 0, .ref (zra G (P.length + 1)), .ref (zra G (P.length + 2)), .ref (zra G (P.length + 3)), .null, .null, .null, .null, .null, .int 0, .null, .null, .null, .null, .null, .null, .null, .int 0, .null, .null, .null, .null, .null, .null, .null, .null, .null, .null, .null, .null, .int 0]), zAi G 24, zAi G 24, zAz G 24, zAi G 24]) C 43 rfl rfl (fun _ _ h => h) war_int (fun _ => rfl) (by decide) (by decide) rfl (by decide) (by show _ ≤ (27 : Nat); omega) (by show _ ≤ (1148 : Nat); omega) rfl rfl dX8_init_43 ?_
  refine zy_cs (k := 4) (n := 96) rfl rfl ?_
  refine zy_putF (j := 0) (v := .ref (zra G (P.length + 4))) (L' := [.inr (8, [.int 0, .int 0, .int (zI 100), .int (zI 20), .int 0, .ref (zra G (P.length + 1)), .ref (zra G (P.length + 2)), .ref (zra G (P.length + 3)), .ref (zra G (P.length + 4)), .null, .null, .null, .null, .int 0, .null, .null, .null, .null, .null, .null, .null, .int 0, .null, .null, .null, .null, .null, .null, .null, .null, .null, .null, .null, .null, .int 0]), zAi G 24, zAi G 24, zAz G 24, zAi G 24]) C hini 45 zcl8 rfl 8 (by decide) wf_8_27 rfl rfl rfl rfl (Nat.le_of_ble_eq_true rfl) rfl dX8_init_45 ?_
  refine zy_aload_n C 48 dX8_init_48 rfl 0 rfl ?_
  refine zy_bipush C 49 dX8_init_49 (by decide +kernel) ?_
  refine zy_newa (at0 := .int) (ty := .int) (t := 0) (j := 5) (n := 24) (a0 := (24, .inl (fun _ => 0))) (L' := [.inr (8, [.int 0, .int 0, .int (zI 100), .int (zI 20), .int 0, .ref (zra G (P.length + 1)), .ref (zra G (P.length + 2)), .ref (zra G (P.length + 3)), .ref (zra G (P.length + 4)), .null, .null, .null, .null, .int 0, .null, .null, .null, .null, .null, .null, .null, .int 0, .null, .null, .null, .null, .null, .null, .null, .null, .null, .null, .null, .null, .int 0]), zAi G 24, zAi G 24, zAz G 24, zAi G 24, zAi G 24]) C 51 rfl rfl (fun _ _ h => h) war_int (fun _ => rfl) (by decide) (by decide) rfl (by decide) (by show _ ≤ (27 : Nat); omega) (by show _ ≤ (1148 : Nat); omega) rfl rfl dX8_init_51 ?_
  refine zy_cs (k := 5) (n := 120) rfl rfl ?_
  refine zy_putF (j := 0) (v := .ref (zra G (P.length + 5))) (L' := [.inr (8, [.int 0, .int 0, .int (zI 100), .int (zI 20), .int 0, .ref (zra G (P.length + 1)), .ref (zra G (P.length + 2)), .ref (zra G (P.length + 3)), .ref (zra G (P.length + 4)), .ref (zra G (P.length + 5)), .null, .null, .null, .int 0, .null, .null, .null, .null, .null, .null, .null, .int 0, .null, .null, .null, .null, .null, .null, .null, .null, .null, .null, .null, .null, .int 0]), zAi G 24, zAi G 24, zAz G 24, zAi G 24, zAi G 24]) C hini 53 zcl8 rfl 9 (by decide) wf_8_30 rfl rfl rfl rfl (Nat.le_of_ble_eq_true rfl) rfl dX8_init_53 ?_
  refine zy_aload_n C 56 dX8_init_56 rfl 0 rfl ?_
  refine zy_bipush C 57 dX8_init_57 (by decide +kernel) ?_
  refine zy_newa (at0 := .int) (ty := .int) (t := 0) (j := 6) (n := 96) (a0 := (96, .inl (fun _ => 0))) (L' := [.inr (8, [.int 0, .int 0, .int (zI 100), .int (zI 20), .int 0, .ref (zra G (P.length + 1)), .ref (zra G (P.length + 2)), .ref (zra G (P.length + 3)), .ref (zra G (P.length + 4)), .ref (zra G (P.length + 5)), .null, .null, .null, .int 0, .null, .null, .null, .null, .null, .null, .null, .int 0, .null, .null, .null, .null, .null, .null, .null, .null, .null, .null, .null, .null, .int 0]), zAi G 24, zAi G 24, zAz G 24, zAi G 24, zAi G 24, zAi G 96]) C 59 rfl rfl (fun _ _ h => h) war_int (fun _ => rfl) (by decide) (by decide) rfl (by decide) (by show _ ≤ (27 : Nat); omega) (by show _ ≤ (1148 : Nat); omega) rfl rfl dX8_init_59 ?_
  refine zy_cs (k := 6) (n := 216) rfl rfl ?_
  refine zy_putF (j := 0) (v := .ref (zra G (P.length + 6))) (L' := [.inr (8, [.int 0, .int 0, .int (zI 100), .int (zI 20), .int 0, .ref (zra G (P.length + 1)), .ref (zra G (P.length + 2)), .ref (zra G (P.length + 3)), .ref (zra G (P.length + 4)), .ref (zra G (P.length + 5)), .ref (zra G (P.length + 6)), .null, .null, .int 0, .null, .null, .null, .null, .null, .null, .null, .int 0, .null, .null, .null, .null, .null, .null, .null, .null, .null, .null, .null, .null, .int 0]), zAi G 24, zAi G 24, zAz G 24, zAi G 24, zAi G 24, zAi G 96]) C hini 61 zcl8 rfl 10 (by decide) wf_8_33 rfl rfl rfl rfl (Nat.le_of_ble_eq_true rfl) rfl dX8_init_61 ?_
  refine zy_aload_n C 64 dX8_init_64 rfl 0 rfl ?_
  refine zy_bipush C 65 dX8_init_65 (by decide +kernel) ?_
  refine zy_newa (at0 := .int) (ty := .int) (t := 0) (j := 7) (n := 96) (a0 := (96, .inl (fun _ => 0))) (L' := [.inr (8, [.int 0, .int 0, .int (zI 100), .int (zI 20), .int 0, .ref (zra G (P.length + 1)), .ref (zra G (P.length + 2)), .ref (zra G (P.length + 3)), .ref (zra G (P.length + 4)), .ref (zra G (P.length + 5)), .ref (zra G (P.length + 6)), .null, .null, .int 0, .null, .null, .null, .null, .null, .null, .null, .int 0, .null, .null, .null, .null, .null, .null, .null, .null, .null, .null, .null, .null, .int 0]), zAi G 24, zAi G 24, zAz G 24, zAi G 24, zAi G 24, zAi G 96, zAi G 96]) C 67 rfl rfl (fun _ _ h => h) war_int (fun _ => rfl) (by decide) (by decide) rfl (by decide) (by show _ ≤ (27 : Nat); omega) (by show _ ≤ (1148 : Nat); omega) rfl rfl dX8_init_67 ?_
  refine zy_cs (k := 7) (n := 312) rfl rfl ?_
  refine zy_putF (j := 0) (v := .ref (zra G (P.length + 7))) (L' := [.inr (8, [.int 0, .int 0, .int (zI 100), .int (zI 20), .int 0, .ref (zra G (P.length + 1)), .ref (zra G (P.length + 2)), .ref (zra G (P.length + 3)), .ref (zra G (P.length + 4)), .ref (zra G (P.length + 5)), .ref (zra G (P.length + 6)), .ref (zra G (P.length + 7)), .null, .int 0, .null, .null, .null, .null, .null, .null, .null, .int 0, .null, .null, .null, .null, .null, .null, .null, .null, .null, .null, .null, .null, .int 0]), zAi G 24, zAi G 24, zAz G 24, zAi G 24, zAi G 24, zAi G 96, zAi G 96]) C hini 69 zcl8 rfl 11 (by decide) wf_8_36 rfl rfl rfl rfl (Nat.le_of_ble_eq_true rfl) rfl dX8_init_69 ?_
  refine zy_aload_n C 72 dX8_init_72 rfl 0 rfl ?_
  refine zy_bipush C 73 dX8_init_73 (by decide +kernel) ?_
  refine zy_newa (at0 := .int) (ty := .int) (t := 0) (j := 8) (n := 96) (a0 := (96, .inl (fun _ => 0))) (L' := [.inr (8, [.int 0, .int 0, .int (zI 100), .int (zI 20), .int 0, .ref (zra G (P.length + 1)), .ref (zra G (P.length + 2)), .ref (zra G (P.length + 3)), .ref (zra G (P.length + 4)), .ref (zra G (P.length + 5)), .ref (zra G (P.length + 6)), .ref (zra G (P.length + 7)), .null, .int 0, .null, .null, .null, .null, .null, .null, .null, .int 0, .null, .null, .null, .null, .null, .null, .null, .null, .null, .null, .null, .null, .int 0]), zAi G 24, zAi G 24, zAz G 24, zAi G 24, zAi G 24, zAi G 96, zAi G 96, zAi G 96]) C 75 rfl rfl (fun _ _ h => h) war_int (fun _ => rfl) (by decide) (by decide) rfl (by decide) (by show _ ≤ (27 : Nat); omega) (by show _ ≤ (1148 : Nat); omega) rfl rfl dX8_init_75 ?_
  refine zy_cs (k := 8) (n := 408) rfl rfl ?_
  refine zy_putF (j := 0) (v := .ref (zra G (P.length + 8))) (L' := [.inr (8, [.int 0, .int 0, .int (zI 100), .int (zI 20), .int 0, .ref (zra G (P.length + 1)), .ref (zra G (P.length + 2)), .ref (zra G (P.length + 3)), .ref (zra G (P.length + 4)), .ref (zra G (P.length + 5)), .ref (zra G (P.length + 6)), .ref (zra G (P.length + 7)), .ref (zra G (P.length + 8)), .int 0, .null, .null, .null, .null, .null, .null, .null, .int 0, .null, .null, .null, .null, .null, .null, .null, .null, .null, .null, .null, .null, .int 0]), zAi G 24, zAi G 24, zAz G 24, zAi G 24, zAi G 24, zAi G 96, zAi G 96, zAi G 96]) C hini 77 zcl8 rfl 12 (by decide) wf_8_39 rfl rfl rfl rfl (Nat.le_of_ble_eq_true rfl) rfl dX8_init_77 ?_
  refine zy_aload_n C 80 dX8_init_80 rfl 0 rfl ?_
  refine zy_bipush C 81 dX8_init_81 (by decide +kernel) ?_
  refine zy_newa (at0 := .int) (ty := .int) (t := 0) (j := 9) (n := 12) (a0 := (12, .inl (fun _ => 0))) (L' := [.inr (8, [.int 0, .int 0, .int (zI 100), .int (zI 20), .int 0, .ref (zra G (P.length + 1)), .ref (zra G (P.length + 2)), .ref (zra G (P.length + 3)), .ref (zra G (P.length + 4)), .ref (zra G (P.length + 5)), .ref (zra G (P.length + 6)), .ref (zra G (P.length + 7)), .ref (zra G (P.length + 8)), .int 0, .null, .null, .null, .null, .null, .null, .null, .int 0, .null, .null, .null, .null, .null, .null, .null, .null, .null, .null, .null, .null, .int 0]), zAi G 24, zAi G 24, zAz G 24, zAi G 24, zAi G 24, zAi G 96, zAi G 96, zAi G 96, zAi G 12]) C 83 rfl rfl (fun _ _ h => h) war_int (fun _ => rfl) (by decide) (by decide) rfl (by decide) (by show _ ≤ (27 : Nat); omega) (by show _ ≤ (1148 : Nat); omega) rfl rfl dX8_init_83 ?_
  refine zy_cs (k := 9) (n := 420) rfl rfl ?_
  refine zy_putF (j := 0) (v := .ref (zra G (P.length + 9))) (L' := [.inr (8, [.int 0, .int 0, .int (zI 100), .int (zI 20), .int 0, .ref (zra G (P.length + 1)), .ref (zra G (P.length + 2)), .ref (zra G (P.length + 3)), .ref (zra G (P.length + 4)), .ref (zra G (P.length + 5)), .ref (zra G (P.length + 6)), .ref (zra G (P.length + 7)), .ref (zra G (P.length + 8)), .int 0, .ref (zra G (P.length + 9)), .null, .null, .null, .null, .null, .null, .int 0, .null, .null, .null, .null, .null, .null, .null, .null, .null, .null, .null, .null, .int 0]), zAi G 24, zAi G 24, zAz G 24, zAi G 24, zAi G 24, zAi G 96, zAi G 96, zAi G 96, zAi G 12]) C hini 85 zcl8 rfl 14 (by decide) wf_8_42 rfl rfl rfl rfl (Nat.le_of_ble_eq_true rfl) rfl dX8_init_85 ?_
  refine zy_aload_n C 88 dX8_init_88 rfl 0 rfl ?_
  refine zy_bipush C 89 dX8_init_89 (by decide +kernel) ?_
  refine zy_newa (at0 := .int) (ty := .int) (t := 0) (j := 10) (n := 12) (a0 := (12, .inl (fun _ => 0))) (L' := [.inr (8, [.int 0, .int 0, .int (zI 100), .int (zI 20), .int 0, .ref (zra G (P.length + 1)), .ref (zra G (P.length + 2)), .ref (zra G (P.length + 3)), .ref (zra G (P.length + 4)), .ref (zra G (P.length + 5)), .ref (zra G (P.length + 6)), .ref (zra G (P.length + 7)), .ref (zra G (P.length + 8)), .int 0, .ref (zra G (P.length + 9)), .null, .null, .null, .null, .null, .null, .int 0, .null, .null, .null, .null, .null, .null, .null, .null, .null, .null, .null, .null, .int 0]), zAi G 24, zAi G 24, zAz G 24, zAi G 24, zAi G 24, zAi G 96, zAi G 96, zAi G 96, zAi G 12, zAi G 12]) C 91 rfl rfl (fun _ _ h => h) war_int (fun _ => rfl) (by decide) (by decide) rfl (by decide) (by show _ ≤ (27 : Nat); omega) (by show _ ≤ (1148 : Nat); omega) rfl rfl dX8_init_91 ?_
  refine zy_cs (k := 10) (n := 432) rfl rfl ?_
  refine zy_putF (j := 0) (v := .ref (zra G (P.length + 10))) (L' := [.inr (8, [.int 0, .int 0, .int (zI 100), .int (zI 20), .int 0, .ref (zra G (P.length + 1)), .ref (zra G (P.length + 2)), .ref (zra G (P.length + 3)), .ref (zra G (P.length + 4)), .ref (zra G (P.length + 5)), .ref (zra G (P.length + 6)), .ref (zra G (P.length + 7)), .ref (zra G (P.length + 8)), .int 0, .ref (zra G (P.length + 9)), .ref (zra G (P.length + 10)), .null, .null, .null, .null, .null, .int 0, .null, .null, .null, .null, .null, .null, .null, .null, .null, .null, .null, .null, .int 0]), zAi G 24, zAi G 24, zAz G 24, zAi G 24, zAi G 24, zAi G 96, zAi G 96, zAi G 96, zAi G 12, zAi G 12]) C hini 93 zcl8 rfl 15 (by decide) wf_8_45 rfl rfl rfl rfl (Nat.le_of_ble_eq_true rfl) rfl dX8_init_93 ?_
  refine zy_aload_n C 96 dX8_init_96 rfl 0 rfl ?_
  refine zy_bipush C 97 dX8_init_97 (by decide +kernel) ?_
  refine zy_newa (at0 := .int) (ty := .int) (t := 0) (j := 11) (n := 12) (a0 := (12, .inl (fun _ => 0))) (L' := [.inr (8, [.int 0, .int 0, .int (zI 100), .int (zI 20), .int 0, .ref (zra G (P.length + 1)), .ref (zra G (P.length + 2)), .ref (zra G (P.length + 3)), .ref (zra G (P.length + 4)), .ref (zra G (P.length + 5)), .ref (zra G (P.length + 6)), .ref (zra G (P.length + 7)), .ref (zra G (P.length + 8)), .int 0, .ref (zra G (P.length + 9)), .ref (zra G (P.length + 10)), .null, .null, .null, .null, .null, .int 0, .null, .null, .null, .null, .null, .null, .null, .null, .null, .null, .null, .null, .int 0]), zAi G 24, zAi G 24, zAz G 24, zAi G 24, zAi G 24, zAi G 96, zAi G 96, zAi G 96, zAi G 12, zAi G 12, zAi G 12]) C 99 rfl rfl (fun _ _ h => h) war_int (fun _ => rfl) (by decide) (by decide) rfl (by decide) (by show _ ≤ (27 : Nat); omega) (by show _ ≤ (1148 : Nat); omega) rfl rfl dX8_init_99 ?_
  refine zy_cs (k := 11) (n := 444) rfl rfl ?_
  refine zy_putF (j := 0) (v := .ref (zra G (P.length + 11))) (L' := [.inr (8, [.int 0, .int 0, .int (zI 100), .int (zI 20), .int 0, .ref (zra G (P.length + 1)), .ref (zra G (P.length + 2)), .ref (zra G (P.length + 3)), .ref (zra G (P.length + 4)), .ref (zra G (P.length + 5)), .ref (zra G (P.length + 6)), .ref (zra G (P.length + 7)), .ref (zra G (P.length + 8)), .int 0, .ref (zra G (P.length + 9)), .ref (zra G (P.length + 10)), .ref (zra G (P.length + 11)), .null, .null, .null, .null, .int 0, .null, .null, .null, .null, .null, .null, .null, .null, .null, .null, .null, .null, .int 0]), zAi G 24, zAi G 24, zAz G 24, zAi G 24, zAi G 24, zAi G 96, zAi G 96, zAi G 96, zAi G 12, zAi G 12, zAi G 12]) C hini 101 zcl8 rfl 16 (by decide) wf_8_48 rfl rfl rfl rfl (Nat.le_of_ble_eq_true rfl) rfl dX8_init_101 ?_
  refine zy_aload_n C 104 dX8_init_104 rfl 0 rfl ?_
  refine zy_iconst C 105 dX8_init_105 ?_
  refine zy_newa (at0 := .boolean) (ty := .boolean) (t := 1) (j := 12) (n := 4) (a0 := (4, .inl (fun _ => 0))) (L' := [.inr (8, [.int 0, .int 0, .int (zI 100), .int (zI 20), .int 0, .ref (zra G (P.length + 1)), .ref (zra G (P.length + 2)), .ref (zra G (P.length + 3)), .ref (zra G (P.length + 4)), .ref (zra G (P.length + 5)), .ref (zra G (P.length + 6)), .ref (zra G (P.length + 7)), .ref (zra G (P.length + 8)), .int 0, .ref (zra G (P.length + 9)), .ref (zra G (P.length + 10)), .ref (zra G (P.length + 11)), .null, .null, .null, .null, .int 0, .null, .null, .null, .null, .null, .null, .null, .null, .null, .null, .null, .null, .int 0]), zAi G 24, zAi G 24, zAz G 24, zAi G 24, zAi G 24, zAi G 96, zAi G 96, zAi G 96, zAi G 12, zAi G 12, zAi G 12, zAz G 4]) C 106 rfl rfl (fun _ _ h => h) war_boolean (fun _ => rfl) (by decide) (by decide) rfl (by decide) (by show _ ≤ (27 : Nat); omega) (by show _ ≤ (1148 : Nat); omega) rfl rfl dX8_init_106 ?_
  refine zy_cs (k := 12) (n := 448) rfl rfl ?_
  refine zy_putF (j := 0) (v := .ref (zra G (P.length + 12))) (L' := [.inr (8, [.int 0, .int 0, .int (zI 100), .int (zI 20), .int 0, .ref (zra G (P.length + 1)), .ref (zra G (P.length + 2)), .ref (zra G (P.length + 3)), .ref (zra G (P.length + 4)), .ref (zra G (P.length + 5)), .ref (zra G (P.length + 6)), .ref (zra G (P.length + 7)), .ref (zra G (P.length + 8)), .int 0, .ref (zra G (P.length + 9)), .ref (zra G (P.length + 10)), .ref (zra G (P.length + 11)), .ref (zra G (P.length + 12)), .null, .null, .null, .int 0, .null, .null, .null, .null, .null, .null, .null, .null, .null, .null, .null, .null, .int 0]), zAi G 24, zAi G 24, zAz G 24, zAi G 24, zAi G 24, zAi G 96, zAi G 96, zAi G 96, zAi G 12, zAi G 12, zAi G 12, zAz G 4]) C hini 108 zcl8 rfl 17 (by decide) wf_8_51 rfl rfl rfl rfl (Nat.le_of_ble_eq_true rfl) rfl dX8_init_108 ?_
  refine zy_aload_n C 111 dX8_init_111 rfl 0 rfl ?_
  refine zy_iconst C 112 dX8_init_112 ?_
  refine zy_newa (at0 := .int) (ty := .int) (t := 0) (j := 13) (n := 4) (a0 := (4, .inl (fun _ => 0))) (L' := [.inr (8, [.int 0, .int 0, .int (zI 100), .int (zI 20), .int 0, .ref (zra G (P.length + 1)), .ref (zra G (P.length + 2)), .ref (zra G (P.length + 3)), .ref (zra G (P.length + 4)), .ref (zra G (P.length + 5)), .ref (zra G (P.length + 6)), .ref (zra G (P.length + 7)), .ref (zra G (P.length + 8)), .int 0, .ref (zra G (P.length + 9)), .ref (zra G (P.length + 10)), .ref (zra G (P.length + 11)), .ref (zra G (P.length + 12)), .null, .null, .null, .int 0, .null, .null, .null, .null, .null, .null, .null, .null, .null, .null, .null, .null, .int 0]), zAi G 24, zAi G 24, zAz G 24, zAi G 24, zAi G 24, zAi G 96, zAi G 96, zAi G 96, zAi G 12, zAi G 12, zAi G 12, zAz G 4, zAi G 4]) C 113 rfl rfl (fun _ _ h => h) war_int (fun _ => rfl) (by decide) (by decide) rfl (by decide) (by show _ ≤ (27 : Nat); omega) (by show _ ≤ (1148 : Nat); omega) rfl rfl dX8_init_113 ?_
  refine zy_cs (k := 13) (n := 452) rfl rfl ?_
  refine zy_putF (j := 0) (v := .ref (zra G (P.length + 13))) (L' := [.inr (8, [.int 0, .int 0, .int (zI 100), .int (zI 20), .int 0, .ref (zra G (P.length + 1)), .ref (zra G (P.length + 2)), .ref (zra G (P.length + 3)), .ref (zra G (P.length + 4)), .ref (zra G (P.length + 5)), .ref (zra G (P.length + 6)), .ref (zra G (P.length + 7)), .ref (zra G (P.length + 8)), .int 0, .ref (zra G (P.length + 9)), .ref (zra G (P.length + 10)), .ref (zra G (P.length + 11)), .ref (zra G (P.length + 12)), .ref (zra G (P.length + 13)), .null, .null, .int 0, .null, .null, .null, .null, .null, .null, .null, .null, .null, .null, .null, .null, .int 0]), zAi G 24, zAi G 24, zAz G 24, zAi G 24, zAi G 24, zAi G 96, zAi G 96, zAi G 96, zAi G 12, zAi G 12, zAi G 12, zAz G 4, zAi G 4]) C hini 115 zcl8 rfl 18 (by decide) wf_8_54 rfl rfl rfl rfl (Nat.le_of_ble_eq_true rfl) rfl dX8_init_115 ?_
  refine zy_aload_n C 118 dX8_init_118 rfl 0 rfl ?_
  refine zy_bipush C 119 dX8_init_119 (by decide +kernel) ?_
  refine zy_newa (at0 := .boolean) (ty := .boolean) (t := 1) (j := 14) (n := 24) (a0 := (24, .inl (fun _ => 0))) (L' := [.inr (8, [.int 0, .int 0, .int (zI 100), .int (zI 20), .int 0, .ref (zra G (P.length + 1)), .ref (zra G (P.length + 2)), .ref (zra G (P.length + 3)), .ref (zra G (P.length + 4)), .ref (zra G (P.length + 5)), .ref (zra G (P.length + 6)), .ref (zra G (P.length + 7)), .ref (zra G (P.length + 8)), .int 0, .ref (zra G (P.length + 9)), .ref (zra G (P.length + 10)), .ref (zra G (P.length + 11)), .ref (zra G (P.length + 12)), .ref (zra G (P.length + 13)), .null, .null, .int 0, .null, .null, .null, .null, .null, .null, .null, .null, .null, .null, .null, .null, .int 0]), zAi G 24, zAi G 24, zAz G 24, zAi G 24, zAi G 24, zAi G 96, zAi G 96, zAi G 96, zAi G 12, zAi G 12, zAi G 12, zAz G 4, zAi G 4, zAz G 24]) C 121 rfl rfl (fun _ _ h => h) war_boolean (fun _ => rfl) (by decide) (by decide) rfl (by decide) (by show _ ≤ (27 : Nat); omega) (by show _ ≤ (1148 : Nat); omega) rfl rfl dX8_init_121 ?_
  refine zy_cs (k := 14) (n := 476) rfl rfl ?_
  refine zy_putF (j := 0) (v := .ref (zra G (P.length + 14))) (L' := [.inr (8, [.int 0, .int 0, .int (zI 100), .int (zI 20), .int 0, .ref (zra G (P.length + 1)), .ref (zra G (P.length + 2)), .ref (zra G (P.length + 3)), .ref (zra G (P.length + 4)), .ref (zra G (P.length + 5)), .ref (zra G (P.length + 6)), .ref (zra G (P.length + 7)), .ref (zra G (P.length + 8)), .int 0, .ref (zra G (P.length + 9)), .ref (zra G (P.length + 10)), .ref (zra G (P.length + 11)), .ref (zra G (P.length + 12)), .ref (zra G (P.length + 13)), .ref (zra G (P.length + 14)), .null, .int 0, .null, .null, .null, .null, .null, .null, .null, .null, .null, .null, .null, .null, .int 0]), zAi G 24, zAi G 24, zAz G 24, zAi G 24, zAi G 24, zAi G 96, zAi G 96, zAi G 96, zAi G 12, zAi G 12, zAi G 12, zAz G 4, zAi G 4, zAz G 24]) C hini 123 zcl8 rfl 19 (by decide) wf_8_57 rfl rfl rfl rfl (Nat.le_of_ble_eq_true rfl) rfl dX8_init_123 ?_
  refine zy_aload_n C 126 dX8_init_126 rfl 0 rfl ?_
  refine zy_bipush C 127 dX8_init_127 (by decide +kernel) ?_
  refine zy_newa (at0 := .int) (ty := .int) (t := 0) (j := 15) (n := 24) (a0 := (24, .inl (fun _ => 0))) (L' := [.inr (8, [.int 0, .int 0, .int (zI 100), .int (zI 20), .int 0, .ref (zra G (P.length + 1)), .ref (zra G (P.length + 2)), .ref (zra G (P.length + 3)), .ref (zra G (P.length + 4)), .ref (zra G (P.length + 5)), .ref (zra G (P.length + 6)), .ref (zra G (P.length + 7)), .ref (zra G (P.length + 8)), .int 0, .ref (zra G (P.length + 9)), .ref (zra G (P.length + 10)), .ref (zra G (P.length + 11)), .ref (zra G (P.length + 12)), .ref (zra G (P.length + 13)), .ref (zra G (P.length + 14)), .null, .int 0, .null, .null, .null, .null, .null, .null, .null, .null, .null, .null, .null, .null, .int 0]), zAi G 24, zAi G 24, zAz G 24, zAi G 24, zAi G 24, zAi G 96, zAi G 96, zAi G 96, zAi G 12, zAi G 12, zAi G 12, zAz G 4, zAi G 4, zAz G 24, zAi G 24]) C 129 rfl rfl (fun _ _ h => h) war_int (fun _ => rfl) (by decide) (by decide) rfl (by decide) (by show _ ≤ (27 : Nat); omega) (by show _ ≤ (1148 : Nat); omega) rfl rfl dX8_init_129 ?_
  refine zy_cs (k := 15) (n := 500) rfl rfl ?_
  refine zy_putF (j := 0) (v := .ref (zra G (P.length + 15))) (L' := [.inr (8, [.int 0, .int 0, .int (zI 100), .int (zI 20), .int 0, .ref (zra G (P.length + 1)), .ref (zra G (P.length + 2)), .ref (zra G (P.length + 3)), .ref (zra G (P.length + 4)), .ref (zra G (P.length + 5)), .ref (zra G (P.length + 6)), .ref (zra G (P.length + 7)), .ref (zra G (P.length + 8)), .int 0, .ref (zra G (P.length + 9)), .ref (zra G (P.length + 10)), .ref (zra G (P.length + 11)), .ref (zra G (P.length + 12)), .ref (zra G (P.length + 13)), .ref (zra G (P.length + 14)), .ref (zra G (P.length + 15)), .int 0, .null, .null, .null, .null, .null, .null, .null, .null, .null, .null, .null, .null, .int 0]), zAi G 24, zAi G 24, zAz G 24, zAi G 24, zAi G 24, zAi G 96, zAi G 96, zAi G 96, zAi G 12, zAi G 12, zAi G 12, zAz G 4, zAi G 4, zAz G 24, zAi G 24]) C hini 131 zcl8 rfl 20 (by decide) wf_8_60 rfl rfl rfl rfl (Nat.le_of_ble_eq_true rfl) rfl dX8_init_131 ?_
  refine zy_aload_n C 134 dX8_init_134 rfl 0 rfl ?_
  refine zy_bipush C 135 dX8_init_135 (by decide +kernel) ?_
  refine zy_newa (at0 := .int) (ty := .int) (t := 0) (j := 16) (n := 24) (a0 := (24, .inl (fun _ => 0))) (L' := [.inr (8, [.int 0, .int 0, .int (zI 100), .int (zI 20), .int 0, .ref (zra G (P.length + 1)), .ref (zra G (P.length + 2)), .ref (zra G (P.length + 3)), .ref (zra G (P.length + 4)), .ref (zra G (P.length + 5)), .ref (zra G (P.length + 6)), .ref (zra G (P.length + 7)), .ref (zra G (P.length + 8)), .int 0, .ref (zra G (P.length + 9)), .ref (zra G (P.length + 10)), .ref (zra G (P.length + 11)), .ref (zra G (P.length + 12)), .ref (zra G (P.length + 13)), .ref (zra G (P.length + 14)), .ref (zra G (P.length + 15)), .int 0, .null, .null, .null, .null, .null, .null, .null, .null, .null, .null, .null, .null, .int 0]), zAi G 24, zAi G 24, zAz G 24, zAi G 24, zAi G 24, zAi G 96, zAi G 96, zAi G 96, zAi G 12, zAi G 12, zAi G 12, zAz G 4, zAi G 4, zAz G 24, zAi G 24, zAi G 24]) C 137 rfl rfl (fun _ _ h => h) war_int (fun _ => rfl) (by decide) (by decide) rfl (by decide) (by show _ ≤ (27 : Nat); omega) (by show _ ≤ (1148 : Nat); omega) rfl rfl dX8_init_137 ?_
  refine zy_cs (k := 16) (n := 524) rfl rfl ?_
  refine zy_putF (j := 0) (v := .ref (zra G (P.length + 16))) (L' := [.inr (8, [.int 0, .int 0, .int (zI 100), .int (zI 20), .int 0, .ref (zra G (P.length + 1)), .ref (zra G (P.length + 2)), .ref (zra G (P.length + 3)), .ref (zra G (P.length + 4)), .ref (zra G (P.length + 5)), .ref (zra G (P.length + 6)), .ref (zra G (P.length + 7)), .ref (zra G (P.length + 8)), .int 0, .ref (zra G (P.length + 9)), .ref (zra G (P.length + 10)), .ref (zra G (P.length + 11)), .ref (zra G (P.length + 12)), .ref (zra G (P.length + 13)), .ref (zra G (P.length + 14)), .ref (zra G (P.length + 15)), .int 0, .ref (zra G (P.length + 16)), .null, .null, .null, .null, .null, .null, .null, .null, .null, .null, .null, .int 0]), zAi G 24, zAi G 24, zAz G 24, zAi G 24, zAi G 24, zAi G 96, zAi G 96, zAi G 96, zAi G 12, zAi G 12, zAi G 12, zAz G 4, zAi G 4, zAz G 24, zAi G 24, zAi G 24]) C hini 139 zcl8 rfl 22 (by decide) wf_8_63 rfl rfl rfl rfl (Nat.le_of_ble_eq_true rfl) rfl dX8_init_139 ?_
  refine zy_aload_n C 142 dX8_init_142 rfl 0 rfl ?_
  refine zy_bipush C 143 dX8_init_143 (by decide +kernel) ?_
  refine zy_newa (at0 := .int) (ty := .int) (t := 0) (j := 17) (n := 24) (a0 := (24, .inl (fun _ => 0))) (L' := [.inr (8, [.int 0, .int 0, .int (zI 100), .int (zI 20), .int 0, .ref (zra G (P.length + 1)), .ref (zra G (P.length + 2)), .ref (zra G (P.length + 3)), .ref (zra G (P.length + 4)), .ref (zra G (P.length + 5)), .ref (zra G (P.length + 6)), .ref (zra G (P.length + 7)), .ref (zra G (P.length + 8)), .int 0, .ref (zra G (P.length + 9)), .ref (zra G (P.length + 10)), .ref (zra G (P.length + 11)), .ref (zra G (P.length + 12)), .ref (zra G (P.length + 13)), .ref (zra G (P.length + 14)), .ref (zra G (P.length + 15)), .int 0, .ref (zra G (P.length + 16)), .null, .null, .null, .null, .null, .null, .null, .null, .null, .null, .null, .int 0]), zAi G 24, zAi G 24, zAz G 24, zAi G 24, zAi G 24, zAi G 96, zAi G 96, zAi G 96, zAi G 12, zAi G 12, zAi G 12, zAz G 4, zAi G 4, zAz G 24, zAi G 24, zAi G 24, zAi G 24]) C 145 rfl rfl (fun _ _ h => h) war_int (fun _ => rfl) (by decide) (by decide) rfl (by decide) (by show _ ≤ (27 : Nat); omega) (by show _ ≤ (1148 : Nat); omega) rfl rfl dX8_init_145 ?_
  refine zy_cs (k := 17) (n := 548) rfl rfl ?_
  refine zy_putF (j := 0) (v := .ref (zra G (P.length + 17))) (L' := [.inr (8, [.int 0, .int 0, .int (zI 100), .int (zI 20), .int 0, .ref (zra G (P.length + 1)), .ref (zra G (P.length + 2)), .ref (zra G (P.length + 3)), .ref (zra G (P.length + 4)), .ref (zra G (P.length + 5)), .ref (zra G (P.length + 6)), .ref (zra G (P.length + 7)), .ref (zra G (P.length + 8)), .int 0, .ref (zra G (P.length + 9)), .ref (zra G (P.length + 10)), .ref (zra G (P.length + 11)), .ref (zra G (P.length + 12)), .ref (zra G (P.length + 13)), .ref (zra G (P.length + 14)), .ref (zra G (P.length + 15)), .int 0, .ref (zra G (P.length + 16)), .ref (zra G (P.length + 17)), .null, .null, .null, .null, .null, .null, .null, .null, .null, .null, .int 0]), zAi G 24, zAi G 24, zAz G 24, zAi G 24, zAi G 24, zAi G 96, zAi G 96, zAi G 96, zAi G 12, zAi G 12, zAi G 12, zAz G 4, zAi G 4, zAz G 24, zAi G 24, zAi G 24, zAi G 24]) C hini 147 zcl8 rfl 23 (by decide) wf_8_66 rfl rfl rfl rfl (Nat.le_of_ble_eq_true rfl) rfl dX8_init_147 ?_
  refine zy_aload_n C 150 dX8_init_150 rfl 0 rfl ?_
  refine zy_bipush C 151 dX8_init_151 (by decide +kernel) ?_
  refine zy_newa (at0 := .int) (ty := .int) (t := 0) (j := 18) (n := 24) (a0 := (24, .inl (fun _ => 0))) (L' := [.inr (8, [.int 0, .int 0, .int (zI 100), .int (zI 20), .int 0, .ref (zra G (P.length + 1)), .ref (zra G (P.length + 2)), .ref (zra G (P.length + 3)), .ref (zra G (P.length + 4)), .ref (zra G (P.length + 5)), .ref (zra G (P.length + 6)), .ref (zra G (P.length + 7)), .ref (zra G (P.length + 8)), .int 0, .ref (zra G (P.length + 9)), .ref (zra G (P.length + 10)), .ref (zra G (P.length + 11)), .ref (zra G (P.length + 12)), .ref (zra G (P.length + 13)), .ref (zra G (P.length + 14)), .ref (zra G (P.length + 15)), .int 0, .ref (zra G (P.length + 16)), .ref (zra G (P.length + 17)), .null, .null, .null, .null, .null, .null, .null, .null, .null, .null, .int 0]), zAi G 24, zAi G 24, zAz G 24, zAi G 24, zAi G 24, zAi G 96, zAi G 96, zAi G 96, zAi G 12, zAi G 12, zAi G 12, zAz G 4, zAi G 4, zAz G 24, zAi G 24, zAi G 24, zAi G 24, zAi G 24]) C 153 rfl rfl (fun _ _ h => h) war_int (fun _ => rfl) (by decide) (by decide) rfl (by decide) (by show _ ≤ (27 : Nat); omega) (by show _ ≤ (1148 : Nat); omega) rfl rfl dX8_init_153 ?_
  refine zy_cs (k := 18) (n := 572) rfl rfl ?_
  refine zy_putF (j := 0) (v := .ref (zra G (P.length + 18))) (L' := [.inr (8, [.int 0, .int 0, .int (zI 100), .int (zI 20), .int 0, .ref (zra G (P.length + 1)), .ref (zra G (P.length + 2)), .ref (zra G (P.length + 3)), .ref (zra G (P.length + 4)), .ref (zra G (P.length + 5)), .ref (zra G (P.length + 6)), .ref (zra G (P.length + 7)), .ref (zra G (P.length + 8)), .int 0, .ref (zra G (P.length + 9)), .ref (zra G (P.length + 10)), .ref (zra G (P.length + 11)), .ref (zra G (P.length + 12)), .ref (zra G (P.length + 13)), .ref (zra G (P.length + 14)), .ref (zra G (P.length + 15)), .int 0, .ref (zra G (P.length + 16)), .ref (zra G (P.length + 17)), .ref (zra G (P.length + 18)), .null, .null, .null, .null, .null, .null, .null, .null, .null, .int 0]), zAi G 24, zAi G 24, zAz G 24, zAi G 24, zAi G 24, zAi G 96, zAi G 96, zAi G 96, zAi G 12, zAi G 12, zAi G 12, zAz G 4, zAi G 4, zAz G 24, zAi G 24, zAi G 24, zAi G 24, zAi G 24]) C hini 155 zcl8 rfl 24 (by decide) wf_8_69 rfl rfl rfl rfl (Nat.le_of_ble_eq_true rfl) rfl dX8_init_155 ?_
  refine zy_aload_n C 158 dX8_init_158 rfl 0 rfl ?_
  refine zy_bipush C 159 dX8_init_159 (by decide +kernel) ?_
  refine zy_newa (at0 := .int) (ty := .int) (t := 0) (j := 19) (n := 24) (a0 := (24, .inl (fun _ => 0))) (L' := [.inr (8, [.int 0, .int 0, .int (zI 100), .int (zI 20), .int 0, .ref (zra G (P.length + 1)), .ref (zra G (P.length + 2)), .ref (zra G (P.length + 3)), .ref (zra G (P.length + 4)), .ref (zra G (P.length + 5)), .ref (zra G (P.length + 6)), .ref (zra G (P.length + 7)), .ref (zra G (P.length + 8)), .int 0, .ref (zra G (P.length + 9)), .ref (zra G (P.length + 10)), .ref (zra G (P.length + 11)), .ref (zra G (P.length + 12)), .ref (zra G (P.length + 13)), .ref (zra G (P.length + 14)), .ref (zra G (P.length + 15)), .int 0, .ref (zra G (P.length + 16)), .ref (zra G (P.length + 17)), .ref (zra G (P.length + 18)), .null, .null, .null, .null, .null, .null, .null, .null, .null, .int 0]), zAi G 24, zAi G 24, zAz G 24, zAi G 24, zAi G 24, zAi G 96, zAi G 96, zAi G 96, zAi G 12, zAi G 12, zAi G 12, zAz G 4, zAi G 4, zAz G 24, zAi G 24, zAi G 24, zAi G 24, zAi G 24, zAi G 24]) C 161 rfl rfl (fun _ _ h => h) war_int (fun _ => rfl) (by decide) (by decide) rfl (by decide) (by show _ ≤ (27 : Nat); omega) (by show _ ≤ (1148 : Nat); omega) rfl rfl dX8_init_161 ?_
  refine zy_cs (k := 19) (n := 596) rfl rfl ?_
  refine zy_putF (j := 0) (v := .ref (zra G (P.length + 19))) (L' := [.inr (8, [.int 0, .int 0, .int (zI 100), .int (zI 20), .int 0, .ref (zra G (P.length + 1)), .ref (zra G (P.length + 2)), .ref (zra G (P.length + 3)), .ref (zra G (P.length + 4)), .ref (zra G (P.length + 5)), .ref (zra G (P.length + 6)), .ref (zra G (P.length + 7)), .ref (zra G (P.length + 8)), .int 0, .ref (zra G (P.length + 9)), .ref (zra G (P.length + 10)), .ref (zra G (P.length + 11)), .ref (zra G (P.length + 12)), .ref (zra G (P.length + 13)), .ref (zra G (P.length + 14)), .ref (zra G (P.length + 15)), .int 0, .ref (zra G (P.length + 16)), .ref (zra G (P.length + 17)), .ref (zra G (P.length + 18)), .ref (zra G (P.length + 19)), .null, .null, .null, .null, .null, .null, .null, .null, .int 0]), zAi G 24, zAi G 24, zAz G 24, zAi G 24, zAi G 24, zAi G 96, zAi G 96, zAi G 96, zAi G 12, zAi G 12, zAi G 12, zAz G 4, zAi G 4, zAz G 24, zAi G 24, zAi G 24, zAi G 24, zAi G 24, zAi G 24]) C hini 163 zcl8 rfl 25 (by decide) wf_8_72 rfl rfl rfl rfl (Nat.le_of_ble_eq_true rfl) rfl dX8_init_163 ?_
  refine zy_aload_n C 166 dX8_init_166 rfl 0 rfl ?_
  refine zy_bipush C 167 dX8_init_167 (by decide +kernel) ?_
  refine zy_newa (at0 := .int) (ty := .int) (t := 0) (j := 20) (n := 24) (a0 := (24, .inl (fun _ => 0))) (L' := [.inr (8, [.int 0, .int 0, .int (zI 100), .int (zI 20), .int 0, .ref (zra G (P.length + 1)), .ref (zra G (P.length + 2)), .ref (zra G (P.length + 3)), .ref (zra G (P.length + 4)), .ref (zra G (P.length + 5)), .ref (zra G (P.length + 6)), .ref (zra G (P.length + 7)), .ref (zra G (P.length + 8)), .int 0, .ref (zra G (P.length + 9)), .ref (zra G (P.length + 10)), .ref (zra G (P.length + 11)), .ref (zra G (P.length + 12)), .ref (zra G (P.length + 13)), .ref (zra G (P.length + 14)), .ref (zra G (P.length + 15)), .int 0, .ref (zra G (P.length + 16)), .ref (zra G (P.length + 17)), .ref (zra G (P.length + 18)), .ref (zra G (P.length + 19)), .null, .null, .null, .null, .null, .null, .null, .null, .int 0]), zAi G 24, zAi G 24, zAz G 24, zAi G 24, zAi G 24, zAi G 96, zAi G 96, zAi G 96, zAi G 12, zAi G 12, zAi G 12, zAz G 4, zAi G 4, zAz G 24, zAi G 24, zAi G 24, zAi G 24, zAi G 24, zAi G 24, zAi G 24]) C 169 rfl rfl (fun _ _ h => h) war_int (fun _ => rfl) (by decide) (by decide) rfl (by decide) (by show _ ≤ (27 : Nat); omega) (by show _ ≤ (1148 : Nat); omega) rfl rfl dX8_init_169 ?_
  refine zy_cs (k := 20) (n := 620) rfl rfl ?_
  refine zy_putF (j := 0) (v := .ref (zra G (P.length + 20))) (L' := [.inr (8, [.int 0, .int 0, .int (zI 100), .int (zI 20), .int 0, .ref (zra G (P.length + 1)), .ref (zra G (P.length + 2)), .ref (zra G (P.length + 3)), .ref (zra G (P.length + 4)), .ref (zra G (P.length + 5)), .ref (zra G (P.length + 6)), .ref (zra G (P.length + 7)), .ref (zra G (P.length + 8)), .int 0, .ref (zra G (P.length + 9)), .ref (zra G (P.length + 10)), .ref (zra G (P.length + 11)), .ref (zra G (P.length + 12)), .ref (zra G (P.length + 13)), .ref (zra G (P.length + 14)), .ref (zra G (P.length + 15)), .int 0, .ref (zra G (P.length + 16)), .ref (zra G (P.length + 17)), .ref (zra G (P.length + 18)), .ref (zra G (P.length + 19)), .ref (zra G (P.length + 20)), .null, .null, .null, .null, .null, .null, .null, .int 0]), zAi G 24, zAi G 24, zAz G 24, zAi G 24, zAi G 24, zAi G 96, zAi G 96, zAi G 96, zAi G 12, zAi G 12, zAi G 12, zAz G 4, zAi G 4, zAz G 24, zAi G 24, zAi G 24, zAi G 24, zAi G 24, zAi G 24, zAi G 24]) C hini 171 zcl8 rfl 26 (by decide) wf_8_75 rfl rfl rfl rfl (Nat.le_of_ble_eq_true rfl) rfl dX8_init_171 ?_
  refine zy_aload_n C 174 dX8_init_174 rfl 0 rfl ?_
  refine zy_bipush C 175 dX8_init_175 (by decide +kernel) ?_
  refine zy_newa (at0 := .boolean) (ty := .boolean) (t := 1) (j := 21) (n := 24) (a0 := (24, .inl (fun _ => 0))) (L' := [.inr (8, [.int 0, .int 0, .int (zI 100), .int (zI 20), .int 0, .ref (zra G (P.length + 1)), .ref (zra G (P.length + 2)), .ref (zra G (P.length + 3)), .ref (zra G (P.length + 4)), .ref (zra G (P.length + 5)), .ref (zra G (P.length + 6)), .ref (zra G (P.length + 7)), .ref (zra G (P.length + 8)), .int 0, .ref (zra G (P.length + 9)), .ref (zra G (P.length + 10)), .ref (zra G (P.length + 11)), .ref (zra G (P.length + 12)), .ref (zra G (P.length + 13)), .ref (zra G (P.length + 14)), .ref (zra G (P.length + 15)), .int 0, .ref (zra G (P.length + 16)), .ref (zra G (P.length + 17)), .ref (zra G (P.length + 18)), .ref (zra G (P.length + 19)), .ref (zra G (P.length + 20)), .null, .null, .null, .null, .null, .null, .null, .int 0]), zAi G 24, zAi G 24, zAz G 24, zAi G 24, zAi G 24, zAi G 96, zAi G 96, zAi G 96, zAi G 12, zAi G 12, zAi G 12, zAz G 4, zAi G 4, zAz G 24, zAi G 24, zAi G 24, zAi G 24, zAi G 24, zAi G 24, zAi G 24, zAz G 24]) C 177 rfl rfl (fun _ _ h => h) war_boolean (fun _ => rfl) (by decide) (by decide) rfl (by decide) (by show _ ≤ (27 : Nat); omega) (by show _ ≤ (1148 : Nat); omega) rfl rfl dX8_init_177 ?_
  refine zy_cs (k := 21) (n := 644) rfl rfl ?_
  refine zy_putF (j := 0) (v := .ref (zra G (P.length + 21))) (L' := [.inr (8, [.int 0, .int 0, .int (zI 100), .int (zI 20), .int 0, .ref (zra G (P.length + 1)), .ref (zra G (P.length + 2)), .ref (zra G (P.length + 3)), .ref (zra G (P.length + 4)), .ref (zra G (P.length + 5)), .ref (zra G (P.length + 6)), .ref (zra G (P.length + 7)), .ref (zra G (P.length + 8)), .int 0, .ref (zra G (P.length + 9)), .ref (zra G (P.length + 10)), .ref (zra G (P.length + 11)), .ref (zra G (P.length + 12)), .ref (zra G (P.length + 13)), .ref (zra G (P.length + 14)), .ref (zra G (P.length + 15)), .int 0, .ref (zra G (P.length + 16)), .ref (zra G (P.length + 17)), .ref (zra G (P.length + 18)), .ref (zra G (P.length + 19)), .ref (zra G (P.length + 20)), .ref (zra G (P.length + 21)), .null, .null, .null, .null, .null, .null, .int 0]), zAi G 24, zAi G 24, zAz G 24, zAi G 24, zAi G 24, zAi G 96, zAi G 96, zAi G 96, zAi G 12, zAi G 12, zAi G 12, zAz G 4, zAi G 4, zAz G 24, zAi G 24, zAi G 24, zAi G 24, zAi G 24, zAi G 24, zAi G 24, zAz G 24]) C hini 179 zcl8 rfl 27 (by decide) wf_8_78 rfl rfl rfl rfl (Nat.le_of_ble_eq_true rfl) rfl dX8_init_179 ?_
  refine zy_aload_n C 182 dX8_init_182 rfl 0 rfl ?_
  refine zy_bipush C 183 dX8_init_183 (by decide +kernel) ?_
  refine zy_newa (at0 := .int) (ty := .int) (t := 0) (j := 22) (n := 24) (a0 := (24, .inl (fun _ => 0))) (L' := [.inr (8, [.int 0, .int 0, .int (zI 100), .int (zI 20), .int 0, .ref (zra G (P.length + 1)), .ref (zra G (P.length + 2)), .ref (zra G (P.length + 3)), .ref (zra G (P.length + 4)), .ref (zra G (P.length + 5)), .ref (zra G (P.length + 6)), .ref (zra G (P.length + 7)), .ref (zra G (P.length + 8)), .int 0, .ref (zra G (P.length + 9)), .ref (zra G (P.length + 10)), .ref (zra G (P.length + 11)), .ref (zra G (P.length + 12)), .ref (zra G (P.length + 13)), .ref (zra G (P.length + 14)), .ref (zra G (P.length + 15)), .int 0, .ref (zra G (P.length + 16)), .ref (zra G (P.length + 17)), .ref (zra G (P.length + 18)), .ref (zra G (P.length + 19)), .ref (zra G (P.length + 20)), .ref (zra G (P.length + 21)), .null, .null, .null, .null, .null, .null, .int 0]), zAi G 24, zAi G 24, zAz G 24, zAi G 24, zAi G 24, zAi G 96, zAi G 96, zAi G 96, zAi G 12, zAi G 12, zAi G 12, zAz G 4, zAi G 4, zAz G 24, zAi G 24, zAi G 24, zAi G 24, zAi G 24, zAi G 24, zAi G 24, zAz G 24, zAi G 24]) C 185 rfl rfl (fun _ _ h => h) war_int (fun _ => rfl) (by decide) (by decide) rfl (by decide) (by show _ ≤ (27 : Nat); omega) (by show _ ≤ (1148 : Nat); omega) rfl rfl dX8_init_185 ?_
  refine zy_cs (k := 22) (n := 668) rfl rfl ?_
  refine zy_putF (j := 0) (v := .ref (zra G (P.length + 22))) (L' := [.inr (8, [.int 0, .int 0, .int (zI 100), .int (zI 20), .int 0, .ref (zra G (P.length + 1)), .ref (zra G (P.length + 2)), .ref (zra G (P.length + 3)), .ref (zra G (P.length + 4)), .ref (zra G (P.length + 5)), .ref (zra G (P.length + 6)), .ref (zra G (P.length + 7)), .ref (zra G (P.length + 8)), .int 0, .ref (zra G (P.length + 9)), .ref (zra G (P.length + 10)), .ref (zra G (P.length + 11)), .ref (zra G (P.length + 12)), .ref (zra G (P.length + 13)), .ref (zra G (P.length + 14)), .ref (zra G (P.length + 15)), .int 0, .ref (zra G (P.length + 16)), .ref (zra G (P.length + 17)), .ref (zra G (P.length + 18)), .ref (zra G (P.length + 19)), .ref (zra G (P.length + 20)), .ref (zra G (P.length + 21)), .ref (zra G (P.length + 22)), .null, .null, .null, .null, .null, .int 0]), zAi G 24, zAi G 24, zAz G 24, zAi G 24, zAi G 24, zAi G 96, zAi G 96, zAi G 96, zAi G 12, zAi G 12, zAi G 12, zAz G 4, zAi G 4, zAz G 24, zAi G 24, zAi G 24, zAi G 24, zAi G 24, zAi G 24, zAi G 24, zAz G 24, zAi G 24]) C hini 187 zcl8 rfl 28 (by decide) wf_8_81 rfl rfl rfl rfl (Nat.le_of_ble_eq_true rfl) rfl dX8_init_187 ?_
  refine zy_aload_n C 190 dX8_init_190 rfl 0 rfl ?_
  refine zy_bipush C 191 dX8_init_191 (by decide +kernel) ?_
  refine zy_newa (at0 := .int) (ty := .int) (t := 0) (j := 23) (n := 96) (a0 := (96, .inl (fun _ => 0))) (L' := [.inr (8, [.int 0, .int 0, .int (zI 100), .int (zI 20), .int 0, .ref (zra G (P.length + 1)), .ref (zra G (P.length + 2)), .ref (zra G (P.length + 3)), .ref (zra G (P.length + 4)), .ref (zra G (P.length + 5)), .ref (zra G (P.length + 6)), .ref (zra G (P.length + 7)), .ref (zra G (P.length + 8)), .int 0, .ref (zra G (P.length + 9)), .ref (zra G (P.length + 10)), .ref (zra G (P.length + 11)), .ref (zra G (P.length + 12)), .ref (zra G (P.length + 13)), .ref (zra G (P.length + 14)), .ref (zra G (P.length + 15)), .int 0, .ref (zra G (P.length + 16)), .ref (zra G (P.length + 17)), .ref (zra G (P.length + 18)), .ref (zra G (P.length + 19)), .ref (zra G (P.length + 20)), .ref (zra G (P.length + 21)), .ref (zra G (P.length + 22)), .null, .null, .null, .null, .null, .int 0]), zAi G 24, zAi G 24, zAz G 24, zAi G 24, zAi G 24, zAi G 96, zAi G 96, zAi G 96, zAi G 12, zAi G 12, zAi G 12, zAz G 4, zAi G 4, zAz G 24, zAi G 24, zAi G 24, zAi G 24, zAi G 24, zAi G 24, zAi G 24, zAz G 24, zAi G 24, zAi G 96]) C 193 rfl rfl (fun _ _ h => h) war_int (fun _ => rfl) (by decide) (by decide) rfl (by decide) (by show _ ≤ (27 : Nat); omega) (by show _ ≤ (1148 : Nat); omega) rfl rfl dX8_init_193 ?_
  refine zy_cs (k := 23) (n := 764) rfl rfl ?_
  refine zy_putF (j := 0) (v := .ref (zra G (P.length + 23))) (L' := [.inr (8, [.int 0, .int 0, .int (zI 100), .int (zI 20), .int 0, .ref (zra G (P.length + 1)), .ref (zra G (P.length + 2)), .ref (zra G (P.length + 3)), .ref (zra G (P.length + 4)), .ref (zra G (P.length + 5)), .ref (zra G (P.length + 6)), .ref (zra G (P.length + 7)), .ref (zra G (P.length + 8)), .int 0, .ref (zra G (P.length + 9)), .ref (zra G (P.length + 10)), .ref (zra G (P.length + 11)), .ref (zra G (P.length + 12)), .ref (zra G (P.length + 13)), .ref (zra G (P.length + 14)), .ref (zra G (P.length + 15)), .int 0, .ref (zra G (P.length + 16)), .ref (zra G (P.length + 17)), .ref (zra G (P.length + 18)), .ref (zra G (P.length + 19)), .ref (zra G (P.length + 20)), .ref (zra G (P.length + 21)), .ref (zra G (P.length + 22)), .ref (zra G (P.length + 23)), .null, .null, .null, .null, .int 0]), zAi G 24, zAi G 24, zAz G 24, zAi G 24, zAi G 24, zAi G 96, zAi G 96, zAi G 96, zAi G 12, zAi G 12, zAi G 12, zAz G 4, zAi G 4, zAz G 24, zAi G 24, zAi G 24, zAi G 24, zAi G 24, zAi G 24, zAi G 24, zAz G 24, zAi G 24, zAi G 96]) C hini 195 zcl8 rfl 29 (by decide) wf_8_84 rfl rfl rfl rfl (Nat.le_of_ble_eq_true rfl) rfl dX8_init_195 ?_
  refine zy_aload_n C 198 dX8_init_198 rfl 0 rfl ?_
  refine zy_bipush C 199 dX8_init_199 (by decide +kernel) ?_
  refine zy_newa (at0 := .int) (ty := .int) (t := 0) (j := 24) (n := 96) (a0 := (96, .inl (fun _ => 0))) (L' := [.inr (8, [.int 0, .int 0, .int (zI 100), .int (zI 20), .int 0, .ref (zra G (P.length + 1)), .ref (zra G (P.length + 2)), .ref (zra G (P.length + 3)), .ref (zra G (P.length + 4)), .ref (zra G (P.length + 5)), .ref (zra G (P.length + 6)), .ref (zra G (P.length + 7)), .ref (zra G (P.length + 8)), .int 0, .ref (zra G (P.length + 9)), .ref (zra G (P.length + 10)), .ref (zra G (P.length + 11)), .ref (zra G (P.length + 12)), .ref (zra G (P.length + 13)), .ref (zra G (P.length + 14)), .ref (zra G (P.length + 15)), .int 0, .ref (zra G (P.length + 16)), .ref (zra G (P.length + 17)), .ref (zra G (P.length + 18)), .ref (zra G (P.length + 19)), .ref (zra G (P.length + 20)), .ref (zra G (P.length + 21)), .ref (zra G (P.length + 22)), .ref (zra G (P.length + 23)), .null, .null, .null, .null, .int 0]), zAi G 24, zAi G 24, zAz G 24, zAi G 24, zAi G 24, zAi G 96, zAi G 96, zAi G 96, zAi G 12, zAi G 12, zAi G 12, zAz G 4, zAi G 4, zAz G 24, zAi G 24, zAi G 24, zAi G 24, zAi G 24, zAi G 24, zAi G 24, zAz G 24, zAi G 24, zAi G 96, zAi G 96]) C 201 rfl rfl (fun _ _ h => h) war_int (fun _ => rfl) (by decide) (by decide) rfl (by decide) (by show _ ≤ (27 : Nat); omega) (by show _ ≤ (1148 : Nat); omega) rfl rfl dX8_init_201 ?_
  refine zy_cs (k := 24) (n := 860) rfl rfl ?_
  refine zy_putF (j := 0) (v := .ref (zra G (P.length + 24))) (L' := [.inr (8, [.int 0, .int 0, .int (zI 100), .int (zI 20), .int 0, .ref (zra G (P.length + 1)), .ref (zra G (P.length + 2)), .ref (zra G (P.length + 3)), .ref (zra G (P.length + 4)), .ref (zra G (P.length + 5)), .ref (zra G (P.length + 6)), .ref (zra G (P.length + 7)), .ref (zra G (P.length + 8)), .int 0, .ref (zra G (P.length + 9)), .ref (zra G (P.length + 10)), .ref (zra G (P.length + 11)), .ref (zra G (P.length + 12)), .ref (zra G (P.length + 13)), .ref (zra G (P.length + 14)), .ref (zra G (P.length + 15)), .int 0, .ref (zra G (P.length + 16)), .ref (zra G (P.length + 17)), .ref (zra G (P.length + 18)), .ref (zra G (P.length + 19)), .ref (zra G (P.length + 20)), .ref (zra G (P.length + 21)), .ref (zra G (P.length + 22)), .ref (zra G (P.length + 23)), .ref (zra G (P.length + 24)), .null, .null, .null, .int 0]), zAi G 24, zAi G 24, zAz G 24, zAi G 24, zAi G 24, zAi G 96, zAi G 96, zAi G 96, zAi G 12, zAi G 12, zAi G 12, zAz G 4, zAi G 4, zAz G 24, zAi G 24, zAi G 24, zAi G 24, zAi G 24, zAi G 24, zAi G 24, zAz G 24, zAi G 24, zAi G 96, zAi G 96]) C hini 203 zcl8 rfl 30 (by decide) wf_8_87 rfl rfl rfl rfl (Nat.le_of_ble_eq_true rfl) rfl dX8_init_203 ?_
  refine zy_aload_n C 206 dX8_init_206 rfl 0 rfl ?_
  refine zy_bipush C 207 dX8_init_207 (by decide +kernel) ?_
  refine zy_newa (at0 := .int) (ty := .int) (t := 0) (j := 25) (n := 96) (a0 := (96, .inl (fun _ => 0))) (L' := [.inr (8, [.int 0, .int 0, .int (zI 100), .int (zI 20), .int 0, .ref (zra G (P.length + 1)), .ref (zra G (P.length + 2)), .ref (zra G (P.length + 3)), .ref (zra G (P.length + 4)), .ref (zra G (P.length + 5)), .ref (zra G (P.length + 6)), .ref (zra G (P.length + 7)), .ref (zra G (P.length + 8)), .int 0, .ref (zra G (P.length + 9)), .ref (zra G (P.length + 10)), .ref (zra G (P.length + 11)), .ref (zra G (P.length + 12)), .ref (zra G (P.length + 13)), .ref (zra G (P.length + 14)), .ref (zra G (P.length + 15)), .int 0, .ref (zra G (P.length + 16)), .ref (zra G (P.length + 17)), .ref (zra G (P.length + 18)), .ref (zra G (P.length + 19)), .ref (zra G (P.length + 20)), .ref (zra G (P.length + 21)), .ref (zra G (P.length + 22)), .ref (zra G (P.length + 23)), .ref (zra G (P.length + 24)), .null, .null, .null, .int 0]), zAi G 24, zAi G 24, zAz G 24, zAi G 24, zAi G 24, zAi G 96, zAi G 96, zAi G 96, zAi G 12, zAi G 12, zAi G 12, zAz G 4, zAi G 4, zAz G 24, zAi G 24, zAi G 24, zAi G 24, zAi G 24, zAi G 24, zAi G 24, zAz G 24, zAi G 24, zAi G 96, zAi G 96, zAi G 96]) C 209 rfl rfl (fun _ _ h => h) war_int (fun _ => rfl) (by decide) (by decide) rfl (by decide) (by show _ ≤ (27 : Nat); omega) (by show _ ≤ (1148 : Nat); omega) rfl rfl dX8_init_209 ?_
  refine zy_cs (k := 25) (n := 956) rfl rfl ?_
  refine zy_putF (j := 0) (v := .ref (zra G (P.length + 25))) (L' := [.inr (8, [.int 0, .int 0, .int (zI 100), .int (zI 20), .int 0, .ref (zra G (P.length + 1)), .ref (zra G (P.length + 2)), .ref (zra G (P.length + 3)), .ref (zra G (P.length + 4)), .ref (zra G (P.length + 5)), .ref (zra G (P.length + 6)), .ref (zra G (P.length + 7)), .ref (zra G (P.length + 8)), .int 0, .ref (zra G (P.length + 9)), .ref (zra G (P.length + 10)), .ref (zra G (P.length + 11)), .ref (zra G (P.length + 12)), .ref (zra G (P.length + 13)), .ref (zra G (P.length + 14)), .ref (zra G (P.length + 15)), .int 0, .ref (zra G (P.length + 16)), .ref (zra G (P.length + 17)), .ref (zra G (P.length + 18)), .ref (zra G (P.length + 19)), .ref (zra G (P.length + 20)), .ref (zra G (P.length + 21)), .ref (zra G (P.length + 22)), .ref (zra G (P.length + 23)), .ref (zra G (P.length + 24)), .ref (zra G (P.length + 25)), .null, .null, .int 0]), zAi G 24, zAi G 24, zAz G 24, zAi G 24, zAi G 24, zAi G 96, zAi G 96, zAi G 96, zAi G 12, zAi G 12, zAi G 12, zAz G 4, zAi G 4, zAz G 24, zAi G 24, zAi G 24, zAi G 24, zAi G 24, zAi G 24, zAi G 24, zAz G 24, zAi G 24, zAi G 96, zAi G 96, zAi G 96]) C hini 211 zcl8 rfl 31 (by decide) wf_8_90 rfl rfl rfl rfl (Nat.le_of_ble_eq_true rfl) rfl dX8_init_211 ?_
  refine zy_aload_n C 214 dX8_init_214 rfl 0 rfl ?_
  refine zy_bipush C 215 dX8_init_215 (by decide +kernel) ?_
  refine zy_newa (at0 := .int) (ty := .int) (t := 0) (j := 26) (n := 96) (a0 := (96, .inl (fun _ => 0))) (L' := [.inr (8, [.int 0, .int 0, .int (zI 100), .int (zI 20), .int 0, .ref (zra G (P.length + 1)), .ref (zra G (P.length + 2)), .ref (zra G (P.length + 3)), .ref (zra G (P.length + 4)), .ref (zra G (P.length + 5)), .ref (zra G (P.length + 6)), .ref (zra G (P.length + 7)), .ref (zra G (P.length + 8)), .int 0, .ref (zra G (P.length + 9)), .ref (zra G (P.length + 10)), .ref (zra G (P.length + 11)), .ref (zra G (P.length + 12)), .ref (zra G (P.length + 13)), .ref (zra G (P.length + 14)), .ref (zra G (P.length + 15)), .int 0, .ref (zra G (P.length + 16)), .ref (zra G (P.length + 17)), .ref (zra G (P.length + 18)), .ref (zra G (P.length + 19)), .ref (zra G (P.length + 20)), .ref (zra G (P.length + 21)), .ref (zra G (P.length + 22)), .ref (zra G (P.length + 23)), .ref (zra G (P.length + 24)), .ref (zra G (P.length + 25)), .null, .null, .int 0]), zAi G 24, zAi G 24, zAz G 24, zAi G 24, zAi G 24, zAi G 96, zAi G 96, zAi G 96, zAi G 12, zAi G 12, zAi G 12, zAz G 4, zAi G 4, zAz G 24, zAi G 24, zAi G 24, zAi G 24, zAi G 24, zAi G 24, zAi G 24, zAz G 24, zAi G 24, zAi G 96, zAi G 96, zAi G 96, zAi G 96]) C 217 rfl rfl (fun _ _ h => h) war_int (fun _ => rfl) (by decide) (by decide) rfl (by decide) (by show _ ≤ (27 : Nat); omega) (by show _ ≤ (1148 : Nat); omega) rfl rfl dX8_init_217 ?_
  refine zy_cs (k := 26) (n := 1052) rfl rfl ?_
  refine zy_putF (j := 0) (v := .ref (zra G (P.length + 26))) (L' := [.inr (8, [.int 0, .int 0, .int (zI 100), .int (zI 20), .int 0, .ref (zra G (P.length + 1)), .ref (zra G (P.length + 2)), .ref (zra G (P.length + 3)), .ref (zra G (P.length + 4)), .ref (zra G (P.length + 5)), .ref (zra G (P.length + 6)), .ref (zra G (P.length + 7)), .ref (zra G (P.length + 8)), .int 0, .ref (zra G (P.length + 9)), .ref (zra G (P.length + 10)), .ref (zra G (P.length + 11)), .ref (zra G (P.length + 12)), .ref (zra G (P.length + 13)), .ref (zra G (P.length + 14)), .ref (zra G (P.length + 15)), .int 0, .ref (zra G (P.length + 16)), .ref (zra G (P.length + 17)), .ref (zra G (P.length + 18)), .ref (zra G (P.length + 19)), .ref (zra G (P.length + 20)), .ref (zra G (P.length + 21)), .ref (zra G (P.length + 22)), .ref (zra G (P.length + 23)), .ref (zra G (P.length + 24)), .ref (zra G (P.length + 25)), .ref (zra G (P.length + 26)), .null, .int 0]), zAi G 24, zAi G 24, zAz G 24, zAi G 24, zAi G 24, zAi G 96, zAi G 96, zAi G 96, zAi G 12, zAi G 12, zAi G 12, zAz G 4, zAi G 4, zAz G 24, zAi G 24, zAi G 24, zAi G 24, zAi G 24, zAi G 24, zAi G 24, zAz G 24, zAi G 24, zAi G 96, zAi G 96, zAi G 96, zAi G 96]) C hini 219 zcl8 rfl 32 (by decide) wf_8_93 rfl rfl rfl rfl (Nat.le_of_ble_eq_true rfl) rfl dX8_init_219 ?_
  refine zy_aload_n C 222 dX8_init_222 rfl 0 rfl ?_
  refine zy_bipush C 223 dX8_init_223 (by decide +kernel) ?_
  refine zy_newa (at0 := .boolean) (ty := .boolean) (t := 1) (j := 27) (n := 96) (a0 := (96, .inl (fun _ => 0))) (L' := [.inr (8, [.int 0, .int 0, .int (zI 100), .int (zI 20), .int 0, .ref (zra G (P.length + 1)), .ref (zra G (P.length + 2)), .ref (zra G (P.length + 3)), .ref (zra G (P.length + 4)), .ref (zra G (P.length + 5)), .ref (zra G (P.length + 6)), .ref (zra G (P.length + 7)), .ref (zra G (P.length + 8)), .int 0, .ref (zra G (P.length + 9)), .ref (zra G (P.length + 10)), .ref (zra G (P.length + 11)), .ref (zra G (P.length + 12)), .ref (zra G (P.length + 13)), .ref (zra G (P.length + 14)), .ref (zra G (P.length + 15)), .int 0, .ref (zra G (P.length + 16)), .ref (zra G (P.length + 17)), .ref (zra G (P.length + 18)), .ref (zra G (P.length + 19)), .ref (zra G (P.length + 20)), .ref (zra G (P.length + 21)), .ref (zra G (P.length + 22)), .ref (zra G (P.length + 23)), .ref (zra G (P.length + 24)), .ref (zra G (P.length + 25)), .ref (zra G (P.length + 26)), .null, .int 0]), zAi G 24, zAi G 24, zAz G 24, zAi G 24, zAi G 24, zAi G 96, zAi G 96, zAi G 96, zAi G 12, zAi G 12, zAi G 12, zAz G 4, zAi G 4, zAz G 24, zAi G 24, zAi G 24, zAi G 24, zAi G 24, zAi G 24, zAi G 24, zAz G 24, zAi G 24, zAi G 96, zAi G 96, zAi G 96, zAi G 96, zAz G 96]) C 225 rfl rfl (fun _ _ h => h) war_boolean (fun _ => rfl) (by decide) (by decide) rfl (by decide) (by show _ ≤ (27 : Nat); omega) (by show _ ≤ (1148 : Nat); omega) rfl rfl dX8_init_225 ?_
  refine zy_cs (k := 27) (n := 1148) rfl rfl ?_
  refine zy_putF (j := 0) (v := .ref (zra G (P.length + 27))) (L' := [.inr (8, [.int 0, .int 0, .int (zI 100), .int (zI 20), .int 0, .ref (zra G (P.length + 1)), .ref (zra G (P.length + 2)), .ref (zra G (P.length + 3)), .ref (zra G (P.length + 4)), .ref (zra G (P.length + 5)), .ref (zra G (P.length + 6)), .ref (zra G (P.length + 7)), .ref (zra G (P.length + 8)), .int 0, .ref (zra G (P.length + 9)), .ref (zra G (P.length + 10)), .ref (zra G (P.length + 11)), .ref (zra G (P.length + 12)), .ref (zra G (P.length + 13)), .ref (zra G (P.length + 14)), .ref (zra G (P.length + 15)), .int 0, .ref (zra G (P.length + 16)), .ref (zra G (P.length + 17)), .ref (zra G (P.length + 18)), .ref (zra G (P.length + 19)), .ref (zra G (P.length + 20)), .ref (zra G (P.length + 21)), .ref (zra G (P.length + 22)), .ref (zra G (P.length + 23)), .ref (zra G (P.length + 24)), .ref (zra G (P.length + 25)), .ref (zra G (P.length + 26)), .ref (zra G (P.length + 27)), .int 0]), zAi G 24, zAi G 24, zAz G 24, zAi G 24, zAi G 24, zAi G 96, zAi G 96, zAi G 96, zAi G 12, zAi G 12, zAi G 12, zAz G 4, zAi G 4, zAz G 24, zAi G 24, zAi G 24, zAi G 24, zAi G 24, zAi G 24, zAi G 24, zAz G 24, zAi G 24, zAi G 96, zAi G 96, zAi G 96, zAi G 96, zAz G 96]) C hini 227 zcl8 rfl 33 (by decide) wf_8_96 rfl rfl rfl rfl (Nat.le_of_ble_eq_true rfl) rfl dX8_init_227 ?_
  exact zy_ret C 230 dX8_init_230 (by decide) (by decide) (by rfl)
