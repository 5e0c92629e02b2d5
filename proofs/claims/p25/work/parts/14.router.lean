set_option maxHeartbeats 4000000 in
set_option maxRecDepth 100000 in
theorem c_X5_find (l : Launch) (G : zG) (M : zMem) (r : Nat) (hr : r < 3) (hw : zwr M r) (hp : zwp M) (id t : Int) (hid : 0 ≤ id ∧ id < 65536) (ht : zrg t) : Met l yX5_find [.code yX5_find cX5_find 5 (some .int)] (zR 3 0 0) (zPc G M [.ref (zad G 16 r), .int (zI id), .int (zI t)]) (zQi G (fun x M' => M = M' ∧ ((x = -1 ∧ ∀ j : Nat, (j : Int) < zV M 16 r 2 → ¬ zfit M id t (zq M r j)) ∨ ∃ j : Nat, x = (j : Int) ∧ (j : Int) < zV M 16 r 2 ∧ zfit M id t (zq M r j) ∧ ∀ j' : Nat, j' < j → ¬ zfit M id t (zq M r j')))) 0 0 (zA G) := by
  refine z_met [(0, .ref (zad G 16 r)), (1, .int (zI id)), (2, .int (zI t))] (by decide) (Nat.le_of_ble_eq_true rfl) rfl ?_
  intro p e s m below meth c C
  have C : zC p s m ([.ref (zad G 16 r), .int (zI id), .int (zI t)] : List Value).toArray meth c G RX5 cX5_find 5 (some .int) := C
  have hw9z := hw
  obtain ⟨⟨n0, n1⟩, hb, hj⟩ := hw9z
  refine z_iconst C 0 dX5_find_0 ?_
  refine z_istore_n (lv' := [(3, .int (zI 0)), (0, .ref (zad G 16 r)), (1, .int (zI id)), (2, .int (zI t))]) C 1 dX5_find_1 rfl (by decide) rfl ?_
  have L2_1 : ∀ (kz1 : Nat) (k : Int), (0 ≤ k ∧ k ≤ zV M 16 r 2) → (∀ j : Nat, (j : Int) < k → ¬ zfit M id t (zq M r j)) → (zV M 16 r 2 - k) < (kz1 : Int) → zZ p l e (zR 3 0 0) s m ([.ref (zad G 16 r), .int (zI id), .int (zI t)] : List Value).toArray below meth c G 5 (MQ below (zQi G (fun x M' => M = M' ∧ ((x = -1 ∧ ∀ j : Nat, (j : Int) < zV M 16 r 2 → ¬ zfit M id t (zq M r j)) ∨ ∃ j : Nat, x = (j : Int) ∧ (j : Int) < zV M 16 r 2 ∧ zfit M id t (zq M r j) ∧ ∀ j' : Nat, j' < j → ¬ zfit M id t (zq M r j')))) ([.ref (zad G 16 r), .int (zI id), .int (zI t)] : List Value).toArray s 0 0 (zA G)) M 0 0 2 [(0, .ref (zad G 16 r)), (1, .int (zI id)), (2, .int (zI t)), (3, .int (zI k))] [] := by
    intro kz1
    induction kz1 with
    | zero =>
      intro k g0 g1 hk
      exact absurd hk (by omega)
    | succ kz1 ihz2 =>
      intro k g0 g1 hk
      have hb9 := hb k.toNat
      refine z_iload_n C 2 dX5_find_2 rfl 3 rfl ?_
      refine z_aload_n C 3 dX5_find_3 rfl 0 rfl ?_
      refine z_getI C 4 zcl5 (show r < 3 by omega) (zc16 ..) 2 (by decide) rfl wf_5_21 dX5_find_4 (fun zq3 ezq3 hzq3 => ?_)
      refine z_icmp_ge C 7 55 dX5_find_7 (by decide) (by first | assumption | omega) hzq3 (fun c7_22 => ?_) (fun c7_22 => ?_)
      · refine z_iconst C 55 dX5_find_55 ?_
        refine z_iret C 56 dX5_find_56 (by decide) (by decide) (by decide) ?_
        exact ⟨rfl, Or.inl ⟨rfl, fun j hj9 => g1 j (by omega)⟩⟩
      refine z_aload_n C 10 dX5_find_10 rfl 0 rfl ?_
      refine z_get C 11 zcl5 (show r < 3 by omega) (zc16 ..) 0 (by decide) rfl wf_5_11 dX5_find_11 ?_
      refine z_iload_n C 14 dX5_find_14 rfl 3 rfl ?_
      refine z_aald C 15 (show r < 3 by omega) (zc17 ..) rfl (by first | assumption | omega) (by omega) (show k < ((8 : Nat) : Int) by omega) dX5_find_15 ?_
      refine z_ent ?_; intro zp4 ezp4
      refine z_astore (lv' := [(4, .ref (zad G 19 zp4)), (0, .ref (zad G 16 r)), (1, .int (zI id)), (2, .int (zI t)), (3, .int (zI k))]) C 16 dX5_find_16 (by decide) rfl ?_
      refine z_aload C 18 dX5_find_18 0 rfl ?_
      refine z_getI C 20 zcl0 (show zp4 < 24 by omega) (zc19 ..) 6 (by decide) rfl wf_5_26 dX5_find_20 (fun zq5 ezq5 hzq5 => ?_)
      refine z_if_ne C 23 49 dX5_find_23 (by decide) hzq5 (fun c23_34 => ?_) (fun c23_34 => ?_)
      · have hF : ¬ zfit M id t (zq M r k.toNat) := fun z => by have z1 : zV M 19 (zV M 17 r k.toNat).toNat 6 = 0 := z.1; rw [← ezp4] at z1; omega
        refine z_iinc (lv' := [(3, .int (zI (k + 1))), (4, .ref (zad G 19 zp4)), (0, .ref (zad G 16 r)), (1, .int (zI id)), (2, .int (zI t))]) C 49 dX5_find_49 4 rfl (by decide) rfl ?_
        refine z_goto C 52 2 dX5_find_52 (by decide) ?_
        refine z_sub (lv' := [(0, .ref (zad G 16 r)), (1, .int (zI id)), (2, .int (zI t)), (3, .int (zI (k + 1)))]) [2, 3, 4, 0] rfl ?_
        exact ihz2 (k + 1) (by omega) (by intro j hj9; exact (Int.lt_or_le (j : Int) k).elim (g1 j) (fun q => by rw [show j = k.toNat by omega]; exact hF)) (by omega)
      refine z_aload C 26 dX5_find_26 0 rfl ?_
      refine z_iload_n C 28 dX5_find_28 rfl 3 rfl ?_
      refine z_callVi C 29 (As := [.int (zI t)]) (rest := []) (c_X0_hasEnded l G M zp4 (by omega) t ht) zcl0 (show zp4 < 24 by omega) (zc19 ..) (zW_of 1 C wm_5_30 wc_X0_hasEnded wini_0 wi_X0_hasEnded wse_X0_hasEnded ⟨by decide, by decide, by decide⟩ ⟨by decide, by decide⟩) rfl (Nat.le_of_ble_eq_true rfl) ⟨by decide, by decide⟩ dX5_find_29 rfl (fun zq6 Mz7 hzq6 hPz6 => ?_)
      obtain ⟨rfl, hPz6⟩ := hPz6
      refine z_if_ne C 32 49 dX5_find_32 (by decide) hzq6 (fun c32_44 => ?_) (fun c32_44 => ?_)
      · have hF : ¬ zfit M id t (zq M r k.toNat) := fun z => by have z1 : t < zV M 19 (zV M 17 r k.toNat).toNat 5 := z.2.1; rw [← ezp4] at z1; have z2 := hPz6.t (by assumption); omega
        refine z_iinc (lv' := [(3, .int (zI (k + 1))), (4, .ref (zad G 19 zp4)), (0, .ref (zad G 16 r)), (1, .int (zI id)), (2, .int (zI t))]) C 49 dX5_find_49 4 rfl (by decide) rfl ?_
        refine z_goto C 52 2 dX5_find_52 (by decide) ?_
        refine z_sub (lv' := [(0, .ref (zad G 16 r)), (1, .int (zI id)), (2, .int (zI t)), (3, .int (zI (k + 1)))]) [2, 3, 4, 0] rfl ?_
        exact ihz2 (k + 1) (by omega) (by intro j hj9; exact (Int.lt_or_le (j : Int) k).elim (g1 j) (fun q => by rw [show j = k.toNat by omega]; exact hF)) (by omega)
      refine z_aload C 35 dX5_find_35 0 rfl ?_
      refine z_get C 37 zcl0 (show zp4 < 24 by omega) (zc19 ..) 0 (by decide) rfl wf_5_34 dX5_find_37 ?_
      refine z_iload_n C 40 dX5_find_40 rfl 2 rfl ?_
      refine z_callVi C 41 (As := [.int (zI id)]) (rest := []) (c_X3_covers_20 l G M zp4 (by omega) (hp _ (by omega)) id hid) zcl3 (show zp4 < 24 by omega) (zc20 ..) (zW_of 1 C wm_5_38 wc_X3_covers wini_3 wi_X3_covers wse_X3_covers ⟨by decide, by decide, by decide⟩ ⟨by decide, by decide⟩) rfl (Nat.le_of_ble_eq_true rfl) ⟨by decide, by decide⟩ dX5_find_41 rfl (fun zq8 Mz9 hzq8 hPz8 => ?_)
      obtain ⟨rfl, hPz8⟩ := hPz8
      refine z_if_eq C 44 49 dX5_find_44 (by decide) hzq8 (fun c44_55 => ?_) (fun c44_55 => ?_)
      · have hF : ¬ zfit M id t (zq M r k.toNat) := fun z => by have z1 : zmeet (zV M 20 (zV M 17 r k.toNat).toNat 0) (zV M 20 (zV M 17 r k.toNat).toNat 1) id 16 := z.2.2; rw [← ezp4] at z1; exact hPz8.f (by assumption) z1
        refine z_iinc (lv' := [(3, .int (zI (k + 1))), (4, .ref (zad G 19 zp4)), (0, .ref (zad G 16 r)), (1, .int (zI id)), (2, .int (zI t))]) C 49 dX5_find_49 4 rfl (by decide) rfl ?_
        refine z_goto C 52 2 dX5_find_52 (by decide) ?_
        refine z_sub (lv' := [(0, .ref (zad G 16 r)), (1, .int (zI id)), (2, .int (zI t)), (3, .int (zI (k + 1)))]) [2, 3, 4, 0] rfl ?_
        exact ihz2 (k + 1) (by omega) (by intro j hj9; exact (Int.lt_or_le (j : Int) k).elim (g1 j) (fun q => by rw [show j = k.toNat by omega]; exact hF)) (by omega)
      refine z_iload_n C 47 dX5_find_47 rfl 4 rfl ?_
      refine z_iret C 48 dX5_find_48 (by decide) (by decide) (by first | assumption | omega) ?_
      refine ⟨rfl, Or.inr ⟨k.toNat, by omega, by omega, ?_, fun j hj9 => g1 j (by omega)⟩⟩
      show zV M 19 (zV M 17 r k.toNat).toNat 6 = 0 ∧ t < zV M 19 (zV M 17 r k.toNat).toNat 5 ∧ zmeet (zV M 20 (zV M 17 r k.toNat).toNat 0) (zV M 20 (zV M 17 r k.toNat).toNat 1) id 16
      rw [← ezp4]
      have z2 := hPz6.f (by assumption)
      exact ⟨by omega, by omega, hPz8.t (by assumption)⟩
  refine z_sub (lv' := [(0, .ref (zad G 16 r)), (1, .int (zI id)), (2, .int (zI t)), (3, .int (zI 0))]) [1, 2, 3, 0] rfl ?_
  exact L2_1 (((zV M 16 r 2 - 0 : Int)).toNat + 1) 0 (by omega) (by intro j hj9; omega) (by omega)
set_option maxHeartbeats 4000000 in
set_option maxRecDepth 100000 in
theorem c_X5_countUnreachable (l : Launch) (G : zG) (M : zMem) (r : Nat) (hr : r < 3) : Met l yX5_countUnreachable [.code yX5_countUnreachable cX5_countUnreachable 3 (some .int)] (zR 0 0 0) (zPc G M [.ref (zad G 16 r)]) (zQi G (fun x M' => M = M' ∧ x = zsm (fun a => zind (zV M 18 r a ≠ 0)) 32)) 0 0 (zA G) := by
  refine z_met [(0, .ref (zad G 16 r))] (by decide) (Nat.le_of_ble_eq_true rfl) rfl ?_
  intro p e s m below meth c C
  have C : zC p s m ([.ref (zad G 16 r)] : List Value).toArray meth c G RX5 cX5_countUnreachable 3 (some .int) := C
  refine z_iconst C 0 dX5_countUnreachable_0 ?_
  refine z_istore_n (lv' := [(1, .int (zI 0)), (0, .ref (zad G 16 r))]) C 1 dX5_countUnreachable_1 rfl (by decide) rfl ?_
  refine z_iconst C 2 dX5_countUnreachable_2 ?_
  refine z_istore_n (lv' := [(2, .int (zI 0)), (1, .int (zI 0)), (0, .ref (zad G 16 r))]) C 3 dX5_countUnreachable_3 rfl (by decide) rfl ?_
  have L4_1 : ∀ (kz1 : Nat) (n : Int) (k : Int), (0 ≤ k ∧ k ≤ 32) → (n = zsm (fun a => zind (zV M 18 r a ≠ 0)) k.toNat) → (32 - k) < (kz1 : Int) → zZ p l e (zR 0 0 0) s m ([.ref (zad G 16 r)] : List Value).toArray below meth c G 3 (MQ below (zQi G (fun x M' => M = M' ∧ x = zsm (fun a => zind (zV M 18 r a ≠ 0)) 32)) ([.ref (zad G 16 r)] : List Value).toArray s 0 0 (zA G)) M 0 0 4 [(0, .ref (zad G 16 r)), (1, .int (zI n)), (2, .int (zI k))] [] := by
    intro kz1
    induction kz1 with
    | zero =>
      intro n k g0 g1 hk
      exact absurd hk (by omega)
    | succ kz1 ihz2 =>
      intro n k g0 g1 hk
      have hs9 := zsm_01 (f := fun a => zind (zV M 18 r a ≠ 0)) (fun _ => zind_rg _) k.toNat
      refine z_iload_n C 4 dX5_countUnreachable_4 rfl 2 rfl ?_
      refine z_bipush C 5 dX5_countUnreachable_5 (by decide +kernel) ?_
      refine z_icmp_ge C 7 28 dX5_countUnreachable_7 (by decide) (by first | assumption | omega) (by decide) (fun c7_21 => ?_) (fun c7_21 => ?_)
      · refine z_iload_n C 28 dX5_countUnreachable_28 rfl 1 rfl ?_
        refine z_iret C 29 dX5_countUnreachable_29 (by decide) (by decide) (by first | assumption | omega) ?_
        exact ⟨rfl, by rw [g1, show k = 32 by omega]; rfl⟩
      refine z_aload_n C 10 dX5_countUnreachable_10 rfl 0 rfl ?_
      refine z_get C 11 zcl5 (show r < 3 by omega) (zc16 ..) 1 (by decide) rfl wf_5_17 dX5_countUnreachable_11 ?_
      refine z_iload_n C 14 dX5_countUnreachable_14 rfl 2 rfl ?_
      refine z_zald C 15 (show r < 3 by omega) (zc18 ..) (by first | assumption | omega) (by omega) (show k < ((32 : Nat) : Int) by omega) dX5_countUnreachable_15 (fun zq3 ezq3 hzq3 => ?_)
      refine z_if_eq C 16 22 dX5_countUnreachable_16 (by decide) hzq3 (fun c16_29 => ?_) (fun c16_29 => ?_)
      · refine z_iinc (lv' := [(2, .int (zI (k + 1))), (0, .ref (zad G 16 r)), (1, .int (zI n))]) C 22 dX5_countUnreachable_22 2 rfl (by decide) rfl ?_
        refine z_goto C 25 4 dX5_countUnreachable_25 (by decide) ?_
        refine z_sub (lv' := [(0, .ref (zad G 16 r)), (1, .int (zI n)), (2, .int (zI (k + 1)))]) [1, 2, 0] rfl ?_
        exact ihz2 n (k + 1) (by omega) (by rw [zsm_s _ (by omega), ← g1, zind_f (by omega), Int.add_zero]) (by omega)
      refine z_iinc (lv' := [(1, .int (zI (n + 1))), (0, .ref (zad G 16 r)), (2, .int (zI k))]) C 19 dX5_countUnreachable_19 1 rfl (by decide) rfl ?_
      refine z_iinc (lv' := [(2, .int (zI (k + 1))), (1, .int (zI (n + 1))), (0, .ref (zad G 16 r))]) C 22 dX5_countUnreachable_22 2 rfl (by decide) rfl ?_
      refine z_goto C 25 4 dX5_countUnreachable_25 (by decide) ?_
      refine z_sub (lv' := [(0, .ref (zad G 16 r)), (1, .int (zI (n + 1))), (2, .int (zI (k + 1)))]) [2, 1, 0] rfl ?_
      exact ihz2 (n + 1) (k + 1) (by omega) (by rw [zsm_s _ (by omega), ← g1, zind_t (by omega)]) (by omega)
  refine z_sub (lv' := [(0, .ref (zad G 16 r)), (1, .int (zI 0)), (2, .int (zI 0))]) [2, 1, 0] rfl ?_
  exact L4_1 (((32 - 0 : Int)).toNat + 1) 0 0 (by omega) (by rfl) (by omega)
set_option maxHeartbeats 4000000 in
set_option maxRecDepth 100000 in
theorem c_X5_solicitMeeting (l : Launch) (G : zG) (M : zMem) (r : Nat) (hr : r < 3) (hw : zwr M r) (hp : zwp M) (i : Nat) (hi : i < 24) (hpi : zpfx (zV M 4 i 0) (zV M 4 i 1)) : Met l yX5_solicitMeeting [.code yX5_solicitMeeting cX5_solicitMeeting 5 (some .int)] (zR 2 0 0) (zPc G M [.ref (zad G 16 r), .ref (zad G 4 i)]) (zQi G (fun x M' => zsol M M' r i (zV M 16 r 2) x)) 0 0 (zA G) := by
  refine z_met [(0, .ref (zad G 16 r)), (1, .ref (zad G 4 i))] (by decide) (Nat.le_of_ble_eq_true rfl) rfl ?_
  intro p e s m below meth c C
  have C : zC p s m ([.ref (zad G 16 r), .ref (zad G 4 i)] : List Value).toArray meth c G RX5 cX5_solicitMeeting 5 (some .int) := C
  have hw9z := hw
  obtain ⟨⟨n0, n1⟩, hb, hj⟩ := hw9z
  refine z_iconst C 0 dX5_solicitMeeting_0 ?_
  refine z_istore_n (lv' := [(2, .int (zI 0)), (0, .ref (zad G 16 r)), (1, .ref (zad G 4 i))]) C 1 dX5_solicitMeeting_1 rfl (by decide) rfl ?_
  refine z_iconst C 2 dX5_solicitMeeting_2 ?_
  refine z_istore_n (lv' := [(3, .int (zI 0)), (2, .int (zI 0)), (0, .ref (zad G 16 r)), (1, .ref (zad G 4 i))]) C 3 dX5_solicitMeeting_3 rfl (by decide) rfl ?_
  have L4_1 : ∀ (kz1 : Nat) (M1 : zMem) (n : Int) (k : Int), (0 ≤ k ∧ k ≤ zV M 16 r 2) → (zsol M M1 r i k n) → (0 ≤ n ∧ n ≤ k) → (zV M 16 r 2 - k) < (kz1 : Int) → zZ p l e (zR 2 0 0) s m ([.ref (zad G 16 r), .ref (zad G 4 i)] : List Value).toArray below meth c G 5 (MQ below (zQi G (fun x M' => zsol M M' r i (zV M 16 r 2) x)) ([.ref (zad G 16 r), .ref (zad G 4 i)] : List Value).toArray s 0 0 (zA G)) M1 0 0 4 [(0, .ref (zad G 16 r)), (1, .ref (zad G 4 i)), (2, .int (zI n)), (3, .int (zI k))] [] := by
    intro kz1
    induction kz1 with
    | zero =>
      intro M1 n k g0 g1 g2 hk
      exact absurd hk (by omega)
    | succ kz1 ihz2 =>
      intro M1 n k g0 g1 g2 hk
      have hb9 := hb k.toNat
      have fe : ∀ κ i1 j1 : Nat, ¬ (κ = 19 ∧ j1 = 6) → zV M1 κ i1 j1 = zV M κ i1 j1 := fun κ i1 j1 h => zV_of (g1.2.2.2 κ i1 j1 h)
      have fe1 := fe 16 r 2 (by omega)
      have fe2 := fe 17 r k.toNat (by omega)
      refine z_iload_n C 4 dX5_solicitMeeting_4 rfl 3 rfl ?_
      refine z_aload_n C 5 dX5_solicitMeeting_5 rfl 0 rfl ?_
      refine z_getI C 6 zcl5 (show r < 3 by omega) (zc16 ..) 2 (by decide) rfl wf_5_21 dX5_solicitMeeting_6 (fun zq3 ezq3 hzq3 => ?_)
      refine z_icmp_ge C 9 62 dX5_solicitMeeting_9 (by decide) (by first | assumption | omega) hzq3 (fun c9_27 => ?_) (fun c9_27 => ?_)
      · refine z_iload_n C 62 dX5_solicitMeeting_62 rfl 2 rfl ?_
        refine z_iret C 63 dX5_solicitMeeting_63 (by decide) (by decide) (by first | assumption | omega) ?_
        rw [show zV M 16 r 2 = k by omega]
        exact g1
      refine z_aload_n C 12 dX5_solicitMeeting_12 rfl 0 rfl ?_
      refine z_get C 13 zcl5 (show r < 3 by omega) (zc16 ..) 0 (by decide) rfl wf_5_11 dX5_solicitMeeting_13 ?_
      refine z_iload_n C 16 dX5_solicitMeeting_16 rfl 3 rfl ?_
      refine z_aald C 17 (show r < 3 by omega) (zc17 ..) rfl (by first | assumption | omega) (by omega) (show k < ((8 : Nat) : Int) by omega) dX5_solicitMeeting_17 ?_
      refine z_ent ?_; intro zp4 ezp4
      refine z_astore (lv' := [(4, .ref (zad G 19 zp4)), (0, .ref (zad G 16 r)), (1, .ref (zad G 4 i)), (2, .int (zI n)), (3, .int (zI k))]) C 18 dX5_solicitMeeting_18 (by decide) rfl ?_
      have hT0 : zp4 = zq M r k.toNat := by rw [ezp4, fe2]; rfl
      refine z_aload C 20 dX5_solicitMeeting_20 0 rfl ?_
      refine z_getI C 22 zcl0 (show zp4 < 24 by omega) (zc19 ..) 6 (by decide) rfl wf_5_26 dX5_solicitMeeting_22 (fun zq5 ezq5 hzq5 => ?_)
      refine z_if_ne C 25 56 dX5_solicitMeeting_25 (by decide) hzq5 (fun c25_41 => ?_) (fun c25_41 => ?_)
      · have hF : ¬ zsc M i (zq M r k.toNat) := fun z => by have z1 := zsol_at hw (by omega) (by omega) g1; rw [← hT0] at z1; have z2 := z.1; rw [← hT0] at z2; omega
        refine z_iinc (lv' := [(3, .int (zI (k + 1))), (4, .ref (zad G 19 zp4)), (0, .ref (zad G 16 r)), (1, .ref (zad G 4 i)), (2, .int (zI n))]) C 56 dX5_solicitMeeting_56 4 rfl (by decide) rfl ?_
        refine z_goto C 59 4 dX5_solicitMeeting_59 (by decide) ?_
        refine z_sub (lv' := [(0, .ref (zad G 16 r)), (1, .ref (zad G 4 i)), (2, .int (zI n)), (3, .int (zI (k + 1)))]) [2, 3, 4, 0] rfl ?_
        exact ihz2 M1 n (k + 1) (by omega) (by exact zsol_f (by omega) g1 hF) (by omega) (by omega)
      refine z_aload C 28 dX5_solicitMeeting_28 0 rfl ?_
      refine z_get C 30 zcl0 (show zp4 < 24 by omega) (zc19 ..) 0 (by decide) rfl wf_5_34 dX5_solicitMeeting_30 ?_
      refine z_aload_n C 33 dX5_solicitMeeting_33 rfl 2 rfl ?_
      refine z_getI C 34 zcl3 (show i < 24 by omega) (zc4 ..) 0 (by decide) rfl wf_5_43 dX5_solicitMeeting_34 (fun zq6 ezq6 hzq6 => ?_)
      refine z_aload_n C 37 dX5_solicitMeeting_37 rfl 2 rfl ?_
      refine z_getI C 38 zcl3 (show i < 24 by omega) (zc4 ..) 1 (by decide) rfl wf_5_46 dX5_solicitMeeting_38 (fun zq7 ezq7 hzq7 => ?_)
      refine z_callVi C 41 (As := [.int (zI zq6), .int (zI zq7)]) (rest := []) (c_X3_meets_20 l G M1 zp4 (by omega) (by rw [fe 20 _ 0 (by omega), fe 20 _ 1 (by omega)]; exact hp _ (by omega)) zq6 zq7 (by rw [ezq6, ezq7, fe 4 i 0 (by omega), fe 4 i 1 (by omega)]; exact hpi)) zcl3 (show zp4 < 24 by omega) (zc20 ..) (zW_of 2 C wm_5_49 wc_X3_meets wini_3 wi_X3_meets wse_X3_meets ⟨by decide, by decide, by decide⟩ ⟨by decide, by decide⟩) rfl (Nat.le_of_ble_eq_true rfl) ⟨by decide, by decide⟩ dX5_solicitMeeting_41 rfl (fun zq8 Mz9 hzq8 hPz8 => ?_)
      obtain ⟨rfl, hPz8⟩ := hPz8
      refine z_if_eq C 44 56 dX5_solicitMeeting_44 (by decide) hzq8 (fun c44_55 => ?_) (fun c44_55 => ?_)
      · have hF : ¬ zsc M i (zq M r k.toNat) := fun z => by have z1 := hPz8.f c44_55; rw [ezq6, ezq7, fe 4 i 0 (by omega), fe 4 i 1 (by omega), fe 20 _ 0 (by omega), fe 20 _ 1 (by omega), hT0] at z1; exact z1 z.2
        refine z_iinc (lv' := [(3, .int (zI (k + 1))), (4, .ref (zad G 19 zp4)), (0, .ref (zad G 16 r)), (1, .ref (zad G 4 i)), (2, .int (zI n))]) C 56 dX5_solicitMeeting_56 4 rfl (by decide) rfl ?_
        refine z_goto C 59 4 dX5_solicitMeeting_59 (by decide) ?_
        refine z_sub (lv' := [(0, .ref (zad G 16 r)), (1, .ref (zad G 4 i)), (2, .int (zI n)), (3, .int (zI (k + 1)))]) [2, 3, 4, 0] rfl ?_
        exact ihz2 M1 n (k + 1) (by omega) (by exact zsol_f (by omega) g1 hF) (by omega) (by omega)
      have hT : zsc M i (zq M r k.toNat) := by have z1 := hPz8.t c44_55; rw [ezq6, ezq7, fe 4 i 0 (by omega), fe 4 i 1 (by omega), fe 20 _ 0 (by omega), fe 20 _ 1 (by omega), hT0] at z1; have z3 := zsol_at hw (by omega) (by omega) g1; rw [← hT0] at z3; refine ⟨?_, z1⟩; rw [← hT0]; omega
      refine z_aload C 47 dX5_solicitMeeting_47 0 rfl ?_
      refine z_iconst C 49 dX5_solicitMeeting_49 ?_
      refine z_putI C 50 zcl0 (show zp4 < 24 by omega) (zc19 ..) 6 (by decide) wf_5_26 rfl rfl rfl (Nat.le_of_ble_eq_true rfl) (zc19 ..) dX5_solicitMeeting_50 ?_
      refine z_iinc (lv' := [(2, .int (zI (n + 1))), (4, .ref (zad G 19 zp4)), (0, .ref (zad G 16 r)), (1, .ref (zad G 4 i)), (3, .int (zI k))]) C 53 dX5_solicitMeeting_53 3 rfl (by decide) rfl ?_
      refine z_iinc (lv' := [(3, .int (zI (k + 1))), (2, .int (zI (n + 1))), (4, .ref (zad G 19 zp4)), (0, .ref (zad G 16 r)), (1, .ref (zad G 4 i))]) C 56 dX5_solicitMeeting_56 4 rfl (by decide) rfl ?_
      refine z_goto C 59 4 dX5_solicitMeeting_59 (by decide) ?_
      refine z_sub (lv' := [(0, .ref (zad G 16 r)), (1, .ref (zad G 4 i)), (2, .int (zI (n + 1))), (3, .int (zI (k + 1)))]) [3, 4, 1, 0] rfl ?_
      exact ihz2 (zup M1 19 zp4 6 (zI 1)) (n + 1) (k + 1) (by omega) (by rw [hT0]; exact zsol_t (by omega) g1 hT) (by omega) (by omega)
  refine z_sub (lv' := [(0, .ref (zad G 16 r)), (1, .ref (zad G 4 i)), (2, .int (zI 0)), (3, .int (zI 0))]) [2, 3, 1, 0] rfl ?_
  exact L4_1 (((zV M 16 r 2 - 0 : Int)).toNat + 1) M 0 0 (by omega) (by exact zsol_0 M r i) (by omega) (by omega)
set_option maxHeartbeats 4000000 in
set_option maxRecDepth 100000 in
theorem c_X5_moveToEnd (l : Launch) (G : zG) (M : zMem) (r : Nat) (hr : r < 3) (hw : zwr M r) (pl : Int) (hpl : 0 ≤ pl ∧ pl < zV M 16 r 2) : Met l yX5_moveToEnd [.code yX5_moveToEnd cX5_moveToEnd 4 (some (.object "LocatorMapper$Entry"))] (zR 0 0 0) (zPc G M [.ref (zad G 16 r), .int (zI pl)]) (zQr G (fun a M' => a = zad G 19 (zV M 17 r pl.toNat).toNat ∧ zmte M M' r pl)) 0 0 (zA G) := by
  refine z_met [(0, .ref (zad G 16 r)), (1, .int (zI pl))] (by decide) (Nat.le_of_ble_eq_true rfl) rfl ?_
  intro p e s m below meth c C
  have C : zC p s m ([.ref (zad G 16 r), .int (zI pl)] : List Value).toArray meth c G RX5 cX5_moveToEnd 4 (some (.object "LocatorMapper$Entry")) := C
  have hw9z := hw
  obtain ⟨⟨n0, n1⟩, hb, hj⟩ := hw9z
  refine z_aload_n C 0 dX5_moveToEnd_0 rfl 0 rfl ?_
  refine z_get C 1 zcl5 (show r < 3 by omega) (zc16 ..) 0 (by decide) rfl wf_5_11 dX5_moveToEnd_1 ?_
  refine z_iload_n C 4 dX5_moveToEnd_4 rfl 1 rfl ?_
  refine z_aald C 5 (show r < 3 by omega) (zc17 ..) rfl (by first | assumption | omega) (by omega) (show pl < ((8 : Nat) : Int) by omega) dX5_moveToEnd_5 ?_
  refine z_ent ?_; intro zp1 ezp1
  refine z_astore_n (lv' := [(2, .ref (zad G 19 zp1)), (0, .ref (zad G 16 r)), (1, .int (zI pl))]) C 6 dX5_moveToEnd_6 rfl (by decide) rfl ?_
  refine z_iload_n C 7 dX5_moveToEnd_7 rfl 2 rfl ?_
  refine z_istore_n (lv' := [(3, .int (zI pl)), (2, .ref (zad G 19 zp1)), (0, .ref (zad G 16 r)), (1, .int (zI pl))]) C 8 dX5_moveToEnd_8 rfl (by decide) rfl ?_
  have L9_2 : ∀ (kz2 : Nat) (M1 : zMem) (k : Int), (pl ≤ k ∧ k ≤ zV M 16 r 2 - 1) → (zrot M M1 r pl k) → (zV M 16 r 2 - 1 - k) < (kz2 : Int) → zZ p l e (zR 0 0 0) s m ([.ref (zad G 16 r), .int (zI pl)] : List Value).toArray below meth c G 4 (MQ below (zQr G (fun a M' => a = zad G 19 (zV M 17 r pl.toNat).toNat ∧ zmte M M' r pl)) ([.ref (zad G 16 r), .int (zI pl)] : List Value).toArray s 0 0 (zA G)) M1 0 0 9 [(2, .ref (zad G 19 zp1)), (0, .ref (zad G 16 r)), (1, .int (zI pl)), (3, .int (zI k))] [] := by
    intro kz2
    induction kz2 with
    | zero =>
      intro M1 k g0 g1 hk
      exact absurd hk (by omega)
    | succ kz2 ihz3 =>
      intro M1 k g0 g1 hk
      have fe1 : zV M1 16 r 2 = zV M 16 r 2 := zV_of (g1.2 16 r 2 (by omega))
      have hw1 := zrot_wr (by omega) (by omega) (by omega) g1 hw
      have hb1 := hw1.2.1 (k + 1).toNat
      have hb9 := hb pl.toNat (by omega)
      refine z_iload_n C 9 dX5_moveToEnd_9 rfl 3 rfl ?_
      refine z_aload_n C 10 dX5_moveToEnd_10 rfl 1 rfl ?_
      refine z_getI C 11 zcl5 (show r < 3 by omega) (zc16 ..) 2 (by decide) rfl wf_5_21 dX5_moveToEnd_11 (fun zq4 ezq4 hzq4 => ?_)
      refine z_iconst C 14 dX5_moveToEnd_14 ?_
      refine z_isub C 15 dX5_moveToEnd_15 ?_
      refine z_icmp_ge C 16 48 dX5_moveToEnd_16 (by decide) (by first | assumption | omega) (by first | assumption | omega) (fun c16_33 => ?_) (fun c16_33 => ?_)
      · refine z_aload_n C 48 dX5_moveToEnd_48 rfl 0 rfl ?_
        refine z_aret C 49 dX5_moveToEnd_49 (by decide) (by decide) ?_
        have hk9 : k = zV M 16 r 2 - 1 := by omega
        subst hk9
        exact ⟨by rw [ezp1], zrot_wr (by omega) (by omega) (by omega) g1 hw, zrot_el (by omega) (by omega) g1, g1.2⟩
      refine z_aload_n C 19 dX5_moveToEnd_19 rfl 1 rfl ?_
      refine z_get C 20 zcl5 (show r < 3 by omega) (zc16 ..) 0 (by decide) rfl wf_5_11 dX5_moveToEnd_20 ?_
      refine z_iload_n C 23 dX5_moveToEnd_23 rfl 3 rfl ?_
      refine z_aload_n C 24 dX5_moveToEnd_24 rfl 1 rfl ?_
      refine z_get C 25 zcl5 (show r < 3 by omega) (zc16 ..) 0 (by decide) rfl wf_5_11 dX5_moveToEnd_25 ?_
      refine z_iload_n C 28 dX5_moveToEnd_28 rfl 3 rfl ?_
      refine z_iconst C 29 dX5_moveToEnd_29 ?_
      refine z_iadd C 30 dX5_moveToEnd_30 ?_
      refine z_aald C 31 (show r < 3 by omega) (zc17 ..) rfl (by first | assumption | omega) (by omega) (show (k + 1) < ((8 : Nat) : Int) by omega) dX5_moveToEnd_31 ?_
      refine z_ent ?_; intro zp5 ezp5
      have hb2 := hb1 (by omega)
      refine z_aast C 32 (show r < 3 by omega) (y := ((zp5 : Nat) : Int)) (by first | assumption | omega) (by omega) (by omega) (by omega) (by omega) dX5_moveToEnd_32 ?_
      refine z_aload_n C 33 dX5_moveToEnd_33 rfl 1 rfl ?_
      refine z_get C 34 zcl5 (show r < 3 by omega) (zc16 ..) 0 (by decide) rfl wf_5_11 dX5_moveToEnd_34 ?_
      refine z_iload_n C 37 dX5_moveToEnd_37 rfl 3 rfl ?_
      refine z_iconst C 38 dX5_moveToEnd_38 ?_
      refine z_iadd C 39 dX5_moveToEnd_39 ?_
      refine z_aload_n C 40 dX5_moveToEnd_40 rfl 0 rfl ?_
      refine z_aast C 41 (show r < 3 by omega) (y := ((zp1 : Nat) : Int)) (by first | assumption | omega) (by omega) (by omega) (by omega) (by omega) dX5_moveToEnd_41 ?_
      refine z_iinc (lv' := [(3, .int (zI (k + 1))), (2, .ref (zad G 19 zp1)), (0, .ref (zad G 16 r)), (1, .int (zI pl))]) C 42 dX5_moveToEnd_42 3 rfl (by decide) rfl ?_
      refine z_goto C 45 9 dX5_moveToEnd_45 (by decide) ?_
      refine z_sub (lv' := [(2, .ref (zad G 19 zp1)), (0, .ref (zad G 16 r)), (1, .int (zI pl)), (3, .int (zI (k + 1)))]) [1, 2, 3, 0] rfl ?_
      exact ihz3 (zup (zup M1 17 r k.toNat (zI ((zp5 : Nat) : Int))) 17 r (k + 1).toNat (zI ((zp1 : Nat) : Int))) (k + 1) (by omega) (by exact zrot_1 (by omega) (by omega) g1 ezp5 ezp1 (by have := hb1 (by omega); omega) (by omega)) (by omega)
  refine z_sub (lv' := [(2, .ref (zad G 19 zp1)), (0, .ref (zad G 16 r)), (1, .int (zI pl)), (3, .int (zI pl))]) [1, 2, 3, 0] rfl ?_
  exact L9_2 (((zV M 16 r 2 - 1 - pl : Int)).toNat + 1) M pl (by omega) (by exact zrot_0 M r (by omega)) (by omega)
set_option maxHeartbeats 4000000 in
set_option maxRecDepth 100000 in
theorem c_X5_takeOut (l : Launch) (G : zG) (M : zMem) (r : Nat) (hr : r < 3) (hw : zwr M r) (pl : Int) (hpl : 0 ≤ pl ∧ pl < zV M 16 r 2) : Met l yX5_takeOut [.code yX5_takeOut cX5_takeOut 2 none] (zR 1 0 0) (zPc G M [.ref (zad G 16 r), .int (zI pl)]) (zQv G (fun M' => zout M M' r pl)) 0 0 (zA G) := by
  refine z_met [(0, .ref (zad G 16 r)), (1, .int (zI pl))] (by decide) (Nat.le_of_ble_eq_true rfl) rfl ?_
  intro p e s m below meth c C
  have C : zC p s m ([.ref (zad G 16 r), .int (zI pl)] : List Value).toArray meth c G RX5 cX5_takeOut 2 none := C
  have hw9z := hw
  obtain ⟨⟨n0, n1⟩, hb, hj⟩ := hw9z
  refine z_aload_n C 0 dX5_takeOut_0 rfl 0 rfl ?_
  refine z_iload_n C 1 dX5_takeOut_1 rfl 1 rfl ?_
  refine z_callVr C 2 (As := [.int (zI pl)]) (rest := []) (c_X5_moveToEnd l G M r hr hw pl hpl) zcl5 (show r < 3 by omega) (zc16 ..) (zW_of 1 C wm_5_57 wc_X5_moveToEnd wini_5 wi_X5_moveToEnd wse_X5_moveToEnd ⟨by decide, by decide, by decide⟩ ⟨by decide, by decide⟩) rfl (Nat.le_of_ble_eq_true rfl) ⟨by decide, by decide⟩ dX5_takeOut_2 rfl (fun zq1 Mz2 hPz1 => ?_)
  obtain ⟨rfl, hPz1⟩ := hPz1
  refine z_pop C 5 dX5_takeOut_5 rfl ?_
  refine z_aload_n C 6 dX5_takeOut_6 rfl 0 rfl ?_
  refine z_dup C 7 dX5_takeOut_7 rfl ?_
  refine z_getI C 8 zcl5 (show r < 3 by omega) (zc16 ..) 2 (by decide) rfl wf_5_21 dX5_takeOut_8 (fun zq3 ezq3 hzq3 => ?_)
  have fe1 : zV Mz2 16 r 2 = zV M 16 r 2 := zV_of (hPz1.2.2 16 r 2 (by omega))
  refine z_iconst C 11 dX5_takeOut_11 ?_
  refine z_isub C 12 dX5_takeOut_12 ?_
  refine z_putI C 13 zcl5 (show r < 3 by omega) (zc16 ..) 2 (by decide) wf_5_21 rfl rfl rfl (Nat.le_of_ble_eq_true rfl) (zc16 ..) dX5_takeOut_13 ?_
  refine z_vret C 16 dX5_takeOut_16 (by decide) (by decide) ?_
  refine zout_of (by omega) (by omega) hPz1 ?_
  rw [show zV M 16 r 2 = zq3 by omega]
set_option maxHeartbeats 4000000 in
set_option maxRecDepth 100000 in
theorem c_X5_makeRoom (l : Launch) (G : zG) (M : zMem) (r : Nat) (hr : r < 3) (hw : zwr M r) (hp : zwp M) (v b : Int) (hvb : zpfx v b) : Met l yX5_makeRoom [.code yX5_makeRoom cX5_makeRoom 4 (some .int)] (zR 2 0 0) (zPc G M [.ref (zad G 16 r), .int (zI v), .int (zI b)]) (zQi G (fun x M' => zmade M M' r v b x)) 0 0 (zA G) := by
  refine z_met [(0, .ref (zad G 16 r)), (1, .int (zI v)), (2, .int (zI b))] (by decide) (Nat.le_of_ble_eq_true rfl) rfl ?_
  intro p e s m below meth c C
  have C : zC p s m ([.ref (zad G 16 r), .int (zI v), .int (zI b)] : List Value).toArray meth c G RX5 cX5_makeRoom 4 (some .int) := C
  have hw9z := hw
  obtain ⟨⟨n0, n1⟩, hb, hj⟩ := hw9z
  refine z_aload_n C 0 dX5_makeRoom_0 rfl 0 rfl ?_
  refine z_getI C 1 zcl5 (show r < 3 by omega) (zc16 ..) 2 (by decide) rfl wf_5_21 dX5_makeRoom_1 (fun zq1 ezq1 hzq1 => ?_)
  refine z_iconst C 4 dX5_makeRoom_4 ?_
  refine z_isub C 5 dX5_makeRoom_5 ?_
  refine z_istore_n (lv' := [(3, .int (zI (zq1 - 1))), (0, .ref (zad G 16 r)), (1, .int (zI v)), (2, .int (zI b))]) C 6 dX5_makeRoom_6 rfl (by decide) rfl ?_
  have L7_2 : ∀ (kz2 : Nat) (M1 : zMem) (k : Int), (-1 ≤ k ∧ k < zV M 16 r 2) → (zrmk M M1 r v b k) → (k + 1) < (kz2 : Int) → zZ p l e (zR 2 0 0) s m ([.ref (zad G 16 r), .int (zI v), .int (zI b)] : List Value).toArray below meth c G 4 (MQ below (zQi G (fun x M' => zmade M M' r v b x)) ([.ref (zad G 16 r), .int (zI v), .int (zI b)] : List Value).toArray s 0 0 (zA G)) M1 0 0 7 [(0, .ref (zad G 16 r)), (1, .int (zI v)), (2, .int (zI b)), (3, .int (zI k))] [] := by
    intro kz2
    induction kz2 with
    | zero =>
      intro M1 k g0 g1 hk
      exact absurd hk (by omega)
    | succ kz2 ihz3 =>
      intro M1 k g0 g1 hk
      have hb9 := hb k.toNat
      have fe : ∀ κ i1 j1 : Nat, ¬ (i1 = r ∧ (κ = 17 ∨ κ = 16 ∧ j1 = 2)) → zV M1 κ i1 j1 = zV M κ i1 j1 := fun κ i1 j1 h => zV_of (g1.2.2 κ i1 j1 h)
      refine z_iload_n C 7 dX5_makeRoom_7 rfl 3 rfl ?_
      refine z_if_lt C 8 39 dX5_makeRoom_8 (by decide) (by first | assumption | omega) (fun c8_24 => ?_) (fun c8_24 => ?_)
      · have hend := zrmk_end g1 (by omega) (by omega)
        refine z_aload_n C 39 dX5_makeRoom_39 rfl 0 rfl ?_
        refine z_getI C 40 zcl5 (show r < 3 by omega) (zc16 ..) 2 (by decide) rfl wf_5_21 dX5_makeRoom_40 (fun zq4 ezq4 hzq4 => ?_)
        refine z_bipush C 43 dX5_makeRoom_43 (by decide +kernel) ?_
        refine z_icmp_lt C 45 53 dX5_makeRoom_45 (by decide) hzq4 (by decide) (fun c45_30 => ?_) (fun c45_30 => ?_)
        · have hq1 : zwr M1 r ∧ zel M1 r = zroom M r v b ∧ zfr M M1 r ∧ zV M1 16 r 2 < 8 := ⟨g1.1, by unfold zroom; rw [if_neg (by omega)]; exact hend.1, g1.2.2, by omega⟩
          refine z_aload_n C 53 dX5_makeRoom_53 rfl 0 rfl ?_
          refine z_dup C 54 dX5_makeRoom_54 rfl ?_
          refine z_getI C 55 zcl5 (show r < 3 by omega) (zc16 ..) 2 (by decide) rfl wf_5_21 dX5_makeRoom_55 (fun zq5 ezq5 hzq5 => ?_)
          refine z_iconst C 58 dX5_makeRoom_58 ?_
          refine z_iadd C 59 dX5_makeRoom_59 ?_
          refine z_putI C 60 zcl5 (show r < 3 by omega) (zc16 ..) 2 (by decide) wf_5_21 rfl rfl rfl (Nat.le_of_ble_eq_true rfl) (zc16 ..) dX5_makeRoom_60 ?_
          refine z_aload_n C 63 dX5_makeRoom_63 rfl 0 rfl ?_
          refine z_getI C 64 zcl5 (show r < 3 by omega) (zc16 ..) 2 (by decide) rfl wf_5_21 dX5_makeRoom_64 (fun zq6 ezq6 hzq6 => ?_)
          rw [zV_eq (by first | assumption | decide | omega)] at ezq6
          refine z_iconst C 67 dX5_makeRoom_67 ?_
          refine z_isub C 68 dX5_makeRoom_68 ?_
          refine z_iret C 69 dX5_makeRoom_69 (by decide) (by decide) (by first | assumption | omega) ?_
          exact zmade_of hq1.1 hq1.2.1 hq1.2.2.1 hq1.2.2.2 (by rw [ezq5]) (by omega)
        refine z_aload_n C 48 dX5_makeRoom_48 rfl 0 rfl ?_
        refine z_iconst C 49 dX5_makeRoom_49 ?_
        refine z_callVv C 50 (As := [.int (zI 0)]) (rest := []) (c_X5_takeOut l G M1 r hr g1.1 0 (by omega)) zcl5 (show r < 3 by omega) (zc16 ..) (zW_of 1 C wm_5_53 wc_X5_takeOut wini_5 wi_X5_takeOut wse_X5_takeOut ⟨by decide, by decide, by decide⟩ ⟨by decide, by decide⟩) rfl (Nat.le_of_ble_eq_true rfl) ⟨by decide, by decide⟩ dX5_makeRoom_50 rfl (fun Mz8 hPz7 => ?_)
        have hl9 := zel_len M1 r
        have hm9 := zel_len Mz8 r
        have hc9 := g1.1.1
        have hd9 := (hPz7).1.1
        rw [(hPz7).2.1, List.length_eraseIdx, if_pos (by show (0 : Int).toNat < _; rw [hl9]; show 0 < _; omega), hl9] at hm9
        have hq1 : zwr Mz8 r ∧ zel Mz8 r = zroom M r v b ∧ zfr M Mz8 r ∧ zV Mz8 16 r 2 < 8 := ⟨(hPz7).1, by rw [(hPz7).2.1, hend.1]; unfold zroom; rw [if_pos (by omega)]; exact List.eraseIdx_zero, fun κ1 i1 j1 h9 => ((hPz7).2.2 κ1 i1 j1 h9).trans (g1.2.2 κ1 i1 j1 h9), by omega⟩
        refine z_aload_n C 53 dX5_makeRoom_53 rfl 0 rfl ?_
        refine z_dup C 54 dX5_makeRoom_54 rfl ?_
        refine z_getI C 55 zcl5 (show r < 3 by omega) (zc16 ..) 2 (by decide) rfl wf_5_21 dX5_makeRoom_55 (fun zq9 ezq9 hzq9 => ?_)
        refine z_iconst C 58 dX5_makeRoom_58 ?_
        refine z_iadd C 59 dX5_makeRoom_59 ?_
        refine z_putI C 60 zcl5 (show r < 3 by omega) (zc16 ..) 2 (by decide) wf_5_21 rfl rfl rfl (Nat.le_of_ble_eq_true rfl) (zc16 ..) dX5_makeRoom_60 ?_
        refine z_aload_n C 63 dX5_makeRoom_63 rfl 0 rfl ?_
        refine z_getI C 64 zcl5 (show r < 3 by omega) (zc16 ..) 2 (by decide) rfl wf_5_21 dX5_makeRoom_64 (fun zq10 ezq10 hzq10 => ?_)
        rw [zV_eq (by first | assumption | decide | omega)] at ezq10
        refine z_iconst C 67 dX5_makeRoom_67 ?_
        refine z_isub C 68 dX5_makeRoom_68 ?_
        refine z_iret C 69 dX5_makeRoom_69 (by decide) (by decide) (by first | assumption | omega) ?_
        exact zmade_of hq1.1 hq1.2.1 hq1.2.2.1 hq1.2.2.2 (by rw [ezq9]) (by omega)
      refine z_aload_n C 11 dX5_makeRoom_11 rfl 0 rfl ?_
      refine z_get C 12 zcl5 (show r < 3 by omega) (zc16 ..) 0 (by decide) rfl wf_5_11 dX5_makeRoom_12 ?_
      refine z_iload_n C 15 dX5_makeRoom_15 rfl 3 rfl ?_
      refine z_aald C 16 (show r < 3 by omega) (zc17 ..) rfl (by first | assumption | omega) (by omega) (show k < ((8 : Nat) : Int) by omega) dX5_makeRoom_16 ?_
      refine z_ent ?_; intro zp11 ezp11
      have ha := zrmk_at g1 (by omega) (by omega)
      have hT0 : zp11 = (zV M 17 r k.toNat).toNat := by rw [ezp11, ha.1]
      refine z_get C 17 zcl0 (show zp11 < 24 by omega) (zc19 ..) 0 (by decide) rfl wf_5_34 dX5_makeRoom_17 ?_
      refine z_iload_n C 20 dX5_makeRoom_20 rfl 1 rfl ?_
      refine z_iload_n C 21 dX5_makeRoom_21 rfl 2 rfl ?_
      refine z_callVi C 22 (As := [.int (zI v), .int (zI b)]) (rest := []) (c_X3_meets_20 l G M1 zp11 (by omega) (by rw [fe 20 _ 0 (by omega), fe 20 _ 1 (by omega)]; exact hp _ (by omega)) v b hvb) zcl3 (show zp11 < 24 by omega) (zc20 ..) (zW_of 2 C wm_5_49 wc_X3_meets wini_3 wi_X3_meets wse_X3_meets ⟨by decide, by decide, by decide⟩ ⟨by decide, by decide⟩) rfl (Nat.le_of_ble_eq_true rfl) ⟨by decide, by decide⟩ dX5_makeRoom_22 rfl (fun zq12 Mz13 hzq12 hPz12 => ?_)
      obtain ⟨rfl, hPz12⟩ := hPz12
      refine z_if_eq C 25 33 dX5_makeRoom_25 (by decide) hzq12 (fun c25_78 => ?_) (fun c25_78 => ?_)
      · have hF : ¬ zmeet (zV M 20 (zV M 17 r k.toNat).toNat 0) (zV M 20 (zV M 17 r k.toNat).toNat 1) v b := by have z1 := hPz12.f c25_78; rw [fe 20 _ 0 (by omega), fe 20 _ 1 (by omega), hT0] at z1; exact z1
        refine z_iinc (lv' := [(3, .int (zI (k + (-1)))), (0, .ref (zad G 16 r)), (1, .int (zI v)), (2, .int (zI b))]) C 33 dX5_makeRoom_33 3 rfl (by decide) rfl ?_
        refine z_goto C 36 7 dX5_makeRoom_36 (by decide) ?_
        refine z_sub (lv' := [(0, .ref (zad G 16 r)), (1, .int (zI v)), (2, .int (zI b)), (3, .int (zI (k + (-1))))]) [1, 2, 3, 0] rfl ?_
        exact ihz3 M1 (k + (-1)) (by omega) (by exact zrmk_keep g1 (by omega) (by omega) hF) (by omega)
      have hT : zmeet (zV M 20 (zV M 17 r k.toNat).toNat 0) (zV M 20 (zV M 17 r k.toNat).toNat 1) v b := by have z1 := hPz12.t c25_78; rw [fe 20 _ 0 (by omega), fe 20 _ 1 (by omega), hT0] at z1; exact z1
      refine z_aload_n C 28 dX5_makeRoom_28 rfl 0 rfl ?_
      refine z_iload_n C 29 dX5_makeRoom_29 rfl 3 rfl ?_
      refine z_callVv C 30 (As := [.int (zI k)]) (rest := []) (c_X5_takeOut l G M1 r hr g1.1 k ⟨by omega, ha.2⟩) zcl5 (show r < 3 by omega) (zc16 ..) (zW_of 1 C wm_5_53 wc_X5_takeOut wini_5 wi_X5_takeOut wse_X5_takeOut ⟨by decide, by decide, by decide⟩ ⟨by decide, by decide⟩) rfl (Nat.le_of_ble_eq_true rfl) ⟨by decide, by decide⟩ dX5_makeRoom_30 rfl (fun Mz15 hPz14 => ?_)
      refine z_iinc (lv' := [(3, .int (zI (k + (-1)))), (0, .ref (zad G 16 r)), (1, .int (zI v)), (2, .int (zI b))]) C 33 dX5_makeRoom_33 3 rfl (by decide) rfl ?_
      refine z_goto C 36 7 dX5_makeRoom_36 (by decide) ?_
      refine z_sub (lv' := [(0, .ref (zad G 16 r)), (1, .int (zI v)), (2, .int (zI b)), (3, .int (zI (k + (-1))))]) [1, 2, 3, 0] rfl ?_
      exact ihz3 Mz15 (k + (-1)) (by omega) (by exact zrmk_drop g1 (by omega) (by omega) hT hPz14) (by omega)
  refine z_sub (lv' := [(0, .ref (zad G 16 r)), (1, .int (zI v)), (2, .int (zI b)), (3, .int (zI (zq1 - 1)))]) [1, 2, 3, 0] rfl ?_
  exact L7_2 ((((zq1 - 1) + 1 : Int)).toNat + 1) M (zq1 - 1) (by omega) (by rw [ezq1]; exact zrmk_0 hw v b) (by omega)
