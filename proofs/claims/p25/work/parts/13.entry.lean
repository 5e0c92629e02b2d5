set_option maxHeartbeats 4000000 in
set_option maxRecDepth 100000 in
theorem c_X0_hasEnded (l : Launch) (G : zG) (M : zMem) (q : Nat) (hq : q < 24) (t : Int) (ht : zrg t) : Met l yX0_hasEnded [.code yX0_hasEnded cX0_hasEnded 2 (some .boolean)] (zR 0 0 0) (zPc G M [.ref (zad G 19 q), .int (zI t)]) (zQi G (fun x M' => M = M' ∧ zb x (zV M 19 q 5 ≤ t))) 0 0 (zA G) := by
  refine z_met [(0, .ref (zad G 19 q)), (1, .int (zI t))] (by decide) (Nat.le_of_ble_eq_true rfl) rfl ?_
  intro p e s m below meth c C
  have C : zC p s m ([.ref (zad G 19 q), .int (zI t)] : List Value).toArray meth c G RX0 cX0_hasEnded 2 (some .boolean) := C
  refine z_iload_n C 0 dX0_hasEnded_0 rfl 1 rfl ?_
  refine z_aload_n C 1 dX0_hasEnded_1 rfl 0 rfl ?_
  refine z_getI C 2 zcl0 (show q < 24 by omega) (zc19 ..) 5 (by decide) rfl wf_0_36 dX0_hasEnded_2 (fun zq1 ezq1 hzq1 => ?_)
  refine z_icmp_lt C 5 12 dX0_hasEnded_5 (by decide) (by first | assumption | omega) hzq1 (fun c5_9 => ?_) (fun c5_9 => ?_)
  · refine z_iconst C 12 dX0_hasEnded_12 ?_
    refine z_zret C 13 dX0_hasEnded_13 (by decide) (by decide) (by decide) ?_
    exact ⟨rfl, zb.zero (by omega)⟩
  refine z_iconst C 8 dX0_hasEnded_8 ?_
  refine z_goto C 9 13 dX0_hasEnded_9 (by decide) ?_
  refine z_zret C 13 dX0_hasEnded_13 (by decide) (by decide) (by decide) ?_
  exact ⟨rfl, zb.one (by omega)⟩
set_option maxHeartbeats 4000000 in
set_option maxRecDepth 100000 in
theorem c_X0_keepNegative (l : Launch) (G : zG) (M : zMem) (q : Nat) (hq : q < 24) (t : Int) : Met l yX0_keepNegative [.code yX0_keepNegative cX0_keepNegative 2 none] (zR 1 0 0) (zPc G M [.ref (zad G 19 q), .int (zI t)]) (zQv G (fun M' => M' = zup (zup (zup (zup M 19 q 3 (zI (-1))) 21 q 3 (zI 0)) 19 q 5 (zI t)) 19 q 6 (zI 0))) 0 0 (zA G) := by
  refine z_met [(0, .ref (zad G 19 q)), (1, .int (zI t))] (by decide) (Nat.le_of_ble_eq_true rfl) rfl ?_
  intro p e s m below meth c C
  have C : zC p s m ([.ref (zad G 19 q), .int (zI t)] : List Value).toArray meth c G RX0 cX0_keepNegative 2 none := C
  refine z_aload_n C 0 dX0_keepNegative_0 rfl 0 rfl ?_
  refine z_iconst C 1 dX0_keepNegative_1 ?_
  refine z_putI C 2 zcl0 (show q < 24 by omega) (zc19 ..) 3 (by decide) wf_0_29 rfl rfl rfl (Nat.le_of_ble_eq_true rfl) (zc19 ..) dX0_keepNegative_2 ?_
  refine z_aload_n C 5 dX0_keepNegative_5 rfl 0 rfl ?_
  refine z_get C 6 zcl0 (show q < 24 by omega) (zc19 ..) 1 (by decide) rfl wf_0_21 dX0_keepNegative_6 ?_
  refine z_callVv C 9 (As := []) (rest := []) (c_X1_clear_21 l G (zup M 19 q 3 (zI (-1))) q hq) zcl1 (show q < 24 by omega) (zc21 ..) (zW_of 0 C wm_0_43 wc_X1_clear wini_1 wi_X1_clear wse_X1_clear ⟨by decide, by decide, by decide⟩ ⟨by decide, by decide⟩) rfl (Nat.le_of_ble_eq_true rfl) ⟨by decide, by decide⟩ dX0_keepNegative_9 rfl (fun Mz2 hPz1 => ?_)
  refine z_aload_n C 12 dX0_keepNegative_12 rfl 0 rfl ?_
  refine z_iload_n C 13 dX0_keepNegative_13 rfl 1 rfl ?_
  refine z_putI C 14 zcl0 (show q < 24 by omega) (zc19 ..) 5 (by decide) wf_0_36 rfl rfl rfl (Nat.le_of_ble_eq_true rfl) (zc19 ..) dX0_keepNegative_14 ?_
  refine z_aload_n C 17 dX0_keepNegative_17 rfl 0 rfl ?_
  refine z_iconst C 18 dX0_keepNegative_18 ?_
  refine z_putI C 19 zcl0 (show q < 24 by omega) (zc19 ..) 6 (by decide) wf_0_39 rfl rfl rfl (Nat.le_of_ble_eq_true rfl) (zc19 ..) dX0_keepNegative_19 ?_
  refine z_vret C 22 dX0_keepNegative_22 (by decide) (by decide) ?_
  rw [hPz1]
set_option maxHeartbeats 4000000 in
set_option maxRecDepth 100000 in
theorem c_X0_keepPositive (l : Launch) (G : zG) (M : zMem) (q : Nat) (hq : q < 24) (num : Int) (hnum : zrg num) (i : Nat) (hi : i < 24) (t : Int) (ht : zrg t) (hn : 0 ≤ zV M 5 i 3 ∧ zV M 5 i 3 ≤ 4) : Met l yX0_keepPositive [.code yX0_keepPositive cX0_keepPositive 5 none] (zR 2 0 0) (zPc G M [.ref (zad G 19 q), .int (zI num), .ref (zad G 3 i), .int (zI t)]) (zQv G (fun M' => zkp M M' q i num t)) 0 0 (zA G) := by
  refine z_met [(0, .ref (zad G 19 q)), (1, .int (zI num)), (2, .ref (zad G 3 i)), (3, .int (zI t))] (by decide) (Nat.le_of_ble_eq_true rfl) rfl ?_
  intro p e s m below meth c C
  have C : zC p s m ([.ref (zad G 19 q), .int (zI num), .ref (zad G 3 i), .int (zI t)] : List Value).toArray meth c G RX0 cX0_keepPositive 5 none := C
  refine z_aload_n C 0 dX0_keepPositive_0 rfl 0 rfl ?_
  refine z_iload_n C 1 dX0_keepPositive_1 rfl 1 rfl ?_
  refine z_putI C 2 zcl0 (show q < 24 by omega) (zc19 ..) 3 (by decide) wf_0_29 rfl rfl rfl (Nat.le_of_ble_eq_true rfl) (zc19 ..) dX0_keepPositive_2 ?_
  refine z_aload_n C 5 dX0_keepPositive_5 rfl 0 rfl ?_
  refine z_aload_n C 6 dX0_keepPositive_6 rfl 2 rfl ?_
  refine z_getI C 7 zcl2 (show i < 24 by omega) (zc3 ..) 2 (by decide) rfl wf_0_46 dX0_keepPositive_7 (fun zq1 ezq1 hzq1 => ?_)
  rw [zV_ne (by decide)] at ezq1
  refine z_putI C 10 zcl0 (show q < 24 by omega) (zc19 ..) 4 (by decide) wf_0_33 rfl rfl rfl (Nat.le_of_ble_eq_true rfl) (zc19 ..) dX0_keepPositive_10 ?_
  refine z_aload_n C 13 dX0_keepPositive_13 rfl 0 rfl ?_
  refine z_get C 14 zcl0 (show q < 24 by omega) (zc19 ..) 1 (by decide) rfl wf_0_21 dX0_keepPositive_14 ?_
  refine z_aload_n C 17 dX0_keepPositive_17 rfl 2 rfl ?_
  refine z_get C 18 zcl2 (show i < 24 by omega) (zc3 ..) 1 (by decide) rfl wf_0_49 dX0_keepPositive_18 ?_
  refine z_callVv C 21 (As := [.ref (zad G 5 i)]) (rest := []) (c_X1_copy_21 l G (zup (zup M 19 q 3 (zI num)) 19 q 4 (zI zq1)) q hq i hi (by rw [zV_ne (by decide), zV_ne (by decide)]; exact hn)) zcl1 (show q < 24 by omega) (zc21 ..) (zW_of 1 C wm_0_50 wc_X1_copy wini_1 wi_X1_copy wse_X1_copy ⟨by decide, by decide, by decide⟩ ⟨by decide, by decide⟩) rfl (Nat.le_of_ble_eq_true rfl) ⟨by decide, by decide⟩ dX0_keepPositive_21 rfl (fun Mz3 hPz2 => ?_)
  refine z_iconst C 24 dX0_keepPositive_24 ?_
  refine z_istore (lv' := [(4, .int (zI 0)), (0, .ref (zad G 19 q)), (1, .int (zI num)), (2, .ref (zad G 3 i)), (3, .int (zI t))]) C 25 dX0_keepPositive_25 (by decide) rfl ?_
  have L27_4 : ∀ (kz4 : Nat) (M1 : zMem) (k : Int), (0 ≤ k ∧ k ≤ 4) → (zkpk Mz3 M1 q k) → (4 - k) < (kz4 : Int) → zZ p l e (zR 2 0 0) s m ([.ref (zad G 19 q), .int (zI num), .ref (zad G 3 i), .int (zI t)] : List Value).toArray below meth c G 5 (MQ below (zQv G (fun M' => zkp M M' q i num t)) ([.ref (zad G 19 q), .int (zI num), .ref (zad G 3 i), .int (zI t)] : List Value).toArray s 0 0 (zA G)) M1 0 0 27 [(0, .ref (zad G 19 q)), (1, .int (zI num)), (2, .ref (zad G 3 i)), (3, .int (zI t)), (4, .int (zI k))] [] := by
    intro kz4
    induction kz4 with
    | zero =>
      intro M1 k g0 g1 hk
      exact absurd hk (by omega)
    | succ kz4 ihz5 =>
      intro M1 k g0 g1 hk
      refine z_iload C 27 dX0_keepPositive_27 4 rfl ?_
      refine z_iconst C 29 dX0_keepPositive_29 ?_
      refine z_icmp_ge C 30 47 dX0_keepPositive_30 (by decide) (by first | assumption | omega) (by decide) (fun c30_31 => ?_) (fun c30_31 => ?_)
      · refine z_aload_n C 47 dX0_keepPositive_47 rfl 0 rfl ?_
        refine z_iload_n C 48 dX0_keepPositive_48 rfl 3 rfl ?_
        refine z_putI C 49 zcl0 (show q < 24 by omega) (zc19 ..) 5 (by decide) wf_0_36 rfl rfl rfl (Nat.le_of_ble_eq_true rfl) (zc19 ..) dX0_keepPositive_49 ?_
        refine z_aload_n C 52 dX0_keepPositive_52 rfl 0 rfl ?_
        refine z_iconst C 53 dX0_keepPositive_53 ?_
        refine z_putI C 54 zcl0 (show q < 24 by omega) (zc19 ..) 6 (by decide) wf_0_39 rfl rfl rfl (Nat.le_of_ble_eq_true rfl) (zc19 ..) dX0_keepPositive_54 ?_
        refine z_vret C 57 dX0_keepPositive_57 (by decide) (by decide) ?_
        have hk9 : k = 4 := by omega
        subst hk9
        exact zkp_end hnum ht (by rw [ezq1]) hPz2 g1 rfl
      refine z_aload_n C 33 dX0_keepPositive_33 rfl 0 rfl ?_
      refine z_get C 34 zcl0 (show q < 24 by omega) (zc19 ..) 2 (by decide) rfl wf_0_25 dX0_keepPositive_34 ?_
      refine z_iload C 37 dX0_keepPositive_37 4 rfl ?_
      refine z_iconst C 39 dX0_keepPositive_39 ?_
      refine z_iast C 40 (show q < 24 by omega) (zc25 ..) (by first | assumption | omega) (by omega) (show k < ((4 : Nat) : Int) by omega) (zc25 ..) dX0_keepPositive_40 ?_
      refine z_iinc (lv' := [(4, .int (zI (k + 1))), (0, .ref (zad G 19 q)), (1, .int (zI num)), (2, .ref (zad G 3 i)), (3, .int (zI t))]) C 41 dX0_keepPositive_41 4 rfl (by decide) rfl ?_
      refine z_goto C 44 27 dX0_keepPositive_44 (by decide) ?_
      refine z_sub (lv' := [(0, .ref (zad G 19 q)), (1, .int (zI num)), (2, .ref (zad G 3 i)), (3, .int (zI t)), (4, .int (zI (k + 1)))]) [1, 2, 3, 4, 0] rfl ?_
      exact ihz5 (zup M1 25 q k.toNat (zI 0)) (k + 1) (by omega) (by exact zkpk_1 (by omega) g1) (by omega)
  refine z_sub (lv' := [(0, .ref (zad G 19 q)), (1, .int (zI num)), (2, .ref (zad G 3 i)), (3, .int (zI t)), (4, .int (zI 0))]) [1, 2, 3, 4, 0] rfl ?_
  exact L27_4 (((4 - 0 : Int)).toNat + 1) Mz3 0 (by omega) (by exact ⟨fun j hj => absurd hj (by omega), fun _ _ _ _ => rfl⟩) (by omega)
set_option maxHeartbeats 4000000 in
set_option maxRecDepth 100000 in
theorem c_X0_isLookedAt (l : Launch) (G : zG) (M : zMem) (q : Nat) (hq : q < 24) (r : Nat) (hr : r < 3) (hw : zwe M q) (k b : Int) (hk : 0 ≤ k ∧ k < 4) (hb : zrg b) : Met l yX0_isLookedAt [.code yX0_isLookedAt cX0_isLookedAt 4 (some .boolean)] (zR 0 0 0) (zPc G M [.ref (zad G 19 q), .int (zI k), .ref (zad G 18 r), .int (zI b)]) (zQi G (fun x M' => M = M' ∧ zb x (zlk (zun M r) (zea M q) (zep M q) b k.toNat))) 0 0 (zA G) := by
  refine z_met [(0, .ref (zad G 19 q)), (1, .int (zI k)), (2, .ref (zad G 18 r)), (3, .int (zI b))] (by decide) (Nat.le_of_ble_eq_true rfl) rfl ?_
  intro p e s m below meth c C
  have C : zC p s m ([.ref (zad G 19 q), .int (zI k), .ref (zad G 18 r), .int (zI b)] : List Value).toArray meth c G RX0 cX0_isLookedAt 4 (some .boolean) := C
  have hw9z := hw
  obtain ⟨⟨n0, n1⟩, ha⟩ := hw9z
  have ha9 := ha k.toNat (by omega)
  refine z_aload_n C 0 dX0_isLookedAt_0 rfl 0 rfl ?_
  refine z_get C 1 zcl0 (show q < 24 by omega) (zc19 ..) 1 (by decide) rfl wf_0_21 dX0_isLookedAt_1 ?_
  refine z_get C 4 zcl1 (show q < 24 by omega) (zc21 ..) 1 (by decide) rfl wf_0_68 dX0_isLookedAt_4 ?_
  refine z_iload_n C 7 dX0_isLookedAt_7 rfl 1 rfl ?_
  refine z_iald C 8 (show q < 24 by omega) (zc23 ..) (by first | assumption | omega) (by omega) (show k < ((4 : Nat) : Int) by omega) dX0_isLookedAt_8 (fun zq1 ezq1 hzq1 => ?_)
  refine z_iload_n C 9 dX0_isLookedAt_9 rfl 3 rfl ?_
  refine z_icmp_ne C 10 31 dX0_isLookedAt_10 (by decide) hzq1 (by first | assumption | omega) (fun c10_15 => ?_) (fun c10_15 => ?_)
  · have hF : ¬ zlk (zun M r) (zea M q) (zep M q) b k.toNat := fun z => by have z1 : zV M 23 q k.toNat = b := z.1; omega
    refine z_iconst C 31 dX0_isLookedAt_31 ?_
    refine z_zret C 32 dX0_isLookedAt_32 (by decide) (by decide) (by decide) ?_
    exact ⟨rfl, zb.zero hF⟩
  refine z_aload_n C 13 dX0_isLookedAt_13 rfl 2 rfl ?_
  refine z_aload_n C 14 dX0_isLookedAt_14 rfl 0 rfl ?_
  refine z_get C 15 zcl0 (show q < 24 by omega) (zc19 ..) 1 (by decide) rfl wf_0_21 dX0_isLookedAt_15 ?_
  refine z_get C 18 zcl1 (show q < 24 by omega) (zc21 ..) 0 (by decide) rfl wf_0_62 dX0_isLookedAt_18 ?_
  refine z_iload_n C 21 dX0_isLookedAt_21 rfl 1 rfl ?_
  refine z_iald C 22 (show q < 24 by omega) (zc22 ..) (by first | assumption | omega) (by omega) (show k < ((4 : Nat) : Int) by omega) dX0_isLookedAt_22 (fun zq2 ezq2 hzq2 => ?_)
  refine z_zald C 23 (show r < 3 by omega) (zc18 ..) hzq2 (by omega) (show zq2 < ((32 : Nat) : Int) by omega) dX0_isLookedAt_23 (fun zq3 ezq3 hzq3 => ?_)
  refine z_if_ne C 24 31 dX0_isLookedAt_24 (by decide) hzq3 (fun c24_27 => ?_) (fun c24_27 => ?_)
  · have hF : ¬ zlk (zun M r) (zea M q) (zep M q) b k.toNat := fun z => by have z1 : zV M 18 r (zV M 22 q k.toNat).toNat = 0 := z.2; rw [← ezq2, ← ezq3] at z1; omega
    refine z_iconst C 31 dX0_isLookedAt_31 ?_
    refine z_zret C 32 dX0_isLookedAt_32 (by decide) (by decide) (by decide) ?_
    exact ⟨rfl, zb.zero hF⟩
  refine z_iconst C 27 dX0_isLookedAt_27 ?_
  refine z_goto C 28 32 dX0_isLookedAt_28 (by decide) ?_
  refine z_zret C 32 dX0_isLookedAt_32 (by decide) (by decide) (by decide) ?_
  exact ⟨rfl, zb.one ⟨by show zV M 23 q k.toNat = b; omega, by show zV M 18 r (zV M 22 q k.toNat).toNat = 0; rw [← ezq2, ← ezq3]; omega⟩⟩
set_option maxHeartbeats 4000000 in
set_option maxRecDepth 100000 in
theorem c_X0_bestPriority (l : Launch) (G : zG) (M : zMem) (q : Nat) (hq : q < 24) (r : Nat) (hr : r < 3) (hw : zwe M q)  : Met l yX0_bestPriority [.code yX0_bestPriority cX0_bestPriority 4 (some .int)] (zR 1 0 0) (zPc G M [.ref (zad G 19 q), .ref (zad G 18 r)]) (zQi G (fun x M' => M = M' ∧ x = zeb M r q)) 0 0 (zA G) := by
  refine z_met [(0, .ref (zad G 19 q)), (1, .ref (zad G 18 r))] (by decide) (Nat.le_of_ble_eq_true rfl) rfl ?_
  intro p e s m below meth c C
  have C : zC p s m ([.ref (zad G 19 q), .ref (zad G 18 r)] : List Value).toArray meth c G RX0 cX0_bestPriority 4 (some .int) := C
  have hw9z := hw
  obtain ⟨⟨n0, n1⟩, ha⟩ := hw9z
  refine z_iconst C 0 dX0_bestPriority_0 ?_
  refine z_istore_n (lv' := [(2, .int (zI 4)), (0, .ref (zad G 19 q)), (1, .ref (zad G 18 r))]) C 1 dX0_bestPriority_1 rfl (by decide) rfl ?_
  refine z_iconst C 2 dX0_bestPriority_2 ?_
  refine z_istore_n (lv' := [(3, .int (zI 0)), (2, .int (zI 4)), (0, .ref (zad G 19 q)), (1, .ref (zad G 18 r))]) C 3 dX0_bestPriority_3 rfl (by decide) rfl ?_
  have L4_1 : ∀ (kz1 : Nat) (b : Int) (k : Int), (0 ≤ k ∧ k ≤ zV M 21 q 3) → (b = zbp (zun M r) (zea M q) (zep M q) k.toNat) → (zrg b) → (zV M 21 q 3 - k) < (kz1 : Int) → zZ p l e (zR 1 0 0) s m ([.ref (zad G 19 q), .ref (zad G 18 r)] : List Value).toArray below meth c G 4 (MQ below (zQi G (fun x M' => M = M' ∧ x = zeb M r q)) ([.ref (zad G 19 q), .ref (zad G 18 r)] : List Value).toArray s 0 0 (zA G)) M 0 0 4 [(0, .ref (zad G 19 q)), (1, .ref (zad G 18 r)), (2, .int (zI b)), (3, .int (zI k))] [] := by
    intro kz1
    induction kz1 with
    | zero =>
      intro b k g0 g1 g2 hk
      exact absurd hk (by omega)
    | succ kz1 ihz2 =>
      intro b k g0 g1 g2 hk
      have ha9 := ha k.toNat
      refine z_iload_n C 4 dX0_bestPriority_4 rfl 3 rfl ?_
      refine z_aload_n C 5 dX0_bestPriority_5 rfl 0 rfl ?_
      refine z_get C 6 zcl0 (show q < 24 by omega) (zc19 ..) 1 (by decide) rfl wf_0_21 dX0_bestPriority_6 ?_
      refine z_getI C 9 zcl1 (show q < 24 by omega) (zc21 ..) 3 (by decide) rfl wf_0_65 dX0_bestPriority_9 (fun zq3 ezq3 hzq3 => ?_)
      refine z_icmp_ge C 12 49 dX0_bestPriority_12 (by decide) (by first | assumption | omega) hzq3 (fun c12_25 => ?_) (fun c12_25 => ?_)
      · refine z_iload_n C 49 dX0_bestPriority_49 rfl 2 rfl ?_
        refine z_iret C 50 dX0_bestPriority_50 (by decide) (by decide) (by first | assumption | omega) ?_
        refine ⟨rfl, ?_⟩
        rw [g1]
        unfold zeb
        rw [show k = zV M 21 q 3 by omega]
      refine z_aload_n C 15 dX0_bestPriority_15 rfl 1 rfl ?_
      refine z_aload_n C 16 dX0_bestPriority_16 rfl 0 rfl ?_
      refine z_get C 17 zcl0 (show q < 24 by omega) (zc19 ..) 1 (by decide) rfl wf_0_21 dX0_bestPriority_17 ?_
      refine z_get C 20 zcl1 (show q < 24 by omega) (zc21 ..) 0 (by decide) rfl wf_0_62 dX0_bestPriority_20 ?_
      refine z_iload_n C 23 dX0_bestPriority_23 rfl 3 rfl ?_
      refine z_iald C 24 (show q < 24 by omega) (zc22 ..) (by first | assumption | omega) (by omega) (show k < ((4 : Nat) : Int) by omega) dX0_bestPriority_24 (fun zq4 ezq4 hzq4 => ?_)
      refine z_zald C 25 (show r < 3 by omega) (zc18 ..) hzq4 (by omega) (show zq4 < ((32 : Nat) : Int) by omega) dX0_bestPriority_25 (fun zq5 ezq5 hzq5 => ?_)
      refine z_if_ne C 26 43 dX0_bestPriority_26 (by decide) hzq5 (fun c26_39 => ?_) (fun c26_39 => ?_)
      · refine z_iinc (lv' := [(3, .int (zI (k + 1))), (0, .ref (zad G 19 q)), (1, .ref (zad G 18 r)), (2, .int (zI b))]) C 43 dX0_bestPriority_43 3 rfl (by decide) rfl ?_
        refine z_goto C 46 4 dX0_bestPriority_46 (by decide) ?_
        refine z_sub (lv' := [(0, .ref (zad G 19 q)), (1, .ref (zad G 18 r)), (2, .int (zI b)), (3, .int (zI (k + 1)))]) [1, 2, 3, 0] rfl ?_
        exact ihz2 b (k + 1) (by omega) (by rw [zbp_s _ _ _ (by omega), if_neg (by show ¬ zV M 18 r (zV M 22 q k.toNat).toNat = 0; rw [← ezq4, ← ezq5]; omega)]; exact g1) (by omega) (by omega)
      refine z_iload_n C 29 dX0_bestPriority_29 rfl 2 rfl ?_
      refine z_aload_n C 30 dX0_bestPriority_30 rfl 0 rfl ?_
      refine z_get C 31 zcl0 (show q < 24 by omega) (zc19 ..) 1 (by decide) rfl wf_0_21 dX0_bestPriority_31 ?_
      refine z_get C 34 zcl1 (show q < 24 by omega) (zc21 ..) 1 (by decide) rfl wf_0_68 dX0_bestPriority_34 ?_
      refine z_iload_n C 37 dX0_bestPriority_37 rfl 3 rfl ?_
      refine z_iald C 38 (show q < 24 by omega) (zc23 ..) (by first | assumption | omega) (by omega) (show k < ((4 : Nat) : Int) by omega) dX0_bestPriority_38 (fun zq6 ezq6 hzq6 => ?_)
      refine z_min C 39 wm_0_71 (by first | assumption | omega) hzq6 (by decide) dX0_bestPriority_39 ?_
      refine z_istore_n (lv' := [(2, .int (zI (min b zq6))), (0, .ref (zad G 19 q)), (1, .ref (zad G 18 r)), (3, .int (zI k))]) C 42 dX0_bestPriority_42 rfl (by decide) rfl ?_
      refine z_iinc (lv' := [(3, .int (zI (k + 1))), (2, .int (zI (min b zq6))), (0, .ref (zad G 19 q)), (1, .ref (zad G 18 r))]) C 43 dX0_bestPriority_43 3 rfl (by decide) rfl ?_
      refine z_goto C 46 4 dX0_bestPriority_46 (by decide) ?_
      refine z_sub (lv' := [(0, .ref (zad G 19 q)), (1, .ref (zad G 18 r)), (2, .int (zI (min b zq6))), (3, .int (zI (k + 1)))]) [2, 3, 1, 0] rfl ?_
      exact ihz2 (min b zq6) (k + 1) (by omega) (by rw [zbp_s _ _ _ (by omega), if_pos (by show zV M 18 r (zV M 22 q k.toNat).toNat = 0; rw [← ezq4, ← ezq5]; omega), ← g1, ezq6]; rfl) (by omega) (by omega)
  refine z_sub (lv' := [(0, .ref (zad G 19 q)), (1, .ref (zad G 18 r)), (2, .int (zI 4)), (3, .int (zI 0))]) [2, 3, 1, 0] rfl ?_
  exact L4_1 (((zV M 21 q 3 - 0 : Int)).toNat + 1) 4 0 (by omega) (by rfl) (by omega) (by omega)
set_option maxHeartbeats 4000000 in
set_option maxRecDepth 100000 in
theorem c_X0_choose (l : Launch) (G : zG) (M : zMem) (q : Nat) (hq : q < 24) (r : Nat) (hr : r < 3) (hw : zwe M q) (b : Int) (hb : zrg b) : Met l yX0_choose [.code yX0_choose cX0_choose 9 (some .int)] (zR 1 0 0) (zPc G M [.ref (zad G 19 q), .ref (zad G 18 r), .int (zI b)]) (zQi G (fun x M' => M = M' ∧ x = zech M r q b)) 0 0 (zA G) := by
  refine z_met [(0, .ref (zad G 19 q)), (1, .ref (zad G 18 r)), (2, .int (zI b))] (by decide) (Nat.le_of_ble_eq_true rfl) rfl ?_
  intro p e s m below meth c C
  have C : zC p s m ([.ref (zad G 19 q), .ref (zad G 18 r), .int (zI b)] : List Value).toArray meth c G RX0 cX0_choose 9 (some .int) := C
  have hw9z := hw
  obtain ⟨⟨n0, n1⟩, ha⟩ := hw9z
  refine z_iconst C 0 dX0_choose_0 ?_
  refine z_istore_n (lv' := [(3, .int (zI 0)), (0, .ref (zad G 19 q)), (1, .ref (zad G 18 r)), (2, .int (zI b))]) C 1 dX0_choose_1 rfl (by decide) rfl ?_
  refine z_iconst C 2 dX0_choose_2 ?_
  refine z_istore (lv' := [(4, .int (zI 0)), (3, .int (zI 0)), (0, .ref (zad G 19 q)), (1, .ref (zad G 18 r)), (2, .int (zI b))]) C 3 dX0_choose_3 (by decide) rfl ?_
  refine z_iconst C 5 dX0_choose_5 ?_
  refine z_istore (lv' := [(5, .int (zI 0)), (4, .int (zI 0)), (3, .int (zI 0)), (0, .ref (zad G 19 q)), (1, .ref (zad G 18 r)), (2, .int (zI b))]) C 6 dX0_choose_6 (by decide) rfl ?_
  have L8_1 : ∀ (kz1 : Nat) (S : Int) (w : Int) (k : Int), (0 ≤ k ∧ k ≤ zV M 21 q 3) → (S = zsm (zls (zun M r) (zea M q) (zep M q) (zek M q) b) k.toNat) → (w = zsm (zls (zun M r) (zea M q) (zep M q) (zew M q) b) k.toNat) → (zV M 21 q 3 - k) < (kz1 : Int) → zZ p l e (zR 1 0 0) s m ([.ref (zad G 19 q), .ref (zad G 18 r), .int (zI b)] : List Value).toArray below meth c G 9 (MQ below (zQi G (fun x M' => M = M' ∧ x = zech M r q b)) ([.ref (zad G 19 q), .ref (zad G 18 r), .int (zI b)] : List Value).toArray s 0 0 (zA G)) M 0 0 8 [(0, .ref (zad G 19 q)), (1, .ref (zad G 18 r)), (2, .int (zI b)), (3, .int (zI S)), (4, .int (zI w)), (5, .int (zI k))] [] := by
    intro kz1
    induction kz1 with
    | zero =>
      intro S w k g0 g1 g2 hk
      exact absurd hk (by omega)
    | succ kz1 ihz2 =>
      intro S w k g0 g1 g2 hk
      refine z_iload C 8 dX0_choose_8 5 rfl ?_
      refine z_aload_n C 10 dX0_choose_10 rfl 0 rfl ?_
      refine z_get C 11 zcl0 (show q < 24 by omega) (zc19 ..) 1 (by decide) rfl wf_0_21 dX0_choose_11 ?_
      refine z_getI C 14 zcl1 (show q < 24 by omega) (zc21 ..) 3 (by decide) rfl wf_0_65 dX0_choose_14 (fun zq3 ezq3 hzq3 => ?_)
      refine z_icmp_ge C 17 62 dX0_choose_17 (by decide) (by first | assumption | omega) hzq3 (fun c17_26 => ?_) (fun c17_26 => ?_)
      · refine z_iconst C 62 dX0_choose_62 ?_
        refine z_istore (lv' := [(5, .int (zI (-1))), (0, .ref (zad G 19 q)), (1, .ref (zad G 18 r)), (2, .int (zI b)), (3, .int (zI S)), (4, .int (zI w))]) C 63 dX0_choose_63 (by decide) rfl ?_
        refine z_iconst C 65 dX0_choose_65 ?_
        refine z_istore (lv' := [(6, .int (zI 0)), (5, .int (zI (-1))), (0, .ref (zad G 19 q)), (1, .ref (zad G 18 r)), (2, .int (zI b)), (3, .int (zI S)), (4, .int (zI w))]) C 66 dX0_choose_66 (by decide) rfl ?_
        refine z_iconst C 68 dX0_choose_68 ?_
        refine z_istore (lv' := [(7, .int (zI 0)), (6, .int (zI 0)), (5, .int (zI (-1))), (0, .ref (zad G 19 q)), (1, .ref (zad G 18 r)), (2, .int (zI b)), (3, .int (zI S)), (4, .int (zI w))]) C 69 dX0_choose_69 (by decide) rfl ?_
        have L71_4 : ∀ (kz4 : Nat) (f : Int) (y : Int) (j : Int), (0 ≤ j ∧ j ≤ zV M 21 q 3) → (zechk M r q b j.toNat = (f, y)) → (zrg y ∧ zrg f) → (zV M 21 q 3 - j) < (kz4 : Int) → zZ p l e (zR 1 0 0) s m ([.ref (zad G 19 q), .ref (zad G 18 r), .int (zI b)] : List Value).toArray below meth c G 9 (MQ below (zQi G (fun x M' => M = M' ∧ x = zech M r q b)) ([.ref (zad G 19 q), .ref (zad G 18 r), .int (zI b)] : List Value).toArray s 0 0 (zA G)) M 0 0 71 [(0, .ref (zad G 19 q)), (1, .ref (zad G 18 r)), (2, .int (zI b)), (3, .int (zI S)), (4, .int (zI w)), (5, .int (zI f)), (6, .int (zI y)), (7, .int (zI j))] [] := by
          intro kz4
          induction kz4 with
          | zero =>
            intro f y j f0 f1 f2 hk
            exact absurd hk (by omega)
          | succ kz4 ihz5 =>
            intro f y j f0 f1 f2 hk
            have hS9 : S = zeS M r q b := by rw [g1]; unfold zeS; rw [show k = zV M 21 q 3 by omega]
            have hW9 : w = zeW M r q b := by rw [g2]; unfold zeW; rw [show k = zV M 21 q 3 by omega]
            refine z_iload C 71 dX0_choose_71 7 rfl ?_
            refine z_aload_n C 73 dX0_choose_73 rfl 0 rfl ?_
            refine z_get C 74 zcl0 (show q < 24 by omega) (zc19 ..) 1 (by decide) rfl wf_0_21 dX0_choose_74 ?_
            refine z_getI C 77 zcl1 (show q < 24 by omega) (zc21 ..) 3 (by decide) rfl wf_0_65 dX0_choose_77 (fun zq6 ezq6 hzq6 => ?_)
            refine z_icmp_ge C 80 148 dX0_choose_80 (by decide) (by first | assumption | omega) hzq6 (fun c80_48 => ?_) (fun c80_48 => ?_)
            · refine z_iload C 148 dX0_choose_148 5 rfl ?_
              refine z_iret C 150 dX0_choose_150 (by decide) (by decide) (by first | assumption | omega) ?_
              refine ⟨rfl, ?_⟩
              unfold zech
              rw [← show j = zV M 21 q 3 by omega, f1]
            refine z_aload_n C 83 dX0_choose_83 rfl 0 rfl ?_
            refine z_get C 84 zcl0 (show q < 24 by omega) (zc19 ..) 1 (by decide) rfl wf_0_21 dX0_choose_84 ?_
            refine z_get C 87 zcl1 (show q < 24 by omega) (zc21 ..) 2 (by decide) rfl wf_0_81 dX0_choose_87 ?_
            refine z_iload C 90 dX0_choose_90 7 rfl ?_
            refine z_iald C 92 (show q < 24 by omega) (zc24 ..) (by first | assumption | omega) (by omega) (show j < ((4 : Nat) : Int) by omega) dX0_choose_92 (fun zq7 ezq7 hzq7 => ?_)
            refine z_iload_n C 93 dX0_choose_93 rfl 3 rfl ?_
            refine z_iconst C 94 dX0_choose_94 ?_
            refine z_iadd C 95 dX0_choose_95 ?_
            refine z_imul C 96 dX0_choose_96 ?_
            refine z_iload C 97 dX0_choose_97 4 rfl ?_
            refine z_aload_n C 99 dX0_choose_99 rfl 0 rfl ?_
            refine z_get C 100 zcl0 (show q < 24 by omega) (zc19 ..) 2 (by decide) rfl wf_0_25 dX0_choose_100 ?_
            refine z_iload C 103 dX0_choose_103 7 rfl ?_
            refine z_iald C 105 (show q < 24 by omega) (zc25 ..) (by first | assumption | omega) (by omega) (show j < ((4 : Nat) : Int) by omega) dX0_choose_105 (fun zq8 ezq8 hzq8 => ?_)
            refine z_imul C 106 dX0_choose_106 ?_
            refine z_isub C 107 dX0_choose_107 ?_
            refine z_norm ?_
            intro yy eyy hyy
            have hlk : yy = zlack (zew M q) (zek M q) (zeS M r q b) (zeW M r q b) j.toNat := by rw [eyy, hS9, hW9, ezq7, ezq8]; rfl
            refine z_istore (lv' := [(8, .int (zI yy)), (0, .ref (zad G 19 q)), (1, .ref (zad G 18 r)), (2, .int (zI b)), (3, .int (zI S)), (4, .int (zI w)), (5, .int (zI f)), (6, .int (zI y)), (7, .int (zI j))]) C 108 dX0_choose_108 (by decide) rfl ?_
            refine z_aload_n C 110 dX0_choose_110 rfl 1 rfl ?_
            refine z_iload C 111 dX0_choose_111 8 rfl ?_
            refine z_aload_n C 113 dX0_choose_113 rfl 2 rfl ?_
            refine z_iload_n C 114 dX0_choose_114 rfl 3 rfl ?_
            refine z_callVi C 115 (As := [.int (zI j), .ref (zad G 18 r), .int (zI b)]) (rest := []) (c_X0_isLookedAt l G M q hq r hr hw j b (by omega) hb) zcl0 (show q < 24 by omega) (zc19 ..) (zW_of 3 C wm_0_77 wc_X0_isLookedAt wini_0 wi_X0_isLookedAt wse_X0_isLookedAt ⟨by decide, by decide, by decide⟩ ⟨by decide, by decide⟩) rfl (Nat.le_of_ble_eq_true rfl) ⟨by decide, by decide⟩ dX0_choose_115 rfl (fun zq9 Mz10 hzq9 hPz9 => ?_)
            obtain ⟨rfl, hPz9⟩ := hPz9
            refine z_if_eq C 118 142 dX0_choose_118 (by decide) hzq9 (fun c118_80 => ?_) (fun c118_80 => ?_)
            · have hF : ¬ (zlk (zun M r) (zea M q) (zep M q) b j.toNat ∧ (f = -1 ∨ y < zlack (zew M q) (zek M q) (zeS M r q b) (zeW M r q b) j.toNat)) := fun z => (hPz9.f c118_80) z.1
              refine z_iinc (lv' := [(7, .int (zI (j + 1))), (8, .int (zI yy)), (0, .ref (zad G 19 q)), (1, .ref (zad G 18 r)), (2, .int (zI b)), (3, .int (zI S)), (4, .int (zI w)), (5, .int (zI f)), (6, .int (zI y))]) C 142 dX0_choose_142 8 rfl (by decide) rfl ?_
              refine z_goto C 145 71 dX0_choose_145 (by decide) ?_
              refine z_sub (lv' := [(0, .ref (zad G 19 q)), (1, .ref (zad G 18 r)), (2, .int (zI b)), (3, .int (zI S)), (4, .int (zI w)), (5, .int (zI f)), (6, .int (zI y)), (7, .int (zI (j + 1)))]) [2, 3, 4, 5, 6, 7, 8, 0] rfl ?_
              exact ihz5 f y (j + 1) (by omega) (by exact zch_f (by omega) f1 hF) (by omega) (by omega)
            have hT : zlk (zun M r) (zea M q) (zep M q) b j.toNat := hPz9.t c118_80
            have hY : yy = zlack (zew M q) (zek M q) (zeS M r q b) (zeW M r q b) j.toNat := hlk
            refine z_iload C 121 dX0_choose_121 6 rfl ?_
            refine z_iconst C 123 dX0_choose_123 ?_
            refine z_icmp_eq C 124 134 dX0_choose_124 (by decide) (by first | assumption | omega) (by decide) (fun c124_90 => ?_) (fun c124_90 => ?_)
            · refine z_iload C 134 dX0_choose_134 8 rfl ?_
              refine z_istore (lv' := [(5, .int (zI j)), (8, .int (zI yy)), (0, .ref (zad G 19 q)), (1, .ref (zad G 18 r)), (2, .int (zI b)), (3, .int (zI S)), (4, .int (zI w)), (6, .int (zI y)), (7, .int (zI j))]) C 136 dX0_choose_136 (by decide) rfl ?_
              refine z_iload C 138 dX0_choose_138 1 rfl ?_
              refine z_istore (lv' := [(6, .int (zI yy)), (5, .int (zI j)), (8, .int (zI yy)), (0, .ref (zad G 19 q)), (1, .ref (zad G 18 r)), (2, .int (zI b)), (3, .int (zI S)), (4, .int (zI w)), (7, .int (zI j))]) C 140 dX0_choose_140 (by decide) rfl ?_
              refine z_iinc (lv' := [(7, .int (zI (j + 1))), (6, .int (zI yy)), (5, .int (zI j)), (8, .int (zI yy)), (0, .ref (zad G 19 q)), (1, .ref (zad G 18 r)), (2, .int (zI b)), (3, .int (zI S)), (4, .int (zI w))]) C 142 dX0_choose_142 8 rfl (by decide) rfl ?_
              refine z_goto C 145 71 dX0_choose_145 (by decide) ?_
              refine z_sub (lv' := [(0, .ref (zad G 19 q)), (1, .ref (zad G 18 r)), (2, .int (zI b)), (3, .int (zI S)), (4, .int (zI w)), (5, .int (zI j)), (6, .int (zI yy)), (7, .int (zI (j + 1)))]) [4, 5, 6, 7, 8, 2, 1, 0] rfl ?_
              exact ihz5 j yy (j + 1) (by omega) (by rw [hY]; exact zch_t (by omega) f1 hT (by rw [← hlk]; omega)) (by omega) (by omega)
            refine z_iload C 127 dX0_choose_127 0 rfl ?_
            refine z_iload C 129 dX0_choose_129 7 rfl ?_
            refine z_icmp_le C 131 142 dX0_choose_131 (by decide) hyy (by first | assumption | omega) (fun c131_101 => ?_) (fun c131_101 => ?_)
            · have hF : ¬ (zlk (zun M r) (zea M q) (zep M q) b j.toNat ∧ (f = -1 ∨ y < zlack (zew M q) (zek M q) (zeS M r q b) (zeW M r q b) j.toNat)) := fun z => by have z2 := z.2; rw [← hlk] at z2; omega
              refine z_iinc (lv' := [(7, .int (zI (j + 1))), (8, .int (zI yy)), (0, .ref (zad G 19 q)), (1, .ref (zad G 18 r)), (2, .int (zI b)), (3, .int (zI S)), (4, .int (zI w)), (5, .int (zI f)), (6, .int (zI y))]) C 142 dX0_choose_142 8 rfl (by decide) rfl ?_
              refine z_goto C 145 71 dX0_choose_145 (by decide) ?_
              refine z_sub (lv' := [(0, .ref (zad G 19 q)), (1, .ref (zad G 18 r)), (2, .int (zI b)), (3, .int (zI S)), (4, .int (zI w)), (5, .int (zI f)), (6, .int (zI y)), (7, .int (zI (j + 1)))]) [2, 3, 4, 5, 6, 7, 8, 0] rfl ?_
              exact ihz5 f y (j + 1) (by omega) (by exact zch_f (by omega) f1 hF) (by omega) (by omega)
            refine z_iload C 134 dX0_choose_134 8 rfl ?_
            refine z_istore (lv' := [(5, .int (zI j)), (8, .int (zI yy)), (0, .ref (zad G 19 q)), (1, .ref (zad G 18 r)), (2, .int (zI b)), (3, .int (zI S)), (4, .int (zI w)), (6, .int (zI y)), (7, .int (zI j))]) C 136 dX0_choose_136 (by decide) rfl ?_
            refine z_iload C 138 dX0_choose_138 1 rfl ?_
            refine z_istore (lv' := [(6, .int (zI yy)), (5, .int (zI j)), (8, .int (zI yy)), (0, .ref (zad G 19 q)), (1, .ref (zad G 18 r)), (2, .int (zI b)), (3, .int (zI S)), (4, .int (zI w)), (7, .int (zI j))]) C 140 dX0_choose_140 (by decide) rfl ?_
            refine z_iinc (lv' := [(7, .int (zI (j + 1))), (6, .int (zI yy)), (5, .int (zI j)), (8, .int (zI yy)), (0, .ref (zad G 19 q)), (1, .ref (zad G 18 r)), (2, .int (zI b)), (3, .int (zI S)), (4, .int (zI w))]) C 142 dX0_choose_142 8 rfl (by decide) rfl ?_
            refine z_goto C 145 71 dX0_choose_145 (by decide) ?_
            refine z_sub (lv' := [(0, .ref (zad G 19 q)), (1, .ref (zad G 18 r)), (2, .int (zI b)), (3, .int (zI S)), (4, .int (zI w)), (5, .int (zI j)), (6, .int (zI yy)), (7, .int (zI (j + 1)))]) [4, 5, 6, 7, 8, 2, 1, 0] rfl ?_
            exact ihz5 j yy (j + 1) (by omega) (by rw [hY]; exact zch_t (by omega) f1 hT (by rw [← hlk]; omega)) (by omega) (by omega)
        refine z_sub (lv' := [(0, .ref (zad G 19 q)), (1, .ref (zad G 18 r)), (2, .int (zI b)), (3, .int (zI S)), (4, .int (zI w)), (5, .int (zI (-1))), (6, .int (zI 0)), (7, .int (zI 0))]) [3, 4, 5, 6, 7, 2, 1, 0] rfl ?_
        exact L71_4 (((zV M 21 q 3 - 0 : Int)).toNat + 1) (-1) 0 0 (by omega) (by rfl) (by omega) (by omega)
      refine z_aload_n C 20 dX0_choose_20 rfl 0 rfl ?_
      refine z_iload C 21 dX0_choose_21 5 rfl ?_
      refine z_aload_n C 23 dX0_choose_23 rfl 1 rfl ?_
      refine z_iload_n C 24 dX0_choose_24 rfl 2 rfl ?_
      refine z_callVi C 25 (As := [.int (zI k), .ref (zad G 18 r), .int (zI b)]) (rest := []) (c_X0_isLookedAt l G M q hq r hr hw k b (by omega) hb) zcl0 (show q < 24 by omega) (zc19 ..) (zW_of 3 C wm_0_77 wc_X0_isLookedAt wini_0 wi_X0_isLookedAt wse_X0_isLookedAt ⟨by decide, by decide, by decide⟩ ⟨by decide, by decide⟩) rfl (Nat.le_of_ble_eq_true rfl) ⟨by decide, by decide⟩ dX0_choose_25 rfl (fun zq11 Mz12 hzq11 hPz11 => ?_)
      obtain ⟨rfl, hPz11⟩ := hPz11
      refine z_if_eq C 28 56 dX0_choose_28 (by decide) hzq11 (fun c28_122 => ?_) (fun c28_122 => ?_)
      · refine z_iinc (lv' := [(5, .int (zI (k + 1))), (0, .ref (zad G 19 q)), (1, .ref (zad G 18 r)), (2, .int (zI b)), (3, .int (zI S)), (4, .int (zI w))]) C 56 dX0_choose_56 5 rfl (by decide) rfl ?_
        refine z_goto C 59 8 dX0_choose_59 (by decide) ?_
        refine z_sub (lv' := [(0, .ref (zad G 19 q)), (1, .ref (zad G 18 r)), (2, .int (zI b)), (3, .int (zI S)), (4, .int (zI w)), (5, .int (zI (k + 1)))]) [1, 2, 3, 4, 5, 0] rfl ?_
        exact ihz2 S w (k + 1) (by omega) (by rw [zsm_s _ (by omega), ← g1, zls_f (hPz11.f (by assumption)), Int.add_zero]) (by rw [zsm_s _ (by omega), ← g2, zls_f (hPz11.f (by assumption)), Int.add_zero]) (by omega)
      refine z_iload_n C 31 dX0_choose_31 rfl 3 rfl ?_
      refine z_aload_n C 32 dX0_choose_32 rfl 0 rfl ?_
      refine z_get C 33 zcl0 (show q < 24 by omega) (zc19 ..) 2 (by decide) rfl wf_0_25 dX0_choose_33 ?_
      refine z_iload C 36 dX0_choose_36 5 rfl ?_
      refine z_iald C 38 (show q < 24 by omega) (zc25 ..) (by first | assumption | omega) (by omega) (show k < ((4 : Nat) : Int) by omega) dX0_choose_38 (fun zq13 ezq13 hzq13 => ?_)
      refine z_iadd C 39 dX0_choose_39 ?_
      refine z_istore_n (lv' := [(3, .int (zI (S + zq13))), (0, .ref (zad G 19 q)), (1, .ref (zad G 18 r)), (2, .int (zI b)), (4, .int (zI w)), (5, .int (zI k))]) C 40 dX0_choose_40 rfl (by decide) rfl ?_
      refine z_iload C 41 dX0_choose_41 4 rfl ?_
      refine z_aload_n C 43 dX0_choose_43 rfl 1 rfl ?_
      refine z_get C 44 zcl0 (show q < 24 by omega) (zc19 ..) 1 (by decide) rfl wf_0_21 dX0_choose_44 ?_
      refine z_get C 47 zcl1 (show q < 24 by omega) (zc21 ..) 2 (by decide) rfl wf_0_81 dX0_choose_47 ?_
      refine z_iload C 50 dX0_choose_50 5 rfl ?_
      refine z_iald C 52 (show q < 24 by omega) (zc24 ..) (by first | assumption | omega) (by omega) (show k < ((4 : Nat) : Int) by omega) dX0_choose_52 (fun zq14 ezq14 hzq14 => ?_)
      refine z_iadd C 53 dX0_choose_53 ?_
      refine z_istore (lv' := [(4, .int (zI (w + zq14))), (3, .int (zI (S + zq13))), (0, .ref (zad G 19 q)), (1, .ref (zad G 18 r)), (2, .int (zI b)), (5, .int (zI k))]) C 54 dX0_choose_54 (by decide) rfl ?_
      refine z_iinc (lv' := [(5, .int (zI (k + 1))), (4, .int (zI (w + zq14))), (3, .int (zI (S + zq13))), (0, .ref (zad G 19 q)), (1, .ref (zad G 18 r)), (2, .int (zI b))]) C 56 dX0_choose_56 5 rfl (by decide) rfl ?_
      refine z_goto C 59 8 dX0_choose_59 (by decide) ?_
      refine z_sub (lv' := [(0, .ref (zad G 19 q)), (1, .ref (zad G 18 r)), (2, .int (zI b)), (3, .int (zI (S + zq13))), (4, .int (zI (w + zq14))), (5, .int (zI (k + 1)))]) [3, 4, 5, 2, 1, 0] rfl ?_
      exact ihz2 (S + zq13) (w + zq14) (k + 1) (by omega) (by rw [zsm_s _ (by omega), ← g1, zls_t (hPz11.t (by assumption)), ezq13]; rfl) (by rw [zsm_s _ (by omega), ← g2, zls_t (hPz11.t (by assumption)), ezq14]; rfl) (by omega)
  refine z_sub (lv' := [(0, .ref (zad G 19 q)), (1, .ref (zad G 18 r)), (2, .int (zI b)), (3, .int (zI 0)), (4, .int (zI 0)), (5, .int (zI 0))]) [3, 4, 5, 2, 1, 0] rfl ?_
  exact L8_1 (((zV M 21 q 3 - 0 : Int)).toNat + 1) 0 0 0 (by omega) (by rfl) (by rfl) (by omega)
set_option maxHeartbeats 4000000 in
set_option maxRecDepth 100000 in
theorem c_X0_sendPacket (l : Launch) (G : zG) (M : zMem) (q : Nat) (hq : q < 24) (r : Nat) (hr : r < 3) (hw : zwe M q)  : Met l yX0_sendPacket [.code yX0_sendPacket cX0_sendPacket 3 (some .int)] (zR 2 0 0) (zPc G M [.ref (zad G 19 q), .ref (zad G 18 r)]) (zQi G (fun x M' => zsnd M M' r q x)) 0 0 (zA G) := by
  refine z_met [(0, .ref (zad G 19 q)), (1, .ref (zad G 18 r))] (by decide) (Nat.le_of_ble_eq_true rfl) rfl ?_
  intro p e s m below meth c C
  have C : zC p s m ([.ref (zad G 19 q), .ref (zad G 18 r)] : List Value).toArray meth c G RX0 cX0_sendPacket 3 (some .int) := C
  have hw9z := hw
  obtain ⟨⟨n0, n1⟩, ha⟩ := hw9z
  have hc9 := zch_rg (zun M r) (zea M q) (zep M q) (zew M q) (zek M q) (zeb M r q) (zeS M r q (zeb M r q)) (zeW M r q (zeb M r q)) (zV M 21 q 3).toNat
  refine z_aload_n C 0 dX0_sendPacket_0 rfl 0 rfl ?_
  refine z_getI C 1 zcl0 (show q < 24 by omega) (zc19 ..) 3 (by decide) rfl wf_0_29 dX0_sendPacket_1 (fun zq1 ezq1 hzq1 => ?_)
  refine z_iconst C 4 dX0_sendPacket_4 ?_
  refine z_icmp_ne C 5 10 dX0_sendPacket_5 (by decide) hzq1 (by decide) (fun c5_12 => ?_) (fun c5_12 => ?_)
  · refine z_aload_n C 10 dX0_sendPacket_10 rfl 0 rfl ?_
    refine z_aload_n C 11 dX0_sendPacket_11 rfl 1 rfl ?_
    refine z_aload_n C 12 dX0_sendPacket_12 rfl 0 rfl ?_
    refine z_aload_n C 13 dX0_sendPacket_13 rfl 1 rfl ?_
    refine z_callVi C 14 (As := [.ref (zad G 18 r)]) (rest := [.ref (zad G 18 r), .ref (zad G 19 q)]) (c_X0_bestPriority l G M q hq r hr hw) zcl0 (show q < 24 by omega) (zc19 ..) (zW_of 1 C wm_0_54 wc_X0_bestPriority wini_0 wi_X0_bestPriority wse_X0_bestPriority ⟨by decide, by decide, by decide⟩ ⟨by decide, by decide⟩) rfl (Nat.le_of_ble_eq_true rfl) ⟨by decide, by decide⟩ dX0_sendPacket_14 rfl (fun zq2 Mz3 hzq2 hPz2 => ?_)
    obtain ⟨rfl, hPz2⟩ := hPz2
    refine z_callVi C 17 (As := [.ref (zad G 18 r), .int (zI zq2)]) (rest := []) (c_X0_choose l G M q hq r hr hw zq2 hzq2) zcl0 (show q < 24 by omega) (zc19 ..) (zW_of 2 C wm_0_58 wc_X0_choose wini_0 wi_X0_choose wse_X0_choose ⟨by decide, by decide, by decide⟩ ⟨by decide, by decide⟩) rfl (Nat.le_of_ble_eq_true rfl) ⟨by decide, by decide⟩ dX0_sendPacket_17 rfl (fun zq4 Mz5 hzq4 hPz4 => ?_)
    obtain ⟨rfl, hPz4⟩ := hPz4
    rw [hPz2] at hPz4
    have hc8 : -1 ≤ zq4 ∧ zq4 < zV M 21 q 3 := by rw [hPz4]; exact ⟨hc9.1, by have := hc9.2.1; unfold zech zechk; omega⟩
    have ha9 := ha (zq4).toNat
    refine z_istore_n (lv' := [(2, .int (zI zq4)), (0, .ref (zad G 19 q)), (1, .ref (zad G 18 r))]) C 20 dX0_sendPacket_20 rfl (by decide) rfl ?_
    refine z_iload_n C 21 dX0_sendPacket_21 rfl 0 rfl ?_
    refine z_iconst C 22 dX0_sendPacket_22 ?_
    refine z_icmp_ne C 23 29 dX0_sendPacket_23 (by decide) hzq4 (by decide) (fun c23_28 => ?_) (fun c23_28 => ?_)
    · refine z_aload_n C 29 dX0_sendPacket_29 rfl 1 rfl ?_
      refine z_get C 30 zcl0 (show q < 24 by omega) (zc19 ..) 2 (by decide) rfl wf_0_25 dX0_sendPacket_30 ?_
      refine z_iload_n C 33 dX0_sendPacket_33 rfl 0 rfl ?_
      refine z_dup2 C 34 dX0_sendPacket_34 rfl rfl ?_
      refine z_iald C 35 (show q < 24 by omega) (zc25 ..) hzq4 (by omega) (show zq4 < ((4 : Nat) : Int) by omega) dX0_sendPacket_35 (fun zq6 ezq6 hzq6 => ?_)
      refine z_iconst C 36 dX0_sendPacket_36 ?_
      refine z_iadd C 37 dX0_sendPacket_37 ?_
      refine z_iast C 38 (show q < 24 by omega) (zc25 ..) hzq4 (by omega) (show zq4 < ((4 : Nat) : Int) by omega) (zc25 ..) dX0_sendPacket_38 ?_
      refine z_aload_n C 39 dX0_sendPacket_39 rfl 1 rfl ?_
      refine z_get C 40 zcl0 (show q < 24 by omega) (zc19 ..) 1 (by decide) rfl wf_0_21 dX0_sendPacket_40 ?_
      refine z_get C 43 zcl1 (show q < 24 by omega) (zc21 ..) 0 (by decide) rfl wf_0_62 dX0_sendPacket_43 ?_
      refine z_iload_n C 46 dX0_sendPacket_46 rfl 0 rfl ?_
      refine z_iald C 47 (show q < 24 by omega) (zc22 ..) hzq4 (by omega) (show zq4 < ((4 : Nat) : Int) by omega) dX0_sendPacket_47 (fun zq7 ezq7 hzq7 => ?_)
      rw [zV_ne (by decide)] at ezq7
      refine z_iret C 48 dX0_sendPacket_48 (by decide) (by decide) hzq7 ?_
      refine Or.inr (Or.inr ⟨by omega, by omega, by omega, ?_, ?_⟩)
      rw [← hPz4, ezq7]; rfl
      rw [← hPz4, ezq6]; rfl
    refine z_bipush C 26 dX0_sendPacket_26 (by decide +kernel) ?_
    refine z_iret C 28 dX0_sendPacket_28 (by decide) (by decide) (by decide) ?_
    exact Or.inr (Or.inl ⟨by omega, by omega, rfl, rfl⟩)
  refine z_iconst C 8 dX0_sendPacket_8 ?_
  refine z_iret C 9 dX0_sendPacket_9 (by decide) (by decide) (by decide) ?_
  exact Or.inl ⟨by omega, rfl, rfl⟩
