set_option maxHeartbeats 4000000 in
set_option maxRecDepth 100000 in
theorem c_L_packet (l : Launch) (G : zG) (M : zMem) {n : Nat} (h : iN n M M) (hn : n ≤ 120) (idn a : Int) (hid : 0 ≤ idn ∧ idn < 65536) (ha : 0 ≤ a ∧ a < 2) : Met l yL_packet [.code yL_packet cL_packet 21 (some .int)] (zR 6 0 0) (zPc G M [.int (zI idn), .int (zI a), .ref (zad G 26 0), .ref (zad G 27 0), .ref (zad G 28 0), .ref (zad G 29 0), .ref (zad G 30 0), .ref (zad G 31 0), .ref (zad G 32 0), .ref (zad G 33 0), .ref (zad G 34 0), .ref (zad G 35 0), .ref (zad G 36 0)]) (zQi G (fun y M' => jsnt M M' a idn y)) 0 0 (zA G) := by
  refine z_met [(0, .int (zI idn)), (1, .int (zI a)), (2, .ref (zad G 26 0)), (3, .ref (zad G 27 0)), (4, .ref (zad G 28 0)), (5, .ref (zad G 29 0)), (6, .ref (zad G 30 0)), (7, .ref (zad G 31 0)), (8, .ref (zad G 32 0)), (9, .ref (zad G 33 0)), (10, .ref (zad G 34 0)), (11, .ref (zad G 35 0)), (12, .ref (zad G 36 0))] (by decide) (Nat.le_of_ble_eq_true rfl) rfl ?_
  intro p e s m below meth c C
  have C : zC p s m ([.int (zI idn), .int (zI a), .ref (zad G 26 0), .ref (zad G 27 0), .ref (zad G 28 0), .ref (zad G 29 0), .ref (zad G 30 0), .ref (zad G 31 0), .ref (zad G 32 0), .ref (zad G 33 0), .ref (zad G 34 0), .ref (zad G 35 0), .ref (zad G 36 0)] : List Value).toArray meth c G RL cL_packet 21 (some .int) := C
  obtain ⟨hA, hB, hS, hC, hD, hE⟩ := id h
  have hgu := hE.1
  have hW := hE.2.2.2.1
  have ha2 := (hD.2 a.toNat (by omega)).1
  have hg5 := hS.1
  have hC9 := hC.2.2.1
  have hC8 := hC.1
  have hC7 := hC.2.2.2.1
  refine z_iconst C 0 dL_packet_0 ?_
  refine z_istore (lv' := [(13, .int (zI (-1))), (0, .int (zI idn)), (1, .int (zI a)), (2, .ref (zad G 26 0)), (3, .ref (zad G 27 0)), (4, .ref (zad G 28 0)), (5, .ref (zad G 29 0)), (6, .ref (zad G 30 0)), (7, .ref (zad G 31 0)), (8, .ref (zad G 32 0)), (9, .ref (zad G 33 0)), (10, .ref (zad G 34 0)), (11, .ref (zad G 35 0)), (12, .ref (zad G 36 0))]) C 1 dL_packet_1 (by decide) rfl ?_
  refine z_bipush C 3 dL_packet_3 (by decide +kernel) ?_
  refine z_iload_n C 5 dL_packet_5 rfl 2 rfl ?_
  refine z_imul C 6 dL_packet_6 ?_
  refine z_istore (lv' := [(14, .int (zI (8 * a))), (13, .int (zI (-1))), (0, .int (zI idn)), (1, .int (zI a)), (2, .ref (zad G 26 0)), (3, .ref (zad G 27 0)), (4, .ref (zad G 28 0)), (5, .ref (zad G 29 0)), (6, .ref (zad G 30 0)), (7, .ref (zad G 31 0)), (8, .ref (zad G 32 0)), (9, .ref (zad G 33 0)), (10, .ref (zad G 34 0)), (11, .ref (zad G 35 0)), (12, .ref (zad G 36 0))]) C 7 dL_packet_7 (by decide) rfl ?_
  have L9_1 : ∀ (kz1 : Nat) (f : Int) (k : Int), (8 * a ≤ k ∧ k ≤ 8 * a + 8) → (f = -1 ∨ (8 * a ≤ f ∧ f < 8 * a + 8)) → (jfk M a idn f k) → (8 * a + 8 - k) < (kz1 : Int) → zZ p l e (zR 6 0 0) s m ([.int (zI idn), .int (zI a), .ref (zad G 26 0), .ref (zad G 27 0), .ref (zad G 28 0), .ref (zad G 29 0), .ref (zad G 30 0), .ref (zad G 31 0), .ref (zad G 32 0), .ref (zad G 33 0), .ref (zad G 34 0), .ref (zad G 35 0), .ref (zad G 36 0)] : List Value).toArray below meth c G 21 (MQ below (zQi G (fun y M' => jsnt M M' a idn y)) ([.int (zI idn), .int (zI a), .ref (zad G 26 0), .ref (zad G 27 0), .ref (zad G 28 0), .ref (zad G 29 0), .ref (zad G 30 0), .ref (zad G 31 0), .ref (zad G 32 0), .ref (zad G 33 0), .ref (zad G 34 0), .ref (zad G 35 0), .ref (zad G 36 0)] : List Value).toArray s 0 0 (zA G)) M 0 0 9 [(0, .int (zI idn)), (1, .int (zI a)), (2, .ref (zad G 26 0)), (3, .ref (zad G 27 0)), (4, .ref (zad G 28 0)), (5, .ref (zad G 29 0)), (6, .ref (zad G 30 0)), (7, .ref (zad G 31 0)), (8, .ref (zad G 32 0)), (9, .ref (zad G 33 0)), (10, .ref (zad G 34 0)), (11, .ref (zad G 35 0)), (12, .ref (zad G 36 0)), (13, .int (zI f)), (14, .int (zI k))] [] := by
    intro kz1
    induction kz1 with
    | zero =>
      intro f k g0 g2 g1 hk
      exact absurd hk (by omega)
    | succ kz1 ihz2 =>
      intro f k g0 g2 g1 hk
      refine z_iload C 9 dL_packet_9 14 rfl ?_
      refine z_bipush C 11 dL_packet_11 (by decide +kernel) ?_
      refine z_iload_n C 13 dL_packet_13 rfl 1 rfl ?_
      refine z_imul C 14 dL_packet_14 ?_
      refine z_bipush C 15 dL_packet_15 (by decide +kernel) ?_
      refine z_iadd C 17 dL_packet_17 ?_
      refine z_icmp_ge C 18 63 dL_packet_18 (by decide) (by first | assumption | omega) (by first | assumption | omega) (fun c18_34 => ?_) (fun c18_34 => ?_)
      · have J360_3 : ∀ (M3 : zMem) (f : Int), (8 * a ≤ f ∧ f < 8 * a + 8) → (∀ s : Nat, s < 64 → 0 ≤ zV M3 34 0 s ∧ zV M3 34 0 s ≤ 247807) → (zV M3 36 0 7 = zV M 36 0 7) → (zV M3 35 0 a.toNat = zV M 35 0 a.toNat) → (∀ (y : Int) (M9 : zMem), jfin M3 M9 a f y → jsnt M M9 a idn y) → zZ p l e (zR 6 0 0) s m ([.int (zI idn), .int (zI a), .ref (zad G 26 0), .ref (zad G 27 0), .ref (zad G 28 0), .ref (zad G 29 0), .ref (zad G 30 0), .ref (zad G 31 0), .ref (zad G 32 0), .ref (zad G 33 0), .ref (zad G 34 0), .ref (zad G 35 0), .ref (zad G 36 0)] : List Value).toArray below meth c G 21 (MQ below (zQi G (fun y M' => jsnt M M' a idn y)) ([.int (zI idn), .int (zI a), .ref (zad G 26 0), .ref (zad G 27 0), .ref (zad G 28 0), .ref (zad G 29 0), .ref (zad G 30 0), .ref (zad G 31 0), .ref (zad G 32 0), .ref (zad G 33 0), .ref (zad G 34 0), .ref (zad G 35 0), .ref (zad G 36 0)] : List Value).toArray s 0 0 (zA G)) M3 0 0 360 [(0, .int (zI idn)), (1, .int (zI a)), (2, .ref (zad G 26 0)), (3, .ref (zad G 27 0)), (4, .ref (zad G 28 0)), (5, .ref (zad G 29 0)), (6, .ref (zad G 30 0)), (7, .ref (zad G 31 0)), (8, .ref (zad G 32 0)), (9, .ref (zad G 33 0)), (10, .ref (zad G 34 0)), (11, .ref (zad G 35 0)), (12, .ref (zad G 36 0)), (13, .int (zI f))] [] := by
          intro M3 f hf hb hg7 har hK
          refine z_aload C 360 dL_packet_360 12 rfl ?_
          refine z_bipush C 362 dL_packet_362 (by decide +kernel) ?_
          refine z_dup2 C 364 dL_packet_364 rfl rfl ?_
          refine z_ialdj C 365 (show 0 < 1 by omega) (zc36 ..) 7 rfl (by decide) (by omega) (show 7 < ((12 : Nat) : Int) by omega) dL_packet_365 (fun zq4 ezq4 hzq4 => ?_)
          refine z_iconst C 366 dL_packet_366 ?_
          refine z_iadd C 367 dL_packet_367 ?_
          refine z_iastj C 368 (show 0 < 1 by omega) (zc36 ..) 7 rfl (by decide) (by omega) (show 7 < ((12 : Nat) : Int) by omega) (zc36 ..) dL_packet_368 ?_
          refine z_aload C 369 dL_packet_369 9 rfl ?_
          refine z_iload C 371 dL_packet_371 13 rfl ?_
          refine z_aload C 373 dL_packet_373 12 rfl ?_
          refine z_bipush C 375 dL_packet_375 (by decide +kernel) ?_
          refine z_ialdj C 377 (show 0 < 1 by omega) (zc36 ..) 7 rfl (by decide) (by omega) (show 7 < ((12 : Nat) : Int) by omega) dL_packet_377 (fun zq5 ezq5 hzq5 => ?_)
          rw [zV_eq (by first | assumption | decide | omega)] at ezq5
          refine z_iastj C 378 (show 0 < 1 by omega) (zc33 ..) f.toNat rfl (by first | assumption | omega) (by omega) (show f < ((16 : Nat) : Int) by omega) (zc33 ..) dL_packet_378 ?_
          generalize hM2 : zup (zup M3 36 0 7 (zI (zq4 + 1))) 33 0 f.toNat (zI zq5) = M2
          have gM2 : ∀ κ j : Nat, ¬ (κ = 36 ∧ j = 7) → κ ≠ 33 → zV M2 κ 0 j = zV M3 κ 0 j := fun κ j h1 h2 => by rw [← hM2, zV_ne h2, zV_upg, if_neg (fun z => h1 ⟨z.1, z.2.2⟩)]
          have hM2e : M2 = zup (zup M3 36 0 7 (zI (zV M3 36 0 7 + 1))) 33 0 f.toNat (zI (zV M3 36 0 7 + 1)) := by rw [← hM2, show zq5 = zV M3 36 0 7 + 1 by omega, show zq4 = zV M3 36 0 7 by omega]
          have hq31 := gM2 31 f.toNat (by omega) (by decide)
          have hq35 := gM2 35 a.toNat (by omega) (by decide)
          refine z_aload C 379 dL_packet_379 7 rfl ?_
          refine z_iload C 381 dL_packet_381 13 rfl ?_
          refine z_ialdj C 383 (show 0 < 1 by omega) (zc31 ..) f.toNat rfl (by first | assumption | omega) (by omega) (show f < ((16 : Nat) : Int) by omega) dL_packet_383 (fun zq6 ezq6 hzq6 => ?_)
          refine z_if_ne C 384 389 dL_packet_384 (by decide) hzq6 (fun c384_60 => ?_) (fun c384_60 => ?_)
          · refine z_iconst C 389 dL_packet_389 ?_
            refine z_istore (lv' := [(14, .int (zI 4)), (0, .int (zI idn)), (1, .int (zI a)), (2, .ref (zad G 26 0)), (3, .ref (zad G 27 0)), (4, .ref (zad G 28 0)), (5, .ref (zad G 29 0)), (6, .ref (zad G 30 0)), (7, .ref (zad G 31 0)), (8, .ref (zad G 32 0)), (9, .ref (zad G 33 0)), (10, .ref (zad G 34 0)), (11, .ref (zad G 35 0)), (12, .ref (zad G 36 0)), (13, .int (zI f))]) C 390 dL_packet_390 (by decide) rfl ?_
            refine z_iconst C 392 dL_packet_392 ?_
            refine z_istore (lv' := [(15, .int (zI 0)), (14, .int (zI 4)), (0, .int (zI idn)), (1, .int (zI a)), (2, .ref (zad G 26 0)), (3, .ref (zad G 27 0)), (4, .ref (zad G 28 0)), (5, .ref (zad G 29 0)), (6, .ref (zad G 30 0)), (7, .ref (zad G 31 0)), (8, .ref (zad G 32 0)), (9, .ref (zad G 33 0)), (10, .ref (zad G 34 0)), (11, .ref (zad G 35 0)), (12, .ref (zad G 36 0)), (13, .int (zI f))]) C 393 dL_packet_393 (by decide) rfl ?_
            refine z_iconst C 395 dL_packet_395 ?_
            refine z_istore (lv' := [(16, .int (zI 0)), (15, .int (zI 0)), (14, .int (zI 4)), (0, .int (zI idn)), (1, .int (zI a)), (2, .ref (zad G 26 0)), (3, .ref (zad G 27 0)), (4, .ref (zad G 28 0)), (5, .ref (zad G 29 0)), (6, .ref (zad G 30 0)), (7, .ref (zad G 31 0)), (8, .ref (zad G 32 0)), (9, .ref (zad G 33 0)), (10, .ref (zad G 34 0)), (11, .ref (zad G 35 0)), (12, .ref (zad G 36 0)), (13, .int (zI f))]) C 396 dL_packet_396 (by decide) rfl ?_
            refine z_iconst C 398 dL_packet_398 ?_
            refine z_iload C 399 dL_packet_399 16 rfl ?_
            refine z_imul C 401 dL_packet_401 ?_
            refine z_istore (lv' := [(17, .int (zI (4 * f))), (16, .int (zI 0)), (15, .int (zI 0)), (14, .int (zI 4)), (0, .int (zI idn)), (1, .int (zI a)), (2, .ref (zad G 26 0)), (3, .ref (zad G 27 0)), (4, .ref (zad G 28 0)), (5, .ref (zad G 29 0)), (6, .ref (zad G 30 0)), (7, .ref (zad G 31 0)), (8, .ref (zad G 32 0)), (9, .ref (zad G 33 0)), (10, .ref (zad G 34 0)), (11, .ref (zad G 35 0)), (12, .ref (zad G 36 0)), (13, .int (zI f))]) C 402 dL_packet_402 (by decide) rfl ?_
            have L404_7 : ∀ (kz7 : Nat) (b : Int) (A : Int) (w : Int) (k : Int), (4 * f ≤ k ∧ k ≤ 4 * f + 4) → (jbk3 M3 a f (k - 4 * f) b A w) → ((0 ≤ b ∧ b ≤ 4) ∧ (0 ≤ A ∧ A ≤ 130 * (k - 4 * f)) ∧ 0 ≤ w ∧ w ≤ 15 * (k - 4 * f)) → (4 * f + 4 - k) < (kz7 : Int) → zZ p l e (zR 6 0 0) s m ([.int (zI idn), .int (zI a), .ref (zad G 26 0), .ref (zad G 27 0), .ref (zad G 28 0), .ref (zad G 29 0), .ref (zad G 30 0), .ref (zad G 31 0), .ref (zad G 32 0), .ref (zad G 33 0), .ref (zad G 34 0), .ref (zad G 35 0), .ref (zad G 36 0)] : List Value).toArray below meth c G 21 (MQ below (zQi G (fun y M' => jsnt M M' a idn y)) ([.int (zI idn), .int (zI a), .ref (zad G 26 0), .ref (zad G 27 0), .ref (zad G 28 0), .ref (zad G 29 0), .ref (zad G 30 0), .ref (zad G 31 0), .ref (zad G 32 0), .ref (zad G 33 0), .ref (zad G 34 0), .ref (zad G 35 0), .ref (zad G 36 0)] : List Value).toArray s 0 0 (zA G)) M2 0 0 404 [(0, .int (zI idn)), (1, .int (zI a)), (2, .ref (zad G 26 0)), (3, .ref (zad G 27 0)), (4, .ref (zad G 28 0)), (5, .ref (zad G 29 0)), (6, .ref (zad G 30 0)), (7, .ref (zad G 31 0)), (8, .ref (zad G 32 0)), (9, .ref (zad G 33 0)), (10, .ref (zad G 34 0)), (11, .ref (zad G 35 0)), (12, .ref (zad G 36 0)), (13, .int (zI f)), (14, .int (zI b)), (15, .int (zI A)), (16, .int (zI w)), (17, .int (zI k))] [] := by
              intro kz7
              induction kz7 with
              | zero =>
                intro b A w k q0 q1 q2 hk
                exact absurd hk (by omega)
              | succ kz7 ihz8 =>
                intro b A w k q0 q1 q2 hk
                refine z_iload C 404 dL_packet_404 17 rfl ?_
                refine z_iconst C 406 dL_packet_406 ?_
                refine z_iload C 407 dL_packet_407 13 rfl ?_
                refine z_imul C 409 dL_packet_409 ?_
                refine z_iconst C 410 dL_packet_410 ?_
                refine z_iadd C 411 dL_packet_411 ?_
                refine z_icmp_ge C 412 534 dL_packet_412 (by decide) (by first | assumption | omega) (by first | assumption | omega) (fun c412_86 => ?_) (fun c412_86 => ?_)
                · have q3 := q1
                  rw [show k - 4 * f = 4 by omega] at q3
                  have hb4 : b = jbp M3 a f 4 := q3.1
                  have hA4 : A = jS M3 a f b 4 := q3.2.1
                  have hw4 : w = jW M3 a f b 4 := q3.2.2
                  have hq0 : ¬ zV M3 31 0 f.toNat = 0 := by omega
                  refine z_iload C 534 dL_packet_534 14 rfl ?_
                  refine z_iconst C 536 dL_packet_536 ?_
                  refine z_icmp_ne C 537 543 dL_packet_537 (by decide) (by first | assumption | omega) (by decide) (fun c537_96 => ?_) (fun c537_96 => ?_)
                  · refine z_iconst C 543 dL_packet_543 ?_
                    refine z_istore (lv' := [(17, .int (zI (-1))), (0, .int (zI idn)), (1, .int (zI a)), (2, .ref (zad G 26 0)), (3, .ref (zad G 27 0)), (4, .ref (zad G 28 0)), (5, .ref (zad G 29 0)), (6, .ref (zad G 30 0)), (7, .ref (zad G 31 0)), (8, .ref (zad G 32 0)), (9, .ref (zad G 33 0)), (10, .ref (zad G 34 0)), (11, .ref (zad G 35 0)), (12, .ref (zad G 36 0)), (13, .int (zI f)), (14, .int (zI b)), (15, .int (zI A)), (16, .int (zI w))]) C 544 dL_packet_544 (by decide) rfl ?_
                    refine z_iconst C 546 dL_packet_546 ?_
                    refine z_istore (lv' := [(18, .int (zI 0)), (17, .int (zI (-1))), (0, .int (zI idn)), (1, .int (zI a)), (2, .ref (zad G 26 0)), (3, .ref (zad G 27 0)), (4, .ref (zad G 28 0)), (5, .ref (zad G 29 0)), (6, .ref (zad G 30 0)), (7, .ref (zad G 31 0)), (8, .ref (zad G 32 0)), (9, .ref (zad G 33 0)), (10, .ref (zad G 34 0)), (11, .ref (zad G 35 0)), (12, .ref (zad G 36 0)), (13, .int (zI f)), (14, .int (zI b)), (15, .int (zI A)), (16, .int (zI w))]) C 547 dL_packet_547 (by decide) rfl ?_
                    refine z_iconst C 549 dL_packet_549 ?_
                    refine z_iload C 550 dL_packet_550 15 rfl ?_
                    refine z_imul C 552 dL_packet_552 ?_
                    refine z_iconst C 553 dL_packet_553 ?_
                    refine z_iadd C 554 dL_packet_554 ?_
                    refine z_istore (lv' := [(19, .int (zI ((4 * f) + 3))), (18, .int (zI 0)), (17, .int (zI (-1))), (0, .int (zI idn)), (1, .int (zI a)), (2, .ref (zad G 26 0)), (3, .ref (zad G 27 0)), (4, .ref (zad G 28 0)), (5, .ref (zad G 29 0)), (6, .ref (zad G 30 0)), (7, .ref (zad G 31 0)), (8, .ref (zad G 32 0)), (9, .ref (zad G 33 0)), (10, .ref (zad G 34 0)), (11, .ref (zad G 35 0)), (12, .ref (zad G 36 0)), (13, .int (zI f)), (14, .int (zI b)), (15, .int (zI A)), (16, .int (zI w))]) C 555 dL_packet_555 (by decide) rfl ?_
                    have L557_9 : ∀ (kz9 : Nat) (f2 : Int) (y : Int) (k : Int), (4 * f - 1 ≤ k ∧ k ≤ 4 * f + 3) → ((f2 = -1 ∨ (4 * f ≤ f2 ∧ f2 < 4 * f + 4)) ∧ zrg y) → (jdk M3 a f b (k - 4 * f) f2 y) → (k - 4 * f + 1) < (kz9 : Int) → zZ p l e (zR 6 0 0) s m ([.int (zI idn), .int (zI a), .ref (zad G 26 0), .ref (zad G 27 0), .ref (zad G 28 0), .ref (zad G 29 0), .ref (zad G 30 0), .ref (zad G 31 0), .ref (zad G 32 0), .ref (zad G 33 0), .ref (zad G 34 0), .ref (zad G 35 0), .ref (zad G 36 0)] : List Value).toArray below meth c G 21 (MQ below (zQi G (fun y M' => jsnt M M' a idn y)) ([.int (zI idn), .int (zI a), .ref (zad G 26 0), .ref (zad G 27 0), .ref (zad G 28 0), .ref (zad G 29 0), .ref (zad G 30 0), .ref (zad G 31 0), .ref (zad G 32 0), .ref (zad G 33 0), .ref (zad G 34 0), .ref (zad G 35 0), .ref (zad G 36 0)] : List Value).toArray s 0 0 (zA G)) M2 0 0 557 [(0, .int (zI idn)), (1, .int (zI a)), (2, .ref (zad G 26 0)), (3, .ref (zad G 27 0)), (4, .ref (zad G 28 0)), (5, .ref (zad G 29 0)), (6, .ref (zad G 30 0)), (7, .ref (zad G 31 0)), (8, .ref (zad G 32 0)), (9, .ref (zad G 33 0)), (10, .ref (zad G 34 0)), (11, .ref (zad G 35 0)), (12, .ref (zad G 36 0)), (13, .int (zI f)), (14, .int (zI b)), (15, .int (zI A)), (16, .int (zI w)), (17, .int (zI f2)), (18, .int (zI y)), (19, .int (zI k))] [] := by
                      intro kz9
                      induction kz9 with
                      | zero =>
                        intro f2 y k r0 r2 r1 hk
                        exact absurd hk (by omega)
                      | succ kz9 ihz10 =>
                        intro f2 y k r0 r2 r1 hk
                        refine z_iload C 557 dL_packet_557 19 rfl ?_
                        refine z_iconst C 559 dL_packet_559 ?_
                        refine z_iload C 560 dL_packet_560 13 rfl ?_
                        refine z_imul C 562 dL_packet_562 ?_
                        refine z_icmp_lt C 563 671 dL_packet_563 (by decide) (by first | assumption | omega) (by first | assumption | omega) (fun c563_120 => ?_) (fun c563_120 => ?_)
                        · rw [hb4] at r1
                          obtain ⟨t9, ht1, ht2⟩ := jdk_end (by omega) r1 (by rw [← hb4]; omega)
                          have ht3 := ht2.1
                          have hbk := hb f2.toNat (by omega)
                          have hcf := gM2 34 f2.toNat (by omega) (by decide)
                          have hix : (4 * f + ((t9 : Nat) : Int)).toNat = f2.toNat := by omega
                          refine z_aload C 671 dL_packet_671 10 rfl ?_
                          refine z_iload C 673 dL_packet_673 17 rfl ?_
                          refine z_dup2 C 675 dL_packet_675 rfl rfl ?_
                          refine z_ialdj C 676 (show 0 < 1 by omega) (zc34 ..) f2.toNat rfl (by first | assumption | omega) (by omega) (show f2 < ((64 : Nat) : Int) by omega) dL_packet_676 (fun zq11 ezq11 hzq11 => ?_)
                          refine z_sipush C 677 dL_packet_677 (by decide +kernel) ?_
                          refine z_iadd C 680 dL_packet_680 ?_
                          refine z_iastj C 681 (show 0 < 1 by omega) (zc34 ..) f2.toNat rfl (by first | assumption | omega) (by omega) (show f2 < ((64 : Nat) : Int) by omega) (zc34 ..) dL_packet_681 ?_
                          refine z_aload C 682 dL_packet_682 10 rfl ?_
                          refine z_iload C 684 dL_packet_684 17 rfl ?_
                          refine z_ialdj C 686 (show 0 < 1 by omega) (zc34 ..) f2.toNat rfl (by first | assumption | omega) (by omega) (show f2 < ((64 : Nat) : Int) by omega) dL_packet_686 (fun zq12 ezq12 hzq12 => ?_)
                          rw [zV_eq (by first | assumption | decide | omega)] at ezq12
                          refine z_bipush C 687 dL_packet_687 (by decide +kernel) ?_
                          refine z_irem C 689 dL_packet_689 hzq12 (by omega) (by decide) (by decide) ?_
                          have hcx : zq11 = zV M3 34 0 f2.toNat := by omega
                          refine z_iret C 690 dL_packet_690 (by decide) (by decide) (by first | assumption | omega) ?_
                          exact hK _ _ ⟨M2, hM2e, Or.inr (Or.inr ⟨hq0, by rw [← hb4]; omega, t9, ht2, by unfold jad; rw [hix, ← hcx]; omega, by rw [hix, ← hcx]⟩)⟩
                        have hbk := hb k.toNat (by omega)
                        have hck := gM2 34 k.toNat (by omega) (by decide)
                        refine z_aload C 566 dL_packet_566 10 rfl ?_
                        refine z_iload C 568 dL_packet_568 19 rfl ?_
                        refine z_ialdj C 570 (show 0 < 1 by omega) (zc34 ..) k.toNat rfl (by first | assumption | omega) (by omega) (show k < ((64 : Nat) : Int) by omega) dL_packet_570 (fun zq13 ezq13 hzq13 => ?_)
                        refine z_if_eq C 571 665 dL_packet_571 (by decide) hzq13 (fun c571_148 => ?_) (fun c571_148 => ?_)
                        · have hL : ¬ (jlk M3 a f b (k - 4 * f).toNat ∧ (f2 = -1 ∨ y ≤ jla M3 a f b (k - 4 * f).toNat)) := fun z => by have z0 := (jlk_of.mp z.1).2; have z1 := jun_k0 (M := M3) (a := a) (f := f) (k := k) (by omega) (by omega) (show zq13 = zV M3 34 0 k.toNat by omega) c571_148; omega
                          refine z_iinc (lv' := [(19, .int (zI (k + (-1)))), (0, .int (zI idn)), (1, .int (zI a)), (2, .ref (zad G 26 0)), (3, .ref (zad G 27 0)), (4, .ref (zad G 28 0)), (5, .ref (zad G 29 0)), (6, .ref (zad G 30 0)), (7, .ref (zad G 31 0)), (8, .ref (zad G 32 0)), (9, .ref (zad G 33 0)), (10, .ref (zad G 34 0)), (11, .ref (zad G 35 0)), (12, .ref (zad G 36 0)), (13, .int (zI f)), (14, .int (zI b)), (15, .int (zI A)), (16, .int (zI w)), (17, .int (zI f2)), (18, .int (zI y))]) C 665 dL_packet_665 19 rfl (by decide) rfl ?_
                          refine z_goto C 668 557 dL_packet_668 (by decide) ?_
                          refine z_sub (lv' := [(0, .int (zI idn)), (1, .int (zI a)), (2, .ref (zad G 26 0)), (3, .ref (zad G 27 0)), (4, .ref (zad G 28 0)), (5, .ref (zad G 29 0)), (6, .ref (zad G 30 0)), (7, .ref (zad G 31 0)), (8, .ref (zad G 32 0)), (9, .ref (zad G 33 0)), (10, .ref (zad G 34 0)), (11, .ref (zad G 35 0)), (12, .ref (zad G 36 0)), (13, .int (zI f)), (14, .int (zI b)), (15, .int (zI A)), (16, .int (zI w)), (17, .int (zI f2)), (18, .int (zI y)), (19, .int (zI (k + (-1))))]) [1, 2, 3, 4, 5, 6, 7, 8, 9, 10, 11, 12, 13, 14, 15, 16, 17, 18, 19, 0] rfl ?_
                          exact ihz10 f2 y (k + (-1)) (by omega) (by omega) (by rw [show k + (-1) - 4 * f = (k - 4 * f) + (-1) by omega]; exact jdk_f (by omega) (by omega) r1 hL (by omega)) (by omega)
                        refine z_aload C 574 dL_packet_574 11 rfl ?_
                        refine z_iload_n C 576 dL_packet_576 rfl 1 rfl ?_
                        refine z_ialdj C 577 (show 0 < 1 by omega) (zc35 ..) a.toNat rfl (by first | assumption | omega) (by omega) (show a < ((2 : Nat) : Int) by omega) dL_packet_577 (fun zq14 ezq14 hzq14 => ?_)
                        refine z_aload C 578 dL_packet_578 10 rfl ?_
                        refine z_iload C 580 dL_packet_580 19 rfl ?_
                        refine z_ialdj C 582 (show 0 < 1 by omega) (zc34 ..) k.toNat rfl (by first | assumption | omega) (by omega) (show k < ((64 : Nat) : Int) by omega) dL_packet_582 (fun zq15 ezq15 hzq15 => ?_)
                        refine z_bipush C 583 dL_packet_583 (by decide +kernel) ?_
                        have hrm := Int.emod_nonneg zq15 (show (32 : Int) ≠ 0 by decide)
                        refine z_irem C 585 dL_packet_585 hzq15 (by omega) (by decide) (by decide) ?_
                        obtain ⟨dv, hdv⟩ : ∃ t : Int, t = zq14 / 2 ^ (zq15 % 32).toNat := ⟨_, rfl⟩
                        have hdv9 := j_div2 (x := zq14) (j := (zq15 % 32).toNat) (by omega)
                        rw [← hdv] at hdv9
                        refine z_ishr C 586 (v := dv) dL_packet_586 (by rw [hdv]; exact j_sar (by omega) (by omega) (by omega) (by omega) rfl) ?_
                        refine z_iconst C 587 dL_packet_587 ?_
                        refine z_iand C 588 (v := dv % 2) dL_packet_588 (j_mask (k := 1) (by omega) (by decide) rfl) ?_
                        refine z_iconst C 589 dL_packet_589 ?_
                        refine z_icmp_eq C 590 665 dL_packet_590 (by decide) (by first | assumption | omega) (by decide) (fun c590_170 => ?_) (fun c590_170 => ?_)
                        · have hL : ¬ (jlk M3 a f b (k - 4 * f).toNat ∧ (f2 = -1 ∨ y ≤ jla M3 a f b (k - 4 * f).toNat)) := fun z => by have z0 := (jlk_of.mp z.1).2; have z1 := jun_k1 (M := M3) (a := a) (f := f) (k := k) (by omega) (by omega) (show zq15 = zV M3 34 0 k.toNat by omega) (by omega); rw [har, show zV M 35 0 a.toNat = zq14 by omega, ← hdv] at z1; omega
                          refine z_iinc (lv' := [(19, .int (zI (k + (-1)))), (0, .int (zI idn)), (1, .int (zI a)), (2, .ref (zad G 26 0)), (3, .ref (zad G 27 0)), (4, .ref (zad G 28 0)), (5, .ref (zad G 29 0)), (6, .ref (zad G 30 0)), (7, .ref (zad G 31 0)), (8, .ref (zad G 32 0)), (9, .ref (zad G 33 0)), (10, .ref (zad G 34 0)), (11, .ref (zad G 35 0)), (12, .ref (zad G 36 0)), (13, .int (zI f)), (14, .int (zI b)), (15, .int (zI A)), (16, .int (zI w)), (17, .int (zI f2)), (18, .int (zI y))]) C 665 dL_packet_665 19 rfl (by decide) rfl ?_
                          refine z_goto C 668 557 dL_packet_668 (by decide) ?_
                          refine z_sub (lv' := [(0, .int (zI idn)), (1, .int (zI a)), (2, .ref (zad G 26 0)), (3, .ref (zad G 27 0)), (4, .ref (zad G 28 0)), (5, .ref (zad G 29 0)), (6, .ref (zad G 30 0)), (7, .ref (zad G 31 0)), (8, .ref (zad G 32 0)), (9, .ref (zad G 33 0)), (10, .ref (zad G 34 0)), (11, .ref (zad G 35 0)), (12, .ref (zad G 36 0)), (13, .int (zI f)), (14, .int (zI b)), (15, .int (zI A)), (16, .int (zI w)), (17, .int (zI f2)), (18, .int (zI y)), (19, .int (zI (k + (-1))))]) [1, 2, 3, 4, 5, 6, 7, 8, 9, 10, 11, 12, 13, 14, 15, 16, 17, 18, 19, 0] rfl ?_
                          exact ihz10 f2 y (k + (-1)) (by omega) (by omega) (by rw [show k + (-1) - 4 * f = (k - 4 * f) + (-1) by omega]; exact jdk_f (by omega) (by omega) r1 hL (by omega)) (by omega)
                        refine z_aload C 593 dL_packet_593 10 rfl ?_
                        refine z_iload C 595 dL_packet_595 19 rfl ?_
                        refine z_ialdj C 597 (show 0 < 1 by omega) (zc34 ..) k.toNat rfl (by first | assumption | omega) (by omega) (show k < ((64 : Nat) : Int) by omega) dL_packet_597 (fun zq16 ezq16 hzq16 => ?_)
                        refine z_iconst C 598 dL_packet_598 ?_
                        refine z_ishr C 599 (v := zq16 / 32) dL_packet_599 (j_sar (by omega) (by omega) (by decide) (by decide) rfl) ?_
                        refine z_iconst C 600 dL_packet_600 ?_
                        refine z_iand C 601 (v := (zq16 / 32) % 4) dL_packet_601 (j_mask (k := 2) (by omega) (by decide) rfl) ?_
                        refine z_iload C 602 dL_packet_602 14 rfl ?_
                        refine z_icmp_eq C 604 610 dL_packet_604 (by decide) (by first | assumption | omega) (by first | assumption | omega) (fun c604_184 => ?_) (fun c604_184 => ?_)
                        · have hPr := jpr_k (M := M3) (f := f) (k := k) (by omega) (by omega) (show zq16 = zV M3 34 0 k.toNat by omega)
                          have hJ1 := jun_k1 (M := M3) (a := a) (f := f) (k := k) (by omega) (by omega) (show zq15 = zV M3 34 0 k.toNat by omega) (by omega)
                          have hT : jlk M3 a f b (k - 4 * f).toNat := jlk_of.mpr ⟨by omega, by rw [hJ1, har, show zV M 35 0 a.toNat = zq14 by omega, ← hdv]; omega⟩
                          refine z_aload C 610 dL_packet_610 10 rfl ?_
                          refine z_iload C 612 dL_packet_612 19 rfl ?_
                          refine z_ialdj C 614 (show 0 < 1 by omega) (zc34 ..) k.toNat rfl (by first | assumption | omega) (by omega) (show k < ((64 : Nat) : Int) by omega) dL_packet_614 (fun zq17 ezq17 hzq17 => ?_)
                          refine z_sipush C 615 dL_packet_615 (by decide +kernel) ?_
                          refine z_idiv C 618 dL_packet_618 hzq17 (by omega) (by decide) (by decide) ?_
                          refine z_bipush C 619 dL_packet_619 (by decide +kernel) ?_
                          refine z_irem C 621 dL_packet_621 (by first | assumption | omega) (by omega) (by decide) (by decide) ?_
                          refine z_iload C 622 dL_packet_622 15 rfl ?_
                          refine z_iconst C 624 dL_packet_624 ?_
                          refine z_iadd C 625 dL_packet_625 ?_
                          refine z_imul C 626 dL_packet_626 ?_
                          refine z_iload C 627 dL_packet_627 16 rfl ?_
                          refine z_aload C 629 dL_packet_629 10 rfl ?_
                          refine z_iload C 631 dL_packet_631 19 rfl ?_
                          refine z_ialdj C 633 (show 0 < 1 by omega) (zc34 ..) k.toNat rfl (by first | assumption | omega) (by omega) (show k < ((64 : Nat) : Int) by omega) dL_packet_633 (fun zq18 ezq18 hzq18 => ?_)
                          refine z_sipush C 634 dL_packet_634 (by decide +kernel) ?_
                          refine z_idiv C 637 dL_packet_637 hzq18 (by omega) (by decide) (by decide) ?_
                          refine z_imul C 638 dL_packet_638 ?_
                          refine z_isub C 639 dL_packet_639 ?_
                          have hm1 := j_mb (x := zq17 / 128 % 16) (X := 15) (y := A + 1) (Y := 521) (by omega) (by omega) (by omega) (by omega)
                          have hm2 := j_mb (x := w) (X := 60) (y := zq18 / 2048) (Y := 121) (by omega) (by omega) (by omega) (by omega)
                          obtain ⟨its, hits⟩ : ∃ t : Int, t = ((((zq17 / 128) % 16) * (A + 1)) - (w * (zq18 / 2048))) := ⟨_, rfl⟩
                          have hir : zrg its := by omega
                          have hla : jla M3 a f b (k - 4 * f).toNat = its := by unfold jla; rw [jwt_k (M := M3) (f := f) (k := k) (by omega) (by omega) (show zq17 = zV M3 34 0 k.toNat by omega), jpk_k (M := M3) (f := f) (k := k) (by omega) (by omega) (show zq18 = zV M3 34 0 k.toNat by omega), ← hA4, ← hw4, hits]
                          refine z_to C (y := its) hits.symm ?_
                          refine z_istore (lv' := [(20, .int (zI its)), (0, .int (zI idn)), (1, .int (zI a)), (2, .ref (zad G 26 0)), (3, .ref (zad G 27 0)), (4, .ref (zad G 28 0)), (5, .ref (zad G 29 0)), (6, .ref (zad G 30 0)), (7, .ref (zad G 31 0)), (8, .ref (zad G 32 0)), (9, .ref (zad G 33 0)), (10, .ref (zad G 34 0)), (11, .ref (zad G 35 0)), (12, .ref (zad G 36 0)), (13, .int (zI f)), (14, .int (zI b)), (15, .int (zI A)), (16, .int (zI w)), (17, .int (zI f2)), (18, .int (zI y)), (19, .int (zI k))]) C 640 dL_packet_640 (by decide) rfl ?_
                          refine z_iload C 642 dL_packet_642 18 rfl ?_
                          refine z_if_lt C 644 657 dL_packet_644 (by decide) (by first | assumption | omega) (fun c644_216 => ?_) (fun c644_216 => ?_)
                          · refine z_iload C 657 dL_packet_657 0 rfl ?_
                            refine z_istore (lv' := [(18, .int (zI its)), (20, .int (zI its)), (0, .int (zI idn)), (1, .int (zI a)), (2, .ref (zad G 26 0)), (3, .ref (zad G 27 0)), (4, .ref (zad G 28 0)), (5, .ref (zad G 29 0)), (6, .ref (zad G 30 0)), (7, .ref (zad G 31 0)), (8, .ref (zad G 32 0)), (9, .ref (zad G 33 0)), (10, .ref (zad G 34 0)), (11, .ref (zad G 35 0)), (12, .ref (zad G 36 0)), (13, .int (zI f)), (14, .int (zI b)), (15, .int (zI A)), (16, .int (zI w)), (17, .int (zI f2)), (19, .int (zI k))]) C 659 dL_packet_659 (by decide) rfl ?_
                            refine z_iload C 661 dL_packet_661 20 rfl ?_
                            refine z_istore (lv' := [(17, .int (zI k)), (18, .int (zI its)), (20, .int (zI its)), (0, .int (zI idn)), (1, .int (zI a)), (2, .ref (zad G 26 0)), (3, .ref (zad G 27 0)), (4, .ref (zad G 28 0)), (5, .ref (zad G 29 0)), (6, .ref (zad G 30 0)), (7, .ref (zad G 31 0)), (8, .ref (zad G 32 0)), (9, .ref (zad G 33 0)), (10, .ref (zad G 34 0)), (11, .ref (zad G 35 0)), (12, .ref (zad G 36 0)), (13, .int (zI f)), (14, .int (zI b)), (15, .int (zI A)), (16, .int (zI w)), (19, .int (zI k))]) C 663 dL_packet_663 (by decide) rfl ?_
                            refine z_iinc (lv' := [(19, .int (zI (k + (-1)))), (17, .int (zI k)), (18, .int (zI its)), (20, .int (zI its)), (0, .int (zI idn)), (1, .int (zI a)), (2, .ref (zad G 26 0)), (3, .ref (zad G 27 0)), (4, .ref (zad G 28 0)), (5, .ref (zad G 29 0)), (6, .ref (zad G 30 0)), (7, .ref (zad G 31 0)), (8, .ref (zad G 32 0)), (9, .ref (zad G 33 0)), (10, .ref (zad G 34 0)), (11, .ref (zad G 35 0)), (12, .ref (zad G 36 0)), (13, .int (zI f)), (14, .int (zI b)), (15, .int (zI A)), (16, .int (zI w))]) C 665 dL_packet_665 20 rfl (by decide) rfl ?_
                            refine z_goto C 668 557 dL_packet_668 (by decide) ?_
                            refine z_sub (lv' := [(0, .int (zI idn)), (1, .int (zI a)), (2, .ref (zad G 26 0)), (3, .ref (zad G 27 0)), (4, .ref (zad G 28 0)), (5, .ref (zad G 29 0)), (6, .ref (zad G 30 0)), (7, .ref (zad G 31 0)), (8, .ref (zad G 32 0)), (9, .ref (zad G 33 0)), (10, .ref (zad G 34 0)), (11, .ref (zad G 35 0)), (12, .ref (zad G 36 0)), (13, .int (zI f)), (14, .int (zI b)), (15, .int (zI A)), (16, .int (zI w)), (17, .int (zI k)), (18, .int (zI its)), (19, .int (zI (k + (-1))))]) [4, 5, 6, 7, 8, 9, 10, 11, 12, 13, 14, 15, 16, 17, 18, 19, 20, 1, 2, 0] rfl ?_
                            exact ihz10 k its (k + (-1)) (by omega) (by omega) (by rw [show k + (-1) - 4 * f = (k - 4 * f) + (-1) by omega]; exact jdk_t (by omega) (by omega) r1 hT (by rw [hla]; omega) (by omega) (by omega) hla.symm) (by omega)
                          refine z_iload C 647 dL_packet_647 0 rfl ?_
                          refine z_iload C 649 dL_packet_649 19 rfl ?_
                          refine z_icmp_ge C 651 657 dL_packet_651 (by decide) hir (by first | assumption | omega) (fun c651_227 => ?_) (fun c651_227 => ?_)
                          · refine z_iload C 657 dL_packet_657 0 rfl ?_
                            refine z_istore (lv' := [(18, .int (zI its)), (20, .int (zI its)), (0, .int (zI idn)), (1, .int (zI a)), (2, .ref (zad G 26 0)), (3, .ref (zad G 27 0)), (4, .ref (zad G 28 0)), (5, .ref (zad G 29 0)), (6, .ref (zad G 30 0)), (7, .ref (zad G 31 0)), (8, .ref (zad G 32 0)), (9, .ref (zad G 33 0)), (10, .ref (zad G 34 0)), (11, .ref (zad G 35 0)), (12, .ref (zad G 36 0)), (13, .int (zI f)), (14, .int (zI b)), (15, .int (zI A)), (16, .int (zI w)), (17, .int (zI f2)), (19, .int (zI k))]) C 659 dL_packet_659 (by decide) rfl ?_
                            refine z_iload C 661 dL_packet_661 20 rfl ?_
                            refine z_istore (lv' := [(17, .int (zI k)), (18, .int (zI its)), (20, .int (zI its)), (0, .int (zI idn)), (1, .int (zI a)), (2, .ref (zad G 26 0)), (3, .ref (zad G 27 0)), (4, .ref (zad G 28 0)), (5, .ref (zad G 29 0)), (6, .ref (zad G 30 0)), (7, .ref (zad G 31 0)), (8, .ref (zad G 32 0)), (9, .ref (zad G 33 0)), (10, .ref (zad G 34 0)), (11, .ref (zad G 35 0)), (12, .ref (zad G 36 0)), (13, .int (zI f)), (14, .int (zI b)), (15, .int (zI A)), (16, .int (zI w)), (19, .int (zI k))]) C 663 dL_packet_663 (by decide) rfl ?_
                            refine z_iinc (lv' := [(19, .int (zI (k + (-1)))), (17, .int (zI k)), (18, .int (zI its)), (20, .int (zI its)), (0, .int (zI idn)), (1, .int (zI a)), (2, .ref (zad G 26 0)), (3, .ref (zad G 27 0)), (4, .ref (zad G 28 0)), (5, .ref (zad G 29 0)), (6, .ref (zad G 30 0)), (7, .ref (zad G 31 0)), (8, .ref (zad G 32 0)), (9, .ref (zad G 33 0)), (10, .ref (zad G 34 0)), (11, .ref (zad G 35 0)), (12, .ref (zad G 36 0)), (13, .int (zI f)), (14, .int (zI b)), (15, .int (zI A)), (16, .int (zI w))]) C 665 dL_packet_665 20 rfl (by decide) rfl ?_
                            refine z_goto C 668 557 dL_packet_668 (by decide) ?_
                            refine z_sub (lv' := [(0, .int (zI idn)), (1, .int (zI a)), (2, .ref (zad G 26 0)), (3, .ref (zad G 27 0)), (4, .ref (zad G 28 0)), (5, .ref (zad G 29 0)), (6, .ref (zad G 30 0)), (7, .ref (zad G 31 0)), (8, .ref (zad G 32 0)), (9, .ref (zad G 33 0)), (10, .ref (zad G 34 0)), (11, .ref (zad G 35 0)), (12, .ref (zad G 36 0)), (13, .int (zI f)), (14, .int (zI b)), (15, .int (zI A)), (16, .int (zI w)), (17, .int (zI k)), (18, .int (zI its)), (19, .int (zI (k + (-1))))]) [4, 5, 6, 7, 8, 9, 10, 11, 12, 13, 14, 15, 16, 17, 18, 19, 20, 1, 2, 0] rfl ?_
                            exact ihz10 k its (k + (-1)) (by omega) (by omega) (by rw [show k + (-1) - 4 * f = (k - 4 * f) + (-1) by omega]; exact jdk_t (by omega) (by omega) r1 hT (by rw [hla]; omega) (by omega) (by omega) hla.symm) (by omega)
                          have hL : ¬ (jlk M3 a f b (k - 4 * f).toNat ∧ (f2 = -1 ∨ y ≤ jla M3 a f b (k - 4 * f).toNat)) := fun z => z.2.elim (fun q => by omega) (fun q => by rw [hla] at q; omega)
                          refine z_goto C 654 665 dL_packet_654 (by decide) ?_
                          refine z_iinc (lv' := [(19, .int (zI (k + (-1)))), (20, .int (zI its)), (0, .int (zI idn)), (1, .int (zI a)), (2, .ref (zad G 26 0)), (3, .ref (zad G 27 0)), (4, .ref (zad G 28 0)), (5, .ref (zad G 29 0)), (6, .ref (zad G 30 0)), (7, .ref (zad G 31 0)), (8, .ref (zad G 32 0)), (9, .ref (zad G 33 0)), (10, .ref (zad G 34 0)), (11, .ref (zad G 35 0)), (12, .ref (zad G 36 0)), (13, .int (zI f)), (14, .int (zI b)), (15, .int (zI A)), (16, .int (zI w)), (17, .int (zI f2)), (18, .int (zI y))]) C 665 dL_packet_665 20 rfl (by decide) rfl ?_
                          refine z_goto C 668 557 dL_packet_668 (by decide) ?_
                          refine z_sub (lv' := [(0, .int (zI idn)), (1, .int (zI a)), (2, .ref (zad G 26 0)), (3, .ref (zad G 27 0)), (4, .ref (zad G 28 0)), (5, .ref (zad G 29 0)), (6, .ref (zad G 30 0)), (7, .ref (zad G 31 0)), (8, .ref (zad G 32 0)), (9, .ref (zad G 33 0)), (10, .ref (zad G 34 0)), (11, .ref (zad G 35 0)), (12, .ref (zad G 36 0)), (13, .int (zI f)), (14, .int (zI b)), (15, .int (zI A)), (16, .int (zI w)), (17, .int (zI f2)), (18, .int (zI y)), (19, .int (zI (k + (-1))))]) [2, 3, 4, 5, 6, 7, 8, 9, 10, 11, 12, 13, 14, 15, 16, 17, 18, 19, 20, 0] rfl ?_
                          exact ihz10 f2 y (k + (-1)) (by omega) (by omega) (by rw [show k + (-1) - 4 * f = (k - 4 * f) + (-1) by omega]; exact jdk_f (by omega) (by omega) r1 hL (by omega)) (by omega)
                        have hL : ¬ (jlk M3 a f b (k - 4 * f).toNat ∧ (f2 = -1 ∨ y ≤ jla M3 a f b (k - 4 * f).toNat)) := fun z => by have z0 := (jlk_of.mp z.1).1; have z1 := jpr_k (M := M3) (f := f) (k := k) (by omega) (by omega) (show zq16 = zV M3 34 0 k.toNat by omega); omega
                        refine z_goto C 607 665 dL_packet_607 (by decide) ?_
                        refine z_iinc (lv' := [(19, .int (zI (k + (-1)))), (0, .int (zI idn)), (1, .int (zI a)), (2, .ref (zad G 26 0)), (3, .ref (zad G 27 0)), (4, .ref (zad G 28 0)), (5, .ref (zad G 29 0)), (6, .ref (zad G 30 0)), (7, .ref (zad G 31 0)), (8, .ref (zad G 32 0)), (9, .ref (zad G 33 0)), (10, .ref (zad G 34 0)), (11, .ref (zad G 35 0)), (12, .ref (zad G 36 0)), (13, .int (zI f)), (14, .int (zI b)), (15, .int (zI A)), (16, .int (zI w)), (17, .int (zI f2)), (18, .int (zI y))]) C 665 dL_packet_665 19 rfl (by decide) rfl ?_
                        refine z_goto C 668 557 dL_packet_668 (by decide) ?_
                        refine z_sub (lv' := [(0, .int (zI idn)), (1, .int (zI a)), (2, .ref (zad G 26 0)), (3, .ref (zad G 27 0)), (4, .ref (zad G 28 0)), (5, .ref (zad G 29 0)), (6, .ref (zad G 30 0)), (7, .ref (zad G 31 0)), (8, .ref (zad G 32 0)), (9, .ref (zad G 33 0)), (10, .ref (zad G 34 0)), (11, .ref (zad G 35 0)), (12, .ref (zad G 36 0)), (13, .int (zI f)), (14, .int (zI b)), (15, .int (zI A)), (16, .int (zI w)), (17, .int (zI f2)), (18, .int (zI y)), (19, .int (zI (k + (-1))))]) [1, 2, 3, 4, 5, 6, 7, 8, 9, 10, 11, 12, 13, 14, 15, 16, 17, 18, 19, 0] rfl ?_
                        exact ihz10 f2 y (k + (-1)) (by omega) (by omega) (by rw [show k + (-1) - 4 * f = (k - 4 * f) + (-1) by omega]; exact jdk_f (by omega) (by omega) r1 hL (by omega)) (by omega)
                    refine z_sub (lv' := [(0, .int (zI idn)), (1, .int (zI a)), (2, .ref (zad G 26 0)), (3, .ref (zad G 27 0)), (4, .ref (zad G 28 0)), (5, .ref (zad G 29 0)), (6, .ref (zad G 30 0)), (7, .ref (zad G 31 0)), (8, .ref (zad G 32 0)), (9, .ref (zad G 33 0)), (10, .ref (zad G 34 0)), (11, .ref (zad G 35 0)), (12, .ref (zad G 36 0)), (13, .int (zI f)), (14, .int (zI b)), (15, .int (zI A)), (16, .int (zI w)), (17, .int (zI (-1))), (18, .int (zI 0)), (19, .int (zI ((4 * f) + 3)))]) [3, 4, 5, 6, 7, 8, 9, 10, 11, 12, 13, 14, 15, 16, 17, 18, 19, 2, 1, 0] rfl ?_
                    exact L557_9 (((((4 * f) + 3) - 4 * f + 1 : Int)).toNat + 1) (-1) 0 ((4 * f) + 3) (by omega) (by omega) (by exact Or.inl ⟨rfl, fun j h1 h2 => absurd h1 (by omega)⟩) (by omega)
                  refine z_bipush C 540 dL_packet_540 (by decide +kernel) ?_
                  refine z_iret C 542 dL_packet_542 (by decide) (by decide) (by decide) ?_
                  exact hK _ _ ⟨M2, hM2e, Or.inr (Or.inl ⟨hq0, by rw [← hb4]; omega, rfl, rfl⟩)⟩
                have hbk := hb k.toNat (by omega)
                have hck := gM2 34 k.toNat (by omega) (by decide)
                refine z_aload C 415 dL_packet_415 10 rfl ?_
                refine z_iload C 417 dL_packet_417 17 rfl ?_
                refine z_ialdj C 419 (show 0 < 1 by omega) (zc34 ..) k.toNat rfl (by first | assumption | omega) (by omega) (show k < ((64 : Nat) : Int) by omega) dL_packet_419 (fun zq19 ezq19 hzq19 => ?_)
                refine z_iconst C 420 dL_packet_420 ?_
                refine z_ishr C 421 (v := zq19 / 32) dL_packet_421 (j_sar (by omega) (by omega) (by decide) (by decide) rfl) ?_
                refine z_iconst C 422 dL_packet_422 ?_
                refine z_iand C 423 (v := (zq19 / 32) % 4) dL_packet_423 (j_mask (k := 2) (by omega) (by decide) rfl) ?_
                refine z_istore (lv' := [(18, .int (zI ((zq19 / 32) % 4))), (0, .int (zI idn)), (1, .int (zI a)), (2, .ref (zad G 26 0)), (3, .ref (zad G 27 0)), (4, .ref (zad G 28 0)), (5, .ref (zad G 29 0)), (6, .ref (zad G 30 0)), (7, .ref (zad G 31 0)), (8, .ref (zad G 32 0)), (9, .ref (zad G 33 0)), (10, .ref (zad G 34 0)), (11, .ref (zad G 35 0)), (12, .ref (zad G 36 0)), (13, .int (zI f)), (14, .int (zI b)), (15, .int (zI A)), (16, .int (zI w)), (17, .int (zI k))]) C 424 dL_packet_424 (by decide) rfl ?_
                refine z_aload C 426 dL_packet_426 11 rfl ?_
                refine z_iload C 428 dL_packet_428 18 rfl ?_
                refine z_ialdj C 430 (show 0 < 1 by omega) (zc34 ..) k.toNat rfl (by first | assumption | omega) (by omega) (show k < ((64 : Nat) : Int) by omega) dL_packet_430 (fun zq20 ezq20 hzq20 => ?_)
                refine z_if_eq C 431 528 dL_packet_431 (by decide) hzq20 (fun c431_263 => ?_) (fun c431_263 => ?_)
                · have hN : ¬ (jun M3 a f (k - 4 * f).toNat = 0 ∧ jpr M3 f (k - 4 * f).toNat ≤ b) := fun z => by have z1 := jun_k0 (M := M3) (a := a) (f := f) (k := k) (by omega) (by omega) (show zq20 = zV M3 34 0 k.toNat by omega) c431_263; omega
                  refine z_iinc (lv' := [(17, .int (zI (k + 1))), (18, .int (zI ((zq19 / 32) % 4))), (0, .int (zI idn)), (1, .int (zI a)), (2, .ref (zad G 26 0)), (3, .ref (zad G 27 0)), (4, .ref (zad G 28 0)), (5, .ref (zad G 29 0)), (6, .ref (zad G 30 0)), (7, .ref (zad G 31 0)), (8, .ref (zad G 32 0)), (9, .ref (zad G 33 0)), (10, .ref (zad G 34 0)), (11, .ref (zad G 35 0)), (12, .ref (zad G 36 0)), (13, .int (zI f)), (14, .int (zI b)), (15, .int (zI A)), (16, .int (zI w))]) C 528 dL_packet_528 18 rfl (by decide) rfl ?_
                  refine z_goto C 531 404 dL_packet_531 (by decide) ?_
                  refine z_sub (lv' := [(0, .int (zI idn)), (1, .int (zI a)), (2, .ref (zad G 26 0)), (3, .ref (zad G 27 0)), (4, .ref (zad G 28 0)), (5, .ref (zad G 29 0)), (6, .ref (zad G 30 0)), (7, .ref (zad G 31 0)), (8, .ref (zad G 32 0)), (9, .ref (zad G 33 0)), (10, .ref (zad G 34 0)), (11, .ref (zad G 35 0)), (12, .ref (zad G 36 0)), (13, .int (zI f)), (14, .int (zI b)), (15, .int (zI A)), (16, .int (zI w)), (17, .int (zI (k + 1)))]) [2, 3, 4, 5, 6, 7, 8, 9, 10, 11, 12, 13, 14, 15, 16, 17, 18, 0] rfl ?_
                  exact ihz8 b A w (k + 1) (by omega) (by rw [show k + 1 - 4 * f = (k - 4 * f) + 1 by omega]; exact jbk3_f (by omega) q1 hN) (by omega) (by omega)
                refine z_aload C 434 dL_packet_434 12 rfl ?_
                refine z_iload_n C 436 dL_packet_436 rfl 2 rfl ?_
                refine z_ialdj C 437 (show 0 < 1 by omega) (zc35 ..) a.toNat rfl (by first | assumption | omega) (by omega) (show a < ((2 : Nat) : Int) by omega) dL_packet_437 (fun zq21 ezq21 hzq21 => ?_)
                refine z_aload C 438 dL_packet_438 11 rfl ?_
                refine z_iload C 440 dL_packet_440 18 rfl ?_
                refine z_ialdj C 442 (show 0 < 1 by omega) (zc34 ..) k.toNat rfl (by first | assumption | omega) (by omega) (show k < ((64 : Nat) : Int) by omega) dL_packet_442 (fun zq22 ezq22 hzq22 => ?_)
                refine z_bipush C 443 dL_packet_443 (by decide +kernel) ?_
                have hrm := Int.emod_nonneg zq22 (show (32 : Int) ≠ 0 by decide)
                refine z_irem C 445 dL_packet_445 hzq22 (by omega) (by decide) (by decide) ?_
                obtain ⟨dv, hdv⟩ : ∃ t : Int, t = zq21 / 2 ^ (zq22 % 32).toNat := ⟨_, rfl⟩
                have hdv9 := j_div2 (x := zq21) (j := (zq22 % 32).toNat) (by omega)
                rw [← hdv] at hdv9
                refine z_ishr C 446 (v := dv) dL_packet_446 (by rw [hdv]; exact j_sar (by omega) (by omega) (by omega) (by omega) rfl) ?_
                refine z_iconst C 447 dL_packet_447 ?_
                refine z_iand C 448 (v := dv % 2) dL_packet_448 (j_mask (k := 1) (by omega) (by decide) rfl) ?_
                refine z_iconst C 449 dL_packet_449 ?_
                refine z_icmp_eq C 450 528 dL_packet_450 (by decide) (by first | assumption | omega) (by decide) (fun c450_285 => ?_) (fun c450_285 => ?_)
                · have hN : ¬ (jun M3 a f (k - 4 * f).toNat = 0 ∧ jpr M3 f (k - 4 * f).toNat ≤ b) := fun z => by have z1 := jun_k1 (M := M3) (a := a) (f := f) (k := k) (by omega) (by omega) (show zq22 = zV M3 34 0 k.toNat by omega) (by omega); rw [har, show zV M 35 0 a.toNat = zq21 by omega, ← hdv] at z1; omega
                  refine z_iinc (lv' := [(17, .int (zI (k + 1))), (18, .int (zI ((zq19 / 32) % 4))), (0, .int (zI idn)), (1, .int (zI a)), (2, .ref (zad G 26 0)), (3, .ref (zad G 27 0)), (4, .ref (zad G 28 0)), (5, .ref (zad G 29 0)), (6, .ref (zad G 30 0)), (7, .ref (zad G 31 0)), (8, .ref (zad G 32 0)), (9, .ref (zad G 33 0)), (10, .ref (zad G 34 0)), (11, .ref (zad G 35 0)), (12, .ref (zad G 36 0)), (13, .int (zI f)), (14, .int (zI b)), (15, .int (zI A)), (16, .int (zI w))]) C 528 dL_packet_528 18 rfl (by decide) rfl ?_
                  refine z_goto C 531 404 dL_packet_531 (by decide) ?_
                  refine z_sub (lv' := [(0, .int (zI idn)), (1, .int (zI a)), (2, .ref (zad G 26 0)), (3, .ref (zad G 27 0)), (4, .ref (zad G 28 0)), (5, .ref (zad G 29 0)), (6, .ref (zad G 30 0)), (7, .ref (zad G 31 0)), (8, .ref (zad G 32 0)), (9, .ref (zad G 33 0)), (10, .ref (zad G 34 0)), (11, .ref (zad G 35 0)), (12, .ref (zad G 36 0)), (13, .int (zI f)), (14, .int (zI b)), (15, .int (zI A)), (16, .int (zI w)), (17, .int (zI (k + 1)))]) [2, 3, 4, 5, 6, 7, 8, 9, 10, 11, 12, 13, 14, 15, 16, 17, 18, 0] rfl ?_
                  exact ihz8 b A w (k + 1) (by omega) (by rw [show k + 1 - 4 * f = (k - 4 * f) + 1 by omega]; exact jbk3_f (by omega) q1 hN) (by omega) (by omega)
                have hJ1 := jun_k1 (M := M3) (a := a) (f := f) (k := k) (by omega) (by omega) (show zq22 = zV M3 34 0 k.toNat by omega) (by omega)
                have hU : jun M3 a f (k - 4 * f).toNat = 0 := by rw [hJ1, har, show zV M 35 0 a.toNat = zq21 by omega, ← hdv]; omega
                have hPr := jpr_k (M := M3) (f := f) (k := k) (by omega) (by omega) (show zq19 = zV M3 34 0 k.toNat by omega)
                refine z_iload C 453 dL_packet_453 0 rfl ?_
                refine z_iload C 455 dL_packet_455 15 rfl ?_
                refine z_icmp_le C 457 463 dL_packet_457 (by decide) (by first | assumption | omega) (by first | assumption | omega) (fun c457_296 => ?_) (fun c457_296 => ?_)
                · refine z_iload C 463 dL_packet_463 0 rfl ?_
                  refine z_iload C 465 dL_packet_465 15 rfl ?_
                  refine z_icmp_ge C 467 474 dL_packet_467 (by decide) (by first | assumption | omega) (by first | assumption | omega) (fun c467_300 => ?_) (fun c467_300 => ?_)
                  · refine z_iload C 474 dL_packet_474 16 rfl ?_
                    refine z_istore (lv' := [(15, .int (zI A)), (18, .int (zI ((zq19 / 32) % 4))), (0, .int (zI idn)), (1, .int (zI a)), (2, .ref (zad G 26 0)), (3, .ref (zad G 27 0)), (4, .ref (zad G 28 0)), (5, .ref (zad G 29 0)), (6, .ref (zad G 30 0)), (7, .ref (zad G 31 0)), (8, .ref (zad G 32 0)), (9, .ref (zad G 33 0)), (10, .ref (zad G 34 0)), (11, .ref (zad G 35 0)), (12, .ref (zad G 36 0)), (13, .int (zI f)), (14, .int (zI b)), (16, .int (zI w)), (17, .int (zI k))]) C 476 dL_packet_476 (by decide) rfl ?_
                    refine z_iload C 478 dL_packet_478 1 rfl ?_
                    refine z_iload C 480 dL_packet_480 16 rfl ?_
                    refine z_icmp_ge C 482 489 dL_packet_482 (by decide) (by first | assumption | omega) (by first | assumption | omega) (fun c482_306 => ?_) (fun c482_306 => ?_)
                    rotate_left
                    · exact absurd c482_306 (by omega)
                    refine z_iload C 489 dL_packet_489 17 rfl ?_
                    refine z_istore (lv' := [(16, .int (zI w)), (15, .int (zI A)), (18, .int (zI ((zq19 / 32) % 4))), (0, .int (zI idn)), (1, .int (zI a)), (2, .ref (zad G 26 0)), (3, .ref (zad G 27 0)), (4, .ref (zad G 28 0)), (5, .ref (zad G 29 0)), (6, .ref (zad G 30 0)), (7, .ref (zad G 31 0)), (8, .ref (zad G 32 0)), (9, .ref (zad G 33 0)), (10, .ref (zad G 34 0)), (11, .ref (zad G 35 0)), (12, .ref (zad G 36 0)), (13, .int (zI f)), (14, .int (zI b)), (17, .int (zI k))]) C 491 dL_packet_491 (by decide) rfl ?_
                    refine z_iload C 493 dL_packet_493 2 rfl ?_
                    refine z_istore (lv' := [(14, .int (zI ((zq19 / 32) % 4))), (16, .int (zI w)), (15, .int (zI A)), (18, .int (zI ((zq19 / 32) % 4))), (0, .int (zI idn)), (1, .int (zI a)), (2, .ref (zad G 26 0)), (3, .ref (zad G 27 0)), (4, .ref (zad G 28 0)), (5, .ref (zad G 29 0)), (6, .ref (zad G 30 0)), (7, .ref (zad G 31 0)), (8, .ref (zad G 32 0)), (9, .ref (zad G 33 0)), (10, .ref (zad G 34 0)), (11, .ref (zad G 35 0)), (12, .ref (zad G 36 0)), (13, .int (zI f)), (17, .int (zI k))]) C 495 dL_packet_495 (by decide) rfl ?_
                    refine z_iload C 497 dL_packet_497 2 rfl ?_
                    refine z_aload C 499 dL_packet_499 14 rfl ?_
                    refine z_iload C 501 dL_packet_501 18 rfl ?_
                    refine z_ialdj C 503 (show 0 < 1 by omega) (zc34 ..) k.toNat rfl (by first | assumption | omega) (by omega) (show k < ((64 : Nat) : Int) by omega) dL_packet_503 (fun zq23 ezq23 hzq23 => ?_)
                    refine z_sipush C 504 dL_packet_504 (by decide +kernel) ?_
                    refine z_idiv C 507 dL_packet_507 hzq23 (by omega) (by decide) (by decide) ?_
                    refine z_iadd C 508 dL_packet_508 ?_
                    refine z_istore (lv' := [(15, .int (zI (A + (zq23 / 2048)))), (14, .int (zI ((zq19 / 32) % 4))), (16, .int (zI w)), (18, .int (zI ((zq19 / 32) % 4))), (0, .int (zI idn)), (1, .int (zI a)), (2, .ref (zad G 26 0)), (3, .ref (zad G 27 0)), (4, .ref (zad G 28 0)), (5, .ref (zad G 29 0)), (6, .ref (zad G 30 0)), (7, .ref (zad G 31 0)), (8, .ref (zad G 32 0)), (9, .ref (zad G 33 0)), (10, .ref (zad G 34 0)), (11, .ref (zad G 35 0)), (12, .ref (zad G 36 0)), (13, .int (zI f)), (17, .int (zI k))]) C 509 dL_packet_509 (by decide) rfl ?_
                    refine z_iload C 511 dL_packet_511 2 rfl ?_
                    refine z_aload C 513 dL_packet_513 14 rfl ?_
                    refine z_iload C 515 dL_packet_515 18 rfl ?_
                    refine z_ialdj C 517 (show 0 < 1 by omega) (zc34 ..) k.toNat rfl (by first | assumption | omega) (by omega) (show k < ((64 : Nat) : Int) by omega) dL_packet_517 (fun zq24 ezq24 hzq24 => ?_)
                    refine z_sipush C 518 dL_packet_518 (by decide +kernel) ?_
                    refine z_idiv C 521 dL_packet_521 hzq24 (by omega) (by decide) (by decide) ?_
                    refine z_bipush C 522 dL_packet_522 (by decide +kernel) ?_
                    refine z_irem C 524 dL_packet_524 (by first | assumption | omega) (by omega) (by decide) (by decide) ?_
                    refine z_iadd C 525 dL_packet_525 ?_
                    refine z_istore (lv' := [(16, .int (zI (w + ((zq24 / 128) % 16)))), (15, .int (zI (A + (zq23 / 2048)))), (14, .int (zI ((zq19 / 32) % 4))), (18, .int (zI ((zq19 / 32) % 4))), (0, .int (zI idn)), (1, .int (zI a)), (2, .ref (zad G 26 0)), (3, .ref (zad G 27 0)), (4, .ref (zad G 28 0)), (5, .ref (zad G 29 0)), (6, .ref (zad G 30 0)), (7, .ref (zad G 31 0)), (8, .ref (zad G 32 0)), (9, .ref (zad G 33 0)), (10, .ref (zad G 34 0)), (11, .ref (zad G 35 0)), (12, .ref (zad G 36 0)), (13, .int (zI f)), (17, .int (zI k))]) C 526 dL_packet_526 (by decide) rfl ?_
                    have hPk := jpk_k (M := M3) (f := f) (k := k) (by omega) (by omega) (show zq23 = zV M3 34 0 k.toNat by omega)
                    have hWt := jwt_k (M := M3) (f := f) (k := k) (by omega) (by omega) (show zq24 = zV M3 34 0 k.toNat by omega)
                    have hA2 : A + (zq23 / 2048) = (if jpr M3 f (k - 4 * f).toNat < b then 0 else A) + jpk M3 f (k - 4 * f).toNat := by rw [hPr, hPk]; first | rw [if_pos (by omega)] | rw [if_neg (by omega)]
                    have hw2 : w + ((zq24 / 128) % 16) = (if jpr M3 f (k - 4 * f).toNat < b then 0 else w) + jwt M3 f (k - 4 * f).toNat := by rw [hPr, hWt]; first | rw [if_pos (by omega)] | rw [if_neg (by omega)]
                    refine z_iinc (lv' := [(17, .int (zI (k + 1))), (16, .int (zI (w + ((zq24 / 128) % 16)))), (15, .int (zI (A + (zq23 / 2048)))), (14, .int (zI ((zq19 / 32) % 4))), (18, .int (zI ((zq19 / 32) % 4))), (0, .int (zI idn)), (1, .int (zI a)), (2, .ref (zad G 26 0)), (3, .ref (zad G 27 0)), (4, .ref (zad G 28 0)), (5, .ref (zad G 29 0)), (6, .ref (zad G 30 0)), (7, .ref (zad G 31 0)), (8, .ref (zad G 32 0)), (9, .ref (zad G 33 0)), (10, .ref (zad G 34 0)), (11, .ref (zad G 35 0)), (12, .ref (zad G 36 0)), (13, .int (zI f))]) C 528 dL_packet_528 18 rfl (by decide) rfl ?_
                    refine z_goto C 531 404 dL_packet_531 (by decide) ?_
                    refine z_sub (lv' := [(0, .int (zI idn)), (1, .int (zI a)), (2, .ref (zad G 26 0)), (3, .ref (zad G 27 0)), (4, .ref (zad G 28 0)), (5, .ref (zad G 29 0)), (6, .ref (zad G 30 0)), (7, .ref (zad G 31 0)), (8, .ref (zad G 32 0)), (9, .ref (zad G 33 0)), (10, .ref (zad G 34 0)), (11, .ref (zad G 35 0)), (12, .ref (zad G 36 0)), (13, .int (zI f)), (14, .int (zI ((zq19 / 32) % 4))), (15, .int (zI (A + (zq23 / 2048)))), (16, .int (zI (w + ((zq24 / 128) % 16)))), (17, .int (zI (k + 1)))]) [5, 6, 7, 8, 9, 10, 11, 12, 13, 14, 15, 16, 17, 18, 3, 2, 1, 0] rfl ?_
                    exact ihz8 ((zq19 / 32) % 4) (A + (zq23 / 2048)) (w + ((zq24 / 128) % 16)) (k + 1) (by omega) (by rw [show k + 1 - 4 * f = (k - 4 * f) + 1 by omega]; exact jbk3_t (by omega) q1 hU (by rw [hPr]; omega) hPr.symm hA2 hw2) (by omega) (by omega)
                  refine z_iconst C 470 dL_packet_470 ?_
                  refine z_goto C 471 476 dL_packet_471 (by decide) ?_
                  refine z_istore (lv' := [(15, .int (zI 0)), (18, .int (zI ((zq19 / 32) % 4))), (0, .int (zI idn)), (1, .int (zI a)), (2, .ref (zad G 26 0)), (3, .ref (zad G 27 0)), (4, .ref (zad G 28 0)), (5, .ref (zad G 29 0)), (6, .ref (zad G 30 0)), (7, .ref (zad G 31 0)), (8, .ref (zad G 32 0)), (9, .ref (zad G 33 0)), (10, .ref (zad G 34 0)), (11, .ref (zad G 35 0)), (12, .ref (zad G 36 0)), (13, .int (zI f)), (14, .int (zI b)), (16, .int (zI w)), (17, .int (zI k))]) C 476 dL_packet_476 (by decide) rfl ?_
                  refine z_iload C 478 dL_packet_478 1 rfl ?_
                  refine z_iload C 480 dL_packet_480 16 rfl ?_
                  refine z_icmp_ge C 482 489 dL_packet_482 (by decide) (by first | assumption | omega) (by first | assumption | omega) (fun c482_343 => ?_) (fun c482_343 => ?_)
                  · exact absurd c482_343 (by omega)
                  refine z_iconst C 485 dL_packet_485 ?_
                  refine z_goto C 486 491 dL_packet_486 (by decide) ?_
                  refine z_istore (lv' := [(16, .int (zI 0)), (15, .int (zI 0)), (18, .int (zI ((zq19 / 32) % 4))), (0, .int (zI idn)), (1, .int (zI a)), (2, .ref (zad G 26 0)), (3, .ref (zad G 27 0)), (4, .ref (zad G 28 0)), (5, .ref (zad G 29 0)), (6, .ref (zad G 30 0)), (7, .ref (zad G 31 0)), (8, .ref (zad G 32 0)), (9, .ref (zad G 33 0)), (10, .ref (zad G 34 0)), (11, .ref (zad G 35 0)), (12, .ref (zad G 36 0)), (13, .int (zI f)), (14, .int (zI b)), (17, .int (zI k))]) C 491 dL_packet_491 (by decide) rfl ?_
                  refine z_iload C 493 dL_packet_493 2 rfl ?_
                  refine z_istore (lv' := [(14, .int (zI ((zq19 / 32) % 4))), (16, .int (zI 0)), (15, .int (zI 0)), (18, .int (zI ((zq19 / 32) % 4))), (0, .int (zI idn)), (1, .int (zI a)), (2, .ref (zad G 26 0)), (3, .ref (zad G 27 0)), (4, .ref (zad G 28 0)), (5, .ref (zad G 29 0)), (6, .ref (zad G 30 0)), (7, .ref (zad G 31 0)), (8, .ref (zad G 32 0)), (9, .ref (zad G 33 0)), (10, .ref (zad G 34 0)), (11, .ref (zad G 35 0)), (12, .ref (zad G 36 0)), (13, .int (zI f)), (17, .int (zI k))]) C 495 dL_packet_495 (by decide) rfl ?_
                  refine z_iload C 497 dL_packet_497 2 rfl ?_
                  refine z_aload C 499 dL_packet_499 14 rfl ?_
                  refine z_iload C 501 dL_packet_501 18 rfl ?_
                  refine z_ialdj C 503 (show 0 < 1 by omega) (zc34 ..) k.toNat rfl (by first | assumption | omega) (by omega) (show k < ((64 : Nat) : Int) by omega) dL_packet_503 (fun zq25 ezq25 hzq25 => ?_)
                  refine z_sipush C 504 dL_packet_504 (by decide +kernel) ?_
                  refine z_idiv C 507 dL_packet_507 hzq25 (by omega) (by decide) (by decide) ?_
                  refine z_iadd C 508 dL_packet_508 ?_
                  refine z_istore (lv' := [(15, .int (zI (0 + (zq25 / 2048)))), (14, .int (zI ((zq19 / 32) % 4))), (16, .int (zI 0)), (18, .int (zI ((zq19 / 32) % 4))), (0, .int (zI idn)), (1, .int (zI a)), (2, .ref (zad G 26 0)), (3, .ref (zad G 27 0)), (4, .ref (zad G 28 0)), (5, .ref (zad G 29 0)), (6, .ref (zad G 30 0)), (7, .ref (zad G 31 0)), (8, .ref (zad G 32 0)), (9, .ref (zad G 33 0)), (10, .ref (zad G 34 0)), (11, .ref (zad G 35 0)), (12, .ref (zad G 36 0)), (13, .int (zI f)), (17, .int (zI k))]) C 509 dL_packet_509 (by decide) rfl ?_
                  refine z_iload C 511 dL_packet_511 2 rfl ?_
                  refine z_aload C 513 dL_packet_513 14 rfl ?_
                  refine z_iload C 515 dL_packet_515 18 rfl ?_
                  refine z_ialdj C 517 (show 0 < 1 by omega) (zc34 ..) k.toNat rfl (by first | assumption | omega) (by omega) (show k < ((64 : Nat) : Int) by omega) dL_packet_517 (fun zq26 ezq26 hzq26 => ?_)
                  refine z_sipush C 518 dL_packet_518 (by decide +kernel) ?_
                  refine z_idiv C 521 dL_packet_521 hzq26 (by omega) (by decide) (by decide) ?_
                  refine z_bipush C 522 dL_packet_522 (by decide +kernel) ?_
                  refine z_irem C 524 dL_packet_524 (by first | assumption | omega) (by omega) (by decide) (by decide) ?_
                  refine z_iadd C 525 dL_packet_525 ?_
                  refine z_istore (lv' := [(16, .int (zI (0 + ((zq26 / 128) % 16)))), (15, .int (zI (0 + (zq25 / 2048)))), (14, .int (zI ((zq19 / 32) % 4))), (18, .int (zI ((zq19 / 32) % 4))), (0, .int (zI idn)), (1, .int (zI a)), (2, .ref (zad G 26 0)), (3, .ref (zad G 27 0)), (4, .ref (zad G 28 0)), (5, .ref (zad G 29 0)), (6, .ref (zad G 30 0)), (7, .ref (zad G 31 0)), (8, .ref (zad G 32 0)), (9, .ref (zad G 33 0)), (10, .ref (zad G 34 0)), (11, .ref (zad G 35 0)), (12, .ref (zad G 36 0)), (13, .int (zI f)), (17, .int (zI k))]) C 526 dL_packet_526 (by decide) rfl ?_
                  have hPk := jpk_k (M := M3) (f := f) (k := k) (by omega) (by omega) (show zq25 = zV M3 34 0 k.toNat by omega)
                  have hWt := jwt_k (M := M3) (f := f) (k := k) (by omega) (by omega) (show zq26 = zV M3 34 0 k.toNat by omega)
                  have hA2 : 0 + (zq25 / 2048) = (if jpr M3 f (k - 4 * f).toNat < b then 0 else A) + jpk M3 f (k - 4 * f).toNat := by rw [hPr, hPk]; first | rw [if_pos (by omega)] | rw [if_neg (by omega)]
                  have hw2 : 0 + ((zq26 / 128) % 16) = (if jpr M3 f (k - 4 * f).toNat < b then 0 else w) + jwt M3 f (k - 4 * f).toNat := by rw [hPr, hWt]; first | rw [if_pos (by omega)] | rw [if_neg (by omega)]
                  refine z_iinc (lv' := [(17, .int (zI (k + 1))), (16, .int (zI (0 + ((zq26 / 128) % 16)))), (15, .int (zI (0 + (zq25 / 2048)))), (14, .int (zI ((zq19 / 32) % 4))), (18, .int (zI ((zq19 / 32) % 4))), (0, .int (zI idn)), (1, .int (zI a)), (2, .ref (zad G 26 0)), (3, .ref (zad G 27 0)), (4, .ref (zad G 28 0)), (5, .ref (zad G 29 0)), (6, .ref (zad G 30 0)), (7, .ref (zad G 31 0)), (8, .ref (zad G 32 0)), (9, .ref (zad G 33 0)), (10, .ref (zad G 34 0)), (11, .ref (zad G 35 0)), (12, .ref (zad G 36 0)), (13, .int (zI f))]) C 528 dL_packet_528 18 rfl (by decide) rfl ?_
                  refine z_goto C 531 404 dL_packet_531 (by decide) ?_
                  refine z_sub (lv' := [(0, .int (zI idn)), (1, .int (zI a)), (2, .ref (zad G 26 0)), (3, .ref (zad G 27 0)), (4, .ref (zad G 28 0)), (5, .ref (zad G 29 0)), (6, .ref (zad G 30 0)), (7, .ref (zad G 31 0)), (8, .ref (zad G 32 0)), (9, .ref (zad G 33 0)), (10, .ref (zad G 34 0)), (11, .ref (zad G 35 0)), (12, .ref (zad G 36 0)), (13, .int (zI f)), (14, .int (zI ((zq19 / 32) % 4))), (15, .int (zI (0 + (zq25 / 2048)))), (16, .int (zI (0 + ((zq26 / 128) % 16)))), (17, .int (zI (k + 1)))]) [5, 6, 7, 8, 9, 10, 11, 12, 13, 14, 15, 16, 17, 18, 3, 2, 1, 0] rfl ?_
                  exact ihz8 ((zq19 / 32) % 4) (0 + (zq25 / 2048)) (0 + ((zq26 / 128) % 16)) (k + 1) (by omega) (by rw [show k + 1 - 4 * f = (k - 4 * f) + 1 by omega]; exact jbk3_t (by omega) q1 hU (by rw [hPr]; omega) hPr.symm hA2 hw2) (by omega) (by omega)
                have hN : ¬ (jun M3 a f (k - 4 * f).toNat = 0 ∧ jpr M3 f (k - 4 * f).toNat ≤ b) := fun z => by have z1 := z.2; omega
                refine z_goto C 460 528 dL_packet_460 (by decide) ?_
                refine z_iinc (lv' := [(17, .int (zI (k + 1))), (18, .int (zI ((zq19 / 32) % 4))), (0, .int (zI idn)), (1, .int (zI a)), (2, .ref (zad G 26 0)), (3, .ref (zad G 27 0)), (4, .ref (zad G 28 0)), (5, .ref (zad G 29 0)), (6, .ref (zad G 30 0)), (7, .ref (zad G 31 0)), (8, .ref (zad G 32 0)), (9, .ref (zad G 33 0)), (10, .ref (zad G 34 0)), (11, .ref (zad G 35 0)), (12, .ref (zad G 36 0)), (13, .int (zI f)), (14, .int (zI b)), (15, .int (zI A)), (16, .int (zI w))]) C 528 dL_packet_528 18 rfl (by decide) rfl ?_
                refine z_goto C 531 404 dL_packet_531 (by decide) ?_
                refine z_sub (lv' := [(0, .int (zI idn)), (1, .int (zI a)), (2, .ref (zad G 26 0)), (3, .ref (zad G 27 0)), (4, .ref (zad G 28 0)), (5, .ref (zad G 29 0)), (6, .ref (zad G 30 0)), (7, .ref (zad G 31 0)), (8, .ref (zad G 32 0)), (9, .ref (zad G 33 0)), (10, .ref (zad G 34 0)), (11, .ref (zad G 35 0)), (12, .ref (zad G 36 0)), (13, .int (zI f)), (14, .int (zI b)), (15, .int (zI A)), (16, .int (zI w)), (17, .int (zI (k + 1)))]) [2, 3, 4, 5, 6, 7, 8, 9, 10, 11, 12, 13, 14, 15, 16, 17, 18, 0] rfl ?_
                exact ihz8 b A w (k + 1) (by omega) (by rw [show k + 1 - 4 * f = (k - 4 * f) + 1 by omega]; exact jbk3_f (by omega) q1 hN) (by omega) (by omega)
            refine z_sub (lv' := [(0, .int (zI idn)), (1, .int (zI a)), (2, .ref (zad G 26 0)), (3, .ref (zad G 27 0)), (4, .ref (zad G 28 0)), (5, .ref (zad G 29 0)), (6, .ref (zad G 30 0)), (7, .ref (zad G 31 0)), (8, .ref (zad G 32 0)), (9, .ref (zad G 33 0)), (10, .ref (zad G 34 0)), (11, .ref (zad G 35 0)), (12, .ref (zad G 36 0)), (13, .int (zI f)), (14, .int (zI 4)), (15, .int (zI 0)), (16, .int (zI 0)), (17, .int (zI (4 * f)))]) [4, 5, 6, 7, 8, 9, 10, 11, 12, 13, 14, 15, 16, 17, 3, 2, 1, 0] rfl ?_
            exact L404_7 (((4 * f + 4 - (4 * f) : Int)).toNat + 1) 4 0 0 (4 * f) (by omega) (by rw [Int.sub_self]; exact jbk3_0 _ _ _) (by omega) (by omega)
          refine z_iconst C 387 dL_packet_387 ?_
          refine z_iret C 388 dL_packet_388 (by decide) (by decide) (by decide) ?_
          exact hK _ _ ⟨M2, hM2e, Or.inl ⟨by omega, rfl, rfl⟩⟩
        refine z_iload C 63 dL_packet_63 13 rfl ?_
        refine z_if_ge C 65 360 dL_packet_65 (by decide) (by first | assumption | omega) (fun c65_386 => ?_) (fun c65_386 => ?_)
        · refine z_sub (lv' := [(0, .int (zI idn)), (1, .int (zI a)), (2, .ref (zad G 26 0)), (3, .ref (zad G 27 0)), (4, .ref (zad G 28 0)), (5, .ref (zad G 29 0)), (6, .ref (zad G 30 0)), (7, .ref (zad G 31 0)), (8, .ref (zad G 32 0)), (9, .ref (zad G 33 0)), (10, .ref (zad G 34 0)), (11, .ref (zad G 35 0)), (12, .ref (zad G 36 0)), (13, .int (zI f))]) [0, 1, 2, 3, 4, 5, 6, 7, 8, 9, 10, 11, 12, 13] rfl ?_
          exact J360_3 M f (by omega) (by intro s hs; have z1 := hW.2 s hs; omega) (by rfl) (by rfl) (by intro y M9 hy; rcases g1 with ⟨z1, -⟩ | ⟨j, z1, z2, z3⟩; omega; exact Or.inl ⟨f, by omega, by rw [show f.toNat = 8 * a.toNat + j by omega]; exact z3, hy⟩)
        have hno : ∀ j : Nat, j < 8 → ¬ jft M idn (8 * a.toNat + j) := by
          rcases g1 with ⟨-, z2⟩ | ⟨j, z1, z2, z3⟩
          · exact fun j hj => z2 j (by omega)
          · omega
        refine z_aload C 68 dL_packet_68 5 rfl ?_
        refine z_aload C 70 dL_packet_70 12 rfl ?_
        refine z_iload_n C 72 dL_packet_72 rfl 0 rfl ?_
        refine z_callSi C 73 (As := [.ref (zad G 29 0), .ref (zad G 36 0), .int (zI idn)]) (rest := []) (c_L_server l G M hB idn hid) (zS_of 3 C wm_L_117 wc_L_server wini_L wst_L_server ⟨by decide, by decide, by decide⟩ ⟨by decide, by decide⟩) rfl (Nat.le_of_ble_eq_true rfl) ⟨by decide, by decide⟩ dL_packet_73 rfl (fun zq27 Mz28 hzq27 hPz27 => ?_)
        obtain ⟨rfl, hPz27⟩ := hPz27
        obtain ⟨w9z, hw9z, hsvz⟩ := hPz27
        refine z_istore (lv' := [(14, .int (zI zq27)), (0, .int (zI idn)), (1, .int (zI a)), (2, .ref (zad G 26 0)), (3, .ref (zad G 27 0)), (4, .ref (zad G 28 0)), (5, .ref (zad G 29 0)), (6, .ref (zad G 30 0)), (7, .ref (zad G 31 0)), (8, .ref (zad G 32 0)), (9, .ref (zad G 33 0)), (10, .ref (zad G 34 0)), (11, .ref (zad G 35 0)), (12, .ref (zad G 36 0)), (13, .int (zI f))]) C 76 dL_packet_76 (by decide) rfl ?_
        refine z_aload C 78 dL_packet_78 13 rfl ?_
        refine z_iconst C 80 dL_packet_80 ?_
        refine z_ialdj C 81 (show 0 < 1 by omega) (zc36 ..) 5 rfl (by decide) (by omega) (show 5 < ((12 : Nat) : Int) by omega) dL_packet_81 (fun zq29 ezq29 hzq29 => ?_)
        have hsv := jsv_rg hB hw9z
        obtain ⟨dv84, hdv84⟩ : ∃ t : Int, t = zq29 / 2 ^ (zq27).toNat := ⟨_, rfl⟩
        have hdv9 := j_div2 (x := zq29) (j := (zq27).toNat) (by omega)
        rw [← hdv84] at hdv9
        refine z_iload C 82 dL_packet_82 0 rfl ?_
        refine z_ishr C 84 (v := dv84) dL_packet_84 (by rw [hdv84]; exact j_sar (by omega) (by omega) (by omega) (by omega) rfl) ?_
        refine z_iconst C 85 dL_packet_85 ?_
        refine z_iand C 86 (v := dv84 % 2) dL_packet_86 (j_mask (k := 1) (by omega) (by decide) rfl) ?_
        refine z_iconst C 87 dL_packet_87 ?_
        refine z_icmp_ne C 88 94 dL_packet_88 (by decide) (by first | assumption | omega) (by decide) (fun c88_412 => ?_) (fun c88_412 => ?_)
        · refine z_aload C 94 dL_packet_94 13 rfl ?_
          refine z_bipush C 96 dL_packet_96 (by decide +kernel) ?_
          refine z_iload C 98 dL_packet_98 0 rfl ?_
          refine z_iadd C 100 dL_packet_100 ?_
          refine z_dup2 C 101 dL_packet_101 rfl rfl ?_
          refine z_ialdj C 102 (show 0 < 1 by omega) (zc36 ..) ((8 + zq27).toNat) rfl (by first | assumption | omega) (by omega) (show (8 + zq27) < ((12 : Nat) : Int) by omega) dL_packet_102 (fun zq30 ezq30 hzq30 => ?_)
          refine z_iconst C 103 dL_packet_103 ?_
          refine z_iadd C 104 dL_packet_104 ?_
          refine z_iastj C 105 (show 0 < 1 by omega) (zc36 ..) ((8 + zq27).toNat) rfl (by first | assumption | omega) (by omega) (show (8 + zq27) < ((12 : Nat) : Int) by omega) (zc36 ..) dL_packet_105 ?_
          have hs8 := (hS.2 (zq27).toNat (by omega)).2.2
          generalize hMa : zup M 36 0 ((8 + zq27).toNat) (zI (zq30 + 1)) = Ma
          have fMa : ∀ κ j : Nat, ¬ (κ = 36 ∧ j = (8 + zq27).toNat) → zV Ma κ 0 j = zV M κ 0 j := fun κ j q => by rw [← hMa, zV_upg, if_neg (fun z => q ⟨z.1, z.2.2⟩)]
          have rMa : i_rf M Ma := by rw [← hMa]; exact (i_rf.r M).u (by decide)
          have hAa : iA n Ma Ma := iA_c hA (Nat.le_refl n) (fun κ i j h1 h2 => zV_of (rMa κ i j (by omega))) (fMa 36 3 (by omega)) (fun κ j h1 h2 => fMa κ j (by omega))
          refine z_aload_n C 106 dL_packet_106 rfl 3 rfl ?_
          refine z_aload_n C 107 dL_packet_107 rfl 4 rfl ?_
          refine z_aload C 108 dL_packet_108 13 rfl ?_
          refine z_iload_n C 110 dL_packet_110 rfl 1 rfl ?_
          refine z_callSi C 111 (As := [.ref (zad G 26 0), .ref (zad G 27 0), .ref (zad G 36 0), .int (zI idn)]) (rest := []) (c_L_mapping l G Ma hAa idn hid) (zS_of 4 C wm_L_121 wc_L_mapping wini_L wst_L_mapping ⟨by decide, by decide, by decide⟩ ⟨by decide, by decide⟩) rfl (Nat.le_of_ble_eq_true rfl) ⟨by decide, by decide⟩ dL_packet_111 rfl (fun zq31 Mz32 hzq31 hPz31 => ?_)
          obtain ⟨rfl, hPz31⟩ := hPz31
          refine z_istore (lv' := [(15, .int (zI zq31)), (14, .int (zI zq27)), (0, .int (zI idn)), (1, .int (zI a)), (2, .ref (zad G 26 0)), (3, .ref (zad G 27 0)), (4, .ref (zad G 28 0)), (5, .ref (zad G 29 0)), (6, .ref (zad G 30 0)), (7, .ref (zad G 31 0)), (8, .ref (zad G 32 0)), (9, .ref (zad G 33 0)), (10, .ref (zad G 34 0)), (11, .ref (zad G 35 0)), (12, .ref (zad G 36 0)), (13, .int (zI f))]) C 114 dL_packet_114 (by decide) rfl ?_
          refine z_aload_n C 116 dL_packet_116 rfl 4 rfl ?_
          refine z_aload_n C 117 dL_packet_117 rfl 5 rfl ?_
          refine z_aload C 118 dL_packet_118 14 rfl ?_
          refine z_iload_n C 120 dL_packet_120 rfl 2 rfl ?_
          refine z_iload C 121 dL_packet_121 0 rfl ?_
          refine z_callSi C 123 (As := [.ref (zad G 26 0), .ref (zad G 27 0), .ref (zad G 36 0), .int (zI idn), .int (zI zq31)]) (rest := []) (c_L_bits l G Ma hAa idn zq31 hid hPz31) (zS_of 5 C wm_L_125 wc_L_bits wini_L wst_L_bits ⟨by decide, by decide, by decide⟩ ⟨by decide, by decide⟩) rfl (Nat.le_of_ble_eq_true rfl) ⟨by decide, by decide⟩ dL_packet_123 rfl (fun zq33 Mz34 hzq33 hPz33 => ?_)
          obtain ⟨rfl, hPz33⟩ := hPz33
          refine z_istore (lv' := [(16, .int (zI zq33)), (15, .int (zI zq31)), (14, .int (zI zq27)), (0, .int (zI idn)), (1, .int (zI a)), (2, .ref (zad G 26 0)), (3, .ref (zad G 27 0)), (4, .ref (zad G 28 0)), (5, .ref (zad G 29 0)), (6, .ref (zad G 30 0)), (7, .ref (zad G 31 0)), (8, .ref (zad G 32 0)), (9, .ref (zad G 33 0)), (10, .ref (zad G 34 0)), (11, .ref (zad G 35 0)), (12, .ref (zad G 36 0)), (13, .int (zI f))]) C 126 dL_packet_126 (by decide) rfl ?_
          have hmm := zfnd_rg hPz31
          have hmn : zmn Ma = zV M 1 0 1 := zV_of (rMa 1 0 1 (by omega))
          have hn16 := hA.1
          have hLL : 0 ≤ zq33 ∧ zq33 ≤ 16 := ⟨by have z1 := hPz33.1; omega, hPz33.2.1⟩
          have hzf := zfb_rg (b := zq33) hid.1 hid.2 hLL.1 hLL.2
          have hWa : ∀ s : Nat, s < 16 → -1 ≤ zV Ma 30 0 s ∧ (0 ≤ zV Ma 30 0 s → zpfx (zV Ma 30 0 s / 32) (zV Ma 30 0 s % 32)) := fun s hs => by rw [fMa 30 s (by omega)]; exact hW.1 s hs
          refine z_bipush C 128 dL_packet_128 (by decide +kernel) ?_
          refine z_iload_n C 130 dL_packet_130 rfl 3 rfl ?_
          refine z_bipush C 131 dL_packet_131 (by decide +kernel) ?_
          refine z_iload C 133 dL_packet_133 0 rfl ?_
          refine z_isub C 135 dL_packet_135 ?_
          refine z_ishr C 136 (v := zfs idn zq33) dL_packet_136 (z_shr hid.1 hid.2 hLL.1 hLL.2) ?_
          refine z_bipush C 137 dL_packet_137 (by decide +kernel) ?_
          refine z_iload C 139 dL_packet_139 0 rfl ?_
          refine z_isub C 141 dL_packet_141 ?_
          refine z_ishl C 142 (v := zfb idn zq33) dL_packet_142 (z_shl hid.1 hid.2 hLL.1 hLL.2) ?_
          refine z_imul C 143 dL_packet_143 ?_
          refine z_iload C 144 dL_packet_144 0 rfl ?_
          refine z_iadd C 146 dL_packet_146 ?_
          refine z_istore (lv' := [(17, .int (zI ((32 * (zfb idn zq33)) + zq33))), (16, .int (zI zq33)), (15, .int (zI zq31)), (14, .int (zI zq27)), (0, .int (zI idn)), (1, .int (zI a)), (2, .ref (zad G 26 0)), (3, .ref (zad G 27 0)), (4, .ref (zad G 28 0)), (5, .ref (zad G 29 0)), (6, .ref (zad G 30 0)), (7, .ref (zad G 31 0)), (8, .ref (zad G 32 0)), (9, .ref (zad G 33 0)), (10, .ref (zad G 34 0)), (11, .ref (zad G 35 0)), (12, .ref (zad G 36 0)), (13, .int (zI f))]) C 147 dL_packet_147 (by decide) rfl ?_
          refine z_bipush C 149 dL_packet_149 (by decide +kernel) ?_
          refine z_iload_n C 151 dL_packet_151 rfl 5 rfl ?_
          refine z_imul C 152 dL_packet_152 ?_
          refine z_istore (lv' := [(18, .int (zI (8 * a))), (17, .int (zI ((32 * (zfb idn zq33)) + zq33))), (16, .int (zI zq33)), (15, .int (zI zq31)), (14, .int (zI zq27)), (0, .int (zI idn)), (1, .int (zI a)), (2, .ref (zad G 26 0)), (3, .ref (zad G 27 0)), (4, .ref (zad G 28 0)), (5, .ref (zad G 29 0)), (6, .ref (zad G 30 0)), (7, .ref (zad G 31 0)), (8, .ref (zad G 32 0)), (9, .ref (zad G 33 0)), (10, .ref (zad G 34 0)), (11, .ref (zad G 35 0)), (12, .ref (zad G 36 0)), (13, .int (zI f))]) C 153 dL_packet_153 (by decide) rfl ?_
          have L155_35 : ∀ (kz35 : Nat) (M1 : zMem) (k : Int), (8 * a ≤ k ∧ k ≤ 8 * a + 8) → (jclr Ma M1 a (zfb idn zq33) zq33 k) → (8 * a + 8 - k) < (kz35 : Int) → zZ p l e (zR 6 0 0) s m ([.int (zI idn), .int (zI a), .ref (zad G 26 0), .ref (zad G 27 0), .ref (zad G 28 0), .ref (zad G 29 0), .ref (zad G 30 0), .ref (zad G 31 0), .ref (zad G 32 0), .ref (zad G 33 0), .ref (zad G 34 0), .ref (zad G 35 0), .ref (zad G 36 0)] : List Value).toArray below meth c G 21 (MQ below (zQi G (fun y M' => jsnt M M' a idn y)) ([.int (zI idn), .int (zI a), .ref (zad G 26 0), .ref (zad G 27 0), .ref (zad G 28 0), .ref (zad G 29 0), .ref (zad G 30 0), .ref (zad G 31 0), .ref (zad G 32 0), .ref (zad G 33 0), .ref (zad G 34 0), .ref (zad G 35 0), .ref (zad G 36 0)] : List Value).toArray s 0 0 (zA G)) M1 0 0 155 [(17, .int (zI ((32 * (zfb idn zq33)) + zq33))), (16, .int (zI zq33)), (15, .int (zI zq31)), (14, .int (zI zq27)), (0, .int (zI idn)), (1, .int (zI a)), (2, .ref (zad G 26 0)), (3, .ref (zad G 27 0)), (4, .ref (zad G 28 0)), (5, .ref (zad G 29 0)), (6, .ref (zad G 30 0)), (7, .ref (zad G 31 0)), (8, .ref (zad G 32 0)), (9, .ref (zad G 33 0)), (10, .ref (zad G 34 0)), (11, .ref (zad G 35 0)), (12, .ref (zad G 36 0)), (13, .int (zI f)), (18, .int (zI k))] [] := by
            intro kz35
            induction kz35 with
            | zero =>
              intro M1 k f0 f1 hk
              exact absurd hk (by omega)
            | succ kz35 ihz36 =>
              intro M1 k f0 f1 hk
              refine z_iload C 155 dL_packet_155 18 rfl ?_
              refine z_bipush C 157 dL_packet_157 (by decide +kernel) ?_
              refine z_iload_n C 159 dL_packet_159 rfl 5 rfl ?_
              refine z_imul C 160 dL_packet_160 ?_
              refine z_bipush C 161 dL_packet_161 (by decide +kernel) ?_
              refine z_iadd C 163 dL_packet_163 ?_
              refine z_icmp_ge C 164 200 dL_packet_164 (by decide) (by first | assumption | omega) (by first | assumption | omega) (fun c164_481 => ?_) (fun c164_481 => ?_)
              · have f1e := f1
                rw [show k = 8 * a + 8 by omega] at f1e
                refine z_bipush C 200 dL_packet_200 (by decide +kernel) ?_
                refine z_iload_n C 202 dL_packet_202 rfl 5 rfl ?_
                refine z_imul C 203 dL_packet_203 ?_
                refine z_istore (lv' := [(18, .int (zI (8 * a))), (17, .int (zI ((32 * (zfb idn zq33)) + zq33))), (16, .int (zI zq33)), (15, .int (zI zq31)), (14, .int (zI zq27)), (0, .int (zI idn)), (1, .int (zI a)), (2, .ref (zad G 26 0)), (3, .ref (zad G 27 0)), (4, .ref (zad G 28 0)), (5, .ref (zad G 29 0)), (6, .ref (zad G 30 0)), (7, .ref (zad G 31 0)), (8, .ref (zad G 32 0)), (9, .ref (zad G 33 0)), (10, .ref (zad G 34 0)), (11, .ref (zad G 35 0)), (12, .ref (zad G 36 0)), (13, .int (zI f))]) C 204 dL_packet_204 (by decide) rfl ?_
                have L206_37 : ∀ (kz37 : Nat) (f : Int) (k : Int), (8 * a ≤ k ∧ k ≤ 8 * a + 8) → (f = -1 ∨ (8 * a ≤ f ∧ f < 8 * a + 8)) → (jfrk M1 a f k) → (8 * a + 8 - k) < (kz37 : Int) → zZ p l e (zR 6 0 0) s m ([.int (zI idn), .int (zI a), .ref (zad G 26 0), .ref (zad G 27 0), .ref (zad G 28 0), .ref (zad G 29 0), .ref (zad G 30 0), .ref (zad G 31 0), .ref (zad G 32 0), .ref (zad G 33 0), .ref (zad G 34 0), .ref (zad G 35 0), .ref (zad G 36 0)] : List Value).toArray below meth c G 21 (MQ below (zQi G (fun y M' => jsnt M M' a idn y)) ([.int (zI idn), .int (zI a), .ref (zad G 26 0), .ref (zad G 27 0), .ref (zad G 28 0), .ref (zad G 29 0), .ref (zad G 30 0), .ref (zad G 31 0), .ref (zad G 32 0), .ref (zad G 33 0), .ref (zad G 34 0), .ref (zad G 35 0), .ref (zad G 36 0)] : List Value).toArray s 0 0 (zA G)) M1 0 0 206 [(17, .int (zI ((32 * (zfb idn zq33)) + zq33))), (16, .int (zI zq33)), (15, .int (zI zq31)), (14, .int (zI zq27)), (0, .int (zI idn)), (1, .int (zI a)), (2, .ref (zad G 26 0)), (3, .ref (zad G 27 0)), (4, .ref (zad G 28 0)), (5, .ref (zad G 29 0)), (6, .ref (zad G 30 0)), (7, .ref (zad G 31 0)), (8, .ref (zad G 32 0)), (9, .ref (zad G 33 0)), (10, .ref (zad G 34 0)), (11, .ref (zad G 35 0)), (12, .ref (zad G 36 0)), (13, .int (zI f)), (18, .int (zI k))] [] := by
                  intro kz37
                  induction kz37 with
                  | zero =>
                    intro f k f2 f4 f3 hk
                    exact absurd hk (by omega)
                  | succ kz37 ihz38 =>
                    intro f k f2 f4 f3 hk
                    refine z_iload C 206 dL_packet_206 18 rfl ?_
                    refine z_bipush C 208 dL_packet_208 (by decide +kernel) ?_
                    refine z_iload_n C 210 dL_packet_210 rfl 5 rfl ?_
                    refine z_imul C 211 dL_packet_211 ?_
                    refine z_bipush C 212 dL_packet_212 (by decide +kernel) ?_
                    refine z_iadd C 214 dL_packet_214 ?_
                    refine z_icmp_ge C 215 241 dL_packet_215 (by decide) (by first | assumption | omega) (by first | assumption | omega) (fun c215_503 => ?_) (fun c215_503 => ?_)
                    · have J257_39 : ∀ (f : Int), (jchs M1 a f) → zZ p l e (zR 6 0 0) s m ([.int (zI idn), .int (zI a), .ref (zad G 26 0), .ref (zad G 27 0), .ref (zad G 28 0), .ref (zad G 29 0), .ref (zad G 30 0), .ref (zad G 31 0), .ref (zad G 32 0), .ref (zad G 33 0), .ref (zad G 34 0), .ref (zad G 35 0), .ref (zad G 36 0)] : List Value).toArray below meth c G 21 (MQ below (zQi G (fun y M' => jsnt M M' a idn y)) ([.int (zI idn), .int (zI a), .ref (zad G 26 0), .ref (zad G 27 0), .ref (zad G 28 0), .ref (zad G 29 0), .ref (zad G 30 0), .ref (zad G 31 0), .ref (zad G 32 0), .ref (zad G 33 0), .ref (zad G 34 0), .ref (zad G 35 0), .ref (zad G 36 0)] : List Value).toArray s 0 0 (zA G)) M1 0 0 257 [(17, .int (zI ((32 * (zfb idn zq33)) + zq33))), (15, .int (zI zq31)), (0, .int (zI idn)), (1, .int (zI a)), (2, .ref (zad G 26 0)), (3, .ref (zad G 27 0)), (4, .ref (zad G 28 0)), (5, .ref (zad G 29 0)), (6, .ref (zad G 30 0)), (7, .ref (zad G 31 0)), (8, .ref (zad G 32 0)), (9, .ref (zad G 33 0)), (10, .ref (zad G 34 0)), (11, .ref (zad G 35 0)), (12, .ref (zad G 36 0)), (13, .int (zI f))] [] := by
                        intro f hch
                        have hch1 := hch.1
                        have fM1 : ∀ κ j : Nat, κ ≠ 30 → zV M1 κ 0 j = zV Ma κ 0 j := fun κ j q => zV_of (f1e.2 κ 0 j (by omega))
                        refine z_aload C 257 dL_packet_257 8 rfl ?_
                        refine z_iload C 259 dL_packet_259 15 rfl ?_
                        refine z_iload C 261 dL_packet_261 0 rfl ?_
                        refine z_iastj C 263 (show 0 < 1 by omega) (zc30 ..) f.toNat rfl (by first | assumption | omega) (by omega) (show f < ((16 : Nat) : Int) by omega) (zc30 ..) dL_packet_263 ?_
                        refine z_aload C 264 dL_packet_264 9 rfl ?_
                        refine z_iload C 266 dL_packet_266 15 rfl ?_
                        have J289_40 : ∀ (v : Int), (v = if zq31 < 0 then 0 else 32 * zV Ma 27 0 (zq31).toNat + zq31 + 1) → (0 ≤ v ∧ v < 10000) → zZ p l e (zR 6 0 0) s m ([.int (zI idn), .int (zI a), .ref (zad G 26 0), .ref (zad G 27 0), .ref (zad G 28 0), .ref (zad G 29 0), .ref (zad G 30 0), .ref (zad G 31 0), .ref (zad G 32 0), .ref (zad G 33 0), .ref (zad G 34 0), .ref (zad G 35 0), .ref (zad G 36 0)] : List Value).toArray below meth c G 21 (MQ below (zQi G (fun y M' => jsnt M M' a idn y)) ([.int (zI idn), .int (zI a), .ref (zad G 26 0), .ref (zad G 27 0), .ref (zad G 28 0), .ref (zad G 29 0), .ref (zad G 30 0), .ref (zad G 31 0), .ref (zad G 32 0), .ref (zad G 33 0), .ref (zad G 34 0), .ref (zad G 35 0), .ref (zad G 36 0)] : List Value).toArray s 0 0 (zA G)) (zup M1 30 0 f.toNat (zI ((32 * (zfb idn zq33)) + zq33))) 0 0 289 [(17, .int (zI ((32 * (zfb idn zq33)) + zq33))), (15, .int (zI zq31)), (0, .int (zI idn)), (1, .int (zI a)), (2, .ref (zad G 26 0)), (3, .ref (zad G 27 0)), (4, .ref (zad G 28 0)), (5, .ref (zad G 29 0)), (6, .ref (zad G 30 0)), (7, .ref (zad G 31 0)), (8, .ref (zad G 32 0)), (9, .ref (zad G 33 0)), (10, .ref (zad G 34 0)), (11, .ref (zad G 35 0)), (12, .ref (zad G 36 0)), (13, .int (zI f))] [.int (zI v), .int (zI f), .ref (zad G 31 0)] := by
                          intro v hv hv2
                          refine z_iastj C 289 (show 0 < 1 by omega) (zc31 ..) f.toNat rfl (by first | assumption | omega) (by omega) (show f < ((16 : Nat) : Int) by omega) (zc31 ..) dL_packet_289 ?_
                          have hga0 := fMa 36 0 (by omega)
                          have hga1 := fMa 36 1 (by omega)
                          have hga2 := fMa 36 2 (by omega)
                          have hgb0 := fM1 36 0 (by decide)
                          have hgb1 := fM1 36 1 (by decide)
                          have hgb2 := fM1 36 2 (by decide)
                          refine z_aload C 290 dL_packet_290 10 rfl ?_
                          refine z_iload C 292 dL_packet_292 15 rfl ?_
                          refine z_aload C 294 dL_packet_294 14 rfl ?_
                          refine z_iconst C 296 dL_packet_296 ?_
                          refine z_ialdj C 297 (show 0 < 1 by omega) (zc36 ..) 0 rfl (by decide) (by omega) (show 0 < ((12 : Nat) : Int) by omega) dL_packet_297 (fun zq41 ezq41 hzq41 => ?_)
                          rw [zV_ne (by decide)] at ezq41
                          rw [zV_ne (by decide)] at ezq41
                          have J314_42 : ∀ (e8 : Int), (e8 = if zq31 < 0 then zV Ma 36 0 2 else zV Ma 36 0 1) → (1 ≤ e8 ∧ e8 ≤ 1000) → zZ p l e (zR 6 0 0) s m ([.int (zI idn), .int (zI a), .ref (zad G 26 0), .ref (zad G 27 0), .ref (zad G 28 0), .ref (zad G 29 0), .ref (zad G 30 0), .ref (zad G 31 0), .ref (zad G 32 0), .ref (zad G 33 0), .ref (zad G 34 0), .ref (zad G 35 0), .ref (zad G 36 0)] : List Value).toArray below meth c G 21 (MQ below (zQi G (fun y M' => jsnt M M' a idn y)) ([.int (zI idn), .int (zI a), .ref (zad G 26 0), .ref (zad G 27 0), .ref (zad G 28 0), .ref (zad G 29 0), .ref (zad G 30 0), .ref (zad G 31 0), .ref (zad G 32 0), .ref (zad G 33 0), .ref (zad G 34 0), .ref (zad G 35 0), .ref (zad G 36 0)] : List Value).toArray s 0 0 (zA G)) (zup (zup M1 30 0 f.toNat (zI ((32 * (zfb idn zq33)) + zq33))) 31 0 f.toNat (zI v)) 0 0 314 [(17, .int (zI ((32 * (zfb idn zq33)) + zq33))), (15, .int (zI zq31)), (0, .int (zI idn)), (1, .int (zI a)), (2, .ref (zad G 26 0)), (3, .ref (zad G 27 0)), (4, .ref (zad G 28 0)), (5, .ref (zad G 29 0)), (6, .ref (zad G 30 0)), (7, .ref (zad G 31 0)), (8, .ref (zad G 32 0)), (9, .ref (zad G 33 0)), (10, .ref (zad G 34 0)), (11, .ref (zad G 35 0)), (12, .ref (zad G 36 0)), (13, .int (zI f))] [.int (zI e8), .int (zI zq41), .int (zI f), .ref (zad G 32 0)] := by
                            intro e8 he8 he7
                            refine z_iadd C 314 dL_packet_314 ?_
                            refine z_iastj C 315 (show 0 < 1 by omega) (zc32 ..) f.toNat rfl (by first | assumption | omega) (by omega) (show f < ((16 : Nat) : Int) by omega) (zc32 ..) dL_packet_315 ?_
                            have hlb : ∀ s : Nat, s < 64 → 0 ≤ zV M1 28 0 s ∧ zV M1 28 0 s ≤ 2047 := fun s hs => by rw [fM1 28 s (by decide)]; exact iA_lb hAa hs
                            refine z_iconst C 316 dL_packet_316 ?_
                            refine z_istore (lv' := [(18, .int (zI 0)), (17, .int (zI ((32 * (zfb idn zq33)) + zq33))), (15, .int (zI zq31)), (0, .int (zI idn)), (1, .int (zI a)), (2, .ref (zad G 26 0)), (3, .ref (zad G 27 0)), (4, .ref (zad G 28 0)), (5, .ref (zad G 29 0)), (6, .ref (zad G 30 0)), (7, .ref (zad G 31 0)), (8, .ref (zad G 32 0)), (9, .ref (zad G 33 0)), (10, .ref (zad G 34 0)), (11, .ref (zad G 35 0)), (12, .ref (zad G 36 0)), (13, .int (zI f))]) C 317 dL_packet_317 (by decide) rfl ?_
                            have L319_43 : ∀ (kz43 : Nat) (M4 : zMem) (k : Int), (0 ≤ k ∧ k ≤ 4) → (jcp (jset M1 f (32 * zfb idn zq33 + zq33) v (zq41 + e8)) M4 f zq31 k) → (4 - k) < (kz43 : Int) → zZ p l e (zR 6 0 0) s m ([.int (zI idn), .int (zI a), .ref (zad G 26 0), .ref (zad G 27 0), .ref (zad G 28 0), .ref (zad G 29 0), .ref (zad G 30 0), .ref (zad G 31 0), .ref (zad G 32 0), .ref (zad G 33 0), .ref (zad G 34 0), .ref (zad G 35 0), .ref (zad G 36 0)] : List Value).toArray below meth c G 21 (MQ below (zQi G (fun y M' => jsnt M M' a idn y)) ([.int (zI idn), .int (zI a), .ref (zad G 26 0), .ref (zad G 27 0), .ref (zad G 28 0), .ref (zad G 29 0), .ref (zad G 30 0), .ref (zad G 31 0), .ref (zad G 32 0), .ref (zad G 33 0), .ref (zad G 34 0), .ref (zad G 35 0), .ref (zad G 36 0)] : List Value).toArray s 0 0 (zA G)) M4 0 0 319 [(17, .int (zI ((32 * (zfb idn zq33)) + zq33))), (15, .int (zI zq31)), (0, .int (zI idn)), (1, .int (zI a)), (2, .ref (zad G 26 0)), (3, .ref (zad G 27 0)), (4, .ref (zad G 28 0)), (5, .ref (zad G 29 0)), (6, .ref (zad G 30 0)), (7, .ref (zad G 31 0)), (8, .ref (zad G 32 0)), (9, .ref (zad G 33 0)), (10, .ref (zad G 34 0)), (11, .ref (zad G 35 0)), (12, .ref (zad G 36 0)), (13, .int (zI f)), (18, .int (zI k))] [] := by
                              intro kz43
                              induction kz43 with
                              | zero =>
                                intro M4 k p0 p1 hk
                                exact absurd hk (by omega)
                              | succ kz43 ihz44 =>
                                intro M4 k p0 p1 hk
                                refine z_iload C 319 dL_packet_319 16 rfl ?_
                                refine z_iconst C 321 dL_packet_321 ?_
                                refine z_icmp_ge C 322 360 dL_packet_322 (by decide) (by first | assumption | omega) (by decide) (fun c322_548 => ?_) (fun c322_548 => ?_)
                                · have p4 := p1
                                  rw [show k = 4 by omega] at p4
                                  have hnb := jcp_nb (B := 247807) (by omega) (by omega) p4 (fun s hs => by rw [jset_o (by omega), fM1 34 s (by decide), fMa 34 s (by omega)]; have z1 := hW.2 s hs; omega) (fun s hs => by rw [jset_o (by omega)]; exact hlb s hs) (by decide) (by decide)
                                  have hN7 : zV M4 36 0 7 = zV M 36 0 7 := by rw [zV_of (p4.2 36 0 7 (by omega)), jset_o (by omega), fM1 36 7 (by decide), fMa 36 7 (by omega)]
                                  have hNa : zV M4 35 0 a.toNat = zV M 35 0 a.toNat := by rw [zV_of (p4.2 35 0 a.toNat (by omega)), jset_o (by omega), fM1 35 _ (by decide), fMa 35 _ (by omega)]
                                  rw [hv, he8, show zq41 = zV Ma 36 0 0 by omega] at p4
                                  have hKK : ∀ (y : Int) (M9 : zMem), jfin M4 M9 a f y → jsnt M M9 a idn y := fun y M9 hy => Or.inr ⟨hno, w9z, zq27, hw9z, hsvz, Or.inr ⟨by rw [← ezq29, ← hdv84]; omega, f, M4, by rw [← ezq30, hMa]; exact ⟨zq31, zq33, M1, hPz31, hPz33, f1e, hch, p4⟩, hy⟩⟩
                                  refine z_sub (lv' := [(0, .int (zI idn)), (1, .int (zI a)), (2, .ref (zad G 26 0)), (3, .ref (zad G 27 0)), (4, .ref (zad G 28 0)), (5, .ref (zad G 29 0)), (6, .ref (zad G 30 0)), (7, .ref (zad G 31 0)), (8, .ref (zad G 32 0)), (9, .ref (zad G 33 0)), (10, .ref (zad G 34 0)), (11, .ref (zad G 35 0)), (12, .ref (zad G 36 0)), (13, .int (zI f))]) [2, 3, 4, 5, 6, 7, 8, 9, 10, 11, 12, 13, 14, 15] rfl ?_
                                  exact J360_3 M4 f (by omega) (by exact hnb) (by exact hN7) (by exact hNa) (by exact hKK)
                                refine z_aload C 325 dL_packet_325 12 rfl ?_
                                refine z_iconst C 327 dL_packet_327 ?_
                                refine z_iload C 328 dL_packet_328 15 rfl ?_
                                refine z_imul C 330 dL_packet_330 ?_
                                refine z_iload C 331 dL_packet_331 16 rfl ?_
                                refine z_iadd C 333 dL_packet_333 ?_
                                refine z_iload C 334 dL_packet_334 1 rfl ?_
                                refine z_if_ge C 336 343 dL_packet_336 (by decide) hzq31 (fun c336_565 => ?_) (fun c336_565 => ?_)
                                · refine z_aload C 343 dL_packet_343 6 rfl ?_
                                  refine z_iconst C 345 dL_packet_345 ?_
                                  refine z_iload C 346 dL_packet_346 1 rfl ?_
                                  refine z_imul C 348 dL_packet_348 ?_
                                  refine z_iload C 349 dL_packet_349 16 rfl ?_
                                  refine z_iadd C 351 dL_packet_351 ?_
                                  refine z_ialdj C 352 (show 0 < 1 by omega) (zc28 ..) (((4 * zq31) + k).toNat) rfl (by first | assumption | omega) (by omega) (show ((4 * zq31) + k) < ((64 : Nat) : Int) by omega) dL_packet_352 (fun zq45 ezq45 hzq45 => ?_)
                                  refine z_iastj C 353 (show 0 < 1 by omega) (zc34 ..) (((4 * f) + k).toNat) rfl (by first | assumption | omega) (by omega) (show ((4 * f) + k) < ((64 : Nat) : Int) by omega) (zc34 ..) dL_packet_353 ?_
                                  refine z_iinc (lv' := [(18, .int (zI (k + 1))), (17, .int (zI ((32 * (zfb idn zq33)) + zq33))), (15, .int (zI zq31)), (0, .int (zI idn)), (1, .int (zI a)), (2, .ref (zad G 26 0)), (3, .ref (zad G 27 0)), (4, .ref (zad G 28 0)), (5, .ref (zad G 29 0)), (6, .ref (zad G 30 0)), (7, .ref (zad G 31 0)), (8, .ref (zad G 32 0)), (9, .ref (zad G 33 0)), (10, .ref (zad G 34 0)), (11, .ref (zad G 35 0)), (12, .ref (zad G 36 0)), (13, .int (zI f))]) C 354 dL_packet_354 16 rfl (by decide) rfl ?_
                                  refine z_goto C 357 319 dL_packet_357 (by decide) ?_
                                  refine z_sub (lv' := [(17, .int (zI ((32 * (zfb idn zq33)) + zq33))), (15, .int (zI zq31)), (0, .int (zI idn)), (1, .int (zI a)), (2, .ref (zad G 26 0)), (3, .ref (zad G 27 0)), (4, .ref (zad G 28 0)), (5, .ref (zad G 29 0)), (6, .ref (zad G 30 0)), (7, .ref (zad G 31 0)), (8, .ref (zad G 32 0)), (9, .ref (zad G 33 0)), (10, .ref (zad G 34 0)), (11, .ref (zad G 35 0)), (12, .ref (zad G 36 0)), (13, .int (zI f)), (18, .int (zI (k + 1)))]) [1, 2, 3, 4, 5, 6, 7, 8, 9, 10, 11, 12, 13, 14, 15, 16, 0] rfl ?_
                                  exact ihz44 (zup M4 34 0 (((4 * f) + k).toNat) (zI zq45)) (k + 1) (by omega) (by refine jcp_1 (by omega) p0.1 p1 ?_ (by first | decide | assumption); rw [if_neg (by omega), ezq45, zV_of (p1.2 28 0 _ (by omega))]) (by omega)
                                refine z_iconst C 339 dL_packet_339 ?_
                                refine z_goto C 340 353 dL_packet_340 (by decide) ?_
                                refine z_iastj C 353 (show 0 < 1 by omega) (zc34 ..) (((4 * f) + k).toNat) rfl (by first | assumption | omega) (by omega) (show ((4 * f) + k) < ((64 : Nat) : Int) by omega) (zc34 ..) dL_packet_353 ?_
                                refine z_iinc (lv' := [(18, .int (zI (k + 1))), (17, .int (zI ((32 * (zfb idn zq33)) + zq33))), (15, .int (zI zq31)), (0, .int (zI idn)), (1, .int (zI a)), (2, .ref (zad G 26 0)), (3, .ref (zad G 27 0)), (4, .ref (zad G 28 0)), (5, .ref (zad G 29 0)), (6, .ref (zad G 30 0)), (7, .ref (zad G 31 0)), (8, .ref (zad G 32 0)), (9, .ref (zad G 33 0)), (10, .ref (zad G 34 0)), (11, .ref (zad G 35 0)), (12, .ref (zad G 36 0)), (13, .int (zI f))]) C 354 dL_packet_354 16 rfl (by decide) rfl ?_
                                refine z_goto C 357 319 dL_packet_357 (by decide) ?_
                                refine z_sub (lv' := [(17, .int (zI ((32 * (zfb idn zq33)) + zq33))), (15, .int (zI zq31)), (0, .int (zI idn)), (1, .int (zI a)), (2, .ref (zad G 26 0)), (3, .ref (zad G 27 0)), (4, .ref (zad G 28 0)), (5, .ref (zad G 29 0)), (6, .ref (zad G 30 0)), (7, .ref (zad G 31 0)), (8, .ref (zad G 32 0)), (9, .ref (zad G 33 0)), (10, .ref (zad G 34 0)), (11, .ref (zad G 35 0)), (12, .ref (zad G 36 0)), (13, .int (zI f)), (18, .int (zI (k + 1)))]) [1, 2, 3, 4, 5, 6, 7, 8, 9, 10, 11, 12, 13, 14, 15, 16, 0] rfl ?_
                                exact ihz44 (zup M4 34 0 (((4 * f) + k).toNat) (zI 0)) (k + 1) (by omega) (by refine jcp_1 (by omega) p0.1 p1 ?_ (by first | decide | assumption); rw [if_pos (by omega)]) (by omega)
                            refine z_sub (lv' := [(17, .int (zI ((32 * (zfb idn zq33)) + zq33))), (15, .int (zI zq31)), (0, .int (zI idn)), (1, .int (zI a)), (2, .ref (zad G 26 0)), (3, .ref (zad G 27 0)), (4, .ref (zad G 28 0)), (5, .ref (zad G 29 0)), (6, .ref (zad G 30 0)), (7, .ref (zad G 31 0)), (8, .ref (zad G 32 0)), (9, .ref (zad G 33 0)), (10, .ref (zad G 34 0)), (11, .ref (zad G 35 0)), (12, .ref (zad G 36 0)), (13, .int (zI f)), (18, .int (zI 0))]) [1, 2, 3, 4, 5, 6, 7, 8, 9, 10, 11, 12, 13, 14, 15, 16, 0] rfl ?_
                            exact L319_43 (((4 - 0 : Int)).toNat + 1) (zup (zup (zup M1 30 0 f.toNat (zI ((32 * (zfb idn zq33)) + zq33))) 31 0 f.toNat (zI v)) 32 0 f.toNat (zI (zq41 + e8))) 0 (by omega) (by exact jcp_0 _ _ _) (by omega)
                          refine z_iload C 298 dL_packet_298 1 rfl ?_
                          refine z_if_ge C 300 310 dL_packet_300 (by decide) hzq31 (fun c300_588 => ?_) (fun c300_588 => ?_)
                          · refine z_aload C 310 dL_packet_310 14 rfl ?_
                            refine z_iconst C 312 dL_packet_312 ?_
                            refine z_ialdj C 313 (show 0 < 1 by omega) (zc36 ..) 1 rfl (by decide) (by omega) (show 1 < ((12 : Nat) : Int) by omega) dL_packet_313 (fun zq46 ezq46 hzq46 => ?_)
                            rw [zV_ne (by decide)] at ezq46
                            rw [zV_ne (by decide)] at ezq46
                            exact J314_42 zq46 (by first | (rw [if_pos (by omega)]; omega) | (rw [if_neg (by omega)]; omega)) (by omega)
                          refine z_aload C 303 dL_packet_303 14 rfl ?_
                          refine z_iconst C 305 dL_packet_305 ?_
                          refine z_ialdj C 306 (show 0 < 1 by omega) (zc36 ..) 2 rfl (by decide) (by omega) (show 2 < ((12 : Nat) : Int) by omega) dL_packet_306 (fun zq47 ezq47 hzq47 => ?_)
                          rw [zV_ne (by decide)] at ezq47
                          rw [zV_ne (by decide)] at ezq47
                          refine z_goto C 307 314 dL_packet_307 (by decide) ?_
                          exact J314_42 zq47 (by first | (rw [if_pos (by omega)]; omega) | (rw [if_neg (by omega)]; omega)) (by omega)
                        refine z_iload C 268 dL_packet_268 1 rfl ?_
                        refine z_if_ge C 270 277 dL_packet_270 (by decide) hzq31 (fun c270_603 => ?_) (fun c270_603 => ?_)
                        · have htm := (hAa.2.2.1 (zq31).toNat (by omega)).1
                          have htm2 := (hAa.2.2.1 (zq31).toNat (by omega)).2.1 (by have z1 : zV Ma 1 0 1 = zV M 1 0 1 := hmn; omega)
                          have htm3 := (iA_m hAa (i := (zq31).toNat) (by have z1 : zV Ma 1 0 1 = zV M 1 0 1 := hmn; omega)).2.2.2.2
                          have htm4 : zV Ma 27 0 (zq31).toNat ≤ 121 := by
                            rw [htm2.2]
                            split <;> omega
                          have htm5 := fM1 27 (zq31).toNat (by decide)
                          refine z_bipush C 277 dL_packet_277 (by decide +kernel) ?_
                          refine z_aload_n C 279 dL_packet_279 rfl 5 rfl ?_
                          refine z_iload C 280 dL_packet_280 1 rfl ?_
                          refine z_ialdj C 282 (show 0 < 1 by omega) (zc27 ..) zq31.toNat rfl hzq31 (by omega) (show zq31 < ((16 : Nat) : Int) by omega) dL_packet_282 (fun zq48 ezq48 hzq48 => ?_)
                          rw [zV_ne (by decide)] at ezq48
                          refine z_imul C 283 dL_packet_283 ?_
                          refine z_iload C 284 dL_packet_284 1 rfl ?_
                          refine z_iadd C 286 dL_packet_286 ?_
                          refine z_iconst C 287 dL_packet_287 ?_
                          refine z_iadd C 288 dL_packet_288 ?_
                          exact J289_40 (((32 * zq48) + zq31) + 1) (by rw [if_neg (by omega), ezq48, zV_of (f1.2 27 0 _ (by omega))]) (by omega)
                        refine z_iconst C 273 dL_packet_273 ?_
                        refine z_goto C 274 289 dL_packet_274 (by decide) ?_
                        exact J289_40 0 (by rw [if_pos (by omega)]) (by omega)
                      refine z_iload C 241 dL_packet_241 17 rfl ?_
                      refine z_if_ge C 243 257 dL_packet_243 (by decide) (by first | assumption | omega) (fun c243_626 => ?_) (fun c243_626 => ?_)
                      · refine z_sub (lv' := [(17, .int (zI ((32 * (zfb idn zq33)) + zq33))), (15, .int (zI zq31)), (0, .int (zI idn)), (1, .int (zI a)), (2, .ref (zad G 26 0)), (3, .ref (zad G 27 0)), (4, .ref (zad G 28 0)), (5, .ref (zad G 29 0)), (6, .ref (zad G 30 0)), (7, .ref (zad G 31 0)), (8, .ref (zad G 32 0)), (9, .ref (zad G 33 0)), (10, .ref (zad G 34 0)), (11, .ref (zad G 35 0)), (12, .ref (zad G 36 0)), (13, .int (zI f))]) [0, 2, 4, 5, 6, 7, 8, 9, 10, 11, 12, 13, 14, 15, 16, 17] rfl ?_
                        exact J257_39 f (by exact jchs_f (by rw [show 8 * a + 8 = k by omega]; exact f3) (by omega))
                      refine z_aload C 246 dL_packet_246 10 rfl ?_
                      refine z_aload C 248 dL_packet_248 13 rfl ?_
                      refine z_iload_n C 250 dL_packet_250 rfl 5 rfl ?_
                      refine z_iconst C 251 dL_packet_251 ?_
                      refine z_callSi C 252 (As := [.ref (zad G 30 0), .ref (zad G 33 0), .int (zI a), .int (zI 0)]) (rest := []) (c_L_entry l G M1 a ha 0 (by decide)) (zS_of 4 C wm_L_129 wc_L_entry wini_L wst_L_entry ⟨by decide, by decide, by decide⟩ ⟨by decide, by decide⟩) rfl (Nat.le_of_ble_eq_true rfl) ⟨by decide, by decide⟩ dL_packet_252 rfl (fun zq49 Mz50 hzq49 hPz49 => ?_)
                      obtain ⟨rfl, hPz49⟩ := hPz49
                      refine z_istore (lv' := [(13, .int (zI zq49)), (17, .int (zI ((32 * (zfb idn zq33)) + zq33))), (16, .int (zI zq33)), (15, .int (zI zq31)), (14, .int (zI zq27)), (0, .int (zI idn)), (1, .int (zI a)), (2, .ref (zad G 26 0)), (3, .ref (zad G 27 0)), (4, .ref (zad G 28 0)), (5, .ref (zad G 29 0)), (6, .ref (zad G 30 0)), (7, .ref (zad G 31 0)), (8, .ref (zad G 32 0)), (9, .ref (zad G 33 0)), (10, .ref (zad G 34 0)), (11, .ref (zad G 35 0)), (12, .ref (zad G 36 0)), (18, .int (zI k))]) C 255 dL_packet_255 (by decide) rfl ?_
                      refine z_sub (lv' := [(17, .int (zI ((32 * (zfb idn zq33)) + zq33))), (15, .int (zI zq31)), (0, .int (zI idn)), (1, .int (zI a)), (2, .ref (zad G 26 0)), (3, .ref (zad G 27 0)), (4, .ref (zad G 28 0)), (5, .ref (zad G 29 0)), (6, .ref (zad G 30 0)), (7, .ref (zad G 31 0)), (8, .ref (zad G 32 0)), (9, .ref (zad G 33 0)), (10, .ref (zad G 34 0)), (11, .ref (zad G 35 0)), (12, .ref (zad G 36 0)), (13, .int (zI zq49))]) [1, 3, 5, 6, 7, 8, 9, 10, 11, 12, 13, 14, 15, 16, 17, 0] rfl ?_
                      exact J257_39 zq49 (by rcases f3 with ⟨z1, z2⟩ | z1; exact jchs_e ha.1 (fun s h1 h2 => z2 s h1 (by omega)) hPz49; omega)
                    refine z_aload C 218 dL_packet_218 10 rfl ?_
                    refine z_iload C 220 dL_packet_220 18 rfl ?_
                    refine z_ialdj C 222 (show 0 < 1 by omega) (zc30 ..) k.toNat rfl (by first | assumption | omega) (by omega) (show k < ((16 : Nat) : Int) by omega) dL_packet_222 (fun zq51 ezq51 hzq51 => ?_)
                    refine z_if_ge C 223 231 dL_packet_223 (by decide) hzq51 (fun c223_640 => ?_) (fun c223_640 => ?_)
                    · refine z_iload C 231 dL_packet_231 17 rfl ?_
                      refine z_istore (lv' := [(13, .int (zI f)), (17, .int (zI ((32 * (zfb idn zq33)) + zq33))), (16, .int (zI zq33)), (15, .int (zI zq31)), (14, .int (zI zq27)), (0, .int (zI idn)), (1, .int (zI a)), (2, .ref (zad G 26 0)), (3, .ref (zad G 27 0)), (4, .ref (zad G 28 0)), (5, .ref (zad G 29 0)), (6, .ref (zad G 30 0)), (7, .ref (zad G 31 0)), (8, .ref (zad G 32 0)), (9, .ref (zad G 33 0)), (10, .ref (zad G 34 0)), (11, .ref (zad G 35 0)), (12, .ref (zad G 36 0)), (18, .int (zI k))]) C 233 dL_packet_233 (by decide) rfl ?_
                      refine z_iinc (lv' := [(18, .int (zI (k + 1))), (13, .int (zI f)), (17, .int (zI ((32 * (zfb idn zq33)) + zq33))), (16, .int (zI zq33)), (15, .int (zI zq31)), (14, .int (zI zq27)), (0, .int (zI idn)), (1, .int (zI a)), (2, .ref (zad G 26 0)), (3, .ref (zad G 27 0)), (4, .ref (zad G 28 0)), (5, .ref (zad G 29 0)), (6, .ref (zad G 30 0)), (7, .ref (zad G 31 0)), (8, .ref (zad G 32 0)), (9, .ref (zad G 33 0)), (10, .ref (zad G 34 0)), (11, .ref (zad G 35 0)), (12, .ref (zad G 36 0))]) C 235 dL_packet_235 18 rfl (by decide) rfl ?_
                      refine z_goto C 238 206 dL_packet_238 (by decide) ?_
                      refine z_sub (lv' := [(17, .int (zI ((32 * (zfb idn zq33)) + zq33))), (16, .int (zI zq33)), (15, .int (zI zq31)), (14, .int (zI zq27)), (0, .int (zI idn)), (1, .int (zI a)), (2, .ref (zad G 26 0)), (3, .ref (zad G 27 0)), (4, .ref (zad G 28 0)), (5, .ref (zad G 29 0)), (6, .ref (zad G 30 0)), (7, .ref (zad G 31 0)), (8, .ref (zad G 32 0)), (9, .ref (zad G 33 0)), (10, .ref (zad G 34 0)), (11, .ref (zad G 35 0)), (12, .ref (zad G 36 0)), (13, .int (zI f)), (18, .int (zI (k + 1)))]) [2, 3, 4, 5, 6, 7, 8, 9, 10, 11, 12, 13, 14, 15, 16, 17, 18, 1, 0] rfl ?_
                      exact ihz38 f (k + 1) (by omega) (by omega) (by exact jfrk_f f3 (by omega)) (by omega)
                    refine z_iload C 226 dL_packet_226 18 rfl ?_
                    refine z_goto C 228 233 dL_packet_228 (by decide) ?_
                    refine z_istore (lv' := [(13, .int (zI k)), (17, .int (zI ((32 * (zfb idn zq33)) + zq33))), (16, .int (zI zq33)), (15, .int (zI zq31)), (14, .int (zI zq27)), (0, .int (zI idn)), (1, .int (zI a)), (2, .ref (zad G 26 0)), (3, .ref (zad G 27 0)), (4, .ref (zad G 28 0)), (5, .ref (zad G 29 0)), (6, .ref (zad G 30 0)), (7, .ref (zad G 31 0)), (8, .ref (zad G 32 0)), (9, .ref (zad G 33 0)), (10, .ref (zad G 34 0)), (11, .ref (zad G 35 0)), (12, .ref (zad G 36 0)), (18, .int (zI k))]) C 233 dL_packet_233 (by decide) rfl ?_
                    refine z_iinc (lv' := [(18, .int (zI (k + 1))), (13, .int (zI k)), (17, .int (zI ((32 * (zfb idn zq33)) + zq33))), (16, .int (zI zq33)), (15, .int (zI zq31)), (14, .int (zI zq27)), (0, .int (zI idn)), (1, .int (zI a)), (2, .ref (zad G 26 0)), (3, .ref (zad G 27 0)), (4, .ref (zad G 28 0)), (5, .ref (zad G 29 0)), (6, .ref (zad G 30 0)), (7, .ref (zad G 31 0)), (8, .ref (zad G 32 0)), (9, .ref (zad G 33 0)), (10, .ref (zad G 34 0)), (11, .ref (zad G 35 0)), (12, .ref (zad G 36 0))]) C 235 dL_packet_235 18 rfl (by decide) rfl ?_
                    refine z_goto C 238 206 dL_packet_238 (by decide) ?_
                    refine z_sub (lv' := [(17, .int (zI ((32 * (zfb idn zq33)) + zq33))), (16, .int (zI zq33)), (15, .int (zI zq31)), (14, .int (zI zq27)), (0, .int (zI idn)), (1, .int (zI a)), (2, .ref (zad G 26 0)), (3, .ref (zad G 27 0)), (4, .ref (zad G 28 0)), (5, .ref (zad G 29 0)), (6, .ref (zad G 30 0)), (7, .ref (zad G 31 0)), (8, .ref (zad G 32 0)), (9, .ref (zad G 33 0)), (10, .ref (zad G 34 0)), (11, .ref (zad G 35 0)), (12, .ref (zad G 36 0)), (13, .int (zI k)), (18, .int (zI (k + 1)))]) [2, 3, 4, 5, 6, 7, 8, 9, 10, 11, 12, 13, 14, 15, 16, 17, 18, 1, 0] rfl ?_
                    exact ihz38 k (k + 1) (by omega) (by omega) (by exact Or.inr ⟨by omega, by omega⟩) (by omega)
                refine z_sub (lv' := [(17, .int (zI ((32 * (zfb idn zq33)) + zq33))), (16, .int (zI zq33)), (15, .int (zI zq31)), (14, .int (zI zq27)), (0, .int (zI idn)), (1, .int (zI a)), (2, .ref (zad G 26 0)), (3, .ref (zad G 27 0)), (4, .ref (zad G 28 0)), (5, .ref (zad G 29 0)), (6, .ref (zad G 30 0)), (7, .ref (zad G 31 0)), (8, .ref (zad G 32 0)), (9, .ref (zad G 33 0)), (10, .ref (zad G 34 0)), (11, .ref (zad G 35 0)), (12, .ref (zad G 36 0)), (13, .int (zI f)), (18, .int (zI (8 * a)))]) [1, 2, 3, 4, 5, 6, 7, 8, 9, 10, 11, 12, 13, 14, 15, 16, 17, 18, 0] rfl ?_
                exact L206_37 (((8 * a + 8 - (8 * a) : Int)).toNat + 1) f (8 * a) (by omega) (by omega) (by exact Or.inl ⟨by omega, fun s h1 h2 => absurd h2 (by omega)⟩) (by omega)
              have hwk := hWa k.toNat (by omega)
              have hck := jclr_at (by omega) f1
              refine z_aload C 167 dL_packet_167 10 rfl ?_
              refine z_iload C 169 dL_packet_169 18 rfl ?_
              refine z_ialdj C 171 (show 0 < 1 by omega) (zc30 ..) k.toNat rfl (by first | assumption | omega) (by omega) (show k < ((16 : Nat) : Int) by omega) dL_packet_171 (fun zq52 ezq52 hzq52 => ?_)
              refine z_if_lt C 172 194 dL_packet_172 (by decide) hzq52 (fun c172_660 => ?_) (fun c172_660 => ?_)
              · have hN : ¬ (0 ≤ zV Ma 30 0 k.toNat ∧ zmeet (zV Ma 30 0 k.toNat / 32) (zV Ma 30 0 k.toNat % 32) (zfb idn zq33) zq33) := fun z => by have := z.1; omega
                refine z_iinc (lv' := [(18, .int (zI (k + 1))), (17, .int (zI ((32 * (zfb idn zq33)) + zq33))), (16, .int (zI zq33)), (15, .int (zI zq31)), (14, .int (zI zq27)), (0, .int (zI idn)), (1, .int (zI a)), (2, .ref (zad G 26 0)), (3, .ref (zad G 27 0)), (4, .ref (zad G 28 0)), (5, .ref (zad G 29 0)), (6, .ref (zad G 30 0)), (7, .ref (zad G 31 0)), (8, .ref (zad G 32 0)), (9, .ref (zad G 33 0)), (10, .ref (zad G 34 0)), (11, .ref (zad G 35 0)), (12, .ref (zad G 36 0)), (13, .int (zI f))]) C 194 dL_packet_194 18 rfl (by decide) rfl ?_
                refine z_goto C 197 155 dL_packet_197 (by decide) ?_
                refine z_sub (lv' := [(17, .int (zI ((32 * (zfb idn zq33)) + zq33))), (16, .int (zI zq33)), (15, .int (zI zq31)), (14, .int (zI zq27)), (0, .int (zI idn)), (1, .int (zI a)), (2, .ref (zad G 26 0)), (3, .ref (zad G 27 0)), (4, .ref (zad G 28 0)), (5, .ref (zad G 29 0)), (6, .ref (zad G 30 0)), (7, .ref (zad G 31 0)), (8, .ref (zad G 32 0)), (9, .ref (zad G 33 0)), (10, .ref (zad G 34 0)), (11, .ref (zad G 35 0)), (12, .ref (zad G 36 0)), (13, .int (zI f)), (18, .int (zI (k + 1)))]) [1, 2, 3, 4, 5, 6, 7, 8, 9, 10, 11, 12, 13, 14, 15, 16, 17, 18, 0] rfl ?_
                exact ihz36 M1 (k + 1) (by omega) (by exact jclr_f (by omega) f1 hN) (by omega)
              refine z_aload C 175 dL_packet_175 10 rfl ?_
              refine z_iload C 177 dL_packet_177 18 rfl ?_
              refine z_ialdj C 179 (show 0 < 1 by omega) (zc30 ..) k.toNat rfl (by first | assumption | omega) (by omega) (show k < ((16 : Nat) : Int) by omega) dL_packet_179 (fun zq53 ezq53 hzq53 => ?_)
              refine z_iload C 180 dL_packet_180 0 rfl ?_
              refine z_callSi C 182 (As := [.int (zI zq53), .int (zI ((32 * (zfb idn zq33)) + zq33))]) (rest := []) (c_L_meet l G M1 (zq53 / 32) (zq53 % 32) (zfb idn zq33) zq33 zq53 (32 * zfb idn zq33 + zq33) (by omega) rfl (by rw [show zq53 = zV Ma 30 0 k.toNat by omega]; exact hwk.2 (by omega)) ⟨hzf.1, by omega, hLL.1, hLL.2⟩) (zS_of 2 C wm_L_82 wc_L_meet wini_L wst_L_meet ⟨by decide, by decide, by decide⟩ ⟨by decide, by decide⟩) rfl (Nat.le_of_ble_eq_true rfl) ⟨by decide, by decide⟩ dL_packet_182 rfl (fun zq54 Mz55 hzq54 hPz54 => ?_)
              obtain ⟨rfl, hPz54⟩ := hPz54
              refine z_if_eq C 185 194 dL_packet_185 (by decide) hzq54 (fun c185_672 => ?_) (fun c185_672 => ?_)
              · have hN : ¬ (0 ≤ zV Ma 30 0 k.toNat ∧ zmeet (zV Ma 30 0 k.toNat / 32) (zV Ma 30 0 k.toNat % 32) (zfb idn zq33) zq33) := fun z => by have z1 := hPz54.f c185_672; rw [show zq53 = zV Ma 30 0 k.toNat by omega] at z1; exact z1 z.2
                refine z_iinc (lv' := [(18, .int (zI (k + 1))), (17, .int (zI ((32 * (zfb idn zq33)) + zq33))), (16, .int (zI zq33)), (15, .int (zI zq31)), (14, .int (zI zq27)), (0, .int (zI idn)), (1, .int (zI a)), (2, .ref (zad G 26 0)), (3, .ref (zad G 27 0)), (4, .ref (zad G 28 0)), (5, .ref (zad G 29 0)), (6, .ref (zad G 30 0)), (7, .ref (zad G 31 0)), (8, .ref (zad G 32 0)), (9, .ref (zad G 33 0)), (10, .ref (zad G 34 0)), (11, .ref (zad G 35 0)), (12, .ref (zad G 36 0)), (13, .int (zI f))]) C 194 dL_packet_194 18 rfl (by decide) rfl ?_
                refine z_goto C 197 155 dL_packet_197 (by decide) ?_
                refine z_sub (lv' := [(17, .int (zI ((32 * (zfb idn zq33)) + zq33))), (16, .int (zI zq33)), (15, .int (zI zq31)), (14, .int (zI zq27)), (0, .int (zI idn)), (1, .int (zI a)), (2, .ref (zad G 26 0)), (3, .ref (zad G 27 0)), (4, .ref (zad G 28 0)), (5, .ref (zad G 29 0)), (6, .ref (zad G 30 0)), (7, .ref (zad G 31 0)), (8, .ref (zad G 32 0)), (9, .ref (zad G 33 0)), (10, .ref (zad G 34 0)), (11, .ref (zad G 35 0)), (12, .ref (zad G 36 0)), (13, .int (zI f)), (18, .int (zI (k + 1)))]) [1, 2, 3, 4, 5, 6, 7, 8, 9, 10, 11, 12, 13, 14, 15, 16, 17, 18, 0] rfl ?_
                exact ihz36 M1 (k + 1) (by omega) (by exact jclr_f (by omega) f1 hN) (by omega)
              have hT : (0 ≤ zV Ma 30 0 k.toNat ∧ zmeet (zV Ma 30 0 k.toNat / 32) (zV Ma 30 0 k.toNat % 32) (zfb idn zq33) zq33) := ⟨by omega, by have z1 := hPz54.t c185_672; rw [show zq53 = zV Ma 30 0 k.toNat by omega] at z1; exact z1⟩
              refine z_aload C 188 dL_packet_188 10 rfl ?_
              refine z_iload C 190 dL_packet_190 18 rfl ?_
              refine z_iconst C 192 dL_packet_192 ?_
              refine z_iastj C 193 (show 0 < 1 by omega) (zc30 ..) k.toNat rfl (by first | assumption | omega) (by omega) (show k < ((16 : Nat) : Int) by omega) (zc30 ..) dL_packet_193 ?_
              refine z_iinc (lv' := [(18, .int (zI (k + 1))), (17, .int (zI ((32 * (zfb idn zq33)) + zq33))), (16, .int (zI zq33)), (15, .int (zI zq31)), (14, .int (zI zq27)), (0, .int (zI idn)), (1, .int (zI a)), (2, .ref (zad G 26 0)), (3, .ref (zad G 27 0)), (4, .ref (zad G 28 0)), (5, .ref (zad G 29 0)), (6, .ref (zad G 30 0)), (7, .ref (zad G 31 0)), (8, .ref (zad G 32 0)), (9, .ref (zad G 33 0)), (10, .ref (zad G 34 0)), (11, .ref (zad G 35 0)), (12, .ref (zad G 36 0)), (13, .int (zI f))]) C 194 dL_packet_194 18 rfl (by decide) rfl ?_
              refine z_goto C 197 155 dL_packet_197 (by decide) ?_
              refine z_sub (lv' := [(17, .int (zI ((32 * (zfb idn zq33)) + zq33))), (16, .int (zI zq33)), (15, .int (zI zq31)), (14, .int (zI zq27)), (0, .int (zI idn)), (1, .int (zI a)), (2, .ref (zad G 26 0)), (3, .ref (zad G 27 0)), (4, .ref (zad G 28 0)), (5, .ref (zad G 29 0)), (6, .ref (zad G 30 0)), (7, .ref (zad G 31 0)), (8, .ref (zad G 32 0)), (9, .ref (zad G 33 0)), (10, .ref (zad G 34 0)), (11, .ref (zad G 35 0)), (12, .ref (zad G 36 0)), (13, .int (zI f)), (18, .int (zI (k + 1)))]) [1, 2, 3, 4, 5, 6, 7, 8, 9, 10, 11, 12, 13, 14, 15, 16, 17, 18, 0] rfl ?_
              exact ihz36 (zup M1 30 0 k.toNat (zI (-1))) (k + 1) (by omega) (by exact jclr_t (by omega) f0.1 f1 hT) (by omega)
          refine z_sub (lv' := [(17, .int (zI ((32 * (zfb idn zq33)) + zq33))), (16, .int (zI zq33)), (15, .int (zI zq31)), (14, .int (zI zq27)), (0, .int (zI idn)), (1, .int (zI a)), (2, .ref (zad G 26 0)), (3, .ref (zad G 27 0)), (4, .ref (zad G 28 0)), (5, .ref (zad G 29 0)), (6, .ref (zad G 30 0)), (7, .ref (zad G 31 0)), (8, .ref (zad G 32 0)), (9, .ref (zad G 33 0)), (10, .ref (zad G 34 0)), (11, .ref (zad G 35 0)), (12, .ref (zad G 36 0)), (13, .int (zI f)), (18, .int (zI (8 * a)))]) [1, 2, 3, 4, 5, 6, 7, 8, 9, 10, 11, 12, 13, 14, 15, 16, 17, 18, 0] rfl ?_
          exact L155_35 (((8 * a + 8 - (8 * a) : Int)).toNat + 1) Ma (8 * a) (by omega) (by exact jclr_0 _ _ _ _) (by omega)
        refine z_bipush C 91 dL_packet_91 (by decide +kernel) ?_
        refine z_iret C 93 dL_packet_93 (by decide) (by decide) (by decide) ?_
        exact Or.inr ⟨hno, w9z, zq27, hw9z, hsvz, Or.inl ⟨by rw [← ezq29, ← hdv84]; omega, rfl, rfl⟩⟩
      have hwk := hW.1 k.toNat (by omega)
      refine z_aload C 21 dL_packet_21 6 rfl ?_
      refine z_iload C 23 dL_packet_23 14 rfl ?_
      refine z_ialdj C 25 (show 0 < 1 by omega) (zc30 ..) k.toNat rfl (by first | assumption | omega) (by omega) (show k < ((16 : Nat) : Int) by omega) dL_packet_25 (fun zq56 ezq56 hzq56 => ?_)
      refine z_if_lt C 26 57 dL_packet_26 (by decide) hzq56 (fun c26_694 => ?_) (fun c26_694 => ?_)
      · have hN : ¬ jft M idn k.toNat := fun z => by have := z.1; omega
        refine z_iinc (lv' := [(14, .int (zI (k + 1))), (0, .int (zI idn)), (1, .int (zI a)), (2, .ref (zad G 26 0)), (3, .ref (zad G 27 0)), (4, .ref (zad G 28 0)), (5, .ref (zad G 29 0)), (6, .ref (zad G 30 0)), (7, .ref (zad G 31 0)), (8, .ref (zad G 32 0)), (9, .ref (zad G 33 0)), (10, .ref (zad G 34 0)), (11, .ref (zad G 35 0)), (12, .ref (zad G 36 0)), (13, .int (zI f))]) C 57 dL_packet_57 14 rfl (by decide) rfl ?_
        refine z_goto C 60 9 dL_packet_60 (by decide) ?_
        refine z_sub (lv' := [(0, .int (zI idn)), (1, .int (zI a)), (2, .ref (zad G 26 0)), (3, .ref (zad G 27 0)), (4, .ref (zad G 28 0)), (5, .ref (zad G 29 0)), (6, .ref (zad G 30 0)), (7, .ref (zad G 31 0)), (8, .ref (zad G 32 0)), (9, .ref (zad G 33 0)), (10, .ref (zad G 34 0)), (11, .ref (zad G 35 0)), (12, .ref (zad G 36 0)), (13, .int (zI f)), (14, .int (zI (k + 1)))]) [1, 2, 3, 4, 5, 6, 7, 8, 9, 10, 11, 12, 13, 14, 0] rfl ?_
        exact ihz2 f (k + 1) (by omega) (by omega) (by exact jfk_f ha.1 g0.1 g1 hN) (by omega)
      refine z_aload C 29 dL_packet_29 8 rfl ?_
      refine z_iload C 31 dL_packet_31 14 rfl ?_
      refine z_ialdj C 33 (show 0 < 1 by omega) (zc32 ..) k.toNat rfl (by first | assumption | omega) (by omega) (show k < ((16 : Nat) : Int) by omega) dL_packet_33 (fun zq57 ezq57 hzq57 => ?_)
      refine z_aload C 34 dL_packet_34 12 rfl ?_
      refine z_iconst C 36 dL_packet_36 ?_
      refine z_ialdj C 37 (show 0 < 1 by omega) (zc36 ..) 0 rfl (by decide) (by omega) (show 0 < ((12 : Nat) : Int) by omega) dL_packet_37 (fun zq58 ezq58 hzq58 => ?_)
      refine z_icmp_le C 38 57 dL_packet_38 (by decide) hzq57 hzq58 (fun c38_706 => ?_) (fun c38_706 => ?_)
      · have hN : ¬ jft M idn k.toNat := fun z => by have := z.2.1; omega
        refine z_iinc (lv' := [(14, .int (zI (k + 1))), (0, .int (zI idn)), (1, .int (zI a)), (2, .ref (zad G 26 0)), (3, .ref (zad G 27 0)), (4, .ref (zad G 28 0)), (5, .ref (zad G 29 0)), (6, .ref (zad G 30 0)), (7, .ref (zad G 31 0)), (8, .ref (zad G 32 0)), (9, .ref (zad G 33 0)), (10, .ref (zad G 34 0)), (11, .ref (zad G 35 0)), (12, .ref (zad G 36 0)), (13, .int (zI f))]) C 57 dL_packet_57 14 rfl (by decide) rfl ?_
        refine z_goto C 60 9 dL_packet_60 (by decide) ?_
        refine z_sub (lv' := [(0, .int (zI idn)), (1, .int (zI a)), (2, .ref (zad G 26 0)), (3, .ref (zad G 27 0)), (4, .ref (zad G 28 0)), (5, .ref (zad G 29 0)), (6, .ref (zad G 30 0)), (7, .ref (zad G 31 0)), (8, .ref (zad G 32 0)), (9, .ref (zad G 33 0)), (10, .ref (zad G 34 0)), (11, .ref (zad G 35 0)), (12, .ref (zad G 36 0)), (13, .int (zI f)), (14, .int (zI (k + 1)))]) [1, 2, 3, 4, 5, 6, 7, 8, 9, 10, 11, 12, 13, 14, 0] rfl ?_
        exact ihz2 f (k + 1) (by omega) (by omega) (by exact jfk_f ha.1 g0.1 g1 hN) (by omega)
      refine z_aload C 41 dL_packet_41 6 rfl ?_
      refine z_iload C 43 dL_packet_43 14 rfl ?_
      refine z_ialdj C 45 (show 0 < 1 by omega) (zc30 ..) k.toNat rfl (by first | assumption | omega) (by omega) (show k < ((16 : Nat) : Int) by omega) dL_packet_45 (fun zq59 ezq59 hzq59 => ?_)
      refine z_iload_n C 46 dL_packet_46 rfl 0 rfl ?_
      refine z_callSi C 47 (As := [.int (zI zq59), .int (zI idn)]) (rest := []) (c_L_covers l G M (zq59 / 32) (zq59 % 32) zq59 idn (by omega) (by rw [ezq59]; exact hwk.2 (by omega)) hid) (zS_of 2 C wm_L_78 wc_L_covers wini_L wst_L_covers ⟨by decide, by decide, by decide⟩ ⟨by decide, by decide⟩) rfl (Nat.le_of_ble_eq_true rfl) ⟨by decide, by decide⟩ dL_packet_47 rfl (fun zq60 Mz61 hzq60 hPz60 => ?_)
      obtain ⟨rfl, hPz60⟩ := hPz60
      refine z_if_eq C 50 57 dL_packet_50 (by decide) hzq60 (fun c50_718 => ?_) (fun c50_718 => ?_)
      · have hN : ¬ jft M idn k.toNat := fun z => by have z1 := hPz60.f c50_718; rw [ezq59] at z1; exact z1 z.2.2
        refine z_iinc (lv' := [(14, .int (zI (k + 1))), (0, .int (zI idn)), (1, .int (zI a)), (2, .ref (zad G 26 0)), (3, .ref (zad G 27 0)), (4, .ref (zad G 28 0)), (5, .ref (zad G 29 0)), (6, .ref (zad G 30 0)), (7, .ref (zad G 31 0)), (8, .ref (zad G 32 0)), (9, .ref (zad G 33 0)), (10, .ref (zad G 34 0)), (11, .ref (zad G 35 0)), (12, .ref (zad G 36 0)), (13, .int (zI f))]) C 57 dL_packet_57 14 rfl (by decide) rfl ?_
        refine z_goto C 60 9 dL_packet_60 (by decide) ?_
        refine z_sub (lv' := [(0, .int (zI idn)), (1, .int (zI a)), (2, .ref (zad G 26 0)), (3, .ref (zad G 27 0)), (4, .ref (zad G 28 0)), (5, .ref (zad G 29 0)), (6, .ref (zad G 30 0)), (7, .ref (zad G 31 0)), (8, .ref (zad G 32 0)), (9, .ref (zad G 33 0)), (10, .ref (zad G 34 0)), (11, .ref (zad G 35 0)), (12, .ref (zad G 36 0)), (13, .int (zI f)), (14, .int (zI (k + 1)))]) [1, 2, 3, 4, 5, 6, 7, 8, 9, 10, 11, 12, 13, 14, 0] rfl ?_
        exact ihz2 f (k + 1) (by omega) (by omega) (by exact jfk_f ha.1 g0.1 g1 hN) (by omega)
      have hT : jft M idn k.toNat := ⟨by omega, by omega, by have z1 := hPz60.t c50_718; rw [ezq59] at z1; exact z1⟩
      refine z_iload C 53 dL_packet_53 14 rfl ?_
      refine z_istore (lv' := [(13, .int (zI k)), (0, .int (zI idn)), (1, .int (zI a)), (2, .ref (zad G 26 0)), (3, .ref (zad G 27 0)), (4, .ref (zad G 28 0)), (5, .ref (zad G 29 0)), (6, .ref (zad G 30 0)), (7, .ref (zad G 31 0)), (8, .ref (zad G 32 0)), (9, .ref (zad G 33 0)), (10, .ref (zad G 34 0)), (11, .ref (zad G 35 0)), (12, .ref (zad G 36 0)), (14, .int (zI k))]) C 55 dL_packet_55 (by decide) rfl ?_
      refine z_iinc (lv' := [(14, .int (zI (k + 1))), (13, .int (zI k)), (0, .int (zI idn)), (1, .int (zI a)), (2, .ref (zad G 26 0)), (3, .ref (zad G 27 0)), (4, .ref (zad G 28 0)), (5, .ref (zad G 29 0)), (6, .ref (zad G 30 0)), (7, .ref (zad G 31 0)), (8, .ref (zad G 32 0)), (9, .ref (zad G 33 0)), (10, .ref (zad G 34 0)), (11, .ref (zad G 35 0)), (12, .ref (zad G 36 0))]) C 57 dL_packet_57 14 rfl (by decide) rfl ?_
      refine z_goto C 60 9 dL_packet_60 (by decide) ?_
      refine z_sub (lv' := [(0, .int (zI idn)), (1, .int (zI a)), (2, .ref (zad G 26 0)), (3, .ref (zad G 27 0)), (4, .ref (zad G 28 0)), (5, .ref (zad G 29 0)), (6, .ref (zad G 30 0)), (7, .ref (zad G 31 0)), (8, .ref (zad G 32 0)), (9, .ref (zad G 33 0)), (10, .ref (zad G 34 0)), (11, .ref (zad G 35 0)), (12, .ref (zad G 36 0)), (13, .int (zI k)), (14, .int (zI (k + 1)))]) [2, 3, 4, 5, 6, 7, 8, 9, 10, 11, 12, 13, 14, 1, 0] rfl ?_
      exact ihz2 k (k + 1) (by omega) (by omega) (by exact jfk_t ha.1 g0.1 (by omega) hT) (by omega)
  refine z_sub (lv' := [(0, .int (zI idn)), (1, .int (zI a)), (2, .ref (zad G 26 0)), (3, .ref (zad G 27 0)), (4, .ref (zad G 28 0)), (5, .ref (zad G 29 0)), (6, .ref (zad G 30 0)), (7, .ref (zad G 31 0)), (8, .ref (zad G 32 0)), (9, .ref (zad G 33 0)), (10, .ref (zad G 34 0)), (11, .ref (zad G 35 0)), (12, .ref (zad G 36 0)), (13, .int (zI (-1))), (14, .int (zI (8 * a)))]) [2, 3, 4, 5, 6, 7, 8, 9, 10, 11, 12, 13, 14, 1, 0] rfl ?_
  exact L9_1 (((8 * a + 8 - (8 * a) : Int)).toNat + 1) (-1) (8 * a) (by omega) (by omega) (by exact jfk_0 _ _ _) (by omega)
