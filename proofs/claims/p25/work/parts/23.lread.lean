set_option maxHeartbeats 4000000 in
set_option maxRecDepth 100000 in
theorem c_L_mapping (l : Launch) (G : zG) (M : zMem) {n : Nat} (h : iA n M M) (idn : Int) (hid : 0 ≤ idn ∧ idn < 65536) : Met l yL_mapping [.code yL_mapping cL_mapping 6 (some .int)] (zR 2 0 0) (zPc G M [.ref (zad G 26 0), .ref (zad G 27 0), .ref (zad G 36 0), .int (zI idn)]) (zQi G (fun x M' => M = M' ∧ zfnd (zmv M) (zml M) (zmg M) (zmn M) idn x)) 0 0 (zA G) := by
  refine z_met [(0, .ref (zad G 26 0)), (1, .ref (zad G 27 0)), (2, .ref (zad G 36 0)), (3, .int (zI idn))] (by decide) (Nat.le_of_ble_eq_true rfl) rfl ?_
  intro p e s m below meth c C
  have C : zC p s m ([.ref (zad G 26 0), .ref (zad G 27 0), .ref (zad G 36 0), .int (zI idn)] : List Value).toArray meth c G RL cL_mapping 6 (some .int) := C
  have hn1 := h.1
  have hn2 : zV M 36 0 3 = zV M 1 0 1 := h.2.1
  have hn3 : zmn M = zV M 1 0 1 := rfl
  refine z_iconst C 0 dL_mapping_0 ?_
  refine z_istore (lv' := [(4, .int (zI (-1))), (0, .ref (zad G 26 0)), (1, .ref (zad G 27 0)), (2, .ref (zad G 36 0)), (3, .int (zI idn))]) C 1 dL_mapping_1 (by decide) rfl ?_
  refine z_iconst C 3 dL_mapping_3 ?_
  refine z_istore (lv' := [(5, .int (zI 0)), (4, .int (zI (-1))), (0, .ref (zad G 26 0)), (1, .ref (zad G 27 0)), (2, .ref (zad G 36 0)), (3, .int (zI idn))]) C 4 dL_mapping_4 (by decide) rfl ?_
  have L6_1 : ∀ (kz1 : Nat) (f : Int) (k : Int) (bl : Int), (0 ≤ k ∧ k ≤ zV M 1 0 1) → (zfndk (zmv M) (zml M) (zmg M) (zmn M) idn k f bl) → ((f = -1 ∧ bl = -1) ∨ ((0 ≤ f ∧ f < zV M 1 0 1) ∧ bl = zml M f.toNat)) → (zV M 1 0 1 - k) < (kz1 : Int) → zZ p l e (zR 2 0 0) s m ([.ref (zad G 26 0), .ref (zad G 27 0), .ref (zad G 36 0), .int (zI idn)] : List Value).toArray below meth c G 6 (MQ below (zQi G (fun x M' => M = M' ∧ zfnd (zmv M) (zml M) (zmg M) (zmn M) idn x)) ([.ref (zad G 26 0), .ref (zad G 27 0), .ref (zad G 36 0), .int (zI idn)] : List Value).toArray s 0 0 (zA G)) M 0 0 6 [(0, .ref (zad G 26 0)), (1, .ref (zad G 27 0)), (2, .ref (zad G 36 0)), (3, .int (zI idn)), (4, .int (zI f)), (5, .int (zI k))] [] := by
    intro kz1
    induction kz1 with
    | zero =>
      intro f k bl g0 g1 g2 hk
      exact absurd hk (by omega)
    | succ kz1 ihz2 =>
      intro f k bl g0 g1 g2 hk
      refine z_iload C 6 dL_mapping_6 5 rfl ?_
      refine z_aload_n C 8 dL_mapping_8 rfl 2 rfl ?_
      refine z_iconst C 9 dL_mapping_9 ?_
      refine z_ialdj C 10 (show 0 < 1 by omega) (zc36 ..) 3 rfl (by decide) (by omega) (show 3 < ((12 : Nat) : Int) by omega) dL_mapping_10 (fun zq3 ezq3 hzq3 => ?_)
      refine z_icmp_ge C 11 64 dL_mapping_11 (by decide) (by first | assumption | omega) hzq3 (fun c11_25 => ?_) (fun c11_25 => ?_)
      · refine z_iload C 64 dL_mapping_64 4 rfl ?_
        refine z_iret C 66 dL_mapping_66 (by decide) (by decide) (by first | assumption | omega) ?_
        exact ⟨rfl, zfnd_end g1 (by show zV M 1 0 1 ≤ k; omega)⟩
      have hmk := iA_m h (i := k.toNat) (by omega)
      have hpk := hmk.1.1
      unfold zpfx at hpk
      refine z_aload_n C 14 dL_mapping_14 rfl 1 rfl ?_
      refine z_iload C 15 dL_mapping_15 5 rfl ?_
      refine z_ialdj C 17 (show 0 < 1 by omega) (zc27 ..) k.toNat rfl (by first | assumption | omega) (by omega) (show k < ((16 : Nat) : Int) by omega) dL_mapping_17 (fun zq4 ezq4 hzq4 => ?_)
      refine z_if_le C 18 58 dL_mapping_18 (by decide) hzq4 (fun c18_35 => ?_) (fun c18_35 => ?_)
      · have hS : zcov (zmv M) (zml M) (zmg M) (zmn M) idn k.toNat → zml M k.toNat ≤ bl := fun z => absurd z.2.1 (hmk.2.2.2.1.mp (by have z1 := hmk.2.2.2.2; omega))
        refine z_iinc (lv' := [(5, .int (zI (k + 1))), (0, .ref (zad G 26 0)), (1, .ref (zad G 27 0)), (2, .ref (zad G 36 0)), (3, .int (zI idn)), (4, .int (zI f))]) C 58 dL_mapping_58 5 rfl (by decide) rfl ?_
        refine z_goto C 61 6 dL_mapping_61 (by decide) ?_
        refine z_sub (lv' := [(0, .ref (zad G 26 0)), (1, .ref (zad G 27 0)), (2, .ref (zad G 36 0)), (3, .int (zI idn)), (4, .int (zI f)), (5, .int (zI (k + 1)))]) [1, 2, 3, 4, 5, 0] rfl ?_
        exact ihz2 f (k + 1) bl (by omega) (by exact zfnd_skip g1 (by omega) (iA_l h) hS) (by exact g2) (by omega)
      refine z_aload_n C 21 dL_mapping_21 rfl 0 rfl ?_
      refine z_iload C 22 dL_mapping_22 5 rfl ?_
      refine z_ialdj C 24 (show 0 < 1 by omega) (zc26 ..) k.toNat rfl (by first | assumption | omega) (by omega) (show k < ((16 : Nat) : Int) by omega) dL_mapping_24 (fun zq5 ezq5 hzq5 => ?_)
      refine z_iload_n C 25 dL_mapping_25 rfl 3 rfl ?_
      refine z_callSi C 26 (As := [.int (zI zq5), .int (zI idn)]) (rest := []) (c_L_covers l G M (zmv M k.toNat) (zml M k.toNat) zq5 idn (by rw [ezq5]; exact hmk.2.1) hmk.1.1 hid) (zS_of 2 C wm_L_78 wc_L_covers wini_L wst_L_covers ⟨by decide, by decide, by decide⟩ ⟨by decide, by decide⟩) rfl (Nat.le_of_ble_eq_true rfl) ⟨by decide, by decide⟩ dL_mapping_26 rfl (fun zq6 Mz7 hzq6 hPz6 => ?_)
      obtain ⟨rfl, hPz6⟩ := hPz6
      refine z_if_eq C 29 58 dL_mapping_29 (by decide) hzq6 (fun c29_47 => ?_) (fun c29_47 => ?_)
      · have hS : zcov (zmv M) (zml M) (zmg M) (zmn M) idn k.toNat → zml M k.toNat ≤ bl := fun z => absurd z.2.2 (hPz6.f c29_47)
        refine z_iinc (lv' := [(5, .int (zI (k + 1))), (0, .ref (zad G 26 0)), (1, .ref (zad G 27 0)), (2, .ref (zad G 36 0)), (3, .int (zI idn)), (4, .int (zI f))]) C 58 dL_mapping_58 5 rfl (by decide) rfl ?_
        refine z_goto C 61 6 dL_mapping_61 (by decide) ?_
        refine z_sub (lv' := [(0, .ref (zad G 26 0)), (1, .ref (zad G 27 0)), (2, .ref (zad G 36 0)), (3, .int (zI idn)), (4, .int (zI f)), (5, .int (zI (k + 1)))]) [1, 2, 3, 4, 5, 0] rfl ?_
        exact ihz2 f (k + 1) bl (by omega) (by exact zfnd_skip g1 (by omega) (iA_l h) hS) (by exact g2) (by omega)
      have hT : zcov (zmv M) (zml M) (zmg M) (zmn M) idn k.toNat := ⟨by show (k.toNat : Int) < zV M 1 0 1; omega, hmk.2.2.1.mp (by omega), hPz6.t c29_47⟩
      refine z_iload C 32 dL_mapping_32 4 rfl ?_
      refine z_if_lt C 34 54 dL_mapping_34 (by decide) (by first | assumption | omega) (fun c34_55 => ?_) (fun c34_55 => ?_)
      · have hL : bl < zml M k.toNat := by omega
        refine z_iload C 54 dL_mapping_54 5 rfl ?_
        refine z_istore (lv' := [(4, .int (zI k)), (0, .ref (zad G 26 0)), (1, .ref (zad G 27 0)), (2, .ref (zad G 36 0)), (3, .int (zI idn)), (5, .int (zI k))]) C 56 dL_mapping_56 (by decide) rfl ?_
        refine z_iinc (lv' := [(5, .int (zI (k + 1))), (4, .int (zI k)), (0, .ref (zad G 26 0)), (1, .ref (zad G 27 0)), (2, .ref (zad G 36 0)), (3, .int (zI idn))]) C 58 dL_mapping_58 5 rfl (by decide) rfl ?_
        refine z_goto C 61 6 dL_mapping_61 (by decide) ?_
        refine z_sub (lv' := [(0, .ref (zad G 26 0)), (1, .ref (zad G 27 0)), (2, .ref (zad G 36 0)), (3, .int (zI idn)), (4, .int (zI k)), (5, .int (zI (k + 1)))]) [2, 3, 4, 5, 1, 0] rfl ?_
        exact ihz2 k (k + 1) (zml M k.toNat) (by omega) (by exact zfnd_take g1 (by omega) hT hL) (by exact Or.inr ⟨by omega, rfl⟩) (by omega)
      have hmf := iA_m h (i := f.toNat) (by omega)
      have hpf := hmf.1.1
      unfold zpfx at hpf
      refine z_aload_n C 37 dL_mapping_37 rfl 0 rfl ?_
      refine z_iload C 38 dL_mapping_38 5 rfl ?_
      refine z_ialdj C 40 (show 0 < 1 by omega) (zc26 ..) k.toNat rfl (by first | assumption | omega) (by omega) (show k < ((16 : Nat) : Int) by omega) dL_mapping_40 (fun zq8 ezq8 hzq8 => ?_)
      refine z_bipush C 41 dL_mapping_41 (by decide +kernel) ?_
      refine z_irem C 43 dL_mapping_43 hzq8 (by omega) (by decide) (by decide) ?_
      refine z_aload_n C 44 dL_mapping_44 rfl 0 rfl ?_
      refine z_iload C 45 dL_mapping_45 4 rfl ?_
      refine z_ialdj C 47 (show 0 < 1 by omega) (zc26 ..) f.toNat rfl (by first | assumption | omega) (by omega) (show f < ((16 : Nat) : Int) by omega) dL_mapping_47 (fun zq9 ezq9 hzq9 => ?_)
      refine z_bipush C 48 dL_mapping_48 (by decide +kernel) ?_
      refine z_irem C 50 dL_mapping_50 hzq9 (by omega) (by decide) (by decide) ?_
      refine z_icmp_le C 51 58 dL_mapping_51 (by decide) (by first | assumption | omega) (by first | assumption | omega) (fun c51_76 => ?_) (fun c51_76 => ?_)
      · have hS : zcov (zmv M) (zml M) (zmg M) (zmn M) idn k.toNat → zml M k.toNat ≤ bl := fun z => by omega
        refine z_iinc (lv' := [(5, .int (zI (k + 1))), (0, .ref (zad G 26 0)), (1, .ref (zad G 27 0)), (2, .ref (zad G 36 0)), (3, .int (zI idn)), (4, .int (zI f))]) C 58 dL_mapping_58 5 rfl (by decide) rfl ?_
        refine z_goto C 61 6 dL_mapping_61 (by decide) ?_
        refine z_sub (lv' := [(0, .ref (zad G 26 0)), (1, .ref (zad G 27 0)), (2, .ref (zad G 36 0)), (3, .int (zI idn)), (4, .int (zI f)), (5, .int (zI (k + 1)))]) [1, 2, 3, 4, 5, 0] rfl ?_
        exact ihz2 f (k + 1) bl (by omega) (by exact zfnd_skip g1 (by omega) (iA_l h) hS) (by exact g2) (by omega)
      have hL : bl < zml M k.toNat := by omega
      refine z_iload C 54 dL_mapping_54 5 rfl ?_
      refine z_istore (lv' := [(4, .int (zI k)), (0, .ref (zad G 26 0)), (1, .ref (zad G 27 0)), (2, .ref (zad G 36 0)), (3, .int (zI idn)), (5, .int (zI k))]) C 56 dL_mapping_56 (by decide) rfl ?_
      refine z_iinc (lv' := [(5, .int (zI (k + 1))), (4, .int (zI k)), (0, .ref (zad G 26 0)), (1, .ref (zad G 27 0)), (2, .ref (zad G 36 0)), (3, .int (zI idn))]) C 58 dL_mapping_58 5 rfl (by decide) rfl ?_
      refine z_goto C 61 6 dL_mapping_61 (by decide) ?_
      refine z_sub (lv' := [(0, .ref (zad G 26 0)), (1, .ref (zad G 27 0)), (2, .ref (zad G 36 0)), (3, .int (zI idn)), (4, .int (zI k)), (5, .int (zI (k + 1)))]) [2, 3, 4, 5, 1, 0] rfl ?_
      exact ihz2 k (k + 1) (zml M k.toNat) (by omega) (by exact zfnd_take g1 (by omega) hT hL) (by exact Or.inr ⟨by omega, rfl⟩) (by omega)
  refine z_sub (lv' := [(0, .ref (zad G 26 0)), (1, .ref (zad G 27 0)), (2, .ref (zad G 36 0)), (3, .int (zI idn)), (4, .int (zI (-1))), (5, .int (zI 0))]) [2, 3, 4, 5, 1, 0] rfl ?_
  exact L6_1 (((zV M 1 0 1 - 0 : Int)).toNat + 1) (-1) 0 (-1) (by omega) (by exact zfnd_0 _ _ _ _ _) (by omega) (by omega)
set_option maxHeartbeats 4000000 in
set_option maxRecDepth 100000 in
theorem c_L_bits (l : Launch) (G : zG) (M : zMem) {n : Nat} (h : iA n M M) (idn a : Int) (hid : 0 ≤ idn ∧ idn < 65536) (hm : zfnd (zmv M) (zml M) (zmg M) (zmn M) idn a) : Met l yL_bits [.code yL_bits cL_bits 8 (some .int)] (zR 2 0 0) (zPc G M [.ref (zad G 26 0), .ref (zad G 27 0), .ref (zad G 36 0), .int (zI idn), .int (zI a)]) (zQi G (fun x M' => M = M' ∧ znar (zmv M) (zml M) (zmg M) (zmn M) idn (zown (zml M) a) x)) 0 0 (zA G) := by
  refine z_met [(0, .ref (zad G 26 0)), (1, .ref (zad G 27 0)), (2, .ref (zad G 36 0)), (3, .int (zI idn)), (4, .int (zI a))] (by decide) (Nat.le_of_ble_eq_true rfl) rfl ?_
  intro p e s m below meth c C
  have C : zC p s m ([.ref (zad G 26 0), .ref (zad G 27 0), .ref (zad G 36 0), .int (zI idn), .int (zI a)] : List Value).toArray meth c G RL cL_bits 8 (some .int) := C
  have hn1 := h.1
  have hn2 : zV M 36 0 3 = zV M 1 0 1 := h.2.1
  have hn3 : zmn M = zV M 1 0 1 := rfl
  have hmr := zfnd_rg hm
  have how : zown (zml M) a ≤ 16 := by
    unfold zown
    split
    · decide
    · have z1 := (iA_m h (i := a.toNat) (by omega)).1.1; unfold zpfx at z1; omega
  have J16_1 : ∀ (w : Int), (w = max (zown (zml M) a) 0) → zZ p l e (zR 2 0 0) s m ([.ref (zad G 26 0), .ref (zad G 27 0), .ref (zad G 36 0), .int (zI idn), .int (zI a)] : List Value).toArray below meth c G 8 (MQ below (zQi G (fun x M' => M = M' ∧ znar (zmv M) (zml M) (zmg M) (zmn M) idn (zown (zml M) a) x)) ([.ref (zad G 26 0), .ref (zad G 27 0), .ref (zad G 36 0), .int (zI idn), .int (zI a)] : List Value).toArray s 0 0 (zA G)) M 0 0 16 [(0, .ref (zad G 26 0)), (1, .ref (zad G 27 0)), (2, .ref (zad G 36 0)), (3, .int (zI idn)), (4, .int (zI a))] [.int (zI w)] := by
    intro w hw
    refine z_istore (lv' := [(5, .int (zI w)), (0, .ref (zad G 26 0)), (1, .ref (zad G 27 0)), (2, .ref (zad G 36 0)), (3, .int (zI idn)), (4, .int (zI a))]) C 16 dL_bits_16 (by decide) rfl ?_
    refine z_iconst C 18 dL_bits_18 ?_
    refine z_istore (lv' := [(6, .int (zI 0)), (5, .int (zI w)), (0, .ref (zad G 26 0)), (1, .ref (zad G 27 0)), (2, .ref (zad G 36 0)), (3, .int (zI idn)), (4, .int (zI a))]) C 19 dL_bits_19 (by decide) rfl ?_
    have L21_2 : ∀ (kz2 : Nat) (b : Int) (k : Int), (0 ≤ k ∧ k ≤ zV M 1 0 1) → (jbk M idn a k b) → (zV M 1 0 1 - k) < (kz2 : Int) → zZ p l e (zR 2 0 0) s m ([.ref (zad G 26 0), .ref (zad G 27 0), .ref (zad G 36 0), .int (zI idn), .int (zI a)] : List Value).toArray below meth c G 8 (MQ below (zQi G (fun x M' => M = M' ∧ znar (zmv M) (zml M) (zmg M) (zmn M) idn (zown (zml M) a) x)) ([.ref (zad G 26 0), .ref (zad G 27 0), .ref (zad G 36 0), .int (zI idn), .int (zI a)] : List Value).toArray s 0 0 (zA G)) M 0 0 21 [(0, .ref (zad G 26 0)), (1, .ref (zad G 27 0)), (2, .ref (zad G 36 0)), (3, .int (zI idn)), (4, .int (zI a)), (5, .int (zI b)), (6, .int (zI k))] [] := by
      intro kz2
      induction kz2 with
      | zero =>
        intro b k g0 g1 hk
        exact absurd hk (by omega)
      | succ kz2 ihz3 =>
        intro b k g0 g1 hk
        have hb9 := g1.1
        refine z_iload C 21 dL_bits_21 6 rfl ?_
        refine z_aload_n C 23 dL_bits_23 rfl 2 rfl ?_
        refine z_iconst C 24 dL_bits_24 ?_
        refine z_ialdj C 25 (show 0 < 1 by omega) (zc36 ..) 3 rfl (by decide) (by omega) (show 3 < ((12 : Nat) : Int) by omega) dL_bits_25 (fun zq4 ezq4 hzq4 => ?_)
        refine z_icmp_ge C 26 122 dL_bits_26 (by decide) (by first | assumption | omega) hzq4 (fun c26_33 => ?_) (fun c26_33 => ?_)
        · refine z_iload C 122 dL_bits_122 5 rfl ?_
          refine z_iret C 124 dL_bits_124 (by decide) (by decide) (by first | assumption | omega) ?_
          exact ⟨rfl, jbits h hid hm (by rw [show zmn M = k by omega]; exact g1)⟩
        have hmk := iA_m h (i := k.toNat) (by omega)
        have hpk := hmk.1.1
        unfold zpfx at hpk
        refine z_aload_n C 29 dL_bits_29 rfl 1 rfl ?_
        refine z_iload C 30 dL_bits_30 6 rfl ?_
        refine z_ialdj C 32 (show 0 < 1 by omega) (zc27 ..) k.toNat rfl (by first | assumption | omega) (by omega) (show k < ((16 : Nat) : Int) by omega) dL_bits_32 (fun zq5 ezq5 hzq5 => ?_)
        refine z_if_eq C 33 116 dL_bits_33 (by decide) hzq5 (fun c33_43 => ?_) (fun c33_43 => ?_)
        · have hN : ¬ jel M a k.toNat := fun z => absurd z.2.1 (hmk.2.2.2.1.mp (by omega))
          refine z_iinc (lv' := [(6, .int (zI (k + 1))), (0, .ref (zad G 26 0)), (1, .ref (zad G 27 0)), (2, .ref (zad G 36 0)), (3, .int (zI idn)), (4, .int (zI a)), (5, .int (zI b))]) C 116 dL_bits_116 6 rfl (by decide) rfl ?_
          refine z_goto C 119 21 dL_bits_119 (by decide) ?_
          refine z_sub (lv' := [(0, .ref (zad G 26 0)), (1, .ref (zad G 27 0)), (2, .ref (zad G 36 0)), (3, .int (zI idn)), (4, .int (zI a)), (5, .int (zI b)), (6, .int (zI (k + 1)))]) [1, 2, 3, 4, 5, 6, 0] rfl ?_
          exact ihz3 b (k + 1) (by omega) (by exact jbk_f (by omega) g1 hN) (by omega)
        refine z_iload C 36 dL_bits_36 6 rfl ?_
        refine z_iload C 38 dL_bits_38 4 rfl ?_
        refine z_icmp_eq C 40 116 dL_bits_40 (by decide) (by first | assumption | omega) (by first | assumption | omega) (fun c40_51 => ?_) (fun c40_51 => ?_)
        · have hN : ¬ jel M a k.toNat := fun z => z.2.2.1 (by omega)
          refine z_iinc (lv' := [(6, .int (zI (k + 1))), (0, .ref (zad G 26 0)), (1, .ref (zad G 27 0)), (2, .ref (zad G 36 0)), (3, .int (zI idn)), (4, .int (zI a)), (5, .int (zI b))]) C 116 dL_bits_116 6 rfl (by decide) rfl ?_
          refine z_goto C 119 21 dL_bits_119 (by decide) ?_
          refine z_sub (lv' := [(0, .ref (zad G 26 0)), (1, .ref (zad G 27 0)), (2, .ref (zad G 36 0)), (3, .int (zI idn)), (4, .int (zI a)), (5, .int (zI b)), (6, .int (zI (k + 1)))]) [1, 2, 3, 4, 5, 6, 0] rfl ?_
          exact ihz3 b (k + 1) (by omega) (by exact jbk_f (by omega) g1 hN) (by omega)
        refine z_iload C 43 dL_bits_43 4 rfl ?_
        refine z_if_lt C 45 85 dL_bits_45 (by decide) (by first | assumption | omega) (fun c45_58 => ?_) (fun c45_58 => ?_)
        · have hJ : jel M a k.toNat := ⟨by show (k.toNat : Int) < zV M 1 0 1; omega, hmk.2.2.1.mp (by have z1 := hmk.2.2.2.2; omega), by omega, Or.inl (by omega)⟩
          refine z_aload_n C 85 dL_bits_85 rfl 0 rfl ?_
          refine z_iload C 86 dL_bits_86 6 rfl ?_
          refine z_ialdj C 88 (show 0 < 1 by omega) (zc26 ..) k.toNat rfl (by first | assumption | omega) (by omega) (show k < ((16 : Nat) : Int) by omega) dL_bits_88 (fun zq6 ezq6 hzq6 => ?_)
          refine z_bipush C 89 dL_bits_89 (by decide +kernel) ?_
          refine z_idiv C 91 dL_bits_91 hzq6 (by omega) (by decide) (by decide) ?_
          refine z_iload_n C 92 dL_bits_92 rfl 3 rfl ?_
          refine z_callSi C 93 (As := [.int (zI (zq6 / 32)), .int (zI idn)]) (rest := []) (c_L_alike l G M (zq6 / 32) idn (by omega) hid) (zS_of 2 C wm_L_73 wc_L_alike wini_L wst_L_alike ⟨by decide, by decide, by decide⟩ ⟨by decide, by decide⟩) rfl (Nat.le_of_ble_eq_true rfl) ⟨by decide, by decide⟩ dL_bits_93 rfl (fun zq7 Mz8 hzq7 hPz7 => ?_)
          obtain ⟨rfl, hPz7⟩ := hPz7
          rw [show zq6 / 32 = zmv M k.toNat by omega] at hPz7
          have hx9 := hPz7.1
          have hR := jbk_t (by omega) g1 hJ hPz7
          refine z_iconst C 96 dL_bits_96 ?_
          refine z_iadd C 97 dL_bits_97 ?_
          refine z_istore (lv' := [(7, .int (zI (zq7 + 1))), (0, .ref (zad G 26 0)), (1, .ref (zad G 27 0)), (2, .ref (zad G 36 0)), (3, .int (zI idn)), (4, .int (zI a)), (5, .int (zI b)), (6, .int (zI k))]) C 98 dL_bits_98 (by decide) rfl ?_
          refine z_iload C 100 dL_bits_100 0 rfl ?_
          refine z_iload C 102 dL_bits_102 6 rfl ?_
          refine z_icmp_le C 104 112 dL_bits_104 (by decide) (by first | assumption | omega) (by first | assumption | omega) (fun c104_77 => ?_) (fun c104_77 => ?_)
          · rw [if_neg (by omega)] at hR
            refine z_iload C 112 dL_bits_112 6 rfl ?_
            refine z_istore (lv' := [(5, .int (zI b)), (7, .int (zI (zq7 + 1))), (0, .ref (zad G 26 0)), (1, .ref (zad G 27 0)), (2, .ref (zad G 36 0)), (3, .int (zI idn)), (4, .int (zI a)), (6, .int (zI k))]) C 114 dL_bits_114 (by decide) rfl ?_
            refine z_iinc (lv' := [(6, .int (zI (k + 1))), (5, .int (zI b)), (7, .int (zI (zq7 + 1))), (0, .ref (zad G 26 0)), (1, .ref (zad G 27 0)), (2, .ref (zad G 36 0)), (3, .int (zI idn)), (4, .int (zI a))]) C 116 dL_bits_116 7 rfl (by decide) rfl ?_
            refine z_goto C 119 21 dL_bits_119 (by decide) ?_
            refine z_sub (lv' := [(0, .ref (zad G 26 0)), (1, .ref (zad G 27 0)), (2, .ref (zad G 36 0)), (3, .int (zI idn)), (4, .int (zI a)), (5, .int (zI b)), (6, .int (zI (k + 1)))]) [3, 4, 5, 6, 7, 1, 0] rfl ?_
            exact ihz3 b (k + 1) (by omega) (by exact hR) (by omega)
          rw [if_pos (by omega)] at hR
          refine z_iload C 107 dL_bits_107 0 rfl ?_
          refine z_goto C 109 114 dL_bits_109 (by decide) ?_
          refine z_istore (lv' := [(5, .int (zI (zq7 + 1))), (7, .int (zI (zq7 + 1))), (0, .ref (zad G 26 0)), (1, .ref (zad G 27 0)), (2, .ref (zad G 36 0)), (3, .int (zI idn)), (4, .int (zI a)), (6, .int (zI k))]) C 114 dL_bits_114 (by decide) rfl ?_
          refine z_iinc (lv' := [(6, .int (zI (k + 1))), (5, .int (zI (zq7 + 1))), (7, .int (zI (zq7 + 1))), (0, .ref (zad G 26 0)), (1, .ref (zad G 27 0)), (2, .ref (zad G 36 0)), (3, .int (zI idn)), (4, .int (zI a))]) C 116 dL_bits_116 7 rfl (by decide) rfl ?_
          refine z_goto C 119 21 dL_bits_119 (by decide) ?_
          refine z_sub (lv' := [(0, .ref (zad G 26 0)), (1, .ref (zad G 27 0)), (2, .ref (zad G 36 0)), (3, .int (zI idn)), (4, .int (zI a)), (5, .int (zI (zq7 + 1))), (6, .int (zI (k + 1)))]) [3, 4, 5, 6, 7, 1, 0] rfl ?_
          exact ihz3 (zq7 + 1) (k + 1) (by omega) (by exact hR) (by omega)
        have hma := iA_m h (i := a.toNat) (by omega)
        have hpa := hma.1.1
        unfold zpfx at hpa
        refine z_aload_n C 48 dL_bits_48 rfl 0 rfl ?_
        refine z_iload C 49 dL_bits_49 6 rfl ?_
        refine z_ialdj C 51 (show 0 < 1 by omega) (zc26 ..) k.toNat rfl (by first | assumption | omega) (by omega) (show k < ((16 : Nat) : Int) by omega) dL_bits_51 (fun zq9 ezq9 hzq9 => ?_)
        refine z_bipush C 52 dL_bits_52 (by decide +kernel) ?_
        refine z_irem C 54 dL_bits_54 hzq9 (by omega) (by decide) (by decide) ?_
        refine z_aload_n C 55 dL_bits_55 rfl 0 rfl ?_
        refine z_iload C 56 dL_bits_56 4 rfl ?_
        refine z_ialdj C 58 (show 0 < 1 by omega) (zc26 ..) a.toNat rfl (by first | assumption | omega) (by omega) (show a < ((16 : Nat) : Int) by omega) dL_bits_58 (fun zq10 ezq10 hzq10 => ?_)
        refine z_bipush C 59 dL_bits_59 (by decide +kernel) ?_
        refine z_irem C 61 dL_bits_61 hzq10 (by omega) (by decide) (by decide) ?_
        refine z_icmp_lt C 62 116 dL_bits_62 (by decide) (by first | assumption | omega) (by first | assumption | omega) (fun c62_105 => ?_) (fun c62_105 => ?_)
        · have hN : ¬ jel M a k.toNat := fun z => z.2.2.2.elim (fun q => by omega) (fun q => by have q1 := q.1; omega)
          refine z_iinc (lv' := [(6, .int (zI (k + 1))), (0, .ref (zad G 26 0)), (1, .ref (zad G 27 0)), (2, .ref (zad G 36 0)), (3, .int (zI idn)), (4, .int (zI a)), (5, .int (zI b))]) C 116 dL_bits_116 6 rfl (by decide) rfl ?_
          refine z_goto C 119 21 dL_bits_119 (by decide) ?_
          refine z_sub (lv' := [(0, .ref (zad G 26 0)), (1, .ref (zad G 27 0)), (2, .ref (zad G 36 0)), (3, .int (zI idn)), (4, .int (zI a)), (5, .int (zI b)), (6, .int (zI (k + 1)))]) [1, 2, 3, 4, 5, 6, 0] rfl ?_
          exact ihz3 b (k + 1) (by omega) (by exact jbk_f (by omega) g1 hN) (by omega)
        refine z_aload_n C 65 dL_bits_65 rfl 0 rfl ?_
        refine z_iload C 66 dL_bits_66 4 rfl ?_
        refine z_ialdj C 68 (show 0 < 1 by omega) (zc26 ..) a.toNat rfl (by first | assumption | omega) (by omega) (show a < ((16 : Nat) : Int) by omega) dL_bits_68 (fun zq11 ezq11 hzq11 => ?_)
        refine z_aload_n C 69 dL_bits_69 rfl 0 rfl ?_
        refine z_iload C 70 dL_bits_70 6 rfl ?_
        refine z_ialdj C 72 (show 0 < 1 by omega) (zc26 ..) k.toNat rfl (by first | assumption | omega) (by omega) (show k < ((16 : Nat) : Int) by omega) dL_bits_72 (fun zq12 ezq12 hzq12 => ?_)
        refine z_bipush C 73 dL_bits_73 (by decide +kernel) ?_
        refine z_idiv C 75 dL_bits_75 hzq12 (by omega) (by decide) (by decide) ?_
        refine z_callSi C 76 (As := [.int (zI zq11), .int (zI (zq12 / 32))]) (rest := []) (c_L_covers l G M (zmv M a.toNat) (zml M a.toNat) zq11 (zq12 / 32) (by rw [ezq11]; exact hma.2.1) hma.1.1 (by omega)) (zS_of 2 C wm_L_78 wc_L_covers wini_L wst_L_covers ⟨by decide, by decide, by decide⟩ ⟨by decide, by decide⟩) rfl (Nat.le_of_ble_eq_true rfl) ⟨by decide, by decide⟩ dL_bits_76 rfl (fun zq13 Mz14 hzq13 hPz13 => ?_)
        obtain ⟨rfl, hPz13⟩ := hPz13
        rw [show zq12 / 32 = zmv M k.toNat by omega] at hPz13
        refine z_if_ne C 79 85 dL_bits_79 (by decide) hzq13 (fun c79_122 => ?_) (fun c79_122 => ?_)
        · have hJ : jel M a k.toNat := ⟨by show (k.toNat : Int) < zV M 1 0 1; omega, hmk.2.2.1.mp (by have z1 := hmk.2.2.2.2; omega), by omega, Or.inr ⟨by omega, hPz13.t c79_122⟩⟩
          refine z_aload_n C 85 dL_bits_85 rfl 0 rfl ?_
          refine z_iload C 86 dL_bits_86 6 rfl ?_
          refine z_ialdj C 88 (show 0 < 1 by omega) (zc26 ..) k.toNat rfl (by first | assumption | omega) (by omega) (show k < ((16 : Nat) : Int) by omega) dL_bits_88 (fun zq15 ezq15 hzq15 => ?_)
          refine z_bipush C 89 dL_bits_89 (by decide +kernel) ?_
          refine z_idiv C 91 dL_bits_91 hzq15 (by omega) (by decide) (by decide) ?_
          refine z_iload_n C 92 dL_bits_92 rfl 3 rfl ?_
          refine z_callSi C 93 (As := [.int (zI (zq15 / 32)), .int (zI idn)]) (rest := []) (c_L_alike l G M (zq15 / 32) idn (by omega) hid) (zS_of 2 C wm_L_73 wc_L_alike wini_L wst_L_alike ⟨by decide, by decide, by decide⟩ ⟨by decide, by decide⟩) rfl (Nat.le_of_ble_eq_true rfl) ⟨by decide, by decide⟩ dL_bits_93 rfl (fun zq16 Mz17 hzq16 hPz16 => ?_)
          obtain ⟨rfl, hPz16⟩ := hPz16
          rw [show zq15 / 32 = zmv M k.toNat by omega] at hPz16
          have hx9 := hPz16.1
          have hR := jbk_t (by omega) g1 hJ hPz16
          refine z_iconst C 96 dL_bits_96 ?_
          refine z_iadd C 97 dL_bits_97 ?_
          refine z_istore (lv' := [(7, .int (zI (zq16 + 1))), (0, .ref (zad G 26 0)), (1, .ref (zad G 27 0)), (2, .ref (zad G 36 0)), (3, .int (zI idn)), (4, .int (zI a)), (5, .int (zI b)), (6, .int (zI k))]) C 98 dL_bits_98 (by decide) rfl ?_
          refine z_iload C 100 dL_bits_100 0 rfl ?_
          refine z_iload C 102 dL_bits_102 6 rfl ?_
          refine z_icmp_le C 104 112 dL_bits_104 (by decide) (by first | assumption | omega) (by first | assumption | omega) (fun c104_141 => ?_) (fun c104_141 => ?_)
          · rw [if_neg (by omega)] at hR
            refine z_iload C 112 dL_bits_112 6 rfl ?_
            refine z_istore (lv' := [(5, .int (zI b)), (7, .int (zI (zq16 + 1))), (0, .ref (zad G 26 0)), (1, .ref (zad G 27 0)), (2, .ref (zad G 36 0)), (3, .int (zI idn)), (4, .int (zI a)), (6, .int (zI k))]) C 114 dL_bits_114 (by decide) rfl ?_
            refine z_iinc (lv' := [(6, .int (zI (k + 1))), (5, .int (zI b)), (7, .int (zI (zq16 + 1))), (0, .ref (zad G 26 0)), (1, .ref (zad G 27 0)), (2, .ref (zad G 36 0)), (3, .int (zI idn)), (4, .int (zI a))]) C 116 dL_bits_116 7 rfl (by decide) rfl ?_
            refine z_goto C 119 21 dL_bits_119 (by decide) ?_
            refine z_sub (lv' := [(0, .ref (zad G 26 0)), (1, .ref (zad G 27 0)), (2, .ref (zad G 36 0)), (3, .int (zI idn)), (4, .int (zI a)), (5, .int (zI b)), (6, .int (zI (k + 1)))]) [3, 4, 5, 6, 7, 1, 0] rfl ?_
            exact ihz3 b (k + 1) (by omega) (by exact hR) (by omega)
          rw [if_pos (by omega)] at hR
          refine z_iload C 107 dL_bits_107 0 rfl ?_
          refine z_goto C 109 114 dL_bits_109 (by decide) ?_
          refine z_istore (lv' := [(5, .int (zI (zq16 + 1))), (7, .int (zI (zq16 + 1))), (0, .ref (zad G 26 0)), (1, .ref (zad G 27 0)), (2, .ref (zad G 36 0)), (3, .int (zI idn)), (4, .int (zI a)), (6, .int (zI k))]) C 114 dL_bits_114 (by decide) rfl ?_
          refine z_iinc (lv' := [(6, .int (zI (k + 1))), (5, .int (zI (zq16 + 1))), (7, .int (zI (zq16 + 1))), (0, .ref (zad G 26 0)), (1, .ref (zad G 27 0)), (2, .ref (zad G 36 0)), (3, .int (zI idn)), (4, .int (zI a))]) C 116 dL_bits_116 7 rfl (by decide) rfl ?_
          refine z_goto C 119 21 dL_bits_119 (by decide) ?_
          refine z_sub (lv' := [(0, .ref (zad G 26 0)), (1, .ref (zad G 27 0)), (2, .ref (zad G 36 0)), (3, .int (zI idn)), (4, .int (zI a)), (5, .int (zI (zq16 + 1))), (6, .int (zI (k + 1)))]) [3, 4, 5, 6, 7, 1, 0] rfl ?_
          exact ihz3 (zq16 + 1) (k + 1) (by omega) (by exact hR) (by omega)
        have hN : ¬ jel M a k.toNat := fun z => z.2.2.2.elim (fun q => by omega) (fun q => hPz13.f c79_122 q.2)
        refine z_goto C 82 116 dL_bits_82 (by decide) ?_
        refine z_iinc (lv' := [(6, .int (zI (k + 1))), (0, .ref (zad G 26 0)), (1, .ref (zad G 27 0)), (2, .ref (zad G 36 0)), (3, .int (zI idn)), (4, .int (zI a)), (5, .int (zI b))]) C 116 dL_bits_116 6 rfl (by decide) rfl ?_
        refine z_goto C 119 21 dL_bits_119 (by decide) ?_
        refine z_sub (lv' := [(0, .ref (zad G 26 0)), (1, .ref (zad G 27 0)), (2, .ref (zad G 36 0)), (3, .int (zI idn)), (4, .int (zI a)), (5, .int (zI b)), (6, .int (zI (k + 1)))]) [1, 2, 3, 4, 5, 6, 0] rfl ?_
        exact ihz3 b (k + 1) (by omega) (by exact jbk_f (by omega) g1 hN) (by omega)
    refine z_sub (lv' := [(0, .ref (zad G 26 0)), (1, .ref (zad G 27 0)), (2, .ref (zad G 36 0)), (3, .int (zI idn)), (4, .int (zI a)), (5, .int (zI w)), (6, .int (zI 0))]) [2, 3, 4, 5, 6, 1, 0] rfl ?_
    exact L21_2 (((zV M 1 0 1 - 0 : Int)).toNat + 1) w 0 (by omega) (by rw [hw]; exact jbk_0 how) (by omega)
  refine z_iload C 0 dL_bits_0 4 rfl ?_
  refine z_if_ge C 2 9 dL_bits_2 (by decide) (by first | assumption | omega) (fun c2_165 => ?_) (fun c2_165 => ?_)
  · have hma := iA_m h (i := a.toNat) (by omega)
    have hpa := hma.1.1
    unfold zpfx at hpa
    refine z_aload_n C 9 dL_bits_9 rfl 0 rfl ?_
    refine z_iload C 10 dL_bits_10 4 rfl ?_
    refine z_ialdj C 12 (show 0 < 1 by omega) (zc26 ..) a.toNat rfl (by first | assumption | omega) (by omega) (show a < ((16 : Nat) : Int) by omega) dL_bits_12 (fun zq18 ezq18 hzq18 => ?_)
    refine z_bipush C 13 dL_bits_13 (by decide +kernel) ?_
    refine z_irem C 15 dL_bits_15 hzq18 (by omega) (by decide) (by decide) ?_
    exact J16_1 (zq18 % 32) (by have z1 := iA_m h (i := a.toNat) (by omega); have z2 := z1.1.1; unfold zpfx at z2; unfold zown; rw [if_neg (by omega)]; omega)
  refine z_iconst C 5 dL_bits_5 ?_
  refine z_goto C 6 16 dL_bits_6 (by decide) ?_
  exact J16_1 0 (by unfold zown; rw [if_pos (by omega)]; rfl)
set_option maxHeartbeats 4000000 in
set_option maxRecDepth 100000 in
theorem c_L_server (l : Launch) (G : zG) (M : zMem) (h : iB M M) (idn : Int) (hid : 0 ≤ idn ∧ idn < 65536) : Met l yL_server [.code yL_server cL_server 5 (some .int)] (zR 2 0 0) (zPc G M [.ref (zad G 29 0), .ref (zad G 36 0), .int (zI idn)]) (zQi G (fun x M' => M = M' ∧ ∃ y : Int, zfnd (zdv M) (zdl M) z0 (zdn M) idn y ∧ x = zsv (zdt M) y)) 0 0 (zA G) := by
  refine z_met [(0, .ref (zad G 29 0)), (1, .ref (zad G 36 0)), (2, .int (zI idn))] (by decide) (Nat.le_of_ble_eq_true rfl) rfl ?_
  intro p e s m below meth c C
  have C : zC p s m ([.ref (zad G 29 0), .ref (zad G 36 0), .int (zI idn)] : List Value).toArray meth c G RL cL_server 5 (some .int) := C
  have hn1 := h.1.1
  have hn2 : zV M 36 0 4 = zV M 9 0 4 := h.1.2
  have hn3 : zdn M = zV M 9 0 4 := rfl
  refine z_iconst C 0 dL_server_0 ?_
  refine z_istore_n (lv' := [(3, .int (zI (-1))), (0, .ref (zad G 29 0)), (1, .ref (zad G 36 0)), (2, .int (zI idn))]) C 1 dL_server_1 rfl (by decide) rfl ?_
  refine z_iconst C 2 dL_server_2 ?_
  refine z_istore (lv' := [(4, .int (zI 0)), (3, .int (zI (-1))), (0, .ref (zad G 29 0)), (1, .ref (zad G 36 0)), (2, .int (zI idn))]) C 3 dL_server_3 (by decide) rfl ?_
  have L5_1 : ∀ (kz1 : Nat) (f : Int) (k : Int) (bl : Int), (0 ≤ k ∧ k ≤ zV M 9 0 4) → (zfndk (zdv M) (zdl M) z0 (zdn M) idn k f bl) → ((f = -1 ∧ bl = -1) ∨ ((0 ≤ f ∧ f < zV M 9 0 4) ∧ bl = zdl M f.toNat)) → (zV M 9 0 4 - k) < (kz1 : Int) → zZ p l e (zR 2 0 0) s m ([.ref (zad G 29 0), .ref (zad G 36 0), .int (zI idn)] : List Value).toArray below meth c G 5 (MQ below (zQi G (fun x M' => M = M' ∧ ∃ y : Int, zfnd (zdv M) (zdl M) z0 (zdn M) idn y ∧ x = zsv (zdt M) y)) ([.ref (zad G 29 0), .ref (zad G 36 0), .int (zI idn)] : List Value).toArray s 0 0 (zA G)) M 0 0 5 [(0, .ref (zad G 29 0)), (1, .ref (zad G 36 0)), (2, .int (zI idn)), (3, .int (zI f)), (4, .int (zI k))] [] := by
    intro kz1
    induction kz1 with
    | zero =>
      intro f k bl g0 g1 g2 hk
      exact absurd hk (by omega)
    | succ kz1 ihz2 =>
      intro f k bl g0 g1 g2 hk
      refine z_iload C 5 dL_server_5 4 rfl ?_
      refine z_aload_n C 7 dL_server_7 rfl 1 rfl ?_
      refine z_iconst C 8 dL_server_8 ?_
      refine z_ialdj C 9 (show 0 < 1 by omega) (zc36 ..) 4 rfl (by decide) (by omega) (show 4 < ((12 : Nat) : Int) by omega) dL_server_9 (fun zq3 ezq3 hzq3 => ?_)
      refine z_icmp_ge C 10 56 dL_server_10 (by decide) (by first | assumption | omega) hzq3 (fun c10_25 => ?_) (fun c10_25 => ?_)
      · refine z_iload_n C 56 dL_server_56 rfl 3 rfl ?_
        refine z_if_ge C 57 64 dL_server_57 (by decide) (by first | assumption | omega) (fun c57_28 => ?_) (fun c57_28 => ?_)
        · have hmf := iB_d h (i := f.toNat) (by omega)
          have hpf := hmf.1
          unfold zpfx at hpf
          refine z_aload_n C 64 dL_server_64 rfl 0 rfl ?_
          refine z_iload_n C 65 dL_server_65 rfl 3 rfl ?_
          refine z_ialdj C 66 (show 0 < 1 by omega) (zc29 ..) f.toNat rfl (by first | assumption | omega) (by omega) (show f < ((12 : Nat) : Int) by omega) dL_server_66 (fun zq4 ezq4 hzq4 => ?_)
          refine z_bipush C 67 dL_server_67 (by decide +kernel) ?_
          refine z_ishr C 69 (v := zq4 / 4194304) dL_server_69 (j_sar (by omega) (by omega) (by decide) (by decide) rfl) ?_
          refine z_iret C 70 dL_server_70 (by decide) (by decide) (by first | assumption | omega) ?_
          exact ⟨rfl, f, zfnd_end g1 (by show zV M 9 0 4 ≤ k; omega), by unfold zsv; rw [if_neg (by omega)]; omega⟩
        refine z_iconst C 60 dL_server_60 ?_
        refine z_goto C 61 70 dL_server_61 (by decide) ?_
        refine z_iret C 70 dL_server_70 (by decide) (by decide) (by decide) ?_
        exact ⟨rfl, f, zfnd_end g1 (by show zV M 9 0 4 ≤ k; omega), by unfold zsv; rw [if_pos (by omega)]⟩
      have hmk := iB_d h (i := k.toNat) (by omega)
      have hpk := hmk.1
      unfold zpfx at hpk
      refine z_aload_n C 13 dL_server_13 rfl 0 rfl ?_
      refine z_iload C 14 dL_server_14 4 rfl ?_
      refine z_ialdj C 16 (show 0 < 1 by omega) (zc29 ..) k.toNat rfl (by first | assumption | omega) (by omega) (show k < ((12 : Nat) : Int) by omega) dL_server_16 (fun zq5 ezq5 hzq5 => ?_)
      refine z_ldc C 17 wk_L_116 dL_server_17 ?_
      refine z_iand C 19 (v := zq5 % 4194304) dL_server_19 (j_mask (k := 22) (by omega) (by decide) rfl) ?_
      refine z_iload_n C 20 dL_server_20 rfl 2 rfl ?_
      refine z_callSi C 21 (As := [.int (zI (zq5 % 4194304)), .int (zI idn)]) (rest := []) (c_L_covers l G M (zdv M k.toNat) (zdl M k.toNat) (zq5 % 4194304) idn (by omega) hmk.1 hid) (zS_of 2 C wm_L_78 wc_L_covers wini_L wst_L_covers ⟨by decide, by decide, by decide⟩ ⟨by decide, by decide⟩) rfl (Nat.le_of_ble_eq_true rfl) ⟨by decide, by decide⟩ dL_server_21 rfl (fun zq6 Mz7 hzq6 hPz6 => ?_)
      obtain ⟨rfl, hPz6⟩ := hPz6
      refine z_if_eq C 24 50 dL_server_24 (by decide) hzq6 (fun c24_53 => ?_) (fun c24_53 => ?_)
      · have hS : zcov (zdv M) (zdl M) z0 (zdn M) idn k.toNat → zdl M k.toNat ≤ bl := fun z => absurd z.2.2 (hPz6.f c24_53)
        refine z_iinc (lv' := [(4, .int (zI (k + 1))), (0, .ref (zad G 29 0)), (1, .ref (zad G 36 0)), (2, .int (zI idn)), (3, .int (zI f))]) C 50 dL_server_50 4 rfl (by decide) rfl ?_
        refine z_goto C 53 5 dL_server_53 (by decide) ?_
        refine z_sub (lv' := [(0, .ref (zad G 29 0)), (1, .ref (zad G 36 0)), (2, .int (zI idn)), (3, .int (zI f)), (4, .int (zI (k + 1)))]) [1, 2, 3, 4, 0] rfl ?_
        exact ihz2 f (k + 1) bl (by omega) (by exact zfnd_skip g1 (by omega) (iB_l h) hS) (by exact g2) (by omega)
      have hT : zcov (zdv M) (zdl M) z0 (zdn M) idn k.toNat := ⟨by show (k.toNat : Int) < zV M 9 0 4; omega, rfl, hPz6.t c24_53⟩
      refine z_iload_n C 27 dL_server_27 rfl 3 rfl ?_
      refine z_if_lt C 28 47 dL_server_28 (by decide) (by first | assumption | omega) (fun c28_61 => ?_) (fun c28_61 => ?_)
      · have hL : bl < zdl M k.toNat := by omega
        refine z_iload C 47 dL_server_47 4 rfl ?_
        refine z_istore_n (lv' := [(3, .int (zI k)), (0, .ref (zad G 29 0)), (1, .ref (zad G 36 0)), (2, .int (zI idn)), (4, .int (zI k))]) C 49 dL_server_49 rfl (by decide) rfl ?_
        refine z_iinc (lv' := [(4, .int (zI (k + 1))), (3, .int (zI k)), (0, .ref (zad G 29 0)), (1, .ref (zad G 36 0)), (2, .int (zI idn))]) C 50 dL_server_50 4 rfl (by decide) rfl ?_
        refine z_goto C 53 5 dL_server_53 (by decide) ?_
        refine z_sub (lv' := [(0, .ref (zad G 29 0)), (1, .ref (zad G 36 0)), (2, .int (zI idn)), (3, .int (zI k)), (4, .int (zI (k + 1)))]) [2, 3, 4, 1, 0] rfl ?_
        exact ihz2 k (k + 1) (zdl M k.toNat) (by omega) (by exact zfnd_take g1 (by omega) hT hL) (by exact Or.inr ⟨by omega, rfl⟩) (by omega)
      have hmf := iB_d h (i := f.toNat) (by omega)
      have hpf := hmf.1
      unfold zpfx at hpf
      refine z_aload_n C 31 dL_server_31 rfl 0 rfl ?_
      refine z_iload C 32 dL_server_32 4 rfl ?_
      refine z_ialdj C 34 (show 0 < 1 by omega) (zc29 ..) k.toNat rfl (by first | assumption | omega) (by omega) (show k < ((12 : Nat) : Int) by omega) dL_server_34 (fun zq8 ezq8 hzq8 => ?_)
      refine z_bipush C 35 dL_server_35 (by decide +kernel) ?_
      refine z_irem C 37 dL_server_37 hzq8 (by omega) (by decide) (by decide) ?_
      refine z_aload_n C 38 dL_server_38 rfl 0 rfl ?_
      refine z_iload_n C 39 dL_server_39 rfl 3 rfl ?_
      refine z_ialdj C 40 (show 0 < 1 by omega) (zc29 ..) f.toNat rfl (by first | assumption | omega) (by omega) (show f < ((12 : Nat) : Int) by omega) dL_server_40 (fun zq9 ezq9 hzq9 => ?_)
      refine z_bipush C 41 dL_server_41 (by decide +kernel) ?_
      refine z_irem C 43 dL_server_43 hzq9 (by omega) (by decide) (by decide) ?_
      refine z_icmp_le C 44 50 dL_server_44 (by decide) (by first | assumption | omega) (by first | assumption | omega) (fun c44_82 => ?_) (fun c44_82 => ?_)
      · have hS : zcov (zdv M) (zdl M) z0 (zdn M) idn k.toNat → zdl M k.toNat ≤ bl := fun z => by omega
        refine z_iinc (lv' := [(4, .int (zI (k + 1))), (0, .ref (zad G 29 0)), (1, .ref (zad G 36 0)), (2, .int (zI idn)), (3, .int (zI f))]) C 50 dL_server_50 4 rfl (by decide) rfl ?_
        refine z_goto C 53 5 dL_server_53 (by decide) ?_
        refine z_sub (lv' := [(0, .ref (zad G 29 0)), (1, .ref (zad G 36 0)), (2, .int (zI idn)), (3, .int (zI f)), (4, .int (zI (k + 1)))]) [1, 2, 3, 4, 0] rfl ?_
        exact ihz2 f (k + 1) bl (by omega) (by exact zfnd_skip g1 (by omega) (iB_l h) hS) (by exact g2) (by omega)
      have hL : bl < zdl M k.toNat := by omega
      refine z_iload C 47 dL_server_47 4 rfl ?_
      refine z_istore_n (lv' := [(3, .int (zI k)), (0, .ref (zad G 29 0)), (1, .ref (zad G 36 0)), (2, .int (zI idn)), (4, .int (zI k))]) C 49 dL_server_49 rfl (by decide) rfl ?_
      refine z_iinc (lv' := [(4, .int (zI (k + 1))), (3, .int (zI k)), (0, .ref (zad G 29 0)), (1, .ref (zad G 36 0)), (2, .int (zI idn))]) C 50 dL_server_50 4 rfl (by decide) rfl ?_
      refine z_goto C 53 5 dL_server_53 (by decide) ?_
      refine z_sub (lv' := [(0, .ref (zad G 29 0)), (1, .ref (zad G 36 0)), (2, .int (zI idn)), (3, .int (zI k)), (4, .int (zI (k + 1)))]) [2, 3, 4, 1, 0] rfl ?_
      exact ihz2 k (k + 1) (zdl M k.toNat) (by omega) (by exact zfnd_take g1 (by omega) hT hL) (by exact Or.inr ⟨by omega, rfl⟩) (by omega)
  refine z_sub (lv' := [(0, .ref (zad G 29 0)), (1, .ref (zad G 36 0)), (2, .int (zI idn)), (3, .int (zI (-1))), (4, .int (zI 0))]) [2, 3, 4, 1, 0] rfl ?_
  exact L5_1 (((zV M 9 0 4 - 0 : Int)).toNat + 1) (-1) 0 (-1) (by omega) (by exact zfnd_0 _ _ _ _ _) (by omega) (by omega)
set_option maxHeartbeats 4000000 in
set_option maxRecDepth 100000 in
theorem c_L_solicit (l : Launch) (G : zG) (M : zMem) {n : Nat} (hw : iW n M) (v b pp : Int) (hp : pp = 32 * v + b) (hv : zpfx v b) (hs : 0 ≤ zV M 36 0 6 ∧ zV M 36 0 6 ≤ 1000000) : Met l yL_solicit [.code yL_solicit cL_solicit 5 none] (zR 3 0 0) (zPc G M [.ref (zad G 30 0), .ref (zad G 32 0), .ref (zad G 36 0), .int (zI pp)]) (zQv G (fun M' => jsk M M' v b 16)) 0 0 (zA G) := by
  refine z_met [(0, .ref (zad G 30 0)), (1, .ref (zad G 32 0)), (2, .ref (zad G 36 0)), (3, .int (zI pp))] (by decide) (Nat.le_of_ble_eq_true rfl) rfl ?_
  intro p e s m below meth c C
  have C : zC p s m ([.ref (zad G 30 0), .ref (zad G 32 0), .ref (zad G 36 0), .int (zI pp)] : List Value).toArray meth c G RL cL_solicit 5 none := C
  refine z_iconst C 0 dL_solicit_0 ?_
  refine z_istore (lv' := [(4, .int (zI 0)), (0, .ref (zad G 30 0)), (1, .ref (zad G 32 0)), (2, .ref (zad G 36 0)), (3, .int (zI pp))]) C 1 dL_solicit_1 (by decide) rfl ?_
  have L3_1 : ∀ (kz1 : Nat) (M1 : zMem) (k : Int), (0 ≤ k ∧ k ≤ 16) → (jsk M M1 v b k) → (16 - k) < (kz1 : Int) → zZ p l e (zR 3 0 0) s m ([.ref (zad G 30 0), .ref (zad G 32 0), .ref (zad G 36 0), .int (zI pp)] : List Value).toArray below meth c G 5 (MQ below (zQv G (fun M' => jsk M M' v b 16)) ([.ref (zad G 30 0), .ref (zad G 32 0), .ref (zad G 36 0), .int (zI pp)] : List Value).toArray s 0 0 (zA G)) M1 0 0 3 [(0, .ref (zad G 30 0)), (1, .ref (zad G 32 0)), (2, .ref (zad G 36 0)), (3, .int (zI pp)), (4, .int (zI k))] [] := by
    intro kz1
    induction kz1 with
    | zero =>
      intro M1 k g0 g1 hk
      exact absurd hk (by omega)
    | succ kz1 ihz2 =>
      intro M1 k g0 g1 hk
      refine z_iload C 3 dL_solicit_3 4 rfl ?_
      refine z_bipush C 5 dL_solicit_5 (by decide +kernel) ?_
      refine z_icmp_ge C 7 57 dL_solicit_7 (by decide) (by first | assumption | omega) (by decide) (fun c7_18 => ?_) (fun c7_18 => ?_)
      · refine z_vret C 57 dL_solicit_57 (by decide) (by decide) ?_
        rw [show k = 16 by omega] at g1
        exact g1
      have hwk := hw.1 k.toNat (by omega)
      have hgp := jsk_p g1 k.toNat
      have hge := jsk_e g1 g0.1
      refine z_aload_n C 10 dL_solicit_10 rfl 0 rfl ?_
      refine z_iload C 11 dL_solicit_11 4 rfl ?_
      refine z_ialdj C 13 (show 0 < 1 by omega) (zc30 ..) k.toNat rfl (by first | assumption | omega) (by omega) (show k < ((16 : Nat) : Int) by omega) dL_solicit_13 (fun zq3 ezq3 hzq3 => ?_)
      refine z_if_lt C 14 51 dL_solicit_14 (by decide) hzq3 (fun c14_28 => ?_) (fun c14_28 => ?_)
      · have hN : ¬ jms M v b k.toNat := fun z => by have z1 := z.1; omega
        refine z_iinc (lv' := [(4, .int (zI (k + 1))), (0, .ref (zad G 30 0)), (1, .ref (zad G 32 0)), (2, .ref (zad G 36 0)), (3, .int (zI pp))]) C 51 dL_solicit_51 4 rfl (by decide) rfl ?_
        refine z_goto C 54 3 dL_solicit_54 (by decide) ?_
        refine z_sub (lv' := [(0, .ref (zad G 30 0)), (1, .ref (zad G 32 0)), (2, .ref (zad G 36 0)), (3, .int (zI pp)), (4, .int (zI (k + 1)))]) [1, 2, 3, 4, 0] rfl ?_
        exact ihz2 M1 (k + 1) (by omega) (by exact jsk_f (by omega) g1 hN) (by omega)
      refine z_aload_n C 17 dL_solicit_17 rfl 1 rfl ?_
      refine z_iload C 18 dL_solicit_18 4 rfl ?_
      refine z_ialdj C 20 (show 0 < 1 by omega) (zc32 ..) k.toNat rfl (by first | assumption | omega) (by omega) (show k < ((16 : Nat) : Int) by omega) dL_solicit_20 (fun zq4 ezq4 hzq4 => ?_)
      refine z_if_lt C 21 51 dL_solicit_21 (by decide) hzq4 (fun c21_37 => ?_) (fun c21_37 => ?_)
      · have hN : ¬ jms M v b k.toNat := fun z => by have z1 := z.2.1; omega
        refine z_iinc (lv' := [(4, .int (zI (k + 1))), (0, .ref (zad G 30 0)), (1, .ref (zad G 32 0)), (2, .ref (zad G 36 0)), (3, .int (zI pp))]) C 51 dL_solicit_51 4 rfl (by decide) rfl ?_
        refine z_goto C 54 3 dL_solicit_54 (by decide) ?_
        refine z_sub (lv' := [(0, .ref (zad G 30 0)), (1, .ref (zad G 32 0)), (2, .ref (zad G 36 0)), (3, .int (zI pp)), (4, .int (zI (k + 1)))]) [1, 2, 3, 4, 0] rfl ?_
        exact ihz2 M1 (k + 1) (by omega) (by exact jsk_f (by omega) g1 hN) (by omega)
      refine z_aload_n C 24 dL_solicit_24 rfl 0 rfl ?_
      refine z_iload C 25 dL_solicit_25 4 rfl ?_
      refine z_ialdj C 27 (show 0 < 1 by omega) (zc30 ..) k.toNat rfl (by first | assumption | omega) (by omega) (show k < ((16 : Nat) : Int) by omega) dL_solicit_27 (fun zq5 ezq5 hzq5 => ?_)
      refine z_iload_n C 28 dL_solicit_28 rfl 3 rfl ?_
      refine z_callSi C 29 (As := [.int (zI zq5), .int (zI pp)]) (rest := []) (c_L_meet l G M1 (zq5 / 32) (zq5 % 32) v b zq5 pp (by omega) hp (by rw [show zq5 = zV M 30 0 k.toNat by omega]; exact hwk.2 (by omega)) hv) (zS_of 2 C wm_L_82 wc_L_meet wini_L wst_L_meet ⟨by decide, by decide, by decide⟩ ⟨by decide, by decide⟩) rfl (Nat.le_of_ble_eq_true rfl) ⟨by decide, by decide⟩ dL_solicit_29 rfl (fun zq6 Mz7 hzq6 hPz6 => ?_)
      obtain ⟨rfl, hPz6⟩ := hPz6
      refine z_if_ne C 32 38 dL_solicit_32 (by decide) hzq6 (fun c32_49 => ?_) (fun c32_49 => ?_)
      · have hT : jms M v b k.toNat := ⟨by omega, by omega, by have z1 := hPz6.t c32_49; rw [show zq5 = zV M 30 0 k.toNat by omega] at z1; exact z1⟩
        refine z_aload_n C 38 dL_solicit_38 rfl 1 rfl ?_
        refine z_iload C 39 dL_solicit_39 4 rfl ?_
        refine z_iconst C 41 dL_solicit_41 ?_
        refine z_iastj C 42 (show 0 < 1 by omega) (zc32 ..) k.toNat rfl (by first | assumption | omega) (by omega) (show k < ((16 : Nat) : Int) by omega) (zc32 ..) dL_solicit_42 ?_
        have hg6 := g1.1
        have hsm := zsm_01 (f := fun s => zind (jms M v b s)) (fun _ => zind_rg _) k.toNat
        refine z_aload_n C 43 dL_solicit_43 rfl 2 rfl ?_
        refine z_bipush C 44 dL_solicit_44 (by decide +kernel) ?_
        refine z_dup2 C 46 dL_solicit_46 rfl rfl ?_
        refine z_ialdj C 47 (show 0 < 1 by omega) (zc36 ..) 6 rfl (by decide) (by omega) (show 6 < ((12 : Nat) : Int) by omega) dL_solicit_47 (fun zq8 ezq8 hzq8 => ?_)
        rw [zV_ne (by decide)] at ezq8
        refine z_iconst C 48 dL_solicit_48 ?_
        refine z_iadd C 49 dL_solicit_49 ?_
        refine z_iastj C 50 (show 0 < 1 by omega) (zc36 ..) 6 rfl (by decide) (by omega) (show 6 < ((12 : Nat) : Int) by omega) (zc36 ..) dL_solicit_50 ?_
        refine z_iinc (lv' := [(4, .int (zI (k + 1))), (0, .ref (zad G 30 0)), (1, .ref (zad G 32 0)), (2, .ref (zad G 36 0)), (3, .int (zI pp))]) C 51 dL_solicit_51 4 rfl (by decide) rfl ?_
        refine z_goto C 54 3 dL_solicit_54 (by decide) ?_
        refine z_sub (lv' := [(0, .ref (zad G 30 0)), (1, .ref (zad G 32 0)), (2, .ref (zad G 36 0)), (3, .int (zI pp)), (4, .int (zI (k + 1)))]) [1, 2, 3, 4, 0] rfl ?_
        exact ihz2 (zup (zup M1 32 0 k.toNat (zI (-1))) 36 0 6 (zI (zq8 + 1))) (k + 1) (by omega) (by exact jsk_t (by omega) (by omega) hs g1 hT (by omega)) (by omega)
      have hN : ¬ jms M v b k.toNat := fun z => by have z1 := hPz6.f c32_49; rw [show zq5 = zV M 30 0 k.toNat by omega] at z1; exact z1 z.2.2
      refine z_goto C 35 51 dL_solicit_35 (by decide) ?_
      refine z_iinc (lv' := [(4, .int (zI (k + 1))), (0, .ref (zad G 30 0)), (1, .ref (zad G 32 0)), (2, .ref (zad G 36 0)), (3, .int (zI pp))]) C 51 dL_solicit_51 4 rfl (by decide) rfl ?_
      refine z_goto C 54 3 dL_solicit_54 (by decide) ?_
      refine z_sub (lv' := [(0, .ref (zad G 30 0)), (1, .ref (zad G 32 0)), (2, .ref (zad G 36 0)), (3, .int (zI pp)), (4, .int (zI (k + 1)))]) [1, 2, 3, 4, 0] rfl ?_
      exact ihz2 M1 (k + 1) (by omega) (by exact jsk_f (by omega) g1 hN) (by omega)
  refine z_sub (lv' := [(0, .ref (zad G 30 0)), (1, .ref (zad G 32 0)), (2, .ref (zad G 36 0)), (3, .int (zI pp)), (4, .int (zI 0))]) [1, 2, 3, 4, 0] rfl ?_
  exact L3_1 (((16 - 0 : Int)).toNat + 1) M 0 (by omega) (by exact jsk_0 _ _ _) (by omega)
set_option maxHeartbeats 4000000 in
set_option maxRecDepth 100000 in
theorem c_L_entry (l : Launch) (G : zG) (M : zMem) (a : Int) (ha : 0 ≤ a ∧ a < 2) (num : Int) (hnum : zrg num) : Met l yL_entry [.code yL_entry cL_entry 7 (some .int)] (zR 0 0 0) (zPc G M [.ref (zad G 30 0), .ref (zad G 33 0), .int (zI a), .int (zI num)]) (zQi G (fun x M' => M = M' ∧ zpe M a.toNat num x)) 0 0 (zA G) := by
  refine z_met [(0, .ref (zad G 30 0)), (1, .ref (zad G 33 0)), (2, .int (zI a)), (3, .int (zI num))] (by decide) (Nat.le_of_ble_eq_true rfl) rfl ?_
  intro p e s m below meth c C
  have C : zC p s m ([.ref (zad G 30 0), .ref (zad G 33 0), .int (zI a), .int (zI num)] : List Value).toArray meth c G RL cL_entry 7 (some .int) := C
  refine z_bipush C 0 dL_entry_0 (by decide +kernel) ?_
  refine z_iload_n C 2 dL_entry_2 rfl 2 rfl ?_
  refine z_imul C 3 dL_entry_3 ?_
  refine z_istore (lv' := [(4, .int (zI (8 * a))), (0, .ref (zad G 30 0)), (1, .ref (zad G 33 0)), (2, .int (zI a)), (3, .int (zI num))]) C 4 dL_entry_4 (by decide) rfl ?_
  have L6_1 : ∀ (kz1 : Nat) (k : Int), (8 * a ≤ k ∧ k ≤ 8 * a + 8) → (∀ j : Nat, 8 * a + (j : Int) < k → ¬ zpc M a.toNat num j) → (8 * a + 8 - k) < (kz1 : Int) → zZ p l e (zR 0 0 0) s m ([.ref (zad G 30 0), .ref (zad G 33 0), .int (zI a), .int (zI num)] : List Value).toArray below meth c G 7 (MQ below (zQi G (fun x M' => M = M' ∧ zpe M a.toNat num x)) ([.ref (zad G 30 0), .ref (zad G 33 0), .int (zI a), .int (zI num)] : List Value).toArray s 0 0 (zA G)) M 0 0 6 [(0, .ref (zad G 30 0)), (1, .ref (zad G 33 0)), (2, .int (zI a)), (3, .int (zI num)), (4, .int (zI k))] [] := by
    intro kz1
    induction kz1 with
    | zero =>
      intro k g0 g1 hk
      exact absurd hk (by omega)
    | succ kz1 ihz2 =>
      intro k g0 g1 hk
      refine z_iload C 6 dL_entry_6 4 rfl ?_
      refine z_bipush C 8 dL_entry_8 (by decide +kernel) ?_
      refine z_iload_n C 10 dL_entry_10 rfl 2 rfl ?_
      refine z_imul C 11 dL_entry_11 ?_
      refine z_bipush C 12 dL_entry_12 (by decide +kernel) ?_
      refine z_iadd C 14 dL_entry_14 ?_
      refine z_icmp_ge C 15 95 dL_entry_15 (by decide) (by first | assumption | omega) (by first | assumption | omega) (fun c15_24 => ?_) (fun c15_24 => ?_)
      · refine z_iconst C 95 dL_entry_95 ?_
        refine z_iret C 96 dL_entry_96 (by decide) (by decide) (by decide) ?_
        exact ⟨rfl, Or.inl ⟨rfl, fun j hj => g1 j (by omega)⟩⟩
      refine z_iconst C 18 dL_entry_18 ?_
      refine z_istore (lv' := [(5, .int (zI 0)), (0, .ref (zad G 30 0)), (1, .ref (zad G 33 0)), (2, .int (zI a)), (3, .int (zI num)), (4, .int (zI k))]) C 19 dL_entry_19 (by decide) rfl ?_
      refine z_bipush C 21 dL_entry_21 (by decide +kernel) ?_
      refine z_iload_n C 23 dL_entry_23 rfl 3 rfl ?_
      refine z_imul C 24 dL_entry_24 ?_
      refine z_istore (lv' := [(6, .int (zI (8 * a))), (5, .int (zI 0)), (0, .ref (zad G 30 0)), (1, .ref (zad G 33 0)), (2, .int (zI a)), (3, .int (zI num)), (4, .int (zI k))]) C 25 dL_entry_25 (by decide) rfl ?_
      have L27_3 : ∀ (kz3 : Nat) (n : Int) (k2 : Int), (8 * a ≤ k2 ∧ k2 ≤ 8 * a + 8) → (n = zsm (zmf M a.toNat (zV M 33 0 k.toNat)) (k2 - 8 * a).toNat) → (8 * a + 8 - k2) < (kz3 : Int) → zZ p l e (zR 0 0 0) s m ([.ref (zad G 30 0), .ref (zad G 33 0), .int (zI a), .int (zI num)] : List Value).toArray below meth c G 7 (MQ below (zQi G (fun x M' => M = M' ∧ zpe M a.toNat num x)) ([.ref (zad G 30 0), .ref (zad G 33 0), .int (zI a), .int (zI num)] : List Value).toArray s 0 0 (zA G)) M 0 0 27 [(0, .ref (zad G 30 0)), (1, .ref (zad G 33 0)), (2, .int (zI a)), (3, .int (zI num)), (4, .int (zI k)), (5, .int (zI n)), (6, .int (zI k2))] [] := by
        intro kz3
        induction kz3 with
        | zero =>
          intro n k2 f0 f1 hk
          exact absurd hk (by omega)
        | succ kz3 ihz4 =>
          intro n k2 f0 f1 hk
          have hs9 := zsm_01 (f := zmf M a.toNat (zV M 33 0 k.toNat)) (fun _ => zind_rg _) (k2 - 8 * a).toNat
          refine z_iload C 27 dL_entry_27 6 rfl ?_
          refine z_bipush C 29 dL_entry_29 (by decide +kernel) ?_
          refine z_iload_n C 31 dL_entry_31 rfl 2 rfl ?_
          refine z_imul C 32 dL_entry_32 ?_
          refine z_bipush C 33 dL_entry_33 (by decide +kernel) ?_
          refine z_iadd C 35 dL_entry_35 ?_
          refine z_icmp_ge C 36 73 dL_entry_36 (by decide) (by first | assumption | omega) (by first | assumption | omega) (fun c36_49 => ?_) (fun c36_49 => ?_)
          · have hz9 : n = zmb M a.toNat (zV M 33 0 k.toNat) := by
              rw [f1, show (k2 - 8 * a).toNat = 8 by omega]; rfl
            refine z_aload_n C 73 dL_entry_73 rfl 0 rfl ?_
            refine z_iload C 74 dL_entry_74 4 rfl ?_
            refine z_ialdj C 76 (show 0 < 1 by omega) (zc30 ..) k.toNat rfl (by first | assumption | omega) (by omega) (show k < ((16 : Nat) : Int) by omega) dL_entry_76 (fun zq5 ezq5 hzq5 => ?_)
            refine z_if_lt C 77 89 dL_entry_77 (by decide) hzq5 (fun c77_56 => ?_) (fun c77_56 => ?_)
            · have hS : ¬ (0 ≤ zV M 30 0 k.toNat ∧ zmb M a.toNat (zV M 33 0 k.toNat) = num) := fun z => by have z1 := z.1; omega
              refine z_iinc (lv' := [(4, .int (zI (k + 1))), (0, .ref (zad G 30 0)), (1, .ref (zad G 33 0)), (2, .int (zI a)), (3, .int (zI num)), (5, .int (zI n)), (6, .int (zI k2))]) C 89 dL_entry_89 4 rfl (by decide) rfl ?_
              refine z_goto C 92 6 dL_entry_92 (by decide) ?_
              refine z_sub (lv' := [(0, .ref (zad G 30 0)), (1, .ref (zad G 33 0)), (2, .int (zI a)), (3, .int (zI num)), (4, .int (zI (k + 1)))]) [1, 2, 3, 4, 0] rfl ?_
              exact ihz2 (k + 1) (by omega) (by intro j hj; exact (Int.lt_or_le (8 * a + (j : Int)) k).elim (g1 j) (fun q => by intro z; unfold zpc at z; rw [show 8 * a.toNat + j = k.toNat by omega] at z; exact hS z)) (by omega)
            refine z_iload C 80 dL_entry_80 5 rfl ?_
            refine z_iload_n C 82 dL_entry_82 rfl 3 rfl ?_
            refine z_icmp_ne C 83 89 dL_entry_83 (by decide) (by first | assumption | omega) (by first | assumption | omega) (fun c83_64 => ?_) (fun c83_64 => ?_)
            · have hS : ¬ (0 ≤ zV M 30 0 k.toNat ∧ zmb M a.toNat (zV M 33 0 k.toNat) = num) := fun z => by have z1 := z.2; omega
              refine z_iinc (lv' := [(4, .int (zI (k + 1))), (0, .ref (zad G 30 0)), (1, .ref (zad G 33 0)), (2, .int (zI a)), (3, .int (zI num)), (5, .int (zI n)), (6, .int (zI k2))]) C 89 dL_entry_89 4 rfl (by decide) rfl ?_
              refine z_goto C 92 6 dL_entry_92 (by decide) ?_
              refine z_sub (lv' := [(0, .ref (zad G 30 0)), (1, .ref (zad G 33 0)), (2, .int (zI a)), (3, .int (zI num)), (4, .int (zI (k + 1)))]) [1, 2, 3, 4, 0] rfl ?_
              exact ihz2 (k + 1) (by omega) (by intro j hj; exact (Int.lt_or_le (8 * a + (j : Int)) k).elim (g1 j) (fun q => by intro z; unfold zpc at z; rw [show 8 * a.toNat + j = k.toNat by omega] at z; exact hS z)) (by omega)
            refine z_iload C 86 dL_entry_86 4 rfl ?_
            refine z_iret C 88 dL_entry_88 (by decide) (by decide) (by first | assumption | omega) ?_
            refine ⟨rfl, Or.inr ⟨(k - 8 * a).toNat, by omega, by omega, ?_⟩⟩
            unfold zpc
            rw [show 8 * a.toNat + (k - 8 * a).toNat = k.toNat by omega]
            exact ⟨by omega, by omega⟩
          refine z_iload C 39 dL_entry_39 5 rfl ?_
          refine z_aload_n C 41 dL_entry_41 rfl 0 rfl ?_
          refine z_iload C 42 dL_entry_42 6 rfl ?_
          refine z_ialdj C 44 (show 0 < 1 by omega) (zc30 ..) k2.toNat rfl (by first | assumption | omega) (by omega) (show k2 < ((16 : Nat) : Int) by omega) dL_entry_44 (fun zq6 ezq6 hzq6 => ?_)
          refine z_if_lt C 45 63 dL_entry_45 (by decide) hzq6 (fun c45_79 => ?_) (fun c45_79 => ?_)
          · refine z_iconst C 63 dL_entry_63 ?_
            refine z_iadd C 64 dL_entry_64 ?_
            refine z_istore (lv' := [(5, .int (zI (n + 0))), (0, .ref (zad G 30 0)), (1, .ref (zad G 33 0)), (2, .int (zI a)), (3, .int (zI num)), (4, .int (zI k)), (6, .int (zI k2))]) C 65 dL_entry_65 (by decide) rfl ?_
            refine z_iinc (lv' := [(6, .int (zI (k2 + 1))), (5, .int (zI (n + 0))), (0, .ref (zad G 30 0)), (1, .ref (zad G 33 0)), (2, .int (zI a)), (3, .int (zI num)), (4, .int (zI k))]) C 67 dL_entry_67 6 rfl (by decide) rfl ?_
            refine z_goto C 70 27 dL_entry_70 (by decide) ?_
            refine z_sub (lv' := [(0, .ref (zad G 30 0)), (1, .ref (zad G 33 0)), (2, .int (zI a)), (3, .int (zI num)), (4, .int (zI k)), (5, .int (zI (n + 0))), (6, .int (zI (k2 + 1)))]) [2, 3, 4, 5, 6, 1, 0] rfl ?_
            exact ihz4 (n + 0) (k2 + 1) (by omega) (by rw [zmb_s ha.1 f0.1, ← f1, zind_f (fun z => by omega)]) (by omega)
          refine z_aload_n C 48 dL_entry_48 rfl 1 rfl ?_
          refine z_iload C 49 dL_entry_49 6 rfl ?_
          refine z_ialdj C 51 (show 0 < 1 by omega) (zc33 ..) k2.toNat rfl (by first | assumption | omega) (by omega) (show k2 < ((16 : Nat) : Int) by omega) dL_entry_51 (fun zq7 ezq7 hzq7 => ?_)
          refine z_aload_n C 52 dL_entry_52 rfl 1 rfl ?_
          refine z_iload C 53 dL_entry_53 4 rfl ?_
          refine z_ialdj C 55 (show 0 < 1 by omega) (zc33 ..) k.toNat rfl (by first | assumption | omega) (by omega) (show k < ((16 : Nat) : Int) by omega) dL_entry_55 (fun zq8 ezq8 hzq8 => ?_)
          refine z_icmp_ge C 56 63 dL_entry_56 (by decide) hzq7 hzq8 (fun c56_93 => ?_) (fun c56_93 => ?_)
          · refine z_iconst C 63 dL_entry_63 ?_
            refine z_iadd C 64 dL_entry_64 ?_
            refine z_istore (lv' := [(5, .int (zI (n + 0))), (0, .ref (zad G 30 0)), (1, .ref (zad G 33 0)), (2, .int (zI a)), (3, .int (zI num)), (4, .int (zI k)), (6, .int (zI k2))]) C 65 dL_entry_65 (by decide) rfl ?_
            refine z_iinc (lv' := [(6, .int (zI (k2 + 1))), (5, .int (zI (n + 0))), (0, .ref (zad G 30 0)), (1, .ref (zad G 33 0)), (2, .int (zI a)), (3, .int (zI num)), (4, .int (zI k))]) C 67 dL_entry_67 6 rfl (by decide) rfl ?_
            refine z_goto C 70 27 dL_entry_70 (by decide) ?_
            refine z_sub (lv' := [(0, .ref (zad G 30 0)), (1, .ref (zad G 33 0)), (2, .int (zI a)), (3, .int (zI num)), (4, .int (zI k)), (5, .int (zI (n + 0))), (6, .int (zI (k2 + 1)))]) [2, 3, 4, 5, 6, 1, 0] rfl ?_
            exact ihz4 (n + 0) (k2 + 1) (by omega) (by rw [zmb_s ha.1 f0.1, ← f1, zind_f (fun z => by omega)]) (by omega)
          refine z_iconst C 59 dL_entry_59 ?_
          refine z_goto C 60 64 dL_entry_60 (by decide) ?_
          refine z_iadd C 64 dL_entry_64 ?_
          refine z_istore (lv' := [(5, .int (zI (n + 1))), (0, .ref (zad G 30 0)), (1, .ref (zad G 33 0)), (2, .int (zI a)), (3, .int (zI num)), (4, .int (zI k)), (6, .int (zI k2))]) C 65 dL_entry_65 (by decide) rfl ?_
          refine z_iinc (lv' := [(6, .int (zI (k2 + 1))), (5, .int (zI (n + 1))), (0, .ref (zad G 30 0)), (1, .ref (zad G 33 0)), (2, .int (zI a)), (3, .int (zI num)), (4, .int (zI k))]) C 67 dL_entry_67 6 rfl (by decide) rfl ?_
          refine z_goto C 70 27 dL_entry_70 (by decide) ?_
          refine z_sub (lv' := [(0, .ref (zad G 30 0)), (1, .ref (zad G 33 0)), (2, .int (zI a)), (3, .int (zI num)), (4, .int (zI k)), (5, .int (zI (n + 1))), (6, .int (zI (k2 + 1)))]) [2, 3, 4, 5, 6, 1, 0] rfl ?_
          exact ihz4 (n + 1) (k2 + 1) (by omega) (by rw [zmb_s ha.1 f0.1, ← f1, zind_t ⟨by omega, by omega⟩]) (by omega)
      refine z_sub (lv' := [(0, .ref (zad G 30 0)), (1, .ref (zad G 33 0)), (2, .int (zI a)), (3, .int (zI num)), (4, .int (zI k)), (5, .int (zI 0)), (6, .int (zI (8 * a)))]) [2, 3, 4, 5, 6, 1, 0] rfl ?_
      exact L27_3 (((8 * a + 8 - (8 * a) : Int)).toNat + 1) 0 (8 * a) (by omega) (by rw [show (8 * a - 8 * a).toNat = 0 by omega]; rfl) (by omega)
  refine z_sub (lv' := [(0, .ref (zad G 30 0)), (1, .ref (zad G 33 0)), (2, .int (zI a)), (3, .int (zI num)), (4, .int (zI (8 * a)))]) [1, 2, 3, 4, 0] rfl ?_
  exact L6_1 (((8 * a + 8 - (8 * a) : Int)).toNat + 1) (8 * a) (by omega) (by intro j hj; omega) (by omega)
