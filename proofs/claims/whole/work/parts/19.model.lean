set_option maxHeartbeats 4000000 in
set_option maxRecDepth 100000 in
theorem c_X8_delegate (l : Launch) (G : zG) (M : zMem) (hw : zWM M) (v b t : Int) (hv : zrg v) (hb : zrg b) (ht : zrg t) : Met l yX8_delegate [.code yX8_delegate cX8_delegate 6 (some .int)] (zR 3 0 0) (zPc G M [.ref (zad G 26 0), .int (zI v), .int (zI b), .int (zI t)]) (zQi G (fun x M' => (¬ (0 ≤ t ∧ t < 4) ∧ zthr M M' 1) ∨ ((0 ≤ t ∧ t < 4) ∧ ¬ zvp v b ∧ zthr M M' 2) ∨ ((0 ≤ t ∧ t < 4) ∧ zvp v b ∧ (∀ i : Nat, (i : Int) < zndn M → ¬ zndm M v b i) ∧ 12 ≤ zndn M ∧ zthr M M' 3) ∨ ((0 ≤ t ∧ t < 4) ∧ zvp v b ∧ ∃ M1, zthr M M1 0 ∧ ((∃ i : Nat, (i : Int) < zndn M ∧ zndm M v b i ∧ x = zndn M ∧ M' = zndp M1 i v b t (zndn M)) ∨ ((∀ i : Nat, (i : Int) < zndn M → ¬ zndm M v b i) ∧ zndn M < 12 ∧ x = zndn M + 1 ∧ M' = zndp M1 (zndn M).toNat v b t (zndn M + 1)))))) 0 0 (zA G) := by
  refine z_met [(0, .ref (zad G 26 0)), (1, .int (zI v)), (2, .int (zI b)), (3, .int (zI t))] (by decide) (Nat.le_of_ble_eq_true rfl) rfl ?_
  intro p e s m below meth c C
  have C : zC p s m ([.ref (zad G 26 0), .int (zI v), .int (zI b), .int (zI t)] : List Value).toArray meth c G RX8 cX8_delegate 6 (some .int) := C
  have hw9z := hw
  obtain ⟨w1, w2, w3, w4, w5, w6, w7, w8, w9, w10, w11, w12, w13, w14⟩ := hw9z
  have hn9 : zndn M = zV M 26 0 13 := rfl
  refine z_aload_n C 0 dX8_delegate_0 rfl 0 rfl ?_
  refine z_iload_n C 1 dX8_delegate_1 rfl 3 rfl ?_
  refine z_callSi C 2 (As := [.int (zI t)]) (rest := [.ref (zad G 26 0)]) (c_X8_isServer l G M t ht) (zS_of 1 C wm_8_158 wc_X8_isServer wini_8 wst_X8_isServer ⟨by decide, by decide, by decide⟩ ⟨by decide, by decide⟩) rfl (Nat.le_of_ble_eq_true rfl) ⟨by decide, by decide⟩ dX8_delegate_2 rfl (fun zq1 Mz2 hzq1 hPz1 => ?_)
  obtain ⟨rfl, hPz1⟩ := hPz1
  refine z_if_ne C 5 12 dX8_delegate_5 (by decide) hzq1 (fun c5_13 => ?_) (fun c5_13 => ?_)
  · have hcs := hPz1.t c5_13
    refine z_iload_n C 12 dX8_delegate_12 rfl 1 rfl ?_
    refine z_iload_n C 13 dX8_delegate_13 rfl 2 rfl ?_
    refine z_callSi C 14 (As := [.int (zI v), .int (zI b)]) (rest := [.ref (zad G 26 0)]) (c_X8_isPrefix l G M v b hv hb) (zS_of 2 C wm_8_125 wc_X8_isPrefix wini_8 wst_X8_isPrefix ⟨by decide, by decide, by decide⟩ ⟨by decide, by decide⟩) rfl (Nat.le_of_ble_eq_true rfl) ⟨by decide, by decide⟩ dX8_delegate_14 rfl (fun zq3 Mz4 hzq3 hPz3 => ?_)
    obtain ⟨rfl, hPz3⟩ := hPz3
    refine z_if_eq C 17 24 dX8_delegate_17 (by decide) hzq3 (fun c17_20 => ?_) (fun c17_20 => ?_)
    · refine z_iconst C 24 dX8_delegate_24 ?_
      refine z_putI C 25 zcl8 (show 0 < 1 by omega) (zc26 ..) 0 (by decide) wf_8_99 rfl rfl rfl (Nat.le_of_ble_eq_true rfl) (zc26 ..) dX8_delegate_25 ?_
      refine z_aload_n C 28 dX8_delegate_28 rfl 0 rfl ?_
      refine z_getI C 29 zcl8 (show 0 < 1 by omega) (zc26 ..) 0 (by decide) rfl wf_8_99 dX8_delegate_29 (fun zq5 ezq5 hzq5 => ?_)
      rw [zV_eq (by first | assumption | decide | omega)] at ezq5
      subst ezq5
      refine z_if_le C 32 37 dX8_delegate_32 (by decide) (by decide) (fun c32_28 => ?_) (fun c32_28 => ?_)
      · exact absurd c32_28 (by decide)
      refine z_iconst C 35 dX8_delegate_35 ?_
      refine z_iret C 36 dX8_delegate_36 (by decide) (by decide) (by decide) ?_
      first | exact Or.inl ⟨hPz1.f (by assumption), zthr_1 _ (by decide)⟩ | exact Or.inr (Or.inl ⟨hcs, hPz3.f (by assumption), zthr_1 _ (by decide)⟩)
    have hvp := hPz3.t c17_20
    refine z_iconst C 20 dX8_delegate_20 ?_
    refine z_goto C 21 25 dX8_delegate_21 (by decide) ?_
    refine z_putI C 25 zcl8 (show 0 < 1 by omega) (zc26 ..) 0 (by decide) wf_8_99 rfl rfl rfl (Nat.le_of_ble_eq_true rfl) (zc26 ..) dX8_delegate_25 ?_
    refine z_aload_n C 28 dX8_delegate_28 rfl 0 rfl ?_
    refine z_getI C 29 zcl8 (show 0 < 1 by omega) (zc26 ..) 0 (by decide) rfl wf_8_99 dX8_delegate_29 (fun zq6 ezq6 hzq6 => ?_)
    rw [zV_eq (by first | assumption | decide | omega)] at ezq6
    subst ezq6
    refine z_if_le C 32 37 dX8_delegate_32 (by decide) (by decide) (fun c32_40 => ?_) (fun c32_40 => ?_)
    rotate_left
    · exact absurd c32_40 (by decide)
    refine z_aload_n C 37 dX8_delegate_37 rfl 0 rfl ?_
    refine z_getI C 38 zcl8 (show 0 < 1 by omega) (zc26 ..) 13 (by decide) rfl wf_8_161 dX8_delegate_38 (fun zq7 ezq7 hzq7 => ?_)
    rw [zV_nj (by decide)] at ezq7
    refine z_istore (lv' := [(4, .int (zI zq7)), (0, .ref (zad G 26 0)), (1, .int (zI v)), (2, .int (zI b)), (3, .int (zI t))]) C 41 dX8_delegate_41 (by decide) rfl ?_
    refine z_iconst C 43 dX8_delegate_43 ?_
    refine z_istore (lv' := [(5, .int (zI 0)), (4, .int (zI zq7)), (0, .ref (zad G 26 0)), (1, .int (zI v)), (2, .int (zI b)), (3, .int (zI t))]) C 44 dX8_delegate_44 (by decide) rfl ?_
    have L46_8 : ∀ (kz8 : Nat) (f : Int) (k : Int), (0 ≤ k ∧ k ≤ zV M 26 0 13) → ((f = zV M 26 0 13 ∧ ∀ i : Nat, (i : Int) < k → ¬ zndm M v b i) ∨ ∃ i : Nat, f = (i : Int) ∧ (i : Int) < zV M 26 0 13 ∧ zndm M v b i) → (0 ≤ f ∧ f ≤ zV M 26 0 13) → (zV M 26 0 13 - k) < (kz8 : Int) → zZ p l e (zR 3 0 0) s m ([.ref (zad G 26 0), .int (zI v), .int (zI b), .int (zI t)] : List Value).toArray below meth c G 6 (MQ below (zQi G (fun x M' => (¬ (0 ≤ t ∧ t < 4) ∧ zthr M M' 1) ∨ ((0 ≤ t ∧ t < 4) ∧ ¬ zvp v b ∧ zthr M M' 2) ∨ ((0 ≤ t ∧ t < 4) ∧ zvp v b ∧ (∀ i : Nat, (i : Int) < zndn M → ¬ zndm M v b i) ∧ 12 ≤ zndn M ∧ zthr M M' 3) ∨ ((0 ≤ t ∧ t < 4) ∧ zvp v b ∧ ∃ M1, zthr M M1 0 ∧ ((∃ i : Nat, (i : Int) < zndn M ∧ zndm M v b i ∧ x = zndn M ∧ M' = zndp M1 i v b t (zndn M)) ∨ ((∀ i : Nat, (i : Int) < zndn M → ¬ zndm M v b i) ∧ zndn M < 12 ∧ x = zndn M + 1 ∧ M' = zndp M1 (zndn M).toNat v b t (zndn M + 1)))))) ([.ref (zad G 26 0), .int (zI v), .int (zI b), .int (zI t)] : List Value).toArray s 0 0 (zA G)) (zup M 26 0 0 (zI 0)) 0 0 46 [(0, .ref (zad G 26 0)), (1, .int (zI v)), (2, .int (zI b)), (3, .int (zI t)), (4, .int (zI f)), (5, .int (zI k))] [] := by
      intro kz8
      induction kz8 with
      | zero =>
        intro f k g0 g1 g2 hk
        exact absurd hk (by omega)
      | succ kz8 ihz9 =>
        intro f k g0 g1 g2 hk
        refine z_iload C 46 dX8_delegate_46 5 rfl ?_
        refine z_aload_n C 48 dX8_delegate_48 rfl 0 rfl ?_
        refine z_getI C 49 zcl8 (show 0 < 1 by omega) (zc26 ..) 13 (by decide) rfl wf_8_161 dX8_delegate_49 (fun zq10 ezq10 hzq10 => ?_)
        rw [zV_nj (by decide)] at ezq10
        refine z_icmp_ge C 52 92 dX8_delegate_52 (by decide) (by first | assumption | omega) hzq10 (fun c52_61 => ?_) (fun c52_61 => ?_)
        · refine z_aload_n C 92 dX8_delegate_92 rfl 0 rfl ?_
          refine z_iload C 93 dX8_delegate_93 4 rfl ?_
          refine z_bipush C 95 dX8_delegate_95 (by decide +kernel) ?_
          refine z_icmp_ne C 97 104 dX8_delegate_97 (by decide) (by first | assumption | omega) (by decide) (fun c97_66 => ?_) (fun c97_66 => ?_)
          · refine z_iconst C 104 dX8_delegate_104 ?_
            refine z_putI C 105 zcl8 (show 0 < 1 by omega) (zc26 ..) 0 (by decide) wf_8_99 rfl rfl rfl (Nat.le_of_ble_eq_true rfl) (zc26 ..) dX8_delegate_105 ?_
            refine z_aload_n C 108 dX8_delegate_108 rfl 0 rfl ?_
            refine z_getI C 109 zcl8 (show 0 < 1 by omega) (zc26 ..) 0 (by decide) rfl wf_8_99 dX8_delegate_109 (fun zq11 ezq11 hzq11 => ?_)
            rw [zV_eq (by first | assumption | decide | omega)] at ezq11
            subst ezq11
            refine z_if_le C 112 117 dX8_delegate_112 (by decide) (by decide) (fun c112_74 => ?_) (fun c112_74 => ?_)
            rotate_left
            · exact absurd c112_74 (by decide)
            refine z_aload_n C 117 dX8_delegate_117 rfl 0 rfl ?_
            refine z_get C 118 zcl8 (show 0 < 1 by omega) (zc26 ..) 14 (by decide) rfl wf_8_42 dX8_delegate_118 ?_
            refine z_iload C 121 dX8_delegate_121 4 rfl ?_
            refine z_iload_n C 123 dX8_delegate_123 rfl 1 rfl ?_
            refine z_iast C 124 (show 0 < 1 by omega) (zc44 ..) (by first | assumption | omega) (by omega) (show f < ((12 : Nat) : Int) by omega) (zc44 ..) dX8_delegate_124 ?_
            refine z_aload_n C 125 dX8_delegate_125 rfl 0 rfl ?_
            refine z_get C 126 zcl8 (show 0 < 1 by omega) (zc26 ..) 15 (by decide) rfl wf_8_45 dX8_delegate_126 ?_
            refine z_iload C 129 dX8_delegate_129 4 rfl ?_
            refine z_iload_n C 131 dX8_delegate_131 rfl 2 rfl ?_
            refine z_iast C 132 (show 0 < 1 by omega) (zc45 ..) (by first | assumption | omega) (by omega) (show f < ((12 : Nat) : Int) by omega) (zc45 ..) dX8_delegate_132 ?_
            refine z_aload_n C 133 dX8_delegate_133 rfl 0 rfl ?_
            refine z_get C 134 zcl8 (show 0 < 1 by omega) (zc26 ..) 16 (by decide) rfl wf_8_48 dX8_delegate_134 ?_
            refine z_iload C 137 dX8_delegate_137 4 rfl ?_
            refine z_iload_n C 139 dX8_delegate_139 rfl 3 rfl ?_
            refine z_iast C 140 (show 0 < 1 by omega) (zc46 ..) (by first | assumption | omega) (by omega) (show f < ((12 : Nat) : Int) by omega) (zc46 ..) dX8_delegate_140 ?_
            refine z_aload_n C 141 dX8_delegate_141 rfl 0 rfl ?_
            refine z_dup C 142 dX8_delegate_142 rfl ?_
            refine z_getI C 143 zcl8 (show 0 < 1 by omega) (zc26 ..) 13 (by decide) rfl wf_8_161 dX8_delegate_143 (fun zq12 ezq12 hzq12 => ?_)
            rw [zV_ne (by decide)] at ezq12
            rw [zV_ne (by decide)] at ezq12
            rw [zV_ne (by decide)] at ezq12
            rw [zV_nj (by decide)] at ezq12
            rw [zV_nj (by decide)] at ezq12
            refine z_iload C 146 dX8_delegate_146 4 rfl ?_
            refine z_aload_n C 148 dX8_delegate_148 rfl 0 rfl ?_
            refine z_getI C 149 zcl8 (show 0 < 1 by omega) (zc26 ..) 13 (by decide) rfl wf_8_161 dX8_delegate_149 (fun zq13 ezq13 hzq13 => ?_)
            rw [zV_ne (by decide)] at ezq13
            rw [zV_ne (by decide)] at ezq13
            rw [zV_ne (by decide)] at ezq13
            rw [zV_nj (by decide)] at ezq13
            rw [zV_nj (by decide)] at ezq13
            refine z_icmp_ne C 152 159 dX8_delegate_152 (by decide) (by first | assumption | omega) hzq13 (fun c152_108 => ?_) (fun c152_108 => ?_)
            · refine z_iconst C 159 dX8_delegate_159 ?_
              refine z_iadd C 160 dX8_delegate_160 ?_
              refine z_putI C 161 zcl8 (show 0 < 1 by omega) (zc26 ..) 13 (by decide) wf_8_161 rfl rfl rfl (Nat.le_of_ble_eq_true rfl) (zc26 ..) dX8_delegate_161 ?_
              refine z_aload_n C 164 dX8_delegate_164 rfl 0 rfl ?_
              refine z_getI C 165 zcl8 (show 0 < 1 by omega) (zc26 ..) 13 (by decide) rfl wf_8_161 dX8_delegate_165 (fun zq14 ezq14 hzq14 => ?_)
              rw [zV_eq (by first | assumption | decide | omega)] at ezq14
              refine z_iret C 168 dX8_delegate_168 (by decide) (by decide) hzq14 ?_
              refine Or.inr (Or.inr (Or.inr ⟨hcs, hvp, _, zthr_2 _ (zI 0) (by decide), ?_⟩))
              rcases g1 with ⟨z1, z2⟩ | ⟨i, z1, z2, z3⟩
              · first | (exfalso; omega) | (refine Or.inr ⟨fun i hi => z2 i (by omega), by omega, by omega, ?_⟩; unfold zndp; rw [show f.toNat = (zndn M).toNat by omega, ezq12, ← hn9])
              · first | (exfalso; omega) | (refine Or.inl ⟨i, by omega, z3, by omega, ?_⟩; unfold zndp; rw [show f.toNat = i by omega, ezq12, ← hn9, Int.add_zero])
            refine z_iconst C 155 dX8_delegate_155 ?_
            refine z_goto C 156 160 dX8_delegate_156 (by decide) ?_
            refine z_iadd C 160 dX8_delegate_160 ?_
            refine z_putI C 161 zcl8 (show 0 < 1 by omega) (zc26 ..) 13 (by decide) wf_8_161 rfl rfl rfl (Nat.le_of_ble_eq_true rfl) (zc26 ..) dX8_delegate_161 ?_
            refine z_aload_n C 164 dX8_delegate_164 rfl 0 rfl ?_
            refine z_getI C 165 zcl8 (show 0 < 1 by omega) (zc26 ..) 13 (by decide) rfl wf_8_161 dX8_delegate_165 (fun zq15 ezq15 hzq15 => ?_)
            rw [zV_eq (by first | assumption | decide | omega)] at ezq15
            refine z_iret C 168 dX8_delegate_168 (by decide) (by decide) hzq15 ?_
            refine Or.inr (Or.inr (Or.inr ⟨hcs, hvp, _, zthr_2 _ (zI 0) (by decide), ?_⟩))
            rcases g1 with ⟨z1, z2⟩ | ⟨i, z1, z2, z3⟩
            · first | (exfalso; omega) | (refine Or.inr ⟨fun i hi => z2 i (by omega), by omega, by omega, ?_⟩; unfold zndp; rw [show f.toNat = (zndn M).toNat by omega, ezq12, ← hn9])
            · first | (exfalso; omega) | (refine Or.inl ⟨i, by omega, z3, by omega, ?_⟩; unfold zndp; rw [show f.toNat = i by omega, ezq12, ← hn9, Int.add_zero])
          refine z_iconst C 100 dX8_delegate_100 ?_
          refine z_goto C 101 105 dX8_delegate_101 (by decide) ?_
          refine z_putI C 105 zcl8 (show 0 < 1 by omega) (zc26 ..) 0 (by decide) wf_8_99 rfl rfl rfl (Nat.le_of_ble_eq_true rfl) (zc26 ..) dX8_delegate_105 ?_
          refine z_aload_n C 108 dX8_delegate_108 rfl 0 rfl ?_
          refine z_getI C 109 zcl8 (show 0 < 1 by omega) (zc26 ..) 0 (by decide) rfl wf_8_99 dX8_delegate_109 (fun zq16 ezq16 hzq16 => ?_)
          rw [zV_eq (by first | assumption | decide | omega)] at ezq16
          subst ezq16
          refine z_if_le C 112 117 dX8_delegate_112 (by decide) (by decide) (fun c112_138 => ?_) (fun c112_138 => ?_)
          · exact absurd c112_138 (by decide)
          refine z_iconst C 115 dX8_delegate_115 ?_
          refine z_iret C 116 dX8_delegate_116 (by decide) (by decide) (by decide) ?_
          rcases g1 with ⟨z1, z2⟩ | ⟨i, z1, z2, z3⟩
          · exact Or.inr (Or.inr (Or.inl ⟨hcs, hvp, fun i hi => z2 i (by omega), by omega, zthr_2 _ _ (by decide)⟩))
          · omega
        refine z_aload_n C 55 dX8_delegate_55 rfl 0 rfl ?_
        refine z_get C 56 zcl8 (show 0 < 1 by omega) (zc26 ..) 14 (by decide) rfl wf_8_42 dX8_delegate_56 ?_
        refine z_iload C 59 dX8_delegate_59 5 rfl ?_
        refine z_iald C 61 (show 0 < 1 by omega) (zc44 ..) (by first | assumption | omega) (by omega) (show k < ((12 : Nat) : Int) by omega) dX8_delegate_61 (fun zq17 ezq17 hzq17 => ?_)
        rw [zV_ne (by decide)] at ezq17
        refine z_iload_n C 62 dX8_delegate_62 rfl 1 rfl ?_
        refine z_icmp_ne C 63 82 dX8_delegate_63 (by decide) hzq17 (by first | assumption | omega) (fun c63_150 => ?_) (fun c63_150 => ?_)
        · have hS : ¬ zndm M v b k.toNat := fun z => by have z1 : zV M 44 0 k.toNat = v := z.1; have z2 : zV M 45 0 k.toNat = b := z.2; omega
          refine z_iload C 82 dX8_delegate_82 4 rfl ?_
          refine z_istore (lv' := [(4, .int (zI f)), (0, .ref (zad G 26 0)), (1, .int (zI v)), (2, .int (zI b)), (3, .int (zI t)), (5, .int (zI k))]) C 84 dX8_delegate_84 (by decide) rfl ?_
          refine z_iinc (lv' := [(5, .int (zI (k + 1))), (4, .int (zI f)), (0, .ref (zad G 26 0)), (1, .int (zI v)), (2, .int (zI b)), (3, .int (zI t))]) C 86 dX8_delegate_86 5 rfl (by decide) rfl ?_
          refine z_goto C 89 46 dX8_delegate_89 (by decide) ?_
          refine z_sub (lv' := [(0, .ref (zad G 26 0)), (1, .int (zI v)), (2, .int (zI b)), (3, .int (zI t)), (4, .int (zI f)), (5, .int (zI (k + 1)))]) [2, 3, 4, 5, 1, 0] rfl ?_
          exact ihz9 f (k + 1) (by omega) (by rcases g1 with ⟨z1, z2⟩ | z1; exact Or.inl ⟨z1, fun i hi => (Int.lt_or_le (i : Int) k).elim (z2 i) (fun q => by rw [show i = k.toNat by omega]; exact hS)⟩; exact Or.inr z1) (by omega) (by omega)
        refine z_aload_n C 66 dX8_delegate_66 rfl 0 rfl ?_
        refine z_get C 67 zcl8 (show 0 < 1 by omega) (zc26 ..) 15 (by decide) rfl wf_8_45 dX8_delegate_67 ?_
        refine z_iload C 70 dX8_delegate_70 5 rfl ?_
        refine z_iald C 72 (show 0 < 1 by omega) (zc45 ..) (by first | assumption | omega) (by omega) (show k < ((12 : Nat) : Int) by omega) dX8_delegate_72 (fun zq18 ezq18 hzq18 => ?_)
        rw [zV_ne (by decide)] at ezq18
        refine z_iload_n C 73 dX8_delegate_73 rfl 2 rfl ?_
        refine z_icmp_ne C 74 82 dX8_delegate_74 (by decide) hzq18 (by first | assumption | omega) (fun c74_164 => ?_) (fun c74_164 => ?_)
        · have hS : ¬ zndm M v b k.toNat := fun z => by have z1 : zV M 44 0 k.toNat = v := z.1; have z2 : zV M 45 0 k.toNat = b := z.2; omega
          refine z_iload C 82 dX8_delegate_82 4 rfl ?_
          refine z_istore (lv' := [(4, .int (zI f)), (0, .ref (zad G 26 0)), (1, .int (zI v)), (2, .int (zI b)), (3, .int (zI t)), (5, .int (zI k))]) C 84 dX8_delegate_84 (by decide) rfl ?_
          refine z_iinc (lv' := [(5, .int (zI (k + 1))), (4, .int (zI f)), (0, .ref (zad G 26 0)), (1, .int (zI v)), (2, .int (zI b)), (3, .int (zI t))]) C 86 dX8_delegate_86 5 rfl (by decide) rfl ?_
          refine z_goto C 89 46 dX8_delegate_89 (by decide) ?_
          refine z_sub (lv' := [(0, .ref (zad G 26 0)), (1, .int (zI v)), (2, .int (zI b)), (3, .int (zI t)), (4, .int (zI f)), (5, .int (zI (k + 1)))]) [2, 3, 4, 5, 1, 0] rfl ?_
          exact ihz9 f (k + 1) (by omega) (by rcases g1 with ⟨z1, z2⟩ | z1; exact Or.inl ⟨z1, fun i hi => (Int.lt_or_le (i : Int) k).elim (z2 i) (fun q => by rw [show i = k.toNat by omega]; exact hS)⟩; exact Or.inr z1) (by omega) (by omega)
        refine z_iload C 77 dX8_delegate_77 5 rfl ?_
        refine z_goto C 79 84 dX8_delegate_79 (by decide) ?_
        refine z_istore (lv' := [(4, .int (zI k)), (0, .ref (zad G 26 0)), (1, .int (zI v)), (2, .int (zI b)), (3, .int (zI t)), (5, .int (zI k))]) C 84 dX8_delegate_84 (by decide) rfl ?_
        refine z_iinc (lv' := [(5, .int (zI (k + 1))), (4, .int (zI k)), (0, .ref (zad G 26 0)), (1, .int (zI v)), (2, .int (zI b)), (3, .int (zI t))]) C 86 dX8_delegate_86 5 rfl (by decide) rfl ?_
        refine z_goto C 89 46 dX8_delegate_89 (by decide) ?_
        refine z_sub (lv' := [(0, .ref (zad G 26 0)), (1, .int (zI v)), (2, .int (zI b)), (3, .int (zI t)), (4, .int (zI k)), (5, .int (zI (k + 1)))]) [2, 3, 4, 5, 1, 0] rfl ?_
        exact ihz9 k (k + 1) (by omega) (by exact Or.inr ⟨k.toNat, by omega, by omega, by show zV M 44 0 k.toNat = v; omega, by show zV M 45 0 k.toNat = b; omega⟩) (by omega) (by omega)
    refine z_sub (lv' := [(0, .ref (zad G 26 0)), (1, .int (zI v)), (2, .int (zI b)), (3, .int (zI t)), (4, .int (zI zq7)), (5, .int (zI 0))]) [2, 3, 4, 5, 1, 0] rfl ?_
    exact L46_8 (((zV M 26 0 13 - 0 : Int)).toNat + 1) zq7 0 (by omega) (by exact Or.inl ⟨by omega, fun i h => absurd h (by omega)⟩) (by omega) (by omega)
  refine z_iconst C 8 dX8_delegate_8 ?_
  refine z_goto C 9 25 dX8_delegate_9 (by decide) ?_
  refine z_putI C 25 zcl8 (show 0 < 1 by omega) (zc26 ..) 0 (by decide) wf_8_99 rfl rfl rfl (Nat.le_of_ble_eq_true rfl) (zc26 ..) dX8_delegate_25 ?_
  refine z_aload_n C 28 dX8_delegate_28 rfl 0 rfl ?_
  refine z_getI C 29 zcl8 (show 0 < 1 by omega) (zc26 ..) 0 (by decide) rfl wf_8_99 dX8_delegate_29 (fun zq19 ezq19 hzq19 => ?_)
  rw [zV_eq (by first | assumption | decide | omega)] at ezq19
  subst ezq19
  refine z_if_le C 32 37 dX8_delegate_32 (by decide) (by decide) (fun c32_187 => ?_) (fun c32_187 => ?_)
  · exact absurd c32_187 (by decide)
  refine z_iconst C 35 dX8_delegate_35 ?_
  refine z_iret C 36 dX8_delegate_36 (by decide) (by decide) (by decide) ?_
  first | exact Or.inl ⟨hPz1.f (by assumption), zthr_1 _ (by decide)⟩ | exact Or.inr (Or.inl ⟨hcs, hPz3.f (by assumption), zthr_1 _ (by decide)⟩)
set_option maxHeartbeats 4000000 in
set_option maxRecDepth 100000 in
theorem c_X8_setUp (l : Launch) (G : zG) (M : zMem) (t u : Int) (ht : zrg t) (hu : u = 0 ∨ u = 1) : Met l yX8_setUp [.code yX8_setUp cX8_setUp 4 (some .boolean)] (zR 2 0 0) (zPc G M [.ref (zad G 26 0), .int (zI t), .int (zI u)]) (zQi G (fun x M' => (¬ (0 ≤ t ∧ t < 4) ∧ zthr M M' 1) ∨ ((0 ≤ t ∧ t < 4) ∧ x = (if zV M 47 0 t.toNat = 0 then 1 else 0) ∧ ∃ M1, zthr M M1 0 ∧ M' = zup M1 47 0 t.toNat (zI (if u = 0 then 1 else 0))))) 0 0 (zA G) := by
  refine z_met [(0, .ref (zad G 26 0)), (1, .int (zI t)), (2, .int (zI u))] (by decide) (Nat.le_of_ble_eq_true rfl) rfl ?_
  intro p e s m below meth c C
  have C : zC p s m ([.ref (zad G 26 0), .int (zI t), .int (zI u)] : List Value).toArray meth c G RX8 cX8_setUp 4 (some .boolean) := C
  refine z_aload_n C 0 dX8_setUp_0 rfl 0 rfl ?_
  refine z_iload_n C 1 dX8_setUp_1 rfl 1 rfl ?_
  refine z_callSi C 2 (As := [.int (zI t)]) (rest := [.ref (zad G 26 0)]) (c_X8_isServer l G M t ht) (zS_of 1 C wm_8_158 wc_X8_isServer wini_8 wst_X8_isServer ⟨by decide, by decide, by decide⟩ ⟨by decide, by decide⟩) rfl (Nat.le_of_ble_eq_true rfl) ⟨by decide, by decide⟩ dX8_setUp_2 rfl (fun zq1 Mz2 hzq1 hPz1 => ?_)
  obtain ⟨rfl, hPz1⟩ := hPz1
  refine z_if_eq C 5 12 dX8_setUp_5 (by decide) hzq1 (fun c5_10 => ?_) (fun c5_10 => ?_)
  · refine z_iconst C 12 dX8_setUp_12 ?_
    refine z_putI C 13 zcl8 (show 0 < 1 by omega) (zc26 ..) 0 (by decide) wf_8_99 rfl rfl rfl (Nat.le_of_ble_eq_true rfl) (zc26 ..) dX8_setUp_13 ?_
    refine z_aload_n C 16 dX8_setUp_16 rfl 0 rfl ?_
    refine z_getI C 17 zcl8 (show 0 < 1 by omega) (zc26 ..) 0 (by decide) rfl wf_8_99 dX8_setUp_17 (fun zq3 ezq3 hzq3 => ?_)
    rw [zV_eq (by first | assumption | decide | omega)] at ezq3
    subst ezq3
    refine z_if_le C 20 25 dX8_setUp_20 (by decide) (by decide) (fun c20_18 => ?_) (fun c20_18 => ?_)
    · exact absurd c20_18 (by decide)
    refine z_iconst C 23 dX8_setUp_23 ?_
    refine z_zret C 24 dX8_setUp_24 (by decide) (by decide) (by decide) ?_
    exact Or.inl ⟨hPz1.f (by assumption), zthr_1 _ (by decide)⟩
  have hcs := hPz1.t c5_10
  refine z_iconst C 8 dX8_setUp_8 ?_
  refine z_goto C 9 13 dX8_setUp_9 (by decide) ?_
  refine z_putI C 13 zcl8 (show 0 < 1 by omega) (zc26 ..) 0 (by decide) wf_8_99 rfl rfl rfl (Nat.le_of_ble_eq_true rfl) (zc26 ..) dX8_setUp_13 ?_
  refine z_aload_n C 16 dX8_setUp_16 rfl 0 rfl ?_
  refine z_getI C 17 zcl8 (show 0 < 1 by omega) (zc26 ..) 0 (by decide) rfl wf_8_99 dX8_setUp_17 (fun zq4 ezq4 hzq4 => ?_)
  rw [zV_eq (by first | assumption | decide | omega)] at ezq4
  subst ezq4
  refine z_if_le C 20 25 dX8_setUp_20 (by decide) (by decide) (fun c20_30 => ?_) (fun c20_30 => ?_)
  rotate_left
  · exact absurd c20_30 (by decide)
  refine z_aload_n C 25 dX8_setUp_25 rfl 0 rfl ?_
  refine z_get C 26 zcl8 (show 0 < 1 by omega) (zc26 ..) 17 (by decide) rfl wf_8_51 dX8_setUp_26 ?_
  refine z_iload_n C 29 dX8_setUp_29 rfl 1 rfl ?_
  refine z_zald C 30 (show 0 < 1 by omega) (zc47 ..) (by first | assumption | omega) (by omega) (show t < ((4 : Nat) : Int) by omega) dX8_setUp_30 (fun zq5 ezq5 hzq5 => ?_)
  rw [zV_ne (by decide)] at ezq5
  refine z_if_ne C 31 38 dX8_setUp_31 (by decide) hzq5 (fun c31_38 => ?_) (fun c31_38 => ?_)
  · refine z_iconst C 38 dX8_setUp_38 ?_
    refine z_istore_n (lv' := [(3, .int (zI 0)), (0, .ref (zad G 26 0)), (1, .int (zI t)), (2, .int (zI u))]) C 39 dX8_setUp_39 rfl (by decide) rfl ?_
    refine z_aload_n C 40 dX8_setUp_40 rfl 1 rfl ?_
    refine z_get C 41 zcl8 (show 0 < 1 by omega) (zc26 ..) 17 (by decide) rfl wf_8_51 dX8_setUp_41 ?_
    refine z_iload_n C 44 dX8_setUp_44 rfl 2 rfl ?_
    refine z_iload_n C 45 dX8_setUp_45 rfl 3 rfl ?_
    refine z_if_ne C 46 53 dX8_setUp_46 (by decide) (by first | assumption | omega) (fun c46_46 => ?_) (fun c46_46 => ?_)
    · refine z_iconst C 53 dX8_setUp_53 ?_
      refine z_zast C 54 (show 0 < 1 by omega) (zc47 ..) (by first | assumption | omega) (by omega) (show t < ((4 : Nat) : Int) by omega) (by first | assumption | omega) (zc47 ..) dX8_setUp_54 ?_
      refine z_iload_n C 55 dX8_setUp_55 rfl 0 rfl ?_
      refine z_zret C 56 dX8_setUp_56 (by decide) (by decide) (by decide) ?_
      refine Or.inr ⟨hcs, ?_, _, zthr_1 _ (by decide), ?_⟩
      · first | rw [if_pos (by omega)] | rw [if_neg (by omega)]
      · first | rw [if_pos (by omega)] | rw [if_neg (by omega)]
    refine z_iconst C 49 dX8_setUp_49 ?_
    refine z_goto C 50 54 dX8_setUp_50 (by decide) ?_
    refine z_zast C 54 (show 0 < 1 by omega) (zc47 ..) (by first | assumption | omega) (by omega) (show t < ((4 : Nat) : Int) by omega) (by first | assumption | omega) (zc47 ..) dX8_setUp_54 ?_
    refine z_iload_n C 55 dX8_setUp_55 rfl 0 rfl ?_
    refine z_zret C 56 dX8_setUp_56 (by decide) (by decide) (by decide) ?_
    refine Or.inr ⟨hcs, ?_, _, zthr_1 _ (by decide), ?_⟩
    · first | rw [if_pos (by omega)] | rw [if_neg (by omega)]
    · first | rw [if_pos (by omega)] | rw [if_neg (by omega)]
  refine z_iconst C 34 dX8_setUp_34 ?_
  refine z_goto C 35 39 dX8_setUp_35 (by decide) ?_
  refine z_istore_n (lv' := [(3, .int (zI 1)), (0, .ref (zad G 26 0)), (1, .int (zI t)), (2, .int (zI u))]) C 39 dX8_setUp_39 rfl (by decide) rfl ?_
  refine z_aload_n C 40 dX8_setUp_40 rfl 1 rfl ?_
  refine z_get C 41 zcl8 (show 0 < 1 by omega) (zc26 ..) 17 (by decide) rfl wf_8_51 dX8_setUp_41 ?_
  refine z_iload_n C 44 dX8_setUp_44 rfl 2 rfl ?_
  refine z_iload_n C 45 dX8_setUp_45 rfl 3 rfl ?_
  refine z_if_ne C 46 53 dX8_setUp_46 (by decide) (by first | assumption | omega) (fun c46_68 => ?_) (fun c46_68 => ?_)
  · refine z_iconst C 53 dX8_setUp_53 ?_
    refine z_zast C 54 (show 0 < 1 by omega) (zc47 ..) (by first | assumption | omega) (by omega) (show t < ((4 : Nat) : Int) by omega) (by first | assumption | omega) (zc47 ..) dX8_setUp_54 ?_
    refine z_iload_n C 55 dX8_setUp_55 rfl 0 rfl ?_
    refine z_zret C 56 dX8_setUp_56 (by decide) (by decide) (by decide) ?_
    refine Or.inr ⟨hcs, ?_, _, zthr_1 _ (by decide), ?_⟩
    · first | rw [if_pos (by omega)] | rw [if_neg (by omega)]
    · first | rw [if_pos (by omega)] | rw [if_neg (by omega)]
  refine z_iconst C 49 dX8_setUp_49 ?_
  refine z_goto C 50 54 dX8_setUp_50 (by decide) ?_
  refine z_zast C 54 (show 0 < 1 by omega) (zc47 ..) (by first | assumption | omega) (by omega) (show t < ((4 : Nat) : Int) by omega) (by first | assumption | omega) (zc47 ..) dX8_setUp_54 ?_
  refine z_iload_n C 55 dX8_setUp_55 rfl 0 rfl ?_
  refine z_zret C 56 dX8_setUp_56 (by decide) (by decide) (by decide) ?_
  refine Or.inr ⟨hcs, ?_, _, zthr_1 _ (by decide), ?_⟩
  · first | rw [if_pos (by omega)] | rw [if_neg (by omega)]
  · first | rw [if_pos (by omega)] | rw [if_neg (by omega)]
set_option maxHeartbeats 4000000 in
set_option maxRecDepth 100000 in
theorem c_X8_serverFor (l : Launch) (G : zG) (M : zMem) (hw : zWM M) (id : Int) (hid : 0 ≤ id ∧ id < 65536) : Met l yX8_serverFor [.code yX8_serverFor cX8_serverFor 5 (some .int)] (zR 2 0 0) (zPc G M [.ref (zad G 26 0), .int (zI id)]) (zQi G (fun x M' => M = M' ∧ ∃ y : Int, zfnd (zndv M) (zndl M) z0 (zndn M) id y ∧ x = zsv (zndt M) y)) 0 0 (zA G) := by
  refine z_met [(0, .ref (zad G 26 0)), (1, .int (zI id))] (by decide) (Nat.le_of_ble_eq_true rfl) rfl ?_
  intro p e s m below meth c C
  have C : zC p s m ([.ref (zad G 26 0), .int (zI id)] : List Value).toArray meth c G RX8 cX8_serverFor 5 (some .int) := C
  have hw9z := hw
  obtain ⟨w1, w2, w3, w4, w5, w6, w7, w8, w9, w10, w11, w12, w13, w14⟩ := hw9z
  refine z_iconst C 0 dX8_serverFor_0 ?_
  refine z_istore_n (lv' := [(2, .int (zI (-1))), (0, .ref (zad G 26 0)), (1, .int (zI id))]) C 1 dX8_serverFor_1 rfl (by decide) rfl ?_
  refine z_iconst C 2 dX8_serverFor_2 ?_
  refine z_istore_n (lv' := [(3, .int (zI 0)), (2, .int (zI (-1))), (0, .ref (zad G 26 0)), (1, .int (zI id))]) C 3 dX8_serverFor_3 rfl (by decide) rfl ?_
  have L4_1 : ∀ (kz1 : Nat) (f : Int) (k : Int) (bl : Int), (0 ≤ k ∧ k ≤ zV M 26 0 13) → (zfndk (zndv M) (zndl M) z0 (zndn M) id k f bl) → ((f = -1 ∧ bl = -1) ∨ (0 ≤ f ∧ f < 12 ∧ bl = zV M 45 0 f.toNat)) → (zV M 26 0 13 - k) < (kz1 : Int) → zZ p l e (zR 2 0 0) s m ([.ref (zad G 26 0), .int (zI id)] : List Value).toArray below meth c G 5 (MQ below (zQi G (fun x M' => M = M' ∧ ∃ y : Int, zfnd (zndv M) (zndl M) z0 (zndn M) id y ∧ x = zsv (zndt M) y)) ([.ref (zad G 26 0), .int (zI id)] : List Value).toArray s 0 0 (zA G)) M 0 0 4 [(0, .ref (zad G 26 0)), (1, .int (zI id)), (2, .int (zI f)), (3, .int (zI k))] [] := by
    intro kz1
    induction kz1 with
    | zero =>
      intro f k bl g0 g1 g2 hk
      exact absurd hk (by omega)
    | succ kz1 ihz2 =>
      intro f k bl g0 g1 g2 hk
      have hpk := w5 k.toNat
      refine z_iload_n C 4 dX8_serverFor_4 rfl 3 rfl ?_
      refine z_aload_n C 5 dX8_serverFor_5 rfl 0 rfl ?_
      refine z_getI C 6 zcl8 (show 0 < 1 by omega) (zc26 ..) 13 (by decide) rfl wf_8_161 dX8_serverFor_6 (fun zq3 ezq3 hzq3 => ?_)
      refine z_icmp_ge C 9 67 dX8_serverFor_9 (by decide) (by first | assumption | omega) hzq3 (fun c9_24 => ?_) (fun c9_24 => ?_)
      · refine z_iload_n C 67 dX8_serverFor_67 rfl 2 rfl ?_
        refine z_iconst C 68 dX8_serverFor_68 ?_
        refine z_icmp_ne C 69 76 dX8_serverFor_69 (by decide) (by first | assumption | omega) (by decide) (fun c69_28 => ?_) (fun c69_28 => ?_)
        · refine z_aload_n C 76 dX8_serverFor_76 rfl 0 rfl ?_
          refine z_get C 77 zcl8 (show 0 < 1 by omega) (zc26 ..) 16 (by decide) rfl wf_8_48 dX8_serverFor_77 ?_
          refine z_iload_n C 80 dX8_serverFor_80 rfl 2 rfl ?_
          refine z_iald C 81 (show 0 < 1 by omega) (zc46 ..) (by first | assumption | omega) (by omega) (show f < ((12 : Nat) : Int) by omega) dX8_serverFor_81 (fun zq4 ezq4 hzq4 => ?_)
          refine z_iret C 82 dX8_serverFor_82 (by decide) (by decide) hzq4 ?_
          refine ⟨rfl, f, zfnd_end g1 (by show zV M 26 0 13 ≤ k; omega), ?_⟩
          unfold zsv
          first | rw [if_pos (by omega)] | (rw [if_neg (by omega)]; assumption)
        refine z_iconst C 72 dX8_serverFor_72 ?_
        refine z_goto C 73 82 dX8_serverFor_73 (by decide) ?_
        refine z_iret C 82 dX8_serverFor_82 (by decide) (by decide) (by decide) ?_
        refine ⟨rfl, f, zfnd_end g1 (by show zV M 26 0 13 ≤ k; omega), ?_⟩
        unfold zsv
        first | rw [if_pos (by omega)] | (rw [if_neg (by omega)]; assumption)
      refine z_aload_n C 12 dX8_serverFor_12 rfl 0 rfl ?_
      refine z_get C 13 zcl8 (show 0 < 1 by omega) (zc26 ..) 14 (by decide) rfl wf_8_42 dX8_serverFor_13 ?_
      refine z_iload_n C 16 dX8_serverFor_16 rfl 3 rfl ?_
      refine z_iald C 17 (show 0 < 1 by omega) (zc44 ..) (by first | assumption | omega) (by omega) (show k < ((12 : Nat) : Int) by omega) dX8_serverFor_17 (fun zq5 ezq5 hzq5 => ?_)
      refine z_aload_n C 18 dX8_serverFor_18 rfl 0 rfl ?_
      refine z_get C 19 zcl8 (show 0 < 1 by omega) (zc26 ..) 15 (by decide) rfl wf_8_45 dX8_serverFor_19 ?_
      refine z_iload_n C 22 dX8_serverFor_22 rfl 3 rfl ?_
      refine z_iald C 23 (show 0 < 1 by omega) (zc45 ..) (by first | assumption | omega) (by omega) (show k < ((12 : Nat) : Int) by omega) dX8_serverFor_23 (fun zq6 ezq6 hzq6 => ?_)
      refine z_iload_n C 24 dX8_serverFor_24 rfl 1 rfl ?_
      refine z_callSi C 25 (As := [.int (zI zq5), .int (zI zq6), .int (zI id)]) (rest := []) (c_X8_covers l G M zq5 zq6 id (by rw [ezq5, ezq6]; exact w5 _ (by omega)) hid) (zS_of 3 C wm_8_146 wc_X8_covers wini_8 wst_X8_covers ⟨by decide, by decide, by decide⟩ ⟨by decide, by decide⟩) rfl (Nat.le_of_ble_eq_true rfl) ⟨by decide, by decide⟩ dX8_serverFor_25 rfl (fun zq7 Mz8 hzq7 hPz7 => ?_)
      obtain ⟨rfl, hPz7⟩ := hPz7
      refine z_istore (lv' := [(4, .int (zI zq7)), (0, .ref (zad G 26 0)), (1, .int (zI id)), (2, .int (zI f)), (3, .int (zI k))]) C 28 dX8_serverFor_28 (by decide) rfl ?_
      refine z_iload C 30 dX8_serverFor_30 0 rfl ?_
      refine z_if_eq C 32 59 dX8_serverFor_32 (by decide) hzq7 (fun c32_55 => ?_) (fun c32_55 => ?_)
      · have hS : zcov (zndv M) (zndl M) z0 (zndn M) id k.toNat → zndl M k.toNat ≤ bl := fun z => absurd z.2.2 (by have z1 := hPz7.f c32_55; rw [ezq5, ezq6] at z1; exact z1)
        refine z_iload_n C 59 dX8_serverFor_59 rfl 3 rfl ?_
        refine z_istore_n (lv' := [(2, .int (zI f)), (4, .int (zI zq7)), (0, .ref (zad G 26 0)), (1, .int (zI id)), (3, .int (zI k))]) C 60 dX8_serverFor_60 rfl (by decide) rfl ?_
        refine z_iinc (lv' := [(3, .int (zI (k + 1))), (2, .int (zI f)), (4, .int (zI zq7)), (0, .ref (zad G 26 0)), (1, .int (zI id))]) C 61 dX8_serverFor_61 4 rfl (by decide) rfl ?_
        refine z_goto C 64 4 dX8_serverFor_64 (by decide) ?_
        refine z_sub (lv' := [(0, .ref (zad G 26 0)), (1, .int (zI id)), (2, .int (zI f)), (3, .int (zI (k + 1)))]) [3, 4, 1, 0] rfl ?_
        exact ihz2 f (k + 1) bl (by omega) (by exact zfnd_skip g1 (by omega) (zWM_dl hw) hS) (by exact g2) (by omega)
      have hT : zcov (zndv M) (zndl M) z0 (zndn M) id k.toNat := ⟨by show (k.toNat : Int) < zV M 26 0 13; omega, rfl, by have z1 := hPz7.t c32_55; rw [ezq5, ezq6] at z1; exact z1⟩
      refine z_iload_n C 35 dX8_serverFor_35 rfl 3 rfl ?_
      refine z_iconst C 36 dX8_serverFor_36 ?_
      refine z_icmp_eq C 37 55 dX8_serverFor_37 (by decide) (by first | assumption | omega) (by decide) (fun c37_66 => ?_) (fun c37_66 => ?_)
      · refine z_iload_n C 55 dX8_serverFor_55 rfl 4 rfl ?_
        refine z_goto C 56 60 dX8_serverFor_56 (by decide) ?_
        refine z_istore_n (lv' := [(2, .int (zI k)), (4, .int (zI zq7)), (0, .ref (zad G 26 0)), (1, .int (zI id)), (3, .int (zI k))]) C 60 dX8_serverFor_60 rfl (by decide) rfl ?_
        refine z_iinc (lv' := [(3, .int (zI (k + 1))), (2, .int (zI k)), (4, .int (zI zq7)), (0, .ref (zad G 26 0)), (1, .int (zI id))]) C 61 dX8_serverFor_61 4 rfl (by decide) rfl ?_
        refine z_goto C 64 4 dX8_serverFor_64 (by decide) ?_
        refine z_sub (lv' := [(0, .ref (zad G 26 0)), (1, .int (zI id)), (2, .int (zI k)), (3, .int (zI (k + 1)))]) [3, 4, 1, 0] rfl ?_
        exact ihz2 k (k + 1) (zndl M k.toNat) (by omega) (by exact zfnd_take g1 (by omega) hT (by have hpk9 := hpk (by omega); unfold zpfx at hpk9; show bl < zV M 45 0 k.toNat; omega)) (by exact Or.inr ⟨by omega, by omega, rfl⟩) (by omega)
      refine z_aload_n C 40 dX8_serverFor_40 rfl 1 rfl ?_
      refine z_get C 41 zcl8 (show 0 < 1 by omega) (zc26 ..) 15 (by decide) rfl wf_8_45 dX8_serverFor_41 ?_
      refine z_iload_n C 44 dX8_serverFor_44 rfl 4 rfl ?_
      refine z_iald C 45 (show 0 < 1 by omega) (zc45 ..) (by first | assumption | omega) (by omega) (show k < ((12 : Nat) : Int) by omega) dX8_serverFor_45 (fun zq9 ezq9 hzq9 => ?_)
      refine z_aload_n C 46 dX8_serverFor_46 rfl 1 rfl ?_
      refine z_get C 47 zcl8 (show 0 < 1 by omega) (zc26 ..) 15 (by decide) rfl wf_8_45 dX8_serverFor_47 ?_
      refine z_iload_n C 50 dX8_serverFor_50 rfl 3 rfl ?_
      refine z_iald C 51 (show 0 < 1 by omega) (zc45 ..) (by first | assumption | omega) (by omega) (show f < ((12 : Nat) : Int) by omega) dX8_serverFor_51 (fun zq10 ezq10 hzq10 => ?_)
      refine z_icmp_le C 52 59 dX8_serverFor_52 (by decide) hzq9 hzq10 (fun c52_82 => ?_) (fun c52_82 => ?_)
      · have hS : zcov (zndv M) (zndl M) z0 (zndn M) id k.toNat → zndl M k.toNat ≤ bl := fun z => by show zV M 45 0 k.toNat ≤ bl; omega
        refine z_iload_n C 59 dX8_serverFor_59 rfl 3 rfl ?_
        refine z_istore_n (lv' := [(2, .int (zI f)), (4, .int (zI zq7)), (0, .ref (zad G 26 0)), (1, .int (zI id)), (3, .int (zI k))]) C 60 dX8_serverFor_60 rfl (by decide) rfl ?_
        refine z_iinc (lv' := [(3, .int (zI (k + 1))), (2, .int (zI f)), (4, .int (zI zq7)), (0, .ref (zad G 26 0)), (1, .int (zI id))]) C 61 dX8_serverFor_61 4 rfl (by decide) rfl ?_
        refine z_goto C 64 4 dX8_serverFor_64 (by decide) ?_
        refine z_sub (lv' := [(0, .ref (zad G 26 0)), (1, .int (zI id)), (2, .int (zI f)), (3, .int (zI (k + 1)))]) [3, 4, 1, 0] rfl ?_
        exact ihz2 f (k + 1) bl (by omega) (by exact zfnd_skip g1 (by omega) (zWM_dl hw) hS) (by exact g2) (by omega)
      refine z_iload_n C 55 dX8_serverFor_55 rfl 4 rfl ?_
      refine z_goto C 56 60 dX8_serverFor_56 (by decide) ?_
      refine z_istore_n (lv' := [(2, .int (zI k)), (4, .int (zI zq7)), (0, .ref (zad G 26 0)), (1, .int (zI id)), (3, .int (zI k))]) C 60 dX8_serverFor_60 rfl (by decide) rfl ?_
      refine z_iinc (lv' := [(3, .int (zI (k + 1))), (2, .int (zI k)), (4, .int (zI zq7)), (0, .ref (zad G 26 0)), (1, .int (zI id))]) C 61 dX8_serverFor_61 4 rfl (by decide) rfl ?_
      refine z_goto C 64 4 dX8_serverFor_64 (by decide) ?_
      refine z_sub (lv' := [(0, .ref (zad G 26 0)), (1, .int (zI id)), (2, .int (zI k)), (3, .int (zI (k + 1)))]) [3, 4, 1, 0] rfl ?_
      exact ihz2 k (k + 1) (zndl M k.toNat) (by omega) (by exact zfnd_take g1 (by omega) hT (by have hpk9 := hpk (by omega); unfold zpfx at hpk9; show bl < zV M 45 0 k.toNat; omega)) (by exact Or.inr ⟨by omega, by omega, rfl⟩) (by omega)
  refine z_sub (lv' := [(0, .ref (zad G 26 0)), (1, .int (zI id)), (2, .int (zI (-1))), (3, .int (zI 0))]) [2, 3, 1, 0] rfl ?_
  exact L4_1 (((zV M 26 0 13 - 0 : Int)).toNat + 1) (-1) 0 (-1) (by omega) (by exact zfnd_0 _ _ _ _ _) (by omega) (by omega)
set_option maxHeartbeats 4000000 in
set_option maxRecDepth 100000 in
theorem c_X8_serverOf (l : Launch) (G : zG) (M : zMem) (hw : zWM M) (id : Int) (hid : zrg id) : Met l yX8_serverOf [.code yX8_serverOf cX8_serverOf 2 (some .int)] (zR 3 0 0) (zPc G M [.ref (zad G 26 0), .int (zI id)]) (zQi G (fun x M' => (¬ (0 ≤ id ∧ id < 65536) ∧ zthr M M' 1) ∨ ((0 ≤ id ∧ id < 65536) ∧ zthr M M' 0 ∧ ∃ y : Int, zfnd (zndv M') (zndl M') z0 (zndn M') id y ∧ x = zsv (zndt M') y))) 0 0 (zA G) := by
  refine z_met [(0, .ref (zad G 26 0)), (1, .int (zI id))] (by decide) (Nat.le_of_ble_eq_true rfl) rfl ?_
  intro p e s m below meth c C
  have C : zC p s m ([.ref (zad G 26 0), .int (zI id)] : List Value).toArray meth c G RX8 cX8_serverOf 2 (some .int) := C
  refine z_aload_n C 0 dX8_serverOf_0 rfl 0 rfl ?_
  refine z_iload_n C 1 dX8_serverOf_1 rfl 1 rfl ?_
  refine z_callSi C 2 (As := [.int (zI id)]) (rest := [.ref (zad G 26 0)]) (c_X8_isIdentifier l G M id hid) (zS_of 1 C wm_8_107 wc_X8_isIdentifier wini_8 wst_X8_isIdentifier ⟨by decide, by decide, by decide⟩ ⟨by decide, by decide⟩) rfl (Nat.le_of_ble_eq_true rfl) ⟨by decide, by decide⟩ dX8_serverOf_2 rfl (fun zq1 Mz2 hzq1 hPz1 => ?_)
  obtain ⟨rfl, hPz1⟩ := hPz1
  refine z_if_eq C 5 12 dX8_serverOf_5 (by decide) hzq1 (fun c5_10 => ?_) (fun c5_10 => ?_)
  · refine z_iconst C 12 dX8_serverOf_12 ?_
    refine z_putI C 13 zcl8 (show 0 < 1 by omega) (zc26 ..) 0 (by decide) wf_8_99 rfl rfl rfl (Nat.le_of_ble_eq_true rfl) (zc26 ..) dX8_serverOf_13 ?_
    refine z_aload_n C 16 dX8_serverOf_16 rfl 0 rfl ?_
    refine z_getI C 17 zcl8 (show 0 < 1 by omega) (zc26 ..) 0 (by decide) rfl wf_8_99 dX8_serverOf_17 (fun zq3 ezq3 hzq3 => ?_)
    rw [zV_eq (by first | assumption | decide | omega)] at ezq3
    subst ezq3
    refine z_if_le C 20 27 dX8_serverOf_20 (by decide) (by decide) (fun c20_18 => ?_) (fun c20_18 => ?_)
    · exact absurd c20_18 (by decide)
    refine z_iconst C 23 dX8_serverOf_23 ?_
    refine z_goto C 24 32 dX8_serverOf_24 (by decide) ?_
    refine z_iret C 32 dX8_serverOf_32 (by decide) (by decide) (by decide) ?_
    exact Or.inl ⟨hPz1.f (by assumption), zthr_1 _ (by decide)⟩
  refine z_iconst C 8 dX8_serverOf_8 ?_
  refine z_goto C 9 13 dX8_serverOf_9 (by decide) ?_
  refine z_putI C 13 zcl8 (show 0 < 1 by omega) (zc26 ..) 0 (by decide) wf_8_99 rfl rfl rfl (Nat.le_of_ble_eq_true rfl) (zc26 ..) dX8_serverOf_13 ?_
  refine z_aload_n C 16 dX8_serverOf_16 rfl 0 rfl ?_
  refine z_getI C 17 zcl8 (show 0 < 1 by omega) (zc26 ..) 0 (by decide) rfl wf_8_99 dX8_serverOf_17 (fun zq4 ezq4 hzq4 => ?_)
  rw [zV_eq (by first | assumption | decide | omega)] at ezq4
  subst ezq4
  refine z_if_le C 20 27 dX8_serverOf_20 (by decide) (by decide) (fun c20_30 => ?_) (fun c20_30 => ?_)
  rotate_left
  · exact absurd c20_30 (by decide)
  refine z_aload_n C 27 dX8_serverOf_27 rfl 0 rfl ?_
  refine z_iload_n C 28 dX8_serverOf_28 rfl 1 rfl ?_
  refine z_callVi C 29 (As := [.int (zI id)]) (rest := []) (c_X8_serverFor l G (zup M 26 0 0 (zI 0)) (zWM_up0 hw) id (hPz1.t (by assumption))) zcl8 (show 0 < 1 by omega) (zc26 ..) (zW_of 1 C wm_8_164 wc_X8_serverFor wini_8 wi_X8_serverFor wse_X8_serverFor ⟨by decide, by decide, by decide⟩ ⟨by decide, by decide⟩) rfl (Nat.le_of_ble_eq_true rfl) ⟨by decide, by decide⟩ dX8_serverOf_29 rfl (fun zq5 Mz6 hzq5 hPz5 => ?_)
  obtain ⟨rfl, hPz5⟩ := hPz5
  refine z_iret C 32 dX8_serverOf_32 (by decide) (by decide) hzq5 ?_
  exact Or.inr ⟨hPz1.t (by assumption), zthr_1 _ (by decide), hPz5⟩
set_option maxHeartbeats 4000000 in
set_option maxRecDepth 100000 in
theorem c_X8_answers (l : Launch) (G : zG) (M : zMem) (t : Int) (ht : zrg t) : Met l yX8_answers [.code yX8_answers cX8_answers 2 (some .int)] (zR 2 0 0) (zPc G M [.ref (zad G 26 0), .int (zI t)]) (zQi G (fun x M' => (¬ (0 ≤ t ∧ t < 4) ∧ zthr M M' 1) ∨ ((0 ≤ t ∧ t < 4) ∧ zthr M M' 0 ∧ x = zV M 48 0 t.toNat))) 0 0 (zA G) := by
  refine z_met [(0, .ref (zad G 26 0)), (1, .int (zI t))] (by decide) (Nat.le_of_ble_eq_true rfl) rfl ?_
  intro p e s m below meth c C
  have C : zC p s m ([.ref (zad G 26 0), .int (zI t)] : List Value).toArray meth c G RX8 cX8_answers 2 (some .int) := C
  refine z_aload_n C 0 dX8_answers_0 rfl 0 rfl ?_
  refine z_iload_n C 1 dX8_answers_1 rfl 1 rfl ?_
  refine z_callSi C 2 (As := [.int (zI t)]) (rest := [.ref (zad G 26 0)]) (c_X8_isServer l G M t ht) (zS_of 1 C wm_8_158 wc_X8_isServer wini_8 wst_X8_isServer ⟨by decide, by decide, by decide⟩ ⟨by decide, by decide⟩) rfl (Nat.le_of_ble_eq_true rfl) ⟨by decide, by decide⟩ dX8_answers_2 rfl (fun zq1 Mz2 hzq1 hPz1 => ?_)
  obtain ⟨rfl, hPz1⟩ := hPz1
  refine z_if_eq C 5 12 dX8_answers_5 (by decide) hzq1 (fun c5_10 => ?_) (fun c5_10 => ?_)
  · refine z_iconst C 12 dX8_answers_12 ?_
    refine z_putI C 13 zcl8 (show 0 < 1 by omega) (zc26 ..) 0 (by decide) wf_8_99 rfl rfl rfl (Nat.le_of_ble_eq_true rfl) (zc26 ..) dX8_answers_13 ?_
    refine z_aload_n C 16 dX8_answers_16 rfl 0 rfl ?_
    refine z_getI C 17 zcl8 (show 0 < 1 by omega) (zc26 ..) 0 (by decide) rfl wf_8_99 dX8_answers_17 (fun zq3 ezq3 hzq3 => ?_)
    rw [zV_eq (by first | assumption | decide | omega)] at ezq3
    subst ezq3
    refine z_if_le C 20 27 dX8_answers_20 (by decide) (by decide) (fun c20_18 => ?_) (fun c20_18 => ?_)
    · exact absurd c20_18 (by decide)
    refine z_iconst C 23 dX8_answers_23 ?_
    refine z_goto C 24 33 dX8_answers_24 (by decide) ?_
    refine z_iret C 33 dX8_answers_33 (by decide) (by decide) (by decide) ?_
    exact Or.inl ⟨hPz1.f (by assumption), zthr_1 _ (by decide)⟩
  have hcs := hPz1.t c5_10
  refine z_iconst C 8 dX8_answers_8 ?_
  refine z_goto C 9 13 dX8_answers_9 (by decide) ?_
  refine z_putI C 13 zcl8 (show 0 < 1 by omega) (zc26 ..) 0 (by decide) wf_8_99 rfl rfl rfl (Nat.le_of_ble_eq_true rfl) (zc26 ..) dX8_answers_13 ?_
  refine z_aload_n C 16 dX8_answers_16 rfl 0 rfl ?_
  refine z_getI C 17 zcl8 (show 0 < 1 by omega) (zc26 ..) 0 (by decide) rfl wf_8_99 dX8_answers_17 (fun zq4 ezq4 hzq4 => ?_)
  rw [zV_eq (by first | assumption | decide | omega)] at ezq4
  subst ezq4
  refine z_if_le C 20 27 dX8_answers_20 (by decide) (by decide) (fun c20_31 => ?_) (fun c20_31 => ?_)
  rotate_left
  · exact absurd c20_31 (by decide)
  refine z_aload_n C 27 dX8_answers_27 rfl 0 rfl ?_
  refine z_get C 28 zcl8 (show 0 < 1 by omega) (zc26 ..) 18 (by decide) rfl wf_8_54 dX8_answers_28 ?_
  refine z_iload_n C 31 dX8_answers_31 rfl 1 rfl ?_
  refine z_iald C 32 (show 0 < 1 by omega) (zc48 ..) (by first | assumption | omega) (by omega) (show t < ((4 : Nat) : Int) by omega) dX8_answers_32 (fun zq5 ezq5 hzq5 => ?_)
  rw [zV_ne (by decide)] at ezq5
  refine z_iret C 33 dX8_answers_33 (by decide) (by decide) hzq5 ?_
  exact Or.inr ⟨hcs, zthr_1 _ (by decide), ezq5⟩
set_option maxHeartbeats 4000000 in
set_option maxRecDepth 100000 in
theorem c_X8_manyBefore (l : Launch) (G : zG) (M : zMem) (a : Int) (ha : 0 ≤ a ∧ a < 3) (u : Int) (hu : zrg u) : Met l yX8_manyBefore [.code yX8_manyBefore cX8_manyBefore 5 (some .int)] (zR 0 0 0) (zPc G M [.ref (zad G 26 0), .int (zI a), .int (zI u)]) (zQi G (fun x M' => M = M' ∧ x = zmb M a.toNat u)) 0 0 (zA G) := by
  refine z_met [(0, .ref (zad G 26 0)), (1, .int (zI a)), (2, .int (zI u))] (by decide) (Nat.le_of_ble_eq_true rfl) rfl ?_
  intro p e s m below meth c C
  have C : zC p s m ([.ref (zad G 26 0), .int (zI a), .int (zI u)] : List Value).toArray meth c G RX8 cX8_manyBefore 5 (some .int) := C
  refine z_iconst C 0 dX8_manyBefore_0 ?_
  refine z_istore_n (lv' := [(3, .int (zI 0)), (0, .ref (zad G 26 0)), (1, .int (zI a)), (2, .int (zI u))]) C 1 dX8_manyBefore_1 rfl (by decide) rfl ?_
  refine z_bipush C 2 dX8_manyBefore_2 (by decide +kernel) ?_
  refine z_iload_n C 4 dX8_manyBefore_4 rfl 2 rfl ?_
  refine z_imul C 5 dX8_manyBefore_5 ?_
  refine z_istore (lv' := [(4, .int (zI (8 * a))), (3, .int (zI 0)), (0, .ref (zad G 26 0)), (1, .int (zI a)), (2, .int (zI u))]) C 6 dX8_manyBefore_6 (by decide) rfl ?_
  have L8_1 : ∀ (kz1 : Nat) (n : Int) (k : Int), (8 * a ≤ k ∧ k ≤ 8 * a + 8) → (n = zsm (zmf M a.toNat u) (k - 8 * a).toNat) → (8 * a + 8 - k) < (kz1 : Int) → zZ p l e (zR 0 0 0) s m ([.ref (zad G 26 0), .int (zI a), .int (zI u)] : List Value).toArray below meth c G 5 (MQ below (zQi G (fun x M' => M = M' ∧ x = zmb M a.toNat u)) ([.ref (zad G 26 0), .int (zI a), .int (zI u)] : List Value).toArray s 0 0 (zA G)) M 0 0 8 [(0, .ref (zad G 26 0)), (1, .int (zI a)), (2, .int (zI u)), (3, .int (zI n)), (4, .int (zI k))] [] := by
    intro kz1
    induction kz1 with
    | zero =>
      intro n k g0 g1 hk
      exact absurd hk (by omega)
    | succ kz1 ihz2 =>
      intro n k g0 g1 hk
      have hs9 := zsm_01 (f := zmf M a.toNat u) (fun _ => zind_rg _) (k - 8 * a).toNat
      refine z_iload C 8 dX8_manyBefore_8 4 rfl ?_
      refine z_bipush C 10 dX8_manyBefore_10 (by decide +kernel) ?_
      refine z_iload_n C 12 dX8_manyBefore_12 rfl 1 rfl ?_
      refine z_imul C 13 dX8_manyBefore_13 ?_
      refine z_bipush C 14 dX8_manyBefore_14 (by decide +kernel) ?_
      refine z_iadd C 16 dX8_manyBefore_16 ?_
      refine z_icmp_ge C 17 55 dX8_manyBefore_17 (by decide) (by first | assumption | omega) (by first | assumption | omega) (fun c17_27 => ?_) (fun c17_27 => ?_)
      · refine z_iload_n C 55 dX8_manyBefore_55 rfl 3 rfl ?_
        refine z_iret C 56 dX8_manyBefore_56 (by decide) (by decide) (by first | assumption | omega) ?_
        refine ⟨rfl, ?_⟩
        rw [g1, show (k - 8 * a).toNat = 8 by omega]
        rfl
      refine z_iload_n C 20 dX8_manyBefore_20 rfl 3 rfl ?_
      refine z_aload_n C 21 dX8_manyBefore_21 rfl 0 rfl ?_
      refine z_get C 22 zcl8 (show 0 < 1 by omega) (zc26 ..) 19 (by decide) rfl wf_8_57 dX8_manyBefore_22 ?_
      refine z_iload C 25 dX8_manyBefore_25 4 rfl ?_
      refine z_zald C 27 (show 0 < 1 by omega) (zc49 ..) (by first | assumption | omega) (by omega) (show k < ((24 : Nat) : Int) by omega) dX8_manyBefore_27 (fun zq3 ezq3 hzq3 => ?_)
      refine z_if_eq C 28 46 dX8_manyBefore_28 (by decide) hzq3 (fun c28_38 => ?_) (fun c28_38 => ?_)
      · refine z_iconst C 46 dX8_manyBefore_46 ?_
        refine z_iadd C 47 dX8_manyBefore_47 ?_
        refine z_istore_n (lv' := [(3, .int (zI (n + 0))), (0, .ref (zad G 26 0)), (1, .int (zI a)), (2, .int (zI u)), (4, .int (zI k))]) C 48 dX8_manyBefore_48 rfl (by decide) rfl ?_
        refine z_iinc (lv' := [(4, .int (zI (k + 1))), (3, .int (zI (n + 0))), (0, .ref (zad G 26 0)), (1, .int (zI a)), (2, .int (zI u))]) C 49 dX8_manyBefore_49 4 rfl (by decide) rfl ?_
        refine z_goto C 52 8 dX8_manyBefore_52 (by decide) ?_
        refine z_sub (lv' := [(0, .ref (zad G 26 0)), (1, .int (zI a)), (2, .int (zI u)), (3, .int (zI (n + 0))), (4, .int (zI (k + 1)))]) [2, 3, 4, 1, 0] rfl ?_
        exact ihz2 (n + 0) (k + 1) (by omega) (by rw [zmb_s ha.1 g0.1, ← g1, zind_f (fun z => by omega)]) (by omega)
      refine z_aload_n C 31 dX8_manyBefore_31 rfl 0 rfl ?_
      refine z_get C 32 zcl8 (show 0 < 1 by omega) (zc26 ..) 20 (by decide) rfl wf_8_60 dX8_manyBefore_32 ?_
      refine z_iload C 35 dX8_manyBefore_35 4 rfl ?_
      refine z_iald C 37 (show 0 < 1 by omega) (zc50 ..) (by first | assumption | omega) (by omega) (show k < ((24 : Nat) : Int) by omega) dX8_manyBefore_37 (fun zq4 ezq4 hzq4 => ?_)
      refine z_iload_n C 38 dX8_manyBefore_38 rfl 2 rfl ?_
      refine z_icmp_ge C 39 46 dX8_manyBefore_39 (by decide) hzq4 (by first | assumption | omega) (fun c39_51 => ?_) (fun c39_51 => ?_)
      · refine z_iconst C 46 dX8_manyBefore_46 ?_
        refine z_iadd C 47 dX8_manyBefore_47 ?_
        refine z_istore_n (lv' := [(3, .int (zI (n + 0))), (0, .ref (zad G 26 0)), (1, .int (zI a)), (2, .int (zI u)), (4, .int (zI k))]) C 48 dX8_manyBefore_48 rfl (by decide) rfl ?_
        refine z_iinc (lv' := [(4, .int (zI (k + 1))), (3, .int (zI (n + 0))), (0, .ref (zad G 26 0)), (1, .int (zI a)), (2, .int (zI u))]) C 49 dX8_manyBefore_49 4 rfl (by decide) rfl ?_
        refine z_goto C 52 8 dX8_manyBefore_52 (by decide) ?_
        refine z_sub (lv' := [(0, .ref (zad G 26 0)), (1, .int (zI a)), (2, .int (zI u)), (3, .int (zI (n + 0))), (4, .int (zI (k + 1)))]) [2, 3, 4, 1, 0] rfl ?_
        exact ihz2 (n + 0) (k + 1) (by omega) (by rw [zmb_s ha.1 g0.1, ← g1, zind_f (fun z => by omega)]) (by omega)
      refine z_iconst C 42 dX8_manyBefore_42 ?_
      refine z_goto C 43 47 dX8_manyBefore_43 (by decide) ?_
      refine z_iadd C 47 dX8_manyBefore_47 ?_
      refine z_istore_n (lv' := [(3, .int (zI (n + 1))), (0, .ref (zad G 26 0)), (1, .int (zI a)), (2, .int (zI u)), (4, .int (zI k))]) C 48 dX8_manyBefore_48 rfl (by decide) rfl ?_
      refine z_iinc (lv' := [(4, .int (zI (k + 1))), (3, .int (zI (n + 1))), (0, .ref (zad G 26 0)), (1, .int (zI a)), (2, .int (zI u))]) C 49 dX8_manyBefore_49 4 rfl (by decide) rfl ?_
      refine z_goto C 52 8 dX8_manyBefore_52 (by decide) ?_
      refine z_sub (lv' := [(0, .ref (zad G 26 0)), (1, .int (zI a)), (2, .int (zI u)), (3, .int (zI (n + 1))), (4, .int (zI (k + 1)))]) [2, 3, 4, 1, 0] rfl ?_
      exact ihz2 (n + 1) (k + 1) (by omega) (by rw [zmb_s ha.1 g0.1, ← g1, zind_t ⟨by omega, by omega⟩]) (by omega)
  refine z_sub (lv' := [(0, .ref (zad G 26 0)), (1, .int (zI a)), (2, .int (zI u)), (3, .int (zI 0)), (4, .int (zI (8 * a)))]) [2, 3, 4, 1, 0] rfl ?_
  exact L8_1 (((8 * a + 8 - (8 * a) : Int)).toNat + 1) 0 (8 * a) (by omega) (by rw [show (8 * a - 8 * a).toNat = 0 by omega]; rfl) (by omega)
set_option maxHeartbeats 4000000 in
set_option maxRecDepth 100000 in
theorem c_X8_manyOf (l : Launch) (G : zG) (M : zMem) (hw : zWM M) (a : Int) (ha : 0 ≤ a ∧ a < 3) : Met l yX8_manyOf [.code yX8_manyOf cX8_manyOf 2 (some .int)] (zR 1 0 0) (zPc G M [.ref (zad G 26 0), .int (zI a)]) (zQi G (fun x M' => M = M' ∧ x = zmb M a.toNat (zV M 26 0 21 + 1))) 0 0 (zA G) := by
  refine z_met [(0, .ref (zad G 26 0)), (1, .int (zI a))] (by decide) (Nat.le_of_ble_eq_true rfl) rfl ?_
  intro p e s m below meth c C
  have C : zC p s m ([.ref (zad G 26 0), .int (zI a)] : List Value).toArray meth c G RX8 cX8_manyOf 2 (some .int) := C
  have hw9z := hw
  obtain ⟨w1, w2, w3, w4, w5, w6, w7, w8, w9, w10, w11, w12, w13, w14⟩ := hw9z
  refine z_aload_n C 0 dX8_manyOf_0 rfl 0 rfl ?_
  refine z_iload_n C 1 dX8_manyOf_1 rfl 1 rfl ?_
  refine z_aload_n C 2 dX8_manyOf_2 rfl 0 rfl ?_
  refine z_getI C 3 zcl8 (show 0 < 1 by omega) (zc26 ..) 21 (by decide) rfl wf_8_167 dX8_manyOf_3 (fun zq1 ezq1 hzq1 => ?_)
  refine z_iconst C 6 dX8_manyOf_6 ?_
  refine z_iadd C 7 dX8_manyOf_7 ?_
  refine z_callVi C 8 (As := [.int (zI a), .int (zI (zq1 + 1))]) (rest := []) (c_X8_manyBefore l G M a ha (zq1 + 1) (by omega)) zcl8 (show 0 < 1 by omega) (zc26 ..) (zW_of 2 C wm_8_170 wc_X8_manyBefore wini_8 wi_X8_manyBefore wse_X8_manyBefore ⟨by decide, by decide, by decide⟩ ⟨by decide, by decide⟩) rfl (Nat.le_of_ble_eq_true rfl) ⟨by decide, by decide⟩ dX8_manyOf_8 rfl (fun zq2 Mz3 hzq2 hPz2 => ?_)
  obtain ⟨rfl, hPz2⟩ := hPz2
  refine z_iret C 11 dX8_manyOf_11 (by decide) (by decide) hzq2 ?_
  exact ⟨rfl, by rw [hPz2, ezq1]⟩
set_option maxHeartbeats 4000000 in
set_option maxRecDepth 100000 in
theorem c_X8_placeOfEntry (l : Launch) (G : zG) (M : zMem) (a : Int) (ha : 0 ≤ a ∧ a < 3) (n : Int) (hn : zrg n) : Met l yX8_placeOfEntry [.code yX8_placeOfEntry cX8_placeOfEntry 5 (some .int)] (zR 1 0 0) (zPc G M [.ref (zad G 26 0), .int (zI a), .int (zI n)]) (zQi G (fun x M' => M = M' ∧ zpe M a.toNat n x)) 0 0 (zA G) := by
  refine z_met [(0, .ref (zad G 26 0)), (1, .int (zI a)), (2, .int (zI n))] (by decide) (Nat.le_of_ble_eq_true rfl) rfl ?_
  intro p e s m below meth c C
  have C : zC p s m ([.ref (zad G 26 0), .int (zI a), .int (zI n)] : List Value).toArray meth c G RX8 cX8_placeOfEntry 5 (some .int) := C
  refine z_iconst C 0 dX8_placeOfEntry_0 ?_
  refine z_istore_n (lv' := [(3, .int (zI (-1))), (0, .ref (zad G 26 0)), (1, .int (zI a)), (2, .int (zI n))]) C 1 dX8_placeOfEntry_1 rfl (by decide) rfl ?_
  refine z_bipush C 2 dX8_placeOfEntry_2 (by decide +kernel) ?_
  refine z_iload_n C 4 dX8_placeOfEntry_4 rfl 2 rfl ?_
  refine z_imul C 5 dX8_placeOfEntry_5 ?_
  refine z_istore (lv' := [(4, .int (zI (8 * a))), (3, .int (zI (-1))), (0, .ref (zad G 26 0)), (1, .int (zI a)), (2, .int (zI n))]) C 6 dX8_placeOfEntry_6 (by decide) rfl ?_
  have L8_1 : ∀ (kz1 : Nat) (f : Int) (k : Int), (8 * a ≤ k ∧ k ≤ 8 * a + 8) → (zrg f) → ((f = -1 ∧ ∀ j : Nat, 8 * a + (j : Int) < k → ¬ zpc M a.toNat n j) ∨ ∃ j : Nat, j < 8 ∧ f = ((8 * a.toNat + j : Nat) : Int) ∧ zpc M a.toNat n j) → (8 * a + 8 - k) < (kz1 : Int) → zZ p l e (zR 1 0 0) s m ([.ref (zad G 26 0), .int (zI a), .int (zI n)] : List Value).toArray below meth c G 5 (MQ below (zQi G (fun x M' => M = M' ∧ zpe M a.toNat n x)) ([.ref (zad G 26 0), .int (zI a), .int (zI n)] : List Value).toArray s 0 0 (zA G)) M 0 0 8 [(0, .ref (zad G 26 0)), (1, .int (zI a)), (2, .int (zI n)), (3, .int (zI f)), (4, .int (zI k))] [] := by
    intro kz1
    induction kz1 with
    | zero =>
      intro f k g0 g2 g1 hk
      exact absurd hk (by omega)
    | succ kz1 ihz2 =>
      intro f k g0 g2 g1 hk
      refine z_iload C 8 dX8_placeOfEntry_8 4 rfl ?_
      refine z_bipush C 10 dX8_placeOfEntry_10 (by decide +kernel) ?_
      refine z_iload_n C 12 dX8_placeOfEntry_12 rfl 1 rfl ?_
      refine z_imul C 13 dX8_placeOfEntry_13 ?_
      refine z_bipush C 14 dX8_placeOfEntry_14 (by decide +kernel) ?_
      refine z_iadd C 16 dX8_placeOfEntry_16 ?_
      refine z_icmp_ge C 17 59 dX8_placeOfEntry_17 (by decide) (by first | assumption | omega) (by first | assumption | omega) (fun c17_26 => ?_) (fun c17_26 => ?_)
      · refine z_iload_n C 59 dX8_placeOfEntry_59 rfl 3 rfl ?_
        refine z_iret C 60 dX8_placeOfEntry_60 (by decide) (by decide) (by first | assumption | omega) ?_
        refine ⟨rfl, ?_⟩
        rcases g1 with ⟨z1, z2⟩ | z1
        · exact Or.inl ⟨z1, fun j hj => z2 j (by omega)⟩
        · exact Or.inr z1
      refine z_aload_n C 20 dX8_placeOfEntry_20 rfl 0 rfl ?_
      refine z_get C 21 zcl8 (show 0 < 1 by omega) (zc26 ..) 19 (by decide) rfl wf_8_57 dX8_placeOfEntry_21 ?_
      refine z_iload C 24 dX8_placeOfEntry_24 4 rfl ?_
      refine z_zald C 26 (show 0 < 1 by omega) (zc49 ..) (by first | assumption | omega) (by omega) (show k < ((24 : Nat) : Int) by omega) dX8_placeOfEntry_26 (fun zq3 ezq3 hzq3 => ?_)
      refine z_if_eq C 27 51 dX8_placeOfEntry_27 (by decide) hzq3 (fun c27_37 => ?_) (fun c27_37 => ?_)
      · have hS : ¬ (zV M 49 0 k.toNat ≠ 0 ∧ zmb M a.toNat (zV M 50 0 k.toNat) = n) := fun z => z.1 (by omega)
        refine z_iload_n C 51 dX8_placeOfEntry_51 rfl 3 rfl ?_
        refine z_istore_n (lv' := [(3, .int (zI f)), (0, .ref (zad G 26 0)), (1, .int (zI a)), (2, .int (zI n)), (4, .int (zI k))]) C 52 dX8_placeOfEntry_52 rfl (by decide) rfl ?_
        refine z_iinc (lv' := [(4, .int (zI (k + 1))), (3, .int (zI f)), (0, .ref (zad G 26 0)), (1, .int (zI a)), (2, .int (zI n))]) C 53 dX8_placeOfEntry_53 4 rfl (by decide) rfl ?_
        refine z_goto C 56 8 dX8_placeOfEntry_56 (by decide) ?_
        refine z_sub (lv' := [(0, .ref (zad G 26 0)), (1, .int (zI a)), (2, .int (zI n)), (3, .int (zI f)), (4, .int (zI (k + 1)))]) [2, 3, 4, 1, 0] rfl ?_
        exact ihz2 f (k + 1) (by omega) (by omega) (by rcases g1 with ⟨z1, z2⟩ | z1; exact Or.inl ⟨z1, fun j hj => (Int.lt_or_le (8 * a + (j : Int)) k).elim (z2 j) (fun q => by intro z; unfold zpc at z; rw [show 8 * a.toNat + j = k.toNat by omega] at z; exact hS z)⟩; exact Or.inr z1) (by omega)
      refine z_aload_n C 30 dX8_placeOfEntry_30 rfl 0 rfl ?_
      refine z_iload_n C 31 dX8_placeOfEntry_31 rfl 1 rfl ?_
      refine z_aload_n C 32 dX8_placeOfEntry_32 rfl 0 rfl ?_
      refine z_get C 33 zcl8 (show 0 < 1 by omega) (zc26 ..) 20 (by decide) rfl wf_8_60 dX8_placeOfEntry_33 ?_
      refine z_iload C 36 dX8_placeOfEntry_36 4 rfl ?_
      refine z_iald C 38 (show 0 < 1 by omega) (zc50 ..) (by first | assumption | omega) (by omega) (show k < ((24 : Nat) : Int) by omega) dX8_placeOfEntry_38 (fun zq4 ezq4 hzq4 => ?_)
      refine z_callVi C 39 (As := [.int (zI a), .int (zI zq4)]) (rest := []) (c_X8_manyBefore l G M a ha zq4 hzq4) zcl8 (show 0 < 1 by omega) (zc26 ..) (zW_of 2 C wm_8_170 wc_X8_manyBefore wini_8 wi_X8_manyBefore wse_X8_manyBefore ⟨by decide, by decide, by decide⟩ ⟨by decide, by decide⟩) rfl (Nat.le_of_ble_eq_true rfl) ⟨by decide, by decide⟩ dX8_placeOfEntry_39 rfl (fun zq5 Mz6 hzq5 hPz5 => ?_)
      obtain ⟨rfl, hPz5⟩ := hPz5
      refine z_iload_n C 42 dX8_placeOfEntry_42 rfl 2 rfl ?_
      refine z_icmp_ne C 43 51 dX8_placeOfEntry_43 (by decide) hzq5 (by first | assumption | omega) (fun c43_54 => ?_) (fun c43_54 => ?_)
      · have hS : ¬ (zV M 49 0 k.toNat ≠ 0 ∧ zmb M a.toNat (zV M 50 0 k.toNat) = n) := fun z => by have z2 := z.2; rw [← ezq4, ← hPz5] at z2; omega
        refine z_iload_n C 51 dX8_placeOfEntry_51 rfl 3 rfl ?_
        refine z_istore_n (lv' := [(3, .int (zI f)), (0, .ref (zad G 26 0)), (1, .int (zI a)), (2, .int (zI n)), (4, .int (zI k))]) C 52 dX8_placeOfEntry_52 rfl (by decide) rfl ?_
        refine z_iinc (lv' := [(4, .int (zI (k + 1))), (3, .int (zI f)), (0, .ref (zad G 26 0)), (1, .int (zI a)), (2, .int (zI n))]) C 53 dX8_placeOfEntry_53 4 rfl (by decide) rfl ?_
        refine z_goto C 56 8 dX8_placeOfEntry_56 (by decide) ?_
        refine z_sub (lv' := [(0, .ref (zad G 26 0)), (1, .int (zI a)), (2, .int (zI n)), (3, .int (zI f)), (4, .int (zI (k + 1)))]) [2, 3, 4, 1, 0] rfl ?_
        exact ihz2 f (k + 1) (by omega) (by omega) (by rcases g1 with ⟨z1, z2⟩ | z1; exact Or.inl ⟨z1, fun j hj => (Int.lt_or_le (8 * a + (j : Int)) k).elim (z2 j) (fun q => by intro z; unfold zpc at z; rw [show 8 * a.toNat + j = k.toNat by omega] at z; exact hS z)⟩; exact Or.inr z1) (by omega)
      refine z_iload C 46 dX8_placeOfEntry_46 4 rfl ?_
      refine z_goto C 48 52 dX8_placeOfEntry_48 (by decide) ?_
      refine z_istore_n (lv' := [(3, .int (zI k)), (0, .ref (zad G 26 0)), (1, .int (zI a)), (2, .int (zI n)), (4, .int (zI k))]) C 52 dX8_placeOfEntry_52 rfl (by decide) rfl ?_
      refine z_iinc (lv' := [(4, .int (zI (k + 1))), (3, .int (zI k)), (0, .ref (zad G 26 0)), (1, .int (zI a)), (2, .int (zI n))]) C 53 dX8_placeOfEntry_53 4 rfl (by decide) rfl ?_
      refine z_goto C 56 8 dX8_placeOfEntry_56 (by decide) ?_
      refine z_sub (lv' := [(0, .ref (zad G 26 0)), (1, .int (zI a)), (2, .int (zI n)), (3, .int (zI k)), (4, .int (zI (k + 1)))]) [2, 3, 4, 1, 0] rfl ?_
      exact ihz2 k (k + 1) (by omega) (by omega) (by exact Or.inr ⟨(k - 8 * a).toNat, by omega, by omega, by unfold zpc; rw [show 8 * a.toNat + (k - 8 * a).toNat = k.toNat by omega]; exact ⟨by omega, by rw [← ezq4, ← hPz5]; omega⟩⟩) (by omega)
  refine z_sub (lv' := [(0, .ref (zad G 26 0)), (1, .int (zI a)), (2, .int (zI n)), (3, .int (zI (-1))), (4, .int (zI (8 * a)))]) [2, 3, 4, 1, 0] rfl ?_
  exact L8_1 (((8 * a + 8 - (8 * a) : Int)).toNat + 1) (-1) (8 * a) (by omega) (by omega) (by exact Or.inl ⟨rfl, fun j hj => absurd hj (by omega)⟩) (by omega)
set_option maxHeartbeats 4000000 in
set_option maxRecDepth 100000 in
theorem c_X8_entryFor (l : Launch) (G : zG) (M : zMem) (hw : zWM M) (a : Int) (ha : 0 ≤ a ∧ a < 3) (idn : Int) (hid : 0 ≤ idn ∧ idn < 65536) : Met l yX8_entryFor [.code yX8_entryFor cX8_entryFor 6 (some .int)] (zR 2 0 0) (zPc G M [.ref (zad G 26 0), .int (zI a), .int (zI idn)]) (zQi G (fun x M' => M = M' ∧ zmef M a.toNat idn x)) 0 0 (zA G) := by
  refine z_met [(0, .ref (zad G 26 0)), (1, .int (zI a)), (2, .int (zI idn))] (by decide) (Nat.le_of_ble_eq_true rfl) rfl ?_
  intro p e s m below meth c C
  have C : zC p s m ([.ref (zad G 26 0), .int (zI a), .int (zI idn)] : List Value).toArray meth c G RX8 cX8_entryFor 6 (some .int) := C
  have hw9z := hw
  obtain ⟨w1, w2, w3, w4, w5, w6, w7, w8, w9, w10, w11, w12, w13, w14⟩ := hw9z
  refine z_iconst C 0 dX8_entryFor_0 ?_
  refine z_istore_n (lv' := [(3, .int (zI (-1))), (0, .ref (zad G 26 0)), (1, .int (zI a)), (2, .int (zI idn))]) C 1 dX8_entryFor_1 rfl (by decide) rfl ?_
  refine z_bipush C 2 dX8_entryFor_2 (by decide +kernel) ?_
  refine z_iload_n C 4 dX8_entryFor_4 rfl 2 rfl ?_
  refine z_imul C 5 dX8_entryFor_5 ?_
  refine z_istore (lv' := [(4, .int (zI (8 * a))), (3, .int (zI (-1))), (0, .ref (zad G 26 0)), (1, .int (zI a)), (2, .int (zI idn))]) C 6 dX8_entryFor_6 (by decide) rfl ?_
  have L8_1 : ∀ (kz1 : Nat) (f : Int) (k : Int), (8 * a ≤ k ∧ k ≤ 8 * a + 8) → (f = -1 ∨ 0 ≤ f ∧ f < 24) → (zmek M a idn f k) → (8 * a + 8 - k) < (kz1 : Int) → zZ p l e (zR 2 0 0) s m ([.ref (zad G 26 0), .int (zI a), .int (zI idn)] : List Value).toArray below meth c G 6 (MQ below (zQi G (fun x M' => M = M' ∧ zmef M a.toNat idn x)) ([.ref (zad G 26 0), .int (zI a), .int (zI idn)] : List Value).toArray s 0 0 (zA G)) M 0 0 8 [(0, .ref (zad G 26 0)), (1, .int (zI a)), (2, .int (zI idn)), (3, .int (zI f)), (4, .int (zI k))] [] := by
    intro kz1
    induction kz1 with
    | zero =>
      intro f k g0 g2 g1 hk
      exact absurd hk (by omega)
    | succ kz1 ihz2 =>
      intro f k g0 g2 g1 hk
      refine z_iload C 8 dX8_entryFor_8 4 rfl ?_
      refine z_bipush C 10 dX8_entryFor_10 (by decide +kernel) ?_
      refine z_iload_n C 12 dX8_entryFor_12 rfl 1 rfl ?_
      refine z_imul C 13 dX8_entryFor_13 ?_
      refine z_bipush C 14 dX8_entryFor_14 (by decide +kernel) ?_
      refine z_iadd C 16 dX8_entryFor_16 ?_
      refine z_icmp_ge C 17 121 dX8_entryFor_17 (by decide) (by first | assumption | omega) (by first | assumption | omega) (fun c17_28 => ?_) (fun c17_28 => ?_)
      · refine z_iload_n C 121 dX8_entryFor_121 rfl 3 rfl ?_
        refine z_iret C 122 dX8_entryFor_122 (by decide) (by decide) (by first | assumption | omega) ?_
        refine ⟨rfl, ?_⟩
        rcases g1 with ⟨z1, z2⟩ | z1
        · exact Or.inl ⟨z1, fun j hj => z2 j (by omega)⟩
        · exact Or.inr z1
      refine z_aload_n C 20 dX8_entryFor_20 rfl 0 rfl ?_
      refine z_get C 21 zcl8 (show 0 < 1 by omega) (zc26 ..) 19 (by decide) rfl wf_8_57 dX8_entryFor_21 ?_
      refine z_iload C 24 dX8_entryFor_24 4 rfl ?_
      refine z_zald C 26 (show 0 < 1 by omega) (zc49 ..) (by first | assumption | omega) (by omega) (show k < ((24 : Nat) : Int) by omega) dX8_entryFor_26 (fun zq3 ezq3 hzq3 => ?_)
      refine z_if_eq C 27 79 dX8_entryFor_27 (by decide) hzq3 (fun c27_39 => ?_) (fun c27_39 => ?_)
      · have hS : ¬ zmft M idn k.toNat := fun z => z.1 (by omega)
        refine z_iconst C 79 dX8_entryFor_79 ?_
        refine z_istore (lv' := [(5, .int (zI 0)), (0, .ref (zad G 26 0)), (1, .int (zI a)), (2, .int (zI idn)), (3, .int (zI f)), (4, .int (zI k))]) C 80 dX8_entryFor_80 (by decide) rfl ?_
        refine z_iload C 82 dX8_entryFor_82 0 rfl ?_
        refine z_if_eq C 84 113 dX8_entryFor_84 (by decide) (by decide) (fun c84_45 => ?_) (fun c84_45 => ?_)
        rotate_left
        · exact absurd c84_45 (by decide)
        refine z_iload_n C 113 dX8_entryFor_113 rfl 4 rfl ?_
        refine z_istore_n (lv' := [(3, .int (zI f)), (5, .int (zI 0)), (0, .ref (zad G 26 0)), (1, .int (zI a)), (2, .int (zI idn)), (4, .int (zI k))]) C 114 dX8_entryFor_114 rfl (by decide) rfl ?_
        refine z_iinc (lv' := [(4, .int (zI (k + 1))), (3, .int (zI f)), (5, .int (zI 0)), (0, .ref (zad G 26 0)), (1, .int (zI a)), (2, .int (zI idn))]) C 115 dX8_entryFor_115 5 rfl (by decide) rfl ?_
        refine z_goto C 118 8 dX8_entryFor_118 (by decide) ?_
        refine z_sub (lv' := [(0, .ref (zad G 26 0)), (1, .int (zI a)), (2, .int (zI idn)), (3, .int (zI f)), (4, .int (zI (k + 1)))]) [3, 4, 5, 1, 0] rfl ?_
        exact ihz2 f (k + 1) (by omega) (by omega) (by rcases g1 with ⟨z1, z2⟩ | z1; exact Or.inl ⟨z1, fun j hj => (Int.lt_or_le (8 * a + (j : Int)) k).elim (z2 j) (fun q => by rw [show 8 * a.toNat + j = k.toNat by omega]; first | exact hS | (exfalso; omega))⟩; exact Or.inr z1) (by omega)
      refine z_aload_n C 30 dX8_entryFor_30 rfl 0 rfl ?_
      refine z_get C 31 zcl8 (show 0 < 1 by omega) (zc26 ..) 27 (by decide) rfl wf_8_78 dX8_entryFor_31 ?_
      refine z_iload C 34 dX8_entryFor_34 4 rfl ?_
      refine z_zald C 36 (show 0 < 1 by omega) (zc57 ..) (by first | assumption | omega) (by omega) (show k < ((24 : Nat) : Int) by omega) dX8_entryFor_36 (fun zq4 ezq4 hzq4 => ?_)
      refine z_if_ne C 37 79 dX8_entryFor_37 (by decide) hzq4 (fun c37_57 => ?_) (fun c37_57 => ?_)
      · have hS : ¬ zmft M idn k.toNat := fun z => by have := z.2.1; omega
        refine z_iconst C 79 dX8_entryFor_79 ?_
        refine z_istore (lv' := [(5, .int (zI 0)), (0, .ref (zad G 26 0)), (1, .int (zI a)), (2, .int (zI idn)), (3, .int (zI f)), (4, .int (zI k))]) C 80 dX8_entryFor_80 (by decide) rfl ?_
        refine z_iload C 82 dX8_entryFor_82 0 rfl ?_
        refine z_if_eq C 84 113 dX8_entryFor_84 (by decide) (by decide) (fun c84_63 => ?_) (fun c84_63 => ?_)
        rotate_left
        · exact absurd c84_63 (by decide)
        refine z_iload_n C 113 dX8_entryFor_113 rfl 4 rfl ?_
        refine z_istore_n (lv' := [(3, .int (zI f)), (5, .int (zI 0)), (0, .ref (zad G 26 0)), (1, .int (zI a)), (2, .int (zI idn)), (4, .int (zI k))]) C 114 dX8_entryFor_114 rfl (by decide) rfl ?_
        refine z_iinc (lv' := [(4, .int (zI (k + 1))), (3, .int (zI f)), (5, .int (zI 0)), (0, .ref (zad G 26 0)), (1, .int (zI a)), (2, .int (zI idn))]) C 115 dX8_entryFor_115 5 rfl (by decide) rfl ?_
        refine z_goto C 118 8 dX8_entryFor_118 (by decide) ?_
        refine z_sub (lv' := [(0, .ref (zad G 26 0)), (1, .int (zI a)), (2, .int (zI idn)), (3, .int (zI f)), (4, .int (zI (k + 1)))]) [3, 4, 5, 1, 0] rfl ?_
        exact ihz2 f (k + 1) (by omega) (by omega) (by rcases g1 with ⟨z1, z2⟩ | z1; exact Or.inl ⟨z1, fun j hj => (Int.lt_or_le (8 * a + (j : Int)) k).elim (z2 j) (fun q => by rw [show 8 * a.toNat + j = k.toNat by omega]; first | exact hS | (exfalso; omega))⟩; exact Or.inr z1) (by omega)
      refine z_aload_n C 40 dX8_entryFor_40 rfl 0 rfl ?_
      refine z_get C 41 zcl8 (show 0 < 1 by omega) (zc26 ..) 26 (by decide) rfl wf_8_75 dX8_entryFor_41 ?_
      refine z_iload C 44 dX8_entryFor_44 4 rfl ?_
      refine z_iald C 46 (show 0 < 1 by omega) (zc56 ..) (by first | assumption | omega) (by omega) (show k < ((24 : Nat) : Int) by omega) dX8_entryFor_46 (fun zq5 ezq5 hzq5 => ?_)
      refine z_aload_n C 47 dX8_entryFor_47 rfl 0 rfl ?_
      refine z_getI C 48 zcl8 (show 0 < 1 by omega) (zc26 ..) 1 (by decide) rfl wf_8_173 dX8_entryFor_48 (fun zq6 ezq6 hzq6 => ?_)
      refine z_icmp_le C 51 79 dX8_entryFor_51 (by decide) hzq5 hzq6 (fun c51_77 => ?_) (fun c51_77 => ?_)
      · have hS : ¬ zmft M idn k.toNat := fun z => by have := z.2.2.1; omega
        refine z_iconst C 79 dX8_entryFor_79 ?_
        refine z_istore (lv' := [(5, .int (zI 0)), (0, .ref (zad G 26 0)), (1, .int (zI a)), (2, .int (zI idn)), (3, .int (zI f)), (4, .int (zI k))]) C 80 dX8_entryFor_80 (by decide) rfl ?_
        refine z_iload C 82 dX8_entryFor_82 0 rfl ?_
        refine z_if_eq C 84 113 dX8_entryFor_84 (by decide) (by decide) (fun c84_83 => ?_) (fun c84_83 => ?_)
        rotate_left
        · exact absurd c84_83 (by decide)
        refine z_iload_n C 113 dX8_entryFor_113 rfl 4 rfl ?_
        refine z_istore_n (lv' := [(3, .int (zI f)), (5, .int (zI 0)), (0, .ref (zad G 26 0)), (1, .int (zI a)), (2, .int (zI idn)), (4, .int (zI k))]) C 114 dX8_entryFor_114 rfl (by decide) rfl ?_
        refine z_iinc (lv' := [(4, .int (zI (k + 1))), (3, .int (zI f)), (5, .int (zI 0)), (0, .ref (zad G 26 0)), (1, .int (zI a)), (2, .int (zI idn))]) C 115 dX8_entryFor_115 5 rfl (by decide) rfl ?_
        refine z_goto C 118 8 dX8_entryFor_118 (by decide) ?_
        refine z_sub (lv' := [(0, .ref (zad G 26 0)), (1, .int (zI a)), (2, .int (zI idn)), (3, .int (zI f)), (4, .int (zI (k + 1)))]) [3, 4, 5, 1, 0] rfl ?_
        exact ihz2 f (k + 1) (by omega) (by omega) (by rcases g1 with ⟨z1, z2⟩ | z1; exact Or.inl ⟨z1, fun j hj => (Int.lt_or_le (8 * a + (j : Int)) k).elim (z2 j) (fun q => by rw [show 8 * a.toNat + j = k.toNat by omega]; first | exact hS | (exfalso; omega))⟩; exact Or.inr z1) (by omega)
      refine z_aload_n C 54 dX8_entryFor_54 rfl 0 rfl ?_
      refine z_get C 55 zcl8 (show 0 < 1 by omega) (zc26 ..) 22 (by decide) rfl wf_8_63 dX8_entryFor_55 ?_
      refine z_iload C 58 dX8_entryFor_58 4 rfl ?_
      refine z_iald C 60 (show 0 < 1 by omega) (zc52 ..) (by first | assumption | omega) (by omega) (show k < ((24 : Nat) : Int) by omega) dX8_entryFor_60 (fun zq7 ezq7 hzq7 => ?_)
      refine z_aload_n C 61 dX8_entryFor_61 rfl 0 rfl ?_
      refine z_get C 62 zcl8 (show 0 < 1 by omega) (zc26 ..) 23 (by decide) rfl wf_8_66 dX8_entryFor_62 ?_
      refine z_iload C 65 dX8_entryFor_65 4 rfl ?_
      refine z_iald C 67 (show 0 < 1 by omega) (zc53 ..) (by first | assumption | omega) (by omega) (show k < ((24 : Nat) : Int) by omega) dX8_entryFor_67 (fun zq8 ezq8 hzq8 => ?_)
      refine z_iload_n C 68 dX8_entryFor_68 rfl 2 rfl ?_
      refine z_callSi C 69 (As := [.int (zI zq7), .int (zI zq8), .int (zI idn)]) (rest := []) (c_X8_covers l G M zq7 zq8 idn (by rw [ezq7, ezq8]; exact w7 _ (by omega)) hid) (zS_of 3 C wm_8_146 wc_X8_covers wini_8 wst_X8_covers ⟨by decide, by decide, by decide⟩ ⟨by decide, by decide⟩) rfl (Nat.le_of_ble_eq_true rfl) ⟨by decide, by decide⟩ dX8_entryFor_69 rfl (fun zq9 Mz10 hzq9 hPz9 => ?_)
      obtain ⟨rfl, hPz9⟩ := hPz9
      refine z_if_eq C 72 79 dX8_entryFor_72 (by decide) hzq9 (fun c72_102 => ?_) (fun c72_102 => ?_)
      · have hS : ¬ zmft M idn k.toNat := fun z => by have z1 := hPz9.f c72_102; rw [ezq7, ezq8] at z1; exact z1 z.2.2.2
        refine z_iconst C 79 dX8_entryFor_79 ?_
        refine z_istore (lv' := [(5, .int (zI 0)), (0, .ref (zad G 26 0)), (1, .int (zI a)), (2, .int (zI idn)), (3, .int (zI f)), (4, .int (zI k))]) C 80 dX8_entryFor_80 (by decide) rfl ?_
        refine z_iload C 82 dX8_entryFor_82 0 rfl ?_
        refine z_if_eq C 84 113 dX8_entryFor_84 (by decide) (by decide) (fun c84_108 => ?_) (fun c84_108 => ?_)
        rotate_left
        · exact absurd c84_108 (by decide)
        refine z_iload_n C 113 dX8_entryFor_113 rfl 4 rfl ?_
        refine z_istore_n (lv' := [(3, .int (zI f)), (5, .int (zI 0)), (0, .ref (zad G 26 0)), (1, .int (zI a)), (2, .int (zI idn)), (4, .int (zI k))]) C 114 dX8_entryFor_114 rfl (by decide) rfl ?_
        refine z_iinc (lv' := [(4, .int (zI (k + 1))), (3, .int (zI f)), (5, .int (zI 0)), (0, .ref (zad G 26 0)), (1, .int (zI a)), (2, .int (zI idn))]) C 115 dX8_entryFor_115 5 rfl (by decide) rfl ?_
        refine z_goto C 118 8 dX8_entryFor_118 (by decide) ?_
        refine z_sub (lv' := [(0, .ref (zad G 26 0)), (1, .int (zI a)), (2, .int (zI idn)), (3, .int (zI f)), (4, .int (zI (k + 1)))]) [3, 4, 5, 1, 0] rfl ?_
        exact ihz2 f (k + 1) (by omega) (by omega) (by rcases g1 with ⟨z1, z2⟩ | z1; exact Or.inl ⟨z1, fun j hj => (Int.lt_or_le (8 * a + (j : Int)) k).elim (z2 j) (fun q => by rw [show 8 * a.toNat + j = k.toNat by omega]; first | exact hS | (exfalso; omega))⟩; exact Or.inr z1) (by omega)
      have hT : zmft M idn k.toNat := ⟨by omega, by omega, by omega, by have z1 := hPz9.t c72_102; rw [ezq7, ezq8] at z1; exact z1⟩
      refine z_iconst C 75 dX8_entryFor_75 ?_
      refine z_goto C 76 80 dX8_entryFor_76 (by decide) ?_
      refine z_istore (lv' := [(5, .int (zI 1)), (0, .ref (zad G 26 0)), (1, .int (zI a)), (2, .int (zI idn)), (3, .int (zI f)), (4, .int (zI k))]) C 80 dX8_entryFor_80 (by decide) rfl ?_
      refine z_iload C 82 dX8_entryFor_82 0 rfl ?_
      refine z_if_eq C 84 113 dX8_entryFor_84 (by decide) (by decide) (fun c84_121 => ?_) (fun c84_121 => ?_)
      · exact absurd c84_121 (by decide)
      refine z_iload_n C 87 dX8_entryFor_87 rfl 4 rfl ?_
      refine z_iconst C 88 dX8_entryFor_88 ?_
      refine z_icmp_eq C 89 108 dX8_entryFor_89 (by decide) (by first | assumption | omega) (by decide) (fun c89_125 => ?_) (fun c89_125 => ?_)
      · refine z_iload C 108 dX8_entryFor_108 5 rfl ?_
        refine z_goto C 110 114 dX8_entryFor_110 (by decide) ?_
        refine z_istore_n (lv' := [(3, .int (zI k)), (5, .int (zI 1)), (0, .ref (zad G 26 0)), (1, .int (zI a)), (2, .int (zI idn)), (4, .int (zI k))]) C 114 dX8_entryFor_114 rfl (by decide) rfl ?_
        refine z_iinc (lv' := [(4, .int (zI (k + 1))), (3, .int (zI k)), (5, .int (zI 1)), (0, .ref (zad G 26 0)), (1, .int (zI a)), (2, .int (zI idn))]) C 115 dX8_entryFor_115 5 rfl (by decide) rfl ?_
        refine z_goto C 118 8 dX8_entryFor_118 (by decide) ?_
        refine z_sub (lv' := [(0, .ref (zad G 26 0)), (1, .int (zI a)), (2, .int (zI idn)), (3, .int (zI k)), (4, .int (zI (k + 1)))]) [3, 4, 5, 1, 0] rfl ?_
        exact ihz2 k (k + 1) (by omega) (by omega) (by exact Or.inr ⟨(k - 8 * a).toNat, by omega, by omega, by rw [show 8 * a.toNat + (k - 8 * a).toNat = k.toNat by omega]; exact hT⟩) (by omega)
      refine z_aload_n C 92 dX8_entryFor_92 rfl 1 rfl ?_
      refine z_get C 93 zcl8 (show 0 < 1 by omega) (zc26 ..) 23 (by decide) rfl wf_8_66 dX8_entryFor_93 ?_
      refine z_iload C 96 dX8_entryFor_96 5 rfl ?_
      refine z_iald C 98 (show 0 < 1 by omega) (zc53 ..) (by first | assumption | omega) (by omega) (show k < ((24 : Nat) : Int) by omega) dX8_entryFor_98 (fun zq11 ezq11 hzq11 => ?_)
      refine z_aload_n C 99 dX8_entryFor_99 rfl 1 rfl ?_
      refine z_get C 100 zcl8 (show 0 < 1 by omega) (zc26 ..) 23 (by decide) rfl wf_8_66 dX8_entryFor_100 ?_
      refine z_iload_n C 103 dX8_entryFor_103 rfl 4 rfl ?_
      refine z_iald C 104 (show 0 < 1 by omega) (zc53 ..) (by first | assumption | omega) (by omega) (show f < ((24 : Nat) : Int) by omega) dX8_entryFor_104 (fun zq12 ezq12 hzq12 => ?_)
      refine z_icmp_le C 105 113 dX8_entryFor_105 (by decide) hzq11 hzq12 (fun c105_141 => ?_) (fun c105_141 => ?_)
      · refine z_iload_n C 113 dX8_entryFor_113 rfl 4 rfl ?_
        refine z_istore_n (lv' := [(3, .int (zI f)), (5, .int (zI 1)), (0, .ref (zad G 26 0)), (1, .int (zI a)), (2, .int (zI idn)), (4, .int (zI k))]) C 114 dX8_entryFor_114 rfl (by decide) rfl ?_
        refine z_iinc (lv' := [(4, .int (zI (k + 1))), (3, .int (zI f)), (5, .int (zI 1)), (0, .ref (zad G 26 0)), (1, .int (zI a)), (2, .int (zI idn))]) C 115 dX8_entryFor_115 5 rfl (by decide) rfl ?_
        refine z_goto C 118 8 dX8_entryFor_118 (by decide) ?_
        refine z_sub (lv' := [(0, .ref (zad G 26 0)), (1, .int (zI a)), (2, .int (zI idn)), (3, .int (zI f)), (4, .int (zI (k + 1)))]) [3, 4, 5, 1, 0] rfl ?_
        exact ihz2 f (k + 1) (by omega) (by omega) (by rcases g1 with ⟨z1, z2⟩ | z1; exact Or.inl ⟨z1, fun j hj => (Int.lt_or_le (8 * a + (j : Int)) k).elim (z2 j) (fun q => by rw [show 8 * a.toNat + j = k.toNat by omega]; first | exact hS | (exfalso; omega))⟩; exact Or.inr z1) (by omega)
      refine z_iload C 108 dX8_entryFor_108 5 rfl ?_
      refine z_goto C 110 114 dX8_entryFor_110 (by decide) ?_
      refine z_istore_n (lv' := [(3, .int (zI k)), (5, .int (zI 1)), (0, .ref (zad G 26 0)), (1, .int (zI a)), (2, .int (zI idn)), (4, .int (zI k))]) C 114 dX8_entryFor_114 rfl (by decide) rfl ?_
      refine z_iinc (lv' := [(4, .int (zI (k + 1))), (3, .int (zI k)), (5, .int (zI 1)), (0, .ref (zad G 26 0)), (1, .int (zI a)), (2, .int (zI idn))]) C 115 dX8_entryFor_115 5 rfl (by decide) rfl ?_
      refine z_goto C 118 8 dX8_entryFor_118 (by decide) ?_
      refine z_sub (lv' := [(0, .ref (zad G 26 0)), (1, .int (zI a)), (2, .int (zI idn)), (3, .int (zI k)), (4, .int (zI (k + 1)))]) [3, 4, 5, 1, 0] rfl ?_
      exact ihz2 k (k + 1) (by omega) (by omega) (by exact Or.inr ⟨(k - 8 * a).toNat, by omega, by omega, by rw [show 8 * a.toNat + (k - 8 * a).toNat = k.toNat by omega]; exact hT⟩) (by omega)
  refine z_sub (lv' := [(0, .ref (zad G 26 0)), (1, .int (zI a)), (2, .int (zI idn)), (3, .int (zI (-1))), (4, .int (zI (8 * a)))]) [2, 3, 4, 1, 0] rfl ?_
  exact L8_1 (((8 * a + 8 - (8 * a) : Int)).toNat + 1) (-1) (8 * a) (by omega) (by omega) (by exact Or.inl ⟨rfl, fun j hj => absurd hj (by omega)⟩) (by omega)
set_option maxHeartbeats 4000000 in
set_option maxRecDepth 100000 in
theorem c_X8_frees (l : Launch) (G : zG) (M : zMem) (hw : zWM M) (a : Int) (ha : 0 ≤ a ∧ a < 3) (hf : zhfr M a.toNat) : Met l yX8_frees [.code yX8_frees cX8_frees 3 (some .int)] (zR 2 0 0) (zPc G M [.ref (zad G 26 0), .int (zI a)]) (zQi G (fun x M' => zfr1 M M' a.toNat ∧ (8 * a ≤ x ∧ x < 8 * a + 8) ∧ zV M' 49 0 x.toNat = 0)) 0 0 (zA G) := by
  refine z_met [(0, .ref (zad G 26 0)), (1, .int (zI a))] (by decide) (Nat.le_of_ble_eq_true rfl) rfl ?_
  intro p e s m below meth c C
  have C : zC p s m ([.ref (zad G 26 0), .int (zI a)] : List Value).toArray meth c G RX8 cX8_frees 3 (some .int) := C
  have hw9z := hw
  obtain ⟨w1, w2, w3, w4, w5, w6, w7, w8, w9, w10, w11, w12, w13, w14⟩ := hw9z
  refine z_aload_n C 0 dX8_frees_0 rfl 0 rfl ?_
  refine z_iload_n C 1 dX8_frees_1 rfl 1 rfl ?_
  refine z_callVi C 2 (As := [.int (zI a)]) (rest := []) (c_X8_manyOf l G M hw a ha) zcl8 (show 0 < 1 by omega) (zc26 ..) (zW_of 1 C wm_8_176 wc_X8_manyOf wini_8 wi_X8_manyOf wse_X8_manyOf ⟨by decide, by decide, by decide⟩ ⟨by decide, by decide⟩) rfl (Nat.le_of_ble_eq_true rfl) ⟨by decide, by decide⟩ dX8_frees_2 rfl (fun zq1 Mz2 hzq1 hPz1 => ?_)
  obtain ⟨rfl, hPz1⟩ := hPz1
  refine z_bipush C 5 dX8_frees_5 (by decide +kernel) ?_
  refine z_icmp_ne C 7 22 dX8_frees_7 (by decide) hzq1 (by decide) (fun c7_13 => ?_) (fun c7_13 => ?_)
  · have hfr : zfr1 M M a.toNat := Or.inr ⟨by rw [← hPz1]; omega, rfl⟩
    obtain ⟨j9, hj9, hz9⟩ := hf.2 _ hfr
    refine z_bipush C 22 dX8_frees_22 (by decide +kernel) ?_
    refine z_iload_n C 24 dX8_frees_24 rfl 1 rfl ?_
    refine z_imul C 25 dX8_frees_25 ?_
    refine z_istore_n (lv' := [(2, .int (zI (8 * a))), (0, .ref (zad G 26 0)), (1, .int (zI a))]) C 26 dX8_frees_26 rfl (by decide) rfl ?_
    have L27_3 : ∀ (kz3 : Nat) (k : Int), (8 * a ≤ k ∧ k ≤ 8 * a + j9) → (8 * a + j9 - k) < (kz3 : Int) → zZ p l e (zR 2 0 0) s m ([.ref (zad G 26 0), .int (zI a)] : List Value).toArray below meth c G 3 (MQ below (zQi G (fun x M' => zfr1 M M' a.toNat ∧ (8 * a ≤ x ∧ x < 8 * a + 8) ∧ zV M' 49 0 x.toNat = 0)) ([.ref (zad G 26 0), .int (zI a)] : List Value).toArray s 0 0 (zA G)) M 0 0 27 [(0, .ref (zad G 26 0)), (1, .int (zI a)), (2, .int (zI k))] [] := by
      intro kz3
      induction kz3 with
      | zero =>
        intro k g0 hk
        exact absurd hk (by omega)
      | succ kz3 ihz4 =>
        intro k g0 hk
        refine z_aload_n C 27 dX8_frees_27 rfl 0 rfl ?_
        refine z_get C 28 zcl8 (show 0 < 1 by omega) (zc26 ..) 19 (by decide) rfl wf_8_57 dX8_frees_28 ?_
        refine z_iload_n C 31 dX8_frees_31 rfl 2 rfl ?_
        refine z_zald C 32 (show 0 < 1 by omega) (zc49 ..) (by first | assumption | omega) (by omega) (show k < ((24 : Nat) : Int) by omega) dX8_frees_32 (fun zq5 ezq5 hzq5 => ?_)
        refine z_if_eq C 33 42 dX8_frees_33 (by decide) hzq5 (fun c33_33 => ?_) (fun c33_33 => ?_)
        · refine z_iload_n C 42 dX8_frees_42 rfl 2 rfl ?_
          refine z_iret C 43 dX8_frees_43 (by decide) (by decide) (by first | assumption | omega) ?_
          exact ⟨hfr, by omega, by omega⟩
        refine z_iinc (lv' := [(2, .int (zI (k + 1))), (0, .ref (zad G 26 0)), (1, .int (zI a))]) C 36 dX8_frees_36 2 rfl (by decide) rfl ?_
        refine z_goto C 39 27 dX8_frees_39 (by decide) ?_
        refine z_sub (lv' := [(0, .ref (zad G 26 0)), (1, .int (zI a)), (2, .int (zI (k + 1)))]) [1, 2, 0] rfl ?_
        have hne9 : k ≠ 8 * a + j9 := fun z => by rw [show 8 * a.toNat + j9 = k.toNat by omega] at hz9; omega
        exact ihz4 (k + 1) (by omega) (by omega)
    refine z_sub (lv' := [(0, .ref (zad G 26 0)), (1, .int (zI a)), (2, .int (zI (8 * a)))]) [1, 2, 0] rfl ?_
    exact L27_3 (((8 * a + j9 - (8 * a) : Int)).toNat + 1) (8 * a) (by omega) (by omega)
  refine z_aload_n C 10 dX8_frees_10 rfl 0 rfl ?_
  refine z_get C 11 zcl8 (show 0 < 1 by omega) (zc26 ..) 19 (by decide) rfl wf_8_57 dX8_frees_11 ?_
  refine z_aload_n C 14 dX8_frees_14 rfl 0 rfl ?_
  refine z_iload_n C 15 dX8_frees_15 rfl 1 rfl ?_
  refine z_iconst C 16 dX8_frees_16 ?_
  refine z_callVi C 17 (As := [.int (zI a), .int (zI 0)]) (rest := [.ref (zad G 49 0)]) (c_X8_placeOfEntry l G M a ha 0 (by decide)) zcl8 (show 0 < 1 by omega) (zc26 ..) (zW_of 2 C wm_8_179 wc_X8_placeOfEntry wini_8 wi_X8_placeOfEntry wse_X8_placeOfEntry ⟨by decide, by decide, by decide⟩ ⟨by decide, by decide⟩) rfl (Nat.le_of_ble_eq_true rfl) ⟨by decide, by decide⟩ dX8_frees_17 rfl (fun zq6 Mz7 hzq6 hPz6 => ?_)
  obtain ⟨rfl, hPz6⟩ := hPz6
  obtain ⟨j7, hj7, hc7⟩ := hf.1 (by rw [← hPz1]; omega)
  have hpe : ∃ j : Nat, j < 8 ∧ zq6 = ((8 * a.toNat + j : Nat) : Int) ∧ zpc M a.toNat 0 j := by rcases hPz6 with ⟨z1, z2⟩ | z1; exact absurd hc7 (z2 j7 hj7); exact z1
  obtain ⟨j8, hj8, hx8, hc8⟩ := hpe
  refine z_iconst C 20 dX8_frees_20 ?_
  refine z_zast C 21 (show 0 < 1 by omega) (zc49 ..) hzq6 (by omega) (show zq6 < ((24 : Nat) : Int) by omega) (by first | assumption | omega) (zc49 ..) dX8_frees_21 ?_
  have hfr : zfr1 M (zup M 49 0 zq6.toNat (zI 0)) a.toNat := Or.inl ⟨by rw [← hPz1]; omega, j8, hj8, hc8, by rw [show (zq6).toNat = 8 * a.toNat + j8 by omega]⟩
  obtain ⟨j9, hj9, hz9⟩ := hf.2 _ hfr
  refine z_bipush C 22 dX8_frees_22 (by decide +kernel) ?_
  refine z_iload_n C 24 dX8_frees_24 rfl 1 rfl ?_
  refine z_imul C 25 dX8_frees_25 ?_
  refine z_istore_n (lv' := [(2, .int (zI (8 * a))), (0, .ref (zad G 26 0)), (1, .int (zI a))]) C 26 dX8_frees_26 rfl (by decide) rfl ?_
  have L27_8 : ∀ (kz8 : Nat) (k : Int), (8 * a ≤ k ∧ k ≤ 8 * a + j9) → (8 * a + j9 - k) < (kz8 : Int) → zZ p l e (zR 2 0 0) s m ([.ref (zad G 26 0), .int (zI a)] : List Value).toArray below meth c G 3 (MQ below (zQi G (fun x M' => zfr1 M M' a.toNat ∧ (8 * a ≤ x ∧ x < 8 * a + 8) ∧ zV M' 49 0 x.toNat = 0)) ([.ref (zad G 26 0), .int (zI a)] : List Value).toArray s 0 0 (zA G)) (zup M 49 0 zq6.toNat (zI 0)) 0 0 27 [(0, .ref (zad G 26 0)), (1, .int (zI a)), (2, .int (zI k))] [] := by
    intro kz8
    induction kz8 with
    | zero =>
      intro k g0 hk
      exact absurd hk (by omega)
    | succ kz8 ihz9 =>
      intro k g0 hk
      refine z_aload_n C 27 dX8_frees_27 rfl 0 rfl ?_
      refine z_get C 28 zcl8 (show 0 < 1 by omega) (zc26 ..) 19 (by decide) rfl wf_8_57 dX8_frees_28 ?_
      refine z_iload_n C 31 dX8_frees_31 rfl 2 rfl ?_
      refine z_zald C 32 (show 0 < 1 by omega) (zc49 ..) (by first | assumption | omega) (by omega) (show k < ((24 : Nat) : Int) by omega) dX8_frees_32 (fun zq10 ezq10 hzq10 => ?_)
      refine z_if_eq C 33 42 dX8_frees_33 (by decide) hzq10 (fun c33_73 => ?_) (fun c33_73 => ?_)
      · refine z_iload_n C 42 dX8_frees_42 rfl 2 rfl ?_
        refine z_iret C 43 dX8_frees_43 (by decide) (by decide) (by first | assumption | omega) ?_
        exact ⟨hfr, by omega, by omega⟩
      refine z_iinc (lv' := [(2, .int (zI (k + 1))), (0, .ref (zad G 26 0)), (1, .int (zI a))]) C 36 dX8_frees_36 2 rfl (by decide) rfl ?_
      refine z_goto C 39 27 dX8_frees_39 (by decide) ?_
      refine z_sub (lv' := [(0, .ref (zad G 26 0)), (1, .int (zI a)), (2, .int (zI (k + 1)))]) [1, 2, 0] rfl ?_
      have hne9 : k ≠ 8 * a + j9 := fun z => by rw [show 8 * a.toNat + j9 = k.toNat by omega] at hz9; omega
      exact ihz9 (k + 1) (by omega) (by omega)
  refine z_sub (lv' := [(0, .ref (zad G 26 0)), (1, .int (zI a)), (2, .int (zI (8 * a)))]) [1, 2, 0] rfl ?_
  exact L27_8 (((8 * a + j9 - (8 * a) : Int)).toNat + 1) (8 * a) (by omega) (by omega)
set_option maxHeartbeats 4000000 in
set_option maxRecDepth 100000 in
theorem c_X8_bestOf (l : Launch) (G : zG) (M : zMem) (hw : zWM M) (a en : Int) (ha : 0 ≤ a ∧ a < 3) (he : 0 ≤ en ∧ en < 24) : Met l yX8_bestOf [.code yX8_bestOf cX8_bestOf 5 (some .int)] (zR 0 0 0) (zPc G M [.ref (zad G 26 0), .int (zI a), .int (zI en)]) (zQi G (fun x M' => M = M' ∧ x = znbp M a.toNat en.toNat)) 0 0 (zA G) := by
  refine z_met [(0, .ref (zad G 26 0)), (1, .int (zI a)), (2, .int (zI en))] (by decide) (Nat.le_of_ble_eq_true rfl) rfl ?_
  intro p e s m below meth c C
  have C : zC p s m ([.ref (zad G 26 0), .int (zI a), .int (zI en)] : List Value).toArray meth c G RX8 cX8_bestOf 5 (some .int) := C
  have hw9z := hw
  obtain ⟨w1, w2, w3, w4, w5, w6, w7, w8, w9, w10, w11, w12, w13, w14⟩ := hw9z
  have h8b := w8 en.toNat (by omega)
  refine z_iconst C 0 dX8_bestOf_0 ?_
  refine z_istore_n (lv' := [(3, .int (zI 4)), (0, .ref (zad G 26 0)), (1, .int (zI a)), (2, .int (zI en))]) C 1 dX8_bestOf_1 rfl (by decide) rfl ?_
  refine z_iconst C 2 dX8_bestOf_2 ?_
  refine z_iload_n C 3 dX8_bestOf_3 rfl 3 rfl ?_
  refine z_imul C 4 dX8_bestOf_4 ?_
  refine z_istore (lv' := [(4, .int (zI (4 * en))), (3, .int (zI 4)), (0, .ref (zad G 26 0)), (1, .int (zI a)), (2, .int (zI en))]) C 5 dX8_bestOf_5 (by decide) rfl ?_
  have L7_1 : ∀ (kz1 : Nat) (b : Int) (k : Int), (4 * en ≤ k ∧ k ≤ 4 * en + zV M 58 0 en.toNat) → (b = zbp (znu M a.toNat) (zna M en.toNat) (znpr M en.toNat) (k - 4 * en).toNat) → (zrg b) → (4 * en + zV M 58 0 en.toNat - k) < (kz1 : Int) → zZ p l e (zR 0 0 0) s m ([.ref (zad G 26 0), .int (zI a), .int (zI en)] : List Value).toArray below meth c G 5 (MQ below (zQi G (fun x M' => M = M' ∧ x = znbp M a.toNat en.toNat)) ([.ref (zad G 26 0), .int (zI a), .int (zI en)] : List Value).toArray s 0 0 (zA G)) M 0 0 7 [(0, .ref (zad G 26 0)), (1, .int (zI a)), (2, .int (zI en)), (3, .int (zI b)), (4, .int (zI k))] [] := by
    intro kz1
    induction kz1 with
    | zero =>
      intro b k g0 g1 g2 hk
      exact absurd hk (by omega)
    | succ kz1 ihz2 =>
      intro b k g0 g1 g2 hk
      have h8 := w8 en.toNat (by omega)
      have h10 := w10 k.toNat
      have hna : zna M en.toNat (k - 4 * en).toNat = zV M 59 0 k.toNat := by unfold zna; rw [show 4 * en.toNat + (k - 4 * en).toNat = k.toNat by omega]
      have hnp : znpr M en.toNat (k - 4 * en).toNat = zV M 60 0 k.toNat := by unfold znpr; rw [show 4 * en.toNat + (k - 4 * en).toNat = k.toNat by omega]
      refine z_iload C 7 dX8_bestOf_7 4 rfl ?_
      refine z_iconst C 9 dX8_bestOf_9 ?_
      refine z_iload_n C 10 dX8_bestOf_10 rfl 2 rfl ?_
      refine z_imul C 11 dX8_bestOf_11 ?_
      refine z_aload_n C 12 dX8_bestOf_12 rfl 0 rfl ?_
      refine z_get C 13 zcl8 (show 0 < 1 by omega) (zc26 ..) 28 (by decide) rfl wf_8_81 dX8_bestOf_13 ?_
      refine z_iload_n C 16 dX8_bestOf_16 rfl 2 rfl ?_
      refine z_iald C 17 (show 0 < 1 by omega) (zc58 ..) (by first | assumption | omega) (by omega) (show en < ((24 : Nat) : Int) by omega) dX8_bestOf_17 (fun zq3 ezq3 hzq3 => ?_)
      refine z_iadd C 18 dX8_bestOf_18 ?_
      refine z_icmp_ge C 19 71 dX8_bestOf_19 (by decide) (by first | assumption | omega) (by first | assumption | omega) (fun c19_36 => ?_) (fun c19_36 => ?_)
      · refine z_iload_n C 71 dX8_bestOf_71 rfl 3 rfl ?_
        refine z_iret C 72 dX8_bestOf_72 (by decide) (by decide) (by first | assumption | omega) ?_
        refine ⟨rfl, ?_⟩
        rw [g1, show (k - 4 * en).toNat = (zV M 58 0 en.toNat).toNat by omega]
        rfl
      refine z_aload_n C 22 dX8_bestOf_22 rfl 0 rfl ?_
      refine z_get C 23 zcl8 (show 0 < 1 by omega) (zc26 ..) 33 (by decide) rfl wf_8_96 dX8_bestOf_23 ?_
      refine z_bipush C 26 dX8_bestOf_26 (by decide +kernel) ?_
      refine z_iload_n C 28 dX8_bestOf_28 rfl 1 rfl ?_
      refine z_imul C 29 dX8_bestOf_29 ?_
      refine z_aload_n C 30 dX8_bestOf_30 rfl 0 rfl ?_
      refine z_get C 31 zcl8 (show 0 < 1 by omega) (zc26 ..) 29 (by decide) rfl wf_8_84 dX8_bestOf_31 ?_
      refine z_iload C 34 dX8_bestOf_34 4 rfl ?_
      refine z_iald C 36 (show 0 < 1 by omega) (zc59 ..) (by first | assumption | omega) (by omega) (show k < ((96 : Nat) : Int) by omega) dX8_bestOf_36 (fun zq4 ezq4 hzq4 => ?_)
      refine z_iadd C 37 dX8_bestOf_37 ?_
      refine z_zald C 38 (show 0 < 1 by omega) (zc63 ..) (by first | assumption | omega) (by omega) (show ((32 * a) + zq4) < ((96 : Nat) : Int) by omega) dX8_bestOf_38 (fun zq5 ezq5 hzq5 => ?_)
      refine z_if_ne C 39 63 dX8_bestOf_39 (by decide) hzq5 (fun c39_53 => ?_) (fun c39_53 => ?_)
      · refine z_iload_n C 63 dX8_bestOf_63 rfl 3 rfl ?_
        refine z_istore_n (lv' := [(3, .int (zI b)), (0, .ref (zad G 26 0)), (1, .int (zI a)), (2, .int (zI en)), (4, .int (zI k))]) C 64 dX8_bestOf_64 rfl (by decide) rfl ?_
        refine z_iinc (lv' := [(4, .int (zI (k + 1))), (3, .int (zI b)), (0, .ref (zad G 26 0)), (1, .int (zI a)), (2, .int (zI en))]) C 65 dX8_bestOf_65 4 rfl (by decide) rfl ?_
        refine z_goto C 68 7 dX8_bestOf_68 (by decide) ?_
        refine z_sub (lv' := [(0, .ref (zad G 26 0)), (1, .int (zI a)), (2, .int (zI en)), (3, .int (zI b)), (4, .int (zI (k + 1)))]) [2, 3, 4, 1, 0] rfl ?_
        have hu9 : znu M a.toNat (zV M 59 0 k.toNat).toNat = zq5 := by rw [ezq5]; unfold znu; rw [show (32 * a + zq4).toNat = 32 * a.toNat + (zV M 59 0 k.toNat).toNat by omega]
        exact ihz2 b (k + 1) (by omega) (by rw [show (k + 1 - 4 * en).toNat = ((k - 4 * en) + 1).toNat by omega, zbp_s _ _ _ (by omega), ← g1, hna, hnp, hu9]; first | rw [if_neg (by omega)] | (rw [if_pos (by omega)]; omega)) (by omega) (by omega)
      refine z_aload_n C 42 dX8_bestOf_42 rfl 0 rfl ?_
      refine z_get C 43 zcl8 (show 0 < 1 by omega) (zc26 ..) 30 (by decide) rfl wf_8_87 dX8_bestOf_43 ?_
      refine z_iload C 46 dX8_bestOf_46 4 rfl ?_
      refine z_iald C 48 (show 0 < 1 by omega) (zc60 ..) (by first | assumption | omega) (by omega) (show k < ((96 : Nat) : Int) by omega) dX8_bestOf_48 (fun zq6 ezq6 hzq6 => ?_)
      refine z_iload_n C 49 dX8_bestOf_49 rfl 3 rfl ?_
      refine z_icmp_ge C 50 63 dX8_bestOf_50 (by decide) hzq6 (by first | assumption | omega) (fun c50_66 => ?_) (fun c50_66 => ?_)
      · refine z_iload_n C 63 dX8_bestOf_63 rfl 3 rfl ?_
        refine z_istore_n (lv' := [(3, .int (zI b)), (0, .ref (zad G 26 0)), (1, .int (zI a)), (2, .int (zI en)), (4, .int (zI k))]) C 64 dX8_bestOf_64 rfl (by decide) rfl ?_
        refine z_iinc (lv' := [(4, .int (zI (k + 1))), (3, .int (zI b)), (0, .ref (zad G 26 0)), (1, .int (zI a)), (2, .int (zI en))]) C 65 dX8_bestOf_65 4 rfl (by decide) rfl ?_
        refine z_goto C 68 7 dX8_bestOf_68 (by decide) ?_
        refine z_sub (lv' := [(0, .ref (zad G 26 0)), (1, .int (zI a)), (2, .int (zI en)), (3, .int (zI b)), (4, .int (zI (k + 1)))]) [2, 3, 4, 1, 0] rfl ?_
        have hu9 : znu M a.toNat (zV M 59 0 k.toNat).toNat = zq5 := by rw [ezq5]; unfold znu; rw [show (32 * a + zq4).toNat = 32 * a.toNat + (zV M 59 0 k.toNat).toNat by omega]
        exact ihz2 b (k + 1) (by omega) (by rw [show (k + 1 - 4 * en).toNat = ((k - 4 * en) + 1).toNat by omega, zbp_s _ _ _ (by omega), ← g1, hna, hnp, hu9]; first | rw [if_neg (by omega)] | (rw [if_pos (by omega)]; omega)) (by omega) (by omega)
      refine z_aload_n C 53 dX8_bestOf_53 rfl 0 rfl ?_
      refine z_get C 54 zcl8 (show 0 < 1 by omega) (zc26 ..) 30 (by decide) rfl wf_8_87 dX8_bestOf_54 ?_
      refine z_iload C 57 dX8_bestOf_57 4 rfl ?_
      refine z_iald C 59 (show 0 < 1 by omega) (zc60 ..) (by first | assumption | omega) (by omega) (show k < ((96 : Nat) : Int) by omega) dX8_bestOf_59 (fun zq7 ezq7 hzq7 => ?_)
      refine z_goto C 60 64 dX8_bestOf_60 (by decide) ?_
      refine z_istore_n (lv' := [(3, .int (zI zq7)), (0, .ref (zad G 26 0)), (1, .int (zI a)), (2, .int (zI en)), (4, .int (zI k))]) C 64 dX8_bestOf_64 rfl (by decide) rfl ?_
      refine z_iinc (lv' := [(4, .int (zI (k + 1))), (3, .int (zI zq7)), (0, .ref (zad G 26 0)), (1, .int (zI a)), (2, .int (zI en))]) C 65 dX8_bestOf_65 4 rfl (by decide) rfl ?_
      refine z_goto C 68 7 dX8_bestOf_68 (by decide) ?_
      refine z_sub (lv' := [(0, .ref (zad G 26 0)), (1, .int (zI a)), (2, .int (zI en)), (3, .int (zI zq7)), (4, .int (zI (k + 1)))]) [2, 3, 4, 1, 0] rfl ?_
      have hu9 : znu M a.toNat (zV M 59 0 k.toNat).toNat = zq5 := by rw [ezq5]; unfold znu; rw [show (32 * a + zq4).toNat = 32 * a.toNat + (zV M 59 0 k.toNat).toNat by omega]
      exact ihz2 zq7 (k + 1) (by omega) (by rw [show (k + 1 - 4 * en).toNat = ((k - 4 * en) + 1).toNat by omega, zbp_s _ _ _ (by omega), ← g1, hna, hnp, hu9]; first | rw [if_neg (by omega)] | (rw [if_pos (by omega)]; omega)) (by omega) (by omega)
  refine z_sub (lv' := [(0, .ref (zad G 26 0)), (1, .int (zI a)), (2, .int (zI en)), (3, .int (zI 4)), (4, .int (zI (4 * en)))]) [2, 3, 4, 1, 0] rfl ?_
  exact L7_1 (((4 * en + zV M 58 0 en.toNat - (4 * en) : Int)).toNat + 1) 4 (4 * en) (by omega) (by rw [show (4 * en - 4 * en).toNat = 0 by omega]; rfl) (by omega) (by omega)
