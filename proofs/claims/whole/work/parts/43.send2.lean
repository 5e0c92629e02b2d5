theorem i_ansB {C D : zMem} {s : Nat} (h : iB C D) (hs : s < 4) : iB (zup C 11 0 s (zI (zV C 11 0 s + 1))) (zup D 48 0 s (zI (zV D 48 0 s + 1))) := by
  obtain ⟨⟨a, b1⟩, c, d, e⟩ := h
  refine ⟨⟨by rw [zV_ne (by decide)]; exact a, by rw [zV_ne (by decide), zV_ne (by decide)]; exact b1⟩, fun i hi => ?_, fun i i' h1 h2 h5 h6 => ?_, fun t ht => ?_⟩
  · rw [zV_ne (show (14 : Nat) ≠ 11 by decide), zV_ne (show (14 : Nat) ≠ 11 by decide), zV_ne (show (13 : Nat) ≠ 11 by decide), zV_ne (show (44 : Nat) ≠ 48 by decide), zV_ne (show (45 : Nat) ≠ 48 by decide), zV_ne (show (46 : Nat) ≠ 48 by decide)]
    exact c i hi
  · rw [zV_ne (by decide)] at h1 h2
    rw [zV_ne (by decide), zV_ne (by decide)] at h5 h6
    exact d i i' h1 h2 h5 h6
  · rw [zV_ne (show (10 : Nat) ≠ 11 by decide), zV_ne (show (47 : Nat) ≠ 48 by decide)]
    obtain ⟨k1, k2, k3⟩ := e t ht
    refine ⟨k1, k2, ?_⟩
    by_cases q : t = s
    · rw [q] at k3 ⊢
      rw [zV_upw, zV_upw, k3]
    · rw [zV_nj q, zV_nj q]; exact k3
theorem i_send {n : Nat} {C D C' D' : zMem} {r : Nat} {idn X Y : Int} (hn : n < 512) (h : iN n C D) (hr : r < 3) (hid : 0 ≤ idn ∧ idn < 65536) (h1 : zsnt C C' r idn X) (h2 : zmsnt D D' (r : Int) idn Y) : X = Y ∧ iN (n + 1) C' D' := by
  obtain ⟨hA, hB, hC, hD, hE⟩ := id h
  obtain ⟨⟨u0, u1⟩, ⟨e1, e2, e3⟩, e4, e5⟩ := id hE
  obtain ⟨Z, z1, z2⟩ := e5 r hr
  have hlen := i_el z1
  have hwr := (e1 r hr).1
  have hpf : ∀ p ∈ Z, zpfx (zV C 20 p.1 0) (zV C 20 p.1 1) := fun p hp => by
    have := i_el3 (e1 r hr) z1 hp
    exact e2 p.1 (by omega)
  have hfit : ∀ p ∈ Z, (zmft D idn p.2 ↔ zfit C idn (zV C 0 0 3) p.1) := fun p hp => i_fitk (z2.2.1 p hp).2.2.2 hC.1.1 (z2.2.1 p hp).2.1
  have hmef : ∀ x : Int, ¬ x = -1 → zmef D r idn x → ∃ (i : Nat) (p : Nat × Nat), Z[i]? = some p ∧ x = (p.2 : Int) ∧ zfit C idn (zV C 0 0 3) p.1 := fun x hx hf => by
    rcases hf with ⟨q, -⟩ | ⟨jj, hj8, hx2, hf2⟩
    · exact absurd q hx
    · obtain ⟨p, m, e⟩ := z2.2.2 (8 * r + jj) (by omega) (by omega) hf2.1
      obtain ⟨i, hi⟩ := List.getElem?_of_mem m
      refine ⟨i, p, hi, by rw [hx2, e], (hfit p m).mp ?_⟩
      rw [e]
      exact hf2
  have hmef1 : zmef D r idn (-1) → ∀ p ∈ Z, ¬ zfit C idn (zV C 0 0 3) p.1 := fun hf p hp z => by
    have b := (z2.2.1 p hp).1
    rcases hf with ⟨-, q⟩ | ⟨jj, hj8, hx2, -⟩
    · refine q (p.2 - 8 * r) (by omega) ?_
      rw [show 8 * r + (p.2 - 8 * r) = p.2 by omega]
      exact (hfit p hp).mpr z
    · omega
  unfold zmsnt at h2
  simp only [Int.toNat_natCast] at h2
  rcases h1 with ⟨j, M1, hj, hfj, -, hmte, hsnd⟩ | ⟨hno, y, hy, hrest⟩
  · obtain ⟨p, hp⟩ := i_some (Z := Z) (n := j) (by omega)
    have hpe := (i_el2 z1 hp).2.2
    rw [hpe] at hfj hsnd
    rcases h2 with ⟨x, hx, hef, hfin⟩ | ⟨hef, -⟩
    · obtain ⟨i, p', hi, hx2, hf2⟩ := hmef x hx hef
      have hij := i_fitu z2 hpf hid.1 hi hp hf2.2.2 hfj.2.2
      rw [hij, hp] at hi
      rw [← Option.some.inj hi] at hx2
      rw [hx2] at hfin
      exact i_hit hn h hr z1 z2 hp hmte hsnd hfin
    · exact absurd hfj (hmef1 hef p (List.mem_of_getElem? hp))
  · rcases h2 with ⟨x, hx, hef, hfin⟩ | ⟨hef, w, hw, hrest2⟩
    · obtain ⟨i, p', hi, hx2, hf2⟩ := hmef x hx hef
      obtain ⟨k1, -, k3⟩ := i_el2 z1 hi
      exact absurd (by rw [k3]; exact hf2) (hno i (by omega))
    · obtain ⟨s1, s2, s3⟩ := i_srv hB hy hw
      rw [← s1] at hrest2
      obtain ⟨s, hs⟩ : ∃ s : Nat, (zsv (zdt C) y).toNat = s := ⟨_, rfl⟩
      rw [hs] at hrest hrest2
      have hs4 : s < 4 := by omega
      obtain ⟨-, t2, -⟩ := hB.2.2.2 s hs4
      rw [t2] at hrest2
      rcases hrest with ⟨r1, r2, r3⟩ | ⟨r1, pl, M1, M2, r2, r3, r4⟩ <;> rcases hrest2 with ⟨q1, q2, q3⟩ | ⟨q1, x, D1, q2, q3⟩
      · rw [r2, q2, r3, q3]
        exact ⟨rfl, iN_c h (by omega) (fun _ _ _ _ => rfl) (fun _ _ _ _ _ _ => rfl)⟩
      · exact absurd q1 r1
      · exact absurd r1 q1
      · have h9 : iN n (zup C 11 0 s (zI (zV C 11 0 s + 1))) (zup D 48 0 s (zI (zV D 48 0 s + 1))) := i_upB h (Nat.le_refl n) (i_ansB hB hs4) (fun κ i j k => zup_at (by omega)) (fun κ i j k1 k2 => zup_at (by omega))
        exact i_miss hn h9 hr hid r2 r3 r4 q2 q3
/-! what the one side's calls leave of the other's cells -/
def i_cf (M M' : zMem) : Prop := ∀ κ i j : Nat, 26 ≤ κ → M' κ i j = M κ i j
def i_rf (M M' : zMem) : Prop := ∀ κ i j : Nat, κ < 26 ∨ κ = 27 → M' κ i j = M κ i j
theorem i_cf.r (M : zMem) : i_cf M M := fun _ _ _ _ => rfl
theorem i_rf.r (M : zMem) : i_rf M M := fun _ _ _ _ => rfl
theorem i_cf.t {A B C : zMem} (h : i_cf A B) (h2 : i_cf B C) : i_cf A C := fun κ i j q => (h2 κ i j q).trans (h κ i j q)
theorem i_rf.t {A B C : zMem} (h : i_rf A B) (h2 : i_rf B C) : i_rf A C := fun κ i j q => (h2 κ i j q).trans (h κ i j q)
theorem i_cf.u {A B : zMem} {κ i j : Nat} {v : Int32} (h : i_cf A B) (hk : κ < 26) : i_cf A (zup B κ i j v) := fun κ' i' j' q => (zup_at (fun z => by omega)).trans (h κ' i' j' q)
theorem i_rf.u {A B : zMem} {κ i j : Nat} {v : Int32} (h : i_rf A B) (hk : 26 ≤ κ ∧ κ ≠ 27) : i_rf A (zup B κ i j v) := fun κ' i' j' q => (zup_at (fun z => by omega)).trans (h κ' i' j' q)
theorem i_rf.thr {A B : zMem} {k : Int} (h : zthr A B k) : i_rf A B := fun κ i j q => h.2 κ i j (by omega)
theorem i_cf.sol {A B : zMem} {m : Nat} {k : Int} (h : zsolk A B m k) : i_cf A B := fun κ i j q => h.2.2.2 κ i j (by omega) (by omega)
theorem i_rf.msk {A B : zMem} {m : Nat} {k : Int} (h : zmsk A B m k) : i_rf A B := fun κ i j q => h.2.2.2 κ i j (by omega) (by omega)
theorem i_cf.shf {A B : zMem} {i : Nat} {pl k c : Int} (h : zshift A B i pl k c) : i_cf A B := fun κ i j q => h.2.2.2.2 κ i j (by omega)
theorem i_rf.msh {A B : zMem} {lo k : Int} (h : zmsh A B lo k) : i_rf A B := fun κ i j q => h.2.2.2 κ i j (by omega)
theorem i_cf.mte {A B : zMem} {r : Nat} {pl : Int} (h : zmte A B r pl) : i_cf A B := fun κ i j q => h.2.2 κ i j (by omega)
theorem i_cf.snd {A B : zMem} {r q : Nat} {x : Int} (h : zsnd A B r q x) : i_cf A B := by
  rcases h with ⟨-, -, e⟩ | ⟨-, -, -, e⟩ | ⟨-, -, -, -, e⟩
  · rw [e]; exact i_cf.r A
  · rw [e]; exact i_cf.r A
  · rw [e]; exact (i_cf.r A).u (by decide)
theorem i_cf.ans {A B : zMem} {r : Nat} {idn x : Int} (h : zans A B r idn x) : i_cf A B := by
  obtain ⟨mm, L, M1, M2, -, -, h3, h4, h5⟩ := h
  have k1 : i_cf A M1 := fun κ i j q => h3.2.2.2.2.2 κ i j (by omega)
  have k2 : i_cf A M2 := by rw [h4]; exact (k1.u (by decide)).u (by decide)
  rcases h5 with ⟨-, h5⟩ | ⟨-, -, -, h5⟩
  · rw [h5]
    exact (((k2.u (by decide)).u (by decide)).u (by decide)).u (by decide)
  · exact k2.t fun κ i j q => h5.2.2.2.2.2.2.2.2 κ i j (by omega)
theorem i_cf.snt {A B : zMem} {r : Nat} {idn x : Int} (h : zsnt A B r idn x) : i_cf A B := by
  rcases h with ⟨j, M1, -, -, -, h1, h2⟩ | ⟨-, y, -, ⟨-, -, e⟩ | ⟨-, pl, M1, M2, h1, h2, h3⟩⟩
  · exact (i_cf.mte h1).t (i_cf.snd h2)
  · rw [e]; exact i_cf.r A
  · exact ((((i_cf.r A).u (by decide)).t (i_cf.ans h1)).t (i_cf.mte h2)).t (i_cf.snd h3)
theorem i_rf.got {A B : zMem} {a idn x : Int} (h : zgot A B a idn x) : i_rf A B := by
  obtain ⟨mm, L, M1, M2, -, -, h3, h4, -, -, h7⟩ := h
  have k1 : i_rf A M1 := fun κ i j q => h3.2 κ i j (by omega)
  have k2 : i_rf A M2 := by
    rcases h4 with ⟨-, j, -, -, e⟩ | ⟨-, e⟩
    · rw [e]; exact k1.u (by decide)
    · rw [e]; exact k1
  refine i_rf.t ?_ (fun κ i j q => h7.2 κ i j (by omega))
  unfold zgset
  exact (((((((k2.u (by decide)).u (by decide)).u (by decide)).u (by decide)).u (by decide)).u (by decide)).u (by decide)).u (by decide)
theorem i_rf.fin {A B : zMem} {a x y : Int} (h : zmfin A B a x y) : i_rf A B := by
  obtain ⟨M2, e, h2⟩ := h
  have k2 : i_rf A M2 := by rw [e]; exact ((i_rf.r A).u (by decide)).u (by decide)
  rcases h2 with ⟨-, -, e2⟩ | ⟨-, -, -, e2⟩ | ⟨-, -, -, e2⟩
  · rw [e2]; exact k2
  · rw [e2]; exact k2
  · rw [e2]; exact k2.u (by decide)
theorem i_rf.snt {A B : zMem} {a idn y : Int} (h : zmsnt A B a idn y) : i_rf A B := by
  rcases h with ⟨x, -, -, h1⟩ | ⟨-, w, -, ⟨-, -, e⟩ | ⟨-, x, M1, h1, h2⟩⟩
  · exact i_rf.fin h1
  · rw [e]; exact i_rf.r A
  · exact (((i_rf.r A).u (by decide)).t (i_rf.got h1)).t (i_rf.fin h2)
/-! a call on both sides -/
theorem i_mid {n : Nat} {M M1 : zMem} {P : Int → zMem → Prop} {EX : String → Prop} {es : List String} {k : Int} (hI : iN n M M) (hP : ∀ x Mc, P x Mc → i_cf M Mc) (h : zwP P EX M es k M1) : iN n M M1 := by
  rcases h with ⟨-, x, Mc, -, hp, e⟩ | ⟨-, -, -, -, -, e⟩
  · exact iN_c hI (Nat.le_refl n) (fun _ _ _ _ => rfl) (fun κ i j h1 h2 _ => by rw [e, zup_at (fun z => h2 z.1)]; exact hP x Mc hp κ i j h1)
  · rw [e]; exact hI
theorem i_gen {n : Nat} {M M1 M2 : zMem} {P : Int → zMem → Prop} {EX : String → Prop} {es : List String} {k y : Int} (h : zwP P EX M es k M1) (hQ : i_rf M1 M2) (hok : ∀ x Mc, P x Mc → zV M2 26 0 0 = 0 ∧ x = y ∧ iN (n + 1) Mc M2) (hex : ∀ (i : Nat) (E : String), es[i]? = some E → EX E → zV M2 26 0 0 = (i : Int) + 1 ∧ iN (n + 1) M M2) : zV M2 26 0 0 = k ∧ (k = 0 → zV M2 27 0 0 = y) ∧ iN (n + 1) M2 M2 := by
  rcases h with ⟨hk, x, Mc, hx, hp, e⟩ | ⟨i, E, h1, h2, h3, e⟩
  · obtain ⟨t0, exy, hN⟩ := hok x Mc hp
    refine ⟨t0.trans hk.symm, fun _ => ?_, iN_c hN (Nat.le_refl _) (fun κ i j q => ?_) (fun _ _ _ _ _ _ => rfl)⟩
    · rw [zV_of (hQ 27 0 0 (Or.inr rfl)), e, zV_eq hx, exy]
    · rw [hQ κ i j (Or.inl q), e, zup_at (by omega)]
  · obtain ⟨t0, hN⟩ := hex i E h1 h3
    refine ⟨t0.trans h2.symm, fun z => ?_, iN_c hN (Nat.le_refl _) (fun κ i j q => ?_) (fun _ _ _ _ _ _ => rfl)⟩
    · omega
    · rw [hQ κ i j (Or.inl q), e]
theorem i_es1 {A E : String} {i : Nat} (h : [A][i]? = some E) : i = 0 ∧ E = A := by
  match i, h with
  | 0, h => exact ⟨rfl, (Option.some.inj h).symm⟩
  | i + 1, h => simp at h
theorem i_es2 {A B E : String} {i : Nat} (h : [A, B][i]? = some E) : (i = 0 ∧ E = A) ∨ (i = 1 ∧ E = B) := by
  match i, h with
  | 0, h => exact Or.inl ⟨rfl, (Option.some.inj h).symm⟩
  | 1, h => exact Or.inr ⟨rfl, (Option.some.inj h).symm⟩
  | i + 2, h => simp at h
theorem i_es3 {A B C E : String} {i : Nat} (h : [A, B, C][i]? = some E) : (i = 0 ∧ E = A) ∨ (i = 1 ∧ E = B) ∨ (i = 2 ∧ E = C) := by
  match i, h with
  | 0, h => exact Or.inl ⟨rfl, (Option.some.inj h).symm⟩
  | 1, h => exact Or.inr (Or.inl ⟨rfl, (Option.some.inj h).symm⟩)
  | 2, h => exact Or.inr (Or.inr ⟨rfl, (Option.some.inj h).symm⟩)
  | i + 3, h => simp at h
theorem i_n1 : xIAE ≠ xISE := by decide
theorem i_n2 : xIOB ≠ xIAE := by decide
theorem i_n3 : xIOB ≠ xISE := by decide
