/-- what a row of tactics needs often -/
theorem zV_of {M M' : zMem} {κ i j : Nat} (h : M κ i j = M' κ i j) : zV M κ i j = zV M' κ i j := by unfold zV; rw [h]
theorem zup_at {M : zMem} {κ i j : Nat} {v : Int32} {κ' i' j' : Nat} (h : ¬ (κ' = κ ∧ i' = i ∧ j' = j)) : zup M κ i j v κ' i' j' = M κ' i' j' := by unfold zup; rw [if_neg h]
/-- a mapping's locators from pl to k moved by one -/
def zshift (M M1 : zMem) (i : Nat) (pl k n1 : Int) : Prop :=
  zV M1 5 i 3 = n1 ∧ (∀ j : Nat, zV M1 6 i j = if pl ≤ j ∧ (j : Int) < k then zV M 6 i (j + 1) else zV M 6 i j) ∧ (∀ j : Nat, zV M1 7 i j = if pl ≤ j ∧ (j : Int) < k then zV M 7 i (j + 1) else zV M 7 i j) ∧ (∀ j : Nat, zV M1 8 i j = if pl ≤ j ∧ (j : Int) < k then zV M 8 i (j + 1) else zV M 8 i j) ∧
  ∀ κ' i' j' : Nat, ¬ (i' = i ∧ (κ' = 5 ∧ j' = 3 ∨ κ' = 6 ∨ κ' = 7 ∨ κ' = 8)) → M1 κ' i' j' = M κ' i' j'
theorem zshift_0 (M : zMem) (i : Nat) (pl : Int) {n1 : Int} (h : zrg n1) : zshift M (zup M 5 i 3 (zI n1)) i pl pl n1 := by
  refine ⟨zV_eq h, fun j => ?_, fun j => ?_, fun j => ?_, fun κ' i' j' h => zup_at (fun q => h ⟨q.2.1, Or.inl ⟨q.1, q.2.2⟩⟩)⟩ <;> rw [zV_ne (by decide), if_neg (by omega)]
theorem zshift_row {M M1 : zMem} {κ i : Nat} {pl k x : Int} (hk : 0 ≤ k) (hpk : pl ≤ k) (h : ∀ j : Nat, zV M1 κ i j = if pl ≤ j ∧ (j : Int) < k then zV M κ i (j + 1) else zV M κ i j) (hx : x = zV M1 κ i (k + 1).toNat) (hr : zrg x) {A B : zMem} (hA : ∀ j, zV A κ i j = zV M1 κ i j) (hB : ∀ j, zV B κ i j = zV (zup A κ i k.toNat (zI x)) κ i j) : ∀ j : Nat, zV B κ i j = if pl ≤ j ∧ (j : Int) < k + 1 then zV M κ i (j + 1) else zV M κ i j := by
  intro j
  rw [hB, zV_upg]
  have e1 : (k + 1).toNat = k.toNat + 1 := by omega
  rw [e1, h, if_neg (by omega)] at hx
  by_cases q : j = k.toNat
  · subst q
    rw [if_pos ⟨rfl, rfl, rfl⟩, if_pos (by omega), zI_toInt hr, hx]
  · rw [if_neg (fun z => q z.2.2), hA, h]
    by_cases q2 : pl ≤ j ∧ (j : Int) < k
    · rw [if_pos q2, if_pos (by omega)]
    · rw [if_neg q2, if_neg (by omega)]
theorem zshift_1 {M M1 : zMem} {i : Nat} {pl k n1 x6 x7 x8 : Int} (hk : 0 ≤ k) (hpk : pl ≤ k) (h : zshift M M1 i pl k n1) (h6 : x6 = zV M1 6 i (k + 1).toNat) (r6 : zrg x6) (h7 : x7 = zV M1 7 i (k + 1).toNat) (r7 : zrg x7) (h8 : x8 = zV M1 8 i (k + 1).toNat) (r8 : zrg x8) : zshift M (zup (zup (zup M1 6 i k.toNat (zI x6)) 7 i k.toNat (zI x7)) 8 i k.toNat (zI x8)) i pl (k + 1) n1 := by
  obtain ⟨a0, a6, a7, a8, a9⟩ := h
  refine ⟨?_, ?_, ?_, ?_, ?_⟩
  · rw [zV_ne (by decide), zV_ne (by decide), zV_ne (by decide)]; exact a0
  · exact zshift_row hk hpk a6 h6 r6 (A := M1) (fun j => rfl) (fun j => by rw [zV_ne (by decide), zV_ne (by decide)])
  · exact zshift_row hk hpk a7 h7 r7 (A := zup M1 6 i k.toNat (zI x6)) (fun j => zV_ne (by decide)) (fun j => by rw [zV_ne (by decide)])
  · exact zshift_row hk hpk a8 h8 r8 (A := zup (zup M1 6 i k.toNat (zI x6)) 7 i k.toNat (zI x7)) (fun j => by rw [zV_ne (by decide), zV_ne (by decide)]) (fun j => rfl)
  · intro κ' i' j' h
    rw [zup_at (fun q => h ⟨q.2.1, by omega⟩), zup_at (fun q => h ⟨q.2.1, by omega⟩), zup_at (fun q => h ⟨q.2.1, by omega⟩)]
    exact a9 κ' i' j' h
/-- an entry's locators, k of them copied of a mapping's -/
def zcopy (M M1 : zMem) (e i : Nat) (k : Int) : Prop :=
  zV M1 21 e 3 = k ∧ (∀ j : Nat, (j : Int) < k → zV M1 22 e j = zV M 6 i j ∧ zV M1 23 e j = zV M 7 i j ∧ zV M1 24 e j = zV M 8 i j) ∧
  (∀ j : Nat, k ≤ j → zV M1 22 e j = zV M 22 e j ∧ zV M1 23 e j = zV M 23 e j ∧ zV M1 24 e j = zV M 24 e j) ∧
  ∀ κ' i' j' : Nat, ¬ (i' = e ∧ (κ' = 21 ∧ j' = 3 ∨ κ' = 22 ∨ κ' = 23 ∨ κ' = 24)) → M1 κ' i' j' = M κ' i' j'
theorem zcopy_0 (M : zMem) (e i : Nat) : zcopy M (zup M 21 e 3 (zI 0)) e i 0 := by
  refine ⟨zV_eq (by decide), fun j h => absurd h (by omega), fun j _ => ⟨zV_ne (by decide), zV_ne (by decide), zV_ne (by decide)⟩, fun κ' i' j' h => zup_at (fun q => h ⟨q.2.1, Or.inl ⟨q.1, q.2.2⟩⟩)⟩
theorem zcopy_1 {M M1 : zMem} {e i : Nat} {k x6 x7 x8 : Int} (hk : 0 ≤ k) (hk4 : k < 4) (h : zcopy M M1 e i k) (h6 : x6 = zV M1 6 i k.toNat) (h7 : x7 = zV M1 7 i k.toNat) (h8 : x8 = zV M1 8 i k.toNat) (r6 : zrg x6) (r7 : zrg x7) (r8 : zrg x8) {M2 : zMem}
    (h2 : M2 = zup (zup (zup (zup M1 22 e (zV M1 21 e 3).toNat (zI x6)) 23 e (zV M1 21 e 3).toNat (zI x7)) 24 e (zV M1 21 e 3).toNat (zI x8)) 21 e 3 (zI (zV M1 21 e 3 + 1))) : zcopy M M2 e i (k + 1) := by
  obtain ⟨a0, a1, a2, a3⟩ := h
  rw [a0] at h2
  subst h2
  have f6 : zV M1 6 i k.toNat = zV M 6 i k.toNat := zV_of (a3 _ _ _ (by omega))
  have f7 : zV M1 7 i k.toNat = zV M 7 i k.toNat := zV_of (a3 _ _ _ (by omega))
  have f8 : zV M1 8 i k.toNat = zV M 8 i k.toNat := zV_of (a3 _ _ _ (by omega))
  refine ⟨zV_eq (by omega), fun j hj => ?_, fun j hj => ?_, ?_⟩
  · by_cases q : j = k.toNat
    · subst q
      refine ⟨?_, ?_, ?_⟩
      · rw [zV_ne (by decide), zV_ne (by decide), zV_ne (by decide), zV_eq r6, h6, f6]
      · rw [zV_ne (by decide), zV_ne (by decide), zV_eq r7, h7, f7]
      · rw [zV_ne (by decide), zV_eq r8, h8, f8]
    · obtain ⟨b1, b2, b3⟩ := a1 j (by omega)
      refine ⟨?_, ?_, ?_⟩
      · rw [zV_ne (by decide), zV_ne (by decide), zV_ne (by decide), zV_nj q, b1]
      · rw [zV_ne (by decide), zV_ne (by decide), zV_nj q, zV_ne (by decide), b2]
      · rw [zV_ne (by decide), zV_nj q, zV_ne (by decide), zV_ne (by decide), b3]
  · have q : j ≠ k.toNat := by omega
    obtain ⟨b1, b2, b3⟩ := a2 j (by omega)
    refine ⟨?_, ?_, ?_⟩
    · rw [zV_ne (by decide), zV_ne (by decide), zV_ne (by decide), zV_nj q, b1]
    · rw [zV_ne (by decide), zV_ne (by decide), zV_nj q, zV_ne (by decide), b2]
    · rw [zV_ne (by decide), zV_nj q, zV_ne (by decide), zV_ne (by decide), b3]
  · intro κ' i' j' h
    rw [zup_at (fun q => h ⟨q.2.1, by omega⟩), zup_at (fun q => h ⟨q.2.1, by omega⟩), zup_at (fun q => h ⟨q.2.1, by omega⟩), zup_at (fun q => h ⟨q.2.1, by omega⟩)]
    exact a3 κ' i' j' h
