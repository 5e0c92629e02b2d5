/-! the law's end; what holds at its start -/
section ZLAW
variable {p : Program} {l : Launch} {e : Env} {s : State} {m : MethodId} {below : List Frame} {meth : Method} {c : Code} {G : zG} {own : String} {cc : ByteArray} {nL : Nat} {M : zMem} {cells slots : Nat} {lv : List (Nat × Value)}
theorem zs_end {b : Nat} {pc : Nat} (C : zC p s m #[Value.ref b] meth c G own cc nL (some .boolean)) (hcc : cc = code) (hG : zB G = s.heap) (h1 : cells ≤ 600104) (h2 : slots ≤ 7301314) (d : decode code pc = .ok (.ireturn, 1)) : zZ p l e room_1 s m #[Value.ref b] below meth c G nL (lw_Z below #[Value.ref b] s) M cells slots pc lv [.int (zI 1)] := by
  intro H locs ls hM hS hl
  refine va_forget (fun q hq => ?_) (W.widen h1 h2 (lw_ret C.1 (C.2.1.trans hcc) C.2.2.2.2.2.2.2.1 C.2.2.2.2.2.2.1 d))
  have h9 := hS.2.2 q hq
  rw [← hG]
  exact h9
end ZLAW
/-- the places of the law's entries so far told empty -/
def jz0 (M : zMem) (k : Int) : Prop := (∀ s : Nat, (s : Int) < k → zV M 30 0 s = -1) ∧ ∀ κ i j : Nat, κ ≠ 30 → zV M κ i j = zV zM0 κ i j
theorem jz0_0 : jz0 zM0 0 := ⟨fun s h => by omega, fun _ _ _ _ => rfl⟩
theorem jz0_1 {M : zMem} {k : Int} (hk : 0 ≤ k) (h : jz0 M k) : jz0 (zup M 30 0 k.toNat (zI (-1))) (k + 1) := by
  refine ⟨fun s hs => ?_, fun κ i j q => by rw [zV_ne q]; exact h.2 κ i j q⟩
  by_cases q : s = k.toNat
  · rw [q]; exact zV_eq (by decide)
  · rw [zV_nj q]; exact h.1 s (by omega)
theorem zM0_hi {κ i j : Nat} (h : 20 ≤ κ) : zV zM0 κ i j = 0 := by
  unfold zV zM0
  split <;> first | rfl | omega
theorem iN_0 {N : zMem} (hc : ∀ κ i j : Nat, κ < 26 → zV N κ i j = zV zM0 κ i j) (hp : ∀ s : Nat, s < 16 → zV N 30 0 s = -1) (hg1 : zV N 36 0 1 = 100) (hg2 : zV N 36 0 2 = 20) (hz : ∀ κ j : Nat, 26 ≤ κ → κ ≠ 30 → ¬ (κ = 36 ∧ (j = 1 ∨ j = 2)) → zV N κ 0 j = 0) : iN 0 N N := by
  have h17 : ∀ r j : Nat, r < 3 → j < 8 → zV N 17 r j = 8 * (r : Int) + j := fun r j hr hj => by
    rw [hc _ _ _ (by decide)]
    show (zI ((8 * r + j : Nat) : Int)).toInt = _
    rw [zI_toInt (by omega)]
    omega
  have c0 : ∀ κ i j : Nat, (κ = 1 ∨ κ = 4 ∨ κ = 5 ∨ κ = 6 ∨ κ = 7 ∨ κ = 8 ∨ κ = 9 ∨ κ = 10 ∨ κ = 11 ∨ κ = 13 ∨ κ = 14 ∨ κ = 16 ∨ κ = 18 ∨ κ = 20 ∨ κ = 21 ∨ κ = 22) → zV N κ i j = 0 := fun κ i j q => by
    rw [hc _ _ _ (by omega)]
    rcases q with q | q | q | q | q | q | q | q | q | q | q | q | q | q | q | q <;> subst q <;> rfl
  have c32 : ∀ i : Nat, zV N 3 i 2 = 1 := fun i => by rw [hc _ _ _ (by decide)]; rfl
  have c33 : ∀ i : Nat, zV N 3 i 3 = 0 := fun i => by rw [hc _ _ _ (by decide)]; rfl
  have c03 : zV N 0 0 3 = 0 := by rw [hc _ _ _ (by decide)]; rfl
  have c04 : zV N 0 0 4 = 100 := by rw [hc _ _ _ (by decide)]; rfl
  have c05 : zV N 0 0 5 = 20 := by rw [hc _ _ _ (by decide)]; rfl
  have c06 : zV N 0 0 6 = 0 := by rw [hc _ _ _ (by decide)]; rfl
  have hp0 : zpfx 0 0 := ⟨by decide, by decide, by decide, by decide⟩
  have n1 : zV N 1 0 1 = 0 := c0 _ _ _ (by omega)
  have n9 : zV N 9 0 4 = 0 := c0 _ _ _ (by omega)
  have n16 : ∀ r : Nat, zV N 16 r 2 = 0 := fun r => c0 _ _ _ (by omega)
  refine ⟨⟨by omega, by rw [hz _ _ (by decide) (by decide) (by omega), n1], fun i hi => ⟨⟨?_, Or.inl (c33 i), by rw [c32]; decide, by rw [c32]; decide⟩, fun q => by omega, fun _ => ⟨c33 i, c32 i, c0 _ _ _ (by omega)⟩, ?_, fun j hj => ⟨?_, fun hi16 => ?_⟩, fun j hj => ?_, fun j j' hj => ?_⟩, fun i i' q => by omega⟩,
    ⟨⟨by omega, by rw [hz _ _ (by decide) (by decide) (by omega), n9]⟩, fun i hi => ?_, fun i q => by omega, fun i i' q => by omega⟩,
    ⟨?_, fun t ht => ?_⟩, ⟨⟨by rw [hz _ _ (by decide) (by decide) (by omega), c03], by rw [hg1, c04], by rw [hg2, c05]⟩, by rw [hz _ _ (by decide) (by decide) (by omega), c06], ?_, ?_, ?_⟩,
    ⟨fun r a => Or.inl (c0 _ _ _ (by omega)), fun r hr => ⟨?_, fun a ha => ?_⟩⟩, ⟨?_, ⟨fun r hr => ⟨?_, fun j hj => ?_, fun j j' hj hj' e => ?_⟩, fun q hq => ?_, fun q hq => ⟨?_, fun j hj => ?_⟩⟩, n16 1, ⟨fun s hs => ?_, fun k hk => ?_⟩, fun r hr => ⟨[], ?_, ?_⟩⟩⟩
  · rw [c0 4 i 0 (by omega), c0 4 i 1 (by omega)]; exact ⟨hp0, by decide⟩
  · rw [c0 5 i 3 (by omega)]; decide
  · rw [c0 6 i j (by omega)]; decide
  · rw [hz _ _ (by decide) (by decide) (by omega), c0 5 i 3 (by omega), if_neg (by omega)]
  · rw [c0 5 i 3 (by omega)] at hj; omega
  · rw [c0 5 i 3 (by omega)] at hj; omega
  · rw [c0 14 i 0 (by omega), c0 14 i 1 (by omega), c0 13 0 i (by omega)]; exact ⟨hp0, by decide, by decide⟩
  · rw [hz _ _ (by decide) (by decide) (by omega)]; decide
  · rw [hz 36 5 (by decide) (by decide) (by omega), hz 36 (8 + t) (by decide) (by decide) (by omega), c0 10 0 t (by omega), c0 11 0 t (by omega)]
    exact ⟨Or.inl rfl, by rw [Int.zero_ediv]; rfl, rfl, by decide, by decide⟩
  · rw [c03]; decide
  · rw [c04, c05]; decide
  · rw [c06]; decide
  · rw [hz _ _ (by decide) (by decide) (by omega)]; decide
  · rw [hz _ _ (by decide) (by decide) (by omega), c0 18 _ a (by omega), Int.zero_ediv]; rfl
  · rw [hz _ _ (by decide) (by decide) (by omega)]; decide
  · rw [n16]; decide
  · rw [h17 r j hr hj]; omega
  · rw [h17 r j hr hj, h17 r j' hr hj'] at e; omega
  · rw [c0 20 q 0 (by omega), c0 20 q 1 (by omega)]; exact hp0
  · rw [c0 21 q 3 (by omega)]; decide
  · rw [c0 22 q j (by omega)]; decide
  · rw [hp s hs]; exact ⟨by decide, fun q => by omega⟩
  · rw [hz _ _ (by decide) (by decide) (by omega)]; decide
  · unfold zel; rw [n16]; rfl
  · refine ⟨List.Pairwise.nil, fun p q => (by cases q), fun s h1 h2 h3 => ?_⟩
    rw [hp s (by omega)] at h3
    omega
