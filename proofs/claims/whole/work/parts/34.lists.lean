/-! first bits -/
theorem i_fs {v w m k : Int} (hv : 0 ≤ v) (hw : 0 ≤ w) (hk : 0 ≤ k) (hkm : k ≤ m) (hm : m ≤ 16) (h : zfs v m = zfs w m) : zfs v k = zfs w k := by
  obtain ⟨j, hj, e⟩ := zj (b := m) (by omega) hm
  obtain ⟨j', hj', e'⟩ := zj (b := k) hk (by omega)
  rw [zfs_nat hv e, zfs_nat hw e] at h
  rw [zfs_nat hv e', zfs_nat hw e']
  have h1 : v.toNat / 2 ^ j = w.toNat / 2 ^ j := Int.ofNat.inj h
  obtain ⟨t, ht⟩ : ∃ t, j' = j + t := ⟨j' - j, by omega⟩
  rw [ht, Nat.pow_add, ← Nat.div_div_eq_div_mul, ← Nat.div_div_eq_div_mul, h1]
theorem i_mt {v b w d id : Int} (hv : zpfx v b) (hw : zpfx w d) (hi : 0 ≤ id) (h1 : zmeet v b id 16) (h2 : zmeet w d id 16) : zmeet v b w d := by
  unfold zpfx at hv hw
  unfold zmeet at h1 h2 ⊢
  rw [show min b 16 = b by omega] at h1
  rw [show min d 16 = d by omega] at h2
  have e1 := i_fs (k := min b d) hv.1 hi (by omega) (by omega) hv.2.2.2 h1
  have e2 := i_fs (k := min b d) hw.1 hi (by omega) (by omega) hw.2.2.2 h2
  rw [e1, e2]
/-! the longest one is one alone -/
theorem i_fu {v l g : Nat → Int} {n id x y : Int} (hx : zfnd v l g n id x) (hy : zfnd v l g n id y) : x = y := by
  rcases hx with ⟨a1, a2⟩ | ⟨i, a1, a2, a3⟩ <;> rcases hy with ⟨b1, b2⟩ | ⟨k, b1, b2, b3⟩
  · rw [a1, b1]
  · exact absurd b2 (a2 k)
  · exact absurd a2 (b2 i)
  · have h1 := a3 k b2
    have h2 := b3 i a2
    have h3 := h1.1
    have h4 := h2.1
    rw [a1, b1]
    rcases Nat.lt_trichotomy i k with q | q | q
    · have h5 := h2.2 q
      omega
    · rw [q]
    · have h5 := h1.2 q
      omega
theorem i_fc {v l g v' l' g' : Nat → Int} {n id x : Int} (hv : ∀ i : Nat, (i : Int) < n → v' i = v i ∧ l' i = l i ∧ g' i = g i) (h : zfnd v l g n id x) : zfnd v' l' g' n id x := by
  have hc : ∀ i, zcov v' l' g' n id i ↔ zcov v l g n id i := fun i => by
    unfold zcov
    constructor
    · rintro ⟨h1, h2, h3⟩
      obtain ⟨e1, e2, e3⟩ := hv i h1
      exact ⟨h1, by rw [← e3]; exact h2, by rw [← e1, ← e2]; exact h3⟩
    · rintro ⟨h1, h2, h3⟩
      obtain ⟨e1, e2, e3⟩ := hv i h1
      exact ⟨h1, by rw [e3]; exact h2, by rw [e1, e2]; exact h3⟩
  rcases h with ⟨a, b⟩ | ⟨i, a, b, c⟩
  · exact Or.inl ⟨a, fun i hi => b i ((hc i).mp hi)⟩
  · refine Or.inr ⟨i, a, (hc i).mpr b, fun k hk => ?_⟩
    have hk2 := (hc k).mp hk
    have h1 := c k hk2
    rw [(hv i b.1).2.1, (hv k hk2.1).2.1]
    exact h1
/-! sums -/
theorem i_sa (f g : Nat → Int) (n : Nat) : zsm (fun k => f k + g k) n = zsm f n + zsm g n := by
  induction n with
  | zero => rfl
  | succ n ih =>
    show zsm (fun k => f k + g k) n + (f n + g n) = zsm f n + f n + (zsm g n + g n)
    rw [ih]
    omega
theorem i_s0 (n : Nat) : zsm (fun _ => 0) n = 0 := by
  induction n with
  | zero => rfl
  | succ n ih =>
    show zsm (fun _ => 0) n + 0 = 0
    rw [ih]
    rfl
theorem i_s1 (x : Int) (k n : Nat) : zsm (fun j => if j = k then x else 0) n = if k < n then x else 0 := by
  induction n with
  | zero => rw [if_neg (by omega)]; rfl
  | succ n ih =>
    show zsm (fun j => if j = k then x else 0) n + (if n = k then x else 0) = _
    rw [ih]
    by_cases q : n = k
    · rw [if_pos q, if_neg (by omega), if_pos (by omega)]
      omega
    · rw [if_neg q]
      by_cases q2 : k < n
      · rw [if_pos q2, if_pos (by omega)]
        omega
      · rw [if_neg q2, if_neg (by omega)]
        rfl
theorem i_sf (f : Nat → Int) (n : Nat) : zsm f (n + 1) = f 0 + zsm (fun j => f (j + 1)) n := by
  induction n with
  | zero =>
    show (0 : Int) + f 0 = f 0 + 0
    omega
  | succ n ih =>
    show zsm f (n + 1) + f (n + 1) = f 0 + (zsm (fun j => f (j + 1)) n + f (n + 1))
    rw [ih]
    omega
theorem i_sd (f : Nat → Int) (a b : Nat) : zsm f (a + b) = zsm f a + zsm (fun j => f (a + j)) b := by
  induction b with
  | zero =>
    show zsm f a = zsm f a + 0
    omega
  | succ b ih =>
    show zsm f (a + b) + f (a + b) = zsm f a + (zsm (fun j => f (a + j)) b + f (a + b))
    rw [ih]
    omega
theorem i_s24 (f : Nat → Int) : zsm f 24 = zsm (fun j => f (8 * 0 + j)) 8 + zsm (fun j => f (8 * 1 + j)) 8 + zsm (fun j => f (8 * 2 + j)) 8 := by
  have e1 : zsm f 24 = zsm f 16 + zsm (fun j => f (16 + j)) 8 := i_sd f 16 8
  have e2 : zsm f 16 = zsm f 8 + zsm (fun j => f (8 + j)) 8 := i_sd f 8 8
  have e3 : zsm (fun j => f (8 * 0 + j)) 8 = zsm f 8 := zsm_ext fun k _ => congrArg f (by omega)
  have e4 : zsm (fun j => f (8 * 1 + j)) 8 = zsm (fun j => f (8 + j)) 8 := zsm_ext fun k _ => congrArg f (by omega)
  have e5 : zsm (fun j => f (8 * 2 + j)) 8 = zsm (fun j => f (16 + j)) 8 := zsm_ext fun k _ => congrArg f (by omega)
  rw [e1, e2, e3, e4, e5]
/-! how many of a list -/
noncomputable def i_ls (Q : Nat × Nat → Prop) : List (Nat × Nat) → Int
  | [] => 0
  | p :: Z => zind (Q p) + i_ls Q Z
theorem i_ls_all {Q : Nat × Nat → Prop} {Z : List (Nat × Nat)} (h : ∀ p ∈ Z, Q p) : i_ls Q Z = (Z.length : Int) := by
  induction Z with
  | nil => rfl
  | cons p Z ih =>
    show zind (Q p) + i_ls Q Z = _
    rw [zind_t (h p (List.mem_cons.mpr (Or.inl rfl))), ih (fun q hq => h q (List.mem_cons_of_mem _ hq)), List.length_cons]
    omega
theorem i_ls_no {Q : Nat × Nat → Prop} {Z : List (Nat × Nat)} (h : ∀ p ∈ Z, ¬ Q p) : i_ls Q Z = 0 := by
  induction Z with
  | nil => rfl
  | cons p Z ih =>
    show zind (Q p) + i_ls Q Z = _
    rw [zind_f (h p (List.mem_cons.mpr (Or.inl rfl))), ih (fun q hq => h q (List.mem_cons_of_mem _ hq))]
    rfl
theorem i_ls_ext {Q Q' : Nat × Nat → Prop} {Z : List (Nat × Nat)} (h : ∀ p ∈ Z, (Q p ↔ Q' p)) : i_ls Q Z = i_ls Q' Z := by
  induction Z with
  | nil => rfl
  | cons p Z ih =>
    show zind (Q p) + i_ls Q Z = zind (Q' p) + i_ls Q' Z
    rw [zind_iff (h p (List.mem_cons.mpr (Or.inl rfl))), ih (fun q hq => h q (List.mem_cons_of_mem _ hq))]
theorem i_cnt {Q : Nat × Nat → Prop} {r : Nat} : ∀ (Z : List (Nat × Nat)) (f : Nat → Int), Z.Pairwise (fun p p' => p.2 ≠ p'.2) → (∀ p ∈ Z, 8 * r ≤ p.2 ∧ p.2 < 8 * r + 8) → (∀ j, j < 8 → f j = zind (∃ p ∈ Z, p.2 = 8 * r + j ∧ Q p)) → zsm f 8 = i_ls Q Z := by
  intro Z
  induction Z with
  | nil =>
    intro f _ _ h
    have e : zsm f 8 = zsm (fun _ => 0) 8 := zsm_ext fun j hj => by
      rw [h j hj]
      exact zind_f (fun ⟨p, hp, _⟩ => by cases hp)
    exact e.trans (i_s0 8)
  | cons p Z ih =>
    intro f hd hr h
    rw [List.pairwise_cons] at hd
    obtain ⟨hd1, hd2⟩ := hd
    have hp := hr p (List.mem_cons.mpr (Or.inl rfl))
    have h1 := ih (fun j => zind (∃ p ∈ Z, p.2 = 8 * r + j ∧ Q p)) hd2 (fun q hq => hr q (List.mem_cons_of_mem _ hq)) (fun _ _ => rfl)
    have h2 : zsm f 8 = zsm (fun j => (if j = p.2 - 8 * r then zind (Q p) else 0) + zind (∃ p ∈ Z, p.2 = 8 * r + j ∧ Q p)) 8 := by
      refine zsm_ext fun j hj => ?_
      rw [h j hj]
      by_cases q : j = p.2 - 8 * r
      · rw [if_pos q, zind_f (p := ∃ p ∈ Z, p.2 = 8 * r + j ∧ Q p) (fun ⟨p', m1, m2, _⟩ => hd1 p' m1 (by omega)), Int.add_zero]
        refine zind_iff ⟨fun ⟨p', m1, m2, m3⟩ => ?_, fun z => ⟨p, List.mem_cons.mpr (Or.inl rfl), by omega, z⟩⟩
        rcases List.mem_cons.mp m1 with e | m
        · rw [← e]; exact m3
        · exact absurd (show p.2 = p'.2 by omega) (hd1 p' m)
      · rw [if_neg q, Int.zero_add]
        refine zind_iff ⟨fun ⟨p', m1, m2, m3⟩ => ?_, fun ⟨p', m1, m2⟩ => ⟨p', List.mem_cons_of_mem _ m1, m2⟩⟩
        rcases List.mem_cons.mp m1 with e | m
        · rw [e] at m2
          omega
        · exact ⟨p', m, m2, m3⟩
    have h3 := i_sa (fun j => if j = p.2 - 8 * r then zind (Q p) else 0) (fun j => zind (∃ p ∈ Z, p.2 = 8 * r + j ∧ Q p)) 8
    have h4 := i_s1 (zind (Q p)) (p.2 - 8 * r) 8
    rw [if_pos (by omega)] at h4
    show _ = zind (Q p) + i_ls Q Z
    rw [h2, h3, h4, h1]
theorem i_ix {u : Nat → Int} : ∀ (Z : List (Nat × Nat)) (n : Nat) (p : Nat × Nat), Z.Pairwise (fun p p' => u p.2 < u p'.2) → Z[n]? = some p → i_ls (fun p' => u p'.2 < u p.2) Z = (n : Int) := by
  intro Z
  induction Z with
  | nil => intro n p _ h; simp at h
  | cons q Z ih =>
    intro n p hd h
    rw [List.pairwise_cons] at hd
    show zind (u q.2 < u p.2) + i_ls (fun p' => u p'.2 < u p.2) Z = _
    cases n with
    | zero =>
      have e : q = p := by simpa using h
      rw [← e]
      have h1 : i_ls (fun p' => u p'.2 < u q.2) Z = 0 := i_ls_no fun p' hp' => by
        have h2 : u q.2 < u p'.2 := hd.1 p' hp'
        show ¬ u p'.2 < u q.2
        omega
      rw [h1, zind_f (by omega)]
      rfl
    | succ n =>
      have h' : Z[n]? = some p := by simpa using h
      have h2 : u q.2 < u p.2 := hd.1 p (List.mem_of_getElem? h')
      rw [zind_t h2, ih n p hd.2 h']
      omega
/-- a sum by number over a list -/
theorem i_lz {T : Nat → Prop} : ∀ (Z : List (Nat × Nat)) (g : Nat → Nat), (∀ (j : Nat) (p : Nat × Nat), Z[j]? = some p → g j = p.1) → zsm (fun j => zind (T (g j))) Z.length = i_ls (fun p => T p.1) Z := by
  intro Z
  induction Z with
  | nil => intro g _; rfl
  | cons q Z ih =>
    intro g h
    have h0 := h 0 q (by simp)
    rw [List.length_cons, i_sf, h0]
    show zind (T q.1) + zsm (fun j => zind (T (g (j + 1)))) Z.length = zind (T q.1) + i_ls (fun p => T p.1) Z
    rw [ih (fun j => g (j + 1)) (fun j p hj => h (j + 1) p (by simpa using hj))]
theorem i_split : ∀ (Z : List (Nat × Nat)) (j : Nat) (p : Nat × Nat), Z[j]? = some p → ∃ A B, Z = A ++ p :: B ∧ A.length = j ∧ Z.eraseIdx j = A ++ B := by
  intro Z
  induction Z with
  | nil => intro j p h; simp at h
  | cons q Z ih =>
    intro j p h
    cases j with
    | zero =>
      have e : q = p := by simpa using h
      exact ⟨[], Z, by rw [e]; rfl, rfl, rfl⟩
    | succ j =>
      obtain ⟨A, B, h1, h2, h3⟩ := ih j p (by simpa using h)
      exact ⟨q :: A, B, by rw [h1]; rfl, by rw [List.length_cons, h2], by rw [List.eraseIdx_cons_succ, h3]; rfl⟩
theorem i_pw {R : Nat × Nat → Nat × Nat → Prop} {Z : List (Nat × Nat)} (h : Z.Pairwise R) {i j : Nat} {p q : Nat × Nat} (hp : Z[i]? = some p) (hq : Z[j]? = some q) (hij : i < j) : R p q := by
  obtain ⟨A, B, h1, h2, -⟩ := i_split Z i p hp
  rw [h1] at h hq
  rw [List.pairwise_append, List.pairwise_cons] at h
  refine h.2.1.1 q ?_
  rw [List.getElem?_append_right (by omega)] at hq
  obtain ⟨t, ht⟩ : ∃ t, j - A.length = t + 1 := ⟨j - A.length - 1, by omega⟩
  rw [ht, List.getElem?_cons_succ] at hq
  exact List.mem_of_getElem? hq
/-! what a packet's choice rests on -/
theorem i_bp {un ad pr un' ad' pr' : Nat → Int} {n : Nat} (h : ∀ k, k < n → un' (ad' k).toNat = un (ad k).toNat ∧ pr' k = pr k) : zbp un' ad' pr' n = zbp un ad pr n := by
  induction n with
  | zero => rfl
  | succ n ih =>
    have e := ih fun k hk => h k (by omega)
    obtain ⟨h1, h2⟩ := h n (by omega)
    show (if un' (ad' n).toNat = 0 then min (zbp un' ad' pr' n) (pr' n) else zbp un' ad' pr' n) = (if un (ad n).toNat = 0 then min (zbp un ad pr n) (pr n) else zbp un ad pr n)
    rw [h1, h2, e]
theorem i_zls {un ad pr f un' ad' pr' f' : Nat → Int} {b : Int} {k : Nat} (h : un' (ad' k).toNat = un (ad k).toNat ∧ pr' k = pr k ∧ f' k = f k) : zls un' ad' pr' f' b k = zls un ad pr f b k := by
  unfold zls zlk
  rw [h.1, h.2.1, h.2.2]
theorem i_ch1 (un ad pr wt pk : Nat → Int) (b S W : Int) (k : Nat) : zch un ad pr wt pk b S W (k + 1) = @ite (Int × Int) (zlk un ad pr b k ∧ ((zch un ad pr wt pk b S W k).1 = -1 ∨ (zch un ad pr wt pk b S W k).2 < zlack wt pk S W k)) (Classical.propDecidable _) ((k : Int), zlack wt pk S W k) (zch un ad pr wt pk b S W k) := rfl
theorem i_ch {un ad pr wt pk un' ad' pr' wt' pk' : Nat → Int} {b S W : Int} {n : Nat} (h : ∀ k, k < n → un' (ad' k).toNat = un (ad k).toNat ∧ pr' k = pr k ∧ wt' k = wt k ∧ pk' k = pk k) : zch un' ad' pr' wt' pk' b S W n = zch un ad pr wt pk b S W n := by
  induction n with
  | zero => rfl
  | succ n ih =>
    have e := ih fun k hk => h k (by omega)
    obtain ⟨h1, h2, h3, h4⟩ := h n (by omega)
    have e1 : zlack wt' pk' S W n = zlack wt pk S W n := by unfold zlack; rw [h3, h4]
    have e2 : zlk un' ad' pr' b n ↔ zlk un ad pr b n := by unfold zlk; rw [h1, h2]
    rw [i_ch1, i_ch1, e, e1]
    by_cases q : zlk un ad pr b n ∧ ((zch un ad pr wt pk b S W n).1 = -1 ∨ (zch un ad pr wt pk b S W n).2 < zlack wt pk S W n)
    · rw [if_pos ⟨e2.mpr q.1, q.2⟩, if_pos q]
    · rw [if_neg (fun z => q ⟨e2.mp z.1, z.2⟩), if_neg q]
