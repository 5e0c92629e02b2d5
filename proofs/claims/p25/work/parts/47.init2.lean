theorem zmi0 {G : zG} {H : Heap} (h : zN G (zWlst G) H) : va_at G.1 vwCl (zad G 0 0, zcel G 0 0 (zM0 0 0)) H := by
  exact zat_i h ((zw7 G (by decide)).trans rfl) rfl
theorem zmi1 {G : zG} {H : Heap} (h : zN G (zWlst G) H) : va_at G.1 vwCl (zad G 1 0, zcel G 1 0 (zM0 1 0)) H := by
  exact zat_i h (zw4 G (q := 0) (by decide)) rfl
theorem zmi2 {G : zG} {H : Heap} (h : zN G (zWlst G) H) : va_at G.1 vwCl (zad G 2 0, zcel G 2 0 (zM0 2 0)) H := by
  refine zat_i h (zw4 G (q := 1) (by decide)) (e := zAq G 4 24 (fun j => 1 + (2 + 6 * j))) ?_
  unfold zAq
  rw [show (fun j => some (zra G (1 + (2 + 6 * j)))) = fun j => some (zad G 3 j) from funext fun j => congrArg some (zra_e (show 1 + (2 + 6 * j) = 3 + 6 * j by omega))]
  rfl
theorem zmi9 {G : zG} {H : Heap} (h : zN G (zWlst G) H) : va_at G.1 vwCl (zad G 9 0, zcel G 9 0 (zM0 9 0)) H := by
  exact zat_i h (zw6 G (q := 0) (by decide)) rfl
theorem zmi10 {G : zG} {H : Heap} (h : zN G (zWlst G) H) : va_at G.1 vwCl (zad G 10 0, zcel G 10 0 (zM0 10 0)) H := by
  exact zat_i h (zw6 G (q := 1) (by decide)) rfl
theorem zmi11 {G : zG} {H : Heap} (h : zN G (zWlst G) H) : va_at G.1 vwCl (zad G 11 0, zcel G 11 0 (zM0 11 0)) H := by
  exact zat_i h (zw6 G (q := 2) (by decide)) rfl
theorem zmi13 {G : zG} {H : Heap} (h : zN G (zWlst G) H) : va_at G.1 vwCl (zad G 13 0, zcel G 13 0 (zM0 13 0)) H := by
  exact zat_i h (zw6 G (q := 4) (by decide)) rfl
theorem zmi12 {G : zG} {H : Heap} (h : zN G (zWlst G) H) : va_at G.1 vwCl (zad G 12 0, zcel G 12 0 (zM0 12 0)) H := by
  refine zat_i h (zw6 G (q := 3) (by decide)) (e := zAq G 5 12 (fun j => 147 + (5 + 1 * j))) ?_
  unfold zAq
  rw [show (fun j => some (zra G (147 + (5 + 1 * j)))) = fun j => some (zad G 14 j) from funext fun j => congrArg some (zra_e (show 147 + (5 + 1 * j) = 152 + j by omega))]
  rfl
theorem zmi14 {G : zG} {H : Heap} (h : zN G (zWlst G) H) (i : Nat) (hi : i < 12) : va_at G.1 vwCl (zad G 14 i, zcel G 14 i (zM0 14 i)) H := by
  exact zat_i h (zw3 G hi) rfl
theorem zmi15 {G : zG} {H : Heap} (h : zN G (zWlst G) H) : va_at G.1 vwCl (zad G 15 0, zcel G 15 0 (zM0 15 0)) H := by
  refine zat_i h (zwrt G) ?_
  unfold zAq
  rw [show (fun j => some (zra G (165 + 59 * j))) = fun j => some (zad G 16 j) from funext fun j => congrArg some (zra_e rfl)]
  rfl
theorem zmi16 {G : zG} {H : Heap} (h : zN G (zWlst G) H) (i : Nat) (hi : i < 3) : va_at G.1 vwCl (zad G 16 i, zcel G 16 i (zM0 16 i)) H := by
  have h1 := zw5 G (q := 0) hi (by decide)
  refine zat_i h (e := .inr (5, [.ref (zra G (165 + 59 * i + 1)), .ref (zra G (165 + 59 * i + 2)), .int 0])) h1 ?_
  rw [zra_e (κ := 17) (i := i) (show 165 + 59 * i + 1 = 166 + 59 * i by omega), zra_e (κ := 18) (i := i) (show 165 + 59 * i + 2 = 167 + 59 * i by omega)]
  rfl
theorem zmi17 {G : zG} {H : Heap} (h : zN G (zWlst G) H) (i : Nat) (hi : i < 3) : va_at G.1 vwCl (zad G 17 i, zcel G 17 i (zM0 17 i)) H := by
  have h1 := zw5 G (q := 1) hi (by decide)
  have h2 : va_at G.1 vwCl ((zB G).size + (165 + 59 * i + 1), zAq G 3 8 (fun j => 165 + 59 * i + (3 + 7 * j))) H := h.2 _ _ h1
  rw [show (zB G).size + (165 + 59 * i + 1) = zad G 17 i by show _ = (zB G).size + (166 + 59 * i); omega] at h2
  have h3 : H[zad G 17 i]? = some (vp_cell (G.2.1 3) (8, .inr (.inr (.inr (.inr (fun j => some (zra G (165 + 59 * i + (3 + 7 * j))))))))) := h2
  show H[zad G 17 i]? = some (vp_cell (G.2.1 3) (8, .inr (.inr (.inr (.inr (fun j => some (zad G 19 (zI ((8 * i + j : Nat) : Int)).toNatClampNeg)))))))
  rw [h3, vp_cell_q, vp_cell_q]
  unfold arrV
  congr 2
  congr 1
  funext j
  have hj : j.val < 8 := j.isLt
  have e9 : (zI ((8 * i + j.val : Nat) : Int)).toNatClampNeg = 8 * i + j.val := zI_nat (by omega)
  show Value.ref _ = Value.ref (zad G 19 (zI ((8 * i + j.val : Nat) : Int)).toNatClampNeg)
  rw [e9]
  exact congrArg Value.ref (zra_e (show _ = 168 + 59 * ((8 * i + j.val) / 8) + 7 * ((8 * i + j.val) % 8) by omega))
theorem zmi18 {G : zG} {H : Heap} (h : zN G (zWlst G) H) (i : Nat) (hi : i < 3) : va_at G.1 vwCl (zad G 18 i, zcel G 18 i (zM0 18 i)) H := by
  have h1 := zw5 G (q := 2) hi (by decide)
  rw [show 165 + 59 * i + 2 = zcd 18 i from by show _ = 167 + 59 * i; omega] at h1
  exact zat_i h h1 rfl
theorem zmi26 {G : zG} {H : Heap} (h : zN G (zWlst G) H) : va_at G.1 vwCl (zad G 26 0, zcel G 26 0 (zM0 26 0)) H := by
  exact zat_i h (zw8 G 0) rfl
theorem zmi27 {G : zG} {H : Heap} (h : zN G (zWlst G) H) : va_at G.1 vwCl (zad G 27 0, zcel G 27 0 (zM0 27 0)) H := by
  exact zat_i h (zw8 G 1) rfl
theorem zmi28 {G : zG} {H : Heap} (h : zN G (zWlst G) H) : va_at G.1 vwCl (zad G 28 0, zcel G 28 0 (zM0 28 0)) H := by
  exact zat_i h (zw8 G 2) rfl
theorem zmi29 {G : zG} {H : Heap} (h : zN G (zWlst G) H) : va_at G.1 vwCl (zad G 29 0, zcel G 29 0 (zM0 29 0)) H := by
  exact zat_i h (zw8 G 3) rfl
theorem zmi30 {G : zG} {H : Heap} (h : zN G (zWlst G) H) : va_at G.1 vwCl (zad G 30 0, zcel G 30 0 (zM0 30 0)) H := by
  exact zat_i h (zw8 G 4) rfl
theorem zmi31 {G : zG} {H : Heap} (h : zN G (zWlst G) H) : va_at G.1 vwCl (zad G 31 0, zcel G 31 0 (zM0 31 0)) H := by
  exact zat_i h (zw8 G 5) rfl
theorem zmi32 {G : zG} {H : Heap} (h : zN G (zWlst G) H) : va_at G.1 vwCl (zad G 32 0, zcel G 32 0 (zM0 32 0)) H := by
  exact zat_i h (zw8 G 6) rfl
theorem zmi33 {G : zG} {H : Heap} (h : zN G (zWlst G) H) : va_at G.1 vwCl (zad G 33 0, zcel G 33 0 (zM0 33 0)) H := by
  exact zat_i h (zw8 G 7) rfl
theorem zmi34 {G : zG} {H : Heap} (h : zN G (zWlst G) H) : va_at G.1 vwCl (zad G 34 0, zcel G 34 0 (zM0 34 0)) H := by
  exact zat_i h (zw8 G 8) rfl
theorem zmi35 {G : zG} {H : Heap} (h : zN G (zWlst G) H) : va_at G.1 vwCl (zad G 35 0, zcel G 35 0 (zM0 35 0)) H := by
  exact zat_i h (zw8 G 9) rfl
theorem zmi36 {G : zG} {H : Heap} (h : zN G (zWlst G) H) : va_at G.1 vwCl (zad G 36 0, zcel G 36 0 (zM0 36 0)) H := by
  exact zat_i h (zw8 G 10) rfl
theorem zM_init {G : zG} {H : Heap} (h : zN G (zWlst G) H) : zM G zM0 H := by
  intro κ i hi
  match κ, hi with
  | 0, hi => have z : i = 0 := Nat.lt_one_iff.mp hi; subst z; exact zmi0 h
  | 1, hi => have z : i = 0 := Nat.lt_one_iff.mp hi; subst z; exact zmi1 h
  | 2, hi => have z : i = 0 := Nat.lt_one_iff.mp hi; subst z; exact zmi2 h
  | 3, hi => exact zmi3 h i hi
  | 4, hi => exact zmi4 h i hi
  | 5, hi => exact zmi5 h i hi
  | 6, hi => exact zmi6 h i hi
  | 7, hi => exact zmi7 h i hi
  | 8, hi => exact zmi8 h i hi
  | 9, hi => have z : i = 0 := Nat.lt_one_iff.mp hi; subst z; exact zmi9 h
  | 10, hi => have z : i = 0 := Nat.lt_one_iff.mp hi; subst z; exact zmi10 h
  | 11, hi => have z : i = 0 := Nat.lt_one_iff.mp hi; subst z; exact zmi11 h
  | 12, hi => have z : i = 0 := Nat.lt_one_iff.mp hi; subst z; exact zmi12 h
  | 13, hi => have z : i = 0 := Nat.lt_one_iff.mp hi; subst z; exact zmi13 h
  | 14, hi => exact zmi14 h i hi
  | 15, hi => have z : i = 0 := Nat.lt_one_iff.mp hi; subst z; exact zmi15 h
  | 16, hi => exact zmi16 h i hi
  | 17, hi => exact zmi17 h i hi
  | 18, hi => exact zmi18 h i hi
  | 19, hi => exact zmi19 h i hi
  | 20, hi => exact zmi20 h i hi
  | 21, hi => exact zmi21 h i hi
  | 22, hi => exact zmi22 h i hi
  | 23, hi => exact zmi23 h i hi
  | 24, hi => exact zmi24 h i hi
  | 25, hi => exact zmi25 h i hi
  | 26, hi => have z : i = 0 := Nat.lt_one_iff.mp hi; subst z; exact zmi26 h
  | 27, hi => have z : i = 0 := Nat.lt_one_iff.mp hi; subst z; exact zmi27 h
  | 28, hi => have z : i = 0 := Nat.lt_one_iff.mp hi; subst z; exact zmi28 h
  | 29, hi => have z : i = 0 := Nat.lt_one_iff.mp hi; subst z; exact zmi29 h
  | 30, hi => have z : i = 0 := Nat.lt_one_iff.mp hi; subst z; exact zmi30 h
  | 31, hi => have z : i = 0 := Nat.lt_one_iff.mp hi; subst z; exact zmi31 h
  | 32, hi => have z : i = 0 := Nat.lt_one_iff.mp hi; subst z; exact zmi32 h
  | 33, hi => have z : i = 0 := Nat.lt_one_iff.mp hi; subst z; exact zmi33 h
  | 34, hi => have z : i = 0 := Nat.lt_one_iff.mp hi; subst z; exact zmi34 h
  | 35, hi => have z : i = 0 := Nat.lt_one_iff.mp hi; subst z; exact zmi35 h
  | 36, hi => have z : i = 0 := Nat.lt_one_iff.mp hi; subst z; exact zmi36 h
  | 37, hi => exact absurd hi (Nat.not_lt_zero _)
  | 38, hi => exact absurd hi (Nat.not_lt_zero _)
  | 39, hi => exact absurd hi (Nat.not_lt_zero _)
  | 40, hi => exact absurd hi (Nat.not_lt_zero _)
  | 41, hi => exact absurd hi (Nat.not_lt_zero _)
  | 42, hi => exact absurd hi (Nat.not_lt_zero _)
  | 43, hi => exact absurd hi (Nat.not_lt_zero _)
  | 44, hi => exact absurd hi (Nat.not_lt_zero _)
  | 45, hi => exact absurd hi (Nat.not_lt_zero _)
  | 46, hi => exact absurd hi (Nat.not_lt_zero _)
  | 47, hi => exact absurd hi (Nat.not_lt_zero _)
  | 48, hi => exact absurd hi (Nat.not_lt_zero _)
  | 49, hi => exact absurd hi (Nat.not_lt_zero _)
  | 50, hi => exact absurd hi (Nat.not_lt_zero _)
  | 51, hi => exact absurd hi (Nat.not_lt_zero _)
  | 52, hi => exact absurd hi (Nat.not_lt_zero _)
  | 53, hi => exact absurd hi (Nat.not_lt_zero _)
  | 54, hi => exact absurd hi (Nat.not_lt_zero _)
  | 55, hi => exact absurd hi (Nat.not_lt_zero _)
  | 56, hi => exact absurd hi (Nat.not_lt_zero _)
  | 57, hi => exact absurd hi (Nat.not_lt_zero _)
  | 58, hi => exact absurd hi (Nat.not_lt_zero _)
  | 59, hi => exact absurd hi (Nat.not_lt_zero _)
  | 60, hi => exact absurd hi (Nat.not_lt_zero _)
  | 61, hi => exact absurd hi (Nat.not_lt_zero _)
  | 62, hi => exact absurd hi (Nat.not_lt_zero _)
  | 63, hi => exact absurd hi (Nat.not_lt_zero _)
  | κ + 64, hi => exact absurd hi (Nat.not_lt_zero _)
