theorem zmi0 {G : zG} {H : Heap} (h : zN G (zWlst G) H) : va_at G.1 vwCl (zad G 0 0, zcel G 0 0 (zM0 0 0)) H := by
  exact zat_i h ((zw7 G (by decide)).trans rfl) rfl
theorem zmi1 {G : zG} {H : Heap} (h : zN G (zWlst G) H) : va_at G.1 vwCl (zad G 1 0, zcel G 1 0 (zM0 1 0)) H := by
  exact zat_i h (zw4 G (q := 0) (by decide)) rfl
theorem zmi2 {G : zG} {H : Heap} (h : zN G (zWlst G) H) : va_at G.1 vwCl (zad G 2 0, zcel G 2 0 (zM0 2 0)) H := by
  refine zat_i h (zw4 G (q := 1) (by decide)) (e := zAq G 4 24 (fun j => 1 + (2 + 6 * j))) ?_
  unfold zAq
  rw [show (fun j => some (zra G (1 + (2 + 6 * j)))) = fun j => some (zad G 3 j) from funext fun j => congrArg some (zra_e (show 1 + (2 + 6 * j) = 3 + 6 * j by omega))]
  rfl
theorem zmi9 {G : zG} {H : Heap} (h : zN G (zWlst G) H) : va_at G.1 vwCl (zad G 9 0, zcel G 9 0 (zM0 9 0)) H := by
  exact zat_i h (zw6 G (q := 0) (by decide)) rfl
theorem zmi10 {G : zG} {H : Heap} (h : zN G (zWlst G) H) : va_at G.1 vwCl (zad G 10 0, zcel G 10 0 (zM0 10 0)) H := by
  exact zat_i h (zw6 G (q := 1) (by decide)) rfl
theorem zmi11 {G : zG} {H : Heap} (h : zN G (zWlst G) H) : va_at G.1 vwCl (zad G 11 0, zcel G 11 0 (zM0 11 0)) H := by
  exact zat_i h (zw6 G (q := 2) (by decide)) rfl
theorem zmi13 {G : zG} {H : Heap} (h : zN G (zWlst G) H) : va_at G.1 vwCl (zad G 13 0, zcel G 13 0 (zM0 13 0)) H := by
  exact zat_i h (zw6 G (q := 4) (by decide)) rfl
theorem zmi12 {G : zG} {H : Heap} (h : zN G (zWlst G) H) : va_at G.1 vwCl (zad G 12 0, zcel G 12 0 (zM0 12 0)) H := by
  refine zat_i h (zw6 G (q := 3) (by decide)) (e := zAq G 5 12 (fun j => 147 + (5 + 1 * j))) ?_
  unfold zAq
  rw [show (fun j => some (zra G (147 + (5 + 1 * j)))) = fun j => some (zad G 14 j) from funext fun j => congrArg some (zra_e (show 147 + (5 + 1 * j) = 152 + j by omega))]
  rfl
theorem zmi14 {G : zG} {H : Heap} (h : zN G (zWlst G) H) (i : Nat) (hi : i < 12) : va_at G.1 vwCl (zad G 14 i, zcel G 14 i (zM0 14 i)) H := by
  exact zat_i h (zw3 G hi) rfl
theorem zmi15 {G : zG} {H : Heap} (h : zN G (zWlst G) H) : va_at G.1 vwCl (zad G 15 0, zcel G 15 0 (zM0 15 0)) H := by
  refine zat_i h (zwrt G) ?_
  unfold zAq
  rw [show (fun j => some (zra G (165 + 59 * j))) = fun j => some (zad G 16 j) from funext fun j => congrArg some (zra_e rfl)]
  rfl
theorem zmi16 {G : zG} {H : Heap} (h : zN G (zWlst G) H) (i : Nat) (hi : i < 3) : va_at G.1 vwCl (zad G 16 i, zcel G 16 i (zM0 16 i)) H := by
  have h1 := zw5 G (q := 0) hi (by decide)
  refine zat_i h (e := .inr (5, [.ref (zra G (165 + 59 * i + 1)), .ref (zra G (165 + 59 * i + 2)), .int 0])) h1 ?_
  rw [zra_e (κ := 17) (i := i) (show 165 + 59 * i + 1 = 166 + 59 * i by omega), zra_e (κ := 18) (i := i) (show 165 + 59 * i + 2 = 167 + 59 * i by omega)]
  rfl
theorem zmi17 {G : zG} {H : Heap} (h : zN G (zWlst G) H) (i : Nat) (hi : i < 3) : va_at G.1 vwCl (zad G 17 i, zcel G 17 i (zM0 17 i)) H := by
  have h1 := zw5 G (q := 1) hi (by decide)
  have h2 : va_at G.1 vwCl ((zB G).size + (165 + 59 * i + 1), zAq G 3 8 (fun j => 165 + 59 * i + (3 + 7 * j))) H := h.2 _ _ h1
  rw [show (zB G).size + (165 + 59 * i + 1) = zad G 17 i by show _ = (zB G).size + (166 + 59 * i); omega] at h2
  have h3 : H[zad G 17 i]? = some (vp_cell (G.2.1 3) (8, .inr (.inr (.inr (.inr (fun j => some (zra G (165 + 59 * i + (3 + 7 * j))))))))) := h2
  show H[zad G 17 i]? = some (vp_cell (G.2.1 3) (8, .inr (.inr (.inr (.inr (fun j => some (zad G 19 (zI ((8 * i + j : Nat) : Int)).toNatClampNeg)))))))
  rw [h3, vp_cell_q, vp_cell_q]
  unfold arrV
  congr 2
  congr 1
  funext j
  have hj : j.val < 8 := j.isLt
  have e9 : (zI ((8 * i + j.val : Nat) : Int)).toNatClampNeg = 8 * i + j.val := zI_nat (by omega)
  show Value.ref _ = Value.ref (zad G 19 (zI ((8 * i + j.val : Nat) : Int)).toNatClampNeg)
  rw [e9]
  exact congrArg Value.ref (zra_e (show _ = 168 + 59 * ((8 * i + j.val) / 8) + 7 * ((8 * i + j.val) % 8) by omega))
theorem zmi18 {G : zG} {H : Heap} (h : zN G (zWlst G) H) (i : Nat) (hi : i < 3) : va_at G.1 vwCl (zad G 18 i, zcel G 18 i (zM0 18 i)) H := by
  have h1 := zw5 G (q := 2) hi (by decide)
  rw [show 165 + 59 * i + 2 = zcd 18 i from by show _ = 167 + 59 * i; omega] at h1
  exact zat_i h h1 rfl
theorem zmi26 {G : zG} {H : Heap} (h : zN G (zWlst G) H) : va_at G.1 vwCl (zad G 26 0, zcel G 26 0 (zM0 26 0)) H := by
  exact zat_i h (zw8 G (q := 0) (by decide)) rfl
theorem zmi27 {G : zG} {H : Heap} (h : zN G (zWlst G) H) : va_at G.1 vwCl (zad G 27 0, zcel G 27 0 (zM0 27 0)) H := by
  exact zat_i h (zw9 G) rfl
theorem zmi35 {G : zG} {H : Heap} (h : zN G (zWlst G) H) : va_at G.1 vwCl (zad G 35 0, zcel G 35 0 (zM0 35 0)) H := by
  exact zat_i h (zw8 G (q := 1) (by decide)) rfl
theorem zmi36 {G : zG} {H : Heap} (h : zN G (zWlst G) H) : va_at G.1 vwCl (zad G 36 0, zcel G 36 0 (zM0 36 0)) H := by
  exact zat_i h (zw8 G (q := 2) (by decide)) rfl
theorem zmi37 {G : zG} {H : Heap} (h : zN G (zWlst G) H) : va_at G.1 vwCl (zad G 37 0, zcel G 37 0 (zM0 37 0)) H := by
  exact zat_i h (zw8 G (q := 3) (by decide)) rfl
theorem zmi38 {G : zG} {H : Heap} (h : zN G (zWlst G) H) : va_at G.1 vwCl (zad G 38 0, zcel G 38 0 (zM0 38 0)) H := by
  exact zat_i h (zw8 G (q := 4) (by decide)) rfl
theorem zmi39 {G : zG} {H : Heap} (h : zN G (zWlst G) H) : va_at G.1 vwCl (zad G 39 0, zcel G 39 0 (zM0 39 0)) H := by
  exact zat_i h (zw8 G (q := 5) (by decide)) rfl
theorem zmi40 {G : zG} {H : Heap} (h : zN G (zWlst G) H) : va_at G.1 vwCl (zad G 40 0, zcel G 40 0 (zM0 40 0)) H := by
  exact zat_i h (zw8 G (q := 6) (by decide)) rfl
theorem zmi41 {G : zG} {H : Heap} (h : zN G (zWlst G) H) : va_at G.1 vwCl (zad G 41 0, zcel G 41 0 (zM0 41 0)) H := by
  exact zat_i h (zw8 G (q := 7) (by decide)) rfl
theorem zmi42 {G : zG} {H : Heap} (h : zN G (zWlst G) H) : va_at G.1 vwCl (zad G 42 0, zcel G 42 0 (zM0 42 0)) H := by
  exact zat_i h (zw8 G (q := 8) (by decide)) rfl
theorem zmi44 {G : zG} {H : Heap} (h : zN G (zWlst G) H) : va_at G.1 vwCl (zad G 44 0, zcel G 44 0 (zM0 44 0)) H := by
  exact zat_i h (zw8 G (q := 9) (by decide)) rfl
theorem zmi45 {G : zG} {H : Heap} (h : zN G (zWlst G) H) : va_at G.1 vwCl (zad G 45 0, zcel G 45 0 (zM0 45 0)) H := by
  exact zat_i h (zw8 G (q := 10) (by decide)) rfl
theorem zmi46 {G : zG} {H : Heap} (h : zN G (zWlst G) H) : va_at G.1 vwCl (zad G 46 0, zcel G 46 0 (zM0 46 0)) H := by
  exact zat_i h (zw8 G (q := 11) (by decide)) rfl
theorem zmi47 {G : zG} {H : Heap} (h : zN G (zWlst G) H) : va_at G.1 vwCl (zad G 47 0, zcel G 47 0 (zM0 47 0)) H := by
  exact zat_i h (zw8 G (q := 12) (by decide)) rfl
theorem zmi48 {G : zG} {H : Heap} (h : zN G (zWlst G) H) : va_at G.1 vwCl (zad G 48 0, zcel G 48 0 (zM0 48 0)) H := by
  exact zat_i h (zw8 G (q := 13) (by decide)) rfl
theorem zmi49 {G : zG} {H : Heap} (h : zN G (zWlst G) H) : va_at G.1 vwCl (zad G 49 0, zcel G 49 0 (zM0 49 0)) H := by
  exact zat_i h (zw8 G (q := 14) (by decide)) rfl
theorem zmi50 {G : zG} {H : Heap} (h : zN G (zWlst G) H) : va_at G.1 vwCl (zad G 50 0, zcel G 50 0 (zM0 50 0)) H := by
  exact zat_i h (zw8 G (q := 15) (by decide)) rfl
theorem zmi52 {G : zG} {H : Heap} (h : zN G (zWlst G) H) : va_at G.1 vwCl (zad G 52 0, zcel G 52 0 (zM0 52 0)) H := by
  exact zat_i h (zw8 G (q := 16) (by decide)) rfl
theorem zmi53 {G : zG} {H : Heap} (h : zN G (zWlst G) H) : va_at G.1 vwCl (zad G 53 0, zcel G 53 0 (zM0 53 0)) H := by
  exact zat_i h (zw8 G (q := 17) (by decide)) rfl
theorem zmi54 {G : zG} {H : Heap} (h : zN G (zWlst G) H) : va_at G.1 vwCl (zad G 54 0, zcel G 54 0 (zM0 54 0)) H := by
  exact zat_i h (zw8 G (q := 18) (by decide)) rfl
theorem zmi55 {G : zG} {H : Heap} (h : zN G (zWlst G) H) : va_at G.1 vwCl (zad G 55 0, zcel G 55 0 (zM0 55 0)) H := by
  exact zat_i h (zw8 G (q := 19) (by decide)) rfl
theorem zmi56 {G : zG} {H : Heap} (h : zN G (zWlst G) H) : va_at G.1 vwCl (zad G 56 0, zcel G 56 0 (zM0 56 0)) H := by
  exact zat_i h (zw8 G (q := 20) (by decide)) rfl
theorem zmi57 {G : zG} {H : Heap} (h : zN G (zWlst G) H) : va_at G.1 vwCl (zad G 57 0, zcel G 57 0 (zM0 57 0)) H := by
  exact zat_i h (zw8 G (q := 21) (by decide)) rfl
theorem zmi58 {G : zG} {H : Heap} (h : zN G (zWlst G) H) : va_at G.1 vwCl (zad G 58 0, zcel G 58 0 (zM0 58 0)) H := by
  exact zat_i h (zw8 G (q := 22) (by decide)) rfl
theorem zmi59 {G : zG} {H : Heap} (h : zN G (zWlst G) H) : va_at G.1 vwCl (zad G 59 0, zcel G 59 0 (zM0 59 0)) H := by
  exact zat_i h (zw8 G (q := 23) (by decide)) rfl
theorem zmi60 {G : zG} {H : Heap} (h : zN G (zWlst G) H) : va_at G.1 vwCl (zad G 60 0, zcel G 60 0 (zM0 60 0)) H := by
  exact zat_i h (zw8 G (q := 24) (by decide)) rfl
theorem zmi61 {G : zG} {H : Heap} (h : zN G (zWlst G) H) : va_at G.1 vwCl (zad G 61 0, zcel G 61 0 (zM0 61 0)) H := by
  exact zat_i h (zw8 G (q := 25) (by decide)) rfl
theorem zmi62 {G : zG} {H : Heap} (h : zN G (zWlst G) H) : va_at G.1 vwCl (zad G 62 0, zcel G 62 0 (zM0 62 0)) H := by
  exact zat_i h (zw8 G (q := 26) (by decide)) rfl
theorem zmi63 {G : zG} {H : Heap} (h : zN G (zWlst G) H) : va_at G.1 vwCl (zad G 63 0, zcel G 63 0 (zM0 63 0)) H := by
  exact zat_i h (zw8 G (q := 27) (by decide)) rfl
theorem zM_init {G : zG} {H : Heap} (h : zN G (zWlst G) H) : zM G zM0 H := by
  intro κ i hi
  match κ, hi with
  | 0, hi => have z : i = 0 := Nat.lt_one_iff.mp hi; subst z; exact zmi0 h
  | 1, hi => have z : i = 0 := Nat.lt_one_iff.mp hi; subst z; exact zmi1 h
  | 2, hi => have z : i = 0 := Nat.lt_one_iff.mp hi; subst z; exact zmi2 h
  | 3, hi => exact zmi3 h i hi
  | 4, hi => exact zmi4 h i hi
  | 5, hi => exact zmi5 h i hi
  | 6, hi => exact zmi6 h i hi
  | 7, hi => exact zmi7 h i hi
  | 8, hi => exact zmi8 h i hi
  | 9, hi => have z : i = 0 := Nat.lt_one_iff.mp hi; subst z; exact zmi9 h
  | 10, hi => have z : i = 0 := Nat.lt_one_iff.mp hi; subst z; exact zmi10 h
  | 11, hi => have z : i = 0 := Nat.lt_one_iff.mp hi; subst z; exact zmi11 h
  | 12, hi => have z : i = 0 := Nat.lt_one_iff.mp hi; subst z; exact zmi12 h
  | 13, hi => have z : i = 0 := Nat.lt_one_iff.mp hi; subst z; exact zmi13 h
  | 14, hi => exact zmi14 h i hi
  | 15, hi => have z : i = 0 := Nat.lt_one_iff.mp hi; subst z; exact zmi15 h
  | 16, hi => exact zmi16 h i hi
  | 17, hi => exact zmi17 h i hi
  | 18, hi => exact zmi18 h i hi
  | 19, hi => exact zmi19 h i hi
  | 20, hi => exact zmi20 h i hi
  | 21, hi => exact zmi21 h i hi
  | 22, hi => exact zmi22 h i hi
  | 23, hi => exact zmi23 h i hi
  | 24, hi => exact zmi24 h i hi
  | 25, hi => exact zmi25 h i hi
  | 26, hi => have z : i = 0 := Nat.lt_one_iff.mp hi; subst z; exact zmi26 h
  | 27, hi => have z : i = 0 := Nat.lt_one_iff.mp hi; subst z; exact zmi27 h
  | 28, hi => exact absurd hi (Nat.not_lt_zero _)
  | 29, hi => exact absurd hi (Nat.not_lt_zero _)
  | 30, hi => exact absurd hi (Nat.not_lt_zero _)
  | 31, hi => exact absurd hi (Nat.not_lt_zero _)
  | 32, hi => exact absurd hi (Nat.not_lt_zero _)
  | 33, hi => exact absurd hi (Nat.not_lt_zero _)
  | 34, hi => exact absurd hi (Nat.not_lt_zero _)
  | 35, hi => have z : i = 0 := Nat.lt_one_iff.mp hi; subst z; exact zmi35 h
  | 36, hi => have z : i = 0 := Nat.lt_one_iff.mp hi; subst z; exact zmi36 h
  | 37, hi => have z : i = 0 := Nat.lt_one_iff.mp hi; subst z; exact zmi37 h
  | 38, hi => have z : i = 0 := Nat.lt_one_iff.mp hi; subst z; exact zmi38 h
  | 39, hi => have z : i = 0 := Nat.lt_one_iff.mp hi; subst z; exact zmi39 h
  | 40, hi => have z : i = 0 := Nat.lt_one_iff.mp hi; subst z; exact zmi40 h
  | 41, hi => have z : i = 0 := Nat.lt_one_iff.mp hi; subst z; exact zmi41 h
  | 42, hi => have z : i = 0 := Nat.lt_one_iff.mp hi; subst z; exact zmi42 h
  | 43, hi => exact absurd hi (Nat.not_lt_zero _)
  | 44, hi => have z : i = 0 := Nat.lt_one_iff.mp hi; subst z; exact zmi44 h
  | 45, hi => have z : i = 0 := Nat.lt_one_iff.mp hi; subst z; exact zmi45 h
  | 46, hi => have z : i = 0 := Nat.lt_one_iff.mp hi; subst z; exact zmi46 h
  | 47, hi => have z : i = 0 := Nat.lt_one_iff.mp hi; subst z; exact zmi47 h
  | 48, hi => have z : i = 0 := Nat.lt_one_iff.mp hi; subst z; exact zmi48 h
  | 49, hi => have z : i = 0 := Nat.lt_one_iff.mp hi; subst z; exact zmi49 h
  | 50, hi => have z : i = 0 := Nat.lt_one_iff.mp hi; subst z; exact zmi50 h
  | 51, hi => exact absurd hi (Nat.not_lt_zero _)
  | 52, hi => have z : i = 0 := Nat.lt_one_iff.mp hi; subst z; exact zmi52 h
  | 53, hi => have z : i = 0 := Nat.lt_one_iff.mp hi; subst z; exact zmi53 h
  | 54, hi => have z : i = 0 := Nat.lt_one_iff.mp hi; subst z; exact zmi54 h
  | 55, hi => have z : i = 0 := Nat.lt_one_iff.mp hi; subst z; exact zmi55 h
  | 56, hi => have z : i = 0 := Nat.lt_one_iff.mp hi; subst z; exact zmi56 h
  | 57, hi => have z : i = 0 := Nat.lt_one_iff.mp hi; subst z; exact zmi57 h
  | 58, hi => have z : i = 0 := Nat.lt_one_iff.mp hi; subst z; exact zmi58 h
  | 59, hi => have z : i = 0 := Nat.lt_one_iff.mp hi; subst z; exact zmi59 h
  | 60, hi => have z : i = 0 := Nat.lt_one_iff.mp hi; subst z; exact zmi60 h
  | 61, hi => have z : i = 0 := Nat.lt_one_iff.mp hi; subst z; exact zmi61 h
  | 62, hi => have z : i = 0 := Nat.lt_one_iff.mp hi; subst z; exact zmi62 h
  | 63, hi => have z : i = 0 := Nat.lt_one_iff.mp hi; subst z; exact zmi63 h
  | κ + 64, hi => exact absurd hi (Nat.not_lt_zero _)
