/-! the world as it is made is the memory at the start -/
def zM0 : zMem := fun κ i j => match κ with
  | 0 => if j = 4 then zI 100 else if j = 5 then zI 20 else 0
  | 3 => if j = 2 then 1 else 0
  | 17 => zI ((8 * i + j : Nat) : Int)
  | 19 => if j = 3 then -1 else 0
  | _ => 0
def zLaw (G : zG) : List va_E := [zAi G 16, zAi G 16, zAi G 64, zAi G 12, zAi G 16, zAi G 16, zAi G 16, zAi G 16, zAi G 64, zAi G 2, zAi G 12]
def zWlst (G : zG) : List va_E := zL7 G 0 ++ zLaw G
theorem zL7_len (G : zG) (k : Nat) : (zL7 G k).length = 342 := by rw [zL7, List.length_append, List.length_append, zL7h_len, zfl_len (n := 59) (fun i => zL5_len ..)]; rfl
theorem zL2_len (G : zG) (k : Nat) : (zL2 G k).length = 6 := rfl
theorem zL0_len (G : zG) (k : Nat) : (zL0 G k).length = 7 := rfl
theorem zw8 (G : zG) (q : Nat) : (zWlst G)[342 + q]? = (zLaw G)[q]? := by
  rw [zWlst, List.getElem?_append_right (by rw [zL7_len]; omega), zL7_len, Nat.add_sub_cancel_left]
theorem zw7 (G : zG) {q : Nat} (h : q < 342) : (zWlst G)[q]? = (zL7 G 0)[q]? := by
  rw [zWlst, List.getElem?_append_left (by rw [zL7_len]; exact h)]
theorem zw5 (G : zG) {i q : Nat} (hi : i < 3) (h : q < 59) : (zWlst G)[165 + 59 * i + q]? = (zL5 G (165 + 59 * i))[q]? := by
  rw [zw7 G (by omega), zL7, List.getElem?_append_right (by rw [List.length_append, zL7h_len]; show 165 ≤ _; omega), List.length_append, zL7h_len, show 165 + 59 * i + q - (164 + [zAq G 6 3 (fun j => 0 + (165 + 59 * j))].length) = 59 * i + q from by show _ - 165 = _; omega, zfl_get (fun i => zL5_len ..) 3 i q hi h, Nat.zero_add]
theorem zwrt (G : zG) : (zWlst G)[164]? = some (zAq G 6 3 (fun j => 165 + 59 * j)) := by
  rw [zw7 G (by omega), zL7, zgetA (zL7h_len ..)]
  congr 1
  unfold zAq
  simp only [Nat.zero_add]
theorem zw6 (G : zG) {q : Nat} (h : q < 17) : (zWlst G)[147 + q]? = (zL6 G 147)[q]? := by
  rw [zw7 G (by omega), zL7, List.getElem?_append_left (by rw [List.length_append, zL7h_len]; show _ < 165; omega), List.getElem?_append_left (by rw [zL7h_len]; omega), zL7h, List.getElem?_append_right (by rw [List.length_append, zL4_len]; show 147 ≤ _; omega), List.length_append, zL4_len, Nat.zero_add, show 147 + q - ([zL7s G 0].length + 146) = q from by show _ - 147 = _; omega]
theorem zw4 (G : zG) {q : Nat} (h : q < 146) : (zWlst G)[1 + q]? = (zL4 G 1)[q]? := by
  rw [zw7 G (by omega), zL7, List.getElem?_append_left (by rw [List.length_append, zL7h_len]; show _ < 165; omega), List.getElem?_append_left (by rw [zL7h_len]; omega), zL7h, List.getElem?_append_left (by rw [List.length_append, zL4_len]; show _ < 147; omega), List.getElem?_append_right (by show 1 ≤ _; omega), Nat.zero_add, show 1 + q - [zL7s G 0].length = q from by show _ - 1 = _; omega]
theorem zw2 (G : zG) {i r : Nat} (hi : i < 24) (h : r < 6) : (zWlst G)[3 + 6 * i + r]? = (zL2 G (3 + 6 * i))[r]? := by
  rw [show 3 + 6 * i + r = 1 + (2 + (6 * i + r)) by omega, zw4 G (by omega), zL4, List.getElem?_append_right (by show 2 ≤ _; omega), show 2 + (6 * i + r) - [(.inr (4, [.ref (zra G (1 + 1)), .int 0]) : va_E), zAq G 4 24 (fun j => 1 + (2 + 6 * j))].length = 6 * i + r from by show _ - 2 = _; omega, zfl_get (fun i => zL2_len ..) 24 i r hi h, show 1 + (2 + 6 * i) = 3 + 6 * i by omega]
theorem zw3 (G : zG) {i : Nat} (hi : i < 12) : (zWlst G)[152 + i]? = some (.inr (3, [.int 0, .int 0])) := by
  rw [show 152 + i = 147 + (5 + i) by omega, zw6 G (by omega), zL6, List.getElem?_append_right (by show 5 ≤ _; omega)]
  have h1 := zfl_get (f := fun _ => zL3) (n := 1) (fun _ => rfl) 12 i 0 hi (by omega)
  rw [show 1 * i + 0 = i by omega] at h1
  refine Eq.trans ?_ h1
  congr 1
  show 5 + i - 5 = i
  omega
theorem zw0 (G : zG) {e r : Nat} (he : e < 24) (h : r < 7) : (zWlst G)[168 + 59 * (e / 8) + 7 * (e % 8) + r]? = (zL0 G (168 + 59 * (e / 8) + 7 * (e % 8)))[r]? := by
  have h8 : e % 8 < 8 := Nat.mod_lt _ (by decide)
  have h3 : e / 8 < 3 := by omega
  generalize e / 8 = a at *
  generalize e % 8 = b at *
  rw [show 168 + 59 * a + 7 * b + r = 165 + 59 * a + (3 + (7 * b + r)) by omega, zw5 G h3 (by omega), zL5, List.getElem?_append_right (by show 3 ≤ _; omega), show ∀ x y z : va_E, 3 + (7 * b + r) - [x, y, z].length = 7 * b + r from fun x y z => by show _ - 3 = _; omega, zfl_get (fun i => zL0_len ..) 8 b r h8 h, show 165 + 59 * a + (3 + 7 * b) = 168 + 59 * a + 7 * b by omega]
theorem zra_e {G : zG} {n κ i : Nat} (h : n = zcd κ i) : zra G n = zad G κ i := by subst h; rfl
theorem zat_i {G : zG} {H : Heap} (h : zN G (zWlst G) H) {κ i : Nat} {e : va_E} (he : (zWlst G)[zcd κ i]? = some e) (hc : e = zcel G κ i (zM0 κ i)) : va_at G.1 vwCl (zad G κ i, zcel G κ i (zM0 κ i)) H := by
  subst hc
  exact h.2 _ _ he
theorem zmi3 {G : zG} {H : Heap} (h : zN G (zWlst G) H) (i : Nat) (hi : i < 24) : va_at G.1 vwCl (zad G 3 i, zcel G 3 i (zM0 3 i)) H := by
  have h1 := zw2 G (r := 0) hi (by decide)
  refine zat_i h (e := .inr (2, [.ref (zra G (3 + 6 * i + 1)), .ref (zra G (3 + 6 * i + 2)), .int 1, .int 0])) h1 ?_
  rw [zra_e (κ := 4) (i := i) (show 3 + 6 * i + 1 = _ from by show _ = 4 + 6 * i; omega), zra_e (κ := 5) (i := i) (show 3 + 6 * i + 2 = _ from by show _ = 5 + 6 * i; omega)]
  rfl
theorem zmi4 {G : zG} {H : Heap} (h : zN G (zWlst G) H) (i : Nat) (hi : i < 24) : va_at G.1 vwCl (zad G 4 i, zcel G 4 i (zM0 4 i)) H := by
  have h1 := zw2 G (r := 1) hi (by decide)
  rw [show 3 + 6 * i + 1 = zcd 4 i from by show _ = 4 + 6 * i; omega] at h1
  exact zat_i h h1 rfl
theorem zmi5 {G : zG} {H : Heap} (h : zN G (zWlst G) H) (i : Nat) (hi : i < 24) : va_at G.1 vwCl (zad G 5 i, zcel G 5 i (zM0 5 i)) H := by
  have h1 := zw2 G (r := 2) hi (by decide)
  rw [show 3 + 6 * i + 2 = zcd 5 i from by show _ = 5 + 6 * i; omega] at h1
  refine zat_i h (e := .inr (1, [.ref (zra G (3 + 6 * i + 2 + 1)), .ref (zra G (3 + 6 * i + 2 + 2)), .ref (zra G (3 + 6 * i + 2 + 3)), .int 0])) h1 ?_
  rw [zra_e (κ := 6) (i := i) (show 3 + 6 * i + 2 + 1 = _ from by show _ = 6 + 6 * i; omega), zra_e (κ := 7) (i := i) (show 3 + 6 * i + 2 + 2 = _ from by show _ = 7 + 6 * i; omega), zra_e (κ := 8) (i := i) (show 3 + 6 * i + 2 + 3 = _ from by show _ = 8 + 6 * i; omega)]
  rfl
theorem zmi6 {G : zG} {H : Heap} (h : zN G (zWlst G) H) (i : Nat) (hi : i < 24) : va_at G.1 vwCl (zad G 6 i, zcel G 6 i (zM0 6 i)) H := by
  have h1 := zw2 G (r := 3) hi (by decide)
  rw [show 3 + 6 * i + 3 = zcd 6 i from by show _ = 6 + 6 * i; omega] at h1
  exact zat_i h h1 rfl
theorem zmi7 {G : zG} {H : Heap} (h : zN G (zWlst G) H) (i : Nat) (hi : i < 24) : va_at G.1 vwCl (zad G 7 i, zcel G 7 i (zM0 7 i)) H := by
  have h1 := zw2 G (r := 4) hi (by decide)
  rw [show 3 + 6 * i + 4 = zcd 7 i from by show _ = 7 + 6 * i; omega] at h1
  exact zat_i h h1 rfl
theorem zmi8 {G : zG} {H : Heap} (h : zN G (zWlst G) H) (i : Nat) (hi : i < 24) : va_at G.1 vwCl (zad G 8 i, zcel G 8 i (zM0 8 i)) H := by
  have h1 := zw2 G (r := 5) hi (by decide)
  rw [show 3 + 6 * i + 5 = zcd 8 i from by show _ = 8 + 6 * i; omega] at h1
  exact zat_i h h1 rfl
theorem zmi19 {G : zG} {H : Heap} (h : zN G (zWlst G) H) (i : Nat) (hi : i < 24) : va_at G.1 vwCl (zad G 19 i, zcel G 19 i (zM0 19 i)) H := by
  have h1 := zw0 G (r := 0) hi (by decide)
  refine zat_i h (e := .inr (0, [.ref (zra G (168 + 59 * (i / 8) + 7 * (i % 8) + 1)), .ref (zra G (168 + 59 * (i / 8) + 7 * (i % 8) + 2)), .ref (zra G (168 + 59 * (i / 8) + 7 * (i % 8) + 6)), .int (-1), .int 0, .int 0, .int 0])) h1 ?_
  rw [zra_e (κ := 20) (i := i) (show 168 + 59 * (i / 8) + 7 * (i % 8) + 1 = _ from by show _ = 169 + 59 * (i / 8) + 7 * (i % 8); omega), zra_e (κ := 21) (i := i) (show 168 + 59 * (i / 8) + 7 * (i % 8) + 2 = _ from by show _ = 170 + 59 * (i / 8) + 7 * (i % 8); omega), zra_e (κ := 25) (i := i) (show 168 + 59 * (i / 8) + 7 * (i % 8) + 6 = _ from by show _ = 174 + 59 * (i / 8) + 7 * (i % 8); omega)]
  rfl
theorem zmi21 {G : zG} {H : Heap} (h : zN G (zWlst G) H) (i : Nat) (hi : i < 24) : va_at G.1 vwCl (zad G 21 i, zcel G 21 i (zM0 21 i)) H := by
  have h1 := zw0 G (r := 2) hi (by decide)
  rw [show 168 + 59 * (i / 8) + 7 * (i % 8) + 2 = zcd 21 i from by show _ = 170 + 59 * (i / 8) + 7 * (i % 8); omega] at h1
  refine zat_i h (e := .inr (1, [.ref (zra G (168 + 59 * (i / 8) + 7 * (i % 8) + 2 + 1)), .ref (zra G (168 + 59 * (i / 8) + 7 * (i % 8) + 2 + 2)), .ref (zra G (168 + 59 * (i / 8) + 7 * (i % 8) + 2 + 3)), .int 0])) h1 ?_
  rw [zra_e (κ := 22) (i := i) (show 168 + 59 * (i / 8) + 7 * (i % 8) + 2 + 1 = _ from by show _ = 171 + 59 * (i / 8) + 7 * (i % 8); omega), zra_e (κ := 23) (i := i) (show 168 + 59 * (i / 8) + 7 * (i % 8) + 2 + 2 = _ from by show _ = 172 + 59 * (i / 8) + 7 * (i % 8); omega), zra_e (κ := 24) (i := i) (show 168 + 59 * (i / 8) + 7 * (i % 8) + 2 + 3 = _ from by show _ = 173 + 59 * (i / 8) + 7 * (i % 8); omega)]
  rfl
theorem zmi20 {G : zG} {H : Heap} (h : zN G (zWlst G) H) (i : Nat) (hi : i < 24) : va_at G.1 vwCl (zad G 20 i, zcel G 20 i (zM0 20 i)) H := by
  have h1 := zw0 G (r := 1) hi (by decide)
  rw [show 168 + 59 * (i / 8) + 7 * (i % 8) + 1 = zcd 20 i from by show _ = 169 + 59 * (i / 8) + 7 * (i % 8); omega] at h1
  exact zat_i h h1 rfl
theorem zmi22 {G : zG} {H : Heap} (h : zN G (zWlst G) H) (i : Nat) (hi : i < 24) : va_at G.1 vwCl (zad G 22 i, zcel G 22 i (zM0 22 i)) H := by
  have h1 := zw0 G (r := 3) hi (by decide)
  rw [show 168 + 59 * (i / 8) + 7 * (i % 8) + 3 = zcd 22 i from by show _ = 171 + 59 * (i / 8) + 7 * (i % 8); omega] at h1
  exact zat_i h h1 rfl
theorem zmi23 {G : zG} {H : Heap} (h : zN G (zWlst G) H) (i : Nat) (hi : i < 24) : va_at G.1 vwCl (zad G 23 i, zcel G 23 i (zM0 23 i)) H := by
  have h1 := zw0 G (r := 4) hi (by decide)
  rw [show 168 + 59 * (i / 8) + 7 * (i % 8) + 4 = zcd 23 i from by show _ = 172 + 59 * (i / 8) + 7 * (i % 8); omega] at h1
  exact zat_i h h1 rfl
theorem zmi24 {G : zG} {H : Heap} (h : zN G (zWlst G) H) (i : Nat) (hi : i < 24) : va_at G.1 vwCl (zad G 24 i, zcel G 24 i (zM0 24 i)) H := by
  have h1 := zw0 G (r := 5) hi (by decide)
  rw [show 168 + 59 * (i / 8) + 7 * (i % 8) + 5 = zcd 24 i from by show _ = 173 + 59 * (i / 8) + 7 * (i % 8); omega] at h1
  exact zat_i h h1 rfl
theorem zmi25 {G : zG} {H : Heap} (h : zN G (zWlst G) H) (i : Nat) (hi : i < 24) : va_at G.1 vwCl (zad G 25 i, zcel G 25 i (zM0 25 i)) H := by
  have h1 := zw0 G (r := 6) hi (by decide)
  rw [show 168 + 59 * (i / 8) + 7 * (i % 8) + 6 = zcd 25 i from by show _ = 174 + 59 * (i / 8) + 7 * (i % 8); omega] at h1
  exact zat_i h h1 rfl
