theorem wls_UNASSIGNED_STACK : (Cond.laysStatic Bundle.tN "UNASSIGNED_STACK" Bundle.steD) ∈ lw_tbl := List.mem_of_getElem? (i := 301) (by decide +kernel)
theorem wls_SUPPRESSED_SENTINEL : (Cond.laysStatic Bundle.tN "SUPPRESSED_SENTINEL" Bundle.listD) ∈ lw_tbl := List.mem_of_getElem? (i := 303) (by decide +kernel)
theorem wsr_256 : (Cond.stringRef RX7 256 "an argument is out of range") ∈ lw_tbl := List.mem_of_getElem? (i := 315) (by decide +kernel)
theorem wsr_260 : (Cond.stringRef RX7 260 "the value has bits behind the length") ∈ lw_tbl := List.mem_of_getElem? (i := 345) (by decide +kernel)
theorem wsr_56 : (Cond.stringRef RX7 56 "the prefix is taken, or there is no room for a mapping") ∈ lw_tbl := List.mem_of_getElem? (i := 363) (by decide +kernel)
theorem wsr_251 : (Cond.stringRef RX7 251 "there is none with this number") ∈ lw_tbl := List.mem_of_getElem? (i := 418) (by decide +kernel)
theorem wsr_262 : (Cond.stringRef RX7 262 "the mapping is withdrawn") ∈ lw_tbl := List.mem_of_getElem? (i := 447) (by decide +kernel)
theorem wsr_114 : (Cond.stringRef RX7 114 "the address is taken, or there is no room for a locator") ∈ lw_tbl := List.mem_of_getElem? (i := 466) (by decide +kernel)
theorem wsr_264 : (Cond.stringRef RX7 264 "the mapping has no locator with the address") ∈ lw_tbl := List.mem_of_getElem? (i := 485) (by decide +kernel)
theorem wsr_126 : (Cond.stringRef RX7 126 "the other address is taken") ∈ lw_tbl := List.mem_of_getElem? (i := 486) (by decide +kernel)
theorem wsr_153 : (Cond.stringRef RX7 153 "there is no room for a delegated prefix") ∈ lw_tbl := List.mem_of_getElem? (i := 639) (by decide +kernel)
theorem zarr_k {A : Array Value} {s : State} {ty : FieldType} (h : (Cond.arrayClass ty).before A s = true) : ∃ cA : ClassId, s.vm.findClass ("[" ++ ty.toString) = some cA ∧ ArrOfT s cA ty := by
  obtain ⟨c, k, comp, h1, h2, h3⟩ := Cond.arrayClass_spec h
  exact ⟨c, h1, fun n z => ⟨fun k h => (by cases h), k, h2, comp, h3⟩⟩
theorem zaro_k {A : Array Value} {s : State} {C0 : String} (h : (Cond.arrayOver (.object C0)).before A s = true) : ∃ cA : ClassId, va_RA s cA (.object C0) ∧ ArrOfT s cA (.object C0) := by
  obtain ⟨comp, c, k, h1, h2, h3, h4, h5⟩ := Cond.arrayOver_spec h
  exact ⟨c, ⟨k, comp, h3, h4, h1, h5⟩, fun n z => ⟨fun k h => (by cases h), k, h3, comp, h4⟩⟩
theorem zstr_k {A : Array Value} {s : State} {k : Nat} {tx : String} (h1 : (Cond.stringRef RX7 k tx).before A s = true) (h2 : (Cond.exactly (.string RX7 k) "java/lang/String").before A s = true) : ∃ sa : Nat, vk_R RX7 k tx sa s := by
  obtain ⟨a, c9, cell, k9, h3, -⟩ := Cond.exactly_spec h2
  exact ⟨a, vk_R.of h1 h3⟩
theorem zAO_of {b : Nat} {s : State} (hts : ∀ w ∈ lw_tbl, w.before #[Value.ref b] s = true) : zAO s := fun C0 h => va_AO.of (hts _ h)
set_option maxRecDepth 100000 in
theorem zNC_of {b : Nat} {s : State} (hgv : (Jvm.Cond.and given_1 narrow_1).before #[Value.ref b] s = true) : zNC s :=
  ⟨va_Nc.of (flat_of_before _ hgv (.not (.castable xIAE xIOB)) (by decide +kernel)), va_Nc.of (flat_of_before _ hgv (.not (.castable xISE xIOB)) (by decide +kernel)), va_Nc.of (flat_of_before _ hgv (.not (.castable xISE xIAE)) (by decide +kernel))⟩
theorem zflags {l : Launch} (h : l.flags = flags0) : l.stackTraces = false := by
  unfold Launch.stackTraces
  rw [h]
  decide +kernel
set_option maxHeartbeats 4000000 in
set_option maxRecDepth 100000 in
theorem zK_of {b L : Nat} {xs : Nat → Int32} {s : State} (hts : ∀ w ∈ lw_tbl, w.before #[Value.ref b] s = true) (hgv : (Jvm.Cond.and given_1 narrow_1).before #[Value.ref b] s = true) (hX : va_X b L xs s s.heap) (hb : b < s.heap.size) (hL : L ≤ 260) : ∃ G : zG, zB G = s.heap ∧ zS G = (b, L, xs) ∧ zK G s := by
  have hg := flat_of_before _ hgv
  obtain ⟨c0, i0, k0⟩ := u_known (C := RX0) (T := TX0) (N := 7) (n := 7) hts (fun w hw => (zcl0.2.1 w hw).1) (hts _ wnew_0)
  obtain ⟨c1, i1, k1⟩ := u_known (C := RX1) (T := TX1) (N := 4) (n := 4) hts (fun w hw => (zcl1.2.1 w hw).1) (hts _ wnew_1)
  obtain ⟨c2, i2, k2⟩ := u_known (C := RX2) (T := TX2) (N := 4) (n := 4) hts (fun w hw => (zcl2.2.1 w hw).1) (hts _ wnew_2)
  obtain ⟨c3, i3, k3⟩ := u_known (C := RX3) (T := TX3) (N := 2) (n := 2) hts (fun w hw => (zcl3.2.1 w hw).1) (hts _ wnew_3)
  obtain ⟨c4, i4, k4⟩ := u_known (C := RX4) (T := TX4) (N := 2) (n := 2) hts (fun w hw => (zcl4.2.1 w hw).1) (hts _ wnew_4)
  obtain ⟨c5, i5, k5⟩ := u_known (C := RX5) (T := TX5) (N := 3) (n := 3) hts (fun w hw => (zcl5.2.1 w hw).1) (hts _ wnew_5)
  obtain ⟨c6, i6, k6⟩ := u_known (C := RX6) (T := TX6) (N := 5) (n := 5) hts (fun w hw => (zcl6.2.1 w hw).1) (hts _ wnew_6)
  obtain ⟨c7, i7, k7⟩ := u_known (C := RX7) (T := TX7) (N := 7) (n := 7) hts (fun w hw => (zcl7.2.1 w hw).1) (hts _ wnew_7)
  obtain ⟨t0, f0, g0⟩ := zarr_k (hts _ war_int)
  obtain ⟨t1, f1, g1⟩ := zarr_k (hts _ war_boolean)
  obtain ⟨t2, f2, g2⟩ := zarr_k (hts _ war_int)
  obtain ⟨t3, f3, g3⟩ := zaro_k (hts _ wao_X0)
  obtain ⟨t4, f4, g4⟩ := zaro_k (hts _ wao_X2)
  obtain ⟨t5, f5, g5⟩ := zaro_k (hts _ wao_X3)
  obtain ⟨t6, f6, g6⟩ := zaro_k (hts _ wao_X5)
  refine ⟨(((fun k => match k with | 0 => c0 | 1 => c1 | 2 => c2 | 3 => c3 | 4 => c4 | 5 => c5 | 6 => c6 | _ => c7), (fun k => match k with | 0 => i0 | 1 => i1 | 2 => i2 | 3 => i3 | 4 => i4 | 5 => i5 | 6 => i6 | _ => i7)), (fun k => match k with | 0 => t0 | 1 => t1 | 2 => t2 | 3 => t3 | 4 => t4 | 5 => t5 | _ => t6), s.heap, (b, L, xs)), rfl, rfl, ⟨fun k q hq => ?_, fun k q hq => ?_⟩, fun w hw hg9 => zword (State.WarmedH.refl s) hg9 (hts w hw), ?_, ?_, ?_, zNC_of hgv, hX, hb, hL⟩
  · match k, hq with
    | 0, hq => cases hq; exact k0
    | 1, hq => cases hq; exact k1
    | 2, hq => cases hq; exact k2
    | 3, hq => cases hq; exact k3
    | 4, hq => cases hq; exact k4
    | 5, hq => cases hq; exact k5
    | 6, hq => cases hq; exact k6
    | 7, hq => cases hq; exact k7
    | k + 8, hq => simp [vwCl] at hq
  · match k, hq with
    | 0, hq => cases hq; exact ⟨g0, f0⟩
    | 1, hq => cases hq; exact ⟨g1, f1⟩
    | 2, hq => cases hq; exact ⟨g2, f2⟩
    | 3, hq => cases hq; exact ⟨g3, f3⟩
    | 4, hq => cases hq; exact ⟨g4, f4⟩
    | 5, hq => cases hq; exact ⟨g5, f5⟩
    | 6, hq => cases hq; exact ⟨g6, f6⟩
    | k + 7, hq => simp [zTy] at hq
  · exact vx_Zqof (hts _ wls_UNASSIGNED_STACK) (hts _ wini_Throwable) (hg (.isRef (.static "java/lang/Throwable" "UNASSIGNED_STACK" "[Ljava/lang/StackTraceElement;")) (by decide +kernel)) (fun a h1 h2 => Nat.not_le.mpr h1 h2)
  · exact vx_Zqof (hts _ wls_SUPPRESSED_SENTINEL) (hts _ wini_Throwable) (hg (.isRef (.static "java/lang/Throwable" "SUPPRESSED_SENTINEL" "Ljava/util/List;")) (by decide +kernel)) (fun a h1 h2 => Nat.not_le.mpr h1 h2)
  · intro q hq
    unfold zStr at hq
    rcases List.mem_cons.mp hq with rfl | hq
    · exact zstr_k (hts _ wsr_256) (hg (.exactly (.string "LocatorMapper" 256) "java/lang/String") (by decide +kernel))
    rcases List.mem_cons.mp hq with rfl | hq
    · exact zstr_k (hts _ wsr_260) (hg (.exactly (.string "LocatorMapper" 260) "java/lang/String") (by decide +kernel))
    rcases List.mem_cons.mp hq with rfl | hq
    · exact zstr_k (hts _ wsr_56) (hg (.exactly (.string "LocatorMapper" 56) "java/lang/String") (by decide +kernel))
    rcases List.mem_cons.mp hq with rfl | hq
    · exact zstr_k (hts _ wsr_251) (hg (.exactly (.string "LocatorMapper" 251) "java/lang/String") (by decide +kernel))
    rcases List.mem_cons.mp hq with rfl | hq
    · exact zstr_k (hts _ wsr_262) (hg (.exactly (.string "LocatorMapper" 262) "java/lang/String") (by decide +kernel))
    rcases List.mem_cons.mp hq with rfl | hq
    · exact zstr_k (hts _ wsr_114) (hg (.exactly (.string "LocatorMapper" 114) "java/lang/String") (by decide +kernel))
    rcases List.mem_cons.mp hq with rfl | hq
    · exact zstr_k (hts _ wsr_264) (hg (.exactly (.string "LocatorMapper" 264) "java/lang/String") (by decide +kernel))
    rcases List.mem_cons.mp hq with rfl | hq
    · exact zstr_k (hts _ wsr_126) (hg (.exactly (.string "LocatorMapper" 126) "java/lang/String") (by decide +kernel))
    rcases List.mem_cons.mp hq with rfl | hq
    · exact zstr_k (hts _ wsr_153) (hg (.exactly (.string "LocatorMapper" 153) "java/lang/String") (by decide +kernel))
    cases hq
