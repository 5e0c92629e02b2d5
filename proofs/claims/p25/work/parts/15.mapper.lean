set_option maxHeartbeats 4000000 in
set_option maxRecDepth 100000 in
theorem c_X7_firstBits (l : Launch) (G : zG) (M : zMem) (v b : Int) (hv : zpfx v b) : Met l yX7_firstBits [.code yX7_firstBits cX7_firstBits 2 (some .int)] (zR 0 0 0) (zPc G M [.int (zI v), .int (zI b)]) (zQi G (fun x M' => M = M' ∧ x = zfb v b)) 0 0 (zA G) := by
  refine z_met [(0, .int (zI v)), (1, .int (zI b))] (by decide) (Nat.le_of_ble_eq_true rfl) rfl ?_
  intro p e s m below meth c C
  have C : zC p s m ([.int (zI v), .int (zI b)] : List Value).toArray meth c G RX7 cX7_firstBits 2 (some .int) := C
  obtain ⟨v0, v1, v2, v3⟩ := hv
  refine z_iload_n C 0 dX7_firstBits_0 rfl 0 rfl ?_
  refine z_iconst C 1 dX7_firstBits_1 ?_
  refine z_bipush C 2 dX7_firstBits_2 (by decide +kernel) ?_
  refine z_iload_n C 4 dX7_firstBits_4 rfl 1 rfl ?_
  refine z_isub C 5 dX7_firstBits_5 ?_
  refine z_ishl C 6 (v := 2 ^ (16 - b).toNat) dX7_firstBits_6 (z_one_shl v2 v3) ?_
  refine z_ineg C 7 dX7_firstBits_7 ?_
  refine z_iand C 8 (v := zfb v b) dX7_firstBits_8 (z_msk v0 v1 v2 v3) ?_
  refine z_iret C 9 dX7_firstBits_9 (by decide) (by decide) (by have := zfb_rg v0 v1 v2 v3; omega) ?_
  exact ⟨rfl, rfl⟩
set_option maxHeartbeats 4000000 in
set_option maxRecDepth 100000 in
theorem c_X7_requireIndex (l : Launch) (hfl : l.stackTraces = false) (G : zG) (M : zMem) (a n : Int) (ha : zrg a) (hn : zrg n) : vx_Met l yX7_requireIndex [.code yX7_requireIndex cX7_requireIndex 2 none] (zR 6 1 6) (zPc G M [.int (zI a), .int (zI n)]) (zQv G (fun M' => M = M' ∧ 0 ≤ a ∧ a < n)) (zX G M (fun E => (E = xIOB ∧ ¬ (0 ≤ a ∧ a < n)))) 1 6 (zA G) := by
  refine zx_met [(0, .int (zI a)), (1, .int (zI n))] (by decide) (Nat.le_of_ble_eq_true rfl) rfl ?_
  intro p e s m below meth c C hT
  have C : zC p s m ([.int (zI a), .int (zI n)] : List Value).toArray meth c G RX7 cX7_requireIndex 2 none := C
  refine z_iload_n C 0 dX7_requireIndex_0 rfl 0 rfl ?_
  refine z_if_lt C 1 9 dX7_requireIndex_1 (by decide) (by first | assumption | omega) (fun c1_7 => ?_) (fun c1_7 => ?_)
  · refine z_throw C hT hfl 9 zt_iob (List.mem_of_getElem? (i := 3) rfl) dX7_requireIndex_9 dX7_requireIndex_12 dX7_requireIndex_13 dX7_requireIndex_15 dX7_requireIndex_18 ⟨by decide, by decide, by decide, by decide⟩ ⟨by decide, by decide⟩ ?_
    exact ⟨rfl, by omega⟩
  refine z_iload_n C 4 dX7_requireIndex_4 rfl 0 rfl ?_
  refine z_iload_n C 5 dX7_requireIndex_5 rfl 1 rfl ?_
  refine z_icmp_lt C 6 19 dX7_requireIndex_6 (by decide) (by first | assumption | omega) (by first | assumption | omega) (fun c6_12 => ?_) (fun c6_12 => ?_)
  · refine zx_vret C 19 dX7_requireIndex_19 (by decide) (by decide) ?_
    exact ⟨rfl, by omega, by omega⟩
  refine z_throw C hT hfl 9 zt_iob (List.mem_of_getElem? (i := 3) rfl) dX7_requireIndex_9 dX7_requireIndex_12 dX7_requireIndex_13 dX7_requireIndex_15 dX7_requireIndex_18 ⟨by decide, by decide, by decide, by decide⟩ ⟨by decide, by decide⟩ ?_
  exact ⟨rfl, by omega⟩
set_option maxHeartbeats 4000000 in
set_option maxRecDepth 100000 in
theorem c_X7_requireWithin (l : Launch) (hfl : l.stackTraces = false) (G : zG) (M : zMem) (a lo hi : Int) (ha : zrg a) (hlo : zrg lo) (hhi : zrg hi) : vx_Met l yX7_requireWithin [.code yX7_requireWithin cX7_requireWithin 3 none] (zR 6 1 6) (zPc G M [.int (zI a), .int (zI lo), .int (zI hi)]) (zQv G (fun M' => M = M' ∧ lo ≤ a ∧ a ≤ hi)) (zX G M (fun E => (E = xIAE ∧ ¬ (lo ≤ a ∧ a ≤ hi)))) 1 6 (zA G) := by
  refine zx_met [(0, .int (zI a)), (1, .int (zI lo)), (2, .int (zI hi))] (by decide) (Nat.le_of_ble_eq_true rfl) rfl ?_
  intro p e s m below meth c C hT
  have C : zC p s m ([.int (zI a), .int (zI lo), .int (zI hi)] : List Value).toArray meth c G RX7 cX7_requireWithin 3 none := C
  refine z_iload_n C 0 dX7_requireWithin_0 rfl 0 rfl ?_
  refine z_iload_n C 1 dX7_requireWithin_1 rfl 1 rfl ?_
  refine z_icmp_lt C 2 10 dX7_requireWithin_2 (by decide) (by first | assumption | omega) (by first | assumption | omega) (fun c2_8 => ?_) (fun c2_8 => ?_)
  · refine z_throwW C hT hfl 10 zt_iae (List.mem_of_getElem? (i := 0) rfl) dX7_requireWithin_10 dX7_requireWithin_13 dX7_requireWithin_14 dX7_requireWithin_17 dX7_requireWithin_20 ⟨by decide, by decide, by decide, by decide⟩ ⟨by decide, by decide⟩ ?_
    exact ⟨rfl, by omega⟩
  refine z_iload_n C 5 dX7_requireWithin_5 rfl 0 rfl ?_
  refine z_iload_n C 6 dX7_requireWithin_6 rfl 2 rfl ?_
  refine z_icmp_le C 7 21 dX7_requireWithin_7 (by decide) (by first | assumption | omega) (by first | assumption | omega) (fun c7_13 => ?_) (fun c7_13 => ?_)
  · refine zx_vret C 21 dX7_requireWithin_21 (by decide) (by decide) ?_
    exact ⟨rfl, by omega, by omega⟩
  refine z_throwW C hT hfl 10 zt_iae (List.mem_of_getElem? (i := 0) rfl) dX7_requireWithin_10 dX7_requireWithin_13 dX7_requireWithin_14 dX7_requireWithin_17 dX7_requireWithin_20 ⟨by decide, by decide, by decide, by decide⟩ ⟨by decide, by decide⟩ ?_
  exact ⟨rfl, by omega⟩
set_option maxHeartbeats 4000000 in
set_option maxRecDepth 100000 in
theorem c_X7_requireIdentifier (l : Launch) (hfl : l.stackTraces = false) (G : zG) (M : zMem) (a : Int) (ha : zrg a) : vx_Met l yX7_requireIdentifier [.code yX7_requireIdentifier cX7_requireIdentifier 1 none] (zR 7 1 6) (zPc G M [.int (zI a)]) (zQv G (fun M' => M = M' ∧ 0 ≤ a ∧ a < 65536)) (zX G M (fun E => (E = xIAE ∧ ¬ (0 ≤ a ∧ a < 65536)))) 1 6 (zA G) := by
  refine zx_met [(0, .int (zI a))] (by decide) (Nat.le_of_ble_eq_true rfl) rfl ?_
  intro p e s m below meth c C hT
  have C : zC p s m ([.int (zI a)] : List Value).toArray meth c G RX7 cX7_requireIdentifier 1 none := C
  refine z_iload_n C 0 dX7_requireIdentifier_0 rfl 0 rfl ?_
  refine z_iconst C 1 dX7_requireIdentifier_1 ?_
  refine z_ldcw C 2 wk_7_259 dX7_requireIdentifier_2 ?_
  refine zx_callSv C hT 5 (As := [.int (zI a), .int (zI 0), .int (zI 65535)]) (rest := []) (c_X7_requireWithin l hfl G M a 0 65535 ha (by decide) (by decide)) (zS_of 3 C wm_7_99 wc_X7_requireWithin wini_7 wst_X7_requireWithin ⟨by decide, by decide, by decide⟩ ⟨by decide, by decide⟩) rfl (Nat.le_of_ble_eq_true rfl) ⟨by decide, by decide⟩ dX7_requireIdentifier_5 rfl (by decide) (by decide) (fun E h => ⟨h.1, by have := h.2; omega⟩) (fun Mz2 hPz1 => ?_)
  refine zZ_cs (k := 1) (n := 6) (by decide) (by decide) ?_
  obtain ⟨rfl, hPz1⟩ := hPz1
  refine zx_vret C 8 dX7_requireIdentifier_8 (by decide) (by decide) ?_
  exact ⟨rfl, by omega, by omega⟩
set_option maxHeartbeats 4000000 in
set_option maxRecDepth 100000 in
theorem c_X7_requireAddress (l : Launch) (hfl : l.stackTraces = false) (G : zG) (M : zMem) (a : Int) (ha : zrg a) : vx_Met l yX7_requireAddress [.code yX7_requireAddress cX7_requireAddress 1 none] (zR 7 1 6) (zPc G M [.int (zI a)]) (zQv G (fun M' => M = M' ∧ 0 ≤ a ∧ a < 32)) (zX G M (fun E => (E = xIAE ∧ ¬ (0 ≤ a ∧ a < 32)))) 1 6 (zA G) := by
  refine zx_met [(0, .int (zI a))] (by decide) (Nat.le_of_ble_eq_true rfl) rfl ?_
  intro p e s m below meth c C hT
  have C : zC p s m ([.int (zI a)] : List Value).toArray meth c G RX7 cX7_requireAddress 1 none := C
  refine z_iload_n C 0 dX7_requireAddress_0 rfl 0 rfl ?_
  refine z_iconst C 1 dX7_requireAddress_1 ?_
  refine z_bipush C 2 dX7_requireAddress_2 (by decide +kernel) ?_
  refine zx_callSv C hT 4 (As := [.int (zI a), .int (zI 0), .int (zI 31)]) (rest := []) (c_X7_requireWithin l hfl G M a 0 31 ha (by decide) (by decide)) (zS_of 3 C wm_7_99 wc_X7_requireWithin wini_7 wst_X7_requireWithin ⟨by decide, by decide, by decide⟩ ⟨by decide, by decide⟩) rfl (Nat.le_of_ble_eq_true rfl) ⟨by decide, by decide⟩ dX7_requireAddress_4 rfl (by decide) (by decide) (fun E h => ⟨h.1, by have := h.2; omega⟩) (fun Mz2 hPz1 => ?_)
  refine zZ_cs (k := 1) (n := 6) (by decide) (by decide) ?_
  obtain ⟨rfl, hPz1⟩ := hPz1
  refine zx_vret C 7 dX7_requireAddress_7 (by decide) (by decide) ?_
  exact ⟨rfl, by omega, by omega⟩
set_option maxHeartbeats 4000000 in
set_option maxRecDepth 100000 in
theorem c_X7_requirePrefix (l : Launch) (hfl : l.stackTraces = false) (G : zG) (M : zMem) (v b : Int) (ha : zrg v) (hb : zrg b) : vx_Met l yX7_requirePrefix [.code yX7_requirePrefix cX7_requirePrefix 2 none] (zR 8 3 18) (zPc G M [.int (zI v), .int (zI b)]) (zQv G (fun M' => M = M' ∧ zvp v b)) (zX G M (fun E => (E = xIAE ∧ ¬ zvp v b))) 3 18 (zA G) := by
  refine zx_met [(0, .int (zI v)), (1, .int (zI b))] (by decide) (Nat.le_of_ble_eq_true rfl) rfl ?_
  intro p e s m below meth c C hT
  have C : zC p s m ([.int (zI v), .int (zI b)] : List Value).toArray meth c G RX7 cX7_requirePrefix 2 none := C
  refine z_iload_n C 0 dX7_requirePrefix_0 rfl 0 rfl ?_
  refine zx_callSv C hT 1 (As := [.int (zI v)]) (rest := []) (c_X7_requireIdentifier l hfl G M v ha) (zS_of 1 C wm_7_135 wc_X7_requireIdentifier wini_7 wst_X7_requireIdentifier ⟨by decide, by decide, by decide⟩ ⟨by decide, by decide⟩) rfl (Nat.le_of_ble_eq_true rfl) ⟨by decide, by decide⟩ dX7_requirePrefix_1 rfl (by decide) (by decide) (fun E h => ⟨h.1, fun z => h.2 ⟨z.1.1, z.1.2.1⟩⟩) (fun Mz2 hPz1 => ?_)
  refine zZ_cs (k := 1) (n := 6) (by decide) (by decide) ?_
  obtain ⟨rfl, hPz1⟩ := hPz1
  refine z_iload_n C 4 dX7_requirePrefix_4 rfl 1 rfl ?_
  refine z_iconst C 5 dX7_requirePrefix_5 ?_
  refine z_bipush C 6 dX7_requirePrefix_6 (by decide +kernel) ?_
  refine zx_callSv C hT 8 (As := [.int (zI b), .int (zI 0), .int (zI 16)]) (rest := []) (c_X7_requireWithin l hfl G M b 0 16 hb (by decide) (by decide)) (zS_of 3 C wm_7_99 wc_X7_requireWithin wini_7 wst_X7_requireWithin ⟨by decide, by decide, by decide⟩ ⟨by decide, by decide⟩) rfl (Nat.le_of_ble_eq_true rfl) ⟨by decide, by decide⟩ dX7_requirePrefix_8 rfl (by decide) (by decide) (fun E h => ⟨h.1, fun z => h.2 ⟨z.1.2.2.1, z.1.2.2.2⟩⟩) (fun Mz4 hPz3 => ?_)
  refine zZ_cs (k := 2) (n := 12) (by decide) (by decide) ?_
  obtain ⟨rfl, hPz3⟩ := hPz3
  refine z_iload_n C 11 dX7_requirePrefix_11 rfl 0 rfl ?_
  refine z_iload_n C 12 dX7_requirePrefix_12 rfl 1 rfl ?_
  refine z_callSi C 13 (As := [.int (zI v), .int (zI b)]) (rest := []) (c_X7_firstBits l G M v b ⟨by omega, by omega, by omega, by omega⟩) (zS_of 2 C wm_7_229 wc_X7_firstBits wini_7 wst_X7_firstBits ⟨by decide, by decide, by decide⟩ ⟨by decide, by decide⟩) rfl (Nat.le_of_ble_eq_true rfl) ⟨by decide, by decide⟩ dX7_requirePrefix_13 rfl (fun zq5 Mz6 hzq5 hPz5 => ?_)
  obtain ⟨rfl, hPz5⟩ := hPz5
  refine z_iload_n C 16 dX7_requirePrefix_16 rfl 0 rfl ?_
  refine z_icmp_eq C 17 31 dX7_requirePrefix_17 (by decide) hzq5 (by first | assumption | omega) (fun c17_21 => ?_) (fun c17_21 => ?_)
  · refine zx_vret C 31 dX7_requirePrefix_31 (by decide) (by decide) ?_
    exact ⟨rfl, ⟨by omega, by omega, by omega, by omega⟩, by omega⟩
  refine z_throwW C hT hfl 20 zt_iae (List.mem_of_getElem? (i := 1) rfl) dX7_requirePrefix_20 dX7_requirePrefix_23 dX7_requirePrefix_24 dX7_requirePrefix_27 dX7_requirePrefix_30 ⟨by decide, by decide, by decide, by decide⟩ ⟨by decide, by decide⟩ ?_
  exact ⟨rfl, fun z => by have := z.2; omega⟩
set_option maxHeartbeats 4000000 in
set_option maxRecDepth 100000 in
theorem c_X7_requireRegistered (l : Launch) (hfl : l.stackTraces = false) (G : zG) (M : zMem) (i : Nat) (hi : i < 24) : vx_Met l yX7_requireRegistered [.code yX7_requireRegistered cX7_requireRegistered 1 none] (zR 6 1 6) (zPc G M [.ref (zad G 3 i)]) (zQv G (fun M' => M = M' ∧ zV M 3 i 3 = 0)) (zX G M (fun E => (E = xISE ∧ zV M 3 i 3 ≠ 0))) 1 6 (zA G) := by
  refine zx_met [(0, .ref (zad G 3 i))] (by decide) (Nat.le_of_ble_eq_true rfl) rfl ?_
  intro p e s m below meth c C hT
  have C : zC p s m ([.ref (zad G 3 i)] : List Value).toArray meth c G RX7 cX7_requireRegistered 1 none := C
  refine z_aload_n C 0 dX7_requireRegistered_0 rfl 0 rfl ?_
  refine z_getI C 1 zcl2 (show i < 24 by omega) (zc3 ..) 3 (by decide) rfl wf_7_87 dX7_requireRegistered_1 (fun zq1 ezq1 hzq1 => ?_)
  refine z_if_eq C 4 18 dX7_requireRegistered_4 (by decide) hzq1 (fun c4_8 => ?_) (fun c4_8 => ?_)
  · refine zx_vret C 18 dX7_requireRegistered_18 (by decide) (by decide) ?_
    exact ⟨rfl, by omega⟩
  refine z_throwW C hT hfl 7 zt_ise (List.mem_of_getElem? (i := 4) rfl) dX7_requireRegistered_7 dX7_requireRegistered_10 dX7_requireRegistered_11 dX7_requireRegistered_14 dX7_requireRegistered_17 ⟨by decide, by decide, by decide, by decide⟩ ⟨by decide, by decide⟩ ?_
  exact ⟨rfl, by omega⟩
set_option maxHeartbeats 4000000 in
set_option maxRecDepth 100000 in
theorem c_X7_requireMapping (l : Launch) (hfl : l.stackTraces = false) (G : zG) (M : zMem) (hn : 0 ≤ zV M 1 0 1 ∧ zV M 1 0 1 ≤ 24) (a : Int) (ha : zrg a) : vx_Met l yX7_requireMapping [.code yX7_requireMapping cX7_requireMapping 2 (some (.object "LocatorMapper$Mapping"))] (zR 7 1 6) (zPc G M [.ref (zad G 0 0), .int (zI a)]) (zQr G (fun x M' => M = M' ∧ x = zad G 3 a.toNat ∧ 0 ≤ a ∧ a < zV M 1 0 1)) (zX G M (fun E => (E = xIOB ∧ ¬ (0 ≤ a ∧ a < zV M 1 0 1)))) 1 6 (zA G) := by
  refine zx_met [(0, .ref (zad G 0 0)), (1, .int (zI a))] (by decide) (Nat.le_of_ble_eq_true rfl) rfl ?_
  intro p e s m below meth c C hT
  have C : zC p s m ([.ref (zad G 0 0), .int (zI a)] : List Value).toArray meth c G RX7 cX7_requireMapping 2 (some (.object "LocatorMapper$Mapping")) := C
  refine z_iload_n C 0 dX7_requireMapping_0 rfl 1 rfl ?_
  refine z_aload_n C 1 dX7_requireMapping_1 rfl 0 rfl ?_
  refine z_get C 2 zcl7 (show 0 < 1 by omega) (zc0 ..) 0 (by decide) rfl wf_7_12 dX7_requireMapping_2 ?_
  refine z_getI C 5 zcl4 (show 0 < 1 by omega) (zc1 ..) 1 (by decide) rfl wf_7_47 dX7_requireMapping_5 (fun zq1 ezq1 hzq1 => ?_)
  refine zx_callSv C hT 8 (As := [.int (zI a), .int (zI zq1)]) (rest := []) (c_X7_requireIndex l hfl G M a zq1 ha hzq1) (zS_of 2 C wm_7_147 wc_X7_requireIndex wini_7 wst_X7_requireIndex ⟨by decide, by decide, by decide⟩ ⟨by decide, by decide⟩) rfl (Nat.le_of_ble_eq_true rfl) ⟨by decide, by decide⟩ dX7_requireMapping_8 rfl (by decide) (by decide) (fun E h => ⟨h.1, by have := h.2; omega⟩) (fun Mz3 hPz2 => ?_)
  refine zZ_cs (k := 1) (n := 6) (by decide) (by decide) ?_
  obtain ⟨rfl, hPz2⟩ := hPz2
  refine z_aload_n C 11 dX7_requireMapping_11 rfl 0 rfl ?_
  refine z_get C 12 zcl7 (show 0 < 1 by omega) (zc0 ..) 0 (by decide) rfl wf_7_12 dX7_requireMapping_12 ?_
  refine z_get C 15 zcl4 (show 0 < 1 by omega) (zc1 ..) 0 (by decide) rfl wf_7_65 dX7_requireMapping_15 ?_
  refine z_iload_n C 18 dX7_requireMapping_18 rfl 1 rfl ?_
  refine z_aald C 19 (show 0 < 1 by omega) (zc2 ..) rfl (by first | assumption | omega) (by omega) (show a < ((24 : Nat) : Int) by omega) dX7_requireMapping_19 ?_
  refine zx_aret C 20 dX7_requireMapping_20 (by decide) (by decide) ?_
  exact ⟨rfl, rfl, by omega, by omega⟩
set_option maxHeartbeats 4000000 in
set_option maxRecDepth 100000 in
theorem c_X7_requireRouter (l : Launch) (hfl : l.stackTraces = false) (G : zG) (M : zMem) (a : Int) (ha : zrg a) : vx_Met l yX7_requireRouter [.code yX7_requireRouter cX7_requireRouter 2 (some (.object "LocatorMapper$Router"))] (zR 7 1 6) (zPc G M [.ref (zad G 0 0), .int (zI a)]) (zQr G (fun x M' => M = M' ∧ x = zad G 16 a.toNat ∧ 0 ≤ a ∧ a < 3)) (zX G M (fun E => (E = xIOB ∧ ¬ (0 ≤ a ∧ a < 3)))) 1 6 (zA G) := by
  refine zx_met [(0, .ref (zad G 0 0)), (1, .int (zI a))] (by decide) (Nat.le_of_ble_eq_true rfl) rfl ?_
  intro p e s m below meth c C hT
  have C : zC p s m ([.ref (zad G 0 0), .int (zI a)] : List Value).toArray meth c G RX7 cX7_requireRouter 2 (some (.object "LocatorMapper$Router")) := C
  refine z_iload_n C 0 dX7_requireRouter_0 rfl 1 rfl ?_
  refine z_iconst C 1 dX7_requireRouter_1 ?_
  refine zx_callSv C hT 2 (As := [.int (zI a), .int (zI 3)]) (rest := []) (c_X7_requireIndex l hfl G M a 3 ha (by decide)) (zS_of 2 C wm_7_147 wc_X7_requireIndex wini_7 wst_X7_requireIndex ⟨by decide, by decide, by decide⟩ ⟨by decide, by decide⟩) rfl (Nat.le_of_ble_eq_true rfl) ⟨by decide, by decide⟩ dX7_requireRouter_2 rfl (by decide) (by decide) (fun E h => h) (fun Mz2 hPz1 => ?_)
  refine zZ_cs (k := 1) (n := 6) (by decide) (by decide) ?_
  obtain ⟨rfl, hPz1⟩ := hPz1
  refine z_aload_n C 5 dX7_requireRouter_5 rfl 0 rfl ?_
  refine z_get C 6 zcl7 (show 0 < 1 by omega) (zc0 ..) 2 (by decide) rfl wf_7_25 dX7_requireRouter_6 ?_
  refine z_iload_n C 9 dX7_requireRouter_9 rfl 1 rfl ?_
  refine z_aald C 10 (show 0 < 1 by omega) (zc15 ..) rfl (by first | assumption | omega) (by omega) (show a < ((3 : Nat) : Int) by omega) dX7_requireRouter_10 ?_
  refine zx_aret C 11 dX7_requireRouter_11 (by decide) (by decide) ?_
  exact ⟨rfl, rfl, by omega, by omega⟩
set_option maxHeartbeats 4000000 in
set_option maxRecDepth 100000 in
theorem c_X7_requireEntry (l : Launch) (hfl : l.stackTraces = false) (G : zG) (M : zMem) (hw : ∀ r, r < 3 → zwr M r) (a b : Int) (ha : zrg a) (hb : zrg b) : vx_Met l yX7_requireEntry [.code yX7_requireEntry cX7_requireEntry 4 (some (.object "LocatorMapper$Entry"))] (zR 8 2 12) (zPc G M [.ref (zad G 0 0), .int (zI a), .int (zI b)]) (zQr G (fun x M' => M = M' ∧ x = zad G 19 (zq M a.toNat b.toNat) ∧ (0 ≤ a ∧ a < 3) ∧ 0 ≤ b ∧ b < zV M 16 a.toNat 2)) (zX G M (fun E => (E = xIOB ∧ ¬ ((0 ≤ a ∧ a < 3) ∧ 0 ≤ b ∧ b < zV M 16 a.toNat 2)))) 2 12 (zA G) := by
  refine zx_met [(0, .ref (zad G 0 0)), (1, .int (zI a)), (2, .int (zI b))] (by decide) (Nat.le_of_ble_eq_true rfl) rfl ?_
  intro p e s m below meth c C hT
  have C : zC p s m ([.ref (zad G 0 0), .int (zI a), .int (zI b)] : List Value).toArray meth c G RX7 cX7_requireEntry 4 (some (.object "LocatorMapper$Entry")) := C
  refine z_aload_n C 0 dX7_requireEntry_0 rfl 0 rfl ?_
  refine z_iload_n C 1 dX7_requireEntry_1 rfl 1 rfl ?_
  refine zx_callVr C hT 2 (As := [.int (zI a)]) (rest := []) (c_X7_requireRouter l hfl G M a ha) zcl7 (show 0 < 1 by omega) (zc0 ..) (zW_of 1 C wm_7_167 wc_X7_requireRouter wini_7 wi_X7_requireRouter wse_X7_requireRouter ⟨by decide, by decide, by decide⟩ ⟨by decide, by decide⟩) rfl (Nat.le_of_ble_eq_true rfl) ⟨by decide, by decide⟩ dX7_requireEntry_2 rfl (by decide) (by decide) (fun E h => ⟨h.1, fun z => h.2 z.1⟩) (fun zq1 Mz2 hPz1 => ?_)
  refine zZ_cs (k := 1) (n := 6) (by decide) (by decide) ?_
  obtain ⟨rfl, hPz1⟩ := hPz1
  obtain ⟨rfl, hPz1⟩ := hPz1
  have hwa := hw a.toNat (by omega)
  have hwa1 := hwa.1
  refine z_astore_n (lv' := [(3, .ref (zad G 16 a.toNat)), (0, .ref (zad G 0 0)), (1, .int (zI a)), (2, .int (zI b))]) C 5 dX7_requireEntry_5 rfl (by decide) rfl ?_
  refine z_iload_n C 6 dX7_requireEntry_6 rfl 3 rfl ?_
  refine z_aload_n C 7 dX7_requireEntry_7 rfl 0 rfl ?_
  refine z_getI C 8 zcl5 (show a.toNat < 3 by omega) (zc16 ..) 2 (by decide) rfl wf_7_193 dX7_requireEntry_8 (fun zq3 ezq3 hzq3 => ?_)
  refine zx_callSv C hT 11 (As := [.int (zI b), .int (zI zq3)]) (rest := []) (c_X7_requireIndex l hfl G M b zq3 hb hzq3) (zS_of 2 C wm_7_147 wc_X7_requireIndex wini_7 wst_X7_requireIndex ⟨by decide, by decide, by decide⟩ ⟨by decide, by decide⟩) rfl (Nat.le_of_ble_eq_true rfl) ⟨by decide, by decide⟩ dX7_requireEntry_11 rfl (by decide) (by decide) (fun E h => ⟨h.1, fun z => h.2 ⟨z.2.1, by omega⟩⟩) (fun Mz5 hPz4 => ?_)
  refine zZ_cs (k := 2) (n := 12) (by decide) (by decide) ?_
  obtain ⟨rfl, hPz4⟩ := hPz4
  refine z_aload_n C 14 dX7_requireEntry_14 rfl 0 rfl ?_
  refine z_get C 15 zcl5 (show a.toNat < 3 by omega) (zc16 ..) 0 (by decide) rfl wf_7_235 dX7_requireEntry_15 ?_
  refine z_iload_n C 18 dX7_requireEntry_18 rfl 3 rfl ?_
  refine z_aald C 19 (show a.toNat < 3 by omega) (zc17 ..) rfl (by first | assumption | omega) (by omega) (show b < ((8 : Nat) : Int) by omega) dX7_requireEntry_19 ?_
  refine z_ent ?_; intro zp6 ezp6
  refine zx_aret C 20 dX7_requireEntry_20 (by decide) (by decide) ?_
  exact ⟨rfl, by rw [ezp6]; rfl, by omega, by omega, by omega⟩
set_option maxHeartbeats 4000000 in
set_option maxRecDepth 100000 in
theorem c_X7_requireLocator (l : Launch) (hfl : l.stackTraces = false) (G : zG) (M : zMem) (i : Nat) (hi : i < 24) (hn : 0 ≤ zV M 5 i 3 ∧ zV M 5 i 3 ≤ 4) (a : Int) (ha : zrg a) : vx_Met l yX7_requireLocator [.code yX7_requireLocator cX7_requireLocator 3 (some .int)] (zR 7 2 12) (zPc G M [.ref (zad G 3 i), .int (zI a)]) (zQi G (fun x M' => M = M' ∧ zV M 3 i 3 = 0 ∧ zloc M i a ∧ 0 ≤ x ∧ x < zV M 5 i 3 ∧ zV M 6 i x.toNat = a)) (zX G M (fun E => (E = xISE ∧ ¬ (zV M 3 i 3 = 0 ∧ zloc M i a)))) 2 12 (zA G) := by
  refine zx_met [(0, .ref (zad G 3 i)), (1, .int (zI a))] (by decide) (Nat.le_of_ble_eq_true rfl) rfl ?_
  intro p e s m below meth c C hT
  have C : zC p s m ([.ref (zad G 3 i), .int (zI a)] : List Value).toArray meth c G RX7 cX7_requireLocator 3 (some .int) := C
  refine z_aload_n C 0 dX7_requireLocator_0 rfl 0 rfl ?_
  refine zx_callSv C hT 1 (As := [.ref (zad G 3 i)]) (rest := []) (c_X7_requireRegistered l hfl G M i hi) (zS_of 1 C wm_7_83 wc_X7_requireRegistered wini_7 wst_X7_requireRegistered ⟨by decide, by decide, by decide⟩ ⟨by decide, by decide⟩) rfl (Nat.le_of_ble_eq_true rfl) ⟨by decide, by decide⟩ dX7_requireLocator_1 rfl (by decide) (by decide) (fun E h => ⟨h.1, fun z => h.2 z.1⟩) (fun Mz2 hPz1 => ?_)
  refine zZ_cs (k := 1) (n := 6) (by decide) (by decide) ?_
  obtain ⟨rfl, hPz1⟩ := hPz1
  refine z_aload_n C 4 dX7_requireLocator_4 rfl 0 rfl ?_
  refine z_get C 5 zcl2 (show i < 24 by omega) (zc3 ..) 1 (by decide) rfl wf_7_103 dX7_requireLocator_5 ?_
  refine z_iload_n C 8 dX7_requireLocator_8 rfl 1 rfl ?_
  refine z_callVi C 9 (As := [.int (zI a)]) (rest := []) (c_X1_placeOf_5 l G M i hi hn a ha) zcl1 (show i < 24 by omega) (zc5 ..) (zW_of 1 C wm_7_110 wc_X1_placeOf wini_1 wi_X1_placeOf wse_X1_placeOf ⟨by decide, by decide, by decide⟩ ⟨by decide, by decide⟩) rfl (Nat.le_of_ble_eq_true rfl) ⟨by decide, by decide⟩ dX7_requireLocator_9 rfl (fun zq3 Mz4 hzq3 hPz3 => ?_)
  obtain ⟨rfl, hPz3⟩ := hPz3
  refine z_istore_n (lv' := [(2, .int (zI zq3)), (0, .ref (zad G 3 i)), (1, .int (zI a))]) C 12 dX7_requireLocator_12 rfl (by decide) rfl ?_
  refine z_iload_n C 13 dX7_requireLocator_13 rfl 0 rfl ?_
  refine z_iconst C 14 dX7_requireLocator_14 ?_
  refine z_icmp_ne C 15 29 dX7_requireLocator_15 (by decide) hzq3 (by decide) (fun c15_18 => ?_) (fun c15_18 => ?_)
  · refine z_iload_n C 29 dX7_requireLocator_29 rfl 0 rfl ?_
    refine zx_iret C 30 dX7_requireLocator_30 (by decide) (by decide) hzq3 ?_
    exact ⟨rfl, by omega, zplace_y hPz3 (by assumption)⟩
  refine z_throwW C hT hfl 18 zt_ise (List.mem_of_getElem? (i := 6) rfl) dX7_requireLocator_18 dX7_requireLocator_21 dX7_requireLocator_22 dX7_requireLocator_25 dX7_requireLocator_28 ⟨by decide, by decide, by decide, by decide⟩ ⟨by decide, by decide⟩ ?_
  exact ⟨rfl, fun z => zplace_n hPz3 (by assumption) z.2⟩
set_option maxHeartbeats 4000000 in
set_option maxRecDepth 100000 in
theorem c_X7_solicit (l : Launch) (G : zG) (M : zMem) (i : Nat) (hi : i < 24) (hw : zWs M i) : Met l yX7_solicit [.code yX7_solicit cX7_solicit 3 none] (zR 3 0 0) (zPc G M [.ref (zad G 0 0), .ref (zad G 4 i)]) (zQv G (fun M' => zsolk M M' i 3)) 0 0 (zA G) := by
  refine z_met [(0, .ref (zad G 0 0)), (1, .ref (zad G 4 i))] (by decide) (Nat.le_of_ble_eq_true rfl) rfl ?_
  intro p e s m below meth c C
  have C : zC p s m ([.ref (zad G 0 0), .ref (zad G 4 i)] : List Value).toArray meth c G RX7 cX7_solicit 3 none := C
  refine z_iconst C 0 dX7_solicit_0 ?_
  refine z_istore_n (lv' := [(2, .int (zI 0)), (0, .ref (zad G 0 0)), (1, .ref (zad G 4 i))]) C 1 dX7_solicit_1 rfl (by decide) rfl ?_
  have L2_1 : ∀ (kz1 : Nat) (M1 : zMem) (k : Int), (0 ≤ k ∧ k ≤ 3) → (zsolk M M1 i k) → (3 - k) < (kz1 : Int) → zZ p l e (zR 3 0 0) s m ([.ref (zad G 0 0), .ref (zad G 4 i)] : List Value).toArray below meth c G 3 (MQ below (zQv G (fun M' => zsolk M M' i 3)) ([.ref (zad G 0 0), .ref (zad G 4 i)] : List Value).toArray s 0 0 (zA G)) M1 0 0 2 [(0, .ref (zad G 0 0)), (1, .ref (zad G 4 i)), (2, .int (zI k))] [] := by
    intro kz1
    induction kz1 with
    | zero =>
      intro M1 k g0 g1 hk
      exact absurd hk (by omega)
    | succ kz1 ihz2 =>
      intro M1 k g0 g1 hk
      have hw1 := zWs_sk hw g0 g1
      refine z_iload_n C 2 dX7_solicit_2 rfl 2 rfl ?_
      refine z_iconst C 3 dX7_solicit_3 ?_
      refine z_icmp_ge C 4 32 dX7_solicit_4 (by decide) (by first | assumption | omega) (by decide) (fun c4_19 => ?_) (fun c4_19 => ?_)
      · refine z_vret C 32 dX7_solicit_32 (by decide) (by decide) ?_
        rw [show (3 : Int) = k by omega]
        exact g1
      refine z_aload_n C 7 dX7_solicit_7 rfl 0 rfl ?_
      refine z_dup C 8 dX7_solicit_8 rfl ?_
      refine z_getI C 9 zcl7 (show 0 < 1 by omega) (zc0 ..) 6 (by decide) rfl wf_7_39 dX7_solicit_9 (fun zq3 ezq3 hzq3 => ?_)
      refine z_aload_n C 12 dX7_solicit_12 rfl 0 rfl ?_
      refine z_get C 13 zcl7 (show 0 < 1 by omega) (zc0 ..) 2 (by decide) rfl wf_7_25 dX7_solicit_13 ?_
      refine z_iload_n C 16 dX7_solicit_16 rfl 2 rfl ?_
      refine z_aald C 17 (show 0 < 1 by omega) (zc15 ..) rfl (by first | assumption | omega) (by omega) (show k < ((3 : Nat) : Int) by omega) dX7_solicit_17 ?_
      refine z_aload_n C 18 dX7_solicit_18 rfl 1 rfl ?_
      refine z_callVi C 19 (As := [.ref (zad G 4 i)]) (rest := [.int (zI zq3), .ref (zad G 0 0)]) (c_X5_solicitMeeting l G M1 k.toNat (by omega) (hw1.1 _ (by omega)) hw1.2.1 i hi hw1.2.2) zcl5 (show k.toNat < 3 by omega) (zc16 ..) (zW_of 1 C wm_7_225 wc_X5_solicitMeeting wini_5 wi_X5_solicitMeeting wse_X5_solicitMeeting ⟨by decide, by decide, by decide⟩ ⟨by decide, by decide⟩) rfl (Nat.le_of_ble_eq_true rfl) ⟨by decide, by decide⟩ dX7_solicit_19 rfl (fun zq4 Mz5 hzq4 hPz4 => ?_)
      refine z_iadd C 22 dX7_solicit_22 ?_
      refine z_putI C 23 zcl7 (show 0 < 1 by omega) (zc0 ..) 6 (by decide) wf_7_39 rfl rfl rfl (Nat.le_of_ble_eq_true rfl) (zc0 ..) dX7_solicit_23 ?_
      refine z_iinc (lv' := [(2, .int (zI (k + 1))), (0, .ref (zad G 0 0)), (1, .ref (zad G 4 i))]) C 26 dX7_solicit_26 2 rfl (by decide) rfl ?_
      refine z_goto C 29 2 dX7_solicit_29 (by decide) ?_
      refine z_sub (lv' := [(0, .ref (zad G 0 0)), (1, .ref (zad G 4 i)), (2, .int (zI (k + 1)))]) [1, 2, 0] rfl ?_
      exact ihz2 (zup Mz5 0 0 6 (zI (zq3 + zq4))) (k + 1) (by omega) (by exact zsolk_1 hw.1 hw.2.2.2 (by omega) (by omega) g1 hPz4 ezq3) (by omega)
  refine z_sub (lv' := [(0, .ref (zad G 0 0)), (1, .ref (zad G 4 i)), (2, .int (zI 0))]) [1, 2, 0] rfl ?_
  exact L2_1 (((3 - 0 : Int)).toNat + 1) M 0 (by omega) (by exact zsolk_0 M i) (by omega)
set_option maxHeartbeats 4000000 in
set_option maxRecDepth 100000 in
theorem c_X7_tellChange (l : Launch) (G : zG) (M : zMem) (i : Nat) (hi : i < 24) (hw : zWs M i) : Met l yX7_tellChange [.code yX7_tellChange cX7_tellChange 2 (some .int)] (zR 4 0 0) (zPc G M [.ref (zad G 0 0), .ref (zad G 3 i)]) (zQi G (fun x M' => x = zw (zV M 3 i 2 + 1) ∧ zsolk (zup M 3 i 2 (zI (zV M 3 i 2 + 1))) M' i 3)) 0 0 (zA G) := by
  refine z_met [(0, .ref (zad G 0 0)), (1, .ref (zad G 3 i))] (by decide) (Nat.le_of_ble_eq_true rfl) rfl ?_
  intro p e s m below meth c C
  have C : zC p s m ([.ref (zad G 0 0), .ref (zad G 3 i)] : List Value).toArray meth c G RX7 cX7_tellChange 2 (some .int) := C
  refine z_aload_n C 0 dX7_tellChange_0 rfl 1 rfl ?_
  refine z_dup C 1 dX7_tellChange_1 rfl ?_
  refine z_getI C 2 zcl2 (show i < 24 by omega) (zc3 ..) 2 (by decide) rfl wf_7_144 dX7_tellChange_2 (fun zq1 ezq1 hzq1 => ?_)
  refine z_iconst C 5 dX7_tellChange_5 ?_
  refine z_iadd C 6 dX7_tellChange_6 ?_
  refine z_putI C 7 zcl2 (show i < 24 by omega) (zc3 ..) 2 (by decide) wf_7_144 rfl rfl rfl (Nat.le_of_ble_eq_true rfl) (zc3 ..) dX7_tellChange_7 ?_
  refine z_aload_n C 10 dX7_tellChange_10 rfl 0 rfl ?_
  refine z_aload_n C 11 dX7_tellChange_11 rfl 1 rfl ?_
  refine z_get C 12 zcl2 (show i < 24 by omega) (zc3 ..) 0 (by decide) rfl wf_7_69 dX7_tellChange_12 ?_
  refine z_callVv C 15 (As := [.ref (zad G 4 i)]) (rest := []) (c_X7_solicit l G (zup M 3 i 2 (zI (zq1 + 1))) i hi (zWs_up hw (by decide))) zcl7 (show 0 < 1 by omega) (zc0 ..) (zW_of 1 C wm_7_75 wc_X7_solicit wini_7 wi_X7_solicit wse_X7_solicit ⟨by decide, by decide, by decide⟩ ⟨by decide, by decide⟩) rfl (Nat.le_of_ble_eq_true rfl) ⟨by decide, by decide⟩ dX7_tellChange_15 rfl (fun Mz3 hPz2 => ?_)
  refine z_aload_n C 18 dX7_tellChange_18 rfl 1 rfl ?_
  refine z_getI C 19 zcl2 (show i < 24 by omega) (zc3 ..) 2 (by decide) rfl wf_7_144 dX7_tellChange_19 (fun zq4 ezq4 hzq4 => ?_)
  refine z_iret C 22 dX7_tellChange_22 (by decide) (by decide) hzq4 ?_
  obtain rfl := ezq1
  refine ⟨?_, hPz2⟩
  rw [ezq4, zV_of (hPz2.2.2.2 3 i 2 (by omega) (by omega)), zV_upw]
