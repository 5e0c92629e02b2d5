/-- from the entry to the end -/
theorem whole_start {p : Program} {e : Env} {s : State} {m : MethodId} {below : List Frame} {meth : Method} {c : Code} (l : Launch) (hflags : l.flags = flags0) {b L : Nat} {xs : Nat → Int32} (hL : L ≤ 2560) (C0 : lw_At p s m meth c b L xs) : W p l e room_1 s m #[Value.ref b] below meth c s.heap [] 0 0 (lw_Z below #[Value.ref b] s) (entryFrame m ([Value.ref b] : List Value).toArray 7) := by
  have hfl := zflags hflags
  obtain ⟨hx, hb, hr, hml, hown, hts, hX, hbl, hlocks, hgv⟩ := id C0
  refine law_begin l C0 (fun G hG C hNC => ?_)
  have h := law_loop (e := e) (below := below) (INV := iI) C hNC hX hbl hG hL (sim0 l hfl G) (sim1 l hfl G) (sim2 l hfl G) (sim3 l hfl G) (sim4 l hfl G) (sim5 l hfl G) (sim6 l hfl G) (sim7 l hfl G) (sim8 l hfl G) (sim9 l hfl G) (sim10 l hfl G) (sim11 l hfl G) (sim12 l hfl G) (sim13 l hfl G) (sim14 l hfl G) (sim15 l hfl G) (sim16 l hfl G) (sim17 l hfl G) (sim18 l hfl G) (sim19 l hfl G) (sim20 l hfl G) sim21 simN 513 0 zM0 iN_0 (by omega) (by omega)
  exact h
