/-! statics -/
set_option maxHeartbeats 8000000 in
set_option maxRecDepth 100000 in
theorem law_statics {b : Nat} {s : State} (hts : ∀ w ∈ lw_tbl, w.before #[Value.ref b] s = true) (hgv : (Jvm.Cond.and given_1 narrow_1).before #[Value.ref b] s = true) : ∃ g : GG, va_K g.1 vwCl (tyG g) s ∧ Zh g (lwA s) s s.heap ∧ Nw2 g s := by
  have hs := flat_of_before _ hgv
  have hA : ∀ a : Nat, a < s.heap.size → ¬ lwA s a := fun a h z => by have : s.heap.size ≤ a := z; omega
  obtain ⟨c0, i0, hKn0⟩ := u_known (C := RX0) (T := TX0) (N := 6) (n := 6) hts inX0 (hts (.instantiable RX0 6) (by decide +kernel))
  obtain ⟨c1, i1, hKn1⟩ := u_known (C := RX1) (T := TX1) (N := 3) (n := 3) hts inX1 (hts (.instantiable RX1 3) (by decide +kernel))
  obtain ⟨c2, i2, hKn2⟩ := u_known (C := RX2) (T := TX2) (N := 11) (n := 11) hts inX2 (hts (.instantiable RX2 11) (by decide +kernel))
  obtain ⟨c3, i3, hKn3⟩ := u_known (C := RX3) (T := TX3) (N := 6) (n := 6) hts inX3 (hts (.instantiable RX3 6) (by decide +kernel))
  obtain ⟨c4, i4, hKn4⟩ := u_known (C := RX4) (T := TX4) (N := 4) (n := 4) hts inX4 (hts (.instantiable RX4 4) (by decide +kernel))
  obtain ⟨c5, i5, hKn5⟩ := u_known (C := RX5) (T := TX5) (N := 8) (n := 8) hts inX5 (hts (.instantiable RX5 8) (by decide +kernel))
  obtain ⟨c6, i6, hKn6⟩ := u_known (C := RX6) (T := TX6) (N := 17) (n := 17) hts inX6 (hts (.instantiable RX6 17) (by decide +kernel))
  obtain ⟨dC, dI, hKc⟩ : ∃ (dC : Nat → ClassId) (dI : Nat → Nat → Nat), ∀ (k : Nat) (q : vw_C), vwCl[k]? = some q → u_Kn s q.1 q.2.1 q.2.2 (dC k) (dI k) := by
    refine ⟨fun k => if k = 0 then c0 else if k = 1 then c1 else if k = 2 then c2 else if k = 3 then c3 else if k = 4 then c4 else if k = 5 then c5 else c6, fun k => if k = 0 then i0 else if k = 1 then i1 else if k = 2 then i2 else if k = 3 then i3 else if k = 4 then i4 else if k = 5 then i5 else i6, ?_⟩
    intro k q hq
    match k, hq with
    | 0, hq => cases hq; exact hKn0
    | 1, hq => cases hq; exact hKn1
    | 2, hq => cases hq; exact hKn2
    | 3, hq => cases hq; exact hKn3
    | 4, hq => cases hq; exact hKn4
    | 5, hq => cases hq; exact hKn5
    | 6, hq => cases hq; exact hKn6
    | k + 7, hq => simp [vwCl] at hq
  obtain ⟨cI, kI, mI, a1, a2, a3⟩ := Cond.arrayClass_spec (hts (.arrayClass .int) (by decide +kernel))
  obtain ⟨cB, kB, mB, b1, b2, b3⟩ := Cond.arrayClass_spec (hts (.arrayClass .byte) (by decide +kernel))
  obtain ⟨mR, cR, kR, d1, d2, d3, d4, d5⟩ := Cond.arrayOver_spec (hts (.arrayOver (.object "EmptyBarrow$Resident")) (by decide +kernel))
  obtain ⟨mS, cS, kS, e1, e2, e3, e4, e5⟩ := Cond.arrayOver_spec (hts (.arrayOver (.object "EmptyBarrow$Sheet")) (by decide +kernel))
  have hK : va_K (dC, dI) vwCl [(cI, .int), (cB, .byte), (cR, .object "EmptyBarrow$Resident"), (cS, .object "EmptyBarrow$Sheet")] s := by
    refine ⟨hKc, fun k q hq => ?_⟩
    match k, hq with
    | 0, hq => cases hq; exact ⟨fun n z => ⟨fun k h => (by cases h), kI, a2, mI, a3⟩, a1⟩
    | 1, hq => cases hq; exact ⟨fun n z => ⟨fun k h => (by cases h), kB, b2, mB, b3⟩, b1⟩
    | 2, hq => cases hq; exact ⟨fun n z => ⟨fun k h => (by cases h), kR, d3, mR, d4⟩, kR, mR, d3, d4, d1, d5⟩
    | 3, hq => cases hq; exact ⟨fun n z => ⟨fun k h => (by cases h), kS, e3, mS, e4⟩, kS, mS, e3, e4, e1, e5⟩
    | k + 4, hq => simp at hq
  obtain ⟨t0, ev0, T0⟩ := va_Tof (N := 3) (f := fun j => .int (tbC.getD j 0)) (tm := .static "EmptyBarrow" "TOP_OF_CRIER" "[I") (ty := .int) (A := lwA s) (by decide) (hs _ (by decide +kernel)) (va_eqt (hs _ (by decide +kernel))) (fun j hj => by
    match j, hj with
    | 0, _ => exact va_eqt (hs _ (by decide +kernel))
    | 1, _ => exact va_eqt (hs _ (by decide +kernel))
    | 2, _ => exact va_eqt (hs _ (by decide +kernel))
    | j + 3, hj => exact absurd hj (by omega)) hA
  have Z0 : va_Z RX5 "TOP_OF_CRIER" "[I" (.ref t0) (lwA s) s s.heap := va_Zof (hts _ (by decide +kernel)) (hts _ (by decide +kernel)) ev0 hA
  obtain ⟨t1, ev1, T1⟩ := va_Tof (N := 6) (f := fun j => .int (tbO.getD j 0)) (tm := .static "EmptyBarrow" "TOP_OF" "[I") (ty := .int) (A := lwA s) (by decide) (hs _ (by decide +kernel)) (va_eqt (hs _ (by decide +kernel))) (fun j hj => by
    match j, hj with
    | 0, _ => exact va_eqt (hs _ (by decide +kernel))
    | 1, _ => exact va_eqt (hs _ (by decide +kernel))
    | 2, _ => exact va_eqt (hs _ (by decide +kernel))
    | 3, _ => exact va_eqt (hs _ (by decide +kernel))
    | 4, _ => exact va_eqt (hs _ (by decide +kernel))
    | 5, _ => exact va_eqt (hs _ (by decide +kernel))
    | j + 6, hj => exact absurd hj (by omega)) hA
  have Z1 : va_Z RX5 "TOP_OF" "[I" (.ref t1) (lwA s) s s.heap := va_Zof (hts _ (by decide +kernel)) (hts _ (by decide +kernel)) ev1 hA
  obtain ⟨t2, ev2, T2⟩ := va_Tof (N := 7) (f := fun j => .int (tbA.getD j 0)) (tm := .static "EmptyBarrow" "ABOVE" "[I") (ty := .int) (A := lwA s) (by decide) (hs _ (by decide +kernel)) (va_eqt (hs _ (by decide +kernel))) (fun j hj => by
    match j, hj with
    | 0, _ => exact va_eqt (hs _ (by decide +kernel))
    | 1, _ => exact va_eqt (hs _ (by decide +kernel))
    | 2, _ => exact va_eqt (hs _ (by decide +kernel))
    | 3, _ => exact va_eqt (hs _ (by decide +kernel))
    | 4, _ => exact va_eqt (hs _ (by decide +kernel))
    | 5, _ => exact va_eqt (hs _ (by decide +kernel))
    | 6, _ => exact va_eqt (hs _ (by decide +kernel))
    | j + 7, hj => exact absurd hj (by omega)) hA
  have Z2 : va_Z RX5 "ABOVE" "[I" (.ref t2) (lwA s) s s.heap := va_Zof (hts _ (by decide +kernel)) (hts _ (by decide +kernel)) ev2 hA
  obtain ⟨aK, aV, hStr, hev⟩ := vk_Sof (N := 15) (tm := fun i => .string "EmptyBarrow$TextReader" (wdE.getD i 0)) (len := wdN) (byt := wdB) (A := lwA s) (by decide +kernel) (fun i hi => hs _ (fl_ex i hi)) (fun i hi => hs _ (fl_co i hi)) (fun i hi => hs _ (fl_ar i hi)) (fun i hi => hs _ (fl_le i hi)) (fun i hi j hj => hs _ (fl_el i hi j hj)) (fun i j hi hj hne => (fl_ne i hi j hj hne).imp (fun h => hs _ h) (fun h => hs _ h)) hA
  have ZC : va_Z "java/lang/String" "COMPACT_STRINGS" "Z" (.int 1) (lwA s) s s.heap := va_Zof (hts _ (by decide +kernel)) (hts _ (by decide +kernel)) (va_eqi (hs _ (by decide +kernel))) hA
  have ZQ : va_Zq "jdk/internal/util/Preconditions" "SIOOBE_FORMATTER" "Ljava/util/function/BiFunction;" (lwA s) s s.heap := va_Zqof (hts _ (by decide +kernel)) (hts _ (by decide +kernel)) (hs _ (by decide +kernel)) hA
  refine ⟨((dC, dI), ((cI, cB), (cR, cS)), (fun _ => 0), (aK, aV), (fun j => if j = 0 then t0 else if j = 1 then t1 else t2)), hK, ⟨⟨Z0, T0⟩, ⟨Z1, T1⟩, ⟨Z2, T2⟩, hStr, ZC, ZQ⟩, ⟨⟨va_Nw.of rfl (hts _ (by decide +kernel)), va_Nw.of rfl (hts _ (by decide +kernel)), va_Nw.of rfl (hts _ (by decide +kernel)), va_Nw.of rfl (hts _ (by decide +kernel)), va_Nw.of rfl (hts _ (by decide +kernel)), va_Nw.of rfl (hts _ (by decide +kernel)), fun i hi => vk_R.of (hts _ (tb_sr i hi)) (hev i hi)⟩, va_AO.of (hts _ (by decide +kernel)), va_AO.of (hts _ (by decide +kernel))⟩⟩
