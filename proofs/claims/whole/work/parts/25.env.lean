theorem fs_ND_in : ∀ y ∈ fs_ND, Cond.declares y ∈ lw_tbl := List.forall_mem_cons.mpr ⟨fs_tb1 174 rfl, List.forall_mem_cons.mpr ⟨fs_tb1 176 rfl, List.forall_mem_cons.mpr ⟨fs_tb1 178 rfl, fun _ h => absurd h List.not_mem_nil⟩⟩⟩
set_option maxHeartbeats 4000000 in
set_option maxRecDepth 100000 in
/-- what the walks stand on, at the law's entry -/
theorem fs_env0 {s : State} {b : Nat} (hts : ∀ w ∈ lw_tbl, w.before #[Value.ref b] s = true) (hgv : (Jvm.Cond.and given_1 narrow_1).before #[Value.ref b] s = true) : ∃ X : fs_X, X.2.1 = s.heap.size ∧ fs_Env X s := by
  have htG : ∀ w ∈ fs_G, w.before #[Value.ref b] s = true := fun w hw => hts w (fs_G_sub w hw)
  have hfl := flat_of_before _ hgv
  obtain ⟨c0, i0, g0⟩ := u_known (C := RX0) (T := TX0) (N := 3) (n := 3) htG in_0 (htG _ mw_46)
  obtain ⟨c1, i1, g1⟩ := u_known (C := RX1) (T := TX1) (N := 5) (n := 5) htG in_1 (htG _ mw_31)
  obtain ⟨c2, i2, g2⟩ := u_known (C := RX2) (T := TX2) (N := 2) (n := 2) htG in_2 (htG _ mw_21)
  obtain ⟨c3, i3, g3⟩ := u_known (C := RX3) (T := TX3) (N := 3) (n := 3) htG in_3 (htG _ mw_57)
  obtain ⟨c4, i4, g4⟩ := u_known (C := RX4) (T := TX4) (N := 4) (n := 4) htG in_4 (htG _ mw_13)
  obtain ⟨c5, i5, g5⟩ := u_known (C := RX5) (T := TX5) (N := 10) (n := 10) htG in_5 (htG _ mw_302)
  obtain ⟨dC, dI, hKc⟩ : ∃ (dC : Nat → ClassId) (dI : Nat → Nat → Nat), ∀ (k : Nat) (q : vw_C), vwCl[k]? = some q → u_Kn s q.1 q.2.1 q.2.2 (dC k) (dI k) := by
    refine ⟨fun k => if k = 0 then c0 else if k = 1 then c1 else if k = 2 then c2 else if k = 3 then c3 else if k = 4 then c4 else c5, fun k => if k = 0 then i0 else if k = 1 then i1 else if k = 2 then i2 else if k = 3 then i3 else if k = 4 then i4 else i5, ?_⟩
    intro k q hq
    match k, hq with
    | 0, hq => cases hq; exact g0
    | 1, hq => cases hq; exact g1
    | 2, hq => cases hq; exact g2
    | 3, hq => cases hq; exact g3
    | 4, hq => cases hq; exact g4
    | 5, hq => cases hq; exact g5
    | k + 6, hq => simp [vwCl] at hq
  obtain ⟨cI, kI, mI, hI1, hI2, hI3⟩ := Cond.arrayClass_spec (htG _ mw_29)
  obtain ⟨cJ, kJ, mJ, hJ1, hJ2, hJ3⟩ := Cond.arrayClass_spec (htG _ mw_327)
  have hov : (Cond.arrayOver (.object "FixedSignals$Stage")).before #[Value.ref b] s = true := hts _ (fs_tb1 36 rfl)
  obtain ⟨comp, cS, kS, hS1, hS2, hS3, hS4, hS5⟩ := Cond.arrayOver_spec hov
  have hA : ∀ a : Nat, a < s.heap.size → ¬ (fun q : Nat => s.heap.size ≤ q) a := fun a h => Nat.not_le.mpr h
  have eQ : ∀ j : Nat, j < 9 → (Term.elem (.static "FixedSignals$Block" "QUARTER" "[I") (.int (Int32.ofNat j))).eval #[Value.ref b] s none [] s = some (.int (fs_C j)) := by
    intro j hj
    match j, hj with
    | 0, _ => exact va_eqt (z := fs_C 0) (hfl _ (by decide +kernel))
    | 1, _ => exact va_eqt (z := fs_C 1) (hfl _ (by decide +kernel))
    | 2, _ => exact va_eqt (z := fs_C 2) (hfl _ (by decide +kernel))
    | 3, _ => exact va_eqt (z := fs_C 3) (hfl _ (by decide +kernel))
    | 4, _ => exact va_eqt (z := fs_C 4) (hfl _ (by decide +kernel))
    | 5, _ => exact va_eqt (z := fs_C 5) (hfl _ (by decide +kernel))
    | 6, _ => exact va_eqt (z := fs_C 6) (hfl _ (by decide +kernel))
    | 7, _ => exact va_eqt (z := fs_C 7) (hfl _ (by decide +kernel))
    | 8, _ => exact va_eqt (z := fs_C 8) (hfl _ (by decide +kernel))
    | k + 9, h => exact absurd h (by omega)
  have eA : ∀ j : Nat, j < 30 → (Term.elem (.static "FixedSignals$Turner" "ARCS" "[I") (.int (Int32.ofNat j))).eval #[Value.ref b] s none [] s = some (.int (fs_arc j)) := by
    intro j hj
    match j, hj with
    | 0, _ => exact va_eqt (z := fs_arc 0) (hfl _ (by decide +kernel))
    | 1, _ => exact va_eqt (z := fs_arc 1) (hfl _ (by decide +kernel))
    | 2, _ => exact va_eqt (z := fs_arc 2) (hfl _ (by decide +kernel))
    | 3, _ => exact va_eqt (z := fs_arc 3) (hfl _ (by decide +kernel))
    | 4, _ => exact va_eqt (z := fs_arc 4) (hfl _ (by decide +kernel))
    | 5, _ => exact va_eqt (z := fs_arc 5) (hfl _ (by decide +kernel))
    | 6, _ => exact va_eqt (z := fs_arc 6) (hfl _ (by decide +kernel))
    | 7, _ => exact va_eqt (z := fs_arc 7) (hfl _ (by decide +kernel))
    | 8, _ => exact va_eqt (z := fs_arc 8) (hfl _ (by decide +kernel))
    | 9, _ => exact va_eqt (z := fs_arc 9) (hfl _ (by decide +kernel))
    | 10, _ => exact va_eqt (z := fs_arc 10) (hfl _ (by decide +kernel))
    | 11, _ => exact va_eqt (z := fs_arc 11) (hfl _ (by decide +kernel))
    | 12, _ => exact va_eqt (z := fs_arc 12) (hfl _ (by decide +kernel))
    | 13, _ => exact va_eqt (z := fs_arc 13) (hfl _ (by decide +kernel))
    | 14, _ => exact va_eqt (z := fs_arc 14) (hfl _ (by decide +kernel))
    | 15, _ => exact va_eqt (z := fs_arc 15) (hfl _ (by decide +kernel))
    | 16, _ => exact va_eqt (z := fs_arc 16) (hfl _ (by decide +kernel))
    | 17, _ => exact va_eqt (z := fs_arc 17) (hfl _ (by decide +kernel))
    | 18, _ => exact va_eqt (z := fs_arc 18) (hfl _ (by decide +kernel))
    | 19, _ => exact va_eqt (z := fs_arc 19) (hfl _ (by decide +kernel))
    | 20, _ => exact va_eqt (z := fs_arc 20) (hfl _ (by decide +kernel))
    | 21, _ => exact va_eqt (z := fs_arc 21) (hfl _ (by decide +kernel))
    | 22, _ => exact va_eqt (z := fs_arc 22) (hfl _ (by decide +kernel))
    | 23, _ => exact va_eqt (z := fs_arc 23) (hfl _ (by decide +kernel))
    | 24, _ => exact va_eqt (z := fs_arc 24) (hfl _ (by decide +kernel))
    | 25, _ => exact va_eqt (z := fs_arc 25) (hfl _ (by decide +kernel))
    | 26, _ => exact va_eqt (z := fs_arc 26) (hfl _ (by decide +kernel))
    | 27, _ => exact va_eqt (z := fs_arc 27) (hfl _ (by decide +kernel))
    | 28, _ => exact va_eqt (z := fs_arc 28) (hfl _ (by decide +kernel))
    | 29, _ => exact va_eqt (z := fs_arc 29) (hfl _ (by decide +kernel))
    | k + 30, h => exact absurd h (by omega)
  obtain ⟨tQ, hq1, hq2⟩ := va_Tof (tm := .static "FixedSignals$Block" "QUARTER" "[I") (ty := .int) (N := 9) (f := fun j => .int (fs_C j)) (A := fun q : Nat => s.heap.size ≤ q) (by decide) (hfl _ (by decide +kernel)) (va_eqt (z := Int32.ofNat 9) (hfl _ (by decide +kernel))) eQ hA
  obtain ⟨tA, ha1, ha2⟩ := va_Tof (tm := .static "FixedSignals$Turner" "ARCS" "[I") (ty := .int) (N := 30) (f := fun j => .int (fs_arc j)) (A := fun q : Nat => s.heap.size ≤ q) (by decide) (hfl _ (by decide +kernel)) (va_eqt (z := Int32.ofNat 30) (hfl _ (by decide +kernel))) eA hA
  refine ⟨((dC, dI), s.heap.size, cI, cJ, cS, tQ, tA), rfl, ⟨hKc, ?_⟩, ⟨fun q hq => va_Nw.of rfl (hts _ (fs_NM_in q hq)), fun q hq => va_Nw.of rfl (hts _ (fs_NF_in q hq)), ⟨va_Nw.of rfl (hts _ (fs_tb1 173 rfl)), fun y hy => va_Nw.of rfl (hts _ (fs_ND_in y hy))⟩, va_AO.of hov⟩, ⟨va_Zref (hts _ (fs_tb2 108 rfl)) (htG _ mw_4) hq1 hA, hq2⟩, ⟨va_Zref (hts _ (fs_tb1 159 rfl)) (htG _ mw_5) ha1 hA, ha2⟩, vx_Zqof (hts _ (fs_tb1 198 rfl)) (htG _ mw_7) (hfl _ (by decide +kernel)) hA, vx_Zqof (hts _ (fs_tb1 200 rfl)) (htG _ mw_7) (hfl _ (by decide +kernel)) hA⟩
  intro k q hq
  match k, hq with
  | 0, hq => cases hq; exact ⟨fun n z => ⟨fun k h => (by cases h), kI, hI2, mI, hI3⟩, hI1⟩
  | 1, hq => cases hq; exact ⟨fun n z => ⟨fun k h => (by cases h), kJ, hJ2, mJ, hJ3⟩, hJ1⟩
  | 2, hq => cases hq; exact ⟨fun n z => ⟨fun k h => (by cases h), kS, hS3, comp, hS4⟩, kS, comp, hS3, hS4, hS1, hS5⟩
  | k + 3, hq => simp [fs_TY] at hq
