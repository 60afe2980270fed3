/-! ===== the world at the law's entry ===== -/
theorem arr_known {s : State} {A : Array Value} {ty : FieldType} (h : (Cond.arrayClass ty).before A s = true) : ∃ cA, ArrOfT s cA ty ∧ s.vm.findClass ("[" ++ ty.toString) = some cA := by
  obtain ⟨cA, k, comp, h1, h2, h3⟩ := Cond.arrayClass_spec h
  exact ⟨cA, fun N z => ⟨fun q hq => (by cases hq), k, h2, comp, h3⟩, h1⟩
set_option maxHeartbeats 4000000 in
set_option maxRecDepth 20000 in
theorem kk_start {p : Program} {s : State} {m : MethodId} {meth : Method} {c : Code} {b L : Nat} {xs : Nat → Int32} (C0 : lw_At p s m meth c b L xs) : ∃ g sa, KK g s.heap.size sa s := by
  obtain ⟨hx, hb, hr, hml, hown, hts, hX, hbl, hlocks, hgv⟩ := id C0
  have hfl := flat_of_before _ hgv
  have hA : ∀ a : Nat, a < s.heap.size → ¬ Ab s.heap.size a := fun a h w => absurd w (Nat.not_le.mpr h)
  obtain ⟨c0, d0, k0⟩ := u_known (C := RX0) (T := TX0) (N := 12) (n := 12) hts wsX00_in (hts (.instantiable RX0 12) (by decide +kernel))
  obtain ⟨c1, d1, k1⟩ := u_known (C := RX1) (T := TX1) (N := 7) (n := 7) hts wsX10_in (hts (.instantiable RX1 7) (by decide +kernel))
  obtain ⟨c2, d2, k2⟩ := u_known (C := RX2) (T := TX2) (N := 9) (n := 9) hts wsX20_in (hts (.instantiable RX2 9) (by decide +kernel))
  obtain ⟨c3, d3, k3⟩ := u_known (C := RX3) (T := TX3) (N := 2) (n := 2) hts wsX30_in (hts (.instantiable RX3 2) (by decide +kernel))
  obtain ⟨c4, d4, k4⟩ := u_known (C := RX4) (T := TX4) (N := 4) (n := 4) hts wsX40_in (hts (.instantiable RX4 4) (by decide +kernel))
  obtain ⟨c5, d5, k5⟩ := u_known (C := RX5) (T := TX5) (N := 3) (n := 3) hts wsX50_in (hts (.instantiable RX5 3) (by decide +kernel))
  obtain ⟨c6, d6, k6⟩ := u_known (C := RX6) (T := TX6) (N := 28) (n := 28) hts wsX60_in (hts (.instantiable RX6 28) (by decide +kernel))
  obtain ⟨ai9, ai1, ai2⟩ := arr_known (hts (.arrayClass .int) (by decide +kernel))
  obtain ⟨al9, al1, al2⟩ := arr_known (hts (.arrayClass .long) (by decide +kernel))
  obtain ⟨az9, az1, az2⟩ := arr_known (hts (.arrayClass .boolean) (by decide +kernel))
  obtain ⟨s0, e0, t0⟩ := va_Tof (tm := .static "JugsAndGlasses" "GIVER" "[I") (ty := .int) (N := 24) (f := fun j => .int (J (k_giver j))) (A := Ab s.heap.size) (by decide) (hfl _ (by decide +kernel)) (va_eqt (hfl _ (by decide +kernel))) (fun j hj => va_eqt (hfl _ (by revert j; decide +kernel))) hA
  obtain ⟨s1, e1, t1⟩ := va_Tof (tm := .static "JugsAndGlasses" "TAKER" "[I") (ty := .int) (N := 24) (f := fun j => .int (J (k_taker j))) (A := Ab s.heap.size) (by decide) (hfl _ (by decide +kernel)) (va_eqt (hfl _ (by decide +kernel))) (fun j hj => va_eqt (hfl _ (by revert j; decide +kernel))) hA
  obtain ⟨s2, e2, t2⟩ := va_Tof (tm := .static "JugsAndGlasses$Glasses" "STATES" "[I") (ty := .int) (N := 4) (f := fun j => .int (J (k_states j))) (A := Ab s.heap.size) (by decide) (hfl _ (by decide +kernel)) (va_eqt (hfl _ (by decide +kernel))) (fun j hj => va_eqt (hfl _ (by revert j; decide +kernel))) hA
  obtain ⟨s3, e3, t3⟩ := va_Tof (tm := .static "JugsAndGlasses$Glasses" "PLACE" "[I") (ty := .int) (N := 3) (f := fun j => .int (J (k_place j))) (A := Ab s.heap.size) (by decide) (hfl _ (by decide +kernel)) (va_eqt (hfl _ (by decide +kernel))) (fun j hj => va_eqt (hfl _ (by revert j; decide +kernel))) hA
  have z0 := va_Zref (C := "JugsAndGlasses") (n := "GIVER") (d := "[I") (A := Ab s.heap.size) (hts _ (by decide +kernel)) (hts (.initialized "JugsAndGlasses") (by decide +kernel)) e0 hA
  have z1 := va_Zref (C := "JugsAndGlasses") (n := "TAKER") (d := "[I") (A := Ab s.heap.size) (hts _ (by decide +kernel)) (hts (.initialized "JugsAndGlasses") (by decide +kernel)) e1 hA
  have z2 := va_Zref (C := "JugsAndGlasses$Glasses") (n := "STATES") (d := "[I") (A := Ab s.heap.size) (hts _ (by decide +kernel)) (hts (.initialized "JugsAndGlasses$Glasses") (by decide +kernel)) e2 hA
  have z3 := va_Zref (C := "JugsAndGlasses$Glasses") (n := "PLACE") (d := "[I") (A := Ab s.heap.size) (hts _ (by decide +kernel)) (hts (.initialized "JugsAndGlasses$Glasses") (by decide +kernel)) e3 hA
  have hNK : NK s := ⟨va_Nw.of rfl (hts (nestM "JugsAndGlasses" 9 "JugsAndGlasses$Search" "<init>" "()V") (by decide +kernel)), va_Nw.of rfl (hts (nestM "JugsAndGlasses$Search" 11 "JugsAndGlasses$Jugs" "<init>" "()V") (by decide +kernel)), va_Nw.of rfl (hts (nestM "JugsAndGlasses$Search" 23 "JugsAndGlasses$Tour" "<init>" "()V") (by decide +kernel)), va_Nw.of rfl (hts (nestM "JugsAndGlasses$Search" 33 "JugsAndGlasses$Spilling" "<init>" "()V") (by decide +kernel)), va_Nw.of rfl (hts (nestM "JugsAndGlasses" 23 "JugsAndGlasses$Glasses" "<init>" "()V") (by decide +kernel)), va_Nw.of rfl (hts (nestM "JugsAndGlasses$Tour" 25 "JugsAndGlasses" "lengthFor" "(II)I") (by decide +kernel)), va_Nw.of rfl (hts (nestF "JugsAndGlasses$Jugs" 35 "GIVER") (by decide +kernel)), va_Nw.of rfl (hts (nestF "JugsAndGlasses$Jugs" 38 "TAKER") (by decide +kernel))⟩
  refine ⟨((fun k => match k with | 0 => c0 | 1 => c1 | 2 => c2 | 3 => c3 | 4 => c4 | 5 => c5 | _ => c6, fun k => match k with | 0 => d0 | 1 => d1 | 2 => d2 | 3 => d3 | 4 => d4 | 5 => d5 | _ => d6), fun k => match k with | 0 => ai9 | 1 => al9 | _ => az9), (fun k => match k with | 0 => s0 | 1 => s1 | 2 => s2 | _ => s3), ⟨fun k q hq => ?_, fun k q hq => ?_⟩, Nat.le_refl _, ⟨z0, t0⟩, ⟨z1, t1⟩, ⟨z2, t2⟩, ⟨z3, t3⟩, hNK⟩
  · match k, hq with
    | 0, hq => cases hq; exact k0
    | 1, hq => cases hq; exact k1
    | 2, hq => cases hq; exact k2
    | 3, hq => cases hq; exact k3
    | 4, hq => cases hq; exact k4
    | 5, hq => cases hq; exact k5
    | 6, hq => cases hq; exact k6
    | k + 7, hq => simp [vwCl] at hq
  · match k, hq with
    | 0, hq => cases hq; exact ⟨ai1, ai2⟩
    | 1, hq => cases hq; exact ⟨al1, al2⟩
    | 2, hq => cases hq; exact ⟨az1, az2⟩
    | k + 3, hq => simp [tyL] at hq
