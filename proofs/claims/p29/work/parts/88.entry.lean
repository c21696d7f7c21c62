/-! ===== the law's entry: what the machine's tables and the Statement give ===== -/
def entW : List Cond := [.instantiable RX0 9, .instantiable RX1 2, .instantiable RX2 7, .instantiable RX3 8, .instantiable RX4 4, .instantiable RX5 5, .instantiable RX6 4, .arrayClass .int, .arrayClass .char, .arrayOver (.object "ParkingGarage$State"), .laysStatic RX6 "NUMBER_LEAST" "[I", .laysStatic RX6 "NUMBER_GREATEST" "[I", .initialized RX6, .classLink RL 13 RX6, .methodLink RL 89 yX6_init, .instanceMethod yX6_init]
set_option maxRecDepth 20000 in
theorem ent_in : ∀ w ∈ entW, w ∈ lw_tbl := in_places _ [29, 185, 81, 23, 119, 202, 15, 79, 224, 191, 500, 502, 5, 14, 16, 17] (by decide +kernel)
abbrev gvn : List Cond := flatC (Cond.and given_1 narrow_1)
theorem zv_l : ∀ j, j < 5 → Cond.eq (.elem (.static RX6 "NUMBER_LEAST" "[I") (.int (Int32.ofNat j))) (.int (leastF j)) ∈ gvn := by decide +kernel
theorem zv_g : ∀ j, j < 5 → Cond.eq (.elem (.static RX6 "NUMBER_GREATEST" "[I") (.int (Int32.ofNat j))) (.int (greatF j)) ∈ gvn := by decide +kernel
theorem zv_x : Cond.arrayOf (.static RX6 "NUMBER_LEAST" "[I") .int ∈ gvn ∧ Cond.eq (.length (.static RX6 "NUMBER_LEAST" "[I")) (.int (Int32.ofNat 5)) ∈ gvn ∧ Cond.arrayOf (.static RX6 "NUMBER_GREATEST" "[I") .int ∈ gvn ∧ Cond.eq (.length (.static RX6 "NUMBER_GREATEST" "[I")) (.int (Int32.ofNat 5)) ∈ gvn := by decide +kernel
section LENT
variable {s : State} {args : Array Value}
/-- the old cells that the class reads -/
theorem zs_start (hte : ∀ w ∈ entW, w.before args s = true) (hgv : (Cond.and given_1 narrow_1).before args s = true) : ∃ (tL tG : Nat) (aK aV : Nat → Nat), ZS tL tG aK aV (fun q => s.heap.size ≤ q) s s.heap := by
  have hg := flat_of_before _ hgv
  have hA : ∀ a : Nat, a < s.heap.size → ¬ (fun q : Nat => s.heap.size ≤ q) a := fun a h => Nat.not_le.mpr h
  obtain ⟨x1, x2, x3, x4⟩ := zv_x
  obtain ⟨tL, hL, hTL⟩ := va_Tof (f := fun j => .int (leastF j)) (A := fun q => s.heap.size ≤ q) (N := 5) (by decide) (hg _ x1) (va_eqt (hg _ x2)) (fun j hj => va_eqt (hg _ (zv_l j hj))) hA
  obtain ⟨tG, hG, hTG⟩ := va_Tof (f := fun j => .int (greatF j)) (A := fun q => s.heap.size ≤ q) (N := 5) (by decide) (hg _ x3) (va_eqt (hg _ x4)) (fun j hj => va_eqt (hg _ (zv_g j hj))) hA
  exact ⟨tL, tG, fun _ => 0, fun _ => 0, va_Zof (hte _ (by decide +kernel)) (hte _ (by decide +kernel)) hL hA, va_Zof (hte _ (by decide +kernel)) (hte _ (by decide +kernel)) hG hA, hTL, hTG, trivial⟩
theorem arr_start {ty : FieldType} (h : (Cond.arrayClass ty).before args s = true) : ∃ cA : ClassId, ArrOfT s cA ty ∧ s.vm.findClass ("[" ++ ty.toString) = some cA := by
  obtain ⟨cA, kA, comp, h1, h2, h3⟩ := Cond.arrayClass_spec h
  exact ⟨cA, fun n z => ⟨fun k h => (by cases h), kA, h2, comp, h3⟩, h1⟩
theorem arq_start {C : String} (h : (Cond.arrayOver (.object C)).before args s = true) : ∃ cA : ClassId, ArrOfT s cA (.object C) ∧ va_RA s cA (.object C) := by
  obtain ⟨comp, cA, kA, h1, -, h3, h4, h5⟩ := Cond.arrayOver_spec h
  exact ⟨cA, fun n z => ⟨fun k h => (by cases h), kA, h3, comp, h4⟩, kA, comp, h3, h4, h1, h5⟩
theorem kn_start (hts : ∀ w ∈ lw_tbl, w.before args s = true) : ∃ (D : va_G) (cI cC cS : ClassId), KN D (TYS cI cC cI cS) s := by
  have hte : ∀ w ∈ entW, w.before args s = true := fun w h => hts w (ent_in w h)
  obtain ⟨c0, i0, h0⟩ := u_known (C := RX0) (T := TX0) (N := 9) (n := 9) hts inX0 (hte _ (by decide +kernel))
  obtain ⟨c1, i1, h1⟩ := u_known (C := RX1) (T := TX1) (N := 2) (n := 2) hts inX1 (hte _ (by decide +kernel))
  obtain ⟨c2, i2, h2⟩ := u_known (C := RX2) (T := TX2) (N := 7) (n := 7) hts inX2 (hte _ (by decide +kernel))
  obtain ⟨c3, i3, h3⟩ := u_known (C := RX3) (T := TX3) (N := 8) (n := 8) hts inX3 (hte _ (by decide +kernel))
  obtain ⟨c4, i4, h4⟩ := u_known (C := RX4) (T := TX4) (N := 4) (n := 4) hts inX4 (hte _ (by decide +kernel))
  obtain ⟨c5, i5, h5⟩ := u_known (C := RX5) (T := TX5) (N := 5) (n := 5) hts inX5 (hte _ (by decide +kernel))
  obtain ⟨c6, i6, h6⟩ := u_known (C := RX6) (T := TX6) (N := 4) (n := 4) hts inX6 (hte _ (by decide +kernel))
  obtain ⟨cI, aI, fI⟩ := arr_start (ty := .int) (hte _ (by decide +kernel))
  obtain ⟨cC, aC, fC⟩ := arr_start (ty := .char) (hte _ (by decide +kernel))
  obtain ⟨cS, aS, fS⟩ := arq_start (C := "ParkingGarage$State") (hte _ (by decide +kernel))
  refine ⟨(fun k => match k with | 0 => c0 | 1 => c1 | 2 => c2 | 3 => c3 | 4 => c4 | 5 => c5 | _ => c6, fun k => match k with | 0 => i0 | 1 => i1 | 2 => i2 | 3 => i3 | 4 => i4 | 5 => i5 | _ => i6), cI, cC, cS, ⟨?_, ?_⟩, fun w hw => va_Nw.of (List.all_eq_true.mp nestWs_tab w hw) (hts w (nest_in w hw)), va_AO.of (A := args) (hte _ (by decide +kernel))⟩
  · intro k q hq
    match k, hq with
    | 0, hq => cases hq; exact h0
    | 1, hq => cases hq; exact h1
    | 2, hq => cases hq; exact h2
    | 3, hq => cases hq; exact h3
    | 4, hq => cases hq; exact h4
    | 5, hq => cases hq; exact h5
    | 6, hq => cases hq; exact h6
    | k + 7, hq => cases hq
  · intro k q hq
    match k, hq with
    | 0, hq => cases hq; exact ⟨aI, fI⟩
    | 1, hq => cases hq; exact ⟨aC, fC⟩
    | 2, hq => cases hq; exact ⟨aI, fI⟩
    | 3, hq => cases hq; exact ⟨aS, fS⟩
    | k + 4, hq => cases hq
end LENT
