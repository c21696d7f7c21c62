/-! ===== the law's entry: what the machine's tables and the Statement give ===== -/
def entW : List Cond := [.instantiable RX0 9, .instantiable RX1 2, .instantiable RX2 7, .instantiable RX3 8, .instantiable RX4 4, .instantiable RX5 5, .instantiable RX6 4, .instantiable RX7 11, .arrayClass .int, .arrayClass .char, .arrayClass .byte, .arrayOver (.object "ParkingGarage$State"), .laysStatic RX6 "NUMBER_LEAST" "[I", .laysStatic RX6 "NUMBER_GREATEST" "[I", .laysStatic RJ0 "COMPACT_STRINGS" "Z", .laysStatic RJ3 "SIOOBE_FORMATTER" "Ljava/util/function/BiFunction;", .initialized RX6, .initialized RX7, .initialized RJ0, .initialized RJ3, .classLink RL 7 RX6, .classLink RL 10 RX7, .methodLink RL 9 yX6_init, .methodLink RL 12 yX7_init, .instanceMethod yX6_init, .instanceMethod yX7_init, .stringRef RX5 39 "bay", .stringRef RX5 48 "step", .stringRef RX5 53 "grace", .stringRef RX5 59 "ramp", .stringRef RX5 120 "small", .stringRef RX5 122 "medium", .stringRef RX5 124 "large", .stringRef RX5 126 "normal", .stringRef RX5 128 "over"]
set_option maxRecDepth 20000 in
theorem ent_in : ∀ w ∈ entW, w ∈ lw_tbl := in_places _ [87, 246, 139, 81, 177, 263, 73, 787, 137, 285, 553, 252, 398, 400, 464, 480, 58, 65, 68, 70, 72, 786, 74, 788, 75, 789, 450, 531, 545, 552, 512, 513, 514, 540, 541] (by decide +kernel)
abbrev gvn : List Cond := flatC (Cond.and given_1 narrow_1)
abbrev zT (j : Nat) : Term := Term.string RX5 (ldK j)
theorem zv_ex : ∀ i, i < 9 → Cond.exactly (zT i) "java/lang/String" ∈ gvn := by decide +kernel
theorem zv_co : ∀ i, i < 9 → Cond.eq (.field (zT i) "java/lang/String" "coder" "B") (.int 0) ∈ gvn := by decide +kernel
theorem zv_ar : ∀ i, i < 9 → Cond.arrayOf (.field (zT i) "java/lang/String" "value" "[B") .byte ∈ gvn := by decide +kernel
theorem zv_le : ∀ i, i < 9 → Cond.eq (.length (.field (zT i) "java/lang/String" "value" "[B")) (.int (Int32.ofNat (zLen.getD i 0))) ∈ gvn := by decide +kernel
theorem zv_el : ∀ i, i < 9 → ∀ j, j < zLen.getD i 0 → Cond.eq (.elem (.field (zT i) "java/lang/String" "value" "[B") (.int (Int32.ofNat j))) (.int ((zByt.getD i []).getD j 0)) ∈ gvn := by decide +kernel
theorem zv_ne : ∀ i, i < 9 → ∀ j, j < 9 → i ≠ j → (Cond.not (Cond.eq (zT i) (zT j)) ∈ gvn ∨ Cond.not (Cond.eq (zT j) (zT i)) ∈ gvn) := by decide +kernel
theorem zv_len : ∀ i, i < 9 → zLen.getD i 0 < 2 ^ 31 := by decide +kernel
theorem zv_st : ∀ i, i < 9 → Cond.stringRef RX5 (ldK i) (ldT i) ∈ entW := by decide +kernel
theorem zv_l : ∀ j, j < 5 → Cond.eq (.elem (.static RX6 "NUMBER_LEAST" "[I") (.int (Int32.ofNat j))) (.int (leastF j)) ∈ gvn := by decide +kernel
theorem zv_g : ∀ j, j < 5 → Cond.eq (.elem (.static RX6 "NUMBER_GREATEST" "[I") (.int (Int32.ofNat j))) (.int (greatF j)) ∈ gvn := by decide +kernel
theorem zv_x : Cond.arrayOf (.static RX6 "NUMBER_LEAST" "[I") .int ∈ gvn ∧ Cond.eq (.length (.static RX6 "NUMBER_LEAST" "[I")) (.int (Int32.ofNat 5)) ∈ gvn ∧ Cond.arrayOf (.static RX6 "NUMBER_GREATEST" "[I") .int ∈ gvn ∧ Cond.eq (.length (.static RX6 "NUMBER_GREATEST" "[I")) (.int (Int32.ofNat 5)) ∈ gvn ∧ Cond.eq (.static RJ0 "COMPACT_STRINGS" "Z") (.int 1) ∈ gvn ∧ Cond.isRef (.static RJ3 "SIOOBE_FORMATTER" "Ljava/util/function/BiFunction;") ∈ gvn := by decide +kernel
section LENT
variable {s : State} {args : Array Value}
/-- the old cells that the class reads -/
theorem zs_start (hte : ∀ w ∈ entW, w.before args s = true) (hgv : (Cond.and given_1 narrow_1).before args s = true) : ∃ (tL tG : Nat) (aK aV : Nat → Nat), ZS tL tG aK aV (fun q => s.heap.size ≤ q) s s.heap := by
  have hg := flat_of_before _ hgv
  have hA : ∀ a : Nat, a < s.heap.size → ¬ (fun q : Nat => s.heap.size ≤ q) a := fun a h => Nat.not_le.mpr h
  obtain ⟨x1, x2, x3, x4, x5, x6⟩ := zv_x
  obtain ⟨tL, hL, hTL⟩ := va_Tof (f := fun j => .int (leastF j)) (A := fun q => s.heap.size ≤ q) (N := 5) (by decide) (hg _ x1) (va_eqt (hg _ x2)) (fun j hj => va_eqt (hg _ (zv_l j hj))) hA
  obtain ⟨tG, hG, hTG⟩ := va_Tof (f := fun j => .int (greatF j)) (A := fun q => s.heap.size ≤ q) (N := 5) (by decide) (hg _ x3) (va_eqt (hg _ x4)) (fun j hj => va_eqt (hg _ (zv_g j hj))) hA
  obtain ⟨aK, aV, hS, hR⟩ := vk_Sof (N := 9) (tm := zT) (len := zLen) (byt := zByt) (A := fun q => s.heap.size ≤ q) zv_len (fun i hi => hg _ (zv_ex i hi)) (fun i hi => hg _ (zv_co i hi)) (fun i hi => hg _ (zv_ar i hi)) (fun i hi => hg _ (zv_le i hi)) (fun i hi j hj => hg _ (zv_el i hi j hj)) (fun i j hi hj hij => (zv_ne i hi j hj hij).imp (hg _) (hg _)) hA
  exact ⟨tL, tG, aK, aV, va_Zof (hte _ (by decide +kernel)) (hte _ (by decide +kernel)) hL hA, va_Zof (hte _ (by decide +kernel)) (hte _ (by decide +kernel)) hG hA, hTL, hTG, va_Zof (hte _ (by decide +kernel)) (hte _ (by decide +kernel)) (va_eqt (hg _ x5)) hA, va_Zqof (hte _ (by decide +kernel)) (hte _ (by decide +kernel)) (hg _ x6) hA, hS, fun j hj => vk_R.of (hte _ (zv_st j hj)) (hR j hj)⟩
theorem arr_start {ty : FieldType} (h : (Cond.arrayClass ty).before args s = true) : ∃ cA : ClassId, ArrOfT s cA ty ∧ s.vm.findClass ("[" ++ ty.toString) = some cA := by
  obtain ⟨cA, kA, comp, h1, h2, h3⟩ := Cond.arrayClass_spec h
  exact ⟨cA, fun n z => ⟨fun k h => (by cases h), kA, h2, comp, h3⟩, h1⟩
theorem arq_start {C : String} (h : (Cond.arrayOver (.object C)).before args s = true) : ∃ cA : ClassId, ArrOfT s cA (.object C) ∧ va_RA s cA (.object C) := by
  obtain ⟨comp, cA, kA, h1, -, h3, h4, h5⟩ := Cond.arrayOver_spec h
  exact ⟨cA, fun n z => ⟨fun k h => (by cases h), kA, h3, comp, h4⟩, kA, comp, h3, h4, h1, h5⟩
theorem kn_start (hts : ∀ w ∈ lw_tbl, w.before args s = true) : ∃ (D : va_G) (cI cC cB cS : ClassId), KN D (TYS cI cC cB cS) s := by
  have hte : ∀ w ∈ entW, w.before args s = true := fun w h => hts w (ent_in w h)
  obtain ⟨c0, i0, h0⟩ := u_known (C := RX0) (T := TX0) (N := 9) (n := 9) hts inX0 (hte _ (by decide +kernel))
  obtain ⟨c1, i1, h1⟩ := u_known (C := RX1) (T := TX1) (N := 2) (n := 2) hts inX1 (hte _ (by decide +kernel))
  obtain ⟨c2, i2, h2⟩ := u_known (C := RX2) (T := TX2) (N := 7) (n := 7) hts inX2 (hte _ (by decide +kernel))
  obtain ⟨c3, i3, h3⟩ := u_known (C := RX3) (T := TX3) (N := 8) (n := 8) hts inX3 (hte _ (by decide +kernel))
  obtain ⟨c4, i4, h4⟩ := u_known (C := RX4) (T := TX4) (N := 4) (n := 4) hts inX4 (hte _ (by decide +kernel))
  obtain ⟨c5, i5, h5⟩ := u_known (C := RX5) (T := TX5) (N := 5) (n := 5) hts inX5 (hte _ (by decide +kernel))
  obtain ⟨c6, i6, h6⟩ := u_known (C := RX6) (T := TX6) (N := 4) (n := 4) hts inX6 (hte _ (by decide +kernel))
  obtain ⟨c7, i7, h7⟩ := u_known (C := RX7) (T := TX7) (N := 11) (n := 11) hts inX7 (hte _ (by decide +kernel))
  obtain ⟨cI, aI, fI⟩ := arr_start (ty := .int) (hte _ (by decide +kernel))
  obtain ⟨cC, aC, fC⟩ := arr_start (ty := .char) (hte _ (by decide +kernel))
  obtain ⟨cB, aB, fB⟩ := arr_start (ty := .byte) (hte _ (by decide +kernel))
  obtain ⟨cS, aS, fS⟩ := arq_start (C := "ParkingGarage$State") (hte _ (by decide +kernel))
  refine ⟨(fun k => match k with | 0 => c0 | 1 => c1 | 2 => c2 | 3 => c3 | 4 => c4 | 5 => c5 | 6 => c6 | _ => c7, fun k => match k with | 0 => i0 | 1 => i1 | 2 => i2 | 3 => i3 | 4 => i4 | 5 => i5 | 6 => i6 | _ => i7), cI, cC, cB, cS, ⟨?_, ?_⟩, fun w hw => va_Nw.of (List.all_eq_true.mp nestWs_tab w hw) (hts w (nest_in w hw)), va_AO.of (A := args) (hte _ (by decide +kernel))⟩
  · intro k q hq
    match k, hq with
    | 0, hq => cases hq; exact h0
    | 1, hq => cases hq; exact h1
    | 2, hq => cases hq; exact h2
    | 3, hq => cases hq; exact h3
    | 4, hq => cases hq; exact h4
    | 5, hq => cases hq; exact h5
    | 6, hq => cases hq; exact h6
    | 7, hq => cases hq; exact h7
    | k + 8, hq => cases hq
  · intro k q hq
    match k, hq with
    | 0, hq => cases hq; exact ⟨aI, fI⟩
    | 1, hq => cases hq; exact ⟨aC, fC⟩
    | 2, hq => cases hq; exact ⟨aB, fB⟩
    | 3, hq => cases hq; exact ⟨aS, fS⟩
    | k + 4, hq => cases hq
end LENT
