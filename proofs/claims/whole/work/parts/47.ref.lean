/-! ===== the reference: methods that read (laid by wip/whole/gen) ===== -/
set_option maxHeartbeats 4000000 in
set_option maxRecDepth 100000 in
theorem c_X7_in (l : Launch) (D : va_G) (cI cC cB cS : ClassId) (v : Int32) (lo : Int32) (hi : Int32) : Met l yX7_in wsX7_in ({ frames := 0, cells := 0, slots := 0, locals := 0 } : Room) (rdPc D (TYS cI cC cB cS) [.int (v), .int (lo), .int (hi)] ([])) (vp_Si (fun r => Yes (lo ≤ v ∧ v ≤ hi) r)) 0 0 (fun _ => False) := by
  refine rd_intro (by decide) rfl (Nat.le_of_ble_eq_true rfl) ?_
  intro p e s m below meth c hx hb hr hml hts hown hlocks hP hK ls hl
  have hP : va_P D vwCl [] s.heap := hP
  have hown : s.vm.findClass RX7 = some m.cls := hown
  have hl : lv_has ls 3 [(0, .int (v)), (1, .int (lo)), (2, .int (hi))] := hl
  refine lv_iload_n hx hb dX7_in_0 rfl (lv_at hl 0 rfl) ?_
  refine lv_iload_n hx hb dX7_in_1 rfl (lv_at hl 1 rfl) ?_
  refine lv_icmp_lt (tgt := 14) hx hb dX7_in_2 (by decide) (fun c_1 => ?_) (fun c_1 => ?_)
  · -- c_1: v < lo
    refine lv_iconst (v := 0) hx hb dX7_in_14 (by decide) ?_
    exact rd_zret (v := 0) hx hb hr hlocks dX7_in_15 (by decide) (Or.inr ⟨rfl, fun q => Int32.not_le.mpr c_1 q.1⟩)
  · -- c_1: not v < lo
    refine lv_iload_n hx hb dX7_in_5 rfl (lv_at hl 0 rfl) ?_
    refine lv_iload_n hx hb dX7_in_6 rfl (lv_at hl 2 rfl) ?_
    refine lv_icmp_gt (tgt := 14) hx hb dX7_in_7 (by decide) (fun c_2 => ?_) (fun c_2 => ?_)
    · -- c_2: v > hi
      refine lv_iconst (v := 0) hx hb dX7_in_14 (by decide) ?_
      exact rd_zret (v := 0) hx hb hr hlocks dX7_in_15 (by decide) (Or.inr ⟨rfl, fun q => Int32.not_le.mpr c_2 q.2⟩)
    · -- c_2: not v > hi
      refine lv_iconst (v := 1) hx hb dX7_in_10 (by decide) ?_
      refine lv_goto (tgt := 15) hx hb dX7_in_11 (by decide) ?_
      exact rd_zret (v := 1) hx hb hr hlocks dX7_in_15 (by decide) (Or.inl ⟨rfl, Int32.not_lt.mp c_1, Int32.not_lt.mp c_2⟩)
set_option maxHeartbeats 4000000 in
set_option maxRecDepth 100000 in
theorem c_X7_lesser (l : Launch) (D : va_G) (cI cC cB cS : ClassId) (a1 : Int32) (a2 : Int32) : Met l yX7_lesser wsX7_lesser ({ frames := 0, cells := 0, slots := 0, locals := 0 } : Room) (rdPc D (TYS cI cC cB cS) [.int (a1), .int (a2)] ([])) (vp_Si (fun r => r = if a1 < a2 then a1 else a2)) 0 0 (fun _ => False) := by
  refine rd_intro (by decide) rfl (Nat.le_of_ble_eq_true rfl) ?_
  intro p e s m below meth c hx hb hr hml hts hown hlocks hP hK ls hl
  have hP : va_P D vwCl [] s.heap := hP
  have hown : s.vm.findClass RX7 = some m.cls := hown
  have hl : lv_has ls 2 [(0, .int (a1)), (1, .int (a2))] := hl
  refine lv_iload_n hx hb dX7_lesser_0 rfl (lv_at hl 0 rfl) ?_
  refine lv_iload_n hx hb dX7_lesser_1 rfl (lv_at hl 1 rfl) ?_
  refine lv_icmp_ge (tgt := 9) hx hb dX7_lesser_2 (by decide) (fun c_1 => ?_) (fun c_1 => ?_)
  · -- c_1: a1 ≥ a2
    refine lv_iload_n hx hb dX7_lesser_9 rfl (lv_at hl 1 rfl) ?_
    exact rd_iret (v := a2) hx hb hr hlocks dX7_lesser_10 ((if_neg (Int32.not_lt.mpr c_1)).symm)
  · -- c_1: not a1 ≥ a2
    refine lv_iload_n hx hb dX7_lesser_5 rfl (lv_at hl 0 rfl) ?_
    refine lv_goto (tgt := 10) hx hb dX7_lesser_6 (by decide) ?_
    exact rd_iret (v := a1) hx hb hr hlocks dX7_lesser_10 ((if_pos (Int32.not_le.mp c_1)).symm)
set_option maxHeartbeats 4000000 in
set_option maxRecDepth 100000 in
theorem c_X7_of (l : Launch) (D : va_G) (cI cC cB cS : ClassId) (ma : Nat → Nat) (fi : Nat → Int32) (wd : Int64) (g : Nat → Nat → Int32) (lf : Int32) (k : Nat) (w : Nat) (hk : k < 30) (hw : w < 8) : Met l yX7_of wsX7_of ({ frames := 0, cells := 0, slots := 0, locals := 0 } : Room) (rdPc D (TYS cI cC cB cS) [.ref (ma 0), .int (nI k), .int (nI w)] ([mO ma fi wd, (ma 1, iE cI 382 (enc g lf))])) (vp_Si (fun r => r = g (bR w) k)) 0 0 (fun _ => False) := by
  refine rd_intro (by decide) rfl (Nat.le_of_ble_eq_true rfl) ?_
  intro p e s m below meth c hx hb hr hml hts hown hlocks hP hK ls hl
  have hP : va_P D vwCl [(ma 0, oE 7 [.ref (ma 1), .ref (ma 2), .int (fi 0), .ref (ma 3), .ref (ma 4), .int (fi 1), .int (fi 2), .int (fi 3), .long (wd), .int (fi 4), .int (fi 5)]), (ma 1, iE cI 382 (enc g lf))] s.heap := hP
  have hown : s.vm.findClass RX7 = some m.cls := hown
  have hl : lv_has ls 3 [(0, .ref (ma 0)), (1, .int (nI k)), (2, .int (nI w))] := hl
  refine lv_aload_n hx hb dX7_of_0 rfl (lv_at hl 0 rfl) ?_
  refine va_get (D := D) (ci := 7) (v := .ref (ma 1)) (C := RX7) (T := TX7) (N := 11) hx hb hts (by decide +kernel) hown hK.1 hP 0 rfl rfl 0 (by decide) (hts (.fieldLink RX7 7 "ParkingGarageModel" "s" "[I") (by decide +kernel)) (fun _ h9 => h9) rfl dX7_of_1 ?_
  refine lv_sipush (v := 142) hx hb dX7_of_4 (by decide) ?_
  refine lv_bipush (v := 8) hx hb dX7_of_7 (by decide) ?_
  refine lv_iload_n hx hb dX7_of_9 rfl (lv_at hl 1 rfl) ?_
  refine lv_imul hx hb dX7_of_10 ?_
  rw [show (((8) * (nI k)) : Int32) = nI (8 * k) from (nI_mul 8 k)]
  refine lv_iadd hx hb dX7_of_11 ?_
  rw [show (((142) + (nI (8 * k))) : Int32) = nI (142 + 8 * k) from (nI_add 142 (8 * k))]
  refine lv_iload_n hx hb dX7_of_12 rfl (lv_at hl 2 rfl) ?_
  refine lv_iadd hx hb dX7_of_13 ?_
  rw [show (((nI (142 + 8 * k)) + (nI w)) : Int32) = nI (142 + 8 * k + w) from (nI_add (142 + 8 * k) w)]
  refine iald_n (f := enc g lf) hx hb hK.1 hP 1 0 rfl rfl (142 + 8 * k + w) (rfl) (by omega) (by omega) dX7_of_14 ?_
  rw [show enc g lf (142 + 8 * k + w) = g (bR w) k from enc_at (by omega) (posR_bay (by omega))]
  exact rd_iret (v := g (bR w) k) hx hb hr hlocks dX7_of_15 (rfl)
set_option maxHeartbeats 4000000 in
set_option maxRecDepth 100000 in
theorem c_X7_about (l : Launch) (D : va_G) (cI cC cB cS : ClassId) (ma : Nat → Nat) (fi : Nat → Int32) (wd : Int64) (g : Nat → Nat → Int32) (lf : Int32) (k : Nat) (w : Nat) (hk : k < 16) (hw : w < 6) : Met l yX7_about wsX7_about ({ frames := 0, cells := 0, slots := 0, locals := 0 } : Room) (rdPc D (TYS cI cC cB cS) [.ref (ma 0), .int (nI k), .int (nI w)] ([mO ma fi wd, (ma 1, iE cI 382 (enc g lf))])) (vp_Si (fun r => r = g (13 + w) k)) 0 0 (fun _ => False) := by
  refine rd_intro (by decide) rfl (Nat.le_of_ble_eq_true rfl) ?_
  intro p e s m below meth c hx hb hr hml hts hown hlocks hP hK ls hl
  have hP : va_P D vwCl [(ma 0, oE 7 [.ref (ma 1), .ref (ma 2), .int (fi 0), .ref (ma 3), .ref (ma 4), .int (fi 1), .int (fi 2), .int (fi 3), .long (wd), .int (fi 4), .int (fi 5)]), (ma 1, iE cI 382 (enc g lf))] s.heap := hP
  have hown : s.vm.findClass RX7 = some m.cls := hown
  have hl : lv_has ls 3 [(0, .ref (ma 0)), (1, .int (nI k)), (2, .int (nI w))] := hl
  refine lv_aload_n hx hb dX7_about_0 rfl (lv_at hl 0 rfl) ?_
  refine va_get (D := D) (ci := 7) (v := .ref (ma 1)) (C := RX7) (T := TX7) (N := 11) hx hb hts (by decide +kernel) hown hK.1 hP 0 rfl rfl 0 (by decide) (hts (.fieldLink RX7 7 "ParkingGarageModel" "s" "[I") (by decide +kernel)) (fun _ h9 => h9) rfl dX7_about_1 ?_
  refine lv_bipush (v := 46) hx hb dX7_about_4 (by decide) ?_
  refine lv_bipush (v := 6) hx hb dX7_about_6 (by decide) ?_
  refine lv_iload_n hx hb dX7_about_8 rfl (lv_at hl 1 rfl) ?_
  refine lv_imul hx hb dX7_about_9 ?_
  rw [show (((6) * (nI k)) : Int32) = nI (6 * k) from (nI_mul 6 k)]
  refine lv_iadd hx hb dX7_about_10 ?_
  rw [show (((46) + (nI (6 * k))) : Int32) = nI (46 + 6 * k) from (nI_add 46 (6 * k))]
  refine lv_iload_n hx hb dX7_about_11 rfl (lv_at hl 2 rfl) ?_
  refine lv_iadd hx hb dX7_about_12 ?_
  rw [show (((nI (46 + 6 * k)) + (nI w)) : Int32) = nI (46 + 6 * k + w) from (nI_add (46 + 6 * k) w)]
  refine iald_n (f := enc g lf) hx hb hK.1 hP 1 0 rfl rfl (46 + 6 * k + w) (rfl) (by omega) (by omega) dX7_about_13 ?_
  rw [show enc g lf (46 + 6 * k + w) = g (13 + w) k from enc_at (by omega) (posR_res (by omega) (by omega))]
  exact rd_iret (v := g (13 + w) k) hx hb hr hlocks dX7_about_14 (rfl)
set_option maxHeartbeats 4000000 in
set_option maxRecDepth 100000 in
theorem c_X7_holdsFrom (l : Launch) (D : va_G) (cI cC cB cS : ClassId) (ma : Nat → Nat) (fi : Nat → Int32) (wd : Int64) (g : Nat → Nat → Int32) (lf : Int32) (b1 : Int32) : Met l yX7_holdsFrom wsX7_holdsFrom ({ frames := 0, cells := 0, slots := 0, locals := 0 } : Room) (rdPc D (TYS cI cC cB cS) [.ref (ma 0), .int (b1)] ([mO ma fi wd, (ma 1, iE cI 382 (enc g lf))])) (vp_Si (fun r => r = b1 - g 1 1)) 0 0 (fun _ => False) := by
  refine rd_intro (by decide) rfl (Nat.le_of_ble_eq_true rfl) ?_
  intro p e s m below meth c hx hb hr hml hts hown hlocks hP hK ls hl
  have hP : va_P D vwCl [(ma 0, oE 7 [.ref (ma 1), .ref (ma 2), .int (fi 0), .ref (ma 3), .ref (ma 4), .int (fi 1), .int (fi 2), .int (fi 3), .long (wd), .int (fi 4), .int (fi 5)]), (ma 1, iE cI 382 (enc g lf))] s.heap := hP
  have hown : s.vm.findClass RX7 = some m.cls := hown
  have hl : lv_has ls 2 [(0, .ref (ma 0)), (1, .int (b1))] := hl
  refine lv_iload_n hx hb dX7_holdsFrom_0 rfl (lv_at hl 1 rfl) ?_
  refine lv_aload_n hx hb dX7_holdsFrom_1 rfl (lv_at hl 0 rfl) ?_
  refine va_get (D := D) (ci := 7) (v := .ref (ma 1)) (C := RX7) (T := TX7) (N := 11) hx hb hts (by decide +kernel) hown hK.1 hP 0 rfl rfl 0 (by decide) (hts (.fieldLink RX7 7 "ParkingGarageModel" "s" "[I") (by decide +kernel)) (fun _ h9 => h9) rfl dX7_holdsFrom_2 ?_
  refine lv_bipush (v := 6) hx hb dX7_holdsFrom_5 (by decide) ?_
  refine iald_n (f := enc g lf) hx hb hK.1 hP 1 0 rfl rfl (6) (rfl) (by decide) (by omega) dX7_holdsFrom_7 ?_
  rw [show enc g lf (6) = g 1 1 from rfl]
  refine lv_isub hx hb dX7_holdsFrom_8 ?_
  exact rd_iret (v := (b1) - (g 1 1)) hx hb hr hlocks dX7_holdsFrom_9 (rfl)
set_option maxHeartbeats 4000000 in
set_option maxRecDepth 100000 in
theorem c_X7_way (l : Launch) (D : va_G) (cI cC cB cS : ClassId) (ma : Nat → Nat) (fi : Nat → Int32) (wd : Int64) (g : Nat → Nat → Int32) (lf : Int32) (k : Nat) (hk : k < 30) : Met l yX7_way wsX7_way ({ frames := 1, cells := 0, slots := 0, locals := 22 } : Room) (rdPc D (TYS cI cC cB cS) [.ref (ma 0), .int (nI k)] ([mO ma fi wd, (ma 1, iE cI 382 (enc g lf))])) (vp_Si (fun r => r = Wy (g 4) (g 5) (g 1 0) k)) 0 0 (fun _ => False) := by
  refine rd_intro (by decide) rfl (Nat.le_of_ble_eq_true rfl) ?_
  intro p e s m below meth c hx hb hr hml hts hown hlocks hP hK ls hl
  have hP : va_P D vwCl [(ma 0, oE 7 [.ref (ma 1), .ref (ma 2), .int (fi 0), .ref (ma 3), .ref (ma 4), .int (fi 1), .int (fi 2), .int (fi 3), .long (wd), .int (fi 4), .int (fi 5)]), (ma 1, iE cI 382 (enc g lf))] s.heap := hP
  have hown : s.vm.findClass RX7 = some m.cls := hown
  have hl : lv_has ls 2 [(0, .ref (ma 0)), (1, .int (nI k))] := hl
  refine lv_aload_n hx hb dX7_way_0 rfl (lv_at hl 0 rfl) ?_
  refine lv_iload_n hx hb dX7_way_1 rfl (lv_at hl 1 rfl) ?_
  refine lv_iconst (v := 0) hx hb dX7_way_2 (by decide) ?_
  refine cv_i (As := [.int (nI k), .int (0)]) (rest := []) (tys := TYS cI cC cB cS) (ci := 7) ⟨hx, hb, hml, hown, hts⟩ (c_X7_of l D cI cC cB cS (ma) (fi) (wd) (g) (lf) (k) (0) (by omega) (by omega)) (cwV 2 hts gX7_way_X7_of rfl rfl rfl (by decide +kernel) ⟨Nat.le_of_ble_eq_true rfl, Nat.le_of_ble_eq_true rfl⟩) hK hP [0, 1] rfl rfl rfl rfl rfl hl.1 (Nat.le_of_ble_eq_true rfl) dX7_way_3 ⟨Nat.le_of_ble_eq_true rfl, Nat.le_of_ble_eq_true rfl⟩ (fun r_1 hr_1 => ?_)
  have hr_1 : r_1 = g 4 k := hr_1
  subst hr_1
  refine lv_aload_n hx hb dX7_way_6 rfl (lv_at hl 0 rfl) ?_
  refine va_get (D := D) (ci := 7) (v := .ref (ma 1)) (C := RX7) (T := TX7) (N := 11) hx hb hts (by decide +kernel) hown hK.1 hP 0 rfl rfl 0 (by decide) (hts (.fieldLink RX7 7 "ParkingGarageModel" "s" "[I") (by decide +kernel)) (fun _ h9 => h9) rfl dX7_way_7 ?_
  refine lv_iconst (v := 5) hx hb dX7_way_10 (by decide) ?_
  refine iald_n (f := enc g lf) hx hb hK.1 hP 1 0 rfl rfl (5) (rfl) (by decide) (by omega) dX7_way_11 ?_
  rw [show enc g lf (5) = g 1 0 from rfl]
  refine lv_imul hx hb dX7_way_12 ?_
  refine lv_aload_n hx hb dX7_way_13 rfl (lv_at hl 0 rfl) ?_
  refine lv_iload_n hx hb dX7_way_14 rfl (lv_at hl 1 rfl) ?_
  refine lv_iconst (v := 1) hx hb dX7_way_15 (by decide) ?_
  refine cv_i (As := [.int (nI k), .int (1)]) (rest := [.int ((g 4 k) * (g 1 0))]) (tys := TYS cI cC cB cS) (ci := 7) ⟨hx, hb, hml, hown, hts⟩ (c_X7_of l D cI cC cB cS (ma) (fi) (wd) (g) (lf) (k) (1) (by omega) (by omega)) (cwV 2 hts gX7_way_X7_of rfl rfl rfl (by decide +kernel) ⟨Nat.le_of_ble_eq_true rfl, Nat.le_of_ble_eq_true rfl⟩) hK hP [0, 1] rfl rfl rfl rfl rfl hl.1 (Nat.le_of_ble_eq_true rfl) dX7_way_16 ⟨Nat.le_of_ble_eq_true rfl, Nat.le_of_ble_eq_true rfl⟩ (fun r_2 hr_2 => ?_)
  have hr_2 : r_2 = g 5 k := hr_2
  subst hr_2
  refine lv_iadd hx hb dX7_way_19 ?_
  exact rd_iret (v := ((g 4 k) * (g 1 0)) + (g 5 k)) hx hb hr hlocks dX7_way_20 (rfl)
set_option maxHeartbeats 4000000 in
set_option maxRecDepth 100000 in
theorem c_X7_isBefore (l : Launch) (D : va_G) (cI cC cB cS : ClassId) (ma : Nat → Nat) (fi : Nat → Int32) (wd : Int64) (g : Nat → Nat → Int32) (lf : Int32) (k : Nat) (j : Nat) (hk : k < 30) (hkj : j < k) : Met l yX7_isBefore wsX7_isBefore ({ frames := 2, cells := 0, slots := 0, locals := 43 } : Room) (rdPc D (TYS cI cC cB cS) [.ref (ma 0), .int (nI k), .int (nI j)] ([mO ma fi wd, (ma 1, iE cI 382 (enc g lf))])) (vp_Si (fun r => Yes (Bef (g 4) (g 5) (g 6) (g 1 0) k j) r)) 0 0 (fun _ => False) := by
  refine rd_intro (by decide) rfl (Nat.le_of_ble_eq_true rfl) ?_
  intro p e s m below meth c hx hb hr hml hts hown hlocks hP hK ls hl
  have hP : va_P D vwCl [(ma 0, oE 7 [.ref (ma 1), .ref (ma 2), .int (fi 0), .ref (ma 3), .ref (ma 4), .int (fi 1), .int (fi 2), .int (fi 3), .long (wd), .int (fi 4), .int (fi 5)]), (ma 1, iE cI 382 (enc g lf))] s.heap := hP
  have hown : s.vm.findClass RX7 = some m.cls := hown
  have hl : lv_has ls 3 [(0, .ref (ma 0)), (1, .int (nI k)), (2, .int (nI j))] := hl
  refine lv_aload_n hx hb dX7_isBefore_0 rfl (lv_at hl 0 rfl) ?_
  refine lv_iload_n hx hb dX7_isBefore_1 rfl (lv_at hl 1 rfl) ?_
  refine cv_i (As := [.int (nI k)]) (rest := []) (tys := TYS cI cC cB cS) (ci := 7) ⟨hx, hb, hml, hown, hts⟩ (c_X7_way l D cI cC cB cS (ma) (fi) (wd) (g) (lf) (k) (by omega)) (cwV 1 hts gX7_isBefore_X7_way rfl rfl rfl (by decide +kernel) ⟨Nat.le_of_ble_eq_true rfl, Nat.le_of_ble_eq_true rfl⟩) hK hP [0, 1] rfl rfl rfl rfl rfl hl.1 (Nat.le_of_ble_eq_true rfl) dX7_isBefore_2 ⟨Nat.le_of_ble_eq_true rfl, Nat.le_of_ble_eq_true rfl⟩ (fun r_1 hr_1 => ?_)
  have hr_1 : r_1 = Wy (g 4) (g 5) (g 1 0) k := hr_1
  subst hr_1
  refine lv_aload_n hx hb dX7_isBefore_5 rfl (lv_at hl 0 rfl) ?_
  refine lv_iload_n hx hb dX7_isBefore_6 rfl (lv_at hl 2 rfl) ?_
  refine cv_i (As := [.int (nI j)]) (rest := [.int (Wy (g 4) (g 5) (g 1 0) k)]) (tys := TYS cI cC cB cS) (ci := 7) ⟨hx, hb, hml, hown, hts⟩ (c_X7_way l D cI cC cB cS (ma) (fi) (wd) (g) (lf) (j) (by omega)) (cwV 1 hts gX7_isBefore_X7_way rfl rfl rfl (by decide +kernel) ⟨Nat.le_of_ble_eq_true rfl, Nat.le_of_ble_eq_true rfl⟩) hK hP [0, 1] rfl rfl rfl rfl rfl hl.1 (Nat.le_of_ble_eq_true rfl) dX7_isBefore_7 ⟨Nat.le_of_ble_eq_true rfl, Nat.le_of_ble_eq_true rfl⟩ (fun r_2 hr_2 => ?_)
  have hr_2 : r_2 = Wy (g 4) (g 5) (g 1 0) j := hr_2
  subst hr_2
  refine lv_icmp_eq (tgt := 32) hx hb dX7_isBefore_10 (by decide) (fun c_3 => ?_) (fun c_3 => ?_)
  · -- c_3: Wy (g 4) (g 5) (g 1 0) k = Wy (g 4) (g 5) (g 1 0) j
    refine lv_aload_n hx hb dX7_isBefore_32 rfl (lv_at hl 0 rfl) ?_
    refine lv_iload_n hx hb dX7_isBefore_33 rfl (lv_at hl 1 rfl) ?_
    refine lv_iconst (v := 2) hx hb dX7_isBefore_34 (by decide) ?_
    refine cv_i (As := [.int (nI k), .int (2)]) (rest := []) (tys := TYS cI cC cB cS) (ci := 7) ⟨hx, hb, hml, hown, hts⟩ (c_X7_of l D cI cC cB cS (ma) (fi) (wd) (g) (lf) (k) (2) (by omega) (by omega)) (cwV 2 hts gX7_isBefore_X7_of rfl rfl rfl (by decide +kernel) ⟨Nat.le_of_ble_eq_true rfl, Nat.le_of_ble_eq_true rfl⟩) hK hP [0, 1] rfl rfl rfl rfl rfl hl.1 (Nat.le_of_ble_eq_true rfl) dX7_isBefore_35 ⟨Nat.le_of_ble_eq_true rfl, Nat.le_of_ble_eq_true rfl⟩ (fun r_4 hr_4 => ?_)
    have hr_4 : r_4 = g 6 k := hr_4
    subst hr_4
    refine lv_aload_n hx hb dX7_isBefore_38 rfl (lv_at hl 0 rfl) ?_
    refine lv_iload_n hx hb dX7_isBefore_39 rfl (lv_at hl 2 rfl) ?_
    refine lv_iconst (v := 2) hx hb dX7_isBefore_40 (by decide) ?_
    refine cv_i (As := [.int (nI j), .int (2)]) (rest := [.int (g 6 k)]) (tys := TYS cI cC cB cS) (ci := 7) ⟨hx, hb, hml, hown, hts⟩ (c_X7_of l D cI cC cB cS (ma) (fi) (wd) (g) (lf) (j) (2) (by omega) (by omega)) (cwV 2 hts gX7_isBefore_X7_of rfl rfl rfl (by decide +kernel) ⟨Nat.le_of_ble_eq_true rfl, Nat.le_of_ble_eq_true rfl⟩) hK hP [0, 1] rfl rfl rfl rfl rfl hl.1 (Nat.le_of_ble_eq_true rfl) dX7_isBefore_41 ⟨Nat.le_of_ble_eq_true rfl, Nat.le_of_ble_eq_true rfl⟩ (fun r_5 hr_5 => ?_)
    have hr_5 : r_5 = g 6 j := hr_5
    subst hr_5
    refine lv_icmp_ne (tgt := 60) hx hb dX7_isBefore_44 (by decide) (fun c_6 => ?_) (fun c_6 => ?_)
    · -- c_6: g 6 k ≠ g 6 j
      refine lv_aload_n hx hb dX7_isBefore_60 rfl (lv_at hl 0 rfl) ?_
      refine lv_iload_n hx hb dX7_isBefore_61 rfl (lv_at hl 1 rfl) ?_
      refine lv_iconst (v := 2) hx hb dX7_isBefore_62 (by decide) ?_
      refine cv_i (As := [.int (nI k), .int (2)]) (rest := []) (tys := TYS cI cC cB cS) (ci := 7) ⟨hx, hb, hml, hown, hts⟩ (c_X7_of l D cI cC cB cS (ma) (fi) (wd) (g) (lf) (k) (2) (by omega) (by omega)) (cwV 2 hts gX7_isBefore_X7_of rfl rfl rfl (by decide +kernel) ⟨Nat.le_of_ble_eq_true rfl, Nat.le_of_ble_eq_true rfl⟩) hK hP [0, 1] rfl rfl rfl rfl rfl hl.1 (Nat.le_of_ble_eq_true rfl) dX7_isBefore_63 ⟨Nat.le_of_ble_eq_true rfl, Nat.le_of_ble_eq_true rfl⟩ (fun r_7 hr_7 => ?_)
      have hr_7 : r_7 = g 6 k := hr_7
      subst hr_7
      refine lv_aload_n hx hb dX7_isBefore_66 rfl (lv_at hl 0 rfl) ?_
      refine lv_iload_n hx hb dX7_isBefore_67 rfl (lv_at hl 2 rfl) ?_
      refine lv_iconst (v := 2) hx hb dX7_isBefore_68 (by decide) ?_
      refine cv_i (As := [.int (nI j), .int (2)]) (rest := [.int (g 6 k)]) (tys := TYS cI cC cB cS) (ci := 7) ⟨hx, hb, hml, hown, hts⟩ (c_X7_of l D cI cC cB cS (ma) (fi) (wd) (g) (lf) (j) (2) (by omega) (by omega)) (cwV 2 hts gX7_isBefore_X7_of rfl rfl rfl (by decide +kernel) ⟨Nat.le_of_ble_eq_true rfl, Nat.le_of_ble_eq_true rfl⟩) hK hP [0, 1] rfl rfl rfl rfl rfl hl.1 (Nat.le_of_ble_eq_true rfl) dX7_isBefore_69 ⟨Nat.le_of_ble_eq_true rfl, Nat.le_of_ble_eq_true rfl⟩ (fun r_8 hr_8 => ?_)
      have hr_8 : r_8 = g 6 j := hr_8
      subst hr_8
      refine lv_icmp_ge (tgt := 79) hx hb dX7_isBefore_72 (by decide) (fun c_9 => ?_) (fun c_9 => ?_)
      · -- c_9: g 6 k ≥ g 6 j
        refine lv_iconst (v := 0) hx hb dX7_isBefore_79 (by decide) ?_
        exact rd_zret (v := 0) hx hb hr hlocks dX7_isBefore_80 (by decide) (Or.inr ⟨rfl, fun q => q.elim (fun z => absurd z (by rw [c_3]; exact Int32.lt_irrefl)) (fun z => Int32.not_lt.mpr c_9 z.2)⟩)
      · -- c_9: not g 6 k ≥ g 6 j
        refine lv_iconst (v := 1) hx hb dX7_isBefore_75 (by decide) ?_
        refine lv_goto (tgt := 80) hx hb dX7_isBefore_76 (by decide) ?_
        exact rd_zret (v := 1) hx hb hr hlocks dX7_isBefore_80 (by decide) (Or.inl ⟨rfl, Or.inr ⟨c_3, Int32.not_le.mp c_9⟩⟩)
    · -- c_6: not g 6 k ≠ g 6 j
      refine lv_iload_n hx hb dX7_isBefore_47 rfl (lv_at hl 1 rfl) ?_
      refine lv_iload_n hx hb dX7_isBefore_48 rfl (lv_at hl 2 rfl) ?_
      refine lv_icmp_ge (tgt := 56) hx hb dX7_isBefore_49 (by decide) (fun c_10 => ?_) (fun c_10 => ?_)
      · -- c_10: nI k ≥ nI j
        refine lv_iconst (v := 0) hx hb dX7_isBefore_56 (by decide) ?_
        refine lv_goto (tgt := 80) hx hb dX7_isBefore_57 (by decide) ?_
        exact rd_zret (v := 0) hx hb hr hlocks dX7_isBefore_80 (by decide) (Or.inr ⟨rfl, fun q => q.elim (fun z => absurd z (by rw [c_3]; exact Int32.lt_irrefl)) (fun z => absurd z.2 (by rw [c_6]; exact Int32.lt_irrefl))⟩)
      · -- c_10: not nI k ≥ nI j
        refine lv_iconst (v := 1) hx hb dX7_isBefore_52 (by decide) ?_
        refine lv_goto (tgt := 80) hx hb dX7_isBefore_53 (by decide) ?_
        exact rd_zret (v := 1) hx hb hr hlocks dX7_isBefore_80 (by decide) (absurd (nI_lt hkj (by omega)) (Int32.not_lt.mpr (Int32.le_of_lt (Int32.not_le.mp c_10))))
  · -- c_3: not Wy (g 4) (g 5) (g 1 0) k = Wy (g 4) (g 5) (g 1 0) j
    refine lv_aload_n hx hb dX7_isBefore_13 rfl (lv_at hl 0 rfl) ?_
    refine lv_iload_n hx hb dX7_isBefore_14 rfl (lv_at hl 1 rfl) ?_
    refine cv_i (As := [.int (nI k)]) (rest := []) (tys := TYS cI cC cB cS) (ci := 7) ⟨hx, hb, hml, hown, hts⟩ (c_X7_way l D cI cC cB cS (ma) (fi) (wd) (g) (lf) (k) (by omega)) (cwV 1 hts gX7_isBefore_X7_way rfl rfl rfl (by decide +kernel) ⟨Nat.le_of_ble_eq_true rfl, Nat.le_of_ble_eq_true rfl⟩) hK hP [0, 1] rfl rfl rfl rfl rfl hl.1 (Nat.le_of_ble_eq_true rfl) dX7_isBefore_15 ⟨Nat.le_of_ble_eq_true rfl, Nat.le_of_ble_eq_true rfl⟩ (fun r_11 hr_11 => ?_)
    have hr_11 : r_11 = Wy (g 4) (g 5) (g 1 0) k := hr_11
    subst hr_11
    refine lv_aload_n hx hb dX7_isBefore_18 rfl (lv_at hl 0 rfl) ?_
    refine lv_iload_n hx hb dX7_isBefore_19 rfl (lv_at hl 2 rfl) ?_
    refine cv_i (As := [.int (nI j)]) (rest := [.int (Wy (g 4) (g 5) (g 1 0) k)]) (tys := TYS cI cC cB cS) (ci := 7) ⟨hx, hb, hml, hown, hts⟩ (c_X7_way l D cI cC cB cS (ma) (fi) (wd) (g) (lf) (j) (by omega)) (cwV 1 hts gX7_isBefore_X7_way rfl rfl rfl (by decide +kernel) ⟨Nat.le_of_ble_eq_true rfl, Nat.le_of_ble_eq_true rfl⟩) hK hP [0, 1] rfl rfl rfl rfl rfl hl.1 (Nat.le_of_ble_eq_true rfl) dX7_isBefore_20 ⟨Nat.le_of_ble_eq_true rfl, Nat.le_of_ble_eq_true rfl⟩ (fun r_12 hr_12 => ?_)
    have hr_12 : r_12 = Wy (g 4) (g 5) (g 1 0) j := hr_12
    subst hr_12
    refine lv_icmp_ge (tgt := 30) hx hb dX7_isBefore_23 (by decide) (fun c_13 => ?_) (fun c_13 => ?_)
    · -- c_13: Wy (g 4) (g 5) (g 1 0) k ≥ Wy (g 4) (g 5) (g 1 0) j
      refine lv_iconst (v := 0) hx hb dX7_isBefore_30 (by decide) ?_
      exact rd_zret (v := 0) hx hb hr hlocks dX7_isBefore_31 (by decide) (Or.inr ⟨rfl, fun q => q.elim (Int32.not_lt.mpr c_13) (fun z => c_3 z.1)⟩)
    · -- c_13: not Wy (g 4) (g 5) (g 1 0) k ≥ Wy (g 4) (g 5) (g 1 0) j
      refine lv_iconst (v := 1) hx hb dX7_isBefore_26 (by decide) ?_
      refine lv_goto (tgt := 31) hx hb dX7_isBefore_27 (by decide) ?_
      exact rd_zret (v := 1) hx hb hr hlocks dX7_isBefore_31 (by decide) (Or.inl ⟨rfl, Or.inl (Int32.not_le.mp c_13)⟩)
set_option maxHeartbeats 4000000 in
set_option maxRecDepth 100000 in
theorem c_X7_isFit (l : Launch) (D : va_G) (cI cC cB cS : ClassId) (ma : Nat → Nat) (fi : Nat → Int32) (wd : Int64) (g : Nat → Nat → Int32) (lf : Int32) (k : Nat) (sz : Int32) (hk : k < 30) : Met l yX7_isFit wsX7_isFit ({ frames := 1, cells := 0, slots := 0, locals := 22 } : Room) (rdPc D (TYS cI cC cB cS) [.ref (ma 0), .int (nI k), .int (sz)] ([mO ma fi wd, (ma 1, iE cI 382 (enc g lf))])) (vp_Si (fun r => Yes (g 7 k = 1 ∧ sz ≤ g 6 k) r)) 0 0 (fun _ => False) := by
  refine rd_intro (by decide) rfl (Nat.le_of_ble_eq_true rfl) ?_
  intro p e s m below meth c hx hb hr hml hts hown hlocks hP hK ls hl
  have hP : va_P D vwCl [(ma 0, oE 7 [.ref (ma 1), .ref (ma 2), .int (fi 0), .ref (ma 3), .ref (ma 4), .int (fi 1), .int (fi 2), .int (fi 3), .long (wd), .int (fi 4), .int (fi 5)]), (ma 1, iE cI 382 (enc g lf))] s.heap := hP
  have hown : s.vm.findClass RX7 = some m.cls := hown
  have hl : lv_has ls 3 [(0, .ref (ma 0)), (1, .int (nI k)), (2, .int (sz))] := hl
  refine lv_aload_n hx hb dX7_isFit_0 rfl (lv_at hl 0 rfl) ?_
  refine lv_iload_n hx hb dX7_isFit_1 rfl (lv_at hl 1 rfl) ?_
  refine lv_iconst (v := 3) hx hb dX7_isFit_2 (by decide) ?_
  refine cv_i (As := [.int (nI k), .int (3)]) (rest := []) (tys := TYS cI cC cB cS) (ci := 7) ⟨hx, hb, hml, hown, hts⟩ (c_X7_of l D cI cC cB cS (ma) (fi) (wd) (g) (lf) (k) (3) (by omega) (by omega)) (cwV 2 hts gX7_isFit_X7_of rfl rfl rfl (by decide +kernel) ⟨Nat.le_of_ble_eq_true rfl, Nat.le_of_ble_eq_true rfl⟩) hK hP [0, 1] rfl rfl rfl rfl rfl hl.1 (Nat.le_of_ble_eq_true rfl) dX7_isFit_3 ⟨Nat.le_of_ble_eq_true rfl, Nat.le_of_ble_eq_true rfl⟩ (fun r_1 hr_1 => ?_)
  have hr_1 : r_1 = g 7 k := hr_1
  subst hr_1
  refine lv_iconst (v := 1) hx hb dX7_isFit_6 (by decide) ?_
  refine lv_icmp_ne (tgt := 24) hx hb dX7_isFit_7 (by decide) (fun c_2 => ?_) (fun c_2 => ?_)
  · -- c_2: g 7 k ≠ 1
    refine lv_iconst (v := 0) hx hb dX7_isFit_24 (by decide) ?_
    exact rd_zret (v := 0) hx hb hr hlocks dX7_isFit_25 (by decide) (Or.inr ⟨rfl, fun q => c_2 q.1⟩)
  · -- c_2: not g 7 k ≠ 1
    refine lv_aload_n hx hb dX7_isFit_10 rfl (lv_at hl 0 rfl) ?_
    refine lv_iload_n hx hb dX7_isFit_11 rfl (lv_at hl 1 rfl) ?_
    refine lv_iconst (v := 2) hx hb dX7_isFit_12 (by decide) ?_
    refine cv_i (As := [.int (nI k), .int (2)]) (rest := []) (tys := TYS cI cC cB cS) (ci := 7) ⟨hx, hb, hml, hown, hts⟩ (c_X7_of l D cI cC cB cS (ma) (fi) (wd) (g) (lf) (k) (2) (by omega) (by omega)) (cwV 2 hts gX7_isFit_X7_of rfl rfl rfl (by decide +kernel) ⟨Nat.le_of_ble_eq_true rfl, Nat.le_of_ble_eq_true rfl⟩) hK hP [0, 1] rfl rfl rfl rfl rfl hl.1 (Nat.le_of_ble_eq_true rfl) dX7_isFit_13 ⟨Nat.le_of_ble_eq_true rfl, Nat.le_of_ble_eq_true rfl⟩ (fun r_3 hr_3 => ?_)
    have hr_3 : r_3 = g 6 k := hr_3
    subst hr_3
    refine lv_iload_n hx hb dX7_isFit_16 rfl (lv_at hl 2 rfl) ?_
    refine lv_icmp_lt (tgt := 24) hx hb dX7_isFit_17 (by decide) (fun c_4 => ?_) (fun c_4 => ?_)
    · -- c_4: g 6 k < sz
      refine lv_iconst (v := 0) hx hb dX7_isFit_24 (by decide) ?_
      exact rd_zret (v := 0) hx hb hr hlocks dX7_isFit_25 (by decide) (Or.inr ⟨rfl, fun q => Int32.not_lt.mpr q.2 c_4⟩)
    · -- c_4: not g 6 k < sz
      refine lv_iconst (v := 1) hx hb dX7_isFit_20 (by decide) ?_
      refine lv_goto (tgt := 25) hx hb dX7_isFit_21 (by decide) ?_
      exact rd_zret (v := 1) hx hb hr hlocks dX7_isFit_25 (by decide) (Or.inl ⟨rfl, c_2, Int32.not_lt.mp c_4⟩)
set_option maxHeartbeats 4000000 in
set_option maxRecDepth 100000 in
theorem c_X7_isAlive (l : Launch) (D : va_G) (cI cC cB cS : ClassId) (ma : Nat → Nat) (fi : Nat → Int32) (wd : Int64) (g : Nat → Nat → Int32) (lf : Int32) (k : Nat) (hk : k < 16) (hs0 : 0 ≤ g 18 k) : Met l yX7_isAlive wsX7_isAlive ({ frames := 1, cells := 0, slots := 0, locals := 22 } : Room) (rdPc D (TYS cI cC cB cS) [.ref (ma 0), .int (nI k)] ([mO ma fi wd, (ma 1, iE cI 382 (enc g lf))])) (vp_Si (fun r => Yes (Alv (g 18) k) r)) 0 0 (fun _ => False) := by
  refine rd_intro (by decide) rfl (Nat.le_of_ble_eq_true rfl) ?_
  intro p e s m below meth c hx hb hr hml hts hown hlocks hP hK ls hl
  have hP : va_P D vwCl [(ma 0, oE 7 [.ref (ma 1), .ref (ma 2), .int (fi 0), .ref (ma 3), .ref (ma 4), .int (fi 1), .int (fi 2), .int (fi 3), .long (wd), .int (fi 4), .int (fi 5)]), (ma 1, iE cI 382 (enc g lf))] s.heap := hP
  have hown : s.vm.findClass RX7 = some m.cls := hown
  have hl : lv_has ls 2 [(0, .ref (ma 0)), (1, .int (nI k))] := hl
  refine lv_aload_n hx hb dX7_isAlive_0 rfl (lv_at hl 0 rfl) ?_
  refine lv_iload_n hx hb dX7_isAlive_1 rfl (lv_at hl 1 rfl) ?_
  refine lv_iconst (v := 5) hx hb dX7_isAlive_2 (by decide) ?_
  refine cv_i (As := [.int (nI k), .int (5)]) (rest := []) (tys := TYS cI cC cB cS) (ci := 7) ⟨hx, hb, hml, hown, hts⟩ (c_X7_about l D cI cC cB cS (ma) (fi) (wd) (g) (lf) (k) (5) (by omega) (by omega)) (cwV 2 hts gX7_isAlive_X7_about rfl rfl rfl (by decide +kernel) ⟨Nat.le_of_ble_eq_true rfl, Nat.le_of_ble_eq_true rfl⟩) hK hP [0, 1] rfl rfl rfl rfl rfl hl.1 (Nat.le_of_ble_eq_true rfl) dX7_isAlive_3 ⟨Nat.le_of_ble_eq_true rfl, Nat.le_of_ble_eq_true rfl⟩ (fun r_1 hr_1 => ?_)
  have hr_1 : r_1 = g 18 k := hr_1
  subst hr_1
  refine lv_iconst (v := 2) hx hb dX7_isAlive_6 (by decide) ?_
  refine lv_icmp_ge (tgt := 14) hx hb dX7_isAlive_7 (by decide) (fun c_2 => ?_) (fun c_2 => ?_)
  · -- c_2: g 18 k ≥ 2
    refine lv_iconst (v := 0) hx hb dX7_isAlive_14 (by decide) ?_
    exact rd_zret (v := 0) hx hb hr hlocks dX7_isAlive_15 (by decide) (Or.inr ⟨rfl, fun q => Int32.not_lt.mpr c_2 ((alv_lt hs0).mpr q)⟩)
  · -- c_2: not g 18 k ≥ 2
    refine lv_iconst (v := 1) hx hb dX7_isAlive_10 (by decide) ?_
    refine lv_goto (tgt := 15) hx hb dX7_isAlive_11 (by decide) ?_
    exact rd_zret (v := 1) hx hb hr hlocks dX7_isAlive_15 (by decide) (Or.inl ⟨rfl, (alv_lt hs0).mp (Int32.not_le.mp c_2)⟩)
set_option maxHeartbeats 4000000 in
set_option maxRecDepth 100000 in
theorem c_X7_holdsNow (l : Launch) (D : va_G) (cI cC cB cS : ClassId) (ma : Nat → Nat) (fi : Nat → Int32) (wd : Int64) (g : Nat → Nat → Int32) (lf : Int32) (k : Nat) (hk : k < 16) (hs0 : 0 ≤ g 18 k) (htm : g 0 0 < 30000) : Met l yX7_holdsNow wsX7_holdsNow ({ frames := 2, cells := 0, slots := 0, locals := 43 } : Room) (rdPc D (TYS cI cC cB cS) [.ref (ma 0), .int (nI k)] ([mO ma fi wd, (ma 1, iE cI 382 (enc g lf))])) (vp_Si (fun r => Yes (Hld (g 18) (g 15) (g 16) (g 0 0) (g 0 0 + 1) (g 1 1) k) r)) 0 0 (fun _ => False) := by
  refine rd_intro (by decide) rfl (Nat.le_of_ble_eq_true rfl) ?_
  intro p e s m below meth c hx hb hr hml hts hown hlocks hP hK ls hl
  have hP : va_P D vwCl [(ma 0, oE 7 [.ref (ma 1), .ref (ma 2), .int (fi 0), .ref (ma 3), .ref (ma 4), .int (fi 1), .int (fi 2), .int (fi 3), .long (wd), .int (fi 4), .int (fi 5)]), (ma 1, iE cI 382 (enc g lf))] s.heap := hP
  have hown : s.vm.findClass RX7 = some m.cls := hown
  have hl : lv_has ls 2 [(0, .ref (ma 0)), (1, .int (nI k))] := hl
  have hst : ∀ w, w = k → 0 ≤ g 18 w := fun w e => by rw [e]; exact hs0
  refine lv_aload_n hx hb dX7_holdsNow_0 rfl (lv_at hl 0 rfl) ?_
  refine lv_iload_n hx hb dX7_holdsNow_1 rfl (lv_at hl 1 rfl) ?_
  refine cv_i (As := [.int (nI k)]) (rest := []) (tys := TYS cI cC cB cS) (ci := 7) ⟨hx, hb, hml, hown, hts⟩ (c_X7_isAlive l D cI cC cB cS (ma) (fi) (wd) (g) (lf) (k) (by omega) (hst _ (by omega))) (cwV 1 hts gX7_holdsNow_X7_isAlive rfl rfl rfl (by decide +kernel) ⟨Nat.le_of_ble_eq_true rfl, Nat.le_of_ble_eq_true rfl⟩) hK hP [0, 1] rfl rfl rfl rfl rfl hl.1 (Nat.le_of_ble_eq_true rfl) dX7_holdsNow_2 ⟨Nat.le_of_ble_eq_true rfl, Nat.le_of_ble_eq_true rfl⟩ (fun r_1 hr_1 => ?_)
  rcases (show Yes (Alv (g 18) k) r_1 from hr_1) with ⟨rfl, h_2⟩ | ⟨rfl, h_2⟩
  · -- X7_isAlive t
    refine if_eq_f (tgt := 46) hx hb (by decide) dX7_holdsNow_5 (by decide) ?_
    refine lv_aload_n hx hb dX7_holdsNow_8 rfl (lv_at hl 0 rfl) ?_
    refine lv_aload_n hx hb dX7_holdsNow_9 rfl (lv_at hl 0 rfl) ?_
    refine lv_iload_n hx hb dX7_holdsNow_10 rfl (lv_at hl 1 rfl) ?_
    refine lv_iconst (v := 2) hx hb dX7_holdsNow_11 (by decide) ?_
    refine cv_i (As := [.int (nI k), .int (2)]) (rest := [.ref (ma 0)]) (tys := TYS cI cC cB cS) (ci := 7) ⟨hx, hb, hml, hown, hts⟩ (c_X7_about l D cI cC cB cS (ma) (fi) (wd) (g) (lf) (k) (2) (by omega) (by omega)) (cwV 2 hts gX7_holdsNow_X7_about rfl rfl rfl (by decide +kernel) ⟨Nat.le_of_ble_eq_true rfl, Nat.le_of_ble_eq_true rfl⟩) hK hP [0, 1] rfl rfl rfl rfl rfl hl.1 (Nat.le_of_ble_eq_true rfl) dX7_holdsNow_12 ⟨Nat.le_of_ble_eq_true rfl, Nat.le_of_ble_eq_true rfl⟩ (fun r_3 hr_3 => ?_)
    have hr_3 : r_3 = g 15 k := hr_3
    subst hr_3
    refine cv_i (As := [.int (g 15 k)]) (rest := []) (tys := TYS cI cC cB cS) (ci := 7) ⟨hx, hb, hml, hown, hts⟩ (c_X7_holdsFrom l D cI cC cB cS (ma) (fi) (wd) (g) (lf) (g 15 k)) (cwV 1 hts gX7_holdsNow_X7_holdsFrom rfl rfl rfl (by decide +kernel) ⟨Nat.le_of_ble_eq_true rfl, Nat.le_of_ble_eq_true rfl⟩) hK hP [0, 1] rfl rfl rfl rfl rfl hl.1 (Nat.le_of_ble_eq_true rfl) dX7_holdsNow_15 ⟨Nat.le_of_ble_eq_true rfl, Nat.le_of_ble_eq_true rfl⟩ (fun r_4 hr_4 => ?_)
    have hr_4 : r_4 = g 15 k - g 1 1 := hr_4
    subst hr_4
    refine lv_aload_n hx hb dX7_holdsNow_18 rfl (lv_at hl 0 rfl) ?_
    refine va_get (D := D) (ci := 7) (v := .ref (ma 1)) (C := RX7) (T := TX7) (N := 11) hx hb hts (by decide +kernel) hown hK.1 hP 0 rfl rfl 0 (by decide) (hts (.fieldLink RX7 7 "ParkingGarageModel" "s" "[I") (by decide +kernel)) (fun _ h9 => h9) rfl dX7_holdsNow_19 ?_
    refine lv_iconst (v := 0) hx hb dX7_holdsNow_22 (by decide) ?_
    refine iald_n (f := enc g lf) hx hb hK.1 hP 1 0 rfl rfl (0) (rfl) (by decide) (by omega) dX7_holdsNow_23 ?_
    rw [show enc g lf (0) = g 0 0 from rfl]
    refine lv_icmp_gt (tgt := 46) hx hb dX7_holdsNow_24 (by decide) (fun c_5 => ?_) (fun c_5 => ?_)
    · -- c_5: g 15 k - g 1 1 > g 0 0
      refine lv_iconst (v := 0) hx hb dX7_holdsNow_46 (by decide) ?_
      exact rd_zret (v := 0) hx hb hr hlocks dX7_holdsNow_47 (by decide) (Or.inr ⟨rfl, fun q => Int32.not_lt.mpr ((le_lt1 htm).mpr q.2.1) c_5⟩)
    · -- c_5: not g 15 k - g 1 1 > g 0 0
      refine lv_aload_n hx hb dX7_holdsNow_27 rfl (lv_at hl 0 rfl) ?_
      refine va_get (D := D) (ci := 7) (v := .ref (ma 1)) (C := RX7) (T := TX7) (N := 11) hx hb hts (by decide +kernel) hown hK.1 hP 0 rfl rfl 0 (by decide) (hts (.fieldLink RX7 7 "ParkingGarageModel" "s" "[I") (by decide +kernel)) (fun _ h9 => h9) rfl dX7_holdsNow_28 ?_
      refine lv_iconst (v := 0) hx hb dX7_holdsNow_31 (by decide) ?_
      refine iald_n (f := enc g lf) hx hb hK.1 hP 1 0 rfl rfl (0) (rfl) (by decide) (by omega) dX7_holdsNow_32 ?_
      rw [show enc g lf (0) = g 0 0 from rfl]
      refine lv_aload_n hx hb dX7_holdsNow_33 rfl (lv_at hl 0 rfl) ?_
      refine lv_iload_n hx hb dX7_holdsNow_34 rfl (lv_at hl 1 rfl) ?_
      refine lv_iconst (v := 3) hx hb dX7_holdsNow_35 (by decide) ?_
      refine cv_i (As := [.int (nI k), .int (3)]) (rest := [.int (g 0 0)]) (tys := TYS cI cC cB cS) (ci := 7) ⟨hx, hb, hml, hown, hts⟩ (c_X7_about l D cI cC cB cS (ma) (fi) (wd) (g) (lf) (k) (3) (by omega) (by omega)) (cwV 2 hts gX7_holdsNow_X7_about rfl rfl rfl (by decide +kernel) ⟨Nat.le_of_ble_eq_true rfl, Nat.le_of_ble_eq_true rfl⟩) hK hP [0, 1] rfl rfl rfl rfl rfl hl.1 (Nat.le_of_ble_eq_true rfl) dX7_holdsNow_36 ⟨Nat.le_of_ble_eq_true rfl, Nat.le_of_ble_eq_true rfl⟩ (fun r_6 hr_6 => ?_)
      have hr_6 : r_6 = g 16 k := hr_6
      subst hr_6
      refine lv_icmp_ge (tgt := 46) hx hb dX7_holdsNow_39 (by decide) (fun c_7 => ?_) (fun c_7 => ?_)
      · -- c_7: g 0 0 ≥ g 16 k
        refine lv_iconst (v := 0) hx hb dX7_holdsNow_46 (by decide) ?_
        exact rd_zret (v := 0) hx hb hr hlocks dX7_holdsNow_47 (by decide) (Or.inr ⟨rfl, fun q => Int32.not_lt.mpr c_7 q.2.2⟩)
      · -- c_7: not g 0 0 ≥ g 16 k
        refine lv_iconst (v := 1) hx hb dX7_holdsNow_42 (by decide) ?_
        refine lv_goto (tgt := 47) hx hb dX7_holdsNow_43 (by decide) ?_
        exact rd_zret (v := 1) hx hb hr hlocks dX7_holdsNow_47 (by decide) (Or.inl ⟨rfl, h_2, (le_lt1 htm).mp (Int32.not_lt.mp c_5), Int32.not_le.mp c_7⟩)
  · -- X7_isAlive f
    refine if_eq_t (tgt := 46) hx hb rfl dX7_holdsNow_5 (by decide) ?_
    refine lv_iconst (v := 0) hx hb dX7_holdsNow_46 (by decide) ?_
    exact rd_zret (v := 0) hx hb hr hlocks dX7_holdsNow_47 (by decide) (Or.inr ⟨rfl, fun q => h_2 q.1⟩)
set_option maxHeartbeats 4000000 in
set_option maxRecDepth 100000 in
theorem c_X7_isBay (l : Launch) (D : va_G) (cI cC cB cS : ClassId) (ma : Nat → Nat) (fi : Nat → Int32) (wd : Int64) (g : Nat → Nat → Int32) (lf : Int32) (n : Nat) (x : Int32) (hn : g 3 0 = nI n) (hnb : n ≤ 30) : Met l yX7_isBay wsX7_isBay ({ frames := 1, cells := 0, slots := 0, locals := 22 } : Room) (rdPc D (TYS cI cC cB cS) [.ref (ma 0), .int (x)] ([mO ma fi wd, (ma 1, iE cI 382 (enc g lf))])) (vp_Si (fun r => Yes (∃ w, w < n ∧ x = nI w) r)) 0 0 (fun _ => False) := by
  refine rd_intro (by decide) rfl (Nat.le_of_ble_eq_true rfl) ?_
  intro p e s m below meth c hx hb hr hml hts hown hlocks hP hK ls hl
  have hP : va_P D vwCl [(ma 0, oE 7 [.ref (ma 1), .ref (ma 2), .int (fi 0), .ref (ma 3), .ref (ma 4), .int (fi 1), .int (fi 2), .int (fi 3), .long (wd), .int (fi 4), .int (fi 5)]), (ma 1, iE cI 382 (enc g lf))] s.heap := hP
  have hown : s.vm.findClass RX7 = some m.cls := hown
  have hl : lv_has ls 2 [(0, .ref (ma 0)), (1, .int (x))] := hl
  refine lv_iload_n hx hb dX7_isBay_0 rfl (lv_at hl 1 rfl) ?_
  refine lv_iconst (v := 0) hx hb dX7_isBay_1 (by decide) ?_
  refine lv_aload_n hx hb dX7_isBay_2 rfl (lv_at hl 0 rfl) ?_
  refine va_get (D := D) (ci := 7) (v := .ref (ma 1)) (C := RX7) (T := TX7) (N := 11) hx hb hts (by decide +kernel) hown hK.1 hP 0 rfl rfl 0 (by decide) (hts (.fieldLink RX7 7 "ParkingGarageModel" "s" "[I") (by decide +kernel)) (fun _ h9 => h9) rfl dX7_isBay_3 ?_
  refine lv_iconst (v := 1) hx hb dX7_isBay_6 (by decide) ?_
  refine iald_n (f := enc g lf) hx hb hK.1 hP 1 0 rfl rfl (1) (rfl) (by decide) (by omega) dX7_isBay_7 ?_
  rw [show enc g lf (1) = nI n from hn]
  refine lv_iconst (v := 1) hx hb dX7_isBay_8 (by decide) ?_
  refine lv_isub hx hb dX7_isBay_9 ?_
  refine cs_i (As := [.int (x), .int (0), .int ((nI n) - (1))]) (rest := []) (tys := TYS cI cC cB cS) ⟨hx, hb, hml, hown, hts⟩ (c_X7_in l D cI cC cB cS (x) (0) ((nI n) - (1))) (va_cwS 3 hts gX7_isBay_X7_in rfl rfl rfl (by decide +kernel) ⟨Nat.le_of_ble_eq_true rfl, Nat.le_of_ble_eq_true rfl⟩) hK hP [] rfl rfl rfl hl.1 (Nat.le_of_ble_eq_true rfl) dX7_isBay_10 ⟨Nat.le_of_ble_eq_true rfl, Nat.le_of_ble_eq_true rfl⟩ (fun r_1 hr_1 => ?_)
  rcases (show Yes (0 ≤ x ∧ x ≤ (nI n) - (1)) r_1 from hr_1) with ⟨rfl, h_2⟩ | ⟨rfl, h_2⟩
  · -- X7_in t
    exact rd_zret (v := 1) hx hb hr hlocks dX7_isBay_13 (by decide) (Or.inl ⟨rfl, (ix_within (by omega)).mp h_2⟩)
  · -- X7_in f
    exact rd_zret (v := 0) hx hb hr hlocks dX7_isBay_13 (by decide) (Or.inr ⟨rfl, fun q => h_2 ((ix_within (by omega)).mpr q)⟩)
set_option maxHeartbeats 4000000 in
set_option maxRecDepth 100000 in
theorem c_X7_isReservation (l : Launch) (D : va_G) (cI cC cB cS : ClassId) (ma : Nat → Nat) (fi : Nat → Int32) (wd : Int64) (g : Nat → Nat → Int32) (lf : Int32) (q : Nat) (x : Int32) (hq : g 12 0 = nI q) (hqc : q ≤ 16) : Met l yX7_isReservation wsX7_isReservation ({ frames := 1, cells := 0, slots := 0, locals := 22 } : Room) (rdPc D (TYS cI cC cB cS) [.ref (ma 0), .int (x)] ([mO ma fi wd, (ma 1, iE cI 382 (enc g lf))])) (vp_Si (fun r => Yes (∃ w, w < q ∧ x = nI w) r)) 0 0 (fun _ => False) := by
  refine rd_intro (by decide) rfl (Nat.le_of_ble_eq_true rfl) ?_
  intro p e s m below meth c hx hb hr hml hts hown hlocks hP hK ls hl
  have hP : va_P D vwCl [(ma 0, oE 7 [.ref (ma 1), .ref (ma 2), .int (fi 0), .ref (ma 3), .ref (ma 4), .int (fi 1), .int (fi 2), .int (fi 3), .long (wd), .int (fi 4), .int (fi 5)]), (ma 1, iE cI 382 (enc g lf))] s.heap := hP
  have hown : s.vm.findClass RX7 = some m.cls := hown
  have hl : lv_has ls 2 [(0, .ref (ma 0)), (1, .int (x))] := hl
  refine lv_iload_n hx hb dX7_isReservation_0 rfl (lv_at hl 1 rfl) ?_
  refine lv_iconst (v := 0) hx hb dX7_isReservation_1 (by decide) ?_
  refine lv_aload_n hx hb dX7_isReservation_2 rfl (lv_at hl 0 rfl) ?_
  refine va_get (D := D) (ci := 7) (v := .ref (ma 1)) (C := RX7) (T := TX7) (N := 11) hx hb hts (by decide +kernel) hown hK.1 hP 0 rfl rfl 0 (by decide) (hts (.fieldLink RX7 7 "ParkingGarageModel" "s" "[I") (by decide +kernel)) (fun _ h9 => h9) rfl dX7_isReservation_3 ?_
  refine lv_iconst (v := 2) hx hb dX7_isReservation_6 (by decide) ?_
  refine iald_n (f := enc g lf) hx hb hK.1 hP 1 0 rfl rfl (2) (rfl) (by decide) (by omega) dX7_isReservation_7 ?_
  rw [show enc g lf (2) = nI q from hq]
  refine lv_iconst (v := 1) hx hb dX7_isReservation_8 (by decide) ?_
  refine lv_isub hx hb dX7_isReservation_9 ?_
  refine cs_i (As := [.int (x), .int (0), .int ((nI q) - (1))]) (rest := []) (tys := TYS cI cC cB cS) ⟨hx, hb, hml, hown, hts⟩ (c_X7_in l D cI cC cB cS (x) (0) ((nI q) - (1))) (va_cwS 3 hts gX7_isReservation_X7_in rfl rfl rfl (by decide +kernel) ⟨Nat.le_of_ble_eq_true rfl, Nat.le_of_ble_eq_true rfl⟩) hK hP [] rfl rfl rfl hl.1 (Nat.le_of_ble_eq_true rfl) dX7_isReservation_10 ⟨Nat.le_of_ble_eq_true rfl, Nat.le_of_ble_eq_true rfl⟩ (fun r_1 hr_1 => ?_)
  rcases (show Yes (0 ≤ x ∧ x ≤ (nI q) - (1)) r_1 from hr_1) with ⟨rfl, h_2⟩ | ⟨rfl, h_2⟩
  · -- X7_in t
    exact rd_zret (v := 1) hx hb hr hlocks dX7_isReservation_13 (by decide) (Or.inl ⟨rfl, (ix_within (by omega)).mp h_2⟩)
  · -- X7_in f
    exact rd_zret (v := 0) hx hb hr hlocks dX7_isReservation_13 (by decide) (Or.inr ⟨rfl, fun q => h_2 ((ix_within (by omega)).mpr q)⟩)
set_option maxHeartbeats 4000000 in
set_option maxRecDepth 100000 in
theorem c_X7_isTaken (l : Launch) (D : va_G) (cI cC cB cS : ClassId) (ma : Nat → Nat) (fi : Nat → Int32) (wd : Int64) (g : Nat → Nat → Int32) (lf : Int32) (n : Nat) (lv : Int32) (ps : Int32) (hn : g 3 0 = nI n) (hnb : n ≤ 30) : Met l yX7_isTaken wsX7_isTaken ({ frames := 1, cells := 0, slots := 0, locals := 22 } : Room) (rdPc D (TYS cI cC cB cS) [.ref (ma 0), .int (lv), .int (ps)] ([mO ma fi wd, (ma 1, iE cI 382 (enc g lf))])) (vp_Si (fun r => Yes (∃ w, w < n ∧ g 4 w = lv ∧ g 5 w = ps) r)) 0 0 (fun _ => False) := by
  refine rd_intro (by decide) rfl (Nat.le_of_ble_eq_true rfl) ?_
  intro p e s m below meth c hx hb hr hml hts hown hlocks hP hK ls hl
  have hP : va_P D vwCl [(ma 0, oE 7 [.ref (ma 1), .ref (ma 2), .int (fi 0), .ref (ma 3), .ref (ma 4), .int (fi 1), .int (fi 2), .int (fi 3), .long (wd), .int (fi 4), .int (fi 5)]), (ma 1, iE cI 382 (enc g lf))] s.heap := hP
  have hown : s.vm.findClass RX7 = some m.cls := hown
  have hl : lv_has ls 5 [(0, .ref (ma 0)), (1, .int (lv)), (2, .int (ps))] := hl
  refine lv_iconst (v := 0) hx hb dX7_isTaken_0 (by decide) ?_
  refine lv_istore_n (lv' := [(3, .int (0)), (0, .ref (ma 0)), (1, .int (lv)), (2, .int (ps))]) hx hb dX7_isTaken_1 rfl hl (by decide) rfl (fun ls hl => ?_)
  refine lv_iconst (v := 0) hx hb dX7_isTaken_2 (by decide) ?_
  refine lv_istore (lv' := [(4, .int (0)), (3, .int (0)), (0, .ref (ma 0)), (1, .int (lv)), (2, .int (ps))]) hx hb dX7_isTaken_3 hl (by decide) rfl (fun ls hl => ?_)
  have hloop : ∀ (d i : Nat) (z : Int32), i ≤ n → n - i < d → (Yes (∃ w, w < i ∧ g 4 w = lv ∧ g 5 w = ps) z) → ∀ ls : Array Slot, lv_has ls 5 [(3, .int (z)), (4, .int (nI i)), (0, .ref (ma 0)), (1, .int (lv)), (2, .int (ps))] → W p l e ({ frames := 1, cells := 0, slots := 0, locals := 22 } : Room) s m (([.ref (ma 0), .int (lv), .int (ps)] : List Value).toArray) below meth c s.heap [] 0 0 (MQ below (vp_Si (fun r => Yes (∃ w, w < n ∧ g 4 w = lv ∧ g 5 w = ps) r)) (([.ref (ma 0), .int (lv), .int (ps)] : List Value).toArray) s 0 0 (fun _ => False)) (F0 m 5 ls []) := by
    intro d
    induction d with
    | zero => intro i _ _ h2; exact absurd h2 (Nat.not_lt_zero _)
    | succ d ih =>
      intro i z hi hd hz ls hl
      refine lv_iload hx hb dX7_isTaken_5 (lv_at hl 1 rfl) ?_
      refine lv_aload_n hx hb dX7_isTaken_7 rfl (lv_at hl 2 rfl) ?_
      refine va_get (D := D) (ci := 7) (v := .ref (ma 1)) (C := RX7) (T := TX7) (N := 11) hx hb hts (by decide +kernel) hown hK.1 hP 0 rfl rfl 0 (by decide) (hts (.fieldLink RX7 7 "ParkingGarageModel" "s" "[I") (by decide +kernel)) (fun _ h9 => h9) rfl dX7_isTaken_8 ?_
      refine lv_iconst (v := 1) hx hb dX7_isTaken_11 (by decide) ?_
      refine iald_n (f := enc g lf) hx hb hK.1 hP 1 0 rfl rfl (1) (rfl) (by decide) (by omega) dX7_isTaken_12 ?_
      rw [show enc g lf (1) = nI n from hn]
      refine lv_icmp_ge (tgt := 54) hx hb dX7_isTaken_13 (by decide) (fun c_1 => ?_) (fun c_1 => ?_)
      · -- c_1: nI i ≥ nI n
        have hge : i = n := nI_geD (n := n) rfl hi (by omega) c_1
        subst hge
        refine lv_iload_n hx hb dX7_isTaken_54 rfl (lv_at hl 0 rfl) ?_
        exact rd_zret (v := z) hx hb hr hlocks dX7_isTaken_55 (Yes.nar hz) (hz)
      · -- c_1: not nI i ≥ nI n
        have hlt : i < n := nI_ltD (n := n) rfl hi (by omega) c_1
        refine lv_iload_n hx hb dX7_isTaken_16 rfl (lv_at hl 0 rfl) ?_
        refine lv_if_ne (tgt := 42) hx hb dX7_isTaken_17 (by decide) (fun c_2 => ?_) (fun c_2 => ?_)
        · -- c_2: z ≠ 0
          refine lv_iconst (v := 1) hx hb dX7_isTaken_42 (by decide) ?_
          refine lv_goto (tgt := 47) hx hb dX7_isTaken_43 (by decide) ?_
          refine lv_istore_n (lv' := [(3, .int (1)), (4, .int (nI i)), (0, .ref (ma 0)), (1, .int (lv)), (2, .int (ps))]) hx hb dX7_isTaken_47 rfl hl (by decide) rfl (fun ls hl => ?_)
          refine lv_iinc (v := nI (i + 1)) (lv' := [(4, .int (nI (i + 1))), (3, .int (1)), (0, .ref (ma 0)), (1, .int (lv)), (2, .int (ps))]) hx hb dX7_isTaken_48 hl (k := 1) rfl (nI_1 _) (by decide) rfl (fun ls hl => ?_)
          refine lv_goto (tgt := 5) hx hb dX7_isTaken_51 (by decide) ?_
          exact ih (i + 1) (1) (by omega) (by omega) (yes_or1 hz c_2) ls (lv_sub hl [1, 0, 2, 3, 4] rfl)
        · -- c_2: not z ≠ 0
          refine lv_aload_n hx hb dX7_isTaken_20 rfl (lv_at hl 2 rfl) ?_
          refine lv_iload hx hb dX7_isTaken_21 (lv_at hl 1 rfl) ?_
          refine lv_iconst (v := 0) hx hb dX7_isTaken_23 (by decide) ?_
          refine cv_i (As := [.int (nI i), .int (0)]) (rest := []) (tys := TYS cI cC cB cS) (ci := 7) ⟨hx, hb, hml, hown, hts⟩ (c_X7_of l D cI cC cB cS (ma) (fi) (wd) (g) (lf) (i) (0) (by omega) (by omega)) (cwV 2 hts gX7_isTaken_X7_of rfl rfl rfl (by decide +kernel) ⟨Nat.le_of_ble_eq_true rfl, Nat.le_of_ble_eq_true rfl⟩) hK hP [0, 1] rfl rfl rfl rfl rfl hl.1 (Nat.le_of_ble_eq_true rfl) dX7_isTaken_24 ⟨Nat.le_of_ble_eq_true rfl, Nat.le_of_ble_eq_true rfl⟩ (fun r_3 hr_3 => ?_)
          have hr_3 : r_3 = g 4 i := hr_3
          subst hr_3
          refine lv_iload_n hx hb dX7_isTaken_27 rfl (lv_at hl 3 rfl) ?_
          refine lv_icmp_ne (tgt := 46) hx hb dX7_isTaken_28 (by decide) (fun c_4 => ?_) (fun c_4 => ?_)
          · -- c_4: g 4 i ≠ lv
            refine lv_iconst (v := 0) hx hb dX7_isTaken_46 (by decide) ?_
            refine lv_istore_n (lv' := [(3, .int (0)), (4, .int (nI i)), (0, .ref (ma 0)), (1, .int (lv)), (2, .int (ps))]) hx hb dX7_isTaken_47 rfl hl (by decide) rfl (fun ls hl => ?_)
            refine lv_iinc (v := nI (i + 1)) (lv' := [(4, .int (nI (i + 1))), (3, .int (0)), (0, .ref (ma 0)), (1, .int (lv)), (2, .int (ps))]) hx hb dX7_isTaken_48 hl (k := 1) rfl (nI_1 _) (by decide) rfl (fun ls hl => ?_)
            refine lv_goto (tgt := 5) hx hb dX7_isTaken_51 (by decide) ?_
            exact ih (i + 1) (0) (by omega) (by omega) (yes_or3 hz c_2 (fun q => c_4 q.1)) ls (lv_sub hl [1, 0, 2, 3, 4] rfl)
          · -- c_4: not g 4 i ≠ lv
            refine lv_aload_n hx hb dX7_isTaken_31 rfl (lv_at hl 2 rfl) ?_
            refine lv_iload hx hb dX7_isTaken_32 (lv_at hl 1 rfl) ?_
            refine lv_iconst (v := 1) hx hb dX7_isTaken_34 (by decide) ?_
            refine cv_i (As := [.int (nI i), .int (1)]) (rest := []) (tys := TYS cI cC cB cS) (ci := 7) ⟨hx, hb, hml, hown, hts⟩ (c_X7_of l D cI cC cB cS (ma) (fi) (wd) (g) (lf) (i) (1) (by omega) (by omega)) (cwV 2 hts gX7_isTaken_X7_of rfl rfl rfl (by decide +kernel) ⟨Nat.le_of_ble_eq_true rfl, Nat.le_of_ble_eq_true rfl⟩) hK hP [0, 1] rfl rfl rfl rfl rfl hl.1 (Nat.le_of_ble_eq_true rfl) dX7_isTaken_35 ⟨Nat.le_of_ble_eq_true rfl, Nat.le_of_ble_eq_true rfl⟩ (fun r_5 hr_5 => ?_)
            have hr_5 : r_5 = g 5 i := hr_5
            subst hr_5
            refine lv_iload_n hx hb dX7_isTaken_38 rfl (lv_at hl 4 rfl) ?_
            refine lv_icmp_ne (tgt := 46) hx hb dX7_isTaken_39 (by decide) (fun c_6 => ?_) (fun c_6 => ?_)
            · -- c_6: g 5 i ≠ ps
              refine lv_iconst (v := 0) hx hb dX7_isTaken_46 (by decide) ?_
              refine lv_istore_n (lv' := [(3, .int (0)), (4, .int (nI i)), (0, .ref (ma 0)), (1, .int (lv)), (2, .int (ps))]) hx hb dX7_isTaken_47 rfl hl (by decide) rfl (fun ls hl => ?_)
              refine lv_iinc (v := nI (i + 1)) (lv' := [(4, .int (nI (i + 1))), (3, .int (0)), (0, .ref (ma 0)), (1, .int (lv)), (2, .int (ps))]) hx hb dX7_isTaken_48 hl (k := 1) rfl (nI_1 _) (by decide) rfl (fun ls hl => ?_)
              refine lv_goto (tgt := 5) hx hb dX7_isTaken_51 (by decide) ?_
              exact ih (i + 1) (0) (by omega) (by omega) (yes_or3 hz c_2 (fun q => c_6 q.2)) ls (lv_sub hl [1, 0, 2, 3, 4] rfl)
            · -- c_6: not g 5 i ≠ ps
              refine lv_iconst (v := 1) hx hb dX7_isTaken_42 (by decide) ?_
              refine lv_goto (tgt := 47) hx hb dX7_isTaken_43 (by decide) ?_
              refine lv_istore_n (lv' := [(3, .int (1)), (4, .int (nI i)), (0, .ref (ma 0)), (1, .int (lv)), (2, .int (ps))]) hx hb dX7_isTaken_47 rfl hl (by decide) rfl (fun ls hl => ?_)
              refine lv_iinc (v := nI (i + 1)) (lv' := [(4, .int (nI (i + 1))), (3, .int (1)), (0, .ref (ma 0)), (1, .int (lv)), (2, .int (ps))]) hx hb dX7_isTaken_48 hl (k := 1) rfl (nI_1 _) (by decide) rfl (fun ls hl => ?_)
              refine lv_goto (tgt := 5) hx hb dX7_isTaken_51 (by decide) ?_
              exact ih (i + 1) (1) (by omega) (by omega) (yes_or2 (⟨c_4, c_6⟩)) ls (lv_sub hl [1, 0, 2, 3, 4] rfl)
  exact hloop (n + 1) 0 (0) (by omega) (by omega) (yes_or0) ls (lv_sub hl [1, 0, 2, 3, 4] rfl)
set_option maxHeartbeats 4000000 in
set_option maxRecDepth 100000 in
theorem c_X7_isHeld (l : Launch) (D : va_G) (cI cC cB cS : ClassId) (ma : Nat → Nat) (fi : Nat → Int32) (wd : Int64) (g : Nat → Nat → Int32) (lf : Int32) (q : Nat) (x : Int32) (fr : Int32) (un : Int32) (hq : g 12 0 = nI q) (hqc : q ≤ 16) (hst : ∀ w, w < q → 0 ≤ g 18 w) : Met l yX7_isHeld wsX7_isHeld ({ frames := 2, cells := 0, slots := 0, locals := 43 } : Room) (rdPc D (TYS cI cC cB cS) [.ref (ma 0), .int (x), .int (fr), .int (un)] ([mO ma fi wd, (ma 1, iE cI 382 (enc g lf))])) (vp_Si (fun r => Yes (∃ w, w < q ∧ HeldB (g 14) (g 18) (g 15) (g 16) (fr) (un) (g 1 1) (x) w) r)) 0 0 (fun _ => False) := by
  refine rd_intro (by decide) rfl (Nat.le_of_ble_eq_true rfl) ?_
  intro p e s m below meth c hx hb hr hml hts hown hlocks hP hK ls hl
  have hP : va_P D vwCl [(ma 0, oE 7 [.ref (ma 1), .ref (ma 2), .int (fi 0), .ref (ma 3), .ref (ma 4), .int (fi 1), .int (fi 2), .int (fi 3), .long (wd), .int (fi 4), .int (fi 5)]), (ma 1, iE cI 382 (enc g lf))] s.heap := hP
  have hown : s.vm.findClass RX7 = some m.cls := hown
  have hl : lv_has ls 6 [(0, .ref (ma 0)), (1, .int (x)), (2, .int (fr)), (3, .int (un))] := hl
  refine lv_iconst (v := 0) hx hb dX7_isHeld_0 (by decide) ?_
  refine lv_istore (lv' := [(4, .int (0)), (0, .ref (ma 0)), (1, .int (x)), (2, .int (fr)), (3, .int (un))]) hx hb dX7_isHeld_1 hl (by decide) rfl (fun ls hl => ?_)
  refine lv_iconst (v := 0) hx hb dX7_isHeld_3 (by decide) ?_
  refine lv_istore (lv' := [(5, .int (0)), (4, .int (0)), (0, .ref (ma 0)), (1, .int (x)), (2, .int (fr)), (3, .int (un))]) hx hb dX7_isHeld_4 hl (by decide) rfl (fun ls hl => ?_)
  have hloop : ∀ (d i : Nat) (z : Int32), i ≤ q → q - i < d → (Yes (∃ w, w < i ∧ HeldB (g 14) (g 18) (g 15) (g 16) (fr) (un) (g 1 1) (x) w) z) → ∀ ls : Array Slot, lv_has ls 6 [(4, .int (z)), (5, .int (nI i)), (0, .ref (ma 0)), (1, .int (x)), (2, .int (fr)), (3, .int (un))] → W p l e ({ frames := 2, cells := 0, slots := 0, locals := 43 } : Room) s m (([.ref (ma 0), .int (x), .int (fr), .int (un)] : List Value).toArray) below meth c s.heap [] 0 0 (MQ below (vp_Si (fun r => Yes (∃ w, w < q ∧ HeldB (g 14) (g 18) (g 15) (g 16) (fr) (un) (g 1 1) (x) w) r)) (([.ref (ma 0), .int (x), .int (fr), .int (un)] : List Value).toArray) s 0 0 (fun _ => False)) (F0 m 6 ls []) := by
    intro d
    induction d with
    | zero => intro i _ _ h2; exact absurd h2 (Nat.not_lt_zero _)
    | succ d ih =>
      intro i z hi hd hz ls hl
      refine lv_iload hx hb dX7_isHeld_6 (lv_at hl 1 rfl) ?_
      refine lv_aload_n hx hb dX7_isHeld_8 rfl (lv_at hl 2 rfl) ?_
      refine va_get (D := D) (ci := 7) (v := .ref (ma 1)) (C := RX7) (T := TX7) (N := 11) hx hb hts (by decide +kernel) hown hK.1 hP 0 rfl rfl 0 (by decide) (hts (.fieldLink RX7 7 "ParkingGarageModel" "s" "[I") (by decide +kernel)) (fun _ h9 => h9) rfl dX7_isHeld_9 ?_
      refine lv_iconst (v := 2) hx hb dX7_isHeld_12 (by decide) ?_
      refine iald_n (f := enc g lf) hx hb hK.1 hP 1 0 rfl rfl (2) (rfl) (by decide) (by omega) dX7_isHeld_13 ?_
      rw [show enc g lf (2) = nI q from hq]
      refine lv_icmp_ge (tgt := 81) hx hb dX7_isHeld_14 (by decide) (fun c_1 => ?_) (fun c_1 => ?_)
      · -- c_1: nI i ≥ nI q
        have hge : i = q := nI_geD (n := q) rfl hi (by omega) c_1
        subst hge
        refine lv_iload hx hb dX7_isHeld_81 (lv_at hl 0 rfl) ?_
        exact rd_zret (v := z) hx hb hr hlocks dX7_isHeld_83 (Yes.nar hz) (hz)
      · -- c_1: not nI i ≥ nI q
        have hlt : i < q := nI_ltD (n := q) rfl hi (by omega) c_1
        refine lv_iload hx hb dX7_isHeld_17 (lv_at hl 0 rfl) ?_
        refine lv_if_ne (tgt := 68) hx hb dX7_isHeld_19 (by decide) (fun c_2 => ?_) (fun c_2 => ?_)
        · -- c_2: z ≠ 0
          refine lv_iconst (v := 1) hx hb dX7_isHeld_68 (by decide) ?_
          refine lv_goto (tgt := 73) hx hb dX7_isHeld_69 (by decide) ?_
          refine lv_istore (lv' := [(4, .int (1)), (5, .int (nI i)), (0, .ref (ma 0)), (1, .int (x)), (2, .int (fr)), (3, .int (un))]) hx hb dX7_isHeld_73 hl (by decide) rfl (fun ls hl => ?_)
          refine lv_iinc (v := nI (i + 1)) (lv' := [(5, .int (nI (i + 1))), (4, .int (1)), (0, .ref (ma 0)), (1, .int (x)), (2, .int (fr)), (3, .int (un))]) hx hb dX7_isHeld_75 hl (k := 1) rfl (nI_1 _) (by decide) rfl (fun ls hl => ?_)
          refine lv_goto (tgt := 6) hx hb dX7_isHeld_78 (by decide) ?_
          exact ih (i + 1) (1) (by omega) (by omega) (yes_or1 hz c_2) ls (lv_sub hl [1, 0, 2, 3, 4, 5] rfl)
        · -- c_2: not z ≠ 0
          refine lv_aload_n hx hb dX7_isHeld_22 rfl (lv_at hl 2 rfl) ?_
          refine lv_iload hx hb dX7_isHeld_23 (lv_at hl 1 rfl) ?_
          refine lv_iconst (v := 1) hx hb dX7_isHeld_25 (by decide) ?_
          refine cv_i (As := [.int (nI i), .int (1)]) (rest := []) (tys := TYS cI cC cB cS) (ci := 7) ⟨hx, hb, hml, hown, hts⟩ (c_X7_about l D cI cC cB cS (ma) (fi) (wd) (g) (lf) (i) (1) (by omega) (by omega)) (cwV 2 hts gX7_isHeld_X7_about rfl rfl rfl (by decide +kernel) ⟨Nat.le_of_ble_eq_true rfl, Nat.le_of_ble_eq_true rfl⟩) hK hP [0, 1] rfl rfl rfl rfl rfl hl.1 (Nat.le_of_ble_eq_true rfl) dX7_isHeld_26 ⟨Nat.le_of_ble_eq_true rfl, Nat.le_of_ble_eq_true rfl⟩ (fun r_3 hr_3 => ?_)
          have hr_3 : r_3 = g 14 i := hr_3
          subst hr_3
          refine lv_iload_n hx hb dX7_isHeld_29 rfl (lv_at hl 3 rfl) ?_
          refine lv_icmp_ne (tgt := 72) hx hb dX7_isHeld_30 (by decide) (fun c_4 => ?_) (fun c_4 => ?_)
          · -- c_4: g 14 i ≠ x
            refine lv_iconst (v := 0) hx hb dX7_isHeld_72 (by decide) ?_
            refine lv_istore (lv' := [(4, .int (0)), (5, .int (nI i)), (0, .ref (ma 0)), (1, .int (x)), (2, .int (fr)), (3, .int (un))]) hx hb dX7_isHeld_73 hl (by decide) rfl (fun ls hl => ?_)
            refine lv_iinc (v := nI (i + 1)) (lv' := [(5, .int (nI (i + 1))), (4, .int (0)), (0, .ref (ma 0)), (1, .int (x)), (2, .int (fr)), (3, .int (un))]) hx hb dX7_isHeld_75 hl (k := 1) rfl (nI_1 _) (by decide) rfl (fun ls hl => ?_)
            refine lv_goto (tgt := 6) hx hb dX7_isHeld_78 (by decide) ?_
            exact ih (i + 1) (0) (by omega) (by omega) (yes_or3 hz c_2 (fun q => c_4 q.1)) ls (lv_sub hl [1, 0, 2, 3, 4, 5] rfl)
          · -- c_4: not g 14 i ≠ x
            refine lv_aload_n hx hb dX7_isHeld_33 rfl (lv_at hl 2 rfl) ?_
            refine lv_iload hx hb dX7_isHeld_34 (lv_at hl 1 rfl) ?_
            refine cv_i (As := [.int (nI i)]) (rest := []) (tys := TYS cI cC cB cS) (ci := 7) ⟨hx, hb, hml, hown, hts⟩ (c_X7_isAlive l D cI cC cB cS (ma) (fi) (wd) (g) (lf) (i) (by omega) (hst _ (by omega))) (cwV 1 hts gX7_isHeld_X7_isAlive rfl rfl rfl (by decide +kernel) ⟨Nat.le_of_ble_eq_true rfl, Nat.le_of_ble_eq_true rfl⟩) hK hP [0, 1] rfl rfl rfl rfl rfl hl.1 (Nat.le_of_ble_eq_true rfl) dX7_isHeld_36 ⟨Nat.le_of_ble_eq_true rfl, Nat.le_of_ble_eq_true rfl⟩ (fun r_5 hr_5 => ?_)
            rcases (show Yes (Alv (g 18) i) r_5 from hr_5) with ⟨rfl, h_6⟩ | ⟨rfl, h_6⟩
            · -- X7_isAlive t
              refine if_eq_f (tgt := 72) hx hb (by decide) dX7_isHeld_39 (by decide) ?_
              refine lv_aload_n hx hb dX7_isHeld_42 rfl (lv_at hl 2 rfl) ?_
              refine lv_aload_n hx hb dX7_isHeld_43 rfl (lv_at hl 2 rfl) ?_
              refine lv_iload hx hb dX7_isHeld_44 (lv_at hl 1 rfl) ?_
              refine lv_iconst (v := 2) hx hb dX7_isHeld_46 (by decide) ?_
              refine cv_i (As := [.int (nI i), .int (2)]) (rest := [.ref (ma 0)]) (tys := TYS cI cC cB cS) (ci := 7) ⟨hx, hb, hml, hown, hts⟩ (c_X7_about l D cI cC cB cS (ma) (fi) (wd) (g) (lf) (i) (2) (by omega) (by omega)) (cwV 2 hts gX7_isHeld_X7_about rfl rfl rfl (by decide +kernel) ⟨Nat.le_of_ble_eq_true rfl, Nat.le_of_ble_eq_true rfl⟩) hK hP [0, 1] rfl rfl rfl rfl rfl hl.1 (Nat.le_of_ble_eq_true rfl) dX7_isHeld_47 ⟨Nat.le_of_ble_eq_true rfl, Nat.le_of_ble_eq_true rfl⟩ (fun r_7 hr_7 => ?_)
              have hr_7 : r_7 = g 15 i := hr_7
              subst hr_7
              refine cv_i (As := [.int (g 15 i)]) (rest := []) (tys := TYS cI cC cB cS) (ci := 7) ⟨hx, hb, hml, hown, hts⟩ (c_X7_holdsFrom l D cI cC cB cS (ma) (fi) (wd) (g) (lf) (g 15 i)) (cwV 1 hts gX7_isHeld_X7_holdsFrom rfl rfl rfl (by decide +kernel) ⟨Nat.le_of_ble_eq_true rfl, Nat.le_of_ble_eq_true rfl⟩) hK hP [0, 1] rfl rfl rfl rfl rfl hl.1 (Nat.le_of_ble_eq_true rfl) dX7_isHeld_50 ⟨Nat.le_of_ble_eq_true rfl, Nat.le_of_ble_eq_true rfl⟩ (fun r_8 hr_8 => ?_)
              have hr_8 : r_8 = g 15 i - g 1 1 := hr_8
              subst hr_8
              refine lv_iload_n hx hb dX7_isHeld_53 rfl (lv_at hl 5 rfl) ?_
              refine lv_icmp_ge (tgt := 72) hx hb dX7_isHeld_54 (by decide) (fun c_9 => ?_) (fun c_9 => ?_)
              · -- c_9: g 15 i - g 1 1 ≥ un
                refine lv_iconst (v := 0) hx hb dX7_isHeld_72 (by decide) ?_
                refine lv_istore (lv' := [(4, .int (0)), (5, .int (nI i)), (0, .ref (ma 0)), (1, .int (x)), (2, .int (fr)), (3, .int (un))]) hx hb dX7_isHeld_73 hl (by decide) rfl (fun ls hl => ?_)
                refine lv_iinc (v := nI (i + 1)) (lv' := [(5, .int (nI (i + 1))), (4, .int (0)), (0, .ref (ma 0)), (1, .int (x)), (2, .int (fr)), (3, .int (un))]) hx hb dX7_isHeld_75 hl (k := 1) rfl (nI_1 _) (by decide) rfl (fun ls hl => ?_)
                refine lv_goto (tgt := 6) hx hb dX7_isHeld_78 (by decide) ?_
                exact ih (i + 1) (0) (by omega) (by omega) (yes_or3 hz c_2 (fun q => Int32.not_lt.mpr c_9 q.2.2.1)) ls (lv_sub hl [1, 0, 2, 3, 4, 5] rfl)
              · -- c_9: not g 15 i - g 1 1 ≥ un
                refine lv_iload_n hx hb dX7_isHeld_57 rfl (lv_at hl 4 rfl) ?_
                refine lv_aload_n hx hb dX7_isHeld_58 rfl (lv_at hl 2 rfl) ?_
                refine lv_iload hx hb dX7_isHeld_59 (lv_at hl 1 rfl) ?_
                refine lv_iconst (v := 3) hx hb dX7_isHeld_61 (by decide) ?_
                refine cv_i (As := [.int (nI i), .int (3)]) (rest := [.int (fr)]) (tys := TYS cI cC cB cS) (ci := 7) ⟨hx, hb, hml, hown, hts⟩ (c_X7_about l D cI cC cB cS (ma) (fi) (wd) (g) (lf) (i) (3) (by omega) (by omega)) (cwV 2 hts gX7_isHeld_X7_about rfl rfl rfl (by decide +kernel) ⟨Nat.le_of_ble_eq_true rfl, Nat.le_of_ble_eq_true rfl⟩) hK hP [0, 1] rfl rfl rfl rfl rfl hl.1 (Nat.le_of_ble_eq_true rfl) dX7_isHeld_62 ⟨Nat.le_of_ble_eq_true rfl, Nat.le_of_ble_eq_true rfl⟩ (fun r_10 hr_10 => ?_)
                have hr_10 : r_10 = g 16 i := hr_10
                subst hr_10
                refine lv_icmp_ge (tgt := 72) hx hb dX7_isHeld_65 (by decide) (fun c_11 => ?_) (fun c_11 => ?_)
                · -- c_11: fr ≥ g 16 i
                  refine lv_iconst (v := 0) hx hb dX7_isHeld_72 (by decide) ?_
                  refine lv_istore (lv' := [(4, .int (0)), (5, .int (nI i)), (0, .ref (ma 0)), (1, .int (x)), (2, .int (fr)), (3, .int (un))]) hx hb dX7_isHeld_73 hl (by decide) rfl (fun ls hl => ?_)
                  refine lv_iinc (v := nI (i + 1)) (lv' := [(5, .int (nI (i + 1))), (4, .int (0)), (0, .ref (ma 0)), (1, .int (x)), (2, .int (fr)), (3, .int (un))]) hx hb dX7_isHeld_75 hl (k := 1) rfl (nI_1 _) (by decide) rfl (fun ls hl => ?_)
                  refine lv_goto (tgt := 6) hx hb dX7_isHeld_78 (by decide) ?_
                  exact ih (i + 1) (0) (by omega) (by omega) (yes_or3 hz c_2 (fun q => Int32.not_lt.mpr c_11 q.2.2.2)) ls (lv_sub hl [1, 0, 2, 3, 4, 5] rfl)
                · -- c_11: not fr ≥ g 16 i
                  refine lv_iconst (v := 1) hx hb dX7_isHeld_68 (by decide) ?_
                  refine lv_goto (tgt := 73) hx hb dX7_isHeld_69 (by decide) ?_
                  refine lv_istore (lv' := [(4, .int (1)), (5, .int (nI i)), (0, .ref (ma 0)), (1, .int (x)), (2, .int (fr)), (3, .int (un))]) hx hb dX7_isHeld_73 hl (by decide) rfl (fun ls hl => ?_)
                  refine lv_iinc (v := nI (i + 1)) (lv' := [(5, .int (nI (i + 1))), (4, .int (1)), (0, .ref (ma 0)), (1, .int (x)), (2, .int (fr)), (3, .int (un))]) hx hb dX7_isHeld_75 hl (k := 1) rfl (nI_1 _) (by decide) rfl (fun ls hl => ?_)
                  refine lv_goto (tgt := 6) hx hb dX7_isHeld_78 (by decide) ?_
                  exact ih (i + 1) (1) (by omega) (by omega) (yes_or2 (⟨c_4, h_6, Int32.not_le.mp c_9, Int32.not_le.mp c_11⟩)) ls (lv_sub hl [1, 0, 2, 3, 4, 5] rfl)
            · -- X7_isAlive f
              refine if_eq_t (tgt := 72) hx hb rfl dX7_isHeld_39 (by decide) ?_
              refine lv_iconst (v := 0) hx hb dX7_isHeld_72 (by decide) ?_
              refine lv_istore (lv' := [(4, .int (0)), (5, .int (nI i)), (0, .ref (ma 0)), (1, .int (x)), (2, .int (fr)), (3, .int (un))]) hx hb dX7_isHeld_73 hl (by decide) rfl (fun ls hl => ?_)
              refine lv_iinc (v := nI (i + 1)) (lv' := [(5, .int (nI (i + 1))), (4, .int (0)), (0, .ref (ma 0)), (1, .int (x)), (2, .int (fr)), (3, .int (un))]) hx hb dX7_isHeld_75 hl (k := 1) rfl (nI_1 _) (by decide) rfl (fun ls hl => ?_)
              refine lv_goto (tgt := 6) hx hb dX7_isHeld_78 (by decide) ?_
              exact ih (i + 1) (0) (by omega) (by omega) (yes_or3 hz c_2 (fun q => h_6 q.2.1)) ls (lv_sub hl [1, 0, 2, 3, 4, 5] rfl)
  exact hloop (q + 1) 0 (0) (by omega) (by omega) (yes_or0) ls (lv_sub hl [1, 0, 2, 3, 4, 5] rfl)
set_option maxHeartbeats 4000000 in
set_option maxRecDepth 100000 in
theorem c_X7_holder (l : Launch) (D : va_G) (cI cC cB cS : ClassId) (ma : Nat → Nat) (fi : Nat → Int32) (wd : Int64) (g : Nat → Nat → Int32) (lf : Int32) (q : Nat) (x : Int32) (hq : g 12 0 = nI q) (hqc : q ≤ 16) (hst : ∀ w, w < q → 0 ≤ g 18 w) (htm : g 0 0 < 30000) : Met l yX7_holder wsX7_holder ({ frames := 3, cells := 0, slots := 0, locals := 64 } : Room) (rdPc D (TYS cI cC cB cS) [.ref (ma 0), .int (x)] ([mO ma fi wd, (ma 1, iE cI 382 (enc g lf))])) (vp_Si (fun r => Fst (fun w => HeldB (g 14) (g 18) (g 15) (g 16) (g 0 0) (g 0 0 + 1) (g 1 1) (x) w) q r)) 0 0 (fun _ => False) := by
  refine rd_intro (by decide) rfl (Nat.le_of_ble_eq_true rfl) ?_
  intro p e s m below meth c hx hb hr hml hts hown hlocks hP hK ls hl
  have hP : va_P D vwCl [(ma 0, oE 7 [.ref (ma 1), .ref (ma 2), .int (fi 0), .ref (ma 3), .ref (ma 4), .int (fi 1), .int (fi 2), .int (fi 3), .long (wd), .int (fi 4), .int (fi 5)]), (ma 1, iE cI 382 (enc g lf))] s.heap := hP
  have hown : s.vm.findClass RX7 = some m.cls := hown
  have hl : lv_has ls 3 [(0, .ref (ma 0)), (1, .int (x))] := hl
  refine lv_iconst (v := 0) hx hb dX7_holder_0 (by decide) ?_
  refine lv_istore_n (lv' := [(2, .int (0)), (0, .ref (ma 0)), (1, .int (x))]) hx hb dX7_holder_1 rfl hl (by decide) rfl (fun ls hl => ?_)
  have hloop : ∀ (d i : Nat), i ≤ q → q - i < d → (∀ j, j < i → ¬ (HeldB (g 14) (g 18) (g 15) (g 16) (g 0 0) (g 0 0 + 1) (g 1 1) (x) j)) → ∀ ls : Array Slot, lv_has ls 3 [(2, .int (nI i)), (0, .ref (ma 0)), (1, .int (x))] → W p l e ({ frames := 3, cells := 0, slots := 0, locals := 64 } : Room) s m (([.ref (ma 0), .int (x)] : List Value).toArray) below meth c s.heap [] 0 0 (MQ below (vp_Si (fun r => Fst (fun w => HeldB (g 14) (g 18) (g 15) (g 16) (g 0 0) (g 0 0 + 1) (g 1 1) (x) w) q r)) (([.ref (ma 0), .int (x)] : List Value).toArray) s 0 0 (fun _ => False)) (F0 m 2 ls []) := by
    intro d
    induction d with
    | zero => intro i _ h2; exact absurd h2 (Nat.not_lt_zero _)
    | succ d ih =>
      intro i hi hd hno ls hl
      refine lv_iload_n hx hb dX7_holder_2 rfl (lv_at hl 0 rfl) ?_
      refine lv_aload_n hx hb dX7_holder_3 rfl (lv_at hl 1 rfl) ?_
      refine va_get (D := D) (ci := 7) (v := .ref (ma 1)) (C := RX7) (T := TX7) (N := 11) hx hb hts (by decide +kernel) hown hK.1 hP 0 rfl rfl 0 (by decide) (hts (.fieldLink RX7 7 "ParkingGarageModel" "s" "[I") (by decide +kernel)) (fun _ h9 => h9) rfl dX7_holder_4 ?_
      refine lv_iconst (v := 2) hx hb dX7_holder_7 (by decide) ?_
      refine iald_n (f := enc g lf) hx hb hK.1 hP 1 0 rfl rfl (2) (rfl) (by decide) (by omega) dX7_holder_8 ?_
      rw [show enc g lf (2) = nI q from hq]
      refine lv_icmp_ge (tgt := 38) hx hb dX7_holder_9 (by decide) (fun c_1 => ?_) (fun c_1 => ?_)
      · -- c_1: nI i ≥ nI q
        have hge : i = q := nI_geD (n := q) rfl hi (by omega) c_1
        subst hge
        refine lv_bipush (v := -9) hx hb dX7_holder_38 (by decide) ?_
        exact rd_iret (v := -9) hx hb hr hlocks dX7_holder_40 (Fst.none hno)
      · -- c_1: not nI i ≥ nI q
        have hlt : i < q := nI_ltD (n := q) rfl hi (by omega) c_1
        refine lv_aload_n hx hb dX7_holder_12 rfl (lv_at hl 1 rfl) ?_
        refine lv_iload_n hx hb dX7_holder_13 rfl (lv_at hl 0 rfl) ?_
        refine lv_iconst (v := 1) hx hb dX7_holder_14 (by decide) ?_
        refine cv_i (As := [.int (nI i), .int (1)]) (rest := []) (tys := TYS cI cC cB cS) (ci := 7) ⟨hx, hb, hml, hown, hts⟩ (c_X7_about l D cI cC cB cS (ma) (fi) (wd) (g) (lf) (i) (1) (by omega) (by omega)) (cwV 2 hts gX7_holder_X7_about rfl rfl rfl (by decide +kernel) ⟨Nat.le_of_ble_eq_true rfl, Nat.le_of_ble_eq_true rfl⟩) hK hP [0, 1] rfl rfl rfl rfl rfl hl.1 (Nat.le_of_ble_eq_true rfl) dX7_holder_15 ⟨Nat.le_of_ble_eq_true rfl, Nat.le_of_ble_eq_true rfl⟩ (fun r_2 hr_2 => ?_)
        have hr_2 : r_2 = g 14 i := hr_2
        subst hr_2
        refine lv_iload_n hx hb dX7_holder_18 rfl (lv_at hl 2 rfl) ?_
        refine lv_icmp_ne (tgt := 32) hx hb dX7_holder_19 (by decide) (fun c_3 => ?_) (fun c_3 => ?_)
        · -- c_3: g 14 i ≠ x
          refine lv_iinc (v := nI (i + 1)) (lv' := [(2, .int (nI (i + 1))), (0, .ref (ma 0)), (1, .int (x))]) hx hb dX7_holder_32 hl (k := 0) rfl (nI_1 _) (by decide) rfl (fun ls hl => ?_)
          refine lv_goto (tgt := 2) hx hb dX7_holder_35 (by decide) ?_
          exact ih (i + 1) (by omega) (by omega) (all_s hno (fun q => c_3 q.1)) ls (lv_sub hl [0, 1, 2] rfl)
        · -- c_3: not g 14 i ≠ x
          refine lv_aload_n hx hb dX7_holder_22 rfl (lv_at hl 1 rfl) ?_
          refine lv_iload_n hx hb dX7_holder_23 rfl (lv_at hl 0 rfl) ?_
          refine cv_i (As := [.int (nI i)]) (rest := []) (tys := TYS cI cC cB cS) (ci := 7) ⟨hx, hb, hml, hown, hts⟩ (c_X7_holdsNow l D cI cC cB cS (ma) (fi) (wd) (g) (lf) (i) (by omega) (hst _ (by omega)) (htm)) (cwV 1 hts gX7_holder_X7_holdsNow rfl rfl rfl (by decide +kernel) ⟨Nat.le_of_ble_eq_true rfl, Nat.le_of_ble_eq_true rfl⟩) hK hP [0, 1] rfl rfl rfl rfl rfl hl.1 (Nat.le_of_ble_eq_true rfl) dX7_holder_24 ⟨Nat.le_of_ble_eq_true rfl, Nat.le_of_ble_eq_true rfl⟩ (fun r_4 hr_4 => ?_)
          rcases (show Yes (Hld (g 18) (g 15) (g 16) (g 0 0) (g 0 0 + 1) (g 1 1) i) r_4 from hr_4) with ⟨rfl, h_5⟩ | ⟨rfl, h_5⟩
          · -- X7_holdsNow t
            refine if_eq_f (tgt := 32) hx hb (by decide) dX7_holder_27 (by decide) ?_
            refine lv_iload_n hx hb dX7_holder_30 rfl (lv_at hl 0 rfl) ?_
            exact rd_iret (v := nI i) hx hb hr hlocks dX7_holder_31 (Fst.hit hlt ⟨c_3, h_5⟩ hno)
          · -- X7_holdsNow f
            refine if_eq_t (tgt := 32) hx hb rfl dX7_holder_27 (by decide) ?_
            refine lv_iinc (v := nI (i + 1)) (lv' := [(2, .int (nI (i + 1))), (0, .ref (ma 0)), (1, .int (x))]) hx hb dX7_holder_32 hl (k := 0) rfl (nI_1 _) (by decide) rfl (fun ls hl => ?_)
            refine lv_goto (tgt := 2) hx hb dX7_holder_35 (by decide) ?_
            exact ih (i + 1) (by omega) (by omega) (all_s hno (fun q => h_5 q.2)) ls (lv_sub hl [0, 1, 2] rfl)
  exact hloop (q + 1) 0 (by omega) (by omega) (all_0) ls (lv_sub hl [0, 1, 2] rfl)
set_option maxHeartbeats 4000000 in
set_option maxRecDepth 100000 in
theorem c_X7_bayOf (l : Launch) (D : va_G) (cI cC cB cS : ClassId) (ma : Nat → Nat) (fi : Nat → Int32) (wd : Int64) (g : Nat → Nat → Int32) (lf : Int32) (n : Nat) (x : Int32) (hn : g 3 0 = nI n) (hnb : n ≤ 30) : Met l yX7_bayOf wsX7_bayOf ({ frames := 1, cells := 0, slots := 0, locals := 22 } : Room) (rdPc D (TYS cI cC cB cS) [.ref (ma 0), .int (x)] ([mO ma fi wd, (ma 1, iE cI 382 (enc g lf))])) (vp_Si (fun r => Fst (fun w => g 8 w = x) n r)) 0 0 (fun _ => False) := by
  refine rd_intro (by decide) rfl (Nat.le_of_ble_eq_true rfl) ?_
  intro p e s m below meth c hx hb hr hml hts hown hlocks hP hK ls hl
  have hP : va_P D vwCl [(ma 0, oE 7 [.ref (ma 1), .ref (ma 2), .int (fi 0), .ref (ma 3), .ref (ma 4), .int (fi 1), .int (fi 2), .int (fi 3), .long (wd), .int (fi 4), .int (fi 5)]), (ma 1, iE cI 382 (enc g lf))] s.heap := hP
  have hown : s.vm.findClass RX7 = some m.cls := hown
  have hl : lv_has ls 3 [(0, .ref (ma 0)), (1, .int (x))] := hl
  refine lv_iconst (v := 0) hx hb dX7_bayOf_0 (by decide) ?_
  refine lv_istore_n (lv' := [(2, .int (0)), (0, .ref (ma 0)), (1, .int (x))]) hx hb dX7_bayOf_1 rfl hl (by decide) rfl (fun ls hl => ?_)
  have hloop : ∀ (d i : Nat), i ≤ n → n - i < d → (∀ j, j < i → ¬ (g 8 j = x)) → ∀ ls : Array Slot, lv_has ls 3 [(2, .int (nI i)), (0, .ref (ma 0)), (1, .int (x))] → W p l e ({ frames := 1, cells := 0, slots := 0, locals := 22 } : Room) s m (([.ref (ma 0), .int (x)] : List Value).toArray) below meth c s.heap [] 0 0 (MQ below (vp_Si (fun r => Fst (fun w => g 8 w = x) n r)) (([.ref (ma 0), .int (x)] : List Value).toArray) s 0 0 (fun _ => False)) (F0 m 2 ls []) := by
    intro d
    induction d with
    | zero => intro i _ h2; exact absurd h2 (Nat.not_lt_zero _)
    | succ d ih =>
      intro i hi hd hno ls hl
      refine lv_iload_n hx hb dX7_bayOf_2 rfl (lv_at hl 0 rfl) ?_
      refine lv_aload_n hx hb dX7_bayOf_3 rfl (lv_at hl 1 rfl) ?_
      refine va_get (D := D) (ci := 7) (v := .ref (ma 1)) (C := RX7) (T := TX7) (N := 11) hx hb hts (by decide +kernel) hown hK.1 hP 0 rfl rfl 0 (by decide) (hts (.fieldLink RX7 7 "ParkingGarageModel" "s" "[I") (by decide +kernel)) (fun _ h9 => h9) rfl dX7_bayOf_4 ?_
      refine lv_iconst (v := 1) hx hb dX7_bayOf_7 (by decide) ?_
      refine iald_n (f := enc g lf) hx hb hK.1 hP 1 0 rfl rfl (1) (rfl) (by decide) (by omega) dX7_bayOf_8 ?_
      rw [show enc g lf (1) = nI n from hn]
      refine lv_icmp_ge (tgt := 30) hx hb dX7_bayOf_9 (by decide) (fun c_1 => ?_) (fun c_1 => ?_)
      · -- c_1: nI i ≥ nI n
        have hge : i = n := nI_geD (n := n) rfl hi (by omega) c_1
        subst hge
        refine lv_bipush (v := -9) hx hb dX7_bayOf_30 (by decide) ?_
        exact rd_iret (v := -9) hx hb hr hlocks dX7_bayOf_32 (Fst.none hno)
      · -- c_1: not nI i ≥ nI n
        have hlt : i < n := nI_ltD (n := n) rfl hi (by omega) c_1
        refine lv_aload_n hx hb dX7_bayOf_12 rfl (lv_at hl 1 rfl) ?_
        refine lv_iload_n hx hb dX7_bayOf_13 rfl (lv_at hl 0 rfl) ?_
        refine lv_iconst (v := 4) hx hb dX7_bayOf_14 (by decide) ?_
        refine cv_i (As := [.int (nI i), .int (4)]) (rest := []) (tys := TYS cI cC cB cS) (ci := 7) ⟨hx, hb, hml, hown, hts⟩ (c_X7_of l D cI cC cB cS (ma) (fi) (wd) (g) (lf) (i) (4) (by omega) (by omega)) (cwV 2 hts gX7_bayOf_X7_of rfl rfl rfl (by decide +kernel) ⟨Nat.le_of_ble_eq_true rfl, Nat.le_of_ble_eq_true rfl⟩) hK hP [0, 1] rfl rfl rfl rfl rfl hl.1 (Nat.le_of_ble_eq_true rfl) dX7_bayOf_15 ⟨Nat.le_of_ble_eq_true rfl, Nat.le_of_ble_eq_true rfl⟩ (fun r_2 hr_2 => ?_)
        have hr_2 : r_2 = g 8 i := hr_2
        subst hr_2
        refine lv_iload_n hx hb dX7_bayOf_18 rfl (lv_at hl 2 rfl) ?_
        refine lv_icmp_ne (tgt := 24) hx hb dX7_bayOf_19 (by decide) (fun c_3 => ?_) (fun c_3 => ?_)
        · -- c_3: g 8 i ≠ x
          refine lv_iinc (v := nI (i + 1)) (lv' := [(2, .int (nI (i + 1))), (0, .ref (ma 0)), (1, .int (x))]) hx hb dX7_bayOf_24 hl (k := 0) rfl (nI_1 _) (by decide) rfl (fun ls hl => ?_)
          refine lv_goto (tgt := 2) hx hb dX7_bayOf_27 (by decide) ?_
          exact ih (i + 1) (by omega) (by omega) (all_s hno c_3) ls (lv_sub hl [0, 1, 2] rfl)
        · -- c_3: not g 8 i ≠ x
          refine lv_iload_n hx hb dX7_bayOf_22 rfl (lv_at hl 0 rfl) ?_
          exact rd_iret (v := nI i) hx hb hr hlocks dX7_bayOf_23 (Fst.hit hlt c_3 hno)
  exact hloop (n + 1) 0 (by omega) (by omega) (all_0) ls (lv_sub hl [0, 1, 2] rfl)
set_option maxHeartbeats 4000000 in
set_option maxRecDepth 100000 in
theorem c_X7_isFree (l : Launch) (D : va_G) (cI cC cB cS : ClassId) (ma : Nat → Nat) (fi : Nat → Int32) (wd : Int64) (g : Nat → Nat → Int32) (lf : Int32) (q : Nat) (k : Nat) (hq : g 12 0 = nI q) (hqc : q ≤ 16) (hst : ∀ w, w < q → 0 ≤ g 18 w) (htm : g 0 0 < 30000) (hk : k < 30) : Met l yX7_isFree wsX7_isFree ({ frames := 4, cells := 0, slots := 0, locals := 86 } : Room) (rdPc D (TYS cI cC cB cS) [.ref (ma 0), .int (nI k)] ([mO ma fi wd, (ma 1, iE cI 382 (enc g lf))])) (vp_Si (fun r => Yes (g 7 k = 1 ∧ g 8 k = 0 ∧ ¬ ∃ w, w < q ∧ HeldB (g 14) (g 18) (g 15) (g 16) (g 0 0) (g 0 0 + 1) (g 1 1) (nI k) w) r)) 0 0 (fun _ => False) := by
  refine rd_intro (by decide) rfl (Nat.le_of_ble_eq_true rfl) ?_
  intro p e s m below meth c hx hb hr hml hts hown hlocks hP hK ls hl
  have hP : va_P D vwCl [(ma 0, oE 7 [.ref (ma 1), .ref (ma 2), .int (fi 0), .ref (ma 3), .ref (ma 4), .int (fi 1), .int (fi 2), .int (fi 3), .long (wd), .int (fi 4), .int (fi 5)]), (ma 1, iE cI 382 (enc g lf))] s.heap := hP
  have hown : s.vm.findClass RX7 = some m.cls := hown
  have hl : lv_has ls 2 [(0, .ref (ma 0)), (1, .int (nI k))] := hl
  refine lv_aload_n hx hb dX7_isFree_0 rfl (lv_at hl 0 rfl) ?_
  refine lv_iload_n hx hb dX7_isFree_1 rfl (lv_at hl 1 rfl) ?_
  refine lv_iconst (v := 3) hx hb dX7_isFree_2 (by decide) ?_
  refine cv_i (As := [.int (nI k), .int (3)]) (rest := []) (tys := TYS cI cC cB cS) (ci := 7) ⟨hx, hb, hml, hown, hts⟩ (c_X7_of l D cI cC cB cS (ma) (fi) (wd) (g) (lf) (k) (3) (by omega) (by omega)) (cwV 2 hts gX7_isFree_X7_of rfl rfl rfl (by decide +kernel) ⟨Nat.le_of_ble_eq_true rfl, Nat.le_of_ble_eq_true rfl⟩) hK hP [0, 1] rfl rfl rfl rfl rfl hl.1 (Nat.le_of_ble_eq_true rfl) dX7_isFree_3 ⟨Nat.le_of_ble_eq_true rfl, Nat.le_of_ble_eq_true rfl⟩ (fun r_1 hr_1 => ?_)
  have hr_1 : r_1 = g 7 k := hr_1
  subst hr_1
  refine lv_iconst (v := 1) hx hb dX7_isFree_6 (by decide) ?_
  refine lv_icmp_ne (tgt := 33) hx hb dX7_isFree_7 (by decide) (fun c_2 => ?_) (fun c_2 => ?_)
  · -- c_2: g 7 k ≠ 1
    refine lv_iconst (v := 0) hx hb dX7_isFree_33 (by decide) ?_
    exact rd_zret (v := 0) hx hb hr hlocks dX7_isFree_34 (by decide) (Or.inr ⟨rfl, fun q => c_2 q.1⟩)
  · -- c_2: not g 7 k ≠ 1
    refine lv_aload_n hx hb dX7_isFree_10 rfl (lv_at hl 0 rfl) ?_
    refine lv_iload_n hx hb dX7_isFree_11 rfl (lv_at hl 1 rfl) ?_
    refine lv_iconst (v := 4) hx hb dX7_isFree_12 (by decide) ?_
    refine cv_i (As := [.int (nI k), .int (4)]) (rest := []) (tys := TYS cI cC cB cS) (ci := 7) ⟨hx, hb, hml, hown, hts⟩ (c_X7_of l D cI cC cB cS (ma) (fi) (wd) (g) (lf) (k) (4) (by omega) (by omega)) (cwV 2 hts gX7_isFree_X7_of rfl rfl rfl (by decide +kernel) ⟨Nat.le_of_ble_eq_true rfl, Nat.le_of_ble_eq_true rfl⟩) hK hP [0, 1] rfl rfl rfl rfl rfl hl.1 (Nat.le_of_ble_eq_true rfl) dX7_isFree_13 ⟨Nat.le_of_ble_eq_true rfl, Nat.le_of_ble_eq_true rfl⟩ (fun r_3 hr_3 => ?_)
    have hr_3 : r_3 = g 8 k := hr_3
    subst hr_3
    refine lv_if_ne (tgt := 33) hx hb dX7_isFree_16 (by decide) (fun c_4 => ?_) (fun c_4 => ?_)
    · -- c_4: g 8 k ≠ 0
      refine lv_iconst (v := 0) hx hb dX7_isFree_33 (by decide) ?_
      exact rd_zret (v := 0) hx hb hr hlocks dX7_isFree_34 (by decide) (Or.inr ⟨rfl, fun q => c_4 q.2.1⟩)
    · -- c_4: not g 8 k ≠ 0
      refine lv_aload_n hx hb dX7_isFree_19 rfl (lv_at hl 0 rfl) ?_
      refine lv_iload_n hx hb dX7_isFree_20 rfl (lv_at hl 1 rfl) ?_
      refine cv_i (As := [.int (nI k)]) (rest := []) (tys := TYS cI cC cB cS) (ci := 7) ⟨hx, hb, hml, hown, hts⟩ (c_X7_holder l D cI cC cB cS (ma) (fi) (wd) (g) (lf) (q) (nI k) (hq) (hqc) (hst) (htm)) (cwV 1 hts gX7_isFree_X7_holder rfl rfl rfl (by decide +kernel) ⟨Nat.le_of_ble_eq_true rfl, Nat.le_of_ble_eq_true rfl⟩) hK hP [0, 1] rfl rfl rfl rfl rfl hl.1 (Nat.le_of_ble_eq_true rfl) dX7_isFree_21 ⟨Nat.le_of_ble_eq_true rfl, Nat.le_of_ble_eq_true rfl⟩ (fun r_5 hr_5 => ?_)
      have hr_5 : Fst (fun w => HeldB (g 14) (g 18) (g 15) (g 16) (g 0 0) (g 0 0 + 1) (g 1 1) (nI k) w) q r_5 := hr_5
      refine lv_bipush (v := -9) hx hb dX7_isFree_24 (by decide) ?_
      refine lv_icmp_ne (tgt := 33) hx hb dX7_isFree_26 (by decide) (fun c_6 => ?_) (fun c_6 => ?_)
      · -- c_6: r_5 ≠ -9
        refine lv_iconst (v := 0) hx hb dX7_isFree_33 (by decide) ?_
        exact rd_zret (v := 0) hx hb hr hlocks dX7_isFree_34 (by decide) (Or.inr ⟨rfl, fun q => q.2.2 (m9_isf hr_5 c_6)⟩)
      · -- c_6: not r_5 ≠ -9
        refine lv_iconst (v := 1) hx hb dX7_isFree_29 (by decide) ?_
        refine lv_goto (tgt := 34) hx hb dX7_isFree_30 (by decide) ?_
        exact rd_zret (v := 1) hx hb hr hlocks dX7_isFree_34 (by decide) (Or.inl ⟨rfl, c_2, c_4, fun z => m9_nof (by omega) hr_5 c_6 z⟩)
set_option maxHeartbeats 4000000 in
set_option maxRecDepth 100000 in
theorem c_X7_guided (l : Launch) (D : va_G) (cI cC cB cS : ClassId) (ma : Nat → Nat) (fi : Nat → Int32) (wd : Int64) (g : Nat → Nat → Int32) (lf : Int32) (n : Nat) (q : Nat) (sz : Int32) (hn : g 3 0 = nI n) (hnb : n ≤ 30) (hq : g 12 0 = nI q) (hqc : q ≤ 16) (hst : ∀ w, w < q → 0 ≤ g 18 w) (htm : g 0 0 < 30000) : Met l yX7_guided wsX7_guided ({ frames := 5, cells := 0, slots := 0, locals := 107 } : Room) (rdPc D (TYS cI cC cB cS) [.ref (ma 0), .int (sz)] ([mO ma fi wd, (ma 1, iE cI 382 (enc g lf))])) (vp_Si (fun r => aFirst g n q (sz) r)) 0 0 (fun _ => False) := by
  refine rd_intro (by decide) rfl (Nat.le_of_ble_eq_true rfl) ?_
  intro p e s m below meth c hx hb hr hml hts hown hlocks hP hK ls hl
  have hP : va_P D vwCl [(ma 0, oE 7 [.ref (ma 1), .ref (ma 2), .int (fi 0), .ref (ma 3), .ref (ma 4), .int (fi 1), .int (fi 2), .int (fi 3), .long (wd), .int (fi 4), .int (fi 5)]), (ma 1, iE cI 382 (enc g lf))] s.heap := hP
  have hown : s.vm.findClass RX7 = some m.cls := hown
  have hl : lv_has ls 4 [(0, .ref (ma 0)), (1, .int (sz))] := hl
  refine lv_bipush (v := -9) hx hb dX7_guided_0 (by decide) ?_
  refine lv_istore_n (lv' := [(2, .int (-9)), (0, .ref (ma 0)), (1, .int (sz))]) hx hb dX7_guided_2 rfl hl (by decide) rfl (fun ls hl => ?_)
  refine lv_iconst (v := 0) hx hb dX7_guided_3 (by decide) ?_
  refine lv_istore_n (lv' := [(3, .int (0)), (2, .int (-9)), (0, .ref (ma 0)), (1, .int (sz))]) hx hb dX7_guided_4 rfl hl (by decide) rfl (fun ls hl => ?_)
  have hloop : ∀ (d i : Nat) (z : Int32), i ≤ n → n - i < d → (Wlk (-9) (Imp (fun j z => (g 7 j = 1 ∧ sz ≤ g 6 j ∧ g 8 j = 0 ∧ ¬ (∃ i, i < q ∧ HeldB (g 14) (g 18) (g 15) (g 16) (g 0 0) (g 0 0 + 1) (g 1 1) (nI j) i)) ∧ Btr (g 4) (g 5) (g 6) (g 1 0) n j z) nI) i z) → (z = -9 ∨ ∃ j, j < i ∧ z = nI j) → ∀ ls : Array Slot, lv_has ls 4 [(2, .int (z)), (3, .int (nI i)), (0, .ref (ma 0)), (1, .int (sz))] → W p l e ({ frames := 5, cells := 0, slots := 0, locals := 107 } : Room) s m (([.ref (ma 0), .int (sz)] : List Value).toArray) below meth c s.heap [] 0 0 (MQ below (vp_Si (fun r => aFirst g n q (sz) r)) (([.ref (ma 0), .int (sz)] : List Value).toArray) s 0 0 (fun _ => False)) (F0 m 5 ls []) := by
    intro d
    induction d with
    | zero => intro i _ _ h2; exact absurd h2 (Nat.not_lt_zero _)
    | succ d ih =>
      intro i z hi hd hw hzr ls hl
      refine lv_iload_n hx hb dX7_guided_5 rfl (lv_at hl 1 rfl) ?_
      refine lv_aload_n hx hb dX7_guided_6 rfl (lv_at hl 2 rfl) ?_
      refine va_get (D := D) (ci := 7) (v := .ref (ma 1)) (C := RX7) (T := TX7) (N := 11) hx hb hts (by decide +kernel) hown hK.1 hP 0 rfl rfl 0 (by decide) (hts (.fieldLink RX7 7 "ParkingGarageModel" "s" "[I") (by decide +kernel)) (fun _ h9 => h9) rfl dX7_guided_7 ?_
      refine lv_iconst (v := 1) hx hb dX7_guided_10 (by decide) ?_
      refine iald_n (f := enc g lf) hx hb hK.1 hP 1 0 rfl rfl (1) (rfl) (by decide) (by omega) dX7_guided_11 ?_
      rw [show enc g lf (1) = nI n from hn]
      refine lv_icmp_ge (tgt := 59) hx hb dX7_guided_12 (by decide) (fun c_1 => ?_) (fun c_1 => ?_)
      · -- c_1: nI i ≥ nI n
        have hge : i = n := nI_geD (n := n) rfl hi (by omega) c_1
        refine lv_iload_n hx hb dX7_guided_59 rfl (lv_at hl 0 rfl) ?_
        exact rd_iret (v := z) hx hb hr hlocks dX7_guided_60 (by rw [hge] at hw; exact hw)
      · -- c_1: not nI i ≥ nI n
        have hlt : i < n := nI_ltD (n := n) rfl hi (by omega) c_1
        refine lv_aload_n hx hb dX7_guided_15 rfl (lv_at hl 2 rfl) ?_
        refine lv_iload_n hx hb dX7_guided_16 rfl (lv_at hl 1 rfl) ?_
        refine cv_i (As := [.int (nI i)]) (rest := []) (tys := TYS cI cC cB cS) (ci := 7) ⟨hx, hb, hml, hown, hts⟩ (c_X7_isFree l D cI cC cB cS (ma) (fi) (wd) (g) (lf) (q) (i) (hq) (hqc) (hst) (htm) (by omega)) (cwV 1 hts gX7_guided_X7_isFree rfl rfl rfl (by decide +kernel) ⟨Nat.le_of_ble_eq_true rfl, Nat.le_of_ble_eq_true rfl⟩) hK hP [0, 1] rfl rfl rfl rfl rfl hl.1 (Nat.le_of_ble_eq_true rfl) dX7_guided_17 ⟨Nat.le_of_ble_eq_true rfl, Nat.le_of_ble_eq_true rfl⟩ (fun r_2 hr_2 => ?_)
        rcases (show Yes (g 7 i = 1 ∧ g 8 i = 0 ∧ ¬ ∃ w, w < q ∧ HeldB (g 14) (g 18) (g 15) (g 16) (g 0 0) (g 0 0 + 1) (g 1 1) (nI i) w) r_2 from hr_2) with ⟨rfl, h_3⟩ | ⟨rfl, h_3⟩
        · -- X7_isFree t
          refine if_eq_f (tgt := 51) hx hb (by decide) dX7_guided_20 (by decide) ?_
          refine lv_aload_n hx hb dX7_guided_23 rfl (lv_at hl 2 rfl) ?_
          refine lv_iload_n hx hb dX7_guided_24 rfl (lv_at hl 1 rfl) ?_
          refine lv_iload_n hx hb dX7_guided_25 rfl (lv_at hl 3 rfl) ?_
          refine cv_i (As := [.int (nI i), .int (sz)]) (rest := []) (tys := TYS cI cC cB cS) (ci := 7) ⟨hx, hb, hml, hown, hts⟩ (c_X7_isFit l D cI cC cB cS (ma) (fi) (wd) (g) (lf) (i) (sz) (by omega)) (cwV 2 hts gX7_guided_X7_isFit rfl rfl rfl (by decide +kernel) ⟨Nat.le_of_ble_eq_true rfl, Nat.le_of_ble_eq_true rfl⟩) hK hP [0, 1] rfl rfl rfl rfl rfl hl.1 (Nat.le_of_ble_eq_true rfl) dX7_guided_26 ⟨Nat.le_of_ble_eq_true rfl, Nat.le_of_ble_eq_true rfl⟩ (fun r_4 hr_4 => ?_)
          rcases (show Yes (g 7 i = 1 ∧ sz ≤ g 6 i) r_4 from hr_4) with ⟨rfl, h_5⟩ | ⟨rfl, h_5⟩
          · -- X7_isFit t
            refine if_eq_f (tgt := 51) hx hb (by decide) dX7_guided_29 (by decide) ?_
            refine lv_iload_n hx hb dX7_guided_32 rfl (lv_at hl 0 rfl) ?_
            refine lv_bipush (v := -9) hx hb dX7_guided_33 (by decide) ?_
            refine lv_icmp_eq (tgt := 47) hx hb dX7_guided_35 (by decide) (fun c_6 => ?_) (fun c_6 => ?_)
            · -- c_6: z = -9
              refine lv_iload_n hx hb dX7_guided_47 rfl (lv_at hl 1 rfl) ?_
              refine lv_goto (tgt := 52) hx hb dX7_guided_48 (by decide) ?_
              refine lv_istore_n (lv' := [(2, .int (nI i)), (3, .int (nI i)), (0, .ref (ma 0)), (1, .int (sz))]) hx hb dX7_guided_52 rfl hl (by decide) rfl (fun ls hl => ?_)
              refine lv_iinc (v := nI (i + 1)) (lv' := [(3, .int (nI (i + 1))), (2, .int (nI i)), (0, .ref (ma 0)), (1, .int (sz))]) hx hb dX7_guided_53 hl (k := 1) rfl (nI_1 _) (by decide) rfl (fun ls hl => ?_)
              refine lv_goto (tgt := 5) hx hb dX7_guided_56 (by decide) ?_
              exact ih (i + 1) (nI i) (by omega) (by omega) (hw.s (Imp.yes ⟨⟨h_5.1, h_5.2, h_3.2.1, h_3.2.2⟩, Or.inl (fun j hj e => m9_ne hj (by omega) (c_6.symm.trans e))⟩)) (Or.inr ⟨i, by omega, rfl⟩) ls (lv_sub hl [1, 0, 2, 3] rfl)
            · -- c_6: not z = -9
              obtain ⟨j, hji, hzj⟩ := hzr.resolve_left c_6
              subst hzj
              refine lv_aload_n hx hb dX7_guided_38 rfl (lv_at hl 2 rfl) ?_
              refine lv_iload_n hx hb dX7_guided_39 rfl (lv_at hl 1 rfl) ?_
              refine lv_iload_n hx hb dX7_guided_40 rfl (lv_at hl 0 rfl) ?_
              refine cv_i (As := [.int (nI i), .int (nI j)]) (rest := []) (tys := TYS cI cC cB cS) (ci := 7) ⟨hx, hb, hml, hown, hts⟩ (c_X7_isBefore l D cI cC cB cS (ma) (fi) (wd) (g) (lf) (i) (j) (by omega) (by omega)) (cwV 2 hts gX7_guided_X7_isBefore rfl rfl rfl (by decide +kernel) ⟨Nat.le_of_ble_eq_true rfl, Nat.le_of_ble_eq_true rfl⟩) hK hP [0, 1] rfl rfl rfl rfl rfl hl.1 (Nat.le_of_ble_eq_true rfl) dX7_guided_41 ⟨Nat.le_of_ble_eq_true rfl, Nat.le_of_ble_eq_true rfl⟩ (fun r_7 hr_7 => ?_)
              rcases (show Yes (Bef (g 4) (g 5) (g 6) (g 1 0) i j) r_7 from hr_7) with ⟨rfl, h_8⟩ | ⟨rfl, h_8⟩
              · -- X7_isBefore t
                refine if_eq_f (tgt := 51) hx hb (by decide) dX7_guided_44 (by decide) ?_
                refine lv_iload_n hx hb dX7_guided_47 rfl (lv_at hl 1 rfl) ?_
                refine lv_goto (tgt := 52) hx hb dX7_guided_48 (by decide) ?_
                refine lv_istore_n (lv' := [(2, .int (nI i)), (3, .int (nI i)), (0, .ref (ma 0)), (1, .int (sz))]) hx hb dX7_guided_52 rfl hl (by decide) rfl (fun ls hl => ?_)
                refine lv_iinc (v := nI (i + 1)) (lv' := [(3, .int (nI (i + 1))), (2, .int (nI i)), (0, .ref (ma 0)), (1, .int (sz))]) hx hb dX7_guided_53 hl (k := 1) rfl (nI_1 _) (by decide) rfl (fun ls hl => ?_)
                refine lv_goto (tgt := 5) hx hb dX7_guided_56 (by decide) ?_
                exact ih (i + 1) (nI i) (by omega) (by omega) (hw.s (Imp.yes ⟨⟨h_5.1, h_5.2, h_3.2.1, h_3.2.2⟩, Or.inr ⟨j, by omega, rfl, h_8⟩⟩)) (Or.inr ⟨i, by omega, rfl⟩) ls (lv_sub hl [1, 0, 2, 3] rfl)
              · -- X7_isBefore f
                refine if_eq_t (tgt := 51) hx hb rfl dX7_guided_44 (by decide) ?_
                refine lv_iload_n hx hb dX7_guided_51 rfl (lv_at hl 0 rfl) ?_
                refine lv_istore_n (lv' := [(2, .int (nI j)), (3, .int (nI i)), (0, .ref (ma 0)), (1, .int (sz))]) hx hb dX7_guided_52 rfl hl (by decide) rfl (fun ls hl => ?_)
                refine lv_iinc (v := nI (i + 1)) (lv' := [(3, .int (nI (i + 1))), (2, .int (nI j)), (0, .ref (ma 0)), (1, .int (sz))]) hx hb dX7_guided_53 hl (k := 1) rfl (nI_1 _) (by decide) rfl (fun ls hl => ?_)
                refine lv_goto (tgt := 5) hx hb dX7_guided_56 (by decide) ?_
                exact ih (i + 1) (nI j) (by omega) (by omega) (hw.s (Imp.no (fun q => q.2.elim (fun z => z j (by omega) rfl) (fun ⟨j2, h1, h2, h3⟩ => by have e := nI_inj (by omega) (by omega) h2; subst e; exact h_8 h3)))) (Or.inr ⟨j, by omega, rfl⟩) ls (lv_sub hl [1, 0, 2, 3] rfl)
          · -- X7_isFit f
            refine if_eq_t (tgt := 51) hx hb rfl dX7_guided_29 (by decide) ?_
            refine lv_iload_n hx hb dX7_guided_51 rfl (lv_at hl 0 rfl) ?_
            refine lv_istore_n (lv' := [(2, .int (z)), (3, .int (nI i)), (0, .ref (ma 0)), (1, .int (sz))]) hx hb dX7_guided_52 rfl hl (by decide) rfl (fun ls hl => ?_)
            refine lv_iinc (v := nI (i + 1)) (lv' := [(3, .int (nI (i + 1))), (2, .int (z)), (0, .ref (ma 0)), (1, .int (sz))]) hx hb dX7_guided_53 hl (k := 1) rfl (nI_1 _) (by decide) rfl (fun ls hl => ?_)
            refine lv_goto (tgt := 5) hx hb dX7_guided_56 (by decide) ?_
            exact ih (i + 1) (z) (by omega) (by omega) (hw.s (Imp.no (fun q => h_5 ⟨q.1.1, q.1.2.1⟩))) (hzr.imp_right (fun ⟨j, h1, h2⟩ => ⟨j, by omega, h2⟩)) ls (lv_sub hl [1, 0, 2, 3] rfl)
        · -- X7_isFree f
          refine if_eq_t (tgt := 51) hx hb rfl dX7_guided_20 (by decide) ?_
          refine lv_iload_n hx hb dX7_guided_51 rfl (lv_at hl 0 rfl) ?_
          refine lv_istore_n (lv' := [(2, .int (z)), (3, .int (nI i)), (0, .ref (ma 0)), (1, .int (sz))]) hx hb dX7_guided_52 rfl hl (by decide) rfl (fun ls hl => ?_)
          refine lv_iinc (v := nI (i + 1)) (lv' := [(3, .int (nI (i + 1))), (2, .int (z)), (0, .ref (ma 0)), (1, .int (sz))]) hx hb dX7_guided_53 hl (k := 1) rfl (nI_1 _) (by decide) rfl (fun ls hl => ?_)
          refine lv_goto (tgt := 5) hx hb dX7_guided_56 (by decide) ?_
          exact ih (i + 1) (z) (by omega) (by omega) (hw.s (Imp.no (fun q => h_3 ⟨q.1.1, q.1.2.2.1, q.1.2.2.2⟩))) (hzr.imp_right (fun ⟨j, h1, h2⟩ => ⟨j, by omega, h2⟩)) ls (lv_sub hl [1, 0, 2, 3] rfl)
  exact hloop (n + 1) 0 (-9) (by omega) (by omega) (rfl) (Or.inl rfl) ls (lv_sub hl [1, 0, 2, 3] rfl)
set_option maxHeartbeats 4000000 in
set_option maxRecDepth 100000 in
theorem c_X7_bayFor (l : Launch) (D : va_G) (cI cC cB cS : ClassId) (ma : Nat → Nat) (fi : Nat → Int32) (wd : Int64) (g : Nat → Nat → Int32) (lf : Int32) (n : Nat) (q : Nat) (sz : Int32) (b1 : Int32) (en : Int32) (hn : g 3 0 = nI n) (hnb : n ≤ 30) (hq : g 12 0 = nI q) (hqc : q ≤ 16) (hst : ∀ w, w < q → 0 ≤ g 18 w) : Met l yX7_bayFor wsX7_bayFor ({ frames := 3, cells := 0, slots := 0, locals := 68 } : Room) (rdPc D (TYS cI cC cB cS) [.ref (ma 0), .int (sz), .int (b1), .int (en)] ([mO ma fi wd, (ma 1, iE cI 382 (enc g lf))])) (vp_Si (fun r => aFor g n q (sz) (b1) (en) r)) 0 0 (fun _ => False) := by
  refine rd_intro (by decide) rfl (Nat.le_of_ble_eq_true rfl) ?_
  intro p e s m below meth c hx hb hr hml hts hown hlocks hP hK ls hl
  have hP : va_P D vwCl [(ma 0, oE 7 [.ref (ma 1), .ref (ma 2), .int (fi 0), .ref (ma 3), .ref (ma 4), .int (fi 1), .int (fi 2), .int (fi 3), .long (wd), .int (fi 4), .int (fi 5)]), (ma 1, iE cI 382 (enc g lf))] s.heap := hP
  have hown : s.vm.findClass RX7 = some m.cls := hown
  have hl : lv_has ls 7 [(0, .ref (ma 0)), (1, .int (sz)), (2, .int (b1)), (3, .int (en))] := hl
  refine lv_bipush (v := -9) hx hb dX7_bayFor_0 (by decide) ?_
  refine lv_istore (lv' := [(4, .int (-9)), (0, .ref (ma 0)), (1, .int (sz)), (2, .int (b1)), (3, .int (en))]) hx hb dX7_bayFor_2 hl (by decide) rfl (fun ls hl => ?_)
  refine lv_iconst (v := 0) hx hb dX7_bayFor_4 (by decide) ?_
  refine lv_istore (lv' := [(5, .int (0)), (4, .int (-9)), (0, .ref (ma 0)), (1, .int (sz)), (2, .int (b1)), (3, .int (en))]) hx hb dX7_bayFor_5 hl (by decide) rfl (fun ls hl => ?_)
  have hloop : ∀ (d i : Nat) (z : Int32), i ≤ n → n - i < d → (Wlk (-9) (Imp (fun j z => (g 7 j = 1 ∧ sz ≤ g 6 j ∧ Rsv q (g 14) (g 18) (g 15) (g 16) (g 8) (g 0 0) (g 1 1) (b1) (en) j) ∧ Btr (g 4) (g 5) (g 6) (g 1 0) n j z) nI) i z) → (z = -9 ∨ ∃ j, j < i ∧ z = nI j) → ∀ ls : Array Slot, lv_has ls 7 [(4, .int (z)), (5, .int (nI i)), (0, .ref (ma 0)), (1, .int (sz)), (2, .int (b1)), (3, .int (en))] → W p l e ({ frames := 3, cells := 0, slots := 0, locals := 68 } : Room) s m (([.ref (ma 0), .int (sz), .int (b1), .int (en)] : List Value).toArray) below meth c s.heap [] 0 0 (MQ below (vp_Si (fun r => aFor g n q (sz) (b1) (en) r)) (([.ref (ma 0), .int (sz), .int (b1), .int (en)] : List Value).toArray) s 0 0 (fun _ => False)) (F0 m 7 ls []) := by
    intro d
    induction d with
    | zero => intro i _ _ h2; exact absurd h2 (Nat.not_lt_zero _)
    | succ d ih =>
      intro i z hi hd hw hzr ls hl
      refine lv_iload hx hb dX7_bayFor_7 (lv_at hl 1 rfl) ?_
      refine lv_aload_n hx hb dX7_bayFor_9 rfl (lv_at hl 2 rfl) ?_
      refine va_get (D := D) (ci := 7) (v := .ref (ma 1)) (C := RX7) (T := TX7) (N := 11) hx hb hts (by decide +kernel) hown hK.1 hP 0 rfl rfl 0 (by decide) (hts (.fieldLink RX7 7 "ParkingGarageModel" "s" "[I") (by decide +kernel)) (fun _ h9 => h9) rfl dX7_bayFor_10 ?_
      refine lv_iconst (v := 1) hx hb dX7_bayFor_13 (by decide) ?_
      refine iald_n (f := enc g lf) hx hb hK.1 hP 1 0 rfl rfl (1) (rfl) (by decide) (by omega) dX7_bayFor_14 ?_
      rw [show enc g lf (1) = nI n from hn]
      refine lv_icmp_ge (tgt := 112) hx hb dX7_bayFor_15 (by decide) (fun c_1 => ?_) (fun c_1 => ?_)
      · -- c_1: nI i ≥ nI n
        have hge : i = n := nI_geD (n := n) rfl hi (by omega) c_1
        refine lv_iload hx hb dX7_bayFor_112 (lv_at hl 0 rfl) ?_
        exact rd_iret (v := z) hx hb hr hlocks dX7_bayFor_114 (by rw [hge] at hw; exact hw)
      · -- c_1: not nI i ≥ nI n
        have hlt : i < n := nI_ltD (n := n) rfl hi (by omega) c_1
        refine lv_aload_n hx hb dX7_bayFor_18 rfl (lv_at hl 2 rfl) ?_
        refine lv_iload hx hb dX7_bayFor_19 (lv_at hl 1 rfl) ?_
        refine lv_iload_n hx hb dX7_bayFor_21 rfl (lv_at hl 3 rfl) ?_
        refine cv_i (As := [.int (nI i), .int (sz)]) (rest := []) (tys := TYS cI cC cB cS) (ci := 7) ⟨hx, hb, hml, hown, hts⟩ (c_X7_isFit l D cI cC cB cS (ma) (fi) (wd) (g) (lf) (i) (sz) (by omega)) (cwV 2 hts gX7_bayFor_X7_isFit rfl rfl rfl (by decide +kernel) ⟨Nat.le_of_ble_eq_true rfl, Nat.le_of_ble_eq_true rfl⟩) hK hP [0, 1] rfl rfl rfl rfl rfl hl.1 (Nat.le_of_ble_eq_true rfl) dX7_bayFor_22 ⟨Nat.le_of_ble_eq_true rfl, Nat.le_of_ble_eq_true rfl⟩ (fun r_2 hr_2 => ?_)
        rcases (show Yes (g 7 i = 1 ∧ sz ≤ g 6 i) r_2 from hr_2) with ⟨rfl, h_3⟩ | ⟨rfl, h_3⟩
        · -- X7_isFit t
          refine if_eq_f (tgt := 71) hx hb (by decide) dX7_bayFor_25 (by decide) ?_
          refine lv_aload_n hx hb dX7_bayFor_28 rfl (lv_at hl 2 rfl) ?_
          refine lv_iload hx hb dX7_bayFor_29 (lv_at hl 1 rfl) ?_
          refine lv_aload_n hx hb dX7_bayFor_31 rfl (lv_at hl 2 rfl) ?_
          refine lv_iload_n hx hb dX7_bayFor_32 rfl (lv_at hl 4 rfl) ?_
          refine cv_i (As := [.int (b1)]) (rest := [.int (nI i), .ref (ma 0)]) (tys := TYS cI cC cB cS) (ci := 7) ⟨hx, hb, hml, hown, hts⟩ (c_X7_holdsFrom l D cI cC cB cS (ma) (fi) (wd) (g) (lf) (b1)) (cwV 1 hts gX7_bayFor_X7_holdsFrom rfl rfl rfl (by decide +kernel) ⟨Nat.le_of_ble_eq_true rfl, Nat.le_of_ble_eq_true rfl⟩) hK hP [0, 1] rfl rfl rfl rfl rfl hl.1 (Nat.le_of_ble_eq_true rfl) dX7_bayFor_33 ⟨Nat.le_of_ble_eq_true rfl, Nat.le_of_ble_eq_true rfl⟩ (fun r_4 hr_4 => ?_)
          have hr_4 : r_4 = b1 - g 1 1 := hr_4
          subst hr_4
          refine lv_iload_n hx hb dX7_bayFor_36 rfl (lv_at hl 5 rfl) ?_
          refine cv_i (As := [.int (nI i), .int (b1 - g 1 1), .int (en)]) (rest := []) (tys := TYS cI cC cB cS) (ci := 7) ⟨hx, hb, hml, hown, hts⟩ (c_X7_isHeld l D cI cC cB cS (ma) (fi) (wd) (g) (lf) (q) (nI i) (b1 - g 1 1) (en) (hq) (hqc) (hst)) (cwV 3 hts gX7_bayFor_X7_isHeld rfl rfl rfl (by decide +kernel) ⟨Nat.le_of_ble_eq_true rfl, Nat.le_of_ble_eq_true rfl⟩) hK hP [0, 1] rfl rfl rfl rfl rfl hl.1 (Nat.le_of_ble_eq_true rfl) dX7_bayFor_37 ⟨Nat.le_of_ble_eq_true rfl, Nat.le_of_ble_eq_true rfl⟩ (fun r_5 hr_5 => ?_)
          rcases (show Yes (∃ w, w < q ∧ HeldB (g 14) (g 18) (g 15) (g 16) (b1 - g 1 1) (en) (g 1 1) (nI i) w) r_5 from hr_5) with ⟨rfl, h_6⟩ | ⟨rfl, h_6⟩
          · -- X7_isHeld t
            refine if_ne_t (tgt := 71) hx hb (by decide) dX7_bayFor_40 (by decide) ?_
            refine lv_iconst (v := 0) hx hb dX7_bayFor_71 (by decide) ?_
            refine lv_istore (lv' := [(6, .int (0)), (4, .int (z)), (5, .int (nI i)), (0, .ref (ma 0)), (1, .int (sz)), (2, .int (b1)), (3, .int (en))]) hx hb dX7_bayFor_72 hl (by decide) rfl (fun ls hl => ?_)
            refine lv_iload hx hb dX7_bayFor_74 (lv_at hl 0 rfl) ?_
            refine if_eq_t (tgt := 102) hx hb rfl dX7_bayFor_76 (by decide) ?_
            refine lv_iload hx hb dX7_bayFor_102 (lv_at hl 1 rfl) ?_
            refine lv_istore (lv' := [(4, .int (z)), (6, .int (0)), (5, .int (nI i)), (0, .ref (ma 0)), (1, .int (sz)), (2, .int (b1)), (3, .int (en))]) hx hb dX7_bayFor_104 hl (by decide) rfl (fun ls hl => ?_)
            refine lv_iinc (v := nI (i + 1)) (lv' := [(5, .int (nI (i + 1))), (4, .int (z)), (6, .int (0)), (0, .ref (ma 0)), (1, .int (sz)), (2, .int (b1)), (3, .int (en))]) hx hb dX7_bayFor_106 hl (k := 2) rfl (nI_1 _) (by decide) rfl (fun ls hl => ?_)
            refine lv_goto (tgt := 7) hx hb dX7_bayFor_109 (by decide) ?_
            exact ih (i + 1) (z) (by omega) (by omega) (hw.s (Imp.no (fun q => q.1.2.2.2 h_6))) (hzr.imp_right (fun ⟨j, h1, h2⟩ => ⟨j, by omega, h2⟩)) ls (lv_sub hl [1, 0, 3, 4, 5, 6] rfl)
          · -- X7_isHeld f
            refine if_ne_f (tgt := 71) hx hb rfl dX7_bayFor_40 (by decide) ?_
            refine lv_aload_n hx hb dX7_bayFor_43 rfl (lv_at hl 2 rfl) ?_
            refine lv_iload_n hx hb dX7_bayFor_44 rfl (lv_at hl 4 rfl) ?_
            refine cv_i (As := [.int (b1)]) (rest := []) (tys := TYS cI cC cB cS) (ci := 7) ⟨hx, hb, hml, hown, hts⟩ (c_X7_holdsFrom l D cI cC cB cS (ma) (fi) (wd) (g) (lf) (b1)) (cwV 1 hts gX7_bayFor_X7_holdsFrom rfl rfl rfl (by decide +kernel) ⟨Nat.le_of_ble_eq_true rfl, Nat.le_of_ble_eq_true rfl⟩) hK hP [0, 1] rfl rfl rfl rfl rfl hl.1 (Nat.le_of_ble_eq_true rfl) dX7_bayFor_45 ⟨Nat.le_of_ble_eq_true rfl, Nat.le_of_ble_eq_true rfl⟩ (fun r_7 hr_7 => ?_)
            have hr_7 : r_7 = b1 - g 1 1 := hr_7
            subst hr_7
            refine lv_aload_n hx hb dX7_bayFor_48 rfl (lv_at hl 2 rfl) ?_
            refine va_get (D := D) (ci := 7) (v := .ref (ma 1)) (C := RX7) (T := TX7) (N := 11) hx hb hts (by decide +kernel) hown hK.1 hP 0 rfl rfl 0 (by decide) (hts (.fieldLink RX7 7 "ParkingGarageModel" "s" "[I") (by decide +kernel)) (fun _ h9 => h9) rfl dX7_bayFor_49 ?_
            refine lv_iconst (v := 0) hx hb dX7_bayFor_52 (by decide) ?_
            refine iald_n (f := enc g lf) hx hb hK.1 hP 1 0 rfl rfl (0) (rfl) (by decide) (by omega) dX7_bayFor_53 ?_
            rw [show enc g lf (0) = g 0 0 from rfl]
            refine lv_icmp_gt (tgt := 67) hx hb dX7_bayFor_54 (by decide) (fun c_8 => ?_) (fun c_8 => ?_)
            · -- c_8: b1 - g 1 1 > g 0 0
              refine lv_iconst (v := 1) hx hb dX7_bayFor_67 (by decide) ?_
              refine lv_goto (tgt := 72) hx hb dX7_bayFor_68 (by decide) ?_
              refine lv_istore (lv' := [(6, .int (1)), (4, .int (z)), (5, .int (nI i)), (0, .ref (ma 0)), (1, .int (sz)), (2, .int (b1)), (3, .int (en))]) hx hb dX7_bayFor_72 hl (by decide) rfl (fun ls hl => ?_)
              refine lv_iload hx hb dX7_bayFor_74 (lv_at hl 0 rfl) ?_
              refine if_eq_f (tgt := 102) hx hb (by decide) dX7_bayFor_76 (by decide) ?_
              refine lv_iload hx hb dX7_bayFor_79 (lv_at hl 1 rfl) ?_
              refine lv_bipush (v := -9) hx hb dX7_bayFor_81 (by decide) ?_
              refine lv_icmp_eq (tgt := 97) hx hb dX7_bayFor_83 (by decide) (fun c_9 => ?_) (fun c_9 => ?_)
              · -- c_9: z = -9
                refine lv_iload hx hb dX7_bayFor_97 (lv_at hl 2 rfl) ?_
                refine lv_goto (tgt := 104) hx hb dX7_bayFor_99 (by decide) ?_
                refine lv_istore (lv' := [(4, .int (nI i)), (6, .int (1)), (5, .int (nI i)), (0, .ref (ma 0)), (1, .int (sz)), (2, .int (b1)), (3, .int (en))]) hx hb dX7_bayFor_104 hl (by decide) rfl (fun ls hl => ?_)
                refine lv_iinc (v := nI (i + 1)) (lv' := [(5, .int (nI (i + 1))), (4, .int (nI i)), (6, .int (1)), (0, .ref (ma 0)), (1, .int (sz)), (2, .int (b1)), (3, .int (en))]) hx hb dX7_bayFor_106 hl (k := 2) rfl (nI_1 _) (by decide) rfl (fun ls hl => ?_)
                refine lv_goto (tgt := 7) hx hb dX7_bayFor_109 (by decide) ?_
                exact ih (i + 1) (nI i) (by omega) (by omega) (hw.s (Imp.yes ⟨⟨h_3.1, h_3.2, (fun z => Int32.not_lt.mpr z.1 c_8), h_6⟩, Or.inl (fun j hj e => m9_ne hj (by omega) (c_9.symm.trans e))⟩)) (Or.inr ⟨i, by omega, rfl⟩) ls (lv_sub hl [1, 0, 3, 4, 5, 6] rfl)
              · -- c_9: not z = -9
                obtain ⟨j, hji, hzj⟩ := hzr.resolve_left c_9
                subst hzj
                refine lv_aload_n hx hb dX7_bayFor_86 rfl (lv_at hl 3 rfl) ?_
                refine lv_iload hx hb dX7_bayFor_87 (lv_at hl 2 rfl) ?_
                refine lv_iload hx hb dX7_bayFor_89 (lv_at hl 1 rfl) ?_
                refine cv_i (As := [.int (nI i), .int (nI j)]) (rest := []) (tys := TYS cI cC cB cS) (ci := 7) ⟨hx, hb, hml, hown, hts⟩ (c_X7_isBefore l D cI cC cB cS (ma) (fi) (wd) (g) (lf) (i) (j) (by omega) (by omega)) (cwV 2 hts gX7_bayFor_X7_isBefore rfl rfl rfl (by decide +kernel) ⟨Nat.le_of_ble_eq_true rfl, Nat.le_of_ble_eq_true rfl⟩) hK hP [0, 1] rfl rfl rfl rfl rfl hl.1 (Nat.le_of_ble_eq_true rfl) dX7_bayFor_91 ⟨Nat.le_of_ble_eq_true rfl, Nat.le_of_ble_eq_true rfl⟩ (fun r_10 hr_10 => ?_)
                rcases (show Yes (Bef (g 4) (g 5) (g 6) (g 1 0) i j) r_10 from hr_10) with ⟨rfl, h_11⟩ | ⟨rfl, h_11⟩
                · -- X7_isBefore t
                  refine if_eq_f (tgt := 102) hx hb (by decide) dX7_bayFor_94 (by decide) ?_
                  refine lv_iload hx hb dX7_bayFor_97 (lv_at hl 2 rfl) ?_
                  refine lv_goto (tgt := 104) hx hb dX7_bayFor_99 (by decide) ?_
                  refine lv_istore (lv' := [(4, .int (nI i)), (6, .int (1)), (5, .int (nI i)), (0, .ref (ma 0)), (1, .int (sz)), (2, .int (b1)), (3, .int (en))]) hx hb dX7_bayFor_104 hl (by decide) rfl (fun ls hl => ?_)
                  refine lv_iinc (v := nI (i + 1)) (lv' := [(5, .int (nI (i + 1))), (4, .int (nI i)), (6, .int (1)), (0, .ref (ma 0)), (1, .int (sz)), (2, .int (b1)), (3, .int (en))]) hx hb dX7_bayFor_106 hl (k := 2) rfl (nI_1 _) (by decide) rfl (fun ls hl => ?_)
                  refine lv_goto (tgt := 7) hx hb dX7_bayFor_109 (by decide) ?_
                  exact ih (i + 1) (nI i) (by omega) (by omega) (hw.s (Imp.yes ⟨⟨h_3.1, h_3.2, (fun z => Int32.not_lt.mpr z.1 c_8), h_6⟩, Or.inr ⟨j, by omega, rfl, h_11⟩⟩)) (Or.inr ⟨i, by omega, rfl⟩) ls (lv_sub hl [1, 0, 3, 4, 5, 6] rfl)
                · -- X7_isBefore f
                  refine if_eq_t (tgt := 102) hx hb rfl dX7_bayFor_94 (by decide) ?_
                  refine lv_iload hx hb dX7_bayFor_102 (lv_at hl 1 rfl) ?_
                  refine lv_istore (lv' := [(4, .int (nI j)), (6, .int (1)), (5, .int (nI i)), (0, .ref (ma 0)), (1, .int (sz)), (2, .int (b1)), (3, .int (en))]) hx hb dX7_bayFor_104 hl (by decide) rfl (fun ls hl => ?_)
                  refine lv_iinc (v := nI (i + 1)) (lv' := [(5, .int (nI (i + 1))), (4, .int (nI j)), (6, .int (1)), (0, .ref (ma 0)), (1, .int (sz)), (2, .int (b1)), (3, .int (en))]) hx hb dX7_bayFor_106 hl (k := 2) rfl (nI_1 _) (by decide) rfl (fun ls hl => ?_)
                  refine lv_goto (tgt := 7) hx hb dX7_bayFor_109 (by decide) ?_
                  exact ih (i + 1) (nI j) (by omega) (by omega) (hw.s (Imp.no (fun q => q.2.elim (fun z => z j (by omega) rfl) (fun ⟨j2, h1, h2, h3⟩ => by have e := nI_inj (by omega) (by omega) h2; subst e; exact h_11 h3)))) (Or.inr ⟨j, by omega, rfl⟩) ls (lv_sub hl [1, 0, 3, 4, 5, 6] rfl)
            · -- c_8: not b1 - g 1 1 > g 0 0
              refine lv_aload_n hx hb dX7_bayFor_57 rfl (lv_at hl 2 rfl) ?_
              refine lv_iload hx hb dX7_bayFor_58 (lv_at hl 1 rfl) ?_
              refine lv_iconst (v := 4) hx hb dX7_bayFor_60 (by decide) ?_
              refine cv_i (As := [.int (nI i), .int (4)]) (rest := []) (tys := TYS cI cC cB cS) (ci := 7) ⟨hx, hb, hml, hown, hts⟩ (c_X7_of l D cI cC cB cS (ma) (fi) (wd) (g) (lf) (i) (4) (by omega) (by omega)) (cwV 2 hts gX7_bayFor_X7_of rfl rfl rfl (by decide +kernel) ⟨Nat.le_of_ble_eq_true rfl, Nat.le_of_ble_eq_true rfl⟩) hK hP [0, 1] rfl rfl rfl rfl rfl hl.1 (Nat.le_of_ble_eq_true rfl) dX7_bayFor_61 ⟨Nat.le_of_ble_eq_true rfl, Nat.le_of_ble_eq_true rfl⟩ (fun r_12 hr_12 => ?_)
              have hr_12 : r_12 = g 8 i := hr_12
              subst hr_12
              refine lv_if_ne (tgt := 71) hx hb dX7_bayFor_64 (by decide) (fun c_13 => ?_) (fun c_13 => ?_)
              · -- c_13: g 8 i ≠ 0
                refine lv_iconst (v := 0) hx hb dX7_bayFor_71 (by decide) ?_
                refine lv_istore (lv' := [(6, .int (0)), (4, .int (z)), (5, .int (nI i)), (0, .ref (ma 0)), (1, .int (sz)), (2, .int (b1)), (3, .int (en))]) hx hb dX7_bayFor_72 hl (by decide) rfl (fun ls hl => ?_)
                refine lv_iload hx hb dX7_bayFor_74 (lv_at hl 0 rfl) ?_
                refine if_eq_t (tgt := 102) hx hb rfl dX7_bayFor_76 (by decide) ?_
                refine lv_iload hx hb dX7_bayFor_102 (lv_at hl 1 rfl) ?_
                refine lv_istore (lv' := [(4, .int (z)), (6, .int (0)), (5, .int (nI i)), (0, .ref (ma 0)), (1, .int (sz)), (2, .int (b1)), (3, .int (en))]) hx hb dX7_bayFor_104 hl (by decide) rfl (fun ls hl => ?_)
                refine lv_iinc (v := nI (i + 1)) (lv' := [(5, .int (nI (i + 1))), (4, .int (z)), (6, .int (0)), (0, .ref (ma 0)), (1, .int (sz)), (2, .int (b1)), (3, .int (en))]) hx hb dX7_bayFor_106 hl (k := 2) rfl (nI_1 _) (by decide) rfl (fun ls hl => ?_)
                refine lv_goto (tgt := 7) hx hb dX7_bayFor_109 (by decide) ?_
                exact ih (i + 1) (z) (by omega) (by omega) (hw.s (Imp.no (fun q => q.1.2.2.1 ⟨Int32.not_lt.mp c_8, c_13⟩))) (hzr.imp_right (fun ⟨j, h1, h2⟩ => ⟨j, by omega, h2⟩)) ls (lv_sub hl [1, 0, 3, 4, 5, 6] rfl)
              · -- c_13: not g 8 i ≠ 0
                refine lv_iconst (v := 1) hx hb dX7_bayFor_67 (by decide) ?_
                refine lv_goto (tgt := 72) hx hb dX7_bayFor_68 (by decide) ?_
                refine lv_istore (lv' := [(6, .int (1)), (4, .int (z)), (5, .int (nI i)), (0, .ref (ma 0)), (1, .int (sz)), (2, .int (b1)), (3, .int (en))]) hx hb dX7_bayFor_72 hl (by decide) rfl (fun ls hl => ?_)
                refine lv_iload hx hb dX7_bayFor_74 (lv_at hl 0 rfl) ?_
                refine if_eq_f (tgt := 102) hx hb (by decide) dX7_bayFor_76 (by decide) ?_
                refine lv_iload hx hb dX7_bayFor_79 (lv_at hl 1 rfl) ?_
                refine lv_bipush (v := -9) hx hb dX7_bayFor_81 (by decide) ?_
                refine lv_icmp_eq (tgt := 97) hx hb dX7_bayFor_83 (by decide) (fun c_14 => ?_) (fun c_14 => ?_)
                · -- c_14: z = -9
                  refine lv_iload hx hb dX7_bayFor_97 (lv_at hl 2 rfl) ?_
                  refine lv_goto (tgt := 104) hx hb dX7_bayFor_99 (by decide) ?_
                  refine lv_istore (lv' := [(4, .int (nI i)), (6, .int (1)), (5, .int (nI i)), (0, .ref (ma 0)), (1, .int (sz)), (2, .int (b1)), (3, .int (en))]) hx hb dX7_bayFor_104 hl (by decide) rfl (fun ls hl => ?_)
                  refine lv_iinc (v := nI (i + 1)) (lv' := [(5, .int (nI (i + 1))), (4, .int (nI i)), (6, .int (1)), (0, .ref (ma 0)), (1, .int (sz)), (2, .int (b1)), (3, .int (en))]) hx hb dX7_bayFor_106 hl (k := 2) rfl (nI_1 _) (by decide) rfl (fun ls hl => ?_)
                  refine lv_goto (tgt := 7) hx hb dX7_bayFor_109 (by decide) ?_
                  exact ih (i + 1) (nI i) (by omega) (by omega) (hw.s (Imp.yes ⟨⟨h_3.1, h_3.2, (fun z => z.2 c_13), h_6⟩, Or.inl (fun j hj e => m9_ne hj (by omega) (c_14.symm.trans e))⟩)) (Or.inr ⟨i, by omega, rfl⟩) ls (lv_sub hl [1, 0, 3, 4, 5, 6] rfl)
                · -- c_14: not z = -9
                  obtain ⟨j, hji, hzj⟩ := hzr.resolve_left c_14
                  subst hzj
                  refine lv_aload_n hx hb dX7_bayFor_86 rfl (lv_at hl 3 rfl) ?_
                  refine lv_iload hx hb dX7_bayFor_87 (lv_at hl 2 rfl) ?_
                  refine lv_iload hx hb dX7_bayFor_89 (lv_at hl 1 rfl) ?_
                  refine cv_i (As := [.int (nI i), .int (nI j)]) (rest := []) (tys := TYS cI cC cB cS) (ci := 7) ⟨hx, hb, hml, hown, hts⟩ (c_X7_isBefore l D cI cC cB cS (ma) (fi) (wd) (g) (lf) (i) (j) (by omega) (by omega)) (cwV 2 hts gX7_bayFor_X7_isBefore rfl rfl rfl (by decide +kernel) ⟨Nat.le_of_ble_eq_true rfl, Nat.le_of_ble_eq_true rfl⟩) hK hP [0, 1] rfl rfl rfl rfl rfl hl.1 (Nat.le_of_ble_eq_true rfl) dX7_bayFor_91 ⟨Nat.le_of_ble_eq_true rfl, Nat.le_of_ble_eq_true rfl⟩ (fun r_15 hr_15 => ?_)
                  rcases (show Yes (Bef (g 4) (g 5) (g 6) (g 1 0) i j) r_15 from hr_15) with ⟨rfl, h_16⟩ | ⟨rfl, h_16⟩
                  · -- X7_isBefore t
                    refine if_eq_f (tgt := 102) hx hb (by decide) dX7_bayFor_94 (by decide) ?_
                    refine lv_iload hx hb dX7_bayFor_97 (lv_at hl 2 rfl) ?_
                    refine lv_goto (tgt := 104) hx hb dX7_bayFor_99 (by decide) ?_
                    refine lv_istore (lv' := [(4, .int (nI i)), (6, .int (1)), (5, .int (nI i)), (0, .ref (ma 0)), (1, .int (sz)), (2, .int (b1)), (3, .int (en))]) hx hb dX7_bayFor_104 hl (by decide) rfl (fun ls hl => ?_)
                    refine lv_iinc (v := nI (i + 1)) (lv' := [(5, .int (nI (i + 1))), (4, .int (nI i)), (6, .int (1)), (0, .ref (ma 0)), (1, .int (sz)), (2, .int (b1)), (3, .int (en))]) hx hb dX7_bayFor_106 hl (k := 2) rfl (nI_1 _) (by decide) rfl (fun ls hl => ?_)
                    refine lv_goto (tgt := 7) hx hb dX7_bayFor_109 (by decide) ?_
                    exact ih (i + 1) (nI i) (by omega) (by omega) (hw.s (Imp.yes ⟨⟨h_3.1, h_3.2, (fun z => z.2 c_13), h_6⟩, Or.inr ⟨j, by omega, rfl, h_16⟩⟩)) (Or.inr ⟨i, by omega, rfl⟩) ls (lv_sub hl [1, 0, 3, 4, 5, 6] rfl)
                  · -- X7_isBefore f
                    refine if_eq_t (tgt := 102) hx hb rfl dX7_bayFor_94 (by decide) ?_
                    refine lv_iload hx hb dX7_bayFor_102 (lv_at hl 1 rfl) ?_
                    refine lv_istore (lv' := [(4, .int (nI j)), (6, .int (1)), (5, .int (nI i)), (0, .ref (ma 0)), (1, .int (sz)), (2, .int (b1)), (3, .int (en))]) hx hb dX7_bayFor_104 hl (by decide) rfl (fun ls hl => ?_)
                    refine lv_iinc (v := nI (i + 1)) (lv' := [(5, .int (nI (i + 1))), (4, .int (nI j)), (6, .int (1)), (0, .ref (ma 0)), (1, .int (sz)), (2, .int (b1)), (3, .int (en))]) hx hb dX7_bayFor_106 hl (k := 2) rfl (nI_1 _) (by decide) rfl (fun ls hl => ?_)
                    refine lv_goto (tgt := 7) hx hb dX7_bayFor_109 (by decide) ?_
                    exact ih (i + 1) (nI j) (by omega) (by omega) (hw.s (Imp.no (fun q => q.2.elim (fun z => z j (by omega) rfl) (fun ⟨j2, h1, h2, h3⟩ => by have e := nI_inj (by omega) (by omega) h2; subst e; exact h_16 h3)))) (Or.inr ⟨j, by omega, rfl⟩) ls (lv_sub hl [1, 0, 3, 4, 5, 6] rfl)
        · -- X7_isFit f
          refine if_eq_t (tgt := 71) hx hb rfl dX7_bayFor_25 (by decide) ?_
          refine lv_iconst (v := 0) hx hb dX7_bayFor_71 (by decide) ?_
          refine lv_istore (lv' := [(6, .int (0)), (4, .int (z)), (5, .int (nI i)), (0, .ref (ma 0)), (1, .int (sz)), (2, .int (b1)), (3, .int (en))]) hx hb dX7_bayFor_72 hl (by decide) rfl (fun ls hl => ?_)
          refine lv_iload hx hb dX7_bayFor_74 (lv_at hl 0 rfl) ?_
          refine if_eq_t (tgt := 102) hx hb rfl dX7_bayFor_76 (by decide) ?_
          refine lv_iload hx hb dX7_bayFor_102 (lv_at hl 1 rfl) ?_
          refine lv_istore (lv' := [(4, .int (z)), (6, .int (0)), (5, .int (nI i)), (0, .ref (ma 0)), (1, .int (sz)), (2, .int (b1)), (3, .int (en))]) hx hb dX7_bayFor_104 hl (by decide) rfl (fun ls hl => ?_)
          refine lv_iinc (v := nI (i + 1)) (lv' := [(5, .int (nI (i + 1))), (4, .int (z)), (6, .int (0)), (0, .ref (ma 0)), (1, .int (sz)), (2, .int (b1)), (3, .int (en))]) hx hb dX7_bayFor_106 hl (k := 2) rfl (nI_1 _) (by decide) rfl (fun ls hl => ?_)
          refine lv_goto (tgt := 7) hx hb dX7_bayFor_109 (by decide) ?_
          exact ih (i + 1) (z) (by omega) (by omega) (hw.s (Imp.no (fun q => h_3 ⟨q.1.1, q.1.2.1⟩))) (hzr.imp_right (fun ⟨j, h1, h2⟩ => ⟨j, by omega, h2⟩)) ls (lv_sub hl [1, 0, 3, 4, 5, 6] rfl)
  exact hloop (n + 1) 0 (-9) (by omega) (by omega) (rfl) (Or.inl rfl) ls (lv_sub hl [1, 0, 2, 3, 4, 5] rfl)
set_option maxHeartbeats 4000000 in
set_option maxRecDepth 100000 in
theorem c_X7_usable (l : Launch) (D : va_G) (cI cC cB cS : ClassId) (ma : Nat → Nat) (fi : Nat → Int32) (wd : Int64) (g : Nat → Nat → Int32) (lf : Int32) (n : Nat) (q : Nat) (x : Int32) (sz : Int32) (hn : g 3 0 = nI n) (hnb : n ≤ 30) (hq : g 12 0 = nI q) (hqc : q ≤ 16) (hst : ∀ w, w < q → 0 ≤ g 18 w) (htm : g 0 0 < 30000) (hwh : ∀ w, w < q → ∃ b, b < n ∧ g 14 w = nI b) : Met l yX7_usable wsX7_usable ({ frames := 3, cells := 0, slots := 0, locals := 64 } : Room) (rdPc D (TYS cI cC cB cS) [.ref (ma 0), .int (x), .int (sz)] ([mO ma fi wd, (ma 1, iE cI 382 (enc g lf))])) (vp_Si (fun r => aUs g n q (x) (sz) r)) 0 0 (fun _ => False) := by
  refine rd_intro (by decide) rfl (Nat.le_of_ble_eq_true rfl) ?_
  intro p e s m below meth c hx hb hr hml hts hown hlocks hP hK ls hl
  have hP : va_P D vwCl [(ma 0, oE 7 [.ref (ma 1), .ref (ma 2), .int (fi 0), .ref (ma 3), .ref (ma 4), .int (fi 1), .int (fi 2), .int (fi 3), .long (wd), .int (fi 4), .int (fi 5)]), (ma 1, iE cI 382 (enc g lf))] s.heap := hP
  have hown : s.vm.findClass RX7 = some m.cls := hown
  have hl : lv_has ls 5 [(0, .ref (ma 0)), (1, .int (x)), (2, .int (sz))] := hl
  refine lv_iconst (v := 0) hx hb dX7_usable_0 (by decide) ?_
  refine lv_istore_n (lv' := [(3, .int (0)), (0, .ref (ma 0)), (1, .int (x)), (2, .int (sz))]) hx hb dX7_usable_1 rfl hl (by decide) rfl (fun ls hl => ?_)
  have hloop : ∀ (d i : Nat), i ≤ q → q - i < d → (∀ j, j < i → ¬ (g 13 j = x ∧ g 18 j = 0 ∧ Hld (g 18) (g 15) (g 16) (g 0 0) (g 0 0 + 1) (g 1 1) j)) → ∀ ls : Array Slot, lv_has ls 5 [(3, .int (nI i)), (0, .ref (ma 0)), (1, .int (x)), (2, .int (sz))] → W p l e ({ frames := 3, cells := 0, slots := 0, locals := 64 } : Room) s m (([.ref (ma 0), .int (x), .int (sz)] : List Value).toArray) below meth c s.heap [] 0 0 (MQ below (vp_Si (fun r => aUs g n q (x) (sz) r)) (([.ref (ma 0), .int (x), .int (sz)] : List Value).toArray) s 0 0 (fun _ => False)) (F0 m 2 ls []) := by
    intro d
    induction d with
    | zero => intro i _ h2; exact absurd h2 (Nat.not_lt_zero _)
    | succ d ih =>
      intro i hi hd hno ls hl
      refine lv_iload_n hx hb dX7_usable_2 rfl (lv_at hl 0 rfl) ?_
      refine lv_aload_n hx hb dX7_usable_3 rfl (lv_at hl 1 rfl) ?_
      refine va_get (D := D) (ci := 7) (v := .ref (ma 1)) (C := RX7) (T := TX7) (N := 11) hx hb hts (by decide +kernel) hown hK.1 hP 0 rfl rfl 0 (by decide) (hts (.fieldLink RX7 7 "ParkingGarageModel" "s" "[I") (by decide +kernel)) (fun _ h9 => h9) rfl dX7_usable_4 ?_
      refine lv_iconst (v := 2) hx hb dX7_usable_7 (by decide) ?_
      refine iald_n (f := enc g lf) hx hb hK.1 hP 1 0 rfl rfl (2) (rfl) (by decide) (by omega) dX7_usable_8 ?_
      rw [show enc g lf (2) = nI q from hq]
      refine lv_icmp_ge (tgt := 80) hx hb dX7_usable_9 (by decide) (fun c_1 => ?_) (fun c_1 => ?_)
      · -- c_1: nI i ≥ nI q
        have hge : i = q := nI_geD (n := q) rfl hi (by omega) c_1
        subst hge
        refine lv_bipush (v := -9) hx hb dX7_usable_80 (by decide) ?_
        exact rd_iret (v := -9) hx hb hr hlocks dX7_usable_82 (⟨_, Fst.none hno, Or.inl ⟨rfl, rfl⟩⟩)
      · -- c_1: not nI i ≥ nI q
        have hlt : i < q := nI_ltD (n := q) rfl hi (by omega) c_1
        refine lv_aload_n hx hb dX7_usable_12 rfl (lv_at hl 1 rfl) ?_
        refine lv_iload_n hx hb dX7_usable_13 rfl (lv_at hl 0 rfl) ?_
        refine lv_iconst (v := 0) hx hb dX7_usable_14 (by decide) ?_
        refine cv_i (As := [.int (nI i), .int (0)]) (rest := []) (tys := TYS cI cC cB cS) (ci := 7) ⟨hx, hb, hml, hown, hts⟩ (c_X7_about l D cI cC cB cS (ma) (fi) (wd) (g) (lf) (i) (0) (by omega) (by omega)) (cwV 2 hts gX7_usable_X7_about rfl rfl rfl (by decide +kernel) ⟨Nat.le_of_ble_eq_true rfl, Nat.le_of_ble_eq_true rfl⟩) hK hP [0, 1] rfl rfl rfl rfl rfl hl.1 (Nat.le_of_ble_eq_true rfl) dX7_usable_15 ⟨Nat.le_of_ble_eq_true rfl, Nat.le_of_ble_eq_true rfl⟩ (fun r_2 hr_2 => ?_)
        have hr_2 : r_2 = g 13 i := hr_2
        subst hr_2
        refine lv_iload_n hx hb dX7_usable_18 rfl (lv_at hl 2 rfl) ?_
        refine lv_icmp_ne (tgt := 74) hx hb dX7_usable_19 (by decide) (fun c_3 => ?_) (fun c_3 => ?_)
        · -- c_3: g 13 i ≠ x
          refine lv_iinc (v := nI (i + 1)) (lv' := [(3, .int (nI (i + 1))), (0, .ref (ma 0)), (1, .int (x)), (2, .int (sz))]) hx hb dX7_usable_74 hl (k := 0) rfl (nI_1 _) (by decide) rfl (fun ls hl => ?_)
          refine lv_goto (tgt := 2) hx hb dX7_usable_77 (by decide) ?_
          exact ih (i + 1) (by omega) (by omega) (all_s hno (fun q => c_3 q.1)) ls (lv_sub hl [0, 1, 2, 3] rfl)
        · -- c_3: not g 13 i ≠ x
          refine lv_aload_n hx hb dX7_usable_22 rfl (lv_at hl 1 rfl) ?_
          refine lv_iload_n hx hb dX7_usable_23 rfl (lv_at hl 0 rfl) ?_
          refine lv_iconst (v := 5) hx hb dX7_usable_24 (by decide) ?_
          refine cv_i (As := [.int (nI i), .int (5)]) (rest := []) (tys := TYS cI cC cB cS) (ci := 7) ⟨hx, hb, hml, hown, hts⟩ (c_X7_about l D cI cC cB cS (ma) (fi) (wd) (g) (lf) (i) (5) (by omega) (by omega)) (cwV 2 hts gX7_usable_X7_about rfl rfl rfl (by decide +kernel) ⟨Nat.le_of_ble_eq_true rfl, Nat.le_of_ble_eq_true rfl⟩) hK hP [0, 1] rfl rfl rfl rfl rfl hl.1 (Nat.le_of_ble_eq_true rfl) dX7_usable_25 ⟨Nat.le_of_ble_eq_true rfl, Nat.le_of_ble_eq_true rfl⟩ (fun r_4 hr_4 => ?_)
          have hr_4 : r_4 = g 18 i := hr_4
          subst hr_4
          refine lv_if_ne (tgt := 74) hx hb dX7_usable_28 (by decide) (fun c_5 => ?_) (fun c_5 => ?_)
          · -- c_5: g 18 i ≠ 0
            refine lv_iinc (v := nI (i + 1)) (lv' := [(3, .int (nI (i + 1))), (0, .ref (ma 0)), (1, .int (x)), (2, .int (sz))]) hx hb dX7_usable_74 hl (k := 0) rfl (nI_1 _) (by decide) rfl (fun ls hl => ?_)
            refine lv_goto (tgt := 2) hx hb dX7_usable_77 (by decide) ?_
            exact ih (i + 1) (by omega) (by omega) (all_s hno (fun q => c_5 q.2.1)) ls (lv_sub hl [0, 1, 2, 3] rfl)
          · -- c_5: not g 18 i ≠ 0
            refine lv_aload_n hx hb dX7_usable_31 rfl (lv_at hl 1 rfl) ?_
            refine lv_iload_n hx hb dX7_usable_32 rfl (lv_at hl 0 rfl) ?_
            refine cv_i (As := [.int (nI i)]) (rest := []) (tys := TYS cI cC cB cS) (ci := 7) ⟨hx, hb, hml, hown, hts⟩ (c_X7_holdsNow l D cI cC cB cS (ma) (fi) (wd) (g) (lf) (i) (by omega) (hst _ (by omega)) (htm)) (cwV 1 hts gX7_usable_X7_holdsNow rfl rfl rfl (by decide +kernel) ⟨Nat.le_of_ble_eq_true rfl, Nat.le_of_ble_eq_true rfl⟩) hK hP [0, 1] rfl rfl rfl rfl rfl hl.1 (Nat.le_of_ble_eq_true rfl) dX7_usable_33 ⟨Nat.le_of_ble_eq_true rfl, Nat.le_of_ble_eq_true rfl⟩ (fun r_6 hr_6 => ?_)
            rcases (show Yes (Hld (g 18) (g 15) (g 16) (g 0 0) (g 0 0 + 1) (g 1 1) i) r_6 from hr_6) with ⟨rfl, h_7⟩ | ⟨rfl, h_7⟩
            · -- X7_holdsNow t
              refine if_eq_f (tgt := 74) hx hb (by decide) dX7_usable_36 (by decide) ?_
              refine lv_aload_n hx hb dX7_usable_39 rfl (lv_at hl 1 rfl) ?_
              refine lv_iload_n hx hb dX7_usable_40 rfl (lv_at hl 0 rfl) ?_
              refine lv_iconst (v := 1) hx hb dX7_usable_41 (by decide) ?_
              refine cv_i (As := [.int (nI i), .int (1)]) (rest := []) (tys := TYS cI cC cB cS) (ci := 7) ⟨hx, hb, hml, hown, hts⟩ (c_X7_about l D cI cC cB cS (ma) (fi) (wd) (g) (lf) (i) (1) (by omega) (by omega)) (cwV 2 hts gX7_usable_X7_about rfl rfl rfl (by decide +kernel) ⟨Nat.le_of_ble_eq_true rfl, Nat.le_of_ble_eq_true rfl⟩) hK hP [0, 1] rfl rfl rfl rfl rfl hl.1 (Nat.le_of_ble_eq_true rfl) dX7_usable_42 ⟨Nat.le_of_ble_eq_true rfl, Nat.le_of_ble_eq_true rfl⟩ (fun r_8 hr_8 => ?_)
              have hr_8 : r_8 = g 14 i := hr_8
              subst hr_8
              refine lv_istore (lv' := [(4, .int (g 14 i)), (3, .int (nI i)), (0, .ref (ma 0)), (1, .int (x)), (2, .int (sz))]) hx hb dX7_usable_45 hl (by decide) rfl (fun ls hl => ?_)
              obtain ⟨b2, hb2, hbw⟩ := hwh i hlt
              have hl : lv_has ls 5 [(4, .int (nI b2)), (3, .int (nI i)), (0, .ref (ma 0)), (1, .int (x)), (2, .int (sz))] := by rw [← hbw]; exact hl
              refine lv_aload_n hx hb dX7_usable_47 rfl (lv_at hl 2 rfl) ?_
              refine lv_iload hx hb dX7_usable_48 (lv_at hl 0 rfl) ?_
              refine lv_iload_n hx hb dX7_usable_50 rfl (lv_at hl 4 rfl) ?_
              refine cv_i (As := [.int (nI b2), .int (sz)]) (rest := []) (tys := TYS cI cC cB cS) (ci := 7) ⟨hx, hb, hml, hown, hts⟩ (c_X7_isFit l D cI cC cB cS (ma) (fi) (wd) (g) (lf) (b2) (sz) (by omega)) (cwV 2 hts gX7_usable_X7_isFit rfl rfl rfl (by decide +kernel) ⟨Nat.le_of_ble_eq_true rfl, Nat.le_of_ble_eq_true rfl⟩) hK hP [0, 1] rfl rfl rfl rfl rfl hl.1 (Nat.le_of_ble_eq_true rfl) dX7_usable_51 ⟨Nat.le_of_ble_eq_true rfl, Nat.le_of_ble_eq_true rfl⟩ (fun r_9 hr_9 => ?_)
              rcases (show Yes (g 7 b2 = 1 ∧ sz ≤ g 6 b2) r_9 from hr_9) with ⟨rfl, h_10⟩ | ⟨rfl, h_10⟩
              · -- X7_isFit t
                refine if_eq_f (tgt := 71) hx hb (by decide) dX7_usable_54 (by decide) ?_
                refine lv_aload_n hx hb dX7_usable_57 rfl (lv_at hl 2 rfl) ?_
                refine lv_iload hx hb dX7_usable_58 (lv_at hl 0 rfl) ?_
                refine lv_iconst (v := 4) hx hb dX7_usable_60 (by decide) ?_
                refine cv_i (As := [.int (nI b2), .int (4)]) (rest := []) (tys := TYS cI cC cB cS) (ci := 7) ⟨hx, hb, hml, hown, hts⟩ (c_X7_of l D cI cC cB cS (ma) (fi) (wd) (g) (lf) (b2) (4) (by omega) (by omega)) (cwV 2 hts gX7_usable_X7_of rfl rfl rfl (by decide +kernel) ⟨Nat.le_of_ble_eq_true rfl, Nat.le_of_ble_eq_true rfl⟩) hK hP [0, 1] rfl rfl rfl rfl rfl hl.1 (Nat.le_of_ble_eq_true rfl) dX7_usable_61 ⟨Nat.le_of_ble_eq_true rfl, Nat.le_of_ble_eq_true rfl⟩ (fun r_11 hr_11 => ?_)
                have hr_11 : r_11 = g 8 b2 := hr_11
                subst hr_11
                refine lv_if_ne (tgt := 71) hx hb dX7_usable_64 (by decide) (fun c_12 => ?_) (fun c_12 => ?_)
                · -- c_12: g 8 b2 ≠ 0
                  refine lv_bipush (v := -9) hx hb dX7_usable_71 (by decide) ?_
                  exact rd_iret (v := -9) hx hb hr hlocks dX7_usable_73 (⟨_, Fst.hit hlt ⟨c_3, c_5, h_7⟩ hno, Or.inr ⟨i, hlt, rfl, Or.inr ⟨fun ⟨j, h1, h2, _, _, h5⟩ => by have e := nI_inj (by omega) (by omega) (hbw.symm.trans h2); subst e; exact c_12 h5, rfl⟩⟩⟩)
                · -- c_12: not g 8 b2 ≠ 0
                  refine lv_iload_n hx hb dX7_usable_67 rfl (lv_at hl 1 rfl) ?_
                  refine lv_goto (tgt := 73) hx hb dX7_usable_68 (by decide) ?_
                  exact rd_iret (v := nI i) hx hb hr hlocks dX7_usable_73 (⟨_, Fst.hit hlt ⟨c_3, c_5, h_7⟩ hno, Or.inr ⟨i, hlt, rfl, Or.inl ⟨⟨b2, hb2, hbw, h_10.1, h_10.2, c_12⟩, rfl⟩⟩⟩)
              · -- X7_isFit f
                refine if_eq_t (tgt := 71) hx hb rfl dX7_usable_54 (by decide) ?_
                refine lv_bipush (v := -9) hx hb dX7_usable_71 (by decide) ?_
                exact rd_iret (v := -9) hx hb hr hlocks dX7_usable_73 (⟨_, Fst.hit hlt ⟨c_3, c_5, h_7⟩ hno, Or.inr ⟨i, hlt, rfl, Or.inr ⟨fun ⟨j, h1, h2, h3, h4, _⟩ => by have e := nI_inj (by omega) (by omega) (hbw.symm.trans h2); subst e; exact h_10 ⟨h3, h4⟩, rfl⟩⟩⟩)
            · -- X7_holdsNow f
              refine if_eq_t (tgt := 74) hx hb rfl dX7_usable_36 (by decide) ?_
              refine lv_iinc (v := nI (i + 1)) (lv' := [(3, .int (nI (i + 1))), (0, .ref (ma 0)), (1, .int (x)), (2, .int (sz))]) hx hb dX7_usable_74 hl (k := 0) rfl (nI_1 _) (by decide) rfl (fun ls hl => ?_)
              refine lv_goto (tgt := 2) hx hb dX7_usable_77 (by decide) ?_
              exact ih (i + 1) (by omega) (by omega) (all_s hno (fun q => h_7 q.2.2)) ls (lv_sub hl [0, 1, 2, 3] rfl)
  exact hloop (q + 1) 0 (by omega) (by omega) (all_0) ls (lv_sub hl [0, 1, 2, 3] rfl)
