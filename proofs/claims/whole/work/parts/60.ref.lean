/-! ===== the reference: takes, takesNumber (laid by wip/whole/gen) ===== -/
set_option maxHeartbeats 4000000 in
set_option maxRecDepth 100000 in
theorem c_X7_takes (l : Launch) (D : va_G) (cI cC cB cS : ClassId) (zz : Nat) (ma : Nat → Nat) (fi : Nat → Int32) (wd : Int64) (L : Nat) (f : Nat → Int32) (tk : Nat) (ts : Nat) (te : Nat) (nm : Int32) (wr : Int32) (b : Int32) (hL : L ≤ 120) (hch : Chr f) (htL : te ≤ L) (hwr : wr = 0 ∨ wr = 1) (hbz : b = 0 ∨ b = 1) : Met l yX7_takes wsX7_takes ({ frames := 2, cells := 0, slots := 0, locals := 45 } : Room) (wrPc D (TYS cI cC cB cS) [.ref (ma 0), .int (b)] ([(ma 0, oE 7 [.ref (ma 1), .ref (ma 2), .int (fi 0), .ref (ma 3), .ref (ma 4), .int (nI L), .int (nI te), .int (nI ts), .long (wd), .int (nm), .int (wr)]), (ma 4, iE cB 120 (bt f))]) zz) (va_Qv (fun u : TKN × Int32 => TakeR f L (wr) (b) (tk, ts, te, wd, nm) u) (wrB D (va_A ([(ma 0, oE 7 [.ref (ma 1), .ref (ma 2), .int (fi 0), .ref (ma 3), .ref (ma 4), .int (nI L), .int (nI te), .int (nI ts), .long (wd), .int (nm), .int (wr)]), (ma 4, iE cB 120 (bt f))]) zz) (fun u => [(ma 0, oE 7 [.ref (ma 1), .ref (ma 2), .int (fi 0), .ref (ma 3), .ref (ma 4), .int (nI L), .int (nI u.1.2.2.1), .int (nI u.1.2.1), .long (u.1.2.2.2.1), .int (u.1.2.2.2.2), .int (u.2)]), (ma 4, iE cB 120 (bt f))])) (va_A ([(ma 0, oE 7 [.ref (ma 1), .ref (ma 2), .int (fi 0), .ref (ma 3), .ref (ma 4), .int (nI L), .int (nI te), .int (nI ts), .long (wd), .int (nm), .int (wr)]), (ma 4, iE cB 120 (bt f))]) zz)) 0 0 (va_A ([(ma 0, oE 7 [.ref (ma 1), .ref (ma 2), .int (fi 0), .ref (ma 3), .ref (ma 4), .int (nI L), .int (nI te), .int (nI ts), .long (wd), .int (nm), .int (wr)]), (ma 4, iE cB 120 (bt f))]) zz) := by
  refine wr_intro (Qc := fun A B => va_Qv (fun u : TKN × Int32 => TakeR f L (wr) (b) (tk, ts, te, wd, nm) u) B A) (by decide) rfl (Nat.le_of_ble_eq_true rfl) ?_
  intro p e s m below meth c A hx hb hr hml hts hown hlocks hin hP hK hD hA hS ls hl
  have hP : va_P D vwCl [(ma 0, oE 7 [.ref (ma 1), .ref (ma 2), .int (fi 0), .ref (ma 3), .ref (ma 4), .int (nI L), .int (nI te), .int (nI ts), .long (wd), .int (nm), .int (wr)]), (ma 4, iE cB 120 (bt f))] s.heap := hP
  have hD : va_D A [(ma 0, oE 7 [.ref (ma 1), .ref (ma 2), .int (fi 0), .ref (ma 3), .ref (ma 4), .int (nI L), .int (nI te), .int (nI ts), .long (wd), .int (nm), .int (wr)]), (ma 4, iE cB 120 (bt f))] := hD
  have hown : s.vm.findClass RX7 = some m.cls := hown
  have hl : lv_has ls 2 [(0, .ref (ma 0)), (1, .int (b))] := hl
  refine lv_aload_n hx hb dX7_takes_0 rfl (lv_at hl 0 rfl) ?_
  refine lv_aload_n hx hb dX7_takes_1 rfl (lv_at hl 0 rfl) ?_
  refine va_get (D := D) (ci := 7) (v := .int (wr)) (C := RX7) (T := TX7) (N := 11) hx hb hts (by decide +kernel) hown hK.1 hP 0 rfl rfl 10 (by decide) (hts (.fieldLink RX7 102 "ParkingGarageModel" "isWrong" "Z") (by decide +kernel)) (fun _ h9 => h9) rfl dX7_takes_2 ?_
  refine lv_if_ne (tgt := 12) hx hb dX7_takes_5 (by decide) (fun c_1 => ?_) (fun c_1 => ?_)
  · -- c_1: wr ≠ 0
    refine lv_iconst (v := 1) hx hb dX7_takes_12 (by decide) ?_
    refine lv_goto (tgt := 17) hx hb dX7_takes_13 (by decide) ?_
    refine va_put (D := D) (ci := 7) (v := .int (1)) (ty := .boolean) (C := RX7) (T := TX7) (N := 11) hx hb hts (by decide +kernel) tyX7 tyX7_ok nmX7 hown hK.1 hP hD hS 0 rfl rfl 10 (by decide) (hts (.fieldLink RX7 102 "ParkingGarageModel" "isWrong" "Z") (by decide +kernel)) (fun _ h9 => h9) rfl (by decide +kernel) rfl rfl (Nat.le_of_ble_eq_true rfl) dX7_takes_17 (fun H locs hP hD hS => ?_)
    have hP : va_P D vwCl [(ma 0, oE 7 [.ref (ma 1), .ref (ma 2), .int (fi 0), .ref (ma 3), .ref (ma 4), .int (nI L), .int (nI te), .int (nI ts), .long (wd), .int (nm), .int (1)]), (ma 4, iE cB 120 (bt f))] H := hP
    have hD : va_D A [(ma 0, oE 7 [.ref (ma 1), .ref (ma 2), .int (fi 0), .ref (ma 3), .ref (ma 4), .int (nI L), .int (nI te), .int (nI ts), .long (wd), .int (nm), .int (1)]), (ma 4, iE cB 120 (bt f))] := hD
    refine lv_aload_n hx hb dX7_takes_20 rfl (lv_at hl 0 rfl) ?_
    refine va_get (D := D) (ci := 7) (v := .int (1)) (C := RX7) (T := TX7) (N := 11) hx hb hts (by decide +kernel) hown hK.1 hP 0 rfl rfl 10 (by decide) (hts (.fieldLink RX7 102 "ParkingGarageModel" "isWrong" "Z") (by decide +kernel)) (fun _ h9 => h9) rfl dX7_takes_21 ?_
    refine if_ne_t (tgt := 31) hx hb (by decide) dX7_takes_24 (by decide) ?_
    exact wr_vret (((tk, ts, te, wd, nm), 1)) hx hb hr hlocks hS hP hD [0, 1] rfl rfl (by decide) dX7_takes_31 (Or.inr ⟨fun q => c_1 q.1, rfl⟩)
  · -- c_1: not wr ≠ 0
    refine lv_iload_n hx hb dX7_takes_8 rfl (lv_at hl 1 rfl) ?_
    refine lv_if_ne (tgt := 16) hx hb dX7_takes_9 (by decide) (fun c_2 => ?_) (fun c_2 => ?_)
    · -- c_2: b ≠ 0
      refine lv_iconst (v := 0) hx hb dX7_takes_16 (by decide) ?_
      refine va_put (D := D) (ci := 7) (v := .int (0)) (ty := .boolean) (C := RX7) (T := TX7) (N := 11) hx hb hts (by decide +kernel) tyX7 tyX7_ok nmX7 hown hK.1 hP hD hS 0 rfl rfl 10 (by decide) (hts (.fieldLink RX7 102 "ParkingGarageModel" "isWrong" "Z") (by decide +kernel)) (fun _ h9 => h9) rfl (by decide +kernel) rfl rfl (Nat.le_of_ble_eq_true rfl) dX7_takes_17 (fun H locs hP hD hS => ?_)
      have hP : va_P D vwCl [(ma 0, oE 7 [.ref (ma 1), .ref (ma 2), .int (fi 0), .ref (ma 3), .ref (ma 4), .int (nI L), .int (nI te), .int (nI ts), .long (wd), .int (nm), .int (0)]), (ma 4, iE cB 120 (bt f))] H := hP
      have hD : va_D A [(ma 0, oE 7 [.ref (ma 1), .ref (ma 2), .int (fi 0), .ref (ma 3), .ref (ma 4), .int (nI L), .int (nI te), .int (nI ts), .long (wd), .int (nm), .int (0)]), (ma 4, iE cB 120 (bt f))] := hD
      refine lv_aload_n hx hb dX7_takes_20 rfl (lv_at hl 0 rfl) ?_
      refine va_get (D := D) (ci := 7) (v := .int (0)) (C := RX7) (T := TX7) (N := 11) hx hb hts (by decide +kernel) hown hK.1 hP 0 rfl rfl 10 (by decide) (hts (.fieldLink RX7 102 "ParkingGarageModel" "isWrong" "Z") (by decide +kernel)) (fun _ h9 => h9) rfl dX7_takes_21 ?_
      refine if_ne_f (tgt := 31) hx hb rfl dX7_takes_24 (by decide) ?_
      refine lv_aload_n hx hb dX7_takes_27 rfl (lv_at hl 0 rfl) ?_
      refine cv_wv (As := []) (rest := []) (tys := TYS cI cC cB cS) (ci := 7) (wr := []) ⟨hx, hb, hml, hown, hts⟩ (c_X7_goes l D cI cC cB cS _ (ma) (fi) (wd) (L) (f) (te) (nI ts) (nm) (0) (hL) (hch) (by omega)) (cwV 0 hts gX7_takes_X7_goes rfl rfl rfl (by decide +kernel) ⟨Nat.le_of_ble_eq_true rfl, Nat.le_of_ble_eq_true rfl⟩) hK hP hD hS hA [0, 1] [] rfl rfl (by decide) (by decide) (by decide) rfl rfl rfl rfl hl.1 (Nat.le_of_ble_eq_true rfl) dX7_takes_28 ⟨Nat.le_of_ble_eq_true rfl, Nat.le_of_ble_eq_true rfl⟩ (fun u_3 H locs hu_3 hP hD hS => ?_)
      have hP : va_P D vwCl [(ma 0, oE 7 [.ref (ma 1), .ref (ma 2), .int (fi 0), .ref (ma 3), .ref (ma 4), .int (nI L), .int (nI u_3.2.2.1), .int (nI u_3.2.1), .long (u_3.2.2.2.1), .int (u_3.2.2.2.2), .int (0)]), (ma 4, iE cB 120 (bt f))] H := hP
      have hD : va_D A [(ma 0, oE 7 [.ref (ma 1), .ref (ma 2), .int (fi 0), .ref (ma 3), .ref (ma 4), .int (nI L), .int (nI u_3.2.2.1), .int (nI u_3.2.1), .long (u_3.2.2.2.1), .int (u_3.2.2.2.2), .int (0)]), (ma 4, iE cB 120 (bt f))] := hD
      have hu_3 : GoT f L te u_3 := hu_3
      exact wr_vret ((u_3, 0)) hx hb hr hlocks hS hP hD [0, 1] rfl rfl (by decide) dX7_takes_31 (Or.inl ⟨c_1, hbz.resolve_left c_2, rfl, hu_3⟩)
    · -- c_2: not b ≠ 0
      refine lv_iconst (v := 1) hx hb dX7_takes_12 (by decide) ?_
      refine lv_goto (tgt := 17) hx hb dX7_takes_13 (by decide) ?_
      refine va_put (D := D) (ci := 7) (v := .int (1)) (ty := .boolean) (C := RX7) (T := TX7) (N := 11) hx hb hts (by decide +kernel) tyX7 tyX7_ok nmX7 hown hK.1 hP hD hS 0 rfl rfl 10 (by decide) (hts (.fieldLink RX7 102 "ParkingGarageModel" "isWrong" "Z") (by decide +kernel)) (fun _ h9 => h9) rfl (by decide +kernel) rfl rfl (Nat.le_of_ble_eq_true rfl) dX7_takes_17 (fun H locs hP hD hS => ?_)
      have hP : va_P D vwCl [(ma 0, oE 7 [.ref (ma 1), .ref (ma 2), .int (fi 0), .ref (ma 3), .ref (ma 4), .int (nI L), .int (nI te), .int (nI ts), .long (wd), .int (nm), .int (1)]), (ma 4, iE cB 120 (bt f))] H := hP
      have hD : va_D A [(ma 0, oE 7 [.ref (ma 1), .ref (ma 2), .int (fi 0), .ref (ma 3), .ref (ma 4), .int (nI L), .int (nI te), .int (nI ts), .long (wd), .int (nm), .int (1)]), (ma 4, iE cB 120 (bt f))] := hD
      refine lv_aload_n hx hb dX7_takes_20 rfl (lv_at hl 0 rfl) ?_
      refine va_get (D := D) (ci := 7) (v := .int (1)) (C := RX7) (T := TX7) (N := 11) hx hb hts (by decide +kernel) hown hK.1 hP 0 rfl rfl 10 (by decide) (hts (.fieldLink RX7 102 "ParkingGarageModel" "isWrong" "Z") (by decide +kernel)) (fun _ h9 => h9) rfl dX7_takes_21 ?_
      refine if_ne_t (tgt := 31) hx hb (by decide) dX7_takes_24 (by decide) ?_
      exact wr_vret (((tk, ts, te, wd, nm), 1)) hx hb hr hlocks hS hP hD [0, 1] rfl rfl (by decide) dX7_takes_31 (Or.inr ⟨fun q => absurd (c_2.symm.trans q.2) (by decide), rfl⟩)
set_option maxHeartbeats 4000000 in
set_option maxRecDepth 100000 in
theorem c_X7_takesNumber (l : Launch) (D : va_G) (cI cC cB cS : ClassId) (zz : Nat) (ma : Nat → Nat) (fi : Nat → Int32) (wd : Int64) (L : Nat) (f : Nat → Int32) (tk : Nat) (ts : Nat) (te : Nat) (nm : Int32) (wr : Int32) (lb : Nat) (ub : Nat) (hL : L ≤ 120) (hch : Chr f) (htL : te ≤ L) (hwr : wr = 0 ∨ wr = 1) : Met l yX7_takesNumber wsX7_takesNumber ({ frames := 3, cells := 0, slots := 0, locals := 66 } : Room) (wrPc D (TYS cI cC cB cS) [.ref (ma 0), .int (nI lb), .int (nI ub)] ([(ma 0, oE 7 [.ref (ma 1), .ref (ma 2), .int (fi 0), .ref (ma 3), .ref (ma 4), .int (nI L), .int (nI te), .int (nI ts), .long (wd), .int (nm), .int (wr)]), (ma 4, iE cB 120 (bt f))]) zz) (va_Qi (fun (r : Int32) (u : TKN × Int32) => TakeN f L lb ub (wr) (tk, ts, te, wd, nm) r u) (wrB D (va_A ([(ma 0, oE 7 [.ref (ma 1), .ref (ma 2), .int (fi 0), .ref (ma 3), .ref (ma 4), .int (nI L), .int (nI te), .int (nI ts), .long (wd), .int (nm), .int (wr)]), (ma 4, iE cB 120 (bt f))]) zz) (fun u => [(ma 0, oE 7 [.ref (ma 1), .ref (ma 2), .int (fi 0), .ref (ma 3), .ref (ma 4), .int (nI L), .int (nI u.1.2.2.1), .int (nI u.1.2.1), .long (u.1.2.2.2.1), .int (u.1.2.2.2.2), .int (u.2)]), (ma 4, iE cB 120 (bt f))])) (va_A ([(ma 0, oE 7 [.ref (ma 1), .ref (ma 2), .int (fi 0), .ref (ma 3), .ref (ma 4), .int (nI L), .int (nI te), .int (nI ts), .long (wd), .int (nm), .int (wr)]), (ma 4, iE cB 120 (bt f))]) zz)) 0 0 (va_A ([(ma 0, oE 7 [.ref (ma 1), .ref (ma 2), .int (fi 0), .ref (ma 3), .ref (ma 4), .int (nI L), .int (nI te), .int (nI ts), .long (wd), .int (nm), .int (wr)]), (ma 4, iE cB 120 (bt f))]) zz) := by
  refine wr_intro (Qc := fun A B => va_Qi (fun (r : Int32) (u : TKN × Int32) => TakeN f L lb ub (wr) (tk, ts, te, wd, nm) r u) B A) (by decide) rfl (Nat.le_of_ble_eq_true rfl) ?_
  intro p e s m below meth c A hx hb hr hml hts hown hlocks hin hP hK hD hA hS ls hl
  have hP : va_P D vwCl [(ma 0, oE 7 [.ref (ma 1), .ref (ma 2), .int (fi 0), .ref (ma 3), .ref (ma 4), .int (nI L), .int (nI te), .int (nI ts), .long (wd), .int (nm), .int (wr)]), (ma 4, iE cB 120 (bt f))] s.heap := hP
  have hD : va_D A [(ma 0, oE 7 [.ref (ma 1), .ref (ma 2), .int (fi 0), .ref (ma 3), .ref (ma 4), .int (nI L), .int (nI te), .int (nI ts), .long (wd), .int (nm), .int (wr)]), (ma 4, iE cB 120 (bt f))] := hD
  have hown : s.vm.findClass RX7 = some m.cls := hown
  have hl : lv_has ls 4 [(0, .ref (ma 0)), (1, .int (nI lb)), (2, .int (nI ub))] := hl
  refine lv_aload_n hx hb dX7_takesNumber_0 rfl (lv_at hl 0 rfl) ?_
  refine va_get (D := D) (ci := 7) (v := .int (nm)) (C := RX7) (T := TX7) (N := 11) hx hb hts (by decide +kernel) hown hK.1 hP 0 rfl rfl 9 (by decide) (hts (.fieldLink RX7 95 "ParkingGarageModel" "number" "I") (by decide +kernel)) (fun _ h9 => h9) rfl dX7_takesNumber_1 ?_
  refine lv_istore_n (lv' := [(3, .int (nm)), (0, .ref (ma 0)), (1, .int (nI lb)), (2, .int (nI ub))]) hx hb dX7_takesNumber_4 rfl hl (by decide) rfl (fun ls hl => ?_)
  refine lv_aload_n hx hb dX7_takesNumber_5 rfl (lv_at hl 1 rfl) ?_
  refine lv_iload_n hx hb dX7_takesNumber_6 rfl (lv_at hl 0 rfl) ?_
  refine lv_iload_n hx hb dX7_takesNumber_7 rfl (lv_at hl 2 rfl) ?_
  refine lv_iload_n hx hb dX7_takesNumber_8 rfl (lv_at hl 3 rfl) ?_
  refine cs_i (As := [.int (nm), .int (nI lb), .int (nI ub)]) (rest := [.ref (ma 0)]) (tys := TYS cI cC cB cS) ⟨hx, hb, hml, hown, hts⟩ (c_X7_in l D cI cC cB cS (nm) (nI lb) (nI ub)) (va_cwS 3 hts gX7_takesNumber_X7_in rfl rfl rfl (by decide +kernel) ⟨Nat.le_of_ble_eq_true rfl, Nat.le_of_ble_eq_true rfl⟩) hK hP [] rfl rfl rfl hl.1 (Nat.le_of_ble_eq_true rfl) dX7_takesNumber_9 ⟨Nat.le_of_ble_eq_true rfl, Nat.le_of_ble_eq_true rfl⟩ (fun r_1 hr_1 => ?_)
  rcases (show Yes (nI lb ≤ nm ∧ nm ≤ nI ub) r_1 from hr_1) with ⟨rfl, h_2⟩ | ⟨rfl, h_2⟩
  · -- X7_in t
    refine cv_wv (As := [.int (1)]) (rest := []) (tys := TYS cI cC cB cS) (ci := 7) (wr := []) ⟨hx, hb, hml, hown, hts⟩ (c_X7_takes l D cI cC cB cS _ (ma) (fi) (wd) (L) (f) (tk) (ts) (te) (nm) (wr) (1) (hL) (hch) (by omega) (hwr) ((Or.inr rfl))) (cwV 1 hts gX7_takesNumber_X7_takes rfl rfl rfl (by decide +kernel) ⟨Nat.le_of_ble_eq_true rfl, Nat.le_of_ble_eq_true rfl⟩) hK hP hD hS hA [0, 1] [] rfl rfl (by decide) (by decide) (by decide) rfl rfl rfl rfl hl.1 (Nat.le_of_ble_eq_true rfl) dX7_takesNumber_12 ⟨Nat.le_of_ble_eq_true rfl, Nat.le_of_ble_eq_true rfl⟩ (fun u_3 H locs hu_3 hP hD hS => ?_)
    have hP : va_P D vwCl [(ma 0, oE 7 [.ref (ma 1), .ref (ma 2), .int (fi 0), .ref (ma 3), .ref (ma 4), .int (nI L), .int (nI u_3.1.2.2.1), .int (nI u_3.1.2.1), .long (u_3.1.2.2.2.1), .int (u_3.1.2.2.2.2), .int (u_3.2)]), (ma 4, iE cB 120 (bt f))] H := hP
    have hD : va_D A [(ma 0, oE 7 [.ref (ma 1), .ref (ma 2), .int (fi 0), .ref (ma 3), .ref (ma 4), .int (nI L), .int (nI u_3.1.2.2.1), .int (nI u_3.1.2.1), .long (u_3.1.2.2.2.1), .int (u_3.1.2.2.2.2), .int (u_3.2)]), (ma 4, iE cB 120 (bt f))] := hD
    have hu_3 : TakeR f L (wr) (1) (tk, ts, te, wd, nm) u_3 := hu_3
    refine lv_iload_n hx hb dX7_takesNumber_15 rfl (lv_at hl 0 rfl) ?_
    exact wr_iret (v := nm) (u_3) hx hb hr hlocks hS hP hD [0, 1] rfl rfl (by decide) dX7_takesNumber_16 (⟨rfl, Or.inl ⟨h_2, hu_3⟩⟩)
  · -- X7_in f
    refine cv_wv (As := [.int (0)]) (rest := []) (tys := TYS cI cC cB cS) (ci := 7) (wr := []) ⟨hx, hb, hml, hown, hts⟩ (c_X7_takes l D cI cC cB cS _ (ma) (fi) (wd) (L) (f) (tk) (ts) (te) (nm) (wr) (0) (hL) (hch) (by omega) (hwr) ((Or.inl rfl))) (cwV 1 hts gX7_takesNumber_X7_takes rfl rfl rfl (by decide +kernel) ⟨Nat.le_of_ble_eq_true rfl, Nat.le_of_ble_eq_true rfl⟩) hK hP hD hS hA [0, 1] [] rfl rfl (by decide) (by decide) (by decide) rfl rfl rfl rfl hl.1 (Nat.le_of_ble_eq_true rfl) dX7_takesNumber_12 ⟨Nat.le_of_ble_eq_true rfl, Nat.le_of_ble_eq_true rfl⟩ (fun u_4 H locs hu_4 hP hD hS => ?_)
    have hP : va_P D vwCl [(ma 0, oE 7 [.ref (ma 1), .ref (ma 2), .int (fi 0), .ref (ma 3), .ref (ma 4), .int (nI L), .int (nI u_4.1.2.2.1), .int (nI u_4.1.2.1), .long (u_4.1.2.2.2.1), .int (u_4.1.2.2.2.2), .int (u_4.2)]), (ma 4, iE cB 120 (bt f))] H := hP
    have hD : va_D A [(ma 0, oE 7 [.ref (ma 1), .ref (ma 2), .int (fi 0), .ref (ma 3), .ref (ma 4), .int (nI L), .int (nI u_4.1.2.2.1), .int (nI u_4.1.2.1), .long (u_4.1.2.2.2.1), .int (u_4.1.2.2.2.2), .int (u_4.2)]), (ma 4, iE cB 120 (bt f))] := hD
    have hu_4 : TakeR f L (wr) (0) (tk, ts, te, wd, nm) u_4 := hu_4
    refine lv_iload_n hx hb dX7_takesNumber_15 rfl (lv_at hl 0 rfl) ?_
    exact wr_iret (v := nm) (u_4) hx hb hr hlocks hS hP hD [0, 1] rfl rfl (by decide) dX7_takesNumber_16 (⟨rfl, Or.inr ⟨h_2, hu_4⟩⟩)
