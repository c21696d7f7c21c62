/-! ===== State: more methods that read (laid by wip/whole/gen) ===== -/
set_option maxHeartbeats 4000000 in
set_option maxRecDepth 100000 in
theorem c_X3_isReservable (l : Launch) (D : va_G) (cI cC cB cS : ClassId) (a : Nat → Nat) (g : Nat → Nat → Int32) (n : Nat) (q : Nat) (k : Nat) (b : Int32) (en : Int32) (hn : g 3 0 = nI n) (hnb : n ≤ 30) (hq : g 12 0 = nI q) (hqc : q ≤ 16) (hk : k < n) : Met l yX3_isReservable wsX3_isReservable ({ frames := 4, cells := 0, slots := 0, locals := 91 } : Room) (rdPc D (TYS cI cC cB cS) [.ref (a 0), .int (nI k), .int (b), .int (en)] (wS cI a g)) (vp_Si (fun r => Yes (Rsv q (g 14) (g 18) (g 15) (g 16) (g 8) (g 0 0) (g 1 1) (b) (en) k) r)) 0 0 (fun _ => False) := by
  refine rd_intro (by decide) rfl (Nat.le_of_ble_eq_true rfl) ?_
  intro p e s m below meth c hx hb hr hml hts hown hlocks hP hK ls hl
  have hP : va_P D vwCl [(a 0, oE 3 [.int (g 0 0), .int (g 0 1), .ref (a 1), .ref (a 2), .ref (a 3), .ref (a 12), .ref (a 19), .ref (a 23)]), (a 1, iE cI 5 (g 1)), (a 2, iE cI 4 (g 2)), (a 3, oE 0 [.int (g 3 0), .ref (a 4), .ref (a 5), .ref (a 6), .ref (a 7), .ref (a 8), .ref (a 9), .ref (a 10), .ref (a 11)]), (a 4, iE cI 30 (g 4)), (a 5, iE cI 30 (g 5)), (a 6, iE cI 30 (g 6)), (a 7, iE cI 30 (g 7)), (a 8, iE cI 30 (g 8)), (a 9, iE cI 30 (g 9)), (a 10, iE cI 30 (g 10)), (a 11, iE cI 30 (g 11)), (a 12, oE 2 [.int (g 12 0), .ref (a 13), .ref (a 14), .ref (a 15), .ref (a 16), .ref (a 17), .ref (a 18)]), (a 13, iE cI 16 (g 13)), (a 14, iE cI 16 (g 14)), (a 15, iE cI 16 (g 15)), (a 16, iE cI 16 (g 16)), (a 17, iE cI 16 (g 17)), (a 18, iE cI 16 (g 18)), (a 19, oE 4 [.int (g 19 0), .ref (a 20), .ref (a 21), .ref (a 22)]), (a 20, iE cI 5 (g 20)), (a 21, iE cI 5 (g 21)), (a 22, iE cI 5 (g 22)), (a 23, oE 4 [.int (g 23 0), .ref (a 24), .ref (a 25), .ref (a 26)]), (a 24, iE cI 5 (g 24)), (a 25, iE cI 5 (g 25)), (a 26, iE cI 5 (g 26))] s.heap := hP
  have hown : s.vm.findClass RX3 = some m.cls := hown
  have hl : lv_has ls 6 [(0, .ref (a 0)), (1, .int (nI k)), (2, .int (b)), (3, .int (en))] := hl
  refine lv_iload_n hx hb dX3_isReservable_0 rfl (lv_at hl 2 rfl) ?_
  refine lv_aload_n hx hb dX3_isReservable_1 rfl (lv_at hl 0 rfl) ?_
  refine va_get (D := D) (ci := 3) (v := .ref (a 1)) (C := RX3) (T := TX3) (N := 8) hx hb hts (by decide +kernel) hown hK.1 hP 0 rfl rfl 2 (by decide) (hts (.fieldLink RX3 18 "ParkingGarage$State" "numbers" "[I") (by decide +kernel)) (fun _ h9 => h9) rfl dX3_isReservable_2 ?_
  refine lv_iconst (v := 1) hx hb dX3_isReservable_5 (by decide) ?_
  refine iald_n (f := g 1) hx hb hK.1 hP 1 0 rfl rfl (1) (rfl) (by decide) (by omega) dX3_isReservable_6 ?_
  refine lv_isub hx hb dX3_isReservable_7 ?_
  refine lv_istore (lv' := [(4, .int ((b) - ((g 1) (1)))), (0, .ref (a 0)), (1, .int (nI k)), (2, .int (b)), (3, .int (en))]) hx hb dX3_isReservable_8 hl (by decide) rfl (fun ls hl => ?_)
  refine lv_iload hx hb dX3_isReservable_10 (lv_at hl 0 rfl) ?_
  refine lv_aload_n hx hb dX3_isReservable_12 rfl (lv_at hl 1 rfl) ?_
  refine va_get (D := D) (ci := 3) (v := .int (g 0 0)) (C := RX3) (T := TX3) (N := 8) hx hb hts (by decide +kernel) hown hK.1 hP 0 rfl rfl 0 (by decide) (hts (.fieldLink RX3 9 "ParkingGarage$State" "time" "I") (by decide +kernel)) (fun _ h9 => h9) rfl dX3_isReservable_13 ?_
  refine lv_icmp_gt (tgt := 34) hx hb dX3_isReservable_16 (by decide) (fun c_1 => ?_) (fun c_1 => ?_)
  · -- c_1: (b) - ((g 1) (1)) > g 0 0
    refine lv_iconst (v := 0) hx hb dX3_isReservable_34 (by decide) ?_
    refine lv_istore (lv' := [(5, .int (0)), (4, .int ((b) - ((g 1) (1)))), (0, .ref (a 0)), (1, .int (nI k)), (2, .int (b)), (3, .int (en))]) hx hb dX3_isReservable_35 hl (by decide) rfl (fun ls hl => ?_)
    refine lv_iload hx hb dX3_isReservable_37 (lv_at hl 0 rfl) ?_
    refine if_ne_f (tgt := 73) hx hb rfl dX3_isReservable_39 (by decide) ?_
    refine lv_aload_n hx hb dX3_isReservable_42 rfl (lv_at hl 2 rfl) ?_
    refine va_get (D := D) (ci := 3) (v := .ref (a 12)) (C := RX3) (T := TX3) (N := 8) hx hb hts (by decide +kernel) hown hK.1 hP 0 rfl rfl 5 (by decide) (hts (.fieldLink RX3 35 "ParkingGarage$State" "reservations" "LParkingGarage$Reservations;") (by decide +kernel)) (fun _ h9 => h9) rfl dX3_isReservable_43 ?_
    refine lv_aload_n hx hb dX3_isReservable_46 rfl (lv_at hl 2 rfl) ?_
    refine va_get (D := D) (ci := 3) (v := .ref (a 12)) (C := RX3) (T := TX3) (N := 8) hx hb hts (by decide +kernel) hown hK.1 hP 0 rfl rfl 5 (by decide) (hts (.fieldLink RX3 35 "ParkingGarage$State" "reservations" "LParkingGarage$Reservations;") (by decide +kernel)) (fun _ h9 => h9) rfl dX3_isReservable_47 ?_
    refine lv_iload_n hx hb dX3_isReservable_50 rfl (lv_at hl 3 rfl) ?_
    refine lv_iload hx hb dX3_isReservable_51 (lv_at hl 1 rfl) ?_
    refine lv_iload_n hx hb dX3_isReservable_53 rfl (lv_at hl 5 rfl) ?_
    refine lv_aload_n hx hb dX3_isReservable_54 rfl (lv_at hl 2 rfl) ?_
    refine va_get (D := D) (ci := 3) (v := .ref (a 1)) (C := RX3) (T := TX3) (N := 8) hx hb hts (by decide +kernel) hown hK.1 hP 0 rfl rfl 2 (by decide) (hts (.fieldLink RX3 18 "ParkingGarage$State" "numbers" "[I") (by decide +kernel)) (fun _ h9 => h9) rfl dX3_isReservable_55 ?_
    refine lv_iconst (v := 1) hx hb dX3_isReservable_58 (by decide) ?_
    refine iald_n (f := g 1) hx hb hK.1 hP 1 0 rfl rfl (1) (rfl) (by decide) (by omega) dX3_isReservable_59 ?_
    refine cv_i (As := [.int (nI k), .int ((b) - ((g 1) (1))), .int (en), .int ((g 1) (1))]) (rest := [.ref (a 12)]) (tys := TYS cI cC cB cS) (ci := 2) ⟨hx, hb, hml, hown, hts⟩ (c_X2_holderBetween l D cI cC cB cS ((fun k => a (12 + k))) ((fun k => g (12 + k))) (q) (nI k) ((b) - ((g 1) (1))) (en) ((g 1) (1)) (hq) (hqc)) (cwV 4 hts gX3_isReservable_X2_holderBetween rfl rfl rfl (by decide +kernel) ⟨Nat.le_of_ble_eq_true rfl, Nat.le_of_ble_eq_true rfl⟩) hK hP [12, 13, 14, 15, 16, 17, 18] rfl rfl rfl rfl rfl hl.1 (Nat.le_of_ble_eq_true rfl) dX3_isReservable_60 ⟨Nat.le_of_ble_eq_true rfl, Nat.le_of_ble_eq_true rfl⟩ (fun r_2 hr_2 => ?_)
    have hr_2 : Fst (fun w => g 14 w = nI k ∧ Hld (g 18) (g 15) (g 16) ((b) - ((g 1) (1))) (en) ((g 1) (1)) w) q r_2 := hr_2
    refine cv_i (As := [.int (r_2)]) (rest := []) (tys := TYS cI cC cB cS) (ci := 2) ⟨hx, hb, hml, hown, hts⟩ (c_X2_has l D cI cC cB cS ((fun k => a (12 + k))) ((fun k => g (12 + k))) (q) (r_2) (hq) (hqc)) (cwV 1 hts gX3_isReservable_X2_has rfl rfl rfl (by decide +kernel) ⟨Nat.le_of_ble_eq_true rfl, Nat.le_of_ble_eq_true rfl⟩) hK hP [12, 13, 14, 15, 16, 17, 18] rfl rfl rfl rfl rfl hl.1 (Nat.le_of_ble_eq_true rfl) dX3_isReservable_63 ⟨Nat.le_of_ble_eq_true rfl, Nat.le_of_ble_eq_true rfl⟩ (fun r_3 hr_3 => ?_)
    rcases (show Yes (∃ w, w < q ∧ r_2 = nI w) r_3 from hr_3) with ⟨rfl, h_4⟩ | ⟨rfl, h_4⟩
    · -- X2_has t
      refine if_ne_t (tgt := 73) hx hb (by decide) dX3_isReservable_66 (by decide) ?_
      refine lv_iconst (v := 0) hx hb dX3_isReservable_73 (by decide) ?_
      exact rd_zret (v := 0) hx hb hr hlocks dX3_isReservable_74 (by decide) (Or.inr ⟨rfl, fun z => z.2 ((Fst.has (by omega) hr_2).mp h_4)⟩)
    · -- X2_has f
      refine if_ne_f (tgt := 73) hx hb rfl dX3_isReservable_66 (by decide) ?_
      refine lv_iconst (v := 1) hx hb dX3_isReservable_69 (by decide) ?_
      refine lv_goto (tgt := 74) hx hb dX3_isReservable_70 (by decide) ?_
      exact rd_zret (v := 1) hx hb hr hlocks dX3_isReservable_74 (by decide) (Or.inl ⟨rfl, (fun z => Int32.not_le.mpr c_1 z.1), fun z => h_4 ((Fst.has (by omega) hr_2).mpr z)⟩)
  · -- c_1: not (b) - ((g 1) (1)) > g 0 0
    refine lv_aload_n hx hb dX3_isReservable_19 rfl (lv_at hl 1 rfl) ?_
    refine va_get (D := D) (ci := 3) (v := .ref (a 3)) (C := RX3) (T := TX3) (N := 8) hx hb hts (by decide +kernel) hown hK.1 hP 0 rfl rfl 4 (by decide) (hts (.fieldLink RX3 28 "ParkingGarage$State" "bays" "LParkingGarage$Bays;") (by decide +kernel)) (fun _ h9 => h9) rfl dX3_isReservable_20 ?_
    refine lv_iload_n hx hb dX3_isReservable_23 rfl (lv_at hl 2 rfl) ?_
    refine cv_i (As := [.int (nI k)]) (rest := []) (tys := TYS cI cC cB cS) (ci := 0) ⟨hx, hb, hml, hown, hts⟩ (c_X0_isEmpty l D cI cC cB cS ((fun k => a (3 + k))) ((fun k => g (3 + k))) (n) (k) (hn) (hnb) (hk)) (cwV 1 hts gX3_isReservable_X0_isEmpty rfl rfl rfl (by decide +kernel) ⟨Nat.le_of_ble_eq_true rfl, Nat.le_of_ble_eq_true rfl⟩) hK hP [3, 4, 5, 6, 7, 8, 9, 10, 11] rfl rfl rfl rfl rfl hl.1 (Nat.le_of_ble_eq_true rfl) dX3_isReservable_24 ⟨Nat.le_of_ble_eq_true rfl, Nat.le_of_ble_eq_true rfl⟩ (fun r_5 hr_5 => ?_)
    rcases (show Yes (g 8 k = 0) r_5 from hr_5) with ⟨rfl, h_6⟩ | ⟨rfl, h_6⟩
    · -- X0_isEmpty t
      refine if_ne_t (tgt := 34) hx hb (by decide) dX3_isReservable_27 (by decide) ?_
      refine lv_iconst (v := 0) hx hb dX3_isReservable_34 (by decide) ?_
      refine lv_istore (lv' := [(5, .int (0)), (4, .int ((b) - ((g 1) (1)))), (0, .ref (a 0)), (1, .int (nI k)), (2, .int (b)), (3, .int (en))]) hx hb dX3_isReservable_35 hl (by decide) rfl (fun ls hl => ?_)
      refine lv_iload hx hb dX3_isReservable_37 (lv_at hl 0 rfl) ?_
      refine if_ne_f (tgt := 73) hx hb rfl dX3_isReservable_39 (by decide) ?_
      refine lv_aload_n hx hb dX3_isReservable_42 rfl (lv_at hl 2 rfl) ?_
      refine va_get (D := D) (ci := 3) (v := .ref (a 12)) (C := RX3) (T := TX3) (N := 8) hx hb hts (by decide +kernel) hown hK.1 hP 0 rfl rfl 5 (by decide) (hts (.fieldLink RX3 35 "ParkingGarage$State" "reservations" "LParkingGarage$Reservations;") (by decide +kernel)) (fun _ h9 => h9) rfl dX3_isReservable_43 ?_
      refine lv_aload_n hx hb dX3_isReservable_46 rfl (lv_at hl 2 rfl) ?_
      refine va_get (D := D) (ci := 3) (v := .ref (a 12)) (C := RX3) (T := TX3) (N := 8) hx hb hts (by decide +kernel) hown hK.1 hP 0 rfl rfl 5 (by decide) (hts (.fieldLink RX3 35 "ParkingGarage$State" "reservations" "LParkingGarage$Reservations;") (by decide +kernel)) (fun _ h9 => h9) rfl dX3_isReservable_47 ?_
      refine lv_iload_n hx hb dX3_isReservable_50 rfl (lv_at hl 3 rfl) ?_
      refine lv_iload hx hb dX3_isReservable_51 (lv_at hl 1 rfl) ?_
      refine lv_iload_n hx hb dX3_isReservable_53 rfl (lv_at hl 5 rfl) ?_
      refine lv_aload_n hx hb dX3_isReservable_54 rfl (lv_at hl 2 rfl) ?_
      refine va_get (D := D) (ci := 3) (v := .ref (a 1)) (C := RX3) (T := TX3) (N := 8) hx hb hts (by decide +kernel) hown hK.1 hP 0 rfl rfl 2 (by decide) (hts (.fieldLink RX3 18 "ParkingGarage$State" "numbers" "[I") (by decide +kernel)) (fun _ h9 => h9) rfl dX3_isReservable_55 ?_
      refine lv_iconst (v := 1) hx hb dX3_isReservable_58 (by decide) ?_
      refine iald_n (f := g 1) hx hb hK.1 hP 1 0 rfl rfl (1) (rfl) (by decide) (by omega) dX3_isReservable_59 ?_
      refine cv_i (As := [.int (nI k), .int ((b) - ((g 1) (1))), .int (en), .int ((g 1) (1))]) (rest := [.ref (a 12)]) (tys := TYS cI cC cB cS) (ci := 2) ⟨hx, hb, hml, hown, hts⟩ (c_X2_holderBetween l D cI cC cB cS ((fun k => a (12 + k))) ((fun k => g (12 + k))) (q) (nI k) ((b) - ((g 1) (1))) (en) ((g 1) (1)) (hq) (hqc)) (cwV 4 hts gX3_isReservable_X2_holderBetween rfl rfl rfl (by decide +kernel) ⟨Nat.le_of_ble_eq_true rfl, Nat.le_of_ble_eq_true rfl⟩) hK hP [12, 13, 14, 15, 16, 17, 18] rfl rfl rfl rfl rfl hl.1 (Nat.le_of_ble_eq_true rfl) dX3_isReservable_60 ⟨Nat.le_of_ble_eq_true rfl, Nat.le_of_ble_eq_true rfl⟩ (fun r_7 hr_7 => ?_)
      have hr_7 : Fst (fun w => g 14 w = nI k ∧ Hld (g 18) (g 15) (g 16) ((b) - ((g 1) (1))) (en) ((g 1) (1)) w) q r_7 := hr_7
      refine cv_i (As := [.int (r_7)]) (rest := []) (tys := TYS cI cC cB cS) (ci := 2) ⟨hx, hb, hml, hown, hts⟩ (c_X2_has l D cI cC cB cS ((fun k => a (12 + k))) ((fun k => g (12 + k))) (q) (r_7) (hq) (hqc)) (cwV 1 hts gX3_isReservable_X2_has rfl rfl rfl (by decide +kernel) ⟨Nat.le_of_ble_eq_true rfl, Nat.le_of_ble_eq_true rfl⟩) hK hP [12, 13, 14, 15, 16, 17, 18] rfl rfl rfl rfl rfl hl.1 (Nat.le_of_ble_eq_true rfl) dX3_isReservable_63 ⟨Nat.le_of_ble_eq_true rfl, Nat.le_of_ble_eq_true rfl⟩ (fun r_8 hr_8 => ?_)
      rcases (show Yes (∃ w, w < q ∧ r_7 = nI w) r_8 from hr_8) with ⟨rfl, h_9⟩ | ⟨rfl, h_9⟩
      · -- X2_has t
        refine if_ne_t (tgt := 73) hx hb (by decide) dX3_isReservable_66 (by decide) ?_
        refine lv_iconst (v := 0) hx hb dX3_isReservable_73 (by decide) ?_
        exact rd_zret (v := 0) hx hb hr hlocks dX3_isReservable_74 (by decide) (Or.inr ⟨rfl, fun z => z.2 ((Fst.has (by omega) hr_7).mp h_9)⟩)
      · -- X2_has f
        refine if_ne_f (tgt := 73) hx hb rfl dX3_isReservable_66 (by decide) ?_
        refine lv_iconst (v := 1) hx hb dX3_isReservable_69 (by decide) ?_
        refine lv_goto (tgt := 74) hx hb dX3_isReservable_70 (by decide) ?_
        exact rd_zret (v := 1) hx hb hr hlocks dX3_isReservable_74 (by decide) (Or.inl ⟨rfl, (fun z => z.2 h_6), fun z => h_9 ((Fst.has (by omega) hr_7).mpr z)⟩)
    · -- X0_isEmpty f
      refine if_ne_f (tgt := 34) hx hb rfl dX3_isReservable_27 (by decide) ?_
      refine lv_iconst (v := 1) hx hb dX3_isReservable_30 (by decide) ?_
      refine lv_goto (tgt := 35) hx hb dX3_isReservable_31 (by decide) ?_
      refine lv_istore (lv' := [(5, .int (1)), (4, .int ((b) - ((g 1) (1)))), (0, .ref (a 0)), (1, .int (nI k)), (2, .int (b)), (3, .int (en))]) hx hb dX3_isReservable_35 hl (by decide) rfl (fun ls hl => ?_)
      refine lv_iload hx hb dX3_isReservable_37 (lv_at hl 0 rfl) ?_
      refine if_ne_t (tgt := 73) hx hb (by decide) dX3_isReservable_39 (by decide) ?_
      refine lv_iconst (v := 0) hx hb dX3_isReservable_73 (by decide) ?_
      exact rd_zret (v := 0) hx hb hr hlocks dX3_isReservable_74 (by decide) (Or.inr ⟨rfl, fun z => z.1 ⟨Int32.not_lt.mp c_1, h_6⟩⟩)
set_option maxHeartbeats 4000000 in
set_option maxRecDepth 100000 in
theorem c_X3_firstReservable (l : Launch) (D : va_G) (cI cC cB cS : ClassId) (a : Nat → Nat) (g : Nat → Nat → Int32) (n : Nat) (q : Nat) (sz : Int32) (b : Int32) (en : Int32) (hn : g 3 0 = nI n) (hnb : n ≤ 30) (hq : g 12 0 = nI q) (hqc : q ≤ 16) : Met l yX3_firstReservable wsX3_firstReservable ({ frames := 5, cells := 0, slots := 0, locals := 116 } : Room) (rdPc D (TYS cI cC cB cS) [.ref (a 0), .int (sz), .int (b), .int (en)] (wS cI a g)) (vp_Si (fun r => Wlk (-9) (Imp (fun j z => (g 7 j = 1 ∧ sz ≤ g 6 j ∧ Rsv q (g 14) (g 18) (g 15) (g 16) (g 8) (g 0 0) (g 1 1) (b) (en) j) ∧ Btr (g 4) (g 5) (g 6) (g 1 0) n j z) nI) n r)) 0 0 (fun _ => False) := by
  refine rd_intro (by decide) rfl (Nat.le_of_ble_eq_true rfl) ?_
  intro p e s m below meth c hx hb hr hml hts hown hlocks hP hK ls hl
  have hP : va_P D vwCl [(a 0, oE 3 [.int (g 0 0), .int (g 0 1), .ref (a 1), .ref (a 2), .ref (a 3), .ref (a 12), .ref (a 19), .ref (a 23)]), (a 1, iE cI 5 (g 1)), (a 2, iE cI 4 (g 2)), (a 3, oE 0 [.int (g 3 0), .ref (a 4), .ref (a 5), .ref (a 6), .ref (a 7), .ref (a 8), .ref (a 9), .ref (a 10), .ref (a 11)]), (a 4, iE cI 30 (g 4)), (a 5, iE cI 30 (g 5)), (a 6, iE cI 30 (g 6)), (a 7, iE cI 30 (g 7)), (a 8, iE cI 30 (g 8)), (a 9, iE cI 30 (g 9)), (a 10, iE cI 30 (g 10)), (a 11, iE cI 30 (g 11)), (a 12, oE 2 [.int (g 12 0), .ref (a 13), .ref (a 14), .ref (a 15), .ref (a 16), .ref (a 17), .ref (a 18)]), (a 13, iE cI 16 (g 13)), (a 14, iE cI 16 (g 14)), (a 15, iE cI 16 (g 15)), (a 16, iE cI 16 (g 16)), (a 17, iE cI 16 (g 17)), (a 18, iE cI 16 (g 18)), (a 19, oE 4 [.int (g 19 0), .ref (a 20), .ref (a 21), .ref (a 22)]), (a 20, iE cI 5 (g 20)), (a 21, iE cI 5 (g 21)), (a 22, iE cI 5 (g 22)), (a 23, oE 4 [.int (g 23 0), .ref (a 24), .ref (a 25), .ref (a 26)]), (a 24, iE cI 5 (g 24)), (a 25, iE cI 5 (g 25)), (a 26, iE cI 5 (g 26))] s.heap := hP
  have hown : s.vm.findClass RX3 = some m.cls := hown
  have hl : lv_has ls 6 [(0, .ref (a 0)), (1, .int (sz)), (2, .int (b)), (3, .int (en))] := hl
  refine lv_bipush (v := -9) hx hb dX3_firstReservable_0 (by decide) ?_
  refine lv_istore (lv' := [(4, .int (-9)), (0, .ref (a 0)), (1, .int (sz)), (2, .int (b)), (3, .int (en))]) hx hb dX3_firstReservable_2 hl (by decide) rfl (fun ls hl => ?_)
  refine lv_iconst (v := 0) hx hb dX3_firstReservable_4 (by decide) ?_
  refine lv_istore (lv' := [(5, .int (0)), (4, .int (-9)), (0, .ref (a 0)), (1, .int (sz)), (2, .int (b)), (3, .int (en))]) hx hb dX3_firstReservable_5 hl (by decide) rfl (fun ls hl => ?_)
  have hloop : ∀ (d i : Nat) (z : Int32), i ≤ n → n - i < d → (Wlk (-9) (Imp (fun j z => (g 7 j = 1 ∧ sz ≤ g 6 j ∧ Rsv q (g 14) (g 18) (g 15) (g 16) (g 8) (g 0 0) (g 1 1) (b) (en) j) ∧ Btr (g 4) (g 5) (g 6) (g 1 0) n j z) nI) i z) → ∀ ls : Array Slot, lv_has ls 6 [(4, .int (z)), (5, .int (nI i)), (0, .ref (a 0)), (1, .int (sz)), (2, .int (b)), (3, .int (en))] → W p l e ({ frames := 5, cells := 0, slots := 0, locals := 116 } : Room) s m (([.ref (a 0), .int (sz), .int (b), .int (en)] : List Value).toArray) below meth c s.heap [] 0 0 (MQ below (vp_Si (fun r => Wlk (-9) (Imp (fun j z => (g 7 j = 1 ∧ sz ≤ g 6 j ∧ Rsv q (g 14) (g 18) (g 15) (g 16) (g 8) (g 0 0) (g 1 1) (b) (en) j) ∧ Btr (g 4) (g 5) (g 6) (g 1 0) n j z) nI) n r)) (([.ref (a 0), .int (sz), .int (b), .int (en)] : List Value).toArray) s 0 0 (fun _ => False)) (F0 m 7 ls []) := by
    intro d
    induction d with
    | zero => intro i _ _ h2; exact absurd h2 (Nat.not_lt_zero _)
    | succ d ih =>
      intro i z hi hd hw ls hl
      refine lv_iload hx hb dX3_firstReservable_7 (lv_at hl 1 rfl) ?_
      refine lv_aload_n hx hb dX3_firstReservable_9 rfl (lv_at hl 2 rfl) ?_
      refine va_get (D := D) (ci := 3) (v := .ref (a 3)) (C := RX3) (T := TX3) (N := 8) hx hb hts (by decide +kernel) hown hK.1 hP 0 rfl rfl 4 (by decide) (hts (.fieldLink RX3 28 "ParkingGarage$State" "bays" "LParkingGarage$Bays;") (by decide +kernel)) (fun _ h9 => h9) rfl dX3_firstReservable_10 ?_
      refine va_get (D := D) (ci := 0) (v := .int (g 3 0)) (C := RX0) (T := TX0) (N := 9) hx hb hts (by decide +kernel) hown hK.1 hP 3 rfl rfl 0 (by decide) (hts (.fieldLink RX3 89 "ParkingGarage$Bays" "number" "I") (by decide +kernel)) (fun _ h9 => h9) rfl dX3_firstReservable_13 ?_
      refine lv_icmp_ge (tgt := 64) hx hb dX3_firstReservable_16 (by decide) (fun c_1 => ?_) (fun c_1 => ?_)
      · -- c_1: nI i ≥ g 3 0
        have hge : i = n := nI_geD hn hi (by omega) c_1
        subst hge
        refine lv_iload hx hb dX3_firstReservable_64 (lv_at hl 0 rfl) ?_
        exact rd_iret (v := z) hx hb hr hlocks dX3_firstReservable_66 (hw)
      · -- c_1: not nI i ≥ g 3 0
        have hlt : i < n := nI_ltD hn hi (by omega) c_1
        refine lv_aload_n hx hb dX3_firstReservable_19 rfl (lv_at hl 2 rfl) ?_
        refine va_get (D := D) (ci := 3) (v := .ref (a 3)) (C := RX3) (T := TX3) (N := 8) hx hb hts (by decide +kernel) hown hK.1 hP 0 rfl rfl 4 (by decide) (hts (.fieldLink RX3 28 "ParkingGarage$State" "bays" "LParkingGarage$Bays;") (by decide +kernel)) (fun _ h9 => h9) rfl dX3_firstReservable_20 ?_
        refine lv_iload hx hb dX3_firstReservable_23 (lv_at hl 1 rfl) ?_
        refine lv_iload_n hx hb dX3_firstReservable_25 rfl (lv_at hl 3 rfl) ?_
        refine cv_i (As := [.int (nI i), .int (sz)]) (rest := []) (tys := TYS cI cC cB cS) (ci := 0) ⟨hx, hb, hml, hown, hts⟩ (c_X0_serves l D cI cC cB cS ((fun k => a (3 + k))) ((fun k => g (3 + k))) (n) (nI i) (sz) (hn) (hnb)) (cwV 2 hts gX3_firstReservable_X0_serves rfl rfl rfl (by decide +kernel) ⟨Nat.le_of_ble_eq_true rfl, Nat.le_of_ble_eq_true rfl⟩) hK hP [3, 4, 5, 6, 7, 8, 9, 10, 11] rfl rfl rfl rfl rfl hl.1 (Nat.le_of_ble_eq_true rfl) dX3_firstReservable_26 ⟨Nat.le_of_ble_eq_true rfl, Nat.le_of_ble_eq_true rfl⟩ (fun r_2 hr_2 => ?_)
        rcases (show Yes (∃ w, w < n ∧ nI i = nI w ∧ g 7 w = 1 ∧ sz ≤ g 6 w) r_2 from hr_2) with ⟨rfl, h_3⟩ | ⟨rfl, h_3⟩
        · -- X0_serves t
          have hsv : g 7 i = 1 ∧ sz ≤ g 6 i := by
              obtain ⟨k, h1, h2, h3, h4⟩ := h_3
              have e := nI_inj (by omega) (by omega) h2
              subst e
              exact ⟨h3, h4⟩
          refine if_eq_f (tgt := 58) hx hb (by decide) dX3_firstReservable_29 (by decide) ?_
          refine lv_aload_n hx hb dX3_firstReservable_32 rfl (lv_at hl 2 rfl) ?_
          refine lv_iload hx hb dX3_firstReservable_33 (lv_at hl 1 rfl) ?_
          refine lv_iload_n hx hb dX3_firstReservable_35 rfl (lv_at hl 4 rfl) ?_
          refine lv_iload_n hx hb dX3_firstReservable_36 rfl (lv_at hl 5 rfl) ?_
          refine cv_i (As := [.int (nI i), .int (b), .int (en)]) (rest := []) (tys := TYS cI cC cB cS) (ci := 3) ⟨hx, hb, hml, hown, hts⟩ (c_X3_isReservable l D cI cC cB cS (a) (g) (n) (q) (i) (b) (en) (hn) (hnb) (hq) (hqc) (hlt)) (cwV 3 hts gX3_firstReservable_X3_isReservable rfl rfl rfl (by decide +kernel) ⟨Nat.le_of_ble_eq_true rfl, Nat.le_of_ble_eq_true rfl⟩) hK hP [0, 1, 2, 3, 4, 5, 6, 7, 8, 9, 10, 11, 12, 13, 14, 15, 16, 17, 18, 19, 20, 21, 22, 23, 24, 25, 26] rfl rfl rfl rfl rfl hl.1 (Nat.le_of_ble_eq_true rfl) dX3_firstReservable_37 ⟨Nat.le_of_ble_eq_true rfl, Nat.le_of_ble_eq_true rfl⟩ (fun r_4 hr_4 => ?_)
          rcases (show Yes (Rsv q (g 14) (g 18) (g 15) (g 16) (g 8) (g 0 0) (g 1 1) (b) (en) i) r_4 from hr_4) with ⟨rfl, h_5⟩ | ⟨rfl, h_5⟩
          · -- X3_isReservable t
            refine if_eq_f (tgt := 58) hx hb (by decide) dX3_firstReservable_40 (by decide) ?_
            refine lv_aload_n hx hb dX3_firstReservable_43 rfl (lv_at hl 2 rfl) ?_
            refine lv_iload hx hb dX3_firstReservable_44 (lv_at hl 1 rfl) ?_
            refine lv_iload hx hb dX3_firstReservable_46 (lv_at hl 0 rfl) ?_
            refine cv_i (As := [.int (nI i), .int (z)]) (rest := []) (tys := TYS cI cC cB cS) (ci := 3) ⟨hx, hb, hml, hown, hts⟩ (c_X3_isBefore l D cI cC cB cS (a) (g) (n) (i) (z) (hn) (hnb) (hlt)) (cwV 2 hts gX3_firstReservable_X3_isBefore rfl rfl rfl (by decide +kernel) ⟨Nat.le_of_ble_eq_true rfl, Nat.le_of_ble_eq_true rfl⟩) hK hP [0, 1, 2, 3, 4, 5, 6, 7, 8, 9, 10, 11, 12, 13, 14, 15, 16, 17, 18, 19, 20, 21, 22, 23, 24, 25, 26] rfl rfl rfl rfl rfl hl.1 (Nat.le_of_ble_eq_true rfl) dX3_firstReservable_48 ⟨Nat.le_of_ble_eq_true rfl, Nat.le_of_ble_eq_true rfl⟩ (fun r_6 hr_6 => ?_)
            rcases (show Yes (Btr (g 4) (g 5) (g 6) (g 1 0) n i z) r_6 from hr_6) with ⟨rfl, h_7⟩ | ⟨rfl, h_7⟩
            · -- X3_isBefore t
              refine if_eq_f (tgt := 58) hx hb (by decide) dX3_firstReservable_51 (by decide) ?_
              refine lv_iload hx hb dX3_firstReservable_54 (lv_at hl 1 rfl) ?_
              refine lv_istore (lv' := [(4, .int (nI i)), (5, .int (nI i)), (0, .ref (a 0)), (1, .int (sz)), (2, .int (b)), (3, .int (en))]) hx hb dX3_firstReservable_56 hl (by decide) rfl (fun ls hl => ?_)
              refine lv_iinc (v := nI (i + 1)) (lv' := [(5, .int (nI (i + 1))), (4, .int (nI i)), (0, .ref (a 0)), (1, .int (sz)), (2, .int (b)), (3, .int (en))]) hx hb dX3_firstReservable_58 hl (k := 1) rfl (nI_1 _) (by decide) rfl (fun ls hl => ?_)
              refine lv_goto (tgt := 7) hx hb dX3_firstReservable_61 (by decide) ?_
              exact ih (i + 1) (nI i) (by omega) (by omega) (hw.s (Imp.yes ⟨⟨hsv.1, hsv.2, h_5⟩, h_7⟩)) ls (lv_sub hl [1, 0, 2, 3, 4, 5] rfl)
            · -- X3_isBefore f
              refine if_eq_t (tgt := 58) hx hb rfl dX3_firstReservable_51 (by decide) ?_
              refine lv_iinc (v := nI (i + 1)) (lv' := [(5, .int (nI (i + 1))), (4, .int (z)), (0, .ref (a 0)), (1, .int (sz)), (2, .int (b)), (3, .int (en))]) hx hb dX3_firstReservable_58 hl (k := 1) rfl (nI_1 _) (by decide) rfl (fun ls hl => ?_)
              refine lv_goto (tgt := 7) hx hb dX3_firstReservable_61 (by decide) ?_
              exact ih (i + 1) (z) (by omega) (by omega) (hw.s (Imp.no (fun q => h_7 q.2))) ls (lv_sub hl [1, 0, 2, 3, 4, 5] rfl)
          · -- X3_isReservable f
            refine if_eq_t (tgt := 58) hx hb rfl dX3_firstReservable_40 (by decide) ?_
            refine lv_iinc (v := nI (i + 1)) (lv' := [(5, .int (nI (i + 1))), (4, .int (z)), (0, .ref (a 0)), (1, .int (sz)), (2, .int (b)), (3, .int (en))]) hx hb dX3_firstReservable_58 hl (k := 1) rfl (nI_1 _) (by decide) rfl (fun ls hl => ?_)
            refine lv_goto (tgt := 7) hx hb dX3_firstReservable_61 (by decide) ?_
            exact ih (i + 1) (z) (by omega) (by omega) (hw.s (Imp.no (fun q => h_5 q.1.2.2))) ls (lv_sub hl [1, 0, 2, 3, 4, 5] rfl)
        · -- X0_serves f
          refine if_eq_t (tgt := 58) hx hb rfl dX3_firstReservable_29 (by decide) ?_
          refine lv_iinc (v := nI (i + 1)) (lv' := [(5, .int (nI (i + 1))), (4, .int (z)), (0, .ref (a 0)), (1, .int (sz)), (2, .int (b)), (3, .int (en))]) hx hb dX3_firstReservable_58 hl (k := 1) rfl (nI_1 _) (by decide) rfl (fun ls hl => ?_)
          refine lv_goto (tgt := 7) hx hb dX3_firstReservable_61 (by decide) ?_
          exact ih (i + 1) (z) (by omega) (by omega) (hw.s (Imp.no (fun q => h_3 ⟨i, hlt, rfl, q.1.1, q.1.2.1⟩))) ls (lv_sub hl [1, 0, 2, 3, 4, 5] rfl)
  exact hloop (n + 1) 0 (-9) (by omega) (by omega) (rfl) ls (lv_sub hl [1, 0, 2, 3, 4, 5] rfl)
set_option maxHeartbeats 4000000 in
set_option maxRecDepth 100000 in
theorem c_X3_freeBays (l : Launch) (D : va_G) (cI cC cB cS : ClassId) (a : Nat → Nat) (g : Nat → Nat → Int32) (n : Nat) (q : Nat) (lv : Int32) (sz : Int32) (hn : g 3 0 = nI n) (hnb : n ≤ 30) (hq : g 12 0 = nI q) (hqc : q ≤ 16) : Met l yX3_freeBays wsX3_freeBays ({ frames := 5, cells := 0, slots := 0, locals := 112 } : Room) (rdPc D (TYS cI cC cB cS) [.ref (a 0), .int (lv), .int (sz)] (wS cI a g)) (vp_Si (fun r => ∃ z, Cnt (fun w => (g 4 w = lv ∧ (sz < 0 ∨ g 6 w = sz)) ∧ g 7 w = 1 ∧ 0 ≤ g 6 w ∧ g 8 w = 0 ∧ ¬ (∃ i, i < q ∧ HeldB (g 14) (g 18) (g 15) (g 16) (g 0 0) (g 0 0 + 1) (g 1 1) (nI w) i)) n z ∧ r = nI z)) 0 0 (fun _ => False) := by
  refine rd_intro (by decide) rfl (Nat.le_of_ble_eq_true rfl) ?_
  intro p e s m below meth c hx hb hr hml hts hown hlocks hP hK ls hl
  have hP : va_P D vwCl [(a 0, oE 3 [.int (g 0 0), .int (g 0 1), .ref (a 1), .ref (a 2), .ref (a 3), .ref (a 12), .ref (a 19), .ref (a 23)]), (a 1, iE cI 5 (g 1)), (a 2, iE cI 4 (g 2)), (a 3, oE 0 [.int (g 3 0), .ref (a 4), .ref (a 5), .ref (a 6), .ref (a 7), .ref (a 8), .ref (a 9), .ref (a 10), .ref (a 11)]), (a 4, iE cI 30 (g 4)), (a 5, iE cI 30 (g 5)), (a 6, iE cI 30 (g 6)), (a 7, iE cI 30 (g 7)), (a 8, iE cI 30 (g 8)), (a 9, iE cI 30 (g 9)), (a 10, iE cI 30 (g 10)), (a 11, iE cI 30 (g 11)), (a 12, oE 2 [.int (g 12 0), .ref (a 13), .ref (a 14), .ref (a 15), .ref (a 16), .ref (a 17), .ref (a 18)]), (a 13, iE cI 16 (g 13)), (a 14, iE cI 16 (g 14)), (a 15, iE cI 16 (g 15)), (a 16, iE cI 16 (g 16)), (a 17, iE cI 16 (g 17)), (a 18, iE cI 16 (g 18)), (a 19, oE 4 [.int (g 19 0), .ref (a 20), .ref (a 21), .ref (a 22)]), (a 20, iE cI 5 (g 20)), (a 21, iE cI 5 (g 21)), (a 22, iE cI 5 (g 22)), (a 23, oE 4 [.int (g 23 0), .ref (a 24), .ref (a 25), .ref (a 26)]), (a 24, iE cI 5 (g 24)), (a 25, iE cI 5 (g 25)), (a 26, iE cI 5 (g 26))] s.heap := hP
  have hown : s.vm.findClass RX3 = some m.cls := hown
  have hl : lv_has ls 6 [(0, .ref (a 0)), (1, .int (lv)), (2, .int (sz))] := hl
  refine lv_iconst (v := 0) hx hb dX3_freeBays_0 (by decide) ?_
  refine lv_istore_n (lv' := [(3, .int (0)), (0, .ref (a 0)), (1, .int (lv)), (2, .int (sz))]) hx hb dX3_freeBays_1 rfl hl (by decide) rfl (fun ls hl => ?_)
  refine lv_iconst (v := 0) hx hb dX3_freeBays_2 (by decide) ?_
  refine lv_istore (lv' := [(4, .int (0)), (3, .int (0)), (0, .ref (a 0)), (1, .int (lv)), (2, .int (sz))]) hx hb dX3_freeBays_3 hl (by decide) rfl (fun ls hl => ?_)
  have hloop : ∀ (d i : Nat) (z : Nat), i ≤ n → n - i < d → (Cnt (fun w => (g 4 w = lv ∧ (sz < 0 ∨ g 6 w = sz)) ∧ g 7 w = 1 ∧ 0 ≤ g 6 w ∧ g 8 w = 0 ∧ ¬ (∃ i, i < q ∧ HeldB (g 14) (g 18) (g 15) (g 16) (g 0 0) (g 0 0 + 1) (g 1 1) (nI w) i)) i z) → ∀ ls : Array Slot, lv_has ls 6 [(3, .int (nI z)), (4, .int (nI i)), (0, .ref (a 0)), (1, .int (lv)), (2, .int (sz))] → W p l e ({ frames := 5, cells := 0, slots := 0, locals := 112 } : Room) s m (([.ref (a 0), .int (lv), .int (sz)] : List Value).toArray) below meth c s.heap [] 0 0 (MQ below (vp_Si (fun r => ∃ z, Cnt (fun w => (g 4 w = lv ∧ (sz < 0 ∨ g 6 w = sz)) ∧ g 7 w = 1 ∧ 0 ≤ g 6 w ∧ g 8 w = 0 ∧ ¬ (∃ i, i < q ∧ HeldB (g 14) (g 18) (g 15) (g 16) (g 0 0) (g 0 0 + 1) (g 1 1) (nI w) i)) n z ∧ r = nI z)) (([.ref (a 0), .int (lv), .int (sz)] : List Value).toArray) s 0 0 (fun _ => False)) (F0 m 5 ls []) := by
    intro d
    induction d with
    | zero => intro i _ _ h2; exact absurd h2 (Nat.not_lt_zero _)
    | succ d ih =>
      intro i z hi hd hc ls hl
      refine lv_iload hx hb dX3_freeBays_5 (lv_at hl 1 rfl) ?_
      refine lv_aload_n hx hb dX3_freeBays_7 rfl (lv_at hl 2 rfl) ?_
      refine va_get (D := D) (ci := 3) (v := .ref (a 3)) (C := RX3) (T := TX3) (N := 8) hx hb hts (by decide +kernel) hown hK.1 hP 0 rfl rfl 4 (by decide) (hts (.fieldLink RX3 28 "ParkingGarage$State" "bays" "LParkingGarage$Bays;") (by decide +kernel)) (fun _ h9 => h9) rfl dX3_freeBays_8 ?_
      refine va_get (D := D) (ci := 0) (v := .int (g 3 0)) (C := RX0) (T := TX0) (N := 9) hx hb hts (by decide +kernel) hown hK.1 hP 3 rfl rfl 0 (by decide) (hts (.fieldLink RX3 89 "ParkingGarage$Bays" "number" "I") (by decide +kernel)) (fun _ h9 => h9) rfl dX3_freeBays_11 ?_
      refine lv_icmp_ge (tgt := 104) hx hb dX3_freeBays_14 (by decide) (fun c_1 => ?_) (fun c_1 => ?_)
      · -- c_1: nI i ≥ g 3 0
        have hge : i = n := nI_geD hn hi (by omega) c_1
        subst hge
        refine lv_iload_n hx hb dX3_freeBays_104 rfl (lv_at hl 0 rfl) ?_
        exact rd_iret (v := nI z) hx hb hr hlocks dX3_freeBays_105 (⟨z, hc, rfl⟩)
      · -- c_1: not nI i ≥ g 3 0
        have hlt : i < n := nI_ltD hn hi (by omega) c_1
        refine lv_aload_n hx hb dX3_freeBays_17 rfl (lv_at hl 2 rfl) ?_
        refine va_get (D := D) (ci := 3) (v := .ref (a 3)) (C := RX3) (T := TX3) (N := 8) hx hb hts (by decide +kernel) hown hK.1 hP 0 rfl rfl 4 (by decide) (hts (.fieldLink RX3 28 "ParkingGarage$State" "bays" "LParkingGarage$Bays;") (by decide +kernel)) (fun _ h9 => h9) rfl dX3_freeBays_18 ?_
        refine va_get (D := D) (ci := 0) (v := .ref (a 4)) (C := RX0) (T := TX0) (N := 9) hx hb hts (by decide +kernel) hown hK.1 hP 3 rfl rfl 1 (by decide) (hts (.fieldLink RX3 71 "ParkingGarage$Bays" "levels" "[I") (by decide +kernel)) (fun _ h9 => h9) rfl dX3_freeBays_21 ?_
        refine lv_iload hx hb dX3_freeBays_24 (lv_at hl 1 rfl) ?_
        refine iald_n (f := g 4) hx hb hK.1 hP 4 0 rfl rfl (i) (rfl) (by omega) (by omega) dX3_freeBays_26 ?_
        refine lv_iload_n hx hb dX3_freeBays_27 rfl (lv_at hl 3 rfl) ?_
        refine lv_icmp_ne (tgt := 53) hx hb dX3_freeBays_28 (by decide) (fun c_2 => ?_) (fun c_2 => ?_)
        · -- c_2: (g 4) (i) ≠ lv
          refine lv_iconst (v := 0) hx hb dX3_freeBays_53 (by decide) ?_
          refine lv_istore (lv' := [(5, .int (0)), (3, .int (nI z)), (4, .int (nI i)), (0, .ref (a 0)), (1, .int (lv)), (2, .int (sz))]) hx hb dX3_freeBays_54 hl (by decide) rfl (fun ls hl => ?_)
          refine lv_iload hx hb dX3_freeBays_56 (lv_at hl 0 rfl) ?_
          refine if_eq_t (tgt := 98) hx hb rfl dX3_freeBays_58 (by decide) ?_
          refine lv_iinc (v := nI (i + 1)) (lv' := [(4, .int (nI (i + 1))), (5, .int (0)), (3, .int (nI z)), (0, .ref (a 0)), (1, .int (lv)), (2, .int (sz))]) hx hb dX3_freeBays_98 hl (k := 2) rfl (nI_1 _) (by decide) rfl (fun ls hl => ?_)
          refine lv_goto (tgt := 5) hx hb dX3_freeBays_101 (by decide) ?_
          exact ih (i + 1) (z) (by omega) (by omega) (hc.n (fun q => c_2 q.1.1)) ls (lv_sub hl [2, 0, 3, 4, 5] rfl)
        · -- c_2: not (g 4) (i) ≠ lv
          refine lv_iload_n hx hb dX3_freeBays_31 rfl (lv_at hl 4 rfl) ?_
          refine lv_if_lt (tgt := 49) hx hb dX3_freeBays_32 (by decide) (fun c_3 => ?_) (fun c_3 => ?_)
          · -- c_3: sz < 0
            refine lv_iconst (v := 1) hx hb dX3_freeBays_49 (by decide) ?_
            refine lv_goto (tgt := 54) hx hb dX3_freeBays_50 (by decide) ?_
            refine lv_istore (lv' := [(5, .int (1)), (3, .int (nI z)), (4, .int (nI i)), (0, .ref (a 0)), (1, .int (lv)), (2, .int (sz))]) hx hb dX3_freeBays_54 hl (by decide) rfl (fun ls hl => ?_)
            refine lv_iload hx hb dX3_freeBays_56 (lv_at hl 0 rfl) ?_
            refine if_eq_f (tgt := 98) hx hb (by decide) dX3_freeBays_58 (by decide) ?_
            refine lv_aload_n hx hb dX3_freeBays_61 rfl (lv_at hl 3 rfl) ?_
            refine va_get (D := D) (ci := 3) (v := .ref (a 3)) (C := RX3) (T := TX3) (N := 8) hx hb hts (by decide +kernel) hown hK.1 hP 0 rfl rfl 4 (by decide) (hts (.fieldLink RX3 28 "ParkingGarage$State" "bays" "LParkingGarage$Bays;") (by decide +kernel)) (fun _ h9 => h9) rfl dX3_freeBays_62 ?_
            refine lv_iload hx hb dX3_freeBays_65 (lv_at hl 2 rfl) ?_
            refine lv_iconst (v := 0) hx hb dX3_freeBays_67 (by decide) ?_
            refine cv_i (As := [.int (nI i), .int (0)]) (rest := []) (tys := TYS cI cC cB cS) (ci := 0) ⟨hx, hb, hml, hown, hts⟩ (c_X0_serves l D cI cC cB cS ((fun k => a (3 + k))) ((fun k => g (3 + k))) (n) (nI i) (0) (hn) (hnb)) (cwV 2 hts gX3_freeBays_X0_serves rfl rfl rfl (by decide +kernel) ⟨Nat.le_of_ble_eq_true rfl, Nat.le_of_ble_eq_true rfl⟩) hK hP [3, 4, 5, 6, 7, 8, 9, 10, 11] rfl rfl rfl rfl rfl hl.1 (Nat.le_of_ble_eq_true rfl) dX3_freeBays_68 ⟨Nat.le_of_ble_eq_true rfl, Nat.le_of_ble_eq_true rfl⟩ (fun r_4 hr_4 => ?_)
            rcases (show Yes (∃ w, w < n ∧ nI i = nI w ∧ g 7 w = 1 ∧ 0 ≤ g 6 w) r_4 from hr_4) with ⟨rfl, h_5⟩ | ⟨rfl, h_5⟩
            · -- X0_serves t
              have hsv : g 7 i = 1 ∧ 0 ≤ g 6 i := by
                  obtain ⟨k, h1, h2, h3, h4⟩ := h_5
                  have e := nI_inj (by omega) (by omega) h2
                  subst e
                  exact ⟨h3, h4⟩
              refine if_eq_f (tgt := 98) hx hb (by decide) dX3_freeBays_71 (by decide) ?_
              refine lv_aload_n hx hb dX3_freeBays_74 rfl (lv_at hl 3 rfl) ?_
              refine va_get (D := D) (ci := 3) (v := .ref (a 3)) (C := RX3) (T := TX3) (N := 8) hx hb hts (by decide +kernel) hown hK.1 hP 0 rfl rfl 4 (by decide) (hts (.fieldLink RX3 28 "ParkingGarage$State" "bays" "LParkingGarage$Bays;") (by decide +kernel)) (fun _ h9 => h9) rfl dX3_freeBays_75 ?_
              refine lv_iload hx hb dX3_freeBays_78 (lv_at hl 2 rfl) ?_
              refine cv_i (As := [.int (nI i)]) (rest := []) (tys := TYS cI cC cB cS) (ci := 0) ⟨hx, hb, hml, hown, hts⟩ (c_X0_isEmpty l D cI cC cB cS ((fun k => a (3 + k))) ((fun k => g (3 + k))) (n) (i) (hn) (hnb) (hlt)) (cwV 1 hts gX3_freeBays_X0_isEmpty rfl rfl rfl (by decide +kernel) ⟨Nat.le_of_ble_eq_true rfl, Nat.le_of_ble_eq_true rfl⟩) hK hP [3, 4, 5, 6, 7, 8, 9, 10, 11] rfl rfl rfl rfl rfl hl.1 (Nat.le_of_ble_eq_true rfl) dX3_freeBays_80 ⟨Nat.le_of_ble_eq_true rfl, Nat.le_of_ble_eq_true rfl⟩ (fun r_6 hr_6 => ?_)
              rcases (show Yes (g 8 i = 0) r_6 from hr_6) with ⟨rfl, h_7⟩ | ⟨rfl, h_7⟩
              · -- X0_isEmpty t
                refine if_eq_f (tgt := 98) hx hb (by decide) dX3_freeBays_83 (by decide) ?_
                refine lv_aload_n hx hb dX3_freeBays_86 rfl (lv_at hl 3 rfl) ?_
                refine lv_iload hx hb dX3_freeBays_87 (lv_at hl 2 rfl) ?_
                refine cv_i (As := [.int (nI i)]) (rest := []) (tys := TYS cI cC cB cS) (ci := 3) ⟨hx, hb, hml, hown, hts⟩ (c_X3_isHeld l D cI cC cB cS (a) (g) (q) (nI i) (hq) (hqc)) (cwV 1 hts gX3_freeBays_X3_isHeld rfl rfl rfl (by decide +kernel) ⟨Nat.le_of_ble_eq_true rfl, Nat.le_of_ble_eq_true rfl⟩) hK hP [0, 1, 2, 3, 4, 5, 6, 7, 8, 9, 10, 11, 12, 13, 14, 15, 16, 17, 18, 19, 20, 21, 22, 23, 24, 25, 26] rfl rfl rfl rfl rfl hl.1 (Nat.le_of_ble_eq_true rfl) dX3_freeBays_89 ⟨Nat.le_of_ble_eq_true rfl, Nat.le_of_ble_eq_true rfl⟩ (fun r_8 hr_8 => ?_)
                rcases (show Yes (∃ w, w < q ∧ HeldB (g 14) (g 18) (g 15) (g 16) (g 0 0) (g 0 0 + 1) (g 1 1) (nI i) w) r_8 from hr_8) with ⟨rfl, h_9⟩ | ⟨rfl, h_9⟩
                · -- X3_isHeld t
                  refine if_ne_t (tgt := 98) hx hb (by decide) dX3_freeBays_92 (by decide) ?_
                  refine lv_iinc (v := nI (i + 1)) (lv' := [(4, .int (nI (i + 1))), (5, .int (1)), (3, .int (nI z)), (0, .ref (a 0)), (1, .int (lv)), (2, .int (sz))]) hx hb dX3_freeBays_98 hl (k := 2) rfl (nI_1 _) (by decide) rfl (fun ls hl => ?_)
                  refine lv_goto (tgt := 5) hx hb dX3_freeBays_101 (by decide) ?_
                  exact ih (i + 1) (z) (by omega) (by omega) (hc.n (fun q => q.2.2.2.2 h_9)) ls (lv_sub hl [2, 0, 3, 4, 5] rfl)
                · -- X3_isHeld f
                  refine if_ne_f (tgt := 98) hx hb rfl dX3_freeBays_92 (by decide) ?_
                  refine lv_iinc (v := nI (z + 1)) (lv' := [(3, .int (nI (z + 1))), (5, .int (1)), (4, .int (nI i)), (0, .ref (a 0)), (1, .int (lv)), (2, .int (sz))]) hx hb dX3_freeBays_95 hl (k := 1) rfl (nI_1 _) (by decide) rfl (fun ls hl => ?_)
                  refine lv_iinc (v := nI (i + 1)) (lv' := [(4, .int (nI (i + 1))), (3, .int (nI (z + 1))), (5, .int (1)), (0, .ref (a 0)), (1, .int (lv)), (2, .int (sz))]) hx hb dX3_freeBays_98 hl (k := 2) rfl (nI_1 _) (by decide) rfl (fun ls hl => ?_)
                  refine lv_goto (tgt := 5) hx hb dX3_freeBays_101 (by decide) ?_
                  exact ih (i + 1) ((z + 1)) (by omega) (by omega) (hc.y ⟨⟨c_2, Or.inl c_3⟩, hsv.1, hsv.2, h_7, h_9⟩) ls (lv_sub hl [1, 0, 3, 4, 5] rfl)
              · -- X0_isEmpty f
                refine if_eq_t (tgt := 98) hx hb rfl dX3_freeBays_83 (by decide) ?_
                refine lv_iinc (v := nI (i + 1)) (lv' := [(4, .int (nI (i + 1))), (5, .int (1)), (3, .int (nI z)), (0, .ref (a 0)), (1, .int (lv)), (2, .int (sz))]) hx hb dX3_freeBays_98 hl (k := 2) rfl (nI_1 _) (by decide) rfl (fun ls hl => ?_)
                refine lv_goto (tgt := 5) hx hb dX3_freeBays_101 (by decide) ?_
                exact ih (i + 1) (z) (by omega) (by omega) (hc.n (fun q => h_7 q.2.2.2.1)) ls (lv_sub hl [2, 0, 3, 4, 5] rfl)
            · -- X0_serves f
              refine if_eq_t (tgt := 98) hx hb rfl dX3_freeBays_71 (by decide) ?_
              refine lv_iinc (v := nI (i + 1)) (lv' := [(4, .int (nI (i + 1))), (5, .int (1)), (3, .int (nI z)), (0, .ref (a 0)), (1, .int (lv)), (2, .int (sz))]) hx hb dX3_freeBays_98 hl (k := 2) rfl (nI_1 _) (by decide) rfl (fun ls hl => ?_)
              refine lv_goto (tgt := 5) hx hb dX3_freeBays_101 (by decide) ?_
              exact ih (i + 1) (z) (by omega) (by omega) (hc.n (fun q => h_5 ⟨i, hlt, rfl, q.2.1, q.2.2.1⟩)) ls (lv_sub hl [2, 0, 3, 4, 5] rfl)
          · -- c_3: not sz < 0
            refine lv_aload_n hx hb dX3_freeBays_35 rfl (lv_at hl 2 rfl) ?_
            refine va_get (D := D) (ci := 3) (v := .ref (a 3)) (C := RX3) (T := TX3) (N := 8) hx hb hts (by decide +kernel) hown hK.1 hP 0 rfl rfl 4 (by decide) (hts (.fieldLink RX3 28 "ParkingGarage$State" "bays" "LParkingGarage$Bays;") (by decide +kernel)) (fun _ h9 => h9) rfl dX3_freeBays_36 ?_
            refine va_get (D := D) (ci := 0) (v := .ref (a 6)) (C := RX0) (T := TX0) (N := 9) hx hb hts (by decide +kernel) hown hK.1 hP 3 rfl rfl 3 (by decide) (hts (.fieldLink RX3 81 "ParkingGarage$Bays" "sizes" "[I") (by decide +kernel)) (fun _ h9 => h9) rfl dX3_freeBays_39 ?_
            refine lv_iload hx hb dX3_freeBays_42 (lv_at hl 1 rfl) ?_
            refine iald_n (f := g 6) hx hb hK.1 hP 6 0 rfl rfl (i) (rfl) (by omega) (by omega) dX3_freeBays_44 ?_
            refine lv_iload_n hx hb dX3_freeBays_45 rfl (lv_at hl 4 rfl) ?_
            refine lv_icmp_ne (tgt := 53) hx hb dX3_freeBays_46 (by decide) (fun c_10 => ?_) (fun c_10 => ?_)
            · -- c_10: (g 6) (i) ≠ sz
              refine lv_iconst (v := 0) hx hb dX3_freeBays_53 (by decide) ?_
              refine lv_istore (lv' := [(5, .int (0)), (3, .int (nI z)), (4, .int (nI i)), (0, .ref (a 0)), (1, .int (lv)), (2, .int (sz))]) hx hb dX3_freeBays_54 hl (by decide) rfl (fun ls hl => ?_)
              refine lv_iload hx hb dX3_freeBays_56 (lv_at hl 0 rfl) ?_
              refine if_eq_t (tgt := 98) hx hb rfl dX3_freeBays_58 (by decide) ?_
              refine lv_iinc (v := nI (i + 1)) (lv' := [(4, .int (nI (i + 1))), (5, .int (0)), (3, .int (nI z)), (0, .ref (a 0)), (1, .int (lv)), (2, .int (sz))]) hx hb dX3_freeBays_98 hl (k := 2) rfl (nI_1 _) (by decide) rfl (fun ls hl => ?_)
              refine lv_goto (tgt := 5) hx hb dX3_freeBays_101 (by decide) ?_
              exact ih (i + 1) (z) (by omega) (by omega) (hc.n (fun q => q.1.2.elim c_3 c_10)) ls (lv_sub hl [2, 0, 3, 4, 5] rfl)
            · -- c_10: not (g 6) (i) ≠ sz
              refine lv_iconst (v := 1) hx hb dX3_freeBays_49 (by decide) ?_
              refine lv_goto (tgt := 54) hx hb dX3_freeBays_50 (by decide) ?_
              refine lv_istore (lv' := [(5, .int (1)), (3, .int (nI z)), (4, .int (nI i)), (0, .ref (a 0)), (1, .int (lv)), (2, .int (sz))]) hx hb dX3_freeBays_54 hl (by decide) rfl (fun ls hl => ?_)
              refine lv_iload hx hb dX3_freeBays_56 (lv_at hl 0 rfl) ?_
              refine if_eq_f (tgt := 98) hx hb (by decide) dX3_freeBays_58 (by decide) ?_
              refine lv_aload_n hx hb dX3_freeBays_61 rfl (lv_at hl 3 rfl) ?_
              refine va_get (D := D) (ci := 3) (v := .ref (a 3)) (C := RX3) (T := TX3) (N := 8) hx hb hts (by decide +kernel) hown hK.1 hP 0 rfl rfl 4 (by decide) (hts (.fieldLink RX3 28 "ParkingGarage$State" "bays" "LParkingGarage$Bays;") (by decide +kernel)) (fun _ h9 => h9) rfl dX3_freeBays_62 ?_
              refine lv_iload hx hb dX3_freeBays_65 (lv_at hl 2 rfl) ?_
              refine lv_iconst (v := 0) hx hb dX3_freeBays_67 (by decide) ?_
              refine cv_i (As := [.int (nI i), .int (0)]) (rest := []) (tys := TYS cI cC cB cS) (ci := 0) ⟨hx, hb, hml, hown, hts⟩ (c_X0_serves l D cI cC cB cS ((fun k => a (3 + k))) ((fun k => g (3 + k))) (n) (nI i) (0) (hn) (hnb)) (cwV 2 hts gX3_freeBays_X0_serves rfl rfl rfl (by decide +kernel) ⟨Nat.le_of_ble_eq_true rfl, Nat.le_of_ble_eq_true rfl⟩) hK hP [3, 4, 5, 6, 7, 8, 9, 10, 11] rfl rfl rfl rfl rfl hl.1 (Nat.le_of_ble_eq_true rfl) dX3_freeBays_68 ⟨Nat.le_of_ble_eq_true rfl, Nat.le_of_ble_eq_true rfl⟩ (fun r_11 hr_11 => ?_)
              rcases (show Yes (∃ w, w < n ∧ nI i = nI w ∧ g 7 w = 1 ∧ 0 ≤ g 6 w) r_11 from hr_11) with ⟨rfl, h_12⟩ | ⟨rfl, h_12⟩
              · -- X0_serves t
                have hsv : g 7 i = 1 ∧ 0 ≤ g 6 i := by
                    obtain ⟨k, h1, h2, h3, h4⟩ := h_12
                    have e := nI_inj (by omega) (by omega) h2
                    subst e
                    exact ⟨h3, h4⟩
                refine if_eq_f (tgt := 98) hx hb (by decide) dX3_freeBays_71 (by decide) ?_
                refine lv_aload_n hx hb dX3_freeBays_74 rfl (lv_at hl 3 rfl) ?_
                refine va_get (D := D) (ci := 3) (v := .ref (a 3)) (C := RX3) (T := TX3) (N := 8) hx hb hts (by decide +kernel) hown hK.1 hP 0 rfl rfl 4 (by decide) (hts (.fieldLink RX3 28 "ParkingGarage$State" "bays" "LParkingGarage$Bays;") (by decide +kernel)) (fun _ h9 => h9) rfl dX3_freeBays_75 ?_
                refine lv_iload hx hb dX3_freeBays_78 (lv_at hl 2 rfl) ?_
                refine cv_i (As := [.int (nI i)]) (rest := []) (tys := TYS cI cC cB cS) (ci := 0) ⟨hx, hb, hml, hown, hts⟩ (c_X0_isEmpty l D cI cC cB cS ((fun k => a (3 + k))) ((fun k => g (3 + k))) (n) (i) (hn) (hnb) (hlt)) (cwV 1 hts gX3_freeBays_X0_isEmpty rfl rfl rfl (by decide +kernel) ⟨Nat.le_of_ble_eq_true rfl, Nat.le_of_ble_eq_true rfl⟩) hK hP [3, 4, 5, 6, 7, 8, 9, 10, 11] rfl rfl rfl rfl rfl hl.1 (Nat.le_of_ble_eq_true rfl) dX3_freeBays_80 ⟨Nat.le_of_ble_eq_true rfl, Nat.le_of_ble_eq_true rfl⟩ (fun r_13 hr_13 => ?_)
                rcases (show Yes (g 8 i = 0) r_13 from hr_13) with ⟨rfl, h_14⟩ | ⟨rfl, h_14⟩
                · -- X0_isEmpty t
                  refine if_eq_f (tgt := 98) hx hb (by decide) dX3_freeBays_83 (by decide) ?_
                  refine lv_aload_n hx hb dX3_freeBays_86 rfl (lv_at hl 3 rfl) ?_
                  refine lv_iload hx hb dX3_freeBays_87 (lv_at hl 2 rfl) ?_
                  refine cv_i (As := [.int (nI i)]) (rest := []) (tys := TYS cI cC cB cS) (ci := 3) ⟨hx, hb, hml, hown, hts⟩ (c_X3_isHeld l D cI cC cB cS (a) (g) (q) (nI i) (hq) (hqc)) (cwV 1 hts gX3_freeBays_X3_isHeld rfl rfl rfl (by decide +kernel) ⟨Nat.le_of_ble_eq_true rfl, Nat.le_of_ble_eq_true rfl⟩) hK hP [0, 1, 2, 3, 4, 5, 6, 7, 8, 9, 10, 11, 12, 13, 14, 15, 16, 17, 18, 19, 20, 21, 22, 23, 24, 25, 26] rfl rfl rfl rfl rfl hl.1 (Nat.le_of_ble_eq_true rfl) dX3_freeBays_89 ⟨Nat.le_of_ble_eq_true rfl, Nat.le_of_ble_eq_true rfl⟩ (fun r_15 hr_15 => ?_)
                  rcases (show Yes (∃ w, w < q ∧ HeldB (g 14) (g 18) (g 15) (g 16) (g 0 0) (g 0 0 + 1) (g 1 1) (nI i) w) r_15 from hr_15) with ⟨rfl, h_16⟩ | ⟨rfl, h_16⟩
                  · -- X3_isHeld t
                    refine if_ne_t (tgt := 98) hx hb (by decide) dX3_freeBays_92 (by decide) ?_
                    refine lv_iinc (v := nI (i + 1)) (lv' := [(4, .int (nI (i + 1))), (5, .int (1)), (3, .int (nI z)), (0, .ref (a 0)), (1, .int (lv)), (2, .int (sz))]) hx hb dX3_freeBays_98 hl (k := 2) rfl (nI_1 _) (by decide) rfl (fun ls hl => ?_)
                    refine lv_goto (tgt := 5) hx hb dX3_freeBays_101 (by decide) ?_
                    exact ih (i + 1) (z) (by omega) (by omega) (hc.n (fun q => q.2.2.2.2 h_16)) ls (lv_sub hl [2, 0, 3, 4, 5] rfl)
                  · -- X3_isHeld f
                    refine if_ne_f (tgt := 98) hx hb rfl dX3_freeBays_92 (by decide) ?_
                    refine lv_iinc (v := nI (z + 1)) (lv' := [(3, .int (nI (z + 1))), (5, .int (1)), (4, .int (nI i)), (0, .ref (a 0)), (1, .int (lv)), (2, .int (sz))]) hx hb dX3_freeBays_95 hl (k := 1) rfl (nI_1 _) (by decide) rfl (fun ls hl => ?_)
                    refine lv_iinc (v := nI (i + 1)) (lv' := [(4, .int (nI (i + 1))), (3, .int (nI (z + 1))), (5, .int (1)), (0, .ref (a 0)), (1, .int (lv)), (2, .int (sz))]) hx hb dX3_freeBays_98 hl (k := 2) rfl (nI_1 _) (by decide) rfl (fun ls hl => ?_)
                    refine lv_goto (tgt := 5) hx hb dX3_freeBays_101 (by decide) ?_
                    exact ih (i + 1) ((z + 1)) (by omega) (by omega) (hc.y ⟨⟨c_2, Or.inr c_10⟩, hsv.1, hsv.2, h_14, h_16⟩) ls (lv_sub hl [1, 0, 3, 4, 5] rfl)
                · -- X0_isEmpty f
                  refine if_eq_t (tgt := 98) hx hb rfl dX3_freeBays_83 (by decide) ?_
                  refine lv_iinc (v := nI (i + 1)) (lv' := [(4, .int (nI (i + 1))), (5, .int (1)), (3, .int (nI z)), (0, .ref (a 0)), (1, .int (lv)), (2, .int (sz))]) hx hb dX3_freeBays_98 hl (k := 2) rfl (nI_1 _) (by decide) rfl (fun ls hl => ?_)
                  refine lv_goto (tgt := 5) hx hb dX3_freeBays_101 (by decide) ?_
                  exact ih (i + 1) (z) (by omega) (by omega) (hc.n (fun q => h_14 q.2.2.2.1)) ls (lv_sub hl [2, 0, 3, 4, 5] rfl)
              · -- X0_serves f
                refine if_eq_t (tgt := 98) hx hb rfl dX3_freeBays_71 (by decide) ?_
                refine lv_iinc (v := nI (i + 1)) (lv' := [(4, .int (nI (i + 1))), (5, .int (1)), (3, .int (nI z)), (0, .ref (a 0)), (1, .int (lv)), (2, .int (sz))]) hx hb dX3_freeBays_98 hl (k := 2) rfl (nI_1 _) (by decide) rfl (fun ls hl => ?_)
                refine lv_goto (tgt := 5) hx hb dX3_freeBays_101 (by decide) ?_
                exact ih (i + 1) (z) (by omega) (by omega) (hc.n (fun q => h_12 ⟨i, hlt, rfl, q.2.1, q.2.2.1⟩)) ls (lv_sub hl [2, 0, 3, 4, 5] rfl)
  exact hloop (n + 1) 0 (0) (by omega) (by omega) (rfl) ls (lv_sub hl [1, 0, 2, 3, 4] rfl)
set_option maxHeartbeats 4000000 in
set_option maxRecDepth 100000 in
theorem c_X3_usableReservation (l : Launch) (D : va_G) (cI cC cB cS : ClassId) (a : Nat → Nat) (g : Nat → Nat → Int32) (n : Nat) (q : Nat) (x : Int32) (sz : Int32) (hn : g 3 0 = nI n) (hnb : n ≤ 30) (hq : g 12 0 = nI q) (hqc : q ≤ 16) : Met l yX3_usableReservation wsX3_usableReservation ({ frames := 4, cells := 0, slots := 0, locals := 90 } : Room) (rdPc D (TYS cI cC cB cS) [.ref (a 0), .int (x), .int (sz)] (wS cI a g)) (vp_Si (fun r => ∃ z, Fst (fun w => g 13 w = x ∧ g 18 w = 0 ∧ Hld (g 18) (g 15) (g 16) (g 0 0) (g 0 0 + 1) (g 1 1) w) q z ∧ ((z = -9 ∧ r = -9) ∨ ∃ w, w < q ∧ z = nI w ∧ ((∃ i, i < n ∧ g 14 w = nI i ∧ g 7 i = 1 ∧ sz ≤ g 6 i ∧ g 8 i = 0) ∧ r = z ∨ ¬ (∃ i, i < n ∧ g 14 w = nI i ∧ g 7 i = 1 ∧ sz ≤ g 6 i ∧ g 8 i = 0) ∧ r = -9)))) 0 0 (fun _ => False) := by
  refine rd_intro (by decide) rfl (Nat.le_of_ble_eq_true rfl) ?_
  intro p e s m below meth c hx hb hr hml hts hown hlocks hP hK ls hl
  have hP : va_P D vwCl [(a 0, oE 3 [.int (g 0 0), .int (g 0 1), .ref (a 1), .ref (a 2), .ref (a 3), .ref (a 12), .ref (a 19), .ref (a 23)]), (a 1, iE cI 5 (g 1)), (a 2, iE cI 4 (g 2)), (a 3, oE 0 [.int (g 3 0), .ref (a 4), .ref (a 5), .ref (a 6), .ref (a 7), .ref (a 8), .ref (a 9), .ref (a 10), .ref (a 11)]), (a 4, iE cI 30 (g 4)), (a 5, iE cI 30 (g 5)), (a 6, iE cI 30 (g 6)), (a 7, iE cI 30 (g 7)), (a 8, iE cI 30 (g 8)), (a 9, iE cI 30 (g 9)), (a 10, iE cI 30 (g 10)), (a 11, iE cI 30 (g 11)), (a 12, oE 2 [.int (g 12 0), .ref (a 13), .ref (a 14), .ref (a 15), .ref (a 16), .ref (a 17), .ref (a 18)]), (a 13, iE cI 16 (g 13)), (a 14, iE cI 16 (g 14)), (a 15, iE cI 16 (g 15)), (a 16, iE cI 16 (g 16)), (a 17, iE cI 16 (g 17)), (a 18, iE cI 16 (g 18)), (a 19, oE 4 [.int (g 19 0), .ref (a 20), .ref (a 21), .ref (a 22)]), (a 20, iE cI 5 (g 20)), (a 21, iE cI 5 (g 21)), (a 22, iE cI 5 (g 22)), (a 23, oE 4 [.int (g 23 0), .ref (a 24), .ref (a 25), .ref (a 26)]), (a 24, iE cI 5 (g 24)), (a 25, iE cI 5 (g 25)), (a 26, iE cI 5 (g 26))] s.heap := hP
  have hown : s.vm.findClass RX3 = some m.cls := hown
  have hl : lv_has ls 5 [(0, .ref (a 0)), (1, .int (x)), (2, .int (sz))] := hl
  refine lv_aload_n hx hb dX3_usableReservation_0 rfl (lv_at hl 0 rfl) ?_
  refine va_get (D := D) (ci := 3) (v := .ref (a 12)) (C := RX3) (T := TX3) (N := 8) hx hb hts (by decide +kernel) hown hK.1 hP 0 rfl rfl 5 (by decide) (hts (.fieldLink RX3 35 "ParkingGarage$State" "reservations" "LParkingGarage$Reservations;") (by decide +kernel)) (fun _ h9 => h9) rfl dX3_usableReservation_1 ?_
  refine lv_iload_n hx hb dX3_usableReservation_4 rfl (lv_at hl 1 rfl) ?_
  refine lv_aload_n hx hb dX3_usableReservation_5 rfl (lv_at hl 0 rfl) ?_
  refine va_get (D := D) (ci := 3) (v := .int (g 0 0)) (C := RX3) (T := TX3) (N := 8) hx hb hts (by decide +kernel) hown hK.1 hP 0 rfl rfl 0 (by decide) (hts (.fieldLink RX3 9 "ParkingGarage$State" "time" "I") (by decide +kernel)) (fun _ h9 => h9) rfl dX3_usableReservation_6 ?_
  refine lv_aload_n hx hb dX3_usableReservation_9 rfl (lv_at hl 0 rfl) ?_
  refine va_get (D := D) (ci := 3) (v := .ref (a 1)) (C := RX3) (T := TX3) (N := 8) hx hb hts (by decide +kernel) hown hK.1 hP 0 rfl rfl 2 (by decide) (hts (.fieldLink RX3 18 "ParkingGarage$State" "numbers" "[I") (by decide +kernel)) (fun _ h9 => h9) rfl dX3_usableReservation_10 ?_
  refine lv_iconst (v := 1) hx hb dX3_usableReservation_13 (by decide) ?_
  refine iald_n (f := g 1) hx hb hK.1 hP 1 0 rfl rfl (1) (rfl) (by decide) (by omega) dX3_usableReservation_14 ?_
  refine cv_i (As := [.int (x), .int (g 0 0), .int ((g 1) (1))]) (rest := []) (tys := TYS cI cC cB cS) (ci := 2) ⟨hx, hb, hml, hown, hts⟩ (c_X2_firstOpenOf l D cI cC cB cS ((fun k => a (12 + k))) ((fun k => g (12 + k))) (q) (x) (g 0 0) ((g 1) (1)) (hq) (hqc)) (cwV 3 hts gX3_usableReservation_X2_firstOpenOf rfl rfl rfl (by decide +kernel) ⟨Nat.le_of_ble_eq_true rfl, Nat.le_of_ble_eq_true rfl⟩) hK hP [12, 13, 14, 15, 16, 17, 18] rfl rfl rfl rfl rfl hl.1 (Nat.le_of_ble_eq_true rfl) dX3_usableReservation_15 ⟨Nat.le_of_ble_eq_true rfl, Nat.le_of_ble_eq_true rfl⟩ (fun r_1 hr_1 => ?_)
  have hr_1 : Fst (fun w => g 13 w = x ∧ g 18 w = 0 ∧ Hld (g 18) (g 15) (g 16) (g 0 0) (g 0 0 + 1) ((g 1) (1)) w) q r_1 := hr_1
  refine lv_istore_n (lv' := [(3, .int (r_1)), (0, .ref (a 0)), (1, .int (x)), (2, .int (sz))]) hx hb dX3_usableReservation_18 rfl hl (by decide) rfl (fun ls hl => ?_)
  refine lv_aload_n hx hb dX3_usableReservation_19 rfl (lv_at hl 1 rfl) ?_
  refine va_get (D := D) (ci := 3) (v := .ref (a 12)) (C := RX3) (T := TX3) (N := 8) hx hb hts (by decide +kernel) hown hK.1 hP 0 rfl rfl 5 (by decide) (hts (.fieldLink RX3 35 "ParkingGarage$State" "reservations" "LParkingGarage$Reservations;") (by decide +kernel)) (fun _ h9 => h9) rfl dX3_usableReservation_20 ?_
  refine lv_iload_n hx hb dX3_usableReservation_23 rfl (lv_at hl 0 rfl) ?_
  refine cv_i (As := [.int (r_1)]) (rest := []) (tys := TYS cI cC cB cS) (ci := 2) ⟨hx, hb, hml, hown, hts⟩ (c_X2_has l D cI cC cB cS ((fun k => a (12 + k))) ((fun k => g (12 + k))) (q) (r_1) (hq) (hqc)) (cwV 1 hts gX3_usableReservation_X2_has rfl rfl rfl (by decide +kernel) ⟨Nat.le_of_ble_eq_true rfl, Nat.le_of_ble_eq_true rfl⟩) hK hP [12, 13, 14, 15, 16, 17, 18] rfl rfl rfl rfl rfl hl.1 (Nat.le_of_ble_eq_true rfl) dX3_usableReservation_24 ⟨Nat.le_of_ble_eq_true rfl, Nat.le_of_ble_eq_true rfl⟩ (fun r_2 hr_2 => ?_)
  rcases (show Yes (∃ w, w < q ∧ r_1 = nI w) r_2 from hr_2) with ⟨rfl, h_3⟩ | ⟨rfl, h_3⟩
  · -- X2_has t
    obtain ⟨j, hj, hrj, hPj, hNj⟩ := Fst.got (by omega) hr_1 h_3
    refine if_ne_t (tgt := 33) hx hb (by decide) dX3_usableReservation_27 (by decide) ?_
    refine lv_aload_n hx hb dX3_usableReservation_33 rfl (lv_at hl 1 rfl) ?_
    refine va_get (D := D) (ci := 3) (v := .ref (a 12)) (C := RX3) (T := TX3) (N := 8) hx hb hts (by decide +kernel) hown hK.1 hP 0 rfl rfl 5 (by decide) (hts (.fieldLink RX3 35 "ParkingGarage$State" "reservations" "LParkingGarage$Reservations;") (by decide +kernel)) (fun _ h9 => h9) rfl dX3_usableReservation_34 ?_
    refine va_get (D := D) (ci := 2) (v := .ref (a 14)) (C := RX2) (T := TX2) (N := 7) hx hb hts (by decide +kernel) hown hK.1 hP 12 rfl rfl 2 (by decide) (hts (.fieldLink RX3 120 "ParkingGarage$Reservations" "bays" "[I") (by decide +kernel)) (fun _ h9 => h9) rfl dX3_usableReservation_37 ?_
    refine lv_iload_n hx hb dX3_usableReservation_40 rfl (lv_at hl 0 rfl) ?_
    refine iald_n (f := g 14) hx hb hK.1 hP 14 0 rfl rfl (j) (hrj) (by omega) (by omega) dX3_usableReservation_41 ?_
    refine lv_istore (lv' := [(4, .int ((g 14) (j))), (3, .int (r_1)), (0, .ref (a 0)), (1, .int (x)), (2, .int (sz))]) hx hb dX3_usableReservation_42 hl (by decide) rfl (fun ls hl => ?_)
    refine lv_aload_n hx hb dX3_usableReservation_44 rfl (lv_at hl 2 rfl) ?_
    refine va_get (D := D) (ci := 3) (v := .ref (a 3)) (C := RX3) (T := TX3) (N := 8) hx hb hts (by decide +kernel) hown hK.1 hP 0 rfl rfl 4 (by decide) (hts (.fieldLink RX3 28 "ParkingGarage$State" "bays" "LParkingGarage$Bays;") (by decide +kernel)) (fun _ h9 => h9) rfl dX3_usableReservation_45 ?_
    refine lv_iload hx hb dX3_usableReservation_48 (lv_at hl 0 rfl) ?_
    refine lv_iload_n hx hb dX3_usableReservation_50 rfl (lv_at hl 4 rfl) ?_
    refine cv_i (As := [.int ((g 14) (j)), .int (sz)]) (rest := []) (tys := TYS cI cC cB cS) (ci := 0) ⟨hx, hb, hml, hown, hts⟩ (c_X0_serves l D cI cC cB cS ((fun k => a (3 + k))) ((fun k => g (3 + k))) (n) ((g 14) (j)) (sz) (hn) (hnb)) (cwV 2 hts gX3_usableReservation_X0_serves rfl rfl rfl (by decide +kernel) ⟨Nat.le_of_ble_eq_true rfl, Nat.le_of_ble_eq_true rfl⟩) hK hP [3, 4, 5, 6, 7, 8, 9, 10, 11] rfl rfl rfl rfl rfl hl.1 (Nat.le_of_ble_eq_true rfl) dX3_usableReservation_51 ⟨Nat.le_of_ble_eq_true rfl, Nat.le_of_ble_eq_true rfl⟩ (fun r_4 hr_4 => ?_)
    rcases (show Yes (∃ w, w < n ∧ (g 14) (j) = nI w ∧ g 7 w = 1 ∧ sz ≤ g 6 w) r_4 from hr_4) with ⟨rfl, h_5⟩ | ⟨rfl, h_5⟩
    · -- X0_serves t
      obtain ⟨w, hw, hwe, hsv⟩ := h_5
      have hl : lv_has ls 5 [(4, .int (nI w)), (3, .int (r_1)), (0, .ref (a 0)), (1, .int (x)), (2, .int (sz))] := by rw [← hwe]; exact hl
      refine if_eq_f (tgt := 73) hx hb (by decide) dX3_usableReservation_54 (by decide) ?_
      refine lv_aload_n hx hb dX3_usableReservation_57 rfl (lv_at hl 2 rfl) ?_
      refine va_get (D := D) (ci := 3) (v := .ref (a 3)) (C := RX3) (T := TX3) (N := 8) hx hb hts (by decide +kernel) hown hK.1 hP 0 rfl rfl 4 (by decide) (hts (.fieldLink RX3 28 "ParkingGarage$State" "bays" "LParkingGarage$Bays;") (by decide +kernel)) (fun _ h9 => h9) rfl dX3_usableReservation_58 ?_
      refine lv_iload hx hb dX3_usableReservation_61 (lv_at hl 0 rfl) ?_
      refine cv_i (As := [.int (nI w)]) (rest := []) (tys := TYS cI cC cB cS) (ci := 0) ⟨hx, hb, hml, hown, hts⟩ (c_X0_isEmpty l D cI cC cB cS ((fun k => a (3 + k))) ((fun k => g (3 + k))) (n) (w) (hn) (hnb) (hw)) (cwV 1 hts gX3_usableReservation_X0_isEmpty rfl rfl rfl (by decide +kernel) ⟨Nat.le_of_ble_eq_true rfl, Nat.le_of_ble_eq_true rfl⟩) hK hP [3, 4, 5, 6, 7, 8, 9, 10, 11] rfl rfl rfl rfl rfl hl.1 (Nat.le_of_ble_eq_true rfl) dX3_usableReservation_63 ⟨Nat.le_of_ble_eq_true rfl, Nat.le_of_ble_eq_true rfl⟩ (fun r_6 hr_6 => ?_)
      rcases (show Yes (g 8 w = 0) r_6 from hr_6) with ⟨rfl, h_7⟩ | ⟨rfl, h_7⟩
      · -- X0_isEmpty t
        refine if_eq_f (tgt := 73) hx hb (by decide) dX3_usableReservation_66 (by decide) ?_
        refine lv_iload_n hx hb dX3_usableReservation_69 rfl (lv_at hl 1 rfl) ?_
        refine lv_goto (tgt := 75) hx hb dX3_usableReservation_70 (by decide) ?_
        exact rd_iret (v := r_1) hx hb hr hlocks dX3_usableReservation_75 (⟨_, hr_1, Or.inr ⟨j, hj, hrj, Or.inl ⟨⟨w, hw, hwe, hsv.1, hsv.2, h_7⟩, rfl⟩⟩⟩)
      · -- X0_isEmpty f
        refine if_eq_t (tgt := 73) hx hb rfl dX3_usableReservation_66 (by decide) ?_
        refine lv_bipush (v := -9) hx hb dX3_usableReservation_73 (by decide) ?_
        exact rd_iret (v := -9) hx hb hr hlocks dX3_usableReservation_75 (⟨_, hr_1, Or.inr ⟨j, hj, hrj, Or.inr ⟨fun ⟨i, h1, h2, _, _, h5⟩ => by have e := nI_inj (by omega) (by omega) (hwe.symm.trans h2); subst e; exact h_7 h5, rfl⟩⟩⟩)
    · -- X0_serves f
      refine if_eq_t (tgt := 73) hx hb rfl dX3_usableReservation_54 (by decide) ?_
      refine lv_bipush (v := -9) hx hb dX3_usableReservation_73 (by decide) ?_
      exact rd_iret (v := -9) hx hb hr hlocks dX3_usableReservation_75 (⟨_, hr_1, Or.inr ⟨j, hj, hrj, Or.inr ⟨fun ⟨i, h1, h2, h3, h4, _⟩ => h_5 ⟨i, h1, h2, h3, h4⟩, rfl⟩⟩⟩)
  · -- X2_has f
    refine if_ne_f (tgt := 33) hx hb rfl dX3_usableReservation_27 (by decide) ?_
    refine lv_bipush (v := -9) hx hb dX3_usableReservation_30 (by decide) ?_
    exact rd_iret (v := -9) hx hb hr hlocks dX3_usableReservation_32 (⟨_, hr_1, Or.inl ⟨(hr_1.not h_3).1, rfl⟩⟩)
set_option maxHeartbeats 4000000 in
set_option maxRecDepth 100000 in
theorem c_X3_normalFee (l : Launch) (D : va_G) (cI cC cB cS : ClassId) (a : Nat → Nat) (g : Nat → Nat → Int32) (tn : Nat) (mi : Int32) (ht : g 19 0 = nI tn) (htb : tn ≤ 5) (hts1 : Srt (g 20) tn) : Met l yX3_normalFee wsX3_normalFee ({ frames := 2, cells := 0, slots := 0, locals := 46 } : Room) (rdPc D (TYS cI cC cB cS) [.ref (a 0), .int (mi)] (wS cI a g)) (vp_Si (fun r => r = nF (g 1) (g 20) (g 21) (g 22) tn (mi))) 0 0 (fun _ => False) := by
  refine rd_intro (by decide) rfl (Nat.le_of_ble_eq_true rfl) ?_
  intro p e s m below meth c hx hb hr hml hts hown hlocks hP hK ls hl
  have hP : va_P D vwCl [(a 0, oE 3 [.int (g 0 0), .int (g 0 1), .ref (a 1), .ref (a 2), .ref (a 3), .ref (a 12), .ref (a 19), .ref (a 23)]), (a 1, iE cI 5 (g 1)), (a 2, iE cI 4 (g 2)), (a 3, oE 0 [.int (g 3 0), .ref (a 4), .ref (a 5), .ref (a 6), .ref (a 7), .ref (a 8), .ref (a 9), .ref (a 10), .ref (a 11)]), (a 4, iE cI 30 (g 4)), (a 5, iE cI 30 (g 5)), (a 6, iE cI 30 (g 6)), (a 7, iE cI 30 (g 7)), (a 8, iE cI 30 (g 8)), (a 9, iE cI 30 (g 9)), (a 10, iE cI 30 (g 10)), (a 11, iE cI 30 (g 11)), (a 12, oE 2 [.int (g 12 0), .ref (a 13), .ref (a 14), .ref (a 15), .ref (a 16), .ref (a 17), .ref (a 18)]), (a 13, iE cI 16 (g 13)), (a 14, iE cI 16 (g 14)), (a 15, iE cI 16 (g 15)), (a 16, iE cI 16 (g 16)), (a 17, iE cI 16 (g 17)), (a 18, iE cI 16 (g 18)), (a 19, oE 4 [.int (g 19 0), .ref (a 20), .ref (a 21), .ref (a 22)]), (a 20, iE cI 5 (g 20)), (a 21, iE cI 5 (g 21)), (a 22, iE cI 5 (g 22)), (a 23, oE 4 [.int (g 23 0), .ref (a 24), .ref (a 25), .ref (a 26)]), (a 24, iE cI 5 (g 24)), (a 25, iE cI 5 (g 25)), (a 26, iE cI 5 (g 26))] s.heap := hP
  have hown : s.vm.findClass RX3 = some m.cls := hown
  have hl : lv_has ls 3 [(0, .ref (a 0)), (1, .int (mi))] := hl
  refine lv_iload_n hx hb dX3_normalFee_0 rfl (lv_at hl 1 rfl) ?_
  refine lv_aload_n hx hb dX3_normalFee_1 rfl (lv_at hl 0 rfl) ?_
  refine va_get (D := D) (ci := 3) (v := .ref (a 1)) (C := RX3) (T := TX3) (N := 8) hx hb hts (by decide +kernel) hown hK.1 hP 0 rfl rfl 2 (by decide) (hts (.fieldLink RX3 18 "ParkingGarage$State" "numbers" "[I") (by decide +kernel)) (fun _ h9 => h9) rfl dX3_normalFee_2 ?_
  refine lv_iconst (v := 2) hx hb dX3_normalFee_5 (by decide) ?_
  refine iald_n (f := g 1) hx hb hK.1 hP 1 0 rfl rfl (2) (rfl) (by decide) (by omega) dX3_normalFee_6 ?_
  refine lv_icmp_gt (tgt := 12) hx hb dX3_normalFee_7 (by decide) (fun c_1 => ?_) (fun c_1 => ?_)
  · -- c_1: mi > (g 1) (2)
    refine lv_iload_n hx hb dX3_normalFee_12 rfl (lv_at hl 1 rfl) ?_
    refine lv_sipush (v := 1440) hx hb dX3_normalFee_13 (by decide) ?_
    refine lv_iadd hx hb dX3_normalFee_16 ?_
    refine lv_iconst (v := 1) hx hb dX3_normalFee_17 (by decide) ?_
    refine lv_isub hx hb dX3_normalFee_18 ?_
    refine lv_sipush (v := 1440) hx hb dX3_normalFee_19 (by decide) ?_
    refine lv_idiv hx hb dX3_normalFee_22 (by decide) ?_
    refine lv_istore_n (lv' := [(2, .int ((((mi) + (1440)) - (1)) / (1440))), (0, .ref (a 0)), (1, .int (mi))]) hx hb dX3_normalFee_23 rfl hl (by decide) rfl (fun ls hl => ?_)
    refine lv_aload_n hx hb dX3_normalFee_24 rfl (lv_at hl 1 rfl) ?_
    refine va_get (D := D) (ci := 3) (v := .ref (a 19)) (C := RX3) (T := TX3) (N := 8) hx hb hts (by decide +kernel) hown hK.1 hP 0 rfl rfl 6 (by decide) (hts (.fieldLink RX3 42 "ParkingGarage$State" "normal" "LParkingGarage$Tariff;") (by decide +kernel)) (fun _ h9 => h9) rfl dX3_normalFee_25 ?_
    refine lv_iload_n hx hb dX3_normalFee_28 rfl (lv_at hl 2 rfl) ?_
    refine cv_i (As := [.int (mi)]) (rest := []) (tys := TYS cI cC cB cS) (ci := 4) ⟨hx, hb, hml, hown, hts⟩ (c_X4_sum l D cI cC cB cS ((fun k => a (19 + k))) ((fun k => g (19 + k))) (tn) (mi) (ht) (htb) (hts1)) (cwV 1 hts gX3_normalFee_X4_sum rfl rfl rfl (by decide +kernel) ⟨Nat.le_of_ble_eq_true rfl, Nat.le_of_ble_eq_true rfl⟩) hK hP [19, 20, 21, 22] rfl rfl rfl rfl rfl hl.1 (Nat.le_of_ble_eq_true rfl) dX3_normalFee_29 ⟨Nat.le_of_ble_eq_true rfl, Nat.le_of_ble_eq_true rfl⟩ (fun r_2 hr_2 => ?_)
    have hr_2 : r_2 = tS (g 20) (g 21) (g 22) tn (mi) tn := hr_2
    refine lv_aload_n hx hb dX3_normalFee_32 rfl (lv_at hl 1 rfl) ?_
    refine va_get (D := D) (ci := 3) (v := .ref (a 1)) (C := RX3) (T := TX3) (N := 8) hx hb hts (by decide +kernel) hown hK.1 hP 0 rfl rfl 2 (by decide) (hts (.fieldLink RX3 18 "ParkingGarage$State" "numbers" "[I") (by decide +kernel)) (fun _ h9 => h9) rfl dX3_normalFee_33 ?_
    refine lv_iconst (v := 3) hx hb dX3_normalFee_36 (by decide) ?_
    refine iald_n (f := g 1) hx hb hK.1 hP 1 0 rfl rfl (3) (rfl) (by decide) (by omega) dX3_normalFee_37 ?_
    refine lv_iload_n hx hb dX3_normalFee_38 rfl (lv_at hl 0 rfl) ?_
    refine lv_imul hx hb dX3_normalFee_39 ?_
    refine va_mmin hx hb (hml.trans hl.1.symm) hown (hts (.methodLink RX3 142 Lib.Math.min.name) (by decide +kernel)) (hts (.static Lib.Math.min.name) (by decide +kernel)) (hts (.initialized "java/lang/Math") (by decide +kernel)) (hts (.code Lib.Math.min.name Lib.Math.min.code 2 (some .int)) (by decide +kernel)) (Nat.le_of_ble_eq_true rfl) (Nat.le_of_ble_eq_true rfl) (Nat.le_of_ble_eq_true rfl) (Nat.le_of_ble_eq_true rfl) dX3_normalFee_40 ?_
    exact rd_iret (v := (if ((g 1) (3)) * ((((mi) + (1440)) - (1)) / (1440)) < r_2 then ((g 1) (3)) * ((((mi) + (1440)) - (1)) / (1440)) else r_2)) hx hb hr hlocks dX3_normalFee_43 (by rw [nF, if_neg (Int32.not_le.mpr c_1), hr_2])
  · -- c_1: not mi > (g 1) (2)
    refine lv_iconst (v := 0) hx hb dX3_normalFee_10 (by decide) ?_
    exact rd_iret (v := 0) hx hb hr hlocks dX3_normalFee_11 ((if_pos (Int32.not_lt.mp c_1)).symm)
set_option maxHeartbeats 4000000 in
set_option maxRecDepth 100000 in
theorem c_X3_feeAt (l : Launch) (D : va_G) (cI cC cB cS : ClassId) (a : Nat → Nat) (g : Nat → Nat → Int32) (n : Nat) (q : Nat) (tn : Nat) (tu : Nat) (k : Nat) (t : Int32) (hn : g 3 0 = nI n) (hnb : n ≤ 30) (hq : g 12 0 = nI q) (hqc : q ≤ 16) (ht : g 19 0 = nI tn) (htb : tn ≤ 5) (hts1 : Srt (g 20) tn) (hu : g 23 0 = nI tu) (hub : tu ≤ 5) (hus1 : Srt (g 24) tu) (hk : k < n) : Met l yX3_feeAt wsX3_feeAt ({ frames := 3, cells := 0, slots := 0, locals := 68 } : Room) (rdPc D (TYS cI cC cB cS) [.ref (a 0), .int (nI k), .int (t)] (wS cI a g)) (vp_Si (fun r => FeA q (g 11) (g 10) (g 16) (fun z => nF (g 1) (g 20) (g 21) (g 22) tn (z)) (fun z => tS (g 24) (g 25) (g 26) tu (z) tu) k (t) r)) 0 0 (fun _ => False) := by
  refine rd_intro (by decide) rfl (Nat.le_of_ble_eq_true rfl) ?_
  intro p e s m below meth c hx hb hr hml hts hown hlocks hP hK ls hl
  have hP : va_P D vwCl [(a 0, oE 3 [.int (g 0 0), .int (g 0 1), .ref (a 1), .ref (a 2), .ref (a 3), .ref (a 12), .ref (a 19), .ref (a 23)]), (a 1, iE cI 5 (g 1)), (a 2, iE cI 4 (g 2)), (a 3, oE 0 [.int (g 3 0), .ref (a 4), .ref (a 5), .ref (a 6), .ref (a 7), .ref (a 8), .ref (a 9), .ref (a 10), .ref (a 11)]), (a 4, iE cI 30 (g 4)), (a 5, iE cI 30 (g 5)), (a 6, iE cI 30 (g 6)), (a 7, iE cI 30 (g 7)), (a 8, iE cI 30 (g 8)), (a 9, iE cI 30 (g 9)), (a 10, iE cI 30 (g 10)), (a 11, iE cI 30 (g 11)), (a 12, oE 2 [.int (g 12 0), .ref (a 13), .ref (a 14), .ref (a 15), .ref (a 16), .ref (a 17), .ref (a 18)]), (a 13, iE cI 16 (g 13)), (a 14, iE cI 16 (g 14)), (a 15, iE cI 16 (g 15)), (a 16, iE cI 16 (g 16)), (a 17, iE cI 16 (g 17)), (a 18, iE cI 16 (g 18)), (a 19, oE 4 [.int (g 19 0), .ref (a 20), .ref (a 21), .ref (a 22)]), (a 20, iE cI 5 (g 20)), (a 21, iE cI 5 (g 21)), (a 22, iE cI 5 (g 22)), (a 23, oE 4 [.int (g 23 0), .ref (a 24), .ref (a 25), .ref (a 26)]), (a 24, iE cI 5 (g 24)), (a 25, iE cI 5 (g 25)), (a 26, iE cI 5 (g 26))] s.heap := hP
  have hown : s.vm.findClass RX3 = some m.cls := hown
  have hl : lv_has ls 4 [(0, .ref (a 0)), (1, .int (nI k)), (2, .int (t))] := hl
  refine lv_aload_n hx hb dX3_feeAt_0 rfl (lv_at hl 0 rfl) ?_
  refine va_get (D := D) (ci := 3) (v := .ref (a 3)) (C := RX3) (T := TX3) (N := 8) hx hb hts (by decide +kernel) hown hK.1 hP 0 rfl rfl 4 (by decide) (hts (.fieldLink RX3 28 "ParkingGarage$State" "bays" "LParkingGarage$Bays;") (by decide +kernel)) (fun _ h9 => h9) rfl dX3_feeAt_1 ?_
  refine lv_iload_n hx hb dX3_feeAt_4 rfl (lv_at hl 1 rfl) ?_
  refine cv_i (As := [.int (nI k)]) (rest := []) (tys := TYS cI cC cB cS) (ci := 0) ⟨hx, hb, hml, hown, hts⟩ (c_X0_has l D cI cC cB cS ((fun k => a (3 + k))) ((fun k => g (3 + k))) (n) (nI k) (hn) (hnb)) (cwV 1 hts gX3_feeAt_X0_has rfl rfl rfl (by decide +kernel) ⟨Nat.le_of_ble_eq_true rfl, Nat.le_of_ble_eq_true rfl⟩) hK hP [3, 4, 5, 6, 7, 8, 9, 10, 11] rfl rfl rfl rfl rfl hl.1 (Nat.le_of_ble_eq_true rfl) dX3_feeAt_5 ⟨Nat.le_of_ble_eq_true rfl, Nat.le_of_ble_eq_true rfl⟩ (fun r_1 hr_1 => ?_)
  rcases (show Yes (∃ w, w < n ∧ nI k = nI w) r_1 from hr_1) with ⟨rfl, h_2⟩ | ⟨rfl, h_2⟩
  · -- X0_has t
    refine if_ne_t (tgt := 13) hx hb (by decide) dX3_feeAt_8 (by decide) ?_
    refine lv_aload_n hx hb dX3_feeAt_13 rfl (lv_at hl 0 rfl) ?_
    refine va_get (D := D) (ci := 3) (v := .ref (a 3)) (C := RX3) (T := TX3) (N := 8) hx hb hts (by decide +kernel) hown hK.1 hP 0 rfl rfl 4 (by decide) (hts (.fieldLink RX3 28 "ParkingGarage$State" "bays" "LParkingGarage$Bays;") (by decide +kernel)) (fun _ h9 => h9) rfl dX3_feeAt_14 ?_
    refine va_get (D := D) (ci := 0) (v := .ref (a 11)) (C := RX0) (T := TX0) (N := 9) hx hb hts (by decide +kernel) hown hK.1 hP 3 rfl rfl 8 (by decide) (hts (.fieldLink RX3 130 "ParkingGarage$Bays" "reservations" "[I") (by decide +kernel)) (fun _ h9 => h9) rfl dX3_feeAt_17 ?_
    refine lv_iload_n hx hb dX3_feeAt_20 rfl (lv_at hl 1 rfl) ?_
    refine iald_n (f := g 11) hx hb hK.1 hP 11 0 rfl rfl (k) (rfl) (by omega) (by omega) dX3_feeAt_21 ?_
    refine lv_istore_n (lv' := [(3, .int ((g 11) (k))), (0, .ref (a 0)), (1, .int (nI k)), (2, .int (t))]) hx hb dX3_feeAt_22 rfl hl (by decide) rfl (fun ls hl => ?_)
    refine lv_aload_n hx hb dX3_feeAt_23 rfl (lv_at hl 1 rfl) ?_
    refine va_get (D := D) (ci := 3) (v := .ref (a 12)) (C := RX3) (T := TX3) (N := 8) hx hb hts (by decide +kernel) hown hK.1 hP 0 rfl rfl 5 (by decide) (hts (.fieldLink RX3 35 "ParkingGarage$State" "reservations" "LParkingGarage$Reservations;") (by decide +kernel)) (fun _ h9 => h9) rfl dX3_feeAt_24 ?_
    refine lv_iload_n hx hb dX3_feeAt_27 rfl (lv_at hl 0 rfl) ?_
    refine cv_i (As := [.int ((g 11) (k))]) (rest := []) (tys := TYS cI cC cB cS) (ci := 2) ⟨hx, hb, hml, hown, hts⟩ (c_X2_has l D cI cC cB cS ((fun k => a (12 + k))) ((fun k => g (12 + k))) (q) ((g 11) (k)) (hq) (hqc)) (cwV 1 hts gX3_feeAt_X2_has rfl rfl rfl (by decide +kernel) ⟨Nat.le_of_ble_eq_true rfl, Nat.le_of_ble_eq_true rfl⟩) hK hP [12, 13, 14, 15, 16, 17, 18] rfl rfl rfl rfl rfl hl.1 (Nat.le_of_ble_eq_true rfl) dX3_feeAt_28 ⟨Nat.le_of_ble_eq_true rfl, Nat.le_of_ble_eq_true rfl⟩ (fun r_3 hr_3 => ?_)
    rcases (show Yes (∃ w, w < q ∧ (g 11) (k) = nI w) r_3 from hr_3) with ⟨rfl, h_4⟩ | ⟨rfl, h_4⟩
    · -- X2_has t
      obtain ⟨w, hw, hwe⟩ := h_4
      refine if_ne_t (tgt := 50) hx hb (by decide) dX3_feeAt_31 (by decide) ?_
      refine lv_aload_n hx hb dX3_feeAt_50 rfl (lv_at hl 1 rfl) ?_
      refine va_get (D := D) (ci := 3) (v := .ref (a 23)) (C := RX3) (T := TX3) (N := 8) hx hb hts (by decide +kernel) hown hK.1 hP 0 rfl rfl 7 (by decide) (hts (.fieldLink RX3 46 "ParkingGarage$State" "over" "LParkingGarage$Tariff;") (by decide +kernel)) (fun _ h9 => h9) rfl dX3_feeAt_51 ?_
      refine lv_iload_n hx hb dX3_feeAt_54 rfl (lv_at hl 3 rfl) ?_
      refine lv_aload_n hx hb dX3_feeAt_55 rfl (lv_at hl 1 rfl) ?_
      refine va_get (D := D) (ci := 3) (v := .ref (a 12)) (C := RX3) (T := TX3) (N := 8) hx hb hts (by decide +kernel) hown hK.1 hP 0 rfl rfl 5 (by decide) (hts (.fieldLink RX3 35 "ParkingGarage$State" "reservations" "LParkingGarage$Reservations;") (by decide +kernel)) (fun _ h9 => h9) rfl dX3_feeAt_56 ?_
      refine va_get (D := D) (ci := 2) (v := .ref (a 16)) (C := RX2) (T := TX2) (N := 7) hx hb hts (by decide +kernel) hown hK.1 hP 12 rfl rfl 4 (by decide) (hts (.fieldLink RX3 113 "ParkingGarage$Reservations" "ends" "[I") (by decide +kernel)) (fun _ h9 => h9) rfl dX3_feeAt_59 ?_
      refine lv_iload_n hx hb dX3_feeAt_62 rfl (lv_at hl 0 rfl) ?_
      refine iald_n (f := g 16) hx hb hK.1 hP 16 0 rfl rfl (w) (hwe) (by omega) (by omega) dX3_feeAt_63 ?_
      refine lv_isub hx hb dX3_feeAt_64 ?_
      refine cv_i (As := [.int ((t) - ((g 16) (w)))]) (rest := []) (tys := TYS cI cC cB cS) (ci := 4) ⟨hx, hb, hml, hown, hts⟩ (c_X4_sum l D cI cC cB cS ((fun k => a (23 + k))) ((fun k => g (23 + k))) (tu) ((t) - ((g 16) (w))) (hu) (hub) (hus1)) (cwV 1 hts gX3_feeAt_X4_sum rfl rfl rfl (by decide +kernel) ⟨Nat.le_of_ble_eq_true rfl, Nat.le_of_ble_eq_true rfl⟩) hK hP [23, 24, 25, 26] rfl rfl rfl rfl rfl hl.1 (Nat.le_of_ble_eq_true rfl) dX3_feeAt_65 ⟨Nat.le_of_ble_eq_true rfl, Nat.le_of_ble_eq_true rfl⟩ (fun r_5 hr_5 => ?_)
      have hr_5 : r_5 = tS (g 24) (g 25) (g 26) tu ((t) - ((g 16) (w))) tu := hr_5
      exact rd_iret (v := r_5) hx hb hr hlocks dX3_feeAt_68 (Or.inr ⟨w, hw, hwe, hr_5⟩)
    · -- X2_has f
      refine if_ne_f (tgt := 50) hx hb rfl dX3_feeAt_31 (by decide) ?_
      refine lv_aload_n hx hb dX3_feeAt_34 rfl (lv_at hl 1 rfl) ?_
      refine lv_iload_n hx hb dX3_feeAt_35 rfl (lv_at hl 3 rfl) ?_
      refine lv_aload_n hx hb dX3_feeAt_36 rfl (lv_at hl 1 rfl) ?_
      refine va_get (D := D) (ci := 3) (v := .ref (a 3)) (C := RX3) (T := TX3) (N := 8) hx hb hts (by decide +kernel) hown hK.1 hP 0 rfl rfl 4 (by decide) (hts (.fieldLink RX3 28 "ParkingGarage$State" "bays" "LParkingGarage$Bays;") (by decide +kernel)) (fun _ h9 => h9) rfl dX3_feeAt_37 ?_
      refine va_get (D := D) (ci := 0) (v := .ref (a 10)) (C := RX0) (T := TX0) (N := 9) hx hb hts (by decide +kernel) hown hK.1 hP 3 rfl rfl 7 (by decide) (hts (.fieldLink RX3 127 "ParkingGarage$Bays" "entries" "[I") (by decide +kernel)) (fun _ h9 => h9) rfl dX3_feeAt_40 ?_
      refine lv_iload_n hx hb dX3_feeAt_43 rfl (lv_at hl 2 rfl) ?_
      refine iald_n (f := g 10) hx hb hK.1 hP 10 0 rfl rfl (k) (rfl) (by omega) (by omega) dX3_feeAt_44 ?_
      refine lv_isub hx hb dX3_feeAt_45 ?_
      refine cv_i (As := [.int ((t) - ((g 10) (k)))]) (rest := []) (tys := TYS cI cC cB cS) (ci := 3) ⟨hx, hb, hml, hown, hts⟩ (c_X3_normalFee l D cI cC cB cS (a) (g) (tn) ((t) - ((g 10) (k))) (ht) (htb) (hts1)) (cwV 1 hts gX3_feeAt_X3_normalFee rfl rfl rfl (by decide +kernel) ⟨Nat.le_of_ble_eq_true rfl, Nat.le_of_ble_eq_true rfl⟩) hK hP [0, 1, 2, 3, 4, 5, 6, 7, 8, 9, 10, 11, 12, 13, 14, 15, 16, 17, 18, 19, 20, 21, 22, 23, 24, 25, 26] rfl rfl rfl rfl rfl hl.1 (Nat.le_of_ble_eq_true rfl) dX3_feeAt_46 ⟨Nat.le_of_ble_eq_true rfl, Nat.le_of_ble_eq_true rfl⟩ (fun r_6 hr_6 => ?_)
      have hr_6 : r_6 = nF (g 1) (g 20) (g 21) (g 22) tn ((t) - ((g 10) (k))) := hr_6
      exact rd_iret (v := r_6) hx hb hr hlocks dX3_feeAt_49 (Or.inl ⟨h_4, hr_6⟩)
  · -- X0_has f
    exact absurd ⟨k, hk, rfl⟩ h_2
set_option maxHeartbeats 4000000 in
set_option maxRecDepth 100000 in
theorem c_X3_lostFee (l : Launch) (D : va_G) (cI cC cB cS : ClassId) (a : Nat → Nat) (g : Nat → Nat → Int32) (n : Nat) (tn : Nat) (k : Nat) (hn : g 3 0 = nI n) (hnb : n ≤ 30) (ht : g 19 0 = nI tn) (htb : tn ≤ 5) (hts1 : Srt (g 20) tn) (hk : k < n) : Met l yX3_lostFee wsX3_lostFee ({ frames := 3, cells := 0, slots := 0, locals := 68 } : Room) (rdPc D (TYS cI cC cB cS) [.ref (a 0), .int (nI k)] (wS cI a g)) (vp_Si (fun r => r = g 1 4 + nF (g 1) (g 20) (g 21) (g 22) tn (g 0 0 - (if g 10 k < g 0 0 - (g 0 0 - g 0 0 / 1440 * 1440) then g 10 k else g 0 0 - (g 0 0 - g 0 0 / 1440 * 1440))))) 0 0 (fun _ => False) := by
  refine rd_intro (by decide) rfl (Nat.le_of_ble_eq_true rfl) ?_
  intro p e s m below meth c hx hb hr hml hts hown hlocks hP hK ls hl
  have hP : va_P D vwCl [(a 0, oE 3 [.int (g 0 0), .int (g 0 1), .ref (a 1), .ref (a 2), .ref (a 3), .ref (a 12), .ref (a 19), .ref (a 23)]), (a 1, iE cI 5 (g 1)), (a 2, iE cI 4 (g 2)), (a 3, oE 0 [.int (g 3 0), .ref (a 4), .ref (a 5), .ref (a 6), .ref (a 7), .ref (a 8), .ref (a 9), .ref (a 10), .ref (a 11)]), (a 4, iE cI 30 (g 4)), (a 5, iE cI 30 (g 5)), (a 6, iE cI 30 (g 6)), (a 7, iE cI 30 (g 7)), (a 8, iE cI 30 (g 8)), (a 9, iE cI 30 (g 9)), (a 10, iE cI 30 (g 10)), (a 11, iE cI 30 (g 11)), (a 12, oE 2 [.int (g 12 0), .ref (a 13), .ref (a 14), .ref (a 15), .ref (a 16), .ref (a 17), .ref (a 18)]), (a 13, iE cI 16 (g 13)), (a 14, iE cI 16 (g 14)), (a 15, iE cI 16 (g 15)), (a 16, iE cI 16 (g 16)), (a 17, iE cI 16 (g 17)), (a 18, iE cI 16 (g 18)), (a 19, oE 4 [.int (g 19 0), .ref (a 20), .ref (a 21), .ref (a 22)]), (a 20, iE cI 5 (g 20)), (a 21, iE cI 5 (g 21)), (a 22, iE cI 5 (g 22)), (a 23, oE 4 [.int (g 23 0), .ref (a 24), .ref (a 25), .ref (a 26)]), (a 24, iE cI 5 (g 24)), (a 25, iE cI 5 (g 25)), (a 26, iE cI 5 (g 26))] s.heap := hP
  have hown : s.vm.findClass RX3 = some m.cls := hown
  have hl : lv_has ls 4 [(0, .ref (a 0)), (1, .int (nI k))] := hl
  refine lv_aload_n hx hb dX3_lostFee_0 rfl (lv_at hl 0 rfl) ?_
  refine va_get (D := D) (ci := 3) (v := .ref (a 3)) (C := RX3) (T := TX3) (N := 8) hx hb hts (by decide +kernel) hown hK.1 hP 0 rfl rfl 4 (by decide) (hts (.fieldLink RX3 28 "ParkingGarage$State" "bays" "LParkingGarage$Bays;") (by decide +kernel)) (fun _ h9 => h9) rfl dX3_lostFee_1 ?_
  refine lv_iload_n hx hb dX3_lostFee_4 rfl (lv_at hl 1 rfl) ?_
  refine cv_i (As := [.int (nI k)]) (rest := []) (tys := TYS cI cC cB cS) (ci := 0) ⟨hx, hb, hml, hown, hts⟩ (c_X0_has l D cI cC cB cS ((fun k => a (3 + k))) ((fun k => g (3 + k))) (n) (nI k) (hn) (hnb)) (cwV 1 hts gX3_lostFee_X0_has rfl rfl rfl (by decide +kernel) ⟨Nat.le_of_ble_eq_true rfl, Nat.le_of_ble_eq_true rfl⟩) hK hP [3, 4, 5, 6, 7, 8, 9, 10, 11] rfl rfl rfl rfl rfl hl.1 (Nat.le_of_ble_eq_true rfl) dX3_lostFee_5 ⟨Nat.le_of_ble_eq_true rfl, Nat.le_of_ble_eq_true rfl⟩ (fun r_1 hr_1 => ?_)
  rcases (show Yes (∃ w, w < n ∧ nI k = nI w) r_1 from hr_1) with ⟨rfl, h_2⟩ | ⟨rfl, h_2⟩
  · -- X0_has t
    refine if_ne_t (tgt := 13) hx hb (by decide) dX3_lostFee_8 (by decide) ?_
    refine lv_aload_n hx hb dX3_lostFee_13 rfl (lv_at hl 0 rfl) ?_
    refine va_get (D := D) (ci := 3) (v := .int (g 0 0)) (C := RX3) (T := TX3) (N := 8) hx hb hts (by decide +kernel) hown hK.1 hP 0 rfl rfl 0 (by decide) (hts (.fieldLink RX3 9 "ParkingGarage$State" "time" "I") (by decide +kernel)) (fun _ h9 => h9) rfl dX3_lostFee_14 ?_
    refine lv_aload_n hx hb dX3_lostFee_17 rfl (lv_at hl 0 rfl) ?_
    refine va_get (D := D) (ci := 3) (v := .int (g 0 0)) (C := RX3) (T := TX3) (N := 8) hx hb hts (by decide +kernel) hown hK.1 hP 0 rfl rfl 0 (by decide) (hts (.fieldLink RX3 9 "ParkingGarage$State" "time" "I") (by decide +kernel)) (fun _ h9 => h9) rfl dX3_lostFee_18 ?_
    refine lv_sipush (v := 1440) hx hb dX3_lostFee_21 (by decide) ?_
    refine lv_irem hx hb dX3_lostFee_24 (by decide) ?_
    refine lv_isub hx hb dX3_lostFee_25 ?_
    refine lv_istore_n (lv' := [(2, .int ((g 0 0) - ((g 0 0) - (g 0 0) / (1440) * (1440)))), (0, .ref (a 0)), (1, .int (nI k))]) hx hb dX3_lostFee_26 rfl hl (by decide) rfl (fun ls hl => ?_)
    refine lv_iload_n hx hb dX3_lostFee_27 rfl (lv_at hl 0 rfl) ?_
    refine lv_aload_n hx hb dX3_lostFee_28 rfl (lv_at hl 1 rfl) ?_
    refine va_get (D := D) (ci := 3) (v := .ref (a 3)) (C := RX3) (T := TX3) (N := 8) hx hb hts (by decide +kernel) hown hK.1 hP 0 rfl rfl 4 (by decide) (hts (.fieldLink RX3 28 "ParkingGarage$State" "bays" "LParkingGarage$Bays;") (by decide +kernel)) (fun _ h9 => h9) rfl dX3_lostFee_29 ?_
    refine va_get (D := D) (ci := 0) (v := .ref (a 10)) (C := RX0) (T := TX0) (N := 9) hx hb hts (by decide +kernel) hown hK.1 hP 3 rfl rfl 7 (by decide) (hts (.fieldLink RX3 127 "ParkingGarage$Bays" "entries" "[I") (by decide +kernel)) (fun _ h9 => h9) rfl dX3_lostFee_32 ?_
    refine lv_iload_n hx hb dX3_lostFee_35 rfl (lv_at hl 2 rfl) ?_
    refine iald_n (f := g 10) hx hb hK.1 hP 10 0 rfl rfl (k) (rfl) (by omega) (by omega) dX3_lostFee_36 ?_
    refine va_mmin hx hb (hml.trans hl.1.symm) hown (hts (.methodLink RX3 142 Lib.Math.min.name) (by decide +kernel)) (hts (.static Lib.Math.min.name) (by decide +kernel)) (hts (.initialized "java/lang/Math") (by decide +kernel)) (hts (.code Lib.Math.min.name Lib.Math.min.code 2 (some .int)) (by decide +kernel)) (Nat.le_of_ble_eq_true rfl) (Nat.le_of_ble_eq_true rfl) (Nat.le_of_ble_eq_true rfl) (Nat.le_of_ble_eq_true rfl) dX3_lostFee_37 ?_
    refine lv_istore_n (lv' := [(3, .int ((if (g 10) (k) < (g 0 0) - ((g 0 0) - (g 0 0) / (1440) * (1440)) then (g 10) (k) else (g 0 0) - ((g 0 0) - (g 0 0) / (1440) * (1440))))), (2, .int ((g 0 0) - ((g 0 0) - (g 0 0) / (1440) * (1440)))), (0, .ref (a 0)), (1, .int (nI k))]) hx hb dX3_lostFee_40 rfl hl (by decide) rfl (fun ls hl => ?_)
    refine lv_aload_n hx hb dX3_lostFee_41 rfl (lv_at hl 2 rfl) ?_
    refine va_get (D := D) (ci := 3) (v := .ref (a 1)) (C := RX3) (T := TX3) (N := 8) hx hb hts (by decide +kernel) hown hK.1 hP 0 rfl rfl 2 (by decide) (hts (.fieldLink RX3 18 "ParkingGarage$State" "numbers" "[I") (by decide +kernel)) (fun _ h9 => h9) rfl dX3_lostFee_42 ?_
    refine lv_iconst (v := 4) hx hb dX3_lostFee_45 (by decide) ?_
    refine iald_n (f := g 1) hx hb hK.1 hP 1 0 rfl rfl (4) (rfl) (by decide) (by omega) dX3_lostFee_46 ?_
    refine lv_aload_n hx hb dX3_lostFee_47 rfl (lv_at hl 2 rfl) ?_
    refine lv_aload_n hx hb dX3_lostFee_48 rfl (lv_at hl 2 rfl) ?_
    refine va_get (D := D) (ci := 3) (v := .int (g 0 0)) (C := RX3) (T := TX3) (N := 8) hx hb hts (by decide +kernel) hown hK.1 hP 0 rfl rfl 0 (by decide) (hts (.fieldLink RX3 9 "ParkingGarage$State" "time" "I") (by decide +kernel)) (fun _ h9 => h9) rfl dX3_lostFee_49 ?_
    refine lv_iload_n hx hb dX3_lostFee_52 rfl (lv_at hl 0 rfl) ?_
    refine lv_isub hx hb dX3_lostFee_53 ?_
    refine cv_i (As := [.int ((g 0 0) - ((if (g 10) (k) < (g 0 0) - ((g 0 0) - (g 0 0) / (1440) * (1440)) then (g 10) (k) else (g 0 0) - ((g 0 0) - (g 0 0) / (1440) * (1440)))))]) (rest := [.int ((g 1) (4))]) (tys := TYS cI cC cB cS) (ci := 3) ⟨hx, hb, hml, hown, hts⟩ (c_X3_normalFee l D cI cC cB cS (a) (g) (tn) ((g 0 0) - ((if (g 10) (k) < (g 0 0) - ((g 0 0) - (g 0 0) / (1440) * (1440)) then (g 10) (k) else (g 0 0) - ((g 0 0) - (g 0 0) / (1440) * (1440))))) (ht) (htb) (hts1)) (cwV 1 hts gX3_lostFee_X3_normalFee rfl rfl rfl (by decide +kernel) ⟨Nat.le_of_ble_eq_true rfl, Nat.le_of_ble_eq_true rfl⟩) hK hP [0, 1, 2, 3, 4, 5, 6, 7, 8, 9, 10, 11, 12, 13, 14, 15, 16, 17, 18, 19, 20, 21, 22, 23, 24, 25, 26] rfl rfl rfl rfl rfl hl.1 (Nat.le_of_ble_eq_true rfl) dX3_lostFee_54 ⟨Nat.le_of_ble_eq_true rfl, Nat.le_of_ble_eq_true rfl⟩ (fun r_3 hr_3 => ?_)
    have hr_3 : r_3 = nF (g 1) (g 20) (g 21) (g 22) tn ((g 0 0) - ((if (g 10) (k) < (g 0 0) - ((g 0 0) - (g 0 0) / (1440) * (1440)) then (g 10) (k) else (g 0 0) - ((g 0 0) - (g 0 0) / (1440) * (1440))))) := hr_3
    refine lv_iadd hx hb dX3_lostFee_57 ?_
    exact rd_iret (v := ((g 1) (4)) + (r_3)) hx hb hr hlocks dX3_lostFee_58 (by rw [hr_3])
  · -- X0_has f
    exact absurd ⟨k, hk, rfl⟩ h_2
set_option maxHeartbeats 4000000 in
set_option maxRecDepth 100000 in
theorem c_X3_sumOfAccounts (l : Launch) (D : va_G) (cI cC cB cS : ClassId) (a : Nat → Nat) (g : Nat → Nat → Int32) : Met l yX3_sumOfAccounts wsX3_sumOfAccounts ({ frames := 0, cells := 0, slots := 0, locals := 0 } : Room) (rdPc D (TYS cI cC cB cS) [.ref (a 0)] (wS cI a g)) (vp_Si (fun r => r = 0 + g 2 0 + g 2 1 + g 2 2 + g 2 3)) 0 0 (fun _ => False) := by
  refine rd_intro (by decide) rfl (Nat.le_of_ble_eq_true rfl) ?_
  intro p e s m below meth c hx hb hr hml hts hown hlocks hP hK ls hl
  have hP : va_P D vwCl [(a 0, oE 3 [.int (g 0 0), .int (g 0 1), .ref (a 1), .ref (a 2), .ref (a 3), .ref (a 12), .ref (a 19), .ref (a 23)]), (a 1, iE cI 5 (g 1)), (a 2, iE cI 4 (g 2)), (a 3, oE 0 [.int (g 3 0), .ref (a 4), .ref (a 5), .ref (a 6), .ref (a 7), .ref (a 8), .ref (a 9), .ref (a 10), .ref (a 11)]), (a 4, iE cI 30 (g 4)), (a 5, iE cI 30 (g 5)), (a 6, iE cI 30 (g 6)), (a 7, iE cI 30 (g 7)), (a 8, iE cI 30 (g 8)), (a 9, iE cI 30 (g 9)), (a 10, iE cI 30 (g 10)), (a 11, iE cI 30 (g 11)), (a 12, oE 2 [.int (g 12 0), .ref (a 13), .ref (a 14), .ref (a 15), .ref (a 16), .ref (a 17), .ref (a 18)]), (a 13, iE cI 16 (g 13)), (a 14, iE cI 16 (g 14)), (a 15, iE cI 16 (g 15)), (a 16, iE cI 16 (g 16)), (a 17, iE cI 16 (g 17)), (a 18, iE cI 16 (g 18)), (a 19, oE 4 [.int (g 19 0), .ref (a 20), .ref (a 21), .ref (a 22)]), (a 20, iE cI 5 (g 20)), (a 21, iE cI 5 (g 21)), (a 22, iE cI 5 (g 22)), (a 23, oE 4 [.int (g 23 0), .ref (a 24), .ref (a 25), .ref (a 26)]), (a 24, iE cI 5 (g 24)), (a 25, iE cI 5 (g 25)), (a 26, iE cI 5 (g 26))] s.heap := hP
  have hown : s.vm.findClass RX3 = some m.cls := hown
  have hl : lv_has ls 6 [(0, .ref (a 0))] := hl
  refine lv_iconst (v := 0) hx hb dX3_sumOfAccounts_0 (by decide) ?_
  refine lv_istore_n (lv' := [(1, .int (0)), (0, .ref (a 0))]) hx hb dX3_sumOfAccounts_1 rfl hl (by decide) rfl (fun ls hl => ?_)
  refine lv_aload_n hx hb dX3_sumOfAccounts_2 rfl (lv_at hl 1 rfl) ?_
  refine va_get (D := D) (ci := 3) (v := .ref (a 2)) (C := RX3) (T := TX3) (N := 8) hx hb hts (by decide +kernel) hown hK.1 hP 0 rfl rfl 3 (by decide) (hts (.fieldLink RX3 22 "ParkingGarage$State" "accounts" "[I") (by decide +kernel)) (fun _ h9 => h9) rfl dX3_sumOfAccounts_3 ?_
  refine lv_astore_n (lv' := [(2, .ref (a 2)), (1, .int (0)), (0, .ref (a 0))]) hx hb dX3_sumOfAccounts_6 rfl hl (by decide) rfl (fun ls hl => ?_)
  refine lv_aload_n hx hb dX3_sumOfAccounts_7 rfl (lv_at hl 0 rfl) ?_
  refine va_alen (v := 4) hx hb hK.1 hP 2 0 rfl rfl rfl dX3_sumOfAccounts_8 ?_
  refine lv_istore_n (lv' := [(3, .int (4)), (2, .ref (a 2)), (1, .int (0)), (0, .ref (a 0))]) hx hb dX3_sumOfAccounts_9 rfl hl (by decide) rfl (fun ls hl => ?_)
  refine lv_iconst (v := 0) hx hb dX3_sumOfAccounts_10 (by decide) ?_
  refine lv_istore (lv' := [(4, .int (0)), (3, .int (4)), (2, .ref (a 2)), (1, .int (0)), (0, .ref (a 0))]) hx hb dX3_sumOfAccounts_11 hl (by decide) rfl (fun ls hl => ?_)
  refine lv_iload hx hb dX3_sumOfAccounts_13 (lv_at hl 0 rfl) ?_
  refine lv_iload_n hx hb dX3_sumOfAccounts_15 rfl (lv_at hl 1 rfl) ?_
  refine lv_icmp_ge (tgt := 36) hx hb dX3_sumOfAccounts_16 (by decide) (fun c => absurd c (by decide)) (fun _ => ?_)
  refine lv_aload_n hx hb dX3_sumOfAccounts_19 rfl (lv_at hl 2 rfl) ?_
  refine lv_iload hx hb dX3_sumOfAccounts_20 (lv_at hl 0 rfl) ?_
  refine iald_n (f := g 2) hx hb hK.1 hP 2 0 rfl rfl (0) (rfl) (by decide) (by omega) dX3_sumOfAccounts_22 ?_
  refine lv_istore (lv' := [(5, .int ((g 2) (0))), (4, .int (0)), (3, .int (4)), (2, .ref (a 2)), (1, .int (0)), (0, .ref (a 0))]) hx hb dX3_sumOfAccounts_23 hl (by decide) rfl (fun ls hl => ?_)
  refine lv_iload_n hx hb dX3_sumOfAccounts_25 rfl (lv_at hl 4 rfl) ?_
  refine lv_iload hx hb dX3_sumOfAccounts_26 (lv_at hl 0 rfl) ?_
  refine lv_iadd hx hb dX3_sumOfAccounts_28 ?_
  refine lv_istore_n (lv' := [(1, .int ((0) + ((g 2) (0)))), (5, .int ((g 2) (0))), (4, .int (0)), (3, .int (4)), (2, .ref (a 2)), (0, .ref (a 0))]) hx hb dX3_sumOfAccounts_29 rfl hl (by decide) rfl (fun ls hl => ?_)
  refine lv_iinc (v := 1) (lv' := [(4, .int (1)), (1, .int ((0) + ((g 2) (0)))), (5, .int ((g 2) (0))), (3, .int (4)), (2, .ref (a 2)), (0, .ref (a 0))]) hx hb dX3_sumOfAccounts_30 hl (k := 2) rfl (by decide) (by decide) rfl (fun ls hl => ?_)
  refine lv_goto (tgt := 13) hx hb dX3_sumOfAccounts_33 (by decide) ?_
  refine lv_iload hx hb dX3_sumOfAccounts_13 (lv_at hl 0 rfl) ?_
  refine lv_iload_n hx hb dX3_sumOfAccounts_15 rfl (lv_at hl 3 rfl) ?_
  refine lv_icmp_ge (tgt := 36) hx hb dX3_sumOfAccounts_16 (by decide) (fun c => absurd c (by decide)) (fun _ => ?_)
  refine lv_aload_n hx hb dX3_sumOfAccounts_19 rfl (lv_at hl 4 rfl) ?_
  refine lv_iload hx hb dX3_sumOfAccounts_20 (lv_at hl 0 rfl) ?_
  refine iald_n (f := g 2) hx hb hK.1 hP 2 0 rfl rfl (1) (rfl) (by decide) (by omega) dX3_sumOfAccounts_22 ?_
  refine lv_istore (lv' := [(5, .int ((g 2) (1))), (4, .int (1)), (1, .int ((0) + ((g 2) (0)))), (3, .int (4)), (2, .ref (a 2)), (0, .ref (a 0))]) hx hb dX3_sumOfAccounts_23 hl (by decide) rfl (fun ls hl => ?_)
  refine lv_iload_n hx hb dX3_sumOfAccounts_25 rfl (lv_at hl 2 rfl) ?_
  refine lv_iload hx hb dX3_sumOfAccounts_26 (lv_at hl 0 rfl) ?_
  refine lv_iadd hx hb dX3_sumOfAccounts_28 ?_
  refine lv_istore_n (lv' := [(1, .int (((0) + ((g 2) (0))) + ((g 2) (1)))), (5, .int ((g 2) (1))), (4, .int (1)), (3, .int (4)), (2, .ref (a 2)), (0, .ref (a 0))]) hx hb dX3_sumOfAccounts_29 rfl hl (by decide) rfl (fun ls hl => ?_)
  refine lv_iinc (v := 2) (lv' := [(4, .int (2)), (1, .int (((0) + ((g 2) (0))) + ((g 2) (1)))), (5, .int ((g 2) (1))), (3, .int (4)), (2, .ref (a 2)), (0, .ref (a 0))]) hx hb dX3_sumOfAccounts_30 hl (k := 2) rfl (by decide) (by decide) rfl (fun ls hl => ?_)
  refine lv_goto (tgt := 13) hx hb dX3_sumOfAccounts_33 (by decide) ?_
  refine lv_iload hx hb dX3_sumOfAccounts_13 (lv_at hl 0 rfl) ?_
  refine lv_iload_n hx hb dX3_sumOfAccounts_15 rfl (lv_at hl 3 rfl) ?_
  refine lv_icmp_ge (tgt := 36) hx hb dX3_sumOfAccounts_16 (by decide) (fun c => absurd c (by decide)) (fun _ => ?_)
  refine lv_aload_n hx hb dX3_sumOfAccounts_19 rfl (lv_at hl 4 rfl) ?_
  refine lv_iload hx hb dX3_sumOfAccounts_20 (lv_at hl 0 rfl) ?_
  refine iald_n (f := g 2) hx hb hK.1 hP 2 0 rfl rfl (2) (rfl) (by decide) (by omega) dX3_sumOfAccounts_22 ?_
  refine lv_istore (lv' := [(5, .int ((g 2) (2))), (4, .int (2)), (1, .int (((0) + ((g 2) (0))) + ((g 2) (1)))), (3, .int (4)), (2, .ref (a 2)), (0, .ref (a 0))]) hx hb dX3_sumOfAccounts_23 hl (by decide) rfl (fun ls hl => ?_)
  refine lv_iload_n hx hb dX3_sumOfAccounts_25 rfl (lv_at hl 2 rfl) ?_
  refine lv_iload hx hb dX3_sumOfAccounts_26 (lv_at hl 0 rfl) ?_
  refine lv_iadd hx hb dX3_sumOfAccounts_28 ?_
  refine lv_istore_n (lv' := [(1, .int ((((0) + ((g 2) (0))) + ((g 2) (1))) + ((g 2) (2)))), (5, .int ((g 2) (2))), (4, .int (2)), (3, .int (4)), (2, .ref (a 2)), (0, .ref (a 0))]) hx hb dX3_sumOfAccounts_29 rfl hl (by decide) rfl (fun ls hl => ?_)
  refine lv_iinc (v := 3) (lv' := [(4, .int (3)), (1, .int ((((0) + ((g 2) (0))) + ((g 2) (1))) + ((g 2) (2)))), (5, .int ((g 2) (2))), (3, .int (4)), (2, .ref (a 2)), (0, .ref (a 0))]) hx hb dX3_sumOfAccounts_30 hl (k := 2) rfl (by decide) (by decide) rfl (fun ls hl => ?_)
  refine lv_goto (tgt := 13) hx hb dX3_sumOfAccounts_33 (by decide) ?_
  refine lv_iload hx hb dX3_sumOfAccounts_13 (lv_at hl 0 rfl) ?_
  refine lv_iload_n hx hb dX3_sumOfAccounts_15 rfl (lv_at hl 3 rfl) ?_
  refine lv_icmp_ge (tgt := 36) hx hb dX3_sumOfAccounts_16 (by decide) (fun c => absurd c (by decide)) (fun _ => ?_)
  refine lv_aload_n hx hb dX3_sumOfAccounts_19 rfl (lv_at hl 4 rfl) ?_
  refine lv_iload hx hb dX3_sumOfAccounts_20 (lv_at hl 0 rfl) ?_
  refine iald_n (f := g 2) hx hb hK.1 hP 2 0 rfl rfl (3) (rfl) (by decide) (by omega) dX3_sumOfAccounts_22 ?_
  refine lv_istore (lv' := [(5, .int ((g 2) (3))), (4, .int (3)), (1, .int ((((0) + ((g 2) (0))) + ((g 2) (1))) + ((g 2) (2)))), (3, .int (4)), (2, .ref (a 2)), (0, .ref (a 0))]) hx hb dX3_sumOfAccounts_23 hl (by decide) rfl (fun ls hl => ?_)
  refine lv_iload_n hx hb dX3_sumOfAccounts_25 rfl (lv_at hl 2 rfl) ?_
  refine lv_iload hx hb dX3_sumOfAccounts_26 (lv_at hl 0 rfl) ?_
  refine lv_iadd hx hb dX3_sumOfAccounts_28 ?_
  refine lv_istore_n (lv' := [(1, .int (((((0) + ((g 2) (0))) + ((g 2) (1))) + ((g 2) (2))) + ((g 2) (3)))), (5, .int ((g 2) (3))), (4, .int (3)), (3, .int (4)), (2, .ref (a 2)), (0, .ref (a 0))]) hx hb dX3_sumOfAccounts_29 rfl hl (by decide) rfl (fun ls hl => ?_)
  refine lv_iinc (v := 4) (lv' := [(4, .int (4)), (1, .int (((((0) + ((g 2) (0))) + ((g 2) (1))) + ((g 2) (2))) + ((g 2) (3)))), (5, .int ((g 2) (3))), (3, .int (4)), (2, .ref (a 2)), (0, .ref (a 0))]) hx hb dX3_sumOfAccounts_30 hl (k := 2) rfl (by decide) (by decide) rfl (fun ls hl => ?_)
  refine lv_goto (tgt := 13) hx hb dX3_sumOfAccounts_33 (by decide) ?_
  refine lv_iload hx hb dX3_sumOfAccounts_13 (lv_at hl 0 rfl) ?_
  refine lv_iload_n hx hb dX3_sumOfAccounts_15 rfl (lv_at hl 3 rfl) ?_
  refine lv_icmp_ge (tgt := 36) hx hb dX3_sumOfAccounts_16 (by decide) (fun _ => ?_) (fun c => absurd (by decide) c)
  refine lv_iload_n hx hb dX3_sumOfAccounts_36 rfl (lv_at hl 1 rfl) ?_
  exact rd_iret (v := ((((0) + ((g 2) (0))) + ((g 2) (1))) + ((g 2) (2))) + ((g 2) (3))) hx hb hr hlocks dX3_sumOfAccounts_37 (rfl)
set_option maxHeartbeats 4000000 in
set_option maxRecDepth 100000 in
theorem c_X3_tariff (l : Launch) (D : va_G) (cI cC cB cS : ClassId) (a : Nat → Nat) (g : Nat → Nat → Int32) (x : Int32) : Met l yX3_tariff wsX3_tariff ({ frames := 0, cells := 0, slots := 0, locals := 0 } : Room) (rdPc D (TYS cI cC cB cS) [.ref (a 0), .int (x)] (wS cI a g)) (va_Sr (fun w => (x = 0 ∧ w = 0) ∨ (¬ x = 0 ∧ w = 1)) (fun w => Value.ref (a (19 + 4 * w)))) 0 0 (fun _ => False) := by
  refine rd_intro (by decide) rfl (Nat.le_of_ble_eq_true rfl) ?_
  intro p e s m below meth c hx hb hr hml hts hown hlocks hP hK ls hl
  have hP : va_P D vwCl [(a 0, oE 3 [.int (g 0 0), .int (g 0 1), .ref (a 1), .ref (a 2), .ref (a 3), .ref (a 12), .ref (a 19), .ref (a 23)]), (a 1, iE cI 5 (g 1)), (a 2, iE cI 4 (g 2)), (a 3, oE 0 [.int (g 3 0), .ref (a 4), .ref (a 5), .ref (a 6), .ref (a 7), .ref (a 8), .ref (a 9), .ref (a 10), .ref (a 11)]), (a 4, iE cI 30 (g 4)), (a 5, iE cI 30 (g 5)), (a 6, iE cI 30 (g 6)), (a 7, iE cI 30 (g 7)), (a 8, iE cI 30 (g 8)), (a 9, iE cI 30 (g 9)), (a 10, iE cI 30 (g 10)), (a 11, iE cI 30 (g 11)), (a 12, oE 2 [.int (g 12 0), .ref (a 13), .ref (a 14), .ref (a 15), .ref (a 16), .ref (a 17), .ref (a 18)]), (a 13, iE cI 16 (g 13)), (a 14, iE cI 16 (g 14)), (a 15, iE cI 16 (g 15)), (a 16, iE cI 16 (g 16)), (a 17, iE cI 16 (g 17)), (a 18, iE cI 16 (g 18)), (a 19, oE 4 [.int (g 19 0), .ref (a 20), .ref (a 21), .ref (a 22)]), (a 20, iE cI 5 (g 20)), (a 21, iE cI 5 (g 21)), (a 22, iE cI 5 (g 22)), (a 23, oE 4 [.int (g 23 0), .ref (a 24), .ref (a 25), .ref (a 26)]), (a 24, iE cI 5 (g 24)), (a 25, iE cI 5 (g 25)), (a 26, iE cI 5 (g 26))] s.heap := hP
  have hown : s.vm.findClass RX3 = some m.cls := hown
  have hl : lv_has ls 2 [(0, .ref (a 0)), (1, .int (x))] := hl
  refine lv_iload_n hx hb dX3_tariff_0 rfl (lv_at hl 1 rfl) ?_
  refine lv_if_ne (tgt := 11) hx hb dX3_tariff_1 (by decide) (fun c_1 => ?_) (fun c_1 => ?_)
  · -- c_1: x ≠ 0
    refine lv_aload_n hx hb dX3_tariff_11 rfl (lv_at hl 0 rfl) ?_
    refine va_get (D := D) (ci := 3) (v := .ref (a 23)) (C := RX3) (T := TX3) (N := 8) hx hb hts (by decide +kernel) hown hK.1 hP 0 rfl rfl 7 (by decide) (hts (.fieldLink RX3 46 "ParkingGarage$State" "over" "LParkingGarage$Tariff;") (by decide +kernel)) (fun _ h9 => h9) rfl dX3_tariff_12 ?_
    exact rd_aret (ad := fun w => a (19 + 4 * w)) 1 hx hb hr hlocks dX3_tariff_15 (Or.inr ⟨c_1, rfl⟩)
  · -- c_1: not x ≠ 0
    refine lv_aload_n hx hb dX3_tariff_4 rfl (lv_at hl 0 rfl) ?_
    refine va_get (D := D) (ci := 3) (v := .ref (a 19)) (C := RX3) (T := TX3) (N := 8) hx hb hts (by decide +kernel) hown hK.1 hP 0 rfl rfl 6 (by decide) (hts (.fieldLink RX3 42 "ParkingGarage$State" "normal" "LParkingGarage$Tariff;") (by decide +kernel)) (fun _ h9 => h9) rfl dX3_tariff_5 ?_
    refine lv_goto (tgt := 15) hx hb dX3_tariff_8 (by decide) ?_
    exact rd_aret (ad := fun w => a (19 + 4 * w)) 0 hx hb hr hlocks dX3_tariff_15 (Or.inl ⟨c_1, rfl⟩)
