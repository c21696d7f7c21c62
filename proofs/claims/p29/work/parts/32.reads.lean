/-! ===== ParkingGarage: methods that read (laid by wip/whole/gen) ===== -/
set_option maxHeartbeats 4000000 in
set_option maxRecDepth 100000 in
theorem c_X6_nearest (l : Launch) (D : va_G) (cI cC cB cS : ClassId) (a : Nat → Nat) (g : Nat → Nat → Int32) (o : Nat) (d0 : Nat) (h0 : Nat) (x0 : Nat) (n : Nat) (q : Nat) (sz : Int32) (hn : g 3 0 = nI n) (hnb : n ≤ 30) (hq : g 12 0 = nI q) (hqc : q ≤ 16) : Met l yX6_nearest wsX6_nearest ({ frames := 6, cells := 0, slots := 0, locals := 135 } : Room) (rdPc D (TYS cI cC cB cS) [.ref (o), .int (sz)] ([(o, oE 6 [.ref (a 0), .ref d0, .ref h0, .ref x0])] ++ wS cI a g)) (vp_Si (fun r => aNearest g n q sz r)) 0 0 (fun _ => False) := by
  refine rd_intro (by decide) rfl (Nat.le_of_ble_eq_true rfl) ?_
  intro p e s m below meth c hx hb hr hml hts hown hlocks hP hK ls hl
  have hP : va_P D vwCl [(o, oE 6 [.ref (a 0), .ref (d0), .ref (h0), .ref (x0)]), (a 0, oE 3 [.int (g 0 0), .int (g 0 1), .ref (a 1), .ref (a 2), .ref (a 3), .ref (a 12), .ref (a 19), .ref (a 23)]), (a 1, iE cI 5 (g 1)), (a 2, iE cI 4 (g 2)), (a 3, oE 0 [.int (g 3 0), .ref (a 4), .ref (a 5), .ref (a 6), .ref (a 7), .ref (a 8), .ref (a 9), .ref (a 10), .ref (a 11)]), (a 4, iE cI 30 (g 4)), (a 5, iE cI 30 (g 5)), (a 6, iE cI 30 (g 6)), (a 7, iE cI 30 (g 7)), (a 8, iE cI 30 (g 8)), (a 9, iE cI 30 (g 9)), (a 10, iE cI 30 (g 10)), (a 11, iE cI 30 (g 11)), (a 12, oE 2 [.int (g 12 0), .ref (a 13), .ref (a 14), .ref (a 15), .ref (a 16), .ref (a 17), .ref (a 18)]), (a 13, iE cI 16 (g 13)), (a 14, iE cI 16 (g 14)), (a 15, iE cI 16 (g 15)), (a 16, iE cI 16 (g 16)), (a 17, iE cI 16 (g 17)), (a 18, iE cI 16 (g 18)), (a 19, oE 4 [.int (g 19 0), .ref (a 20), .ref (a 21), .ref (a 22)]), (a 20, iE cI 5 (g 20)), (a 21, iE cI 5 (g 21)), (a 22, iE cI 5 (g 22)), (a 23, oE 4 [.int (g 23 0), .ref (a 24), .ref (a 25), .ref (a 26)]), (a 24, iE cI 5 (g 24)), (a 25, iE cI 5 (g 25)), (a 26, iE cI 5 (g 26))] s.heap := hP
  have hown : s.vm.findClass RX6 = some m.cls := hown
  have hl : lv_has ls 2 [(0, .ref (o)), (1, .int (sz))] := hl
  refine lv_iload_n hx hb dX6_nearest_0 rfl (lv_at hl 1 rfl) ?_
  refine lv_iconst (v := 0) hx hb dX6_nearest_1 (by decide) ?_
  refine lv_iconst (v := 2) hx hb dX6_nearest_2 (by decide) ?_
  refine cs_i (As := [.int (sz), .int (0), .int (2)]) (rest := []) (tys := TYS cI cC cB cS) ⟨hx, hb, hml, hown, hts⟩ (c_X6_isWithin l D cI cC cB cS (sz) (0) (2)) (va_cwS 3 hts gX6_nearest_X6_isWithin rfl rfl rfl (by decide +kernel) ⟨Nat.le_of_ble_eq_true rfl, Nat.le_of_ble_eq_true rfl⟩) hK hP [] rfl rfl rfl hl.1 (Nat.le_of_ble_eq_true rfl) dX6_nearest_3 ⟨Nat.le_of_ble_eq_true rfl, Nat.le_of_ble_eq_true rfl⟩ (fun r_1 hr_1 => ?_)
  rcases (show Yes (0 ≤ sz ∧ sz ≤ 2) r_1 from hr_1) with ⟨rfl, h_2⟩ | ⟨rfl, h_2⟩
  · -- X6_isWithin t
    refine if_ne_t (tgt := 11) hx hb (by decide) dX6_nearest_6 (by decide) ?_
    refine lv_aload_n hx hb dX6_nearest_11 rfl (lv_at hl 0 rfl) ?_
    refine va_get (D := D) (ci := 6) (v := .ref (a 0)) (C := RX6) (T := TX6) (N := 4) hx hb hts (by decide +kernel) hown hK.1 hP 0 rfl rfl 0 (by decide) (hts (.fieldLink RX6 10 "ParkingGarage" "now" "LParkingGarage$State;") (by decide +kernel)) (fun _ h9 => h9) rfl dX6_nearest_12 ?_
    refine lv_iload_n hx hb dX6_nearest_15 rfl (lv_at hl 1 rfl) ?_
    refine cv_i (As := [.int (sz)]) (rest := []) (tys := TYS cI cC cB cS) (ci := 3) ⟨hx, hb, hml, hown, hts⟩ (c_X3_firstFree l D cI cC cB cS (a) (g) (n) (q) (sz) (hn) (hnb) (hq) (hqc)) (cwV 1 hts gX6_nearest_X3_firstFree rfl rfl rfl (by decide +kernel) ⟨Nat.le_of_ble_eq_true rfl, Nat.le_of_ble_eq_true rfl⟩) hK hP [1, 2, 3, 4, 5, 6, 7, 8, 9, 10, 11, 12, 13, 14, 15, 16, 17, 18, 19, 20, 21, 22, 23, 24, 25, 26, 27] rfl rfl rfl rfl rfl hl.1 (Nat.le_of_ble_eq_true rfl) dX6_nearest_16 ⟨Nat.le_of_ble_eq_true rfl, Nat.le_of_ble_eq_true rfl⟩ (fun r_3 hr_3 => ?_)
    have hr_3 : Wlk (-9) (Imp (fun j z => (g 7 j = 1 ∧ sz ≤ g 6 j ∧ g 8 j = 0 ∧ ¬ (∃ i, i < q ∧ HeldB (g 14) (g 18) (g 15) (g 16) (g 0 0) (g 0 0 + 1) (g 1 1) (nI j) i)) ∧ Btr (g 4) (g 5) (g 6) (g 1 0) n j z) nI) n r_3 := hr_3
    exact rd_iret (v := r_3) hx hb hr hlocks dX6_nearest_19 (Or.inl ⟨h_2, hr_3⟩)
  · -- X6_isWithin f
    refine if_ne_f (tgt := 11) hx hb rfl dX6_nearest_6 (by decide) ?_
    refine lv_iconst (v := -1) hx hb dX6_nearest_9 (by decide) ?_
    exact rd_iret (v := -1) hx hb hr hlocks dX6_nearest_10 (Or.inr ⟨fun q => h_2 q, rfl⟩)
set_option maxHeartbeats 4000000 in
set_option maxRecDepth 100000 in
theorem c_X6_free (l : Launch) (D : va_G) (cI cC cB cS : ClassId) (a : Nat → Nat) (g : Nat → Nat → Int32) (o : Nat) (d0 : Nat) (h0 : Nat) (x0 : Nat) (n : Nat) (q : Nat) (lv : Int32) (sz : Int32) (hn : g 3 0 = nI n) (hnb : n ≤ 30) (hq : g 12 0 = nI q) (hqc : q ≤ 16) : Met l yX6_free wsX6_free ({ frames := 6, cells := 0, slots := 0, locals := 137 } : Room) (rdPc D (TYS cI cC cB cS) [.ref (o), .int (lv), .int (sz)] ([(o, oE 6 [.ref (a 0), .ref d0, .ref h0, .ref x0])] ++ wS cI a g)) (vp_Si (fun r => aFree g n q lv sz r)) 0 0 (fun _ => False) := by
  refine rd_intro (by decide) rfl (Nat.le_of_ble_eq_true rfl) ?_
  intro p e s m below meth c hx hb hr hml hts hown hlocks hP hK ls hl
  have hP : va_P D vwCl [(o, oE 6 [.ref (a 0), .ref (d0), .ref (h0), .ref (x0)]), (a 0, oE 3 [.int (g 0 0), .int (g 0 1), .ref (a 1), .ref (a 2), .ref (a 3), .ref (a 12), .ref (a 19), .ref (a 23)]), (a 1, iE cI 5 (g 1)), (a 2, iE cI 4 (g 2)), (a 3, oE 0 [.int (g 3 0), .ref (a 4), .ref (a 5), .ref (a 6), .ref (a 7), .ref (a 8), .ref (a 9), .ref (a 10), .ref (a 11)]), (a 4, iE cI 30 (g 4)), (a 5, iE cI 30 (g 5)), (a 6, iE cI 30 (g 6)), (a 7, iE cI 30 (g 7)), (a 8, iE cI 30 (g 8)), (a 9, iE cI 30 (g 9)), (a 10, iE cI 30 (g 10)), (a 11, iE cI 30 (g 11)), (a 12, oE 2 [.int (g 12 0), .ref (a 13), .ref (a 14), .ref (a 15), .ref (a 16), .ref (a 17), .ref (a 18)]), (a 13, iE cI 16 (g 13)), (a 14, iE cI 16 (g 14)), (a 15, iE cI 16 (g 15)), (a 16, iE cI 16 (g 16)), (a 17, iE cI 16 (g 17)), (a 18, iE cI 16 (g 18)), (a 19, oE 4 [.int (g 19 0), .ref (a 20), .ref (a 21), .ref (a 22)]), (a 20, iE cI 5 (g 20)), (a 21, iE cI 5 (g 21)), (a 22, iE cI 5 (g 22)), (a 23, oE 4 [.int (g 23 0), .ref (a 24), .ref (a 25), .ref (a 26)]), (a 24, iE cI 5 (g 24)), (a 25, iE cI 5 (g 25)), (a 26, iE cI 5 (g 26))] s.heap := hP
  have hown : s.vm.findClass RX6 = some m.cls := hown
  have hl : lv_has ls 3 [(0, .ref (o)), (1, .int (lv)), (2, .int (sz))] := hl
  refine lv_iload_n hx hb dX6_free_0 rfl (lv_at hl 1 rfl) ?_
  refine lv_iconst (v := 0) hx hb dX6_free_1 (by decide) ?_
  refine lv_iconst (v := 4) hx hb dX6_free_2 (by decide) ?_
  refine cs_i (As := [.int (lv), .int (0), .int (4)]) (rest := []) (tys := TYS cI cC cB cS) ⟨hx, hb, hml, hown, hts⟩ (c_X6_isWithin l D cI cC cB cS (lv) (0) (4)) (va_cwS 3 hts gX6_free_X6_isWithin rfl rfl rfl (by decide +kernel) ⟨Nat.le_of_ble_eq_true rfl, Nat.le_of_ble_eq_true rfl⟩) hK hP [] rfl rfl rfl hl.1 (Nat.le_of_ble_eq_true rfl) dX6_free_3 ⟨Nat.le_of_ble_eq_true rfl, Nat.le_of_ble_eq_true rfl⟩ (fun r_1 hr_1 => ?_)
  rcases (show Yes (0 ≤ lv ∧ lv ≤ 4) r_1 from hr_1) with ⟨rfl, h_2⟩ | ⟨rfl, h_2⟩
  · -- X6_isWithin t
    refine if_eq_f (tgt := 18) hx hb (by decide) dX6_free_6 (by decide) ?_
    refine lv_iload_n hx hb dX6_free_9 rfl (lv_at hl 2 rfl) ?_
    refine lv_iconst (v := -1) hx hb dX6_free_10 (by decide) ?_
    refine lv_iconst (v := 2) hx hb dX6_free_11 (by decide) ?_
    refine cs_i (As := [.int (sz), .int (-1), .int (2)]) (rest := []) (tys := TYS cI cC cB cS) ⟨hx, hb, hml, hown, hts⟩ (c_X6_isWithin l D cI cC cB cS (sz) (-1) (2)) (va_cwS 3 hts gX6_free_X6_isWithin rfl rfl rfl (by decide +kernel) ⟨Nat.le_of_ble_eq_true rfl, Nat.le_of_ble_eq_true rfl⟩) hK hP [] rfl rfl rfl hl.1 (Nat.le_of_ble_eq_true rfl) dX6_free_12 ⟨Nat.le_of_ble_eq_true rfl, Nat.le_of_ble_eq_true rfl⟩ (fun r_3 hr_3 => ?_)
    rcases (show Yes (-1 ≤ sz ∧ sz ≤ 2) r_3 from hr_3) with ⟨rfl, h_4⟩ | ⟨rfl, h_4⟩
    · -- X6_isWithin t
      refine if_ne_t (tgt := 20) hx hb (by decide) dX6_free_15 (by decide) ?_
      refine lv_aload_n hx hb dX6_free_20 rfl (lv_at hl 0 rfl) ?_
      refine va_get (D := D) (ci := 6) (v := .ref (a 0)) (C := RX6) (T := TX6) (N := 4) hx hb hts (by decide +kernel) hown hK.1 hP 0 rfl rfl 0 (by decide) (hts (.fieldLink RX6 10 "ParkingGarage" "now" "LParkingGarage$State;") (by decide +kernel)) (fun _ h9 => h9) rfl dX6_free_21 ?_
      refine lv_iload_n hx hb dX6_free_24 rfl (lv_at hl 1 rfl) ?_
      refine lv_iload_n hx hb dX6_free_25 rfl (lv_at hl 2 rfl) ?_
      refine cv_i (As := [.int (lv), .int (sz)]) (rest := []) (tys := TYS cI cC cB cS) (ci := 3) ⟨hx, hb, hml, hown, hts⟩ (c_X3_freeBays l D cI cC cB cS (a) (g) (n) (q) (lv) (sz) (hn) (hnb) (hq) (hqc)) (cwV 2 hts gX6_free_X3_freeBays rfl rfl rfl (by decide +kernel) ⟨Nat.le_of_ble_eq_true rfl, Nat.le_of_ble_eq_true rfl⟩) hK hP [1, 2, 3, 4, 5, 6, 7, 8, 9, 10, 11, 12, 13, 14, 15, 16, 17, 18, 19, 20, 21, 22, 23, 24, 25, 26, 27] rfl rfl rfl rfl rfl hl.1 (Nat.le_of_ble_eq_true rfl) dX6_free_26 ⟨Nat.le_of_ble_eq_true rfl, Nat.le_of_ble_eq_true rfl⟩ (fun r_5 hr_5 => ?_)
      have hr_5 : ∃ z, Cnt (fun w => (g 4 w = lv ∧ (sz < 0 ∨ g 6 w = sz)) ∧ g 7 w = 1 ∧ 0 ≤ g 6 w ∧ g 8 w = 0 ∧ ¬ (∃ i, i < q ∧ HeldB (g 14) (g 18) (g 15) (g 16) (g 0 0) (g 0 0 + 1) (g 1 1) (nI w) i)) n z ∧ r_5 = nI z := hr_5
      exact rd_iret (v := r_5) hx hb hr hlocks dX6_free_29 (Or.inl ⟨⟨h_2, h_4⟩, hr_5⟩)
    · -- X6_isWithin f
      refine if_ne_f (tgt := 20) hx hb rfl dX6_free_15 (by decide) ?_
      refine lv_iconst (v := -1) hx hb dX6_free_18 (by decide) ?_
      exact rd_iret (v := -1) hx hb hr hlocks dX6_free_19 (Or.inr ⟨fun q => h_4 q.2, rfl⟩)
  · -- X6_isWithin f
    refine if_eq_t (tgt := 18) hx hb rfl dX6_free_6 (by decide) ?_
    refine lv_iconst (v := -1) hx hb dX6_free_18 (by decide) ?_
    exact rd_iret (v := -1) hx hb hr hlocks dX6_free_19 (Or.inr ⟨fun q => h_2 q.1, rfl⟩)
set_option maxHeartbeats 4000000 in
set_option maxRecDepth 100000 in
theorem c_X6_freeFor (l : Launch) (D : va_G) (cI cC cB cS : ClassId) (a : Nat → Nat) (g : Nat → Nat → Int32) (o : Nat) (d0 : Nat) (h0 : Nat) (x0 : Nat) (n : Nat) (q : Nat) (x : Int32) (hn : g 3 0 = nI n) (hnb : n ≤ 30) (hq : g 12 0 = nI q) (hqc : q ≤ 16) : Met l yX6_freeFor wsX6_freeFor ({ frames := 5, cells := 0, slots := 0, locals := 112 } : Room) (rdPc D (TYS cI cC cB cS) [.ref (o), .int (x)] ([(o, oE 6 [.ref (a 0), .ref d0, .ref h0, .ref x0])] ++ wS cI a g)) (vp_Si (fun r => aFreeFor g n q x r)) 0 0 (fun _ => False) := by
  refine rd_intro (by decide) rfl (Nat.le_of_ble_eq_true rfl) ?_
  intro p e s m below meth c hx hb hr hml hts hown hlocks hP hK ls hl
  have hP : va_P D vwCl [(o, oE 6 [.ref (a 0), .ref (d0), .ref (h0), .ref (x0)]), (a 0, oE 3 [.int (g 0 0), .int (g 0 1), .ref (a 1), .ref (a 2), .ref (a 3), .ref (a 12), .ref (a 19), .ref (a 23)]), (a 1, iE cI 5 (g 1)), (a 2, iE cI 4 (g 2)), (a 3, oE 0 [.int (g 3 0), .ref (a 4), .ref (a 5), .ref (a 6), .ref (a 7), .ref (a 8), .ref (a 9), .ref (a 10), .ref (a 11)]), (a 4, iE cI 30 (g 4)), (a 5, iE cI 30 (g 5)), (a 6, iE cI 30 (g 6)), (a 7, iE cI 30 (g 7)), (a 8, iE cI 30 (g 8)), (a 9, iE cI 30 (g 9)), (a 10, iE cI 30 (g 10)), (a 11, iE cI 30 (g 11)), (a 12, oE 2 [.int (g 12 0), .ref (a 13), .ref (a 14), .ref (a 15), .ref (a 16), .ref (a 17), .ref (a 18)]), (a 13, iE cI 16 (g 13)), (a 14, iE cI 16 (g 14)), (a 15, iE cI 16 (g 15)), (a 16, iE cI 16 (g 16)), (a 17, iE cI 16 (g 17)), (a 18, iE cI 16 (g 18)), (a 19, oE 4 [.int (g 19 0), .ref (a 20), .ref (a 21), .ref (a 22)]), (a 20, iE cI 5 (g 20)), (a 21, iE cI 5 (g 21)), (a 22, iE cI 5 (g 22)), (a 23, oE 4 [.int (g 23 0), .ref (a 24), .ref (a 25), .ref (a 26)]), (a 24, iE cI 5 (g 24)), (a 25, iE cI 5 (g 25)), (a 26, iE cI 5 (g 26))] s.heap := hP
  have hown : s.vm.findClass RX6 = some m.cls := hown
  have hl : lv_has ls 2 [(0, .ref (o)), (1, .int (x))] := hl
  refine lv_aload_n hx hb dX6_freeFor_0 rfl (lv_at hl 0 rfl) ?_
  refine va_get (D := D) (ci := 6) (v := .ref (a 0)) (C := RX6) (T := TX6) (N := 4) hx hb hts (by decide +kernel) hown hK.1 hP 0 rfl rfl 0 (by decide) (hts (.fieldLink RX6 10 "ParkingGarage" "now" "LParkingGarage$State;") (by decide +kernel)) (fun _ h9 => h9) rfl dX6_freeFor_1 ?_
  refine va_get (D := D) (ci := 3) (v := .ref (a 3)) (C := RX3) (T := TX3) (N := 8) hx hb hts (by decide +kernel) hown hK.1 hP 1 rfl rfl 4 (by decide) (hts (.fieldLink RX6 37 "ParkingGarage$State" "bays" "LParkingGarage$Bays;") (by decide +kernel)) (fun _ h9 => h9) rfl dX6_freeFor_4 ?_
  refine lv_iload_n hx hb dX6_freeFor_7 rfl (lv_at hl 1 rfl) ?_
  refine cv_i (As := [.int (x)]) (rest := []) (tys := TYS cI cC cB cS) (ci := 0) ⟨hx, hb, hml, hown, hts⟩ (c_X0_has l D cI cC cB cS ((fun k => a (3 + k))) ((fun k => g (3 + k))) (n) (x) (hn) (hnb)) (cwV 1 hts gX6_freeFor_X0_has rfl rfl rfl (by decide +kernel) ⟨Nat.le_of_ble_eq_true rfl, Nat.le_of_ble_eq_true rfl⟩) hK hP [4, 5, 6, 7, 8, 9, 10, 11, 12] rfl rfl rfl rfl rfl hl.1 (Nat.le_of_ble_eq_true rfl) dX6_freeFor_8 ⟨Nat.le_of_ble_eq_true rfl, Nat.le_of_ble_eq_true rfl⟩ (fun r_1 hr_1 => ?_)
  rcases (show Yes (∃ w, w < n ∧ x = nI w) r_1 from hr_1) with ⟨rfl, h_2⟩ | ⟨rfl, h_2⟩
  · -- X0_has t
    refine if_ne_t (tgt := 16) hx hb (by decide) dX6_freeFor_11 (by decide) ?_
    refine lv_aload_n hx hb dX6_freeFor_16 rfl (lv_at hl 0 rfl) ?_
    refine va_get (D := D) (ci := 6) (v := .ref (a 0)) (C := RX6) (T := TX6) (N := 4) hx hb hts (by decide +kernel) hown hK.1 hP 0 rfl rfl 0 (by decide) (hts (.fieldLink RX6 10 "ParkingGarage" "now" "LParkingGarage$State;") (by decide +kernel)) (fun _ h9 => h9) rfl dX6_freeFor_17 ?_
    refine lv_iload_n hx hb dX6_freeFor_20 rfl (lv_at hl 1 rfl) ?_
    refine cv_i (As := [.int (x)]) (rest := []) (tys := TYS cI cC cB cS) (ci := 3) ⟨hx, hb, hml, hown, hts⟩ (c_X3_isHeld l D cI cC cB cS (a) (g) (q) (x) (hq) (hqc)) (cwV 1 hts gX6_freeFor_X3_isHeld rfl rfl rfl (by decide +kernel) ⟨Nat.le_of_ble_eq_true rfl, Nat.le_of_ble_eq_true rfl⟩) hK hP [1, 2, 3, 4, 5, 6, 7, 8, 9, 10, 11, 12, 13, 14, 15, 16, 17, 18, 19, 20, 21, 22, 23, 24, 25, 26, 27] rfl rfl rfl rfl rfl hl.1 (Nat.le_of_ble_eq_true rfl) dX6_freeFor_21 ⟨Nat.le_of_ble_eq_true rfl, Nat.le_of_ble_eq_true rfl⟩ (fun r_3 hr_3 => ?_)
    rcases (show Yes (∃ w, w < q ∧ HeldB (g 14) (g 18) (g 15) (g 16) (g 0 0) (g 0 0 + 1) (g 1 1) (x) w) r_3 from hr_3) with ⟨rfl, h_4⟩ | ⟨rfl, h_4⟩
    · -- X3_isHeld t
      refine if_eq_f (tgt := 29) hx hb (by decide) dX6_freeFor_24 (by decide) ?_
      refine lv_iconst (v := 0) hx hb dX6_freeFor_27 (by decide) ?_
      exact rd_iret (v := 0) hx hb hr hlocks dX6_freeFor_28 (Or.inl ⟨h_2, Or.inl ⟨h_4, rfl⟩⟩)
    · -- X3_isHeld f
      refine if_eq_t (tgt := 29) hx hb rfl dX6_freeFor_24 (by decide) ?_
      refine lv_aload_n hx hb dX6_freeFor_29 rfl (lv_at hl 0 rfl) ?_
      refine va_get (D := D) (ci := 6) (v := .ref (a 0)) (C := RX6) (T := TX6) (N := 4) hx hb hts (by decide +kernel) hown hK.1 hP 0 rfl rfl 0 (by decide) (hts (.fieldLink RX6 10 "ParkingGarage" "now" "LParkingGarage$State;") (by decide +kernel)) (fun _ h9 => h9) rfl dX6_freeFor_30 ?_
      refine va_get (D := D) (ci := 3) (v := .ref (a 12)) (C := RX3) (T := TX3) (N := 8) hx hb hts (by decide +kernel) hown hK.1 hP 1 rfl rfl 5 (by decide) (hts (.fieldLink RX6 128 "ParkingGarage$State" "reservations" "LParkingGarage$Reservations;") (by decide +kernel)) (fun _ h9 => h9) rfl dX6_freeFor_33 ?_
      refine lv_iload_n hx hb dX6_freeFor_36 rfl (lv_at hl 1 rfl) ?_
      refine lv_aload_n hx hb dX6_freeFor_37 rfl (lv_at hl 0 rfl) ?_
      refine va_get (D := D) (ci := 6) (v := .ref (a 0)) (C := RX6) (T := TX6) (N := 4) hx hb hts (by decide +kernel) hown hK.1 hP 0 rfl rfl 0 (by decide) (hts (.fieldLink RX6 10 "ParkingGarage" "now" "LParkingGarage$State;") (by decide +kernel)) (fun _ h9 => h9) rfl dX6_freeFor_38 ?_
      refine va_get (D := D) (ci := 3) (v := .int (g 0 0)) (C := RX3) (T := TX3) (N := 8) hx hb hts (by decide +kernel) hown hK.1 hP 1 rfl rfl 0 (by decide) (hts (.fieldLink RX6 122 "ParkingGarage$State" "time" "I") (by decide +kernel)) (fun _ h9 => h9) rfl dX6_freeFor_41 ?_
      refine lv_aload_n hx hb dX6_freeFor_44 rfl (lv_at hl 0 rfl) ?_
      refine va_get (D := D) (ci := 6) (v := .ref (a 0)) (C := RX6) (T := TX6) (N := 4) hx hb hts (by decide +kernel) hown hK.1 hP 0 rfl rfl 0 (by decide) (hts (.fieldLink RX6 10 "ParkingGarage" "now" "LParkingGarage$State;") (by decide +kernel)) (fun _ h9 => h9) rfl dX6_freeFor_45 ?_
      refine va_get (D := D) (ci := 3) (v := .ref (a 1)) (C := RX3) (T := TX3) (N := 8) hx hb hts (by decide +kernel) hown hK.1 hP 1 rfl rfl 2 (by decide) (hts (.fieldLink RX6 98 "ParkingGarage$State" "numbers" "[I") (by decide +kernel)) (fun _ h9 => h9) rfl dX6_freeFor_48 ?_
      refine lv_iconst (v := 1) hx hb dX6_freeFor_51 (by decide) ?_
      refine iald_n (f := g 1) hx hb hK.1 hP 2 0 rfl rfl (1) (rfl) (by decide) (by omega) dX6_freeFor_52 ?_
      refine cv_i (As := [.int (x), .int (g 0 0), .int ((g 1) (1))]) (rest := []) (tys := TYS cI cC cB cS) (ci := 2) ⟨hx, hb, hml, hown, hts⟩ (c_X2_minutesUntilHeld l D cI cC cB cS ((fun k => a (12 + k))) ((fun k => g (12 + k))) (q) (x) (g 0 0) ((g 1) (1)) (hq) (hqc)) (cwV 3 hts gX6_freeFor_X2_minutesUntilHeld rfl rfl rfl (by decide +kernel) ⟨Nat.le_of_ble_eq_true rfl, Nat.le_of_ble_eq_true rfl⟩) hK hP [13, 14, 15, 16, 17, 18, 19] rfl rfl rfl rfl rfl hl.1 (Nat.le_of_ble_eq_true rfl) dX6_freeFor_53 ⟨Nat.le_of_ble_eq_true rfl, Nat.le_of_ble_eq_true rfl⟩ (fun r_5 hr_5 => ?_)
      have hr_5 : Wlk (-9) (Imp (fun j z => g 14 j = x ∧ Alv (g 18) j ∧ 0 < g 15 j - (g 1) (1) - g 0 0 ∧ (z = -9 ∨ g 15 j - (g 1) (1) - g 0 0 < z)) (fun j => g 15 j - (g 1) (1) - g 0 0)) q r_5 := hr_5
      exact rd_iret (v := r_5) hx hb hr hlocks dX6_freeFor_56 (Or.inl ⟨h_2, Or.inr ⟨h_4, hr_5⟩⟩)
  · -- X0_has f
    refine if_ne_f (tgt := 16) hx hb rfl dX6_freeFor_11 (by decide) ?_
    refine lv_iconst (v := -1) hx hb dX6_freeFor_14 (by decide) ?_
    exact rd_iret (v := -1) hx hb hr hlocks dX6_freeFor_15 (Or.inr ⟨fun q => h_2 q, rfl⟩)
set_option maxHeartbeats 4000000 in
set_option maxRecDepth 100000 in
theorem c_X6_bay (l : Launch) (D : va_G) (cI cC cB cS : ClassId) (a : Nat → Nat) (g : Nat → Nat → Int32) (o : Nat) (d0 : Nat) (h0 : Nat) (x0 : Nat) (n : Nat) (q : Nat) (x : Int32) (wh : Int32) (hn : g 3 0 = nI n) (hnb : n ≤ 30) (hq : g 12 0 = nI q) (hqc : q ≤ 16) : Met l yX6_bay wsX6_bay ({ frames := 5, cells := 0, slots := 0, locals := 112 } : Room) (rdPc D (TYS cI cC cB cS) [.ref (o), .int (x), .int (wh)] ([(o, oE 6 [.ref (a 0), .ref d0, .ref h0, .ref x0])] ++ wS cI a g)) (vp_Si (fun r => aBay g n q x wh r)) 0 0 (fun _ => False) := by
  refine rd_intro (by decide) rfl (Nat.le_of_ble_eq_true rfl) ?_
  intro p e s m below meth c hx hb hr hml hts hown hlocks hP hK ls hl
  have hP : va_P D vwCl [(o, oE 6 [.ref (a 0), .ref (d0), .ref (h0), .ref (x0)]), (a 0, oE 3 [.int (g 0 0), .int (g 0 1), .ref (a 1), .ref (a 2), .ref (a 3), .ref (a 12), .ref (a 19), .ref (a 23)]), (a 1, iE cI 5 (g 1)), (a 2, iE cI 4 (g 2)), (a 3, oE 0 [.int (g 3 0), .ref (a 4), .ref (a 5), .ref (a 6), .ref (a 7), .ref (a 8), .ref (a 9), .ref (a 10), .ref (a 11)]), (a 4, iE cI 30 (g 4)), (a 5, iE cI 30 (g 5)), (a 6, iE cI 30 (g 6)), (a 7, iE cI 30 (g 7)), (a 8, iE cI 30 (g 8)), (a 9, iE cI 30 (g 9)), (a 10, iE cI 30 (g 10)), (a 11, iE cI 30 (g 11)), (a 12, oE 2 [.int (g 12 0), .ref (a 13), .ref (a 14), .ref (a 15), .ref (a 16), .ref (a 17), .ref (a 18)]), (a 13, iE cI 16 (g 13)), (a 14, iE cI 16 (g 14)), (a 15, iE cI 16 (g 15)), (a 16, iE cI 16 (g 16)), (a 17, iE cI 16 (g 17)), (a 18, iE cI 16 (g 18)), (a 19, oE 4 [.int (g 19 0), .ref (a 20), .ref (a 21), .ref (a 22)]), (a 20, iE cI 5 (g 20)), (a 21, iE cI 5 (g 21)), (a 22, iE cI 5 (g 22)), (a 23, oE 4 [.int (g 23 0), .ref (a 24), .ref (a 25), .ref (a 26)]), (a 24, iE cI 5 (g 24)), (a 25, iE cI 5 (g 25)), (a 26, iE cI 5 (g 26))] s.heap := hP
  have hown : s.vm.findClass RX6 = some m.cls := hown
  have hl : lv_has ls 3 [(0, .ref (o)), (1, .int (x)), (2, .int (wh))] := hl
  refine lv_aload_n hx hb dX6_bay_0 rfl (lv_at hl 0 rfl) ?_
  refine va_get (D := D) (ci := 6) (v := .ref (a 0)) (C := RX6) (T := TX6) (N := 4) hx hb hts (by decide +kernel) hown hK.1 hP 0 rfl rfl 0 (by decide) (hts (.fieldLink RX6 10 "ParkingGarage" "now" "LParkingGarage$State;") (by decide +kernel)) (fun _ h9 => h9) rfl dX6_bay_1 ?_
  refine va_get (D := D) (ci := 3) (v := .ref (a 3)) (C := RX3) (T := TX3) (N := 8) hx hb hts (by decide +kernel) hown hK.1 hP 1 rfl rfl 4 (by decide) (hts (.fieldLink RX6 37 "ParkingGarage$State" "bays" "LParkingGarage$Bays;") (by decide +kernel)) (fun _ h9 => h9) rfl dX6_bay_4 ?_
  refine lv_iload_n hx hb dX6_bay_7 rfl (lv_at hl 1 rfl) ?_
  refine cv_i (As := [.int (x)]) (rest := []) (tys := TYS cI cC cB cS) (ci := 0) ⟨hx, hb, hml, hown, hts⟩ (c_X0_has l D cI cC cB cS ((fun k => a (3 + k))) ((fun k => g (3 + k))) (n) (x) (hn) (hnb)) (cwV 1 hts gX6_bay_X0_has rfl rfl rfl (by decide +kernel) ⟨Nat.le_of_ble_eq_true rfl, Nat.le_of_ble_eq_true rfl⟩) hK hP [4, 5, 6, 7, 8, 9, 10, 11, 12] rfl rfl rfl rfl rfl hl.1 (Nat.le_of_ble_eq_true rfl) dX6_bay_8 ⟨Nat.le_of_ble_eq_true rfl, Nat.le_of_ble_eq_true rfl⟩ (fun r_1 hr_1 => ?_)
  rcases (show Yes (∃ w, w < n ∧ x = nI w) r_1 from hr_1) with ⟨rfl, h_2⟩ | ⟨rfl, h_2⟩
  · -- X0_has t
    obtain ⟨k, hk, hbk⟩ := h_2
    have hl : lv_has ls 3 [(0, .ref (o)), (1, .int (nI k)), (2, .int (wh))] := by rw [← hbk]; exact hl
    refine if_ne_t (tgt := 16) hx hb (by decide) dX6_bay_11 (by decide) ?_
    refine lv_iload_n hx hb dX6_bay_16 rfl (lv_at hl 2 rfl) ?_
    by_cases e_3 : wh = 0
    · -- case 0
      refine lv_tableIn (off := 43) (tgt := 60) hx hb dX6_bay_17 (by rw [e_3]; decide) (by rw [e_3]; decide) (by rw [e_3]; decide +kernel) (by decide) ?_
      refine lv_aload_n hx hb dX6_bay_60 rfl (lv_at hl 0 rfl) ?_
      refine va_get (D := D) (ci := 6) (v := .ref (a 0)) (C := RX6) (T := TX6) (N := 4) hx hb hts (by decide +kernel) hown hK.1 hP 0 rfl rfl 0 (by decide) (hts (.fieldLink RX6 10 "ParkingGarage" "now" "LParkingGarage$State;") (by decide +kernel)) (fun _ h9 => h9) rfl dX6_bay_61 ?_
      refine va_get (D := D) (ci := 3) (v := .ref (a 3)) (C := RX3) (T := TX3) (N := 8) hx hb hts (by decide +kernel) hown hK.1 hP 1 rfl rfl 4 (by decide) (hts (.fieldLink RX6 37 "ParkingGarage$State" "bays" "LParkingGarage$Bays;") (by decide +kernel)) (fun _ h9 => h9) rfl dX6_bay_64 ?_
      refine va_get (D := D) (ci := 0) (v := .ref (a 4)) (C := RX0) (T := TX0) (N := 9) hx hb hts (by decide +kernel) hown hK.1 hP 4 rfl rfl 1 (by decide) (hts (.fieldLink RX6 197 "ParkingGarage$Bays" "levels" "[I") (by decide +kernel)) (fun _ h9 => h9) rfl dX6_bay_67 ?_
      refine lv_iload_n hx hb dX6_bay_70 rfl (lv_at hl 1 rfl) ?_
      refine iald_n (f := g 4) hx hb hK.1 hP 5 0 rfl rfl (k) (rfl) (by omega) (by omega) dX6_bay_71 ?_
      exact rd_iret (v := (g 4) (k)) hx hb hr hlocks dX6_bay_72 (Or.inl ⟨k, hk, hbk, Or.inl ⟨e_3, rfl⟩⟩)
    by_cases e_4 : wh = 1
    · -- case 1
      refine lv_tableIn (off := 56) (tgt := 73) hx hb dX6_bay_17 (by rw [e_4]; decide) (by rw [e_4]; decide) (by rw [e_4]; decide +kernel) (by decide) ?_
      refine lv_aload_n hx hb dX6_bay_73 rfl (lv_at hl 0 rfl) ?_
      refine va_get (D := D) (ci := 6) (v := .ref (a 0)) (C := RX6) (T := TX6) (N := 4) hx hb hts (by decide +kernel) hown hK.1 hP 0 rfl rfl 0 (by decide) (hts (.fieldLink RX6 10 "ParkingGarage" "now" "LParkingGarage$State;") (by decide +kernel)) (fun _ h9 => h9) rfl dX6_bay_74 ?_
      refine va_get (D := D) (ci := 3) (v := .ref (a 3)) (C := RX3) (T := TX3) (N := 8) hx hb hts (by decide +kernel) hown hK.1 hP 1 rfl rfl 4 (by decide) (hts (.fieldLink RX6 37 "ParkingGarage$State" "bays" "LParkingGarage$Bays;") (by decide +kernel)) (fun _ h9 => h9) rfl dX6_bay_77 ?_
      refine va_get (D := D) (ci := 0) (v := .ref (a 5)) (C := RX0) (T := TX0) (N := 9) hx hb hts (by decide +kernel) hown hK.1 hP 4 rfl rfl 2 (by decide) (hts (.fieldLink RX6 200 "ParkingGarage$Bays" "positions" "[I") (by decide +kernel)) (fun _ h9 => h9) rfl dX6_bay_80 ?_
      refine lv_iload_n hx hb dX6_bay_83 rfl (lv_at hl 1 rfl) ?_
      refine iald_n (f := g 5) hx hb hK.1 hP 6 0 rfl rfl (k) (rfl) (by omega) (by omega) dX6_bay_84 ?_
      exact rd_iret (v := (g 5) (k)) hx hb hr hlocks dX6_bay_85 (Or.inl ⟨k, hk, hbk, Or.inr (Or.inl ⟨e_4, rfl⟩)⟩)
    by_cases e_5 : wh = 2
    · -- case 2
      refine lv_tableIn (off := 69) (tgt := 86) hx hb dX6_bay_17 (by rw [e_5]; decide) (by rw [e_5]; decide) (by rw [e_5]; decide +kernel) (by decide) ?_
      refine lv_aload_n hx hb dX6_bay_86 rfl (lv_at hl 0 rfl) ?_
      refine va_get (D := D) (ci := 6) (v := .ref (a 0)) (C := RX6) (T := TX6) (N := 4) hx hb hts (by decide +kernel) hown hK.1 hP 0 rfl rfl 0 (by decide) (hts (.fieldLink RX6 10 "ParkingGarage" "now" "LParkingGarage$State;") (by decide +kernel)) (fun _ h9 => h9) rfl dX6_bay_87 ?_
      refine va_get (D := D) (ci := 3) (v := .ref (a 3)) (C := RX3) (T := TX3) (N := 8) hx hb hts (by decide +kernel) hown hK.1 hP 1 rfl rfl 4 (by decide) (hts (.fieldLink RX6 37 "ParkingGarage$State" "bays" "LParkingGarage$Bays;") (by decide +kernel)) (fun _ h9 => h9) rfl dX6_bay_90 ?_
      refine va_get (D := D) (ci := 0) (v := .ref (a 6)) (C := RX0) (T := TX0) (N := 9) hx hb hts (by decide +kernel) hown hK.1 hP 4 rfl rfl 3 (by decide) (hts (.fieldLink RX6 203 "ParkingGarage$Bays" "sizes" "[I") (by decide +kernel)) (fun _ h9 => h9) rfl dX6_bay_93 ?_
      refine lv_iload_n hx hb dX6_bay_96 rfl (lv_at hl 1 rfl) ?_
      refine iald_n (f := g 6) hx hb hK.1 hP 7 0 rfl rfl (k) (rfl) (by omega) (by omega) dX6_bay_97 ?_
      exact rd_iret (v := (g 6) (k)) hx hb hr hlocks dX6_bay_98 (Or.inl ⟨k, hk, hbk, Or.inr (Or.inr (Or.inl ⟨e_5, rfl⟩))⟩)
    by_cases e_6 : wh = 3
    · -- case 3
      refine lv_tableIn (off := 82) (tgt := 99) hx hb dX6_bay_17 (by rw [e_6]; decide) (by rw [e_6]; decide) (by rw [e_6]; decide +kernel) (by decide) ?_
      refine lv_aload_n hx hb dX6_bay_99 rfl (lv_at hl 0 rfl) ?_
      refine va_get (D := D) (ci := 6) (v := .ref (a 0)) (C := RX6) (T := TX6) (N := 4) hx hb hts (by decide +kernel) hown hK.1 hP 0 rfl rfl 0 (by decide) (hts (.fieldLink RX6 10 "ParkingGarage" "now" "LParkingGarage$State;") (by decide +kernel)) (fun _ h9 => h9) rfl dX6_bay_100 ?_
      refine lv_iload_n hx hb dX6_bay_103 rfl (lv_at hl 1 rfl) ?_
      refine cv_i (As := [.int (nI k)]) (rest := []) (tys := TYS cI cC cB cS) (ci := 3) ⟨hx, hb, hml, hown, hts⟩ (c_X3_way l D cI cC cB cS (a) (g) (n) (k) (hn) (hnb) (hk)) (cwV 1 hts gX6_bay_X3_way rfl rfl rfl (by decide +kernel) ⟨Nat.le_of_ble_eq_true rfl, Nat.le_of_ble_eq_true rfl⟩) hK hP [1, 2, 3, 4, 5, 6, 7, 8, 9, 10, 11, 12, 13, 14, 15, 16, 17, 18, 19, 20, 21, 22, 23, 24, 25, 26, 27] rfl rfl rfl rfl rfl hl.1 (Nat.le_of_ble_eq_true rfl) dX6_bay_104 ⟨Nat.le_of_ble_eq_true rfl, Nat.le_of_ble_eq_true rfl⟩ (fun r_7 hr_7 => ?_)
      have hr_7 : r_7 = Wy (g 4) (g 5) (g 1 0) k := hr_7
      exact rd_iret (v := r_7) hx hb hr hlocks dX6_bay_107 (Or.inl ⟨k, hk, hbk, Or.inr (Or.inr (Or.inr (Or.inl ⟨e_6, hr_7⟩)))⟩)
    by_cases e_8 : wh = 4
    · -- case 4
      refine lv_tableIn (off := 91) (tgt := 108) hx hb dX6_bay_17 (by rw [e_8]; decide) (by rw [e_8]; decide) (by rw [e_8]; decide +kernel) (by decide) ?_
      refine lv_aload_n hx hb dX6_bay_108 rfl (lv_at hl 0 rfl) ?_
      refine va_get (D := D) (ci := 6) (v := .ref (a 0)) (C := RX6) (T := TX6) (N := 4) hx hb hts (by decide +kernel) hown hK.1 hP 0 rfl rfl 0 (by decide) (hts (.fieldLink RX6 10 "ParkingGarage" "now" "LParkingGarage$State;") (by decide +kernel)) (fun _ h9 => h9) rfl dX6_bay_109 ?_
      refine va_get (D := D) (ci := 3) (v := .ref (a 3)) (C := RX3) (T := TX3) (N := 8) hx hb hts (by decide +kernel) hown hK.1 hP 1 rfl rfl 4 (by decide) (hts (.fieldLink RX6 37 "ParkingGarage$State" "bays" "LParkingGarage$Bays;") (by decide +kernel)) (fun _ h9 => h9) rfl dX6_bay_112 ?_
      refine va_get (D := D) (ci := 0) (v := .ref (a 7)) (C := RX0) (T := TX0) (N := 9) hx hb hts (by decide +kernel) hown hK.1 hP 4 rfl rfl 4 (by decide) (hts (.fieldLink RX6 63 "ParkingGarage$Bays" "on" "[I") (by decide +kernel)) (fun _ h9 => h9) rfl dX6_bay_115 ?_
      refine lv_iload_n hx hb dX6_bay_118 rfl (lv_at hl 1 rfl) ?_
      refine iald_n (f := g 7) hx hb hK.1 hP 8 0 rfl rfl (k) (rfl) (by omega) (by omega) dX6_bay_119 ?_
      exact rd_iret (v := (g 7) (k)) hx hb hr hlocks dX6_bay_120 (Or.inl ⟨k, hk, hbk, Or.inr (Or.inr (Or.inr (Or.inr (Or.inl ⟨e_8, rfl⟩))))⟩)
    by_cases e_9 : wh = 5
    · -- case 5
      refine lv_tableIn (off := 104) (tgt := 121) hx hb dX6_bay_17 (by rw [e_9]; decide) (by rw [e_9]; decide) (by rw [e_9]; decide +kernel) (by decide) ?_
      refine lv_aload_n hx hb dX6_bay_121 rfl (lv_at hl 0 rfl) ?_
      refine va_get (D := D) (ci := 6) (v := .ref (a 0)) (C := RX6) (T := TX6) (N := 4) hx hb hts (by decide +kernel) hown hK.1 hP 0 rfl rfl 0 (by decide) (hts (.fieldLink RX6 10 "ParkingGarage" "now" "LParkingGarage$State;") (by decide +kernel)) (fun _ h9 => h9) rfl dX6_bay_122 ?_
      refine va_get (D := D) (ci := 3) (v := .ref (a 3)) (C := RX3) (T := TX3) (N := 8) hx hb hts (by decide +kernel) hown hK.1 hP 1 rfl rfl 4 (by decide) (hts (.fieldLink RX6 37 "ParkingGarage$State" "bays" "LParkingGarage$Bays;") (by decide +kernel)) (fun _ h9 => h9) rfl dX6_bay_125 ?_
      refine lv_iload_n hx hb dX6_bay_128 rfl (lv_at hl 1 rfl) ?_
      refine cv_i (As := [.int (nI k)]) (rest := []) (tys := TYS cI cC cB cS) (ci := 0) ⟨hx, hb, hml, hown, hts⟩ (c_X0_isEmpty l D cI cC cB cS ((fun k => a (3 + k))) ((fun k => g (3 + k))) (n) (k) (hn) (hnb) (hk)) (cwV 1 hts gX6_bay_X0_isEmpty rfl rfl rfl (by decide +kernel) ⟨Nat.le_of_ble_eq_true rfl, Nat.le_of_ble_eq_true rfl⟩) hK hP [4, 5, 6, 7, 8, 9, 10, 11, 12] rfl rfl rfl rfl rfl hl.1 (Nat.le_of_ble_eq_true rfl) dX6_bay_129 ⟨Nat.le_of_ble_eq_true rfl, Nat.le_of_ble_eq_true rfl⟩ (fun r_10 hr_10 => ?_)
      rcases (show Yes (g 8 k = 0) r_10 from hr_10) with ⟨rfl, h_11⟩ | ⟨rfl, h_11⟩
      · -- X0_isEmpty t
        refine if_eq_f (tgt := 140) hx hb (by decide) dX6_bay_132 (by decide) ?_
        refine lv_bipush (v := -9) hx hb dX6_bay_135 (by decide) ?_
        refine lv_goto (tgt := 152) hx hb dX6_bay_137 (by decide) ?_
        exact rd_iret (v := -9) hx hb hr hlocks dX6_bay_152 (Or.inl ⟨k, hk, hbk, Or.inr (Or.inr (Or.inr (Or.inr (Or.inr (Or.inl ⟨e_9, Or.inl ⟨h_11, rfl⟩⟩)))))⟩)
      · -- X0_isEmpty f
        refine if_eq_t (tgt := 140) hx hb rfl dX6_bay_132 (by decide) ?_
        refine lv_aload_n hx hb dX6_bay_140 rfl (lv_at hl 0 rfl) ?_
        refine va_get (D := D) (ci := 6) (v := .ref (a 0)) (C := RX6) (T := TX6) (N := 4) hx hb hts (by decide +kernel) hown hK.1 hP 0 rfl rfl 0 (by decide) (hts (.fieldLink RX6 10 "ParkingGarage" "now" "LParkingGarage$State;") (by decide +kernel)) (fun _ h9 => h9) rfl dX6_bay_141 ?_
        refine va_get (D := D) (ci := 3) (v := .ref (a 3)) (C := RX3) (T := TX3) (N := 8) hx hb hts (by decide +kernel) hown hK.1 hP 1 rfl rfl 4 (by decide) (hts (.fieldLink RX6 37 "ParkingGarage$State" "bays" "LParkingGarage$Bays;") (by decide +kernel)) (fun _ h9 => h9) rfl dX6_bay_144 ?_
        refine va_get (D := D) (ci := 0) (v := .ref (a 8)) (C := RX0) (T := TX0) (N := 9) hx hb hts (by decide +kernel) hown hK.1 hP 4 rfl rfl 5 (by decide) (hts (.fieldLink RX6 212 "ParkingGarage$Bays" "plates" "[I") (by decide +kernel)) (fun _ h9 => h9) rfl dX6_bay_147 ?_
        refine lv_iload_n hx hb dX6_bay_150 rfl (lv_at hl 1 rfl) ?_
        refine iald_n (f := g 8) hx hb hK.1 hP 9 0 rfl rfl (k) (rfl) (by omega) (by omega) dX6_bay_151 ?_
        exact rd_iret (v := (g 8) (k)) hx hb hr hlocks dX6_bay_152 (Or.inl ⟨k, hk, hbk, Or.inr (Or.inr (Or.inr (Or.inr (Or.inr (Or.inl ⟨e_9, Or.inr ⟨h_11, rfl⟩⟩)))))⟩)
    by_cases e_12 : wh = 6
    · -- case 6
      refine lv_tableIn (off := 136) (tgt := 153) hx hb dX6_bay_17 (by rw [e_12]; decide) (by rw [e_12]; decide) (by rw [e_12]; decide +kernel) (by decide) ?_
      refine lv_aload_n hx hb dX6_bay_153 rfl (lv_at hl 0 rfl) ?_
      refine va_get (D := D) (ci := 6) (v := .ref (a 0)) (C := RX6) (T := TX6) (N := 4) hx hb hts (by decide +kernel) hown hK.1 hP 0 rfl rfl 0 (by decide) (hts (.fieldLink RX6 10 "ParkingGarage" "now" "LParkingGarage$State;") (by decide +kernel)) (fun _ h9 => h9) rfl dX6_bay_154 ?_
      refine lv_iload_n hx hb dX6_bay_157 rfl (lv_at hl 1 rfl) ?_
      refine cv_i (As := [.int (nI k)]) (rest := []) (tys := TYS cI cC cB cS) (ci := 3) ⟨hx, hb, hml, hown, hts⟩ (c_X3_holder l D cI cC cB cS (a) (g) (q) (nI k) (hq) (hqc)) (cwV 1 hts gX6_bay_X3_holder rfl rfl rfl (by decide +kernel) ⟨Nat.le_of_ble_eq_true rfl, Nat.le_of_ble_eq_true rfl⟩) hK hP [1, 2, 3, 4, 5, 6, 7, 8, 9, 10, 11, 12, 13, 14, 15, 16, 17, 18, 19, 20, 21, 22, 23, 24, 25, 26, 27] rfl rfl rfl rfl rfl hl.1 (Nat.le_of_ble_eq_true rfl) dX6_bay_158 ⟨Nat.le_of_ble_eq_true rfl, Nat.le_of_ble_eq_true rfl⟩ (fun r_13 hr_13 => ?_)
      have hr_13 : Fst (fun w => HeldB (g 14) (g 18) (g 15) (g 16) (g 0 0) (g 0 0 + 1) (g 1 1) (nI k) w) q r_13 := hr_13
      exact rd_iret (v := r_13) hx hb hr hlocks dX6_bay_161 (Or.inl ⟨k, hk, hbk, Or.inr (Or.inr (Or.inr (Or.inr (Or.inr (Or.inr (Or.inl ⟨e_12, hr_13⟩))))))⟩)
    have hout : (wh).toInt < 0 ∨ 6 < (wh).toInt := by
      have z0 := lv_neT e_3 (show ((0 : Int32)).toInt = 0 from by decide)
      have z1 := lv_neT e_4 (show ((1 : Int32)).toInt = 1 from by decide)
      have z2 := lv_neT e_5 (show ((2 : Int32)).toInt = 2 from by decide)
      have z3 := lv_neT e_6 (show ((3 : Int32)).toInt = 3 from by decide)
      have z4 := lv_neT e_8 (show ((4 : Int32)).toInt = 4 from by decide)
      have z5 := lv_neT e_9 (show ((5 : Int32)).toInt = 5 from by decide)
      have z6 := lv_neT e_12 (show ((6 : Int32)).toInt = 6 from by decide)
      omega
    refine lv_tableOut (tgt := 162) hx hb dX6_bay_17 hout (by decide) ?_
    refine lv_iconst (v := -1) hx hb dX6_bay_162 (by decide) ?_
    exact rd_iret (v := -1) hx hb hr hlocks dX6_bay_163 (Or.inl ⟨k, hk, hbk, Or.inr (Or.inr (Or.inr (Or.inr (Or.inr (Or.inr (Or.inr (⟨hout, rfl⟩)))))))⟩)
  · -- X0_has f
    refine if_ne_f (tgt := 16) hx hb rfl dX6_bay_11 (by decide) ?_
    refine lv_iconst (v := -1) hx hb dX6_bay_14 (by decide) ?_
    exact rd_iret (v := -1) hx hb hr hlocks dX6_bay_15 (Or.inr ⟨h_2, rfl⟩)
set_option maxHeartbeats 4000000 in
set_option maxRecDepth 100000 in
theorem c_X6_reservation (l : Launch) (D : va_G) (cI cC cB cS : ClassId) (a : Nat → Nat) (g : Nat → Nat → Int32) (o : Nat) (d0 : Nat) (h0 : Nat) (x0 : Nat) (q : Nat) (x : Int32) (wh : Int32) (hq : g 12 0 = nI q) (hqc : q ≤ 16) : Met l yX6_reservation wsX6_reservation ({ frames := 1, cells := 0, slots := 0, locals := 21 } : Room) (rdPc D (TYS cI cC cB cS) [.ref (o), .int (x), .int (wh)] ([(o, oE 6 [.ref (a 0), .ref d0, .ref h0, .ref x0])] ++ wS cI a g)) (vp_Si (fun r => aRes g q x wh r)) 0 0 (fun _ => False) := by
  refine rd_intro (by decide) rfl (Nat.le_of_ble_eq_true rfl) ?_
  intro p e s m below meth c hx hb hr hml hts hown hlocks hP hK ls hl
  have hP : va_P D vwCl [(o, oE 6 [.ref (a 0), .ref (d0), .ref (h0), .ref (x0)]), (a 0, oE 3 [.int (g 0 0), .int (g 0 1), .ref (a 1), .ref (a 2), .ref (a 3), .ref (a 12), .ref (a 19), .ref (a 23)]), (a 1, iE cI 5 (g 1)), (a 2, iE cI 4 (g 2)), (a 3, oE 0 [.int (g 3 0), .ref (a 4), .ref (a 5), .ref (a 6), .ref (a 7), .ref (a 8), .ref (a 9), .ref (a 10), .ref (a 11)]), (a 4, iE cI 30 (g 4)), (a 5, iE cI 30 (g 5)), (a 6, iE cI 30 (g 6)), (a 7, iE cI 30 (g 7)), (a 8, iE cI 30 (g 8)), (a 9, iE cI 30 (g 9)), (a 10, iE cI 30 (g 10)), (a 11, iE cI 30 (g 11)), (a 12, oE 2 [.int (g 12 0), .ref (a 13), .ref (a 14), .ref (a 15), .ref (a 16), .ref (a 17), .ref (a 18)]), (a 13, iE cI 16 (g 13)), (a 14, iE cI 16 (g 14)), (a 15, iE cI 16 (g 15)), (a 16, iE cI 16 (g 16)), (a 17, iE cI 16 (g 17)), (a 18, iE cI 16 (g 18)), (a 19, oE 4 [.int (g 19 0), .ref (a 20), .ref (a 21), .ref (a 22)]), (a 20, iE cI 5 (g 20)), (a 21, iE cI 5 (g 21)), (a 22, iE cI 5 (g 22)), (a 23, oE 4 [.int (g 23 0), .ref (a 24), .ref (a 25), .ref (a 26)]), (a 24, iE cI 5 (g 24)), (a 25, iE cI 5 (g 25)), (a 26, iE cI 5 (g 26))] s.heap := hP
  have hown : s.vm.findClass RX6 = some m.cls := hown
  have hl : lv_has ls 3 [(0, .ref (o)), (1, .int (x)), (2, .int (wh))] := hl
  refine lv_aload_n hx hb dX6_reservation_0 rfl (lv_at hl 0 rfl) ?_
  refine va_get (D := D) (ci := 6) (v := .ref (a 0)) (C := RX6) (T := TX6) (N := 4) hx hb hts (by decide +kernel) hown hK.1 hP 0 rfl rfl 0 (by decide) (hts (.fieldLink RX6 10 "ParkingGarage" "now" "LParkingGarage$State;") (by decide +kernel)) (fun _ h9 => h9) rfl dX6_reservation_1 ?_
  refine va_get (D := D) (ci := 3) (v := .ref (a 12)) (C := RX3) (T := TX3) (N := 8) hx hb hts (by decide +kernel) hown hK.1 hP 1 rfl rfl 5 (by decide) (hts (.fieldLink RX6 128 "ParkingGarage$State" "reservations" "LParkingGarage$Reservations;") (by decide +kernel)) (fun _ h9 => h9) rfl dX6_reservation_4 ?_
  refine lv_iload_n hx hb dX6_reservation_7 rfl (lv_at hl 1 rfl) ?_
  refine cv_i (As := [.int (x)]) (rest := []) (tys := TYS cI cC cB cS) (ci := 2) ⟨hx, hb, hml, hown, hts⟩ (c_X2_has l D cI cC cB cS ((fun k => a (12 + k))) ((fun k => g (12 + k))) (q) (x) (hq) (hqc)) (cwV 1 hts gX6_reservation_X2_has rfl rfl rfl (by decide +kernel) ⟨Nat.le_of_ble_eq_true rfl, Nat.le_of_ble_eq_true rfl⟩) hK hP [13, 14, 15, 16, 17, 18, 19] rfl rfl rfl rfl rfl hl.1 (Nat.le_of_ble_eq_true rfl) dX6_reservation_8 ⟨Nat.le_of_ble_eq_true rfl, Nat.le_of_ble_eq_true rfl⟩ (fun r_1 hr_1 => ?_)
  rcases (show Yes (∃ w, w < q ∧ x = nI w) r_1 from hr_1) with ⟨rfl, h_2⟩ | ⟨rfl, h_2⟩
  · -- X2_has t
    obtain ⟨k, hk, hbk⟩ := h_2
    have hl : lv_has ls 3 [(0, .ref (o)), (1, .int (nI k)), (2, .int (wh))] := by rw [← hbk]; exact hl
    refine if_ne_t (tgt := 16) hx hb (by decide) dX6_reservation_11 (by decide) ?_
    refine lv_iload_n hx hb dX6_reservation_16 rfl (lv_at hl 2 rfl) ?_
    by_cases e_3 : wh = 0
    · -- case 0
      refine lv_tableIn (off := 39) (tgt := 56) hx hb dX6_reservation_17 (by rw [e_3]; decide) (by rw [e_3]; decide) (by rw [e_3]; decide +kernel) (by decide) ?_
      refine lv_aload_n hx hb dX6_reservation_56 rfl (lv_at hl 0 rfl) ?_
      refine va_get (D := D) (ci := 6) (v := .ref (a 0)) (C := RX6) (T := TX6) (N := 4) hx hb hts (by decide +kernel) hown hK.1 hP 0 rfl rfl 0 (by decide) (hts (.fieldLink RX6 10 "ParkingGarage" "now" "LParkingGarage$State;") (by decide +kernel)) (fun _ h9 => h9) rfl dX6_reservation_57 ?_
      refine va_get (D := D) (ci := 3) (v := .ref (a 12)) (C := RX3) (T := TX3) (N := 8) hx hb hts (by decide +kernel) hown hK.1 hP 1 rfl rfl 5 (by decide) (hts (.fieldLink RX6 128 "ParkingGarage$State" "reservations" "LParkingGarage$Reservations;") (by decide +kernel)) (fun _ h9 => h9) rfl dX6_reservation_60 ?_
      refine va_get (D := D) (ci := 2) (v := .ref (a 13)) (C := RX2) (T := TX2) (N := 7) hx hb hts (by decide +kernel) hown hK.1 hP 13 rfl rfl 1 (by decide) (hts (.fieldLink RX6 218 "ParkingGarage$Reservations" "plates" "[I") (by decide +kernel)) (fun _ h9 => h9) rfl dX6_reservation_63 ?_
      refine lv_iload_n hx hb dX6_reservation_66 rfl (lv_at hl 1 rfl) ?_
      refine iald_n (f := g 13) hx hb hK.1 hP 14 0 rfl rfl (k) (rfl) (by omega) (by omega) dX6_reservation_67 ?_
      exact rd_iret (v := (g 13) (k)) hx hb hr hlocks dX6_reservation_68 (Or.inl ⟨k, hk, hbk, Or.inl ⟨e_3, rfl⟩⟩)
    by_cases e_4 : wh = 1
    · -- case 1
      refine lv_tableIn (off := 52) (tgt := 69) hx hb dX6_reservation_17 (by rw [e_4]; decide) (by rw [e_4]; decide) (by rw [e_4]; decide +kernel) (by decide) ?_
      refine lv_aload_n hx hb dX6_reservation_69 rfl (lv_at hl 0 rfl) ?_
      refine va_get (D := D) (ci := 6) (v := .ref (a 0)) (C := RX6) (T := TX6) (N := 4) hx hb hts (by decide +kernel) hown hK.1 hP 0 rfl rfl 0 (by decide) (hts (.fieldLink RX6 10 "ParkingGarage" "now" "LParkingGarage$State;") (by decide +kernel)) (fun _ h9 => h9) rfl dX6_reservation_70 ?_
      refine va_get (D := D) (ci := 3) (v := .ref (a 12)) (C := RX3) (T := TX3) (N := 8) hx hb hts (by decide +kernel) hown hK.1 hP 1 rfl rfl 5 (by decide) (hts (.fieldLink RX6 128 "ParkingGarage$State" "reservations" "LParkingGarage$Reservations;") (by decide +kernel)) (fun _ h9 => h9) rfl dX6_reservation_73 ?_
      refine va_get (D := D) (ci := 2) (v := .ref (a 14)) (C := RX2) (T := TX2) (N := 7) hx hb hts (by decide +kernel) hown hK.1 hP 13 rfl rfl 2 (by decide) (hts (.fieldLink RX6 162 "ParkingGarage$Reservations" "bays" "[I") (by decide +kernel)) (fun _ h9 => h9) rfl dX6_reservation_76 ?_
      refine lv_iload_n hx hb dX6_reservation_79 rfl (lv_at hl 1 rfl) ?_
      refine iald_n (f := g 14) hx hb hK.1 hP 15 0 rfl rfl (k) (rfl) (by omega) (by omega) dX6_reservation_80 ?_
      exact rd_iret (v := (g 14) (k)) hx hb hr hlocks dX6_reservation_81 (Or.inl ⟨k, hk, hbk, Or.inr (Or.inl ⟨e_4, rfl⟩)⟩)
    by_cases e_5 : wh = 2
    · -- case 2
      refine lv_tableIn (off := 65) (tgt := 82) hx hb dX6_reservation_17 (by rw [e_5]; decide) (by rw [e_5]; decide) (by rw [e_5]; decide +kernel) (by decide) ?_
      refine lv_aload_n hx hb dX6_reservation_82 rfl (lv_at hl 0 rfl) ?_
      refine va_get (D := D) (ci := 6) (v := .ref (a 0)) (C := RX6) (T := TX6) (N := 4) hx hb hts (by decide +kernel) hown hK.1 hP 0 rfl rfl 0 (by decide) (hts (.fieldLink RX6 10 "ParkingGarage" "now" "LParkingGarage$State;") (by decide +kernel)) (fun _ h9 => h9) rfl dX6_reservation_83 ?_
      refine va_get (D := D) (ci := 3) (v := .ref (a 12)) (C := RX3) (T := TX3) (N := 8) hx hb hts (by decide +kernel) hown hK.1 hP 1 rfl rfl 5 (by decide) (hts (.fieldLink RX6 128 "ParkingGarage$State" "reservations" "LParkingGarage$Reservations;") (by decide +kernel)) (fun _ h9 => h9) rfl dX6_reservation_86 ?_
      refine va_get (D := D) (ci := 2) (v := .ref (a 15)) (C := RX2) (T := TX2) (N := 7) hx hb hts (by decide +kernel) hown hK.1 hP 13 rfl rfl 3 (by decide) (hts (.fieldLink RX6 149 "ParkingGarage$Reservations" "begins" "[I") (by decide +kernel)) (fun _ h9 => h9) rfl dX6_reservation_89 ?_
      refine lv_iload_n hx hb dX6_reservation_92 rfl (lv_at hl 1 rfl) ?_
      refine iald_n (f := g 15) hx hb hK.1 hP 16 0 rfl rfl (k) (rfl) (by omega) (by omega) dX6_reservation_93 ?_
      exact rd_iret (v := (g 15) (k)) hx hb hr hlocks dX6_reservation_94 (Or.inl ⟨k, hk, hbk, Or.inr (Or.inr (Or.inl ⟨e_5, rfl⟩))⟩)
    by_cases e_6 : wh = 3
    · -- case 3
      refine lv_tableIn (off := 78) (tgt := 95) hx hb dX6_reservation_17 (by rw [e_6]; decide) (by rw [e_6]; decide) (by rw [e_6]; decide +kernel) (by decide) ?_
      refine lv_aload_n hx hb dX6_reservation_95 rfl (lv_at hl 0 rfl) ?_
      refine va_get (D := D) (ci := 6) (v := .ref (a 0)) (C := RX6) (T := TX6) (N := 4) hx hb hts (by decide +kernel) hown hK.1 hP 0 rfl rfl 0 (by decide) (hts (.fieldLink RX6 10 "ParkingGarage" "now" "LParkingGarage$State;") (by decide +kernel)) (fun _ h9 => h9) rfl dX6_reservation_96 ?_
      refine va_get (D := D) (ci := 3) (v := .ref (a 12)) (C := RX3) (T := TX3) (N := 8) hx hb hts (by decide +kernel) hown hK.1 hP 1 rfl rfl 5 (by decide) (hts (.fieldLink RX6 128 "ParkingGarage$State" "reservations" "LParkingGarage$Reservations;") (by decide +kernel)) (fun _ h9 => h9) rfl dX6_reservation_99 ?_
      refine va_get (D := D) (ci := 2) (v := .ref (a 16)) (C := RX2) (T := TX2) (N := 7) hx hb hts (by decide +kernel) hown hK.1 hP 13 rfl rfl 4 (by decide) (hts (.fieldLink RX6 219 "ParkingGarage$Reservations" "ends" "[I") (by decide +kernel)) (fun _ h9 => h9) rfl dX6_reservation_102 ?_
      refine lv_iload_n hx hb dX6_reservation_105 rfl (lv_at hl 1 rfl) ?_
      refine iald_n (f := g 16) hx hb hK.1 hP 17 0 rfl rfl (k) (rfl) (by omega) (by omega) dX6_reservation_106 ?_
      exact rd_iret (v := (g 16) (k)) hx hb hr hlocks dX6_reservation_107 (Or.inl ⟨k, hk, hbk, Or.inr (Or.inr (Or.inr (Or.inl ⟨e_6, rfl⟩)))⟩)
    by_cases e_7 : wh = 4
    · -- case 4
      refine lv_tableIn (off := 91) (tgt := 108) hx hb dX6_reservation_17 (by rw [e_7]; decide) (by rw [e_7]; decide) (by rw [e_7]; decide +kernel) (by decide) ?_
      refine lv_aload_n hx hb dX6_reservation_108 rfl (lv_at hl 0 rfl) ?_
      refine va_get (D := D) (ci := 6) (v := .ref (a 0)) (C := RX6) (T := TX6) (N := 4) hx hb hts (by decide +kernel) hown hK.1 hP 0 rfl rfl 0 (by decide) (hts (.fieldLink RX6 10 "ParkingGarage" "now" "LParkingGarage$State;") (by decide +kernel)) (fun _ h9 => h9) rfl dX6_reservation_109 ?_
      refine va_get (D := D) (ci := 3) (v := .ref (a 12)) (C := RX3) (T := TX3) (N := 8) hx hb hts (by decide +kernel) hown hK.1 hP 1 rfl rfl 5 (by decide) (hts (.fieldLink RX6 128 "ParkingGarage$State" "reservations" "LParkingGarage$Reservations;") (by decide +kernel)) (fun _ h9 => h9) rfl dX6_reservation_112 ?_
      refine va_get (D := D) (ci := 2) (v := .ref (a 17)) (C := RX2) (T := TX2) (N := 7) hx hb hts (by decide +kernel) hown hK.1 hP 13 rfl rfl 5 (by decide) (hts (.fieldLink RX6 152 "ParkingGarage$Reservations" "prices" "[I") (by decide +kernel)) (fun _ h9 => h9) rfl dX6_reservation_115 ?_
      refine lv_iload_n hx hb dX6_reservation_118 rfl (lv_at hl 1 rfl) ?_
      refine iald_n (f := g 17) hx hb hK.1 hP 18 0 rfl rfl (k) (rfl) (by omega) (by omega) dX6_reservation_119 ?_
      exact rd_iret (v := (g 17) (k)) hx hb hr hlocks dX6_reservation_120 (Or.inl ⟨k, hk, hbk, Or.inr (Or.inr (Or.inr (Or.inr (Or.inl ⟨e_7, rfl⟩))))⟩)
    by_cases e_8 : wh = 5
    · -- case 5
      refine lv_tableIn (off := 104) (tgt := 121) hx hb dX6_reservation_17 (by rw [e_8]; decide) (by rw [e_8]; decide) (by rw [e_8]; decide +kernel) (by decide) ?_
      refine lv_aload_n hx hb dX6_reservation_121 rfl (lv_at hl 0 rfl) ?_
      refine va_get (D := D) (ci := 6) (v := .ref (a 0)) (C := RX6) (T := TX6) (N := 4) hx hb hts (by decide +kernel) hown hK.1 hP 0 rfl rfl 0 (by decide) (hts (.fieldLink RX6 10 "ParkingGarage" "now" "LParkingGarage$State;") (by decide +kernel)) (fun _ h9 => h9) rfl dX6_reservation_122 ?_
      refine va_get (D := D) (ci := 3) (v := .ref (a 12)) (C := RX3) (T := TX3) (N := 8) hx hb hts (by decide +kernel) hown hK.1 hP 1 rfl rfl 5 (by decide) (hts (.fieldLink RX6 128 "ParkingGarage$State" "reservations" "LParkingGarage$Reservations;") (by decide +kernel)) (fun _ h9 => h9) rfl dX6_reservation_125 ?_
      refine va_get (D := D) (ci := 2) (v := .ref (a 18)) (C := RX2) (T := TX2) (N := 7) hx hb hts (by decide +kernel) hown hK.1 hP 13 rfl rfl 6 (by decide) (hts (.fieldLink RX6 146 "ParkingGarage$Reservations" "states" "[I") (by decide +kernel)) (fun _ h9 => h9) rfl dX6_reservation_128 ?_
      refine lv_iload_n hx hb dX6_reservation_131 rfl (lv_at hl 1 rfl) ?_
      refine iald_n (f := g 18) hx hb hK.1 hP 19 0 rfl rfl (k) (rfl) (by omega) (by omega) dX6_reservation_132 ?_
      exact rd_iret (v := (g 18) (k)) hx hb hr hlocks dX6_reservation_133 (Or.inl ⟨k, hk, hbk, Or.inr (Or.inr (Or.inr (Or.inr (Or.inr (Or.inl ⟨e_8, rfl⟩)))))⟩)
    have hout : (wh).toInt < 0 ∨ 5 < (wh).toInt := by
      have z0 := lv_neT e_3 (show ((0 : Int32)).toInt = 0 from by decide)
      have z1 := lv_neT e_4 (show ((1 : Int32)).toInt = 1 from by decide)
      have z2 := lv_neT e_5 (show ((2 : Int32)).toInt = 2 from by decide)
      have z3 := lv_neT e_6 (show ((3 : Int32)).toInt = 3 from by decide)
      have z4 := lv_neT e_7 (show ((4 : Int32)).toInt = 4 from by decide)
      have z5 := lv_neT e_8 (show ((5 : Int32)).toInt = 5 from by decide)
      omega
    refine lv_tableOut (tgt := 134) hx hb dX6_reservation_17 hout (by decide) ?_
    refine lv_iconst (v := -1) hx hb dX6_reservation_134 (by decide) ?_
    exact rd_iret (v := -1) hx hb hr hlocks dX6_reservation_135 (Or.inl ⟨k, hk, hbk, Or.inr (Or.inr (Or.inr (Or.inr (Or.inr (Or.inr (⟨hout, rfl⟩))))))⟩)
  · -- X2_has f
    refine if_ne_f (tgt := 16) hx hb rfl dX6_reservation_11 (by decide) ?_
    refine lv_iconst (v := -1) hx hb dX6_reservation_14 (by decide) ?_
    exact rd_iret (v := -1) hx hb hr hlocks dX6_reservation_15 (Or.inr ⟨h_2, rfl⟩)
set_option maxHeartbeats 4000000 in
set_option maxRecDepth 100000 in
theorem c_X6_car (l : Launch) (D : va_G) (cI cC cB cS : ClassId) (a : Nat → Nat) (g : Nat → Nat → Int32) (o : Nat) (d0 : Nat) (h0 : Nat) (x0 : Nat) (n : Nat) (q : Nat) (tn : Nat) (tu : Nat) (pl : Int32) (wh : Int32) (hn : g 3 0 = nI n) (hnb : n ≤ 30) (hq : g 12 0 = nI q) (hqc : q ≤ 16) (ht : g 19 0 = nI tn) (htb : tn ≤ 5) (hts1 : Srt (g 20) tn) (hu : g 23 0 = nI tu) (hub : tu ≤ 5) (hus1 : Srt (g 24) tu) : Met l yX6_car wsX6_car ({ frames := 4, cells := 0, slots := 0, locals := 91 } : Room) (rdPc D (TYS cI cC cB cS) [.ref (o), .int (pl), .int (wh)] ([(o, oE 6 [.ref (a 0), .ref d0, .ref h0, .ref x0])] ++ wS cI a g)) (vp_Si (fun r => aCar g n q tn tu pl wh r)) 0 0 (fun _ => False) := by
  refine rd_intro (by decide) rfl (Nat.le_of_ble_eq_true rfl) ?_
  intro p e s m below meth c hx hb hr hml hts hown hlocks hP hK ls hl
  have hP : va_P D vwCl [(o, oE 6 [.ref (a 0), .ref (d0), .ref (h0), .ref (x0)]), (a 0, oE 3 [.int (g 0 0), .int (g 0 1), .ref (a 1), .ref (a 2), .ref (a 3), .ref (a 12), .ref (a 19), .ref (a 23)]), (a 1, iE cI 5 (g 1)), (a 2, iE cI 4 (g 2)), (a 3, oE 0 [.int (g 3 0), .ref (a 4), .ref (a 5), .ref (a 6), .ref (a 7), .ref (a 8), .ref (a 9), .ref (a 10), .ref (a 11)]), (a 4, iE cI 30 (g 4)), (a 5, iE cI 30 (g 5)), (a 6, iE cI 30 (g 6)), (a 7, iE cI 30 (g 7)), (a 8, iE cI 30 (g 8)), (a 9, iE cI 30 (g 9)), (a 10, iE cI 30 (g 10)), (a 11, iE cI 30 (g 11)), (a 12, oE 2 [.int (g 12 0), .ref (a 13), .ref (a 14), .ref (a 15), .ref (a 16), .ref (a 17), .ref (a 18)]), (a 13, iE cI 16 (g 13)), (a 14, iE cI 16 (g 14)), (a 15, iE cI 16 (g 15)), (a 16, iE cI 16 (g 16)), (a 17, iE cI 16 (g 17)), (a 18, iE cI 16 (g 18)), (a 19, oE 4 [.int (g 19 0), .ref (a 20), .ref (a 21), .ref (a 22)]), (a 20, iE cI 5 (g 20)), (a 21, iE cI 5 (g 21)), (a 22, iE cI 5 (g 22)), (a 23, oE 4 [.int (g 23 0), .ref (a 24), .ref (a 25), .ref (a 26)]), (a 24, iE cI 5 (g 24)), (a 25, iE cI 5 (g 25)), (a 26, iE cI 5 (g 26))] s.heap := hP
  have hown : s.vm.findClass RX6 = some m.cls := hown
  have hl : lv_has ls 4 [(0, .ref (o)), (1, .int (pl)), (2, .int (wh))] := hl
  refine lv_iload_n hx hb dX6_car_0 rfl (lv_at hl 1 rfl) ?_
  refine cs_i (As := [.int (pl)]) (rest := []) (tys := TYS cI cC cB cS) ⟨hx, hb, hml, hown, hts⟩ (c_X6_isPlate l D cI cC cB cS (pl)) (va_cwS 1 hts gX6_car_X6_isPlate rfl rfl rfl (by decide +kernel) ⟨Nat.le_of_ble_eq_true rfl, Nat.le_of_ble_eq_true rfl⟩) hK hP [] rfl rfl rfl hl.1 (Nat.le_of_ble_eq_true rfl) dX6_car_1 ⟨Nat.le_of_ble_eq_true rfl, Nat.le_of_ble_eq_true rfl⟩ (fun r_1 hr_1 => ?_)
  rcases (show Yes (1 ≤ pl ∧ pl ≤ 999) r_1 from hr_1) with ⟨rfl, h_2⟩ | ⟨rfl, h_2⟩
  · -- X6_isPlate t
    refine if_eq_f (tgt := 16) hx hb (by decide) dX6_car_4 (by decide) ?_
    refine lv_iload_n hx hb dX6_car_7 rfl (lv_at hl 2 rfl) ?_
    refine lv_iconst (v := 0) hx hb dX6_car_8 (by decide) ?_
    refine lv_iconst (v := 5) hx hb dX6_car_9 (by decide) ?_
    refine cs_i (As := [.int (wh), .int (0), .int (5)]) (rest := []) (tys := TYS cI cC cB cS) ⟨hx, hb, hml, hown, hts⟩ (c_X6_isWithin l D cI cC cB cS (wh) (0) (5)) (va_cwS 3 hts gX6_car_X6_isWithin rfl rfl rfl (by decide +kernel) ⟨Nat.le_of_ble_eq_true rfl, Nat.le_of_ble_eq_true rfl⟩) hK hP [] rfl rfl rfl hl.1 (Nat.le_of_ble_eq_true rfl) dX6_car_10 ⟨Nat.le_of_ble_eq_true rfl, Nat.le_of_ble_eq_true rfl⟩ (fun r_3 hr_3 => ?_)
    rcases (show Yes (0 ≤ wh ∧ wh ≤ 5) r_3 from hr_3) with ⟨rfl, h_4⟩ | ⟨rfl, h_4⟩
    · -- X6_isWithin t
      refine if_ne_t (tgt := 18) hx hb (by decide) dX6_car_13 (by decide) ?_
      refine lv_aload_n hx hb dX6_car_18 rfl (lv_at hl 0 rfl) ?_
      refine va_get (D := D) (ci := 6) (v := .ref (a 0)) (C := RX6) (T := TX6) (N := 4) hx hb hts (by decide +kernel) hown hK.1 hP 0 rfl rfl 0 (by decide) (hts (.fieldLink RX6 10 "ParkingGarage" "now" "LParkingGarage$State;") (by decide +kernel)) (fun _ h9 => h9) rfl dX6_car_19 ?_
      refine va_get (D := D) (ci := 3) (v := .ref (a 3)) (C := RX3) (T := TX3) (N := 8) hx hb hts (by decide +kernel) hown hK.1 hP 1 rfl rfl 4 (by decide) (hts (.fieldLink RX6 37 "ParkingGarage$State" "bays" "LParkingGarage$Bays;") (by decide +kernel)) (fun _ h9 => h9) rfl dX6_car_22 ?_
      refine lv_iload_n hx hb dX6_car_25 rfl (lv_at hl 1 rfl) ?_
      refine cv_i (As := [.int (pl)]) (rest := []) (tys := TYS cI cC cB cS) (ci := 0) ⟨hx, hb, hml, hown, hts⟩ (c_X0_withPlate l D cI cC cB cS ((fun k => a (3 + k))) ((fun k => g (3 + k))) (n) (pl) (hn) (hnb)) (cwV 1 hts gX6_car_X0_withPlate rfl rfl rfl (by decide +kernel) ⟨Nat.le_of_ble_eq_true rfl, Nat.le_of_ble_eq_true rfl⟩) hK hP [4, 5, 6, 7, 8, 9, 10, 11, 12] rfl rfl rfl rfl rfl hl.1 (Nat.le_of_ble_eq_true rfl) dX6_car_26 ⟨Nat.le_of_ble_eq_true rfl, Nat.le_of_ble_eq_true rfl⟩ (fun r_5 hr_5 => ?_)
      have hr_5 : Fst (fun w => g 8 w = pl) n r_5 := hr_5
      refine lv_istore_n (lv' := [(3, .int (r_5)), (0, .ref (o)), (1, .int (pl)), (2, .int (wh))]) hx hb dX6_car_29 rfl hl (by decide) rfl (fun ls hl => ?_)
      refine lv_aload_n hx hb dX6_car_30 rfl (lv_at hl 1 rfl) ?_
      refine va_get (D := D) (ci := 6) (v := .ref (a 0)) (C := RX6) (T := TX6) (N := 4) hx hb hts (by decide +kernel) hown hK.1 hP 0 rfl rfl 0 (by decide) (hts (.fieldLink RX6 10 "ParkingGarage" "now" "LParkingGarage$State;") (by decide +kernel)) (fun _ h9 => h9) rfl dX6_car_31 ?_
      refine va_get (D := D) (ci := 3) (v := .ref (a 3)) (C := RX3) (T := TX3) (N := 8) hx hb hts (by decide +kernel) hown hK.1 hP 1 rfl rfl 4 (by decide) (hts (.fieldLink RX6 37 "ParkingGarage$State" "bays" "LParkingGarage$Bays;") (by decide +kernel)) (fun _ h9 => h9) rfl dX6_car_34 ?_
      refine lv_iload_n hx hb dX6_car_37 rfl (lv_at hl 0 rfl) ?_
      refine cv_i (As := [.int (r_5)]) (rest := []) (tys := TYS cI cC cB cS) (ci := 0) ⟨hx, hb, hml, hown, hts⟩ (c_X0_has l D cI cC cB cS ((fun k => a (3 + k))) ((fun k => g (3 + k))) (n) (r_5) (hn) (hnb)) (cwV 1 hts gX6_car_X0_has rfl rfl rfl (by decide +kernel) ⟨Nat.le_of_ble_eq_true rfl, Nat.le_of_ble_eq_true rfl⟩) hK hP [4, 5, 6, 7, 8, 9, 10, 11, 12] rfl rfl rfl rfl rfl hl.1 (Nat.le_of_ble_eq_true rfl) dX6_car_38 ⟨Nat.le_of_ble_eq_true rfl, Nat.le_of_ble_eq_true rfl⟩ (fun r_6 hr_6 => ?_)
      rcases (show Yes (∃ w, w < n ∧ r_5 = nI w) r_6 from hr_6) with ⟨rfl, h_7⟩ | ⟨rfl, h_7⟩
      · -- X0_has t
        obtain ⟨k, hk, hbk, hPk, hNk⟩ := Fst.got (by omega) hr_5 h_7
        have hl : lv_has ls 4 [(3, .int (nI k)), (0, .ref (o)), (1, .int (pl)), (2, .int (wh))] := by rw [← hbk]; exact hl
        refine if_ne_t (tgt := 47) hx hb (by decide) dX6_car_41 (by decide) ?_
        refine lv_iload_n hx hb dX6_car_47 rfl (lv_at hl 3 rfl) ?_
        by_cases e_8 : wh = 0
        · -- case 0
          refine lv_tableIn (off := 36) (tgt := 84) hx hb dX6_car_48 (by rw [e_8]; decide) (by rw [e_8]; decide) (by rw [e_8]; decide +kernel) (by decide) ?_
          refine lv_aload_n hx hb dX6_car_84 rfl (lv_at hl 1 rfl) ?_
          refine va_get (D := D) (ci := 6) (v := .ref (a 0)) (C := RX6) (T := TX6) (N := 4) hx hb hts (by decide +kernel) hown hK.1 hP 0 rfl rfl 0 (by decide) (hts (.fieldLink RX6 10 "ParkingGarage" "now" "LParkingGarage$State;") (by decide +kernel)) (fun _ h9 => h9) rfl dX6_car_85 ?_
          refine va_get (D := D) (ci := 3) (v := .ref (a 3)) (C := RX3) (T := TX3) (N := 8) hx hb hts (by decide +kernel) hown hK.1 hP 1 rfl rfl 4 (by decide) (hts (.fieldLink RX6 37 "ParkingGarage$State" "bays" "LParkingGarage$Bays;") (by decide +kernel)) (fun _ h9 => h9) rfl dX6_car_88 ?_
          refine va_get (D := D) (ci := 0) (v := .ref (a 9)) (C := RX0) (T := TX0) (N := 9) hx hb hts (by decide +kernel) hown hK.1 hP 4 rfl rfl 6 (by decide) (hts (.fieldLink RX6 222 "ParkingGarage$Bays" "tickets" "[I") (by decide +kernel)) (fun _ h9 => h9) rfl dX6_car_91 ?_
          refine lv_iload_n hx hb dX6_car_94 rfl (lv_at hl 0 rfl) ?_
          refine iald_n (f := g 9) hx hb hK.1 hP 10 0 rfl rfl (k) (rfl) (by omega) (by omega) dX6_car_95 ?_
          exact rd_iret (v := (g 9) (k)) hx hb hr hlocks dX6_car_96 (Or.inl ⟨⟨h_2, h_4⟩, Or.inl ⟨k, hk, hPk, hNk, Or.inl ⟨e_8, rfl⟩⟩⟩)
        by_cases e_9 : wh = 1
        · -- case 1
          refine lv_tableIn (off := 49) (tgt := 97) hx hb dX6_car_48 (by rw [e_9]; decide) (by rw [e_9]; decide) (by rw [e_9]; decide +kernel) (by decide) ?_
          refine lv_aload_n hx hb dX6_car_97 rfl (lv_at hl 1 rfl) ?_
          refine va_get (D := D) (ci := 6) (v := .ref (a 0)) (C := RX6) (T := TX6) (N := 4) hx hb hts (by decide +kernel) hown hK.1 hP 0 rfl rfl 0 (by decide) (hts (.fieldLink RX6 10 "ParkingGarage" "now" "LParkingGarage$State;") (by decide +kernel)) (fun _ h9 => h9) rfl dX6_car_98 ?_
          refine va_get (D := D) (ci := 3) (v := .ref (a 3)) (C := RX3) (T := TX3) (N := 8) hx hb hts (by decide +kernel) hown hK.1 hP 1 rfl rfl 4 (by decide) (hts (.fieldLink RX6 37 "ParkingGarage$State" "bays" "LParkingGarage$Bays;") (by decide +kernel)) (fun _ h9 => h9) rfl dX6_car_101 ?_
          refine va_get (D := D) (ci := 0) (v := .ref (a 10)) (C := RX0) (T := TX0) (N := 9) hx hb hts (by decide +kernel) hown hK.1 hP 4 rfl rfl 7 (by decide) (hts (.fieldLink RX6 224 "ParkingGarage$Bays" "entries" "[I") (by decide +kernel)) (fun _ h9 => h9) rfl dX6_car_104 ?_
          refine lv_iload_n hx hb dX6_car_107 rfl (lv_at hl 0 rfl) ?_
          refine iald_n (f := g 10) hx hb hK.1 hP 11 0 rfl rfl (k) (rfl) (by omega) (by omega) dX6_car_108 ?_
          exact rd_iret (v := (g 10) (k)) hx hb hr hlocks dX6_car_109 (Or.inl ⟨⟨h_2, h_4⟩, Or.inl ⟨k, hk, hPk, hNk, Or.inr (Or.inl ⟨e_9, rfl⟩)⟩⟩)
        by_cases e_10 : wh = 2
        · -- case 2
          refine lv_tableIn (off := 62) (tgt := 110) hx hb dX6_car_48 (by rw [e_10]; decide) (by rw [e_10]; decide) (by rw [e_10]; decide +kernel) (by decide) ?_
          refine lv_iload_n hx hb dX6_car_110 rfl (lv_at hl 0 rfl) ?_
          exact rd_iret (v := nI k) hx hb hr hlocks dX6_car_111 (Or.inl ⟨⟨h_2, h_4⟩, Or.inl ⟨k, hk, hPk, hNk, Or.inr (Or.inr (Or.inl ⟨e_10, rfl⟩))⟩⟩)
        by_cases e_11 : wh = 3
        · -- case 3
          refine lv_tableIn (off := 64) (tgt := 112) hx hb dX6_car_48 (by rw [e_11]; decide) (by rw [e_11]; decide) (by rw [e_11]; decide +kernel) (by decide) ?_
          refine lv_aload_n hx hb dX6_car_112 rfl (lv_at hl 1 rfl) ?_
          refine va_get (D := D) (ci := 6) (v := .ref (a 0)) (C := RX6) (T := TX6) (N := 4) hx hb hts (by decide +kernel) hown hK.1 hP 0 rfl rfl 0 (by decide) (hts (.fieldLink RX6 10 "ParkingGarage" "now" "LParkingGarage$State;") (by decide +kernel)) (fun _ h9 => h9) rfl dX6_car_113 ?_
          refine va_get (D := D) (ci := 3) (v := .ref (a 3)) (C := RX3) (T := TX3) (N := 8) hx hb hts (by decide +kernel) hown hK.1 hP 1 rfl rfl 4 (by decide) (hts (.fieldLink RX6 37 "ParkingGarage$State" "bays" "LParkingGarage$Bays;") (by decide +kernel)) (fun _ h9 => h9) rfl dX6_car_116 ?_
          refine va_get (D := D) (ci := 0) (v := .ref (a 11)) (C := RX0) (T := TX0) (N := 9) hx hb hts (by decide +kernel) hown hK.1 hP 4 rfl rfl 8 (by decide) (hts (.fieldLink RX6 179 "ParkingGarage$Bays" "reservations" "[I") (by decide +kernel)) (fun _ h9 => h9) rfl dX6_car_119 ?_
          refine lv_iload_n hx hb dX6_car_122 rfl (lv_at hl 0 rfl) ?_
          refine iald_n (f := g 11) hx hb hK.1 hP 12 0 rfl rfl (k) (rfl) (by omega) (by omega) dX6_car_123 ?_
          exact rd_iret (v := (g 11) (k)) hx hb hr hlocks dX6_car_124 (Or.inl ⟨⟨h_2, h_4⟩, Or.inl ⟨k, hk, hPk, hNk, Or.inr (Or.inr (Or.inr (Or.inl ⟨e_11, rfl⟩)))⟩⟩)
        by_cases e_12 : wh = 4
        · -- case 4
          refine lv_tableIn (off := 77) (tgt := 125) hx hb dX6_car_48 (by rw [e_12]; decide) (by rw [e_12]; decide) (by rw [e_12]; decide +kernel) (by decide) ?_
          refine lv_aload_n hx hb dX6_car_125 rfl (lv_at hl 1 rfl) ?_
          refine va_get (D := D) (ci := 6) (v := .ref (a 0)) (C := RX6) (T := TX6) (N := 4) hx hb hts (by decide +kernel) hown hK.1 hP 0 rfl rfl 0 (by decide) (hts (.fieldLink RX6 10 "ParkingGarage" "now" "LParkingGarage$State;") (by decide +kernel)) (fun _ h9 => h9) rfl dX6_car_126 ?_
          refine lv_iload_n hx hb dX6_car_129 rfl (lv_at hl 0 rfl) ?_
          refine lv_aload_n hx hb dX6_car_130 rfl (lv_at hl 1 rfl) ?_
          refine va_get (D := D) (ci := 6) (v := .ref (a 0)) (C := RX6) (T := TX6) (N := 4) hx hb hts (by decide +kernel) hown hK.1 hP 0 rfl rfl 0 (by decide) (hts (.fieldLink RX6 10 "ParkingGarage" "now" "LParkingGarage$State;") (by decide +kernel)) (fun _ h9 => h9) rfl dX6_car_131 ?_
          refine va_get (D := D) (ci := 3) (v := .int (g 0 0)) (C := RX3) (T := TX3) (N := 8) hx hb hts (by decide +kernel) hown hK.1 hP 1 rfl rfl 0 (by decide) (hts (.fieldLink RX6 122 "ParkingGarage$State" "time" "I") (by decide +kernel)) (fun _ h9 => h9) rfl dX6_car_134 ?_
          refine cv_i (As := [.int (nI k), .int (g 0 0)]) (rest := []) (tys := TYS cI cC cB cS) (ci := 3) ⟨hx, hb, hml, hown, hts⟩ (c_X3_feeAt l D cI cC cB cS (a) (g) (n) (q) (tn) (tu) (k) (g 0 0) (hn) (hnb) (hq) (hqc) (ht) (htb) (hts1) (hu) (hub) (hus1) (hk)) (cwV 2 hts gX6_car_X3_feeAt rfl rfl rfl (by decide +kernel) ⟨Nat.le_of_ble_eq_true rfl, Nat.le_of_ble_eq_true rfl⟩) hK hP [1, 2, 3, 4, 5, 6, 7, 8, 9, 10, 11, 12, 13, 14, 15, 16, 17, 18, 19, 20, 21, 22, 23, 24, 25, 26, 27] rfl rfl rfl rfl rfl hl.1 (Nat.le_of_ble_eq_true rfl) dX6_car_137 ⟨Nat.le_of_ble_eq_true rfl, Nat.le_of_ble_eq_true rfl⟩ (fun r_13 hr_13 => ?_)
          have hr_13 : FeA q (g 11) (g 10) (g 16) (fun z => nF (g 1) (g 20) (g 21) (g 22) tn (z)) (fun z => tS (g 24) (g 25) (g 26) tu (z) tu) k (g 0 0) r_13 := hr_13
          exact rd_iret (v := r_13) hx hb hr hlocks dX6_car_140 (Or.inl ⟨⟨h_2, h_4⟩, Or.inl ⟨k, hk, hPk, hNk, Or.inr (Or.inr (Or.inr (Or.inr (Or.inl ⟨e_12, hr_13⟩))))⟩⟩)
        have hout : (wh).toInt < 0 ∨ 4 < (wh).toInt := by
          have z0 := lv_neT e_8 (show ((0 : Int32)).toInt = 0 from by decide)
          have z1 := lv_neT e_9 (show ((1 : Int32)).toInt = 1 from by decide)
          have z2 := lv_neT e_10 (show ((2 : Int32)).toInt = 2 from by decide)
          have z3 := lv_neT e_11 (show ((3 : Int32)).toInt = 3 from by decide)
          have z4 := lv_neT e_12 (show ((4 : Int32)).toInt = 4 from by decide)
          omega
        refine lv_tableOut (tgt := 141) hx hb dX6_car_48 hout (by decide) ?_
        refine lv_aload_n hx hb dX6_car_141 rfl (lv_at hl 1 rfl) ?_
        refine va_get (D := D) (ci := 6) (v := .ref (a 0)) (C := RX6) (T := TX6) (N := 4) hx hb hts (by decide +kernel) hown hK.1 hP 0 rfl rfl 0 (by decide) (hts (.fieldLink RX6 10 "ParkingGarage" "now" "LParkingGarage$State;") (by decide +kernel)) (fun _ h9 => h9) rfl dX6_car_142 ?_
        refine lv_iload_n hx hb dX6_car_145 rfl (lv_at hl 0 rfl) ?_
        refine cv_i (As := [.int (nI k)]) (rest := []) (tys := TYS cI cC cB cS) (ci := 3) ⟨hx, hb, hml, hown, hts⟩ (c_X3_lostFee l D cI cC cB cS (a) (g) (n) (tn) (k) (hn) (hnb) (ht) (htb) (hts1) (hk)) (cwV 1 hts gX6_car_X3_lostFee rfl rfl rfl (by decide +kernel) ⟨Nat.le_of_ble_eq_true rfl, Nat.le_of_ble_eq_true rfl⟩) hK hP [1, 2, 3, 4, 5, 6, 7, 8, 9, 10, 11, 12, 13, 14, 15, 16, 17, 18, 19, 20, 21, 22, 23, 24, 25, 26, 27] rfl rfl rfl rfl rfl hl.1 (Nat.le_of_ble_eq_true rfl) dX6_car_146 ⟨Nat.le_of_ble_eq_true rfl, Nat.le_of_ble_eq_true rfl⟩ (fun r_14 hr_14 => ?_)
        have hr_14 : r_14 = g 1 4 + nF (g 1) (g 20) (g 21) (g 22) tn (g 0 0 - (if g 10 k < g 0 0 - (g 0 0 - g 0 0 / 1440 * 1440) then g 10 k else g 0 0 - (g 0 0 - g 0 0 / 1440 * 1440))) := hr_14
        exact rd_iret (v := r_14) hx hb hr hlocks dX6_car_149 (Or.inl ⟨⟨h_2, h_4⟩, Or.inl ⟨k, hk, hPk, hNk, Or.inr (Or.inr (Or.inr (Or.inr (Or.inr (⟨hout, hr_14⟩)))))⟩⟩)
      · -- X0_has f
        refine if_ne_f (tgt := 47) hx hb rfl dX6_car_41 (by decide) ?_
        refine lv_bipush (v := -9) hx hb dX6_car_44 (by decide) ?_
        exact rd_iret (v := -9) hx hb hr hlocks dX6_car_46 (Or.inl ⟨⟨h_2, h_4⟩, Or.inr ⟨(Fst.not hr_5 h_7).2, rfl⟩⟩)
    · -- X6_isWithin f
      refine if_ne_f (tgt := 18) hx hb rfl dX6_car_13 (by decide) ?_
      refine lv_iconst (v := -1) hx hb dX6_car_16 (by decide) ?_
      exact rd_iret (v := -1) hx hb hr hlocks dX6_car_17 (Or.inr ⟨fun q => h_4 q.2, rfl⟩)
  · -- X6_isPlate f
    refine if_eq_t (tgt := 16) hx hb rfl dX6_car_4 (by decide) ?_
    refine lv_iconst (v := -1) hx hb dX6_car_16 (by decide) ?_
    exact rd_iret (v := -1) hx hb hr hlocks dX6_car_17 (Or.inr ⟨fun q => h_2 q.1, rfl⟩)
set_option maxHeartbeats 4000000 in
set_option maxRecDepth 100000 in
theorem c_X6_step (l : Launch) (D : va_G) (cI cC cB cS : ClassId) (a : Nat → Nat) (g : Nat → Nat → Int32) (o : Nat) (d0 : Nat) (h0 : Nat) (x0 : Nat) (tn : Nat) (tu : Nat) (t : Int32) (ix : Int32) (wh : Int32) (ht : g 19 0 = nI tn) (htb : tn ≤ 5) (hts1 : Srt (g 20) tn) (hu : g 23 0 = nI tu) (hub : tu ≤ 5) (hus1 : Srt (g 24) tu) : Met l yX6_step wsX6_step ({ frames := 1, cells := 0, slots := 0, locals := 22 } : Room) (rdPc D (TYS cI cC cB cS) [.ref (o), .int (t), .int (ix), .int (wh)] ([(o, oE 6 [.ref (a 0), .ref d0, .ref h0, .ref x0])] ++ wS cI a g)) (vp_Si (fun r => aStep g tn tu t ix wh r)) 0 0 (fun _ => False) := by
  refine rd_intro (by decide) rfl (Nat.le_of_ble_eq_true rfl) ?_
  intro p e s m below meth c hx hb hr hml hts hown hlocks hP hK ls hl
  have hP : va_P D vwCl [(o, oE 6 [.ref (a 0), .ref (d0), .ref (h0), .ref (x0)]), (a 0, oE 3 [.int (g 0 0), .int (g 0 1), .ref (a 1), .ref (a 2), .ref (a 3), .ref (a 12), .ref (a 19), .ref (a 23)]), (a 1, iE cI 5 (g 1)), (a 2, iE cI 4 (g 2)), (a 3, oE 0 [.int (g 3 0), .ref (a 4), .ref (a 5), .ref (a 6), .ref (a 7), .ref (a 8), .ref (a 9), .ref (a 10), .ref (a 11)]), (a 4, iE cI 30 (g 4)), (a 5, iE cI 30 (g 5)), (a 6, iE cI 30 (g 6)), (a 7, iE cI 30 (g 7)), (a 8, iE cI 30 (g 8)), (a 9, iE cI 30 (g 9)), (a 10, iE cI 30 (g 10)), (a 11, iE cI 30 (g 11)), (a 12, oE 2 [.int (g 12 0), .ref (a 13), .ref (a 14), .ref (a 15), .ref (a 16), .ref (a 17), .ref (a 18)]), (a 13, iE cI 16 (g 13)), (a 14, iE cI 16 (g 14)), (a 15, iE cI 16 (g 15)), (a 16, iE cI 16 (g 16)), (a 17, iE cI 16 (g 17)), (a 18, iE cI 16 (g 18)), (a 19, oE 4 [.int (g 19 0), .ref (a 20), .ref (a 21), .ref (a 22)]), (a 20, iE cI 5 (g 20)), (a 21, iE cI 5 (g 21)), (a 22, iE cI 5 (g 22)), (a 23, oE 4 [.int (g 23 0), .ref (a 24), .ref (a 25), .ref (a 26)]), (a 24, iE cI 5 (g 24)), (a 25, iE cI 5 (g 25)), (a 26, iE cI 5 (g 26))] s.heap := hP
  have hown : s.vm.findClass RX6 = some m.cls := hown
  have hl : lv_has ls 5 [(0, .ref (o)), (1, .int (t)), (2, .int (ix)), (3, .int (wh))] := hl
  refine lv_iload_n hx hb dX6_step_0 rfl (lv_at hl 1 rfl) ?_
  refine cs_i (As := [.int (t)]) (rest := []) (tys := TYS cI cC cB cS) ⟨hx, hb, hml, hown, hts⟩ (c_X6_isTariff l D cI cC cB cS (t)) (va_cwS 1 hts gX6_step_X6_isTariff rfl rfl rfl (by decide +kernel) ⟨Nat.le_of_ble_eq_true rfl, Nat.le_of_ble_eq_true rfl⟩) hK hP [] rfl rfl rfl hl.1 (Nat.le_of_ble_eq_true rfl) dX6_step_1 ⟨Nat.le_of_ble_eq_true rfl, Nat.le_of_ble_eq_true rfl⟩ (fun r_1 hr_1 => ?_)
  rcases (show Yes (t = 0 ∨ t = 1) r_1 from hr_1) with ⟨rfl, h_2⟩ | ⟨rfl, h_2⟩
  · -- X6_isTariff t
    refine if_eq_f (tgt := 20) hx hb (by decide) dX6_step_4 (by decide) ?_
    refine lv_iload_n hx hb dX6_step_7 rfl (lv_at hl 2 rfl) ?_
    refine lv_if_lt (tgt := 20) hx hb dX6_step_8 (by decide) (fun c_3 => ?_) (fun c_3 => ?_)
    · -- c_3: ix < 0
      refine lv_iconst (v := -1) hx hb dX6_step_20 (by decide) ?_
      exact rd_iret (v := -1) hx hb hr hlocks dX6_step_21 (Or.inr ⟨fun q => q.2.1 c_3, rfl⟩)
    · -- c_3: not ix < 0
      refine lv_iload_n hx hb dX6_step_11 rfl (lv_at hl 3 rfl) ?_
      refine lv_iconst (v := 0) hx hb dX6_step_12 (by decide) ?_
      refine lv_iconst (v := 2) hx hb dX6_step_13 (by decide) ?_
      refine cs_i (As := [.int (wh), .int (0), .int (2)]) (rest := []) (tys := TYS cI cC cB cS) ⟨hx, hb, hml, hown, hts⟩ (c_X6_isWithin l D cI cC cB cS (wh) (0) (2)) (va_cwS 3 hts gX6_step_X6_isWithin rfl rfl rfl (by decide +kernel) ⟨Nat.le_of_ble_eq_true rfl, Nat.le_of_ble_eq_true rfl⟩) hK hP [] rfl rfl rfl hl.1 (Nat.le_of_ble_eq_true rfl) dX6_step_14 ⟨Nat.le_of_ble_eq_true rfl, Nat.le_of_ble_eq_true rfl⟩ (fun r_4 hr_4 => ?_)
      rcases (show Yes (0 ≤ wh ∧ wh ≤ 2) r_4 from hr_4) with ⟨rfl, h_5⟩ | ⟨rfl, h_5⟩
      · -- X6_isWithin t
        refine if_ne_t (tgt := 22) hx hb (by decide) dX6_step_17 (by decide) ?_
        refine lv_aload_n hx hb dX6_step_22 rfl (lv_at hl 0 rfl) ?_
        refine va_get (D := D) (ci := 6) (v := .ref (a 0)) (C := RX6) (T := TX6) (N := 4) hx hb hts (by decide +kernel) hown hK.1 hP 0 rfl rfl 0 (by decide) (hts (.fieldLink RX6 10 "ParkingGarage" "now" "LParkingGarage$State;") (by decide +kernel)) (fun _ h9 => h9) rfl dX6_step_23 ?_
        refine lv_iload_n hx hb dX6_step_26 rfl (lv_at hl 1 rfl) ?_
        refine cv_r (As := [.int (t)]) (rest := []) (tys := TYS cI cC cB cS) (ci := 3) ⟨hx, hb, hml, hown, hts⟩ (c_X3_tariff l D cI cC cB cS (a) (g) (t)) (cwV 1 hts gX6_step_X3_tariff rfl rfl rfl (by decide +kernel) ⟨Nat.le_of_ble_eq_true rfl, Nat.le_of_ble_eq_true rfl⟩) hK hP [1, 2, 3, 4, 5, 6, 7, 8, 9, 10, 11, 12, 13, 14, 15, 16, 17, 18, 19, 20, 21, 22, 23, 24, 25, 26, 27] rfl rfl rfl rfl rfl hl.1 (Nat.le_of_ble_eq_true rfl) dX6_step_27 ⟨Nat.le_of_ble_eq_true rfl, Nat.le_of_ble_eq_true rfl⟩ (fun k_6 hk_6 => ?_)
        rcases hk_6 with ⟨h_7, rfl⟩ | ⟨h_8, rfl⟩
        · -- X3_tariff 0
          refine lv_astore (lv' := [(4, .ref (a 19)), (0, .ref (o)), (1, .int (t)), (2, .int (ix)), (3, .int (wh))]) hx hb dX6_step_30 hl (by decide) rfl (fun ls hl => ?_)
          refine lv_iload_n hx hb dX6_step_32 rfl (lv_at hl 3 rfl) ?_
          refine lv_aload hx hb dX6_step_33 (lv_at hl 0 rfl) ?_
          refine va_get (D := D) (ci := 4) (v := .int (g 19 0)) (C := RX4) (T := TX4) (N := 4) hx hb hts (by decide +kernel) hown hK.1 hP 20 rfl rfl 0 (by decide) (hts (.fieldLink RX6 81 "ParkingGarage$Tariff" "number" "I") (by decide +kernel)) (fun _ h9 => h9) rfl dX6_step_35 ?_
          refine lv_icmp_lt (tgt := 44) hx hb dX6_step_38 (by decide) (fun c_9 => ?_) (fun c_9 => ?_)
          · -- c_9: ix < g 19 0
            obtain ⟨k, hk, hixk⟩ := ix_of ht (by omega) c_3 (Int32.not_le.mpr c_9)
            refine lv_iload_n hx hb dX6_step_44 rfl (lv_at hl 4 rfl) ?_
            by_cases e_10 : wh = 0
            · -- case 0
              refine lv_lookup (off := 27) (tgt := 72) hx hb dX6_step_45 (by decide) (by rw [e_10]; decide +kernel) (by decide) ?_
              refine lv_aload hx hb dX6_step_72 (lv_at hl 0 rfl) ?_
              refine va_get (D := D) (ci := 4) (v := .ref (a 20)) (C := RX4) (T := TX4) (N := 4) hx hb hts (by decide +kernel) hown hK.1 hP 20 rfl rfl 1 (by decide) (hts (.fieldLink RX6 227 "ParkingGarage$Tariff" "starts" "[I") (by decide +kernel)) (fun _ h9 => h9) rfl dX6_step_74 ?_
              refine lv_iload_n hx hb dX6_step_77 rfl (lv_at hl 3 rfl) ?_
              refine iald_n (f := g 20) hx hb hK.1 hP 21 0 rfl rfl (k) (hixk) (by omega) (by omega) dX6_step_78 ?_
              exact rd_iret (v := (g 20) (k)) hx hb hr hlocks dX6_step_79 (Or.inl ⟨⟨h_2, c_3, h_5⟩, Or.inl ⟨h_7, Or.inl ⟨k, hk, hixk, Or.inl ⟨e_10, rfl⟩⟩⟩⟩)
            by_cases e_11 : wh = 1
            · -- case 1
              refine lv_lookup (off := 35) (tgt := 80) hx hb dX6_step_45 (by decide) (by rw [e_11]; decide +kernel) (by decide) ?_
              refine lv_aload hx hb dX6_step_80 (lv_at hl 0 rfl) ?_
              refine va_get (D := D) (ci := 4) (v := .ref (a 21)) (C := RX4) (T := TX4) (N := 4) hx hb hts (by decide +kernel) hown hK.1 hP 20 rfl rfl 2 (by decide) (hts (.fieldLink RX6 230 "ParkingGarage$Tariff" "units" "[I") (by decide +kernel)) (fun _ h9 => h9) rfl dX6_step_82 ?_
              refine lv_iload_n hx hb dX6_step_85 rfl (lv_at hl 3 rfl) ?_
              refine iald_n (f := g 21) hx hb hK.1 hP 22 0 rfl rfl (k) (hixk) (by omega) (by omega) dX6_step_86 ?_
              exact rd_iret (v := (g 21) (k)) hx hb hr hlocks dX6_step_87 (Or.inl ⟨⟨h_2, c_3, h_5⟩, Or.inl ⟨h_7, Or.inl ⟨k, hk, hixk, Or.inr (Or.inl ⟨e_11, rfl⟩)⟩⟩⟩)
            refine lv_lookup (off := 43) (tgt := 88) hx hb dX6_step_45 (by decide) ((lv_osw e_10 (show ((0 : Int32)).toInt = 0 from by decide)).trans ((lv_osw e_11 (show ((1 : Int32)).toInt = 1 from by decide)).trans rfl)) (by decide) ?_
            refine lv_aload hx hb dX6_step_88 (lv_at hl 0 rfl) ?_
            refine va_get (D := D) (ci := 4) (v := .ref (a 22)) (C := RX4) (T := TX4) (N := 4) hx hb hts (by decide +kernel) hown hK.1 hP 20 rfl rfl 3 (by decide) (hts (.fieldLink RX6 233 "ParkingGarage$Tariff" "prices" "[I") (by decide +kernel)) (fun _ h9 => h9) rfl dX6_step_90 ?_
            refine lv_iload_n hx hb dX6_step_93 rfl (lv_at hl 3 rfl) ?_
            refine iald_n (f := g 22) hx hb hK.1 hP 23 0 rfl rfl (k) (hixk) (by omega) (by omega) dX6_step_94 ?_
            exact rd_iret (v := (g 22) (k)) hx hb hr hlocks dX6_step_95 (Or.inl ⟨⟨h_2, c_3, h_5⟩, Or.inl ⟨h_7, Or.inl ⟨k, hk, hixk, Or.inr (Or.inr (⟨⟨e_10, e_11⟩, rfl⟩))⟩⟩⟩)
          · -- c_9: not ix < g 19 0
            refine lv_bipush (v := -9) hx hb dX6_step_41 (by decide) ?_
            exact rd_iret (v := -9) hx hb hr hlocks dX6_step_43 (Or.inl ⟨⟨h_2, c_3, h_5⟩, Or.inl ⟨h_7, Or.inr ⟨ix_big ht (by omega) (Int32.not_lt.mp c_9), rfl⟩⟩⟩)
        · -- X3_tariff 1
          refine lv_astore (lv' := [(4, .ref (a 23)), (0, .ref (o)), (1, .int (t)), (2, .int (ix)), (3, .int (wh))]) hx hb dX6_step_30 hl (by decide) rfl (fun ls hl => ?_)
          refine lv_iload_n hx hb dX6_step_32 rfl (lv_at hl 3 rfl) ?_
          refine lv_aload hx hb dX6_step_33 (lv_at hl 0 rfl) ?_
          refine va_get (D := D) (ci := 4) (v := .int (g 23 0)) (C := RX4) (T := TX4) (N := 4) hx hb hts (by decide +kernel) hown hK.1 hP 24 rfl rfl 0 (by decide) (hts (.fieldLink RX6 81 "ParkingGarage$Tariff" "number" "I") (by decide +kernel)) (fun _ h9 => h9) rfl dX6_step_35 ?_
          refine lv_icmp_lt (tgt := 44) hx hb dX6_step_38 (by decide) (fun c_12 => ?_) (fun c_12 => ?_)
          · -- c_12: ix < g 23 0
            obtain ⟨k, hk, hixk⟩ := ix_of hu (by omega) c_3 (Int32.not_le.mpr c_12)
            refine lv_iload_n hx hb dX6_step_44 rfl (lv_at hl 4 rfl) ?_
            by_cases e_13 : wh = 0
            · -- case 0
              refine lv_lookup (off := 27) (tgt := 72) hx hb dX6_step_45 (by decide) (by rw [e_13]; decide +kernel) (by decide) ?_
              refine lv_aload hx hb dX6_step_72 (lv_at hl 0 rfl) ?_
              refine va_get (D := D) (ci := 4) (v := .ref (a 24)) (C := RX4) (T := TX4) (N := 4) hx hb hts (by decide +kernel) hown hK.1 hP 24 rfl rfl 1 (by decide) (hts (.fieldLink RX6 227 "ParkingGarage$Tariff" "starts" "[I") (by decide +kernel)) (fun _ h9 => h9) rfl dX6_step_74 ?_
              refine lv_iload_n hx hb dX6_step_77 rfl (lv_at hl 3 rfl) ?_
              refine iald_n (f := g 24) hx hb hK.1 hP 25 0 rfl rfl (k) (hixk) (by omega) (by omega) dX6_step_78 ?_
              exact rd_iret (v := (g 24) (k)) hx hb hr hlocks dX6_step_79 (Or.inl ⟨⟨h_2, c_3, h_5⟩, Or.inr ⟨h_8, Or.inl ⟨k, hk, hixk, Or.inl ⟨e_13, rfl⟩⟩⟩⟩)
            by_cases e_14 : wh = 1
            · -- case 1
              refine lv_lookup (off := 35) (tgt := 80) hx hb dX6_step_45 (by decide) (by rw [e_14]; decide +kernel) (by decide) ?_
              refine lv_aload hx hb dX6_step_80 (lv_at hl 0 rfl) ?_
              refine va_get (D := D) (ci := 4) (v := .ref (a 25)) (C := RX4) (T := TX4) (N := 4) hx hb hts (by decide +kernel) hown hK.1 hP 24 rfl rfl 2 (by decide) (hts (.fieldLink RX6 230 "ParkingGarage$Tariff" "units" "[I") (by decide +kernel)) (fun _ h9 => h9) rfl dX6_step_82 ?_
              refine lv_iload_n hx hb dX6_step_85 rfl (lv_at hl 3 rfl) ?_
              refine iald_n (f := g 25) hx hb hK.1 hP 26 0 rfl rfl (k) (hixk) (by omega) (by omega) dX6_step_86 ?_
              exact rd_iret (v := (g 25) (k)) hx hb hr hlocks dX6_step_87 (Or.inl ⟨⟨h_2, c_3, h_5⟩, Or.inr ⟨h_8, Or.inl ⟨k, hk, hixk, Or.inr (Or.inl ⟨e_14, rfl⟩)⟩⟩⟩)
            refine lv_lookup (off := 43) (tgt := 88) hx hb dX6_step_45 (by decide) ((lv_osw e_13 (show ((0 : Int32)).toInt = 0 from by decide)).trans ((lv_osw e_14 (show ((1 : Int32)).toInt = 1 from by decide)).trans rfl)) (by decide) ?_
            refine lv_aload hx hb dX6_step_88 (lv_at hl 0 rfl) ?_
            refine va_get (D := D) (ci := 4) (v := .ref (a 26)) (C := RX4) (T := TX4) (N := 4) hx hb hts (by decide +kernel) hown hK.1 hP 24 rfl rfl 3 (by decide) (hts (.fieldLink RX6 233 "ParkingGarage$Tariff" "prices" "[I") (by decide +kernel)) (fun _ h9 => h9) rfl dX6_step_90 ?_
            refine lv_iload_n hx hb dX6_step_93 rfl (lv_at hl 3 rfl) ?_
            refine iald_n (f := g 26) hx hb hK.1 hP 27 0 rfl rfl (k) (hixk) (by omega) (by omega) dX6_step_94 ?_
            exact rd_iret (v := (g 26) (k)) hx hb hr hlocks dX6_step_95 (Or.inl ⟨⟨h_2, c_3, h_5⟩, Or.inr ⟨h_8, Or.inl ⟨k, hk, hixk, Or.inr (Or.inr (⟨⟨e_13, e_14⟩, rfl⟩))⟩⟩⟩)
          · -- c_12: not ix < g 23 0
            refine lv_bipush (v := -9) hx hb dX6_step_41 (by decide) ?_
            exact rd_iret (v := -9) hx hb hr hlocks dX6_step_43 (Or.inl ⟨⟨h_2, c_3, h_5⟩, Or.inr ⟨h_8, Or.inr ⟨ix_big hu (by omega) (Int32.not_lt.mp c_12), rfl⟩⟩⟩)
      · -- X6_isWithin f
        refine if_ne_f (tgt := 22) hx hb rfl dX6_step_17 (by decide) ?_
        refine lv_iconst (v := -1) hx hb dX6_step_20 (by decide) ?_
        exact rd_iret (v := -1) hx hb hr hlocks dX6_step_21 (Or.inr ⟨fun q => h_5 q.2.2, rfl⟩)
  · -- X6_isTariff f
    refine if_eq_t (tgt := 20) hx hb rfl dX6_step_4 (by decide) ?_
    refine lv_iconst (v := -1) hx hb dX6_step_20 (by decide) ?_
    exact rd_iret (v := -1) hx hb hr hlocks dX6_step_21 (Or.inr ⟨fun q => h_2 q.1, rfl⟩)
set_option maxHeartbeats 4000000 in
set_option maxRecDepth 100000 in
theorem c_X6_account (l : Launch) (D : va_G) (cI cC cB cS : ClassId) (a : Nat → Nat) (g : Nat → Nat → Int32) (o : Nat) (d0 : Nat) (h0 : Nat) (x0 : Nat) (x : Int32) : Met l yX6_account wsX6_account ({ frames := 1, cells := 0, slots := 0, locals := 25 } : Room) (rdPc D (TYS cI cC cB cS) [.ref (o), .int (x)] ([(o, oE 6 [.ref (a 0), .ref d0, .ref h0, .ref x0])] ++ wS cI a g)) (vp_Si (fun r => aAcc g x r)) 0 0 (fun _ => False) := by
  refine rd_intro (by decide) rfl (Nat.le_of_ble_eq_true rfl) ?_
  intro p e s m below meth c hx hb hr hml hts hown hlocks hP hK ls hl
  have hP : va_P D vwCl [(o, oE 6 [.ref (a 0), .ref (d0), .ref (h0), .ref (x0)]), (a 0, oE 3 [.int (g 0 0), .int (g 0 1), .ref (a 1), .ref (a 2), .ref (a 3), .ref (a 12), .ref (a 19), .ref (a 23)]), (a 1, iE cI 5 (g 1)), (a 2, iE cI 4 (g 2)), (a 3, oE 0 [.int (g 3 0), .ref (a 4), .ref (a 5), .ref (a 6), .ref (a 7), .ref (a 8), .ref (a 9), .ref (a 10), .ref (a 11)]), (a 4, iE cI 30 (g 4)), (a 5, iE cI 30 (g 5)), (a 6, iE cI 30 (g 6)), (a 7, iE cI 30 (g 7)), (a 8, iE cI 30 (g 8)), (a 9, iE cI 30 (g 9)), (a 10, iE cI 30 (g 10)), (a 11, iE cI 30 (g 11)), (a 12, oE 2 [.int (g 12 0), .ref (a 13), .ref (a 14), .ref (a 15), .ref (a 16), .ref (a 17), .ref (a 18)]), (a 13, iE cI 16 (g 13)), (a 14, iE cI 16 (g 14)), (a 15, iE cI 16 (g 15)), (a 16, iE cI 16 (g 16)), (a 17, iE cI 16 (g 17)), (a 18, iE cI 16 (g 18)), (a 19, oE 4 [.int (g 19 0), .ref (a 20), .ref (a 21), .ref (a 22)]), (a 20, iE cI 5 (g 20)), (a 21, iE cI 5 (g 21)), (a 22, iE cI 5 (g 22)), (a 23, oE 4 [.int (g 23 0), .ref (a 24), .ref (a 25), .ref (a 26)]), (a 24, iE cI 5 (g 24)), (a 25, iE cI 5 (g 25)), (a 26, iE cI 5 (g 26))] s.heap := hP
  have hown : s.vm.findClass RX6 = some m.cls := hown
  have hl : lv_has ls 2 [(0, .ref (o)), (1, .int (x))] := hl
  refine lv_iload_n hx hb dX6_account_0 rfl (lv_at hl 1 rfl) ?_
  refine lv_iconst (v := -1) hx hb dX6_account_1 (by decide) ?_
  refine lv_iconst (v := 3) hx hb dX6_account_2 (by decide) ?_
  refine cs_i (As := [.int (x), .int (-1), .int (3)]) (rest := []) (tys := TYS cI cC cB cS) ⟨hx, hb, hml, hown, hts⟩ (c_X6_isWithin l D cI cC cB cS (x) (-1) (3)) (va_cwS 3 hts gX6_account_X6_isWithin rfl rfl rfl (by decide +kernel) ⟨Nat.le_of_ble_eq_true rfl, Nat.le_of_ble_eq_true rfl⟩) hK hP [] rfl rfl rfl hl.1 (Nat.le_of_ble_eq_true rfl) dX6_account_3 ⟨Nat.le_of_ble_eq_true rfl, Nat.le_of_ble_eq_true rfl⟩ (fun r_1 hr_1 => ?_)
  rcases (show Yes (-1 ≤ x ∧ x ≤ 3) r_1 from hr_1) with ⟨rfl, h_2⟩ | ⟨rfl, h_2⟩
  · -- X6_isWithin t
    refine if_ne_t (tgt := 11) hx hb (by decide) dX6_account_6 (by decide) ?_
    refine lv_iload_n hx hb dX6_account_11 rfl (lv_at hl 1 rfl) ?_
    refine lv_if_ge (tgt := 25) hx hb dX6_account_12 (by decide) (fun c_3 => ?_) (fun c_3 => ?_)
    · -- c_3: x ≥ 0
      obtain ⟨k, hk, hxk⟩ := ix_of (y := 4) (n := 4) rfl (by omega) (Int32.not_lt.mpr c_3) (fun z => absurd (Int32.le_trans z h_2.2) (by decide))
      refine lv_aload_n hx hb dX6_account_25 rfl (lv_at hl 0 rfl) ?_
      refine va_get (D := D) (ci := 6) (v := .ref (a 0)) (C := RX6) (T := TX6) (N := 4) hx hb hts (by decide +kernel) hown hK.1 hP 0 rfl rfl 0 (by decide) (hts (.fieldLink RX6 10 "ParkingGarage" "now" "LParkingGarage$State;") (by decide +kernel)) (fun _ h9 => h9) rfl dX6_account_26 ?_
      refine va_get (D := D) (ci := 3) (v := .ref (a 2)) (C := RX3) (T := TX3) (N := 8) hx hb hts (by decide +kernel) hown hK.1 hP 1 rfl rfl 3 (by decide) (hts (.fieldLink RX6 139 "ParkingGarage$State" "accounts" "[I") (by decide +kernel)) (fun _ h9 => h9) rfl dX6_account_29 ?_
      refine lv_iload_n hx hb dX6_account_32 rfl (lv_at hl 1 rfl) ?_
      refine iald_n (f := g 2) hx hb hK.1 hP 3 0 rfl rfl (k) (hxk) (by omega) (by omega) dX6_account_33 ?_
      exact rd_iret (v := (g 2) (k)) hx hb hr hlocks dX6_account_34 (Or.inl ⟨h_2, Or.inr ⟨Int32.not_lt.mpr c_3, k, hk, hxk, rfl⟩⟩)
    · -- c_3: not x ≥ 0
      refine lv_aload_n hx hb dX6_account_15 rfl (lv_at hl 0 rfl) ?_
      refine va_get (D := D) (ci := 6) (v := .ref (a 0)) (C := RX6) (T := TX6) (N := 4) hx hb hts (by decide +kernel) hown hK.1 hP 0 rfl rfl 0 (by decide) (hts (.fieldLink RX6 10 "ParkingGarage" "now" "LParkingGarage$State;") (by decide +kernel)) (fun _ h9 => h9) rfl dX6_account_16 ?_
      refine cv_i (As := []) (rest := []) (tys := TYS cI cC cB cS) (ci := 3) ⟨hx, hb, hml, hown, hts⟩ (c_X3_sumOfAccounts l D cI cC cB cS (a) (g)) (cwV 0 hts gX6_account_X3_sumOfAccounts rfl rfl rfl (by decide +kernel) ⟨Nat.le_of_ble_eq_true rfl, Nat.le_of_ble_eq_true rfl⟩) hK hP [1, 2, 3, 4, 5, 6, 7, 8, 9, 10, 11, 12, 13, 14, 15, 16, 17, 18, 19, 20, 21, 22, 23, 24, 25, 26, 27] rfl rfl rfl rfl rfl hl.1 (Nat.le_of_ble_eq_true rfl) dX6_account_19 ⟨Nat.le_of_ble_eq_true rfl, Nat.le_of_ble_eq_true rfl⟩ (fun r_4 hr_4 => ?_)
      have hr_4 : r_4 = 0 + g 2 0 + g 2 1 + g 2 2 + g 2 3 := hr_4
      refine lv_goto (tgt := 34) hx hb dX6_account_22 (by decide) ?_
      exact rd_iret (v := r_4) hx hb hr hlocks dX6_account_34 (Or.inl ⟨h_2, Or.inl ⟨Int32.not_le.mp c_3, hr_4⟩⟩)
  · -- X6_isWithin f
    refine if_ne_f (tgt := 11) hx hb rfl dX6_account_6 (by decide) ?_
    refine lv_iconst (v := -1) hx hb dX6_account_9 (by decide) ?_
    exact rd_iret (v := -1) hx hb hr hlocks dX6_account_10 (Or.inr ⟨fun q => h_2 q, rfl⟩)
set_option maxHeartbeats 4000000 in
set_option maxRecDepth 100000 in
theorem c_X6_count (l : Launch) (D : va_G) (cI cC cB cS : ClassId) (a : Nat → Nat) (g : Nat → Nat → Int32) (o : Nat) (d0 : Nat) (h0 : Nat) (x0 : Nat) (n : Nat) (q : Nat) (tl : Int32) (x1 : Nat) (tk : Int32) (ts : Int32) (te : Int32) (np : Nat) (h1 : Nat) (x : Int32) (hn : g 3 0 = nI n) (hnb : n ≤ 30) (hq : g 12 0 = nI q) (hqc : q ≤ 16) : Met l yX6_count wsX6_count ({ frames := 3, cells := 0, slots := 0, locals := 64 } : Room) (rdPc D (TYS cI cC cB cS) [.ref (o), .int (x)] ([(o, oE 6 [.ref (a 0), .ref (d0), .ref (h0), .ref (x0)]), (x0, oE 5 [.int (tl), .ref (x1), .int (tk), .int (ts), .int (te)]), (h0, oE 1 [.int (nI np), .ref (h1)])] ++ wS cI a g)) (vp_Si (fun r => aCount g n q tl np x r)) 0 0 (fun _ => False) := by
  refine rd_intro (by decide) rfl (Nat.le_of_ble_eq_true rfl) ?_
  intro p e s m below meth c hx hb hr hml hts hown hlocks hP hK ls hl
  have hP : va_P D vwCl [(o, oE 6 [.ref (a 0), .ref (d0), .ref (h0), .ref (x0)]), (x0, oE 5 [.int (tl), .ref (x1), .int (tk), .int (ts), .int (te)]), (h0, oE 1 [.int (nI np), .ref (h1)]), (a 0, oE 3 [.int (g 0 0), .int (g 0 1), .ref (a 1), .ref (a 2), .ref (a 3), .ref (a 12), .ref (a 19), .ref (a 23)]), (a 1, iE cI 5 (g 1)), (a 2, iE cI 4 (g 2)), (a 3, oE 0 [.int (g 3 0), .ref (a 4), .ref (a 5), .ref (a 6), .ref (a 7), .ref (a 8), .ref (a 9), .ref (a 10), .ref (a 11)]), (a 4, iE cI 30 (g 4)), (a 5, iE cI 30 (g 5)), (a 6, iE cI 30 (g 6)), (a 7, iE cI 30 (g 7)), (a 8, iE cI 30 (g 8)), (a 9, iE cI 30 (g 9)), (a 10, iE cI 30 (g 10)), (a 11, iE cI 30 (g 11)), (a 12, oE 2 [.int (g 12 0), .ref (a 13), .ref (a 14), .ref (a 15), .ref (a 16), .ref (a 17), .ref (a 18)]), (a 13, iE cI 16 (g 13)), (a 14, iE cI 16 (g 14)), (a 15, iE cI 16 (g 15)), (a 16, iE cI 16 (g 16)), (a 17, iE cI 16 (g 17)), (a 18, iE cI 16 (g 18)), (a 19, oE 4 [.int (g 19 0), .ref (a 20), .ref (a 21), .ref (a 22)]), (a 20, iE cI 5 (g 20)), (a 21, iE cI 5 (g 21)), (a 22, iE cI 5 (g 22)), (a 23, oE 4 [.int (g 23 0), .ref (a 24), .ref (a 25), .ref (a 26)]), (a 24, iE cI 5 (g 24)), (a 25, iE cI 5 (g 25)), (a 26, iE cI 5 (g 26))] s.heap := hP
  have hown : s.vm.findClass RX6 = some m.cls := hown
  have hl : lv_has ls 2 [(0, .ref (o)), (1, .int (x))] := hl
  refine lv_iload_n hx hb dX6_count_0 rfl (lv_at hl 1 rfl) ?_
  by_cases e_1 : x = 0
  · -- case 0
    refine lv_tableIn (off := 67) (tgt := 68) hx hb dX6_count_1 (by rw [e_1]; decide) (by rw [e_1]; decide) (by rw [e_1]; decide +kernel) (by decide) ?_
    refine lv_aload_n hx hb dX6_count_68 rfl (lv_at hl 0 rfl) ?_
    refine va_get (D := D) (ci := 6) (v := .ref (a 0)) (C := RX6) (T := TX6) (N := 4) hx hb hts (by decide +kernel) hown hK.1 hP 0 rfl rfl 0 (by decide) (hts (.fieldLink RX6 10 "ParkingGarage" "now" "LParkingGarage$State;") (by decide +kernel)) (fun _ h9 => h9) rfl dX6_count_69 ?_
    refine va_get (D := D) (ci := 3) (v := .ref (a 3)) (C := RX3) (T := TX3) (N := 8) hx hb hts (by decide +kernel) hown hK.1 hP 3 rfl rfl 4 (by decide) (hts (.fieldLink RX6 37 "ParkingGarage$State" "bays" "LParkingGarage$Bays;") (by decide +kernel)) (fun _ h9 => h9) rfl dX6_count_72 ?_
    refine va_get (D := D) (ci := 0) (v := .int (g 3 0)) (C := RX0) (T := TX0) (N := 9) hx hb hts (by decide +kernel) hown hK.1 hP 6 rfl rfl 0 (by decide) (hts (.fieldLink RX6 190 "ParkingGarage$Bays" "number" "I") (by decide +kernel)) (fun _ h9 => h9) rfl dX6_count_75 ?_
    exact rd_iret (v := g 3 0) hx hb hr hlocks dX6_count_78 (Or.inl ⟨e_1, hn⟩)
  by_cases e_2 : x = 1
  · -- case 1
    refine lv_tableIn (off := 78) (tgt := 79) hx hb dX6_count_1 (by rw [e_2]; decide) (by rw [e_2]; decide) (by rw [e_2]; decide +kernel) (by decide) ?_
    refine lv_aload_n hx hb dX6_count_79 rfl (lv_at hl 0 rfl) ?_
    refine va_get (D := D) (ci := 6) (v := .ref (a 0)) (C := RX6) (T := TX6) (N := 4) hx hb hts (by decide +kernel) hown hK.1 hP 0 rfl rfl 0 (by decide) (hts (.fieldLink RX6 10 "ParkingGarage" "now" "LParkingGarage$State;") (by decide +kernel)) (fun _ h9 => h9) rfl dX6_count_80 ?_
    refine va_get (D := D) (ci := 3) (v := .ref (a 12)) (C := RX3) (T := TX3) (N := 8) hx hb hts (by decide +kernel) hown hK.1 hP 3 rfl rfl 5 (by decide) (hts (.fieldLink RX6 128 "ParkingGarage$State" "reservations" "LParkingGarage$Reservations;") (by decide +kernel)) (fun _ h9 => h9) rfl dX6_count_83 ?_
    refine va_get (D := D) (ci := 2) (v := .int (g 12 0)) (C := RX2) (T := TX2) (N := 7) hx hb hts (by decide +kernel) hown hK.1 hP 15 rfl rfl 0 (by decide) (hts (.fieldLink RX6 191 "ParkingGarage$Reservations" "number" "I") (by decide +kernel)) (fun _ h9 => h9) rfl dX6_count_86 ?_
    exact rd_iret (v := g 12 0) hx hb hr hlocks dX6_count_89 (Or.inr (Or.inl ⟨e_2, hq⟩))
  by_cases e_3 : x = 2
  · -- case 2
    refine lv_tableIn (off := 89) (tgt := 90) hx hb dX6_count_1 (by rw [e_3]; decide) (by rw [e_3]; decide) (by rw [e_3]; decide +kernel) (by decide) ?_
    refine lv_aload_n hx hb dX6_count_90 rfl (lv_at hl 0 rfl) ?_
    refine va_get (D := D) (ci := 6) (v := .ref (a 0)) (C := RX6) (T := TX6) (N := 4) hx hb hts (by decide +kernel) hown hK.1 hP 0 rfl rfl 0 (by decide) (hts (.fieldLink RX6 10 "ParkingGarage" "now" "LParkingGarage$State;") (by decide +kernel)) (fun _ h9 => h9) rfl dX6_count_91 ?_
    refine va_get (D := D) (ci := 3) (v := .int (g 0 1)) (C := RX3) (T := TX3) (N := 8) hx hb hts (by decide +kernel) hown hK.1 hP 3 rfl rfl 1 (by decide) (hts (.fieldLink RX6 170 "ParkingGarage$State" "tickets" "I") (by decide +kernel)) (fun _ h9 => h9) rfl dX6_count_94 ?_
    exact rd_iret (v := g 0 1) hx hb hr hlocks dX6_count_97 (Or.inr (Or.inr (Or.inl ⟨e_3, rfl⟩)))
  by_cases e_4 : x = 3
  · -- case 3
    refine lv_tableIn (off := 97) (tgt := 98) hx hb dX6_count_1 (by rw [e_4]; decide) (by rw [e_4]; decide) (by rw [e_4]; decide +kernel) (by decide) ?_
    refine lv_aload_n hx hb dX6_count_98 rfl (lv_at hl 0 rfl) ?_
    refine va_get (D := D) (ci := 6) (v := .ref (a 0)) (C := RX6) (T := TX6) (N := 4) hx hb hts (by decide +kernel) hown hK.1 hP 0 rfl rfl 0 (by decide) (hts (.fieldLink RX6 10 "ParkingGarage" "now" "LParkingGarage$State;") (by decide +kernel)) (fun _ h9 => h9) rfl dX6_count_99 ?_
    refine va_get (D := D) (ci := 3) (v := .ref (a 3)) (C := RX3) (T := TX3) (N := 8) hx hb hts (by decide +kernel) hown hK.1 hP 3 rfl rfl 4 (by decide) (hts (.fieldLink RX6 37 "ParkingGarage$State" "bays" "LParkingGarage$Bays;") (by decide +kernel)) (fun _ h9 => h9) rfl dX6_count_102 ?_
    refine cv_i (As := []) (rest := []) (tys := TYS cI cC cB cS) (ci := 0) ⟨hx, hb, hml, hown, hts⟩ (c_X0_cars l D cI cC cB cS ((fun k => a (3 + k))) ((fun k => g (3 + k))) (n) (hn) (hnb)) (cwV 0 hts gX6_count_X0_cars rfl rfl rfl (by decide +kernel) ⟨Nat.le_of_ble_eq_true rfl, Nat.le_of_ble_eq_true rfl⟩) hK hP [6, 7, 8, 9, 10, 11, 12, 13, 14] rfl rfl rfl rfl rfl hl.1 (Nat.le_of_ble_eq_true rfl) dX6_count_105 ⟨Nat.le_of_ble_eq_true rfl, Nat.le_of_ble_eq_true rfl⟩ (fun r_5 hr_5 => ?_)
    have hr_5 : ∃ z, Cnt (fun w => ¬ g 8 w = 0) n z ∧ r_5 = nI z := hr_5
    exact rd_iret (v := r_5) hx hb hr hlocks dX6_count_108 (Or.inr (Or.inr (Or.inr (Or.inl ⟨e_4, hr_5⟩))))
  by_cases e_6 : x = 4
  · -- case 4
    refine lv_tableIn (off := 108) (tgt := 109) hx hb dX6_count_1 (by rw [e_6]; decide) (by rw [e_6]; decide) (by rw [e_6]; decide +kernel) (by decide) ?_
    refine lv_aload_n hx hb dX6_count_109 rfl (lv_at hl 0 rfl) ?_
    refine va_get (D := D) (ci := 6) (v := .ref (a 0)) (C := RX6) (T := TX6) (N := 4) hx hb hts (by decide +kernel) hown hK.1 hP 0 rfl rfl 0 (by decide) (hts (.fieldLink RX6 10 "ParkingGarage" "now" "LParkingGarage$State;") (by decide +kernel)) (fun _ h9 => h9) rfl dX6_count_110 ?_
    refine va_get (D := D) (ci := 3) (v := .int (g 0 1)) (C := RX3) (T := TX3) (N := 8) hx hb hts (by decide +kernel) hown hK.1 hP 3 rfl rfl 1 (by decide) (hts (.fieldLink RX6 170 "ParkingGarage$State" "tickets" "I") (by decide +kernel)) (fun _ h9 => h9) rfl dX6_count_113 ?_
    refine lv_aload_n hx hb dX6_count_116 rfl (lv_at hl 0 rfl) ?_
    refine va_get (D := D) (ci := 6) (v := .ref (a 0)) (C := RX6) (T := TX6) (N := 4) hx hb hts (by decide +kernel) hown hK.1 hP 0 rfl rfl 0 (by decide) (hts (.fieldLink RX6 10 "ParkingGarage" "now" "LParkingGarage$State;") (by decide +kernel)) (fun _ h9 => h9) rfl dX6_count_117 ?_
    refine va_get (D := D) (ci := 3) (v := .ref (a 3)) (C := RX3) (T := TX3) (N := 8) hx hb hts (by decide +kernel) hown hK.1 hP 3 rfl rfl 4 (by decide) (hts (.fieldLink RX6 37 "ParkingGarage$State" "bays" "LParkingGarage$Bays;") (by decide +kernel)) (fun _ h9 => h9) rfl dX6_count_120 ?_
    refine cv_i (As := []) (rest := [.int (g 0 1)]) (tys := TYS cI cC cB cS) (ci := 0) ⟨hx, hb, hml, hown, hts⟩ (c_X0_cars l D cI cC cB cS ((fun k => a (3 + k))) ((fun k => g (3 + k))) (n) (hn) (hnb)) (cwV 0 hts gX6_count_X0_cars rfl rfl rfl (by decide +kernel) ⟨Nat.le_of_ble_eq_true rfl, Nat.le_of_ble_eq_true rfl⟩) hK hP [6, 7, 8, 9, 10, 11, 12, 13, 14] rfl rfl rfl rfl rfl hl.1 (Nat.le_of_ble_eq_true rfl) dX6_count_123 ⟨Nat.le_of_ble_eq_true rfl, Nat.le_of_ble_eq_true rfl⟩ (fun r_7 hr_7 => ?_)
    have hr_7 : ∃ z, Cnt (fun w => ¬ g 8 w = 0) n z ∧ r_7 = nI z := hr_7
    refine lv_isub hx hb dX6_count_126 ?_
    exact rd_iret (v := (g 0 1) - (r_7)) hx hb hr hlocks dX6_count_127 (Or.inr (Or.inr (Or.inr (Or.inr (Or.inl ⟨e_6, (fun ⟨z, h1, h2⟩ => ⟨z, h1, by rw [h2]⟩) hr_7⟩)))))
  by_cases e_8 : x = 5
  · -- case 5
    refine lv_tableIn (off := 127) (tgt := 128) hx hb dX6_count_1 (by rw [e_8]; decide) (by rw [e_8]; decide) (by rw [e_8]; decide +kernel) (by decide) ?_
    refine lv_aload_n hx hb dX6_count_128 rfl (lv_at hl 0 rfl) ?_
    refine va_get (D := D) (ci := 6) (v := .ref (a 0)) (C := RX6) (T := TX6) (N := 4) hx hb hts (by decide +kernel) hown hK.1 hP 0 rfl rfl 0 (by decide) (hts (.fieldLink RX6 10 "ParkingGarage" "now" "LParkingGarage$State;") (by decide +kernel)) (fun _ h9 => h9) rfl dX6_count_129 ?_
    refine va_get (D := D) (ci := 3) (v := .int (g 0 0)) (C := RX3) (T := TX3) (N := 8) hx hb hts (by decide +kernel) hown hK.1 hP 3 rfl rfl 0 (by decide) (hts (.fieldLink RX6 122 "ParkingGarage$State" "time" "I") (by decide +kernel)) (fun _ h9 => h9) rfl dX6_count_132 ?_
    exact rd_iret (v := g 0 0) hx hb hr hlocks dX6_count_135 (Or.inr (Or.inr (Or.inr (Or.inr (Or.inr (Or.inl ⟨e_8, rfl⟩))))))
  by_cases e_9 : x = 6
  · -- case 6
    refine lv_tableIn (off := 135) (tgt := 136) hx hb dX6_count_1 (by rw [e_9]; decide) (by rw [e_9]; decide) (by rw [e_9]; decide +kernel) (by decide) ?_
    refine lv_aload_n hx hb dX6_count_136 rfl (lv_at hl 0 rfl) ?_
    refine va_get (D := D) (ci := 6) (v := .ref (a 0)) (C := RX6) (T := TX6) (N := 4) hx hb hts (by decide +kernel) hown hK.1 hP 0 rfl rfl 0 (by decide) (hts (.fieldLink RX6 10 "ParkingGarage" "now" "LParkingGarage$State;") (by decide +kernel)) (fun _ h9 => h9) rfl dX6_count_137 ?_
    refine va_get (D := D) (ci := 3) (v := .ref (a 1)) (C := RX3) (T := TX3) (N := 8) hx hb hts (by decide +kernel) hown hK.1 hP 3 rfl rfl 2 (by decide) (hts (.fieldLink RX6 98 "ParkingGarage$State" "numbers" "[I") (by decide +kernel)) (fun _ h9 => h9) rfl dX6_count_140 ?_
    refine lv_iload_n hx hb dX6_count_143 rfl (lv_at hl 1 rfl) ?_
    refine lv_bipush (v := 6) hx hb dX6_count_144 (by decide) ?_
    refine lv_isub hx hb dX6_count_146 ?_
    refine iald_n (f := g 1) hx hb hK.1 hP 4 0 rfl rfl (0) (by rw [e_9]; rfl) (by decide) (by omega) dX6_count_147 ?_
    exact rd_iret (v := (g 1) (0)) hx hb hr hlocks dX6_count_148 (Or.inr (Or.inr (Or.inr (Or.inr (Or.inr (Or.inr (Or.inl ⟨0, by decide, e_9, rfl⟩)))))))
  by_cases e_10 : x = 7
  · -- case 7
    refine lv_tableIn (off := 135) (tgt := 136) hx hb dX6_count_1 (by rw [e_10]; decide) (by rw [e_10]; decide) (by rw [e_10]; decide +kernel) (by decide) ?_
    refine lv_aload_n hx hb dX6_count_136 rfl (lv_at hl 0 rfl) ?_
    refine va_get (D := D) (ci := 6) (v := .ref (a 0)) (C := RX6) (T := TX6) (N := 4) hx hb hts (by decide +kernel) hown hK.1 hP 0 rfl rfl 0 (by decide) (hts (.fieldLink RX6 10 "ParkingGarage" "now" "LParkingGarage$State;") (by decide +kernel)) (fun _ h9 => h9) rfl dX6_count_137 ?_
    refine va_get (D := D) (ci := 3) (v := .ref (a 1)) (C := RX3) (T := TX3) (N := 8) hx hb hts (by decide +kernel) hown hK.1 hP 3 rfl rfl 2 (by decide) (hts (.fieldLink RX6 98 "ParkingGarage$State" "numbers" "[I") (by decide +kernel)) (fun _ h9 => h9) rfl dX6_count_140 ?_
    refine lv_iload_n hx hb dX6_count_143 rfl (lv_at hl 1 rfl) ?_
    refine lv_bipush (v := 6) hx hb dX6_count_144 (by decide) ?_
    refine lv_isub hx hb dX6_count_146 ?_
    refine iald_n (f := g 1) hx hb hK.1 hP 4 0 rfl rfl (1) (by rw [e_10]; rfl) (by decide) (by omega) dX6_count_147 ?_
    exact rd_iret (v := (g 1) (1)) hx hb hr hlocks dX6_count_148 (Or.inr (Or.inr (Or.inr (Or.inr (Or.inr (Or.inr (Or.inl ⟨1, by decide, e_10, rfl⟩)))))))
  by_cases e_11 : x = 8
  · -- case 8
    refine lv_tableIn (off := 135) (tgt := 136) hx hb dX6_count_1 (by rw [e_11]; decide) (by rw [e_11]; decide) (by rw [e_11]; decide +kernel) (by decide) ?_
    refine lv_aload_n hx hb dX6_count_136 rfl (lv_at hl 0 rfl) ?_
    refine va_get (D := D) (ci := 6) (v := .ref (a 0)) (C := RX6) (T := TX6) (N := 4) hx hb hts (by decide +kernel) hown hK.1 hP 0 rfl rfl 0 (by decide) (hts (.fieldLink RX6 10 "ParkingGarage" "now" "LParkingGarage$State;") (by decide +kernel)) (fun _ h9 => h9) rfl dX6_count_137 ?_
    refine va_get (D := D) (ci := 3) (v := .ref (a 1)) (C := RX3) (T := TX3) (N := 8) hx hb hts (by decide +kernel) hown hK.1 hP 3 rfl rfl 2 (by decide) (hts (.fieldLink RX6 98 "ParkingGarage$State" "numbers" "[I") (by decide +kernel)) (fun _ h9 => h9) rfl dX6_count_140 ?_
    refine lv_iload_n hx hb dX6_count_143 rfl (lv_at hl 1 rfl) ?_
    refine lv_bipush (v := 6) hx hb dX6_count_144 (by decide) ?_
    refine lv_isub hx hb dX6_count_146 ?_
    refine iald_n (f := g 1) hx hb hK.1 hP 4 0 rfl rfl (2) (by rw [e_11]; rfl) (by decide) (by omega) dX6_count_147 ?_
    exact rd_iret (v := (g 1) (2)) hx hb hr hlocks dX6_count_148 (Or.inr (Or.inr (Or.inr (Or.inr (Or.inr (Or.inr (Or.inl ⟨2, by decide, e_11, rfl⟩)))))))
  by_cases e_12 : x = 9
  · -- case 9
    refine lv_tableIn (off := 135) (tgt := 136) hx hb dX6_count_1 (by rw [e_12]; decide) (by rw [e_12]; decide) (by rw [e_12]; decide +kernel) (by decide) ?_
    refine lv_aload_n hx hb dX6_count_136 rfl (lv_at hl 0 rfl) ?_
    refine va_get (D := D) (ci := 6) (v := .ref (a 0)) (C := RX6) (T := TX6) (N := 4) hx hb hts (by decide +kernel) hown hK.1 hP 0 rfl rfl 0 (by decide) (hts (.fieldLink RX6 10 "ParkingGarage" "now" "LParkingGarage$State;") (by decide +kernel)) (fun _ h9 => h9) rfl dX6_count_137 ?_
    refine va_get (D := D) (ci := 3) (v := .ref (a 1)) (C := RX3) (T := TX3) (N := 8) hx hb hts (by decide +kernel) hown hK.1 hP 3 rfl rfl 2 (by decide) (hts (.fieldLink RX6 98 "ParkingGarage$State" "numbers" "[I") (by decide +kernel)) (fun _ h9 => h9) rfl dX6_count_140 ?_
    refine lv_iload_n hx hb dX6_count_143 rfl (lv_at hl 1 rfl) ?_
    refine lv_bipush (v := 6) hx hb dX6_count_144 (by decide) ?_
    refine lv_isub hx hb dX6_count_146 ?_
    refine iald_n (f := g 1) hx hb hK.1 hP 4 0 rfl rfl (3) (by rw [e_12]; rfl) (by decide) (by omega) dX6_count_147 ?_
    exact rd_iret (v := (g 1) (3)) hx hb hr hlocks dX6_count_148 (Or.inr (Or.inr (Or.inr (Or.inr (Or.inr (Or.inr (Or.inl ⟨3, by decide, e_12, rfl⟩)))))))
  by_cases e_13 : x = 10
  · -- case 10
    refine lv_tableIn (off := 135) (tgt := 136) hx hb dX6_count_1 (by rw [e_13]; decide) (by rw [e_13]; decide) (by rw [e_13]; decide +kernel) (by decide) ?_
    refine lv_aload_n hx hb dX6_count_136 rfl (lv_at hl 0 rfl) ?_
    refine va_get (D := D) (ci := 6) (v := .ref (a 0)) (C := RX6) (T := TX6) (N := 4) hx hb hts (by decide +kernel) hown hK.1 hP 0 rfl rfl 0 (by decide) (hts (.fieldLink RX6 10 "ParkingGarage" "now" "LParkingGarage$State;") (by decide +kernel)) (fun _ h9 => h9) rfl dX6_count_137 ?_
    refine va_get (D := D) (ci := 3) (v := .ref (a 1)) (C := RX3) (T := TX3) (N := 8) hx hb hts (by decide +kernel) hown hK.1 hP 3 rfl rfl 2 (by decide) (hts (.fieldLink RX6 98 "ParkingGarage$State" "numbers" "[I") (by decide +kernel)) (fun _ h9 => h9) rfl dX6_count_140 ?_
    refine lv_iload_n hx hb dX6_count_143 rfl (lv_at hl 1 rfl) ?_
    refine lv_bipush (v := 6) hx hb dX6_count_144 (by decide) ?_
    refine lv_isub hx hb dX6_count_146 ?_
    refine iald_n (f := g 1) hx hb hK.1 hP 4 0 rfl rfl (4) (by rw [e_13]; rfl) (by decide) (by omega) dX6_count_147 ?_
    exact rd_iret (v := (g 1) (4)) hx hb hr hlocks dX6_count_148 (Or.inr (Or.inr (Or.inr (Or.inr (Or.inr (Or.inr (Or.inl ⟨4, by decide, e_13, rfl⟩)))))))
  by_cases e_14 : x = 11
  · -- case 11
    refine lv_tableIn (off := 148) (tgt := 149) hx hb dX6_count_1 (by rw [e_14]; decide) (by rw [e_14]; decide) (by rw [e_14]; decide +kernel) (by decide) ?_
    refine lv_aload_n hx hb dX6_count_149 rfl (lv_at hl 0 rfl) ?_
    refine va_get (D := D) (ci := 6) (v := .ref (x0)) (C := RX6) (T := TX6) (N := 4) hx hb hts (by decide +kernel) hown hK.1 hP 0 rfl rfl 3 (by decide) (hts (.fieldLink RX6 29 "ParkingGarage" "text" "LParkingGarage$Text;") (by decide +kernel)) (fun _ h9 => h9) rfl dX6_count_150 ?_
    refine va_get (D := D) (ci := 5) (v := .int (tl)) (C := RX5) (T := TX5) (N := 5) hx hb hts (by decide +kernel) hown hK.1 hP 1 rfl rfl 0 (by decide) (hts (.fieldLink RX6 106 "ParkingGarage$Text" "length" "I") (by decide +kernel)) (fun _ h9 => h9) rfl dX6_count_153 ?_
    exact rd_iret (v := tl) hx hb hr hlocks dX6_count_156 (Or.inr (Or.inr (Or.inr (Or.inr (Or.inr (Or.inr (Or.inr (Or.inl ⟨e_14, rfl⟩))))))))
  by_cases e_15 : x = 12
  · -- case 12
    refine lv_tableIn (off := 156) (tgt := 157) hx hb dX6_count_1 (by rw [e_15]; decide) (by rw [e_15]; decide) (by rw [e_15]; decide +kernel) (by decide) ?_
    refine lv_aload_n hx hb dX6_count_157 rfl (lv_at hl 0 rfl) ?_
    refine va_get (D := D) (ci := 6) (v := .ref (h0)) (C := RX6) (T := TX6) (N := 4) hx hb hts (by decide +kernel) hown hK.1 hP 0 rfl rfl 2 (by decide) (hts (.fieldLink RX6 22 "ParkingGarage" "history" "LParkingGarage$History;") (by decide +kernel)) (fun _ h9 => h9) rfl dX6_count_158 ?_
    refine va_get (D := D) (ci := 1) (v := .int (nI np)) (C := RX1) (T := TX1) (N := 2) hx hb hts (by decide +kernel) hown hK.1 hP 2 rfl rfl 0 (by decide) (hts (.fieldLink RX6 196 "ParkingGarage$History" "number" "I") (by decide +kernel)) (fun _ h9 => h9) rfl dX6_count_161 ?_
    exact rd_iret (v := nI np) hx hb hr hlocks dX6_count_164 (Or.inr (Or.inr (Or.inr (Or.inr (Or.inr (Or.inr (Or.inr (Or.inr (Or.inl ⟨e_15, rfl⟩)))))))))
  have hout : (x).toInt < 0 ∨ 12 < (x).toInt := by
    have z0 := lv_neT e_1 (show ((0 : Int32)).toInt = 0 from by decide)
    have z1 := lv_neT e_2 (show ((1 : Int32)).toInt = 1 from by decide)
    have z2 := lv_neT e_3 (show ((2 : Int32)).toInt = 2 from by decide)
    have z3 := lv_neT e_4 (show ((3 : Int32)).toInt = 3 from by decide)
    have z4 := lv_neT e_6 (show ((4 : Int32)).toInt = 4 from by decide)
    have z5 := lv_neT e_8 (show ((5 : Int32)).toInt = 5 from by decide)
    have z6 := lv_neT e_9 (show ((6 : Int32)).toInt = 6 from by decide)
    have z7 := lv_neT e_10 (show ((7 : Int32)).toInt = 7 from by decide)
    have z8 := lv_neT e_11 (show ((8 : Int32)).toInt = 8 from by decide)
    have z9 := lv_neT e_12 (show ((9 : Int32)).toInt = 9 from by decide)
    have z10 := lv_neT e_13 (show ((10 : Int32)).toInt = 10 from by decide)
    have z11 := lv_neT e_14 (show ((11 : Int32)).toInt = 11 from by decide)
    have z12 := lv_neT e_15 (show ((12 : Int32)).toInt = 12 from by decide)
    omega
  refine lv_tableOut (tgt := 165) hx hb dX6_count_1 hout (by decide) ?_
  refine lv_iconst (v := -1) hx hb dX6_count_165 (by decide) ?_
  exact rd_iret (v := -1) hx hb hr hlocks dX6_count_166 (Or.inr (Or.inr (Or.inr (Or.inr (Or.inr (Or.inr (Or.inr (Or.inr (Or.inr (⟨hout, rfl⟩))))))))))
