/-! ===== the reference: goes (laid by wip/whole/gen) ===== -/
set_option maxHeartbeats 4000000 in
set_option maxRecDepth 100000 in
theorem c_X7_goes (l : Launch) (D : va_G) (cI cC cB cS : ClassId) (zz : Nat) (ma : Nat → Nat) (fi : Nat → Int32) (wd : Int64) (L : Nat) (f : Nat → Int32) (p0 : Nat) (bg : Int32) (nm : Int32) (wr : Int32) (hL : L ≤ 120) (hch : Chr f) (hpL : p0 ≤ L) : Met l yX7_goes wsX7_goes ({ frames := 1, cells := 0, slots := 0, locals := 22 } : Room) (wrPc D (TYS cI cC cB cS) [.ref (ma 0)] ([(ma 0, oE 7 [.ref (ma 1), .ref (ma 2), .int (fi 0), .ref (ma 3), .ref (ma 4), .int (nI L), .int (nI p0), .int (bg), .long (wd), .int (nm), .int (wr)]), (ma 4, iE cB 120 (bt f))]) zz) (va_Qv (fun u : TKN => GoT f L p0 u) (wrB D (va_A ([(ma 0, oE 7 [.ref (ma 1), .ref (ma 2), .int (fi 0), .ref (ma 3), .ref (ma 4), .int (nI L), .int (nI p0), .int (bg), .long (wd), .int (nm), .int (wr)]), (ma 4, iE cB 120 (bt f))]) zz) (fun u => [(ma 0, oE 7 [.ref (ma 1), .ref (ma 2), .int (fi 0), .ref (ma 3), .ref (ma 4), .int (nI L), .int (nI u.2.2.1), .int (nI u.2.1), .long (u.2.2.2.1), .int (u.2.2.2.2), .int (wr)]), (ma 4, iE cB 120 (bt f))])) (va_A ([(ma 0, oE 7 [.ref (ma 1), .ref (ma 2), .int (fi 0), .ref (ma 3), .ref (ma 4), .int (nI L), .int (nI p0), .int (bg), .long (wd), .int (nm), .int (wr)]), (ma 4, iE cB 120 (bt f))]) zz)) 0 0 (va_A ([(ma 0, oE 7 [.ref (ma 1), .ref (ma 2), .int (fi 0), .ref (ma 3), .ref (ma 4), .int (nI L), .int (nI p0), .int (bg), .long (wd), .int (nm), .int (wr)]), (ma 4, iE cB 120 (bt f))]) zz) := by
  refine wr_intro (Qc := fun A B => va_Qv (fun u : TKN => GoT f L p0 u) B A) (by decide) rfl (Nat.le_of_ble_eq_true rfl) ?_
  intro p e s m below meth c A hx hb hr hml hts hown hlocks hin hP hK hD hA hS ls hl
  have hP : va_P D vwCl [(ma 0, oE 7 [.ref (ma 1), .ref (ma 2), .int (fi 0), .ref (ma 3), .ref (ma 4), .int (nI L), .int (nI p0), .int (bg), .long (wd), .int (nm), .int (wr)]), (ma 4, iE cB 120 (bt f))] s.heap := hP
  have hD : va_D A [(ma 0, oE 7 [.ref (ma 1), .ref (ma 2), .int (fi 0), .ref (ma 3), .ref (ma 4), .int (nI L), .int (nI p0), .int (bg), .long (wd), .int (nm), .int (wr)]), (ma 4, iE cB 120 (bt f))] := hD
  have hown : s.vm.findClass RX7 = some m.cls := hown
  have hl : lv_has ls 4 [(0, .ref (ma 0))] := hl
  have hloop : ∀ (d b : Nat), b ≤ L → L - b < d → (p0 ≤ b) → (∀ q, p0 ≤ q → q < b → q < L ∧ (32 : Int32) ≤ f q ∧ f q ≤ 32) → ∀ (H : Heap) (locs : List Loc), va_P D vwCl [(ma 0, oE 7 [.ref (ma 1), .ref (ma 2), .int (fi 0), .ref (ma 3), .ref (ma 4), .int (nI L), .int (nI b), .int (bg), .long (wd), .int (nm), .int (wr)]), (ma 4, iE cB 120 (bt f))] H → va_D A [(ma 0, oE 7 [.ref (ma 1), .ref (ma 2), .int (fi 0), .ref (ma 3), .ref (ma 4), .int (nI L), .int (nI b), .int (bg), .long (wd), .int (nm), .int (wr)]), (ma 4, iE cB 120 (bt f))] → va_S A s.heap H locs → ∀ ls : Array Slot, lv_has ls 4 [(0, .ref (ma 0))] → W p l e ({ frames := 1, cells := 0, slots := 0, locals := 22 } : Room) s m (([.ref (ma 0)] : List Value).toArray) below meth c H locs 0 0 (MQ below (va_Qv (fun u : TKN => GoT f L p0 u) (wrB D A (fun u => [(ma 0, oE 7 [.ref (ma 1), .ref (ma 2), .int (fi 0), .ref (ma 3), .ref (ma 4), .int (nI L), .int (nI u.2.2.1), .int (nI u.2.1), .long (u.2.2.2.1), .int (u.2.2.2.2), .int (wr)]), (ma 4, iE cB 120 (bt f))])) A) (([.ref (ma 0)] : List Value).toArray) s 0 0 A) (F0 m 0 ls []) := by
    intro d
    induction d with
    | zero => intro b _ h2; exact absurd h2 (Nat.not_lt_zero _)
    | succ d ih =>
      intro b hi hd hpi hsp H locs hP hD hS ls hl
      refine lv_aload_n hx hb dX7_goes_0 rfl (lv_at hl 0 rfl) ?_
      refine va_get (D := D) (ci := 7) (v := .int (nI b)) (C := RX7) (T := TX7) (N := 11) hx hb hts (by decide +kernel) hown hK.1 hP 0 rfl rfl 6 (by decide) (hts (.fieldLink RX7 85 "ParkingGarageModel" "next" "I") (by decide +kernel)) (fun _ h9 => h9) rfl dX7_goes_1 ?_
      refine lv_aload_n hx hb dX7_goes_4 rfl (lv_at hl 0 rfl) ?_
      refine va_get (D := D) (ci := 7) (v := .int (nI L)) (C := RX7) (T := TX7) (N := 11) hx hb hts (by decide +kernel) hown hK.1 hP 0 rfl rfl 5 (by decide) (hts (.fieldLink RX7 82 "ParkingGarageModel" "typed" "I") (by decide +kernel)) (fun _ h9 => h9) rfl dX7_goes_5 ?_
      refine lv_icmp_ge (tgt := 38) hx hb dX7_goes_8 (by decide) (fun c_1 => ?_) (fun c_1 => ?_)
      · -- c_1: nI b ≥ nI L
        have hge : b = L := nI_geD (n := L) rfl hi (by omega) c_1
        have hbeh : Beh f L 32 32 p0 b := ⟨hsp, hpi, fun q => absurd q.1 (by omega)⟩
        refine lv_aload_n hx hb dX7_goes_38 rfl (lv_at hl 0 rfl) ?_
        refine lv_aload_n hx hb dX7_goes_39 rfl (lv_at hl 0 rfl) ?_
        refine va_get (D := D) (ci := 7) (v := .int (nI b)) (C := RX7) (T := TX7) (N := 11) hx hb hts (by decide +kernel) hown hK.1 hP 0 rfl rfl 6 (by decide) (hts (.fieldLink RX7 85 "ParkingGarageModel" "next" "I") (by decide +kernel)) (fun _ h9 => h9) rfl dX7_goes_40 ?_
        refine va_put (D := D) (ci := 7) (v := .int (nI b)) (ty := .int) (C := RX7) (T := TX7) (N := 11) hx hb hts (by decide +kernel) tyX7 tyX7_ok nmX7 hown hK.1 hP hD hS 0 rfl rfl 7 (by decide) (hts (.fieldLink RX7 88 "ParkingGarageModel" "begin" "I") (by decide +kernel)) (fun _ h9 => h9) rfl (by decide +kernel) rfl rfl (Nat.le_of_ble_eq_true rfl) dX7_goes_43 (fun H locs hP hD hS => ?_)
        have hP : va_P D vwCl [(ma 0, oE 7 [.ref (ma 1), .ref (ma 2), .int (fi 0), .ref (ma 3), .ref (ma 4), .int (nI L), .int (nI b), .int (nI b), .long (wd), .int (nm), .int (wr)]), (ma 4, iE cB 120 (bt f))] H := hP
        have hD : va_D A [(ma 0, oE 7 [.ref (ma 1), .ref (ma 2), .int (fi 0), .ref (ma 3), .ref (ma 4), .int (nI L), .int (nI b), .int (nI b), .long (wd), .int (nm), .int (wr)]), (ma 4, iE cB 120 (bt f))] := hD
        refine lv_aload_n hx hb dX7_goes_46 rfl (lv_at hl 0 rfl) ?_
        refine lv_lconst (v := 0) hx hb dX7_goes_47 (by decide) ?_
        refine va_put (D := D) (ci := 7) (v := .long (0)) (ty := .long) (C := RX7) (T := TX7) (N := 11) hx hb hts (by decide +kernel) tyX7 tyX7_ok nmX7 hown hK.1 hP hD hS 0 rfl rfl 8 (by decide) (hts (.fieldLink RX7 91 "ParkingGarageModel" "word" "J") (by decide +kernel)) (fun _ h9 => h9) rfl (by decide +kernel) rfl rfl (Nat.le_of_ble_eq_true rfl) dX7_goes_48 (fun H locs hP hD hS => ?_)
        have hP : va_P D vwCl [(ma 0, oE 7 [.ref (ma 1), .ref (ma 2), .int (fi 0), .ref (ma 3), .ref (ma 4), .int (nI L), .int (nI b), .int (nI b), .long (0), .int (nm), .int (wr)]), (ma 4, iE cB 120 (bt f))] H := hP
        have hD : va_D A [(ma 0, oE 7 [.ref (ma 1), .ref (ma 2), .int (fi 0), .ref (ma 3), .ref (ma 4), .int (nI L), .int (nI b), .int (nI b), .long (0), .int (nm), .int (wr)]), (ma 4, iE cB 120 (bt f))] := hD
        refine lv_aload_n hx hb dX7_goes_51 rfl (lv_at hl 0 rfl) ?_
        refine lv_bipush (v := -9) hx hb dX7_goes_52 (by decide) ?_
        refine va_put (D := D) (ci := 7) (v := .int (-9)) (ty := .int) (C := RX7) (T := TX7) (N := 11) hx hb hts (by decide +kernel) tyX7 tyX7_ok nmX7 hown hK.1 hP hD hS 0 rfl rfl 9 (by decide) (hts (.fieldLink RX7 95 "ParkingGarageModel" "number" "I") (by decide +kernel)) (fun _ h9 => h9) rfl (by decide +kernel) rfl rfl (Nat.le_of_ble_eq_true rfl) dX7_goes_54 (fun H locs hP hD hS => ?_)
        have hP : va_P D vwCl [(ma 0, oE 7 [.ref (ma 1), .ref (ma 2), .int (fi 0), .ref (ma 3), .ref (ma 4), .int (nI L), .int (nI b), .int (nI b), .long (0), .int (-9), .int (wr)]), (ma 4, iE cB 120 (bt f))] H := hP
        have hD : va_D A [(ma 0, oE 7 [.ref (ma 1), .ref (ma 2), .int (fi 0), .ref (ma 3), .ref (ma 4), .int (nI L), .int (nI b), .int (nI b), .long (0), .int (-9), .int (wr)]), (ma 4, iE cB 120 (bt f))] := hD
        refine lv_aload_n hx hb dX7_goes_57 rfl (lv_at hl 0 rfl) ?_
        refine va_get (D := D) (ci := 7) (v := .int (nI b)) (C := RX7) (T := TX7) (N := 11) hx hb hts (by decide +kernel) hown hK.1 hP 0 rfl rfl 6 (by decide) (hts (.fieldLink RX7 85 "ParkingGarageModel" "next" "I") (by decide +kernel)) (fun _ h9 => h9) rfl dX7_goes_58 ?_
        refine lv_aload_n hx hb dX7_goes_61 rfl (lv_at hl 0 rfl) ?_
        refine va_get (D := D) (ci := 7) (v := .int (nI L)) (C := RX7) (T := TX7) (N := 11) hx hb hts (by decide +kernel) hown hK.1 hP 0 rfl rfl 5 (by decide) (hts (.fieldLink RX7 82 "ParkingGarageModel" "typed" "I") (by decide +kernel)) (fun _ h9 => h9) rfl dX7_goes_62 ?_
        refine lv_icmp_ne (tgt := 69) hx hb dX7_goes_65 (by decide) (fun c_2 => ?_) (fun c_2 => ?_)
        · -- c_2: nI b ≠ nI L
          exact absurd (by rw [hge]) c_2
        · -- c_2: not nI b ≠ nI L
          exact wr_vret ((0, b, b, 0, -9)) hx hb hr hlocks hS hP hD [0, 1] rfl rfl (by decide) dX7_goes_68 ((show Tok f L p0 0 b b ∧ WdOf f 0 b b (0) ∧ NmOf f 0 b b (-9) from ⟨⟨hbeh, Or.inl ⟨by omega, rfl, rfl⟩⟩, wd_zero (fun q => absurd q.1 (by decide)), nm_none (by decide)⟩))
      · -- c_1: not nI b ≥ nI L
        have hlt : b < L := nI_ltD (n := L) rfl hi (by omega) c_1
        refine lv_aload_n hx hb dX7_goes_11 rfl (lv_at hl 0 rfl) ?_
        refine va_get (D := D) (ci := 7) (v := .ref (ma 4)) (C := RX7) (T := TX7) (N := 11) hx hb hts (by decide +kernel) hown hK.1 hP 0 rfl rfl 4 (by decide) (hts (.fieldLink RX7 19 "ParkingGarageModel" "text" "[B") (by decide +kernel)) (fun _ h9 => h9) rfl dX7_goes_12 ?_
        refine lv_aload_n hx hb dX7_goes_15 rfl (lv_at hl 0 rfl) ?_
        refine va_get (D := D) (ci := 7) (v := .int (nI b)) (C := RX7) (T := TX7) (N := 11) hx hb hts (by decide +kernel) hown hK.1 hP 0 rfl rfl 6 (by decide) (hts (.fieldLink RX7 85 "ParkingGarageModel" "next" "I") (by decide +kernel)) (fun _ h9 => h9) rfl dX7_goes_16 ?_
        refine bald_n (f := bt f) hx hb hK.1 hP 1 2 rfl rfl (b) (rfl) (by omega) (by omega) dX7_goes_19 ?_
        refine lv_bipush (v := 32) hx hb dX7_goes_20 (by decide) ?_
        refine lv_icmp_ne (tgt := 38) hx hb dX7_goes_22 (by decide) (fun c_3 => ?_) (fun c_3 => ?_)
        · -- c_3: (bt f) (b) ≠ 32
          have hns : ¬ f b = 32 := fun q => c_3 ((bt_sp (hch b (by omega))).mpr q)
          have hbeh : Beh f L 32 32 p0 b := ⟨hsp, hpi, fun q => hns (Int32.le_antisymm q.2.2 q.2.1)⟩
          refine lv_aload_n hx hb dX7_goes_38 rfl (lv_at hl 0 rfl) ?_
          refine lv_aload_n hx hb dX7_goes_39 rfl (lv_at hl 0 rfl) ?_
          refine va_get (D := D) (ci := 7) (v := .int (nI b)) (C := RX7) (T := TX7) (N := 11) hx hb hts (by decide +kernel) hown hK.1 hP 0 rfl rfl 6 (by decide) (hts (.fieldLink RX7 85 "ParkingGarageModel" "next" "I") (by decide +kernel)) (fun _ h9 => h9) rfl dX7_goes_40 ?_
          refine va_put (D := D) (ci := 7) (v := .int (nI b)) (ty := .int) (C := RX7) (T := TX7) (N := 11) hx hb hts (by decide +kernel) tyX7 tyX7_ok nmX7 hown hK.1 hP hD hS 0 rfl rfl 7 (by decide) (hts (.fieldLink RX7 88 "ParkingGarageModel" "begin" "I") (by decide +kernel)) (fun _ h9 => h9) rfl (by decide +kernel) rfl rfl (Nat.le_of_ble_eq_true rfl) dX7_goes_43 (fun H locs hP hD hS => ?_)
          have hP : va_P D vwCl [(ma 0, oE 7 [.ref (ma 1), .ref (ma 2), .int (fi 0), .ref (ma 3), .ref (ma 4), .int (nI L), .int (nI b), .int (nI b), .long (wd), .int (nm), .int (wr)]), (ma 4, iE cB 120 (bt f))] H := hP
          have hD : va_D A [(ma 0, oE 7 [.ref (ma 1), .ref (ma 2), .int (fi 0), .ref (ma 3), .ref (ma 4), .int (nI L), .int (nI b), .int (nI b), .long (wd), .int (nm), .int (wr)]), (ma 4, iE cB 120 (bt f))] := hD
          refine lv_aload_n hx hb dX7_goes_46 rfl (lv_at hl 0 rfl) ?_
          refine lv_lconst (v := 0) hx hb dX7_goes_47 (by decide) ?_
          refine va_put (D := D) (ci := 7) (v := .long (0)) (ty := .long) (C := RX7) (T := TX7) (N := 11) hx hb hts (by decide +kernel) tyX7 tyX7_ok nmX7 hown hK.1 hP hD hS 0 rfl rfl 8 (by decide) (hts (.fieldLink RX7 91 "ParkingGarageModel" "word" "J") (by decide +kernel)) (fun _ h9 => h9) rfl (by decide +kernel) rfl rfl (Nat.le_of_ble_eq_true rfl) dX7_goes_48 (fun H locs hP hD hS => ?_)
          have hP : va_P D vwCl [(ma 0, oE 7 [.ref (ma 1), .ref (ma 2), .int (fi 0), .ref (ma 3), .ref (ma 4), .int (nI L), .int (nI b), .int (nI b), .long (0), .int (nm), .int (wr)]), (ma 4, iE cB 120 (bt f))] H := hP
          have hD : va_D A [(ma 0, oE 7 [.ref (ma 1), .ref (ma 2), .int (fi 0), .ref (ma 3), .ref (ma 4), .int (nI L), .int (nI b), .int (nI b), .long (0), .int (nm), .int (wr)]), (ma 4, iE cB 120 (bt f))] := hD
          refine lv_aload_n hx hb dX7_goes_51 rfl (lv_at hl 0 rfl) ?_
          refine lv_bipush (v := -9) hx hb dX7_goes_52 (by decide) ?_
          refine va_put (D := D) (ci := 7) (v := .int (-9)) (ty := .int) (C := RX7) (T := TX7) (N := 11) hx hb hts (by decide +kernel) tyX7 tyX7_ok nmX7 hown hK.1 hP hD hS 0 rfl rfl 9 (by decide) (hts (.fieldLink RX7 95 "ParkingGarageModel" "number" "I") (by decide +kernel)) (fun _ h9 => h9) rfl (by decide +kernel) rfl rfl (Nat.le_of_ble_eq_true rfl) dX7_goes_54 (fun H locs hP hD hS => ?_)
          have hP : va_P D vwCl [(ma 0, oE 7 [.ref (ma 1), .ref (ma 2), .int (fi 0), .ref (ma 3), .ref (ma 4), .int (nI L), .int (nI b), .int (nI b), .long (0), .int (-9), .int (wr)]), (ma 4, iE cB 120 (bt f))] H := hP
          have hD : va_D A [(ma 0, oE 7 [.ref (ma 1), .ref (ma 2), .int (fi 0), .ref (ma 3), .ref (ma 4), .int (nI L), .int (nI b), .int (nI b), .long (0), .int (-9), .int (wr)]), (ma 4, iE cB 120 (bt f))] := hD
          refine lv_aload_n hx hb dX7_goes_57 rfl (lv_at hl 0 rfl) ?_
          refine va_get (D := D) (ci := 7) (v := .int (nI b)) (C := RX7) (T := TX7) (N := 11) hx hb hts (by decide +kernel) hown hK.1 hP 0 rfl rfl 6 (by decide) (hts (.fieldLink RX7 85 "ParkingGarageModel" "next" "I") (by decide +kernel)) (fun _ h9 => h9) rfl dX7_goes_58 ?_
          refine lv_aload_n hx hb dX7_goes_61 rfl (lv_at hl 0 rfl) ?_
          refine va_get (D := D) (ci := 7) (v := .int (nI L)) (C := RX7) (T := TX7) (N := 11) hx hb hts (by decide +kernel) hown hK.1 hP 0 rfl rfl 5 (by decide) (hts (.fieldLink RX7 82 "ParkingGarageModel" "typed" "I") (by decide +kernel)) (fun _ h9 => h9) rfl dX7_goes_62 ?_
          refine lv_icmp_ne (tgt := 69) hx hb dX7_goes_65 (by decide) (fun c_4 => ?_) (fun c_4 => ?_)
          · -- c_4: nI b ≠ nI L
            refine lv_aload_n hx hb dX7_goes_69 rfl (lv_at hl 0 rfl) ?_
            refine va_get (D := D) (ci := 7) (v := .ref (ma 4)) (C := RX7) (T := TX7) (N := 11) hx hb hts (by decide +kernel) hown hK.1 hP 0 rfl rfl 4 (by decide) (hts (.fieldLink RX7 19 "ParkingGarageModel" "text" "[B") (by decide +kernel)) (fun _ h9 => h9) rfl dX7_goes_70 ?_
            refine lv_aload_n hx hb dX7_goes_73 rfl (lv_at hl 0 rfl) ?_
            refine va_get (D := D) (ci := 7) (v := .int (nI b)) (C := RX7) (T := TX7) (N := 11) hx hb hts (by decide +kernel) hown hK.1 hP 0 rfl rfl 6 (by decide) (hts (.fieldLink RX7 85 "ParkingGarageModel" "next" "I") (by decide +kernel)) (fun _ h9 => h9) rfl dX7_goes_74 ?_
            refine bald_n (f := bt f) hx hb hK.1 hP 1 2 rfl rfl (b) (rfl) (by omega) (by omega) dX7_goes_77 ?_
            refine lv_bipush (v := 97) hx hb dX7_goes_78 (by decide) ?_
            refine lv_bipush (v := 122) hx hb dX7_goes_80 (by decide) ?_
            refine cs_i (As := [.int ((bt f) (b)), .int (97), .int (122)]) (rest := []) (tys := TYS cI cC cB cS) ⟨hx, hb, hml, hown, hts⟩ (c_X7_in l D cI cC cB cS ((bt f) (b)) (97) (122)) (va_cwS 3 hts gX7_goes_X7_in rfl rfl rfl (by decide +kernel) ⟨Nat.le_of_ble_eq_true rfl, Nat.le_of_ble_eq_true rfl⟩) hK hP [] rfl rfl rfl hl.1 (Nat.le_of_ble_eq_true rfl) dX7_goes_82 ⟨Nat.le_of_ble_eq_true rfl, Nat.le_of_ble_eq_true rfl⟩ (fun r_5 hr_5 => ?_)
            rcases (show Yes (97 ≤ (bt f) (b) ∧ (bt f) (b) ≤ 122) r_5 from hr_5) with ⟨rfl, h_6⟩ | ⟨rfl, h_6⟩
            · -- X7_in t
              have hkL : isL (f b) := (bt_L (hch b (by omega))).mp h_6
              refine lv_istore_n (lv' := [(1, .int (1)), (0, .ref (ma 0))]) hx hb dX7_goes_85 rfl hl (by decide) rfl (fun ls hl => ?_)
              refine lv_aload_n hx hb dX7_goes_86 rfl (lv_at hl 1 rfl) ?_
              refine va_get (D := D) (ci := 7) (v := .ref (ma 4)) (C := RX7) (T := TX7) (N := 11) hx hb hts (by decide +kernel) hown hK.1 hP 0 rfl rfl 4 (by decide) (hts (.fieldLink RX7 19 "ParkingGarageModel" "text" "[B") (by decide +kernel)) (fun _ h9 => h9) rfl dX7_goes_87 ?_
              refine lv_aload_n hx hb dX7_goes_90 rfl (lv_at hl 1 rfl) ?_
              refine va_get (D := D) (ci := 7) (v := .int (nI b)) (C := RX7) (T := TX7) (N := 11) hx hb hts (by decide +kernel) hown hK.1 hP 0 rfl rfl 6 (by decide) (hts (.fieldLink RX7 85 "ParkingGarageModel" "next" "I") (by decide +kernel)) (fun _ h9 => h9) rfl dX7_goes_91 ?_
              refine bald_n (f := bt f) hx hb hK.1 hP 1 2 rfl rfl (b) (rfl) (by omega) (by omega) dX7_goes_94 ?_
              refine lv_bipush (v := 48) hx hb dX7_goes_95 (by decide) ?_
              refine lv_bipush (v := 57) hx hb dX7_goes_97 (by decide) ?_
              refine cs_i (As := [.int ((bt f) (b)), .int (48), .int (57)]) (rest := []) (tys := TYS cI cC cB cS) ⟨hx, hb, hml, hown, hts⟩ (c_X7_in l D cI cC cB cS ((bt f) (b)) (48) (57)) (va_cwS 3 hts gX7_goes_X7_in rfl rfl rfl (by decide +kernel) ⟨Nat.le_of_ble_eq_true rfl, Nat.le_of_ble_eq_true rfl⟩) hK hP [] rfl rfl rfl hl.1 (Nat.le_of_ble_eq_true rfl) dX7_goes_99 ⟨Nat.le_of_ble_eq_true rfl, Nat.le_of_ble_eq_true rfl⟩ (fun r_7 hr_7 => ?_)
              rcases (show Yes (48 ≤ (bt f) (b) ∧ (bt f) (b) ≤ 57) r_7 from hr_7) with ⟨rfl, h_8⟩ | ⟨rfl, h_8⟩
              · -- X7_in t
                have hkD : isD (f b) := (bt_D (hch b (by omega))).mp h_8
                exact (isLD hkL hkD).elim
              · -- X7_in f
                have hkD : ¬ isD (f b) := fun q => h_8 ((bt_D (hch b (by omega))).mpr q)
                refine lv_istore_n (lv' := [(2, .int (0)), (1, .int (1)), (0, .ref (ma 0))]) hx hb dX7_goes_102 rfl hl (by decide) rfl (fun ls hl => ?_)
                refine lv_aload_n hx hb dX7_goes_103 rfl (lv_at hl 2 rfl) ?_
                refine lv_dup hx hb dX7_goes_104 rfl ?_
                refine va_get (D := D) (ci := 7) (v := .int (nI b)) (C := RX7) (T := TX7) (N := 11) hx hb hts (by decide +kernel) hown hK.1 hP 0 rfl rfl 6 (by decide) (hts (.fieldLink RX7 85 "ParkingGarageModel" "next" "I") (by decide +kernel)) (fun _ h9 => h9) rfl dX7_goes_105 ?_
                refine lv_iconst (v := 1) hx hb dX7_goes_108 (by decide) ?_
                refine lv_iadd hx hb dX7_goes_109 ?_
                rw [show (((nI b) + (1)) : Int32) = nI (b + 1) from (nI_add b 1)]
                refine va_put (D := D) (ci := 7) (v := .int (nI (b + 1))) (ty := .int) (C := RX7) (T := TX7) (N := 11) hx hb hts (by decide +kernel) tyX7 tyX7_ok nmX7 hown hK.1 hP hD hS 0 rfl rfl 6 (by decide) (hts (.fieldLink RX7 85 "ParkingGarageModel" "next" "I") (by decide +kernel)) (fun _ h9 => h9) rfl (by decide +kernel) rfl rfl (Nat.le_of_ble_eq_true rfl) dX7_goes_110 (fun H locs hP hD hS => ?_)
                have hP : va_P D vwCl [(ma 0, oE 7 [.ref (ma 1), .ref (ma 2), .int (fi 0), .ref (ma 3), .ref (ma 4), .int (nI L), .int (nI (b + 1)), .int (nI b), .long (0), .int (-9), .int (wr)]), (ma 4, iE cB 120 (bt f))] H := hP
                have hD : va_D A [(ma 0, oE 7 [.ref (ma 1), .ref (ma 2), .int (fi 0), .ref (ma 3), .ref (ma 4), .int (nI L), .int (nI (b + 1)), .int (nI b), .long (0), .int (-9), .int (wr)]), (ma 4, iE cB 120 (bt f))] := hD
                have hloop : ∀ (d e1 : Nat), e1 ≤ L → L - e1 < d → (b + 1 ≤ e1) → (∀ q, b ≤ q → q < e1 → q < L ∧ (97 : Int32) ≤ f q ∧ f q ≤ 122) → ∀ (H : Heap) (locs : List Loc), va_P D vwCl [(ma 0, oE 7 [.ref (ma 1), .ref (ma 2), .int (fi 0), .ref (ma 3), .ref (ma 4), .int (nI L), .int (nI e1), .int (nI b), .long (0), .int (-9), .int (wr)]), (ma 4, iE cB 120 (bt f))] H → va_D A [(ma 0, oE 7 [.ref (ma 1), .ref (ma 2), .int (fi 0), .ref (ma 3), .ref (ma 4), .int (nI L), .int (nI e1), .int (nI b), .long (0), .int (-9), .int (wr)]), (ma 4, iE cB 120 (bt f))] → va_S A s.heap H locs → ∀ ls : Array Slot, lv_has ls 4 [(2, .int (0)), (1, .int (1)), (0, .ref (ma 0))] → W p l e ({ frames := 1, cells := 0, slots := 0, locals := 22 } : Room) s m (([.ref (ma 0)] : List Value).toArray) below meth c H locs 0 0 (MQ below (va_Qv (fun u : TKN => GoT f L p0 u) (wrB D A (fun u => [(ma 0, oE 7 [.ref (ma 1), .ref (ma 2), .int (fi 0), .ref (ma 3), .ref (ma 4), .int (nI L), .int (nI u.2.2.1), .int (nI u.2.1), .long (u.2.2.2.1), .int (u.2.2.2.2), .int (wr)]), (ma 4, iE cB 120 (bt f))])) A) (([.ref (ma 0)] : List Value).toArray) s 0 0 A) (F0 m 113 ls []) := by
                  intro d
                  induction d with
                  | zero => intro e1 _ h2; exact absurd h2 (Nat.not_lt_zero _)
                  | succ d ih =>
                    intro e1 hi hd hbi hrun H locs hP hD hS ls hl
                    refine lv_aload_n hx hb dX7_goes_113 rfl (lv_at hl 2 rfl) ?_
                    refine va_get (D := D) (ci := 7) (v := .int (nI e1)) (C := RX7) (T := TX7) (N := 11) hx hb hts (by decide +kernel) hown hK.1 hP 0 rfl rfl 6 (by decide) (hts (.fieldLink RX7 85 "ParkingGarageModel" "next" "I") (by decide +kernel)) (fun _ h9 => h9) rfl dX7_goes_114 ?_
                    refine lv_aload_n hx hb dX7_goes_117 rfl (lv_at hl 2 rfl) ?_
                    refine va_get (D := D) (ci := 7) (v := .int (nI L)) (C := RX7) (T := TX7) (N := 11) hx hb hts (by decide +kernel) hown hK.1 hP 0 rfl rfl 5 (by decide) (hts (.fieldLink RX7 82 "ParkingGarageModel" "typed" "I") (by decide +kernel)) (fun _ h9 => h9) rfl dX7_goes_118 ?_
                    refine lv_icmp_ge (tgt := 183) hx hb dX7_goes_121 (by decide) (fun c_9 => ?_) (fun c_9 => ?_)
                    · -- c_9: nI e1 ≥ nI L
                      have hge2 : e1 = L := nI_geD (n := L) rfl hi (by omega) c_9
                      have hbk : Beh f L 97 122 b e1 := ⟨hrun, by omega, fun q => absurd q.1 (by omega)⟩
                      refine lv_aload_n hx hb dX7_goes_183 rfl (lv_at hl 2 rfl) ?_
                      refine lv_iload_n hx hb dX7_goes_184 rfl (lv_at hl 0 rfl) ?_
                      refine if_eq_t (tgt := 192) hx hb rfl dX7_goes_185 (by decide) ?_
                      refine lv_bipush (v := -9) hx hb dX7_goes_192 (by decide) ?_
                      refine va_put (D := D) (ci := 7) (v := .int (-9)) (ty := .int) (C := RX7) (T := TX7) (N := 11) hx hb hts (by decide +kernel) tyX7 tyX7_ok nmX7 hown hK.1 hP hD hS 0 rfl rfl 9 (by decide) (hts (.fieldLink RX7 95 "ParkingGarageModel" "number" "I") (by decide +kernel)) (fun _ h9 => h9) rfl (by decide +kernel) rfl rfl (Nat.le_of_ble_eq_true rfl) dX7_goes_194 (fun H locs hP hD hS => ?_)
                      have hP : va_P D vwCl [(ma 0, oE 7 [.ref (ma 1), .ref (ma 2), .int (fi 0), .ref (ma 3), .ref (ma 4), .int (nI L), .int (nI e1), .int (nI b), .long (0), .int (-9), .int (wr)]), (ma 4, iE cB 120 (bt f))] H := hP
                      have hD : va_D A [(ma 0, oE 7 [.ref (ma 1), .ref (ma 2), .int (fi 0), .ref (ma 3), .ref (ma 4), .int (nI L), .int (nI e1), .int (nI b), .long (0), .int (-9), .int (wr)]), (ma 4, iE cB 120 (bt f))] := hD
                      refine lv_aload_n hx hb dX7_goes_197 rfl (lv_at hl 2 rfl) ?_
                      refine va_get (D := D) (ci := 7) (v := .int (nI b)) (C := RX7) (T := TX7) (N := 11) hx hb hts (by decide +kernel) hown hK.1 hP 0 rfl rfl 7 (by decide) (hts (.fieldLink RX7 88 "ParkingGarageModel" "begin" "I") (by decide +kernel)) (fun _ h9 => h9) rfl dX7_goes_198 ?_
                      refine lv_istore_n (lv' := [(3, .int (nI b)), (2, .int (0)), (1, .int (1)), (0, .ref (ma 0))]) hx hb dX7_goes_201 rfl hl (by decide) rfl (fun ls hl => ?_)
                      have hbe : b ≤ e1 := by omega
                      have heL : e1 ≤ L := by omega
                      rcases Nat.lt_or_ge (e1 - b) 8 with h8 | h8
                      · -- short
                        have hloop : ∀ (d i : Nat), i ≤ e1 → e1 - i < d → (b ≤ i) → ∀ (H : Heap) (locs : List Loc), va_P D vwCl [(ma 0, oE 7 [.ref (ma 1), .ref (ma 2), .int (fi 0), .ref (ma 3), .ref (ma 4), .int (nI L), .int (nI e1), .int (nI b), .long (wH f b (i - b)), .int (-9), .int (wr)]), (ma 4, iE cB 120 (bt f))] H → va_D A [(ma 0, oE 7 [.ref (ma 1), .ref (ma 2), .int (fi 0), .ref (ma 3), .ref (ma 4), .int (nI L), .int (nI e1), .int (nI b), .long (wH f b (i - b)), .int (-9), .int (wr)]), (ma 4, iE cB 120 (bt f))] → va_S A s.heap H locs → ∀ ls : Array Slot, lv_has ls 4 [(3, .int (nI i)), (2, .int (0)), (1, .int (1)), (0, .ref (ma 0))] → W p l e ({ frames := 1, cells := 0, slots := 0, locals := 22 } : Room) s m (([.ref (ma 0)] : List Value).toArray) below meth c H locs 0 0 (MQ below (va_Qv (fun u : TKN => GoT f L p0 u) (wrB D A (fun u => [(ma 0, oE 7 [.ref (ma 1), .ref (ma 2), .int (fi 0), .ref (ma 3), .ref (ma 4), .int (nI L), .int (nI u.2.2.1), .int (nI u.2.1), .long (u.2.2.2.1), .int (u.2.2.2.2), .int (wr)]), (ma 4, iE cB 120 (bt f))])) A) (([.ref (ma 0)] : List Value).toArray) s 0 0 A) (F0 m 202 ls []) := by
                          intro d
                          induction d with
                          | zero => intro i _ h2; exact absurd h2 (Nat.not_lt_zero _)
                          | succ d ih =>
                            intro i hi hd hbi3 H locs hP hD hS ls hl
                            refine lv_iload_n hx hb dX7_goes_202 rfl (lv_at hl 0 rfl) ?_
                            refine lv_aload_n hx hb dX7_goes_203 rfl (lv_at hl 3 rfl) ?_
                            refine va_get (D := D) (ci := 7) (v := .int (nI e1)) (C := RX7) (T := TX7) (N := 11) hx hb hts (by decide +kernel) hown hK.1 hP 0 rfl rfl 6 (by decide) (hts (.fieldLink RX7 85 "ParkingGarageModel" "next" "I") (by decide +kernel)) (fun _ h9 => h9) rfl dX7_goes_204 ?_
                            refine lv_icmp_ge (tgt := 299) hx hb dX7_goes_207 (by decide) (fun c_10 => ?_) (fun c_10 => ?_)
                            · -- c_10: nI i ≥ nI e1
                              have hge3 : i = e1 := nI_geD (n := e1) rfl hi (by omega) c_10
                              rw [hge3] at hP hD
                              have hP : va_P D vwCl [(ma 0, oE 7 [.ref (ma 1), .ref (ma 2), .int (fi 0), .ref (ma 3), .ref (ma 4), .int (nI L), .int (nI e1), .int (nI b), .long (wH f b (e1 - b)), .int (-9), .int (wr)]), (ma 4, iE cB 120 (bt f))] H := hP
                              have hD : va_D A [(ma 0, oE 7 [.ref (ma 1), .ref (ma 2), .int (fi 0), .ref (ma 3), .ref (ma 4), .int (nI L), .int (nI e1), .int (nI b), .long (wH f b (e1 - b)), .int (-9), .int (wr)]), (ma 4, iE cB 120 (bt f))] := hD
                              refine lv_aload_n hx hb dX7_goes_299 rfl (lv_at hl 3 rfl) ?_
                              refine lv_iload_n hx hb dX7_goes_300 rfl (lv_at hl 1 rfl) ?_
                              refine if_eq_t (tgt := 336) hx hb rfl dX7_goes_301 (by decide) ?_
                              refine lv_aload_n hx hb dX7_goes_336 rfl (lv_at hl 3 rfl) ?_
                              refine va_get (D := D) (ci := 7) (v := .int (-9)) (C := RX7) (T := TX7) (N := 11) hx hb hts (by decide +kernel) hown hK.1 hP 0 rfl rfl 9 (by decide) (hts (.fieldLink RX7 95 "ParkingGarageModel" "number" "I") (by decide +kernel)) (fun _ h9 => h9) rfl dX7_goes_337 ?_
                              refine va_put (D := D) (ci := 7) (v := .int (-9)) (ty := .int) (C := RX7) (T := TX7) (N := 11) hx hb hts (by decide +kernel) tyX7 tyX7_ok nmX7 hown hK.1 hP hD hS 0 rfl rfl 9 (by decide) (hts (.fieldLink RX7 95 "ParkingGarageModel" "number" "I") (by decide +kernel)) (fun _ h9 => h9) rfl (by decide +kernel) rfl rfl (Nat.le_of_ble_eq_true rfl) dX7_goes_340 (fun H locs hP hD hS => ?_)
                              have hP : va_P D vwCl [(ma 0, oE 7 [.ref (ma 1), .ref (ma 2), .int (fi 0), .ref (ma 3), .ref (ma 4), .int (nI L), .int (nI e1), .int (nI b), .long (wH f b (e1 - b)), .int (-9), .int (wr)]), (ma 4, iE cB 120 (bt f))] H := hP
                              have hD : va_D A [(ma 0, oE 7 [.ref (ma 1), .ref (ma 2), .int (fi 0), .ref (ma 3), .ref (ma 4), .int (nI L), .int (nI e1), .int (nI b), .long (wH f b (e1 - b)), .int (-9), .int (wr)]), (ma 4, iE cB 120 (bt f))] := hD
                              exact wr_vret ((1, b, e1, wH f b (e1 - b), -9)) hx hb hr hlocks hS hP hD [0, 1] rfl rfl (by decide) dX7_goes_343 ((show Tok f L p0 1 b e1 ∧ WdOf f 1 b e1 (wH f b (e1 - b)) ∧ NmOf f 1 b e1 (-9) from ⟨⟨hbeh, Or.inr (Or.inl ⟨hlt, hkL, rfl, hbk⟩)⟩, wd_word hbe (fun q h1 h2 => (hrun q h1 h2).2) h8, nm_none (by decide)⟩))
                            · -- c_10: not nI i ≥ nI e1
                              have hlt3 : i < e1 := nI_ltD (n := e1) rfl hi (by omega) c_10
                              refine lv_aload_n hx hb dX7_goes_210 rfl (lv_at hl 3 rfl) ?_
                              refine lv_iload_n hx hb dX7_goes_211 rfl (lv_at hl 2 rfl) ?_
                              refine if_eq_f (tgt := 252) hx hb (by decide) dX7_goes_212 (by decide) ?_
                              refine lv_aload_n hx hb dX7_goes_215 rfl (lv_at hl 3 rfl) ?_
                              refine va_get (D := D) (ci := 7) (v := .int (nI e1)) (C := RX7) (T := TX7) (N := 11) hx hb hts (by decide +kernel) hown hK.1 hP 0 rfl rfl 6 (by decide) (hts (.fieldLink RX7 85 "ParkingGarageModel" "next" "I") (by decide +kernel)) (fun _ h9 => h9) rfl dX7_goes_216 ?_
                              refine lv_aload_n hx hb dX7_goes_219 rfl (lv_at hl 3 rfl) ?_
                              refine va_get (D := D) (ci := 7) (v := .int (nI b)) (C := RX7) (T := TX7) (N := 11) hx hb hts (by decide +kernel) hown hK.1 hP 0 rfl rfl 7 (by decide) (hts (.fieldLink RX7 88 "ParkingGarageModel" "begin" "I") (by decide +kernel)) (fun _ h9 => h9) rfl dX7_goes_220 ?_
                              refine lv_isub hx hb dX7_goes_223 ?_
                              rw [show (((nI e1) - (nI b)) : Int32) = nI (e1 - b) from (pk_subn (by omega))]
                              refine lv_bipush (v := 8) hx hb dX7_goes_224 (by decide) ?_
                              refine lv_icmp_ge (tgt := 252) hx hb dX7_goes_226 (by decide) (fun c_11 => ?_) (fun c_11 => ?_)
                              · -- c_11: nI (e1 - b) ≥ 8
                                exact absurd (nI_lt h8 (by omega)) (Int32.not_lt.mpr c_11)
                              · -- c_11: not nI (e1 - b) ≥ 8
                                refine lv_ldc2 (v := 27) hx hb hown (hts (.constantLong RX7 98 27) (by decide +kernel)) dX7_goes_229 ?_
                                refine lv_aload_n hx hb dX7_goes_232 rfl (lv_at hl 3 rfl) ?_
                                refine va_get (D := D) (ci := 7) (v := .long (wH f b (i - b))) (C := RX7) (T := TX7) (N := 11) hx hb hts (by decide +kernel) hown hK.1 hP 0 rfl rfl 8 (by decide) (hts (.fieldLink RX7 91 "ParkingGarageModel" "word" "J") (by decide +kernel)) (fun _ h9 => h9) rfl dX7_goes_233 ?_
                                refine lv_lmul hx hb dX7_goes_236 ?_
                                refine lv_aload_n hx hb dX7_goes_237 rfl (lv_at hl 3 rfl) ?_
                                refine va_get (D := D) (ci := 7) (v := .ref (ma 4)) (C := RX7) (T := TX7) (N := 11) hx hb hts (by decide +kernel) hown hK.1 hP 0 rfl rfl 4 (by decide) (hts (.fieldLink RX7 19 "ParkingGarageModel" "text" "[B") (by decide +kernel)) (fun _ h9 => h9) rfl dX7_goes_238 ?_
                                refine lv_iload_n hx hb dX7_goes_241 rfl (lv_at hl 0 rfl) ?_
                                refine bald_n (f := bt f) hx hb hK.1 hP 1 2 rfl rfl (i) (rfl) (by omega) (by omega) dX7_goes_242 ?_
                                refine lv_i2l (v := ((bt f) (i)).toInt64) hx hb dX7_goes_243 rfl ?_
                                refine lv_ladd hx hb dX7_goes_244 ?_
                                refine lv_ldc2 (v := 96) hx hb hown (hts (.constantLong RX7 100 96) (by decide +kernel)) dX7_goes_245 ?_
                                refine lv_lsub hx hb dX7_goes_248 ?_
                                refine lv_goto (tgt := 253) hx hb dX7_goes_249 (by decide) ?_
                                rw [wH_s hbi3]
                                refine va_put (D := D) (ci := 7) (v := .long (wH f b (i + 1 - b))) (ty := .long) (C := RX7) (T := TX7) (N := 11) hx hb hts (by decide +kernel) tyX7 tyX7_ok nmX7 hown hK.1 hP hD hS 0 rfl rfl 8 (by decide) (hts (.fieldLink RX7 91 "ParkingGarageModel" "word" "J") (by decide +kernel)) (fun _ h9 => h9) rfl (by decide +kernel) rfl rfl (Nat.le_of_ble_eq_true rfl) dX7_goes_253 (fun H locs hP hD hS => ?_)
                                have hP : va_P D vwCl [(ma 0, oE 7 [.ref (ma 1), .ref (ma 2), .int (fi 0), .ref (ma 3), .ref (ma 4), .int (nI L), .int (nI e1), .int (nI b), .long (wH f b (i + 1 - b)), .int (-9), .int (wr)]), (ma 4, iE cB 120 (bt f))] H := hP
                                have hD : va_D A [(ma 0, oE 7 [.ref (ma 1), .ref (ma 2), .int (fi 0), .ref (ma 3), .ref (ma 4), .int (nI L), .int (nI e1), .int (nI b), .long (wH f b (i + 1 - b)), .int (-9), .int (wr)]), (ma 4, iE cB 120 (bt f))] := hD
                                refine lv_aload_n hx hb dX7_goes_256 rfl (lv_at hl 3 rfl) ?_
                                refine lv_iload_n hx hb dX7_goes_257 rfl (lv_at hl 1 rfl) ?_
                                refine if_eq_t (tgt := 286) hx hb rfl dX7_goes_258 (by decide) ?_
                                refine lv_aload_n hx hb dX7_goes_286 rfl (lv_at hl 3 rfl) ?_
                                refine va_get (D := D) (ci := 7) (v := .int (-9)) (C := RX7) (T := TX7) (N := 11) hx hb hts (by decide +kernel) hown hK.1 hP 0 rfl rfl 9 (by decide) (hts (.fieldLink RX7 95 "ParkingGarageModel" "number" "I") (by decide +kernel)) (fun _ h9 => h9) rfl dX7_goes_287 ?_
                                refine va_put (D := D) (ci := 7) (v := .int (-9)) (ty := .int) (C := RX7) (T := TX7) (N := 11) hx hb hts (by decide +kernel) tyX7 tyX7_ok nmX7 hown hK.1 hP hD hS 0 rfl rfl 9 (by decide) (hts (.fieldLink RX7 95 "ParkingGarageModel" "number" "I") (by decide +kernel)) (fun _ h9 => h9) rfl (by decide +kernel) rfl rfl (Nat.le_of_ble_eq_true rfl) dX7_goes_290 (fun H locs hP hD hS => ?_)
                                have hP : va_P D vwCl [(ma 0, oE 7 [.ref (ma 1), .ref (ma 2), .int (fi 0), .ref (ma 3), .ref (ma 4), .int (nI L), .int (nI e1), .int (nI b), .long (wH f b (i + 1 - b)), .int (-9), .int (wr)]), (ma 4, iE cB 120 (bt f))] H := hP
                                have hD : va_D A [(ma 0, oE 7 [.ref (ma 1), .ref (ma 2), .int (fi 0), .ref (ma 3), .ref (ma 4), .int (nI L), .int (nI e1), .int (nI b), .long (wH f b (i + 1 - b)), .int (-9), .int (wr)]), (ma 4, iE cB 120 (bt f))] := hD
                                refine lv_iinc (v := nI (i + 1)) (lv' := [(3, .int (nI (i + 1))), (2, .int (0)), (1, .int (1)), (0, .ref (ma 0))]) hx hb dX7_goes_293 hl (k := 0) rfl (nI_1 _) (by decide) rfl (fun ls hl => ?_)
                                refine lv_goto (tgt := 202) hx hb dX7_goes_296 (by decide) ?_
                                exact ih (i + 1) (by omega) (by omega) (by omega) _ _ hP hD hS ls (lv_sub hl [0, 1, 2, 3] rfl)
                        have hP : va_P D vwCl [(ma 0, oE 7 [.ref (ma 1), .ref (ma 2), .int (fi 0), .ref (ma 3), .ref (ma 4), .int (nI L), .int (nI e1), .int (nI b), .long (wH f b (b - b)), .int (-9), .int (wr)]), (ma 4, iE cB 120 (bt f))] H := by rw [Nat.sub_self]; exact hP
                        have hD : va_D A [(ma 0, oE 7 [.ref (ma 1), .ref (ma 2), .int (fi 0), .ref (ma 3), .ref (ma 4), .int (nI L), .int (nI e1), .int (nI b), .long (wH f b (b - b)), .int (-9), .int (wr)]), (ma 4, iE cB 120 (bt f))] := by rw [Nat.sub_self]; exact hD
                        exact hloop (e1 + 1) (b) (by omega) (by omega) (Nat.le_refl b) _ _ hP hD hS ls (lv_sub hl [0, 1, 2, 3] rfl)
                      · -- long
                        have hloop : ∀ (d i : Nat), i ≤ e1 → e1 - i < d → (b ≤ i) → ∀ (H : Heap) (locs : List Loc), va_P D vwCl [(ma 0, oE 7 [.ref (ma 1), .ref (ma 2), .int (fi 0), .ref (ma 3), .ref (ma 4), .int (nI L), .int (nI e1), .int (nI b), .long (0), .int (-9), .int (wr)]), (ma 4, iE cB 120 (bt f))] H → va_D A [(ma 0, oE 7 [.ref (ma 1), .ref (ma 2), .int (fi 0), .ref (ma 3), .ref (ma 4), .int (nI L), .int (nI e1), .int (nI b), .long (0), .int (-9), .int (wr)]), (ma 4, iE cB 120 (bt f))] → va_S A s.heap H locs → ∀ ls : Array Slot, lv_has ls 4 [(3, .int (nI i)), (2, .int (0)), (1, .int (1)), (0, .ref (ma 0))] → W p l e ({ frames := 1, cells := 0, slots := 0, locals := 22 } : Room) s m (([.ref (ma 0)] : List Value).toArray) below meth c H locs 0 0 (MQ below (va_Qv (fun u : TKN => GoT f L p0 u) (wrB D A (fun u => [(ma 0, oE 7 [.ref (ma 1), .ref (ma 2), .int (fi 0), .ref (ma 3), .ref (ma 4), .int (nI L), .int (nI u.2.2.1), .int (nI u.2.1), .long (u.2.2.2.1), .int (u.2.2.2.2), .int (wr)]), (ma 4, iE cB 120 (bt f))])) A) (([.ref (ma 0)] : List Value).toArray) s 0 0 A) (F0 m 202 ls []) := by
                          intro d
                          induction d with
                          | zero => intro i _ h2; exact absurd h2 (Nat.not_lt_zero _)
                          | succ d ih =>
                            intro i hi hd hbi3 H locs hP hD hS ls hl
                            refine lv_iload_n hx hb dX7_goes_202 rfl (lv_at hl 0 rfl) ?_
                            refine lv_aload_n hx hb dX7_goes_203 rfl (lv_at hl 3 rfl) ?_
                            refine va_get (D := D) (ci := 7) (v := .int (nI e1)) (C := RX7) (T := TX7) (N := 11) hx hb hts (by decide +kernel) hown hK.1 hP 0 rfl rfl 6 (by decide) (hts (.fieldLink RX7 85 "ParkingGarageModel" "next" "I") (by decide +kernel)) (fun _ h9 => h9) rfl dX7_goes_204 ?_
                            refine lv_icmp_ge (tgt := 299) hx hb dX7_goes_207 (by decide) (fun c_12 => ?_) (fun c_12 => ?_)
                            · -- c_12: nI i ≥ nI e1
                              have hge3 : i = e1 := nI_geD (n := e1) rfl hi (by omega) c_12
                              skip
                              have hP : va_P D vwCl [(ma 0, oE 7 [.ref (ma 1), .ref (ma 2), .int (fi 0), .ref (ma 3), .ref (ma 4), .int (nI L), .int (nI e1), .int (nI b), .long (0), .int (-9), .int (wr)]), (ma 4, iE cB 120 (bt f))] H := hP
                              have hD : va_D A [(ma 0, oE 7 [.ref (ma 1), .ref (ma 2), .int (fi 0), .ref (ma 3), .ref (ma 4), .int (nI L), .int (nI e1), .int (nI b), .long (0), .int (-9), .int (wr)]), (ma 4, iE cB 120 (bt f))] := hD
                              refine lv_aload_n hx hb dX7_goes_299 rfl (lv_at hl 3 rfl) ?_
                              refine lv_iload_n hx hb dX7_goes_300 rfl (lv_at hl 1 rfl) ?_
                              refine if_eq_t (tgt := 336) hx hb rfl dX7_goes_301 (by decide) ?_
                              refine lv_aload_n hx hb dX7_goes_336 rfl (lv_at hl 3 rfl) ?_
                              refine va_get (D := D) (ci := 7) (v := .int (-9)) (C := RX7) (T := TX7) (N := 11) hx hb hts (by decide +kernel) hown hK.1 hP 0 rfl rfl 9 (by decide) (hts (.fieldLink RX7 95 "ParkingGarageModel" "number" "I") (by decide +kernel)) (fun _ h9 => h9) rfl dX7_goes_337 ?_
                              refine va_put (D := D) (ci := 7) (v := .int (-9)) (ty := .int) (C := RX7) (T := TX7) (N := 11) hx hb hts (by decide +kernel) tyX7 tyX7_ok nmX7 hown hK.1 hP hD hS 0 rfl rfl 9 (by decide) (hts (.fieldLink RX7 95 "ParkingGarageModel" "number" "I") (by decide +kernel)) (fun _ h9 => h9) rfl (by decide +kernel) rfl rfl (Nat.le_of_ble_eq_true rfl) dX7_goes_340 (fun H locs hP hD hS => ?_)
                              have hP : va_P D vwCl [(ma 0, oE 7 [.ref (ma 1), .ref (ma 2), .int (fi 0), .ref (ma 3), .ref (ma 4), .int (nI L), .int (nI e1), .int (nI b), .long (0), .int (-9), .int (wr)]), (ma 4, iE cB 120 (bt f))] H := hP
                              have hD : va_D A [(ma 0, oE 7 [.ref (ma 1), .ref (ma 2), .int (fi 0), .ref (ma 3), .ref (ma 4), .int (nI L), .int (nI e1), .int (nI b), .long (0), .int (-9), .int (wr)]), (ma 4, iE cB 120 (bt f))] := hD
                              exact wr_vret ((1, b, e1, 0, -9)) hx hb hr hlocks hS hP hD [0, 1] rfl rfl (by decide) dX7_goes_343 ((show Tok f L p0 1 b e1 ∧ WdOf f 1 b e1 (0) ∧ NmOf f 1 b e1 (-9) from ⟨⟨hbeh, Or.inr (Or.inl ⟨hlt, hkL, rfl, hbk⟩)⟩, wd_zero (fun q => absurd q.2 (by omega)), nm_none (by decide)⟩))
                            · -- c_12: not nI i ≥ nI e1
                              have hlt3 : i < e1 := nI_ltD (n := e1) rfl hi (by omega) c_12
                              refine lv_aload_n hx hb dX7_goes_210 rfl (lv_at hl 3 rfl) ?_
                              refine lv_iload_n hx hb dX7_goes_211 rfl (lv_at hl 2 rfl) ?_
                              refine if_eq_f (tgt := 252) hx hb (by decide) dX7_goes_212 (by decide) ?_
                              refine lv_aload_n hx hb dX7_goes_215 rfl (lv_at hl 3 rfl) ?_
                              refine va_get (D := D) (ci := 7) (v := .int (nI e1)) (C := RX7) (T := TX7) (N := 11) hx hb hts (by decide +kernel) hown hK.1 hP 0 rfl rfl 6 (by decide) (hts (.fieldLink RX7 85 "ParkingGarageModel" "next" "I") (by decide +kernel)) (fun _ h9 => h9) rfl dX7_goes_216 ?_
                              refine lv_aload_n hx hb dX7_goes_219 rfl (lv_at hl 3 rfl) ?_
                              refine va_get (D := D) (ci := 7) (v := .int (nI b)) (C := RX7) (T := TX7) (N := 11) hx hb hts (by decide +kernel) hown hK.1 hP 0 rfl rfl 7 (by decide) (hts (.fieldLink RX7 88 "ParkingGarageModel" "begin" "I") (by decide +kernel)) (fun _ h9 => h9) rfl dX7_goes_220 ?_
                              refine lv_isub hx hb dX7_goes_223 ?_
                              rw [show (((nI e1) - (nI b)) : Int32) = nI (e1 - b) from (pk_subn (by omega))]
                              refine lv_bipush (v := 8) hx hb dX7_goes_224 (by decide) ?_
                              refine lv_icmp_ge (tgt := 252) hx hb dX7_goes_226 (by decide) (fun c_13 => ?_) (fun c_13 => ?_)
                              · -- c_13: nI (e1 - b) ≥ 8
                                refine lv_lconst (v := 0) hx hb dX7_goes_252 (by decide) ?_
                                refine va_put (D := D) (ci := 7) (v := .long (0)) (ty := .long) (C := RX7) (T := TX7) (N := 11) hx hb hts (by decide +kernel) tyX7 tyX7_ok nmX7 hown hK.1 hP hD hS 0 rfl rfl 8 (by decide) (hts (.fieldLink RX7 91 "ParkingGarageModel" "word" "J") (by decide +kernel)) (fun _ h9 => h9) rfl (by decide +kernel) rfl rfl (Nat.le_of_ble_eq_true rfl) dX7_goes_253 (fun H locs hP hD hS => ?_)
                                have hP : va_P D vwCl [(ma 0, oE 7 [.ref (ma 1), .ref (ma 2), .int (fi 0), .ref (ma 3), .ref (ma 4), .int (nI L), .int (nI e1), .int (nI b), .long (0), .int (-9), .int (wr)]), (ma 4, iE cB 120 (bt f))] H := hP
                                have hD : va_D A [(ma 0, oE 7 [.ref (ma 1), .ref (ma 2), .int (fi 0), .ref (ma 3), .ref (ma 4), .int (nI L), .int (nI e1), .int (nI b), .long (0), .int (-9), .int (wr)]), (ma 4, iE cB 120 (bt f))] := hD
                                refine lv_aload_n hx hb dX7_goes_256 rfl (lv_at hl 3 rfl) ?_
                                refine lv_iload_n hx hb dX7_goes_257 rfl (lv_at hl 1 rfl) ?_
                                refine if_eq_t (tgt := 286) hx hb rfl dX7_goes_258 (by decide) ?_
                                refine lv_aload_n hx hb dX7_goes_286 rfl (lv_at hl 3 rfl) ?_
                                refine va_get (D := D) (ci := 7) (v := .int (-9)) (C := RX7) (T := TX7) (N := 11) hx hb hts (by decide +kernel) hown hK.1 hP 0 rfl rfl 9 (by decide) (hts (.fieldLink RX7 95 "ParkingGarageModel" "number" "I") (by decide +kernel)) (fun _ h9 => h9) rfl dX7_goes_287 ?_
                                refine va_put (D := D) (ci := 7) (v := .int (-9)) (ty := .int) (C := RX7) (T := TX7) (N := 11) hx hb hts (by decide +kernel) tyX7 tyX7_ok nmX7 hown hK.1 hP hD hS 0 rfl rfl 9 (by decide) (hts (.fieldLink RX7 95 "ParkingGarageModel" "number" "I") (by decide +kernel)) (fun _ h9 => h9) rfl (by decide +kernel) rfl rfl (Nat.le_of_ble_eq_true rfl) dX7_goes_290 (fun H locs hP hD hS => ?_)
                                have hP : va_P D vwCl [(ma 0, oE 7 [.ref (ma 1), .ref (ma 2), .int (fi 0), .ref (ma 3), .ref (ma 4), .int (nI L), .int (nI e1), .int (nI b), .long (0), .int (-9), .int (wr)]), (ma 4, iE cB 120 (bt f))] H := hP
                                have hD : va_D A [(ma 0, oE 7 [.ref (ma 1), .ref (ma 2), .int (fi 0), .ref (ma 3), .ref (ma 4), .int (nI L), .int (nI e1), .int (nI b), .long (0), .int (-9), .int (wr)]), (ma 4, iE cB 120 (bt f))] := hD
                                refine lv_iinc (v := nI (i + 1)) (lv' := [(3, .int (nI (i + 1))), (2, .int (0)), (1, .int (1)), (0, .ref (ma 0))]) hx hb dX7_goes_293 hl (k := 0) rfl (nI_1 _) (by decide) rfl (fun ls hl => ?_)
                                refine lv_goto (tgt := 202) hx hb dX7_goes_296 (by decide) ?_
                                exact ih (i + 1) (by omega) (by omega) (by omega) _ _ hP hD hS ls (lv_sub hl [0, 1, 2, 3] rfl)
                              · -- c_13: not nI (e1 - b) ≥ 8
                                exact absurd (nI_le h8 (by omega)) c_13
                        exact hloop (e1 + 1) (b) (by omega) (by omega) (Nat.le_refl b) _ _ hP hD hS ls (lv_sub hl [0, 1, 2, 3] rfl)
                    · -- c_9: not nI e1 ≥ nI L
                      have hlt2 : e1 < L := nI_ltD (n := L) rfl hi (by omega) c_9
                      refine lv_iload_n hx hb dX7_goes_124 rfl (lv_at hl 1 rfl) ?_
                      refine if_eq_f (tgt := 147) hx hb (by decide) dX7_goes_125 (by decide) ?_
                      refine lv_aload_n hx hb dX7_goes_128 rfl (lv_at hl 2 rfl) ?_
                      refine va_get (D := D) (ci := 7) (v := .ref (ma 4)) (C := RX7) (T := TX7) (N := 11) hx hb hts (by decide +kernel) hown hK.1 hP 0 rfl rfl 4 (by decide) (hts (.fieldLink RX7 19 "ParkingGarageModel" "text" "[B") (by decide +kernel)) (fun _ h9 => h9) rfl dX7_goes_129 ?_
                      refine lv_aload_n hx hb dX7_goes_132 rfl (lv_at hl 2 rfl) ?_
                      refine va_get (D := D) (ci := 7) (v := .int (nI e1)) (C := RX7) (T := TX7) (N := 11) hx hb hts (by decide +kernel) hown hK.1 hP 0 rfl rfl 6 (by decide) (hts (.fieldLink RX7 85 "ParkingGarageModel" "next" "I") (by decide +kernel)) (fun _ h9 => h9) rfl dX7_goes_133 ?_
                      refine bald_n (f := bt f) hx hb hK.1 hP 1 2 rfl rfl (e1) (rfl) (by omega) (by omega) dX7_goes_136 ?_
                      refine lv_bipush (v := 97) hx hb dX7_goes_137 (by decide) ?_
                      refine lv_bipush (v := 122) hx hb dX7_goes_139 (by decide) ?_
                      refine cs_i (As := [.int ((bt f) (e1)), .int (97), .int (122)]) (rest := []) (tys := TYS cI cC cB cS) ⟨hx, hb, hml, hown, hts⟩ (c_X7_in l D cI cC cB cS ((bt f) (e1)) (97) (122)) (va_cwS 3 hts gX7_goes_X7_in rfl rfl rfl (by decide +kernel) ⟨Nat.le_of_ble_eq_true rfl, Nat.le_of_ble_eq_true rfl⟩) hK hP [] rfl rfl rfl hl.1 (Nat.le_of_ble_eq_true rfl) dX7_goes_141 ⟨Nat.le_of_ble_eq_true rfl, Nat.le_of_ble_eq_true rfl⟩ (fun r_14 hr_14 => ?_)
                      rcases (show Yes (97 ≤ (bt f) (e1) ∧ (bt f) (e1) ≤ 122) r_14 from hr_14) with ⟨rfl, h_15⟩ | ⟨rfl, h_15⟩
                      · -- X7_in t
                        have hcc := (bt_L (hch e1 (by omega))).mp h_15
                        refine if_ne_t (tgt := 170) hx hb (by decide) dX7_goes_144 (by decide) ?_
                        refine lv_aload_n hx hb dX7_goes_170 rfl (lv_at hl 2 rfl) ?_
                        refine lv_dup hx hb dX7_goes_171 rfl ?_
                        refine va_get (D := D) (ci := 7) (v := .int (nI e1)) (C := RX7) (T := TX7) (N := 11) hx hb hts (by decide +kernel) hown hK.1 hP 0 rfl rfl 6 (by decide) (hts (.fieldLink RX7 85 "ParkingGarageModel" "next" "I") (by decide +kernel)) (fun _ h9 => h9) rfl dX7_goes_172 ?_
                        refine lv_iconst (v := 1) hx hb dX7_goes_175 (by decide) ?_
                        refine lv_iadd hx hb dX7_goes_176 ?_
                        rw [show (((nI e1) + (1)) : Int32) = nI (e1 + 1) from (nI_add e1 1)]
                        refine va_put (D := D) (ci := 7) (v := .int (nI (e1 + 1))) (ty := .int) (C := RX7) (T := TX7) (N := 11) hx hb hts (by decide +kernel) tyX7 tyX7_ok nmX7 hown hK.1 hP hD hS 0 rfl rfl 6 (by decide) (hts (.fieldLink RX7 85 "ParkingGarageModel" "next" "I") (by decide +kernel)) (fun _ h9 => h9) rfl (by decide +kernel) rfl rfl (Nat.le_of_ble_eq_true rfl) dX7_goes_177 (fun H locs hP hD hS => ?_)
                        have hP : va_P D vwCl [(ma 0, oE 7 [.ref (ma 1), .ref (ma 2), .int (fi 0), .ref (ma 3), .ref (ma 4), .int (nI L), .int (nI (e1 + 1)), .int (nI b), .long (0), .int (-9), .int (wr)]), (ma 4, iE cB 120 (bt f))] H := hP
                        have hD : va_D A [(ma 0, oE 7 [.ref (ma 1), .ref (ma 2), .int (fi 0), .ref (ma 3), .ref (ma 4), .int (nI L), .int (nI (e1 + 1)), .int (nI b), .long (0), .int (-9), .int (wr)]), (ma 4, iE cB 120 (bt f))] := hD
                        refine lv_goto (tgt := 113) hx hb dX7_goes_180 (by decide) ?_
                        exact ih (e1 + 1) (by omega) (by omega) (by omega) (by
      intro q h1 h2
      rcases Nat.lt_or_ge q e1 with z | z
      · exact hrun q h1 z
      · have e9 : q = e1 := by omega
        rw [e9]
        exact ⟨hlt2, hcc⟩) _ _ hP hD hS ls (lv_sub hl [0, 1, 2] rfl)
                      · -- X7_in f
                        have hbk : Beh f L 97 122 b e1 := ⟨hrun, by omega, fun q => h_15 ((bt_L (hch e1 (by omega))).mpr q.2)⟩
                        refine if_ne_f (tgt := 170) hx hb rfl dX7_goes_144 (by decide) ?_
                        refine lv_iload_n hx hb dX7_goes_147 rfl (lv_at hl 0 rfl) ?_
                        refine if_eq_t (tgt := 183) hx hb rfl dX7_goes_148 (by decide) ?_
                        refine lv_aload_n hx hb dX7_goes_183 rfl (lv_at hl 2 rfl) ?_
                        refine lv_iload_n hx hb dX7_goes_184 rfl (lv_at hl 0 rfl) ?_
                        refine if_eq_t (tgt := 192) hx hb rfl dX7_goes_185 (by decide) ?_
                        refine lv_bipush (v := -9) hx hb dX7_goes_192 (by decide) ?_
                        refine va_put (D := D) (ci := 7) (v := .int (-9)) (ty := .int) (C := RX7) (T := TX7) (N := 11) hx hb hts (by decide +kernel) tyX7 tyX7_ok nmX7 hown hK.1 hP hD hS 0 rfl rfl 9 (by decide) (hts (.fieldLink RX7 95 "ParkingGarageModel" "number" "I") (by decide +kernel)) (fun _ h9 => h9) rfl (by decide +kernel) rfl rfl (Nat.le_of_ble_eq_true rfl) dX7_goes_194 (fun H locs hP hD hS => ?_)
                        have hP : va_P D vwCl [(ma 0, oE 7 [.ref (ma 1), .ref (ma 2), .int (fi 0), .ref (ma 3), .ref (ma 4), .int (nI L), .int (nI e1), .int (nI b), .long (0), .int (-9), .int (wr)]), (ma 4, iE cB 120 (bt f))] H := hP
                        have hD : va_D A [(ma 0, oE 7 [.ref (ma 1), .ref (ma 2), .int (fi 0), .ref (ma 3), .ref (ma 4), .int (nI L), .int (nI e1), .int (nI b), .long (0), .int (-9), .int (wr)]), (ma 4, iE cB 120 (bt f))] := hD
                        refine lv_aload_n hx hb dX7_goes_197 rfl (lv_at hl 2 rfl) ?_
                        refine va_get (D := D) (ci := 7) (v := .int (nI b)) (C := RX7) (T := TX7) (N := 11) hx hb hts (by decide +kernel) hown hK.1 hP 0 rfl rfl 7 (by decide) (hts (.fieldLink RX7 88 "ParkingGarageModel" "begin" "I") (by decide +kernel)) (fun _ h9 => h9) rfl dX7_goes_198 ?_
                        refine lv_istore_n (lv' := [(3, .int (nI b)), (2, .int (0)), (1, .int (1)), (0, .ref (ma 0))]) hx hb dX7_goes_201 rfl hl (by decide) rfl (fun ls hl => ?_)
                        have hbe : b ≤ e1 := by omega
                        have heL : e1 ≤ L := by omega
                        rcases Nat.lt_or_ge (e1 - b) 8 with h8 | h8
                        · -- short
                          have hloop : ∀ (d i : Nat), i ≤ e1 → e1 - i < d → (b ≤ i) → ∀ (H : Heap) (locs : List Loc), va_P D vwCl [(ma 0, oE 7 [.ref (ma 1), .ref (ma 2), .int (fi 0), .ref (ma 3), .ref (ma 4), .int (nI L), .int (nI e1), .int (nI b), .long (wH f b (i - b)), .int (-9), .int (wr)]), (ma 4, iE cB 120 (bt f))] H → va_D A [(ma 0, oE 7 [.ref (ma 1), .ref (ma 2), .int (fi 0), .ref (ma 3), .ref (ma 4), .int (nI L), .int (nI e1), .int (nI b), .long (wH f b (i - b)), .int (-9), .int (wr)]), (ma 4, iE cB 120 (bt f))] → va_S A s.heap H locs → ∀ ls : Array Slot, lv_has ls 4 [(3, .int (nI i)), (2, .int (0)), (1, .int (1)), (0, .ref (ma 0))] → W p l e ({ frames := 1, cells := 0, slots := 0, locals := 22 } : Room) s m (([.ref (ma 0)] : List Value).toArray) below meth c H locs 0 0 (MQ below (va_Qv (fun u : TKN => GoT f L p0 u) (wrB D A (fun u => [(ma 0, oE 7 [.ref (ma 1), .ref (ma 2), .int (fi 0), .ref (ma 3), .ref (ma 4), .int (nI L), .int (nI u.2.2.1), .int (nI u.2.1), .long (u.2.2.2.1), .int (u.2.2.2.2), .int (wr)]), (ma 4, iE cB 120 (bt f))])) A) (([.ref (ma 0)] : List Value).toArray) s 0 0 A) (F0 m 202 ls []) := by
                            intro d
                            induction d with
                            | zero => intro i _ h2; exact absurd h2 (Nat.not_lt_zero _)
                            | succ d ih =>
                              intro i hi hd hbi3 H locs hP hD hS ls hl
                              refine lv_iload_n hx hb dX7_goes_202 rfl (lv_at hl 0 rfl) ?_
                              refine lv_aload_n hx hb dX7_goes_203 rfl (lv_at hl 3 rfl) ?_
                              refine va_get (D := D) (ci := 7) (v := .int (nI e1)) (C := RX7) (T := TX7) (N := 11) hx hb hts (by decide +kernel) hown hK.1 hP 0 rfl rfl 6 (by decide) (hts (.fieldLink RX7 85 "ParkingGarageModel" "next" "I") (by decide +kernel)) (fun _ h9 => h9) rfl dX7_goes_204 ?_
                              refine lv_icmp_ge (tgt := 299) hx hb dX7_goes_207 (by decide) (fun c_16 => ?_) (fun c_16 => ?_)
                              · -- c_16: nI i ≥ nI e1
                                have hge3 : i = e1 := nI_geD (n := e1) rfl hi (by omega) c_16
                                rw [hge3] at hP hD
                                have hP : va_P D vwCl [(ma 0, oE 7 [.ref (ma 1), .ref (ma 2), .int (fi 0), .ref (ma 3), .ref (ma 4), .int (nI L), .int (nI e1), .int (nI b), .long (wH f b (e1 - b)), .int (-9), .int (wr)]), (ma 4, iE cB 120 (bt f))] H := hP
                                have hD : va_D A [(ma 0, oE 7 [.ref (ma 1), .ref (ma 2), .int (fi 0), .ref (ma 3), .ref (ma 4), .int (nI L), .int (nI e1), .int (nI b), .long (wH f b (e1 - b)), .int (-9), .int (wr)]), (ma 4, iE cB 120 (bt f))] := hD
                                refine lv_aload_n hx hb dX7_goes_299 rfl (lv_at hl 3 rfl) ?_
                                refine lv_iload_n hx hb dX7_goes_300 rfl (lv_at hl 1 rfl) ?_
                                refine if_eq_t (tgt := 336) hx hb rfl dX7_goes_301 (by decide) ?_
                                refine lv_aload_n hx hb dX7_goes_336 rfl (lv_at hl 3 rfl) ?_
                                refine va_get (D := D) (ci := 7) (v := .int (-9)) (C := RX7) (T := TX7) (N := 11) hx hb hts (by decide +kernel) hown hK.1 hP 0 rfl rfl 9 (by decide) (hts (.fieldLink RX7 95 "ParkingGarageModel" "number" "I") (by decide +kernel)) (fun _ h9 => h9) rfl dX7_goes_337 ?_
                                refine va_put (D := D) (ci := 7) (v := .int (-9)) (ty := .int) (C := RX7) (T := TX7) (N := 11) hx hb hts (by decide +kernel) tyX7 tyX7_ok nmX7 hown hK.1 hP hD hS 0 rfl rfl 9 (by decide) (hts (.fieldLink RX7 95 "ParkingGarageModel" "number" "I") (by decide +kernel)) (fun _ h9 => h9) rfl (by decide +kernel) rfl rfl (Nat.le_of_ble_eq_true rfl) dX7_goes_340 (fun H locs hP hD hS => ?_)
                                have hP : va_P D vwCl [(ma 0, oE 7 [.ref (ma 1), .ref (ma 2), .int (fi 0), .ref (ma 3), .ref (ma 4), .int (nI L), .int (nI e1), .int (nI b), .long (wH f b (e1 - b)), .int (-9), .int (wr)]), (ma 4, iE cB 120 (bt f))] H := hP
                                have hD : va_D A [(ma 0, oE 7 [.ref (ma 1), .ref (ma 2), .int (fi 0), .ref (ma 3), .ref (ma 4), .int (nI L), .int (nI e1), .int (nI b), .long (wH f b (e1 - b)), .int (-9), .int (wr)]), (ma 4, iE cB 120 (bt f))] := hD
                                exact wr_vret ((1, b, e1, wH f b (e1 - b), -9)) hx hb hr hlocks hS hP hD [0, 1] rfl rfl (by decide) dX7_goes_343 ((show Tok f L p0 1 b e1 ∧ WdOf f 1 b e1 (wH f b (e1 - b)) ∧ NmOf f 1 b e1 (-9) from ⟨⟨hbeh, Or.inr (Or.inl ⟨hlt, hkL, rfl, hbk⟩)⟩, wd_word hbe (fun q h1 h2 => (hrun q h1 h2).2) h8, nm_none (by decide)⟩))
                              · -- c_16: not nI i ≥ nI e1
                                have hlt3 : i < e1 := nI_ltD (n := e1) rfl hi (by omega) c_16
                                refine lv_aload_n hx hb dX7_goes_210 rfl (lv_at hl 3 rfl) ?_
                                refine lv_iload_n hx hb dX7_goes_211 rfl (lv_at hl 2 rfl) ?_
                                refine if_eq_f (tgt := 252) hx hb (by decide) dX7_goes_212 (by decide) ?_
                                refine lv_aload_n hx hb dX7_goes_215 rfl (lv_at hl 3 rfl) ?_
                                refine va_get (D := D) (ci := 7) (v := .int (nI e1)) (C := RX7) (T := TX7) (N := 11) hx hb hts (by decide +kernel) hown hK.1 hP 0 rfl rfl 6 (by decide) (hts (.fieldLink RX7 85 "ParkingGarageModel" "next" "I") (by decide +kernel)) (fun _ h9 => h9) rfl dX7_goes_216 ?_
                                refine lv_aload_n hx hb dX7_goes_219 rfl (lv_at hl 3 rfl) ?_
                                refine va_get (D := D) (ci := 7) (v := .int (nI b)) (C := RX7) (T := TX7) (N := 11) hx hb hts (by decide +kernel) hown hK.1 hP 0 rfl rfl 7 (by decide) (hts (.fieldLink RX7 88 "ParkingGarageModel" "begin" "I") (by decide +kernel)) (fun _ h9 => h9) rfl dX7_goes_220 ?_
                                refine lv_isub hx hb dX7_goes_223 ?_
                                rw [show (((nI e1) - (nI b)) : Int32) = nI (e1 - b) from (pk_subn (by omega))]
                                refine lv_bipush (v := 8) hx hb dX7_goes_224 (by decide) ?_
                                refine lv_icmp_ge (tgt := 252) hx hb dX7_goes_226 (by decide) (fun c_17 => ?_) (fun c_17 => ?_)
                                · -- c_17: nI (e1 - b) ≥ 8
                                  exact absurd (nI_lt h8 (by omega)) (Int32.not_lt.mpr c_17)
                                · -- c_17: not nI (e1 - b) ≥ 8
                                  refine lv_ldc2 (v := 27) hx hb hown (hts (.constantLong RX7 98 27) (by decide +kernel)) dX7_goes_229 ?_
                                  refine lv_aload_n hx hb dX7_goes_232 rfl (lv_at hl 3 rfl) ?_
                                  refine va_get (D := D) (ci := 7) (v := .long (wH f b (i - b))) (C := RX7) (T := TX7) (N := 11) hx hb hts (by decide +kernel) hown hK.1 hP 0 rfl rfl 8 (by decide) (hts (.fieldLink RX7 91 "ParkingGarageModel" "word" "J") (by decide +kernel)) (fun _ h9 => h9) rfl dX7_goes_233 ?_
                                  refine lv_lmul hx hb dX7_goes_236 ?_
                                  refine lv_aload_n hx hb dX7_goes_237 rfl (lv_at hl 3 rfl) ?_
                                  refine va_get (D := D) (ci := 7) (v := .ref (ma 4)) (C := RX7) (T := TX7) (N := 11) hx hb hts (by decide +kernel) hown hK.1 hP 0 rfl rfl 4 (by decide) (hts (.fieldLink RX7 19 "ParkingGarageModel" "text" "[B") (by decide +kernel)) (fun _ h9 => h9) rfl dX7_goes_238 ?_
                                  refine lv_iload_n hx hb dX7_goes_241 rfl (lv_at hl 0 rfl) ?_
                                  refine bald_n (f := bt f) hx hb hK.1 hP 1 2 rfl rfl (i) (rfl) (by omega) (by omega) dX7_goes_242 ?_
                                  refine lv_i2l (v := ((bt f) (i)).toInt64) hx hb dX7_goes_243 rfl ?_
                                  refine lv_ladd hx hb dX7_goes_244 ?_
                                  refine lv_ldc2 (v := 96) hx hb hown (hts (.constantLong RX7 100 96) (by decide +kernel)) dX7_goes_245 ?_
                                  refine lv_lsub hx hb dX7_goes_248 ?_
                                  refine lv_goto (tgt := 253) hx hb dX7_goes_249 (by decide) ?_
                                  rw [wH_s hbi3]
                                  refine va_put (D := D) (ci := 7) (v := .long (wH f b (i + 1 - b))) (ty := .long) (C := RX7) (T := TX7) (N := 11) hx hb hts (by decide +kernel) tyX7 tyX7_ok nmX7 hown hK.1 hP hD hS 0 rfl rfl 8 (by decide) (hts (.fieldLink RX7 91 "ParkingGarageModel" "word" "J") (by decide +kernel)) (fun _ h9 => h9) rfl (by decide +kernel) rfl rfl (Nat.le_of_ble_eq_true rfl) dX7_goes_253 (fun H locs hP hD hS => ?_)
                                  have hP : va_P D vwCl [(ma 0, oE 7 [.ref (ma 1), .ref (ma 2), .int (fi 0), .ref (ma 3), .ref (ma 4), .int (nI L), .int (nI e1), .int (nI b), .long (wH f b (i + 1 - b)), .int (-9), .int (wr)]), (ma 4, iE cB 120 (bt f))] H := hP
                                  have hD : va_D A [(ma 0, oE 7 [.ref (ma 1), .ref (ma 2), .int (fi 0), .ref (ma 3), .ref (ma 4), .int (nI L), .int (nI e1), .int (nI b), .long (wH f b (i + 1 - b)), .int (-9), .int (wr)]), (ma 4, iE cB 120 (bt f))] := hD
                                  refine lv_aload_n hx hb dX7_goes_256 rfl (lv_at hl 3 rfl) ?_
                                  refine lv_iload_n hx hb dX7_goes_257 rfl (lv_at hl 1 rfl) ?_
                                  refine if_eq_t (tgt := 286) hx hb rfl dX7_goes_258 (by decide) ?_
                                  refine lv_aload_n hx hb dX7_goes_286 rfl (lv_at hl 3 rfl) ?_
                                  refine va_get (D := D) (ci := 7) (v := .int (-9)) (C := RX7) (T := TX7) (N := 11) hx hb hts (by decide +kernel) hown hK.1 hP 0 rfl rfl 9 (by decide) (hts (.fieldLink RX7 95 "ParkingGarageModel" "number" "I") (by decide +kernel)) (fun _ h9 => h9) rfl dX7_goes_287 ?_
                                  refine va_put (D := D) (ci := 7) (v := .int (-9)) (ty := .int) (C := RX7) (T := TX7) (N := 11) hx hb hts (by decide +kernel) tyX7 tyX7_ok nmX7 hown hK.1 hP hD hS 0 rfl rfl 9 (by decide) (hts (.fieldLink RX7 95 "ParkingGarageModel" "number" "I") (by decide +kernel)) (fun _ h9 => h9) rfl (by decide +kernel) rfl rfl (Nat.le_of_ble_eq_true rfl) dX7_goes_290 (fun H locs hP hD hS => ?_)
                                  have hP : va_P D vwCl [(ma 0, oE 7 [.ref (ma 1), .ref (ma 2), .int (fi 0), .ref (ma 3), .ref (ma 4), .int (nI L), .int (nI e1), .int (nI b), .long (wH f b (i + 1 - b)), .int (-9), .int (wr)]), (ma 4, iE cB 120 (bt f))] H := hP
                                  have hD : va_D A [(ma 0, oE 7 [.ref (ma 1), .ref (ma 2), .int (fi 0), .ref (ma 3), .ref (ma 4), .int (nI L), .int (nI e1), .int (nI b), .long (wH f b (i + 1 - b)), .int (-9), .int (wr)]), (ma 4, iE cB 120 (bt f))] := hD
                                  refine lv_iinc (v := nI (i + 1)) (lv' := [(3, .int (nI (i + 1))), (2, .int (0)), (1, .int (1)), (0, .ref (ma 0))]) hx hb dX7_goes_293 hl (k := 0) rfl (nI_1 _) (by decide) rfl (fun ls hl => ?_)
                                  refine lv_goto (tgt := 202) hx hb dX7_goes_296 (by decide) ?_
                                  exact ih (i + 1) (by omega) (by omega) (by omega) _ _ hP hD hS ls (lv_sub hl [0, 1, 2, 3] rfl)
                          have hP : va_P D vwCl [(ma 0, oE 7 [.ref (ma 1), .ref (ma 2), .int (fi 0), .ref (ma 3), .ref (ma 4), .int (nI L), .int (nI e1), .int (nI b), .long (wH f b (b - b)), .int (-9), .int (wr)]), (ma 4, iE cB 120 (bt f))] H := by rw [Nat.sub_self]; exact hP
                          have hD : va_D A [(ma 0, oE 7 [.ref (ma 1), .ref (ma 2), .int (fi 0), .ref (ma 3), .ref (ma 4), .int (nI L), .int (nI e1), .int (nI b), .long (wH f b (b - b)), .int (-9), .int (wr)]), (ma 4, iE cB 120 (bt f))] := by rw [Nat.sub_self]; exact hD
                          exact hloop (e1 + 1) (b) (by omega) (by omega) (Nat.le_refl b) _ _ hP hD hS ls (lv_sub hl [0, 1, 2, 3] rfl)
                        · -- long
                          have hloop : ∀ (d i : Nat), i ≤ e1 → e1 - i < d → (b ≤ i) → ∀ (H : Heap) (locs : List Loc), va_P D vwCl [(ma 0, oE 7 [.ref (ma 1), .ref (ma 2), .int (fi 0), .ref (ma 3), .ref (ma 4), .int (nI L), .int (nI e1), .int (nI b), .long (0), .int (-9), .int (wr)]), (ma 4, iE cB 120 (bt f))] H → va_D A [(ma 0, oE 7 [.ref (ma 1), .ref (ma 2), .int (fi 0), .ref (ma 3), .ref (ma 4), .int (nI L), .int (nI e1), .int (nI b), .long (0), .int (-9), .int (wr)]), (ma 4, iE cB 120 (bt f))] → va_S A s.heap H locs → ∀ ls : Array Slot, lv_has ls 4 [(3, .int (nI i)), (2, .int (0)), (1, .int (1)), (0, .ref (ma 0))] → W p l e ({ frames := 1, cells := 0, slots := 0, locals := 22 } : Room) s m (([.ref (ma 0)] : List Value).toArray) below meth c H locs 0 0 (MQ below (va_Qv (fun u : TKN => GoT f L p0 u) (wrB D A (fun u => [(ma 0, oE 7 [.ref (ma 1), .ref (ma 2), .int (fi 0), .ref (ma 3), .ref (ma 4), .int (nI L), .int (nI u.2.2.1), .int (nI u.2.1), .long (u.2.2.2.1), .int (u.2.2.2.2), .int (wr)]), (ma 4, iE cB 120 (bt f))])) A) (([.ref (ma 0)] : List Value).toArray) s 0 0 A) (F0 m 202 ls []) := by
                            intro d
                            induction d with
                            | zero => intro i _ h2; exact absurd h2 (Nat.not_lt_zero _)
                            | succ d ih =>
                              intro i hi hd hbi3 H locs hP hD hS ls hl
                              refine lv_iload_n hx hb dX7_goes_202 rfl (lv_at hl 0 rfl) ?_
                              refine lv_aload_n hx hb dX7_goes_203 rfl (lv_at hl 3 rfl) ?_
                              refine va_get (D := D) (ci := 7) (v := .int (nI e1)) (C := RX7) (T := TX7) (N := 11) hx hb hts (by decide +kernel) hown hK.1 hP 0 rfl rfl 6 (by decide) (hts (.fieldLink RX7 85 "ParkingGarageModel" "next" "I") (by decide +kernel)) (fun _ h9 => h9) rfl dX7_goes_204 ?_
                              refine lv_icmp_ge (tgt := 299) hx hb dX7_goes_207 (by decide) (fun c_18 => ?_) (fun c_18 => ?_)
                              · -- c_18: nI i ≥ nI e1
                                have hge3 : i = e1 := nI_geD (n := e1) rfl hi (by omega) c_18
                                skip
                                have hP : va_P D vwCl [(ma 0, oE 7 [.ref (ma 1), .ref (ma 2), .int (fi 0), .ref (ma 3), .ref (ma 4), .int (nI L), .int (nI e1), .int (nI b), .long (0), .int (-9), .int (wr)]), (ma 4, iE cB 120 (bt f))] H := hP
                                have hD : va_D A [(ma 0, oE 7 [.ref (ma 1), .ref (ma 2), .int (fi 0), .ref (ma 3), .ref (ma 4), .int (nI L), .int (nI e1), .int (nI b), .long (0), .int (-9), .int (wr)]), (ma 4, iE cB 120 (bt f))] := hD
                                refine lv_aload_n hx hb dX7_goes_299 rfl (lv_at hl 3 rfl) ?_
                                refine lv_iload_n hx hb dX7_goes_300 rfl (lv_at hl 1 rfl) ?_
                                refine if_eq_t (tgt := 336) hx hb rfl dX7_goes_301 (by decide) ?_
                                refine lv_aload_n hx hb dX7_goes_336 rfl (lv_at hl 3 rfl) ?_
                                refine va_get (D := D) (ci := 7) (v := .int (-9)) (C := RX7) (T := TX7) (N := 11) hx hb hts (by decide +kernel) hown hK.1 hP 0 rfl rfl 9 (by decide) (hts (.fieldLink RX7 95 "ParkingGarageModel" "number" "I") (by decide +kernel)) (fun _ h9 => h9) rfl dX7_goes_337 ?_
                                refine va_put (D := D) (ci := 7) (v := .int (-9)) (ty := .int) (C := RX7) (T := TX7) (N := 11) hx hb hts (by decide +kernel) tyX7 tyX7_ok nmX7 hown hK.1 hP hD hS 0 rfl rfl 9 (by decide) (hts (.fieldLink RX7 95 "ParkingGarageModel" "number" "I") (by decide +kernel)) (fun _ h9 => h9) rfl (by decide +kernel) rfl rfl (Nat.le_of_ble_eq_true rfl) dX7_goes_340 (fun H locs hP hD hS => ?_)
                                have hP : va_P D vwCl [(ma 0, oE 7 [.ref (ma 1), .ref (ma 2), .int (fi 0), .ref (ma 3), .ref (ma 4), .int (nI L), .int (nI e1), .int (nI b), .long (0), .int (-9), .int (wr)]), (ma 4, iE cB 120 (bt f))] H := hP
                                have hD : va_D A [(ma 0, oE 7 [.ref (ma 1), .ref (ma 2), .int (fi 0), .ref (ma 3), .ref (ma 4), .int (nI L), .int (nI e1), .int (nI b), .long (0), .int (-9), .int (wr)]), (ma 4, iE cB 120 (bt f))] := hD
                                exact wr_vret ((1, b, e1, 0, -9)) hx hb hr hlocks hS hP hD [0, 1] rfl rfl (by decide) dX7_goes_343 ((show Tok f L p0 1 b e1 ∧ WdOf f 1 b e1 (0) ∧ NmOf f 1 b e1 (-9) from ⟨⟨hbeh, Or.inr (Or.inl ⟨hlt, hkL, rfl, hbk⟩)⟩, wd_zero (fun q => absurd q.2 (by omega)), nm_none (by decide)⟩))
                              · -- c_18: not nI i ≥ nI e1
                                have hlt3 : i < e1 := nI_ltD (n := e1) rfl hi (by omega) c_18
                                refine lv_aload_n hx hb dX7_goes_210 rfl (lv_at hl 3 rfl) ?_
                                refine lv_iload_n hx hb dX7_goes_211 rfl (lv_at hl 2 rfl) ?_
                                refine if_eq_f (tgt := 252) hx hb (by decide) dX7_goes_212 (by decide) ?_
                                refine lv_aload_n hx hb dX7_goes_215 rfl (lv_at hl 3 rfl) ?_
                                refine va_get (D := D) (ci := 7) (v := .int (nI e1)) (C := RX7) (T := TX7) (N := 11) hx hb hts (by decide +kernel) hown hK.1 hP 0 rfl rfl 6 (by decide) (hts (.fieldLink RX7 85 "ParkingGarageModel" "next" "I") (by decide +kernel)) (fun _ h9 => h9) rfl dX7_goes_216 ?_
                                refine lv_aload_n hx hb dX7_goes_219 rfl (lv_at hl 3 rfl) ?_
                                refine va_get (D := D) (ci := 7) (v := .int (nI b)) (C := RX7) (T := TX7) (N := 11) hx hb hts (by decide +kernel) hown hK.1 hP 0 rfl rfl 7 (by decide) (hts (.fieldLink RX7 88 "ParkingGarageModel" "begin" "I") (by decide +kernel)) (fun _ h9 => h9) rfl dX7_goes_220 ?_
                                refine lv_isub hx hb dX7_goes_223 ?_
                                rw [show (((nI e1) - (nI b)) : Int32) = nI (e1 - b) from (pk_subn (by omega))]
                                refine lv_bipush (v := 8) hx hb dX7_goes_224 (by decide) ?_
                                refine lv_icmp_ge (tgt := 252) hx hb dX7_goes_226 (by decide) (fun c_19 => ?_) (fun c_19 => ?_)
                                · -- c_19: nI (e1 - b) ≥ 8
                                  refine lv_lconst (v := 0) hx hb dX7_goes_252 (by decide) ?_
                                  refine va_put (D := D) (ci := 7) (v := .long (0)) (ty := .long) (C := RX7) (T := TX7) (N := 11) hx hb hts (by decide +kernel) tyX7 tyX7_ok nmX7 hown hK.1 hP hD hS 0 rfl rfl 8 (by decide) (hts (.fieldLink RX7 91 "ParkingGarageModel" "word" "J") (by decide +kernel)) (fun _ h9 => h9) rfl (by decide +kernel) rfl rfl (Nat.le_of_ble_eq_true rfl) dX7_goes_253 (fun H locs hP hD hS => ?_)
                                  have hP : va_P D vwCl [(ma 0, oE 7 [.ref (ma 1), .ref (ma 2), .int (fi 0), .ref (ma 3), .ref (ma 4), .int (nI L), .int (nI e1), .int (nI b), .long (0), .int (-9), .int (wr)]), (ma 4, iE cB 120 (bt f))] H := hP
                                  have hD : va_D A [(ma 0, oE 7 [.ref (ma 1), .ref (ma 2), .int (fi 0), .ref (ma 3), .ref (ma 4), .int (nI L), .int (nI e1), .int (nI b), .long (0), .int (-9), .int (wr)]), (ma 4, iE cB 120 (bt f))] := hD
                                  refine lv_aload_n hx hb dX7_goes_256 rfl (lv_at hl 3 rfl) ?_
                                  refine lv_iload_n hx hb dX7_goes_257 rfl (lv_at hl 1 rfl) ?_
                                  refine if_eq_t (tgt := 286) hx hb rfl dX7_goes_258 (by decide) ?_
                                  refine lv_aload_n hx hb dX7_goes_286 rfl (lv_at hl 3 rfl) ?_
                                  refine va_get (D := D) (ci := 7) (v := .int (-9)) (C := RX7) (T := TX7) (N := 11) hx hb hts (by decide +kernel) hown hK.1 hP 0 rfl rfl 9 (by decide) (hts (.fieldLink RX7 95 "ParkingGarageModel" "number" "I") (by decide +kernel)) (fun _ h9 => h9) rfl dX7_goes_287 ?_
                                  refine va_put (D := D) (ci := 7) (v := .int (-9)) (ty := .int) (C := RX7) (T := TX7) (N := 11) hx hb hts (by decide +kernel) tyX7 tyX7_ok nmX7 hown hK.1 hP hD hS 0 rfl rfl 9 (by decide) (hts (.fieldLink RX7 95 "ParkingGarageModel" "number" "I") (by decide +kernel)) (fun _ h9 => h9) rfl (by decide +kernel) rfl rfl (Nat.le_of_ble_eq_true rfl) dX7_goes_290 (fun H locs hP hD hS => ?_)
                                  have hP : va_P D vwCl [(ma 0, oE 7 [.ref (ma 1), .ref (ma 2), .int (fi 0), .ref (ma 3), .ref (ma 4), .int (nI L), .int (nI e1), .int (nI b), .long (0), .int (-9), .int (wr)]), (ma 4, iE cB 120 (bt f))] H := hP
                                  have hD : va_D A [(ma 0, oE 7 [.ref (ma 1), .ref (ma 2), .int (fi 0), .ref (ma 3), .ref (ma 4), .int (nI L), .int (nI e1), .int (nI b), .long (0), .int (-9), .int (wr)]), (ma 4, iE cB 120 (bt f))] := hD
                                  refine lv_iinc (v := nI (i + 1)) (lv' := [(3, .int (nI (i + 1))), (2, .int (0)), (1, .int (1)), (0, .ref (ma 0))]) hx hb dX7_goes_293 hl (k := 0) rfl (nI_1 _) (by decide) rfl (fun ls hl => ?_)
                                  refine lv_goto (tgt := 202) hx hb dX7_goes_296 (by decide) ?_
                                  exact ih (i + 1) (by omega) (by omega) (by omega) _ _ hP hD hS ls (lv_sub hl [0, 1, 2, 3] rfl)
                                · -- c_19: not nI (e1 - b) ≥ 8
                                  exact absurd (nI_le h8 (by omega)) c_19
                          exact hloop (e1 + 1) (b) (by omega) (by omega) (Nat.le_refl b) _ _ hP hD hS ls (lv_sub hl [0, 1, 2, 3] rfl)
                exact hloop (L + 1) (b + 1) (by omega) (by omega) (Nat.le_refl _) ((fun q h1 h2 => by rw [show q = b by omega]; exact ⟨hlt, hkL⟩)) _ _ hP hD hS ls (lv_sub hl [0, 1, 2] rfl)
            · -- X7_in f
              have hkL : ¬ isL (f b) := fun q => h_6 ((bt_L (hch b (by omega))).mpr q)
              refine lv_istore_n (lv' := [(1, .int (0)), (0, .ref (ma 0))]) hx hb dX7_goes_85 rfl hl (by decide) rfl (fun ls hl => ?_)
              refine lv_aload_n hx hb dX7_goes_86 rfl (lv_at hl 1 rfl) ?_
              refine va_get (D := D) (ci := 7) (v := .ref (ma 4)) (C := RX7) (T := TX7) (N := 11) hx hb hts (by decide +kernel) hown hK.1 hP 0 rfl rfl 4 (by decide) (hts (.fieldLink RX7 19 "ParkingGarageModel" "text" "[B") (by decide +kernel)) (fun _ h9 => h9) rfl dX7_goes_87 ?_
              refine lv_aload_n hx hb dX7_goes_90 rfl (lv_at hl 1 rfl) ?_
              refine va_get (D := D) (ci := 7) (v := .int (nI b)) (C := RX7) (T := TX7) (N := 11) hx hb hts (by decide +kernel) hown hK.1 hP 0 rfl rfl 6 (by decide) (hts (.fieldLink RX7 85 "ParkingGarageModel" "next" "I") (by decide +kernel)) (fun _ h9 => h9) rfl dX7_goes_91 ?_
              refine bald_n (f := bt f) hx hb hK.1 hP 1 2 rfl rfl (b) (rfl) (by omega) (by omega) dX7_goes_94 ?_
              refine lv_bipush (v := 48) hx hb dX7_goes_95 (by decide) ?_
              refine lv_bipush (v := 57) hx hb dX7_goes_97 (by decide) ?_
              refine cs_i (As := [.int ((bt f) (b)), .int (48), .int (57)]) (rest := []) (tys := TYS cI cC cB cS) ⟨hx, hb, hml, hown, hts⟩ (c_X7_in l D cI cC cB cS ((bt f) (b)) (48) (57)) (va_cwS 3 hts gX7_goes_X7_in rfl rfl rfl (by decide +kernel) ⟨Nat.le_of_ble_eq_true rfl, Nat.le_of_ble_eq_true rfl⟩) hK hP [] rfl rfl rfl hl.1 (Nat.le_of_ble_eq_true rfl) dX7_goes_99 ⟨Nat.le_of_ble_eq_true rfl, Nat.le_of_ble_eq_true rfl⟩ (fun r_20 hr_20 => ?_)
              rcases (show Yes (48 ≤ (bt f) (b) ∧ (bt f) (b) ≤ 57) r_20 from hr_20) with ⟨rfl, h_21⟩ | ⟨rfl, h_21⟩
              · -- X7_in t
                have hkD : isD (f b) := (bt_D (hch b (by omega))).mp h_21
                refine lv_istore_n (lv' := [(2, .int (1)), (1, .int (0)), (0, .ref (ma 0))]) hx hb dX7_goes_102 rfl hl (by decide) rfl (fun ls hl => ?_)
                refine lv_aload_n hx hb dX7_goes_103 rfl (lv_at hl 2 rfl) ?_
                refine lv_dup hx hb dX7_goes_104 rfl ?_
                refine va_get (D := D) (ci := 7) (v := .int (nI b)) (C := RX7) (T := TX7) (N := 11) hx hb hts (by decide +kernel) hown hK.1 hP 0 rfl rfl 6 (by decide) (hts (.fieldLink RX7 85 "ParkingGarageModel" "next" "I") (by decide +kernel)) (fun _ h9 => h9) rfl dX7_goes_105 ?_
                refine lv_iconst (v := 1) hx hb dX7_goes_108 (by decide) ?_
                refine lv_iadd hx hb dX7_goes_109 ?_
                rw [show (((nI b) + (1)) : Int32) = nI (b + 1) from (nI_add b 1)]
                refine va_put (D := D) (ci := 7) (v := .int (nI (b + 1))) (ty := .int) (C := RX7) (T := TX7) (N := 11) hx hb hts (by decide +kernel) tyX7 tyX7_ok nmX7 hown hK.1 hP hD hS 0 rfl rfl 6 (by decide) (hts (.fieldLink RX7 85 "ParkingGarageModel" "next" "I") (by decide +kernel)) (fun _ h9 => h9) rfl (by decide +kernel) rfl rfl (Nat.le_of_ble_eq_true rfl) dX7_goes_110 (fun H locs hP hD hS => ?_)
                have hP : va_P D vwCl [(ma 0, oE 7 [.ref (ma 1), .ref (ma 2), .int (fi 0), .ref (ma 3), .ref (ma 4), .int (nI L), .int (nI (b + 1)), .int (nI b), .long (0), .int (-9), .int (wr)]), (ma 4, iE cB 120 (bt f))] H := hP
                have hD : va_D A [(ma 0, oE 7 [.ref (ma 1), .ref (ma 2), .int (fi 0), .ref (ma 3), .ref (ma 4), .int (nI L), .int (nI (b + 1)), .int (nI b), .long (0), .int (-9), .int (wr)]), (ma 4, iE cB 120 (bt f))] := hD
                have hloop : ∀ (d e1 : Nat), e1 ≤ L → L - e1 < d → (b + 1 ≤ e1) → (∀ q, b ≤ q → q < e1 → q < L ∧ (48 : Int32) ≤ f q ∧ f q ≤ 57) → ∀ (H : Heap) (locs : List Loc), va_P D vwCl [(ma 0, oE 7 [.ref (ma 1), .ref (ma 2), .int (fi 0), .ref (ma 3), .ref (ma 4), .int (nI L), .int (nI e1), .int (nI b), .long (0), .int (-9), .int (wr)]), (ma 4, iE cB 120 (bt f))] H → va_D A [(ma 0, oE 7 [.ref (ma 1), .ref (ma 2), .int (fi 0), .ref (ma 3), .ref (ma 4), .int (nI L), .int (nI e1), .int (nI b), .long (0), .int (-9), .int (wr)]), (ma 4, iE cB 120 (bt f))] → va_S A s.heap H locs → ∀ ls : Array Slot, lv_has ls 4 [(2, .int (1)), (1, .int (0)), (0, .ref (ma 0))] → W p l e ({ frames := 1, cells := 0, slots := 0, locals := 22 } : Room) s m (([.ref (ma 0)] : List Value).toArray) below meth c H locs 0 0 (MQ below (va_Qv (fun u : TKN => GoT f L p0 u) (wrB D A (fun u => [(ma 0, oE 7 [.ref (ma 1), .ref (ma 2), .int (fi 0), .ref (ma 3), .ref (ma 4), .int (nI L), .int (nI u.2.2.1), .int (nI u.2.1), .long (u.2.2.2.1), .int (u.2.2.2.2), .int (wr)]), (ma 4, iE cB 120 (bt f))])) A) (([.ref (ma 0)] : List Value).toArray) s 0 0 A) (F0 m 113 ls []) := by
                  intro d
                  induction d with
                  | zero => intro e1 _ h2; exact absurd h2 (Nat.not_lt_zero _)
                  | succ d ih =>
                    intro e1 hi hd hbi hrun H locs hP hD hS ls hl
                    refine lv_aload_n hx hb dX7_goes_113 rfl (lv_at hl 2 rfl) ?_
                    refine va_get (D := D) (ci := 7) (v := .int (nI e1)) (C := RX7) (T := TX7) (N := 11) hx hb hts (by decide +kernel) hown hK.1 hP 0 rfl rfl 6 (by decide) (hts (.fieldLink RX7 85 "ParkingGarageModel" "next" "I") (by decide +kernel)) (fun _ h9 => h9) rfl dX7_goes_114 ?_
                    refine lv_aload_n hx hb dX7_goes_117 rfl (lv_at hl 2 rfl) ?_
                    refine va_get (D := D) (ci := 7) (v := .int (nI L)) (C := RX7) (T := TX7) (N := 11) hx hb hts (by decide +kernel) hown hK.1 hP 0 rfl rfl 5 (by decide) (hts (.fieldLink RX7 82 "ParkingGarageModel" "typed" "I") (by decide +kernel)) (fun _ h9 => h9) rfl dX7_goes_118 ?_
                    refine lv_icmp_ge (tgt := 183) hx hb dX7_goes_121 (by decide) (fun c_22 => ?_) (fun c_22 => ?_)
                    · -- c_22: nI e1 ≥ nI L
                      have hge2 : e1 = L := nI_geD (n := L) rfl hi (by omega) c_22
                      have hbk : Beh f L 48 57 b e1 := ⟨hrun, by omega, fun q => absurd q.1 (by omega)⟩
                      refine lv_aload_n hx hb dX7_goes_183 rfl (lv_at hl 2 rfl) ?_
                      refine lv_iload_n hx hb dX7_goes_184 rfl (lv_at hl 0 rfl) ?_
                      refine if_eq_f (tgt := 192) hx hb (by decide) dX7_goes_185 (by decide) ?_
                      refine lv_iconst (v := 0) hx hb dX7_goes_188 (by decide) ?_
                      refine lv_goto (tgt := 194) hx hb dX7_goes_189 (by decide) ?_
                      refine va_put (D := D) (ci := 7) (v := .int (0)) (ty := .int) (C := RX7) (T := TX7) (N := 11) hx hb hts (by decide +kernel) tyX7 tyX7_ok nmX7 hown hK.1 hP hD hS 0 rfl rfl 9 (by decide) (hts (.fieldLink RX7 95 "ParkingGarageModel" "number" "I") (by decide +kernel)) (fun _ h9 => h9) rfl (by decide +kernel) rfl rfl (Nat.le_of_ble_eq_true rfl) dX7_goes_194 (fun H locs hP hD hS => ?_)
                      have hP : va_P D vwCl [(ma 0, oE 7 [.ref (ma 1), .ref (ma 2), .int (fi 0), .ref (ma 3), .ref (ma 4), .int (nI L), .int (nI e1), .int (nI b), .long (0), .int (0), .int (wr)]), (ma 4, iE cB 120 (bt f))] H := hP
                      have hD : va_D A [(ma 0, oE 7 [.ref (ma 1), .ref (ma 2), .int (fi 0), .ref (ma 3), .ref (ma 4), .int (nI L), .int (nI e1), .int (nI b), .long (0), .int (0), .int (wr)]), (ma 4, iE cB 120 (bt f))] := hD
                      refine lv_aload_n hx hb dX7_goes_197 rfl (lv_at hl 2 rfl) ?_
                      refine va_get (D := D) (ci := 7) (v := .int (nI b)) (C := RX7) (T := TX7) (N := 11) hx hb hts (by decide +kernel) hown hK.1 hP 0 rfl rfl 7 (by decide) (hts (.fieldLink RX7 88 "ParkingGarageModel" "begin" "I") (by decide +kernel)) (fun _ h9 => h9) rfl dX7_goes_198 ?_
                      refine lv_istore_n (lv' := [(3, .int (nI b)), (2, .int (1)), (1, .int (0)), (0, .ref (ma 0))]) hx hb dX7_goes_201 rfl hl (by decide) rfl (fun ls hl => ?_)
                      have hbe : b ≤ e1 := by omega
                      have heL : e1 ≤ L := by omega
                      have hloop : ∀ (d i : Nat), i ≤ e1 → e1 - i < d → (b ≤ i) → ∀ (H : Heap) (locs : List Loc), va_P D vwCl [(ma 0, oE 7 [.ref (ma 1), .ref (ma 2), .int (fi 0), .ref (ma 3), .ref (ma 4), .int (nI L), .int (nI e1), .int (nI b), .long (0), .int (nI (min 99999 (dV f b (i - b)))), .int (wr)]), (ma 4, iE cB 120 (bt f))] H → va_D A [(ma 0, oE 7 [.ref (ma 1), .ref (ma 2), .int (fi 0), .ref (ma 3), .ref (ma 4), .int (nI L), .int (nI e1), .int (nI b), .long (0), .int (nI (min 99999 (dV f b (i - b)))), .int (wr)]), (ma 4, iE cB 120 (bt f))] → va_S A s.heap H locs → ∀ ls : Array Slot, lv_has ls 4 [(3, .int (nI i)), (2, .int (1)), (1, .int (0)), (0, .ref (ma 0))] → W p l e ({ frames := 1, cells := 0, slots := 0, locals := 22 } : Room) s m (([.ref (ma 0)] : List Value).toArray) below meth c H locs 0 0 (MQ below (va_Qv (fun u : TKN => GoT f L p0 u) (wrB D A (fun u => [(ma 0, oE 7 [.ref (ma 1), .ref (ma 2), .int (fi 0), .ref (ma 3), .ref (ma 4), .int (nI L), .int (nI u.2.2.1), .int (nI u.2.1), .long (u.2.2.2.1), .int (u.2.2.2.2), .int (wr)]), (ma 4, iE cB 120 (bt f))])) A) (([.ref (ma 0)] : List Value).toArray) s 0 0 A) (F0 m 202 ls []) := by
                        intro d
                        induction d with
                        | zero => intro i _ h2; exact absurd h2 (Nat.not_lt_zero _)
                        | succ d ih =>
                          intro i hi hd hbi3 H locs hP hD hS ls hl
                          refine lv_iload_n hx hb dX7_goes_202 rfl (lv_at hl 0 rfl) ?_
                          refine lv_aload_n hx hb dX7_goes_203 rfl (lv_at hl 3 rfl) ?_
                          refine va_get (D := D) (ci := 7) (v := .int (nI e1)) (C := RX7) (T := TX7) (N := 11) hx hb hts (by decide +kernel) hown hK.1 hP 0 rfl rfl 6 (by decide) (hts (.fieldLink RX7 85 "ParkingGarageModel" "next" "I") (by decide +kernel)) (fun _ h9 => h9) rfl dX7_goes_204 ?_
                          refine lv_icmp_ge (tgt := 299) hx hb dX7_goes_207 (by decide) (fun c_23 => ?_) (fun c_23 => ?_)
                          · -- c_23: nI i ≥ nI e1
                            have hge3 : i = e1 := nI_geD (n := e1) rfl hi (by omega) c_23
                            rw [hge3] at hP hD
                            have hP : va_P D vwCl [(ma 0, oE 7 [.ref (ma 1), .ref (ma 2), .int (fi 0), .ref (ma 3), .ref (ma 4), .int (nI L), .int (nI e1), .int (nI b), .long (0), .int (nI (min 99999 (dV f b (e1 - b)))), .int (wr)]), (ma 4, iE cB 120 (bt f))] H := hP
                            have hD : va_D A [(ma 0, oE 7 [.ref (ma 1), .ref (ma 2), .int (fi 0), .ref (ma 3), .ref (ma 4), .int (nI L), .int (nI e1), .int (nI b), .long (0), .int (nI (min 99999 (dV f b (e1 - b)))), .int (wr)]), (ma 4, iE cB 120 (bt f))] := hD
                            refine lv_aload_n hx hb dX7_goes_299 rfl (lv_at hl 3 rfl) ?_
                            refine lv_iload_n hx hb dX7_goes_300 rfl (lv_at hl 1 rfl) ?_
                            refine if_eq_f (tgt := 336) hx hb (by decide) dX7_goes_301 (by decide) ?_
                            refine lv_aload_n hx hb dX7_goes_304 rfl (lv_at hl 3 rfl) ?_
                            refine va_get (D := D) (ci := 7) (v := .ref (ma 4)) (C := RX7) (T := TX7) (N := 11) hx hb hts (by decide +kernel) hown hK.1 hP 0 rfl rfl 4 (by decide) (hts (.fieldLink RX7 19 "ParkingGarageModel" "text" "[B") (by decide +kernel)) (fun _ h9 => h9) rfl dX7_goes_305 ?_
                            refine lv_aload_n hx hb dX7_goes_308 rfl (lv_at hl 3 rfl) ?_
                            refine va_get (D := D) (ci := 7) (v := .int (nI b)) (C := RX7) (T := TX7) (N := 11) hx hb hts (by decide +kernel) hown hK.1 hP 0 rfl rfl 7 (by decide) (hts (.fieldLink RX7 88 "ParkingGarageModel" "begin" "I") (by decide +kernel)) (fun _ h9 => h9) rfl dX7_goes_309 ?_
                            refine bald_n (f := bt f) hx hb hK.1 hP 1 2 rfl rfl (b) (rfl) (by omega) (by omega) dX7_goes_312 ?_
                            refine lv_bipush (v := 48) hx hb dX7_goes_313 (by decide) ?_
                            refine lv_icmp_ne (tgt := 336) hx hb dX7_goes_315 (by decide) (fun c_24 => ?_) (fun c_24 => ?_)
                            · -- c_24: (bt f) (b) ≠ 48
                              have hnl : ¬ (f b = 48 ∧ 1 < e1 - b) := fun q => c_24 ((bt_Dv hkD).trans q.1)
                              refine lv_aload_n hx hb dX7_goes_336 rfl (lv_at hl 3 rfl) ?_
                              refine va_get (D := D) (ci := 7) (v := .int (nI (min 99999 (dV f b (e1 - b))))) (C := RX7) (T := TX7) (N := 11) hx hb hts (by decide +kernel) hown hK.1 hP 0 rfl rfl 9 (by decide) (hts (.fieldLink RX7 95 "ParkingGarageModel" "number" "I") (by decide +kernel)) (fun _ h9 => h9) rfl dX7_goes_337 ?_
                              refine va_put (D := D) (ci := 7) (v := .int (nI (min 99999 (dV f b (e1 - b))))) (ty := .int) (C := RX7) (T := TX7) (N := 11) hx hb hts (by decide +kernel) tyX7 tyX7_ok nmX7 hown hK.1 hP hD hS 0 rfl rfl 9 (by decide) (hts (.fieldLink RX7 95 "ParkingGarageModel" "number" "I") (by decide +kernel)) (fun _ h9 => h9) rfl (by decide +kernel) rfl rfl (Nat.le_of_ble_eq_true rfl) dX7_goes_340 (fun H locs hP hD hS => ?_)
                              have hP : va_P D vwCl [(ma 0, oE 7 [.ref (ma 1), .ref (ma 2), .int (fi 0), .ref (ma 3), .ref (ma 4), .int (nI L), .int (nI e1), .int (nI b), .long (0), .int (nI (min 99999 (dV f b (e1 - b)))), .int (wr)]), (ma 4, iE cB 120 (bt f))] H := hP
                              have hD : va_D A [(ma 0, oE 7 [.ref (ma 1), .ref (ma 2), .int (fi 0), .ref (ma 3), .ref (ma 4), .int (nI L), .int (nI e1), .int (nI b), .long (0), .int (nI (min 99999 (dV f b (e1 - b)))), .int (wr)]), (ma 4, iE cB 120 (bt f))] := hD
                              exact wr_vret ((2, b, e1, 0, nI (min 99999 (dV f b (e1 - b))))) hx hb hr hlocks hS hP hD [0, 1] rfl rfl (by decide) dX7_goes_343 ((show Tok f L p0 2 b e1 ∧ WdOf f 2 b e1 (0) ∧ NmOf f 2 b e1 (nI (min 99999 (dV f b (e1 - b)))) from ⟨⟨hbeh, Or.inr (Or.inr (Or.inl ⟨hlt, hkL, hkD, rfl, hbk⟩))⟩, wd_zero (fun q => absurd q.1 (by decide)), nm_num hnl⟩))
                            · -- c_24: not (bt f) (b) ≠ 48
                              have hb48 : f b = 48 := (bt_Dv hkD).symm.trans c_24
                              refine lv_aload_n hx hb dX7_goes_318 rfl (lv_at hl 3 rfl) ?_
                              refine va_get (D := D) (ci := 7) (v := .int (nI e1)) (C := RX7) (T := TX7) (N := 11) hx hb hts (by decide +kernel) hown hK.1 hP 0 rfl rfl 6 (by decide) (hts (.fieldLink RX7 85 "ParkingGarageModel" "next" "I") (by decide +kernel)) (fun _ h9 => h9) rfl dX7_goes_319 ?_
                              refine lv_aload_n hx hb dX7_goes_322 rfl (lv_at hl 3 rfl) ?_
                              refine va_get (D := D) (ci := 7) (v := .int (nI b)) (C := RX7) (T := TX7) (N := 11) hx hb hts (by decide +kernel) hown hK.1 hP 0 rfl rfl 7 (by decide) (hts (.fieldLink RX7 88 "ParkingGarageModel" "begin" "I") (by decide +kernel)) (fun _ h9 => h9) rfl dX7_goes_323 ?_
                              refine lv_iconst (v := 1) hx hb dX7_goes_326 (by decide) ?_
                              refine lv_iadd hx hb dX7_goes_327 ?_
                              rw [show (((nI b) + (1)) : Int32) = nI (b + 1) from (nI_add b 1)]
                              refine lv_icmp_le (tgt := 336) hx hb dX7_goes_328 (by decide) (fun c_25 => ?_) (fun c_25 => ?_)
                              · -- c_25: nI e1 ≤ nI (b + 1)
                                have hnl : ¬ (f b = 48 ∧ 1 < e1 - b) := fun q => by have := (nI_leI (by omega) (by omega)).mp c_25; omega
                                refine lv_aload_n hx hb dX7_goes_336 rfl (lv_at hl 3 rfl) ?_
                                refine va_get (D := D) (ci := 7) (v := .int (nI (min 99999 (dV f b (e1 - b))))) (C := RX7) (T := TX7) (N := 11) hx hb hts (by decide +kernel) hown hK.1 hP 0 rfl rfl 9 (by decide) (hts (.fieldLink RX7 95 "ParkingGarageModel" "number" "I") (by decide +kernel)) (fun _ h9 => h9) rfl dX7_goes_337 ?_
                                refine va_put (D := D) (ci := 7) (v := .int (nI (min 99999 (dV f b (e1 - b))))) (ty := .int) (C := RX7) (T := TX7) (N := 11) hx hb hts (by decide +kernel) tyX7 tyX7_ok nmX7 hown hK.1 hP hD hS 0 rfl rfl 9 (by decide) (hts (.fieldLink RX7 95 "ParkingGarageModel" "number" "I") (by decide +kernel)) (fun _ h9 => h9) rfl (by decide +kernel) rfl rfl (Nat.le_of_ble_eq_true rfl) dX7_goes_340 (fun H locs hP hD hS => ?_)
                                have hP : va_P D vwCl [(ma 0, oE 7 [.ref (ma 1), .ref (ma 2), .int (fi 0), .ref (ma 3), .ref (ma 4), .int (nI L), .int (nI e1), .int (nI b), .long (0), .int (nI (min 99999 (dV f b (e1 - b)))), .int (wr)]), (ma 4, iE cB 120 (bt f))] H := hP
                                have hD : va_D A [(ma 0, oE 7 [.ref (ma 1), .ref (ma 2), .int (fi 0), .ref (ma 3), .ref (ma 4), .int (nI L), .int (nI e1), .int (nI b), .long (0), .int (nI (min 99999 (dV f b (e1 - b)))), .int (wr)]), (ma 4, iE cB 120 (bt f))] := hD
                                exact wr_vret ((2, b, e1, 0, nI (min 99999 (dV f b (e1 - b))))) hx hb hr hlocks hS hP hD [0, 1] rfl rfl (by decide) dX7_goes_343 ((show Tok f L p0 2 b e1 ∧ WdOf f 2 b e1 (0) ∧ NmOf f 2 b e1 (nI (min 99999 (dV f b (e1 - b)))) from ⟨⟨hbeh, Or.inr (Or.inr (Or.inl ⟨hlt, hkL, hkD, rfl, hbk⟩))⟩, wd_zero (fun q => absurd q.1 (by decide)), nm_num hnl⟩))
                              · -- c_25: not nI e1 ≤ nI (b + 1)
                                have hyl : f b = 48 ∧ 1 < e1 - b := ⟨hb48, by
  rcases Nat.lt_or_ge (b + 1) e1 with z | z
  · omega
  · exact absurd (nI_le z (by omega)) c_25⟩
                                refine lv_bipush (v := -9) hx hb dX7_goes_331 (by decide) ?_
                                refine lv_goto (tgt := 340) hx hb dX7_goes_333 (by decide) ?_
                                refine va_put (D := D) (ci := 7) (v := .int (-9)) (ty := .int) (C := RX7) (T := TX7) (N := 11) hx hb hts (by decide +kernel) tyX7 tyX7_ok nmX7 hown hK.1 hP hD hS 0 rfl rfl 9 (by decide) (hts (.fieldLink RX7 95 "ParkingGarageModel" "number" "I") (by decide +kernel)) (fun _ h9 => h9) rfl (by decide +kernel) rfl rfl (Nat.le_of_ble_eq_true rfl) dX7_goes_340 (fun H locs hP hD hS => ?_)
                                have hP : va_P D vwCl [(ma 0, oE 7 [.ref (ma 1), .ref (ma 2), .int (fi 0), .ref (ma 3), .ref (ma 4), .int (nI L), .int (nI e1), .int (nI b), .long (0), .int (-9), .int (wr)]), (ma 4, iE cB 120 (bt f))] H := hP
                                have hD : va_D A [(ma 0, oE 7 [.ref (ma 1), .ref (ma 2), .int (fi 0), .ref (ma 3), .ref (ma 4), .int (nI L), .int (nI e1), .int (nI b), .long (0), .int (-9), .int (wr)]), (ma 4, iE cB 120 (bt f))] := hD
                                exact wr_vret ((2, b, e1, 0, -9)) hx hb hr hlocks hS hP hD [0, 1] rfl rfl (by decide) dX7_goes_343 ((show Tok f L p0 2 b e1 ∧ WdOf f 2 b e1 (0) ∧ NmOf f 2 b e1 (-9) from ⟨⟨hbeh, Or.inr (Or.inr (Or.inl ⟨hlt, hkL, hkD, rfl, hbk⟩))⟩, wd_zero (fun q => absurd q.1 (by decide)), nm_lead hyl⟩))
                          · -- c_23: not nI i ≥ nI e1
                            have hlt3 : i < e1 := nI_ltD (n := e1) rfl hi (by omega) c_23
                            refine lv_aload_n hx hb dX7_goes_210 rfl (lv_at hl 3 rfl) ?_
                            refine lv_iload_n hx hb dX7_goes_211 rfl (lv_at hl 2 rfl) ?_
                            refine if_eq_t (tgt := 252) hx hb rfl dX7_goes_212 (by decide) ?_
                            refine lv_lconst (v := 0) hx hb dX7_goes_252 (by decide) ?_
                            refine va_put (D := D) (ci := 7) (v := .long (0)) (ty := .long) (C := RX7) (T := TX7) (N := 11) hx hb hts (by decide +kernel) tyX7 tyX7_ok nmX7 hown hK.1 hP hD hS 0 rfl rfl 8 (by decide) (hts (.fieldLink RX7 91 "ParkingGarageModel" "word" "J") (by decide +kernel)) (fun _ h9 => h9) rfl (by decide +kernel) rfl rfl (Nat.le_of_ble_eq_true rfl) dX7_goes_253 (fun H locs hP hD hS => ?_)
                            have hP : va_P D vwCl [(ma 0, oE 7 [.ref (ma 1), .ref (ma 2), .int (fi 0), .ref (ma 3), .ref (ma 4), .int (nI L), .int (nI e1), .int (nI b), .long (0), .int (nI (min 99999 (dV f b (i - b)))), .int (wr)]), (ma 4, iE cB 120 (bt f))] H := hP
                            have hD : va_D A [(ma 0, oE 7 [.ref (ma 1), .ref (ma 2), .int (fi 0), .ref (ma 3), .ref (ma 4), .int (nI L), .int (nI e1), .int (nI b), .long (0), .int (nI (min 99999 (dV f b (i - b)))), .int (wr)]), (ma 4, iE cB 120 (bt f))] := hD
                            refine lv_aload_n hx hb dX7_goes_256 rfl (lv_at hl 3 rfl) ?_
                            refine lv_iload_n hx hb dX7_goes_257 rfl (lv_at hl 1 rfl) ?_
                            refine if_eq_f (tgt := 286) hx hb (by decide) dX7_goes_258 (by decide) ?_
                            refine lv_ldc (v := 99999) hx hb hown (hts (.constant RX7 78 99999) (by decide +kernel)) dX7_goes_261 ?_
                            refine lv_bipush (v := 10) hx hb dX7_goes_263 (by decide) ?_
                            refine lv_aload_n hx hb dX7_goes_265 rfl (lv_at hl 3 rfl) ?_
                            refine va_get (D := D) (ci := 7) (v := .int (nI (min 99999 (dV f b (i - b))))) (C := RX7) (T := TX7) (N := 11) hx hb hts (by decide +kernel) hown hK.1 hP 0 rfl rfl 9 (by decide) (hts (.fieldLink RX7 95 "ParkingGarageModel" "number" "I") (by decide +kernel)) (fun _ h9 => h9) rfl dX7_goes_266 ?_
                            refine lv_imul hx hb dX7_goes_269 ?_
                            refine lv_aload_n hx hb dX7_goes_270 rfl (lv_at hl 3 rfl) ?_
                            refine va_get (D := D) (ci := 7) (v := .ref (ma 4)) (C := RX7) (T := TX7) (N := 11) hx hb hts (by decide +kernel) hown hK.1 hP 0 rfl rfl 4 (by decide) (hts (.fieldLink RX7 19 "ParkingGarageModel" "text" "[B") (by decide +kernel)) (fun _ h9 => h9) rfl dX7_goes_271 ?_
                            refine lv_iload_n hx hb dX7_goes_274 rfl (lv_at hl 0 rfl) ?_
                            refine bald_n (f := bt f) hx hb hK.1 hP 1 2 rfl rfl (i) (rfl) (by omega) (by omega) dX7_goes_275 ?_
                            refine lv_iadd hx hb dX7_goes_276 ?_
                            refine lv_bipush (v := 48) hx hb dX7_goes_277 (by decide) ?_
                            refine lv_isub hx hb dX7_goes_279 ?_
                            refine cs_i (As := [.int (99999), .int ((((10) * (nI (min 99999 (dV f b (i - b))))) + ((bt f) (i))) - (48))]) (rest := [.ref (ma 0)]) (tys := TYS cI cC cB cS) ⟨hx, hb, hml, hown, hts⟩ (c_X7_lesser l D cI cC cB cS (99999) ((((10) * (nI (min 99999 (dV f b (i - b))))) + ((bt f) (i))) - (48))) (va_cwS 2 hts gX7_goes_X7_lesser rfl rfl rfl (by decide +kernel) ⟨Nat.le_of_ble_eq_true rfl, Nat.le_of_ble_eq_true rfl⟩) hK hP [] rfl rfl rfl hl.1 (Nat.le_of_ble_eq_true rfl) dX7_goes_280 ⟨Nat.le_of_ble_eq_true rfl, Nat.le_of_ble_eq_true rfl⟩ (fun r_26 hr_26 => ?_)
                            have hr_26 : r_26 = if 99999 < (((10) * (nI (min 99999 (dV f b (i - b))))) + ((bt f) (i))) - (48) then 99999 else (((10) * (nI (min 99999 (dV f b (i - b))))) + ((bt f) (i))) - (48) := hr_26
                            subst hr_26
                            refine lv_goto (tgt := 290) hx hb dX7_goes_283 (by decide) ?_
                            rw [num_step hbi3 (hrun i hbi3 hlt3).2]
                            refine va_put (D := D) (ci := 7) (v := .int (nI (min 99999 (dV f b (i + 1 - b))))) (ty := .int) (C := RX7) (T := TX7) (N := 11) hx hb hts (by decide +kernel) tyX7 tyX7_ok nmX7 hown hK.1 hP hD hS 0 rfl rfl 9 (by decide) (hts (.fieldLink RX7 95 "ParkingGarageModel" "number" "I") (by decide +kernel)) (fun _ h9 => h9) rfl (by decide +kernel) rfl rfl (Nat.le_of_ble_eq_true rfl) dX7_goes_290 (fun H locs hP hD hS => ?_)
                            have hP : va_P D vwCl [(ma 0, oE 7 [.ref (ma 1), .ref (ma 2), .int (fi 0), .ref (ma 3), .ref (ma 4), .int (nI L), .int (nI e1), .int (nI b), .long (0), .int (nI (min 99999 (dV f b (i + 1 - b)))), .int (wr)]), (ma 4, iE cB 120 (bt f))] H := hP
                            have hD : va_D A [(ma 0, oE 7 [.ref (ma 1), .ref (ma 2), .int (fi 0), .ref (ma 3), .ref (ma 4), .int (nI L), .int (nI e1), .int (nI b), .long (0), .int (nI (min 99999 (dV f b (i + 1 - b)))), .int (wr)]), (ma 4, iE cB 120 (bt f))] := hD
                            refine lv_iinc (v := nI (i + 1)) (lv' := [(3, .int (nI (i + 1))), (2, .int (1)), (1, .int (0)), (0, .ref (ma 0))]) hx hb dX7_goes_293 hl (k := 0) rfl (nI_1 _) (by decide) rfl (fun ls hl => ?_)
                            refine lv_goto (tgt := 202) hx hb dX7_goes_296 (by decide) ?_
                            exact ih (i + 1) (by omega) (by omega) (by omega) _ _ hP hD hS ls (lv_sub hl [0, 1, 2, 3] rfl)
                      have hP : va_P D vwCl [(ma 0, oE 7 [.ref (ma 1), .ref (ma 2), .int (fi 0), .ref (ma 3), .ref (ma 4), .int (nI L), .int (nI e1), .int (nI b), .long (0), .int (nI (min 99999 (dV f b (b - b)))), .int (wr)]), (ma 4, iE cB 120 (bt f))] H := by rw [Nat.sub_self]; exact hP
                      have hD : va_D A [(ma 0, oE 7 [.ref (ma 1), .ref (ma 2), .int (fi 0), .ref (ma 3), .ref (ma 4), .int (nI L), .int (nI e1), .int (nI b), .long (0), .int (nI (min 99999 (dV f b (b - b)))), .int (wr)]), (ma 4, iE cB 120 (bt f))] := by rw [Nat.sub_self]; exact hD
                      exact hloop (e1 + 1) (b) (by omega) (by omega) (Nat.le_refl b) _ _ hP hD hS ls (lv_sub hl [0, 1, 2, 3] rfl)
                    · -- c_22: not nI e1 ≥ nI L
                      have hlt2 : e1 < L := nI_ltD (n := L) rfl hi (by omega) c_22
                      refine lv_iload_n hx hb dX7_goes_124 rfl (lv_at hl 1 rfl) ?_
                      refine if_eq_t (tgt := 147) hx hb rfl dX7_goes_125 (by decide) ?_
                      refine lv_iload_n hx hb dX7_goes_147 rfl (lv_at hl 0 rfl) ?_
                      refine if_eq_f (tgt := 183) hx hb (by decide) dX7_goes_148 (by decide) ?_
                      refine lv_aload_n hx hb dX7_goes_151 rfl (lv_at hl 2 rfl) ?_
                      refine va_get (D := D) (ci := 7) (v := .ref (ma 4)) (C := RX7) (T := TX7) (N := 11) hx hb hts (by decide +kernel) hown hK.1 hP 0 rfl rfl 4 (by decide) (hts (.fieldLink RX7 19 "ParkingGarageModel" "text" "[B") (by decide +kernel)) (fun _ h9 => h9) rfl dX7_goes_152 ?_
                      refine lv_aload_n hx hb dX7_goes_155 rfl (lv_at hl 2 rfl) ?_
                      refine va_get (D := D) (ci := 7) (v := .int (nI e1)) (C := RX7) (T := TX7) (N := 11) hx hb hts (by decide +kernel) hown hK.1 hP 0 rfl rfl 6 (by decide) (hts (.fieldLink RX7 85 "ParkingGarageModel" "next" "I") (by decide +kernel)) (fun _ h9 => h9) rfl dX7_goes_156 ?_
                      refine bald_n (f := bt f) hx hb hK.1 hP 1 2 rfl rfl (e1) (rfl) (by omega) (by omega) dX7_goes_159 ?_
                      refine lv_bipush (v := 48) hx hb dX7_goes_160 (by decide) ?_
                      refine lv_bipush (v := 57) hx hb dX7_goes_162 (by decide) ?_
                      refine cs_i (As := [.int ((bt f) (e1)), .int (48), .int (57)]) (rest := []) (tys := TYS cI cC cB cS) ⟨hx, hb, hml, hown, hts⟩ (c_X7_in l D cI cC cB cS ((bt f) (e1)) (48) (57)) (va_cwS 3 hts gX7_goes_X7_in rfl rfl rfl (by decide +kernel) ⟨Nat.le_of_ble_eq_true rfl, Nat.le_of_ble_eq_true rfl⟩) hK hP [] rfl rfl rfl hl.1 (Nat.le_of_ble_eq_true rfl) dX7_goes_164 ⟨Nat.le_of_ble_eq_true rfl, Nat.le_of_ble_eq_true rfl⟩ (fun r_27 hr_27 => ?_)
                      rcases (show Yes (48 ≤ (bt f) (e1) ∧ (bt f) (e1) ≤ 57) r_27 from hr_27) with ⟨rfl, h_28⟩ | ⟨rfl, h_28⟩
                      · -- X7_in t
                        have hcc := (bt_D (hch e1 (by omega))).mp h_28
                        refine if_eq_f (tgt := 183) hx hb (by decide) dX7_goes_167 (by decide) ?_
                        refine lv_aload_n hx hb dX7_goes_170 rfl (lv_at hl 2 rfl) ?_
                        refine lv_dup hx hb dX7_goes_171 rfl ?_
                        refine va_get (D := D) (ci := 7) (v := .int (nI e1)) (C := RX7) (T := TX7) (N := 11) hx hb hts (by decide +kernel) hown hK.1 hP 0 rfl rfl 6 (by decide) (hts (.fieldLink RX7 85 "ParkingGarageModel" "next" "I") (by decide +kernel)) (fun _ h9 => h9) rfl dX7_goes_172 ?_
                        refine lv_iconst (v := 1) hx hb dX7_goes_175 (by decide) ?_
                        refine lv_iadd hx hb dX7_goes_176 ?_
                        rw [show (((nI e1) + (1)) : Int32) = nI (e1 + 1) from (nI_add e1 1)]
                        refine va_put (D := D) (ci := 7) (v := .int (nI (e1 + 1))) (ty := .int) (C := RX7) (T := TX7) (N := 11) hx hb hts (by decide +kernel) tyX7 tyX7_ok nmX7 hown hK.1 hP hD hS 0 rfl rfl 6 (by decide) (hts (.fieldLink RX7 85 "ParkingGarageModel" "next" "I") (by decide +kernel)) (fun _ h9 => h9) rfl (by decide +kernel) rfl rfl (Nat.le_of_ble_eq_true rfl) dX7_goes_177 (fun H locs hP hD hS => ?_)
                        have hP : va_P D vwCl [(ma 0, oE 7 [.ref (ma 1), .ref (ma 2), .int (fi 0), .ref (ma 3), .ref (ma 4), .int (nI L), .int (nI (e1 + 1)), .int (nI b), .long (0), .int (-9), .int (wr)]), (ma 4, iE cB 120 (bt f))] H := hP
                        have hD : va_D A [(ma 0, oE 7 [.ref (ma 1), .ref (ma 2), .int (fi 0), .ref (ma 3), .ref (ma 4), .int (nI L), .int (nI (e1 + 1)), .int (nI b), .long (0), .int (-9), .int (wr)]), (ma 4, iE cB 120 (bt f))] := hD
                        refine lv_goto (tgt := 113) hx hb dX7_goes_180 (by decide) ?_
                        exact ih (e1 + 1) (by omega) (by omega) (by omega) (by
      intro q h1 h2
      rcases Nat.lt_or_ge q e1 with z | z
      · exact hrun q h1 z
      · have e9 : q = e1 := by omega
        rw [e9]
        exact ⟨hlt2, hcc⟩) _ _ hP hD hS ls (lv_sub hl [0, 1, 2] rfl)
                      · -- X7_in f
                        have hbk : Beh f L 48 57 b e1 := ⟨hrun, by omega, fun q => h_28 ((bt_D (hch e1 (by omega))).mpr q.2)⟩
                        refine if_eq_t (tgt := 183) hx hb rfl dX7_goes_167 (by decide) ?_
                        refine lv_aload_n hx hb dX7_goes_183 rfl (lv_at hl 2 rfl) ?_
                        refine lv_iload_n hx hb dX7_goes_184 rfl (lv_at hl 0 rfl) ?_
                        refine if_eq_f (tgt := 192) hx hb (by decide) dX7_goes_185 (by decide) ?_
                        refine lv_iconst (v := 0) hx hb dX7_goes_188 (by decide) ?_
                        refine lv_goto (tgt := 194) hx hb dX7_goes_189 (by decide) ?_
                        refine va_put (D := D) (ci := 7) (v := .int (0)) (ty := .int) (C := RX7) (T := TX7) (N := 11) hx hb hts (by decide +kernel) tyX7 tyX7_ok nmX7 hown hK.1 hP hD hS 0 rfl rfl 9 (by decide) (hts (.fieldLink RX7 95 "ParkingGarageModel" "number" "I") (by decide +kernel)) (fun _ h9 => h9) rfl (by decide +kernel) rfl rfl (Nat.le_of_ble_eq_true rfl) dX7_goes_194 (fun H locs hP hD hS => ?_)
                        have hP : va_P D vwCl [(ma 0, oE 7 [.ref (ma 1), .ref (ma 2), .int (fi 0), .ref (ma 3), .ref (ma 4), .int (nI L), .int (nI e1), .int (nI b), .long (0), .int (0), .int (wr)]), (ma 4, iE cB 120 (bt f))] H := hP
                        have hD : va_D A [(ma 0, oE 7 [.ref (ma 1), .ref (ma 2), .int (fi 0), .ref (ma 3), .ref (ma 4), .int (nI L), .int (nI e1), .int (nI b), .long (0), .int (0), .int (wr)]), (ma 4, iE cB 120 (bt f))] := hD
                        refine lv_aload_n hx hb dX7_goes_197 rfl (lv_at hl 2 rfl) ?_
                        refine va_get (D := D) (ci := 7) (v := .int (nI b)) (C := RX7) (T := TX7) (N := 11) hx hb hts (by decide +kernel) hown hK.1 hP 0 rfl rfl 7 (by decide) (hts (.fieldLink RX7 88 "ParkingGarageModel" "begin" "I") (by decide +kernel)) (fun _ h9 => h9) rfl dX7_goes_198 ?_
                        refine lv_istore_n (lv' := [(3, .int (nI b)), (2, .int (1)), (1, .int (0)), (0, .ref (ma 0))]) hx hb dX7_goes_201 rfl hl (by decide) rfl (fun ls hl => ?_)
                        have hbe : b ≤ e1 := by omega
                        have heL : e1 ≤ L := by omega
                        have hloop : ∀ (d i : Nat), i ≤ e1 → e1 - i < d → (b ≤ i) → ∀ (H : Heap) (locs : List Loc), va_P D vwCl [(ma 0, oE 7 [.ref (ma 1), .ref (ma 2), .int (fi 0), .ref (ma 3), .ref (ma 4), .int (nI L), .int (nI e1), .int (nI b), .long (0), .int (nI (min 99999 (dV f b (i - b)))), .int (wr)]), (ma 4, iE cB 120 (bt f))] H → va_D A [(ma 0, oE 7 [.ref (ma 1), .ref (ma 2), .int (fi 0), .ref (ma 3), .ref (ma 4), .int (nI L), .int (nI e1), .int (nI b), .long (0), .int (nI (min 99999 (dV f b (i - b)))), .int (wr)]), (ma 4, iE cB 120 (bt f))] → va_S A s.heap H locs → ∀ ls : Array Slot, lv_has ls 4 [(3, .int (nI i)), (2, .int (1)), (1, .int (0)), (0, .ref (ma 0))] → W p l e ({ frames := 1, cells := 0, slots := 0, locals := 22 } : Room) s m (([.ref (ma 0)] : List Value).toArray) below meth c H locs 0 0 (MQ below (va_Qv (fun u : TKN => GoT f L p0 u) (wrB D A (fun u => [(ma 0, oE 7 [.ref (ma 1), .ref (ma 2), .int (fi 0), .ref (ma 3), .ref (ma 4), .int (nI L), .int (nI u.2.2.1), .int (nI u.2.1), .long (u.2.2.2.1), .int (u.2.2.2.2), .int (wr)]), (ma 4, iE cB 120 (bt f))])) A) (([.ref (ma 0)] : List Value).toArray) s 0 0 A) (F0 m 202 ls []) := by
                          intro d
                          induction d with
                          | zero => intro i _ h2; exact absurd h2 (Nat.not_lt_zero _)
                          | succ d ih =>
                            intro i hi hd hbi3 H locs hP hD hS ls hl
                            refine lv_iload_n hx hb dX7_goes_202 rfl (lv_at hl 0 rfl) ?_
                            refine lv_aload_n hx hb dX7_goes_203 rfl (lv_at hl 3 rfl) ?_
                            refine va_get (D := D) (ci := 7) (v := .int (nI e1)) (C := RX7) (T := TX7) (N := 11) hx hb hts (by decide +kernel) hown hK.1 hP 0 rfl rfl 6 (by decide) (hts (.fieldLink RX7 85 "ParkingGarageModel" "next" "I") (by decide +kernel)) (fun _ h9 => h9) rfl dX7_goes_204 ?_
                            refine lv_icmp_ge (tgt := 299) hx hb dX7_goes_207 (by decide) (fun c_29 => ?_) (fun c_29 => ?_)
                            · -- c_29: nI i ≥ nI e1
                              have hge3 : i = e1 := nI_geD (n := e1) rfl hi (by omega) c_29
                              rw [hge3] at hP hD
                              have hP : va_P D vwCl [(ma 0, oE 7 [.ref (ma 1), .ref (ma 2), .int (fi 0), .ref (ma 3), .ref (ma 4), .int (nI L), .int (nI e1), .int (nI b), .long (0), .int (nI (min 99999 (dV f b (e1 - b)))), .int (wr)]), (ma 4, iE cB 120 (bt f))] H := hP
                              have hD : va_D A [(ma 0, oE 7 [.ref (ma 1), .ref (ma 2), .int (fi 0), .ref (ma 3), .ref (ma 4), .int (nI L), .int (nI e1), .int (nI b), .long (0), .int (nI (min 99999 (dV f b (e1 - b)))), .int (wr)]), (ma 4, iE cB 120 (bt f))] := hD
                              refine lv_aload_n hx hb dX7_goes_299 rfl (lv_at hl 3 rfl) ?_
                              refine lv_iload_n hx hb dX7_goes_300 rfl (lv_at hl 1 rfl) ?_
                              refine if_eq_f (tgt := 336) hx hb (by decide) dX7_goes_301 (by decide) ?_
                              refine lv_aload_n hx hb dX7_goes_304 rfl (lv_at hl 3 rfl) ?_
                              refine va_get (D := D) (ci := 7) (v := .ref (ma 4)) (C := RX7) (T := TX7) (N := 11) hx hb hts (by decide +kernel) hown hK.1 hP 0 rfl rfl 4 (by decide) (hts (.fieldLink RX7 19 "ParkingGarageModel" "text" "[B") (by decide +kernel)) (fun _ h9 => h9) rfl dX7_goes_305 ?_
                              refine lv_aload_n hx hb dX7_goes_308 rfl (lv_at hl 3 rfl) ?_
                              refine va_get (D := D) (ci := 7) (v := .int (nI b)) (C := RX7) (T := TX7) (N := 11) hx hb hts (by decide +kernel) hown hK.1 hP 0 rfl rfl 7 (by decide) (hts (.fieldLink RX7 88 "ParkingGarageModel" "begin" "I") (by decide +kernel)) (fun _ h9 => h9) rfl dX7_goes_309 ?_
                              refine bald_n (f := bt f) hx hb hK.1 hP 1 2 rfl rfl (b) (rfl) (by omega) (by omega) dX7_goes_312 ?_
                              refine lv_bipush (v := 48) hx hb dX7_goes_313 (by decide) ?_
                              refine lv_icmp_ne (tgt := 336) hx hb dX7_goes_315 (by decide) (fun c_30 => ?_) (fun c_30 => ?_)
                              · -- c_30: (bt f) (b) ≠ 48
                                have hnl : ¬ (f b = 48 ∧ 1 < e1 - b) := fun q => c_30 ((bt_Dv hkD).trans q.1)
                                refine lv_aload_n hx hb dX7_goes_336 rfl (lv_at hl 3 rfl) ?_
                                refine va_get (D := D) (ci := 7) (v := .int (nI (min 99999 (dV f b (e1 - b))))) (C := RX7) (T := TX7) (N := 11) hx hb hts (by decide +kernel) hown hK.1 hP 0 rfl rfl 9 (by decide) (hts (.fieldLink RX7 95 "ParkingGarageModel" "number" "I") (by decide +kernel)) (fun _ h9 => h9) rfl dX7_goes_337 ?_
                                refine va_put (D := D) (ci := 7) (v := .int (nI (min 99999 (dV f b (e1 - b))))) (ty := .int) (C := RX7) (T := TX7) (N := 11) hx hb hts (by decide +kernel) tyX7 tyX7_ok nmX7 hown hK.1 hP hD hS 0 rfl rfl 9 (by decide) (hts (.fieldLink RX7 95 "ParkingGarageModel" "number" "I") (by decide +kernel)) (fun _ h9 => h9) rfl (by decide +kernel) rfl rfl (Nat.le_of_ble_eq_true rfl) dX7_goes_340 (fun H locs hP hD hS => ?_)
                                have hP : va_P D vwCl [(ma 0, oE 7 [.ref (ma 1), .ref (ma 2), .int (fi 0), .ref (ma 3), .ref (ma 4), .int (nI L), .int (nI e1), .int (nI b), .long (0), .int (nI (min 99999 (dV f b (e1 - b)))), .int (wr)]), (ma 4, iE cB 120 (bt f))] H := hP
                                have hD : va_D A [(ma 0, oE 7 [.ref (ma 1), .ref (ma 2), .int (fi 0), .ref (ma 3), .ref (ma 4), .int (nI L), .int (nI e1), .int (nI b), .long (0), .int (nI (min 99999 (dV f b (e1 - b)))), .int (wr)]), (ma 4, iE cB 120 (bt f))] := hD
                                exact wr_vret ((2, b, e1, 0, nI (min 99999 (dV f b (e1 - b))))) hx hb hr hlocks hS hP hD [0, 1] rfl rfl (by decide) dX7_goes_343 ((show Tok f L p0 2 b e1 ∧ WdOf f 2 b e1 (0) ∧ NmOf f 2 b e1 (nI (min 99999 (dV f b (e1 - b)))) from ⟨⟨hbeh, Or.inr (Or.inr (Or.inl ⟨hlt, hkL, hkD, rfl, hbk⟩))⟩, wd_zero (fun q => absurd q.1 (by decide)), nm_num hnl⟩))
                              · -- c_30: not (bt f) (b) ≠ 48
                                have hb48 : f b = 48 := (bt_Dv hkD).symm.trans c_30
                                refine lv_aload_n hx hb dX7_goes_318 rfl (lv_at hl 3 rfl) ?_
                                refine va_get (D := D) (ci := 7) (v := .int (nI e1)) (C := RX7) (T := TX7) (N := 11) hx hb hts (by decide +kernel) hown hK.1 hP 0 rfl rfl 6 (by decide) (hts (.fieldLink RX7 85 "ParkingGarageModel" "next" "I") (by decide +kernel)) (fun _ h9 => h9) rfl dX7_goes_319 ?_
                                refine lv_aload_n hx hb dX7_goes_322 rfl (lv_at hl 3 rfl) ?_
                                refine va_get (D := D) (ci := 7) (v := .int (nI b)) (C := RX7) (T := TX7) (N := 11) hx hb hts (by decide +kernel) hown hK.1 hP 0 rfl rfl 7 (by decide) (hts (.fieldLink RX7 88 "ParkingGarageModel" "begin" "I") (by decide +kernel)) (fun _ h9 => h9) rfl dX7_goes_323 ?_
                                refine lv_iconst (v := 1) hx hb dX7_goes_326 (by decide) ?_
                                refine lv_iadd hx hb dX7_goes_327 ?_
                                rw [show (((nI b) + (1)) : Int32) = nI (b + 1) from (nI_add b 1)]
                                refine lv_icmp_le (tgt := 336) hx hb dX7_goes_328 (by decide) (fun c_31 => ?_) (fun c_31 => ?_)
                                · -- c_31: nI e1 ≤ nI (b + 1)
                                  have hnl : ¬ (f b = 48 ∧ 1 < e1 - b) := fun q => by have := (nI_leI (by omega) (by omega)).mp c_31; omega
                                  refine lv_aload_n hx hb dX7_goes_336 rfl (lv_at hl 3 rfl) ?_
                                  refine va_get (D := D) (ci := 7) (v := .int (nI (min 99999 (dV f b (e1 - b))))) (C := RX7) (T := TX7) (N := 11) hx hb hts (by decide +kernel) hown hK.1 hP 0 rfl rfl 9 (by decide) (hts (.fieldLink RX7 95 "ParkingGarageModel" "number" "I") (by decide +kernel)) (fun _ h9 => h9) rfl dX7_goes_337 ?_
                                  refine va_put (D := D) (ci := 7) (v := .int (nI (min 99999 (dV f b (e1 - b))))) (ty := .int) (C := RX7) (T := TX7) (N := 11) hx hb hts (by decide +kernel) tyX7 tyX7_ok nmX7 hown hK.1 hP hD hS 0 rfl rfl 9 (by decide) (hts (.fieldLink RX7 95 "ParkingGarageModel" "number" "I") (by decide +kernel)) (fun _ h9 => h9) rfl (by decide +kernel) rfl rfl (Nat.le_of_ble_eq_true rfl) dX7_goes_340 (fun H locs hP hD hS => ?_)
                                  have hP : va_P D vwCl [(ma 0, oE 7 [.ref (ma 1), .ref (ma 2), .int (fi 0), .ref (ma 3), .ref (ma 4), .int (nI L), .int (nI e1), .int (nI b), .long (0), .int (nI (min 99999 (dV f b (e1 - b)))), .int (wr)]), (ma 4, iE cB 120 (bt f))] H := hP
                                  have hD : va_D A [(ma 0, oE 7 [.ref (ma 1), .ref (ma 2), .int (fi 0), .ref (ma 3), .ref (ma 4), .int (nI L), .int (nI e1), .int (nI b), .long (0), .int (nI (min 99999 (dV f b (e1 - b)))), .int (wr)]), (ma 4, iE cB 120 (bt f))] := hD
                                  exact wr_vret ((2, b, e1, 0, nI (min 99999 (dV f b (e1 - b))))) hx hb hr hlocks hS hP hD [0, 1] rfl rfl (by decide) dX7_goes_343 ((show Tok f L p0 2 b e1 ∧ WdOf f 2 b e1 (0) ∧ NmOf f 2 b e1 (nI (min 99999 (dV f b (e1 - b)))) from ⟨⟨hbeh, Or.inr (Or.inr (Or.inl ⟨hlt, hkL, hkD, rfl, hbk⟩))⟩, wd_zero (fun q => absurd q.1 (by decide)), nm_num hnl⟩))
                                · -- c_31: not nI e1 ≤ nI (b + 1)
                                  have hyl : f b = 48 ∧ 1 < e1 - b := ⟨hb48, by
  rcases Nat.lt_or_ge (b + 1) e1 with z | z
  · omega
  · exact absurd (nI_le z (by omega)) c_31⟩
                                  refine lv_bipush (v := -9) hx hb dX7_goes_331 (by decide) ?_
                                  refine lv_goto (tgt := 340) hx hb dX7_goes_333 (by decide) ?_
                                  refine va_put (D := D) (ci := 7) (v := .int (-9)) (ty := .int) (C := RX7) (T := TX7) (N := 11) hx hb hts (by decide +kernel) tyX7 tyX7_ok nmX7 hown hK.1 hP hD hS 0 rfl rfl 9 (by decide) (hts (.fieldLink RX7 95 "ParkingGarageModel" "number" "I") (by decide +kernel)) (fun _ h9 => h9) rfl (by decide +kernel) rfl rfl (Nat.le_of_ble_eq_true rfl) dX7_goes_340 (fun H locs hP hD hS => ?_)
                                  have hP : va_P D vwCl [(ma 0, oE 7 [.ref (ma 1), .ref (ma 2), .int (fi 0), .ref (ma 3), .ref (ma 4), .int (nI L), .int (nI e1), .int (nI b), .long (0), .int (-9), .int (wr)]), (ma 4, iE cB 120 (bt f))] H := hP
                                  have hD : va_D A [(ma 0, oE 7 [.ref (ma 1), .ref (ma 2), .int (fi 0), .ref (ma 3), .ref (ma 4), .int (nI L), .int (nI e1), .int (nI b), .long (0), .int (-9), .int (wr)]), (ma 4, iE cB 120 (bt f))] := hD
                                  exact wr_vret ((2, b, e1, 0, -9)) hx hb hr hlocks hS hP hD [0, 1] rfl rfl (by decide) dX7_goes_343 ((show Tok f L p0 2 b e1 ∧ WdOf f 2 b e1 (0) ∧ NmOf f 2 b e1 (-9) from ⟨⟨hbeh, Or.inr (Or.inr (Or.inl ⟨hlt, hkL, hkD, rfl, hbk⟩))⟩, wd_zero (fun q => absurd q.1 (by decide)), nm_lead hyl⟩))
                            · -- c_29: not nI i ≥ nI e1
                              have hlt3 : i < e1 := nI_ltD (n := e1) rfl hi (by omega) c_29
                              refine lv_aload_n hx hb dX7_goes_210 rfl (lv_at hl 3 rfl) ?_
                              refine lv_iload_n hx hb dX7_goes_211 rfl (lv_at hl 2 rfl) ?_
                              refine if_eq_t (tgt := 252) hx hb rfl dX7_goes_212 (by decide) ?_
                              refine lv_lconst (v := 0) hx hb dX7_goes_252 (by decide) ?_
                              refine va_put (D := D) (ci := 7) (v := .long (0)) (ty := .long) (C := RX7) (T := TX7) (N := 11) hx hb hts (by decide +kernel) tyX7 tyX7_ok nmX7 hown hK.1 hP hD hS 0 rfl rfl 8 (by decide) (hts (.fieldLink RX7 91 "ParkingGarageModel" "word" "J") (by decide +kernel)) (fun _ h9 => h9) rfl (by decide +kernel) rfl rfl (Nat.le_of_ble_eq_true rfl) dX7_goes_253 (fun H locs hP hD hS => ?_)
                              have hP : va_P D vwCl [(ma 0, oE 7 [.ref (ma 1), .ref (ma 2), .int (fi 0), .ref (ma 3), .ref (ma 4), .int (nI L), .int (nI e1), .int (nI b), .long (0), .int (nI (min 99999 (dV f b (i - b)))), .int (wr)]), (ma 4, iE cB 120 (bt f))] H := hP
                              have hD : va_D A [(ma 0, oE 7 [.ref (ma 1), .ref (ma 2), .int (fi 0), .ref (ma 3), .ref (ma 4), .int (nI L), .int (nI e1), .int (nI b), .long (0), .int (nI (min 99999 (dV f b (i - b)))), .int (wr)]), (ma 4, iE cB 120 (bt f))] := hD
                              refine lv_aload_n hx hb dX7_goes_256 rfl (lv_at hl 3 rfl) ?_
                              refine lv_iload_n hx hb dX7_goes_257 rfl (lv_at hl 1 rfl) ?_
                              refine if_eq_f (tgt := 286) hx hb (by decide) dX7_goes_258 (by decide) ?_
                              refine lv_ldc (v := 99999) hx hb hown (hts (.constant RX7 78 99999) (by decide +kernel)) dX7_goes_261 ?_
                              refine lv_bipush (v := 10) hx hb dX7_goes_263 (by decide) ?_
                              refine lv_aload_n hx hb dX7_goes_265 rfl (lv_at hl 3 rfl) ?_
                              refine va_get (D := D) (ci := 7) (v := .int (nI (min 99999 (dV f b (i - b))))) (C := RX7) (T := TX7) (N := 11) hx hb hts (by decide +kernel) hown hK.1 hP 0 rfl rfl 9 (by decide) (hts (.fieldLink RX7 95 "ParkingGarageModel" "number" "I") (by decide +kernel)) (fun _ h9 => h9) rfl dX7_goes_266 ?_
                              refine lv_imul hx hb dX7_goes_269 ?_
                              refine lv_aload_n hx hb dX7_goes_270 rfl (lv_at hl 3 rfl) ?_
                              refine va_get (D := D) (ci := 7) (v := .ref (ma 4)) (C := RX7) (T := TX7) (N := 11) hx hb hts (by decide +kernel) hown hK.1 hP 0 rfl rfl 4 (by decide) (hts (.fieldLink RX7 19 "ParkingGarageModel" "text" "[B") (by decide +kernel)) (fun _ h9 => h9) rfl dX7_goes_271 ?_
                              refine lv_iload_n hx hb dX7_goes_274 rfl (lv_at hl 0 rfl) ?_
                              refine bald_n (f := bt f) hx hb hK.1 hP 1 2 rfl rfl (i) (rfl) (by omega) (by omega) dX7_goes_275 ?_
                              refine lv_iadd hx hb dX7_goes_276 ?_
                              refine lv_bipush (v := 48) hx hb dX7_goes_277 (by decide) ?_
                              refine lv_isub hx hb dX7_goes_279 ?_
                              refine cs_i (As := [.int (99999), .int ((((10) * (nI (min 99999 (dV f b (i - b))))) + ((bt f) (i))) - (48))]) (rest := [.ref (ma 0)]) (tys := TYS cI cC cB cS) ⟨hx, hb, hml, hown, hts⟩ (c_X7_lesser l D cI cC cB cS (99999) ((((10) * (nI (min 99999 (dV f b (i - b))))) + ((bt f) (i))) - (48))) (va_cwS 2 hts gX7_goes_X7_lesser rfl rfl rfl (by decide +kernel) ⟨Nat.le_of_ble_eq_true rfl, Nat.le_of_ble_eq_true rfl⟩) hK hP [] rfl rfl rfl hl.1 (Nat.le_of_ble_eq_true rfl) dX7_goes_280 ⟨Nat.le_of_ble_eq_true rfl, Nat.le_of_ble_eq_true rfl⟩ (fun r_32 hr_32 => ?_)
                              have hr_32 : r_32 = if 99999 < (((10) * (nI (min 99999 (dV f b (i - b))))) + ((bt f) (i))) - (48) then 99999 else (((10) * (nI (min 99999 (dV f b (i - b))))) + ((bt f) (i))) - (48) := hr_32
                              subst hr_32
                              refine lv_goto (tgt := 290) hx hb dX7_goes_283 (by decide) ?_
                              rw [num_step hbi3 (hrun i hbi3 hlt3).2]
                              refine va_put (D := D) (ci := 7) (v := .int (nI (min 99999 (dV f b (i + 1 - b))))) (ty := .int) (C := RX7) (T := TX7) (N := 11) hx hb hts (by decide +kernel) tyX7 tyX7_ok nmX7 hown hK.1 hP hD hS 0 rfl rfl 9 (by decide) (hts (.fieldLink RX7 95 "ParkingGarageModel" "number" "I") (by decide +kernel)) (fun _ h9 => h9) rfl (by decide +kernel) rfl rfl (Nat.le_of_ble_eq_true rfl) dX7_goes_290 (fun H locs hP hD hS => ?_)
                              have hP : va_P D vwCl [(ma 0, oE 7 [.ref (ma 1), .ref (ma 2), .int (fi 0), .ref (ma 3), .ref (ma 4), .int (nI L), .int (nI e1), .int (nI b), .long (0), .int (nI (min 99999 (dV f b (i + 1 - b)))), .int (wr)]), (ma 4, iE cB 120 (bt f))] H := hP
                              have hD : va_D A [(ma 0, oE 7 [.ref (ma 1), .ref (ma 2), .int (fi 0), .ref (ma 3), .ref (ma 4), .int (nI L), .int (nI e1), .int (nI b), .long (0), .int (nI (min 99999 (dV f b (i + 1 - b)))), .int (wr)]), (ma 4, iE cB 120 (bt f))] := hD
                              refine lv_iinc (v := nI (i + 1)) (lv' := [(3, .int (nI (i + 1))), (2, .int (1)), (1, .int (0)), (0, .ref (ma 0))]) hx hb dX7_goes_293 hl (k := 0) rfl (nI_1 _) (by decide) rfl (fun ls hl => ?_)
                              refine lv_goto (tgt := 202) hx hb dX7_goes_296 (by decide) ?_
                              exact ih (i + 1) (by omega) (by omega) (by omega) _ _ hP hD hS ls (lv_sub hl [0, 1, 2, 3] rfl)
                        have hP : va_P D vwCl [(ma 0, oE 7 [.ref (ma 1), .ref (ma 2), .int (fi 0), .ref (ma 3), .ref (ma 4), .int (nI L), .int (nI e1), .int (nI b), .long (0), .int (nI (min 99999 (dV f b (b - b)))), .int (wr)]), (ma 4, iE cB 120 (bt f))] H := by rw [Nat.sub_self]; exact hP
                        have hD : va_D A [(ma 0, oE 7 [.ref (ma 1), .ref (ma 2), .int (fi 0), .ref (ma 3), .ref (ma 4), .int (nI L), .int (nI e1), .int (nI b), .long (0), .int (nI (min 99999 (dV f b (b - b)))), .int (wr)]), (ma 4, iE cB 120 (bt f))] := by rw [Nat.sub_self]; exact hD
                        exact hloop (e1 + 1) (b) (by omega) (by omega) (Nat.le_refl b) _ _ hP hD hS ls (lv_sub hl [0, 1, 2, 3] rfl)
                exact hloop (L + 1) (b + 1) (by omega) (by omega) (Nat.le_refl _) ((fun q h1 h2 => by rw [show q = b by omega]; exact ⟨hlt, hkD⟩)) _ _ hP hD hS ls (lv_sub hl [0, 1, 2] rfl)
              · -- X7_in f
                have hkD : ¬ isD (f b) := fun q => h_21 ((bt_D (hch b (by omega))).mpr q)
                refine lv_istore_n (lv' := [(2, .int (0)), (1, .int (0)), (0, .ref (ma 0))]) hx hb dX7_goes_102 rfl hl (by decide) rfl (fun ls hl => ?_)
                refine lv_aload_n hx hb dX7_goes_103 rfl (lv_at hl 2 rfl) ?_
                refine lv_dup hx hb dX7_goes_104 rfl ?_
                refine va_get (D := D) (ci := 7) (v := .int (nI b)) (C := RX7) (T := TX7) (N := 11) hx hb hts (by decide +kernel) hown hK.1 hP 0 rfl rfl 6 (by decide) (hts (.fieldLink RX7 85 "ParkingGarageModel" "next" "I") (by decide +kernel)) (fun _ h9 => h9) rfl dX7_goes_105 ?_
                refine lv_iconst (v := 1) hx hb dX7_goes_108 (by decide) ?_
                refine lv_iadd hx hb dX7_goes_109 ?_
                rw [show (((nI b) + (1)) : Int32) = nI (b + 1) from (nI_add b 1)]
                refine va_put (D := D) (ci := 7) (v := .int (nI (b + 1))) (ty := .int) (C := RX7) (T := TX7) (N := 11) hx hb hts (by decide +kernel) tyX7 tyX7_ok nmX7 hown hK.1 hP hD hS 0 rfl rfl 6 (by decide) (hts (.fieldLink RX7 85 "ParkingGarageModel" "next" "I") (by decide +kernel)) (fun _ h9 => h9) rfl (by decide +kernel) rfl rfl (Nat.le_of_ble_eq_true rfl) dX7_goes_110 (fun H locs hP hD hS => ?_)
                have hP : va_P D vwCl [(ma 0, oE 7 [.ref (ma 1), .ref (ma 2), .int (fi 0), .ref (ma 3), .ref (ma 4), .int (nI L), .int (nI (b + 1)), .int (nI b), .long (0), .int (-9), .int (wr)]), (ma 4, iE cB 120 (bt f))] H := hP
                have hD : va_D A [(ma 0, oE 7 [.ref (ma 1), .ref (ma 2), .int (fi 0), .ref (ma 3), .ref (ma 4), .int (nI L), .int (nI (b + 1)), .int (nI b), .long (0), .int (-9), .int (wr)]), (ma 4, iE cB 120 (bt f))] := hD
                refine lv_aload_n hx hb dX7_goes_113 rfl (lv_at hl 2 rfl) ?_
                refine va_get (D := D) (ci := 7) (v := .int (nI (b + 1))) (C := RX7) (T := TX7) (N := 11) hx hb hts (by decide +kernel) hown hK.1 hP 0 rfl rfl 6 (by decide) (hts (.fieldLink RX7 85 "ParkingGarageModel" "next" "I") (by decide +kernel)) (fun _ h9 => h9) rfl dX7_goes_114 ?_
                refine lv_aload_n hx hb dX7_goes_117 rfl (lv_at hl 2 rfl) ?_
                refine va_get (D := D) (ci := 7) (v := .int (nI L)) (C := RX7) (T := TX7) (N := 11) hx hb hts (by decide +kernel) hown hK.1 hP 0 rfl rfl 5 (by decide) (hts (.fieldLink RX7 82 "ParkingGarageModel" "typed" "I") (by decide +kernel)) (fun _ h9 => h9) rfl dX7_goes_118 ?_
                refine lv_icmp_ge (tgt := 183) hx hb dX7_goes_121 (by decide) (fun c_33 => ?_) (fun c_33 => ?_)
                · -- c_33: nI (b + 1) ≥ nI L
                  refine lv_aload_n hx hb dX7_goes_183 rfl (lv_at hl 2 rfl) ?_
                  refine lv_iload_n hx hb dX7_goes_184 rfl (lv_at hl 0 rfl) ?_
                  refine if_eq_t (tgt := 192) hx hb rfl dX7_goes_185 (by decide) ?_
                  refine lv_bipush (v := -9) hx hb dX7_goes_192 (by decide) ?_
                  refine va_put (D := D) (ci := 7) (v := .int (-9)) (ty := .int) (C := RX7) (T := TX7) (N := 11) hx hb hts (by decide +kernel) tyX7 tyX7_ok nmX7 hown hK.1 hP hD hS 0 rfl rfl 9 (by decide) (hts (.fieldLink RX7 95 "ParkingGarageModel" "number" "I") (by decide +kernel)) (fun _ h9 => h9) rfl (by decide +kernel) rfl rfl (Nat.le_of_ble_eq_true rfl) dX7_goes_194 (fun H locs hP hD hS => ?_)
                  have hP : va_P D vwCl [(ma 0, oE 7 [.ref (ma 1), .ref (ma 2), .int (fi 0), .ref (ma 3), .ref (ma 4), .int (nI L), .int (nI (b + 1)), .int (nI b), .long (0), .int (-9), .int (wr)]), (ma 4, iE cB 120 (bt f))] H := hP
                  have hD : va_D A [(ma 0, oE 7 [.ref (ma 1), .ref (ma 2), .int (fi 0), .ref (ma 3), .ref (ma 4), .int (nI L), .int (nI (b + 1)), .int (nI b), .long (0), .int (-9), .int (wr)]), (ma 4, iE cB 120 (bt f))] := hD
                  refine lv_aload_n hx hb dX7_goes_197 rfl (lv_at hl 2 rfl) ?_
                  refine va_get (D := D) (ci := 7) (v := .int (nI b)) (C := RX7) (T := TX7) (N := 11) hx hb hts (by decide +kernel) hown hK.1 hP 0 rfl rfl 7 (by decide) (hts (.fieldLink RX7 88 "ParkingGarageModel" "begin" "I") (by decide +kernel)) (fun _ h9 => h9) rfl dX7_goes_198 ?_
                  refine lv_istore_n (lv' := [(3, .int (nI b)), (2, .int (0)), (1, .int (0)), (0, .ref (ma 0))]) hx hb dX7_goes_201 rfl hl (by decide) rfl (fun ls hl => ?_)
                  obtain ⟨e1, he1⟩ : ∃ e1, e1 = b + 1 := ⟨_, rfl⟩
                  rw [← he1] at hP hD
                  have hbe : b ≤ e1 := by omega
                  have heL : e1 ≤ L := by omega
                  have hloop : ∀ (d i : Nat), i ≤ e1 → e1 - i < d → (b ≤ i) → ∀ (H : Heap) (locs : List Loc), va_P D vwCl [(ma 0, oE 7 [.ref (ma 1), .ref (ma 2), .int (fi 0), .ref (ma 3), .ref (ma 4), .int (nI L), .int (nI e1), .int (nI b), .long (0), .int (-9), .int (wr)]), (ma 4, iE cB 120 (bt f))] H → va_D A [(ma 0, oE 7 [.ref (ma 1), .ref (ma 2), .int (fi 0), .ref (ma 3), .ref (ma 4), .int (nI L), .int (nI e1), .int (nI b), .long (0), .int (-9), .int (wr)]), (ma 4, iE cB 120 (bt f))] → va_S A s.heap H locs → ∀ ls : Array Slot, lv_has ls 4 [(3, .int (nI i)), (2, .int (0)), (1, .int (0)), (0, .ref (ma 0))] → W p l e ({ frames := 1, cells := 0, slots := 0, locals := 22 } : Room) s m (([.ref (ma 0)] : List Value).toArray) below meth c H locs 0 0 (MQ below (va_Qv (fun u : TKN => GoT f L p0 u) (wrB D A (fun u => [(ma 0, oE 7 [.ref (ma 1), .ref (ma 2), .int (fi 0), .ref (ma 3), .ref (ma 4), .int (nI L), .int (nI u.2.2.1), .int (nI u.2.1), .long (u.2.2.2.1), .int (u.2.2.2.2), .int (wr)]), (ma 4, iE cB 120 (bt f))])) A) (([.ref (ma 0)] : List Value).toArray) s 0 0 A) (F0 m 202 ls []) := by
                    intro d
                    induction d with
                    | zero => intro i _ h2; exact absurd h2 (Nat.not_lt_zero _)
                    | succ d ih =>
                      intro i hi hd hbi3 H locs hP hD hS ls hl
                      refine lv_iload_n hx hb dX7_goes_202 rfl (lv_at hl 0 rfl) ?_
                      refine lv_aload_n hx hb dX7_goes_203 rfl (lv_at hl 3 rfl) ?_
                      refine va_get (D := D) (ci := 7) (v := .int (nI e1)) (C := RX7) (T := TX7) (N := 11) hx hb hts (by decide +kernel) hown hK.1 hP 0 rfl rfl 6 (by decide) (hts (.fieldLink RX7 85 "ParkingGarageModel" "next" "I") (by decide +kernel)) (fun _ h9 => h9) rfl dX7_goes_204 ?_
                      refine lv_icmp_ge (tgt := 299) hx hb dX7_goes_207 (by decide) (fun c_34 => ?_) (fun c_34 => ?_)
                      · -- c_34: nI i ≥ nI e1
                        have hge3 : i = e1 := nI_geD (n := e1) rfl hi (by omega) c_34
                        skip
                        have hP : va_P D vwCl [(ma 0, oE 7 [.ref (ma 1), .ref (ma 2), .int (fi 0), .ref (ma 3), .ref (ma 4), .int (nI L), .int (nI e1), .int (nI b), .long (0), .int (-9), .int (wr)]), (ma 4, iE cB 120 (bt f))] H := hP
                        have hD : va_D A [(ma 0, oE 7 [.ref (ma 1), .ref (ma 2), .int (fi 0), .ref (ma 3), .ref (ma 4), .int (nI L), .int (nI e1), .int (nI b), .long (0), .int (-9), .int (wr)]), (ma 4, iE cB 120 (bt f))] := hD
                        refine lv_aload_n hx hb dX7_goes_299 rfl (lv_at hl 3 rfl) ?_
                        refine lv_iload_n hx hb dX7_goes_300 rfl (lv_at hl 1 rfl) ?_
                        refine if_eq_t (tgt := 336) hx hb rfl dX7_goes_301 (by decide) ?_
                        refine lv_aload_n hx hb dX7_goes_336 rfl (lv_at hl 3 rfl) ?_
                        refine va_get (D := D) (ci := 7) (v := .int (-9)) (C := RX7) (T := TX7) (N := 11) hx hb hts (by decide +kernel) hown hK.1 hP 0 rfl rfl 9 (by decide) (hts (.fieldLink RX7 95 "ParkingGarageModel" "number" "I") (by decide +kernel)) (fun _ h9 => h9) rfl dX7_goes_337 ?_
                        refine va_put (D := D) (ci := 7) (v := .int (-9)) (ty := .int) (C := RX7) (T := TX7) (N := 11) hx hb hts (by decide +kernel) tyX7 tyX7_ok nmX7 hown hK.1 hP hD hS 0 rfl rfl 9 (by decide) (hts (.fieldLink RX7 95 "ParkingGarageModel" "number" "I") (by decide +kernel)) (fun _ h9 => h9) rfl (by decide +kernel) rfl rfl (Nat.le_of_ble_eq_true rfl) dX7_goes_340 (fun H locs hP hD hS => ?_)
                        have hP : va_P D vwCl [(ma 0, oE 7 [.ref (ma 1), .ref (ma 2), .int (fi 0), .ref (ma 3), .ref (ma 4), .int (nI L), .int (nI e1), .int (nI b), .long (0), .int (-9), .int (wr)]), (ma 4, iE cB 120 (bt f))] H := hP
                        have hD : va_D A [(ma 0, oE 7 [.ref (ma 1), .ref (ma 2), .int (fi 0), .ref (ma 3), .ref (ma 4), .int (nI L), .int (nI e1), .int (nI b), .long (0), .int (-9), .int (wr)]), (ma 4, iE cB 120 (bt f))] := hD
                        exact wr_vret ((3, b, e1, 0, -9)) hx hb hr hlocks hS hP hD [0, 1] rfl rfl (by decide) dX7_goes_343 ((show Tok f L p0 3 b e1 ∧ WdOf f 3 b e1 (0) ∧ NmOf f 3 b e1 (-9) from ⟨⟨hbeh, Or.inr (Or.inr (Or.inr ⟨hlt, hkL, hkD, rfl, he1⟩))⟩, wd_zero (fun q => absurd q.1 (by decide)), nm_none (by decide)⟩))
                      · -- c_34: not nI i ≥ nI e1
                        have hlt3 : i < e1 := nI_ltD (n := e1) rfl hi (by omega) c_34
                        refine lv_aload_n hx hb dX7_goes_210 rfl (lv_at hl 3 rfl) ?_
                        refine lv_iload_n hx hb dX7_goes_211 rfl (lv_at hl 2 rfl) ?_
                        refine if_eq_t (tgt := 252) hx hb rfl dX7_goes_212 (by decide) ?_
                        refine lv_lconst (v := 0) hx hb dX7_goes_252 (by decide) ?_
                        refine va_put (D := D) (ci := 7) (v := .long (0)) (ty := .long) (C := RX7) (T := TX7) (N := 11) hx hb hts (by decide +kernel) tyX7 tyX7_ok nmX7 hown hK.1 hP hD hS 0 rfl rfl 8 (by decide) (hts (.fieldLink RX7 91 "ParkingGarageModel" "word" "J") (by decide +kernel)) (fun _ h9 => h9) rfl (by decide +kernel) rfl rfl (Nat.le_of_ble_eq_true rfl) dX7_goes_253 (fun H locs hP hD hS => ?_)
                        have hP : va_P D vwCl [(ma 0, oE 7 [.ref (ma 1), .ref (ma 2), .int (fi 0), .ref (ma 3), .ref (ma 4), .int (nI L), .int (nI e1), .int (nI b), .long (0), .int (-9), .int (wr)]), (ma 4, iE cB 120 (bt f))] H := hP
                        have hD : va_D A [(ma 0, oE 7 [.ref (ma 1), .ref (ma 2), .int (fi 0), .ref (ma 3), .ref (ma 4), .int (nI L), .int (nI e1), .int (nI b), .long (0), .int (-9), .int (wr)]), (ma 4, iE cB 120 (bt f))] := hD
                        refine lv_aload_n hx hb dX7_goes_256 rfl (lv_at hl 3 rfl) ?_
                        refine lv_iload_n hx hb dX7_goes_257 rfl (lv_at hl 1 rfl) ?_
                        refine if_eq_t (tgt := 286) hx hb rfl dX7_goes_258 (by decide) ?_
                        refine lv_aload_n hx hb dX7_goes_286 rfl (lv_at hl 3 rfl) ?_
                        refine va_get (D := D) (ci := 7) (v := .int (-9)) (C := RX7) (T := TX7) (N := 11) hx hb hts (by decide +kernel) hown hK.1 hP 0 rfl rfl 9 (by decide) (hts (.fieldLink RX7 95 "ParkingGarageModel" "number" "I") (by decide +kernel)) (fun _ h9 => h9) rfl dX7_goes_287 ?_
                        refine va_put (D := D) (ci := 7) (v := .int (-9)) (ty := .int) (C := RX7) (T := TX7) (N := 11) hx hb hts (by decide +kernel) tyX7 tyX7_ok nmX7 hown hK.1 hP hD hS 0 rfl rfl 9 (by decide) (hts (.fieldLink RX7 95 "ParkingGarageModel" "number" "I") (by decide +kernel)) (fun _ h9 => h9) rfl (by decide +kernel) rfl rfl (Nat.le_of_ble_eq_true rfl) dX7_goes_290 (fun H locs hP hD hS => ?_)
                        have hP : va_P D vwCl [(ma 0, oE 7 [.ref (ma 1), .ref (ma 2), .int (fi 0), .ref (ma 3), .ref (ma 4), .int (nI L), .int (nI e1), .int (nI b), .long (0), .int (-9), .int (wr)]), (ma 4, iE cB 120 (bt f))] H := hP
                        have hD : va_D A [(ma 0, oE 7 [.ref (ma 1), .ref (ma 2), .int (fi 0), .ref (ma 3), .ref (ma 4), .int (nI L), .int (nI e1), .int (nI b), .long (0), .int (-9), .int (wr)]), (ma 4, iE cB 120 (bt f))] := hD
                        refine lv_iinc (v := nI (i + 1)) (lv' := [(3, .int (nI (i + 1))), (2, .int (0)), (1, .int (0)), (0, .ref (ma 0))]) hx hb dX7_goes_293 hl (k := 0) rfl (nI_1 _) (by decide) rfl (fun ls hl => ?_)
                        refine lv_goto (tgt := 202) hx hb dX7_goes_296 (by decide) ?_
                        exact ih (i + 1) (by omega) (by omega) (by omega) _ _ hP hD hS ls (lv_sub hl [0, 1, 2, 3] rfl)
                  exact hloop (e1 + 1) (b) (by omega) (by omega) (Nat.le_refl b) _ _ hP hD hS ls (lv_sub hl [0, 1, 2, 3] rfl)
                · -- c_33: not nI (b + 1) ≥ nI L
                  refine lv_iload_n hx hb dX7_goes_124 rfl (lv_at hl 1 rfl) ?_
                  refine if_eq_t (tgt := 147) hx hb rfl dX7_goes_125 (by decide) ?_
                  refine lv_iload_n hx hb dX7_goes_147 rfl (lv_at hl 0 rfl) ?_
                  refine if_eq_t (tgt := 183) hx hb rfl dX7_goes_148 (by decide) ?_
                  refine lv_aload_n hx hb dX7_goes_183 rfl (lv_at hl 2 rfl) ?_
                  refine lv_iload_n hx hb dX7_goes_184 rfl (lv_at hl 0 rfl) ?_
                  refine if_eq_t (tgt := 192) hx hb rfl dX7_goes_185 (by decide) ?_
                  refine lv_bipush (v := -9) hx hb dX7_goes_192 (by decide) ?_
                  refine va_put (D := D) (ci := 7) (v := .int (-9)) (ty := .int) (C := RX7) (T := TX7) (N := 11) hx hb hts (by decide +kernel) tyX7 tyX7_ok nmX7 hown hK.1 hP hD hS 0 rfl rfl 9 (by decide) (hts (.fieldLink RX7 95 "ParkingGarageModel" "number" "I") (by decide +kernel)) (fun _ h9 => h9) rfl (by decide +kernel) rfl rfl (Nat.le_of_ble_eq_true rfl) dX7_goes_194 (fun H locs hP hD hS => ?_)
                  have hP : va_P D vwCl [(ma 0, oE 7 [.ref (ma 1), .ref (ma 2), .int (fi 0), .ref (ma 3), .ref (ma 4), .int (nI L), .int (nI (b + 1)), .int (nI b), .long (0), .int (-9), .int (wr)]), (ma 4, iE cB 120 (bt f))] H := hP
                  have hD : va_D A [(ma 0, oE 7 [.ref (ma 1), .ref (ma 2), .int (fi 0), .ref (ma 3), .ref (ma 4), .int (nI L), .int (nI (b + 1)), .int (nI b), .long (0), .int (-9), .int (wr)]), (ma 4, iE cB 120 (bt f))] := hD
                  refine lv_aload_n hx hb dX7_goes_197 rfl (lv_at hl 2 rfl) ?_
                  refine va_get (D := D) (ci := 7) (v := .int (nI b)) (C := RX7) (T := TX7) (N := 11) hx hb hts (by decide +kernel) hown hK.1 hP 0 rfl rfl 7 (by decide) (hts (.fieldLink RX7 88 "ParkingGarageModel" "begin" "I") (by decide +kernel)) (fun _ h9 => h9) rfl dX7_goes_198 ?_
                  refine lv_istore_n (lv' := [(3, .int (nI b)), (2, .int (0)), (1, .int (0)), (0, .ref (ma 0))]) hx hb dX7_goes_201 rfl hl (by decide) rfl (fun ls hl => ?_)
                  obtain ⟨e1, he1⟩ : ∃ e1, e1 = b + 1 := ⟨_, rfl⟩
                  rw [← he1] at hP hD
                  have hbe : b ≤ e1 := by omega
                  have heL : e1 ≤ L := by omega
                  have hloop : ∀ (d i : Nat), i ≤ e1 → e1 - i < d → (b ≤ i) → ∀ (H : Heap) (locs : List Loc), va_P D vwCl [(ma 0, oE 7 [.ref (ma 1), .ref (ma 2), .int (fi 0), .ref (ma 3), .ref (ma 4), .int (nI L), .int (nI e1), .int (nI b), .long (0), .int (-9), .int (wr)]), (ma 4, iE cB 120 (bt f))] H → va_D A [(ma 0, oE 7 [.ref (ma 1), .ref (ma 2), .int (fi 0), .ref (ma 3), .ref (ma 4), .int (nI L), .int (nI e1), .int (nI b), .long (0), .int (-9), .int (wr)]), (ma 4, iE cB 120 (bt f))] → va_S A s.heap H locs → ∀ ls : Array Slot, lv_has ls 4 [(3, .int (nI i)), (2, .int (0)), (1, .int (0)), (0, .ref (ma 0))] → W p l e ({ frames := 1, cells := 0, slots := 0, locals := 22 } : Room) s m (([.ref (ma 0)] : List Value).toArray) below meth c H locs 0 0 (MQ below (va_Qv (fun u : TKN => GoT f L p0 u) (wrB D A (fun u => [(ma 0, oE 7 [.ref (ma 1), .ref (ma 2), .int (fi 0), .ref (ma 3), .ref (ma 4), .int (nI L), .int (nI u.2.2.1), .int (nI u.2.1), .long (u.2.2.2.1), .int (u.2.2.2.2), .int (wr)]), (ma 4, iE cB 120 (bt f))])) A) (([.ref (ma 0)] : List Value).toArray) s 0 0 A) (F0 m 202 ls []) := by
                    intro d
                    induction d with
                    | zero => intro i _ h2; exact absurd h2 (Nat.not_lt_zero _)
                    | succ d ih =>
                      intro i hi hd hbi3 H locs hP hD hS ls hl
                      refine lv_iload_n hx hb dX7_goes_202 rfl (lv_at hl 0 rfl) ?_
                      refine lv_aload_n hx hb dX7_goes_203 rfl (lv_at hl 3 rfl) ?_
                      refine va_get (D := D) (ci := 7) (v := .int (nI e1)) (C := RX7) (T := TX7) (N := 11) hx hb hts (by decide +kernel) hown hK.1 hP 0 rfl rfl 6 (by decide) (hts (.fieldLink RX7 85 "ParkingGarageModel" "next" "I") (by decide +kernel)) (fun _ h9 => h9) rfl dX7_goes_204 ?_
                      refine lv_icmp_ge (tgt := 299) hx hb dX7_goes_207 (by decide) (fun c_35 => ?_) (fun c_35 => ?_)
                      · -- c_35: nI i ≥ nI e1
                        have hge3 : i = e1 := nI_geD (n := e1) rfl hi (by omega) c_35
                        skip
                        have hP : va_P D vwCl [(ma 0, oE 7 [.ref (ma 1), .ref (ma 2), .int (fi 0), .ref (ma 3), .ref (ma 4), .int (nI L), .int (nI e1), .int (nI b), .long (0), .int (-9), .int (wr)]), (ma 4, iE cB 120 (bt f))] H := hP
                        have hD : va_D A [(ma 0, oE 7 [.ref (ma 1), .ref (ma 2), .int (fi 0), .ref (ma 3), .ref (ma 4), .int (nI L), .int (nI e1), .int (nI b), .long (0), .int (-9), .int (wr)]), (ma 4, iE cB 120 (bt f))] := hD
                        refine lv_aload_n hx hb dX7_goes_299 rfl (lv_at hl 3 rfl) ?_
                        refine lv_iload_n hx hb dX7_goes_300 rfl (lv_at hl 1 rfl) ?_
                        refine if_eq_t (tgt := 336) hx hb rfl dX7_goes_301 (by decide) ?_
                        refine lv_aload_n hx hb dX7_goes_336 rfl (lv_at hl 3 rfl) ?_
                        refine va_get (D := D) (ci := 7) (v := .int (-9)) (C := RX7) (T := TX7) (N := 11) hx hb hts (by decide +kernel) hown hK.1 hP 0 rfl rfl 9 (by decide) (hts (.fieldLink RX7 95 "ParkingGarageModel" "number" "I") (by decide +kernel)) (fun _ h9 => h9) rfl dX7_goes_337 ?_
                        refine va_put (D := D) (ci := 7) (v := .int (-9)) (ty := .int) (C := RX7) (T := TX7) (N := 11) hx hb hts (by decide +kernel) tyX7 tyX7_ok nmX7 hown hK.1 hP hD hS 0 rfl rfl 9 (by decide) (hts (.fieldLink RX7 95 "ParkingGarageModel" "number" "I") (by decide +kernel)) (fun _ h9 => h9) rfl (by decide +kernel) rfl rfl (Nat.le_of_ble_eq_true rfl) dX7_goes_340 (fun H locs hP hD hS => ?_)
                        have hP : va_P D vwCl [(ma 0, oE 7 [.ref (ma 1), .ref (ma 2), .int (fi 0), .ref (ma 3), .ref (ma 4), .int (nI L), .int (nI e1), .int (nI b), .long (0), .int (-9), .int (wr)]), (ma 4, iE cB 120 (bt f))] H := hP
                        have hD : va_D A [(ma 0, oE 7 [.ref (ma 1), .ref (ma 2), .int (fi 0), .ref (ma 3), .ref (ma 4), .int (nI L), .int (nI e1), .int (nI b), .long (0), .int (-9), .int (wr)]), (ma 4, iE cB 120 (bt f))] := hD
                        exact wr_vret ((3, b, e1, 0, -9)) hx hb hr hlocks hS hP hD [0, 1] rfl rfl (by decide) dX7_goes_343 ((show Tok f L p0 3 b e1 ∧ WdOf f 3 b e1 (0) ∧ NmOf f 3 b e1 (-9) from ⟨⟨hbeh, Or.inr (Or.inr (Or.inr ⟨hlt, hkL, hkD, rfl, he1⟩))⟩, wd_zero (fun q => absurd q.1 (by decide)), nm_none (by decide)⟩))
                      · -- c_35: not nI i ≥ nI e1
                        have hlt3 : i < e1 := nI_ltD (n := e1) rfl hi (by omega) c_35
                        refine lv_aload_n hx hb dX7_goes_210 rfl (lv_at hl 3 rfl) ?_
                        refine lv_iload_n hx hb dX7_goes_211 rfl (lv_at hl 2 rfl) ?_
                        refine if_eq_t (tgt := 252) hx hb rfl dX7_goes_212 (by decide) ?_
                        refine lv_lconst (v := 0) hx hb dX7_goes_252 (by decide) ?_
                        refine va_put (D := D) (ci := 7) (v := .long (0)) (ty := .long) (C := RX7) (T := TX7) (N := 11) hx hb hts (by decide +kernel) tyX7 tyX7_ok nmX7 hown hK.1 hP hD hS 0 rfl rfl 8 (by decide) (hts (.fieldLink RX7 91 "ParkingGarageModel" "word" "J") (by decide +kernel)) (fun _ h9 => h9) rfl (by decide +kernel) rfl rfl (Nat.le_of_ble_eq_true rfl) dX7_goes_253 (fun H locs hP hD hS => ?_)
                        have hP : va_P D vwCl [(ma 0, oE 7 [.ref (ma 1), .ref (ma 2), .int (fi 0), .ref (ma 3), .ref (ma 4), .int (nI L), .int (nI e1), .int (nI b), .long (0), .int (-9), .int (wr)]), (ma 4, iE cB 120 (bt f))] H := hP
                        have hD : va_D A [(ma 0, oE 7 [.ref (ma 1), .ref (ma 2), .int (fi 0), .ref (ma 3), .ref (ma 4), .int (nI L), .int (nI e1), .int (nI b), .long (0), .int (-9), .int (wr)]), (ma 4, iE cB 120 (bt f))] := hD
                        refine lv_aload_n hx hb dX7_goes_256 rfl (lv_at hl 3 rfl) ?_
                        refine lv_iload_n hx hb dX7_goes_257 rfl (lv_at hl 1 rfl) ?_
                        refine if_eq_t (tgt := 286) hx hb rfl dX7_goes_258 (by decide) ?_
                        refine lv_aload_n hx hb dX7_goes_286 rfl (lv_at hl 3 rfl) ?_
                        refine va_get (D := D) (ci := 7) (v := .int (-9)) (C := RX7) (T := TX7) (N := 11) hx hb hts (by decide +kernel) hown hK.1 hP 0 rfl rfl 9 (by decide) (hts (.fieldLink RX7 95 "ParkingGarageModel" "number" "I") (by decide +kernel)) (fun _ h9 => h9) rfl dX7_goes_287 ?_
                        refine va_put (D := D) (ci := 7) (v := .int (-9)) (ty := .int) (C := RX7) (T := TX7) (N := 11) hx hb hts (by decide +kernel) tyX7 tyX7_ok nmX7 hown hK.1 hP hD hS 0 rfl rfl 9 (by decide) (hts (.fieldLink RX7 95 "ParkingGarageModel" "number" "I") (by decide +kernel)) (fun _ h9 => h9) rfl (by decide +kernel) rfl rfl (Nat.le_of_ble_eq_true rfl) dX7_goes_290 (fun H locs hP hD hS => ?_)
                        have hP : va_P D vwCl [(ma 0, oE 7 [.ref (ma 1), .ref (ma 2), .int (fi 0), .ref (ma 3), .ref (ma 4), .int (nI L), .int (nI e1), .int (nI b), .long (0), .int (-9), .int (wr)]), (ma 4, iE cB 120 (bt f))] H := hP
                        have hD : va_D A [(ma 0, oE 7 [.ref (ma 1), .ref (ma 2), .int (fi 0), .ref (ma 3), .ref (ma 4), .int (nI L), .int (nI e1), .int (nI b), .long (0), .int (-9), .int (wr)]), (ma 4, iE cB 120 (bt f))] := hD
                        refine lv_iinc (v := nI (i + 1)) (lv' := [(3, .int (nI (i + 1))), (2, .int (0)), (1, .int (0)), (0, .ref (ma 0))]) hx hb dX7_goes_293 hl (k := 0) rfl (nI_1 _) (by decide) rfl (fun ls hl => ?_)
                        refine lv_goto (tgt := 202) hx hb dX7_goes_296 (by decide) ?_
                        exact ih (i + 1) (by omega) (by omega) (by omega) _ _ hP hD hS ls (lv_sub hl [0, 1, 2, 3] rfl)
                  exact hloop (e1 + 1) (b) (by omega) (by omega) (Nat.le_refl b) _ _ hP hD hS ls (lv_sub hl [0, 1, 2, 3] rfl)
          · -- c_4: not nI b ≠ nI L
            exact absurd (nI_inj (by omega) (by omega) c_4) (by omega)
        · -- c_3: not (bt f) (b) ≠ 32
          have hsp1 : f b = 32 := (bt_sp (hch b (by omega))).mp c_3
          refine lv_aload_n hx hb dX7_goes_25 rfl (lv_at hl 0 rfl) ?_
          refine lv_dup hx hb dX7_goes_26 rfl ?_
          refine va_get (D := D) (ci := 7) (v := .int (nI b)) (C := RX7) (T := TX7) (N := 11) hx hb hts (by decide +kernel) hown hK.1 hP 0 rfl rfl 6 (by decide) (hts (.fieldLink RX7 85 "ParkingGarageModel" "next" "I") (by decide +kernel)) (fun _ h9 => h9) rfl dX7_goes_27 ?_
          refine lv_iconst (v := 1) hx hb dX7_goes_30 (by decide) ?_
          refine lv_iadd hx hb dX7_goes_31 ?_
          rw [show (((nI b) + (1)) : Int32) = nI (b + 1) from (nI_add b 1)]
          refine va_put (D := D) (ci := 7) (v := .int (nI (b + 1))) (ty := .int) (C := RX7) (T := TX7) (N := 11) hx hb hts (by decide +kernel) tyX7 tyX7_ok nmX7 hown hK.1 hP hD hS 0 rfl rfl 6 (by decide) (hts (.fieldLink RX7 85 "ParkingGarageModel" "next" "I") (by decide +kernel)) (fun _ h9 => h9) rfl (by decide +kernel) rfl rfl (Nat.le_of_ble_eq_true rfl) dX7_goes_32 (fun H locs hP hD hS => ?_)
          have hP : va_P D vwCl [(ma 0, oE 7 [.ref (ma 1), .ref (ma 2), .int (fi 0), .ref (ma 3), .ref (ma 4), .int (nI L), .int (nI (b + 1)), .int (bg), .long (wd), .int (nm), .int (wr)]), (ma 4, iE cB 120 (bt f))] H := hP
          have hD : va_D A [(ma 0, oE 7 [.ref (ma 1), .ref (ma 2), .int (fi 0), .ref (ma 3), .ref (ma 4), .int (nI L), .int (nI (b + 1)), .int (bg), .long (wd), .int (nm), .int (wr)]), (ma 4, iE cB 120 (bt f))] := hD
          refine lv_goto (tgt := 0) hx hb dX7_goes_35 (by decide) ?_
          exact ih (b + 1) (by omega) (by omega) (by omega) (by
      intro q h1 h2
      rcases Nat.lt_or_ge q b with z | z
      · exact hsp q h1 z
      · have e9 : q = b := by omega
        subst e9
        exact ⟨hlt, by rw [hsp1]; decide, by rw [hsp1]; decide⟩) _ _ hP hD hS ls (lv_sub hl [0] rfl)
  exact hloop (L + 1) (p0) (by omega) (by omega) (Nat.le_refl p0) (fun q h1 h2 => absurd h1 (by omega)) _ _ hP hD hS ls (lv_sub hl [0] rfl)
