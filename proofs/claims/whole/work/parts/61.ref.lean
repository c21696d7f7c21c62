/-! ===== the reference: its items (laid by wip/whole/gen) ===== -/
set_option maxHeartbeats 4000000 in
set_option maxRecDepth 100000 in
theorem c_X7_readsBay (l : Launch) (D : va_G) (cI cC cB cS : ClassId) (zz : Nat) (ma : Nat → Nat) (fi : Nat → Int32) (wd : Int64) (L : Nat) (f : Nat → Int32) (g : Nat → Nat → Int32) (lf : Int32) (tk : Nat) (ts : Nat) (te : Nat) (nm : Int32) (n : Nat) (hL : L ≤ 120) (hch : Chr f) (htk : TkOK f L (tk, ts, te, wd, nm)) (hn : g 3 0 = nI n) (hnb : n ≤ 30) : Met l yX7_readsBay wsX7_readsBay ({ frames := 4, cells := 0, slots := 0, locals := 89 } : Room) (wrPc D (TYS cI cC cB cS) [.ref (ma 0)] ([(ma 0, oE 7 [.ref (ma 1), .ref (ma 2), .int (fi 0), .ref (ma 3), .ref (ma 4), .int (nI L), .int (nI te), .int (nI ts), .long (wd), .int (nm), .int (0)]), (ma 1, iE cI 382 (enc g lf)), (ma 4, iE cB 120 (bt f))]) zz) (va_Qv (fun u : TKN × Int32 × (Nat → Nat → Int32) => RdR f L (fun o => PBay f L g n ts te o) u.1 u.2.1 u.2.2) (wrB D (va_A ([(ma 0, oE 7 [.ref (ma 1), .ref (ma 2), .int (fi 0), .ref (ma 3), .ref (ma 4), .int (nI L), .int (nI te), .int (nI ts), .long (wd), .int (nm), .int (0)]), (ma 1, iE cI 382 (enc g lf)), (ma 4, iE cB 120 (bt f))]) zz) (fun u => [(ma 0, oE 7 [.ref (ma 1), .ref (ma 2), .int (fi 0), .ref (ma 3), .ref (ma 4), .int (nI L), .int (nI u.1.2.2.1), .int (nI u.1.2.1), .long (u.1.2.2.2.1), .int (u.1.2.2.2.2), .int (u.2.1)]), (ma 1, iE cI 382 (enc u.2.2 lf)), (ma 4, iE cB 120 (bt f))])) (va_A ([(ma 0, oE 7 [.ref (ma 1), .ref (ma 2), .int (fi 0), .ref (ma 3), .ref (ma 4), .int (nI L), .int (nI te), .int (nI ts), .long (wd), .int (nm), .int (0)]), (ma 1, iE cI 382 (enc g lf)), (ma 4, iE cB 120 (bt f))]) zz)) 0 0 (va_A ([(ma 0, oE 7 [.ref (ma 1), .ref (ma 2), .int (fi 0), .ref (ma 3), .ref (ma 4), .int (nI L), .int (nI te), .int (nI ts), .long (wd), .int (nm), .int (0)]), (ma 1, iE cI 382 (enc g lf)), (ma 4, iE cB 120 (bt f))]) zz) := by
  refine wr_intro (Qc := fun A B => va_Qv (fun u : TKN × Int32 × (Nat → Nat → Int32) => RdR f L (fun o => PBay f L g n ts te o) u.1 u.2.1 u.2.2) B A) (by decide) rfl (Nat.le_of_ble_eq_true rfl) ?_
  intro p e s m below meth c A hx hb hr hml hts hown hlocks hin hP hK hD hA hS ls hl
  have hP : va_P D vwCl [(ma 0, oE 7 [.ref (ma 1), .ref (ma 2), .int (fi 0), .ref (ma 3), .ref (ma 4), .int (nI L), .int (nI te), .int (nI ts), .long (wd), .int (nm), .int (0)]), (ma 1, iE cI 382 (enc g lf)), (ma 4, iE cB 120 (bt f))] s.heap := hP
  have hD : va_D A [(ma 0, oE 7 [.ref (ma 1), .ref (ma 2), .int (fi 0), .ref (ma 3), .ref (ma 4), .int (nI L), .int (nI te), .int (nI ts), .long (wd), .int (nm), .int (0)]), (ma 1, iE cI 382 (enc g lf)), (ma 4, iE cB 120 (bt f))] := hD
  have hown : s.vm.findClass RX7 = some m.cls := hown
  have hl : lv_has ls 4 [(0, .ref (ma 0))] := hl
  have hte9 := htk.le
  have hteL : te ≤ L := hte9.2.2
  refine lv_aload_n hx hb dX7_readsBay_0 rfl (lv_at hl 0 rfl) ?_
  refine lv_aload_n hx hb dX7_readsBay_1 rfl (lv_at hl 0 rfl) ?_
  refine va_get (D := D) (ci := 7) (v := .ref (ma 1)) (C := RX7) (T := TX7) (N := 11) hx hb hts (by decide +kernel) hown hK.1 hP 0 rfl rfl 0 (by decide) (hts (.fieldLink RX7 7 "ParkingGarageModel" "s" "[I") (by decide +kernel)) (fun _ h9 => h9) rfl dX7_readsBay_2 ?_
  refine lv_iconst (v := 1) hx hb dX7_readsBay_5 (by decide) ?_
  refine iald_n (f := enc g lf) hx hb hK.1 hP 1 0 rfl rfl (1) (rfl) (by decide) (by omega) dX7_readsBay_6 ?_
  rw [show enc g lf (1) = nI n from hn]
  refine lv_bipush (v := 30) hx hb dX7_readsBay_7 (by decide) ?_
  refine lv_icmp_ge (tgt := 16) hx hb dX7_readsBay_9 (by decide) (fun c_1 => ?_) (fun c_1 => ?_)
  · -- c_1: nI n ≥ 30
    have hn30 : n = 30 := by have := (nI_leI (a := 30) (b := n) (by omega) (by omega)).mp c_1; omega
    refine lv_iconst (v := 0) hx hb dX7_readsBay_16 (by decide) ?_
    refine cv_wv (As := [.int (0)]) (rest := []) (tys := TYS cI cC cB cS) (ci := 7) (wr := [(ma 1, iE cI 382 (enc g lf))]) ⟨hx, hb, hml, hown, hts⟩ (c_X7_takes l D cI cC cB cS _ (ma) (fi) (wd) (L) (f) (tk) (ts) (te) (nm) (0) (0) (hL) (hch) (by omega) ((Or.inl rfl)) ((Or.inl rfl))) (cwV 1 hts gX7_readsBay_X7_takes rfl rfl rfl (by decide +kernel) ⟨Nat.le_of_ble_eq_true rfl, Nat.le_of_ble_eq_true rfl⟩) hK hP hD hS hA [0, 2] [1] rfl rfl (by decide) (by decide) (by decide) rfl rfl rfl rfl hl.1 (Nat.le_of_ble_eq_true rfl) dX7_readsBay_17 ⟨Nat.le_of_ble_eq_true rfl, Nat.le_of_ble_eq_true rfl⟩ (fun u_2 H locs hu_2 hP hD hS => ?_)
    have hP : va_P D vwCl [(ma 1, iE cI 382 (enc g lf)), (ma 0, oE 7 [.ref (ma 1), .ref (ma 2), .int (fi 0), .ref (ma 3), .ref (ma 4), .int (nI L), .int (nI u_2.1.2.2.1), .int (nI u_2.1.2.1), .long (u_2.1.2.2.2.1), .int (u_2.1.2.2.2.2), .int (u_2.2)]), (ma 4, iE cB 120 (bt f))] H := hP
    have hD : va_D A [(ma 1, iE cI 382 (enc g lf)), (ma 0, oE 7 [.ref (ma 1), .ref (ma 2), .int (fi 0), .ref (ma 3), .ref (ma 4), .int (nI L), .int (nI u_2.1.2.2.1), .int (nI u_2.1.2.1), .long (u_2.1.2.2.2.1), .int (u_2.1.2.2.2.2), .int (u_2.2)]), (ma 4, iE cB 120 (bt f))] := hD
    have hu_2 : TakeR f L (0) (0) (tk, ts, te, wd, nm) u_2 := hu_2
    have hn_2 := take_no hu_2 (fun q9 => absurd q9.2 (by decide))
    subst hn_2
    have hP : va_P D vwCl [(ma 1, iE cI 382 (enc g lf)), (ma 0, oE 7 [.ref (ma 1), .ref (ma 2), .int (fi 0), .ref (ma 3), .ref (ma 4), .int (nI L), .int (nI te), .int (nI ts), .long (wd), .int (nm), .int (1)]), (ma 4, iE cB 120 (bt f))] H := hP
    have hD : va_D A [(ma 1, iE cI 382 (enc g lf)), (ma 0, oE 7 [.ref (ma 1), .ref (ma 2), .int (fi 0), .ref (ma 3), .ref (ma 4), .int (nI L), .int (nI te), .int (nI ts), .long (wd), .int (nm), .int (1)]), (ma 4, iE cB 120 (bt f))] := hD
    refine lv_aload_n hx hb dX7_readsBay_20 rfl (lv_at hl 0 rfl) ?_
    refine va_get (D := D) (ci := 7) (v := .long (wd)) (C := RX7) (T := TX7) (N := 11) hx hb hts (by decide +kernel) hown hK.1 hP 1 rfl rfl 8 (by decide) (hts (.fieldLink RX7 91 "ParkingGarageModel" "word" "J") (by decide +kernel)) (fun _ h9 => h9) rfl dX7_readsBay_21 ?_
    refine lv_ldc2 (v := 10354323) hx hb hown (hts (.constantLong RX7 113 10354323) (by decide +kernel)) dX7_readsBay_24 ?_
    refine W.lcmp hx hb dX7_readsBay_27 ?_
    refine lv_if_ne (tgt := 35) hx hb dX7_readsBay_28 (by decide) (fun c_4 => ?_) (fun c_4 => ?_)
    · -- c_4: lg_cmp (wd) (10354323) ≠ 0
      refine lv_aload_n hx hb dX7_readsBay_35 rfl (lv_at hl 0 rfl) ?_
      refine va_get (D := D) (ci := 7) (v := .long (wd)) (C := RX7) (T := TX7) (N := 11) hx hb hts (by decide +kernel) hown hK.1 hP 1 rfl rfl 8 (by decide) (hts (.fieldLink RX7 91 "ParkingGarageModel" "word" "J") (by decide +kernel)) (fun _ h9 => h9) rfl dX7_readsBay_36 ?_
      refine lv_ldc2 (v := 189278869) hx hb hown (hts (.constantLong RX7 115 189278869) (by decide +kernel)) dX7_readsBay_39 ?_
      refine W.lcmp hx hb dX7_readsBay_42 ?_
      refine lv_if_ne (tgt := 50) hx hb dX7_readsBay_43 (by decide) (fun c_5 => ?_) (fun c_5 => ?_)
      · -- c_5: lg_cmp (wd) (189278869) ≠ 0
        refine lv_aload_n hx hb dX7_readsBay_50 rfl (lv_at hl 0 rfl) ?_
        refine va_get (D := D) (ci := 7) (v := .long (wd)) (C := RX7) (T := TX7) (N := 11) hx hb hts (by decide +kernel) hown hK.1 hP 1 rfl rfl 8 (by decide) (hts (.fieldLink RX7 91 "ParkingGarageModel" "word" "J") (by decide +kernel)) (fun _ h9 => h9) rfl dX7_readsBay_51 ?_
        refine lv_ldc2 (v := 6410291) hx hb hown (hts (.constantLong RX7 117 6410291) (by decide +kernel)) dX7_readsBay_54 ?_
        refine W.lcmp hx hb dX7_readsBay_57 ?_
        refine lv_if_ne (tgt := 65) hx hb dX7_readsBay_58 (by decide) (fun c_6 => ?_) (fun c_6 => ?_)
        · -- c_6: lg_cmp (wd) (6410291) ≠ 0
          refine lv_bipush (v := -9) hx hb dX7_readsBay_65 (by decide) ?_
          refine lv_istore_n (lv' := [(1, .int (-9)), (0, .ref (ma 0))]) hx hb dX7_readsBay_67 rfl hl (by decide) rfl (fun ls hl => ?_)
          refine lv_aload_n hx hb dX7_readsBay_68 rfl (lv_at hl 1 rfl) ?_
          refine lv_iload_n hx hb dX7_readsBay_69 rfl (lv_at hl 0 rfl) ?_
          refine lv_bipush (v := -9) hx hb dX7_readsBay_70 (by decide) ?_
          refine lv_icmp_eq (tgt := 79) hx hb dX7_readsBay_72 (by decide) (fun _ => ?_) (fun c => absurd (by decide) c)
          refine lv_iconst (v := 0) hx hb dX7_readsBay_79 (by decide) ?_
          refine cv_wv (As := [.int (0)]) (rest := []) (tys := TYS cI cC cB cS) (ci := 7) (wr := [(ma 1, iE cI 382 (enc g lf))]) ⟨hx, hb, hml, hown, hts⟩ (c_X7_takes l D cI cC cB cS _ (ma) (fi) (wd) (L) (f) (tk) (ts) (te) (nm) (1) (0) (hL) (hch) (by omega) ((Or.inr rfl)) ((Or.inl rfl))) (cwV 1 hts gX7_readsBay_X7_takes rfl rfl rfl (by decide +kernel) ⟨Nat.le_of_ble_eq_true rfl, Nat.le_of_ble_eq_true rfl⟩) hK hP hD hS hA [1, 2] [0] rfl rfl (by decide) (by decide) (by decide) rfl rfl rfl rfl hl.1 (Nat.le_of_ble_eq_true rfl) dX7_readsBay_80 ⟨Nat.le_of_ble_eq_true rfl, Nat.le_of_ble_eq_true rfl⟩ (fun u_7 H locs hu_7 hP hD hS => ?_)
          have hP : va_P D vwCl [(ma 1, iE cI 382 (enc g lf)), (ma 0, oE 7 [.ref (ma 1), .ref (ma 2), .int (fi 0), .ref (ma 3), .ref (ma 4), .int (nI L), .int (nI u_7.1.2.2.1), .int (nI u_7.1.2.1), .long (u_7.1.2.2.2.1), .int (u_7.1.2.2.2.2), .int (u_7.2)]), (ma 4, iE cB 120 (bt f))] H := hP
          have hD : va_D A [(ma 1, iE cI 382 (enc g lf)), (ma 0, oE 7 [.ref (ma 1), .ref (ma 2), .int (fi 0), .ref (ma 3), .ref (ma 4), .int (nI L), .int (nI u_7.1.2.2.1), .int (nI u_7.1.2.1), .long (u_7.1.2.2.2.1), .int (u_7.1.2.2.2.2), .int (u_7.2)]), (ma 4, iE cB 120 (bt f))] := hD
          have hu_7 : TakeR f L (1) (0) (tk, ts, te, wd, nm) u_7 := hu_7
          have hn_7 := take_no hu_7 (fun q9 => absurd q9.1 (by decide))
          subst hn_7
          have hP : va_P D vwCl [(ma 1, iE cI 382 (enc g lf)), (ma 0, oE 7 [.ref (ma 1), .ref (ma 2), .int (fi 0), .ref (ma 3), .ref (ma 4), .int (nI L), .int (nI te), .int (nI ts), .long (wd), .int (nm), .int (1)]), (ma 4, iE cB 120 (bt f))] H := hP
          have hD : va_D A [(ma 1, iE cI 382 (enc g lf)), (ma 0, oE 7 [.ref (ma 1), .ref (ma 2), .int (fi 0), .ref (ma 3), .ref (ma 4), .int (nI L), .int (nI te), .int (nI ts), .long (wd), .int (nm), .int (1)]), (ma 4, iE cB 120 (bt f))] := hD
          refine lv_aload_n hx hb dX7_readsBay_83 rfl (lv_at hl 1 rfl) ?_
          refine lv_iconst (v := 0) hx hb dX7_readsBay_84 (by decide) ?_
          refine lv_iconst (v := 4) hx hb dX7_readsBay_85 (by decide) ?_
          refine cv_wi (As := [.int (0), .int (4)]) (rest := []) (tys := TYS cI cC cB cS) (ci := 7) (wr := [(ma 1, iE cI 382 (enc g lf))]) ⟨hx, hb, hml, hown, hts⟩ (c_X7_takesNumber l D cI cC cB cS _ (ma) (fi) (wd) (L) (f) (tk) (ts) (te) (nm) (1) (0) (4) (hL) (hch) (by omega) ((Or.inr rfl))) (cwV 2 hts gX7_readsBay_X7_takesNumber rfl rfl rfl (by decide +kernel) ⟨Nat.le_of_ble_eq_true rfl, Nat.le_of_ble_eq_true rfl⟩) hK hP hD hS hA [1, 2] [0] rfl rfl (by decide) (by decide) (by decide) rfl rfl rfl rfl hl.1 (Nat.le_of_ble_eq_true rfl) dX7_readsBay_86 ⟨Nat.le_of_ble_eq_true rfl, Nat.le_of_ble_eq_true rfl⟩ (fun r_10 u_9 H locs hu_9 hP hD hS => ?_)
          have hP : va_P D vwCl [(ma 1, iE cI 382 (enc g lf)), (ma 0, oE 7 [.ref (ma 1), .ref (ma 2), .int (fi 0), .ref (ma 3), .ref (ma 4), .int (nI L), .int (nI u_9.1.2.2.1), .int (nI u_9.1.2.1), .long (u_9.1.2.2.2.1), .int (u_9.1.2.2.2.2), .int (u_9.2)]), (ma 4, iE cB 120 (bt f))] H := hP
          have hD : va_D A [(ma 1, iE cI 382 (enc g lf)), (ma 0, oE 7 [.ref (ma 1), .ref (ma 2), .int (fi 0), .ref (ma 3), .ref (ma 4), .int (nI L), .int (nI u_9.1.2.2.1), .int (nI u_9.1.2.1), .long (u_9.1.2.2.2.1), .int (u_9.1.2.2.2.2), .int (u_9.2)]), (ma 4, iE cB 120 (bt f))] := hD
          have hu_9 : TakeN f L 0 4 (1) (tk, ts, te, wd, nm) r_10 u_9 := hu_9
          have hn_10 := takeN_wrong hu_9
          subst hn_10
          have hP : va_P D vwCl [(ma 1, iE cI 382 (enc g lf)), (ma 0, oE 7 [.ref (ma 1), .ref (ma 2), .int (fi 0), .ref (ma 3), .ref (ma 4), .int (nI L), .int (nI te), .int (nI ts), .long (wd), .int (nm), .int (1)]), (ma 4, iE cB 120 (bt f))] H := hP
          have hD : va_D A [(ma 1, iE cI 382 (enc g lf)), (ma 0, oE 7 [.ref (ma 1), .ref (ma 2), .int (fi 0), .ref (ma 3), .ref (ma 4), .int (nI L), .int (nI te), .int (nI ts), .long (wd), .int (nm), .int (1)]), (ma 4, iE cB 120 (bt f))] := hD
          refine lv_istore_n (lv' := [(2, .int (r_10)), (1, .int (-9)), (0, .ref (ma 0))]) hx hb dX7_readsBay_89 rfl hl (by decide) rfl (fun ls hl => ?_)
          refine lv_aload_n hx hb dX7_readsBay_90 rfl (lv_at hl 2 rfl) ?_
          refine va_get (D := D) (ci := 7) (v := .int (nm)) (C := RX7) (T := TX7) (N := 11) hx hb hts (by decide +kernel) hown hK.1 hP 1 rfl rfl 9 (by decide) (hts (.fieldLink RX7 95 "ParkingGarageModel" "number" "I") (by decide +kernel)) (fun _ h9 => h9) rfl dX7_readsBay_91 ?_
          refine lv_istore_n (lv' := [(3, .int (nm)), (2, .int (r_10)), (1, .int (-9)), (0, .ref (ma 0))]) hx hb dX7_readsBay_94 rfl hl (by decide) rfl (fun ls hl => ?_)
          refine lv_aload_n hx hb dX7_readsBay_95 rfl (lv_at hl 3 rfl) ?_
          refine lv_iload_n hx hb dX7_readsBay_96 rfl (lv_at hl 0 rfl) ?_
          refine lv_iconst (v := 0) hx hb dX7_readsBay_97 (by decide) ?_
          refine lv_bipush (v := 99) hx hb dX7_readsBay_98 (by decide) ?_
          refine cs_i (As := [.int (nm), .int (0), .int (99)]) (rest := [.ref (ma 0)]) (tys := TYS cI cC cB cS) ⟨hx, hb, hml, hown, hts⟩ (c_X7_in l D cI cC cB cS (nm) (0) (99)) (va_cwS 3 hts gX7_readsBay_X7_in rfl rfl rfl (by decide +kernel) ⟨Nat.le_of_ble_eq_true rfl, Nat.le_of_ble_eq_true rfl⟩) hK hP [] rfl rfl rfl hl.1 (Nat.le_of_ble_eq_true rfl) dX7_readsBay_100 ⟨Nat.le_of_ble_eq_true rfl, Nat.le_of_ble_eq_true rfl⟩ (fun r_12 hr_12 => ?_)
          rcases (show Yes (0 ≤ nm ∧ nm ≤ 99) r_12 from hr_12) with ⟨rfl, h_13⟩ | ⟨rfl, h_13⟩
          · -- X7_in t
            refine if_eq_f (tgt := 119) hx hb (by decide) dX7_readsBay_103 (by decide) ?_
            refine lv_aload_n hx hb dX7_readsBay_106 rfl (lv_at hl 3 rfl) ?_
            refine lv_iload_n hx hb dX7_readsBay_107 rfl (lv_at hl 1 rfl) ?_
            refine lv_iload_n hx hb dX7_readsBay_108 rfl (lv_at hl 0 rfl) ?_
            refine cv_i (As := [.int (r_10), .int (nm)]) (rest := [.ref (ma 0)]) (tys := TYS cI cC cB cS) (ci := 7) ⟨hx, hb, hml, hown, hts⟩ (c_X7_isTaken l D cI cC cB cS (ma) ((fun j => [fi 0, nI L, nI te, nI ts, nm, 1].getD j 0)) (wd) (g) (lf) (n) (r_10) (nm) (hn) (hnb)) (cwV 2 hts gX7_readsBay_X7_isTaken rfl rfl rfl (by decide +kernel) ⟨Nat.le_of_ble_eq_true rfl, Nat.le_of_ble_eq_true rfl⟩) hK hP [1, 0] rfl rfl rfl rfl rfl hl.1 (Nat.le_of_ble_eq_true rfl) dX7_readsBay_109 ⟨Nat.le_of_ble_eq_true rfl, Nat.le_of_ble_eq_true rfl⟩ (fun r_14 hr_14 => ?_)
            rcases (show Yes (∃ w, w < n ∧ g 4 w = r_10 ∧ g 5 w = nm) r_14 from hr_14) with ⟨rfl, h_15⟩ | ⟨rfl, h_15⟩
            · -- X7_isTaken t
              refine if_ne_t (tgt := 119) hx hb (by decide) dX7_readsBay_112 (by decide) ?_
              refine lv_iconst (v := 0) hx hb dX7_readsBay_119 (by decide) ?_
              refine cv_wv (As := [.int (0)]) (rest := []) (tys := TYS cI cC cB cS) (ci := 7) (wr := [(ma 1, iE cI 382 (enc g lf))]) ⟨hx, hb, hml, hown, hts⟩ (c_X7_takes l D cI cC cB cS _ (ma) (fi) (wd) (L) (f) (tk) (ts) (te) (nm) (1) (0) (hL) (hch) (by omega) ((Or.inr rfl)) ((Or.inl rfl))) (cwV 1 hts gX7_readsBay_X7_takes rfl rfl rfl (by decide +kernel) ⟨Nat.le_of_ble_eq_true rfl, Nat.le_of_ble_eq_true rfl⟩) hK hP hD hS hA [1, 2] [0] rfl rfl (by decide) (by decide) (by decide) rfl rfl rfl rfl hl.1 (Nat.le_of_ble_eq_true rfl) dX7_readsBay_120 ⟨Nat.le_of_ble_eq_true rfl, Nat.le_of_ble_eq_true rfl⟩ (fun u_16 H locs hu_16 hP hD hS => ?_)
              have hP : va_P D vwCl [(ma 1, iE cI 382 (enc g lf)), (ma 0, oE 7 [.ref (ma 1), .ref (ma 2), .int (fi 0), .ref (ma 3), .ref (ma 4), .int (nI L), .int (nI u_16.1.2.2.1), .int (nI u_16.1.2.1), .long (u_16.1.2.2.2.1), .int (u_16.1.2.2.2.2), .int (u_16.2)]), (ma 4, iE cB 120 (bt f))] H := hP
              have hD : va_D A [(ma 1, iE cI 382 (enc g lf)), (ma 0, oE 7 [.ref (ma 1), .ref (ma 2), .int (fi 0), .ref (ma 3), .ref (ma 4), .int (nI L), .int (nI u_16.1.2.2.1), .int (nI u_16.1.2.1), .long (u_16.1.2.2.2.1), .int (u_16.1.2.2.2.2), .int (u_16.2)]), (ma 4, iE cB 120 (bt f))] := hD
              have hu_16 : TakeR f L (1) (0) (tk, ts, te, wd, nm) u_16 := hu_16
              have hn_16 := take_no hu_16 (fun q9 => absurd q9.1 (by decide))
              subst hn_16
              have hP : va_P D vwCl [(ma 1, iE cI 382 (enc g lf)), (ma 0, oE 7 [.ref (ma 1), .ref (ma 2), .int (fi 0), .ref (ma 3), .ref (ma 4), .int (nI L), .int (nI te), .int (nI ts), .long (wd), .int (nm), .int (1)]), (ma 4, iE cB 120 (bt f))] H := hP
              have hD : va_D A [(ma 1, iE cI 382 (enc g lf)), (ma 0, oE 7 [.ref (ma 1), .ref (ma 2), .int (fi 0), .ref (ma 3), .ref (ma 4), .int (nI L), .int (nI te), .int (nI ts), .long (wd), .int (nm), .int (1)]), (ma 4, iE cB 120 (bt f))] := hD
              refine lv_aload_n hx hb dX7_readsBay_123 rfl (lv_at hl 3 rfl) ?_
              refine va_get (D := D) (ci := 7) (v := .int (1)) (C := RX7) (T := TX7) (N := 11) hx hb hts (by decide +kernel) hown hK.1 hP 1 rfl rfl 10 (by decide) (hts (.fieldLink RX7 102 "ParkingGarageModel" "isWrong" "Z") (by decide +kernel)) (fun _ h9 => h9) rfl dX7_readsBay_124 ?_
              refine if_ne_t (tgt := 143) hx hb (by decide) dX7_readsBay_127 (by decide) ?_
              exact wr_vret (((tk, ts, te, wd, nm), 1, g)) hx hb hr hlocks hS hP hD [1, 0, 2] rfl rfl (by decide) dX7_readsBay_143 (⟨htk, Or.inl ⟨rfl, Or.inl ⟨hn30, rfl⟩⟩⟩)
            · -- X7_isTaken f
              refine if_ne_f (tgt := 119) hx hb rfl dX7_readsBay_112 (by decide) ?_
              refine lv_iconst (v := 1) hx hb dX7_readsBay_115 (by decide) ?_
              refine lv_goto (tgt := 120) hx hb dX7_readsBay_116 (by decide) ?_
              refine cv_wv (As := [.int (1)]) (rest := []) (tys := TYS cI cC cB cS) (ci := 7) (wr := [(ma 1, iE cI 382 (enc g lf))]) ⟨hx, hb, hml, hown, hts⟩ (c_X7_takes l D cI cC cB cS _ (ma) (fi) (wd) (L) (f) (tk) (ts) (te) (nm) (1) (1) (hL) (hch) (by omega) ((Or.inr rfl)) ((Or.inr rfl))) (cwV 1 hts gX7_readsBay_X7_takes rfl rfl rfl (by decide +kernel) ⟨Nat.le_of_ble_eq_true rfl, Nat.le_of_ble_eq_true rfl⟩) hK hP hD hS hA [1, 2] [0] rfl rfl (by decide) (by decide) (by decide) rfl rfl rfl rfl hl.1 (Nat.le_of_ble_eq_true rfl) dX7_readsBay_120 ⟨Nat.le_of_ble_eq_true rfl, Nat.le_of_ble_eq_true rfl⟩ (fun u_18 H locs hu_18 hP hD hS => ?_)
              have hP : va_P D vwCl [(ma 1, iE cI 382 (enc g lf)), (ma 0, oE 7 [.ref (ma 1), .ref (ma 2), .int (fi 0), .ref (ma 3), .ref (ma 4), .int (nI L), .int (nI u_18.1.2.2.1), .int (nI u_18.1.2.1), .long (u_18.1.2.2.2.1), .int (u_18.1.2.2.2.2), .int (u_18.2)]), (ma 4, iE cB 120 (bt f))] H := hP
              have hD : va_D A [(ma 1, iE cI 382 (enc g lf)), (ma 0, oE 7 [.ref (ma 1), .ref (ma 2), .int (fi 0), .ref (ma 3), .ref (ma 4), .int (nI L), .int (nI u_18.1.2.2.1), .int (nI u_18.1.2.1), .long (u_18.1.2.2.2.1), .int (u_18.1.2.2.2.2), .int (u_18.2)]), (ma 4, iE cB 120 (bt f))] := hD
              have hu_18 : TakeR f L (1) (1) (tk, ts, te, wd, nm) u_18 := hu_18
              have hn_18 := take_no hu_18 (fun q9 => absurd q9.1 (by decide))
              subst hn_18
              have hP : va_P D vwCl [(ma 1, iE cI 382 (enc g lf)), (ma 0, oE 7 [.ref (ma 1), .ref (ma 2), .int (fi 0), .ref (ma 3), .ref (ma 4), .int (nI L), .int (nI te), .int (nI ts), .long (wd), .int (nm), .int (1)]), (ma 4, iE cB 120 (bt f))] H := hP
              have hD : va_D A [(ma 1, iE cI 382 (enc g lf)), (ma 0, oE 7 [.ref (ma 1), .ref (ma 2), .int (fi 0), .ref (ma 3), .ref (ma 4), .int (nI L), .int (nI te), .int (nI ts), .long (wd), .int (nm), .int (1)]), (ma 4, iE cB 120 (bt f))] := hD
              refine lv_aload_n hx hb dX7_readsBay_123 rfl (lv_at hl 3 rfl) ?_
              refine va_get (D := D) (ci := 7) (v := .int (1)) (C := RX7) (T := TX7) (N := 11) hx hb hts (by decide +kernel) hown hK.1 hP 1 rfl rfl 10 (by decide) (hts (.fieldLink RX7 102 "ParkingGarageModel" "isWrong" "Z") (by decide +kernel)) (fun _ h9 => h9) rfl dX7_readsBay_124 ?_
              refine if_ne_t (tgt := 143) hx hb (by decide) dX7_readsBay_127 (by decide) ?_
              exact wr_vret (((tk, ts, te, wd, nm), 1, g)) hx hb hr hlocks hS hP hD [1, 0, 2] rfl rfl (by decide) dX7_readsBay_143 (⟨htk, Or.inl ⟨rfl, Or.inl ⟨hn30, rfl⟩⟩⟩)
          · -- X7_in f
            refine if_eq_t (tgt := 119) hx hb rfl dX7_readsBay_103 (by decide) ?_
            refine lv_iconst (v := 0) hx hb dX7_readsBay_119 (by decide) ?_
            refine cv_wv (As := [.int (0)]) (rest := []) (tys := TYS cI cC cB cS) (ci := 7) (wr := [(ma 1, iE cI 382 (enc g lf))]) ⟨hx, hb, hml, hown, hts⟩ (c_X7_takes l D cI cC cB cS _ (ma) (fi) (wd) (L) (f) (tk) (ts) (te) (nm) (1) (0) (hL) (hch) (by omega) ((Or.inr rfl)) ((Or.inl rfl))) (cwV 1 hts gX7_readsBay_X7_takes rfl rfl rfl (by decide +kernel) ⟨Nat.le_of_ble_eq_true rfl, Nat.le_of_ble_eq_true rfl⟩) hK hP hD hS hA [1, 2] [0] rfl rfl (by decide) (by decide) (by decide) rfl rfl rfl rfl hl.1 (Nat.le_of_ble_eq_true rfl) dX7_readsBay_120 ⟨Nat.le_of_ble_eq_true rfl, Nat.le_of_ble_eq_true rfl⟩ (fun u_20 H locs hu_20 hP hD hS => ?_)
            have hP : va_P D vwCl [(ma 1, iE cI 382 (enc g lf)), (ma 0, oE 7 [.ref (ma 1), .ref (ma 2), .int (fi 0), .ref (ma 3), .ref (ma 4), .int (nI L), .int (nI u_20.1.2.2.1), .int (nI u_20.1.2.1), .long (u_20.1.2.2.2.1), .int (u_20.1.2.2.2.2), .int (u_20.2)]), (ma 4, iE cB 120 (bt f))] H := hP
            have hD : va_D A [(ma 1, iE cI 382 (enc g lf)), (ma 0, oE 7 [.ref (ma 1), .ref (ma 2), .int (fi 0), .ref (ma 3), .ref (ma 4), .int (nI L), .int (nI u_20.1.2.2.1), .int (nI u_20.1.2.1), .long (u_20.1.2.2.2.1), .int (u_20.1.2.2.2.2), .int (u_20.2)]), (ma 4, iE cB 120 (bt f))] := hD
            have hu_20 : TakeR f L (1) (0) (tk, ts, te, wd, nm) u_20 := hu_20
            have hn_20 := take_no hu_20 (fun q9 => absurd q9.1 (by decide))
            subst hn_20
            have hP : va_P D vwCl [(ma 1, iE cI 382 (enc g lf)), (ma 0, oE 7 [.ref (ma 1), .ref (ma 2), .int (fi 0), .ref (ma 3), .ref (ma 4), .int (nI L), .int (nI te), .int (nI ts), .long (wd), .int (nm), .int (1)]), (ma 4, iE cB 120 (bt f))] H := hP
            have hD : va_D A [(ma 1, iE cI 382 (enc g lf)), (ma 0, oE 7 [.ref (ma 1), .ref (ma 2), .int (fi 0), .ref (ma 3), .ref (ma 4), .int (nI L), .int (nI te), .int (nI ts), .long (wd), .int (nm), .int (1)]), (ma 4, iE cB 120 (bt f))] := hD
            refine lv_aload_n hx hb dX7_readsBay_123 rfl (lv_at hl 3 rfl) ?_
            refine va_get (D := D) (ci := 7) (v := .int (1)) (C := RX7) (T := TX7) (N := 11) hx hb hts (by decide +kernel) hown hK.1 hP 1 rfl rfl 10 (by decide) (hts (.fieldLink RX7 102 "ParkingGarageModel" "isWrong" "Z") (by decide +kernel)) (fun _ h9 => h9) rfl dX7_readsBay_124 ?_
            refine if_ne_t (tgt := 143) hx hb (by decide) dX7_readsBay_127 (by decide) ?_
            exact wr_vret (((tk, ts, te, wd, nm), 1, g)) hx hb hr hlocks hS hP hD [1, 0, 2] rfl rfl (by decide) dX7_readsBay_143 (⟨htk, Or.inl ⟨rfl, Or.inl ⟨hn30, rfl⟩⟩⟩)
        · -- c_6: not lg_cmp (wd) (6410291) ≠ 0
          refine lv_iconst (v := 2) hx hb dX7_readsBay_61 (by decide) ?_
          refine lv_goto (tgt := 67) hx hb dX7_readsBay_62 (by decide) ?_
          refine lv_istore_n (lv' := [(1, .int (2)), (0, .ref (ma 0))]) hx hb dX7_readsBay_67 rfl hl (by decide) rfl (fun ls hl => ?_)
          refine lv_aload_n hx hb dX7_readsBay_68 rfl (lv_at hl 1 rfl) ?_
          refine lv_iload_n hx hb dX7_readsBay_69 rfl (lv_at hl 0 rfl) ?_
          refine lv_bipush (v := -9) hx hb dX7_readsBay_70 (by decide) ?_
          refine lv_icmp_eq (tgt := 79) hx hb dX7_readsBay_72 (by decide) (fun c => absurd c (by decide)) (fun _ => ?_)
          refine lv_iconst (v := 1) hx hb dX7_readsBay_75 (by decide) ?_
          refine lv_goto (tgt := 80) hx hb dX7_readsBay_76 (by decide) ?_
          refine cv_wv (As := [.int (1)]) (rest := []) (tys := TYS cI cC cB cS) (ci := 7) (wr := [(ma 1, iE cI 382 (enc g lf))]) ⟨hx, hb, hml, hown, hts⟩ (c_X7_takes l D cI cC cB cS _ (ma) (fi) (wd) (L) (f) (tk) (ts) (te) (nm) (1) (1) (hL) (hch) (by omega) ((Or.inr rfl)) ((Or.inr rfl))) (cwV 1 hts gX7_readsBay_X7_takes rfl rfl rfl (by decide +kernel) ⟨Nat.le_of_ble_eq_true rfl, Nat.le_of_ble_eq_true rfl⟩) hK hP hD hS hA [1, 2] [0] rfl rfl (by decide) (by decide) (by decide) rfl rfl rfl rfl hl.1 (Nat.le_of_ble_eq_true rfl) dX7_readsBay_80 ⟨Nat.le_of_ble_eq_true rfl, Nat.le_of_ble_eq_true rfl⟩ (fun u_22 H locs hu_22 hP hD hS => ?_)
          have hP : va_P D vwCl [(ma 1, iE cI 382 (enc g lf)), (ma 0, oE 7 [.ref (ma 1), .ref (ma 2), .int (fi 0), .ref (ma 3), .ref (ma 4), .int (nI L), .int (nI u_22.1.2.2.1), .int (nI u_22.1.2.1), .long (u_22.1.2.2.2.1), .int (u_22.1.2.2.2.2), .int (u_22.2)]), (ma 4, iE cB 120 (bt f))] H := hP
          have hD : va_D A [(ma 1, iE cI 382 (enc g lf)), (ma 0, oE 7 [.ref (ma 1), .ref (ma 2), .int (fi 0), .ref (ma 3), .ref (ma 4), .int (nI L), .int (nI u_22.1.2.2.1), .int (nI u_22.1.2.1), .long (u_22.1.2.2.2.1), .int (u_22.1.2.2.2.2), .int (u_22.2)]), (ma 4, iE cB 120 (bt f))] := hD
          have hu_22 : TakeR f L (1) (1) (tk, ts, te, wd, nm) u_22 := hu_22
          have hn_22 := take_no hu_22 (fun q9 => absurd q9.1 (by decide))
          subst hn_22
          have hP : va_P D vwCl [(ma 1, iE cI 382 (enc g lf)), (ma 0, oE 7 [.ref (ma 1), .ref (ma 2), .int (fi 0), .ref (ma 3), .ref (ma 4), .int (nI L), .int (nI te), .int (nI ts), .long (wd), .int (nm), .int (1)]), (ma 4, iE cB 120 (bt f))] H := hP
          have hD : va_D A [(ma 1, iE cI 382 (enc g lf)), (ma 0, oE 7 [.ref (ma 1), .ref (ma 2), .int (fi 0), .ref (ma 3), .ref (ma 4), .int (nI L), .int (nI te), .int (nI ts), .long (wd), .int (nm), .int (1)]), (ma 4, iE cB 120 (bt f))] := hD
          refine lv_aload_n hx hb dX7_readsBay_83 rfl (lv_at hl 1 rfl) ?_
          refine lv_iconst (v := 0) hx hb dX7_readsBay_84 (by decide) ?_
          refine lv_iconst (v := 4) hx hb dX7_readsBay_85 (by decide) ?_
          refine cv_wi (As := [.int (0), .int (4)]) (rest := []) (tys := TYS cI cC cB cS) (ci := 7) (wr := [(ma 1, iE cI 382 (enc g lf))]) ⟨hx, hb, hml, hown, hts⟩ (c_X7_takesNumber l D cI cC cB cS _ (ma) (fi) (wd) (L) (f) (tk) (ts) (te) (nm) (1) (0) (4) (hL) (hch) (by omega) ((Or.inr rfl))) (cwV 2 hts gX7_readsBay_X7_takesNumber rfl rfl rfl (by decide +kernel) ⟨Nat.le_of_ble_eq_true rfl, Nat.le_of_ble_eq_true rfl⟩) hK hP hD hS hA [1, 2] [0] rfl rfl (by decide) (by decide) (by decide) rfl rfl rfl rfl hl.1 (Nat.le_of_ble_eq_true rfl) dX7_readsBay_86 ⟨Nat.le_of_ble_eq_true rfl, Nat.le_of_ble_eq_true rfl⟩ (fun r_25 u_24 H locs hu_24 hP hD hS => ?_)
          have hP : va_P D vwCl [(ma 1, iE cI 382 (enc g lf)), (ma 0, oE 7 [.ref (ma 1), .ref (ma 2), .int (fi 0), .ref (ma 3), .ref (ma 4), .int (nI L), .int (nI u_24.1.2.2.1), .int (nI u_24.1.2.1), .long (u_24.1.2.2.2.1), .int (u_24.1.2.2.2.2), .int (u_24.2)]), (ma 4, iE cB 120 (bt f))] H := hP
          have hD : va_D A [(ma 1, iE cI 382 (enc g lf)), (ma 0, oE 7 [.ref (ma 1), .ref (ma 2), .int (fi 0), .ref (ma 3), .ref (ma 4), .int (nI L), .int (nI u_24.1.2.2.1), .int (nI u_24.1.2.1), .long (u_24.1.2.2.2.1), .int (u_24.1.2.2.2.2), .int (u_24.2)]), (ma 4, iE cB 120 (bt f))] := hD
          have hu_24 : TakeN f L 0 4 (1) (tk, ts, te, wd, nm) r_25 u_24 := hu_24
          have hn_25 := takeN_wrong hu_24
          subst hn_25
          have hP : va_P D vwCl [(ma 1, iE cI 382 (enc g lf)), (ma 0, oE 7 [.ref (ma 1), .ref (ma 2), .int (fi 0), .ref (ma 3), .ref (ma 4), .int (nI L), .int (nI te), .int (nI ts), .long (wd), .int (nm), .int (1)]), (ma 4, iE cB 120 (bt f))] H := hP
          have hD : va_D A [(ma 1, iE cI 382 (enc g lf)), (ma 0, oE 7 [.ref (ma 1), .ref (ma 2), .int (fi 0), .ref (ma 3), .ref (ma 4), .int (nI L), .int (nI te), .int (nI ts), .long (wd), .int (nm), .int (1)]), (ma 4, iE cB 120 (bt f))] := hD
          refine lv_istore_n (lv' := [(2, .int (r_25)), (1, .int (2)), (0, .ref (ma 0))]) hx hb dX7_readsBay_89 rfl hl (by decide) rfl (fun ls hl => ?_)
          refine lv_aload_n hx hb dX7_readsBay_90 rfl (lv_at hl 2 rfl) ?_
          refine va_get (D := D) (ci := 7) (v := .int (nm)) (C := RX7) (T := TX7) (N := 11) hx hb hts (by decide +kernel) hown hK.1 hP 1 rfl rfl 9 (by decide) (hts (.fieldLink RX7 95 "ParkingGarageModel" "number" "I") (by decide +kernel)) (fun _ h9 => h9) rfl dX7_readsBay_91 ?_
          refine lv_istore_n (lv' := [(3, .int (nm)), (2, .int (r_25)), (1, .int (2)), (0, .ref (ma 0))]) hx hb dX7_readsBay_94 rfl hl (by decide) rfl (fun ls hl => ?_)
          refine lv_aload_n hx hb dX7_readsBay_95 rfl (lv_at hl 3 rfl) ?_
          refine lv_iload_n hx hb dX7_readsBay_96 rfl (lv_at hl 0 rfl) ?_
          refine lv_iconst (v := 0) hx hb dX7_readsBay_97 (by decide) ?_
          refine lv_bipush (v := 99) hx hb dX7_readsBay_98 (by decide) ?_
          refine cs_i (As := [.int (nm), .int (0), .int (99)]) (rest := [.ref (ma 0)]) (tys := TYS cI cC cB cS) ⟨hx, hb, hml, hown, hts⟩ (c_X7_in l D cI cC cB cS (nm) (0) (99)) (va_cwS 3 hts gX7_readsBay_X7_in rfl rfl rfl (by decide +kernel) ⟨Nat.le_of_ble_eq_true rfl, Nat.le_of_ble_eq_true rfl⟩) hK hP [] rfl rfl rfl hl.1 (Nat.le_of_ble_eq_true rfl) dX7_readsBay_100 ⟨Nat.le_of_ble_eq_true rfl, Nat.le_of_ble_eq_true rfl⟩ (fun r_27 hr_27 => ?_)
          rcases (show Yes (0 ≤ nm ∧ nm ≤ 99) r_27 from hr_27) with ⟨rfl, h_28⟩ | ⟨rfl, h_28⟩
          · -- X7_in t
            refine if_eq_f (tgt := 119) hx hb (by decide) dX7_readsBay_103 (by decide) ?_
            refine lv_aload_n hx hb dX7_readsBay_106 rfl (lv_at hl 3 rfl) ?_
            refine lv_iload_n hx hb dX7_readsBay_107 rfl (lv_at hl 1 rfl) ?_
            refine lv_iload_n hx hb dX7_readsBay_108 rfl (lv_at hl 0 rfl) ?_
            refine cv_i (As := [.int (r_25), .int (nm)]) (rest := [.ref (ma 0)]) (tys := TYS cI cC cB cS) (ci := 7) ⟨hx, hb, hml, hown, hts⟩ (c_X7_isTaken l D cI cC cB cS (ma) ((fun j => [fi 0, nI L, nI te, nI ts, nm, 1].getD j 0)) (wd) (g) (lf) (n) (r_25) (nm) (hn) (hnb)) (cwV 2 hts gX7_readsBay_X7_isTaken rfl rfl rfl (by decide +kernel) ⟨Nat.le_of_ble_eq_true rfl, Nat.le_of_ble_eq_true rfl⟩) hK hP [1, 0] rfl rfl rfl rfl rfl hl.1 (Nat.le_of_ble_eq_true rfl) dX7_readsBay_109 ⟨Nat.le_of_ble_eq_true rfl, Nat.le_of_ble_eq_true rfl⟩ (fun r_29 hr_29 => ?_)
            rcases (show Yes (∃ w, w < n ∧ g 4 w = r_25 ∧ g 5 w = nm) r_29 from hr_29) with ⟨rfl, h_30⟩ | ⟨rfl, h_30⟩
            · -- X7_isTaken t
              refine if_ne_t (tgt := 119) hx hb (by decide) dX7_readsBay_112 (by decide) ?_
              refine lv_iconst (v := 0) hx hb dX7_readsBay_119 (by decide) ?_
              refine cv_wv (As := [.int (0)]) (rest := []) (tys := TYS cI cC cB cS) (ci := 7) (wr := [(ma 1, iE cI 382 (enc g lf))]) ⟨hx, hb, hml, hown, hts⟩ (c_X7_takes l D cI cC cB cS _ (ma) (fi) (wd) (L) (f) (tk) (ts) (te) (nm) (1) (0) (hL) (hch) (by omega) ((Or.inr rfl)) ((Or.inl rfl))) (cwV 1 hts gX7_readsBay_X7_takes rfl rfl rfl (by decide +kernel) ⟨Nat.le_of_ble_eq_true rfl, Nat.le_of_ble_eq_true rfl⟩) hK hP hD hS hA [1, 2] [0] rfl rfl (by decide) (by decide) (by decide) rfl rfl rfl rfl hl.1 (Nat.le_of_ble_eq_true rfl) dX7_readsBay_120 ⟨Nat.le_of_ble_eq_true rfl, Nat.le_of_ble_eq_true rfl⟩ (fun u_31 H locs hu_31 hP hD hS => ?_)
              have hP : va_P D vwCl [(ma 1, iE cI 382 (enc g lf)), (ma 0, oE 7 [.ref (ma 1), .ref (ma 2), .int (fi 0), .ref (ma 3), .ref (ma 4), .int (nI L), .int (nI u_31.1.2.2.1), .int (nI u_31.1.2.1), .long (u_31.1.2.2.2.1), .int (u_31.1.2.2.2.2), .int (u_31.2)]), (ma 4, iE cB 120 (bt f))] H := hP
              have hD : va_D A [(ma 1, iE cI 382 (enc g lf)), (ma 0, oE 7 [.ref (ma 1), .ref (ma 2), .int (fi 0), .ref (ma 3), .ref (ma 4), .int (nI L), .int (nI u_31.1.2.2.1), .int (nI u_31.1.2.1), .long (u_31.1.2.2.2.1), .int (u_31.1.2.2.2.2), .int (u_31.2)]), (ma 4, iE cB 120 (bt f))] := hD
              have hu_31 : TakeR f L (1) (0) (tk, ts, te, wd, nm) u_31 := hu_31
              have hn_31 := take_no hu_31 (fun q9 => absurd q9.1 (by decide))
              subst hn_31
              have hP : va_P D vwCl [(ma 1, iE cI 382 (enc g lf)), (ma 0, oE 7 [.ref (ma 1), .ref (ma 2), .int (fi 0), .ref (ma 3), .ref (ma 4), .int (nI L), .int (nI te), .int (nI ts), .long (wd), .int (nm), .int (1)]), (ma 4, iE cB 120 (bt f))] H := hP
              have hD : va_D A [(ma 1, iE cI 382 (enc g lf)), (ma 0, oE 7 [.ref (ma 1), .ref (ma 2), .int (fi 0), .ref (ma 3), .ref (ma 4), .int (nI L), .int (nI te), .int (nI ts), .long (wd), .int (nm), .int (1)]), (ma 4, iE cB 120 (bt f))] := hD
              refine lv_aload_n hx hb dX7_readsBay_123 rfl (lv_at hl 3 rfl) ?_
              refine va_get (D := D) (ci := 7) (v := .int (1)) (C := RX7) (T := TX7) (N := 11) hx hb hts (by decide +kernel) hown hK.1 hP 1 rfl rfl 10 (by decide) (hts (.fieldLink RX7 102 "ParkingGarageModel" "isWrong" "Z") (by decide +kernel)) (fun _ h9 => h9) rfl dX7_readsBay_124 ?_
              refine if_ne_t (tgt := 143) hx hb (by decide) dX7_readsBay_127 (by decide) ?_
              exact wr_vret (((tk, ts, te, wd, nm), 1, g)) hx hb hr hlocks hS hP hD [1, 0, 2] rfl rfl (by decide) dX7_readsBay_143 (⟨htk, Or.inl ⟨rfl, Or.inl ⟨hn30, rfl⟩⟩⟩)
            · -- X7_isTaken f
              refine if_ne_f (tgt := 119) hx hb rfl dX7_readsBay_112 (by decide) ?_
              refine lv_iconst (v := 1) hx hb dX7_readsBay_115 (by decide) ?_
              refine lv_goto (tgt := 120) hx hb dX7_readsBay_116 (by decide) ?_
              refine cv_wv (As := [.int (1)]) (rest := []) (tys := TYS cI cC cB cS) (ci := 7) (wr := [(ma 1, iE cI 382 (enc g lf))]) ⟨hx, hb, hml, hown, hts⟩ (c_X7_takes l D cI cC cB cS _ (ma) (fi) (wd) (L) (f) (tk) (ts) (te) (nm) (1) (1) (hL) (hch) (by omega) ((Or.inr rfl)) ((Or.inr rfl))) (cwV 1 hts gX7_readsBay_X7_takes rfl rfl rfl (by decide +kernel) ⟨Nat.le_of_ble_eq_true rfl, Nat.le_of_ble_eq_true rfl⟩) hK hP hD hS hA [1, 2] [0] rfl rfl (by decide) (by decide) (by decide) rfl rfl rfl rfl hl.1 (Nat.le_of_ble_eq_true rfl) dX7_readsBay_120 ⟨Nat.le_of_ble_eq_true rfl, Nat.le_of_ble_eq_true rfl⟩ (fun u_33 H locs hu_33 hP hD hS => ?_)
              have hP : va_P D vwCl [(ma 1, iE cI 382 (enc g lf)), (ma 0, oE 7 [.ref (ma 1), .ref (ma 2), .int (fi 0), .ref (ma 3), .ref (ma 4), .int (nI L), .int (nI u_33.1.2.2.1), .int (nI u_33.1.2.1), .long (u_33.1.2.2.2.1), .int (u_33.1.2.2.2.2), .int (u_33.2)]), (ma 4, iE cB 120 (bt f))] H := hP
              have hD : va_D A [(ma 1, iE cI 382 (enc g lf)), (ma 0, oE 7 [.ref (ma 1), .ref (ma 2), .int (fi 0), .ref (ma 3), .ref (ma 4), .int (nI L), .int (nI u_33.1.2.2.1), .int (nI u_33.1.2.1), .long (u_33.1.2.2.2.1), .int (u_33.1.2.2.2.2), .int (u_33.2)]), (ma 4, iE cB 120 (bt f))] := hD
              have hu_33 : TakeR f L (1) (1) (tk, ts, te, wd, nm) u_33 := hu_33
              have hn_33 := take_no hu_33 (fun q9 => absurd q9.1 (by decide))
              subst hn_33
              have hP : va_P D vwCl [(ma 1, iE cI 382 (enc g lf)), (ma 0, oE 7 [.ref (ma 1), .ref (ma 2), .int (fi 0), .ref (ma 3), .ref (ma 4), .int (nI L), .int (nI te), .int (nI ts), .long (wd), .int (nm), .int (1)]), (ma 4, iE cB 120 (bt f))] H := hP
              have hD : va_D A [(ma 1, iE cI 382 (enc g lf)), (ma 0, oE 7 [.ref (ma 1), .ref (ma 2), .int (fi 0), .ref (ma 3), .ref (ma 4), .int (nI L), .int (nI te), .int (nI ts), .long (wd), .int (nm), .int (1)]), (ma 4, iE cB 120 (bt f))] := hD
              refine lv_aload_n hx hb dX7_readsBay_123 rfl (lv_at hl 3 rfl) ?_
              refine va_get (D := D) (ci := 7) (v := .int (1)) (C := RX7) (T := TX7) (N := 11) hx hb hts (by decide +kernel) hown hK.1 hP 1 rfl rfl 10 (by decide) (hts (.fieldLink RX7 102 "ParkingGarageModel" "isWrong" "Z") (by decide +kernel)) (fun _ h9 => h9) rfl dX7_readsBay_124 ?_
              refine if_ne_t (tgt := 143) hx hb (by decide) dX7_readsBay_127 (by decide) ?_
              exact wr_vret (((tk, ts, te, wd, nm), 1, g)) hx hb hr hlocks hS hP hD [1, 0, 2] rfl rfl (by decide) dX7_readsBay_143 (⟨htk, Or.inl ⟨rfl, Or.inl ⟨hn30, rfl⟩⟩⟩)
          · -- X7_in f
            refine if_eq_t (tgt := 119) hx hb rfl dX7_readsBay_103 (by decide) ?_
            refine lv_iconst (v := 0) hx hb dX7_readsBay_119 (by decide) ?_
            refine cv_wv (As := [.int (0)]) (rest := []) (tys := TYS cI cC cB cS) (ci := 7) (wr := [(ma 1, iE cI 382 (enc g lf))]) ⟨hx, hb, hml, hown, hts⟩ (c_X7_takes l D cI cC cB cS _ (ma) (fi) (wd) (L) (f) (tk) (ts) (te) (nm) (1) (0) (hL) (hch) (by omega) ((Or.inr rfl)) ((Or.inl rfl))) (cwV 1 hts gX7_readsBay_X7_takes rfl rfl rfl (by decide +kernel) ⟨Nat.le_of_ble_eq_true rfl, Nat.le_of_ble_eq_true rfl⟩) hK hP hD hS hA [1, 2] [0] rfl rfl (by decide) (by decide) (by decide) rfl rfl rfl rfl hl.1 (Nat.le_of_ble_eq_true rfl) dX7_readsBay_120 ⟨Nat.le_of_ble_eq_true rfl, Nat.le_of_ble_eq_true rfl⟩ (fun u_35 H locs hu_35 hP hD hS => ?_)
            have hP : va_P D vwCl [(ma 1, iE cI 382 (enc g lf)), (ma 0, oE 7 [.ref (ma 1), .ref (ma 2), .int (fi 0), .ref (ma 3), .ref (ma 4), .int (nI L), .int (nI u_35.1.2.2.1), .int (nI u_35.1.2.1), .long (u_35.1.2.2.2.1), .int (u_35.1.2.2.2.2), .int (u_35.2)]), (ma 4, iE cB 120 (bt f))] H := hP
            have hD : va_D A [(ma 1, iE cI 382 (enc g lf)), (ma 0, oE 7 [.ref (ma 1), .ref (ma 2), .int (fi 0), .ref (ma 3), .ref (ma 4), .int (nI L), .int (nI u_35.1.2.2.1), .int (nI u_35.1.2.1), .long (u_35.1.2.2.2.1), .int (u_35.1.2.2.2.2), .int (u_35.2)]), (ma 4, iE cB 120 (bt f))] := hD
            have hu_35 : TakeR f L (1) (0) (tk, ts, te, wd, nm) u_35 := hu_35
            have hn_35 := take_no hu_35 (fun q9 => absurd q9.1 (by decide))
            subst hn_35
            have hP : va_P D vwCl [(ma 1, iE cI 382 (enc g lf)), (ma 0, oE 7 [.ref (ma 1), .ref (ma 2), .int (fi 0), .ref (ma 3), .ref (ma 4), .int (nI L), .int (nI te), .int (nI ts), .long (wd), .int (nm), .int (1)]), (ma 4, iE cB 120 (bt f))] H := hP
            have hD : va_D A [(ma 1, iE cI 382 (enc g lf)), (ma 0, oE 7 [.ref (ma 1), .ref (ma 2), .int (fi 0), .ref (ma 3), .ref (ma 4), .int (nI L), .int (nI te), .int (nI ts), .long (wd), .int (nm), .int (1)]), (ma 4, iE cB 120 (bt f))] := hD
            refine lv_aload_n hx hb dX7_readsBay_123 rfl (lv_at hl 3 rfl) ?_
            refine va_get (D := D) (ci := 7) (v := .int (1)) (C := RX7) (T := TX7) (N := 11) hx hb hts (by decide +kernel) hown hK.1 hP 1 rfl rfl 10 (by decide) (hts (.fieldLink RX7 102 "ParkingGarageModel" "isWrong" "Z") (by decide +kernel)) (fun _ h9 => h9) rfl dX7_readsBay_124 ?_
            refine if_ne_t (tgt := 143) hx hb (by decide) dX7_readsBay_127 (by decide) ?_
            exact wr_vret (((tk, ts, te, wd, nm), 1, g)) hx hb hr hlocks hS hP hD [1, 0, 2] rfl rfl (by decide) dX7_readsBay_143 (⟨htk, Or.inl ⟨rfl, Or.inl ⟨hn30, rfl⟩⟩⟩)
      · -- c_5: not lg_cmp (wd) (189278869) ≠ 0
        refine lv_iconst (v := 1) hx hb dX7_readsBay_46 (by decide) ?_
        refine lv_goto (tgt := 67) hx hb dX7_readsBay_47 (by decide) ?_
        refine lv_istore_n (lv' := [(1, .int (1)), (0, .ref (ma 0))]) hx hb dX7_readsBay_67 rfl hl (by decide) rfl (fun ls hl => ?_)
        refine lv_aload_n hx hb dX7_readsBay_68 rfl (lv_at hl 1 rfl) ?_
        refine lv_iload_n hx hb dX7_readsBay_69 rfl (lv_at hl 0 rfl) ?_
        refine lv_bipush (v := -9) hx hb dX7_readsBay_70 (by decide) ?_
        refine lv_icmp_eq (tgt := 79) hx hb dX7_readsBay_72 (by decide) (fun c => absurd c (by decide)) (fun _ => ?_)
        refine lv_iconst (v := 1) hx hb dX7_readsBay_75 (by decide) ?_
        refine lv_goto (tgt := 80) hx hb dX7_readsBay_76 (by decide) ?_
        refine cv_wv (As := [.int (1)]) (rest := []) (tys := TYS cI cC cB cS) (ci := 7) (wr := [(ma 1, iE cI 382 (enc g lf))]) ⟨hx, hb, hml, hown, hts⟩ (c_X7_takes l D cI cC cB cS _ (ma) (fi) (wd) (L) (f) (tk) (ts) (te) (nm) (1) (1) (hL) (hch) (by omega) ((Or.inr rfl)) ((Or.inr rfl))) (cwV 1 hts gX7_readsBay_X7_takes rfl rfl rfl (by decide +kernel) ⟨Nat.le_of_ble_eq_true rfl, Nat.le_of_ble_eq_true rfl⟩) hK hP hD hS hA [1, 2] [0] rfl rfl (by decide) (by decide) (by decide) rfl rfl rfl rfl hl.1 (Nat.le_of_ble_eq_true rfl) dX7_readsBay_80 ⟨Nat.le_of_ble_eq_true rfl, Nat.le_of_ble_eq_true rfl⟩ (fun u_37 H locs hu_37 hP hD hS => ?_)
        have hP : va_P D vwCl [(ma 1, iE cI 382 (enc g lf)), (ma 0, oE 7 [.ref (ma 1), .ref (ma 2), .int (fi 0), .ref (ma 3), .ref (ma 4), .int (nI L), .int (nI u_37.1.2.2.1), .int (nI u_37.1.2.1), .long (u_37.1.2.2.2.1), .int (u_37.1.2.2.2.2), .int (u_37.2)]), (ma 4, iE cB 120 (bt f))] H := hP
        have hD : va_D A [(ma 1, iE cI 382 (enc g lf)), (ma 0, oE 7 [.ref (ma 1), .ref (ma 2), .int (fi 0), .ref (ma 3), .ref (ma 4), .int (nI L), .int (nI u_37.1.2.2.1), .int (nI u_37.1.2.1), .long (u_37.1.2.2.2.1), .int (u_37.1.2.2.2.2), .int (u_37.2)]), (ma 4, iE cB 120 (bt f))] := hD
        have hu_37 : TakeR f L (1) (1) (tk, ts, te, wd, nm) u_37 := hu_37
        have hn_37 := take_no hu_37 (fun q9 => absurd q9.1 (by decide))
        subst hn_37
        have hP : va_P D vwCl [(ma 1, iE cI 382 (enc g lf)), (ma 0, oE 7 [.ref (ma 1), .ref (ma 2), .int (fi 0), .ref (ma 3), .ref (ma 4), .int (nI L), .int (nI te), .int (nI ts), .long (wd), .int (nm), .int (1)]), (ma 4, iE cB 120 (bt f))] H := hP
        have hD : va_D A [(ma 1, iE cI 382 (enc g lf)), (ma 0, oE 7 [.ref (ma 1), .ref (ma 2), .int (fi 0), .ref (ma 3), .ref (ma 4), .int (nI L), .int (nI te), .int (nI ts), .long (wd), .int (nm), .int (1)]), (ma 4, iE cB 120 (bt f))] := hD
        refine lv_aload_n hx hb dX7_readsBay_83 rfl (lv_at hl 1 rfl) ?_
        refine lv_iconst (v := 0) hx hb dX7_readsBay_84 (by decide) ?_
        refine lv_iconst (v := 4) hx hb dX7_readsBay_85 (by decide) ?_
        refine cv_wi (As := [.int (0), .int (4)]) (rest := []) (tys := TYS cI cC cB cS) (ci := 7) (wr := [(ma 1, iE cI 382 (enc g lf))]) ⟨hx, hb, hml, hown, hts⟩ (c_X7_takesNumber l D cI cC cB cS _ (ma) (fi) (wd) (L) (f) (tk) (ts) (te) (nm) (1) (0) (4) (hL) (hch) (by omega) ((Or.inr rfl))) (cwV 2 hts gX7_readsBay_X7_takesNumber rfl rfl rfl (by decide +kernel) ⟨Nat.le_of_ble_eq_true rfl, Nat.le_of_ble_eq_true rfl⟩) hK hP hD hS hA [1, 2] [0] rfl rfl (by decide) (by decide) (by decide) rfl rfl rfl rfl hl.1 (Nat.le_of_ble_eq_true rfl) dX7_readsBay_86 ⟨Nat.le_of_ble_eq_true rfl, Nat.le_of_ble_eq_true rfl⟩ (fun r_40 u_39 H locs hu_39 hP hD hS => ?_)
        have hP : va_P D vwCl [(ma 1, iE cI 382 (enc g lf)), (ma 0, oE 7 [.ref (ma 1), .ref (ma 2), .int (fi 0), .ref (ma 3), .ref (ma 4), .int (nI L), .int (nI u_39.1.2.2.1), .int (nI u_39.1.2.1), .long (u_39.1.2.2.2.1), .int (u_39.1.2.2.2.2), .int (u_39.2)]), (ma 4, iE cB 120 (bt f))] H := hP
        have hD : va_D A [(ma 1, iE cI 382 (enc g lf)), (ma 0, oE 7 [.ref (ma 1), .ref (ma 2), .int (fi 0), .ref (ma 3), .ref (ma 4), .int (nI L), .int (nI u_39.1.2.2.1), .int (nI u_39.1.2.1), .long (u_39.1.2.2.2.1), .int (u_39.1.2.2.2.2), .int (u_39.2)]), (ma 4, iE cB 120 (bt f))] := hD
        have hu_39 : TakeN f L 0 4 (1) (tk, ts, te, wd, nm) r_40 u_39 := hu_39
        have hn_40 := takeN_wrong hu_39
        subst hn_40
        have hP : va_P D vwCl [(ma 1, iE cI 382 (enc g lf)), (ma 0, oE 7 [.ref (ma 1), .ref (ma 2), .int (fi 0), .ref (ma 3), .ref (ma 4), .int (nI L), .int (nI te), .int (nI ts), .long (wd), .int (nm), .int (1)]), (ma 4, iE cB 120 (bt f))] H := hP
        have hD : va_D A [(ma 1, iE cI 382 (enc g lf)), (ma 0, oE 7 [.ref (ma 1), .ref (ma 2), .int (fi 0), .ref (ma 3), .ref (ma 4), .int (nI L), .int (nI te), .int (nI ts), .long (wd), .int (nm), .int (1)]), (ma 4, iE cB 120 (bt f))] := hD
        refine lv_istore_n (lv' := [(2, .int (r_40)), (1, .int (1)), (0, .ref (ma 0))]) hx hb dX7_readsBay_89 rfl hl (by decide) rfl (fun ls hl => ?_)
        refine lv_aload_n hx hb dX7_readsBay_90 rfl (lv_at hl 2 rfl) ?_
        refine va_get (D := D) (ci := 7) (v := .int (nm)) (C := RX7) (T := TX7) (N := 11) hx hb hts (by decide +kernel) hown hK.1 hP 1 rfl rfl 9 (by decide) (hts (.fieldLink RX7 95 "ParkingGarageModel" "number" "I") (by decide +kernel)) (fun _ h9 => h9) rfl dX7_readsBay_91 ?_
        refine lv_istore_n (lv' := [(3, .int (nm)), (2, .int (r_40)), (1, .int (1)), (0, .ref (ma 0))]) hx hb dX7_readsBay_94 rfl hl (by decide) rfl (fun ls hl => ?_)
        refine lv_aload_n hx hb dX7_readsBay_95 rfl (lv_at hl 3 rfl) ?_
        refine lv_iload_n hx hb dX7_readsBay_96 rfl (lv_at hl 0 rfl) ?_
        refine lv_iconst (v := 0) hx hb dX7_readsBay_97 (by decide) ?_
        refine lv_bipush (v := 99) hx hb dX7_readsBay_98 (by decide) ?_
        refine cs_i (As := [.int (nm), .int (0), .int (99)]) (rest := [.ref (ma 0)]) (tys := TYS cI cC cB cS) ⟨hx, hb, hml, hown, hts⟩ (c_X7_in l D cI cC cB cS (nm) (0) (99)) (va_cwS 3 hts gX7_readsBay_X7_in rfl rfl rfl (by decide +kernel) ⟨Nat.le_of_ble_eq_true rfl, Nat.le_of_ble_eq_true rfl⟩) hK hP [] rfl rfl rfl hl.1 (Nat.le_of_ble_eq_true rfl) dX7_readsBay_100 ⟨Nat.le_of_ble_eq_true rfl, Nat.le_of_ble_eq_true rfl⟩ (fun r_42 hr_42 => ?_)
        rcases (show Yes (0 ≤ nm ∧ nm ≤ 99) r_42 from hr_42) with ⟨rfl, h_43⟩ | ⟨rfl, h_43⟩
        · -- X7_in t
          refine if_eq_f (tgt := 119) hx hb (by decide) dX7_readsBay_103 (by decide) ?_
          refine lv_aload_n hx hb dX7_readsBay_106 rfl (lv_at hl 3 rfl) ?_
          refine lv_iload_n hx hb dX7_readsBay_107 rfl (lv_at hl 1 rfl) ?_
          refine lv_iload_n hx hb dX7_readsBay_108 rfl (lv_at hl 0 rfl) ?_
          refine cv_i (As := [.int (r_40), .int (nm)]) (rest := [.ref (ma 0)]) (tys := TYS cI cC cB cS) (ci := 7) ⟨hx, hb, hml, hown, hts⟩ (c_X7_isTaken l D cI cC cB cS (ma) ((fun j => [fi 0, nI L, nI te, nI ts, nm, 1].getD j 0)) (wd) (g) (lf) (n) (r_40) (nm) (hn) (hnb)) (cwV 2 hts gX7_readsBay_X7_isTaken rfl rfl rfl (by decide +kernel) ⟨Nat.le_of_ble_eq_true rfl, Nat.le_of_ble_eq_true rfl⟩) hK hP [1, 0] rfl rfl rfl rfl rfl hl.1 (Nat.le_of_ble_eq_true rfl) dX7_readsBay_109 ⟨Nat.le_of_ble_eq_true rfl, Nat.le_of_ble_eq_true rfl⟩ (fun r_44 hr_44 => ?_)
          rcases (show Yes (∃ w, w < n ∧ g 4 w = r_40 ∧ g 5 w = nm) r_44 from hr_44) with ⟨rfl, h_45⟩ | ⟨rfl, h_45⟩
          · -- X7_isTaken t
            refine if_ne_t (tgt := 119) hx hb (by decide) dX7_readsBay_112 (by decide) ?_
            refine lv_iconst (v := 0) hx hb dX7_readsBay_119 (by decide) ?_
            refine cv_wv (As := [.int (0)]) (rest := []) (tys := TYS cI cC cB cS) (ci := 7) (wr := [(ma 1, iE cI 382 (enc g lf))]) ⟨hx, hb, hml, hown, hts⟩ (c_X7_takes l D cI cC cB cS _ (ma) (fi) (wd) (L) (f) (tk) (ts) (te) (nm) (1) (0) (hL) (hch) (by omega) ((Or.inr rfl)) ((Or.inl rfl))) (cwV 1 hts gX7_readsBay_X7_takes rfl rfl rfl (by decide +kernel) ⟨Nat.le_of_ble_eq_true rfl, Nat.le_of_ble_eq_true rfl⟩) hK hP hD hS hA [1, 2] [0] rfl rfl (by decide) (by decide) (by decide) rfl rfl rfl rfl hl.1 (Nat.le_of_ble_eq_true rfl) dX7_readsBay_120 ⟨Nat.le_of_ble_eq_true rfl, Nat.le_of_ble_eq_true rfl⟩ (fun u_46 H locs hu_46 hP hD hS => ?_)
            have hP : va_P D vwCl [(ma 1, iE cI 382 (enc g lf)), (ma 0, oE 7 [.ref (ma 1), .ref (ma 2), .int (fi 0), .ref (ma 3), .ref (ma 4), .int (nI L), .int (nI u_46.1.2.2.1), .int (nI u_46.1.2.1), .long (u_46.1.2.2.2.1), .int (u_46.1.2.2.2.2), .int (u_46.2)]), (ma 4, iE cB 120 (bt f))] H := hP
            have hD : va_D A [(ma 1, iE cI 382 (enc g lf)), (ma 0, oE 7 [.ref (ma 1), .ref (ma 2), .int (fi 0), .ref (ma 3), .ref (ma 4), .int (nI L), .int (nI u_46.1.2.2.1), .int (nI u_46.1.2.1), .long (u_46.1.2.2.2.1), .int (u_46.1.2.2.2.2), .int (u_46.2)]), (ma 4, iE cB 120 (bt f))] := hD
            have hu_46 : TakeR f L (1) (0) (tk, ts, te, wd, nm) u_46 := hu_46
            have hn_46 := take_no hu_46 (fun q9 => absurd q9.1 (by decide))
            subst hn_46
            have hP : va_P D vwCl [(ma 1, iE cI 382 (enc g lf)), (ma 0, oE 7 [.ref (ma 1), .ref (ma 2), .int (fi 0), .ref (ma 3), .ref (ma 4), .int (nI L), .int (nI te), .int (nI ts), .long (wd), .int (nm), .int (1)]), (ma 4, iE cB 120 (bt f))] H := hP
            have hD : va_D A [(ma 1, iE cI 382 (enc g lf)), (ma 0, oE 7 [.ref (ma 1), .ref (ma 2), .int (fi 0), .ref (ma 3), .ref (ma 4), .int (nI L), .int (nI te), .int (nI ts), .long (wd), .int (nm), .int (1)]), (ma 4, iE cB 120 (bt f))] := hD
            refine lv_aload_n hx hb dX7_readsBay_123 rfl (lv_at hl 3 rfl) ?_
            refine va_get (D := D) (ci := 7) (v := .int (1)) (C := RX7) (T := TX7) (N := 11) hx hb hts (by decide +kernel) hown hK.1 hP 1 rfl rfl 10 (by decide) (hts (.fieldLink RX7 102 "ParkingGarageModel" "isWrong" "Z") (by decide +kernel)) (fun _ h9 => h9) rfl dX7_readsBay_124 ?_
            refine if_ne_t (tgt := 143) hx hb (by decide) dX7_readsBay_127 (by decide) ?_
            exact wr_vret (((tk, ts, te, wd, nm), 1, g)) hx hb hr hlocks hS hP hD [1, 0, 2] rfl rfl (by decide) dX7_readsBay_143 (⟨htk, Or.inl ⟨rfl, Or.inl ⟨hn30, rfl⟩⟩⟩)
          · -- X7_isTaken f
            refine if_ne_f (tgt := 119) hx hb rfl dX7_readsBay_112 (by decide) ?_
            refine lv_iconst (v := 1) hx hb dX7_readsBay_115 (by decide) ?_
            refine lv_goto (tgt := 120) hx hb dX7_readsBay_116 (by decide) ?_
            refine cv_wv (As := [.int (1)]) (rest := []) (tys := TYS cI cC cB cS) (ci := 7) (wr := [(ma 1, iE cI 382 (enc g lf))]) ⟨hx, hb, hml, hown, hts⟩ (c_X7_takes l D cI cC cB cS _ (ma) (fi) (wd) (L) (f) (tk) (ts) (te) (nm) (1) (1) (hL) (hch) (by omega) ((Or.inr rfl)) ((Or.inr rfl))) (cwV 1 hts gX7_readsBay_X7_takes rfl rfl rfl (by decide +kernel) ⟨Nat.le_of_ble_eq_true rfl, Nat.le_of_ble_eq_true rfl⟩) hK hP hD hS hA [1, 2] [0] rfl rfl (by decide) (by decide) (by decide) rfl rfl rfl rfl hl.1 (Nat.le_of_ble_eq_true rfl) dX7_readsBay_120 ⟨Nat.le_of_ble_eq_true rfl, Nat.le_of_ble_eq_true rfl⟩ (fun u_48 H locs hu_48 hP hD hS => ?_)
            have hP : va_P D vwCl [(ma 1, iE cI 382 (enc g lf)), (ma 0, oE 7 [.ref (ma 1), .ref (ma 2), .int (fi 0), .ref (ma 3), .ref (ma 4), .int (nI L), .int (nI u_48.1.2.2.1), .int (nI u_48.1.2.1), .long (u_48.1.2.2.2.1), .int (u_48.1.2.2.2.2), .int (u_48.2)]), (ma 4, iE cB 120 (bt f))] H := hP
            have hD : va_D A [(ma 1, iE cI 382 (enc g lf)), (ma 0, oE 7 [.ref (ma 1), .ref (ma 2), .int (fi 0), .ref (ma 3), .ref (ma 4), .int (nI L), .int (nI u_48.1.2.2.1), .int (nI u_48.1.2.1), .long (u_48.1.2.2.2.1), .int (u_48.1.2.2.2.2), .int (u_48.2)]), (ma 4, iE cB 120 (bt f))] := hD
            have hu_48 : TakeR f L (1) (1) (tk, ts, te, wd, nm) u_48 := hu_48
            have hn_48 := take_no hu_48 (fun q9 => absurd q9.1 (by decide))
            subst hn_48
            have hP : va_P D vwCl [(ma 1, iE cI 382 (enc g lf)), (ma 0, oE 7 [.ref (ma 1), .ref (ma 2), .int (fi 0), .ref (ma 3), .ref (ma 4), .int (nI L), .int (nI te), .int (nI ts), .long (wd), .int (nm), .int (1)]), (ma 4, iE cB 120 (bt f))] H := hP
            have hD : va_D A [(ma 1, iE cI 382 (enc g lf)), (ma 0, oE 7 [.ref (ma 1), .ref (ma 2), .int (fi 0), .ref (ma 3), .ref (ma 4), .int (nI L), .int (nI te), .int (nI ts), .long (wd), .int (nm), .int (1)]), (ma 4, iE cB 120 (bt f))] := hD
            refine lv_aload_n hx hb dX7_readsBay_123 rfl (lv_at hl 3 rfl) ?_
            refine va_get (D := D) (ci := 7) (v := .int (1)) (C := RX7) (T := TX7) (N := 11) hx hb hts (by decide +kernel) hown hK.1 hP 1 rfl rfl 10 (by decide) (hts (.fieldLink RX7 102 "ParkingGarageModel" "isWrong" "Z") (by decide +kernel)) (fun _ h9 => h9) rfl dX7_readsBay_124 ?_
            refine if_ne_t (tgt := 143) hx hb (by decide) dX7_readsBay_127 (by decide) ?_
            exact wr_vret (((tk, ts, te, wd, nm), 1, g)) hx hb hr hlocks hS hP hD [1, 0, 2] rfl rfl (by decide) dX7_readsBay_143 (⟨htk, Or.inl ⟨rfl, Or.inl ⟨hn30, rfl⟩⟩⟩)
        · -- X7_in f
          refine if_eq_t (tgt := 119) hx hb rfl dX7_readsBay_103 (by decide) ?_
          refine lv_iconst (v := 0) hx hb dX7_readsBay_119 (by decide) ?_
          refine cv_wv (As := [.int (0)]) (rest := []) (tys := TYS cI cC cB cS) (ci := 7) (wr := [(ma 1, iE cI 382 (enc g lf))]) ⟨hx, hb, hml, hown, hts⟩ (c_X7_takes l D cI cC cB cS _ (ma) (fi) (wd) (L) (f) (tk) (ts) (te) (nm) (1) (0) (hL) (hch) (by omega) ((Or.inr rfl)) ((Or.inl rfl))) (cwV 1 hts gX7_readsBay_X7_takes rfl rfl rfl (by decide +kernel) ⟨Nat.le_of_ble_eq_true rfl, Nat.le_of_ble_eq_true rfl⟩) hK hP hD hS hA [1, 2] [0] rfl rfl (by decide) (by decide) (by decide) rfl rfl rfl rfl hl.1 (Nat.le_of_ble_eq_true rfl) dX7_readsBay_120 ⟨Nat.le_of_ble_eq_true rfl, Nat.le_of_ble_eq_true rfl⟩ (fun u_50 H locs hu_50 hP hD hS => ?_)
          have hP : va_P D vwCl [(ma 1, iE cI 382 (enc g lf)), (ma 0, oE 7 [.ref (ma 1), .ref (ma 2), .int (fi 0), .ref (ma 3), .ref (ma 4), .int (nI L), .int (nI u_50.1.2.2.1), .int (nI u_50.1.2.1), .long (u_50.1.2.2.2.1), .int (u_50.1.2.2.2.2), .int (u_50.2)]), (ma 4, iE cB 120 (bt f))] H := hP
          have hD : va_D A [(ma 1, iE cI 382 (enc g lf)), (ma 0, oE 7 [.ref (ma 1), .ref (ma 2), .int (fi 0), .ref (ma 3), .ref (ma 4), .int (nI L), .int (nI u_50.1.2.2.1), .int (nI u_50.1.2.1), .long (u_50.1.2.2.2.1), .int (u_50.1.2.2.2.2), .int (u_50.2)]), (ma 4, iE cB 120 (bt f))] := hD
          have hu_50 : TakeR f L (1) (0) (tk, ts, te, wd, nm) u_50 := hu_50
          have hn_50 := take_no hu_50 (fun q9 => absurd q9.1 (by decide))
          subst hn_50
          have hP : va_P D vwCl [(ma 1, iE cI 382 (enc g lf)), (ma 0, oE 7 [.ref (ma 1), .ref (ma 2), .int (fi 0), .ref (ma 3), .ref (ma 4), .int (nI L), .int (nI te), .int (nI ts), .long (wd), .int (nm), .int (1)]), (ma 4, iE cB 120 (bt f))] H := hP
          have hD : va_D A [(ma 1, iE cI 382 (enc g lf)), (ma 0, oE 7 [.ref (ma 1), .ref (ma 2), .int (fi 0), .ref (ma 3), .ref (ma 4), .int (nI L), .int (nI te), .int (nI ts), .long (wd), .int (nm), .int (1)]), (ma 4, iE cB 120 (bt f))] := hD
          refine lv_aload_n hx hb dX7_readsBay_123 rfl (lv_at hl 3 rfl) ?_
          refine va_get (D := D) (ci := 7) (v := .int (1)) (C := RX7) (T := TX7) (N := 11) hx hb hts (by decide +kernel) hown hK.1 hP 1 rfl rfl 10 (by decide) (hts (.fieldLink RX7 102 "ParkingGarageModel" "isWrong" "Z") (by decide +kernel)) (fun _ h9 => h9) rfl dX7_readsBay_124 ?_
          refine if_ne_t (tgt := 143) hx hb (by decide) dX7_readsBay_127 (by decide) ?_
          exact wr_vret (((tk, ts, te, wd, nm), 1, g)) hx hb hr hlocks hS hP hD [1, 0, 2] rfl rfl (by decide) dX7_readsBay_143 (⟨htk, Or.inl ⟨rfl, Or.inl ⟨hn30, rfl⟩⟩⟩)
    · -- c_4: not lg_cmp (wd) (10354323) ≠ 0
      refine lv_iconst (v := 0) hx hb dX7_readsBay_31 (by decide) ?_
      refine lv_goto (tgt := 67) hx hb dX7_readsBay_32 (by decide) ?_
      refine lv_istore_n (lv' := [(1, .int (0)), (0, .ref (ma 0))]) hx hb dX7_readsBay_67 rfl hl (by decide) rfl (fun ls hl => ?_)
      refine lv_aload_n hx hb dX7_readsBay_68 rfl (lv_at hl 1 rfl) ?_
      refine lv_iload_n hx hb dX7_readsBay_69 rfl (lv_at hl 0 rfl) ?_
      refine lv_bipush (v := -9) hx hb dX7_readsBay_70 (by decide) ?_
      refine lv_icmp_eq (tgt := 79) hx hb dX7_readsBay_72 (by decide) (fun c => absurd c (by decide)) (fun _ => ?_)
      refine lv_iconst (v := 1) hx hb dX7_readsBay_75 (by decide) ?_
      refine lv_goto (tgt := 80) hx hb dX7_readsBay_76 (by decide) ?_
      refine cv_wv (As := [.int (1)]) (rest := []) (tys := TYS cI cC cB cS) (ci := 7) (wr := [(ma 1, iE cI 382 (enc g lf))]) ⟨hx, hb, hml, hown, hts⟩ (c_X7_takes l D cI cC cB cS _ (ma) (fi) (wd) (L) (f) (tk) (ts) (te) (nm) (1) (1) (hL) (hch) (by omega) ((Or.inr rfl)) ((Or.inr rfl))) (cwV 1 hts gX7_readsBay_X7_takes rfl rfl rfl (by decide +kernel) ⟨Nat.le_of_ble_eq_true rfl, Nat.le_of_ble_eq_true rfl⟩) hK hP hD hS hA [1, 2] [0] rfl rfl (by decide) (by decide) (by decide) rfl rfl rfl rfl hl.1 (Nat.le_of_ble_eq_true rfl) dX7_readsBay_80 ⟨Nat.le_of_ble_eq_true rfl, Nat.le_of_ble_eq_true rfl⟩ (fun u_52 H locs hu_52 hP hD hS => ?_)
      have hP : va_P D vwCl [(ma 1, iE cI 382 (enc g lf)), (ma 0, oE 7 [.ref (ma 1), .ref (ma 2), .int (fi 0), .ref (ma 3), .ref (ma 4), .int (nI L), .int (nI u_52.1.2.2.1), .int (nI u_52.1.2.1), .long (u_52.1.2.2.2.1), .int (u_52.1.2.2.2.2), .int (u_52.2)]), (ma 4, iE cB 120 (bt f))] H := hP
      have hD : va_D A [(ma 1, iE cI 382 (enc g lf)), (ma 0, oE 7 [.ref (ma 1), .ref (ma 2), .int (fi 0), .ref (ma 3), .ref (ma 4), .int (nI L), .int (nI u_52.1.2.2.1), .int (nI u_52.1.2.1), .long (u_52.1.2.2.2.1), .int (u_52.1.2.2.2.2), .int (u_52.2)]), (ma 4, iE cB 120 (bt f))] := hD
      have hu_52 : TakeR f L (1) (1) (tk, ts, te, wd, nm) u_52 := hu_52
      have hn_52 := take_no hu_52 (fun q9 => absurd q9.1 (by decide))
      subst hn_52
      have hP : va_P D vwCl [(ma 1, iE cI 382 (enc g lf)), (ma 0, oE 7 [.ref (ma 1), .ref (ma 2), .int (fi 0), .ref (ma 3), .ref (ma 4), .int (nI L), .int (nI te), .int (nI ts), .long (wd), .int (nm), .int (1)]), (ma 4, iE cB 120 (bt f))] H := hP
      have hD : va_D A [(ma 1, iE cI 382 (enc g lf)), (ma 0, oE 7 [.ref (ma 1), .ref (ma 2), .int (fi 0), .ref (ma 3), .ref (ma 4), .int (nI L), .int (nI te), .int (nI ts), .long (wd), .int (nm), .int (1)]), (ma 4, iE cB 120 (bt f))] := hD
      refine lv_aload_n hx hb dX7_readsBay_83 rfl (lv_at hl 1 rfl) ?_
      refine lv_iconst (v := 0) hx hb dX7_readsBay_84 (by decide) ?_
      refine lv_iconst (v := 4) hx hb dX7_readsBay_85 (by decide) ?_
      refine cv_wi (As := [.int (0), .int (4)]) (rest := []) (tys := TYS cI cC cB cS) (ci := 7) (wr := [(ma 1, iE cI 382 (enc g lf))]) ⟨hx, hb, hml, hown, hts⟩ (c_X7_takesNumber l D cI cC cB cS _ (ma) (fi) (wd) (L) (f) (tk) (ts) (te) (nm) (1) (0) (4) (hL) (hch) (by omega) ((Or.inr rfl))) (cwV 2 hts gX7_readsBay_X7_takesNumber rfl rfl rfl (by decide +kernel) ⟨Nat.le_of_ble_eq_true rfl, Nat.le_of_ble_eq_true rfl⟩) hK hP hD hS hA [1, 2] [0] rfl rfl (by decide) (by decide) (by decide) rfl rfl rfl rfl hl.1 (Nat.le_of_ble_eq_true rfl) dX7_readsBay_86 ⟨Nat.le_of_ble_eq_true rfl, Nat.le_of_ble_eq_true rfl⟩ (fun r_55 u_54 H locs hu_54 hP hD hS => ?_)
      have hP : va_P D vwCl [(ma 1, iE cI 382 (enc g lf)), (ma 0, oE 7 [.ref (ma 1), .ref (ma 2), .int (fi 0), .ref (ma 3), .ref (ma 4), .int (nI L), .int (nI u_54.1.2.2.1), .int (nI u_54.1.2.1), .long (u_54.1.2.2.2.1), .int (u_54.1.2.2.2.2), .int (u_54.2)]), (ma 4, iE cB 120 (bt f))] H := hP
      have hD : va_D A [(ma 1, iE cI 382 (enc g lf)), (ma 0, oE 7 [.ref (ma 1), .ref (ma 2), .int (fi 0), .ref (ma 3), .ref (ma 4), .int (nI L), .int (nI u_54.1.2.2.1), .int (nI u_54.1.2.1), .long (u_54.1.2.2.2.1), .int (u_54.1.2.2.2.2), .int (u_54.2)]), (ma 4, iE cB 120 (bt f))] := hD
      have hu_54 : TakeN f L 0 4 (1) (tk, ts, te, wd, nm) r_55 u_54 := hu_54
      have hn_55 := takeN_wrong hu_54
      subst hn_55
      have hP : va_P D vwCl [(ma 1, iE cI 382 (enc g lf)), (ma 0, oE 7 [.ref (ma 1), .ref (ma 2), .int (fi 0), .ref (ma 3), .ref (ma 4), .int (nI L), .int (nI te), .int (nI ts), .long (wd), .int (nm), .int (1)]), (ma 4, iE cB 120 (bt f))] H := hP
      have hD : va_D A [(ma 1, iE cI 382 (enc g lf)), (ma 0, oE 7 [.ref (ma 1), .ref (ma 2), .int (fi 0), .ref (ma 3), .ref (ma 4), .int (nI L), .int (nI te), .int (nI ts), .long (wd), .int (nm), .int (1)]), (ma 4, iE cB 120 (bt f))] := hD
      refine lv_istore_n (lv' := [(2, .int (r_55)), (1, .int (0)), (0, .ref (ma 0))]) hx hb dX7_readsBay_89 rfl hl (by decide) rfl (fun ls hl => ?_)
      refine lv_aload_n hx hb dX7_readsBay_90 rfl (lv_at hl 2 rfl) ?_
      refine va_get (D := D) (ci := 7) (v := .int (nm)) (C := RX7) (T := TX7) (N := 11) hx hb hts (by decide +kernel) hown hK.1 hP 1 rfl rfl 9 (by decide) (hts (.fieldLink RX7 95 "ParkingGarageModel" "number" "I") (by decide +kernel)) (fun _ h9 => h9) rfl dX7_readsBay_91 ?_
      refine lv_istore_n (lv' := [(3, .int (nm)), (2, .int (r_55)), (1, .int (0)), (0, .ref (ma 0))]) hx hb dX7_readsBay_94 rfl hl (by decide) rfl (fun ls hl => ?_)
      refine lv_aload_n hx hb dX7_readsBay_95 rfl (lv_at hl 3 rfl) ?_
      refine lv_iload_n hx hb dX7_readsBay_96 rfl (lv_at hl 0 rfl) ?_
      refine lv_iconst (v := 0) hx hb dX7_readsBay_97 (by decide) ?_
      refine lv_bipush (v := 99) hx hb dX7_readsBay_98 (by decide) ?_
      refine cs_i (As := [.int (nm), .int (0), .int (99)]) (rest := [.ref (ma 0)]) (tys := TYS cI cC cB cS) ⟨hx, hb, hml, hown, hts⟩ (c_X7_in l D cI cC cB cS (nm) (0) (99)) (va_cwS 3 hts gX7_readsBay_X7_in rfl rfl rfl (by decide +kernel) ⟨Nat.le_of_ble_eq_true rfl, Nat.le_of_ble_eq_true rfl⟩) hK hP [] rfl rfl rfl hl.1 (Nat.le_of_ble_eq_true rfl) dX7_readsBay_100 ⟨Nat.le_of_ble_eq_true rfl, Nat.le_of_ble_eq_true rfl⟩ (fun r_57 hr_57 => ?_)
      rcases (show Yes (0 ≤ nm ∧ nm ≤ 99) r_57 from hr_57) with ⟨rfl, h_58⟩ | ⟨rfl, h_58⟩
      · -- X7_in t
        refine if_eq_f (tgt := 119) hx hb (by decide) dX7_readsBay_103 (by decide) ?_
        refine lv_aload_n hx hb dX7_readsBay_106 rfl (lv_at hl 3 rfl) ?_
        refine lv_iload_n hx hb dX7_readsBay_107 rfl (lv_at hl 1 rfl) ?_
        refine lv_iload_n hx hb dX7_readsBay_108 rfl (lv_at hl 0 rfl) ?_
        refine cv_i (As := [.int (r_55), .int (nm)]) (rest := [.ref (ma 0)]) (tys := TYS cI cC cB cS) (ci := 7) ⟨hx, hb, hml, hown, hts⟩ (c_X7_isTaken l D cI cC cB cS (ma) ((fun j => [fi 0, nI L, nI te, nI ts, nm, 1].getD j 0)) (wd) (g) (lf) (n) (r_55) (nm) (hn) (hnb)) (cwV 2 hts gX7_readsBay_X7_isTaken rfl rfl rfl (by decide +kernel) ⟨Nat.le_of_ble_eq_true rfl, Nat.le_of_ble_eq_true rfl⟩) hK hP [1, 0] rfl rfl rfl rfl rfl hl.1 (Nat.le_of_ble_eq_true rfl) dX7_readsBay_109 ⟨Nat.le_of_ble_eq_true rfl, Nat.le_of_ble_eq_true rfl⟩ (fun r_59 hr_59 => ?_)
        rcases (show Yes (∃ w, w < n ∧ g 4 w = r_55 ∧ g 5 w = nm) r_59 from hr_59) with ⟨rfl, h_60⟩ | ⟨rfl, h_60⟩
        · -- X7_isTaken t
          refine if_ne_t (tgt := 119) hx hb (by decide) dX7_readsBay_112 (by decide) ?_
          refine lv_iconst (v := 0) hx hb dX7_readsBay_119 (by decide) ?_
          refine cv_wv (As := [.int (0)]) (rest := []) (tys := TYS cI cC cB cS) (ci := 7) (wr := [(ma 1, iE cI 382 (enc g lf))]) ⟨hx, hb, hml, hown, hts⟩ (c_X7_takes l D cI cC cB cS _ (ma) (fi) (wd) (L) (f) (tk) (ts) (te) (nm) (1) (0) (hL) (hch) (by omega) ((Or.inr rfl)) ((Or.inl rfl))) (cwV 1 hts gX7_readsBay_X7_takes rfl rfl rfl (by decide +kernel) ⟨Nat.le_of_ble_eq_true rfl, Nat.le_of_ble_eq_true rfl⟩) hK hP hD hS hA [1, 2] [0] rfl rfl (by decide) (by decide) (by decide) rfl rfl rfl rfl hl.1 (Nat.le_of_ble_eq_true rfl) dX7_readsBay_120 ⟨Nat.le_of_ble_eq_true rfl, Nat.le_of_ble_eq_true rfl⟩ (fun u_61 H locs hu_61 hP hD hS => ?_)
          have hP : va_P D vwCl [(ma 1, iE cI 382 (enc g lf)), (ma 0, oE 7 [.ref (ma 1), .ref (ma 2), .int (fi 0), .ref (ma 3), .ref (ma 4), .int (nI L), .int (nI u_61.1.2.2.1), .int (nI u_61.1.2.1), .long (u_61.1.2.2.2.1), .int (u_61.1.2.2.2.2), .int (u_61.2)]), (ma 4, iE cB 120 (bt f))] H := hP
          have hD : va_D A [(ma 1, iE cI 382 (enc g lf)), (ma 0, oE 7 [.ref (ma 1), .ref (ma 2), .int (fi 0), .ref (ma 3), .ref (ma 4), .int (nI L), .int (nI u_61.1.2.2.1), .int (nI u_61.1.2.1), .long (u_61.1.2.2.2.1), .int (u_61.1.2.2.2.2), .int (u_61.2)]), (ma 4, iE cB 120 (bt f))] := hD
          have hu_61 : TakeR f L (1) (0) (tk, ts, te, wd, nm) u_61 := hu_61
          have hn_61 := take_no hu_61 (fun q9 => absurd q9.1 (by decide))
          subst hn_61
          have hP : va_P D vwCl [(ma 1, iE cI 382 (enc g lf)), (ma 0, oE 7 [.ref (ma 1), .ref (ma 2), .int (fi 0), .ref (ma 3), .ref (ma 4), .int (nI L), .int (nI te), .int (nI ts), .long (wd), .int (nm), .int (1)]), (ma 4, iE cB 120 (bt f))] H := hP
          have hD : va_D A [(ma 1, iE cI 382 (enc g lf)), (ma 0, oE 7 [.ref (ma 1), .ref (ma 2), .int (fi 0), .ref (ma 3), .ref (ma 4), .int (nI L), .int (nI te), .int (nI ts), .long (wd), .int (nm), .int (1)]), (ma 4, iE cB 120 (bt f))] := hD
          refine lv_aload_n hx hb dX7_readsBay_123 rfl (lv_at hl 3 rfl) ?_
          refine va_get (D := D) (ci := 7) (v := .int (1)) (C := RX7) (T := TX7) (N := 11) hx hb hts (by decide +kernel) hown hK.1 hP 1 rfl rfl 10 (by decide) (hts (.fieldLink RX7 102 "ParkingGarageModel" "isWrong" "Z") (by decide +kernel)) (fun _ h9 => h9) rfl dX7_readsBay_124 ?_
          refine if_ne_t (tgt := 143) hx hb (by decide) dX7_readsBay_127 (by decide) ?_
          exact wr_vret (((tk, ts, te, wd, nm), 1, g)) hx hb hr hlocks hS hP hD [1, 0, 2] rfl rfl (by decide) dX7_readsBay_143 (⟨htk, Or.inl ⟨rfl, Or.inl ⟨hn30, rfl⟩⟩⟩)
        · -- X7_isTaken f
          refine if_ne_f (tgt := 119) hx hb rfl dX7_readsBay_112 (by decide) ?_
          refine lv_iconst (v := 1) hx hb dX7_readsBay_115 (by decide) ?_
          refine lv_goto (tgt := 120) hx hb dX7_readsBay_116 (by decide) ?_
          refine cv_wv (As := [.int (1)]) (rest := []) (tys := TYS cI cC cB cS) (ci := 7) (wr := [(ma 1, iE cI 382 (enc g lf))]) ⟨hx, hb, hml, hown, hts⟩ (c_X7_takes l D cI cC cB cS _ (ma) (fi) (wd) (L) (f) (tk) (ts) (te) (nm) (1) (1) (hL) (hch) (by omega) ((Or.inr rfl)) ((Or.inr rfl))) (cwV 1 hts gX7_readsBay_X7_takes rfl rfl rfl (by decide +kernel) ⟨Nat.le_of_ble_eq_true rfl, Nat.le_of_ble_eq_true rfl⟩) hK hP hD hS hA [1, 2] [0] rfl rfl (by decide) (by decide) (by decide) rfl rfl rfl rfl hl.1 (Nat.le_of_ble_eq_true rfl) dX7_readsBay_120 ⟨Nat.le_of_ble_eq_true rfl, Nat.le_of_ble_eq_true rfl⟩ (fun u_63 H locs hu_63 hP hD hS => ?_)
          have hP : va_P D vwCl [(ma 1, iE cI 382 (enc g lf)), (ma 0, oE 7 [.ref (ma 1), .ref (ma 2), .int (fi 0), .ref (ma 3), .ref (ma 4), .int (nI L), .int (nI u_63.1.2.2.1), .int (nI u_63.1.2.1), .long (u_63.1.2.2.2.1), .int (u_63.1.2.2.2.2), .int (u_63.2)]), (ma 4, iE cB 120 (bt f))] H := hP
          have hD : va_D A [(ma 1, iE cI 382 (enc g lf)), (ma 0, oE 7 [.ref (ma 1), .ref (ma 2), .int (fi 0), .ref (ma 3), .ref (ma 4), .int (nI L), .int (nI u_63.1.2.2.1), .int (nI u_63.1.2.1), .long (u_63.1.2.2.2.1), .int (u_63.1.2.2.2.2), .int (u_63.2)]), (ma 4, iE cB 120 (bt f))] := hD
          have hu_63 : TakeR f L (1) (1) (tk, ts, te, wd, nm) u_63 := hu_63
          have hn_63 := take_no hu_63 (fun q9 => absurd q9.1 (by decide))
          subst hn_63
          have hP : va_P D vwCl [(ma 1, iE cI 382 (enc g lf)), (ma 0, oE 7 [.ref (ma 1), .ref (ma 2), .int (fi 0), .ref (ma 3), .ref (ma 4), .int (nI L), .int (nI te), .int (nI ts), .long (wd), .int (nm), .int (1)]), (ma 4, iE cB 120 (bt f))] H := hP
          have hD : va_D A [(ma 1, iE cI 382 (enc g lf)), (ma 0, oE 7 [.ref (ma 1), .ref (ma 2), .int (fi 0), .ref (ma 3), .ref (ma 4), .int (nI L), .int (nI te), .int (nI ts), .long (wd), .int (nm), .int (1)]), (ma 4, iE cB 120 (bt f))] := hD
          refine lv_aload_n hx hb dX7_readsBay_123 rfl (lv_at hl 3 rfl) ?_
          refine va_get (D := D) (ci := 7) (v := .int (1)) (C := RX7) (T := TX7) (N := 11) hx hb hts (by decide +kernel) hown hK.1 hP 1 rfl rfl 10 (by decide) (hts (.fieldLink RX7 102 "ParkingGarageModel" "isWrong" "Z") (by decide +kernel)) (fun _ h9 => h9) rfl dX7_readsBay_124 ?_
          refine if_ne_t (tgt := 143) hx hb (by decide) dX7_readsBay_127 (by decide) ?_
          exact wr_vret (((tk, ts, te, wd, nm), 1, g)) hx hb hr hlocks hS hP hD [1, 0, 2] rfl rfl (by decide) dX7_readsBay_143 (⟨htk, Or.inl ⟨rfl, Or.inl ⟨hn30, rfl⟩⟩⟩)
      · -- X7_in f
        refine if_eq_t (tgt := 119) hx hb rfl dX7_readsBay_103 (by decide) ?_
        refine lv_iconst (v := 0) hx hb dX7_readsBay_119 (by decide) ?_
        refine cv_wv (As := [.int (0)]) (rest := []) (tys := TYS cI cC cB cS) (ci := 7) (wr := [(ma 1, iE cI 382 (enc g lf))]) ⟨hx, hb, hml, hown, hts⟩ (c_X7_takes l D cI cC cB cS _ (ma) (fi) (wd) (L) (f) (tk) (ts) (te) (nm) (1) (0) (hL) (hch) (by omega) ((Or.inr rfl)) ((Or.inl rfl))) (cwV 1 hts gX7_readsBay_X7_takes rfl rfl rfl (by decide +kernel) ⟨Nat.le_of_ble_eq_true rfl, Nat.le_of_ble_eq_true rfl⟩) hK hP hD hS hA [1, 2] [0] rfl rfl (by decide) (by decide) (by decide) rfl rfl rfl rfl hl.1 (Nat.le_of_ble_eq_true rfl) dX7_readsBay_120 ⟨Nat.le_of_ble_eq_true rfl, Nat.le_of_ble_eq_true rfl⟩ (fun u_65 H locs hu_65 hP hD hS => ?_)
        have hP : va_P D vwCl [(ma 1, iE cI 382 (enc g lf)), (ma 0, oE 7 [.ref (ma 1), .ref (ma 2), .int (fi 0), .ref (ma 3), .ref (ma 4), .int (nI L), .int (nI u_65.1.2.2.1), .int (nI u_65.1.2.1), .long (u_65.1.2.2.2.1), .int (u_65.1.2.2.2.2), .int (u_65.2)]), (ma 4, iE cB 120 (bt f))] H := hP
        have hD : va_D A [(ma 1, iE cI 382 (enc g lf)), (ma 0, oE 7 [.ref (ma 1), .ref (ma 2), .int (fi 0), .ref (ma 3), .ref (ma 4), .int (nI L), .int (nI u_65.1.2.2.1), .int (nI u_65.1.2.1), .long (u_65.1.2.2.2.1), .int (u_65.1.2.2.2.2), .int (u_65.2)]), (ma 4, iE cB 120 (bt f))] := hD
        have hu_65 : TakeR f L (1) (0) (tk, ts, te, wd, nm) u_65 := hu_65
        have hn_65 := take_no hu_65 (fun q9 => absurd q9.1 (by decide))
        subst hn_65
        have hP : va_P D vwCl [(ma 1, iE cI 382 (enc g lf)), (ma 0, oE 7 [.ref (ma 1), .ref (ma 2), .int (fi 0), .ref (ma 3), .ref (ma 4), .int (nI L), .int (nI te), .int (nI ts), .long (wd), .int (nm), .int (1)]), (ma 4, iE cB 120 (bt f))] H := hP
        have hD : va_D A [(ma 1, iE cI 382 (enc g lf)), (ma 0, oE 7 [.ref (ma 1), .ref (ma 2), .int (fi 0), .ref (ma 3), .ref (ma 4), .int (nI L), .int (nI te), .int (nI ts), .long (wd), .int (nm), .int (1)]), (ma 4, iE cB 120 (bt f))] := hD
        refine lv_aload_n hx hb dX7_readsBay_123 rfl (lv_at hl 3 rfl) ?_
        refine va_get (D := D) (ci := 7) (v := .int (1)) (C := RX7) (T := TX7) (N := 11) hx hb hts (by decide +kernel) hown hK.1 hP 1 rfl rfl 10 (by decide) (hts (.fieldLink RX7 102 "ParkingGarageModel" "isWrong" "Z") (by decide +kernel)) (fun _ h9 => h9) rfl dX7_readsBay_124 ?_
        refine if_ne_t (tgt := 143) hx hb (by decide) dX7_readsBay_127 (by decide) ?_
        exact wr_vret (((tk, ts, te, wd, nm), 1, g)) hx hb hr hlocks hS hP hD [1, 0, 2] rfl rfl (by decide) dX7_readsBay_143 (⟨htk, Or.inl ⟨rfl, Or.inl ⟨hn30, rfl⟩⟩⟩)
  · -- c_1: not nI n ≥ 30
    have hn30 : ¬ n = 30 := fun q => c_1 (by rw [q]; decide)
    have hnf : n < 30 := by omega
    refine lv_iconst (v := 1) hx hb dX7_readsBay_12 (by decide) ?_
    refine lv_goto (tgt := 17) hx hb dX7_readsBay_13 (by decide) ?_
    refine cv_wv (As := [.int (1)]) (rest := []) (tys := TYS cI cC cB cS) (ci := 7) (wr := [(ma 1, iE cI 382 (enc g lf))]) ⟨hx, hb, hml, hown, hts⟩ (c_X7_takes l D cI cC cB cS _ (ma) (fi) (wd) (L) (f) (tk) (ts) (te) (nm) (0) (1) (hL) (hch) (by omega) ((Or.inl rfl)) ((Or.inr rfl))) (cwV 1 hts gX7_readsBay_X7_takes rfl rfl rfl (by decide +kernel) ⟨Nat.le_of_ble_eq_true rfl, Nat.le_of_ble_eq_true rfl⟩) hK hP hD hS hA [0, 2] [1] rfl rfl (by decide) (by decide) (by decide) rfl rfl rfl rfl hl.1 (Nat.le_of_ble_eq_true rfl) dX7_readsBay_17 ⟨Nat.le_of_ble_eq_true rfl, Nat.le_of_ble_eq_true rfl⟩ (fun u_67 H locs hu_67 hP hD hS => ?_)
    have hP : va_P D vwCl [(ma 1, iE cI 382 (enc g lf)), (ma 0, oE 7 [.ref (ma 1), .ref (ma 2), .int (fi 0), .ref (ma 3), .ref (ma 4), .int (nI L), .int (nI u_67.1.2.2.1), .int (nI u_67.1.2.1), .long (u_67.1.2.2.2.1), .int (u_67.1.2.2.2.2), .int (u_67.2)]), (ma 4, iE cB 120 (bt f))] H := hP
    have hD : va_D A [(ma 1, iE cI 382 (enc g lf)), (ma 0, oE 7 [.ref (ma 1), .ref (ma 2), .int (fi 0), .ref (ma 3), .ref (ma 4), .int (nI L), .int (nI u_67.1.2.2.1), .int (nI u_67.1.2.1), .long (u_67.1.2.2.2.1), .int (u_67.1.2.2.2.2), .int (u_67.2)]), (ma 4, iE cB 120 (bt f))] := hD
    have hu_67 : TakeR f L (0) (1) (tk, ts, te, wd, nm) u_67 := hu_67
    obtain ⟨⟨k9_67, s9_67, e9_67, w9_67, m9_67⟩, z9_67⟩ := u_67
    obtain ⟨hz_67, hg_67⟩ := take_yes hu_67
    have hz_67 : z9_67 = 0 := hz_67
    subst hz_67
    have htok_67 : Tok f L te k9_67 s9_67 e9_67 := hg_67.1
    have hwd_67 : WdOf f k9_67 s9_67 e9_67 w9_67 := hg_67.2.1
    have hnm_67 : NmOf f k9_67 s9_67 e9_67 m9_67 := hg_67.2.2
    have hle_67 := htok_67.le (by omega)
    have heL_67 : e9_67 ≤ L := hle_67.2.2.1
    have hP : va_P D vwCl [(ma 1, iE cI 382 (enc g lf)), (ma 0, oE 7 [.ref (ma 1), .ref (ma 2), .int (fi 0), .ref (ma 3), .ref (ma 4), .int (nI L), .int (nI e9_67), .int (nI s9_67), .long (w9_67), .int (m9_67), .int (0)]), (ma 4, iE cB 120 (bt f))] H := hP
    have hD : va_D A [(ma 1, iE cI 382 (enc g lf)), (ma 0, oE 7 [.ref (ma 1), .ref (ma 2), .int (fi 0), .ref (ma 3), .ref (ma 4), .int (nI L), .int (nI e9_67), .int (nI s9_67), .long (w9_67), .int (m9_67), .int (0)]), (ma 4, iE cB 120 (bt f))] := hD
    refine lv_aload_n hx hb dX7_readsBay_20 rfl (lv_at hl 0 rfl) ?_
    refine va_get (D := D) (ci := 7) (v := .long (w9_67)) (C := RX7) (T := TX7) (N := 11) hx hb hts (by decide +kernel) hown hK.1 hP 1 rfl rfl 8 (by decide) (hts (.fieldLink RX7 91 "ParkingGarageModel" "word" "J") (by decide +kernel)) (fun _ h9 => h9) rfl dX7_readsBay_21 ?_
    refine lv_ldc2 (v := 10354323) hx hb hown (hts (.constantLong RX7 113 10354323) (by decide +kernel)) dX7_readsBay_24 ?_
    refine W.lcmp hx hb dX7_readsBay_27 ?_
    refine lv_if_ne (tgt := 35) hx hb dX7_readsBay_28 (by decide) (fun c_69 => ?_) (fun c_69 => ?_)
    · -- c_69: lg_cmp (w9_67) (10354323) ≠ 0
      have hV_4_67 : ¬ Wrd f k9_67 s9_67 e9_67 4 := fun q => c_69 (cmp_eq.mpr ((hwd_67 4 (by decide)).mpr q))
      refine lv_aload_n hx hb dX7_readsBay_35 rfl (lv_at hl 0 rfl) ?_
      refine va_get (D := D) (ci := 7) (v := .long (w9_67)) (C := RX7) (T := TX7) (N := 11) hx hb hts (by decide +kernel) hown hK.1 hP 1 rfl rfl 8 (by decide) (hts (.fieldLink RX7 91 "ParkingGarageModel" "word" "J") (by decide +kernel)) (fun _ h9 => h9) rfl dX7_readsBay_36 ?_
      refine lv_ldc2 (v := 189278869) hx hb hown (hts (.constantLong RX7 115 189278869) (by decide +kernel)) dX7_readsBay_39 ?_
      refine W.lcmp hx hb dX7_readsBay_42 ?_
      refine lv_if_ne (tgt := 50) hx hb dX7_readsBay_43 (by decide) (fun c_70 => ?_) (fun c_70 => ?_)
      · -- c_70: lg_cmp (w9_67) (189278869) ≠ 0
        have hV_5_67 : ¬ Wrd f k9_67 s9_67 e9_67 5 := fun q => c_70 (cmp_eq.mpr ((hwd_67 5 (by decide)).mpr q))
        refine lv_aload_n hx hb dX7_readsBay_50 rfl (lv_at hl 0 rfl) ?_
        refine va_get (D := D) (ci := 7) (v := .long (w9_67)) (C := RX7) (T := TX7) (N := 11) hx hb hts (by decide +kernel) hown hK.1 hP 1 rfl rfl 8 (by decide) (hts (.fieldLink RX7 91 "ParkingGarageModel" "word" "J") (by decide +kernel)) (fun _ h9 => h9) rfl dX7_readsBay_51 ?_
        refine lv_ldc2 (v := 6410291) hx hb hown (hts (.constantLong RX7 117 6410291) (by decide +kernel)) dX7_readsBay_54 ?_
        refine W.lcmp hx hb dX7_readsBay_57 ?_
        refine lv_if_ne (tgt := 65) hx hb dX7_readsBay_58 (by decide) (fun c_71 => ?_) (fun c_71 => ?_)
        · -- c_71: lg_cmp (w9_67) (6410291) ≠ 0
          have hV_6_67 : ¬ Wrd f k9_67 s9_67 e9_67 6 := fun q => c_71 (cmp_eq.mpr ((hwd_67 6 (by decide)).mpr q))
          refine lv_bipush (v := -9) hx hb dX7_readsBay_65 (by decide) ?_
          refine lv_istore_n (lv' := [(1, .int (-9)), (0, .ref (ma 0))]) hx hb dX7_readsBay_67 rfl hl (by decide) rfl (fun ls hl => ?_)
          refine lv_aload_n hx hb dX7_readsBay_68 rfl (lv_at hl 1 rfl) ?_
          refine lv_iload_n hx hb dX7_readsBay_69 rfl (lv_at hl 0 rfl) ?_
          refine lv_bipush (v := -9) hx hb dX7_readsBay_70 (by decide) ?_
          refine lv_icmp_eq (tgt := 79) hx hb dX7_readsBay_72 (by decide) (fun _ => ?_) (fun c => absurd (by decide) c)
          refine lv_iconst (v := 0) hx hb dX7_readsBay_79 (by decide) ?_
          refine cv_wv (As := [.int (0)]) (rest := []) (tys := TYS cI cC cB cS) (ci := 7) (wr := [(ma 1, iE cI 382 (enc g lf))]) ⟨hx, hb, hml, hown, hts⟩ (c_X7_takes l D cI cC cB cS _ (ma) (fi) (w9_67) (L) (f) (k9_67) (s9_67) (e9_67) (m9_67) (0) (0) (hL) (hch) (by omega) ((Or.inl rfl)) ((Or.inl rfl))) (cwV 1 hts gX7_readsBay_X7_takes rfl rfl rfl (by decide +kernel) ⟨Nat.le_of_ble_eq_true rfl, Nat.le_of_ble_eq_true rfl⟩) hK hP hD hS hA [1, 2] [0] rfl rfl (by decide) (by decide) (by decide) rfl rfl rfl rfl hl.1 (Nat.le_of_ble_eq_true rfl) dX7_readsBay_80 ⟨Nat.le_of_ble_eq_true rfl, Nat.le_of_ble_eq_true rfl⟩ (fun u_72 H locs hu_72 hP hD hS => ?_)
          have hP : va_P D vwCl [(ma 1, iE cI 382 (enc g lf)), (ma 0, oE 7 [.ref (ma 1), .ref (ma 2), .int (fi 0), .ref (ma 3), .ref (ma 4), .int (nI L), .int (nI u_72.1.2.2.1), .int (nI u_72.1.2.1), .long (u_72.1.2.2.2.1), .int (u_72.1.2.2.2.2), .int (u_72.2)]), (ma 4, iE cB 120 (bt f))] H := hP
          have hD : va_D A [(ma 1, iE cI 382 (enc g lf)), (ma 0, oE 7 [.ref (ma 1), .ref (ma 2), .int (fi 0), .ref (ma 3), .ref (ma 4), .int (nI L), .int (nI u_72.1.2.2.1), .int (nI u_72.1.2.1), .long (u_72.1.2.2.2.1), .int (u_72.1.2.2.2.2), .int (u_72.2)]), (ma 4, iE cB 120 (bt f))] := hD
          have hu_72 : TakeR f L (0) (0) (k9_67, s9_67, e9_67, w9_67, m9_67) u_72 := hu_72
          have hn_72 := take_no hu_72 (fun q9 => absurd q9.2 (by decide))
          subst hn_72
          have hP : va_P D vwCl [(ma 1, iE cI 382 (enc g lf)), (ma 0, oE 7 [.ref (ma 1), .ref (ma 2), .int (fi 0), .ref (ma 3), .ref (ma 4), .int (nI L), .int (nI e9_67), .int (nI s9_67), .long (w9_67), .int (m9_67), .int (1)]), (ma 4, iE cB 120 (bt f))] H := hP
          have hD : va_D A [(ma 1, iE cI 382 (enc g lf)), (ma 0, oE 7 [.ref (ma 1), .ref (ma 2), .int (fi 0), .ref (ma 3), .ref (ma 4), .int (nI L), .int (nI e9_67), .int (nI s9_67), .long (w9_67), .int (m9_67), .int (1)]), (ma 4, iE cB 120 (bt f))] := hD
          refine lv_aload_n hx hb dX7_readsBay_83 rfl (lv_at hl 1 rfl) ?_
          refine lv_iconst (v := 0) hx hb dX7_readsBay_84 (by decide) ?_
          refine lv_iconst (v := 4) hx hb dX7_readsBay_85 (by decide) ?_
          refine cv_wi (As := [.int (0), .int (4)]) (rest := []) (tys := TYS cI cC cB cS) (ci := 7) (wr := [(ma 1, iE cI 382 (enc g lf))]) ⟨hx, hb, hml, hown, hts⟩ (c_X7_takesNumber l D cI cC cB cS _ (ma) (fi) (w9_67) (L) (f) (k9_67) (s9_67) (e9_67) (m9_67) (1) (0) (4) (hL) (hch) (by omega) ((Or.inr rfl))) (cwV 2 hts gX7_readsBay_X7_takesNumber rfl rfl rfl (by decide +kernel) ⟨Nat.le_of_ble_eq_true rfl, Nat.le_of_ble_eq_true rfl⟩) hK hP hD hS hA [1, 2] [0] rfl rfl (by decide) (by decide) (by decide) rfl rfl rfl rfl hl.1 (Nat.le_of_ble_eq_true rfl) dX7_readsBay_86 ⟨Nat.le_of_ble_eq_true rfl, Nat.le_of_ble_eq_true rfl⟩ (fun r_75 u_74 H locs hu_74 hP hD hS => ?_)
          have hP : va_P D vwCl [(ma 1, iE cI 382 (enc g lf)), (ma 0, oE 7 [.ref (ma 1), .ref (ma 2), .int (fi 0), .ref (ma 3), .ref (ma 4), .int (nI L), .int (nI u_74.1.2.2.1), .int (nI u_74.1.2.1), .long (u_74.1.2.2.2.1), .int (u_74.1.2.2.2.2), .int (u_74.2)]), (ma 4, iE cB 120 (bt f))] H := hP
          have hD : va_D A [(ma 1, iE cI 382 (enc g lf)), (ma 0, oE 7 [.ref (ma 1), .ref (ma 2), .int (fi 0), .ref (ma 3), .ref (ma 4), .int (nI L), .int (nI u_74.1.2.2.1), .int (nI u_74.1.2.1), .long (u_74.1.2.2.2.1), .int (u_74.1.2.2.2.2), .int (u_74.2)]), (ma 4, iE cB 120 (bt f))] := hD
          have hu_74 : TakeN f L 0 4 (1) (k9_67, s9_67, e9_67, w9_67, m9_67) r_75 u_74 := hu_74
          have hn_75 := takeN_wrong hu_74
          subst hn_75
          have hP : va_P D vwCl [(ma 1, iE cI 382 (enc g lf)), (ma 0, oE 7 [.ref (ma 1), .ref (ma 2), .int (fi 0), .ref (ma 3), .ref (ma 4), .int (nI L), .int (nI e9_67), .int (nI s9_67), .long (w9_67), .int (m9_67), .int (1)]), (ma 4, iE cB 120 (bt f))] H := hP
          have hD : va_D A [(ma 1, iE cI 382 (enc g lf)), (ma 0, oE 7 [.ref (ma 1), .ref (ma 2), .int (fi 0), .ref (ma 3), .ref (ma 4), .int (nI L), .int (nI e9_67), .int (nI s9_67), .long (w9_67), .int (m9_67), .int (1)]), (ma 4, iE cB 120 (bt f))] := hD
          refine lv_istore_n (lv' := [(2, .int (r_75)), (1, .int (-9)), (0, .ref (ma 0))]) hx hb dX7_readsBay_89 rfl hl (by decide) rfl (fun ls hl => ?_)
          refine lv_aload_n hx hb dX7_readsBay_90 rfl (lv_at hl 2 rfl) ?_
          refine va_get (D := D) (ci := 7) (v := .int (m9_67)) (C := RX7) (T := TX7) (N := 11) hx hb hts (by decide +kernel) hown hK.1 hP 1 rfl rfl 9 (by decide) (hts (.fieldLink RX7 95 "ParkingGarageModel" "number" "I") (by decide +kernel)) (fun _ h9 => h9) rfl dX7_readsBay_91 ?_
          refine lv_istore_n (lv' := [(3, .int (m9_67)), (2, .int (r_75)), (1, .int (-9)), (0, .ref (ma 0))]) hx hb dX7_readsBay_94 rfl hl (by decide) rfl (fun ls hl => ?_)
          refine lv_aload_n hx hb dX7_readsBay_95 rfl (lv_at hl 3 rfl) ?_
          refine lv_iload_n hx hb dX7_readsBay_96 rfl (lv_at hl 0 rfl) ?_
          refine lv_iconst (v := 0) hx hb dX7_readsBay_97 (by decide) ?_
          refine lv_bipush (v := 99) hx hb dX7_readsBay_98 (by decide) ?_
          refine cs_i (As := [.int (m9_67), .int (0), .int (99)]) (rest := [.ref (ma 0)]) (tys := TYS cI cC cB cS) ⟨hx, hb, hml, hown, hts⟩ (c_X7_in l D cI cC cB cS (m9_67) (0) (99)) (va_cwS 3 hts gX7_readsBay_X7_in rfl rfl rfl (by decide +kernel) ⟨Nat.le_of_ble_eq_true rfl, Nat.le_of_ble_eq_true rfl⟩) hK hP [] rfl rfl rfl hl.1 (Nat.le_of_ble_eq_true rfl) dX7_readsBay_100 ⟨Nat.le_of_ble_eq_true rfl, Nat.le_of_ble_eq_true rfl⟩ (fun r_77 hr_77 => ?_)
          rcases (show Yes (0 ≤ m9_67 ∧ m9_67 ≤ 99) r_77 from hr_77) with ⟨rfl, h_78⟩ | ⟨rfl, h_78⟩
          · -- X7_in t
            refine if_eq_f (tgt := 119) hx hb (by decide) dX7_readsBay_103 (by decide) ?_
            refine lv_aload_n hx hb dX7_readsBay_106 rfl (lv_at hl 3 rfl) ?_
            refine lv_iload_n hx hb dX7_readsBay_107 rfl (lv_at hl 1 rfl) ?_
            refine lv_iload_n hx hb dX7_readsBay_108 rfl (lv_at hl 0 rfl) ?_
            refine cv_i (As := [.int (r_75), .int (m9_67)]) (rest := [.ref (ma 0)]) (tys := TYS cI cC cB cS) (ci := 7) ⟨hx, hb, hml, hown, hts⟩ (c_X7_isTaken l D cI cC cB cS (ma) ((fun j => [fi 0, nI L, nI e9_67, nI s9_67, m9_67, 1].getD j 0)) (w9_67) (g) (lf) (n) (r_75) (m9_67) (hn) (hnb)) (cwV 2 hts gX7_readsBay_X7_isTaken rfl rfl rfl (by decide +kernel) ⟨Nat.le_of_ble_eq_true rfl, Nat.le_of_ble_eq_true rfl⟩) hK hP [1, 0] rfl rfl rfl rfl rfl hl.1 (Nat.le_of_ble_eq_true rfl) dX7_readsBay_109 ⟨Nat.le_of_ble_eq_true rfl, Nat.le_of_ble_eq_true rfl⟩ (fun r_79 hr_79 => ?_)
            rcases (show Yes (∃ w, w < n ∧ g 4 w = r_75 ∧ g 5 w = m9_67) r_79 from hr_79) with ⟨rfl, h_80⟩ | ⟨rfl, h_80⟩
            · -- X7_isTaken t
              refine if_ne_t (tgt := 119) hx hb (by decide) dX7_readsBay_112 (by decide) ?_
              refine lv_iconst (v := 0) hx hb dX7_readsBay_119 (by decide) ?_
              refine cv_wv (As := [.int (0)]) (rest := []) (tys := TYS cI cC cB cS) (ci := 7) (wr := [(ma 1, iE cI 382 (enc g lf))]) ⟨hx, hb, hml, hown, hts⟩ (c_X7_takes l D cI cC cB cS _ (ma) (fi) (w9_67) (L) (f) (k9_67) (s9_67) (e9_67) (m9_67) (1) (0) (hL) (hch) (by omega) ((Or.inr rfl)) ((Or.inl rfl))) (cwV 1 hts gX7_readsBay_X7_takes rfl rfl rfl (by decide +kernel) ⟨Nat.le_of_ble_eq_true rfl, Nat.le_of_ble_eq_true rfl⟩) hK hP hD hS hA [1, 2] [0] rfl rfl (by decide) (by decide) (by decide) rfl rfl rfl rfl hl.1 (Nat.le_of_ble_eq_true rfl) dX7_readsBay_120 ⟨Nat.le_of_ble_eq_true rfl, Nat.le_of_ble_eq_true rfl⟩ (fun u_81 H locs hu_81 hP hD hS => ?_)
              have hP : va_P D vwCl [(ma 1, iE cI 382 (enc g lf)), (ma 0, oE 7 [.ref (ma 1), .ref (ma 2), .int (fi 0), .ref (ma 3), .ref (ma 4), .int (nI L), .int (nI u_81.1.2.2.1), .int (nI u_81.1.2.1), .long (u_81.1.2.2.2.1), .int (u_81.1.2.2.2.2), .int (u_81.2)]), (ma 4, iE cB 120 (bt f))] H := hP
              have hD : va_D A [(ma 1, iE cI 382 (enc g lf)), (ma 0, oE 7 [.ref (ma 1), .ref (ma 2), .int (fi 0), .ref (ma 3), .ref (ma 4), .int (nI L), .int (nI u_81.1.2.2.1), .int (nI u_81.1.2.1), .long (u_81.1.2.2.2.1), .int (u_81.1.2.2.2.2), .int (u_81.2)]), (ma 4, iE cB 120 (bt f))] := hD
              have hu_81 : TakeR f L (1) (0) (k9_67, s9_67, e9_67, w9_67, m9_67) u_81 := hu_81
              have hn_81 := take_no hu_81 (fun q9 => absurd q9.1 (by decide))
              subst hn_81
              have hP : va_P D vwCl [(ma 1, iE cI 382 (enc g lf)), (ma 0, oE 7 [.ref (ma 1), .ref (ma 2), .int (fi 0), .ref (ma 3), .ref (ma 4), .int (nI L), .int (nI e9_67), .int (nI s9_67), .long (w9_67), .int (m9_67), .int (1)]), (ma 4, iE cB 120 (bt f))] H := hP
              have hD : va_D A [(ma 1, iE cI 382 (enc g lf)), (ma 0, oE 7 [.ref (ma 1), .ref (ma 2), .int (fi 0), .ref (ma 3), .ref (ma 4), .int (nI L), .int (nI e9_67), .int (nI s9_67), .long (w9_67), .int (m9_67), .int (1)]), (ma 4, iE cB 120 (bt f))] := hD
              refine lv_aload_n hx hb dX7_readsBay_123 rfl (lv_at hl 3 rfl) ?_
              refine va_get (D := D) (ci := 7) (v := .int (1)) (C := RX7) (T := TX7) (N := 11) hx hb hts (by decide +kernel) hown hK.1 hP 1 rfl rfl 10 (by decide) (hts (.fieldLink RX7 102 "ParkingGarageModel" "isWrong" "Z") (by decide +kernel)) (fun _ h9 => h9) rfl dX7_readsBay_124 ?_
              refine if_ne_t (tgt := 143) hx hb (by decide) dX7_readsBay_127 (by decide) ?_
              exact wr_vret (((k9_67, s9_67, e9_67, w9_67, m9_67), 1, g)) hx hb hr hlocks hS hP hD [1, 0, 2] rfl rfl (by decide) dX7_readsBay_143 (⟨⟨te, by omega, htok_67, hwd_67, hnm_67⟩, Or.inl ⟨rfl, Or.inr ⟨hn30, k9_67, s9_67, e9_67, -1, htok_67, Or.inr ⟨hV_4_67, Or.inr ⟨hV_5_67, Or.inr ⟨hV_6_67, rfl⟩⟩⟩, Or.inl ⟨rfl, rfl⟩⟩⟩⟩)
            · -- X7_isTaken f
              refine if_ne_f (tgt := 119) hx hb rfl dX7_readsBay_112 (by decide) ?_
              refine lv_iconst (v := 1) hx hb dX7_readsBay_115 (by decide) ?_
              refine lv_goto (tgt := 120) hx hb dX7_readsBay_116 (by decide) ?_
              refine cv_wv (As := [.int (1)]) (rest := []) (tys := TYS cI cC cB cS) (ci := 7) (wr := [(ma 1, iE cI 382 (enc g lf))]) ⟨hx, hb, hml, hown, hts⟩ (c_X7_takes l D cI cC cB cS _ (ma) (fi) (w9_67) (L) (f) (k9_67) (s9_67) (e9_67) (m9_67) (1) (1) (hL) (hch) (by omega) ((Or.inr rfl)) ((Or.inr rfl))) (cwV 1 hts gX7_readsBay_X7_takes rfl rfl rfl (by decide +kernel) ⟨Nat.le_of_ble_eq_true rfl, Nat.le_of_ble_eq_true rfl⟩) hK hP hD hS hA [1, 2] [0] rfl rfl (by decide) (by decide) (by decide) rfl rfl rfl rfl hl.1 (Nat.le_of_ble_eq_true rfl) dX7_readsBay_120 ⟨Nat.le_of_ble_eq_true rfl, Nat.le_of_ble_eq_true rfl⟩ (fun u_83 H locs hu_83 hP hD hS => ?_)
              have hP : va_P D vwCl [(ma 1, iE cI 382 (enc g lf)), (ma 0, oE 7 [.ref (ma 1), .ref (ma 2), .int (fi 0), .ref (ma 3), .ref (ma 4), .int (nI L), .int (nI u_83.1.2.2.1), .int (nI u_83.1.2.1), .long (u_83.1.2.2.2.1), .int (u_83.1.2.2.2.2), .int (u_83.2)]), (ma 4, iE cB 120 (bt f))] H := hP
              have hD : va_D A [(ma 1, iE cI 382 (enc g lf)), (ma 0, oE 7 [.ref (ma 1), .ref (ma 2), .int (fi 0), .ref (ma 3), .ref (ma 4), .int (nI L), .int (nI u_83.1.2.2.1), .int (nI u_83.1.2.1), .long (u_83.1.2.2.2.1), .int (u_83.1.2.2.2.2), .int (u_83.2)]), (ma 4, iE cB 120 (bt f))] := hD
              have hu_83 : TakeR f L (1) (1) (k9_67, s9_67, e9_67, w9_67, m9_67) u_83 := hu_83
              have hn_83 := take_no hu_83 (fun q9 => absurd q9.1 (by decide))
              subst hn_83
              have hP : va_P D vwCl [(ma 1, iE cI 382 (enc g lf)), (ma 0, oE 7 [.ref (ma 1), .ref (ma 2), .int (fi 0), .ref (ma 3), .ref (ma 4), .int (nI L), .int (nI e9_67), .int (nI s9_67), .long (w9_67), .int (m9_67), .int (1)]), (ma 4, iE cB 120 (bt f))] H := hP
              have hD : va_D A [(ma 1, iE cI 382 (enc g lf)), (ma 0, oE 7 [.ref (ma 1), .ref (ma 2), .int (fi 0), .ref (ma 3), .ref (ma 4), .int (nI L), .int (nI e9_67), .int (nI s9_67), .long (w9_67), .int (m9_67), .int (1)]), (ma 4, iE cB 120 (bt f))] := hD
              refine lv_aload_n hx hb dX7_readsBay_123 rfl (lv_at hl 3 rfl) ?_
              refine va_get (D := D) (ci := 7) (v := .int (1)) (C := RX7) (T := TX7) (N := 11) hx hb hts (by decide +kernel) hown hK.1 hP 1 rfl rfl 10 (by decide) (hts (.fieldLink RX7 102 "ParkingGarageModel" "isWrong" "Z") (by decide +kernel)) (fun _ h9 => h9) rfl dX7_readsBay_124 ?_
              refine if_ne_t (tgt := 143) hx hb (by decide) dX7_readsBay_127 (by decide) ?_
              exact wr_vret (((k9_67, s9_67, e9_67, w9_67, m9_67), 1, g)) hx hb hr hlocks hS hP hD [1, 0, 2] rfl rfl (by decide) dX7_readsBay_143 (⟨⟨te, by omega, htok_67, hwd_67, hnm_67⟩, Or.inl ⟨rfl, Or.inr ⟨hn30, k9_67, s9_67, e9_67, -1, htok_67, Or.inr ⟨hV_4_67, Or.inr ⟨hV_5_67, Or.inr ⟨hV_6_67, rfl⟩⟩⟩, Or.inl ⟨rfl, rfl⟩⟩⟩⟩)
          · -- X7_in f
            refine if_eq_t (tgt := 119) hx hb rfl dX7_readsBay_103 (by decide) ?_
            refine lv_iconst (v := 0) hx hb dX7_readsBay_119 (by decide) ?_
            refine cv_wv (As := [.int (0)]) (rest := []) (tys := TYS cI cC cB cS) (ci := 7) (wr := [(ma 1, iE cI 382 (enc g lf))]) ⟨hx, hb, hml, hown, hts⟩ (c_X7_takes l D cI cC cB cS _ (ma) (fi) (w9_67) (L) (f) (k9_67) (s9_67) (e9_67) (m9_67) (1) (0) (hL) (hch) (by omega) ((Or.inr rfl)) ((Or.inl rfl))) (cwV 1 hts gX7_readsBay_X7_takes rfl rfl rfl (by decide +kernel) ⟨Nat.le_of_ble_eq_true rfl, Nat.le_of_ble_eq_true rfl⟩) hK hP hD hS hA [1, 2] [0] rfl rfl (by decide) (by decide) (by decide) rfl rfl rfl rfl hl.1 (Nat.le_of_ble_eq_true rfl) dX7_readsBay_120 ⟨Nat.le_of_ble_eq_true rfl, Nat.le_of_ble_eq_true rfl⟩ (fun u_85 H locs hu_85 hP hD hS => ?_)
            have hP : va_P D vwCl [(ma 1, iE cI 382 (enc g lf)), (ma 0, oE 7 [.ref (ma 1), .ref (ma 2), .int (fi 0), .ref (ma 3), .ref (ma 4), .int (nI L), .int (nI u_85.1.2.2.1), .int (nI u_85.1.2.1), .long (u_85.1.2.2.2.1), .int (u_85.1.2.2.2.2), .int (u_85.2)]), (ma 4, iE cB 120 (bt f))] H := hP
            have hD : va_D A [(ma 1, iE cI 382 (enc g lf)), (ma 0, oE 7 [.ref (ma 1), .ref (ma 2), .int (fi 0), .ref (ma 3), .ref (ma 4), .int (nI L), .int (nI u_85.1.2.2.1), .int (nI u_85.1.2.1), .long (u_85.1.2.2.2.1), .int (u_85.1.2.2.2.2), .int (u_85.2)]), (ma 4, iE cB 120 (bt f))] := hD
            have hu_85 : TakeR f L (1) (0) (k9_67, s9_67, e9_67, w9_67, m9_67) u_85 := hu_85
            have hn_85 := take_no hu_85 (fun q9 => absurd q9.1 (by decide))
            subst hn_85
            have hP : va_P D vwCl [(ma 1, iE cI 382 (enc g lf)), (ma 0, oE 7 [.ref (ma 1), .ref (ma 2), .int (fi 0), .ref (ma 3), .ref (ma 4), .int (nI L), .int (nI e9_67), .int (nI s9_67), .long (w9_67), .int (m9_67), .int (1)]), (ma 4, iE cB 120 (bt f))] H := hP
            have hD : va_D A [(ma 1, iE cI 382 (enc g lf)), (ma 0, oE 7 [.ref (ma 1), .ref (ma 2), .int (fi 0), .ref (ma 3), .ref (ma 4), .int (nI L), .int (nI e9_67), .int (nI s9_67), .long (w9_67), .int (m9_67), .int (1)]), (ma 4, iE cB 120 (bt f))] := hD
            refine lv_aload_n hx hb dX7_readsBay_123 rfl (lv_at hl 3 rfl) ?_
            refine va_get (D := D) (ci := 7) (v := .int (1)) (C := RX7) (T := TX7) (N := 11) hx hb hts (by decide +kernel) hown hK.1 hP 1 rfl rfl 10 (by decide) (hts (.fieldLink RX7 102 "ParkingGarageModel" "isWrong" "Z") (by decide +kernel)) (fun _ h9 => h9) rfl dX7_readsBay_124 ?_
            refine if_ne_t (tgt := 143) hx hb (by decide) dX7_readsBay_127 (by decide) ?_
            exact wr_vret (((k9_67, s9_67, e9_67, w9_67, m9_67), 1, g)) hx hb hr hlocks hS hP hD [1, 0, 2] rfl rfl (by decide) dX7_readsBay_143 (⟨⟨te, by omega, htok_67, hwd_67, hnm_67⟩, Or.inl ⟨rfl, Or.inr ⟨hn30, k9_67, s9_67, e9_67, -1, htok_67, Or.inr ⟨hV_4_67, Or.inr ⟨hV_5_67, Or.inr ⟨hV_6_67, rfl⟩⟩⟩, Or.inl ⟨rfl, rfl⟩⟩⟩⟩)
        · -- c_71: not lg_cmp (w9_67) (6410291) ≠ 0
          have hW_6_67 : Wrd f k9_67 s9_67 e9_67 6 := (hwd_67 6 (by decide)).mp (cmp_eq.mp c_71)
          refine lv_iconst (v := 2) hx hb dX7_readsBay_61 (by decide) ?_
          refine lv_goto (tgt := 67) hx hb dX7_readsBay_62 (by decide) ?_
          refine lv_istore_n (lv' := [(1, .int (2)), (0, .ref (ma 0))]) hx hb dX7_readsBay_67 rfl hl (by decide) rfl (fun ls hl => ?_)
          refine lv_aload_n hx hb dX7_readsBay_68 rfl (lv_at hl 1 rfl) ?_
          refine lv_iload_n hx hb dX7_readsBay_69 rfl (lv_at hl 0 rfl) ?_
          refine lv_bipush (v := -9) hx hb dX7_readsBay_70 (by decide) ?_
          refine lv_icmp_eq (tgt := 79) hx hb dX7_readsBay_72 (by decide) (fun c => absurd c (by decide)) (fun _ => ?_)
          refine lv_iconst (v := 1) hx hb dX7_readsBay_75 (by decide) ?_
          refine lv_goto (tgt := 80) hx hb dX7_readsBay_76 (by decide) ?_
          refine cv_wv (As := [.int (1)]) (rest := []) (tys := TYS cI cC cB cS) (ci := 7) (wr := [(ma 1, iE cI 382 (enc g lf))]) ⟨hx, hb, hml, hown, hts⟩ (c_X7_takes l D cI cC cB cS _ (ma) (fi) (w9_67) (L) (f) (k9_67) (s9_67) (e9_67) (m9_67) (0) (1) (hL) (hch) (by omega) ((Or.inl rfl)) ((Or.inr rfl))) (cwV 1 hts gX7_readsBay_X7_takes rfl rfl rfl (by decide +kernel) ⟨Nat.le_of_ble_eq_true rfl, Nat.le_of_ble_eq_true rfl⟩) hK hP hD hS hA [1, 2] [0] rfl rfl (by decide) (by decide) (by decide) rfl rfl rfl rfl hl.1 (Nat.le_of_ble_eq_true rfl) dX7_readsBay_80 ⟨Nat.le_of_ble_eq_true rfl, Nat.le_of_ble_eq_true rfl⟩ (fun u_87 H locs hu_87 hP hD hS => ?_)
          have hP : va_P D vwCl [(ma 1, iE cI 382 (enc g lf)), (ma 0, oE 7 [.ref (ma 1), .ref (ma 2), .int (fi 0), .ref (ma 3), .ref (ma 4), .int (nI L), .int (nI u_87.1.2.2.1), .int (nI u_87.1.2.1), .long (u_87.1.2.2.2.1), .int (u_87.1.2.2.2.2), .int (u_87.2)]), (ma 4, iE cB 120 (bt f))] H := hP
          have hD : va_D A [(ma 1, iE cI 382 (enc g lf)), (ma 0, oE 7 [.ref (ma 1), .ref (ma 2), .int (fi 0), .ref (ma 3), .ref (ma 4), .int (nI L), .int (nI u_87.1.2.2.1), .int (nI u_87.1.2.1), .long (u_87.1.2.2.2.1), .int (u_87.1.2.2.2.2), .int (u_87.2)]), (ma 4, iE cB 120 (bt f))] := hD
          have hu_87 : TakeR f L (0) (1) (k9_67, s9_67, e9_67, w9_67, m9_67) u_87 := hu_87
          obtain ⟨⟨k9_87, s9_87, e9_87, w9_87, m9_87⟩, z9_87⟩ := u_87
          obtain ⟨hz_87, hg_87⟩ := take_yes hu_87
          have hz_87 : z9_87 = 0 := hz_87
          subst hz_87
          have htok_87 : Tok f L e9_67 k9_87 s9_87 e9_87 := hg_87.1
          have hwd_87 : WdOf f k9_87 s9_87 e9_87 w9_87 := hg_87.2.1
          have hnm_87 : NmOf f k9_87 s9_87 e9_87 m9_87 := hg_87.2.2
          have hle_87 := htok_87.le (by omega)
          have heL_87 : e9_87 ≤ L := hle_87.2.2.1
          have hP : va_P D vwCl [(ma 1, iE cI 382 (enc g lf)), (ma 0, oE 7 [.ref (ma 1), .ref (ma 2), .int (fi 0), .ref (ma 3), .ref (ma 4), .int (nI L), .int (nI e9_87), .int (nI s9_87), .long (w9_87), .int (m9_87), .int (0)]), (ma 4, iE cB 120 (bt f))] H := hP
          have hD : va_D A [(ma 1, iE cI 382 (enc g lf)), (ma 0, oE 7 [.ref (ma 1), .ref (ma 2), .int (fi 0), .ref (ma 3), .ref (ma 4), .int (nI L), .int (nI e9_87), .int (nI s9_87), .long (w9_87), .int (m9_87), .int (0)]), (ma 4, iE cB 120 (bt f))] := hD
          refine lv_aload_n hx hb dX7_readsBay_83 rfl (lv_at hl 1 rfl) ?_
          refine lv_iconst (v := 0) hx hb dX7_readsBay_84 (by decide) ?_
          refine lv_iconst (v := 4) hx hb dX7_readsBay_85 (by decide) ?_
          refine cv_wi (As := [.int (0), .int (4)]) (rest := []) (tys := TYS cI cC cB cS) (ci := 7) (wr := [(ma 1, iE cI 382 (enc g lf))]) ⟨hx, hb, hml, hown, hts⟩ (c_X7_takesNumber l D cI cC cB cS _ (ma) (fi) (w9_87) (L) (f) (k9_87) (s9_87) (e9_87) (m9_87) (0) (0) (4) (hL) (hch) (by omega) ((Or.inl rfl))) (cwV 2 hts gX7_readsBay_X7_takesNumber rfl rfl rfl (by decide +kernel) ⟨Nat.le_of_ble_eq_true rfl, Nat.le_of_ble_eq_true rfl⟩) hK hP hD hS hA [1, 2] [0] rfl rfl (by decide) (by decide) (by decide) rfl rfl rfl rfl hl.1 (Nat.le_of_ble_eq_true rfl) dX7_readsBay_86 ⟨Nat.le_of_ble_eq_true rfl, Nat.le_of_ble_eq_true rfl⟩ (fun r_90 u_89 H locs hu_89 hP hD hS => ?_)
          have hP : va_P D vwCl [(ma 1, iE cI 382 (enc g lf)), (ma 0, oE 7 [.ref (ma 1), .ref (ma 2), .int (fi 0), .ref (ma 3), .ref (ma 4), .int (nI L), .int (nI u_89.1.2.2.1), .int (nI u_89.1.2.1), .long (u_89.1.2.2.2.1), .int (u_89.1.2.2.2.2), .int (u_89.2)]), (ma 4, iE cB 120 (bt f))] H := hP
          have hD : va_D A [(ma 1, iE cI 382 (enc g lf)), (ma 0, oE 7 [.ref (ma 1), .ref (ma 2), .int (fi 0), .ref (ma 3), .ref (ma 4), .int (nI L), .int (nI u_89.1.2.2.1), .int (nI u_89.1.2.1), .long (u_89.1.2.2.2.1), .int (u_89.1.2.2.2.2), .int (u_89.2)]), (ma 4, iE cB 120 (bt f))] := hD
          have hu_89 : TakeN f L 0 4 (0) (k9_87, s9_87, e9_87, w9_87, m9_87) r_90 u_89 := hu_89
          rcases takeN_cases hu_89 hnm_87 (by omega) (by omega) with ⟨⟨lv, hlv, hr_90⟩, hz_90, hg_90⟩ | ⟨hno_90, hn_90⟩
          · -- a number
            obtain ⟨⟨k9_90, s9_90, e9_90, w9_90, m9_90⟩, z9_90⟩ := u_89
            have hz_90 : z9_90 = 0 := hz_90
            subst hz_90
            have hlv : NumIn f k9_87 s9_87 e9_87 0 4 lv := hlv
            rw [show r_90 = nI lv from hr_90]
            have htok_90 : Tok f L e9_87 k9_90 s9_90 e9_90 := hg_90.1
            have hwd_90 : WdOf f k9_90 s9_90 e9_90 w9_90 := hg_90.2.1
            have hnm_90 : NmOf f k9_90 s9_90 e9_90 m9_90 := hg_90.2.2
            have hle_90 := htok_90.le (by omega)
            have heL_90 : e9_90 ≤ L := hle_90.2.2.1
            have hP : va_P D vwCl [(ma 1, iE cI 382 (enc g lf)), (ma 0, oE 7 [.ref (ma 1), .ref (ma 2), .int (fi 0), .ref (ma 3), .ref (ma 4), .int (nI L), .int (nI e9_90), .int (nI s9_90), .long (w9_90), .int (m9_90), .int (0)]), (ma 4, iE cB 120 (bt f))] H := hP
            have hD : va_D A [(ma 1, iE cI 382 (enc g lf)), (ma 0, oE 7 [.ref (ma 1), .ref (ma 2), .int (fi 0), .ref (ma 3), .ref (ma 4), .int (nI L), .int (nI e9_90), .int (nI s9_90), .long (w9_90), .int (m9_90), .int (0)]), (ma 4, iE cB 120 (bt f))] := hD
            refine lv_istore_n (lv' := [(2, .int (nI lv)), (1, .int (2)), (0, .ref (ma 0))]) hx hb dX7_readsBay_89 rfl hl (by decide) rfl (fun ls hl => ?_)
            refine lv_aload_n hx hb dX7_readsBay_90 rfl (lv_at hl 2 rfl) ?_
            refine va_get (D := D) (ci := 7) (v := .int (m9_90)) (C := RX7) (T := TX7) (N := 11) hx hb hts (by decide +kernel) hown hK.1 hP 1 rfl rfl 9 (by decide) (hts (.fieldLink RX7 95 "ParkingGarageModel" "number" "I") (by decide +kernel)) (fun _ h9 => h9) rfl dX7_readsBay_91 ?_
            refine lv_istore_n (lv' := [(3, .int (m9_90)), (2, .int (nI lv)), (1, .int (2)), (0, .ref (ma 0))]) hx hb dX7_readsBay_94 rfl hl (by decide) rfl (fun ls hl => ?_)
            refine lv_aload_n hx hb dX7_readsBay_95 rfl (lv_at hl 3 rfl) ?_
            refine lv_iload_n hx hb dX7_readsBay_96 rfl (lv_at hl 0 rfl) ?_
            refine lv_iconst (v := 0) hx hb dX7_readsBay_97 (by decide) ?_
            refine lv_bipush (v := 99) hx hb dX7_readsBay_98 (by decide) ?_
            refine cs_i (As := [.int (m9_90), .int (0), .int (99)]) (rest := [.ref (ma 0)]) (tys := TYS cI cC cB cS) ⟨hx, hb, hml, hown, hts⟩ (c_X7_in l D cI cC cB cS (m9_90) (0) (99)) (va_cwS 3 hts gX7_readsBay_X7_in rfl rfl rfl (by decide +kernel) ⟨Nat.le_of_ble_eq_true rfl, Nat.le_of_ble_eq_true rfl⟩) hK hP [] rfl rfl rfl hl.1 (Nat.le_of_ble_eq_true rfl) dX7_readsBay_100 ⟨Nat.le_of_ble_eq_true rfl, Nat.le_of_ble_eq_true rfl⟩ (fun r_92 hr_92 => ?_)
            rcases (show Yes (0 ≤ m9_90 ∧ m9_90 ≤ 99) r_92 from hr_92) with ⟨rfl, h_93⟩ | ⟨rfl, h_93⟩
            · -- X7_in t
              obtain ⟨ps, hps, hpe⟩ := nm_yes (lo := 0) (hi := 99) hnm_90 (by decide) h_93 (by decide)
              subst hpe
              refine if_eq_f (tgt := 119) hx hb (by decide) dX7_readsBay_103 (by decide) ?_
              refine lv_aload_n hx hb dX7_readsBay_106 rfl (lv_at hl 3 rfl) ?_
              refine lv_iload_n hx hb dX7_readsBay_107 rfl (lv_at hl 1 rfl) ?_
              refine lv_iload_n hx hb dX7_readsBay_108 rfl (lv_at hl 0 rfl) ?_
              refine cv_i (As := [.int (nI lv), .int (nI ps)]) (rest := [.ref (ma 0)]) (tys := TYS cI cC cB cS) (ci := 7) ⟨hx, hb, hml, hown, hts⟩ (c_X7_isTaken l D cI cC cB cS (ma) ((fun j => [fi 0, nI L, nI e9_90, nI s9_90, nI ps, 0].getD j 0)) (w9_90) (g) (lf) (n) (nI lv) (nI ps) (hn) (hnb)) (cwV 2 hts gX7_readsBay_X7_isTaken rfl rfl rfl (by decide +kernel) ⟨Nat.le_of_ble_eq_true rfl, Nat.le_of_ble_eq_true rfl⟩) hK hP [1, 0] rfl rfl rfl rfl rfl hl.1 (Nat.le_of_ble_eq_true rfl) dX7_readsBay_109 ⟨Nat.le_of_ble_eq_true rfl, Nat.le_of_ble_eq_true rfl⟩ (fun r_94 hr_94 => ?_)
              rcases (show Yes (∃ w, w < n ∧ g 4 w = nI lv ∧ g 5 w = nI ps) r_94 from hr_94) with ⟨rfl, h_95⟩ | ⟨rfl, h_95⟩
              · -- X7_isTaken t
                refine if_ne_t (tgt := 119) hx hb (by decide) dX7_readsBay_112 (by decide) ?_
                refine lv_iconst (v := 0) hx hb dX7_readsBay_119 (by decide) ?_
                refine cv_wv (As := [.int (0)]) (rest := []) (tys := TYS cI cC cB cS) (ci := 7) (wr := [(ma 1, iE cI 382 (enc g lf))]) ⟨hx, hb, hml, hown, hts⟩ (c_X7_takes l D cI cC cB cS _ (ma) (fi) (w9_90) (L) (f) (k9_90) (s9_90) (e9_90) (nI ps) (0) (0) (hL) (hch) (by omega) ((Or.inl rfl)) ((Or.inl rfl))) (cwV 1 hts gX7_readsBay_X7_takes rfl rfl rfl (by decide +kernel) ⟨Nat.le_of_ble_eq_true rfl, Nat.le_of_ble_eq_true rfl⟩) hK hP hD hS hA [1, 2] [0] rfl rfl (by decide) (by decide) (by decide) rfl rfl rfl rfl hl.1 (Nat.le_of_ble_eq_true rfl) dX7_readsBay_120 ⟨Nat.le_of_ble_eq_true rfl, Nat.le_of_ble_eq_true rfl⟩ (fun u_96 H locs hu_96 hP hD hS => ?_)
                have hP : va_P D vwCl [(ma 1, iE cI 382 (enc g lf)), (ma 0, oE 7 [.ref (ma 1), .ref (ma 2), .int (fi 0), .ref (ma 3), .ref (ma 4), .int (nI L), .int (nI u_96.1.2.2.1), .int (nI u_96.1.2.1), .long (u_96.1.2.2.2.1), .int (u_96.1.2.2.2.2), .int (u_96.2)]), (ma 4, iE cB 120 (bt f))] H := hP
                have hD : va_D A [(ma 1, iE cI 382 (enc g lf)), (ma 0, oE 7 [.ref (ma 1), .ref (ma 2), .int (fi 0), .ref (ma 3), .ref (ma 4), .int (nI L), .int (nI u_96.1.2.2.1), .int (nI u_96.1.2.1), .long (u_96.1.2.2.2.1), .int (u_96.1.2.2.2.2), .int (u_96.2)]), (ma 4, iE cB 120 (bt f))] := hD
                have hu_96 : TakeR f L (0) (0) (k9_90, s9_90, e9_90, w9_90, nI ps) u_96 := hu_96
                have hn_96 := take_no hu_96 (fun q9 => absurd q9.2 (by decide))
                subst hn_96
                have hP : va_P D vwCl [(ma 1, iE cI 382 (enc g lf)), (ma 0, oE 7 [.ref (ma 1), .ref (ma 2), .int (fi 0), .ref (ma 3), .ref (ma 4), .int (nI L), .int (nI e9_90), .int (nI s9_90), .long (w9_90), .int (nI ps), .int (1)]), (ma 4, iE cB 120 (bt f))] H := hP
                have hD : va_D A [(ma 1, iE cI 382 (enc g lf)), (ma 0, oE 7 [.ref (ma 1), .ref (ma 2), .int (fi 0), .ref (ma 3), .ref (ma 4), .int (nI L), .int (nI e9_90), .int (nI s9_90), .long (w9_90), .int (nI ps), .int (1)]), (ma 4, iE cB 120 (bt f))] := hD
                refine lv_aload_n hx hb dX7_readsBay_123 rfl (lv_at hl 3 rfl) ?_
                refine va_get (D := D) (ci := 7) (v := .int (1)) (C := RX7) (T := TX7) (N := 11) hx hb hts (by decide +kernel) hown hK.1 hP 1 rfl rfl 10 (by decide) (hts (.fieldLink RX7 102 "ParkingGarageModel" "isWrong" "Z") (by decide +kernel)) (fun _ h9 => h9) rfl dX7_readsBay_124 ?_
                refine if_ne_t (tgt := 143) hx hb (by decide) dX7_readsBay_127 (by decide) ?_
                exact wr_vret (((k9_90, s9_90, e9_90, w9_90, nI ps), 1, g)) hx hb hr hlocks hS hP hD [1, 0, 2] rfl rfl (by decide) dX7_readsBay_143 (⟨⟨e9_87, by omega, htok_90, hwd_90, hnm_90⟩, Or.inl ⟨rfl, Or.inr ⟨hn30, k9_67, s9_67, e9_67, 2, htok_67, Or.inr ⟨hV_4_67, Or.inr ⟨hV_5_67, Or.inl ⟨hW_6_67, rfl⟩⟩⟩, Or.inr ⟨by decide, Exists.intro k9_87 ⟨s9_87, e9_87, htok_87, Or.inl ⟨⟨lv, hlv⟩, lv, hlv, Exists.intro k9_90 ⟨s9_90, e9_90, htok_90, Or.inl ⟨⟨ps, hps⟩, ps, hps, Or.inl ⟨h_95, rfl⟩⟩⟩⟩⟩⟩⟩⟩⟩)
              · -- X7_isTaken f
                refine if_ne_f (tgt := 119) hx hb rfl dX7_readsBay_112 (by decide) ?_
                refine lv_iconst (v := 1) hx hb dX7_readsBay_115 (by decide) ?_
                refine lv_goto (tgt := 120) hx hb dX7_readsBay_116 (by decide) ?_
                refine cv_wv (As := [.int (1)]) (rest := []) (tys := TYS cI cC cB cS) (ci := 7) (wr := [(ma 1, iE cI 382 (enc g lf))]) ⟨hx, hb, hml, hown, hts⟩ (c_X7_takes l D cI cC cB cS _ (ma) (fi) (w9_90) (L) (f) (k9_90) (s9_90) (e9_90) (nI ps) (0) (1) (hL) (hch) (by omega) ((Or.inl rfl)) ((Or.inr rfl))) (cwV 1 hts gX7_readsBay_X7_takes rfl rfl rfl (by decide +kernel) ⟨Nat.le_of_ble_eq_true rfl, Nat.le_of_ble_eq_true rfl⟩) hK hP hD hS hA [1, 2] [0] rfl rfl (by decide) (by decide) (by decide) rfl rfl rfl rfl hl.1 (Nat.le_of_ble_eq_true rfl) dX7_readsBay_120 ⟨Nat.le_of_ble_eq_true rfl, Nat.le_of_ble_eq_true rfl⟩ (fun u_98 H locs hu_98 hP hD hS => ?_)
                have hP : va_P D vwCl [(ma 1, iE cI 382 (enc g lf)), (ma 0, oE 7 [.ref (ma 1), .ref (ma 2), .int (fi 0), .ref (ma 3), .ref (ma 4), .int (nI L), .int (nI u_98.1.2.2.1), .int (nI u_98.1.2.1), .long (u_98.1.2.2.2.1), .int (u_98.1.2.2.2.2), .int (u_98.2)]), (ma 4, iE cB 120 (bt f))] H := hP
                have hD : va_D A [(ma 1, iE cI 382 (enc g lf)), (ma 0, oE 7 [.ref (ma 1), .ref (ma 2), .int (fi 0), .ref (ma 3), .ref (ma 4), .int (nI L), .int (nI u_98.1.2.2.1), .int (nI u_98.1.2.1), .long (u_98.1.2.2.2.1), .int (u_98.1.2.2.2.2), .int (u_98.2)]), (ma 4, iE cB 120 (bt f))] := hD
                have hu_98 : TakeR f L (0) (1) (k9_90, s9_90, e9_90, w9_90, nI ps) u_98 := hu_98
                obtain ⟨⟨k9_98, s9_98, e9_98, w9_98, m9_98⟩, z9_98⟩ := u_98
                obtain ⟨hz_98, hg_98⟩ := take_yes hu_98
                have hz_98 : z9_98 = 0 := hz_98
                subst hz_98
                have htok_98 : Tok f L e9_90 k9_98 s9_98 e9_98 := hg_98.1
                have hwd_98 : WdOf f k9_98 s9_98 e9_98 w9_98 := hg_98.2.1
                have hnm_98 : NmOf f k9_98 s9_98 e9_98 m9_98 := hg_98.2.2
                have hle_98 := htok_98.le (by omega)
                have heL_98 : e9_98 ≤ L := hle_98.2.2.1
                have hP : va_P D vwCl [(ma 1, iE cI 382 (enc g lf)), (ma 0, oE 7 [.ref (ma 1), .ref (ma 2), .int (fi 0), .ref (ma 3), .ref (ma 4), .int (nI L), .int (nI e9_98), .int (nI s9_98), .long (w9_98), .int (m9_98), .int (0)]), (ma 4, iE cB 120 (bt f))] H := hP
                have hD : va_D A [(ma 1, iE cI 382 (enc g lf)), (ma 0, oE 7 [.ref (ma 1), .ref (ma 2), .int (fi 0), .ref (ma 3), .ref (ma 4), .int (nI L), .int (nI e9_98), .int (nI s9_98), .long (w9_98), .int (m9_98), .int (0)]), (ma 4, iE cB 120 (bt f))] := hD
                refine lv_aload_n hx hb dX7_readsBay_123 rfl (lv_at hl 3 rfl) ?_
                refine va_get (D := D) (ci := 7) (v := .int (0)) (C := RX7) (T := TX7) (N := 11) hx hb hts (by decide +kernel) hown hK.1 hP 1 rfl rfl 10 (by decide) (hts (.fieldLink RX7 102 "ParkingGarageModel" "isWrong" "Z") (by decide +kernel)) (fun _ h9 => h9) rfl dX7_readsBay_124 ?_
                refine if_ne_f (tgt := 143) hx hb rfl dX7_readsBay_127 (by decide) ?_
                refine lv_aload_n hx hb dX7_readsBay_130 rfl (lv_at hl 3 rfl) ?_
                refine lv_aload_n hx hb dX7_readsBay_131 rfl (lv_at hl 3 rfl) ?_
                refine lv_iload_n hx hb dX7_readsBay_132 rfl (lv_at hl 1 rfl) ?_
                refine lv_iload_n hx hb dX7_readsBay_133 rfl (lv_at hl 0 rfl) ?_
                refine lv_iload_n hx hb dX7_readsBay_134 rfl (lv_at hl 2 rfl) ?_
                refine cv_wi (As := [.int (nI lv), .int (nI ps), .int (2)]) (rest := [.ref (ma 0)]) (tys := TYS cI cC cB cS) (ci := 7) (wr := [(ma 4, iE cB 120 (bt f))]) ⟨hx, hb, hml, hown, hts⟩ (c_X7_makes l D cI cC cB cS _ (ma) ((fun j => [fi 0, nI L, nI e9_98, nI s9_98, m9_98, 0].getD j 0)) (w9_98) (g) (lf) (n) (nI lv) (nI ps) (2) (hn) (hnf)) (cwV 3 hts gX7_readsBay_X7_makes rfl rfl rfl (by decide +kernel) ⟨Nat.le_of_ble_eq_true rfl, Nat.le_of_ble_eq_true rfl⟩) hK hP hD hS hA [1, 0] [2] rfl rfl (by decide) (by decide) (by decide) rfl rfl rfl rfl hl.1 (Nat.le_of_ble_eq_true rfl) dX7_readsBay_135 ⟨Nat.le_of_ble_eq_true rfl, Nat.le_of_ble_eq_true rfl⟩ (fun r_101 u_100 H locs hu_100 hP hD hS => ?_)
                have hP : va_P D vwCl [(ma 4, iE cB 120 (bt f)), (ma 0, oE 7 [.ref (ma 1), .ref (ma 2), .int (fi 0), .ref (ma 3), .ref (ma 4), .int (nI L), .int (nI e9_98), .int (nI s9_98), .long (w9_98), .int (m9_98), .int (0)]), (ma 1, iE cI 382 (enc (gAdd g n (nI lv) (nI ps) (2)) lf))] H := hP
                have hD : va_D A [(ma 4, iE cB 120 (bt f)), (ma 0, oE 7 [.ref (ma 1), .ref (ma 2), .int (fi 0), .ref (ma 3), .ref (ma 4), .int (nI L), .int (nI e9_98), .int (nI s9_98), .long (w9_98), .int (m9_98), .int (0)]), (ma 1, iE cI 382 (enc (gAdd g n (nI lv) (nI ps) (2)) lf))] := hD
                have hu_100 : r_101 = nI n := hu_100
                rw [show r_101 = nI n from hu_100]
                refine lv_iconst (v := 2) hx hb dX7_readsBay_138 (by decide) ?_
                refine cv_i (As := [.int (nI n), .int (2)]) (rest := []) (tys := TYS cI cC cB cS) (ci := 7) ⟨hx, hb, hml, hown, hts⟩ (c_X7_of l D cI cC cB cS (ma) ((fun j => [fi 0, nI L, nI e9_98, nI s9_98, m9_98, 0].getD j 0)) (w9_98) ((gAdd g n (nI lv) (nI ps) (2))) (lf) (n) (2) (by omega) (by omega)) (cwV 2 hts gX7_readsBay_X7_of rfl rfl rfl (by decide +kernel) ⟨Nat.le_of_ble_eq_true rfl, Nat.le_of_ble_eq_true rfl⟩) hK hP [1, 2] rfl rfl rfl rfl rfl hl.1 (Nat.le_of_ble_eq_true rfl) dX7_readsBay_139 ⟨Nat.le_of_ble_eq_true rfl, Nat.le_of_ble_eq_true rfl⟩ (fun r_102 hr_102 => ?_)
                have hr_102 : r_102 = ((gAdd g n (nI lv) (nI ps) (2)) 6) n := hr_102
                subst hr_102
                refine lv_istore_n (lv' := [(1, .int (((gAdd g n (nI lv) (nI ps) (2)) 6) n)), (3, .int (nI ps)), (2, .int (nI lv)), (0, .ref (ma 0))]) hx hb dX7_readsBay_142 rfl hl (by decide) rfl (fun ls hl => ?_)
                exact wr_vret (((k9_98, s9_98, e9_98, w9_98, m9_98), 0, (gAdd g n (nI lv) (nI ps) (2)))) hx hb hr hlocks hS hP hD [1, 2, 0] rfl rfl (by decide) dX7_readsBay_143 (⟨⟨e9_90, by omega, htok_98, hwd_98, hnm_98⟩, Or.inr ⟨rfl, fun o ho => Or.inr ⟨hn30, k9_67, s9_67, e9_67, 2, htok_67, Or.inr ⟨hV_4_67, Or.inr ⟨hV_5_67, Or.inl ⟨hW_6_67, rfl⟩⟩⟩, Or.inr ⟨by decide, Exists.intro k9_87 ⟨s9_87, e9_87, htok_87, Or.inl ⟨⟨lv, hlv⟩, lv, hlv, Exists.intro k9_90 ⟨s9_90, e9_90, htok_90, Or.inl ⟨⟨ps, hps⟩, ps, hps, Or.inr ⟨h_95, Exists.intro k9_98 ⟨s9_98, e9_98, htok_98, ho⟩⟩⟩⟩⟩⟩⟩⟩⟩⟩)
            · -- X7_in f
              have hno9 := nm_no (lo := 0) (hi := 99) hnm_90 (by decide) h_93
              refine if_eq_t (tgt := 119) hx hb rfl dX7_readsBay_103 (by decide) ?_
              refine lv_iconst (v := 0) hx hb dX7_readsBay_119 (by decide) ?_
              refine cv_wv (As := [.int (0)]) (rest := []) (tys := TYS cI cC cB cS) (ci := 7) (wr := [(ma 1, iE cI 382 (enc g lf))]) ⟨hx, hb, hml, hown, hts⟩ (c_X7_takes l D cI cC cB cS _ (ma) (fi) (w9_90) (L) (f) (k9_90) (s9_90) (e9_90) (m9_90) (0) (0) (hL) (hch) (by omega) ((Or.inl rfl)) ((Or.inl rfl))) (cwV 1 hts gX7_readsBay_X7_takes rfl rfl rfl (by decide +kernel) ⟨Nat.le_of_ble_eq_true rfl, Nat.le_of_ble_eq_true rfl⟩) hK hP hD hS hA [1, 2] [0] rfl rfl (by decide) (by decide) (by decide) rfl rfl rfl rfl hl.1 (Nat.le_of_ble_eq_true rfl) dX7_readsBay_120 ⟨Nat.le_of_ble_eq_true rfl, Nat.le_of_ble_eq_true rfl⟩ (fun u_103 H locs hu_103 hP hD hS => ?_)
              have hP : va_P D vwCl [(ma 1, iE cI 382 (enc g lf)), (ma 0, oE 7 [.ref (ma 1), .ref (ma 2), .int (fi 0), .ref (ma 3), .ref (ma 4), .int (nI L), .int (nI u_103.1.2.2.1), .int (nI u_103.1.2.1), .long (u_103.1.2.2.2.1), .int (u_103.1.2.2.2.2), .int (u_103.2)]), (ma 4, iE cB 120 (bt f))] H := hP
              have hD : va_D A [(ma 1, iE cI 382 (enc g lf)), (ma 0, oE 7 [.ref (ma 1), .ref (ma 2), .int (fi 0), .ref (ma 3), .ref (ma 4), .int (nI L), .int (nI u_103.1.2.2.1), .int (nI u_103.1.2.1), .long (u_103.1.2.2.2.1), .int (u_103.1.2.2.2.2), .int (u_103.2)]), (ma 4, iE cB 120 (bt f))] := hD
              have hu_103 : TakeR f L (0) (0) (k9_90, s9_90, e9_90, w9_90, m9_90) u_103 := hu_103
              have hn_103 := take_no hu_103 (fun q9 => absurd q9.2 (by decide))
              subst hn_103
              have hP : va_P D vwCl [(ma 1, iE cI 382 (enc g lf)), (ma 0, oE 7 [.ref (ma 1), .ref (ma 2), .int (fi 0), .ref (ma 3), .ref (ma 4), .int (nI L), .int (nI e9_90), .int (nI s9_90), .long (w9_90), .int (m9_90), .int (1)]), (ma 4, iE cB 120 (bt f))] H := hP
              have hD : va_D A [(ma 1, iE cI 382 (enc g lf)), (ma 0, oE 7 [.ref (ma 1), .ref (ma 2), .int (fi 0), .ref (ma 3), .ref (ma 4), .int (nI L), .int (nI e9_90), .int (nI s9_90), .long (w9_90), .int (m9_90), .int (1)]), (ma 4, iE cB 120 (bt f))] := hD
              refine lv_aload_n hx hb dX7_readsBay_123 rfl (lv_at hl 3 rfl) ?_
              refine va_get (D := D) (ci := 7) (v := .int (1)) (C := RX7) (T := TX7) (N := 11) hx hb hts (by decide +kernel) hown hK.1 hP 1 rfl rfl 10 (by decide) (hts (.fieldLink RX7 102 "ParkingGarageModel" "isWrong" "Z") (by decide +kernel)) (fun _ h9 => h9) rfl dX7_readsBay_124 ?_
              refine if_ne_t (tgt := 143) hx hb (by decide) dX7_readsBay_127 (by decide) ?_
              exact wr_vret (((k9_90, s9_90, e9_90, w9_90, m9_90), 1, g)) hx hb hr hlocks hS hP hD [1, 0, 2] rfl rfl (by decide) dX7_readsBay_143 (⟨⟨e9_87, by omega, htok_90, hwd_90, hnm_90⟩, Or.inl ⟨rfl, Or.inr ⟨hn30, k9_67, s9_67, e9_67, 2, htok_67, Or.inr ⟨hV_4_67, Or.inr ⟨hV_5_67, Or.inl ⟨hW_6_67, rfl⟩⟩⟩, Or.inr ⟨by decide, Exists.intro k9_87 ⟨s9_87, e9_87, htok_87, Or.inl ⟨⟨lv, hlv⟩, lv, hlv, Exists.intro k9_90 ⟨s9_90, e9_90, htok_90, Or.inr ⟨hno9, rfl⟩⟩⟩⟩⟩⟩⟩⟩)
          · -- none
            subst hn_90
            have hno_90 : ¬ ∃ v, NumIn f k9_87 s9_87 e9_87 0 4 v := hno_90
            have hP : va_P D vwCl [(ma 1, iE cI 382 (enc g lf)), (ma 0, oE 7 [.ref (ma 1), .ref (ma 2), .int (fi 0), .ref (ma 3), .ref (ma 4), .int (nI L), .int (nI e9_87), .int (nI s9_87), .long (w9_87), .int (m9_87), .int (1)]), (ma 4, iE cB 120 (bt f))] H := hP
            have hD : va_D A [(ma 1, iE cI 382 (enc g lf)), (ma 0, oE 7 [.ref (ma 1), .ref (ma 2), .int (fi 0), .ref (ma 3), .ref (ma 4), .int (nI L), .int (nI e9_87), .int (nI s9_87), .long (w9_87), .int (m9_87), .int (1)]), (ma 4, iE cB 120 (bt f))] := hD
            refine lv_istore_n (lv' := [(2, .int (r_90)), (1, .int (2)), (0, .ref (ma 0))]) hx hb dX7_readsBay_89 rfl hl (by decide) rfl (fun ls hl => ?_)
            refine lv_aload_n hx hb dX7_readsBay_90 rfl (lv_at hl 2 rfl) ?_
            refine va_get (D := D) (ci := 7) (v := .int (m9_87)) (C := RX7) (T := TX7) (N := 11) hx hb hts (by decide +kernel) hown hK.1 hP 1 rfl rfl 9 (by decide) (hts (.fieldLink RX7 95 "ParkingGarageModel" "number" "I") (by decide +kernel)) (fun _ h9 => h9) rfl dX7_readsBay_91 ?_
            refine lv_istore_n (lv' := [(3, .int (m9_87)), (2, .int (r_90)), (1, .int (2)), (0, .ref (ma 0))]) hx hb dX7_readsBay_94 rfl hl (by decide) rfl (fun ls hl => ?_)
            refine lv_aload_n hx hb dX7_readsBay_95 rfl (lv_at hl 3 rfl) ?_
            refine lv_iload_n hx hb dX7_readsBay_96 rfl (lv_at hl 0 rfl) ?_
            refine lv_iconst (v := 0) hx hb dX7_readsBay_97 (by decide) ?_
            refine lv_bipush (v := 99) hx hb dX7_readsBay_98 (by decide) ?_
            refine cs_i (As := [.int (m9_87), .int (0), .int (99)]) (rest := [.ref (ma 0)]) (tys := TYS cI cC cB cS) ⟨hx, hb, hml, hown, hts⟩ (c_X7_in l D cI cC cB cS (m9_87) (0) (99)) (va_cwS 3 hts gX7_readsBay_X7_in rfl rfl rfl (by decide +kernel) ⟨Nat.le_of_ble_eq_true rfl, Nat.le_of_ble_eq_true rfl⟩) hK hP [] rfl rfl rfl hl.1 (Nat.le_of_ble_eq_true rfl) dX7_readsBay_100 ⟨Nat.le_of_ble_eq_true rfl, Nat.le_of_ble_eq_true rfl⟩ (fun r_105 hr_105 => ?_)
            rcases (show Yes (0 ≤ m9_87 ∧ m9_87 ≤ 99) r_105 from hr_105) with ⟨rfl, h_106⟩ | ⟨rfl, h_106⟩
            · -- X7_in t
              refine if_eq_f (tgt := 119) hx hb (by decide) dX7_readsBay_103 (by decide) ?_
              refine lv_aload_n hx hb dX7_readsBay_106 rfl (lv_at hl 3 rfl) ?_
              refine lv_iload_n hx hb dX7_readsBay_107 rfl (lv_at hl 1 rfl) ?_
              refine lv_iload_n hx hb dX7_readsBay_108 rfl (lv_at hl 0 rfl) ?_
              refine cv_i (As := [.int (r_90), .int (m9_87)]) (rest := [.ref (ma 0)]) (tys := TYS cI cC cB cS) (ci := 7) ⟨hx, hb, hml, hown, hts⟩ (c_X7_isTaken l D cI cC cB cS (ma) ((fun j => [fi 0, nI L, nI e9_87, nI s9_87, m9_87, 1].getD j 0)) (w9_87) (g) (lf) (n) (r_90) (m9_87) (hn) (hnb)) (cwV 2 hts gX7_readsBay_X7_isTaken rfl rfl rfl (by decide +kernel) ⟨Nat.le_of_ble_eq_true rfl, Nat.le_of_ble_eq_true rfl⟩) hK hP [1, 0] rfl rfl rfl rfl rfl hl.1 (Nat.le_of_ble_eq_true rfl) dX7_readsBay_109 ⟨Nat.le_of_ble_eq_true rfl, Nat.le_of_ble_eq_true rfl⟩ (fun r_107 hr_107 => ?_)
              rcases (show Yes (∃ w, w < n ∧ g 4 w = r_90 ∧ g 5 w = m9_87) r_107 from hr_107) with ⟨rfl, h_108⟩ | ⟨rfl, h_108⟩
              · -- X7_isTaken t
                refine if_ne_t (tgt := 119) hx hb (by decide) dX7_readsBay_112 (by decide) ?_
                refine lv_iconst (v := 0) hx hb dX7_readsBay_119 (by decide) ?_
                refine cv_wv (As := [.int (0)]) (rest := []) (tys := TYS cI cC cB cS) (ci := 7) (wr := [(ma 1, iE cI 382 (enc g lf))]) ⟨hx, hb, hml, hown, hts⟩ (c_X7_takes l D cI cC cB cS _ (ma) (fi) (w9_87) (L) (f) (k9_87) (s9_87) (e9_87) (m9_87) (1) (0) (hL) (hch) (by omega) ((Or.inr rfl)) ((Or.inl rfl))) (cwV 1 hts gX7_readsBay_X7_takes rfl rfl rfl (by decide +kernel) ⟨Nat.le_of_ble_eq_true rfl, Nat.le_of_ble_eq_true rfl⟩) hK hP hD hS hA [1, 2] [0] rfl rfl (by decide) (by decide) (by decide) rfl rfl rfl rfl hl.1 (Nat.le_of_ble_eq_true rfl) dX7_readsBay_120 ⟨Nat.le_of_ble_eq_true rfl, Nat.le_of_ble_eq_true rfl⟩ (fun u_109 H locs hu_109 hP hD hS => ?_)
                have hP : va_P D vwCl [(ma 1, iE cI 382 (enc g lf)), (ma 0, oE 7 [.ref (ma 1), .ref (ma 2), .int (fi 0), .ref (ma 3), .ref (ma 4), .int (nI L), .int (nI u_109.1.2.2.1), .int (nI u_109.1.2.1), .long (u_109.1.2.2.2.1), .int (u_109.1.2.2.2.2), .int (u_109.2)]), (ma 4, iE cB 120 (bt f))] H := hP
                have hD : va_D A [(ma 1, iE cI 382 (enc g lf)), (ma 0, oE 7 [.ref (ma 1), .ref (ma 2), .int (fi 0), .ref (ma 3), .ref (ma 4), .int (nI L), .int (nI u_109.1.2.2.1), .int (nI u_109.1.2.1), .long (u_109.1.2.2.2.1), .int (u_109.1.2.2.2.2), .int (u_109.2)]), (ma 4, iE cB 120 (bt f))] := hD
                have hu_109 : TakeR f L (1) (0) (k9_87, s9_87, e9_87, w9_87, m9_87) u_109 := hu_109
                have hn_109 := take_no hu_109 (fun q9 => absurd q9.1 (by decide))
                subst hn_109
                have hP : va_P D vwCl [(ma 1, iE cI 382 (enc g lf)), (ma 0, oE 7 [.ref (ma 1), .ref (ma 2), .int (fi 0), .ref (ma 3), .ref (ma 4), .int (nI L), .int (nI e9_87), .int (nI s9_87), .long (w9_87), .int (m9_87), .int (1)]), (ma 4, iE cB 120 (bt f))] H := hP
                have hD : va_D A [(ma 1, iE cI 382 (enc g lf)), (ma 0, oE 7 [.ref (ma 1), .ref (ma 2), .int (fi 0), .ref (ma 3), .ref (ma 4), .int (nI L), .int (nI e9_87), .int (nI s9_87), .long (w9_87), .int (m9_87), .int (1)]), (ma 4, iE cB 120 (bt f))] := hD
                refine lv_aload_n hx hb dX7_readsBay_123 rfl (lv_at hl 3 rfl) ?_
                refine va_get (D := D) (ci := 7) (v := .int (1)) (C := RX7) (T := TX7) (N := 11) hx hb hts (by decide +kernel) hown hK.1 hP 1 rfl rfl 10 (by decide) (hts (.fieldLink RX7 102 "ParkingGarageModel" "isWrong" "Z") (by decide +kernel)) (fun _ h9 => h9) rfl dX7_readsBay_124 ?_
                refine if_ne_t (tgt := 143) hx hb (by decide) dX7_readsBay_127 (by decide) ?_
                exact wr_vret (((k9_87, s9_87, e9_87, w9_87, m9_87), 1, g)) hx hb hr hlocks hS hP hD [1, 0, 2] rfl rfl (by decide) dX7_readsBay_143 (⟨⟨e9_67, by omega, htok_87, hwd_87, hnm_87⟩, Or.inl ⟨rfl, Or.inr ⟨hn30, k9_67, s9_67, e9_67, 2, htok_67, Or.inr ⟨hV_4_67, Or.inr ⟨hV_5_67, Or.inl ⟨hW_6_67, rfl⟩⟩⟩, Or.inr ⟨by decide, Exists.intro k9_87 ⟨s9_87, e9_87, htok_87, Or.inr ⟨hno_90, rfl⟩⟩⟩⟩⟩⟩)
              · -- X7_isTaken f
                refine if_ne_f (tgt := 119) hx hb rfl dX7_readsBay_112 (by decide) ?_
                refine lv_iconst (v := 1) hx hb dX7_readsBay_115 (by decide) ?_
                refine lv_goto (tgt := 120) hx hb dX7_readsBay_116 (by decide) ?_
                refine cv_wv (As := [.int (1)]) (rest := []) (tys := TYS cI cC cB cS) (ci := 7) (wr := [(ma 1, iE cI 382 (enc g lf))]) ⟨hx, hb, hml, hown, hts⟩ (c_X7_takes l D cI cC cB cS _ (ma) (fi) (w9_87) (L) (f) (k9_87) (s9_87) (e9_87) (m9_87) (1) (1) (hL) (hch) (by omega) ((Or.inr rfl)) ((Or.inr rfl))) (cwV 1 hts gX7_readsBay_X7_takes rfl rfl rfl (by decide +kernel) ⟨Nat.le_of_ble_eq_true rfl, Nat.le_of_ble_eq_true rfl⟩) hK hP hD hS hA [1, 2] [0] rfl rfl (by decide) (by decide) (by decide) rfl rfl rfl rfl hl.1 (Nat.le_of_ble_eq_true rfl) dX7_readsBay_120 ⟨Nat.le_of_ble_eq_true rfl, Nat.le_of_ble_eq_true rfl⟩ (fun u_111 H locs hu_111 hP hD hS => ?_)
                have hP : va_P D vwCl [(ma 1, iE cI 382 (enc g lf)), (ma 0, oE 7 [.ref (ma 1), .ref (ma 2), .int (fi 0), .ref (ma 3), .ref (ma 4), .int (nI L), .int (nI u_111.1.2.2.1), .int (nI u_111.1.2.1), .long (u_111.1.2.2.2.1), .int (u_111.1.2.2.2.2), .int (u_111.2)]), (ma 4, iE cB 120 (bt f))] H := hP
                have hD : va_D A [(ma 1, iE cI 382 (enc g lf)), (ma 0, oE 7 [.ref (ma 1), .ref (ma 2), .int (fi 0), .ref (ma 3), .ref (ma 4), .int (nI L), .int (nI u_111.1.2.2.1), .int (nI u_111.1.2.1), .long (u_111.1.2.2.2.1), .int (u_111.1.2.2.2.2), .int (u_111.2)]), (ma 4, iE cB 120 (bt f))] := hD
                have hu_111 : TakeR f L (1) (1) (k9_87, s9_87, e9_87, w9_87, m9_87) u_111 := hu_111
                have hn_111 := take_no hu_111 (fun q9 => absurd q9.1 (by decide))
                subst hn_111
                have hP : va_P D vwCl [(ma 1, iE cI 382 (enc g lf)), (ma 0, oE 7 [.ref (ma 1), .ref (ma 2), .int (fi 0), .ref (ma 3), .ref (ma 4), .int (nI L), .int (nI e9_87), .int (nI s9_87), .long (w9_87), .int (m9_87), .int (1)]), (ma 4, iE cB 120 (bt f))] H := hP
                have hD : va_D A [(ma 1, iE cI 382 (enc g lf)), (ma 0, oE 7 [.ref (ma 1), .ref (ma 2), .int (fi 0), .ref (ma 3), .ref (ma 4), .int (nI L), .int (nI e9_87), .int (nI s9_87), .long (w9_87), .int (m9_87), .int (1)]), (ma 4, iE cB 120 (bt f))] := hD
                refine lv_aload_n hx hb dX7_readsBay_123 rfl (lv_at hl 3 rfl) ?_
                refine va_get (D := D) (ci := 7) (v := .int (1)) (C := RX7) (T := TX7) (N := 11) hx hb hts (by decide +kernel) hown hK.1 hP 1 rfl rfl 10 (by decide) (hts (.fieldLink RX7 102 "ParkingGarageModel" "isWrong" "Z") (by decide +kernel)) (fun _ h9 => h9) rfl dX7_readsBay_124 ?_
                refine if_ne_t (tgt := 143) hx hb (by decide) dX7_readsBay_127 (by decide) ?_
                exact wr_vret (((k9_87, s9_87, e9_87, w9_87, m9_87), 1, g)) hx hb hr hlocks hS hP hD [1, 0, 2] rfl rfl (by decide) dX7_readsBay_143 (⟨⟨e9_67, by omega, htok_87, hwd_87, hnm_87⟩, Or.inl ⟨rfl, Or.inr ⟨hn30, k9_67, s9_67, e9_67, 2, htok_67, Or.inr ⟨hV_4_67, Or.inr ⟨hV_5_67, Or.inl ⟨hW_6_67, rfl⟩⟩⟩, Or.inr ⟨by decide, Exists.intro k9_87 ⟨s9_87, e9_87, htok_87, Or.inr ⟨hno_90, rfl⟩⟩⟩⟩⟩⟩)
            · -- X7_in f
              refine if_eq_t (tgt := 119) hx hb rfl dX7_readsBay_103 (by decide) ?_
              refine lv_iconst (v := 0) hx hb dX7_readsBay_119 (by decide) ?_
              refine cv_wv (As := [.int (0)]) (rest := []) (tys := TYS cI cC cB cS) (ci := 7) (wr := [(ma 1, iE cI 382 (enc g lf))]) ⟨hx, hb, hml, hown, hts⟩ (c_X7_takes l D cI cC cB cS _ (ma) (fi) (w9_87) (L) (f) (k9_87) (s9_87) (e9_87) (m9_87) (1) (0) (hL) (hch) (by omega) ((Or.inr rfl)) ((Or.inl rfl))) (cwV 1 hts gX7_readsBay_X7_takes rfl rfl rfl (by decide +kernel) ⟨Nat.le_of_ble_eq_true rfl, Nat.le_of_ble_eq_true rfl⟩) hK hP hD hS hA [1, 2] [0] rfl rfl (by decide) (by decide) (by decide) rfl rfl rfl rfl hl.1 (Nat.le_of_ble_eq_true rfl) dX7_readsBay_120 ⟨Nat.le_of_ble_eq_true rfl, Nat.le_of_ble_eq_true rfl⟩ (fun u_113 H locs hu_113 hP hD hS => ?_)
              have hP : va_P D vwCl [(ma 1, iE cI 382 (enc g lf)), (ma 0, oE 7 [.ref (ma 1), .ref (ma 2), .int (fi 0), .ref (ma 3), .ref (ma 4), .int (nI L), .int (nI u_113.1.2.2.1), .int (nI u_113.1.2.1), .long (u_113.1.2.2.2.1), .int (u_113.1.2.2.2.2), .int (u_113.2)]), (ma 4, iE cB 120 (bt f))] H := hP
              have hD : va_D A [(ma 1, iE cI 382 (enc g lf)), (ma 0, oE 7 [.ref (ma 1), .ref (ma 2), .int (fi 0), .ref (ma 3), .ref (ma 4), .int (nI L), .int (nI u_113.1.2.2.1), .int (nI u_113.1.2.1), .long (u_113.1.2.2.2.1), .int (u_113.1.2.2.2.2), .int (u_113.2)]), (ma 4, iE cB 120 (bt f))] := hD
              have hu_113 : TakeR f L (1) (0) (k9_87, s9_87, e9_87, w9_87, m9_87) u_113 := hu_113
              have hn_113 := take_no hu_113 (fun q9 => absurd q9.1 (by decide))
              subst hn_113
              have hP : va_P D vwCl [(ma 1, iE cI 382 (enc g lf)), (ma 0, oE 7 [.ref (ma 1), .ref (ma 2), .int (fi 0), .ref (ma 3), .ref (ma 4), .int (nI L), .int (nI e9_87), .int (nI s9_87), .long (w9_87), .int (m9_87), .int (1)]), (ma 4, iE cB 120 (bt f))] H := hP
              have hD : va_D A [(ma 1, iE cI 382 (enc g lf)), (ma 0, oE 7 [.ref (ma 1), .ref (ma 2), .int (fi 0), .ref (ma 3), .ref (ma 4), .int (nI L), .int (nI e9_87), .int (nI s9_87), .long (w9_87), .int (m9_87), .int (1)]), (ma 4, iE cB 120 (bt f))] := hD
              refine lv_aload_n hx hb dX7_readsBay_123 rfl (lv_at hl 3 rfl) ?_
              refine va_get (D := D) (ci := 7) (v := .int (1)) (C := RX7) (T := TX7) (N := 11) hx hb hts (by decide +kernel) hown hK.1 hP 1 rfl rfl 10 (by decide) (hts (.fieldLink RX7 102 "ParkingGarageModel" "isWrong" "Z") (by decide +kernel)) (fun _ h9 => h9) rfl dX7_readsBay_124 ?_
              refine if_ne_t (tgt := 143) hx hb (by decide) dX7_readsBay_127 (by decide) ?_
              exact wr_vret (((k9_87, s9_87, e9_87, w9_87, m9_87), 1, g)) hx hb hr hlocks hS hP hD [1, 0, 2] rfl rfl (by decide) dX7_readsBay_143 (⟨⟨e9_67, by omega, htok_87, hwd_87, hnm_87⟩, Or.inl ⟨rfl, Or.inr ⟨hn30, k9_67, s9_67, e9_67, 2, htok_67, Or.inr ⟨hV_4_67, Or.inr ⟨hV_5_67, Or.inl ⟨hW_6_67, rfl⟩⟩⟩, Or.inr ⟨by decide, Exists.intro k9_87 ⟨s9_87, e9_87, htok_87, Or.inr ⟨hno_90, rfl⟩⟩⟩⟩⟩⟩)
      · -- c_70: not lg_cmp (w9_67) (189278869) ≠ 0
        have hW_5_67 : Wrd f k9_67 s9_67 e9_67 5 := (hwd_67 5 (by decide)).mp (cmp_eq.mp c_70)
        refine lv_iconst (v := 1) hx hb dX7_readsBay_46 (by decide) ?_
        refine lv_goto (tgt := 67) hx hb dX7_readsBay_47 (by decide) ?_
        refine lv_istore_n (lv' := [(1, .int (1)), (0, .ref (ma 0))]) hx hb dX7_readsBay_67 rfl hl (by decide) rfl (fun ls hl => ?_)
        refine lv_aload_n hx hb dX7_readsBay_68 rfl (lv_at hl 1 rfl) ?_
        refine lv_iload_n hx hb dX7_readsBay_69 rfl (lv_at hl 0 rfl) ?_
        refine lv_bipush (v := -9) hx hb dX7_readsBay_70 (by decide) ?_
        refine lv_icmp_eq (tgt := 79) hx hb dX7_readsBay_72 (by decide) (fun c => absurd c (by decide)) (fun _ => ?_)
        refine lv_iconst (v := 1) hx hb dX7_readsBay_75 (by decide) ?_
        refine lv_goto (tgt := 80) hx hb dX7_readsBay_76 (by decide) ?_
        refine cv_wv (As := [.int (1)]) (rest := []) (tys := TYS cI cC cB cS) (ci := 7) (wr := [(ma 1, iE cI 382 (enc g lf))]) ⟨hx, hb, hml, hown, hts⟩ (c_X7_takes l D cI cC cB cS _ (ma) (fi) (w9_67) (L) (f) (k9_67) (s9_67) (e9_67) (m9_67) (0) (1) (hL) (hch) (by omega) ((Or.inl rfl)) ((Or.inr rfl))) (cwV 1 hts gX7_readsBay_X7_takes rfl rfl rfl (by decide +kernel) ⟨Nat.le_of_ble_eq_true rfl, Nat.le_of_ble_eq_true rfl⟩) hK hP hD hS hA [1, 2] [0] rfl rfl (by decide) (by decide) (by decide) rfl rfl rfl rfl hl.1 (Nat.le_of_ble_eq_true rfl) dX7_readsBay_80 ⟨Nat.le_of_ble_eq_true rfl, Nat.le_of_ble_eq_true rfl⟩ (fun u_115 H locs hu_115 hP hD hS => ?_)
        have hP : va_P D vwCl [(ma 1, iE cI 382 (enc g lf)), (ma 0, oE 7 [.ref (ma 1), .ref (ma 2), .int (fi 0), .ref (ma 3), .ref (ma 4), .int (nI L), .int (nI u_115.1.2.2.1), .int (nI u_115.1.2.1), .long (u_115.1.2.2.2.1), .int (u_115.1.2.2.2.2), .int (u_115.2)]), (ma 4, iE cB 120 (bt f))] H := hP
        have hD : va_D A [(ma 1, iE cI 382 (enc g lf)), (ma 0, oE 7 [.ref (ma 1), .ref (ma 2), .int (fi 0), .ref (ma 3), .ref (ma 4), .int (nI L), .int (nI u_115.1.2.2.1), .int (nI u_115.1.2.1), .long (u_115.1.2.2.2.1), .int (u_115.1.2.2.2.2), .int (u_115.2)]), (ma 4, iE cB 120 (bt f))] := hD
        have hu_115 : TakeR f L (0) (1) (k9_67, s9_67, e9_67, w9_67, m9_67) u_115 := hu_115
        obtain ⟨⟨k9_115, s9_115, e9_115, w9_115, m9_115⟩, z9_115⟩ := u_115
        obtain ⟨hz_115, hg_115⟩ := take_yes hu_115
        have hz_115 : z9_115 = 0 := hz_115
        subst hz_115
        have htok_115 : Tok f L e9_67 k9_115 s9_115 e9_115 := hg_115.1
        have hwd_115 : WdOf f k9_115 s9_115 e9_115 w9_115 := hg_115.2.1
        have hnm_115 : NmOf f k9_115 s9_115 e9_115 m9_115 := hg_115.2.2
        have hle_115 := htok_115.le (by omega)
        have heL_115 : e9_115 ≤ L := hle_115.2.2.1
        have hP : va_P D vwCl [(ma 1, iE cI 382 (enc g lf)), (ma 0, oE 7 [.ref (ma 1), .ref (ma 2), .int (fi 0), .ref (ma 3), .ref (ma 4), .int (nI L), .int (nI e9_115), .int (nI s9_115), .long (w9_115), .int (m9_115), .int (0)]), (ma 4, iE cB 120 (bt f))] H := hP
        have hD : va_D A [(ma 1, iE cI 382 (enc g lf)), (ma 0, oE 7 [.ref (ma 1), .ref (ma 2), .int (fi 0), .ref (ma 3), .ref (ma 4), .int (nI L), .int (nI e9_115), .int (nI s9_115), .long (w9_115), .int (m9_115), .int (0)]), (ma 4, iE cB 120 (bt f))] := hD
        refine lv_aload_n hx hb dX7_readsBay_83 rfl (lv_at hl 1 rfl) ?_
        refine lv_iconst (v := 0) hx hb dX7_readsBay_84 (by decide) ?_
        refine lv_iconst (v := 4) hx hb dX7_readsBay_85 (by decide) ?_
        refine cv_wi (As := [.int (0), .int (4)]) (rest := []) (tys := TYS cI cC cB cS) (ci := 7) (wr := [(ma 1, iE cI 382 (enc g lf))]) ⟨hx, hb, hml, hown, hts⟩ (c_X7_takesNumber l D cI cC cB cS _ (ma) (fi) (w9_115) (L) (f) (k9_115) (s9_115) (e9_115) (m9_115) (0) (0) (4) (hL) (hch) (by omega) ((Or.inl rfl))) (cwV 2 hts gX7_readsBay_X7_takesNumber rfl rfl rfl (by decide +kernel) ⟨Nat.le_of_ble_eq_true rfl, Nat.le_of_ble_eq_true rfl⟩) hK hP hD hS hA [1, 2] [0] rfl rfl (by decide) (by decide) (by decide) rfl rfl rfl rfl hl.1 (Nat.le_of_ble_eq_true rfl) dX7_readsBay_86 ⟨Nat.le_of_ble_eq_true rfl, Nat.le_of_ble_eq_true rfl⟩ (fun r_118 u_117 H locs hu_117 hP hD hS => ?_)
        have hP : va_P D vwCl [(ma 1, iE cI 382 (enc g lf)), (ma 0, oE 7 [.ref (ma 1), .ref (ma 2), .int (fi 0), .ref (ma 3), .ref (ma 4), .int (nI L), .int (nI u_117.1.2.2.1), .int (nI u_117.1.2.1), .long (u_117.1.2.2.2.1), .int (u_117.1.2.2.2.2), .int (u_117.2)]), (ma 4, iE cB 120 (bt f))] H := hP
        have hD : va_D A [(ma 1, iE cI 382 (enc g lf)), (ma 0, oE 7 [.ref (ma 1), .ref (ma 2), .int (fi 0), .ref (ma 3), .ref (ma 4), .int (nI L), .int (nI u_117.1.2.2.1), .int (nI u_117.1.2.1), .long (u_117.1.2.2.2.1), .int (u_117.1.2.2.2.2), .int (u_117.2)]), (ma 4, iE cB 120 (bt f))] := hD
        have hu_117 : TakeN f L 0 4 (0) (k9_115, s9_115, e9_115, w9_115, m9_115) r_118 u_117 := hu_117
        rcases takeN_cases hu_117 hnm_115 (by omega) (by omega) with ⟨⟨lv, hlv, hr_118⟩, hz_118, hg_118⟩ | ⟨hno_118, hn_118⟩
        · -- a number
          obtain ⟨⟨k9_118, s9_118, e9_118, w9_118, m9_118⟩, z9_118⟩ := u_117
          have hz_118 : z9_118 = 0 := hz_118
          subst hz_118
          have hlv : NumIn f k9_115 s9_115 e9_115 0 4 lv := hlv
          rw [show r_118 = nI lv from hr_118]
          have htok_118 : Tok f L e9_115 k9_118 s9_118 e9_118 := hg_118.1
          have hwd_118 : WdOf f k9_118 s9_118 e9_118 w9_118 := hg_118.2.1
          have hnm_118 : NmOf f k9_118 s9_118 e9_118 m9_118 := hg_118.2.2
          have hle_118 := htok_118.le (by omega)
          have heL_118 : e9_118 ≤ L := hle_118.2.2.1
          have hP : va_P D vwCl [(ma 1, iE cI 382 (enc g lf)), (ma 0, oE 7 [.ref (ma 1), .ref (ma 2), .int (fi 0), .ref (ma 3), .ref (ma 4), .int (nI L), .int (nI e9_118), .int (nI s9_118), .long (w9_118), .int (m9_118), .int (0)]), (ma 4, iE cB 120 (bt f))] H := hP
          have hD : va_D A [(ma 1, iE cI 382 (enc g lf)), (ma 0, oE 7 [.ref (ma 1), .ref (ma 2), .int (fi 0), .ref (ma 3), .ref (ma 4), .int (nI L), .int (nI e9_118), .int (nI s9_118), .long (w9_118), .int (m9_118), .int (0)]), (ma 4, iE cB 120 (bt f))] := hD
          refine lv_istore_n (lv' := [(2, .int (nI lv)), (1, .int (1)), (0, .ref (ma 0))]) hx hb dX7_readsBay_89 rfl hl (by decide) rfl (fun ls hl => ?_)
          refine lv_aload_n hx hb dX7_readsBay_90 rfl (lv_at hl 2 rfl) ?_
          refine va_get (D := D) (ci := 7) (v := .int (m9_118)) (C := RX7) (T := TX7) (N := 11) hx hb hts (by decide +kernel) hown hK.1 hP 1 rfl rfl 9 (by decide) (hts (.fieldLink RX7 95 "ParkingGarageModel" "number" "I") (by decide +kernel)) (fun _ h9 => h9) rfl dX7_readsBay_91 ?_
          refine lv_istore_n (lv' := [(3, .int (m9_118)), (2, .int (nI lv)), (1, .int (1)), (0, .ref (ma 0))]) hx hb dX7_readsBay_94 rfl hl (by decide) rfl (fun ls hl => ?_)
          refine lv_aload_n hx hb dX7_readsBay_95 rfl (lv_at hl 3 rfl) ?_
          refine lv_iload_n hx hb dX7_readsBay_96 rfl (lv_at hl 0 rfl) ?_
          refine lv_iconst (v := 0) hx hb dX7_readsBay_97 (by decide) ?_
          refine lv_bipush (v := 99) hx hb dX7_readsBay_98 (by decide) ?_
          refine cs_i (As := [.int (m9_118), .int (0), .int (99)]) (rest := [.ref (ma 0)]) (tys := TYS cI cC cB cS) ⟨hx, hb, hml, hown, hts⟩ (c_X7_in l D cI cC cB cS (m9_118) (0) (99)) (va_cwS 3 hts gX7_readsBay_X7_in rfl rfl rfl (by decide +kernel) ⟨Nat.le_of_ble_eq_true rfl, Nat.le_of_ble_eq_true rfl⟩) hK hP [] rfl rfl rfl hl.1 (Nat.le_of_ble_eq_true rfl) dX7_readsBay_100 ⟨Nat.le_of_ble_eq_true rfl, Nat.le_of_ble_eq_true rfl⟩ (fun r_120 hr_120 => ?_)
          rcases (show Yes (0 ≤ m9_118 ∧ m9_118 ≤ 99) r_120 from hr_120) with ⟨rfl, h_121⟩ | ⟨rfl, h_121⟩
          · -- X7_in t
            obtain ⟨ps, hps, hpe⟩ := nm_yes (lo := 0) (hi := 99) hnm_118 (by decide) h_121 (by decide)
            subst hpe
            refine if_eq_f (tgt := 119) hx hb (by decide) dX7_readsBay_103 (by decide) ?_
            refine lv_aload_n hx hb dX7_readsBay_106 rfl (lv_at hl 3 rfl) ?_
            refine lv_iload_n hx hb dX7_readsBay_107 rfl (lv_at hl 1 rfl) ?_
            refine lv_iload_n hx hb dX7_readsBay_108 rfl (lv_at hl 0 rfl) ?_
            refine cv_i (As := [.int (nI lv), .int (nI ps)]) (rest := [.ref (ma 0)]) (tys := TYS cI cC cB cS) (ci := 7) ⟨hx, hb, hml, hown, hts⟩ (c_X7_isTaken l D cI cC cB cS (ma) ((fun j => [fi 0, nI L, nI e9_118, nI s9_118, nI ps, 0].getD j 0)) (w9_118) (g) (lf) (n) (nI lv) (nI ps) (hn) (hnb)) (cwV 2 hts gX7_readsBay_X7_isTaken rfl rfl rfl (by decide +kernel) ⟨Nat.le_of_ble_eq_true rfl, Nat.le_of_ble_eq_true rfl⟩) hK hP [1, 0] rfl rfl rfl rfl rfl hl.1 (Nat.le_of_ble_eq_true rfl) dX7_readsBay_109 ⟨Nat.le_of_ble_eq_true rfl, Nat.le_of_ble_eq_true rfl⟩ (fun r_122 hr_122 => ?_)
            rcases (show Yes (∃ w, w < n ∧ g 4 w = nI lv ∧ g 5 w = nI ps) r_122 from hr_122) with ⟨rfl, h_123⟩ | ⟨rfl, h_123⟩
            · -- X7_isTaken t
              refine if_ne_t (tgt := 119) hx hb (by decide) dX7_readsBay_112 (by decide) ?_
              refine lv_iconst (v := 0) hx hb dX7_readsBay_119 (by decide) ?_
              refine cv_wv (As := [.int (0)]) (rest := []) (tys := TYS cI cC cB cS) (ci := 7) (wr := [(ma 1, iE cI 382 (enc g lf))]) ⟨hx, hb, hml, hown, hts⟩ (c_X7_takes l D cI cC cB cS _ (ma) (fi) (w9_118) (L) (f) (k9_118) (s9_118) (e9_118) (nI ps) (0) (0) (hL) (hch) (by omega) ((Or.inl rfl)) ((Or.inl rfl))) (cwV 1 hts gX7_readsBay_X7_takes rfl rfl rfl (by decide +kernel) ⟨Nat.le_of_ble_eq_true rfl, Nat.le_of_ble_eq_true rfl⟩) hK hP hD hS hA [1, 2] [0] rfl rfl (by decide) (by decide) (by decide) rfl rfl rfl rfl hl.1 (Nat.le_of_ble_eq_true rfl) dX7_readsBay_120 ⟨Nat.le_of_ble_eq_true rfl, Nat.le_of_ble_eq_true rfl⟩ (fun u_124 H locs hu_124 hP hD hS => ?_)
              have hP : va_P D vwCl [(ma 1, iE cI 382 (enc g lf)), (ma 0, oE 7 [.ref (ma 1), .ref (ma 2), .int (fi 0), .ref (ma 3), .ref (ma 4), .int (nI L), .int (nI u_124.1.2.2.1), .int (nI u_124.1.2.1), .long (u_124.1.2.2.2.1), .int (u_124.1.2.2.2.2), .int (u_124.2)]), (ma 4, iE cB 120 (bt f))] H := hP
              have hD : va_D A [(ma 1, iE cI 382 (enc g lf)), (ma 0, oE 7 [.ref (ma 1), .ref (ma 2), .int (fi 0), .ref (ma 3), .ref (ma 4), .int (nI L), .int (nI u_124.1.2.2.1), .int (nI u_124.1.2.1), .long (u_124.1.2.2.2.1), .int (u_124.1.2.2.2.2), .int (u_124.2)]), (ma 4, iE cB 120 (bt f))] := hD
              have hu_124 : TakeR f L (0) (0) (k9_118, s9_118, e9_118, w9_118, nI ps) u_124 := hu_124
              have hn_124 := take_no hu_124 (fun q9 => absurd q9.2 (by decide))
              subst hn_124
              have hP : va_P D vwCl [(ma 1, iE cI 382 (enc g lf)), (ma 0, oE 7 [.ref (ma 1), .ref (ma 2), .int (fi 0), .ref (ma 3), .ref (ma 4), .int (nI L), .int (nI e9_118), .int (nI s9_118), .long (w9_118), .int (nI ps), .int (1)]), (ma 4, iE cB 120 (bt f))] H := hP
              have hD : va_D A [(ma 1, iE cI 382 (enc g lf)), (ma 0, oE 7 [.ref (ma 1), .ref (ma 2), .int (fi 0), .ref (ma 3), .ref (ma 4), .int (nI L), .int (nI e9_118), .int (nI s9_118), .long (w9_118), .int (nI ps), .int (1)]), (ma 4, iE cB 120 (bt f))] := hD
              refine lv_aload_n hx hb dX7_readsBay_123 rfl (lv_at hl 3 rfl) ?_
              refine va_get (D := D) (ci := 7) (v := .int (1)) (C := RX7) (T := TX7) (N := 11) hx hb hts (by decide +kernel) hown hK.1 hP 1 rfl rfl 10 (by decide) (hts (.fieldLink RX7 102 "ParkingGarageModel" "isWrong" "Z") (by decide +kernel)) (fun _ h9 => h9) rfl dX7_readsBay_124 ?_
              refine if_ne_t (tgt := 143) hx hb (by decide) dX7_readsBay_127 (by decide) ?_
              exact wr_vret (((k9_118, s9_118, e9_118, w9_118, nI ps), 1, g)) hx hb hr hlocks hS hP hD [1, 0, 2] rfl rfl (by decide) dX7_readsBay_143 (⟨⟨e9_115, by omega, htok_118, hwd_118, hnm_118⟩, Or.inl ⟨rfl, Or.inr ⟨hn30, k9_67, s9_67, e9_67, 1, htok_67, Or.inr ⟨hV_4_67, Or.inl ⟨hW_5_67, rfl⟩⟩, Or.inr ⟨by decide, Exists.intro k9_115 ⟨s9_115, e9_115, htok_115, Or.inl ⟨⟨lv, hlv⟩, lv, hlv, Exists.intro k9_118 ⟨s9_118, e9_118, htok_118, Or.inl ⟨⟨ps, hps⟩, ps, hps, Or.inl ⟨h_123, rfl⟩⟩⟩⟩⟩⟩⟩⟩⟩)
            · -- X7_isTaken f
              refine if_ne_f (tgt := 119) hx hb rfl dX7_readsBay_112 (by decide) ?_
              refine lv_iconst (v := 1) hx hb dX7_readsBay_115 (by decide) ?_
              refine lv_goto (tgt := 120) hx hb dX7_readsBay_116 (by decide) ?_
              refine cv_wv (As := [.int (1)]) (rest := []) (tys := TYS cI cC cB cS) (ci := 7) (wr := [(ma 1, iE cI 382 (enc g lf))]) ⟨hx, hb, hml, hown, hts⟩ (c_X7_takes l D cI cC cB cS _ (ma) (fi) (w9_118) (L) (f) (k9_118) (s9_118) (e9_118) (nI ps) (0) (1) (hL) (hch) (by omega) ((Or.inl rfl)) ((Or.inr rfl))) (cwV 1 hts gX7_readsBay_X7_takes rfl rfl rfl (by decide +kernel) ⟨Nat.le_of_ble_eq_true rfl, Nat.le_of_ble_eq_true rfl⟩) hK hP hD hS hA [1, 2] [0] rfl rfl (by decide) (by decide) (by decide) rfl rfl rfl rfl hl.1 (Nat.le_of_ble_eq_true rfl) dX7_readsBay_120 ⟨Nat.le_of_ble_eq_true rfl, Nat.le_of_ble_eq_true rfl⟩ (fun u_126 H locs hu_126 hP hD hS => ?_)
              have hP : va_P D vwCl [(ma 1, iE cI 382 (enc g lf)), (ma 0, oE 7 [.ref (ma 1), .ref (ma 2), .int (fi 0), .ref (ma 3), .ref (ma 4), .int (nI L), .int (nI u_126.1.2.2.1), .int (nI u_126.1.2.1), .long (u_126.1.2.2.2.1), .int (u_126.1.2.2.2.2), .int (u_126.2)]), (ma 4, iE cB 120 (bt f))] H := hP
              have hD : va_D A [(ma 1, iE cI 382 (enc g lf)), (ma 0, oE 7 [.ref (ma 1), .ref (ma 2), .int (fi 0), .ref (ma 3), .ref (ma 4), .int (nI L), .int (nI u_126.1.2.2.1), .int (nI u_126.1.2.1), .long (u_126.1.2.2.2.1), .int (u_126.1.2.2.2.2), .int (u_126.2)]), (ma 4, iE cB 120 (bt f))] := hD
              have hu_126 : TakeR f L (0) (1) (k9_118, s9_118, e9_118, w9_118, nI ps) u_126 := hu_126
              obtain ⟨⟨k9_126, s9_126, e9_126, w9_126, m9_126⟩, z9_126⟩ := u_126
              obtain ⟨hz_126, hg_126⟩ := take_yes hu_126
              have hz_126 : z9_126 = 0 := hz_126
              subst hz_126
              have htok_126 : Tok f L e9_118 k9_126 s9_126 e9_126 := hg_126.1
              have hwd_126 : WdOf f k9_126 s9_126 e9_126 w9_126 := hg_126.2.1
              have hnm_126 : NmOf f k9_126 s9_126 e9_126 m9_126 := hg_126.2.2
              have hle_126 := htok_126.le (by omega)
              have heL_126 : e9_126 ≤ L := hle_126.2.2.1
              have hP : va_P D vwCl [(ma 1, iE cI 382 (enc g lf)), (ma 0, oE 7 [.ref (ma 1), .ref (ma 2), .int (fi 0), .ref (ma 3), .ref (ma 4), .int (nI L), .int (nI e9_126), .int (nI s9_126), .long (w9_126), .int (m9_126), .int (0)]), (ma 4, iE cB 120 (bt f))] H := hP
              have hD : va_D A [(ma 1, iE cI 382 (enc g lf)), (ma 0, oE 7 [.ref (ma 1), .ref (ma 2), .int (fi 0), .ref (ma 3), .ref (ma 4), .int (nI L), .int (nI e9_126), .int (nI s9_126), .long (w9_126), .int (m9_126), .int (0)]), (ma 4, iE cB 120 (bt f))] := hD
              refine lv_aload_n hx hb dX7_readsBay_123 rfl (lv_at hl 3 rfl) ?_
              refine va_get (D := D) (ci := 7) (v := .int (0)) (C := RX7) (T := TX7) (N := 11) hx hb hts (by decide +kernel) hown hK.1 hP 1 rfl rfl 10 (by decide) (hts (.fieldLink RX7 102 "ParkingGarageModel" "isWrong" "Z") (by decide +kernel)) (fun _ h9 => h9) rfl dX7_readsBay_124 ?_
              refine if_ne_f (tgt := 143) hx hb rfl dX7_readsBay_127 (by decide) ?_
              refine lv_aload_n hx hb dX7_readsBay_130 rfl (lv_at hl 3 rfl) ?_
              refine lv_aload_n hx hb dX7_readsBay_131 rfl (lv_at hl 3 rfl) ?_
              refine lv_iload_n hx hb dX7_readsBay_132 rfl (lv_at hl 1 rfl) ?_
              refine lv_iload_n hx hb dX7_readsBay_133 rfl (lv_at hl 0 rfl) ?_
              refine lv_iload_n hx hb dX7_readsBay_134 rfl (lv_at hl 2 rfl) ?_
              refine cv_wi (As := [.int (nI lv), .int (nI ps), .int (1)]) (rest := [.ref (ma 0)]) (tys := TYS cI cC cB cS) (ci := 7) (wr := [(ma 4, iE cB 120 (bt f))]) ⟨hx, hb, hml, hown, hts⟩ (c_X7_makes l D cI cC cB cS _ (ma) ((fun j => [fi 0, nI L, nI e9_126, nI s9_126, m9_126, 0].getD j 0)) (w9_126) (g) (lf) (n) (nI lv) (nI ps) (1) (hn) (hnf)) (cwV 3 hts gX7_readsBay_X7_makes rfl rfl rfl (by decide +kernel) ⟨Nat.le_of_ble_eq_true rfl, Nat.le_of_ble_eq_true rfl⟩) hK hP hD hS hA [1, 0] [2] rfl rfl (by decide) (by decide) (by decide) rfl rfl rfl rfl hl.1 (Nat.le_of_ble_eq_true rfl) dX7_readsBay_135 ⟨Nat.le_of_ble_eq_true rfl, Nat.le_of_ble_eq_true rfl⟩ (fun r_129 u_128 H locs hu_128 hP hD hS => ?_)
              have hP : va_P D vwCl [(ma 4, iE cB 120 (bt f)), (ma 0, oE 7 [.ref (ma 1), .ref (ma 2), .int (fi 0), .ref (ma 3), .ref (ma 4), .int (nI L), .int (nI e9_126), .int (nI s9_126), .long (w9_126), .int (m9_126), .int (0)]), (ma 1, iE cI 382 (enc (gAdd g n (nI lv) (nI ps) (1)) lf))] H := hP
              have hD : va_D A [(ma 4, iE cB 120 (bt f)), (ma 0, oE 7 [.ref (ma 1), .ref (ma 2), .int (fi 0), .ref (ma 3), .ref (ma 4), .int (nI L), .int (nI e9_126), .int (nI s9_126), .long (w9_126), .int (m9_126), .int (0)]), (ma 1, iE cI 382 (enc (gAdd g n (nI lv) (nI ps) (1)) lf))] := hD
              have hu_128 : r_129 = nI n := hu_128
              rw [show r_129 = nI n from hu_128]
              refine lv_iconst (v := 2) hx hb dX7_readsBay_138 (by decide) ?_
              refine cv_i (As := [.int (nI n), .int (2)]) (rest := []) (tys := TYS cI cC cB cS) (ci := 7) ⟨hx, hb, hml, hown, hts⟩ (c_X7_of l D cI cC cB cS (ma) ((fun j => [fi 0, nI L, nI e9_126, nI s9_126, m9_126, 0].getD j 0)) (w9_126) ((gAdd g n (nI lv) (nI ps) (1))) (lf) (n) (2) (by omega) (by omega)) (cwV 2 hts gX7_readsBay_X7_of rfl rfl rfl (by decide +kernel) ⟨Nat.le_of_ble_eq_true rfl, Nat.le_of_ble_eq_true rfl⟩) hK hP [1, 2] rfl rfl rfl rfl rfl hl.1 (Nat.le_of_ble_eq_true rfl) dX7_readsBay_139 ⟨Nat.le_of_ble_eq_true rfl, Nat.le_of_ble_eq_true rfl⟩ (fun r_130 hr_130 => ?_)
              have hr_130 : r_130 = ((gAdd g n (nI lv) (nI ps) (1)) 6) n := hr_130
              subst hr_130
              refine lv_istore_n (lv' := [(1, .int (((gAdd g n (nI lv) (nI ps) (1)) 6) n)), (3, .int (nI ps)), (2, .int (nI lv)), (0, .ref (ma 0))]) hx hb dX7_readsBay_142 rfl hl (by decide) rfl (fun ls hl => ?_)
              exact wr_vret (((k9_126, s9_126, e9_126, w9_126, m9_126), 0, (gAdd g n (nI lv) (nI ps) (1)))) hx hb hr hlocks hS hP hD [1, 2, 0] rfl rfl (by decide) dX7_readsBay_143 (⟨⟨e9_118, by omega, htok_126, hwd_126, hnm_126⟩, Or.inr ⟨rfl, fun o ho => Or.inr ⟨hn30, k9_67, s9_67, e9_67, 1, htok_67, Or.inr ⟨hV_4_67, Or.inl ⟨hW_5_67, rfl⟩⟩, Or.inr ⟨by decide, Exists.intro k9_115 ⟨s9_115, e9_115, htok_115, Or.inl ⟨⟨lv, hlv⟩, lv, hlv, Exists.intro k9_118 ⟨s9_118, e9_118, htok_118, Or.inl ⟨⟨ps, hps⟩, ps, hps, Or.inr ⟨h_123, Exists.intro k9_126 ⟨s9_126, e9_126, htok_126, ho⟩⟩⟩⟩⟩⟩⟩⟩⟩⟩)
          · -- X7_in f
            have hno9 := nm_no (lo := 0) (hi := 99) hnm_118 (by decide) h_121
            refine if_eq_t (tgt := 119) hx hb rfl dX7_readsBay_103 (by decide) ?_
            refine lv_iconst (v := 0) hx hb dX7_readsBay_119 (by decide) ?_
            refine cv_wv (As := [.int (0)]) (rest := []) (tys := TYS cI cC cB cS) (ci := 7) (wr := [(ma 1, iE cI 382 (enc g lf))]) ⟨hx, hb, hml, hown, hts⟩ (c_X7_takes l D cI cC cB cS _ (ma) (fi) (w9_118) (L) (f) (k9_118) (s9_118) (e9_118) (m9_118) (0) (0) (hL) (hch) (by omega) ((Or.inl rfl)) ((Or.inl rfl))) (cwV 1 hts gX7_readsBay_X7_takes rfl rfl rfl (by decide +kernel) ⟨Nat.le_of_ble_eq_true rfl, Nat.le_of_ble_eq_true rfl⟩) hK hP hD hS hA [1, 2] [0] rfl rfl (by decide) (by decide) (by decide) rfl rfl rfl rfl hl.1 (Nat.le_of_ble_eq_true rfl) dX7_readsBay_120 ⟨Nat.le_of_ble_eq_true rfl, Nat.le_of_ble_eq_true rfl⟩ (fun u_131 H locs hu_131 hP hD hS => ?_)
            have hP : va_P D vwCl [(ma 1, iE cI 382 (enc g lf)), (ma 0, oE 7 [.ref (ma 1), .ref (ma 2), .int (fi 0), .ref (ma 3), .ref (ma 4), .int (nI L), .int (nI u_131.1.2.2.1), .int (nI u_131.1.2.1), .long (u_131.1.2.2.2.1), .int (u_131.1.2.2.2.2), .int (u_131.2)]), (ma 4, iE cB 120 (bt f))] H := hP
            have hD : va_D A [(ma 1, iE cI 382 (enc g lf)), (ma 0, oE 7 [.ref (ma 1), .ref (ma 2), .int (fi 0), .ref (ma 3), .ref (ma 4), .int (nI L), .int (nI u_131.1.2.2.1), .int (nI u_131.1.2.1), .long (u_131.1.2.2.2.1), .int (u_131.1.2.2.2.2), .int (u_131.2)]), (ma 4, iE cB 120 (bt f))] := hD
            have hu_131 : TakeR f L (0) (0) (k9_118, s9_118, e9_118, w9_118, m9_118) u_131 := hu_131
            have hn_131 := take_no hu_131 (fun q9 => absurd q9.2 (by decide))
            subst hn_131
            have hP : va_P D vwCl [(ma 1, iE cI 382 (enc g lf)), (ma 0, oE 7 [.ref (ma 1), .ref (ma 2), .int (fi 0), .ref (ma 3), .ref (ma 4), .int (nI L), .int (nI e9_118), .int (nI s9_118), .long (w9_118), .int (m9_118), .int (1)]), (ma 4, iE cB 120 (bt f))] H := hP
            have hD : va_D A [(ma 1, iE cI 382 (enc g lf)), (ma 0, oE 7 [.ref (ma 1), .ref (ma 2), .int (fi 0), .ref (ma 3), .ref (ma 4), .int (nI L), .int (nI e9_118), .int (nI s9_118), .long (w9_118), .int (m9_118), .int (1)]), (ma 4, iE cB 120 (bt f))] := hD
            refine lv_aload_n hx hb dX7_readsBay_123 rfl (lv_at hl 3 rfl) ?_
            refine va_get (D := D) (ci := 7) (v := .int (1)) (C := RX7) (T := TX7) (N := 11) hx hb hts (by decide +kernel) hown hK.1 hP 1 rfl rfl 10 (by decide) (hts (.fieldLink RX7 102 "ParkingGarageModel" "isWrong" "Z") (by decide +kernel)) (fun _ h9 => h9) rfl dX7_readsBay_124 ?_
            refine if_ne_t (tgt := 143) hx hb (by decide) dX7_readsBay_127 (by decide) ?_
            exact wr_vret (((k9_118, s9_118, e9_118, w9_118, m9_118), 1, g)) hx hb hr hlocks hS hP hD [1, 0, 2] rfl rfl (by decide) dX7_readsBay_143 (⟨⟨e9_115, by omega, htok_118, hwd_118, hnm_118⟩, Or.inl ⟨rfl, Or.inr ⟨hn30, k9_67, s9_67, e9_67, 1, htok_67, Or.inr ⟨hV_4_67, Or.inl ⟨hW_5_67, rfl⟩⟩, Or.inr ⟨by decide, Exists.intro k9_115 ⟨s9_115, e9_115, htok_115, Or.inl ⟨⟨lv, hlv⟩, lv, hlv, Exists.intro k9_118 ⟨s9_118, e9_118, htok_118, Or.inr ⟨hno9, rfl⟩⟩⟩⟩⟩⟩⟩⟩)
        · -- none
          subst hn_118
          have hno_118 : ¬ ∃ v, NumIn f k9_115 s9_115 e9_115 0 4 v := hno_118
          have hP : va_P D vwCl [(ma 1, iE cI 382 (enc g lf)), (ma 0, oE 7 [.ref (ma 1), .ref (ma 2), .int (fi 0), .ref (ma 3), .ref (ma 4), .int (nI L), .int (nI e9_115), .int (nI s9_115), .long (w9_115), .int (m9_115), .int (1)]), (ma 4, iE cB 120 (bt f))] H := hP
          have hD : va_D A [(ma 1, iE cI 382 (enc g lf)), (ma 0, oE 7 [.ref (ma 1), .ref (ma 2), .int (fi 0), .ref (ma 3), .ref (ma 4), .int (nI L), .int (nI e9_115), .int (nI s9_115), .long (w9_115), .int (m9_115), .int (1)]), (ma 4, iE cB 120 (bt f))] := hD
          refine lv_istore_n (lv' := [(2, .int (r_118)), (1, .int (1)), (0, .ref (ma 0))]) hx hb dX7_readsBay_89 rfl hl (by decide) rfl (fun ls hl => ?_)
          refine lv_aload_n hx hb dX7_readsBay_90 rfl (lv_at hl 2 rfl) ?_
          refine va_get (D := D) (ci := 7) (v := .int (m9_115)) (C := RX7) (T := TX7) (N := 11) hx hb hts (by decide +kernel) hown hK.1 hP 1 rfl rfl 9 (by decide) (hts (.fieldLink RX7 95 "ParkingGarageModel" "number" "I") (by decide +kernel)) (fun _ h9 => h9) rfl dX7_readsBay_91 ?_
          refine lv_istore_n (lv' := [(3, .int (m9_115)), (2, .int (r_118)), (1, .int (1)), (0, .ref (ma 0))]) hx hb dX7_readsBay_94 rfl hl (by decide) rfl (fun ls hl => ?_)
          refine lv_aload_n hx hb dX7_readsBay_95 rfl (lv_at hl 3 rfl) ?_
          refine lv_iload_n hx hb dX7_readsBay_96 rfl (lv_at hl 0 rfl) ?_
          refine lv_iconst (v := 0) hx hb dX7_readsBay_97 (by decide) ?_
          refine lv_bipush (v := 99) hx hb dX7_readsBay_98 (by decide) ?_
          refine cs_i (As := [.int (m9_115), .int (0), .int (99)]) (rest := [.ref (ma 0)]) (tys := TYS cI cC cB cS) ⟨hx, hb, hml, hown, hts⟩ (c_X7_in l D cI cC cB cS (m9_115) (0) (99)) (va_cwS 3 hts gX7_readsBay_X7_in rfl rfl rfl (by decide +kernel) ⟨Nat.le_of_ble_eq_true rfl, Nat.le_of_ble_eq_true rfl⟩) hK hP [] rfl rfl rfl hl.1 (Nat.le_of_ble_eq_true rfl) dX7_readsBay_100 ⟨Nat.le_of_ble_eq_true rfl, Nat.le_of_ble_eq_true rfl⟩ (fun r_133 hr_133 => ?_)
          rcases (show Yes (0 ≤ m9_115 ∧ m9_115 ≤ 99) r_133 from hr_133) with ⟨rfl, h_134⟩ | ⟨rfl, h_134⟩
          · -- X7_in t
            refine if_eq_f (tgt := 119) hx hb (by decide) dX7_readsBay_103 (by decide) ?_
            refine lv_aload_n hx hb dX7_readsBay_106 rfl (lv_at hl 3 rfl) ?_
            refine lv_iload_n hx hb dX7_readsBay_107 rfl (lv_at hl 1 rfl) ?_
            refine lv_iload_n hx hb dX7_readsBay_108 rfl (lv_at hl 0 rfl) ?_
            refine cv_i (As := [.int (r_118), .int (m9_115)]) (rest := [.ref (ma 0)]) (tys := TYS cI cC cB cS) (ci := 7) ⟨hx, hb, hml, hown, hts⟩ (c_X7_isTaken l D cI cC cB cS (ma) ((fun j => [fi 0, nI L, nI e9_115, nI s9_115, m9_115, 1].getD j 0)) (w9_115) (g) (lf) (n) (r_118) (m9_115) (hn) (hnb)) (cwV 2 hts gX7_readsBay_X7_isTaken rfl rfl rfl (by decide +kernel) ⟨Nat.le_of_ble_eq_true rfl, Nat.le_of_ble_eq_true rfl⟩) hK hP [1, 0] rfl rfl rfl rfl rfl hl.1 (Nat.le_of_ble_eq_true rfl) dX7_readsBay_109 ⟨Nat.le_of_ble_eq_true rfl, Nat.le_of_ble_eq_true rfl⟩ (fun r_135 hr_135 => ?_)
            rcases (show Yes (∃ w, w < n ∧ g 4 w = r_118 ∧ g 5 w = m9_115) r_135 from hr_135) with ⟨rfl, h_136⟩ | ⟨rfl, h_136⟩
            · -- X7_isTaken t
              refine if_ne_t (tgt := 119) hx hb (by decide) dX7_readsBay_112 (by decide) ?_
              refine lv_iconst (v := 0) hx hb dX7_readsBay_119 (by decide) ?_
              refine cv_wv (As := [.int (0)]) (rest := []) (tys := TYS cI cC cB cS) (ci := 7) (wr := [(ma 1, iE cI 382 (enc g lf))]) ⟨hx, hb, hml, hown, hts⟩ (c_X7_takes l D cI cC cB cS _ (ma) (fi) (w9_115) (L) (f) (k9_115) (s9_115) (e9_115) (m9_115) (1) (0) (hL) (hch) (by omega) ((Or.inr rfl)) ((Or.inl rfl))) (cwV 1 hts gX7_readsBay_X7_takes rfl rfl rfl (by decide +kernel) ⟨Nat.le_of_ble_eq_true rfl, Nat.le_of_ble_eq_true rfl⟩) hK hP hD hS hA [1, 2] [0] rfl rfl (by decide) (by decide) (by decide) rfl rfl rfl rfl hl.1 (Nat.le_of_ble_eq_true rfl) dX7_readsBay_120 ⟨Nat.le_of_ble_eq_true rfl, Nat.le_of_ble_eq_true rfl⟩ (fun u_137 H locs hu_137 hP hD hS => ?_)
              have hP : va_P D vwCl [(ma 1, iE cI 382 (enc g lf)), (ma 0, oE 7 [.ref (ma 1), .ref (ma 2), .int (fi 0), .ref (ma 3), .ref (ma 4), .int (nI L), .int (nI u_137.1.2.2.1), .int (nI u_137.1.2.1), .long (u_137.1.2.2.2.1), .int (u_137.1.2.2.2.2), .int (u_137.2)]), (ma 4, iE cB 120 (bt f))] H := hP
              have hD : va_D A [(ma 1, iE cI 382 (enc g lf)), (ma 0, oE 7 [.ref (ma 1), .ref (ma 2), .int (fi 0), .ref (ma 3), .ref (ma 4), .int (nI L), .int (nI u_137.1.2.2.1), .int (nI u_137.1.2.1), .long (u_137.1.2.2.2.1), .int (u_137.1.2.2.2.2), .int (u_137.2)]), (ma 4, iE cB 120 (bt f))] := hD
              have hu_137 : TakeR f L (1) (0) (k9_115, s9_115, e9_115, w9_115, m9_115) u_137 := hu_137
              have hn_137 := take_no hu_137 (fun q9 => absurd q9.1 (by decide))
              subst hn_137
              have hP : va_P D vwCl [(ma 1, iE cI 382 (enc g lf)), (ma 0, oE 7 [.ref (ma 1), .ref (ma 2), .int (fi 0), .ref (ma 3), .ref (ma 4), .int (nI L), .int (nI e9_115), .int (nI s9_115), .long (w9_115), .int (m9_115), .int (1)]), (ma 4, iE cB 120 (bt f))] H := hP
              have hD : va_D A [(ma 1, iE cI 382 (enc g lf)), (ma 0, oE 7 [.ref (ma 1), .ref (ma 2), .int (fi 0), .ref (ma 3), .ref (ma 4), .int (nI L), .int (nI e9_115), .int (nI s9_115), .long (w9_115), .int (m9_115), .int (1)]), (ma 4, iE cB 120 (bt f))] := hD
              refine lv_aload_n hx hb dX7_readsBay_123 rfl (lv_at hl 3 rfl) ?_
              refine va_get (D := D) (ci := 7) (v := .int (1)) (C := RX7) (T := TX7) (N := 11) hx hb hts (by decide +kernel) hown hK.1 hP 1 rfl rfl 10 (by decide) (hts (.fieldLink RX7 102 "ParkingGarageModel" "isWrong" "Z") (by decide +kernel)) (fun _ h9 => h9) rfl dX7_readsBay_124 ?_
              refine if_ne_t (tgt := 143) hx hb (by decide) dX7_readsBay_127 (by decide) ?_
              exact wr_vret (((k9_115, s9_115, e9_115, w9_115, m9_115), 1, g)) hx hb hr hlocks hS hP hD [1, 0, 2] rfl rfl (by decide) dX7_readsBay_143 (⟨⟨e9_67, by omega, htok_115, hwd_115, hnm_115⟩, Or.inl ⟨rfl, Or.inr ⟨hn30, k9_67, s9_67, e9_67, 1, htok_67, Or.inr ⟨hV_4_67, Or.inl ⟨hW_5_67, rfl⟩⟩, Or.inr ⟨by decide, Exists.intro k9_115 ⟨s9_115, e9_115, htok_115, Or.inr ⟨hno_118, rfl⟩⟩⟩⟩⟩⟩)
            · -- X7_isTaken f
              refine if_ne_f (tgt := 119) hx hb rfl dX7_readsBay_112 (by decide) ?_
              refine lv_iconst (v := 1) hx hb dX7_readsBay_115 (by decide) ?_
              refine lv_goto (tgt := 120) hx hb dX7_readsBay_116 (by decide) ?_
              refine cv_wv (As := [.int (1)]) (rest := []) (tys := TYS cI cC cB cS) (ci := 7) (wr := [(ma 1, iE cI 382 (enc g lf))]) ⟨hx, hb, hml, hown, hts⟩ (c_X7_takes l D cI cC cB cS _ (ma) (fi) (w9_115) (L) (f) (k9_115) (s9_115) (e9_115) (m9_115) (1) (1) (hL) (hch) (by omega) ((Or.inr rfl)) ((Or.inr rfl))) (cwV 1 hts gX7_readsBay_X7_takes rfl rfl rfl (by decide +kernel) ⟨Nat.le_of_ble_eq_true rfl, Nat.le_of_ble_eq_true rfl⟩) hK hP hD hS hA [1, 2] [0] rfl rfl (by decide) (by decide) (by decide) rfl rfl rfl rfl hl.1 (Nat.le_of_ble_eq_true rfl) dX7_readsBay_120 ⟨Nat.le_of_ble_eq_true rfl, Nat.le_of_ble_eq_true rfl⟩ (fun u_139 H locs hu_139 hP hD hS => ?_)
              have hP : va_P D vwCl [(ma 1, iE cI 382 (enc g lf)), (ma 0, oE 7 [.ref (ma 1), .ref (ma 2), .int (fi 0), .ref (ma 3), .ref (ma 4), .int (nI L), .int (nI u_139.1.2.2.1), .int (nI u_139.1.2.1), .long (u_139.1.2.2.2.1), .int (u_139.1.2.2.2.2), .int (u_139.2)]), (ma 4, iE cB 120 (bt f))] H := hP
              have hD : va_D A [(ma 1, iE cI 382 (enc g lf)), (ma 0, oE 7 [.ref (ma 1), .ref (ma 2), .int (fi 0), .ref (ma 3), .ref (ma 4), .int (nI L), .int (nI u_139.1.2.2.1), .int (nI u_139.1.2.1), .long (u_139.1.2.2.2.1), .int (u_139.1.2.2.2.2), .int (u_139.2)]), (ma 4, iE cB 120 (bt f))] := hD
              have hu_139 : TakeR f L (1) (1) (k9_115, s9_115, e9_115, w9_115, m9_115) u_139 := hu_139
              have hn_139 := take_no hu_139 (fun q9 => absurd q9.1 (by decide))
              subst hn_139
              have hP : va_P D vwCl [(ma 1, iE cI 382 (enc g lf)), (ma 0, oE 7 [.ref (ma 1), .ref (ma 2), .int (fi 0), .ref (ma 3), .ref (ma 4), .int (nI L), .int (nI e9_115), .int (nI s9_115), .long (w9_115), .int (m9_115), .int (1)]), (ma 4, iE cB 120 (bt f))] H := hP
              have hD : va_D A [(ma 1, iE cI 382 (enc g lf)), (ma 0, oE 7 [.ref (ma 1), .ref (ma 2), .int (fi 0), .ref (ma 3), .ref (ma 4), .int (nI L), .int (nI e9_115), .int (nI s9_115), .long (w9_115), .int (m9_115), .int (1)]), (ma 4, iE cB 120 (bt f))] := hD
              refine lv_aload_n hx hb dX7_readsBay_123 rfl (lv_at hl 3 rfl) ?_
              refine va_get (D := D) (ci := 7) (v := .int (1)) (C := RX7) (T := TX7) (N := 11) hx hb hts (by decide +kernel) hown hK.1 hP 1 rfl rfl 10 (by decide) (hts (.fieldLink RX7 102 "ParkingGarageModel" "isWrong" "Z") (by decide +kernel)) (fun _ h9 => h9) rfl dX7_readsBay_124 ?_
              refine if_ne_t (tgt := 143) hx hb (by decide) dX7_readsBay_127 (by decide) ?_
              exact wr_vret (((k9_115, s9_115, e9_115, w9_115, m9_115), 1, g)) hx hb hr hlocks hS hP hD [1, 0, 2] rfl rfl (by decide) dX7_readsBay_143 (⟨⟨e9_67, by omega, htok_115, hwd_115, hnm_115⟩, Or.inl ⟨rfl, Or.inr ⟨hn30, k9_67, s9_67, e9_67, 1, htok_67, Or.inr ⟨hV_4_67, Or.inl ⟨hW_5_67, rfl⟩⟩, Or.inr ⟨by decide, Exists.intro k9_115 ⟨s9_115, e9_115, htok_115, Or.inr ⟨hno_118, rfl⟩⟩⟩⟩⟩⟩)
          · -- X7_in f
            refine if_eq_t (tgt := 119) hx hb rfl dX7_readsBay_103 (by decide) ?_
            refine lv_iconst (v := 0) hx hb dX7_readsBay_119 (by decide) ?_
            refine cv_wv (As := [.int (0)]) (rest := []) (tys := TYS cI cC cB cS) (ci := 7) (wr := [(ma 1, iE cI 382 (enc g lf))]) ⟨hx, hb, hml, hown, hts⟩ (c_X7_takes l D cI cC cB cS _ (ma) (fi) (w9_115) (L) (f) (k9_115) (s9_115) (e9_115) (m9_115) (1) (0) (hL) (hch) (by omega) ((Or.inr rfl)) ((Or.inl rfl))) (cwV 1 hts gX7_readsBay_X7_takes rfl rfl rfl (by decide +kernel) ⟨Nat.le_of_ble_eq_true rfl, Nat.le_of_ble_eq_true rfl⟩) hK hP hD hS hA [1, 2] [0] rfl rfl (by decide) (by decide) (by decide) rfl rfl rfl rfl hl.1 (Nat.le_of_ble_eq_true rfl) dX7_readsBay_120 ⟨Nat.le_of_ble_eq_true rfl, Nat.le_of_ble_eq_true rfl⟩ (fun u_141 H locs hu_141 hP hD hS => ?_)
            have hP : va_P D vwCl [(ma 1, iE cI 382 (enc g lf)), (ma 0, oE 7 [.ref (ma 1), .ref (ma 2), .int (fi 0), .ref (ma 3), .ref (ma 4), .int (nI L), .int (nI u_141.1.2.2.1), .int (nI u_141.1.2.1), .long (u_141.1.2.2.2.1), .int (u_141.1.2.2.2.2), .int (u_141.2)]), (ma 4, iE cB 120 (bt f))] H := hP
            have hD : va_D A [(ma 1, iE cI 382 (enc g lf)), (ma 0, oE 7 [.ref (ma 1), .ref (ma 2), .int (fi 0), .ref (ma 3), .ref (ma 4), .int (nI L), .int (nI u_141.1.2.2.1), .int (nI u_141.1.2.1), .long (u_141.1.2.2.2.1), .int (u_141.1.2.2.2.2), .int (u_141.2)]), (ma 4, iE cB 120 (bt f))] := hD
            have hu_141 : TakeR f L (1) (0) (k9_115, s9_115, e9_115, w9_115, m9_115) u_141 := hu_141
            have hn_141 := take_no hu_141 (fun q9 => absurd q9.1 (by decide))
            subst hn_141
            have hP : va_P D vwCl [(ma 1, iE cI 382 (enc g lf)), (ma 0, oE 7 [.ref (ma 1), .ref (ma 2), .int (fi 0), .ref (ma 3), .ref (ma 4), .int (nI L), .int (nI e9_115), .int (nI s9_115), .long (w9_115), .int (m9_115), .int (1)]), (ma 4, iE cB 120 (bt f))] H := hP
            have hD : va_D A [(ma 1, iE cI 382 (enc g lf)), (ma 0, oE 7 [.ref (ma 1), .ref (ma 2), .int (fi 0), .ref (ma 3), .ref (ma 4), .int (nI L), .int (nI e9_115), .int (nI s9_115), .long (w9_115), .int (m9_115), .int (1)]), (ma 4, iE cB 120 (bt f))] := hD
            refine lv_aload_n hx hb dX7_readsBay_123 rfl (lv_at hl 3 rfl) ?_
            refine va_get (D := D) (ci := 7) (v := .int (1)) (C := RX7) (T := TX7) (N := 11) hx hb hts (by decide +kernel) hown hK.1 hP 1 rfl rfl 10 (by decide) (hts (.fieldLink RX7 102 "ParkingGarageModel" "isWrong" "Z") (by decide +kernel)) (fun _ h9 => h9) rfl dX7_readsBay_124 ?_
            refine if_ne_t (tgt := 143) hx hb (by decide) dX7_readsBay_127 (by decide) ?_
            exact wr_vret (((k9_115, s9_115, e9_115, w9_115, m9_115), 1, g)) hx hb hr hlocks hS hP hD [1, 0, 2] rfl rfl (by decide) dX7_readsBay_143 (⟨⟨e9_67, by omega, htok_115, hwd_115, hnm_115⟩, Or.inl ⟨rfl, Or.inr ⟨hn30, k9_67, s9_67, e9_67, 1, htok_67, Or.inr ⟨hV_4_67, Or.inl ⟨hW_5_67, rfl⟩⟩, Or.inr ⟨by decide, Exists.intro k9_115 ⟨s9_115, e9_115, htok_115, Or.inr ⟨hno_118, rfl⟩⟩⟩⟩⟩⟩)
    · -- c_69: not lg_cmp (w9_67) (10354323) ≠ 0
      have hW_4_67 : Wrd f k9_67 s9_67 e9_67 4 := (hwd_67 4 (by decide)).mp (cmp_eq.mp c_69)
      refine lv_iconst (v := 0) hx hb dX7_readsBay_31 (by decide) ?_
      refine lv_goto (tgt := 67) hx hb dX7_readsBay_32 (by decide) ?_
      refine lv_istore_n (lv' := [(1, .int (0)), (0, .ref (ma 0))]) hx hb dX7_readsBay_67 rfl hl (by decide) rfl (fun ls hl => ?_)
      refine lv_aload_n hx hb dX7_readsBay_68 rfl (lv_at hl 1 rfl) ?_
      refine lv_iload_n hx hb dX7_readsBay_69 rfl (lv_at hl 0 rfl) ?_
      refine lv_bipush (v := -9) hx hb dX7_readsBay_70 (by decide) ?_
      refine lv_icmp_eq (tgt := 79) hx hb dX7_readsBay_72 (by decide) (fun c => absurd c (by decide)) (fun _ => ?_)
      refine lv_iconst (v := 1) hx hb dX7_readsBay_75 (by decide) ?_
      refine lv_goto (tgt := 80) hx hb dX7_readsBay_76 (by decide) ?_
      refine cv_wv (As := [.int (1)]) (rest := []) (tys := TYS cI cC cB cS) (ci := 7) (wr := [(ma 1, iE cI 382 (enc g lf))]) ⟨hx, hb, hml, hown, hts⟩ (c_X7_takes l D cI cC cB cS _ (ma) (fi) (w9_67) (L) (f) (k9_67) (s9_67) (e9_67) (m9_67) (0) (1) (hL) (hch) (by omega) ((Or.inl rfl)) ((Or.inr rfl))) (cwV 1 hts gX7_readsBay_X7_takes rfl rfl rfl (by decide +kernel) ⟨Nat.le_of_ble_eq_true rfl, Nat.le_of_ble_eq_true rfl⟩) hK hP hD hS hA [1, 2] [0] rfl rfl (by decide) (by decide) (by decide) rfl rfl rfl rfl hl.1 (Nat.le_of_ble_eq_true rfl) dX7_readsBay_80 ⟨Nat.le_of_ble_eq_true rfl, Nat.le_of_ble_eq_true rfl⟩ (fun u_143 H locs hu_143 hP hD hS => ?_)
      have hP : va_P D vwCl [(ma 1, iE cI 382 (enc g lf)), (ma 0, oE 7 [.ref (ma 1), .ref (ma 2), .int (fi 0), .ref (ma 3), .ref (ma 4), .int (nI L), .int (nI u_143.1.2.2.1), .int (nI u_143.1.2.1), .long (u_143.1.2.2.2.1), .int (u_143.1.2.2.2.2), .int (u_143.2)]), (ma 4, iE cB 120 (bt f))] H := hP
      have hD : va_D A [(ma 1, iE cI 382 (enc g lf)), (ma 0, oE 7 [.ref (ma 1), .ref (ma 2), .int (fi 0), .ref (ma 3), .ref (ma 4), .int (nI L), .int (nI u_143.1.2.2.1), .int (nI u_143.1.2.1), .long (u_143.1.2.2.2.1), .int (u_143.1.2.2.2.2), .int (u_143.2)]), (ma 4, iE cB 120 (bt f))] := hD
      have hu_143 : TakeR f L (0) (1) (k9_67, s9_67, e9_67, w9_67, m9_67) u_143 := hu_143
      obtain ⟨⟨k9_143, s9_143, e9_143, w9_143, m9_143⟩, z9_143⟩ := u_143
      obtain ⟨hz_143, hg_143⟩ := take_yes hu_143
      have hz_143 : z9_143 = 0 := hz_143
      subst hz_143
      have htok_143 : Tok f L e9_67 k9_143 s9_143 e9_143 := hg_143.1
      have hwd_143 : WdOf f k9_143 s9_143 e9_143 w9_143 := hg_143.2.1
      have hnm_143 : NmOf f k9_143 s9_143 e9_143 m9_143 := hg_143.2.2
      have hle_143 := htok_143.le (by omega)
      have heL_143 : e9_143 ≤ L := hle_143.2.2.1
      have hP : va_P D vwCl [(ma 1, iE cI 382 (enc g lf)), (ma 0, oE 7 [.ref (ma 1), .ref (ma 2), .int (fi 0), .ref (ma 3), .ref (ma 4), .int (nI L), .int (nI e9_143), .int (nI s9_143), .long (w9_143), .int (m9_143), .int (0)]), (ma 4, iE cB 120 (bt f))] H := hP
      have hD : va_D A [(ma 1, iE cI 382 (enc g lf)), (ma 0, oE 7 [.ref (ma 1), .ref (ma 2), .int (fi 0), .ref (ma 3), .ref (ma 4), .int (nI L), .int (nI e9_143), .int (nI s9_143), .long (w9_143), .int (m9_143), .int (0)]), (ma 4, iE cB 120 (bt f))] := hD
      refine lv_aload_n hx hb dX7_readsBay_83 rfl (lv_at hl 1 rfl) ?_
      refine lv_iconst (v := 0) hx hb dX7_readsBay_84 (by decide) ?_
      refine lv_iconst (v := 4) hx hb dX7_readsBay_85 (by decide) ?_
      refine cv_wi (As := [.int (0), .int (4)]) (rest := []) (tys := TYS cI cC cB cS) (ci := 7) (wr := [(ma 1, iE cI 382 (enc g lf))]) ⟨hx, hb, hml, hown, hts⟩ (c_X7_takesNumber l D cI cC cB cS _ (ma) (fi) (w9_143) (L) (f) (k9_143) (s9_143) (e9_143) (m9_143) (0) (0) (4) (hL) (hch) (by omega) ((Or.inl rfl))) (cwV 2 hts gX7_readsBay_X7_takesNumber rfl rfl rfl (by decide +kernel) ⟨Nat.le_of_ble_eq_true rfl, Nat.le_of_ble_eq_true rfl⟩) hK hP hD hS hA [1, 2] [0] rfl rfl (by decide) (by decide) (by decide) rfl rfl rfl rfl hl.1 (Nat.le_of_ble_eq_true rfl) dX7_readsBay_86 ⟨Nat.le_of_ble_eq_true rfl, Nat.le_of_ble_eq_true rfl⟩ (fun r_146 u_145 H locs hu_145 hP hD hS => ?_)
      have hP : va_P D vwCl [(ma 1, iE cI 382 (enc g lf)), (ma 0, oE 7 [.ref (ma 1), .ref (ma 2), .int (fi 0), .ref (ma 3), .ref (ma 4), .int (nI L), .int (nI u_145.1.2.2.1), .int (nI u_145.1.2.1), .long (u_145.1.2.2.2.1), .int (u_145.1.2.2.2.2), .int (u_145.2)]), (ma 4, iE cB 120 (bt f))] H := hP
      have hD : va_D A [(ma 1, iE cI 382 (enc g lf)), (ma 0, oE 7 [.ref (ma 1), .ref (ma 2), .int (fi 0), .ref (ma 3), .ref (ma 4), .int (nI L), .int (nI u_145.1.2.2.1), .int (nI u_145.1.2.1), .long (u_145.1.2.2.2.1), .int (u_145.1.2.2.2.2), .int (u_145.2)]), (ma 4, iE cB 120 (bt f))] := hD
      have hu_145 : TakeN f L 0 4 (0) (k9_143, s9_143, e9_143, w9_143, m9_143) r_146 u_145 := hu_145
      rcases takeN_cases hu_145 hnm_143 (by omega) (by omega) with ⟨⟨lv, hlv, hr_146⟩, hz_146, hg_146⟩ | ⟨hno_146, hn_146⟩
      · -- a number
        obtain ⟨⟨k9_146, s9_146, e9_146, w9_146, m9_146⟩, z9_146⟩ := u_145
        have hz_146 : z9_146 = 0 := hz_146
        subst hz_146
        have hlv : NumIn f k9_143 s9_143 e9_143 0 4 lv := hlv
        rw [show r_146 = nI lv from hr_146]
        have htok_146 : Tok f L e9_143 k9_146 s9_146 e9_146 := hg_146.1
        have hwd_146 : WdOf f k9_146 s9_146 e9_146 w9_146 := hg_146.2.1
        have hnm_146 : NmOf f k9_146 s9_146 e9_146 m9_146 := hg_146.2.2
        have hle_146 := htok_146.le (by omega)
        have heL_146 : e9_146 ≤ L := hle_146.2.2.1
        have hP : va_P D vwCl [(ma 1, iE cI 382 (enc g lf)), (ma 0, oE 7 [.ref (ma 1), .ref (ma 2), .int (fi 0), .ref (ma 3), .ref (ma 4), .int (nI L), .int (nI e9_146), .int (nI s9_146), .long (w9_146), .int (m9_146), .int (0)]), (ma 4, iE cB 120 (bt f))] H := hP
        have hD : va_D A [(ma 1, iE cI 382 (enc g lf)), (ma 0, oE 7 [.ref (ma 1), .ref (ma 2), .int (fi 0), .ref (ma 3), .ref (ma 4), .int (nI L), .int (nI e9_146), .int (nI s9_146), .long (w9_146), .int (m9_146), .int (0)]), (ma 4, iE cB 120 (bt f))] := hD
        refine lv_istore_n (lv' := [(2, .int (nI lv)), (1, .int (0)), (0, .ref (ma 0))]) hx hb dX7_readsBay_89 rfl hl (by decide) rfl (fun ls hl => ?_)
        refine lv_aload_n hx hb dX7_readsBay_90 rfl (lv_at hl 2 rfl) ?_
        refine va_get (D := D) (ci := 7) (v := .int (m9_146)) (C := RX7) (T := TX7) (N := 11) hx hb hts (by decide +kernel) hown hK.1 hP 1 rfl rfl 9 (by decide) (hts (.fieldLink RX7 95 "ParkingGarageModel" "number" "I") (by decide +kernel)) (fun _ h9 => h9) rfl dX7_readsBay_91 ?_
        refine lv_istore_n (lv' := [(3, .int (m9_146)), (2, .int (nI lv)), (1, .int (0)), (0, .ref (ma 0))]) hx hb dX7_readsBay_94 rfl hl (by decide) rfl (fun ls hl => ?_)
        refine lv_aload_n hx hb dX7_readsBay_95 rfl (lv_at hl 3 rfl) ?_
        refine lv_iload_n hx hb dX7_readsBay_96 rfl (lv_at hl 0 rfl) ?_
        refine lv_iconst (v := 0) hx hb dX7_readsBay_97 (by decide) ?_
        refine lv_bipush (v := 99) hx hb dX7_readsBay_98 (by decide) ?_
        refine cs_i (As := [.int (m9_146), .int (0), .int (99)]) (rest := [.ref (ma 0)]) (tys := TYS cI cC cB cS) ⟨hx, hb, hml, hown, hts⟩ (c_X7_in l D cI cC cB cS (m9_146) (0) (99)) (va_cwS 3 hts gX7_readsBay_X7_in rfl rfl rfl (by decide +kernel) ⟨Nat.le_of_ble_eq_true rfl, Nat.le_of_ble_eq_true rfl⟩) hK hP [] rfl rfl rfl hl.1 (Nat.le_of_ble_eq_true rfl) dX7_readsBay_100 ⟨Nat.le_of_ble_eq_true rfl, Nat.le_of_ble_eq_true rfl⟩ (fun r_148 hr_148 => ?_)
        rcases (show Yes (0 ≤ m9_146 ∧ m9_146 ≤ 99) r_148 from hr_148) with ⟨rfl, h_149⟩ | ⟨rfl, h_149⟩
        · -- X7_in t
          obtain ⟨ps, hps, hpe⟩ := nm_yes (lo := 0) (hi := 99) hnm_146 (by decide) h_149 (by decide)
          subst hpe
          refine if_eq_f (tgt := 119) hx hb (by decide) dX7_readsBay_103 (by decide) ?_
          refine lv_aload_n hx hb dX7_readsBay_106 rfl (lv_at hl 3 rfl) ?_
          refine lv_iload_n hx hb dX7_readsBay_107 rfl (lv_at hl 1 rfl) ?_
          refine lv_iload_n hx hb dX7_readsBay_108 rfl (lv_at hl 0 rfl) ?_
          refine cv_i (As := [.int (nI lv), .int (nI ps)]) (rest := [.ref (ma 0)]) (tys := TYS cI cC cB cS) (ci := 7) ⟨hx, hb, hml, hown, hts⟩ (c_X7_isTaken l D cI cC cB cS (ma) ((fun j => [fi 0, nI L, nI e9_146, nI s9_146, nI ps, 0].getD j 0)) (w9_146) (g) (lf) (n) (nI lv) (nI ps) (hn) (hnb)) (cwV 2 hts gX7_readsBay_X7_isTaken rfl rfl rfl (by decide +kernel) ⟨Nat.le_of_ble_eq_true rfl, Nat.le_of_ble_eq_true rfl⟩) hK hP [1, 0] rfl rfl rfl rfl rfl hl.1 (Nat.le_of_ble_eq_true rfl) dX7_readsBay_109 ⟨Nat.le_of_ble_eq_true rfl, Nat.le_of_ble_eq_true rfl⟩ (fun r_150 hr_150 => ?_)
          rcases (show Yes (∃ w, w < n ∧ g 4 w = nI lv ∧ g 5 w = nI ps) r_150 from hr_150) with ⟨rfl, h_151⟩ | ⟨rfl, h_151⟩
          · -- X7_isTaken t
            refine if_ne_t (tgt := 119) hx hb (by decide) dX7_readsBay_112 (by decide) ?_
            refine lv_iconst (v := 0) hx hb dX7_readsBay_119 (by decide) ?_
            refine cv_wv (As := [.int (0)]) (rest := []) (tys := TYS cI cC cB cS) (ci := 7) (wr := [(ma 1, iE cI 382 (enc g lf))]) ⟨hx, hb, hml, hown, hts⟩ (c_X7_takes l D cI cC cB cS _ (ma) (fi) (w9_146) (L) (f) (k9_146) (s9_146) (e9_146) (nI ps) (0) (0) (hL) (hch) (by omega) ((Or.inl rfl)) ((Or.inl rfl))) (cwV 1 hts gX7_readsBay_X7_takes rfl rfl rfl (by decide +kernel) ⟨Nat.le_of_ble_eq_true rfl, Nat.le_of_ble_eq_true rfl⟩) hK hP hD hS hA [1, 2] [0] rfl rfl (by decide) (by decide) (by decide) rfl rfl rfl rfl hl.1 (Nat.le_of_ble_eq_true rfl) dX7_readsBay_120 ⟨Nat.le_of_ble_eq_true rfl, Nat.le_of_ble_eq_true rfl⟩ (fun u_152 H locs hu_152 hP hD hS => ?_)
            have hP : va_P D vwCl [(ma 1, iE cI 382 (enc g lf)), (ma 0, oE 7 [.ref (ma 1), .ref (ma 2), .int (fi 0), .ref (ma 3), .ref (ma 4), .int (nI L), .int (nI u_152.1.2.2.1), .int (nI u_152.1.2.1), .long (u_152.1.2.2.2.1), .int (u_152.1.2.2.2.2), .int (u_152.2)]), (ma 4, iE cB 120 (bt f))] H := hP
            have hD : va_D A [(ma 1, iE cI 382 (enc g lf)), (ma 0, oE 7 [.ref (ma 1), .ref (ma 2), .int (fi 0), .ref (ma 3), .ref (ma 4), .int (nI L), .int (nI u_152.1.2.2.1), .int (nI u_152.1.2.1), .long (u_152.1.2.2.2.1), .int (u_152.1.2.2.2.2), .int (u_152.2)]), (ma 4, iE cB 120 (bt f))] := hD
            have hu_152 : TakeR f L (0) (0) (k9_146, s9_146, e9_146, w9_146, nI ps) u_152 := hu_152
            have hn_152 := take_no hu_152 (fun q9 => absurd q9.2 (by decide))
            subst hn_152
            have hP : va_P D vwCl [(ma 1, iE cI 382 (enc g lf)), (ma 0, oE 7 [.ref (ma 1), .ref (ma 2), .int (fi 0), .ref (ma 3), .ref (ma 4), .int (nI L), .int (nI e9_146), .int (nI s9_146), .long (w9_146), .int (nI ps), .int (1)]), (ma 4, iE cB 120 (bt f))] H := hP
            have hD : va_D A [(ma 1, iE cI 382 (enc g lf)), (ma 0, oE 7 [.ref (ma 1), .ref (ma 2), .int (fi 0), .ref (ma 3), .ref (ma 4), .int (nI L), .int (nI e9_146), .int (nI s9_146), .long (w9_146), .int (nI ps), .int (1)]), (ma 4, iE cB 120 (bt f))] := hD
            refine lv_aload_n hx hb dX7_readsBay_123 rfl (lv_at hl 3 rfl) ?_
            refine va_get (D := D) (ci := 7) (v := .int (1)) (C := RX7) (T := TX7) (N := 11) hx hb hts (by decide +kernel) hown hK.1 hP 1 rfl rfl 10 (by decide) (hts (.fieldLink RX7 102 "ParkingGarageModel" "isWrong" "Z") (by decide +kernel)) (fun _ h9 => h9) rfl dX7_readsBay_124 ?_
            refine if_ne_t (tgt := 143) hx hb (by decide) dX7_readsBay_127 (by decide) ?_
            exact wr_vret (((k9_146, s9_146, e9_146, w9_146, nI ps), 1, g)) hx hb hr hlocks hS hP hD [1, 0, 2] rfl rfl (by decide) dX7_readsBay_143 (⟨⟨e9_143, by omega, htok_146, hwd_146, hnm_146⟩, Or.inl ⟨rfl, Or.inr ⟨hn30, k9_67, s9_67, e9_67, 0, htok_67, Or.inl ⟨hW_4_67, rfl⟩, Or.inr ⟨by decide, Exists.intro k9_143 ⟨s9_143, e9_143, htok_143, Or.inl ⟨⟨lv, hlv⟩, lv, hlv, Exists.intro k9_146 ⟨s9_146, e9_146, htok_146, Or.inl ⟨⟨ps, hps⟩, ps, hps, Or.inl ⟨h_151, rfl⟩⟩⟩⟩⟩⟩⟩⟩⟩)
          · -- X7_isTaken f
            refine if_ne_f (tgt := 119) hx hb rfl dX7_readsBay_112 (by decide) ?_
            refine lv_iconst (v := 1) hx hb dX7_readsBay_115 (by decide) ?_
            refine lv_goto (tgt := 120) hx hb dX7_readsBay_116 (by decide) ?_
            refine cv_wv (As := [.int (1)]) (rest := []) (tys := TYS cI cC cB cS) (ci := 7) (wr := [(ma 1, iE cI 382 (enc g lf))]) ⟨hx, hb, hml, hown, hts⟩ (c_X7_takes l D cI cC cB cS _ (ma) (fi) (w9_146) (L) (f) (k9_146) (s9_146) (e9_146) (nI ps) (0) (1) (hL) (hch) (by omega) ((Or.inl rfl)) ((Or.inr rfl))) (cwV 1 hts gX7_readsBay_X7_takes rfl rfl rfl (by decide +kernel) ⟨Nat.le_of_ble_eq_true rfl, Nat.le_of_ble_eq_true rfl⟩) hK hP hD hS hA [1, 2] [0] rfl rfl (by decide) (by decide) (by decide) rfl rfl rfl rfl hl.1 (Nat.le_of_ble_eq_true rfl) dX7_readsBay_120 ⟨Nat.le_of_ble_eq_true rfl, Nat.le_of_ble_eq_true rfl⟩ (fun u_154 H locs hu_154 hP hD hS => ?_)
            have hP : va_P D vwCl [(ma 1, iE cI 382 (enc g lf)), (ma 0, oE 7 [.ref (ma 1), .ref (ma 2), .int (fi 0), .ref (ma 3), .ref (ma 4), .int (nI L), .int (nI u_154.1.2.2.1), .int (nI u_154.1.2.1), .long (u_154.1.2.2.2.1), .int (u_154.1.2.2.2.2), .int (u_154.2)]), (ma 4, iE cB 120 (bt f))] H := hP
            have hD : va_D A [(ma 1, iE cI 382 (enc g lf)), (ma 0, oE 7 [.ref (ma 1), .ref (ma 2), .int (fi 0), .ref (ma 3), .ref (ma 4), .int (nI L), .int (nI u_154.1.2.2.1), .int (nI u_154.1.2.1), .long (u_154.1.2.2.2.1), .int (u_154.1.2.2.2.2), .int (u_154.2)]), (ma 4, iE cB 120 (bt f))] := hD
            have hu_154 : TakeR f L (0) (1) (k9_146, s9_146, e9_146, w9_146, nI ps) u_154 := hu_154
            obtain ⟨⟨k9_154, s9_154, e9_154, w9_154, m9_154⟩, z9_154⟩ := u_154
            obtain ⟨hz_154, hg_154⟩ := take_yes hu_154
            have hz_154 : z9_154 = 0 := hz_154
            subst hz_154
            have htok_154 : Tok f L e9_146 k9_154 s9_154 e9_154 := hg_154.1
            have hwd_154 : WdOf f k9_154 s9_154 e9_154 w9_154 := hg_154.2.1
            have hnm_154 : NmOf f k9_154 s9_154 e9_154 m9_154 := hg_154.2.2
            have hle_154 := htok_154.le (by omega)
            have heL_154 : e9_154 ≤ L := hle_154.2.2.1
            have hP : va_P D vwCl [(ma 1, iE cI 382 (enc g lf)), (ma 0, oE 7 [.ref (ma 1), .ref (ma 2), .int (fi 0), .ref (ma 3), .ref (ma 4), .int (nI L), .int (nI e9_154), .int (nI s9_154), .long (w9_154), .int (m9_154), .int (0)]), (ma 4, iE cB 120 (bt f))] H := hP
            have hD : va_D A [(ma 1, iE cI 382 (enc g lf)), (ma 0, oE 7 [.ref (ma 1), .ref (ma 2), .int (fi 0), .ref (ma 3), .ref (ma 4), .int (nI L), .int (nI e9_154), .int (nI s9_154), .long (w9_154), .int (m9_154), .int (0)]), (ma 4, iE cB 120 (bt f))] := hD
            refine lv_aload_n hx hb dX7_readsBay_123 rfl (lv_at hl 3 rfl) ?_
            refine va_get (D := D) (ci := 7) (v := .int (0)) (C := RX7) (T := TX7) (N := 11) hx hb hts (by decide +kernel) hown hK.1 hP 1 rfl rfl 10 (by decide) (hts (.fieldLink RX7 102 "ParkingGarageModel" "isWrong" "Z") (by decide +kernel)) (fun _ h9 => h9) rfl dX7_readsBay_124 ?_
            refine if_ne_f (tgt := 143) hx hb rfl dX7_readsBay_127 (by decide) ?_
            refine lv_aload_n hx hb dX7_readsBay_130 rfl (lv_at hl 3 rfl) ?_
            refine lv_aload_n hx hb dX7_readsBay_131 rfl (lv_at hl 3 rfl) ?_
            refine lv_iload_n hx hb dX7_readsBay_132 rfl (lv_at hl 1 rfl) ?_
            refine lv_iload_n hx hb dX7_readsBay_133 rfl (lv_at hl 0 rfl) ?_
            refine lv_iload_n hx hb dX7_readsBay_134 rfl (lv_at hl 2 rfl) ?_
            refine cv_wi (As := [.int (nI lv), .int (nI ps), .int (0)]) (rest := [.ref (ma 0)]) (tys := TYS cI cC cB cS) (ci := 7) (wr := [(ma 4, iE cB 120 (bt f))]) ⟨hx, hb, hml, hown, hts⟩ (c_X7_makes l D cI cC cB cS _ (ma) ((fun j => [fi 0, nI L, nI e9_154, nI s9_154, m9_154, 0].getD j 0)) (w9_154) (g) (lf) (n) (nI lv) (nI ps) (0) (hn) (hnf)) (cwV 3 hts gX7_readsBay_X7_makes rfl rfl rfl (by decide +kernel) ⟨Nat.le_of_ble_eq_true rfl, Nat.le_of_ble_eq_true rfl⟩) hK hP hD hS hA [1, 0] [2] rfl rfl (by decide) (by decide) (by decide) rfl rfl rfl rfl hl.1 (Nat.le_of_ble_eq_true rfl) dX7_readsBay_135 ⟨Nat.le_of_ble_eq_true rfl, Nat.le_of_ble_eq_true rfl⟩ (fun r_157 u_156 H locs hu_156 hP hD hS => ?_)
            have hP : va_P D vwCl [(ma 4, iE cB 120 (bt f)), (ma 0, oE 7 [.ref (ma 1), .ref (ma 2), .int (fi 0), .ref (ma 3), .ref (ma 4), .int (nI L), .int (nI e9_154), .int (nI s9_154), .long (w9_154), .int (m9_154), .int (0)]), (ma 1, iE cI 382 (enc (gAdd g n (nI lv) (nI ps) (0)) lf))] H := hP
            have hD : va_D A [(ma 4, iE cB 120 (bt f)), (ma 0, oE 7 [.ref (ma 1), .ref (ma 2), .int (fi 0), .ref (ma 3), .ref (ma 4), .int (nI L), .int (nI e9_154), .int (nI s9_154), .long (w9_154), .int (m9_154), .int (0)]), (ma 1, iE cI 382 (enc (gAdd g n (nI lv) (nI ps) (0)) lf))] := hD
            have hu_156 : r_157 = nI n := hu_156
            rw [show r_157 = nI n from hu_156]
            refine lv_iconst (v := 2) hx hb dX7_readsBay_138 (by decide) ?_
            refine cv_i (As := [.int (nI n), .int (2)]) (rest := []) (tys := TYS cI cC cB cS) (ci := 7) ⟨hx, hb, hml, hown, hts⟩ (c_X7_of l D cI cC cB cS (ma) ((fun j => [fi 0, nI L, nI e9_154, nI s9_154, m9_154, 0].getD j 0)) (w9_154) ((gAdd g n (nI lv) (nI ps) (0))) (lf) (n) (2) (by omega) (by omega)) (cwV 2 hts gX7_readsBay_X7_of rfl rfl rfl (by decide +kernel) ⟨Nat.le_of_ble_eq_true rfl, Nat.le_of_ble_eq_true rfl⟩) hK hP [1, 2] rfl rfl rfl rfl rfl hl.1 (Nat.le_of_ble_eq_true rfl) dX7_readsBay_139 ⟨Nat.le_of_ble_eq_true rfl, Nat.le_of_ble_eq_true rfl⟩ (fun r_158 hr_158 => ?_)
            have hr_158 : r_158 = ((gAdd g n (nI lv) (nI ps) (0)) 6) n := hr_158
            subst hr_158
            refine lv_istore_n (lv' := [(1, .int (((gAdd g n (nI lv) (nI ps) (0)) 6) n)), (3, .int (nI ps)), (2, .int (nI lv)), (0, .ref (ma 0))]) hx hb dX7_readsBay_142 rfl hl (by decide) rfl (fun ls hl => ?_)
            exact wr_vret (((k9_154, s9_154, e9_154, w9_154, m9_154), 0, (gAdd g n (nI lv) (nI ps) (0)))) hx hb hr hlocks hS hP hD [1, 2, 0] rfl rfl (by decide) dX7_readsBay_143 (⟨⟨e9_146, by omega, htok_154, hwd_154, hnm_154⟩, Or.inr ⟨rfl, fun o ho => Or.inr ⟨hn30, k9_67, s9_67, e9_67, 0, htok_67, Or.inl ⟨hW_4_67, rfl⟩, Or.inr ⟨by decide, Exists.intro k9_143 ⟨s9_143, e9_143, htok_143, Or.inl ⟨⟨lv, hlv⟩, lv, hlv, Exists.intro k9_146 ⟨s9_146, e9_146, htok_146, Or.inl ⟨⟨ps, hps⟩, ps, hps, Or.inr ⟨h_151, Exists.intro k9_154 ⟨s9_154, e9_154, htok_154, ho⟩⟩⟩⟩⟩⟩⟩⟩⟩⟩)
        · -- X7_in f
          have hno9 := nm_no (lo := 0) (hi := 99) hnm_146 (by decide) h_149
          refine if_eq_t (tgt := 119) hx hb rfl dX7_readsBay_103 (by decide) ?_
          refine lv_iconst (v := 0) hx hb dX7_readsBay_119 (by decide) ?_
          refine cv_wv (As := [.int (0)]) (rest := []) (tys := TYS cI cC cB cS) (ci := 7) (wr := [(ma 1, iE cI 382 (enc g lf))]) ⟨hx, hb, hml, hown, hts⟩ (c_X7_takes l D cI cC cB cS _ (ma) (fi) (w9_146) (L) (f) (k9_146) (s9_146) (e9_146) (m9_146) (0) (0) (hL) (hch) (by omega) ((Or.inl rfl)) ((Or.inl rfl))) (cwV 1 hts gX7_readsBay_X7_takes rfl rfl rfl (by decide +kernel) ⟨Nat.le_of_ble_eq_true rfl, Nat.le_of_ble_eq_true rfl⟩) hK hP hD hS hA [1, 2] [0] rfl rfl (by decide) (by decide) (by decide) rfl rfl rfl rfl hl.1 (Nat.le_of_ble_eq_true rfl) dX7_readsBay_120 ⟨Nat.le_of_ble_eq_true rfl, Nat.le_of_ble_eq_true rfl⟩ (fun u_159 H locs hu_159 hP hD hS => ?_)
          have hP : va_P D vwCl [(ma 1, iE cI 382 (enc g lf)), (ma 0, oE 7 [.ref (ma 1), .ref (ma 2), .int (fi 0), .ref (ma 3), .ref (ma 4), .int (nI L), .int (nI u_159.1.2.2.1), .int (nI u_159.1.2.1), .long (u_159.1.2.2.2.1), .int (u_159.1.2.2.2.2), .int (u_159.2)]), (ma 4, iE cB 120 (bt f))] H := hP
          have hD : va_D A [(ma 1, iE cI 382 (enc g lf)), (ma 0, oE 7 [.ref (ma 1), .ref (ma 2), .int (fi 0), .ref (ma 3), .ref (ma 4), .int (nI L), .int (nI u_159.1.2.2.1), .int (nI u_159.1.2.1), .long (u_159.1.2.2.2.1), .int (u_159.1.2.2.2.2), .int (u_159.2)]), (ma 4, iE cB 120 (bt f))] := hD
          have hu_159 : TakeR f L (0) (0) (k9_146, s9_146, e9_146, w9_146, m9_146) u_159 := hu_159
          have hn_159 := take_no hu_159 (fun q9 => absurd q9.2 (by decide))
          subst hn_159
          have hP : va_P D vwCl [(ma 1, iE cI 382 (enc g lf)), (ma 0, oE 7 [.ref (ma 1), .ref (ma 2), .int (fi 0), .ref (ma 3), .ref (ma 4), .int (nI L), .int (nI e9_146), .int (nI s9_146), .long (w9_146), .int (m9_146), .int (1)]), (ma 4, iE cB 120 (bt f))] H := hP
          have hD : va_D A [(ma 1, iE cI 382 (enc g lf)), (ma 0, oE 7 [.ref (ma 1), .ref (ma 2), .int (fi 0), .ref (ma 3), .ref (ma 4), .int (nI L), .int (nI e9_146), .int (nI s9_146), .long (w9_146), .int (m9_146), .int (1)]), (ma 4, iE cB 120 (bt f))] := hD
          refine lv_aload_n hx hb dX7_readsBay_123 rfl (lv_at hl 3 rfl) ?_
          refine va_get (D := D) (ci := 7) (v := .int (1)) (C := RX7) (T := TX7) (N := 11) hx hb hts (by decide +kernel) hown hK.1 hP 1 rfl rfl 10 (by decide) (hts (.fieldLink RX7 102 "ParkingGarageModel" "isWrong" "Z") (by decide +kernel)) (fun _ h9 => h9) rfl dX7_readsBay_124 ?_
          refine if_ne_t (tgt := 143) hx hb (by decide) dX7_readsBay_127 (by decide) ?_
          exact wr_vret (((k9_146, s9_146, e9_146, w9_146, m9_146), 1, g)) hx hb hr hlocks hS hP hD [1, 0, 2] rfl rfl (by decide) dX7_readsBay_143 (⟨⟨e9_143, by omega, htok_146, hwd_146, hnm_146⟩, Or.inl ⟨rfl, Or.inr ⟨hn30, k9_67, s9_67, e9_67, 0, htok_67, Or.inl ⟨hW_4_67, rfl⟩, Or.inr ⟨by decide, Exists.intro k9_143 ⟨s9_143, e9_143, htok_143, Or.inl ⟨⟨lv, hlv⟩, lv, hlv, Exists.intro k9_146 ⟨s9_146, e9_146, htok_146, Or.inr ⟨hno9, rfl⟩⟩⟩⟩⟩⟩⟩⟩)
      · -- none
        subst hn_146
        have hno_146 : ¬ ∃ v, NumIn f k9_143 s9_143 e9_143 0 4 v := hno_146
        have hP : va_P D vwCl [(ma 1, iE cI 382 (enc g lf)), (ma 0, oE 7 [.ref (ma 1), .ref (ma 2), .int (fi 0), .ref (ma 3), .ref (ma 4), .int (nI L), .int (nI e9_143), .int (nI s9_143), .long (w9_143), .int (m9_143), .int (1)]), (ma 4, iE cB 120 (bt f))] H := hP
        have hD : va_D A [(ma 1, iE cI 382 (enc g lf)), (ma 0, oE 7 [.ref (ma 1), .ref (ma 2), .int (fi 0), .ref (ma 3), .ref (ma 4), .int (nI L), .int (nI e9_143), .int (nI s9_143), .long (w9_143), .int (m9_143), .int (1)]), (ma 4, iE cB 120 (bt f))] := hD
        refine lv_istore_n (lv' := [(2, .int (r_146)), (1, .int (0)), (0, .ref (ma 0))]) hx hb dX7_readsBay_89 rfl hl (by decide) rfl (fun ls hl => ?_)
        refine lv_aload_n hx hb dX7_readsBay_90 rfl (lv_at hl 2 rfl) ?_
        refine va_get (D := D) (ci := 7) (v := .int (m9_143)) (C := RX7) (T := TX7) (N := 11) hx hb hts (by decide +kernel) hown hK.1 hP 1 rfl rfl 9 (by decide) (hts (.fieldLink RX7 95 "ParkingGarageModel" "number" "I") (by decide +kernel)) (fun _ h9 => h9) rfl dX7_readsBay_91 ?_
        refine lv_istore_n (lv' := [(3, .int (m9_143)), (2, .int (r_146)), (1, .int (0)), (0, .ref (ma 0))]) hx hb dX7_readsBay_94 rfl hl (by decide) rfl (fun ls hl => ?_)
        refine lv_aload_n hx hb dX7_readsBay_95 rfl (lv_at hl 3 rfl) ?_
        refine lv_iload_n hx hb dX7_readsBay_96 rfl (lv_at hl 0 rfl) ?_
        refine lv_iconst (v := 0) hx hb dX7_readsBay_97 (by decide) ?_
        refine lv_bipush (v := 99) hx hb dX7_readsBay_98 (by decide) ?_
        refine cs_i (As := [.int (m9_143), .int (0), .int (99)]) (rest := [.ref (ma 0)]) (tys := TYS cI cC cB cS) ⟨hx, hb, hml, hown, hts⟩ (c_X7_in l D cI cC cB cS (m9_143) (0) (99)) (va_cwS 3 hts gX7_readsBay_X7_in rfl rfl rfl (by decide +kernel) ⟨Nat.le_of_ble_eq_true rfl, Nat.le_of_ble_eq_true rfl⟩) hK hP [] rfl rfl rfl hl.1 (Nat.le_of_ble_eq_true rfl) dX7_readsBay_100 ⟨Nat.le_of_ble_eq_true rfl, Nat.le_of_ble_eq_true rfl⟩ (fun r_161 hr_161 => ?_)
        rcases (show Yes (0 ≤ m9_143 ∧ m9_143 ≤ 99) r_161 from hr_161) with ⟨rfl, h_162⟩ | ⟨rfl, h_162⟩
        · -- X7_in t
          refine if_eq_f (tgt := 119) hx hb (by decide) dX7_readsBay_103 (by decide) ?_
          refine lv_aload_n hx hb dX7_readsBay_106 rfl (lv_at hl 3 rfl) ?_
          refine lv_iload_n hx hb dX7_readsBay_107 rfl (lv_at hl 1 rfl) ?_
          refine lv_iload_n hx hb dX7_readsBay_108 rfl (lv_at hl 0 rfl) ?_
          refine cv_i (As := [.int (r_146), .int (m9_143)]) (rest := [.ref (ma 0)]) (tys := TYS cI cC cB cS) (ci := 7) ⟨hx, hb, hml, hown, hts⟩ (c_X7_isTaken l D cI cC cB cS (ma) ((fun j => [fi 0, nI L, nI e9_143, nI s9_143, m9_143, 1].getD j 0)) (w9_143) (g) (lf) (n) (r_146) (m9_143) (hn) (hnb)) (cwV 2 hts gX7_readsBay_X7_isTaken rfl rfl rfl (by decide +kernel) ⟨Nat.le_of_ble_eq_true rfl, Nat.le_of_ble_eq_true rfl⟩) hK hP [1, 0] rfl rfl rfl rfl rfl hl.1 (Nat.le_of_ble_eq_true rfl) dX7_readsBay_109 ⟨Nat.le_of_ble_eq_true rfl, Nat.le_of_ble_eq_true rfl⟩ (fun r_163 hr_163 => ?_)
          rcases (show Yes (∃ w, w < n ∧ g 4 w = r_146 ∧ g 5 w = m9_143) r_163 from hr_163) with ⟨rfl, h_164⟩ | ⟨rfl, h_164⟩
          · -- X7_isTaken t
            refine if_ne_t (tgt := 119) hx hb (by decide) dX7_readsBay_112 (by decide) ?_
            refine lv_iconst (v := 0) hx hb dX7_readsBay_119 (by decide) ?_
            refine cv_wv (As := [.int (0)]) (rest := []) (tys := TYS cI cC cB cS) (ci := 7) (wr := [(ma 1, iE cI 382 (enc g lf))]) ⟨hx, hb, hml, hown, hts⟩ (c_X7_takes l D cI cC cB cS _ (ma) (fi) (w9_143) (L) (f) (k9_143) (s9_143) (e9_143) (m9_143) (1) (0) (hL) (hch) (by omega) ((Or.inr rfl)) ((Or.inl rfl))) (cwV 1 hts gX7_readsBay_X7_takes rfl rfl rfl (by decide +kernel) ⟨Nat.le_of_ble_eq_true rfl, Nat.le_of_ble_eq_true rfl⟩) hK hP hD hS hA [1, 2] [0] rfl rfl (by decide) (by decide) (by decide) rfl rfl rfl rfl hl.1 (Nat.le_of_ble_eq_true rfl) dX7_readsBay_120 ⟨Nat.le_of_ble_eq_true rfl, Nat.le_of_ble_eq_true rfl⟩ (fun u_165 H locs hu_165 hP hD hS => ?_)
            have hP : va_P D vwCl [(ma 1, iE cI 382 (enc g lf)), (ma 0, oE 7 [.ref (ma 1), .ref (ma 2), .int (fi 0), .ref (ma 3), .ref (ma 4), .int (nI L), .int (nI u_165.1.2.2.1), .int (nI u_165.1.2.1), .long (u_165.1.2.2.2.1), .int (u_165.1.2.2.2.2), .int (u_165.2)]), (ma 4, iE cB 120 (bt f))] H := hP
            have hD : va_D A [(ma 1, iE cI 382 (enc g lf)), (ma 0, oE 7 [.ref (ma 1), .ref (ma 2), .int (fi 0), .ref (ma 3), .ref (ma 4), .int (nI L), .int (nI u_165.1.2.2.1), .int (nI u_165.1.2.1), .long (u_165.1.2.2.2.1), .int (u_165.1.2.2.2.2), .int (u_165.2)]), (ma 4, iE cB 120 (bt f))] := hD
            have hu_165 : TakeR f L (1) (0) (k9_143, s9_143, e9_143, w9_143, m9_143) u_165 := hu_165
            have hn_165 := take_no hu_165 (fun q9 => absurd q9.1 (by decide))
            subst hn_165
            have hP : va_P D vwCl [(ma 1, iE cI 382 (enc g lf)), (ma 0, oE 7 [.ref (ma 1), .ref (ma 2), .int (fi 0), .ref (ma 3), .ref (ma 4), .int (nI L), .int (nI e9_143), .int (nI s9_143), .long (w9_143), .int (m9_143), .int (1)]), (ma 4, iE cB 120 (bt f))] H := hP
            have hD : va_D A [(ma 1, iE cI 382 (enc g lf)), (ma 0, oE 7 [.ref (ma 1), .ref (ma 2), .int (fi 0), .ref (ma 3), .ref (ma 4), .int (nI L), .int (nI e9_143), .int (nI s9_143), .long (w9_143), .int (m9_143), .int (1)]), (ma 4, iE cB 120 (bt f))] := hD
            refine lv_aload_n hx hb dX7_readsBay_123 rfl (lv_at hl 3 rfl) ?_
            refine va_get (D := D) (ci := 7) (v := .int (1)) (C := RX7) (T := TX7) (N := 11) hx hb hts (by decide +kernel) hown hK.1 hP 1 rfl rfl 10 (by decide) (hts (.fieldLink RX7 102 "ParkingGarageModel" "isWrong" "Z") (by decide +kernel)) (fun _ h9 => h9) rfl dX7_readsBay_124 ?_
            refine if_ne_t (tgt := 143) hx hb (by decide) dX7_readsBay_127 (by decide) ?_
            exact wr_vret (((k9_143, s9_143, e9_143, w9_143, m9_143), 1, g)) hx hb hr hlocks hS hP hD [1, 0, 2] rfl rfl (by decide) dX7_readsBay_143 (⟨⟨e9_67, by omega, htok_143, hwd_143, hnm_143⟩, Or.inl ⟨rfl, Or.inr ⟨hn30, k9_67, s9_67, e9_67, 0, htok_67, Or.inl ⟨hW_4_67, rfl⟩, Or.inr ⟨by decide, Exists.intro k9_143 ⟨s9_143, e9_143, htok_143, Or.inr ⟨hno_146, rfl⟩⟩⟩⟩⟩⟩)
          · -- X7_isTaken f
            refine if_ne_f (tgt := 119) hx hb rfl dX7_readsBay_112 (by decide) ?_
            refine lv_iconst (v := 1) hx hb dX7_readsBay_115 (by decide) ?_
            refine lv_goto (tgt := 120) hx hb dX7_readsBay_116 (by decide) ?_
            refine cv_wv (As := [.int (1)]) (rest := []) (tys := TYS cI cC cB cS) (ci := 7) (wr := [(ma 1, iE cI 382 (enc g lf))]) ⟨hx, hb, hml, hown, hts⟩ (c_X7_takes l D cI cC cB cS _ (ma) (fi) (w9_143) (L) (f) (k9_143) (s9_143) (e9_143) (m9_143) (1) (1) (hL) (hch) (by omega) ((Or.inr rfl)) ((Or.inr rfl))) (cwV 1 hts gX7_readsBay_X7_takes rfl rfl rfl (by decide +kernel) ⟨Nat.le_of_ble_eq_true rfl, Nat.le_of_ble_eq_true rfl⟩) hK hP hD hS hA [1, 2] [0] rfl rfl (by decide) (by decide) (by decide) rfl rfl rfl rfl hl.1 (Nat.le_of_ble_eq_true rfl) dX7_readsBay_120 ⟨Nat.le_of_ble_eq_true rfl, Nat.le_of_ble_eq_true rfl⟩ (fun u_167 H locs hu_167 hP hD hS => ?_)
            have hP : va_P D vwCl [(ma 1, iE cI 382 (enc g lf)), (ma 0, oE 7 [.ref (ma 1), .ref (ma 2), .int (fi 0), .ref (ma 3), .ref (ma 4), .int (nI L), .int (nI u_167.1.2.2.1), .int (nI u_167.1.2.1), .long (u_167.1.2.2.2.1), .int (u_167.1.2.2.2.2), .int (u_167.2)]), (ma 4, iE cB 120 (bt f))] H := hP
            have hD : va_D A [(ma 1, iE cI 382 (enc g lf)), (ma 0, oE 7 [.ref (ma 1), .ref (ma 2), .int (fi 0), .ref (ma 3), .ref (ma 4), .int (nI L), .int (nI u_167.1.2.2.1), .int (nI u_167.1.2.1), .long (u_167.1.2.2.2.1), .int (u_167.1.2.2.2.2), .int (u_167.2)]), (ma 4, iE cB 120 (bt f))] := hD
            have hu_167 : TakeR f L (1) (1) (k9_143, s9_143, e9_143, w9_143, m9_143) u_167 := hu_167
            have hn_167 := take_no hu_167 (fun q9 => absurd q9.1 (by decide))
            subst hn_167
            have hP : va_P D vwCl [(ma 1, iE cI 382 (enc g lf)), (ma 0, oE 7 [.ref (ma 1), .ref (ma 2), .int (fi 0), .ref (ma 3), .ref (ma 4), .int (nI L), .int (nI e9_143), .int (nI s9_143), .long (w9_143), .int (m9_143), .int (1)]), (ma 4, iE cB 120 (bt f))] H := hP
            have hD : va_D A [(ma 1, iE cI 382 (enc g lf)), (ma 0, oE 7 [.ref (ma 1), .ref (ma 2), .int (fi 0), .ref (ma 3), .ref (ma 4), .int (nI L), .int (nI e9_143), .int (nI s9_143), .long (w9_143), .int (m9_143), .int (1)]), (ma 4, iE cB 120 (bt f))] := hD
            refine lv_aload_n hx hb dX7_readsBay_123 rfl (lv_at hl 3 rfl) ?_
            refine va_get (D := D) (ci := 7) (v := .int (1)) (C := RX7) (T := TX7) (N := 11) hx hb hts (by decide +kernel) hown hK.1 hP 1 rfl rfl 10 (by decide) (hts (.fieldLink RX7 102 "ParkingGarageModel" "isWrong" "Z") (by decide +kernel)) (fun _ h9 => h9) rfl dX7_readsBay_124 ?_
            refine if_ne_t (tgt := 143) hx hb (by decide) dX7_readsBay_127 (by decide) ?_
            exact wr_vret (((k9_143, s9_143, e9_143, w9_143, m9_143), 1, g)) hx hb hr hlocks hS hP hD [1, 0, 2] rfl rfl (by decide) dX7_readsBay_143 (⟨⟨e9_67, by omega, htok_143, hwd_143, hnm_143⟩, Or.inl ⟨rfl, Or.inr ⟨hn30, k9_67, s9_67, e9_67, 0, htok_67, Or.inl ⟨hW_4_67, rfl⟩, Or.inr ⟨by decide, Exists.intro k9_143 ⟨s9_143, e9_143, htok_143, Or.inr ⟨hno_146, rfl⟩⟩⟩⟩⟩⟩)
        · -- X7_in f
          refine if_eq_t (tgt := 119) hx hb rfl dX7_readsBay_103 (by decide) ?_
          refine lv_iconst (v := 0) hx hb dX7_readsBay_119 (by decide) ?_
          refine cv_wv (As := [.int (0)]) (rest := []) (tys := TYS cI cC cB cS) (ci := 7) (wr := [(ma 1, iE cI 382 (enc g lf))]) ⟨hx, hb, hml, hown, hts⟩ (c_X7_takes l D cI cC cB cS _ (ma) (fi) (w9_143) (L) (f) (k9_143) (s9_143) (e9_143) (m9_143) (1) (0) (hL) (hch) (by omega) ((Or.inr rfl)) ((Or.inl rfl))) (cwV 1 hts gX7_readsBay_X7_takes rfl rfl rfl (by decide +kernel) ⟨Nat.le_of_ble_eq_true rfl, Nat.le_of_ble_eq_true rfl⟩) hK hP hD hS hA [1, 2] [0] rfl rfl (by decide) (by decide) (by decide) rfl rfl rfl rfl hl.1 (Nat.le_of_ble_eq_true rfl) dX7_readsBay_120 ⟨Nat.le_of_ble_eq_true rfl, Nat.le_of_ble_eq_true rfl⟩ (fun u_169 H locs hu_169 hP hD hS => ?_)
          have hP : va_P D vwCl [(ma 1, iE cI 382 (enc g lf)), (ma 0, oE 7 [.ref (ma 1), .ref (ma 2), .int (fi 0), .ref (ma 3), .ref (ma 4), .int (nI L), .int (nI u_169.1.2.2.1), .int (nI u_169.1.2.1), .long (u_169.1.2.2.2.1), .int (u_169.1.2.2.2.2), .int (u_169.2)]), (ma 4, iE cB 120 (bt f))] H := hP
          have hD : va_D A [(ma 1, iE cI 382 (enc g lf)), (ma 0, oE 7 [.ref (ma 1), .ref (ma 2), .int (fi 0), .ref (ma 3), .ref (ma 4), .int (nI L), .int (nI u_169.1.2.2.1), .int (nI u_169.1.2.1), .long (u_169.1.2.2.2.1), .int (u_169.1.2.2.2.2), .int (u_169.2)]), (ma 4, iE cB 120 (bt f))] := hD
          have hu_169 : TakeR f L (1) (0) (k9_143, s9_143, e9_143, w9_143, m9_143) u_169 := hu_169
          have hn_169 := take_no hu_169 (fun q9 => absurd q9.1 (by decide))
          subst hn_169
          have hP : va_P D vwCl [(ma 1, iE cI 382 (enc g lf)), (ma 0, oE 7 [.ref (ma 1), .ref (ma 2), .int (fi 0), .ref (ma 3), .ref (ma 4), .int (nI L), .int (nI e9_143), .int (nI s9_143), .long (w9_143), .int (m9_143), .int (1)]), (ma 4, iE cB 120 (bt f))] H := hP
          have hD : va_D A [(ma 1, iE cI 382 (enc g lf)), (ma 0, oE 7 [.ref (ma 1), .ref (ma 2), .int (fi 0), .ref (ma 3), .ref (ma 4), .int (nI L), .int (nI e9_143), .int (nI s9_143), .long (w9_143), .int (m9_143), .int (1)]), (ma 4, iE cB 120 (bt f))] := hD
          refine lv_aload_n hx hb dX7_readsBay_123 rfl (lv_at hl 3 rfl) ?_
          refine va_get (D := D) (ci := 7) (v := .int (1)) (C := RX7) (T := TX7) (N := 11) hx hb hts (by decide +kernel) hown hK.1 hP 1 rfl rfl 10 (by decide) (hts (.fieldLink RX7 102 "ParkingGarageModel" "isWrong" "Z") (by decide +kernel)) (fun _ h9 => h9) rfl dX7_readsBay_124 ?_
          refine if_ne_t (tgt := 143) hx hb (by decide) dX7_readsBay_127 (by decide) ?_
          exact wr_vret (((k9_143, s9_143, e9_143, w9_143, m9_143), 1, g)) hx hb hr hlocks hS hP hD [1, 0, 2] rfl rfl (by decide) dX7_readsBay_143 (⟨⟨e9_67, by omega, htok_143, hwd_143, hnm_143⟩, Or.inl ⟨rfl, Or.inr ⟨hn30, k9_67, s9_67, e9_67, 0, htok_67, Or.inl ⟨hW_4_67, rfl⟩, Or.inr ⟨by decide, Exists.intro k9_143 ⟨s9_143, e9_143, htok_143, Or.inr ⟨hno_146, rfl⟩⟩⟩⟩⟩⟩)
set_option maxHeartbeats 4000000 in
set_option maxRecDepth 100000 in
theorem c_X7_readsStep (l : Launch) (D : va_G) (cI cC cB cS : ClassId) (zz : Nat) (ma : Nat → Nat) (fi : Nat → Int32) (wd : Int64) (L : Nat) (f : Nat → Int32) (g : Nat → Nat → Int32) (lf : Int32) (tk : Nat) (ts : Nat) (te : Nat) (nm : Int32) (tn : Nat) (tu : Nat) (hL : L ≤ 120) (hch : Chr f) (htk : TkOK f L (tk, ts, te, wd, nm)) (ht : g 19 0 = nI tn) (htb : tn ≤ 5) (hu : g 23 0 = nI tu) (hub : tu ≤ 5) : Met l yX7_readsStep wsX7_readsStep ({ frames := 4, cells := 0, slots := 0, locals := 89 } : Room) (wrPc D (TYS cI cC cB cS) [.ref (ma 0)] ([(ma 0, oE 7 [.ref (ma 1), .ref (ma 2), .int (fi 0), .ref (ma 3), .ref (ma 4), .int (nI L), .int (nI te), .int (nI ts), .long (wd), .int (nm), .int (0)]), (ma 1, iE cI 382 (enc g lf)), (ma 4, iE cB 120 (bt f))]) zz) (va_Qv (fun u : TKN × Int32 × (Nat → Nat → Int32) => RdR f L (fun o => PStep f L g tn tu te o) u.1 u.2.1 u.2.2) (wrB D (va_A ([(ma 0, oE 7 [.ref (ma 1), .ref (ma 2), .int (fi 0), .ref (ma 3), .ref (ma 4), .int (nI L), .int (nI te), .int (nI ts), .long (wd), .int (nm), .int (0)]), (ma 1, iE cI 382 (enc g lf)), (ma 4, iE cB 120 (bt f))]) zz) (fun u => [(ma 0, oE 7 [.ref (ma 1), .ref (ma 2), .int (fi 0), .ref (ma 3), .ref (ma 4), .int (nI L), .int (nI u.1.2.2.1), .int (nI u.1.2.1), .long (u.1.2.2.2.1), .int (u.1.2.2.2.2), .int (u.2.1)]), (ma 1, iE cI 382 (enc u.2.2 lf)), (ma 4, iE cB 120 (bt f))])) (va_A ([(ma 0, oE 7 [.ref (ma 1), .ref (ma 2), .int (fi 0), .ref (ma 3), .ref (ma 4), .int (nI L), .int (nI te), .int (nI ts), .long (wd), .int (nm), .int (0)]), (ma 1, iE cI 382 (enc g lf)), (ma 4, iE cB 120 (bt f))]) zz)) 0 0 (va_A ([(ma 0, oE 7 [.ref (ma 1), .ref (ma 2), .int (fi 0), .ref (ma 3), .ref (ma 4), .int (nI L), .int (nI te), .int (nI ts), .long (wd), .int (nm), .int (0)]), (ma 1, iE cI 382 (enc g lf)), (ma 4, iE cB 120 (bt f))]) zz) := by
  refine wr_intro (Qc := fun A B => va_Qv (fun u : TKN × Int32 × (Nat → Nat → Int32) => RdR f L (fun o => PStep f L g tn tu te o) u.1 u.2.1 u.2.2) B A) (by decide) rfl (Nat.le_of_ble_eq_true rfl) ?_
  intro p e s m below meth c A hx hb hr hml hts hown hlocks hin hP hK hD hA hS ls hl
  have hP : va_P D vwCl [(ma 0, oE 7 [.ref (ma 1), .ref (ma 2), .int (fi 0), .ref (ma 3), .ref (ma 4), .int (nI L), .int (nI te), .int (nI ts), .long (wd), .int (nm), .int (0)]), (ma 1, iE cI 382 (enc g lf)), (ma 4, iE cB 120 (bt f))] s.heap := hP
  have hD : va_D A [(ma 0, oE 7 [.ref (ma 1), .ref (ma 2), .int (fi 0), .ref (ma 3), .ref (ma 4), .int (nI L), .int (nI te), .int (nI ts), .long (wd), .int (nm), .int (0)]), (ma 1, iE cI 382 (enc g lf)), (ma 4, iE cB 120 (bt f))] := hD
  have hown : s.vm.findClass RX7 = some m.cls := hown
  have hl : lv_has ls 5 [(0, .ref (ma 0))] := hl
  have hte9 := htk.le
  have hteL : te ≤ L := hte9.2.2
  refine lv_aload_n hx hb dX7_readsStep_0 rfl (lv_at hl 0 rfl) ?_
  refine cv_wv (As := []) (rest := []) (tys := TYS cI cC cB cS) (ci := 7) (wr := [(ma 1, iE cI 382 (enc g lf))]) ⟨hx, hb, hml, hown, hts⟩ (c_X7_goes l D cI cC cB cS _ (ma) (fi) (wd) (L) (f) (te) (nI ts) (nm) (0) (hL) (hch) (by omega)) (cwV 0 hts gX7_readsStep_X7_goes rfl rfl rfl (by decide +kernel) ⟨Nat.le_of_ble_eq_true rfl, Nat.le_of_ble_eq_true rfl⟩) hK hP hD hS hA [0, 2] [1] rfl rfl (by decide) (by decide) (by decide) rfl rfl rfl rfl hl.1 (Nat.le_of_ble_eq_true rfl) dX7_readsStep_1 ⟨Nat.le_of_ble_eq_true rfl, Nat.le_of_ble_eq_true rfl⟩ (fun u_1 H locs hu_1 hP hD hS => ?_)
  have hP : va_P D vwCl [(ma 1, iE cI 382 (enc g lf)), (ma 0, oE 7 [.ref (ma 1), .ref (ma 2), .int (fi 0), .ref (ma 3), .ref (ma 4), .int (nI L), .int (nI u_1.2.2.1), .int (nI u_1.2.1), .long (u_1.2.2.2.1), .int (u_1.2.2.2.2), .int (0)]), (ma 4, iE cB 120 (bt f))] H := hP
  have hD : va_D A [(ma 1, iE cI 382 (enc g lf)), (ma 0, oE 7 [.ref (ma 1), .ref (ma 2), .int (fi 0), .ref (ma 3), .ref (ma 4), .int (nI L), .int (nI u_1.2.2.1), .int (nI u_1.2.1), .long (u_1.2.2.2.1), .int (u_1.2.2.2.2), .int (0)]), (ma 4, iE cB 120 (bt f))] := hD
  have hu_1 : GoT f L te u_1 := hu_1
  obtain ⟨k9_1, s9_1, e9_1, w9_1, m9_1⟩ := u_1
  have htok_1 : Tok f L te k9_1 s9_1 e9_1 := hu_1.1
  have hwd_1 : WdOf f k9_1 s9_1 e9_1 w9_1 := hu_1.2.1
  have hnm_1 : NmOf f k9_1 s9_1 e9_1 m9_1 := hu_1.2.2
  have hle_1 := htok_1.le (by omega)
  have heL_1 : e9_1 ≤ L := hle_1.2.2.1
  have hP : va_P D vwCl [(ma 1, iE cI 382 (enc g lf)), (ma 0, oE 7 [.ref (ma 1), .ref (ma 2), .int (fi 0), .ref (ma 3), .ref (ma 4), .int (nI L), .int (nI e9_1), .int (nI s9_1), .long (w9_1), .int (m9_1), .int (0)]), (ma 4, iE cB 120 (bt f))] H := hP
  have hD : va_D A [(ma 1, iE cI 382 (enc g lf)), (ma 0, oE 7 [.ref (ma 1), .ref (ma 2), .int (fi 0), .ref (ma 3), .ref (ma 4), .int (nI L), .int (nI e9_1), .int (nI s9_1), .long (w9_1), .int (m9_1), .int (0)]), (ma 4, iE cB 120 (bt f))] := hD
  refine lv_aload_n hx hb dX7_readsStep_4 rfl (lv_at hl 0 rfl) ?_
  refine va_get (D := D) (ci := 7) (v := .long (w9_1)) (C := RX7) (T := TX7) (N := 11) hx hb hts (by decide +kernel) hown hK.1 hP 1 rfl rfl 8 (by decide) (hts (.fieldLink RX7 91 "ParkingGarageModel" "word" "J") (by decide +kernel)) (fun _ h9 => h9) rfl dX7_readsStep_5 ?_
  refine lv_ldc2 (v := 209220123) hx hb hown (hts (.constantLong RX7 122 209220123) (by decide +kernel)) dX7_readsStep_8 ?_
  refine W.lcmp hx hb dX7_readsStep_11 ?_
  refine lv_if_ne (tgt := 19) hx hb dX7_readsStep_12 (by decide) (fun c_3 => ?_) (fun c_3 => ?_)
  · -- c_3: lg_cmp (w9_1) (209220123) ≠ 0
    have hV_7_1 : ¬ Wrd f k9_1 s9_1 e9_1 7 := fun q => c_3 (cmp_eq.mpr ((hwd_1 7 (by decide)).mpr q))
    refine lv_aload_n hx hb dX7_readsStep_19 rfl (lv_at hl 0 rfl) ?_
    refine va_get (D := D) (ci := 7) (v := .long (w9_1)) (C := RX7) (T := TX7) (N := 11) hx hb hts (by decide +kernel) hown hK.1 hP 1 rfl rfl 8 (by decide) (hts (.fieldLink RX7 91 "ParkingGarageModel" "word" "J") (by decide +kernel)) (fun _ h9 => h9) rfl dX7_readsStep_20 ?_
    refine lv_ldc2 (v := 311436) hx hb hown (hts (.constantLong RX7 124 311436) (by decide +kernel)) dX7_readsStep_23 ?_
    refine W.lcmp hx hb dX7_readsStep_26 ?_
    refine lv_if_ne (tgt := 34) hx hb dX7_readsStep_27 (by decide) (fun c_4 => ?_) (fun c_4 => ?_)
    · -- c_4: lg_cmp (w9_1) (311436) ≠ 0
      have hV_8_1 : ¬ Wrd f k9_1 s9_1 e9_1 8 := fun q => c_4 (cmp_eq.mpr ((hwd_1 8 (by decide)).mpr q))
      refine lv_bipush (v := -9) hx hb dX7_readsStep_34 (by decide) ?_
      refine lv_istore_n (lv' := [(1, .int (-9)), (0, .ref (ma 0))]) hx hb dX7_readsStep_36 rfl hl (by decide) rfl (fun ls hl => ?_)
      refine lv_aload_n hx hb dX7_readsStep_37 rfl (lv_at hl 1 rfl) ?_
      refine lv_iload_n hx hb dX7_readsStep_38 rfl (lv_at hl 0 rfl) ?_
      refine lv_bipush (v := -9) hx hb dX7_readsStep_39 (by decide) ?_
      refine lv_icmp_eq (tgt := 48) hx hb dX7_readsStep_41 (by decide) (fun _ => ?_) (fun c => absurd (by decide) c)
      refine lv_iconst (v := 0) hx hb dX7_readsStep_48 (by decide) ?_
      refine cv_wv (As := [.int (0)]) (rest := []) (tys := TYS cI cC cB cS) (ci := 7) (wr := [(ma 1, iE cI 382 (enc g lf))]) ⟨hx, hb, hml, hown, hts⟩ (c_X7_takes l D cI cC cB cS _ (ma) (fi) (w9_1) (L) (f) (k9_1) (s9_1) (e9_1) (m9_1) (0) (0) (hL) (hch) (by omega) ((Or.inl rfl)) ((Or.inl rfl))) (cwV 1 hts gX7_readsStep_X7_takes rfl rfl rfl (by decide +kernel) ⟨Nat.le_of_ble_eq_true rfl, Nat.le_of_ble_eq_true rfl⟩) hK hP hD hS hA [1, 2] [0] rfl rfl (by decide) (by decide) (by decide) rfl rfl rfl rfl hl.1 (Nat.le_of_ble_eq_true rfl) dX7_readsStep_49 ⟨Nat.le_of_ble_eq_true rfl, Nat.le_of_ble_eq_true rfl⟩ (fun u_5 H locs hu_5 hP hD hS => ?_)
      have hP : va_P D vwCl [(ma 1, iE cI 382 (enc g lf)), (ma 0, oE 7 [.ref (ma 1), .ref (ma 2), .int (fi 0), .ref (ma 3), .ref (ma 4), .int (nI L), .int (nI u_5.1.2.2.1), .int (nI u_5.1.2.1), .long (u_5.1.2.2.2.1), .int (u_5.1.2.2.2.2), .int (u_5.2)]), (ma 4, iE cB 120 (bt f))] H := hP
      have hD : va_D A [(ma 1, iE cI 382 (enc g lf)), (ma 0, oE 7 [.ref (ma 1), .ref (ma 2), .int (fi 0), .ref (ma 3), .ref (ma 4), .int (nI L), .int (nI u_5.1.2.2.1), .int (nI u_5.1.2.1), .long (u_5.1.2.2.2.1), .int (u_5.1.2.2.2.2), .int (u_5.2)]), (ma 4, iE cB 120 (bt f))] := hD
      have hu_5 : TakeR f L (0) (0) (k9_1, s9_1, e9_1, w9_1, m9_1) u_5 := hu_5
      have hn_5 := take_no hu_5 (fun q9 => absurd q9.2 (by decide))
      subst hn_5
      have hP : va_P D vwCl [(ma 1, iE cI 382 (enc g lf)), (ma 0, oE 7 [.ref (ma 1), .ref (ma 2), .int (fi 0), .ref (ma 3), .ref (ma 4), .int (nI L), .int (nI e9_1), .int (nI s9_1), .long (w9_1), .int (m9_1), .int (1)]), (ma 4, iE cB 120 (bt f))] H := hP
      have hD : va_D A [(ma 1, iE cI 382 (enc g lf)), (ma 0, oE 7 [.ref (ma 1), .ref (ma 2), .int (fi 0), .ref (ma 3), .ref (ma 4), .int (nI L), .int (nI e9_1), .int (nI s9_1), .long (w9_1), .int (m9_1), .int (1)]), (ma 4, iE cB 120 (bt f))] := hD
      refine lv_aload_n hx hb dX7_readsStep_52 rfl (lv_at hl 1 rfl) ?_
      refine va_get (D := D) (ci := 7) (v := .int (m9_1)) (C := RX7) (T := TX7) (N := 11) hx hb hts (by decide +kernel) hown hK.1 hP 1 rfl rfl 9 (by decide) (hts (.fieldLink RX7 95 "ParkingGarageModel" "number" "I") (by decide +kernel)) (fun _ h9 => h9) rfl dX7_readsStep_53 ?_
      refine lv_istore_n (lv' := [(2, .int (m9_1)), (1, .int (-9)), (0, .ref (ma 0))]) hx hb dX7_readsStep_56 rfl hl (by decide) rfl (fun ls hl => ?_)
      refine lv_aload_n hx hb dX7_readsStep_57 rfl (lv_at hl 2 rfl) ?_
      refine lv_iload_n hx hb dX7_readsStep_58 rfl (lv_at hl 0 rfl) ?_
      refine lv_iconst (v := 0) hx hb dX7_readsStep_59 (by decide) ?_
      refine lv_sipush (v := 1440) hx hb dX7_readsStep_60 (by decide) ?_
      refine cs_i (As := [.int (m9_1), .int (0), .int (1440)]) (rest := [.ref (ma 0)]) (tys := TYS cI cC cB cS) ⟨hx, hb, hml, hown, hts⟩ (c_X7_in l D cI cC cB cS (m9_1) (0) (1440)) (va_cwS 3 hts gX7_readsStep_X7_in rfl rfl rfl (by decide +kernel) ⟨Nat.le_of_ble_eq_true rfl, Nat.le_of_ble_eq_true rfl⟩) hK hP [] rfl rfl rfl hl.1 (Nat.le_of_ble_eq_true rfl) dX7_readsStep_63 ⟨Nat.le_of_ble_eq_true rfl, Nat.le_of_ble_eq_true rfl⟩ (fun r_7 hr_7 => ?_)
      rcases (show Yes (0 ≤ m9_1 ∧ m9_1 ≤ 1440) r_7 from hr_7) with ⟨rfl, h_8⟩ | ⟨rfl, h_8⟩
      · -- X7_in t
        refine if_eq_f (tgt := 105) hx hb (by decide) dX7_readsStep_66 (by decide) ?_
        refine lv_aload_n hx hb dX7_readsStep_69 rfl (lv_at hl 2 rfl) ?_
        refine va_get (D := D) (ci := 7) (v := .int (1)) (C := RX7) (T := TX7) (N := 11) hx hb hts (by decide +kernel) hown hK.1 hP 1 rfl rfl 10 (by decide) (hts (.fieldLink RX7 102 "ParkingGarageModel" "isWrong" "Z") (by decide +kernel)) (fun _ h9 => h9) rfl dX7_readsStep_70 ?_
        refine if_ne_t (tgt := 105) hx hb (by decide) dX7_readsStep_73 (by decide) ?_
        refine lv_iconst (v := 0) hx hb dX7_readsStep_105 (by decide) ?_
        refine cv_wv (As := [.int (0)]) (rest := []) (tys := TYS cI cC cB cS) (ci := 7) (wr := [(ma 1, iE cI 382 (enc g lf))]) ⟨hx, hb, hml, hown, hts⟩ (c_X7_takes l D cI cC cB cS _ (ma) (fi) (w9_1) (L) (f) (k9_1) (s9_1) (e9_1) (m9_1) (1) (0) (hL) (hch) (by omega) ((Or.inr rfl)) ((Or.inl rfl))) (cwV 1 hts gX7_readsStep_X7_takes rfl rfl rfl (by decide +kernel) ⟨Nat.le_of_ble_eq_true rfl, Nat.le_of_ble_eq_true rfl⟩) hK hP hD hS hA [1, 2] [0] rfl rfl (by decide) (by decide) (by decide) rfl rfl rfl rfl hl.1 (Nat.le_of_ble_eq_true rfl) dX7_readsStep_106 ⟨Nat.le_of_ble_eq_true rfl, Nat.le_of_ble_eq_true rfl⟩ (fun u_9 H locs hu_9 hP hD hS => ?_)
        have hP : va_P D vwCl [(ma 1, iE cI 382 (enc g lf)), (ma 0, oE 7 [.ref (ma 1), .ref (ma 2), .int (fi 0), .ref (ma 3), .ref (ma 4), .int (nI L), .int (nI u_9.1.2.2.1), .int (nI u_9.1.2.1), .long (u_9.1.2.2.2.1), .int (u_9.1.2.2.2.2), .int (u_9.2)]), (ma 4, iE cB 120 (bt f))] H := hP
        have hD : va_D A [(ma 1, iE cI 382 (enc g lf)), (ma 0, oE 7 [.ref (ma 1), .ref (ma 2), .int (fi 0), .ref (ma 3), .ref (ma 4), .int (nI L), .int (nI u_9.1.2.2.1), .int (nI u_9.1.2.1), .long (u_9.1.2.2.2.1), .int (u_9.1.2.2.2.2), .int (u_9.2)]), (ma 4, iE cB 120 (bt f))] := hD
        have hu_9 : TakeR f L (1) (0) (k9_1, s9_1, e9_1, w9_1, m9_1) u_9 := hu_9
        have hn_9 := take_no hu_9 (fun q9 => absurd q9.1 (by decide))
        subst hn_9
        have hP : va_P D vwCl [(ma 1, iE cI 382 (enc g lf)), (ma 0, oE 7 [.ref (ma 1), .ref (ma 2), .int (fi 0), .ref (ma 3), .ref (ma 4), .int (nI L), .int (nI e9_1), .int (nI s9_1), .long (w9_1), .int (m9_1), .int (1)]), (ma 4, iE cB 120 (bt f))] H := hP
        have hD : va_D A [(ma 1, iE cI 382 (enc g lf)), (ma 0, oE 7 [.ref (ma 1), .ref (ma 2), .int (fi 0), .ref (ma 3), .ref (ma 4), .int (nI L), .int (nI e9_1), .int (nI s9_1), .long (w9_1), .int (m9_1), .int (1)]), (ma 4, iE cB 120 (bt f))] := hD
        refine lv_aload_n hx hb dX7_readsStep_109 rfl (lv_at hl 2 rfl) ?_
        refine lv_iconst (v := 1) hx hb dX7_readsStep_110 (by decide) ?_
        refine lv_sipush (v := 240) hx hb dX7_readsStep_111 (by decide) ?_
        refine cv_wi (As := [.int (1), .int (240)]) (rest := []) (tys := TYS cI cC cB cS) (ci := 7) (wr := [(ma 1, iE cI 382 (enc g lf))]) ⟨hx, hb, hml, hown, hts⟩ (c_X7_takesNumber l D cI cC cB cS _ (ma) (fi) (w9_1) (L) (f) (k9_1) (s9_1) (e9_1) (m9_1) (1) (1) (240) (hL) (hch) (by omega) ((Or.inr rfl))) (cwV 2 hts gX7_readsStep_X7_takesNumber rfl rfl rfl (by decide +kernel) ⟨Nat.le_of_ble_eq_true rfl, Nat.le_of_ble_eq_true rfl⟩) hK hP hD hS hA [1, 2] [0] rfl rfl (by decide) (by decide) (by decide) rfl rfl rfl rfl hl.1 (Nat.le_of_ble_eq_true rfl) dX7_readsStep_114 ⟨Nat.le_of_ble_eq_true rfl, Nat.le_of_ble_eq_true rfl⟩ (fun r_12 u_11 H locs hu_11 hP hD hS => ?_)
        have hP : va_P D vwCl [(ma 1, iE cI 382 (enc g lf)), (ma 0, oE 7 [.ref (ma 1), .ref (ma 2), .int (fi 0), .ref (ma 3), .ref (ma 4), .int (nI L), .int (nI u_11.1.2.2.1), .int (nI u_11.1.2.1), .long (u_11.1.2.2.2.1), .int (u_11.1.2.2.2.2), .int (u_11.2)]), (ma 4, iE cB 120 (bt f))] H := hP
        have hD : va_D A [(ma 1, iE cI 382 (enc g lf)), (ma 0, oE 7 [.ref (ma 1), .ref (ma 2), .int (fi 0), .ref (ma 3), .ref (ma 4), .int (nI L), .int (nI u_11.1.2.2.1), .int (nI u_11.1.2.1), .long (u_11.1.2.2.2.1), .int (u_11.1.2.2.2.2), .int (u_11.2)]), (ma 4, iE cB 120 (bt f))] := hD
        have hu_11 : TakeN f L 1 240 (1) (k9_1, s9_1, e9_1, w9_1, m9_1) r_12 u_11 := hu_11
        have hn_12 := takeN_wrong hu_11
        subst hn_12
        have hP : va_P D vwCl [(ma 1, iE cI 382 (enc g lf)), (ma 0, oE 7 [.ref (ma 1), .ref (ma 2), .int (fi 0), .ref (ma 3), .ref (ma 4), .int (nI L), .int (nI e9_1), .int (nI s9_1), .long (w9_1), .int (m9_1), .int (1)]), (ma 4, iE cB 120 (bt f))] H := hP
        have hD : va_D A [(ma 1, iE cI 382 (enc g lf)), (ma 0, oE 7 [.ref (ma 1), .ref (ma 2), .int (fi 0), .ref (ma 3), .ref (ma 4), .int (nI L), .int (nI e9_1), .int (nI s9_1), .long (w9_1), .int (m9_1), .int (1)]), (ma 4, iE cB 120 (bt f))] := hD
        refine lv_istore_n (lv' := [(3, .int (r_12)), (2, .int (m9_1)), (1, .int (-9)), (0, .ref (ma 0))]) hx hb dX7_readsStep_117 rfl hl (by decide) rfl (fun ls hl => ?_)
        refine lv_aload_n hx hb dX7_readsStep_118 rfl (lv_at hl 3 rfl) ?_
        refine lv_iconst (v := 0) hx hb dX7_readsStep_119 (by decide) ?_
        refine lv_sipush (v := 5000) hx hb dX7_readsStep_120 (by decide) ?_
        refine cv_wi (As := [.int (0), .int (5000)]) (rest := []) (tys := TYS cI cC cB cS) (ci := 7) (wr := [(ma 1, iE cI 382 (enc g lf))]) ⟨hx, hb, hml, hown, hts⟩ (c_X7_takesNumber l D cI cC cB cS _ (ma) (fi) (w9_1) (L) (f) (k9_1) (s9_1) (e9_1) (m9_1) (1) (0) (5000) (hL) (hch) (by omega) ((Or.inr rfl))) (cwV 2 hts gX7_readsStep_X7_takesNumber rfl rfl rfl (by decide +kernel) ⟨Nat.le_of_ble_eq_true rfl, Nat.le_of_ble_eq_true rfl⟩) hK hP hD hS hA [1, 2] [0] rfl rfl (by decide) (by decide) (by decide) rfl rfl rfl rfl hl.1 (Nat.le_of_ble_eq_true rfl) dX7_readsStep_123 ⟨Nat.le_of_ble_eq_true rfl, Nat.le_of_ble_eq_true rfl⟩ (fun r_15 u_14 H locs hu_14 hP hD hS => ?_)
        have hP : va_P D vwCl [(ma 1, iE cI 382 (enc g lf)), (ma 0, oE 7 [.ref (ma 1), .ref (ma 2), .int (fi 0), .ref (ma 3), .ref (ma 4), .int (nI L), .int (nI u_14.1.2.2.1), .int (nI u_14.1.2.1), .long (u_14.1.2.2.2.1), .int (u_14.1.2.2.2.2), .int (u_14.2)]), (ma 4, iE cB 120 (bt f))] H := hP
        have hD : va_D A [(ma 1, iE cI 382 (enc g lf)), (ma 0, oE 7 [.ref (ma 1), .ref (ma 2), .int (fi 0), .ref (ma 3), .ref (ma 4), .int (nI L), .int (nI u_14.1.2.2.1), .int (nI u_14.1.2.1), .long (u_14.1.2.2.2.1), .int (u_14.1.2.2.2.2), .int (u_14.2)]), (ma 4, iE cB 120 (bt f))] := hD
        have hu_14 : TakeN f L 0 5000 (1) (k9_1, s9_1, e9_1, w9_1, m9_1) r_15 u_14 := hu_14
        have hn_15 := takeN_wrong hu_14
        subst hn_15
        have hP : va_P D vwCl [(ma 1, iE cI 382 (enc g lf)), (ma 0, oE 7 [.ref (ma 1), .ref (ma 2), .int (fi 0), .ref (ma 3), .ref (ma 4), .int (nI L), .int (nI e9_1), .int (nI s9_1), .long (w9_1), .int (m9_1), .int (1)]), (ma 4, iE cB 120 (bt f))] H := hP
        have hD : va_D A [(ma 1, iE cI 382 (enc g lf)), (ma 0, oE 7 [.ref (ma 1), .ref (ma 2), .int (fi 0), .ref (ma 3), .ref (ma 4), .int (nI L), .int (nI e9_1), .int (nI s9_1), .long (w9_1), .int (m9_1), .int (1)]), (ma 4, iE cB 120 (bt f))] := hD
        refine lv_istore (lv' := [(4, .int (r_15)), (3, .int (r_12)), (2, .int (m9_1)), (1, .int (-9)), (0, .ref (ma 0))]) hx hb dX7_readsStep_126 hl (by decide) rfl (fun ls hl => ?_)
        refine lv_aload_n hx hb dX7_readsStep_128 rfl (lv_at hl 4 rfl) ?_
        refine va_get (D := D) (ci := 7) (v := .int (1)) (C := RX7) (T := TX7) (N := 11) hx hb hts (by decide +kernel) hown hK.1 hP 1 rfl rfl 10 (by decide) (hts (.fieldLink RX7 102 "ParkingGarageModel" "isWrong" "Z") (by decide +kernel)) (fun _ h9 => h9) rfl dX7_readsStep_129 ?_
        refine if_ne_t (tgt := 144) hx hb (by decide) dX7_readsStep_132 (by decide) ?_
        exact wr_vret (((k9_1, s9_1, e9_1, w9_1, m9_1), 1, g)) hx hb hr hlocks hS hP hD [1, 0, 2] rfl rfl (by decide) dX7_readsStep_144 (⟨⟨te, by omega, htok_1, hwd_1, hnm_1⟩, Or.inl ⟨rfl, Exists.intro k9_1 ⟨s9_1, e9_1, -1, htok_1, Or.inr ⟨hV_7_1, Or.inr ⟨hV_8_1, rfl⟩⟩, Or.inl ⟨rfl, rfl⟩⟩⟩⟩)
      · -- X7_in f
        refine if_eq_t (tgt := 105) hx hb rfl dX7_readsStep_66 (by decide) ?_
        refine lv_iconst (v := 0) hx hb dX7_readsStep_105 (by decide) ?_
        refine cv_wv (As := [.int (0)]) (rest := []) (tys := TYS cI cC cB cS) (ci := 7) (wr := [(ma 1, iE cI 382 (enc g lf))]) ⟨hx, hb, hml, hown, hts⟩ (c_X7_takes l D cI cC cB cS _ (ma) (fi) (w9_1) (L) (f) (k9_1) (s9_1) (e9_1) (m9_1) (1) (0) (hL) (hch) (by omega) ((Or.inr rfl)) ((Or.inl rfl))) (cwV 1 hts gX7_readsStep_X7_takes rfl rfl rfl (by decide +kernel) ⟨Nat.le_of_ble_eq_true rfl, Nat.le_of_ble_eq_true rfl⟩) hK hP hD hS hA [1, 2] [0] rfl rfl (by decide) (by decide) (by decide) rfl rfl rfl rfl hl.1 (Nat.le_of_ble_eq_true rfl) dX7_readsStep_106 ⟨Nat.le_of_ble_eq_true rfl, Nat.le_of_ble_eq_true rfl⟩ (fun u_17 H locs hu_17 hP hD hS => ?_)
        have hP : va_P D vwCl [(ma 1, iE cI 382 (enc g lf)), (ma 0, oE 7 [.ref (ma 1), .ref (ma 2), .int (fi 0), .ref (ma 3), .ref (ma 4), .int (nI L), .int (nI u_17.1.2.2.1), .int (nI u_17.1.2.1), .long (u_17.1.2.2.2.1), .int (u_17.1.2.2.2.2), .int (u_17.2)]), (ma 4, iE cB 120 (bt f))] H := hP
        have hD : va_D A [(ma 1, iE cI 382 (enc g lf)), (ma 0, oE 7 [.ref (ma 1), .ref (ma 2), .int (fi 0), .ref (ma 3), .ref (ma 4), .int (nI L), .int (nI u_17.1.2.2.1), .int (nI u_17.1.2.1), .long (u_17.1.2.2.2.1), .int (u_17.1.2.2.2.2), .int (u_17.2)]), (ma 4, iE cB 120 (bt f))] := hD
        have hu_17 : TakeR f L (1) (0) (k9_1, s9_1, e9_1, w9_1, m9_1) u_17 := hu_17
        have hn_17 := take_no hu_17 (fun q9 => absurd q9.1 (by decide))
        subst hn_17
        have hP : va_P D vwCl [(ma 1, iE cI 382 (enc g lf)), (ma 0, oE 7 [.ref (ma 1), .ref (ma 2), .int (fi 0), .ref (ma 3), .ref (ma 4), .int (nI L), .int (nI e9_1), .int (nI s9_1), .long (w9_1), .int (m9_1), .int (1)]), (ma 4, iE cB 120 (bt f))] H := hP
        have hD : va_D A [(ma 1, iE cI 382 (enc g lf)), (ma 0, oE 7 [.ref (ma 1), .ref (ma 2), .int (fi 0), .ref (ma 3), .ref (ma 4), .int (nI L), .int (nI e9_1), .int (nI s9_1), .long (w9_1), .int (m9_1), .int (1)]), (ma 4, iE cB 120 (bt f))] := hD
        refine lv_aload_n hx hb dX7_readsStep_109 rfl (lv_at hl 2 rfl) ?_
        refine lv_iconst (v := 1) hx hb dX7_readsStep_110 (by decide) ?_
        refine lv_sipush (v := 240) hx hb dX7_readsStep_111 (by decide) ?_
        refine cv_wi (As := [.int (1), .int (240)]) (rest := []) (tys := TYS cI cC cB cS) (ci := 7) (wr := [(ma 1, iE cI 382 (enc g lf))]) ⟨hx, hb, hml, hown, hts⟩ (c_X7_takesNumber l D cI cC cB cS _ (ma) (fi) (w9_1) (L) (f) (k9_1) (s9_1) (e9_1) (m9_1) (1) (1) (240) (hL) (hch) (by omega) ((Or.inr rfl))) (cwV 2 hts gX7_readsStep_X7_takesNumber rfl rfl rfl (by decide +kernel) ⟨Nat.le_of_ble_eq_true rfl, Nat.le_of_ble_eq_true rfl⟩) hK hP hD hS hA [1, 2] [0] rfl rfl (by decide) (by decide) (by decide) rfl rfl rfl rfl hl.1 (Nat.le_of_ble_eq_true rfl) dX7_readsStep_114 ⟨Nat.le_of_ble_eq_true rfl, Nat.le_of_ble_eq_true rfl⟩ (fun r_20 u_19 H locs hu_19 hP hD hS => ?_)
        have hP : va_P D vwCl [(ma 1, iE cI 382 (enc g lf)), (ma 0, oE 7 [.ref (ma 1), .ref (ma 2), .int (fi 0), .ref (ma 3), .ref (ma 4), .int (nI L), .int (nI u_19.1.2.2.1), .int (nI u_19.1.2.1), .long (u_19.1.2.2.2.1), .int (u_19.1.2.2.2.2), .int (u_19.2)]), (ma 4, iE cB 120 (bt f))] H := hP
        have hD : va_D A [(ma 1, iE cI 382 (enc g lf)), (ma 0, oE 7 [.ref (ma 1), .ref (ma 2), .int (fi 0), .ref (ma 3), .ref (ma 4), .int (nI L), .int (nI u_19.1.2.2.1), .int (nI u_19.1.2.1), .long (u_19.1.2.2.2.1), .int (u_19.1.2.2.2.2), .int (u_19.2)]), (ma 4, iE cB 120 (bt f))] := hD
        have hu_19 : TakeN f L 1 240 (1) (k9_1, s9_1, e9_1, w9_1, m9_1) r_20 u_19 := hu_19
        have hn_20 := takeN_wrong hu_19
        subst hn_20
        have hP : va_P D vwCl [(ma 1, iE cI 382 (enc g lf)), (ma 0, oE 7 [.ref (ma 1), .ref (ma 2), .int (fi 0), .ref (ma 3), .ref (ma 4), .int (nI L), .int (nI e9_1), .int (nI s9_1), .long (w9_1), .int (m9_1), .int (1)]), (ma 4, iE cB 120 (bt f))] H := hP
        have hD : va_D A [(ma 1, iE cI 382 (enc g lf)), (ma 0, oE 7 [.ref (ma 1), .ref (ma 2), .int (fi 0), .ref (ma 3), .ref (ma 4), .int (nI L), .int (nI e9_1), .int (nI s9_1), .long (w9_1), .int (m9_1), .int (1)]), (ma 4, iE cB 120 (bt f))] := hD
        refine lv_istore_n (lv' := [(3, .int (r_20)), (2, .int (m9_1)), (1, .int (-9)), (0, .ref (ma 0))]) hx hb dX7_readsStep_117 rfl hl (by decide) rfl (fun ls hl => ?_)
        refine lv_aload_n hx hb dX7_readsStep_118 rfl (lv_at hl 3 rfl) ?_
        refine lv_iconst (v := 0) hx hb dX7_readsStep_119 (by decide) ?_
        refine lv_sipush (v := 5000) hx hb dX7_readsStep_120 (by decide) ?_
        refine cv_wi (As := [.int (0), .int (5000)]) (rest := []) (tys := TYS cI cC cB cS) (ci := 7) (wr := [(ma 1, iE cI 382 (enc g lf))]) ⟨hx, hb, hml, hown, hts⟩ (c_X7_takesNumber l D cI cC cB cS _ (ma) (fi) (w9_1) (L) (f) (k9_1) (s9_1) (e9_1) (m9_1) (1) (0) (5000) (hL) (hch) (by omega) ((Or.inr rfl))) (cwV 2 hts gX7_readsStep_X7_takesNumber rfl rfl rfl (by decide +kernel) ⟨Nat.le_of_ble_eq_true rfl, Nat.le_of_ble_eq_true rfl⟩) hK hP hD hS hA [1, 2] [0] rfl rfl (by decide) (by decide) (by decide) rfl rfl rfl rfl hl.1 (Nat.le_of_ble_eq_true rfl) dX7_readsStep_123 ⟨Nat.le_of_ble_eq_true rfl, Nat.le_of_ble_eq_true rfl⟩ (fun r_23 u_22 H locs hu_22 hP hD hS => ?_)
        have hP : va_P D vwCl [(ma 1, iE cI 382 (enc g lf)), (ma 0, oE 7 [.ref (ma 1), .ref (ma 2), .int (fi 0), .ref (ma 3), .ref (ma 4), .int (nI L), .int (nI u_22.1.2.2.1), .int (nI u_22.1.2.1), .long (u_22.1.2.2.2.1), .int (u_22.1.2.2.2.2), .int (u_22.2)]), (ma 4, iE cB 120 (bt f))] H := hP
        have hD : va_D A [(ma 1, iE cI 382 (enc g lf)), (ma 0, oE 7 [.ref (ma 1), .ref (ma 2), .int (fi 0), .ref (ma 3), .ref (ma 4), .int (nI L), .int (nI u_22.1.2.2.1), .int (nI u_22.1.2.1), .long (u_22.1.2.2.2.1), .int (u_22.1.2.2.2.2), .int (u_22.2)]), (ma 4, iE cB 120 (bt f))] := hD
        have hu_22 : TakeN f L 0 5000 (1) (k9_1, s9_1, e9_1, w9_1, m9_1) r_23 u_22 := hu_22
        have hn_23 := takeN_wrong hu_22
        subst hn_23
        have hP : va_P D vwCl [(ma 1, iE cI 382 (enc g lf)), (ma 0, oE 7 [.ref (ma 1), .ref (ma 2), .int (fi 0), .ref (ma 3), .ref (ma 4), .int (nI L), .int (nI e9_1), .int (nI s9_1), .long (w9_1), .int (m9_1), .int (1)]), (ma 4, iE cB 120 (bt f))] H := hP
        have hD : va_D A [(ma 1, iE cI 382 (enc g lf)), (ma 0, oE 7 [.ref (ma 1), .ref (ma 2), .int (fi 0), .ref (ma 3), .ref (ma 4), .int (nI L), .int (nI e9_1), .int (nI s9_1), .long (w9_1), .int (m9_1), .int (1)]), (ma 4, iE cB 120 (bt f))] := hD
        refine lv_istore (lv' := [(4, .int (r_23)), (3, .int (r_20)), (2, .int (m9_1)), (1, .int (-9)), (0, .ref (ma 0))]) hx hb dX7_readsStep_126 hl (by decide) rfl (fun ls hl => ?_)
        refine lv_aload_n hx hb dX7_readsStep_128 rfl (lv_at hl 4 rfl) ?_
        refine va_get (D := D) (ci := 7) (v := .int (1)) (C := RX7) (T := TX7) (N := 11) hx hb hts (by decide +kernel) hown hK.1 hP 1 rfl rfl 10 (by decide) (hts (.fieldLink RX7 102 "ParkingGarageModel" "isWrong" "Z") (by decide +kernel)) (fun _ h9 => h9) rfl dX7_readsStep_129 ?_
        refine if_ne_t (tgt := 144) hx hb (by decide) dX7_readsStep_132 (by decide) ?_
        exact wr_vret (((k9_1, s9_1, e9_1, w9_1, m9_1), 1, g)) hx hb hr hlocks hS hP hD [1, 0, 2] rfl rfl (by decide) dX7_readsStep_144 (⟨⟨te, by omega, htok_1, hwd_1, hnm_1⟩, Or.inl ⟨rfl, Exists.intro k9_1 ⟨s9_1, e9_1, -1, htok_1, Or.inr ⟨hV_7_1, Or.inr ⟨hV_8_1, rfl⟩⟩, Or.inl ⟨rfl, rfl⟩⟩⟩⟩)
    · -- c_4: not lg_cmp (w9_1) (311436) ≠ 0
      have hW_8_1 : Wrd f k9_1 s9_1 e9_1 8 := (hwd_1 8 (by decide)).mp (cmp_eq.mp c_4)
      refine lv_iconst (v := 1) hx hb dX7_readsStep_30 (by decide) ?_
      refine lv_goto (tgt := 36) hx hb dX7_readsStep_31 (by decide) ?_
      refine lv_istore_n (lv' := [(1, .int (1)), (0, .ref (ma 0))]) hx hb dX7_readsStep_36 rfl hl (by decide) rfl (fun ls hl => ?_)
      refine lv_aload_n hx hb dX7_readsStep_37 rfl (lv_at hl 1 rfl) ?_
      refine lv_iload_n hx hb dX7_readsStep_38 rfl (lv_at hl 0 rfl) ?_
      refine lv_bipush (v := -9) hx hb dX7_readsStep_39 (by decide) ?_
      refine lv_icmp_eq (tgt := 48) hx hb dX7_readsStep_41 (by decide) (fun c => absurd c (by decide)) (fun _ => ?_)
      refine lv_iconst (v := 1) hx hb dX7_readsStep_44 (by decide) ?_
      refine lv_goto (tgt := 49) hx hb dX7_readsStep_45 (by decide) ?_
      refine cv_wv (As := [.int (1)]) (rest := []) (tys := TYS cI cC cB cS) (ci := 7) (wr := [(ma 1, iE cI 382 (enc g lf))]) ⟨hx, hb, hml, hown, hts⟩ (c_X7_takes l D cI cC cB cS _ (ma) (fi) (w9_1) (L) (f) (k9_1) (s9_1) (e9_1) (m9_1) (0) (1) (hL) (hch) (by omega) ((Or.inl rfl)) ((Or.inr rfl))) (cwV 1 hts gX7_readsStep_X7_takes rfl rfl rfl (by decide +kernel) ⟨Nat.le_of_ble_eq_true rfl, Nat.le_of_ble_eq_true rfl⟩) hK hP hD hS hA [1, 2] [0] rfl rfl (by decide) (by decide) (by decide) rfl rfl rfl rfl hl.1 (Nat.le_of_ble_eq_true rfl) dX7_readsStep_49 ⟨Nat.le_of_ble_eq_true rfl, Nat.le_of_ble_eq_true rfl⟩ (fun u_25 H locs hu_25 hP hD hS => ?_)
      have hP : va_P D vwCl [(ma 1, iE cI 382 (enc g lf)), (ma 0, oE 7 [.ref (ma 1), .ref (ma 2), .int (fi 0), .ref (ma 3), .ref (ma 4), .int (nI L), .int (nI u_25.1.2.2.1), .int (nI u_25.1.2.1), .long (u_25.1.2.2.2.1), .int (u_25.1.2.2.2.2), .int (u_25.2)]), (ma 4, iE cB 120 (bt f))] H := hP
      have hD : va_D A [(ma 1, iE cI 382 (enc g lf)), (ma 0, oE 7 [.ref (ma 1), .ref (ma 2), .int (fi 0), .ref (ma 3), .ref (ma 4), .int (nI L), .int (nI u_25.1.2.2.1), .int (nI u_25.1.2.1), .long (u_25.1.2.2.2.1), .int (u_25.1.2.2.2.2), .int (u_25.2)]), (ma 4, iE cB 120 (bt f))] := hD
      have hu_25 : TakeR f L (0) (1) (k9_1, s9_1, e9_1, w9_1, m9_1) u_25 := hu_25
      obtain ⟨⟨k9_25, s9_25, e9_25, w9_25, m9_25⟩, z9_25⟩ := u_25
      obtain ⟨hz_25, hg_25⟩ := take_yes hu_25
      have hz_25 : z9_25 = 0 := hz_25
      subst hz_25
      have htok_25 : Tok f L e9_1 k9_25 s9_25 e9_25 := hg_25.1
      have hwd_25 : WdOf f k9_25 s9_25 e9_25 w9_25 := hg_25.2.1
      have hnm_25 : NmOf f k9_25 s9_25 e9_25 m9_25 := hg_25.2.2
      have hle_25 := htok_25.le (by omega)
      have heL_25 : e9_25 ≤ L := hle_25.2.2.1
      have hP : va_P D vwCl [(ma 1, iE cI 382 (enc g lf)), (ma 0, oE 7 [.ref (ma 1), .ref (ma 2), .int (fi 0), .ref (ma 3), .ref (ma 4), .int (nI L), .int (nI e9_25), .int (nI s9_25), .long (w9_25), .int (m9_25), .int (0)]), (ma 4, iE cB 120 (bt f))] H := hP
      have hD : va_D A [(ma 1, iE cI 382 (enc g lf)), (ma 0, oE 7 [.ref (ma 1), .ref (ma 2), .int (fi 0), .ref (ma 3), .ref (ma 4), .int (nI L), .int (nI e9_25), .int (nI s9_25), .long (w9_25), .int (m9_25), .int (0)]), (ma 4, iE cB 120 (bt f))] := hD
      refine lv_aload_n hx hb dX7_readsStep_52 rfl (lv_at hl 1 rfl) ?_
      refine va_get (D := D) (ci := 7) (v := .int (m9_25)) (C := RX7) (T := TX7) (N := 11) hx hb hts (by decide +kernel) hown hK.1 hP 1 rfl rfl 9 (by decide) (hts (.fieldLink RX7 95 "ParkingGarageModel" "number" "I") (by decide +kernel)) (fun _ h9 => h9) rfl dX7_readsStep_53 ?_
      refine lv_istore_n (lv' := [(2, .int (m9_25)), (1, .int (1)), (0, .ref (ma 0))]) hx hb dX7_readsStep_56 rfl hl (by decide) rfl (fun ls hl => ?_)
      refine lv_aload_n hx hb dX7_readsStep_57 rfl (lv_at hl 2 rfl) ?_
      refine lv_iload_n hx hb dX7_readsStep_58 rfl (lv_at hl 0 rfl) ?_
      refine lv_iconst (v := 0) hx hb dX7_readsStep_59 (by decide) ?_
      refine lv_sipush (v := 1440) hx hb dX7_readsStep_60 (by decide) ?_
      refine cs_i (As := [.int (m9_25), .int (0), .int (1440)]) (rest := [.ref (ma 0)]) (tys := TYS cI cC cB cS) ⟨hx, hb, hml, hown, hts⟩ (c_X7_in l D cI cC cB cS (m9_25) (0) (1440)) (va_cwS 3 hts gX7_readsStep_X7_in rfl rfl rfl (by decide +kernel) ⟨Nat.le_of_ble_eq_true rfl, Nat.le_of_ble_eq_true rfl⟩) hK hP [] rfl rfl rfl hl.1 (Nat.le_of_ble_eq_true rfl) dX7_readsStep_63 ⟨Nat.le_of_ble_eq_true rfl, Nat.le_of_ble_eq_true rfl⟩ (fun r_27 hr_27 => ?_)
      rcases (show Yes (0 ≤ m9_25 ∧ m9_25 ≤ 1440) r_27 from hr_27) with ⟨rfl, h_28⟩ | ⟨rfl, h_28⟩
      · -- X7_in t
        obtain ⟨x0, hx0, hxe⟩ := nm_yes (lo := 0) (hi := 1440) hnm_25 (by decide) h_28 (by decide)
        subst hxe
        refine if_eq_f (tgt := 105) hx hb (by decide) dX7_readsStep_66 (by decide) ?_
        refine lv_aload_n hx hb dX7_readsStep_69 rfl (lv_at hl 2 rfl) ?_
        refine va_get (D := D) (ci := 7) (v := .int (0)) (C := RX7) (T := TX7) (N := 11) hx hb hts (by decide +kernel) hown hK.1 hP 1 rfl rfl 10 (by decide) (hts (.fieldLink RX7 102 "ParkingGarageModel" "isWrong" "Z") (by decide +kernel)) (fun _ h9 => h9) rfl dX7_readsStep_70 ?_
        refine if_ne_f (tgt := 105) hx hb rfl dX7_readsStep_73 (by decide) ?_
        refine lv_aload_n hx hb dX7_readsStep_76 rfl (lv_at hl 2 rfl) ?_
        refine lv_iload_n hx hb dX7_readsStep_77 rfl (lv_at hl 1 rfl) ?_
        refine lv_iload_n hx hb dX7_readsStep_78 rfl (lv_at hl 0 rfl) ?_
        refine cv_i (As := [.int (1), .int (nI x0)]) (rest := [.ref (ma 0)]) (tys := TYS cI cC cB cS) (ci := 7) ⟨hx, hb, hml, hown, hts⟩ (c_X7_hasStep l D cI cC cB cS (ma) ((fun j => [fi 0, nI L, nI e9_25, nI s9_25, nI x0, 0].getD j 0)) (w9_25) (g) (lf) (1) (tu) (nI x0) (by decide) (hu) (hub)) (cwV 2 hts gX7_readsStep_X7_hasStep rfl rfl rfl (by decide +kernel) ⟨Nat.le_of_ble_eq_true rfl, Nat.le_of_ble_eq_true rfl⟩) hK hP [1, 0] rfl rfl rfl rfl rfl hl.1 (Nat.le_of_ble_eq_true rfl) dX7_readsStep_79 ⟨Nat.le_of_ble_eq_true rfl, Nat.le_of_ble_eq_true rfl⟩ (fun r_29 hr_29 => ?_)
        rcases (show Yes (THas (g 24) tu (nI x0)) r_29 from hr_29) with ⟨rfl, h_30⟩ | ⟨rfl, h_30⟩
        · -- X7_hasStep t
          refine if_ne_t (tgt := 101) hx hb (by decide) dX7_readsStep_82 (by decide) ?_
          refine lv_iconst (v := 1) hx hb dX7_readsStep_101 (by decide) ?_
          refine lv_goto (tgt := 106) hx hb dX7_readsStep_102 (by decide) ?_
          refine cv_wv (As := [.int (1)]) (rest := []) (tys := TYS cI cC cB cS) (ci := 7) (wr := [(ma 1, iE cI 382 (enc g lf))]) ⟨hx, hb, hml, hown, hts⟩ (c_X7_takes l D cI cC cB cS _ (ma) (fi) (w9_25) (L) (f) (k9_25) (s9_25) (e9_25) (nI x0) (0) (1) (hL) (hch) (by omega) ((Or.inl rfl)) ((Or.inr rfl))) (cwV 1 hts gX7_readsStep_X7_takes rfl rfl rfl (by decide +kernel) ⟨Nat.le_of_ble_eq_true rfl, Nat.le_of_ble_eq_true rfl⟩) hK hP hD hS hA [1, 2] [0] rfl rfl (by decide) (by decide) (by decide) rfl rfl rfl rfl hl.1 (Nat.le_of_ble_eq_true rfl) dX7_readsStep_106 ⟨Nat.le_of_ble_eq_true rfl, Nat.le_of_ble_eq_true rfl⟩ (fun u_31 H locs hu_31 hP hD hS => ?_)
          have hP : va_P D vwCl [(ma 1, iE cI 382 (enc g lf)), (ma 0, oE 7 [.ref (ma 1), .ref (ma 2), .int (fi 0), .ref (ma 3), .ref (ma 4), .int (nI L), .int (nI u_31.1.2.2.1), .int (nI u_31.1.2.1), .long (u_31.1.2.2.2.1), .int (u_31.1.2.2.2.2), .int (u_31.2)]), (ma 4, iE cB 120 (bt f))] H := hP
          have hD : va_D A [(ma 1, iE cI 382 (enc g lf)), (ma 0, oE 7 [.ref (ma 1), .ref (ma 2), .int (fi 0), .ref (ma 3), .ref (ma 4), .int (nI L), .int (nI u_31.1.2.2.1), .int (nI u_31.1.2.1), .long (u_31.1.2.2.2.1), .int (u_31.1.2.2.2.2), .int (u_31.2)]), (ma 4, iE cB 120 (bt f))] := hD
          have hu_31 : TakeR f L (0) (1) (k9_25, s9_25, e9_25, w9_25, nI x0) u_31 := hu_31
          obtain ⟨⟨k9_31, s9_31, e9_31, w9_31, m9_31⟩, z9_31⟩ := u_31
          obtain ⟨hz_31, hg_31⟩ := take_yes hu_31
          have hz_31 : z9_31 = 0 := hz_31
          subst hz_31
          have htok_31 : Tok f L e9_25 k9_31 s9_31 e9_31 := hg_31.1
          have hwd_31 : WdOf f k9_31 s9_31 e9_31 w9_31 := hg_31.2.1
          have hnm_31 : NmOf f k9_31 s9_31 e9_31 m9_31 := hg_31.2.2
          have hle_31 := htok_31.le (by omega)
          have heL_31 : e9_31 ≤ L := hle_31.2.2.1
          have hP : va_P D vwCl [(ma 1, iE cI 382 (enc g lf)), (ma 0, oE 7 [.ref (ma 1), .ref (ma 2), .int (fi 0), .ref (ma 3), .ref (ma 4), .int (nI L), .int (nI e9_31), .int (nI s9_31), .long (w9_31), .int (m9_31), .int (0)]), (ma 4, iE cB 120 (bt f))] H := hP
          have hD : va_D A [(ma 1, iE cI 382 (enc g lf)), (ma 0, oE 7 [.ref (ma 1), .ref (ma 2), .int (fi 0), .ref (ma 3), .ref (ma 4), .int (nI L), .int (nI e9_31), .int (nI s9_31), .long (w9_31), .int (m9_31), .int (0)]), (ma 4, iE cB 120 (bt f))] := hD
          refine lv_aload_n hx hb dX7_readsStep_109 rfl (lv_at hl 2 rfl) ?_
          refine lv_iconst (v := 1) hx hb dX7_readsStep_110 (by decide) ?_
          refine lv_sipush (v := 240) hx hb dX7_readsStep_111 (by decide) ?_
          refine cv_wi (As := [.int (1), .int (240)]) (rest := []) (tys := TYS cI cC cB cS) (ci := 7) (wr := [(ma 1, iE cI 382 (enc g lf))]) ⟨hx, hb, hml, hown, hts⟩ (c_X7_takesNumber l D cI cC cB cS _ (ma) (fi) (w9_31) (L) (f) (k9_31) (s9_31) (e9_31) (m9_31) (0) (1) (240) (hL) (hch) (by omega) ((Or.inl rfl))) (cwV 2 hts gX7_readsStep_X7_takesNumber rfl rfl rfl (by decide +kernel) ⟨Nat.le_of_ble_eq_true rfl, Nat.le_of_ble_eq_true rfl⟩) hK hP hD hS hA [1, 2] [0] rfl rfl (by decide) (by decide) (by decide) rfl rfl rfl rfl hl.1 (Nat.le_of_ble_eq_true rfl) dX7_readsStep_114 ⟨Nat.le_of_ble_eq_true rfl, Nat.le_of_ble_eq_true rfl⟩ (fun r_34 u_33 H locs hu_33 hP hD hS => ?_)
          have hP : va_P D vwCl [(ma 1, iE cI 382 (enc g lf)), (ma 0, oE 7 [.ref (ma 1), .ref (ma 2), .int (fi 0), .ref (ma 3), .ref (ma 4), .int (nI L), .int (nI u_33.1.2.2.1), .int (nI u_33.1.2.1), .long (u_33.1.2.2.2.1), .int (u_33.1.2.2.2.2), .int (u_33.2)]), (ma 4, iE cB 120 (bt f))] H := hP
          have hD : va_D A [(ma 1, iE cI 382 (enc g lf)), (ma 0, oE 7 [.ref (ma 1), .ref (ma 2), .int (fi 0), .ref (ma 3), .ref (ma 4), .int (nI L), .int (nI u_33.1.2.2.1), .int (nI u_33.1.2.1), .long (u_33.1.2.2.2.1), .int (u_33.1.2.2.2.2), .int (u_33.2)]), (ma 4, iE cB 120 (bt f))] := hD
          have hu_33 : TakeN f L 1 240 (0) (k9_31, s9_31, e9_31, w9_31, m9_31) r_34 u_33 := hu_33
          rcases takeN_cases hu_33 hnm_31 (by omega) (by omega) with ⟨⟨un, hun, hr_34⟩, hz_34, hg_34⟩ | ⟨hno_34, hn_34⟩
          · -- a number
            obtain ⟨⟨k9_34, s9_34, e9_34, w9_34, m9_34⟩, z9_34⟩ := u_33
            have hz_34 : z9_34 = 0 := hz_34
            subst hz_34
            have hun : NumIn f k9_31 s9_31 e9_31 1 240 un := hun
            rw [show r_34 = nI un from hr_34]
            have htok_34 : Tok f L e9_31 k9_34 s9_34 e9_34 := hg_34.1
            have hwd_34 : WdOf f k9_34 s9_34 e9_34 w9_34 := hg_34.2.1
            have hnm_34 : NmOf f k9_34 s9_34 e9_34 m9_34 := hg_34.2.2
            have hle_34 := htok_34.le (by omega)
            have heL_34 : e9_34 ≤ L := hle_34.2.2.1
            have hP : va_P D vwCl [(ma 1, iE cI 382 (enc g lf)), (ma 0, oE 7 [.ref (ma 1), .ref (ma 2), .int (fi 0), .ref (ma 3), .ref (ma 4), .int (nI L), .int (nI e9_34), .int (nI s9_34), .long (w9_34), .int (m9_34), .int (0)]), (ma 4, iE cB 120 (bt f))] H := hP
            have hD : va_D A [(ma 1, iE cI 382 (enc g lf)), (ma 0, oE 7 [.ref (ma 1), .ref (ma 2), .int (fi 0), .ref (ma 3), .ref (ma 4), .int (nI L), .int (nI e9_34), .int (nI s9_34), .long (w9_34), .int (m9_34), .int (0)]), (ma 4, iE cB 120 (bt f))] := hD
            refine lv_istore_n (lv' := [(3, .int (nI un)), (2, .int (nI x0)), (1, .int (1)), (0, .ref (ma 0))]) hx hb dX7_readsStep_117 rfl hl (by decide) rfl (fun ls hl => ?_)
            refine lv_aload_n hx hb dX7_readsStep_118 rfl (lv_at hl 3 rfl) ?_
            refine lv_iconst (v := 0) hx hb dX7_readsStep_119 (by decide) ?_
            refine lv_sipush (v := 5000) hx hb dX7_readsStep_120 (by decide) ?_
            refine cv_wi (As := [.int (0), .int (5000)]) (rest := []) (tys := TYS cI cC cB cS) (ci := 7) (wr := [(ma 1, iE cI 382 (enc g lf))]) ⟨hx, hb, hml, hown, hts⟩ (c_X7_takesNumber l D cI cC cB cS _ (ma) (fi) (w9_34) (L) (f) (k9_34) (s9_34) (e9_34) (m9_34) (0) (0) (5000) (hL) (hch) (by omega) ((Or.inl rfl))) (cwV 2 hts gX7_readsStep_X7_takesNumber rfl rfl rfl (by decide +kernel) ⟨Nat.le_of_ble_eq_true rfl, Nat.le_of_ble_eq_true rfl⟩) hK hP hD hS hA [1, 2] [0] rfl rfl (by decide) (by decide) (by decide) rfl rfl rfl rfl hl.1 (Nat.le_of_ble_eq_true rfl) dX7_readsStep_123 ⟨Nat.le_of_ble_eq_true rfl, Nat.le_of_ble_eq_true rfl⟩ (fun r_37 u_36 H locs hu_36 hP hD hS => ?_)
            have hP : va_P D vwCl [(ma 1, iE cI 382 (enc g lf)), (ma 0, oE 7 [.ref (ma 1), .ref (ma 2), .int (fi 0), .ref (ma 3), .ref (ma 4), .int (nI L), .int (nI u_36.1.2.2.1), .int (nI u_36.1.2.1), .long (u_36.1.2.2.2.1), .int (u_36.1.2.2.2.2), .int (u_36.2)]), (ma 4, iE cB 120 (bt f))] H := hP
            have hD : va_D A [(ma 1, iE cI 382 (enc g lf)), (ma 0, oE 7 [.ref (ma 1), .ref (ma 2), .int (fi 0), .ref (ma 3), .ref (ma 4), .int (nI L), .int (nI u_36.1.2.2.1), .int (nI u_36.1.2.1), .long (u_36.1.2.2.2.1), .int (u_36.1.2.2.2.2), .int (u_36.2)]), (ma 4, iE cB 120 (bt f))] := hD
            have hu_36 : TakeN f L 0 5000 (0) (k9_34, s9_34, e9_34, w9_34, m9_34) r_37 u_36 := hu_36
            rcases takeN_cases hu_36 hnm_34 (by omega) (by omega) with ⟨⟨pr, hpr, hr_37⟩, hz_37, hg_37⟩ | ⟨hno_37, hn_37⟩
            · -- a number
              obtain ⟨⟨k9_37, s9_37, e9_37, w9_37, m9_37⟩, z9_37⟩ := u_36
              have hz_37 : z9_37 = 0 := hz_37
              subst hz_37
              have hpr : NumIn f k9_34 s9_34 e9_34 0 5000 pr := hpr
              rw [show r_37 = nI pr from hr_37]
              have htok_37 : Tok f L e9_34 k9_37 s9_37 e9_37 := hg_37.1
              have hwd_37 : WdOf f k9_37 s9_37 e9_37 w9_37 := hg_37.2.1
              have hnm_37 : NmOf f k9_37 s9_37 e9_37 m9_37 := hg_37.2.2
              have hle_37 := htok_37.le (by omega)
              have heL_37 : e9_37 ≤ L := hle_37.2.2.1
              have hP : va_P D vwCl [(ma 1, iE cI 382 (enc g lf)), (ma 0, oE 7 [.ref (ma 1), .ref (ma 2), .int (fi 0), .ref (ma 3), .ref (ma 4), .int (nI L), .int (nI e9_37), .int (nI s9_37), .long (w9_37), .int (m9_37), .int (0)]), (ma 4, iE cB 120 (bt f))] H := hP
              have hD : va_D A [(ma 1, iE cI 382 (enc g lf)), (ma 0, oE 7 [.ref (ma 1), .ref (ma 2), .int (fi 0), .ref (ma 3), .ref (ma 4), .int (nI L), .int (nI e9_37), .int (nI s9_37), .long (w9_37), .int (m9_37), .int (0)]), (ma 4, iE cB 120 (bt f))] := hD
              refine lv_istore (lv' := [(4, .int (nI pr)), (3, .int (nI un)), (2, .int (nI x0)), (1, .int (1)), (0, .ref (ma 0))]) hx hb dX7_readsStep_126 hl (by decide) rfl (fun ls hl => ?_)
              refine lv_aload_n hx hb dX7_readsStep_128 rfl (lv_at hl 4 rfl) ?_
              refine va_get (D := D) (ci := 7) (v := .int (0)) (C := RX7) (T := TX7) (N := 11) hx hb hts (by decide +kernel) hown hK.1 hP 1 rfl rfl 10 (by decide) (hts (.fieldLink RX7 102 "ParkingGarageModel" "isWrong" "Z") (by decide +kernel)) (fun _ h9 => h9) rfl dX7_readsStep_129 ?_
              refine if_ne_f (tgt := 144) hx hb rfl dX7_readsStep_132 (by decide) ?_
              refine lv_aload_n hx hb dX7_readsStep_135 rfl (lv_at hl 4 rfl) ?_
              refine lv_iload_n hx hb dX7_readsStep_136 rfl (lv_at hl 3 rfl) ?_
              refine lv_iload_n hx hb dX7_readsStep_137 rfl (lv_at hl 2 rfl) ?_
              refine lv_iload_n hx hb dX7_readsStep_138 rfl (lv_at hl 1 rfl) ?_
              refine lv_iload hx hb dX7_readsStep_139 (lv_at hl 0 rfl) ?_
              refine cv_wv (As := [.int (1), .int (nI x0), .int (nI un), .int (nI pr)]) (rest := []) (tys := TYS cI cC cB cS) (ci := 7) (wr := [(ma 4, iE cB 120 (bt f))]) ⟨hx, hb, hml, hown, hts⟩ (c_X7_puts l D cI cC cB cS _ (ma) ((fun j => [fi 0, nI L, nI e9_37, nI s9_37, m9_37, 0].getD j 0)) (w9_37) (g) (lf) (1) (tu) (nI x0) (nI un) (nI pr) (by decide) (hu) (hub) (Or.inr h_30)) (cwV 4 hts gX7_readsStep_X7_puts rfl rfl rfl (by decide +kernel) ⟨Nat.le_of_ble_eq_true rfl, Nat.le_of_ble_eq_true rfl⟩) hK hP hD hS hA [1, 0] [2] rfl rfl (by decide) (by decide) (by decide) rfl rfl rfl rfl hl.1 (Nat.le_of_ble_eq_true rfl) dX7_readsStep_141 ⟨Nat.le_of_ble_eq_true rfl, Nat.le_of_ble_eq_true rfl⟩ (fun u_39 H locs hu_39 hP hD hS => ?_)
              have hP : va_P D vwCl [(ma 4, iE cB 120 (bt f)), (ma 0, oE 7 [.ref (ma 1), .ref (ma 2), .int (fi 0), .ref (ma 3), .ref (ma 4), .int (nI L), .int (nI e9_37), .int (nI s9_37), .long (w9_37), .int (m9_37), .int (0)]), (ma 1, iE cI 382 (enc (wblk g 23 4 u_39) lf))] H := hP
              have hD : va_D A [(ma 4, iE cB 120 (bt f)), (ma 0, oE 7 [.ref (ma 1), .ref (ma 2), .int (fi 0), .ref (ma 3), .ref (ma 4), .int (nI L), .int (nI e9_37), .int (nI s9_37), .long (w9_37), .int (m9_37), .int (0)]), (ma 1, iE cI 382 (enc (wblk g 23 4 u_39) lf))] := hD
              have hu_39 : TPut (tV g 1) tu (nI x0) (nI un) (nI pr) u_39 := hu_39
              exact wr_vret (((k9_37, s9_37, e9_37, w9_37, m9_37), 0, (wblk g 23 4 u_39))) hx hb hr hlocks hS hP hD [1, 2, 0] rfl rfl (by decide) dX7_readsStep_144 (⟨⟨e9_34, by omega, htok_37, hwd_37, hnm_37⟩, Or.inr ⟨rfl, fun o ho => Exists.intro k9_1 ⟨s9_1, e9_1, 1, htok_1, Or.inr ⟨hV_7_1, Or.inl ⟨hW_8_1, rfl⟩⟩, Or.inr ⟨by decide, Or.inr ⟨by decide, Exists.intro k9_25 ⟨s9_25, e9_25, htok_25, Or.inl ⟨⟨x0, hx0⟩, x0, hx0, Or.inl ⟨Or.inr h_30, Exists.intro k9_31 ⟨s9_31, e9_31, htok_31, Or.inl ⟨⟨un, hun⟩, un, hun, Exists.intro k9_34 ⟨s9_34, e9_34, htok_34, Or.inl ⟨⟨pr, hpr⟩, pr, hpr, Exists.intro k9_37 ⟨s9_37, e9_37, htok_37, ho.im (fun q9 => Exists.intro u_39 ⟨hu_39, q9⟩)⟩⟩⟩⟩⟩⟩⟩⟩⟩⟩⟩⟩⟩)
            · -- none
              subst hn_37
              have hno_37 : ¬ ∃ v, NumIn f k9_34 s9_34 e9_34 0 5000 v := hno_37
              have hP : va_P D vwCl [(ma 1, iE cI 382 (enc g lf)), (ma 0, oE 7 [.ref (ma 1), .ref (ma 2), .int (fi 0), .ref (ma 3), .ref (ma 4), .int (nI L), .int (nI e9_34), .int (nI s9_34), .long (w9_34), .int (m9_34), .int (1)]), (ma 4, iE cB 120 (bt f))] H := hP
              have hD : va_D A [(ma 1, iE cI 382 (enc g lf)), (ma 0, oE 7 [.ref (ma 1), .ref (ma 2), .int (fi 0), .ref (ma 3), .ref (ma 4), .int (nI L), .int (nI e9_34), .int (nI s9_34), .long (w9_34), .int (m9_34), .int (1)]), (ma 4, iE cB 120 (bt f))] := hD
              refine lv_istore (lv' := [(4, .int (r_37)), (3, .int (nI un)), (2, .int (nI x0)), (1, .int (1)), (0, .ref (ma 0))]) hx hb dX7_readsStep_126 hl (by decide) rfl (fun ls hl => ?_)
              refine lv_aload_n hx hb dX7_readsStep_128 rfl (lv_at hl 4 rfl) ?_
              refine va_get (D := D) (ci := 7) (v := .int (1)) (C := RX7) (T := TX7) (N := 11) hx hb hts (by decide +kernel) hown hK.1 hP 1 rfl rfl 10 (by decide) (hts (.fieldLink RX7 102 "ParkingGarageModel" "isWrong" "Z") (by decide +kernel)) (fun _ h9 => h9) rfl dX7_readsStep_129 ?_
              refine if_ne_t (tgt := 144) hx hb (by decide) dX7_readsStep_132 (by decide) ?_
              exact wr_vret (((k9_34, s9_34, e9_34, w9_34, m9_34), 1, g)) hx hb hr hlocks hS hP hD [1, 0, 2] rfl rfl (by decide) dX7_readsStep_144 (⟨⟨e9_31, by omega, htok_34, hwd_34, hnm_34⟩, Or.inl ⟨rfl, Exists.intro k9_1 ⟨s9_1, e9_1, 1, htok_1, Or.inr ⟨hV_7_1, Or.inl ⟨hW_8_1, rfl⟩⟩, Or.inr ⟨by decide, Or.inr ⟨by decide, Exists.intro k9_25 ⟨s9_25, e9_25, htok_25, Or.inl ⟨⟨x0, hx0⟩, x0, hx0, Or.inl ⟨Or.inr h_30, Exists.intro k9_31 ⟨s9_31, e9_31, htok_31, Or.inl ⟨⟨un, hun⟩, un, hun, Exists.intro k9_34 ⟨s9_34, e9_34, htok_34, Or.inr ⟨hno_37, rfl⟩⟩⟩⟩⟩⟩⟩⟩⟩⟩⟩⟩)
          · -- none
            subst hn_34
            have hno_34 : ¬ ∃ v, NumIn f k9_31 s9_31 e9_31 1 240 v := hno_34
            have hP : va_P D vwCl [(ma 1, iE cI 382 (enc g lf)), (ma 0, oE 7 [.ref (ma 1), .ref (ma 2), .int (fi 0), .ref (ma 3), .ref (ma 4), .int (nI L), .int (nI e9_31), .int (nI s9_31), .long (w9_31), .int (m9_31), .int (1)]), (ma 4, iE cB 120 (bt f))] H := hP
            have hD : va_D A [(ma 1, iE cI 382 (enc g lf)), (ma 0, oE 7 [.ref (ma 1), .ref (ma 2), .int (fi 0), .ref (ma 3), .ref (ma 4), .int (nI L), .int (nI e9_31), .int (nI s9_31), .long (w9_31), .int (m9_31), .int (1)]), (ma 4, iE cB 120 (bt f))] := hD
            refine lv_istore_n (lv' := [(3, .int (r_34)), (2, .int (nI x0)), (1, .int (1)), (0, .ref (ma 0))]) hx hb dX7_readsStep_117 rfl hl (by decide) rfl (fun ls hl => ?_)
            refine lv_aload_n hx hb dX7_readsStep_118 rfl (lv_at hl 3 rfl) ?_
            refine lv_iconst (v := 0) hx hb dX7_readsStep_119 (by decide) ?_
            refine lv_sipush (v := 5000) hx hb dX7_readsStep_120 (by decide) ?_
            refine cv_wi (As := [.int (0), .int (5000)]) (rest := []) (tys := TYS cI cC cB cS) (ci := 7) (wr := [(ma 1, iE cI 382 (enc g lf))]) ⟨hx, hb, hml, hown, hts⟩ (c_X7_takesNumber l D cI cC cB cS _ (ma) (fi) (w9_31) (L) (f) (k9_31) (s9_31) (e9_31) (m9_31) (1) (0) (5000) (hL) (hch) (by omega) ((Or.inr rfl))) (cwV 2 hts gX7_readsStep_X7_takesNumber rfl rfl rfl (by decide +kernel) ⟨Nat.le_of_ble_eq_true rfl, Nat.le_of_ble_eq_true rfl⟩) hK hP hD hS hA [1, 2] [0] rfl rfl (by decide) (by decide) (by decide) rfl rfl rfl rfl hl.1 (Nat.le_of_ble_eq_true rfl) dX7_readsStep_123 ⟨Nat.le_of_ble_eq_true rfl, Nat.le_of_ble_eq_true rfl⟩ (fun r_41 u_40 H locs hu_40 hP hD hS => ?_)
            have hP : va_P D vwCl [(ma 1, iE cI 382 (enc g lf)), (ma 0, oE 7 [.ref (ma 1), .ref (ma 2), .int (fi 0), .ref (ma 3), .ref (ma 4), .int (nI L), .int (nI u_40.1.2.2.1), .int (nI u_40.1.2.1), .long (u_40.1.2.2.2.1), .int (u_40.1.2.2.2.2), .int (u_40.2)]), (ma 4, iE cB 120 (bt f))] H := hP
            have hD : va_D A [(ma 1, iE cI 382 (enc g lf)), (ma 0, oE 7 [.ref (ma 1), .ref (ma 2), .int (fi 0), .ref (ma 3), .ref (ma 4), .int (nI L), .int (nI u_40.1.2.2.1), .int (nI u_40.1.2.1), .long (u_40.1.2.2.2.1), .int (u_40.1.2.2.2.2), .int (u_40.2)]), (ma 4, iE cB 120 (bt f))] := hD
            have hu_40 : TakeN f L 0 5000 (1) (k9_31, s9_31, e9_31, w9_31, m9_31) r_41 u_40 := hu_40
            have hn_41 := takeN_wrong hu_40
            subst hn_41
            have hP : va_P D vwCl [(ma 1, iE cI 382 (enc g lf)), (ma 0, oE 7 [.ref (ma 1), .ref (ma 2), .int (fi 0), .ref (ma 3), .ref (ma 4), .int (nI L), .int (nI e9_31), .int (nI s9_31), .long (w9_31), .int (m9_31), .int (1)]), (ma 4, iE cB 120 (bt f))] H := hP
            have hD : va_D A [(ma 1, iE cI 382 (enc g lf)), (ma 0, oE 7 [.ref (ma 1), .ref (ma 2), .int (fi 0), .ref (ma 3), .ref (ma 4), .int (nI L), .int (nI e9_31), .int (nI s9_31), .long (w9_31), .int (m9_31), .int (1)]), (ma 4, iE cB 120 (bt f))] := hD
            refine lv_istore (lv' := [(4, .int (r_41)), (3, .int (r_34)), (2, .int (nI x0)), (1, .int (1)), (0, .ref (ma 0))]) hx hb dX7_readsStep_126 hl (by decide) rfl (fun ls hl => ?_)
            refine lv_aload_n hx hb dX7_readsStep_128 rfl (lv_at hl 4 rfl) ?_
            refine va_get (D := D) (ci := 7) (v := .int (1)) (C := RX7) (T := TX7) (N := 11) hx hb hts (by decide +kernel) hown hK.1 hP 1 rfl rfl 10 (by decide) (hts (.fieldLink RX7 102 "ParkingGarageModel" "isWrong" "Z") (by decide +kernel)) (fun _ h9 => h9) rfl dX7_readsStep_129 ?_
            refine if_ne_t (tgt := 144) hx hb (by decide) dX7_readsStep_132 (by decide) ?_
            exact wr_vret (((k9_31, s9_31, e9_31, w9_31, m9_31), 1, g)) hx hb hr hlocks hS hP hD [1, 0, 2] rfl rfl (by decide) dX7_readsStep_144 (⟨⟨e9_25, by omega, htok_31, hwd_31, hnm_31⟩, Or.inl ⟨rfl, Exists.intro k9_1 ⟨s9_1, e9_1, 1, htok_1, Or.inr ⟨hV_7_1, Or.inl ⟨hW_8_1, rfl⟩⟩, Or.inr ⟨by decide, Or.inr ⟨by decide, Exists.intro k9_25 ⟨s9_25, e9_25, htok_25, Or.inl ⟨⟨x0, hx0⟩, x0, hx0, Or.inl ⟨Or.inr h_30, Exists.intro k9_31 ⟨s9_31, e9_31, htok_31, Or.inr ⟨hno_34, rfl⟩⟩⟩⟩⟩⟩⟩⟩⟩⟩)
        · -- X7_hasStep f
          refine if_ne_f (tgt := 101) hx hb rfl dX7_readsStep_82 (by decide) ?_
          refine lv_aload_n hx hb dX7_readsStep_85 rfl (lv_at hl 2 rfl) ?_
          refine va_get (D := D) (ci := 7) (v := .ref (ma 1)) (C := RX7) (T := TX7) (N := 11) hx hb hts (by decide +kernel) hown hK.1 hP 1 rfl rfl 0 (by decide) (hts (.fieldLink RX7 7 "ParkingGarageModel" "s" "[I") (by decide +kernel)) (fun _ h9 => h9) rfl dX7_readsStep_86 ?_
          refine lv_bipush (v := 14) hx hb dX7_readsStep_89 (by decide) ?_
          refine lv_bipush (v := 16) hx hb dX7_readsStep_91 (by decide) ?_
          refine lv_iload_n hx hb dX7_readsStep_93 rfl (lv_at hl 1 rfl) ?_
          refine lv_imul hx hb dX7_readsStep_94 ?_
          rw [show (((16) * (1)) : Int32) = 16 from by decide]
          refine lv_iadd hx hb dX7_readsStep_95 ?_
          rw [show (((14) + (16)) : Int32) = 30 from by decide]
          refine iald_n (f := enc g lf) hx hb hK.1 hP 0 0 rfl rfl (30) (rfl) (by decide) (by omega) dX7_readsStep_96 ?_
          rw [show enc g lf (30) = nI tu from hu]
          refine lv_iconst (v := 5) hx hb dX7_readsStep_97 (by decide) ?_
          refine lv_icmp_ge (tgt := 105) hx hb dX7_readsStep_98 (by decide) (fun c_43 => ?_) (fun c_43 => ?_)
          · -- c_43: nI tu ≥ 5
            refine lv_iconst (v := 0) hx hb dX7_readsStep_105 (by decide) ?_
            refine cv_wv (As := [.int (0)]) (rest := []) (tys := TYS cI cC cB cS) (ci := 7) (wr := [(ma 1, iE cI 382 (enc g lf))]) ⟨hx, hb, hml, hown, hts⟩ (c_X7_takes l D cI cC cB cS _ (ma) (fi) (w9_25) (L) (f) (k9_25) (s9_25) (e9_25) (nI x0) (0) (0) (hL) (hch) (by omega) ((Or.inl rfl)) ((Or.inl rfl))) (cwV 1 hts gX7_readsStep_X7_takes rfl rfl rfl (by decide +kernel) ⟨Nat.le_of_ble_eq_true rfl, Nat.le_of_ble_eq_true rfl⟩) hK hP hD hS hA [1, 2] [0] rfl rfl (by decide) (by decide) (by decide) rfl rfl rfl rfl hl.1 (Nat.le_of_ble_eq_true rfl) dX7_readsStep_106 ⟨Nat.le_of_ble_eq_true rfl, Nat.le_of_ble_eq_true rfl⟩ (fun u_44 H locs hu_44 hP hD hS => ?_)
            have hP : va_P D vwCl [(ma 1, iE cI 382 (enc g lf)), (ma 0, oE 7 [.ref (ma 1), .ref (ma 2), .int (fi 0), .ref (ma 3), .ref (ma 4), .int (nI L), .int (nI u_44.1.2.2.1), .int (nI u_44.1.2.1), .long (u_44.1.2.2.2.1), .int (u_44.1.2.2.2.2), .int (u_44.2)]), (ma 4, iE cB 120 (bt f))] H := hP
            have hD : va_D A [(ma 1, iE cI 382 (enc g lf)), (ma 0, oE 7 [.ref (ma 1), .ref (ma 2), .int (fi 0), .ref (ma 3), .ref (ma 4), .int (nI L), .int (nI u_44.1.2.2.1), .int (nI u_44.1.2.1), .long (u_44.1.2.2.2.1), .int (u_44.1.2.2.2.2), .int (u_44.2)]), (ma 4, iE cB 120 (bt f))] := hD
            have hu_44 : TakeR f L (0) (0) (k9_25, s9_25, e9_25, w9_25, nI x0) u_44 := hu_44
            have hn_44 := take_no hu_44 (fun q9 => absurd q9.2 (by decide))
            subst hn_44
            have hP : va_P D vwCl [(ma 1, iE cI 382 (enc g lf)), (ma 0, oE 7 [.ref (ma 1), .ref (ma 2), .int (fi 0), .ref (ma 3), .ref (ma 4), .int (nI L), .int (nI e9_25), .int (nI s9_25), .long (w9_25), .int (nI x0), .int (1)]), (ma 4, iE cB 120 (bt f))] H := hP
            have hD : va_D A [(ma 1, iE cI 382 (enc g lf)), (ma 0, oE 7 [.ref (ma 1), .ref (ma 2), .int (fi 0), .ref (ma 3), .ref (ma 4), .int (nI L), .int (nI e9_25), .int (nI s9_25), .long (w9_25), .int (nI x0), .int (1)]), (ma 4, iE cB 120 (bt f))] := hD
            refine lv_aload_n hx hb dX7_readsStep_109 rfl (lv_at hl 2 rfl) ?_
            refine lv_iconst (v := 1) hx hb dX7_readsStep_110 (by decide) ?_
            refine lv_sipush (v := 240) hx hb dX7_readsStep_111 (by decide) ?_
            refine cv_wi (As := [.int (1), .int (240)]) (rest := []) (tys := TYS cI cC cB cS) (ci := 7) (wr := [(ma 1, iE cI 382 (enc g lf))]) ⟨hx, hb, hml, hown, hts⟩ (c_X7_takesNumber l D cI cC cB cS _ (ma) (fi) (w9_25) (L) (f) (k9_25) (s9_25) (e9_25) (nI x0) (1) (1) (240) (hL) (hch) (by omega) ((Or.inr rfl))) (cwV 2 hts gX7_readsStep_X7_takesNumber rfl rfl rfl (by decide +kernel) ⟨Nat.le_of_ble_eq_true rfl, Nat.le_of_ble_eq_true rfl⟩) hK hP hD hS hA [1, 2] [0] rfl rfl (by decide) (by decide) (by decide) rfl rfl rfl rfl hl.1 (Nat.le_of_ble_eq_true rfl) dX7_readsStep_114 ⟨Nat.le_of_ble_eq_true rfl, Nat.le_of_ble_eq_true rfl⟩ (fun r_47 u_46 H locs hu_46 hP hD hS => ?_)
            have hP : va_P D vwCl [(ma 1, iE cI 382 (enc g lf)), (ma 0, oE 7 [.ref (ma 1), .ref (ma 2), .int (fi 0), .ref (ma 3), .ref (ma 4), .int (nI L), .int (nI u_46.1.2.2.1), .int (nI u_46.1.2.1), .long (u_46.1.2.2.2.1), .int (u_46.1.2.2.2.2), .int (u_46.2)]), (ma 4, iE cB 120 (bt f))] H := hP
            have hD : va_D A [(ma 1, iE cI 382 (enc g lf)), (ma 0, oE 7 [.ref (ma 1), .ref (ma 2), .int (fi 0), .ref (ma 3), .ref (ma 4), .int (nI L), .int (nI u_46.1.2.2.1), .int (nI u_46.1.2.1), .long (u_46.1.2.2.2.1), .int (u_46.1.2.2.2.2), .int (u_46.2)]), (ma 4, iE cB 120 (bt f))] := hD
            have hu_46 : TakeN f L 1 240 (1) (k9_25, s9_25, e9_25, w9_25, nI x0) r_47 u_46 := hu_46
            have hn_47 := takeN_wrong hu_46
            subst hn_47
            have hP : va_P D vwCl [(ma 1, iE cI 382 (enc g lf)), (ma 0, oE 7 [.ref (ma 1), .ref (ma 2), .int (fi 0), .ref (ma 3), .ref (ma 4), .int (nI L), .int (nI e9_25), .int (nI s9_25), .long (w9_25), .int (nI x0), .int (1)]), (ma 4, iE cB 120 (bt f))] H := hP
            have hD : va_D A [(ma 1, iE cI 382 (enc g lf)), (ma 0, oE 7 [.ref (ma 1), .ref (ma 2), .int (fi 0), .ref (ma 3), .ref (ma 4), .int (nI L), .int (nI e9_25), .int (nI s9_25), .long (w9_25), .int (nI x0), .int (1)]), (ma 4, iE cB 120 (bt f))] := hD
            refine lv_istore_n (lv' := [(3, .int (r_47)), (2, .int (nI x0)), (1, .int (1)), (0, .ref (ma 0))]) hx hb dX7_readsStep_117 rfl hl (by decide) rfl (fun ls hl => ?_)
            refine lv_aload_n hx hb dX7_readsStep_118 rfl (lv_at hl 3 rfl) ?_
            refine lv_iconst (v := 0) hx hb dX7_readsStep_119 (by decide) ?_
            refine lv_sipush (v := 5000) hx hb dX7_readsStep_120 (by decide) ?_
            refine cv_wi (As := [.int (0), .int (5000)]) (rest := []) (tys := TYS cI cC cB cS) (ci := 7) (wr := [(ma 1, iE cI 382 (enc g lf))]) ⟨hx, hb, hml, hown, hts⟩ (c_X7_takesNumber l D cI cC cB cS _ (ma) (fi) (w9_25) (L) (f) (k9_25) (s9_25) (e9_25) (nI x0) (1) (0) (5000) (hL) (hch) (by omega) ((Or.inr rfl))) (cwV 2 hts gX7_readsStep_X7_takesNumber rfl rfl rfl (by decide +kernel) ⟨Nat.le_of_ble_eq_true rfl, Nat.le_of_ble_eq_true rfl⟩) hK hP hD hS hA [1, 2] [0] rfl rfl (by decide) (by decide) (by decide) rfl rfl rfl rfl hl.1 (Nat.le_of_ble_eq_true rfl) dX7_readsStep_123 ⟨Nat.le_of_ble_eq_true rfl, Nat.le_of_ble_eq_true rfl⟩ (fun r_50 u_49 H locs hu_49 hP hD hS => ?_)
            have hP : va_P D vwCl [(ma 1, iE cI 382 (enc g lf)), (ma 0, oE 7 [.ref (ma 1), .ref (ma 2), .int (fi 0), .ref (ma 3), .ref (ma 4), .int (nI L), .int (nI u_49.1.2.2.1), .int (nI u_49.1.2.1), .long (u_49.1.2.2.2.1), .int (u_49.1.2.2.2.2), .int (u_49.2)]), (ma 4, iE cB 120 (bt f))] H := hP
            have hD : va_D A [(ma 1, iE cI 382 (enc g lf)), (ma 0, oE 7 [.ref (ma 1), .ref (ma 2), .int (fi 0), .ref (ma 3), .ref (ma 4), .int (nI L), .int (nI u_49.1.2.2.1), .int (nI u_49.1.2.1), .long (u_49.1.2.2.2.1), .int (u_49.1.2.2.2.2), .int (u_49.2)]), (ma 4, iE cB 120 (bt f))] := hD
            have hu_49 : TakeN f L 0 5000 (1) (k9_25, s9_25, e9_25, w9_25, nI x0) r_50 u_49 := hu_49
            have hn_50 := takeN_wrong hu_49
            subst hn_50
            have hP : va_P D vwCl [(ma 1, iE cI 382 (enc g lf)), (ma 0, oE 7 [.ref (ma 1), .ref (ma 2), .int (fi 0), .ref (ma 3), .ref (ma 4), .int (nI L), .int (nI e9_25), .int (nI s9_25), .long (w9_25), .int (nI x0), .int (1)]), (ma 4, iE cB 120 (bt f))] H := hP
            have hD : va_D A [(ma 1, iE cI 382 (enc g lf)), (ma 0, oE 7 [.ref (ma 1), .ref (ma 2), .int (fi 0), .ref (ma 3), .ref (ma 4), .int (nI L), .int (nI e9_25), .int (nI s9_25), .long (w9_25), .int (nI x0), .int (1)]), (ma 4, iE cB 120 (bt f))] := hD
            refine lv_istore (lv' := [(4, .int (r_50)), (3, .int (r_47)), (2, .int (nI x0)), (1, .int (1)), (0, .ref (ma 0))]) hx hb dX7_readsStep_126 hl (by decide) rfl (fun ls hl => ?_)
            refine lv_aload_n hx hb dX7_readsStep_128 rfl (lv_at hl 4 rfl) ?_
            refine va_get (D := D) (ci := 7) (v := .int (1)) (C := RX7) (T := TX7) (N := 11) hx hb hts (by decide +kernel) hown hK.1 hP 1 rfl rfl 10 (by decide) (hts (.fieldLink RX7 102 "ParkingGarageModel" "isWrong" "Z") (by decide +kernel)) (fun _ h9 => h9) rfl dX7_readsStep_129 ?_
            refine if_ne_t (tgt := 144) hx hb (by decide) dX7_readsStep_132 (by decide) ?_
            exact wr_vret (((k9_25, s9_25, e9_25, w9_25, nI x0), 1, g)) hx hb hr hlocks hS hP hD [1, 0, 2] rfl rfl (by decide) dX7_readsStep_144 (⟨⟨e9_1, by omega, htok_25, hwd_25, hnm_25⟩, Or.inl ⟨rfl, Exists.intro k9_1 ⟨s9_1, e9_1, 1, htok_1, Or.inr ⟨hV_7_1, Or.inl ⟨hW_8_1, rfl⟩⟩, Or.inr ⟨by decide, Or.inr ⟨by decide, Exists.intro k9_25 ⟨s9_25, e9_25, htok_25, Or.inl ⟨⟨x0, hx0⟩, x0, hx0, Or.inr ⟨fun q => q.elim (fun q => by have := (nI_leI (a := 5) (b := tu) (by omega) (by omega)).mp c_43; omega) h_30, rfl⟩⟩⟩⟩⟩⟩⟩⟩)
          · -- c_43: not nI tu ≥ 5
            have hroom9 : tu < 5 := nI_ltD (n := 5) rfl (by omega) (by omega) c_43
            refine lv_iconst (v := 1) hx hb dX7_readsStep_101 (by decide) ?_
            refine lv_goto (tgt := 106) hx hb dX7_readsStep_102 (by decide) ?_
            refine cv_wv (As := [.int (1)]) (rest := []) (tys := TYS cI cC cB cS) (ci := 7) (wr := [(ma 1, iE cI 382 (enc g lf))]) ⟨hx, hb, hml, hown, hts⟩ (c_X7_takes l D cI cC cB cS _ (ma) (fi) (w9_25) (L) (f) (k9_25) (s9_25) (e9_25) (nI x0) (0) (1) (hL) (hch) (by omega) ((Or.inl rfl)) ((Or.inr rfl))) (cwV 1 hts gX7_readsStep_X7_takes rfl rfl rfl (by decide +kernel) ⟨Nat.le_of_ble_eq_true rfl, Nat.le_of_ble_eq_true rfl⟩) hK hP hD hS hA [1, 2] [0] rfl rfl (by decide) (by decide) (by decide) rfl rfl rfl rfl hl.1 (Nat.le_of_ble_eq_true rfl) dX7_readsStep_106 ⟨Nat.le_of_ble_eq_true rfl, Nat.le_of_ble_eq_true rfl⟩ (fun u_52 H locs hu_52 hP hD hS => ?_)
            have hP : va_P D vwCl [(ma 1, iE cI 382 (enc g lf)), (ma 0, oE 7 [.ref (ma 1), .ref (ma 2), .int (fi 0), .ref (ma 3), .ref (ma 4), .int (nI L), .int (nI u_52.1.2.2.1), .int (nI u_52.1.2.1), .long (u_52.1.2.2.2.1), .int (u_52.1.2.2.2.2), .int (u_52.2)]), (ma 4, iE cB 120 (bt f))] H := hP
            have hD : va_D A [(ma 1, iE cI 382 (enc g lf)), (ma 0, oE 7 [.ref (ma 1), .ref (ma 2), .int (fi 0), .ref (ma 3), .ref (ma 4), .int (nI L), .int (nI u_52.1.2.2.1), .int (nI u_52.1.2.1), .long (u_52.1.2.2.2.1), .int (u_52.1.2.2.2.2), .int (u_52.2)]), (ma 4, iE cB 120 (bt f))] := hD
            have hu_52 : TakeR f L (0) (1) (k9_25, s9_25, e9_25, w9_25, nI x0) u_52 := hu_52
            obtain ⟨⟨k9_52, s9_52, e9_52, w9_52, m9_52⟩, z9_52⟩ := u_52
            obtain ⟨hz_52, hg_52⟩ := take_yes hu_52
            have hz_52 : z9_52 = 0 := hz_52
            subst hz_52
            have htok_52 : Tok f L e9_25 k9_52 s9_52 e9_52 := hg_52.1
            have hwd_52 : WdOf f k9_52 s9_52 e9_52 w9_52 := hg_52.2.1
            have hnm_52 : NmOf f k9_52 s9_52 e9_52 m9_52 := hg_52.2.2
            have hle_52 := htok_52.le (by omega)
            have heL_52 : e9_52 ≤ L := hle_52.2.2.1
            have hP : va_P D vwCl [(ma 1, iE cI 382 (enc g lf)), (ma 0, oE 7 [.ref (ma 1), .ref (ma 2), .int (fi 0), .ref (ma 3), .ref (ma 4), .int (nI L), .int (nI e9_52), .int (nI s9_52), .long (w9_52), .int (m9_52), .int (0)]), (ma 4, iE cB 120 (bt f))] H := hP
            have hD : va_D A [(ma 1, iE cI 382 (enc g lf)), (ma 0, oE 7 [.ref (ma 1), .ref (ma 2), .int (fi 0), .ref (ma 3), .ref (ma 4), .int (nI L), .int (nI e9_52), .int (nI s9_52), .long (w9_52), .int (m9_52), .int (0)]), (ma 4, iE cB 120 (bt f))] := hD
            refine lv_aload_n hx hb dX7_readsStep_109 rfl (lv_at hl 2 rfl) ?_
            refine lv_iconst (v := 1) hx hb dX7_readsStep_110 (by decide) ?_
            refine lv_sipush (v := 240) hx hb dX7_readsStep_111 (by decide) ?_
            refine cv_wi (As := [.int (1), .int (240)]) (rest := []) (tys := TYS cI cC cB cS) (ci := 7) (wr := [(ma 1, iE cI 382 (enc g lf))]) ⟨hx, hb, hml, hown, hts⟩ (c_X7_takesNumber l D cI cC cB cS _ (ma) (fi) (w9_52) (L) (f) (k9_52) (s9_52) (e9_52) (m9_52) (0) (1) (240) (hL) (hch) (by omega) ((Or.inl rfl))) (cwV 2 hts gX7_readsStep_X7_takesNumber rfl rfl rfl (by decide +kernel) ⟨Nat.le_of_ble_eq_true rfl, Nat.le_of_ble_eq_true rfl⟩) hK hP hD hS hA [1, 2] [0] rfl rfl (by decide) (by decide) (by decide) rfl rfl rfl rfl hl.1 (Nat.le_of_ble_eq_true rfl) dX7_readsStep_114 ⟨Nat.le_of_ble_eq_true rfl, Nat.le_of_ble_eq_true rfl⟩ (fun r_55 u_54 H locs hu_54 hP hD hS => ?_)
            have hP : va_P D vwCl [(ma 1, iE cI 382 (enc g lf)), (ma 0, oE 7 [.ref (ma 1), .ref (ma 2), .int (fi 0), .ref (ma 3), .ref (ma 4), .int (nI L), .int (nI u_54.1.2.2.1), .int (nI u_54.1.2.1), .long (u_54.1.2.2.2.1), .int (u_54.1.2.2.2.2), .int (u_54.2)]), (ma 4, iE cB 120 (bt f))] H := hP
            have hD : va_D A [(ma 1, iE cI 382 (enc g lf)), (ma 0, oE 7 [.ref (ma 1), .ref (ma 2), .int (fi 0), .ref (ma 3), .ref (ma 4), .int (nI L), .int (nI u_54.1.2.2.1), .int (nI u_54.1.2.1), .long (u_54.1.2.2.2.1), .int (u_54.1.2.2.2.2), .int (u_54.2)]), (ma 4, iE cB 120 (bt f))] := hD
            have hu_54 : TakeN f L 1 240 (0) (k9_52, s9_52, e9_52, w9_52, m9_52) r_55 u_54 := hu_54
            rcases takeN_cases hu_54 hnm_52 (by omega) (by omega) with ⟨⟨un, hun, hr_55⟩, hz_55, hg_55⟩ | ⟨hno_55, hn_55⟩
            · -- a number
              obtain ⟨⟨k9_55, s9_55, e9_55, w9_55, m9_55⟩, z9_55⟩ := u_54
              have hz_55 : z9_55 = 0 := hz_55
              subst hz_55
              have hun : NumIn f k9_52 s9_52 e9_52 1 240 un := hun
              rw [show r_55 = nI un from hr_55]
              have htok_55 : Tok f L e9_52 k9_55 s9_55 e9_55 := hg_55.1
              have hwd_55 : WdOf f k9_55 s9_55 e9_55 w9_55 := hg_55.2.1
              have hnm_55 : NmOf f k9_55 s9_55 e9_55 m9_55 := hg_55.2.2
              have hle_55 := htok_55.le (by omega)
              have heL_55 : e9_55 ≤ L := hle_55.2.2.1
              have hP : va_P D vwCl [(ma 1, iE cI 382 (enc g lf)), (ma 0, oE 7 [.ref (ma 1), .ref (ma 2), .int (fi 0), .ref (ma 3), .ref (ma 4), .int (nI L), .int (nI e9_55), .int (nI s9_55), .long (w9_55), .int (m9_55), .int (0)]), (ma 4, iE cB 120 (bt f))] H := hP
              have hD : va_D A [(ma 1, iE cI 382 (enc g lf)), (ma 0, oE 7 [.ref (ma 1), .ref (ma 2), .int (fi 0), .ref (ma 3), .ref (ma 4), .int (nI L), .int (nI e9_55), .int (nI s9_55), .long (w9_55), .int (m9_55), .int (0)]), (ma 4, iE cB 120 (bt f))] := hD
              refine lv_istore_n (lv' := [(3, .int (nI un)), (2, .int (nI x0)), (1, .int (1)), (0, .ref (ma 0))]) hx hb dX7_readsStep_117 rfl hl (by decide) rfl (fun ls hl => ?_)
              refine lv_aload_n hx hb dX7_readsStep_118 rfl (lv_at hl 3 rfl) ?_
              refine lv_iconst (v := 0) hx hb dX7_readsStep_119 (by decide) ?_
              refine lv_sipush (v := 5000) hx hb dX7_readsStep_120 (by decide) ?_
              refine cv_wi (As := [.int (0), .int (5000)]) (rest := []) (tys := TYS cI cC cB cS) (ci := 7) (wr := [(ma 1, iE cI 382 (enc g lf))]) ⟨hx, hb, hml, hown, hts⟩ (c_X7_takesNumber l D cI cC cB cS _ (ma) (fi) (w9_55) (L) (f) (k9_55) (s9_55) (e9_55) (m9_55) (0) (0) (5000) (hL) (hch) (by omega) ((Or.inl rfl))) (cwV 2 hts gX7_readsStep_X7_takesNumber rfl rfl rfl (by decide +kernel) ⟨Nat.le_of_ble_eq_true rfl, Nat.le_of_ble_eq_true rfl⟩) hK hP hD hS hA [1, 2] [0] rfl rfl (by decide) (by decide) (by decide) rfl rfl rfl rfl hl.1 (Nat.le_of_ble_eq_true rfl) dX7_readsStep_123 ⟨Nat.le_of_ble_eq_true rfl, Nat.le_of_ble_eq_true rfl⟩ (fun r_58 u_57 H locs hu_57 hP hD hS => ?_)
              have hP : va_P D vwCl [(ma 1, iE cI 382 (enc g lf)), (ma 0, oE 7 [.ref (ma 1), .ref (ma 2), .int (fi 0), .ref (ma 3), .ref (ma 4), .int (nI L), .int (nI u_57.1.2.2.1), .int (nI u_57.1.2.1), .long (u_57.1.2.2.2.1), .int (u_57.1.2.2.2.2), .int (u_57.2)]), (ma 4, iE cB 120 (bt f))] H := hP
              have hD : va_D A [(ma 1, iE cI 382 (enc g lf)), (ma 0, oE 7 [.ref (ma 1), .ref (ma 2), .int (fi 0), .ref (ma 3), .ref (ma 4), .int (nI L), .int (nI u_57.1.2.2.1), .int (nI u_57.1.2.1), .long (u_57.1.2.2.2.1), .int (u_57.1.2.2.2.2), .int (u_57.2)]), (ma 4, iE cB 120 (bt f))] := hD
              have hu_57 : TakeN f L 0 5000 (0) (k9_55, s9_55, e9_55, w9_55, m9_55) r_58 u_57 := hu_57
              rcases takeN_cases hu_57 hnm_55 (by omega) (by omega) with ⟨⟨pr, hpr, hr_58⟩, hz_58, hg_58⟩ | ⟨hno_58, hn_58⟩
              · -- a number
                obtain ⟨⟨k9_58, s9_58, e9_58, w9_58, m9_58⟩, z9_58⟩ := u_57
                have hz_58 : z9_58 = 0 := hz_58
                subst hz_58
                have hpr : NumIn f k9_55 s9_55 e9_55 0 5000 pr := hpr
                rw [show r_58 = nI pr from hr_58]
                have htok_58 : Tok f L e9_55 k9_58 s9_58 e9_58 := hg_58.1
                have hwd_58 : WdOf f k9_58 s9_58 e9_58 w9_58 := hg_58.2.1
                have hnm_58 : NmOf f k9_58 s9_58 e9_58 m9_58 := hg_58.2.2
                have hle_58 := htok_58.le (by omega)
                have heL_58 : e9_58 ≤ L := hle_58.2.2.1
                have hP : va_P D vwCl [(ma 1, iE cI 382 (enc g lf)), (ma 0, oE 7 [.ref (ma 1), .ref (ma 2), .int (fi 0), .ref (ma 3), .ref (ma 4), .int (nI L), .int (nI e9_58), .int (nI s9_58), .long (w9_58), .int (m9_58), .int (0)]), (ma 4, iE cB 120 (bt f))] H := hP
                have hD : va_D A [(ma 1, iE cI 382 (enc g lf)), (ma 0, oE 7 [.ref (ma 1), .ref (ma 2), .int (fi 0), .ref (ma 3), .ref (ma 4), .int (nI L), .int (nI e9_58), .int (nI s9_58), .long (w9_58), .int (m9_58), .int (0)]), (ma 4, iE cB 120 (bt f))] := hD
                refine lv_istore (lv' := [(4, .int (nI pr)), (3, .int (nI un)), (2, .int (nI x0)), (1, .int (1)), (0, .ref (ma 0))]) hx hb dX7_readsStep_126 hl (by decide) rfl (fun ls hl => ?_)
                refine lv_aload_n hx hb dX7_readsStep_128 rfl (lv_at hl 4 rfl) ?_
                refine va_get (D := D) (ci := 7) (v := .int (0)) (C := RX7) (T := TX7) (N := 11) hx hb hts (by decide +kernel) hown hK.1 hP 1 rfl rfl 10 (by decide) (hts (.fieldLink RX7 102 "ParkingGarageModel" "isWrong" "Z") (by decide +kernel)) (fun _ h9 => h9) rfl dX7_readsStep_129 ?_
                refine if_ne_f (tgt := 144) hx hb rfl dX7_readsStep_132 (by decide) ?_
                refine lv_aload_n hx hb dX7_readsStep_135 rfl (lv_at hl 4 rfl) ?_
                refine lv_iload_n hx hb dX7_readsStep_136 rfl (lv_at hl 3 rfl) ?_
                refine lv_iload_n hx hb dX7_readsStep_137 rfl (lv_at hl 2 rfl) ?_
                refine lv_iload_n hx hb dX7_readsStep_138 rfl (lv_at hl 1 rfl) ?_
                refine lv_iload hx hb dX7_readsStep_139 (lv_at hl 0 rfl) ?_
                refine cv_wv (As := [.int (1), .int (nI x0), .int (nI un), .int (nI pr)]) (rest := []) (tys := TYS cI cC cB cS) (ci := 7) (wr := [(ma 4, iE cB 120 (bt f))]) ⟨hx, hb, hml, hown, hts⟩ (c_X7_puts l D cI cC cB cS _ (ma) ((fun j => [fi 0, nI L, nI e9_58, nI s9_58, m9_58, 0].getD j 0)) (w9_58) (g) (lf) (1) (tu) (nI x0) (nI un) (nI pr) (by decide) (hu) (hub) (Or.inl hroom9)) (cwV 4 hts gX7_readsStep_X7_puts rfl rfl rfl (by decide +kernel) ⟨Nat.le_of_ble_eq_true rfl, Nat.le_of_ble_eq_true rfl⟩) hK hP hD hS hA [1, 0] [2] rfl rfl (by decide) (by decide) (by decide) rfl rfl rfl rfl hl.1 (Nat.le_of_ble_eq_true rfl) dX7_readsStep_141 ⟨Nat.le_of_ble_eq_true rfl, Nat.le_of_ble_eq_true rfl⟩ (fun u_60 H locs hu_60 hP hD hS => ?_)
                have hP : va_P D vwCl [(ma 4, iE cB 120 (bt f)), (ma 0, oE 7 [.ref (ma 1), .ref (ma 2), .int (fi 0), .ref (ma 3), .ref (ma 4), .int (nI L), .int (nI e9_58), .int (nI s9_58), .long (w9_58), .int (m9_58), .int (0)]), (ma 1, iE cI 382 (enc (wblk g 23 4 u_60) lf))] H := hP
                have hD : va_D A [(ma 4, iE cB 120 (bt f)), (ma 0, oE 7 [.ref (ma 1), .ref (ma 2), .int (fi 0), .ref (ma 3), .ref (ma 4), .int (nI L), .int (nI e9_58), .int (nI s9_58), .long (w9_58), .int (m9_58), .int (0)]), (ma 1, iE cI 382 (enc (wblk g 23 4 u_60) lf))] := hD
                have hu_60 : TPut (tV g 1) tu (nI x0) (nI un) (nI pr) u_60 := hu_60
                exact wr_vret (((k9_58, s9_58, e9_58, w9_58, m9_58), 0, (wblk g 23 4 u_60))) hx hb hr hlocks hS hP hD [1, 2, 0] rfl rfl (by decide) dX7_readsStep_144 (⟨⟨e9_55, by omega, htok_58, hwd_58, hnm_58⟩, Or.inr ⟨rfl, fun o ho => Exists.intro k9_1 ⟨s9_1, e9_1, 1, htok_1, Or.inr ⟨hV_7_1, Or.inl ⟨hW_8_1, rfl⟩⟩, Or.inr ⟨by decide, Or.inr ⟨by decide, Exists.intro k9_25 ⟨s9_25, e9_25, htok_25, Or.inl ⟨⟨x0, hx0⟩, x0, hx0, Or.inl ⟨Or.inl hroom9, Exists.intro k9_52 ⟨s9_52, e9_52, htok_52, Or.inl ⟨⟨un, hun⟩, un, hun, Exists.intro k9_55 ⟨s9_55, e9_55, htok_55, Or.inl ⟨⟨pr, hpr⟩, pr, hpr, Exists.intro k9_58 ⟨s9_58, e9_58, htok_58, ho.im (fun q9 => Exists.intro u_60 ⟨hu_60, q9⟩)⟩⟩⟩⟩⟩⟩⟩⟩⟩⟩⟩⟩⟩)
              · -- none
                subst hn_58
                have hno_58 : ¬ ∃ v, NumIn f k9_55 s9_55 e9_55 0 5000 v := hno_58
                have hP : va_P D vwCl [(ma 1, iE cI 382 (enc g lf)), (ma 0, oE 7 [.ref (ma 1), .ref (ma 2), .int (fi 0), .ref (ma 3), .ref (ma 4), .int (nI L), .int (nI e9_55), .int (nI s9_55), .long (w9_55), .int (m9_55), .int (1)]), (ma 4, iE cB 120 (bt f))] H := hP
                have hD : va_D A [(ma 1, iE cI 382 (enc g lf)), (ma 0, oE 7 [.ref (ma 1), .ref (ma 2), .int (fi 0), .ref (ma 3), .ref (ma 4), .int (nI L), .int (nI e9_55), .int (nI s9_55), .long (w9_55), .int (m9_55), .int (1)]), (ma 4, iE cB 120 (bt f))] := hD
                refine lv_istore (lv' := [(4, .int (r_58)), (3, .int (nI un)), (2, .int (nI x0)), (1, .int (1)), (0, .ref (ma 0))]) hx hb dX7_readsStep_126 hl (by decide) rfl (fun ls hl => ?_)
                refine lv_aload_n hx hb dX7_readsStep_128 rfl (lv_at hl 4 rfl) ?_
                refine va_get (D := D) (ci := 7) (v := .int (1)) (C := RX7) (T := TX7) (N := 11) hx hb hts (by decide +kernel) hown hK.1 hP 1 rfl rfl 10 (by decide) (hts (.fieldLink RX7 102 "ParkingGarageModel" "isWrong" "Z") (by decide +kernel)) (fun _ h9 => h9) rfl dX7_readsStep_129 ?_
                refine if_ne_t (tgt := 144) hx hb (by decide) dX7_readsStep_132 (by decide) ?_
                exact wr_vret (((k9_55, s9_55, e9_55, w9_55, m9_55), 1, g)) hx hb hr hlocks hS hP hD [1, 0, 2] rfl rfl (by decide) dX7_readsStep_144 (⟨⟨e9_52, by omega, htok_55, hwd_55, hnm_55⟩, Or.inl ⟨rfl, Exists.intro k9_1 ⟨s9_1, e9_1, 1, htok_1, Or.inr ⟨hV_7_1, Or.inl ⟨hW_8_1, rfl⟩⟩, Or.inr ⟨by decide, Or.inr ⟨by decide, Exists.intro k9_25 ⟨s9_25, e9_25, htok_25, Or.inl ⟨⟨x0, hx0⟩, x0, hx0, Or.inl ⟨Or.inl hroom9, Exists.intro k9_52 ⟨s9_52, e9_52, htok_52, Or.inl ⟨⟨un, hun⟩, un, hun, Exists.intro k9_55 ⟨s9_55, e9_55, htok_55, Or.inr ⟨hno_58, rfl⟩⟩⟩⟩⟩⟩⟩⟩⟩⟩⟩⟩)
            · -- none
              subst hn_55
              have hno_55 : ¬ ∃ v, NumIn f k9_52 s9_52 e9_52 1 240 v := hno_55
              have hP : va_P D vwCl [(ma 1, iE cI 382 (enc g lf)), (ma 0, oE 7 [.ref (ma 1), .ref (ma 2), .int (fi 0), .ref (ma 3), .ref (ma 4), .int (nI L), .int (nI e9_52), .int (nI s9_52), .long (w9_52), .int (m9_52), .int (1)]), (ma 4, iE cB 120 (bt f))] H := hP
              have hD : va_D A [(ma 1, iE cI 382 (enc g lf)), (ma 0, oE 7 [.ref (ma 1), .ref (ma 2), .int (fi 0), .ref (ma 3), .ref (ma 4), .int (nI L), .int (nI e9_52), .int (nI s9_52), .long (w9_52), .int (m9_52), .int (1)]), (ma 4, iE cB 120 (bt f))] := hD
              refine lv_istore_n (lv' := [(3, .int (r_55)), (2, .int (nI x0)), (1, .int (1)), (0, .ref (ma 0))]) hx hb dX7_readsStep_117 rfl hl (by decide) rfl (fun ls hl => ?_)
              refine lv_aload_n hx hb dX7_readsStep_118 rfl (lv_at hl 3 rfl) ?_
              refine lv_iconst (v := 0) hx hb dX7_readsStep_119 (by decide) ?_
              refine lv_sipush (v := 5000) hx hb dX7_readsStep_120 (by decide) ?_
              refine cv_wi (As := [.int (0), .int (5000)]) (rest := []) (tys := TYS cI cC cB cS) (ci := 7) (wr := [(ma 1, iE cI 382 (enc g lf))]) ⟨hx, hb, hml, hown, hts⟩ (c_X7_takesNumber l D cI cC cB cS _ (ma) (fi) (w9_52) (L) (f) (k9_52) (s9_52) (e9_52) (m9_52) (1) (0) (5000) (hL) (hch) (by omega) ((Or.inr rfl))) (cwV 2 hts gX7_readsStep_X7_takesNumber rfl rfl rfl (by decide +kernel) ⟨Nat.le_of_ble_eq_true rfl, Nat.le_of_ble_eq_true rfl⟩) hK hP hD hS hA [1, 2] [0] rfl rfl (by decide) (by decide) (by decide) rfl rfl rfl rfl hl.1 (Nat.le_of_ble_eq_true rfl) dX7_readsStep_123 ⟨Nat.le_of_ble_eq_true rfl, Nat.le_of_ble_eq_true rfl⟩ (fun r_62 u_61 H locs hu_61 hP hD hS => ?_)
              have hP : va_P D vwCl [(ma 1, iE cI 382 (enc g lf)), (ma 0, oE 7 [.ref (ma 1), .ref (ma 2), .int (fi 0), .ref (ma 3), .ref (ma 4), .int (nI L), .int (nI u_61.1.2.2.1), .int (nI u_61.1.2.1), .long (u_61.1.2.2.2.1), .int (u_61.1.2.2.2.2), .int (u_61.2)]), (ma 4, iE cB 120 (bt f))] H := hP
              have hD : va_D A [(ma 1, iE cI 382 (enc g lf)), (ma 0, oE 7 [.ref (ma 1), .ref (ma 2), .int (fi 0), .ref (ma 3), .ref (ma 4), .int (nI L), .int (nI u_61.1.2.2.1), .int (nI u_61.1.2.1), .long (u_61.1.2.2.2.1), .int (u_61.1.2.2.2.2), .int (u_61.2)]), (ma 4, iE cB 120 (bt f))] := hD
              have hu_61 : TakeN f L 0 5000 (1) (k9_52, s9_52, e9_52, w9_52, m9_52) r_62 u_61 := hu_61
              have hn_62 := takeN_wrong hu_61
              subst hn_62
              have hP : va_P D vwCl [(ma 1, iE cI 382 (enc g lf)), (ma 0, oE 7 [.ref (ma 1), .ref (ma 2), .int (fi 0), .ref (ma 3), .ref (ma 4), .int (nI L), .int (nI e9_52), .int (nI s9_52), .long (w9_52), .int (m9_52), .int (1)]), (ma 4, iE cB 120 (bt f))] H := hP
              have hD : va_D A [(ma 1, iE cI 382 (enc g lf)), (ma 0, oE 7 [.ref (ma 1), .ref (ma 2), .int (fi 0), .ref (ma 3), .ref (ma 4), .int (nI L), .int (nI e9_52), .int (nI s9_52), .long (w9_52), .int (m9_52), .int (1)]), (ma 4, iE cB 120 (bt f))] := hD
              refine lv_istore (lv' := [(4, .int (r_62)), (3, .int (r_55)), (2, .int (nI x0)), (1, .int (1)), (0, .ref (ma 0))]) hx hb dX7_readsStep_126 hl (by decide) rfl (fun ls hl => ?_)
              refine lv_aload_n hx hb dX7_readsStep_128 rfl (lv_at hl 4 rfl) ?_
              refine va_get (D := D) (ci := 7) (v := .int (1)) (C := RX7) (T := TX7) (N := 11) hx hb hts (by decide +kernel) hown hK.1 hP 1 rfl rfl 10 (by decide) (hts (.fieldLink RX7 102 "ParkingGarageModel" "isWrong" "Z") (by decide +kernel)) (fun _ h9 => h9) rfl dX7_readsStep_129 ?_
              refine if_ne_t (tgt := 144) hx hb (by decide) dX7_readsStep_132 (by decide) ?_
              exact wr_vret (((k9_52, s9_52, e9_52, w9_52, m9_52), 1, g)) hx hb hr hlocks hS hP hD [1, 0, 2] rfl rfl (by decide) dX7_readsStep_144 (⟨⟨e9_25, by omega, htok_52, hwd_52, hnm_52⟩, Or.inl ⟨rfl, Exists.intro k9_1 ⟨s9_1, e9_1, 1, htok_1, Or.inr ⟨hV_7_1, Or.inl ⟨hW_8_1, rfl⟩⟩, Or.inr ⟨by decide, Or.inr ⟨by decide, Exists.intro k9_25 ⟨s9_25, e9_25, htok_25, Or.inl ⟨⟨x0, hx0⟩, x0, hx0, Or.inl ⟨Or.inl hroom9, Exists.intro k9_52 ⟨s9_52, e9_52, htok_52, Or.inr ⟨hno_55, rfl⟩⟩⟩⟩⟩⟩⟩⟩⟩⟩)
      · -- X7_in f
        have hno9 := nm_no (lo := 0) (hi := 1440) hnm_25 (by decide) h_28
        refine if_eq_t (tgt := 105) hx hb rfl dX7_readsStep_66 (by decide) ?_
        refine lv_iconst (v := 0) hx hb dX7_readsStep_105 (by decide) ?_
        refine cv_wv (As := [.int (0)]) (rest := []) (tys := TYS cI cC cB cS) (ci := 7) (wr := [(ma 1, iE cI 382 (enc g lf))]) ⟨hx, hb, hml, hown, hts⟩ (c_X7_takes l D cI cC cB cS _ (ma) (fi) (w9_25) (L) (f) (k9_25) (s9_25) (e9_25) (m9_25) (0) (0) (hL) (hch) (by omega) ((Or.inl rfl)) ((Or.inl rfl))) (cwV 1 hts gX7_readsStep_X7_takes rfl rfl rfl (by decide +kernel) ⟨Nat.le_of_ble_eq_true rfl, Nat.le_of_ble_eq_true rfl⟩) hK hP hD hS hA [1, 2] [0] rfl rfl (by decide) (by decide) (by decide) rfl rfl rfl rfl hl.1 (Nat.le_of_ble_eq_true rfl) dX7_readsStep_106 ⟨Nat.le_of_ble_eq_true rfl, Nat.le_of_ble_eq_true rfl⟩ (fun u_64 H locs hu_64 hP hD hS => ?_)
        have hP : va_P D vwCl [(ma 1, iE cI 382 (enc g lf)), (ma 0, oE 7 [.ref (ma 1), .ref (ma 2), .int (fi 0), .ref (ma 3), .ref (ma 4), .int (nI L), .int (nI u_64.1.2.2.1), .int (nI u_64.1.2.1), .long (u_64.1.2.2.2.1), .int (u_64.1.2.2.2.2), .int (u_64.2)]), (ma 4, iE cB 120 (bt f))] H := hP
        have hD : va_D A [(ma 1, iE cI 382 (enc g lf)), (ma 0, oE 7 [.ref (ma 1), .ref (ma 2), .int (fi 0), .ref (ma 3), .ref (ma 4), .int (nI L), .int (nI u_64.1.2.2.1), .int (nI u_64.1.2.1), .long (u_64.1.2.2.2.1), .int (u_64.1.2.2.2.2), .int (u_64.2)]), (ma 4, iE cB 120 (bt f))] := hD
        have hu_64 : TakeR f L (0) (0) (k9_25, s9_25, e9_25, w9_25, m9_25) u_64 := hu_64
        have hn_64 := take_no hu_64 (fun q9 => absurd q9.2 (by decide))
        subst hn_64
        have hP : va_P D vwCl [(ma 1, iE cI 382 (enc g lf)), (ma 0, oE 7 [.ref (ma 1), .ref (ma 2), .int (fi 0), .ref (ma 3), .ref (ma 4), .int (nI L), .int (nI e9_25), .int (nI s9_25), .long (w9_25), .int (m9_25), .int (1)]), (ma 4, iE cB 120 (bt f))] H := hP
        have hD : va_D A [(ma 1, iE cI 382 (enc g lf)), (ma 0, oE 7 [.ref (ma 1), .ref (ma 2), .int (fi 0), .ref (ma 3), .ref (ma 4), .int (nI L), .int (nI e9_25), .int (nI s9_25), .long (w9_25), .int (m9_25), .int (1)]), (ma 4, iE cB 120 (bt f))] := hD
        refine lv_aload_n hx hb dX7_readsStep_109 rfl (lv_at hl 2 rfl) ?_
        refine lv_iconst (v := 1) hx hb dX7_readsStep_110 (by decide) ?_
        refine lv_sipush (v := 240) hx hb dX7_readsStep_111 (by decide) ?_
        refine cv_wi (As := [.int (1), .int (240)]) (rest := []) (tys := TYS cI cC cB cS) (ci := 7) (wr := [(ma 1, iE cI 382 (enc g lf))]) ⟨hx, hb, hml, hown, hts⟩ (c_X7_takesNumber l D cI cC cB cS _ (ma) (fi) (w9_25) (L) (f) (k9_25) (s9_25) (e9_25) (m9_25) (1) (1) (240) (hL) (hch) (by omega) ((Or.inr rfl))) (cwV 2 hts gX7_readsStep_X7_takesNumber rfl rfl rfl (by decide +kernel) ⟨Nat.le_of_ble_eq_true rfl, Nat.le_of_ble_eq_true rfl⟩) hK hP hD hS hA [1, 2] [0] rfl rfl (by decide) (by decide) (by decide) rfl rfl rfl rfl hl.1 (Nat.le_of_ble_eq_true rfl) dX7_readsStep_114 ⟨Nat.le_of_ble_eq_true rfl, Nat.le_of_ble_eq_true rfl⟩ (fun r_67 u_66 H locs hu_66 hP hD hS => ?_)
        have hP : va_P D vwCl [(ma 1, iE cI 382 (enc g lf)), (ma 0, oE 7 [.ref (ma 1), .ref (ma 2), .int (fi 0), .ref (ma 3), .ref (ma 4), .int (nI L), .int (nI u_66.1.2.2.1), .int (nI u_66.1.2.1), .long (u_66.1.2.2.2.1), .int (u_66.1.2.2.2.2), .int (u_66.2)]), (ma 4, iE cB 120 (bt f))] H := hP
        have hD : va_D A [(ma 1, iE cI 382 (enc g lf)), (ma 0, oE 7 [.ref (ma 1), .ref (ma 2), .int (fi 0), .ref (ma 3), .ref (ma 4), .int (nI L), .int (nI u_66.1.2.2.1), .int (nI u_66.1.2.1), .long (u_66.1.2.2.2.1), .int (u_66.1.2.2.2.2), .int (u_66.2)]), (ma 4, iE cB 120 (bt f))] := hD
        have hu_66 : TakeN f L 1 240 (1) (k9_25, s9_25, e9_25, w9_25, m9_25) r_67 u_66 := hu_66
        have hn_67 := takeN_wrong hu_66
        subst hn_67
        have hP : va_P D vwCl [(ma 1, iE cI 382 (enc g lf)), (ma 0, oE 7 [.ref (ma 1), .ref (ma 2), .int (fi 0), .ref (ma 3), .ref (ma 4), .int (nI L), .int (nI e9_25), .int (nI s9_25), .long (w9_25), .int (m9_25), .int (1)]), (ma 4, iE cB 120 (bt f))] H := hP
        have hD : va_D A [(ma 1, iE cI 382 (enc g lf)), (ma 0, oE 7 [.ref (ma 1), .ref (ma 2), .int (fi 0), .ref (ma 3), .ref (ma 4), .int (nI L), .int (nI e9_25), .int (nI s9_25), .long (w9_25), .int (m9_25), .int (1)]), (ma 4, iE cB 120 (bt f))] := hD
        refine lv_istore_n (lv' := [(3, .int (r_67)), (2, .int (m9_25)), (1, .int (1)), (0, .ref (ma 0))]) hx hb dX7_readsStep_117 rfl hl (by decide) rfl (fun ls hl => ?_)
        refine lv_aload_n hx hb dX7_readsStep_118 rfl (lv_at hl 3 rfl) ?_
        refine lv_iconst (v := 0) hx hb dX7_readsStep_119 (by decide) ?_
        refine lv_sipush (v := 5000) hx hb dX7_readsStep_120 (by decide) ?_
        refine cv_wi (As := [.int (0), .int (5000)]) (rest := []) (tys := TYS cI cC cB cS) (ci := 7) (wr := [(ma 1, iE cI 382 (enc g lf))]) ⟨hx, hb, hml, hown, hts⟩ (c_X7_takesNumber l D cI cC cB cS _ (ma) (fi) (w9_25) (L) (f) (k9_25) (s9_25) (e9_25) (m9_25) (1) (0) (5000) (hL) (hch) (by omega) ((Or.inr rfl))) (cwV 2 hts gX7_readsStep_X7_takesNumber rfl rfl rfl (by decide +kernel) ⟨Nat.le_of_ble_eq_true rfl, Nat.le_of_ble_eq_true rfl⟩) hK hP hD hS hA [1, 2] [0] rfl rfl (by decide) (by decide) (by decide) rfl rfl rfl rfl hl.1 (Nat.le_of_ble_eq_true rfl) dX7_readsStep_123 ⟨Nat.le_of_ble_eq_true rfl, Nat.le_of_ble_eq_true rfl⟩ (fun r_70 u_69 H locs hu_69 hP hD hS => ?_)
        have hP : va_P D vwCl [(ma 1, iE cI 382 (enc g lf)), (ma 0, oE 7 [.ref (ma 1), .ref (ma 2), .int (fi 0), .ref (ma 3), .ref (ma 4), .int (nI L), .int (nI u_69.1.2.2.1), .int (nI u_69.1.2.1), .long (u_69.1.2.2.2.1), .int (u_69.1.2.2.2.2), .int (u_69.2)]), (ma 4, iE cB 120 (bt f))] H := hP
        have hD : va_D A [(ma 1, iE cI 382 (enc g lf)), (ma 0, oE 7 [.ref (ma 1), .ref (ma 2), .int (fi 0), .ref (ma 3), .ref (ma 4), .int (nI L), .int (nI u_69.1.2.2.1), .int (nI u_69.1.2.1), .long (u_69.1.2.2.2.1), .int (u_69.1.2.2.2.2), .int (u_69.2)]), (ma 4, iE cB 120 (bt f))] := hD
        have hu_69 : TakeN f L 0 5000 (1) (k9_25, s9_25, e9_25, w9_25, m9_25) r_70 u_69 := hu_69
        have hn_70 := takeN_wrong hu_69
        subst hn_70
        have hP : va_P D vwCl [(ma 1, iE cI 382 (enc g lf)), (ma 0, oE 7 [.ref (ma 1), .ref (ma 2), .int (fi 0), .ref (ma 3), .ref (ma 4), .int (nI L), .int (nI e9_25), .int (nI s9_25), .long (w9_25), .int (m9_25), .int (1)]), (ma 4, iE cB 120 (bt f))] H := hP
        have hD : va_D A [(ma 1, iE cI 382 (enc g lf)), (ma 0, oE 7 [.ref (ma 1), .ref (ma 2), .int (fi 0), .ref (ma 3), .ref (ma 4), .int (nI L), .int (nI e9_25), .int (nI s9_25), .long (w9_25), .int (m9_25), .int (1)]), (ma 4, iE cB 120 (bt f))] := hD
        refine lv_istore (lv' := [(4, .int (r_70)), (3, .int (r_67)), (2, .int (m9_25)), (1, .int (1)), (0, .ref (ma 0))]) hx hb dX7_readsStep_126 hl (by decide) rfl (fun ls hl => ?_)
        refine lv_aload_n hx hb dX7_readsStep_128 rfl (lv_at hl 4 rfl) ?_
        refine va_get (D := D) (ci := 7) (v := .int (1)) (C := RX7) (T := TX7) (N := 11) hx hb hts (by decide +kernel) hown hK.1 hP 1 rfl rfl 10 (by decide) (hts (.fieldLink RX7 102 "ParkingGarageModel" "isWrong" "Z") (by decide +kernel)) (fun _ h9 => h9) rfl dX7_readsStep_129 ?_
        refine if_ne_t (tgt := 144) hx hb (by decide) dX7_readsStep_132 (by decide) ?_
        exact wr_vret (((k9_25, s9_25, e9_25, w9_25, m9_25), 1, g)) hx hb hr hlocks hS hP hD [1, 0, 2] rfl rfl (by decide) dX7_readsStep_144 (⟨⟨e9_1, by omega, htok_25, hwd_25, hnm_25⟩, Or.inl ⟨rfl, Exists.intro k9_1 ⟨s9_1, e9_1, 1, htok_1, Or.inr ⟨hV_7_1, Or.inl ⟨hW_8_1, rfl⟩⟩, Or.inr ⟨by decide, Or.inr ⟨by decide, Exists.intro k9_25 ⟨s9_25, e9_25, htok_25, Or.inr ⟨hno9, rfl⟩⟩⟩⟩⟩⟩⟩)
  · -- c_3: not lg_cmp (w9_1) (209220123) ≠ 0
    have hW_7_1 : Wrd f k9_1 s9_1 e9_1 7 := (hwd_1 7 (by decide)).mp (cmp_eq.mp c_3)
    refine lv_iconst (v := 0) hx hb dX7_readsStep_15 (by decide) ?_
    refine lv_goto (tgt := 36) hx hb dX7_readsStep_16 (by decide) ?_
    refine lv_istore_n (lv' := [(1, .int (0)), (0, .ref (ma 0))]) hx hb dX7_readsStep_36 rfl hl (by decide) rfl (fun ls hl => ?_)
    refine lv_aload_n hx hb dX7_readsStep_37 rfl (lv_at hl 1 rfl) ?_
    refine lv_iload_n hx hb dX7_readsStep_38 rfl (lv_at hl 0 rfl) ?_
    refine lv_bipush (v := -9) hx hb dX7_readsStep_39 (by decide) ?_
    refine lv_icmp_eq (tgt := 48) hx hb dX7_readsStep_41 (by decide) (fun c => absurd c (by decide)) (fun _ => ?_)
    refine lv_iconst (v := 1) hx hb dX7_readsStep_44 (by decide) ?_
    refine lv_goto (tgt := 49) hx hb dX7_readsStep_45 (by decide) ?_
    refine cv_wv (As := [.int (1)]) (rest := []) (tys := TYS cI cC cB cS) (ci := 7) (wr := [(ma 1, iE cI 382 (enc g lf))]) ⟨hx, hb, hml, hown, hts⟩ (c_X7_takes l D cI cC cB cS _ (ma) (fi) (w9_1) (L) (f) (k9_1) (s9_1) (e9_1) (m9_1) (0) (1) (hL) (hch) (by omega) ((Or.inl rfl)) ((Or.inr rfl))) (cwV 1 hts gX7_readsStep_X7_takes rfl rfl rfl (by decide +kernel) ⟨Nat.le_of_ble_eq_true rfl, Nat.le_of_ble_eq_true rfl⟩) hK hP hD hS hA [1, 2] [0] rfl rfl (by decide) (by decide) (by decide) rfl rfl rfl rfl hl.1 (Nat.le_of_ble_eq_true rfl) dX7_readsStep_49 ⟨Nat.le_of_ble_eq_true rfl, Nat.le_of_ble_eq_true rfl⟩ (fun u_72 H locs hu_72 hP hD hS => ?_)
    have hP : va_P D vwCl [(ma 1, iE cI 382 (enc g lf)), (ma 0, oE 7 [.ref (ma 1), .ref (ma 2), .int (fi 0), .ref (ma 3), .ref (ma 4), .int (nI L), .int (nI u_72.1.2.2.1), .int (nI u_72.1.2.1), .long (u_72.1.2.2.2.1), .int (u_72.1.2.2.2.2), .int (u_72.2)]), (ma 4, iE cB 120 (bt f))] H := hP
    have hD : va_D A [(ma 1, iE cI 382 (enc g lf)), (ma 0, oE 7 [.ref (ma 1), .ref (ma 2), .int (fi 0), .ref (ma 3), .ref (ma 4), .int (nI L), .int (nI u_72.1.2.2.1), .int (nI u_72.1.2.1), .long (u_72.1.2.2.2.1), .int (u_72.1.2.2.2.2), .int (u_72.2)]), (ma 4, iE cB 120 (bt f))] := hD
    have hu_72 : TakeR f L (0) (1) (k9_1, s9_1, e9_1, w9_1, m9_1) u_72 := hu_72
    obtain ⟨⟨k9_72, s9_72, e9_72, w9_72, m9_72⟩, z9_72⟩ := u_72
    obtain ⟨hz_72, hg_72⟩ := take_yes hu_72
    have hz_72 : z9_72 = 0 := hz_72
    subst hz_72
    have htok_72 : Tok f L e9_1 k9_72 s9_72 e9_72 := hg_72.1
    have hwd_72 : WdOf f k9_72 s9_72 e9_72 w9_72 := hg_72.2.1
    have hnm_72 : NmOf f k9_72 s9_72 e9_72 m9_72 := hg_72.2.2
    have hle_72 := htok_72.le (by omega)
    have heL_72 : e9_72 ≤ L := hle_72.2.2.1
    have hP : va_P D vwCl [(ma 1, iE cI 382 (enc g lf)), (ma 0, oE 7 [.ref (ma 1), .ref (ma 2), .int (fi 0), .ref (ma 3), .ref (ma 4), .int (nI L), .int (nI e9_72), .int (nI s9_72), .long (w9_72), .int (m9_72), .int (0)]), (ma 4, iE cB 120 (bt f))] H := hP
    have hD : va_D A [(ma 1, iE cI 382 (enc g lf)), (ma 0, oE 7 [.ref (ma 1), .ref (ma 2), .int (fi 0), .ref (ma 3), .ref (ma 4), .int (nI L), .int (nI e9_72), .int (nI s9_72), .long (w9_72), .int (m9_72), .int (0)]), (ma 4, iE cB 120 (bt f))] := hD
    refine lv_aload_n hx hb dX7_readsStep_52 rfl (lv_at hl 1 rfl) ?_
    refine va_get (D := D) (ci := 7) (v := .int (m9_72)) (C := RX7) (T := TX7) (N := 11) hx hb hts (by decide +kernel) hown hK.1 hP 1 rfl rfl 9 (by decide) (hts (.fieldLink RX7 95 "ParkingGarageModel" "number" "I") (by decide +kernel)) (fun _ h9 => h9) rfl dX7_readsStep_53 ?_
    refine lv_istore_n (lv' := [(2, .int (m9_72)), (1, .int (0)), (0, .ref (ma 0))]) hx hb dX7_readsStep_56 rfl hl (by decide) rfl (fun ls hl => ?_)
    refine lv_aload_n hx hb dX7_readsStep_57 rfl (lv_at hl 2 rfl) ?_
    refine lv_iload_n hx hb dX7_readsStep_58 rfl (lv_at hl 0 rfl) ?_
    refine lv_iconst (v := 0) hx hb dX7_readsStep_59 (by decide) ?_
    refine lv_sipush (v := 1440) hx hb dX7_readsStep_60 (by decide) ?_
    refine cs_i (As := [.int (m9_72), .int (0), .int (1440)]) (rest := [.ref (ma 0)]) (tys := TYS cI cC cB cS) ⟨hx, hb, hml, hown, hts⟩ (c_X7_in l D cI cC cB cS (m9_72) (0) (1440)) (va_cwS 3 hts gX7_readsStep_X7_in rfl rfl rfl (by decide +kernel) ⟨Nat.le_of_ble_eq_true rfl, Nat.le_of_ble_eq_true rfl⟩) hK hP [] rfl rfl rfl hl.1 (Nat.le_of_ble_eq_true rfl) dX7_readsStep_63 ⟨Nat.le_of_ble_eq_true rfl, Nat.le_of_ble_eq_true rfl⟩ (fun r_74 hr_74 => ?_)
    rcases (show Yes (0 ≤ m9_72 ∧ m9_72 ≤ 1440) r_74 from hr_74) with ⟨rfl, h_75⟩ | ⟨rfl, h_75⟩
    · -- X7_in t
      obtain ⟨x0, hx0, hxe⟩ := nm_yes (lo := 0) (hi := 1440) hnm_72 (by decide) h_75 (by decide)
      subst hxe
      refine if_eq_f (tgt := 105) hx hb (by decide) dX7_readsStep_66 (by decide) ?_
      refine lv_aload_n hx hb dX7_readsStep_69 rfl (lv_at hl 2 rfl) ?_
      refine va_get (D := D) (ci := 7) (v := .int (0)) (C := RX7) (T := TX7) (N := 11) hx hb hts (by decide +kernel) hown hK.1 hP 1 rfl rfl 10 (by decide) (hts (.fieldLink RX7 102 "ParkingGarageModel" "isWrong" "Z") (by decide +kernel)) (fun _ h9 => h9) rfl dX7_readsStep_70 ?_
      refine if_ne_f (tgt := 105) hx hb rfl dX7_readsStep_73 (by decide) ?_
      refine lv_aload_n hx hb dX7_readsStep_76 rfl (lv_at hl 2 rfl) ?_
      refine lv_iload_n hx hb dX7_readsStep_77 rfl (lv_at hl 1 rfl) ?_
      refine lv_iload_n hx hb dX7_readsStep_78 rfl (lv_at hl 0 rfl) ?_
      refine cv_i (As := [.int (0), .int (nI x0)]) (rest := [.ref (ma 0)]) (tys := TYS cI cC cB cS) (ci := 7) ⟨hx, hb, hml, hown, hts⟩ (c_X7_hasStep l D cI cC cB cS (ma) ((fun j => [fi 0, nI L, nI e9_72, nI s9_72, nI x0, 0].getD j 0)) (w9_72) (g) (lf) (0) (tn) (nI x0) (by decide) (ht) (htb)) (cwV 2 hts gX7_readsStep_X7_hasStep rfl rfl rfl (by decide +kernel) ⟨Nat.le_of_ble_eq_true rfl, Nat.le_of_ble_eq_true rfl⟩) hK hP [1, 0] rfl rfl rfl rfl rfl hl.1 (Nat.le_of_ble_eq_true rfl) dX7_readsStep_79 ⟨Nat.le_of_ble_eq_true rfl, Nat.le_of_ble_eq_true rfl⟩ (fun r_76 hr_76 => ?_)
      rcases (show Yes (THas (g 20) tn (nI x0)) r_76 from hr_76) with ⟨rfl, h_77⟩ | ⟨rfl, h_77⟩
      · -- X7_hasStep t
        refine if_ne_t (tgt := 101) hx hb (by decide) dX7_readsStep_82 (by decide) ?_
        refine lv_iconst (v := 1) hx hb dX7_readsStep_101 (by decide) ?_
        refine lv_goto (tgt := 106) hx hb dX7_readsStep_102 (by decide) ?_
        refine cv_wv (As := [.int (1)]) (rest := []) (tys := TYS cI cC cB cS) (ci := 7) (wr := [(ma 1, iE cI 382 (enc g lf))]) ⟨hx, hb, hml, hown, hts⟩ (c_X7_takes l D cI cC cB cS _ (ma) (fi) (w9_72) (L) (f) (k9_72) (s9_72) (e9_72) (nI x0) (0) (1) (hL) (hch) (by omega) ((Or.inl rfl)) ((Or.inr rfl))) (cwV 1 hts gX7_readsStep_X7_takes rfl rfl rfl (by decide +kernel) ⟨Nat.le_of_ble_eq_true rfl, Nat.le_of_ble_eq_true rfl⟩) hK hP hD hS hA [1, 2] [0] rfl rfl (by decide) (by decide) (by decide) rfl rfl rfl rfl hl.1 (Nat.le_of_ble_eq_true rfl) dX7_readsStep_106 ⟨Nat.le_of_ble_eq_true rfl, Nat.le_of_ble_eq_true rfl⟩ (fun u_78 H locs hu_78 hP hD hS => ?_)
        have hP : va_P D vwCl [(ma 1, iE cI 382 (enc g lf)), (ma 0, oE 7 [.ref (ma 1), .ref (ma 2), .int (fi 0), .ref (ma 3), .ref (ma 4), .int (nI L), .int (nI u_78.1.2.2.1), .int (nI u_78.1.2.1), .long (u_78.1.2.2.2.1), .int (u_78.1.2.2.2.2), .int (u_78.2)]), (ma 4, iE cB 120 (bt f))] H := hP
        have hD : va_D A [(ma 1, iE cI 382 (enc g lf)), (ma 0, oE 7 [.ref (ma 1), .ref (ma 2), .int (fi 0), .ref (ma 3), .ref (ma 4), .int (nI L), .int (nI u_78.1.2.2.1), .int (nI u_78.1.2.1), .long (u_78.1.2.2.2.1), .int (u_78.1.2.2.2.2), .int (u_78.2)]), (ma 4, iE cB 120 (bt f))] := hD
        have hu_78 : TakeR f L (0) (1) (k9_72, s9_72, e9_72, w9_72, nI x0) u_78 := hu_78
        obtain ⟨⟨k9_78, s9_78, e9_78, w9_78, m9_78⟩, z9_78⟩ := u_78
        obtain ⟨hz_78, hg_78⟩ := take_yes hu_78
        have hz_78 : z9_78 = 0 := hz_78
        subst hz_78
        have htok_78 : Tok f L e9_72 k9_78 s9_78 e9_78 := hg_78.1
        have hwd_78 : WdOf f k9_78 s9_78 e9_78 w9_78 := hg_78.2.1
        have hnm_78 : NmOf f k9_78 s9_78 e9_78 m9_78 := hg_78.2.2
        have hle_78 := htok_78.le (by omega)
        have heL_78 : e9_78 ≤ L := hle_78.2.2.1
        have hP : va_P D vwCl [(ma 1, iE cI 382 (enc g lf)), (ma 0, oE 7 [.ref (ma 1), .ref (ma 2), .int (fi 0), .ref (ma 3), .ref (ma 4), .int (nI L), .int (nI e9_78), .int (nI s9_78), .long (w9_78), .int (m9_78), .int (0)]), (ma 4, iE cB 120 (bt f))] H := hP
        have hD : va_D A [(ma 1, iE cI 382 (enc g lf)), (ma 0, oE 7 [.ref (ma 1), .ref (ma 2), .int (fi 0), .ref (ma 3), .ref (ma 4), .int (nI L), .int (nI e9_78), .int (nI s9_78), .long (w9_78), .int (m9_78), .int (0)]), (ma 4, iE cB 120 (bt f))] := hD
        refine lv_aload_n hx hb dX7_readsStep_109 rfl (lv_at hl 2 rfl) ?_
        refine lv_iconst (v := 1) hx hb dX7_readsStep_110 (by decide) ?_
        refine lv_sipush (v := 240) hx hb dX7_readsStep_111 (by decide) ?_
        refine cv_wi (As := [.int (1), .int (240)]) (rest := []) (tys := TYS cI cC cB cS) (ci := 7) (wr := [(ma 1, iE cI 382 (enc g lf))]) ⟨hx, hb, hml, hown, hts⟩ (c_X7_takesNumber l D cI cC cB cS _ (ma) (fi) (w9_78) (L) (f) (k9_78) (s9_78) (e9_78) (m9_78) (0) (1) (240) (hL) (hch) (by omega) ((Or.inl rfl))) (cwV 2 hts gX7_readsStep_X7_takesNumber rfl rfl rfl (by decide +kernel) ⟨Nat.le_of_ble_eq_true rfl, Nat.le_of_ble_eq_true rfl⟩) hK hP hD hS hA [1, 2] [0] rfl rfl (by decide) (by decide) (by decide) rfl rfl rfl rfl hl.1 (Nat.le_of_ble_eq_true rfl) dX7_readsStep_114 ⟨Nat.le_of_ble_eq_true rfl, Nat.le_of_ble_eq_true rfl⟩ (fun r_81 u_80 H locs hu_80 hP hD hS => ?_)
        have hP : va_P D vwCl [(ma 1, iE cI 382 (enc g lf)), (ma 0, oE 7 [.ref (ma 1), .ref (ma 2), .int (fi 0), .ref (ma 3), .ref (ma 4), .int (nI L), .int (nI u_80.1.2.2.1), .int (nI u_80.1.2.1), .long (u_80.1.2.2.2.1), .int (u_80.1.2.2.2.2), .int (u_80.2)]), (ma 4, iE cB 120 (bt f))] H := hP
        have hD : va_D A [(ma 1, iE cI 382 (enc g lf)), (ma 0, oE 7 [.ref (ma 1), .ref (ma 2), .int (fi 0), .ref (ma 3), .ref (ma 4), .int (nI L), .int (nI u_80.1.2.2.1), .int (nI u_80.1.2.1), .long (u_80.1.2.2.2.1), .int (u_80.1.2.2.2.2), .int (u_80.2)]), (ma 4, iE cB 120 (bt f))] := hD
        have hu_80 : TakeN f L 1 240 (0) (k9_78, s9_78, e9_78, w9_78, m9_78) r_81 u_80 := hu_80
        rcases takeN_cases hu_80 hnm_78 (by omega) (by omega) with ⟨⟨un, hun, hr_81⟩, hz_81, hg_81⟩ | ⟨hno_81, hn_81⟩
        · -- a number
          obtain ⟨⟨k9_81, s9_81, e9_81, w9_81, m9_81⟩, z9_81⟩ := u_80
          have hz_81 : z9_81 = 0 := hz_81
          subst hz_81
          have hun : NumIn f k9_78 s9_78 e9_78 1 240 un := hun
          rw [show r_81 = nI un from hr_81]
          have htok_81 : Tok f L e9_78 k9_81 s9_81 e9_81 := hg_81.1
          have hwd_81 : WdOf f k9_81 s9_81 e9_81 w9_81 := hg_81.2.1
          have hnm_81 : NmOf f k9_81 s9_81 e9_81 m9_81 := hg_81.2.2
          have hle_81 := htok_81.le (by omega)
          have heL_81 : e9_81 ≤ L := hle_81.2.2.1
          have hP : va_P D vwCl [(ma 1, iE cI 382 (enc g lf)), (ma 0, oE 7 [.ref (ma 1), .ref (ma 2), .int (fi 0), .ref (ma 3), .ref (ma 4), .int (nI L), .int (nI e9_81), .int (nI s9_81), .long (w9_81), .int (m9_81), .int (0)]), (ma 4, iE cB 120 (bt f))] H := hP
          have hD : va_D A [(ma 1, iE cI 382 (enc g lf)), (ma 0, oE 7 [.ref (ma 1), .ref (ma 2), .int (fi 0), .ref (ma 3), .ref (ma 4), .int (nI L), .int (nI e9_81), .int (nI s9_81), .long (w9_81), .int (m9_81), .int (0)]), (ma 4, iE cB 120 (bt f))] := hD
          refine lv_istore_n (lv' := [(3, .int (nI un)), (2, .int (nI x0)), (1, .int (0)), (0, .ref (ma 0))]) hx hb dX7_readsStep_117 rfl hl (by decide) rfl (fun ls hl => ?_)
          refine lv_aload_n hx hb dX7_readsStep_118 rfl (lv_at hl 3 rfl) ?_
          refine lv_iconst (v := 0) hx hb dX7_readsStep_119 (by decide) ?_
          refine lv_sipush (v := 5000) hx hb dX7_readsStep_120 (by decide) ?_
          refine cv_wi (As := [.int (0), .int (5000)]) (rest := []) (tys := TYS cI cC cB cS) (ci := 7) (wr := [(ma 1, iE cI 382 (enc g lf))]) ⟨hx, hb, hml, hown, hts⟩ (c_X7_takesNumber l D cI cC cB cS _ (ma) (fi) (w9_81) (L) (f) (k9_81) (s9_81) (e9_81) (m9_81) (0) (0) (5000) (hL) (hch) (by omega) ((Or.inl rfl))) (cwV 2 hts gX7_readsStep_X7_takesNumber rfl rfl rfl (by decide +kernel) ⟨Nat.le_of_ble_eq_true rfl, Nat.le_of_ble_eq_true rfl⟩) hK hP hD hS hA [1, 2] [0] rfl rfl (by decide) (by decide) (by decide) rfl rfl rfl rfl hl.1 (Nat.le_of_ble_eq_true rfl) dX7_readsStep_123 ⟨Nat.le_of_ble_eq_true rfl, Nat.le_of_ble_eq_true rfl⟩ (fun r_84 u_83 H locs hu_83 hP hD hS => ?_)
          have hP : va_P D vwCl [(ma 1, iE cI 382 (enc g lf)), (ma 0, oE 7 [.ref (ma 1), .ref (ma 2), .int (fi 0), .ref (ma 3), .ref (ma 4), .int (nI L), .int (nI u_83.1.2.2.1), .int (nI u_83.1.2.1), .long (u_83.1.2.2.2.1), .int (u_83.1.2.2.2.2), .int (u_83.2)]), (ma 4, iE cB 120 (bt f))] H := hP
          have hD : va_D A [(ma 1, iE cI 382 (enc g lf)), (ma 0, oE 7 [.ref (ma 1), .ref (ma 2), .int (fi 0), .ref (ma 3), .ref (ma 4), .int (nI L), .int (nI u_83.1.2.2.1), .int (nI u_83.1.2.1), .long (u_83.1.2.2.2.1), .int (u_83.1.2.2.2.2), .int (u_83.2)]), (ma 4, iE cB 120 (bt f))] := hD
          have hu_83 : TakeN f L 0 5000 (0) (k9_81, s9_81, e9_81, w9_81, m9_81) r_84 u_83 := hu_83
          rcases takeN_cases hu_83 hnm_81 (by omega) (by omega) with ⟨⟨pr, hpr, hr_84⟩, hz_84, hg_84⟩ | ⟨hno_84, hn_84⟩
          · -- a number
            obtain ⟨⟨k9_84, s9_84, e9_84, w9_84, m9_84⟩, z9_84⟩ := u_83
            have hz_84 : z9_84 = 0 := hz_84
            subst hz_84
            have hpr : NumIn f k9_81 s9_81 e9_81 0 5000 pr := hpr
            rw [show r_84 = nI pr from hr_84]
            have htok_84 : Tok f L e9_81 k9_84 s9_84 e9_84 := hg_84.1
            have hwd_84 : WdOf f k9_84 s9_84 e9_84 w9_84 := hg_84.2.1
            have hnm_84 : NmOf f k9_84 s9_84 e9_84 m9_84 := hg_84.2.2
            have hle_84 := htok_84.le (by omega)
            have heL_84 : e9_84 ≤ L := hle_84.2.2.1
            have hP : va_P D vwCl [(ma 1, iE cI 382 (enc g lf)), (ma 0, oE 7 [.ref (ma 1), .ref (ma 2), .int (fi 0), .ref (ma 3), .ref (ma 4), .int (nI L), .int (nI e9_84), .int (nI s9_84), .long (w9_84), .int (m9_84), .int (0)]), (ma 4, iE cB 120 (bt f))] H := hP
            have hD : va_D A [(ma 1, iE cI 382 (enc g lf)), (ma 0, oE 7 [.ref (ma 1), .ref (ma 2), .int (fi 0), .ref (ma 3), .ref (ma 4), .int (nI L), .int (nI e9_84), .int (nI s9_84), .long (w9_84), .int (m9_84), .int (0)]), (ma 4, iE cB 120 (bt f))] := hD
            refine lv_istore (lv' := [(4, .int (nI pr)), (3, .int (nI un)), (2, .int (nI x0)), (1, .int (0)), (0, .ref (ma 0))]) hx hb dX7_readsStep_126 hl (by decide) rfl (fun ls hl => ?_)
            refine lv_aload_n hx hb dX7_readsStep_128 rfl (lv_at hl 4 rfl) ?_
            refine va_get (D := D) (ci := 7) (v := .int (0)) (C := RX7) (T := TX7) (N := 11) hx hb hts (by decide +kernel) hown hK.1 hP 1 rfl rfl 10 (by decide) (hts (.fieldLink RX7 102 "ParkingGarageModel" "isWrong" "Z") (by decide +kernel)) (fun _ h9 => h9) rfl dX7_readsStep_129 ?_
            refine if_ne_f (tgt := 144) hx hb rfl dX7_readsStep_132 (by decide) ?_
            refine lv_aload_n hx hb dX7_readsStep_135 rfl (lv_at hl 4 rfl) ?_
            refine lv_iload_n hx hb dX7_readsStep_136 rfl (lv_at hl 3 rfl) ?_
            refine lv_iload_n hx hb dX7_readsStep_137 rfl (lv_at hl 2 rfl) ?_
            refine lv_iload_n hx hb dX7_readsStep_138 rfl (lv_at hl 1 rfl) ?_
            refine lv_iload hx hb dX7_readsStep_139 (lv_at hl 0 rfl) ?_
            refine cv_wv (As := [.int (0), .int (nI x0), .int (nI un), .int (nI pr)]) (rest := []) (tys := TYS cI cC cB cS) (ci := 7) (wr := [(ma 4, iE cB 120 (bt f))]) ⟨hx, hb, hml, hown, hts⟩ (c_X7_puts l D cI cC cB cS _ (ma) ((fun j => [fi 0, nI L, nI e9_84, nI s9_84, m9_84, 0].getD j 0)) (w9_84) (g) (lf) (0) (tn) (nI x0) (nI un) (nI pr) (by decide) (ht) (htb) (Or.inr h_77)) (cwV 4 hts gX7_readsStep_X7_puts rfl rfl rfl (by decide +kernel) ⟨Nat.le_of_ble_eq_true rfl, Nat.le_of_ble_eq_true rfl⟩) hK hP hD hS hA [1, 0] [2] rfl rfl (by decide) (by decide) (by decide) rfl rfl rfl rfl hl.1 (Nat.le_of_ble_eq_true rfl) dX7_readsStep_141 ⟨Nat.le_of_ble_eq_true rfl, Nat.le_of_ble_eq_true rfl⟩ (fun u_86 H locs hu_86 hP hD hS => ?_)
            have hP : va_P D vwCl [(ma 4, iE cB 120 (bt f)), (ma 0, oE 7 [.ref (ma 1), .ref (ma 2), .int (fi 0), .ref (ma 3), .ref (ma 4), .int (nI L), .int (nI e9_84), .int (nI s9_84), .long (w9_84), .int (m9_84), .int (0)]), (ma 1, iE cI 382 (enc (wblk g 19 4 u_86) lf))] H := hP
            have hD : va_D A [(ma 4, iE cB 120 (bt f)), (ma 0, oE 7 [.ref (ma 1), .ref (ma 2), .int (fi 0), .ref (ma 3), .ref (ma 4), .int (nI L), .int (nI e9_84), .int (nI s9_84), .long (w9_84), .int (m9_84), .int (0)]), (ma 1, iE cI 382 (enc (wblk g 19 4 u_86) lf))] := hD
            have hu_86 : TPut (tV g 0) tn (nI x0) (nI un) (nI pr) u_86 := hu_86
            exact wr_vret (((k9_84, s9_84, e9_84, w9_84, m9_84), 0, (wblk g 19 4 u_86))) hx hb hr hlocks hS hP hD [1, 2, 0] rfl rfl (by decide) dX7_readsStep_144 (⟨⟨e9_81, by omega, htok_84, hwd_84, hnm_84⟩, Or.inr ⟨rfl, fun o ho => Exists.intro k9_1 ⟨s9_1, e9_1, 0, htok_1, Or.inl ⟨hW_7_1, rfl⟩, Or.inr ⟨by decide, Or.inl ⟨rfl, Exists.intro k9_72 ⟨s9_72, e9_72, htok_72, Or.inl ⟨⟨x0, hx0⟩, x0, hx0, Or.inl ⟨Or.inr h_77, Exists.intro k9_78 ⟨s9_78, e9_78, htok_78, Or.inl ⟨⟨un, hun⟩, un, hun, Exists.intro k9_81 ⟨s9_81, e9_81, htok_81, Or.inl ⟨⟨pr, hpr⟩, pr, hpr, Exists.intro k9_84 ⟨s9_84, e9_84, htok_84, ho.im (fun q9 => Exists.intro u_86 ⟨hu_86, q9⟩)⟩⟩⟩⟩⟩⟩⟩⟩⟩⟩⟩⟩⟩)
          · -- none
            subst hn_84
            have hno_84 : ¬ ∃ v, NumIn f k9_81 s9_81 e9_81 0 5000 v := hno_84
            have hP : va_P D vwCl [(ma 1, iE cI 382 (enc g lf)), (ma 0, oE 7 [.ref (ma 1), .ref (ma 2), .int (fi 0), .ref (ma 3), .ref (ma 4), .int (nI L), .int (nI e9_81), .int (nI s9_81), .long (w9_81), .int (m9_81), .int (1)]), (ma 4, iE cB 120 (bt f))] H := hP
            have hD : va_D A [(ma 1, iE cI 382 (enc g lf)), (ma 0, oE 7 [.ref (ma 1), .ref (ma 2), .int (fi 0), .ref (ma 3), .ref (ma 4), .int (nI L), .int (nI e9_81), .int (nI s9_81), .long (w9_81), .int (m9_81), .int (1)]), (ma 4, iE cB 120 (bt f))] := hD
            refine lv_istore (lv' := [(4, .int (r_84)), (3, .int (nI un)), (2, .int (nI x0)), (1, .int (0)), (0, .ref (ma 0))]) hx hb dX7_readsStep_126 hl (by decide) rfl (fun ls hl => ?_)
            refine lv_aload_n hx hb dX7_readsStep_128 rfl (lv_at hl 4 rfl) ?_
            refine va_get (D := D) (ci := 7) (v := .int (1)) (C := RX7) (T := TX7) (N := 11) hx hb hts (by decide +kernel) hown hK.1 hP 1 rfl rfl 10 (by decide) (hts (.fieldLink RX7 102 "ParkingGarageModel" "isWrong" "Z") (by decide +kernel)) (fun _ h9 => h9) rfl dX7_readsStep_129 ?_
            refine if_ne_t (tgt := 144) hx hb (by decide) dX7_readsStep_132 (by decide) ?_
            exact wr_vret (((k9_81, s9_81, e9_81, w9_81, m9_81), 1, g)) hx hb hr hlocks hS hP hD [1, 0, 2] rfl rfl (by decide) dX7_readsStep_144 (⟨⟨e9_78, by omega, htok_81, hwd_81, hnm_81⟩, Or.inl ⟨rfl, Exists.intro k9_1 ⟨s9_1, e9_1, 0, htok_1, Or.inl ⟨hW_7_1, rfl⟩, Or.inr ⟨by decide, Or.inl ⟨rfl, Exists.intro k9_72 ⟨s9_72, e9_72, htok_72, Or.inl ⟨⟨x0, hx0⟩, x0, hx0, Or.inl ⟨Or.inr h_77, Exists.intro k9_78 ⟨s9_78, e9_78, htok_78, Or.inl ⟨⟨un, hun⟩, un, hun, Exists.intro k9_81 ⟨s9_81, e9_81, htok_81, Or.inr ⟨hno_84, rfl⟩⟩⟩⟩⟩⟩⟩⟩⟩⟩⟩⟩)
        · -- none
          subst hn_81
          have hno_81 : ¬ ∃ v, NumIn f k9_78 s9_78 e9_78 1 240 v := hno_81
          have hP : va_P D vwCl [(ma 1, iE cI 382 (enc g lf)), (ma 0, oE 7 [.ref (ma 1), .ref (ma 2), .int (fi 0), .ref (ma 3), .ref (ma 4), .int (nI L), .int (nI e9_78), .int (nI s9_78), .long (w9_78), .int (m9_78), .int (1)]), (ma 4, iE cB 120 (bt f))] H := hP
          have hD : va_D A [(ma 1, iE cI 382 (enc g lf)), (ma 0, oE 7 [.ref (ma 1), .ref (ma 2), .int (fi 0), .ref (ma 3), .ref (ma 4), .int (nI L), .int (nI e9_78), .int (nI s9_78), .long (w9_78), .int (m9_78), .int (1)]), (ma 4, iE cB 120 (bt f))] := hD
          refine lv_istore_n (lv' := [(3, .int (r_81)), (2, .int (nI x0)), (1, .int (0)), (0, .ref (ma 0))]) hx hb dX7_readsStep_117 rfl hl (by decide) rfl (fun ls hl => ?_)
          refine lv_aload_n hx hb dX7_readsStep_118 rfl (lv_at hl 3 rfl) ?_
          refine lv_iconst (v := 0) hx hb dX7_readsStep_119 (by decide) ?_
          refine lv_sipush (v := 5000) hx hb dX7_readsStep_120 (by decide) ?_
          refine cv_wi (As := [.int (0), .int (5000)]) (rest := []) (tys := TYS cI cC cB cS) (ci := 7) (wr := [(ma 1, iE cI 382 (enc g lf))]) ⟨hx, hb, hml, hown, hts⟩ (c_X7_takesNumber l D cI cC cB cS _ (ma) (fi) (w9_78) (L) (f) (k9_78) (s9_78) (e9_78) (m9_78) (1) (0) (5000) (hL) (hch) (by omega) ((Or.inr rfl))) (cwV 2 hts gX7_readsStep_X7_takesNumber rfl rfl rfl (by decide +kernel) ⟨Nat.le_of_ble_eq_true rfl, Nat.le_of_ble_eq_true rfl⟩) hK hP hD hS hA [1, 2] [0] rfl rfl (by decide) (by decide) (by decide) rfl rfl rfl rfl hl.1 (Nat.le_of_ble_eq_true rfl) dX7_readsStep_123 ⟨Nat.le_of_ble_eq_true rfl, Nat.le_of_ble_eq_true rfl⟩ (fun r_88 u_87 H locs hu_87 hP hD hS => ?_)
          have hP : va_P D vwCl [(ma 1, iE cI 382 (enc g lf)), (ma 0, oE 7 [.ref (ma 1), .ref (ma 2), .int (fi 0), .ref (ma 3), .ref (ma 4), .int (nI L), .int (nI u_87.1.2.2.1), .int (nI u_87.1.2.1), .long (u_87.1.2.2.2.1), .int (u_87.1.2.2.2.2), .int (u_87.2)]), (ma 4, iE cB 120 (bt f))] H := hP
          have hD : va_D A [(ma 1, iE cI 382 (enc g lf)), (ma 0, oE 7 [.ref (ma 1), .ref (ma 2), .int (fi 0), .ref (ma 3), .ref (ma 4), .int (nI L), .int (nI u_87.1.2.2.1), .int (nI u_87.1.2.1), .long (u_87.1.2.2.2.1), .int (u_87.1.2.2.2.2), .int (u_87.2)]), (ma 4, iE cB 120 (bt f))] := hD
          have hu_87 : TakeN f L 0 5000 (1) (k9_78, s9_78, e9_78, w9_78, m9_78) r_88 u_87 := hu_87
          have hn_88 := takeN_wrong hu_87
          subst hn_88
          have hP : va_P D vwCl [(ma 1, iE cI 382 (enc g lf)), (ma 0, oE 7 [.ref (ma 1), .ref (ma 2), .int (fi 0), .ref (ma 3), .ref (ma 4), .int (nI L), .int (nI e9_78), .int (nI s9_78), .long (w9_78), .int (m9_78), .int (1)]), (ma 4, iE cB 120 (bt f))] H := hP
          have hD : va_D A [(ma 1, iE cI 382 (enc g lf)), (ma 0, oE 7 [.ref (ma 1), .ref (ma 2), .int (fi 0), .ref (ma 3), .ref (ma 4), .int (nI L), .int (nI e9_78), .int (nI s9_78), .long (w9_78), .int (m9_78), .int (1)]), (ma 4, iE cB 120 (bt f))] := hD
          refine lv_istore (lv' := [(4, .int (r_88)), (3, .int (r_81)), (2, .int (nI x0)), (1, .int (0)), (0, .ref (ma 0))]) hx hb dX7_readsStep_126 hl (by decide) rfl (fun ls hl => ?_)
          refine lv_aload_n hx hb dX7_readsStep_128 rfl (lv_at hl 4 rfl) ?_
          refine va_get (D := D) (ci := 7) (v := .int (1)) (C := RX7) (T := TX7) (N := 11) hx hb hts (by decide +kernel) hown hK.1 hP 1 rfl rfl 10 (by decide) (hts (.fieldLink RX7 102 "ParkingGarageModel" "isWrong" "Z") (by decide +kernel)) (fun _ h9 => h9) rfl dX7_readsStep_129 ?_
          refine if_ne_t (tgt := 144) hx hb (by decide) dX7_readsStep_132 (by decide) ?_
          exact wr_vret (((k9_78, s9_78, e9_78, w9_78, m9_78), 1, g)) hx hb hr hlocks hS hP hD [1, 0, 2] rfl rfl (by decide) dX7_readsStep_144 (⟨⟨e9_72, by omega, htok_78, hwd_78, hnm_78⟩, Or.inl ⟨rfl, Exists.intro k9_1 ⟨s9_1, e9_1, 0, htok_1, Or.inl ⟨hW_7_1, rfl⟩, Or.inr ⟨by decide, Or.inl ⟨rfl, Exists.intro k9_72 ⟨s9_72, e9_72, htok_72, Or.inl ⟨⟨x0, hx0⟩, x0, hx0, Or.inl ⟨Or.inr h_77, Exists.intro k9_78 ⟨s9_78, e9_78, htok_78, Or.inr ⟨hno_81, rfl⟩⟩⟩⟩⟩⟩⟩⟩⟩⟩)
      · -- X7_hasStep f
        refine if_ne_f (tgt := 101) hx hb rfl dX7_readsStep_82 (by decide) ?_
        refine lv_aload_n hx hb dX7_readsStep_85 rfl (lv_at hl 2 rfl) ?_
        refine va_get (D := D) (ci := 7) (v := .ref (ma 1)) (C := RX7) (T := TX7) (N := 11) hx hb hts (by decide +kernel) hown hK.1 hP 1 rfl rfl 0 (by decide) (hts (.fieldLink RX7 7 "ParkingGarageModel" "s" "[I") (by decide +kernel)) (fun _ h9 => h9) rfl dX7_readsStep_86 ?_
        refine lv_bipush (v := 14) hx hb dX7_readsStep_89 (by decide) ?_
        refine lv_bipush (v := 16) hx hb dX7_readsStep_91 (by decide) ?_
        refine lv_iload_n hx hb dX7_readsStep_93 rfl (lv_at hl 1 rfl) ?_
        refine lv_imul hx hb dX7_readsStep_94 ?_
        rw [show (((16) * (0)) : Int32) = 0 from by decide]
        refine lv_iadd hx hb dX7_readsStep_95 ?_
        rw [show (((14) + (0)) : Int32) = 14 from by decide]
        refine iald_n (f := enc g lf) hx hb hK.1 hP 0 0 rfl rfl (14) (rfl) (by decide) (by omega) dX7_readsStep_96 ?_
        rw [show enc g lf (14) = nI tn from ht]
        refine lv_iconst (v := 5) hx hb dX7_readsStep_97 (by decide) ?_
        refine lv_icmp_ge (tgt := 105) hx hb dX7_readsStep_98 (by decide) (fun c_90 => ?_) (fun c_90 => ?_)
        · -- c_90: nI tn ≥ 5
          refine lv_iconst (v := 0) hx hb dX7_readsStep_105 (by decide) ?_
          refine cv_wv (As := [.int (0)]) (rest := []) (tys := TYS cI cC cB cS) (ci := 7) (wr := [(ma 1, iE cI 382 (enc g lf))]) ⟨hx, hb, hml, hown, hts⟩ (c_X7_takes l D cI cC cB cS _ (ma) (fi) (w9_72) (L) (f) (k9_72) (s9_72) (e9_72) (nI x0) (0) (0) (hL) (hch) (by omega) ((Or.inl rfl)) ((Or.inl rfl))) (cwV 1 hts gX7_readsStep_X7_takes rfl rfl rfl (by decide +kernel) ⟨Nat.le_of_ble_eq_true rfl, Nat.le_of_ble_eq_true rfl⟩) hK hP hD hS hA [1, 2] [0] rfl rfl (by decide) (by decide) (by decide) rfl rfl rfl rfl hl.1 (Nat.le_of_ble_eq_true rfl) dX7_readsStep_106 ⟨Nat.le_of_ble_eq_true rfl, Nat.le_of_ble_eq_true rfl⟩ (fun u_91 H locs hu_91 hP hD hS => ?_)
          have hP : va_P D vwCl [(ma 1, iE cI 382 (enc g lf)), (ma 0, oE 7 [.ref (ma 1), .ref (ma 2), .int (fi 0), .ref (ma 3), .ref (ma 4), .int (nI L), .int (nI u_91.1.2.2.1), .int (nI u_91.1.2.1), .long (u_91.1.2.2.2.1), .int (u_91.1.2.2.2.2), .int (u_91.2)]), (ma 4, iE cB 120 (bt f))] H := hP
          have hD : va_D A [(ma 1, iE cI 382 (enc g lf)), (ma 0, oE 7 [.ref (ma 1), .ref (ma 2), .int (fi 0), .ref (ma 3), .ref (ma 4), .int (nI L), .int (nI u_91.1.2.2.1), .int (nI u_91.1.2.1), .long (u_91.1.2.2.2.1), .int (u_91.1.2.2.2.2), .int (u_91.2)]), (ma 4, iE cB 120 (bt f))] := hD
          have hu_91 : TakeR f L (0) (0) (k9_72, s9_72, e9_72, w9_72, nI x0) u_91 := hu_91
          have hn_91 := take_no hu_91 (fun q9 => absurd q9.2 (by decide))
          subst hn_91
          have hP : va_P D vwCl [(ma 1, iE cI 382 (enc g lf)), (ma 0, oE 7 [.ref (ma 1), .ref (ma 2), .int (fi 0), .ref (ma 3), .ref (ma 4), .int (nI L), .int (nI e9_72), .int (nI s9_72), .long (w9_72), .int (nI x0), .int (1)]), (ma 4, iE cB 120 (bt f))] H := hP
          have hD : va_D A [(ma 1, iE cI 382 (enc g lf)), (ma 0, oE 7 [.ref (ma 1), .ref (ma 2), .int (fi 0), .ref (ma 3), .ref (ma 4), .int (nI L), .int (nI e9_72), .int (nI s9_72), .long (w9_72), .int (nI x0), .int (1)]), (ma 4, iE cB 120 (bt f))] := hD
          refine lv_aload_n hx hb dX7_readsStep_109 rfl (lv_at hl 2 rfl) ?_
          refine lv_iconst (v := 1) hx hb dX7_readsStep_110 (by decide) ?_
          refine lv_sipush (v := 240) hx hb dX7_readsStep_111 (by decide) ?_
          refine cv_wi (As := [.int (1), .int (240)]) (rest := []) (tys := TYS cI cC cB cS) (ci := 7) (wr := [(ma 1, iE cI 382 (enc g lf))]) ⟨hx, hb, hml, hown, hts⟩ (c_X7_takesNumber l D cI cC cB cS _ (ma) (fi) (w9_72) (L) (f) (k9_72) (s9_72) (e9_72) (nI x0) (1) (1) (240) (hL) (hch) (by omega) ((Or.inr rfl))) (cwV 2 hts gX7_readsStep_X7_takesNumber rfl rfl rfl (by decide +kernel) ⟨Nat.le_of_ble_eq_true rfl, Nat.le_of_ble_eq_true rfl⟩) hK hP hD hS hA [1, 2] [0] rfl rfl (by decide) (by decide) (by decide) rfl rfl rfl rfl hl.1 (Nat.le_of_ble_eq_true rfl) dX7_readsStep_114 ⟨Nat.le_of_ble_eq_true rfl, Nat.le_of_ble_eq_true rfl⟩ (fun r_94 u_93 H locs hu_93 hP hD hS => ?_)
          have hP : va_P D vwCl [(ma 1, iE cI 382 (enc g lf)), (ma 0, oE 7 [.ref (ma 1), .ref (ma 2), .int (fi 0), .ref (ma 3), .ref (ma 4), .int (nI L), .int (nI u_93.1.2.2.1), .int (nI u_93.1.2.1), .long (u_93.1.2.2.2.1), .int (u_93.1.2.2.2.2), .int (u_93.2)]), (ma 4, iE cB 120 (bt f))] H := hP
          have hD : va_D A [(ma 1, iE cI 382 (enc g lf)), (ma 0, oE 7 [.ref (ma 1), .ref (ma 2), .int (fi 0), .ref (ma 3), .ref (ma 4), .int (nI L), .int (nI u_93.1.2.2.1), .int (nI u_93.1.2.1), .long (u_93.1.2.2.2.1), .int (u_93.1.2.2.2.2), .int (u_93.2)]), (ma 4, iE cB 120 (bt f))] := hD
          have hu_93 : TakeN f L 1 240 (1) (k9_72, s9_72, e9_72, w9_72, nI x0) r_94 u_93 := hu_93
          have hn_94 := takeN_wrong hu_93
          subst hn_94
          have hP : va_P D vwCl [(ma 1, iE cI 382 (enc g lf)), (ma 0, oE 7 [.ref (ma 1), .ref (ma 2), .int (fi 0), .ref (ma 3), .ref (ma 4), .int (nI L), .int (nI e9_72), .int (nI s9_72), .long (w9_72), .int (nI x0), .int (1)]), (ma 4, iE cB 120 (bt f))] H := hP
          have hD : va_D A [(ma 1, iE cI 382 (enc g lf)), (ma 0, oE 7 [.ref (ma 1), .ref (ma 2), .int (fi 0), .ref (ma 3), .ref (ma 4), .int (nI L), .int (nI e9_72), .int (nI s9_72), .long (w9_72), .int (nI x0), .int (1)]), (ma 4, iE cB 120 (bt f))] := hD
          refine lv_istore_n (lv' := [(3, .int (r_94)), (2, .int (nI x0)), (1, .int (0)), (0, .ref (ma 0))]) hx hb dX7_readsStep_117 rfl hl (by decide) rfl (fun ls hl => ?_)
          refine lv_aload_n hx hb dX7_readsStep_118 rfl (lv_at hl 3 rfl) ?_
          refine lv_iconst (v := 0) hx hb dX7_readsStep_119 (by decide) ?_
          refine lv_sipush (v := 5000) hx hb dX7_readsStep_120 (by decide) ?_
          refine cv_wi (As := [.int (0), .int (5000)]) (rest := []) (tys := TYS cI cC cB cS) (ci := 7) (wr := [(ma 1, iE cI 382 (enc g lf))]) ⟨hx, hb, hml, hown, hts⟩ (c_X7_takesNumber l D cI cC cB cS _ (ma) (fi) (w9_72) (L) (f) (k9_72) (s9_72) (e9_72) (nI x0) (1) (0) (5000) (hL) (hch) (by omega) ((Or.inr rfl))) (cwV 2 hts gX7_readsStep_X7_takesNumber rfl rfl rfl (by decide +kernel) ⟨Nat.le_of_ble_eq_true rfl, Nat.le_of_ble_eq_true rfl⟩) hK hP hD hS hA [1, 2] [0] rfl rfl (by decide) (by decide) (by decide) rfl rfl rfl rfl hl.1 (Nat.le_of_ble_eq_true rfl) dX7_readsStep_123 ⟨Nat.le_of_ble_eq_true rfl, Nat.le_of_ble_eq_true rfl⟩ (fun r_97 u_96 H locs hu_96 hP hD hS => ?_)
          have hP : va_P D vwCl [(ma 1, iE cI 382 (enc g lf)), (ma 0, oE 7 [.ref (ma 1), .ref (ma 2), .int (fi 0), .ref (ma 3), .ref (ma 4), .int (nI L), .int (nI u_96.1.2.2.1), .int (nI u_96.1.2.1), .long (u_96.1.2.2.2.1), .int (u_96.1.2.2.2.2), .int (u_96.2)]), (ma 4, iE cB 120 (bt f))] H := hP
          have hD : va_D A [(ma 1, iE cI 382 (enc g lf)), (ma 0, oE 7 [.ref (ma 1), .ref (ma 2), .int (fi 0), .ref (ma 3), .ref (ma 4), .int (nI L), .int (nI u_96.1.2.2.1), .int (nI u_96.1.2.1), .long (u_96.1.2.2.2.1), .int (u_96.1.2.2.2.2), .int (u_96.2)]), (ma 4, iE cB 120 (bt f))] := hD
          have hu_96 : TakeN f L 0 5000 (1) (k9_72, s9_72, e9_72, w9_72, nI x0) r_97 u_96 := hu_96
          have hn_97 := takeN_wrong hu_96
          subst hn_97
          have hP : va_P D vwCl [(ma 1, iE cI 382 (enc g lf)), (ma 0, oE 7 [.ref (ma 1), .ref (ma 2), .int (fi 0), .ref (ma 3), .ref (ma 4), .int (nI L), .int (nI e9_72), .int (nI s9_72), .long (w9_72), .int (nI x0), .int (1)]), (ma 4, iE cB 120 (bt f))] H := hP
          have hD : va_D A [(ma 1, iE cI 382 (enc g lf)), (ma 0, oE 7 [.ref (ma 1), .ref (ma 2), .int (fi 0), .ref (ma 3), .ref (ma 4), .int (nI L), .int (nI e9_72), .int (nI s9_72), .long (w9_72), .int (nI x0), .int (1)]), (ma 4, iE cB 120 (bt f))] := hD
          refine lv_istore (lv' := [(4, .int (r_97)), (3, .int (r_94)), (2, .int (nI x0)), (1, .int (0)), (0, .ref (ma 0))]) hx hb dX7_readsStep_126 hl (by decide) rfl (fun ls hl => ?_)
          refine lv_aload_n hx hb dX7_readsStep_128 rfl (lv_at hl 4 rfl) ?_
          refine va_get (D := D) (ci := 7) (v := .int (1)) (C := RX7) (T := TX7) (N := 11) hx hb hts (by decide +kernel) hown hK.1 hP 1 rfl rfl 10 (by decide) (hts (.fieldLink RX7 102 "ParkingGarageModel" "isWrong" "Z") (by decide +kernel)) (fun _ h9 => h9) rfl dX7_readsStep_129 ?_
          refine if_ne_t (tgt := 144) hx hb (by decide) dX7_readsStep_132 (by decide) ?_
          exact wr_vret (((k9_72, s9_72, e9_72, w9_72, nI x0), 1, g)) hx hb hr hlocks hS hP hD [1, 0, 2] rfl rfl (by decide) dX7_readsStep_144 (⟨⟨e9_1, by omega, htok_72, hwd_72, hnm_72⟩, Or.inl ⟨rfl, Exists.intro k9_1 ⟨s9_1, e9_1, 0, htok_1, Or.inl ⟨hW_7_1, rfl⟩, Or.inr ⟨by decide, Or.inl ⟨rfl, Exists.intro k9_72 ⟨s9_72, e9_72, htok_72, Or.inl ⟨⟨x0, hx0⟩, x0, hx0, Or.inr ⟨fun q => q.elim (fun q => by have := (nI_leI (a := 5) (b := tn) (by omega) (by omega)).mp c_90; omega) h_77, rfl⟩⟩⟩⟩⟩⟩⟩⟩)
        · -- c_90: not nI tn ≥ 5
          have hroom9 : tn < 5 := nI_ltD (n := 5) rfl (by omega) (by omega) c_90
          refine lv_iconst (v := 1) hx hb dX7_readsStep_101 (by decide) ?_
          refine lv_goto (tgt := 106) hx hb dX7_readsStep_102 (by decide) ?_
          refine cv_wv (As := [.int (1)]) (rest := []) (tys := TYS cI cC cB cS) (ci := 7) (wr := [(ma 1, iE cI 382 (enc g lf))]) ⟨hx, hb, hml, hown, hts⟩ (c_X7_takes l D cI cC cB cS _ (ma) (fi) (w9_72) (L) (f) (k9_72) (s9_72) (e9_72) (nI x0) (0) (1) (hL) (hch) (by omega) ((Or.inl rfl)) ((Or.inr rfl))) (cwV 1 hts gX7_readsStep_X7_takes rfl rfl rfl (by decide +kernel) ⟨Nat.le_of_ble_eq_true rfl, Nat.le_of_ble_eq_true rfl⟩) hK hP hD hS hA [1, 2] [0] rfl rfl (by decide) (by decide) (by decide) rfl rfl rfl rfl hl.1 (Nat.le_of_ble_eq_true rfl) dX7_readsStep_106 ⟨Nat.le_of_ble_eq_true rfl, Nat.le_of_ble_eq_true rfl⟩ (fun u_99 H locs hu_99 hP hD hS => ?_)
          have hP : va_P D vwCl [(ma 1, iE cI 382 (enc g lf)), (ma 0, oE 7 [.ref (ma 1), .ref (ma 2), .int (fi 0), .ref (ma 3), .ref (ma 4), .int (nI L), .int (nI u_99.1.2.2.1), .int (nI u_99.1.2.1), .long (u_99.1.2.2.2.1), .int (u_99.1.2.2.2.2), .int (u_99.2)]), (ma 4, iE cB 120 (bt f))] H := hP
          have hD : va_D A [(ma 1, iE cI 382 (enc g lf)), (ma 0, oE 7 [.ref (ma 1), .ref (ma 2), .int (fi 0), .ref (ma 3), .ref (ma 4), .int (nI L), .int (nI u_99.1.2.2.1), .int (nI u_99.1.2.1), .long (u_99.1.2.2.2.1), .int (u_99.1.2.2.2.2), .int (u_99.2)]), (ma 4, iE cB 120 (bt f))] := hD
          have hu_99 : TakeR f L (0) (1) (k9_72, s9_72, e9_72, w9_72, nI x0) u_99 := hu_99
          obtain ⟨⟨k9_99, s9_99, e9_99, w9_99, m9_99⟩, z9_99⟩ := u_99
          obtain ⟨hz_99, hg_99⟩ := take_yes hu_99
          have hz_99 : z9_99 = 0 := hz_99
          subst hz_99
          have htok_99 : Tok f L e9_72 k9_99 s9_99 e9_99 := hg_99.1
          have hwd_99 : WdOf f k9_99 s9_99 e9_99 w9_99 := hg_99.2.1
          have hnm_99 : NmOf f k9_99 s9_99 e9_99 m9_99 := hg_99.2.2
          have hle_99 := htok_99.le (by omega)
          have heL_99 : e9_99 ≤ L := hle_99.2.2.1
          have hP : va_P D vwCl [(ma 1, iE cI 382 (enc g lf)), (ma 0, oE 7 [.ref (ma 1), .ref (ma 2), .int (fi 0), .ref (ma 3), .ref (ma 4), .int (nI L), .int (nI e9_99), .int (nI s9_99), .long (w9_99), .int (m9_99), .int (0)]), (ma 4, iE cB 120 (bt f))] H := hP
          have hD : va_D A [(ma 1, iE cI 382 (enc g lf)), (ma 0, oE 7 [.ref (ma 1), .ref (ma 2), .int (fi 0), .ref (ma 3), .ref (ma 4), .int (nI L), .int (nI e9_99), .int (nI s9_99), .long (w9_99), .int (m9_99), .int (0)]), (ma 4, iE cB 120 (bt f))] := hD
          refine lv_aload_n hx hb dX7_readsStep_109 rfl (lv_at hl 2 rfl) ?_
          refine lv_iconst (v := 1) hx hb dX7_readsStep_110 (by decide) ?_
          refine lv_sipush (v := 240) hx hb dX7_readsStep_111 (by decide) ?_
          refine cv_wi (As := [.int (1), .int (240)]) (rest := []) (tys := TYS cI cC cB cS) (ci := 7) (wr := [(ma 1, iE cI 382 (enc g lf))]) ⟨hx, hb, hml, hown, hts⟩ (c_X7_takesNumber l D cI cC cB cS _ (ma) (fi) (w9_99) (L) (f) (k9_99) (s9_99) (e9_99) (m9_99) (0) (1) (240) (hL) (hch) (by omega) ((Or.inl rfl))) (cwV 2 hts gX7_readsStep_X7_takesNumber rfl rfl rfl (by decide +kernel) ⟨Nat.le_of_ble_eq_true rfl, Nat.le_of_ble_eq_true rfl⟩) hK hP hD hS hA [1, 2] [0] rfl rfl (by decide) (by decide) (by decide) rfl rfl rfl rfl hl.1 (Nat.le_of_ble_eq_true rfl) dX7_readsStep_114 ⟨Nat.le_of_ble_eq_true rfl, Nat.le_of_ble_eq_true rfl⟩ (fun r_102 u_101 H locs hu_101 hP hD hS => ?_)
          have hP : va_P D vwCl [(ma 1, iE cI 382 (enc g lf)), (ma 0, oE 7 [.ref (ma 1), .ref (ma 2), .int (fi 0), .ref (ma 3), .ref (ma 4), .int (nI L), .int (nI u_101.1.2.2.1), .int (nI u_101.1.2.1), .long (u_101.1.2.2.2.1), .int (u_101.1.2.2.2.2), .int (u_101.2)]), (ma 4, iE cB 120 (bt f))] H := hP
          have hD : va_D A [(ma 1, iE cI 382 (enc g lf)), (ma 0, oE 7 [.ref (ma 1), .ref (ma 2), .int (fi 0), .ref (ma 3), .ref (ma 4), .int (nI L), .int (nI u_101.1.2.2.1), .int (nI u_101.1.2.1), .long (u_101.1.2.2.2.1), .int (u_101.1.2.2.2.2), .int (u_101.2)]), (ma 4, iE cB 120 (bt f))] := hD
          have hu_101 : TakeN f L 1 240 (0) (k9_99, s9_99, e9_99, w9_99, m9_99) r_102 u_101 := hu_101
          rcases takeN_cases hu_101 hnm_99 (by omega) (by omega) with ⟨⟨un, hun, hr_102⟩, hz_102, hg_102⟩ | ⟨hno_102, hn_102⟩
          · -- a number
            obtain ⟨⟨k9_102, s9_102, e9_102, w9_102, m9_102⟩, z9_102⟩ := u_101
            have hz_102 : z9_102 = 0 := hz_102
            subst hz_102
            have hun : NumIn f k9_99 s9_99 e9_99 1 240 un := hun
            rw [show r_102 = nI un from hr_102]
            have htok_102 : Tok f L e9_99 k9_102 s9_102 e9_102 := hg_102.1
            have hwd_102 : WdOf f k9_102 s9_102 e9_102 w9_102 := hg_102.2.1
            have hnm_102 : NmOf f k9_102 s9_102 e9_102 m9_102 := hg_102.2.2
            have hle_102 := htok_102.le (by omega)
            have heL_102 : e9_102 ≤ L := hle_102.2.2.1
            have hP : va_P D vwCl [(ma 1, iE cI 382 (enc g lf)), (ma 0, oE 7 [.ref (ma 1), .ref (ma 2), .int (fi 0), .ref (ma 3), .ref (ma 4), .int (nI L), .int (nI e9_102), .int (nI s9_102), .long (w9_102), .int (m9_102), .int (0)]), (ma 4, iE cB 120 (bt f))] H := hP
            have hD : va_D A [(ma 1, iE cI 382 (enc g lf)), (ma 0, oE 7 [.ref (ma 1), .ref (ma 2), .int (fi 0), .ref (ma 3), .ref (ma 4), .int (nI L), .int (nI e9_102), .int (nI s9_102), .long (w9_102), .int (m9_102), .int (0)]), (ma 4, iE cB 120 (bt f))] := hD
            refine lv_istore_n (lv' := [(3, .int (nI un)), (2, .int (nI x0)), (1, .int (0)), (0, .ref (ma 0))]) hx hb dX7_readsStep_117 rfl hl (by decide) rfl (fun ls hl => ?_)
            refine lv_aload_n hx hb dX7_readsStep_118 rfl (lv_at hl 3 rfl) ?_
            refine lv_iconst (v := 0) hx hb dX7_readsStep_119 (by decide) ?_
            refine lv_sipush (v := 5000) hx hb dX7_readsStep_120 (by decide) ?_
            refine cv_wi (As := [.int (0), .int (5000)]) (rest := []) (tys := TYS cI cC cB cS) (ci := 7) (wr := [(ma 1, iE cI 382 (enc g lf))]) ⟨hx, hb, hml, hown, hts⟩ (c_X7_takesNumber l D cI cC cB cS _ (ma) (fi) (w9_102) (L) (f) (k9_102) (s9_102) (e9_102) (m9_102) (0) (0) (5000) (hL) (hch) (by omega) ((Or.inl rfl))) (cwV 2 hts gX7_readsStep_X7_takesNumber rfl rfl rfl (by decide +kernel) ⟨Nat.le_of_ble_eq_true rfl, Nat.le_of_ble_eq_true rfl⟩) hK hP hD hS hA [1, 2] [0] rfl rfl (by decide) (by decide) (by decide) rfl rfl rfl rfl hl.1 (Nat.le_of_ble_eq_true rfl) dX7_readsStep_123 ⟨Nat.le_of_ble_eq_true rfl, Nat.le_of_ble_eq_true rfl⟩ (fun r_105 u_104 H locs hu_104 hP hD hS => ?_)
            have hP : va_P D vwCl [(ma 1, iE cI 382 (enc g lf)), (ma 0, oE 7 [.ref (ma 1), .ref (ma 2), .int (fi 0), .ref (ma 3), .ref (ma 4), .int (nI L), .int (nI u_104.1.2.2.1), .int (nI u_104.1.2.1), .long (u_104.1.2.2.2.1), .int (u_104.1.2.2.2.2), .int (u_104.2)]), (ma 4, iE cB 120 (bt f))] H := hP
            have hD : va_D A [(ma 1, iE cI 382 (enc g lf)), (ma 0, oE 7 [.ref (ma 1), .ref (ma 2), .int (fi 0), .ref (ma 3), .ref (ma 4), .int (nI L), .int (nI u_104.1.2.2.1), .int (nI u_104.1.2.1), .long (u_104.1.2.2.2.1), .int (u_104.1.2.2.2.2), .int (u_104.2)]), (ma 4, iE cB 120 (bt f))] := hD
            have hu_104 : TakeN f L 0 5000 (0) (k9_102, s9_102, e9_102, w9_102, m9_102) r_105 u_104 := hu_104
            rcases takeN_cases hu_104 hnm_102 (by omega) (by omega) with ⟨⟨pr, hpr, hr_105⟩, hz_105, hg_105⟩ | ⟨hno_105, hn_105⟩
            · -- a number
              obtain ⟨⟨k9_105, s9_105, e9_105, w9_105, m9_105⟩, z9_105⟩ := u_104
              have hz_105 : z9_105 = 0 := hz_105
              subst hz_105
              have hpr : NumIn f k9_102 s9_102 e9_102 0 5000 pr := hpr
              rw [show r_105 = nI pr from hr_105]
              have htok_105 : Tok f L e9_102 k9_105 s9_105 e9_105 := hg_105.1
              have hwd_105 : WdOf f k9_105 s9_105 e9_105 w9_105 := hg_105.2.1
              have hnm_105 : NmOf f k9_105 s9_105 e9_105 m9_105 := hg_105.2.2
              have hle_105 := htok_105.le (by omega)
              have heL_105 : e9_105 ≤ L := hle_105.2.2.1
              have hP : va_P D vwCl [(ma 1, iE cI 382 (enc g lf)), (ma 0, oE 7 [.ref (ma 1), .ref (ma 2), .int (fi 0), .ref (ma 3), .ref (ma 4), .int (nI L), .int (nI e9_105), .int (nI s9_105), .long (w9_105), .int (m9_105), .int (0)]), (ma 4, iE cB 120 (bt f))] H := hP
              have hD : va_D A [(ma 1, iE cI 382 (enc g lf)), (ma 0, oE 7 [.ref (ma 1), .ref (ma 2), .int (fi 0), .ref (ma 3), .ref (ma 4), .int (nI L), .int (nI e9_105), .int (nI s9_105), .long (w9_105), .int (m9_105), .int (0)]), (ma 4, iE cB 120 (bt f))] := hD
              refine lv_istore (lv' := [(4, .int (nI pr)), (3, .int (nI un)), (2, .int (nI x0)), (1, .int (0)), (0, .ref (ma 0))]) hx hb dX7_readsStep_126 hl (by decide) rfl (fun ls hl => ?_)
              refine lv_aload_n hx hb dX7_readsStep_128 rfl (lv_at hl 4 rfl) ?_
              refine va_get (D := D) (ci := 7) (v := .int (0)) (C := RX7) (T := TX7) (N := 11) hx hb hts (by decide +kernel) hown hK.1 hP 1 rfl rfl 10 (by decide) (hts (.fieldLink RX7 102 "ParkingGarageModel" "isWrong" "Z") (by decide +kernel)) (fun _ h9 => h9) rfl dX7_readsStep_129 ?_
              refine if_ne_f (tgt := 144) hx hb rfl dX7_readsStep_132 (by decide) ?_
              refine lv_aload_n hx hb dX7_readsStep_135 rfl (lv_at hl 4 rfl) ?_
              refine lv_iload_n hx hb dX7_readsStep_136 rfl (lv_at hl 3 rfl) ?_
              refine lv_iload_n hx hb dX7_readsStep_137 rfl (lv_at hl 2 rfl) ?_
              refine lv_iload_n hx hb dX7_readsStep_138 rfl (lv_at hl 1 rfl) ?_
              refine lv_iload hx hb dX7_readsStep_139 (lv_at hl 0 rfl) ?_
              refine cv_wv (As := [.int (0), .int (nI x0), .int (nI un), .int (nI pr)]) (rest := []) (tys := TYS cI cC cB cS) (ci := 7) (wr := [(ma 4, iE cB 120 (bt f))]) ⟨hx, hb, hml, hown, hts⟩ (c_X7_puts l D cI cC cB cS _ (ma) ((fun j => [fi 0, nI L, nI e9_105, nI s9_105, m9_105, 0].getD j 0)) (w9_105) (g) (lf) (0) (tn) (nI x0) (nI un) (nI pr) (by decide) (ht) (htb) (Or.inl hroom9)) (cwV 4 hts gX7_readsStep_X7_puts rfl rfl rfl (by decide +kernel) ⟨Nat.le_of_ble_eq_true rfl, Nat.le_of_ble_eq_true rfl⟩) hK hP hD hS hA [1, 0] [2] rfl rfl (by decide) (by decide) (by decide) rfl rfl rfl rfl hl.1 (Nat.le_of_ble_eq_true rfl) dX7_readsStep_141 ⟨Nat.le_of_ble_eq_true rfl, Nat.le_of_ble_eq_true rfl⟩ (fun u_107 H locs hu_107 hP hD hS => ?_)
              have hP : va_P D vwCl [(ma 4, iE cB 120 (bt f)), (ma 0, oE 7 [.ref (ma 1), .ref (ma 2), .int (fi 0), .ref (ma 3), .ref (ma 4), .int (nI L), .int (nI e9_105), .int (nI s9_105), .long (w9_105), .int (m9_105), .int (0)]), (ma 1, iE cI 382 (enc (wblk g 19 4 u_107) lf))] H := hP
              have hD : va_D A [(ma 4, iE cB 120 (bt f)), (ma 0, oE 7 [.ref (ma 1), .ref (ma 2), .int (fi 0), .ref (ma 3), .ref (ma 4), .int (nI L), .int (nI e9_105), .int (nI s9_105), .long (w9_105), .int (m9_105), .int (0)]), (ma 1, iE cI 382 (enc (wblk g 19 4 u_107) lf))] := hD
              have hu_107 : TPut (tV g 0) tn (nI x0) (nI un) (nI pr) u_107 := hu_107
              exact wr_vret (((k9_105, s9_105, e9_105, w9_105, m9_105), 0, (wblk g 19 4 u_107))) hx hb hr hlocks hS hP hD [1, 2, 0] rfl rfl (by decide) dX7_readsStep_144 (⟨⟨e9_102, by omega, htok_105, hwd_105, hnm_105⟩, Or.inr ⟨rfl, fun o ho => Exists.intro k9_1 ⟨s9_1, e9_1, 0, htok_1, Or.inl ⟨hW_7_1, rfl⟩, Or.inr ⟨by decide, Or.inl ⟨rfl, Exists.intro k9_72 ⟨s9_72, e9_72, htok_72, Or.inl ⟨⟨x0, hx0⟩, x0, hx0, Or.inl ⟨Or.inl hroom9, Exists.intro k9_99 ⟨s9_99, e9_99, htok_99, Or.inl ⟨⟨un, hun⟩, un, hun, Exists.intro k9_102 ⟨s9_102, e9_102, htok_102, Or.inl ⟨⟨pr, hpr⟩, pr, hpr, Exists.intro k9_105 ⟨s9_105, e9_105, htok_105, ho.im (fun q9 => Exists.intro u_107 ⟨hu_107, q9⟩)⟩⟩⟩⟩⟩⟩⟩⟩⟩⟩⟩⟩⟩)
            · -- none
              subst hn_105
              have hno_105 : ¬ ∃ v, NumIn f k9_102 s9_102 e9_102 0 5000 v := hno_105
              have hP : va_P D vwCl [(ma 1, iE cI 382 (enc g lf)), (ma 0, oE 7 [.ref (ma 1), .ref (ma 2), .int (fi 0), .ref (ma 3), .ref (ma 4), .int (nI L), .int (nI e9_102), .int (nI s9_102), .long (w9_102), .int (m9_102), .int (1)]), (ma 4, iE cB 120 (bt f))] H := hP
              have hD : va_D A [(ma 1, iE cI 382 (enc g lf)), (ma 0, oE 7 [.ref (ma 1), .ref (ma 2), .int (fi 0), .ref (ma 3), .ref (ma 4), .int (nI L), .int (nI e9_102), .int (nI s9_102), .long (w9_102), .int (m9_102), .int (1)]), (ma 4, iE cB 120 (bt f))] := hD
              refine lv_istore (lv' := [(4, .int (r_105)), (3, .int (nI un)), (2, .int (nI x0)), (1, .int (0)), (0, .ref (ma 0))]) hx hb dX7_readsStep_126 hl (by decide) rfl (fun ls hl => ?_)
              refine lv_aload_n hx hb dX7_readsStep_128 rfl (lv_at hl 4 rfl) ?_
              refine va_get (D := D) (ci := 7) (v := .int (1)) (C := RX7) (T := TX7) (N := 11) hx hb hts (by decide +kernel) hown hK.1 hP 1 rfl rfl 10 (by decide) (hts (.fieldLink RX7 102 "ParkingGarageModel" "isWrong" "Z") (by decide +kernel)) (fun _ h9 => h9) rfl dX7_readsStep_129 ?_
              refine if_ne_t (tgt := 144) hx hb (by decide) dX7_readsStep_132 (by decide) ?_
              exact wr_vret (((k9_102, s9_102, e9_102, w9_102, m9_102), 1, g)) hx hb hr hlocks hS hP hD [1, 0, 2] rfl rfl (by decide) dX7_readsStep_144 (⟨⟨e9_99, by omega, htok_102, hwd_102, hnm_102⟩, Or.inl ⟨rfl, Exists.intro k9_1 ⟨s9_1, e9_1, 0, htok_1, Or.inl ⟨hW_7_1, rfl⟩, Or.inr ⟨by decide, Or.inl ⟨rfl, Exists.intro k9_72 ⟨s9_72, e9_72, htok_72, Or.inl ⟨⟨x0, hx0⟩, x0, hx0, Or.inl ⟨Or.inl hroom9, Exists.intro k9_99 ⟨s9_99, e9_99, htok_99, Or.inl ⟨⟨un, hun⟩, un, hun, Exists.intro k9_102 ⟨s9_102, e9_102, htok_102, Or.inr ⟨hno_105, rfl⟩⟩⟩⟩⟩⟩⟩⟩⟩⟩⟩⟩)
          · -- none
            subst hn_102
            have hno_102 : ¬ ∃ v, NumIn f k9_99 s9_99 e9_99 1 240 v := hno_102
            have hP : va_P D vwCl [(ma 1, iE cI 382 (enc g lf)), (ma 0, oE 7 [.ref (ma 1), .ref (ma 2), .int (fi 0), .ref (ma 3), .ref (ma 4), .int (nI L), .int (nI e9_99), .int (nI s9_99), .long (w9_99), .int (m9_99), .int (1)]), (ma 4, iE cB 120 (bt f))] H := hP
            have hD : va_D A [(ma 1, iE cI 382 (enc g lf)), (ma 0, oE 7 [.ref (ma 1), .ref (ma 2), .int (fi 0), .ref (ma 3), .ref (ma 4), .int (nI L), .int (nI e9_99), .int (nI s9_99), .long (w9_99), .int (m9_99), .int (1)]), (ma 4, iE cB 120 (bt f))] := hD
            refine lv_istore_n (lv' := [(3, .int (r_102)), (2, .int (nI x0)), (1, .int (0)), (0, .ref (ma 0))]) hx hb dX7_readsStep_117 rfl hl (by decide) rfl (fun ls hl => ?_)
            refine lv_aload_n hx hb dX7_readsStep_118 rfl (lv_at hl 3 rfl) ?_
            refine lv_iconst (v := 0) hx hb dX7_readsStep_119 (by decide) ?_
            refine lv_sipush (v := 5000) hx hb dX7_readsStep_120 (by decide) ?_
            refine cv_wi (As := [.int (0), .int (5000)]) (rest := []) (tys := TYS cI cC cB cS) (ci := 7) (wr := [(ma 1, iE cI 382 (enc g lf))]) ⟨hx, hb, hml, hown, hts⟩ (c_X7_takesNumber l D cI cC cB cS _ (ma) (fi) (w9_99) (L) (f) (k9_99) (s9_99) (e9_99) (m9_99) (1) (0) (5000) (hL) (hch) (by omega) ((Or.inr rfl))) (cwV 2 hts gX7_readsStep_X7_takesNumber rfl rfl rfl (by decide +kernel) ⟨Nat.le_of_ble_eq_true rfl, Nat.le_of_ble_eq_true rfl⟩) hK hP hD hS hA [1, 2] [0] rfl rfl (by decide) (by decide) (by decide) rfl rfl rfl rfl hl.1 (Nat.le_of_ble_eq_true rfl) dX7_readsStep_123 ⟨Nat.le_of_ble_eq_true rfl, Nat.le_of_ble_eq_true rfl⟩ (fun r_109 u_108 H locs hu_108 hP hD hS => ?_)
            have hP : va_P D vwCl [(ma 1, iE cI 382 (enc g lf)), (ma 0, oE 7 [.ref (ma 1), .ref (ma 2), .int (fi 0), .ref (ma 3), .ref (ma 4), .int (nI L), .int (nI u_108.1.2.2.1), .int (nI u_108.1.2.1), .long (u_108.1.2.2.2.1), .int (u_108.1.2.2.2.2), .int (u_108.2)]), (ma 4, iE cB 120 (bt f))] H := hP
            have hD : va_D A [(ma 1, iE cI 382 (enc g lf)), (ma 0, oE 7 [.ref (ma 1), .ref (ma 2), .int (fi 0), .ref (ma 3), .ref (ma 4), .int (nI L), .int (nI u_108.1.2.2.1), .int (nI u_108.1.2.1), .long (u_108.1.2.2.2.1), .int (u_108.1.2.2.2.2), .int (u_108.2)]), (ma 4, iE cB 120 (bt f))] := hD
            have hu_108 : TakeN f L 0 5000 (1) (k9_99, s9_99, e9_99, w9_99, m9_99) r_109 u_108 := hu_108
            have hn_109 := takeN_wrong hu_108
            subst hn_109
            have hP : va_P D vwCl [(ma 1, iE cI 382 (enc g lf)), (ma 0, oE 7 [.ref (ma 1), .ref (ma 2), .int (fi 0), .ref (ma 3), .ref (ma 4), .int (nI L), .int (nI e9_99), .int (nI s9_99), .long (w9_99), .int (m9_99), .int (1)]), (ma 4, iE cB 120 (bt f))] H := hP
            have hD : va_D A [(ma 1, iE cI 382 (enc g lf)), (ma 0, oE 7 [.ref (ma 1), .ref (ma 2), .int (fi 0), .ref (ma 3), .ref (ma 4), .int (nI L), .int (nI e9_99), .int (nI s9_99), .long (w9_99), .int (m9_99), .int (1)]), (ma 4, iE cB 120 (bt f))] := hD
            refine lv_istore (lv' := [(4, .int (r_109)), (3, .int (r_102)), (2, .int (nI x0)), (1, .int (0)), (0, .ref (ma 0))]) hx hb dX7_readsStep_126 hl (by decide) rfl (fun ls hl => ?_)
            refine lv_aload_n hx hb dX7_readsStep_128 rfl (lv_at hl 4 rfl) ?_
            refine va_get (D := D) (ci := 7) (v := .int (1)) (C := RX7) (T := TX7) (N := 11) hx hb hts (by decide +kernel) hown hK.1 hP 1 rfl rfl 10 (by decide) (hts (.fieldLink RX7 102 "ParkingGarageModel" "isWrong" "Z") (by decide +kernel)) (fun _ h9 => h9) rfl dX7_readsStep_129 ?_
            refine if_ne_t (tgt := 144) hx hb (by decide) dX7_readsStep_132 (by decide) ?_
            exact wr_vret (((k9_99, s9_99, e9_99, w9_99, m9_99), 1, g)) hx hb hr hlocks hS hP hD [1, 0, 2] rfl rfl (by decide) dX7_readsStep_144 (⟨⟨e9_72, by omega, htok_99, hwd_99, hnm_99⟩, Or.inl ⟨rfl, Exists.intro k9_1 ⟨s9_1, e9_1, 0, htok_1, Or.inl ⟨hW_7_1, rfl⟩, Or.inr ⟨by decide, Or.inl ⟨rfl, Exists.intro k9_72 ⟨s9_72, e9_72, htok_72, Or.inl ⟨⟨x0, hx0⟩, x0, hx0, Or.inl ⟨Or.inl hroom9, Exists.intro k9_99 ⟨s9_99, e9_99, htok_99, Or.inr ⟨hno_102, rfl⟩⟩⟩⟩⟩⟩⟩⟩⟩⟩)
    · -- X7_in f
      have hno9 := nm_no (lo := 0) (hi := 1440) hnm_72 (by decide) h_75
      refine if_eq_t (tgt := 105) hx hb rfl dX7_readsStep_66 (by decide) ?_
      refine lv_iconst (v := 0) hx hb dX7_readsStep_105 (by decide) ?_
      refine cv_wv (As := [.int (0)]) (rest := []) (tys := TYS cI cC cB cS) (ci := 7) (wr := [(ma 1, iE cI 382 (enc g lf))]) ⟨hx, hb, hml, hown, hts⟩ (c_X7_takes l D cI cC cB cS _ (ma) (fi) (w9_72) (L) (f) (k9_72) (s9_72) (e9_72) (m9_72) (0) (0) (hL) (hch) (by omega) ((Or.inl rfl)) ((Or.inl rfl))) (cwV 1 hts gX7_readsStep_X7_takes rfl rfl rfl (by decide +kernel) ⟨Nat.le_of_ble_eq_true rfl, Nat.le_of_ble_eq_true rfl⟩) hK hP hD hS hA [1, 2] [0] rfl rfl (by decide) (by decide) (by decide) rfl rfl rfl rfl hl.1 (Nat.le_of_ble_eq_true rfl) dX7_readsStep_106 ⟨Nat.le_of_ble_eq_true rfl, Nat.le_of_ble_eq_true rfl⟩ (fun u_111 H locs hu_111 hP hD hS => ?_)
      have hP : va_P D vwCl [(ma 1, iE cI 382 (enc g lf)), (ma 0, oE 7 [.ref (ma 1), .ref (ma 2), .int (fi 0), .ref (ma 3), .ref (ma 4), .int (nI L), .int (nI u_111.1.2.2.1), .int (nI u_111.1.2.1), .long (u_111.1.2.2.2.1), .int (u_111.1.2.2.2.2), .int (u_111.2)]), (ma 4, iE cB 120 (bt f))] H := hP
      have hD : va_D A [(ma 1, iE cI 382 (enc g lf)), (ma 0, oE 7 [.ref (ma 1), .ref (ma 2), .int (fi 0), .ref (ma 3), .ref (ma 4), .int (nI L), .int (nI u_111.1.2.2.1), .int (nI u_111.1.2.1), .long (u_111.1.2.2.2.1), .int (u_111.1.2.2.2.2), .int (u_111.2)]), (ma 4, iE cB 120 (bt f))] := hD
      have hu_111 : TakeR f L (0) (0) (k9_72, s9_72, e9_72, w9_72, m9_72) u_111 := hu_111
      have hn_111 := take_no hu_111 (fun q9 => absurd q9.2 (by decide))
      subst hn_111
      have hP : va_P D vwCl [(ma 1, iE cI 382 (enc g lf)), (ma 0, oE 7 [.ref (ma 1), .ref (ma 2), .int (fi 0), .ref (ma 3), .ref (ma 4), .int (nI L), .int (nI e9_72), .int (nI s9_72), .long (w9_72), .int (m9_72), .int (1)]), (ma 4, iE cB 120 (bt f))] H := hP
      have hD : va_D A [(ma 1, iE cI 382 (enc g lf)), (ma 0, oE 7 [.ref (ma 1), .ref (ma 2), .int (fi 0), .ref (ma 3), .ref (ma 4), .int (nI L), .int (nI e9_72), .int (nI s9_72), .long (w9_72), .int (m9_72), .int (1)]), (ma 4, iE cB 120 (bt f))] := hD
      refine lv_aload_n hx hb dX7_readsStep_109 rfl (lv_at hl 2 rfl) ?_
      refine lv_iconst (v := 1) hx hb dX7_readsStep_110 (by decide) ?_
      refine lv_sipush (v := 240) hx hb dX7_readsStep_111 (by decide) ?_
      refine cv_wi (As := [.int (1), .int (240)]) (rest := []) (tys := TYS cI cC cB cS) (ci := 7) (wr := [(ma 1, iE cI 382 (enc g lf))]) ⟨hx, hb, hml, hown, hts⟩ (c_X7_takesNumber l D cI cC cB cS _ (ma) (fi) (w9_72) (L) (f) (k9_72) (s9_72) (e9_72) (m9_72) (1) (1) (240) (hL) (hch) (by omega) ((Or.inr rfl))) (cwV 2 hts gX7_readsStep_X7_takesNumber rfl rfl rfl (by decide +kernel) ⟨Nat.le_of_ble_eq_true rfl, Nat.le_of_ble_eq_true rfl⟩) hK hP hD hS hA [1, 2] [0] rfl rfl (by decide) (by decide) (by decide) rfl rfl rfl rfl hl.1 (Nat.le_of_ble_eq_true rfl) dX7_readsStep_114 ⟨Nat.le_of_ble_eq_true rfl, Nat.le_of_ble_eq_true rfl⟩ (fun r_114 u_113 H locs hu_113 hP hD hS => ?_)
      have hP : va_P D vwCl [(ma 1, iE cI 382 (enc g lf)), (ma 0, oE 7 [.ref (ma 1), .ref (ma 2), .int (fi 0), .ref (ma 3), .ref (ma 4), .int (nI L), .int (nI u_113.1.2.2.1), .int (nI u_113.1.2.1), .long (u_113.1.2.2.2.1), .int (u_113.1.2.2.2.2), .int (u_113.2)]), (ma 4, iE cB 120 (bt f))] H := hP
      have hD : va_D A [(ma 1, iE cI 382 (enc g lf)), (ma 0, oE 7 [.ref (ma 1), .ref (ma 2), .int (fi 0), .ref (ma 3), .ref (ma 4), .int (nI L), .int (nI u_113.1.2.2.1), .int (nI u_113.1.2.1), .long (u_113.1.2.2.2.1), .int (u_113.1.2.2.2.2), .int (u_113.2)]), (ma 4, iE cB 120 (bt f))] := hD
      have hu_113 : TakeN f L 1 240 (1) (k9_72, s9_72, e9_72, w9_72, m9_72) r_114 u_113 := hu_113
      have hn_114 := takeN_wrong hu_113
      subst hn_114
      have hP : va_P D vwCl [(ma 1, iE cI 382 (enc g lf)), (ma 0, oE 7 [.ref (ma 1), .ref (ma 2), .int (fi 0), .ref (ma 3), .ref (ma 4), .int (nI L), .int (nI e9_72), .int (nI s9_72), .long (w9_72), .int (m9_72), .int (1)]), (ma 4, iE cB 120 (bt f))] H := hP
      have hD : va_D A [(ma 1, iE cI 382 (enc g lf)), (ma 0, oE 7 [.ref (ma 1), .ref (ma 2), .int (fi 0), .ref (ma 3), .ref (ma 4), .int (nI L), .int (nI e9_72), .int (nI s9_72), .long (w9_72), .int (m9_72), .int (1)]), (ma 4, iE cB 120 (bt f))] := hD
      refine lv_istore_n (lv' := [(3, .int (r_114)), (2, .int (m9_72)), (1, .int (0)), (0, .ref (ma 0))]) hx hb dX7_readsStep_117 rfl hl (by decide) rfl (fun ls hl => ?_)
      refine lv_aload_n hx hb dX7_readsStep_118 rfl (lv_at hl 3 rfl) ?_
      refine lv_iconst (v := 0) hx hb dX7_readsStep_119 (by decide) ?_
      refine lv_sipush (v := 5000) hx hb dX7_readsStep_120 (by decide) ?_
      refine cv_wi (As := [.int (0), .int (5000)]) (rest := []) (tys := TYS cI cC cB cS) (ci := 7) (wr := [(ma 1, iE cI 382 (enc g lf))]) ⟨hx, hb, hml, hown, hts⟩ (c_X7_takesNumber l D cI cC cB cS _ (ma) (fi) (w9_72) (L) (f) (k9_72) (s9_72) (e9_72) (m9_72) (1) (0) (5000) (hL) (hch) (by omega) ((Or.inr rfl))) (cwV 2 hts gX7_readsStep_X7_takesNumber rfl rfl rfl (by decide +kernel) ⟨Nat.le_of_ble_eq_true rfl, Nat.le_of_ble_eq_true rfl⟩) hK hP hD hS hA [1, 2] [0] rfl rfl (by decide) (by decide) (by decide) rfl rfl rfl rfl hl.1 (Nat.le_of_ble_eq_true rfl) dX7_readsStep_123 ⟨Nat.le_of_ble_eq_true rfl, Nat.le_of_ble_eq_true rfl⟩ (fun r_117 u_116 H locs hu_116 hP hD hS => ?_)
      have hP : va_P D vwCl [(ma 1, iE cI 382 (enc g lf)), (ma 0, oE 7 [.ref (ma 1), .ref (ma 2), .int (fi 0), .ref (ma 3), .ref (ma 4), .int (nI L), .int (nI u_116.1.2.2.1), .int (nI u_116.1.2.1), .long (u_116.1.2.2.2.1), .int (u_116.1.2.2.2.2), .int (u_116.2)]), (ma 4, iE cB 120 (bt f))] H := hP
      have hD : va_D A [(ma 1, iE cI 382 (enc g lf)), (ma 0, oE 7 [.ref (ma 1), .ref (ma 2), .int (fi 0), .ref (ma 3), .ref (ma 4), .int (nI L), .int (nI u_116.1.2.2.1), .int (nI u_116.1.2.1), .long (u_116.1.2.2.2.1), .int (u_116.1.2.2.2.2), .int (u_116.2)]), (ma 4, iE cB 120 (bt f))] := hD
      have hu_116 : TakeN f L 0 5000 (1) (k9_72, s9_72, e9_72, w9_72, m9_72) r_117 u_116 := hu_116
      have hn_117 := takeN_wrong hu_116
      subst hn_117
      have hP : va_P D vwCl [(ma 1, iE cI 382 (enc g lf)), (ma 0, oE 7 [.ref (ma 1), .ref (ma 2), .int (fi 0), .ref (ma 3), .ref (ma 4), .int (nI L), .int (nI e9_72), .int (nI s9_72), .long (w9_72), .int (m9_72), .int (1)]), (ma 4, iE cB 120 (bt f))] H := hP
      have hD : va_D A [(ma 1, iE cI 382 (enc g lf)), (ma 0, oE 7 [.ref (ma 1), .ref (ma 2), .int (fi 0), .ref (ma 3), .ref (ma 4), .int (nI L), .int (nI e9_72), .int (nI s9_72), .long (w9_72), .int (m9_72), .int (1)]), (ma 4, iE cB 120 (bt f))] := hD
      refine lv_istore (lv' := [(4, .int (r_117)), (3, .int (r_114)), (2, .int (m9_72)), (1, .int (0)), (0, .ref (ma 0))]) hx hb dX7_readsStep_126 hl (by decide) rfl (fun ls hl => ?_)
      refine lv_aload_n hx hb dX7_readsStep_128 rfl (lv_at hl 4 rfl) ?_
      refine va_get (D := D) (ci := 7) (v := .int (1)) (C := RX7) (T := TX7) (N := 11) hx hb hts (by decide +kernel) hown hK.1 hP 1 rfl rfl 10 (by decide) (hts (.fieldLink RX7 102 "ParkingGarageModel" "isWrong" "Z") (by decide +kernel)) (fun _ h9 => h9) rfl dX7_readsStep_129 ?_
      refine if_ne_t (tgt := 144) hx hb (by decide) dX7_readsStep_132 (by decide) ?_
      exact wr_vret (((k9_72, s9_72, e9_72, w9_72, m9_72), 1, g)) hx hb hr hlocks hS hP hD [1, 0, 2] rfl rfl (by decide) dX7_readsStep_144 (⟨⟨e9_1, by omega, htok_72, hwd_72, hnm_72⟩, Or.inl ⟨rfl, Exists.intro k9_1 ⟨s9_1, e9_1, 0, htok_1, Or.inl ⟨hW_7_1, rfl⟩, Or.inr ⟨by decide, Or.inl ⟨rfl, Exists.intro k9_72 ⟨s9_72, e9_72, htok_72, Or.inr ⟨hno9, rfl⟩⟩⟩⟩⟩⟩⟩)
set_option maxHeartbeats 4000000 in
set_option maxRecDepth 100000 in
theorem c_X7_readsNumber (l : Launch) (D : va_G) (cI cC cB cS : ClassId) (zz : Nat) (ma : Nat → Nat) (fi : Nat → Int32) (wd : Int64) (L : Nat) (f : Nat → Int32) (g : Nat → Nat → Int32) (lf : Int32) (tk : Nat) (ts : Nat) (te : Nat) (nm : Int32) (wh : Nat) (lb : Nat) (ub : Nat) (hL : L ≤ 120) (hch : Chr f) (htk : TkOK f L (tk, ts, te, wd, nm)) (hwh : wh < 5) (hmo : (if nI wh = 0 then 200 else if nI wh = 1 then 120 else if nI wh = 2 then 60 else 99999) = nI ub) (hlu : lb < 99999 ∧ ub < 99999) : Met l yX7_readsNumber wsX7_readsNumber ({ frames := 4, cells := 0, slots := 0, locals := 89 } : Room) (wrPc D (TYS cI cC cB cS) [.ref (ma 0), .int (nI wh), .int (nI lb)] ([(ma 0, oE 7 [.ref (ma 1), .ref (ma 2), .int (fi 0), .ref (ma 3), .ref (ma 4), .int (nI L), .int (nI te), .int (nI ts), .long (wd), .int (nm), .int (0)]), (ma 1, iE cI 382 (enc g lf)), (ma 4, iE cB 120 (bt f))]) zz) (va_Qv (fun u : TKN × Int32 × (Nat → Nat → Int32) => RdR f L (fun o => PNo f L g wh lb ub te o) u.1 u.2.1 u.2.2) (wrB D (va_A ([(ma 0, oE 7 [.ref (ma 1), .ref (ma 2), .int (fi 0), .ref (ma 3), .ref (ma 4), .int (nI L), .int (nI te), .int (nI ts), .long (wd), .int (nm), .int (0)]), (ma 1, iE cI 382 (enc g lf)), (ma 4, iE cB 120 (bt f))]) zz) (fun u => [(ma 0, oE 7 [.ref (ma 1), .ref (ma 2), .int (fi 0), .ref (ma 3), .ref (ma 4), .int (nI L), .int (nI u.1.2.2.1), .int (nI u.1.2.1), .long (u.1.2.2.2.1), .int (u.1.2.2.2.2), .int (u.2.1)]), (ma 1, iE cI 382 (enc u.2.2 lf)), (ma 4, iE cB 120 (bt f))])) (va_A ([(ma 0, oE 7 [.ref (ma 1), .ref (ma 2), .int (fi 0), .ref (ma 3), .ref (ma 4), .int (nI L), .int (nI te), .int (nI ts), .long (wd), .int (nm), .int (0)]), (ma 1, iE cI 382 (enc g lf)), (ma 4, iE cB 120 (bt f))]) zz)) 0 0 (va_A ([(ma 0, oE 7 [.ref (ma 1), .ref (ma 2), .int (fi 0), .ref (ma 3), .ref (ma 4), .int (nI L), .int (nI te), .int (nI ts), .long (wd), .int (nm), .int (0)]), (ma 1, iE cI 382 (enc g lf)), (ma 4, iE cB 120 (bt f))]) zz) := by
  refine wr_intro (Qc := fun A B => va_Qv (fun u : TKN × Int32 × (Nat → Nat → Int32) => RdR f L (fun o => PNo f L g wh lb ub te o) u.1 u.2.1 u.2.2) B A) (by decide) rfl (Nat.le_of_ble_eq_true rfl) ?_
  intro p e s m below meth c A hx hb hr hml hts hown hlocks hin hP hK hD hA hS ls hl
  have hP : va_P D vwCl [(ma 0, oE 7 [.ref (ma 1), .ref (ma 2), .int (fi 0), .ref (ma 3), .ref (ma 4), .int (nI L), .int (nI te), .int (nI ts), .long (wd), .int (nm), .int (0)]), (ma 1, iE cI 382 (enc g lf)), (ma 4, iE cB 120 (bt f))] s.heap := hP
  have hD : va_D A [(ma 0, oE 7 [.ref (ma 1), .ref (ma 2), .int (fi 0), .ref (ma 3), .ref (ma 4), .int (nI L), .int (nI te), .int (nI ts), .long (wd), .int (nm), .int (0)]), (ma 1, iE cI 382 (enc g lf)), (ma 4, iE cB 120 (bt f))] := hD
  have hown : s.vm.findClass RX7 = some m.cls := hown
  have hl : lv_has ls 4 [(0, .ref (ma 0)), (1, .int (nI wh)), (2, .int (nI lb))] := hl
  have hte9 := htk.le
  have hteL : te ≤ L := hte9.2.2
  refine lv_aload_n hx hb dX7_readsNumber_0 rfl (lv_at hl 0 rfl) ?_
  refine cv_wv (As := []) (rest := []) (tys := TYS cI cC cB cS) (ci := 7) (wr := [(ma 1, iE cI 382 (enc g lf))]) ⟨hx, hb, hml, hown, hts⟩ (c_X7_goes l D cI cC cB cS _ (ma) (fi) (wd) (L) (f) (te) (nI ts) (nm) (0) (hL) (hch) (by omega)) (cwV 0 hts gX7_readsNumber_X7_goes rfl rfl rfl (by decide +kernel) ⟨Nat.le_of_ble_eq_true rfl, Nat.le_of_ble_eq_true rfl⟩) hK hP hD hS hA [0, 2] [1] rfl rfl (by decide) (by decide) (by decide) rfl rfl rfl rfl hl.1 (Nat.le_of_ble_eq_true rfl) dX7_readsNumber_1 ⟨Nat.le_of_ble_eq_true rfl, Nat.le_of_ble_eq_true rfl⟩ (fun u_1 H locs hu_1 hP hD hS => ?_)
  have hP : va_P D vwCl [(ma 1, iE cI 382 (enc g lf)), (ma 0, oE 7 [.ref (ma 1), .ref (ma 2), .int (fi 0), .ref (ma 3), .ref (ma 4), .int (nI L), .int (nI u_1.2.2.1), .int (nI u_1.2.1), .long (u_1.2.2.2.1), .int (u_1.2.2.2.2), .int (0)]), (ma 4, iE cB 120 (bt f))] H := hP
  have hD : va_D A [(ma 1, iE cI 382 (enc g lf)), (ma 0, oE 7 [.ref (ma 1), .ref (ma 2), .int (fi 0), .ref (ma 3), .ref (ma 4), .int (nI L), .int (nI u_1.2.2.1), .int (nI u_1.2.1), .long (u_1.2.2.2.1), .int (u_1.2.2.2.2), .int (0)]), (ma 4, iE cB 120 (bt f))] := hD
  have hu_1 : GoT f L te u_1 := hu_1
  obtain ⟨k9_1, s9_1, e9_1, w9_1, m9_1⟩ := u_1
  have htok_1 : Tok f L te k9_1 s9_1 e9_1 := hu_1.1
  have hwd_1 : WdOf f k9_1 s9_1 e9_1 w9_1 := hu_1.2.1
  have hnm_1 : NmOf f k9_1 s9_1 e9_1 m9_1 := hu_1.2.2
  have hle_1 := htok_1.le (by omega)
  have heL_1 : e9_1 ≤ L := hle_1.2.2.1
  have hP : va_P D vwCl [(ma 1, iE cI 382 (enc g lf)), (ma 0, oE 7 [.ref (ma 1), .ref (ma 2), .int (fi 0), .ref (ma 3), .ref (ma 4), .int (nI L), .int (nI e9_1), .int (nI s9_1), .long (w9_1), .int (m9_1), .int (0)]), (ma 4, iE cB 120 (bt f))] H := hP
  have hD : va_D A [(ma 1, iE cI 382 (enc g lf)), (ma 0, oE 7 [.ref (ma 1), .ref (ma 2), .int (fi 0), .ref (ma 3), .ref (ma 4), .int (nI L), .int (nI e9_1), .int (nI s9_1), .long (w9_1), .int (m9_1), .int (0)]), (ma 4, iE cB 120 (bt f))] := hD
  refine lv_aload_n hx hb dX7_readsNumber_4 rfl (lv_at hl 0 rfl) ?_
  refine lv_iload_n hx hb dX7_readsNumber_5 rfl (lv_at hl 2 rfl) ?_
  refine lv_iload_n hx hb dX7_readsNumber_6 rfl (lv_at hl 1 rfl) ?_
  refine cs_i (As := [.int (nI wh)]) (rest := [.int (nI lb), .ref (ma 0)]) (tys := TYS cI cC cB cS) ⟨hx, hb, hml, hown, hts⟩ (c_X7_most l D cI cC cB cS (nI wh)) (va_cwS 1 hts gX7_readsNumber_X7_most rfl rfl rfl (by decide +kernel) ⟨Nat.le_of_ble_eq_true rfl, Nat.le_of_ble_eq_true rfl⟩) hK hP [] rfl rfl rfl hl.1 (Nat.le_of_ble_eq_true rfl) dX7_readsNumber_7 ⟨Nat.le_of_ble_eq_true rfl, Nat.le_of_ble_eq_true rfl⟩ (fun r_3 hr_3 => ?_)
  have hr_3 : r_3 = if nI wh = 0 then 200 else if nI wh = 1 then 120 else if nI wh = 2 then 60 else 99999 := hr_3
  subst hr_3
  rw [show ((if nI wh = 0 then 200 else if nI wh = 1 then 120 else if nI wh = 2 then 60 else 99999) : Int32) = nI ub from hmo]
  refine cv_wi (As := [.int (nI lb), .int (nI ub)]) (rest := []) (tys := TYS cI cC cB cS) (ci := 7) (wr := [(ma 1, iE cI 382 (enc g lf))]) ⟨hx, hb, hml, hown, hts⟩ (c_X7_takesNumber l D cI cC cB cS _ (ma) (fi) (w9_1) (L) (f) (k9_1) (s9_1) (e9_1) (m9_1) (0) (lb) (ub) (hL) (hch) (by omega) ((Or.inl rfl))) (cwV 2 hts gX7_readsNumber_X7_takesNumber rfl rfl rfl (by decide +kernel) ⟨Nat.le_of_ble_eq_true rfl, Nat.le_of_ble_eq_true rfl⟩) hK hP hD hS hA [1, 2] [0] rfl rfl (by decide) (by decide) (by decide) rfl rfl rfl rfl hl.1 (Nat.le_of_ble_eq_true rfl) dX7_readsNumber_10 ⟨Nat.le_of_ble_eq_true rfl, Nat.le_of_ble_eq_true rfl⟩ (fun r_5 u_4 H locs hu_4 hP hD hS => ?_)
  have hP : va_P D vwCl [(ma 1, iE cI 382 (enc g lf)), (ma 0, oE 7 [.ref (ma 1), .ref (ma 2), .int (fi 0), .ref (ma 3), .ref (ma 4), .int (nI L), .int (nI u_4.1.2.2.1), .int (nI u_4.1.2.1), .long (u_4.1.2.2.2.1), .int (u_4.1.2.2.2.2), .int (u_4.2)]), (ma 4, iE cB 120 (bt f))] H := hP
  have hD : va_D A [(ma 1, iE cI 382 (enc g lf)), (ma 0, oE 7 [.ref (ma 1), .ref (ma 2), .int (fi 0), .ref (ma 3), .ref (ma 4), .int (nI L), .int (nI u_4.1.2.2.1), .int (nI u_4.1.2.1), .long (u_4.1.2.2.2.1), .int (u_4.1.2.2.2.2), .int (u_4.2)]), (ma 4, iE cB 120 (bt f))] := hD
  have hu_4 : TakeN f L lb ub (0) (k9_1, s9_1, e9_1, w9_1, m9_1) r_5 u_4 := hu_4
  rcases takeN_cases hu_4 hnm_1 (by omega) (by omega) with ⟨⟨vv, hvv, hr_5⟩, hz_5, hg_5⟩ | ⟨hno_5, hn_5⟩
  · -- a number
    obtain ⟨⟨k9_5, s9_5, e9_5, w9_5, m9_5⟩, z9_5⟩ := u_4
    have hz_5 : z9_5 = 0 := hz_5
    subst hz_5
    have hvv : NumIn f k9_1 s9_1 e9_1 lb ub vv := hvv
    rw [show r_5 = nI vv from hr_5]
    have htok_5 : Tok f L e9_1 k9_5 s9_5 e9_5 := hg_5.1
    have hwd_5 : WdOf f k9_5 s9_5 e9_5 w9_5 := hg_5.2.1
    have hnm_5 : NmOf f k9_5 s9_5 e9_5 m9_5 := hg_5.2.2
    have hle_5 := htok_5.le (by omega)
    have heL_5 : e9_5 ≤ L := hle_5.2.2.1
    have hP : va_P D vwCl [(ma 1, iE cI 382 (enc g lf)), (ma 0, oE 7 [.ref (ma 1), .ref (ma 2), .int (fi 0), .ref (ma 3), .ref (ma 4), .int (nI L), .int (nI e9_5), .int (nI s9_5), .long (w9_5), .int (m9_5), .int (0)]), (ma 4, iE cB 120 (bt f))] H := hP
    have hD : va_D A [(ma 1, iE cI 382 (enc g lf)), (ma 0, oE 7 [.ref (ma 1), .ref (ma 2), .int (fi 0), .ref (ma 3), .ref (ma 4), .int (nI L), .int (nI e9_5), .int (nI s9_5), .long (w9_5), .int (m9_5), .int (0)]), (ma 4, iE cB 120 (bt f))] := hD
    refine lv_istore_n (lv' := [(3, .int (nI vv)), (0, .ref (ma 0)), (1, .int (nI wh)), (2, .int (nI lb))]) hx hb dX7_readsNumber_13 rfl hl (by decide) rfl (fun ls hl => ?_)
    refine lv_aload_n hx hb dX7_readsNumber_14 rfl (lv_at hl 1 rfl) ?_
    refine va_get (D := D) (ci := 7) (v := .ref (ma 1)) (C := RX7) (T := TX7) (N := 11) hx hb hts (by decide +kernel) hown hK.1 hP 1 rfl rfl 0 (by decide) (hts (.fieldLink RX7 7 "ParkingGarageModel" "s" "[I") (by decide +kernel)) (fun _ h9 => h9) rfl dX7_readsNumber_15 ?_
    refine lv_iconst (v := 5) hx hb dX7_readsNumber_18 (by decide) ?_
    refine lv_iload_n hx hb dX7_readsNumber_19 rfl (lv_at hl 2 rfl) ?_
    refine lv_iadd hx hb dX7_readsNumber_20 ?_
    rw [show (((5) + (nI wh)) : Int32) = nI (5 + wh) from (nI_add 5 wh)]
    refine lv_aload_n hx hb dX7_readsNumber_21 rfl (lv_at hl 1 rfl) ?_
    refine va_get (D := D) (ci := 7) (v := .int (0)) (C := RX7) (T := TX7) (N := 11) hx hb hts (by decide +kernel) hown hK.1 hP 1 rfl rfl 10 (by decide) (hts (.fieldLink RX7 102 "ParkingGarageModel" "isWrong" "Z") (by decide +kernel)) (fun _ h9 => h9) rfl dX7_readsNumber_22 ?_
    refine if_eq_t (tgt := 39) hx hb rfl dX7_readsNumber_25 (by decide) ?_
    refine lv_iload_n hx hb dX7_readsNumber_39 rfl (lv_at hl 0 rfl) ?_
    refine iast_n (f := enc g lf) hx hb hK.1 hP hD hS 0 0 rfl rfl (5 + wh) (rfl) (by omega) (by omega) dX7_readsNumber_40 (fun H locs hP hD hS => ?_)
    rw [enc_up 1 wh (by omega) (posR_num (by omega))] at hP hD
    have hP : va_P D vwCl [(ma 1, iE cI 382 (enc (w2 g 1 (upd (g 1) wh (nI vv))) lf)), (ma 0, oE 7 [.ref (ma 1), .ref (ma 2), .int (fi 0), .ref (ma 3), .ref (ma 4), .int (nI L), .int (nI e9_5), .int (nI s9_5), .long (w9_5), .int (m9_5), .int (0)]), (ma 4, iE cB 120 (bt f))] H := hP
    have hD : va_D A [(ma 1, iE cI 382 (enc (w2 g 1 (upd (g 1) wh (nI vv))) lf)), (ma 0, oE 7 [.ref (ma 1), .ref (ma 2), .int (fi 0), .ref (ma 3), .ref (ma 4), .int (nI L), .int (nI e9_5), .int (nI s9_5), .long (w9_5), .int (m9_5), .int (0)]), (ma 4, iE cB 120 (bt f))] := hD
    exact wr_vret (((k9_5, s9_5, e9_5, w9_5, m9_5), 0, (w2 g 1 (upd (g 1) wh (nI vv))))) hx hb hr hlocks hS hP hD [1, 0, 2] rfl rfl (by decide) dX7_readsNumber_41 (⟨⟨e9_1, by omega, htok_5, hwd_5, hnm_5⟩, Or.inr ⟨rfl, fun o ho => Exists.intro k9_1 ⟨s9_1, e9_1, htok_1, Or.inl ⟨⟨vv, hvv⟩, vv, hvv, Exists.intro k9_5 ⟨s9_5, e9_5, htok_5, ho⟩⟩⟩⟩⟩)
  · -- none
    subst hn_5
    have hno_5 : ¬ ∃ v, NumIn f k9_1 s9_1 e9_1 lb ub v := hno_5
    have hP : va_P D vwCl [(ma 1, iE cI 382 (enc g lf)), (ma 0, oE 7 [.ref (ma 1), .ref (ma 2), .int (fi 0), .ref (ma 3), .ref (ma 4), .int (nI L), .int (nI e9_1), .int (nI s9_1), .long (w9_1), .int (m9_1), .int (1)]), (ma 4, iE cB 120 (bt f))] H := hP
    have hD : va_D A [(ma 1, iE cI 382 (enc g lf)), (ma 0, oE 7 [.ref (ma 1), .ref (ma 2), .int (fi 0), .ref (ma 3), .ref (ma 4), .int (nI L), .int (nI e9_1), .int (nI s9_1), .long (w9_1), .int (m9_1), .int (1)]), (ma 4, iE cB 120 (bt f))] := hD
    refine lv_istore_n (lv' := [(3, .int (r_5)), (0, .ref (ma 0)), (1, .int (nI wh)), (2, .int (nI lb))]) hx hb dX7_readsNumber_13 rfl hl (by decide) rfl (fun ls hl => ?_)
    refine lv_aload_n hx hb dX7_readsNumber_14 rfl (lv_at hl 1 rfl) ?_
    refine va_get (D := D) (ci := 7) (v := .ref (ma 1)) (C := RX7) (T := TX7) (N := 11) hx hb hts (by decide +kernel) hown hK.1 hP 1 rfl rfl 0 (by decide) (hts (.fieldLink RX7 7 "ParkingGarageModel" "s" "[I") (by decide +kernel)) (fun _ h9 => h9) rfl dX7_readsNumber_15 ?_
    refine lv_iconst (v := 5) hx hb dX7_readsNumber_18 (by decide) ?_
    refine lv_iload_n hx hb dX7_readsNumber_19 rfl (lv_at hl 2 rfl) ?_
    refine lv_iadd hx hb dX7_readsNumber_20 ?_
    rw [show (((5) + (nI wh)) : Int32) = nI (5 + wh) from (nI_add 5 wh)]
    refine lv_aload_n hx hb dX7_readsNumber_21 rfl (lv_at hl 1 rfl) ?_
    refine va_get (D := D) (ci := 7) (v := .int (1)) (C := RX7) (T := TX7) (N := 11) hx hb hts (by decide +kernel) hown hK.1 hP 1 rfl rfl 10 (by decide) (hts (.fieldLink RX7 102 "ParkingGarageModel" "isWrong" "Z") (by decide +kernel)) (fun _ h9 => h9) rfl dX7_readsNumber_22 ?_
    refine if_eq_f (tgt := 39) hx hb (by decide) dX7_readsNumber_25 (by decide) ?_
    refine lv_aload_n hx hb dX7_readsNumber_28 rfl (lv_at hl 1 rfl) ?_
    refine va_get (D := D) (ci := 7) (v := .ref (ma 1)) (C := RX7) (T := TX7) (N := 11) hx hb hts (by decide +kernel) hown hK.1 hP 1 rfl rfl 0 (by decide) (hts (.fieldLink RX7 7 "ParkingGarageModel" "s" "[I") (by decide +kernel)) (fun _ h9 => h9) rfl dX7_readsNumber_29 ?_
    refine lv_iconst (v := 5) hx hb dX7_readsNumber_32 (by decide) ?_
    refine lv_iload_n hx hb dX7_readsNumber_33 rfl (lv_at hl 2 rfl) ?_
    refine lv_iadd hx hb dX7_readsNumber_34 ?_
    rw [show (((5) + (nI wh)) : Int32) = nI (5 + wh) from (nI_add 5 wh)]
    refine iald_n (f := enc g lf) hx hb hK.1 hP 0 0 rfl rfl (5 + wh) (rfl) (by omega) (by omega) dX7_readsNumber_35 ?_
    rw [show enc g lf (5 + wh) = g 1 wh from enc_at (by omega) (posR_num (by omega))]
    refine lv_goto (tgt := 40) hx hb dX7_readsNumber_36 (by decide) ?_
    refine iast_n (f := enc g lf) hx hb hK.1 hP hD hS 0 0 rfl rfl (5 + wh) (rfl) (by omega) (by omega) dX7_readsNumber_40 (fun H locs hP hD hS => ?_)
    rw [enc_up 1 wh (by omega) (posR_num (by omega))] at hP hD
    have hP : va_P D vwCl [(ma 1, iE cI 382 (enc (w2 g 1 (upd (g 1) wh (g 1 wh))) lf)), (ma 0, oE 7 [.ref (ma 1), .ref (ma 2), .int (fi 0), .ref (ma 3), .ref (ma 4), .int (nI L), .int (nI e9_1), .int (nI s9_1), .long (w9_1), .int (m9_1), .int (1)]), (ma 4, iE cB 120 (bt f))] H := hP
    have hD : va_D A [(ma 1, iE cI 382 (enc (w2 g 1 (upd (g 1) wh (g 1 wh))) lf)), (ma 0, oE 7 [.ref (ma 1), .ref (ma 2), .int (fi 0), .ref (ma 3), .ref (ma 4), .int (nI L), .int (nI e9_1), .int (nI s9_1), .long (w9_1), .int (m9_1), .int (1)]), (ma 4, iE cB 120 (bt f))] := hD
    exact wr_vret (((k9_1, s9_1, e9_1, w9_1, m9_1), 1, (w2 g 1 (upd (g 1) wh (g 1 wh))))) hx hb hr hlocks hS hP hD [1, 0, 2] rfl rfl (by decide) dX7_readsNumber_41 (⟨⟨te, by omega, htok_1, hwd_1, hnm_1⟩, Or.inl ⟨rfl, Exists.intro k9_1 ⟨s9_1, e9_1, htok_1, Or.inr ⟨hno_5, rfl⟩⟩⟩⟩)
