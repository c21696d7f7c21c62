/-! ===== the reference: calls that write (laid by wip/whole/gen) ===== -/
set_option maxHeartbeats 4000000 in
set_option maxRecDepth 100000 in
theorem c_X7_addBay (l : Launch) (D : va_G) (cI cC cB cS : ClassId) (zz : Nat) (ma : Nat → Nat) (fi : Nat → Int32) (wd : Int64) (g : Nat → Nat → Int32) (lf : Int32) (np : Nat) (Pp : Nat → Int32) (hs : Nat → Nat → Nat → Int32) (lfs : Nat → Int32) (n : Nat) (lv : Int32) (ps : Int32) (sz : Int32) (hnp : np ≤ 6) (hPR : PRel Pp np hs lfs) (hn : g 3 0 = nI n) (hnb : n ≤ 30) : Met l yX7_addBay wsX7_addBay ({ frames := 2, cells := 0, slots := 0, locals := 47 } : Room) (wrPc D (TYS cI cC cB cS) [.ref (ma 0), .int (lv), .int (ps), .int (sz)] ([(ma 0, oE 7 [.ref (ma 1), .ref (ma 2), .int (nI np), .ref (ma 3), .ref (ma 4), .int (fi 1), .int (fi 2), .int (fi 3), .long (wd), .int (fi 4), .int (fi 5)]), (ma 1, iE cI 382 (enc g lf)), (ma 2, iE cI 2292 (Pp))]) zz) (va_Qi (fun (r : Int32) (u : MWT) => ∃ o2, OaddBay g n lv ps sz r o2 ∧ SvM g lf (lf) np hs lfs Pp o2 u) (wrB D (va_A ([(ma 0, oE 7 [.ref (ma 1), .ref (ma 2), .int (nI np), .ref (ma 3), .ref (ma 4), .int (fi 1), .int (fi 2), .int (fi 3), .long (wd), .int (fi 4), .int (fi 5)]), (ma 1, iE cI 382 (enc g lf)), (ma 2, iE cI 2292 (Pp))]) zz) (fun u => [(ma 0, oE 7 [.ref (ma 1), .ref (ma 2), .int (nI u.2.2.1), .ref (ma 3), .ref (ma 4), .int (fi 1), .int (fi 2), .int (fi 3), .long (wd), .int (fi 4), .int (fi 5)]), (ma 1, iE cI 382 (enc u.1 u.2.1)), (ma 2, iE cI 2292 (u.2.2.2.2.2))])) (va_A ([(ma 0, oE 7 [.ref (ma 1), .ref (ma 2), .int (nI np), .ref (ma 3), .ref (ma 4), .int (fi 1), .int (fi 2), .int (fi 3), .long (wd), .int (fi 4), .int (fi 5)]), (ma 1, iE cI 382 (enc g lf)), (ma 2, iE cI 2292 (Pp))]) zz)) 0 0 (va_A ([(ma 0, oE 7 [.ref (ma 1), .ref (ma 2), .int (nI np), .ref (ma 3), .ref (ma 4), .int (fi 1), .int (fi 2), .int (fi 3), .long (wd), .int (fi 4), .int (fi 5)]), (ma 1, iE cI 382 (enc g lf)), (ma 2, iE cI 2292 (Pp))]) zz) := by
  refine wr_intro (Qc := fun A B => va_Qi (fun (r : Int32) (u : MWT) => ∃ o2, OaddBay g n lv ps sz r o2 ∧ SvM g lf (lf) np hs lfs Pp o2 u) B A) (by decide) rfl (Nat.le_of_ble_eq_true rfl) ?_
  intro p e s m below meth c A hx hb hr hml hts hown hlocks hin hP hK hD hA hS ls hl
  have hP : va_P D vwCl [(ma 0, oE 7 [.ref (ma 1), .ref (ma 2), .int (nI np), .ref (ma 3), .ref (ma 4), .int (fi 1), .int (fi 2), .int (fi 3), .long (wd), .int (fi 4), .int (fi 5)]), (ma 1, iE cI 382 (enc g lf)), (ma 2, iE cI 2292 (Pp))] s.heap := hP
  have hD : va_D A [(ma 0, oE 7 [.ref (ma 1), .ref (ma 2), .int (nI np), .ref (ma 3), .ref (ma 4), .int (fi 1), .int (fi 2), .int (fi 3), .long (wd), .int (fi 4), .int (fi 5)]), (ma 1, iE cI 382 (enc g lf)), (ma 2, iE cI 2292 (Pp))] := hD
  have hown : s.vm.findClass RX7 = some m.cls := hown
  have hl : lv_has ls 4 [(0, .ref (ma 0)), (1, .int (lv)), (2, .int (ps)), (3, .int (sz))] := hl
  refine lv_iload_n hx hb dX7_addBay_0 rfl (lv_at hl 1 rfl) ?_
  refine lv_iconst (v := 0) hx hb dX7_addBay_1 (by decide) ?_
  refine lv_iconst (v := 4) hx hb dX7_addBay_2 (by decide) ?_
  refine cs_i (As := [.int (lv), .int (0), .int (4)]) (rest := []) (tys := TYS cI cC cB cS) ⟨hx, hb, hml, hown, hts⟩ (c_X7_in l D cI cC cB cS (lv) (0) (4)) (va_cwS 3 hts gX7_addBay_X7_in rfl rfl rfl (by decide +kernel) ⟨Nat.le_of_ble_eq_true rfl, Nat.le_of_ble_eq_true rfl⟩) hK hP [] rfl rfl rfl hl.1 (Nat.le_of_ble_eq_true rfl) dX7_addBay_3 ⟨Nat.le_of_ble_eq_true rfl, Nat.le_of_ble_eq_true rfl⟩ (fun r_1 hr_1 => ?_)
  rcases (show Yes (0 ≤ lv ∧ lv ≤ 4) r_1 from hr_1) with ⟨rfl, h_2⟩ | ⟨rfl, h_2⟩
  · -- X7_in t
    refine if_eq_f (tgt := 28) hx hb (by decide) dX7_addBay_6 (by decide) ?_
    refine lv_iload_n hx hb dX7_addBay_9 rfl (lv_at hl 2 rfl) ?_
    refine lv_iconst (v := 0) hx hb dX7_addBay_10 (by decide) ?_
    refine lv_bipush (v := 99) hx hb dX7_addBay_11 (by decide) ?_
    refine cs_i (As := [.int (ps), .int (0), .int (99)]) (rest := []) (tys := TYS cI cC cB cS) ⟨hx, hb, hml, hown, hts⟩ (c_X7_in l D cI cC cB cS (ps) (0) (99)) (va_cwS 3 hts gX7_addBay_X7_in rfl rfl rfl (by decide +kernel) ⟨Nat.le_of_ble_eq_true rfl, Nat.le_of_ble_eq_true rfl⟩) hK hP [] rfl rfl rfl hl.1 (Nat.le_of_ble_eq_true rfl) dX7_addBay_13 ⟨Nat.le_of_ble_eq_true rfl, Nat.le_of_ble_eq_true rfl⟩ (fun r_3 hr_3 => ?_)
    rcases (show Yes (0 ≤ ps ∧ ps ≤ 99) r_3 from hr_3) with ⟨rfl, h_4⟩ | ⟨rfl, h_4⟩
    · -- X7_in t
      refine if_eq_f (tgt := 28) hx hb (by decide) dX7_addBay_16 (by decide) ?_
      refine lv_iload_n hx hb dX7_addBay_19 rfl (lv_at hl 3 rfl) ?_
      refine lv_iconst (v := 0) hx hb dX7_addBay_20 (by decide) ?_
      refine lv_iconst (v := 2) hx hb dX7_addBay_21 (by decide) ?_
      refine cs_i (As := [.int (sz), .int (0), .int (2)]) (rest := []) (tys := TYS cI cC cB cS) ⟨hx, hb, hml, hown, hts⟩ (c_X7_in l D cI cC cB cS (sz) (0) (2)) (va_cwS 3 hts gX7_addBay_X7_in rfl rfl rfl (by decide +kernel) ⟨Nat.le_of_ble_eq_true rfl, Nat.le_of_ble_eq_true rfl⟩) hK hP [] rfl rfl rfl hl.1 (Nat.le_of_ble_eq_true rfl) dX7_addBay_22 ⟨Nat.le_of_ble_eq_true rfl, Nat.le_of_ble_eq_true rfl⟩ (fun r_5 hr_5 => ?_)
      rcases (show Yes (0 ≤ sz ∧ sz ≤ 2) r_5 from hr_5) with ⟨rfl, h_6⟩ | ⟨rfl, h_6⟩
      · -- X7_in t
        refine if_ne_t (tgt := 30) hx hb (by decide) dX7_addBay_25 (by decide) ?_
        refine lv_aload_n hx hb dX7_addBay_30 rfl (lv_at hl 0 rfl) ?_
        refine lv_iload_n hx hb dX7_addBay_31 rfl (lv_at hl 1 rfl) ?_
        refine lv_iload_n hx hb dX7_addBay_32 rfl (lv_at hl 2 rfl) ?_
        refine cv_i (As := [.int (lv), .int (ps)]) (rest := []) (tys := TYS cI cC cB cS) (ci := 7) ⟨hx, hb, hml, hown, hts⟩ (c_X7_isTaken l D cI cC cB cS (ma) ((fun j => [nI np, fi 1, fi 2, fi 3, fi 4, fi 5].getD j 0)) (wd) (g) (lf) (n) (lv) (ps) (hn) (hnb)) (cwV 2 hts gX7_addBay_X7_isTaken rfl rfl rfl (by decide +kernel) ⟨Nat.le_of_ble_eq_true rfl, Nat.le_of_ble_eq_true rfl⟩) hK hP [0, 1] rfl rfl rfl rfl rfl hl.1 (Nat.le_of_ble_eq_true rfl) dX7_addBay_33 ⟨Nat.le_of_ble_eq_true rfl, Nat.le_of_ble_eq_true rfl⟩ (fun r_7 hr_7 => ?_)
        rcases (show Yes (∃ w, w < n ∧ g 4 w = lv ∧ g 5 w = ps) r_7 from hr_7) with ⟨rfl, h_8⟩ | ⟨rfl, h_8⟩
        · -- X7_isTaken t
          refine if_eq_f (tgt := 42) hx hb (by decide) dX7_addBay_36 (by decide) ?_
          refine lv_bipush (v := -2) hx hb dX7_addBay_39 (by decide) ?_
          exact wr_iret (v := -2) ((g, lf, np, hs, lfs, Pp)) hx hb hr hlocks hS hP hD [0, 1, 2] rfl rfl (by decide) dX7_addBay_41 (⟨none, Or.inl ⟨⟨h_2, h_4, h_6⟩, Or.inl ⟨h_8, ⟨rfl, rfl⟩⟩⟩, Or.inl ⟨rfl, rfl⟩⟩)
        · -- X7_isTaken f
          refine if_eq_t (tgt := 42) hx hb rfl dX7_addBay_36 (by decide) ?_
          refine lv_aload_n hx hb dX7_addBay_42 rfl (lv_at hl 0 rfl) ?_
          refine va_get (D := D) (ci := 7) (v := .ref (ma 1)) (C := RX7) (T := TX7) (N := 11) hx hb hts (by decide +kernel) hown hK.1 hP 0 rfl rfl 0 (by decide) (hts (.fieldLink RX7 7 "ParkingGarageModel" "s" "[I") (by decide +kernel)) (fun _ h9 => h9) rfl dX7_addBay_43 ?_
          refine lv_iconst (v := 1) hx hb dX7_addBay_46 (by decide) ?_
          refine iald_n (f := enc g lf) hx hb hK.1 hP 1 0 rfl rfl (1) (rfl) (by decide) (by omega) dX7_addBay_47 ?_
          rw [show enc g lf (1) = nI n from hn]
          refine lv_bipush (v := 30) hx hb dX7_addBay_48 (by decide) ?_
          refine lv_icmp_ne (tgt := 56) hx hb dX7_addBay_50 (by decide) (fun c_9 => ?_) (fun c_9 => ?_)
          · -- c_9: nI n ≠ 30
            have hnf : n < 30 := Nat.lt_of_le_of_ne hnb (fun q => c_9 (by rw [q]; rfl))
            refine lv_aload_n hx hb dX7_addBay_56 rfl (lv_at hl 0 rfl) ?_
            refine cv_wv (As := []) (rest := []) (tys := TYS cI cC cB cS) (ci := 7) (wr := []) ⟨hx, hb, hml, hown, hts⟩ (c_X7_notes l D cI cC cB cS _ (ma) ((fun j => [nI np, fi 1, fi 2, fi 3, fi 4, fi 5].getD j 0)) (wd) (g) (lf) (np) (Pp) (hs) (lfs) (hnp) (hPR)) (cwV 0 hts gX7_addBay_X7_notes rfl rfl rfl (by decide +kernel) ⟨Nat.le_of_ble_eq_true rfl, Nat.le_of_ble_eq_true rfl⟩) hK hP hD hS hA [0, 1, 2] [] rfl rfl (by decide) (by decide) (by decide) rfl rfl rfl rfl hl.1 (Nat.le_of_ble_eq_true rfl) dX7_addBay_57 ⟨Nat.le_of_ble_eq_true rfl, Nat.le_of_ble_eq_true rfl⟩ (fun u_10 H locs hu_10 hP hD hS => ?_)
            have hP : va_P D vwCl [(ma 0, oE 7 [.ref (ma 1), .ref (ma 2), .int (nI u_10.1), .ref (ma 3), .ref (ma 4), .int (fi 1), .int (fi 2), .int (fi 3), .long (wd), .int (fi 4), .int (fi 5)]), (ma 1, iE cI 382 (enc g lf)), (ma 2, iE cI 2292 (u_10.2.2.2))] H := hP
            have hD : va_D A [(ma 0, oE 7 [.ref (ma 1), .ref (ma 2), .int (nI u_10.1), .ref (ma 3), .ref (ma 4), .int (fi 1), .int (fi 2), .int (fi 3), .long (wd), .int (fi 4), .int (fi 5)]), (ma 1, iE cI 382 (enc g lf)), (ma 2, iE cI 2292 (u_10.2.2.2))] := hD
            have hu_10 : Sv np hs lfs g lf u_10.1 u_10.2.1 u_10.2.2.1 ∧ PRel u_10.2.2.2 u_10.1 u_10.2.1 u_10.2.2.1 := hu_10
            refine lv_aload_n hx hb dX7_addBay_60 rfl (lv_at hl 0 rfl) ?_
            refine lv_iload_n hx hb dX7_addBay_61 rfl (lv_at hl 1 rfl) ?_
            refine lv_iload_n hx hb dX7_addBay_62 rfl (lv_at hl 2 rfl) ?_
            refine lv_iload_n hx hb dX7_addBay_63 rfl (lv_at hl 3 rfl) ?_
            refine cv_wi (As := [.int (lv), .int (ps), .int (sz)]) (rest := []) (tys := TYS cI cC cB cS) (ci := 7) (wr := [(ma 2, iE cI 2292 (u_10.2.2.2))]) ⟨hx, hb, hml, hown, hts⟩ (c_X7_makes l D cI cC cB cS _ (ma) ((fun j => [nI u_10.1, fi 1, fi 2, fi 3, fi 4, fi 5].getD j 0)) (wd) (g) (lf) (n) (lv) (ps) (sz) (hn) (hnf)) (cwV 3 hts gX7_addBay_X7_makes rfl rfl rfl (by decide +kernel) ⟨Nat.le_of_ble_eq_true rfl, Nat.le_of_ble_eq_true rfl⟩) hK hP hD hS hA [0, 1] [2] rfl rfl (by decide) (by decide) (by decide) rfl rfl rfl rfl hl.1 (Nat.le_of_ble_eq_true rfl) dX7_addBay_64 ⟨Nat.le_of_ble_eq_true rfl, Nat.le_of_ble_eq_true rfl⟩ (fun r_12 u_11 H locs hu_11 hP hD hS => ?_)
            have hP : va_P D vwCl [(ma 2, iE cI 2292 (u_10.2.2.2)), (ma 0, oE 7 [.ref (ma 1), .ref (ma 2), .int (nI u_10.1), .ref (ma 3), .ref (ma 4), .int (fi 1), .int (fi 2), .int (fi 3), .long (wd), .int (fi 4), .int (fi 5)]), (ma 1, iE cI 382 (enc (gAdd g n (lv) (ps) (sz)) lf))] H := hP
            have hD : va_D A [(ma 2, iE cI 2292 (u_10.2.2.2)), (ma 0, oE 7 [.ref (ma 1), .ref (ma 2), .int (nI u_10.1), .ref (ma 3), .ref (ma 4), .int (fi 1), .int (fi 2), .int (fi 3), .long (wd), .int (fi 4), .int (fi 5)]), (ma 1, iE cI 382 (enc (gAdd g n (lv) (ps) (sz)) lf))] := hD
            have hu_11 : r_12 = nI n := hu_11
            exact wr_iret (v := r_12) ((gAdd g n lv ps sz, lf, u_10.1, u_10.2.1, u_10.2.2.1, u_10.2.2.2)) hx hb hr hlocks hS hP hD [1, 2, 0] rfl rfl (by decide) dX7_addBay_67 (⟨some (gAdd g n lv ps sz), Or.inl ⟨⟨h_2, h_4, h_6⟩, Or.inr ⟨h_8, Or.inr ⟨by omega, hu_11, rfl⟩⟩⟩, Or.inr ⟨_, rfl, rfl, rfl, hu_10.1, hu_10.2⟩⟩)
          · -- c_9: not nI n ≠ 30
            refine lv_bipush (v := -3) hx hb dX7_addBay_53 (by decide) ?_
            exact wr_iret (v := -3) ((g, lf, np, hs, lfs, Pp)) hx hb hr hlocks hS hP hD [0, 1, 2] rfl rfl (by decide) dX7_addBay_55 (⟨none, Or.inl ⟨⟨h_2, h_4, h_6⟩, Or.inr ⟨h_8, Or.inl ⟨(nI_eq (a := n) (b := 30) (by omega) (by omega)).mp c_9, ⟨rfl, rfl⟩⟩⟩⟩, Or.inl ⟨rfl, rfl⟩⟩)
      · -- X7_in f
        refine if_ne_f (tgt := 30) hx hb rfl dX7_addBay_25 (by decide) ?_
        refine lv_iconst (v := -1) hx hb dX7_addBay_28 (by decide) ?_
        exact wr_iret (v := -1) ((g, lf, np, hs, lfs, Pp)) hx hb hr hlocks hS hP hD [0, 1, 2] rfl rfl (by decide) dX7_addBay_29 (⟨none, Or.inr ⟨fun q => h_6 q.2.2, rfl, rfl⟩, Or.inl ⟨rfl, rfl⟩⟩)
    · -- X7_in f
      refine if_eq_t (tgt := 28) hx hb rfl dX7_addBay_16 (by decide) ?_
      refine lv_iconst (v := -1) hx hb dX7_addBay_28 (by decide) ?_
      exact wr_iret (v := -1) ((g, lf, np, hs, lfs, Pp)) hx hb hr hlocks hS hP hD [0, 1, 2] rfl rfl (by decide) dX7_addBay_29 (⟨none, Or.inr ⟨fun q => h_4 q.2.1, rfl, rfl⟩, Or.inl ⟨rfl, rfl⟩⟩)
  · -- X7_in f
    refine if_eq_t (tgt := 28) hx hb rfl dX7_addBay_6 (by decide) ?_
    refine lv_iconst (v := -1) hx hb dX7_addBay_28 (by decide) ?_
    exact wr_iret (v := -1) ((g, lf, np, hs, lfs, Pp)) hx hb hr hlocks hS hP hD [0, 1, 2] rfl rfl (by decide) dX7_addBay_29 (⟨none, Or.inr ⟨fun q => h_2 q.1, rfl, rfl⟩, Or.inl ⟨rfl, rfl⟩⟩)
set_option maxHeartbeats 4000000 in
set_option maxRecDepth 100000 in
theorem c_X7_setBay (l : Launch) (D : va_G) (cI cC cB cS : ClassId) (zz : Nat) (ma : Nat → Nat) (fi : Nat → Int32) (wd : Int64) (g : Nat → Nat → Int32) (lf : Int32) (np : Nat) (Pp : Nat → Int32) (hs : Nat → Nat → Nat → Int32) (lfs : Nat → Int32) (n : Nat) (x : Int32) (on : Int32) (hnp : np ≤ 6) (hPR : PRel Pp np hs lfs) (hn : g 3 0 = nI n) (hnb : n ≤ 30) : Met l yX7_setBay wsX7_setBay ({ frames := 2, cells := 0, slots := 0, locals := 43 } : Room) (wrPc D (TYS cI cC cB cS) [.ref (ma 0), .int (x), .int (on)] ([(ma 0, oE 7 [.ref (ma 1), .ref (ma 2), .int (nI np), .ref (ma 3), .ref (ma 4), .int (fi 1), .int (fi 2), .int (fi 3), .long (wd), .int (fi 4), .int (fi 5)]), (ma 1, iE cI 382 (enc g lf)), (ma 2, iE cI 2292 (Pp))]) zz) (va_Qi (fun (r : Int32) (u : MWT) => ∃ o2, OsetBay g n x on r o2 ∧ SvM g lf (lf) np hs lfs Pp o2 u) (wrB D (va_A ([(ma 0, oE 7 [.ref (ma 1), .ref (ma 2), .int (nI np), .ref (ma 3), .ref (ma 4), .int (fi 1), .int (fi 2), .int (fi 3), .long (wd), .int (fi 4), .int (fi 5)]), (ma 1, iE cI 382 (enc g lf)), (ma 2, iE cI 2292 (Pp))]) zz) (fun u => [(ma 0, oE 7 [.ref (ma 1), .ref (ma 2), .int (nI u.2.2.1), .ref (ma 3), .ref (ma 4), .int (fi 1), .int (fi 2), .int (fi 3), .long (wd), .int (fi 4), .int (fi 5)]), (ma 1, iE cI 382 (enc u.1 u.2.1)), (ma 2, iE cI 2292 (u.2.2.2.2.2))])) (va_A ([(ma 0, oE 7 [.ref (ma 1), .ref (ma 2), .int (nI np), .ref (ma 3), .ref (ma 4), .int (fi 1), .int (fi 2), .int (fi 3), .long (wd), .int (fi 4), .int (fi 5)]), (ma 1, iE cI 382 (enc g lf)), (ma 2, iE cI 2292 (Pp))]) zz)) 0 0 (va_A ([(ma 0, oE 7 [.ref (ma 1), .ref (ma 2), .int (nI np), .ref (ma 3), .ref (ma 4), .int (fi 1), .int (fi 2), .int (fi 3), .long (wd), .int (fi 4), .int (fi 5)]), (ma 1, iE cI 382 (enc g lf)), (ma 2, iE cI 2292 (Pp))]) zz) := by
  refine wr_intro (Qc := fun A B => va_Qi (fun (r : Int32) (u : MWT) => ∃ o2, OsetBay g n x on r o2 ∧ SvM g lf (lf) np hs lfs Pp o2 u) B A) (by decide) rfl (Nat.le_of_ble_eq_true rfl) ?_
  intro p e s m below meth c A hx hb hr hml hts hown hlocks hin hP hK hD hA hS ls hl
  have hP : va_P D vwCl [(ma 0, oE 7 [.ref (ma 1), .ref (ma 2), .int (nI np), .ref (ma 3), .ref (ma 4), .int (fi 1), .int (fi 2), .int (fi 3), .long (wd), .int (fi 4), .int (fi 5)]), (ma 1, iE cI 382 (enc g lf)), (ma 2, iE cI 2292 (Pp))] s.heap := hP
  have hD : va_D A [(ma 0, oE 7 [.ref (ma 1), .ref (ma 2), .int (nI np), .ref (ma 3), .ref (ma 4), .int (fi 1), .int (fi 2), .int (fi 3), .long (wd), .int (fi 4), .int (fi 5)]), (ma 1, iE cI 382 (enc g lf)), (ma 2, iE cI 2292 (Pp))] := hD
  have hown : s.vm.findClass RX7 = some m.cls := hown
  have hl : lv_has ls 4 [(0, .ref (ma 0)), (1, .int (x)), (2, .int (on))] := hl
  refine lv_aload_n hx hb dX7_setBay_0 rfl (lv_at hl 0 rfl) ?_
  refine lv_iload_n hx hb dX7_setBay_1 rfl (lv_at hl 1 rfl) ?_
  refine cv_i (As := [.int (x)]) (rest := []) (tys := TYS cI cC cB cS) (ci := 7) ⟨hx, hb, hml, hown, hts⟩ (c_X7_isBay l D cI cC cB cS (ma) ((fun j => [nI np, fi 1, fi 2, fi 3, fi 4, fi 5].getD j 0)) (wd) (g) (lf) (n) (x) (hn) (hnb)) (cwV 1 hts gX7_setBay_X7_isBay rfl rfl rfl (by decide +kernel) ⟨Nat.le_of_ble_eq_true rfl, Nat.le_of_ble_eq_true rfl⟩) hK hP [0, 1] rfl rfl rfl rfl rfl hl.1 (Nat.le_of_ble_eq_true rfl) dX7_setBay_2 ⟨Nat.le_of_ble_eq_true rfl, Nat.le_of_ble_eq_true rfl⟩ (fun r_1 hr_1 => ?_)
  rcases (show Yes (∃ w, w < n ∧ x = nI w) r_1 from hr_1) with ⟨rfl, h_2⟩ | ⟨rfl, h_2⟩
  · -- X7_isBay t
    obtain ⟨k, hk, hxk⟩ := id h_2
    have hl : lv_has ls 4 [(0, .ref (ma 0)), (1, .int (nI k)), (2, .int (on))] := by rw [← hxk]; exact hl
    refine if_eq_f (tgt := 17) hx hb (by decide) dX7_setBay_5 (by decide) ?_
    refine lv_iload_n hx hb dX7_setBay_8 rfl (lv_at hl 2 rfl) ?_
    refine lv_iconst (v := 0) hx hb dX7_setBay_9 (by decide) ?_
    refine lv_iconst (v := 1) hx hb dX7_setBay_10 (by decide) ?_
    refine cs_i (As := [.int (on), .int (0), .int (1)]) (rest := []) (tys := TYS cI cC cB cS) ⟨hx, hb, hml, hown, hts⟩ (c_X7_in l D cI cC cB cS (on) (0) (1)) (va_cwS 3 hts gX7_setBay_X7_in rfl rfl rfl (by decide +kernel) ⟨Nat.le_of_ble_eq_true rfl, Nat.le_of_ble_eq_true rfl⟩) hK hP [] rfl rfl rfl hl.1 (Nat.le_of_ble_eq_true rfl) dX7_setBay_11 ⟨Nat.le_of_ble_eq_true rfl, Nat.le_of_ble_eq_true rfl⟩ (fun r_3 hr_3 => ?_)
    rcases (show Yes (0 ≤ on ∧ on ≤ 1) r_3 from hr_3) with ⟨rfl, h_4⟩ | ⟨rfl, h_4⟩
    · -- X7_in t
      refine if_ne_t (tgt := 19) hx hb (by decide) dX7_setBay_14 (by decide) ?_
      refine lv_aload_n hx hb dX7_setBay_19 rfl (lv_at hl 0 rfl) ?_
      refine cv_wv (As := []) (rest := []) (tys := TYS cI cC cB cS) (ci := 7) (wr := []) ⟨hx, hb, hml, hown, hts⟩ (c_X7_notes l D cI cC cB cS _ (ma) ((fun j => [nI np, fi 1, fi 2, fi 3, fi 4, fi 5].getD j 0)) (wd) (g) (lf) (np) (Pp) (hs) (lfs) (hnp) (hPR)) (cwV 0 hts gX7_setBay_X7_notes rfl rfl rfl (by decide +kernel) ⟨Nat.le_of_ble_eq_true rfl, Nat.le_of_ble_eq_true rfl⟩) hK hP hD hS hA [0, 1, 2] [] rfl rfl (by decide) (by decide) (by decide) rfl rfl rfl rfl hl.1 (Nat.le_of_ble_eq_true rfl) dX7_setBay_20 ⟨Nat.le_of_ble_eq_true rfl, Nat.le_of_ble_eq_true rfl⟩ (fun u_5 H locs hu_5 hP hD hS => ?_)
      have hP : va_P D vwCl [(ma 0, oE 7 [.ref (ma 1), .ref (ma 2), .int (nI u_5.1), .ref (ma 3), .ref (ma 4), .int (fi 1), .int (fi 2), .int (fi 3), .long (wd), .int (fi 4), .int (fi 5)]), (ma 1, iE cI 382 (enc g lf)), (ma 2, iE cI 2292 (u_5.2.2.2))] H := hP
      have hD : va_D A [(ma 0, oE 7 [.ref (ma 1), .ref (ma 2), .int (nI u_5.1), .ref (ma 3), .ref (ma 4), .int (fi 1), .int (fi 2), .int (fi 3), .long (wd), .int (fi 4), .int (fi 5)]), (ma 1, iE cI 382 (enc g lf)), (ma 2, iE cI 2292 (u_5.2.2.2))] := hD
      have hu_5 : Sv np hs lfs g lf u_5.1 u_5.2.1 u_5.2.2.1 ∧ PRel u_5.2.2.2 u_5.1 u_5.2.1 u_5.2.2.1 := hu_5
      refine lv_aload_n hx hb dX7_setBay_23 rfl (lv_at hl 0 rfl) ?_
      refine lv_iload_n hx hb dX7_setBay_24 rfl (lv_at hl 1 rfl) ?_
      refine lv_iconst (v := 3) hx hb dX7_setBay_25 (by decide) ?_
      refine cv_i (As := [.int (nI k), .int (3)]) (rest := []) (tys := TYS cI cC cB cS) (ci := 7) ⟨hx, hb, hml, hown, hts⟩ (c_X7_of l D cI cC cB cS (ma) ((fun j => [nI u_5.1, fi 1, fi 2, fi 3, fi 4, fi 5].getD j 0)) (wd) (g) (lf) (k) (3) (by omega) (by omega)) (cwV 2 hts gX7_setBay_X7_of rfl rfl rfl (by decide +kernel) ⟨Nat.le_of_ble_eq_true rfl, Nat.le_of_ble_eq_true rfl⟩) hK hP [0, 1] rfl rfl rfl rfl rfl hl.1 (Nat.le_of_ble_eq_true rfl) dX7_setBay_26 ⟨Nat.le_of_ble_eq_true rfl, Nat.le_of_ble_eq_true rfl⟩ (fun r_6 hr_6 => ?_)
      have hr_6 : r_6 = g 7 k := hr_6
      subst hr_6
      refine lv_istore_n (lv' := [(3, .int (g 7 k)), (0, .ref (ma 0)), (1, .int (nI k)), (2, .int (on))]) hx hb dX7_setBay_29 rfl hl (by decide) rfl (fun ls hl => ?_)
      refine lv_aload_n hx hb dX7_setBay_30 rfl (lv_at hl 1 rfl) ?_
      refine lv_iload_n hx hb dX7_setBay_31 rfl (lv_at hl 2 rfl) ?_
      refine lv_iconst (v := 3) hx hb dX7_setBay_32 (by decide) ?_
      refine lv_iload_n hx hb dX7_setBay_33 rfl (lv_at hl 3 rfl) ?_
      refine cv_wv (As := [.int (nI k), .int (3), .int (on)]) (rest := []) (tys := TYS cI cC cB cS) (ci := 7) (wr := [(ma 2, iE cI 2292 (u_5.2.2.2))]) ⟨hx, hb, hml, hown, hts⟩ (c_X7_sets l D cI cC cB cS _ (ma) ((fun j => [nI u_5.1, fi 1, fi 2, fi 3, fi 4, fi 5].getD j 0)) (wd) (g) (lf) (k) (3) (on) (by omega) (by omega)) (cwV 3 hts gX7_setBay_X7_sets rfl rfl rfl (by decide +kernel) ⟨Nat.le_of_ble_eq_true rfl, Nat.le_of_ble_eq_true rfl⟩) hK hP hD hS hA [0, 1] [2] rfl rfl (by decide) (by decide) (by decide) rfl rfl rfl rfl hl.1 (Nat.le_of_ble_eq_true rfl) dX7_setBay_34 ⟨Nat.le_of_ble_eq_true rfl, Nat.le_of_ble_eq_true rfl⟩ (fun u_7 H locs hu_7 hP hD hS => ?_)
      have hP : va_P D vwCl [(ma 2, iE cI 2292 (u_5.2.2.2)), (ma 0, oE 7 [.ref (ma 1), .ref (ma 2), .int (nI u_5.1), .ref (ma 3), .ref (ma 4), .int (fi 1), .int (fi 2), .int (fi 3), .long (wd), .int (fi 4), .int (fi 5)]), (ma 1, iE cI 382 (enc (w2 g 7 (upd (g 7) k (on))) lf))] H := hP
      have hD : va_D A [(ma 2, iE cI 2292 (u_5.2.2.2)), (ma 0, oE 7 [.ref (ma 1), .ref (ma 2), .int (nI u_5.1), .ref (ma 3), .ref (ma 4), .int (fi 1), .int (fi 2), .int (fi 3), .long (wd), .int (fi 4), .int (fi 5)]), (ma 1, iE cI 382 (enc (w2 g 7 (upd (g 7) k (on))) lf))] := hD
      have hu_7 : True := hu_7
      refine lv_iload_n hx hb dX7_setBay_37 rfl (lv_at hl 0 rfl) ?_
      exact wr_iret (v := g 7 k) ((w2 g 7 (upd (g 7) k on), lf, u_5.1, u_5.2.1, u_5.2.2.1, u_5.2.2.2)) hx hb hr hlocks hS hP hD [1, 2, 0] rfl rfl (by decide) dX7_setBay_38 (⟨some (w2 g 7 (upd (g 7) k on)), Or.inl ⟨⟨h_2, h_4⟩, k, hk, hxk, rfl, rfl⟩, Or.inr ⟨_, rfl, rfl, rfl, hu_5.1, hu_5.2⟩⟩)
    · -- X7_in f
      refine if_ne_f (tgt := 19) hx hb rfl dX7_setBay_14 (by decide) ?_
      refine lv_iconst (v := -1) hx hb dX7_setBay_17 (by decide) ?_
      exact wr_iret (v := -1) ((g, lf, np, hs, lfs, Pp)) hx hb hr hlocks hS hP hD [0, 1, 2] rfl rfl (by decide) dX7_setBay_18 (⟨none, Or.inr ⟨fun q => h_4 q.2, rfl, rfl⟩, Or.inl ⟨rfl, rfl⟩⟩)
  · -- X7_isBay f
    refine if_eq_t (tgt := 17) hx hb rfl dX7_setBay_5 (by decide) ?_
    refine lv_iconst (v := -1) hx hb dX7_setBay_17 (by decide) ?_
    exact wr_iret (v := -1) ((g, lf, np, hs, lfs, Pp)) hx hb hr hlocks hS hP hD [0, 1, 2] rfl rfl (by decide) dX7_setBay_18 (⟨none, Or.inr ⟨fun q => h_2 q.1, rfl, rfl⟩, Or.inl ⟨rfl, rfl⟩⟩)
set_option maxHeartbeats 4000000 in
set_option maxRecDepth 100000 in
theorem c_X7_setStep (l : Launch) (D : va_G) (cI cC cB cS : ClassId) (zz : Nat) (ma : Nat → Nat) (fi : Nat → Int32) (wd : Int64) (g : Nat → Nat → Int32) (lf : Int32) (np : Nat) (Pp : Nat → Int32) (hs : Nat → Nat → Nat → Int32) (lfs : Nat → Int32) (tn : Nat) (tu : Nat) (t : Int32) (x : Int32) (un : Int32) (pr : Int32) (hnp : np ≤ 6) (hPR : PRel Pp np hs lfs) (ht : g 19 0 = nI tn) (htb : tn ≤ 5) (hu : g 23 0 = nI tu) (hub : tu ≤ 5) : Met l yX7_setStep wsX7_setStep ({ frames := 3, cells := 0, slots := 0, locals := 75 } : Room) (wrPc D (TYS cI cC cB cS) [.ref (ma 0), .int (t), .int (x), .int (un), .int (pr)] ([(ma 0, oE 7 [.ref (ma 1), .ref (ma 2), .int (nI np), .ref (ma 3), .ref (ma 4), .int (fi 1), .int (fi 2), .int (fi 3), .long (wd), .int (fi 4), .int (fi 5)]), (ma 1, iE cI 382 (enc g lf)), (ma 2, iE cI 2292 (Pp))]) zz) (va_Qi (fun (r : Int32) (u : MWT) => ∃ o2, OsetStep g tn tu t x un pr r o2 ∧ SvM g lf (lf) np hs lfs Pp o2 u) (wrB D (va_A ([(ma 0, oE 7 [.ref (ma 1), .ref (ma 2), .int (nI np), .ref (ma 3), .ref (ma 4), .int (fi 1), .int (fi 2), .int (fi 3), .long (wd), .int (fi 4), .int (fi 5)]), (ma 1, iE cI 382 (enc g lf)), (ma 2, iE cI 2292 (Pp))]) zz) (fun u => [(ma 0, oE 7 [.ref (ma 1), .ref (ma 2), .int (nI u.2.2.1), .ref (ma 3), .ref (ma 4), .int (fi 1), .int (fi 2), .int (fi 3), .long (wd), .int (fi 4), .int (fi 5)]), (ma 1, iE cI 382 (enc u.1 u.2.1)), (ma 2, iE cI 2292 (u.2.2.2.2.2))])) (va_A ([(ma 0, oE 7 [.ref (ma 1), .ref (ma 2), .int (nI np), .ref (ma 3), .ref (ma 4), .int (fi 1), .int (fi 2), .int (fi 3), .long (wd), .int (fi 4), .int (fi 5)]), (ma 1, iE cI 382 (enc g lf)), (ma 2, iE cI 2292 (Pp))]) zz)) 0 0 (va_A ([(ma 0, oE 7 [.ref (ma 1), .ref (ma 2), .int (nI np), .ref (ma 3), .ref (ma 4), .int (fi 1), .int (fi 2), .int (fi 3), .long (wd), .int (fi 4), .int (fi 5)]), (ma 1, iE cI 382 (enc g lf)), (ma 2, iE cI 2292 (Pp))]) zz) := by
  refine wr_intro (Qc := fun A B => va_Qi (fun (r : Int32) (u : MWT) => ∃ o2, OsetStep g tn tu t x un pr r o2 ∧ SvM g lf (lf) np hs lfs Pp o2 u) B A) (by decide) rfl (Nat.le_of_ble_eq_true rfl) ?_
  intro p e s m below meth c A hx hb hr hml hts hown hlocks hin hP hK hD hA hS ls hl
  have hP : va_P D vwCl [(ma 0, oE 7 [.ref (ma 1), .ref (ma 2), .int (nI np), .ref (ma 3), .ref (ma 4), .int (fi 1), .int (fi 2), .int (fi 3), .long (wd), .int (fi 4), .int (fi 5)]), (ma 1, iE cI 382 (enc g lf)), (ma 2, iE cI 2292 (Pp))] s.heap := hP
  have hD : va_D A [(ma 0, oE 7 [.ref (ma 1), .ref (ma 2), .int (nI np), .ref (ma 3), .ref (ma 4), .int (fi 1), .int (fi 2), .int (fi 3), .long (wd), .int (fi 4), .int (fi 5)]), (ma 1, iE cI 382 (enc g lf)), (ma 2, iE cI 2292 (Pp))] := hD
  have hown : s.vm.findClass RX7 = some m.cls := hown
  have hl : lv_has ls 6 [(0, .ref (ma 0)), (1, .int (t)), (2, .int (x)), (3, .int (un)), (4, .int (pr))] := hl
  refine lv_iload_n hx hb dX7_setStep_0 rfl (lv_at hl 1 rfl) ?_
  refine lv_iconst (v := 0) hx hb dX7_setStep_1 (by decide) ?_
  refine lv_iconst (v := 1) hx hb dX7_setStep_2 (by decide) ?_
  refine cs_i (As := [.int (t), .int (0), .int (1)]) (rest := []) (tys := TYS cI cC cB cS) ⟨hx, hb, hml, hown, hts⟩ (c_X7_in l D cI cC cB cS (t) (0) (1)) (va_cwS 3 hts gX7_setStep_X7_in rfl rfl rfl (by decide +kernel) ⟨Nat.le_of_ble_eq_true rfl, Nat.le_of_ble_eq_true rfl⟩) hK hP [] rfl rfl rfl hl.1 (Nat.le_of_ble_eq_true rfl) dX7_setStep_3 ⟨Nat.le_of_ble_eq_true rfl, Nat.le_of_ble_eq_true rfl⟩ (fun r_1 hr_1 => ?_)
  rcases (show Yes (0 ≤ t ∧ t ≤ 1) r_1 from hr_1) with ⟨rfl, h_2⟩ | ⟨rfl, h_2⟩
  · -- X7_in t
    have h01 := wi01 h_2
    have h01o := h01
    refine if_eq_f (tgt := 43) hx hb (by decide) dX7_setStep_6 (by decide) ?_
    refine lv_iload_n hx hb dX7_setStep_9 rfl (lv_at hl 2 rfl) ?_
    refine lv_iconst (v := 0) hx hb dX7_setStep_10 (by decide) ?_
    refine lv_sipush (v := 1440) hx hb dX7_setStep_11 (by decide) ?_
    refine cs_i (As := [.int (x), .int (0), .int (1440)]) (rest := []) (tys := TYS cI cC cB cS) ⟨hx, hb, hml, hown, hts⟩ (c_X7_in l D cI cC cB cS (x) (0) (1440)) (va_cwS 3 hts gX7_setStep_X7_in rfl rfl rfl (by decide +kernel) ⟨Nat.le_of_ble_eq_true rfl, Nat.le_of_ble_eq_true rfl⟩) hK hP [] rfl rfl rfl hl.1 (Nat.le_of_ble_eq_true rfl) dX7_setStep_14 ⟨Nat.le_of_ble_eq_true rfl, Nat.le_of_ble_eq_true rfl⟩ (fun r_3 hr_3 => ?_)
    rcases (show Yes (0 ≤ x ∧ x ≤ 1440) r_3 from hr_3) with ⟨rfl, h_4⟩ | ⟨rfl, h_4⟩
    · -- X7_in t
      refine if_eq_f (tgt := 43) hx hb (by decide) dX7_setStep_17 (by decide) ?_
      refine lv_iload_n hx hb dX7_setStep_20 rfl (lv_at hl 3 rfl) ?_
      refine lv_iconst (v := 0) hx hb dX7_setStep_21 (by decide) ?_
      refine lv_sipush (v := 240) hx hb dX7_setStep_22 (by decide) ?_
      refine cs_i (As := [.int (un), .int (0), .int (240)]) (rest := []) (tys := TYS cI cC cB cS) ⟨hx, hb, hml, hown, hts⟩ (c_X7_in l D cI cC cB cS (un) (0) (240)) (va_cwS 3 hts gX7_setStep_X7_in rfl rfl rfl (by decide +kernel) ⟨Nat.le_of_ble_eq_true rfl, Nat.le_of_ble_eq_true rfl⟩) hK hP [] rfl rfl rfl hl.1 (Nat.le_of_ble_eq_true rfl) dX7_setStep_25 ⟨Nat.le_of_ble_eq_true rfl, Nat.le_of_ble_eq_true rfl⟩ (fun r_5 hr_5 => ?_)
      rcases (show Yes (0 ≤ un ∧ un ≤ 240) r_5 from hr_5) with ⟨rfl, h_6⟩ | ⟨rfl, h_6⟩
      · -- X7_in t
        refine if_eq_f (tgt := 43) hx hb (by decide) dX7_setStep_28 (by decide) ?_
        refine lv_iload hx hb dX7_setStep_31 (lv_at hl 4 rfl) ?_
        refine lv_iconst (v := 0) hx hb dX7_setStep_33 (by decide) ?_
        refine lv_sipush (v := 5000) hx hb dX7_setStep_34 (by decide) ?_
        refine cs_i (As := [.int (pr), .int (0), .int (5000)]) (rest := []) (tys := TYS cI cC cB cS) ⟨hx, hb, hml, hown, hts⟩ (c_X7_in l D cI cC cB cS (pr) (0) (5000)) (va_cwS 3 hts gX7_setStep_X7_in rfl rfl rfl (by decide +kernel) ⟨Nat.le_of_ble_eq_true rfl, Nat.le_of_ble_eq_true rfl⟩) hK hP [] rfl rfl rfl hl.1 (Nat.le_of_ble_eq_true rfl) dX7_setStep_37 ⟨Nat.le_of_ble_eq_true rfl, Nat.le_of_ble_eq_true rfl⟩ (fun r_7 hr_7 => ?_)
        rcases (show Yes (0 ≤ pr ∧ pr ≤ 5000) r_7 from hr_7) with ⟨rfl, h_8⟩ | ⟨rfl, h_8⟩
        · -- X7_in t
          rcases h01 with h0 | h0
          · -- tariff 0
            have hl : lv_has ls 6 [(0, .ref (ma 0)), (1, .int (0)), (2, .int (x)), (3, .int (un)), (4, .int (pr))] := by first | (rw [← h0]; exact hl) | (have e := hl; rw [h0] at e; exact e)
            refine if_ne_t (tgt := 45) hx hb (by decide) dX7_setStep_40 (by decide) ?_
            refine lv_aload_n hx hb dX7_setStep_45 rfl (lv_at hl 0 rfl) ?_
            refine lv_iload_n hx hb dX7_setStep_46 rfl (lv_at hl 1 rfl) ?_
            refine lv_iload_n hx hb dX7_setStep_47 rfl (lv_at hl 2 rfl) ?_
            refine cv_i (As := [.int (0), .int (x)]) (rest := []) (tys := TYS cI cC cB cS) (ci := 7) ⟨hx, hb, hml, hown, hts⟩ (c_X7_hasStep l D cI cC cB cS (ma) ((fun j => [nI np, fi 1, fi 2, fi 3, fi 4, fi 5].getD j 0)) (wd) (g) (lf) (0) (tn) (x) (by decide) (ht) (htb)) (cwV 2 hts gX7_setStep_X7_hasStep rfl rfl rfl (by decide +kernel) ⟨Nat.le_of_ble_eq_true rfl, Nat.le_of_ble_eq_true rfl⟩) hK hP [0, 1] rfl rfl rfl rfl rfl hl.1 (Nat.le_of_ble_eq_true rfl) dX7_setStep_48 ⟨Nat.le_of_ble_eq_true rfl, Nat.le_of_ble_eq_true rfl⟩ (fun r_9 hr_9 => ?_)
            rcases (show Yes (THas (g 20) tn x) r_9 from hr_9) with ⟨rfl, h_10⟩ | ⟨rfl, h_10⟩
            · -- X7_hasStep t
              refine lv_istore (lv' := [(5, .int (1)), (0, .ref (ma 0)), (1, .int (0)), (2, .int (x)), (3, .int (un)), (4, .int (pr))]) hx hb dX7_setStep_51 hl (by decide) rfl (fun ls hl => ?_)
              refine lv_iload_n hx hb dX7_setStep_53 rfl (lv_at hl 4 rfl) ?_
              refine lv_if_ne (tgt := 65) hx hb dX7_setStep_54 (by decide) (fun c_11 => ?_) (fun c_11 => ?_)
              · -- c_11: un ≠ 0
                refine lv_iload hx hb dX7_setStep_65 (lv_at hl 0 rfl) ?_
                refine if_ne_t (tgt := 89) hx hb (by decide) dX7_setStep_67 (by decide) ?_
                refine lv_aload_n hx hb dX7_setStep_89 rfl (lv_at hl 1 rfl) ?_
                refine cv_wv (As := []) (rest := []) (tys := TYS cI cC cB cS) (ci := 7) (wr := []) ⟨hx, hb, hml, hown, hts⟩ (c_X7_notes l D cI cC cB cS _ (ma) ((fun j => [nI np, fi 1, fi 2, fi 3, fi 4, fi 5].getD j 0)) (wd) (g) (lf) (np) (Pp) (hs) (lfs) (hnp) (hPR)) (cwV 0 hts gX7_setStep_X7_notes rfl rfl rfl (by decide +kernel) ⟨Nat.le_of_ble_eq_true rfl, Nat.le_of_ble_eq_true rfl⟩) hK hP hD hS hA [0, 1, 2] [] rfl rfl (by decide) (by decide) (by decide) rfl rfl rfl rfl hl.1 (Nat.le_of_ble_eq_true rfl) dX7_setStep_90 ⟨Nat.le_of_ble_eq_true rfl, Nat.le_of_ble_eq_true rfl⟩ (fun u_12 H locs hu_12 hP hD hS => ?_)
                have hP : va_P D vwCl [(ma 0, oE 7 [.ref (ma 1), .ref (ma 2), .int (nI u_12.1), .ref (ma 3), .ref (ma 4), .int (fi 1), .int (fi 2), .int (fi 3), .long (wd), .int (fi 4), .int (fi 5)]), (ma 1, iE cI 382 (enc g lf)), (ma 2, iE cI 2292 (u_12.2.2.2))] H := hP
                have hD : va_D A [(ma 0, oE 7 [.ref (ma 1), .ref (ma 2), .int (nI u_12.1), .ref (ma 3), .ref (ma 4), .int (fi 1), .int (fi 2), .int (fi 3), .long (wd), .int (fi 4), .int (fi 5)]), (ma 1, iE cI 382 (enc g lf)), (ma 2, iE cI 2292 (u_12.2.2.2))] := hD
                have hu_12 : Sv np hs lfs g lf u_12.1 u_12.2.1 u_12.2.2.1 ∧ PRel u_12.2.2.2 u_12.1 u_12.2.1 u_12.2.2.1 := hu_12
                refine lv_iload_n hx hb dX7_setStep_93 rfl (lv_at hl 4 rfl) ?_
                refine lv_if_ne (tgt := 106) hx hb dX7_setStep_94 (by decide) (fun c_13 => ?_) (fun c_13 => ?_)
                · -- c_13: un ≠ 0
                  refine lv_aload_n hx hb dX7_setStep_106 rfl (lv_at hl 1 rfl) ?_
                  refine lv_iload_n hx hb dX7_setStep_107 rfl (lv_at hl 2 rfl) ?_
                  refine lv_iload_n hx hb dX7_setStep_108 rfl (lv_at hl 3 rfl) ?_
                  refine lv_iload_n hx hb dX7_setStep_109 rfl (lv_at hl 4 rfl) ?_
                  refine lv_iload hx hb dX7_setStep_110 (lv_at hl 5 rfl) ?_
                  refine cv_wv (As := [.int (0), .int (x), .int (un), .int (pr)]) (rest := []) (tys := TYS cI cC cB cS) (ci := 7) (wr := [(ma 2, iE cI 2292 (u_12.2.2.2))]) ⟨hx, hb, hml, hown, hts⟩ (c_X7_puts l D cI cC cB cS _ (ma) ((fun j => [nI u_12.1, fi 1, fi 2, fi 3, fi 4, fi 5].getD j 0)) (wd) (g) (lf) (0) (tn) (x) (un) (pr) (by decide) (ht) (htb) (Or.inr h_10)) (cwV 4 hts gX7_setStep_X7_puts rfl rfl rfl (by decide +kernel) ⟨Nat.le_of_ble_eq_true rfl, Nat.le_of_ble_eq_true rfl⟩) hK hP hD hS hA [0, 1] [2] rfl rfl (by decide) (by decide) (by decide) rfl rfl rfl rfl hl.1 (Nat.le_of_ble_eq_true rfl) dX7_setStep_112 ⟨Nat.le_of_ble_eq_true rfl, Nat.le_of_ble_eq_true rfl⟩ (fun u_14 H locs hu_14 hP hD hS => ?_)
                  have hP : va_P D vwCl [(ma 2, iE cI 2292 (u_12.2.2.2)), (ma 0, oE 7 [.ref (ma 1), .ref (ma 2), .int (nI u_12.1), .ref (ma 3), .ref (ma 4), .int (fi 1), .int (fi 2), .int (fi 3), .long (wd), .int (fi 4), .int (fi 5)]), (ma 1, iE cI 382 (enc (wblk g 19 4 u_14) lf))] H := hP
                  have hD : va_D A [(ma 2, iE cI 2292 (u_12.2.2.2)), (ma 0, oE 7 [.ref (ma 1), .ref (ma 2), .int (nI u_12.1), .ref (ma 3), .ref (ma 4), .int (fi 1), .int (fi 2), .int (fi 3), .long (wd), .int (fi 4), .int (fi 5)]), (ma 1, iE cI 382 (enc (wblk g 19 4 u_14) lf))] := hD
                  have hu_14 : TPut (tV g 0) tn (x) (un) (pr) u_14 := hu_14
                  refine lv_aload_n hx hb dX7_setStep_115 rfl (lv_at hl 1 rfl) ?_
                  refine va_get (D := D) (ci := 7) (v := .ref (ma 1)) (C := RX7) (T := TX7) (N := 11) hx hb hts (by decide +kernel) hown hK.1 hP 1 rfl rfl 0 (by decide) (hts (.fieldLink RX7 7 "ParkingGarageModel" "s" "[I") (by decide +kernel)) (fun _ h9 => h9) rfl dX7_setStep_116 ?_
                  refine lv_bipush (v := 14) hx hb dX7_setStep_119 (by decide) ?_
                  refine lv_bipush (v := 16) hx hb dX7_setStep_121 (by decide) ?_
                  refine lv_iload_n hx hb dX7_setStep_123 rfl (lv_at hl 2 rfl) ?_
                  refine lv_imul hx hb dX7_setStep_124 ?_
                  rw [show (((16) * (0)) : Int32) = 0 from by decide]
                  refine lv_iadd hx hb dX7_setStep_125 ?_
                  rw [show (((14) + (0)) : Int32) = 14 from by decide]
                  refine iald_n (f := enc (wblk g 19 4 u_14) lf) hx hb hK.1 hP 2 0 rfl rfl (14) (rfl) (by decide) (by omega) dX7_setStep_126 ?_
                  rw [show enc (wblk g 19 4 u_14) lf (14) = u_14 0 0 from rfl]
                  exact wr_iret (v := u_14 0 0) ((wblk g 19 4 u_14, lf, u_12.1, u_12.2.1, u_12.2.2.1, u_12.2.2.2)) hx hb hr hlocks hS hP hD [1, 2, 0] rfl rfl (by decide) dX7_setStep_127 (⟨some (wblk g 19 4 u_14), Or.inl ⟨⟨h01o, h_4, h_6, h_8⟩, Or.inl ⟨h0, Or.inr ⟨c_11, Or.inl ⟨Or.inr h_10, u_14, hu_14, rfl, rfl⟩⟩⟩⟩, Or.inr ⟨_, rfl, rfl, rfl, hu_12.1, hu_12.2⟩⟩)
                · -- c_13: not un ≠ 0
                  exact absurd c_13 c_11
              · -- c_11: not un ≠ 0
                refine lv_iload hx hb dX7_setStep_57 (lv_at hl 0 rfl) ?_
                refine if_ne_t (tgt := 65) hx hb (by decide) dX7_setStep_59 (by decide) ?_
                refine lv_iload hx hb dX7_setStep_65 (lv_at hl 0 rfl) ?_
                refine if_ne_t (tgt := 89) hx hb (by decide) dX7_setStep_67 (by decide) ?_
                refine lv_aload_n hx hb dX7_setStep_89 rfl (lv_at hl 1 rfl) ?_
                refine cv_wv (As := []) (rest := []) (tys := TYS cI cC cB cS) (ci := 7) (wr := []) ⟨hx, hb, hml, hown, hts⟩ (c_X7_notes l D cI cC cB cS _ (ma) ((fun j => [nI np, fi 1, fi 2, fi 3, fi 4, fi 5].getD j 0)) (wd) (g) (lf) (np) (Pp) (hs) (lfs) (hnp) (hPR)) (cwV 0 hts gX7_setStep_X7_notes rfl rfl rfl (by decide +kernel) ⟨Nat.le_of_ble_eq_true rfl, Nat.le_of_ble_eq_true rfl⟩) hK hP hD hS hA [0, 1, 2] [] rfl rfl (by decide) (by decide) (by decide) rfl rfl rfl rfl hl.1 (Nat.le_of_ble_eq_true rfl) dX7_setStep_90 ⟨Nat.le_of_ble_eq_true rfl, Nat.le_of_ble_eq_true rfl⟩ (fun u_15 H locs hu_15 hP hD hS => ?_)
                have hP : va_P D vwCl [(ma 0, oE 7 [.ref (ma 1), .ref (ma 2), .int (nI u_15.1), .ref (ma 3), .ref (ma 4), .int (fi 1), .int (fi 2), .int (fi 3), .long (wd), .int (fi 4), .int (fi 5)]), (ma 1, iE cI 382 (enc g lf)), (ma 2, iE cI 2292 (u_15.2.2.2))] H := hP
                have hD : va_D A [(ma 0, oE 7 [.ref (ma 1), .ref (ma 2), .int (nI u_15.1), .ref (ma 3), .ref (ma 4), .int (fi 1), .int (fi 2), .int (fi 3), .long (wd), .int (fi 4), .int (fi 5)]), (ma 1, iE cI 382 (enc g lf)), (ma 2, iE cI 2292 (u_15.2.2.2))] := hD
                have hu_15 : Sv np hs lfs g lf u_15.1 u_15.2.1 u_15.2.2.1 ∧ PRel u_15.2.2.2 u_15.1 u_15.2.1 u_15.2.2.1 := hu_15
                refine lv_iload_n hx hb dX7_setStep_93 rfl (lv_at hl 4 rfl) ?_
                refine lv_if_ne (tgt := 106) hx hb dX7_setStep_94 (by decide) (fun c_16 => ?_) (fun c_16 => ?_)
                · -- c_16: un ≠ 0
                  exact absurd c_11 c_16
                · -- c_16: not un ≠ 0
                  refine lv_aload_n hx hb dX7_setStep_97 rfl (lv_at hl 1 rfl) ?_
                  refine lv_iload_n hx hb dX7_setStep_98 rfl (lv_at hl 2 rfl) ?_
                  refine lv_iload_n hx hb dX7_setStep_99 rfl (lv_at hl 3 rfl) ?_
                  refine cv_wv (As := [.int (0), .int (x)]) (rest := []) (tys := TYS cI cC cB cS) (ci := 7) (wr := [(ma 2, iE cI 2292 (u_15.2.2.2))]) ⟨hx, hb, hml, hown, hts⟩ (c_X7_drops l D cI cC cB cS _ (ma) ((fun j => [nI u_15.1, fi 1, fi 2, fi 3, fi 4, fi 5].getD j 0)) (wd) (g) (lf) (0) (tn) (x) (by decide) (ht) (htb) (h_10)) (cwV 2 hts gX7_setStep_X7_drops rfl rfl rfl (by decide +kernel) ⟨Nat.le_of_ble_eq_true rfl, Nat.le_of_ble_eq_true rfl⟩) hK hP hD hS hA [0, 1] [2] rfl rfl (by decide) (by decide) (by decide) rfl rfl rfl rfl hl.1 (Nat.le_of_ble_eq_true rfl) dX7_setStep_100 ⟨Nat.le_of_ble_eq_true rfl, Nat.le_of_ble_eq_true rfl⟩ (fun u_17 H locs hu_17 hP hD hS => ?_)
                  have hP : va_P D vwCl [(ma 2, iE cI 2292 (u_15.2.2.2)), (ma 0, oE 7 [.ref (ma 1), .ref (ma 2), .int (nI u_15.1), .ref (ma 3), .ref (ma 4), .int (fi 1), .int (fi 2), .int (fi 3), .long (wd), .int (fi 4), .int (fi 5)]), (ma 1, iE cI 382 (enc (wblk g 19 4 u_17) lf))] H := hP
                  have hD : va_D A [(ma 2, iE cI 2292 (u_15.2.2.2)), (ma 0, oE 7 [.ref (ma 1), .ref (ma 2), .int (nI u_15.1), .ref (ma 3), .ref (ma 4), .int (fi 1), .int (fi 2), .int (fi 3), .long (wd), .int (fi 4), .int (fi 5)]), (ma 1, iE cI 382 (enc (wblk g 19 4 u_17) lf))] := hD
                  have hu_17 : TRem (tV g 0) tn (x) u_17 := hu_17
                  refine lv_goto (tgt := 115) hx hb dX7_setStep_103 (by decide) ?_
                  refine lv_aload_n hx hb dX7_setStep_115 rfl (lv_at hl 1 rfl) ?_
                  refine va_get (D := D) (ci := 7) (v := .ref (ma 1)) (C := RX7) (T := TX7) (N := 11) hx hb hts (by decide +kernel) hown hK.1 hP 1 rfl rfl 0 (by decide) (hts (.fieldLink RX7 7 "ParkingGarageModel" "s" "[I") (by decide +kernel)) (fun _ h9 => h9) rfl dX7_setStep_116 ?_
                  refine lv_bipush (v := 14) hx hb dX7_setStep_119 (by decide) ?_
                  refine lv_bipush (v := 16) hx hb dX7_setStep_121 (by decide) ?_
                  refine lv_iload_n hx hb dX7_setStep_123 rfl (lv_at hl 2 rfl) ?_
                  refine lv_imul hx hb dX7_setStep_124 ?_
                  rw [show (((16) * (0)) : Int32) = 0 from by decide]
                  refine lv_iadd hx hb dX7_setStep_125 ?_
                  rw [show (((14) + (0)) : Int32) = 14 from by decide]
                  refine iald_n (f := enc (wblk g 19 4 u_17) lf) hx hb hK.1 hP 2 0 rfl rfl (14) (rfl) (by decide) (by omega) dX7_setStep_126 ?_
                  rw [show enc (wblk g 19 4 u_17) lf (14) = u_17 0 0 from rfl]
                  exact wr_iret (v := u_17 0 0) ((wblk g 19 4 u_17, lf, u_15.1, u_15.2.1, u_15.2.2.1, u_15.2.2.2)) hx hb hr hlocks hS hP hD [1, 2, 0] rfl rfl (by decide) dX7_setStep_127 (⟨some (wblk g 19 4 u_17), Or.inl ⟨⟨h01o, h_4, h_6, h_8⟩, Or.inl ⟨h0, Or.inl ⟨c_11, Or.inl ⟨h_10, u_17, hu_17, rfl, rfl⟩⟩⟩⟩, Or.inr ⟨_, rfl, rfl, rfl, hu_15.1, hu_15.2⟩⟩)
            · -- X7_hasStep f
              refine lv_istore (lv' := [(5, .int (0)), (0, .ref (ma 0)), (1, .int (0)), (2, .int (x)), (3, .int (un)), (4, .int (pr))]) hx hb dX7_setStep_51 hl (by decide) rfl (fun ls hl => ?_)
              refine lv_iload_n hx hb dX7_setStep_53 rfl (lv_at hl 4 rfl) ?_
              refine lv_if_ne (tgt := 65) hx hb dX7_setStep_54 (by decide) (fun c_18 => ?_) (fun c_18 => ?_)
              · -- c_18: un ≠ 0
                refine lv_iload hx hb dX7_setStep_65 (lv_at hl 0 rfl) ?_
                refine if_ne_f (tgt := 89) hx hb rfl dX7_setStep_67 (by decide) ?_
                refine lv_aload_n hx hb dX7_setStep_70 rfl (lv_at hl 1 rfl) ?_
                refine va_get (D := D) (ci := 7) (v := .ref (ma 1)) (C := RX7) (T := TX7) (N := 11) hx hb hts (by decide +kernel) hown hK.1 hP 0 rfl rfl 0 (by decide) (hts (.fieldLink RX7 7 "ParkingGarageModel" "s" "[I") (by decide +kernel)) (fun _ h9 => h9) rfl dX7_setStep_71 ?_
                refine lv_bipush (v := 14) hx hb dX7_setStep_74 (by decide) ?_
                refine lv_bipush (v := 16) hx hb dX7_setStep_76 (by decide) ?_
                refine lv_iload_n hx hb dX7_setStep_78 rfl (lv_at hl 2 rfl) ?_
                refine lv_imul hx hb dX7_setStep_79 ?_
                rw [show (((16) * (0)) : Int32) = 0 from by decide]
                refine lv_iadd hx hb dX7_setStep_80 ?_
                rw [show (((14) + (0)) : Int32) = 14 from by decide]
                refine iald_n (f := enc g lf) hx hb hK.1 hP 1 0 rfl rfl (14) (rfl) (by decide) (by omega) dX7_setStep_81 ?_
                rw [show enc g lf (14) = nI tn from ht]
                refine lv_iconst (v := 5) hx hb dX7_setStep_82 (by decide) ?_
                refine lv_icmp_ne (tgt := 89) hx hb dX7_setStep_83 (by decide) (fun c_19 => ?_) (fun c_19 => ?_)
                · -- c_19: nI tn ≠ 5
                  refine lv_aload_n hx hb dX7_setStep_89 rfl (lv_at hl 1 rfl) ?_
                  refine cv_wv (As := []) (rest := []) (tys := TYS cI cC cB cS) (ci := 7) (wr := []) ⟨hx, hb, hml, hown, hts⟩ (c_X7_notes l D cI cC cB cS _ (ma) ((fun j => [nI np, fi 1, fi 2, fi 3, fi 4, fi 5].getD j 0)) (wd) (g) (lf) (np) (Pp) (hs) (lfs) (hnp) (hPR)) (cwV 0 hts gX7_setStep_X7_notes rfl rfl rfl (by decide +kernel) ⟨Nat.le_of_ble_eq_true rfl, Nat.le_of_ble_eq_true rfl⟩) hK hP hD hS hA [0, 1, 2] [] rfl rfl (by decide) (by decide) (by decide) rfl rfl rfl rfl hl.1 (Nat.le_of_ble_eq_true rfl) dX7_setStep_90 ⟨Nat.le_of_ble_eq_true rfl, Nat.le_of_ble_eq_true rfl⟩ (fun u_20 H locs hu_20 hP hD hS => ?_)
                  have hP : va_P D vwCl [(ma 0, oE 7 [.ref (ma 1), .ref (ma 2), .int (nI u_20.1), .ref (ma 3), .ref (ma 4), .int (fi 1), .int (fi 2), .int (fi 3), .long (wd), .int (fi 4), .int (fi 5)]), (ma 1, iE cI 382 (enc g lf)), (ma 2, iE cI 2292 (u_20.2.2.2))] H := hP
                  have hD : va_D A [(ma 0, oE 7 [.ref (ma 1), .ref (ma 2), .int (nI u_20.1), .ref (ma 3), .ref (ma 4), .int (fi 1), .int (fi 2), .int (fi 3), .long (wd), .int (fi 4), .int (fi 5)]), (ma 1, iE cI 382 (enc g lf)), (ma 2, iE cI 2292 (u_20.2.2.2))] := hD
                  have hu_20 : Sv np hs lfs g lf u_20.1 u_20.2.1 u_20.2.2.1 ∧ PRel u_20.2.2.2 u_20.1 u_20.2.1 u_20.2.2.1 := hu_20
                  refine lv_iload_n hx hb dX7_setStep_93 rfl (lv_at hl 4 rfl) ?_
                  refine lv_if_ne (tgt := 106) hx hb dX7_setStep_94 (by decide) (fun c_21 => ?_) (fun c_21 => ?_)
                  · -- c_21: un ≠ 0
                    refine lv_aload_n hx hb dX7_setStep_106 rfl (lv_at hl 1 rfl) ?_
                    refine lv_iload_n hx hb dX7_setStep_107 rfl (lv_at hl 2 rfl) ?_
                    refine lv_iload_n hx hb dX7_setStep_108 rfl (lv_at hl 3 rfl) ?_
                    refine lv_iload_n hx hb dX7_setStep_109 rfl (lv_at hl 4 rfl) ?_
                    refine lv_iload hx hb dX7_setStep_110 (lv_at hl 5 rfl) ?_
                    refine cv_wv (As := [.int (0), .int (x), .int (un), .int (pr)]) (rest := []) (tys := TYS cI cC cB cS) (ci := 7) (wr := [(ma 2, iE cI 2292 (u_20.2.2.2))]) ⟨hx, hb, hml, hown, hts⟩ (c_X7_puts l D cI cC cB cS _ (ma) ((fun j => [nI u_20.1, fi 1, fi 2, fi 3, fi 4, fi 5].getD j 0)) (wd) (g) (lf) (0) (tn) (x) (un) (pr) (by decide) (ht) (htb) (Or.inl (Nat.lt_of_le_of_ne htb (fun q => c_19 (by rw [q]; rfl))))) (cwV 4 hts gX7_setStep_X7_puts rfl rfl rfl (by decide +kernel) ⟨Nat.le_of_ble_eq_true rfl, Nat.le_of_ble_eq_true rfl⟩) hK hP hD hS hA [0, 1] [2] rfl rfl (by decide) (by decide) (by decide) rfl rfl rfl rfl hl.1 (Nat.le_of_ble_eq_true rfl) dX7_setStep_112 ⟨Nat.le_of_ble_eq_true rfl, Nat.le_of_ble_eq_true rfl⟩ (fun u_22 H locs hu_22 hP hD hS => ?_)
                    have hP : va_P D vwCl [(ma 2, iE cI 2292 (u_20.2.2.2)), (ma 0, oE 7 [.ref (ma 1), .ref (ma 2), .int (nI u_20.1), .ref (ma 3), .ref (ma 4), .int (fi 1), .int (fi 2), .int (fi 3), .long (wd), .int (fi 4), .int (fi 5)]), (ma 1, iE cI 382 (enc (wblk g 19 4 u_22) lf))] H := hP
                    have hD : va_D A [(ma 2, iE cI 2292 (u_20.2.2.2)), (ma 0, oE 7 [.ref (ma 1), .ref (ma 2), .int (nI u_20.1), .ref (ma 3), .ref (ma 4), .int (fi 1), .int (fi 2), .int (fi 3), .long (wd), .int (fi 4), .int (fi 5)]), (ma 1, iE cI 382 (enc (wblk g 19 4 u_22) lf))] := hD
                    have hu_22 : TPut (tV g 0) tn (x) (un) (pr) u_22 := hu_22
                    refine lv_aload_n hx hb dX7_setStep_115 rfl (lv_at hl 1 rfl) ?_
                    refine va_get (D := D) (ci := 7) (v := .ref (ma 1)) (C := RX7) (T := TX7) (N := 11) hx hb hts (by decide +kernel) hown hK.1 hP 1 rfl rfl 0 (by decide) (hts (.fieldLink RX7 7 "ParkingGarageModel" "s" "[I") (by decide +kernel)) (fun _ h9 => h9) rfl dX7_setStep_116 ?_
                    refine lv_bipush (v := 14) hx hb dX7_setStep_119 (by decide) ?_
                    refine lv_bipush (v := 16) hx hb dX7_setStep_121 (by decide) ?_
                    refine lv_iload_n hx hb dX7_setStep_123 rfl (lv_at hl 2 rfl) ?_
                    refine lv_imul hx hb dX7_setStep_124 ?_
                    rw [show (((16) * (0)) : Int32) = 0 from by decide]
                    refine lv_iadd hx hb dX7_setStep_125 ?_
                    rw [show (((14) + (0)) : Int32) = 14 from by decide]
                    refine iald_n (f := enc (wblk g 19 4 u_22) lf) hx hb hK.1 hP 2 0 rfl rfl (14) (rfl) (by decide) (by omega) dX7_setStep_126 ?_
                    rw [show enc (wblk g 19 4 u_22) lf (14) = u_22 0 0 from rfl]
                    exact wr_iret (v := u_22 0 0) ((wblk g 19 4 u_22, lf, u_20.1, u_20.2.1, u_20.2.2.1, u_20.2.2.2)) hx hb hr hlocks hS hP hD [1, 2, 0] rfl rfl (by decide) dX7_setStep_127 (⟨some (wblk g 19 4 u_22), Or.inl ⟨⟨h01o, h_4, h_6, h_8⟩, Or.inl ⟨h0, Or.inr ⟨c_18, Or.inl ⟨Or.inl (Nat.lt_of_le_of_ne htb (fun q => c_19 (by rw [q]; rfl))), u_22, hu_22, rfl, rfl⟩⟩⟩⟩, Or.inr ⟨_, rfl, rfl, rfl, hu_20.1, hu_20.2⟩⟩)
                  · -- c_21: not un ≠ 0
                    exact absurd c_21 c_18
                · -- c_19: not nI tn ≠ 5
                  refine lv_bipush (v := -3) hx hb dX7_setStep_86 (by decide) ?_
                  exact wr_iret (v := -3) ((g, lf, np, hs, lfs, Pp)) hx hb hr hlocks hS hP hD [0, 1, 2] rfl rfl (by decide) dX7_setStep_88 (⟨none, Or.inl ⟨⟨h01o, h_4, h_6, h_8⟩, Or.inl ⟨h0, Or.inr ⟨c_18, Or.inr ⟨fun q => q.elim (fun q => by have := (nI_eq (a := tn) (b := 5) (by omega) (by omega)).mp c_19; omega) h_10, ⟨rfl, rfl⟩⟩⟩⟩⟩, Or.inl ⟨rfl, rfl⟩⟩)
              · -- c_18: not un ≠ 0
                refine lv_iload hx hb dX7_setStep_57 (lv_at hl 0 rfl) ?_
                refine if_ne_f (tgt := 65) hx hb rfl dX7_setStep_59 (by decide) ?_
                refine lv_bipush (v := -2) hx hb dX7_setStep_62 (by decide) ?_
                exact wr_iret (v := -2) ((g, lf, np, hs, lfs, Pp)) hx hb hr hlocks hS hP hD [0, 1, 2] rfl rfl (by decide) dX7_setStep_64 (⟨none, Or.inl ⟨⟨h01o, h_4, h_6, h_8⟩, Or.inl ⟨h0, Or.inl ⟨c_18, Or.inr ⟨h_10, ⟨rfl, rfl⟩⟩⟩⟩⟩, Or.inl ⟨rfl, rfl⟩⟩)
          · -- tariff 1
            have hl : lv_has ls 6 [(0, .ref (ma 0)), (1, .int (1)), (2, .int (x)), (3, .int (un)), (4, .int (pr))] := by first | (rw [← h0]; exact hl) | (have e := hl; rw [h0] at e; exact e)
            refine if_ne_t (tgt := 45) hx hb (by decide) dX7_setStep_40 (by decide) ?_
            refine lv_aload_n hx hb dX7_setStep_45 rfl (lv_at hl 0 rfl) ?_
            refine lv_iload_n hx hb dX7_setStep_46 rfl (lv_at hl 1 rfl) ?_
            refine lv_iload_n hx hb dX7_setStep_47 rfl (lv_at hl 2 rfl) ?_
            refine cv_i (As := [.int (1), .int (x)]) (rest := []) (tys := TYS cI cC cB cS) (ci := 7) ⟨hx, hb, hml, hown, hts⟩ (c_X7_hasStep l D cI cC cB cS (ma) ((fun j => [nI np, fi 1, fi 2, fi 3, fi 4, fi 5].getD j 0)) (wd) (g) (lf) (1) (tu) (x) (by decide) (hu) (hub)) (cwV 2 hts gX7_setStep_X7_hasStep rfl rfl rfl (by decide +kernel) ⟨Nat.le_of_ble_eq_true rfl, Nat.le_of_ble_eq_true rfl⟩) hK hP [0, 1] rfl rfl rfl rfl rfl hl.1 (Nat.le_of_ble_eq_true rfl) dX7_setStep_48 ⟨Nat.le_of_ble_eq_true rfl, Nat.le_of_ble_eq_true rfl⟩ (fun r_23 hr_23 => ?_)
            rcases (show Yes (THas (g 24) tu x) r_23 from hr_23) with ⟨rfl, h_24⟩ | ⟨rfl, h_24⟩
            · -- X7_hasStep t
              refine lv_istore (lv' := [(5, .int (1)), (0, .ref (ma 0)), (1, .int (1)), (2, .int (x)), (3, .int (un)), (4, .int (pr))]) hx hb dX7_setStep_51 hl (by decide) rfl (fun ls hl => ?_)
              refine lv_iload_n hx hb dX7_setStep_53 rfl (lv_at hl 4 rfl) ?_
              refine lv_if_ne (tgt := 65) hx hb dX7_setStep_54 (by decide) (fun c_25 => ?_) (fun c_25 => ?_)
              · -- c_25: un ≠ 0
                refine lv_iload hx hb dX7_setStep_65 (lv_at hl 0 rfl) ?_
                refine if_ne_t (tgt := 89) hx hb (by decide) dX7_setStep_67 (by decide) ?_
                refine lv_aload_n hx hb dX7_setStep_89 rfl (lv_at hl 1 rfl) ?_
                refine cv_wv (As := []) (rest := []) (tys := TYS cI cC cB cS) (ci := 7) (wr := []) ⟨hx, hb, hml, hown, hts⟩ (c_X7_notes l D cI cC cB cS _ (ma) ((fun j => [nI np, fi 1, fi 2, fi 3, fi 4, fi 5].getD j 0)) (wd) (g) (lf) (np) (Pp) (hs) (lfs) (hnp) (hPR)) (cwV 0 hts gX7_setStep_X7_notes rfl rfl rfl (by decide +kernel) ⟨Nat.le_of_ble_eq_true rfl, Nat.le_of_ble_eq_true rfl⟩) hK hP hD hS hA [0, 1, 2] [] rfl rfl (by decide) (by decide) (by decide) rfl rfl rfl rfl hl.1 (Nat.le_of_ble_eq_true rfl) dX7_setStep_90 ⟨Nat.le_of_ble_eq_true rfl, Nat.le_of_ble_eq_true rfl⟩ (fun u_26 H locs hu_26 hP hD hS => ?_)
                have hP : va_P D vwCl [(ma 0, oE 7 [.ref (ma 1), .ref (ma 2), .int (nI u_26.1), .ref (ma 3), .ref (ma 4), .int (fi 1), .int (fi 2), .int (fi 3), .long (wd), .int (fi 4), .int (fi 5)]), (ma 1, iE cI 382 (enc g lf)), (ma 2, iE cI 2292 (u_26.2.2.2))] H := hP
                have hD : va_D A [(ma 0, oE 7 [.ref (ma 1), .ref (ma 2), .int (nI u_26.1), .ref (ma 3), .ref (ma 4), .int (fi 1), .int (fi 2), .int (fi 3), .long (wd), .int (fi 4), .int (fi 5)]), (ma 1, iE cI 382 (enc g lf)), (ma 2, iE cI 2292 (u_26.2.2.2))] := hD
                have hu_26 : Sv np hs lfs g lf u_26.1 u_26.2.1 u_26.2.2.1 ∧ PRel u_26.2.2.2 u_26.1 u_26.2.1 u_26.2.2.1 := hu_26
                refine lv_iload_n hx hb dX7_setStep_93 rfl (lv_at hl 4 rfl) ?_
                refine lv_if_ne (tgt := 106) hx hb dX7_setStep_94 (by decide) (fun c_27 => ?_) (fun c_27 => ?_)
                · -- c_27: un ≠ 0
                  refine lv_aload_n hx hb dX7_setStep_106 rfl (lv_at hl 1 rfl) ?_
                  refine lv_iload_n hx hb dX7_setStep_107 rfl (lv_at hl 2 rfl) ?_
                  refine lv_iload_n hx hb dX7_setStep_108 rfl (lv_at hl 3 rfl) ?_
                  refine lv_iload_n hx hb dX7_setStep_109 rfl (lv_at hl 4 rfl) ?_
                  refine lv_iload hx hb dX7_setStep_110 (lv_at hl 5 rfl) ?_
                  refine cv_wv (As := [.int (1), .int (x), .int (un), .int (pr)]) (rest := []) (tys := TYS cI cC cB cS) (ci := 7) (wr := [(ma 2, iE cI 2292 (u_26.2.2.2))]) ⟨hx, hb, hml, hown, hts⟩ (c_X7_puts l D cI cC cB cS _ (ma) ((fun j => [nI u_26.1, fi 1, fi 2, fi 3, fi 4, fi 5].getD j 0)) (wd) (g) (lf) (1) (tu) (x) (un) (pr) (by decide) (hu) (hub) (Or.inr h_24)) (cwV 4 hts gX7_setStep_X7_puts rfl rfl rfl (by decide +kernel) ⟨Nat.le_of_ble_eq_true rfl, Nat.le_of_ble_eq_true rfl⟩) hK hP hD hS hA [0, 1] [2] rfl rfl (by decide) (by decide) (by decide) rfl rfl rfl rfl hl.1 (Nat.le_of_ble_eq_true rfl) dX7_setStep_112 ⟨Nat.le_of_ble_eq_true rfl, Nat.le_of_ble_eq_true rfl⟩ (fun u_28 H locs hu_28 hP hD hS => ?_)
                  have hP : va_P D vwCl [(ma 2, iE cI 2292 (u_26.2.2.2)), (ma 0, oE 7 [.ref (ma 1), .ref (ma 2), .int (nI u_26.1), .ref (ma 3), .ref (ma 4), .int (fi 1), .int (fi 2), .int (fi 3), .long (wd), .int (fi 4), .int (fi 5)]), (ma 1, iE cI 382 (enc (wblk g 23 4 u_28) lf))] H := hP
                  have hD : va_D A [(ma 2, iE cI 2292 (u_26.2.2.2)), (ma 0, oE 7 [.ref (ma 1), .ref (ma 2), .int (nI u_26.1), .ref (ma 3), .ref (ma 4), .int (fi 1), .int (fi 2), .int (fi 3), .long (wd), .int (fi 4), .int (fi 5)]), (ma 1, iE cI 382 (enc (wblk g 23 4 u_28) lf))] := hD
                  have hu_28 : TPut (tV g 1) tu (x) (un) (pr) u_28 := hu_28
                  refine lv_aload_n hx hb dX7_setStep_115 rfl (lv_at hl 1 rfl) ?_
                  refine va_get (D := D) (ci := 7) (v := .ref (ma 1)) (C := RX7) (T := TX7) (N := 11) hx hb hts (by decide +kernel) hown hK.1 hP 1 rfl rfl 0 (by decide) (hts (.fieldLink RX7 7 "ParkingGarageModel" "s" "[I") (by decide +kernel)) (fun _ h9 => h9) rfl dX7_setStep_116 ?_
                  refine lv_bipush (v := 14) hx hb dX7_setStep_119 (by decide) ?_
                  refine lv_bipush (v := 16) hx hb dX7_setStep_121 (by decide) ?_
                  refine lv_iload_n hx hb dX7_setStep_123 rfl (lv_at hl 2 rfl) ?_
                  refine lv_imul hx hb dX7_setStep_124 ?_
                  rw [show (((16) * (1)) : Int32) = 16 from by decide]
                  refine lv_iadd hx hb dX7_setStep_125 ?_
                  rw [show (((14) + (16)) : Int32) = 30 from by decide]
                  refine iald_n (f := enc (wblk g 23 4 u_28) lf) hx hb hK.1 hP 2 0 rfl rfl (30) (rfl) (by decide) (by omega) dX7_setStep_126 ?_
                  rw [show enc (wblk g 23 4 u_28) lf (30) = u_28 0 0 from rfl]
                  exact wr_iret (v := u_28 0 0) ((wblk g 23 4 u_28, lf, u_26.1, u_26.2.1, u_26.2.2.1, u_26.2.2.2)) hx hb hr hlocks hS hP hD [1, 2, 0] rfl rfl (by decide) dX7_setStep_127 (⟨some (wblk g 23 4 u_28), Or.inl ⟨⟨h01o, h_4, h_6, h_8⟩, Or.inr ⟨by rw [h0]; decide, Or.inr ⟨c_25, Or.inl ⟨Or.inr h_24, u_28, hu_28, rfl, rfl⟩⟩⟩⟩, Or.inr ⟨_, rfl, rfl, rfl, hu_26.1, hu_26.2⟩⟩)
                · -- c_27: not un ≠ 0
                  exact absurd c_27 c_25
              · -- c_25: not un ≠ 0
                refine lv_iload hx hb dX7_setStep_57 (lv_at hl 0 rfl) ?_
                refine if_ne_t (tgt := 65) hx hb (by decide) dX7_setStep_59 (by decide) ?_
                refine lv_iload hx hb dX7_setStep_65 (lv_at hl 0 rfl) ?_
                refine if_ne_t (tgt := 89) hx hb (by decide) dX7_setStep_67 (by decide) ?_
                refine lv_aload_n hx hb dX7_setStep_89 rfl (lv_at hl 1 rfl) ?_
                refine cv_wv (As := []) (rest := []) (tys := TYS cI cC cB cS) (ci := 7) (wr := []) ⟨hx, hb, hml, hown, hts⟩ (c_X7_notes l D cI cC cB cS _ (ma) ((fun j => [nI np, fi 1, fi 2, fi 3, fi 4, fi 5].getD j 0)) (wd) (g) (lf) (np) (Pp) (hs) (lfs) (hnp) (hPR)) (cwV 0 hts gX7_setStep_X7_notes rfl rfl rfl (by decide +kernel) ⟨Nat.le_of_ble_eq_true rfl, Nat.le_of_ble_eq_true rfl⟩) hK hP hD hS hA [0, 1, 2] [] rfl rfl (by decide) (by decide) (by decide) rfl rfl rfl rfl hl.1 (Nat.le_of_ble_eq_true rfl) dX7_setStep_90 ⟨Nat.le_of_ble_eq_true rfl, Nat.le_of_ble_eq_true rfl⟩ (fun u_29 H locs hu_29 hP hD hS => ?_)
                have hP : va_P D vwCl [(ma 0, oE 7 [.ref (ma 1), .ref (ma 2), .int (nI u_29.1), .ref (ma 3), .ref (ma 4), .int (fi 1), .int (fi 2), .int (fi 3), .long (wd), .int (fi 4), .int (fi 5)]), (ma 1, iE cI 382 (enc g lf)), (ma 2, iE cI 2292 (u_29.2.2.2))] H := hP
                have hD : va_D A [(ma 0, oE 7 [.ref (ma 1), .ref (ma 2), .int (nI u_29.1), .ref (ma 3), .ref (ma 4), .int (fi 1), .int (fi 2), .int (fi 3), .long (wd), .int (fi 4), .int (fi 5)]), (ma 1, iE cI 382 (enc g lf)), (ma 2, iE cI 2292 (u_29.2.2.2))] := hD
                have hu_29 : Sv np hs lfs g lf u_29.1 u_29.2.1 u_29.2.2.1 ∧ PRel u_29.2.2.2 u_29.1 u_29.2.1 u_29.2.2.1 := hu_29
                refine lv_iload_n hx hb dX7_setStep_93 rfl (lv_at hl 4 rfl) ?_
                refine lv_if_ne (tgt := 106) hx hb dX7_setStep_94 (by decide) (fun c_30 => ?_) (fun c_30 => ?_)
                · -- c_30: un ≠ 0
                  exact absurd c_25 c_30
                · -- c_30: not un ≠ 0
                  refine lv_aload_n hx hb dX7_setStep_97 rfl (lv_at hl 1 rfl) ?_
                  refine lv_iload_n hx hb dX7_setStep_98 rfl (lv_at hl 2 rfl) ?_
                  refine lv_iload_n hx hb dX7_setStep_99 rfl (lv_at hl 3 rfl) ?_
                  refine cv_wv (As := [.int (1), .int (x)]) (rest := []) (tys := TYS cI cC cB cS) (ci := 7) (wr := [(ma 2, iE cI 2292 (u_29.2.2.2))]) ⟨hx, hb, hml, hown, hts⟩ (c_X7_drops l D cI cC cB cS _ (ma) ((fun j => [nI u_29.1, fi 1, fi 2, fi 3, fi 4, fi 5].getD j 0)) (wd) (g) (lf) (1) (tu) (x) (by decide) (hu) (hub) (h_24)) (cwV 2 hts gX7_setStep_X7_drops rfl rfl rfl (by decide +kernel) ⟨Nat.le_of_ble_eq_true rfl, Nat.le_of_ble_eq_true rfl⟩) hK hP hD hS hA [0, 1] [2] rfl rfl (by decide) (by decide) (by decide) rfl rfl rfl rfl hl.1 (Nat.le_of_ble_eq_true rfl) dX7_setStep_100 ⟨Nat.le_of_ble_eq_true rfl, Nat.le_of_ble_eq_true rfl⟩ (fun u_31 H locs hu_31 hP hD hS => ?_)
                  have hP : va_P D vwCl [(ma 2, iE cI 2292 (u_29.2.2.2)), (ma 0, oE 7 [.ref (ma 1), .ref (ma 2), .int (nI u_29.1), .ref (ma 3), .ref (ma 4), .int (fi 1), .int (fi 2), .int (fi 3), .long (wd), .int (fi 4), .int (fi 5)]), (ma 1, iE cI 382 (enc (wblk g 23 4 u_31) lf))] H := hP
                  have hD : va_D A [(ma 2, iE cI 2292 (u_29.2.2.2)), (ma 0, oE 7 [.ref (ma 1), .ref (ma 2), .int (nI u_29.1), .ref (ma 3), .ref (ma 4), .int (fi 1), .int (fi 2), .int (fi 3), .long (wd), .int (fi 4), .int (fi 5)]), (ma 1, iE cI 382 (enc (wblk g 23 4 u_31) lf))] := hD
                  have hu_31 : TRem (tV g 1) tu (x) u_31 := hu_31
                  refine lv_goto (tgt := 115) hx hb dX7_setStep_103 (by decide) ?_
                  refine lv_aload_n hx hb dX7_setStep_115 rfl (lv_at hl 1 rfl) ?_
                  refine va_get (D := D) (ci := 7) (v := .ref (ma 1)) (C := RX7) (T := TX7) (N := 11) hx hb hts (by decide +kernel) hown hK.1 hP 1 rfl rfl 0 (by decide) (hts (.fieldLink RX7 7 "ParkingGarageModel" "s" "[I") (by decide +kernel)) (fun _ h9 => h9) rfl dX7_setStep_116 ?_
                  refine lv_bipush (v := 14) hx hb dX7_setStep_119 (by decide) ?_
                  refine lv_bipush (v := 16) hx hb dX7_setStep_121 (by decide) ?_
                  refine lv_iload_n hx hb dX7_setStep_123 rfl (lv_at hl 2 rfl) ?_
                  refine lv_imul hx hb dX7_setStep_124 ?_
                  rw [show (((16) * (1)) : Int32) = 16 from by decide]
                  refine lv_iadd hx hb dX7_setStep_125 ?_
                  rw [show (((14) + (16)) : Int32) = 30 from by decide]
                  refine iald_n (f := enc (wblk g 23 4 u_31) lf) hx hb hK.1 hP 2 0 rfl rfl (30) (rfl) (by decide) (by omega) dX7_setStep_126 ?_
                  rw [show enc (wblk g 23 4 u_31) lf (30) = u_31 0 0 from rfl]
                  exact wr_iret (v := u_31 0 0) ((wblk g 23 4 u_31, lf, u_29.1, u_29.2.1, u_29.2.2.1, u_29.2.2.2)) hx hb hr hlocks hS hP hD [1, 2, 0] rfl rfl (by decide) dX7_setStep_127 (⟨some (wblk g 23 4 u_31), Or.inl ⟨⟨h01o, h_4, h_6, h_8⟩, Or.inr ⟨by rw [h0]; decide, Or.inl ⟨c_25, Or.inl ⟨h_24, u_31, hu_31, rfl, rfl⟩⟩⟩⟩, Or.inr ⟨_, rfl, rfl, rfl, hu_29.1, hu_29.2⟩⟩)
            · -- X7_hasStep f
              refine lv_istore (lv' := [(5, .int (0)), (0, .ref (ma 0)), (1, .int (1)), (2, .int (x)), (3, .int (un)), (4, .int (pr))]) hx hb dX7_setStep_51 hl (by decide) rfl (fun ls hl => ?_)
              refine lv_iload_n hx hb dX7_setStep_53 rfl (lv_at hl 4 rfl) ?_
              refine lv_if_ne (tgt := 65) hx hb dX7_setStep_54 (by decide) (fun c_32 => ?_) (fun c_32 => ?_)
              · -- c_32: un ≠ 0
                refine lv_iload hx hb dX7_setStep_65 (lv_at hl 0 rfl) ?_
                refine if_ne_f (tgt := 89) hx hb rfl dX7_setStep_67 (by decide) ?_
                refine lv_aload_n hx hb dX7_setStep_70 rfl (lv_at hl 1 rfl) ?_
                refine va_get (D := D) (ci := 7) (v := .ref (ma 1)) (C := RX7) (T := TX7) (N := 11) hx hb hts (by decide +kernel) hown hK.1 hP 0 rfl rfl 0 (by decide) (hts (.fieldLink RX7 7 "ParkingGarageModel" "s" "[I") (by decide +kernel)) (fun _ h9 => h9) rfl dX7_setStep_71 ?_
                refine lv_bipush (v := 14) hx hb dX7_setStep_74 (by decide) ?_
                refine lv_bipush (v := 16) hx hb dX7_setStep_76 (by decide) ?_
                refine lv_iload_n hx hb dX7_setStep_78 rfl (lv_at hl 2 rfl) ?_
                refine lv_imul hx hb dX7_setStep_79 ?_
                rw [show (((16) * (1)) : Int32) = 16 from by decide]
                refine lv_iadd hx hb dX7_setStep_80 ?_
                rw [show (((14) + (16)) : Int32) = 30 from by decide]
                refine iald_n (f := enc g lf) hx hb hK.1 hP 1 0 rfl rfl (30) (rfl) (by decide) (by omega) dX7_setStep_81 ?_
                rw [show enc g lf (30) = nI tu from hu]
                refine lv_iconst (v := 5) hx hb dX7_setStep_82 (by decide) ?_
                refine lv_icmp_ne (tgt := 89) hx hb dX7_setStep_83 (by decide) (fun c_33 => ?_) (fun c_33 => ?_)
                · -- c_33: nI tu ≠ 5
                  refine lv_aload_n hx hb dX7_setStep_89 rfl (lv_at hl 1 rfl) ?_
                  refine cv_wv (As := []) (rest := []) (tys := TYS cI cC cB cS) (ci := 7) (wr := []) ⟨hx, hb, hml, hown, hts⟩ (c_X7_notes l D cI cC cB cS _ (ma) ((fun j => [nI np, fi 1, fi 2, fi 3, fi 4, fi 5].getD j 0)) (wd) (g) (lf) (np) (Pp) (hs) (lfs) (hnp) (hPR)) (cwV 0 hts gX7_setStep_X7_notes rfl rfl rfl (by decide +kernel) ⟨Nat.le_of_ble_eq_true rfl, Nat.le_of_ble_eq_true rfl⟩) hK hP hD hS hA [0, 1, 2] [] rfl rfl (by decide) (by decide) (by decide) rfl rfl rfl rfl hl.1 (Nat.le_of_ble_eq_true rfl) dX7_setStep_90 ⟨Nat.le_of_ble_eq_true rfl, Nat.le_of_ble_eq_true rfl⟩ (fun u_34 H locs hu_34 hP hD hS => ?_)
                  have hP : va_P D vwCl [(ma 0, oE 7 [.ref (ma 1), .ref (ma 2), .int (nI u_34.1), .ref (ma 3), .ref (ma 4), .int (fi 1), .int (fi 2), .int (fi 3), .long (wd), .int (fi 4), .int (fi 5)]), (ma 1, iE cI 382 (enc g lf)), (ma 2, iE cI 2292 (u_34.2.2.2))] H := hP
                  have hD : va_D A [(ma 0, oE 7 [.ref (ma 1), .ref (ma 2), .int (nI u_34.1), .ref (ma 3), .ref (ma 4), .int (fi 1), .int (fi 2), .int (fi 3), .long (wd), .int (fi 4), .int (fi 5)]), (ma 1, iE cI 382 (enc g lf)), (ma 2, iE cI 2292 (u_34.2.2.2))] := hD
                  have hu_34 : Sv np hs lfs g lf u_34.1 u_34.2.1 u_34.2.2.1 ∧ PRel u_34.2.2.2 u_34.1 u_34.2.1 u_34.2.2.1 := hu_34
                  refine lv_iload_n hx hb dX7_setStep_93 rfl (lv_at hl 4 rfl) ?_
                  refine lv_if_ne (tgt := 106) hx hb dX7_setStep_94 (by decide) (fun c_35 => ?_) (fun c_35 => ?_)
                  · -- c_35: un ≠ 0
                    refine lv_aload_n hx hb dX7_setStep_106 rfl (lv_at hl 1 rfl) ?_
                    refine lv_iload_n hx hb dX7_setStep_107 rfl (lv_at hl 2 rfl) ?_
                    refine lv_iload_n hx hb dX7_setStep_108 rfl (lv_at hl 3 rfl) ?_
                    refine lv_iload_n hx hb dX7_setStep_109 rfl (lv_at hl 4 rfl) ?_
                    refine lv_iload hx hb dX7_setStep_110 (lv_at hl 5 rfl) ?_
                    refine cv_wv (As := [.int (1), .int (x), .int (un), .int (pr)]) (rest := []) (tys := TYS cI cC cB cS) (ci := 7) (wr := [(ma 2, iE cI 2292 (u_34.2.2.2))]) ⟨hx, hb, hml, hown, hts⟩ (c_X7_puts l D cI cC cB cS _ (ma) ((fun j => [nI u_34.1, fi 1, fi 2, fi 3, fi 4, fi 5].getD j 0)) (wd) (g) (lf) (1) (tu) (x) (un) (pr) (by decide) (hu) (hub) (Or.inl (Nat.lt_of_le_of_ne hub (fun q => c_33 (by rw [q]; rfl))))) (cwV 4 hts gX7_setStep_X7_puts rfl rfl rfl (by decide +kernel) ⟨Nat.le_of_ble_eq_true rfl, Nat.le_of_ble_eq_true rfl⟩) hK hP hD hS hA [0, 1] [2] rfl rfl (by decide) (by decide) (by decide) rfl rfl rfl rfl hl.1 (Nat.le_of_ble_eq_true rfl) dX7_setStep_112 ⟨Nat.le_of_ble_eq_true rfl, Nat.le_of_ble_eq_true rfl⟩ (fun u_36 H locs hu_36 hP hD hS => ?_)
                    have hP : va_P D vwCl [(ma 2, iE cI 2292 (u_34.2.2.2)), (ma 0, oE 7 [.ref (ma 1), .ref (ma 2), .int (nI u_34.1), .ref (ma 3), .ref (ma 4), .int (fi 1), .int (fi 2), .int (fi 3), .long (wd), .int (fi 4), .int (fi 5)]), (ma 1, iE cI 382 (enc (wblk g 23 4 u_36) lf))] H := hP
                    have hD : va_D A [(ma 2, iE cI 2292 (u_34.2.2.2)), (ma 0, oE 7 [.ref (ma 1), .ref (ma 2), .int (nI u_34.1), .ref (ma 3), .ref (ma 4), .int (fi 1), .int (fi 2), .int (fi 3), .long (wd), .int (fi 4), .int (fi 5)]), (ma 1, iE cI 382 (enc (wblk g 23 4 u_36) lf))] := hD
                    have hu_36 : TPut (tV g 1) tu (x) (un) (pr) u_36 := hu_36
                    refine lv_aload_n hx hb dX7_setStep_115 rfl (lv_at hl 1 rfl) ?_
                    refine va_get (D := D) (ci := 7) (v := .ref (ma 1)) (C := RX7) (T := TX7) (N := 11) hx hb hts (by decide +kernel) hown hK.1 hP 1 rfl rfl 0 (by decide) (hts (.fieldLink RX7 7 "ParkingGarageModel" "s" "[I") (by decide +kernel)) (fun _ h9 => h9) rfl dX7_setStep_116 ?_
                    refine lv_bipush (v := 14) hx hb dX7_setStep_119 (by decide) ?_
                    refine lv_bipush (v := 16) hx hb dX7_setStep_121 (by decide) ?_
                    refine lv_iload_n hx hb dX7_setStep_123 rfl (lv_at hl 2 rfl) ?_
                    refine lv_imul hx hb dX7_setStep_124 ?_
                    rw [show (((16) * (1)) : Int32) = 16 from by decide]
                    refine lv_iadd hx hb dX7_setStep_125 ?_
                    rw [show (((14) + (16)) : Int32) = 30 from by decide]
                    refine iald_n (f := enc (wblk g 23 4 u_36) lf) hx hb hK.1 hP 2 0 rfl rfl (30) (rfl) (by decide) (by omega) dX7_setStep_126 ?_
                    rw [show enc (wblk g 23 4 u_36) lf (30) = u_36 0 0 from rfl]
                    exact wr_iret (v := u_36 0 0) ((wblk g 23 4 u_36, lf, u_34.1, u_34.2.1, u_34.2.2.1, u_34.2.2.2)) hx hb hr hlocks hS hP hD [1, 2, 0] rfl rfl (by decide) dX7_setStep_127 (⟨some (wblk g 23 4 u_36), Or.inl ⟨⟨h01o, h_4, h_6, h_8⟩, Or.inr ⟨by rw [h0]; decide, Or.inr ⟨c_32, Or.inl ⟨Or.inl (Nat.lt_of_le_of_ne hub (fun q => c_33 (by rw [q]; rfl))), u_36, hu_36, rfl, rfl⟩⟩⟩⟩, Or.inr ⟨_, rfl, rfl, rfl, hu_34.1, hu_34.2⟩⟩)
                  · -- c_35: not un ≠ 0
                    exact absurd c_35 c_32
                · -- c_33: not nI tu ≠ 5
                  refine lv_bipush (v := -3) hx hb dX7_setStep_86 (by decide) ?_
                  exact wr_iret (v := -3) ((g, lf, np, hs, lfs, Pp)) hx hb hr hlocks hS hP hD [0, 1, 2] rfl rfl (by decide) dX7_setStep_88 (⟨none, Or.inl ⟨⟨h01o, h_4, h_6, h_8⟩, Or.inr ⟨by rw [h0]; decide, Or.inr ⟨c_32, Or.inr ⟨fun q => q.elim (fun q => by have := (nI_eq (a := tu) (b := 5) (by omega) (by omega)).mp c_33; omega) h_24, ⟨rfl, rfl⟩⟩⟩⟩⟩, Or.inl ⟨rfl, rfl⟩⟩)
              · -- c_32: not un ≠ 0
                refine lv_iload hx hb dX7_setStep_57 (lv_at hl 0 rfl) ?_
                refine if_ne_f (tgt := 65) hx hb rfl dX7_setStep_59 (by decide) ?_
                refine lv_bipush (v := -2) hx hb dX7_setStep_62 (by decide) ?_
                exact wr_iret (v := -2) ((g, lf, np, hs, lfs, Pp)) hx hb hr hlocks hS hP hD [0, 1, 2] rfl rfl (by decide) dX7_setStep_64 (⟨none, Or.inl ⟨⟨h01o, h_4, h_6, h_8⟩, Or.inr ⟨by rw [h0]; decide, Or.inl ⟨c_32, Or.inr ⟨h_24, ⟨rfl, rfl⟩⟩⟩⟩⟩, Or.inl ⟨rfl, rfl⟩⟩)
        · -- X7_in f
          refine if_ne_f (tgt := 45) hx hb rfl dX7_setStep_40 (by decide) ?_
          refine lv_iconst (v := -1) hx hb dX7_setStep_43 (by decide) ?_
          exact wr_iret (v := -1) ((g, lf, np, hs, lfs, Pp)) hx hb hr hlocks hS hP hD [0, 1, 2] rfl rfl (by decide) dX7_setStep_44 (⟨none, Or.inr ⟨fun q => h_8 q.2.2.2, rfl, rfl⟩, Or.inl ⟨rfl, rfl⟩⟩)
      · -- X7_in f
        refine if_eq_t (tgt := 43) hx hb rfl dX7_setStep_28 (by decide) ?_
        refine lv_iconst (v := -1) hx hb dX7_setStep_43 (by decide) ?_
        exact wr_iret (v := -1) ((g, lf, np, hs, lfs, Pp)) hx hb hr hlocks hS hP hD [0, 1, 2] rfl rfl (by decide) dX7_setStep_44 (⟨none, Or.inr ⟨fun q => h_6 q.2.2.1, rfl, rfl⟩, Or.inl ⟨rfl, rfl⟩⟩)
    · -- X7_in f
      refine if_eq_t (tgt := 43) hx hb rfl dX7_setStep_17 (by decide) ?_
      refine lv_iconst (v := -1) hx hb dX7_setStep_43 (by decide) ?_
      exact wr_iret (v := -1) ((g, lf, np, hs, lfs, Pp)) hx hb hr hlocks hS hP hD [0, 1, 2] rfl rfl (by decide) dX7_setStep_44 (⟨none, Or.inr ⟨fun q => h_4 q.2.1, rfl, rfl⟩, Or.inl ⟨rfl, rfl⟩⟩)
  · -- X7_in f
    refine if_eq_t (tgt := 43) hx hb rfl dX7_setStep_6 (by decide) ?_
    refine lv_iconst (v := -1) hx hb dX7_setStep_43 (by decide) ?_
    exact wr_iret (v := -1) ((g, lf, np, hs, lfs, Pp)) hx hb hr hlocks hS hP hD [0, 1, 2] rfl rfl (by decide) dX7_setStep_44 (⟨none, Or.inr ⟨fun q => h_2 (wi01_iff.mpr q.1), rfl, rfl⟩, Or.inl ⟨rfl, rfl⟩⟩)
set_option maxHeartbeats 4000000 in
set_option maxRecDepth 100000 in
theorem c_X7_setNumber (l : Launch) (D : va_G) (cI cC cB cS : ClassId) (zz : Nat) (ma : Nat → Nat) (fi : Nat → Int32) (wd : Int64) (g : Nat → Nat → Int32) (lf : Int32) (np : Nat) (Pp : Nat → Int32) (hs : Nat → Nat → Nat → Int32) (lfs : Nat → Int32) (wh : Int32) (val : Int32) (hnp : np ≤ 6) (hPR : PRel Pp np hs lfs) : Met l yX7_setNumber wsX7_setNumber ({ frames := 1, cells := 0, slots := 0, locals := 22 } : Room) (wrPc D (TYS cI cC cB cS) [.ref (ma 0), .int (wh), .int (val)] ([(ma 0, oE 7 [.ref (ma 1), .ref (ma 2), .int (nI np), .ref (ma 3), .ref (ma 4), .int (fi 1), .int (fi 2), .int (fi 3), .long (wd), .int (fi 4), .int (fi 5)]), (ma 1, iE cI 382 (enc g lf)), (ma 2, iE cI 2292 (Pp))]) zz) (va_Qi (fun (r : Int32) (u : MWT) => ∃ o2, OsetNumber g wh val r o2 ∧ SvM g lf (lf) np hs lfs Pp o2 u) (wrB D (va_A ([(ma 0, oE 7 [.ref (ma 1), .ref (ma 2), .int (nI np), .ref (ma 3), .ref (ma 4), .int (fi 1), .int (fi 2), .int (fi 3), .long (wd), .int (fi 4), .int (fi 5)]), (ma 1, iE cI 382 (enc g lf)), (ma 2, iE cI 2292 (Pp))]) zz) (fun u => [(ma 0, oE 7 [.ref (ma 1), .ref (ma 2), .int (nI u.2.2.1), .ref (ma 3), .ref (ma 4), .int (fi 1), .int (fi 2), .int (fi 3), .long (wd), .int (fi 4), .int (fi 5)]), (ma 1, iE cI 382 (enc u.1 u.2.1)), (ma 2, iE cI 2292 (u.2.2.2.2.2))])) (va_A ([(ma 0, oE 7 [.ref (ma 1), .ref (ma 2), .int (nI np), .ref (ma 3), .ref (ma 4), .int (fi 1), .int (fi 2), .int (fi 3), .long (wd), .int (fi 4), .int (fi 5)]), (ma 1, iE cI 382 (enc g lf)), (ma 2, iE cI 2292 (Pp))]) zz)) 0 0 (va_A ([(ma 0, oE 7 [.ref (ma 1), .ref (ma 2), .int (nI np), .ref (ma 3), .ref (ma 4), .int (fi 1), .int (fi 2), .int (fi 3), .long (wd), .int (fi 4), .int (fi 5)]), (ma 1, iE cI 382 (enc g lf)), (ma 2, iE cI 2292 (Pp))]) zz) := by
  refine wr_intro (Qc := fun A B => va_Qi (fun (r : Int32) (u : MWT) => ∃ o2, OsetNumber g wh val r o2 ∧ SvM g lf (lf) np hs lfs Pp o2 u) B A) (by decide) rfl (Nat.le_of_ble_eq_true rfl) ?_
  intro p e s m below meth c A hx hb hr hml hts hown hlocks hin hP hK hD hA hS ls hl
  have hP : va_P D vwCl [(ma 0, oE 7 [.ref (ma 1), .ref (ma 2), .int (nI np), .ref (ma 3), .ref (ma 4), .int (fi 1), .int (fi 2), .int (fi 3), .long (wd), .int (fi 4), .int (fi 5)]), (ma 1, iE cI 382 (enc g lf)), (ma 2, iE cI 2292 (Pp))] s.heap := hP
  have hD : va_D A [(ma 0, oE 7 [.ref (ma 1), .ref (ma 2), .int (nI np), .ref (ma 3), .ref (ma 4), .int (fi 1), .int (fi 2), .int (fi 3), .long (wd), .int (fi 4), .int (fi 5)]), (ma 1, iE cI 382 (enc g lf)), (ma 2, iE cI 2292 (Pp))] := hD
  have hown : s.vm.findClass RX7 = some m.cls := hown
  have hl : lv_has ls 4 [(0, .ref (ma 0)), (1, .int (wh)), (2, .int (val))] := hl
  refine lv_iload_n hx hb dX7_setNumber_0 rfl (lv_at hl 1 rfl) ?_
  refine lv_iconst (v := 0) hx hb dX7_setNumber_1 (by decide) ?_
  refine lv_iconst (v := 4) hx hb dX7_setNumber_2 (by decide) ?_
  refine cs_i (As := [.int (wh), .int (0), .int (4)]) (rest := []) (tys := TYS cI cC cB cS) ⟨hx, hb, hml, hown, hts⟩ (c_X7_in l D cI cC cB cS (wh) (0) (4)) (va_cwS 3 hts gX7_setNumber_X7_in rfl rfl rfl (by decide +kernel) ⟨Nat.le_of_ble_eq_true rfl, Nat.le_of_ble_eq_true rfl⟩) hK hP [] rfl rfl rfl hl.1 (Nat.le_of_ble_eq_true rfl) dX7_setNumber_3 ⟨Nat.le_of_ble_eq_true rfl, Nat.le_of_ble_eq_true rfl⟩ (fun r_1 hr_1 => ?_)
  rcases (show Yes (0 ≤ wh ∧ wh ≤ 4) r_1 from hr_1) with ⟨rfl, h_2⟩ | ⟨rfl, h_2⟩
  · -- X7_in t
    obtain ⟨w, hw, hwe⟩ := wi_k (N := 4) (by omega) h_2
    rcases (show w = 0 ∨ w = 1 ∨ w = 2 ∨ w = 3 ∨ w = 4 by omega) with rfl | rfl | rfl | rfl | rfl
    · -- 0
      have hwe : wh = 0 := hwe
      have hl : lv_has ls 4 [(0, .ref (ma 0)), (1, .int (0)), (2, .int (val))] := by first | (rw [← hwe]; exact hl) | (have e := hl; rw [hwe] at e; exact e)
      refine if_eq_f (tgt := 29) hx hb (by decide) dX7_setNumber_6 (by decide) ?_
      refine lv_iload_n hx hb dX7_setNumber_9 rfl (lv_at hl 2 rfl) ?_
      refine lv_iload_n hx hb dX7_setNumber_10 rfl (lv_at hl 1 rfl) ?_
      refine if_ne_f (tgt := 18) hx hb rfl dX7_setNumber_11 (by decide) ?_
      refine lv_iconst (v := 1) hx hb dX7_setNumber_14 (by decide) ?_
      refine lv_goto (tgt := 19) hx hb dX7_setNumber_15 (by decide) ?_
      refine lv_iload_n hx hb dX7_setNumber_19 rfl (lv_at hl 1 rfl) ?_
      refine cs_i (As := [.int (0)]) (rest := [.int (1), .int (val)]) (tys := TYS cI cC cB cS) ⟨hx, hb, hml, hown, hts⟩ (c_X7_most l D cI cC cB cS (0)) (va_cwS 1 hts gX7_setNumber_X7_most rfl rfl rfl (by decide +kernel) ⟨Nat.le_of_ble_eq_true rfl, Nat.le_of_ble_eq_true rfl⟩) hK hP [] rfl rfl rfl hl.1 (Nat.le_of_ble_eq_true rfl) dX7_setNumber_20 ⟨Nat.le_of_ble_eq_true rfl, Nat.le_of_ble_eq_true rfl⟩ (fun r_3 hr_3 => ?_)
      have hr_3 : r_3 = if 0 = 0 then 200 else if 0 = 1 then 120 else if 0 = 2 then 60 else 99999 := hr_3
      subst hr_3
      rw [show ((if 0 = 0 then 200 else if 0 = 1 then 120 else if 0 = 2 then 60 else 99999) : Int32) = 200 from by decide]
      refine cs_i (As := [.int (val), .int (1), .int (200)]) (rest := []) (tys := TYS cI cC cB cS) ⟨hx, hb, hml, hown, hts⟩ (c_X7_in l D cI cC cB cS (val) (1) (200)) (va_cwS 3 hts gX7_setNumber_X7_in rfl rfl rfl (by decide +kernel) ⟨Nat.le_of_ble_eq_true rfl, Nat.le_of_ble_eq_true rfl⟩) hK hP [] rfl rfl rfl hl.1 (Nat.le_of_ble_eq_true rfl) dX7_setNumber_23 ⟨Nat.le_of_ble_eq_true rfl, Nat.le_of_ble_eq_true rfl⟩ (fun r_4 hr_4 => ?_)
      rcases (show Yes (1 ≤ val ∧ val ≤ 200) r_4 from hr_4) with ⟨rfl, h_5⟩ | ⟨rfl, h_5⟩
      · -- X7_in t
        refine if_ne_t (tgt := 31) hx hb (by decide) dX7_setNumber_26 (by decide) ?_
        refine lv_aload_n hx hb dX7_setNumber_31 rfl (lv_at hl 0 rfl) ?_
        refine cv_wv (As := []) (rest := []) (tys := TYS cI cC cB cS) (ci := 7) (wr := []) ⟨hx, hb, hml, hown, hts⟩ (c_X7_notes l D cI cC cB cS _ (ma) ((fun j => [nI np, fi 1, fi 2, fi 3, fi 4, fi 5].getD j 0)) (wd) (g) (lf) (np) (Pp) (hs) (lfs) (hnp) (hPR)) (cwV 0 hts gX7_setNumber_X7_notes rfl rfl rfl (by decide +kernel) ⟨Nat.le_of_ble_eq_true rfl, Nat.le_of_ble_eq_true rfl⟩) hK hP hD hS hA [0, 1, 2] [] rfl rfl (by decide) (by decide) (by decide) rfl rfl rfl rfl hl.1 (Nat.le_of_ble_eq_true rfl) dX7_setNumber_32 ⟨Nat.le_of_ble_eq_true rfl, Nat.le_of_ble_eq_true rfl⟩ (fun u_6 H locs hu_6 hP hD hS => ?_)
        have hP : va_P D vwCl [(ma 0, oE 7 [.ref (ma 1), .ref (ma 2), .int (nI u_6.1), .ref (ma 3), .ref (ma 4), .int (fi 1), .int (fi 2), .int (fi 3), .long (wd), .int (fi 4), .int (fi 5)]), (ma 1, iE cI 382 (enc g lf)), (ma 2, iE cI 2292 (u_6.2.2.2))] H := hP
        have hD : va_D A [(ma 0, oE 7 [.ref (ma 1), .ref (ma 2), .int (nI u_6.1), .ref (ma 3), .ref (ma 4), .int (fi 1), .int (fi 2), .int (fi 3), .long (wd), .int (fi 4), .int (fi 5)]), (ma 1, iE cI 382 (enc g lf)), (ma 2, iE cI 2292 (u_6.2.2.2))] := hD
        have hu_6 : Sv np hs lfs g lf u_6.1 u_6.2.1 u_6.2.2.1 ∧ PRel u_6.2.2.2 u_6.1 u_6.2.1 u_6.2.2.1 := hu_6
        refine lv_aload_n hx hb dX7_setNumber_35 rfl (lv_at hl 0 rfl) ?_
        refine va_get (D := D) (ci := 7) (v := .ref (ma 1)) (C := RX7) (T := TX7) (N := 11) hx hb hts (by decide +kernel) hown hK.1 hP 0 rfl rfl 0 (by decide) (hts (.fieldLink RX7 7 "ParkingGarageModel" "s" "[I") (by decide +kernel)) (fun _ h9 => h9) rfl dX7_setNumber_36 ?_
        refine lv_iconst (v := 5) hx hb dX7_setNumber_39 (by decide) ?_
        refine lv_iload_n hx hb dX7_setNumber_40 rfl (lv_at hl 1 rfl) ?_
        refine lv_iadd hx hb dX7_setNumber_41 ?_
        rw [show (((5) + (0)) : Int32) = 5 from by decide]
        refine iald_n (f := enc g lf) hx hb hK.1 hP 1 0 rfl rfl (5) (rfl) (by decide) (by omega) dX7_setNumber_42 ?_
        rw [show enc g lf (5) = g 1 0 from rfl]
        refine lv_istore_n (lv' := [(3, .int (g 1 0)), (0, .ref (ma 0)), (1, .int (0)), (2, .int (val))]) hx hb dX7_setNumber_43 rfl hl (by decide) rfl (fun ls hl => ?_)
        refine lv_aload_n hx hb dX7_setNumber_44 rfl (lv_at hl 1 rfl) ?_
        refine va_get (D := D) (ci := 7) (v := .ref (ma 1)) (C := RX7) (T := TX7) (N := 11) hx hb hts (by decide +kernel) hown hK.1 hP 0 rfl rfl 0 (by decide) (hts (.fieldLink RX7 7 "ParkingGarageModel" "s" "[I") (by decide +kernel)) (fun _ h9 => h9) rfl dX7_setNumber_45 ?_
        refine lv_iconst (v := 5) hx hb dX7_setNumber_48 (by decide) ?_
        refine lv_iload_n hx hb dX7_setNumber_49 rfl (lv_at hl 2 rfl) ?_
        refine lv_iadd hx hb dX7_setNumber_50 ?_
        rw [show (((5) + (0)) : Int32) = 5 from by decide]
        refine lv_iload_n hx hb dX7_setNumber_51 rfl (lv_at hl 3 rfl) ?_
        refine iast_n (f := enc g lf) hx hb hK.1 hP hD hS 1 0 rfl rfl (5) (rfl) (by decide) (by omega) dX7_setNumber_52 (fun H locs hP hD hS => ?_)
        rw [enc_up 1 0 (by omega) (rfl)] at hP hD
        have hP : va_P D vwCl [(ma 0, oE 7 [.ref (ma 1), .ref (ma 2), .int (nI u_6.1), .ref (ma 3), .ref (ma 4), .int (fi 1), .int (fi 2), .int (fi 3), .long (wd), .int (fi 4), .int (fi 5)]), (ma 1, iE cI 382 (enc (w2 g 1 (upd (g 1) 0 (val))) lf)), (ma 2, iE cI 2292 (u_6.2.2.2))] H := hP
        have hD : va_D A [(ma 0, oE 7 [.ref (ma 1), .ref (ma 2), .int (nI u_6.1), .ref (ma 3), .ref (ma 4), .int (fi 1), .int (fi 2), .int (fi 3), .long (wd), .int (fi 4), .int (fi 5)]), (ma 1, iE cI 382 (enc (w2 g 1 (upd (g 1) 0 (val))) lf)), (ma 2, iE cI 2292 (u_6.2.2.2))] := hD
        refine lv_iload_n hx hb dX7_setNumber_53 rfl (lv_at hl 0 rfl) ?_
        exact wr_iret (v := g 1 0) ((w2 g 1 (upd (g 1) 0 val), lf, u_6.1, u_6.2.1, u_6.2.2.1, u_6.2.2.2)) hx hb hr hlocks hS hP hD [0, 1, 2] rfl rfl (by decide) dX7_setNumber_54 (⟨some (w2 g 1 (upd (g 1) 0 val)), Or.inl ⟨⟨0, by decide, hwe, h_5⟩, 0, by decide, hwe, rfl, rfl⟩, Or.inr ⟨_, rfl, rfl, rfl, hu_6.1, hu_6.2⟩⟩)
      · -- X7_in f
        refine if_ne_f (tgt := 31) hx hb rfl dX7_setNumber_26 (by decide) ?_
        refine lv_iconst (v := -1) hx hb dX7_setNumber_29 (by decide) ?_
        exact wr_iret (v := -1) ((g, lf, np, hs, lfs, Pp)) hx hb hr hlocks hS hP hD [0, 1, 2] rfl rfl (by decide) dX7_setNumber_30 (⟨none, Or.inr ⟨fun ⟨j, h1, h2, h3⟩ => by have e9 := nI_inj (a := 0) (by omega) (by omega) (hwe.symm.trans h2); subst e9; exact h_5 h3, rfl, rfl⟩, Or.inl ⟨rfl, rfl⟩⟩)
    · -- 1
      have hwe : wh = 1 := hwe
      have hl : lv_has ls 4 [(0, .ref (ma 0)), (1, .int (1)), (2, .int (val))] := by first | (rw [← hwe]; exact hl) | (have e := hl; rw [hwe] at e; exact e)
      refine if_eq_f (tgt := 29) hx hb (by decide) dX7_setNumber_6 (by decide) ?_
      refine lv_iload_n hx hb dX7_setNumber_9 rfl (lv_at hl 2 rfl) ?_
      refine lv_iload_n hx hb dX7_setNumber_10 rfl (lv_at hl 1 rfl) ?_
      refine if_ne_t (tgt := 18) hx hb (by decide) dX7_setNumber_11 (by decide) ?_
      refine lv_iconst (v := 0) hx hb dX7_setNumber_18 (by decide) ?_
      refine lv_iload_n hx hb dX7_setNumber_19 rfl (lv_at hl 1 rfl) ?_
      refine cs_i (As := [.int (1)]) (rest := [.int (0), .int (val)]) (tys := TYS cI cC cB cS) ⟨hx, hb, hml, hown, hts⟩ (c_X7_most l D cI cC cB cS (1)) (va_cwS 1 hts gX7_setNumber_X7_most rfl rfl rfl (by decide +kernel) ⟨Nat.le_of_ble_eq_true rfl, Nat.le_of_ble_eq_true rfl⟩) hK hP [] rfl rfl rfl hl.1 (Nat.le_of_ble_eq_true rfl) dX7_setNumber_20 ⟨Nat.le_of_ble_eq_true rfl, Nat.le_of_ble_eq_true rfl⟩ (fun r_7 hr_7 => ?_)
      have hr_7 : r_7 = if 1 = 0 then 200 else if 1 = 1 then 120 else if 1 = 2 then 60 else 99999 := hr_7
      subst hr_7
      rw [show ((if 1 = 0 then 200 else if 1 = 1 then 120 else if 1 = 2 then 60 else 99999) : Int32) = 120 from by decide]
      refine cs_i (As := [.int (val), .int (0), .int (120)]) (rest := []) (tys := TYS cI cC cB cS) ⟨hx, hb, hml, hown, hts⟩ (c_X7_in l D cI cC cB cS (val) (0) (120)) (va_cwS 3 hts gX7_setNumber_X7_in rfl rfl rfl (by decide +kernel) ⟨Nat.le_of_ble_eq_true rfl, Nat.le_of_ble_eq_true rfl⟩) hK hP [] rfl rfl rfl hl.1 (Nat.le_of_ble_eq_true rfl) dX7_setNumber_23 ⟨Nat.le_of_ble_eq_true rfl, Nat.le_of_ble_eq_true rfl⟩ (fun r_8 hr_8 => ?_)
      rcases (show Yes (0 ≤ val ∧ val ≤ 120) r_8 from hr_8) with ⟨rfl, h_9⟩ | ⟨rfl, h_9⟩
      · -- X7_in t
        refine if_ne_t (tgt := 31) hx hb (by decide) dX7_setNumber_26 (by decide) ?_
        refine lv_aload_n hx hb dX7_setNumber_31 rfl (lv_at hl 0 rfl) ?_
        refine cv_wv (As := []) (rest := []) (tys := TYS cI cC cB cS) (ci := 7) (wr := []) ⟨hx, hb, hml, hown, hts⟩ (c_X7_notes l D cI cC cB cS _ (ma) ((fun j => [nI np, fi 1, fi 2, fi 3, fi 4, fi 5].getD j 0)) (wd) (g) (lf) (np) (Pp) (hs) (lfs) (hnp) (hPR)) (cwV 0 hts gX7_setNumber_X7_notes rfl rfl rfl (by decide +kernel) ⟨Nat.le_of_ble_eq_true rfl, Nat.le_of_ble_eq_true rfl⟩) hK hP hD hS hA [0, 1, 2] [] rfl rfl (by decide) (by decide) (by decide) rfl rfl rfl rfl hl.1 (Nat.le_of_ble_eq_true rfl) dX7_setNumber_32 ⟨Nat.le_of_ble_eq_true rfl, Nat.le_of_ble_eq_true rfl⟩ (fun u_10 H locs hu_10 hP hD hS => ?_)
        have hP : va_P D vwCl [(ma 0, oE 7 [.ref (ma 1), .ref (ma 2), .int (nI u_10.1), .ref (ma 3), .ref (ma 4), .int (fi 1), .int (fi 2), .int (fi 3), .long (wd), .int (fi 4), .int (fi 5)]), (ma 1, iE cI 382 (enc g lf)), (ma 2, iE cI 2292 (u_10.2.2.2))] H := hP
        have hD : va_D A [(ma 0, oE 7 [.ref (ma 1), .ref (ma 2), .int (nI u_10.1), .ref (ma 3), .ref (ma 4), .int (fi 1), .int (fi 2), .int (fi 3), .long (wd), .int (fi 4), .int (fi 5)]), (ma 1, iE cI 382 (enc g lf)), (ma 2, iE cI 2292 (u_10.2.2.2))] := hD
        have hu_10 : Sv np hs lfs g lf u_10.1 u_10.2.1 u_10.2.2.1 ∧ PRel u_10.2.2.2 u_10.1 u_10.2.1 u_10.2.2.1 := hu_10
        refine lv_aload_n hx hb dX7_setNumber_35 rfl (lv_at hl 0 rfl) ?_
        refine va_get (D := D) (ci := 7) (v := .ref (ma 1)) (C := RX7) (T := TX7) (N := 11) hx hb hts (by decide +kernel) hown hK.1 hP 0 rfl rfl 0 (by decide) (hts (.fieldLink RX7 7 "ParkingGarageModel" "s" "[I") (by decide +kernel)) (fun _ h9 => h9) rfl dX7_setNumber_36 ?_
        refine lv_iconst (v := 5) hx hb dX7_setNumber_39 (by decide) ?_
        refine lv_iload_n hx hb dX7_setNumber_40 rfl (lv_at hl 1 rfl) ?_
        refine lv_iadd hx hb dX7_setNumber_41 ?_
        rw [show (((5) + (1)) : Int32) = 6 from by decide]
        refine iald_n (f := enc g lf) hx hb hK.1 hP 1 0 rfl rfl (6) (rfl) (by decide) (by omega) dX7_setNumber_42 ?_
        rw [show enc g lf (6) = g 1 1 from rfl]
        refine lv_istore_n (lv' := [(3, .int (g 1 1)), (0, .ref (ma 0)), (1, .int (1)), (2, .int (val))]) hx hb dX7_setNumber_43 rfl hl (by decide) rfl (fun ls hl => ?_)
        refine lv_aload_n hx hb dX7_setNumber_44 rfl (lv_at hl 1 rfl) ?_
        refine va_get (D := D) (ci := 7) (v := .ref (ma 1)) (C := RX7) (T := TX7) (N := 11) hx hb hts (by decide +kernel) hown hK.1 hP 0 rfl rfl 0 (by decide) (hts (.fieldLink RX7 7 "ParkingGarageModel" "s" "[I") (by decide +kernel)) (fun _ h9 => h9) rfl dX7_setNumber_45 ?_
        refine lv_iconst (v := 5) hx hb dX7_setNumber_48 (by decide) ?_
        refine lv_iload_n hx hb dX7_setNumber_49 rfl (lv_at hl 2 rfl) ?_
        refine lv_iadd hx hb dX7_setNumber_50 ?_
        rw [show (((5) + (1)) : Int32) = 6 from by decide]
        refine lv_iload_n hx hb dX7_setNumber_51 rfl (lv_at hl 3 rfl) ?_
        refine iast_n (f := enc g lf) hx hb hK.1 hP hD hS 1 0 rfl rfl (6) (rfl) (by decide) (by omega) dX7_setNumber_52 (fun H locs hP hD hS => ?_)
        rw [enc_up 1 1 (by omega) (rfl)] at hP hD
        have hP : va_P D vwCl [(ma 0, oE 7 [.ref (ma 1), .ref (ma 2), .int (nI u_10.1), .ref (ma 3), .ref (ma 4), .int (fi 1), .int (fi 2), .int (fi 3), .long (wd), .int (fi 4), .int (fi 5)]), (ma 1, iE cI 382 (enc (w2 g 1 (upd (g 1) 1 (val))) lf)), (ma 2, iE cI 2292 (u_10.2.2.2))] H := hP
        have hD : va_D A [(ma 0, oE 7 [.ref (ma 1), .ref (ma 2), .int (nI u_10.1), .ref (ma 3), .ref (ma 4), .int (fi 1), .int (fi 2), .int (fi 3), .long (wd), .int (fi 4), .int (fi 5)]), (ma 1, iE cI 382 (enc (w2 g 1 (upd (g 1) 1 (val))) lf)), (ma 2, iE cI 2292 (u_10.2.2.2))] := hD
        refine lv_iload_n hx hb dX7_setNumber_53 rfl (lv_at hl 0 rfl) ?_
        exact wr_iret (v := g 1 1) ((w2 g 1 (upd (g 1) 1 val), lf, u_10.1, u_10.2.1, u_10.2.2.1, u_10.2.2.2)) hx hb hr hlocks hS hP hD [0, 1, 2] rfl rfl (by decide) dX7_setNumber_54 (⟨some (w2 g 1 (upd (g 1) 1 val)), Or.inl ⟨⟨1, by decide, hwe, h_9⟩, 1, by decide, hwe, rfl, rfl⟩, Or.inr ⟨_, rfl, rfl, rfl, hu_10.1, hu_10.2⟩⟩)
      · -- X7_in f
        refine if_ne_f (tgt := 31) hx hb rfl dX7_setNumber_26 (by decide) ?_
        refine lv_iconst (v := -1) hx hb dX7_setNumber_29 (by decide) ?_
        exact wr_iret (v := -1) ((g, lf, np, hs, lfs, Pp)) hx hb hr hlocks hS hP hD [0, 1, 2] rfl rfl (by decide) dX7_setNumber_30 (⟨none, Or.inr ⟨fun ⟨j, h1, h2, h3⟩ => by have e9 := nI_inj (a := 1) (by omega) (by omega) (hwe.symm.trans h2); subst e9; exact h_9 h3, rfl, rfl⟩, Or.inl ⟨rfl, rfl⟩⟩)
    · -- 2
      have hwe : wh = 2 := hwe
      have hl : lv_has ls 4 [(0, .ref (ma 0)), (1, .int (2)), (2, .int (val))] := by first | (rw [← hwe]; exact hl) | (have e := hl; rw [hwe] at e; exact e)
      refine if_eq_f (tgt := 29) hx hb (by decide) dX7_setNumber_6 (by decide) ?_
      refine lv_iload_n hx hb dX7_setNumber_9 rfl (lv_at hl 2 rfl) ?_
      refine lv_iload_n hx hb dX7_setNumber_10 rfl (lv_at hl 1 rfl) ?_
      refine if_ne_t (tgt := 18) hx hb (by decide) dX7_setNumber_11 (by decide) ?_
      refine lv_iconst (v := 0) hx hb dX7_setNumber_18 (by decide) ?_
      refine lv_iload_n hx hb dX7_setNumber_19 rfl (lv_at hl 1 rfl) ?_
      refine cs_i (As := [.int (2)]) (rest := [.int (0), .int (val)]) (tys := TYS cI cC cB cS) ⟨hx, hb, hml, hown, hts⟩ (c_X7_most l D cI cC cB cS (2)) (va_cwS 1 hts gX7_setNumber_X7_most rfl rfl rfl (by decide +kernel) ⟨Nat.le_of_ble_eq_true rfl, Nat.le_of_ble_eq_true rfl⟩) hK hP [] rfl rfl rfl hl.1 (Nat.le_of_ble_eq_true rfl) dX7_setNumber_20 ⟨Nat.le_of_ble_eq_true rfl, Nat.le_of_ble_eq_true rfl⟩ (fun r_11 hr_11 => ?_)
      have hr_11 : r_11 = if 2 = 0 then 200 else if 2 = 1 then 120 else if 2 = 2 then 60 else 99999 := hr_11
      subst hr_11
      rw [show ((if 2 = 0 then 200 else if 2 = 1 then 120 else if 2 = 2 then 60 else 99999) : Int32) = 60 from by decide]
      refine cs_i (As := [.int (val), .int (0), .int (60)]) (rest := []) (tys := TYS cI cC cB cS) ⟨hx, hb, hml, hown, hts⟩ (c_X7_in l D cI cC cB cS (val) (0) (60)) (va_cwS 3 hts gX7_setNumber_X7_in rfl rfl rfl (by decide +kernel) ⟨Nat.le_of_ble_eq_true rfl, Nat.le_of_ble_eq_true rfl⟩) hK hP [] rfl rfl rfl hl.1 (Nat.le_of_ble_eq_true rfl) dX7_setNumber_23 ⟨Nat.le_of_ble_eq_true rfl, Nat.le_of_ble_eq_true rfl⟩ (fun r_12 hr_12 => ?_)
      rcases (show Yes (0 ≤ val ∧ val ≤ 60) r_12 from hr_12) with ⟨rfl, h_13⟩ | ⟨rfl, h_13⟩
      · -- X7_in t
        refine if_ne_t (tgt := 31) hx hb (by decide) dX7_setNumber_26 (by decide) ?_
        refine lv_aload_n hx hb dX7_setNumber_31 rfl (lv_at hl 0 rfl) ?_
        refine cv_wv (As := []) (rest := []) (tys := TYS cI cC cB cS) (ci := 7) (wr := []) ⟨hx, hb, hml, hown, hts⟩ (c_X7_notes l D cI cC cB cS _ (ma) ((fun j => [nI np, fi 1, fi 2, fi 3, fi 4, fi 5].getD j 0)) (wd) (g) (lf) (np) (Pp) (hs) (lfs) (hnp) (hPR)) (cwV 0 hts gX7_setNumber_X7_notes rfl rfl rfl (by decide +kernel) ⟨Nat.le_of_ble_eq_true rfl, Nat.le_of_ble_eq_true rfl⟩) hK hP hD hS hA [0, 1, 2] [] rfl rfl (by decide) (by decide) (by decide) rfl rfl rfl rfl hl.1 (Nat.le_of_ble_eq_true rfl) dX7_setNumber_32 ⟨Nat.le_of_ble_eq_true rfl, Nat.le_of_ble_eq_true rfl⟩ (fun u_14 H locs hu_14 hP hD hS => ?_)
        have hP : va_P D vwCl [(ma 0, oE 7 [.ref (ma 1), .ref (ma 2), .int (nI u_14.1), .ref (ma 3), .ref (ma 4), .int (fi 1), .int (fi 2), .int (fi 3), .long (wd), .int (fi 4), .int (fi 5)]), (ma 1, iE cI 382 (enc g lf)), (ma 2, iE cI 2292 (u_14.2.2.2))] H := hP
        have hD : va_D A [(ma 0, oE 7 [.ref (ma 1), .ref (ma 2), .int (nI u_14.1), .ref (ma 3), .ref (ma 4), .int (fi 1), .int (fi 2), .int (fi 3), .long (wd), .int (fi 4), .int (fi 5)]), (ma 1, iE cI 382 (enc g lf)), (ma 2, iE cI 2292 (u_14.2.2.2))] := hD
        have hu_14 : Sv np hs lfs g lf u_14.1 u_14.2.1 u_14.2.2.1 ∧ PRel u_14.2.2.2 u_14.1 u_14.2.1 u_14.2.2.1 := hu_14
        refine lv_aload_n hx hb dX7_setNumber_35 rfl (lv_at hl 0 rfl) ?_
        refine va_get (D := D) (ci := 7) (v := .ref (ma 1)) (C := RX7) (T := TX7) (N := 11) hx hb hts (by decide +kernel) hown hK.1 hP 0 rfl rfl 0 (by decide) (hts (.fieldLink RX7 7 "ParkingGarageModel" "s" "[I") (by decide +kernel)) (fun _ h9 => h9) rfl dX7_setNumber_36 ?_
        refine lv_iconst (v := 5) hx hb dX7_setNumber_39 (by decide) ?_
        refine lv_iload_n hx hb dX7_setNumber_40 rfl (lv_at hl 1 rfl) ?_
        refine lv_iadd hx hb dX7_setNumber_41 ?_
        rw [show (((5) + (2)) : Int32) = 7 from by decide]
        refine iald_n (f := enc g lf) hx hb hK.1 hP 1 0 rfl rfl (7) (rfl) (by decide) (by omega) dX7_setNumber_42 ?_
        rw [show enc g lf (7) = g 1 2 from rfl]
        refine lv_istore_n (lv' := [(3, .int (g 1 2)), (0, .ref (ma 0)), (1, .int (2)), (2, .int (val))]) hx hb dX7_setNumber_43 rfl hl (by decide) rfl (fun ls hl => ?_)
        refine lv_aload_n hx hb dX7_setNumber_44 rfl (lv_at hl 1 rfl) ?_
        refine va_get (D := D) (ci := 7) (v := .ref (ma 1)) (C := RX7) (T := TX7) (N := 11) hx hb hts (by decide +kernel) hown hK.1 hP 0 rfl rfl 0 (by decide) (hts (.fieldLink RX7 7 "ParkingGarageModel" "s" "[I") (by decide +kernel)) (fun _ h9 => h9) rfl dX7_setNumber_45 ?_
        refine lv_iconst (v := 5) hx hb dX7_setNumber_48 (by decide) ?_
        refine lv_iload_n hx hb dX7_setNumber_49 rfl (lv_at hl 2 rfl) ?_
        refine lv_iadd hx hb dX7_setNumber_50 ?_
        rw [show (((5) + (2)) : Int32) = 7 from by decide]
        refine lv_iload_n hx hb dX7_setNumber_51 rfl (lv_at hl 3 rfl) ?_
        refine iast_n (f := enc g lf) hx hb hK.1 hP hD hS 1 0 rfl rfl (7) (rfl) (by decide) (by omega) dX7_setNumber_52 (fun H locs hP hD hS => ?_)
        rw [enc_up 1 2 (by omega) (rfl)] at hP hD
        have hP : va_P D vwCl [(ma 0, oE 7 [.ref (ma 1), .ref (ma 2), .int (nI u_14.1), .ref (ma 3), .ref (ma 4), .int (fi 1), .int (fi 2), .int (fi 3), .long (wd), .int (fi 4), .int (fi 5)]), (ma 1, iE cI 382 (enc (w2 g 1 (upd (g 1) 2 (val))) lf)), (ma 2, iE cI 2292 (u_14.2.2.2))] H := hP
        have hD : va_D A [(ma 0, oE 7 [.ref (ma 1), .ref (ma 2), .int (nI u_14.1), .ref (ma 3), .ref (ma 4), .int (fi 1), .int (fi 2), .int (fi 3), .long (wd), .int (fi 4), .int (fi 5)]), (ma 1, iE cI 382 (enc (w2 g 1 (upd (g 1) 2 (val))) lf)), (ma 2, iE cI 2292 (u_14.2.2.2))] := hD
        refine lv_iload_n hx hb dX7_setNumber_53 rfl (lv_at hl 0 rfl) ?_
        exact wr_iret (v := g 1 2) ((w2 g 1 (upd (g 1) 2 val), lf, u_14.1, u_14.2.1, u_14.2.2.1, u_14.2.2.2)) hx hb hr hlocks hS hP hD [0, 1, 2] rfl rfl (by decide) dX7_setNumber_54 (⟨some (w2 g 1 (upd (g 1) 2 val)), Or.inl ⟨⟨2, by decide, hwe, h_13⟩, 2, by decide, hwe, rfl, rfl⟩, Or.inr ⟨_, rfl, rfl, rfl, hu_14.1, hu_14.2⟩⟩)
      · -- X7_in f
        refine if_ne_f (tgt := 31) hx hb rfl dX7_setNumber_26 (by decide) ?_
        refine lv_iconst (v := -1) hx hb dX7_setNumber_29 (by decide) ?_
        exact wr_iret (v := -1) ((g, lf, np, hs, lfs, Pp)) hx hb hr hlocks hS hP hD [0, 1, 2] rfl rfl (by decide) dX7_setNumber_30 (⟨none, Or.inr ⟨fun ⟨j, h1, h2, h3⟩ => by have e9 := nI_inj (a := 2) (by omega) (by omega) (hwe.symm.trans h2); subst e9; exact h_13 h3, rfl, rfl⟩, Or.inl ⟨rfl, rfl⟩⟩)
    · -- 3
      have hwe : wh = 3 := hwe
      have hl : lv_has ls 4 [(0, .ref (ma 0)), (1, .int (3)), (2, .int (val))] := by first | (rw [← hwe]; exact hl) | (have e := hl; rw [hwe] at e; exact e)
      refine if_eq_f (tgt := 29) hx hb (by decide) dX7_setNumber_6 (by decide) ?_
      refine lv_iload_n hx hb dX7_setNumber_9 rfl (lv_at hl 2 rfl) ?_
      refine lv_iload_n hx hb dX7_setNumber_10 rfl (lv_at hl 1 rfl) ?_
      refine if_ne_t (tgt := 18) hx hb (by decide) dX7_setNumber_11 (by decide) ?_
      refine lv_iconst (v := 0) hx hb dX7_setNumber_18 (by decide) ?_
      refine lv_iload_n hx hb dX7_setNumber_19 rfl (lv_at hl 1 rfl) ?_
      refine cs_i (As := [.int (3)]) (rest := [.int (0), .int (val)]) (tys := TYS cI cC cB cS) ⟨hx, hb, hml, hown, hts⟩ (c_X7_most l D cI cC cB cS (3)) (va_cwS 1 hts gX7_setNumber_X7_most rfl rfl rfl (by decide +kernel) ⟨Nat.le_of_ble_eq_true rfl, Nat.le_of_ble_eq_true rfl⟩) hK hP [] rfl rfl rfl hl.1 (Nat.le_of_ble_eq_true rfl) dX7_setNumber_20 ⟨Nat.le_of_ble_eq_true rfl, Nat.le_of_ble_eq_true rfl⟩ (fun r_15 hr_15 => ?_)
      have hr_15 : r_15 = if 3 = 0 then 200 else if 3 = 1 then 120 else if 3 = 2 then 60 else 99999 := hr_15
      subst hr_15
      rw [show ((if 3 = 0 then 200 else if 3 = 1 then 120 else if 3 = 2 then 60 else 99999) : Int32) = 99999 from by decide]
      refine cs_i (As := [.int (val), .int (0), .int (99999)]) (rest := []) (tys := TYS cI cC cB cS) ⟨hx, hb, hml, hown, hts⟩ (c_X7_in l D cI cC cB cS (val) (0) (99999)) (va_cwS 3 hts gX7_setNumber_X7_in rfl rfl rfl (by decide +kernel) ⟨Nat.le_of_ble_eq_true rfl, Nat.le_of_ble_eq_true rfl⟩) hK hP [] rfl rfl rfl hl.1 (Nat.le_of_ble_eq_true rfl) dX7_setNumber_23 ⟨Nat.le_of_ble_eq_true rfl, Nat.le_of_ble_eq_true rfl⟩ (fun r_16 hr_16 => ?_)
      rcases (show Yes (0 ≤ val ∧ val ≤ 99999) r_16 from hr_16) with ⟨rfl, h_17⟩ | ⟨rfl, h_17⟩
      · -- X7_in t
        refine if_ne_t (tgt := 31) hx hb (by decide) dX7_setNumber_26 (by decide) ?_
        refine lv_aload_n hx hb dX7_setNumber_31 rfl (lv_at hl 0 rfl) ?_
        refine cv_wv (As := []) (rest := []) (tys := TYS cI cC cB cS) (ci := 7) (wr := []) ⟨hx, hb, hml, hown, hts⟩ (c_X7_notes l D cI cC cB cS _ (ma) ((fun j => [nI np, fi 1, fi 2, fi 3, fi 4, fi 5].getD j 0)) (wd) (g) (lf) (np) (Pp) (hs) (lfs) (hnp) (hPR)) (cwV 0 hts gX7_setNumber_X7_notes rfl rfl rfl (by decide +kernel) ⟨Nat.le_of_ble_eq_true rfl, Nat.le_of_ble_eq_true rfl⟩) hK hP hD hS hA [0, 1, 2] [] rfl rfl (by decide) (by decide) (by decide) rfl rfl rfl rfl hl.1 (Nat.le_of_ble_eq_true rfl) dX7_setNumber_32 ⟨Nat.le_of_ble_eq_true rfl, Nat.le_of_ble_eq_true rfl⟩ (fun u_18 H locs hu_18 hP hD hS => ?_)
        have hP : va_P D vwCl [(ma 0, oE 7 [.ref (ma 1), .ref (ma 2), .int (nI u_18.1), .ref (ma 3), .ref (ma 4), .int (fi 1), .int (fi 2), .int (fi 3), .long (wd), .int (fi 4), .int (fi 5)]), (ma 1, iE cI 382 (enc g lf)), (ma 2, iE cI 2292 (u_18.2.2.2))] H := hP
        have hD : va_D A [(ma 0, oE 7 [.ref (ma 1), .ref (ma 2), .int (nI u_18.1), .ref (ma 3), .ref (ma 4), .int (fi 1), .int (fi 2), .int (fi 3), .long (wd), .int (fi 4), .int (fi 5)]), (ma 1, iE cI 382 (enc g lf)), (ma 2, iE cI 2292 (u_18.2.2.2))] := hD
        have hu_18 : Sv np hs lfs g lf u_18.1 u_18.2.1 u_18.2.2.1 ∧ PRel u_18.2.2.2 u_18.1 u_18.2.1 u_18.2.2.1 := hu_18
        refine lv_aload_n hx hb dX7_setNumber_35 rfl (lv_at hl 0 rfl) ?_
        refine va_get (D := D) (ci := 7) (v := .ref (ma 1)) (C := RX7) (T := TX7) (N := 11) hx hb hts (by decide +kernel) hown hK.1 hP 0 rfl rfl 0 (by decide) (hts (.fieldLink RX7 7 "ParkingGarageModel" "s" "[I") (by decide +kernel)) (fun _ h9 => h9) rfl dX7_setNumber_36 ?_
        refine lv_iconst (v := 5) hx hb dX7_setNumber_39 (by decide) ?_
        refine lv_iload_n hx hb dX7_setNumber_40 rfl (lv_at hl 1 rfl) ?_
        refine lv_iadd hx hb dX7_setNumber_41 ?_
        rw [show (((5) + (3)) : Int32) = 8 from by decide]
        refine iald_n (f := enc g lf) hx hb hK.1 hP 1 0 rfl rfl (8) (rfl) (by decide) (by omega) dX7_setNumber_42 ?_
        rw [show enc g lf (8) = g 1 3 from rfl]
        refine lv_istore_n (lv' := [(3, .int (g 1 3)), (0, .ref (ma 0)), (1, .int (3)), (2, .int (val))]) hx hb dX7_setNumber_43 rfl hl (by decide) rfl (fun ls hl => ?_)
        refine lv_aload_n hx hb dX7_setNumber_44 rfl (lv_at hl 1 rfl) ?_
        refine va_get (D := D) (ci := 7) (v := .ref (ma 1)) (C := RX7) (T := TX7) (N := 11) hx hb hts (by decide +kernel) hown hK.1 hP 0 rfl rfl 0 (by decide) (hts (.fieldLink RX7 7 "ParkingGarageModel" "s" "[I") (by decide +kernel)) (fun _ h9 => h9) rfl dX7_setNumber_45 ?_
        refine lv_iconst (v := 5) hx hb dX7_setNumber_48 (by decide) ?_
        refine lv_iload_n hx hb dX7_setNumber_49 rfl (lv_at hl 2 rfl) ?_
        refine lv_iadd hx hb dX7_setNumber_50 ?_
        rw [show (((5) + (3)) : Int32) = 8 from by decide]
        refine lv_iload_n hx hb dX7_setNumber_51 rfl (lv_at hl 3 rfl) ?_
        refine iast_n (f := enc g lf) hx hb hK.1 hP hD hS 1 0 rfl rfl (8) (rfl) (by decide) (by omega) dX7_setNumber_52 (fun H locs hP hD hS => ?_)
        rw [enc_up 1 3 (by omega) (rfl)] at hP hD
        have hP : va_P D vwCl [(ma 0, oE 7 [.ref (ma 1), .ref (ma 2), .int (nI u_18.1), .ref (ma 3), .ref (ma 4), .int (fi 1), .int (fi 2), .int (fi 3), .long (wd), .int (fi 4), .int (fi 5)]), (ma 1, iE cI 382 (enc (w2 g 1 (upd (g 1) 3 (val))) lf)), (ma 2, iE cI 2292 (u_18.2.2.2))] H := hP
        have hD : va_D A [(ma 0, oE 7 [.ref (ma 1), .ref (ma 2), .int (nI u_18.1), .ref (ma 3), .ref (ma 4), .int (fi 1), .int (fi 2), .int (fi 3), .long (wd), .int (fi 4), .int (fi 5)]), (ma 1, iE cI 382 (enc (w2 g 1 (upd (g 1) 3 (val))) lf)), (ma 2, iE cI 2292 (u_18.2.2.2))] := hD
        refine lv_iload_n hx hb dX7_setNumber_53 rfl (lv_at hl 0 rfl) ?_
        exact wr_iret (v := g 1 3) ((w2 g 1 (upd (g 1) 3 val), lf, u_18.1, u_18.2.1, u_18.2.2.1, u_18.2.2.2)) hx hb hr hlocks hS hP hD [0, 1, 2] rfl rfl (by decide) dX7_setNumber_54 (⟨some (w2 g 1 (upd (g 1) 3 val)), Or.inl ⟨⟨3, by decide, hwe, h_17⟩, 3, by decide, hwe, rfl, rfl⟩, Or.inr ⟨_, rfl, rfl, rfl, hu_18.1, hu_18.2⟩⟩)
      · -- X7_in f
        refine if_ne_f (tgt := 31) hx hb rfl dX7_setNumber_26 (by decide) ?_
        refine lv_iconst (v := -1) hx hb dX7_setNumber_29 (by decide) ?_
        exact wr_iret (v := -1) ((g, lf, np, hs, lfs, Pp)) hx hb hr hlocks hS hP hD [0, 1, 2] rfl rfl (by decide) dX7_setNumber_30 (⟨none, Or.inr ⟨fun ⟨j, h1, h2, h3⟩ => by have e9 := nI_inj (a := 3) (by omega) (by omega) (hwe.symm.trans h2); subst e9; exact h_17 h3, rfl, rfl⟩, Or.inl ⟨rfl, rfl⟩⟩)
    · -- 4
      have hwe : wh = 4 := hwe
      have hl : lv_has ls 4 [(0, .ref (ma 0)), (1, .int (4)), (2, .int (val))] := by first | (rw [← hwe]; exact hl) | (have e := hl; rw [hwe] at e; exact e)
      refine if_eq_f (tgt := 29) hx hb (by decide) dX7_setNumber_6 (by decide) ?_
      refine lv_iload_n hx hb dX7_setNumber_9 rfl (lv_at hl 2 rfl) ?_
      refine lv_iload_n hx hb dX7_setNumber_10 rfl (lv_at hl 1 rfl) ?_
      refine if_ne_t (tgt := 18) hx hb (by decide) dX7_setNumber_11 (by decide) ?_
      refine lv_iconst (v := 0) hx hb dX7_setNumber_18 (by decide) ?_
      refine lv_iload_n hx hb dX7_setNumber_19 rfl (lv_at hl 1 rfl) ?_
      refine cs_i (As := [.int (4)]) (rest := [.int (0), .int (val)]) (tys := TYS cI cC cB cS) ⟨hx, hb, hml, hown, hts⟩ (c_X7_most l D cI cC cB cS (4)) (va_cwS 1 hts gX7_setNumber_X7_most rfl rfl rfl (by decide +kernel) ⟨Nat.le_of_ble_eq_true rfl, Nat.le_of_ble_eq_true rfl⟩) hK hP [] rfl rfl rfl hl.1 (Nat.le_of_ble_eq_true rfl) dX7_setNumber_20 ⟨Nat.le_of_ble_eq_true rfl, Nat.le_of_ble_eq_true rfl⟩ (fun r_19 hr_19 => ?_)
      have hr_19 : r_19 = if 4 = 0 then 200 else if 4 = 1 then 120 else if 4 = 2 then 60 else 99999 := hr_19
      subst hr_19
      rw [show ((if 4 = 0 then 200 else if 4 = 1 then 120 else if 4 = 2 then 60 else 99999) : Int32) = 99999 from by decide]
      refine cs_i (As := [.int (val), .int (0), .int (99999)]) (rest := []) (tys := TYS cI cC cB cS) ⟨hx, hb, hml, hown, hts⟩ (c_X7_in l D cI cC cB cS (val) (0) (99999)) (va_cwS 3 hts gX7_setNumber_X7_in rfl rfl rfl (by decide +kernel) ⟨Nat.le_of_ble_eq_true rfl, Nat.le_of_ble_eq_true rfl⟩) hK hP [] rfl rfl rfl hl.1 (Nat.le_of_ble_eq_true rfl) dX7_setNumber_23 ⟨Nat.le_of_ble_eq_true rfl, Nat.le_of_ble_eq_true rfl⟩ (fun r_20 hr_20 => ?_)
      rcases (show Yes (0 ≤ val ∧ val ≤ 99999) r_20 from hr_20) with ⟨rfl, h_21⟩ | ⟨rfl, h_21⟩
      · -- X7_in t
        refine if_ne_t (tgt := 31) hx hb (by decide) dX7_setNumber_26 (by decide) ?_
        refine lv_aload_n hx hb dX7_setNumber_31 rfl (lv_at hl 0 rfl) ?_
        refine cv_wv (As := []) (rest := []) (tys := TYS cI cC cB cS) (ci := 7) (wr := []) ⟨hx, hb, hml, hown, hts⟩ (c_X7_notes l D cI cC cB cS _ (ma) ((fun j => [nI np, fi 1, fi 2, fi 3, fi 4, fi 5].getD j 0)) (wd) (g) (lf) (np) (Pp) (hs) (lfs) (hnp) (hPR)) (cwV 0 hts gX7_setNumber_X7_notes rfl rfl rfl (by decide +kernel) ⟨Nat.le_of_ble_eq_true rfl, Nat.le_of_ble_eq_true rfl⟩) hK hP hD hS hA [0, 1, 2] [] rfl rfl (by decide) (by decide) (by decide) rfl rfl rfl rfl hl.1 (Nat.le_of_ble_eq_true rfl) dX7_setNumber_32 ⟨Nat.le_of_ble_eq_true rfl, Nat.le_of_ble_eq_true rfl⟩ (fun u_22 H locs hu_22 hP hD hS => ?_)
        have hP : va_P D vwCl [(ma 0, oE 7 [.ref (ma 1), .ref (ma 2), .int (nI u_22.1), .ref (ma 3), .ref (ma 4), .int (fi 1), .int (fi 2), .int (fi 3), .long (wd), .int (fi 4), .int (fi 5)]), (ma 1, iE cI 382 (enc g lf)), (ma 2, iE cI 2292 (u_22.2.2.2))] H := hP
        have hD : va_D A [(ma 0, oE 7 [.ref (ma 1), .ref (ma 2), .int (nI u_22.1), .ref (ma 3), .ref (ma 4), .int (fi 1), .int (fi 2), .int (fi 3), .long (wd), .int (fi 4), .int (fi 5)]), (ma 1, iE cI 382 (enc g lf)), (ma 2, iE cI 2292 (u_22.2.2.2))] := hD
        have hu_22 : Sv np hs lfs g lf u_22.1 u_22.2.1 u_22.2.2.1 ∧ PRel u_22.2.2.2 u_22.1 u_22.2.1 u_22.2.2.1 := hu_22
        refine lv_aload_n hx hb dX7_setNumber_35 rfl (lv_at hl 0 rfl) ?_
        refine va_get (D := D) (ci := 7) (v := .ref (ma 1)) (C := RX7) (T := TX7) (N := 11) hx hb hts (by decide +kernel) hown hK.1 hP 0 rfl rfl 0 (by decide) (hts (.fieldLink RX7 7 "ParkingGarageModel" "s" "[I") (by decide +kernel)) (fun _ h9 => h9) rfl dX7_setNumber_36 ?_
        refine lv_iconst (v := 5) hx hb dX7_setNumber_39 (by decide) ?_
        refine lv_iload_n hx hb dX7_setNumber_40 rfl (lv_at hl 1 rfl) ?_
        refine lv_iadd hx hb dX7_setNumber_41 ?_
        rw [show (((5) + (4)) : Int32) = 9 from by decide]
        refine iald_n (f := enc g lf) hx hb hK.1 hP 1 0 rfl rfl (9) (rfl) (by decide) (by omega) dX7_setNumber_42 ?_
        rw [show enc g lf (9) = g 1 4 from rfl]
        refine lv_istore_n (lv' := [(3, .int (g 1 4)), (0, .ref (ma 0)), (1, .int (4)), (2, .int (val))]) hx hb dX7_setNumber_43 rfl hl (by decide) rfl (fun ls hl => ?_)
        refine lv_aload_n hx hb dX7_setNumber_44 rfl (lv_at hl 1 rfl) ?_
        refine va_get (D := D) (ci := 7) (v := .ref (ma 1)) (C := RX7) (T := TX7) (N := 11) hx hb hts (by decide +kernel) hown hK.1 hP 0 rfl rfl 0 (by decide) (hts (.fieldLink RX7 7 "ParkingGarageModel" "s" "[I") (by decide +kernel)) (fun _ h9 => h9) rfl dX7_setNumber_45 ?_
        refine lv_iconst (v := 5) hx hb dX7_setNumber_48 (by decide) ?_
        refine lv_iload_n hx hb dX7_setNumber_49 rfl (lv_at hl 2 rfl) ?_
        refine lv_iadd hx hb dX7_setNumber_50 ?_
        rw [show (((5) + (4)) : Int32) = 9 from by decide]
        refine lv_iload_n hx hb dX7_setNumber_51 rfl (lv_at hl 3 rfl) ?_
        refine iast_n (f := enc g lf) hx hb hK.1 hP hD hS 1 0 rfl rfl (9) (rfl) (by decide) (by omega) dX7_setNumber_52 (fun H locs hP hD hS => ?_)
        rw [enc_up 1 4 (by omega) (rfl)] at hP hD
        have hP : va_P D vwCl [(ma 0, oE 7 [.ref (ma 1), .ref (ma 2), .int (nI u_22.1), .ref (ma 3), .ref (ma 4), .int (fi 1), .int (fi 2), .int (fi 3), .long (wd), .int (fi 4), .int (fi 5)]), (ma 1, iE cI 382 (enc (w2 g 1 (upd (g 1) 4 (val))) lf)), (ma 2, iE cI 2292 (u_22.2.2.2))] H := hP
        have hD : va_D A [(ma 0, oE 7 [.ref (ma 1), .ref (ma 2), .int (nI u_22.1), .ref (ma 3), .ref (ma 4), .int (fi 1), .int (fi 2), .int (fi 3), .long (wd), .int (fi 4), .int (fi 5)]), (ma 1, iE cI 382 (enc (w2 g 1 (upd (g 1) 4 (val))) lf)), (ma 2, iE cI 2292 (u_22.2.2.2))] := hD
        refine lv_iload_n hx hb dX7_setNumber_53 rfl (lv_at hl 0 rfl) ?_
        exact wr_iret (v := g 1 4) ((w2 g 1 (upd (g 1) 4 val), lf, u_22.1, u_22.2.1, u_22.2.2.1, u_22.2.2.2)) hx hb hr hlocks hS hP hD [0, 1, 2] rfl rfl (by decide) dX7_setNumber_54 (⟨some (w2 g 1 (upd (g 1) 4 val)), Or.inl ⟨⟨4, by decide, hwe, h_21⟩, 4, by decide, hwe, rfl, rfl⟩, Or.inr ⟨_, rfl, rfl, rfl, hu_22.1, hu_22.2⟩⟩)
      · -- X7_in f
        refine if_ne_f (tgt := 31) hx hb rfl dX7_setNumber_26 (by decide) ?_
        refine lv_iconst (v := -1) hx hb dX7_setNumber_29 (by decide) ?_
        exact wr_iret (v := -1) ((g, lf, np, hs, lfs, Pp)) hx hb hr hlocks hS hP hD [0, 1, 2] rfl rfl (by decide) dX7_setNumber_30 (⟨none, Or.inr ⟨fun ⟨j, h1, h2, h3⟩ => by have e9 := nI_inj (a := 4) (by omega) (by omega) (hwe.symm.trans h2); subst e9; exact h_21 h3, rfl, rfl⟩, Or.inl ⟨rfl, rfl⟩⟩)
  · -- X7_in f
    refine if_eq_t (tgt := 29) hx hb rfl dX7_setNumber_6 (by decide) ?_
    refine lv_iconst (v := -1) hx hb dX7_setNumber_29 (by decide) ?_
    exact wr_iret (v := -1) ((g, lf, np, hs, lfs, Pp)) hx hb hr hlocks hS hP hD [0, 1, 2] rfl rfl (by decide) dX7_setNumber_30 (⟨none, Or.inr ⟨fun ⟨k, h1, h2, _⟩ => h_2 (by rw [h2]; exact ⟨nI_pos' (by omega), nI_le (show k ≤ 4 by omega) (by decide)⟩), rfl, rfl⟩, Or.inl ⟨rfl, rfl⟩⟩)
set_option maxHeartbeats 4000000 in
set_option maxRecDepth 100000 in
theorem c_X7_appendCharacter (l : Launch) (D : va_G) (cI cC cB cS : ClassId) (zz : Nat) (ma : Nat → Nat) (fi : Nat → Int32) (wd : Int64) (L : Nat) (f : Nat → Int32) (c1 : Int32) (hL : L ≤ 120) : Met l yX7_appendCharacter wsX7_appendCharacter ({ frames := 1, cells := 0, slots := 0, locals := 22 } : Room) (wrPc D (TYS cI cC cB cS) [.ref (ma 0), .int (c1)] ([(ma 0, oE 7 [.ref (ma 1), .ref (ma 2), .int (fi 0), .ref (ma 3), .ref (ma 4), .int (nI L), .int (fi 2), .int (fi 3), .long (wd), .int (fi 4), .int (fi 5)]), (ma 4, iE cB 120 (bt f))]) zz) (va_Qi (fun (r : Int32) (u : Nat × (Nat → Int32)) => Oappend L f c1 r u) (wrB D (va_A ([(ma 0, oE 7 [.ref (ma 1), .ref (ma 2), .int (fi 0), .ref (ma 3), .ref (ma 4), .int (nI L), .int (fi 2), .int (fi 3), .long (wd), .int (fi 4), .int (fi 5)]), (ma 4, iE cB 120 (bt f))]) zz) (fun u => [(ma 0, oE 7 [.ref (ma 1), .ref (ma 2), .int (fi 0), .ref (ma 3), .ref (ma 4), .int (nI u.1), .int (fi 2), .int (fi 3), .long (wd), .int (fi 4), .int (fi 5)]), (ma 4, iE cB 120 (bt u.2))])) (va_A ([(ma 0, oE 7 [.ref (ma 1), .ref (ma 2), .int (fi 0), .ref (ma 3), .ref (ma 4), .int (nI L), .int (fi 2), .int (fi 3), .long (wd), .int (fi 4), .int (fi 5)]), (ma 4, iE cB 120 (bt f))]) zz)) 0 0 (va_A ([(ma 0, oE 7 [.ref (ma 1), .ref (ma 2), .int (fi 0), .ref (ma 3), .ref (ma 4), .int (nI L), .int (fi 2), .int (fi 3), .long (wd), .int (fi 4), .int (fi 5)]), (ma 4, iE cB 120 (bt f))]) zz) := by
  refine wr_intro (Qc := fun A B => va_Qi (fun (r : Int32) (u : Nat × (Nat → Int32)) => Oappend L f c1 r u) B A) (by decide) rfl (Nat.le_of_ble_eq_true rfl) ?_
  intro p e s m below meth c A hx hb hr hml hts hown hlocks hin hP hK hD hA hS ls hl
  have hP : va_P D vwCl [(ma 0, oE 7 [.ref (ma 1), .ref (ma 2), .int (fi 0), .ref (ma 3), .ref (ma 4), .int (nI L), .int (fi 2), .int (fi 3), .long (wd), .int (fi 4), .int (fi 5)]), (ma 4, iE cB 120 (bt f))] s.heap := hP
  have hD : va_D A [(ma 0, oE 7 [.ref (ma 1), .ref (ma 2), .int (fi 0), .ref (ma 3), .ref (ma 4), .int (nI L), .int (fi 2), .int (fi 3), .long (wd), .int (fi 4), .int (fi 5)]), (ma 4, iE cB 120 (bt f))] := hD
  have hown : s.vm.findClass RX7 = some m.cls := hown
  have hl : lv_has ls 2 [(0, .ref (ma 0)), (1, .int (c1))] := hl
  refine lv_iload_n hx hb dX7_appendCharacter_0 rfl (lv_at hl 1 rfl) ?_
  refine lv_iconst (v := 0) hx hb dX7_appendCharacter_1 (by decide) ?_
  refine lv_sipush (v := 255) hx hb dX7_appendCharacter_2 (by decide) ?_
  refine cs_i (As := [.int (c1), .int (0), .int (255)]) (rest := []) (tys := TYS cI cC cB cS) ⟨hx, hb, hml, hown, hts⟩ (c_X7_in l D cI cC cB cS (c1) (0) (255)) (va_cwS 3 hts gX7_appendCharacter_X7_in rfl rfl rfl (by decide +kernel) ⟨Nat.le_of_ble_eq_true rfl, Nat.le_of_ble_eq_true rfl⟩) hK hP [] rfl rfl rfl hl.1 (Nat.le_of_ble_eq_true rfl) dX7_appendCharacter_5 ⟨Nat.le_of_ble_eq_true rfl, Nat.le_of_ble_eq_true rfl⟩ (fun r_1 hr_1 => ?_)
  rcases (show Yes (0 ≤ c1 ∧ c1 ≤ 255) r_1 from hr_1) with ⟨rfl, h_2⟩ | ⟨rfl, h_2⟩
  · -- X7_in t
    refine if_ne_t (tgt := 13) hx hb (by decide) dX7_appendCharacter_8 (by decide) ?_
    refine lv_aload_n hx hb dX7_appendCharacter_13 rfl (lv_at hl 0 rfl) ?_
    refine va_get (D := D) (ci := 7) (v := .int (nI L)) (C := RX7) (T := TX7) (N := 11) hx hb hts (by decide +kernel) hown hK.1 hP 0 rfl rfl 5 (by decide) (hts (.fieldLink RX7 82 "ParkingGarageModel" "typed" "I") (by decide +kernel)) (fun _ h9 => h9) rfl dX7_appendCharacter_14 ?_
    refine lv_bipush (v := 120) hx hb dX7_appendCharacter_17 (by decide) ?_
    refine lv_icmp_ne (tgt := 25) hx hb dX7_appendCharacter_19 (by decide) (fun c_3 => ?_) (fun c_3 => ?_)
    · -- c_3: nI L ≠ 120
      have hl2 : L < 120 := Nat.lt_of_le_of_ne hL (fun q => c_3 (by rw [q]; rfl))
      refine lv_aload_n hx hb dX7_appendCharacter_25 rfl (lv_at hl 0 rfl) ?_
      refine va_get (D := D) (ci := 7) (v := .ref (ma 4)) (C := RX7) (T := TX7) (N := 11) hx hb hts (by decide +kernel) hown hK.1 hP 0 rfl rfl 4 (by decide) (hts (.fieldLink RX7 19 "ParkingGarageModel" "text" "[B") (by decide +kernel)) (fun _ h9 => h9) rfl dX7_appendCharacter_26 ?_
      refine lv_aload_n hx hb dX7_appendCharacter_29 rfl (lv_at hl 0 rfl) ?_
      refine va_get (D := D) (ci := 7) (v := .int (nI L)) (C := RX7) (T := TX7) (N := 11) hx hb hts (by decide +kernel) hown hK.1 hP 0 rfl rfl 5 (by decide) (hts (.fieldLink RX7 82 "ParkingGarageModel" "typed" "I") (by decide +kernel)) (fun _ h9 => h9) rfl dX7_appendCharacter_30 ?_
      refine lv_iload_n hx hb dX7_appendCharacter_33 rfl (lv_at hl 1 rfl) ?_
      refine lv_i2b (v := c1.toInt8.toInt32) hx hb dX7_appendCharacter_34 (rfl) ?_
      refine bast_n (f := bt f) hx hb hK.1 hP hD hS 1 2 rfl rfl (L) (rfl) (by omega) (by omega) (congrArg Int8.toInt32 (Int8.toInt8_toInt32 _)) dX7_appendCharacter_35 (fun H locs hP hD hS => ?_)
      have hP : va_P D vwCl [(ma 0, oE 7 [.ref (ma 1), .ref (ma 2), .int (fi 0), .ref (ma 3), .ref (ma 4), .int (nI L), .int (fi 2), .int (fi 3), .long (wd), .int (fi 4), .int (fi 5)]), (ma 4, iE cB 120 (upd (bt f) (L) (c1.toInt8.toInt32)))] H := hP
      have hD : va_D A [(ma 0, oE 7 [.ref (ma 1), .ref (ma 2), .int (fi 0), .ref (ma 3), .ref (ma 4), .int (nI L), .int (fi 2), .int (fi 3), .long (wd), .int (fi 4), .int (fi 5)]), (ma 4, iE cB 120 (upd (bt f) (L) (c1.toInt8.toInt32)))] := hD
      refine lv_aload_n hx hb dX7_appendCharacter_36 rfl (lv_at hl 0 rfl) ?_
      refine lv_dup hx hb dX7_appendCharacter_37 rfl ?_
      refine va_get (D := D) (ci := 7) (v := .int (nI L)) (C := RX7) (T := TX7) (N := 11) hx hb hts (by decide +kernel) hown hK.1 hP 0 rfl rfl 5 (by decide) (hts (.fieldLink RX7 82 "ParkingGarageModel" "typed" "I") (by decide +kernel)) (fun _ h9 => h9) rfl dX7_appendCharacter_38 ?_
      refine lv_iconst (v := 1) hx hb dX7_appendCharacter_41 (by decide) ?_
      refine lv_iadd hx hb dX7_appendCharacter_42 ?_
      rw [show (((nI L) + (1)) : Int32) = nI (L + 1) from (nI_add L 1)]
      refine va_put (D := D) (ci := 7) (v := .int (nI (L + 1))) (ty := .int) (C := RX7) (T := TX7) (N := 11) hx hb hts (by decide +kernel) tyX7 tyX7_ok nmX7 hown hK.1 hP hD hS 0 rfl rfl 5 (by decide) (hts (.fieldLink RX7 82 "ParkingGarageModel" "typed" "I") (by decide +kernel)) (fun _ h9 => h9) rfl (by decide +kernel) rfl rfl (Nat.le_of_ble_eq_true rfl) dX7_appendCharacter_43 (fun H locs hP hD hS => ?_)
      have hP : va_P D vwCl [(ma 0, oE 7 [.ref (ma 1), .ref (ma 2), .int (fi 0), .ref (ma 3), .ref (ma 4), .int (nI (L + 1)), .int (fi 2), .int (fi 3), .long (wd), .int (fi 4), .int (fi 5)]), (ma 4, iE cB 120 (upd (bt f) (L) (c1.toInt8.toInt32)))] H := hP
      have hD : va_D A [(ma 0, oE 7 [.ref (ma 1), .ref (ma 2), .int (fi 0), .ref (ma 3), .ref (ma 4), .int (nI (L + 1)), .int (fi 2), .int (fi 3), .long (wd), .int (fi 4), .int (fi 5)]), (ma 4, iE cB 120 (upd (bt f) (L) (c1.toInt8.toInt32)))] := hD
      refine lv_aload_n hx hb dX7_appendCharacter_46 rfl (lv_at hl 0 rfl) ?_
      refine va_get (D := D) (ci := 7) (v := .int (nI (L + 1))) (C := RX7) (T := TX7) (N := 11) hx hb hts (by decide +kernel) hown hK.1 hP 0 rfl rfl 5 (by decide) (hts (.fieldLink RX7 82 "ParkingGarageModel" "typed" "I") (by decide +kernel)) (fun _ h9 => h9) rfl dX7_appendCharacter_47 ?_
      rw [bt_up] at hP hD
      have hP : va_P D vwCl [(ma 0, oE 7 [.ref (ma 1), .ref (ma 2), .int (fi 0), .ref (ma 3), .ref (ma 4), .int (nI (L + 1)), .int (fi 2), .int (fi 3), .long (wd), .int (fi 4), .int (fi 5)]), (ma 4, iE cB 120 (bt (upd f L c1)))] H := hP
      have hD : va_D A [(ma 0, oE 7 [.ref (ma 1), .ref (ma 2), .int (fi 0), .ref (ma 3), .ref (ma 4), .int (nI (L + 1)), .int (fi 2), .int (fi 3), .long (wd), .int (fi 4), .int (fi 5)]), (ma 4, iE cB 120 (bt (upd f L c1)))] := hD
      exact wr_iret (v := nI (L + 1)) ((L + 1, upd f L c1)) hx hb hr hlocks hS hP hD [0, 1] rfl rfl (by decide) dX7_appendCharacter_50 (Or.inl ⟨h_2, Or.inr ⟨by omega, rfl, rfl⟩⟩)
    · -- c_3: not nI L ≠ 120
      refine lv_bipush (v := -3) hx hb dX7_appendCharacter_22 (by decide) ?_
      exact wr_iret (v := -3) ((L, f)) hx hb hr hlocks hS hP hD [0, 1] rfl rfl (by decide) dX7_appendCharacter_24 (Or.inl ⟨h_2, Or.inl ⟨(nI_eq (a := L) (b := 120) (by omega) (by omega)).mp c_3, rfl, rfl⟩⟩)
  · -- X7_in f
    refine if_ne_f (tgt := 13) hx hb rfl dX7_appendCharacter_8 (by decide) ?_
    refine lv_iconst (v := -1) hx hb dX7_appendCharacter_11 (by decide) ?_
    exact wr_iret (v := -1) ((L, f)) hx hb hr hlocks hS hP hD [0, 1] rfl rfl (by decide) dX7_appendCharacter_12 (Or.inr ⟨h_2, rfl, rfl⟩)
set_option maxHeartbeats 4000000 in
set_option maxRecDepth 100000 in
theorem c_X7_clearText (l : Launch) (D : va_G) (cI cC cB cS : ClassId) (zz : Nat) (ma : Nat → Nat) (fi : Nat → Int32) (wd : Int64) (L : Nat) (f : Nat → Int32) : Met l yX7_clearText wsX7_clearText ({ frames := 0, cells := 0, slots := 0, locals := 0 } : Room) (wrPc D (TYS cI cC cB cS) [.ref (ma 0)] ([(ma 0, oE 7 [.ref (ma 1), .ref (ma 2), .int (fi 0), .ref (ma 3), .ref (ma 4), .int (nI L), .int (fi 2), .int (fi 3), .long (wd), .int (fi 4), .int (fi 5)]), (ma 4, iE cB 120 (bt f))]) zz) (va_Qi (fun (r : Int32) (u : Unit) => r = nI L) (wrB D (va_A ([(ma 0, oE 7 [.ref (ma 1), .ref (ma 2), .int (fi 0), .ref (ma 3), .ref (ma 4), .int (nI L), .int (fi 2), .int (fi 3), .long (wd), .int (fi 4), .int (fi 5)]), (ma 4, iE cB 120 (bt f))]) zz) (fun u => [(ma 0, oE 7 [.ref (ma 1), .ref (ma 2), .int (fi 0), .ref (ma 3), .ref (ma 4), .int (0), .int (fi 2), .int (fi 3), .long (wd), .int (fi 4), .int (fi 5)]), (ma 4, iE cB 120 (bt f))])) (va_A ([(ma 0, oE 7 [.ref (ma 1), .ref (ma 2), .int (fi 0), .ref (ma 3), .ref (ma 4), .int (nI L), .int (fi 2), .int (fi 3), .long (wd), .int (fi 4), .int (fi 5)]), (ma 4, iE cB 120 (bt f))]) zz)) 0 0 (va_A ([(ma 0, oE 7 [.ref (ma 1), .ref (ma 2), .int (fi 0), .ref (ma 3), .ref (ma 4), .int (nI L), .int (fi 2), .int (fi 3), .long (wd), .int (fi 4), .int (fi 5)]), (ma 4, iE cB 120 (bt f))]) zz) := by
  refine wr_intro (Qc := fun A B => va_Qi (fun (r : Int32) (u : Unit) => r = nI L) B A) (by decide) rfl (Nat.le_of_ble_eq_true rfl) ?_
  intro p e s m below meth c A hx hb hr hml hts hown hlocks hin hP hK hD hA hS ls hl
  have hP : va_P D vwCl [(ma 0, oE 7 [.ref (ma 1), .ref (ma 2), .int (fi 0), .ref (ma 3), .ref (ma 4), .int (nI L), .int (fi 2), .int (fi 3), .long (wd), .int (fi 4), .int (fi 5)]), (ma 4, iE cB 120 (bt f))] s.heap := hP
  have hD : va_D A [(ma 0, oE 7 [.ref (ma 1), .ref (ma 2), .int (fi 0), .ref (ma 3), .ref (ma 4), .int (nI L), .int (fi 2), .int (fi 3), .long (wd), .int (fi 4), .int (fi 5)]), (ma 4, iE cB 120 (bt f))] := hD
  have hown : s.vm.findClass RX7 = some m.cls := hown
  have hl : lv_has ls 2 [(0, .ref (ma 0))] := hl
  refine lv_aload_n hx hb dX7_clearText_0 rfl (lv_at hl 0 rfl) ?_
  refine va_get (D := D) (ci := 7) (v := .int (nI L)) (C := RX7) (T := TX7) (N := 11) hx hb hts (by decide +kernel) hown hK.1 hP 0 rfl rfl 5 (by decide) (hts (.fieldLink RX7 82 "ParkingGarageModel" "typed" "I") (by decide +kernel)) (fun _ h9 => h9) rfl dX7_clearText_1 ?_
  refine lv_istore_n (lv' := [(1, .int (nI L)), (0, .ref (ma 0))]) hx hb dX7_clearText_4 rfl hl (by decide) rfl (fun ls hl => ?_)
  refine lv_aload_n hx hb dX7_clearText_5 rfl (lv_at hl 1 rfl) ?_
  refine lv_iconst (v := 0) hx hb dX7_clearText_6 (by decide) ?_
  refine va_put (D := D) (ci := 7) (v := .int (0)) (ty := .int) (C := RX7) (T := TX7) (N := 11) hx hb hts (by decide +kernel) tyX7 tyX7_ok nmX7 hown hK.1 hP hD hS 0 rfl rfl 5 (by decide) (hts (.fieldLink RX7 82 "ParkingGarageModel" "typed" "I") (by decide +kernel)) (fun _ h9 => h9) rfl (by decide +kernel) rfl rfl (Nat.le_of_ble_eq_true rfl) dX7_clearText_7 (fun H locs hP hD hS => ?_)
  have hP : va_P D vwCl [(ma 0, oE 7 [.ref (ma 1), .ref (ma 2), .int (fi 0), .ref (ma 3), .ref (ma 4), .int (0), .int (fi 2), .int (fi 3), .long (wd), .int (fi 4), .int (fi 5)]), (ma 4, iE cB 120 (bt f))] H := hP
  have hD : va_D A [(ma 0, oE 7 [.ref (ma 1), .ref (ma 2), .int (fi 0), .ref (ma 3), .ref (ma 4), .int (0), .int (fi 2), .int (fi 3), .long (wd), .int (fi 4), .int (fi 5)]), (ma 4, iE cB 120 (bt f))] := hD
  refine lv_iload_n hx hb dX7_clearText_10 rfl (lv_at hl 0 rfl) ?_
  exact wr_iret (v := nI L) (()) hx hb hr hlocks hS hP hD [0, 1] rfl rfl (by decide) dX7_clearText_11 (rfl)
set_option maxHeartbeats 4000000 in
set_option maxRecDepth 100000 in
theorem c_X7_reserve (l : Launch) (D : va_G) (cI cC cB cS : ClassId) (zz : Nat) (ma : Nat → Nat) (fi : Nat → Int32) (wd : Int64) (g : Nat → Nat → Int32) (lf : Int32) (np : Nat) (Pp : Nat → Int32) (hs : Nat → Nat → Nat → Int32) (lfs : Nat → Int32) (n : Nat) (q : Nat) (tn : Nat) (pl : Int32) (sz : Int32) (bg : Int32) (en : Int32) (hnp : np ≤ 6) (hPR : PRel Pp np hs lfs) (hn : g 3 0 = nI n) (hnb : n ≤ 30) (hq : g 12 0 = nI q) (hqc : q ≤ 16) (hst : ∀ w, w < q → 0 ≤ g 18 w) (ht : g 19 0 = nI tn) (htb : tn ≤ 5) (htu : ∀ j, j < tn → 0 < g 21 j) : Met l yX7_reserve wsX7_reserve ({ frames := 4, cells := 0, slots := 0, locals := 94 } : Room) (wrPc D (TYS cI cC cB cS) [.ref (ma 0), .int (pl), .int (sz), .int (bg), .int (en)] ([(ma 0, oE 7 [.ref (ma 1), .ref (ma 2), .int (nI np), .ref (ma 3), .ref (ma 4), .int (fi 1), .int (fi 2), .int (fi 3), .long (wd), .int (fi 4), .int (fi 5)]), (ma 1, iE cI 382 (enc g lf)), (ma 2, iE cI 2292 (Pp))]) zz) (va_Qi (fun (r : Int32) (u : MWT) => ∃ o2, Oreserve g n q tn pl sz bg en r o2 ∧ SvM g lf (lf) np hs lfs Pp o2 u) (wrB D (va_A ([(ma 0, oE 7 [.ref (ma 1), .ref (ma 2), .int (nI np), .ref (ma 3), .ref (ma 4), .int (fi 1), .int (fi 2), .int (fi 3), .long (wd), .int (fi 4), .int (fi 5)]), (ma 1, iE cI 382 (enc g lf)), (ma 2, iE cI 2292 (Pp))]) zz) (fun u => [(ma 0, oE 7 [.ref (ma 1), .ref (ma 2), .int (nI u.2.2.1), .ref (ma 3), .ref (ma 4), .int (fi 1), .int (fi 2), .int (fi 3), .long (wd), .int (fi 4), .int (fi 5)]), (ma 1, iE cI 382 (enc u.1 u.2.1)), (ma 2, iE cI 2292 (u.2.2.2.2.2))])) (va_A ([(ma 0, oE 7 [.ref (ma 1), .ref (ma 2), .int (nI np), .ref (ma 3), .ref (ma 4), .int (fi 1), .int (fi 2), .int (fi 3), .long (wd), .int (fi 4), .int (fi 5)]), (ma 1, iE cI 382 (enc g lf)), (ma 2, iE cI 2292 (Pp))]) zz)) 0 0 (va_A ([(ma 0, oE 7 [.ref (ma 1), .ref (ma 2), .int (nI np), .ref (ma 3), .ref (ma 4), .int (fi 1), .int (fi 2), .int (fi 3), .long (wd), .int (fi 4), .int (fi 5)]), (ma 1, iE cI 382 (enc g lf)), (ma 2, iE cI 2292 (Pp))]) zz) := by
  refine wr_intro (Qc := fun A B => va_Qi (fun (r : Int32) (u : MWT) => ∃ o2, Oreserve g n q tn pl sz bg en r o2 ∧ SvM g lf (lf) np hs lfs Pp o2 u) B A) (by decide) rfl (Nat.le_of_ble_eq_true rfl) ?_
  intro p e s m below meth c A hx hb hr hml hts hown hlocks hin hP hK hD hA hS ls hl
  have hP : va_P D vwCl [(ma 0, oE 7 [.ref (ma 1), .ref (ma 2), .int (nI np), .ref (ma 3), .ref (ma 4), .int (fi 1), .int (fi 2), .int (fi 3), .long (wd), .int (fi 4), .int (fi 5)]), (ma 1, iE cI 382 (enc g lf)), (ma 2, iE cI 2292 (Pp))] s.heap := hP
  have hD : va_D A [(ma 0, oE 7 [.ref (ma 1), .ref (ma 2), .int (nI np), .ref (ma 3), .ref (ma 4), .int (fi 1), .int (fi 2), .int (fi 3), .long (wd), .int (fi 4), .int (fi 5)]), (ma 1, iE cI 382 (enc g lf)), (ma 2, iE cI 2292 (Pp))] := hD
  have hown : s.vm.findClass RX7 = some m.cls := hown
  have hl : lv_has ls 7 [(0, .ref (ma 0)), (1, .int (pl)), (2, .int (sz)), (3, .int (bg)), (4, .int (en))] := hl
  refine lv_iload_n hx hb dX7_reserve_0 rfl (lv_at hl 1 rfl) ?_
  refine lv_iconst (v := 1) hx hb dX7_reserve_1 (by decide) ?_
  refine lv_sipush (v := 999) hx hb dX7_reserve_2 (by decide) ?_
  refine cs_i (As := [.int (pl), .int (1), .int (999)]) (rest := []) (tys := TYS cI cC cB cS) ⟨hx, hb, hml, hown, hts⟩ (c_X7_in l D cI cC cB cS (pl) (1) (999)) (va_cwS 3 hts gX7_reserve_X7_in rfl rfl rfl (by decide +kernel) ⟨Nat.le_of_ble_eq_true rfl, Nat.le_of_ble_eq_true rfl⟩) hK hP [] rfl rfl rfl hl.1 (Nat.le_of_ble_eq_true rfl) dX7_reserve_5 ⟨Nat.le_of_ble_eq_true rfl, Nat.le_of_ble_eq_true rfl⟩ (fun r_1 hr_1 => ?_)
  rcases (show Yes (1 ≤ pl ∧ pl ≤ 999) r_1 from hr_1) with ⟨rfl, h_2⟩ | ⟨rfl, h_2⟩
  · -- X7_in t
    refine if_eq_f (tgt := 52) hx hb (by decide) dX7_reserve_8 (by decide) ?_
    refine lv_iload_n hx hb dX7_reserve_11 rfl (lv_at hl 2 rfl) ?_
    refine lv_iconst (v := 0) hx hb dX7_reserve_12 (by decide) ?_
    refine lv_iconst (v := 2) hx hb dX7_reserve_13 (by decide) ?_
    refine cs_i (As := [.int (sz), .int (0), .int (2)]) (rest := []) (tys := TYS cI cC cB cS) ⟨hx, hb, hml, hown, hts⟩ (c_X7_in l D cI cC cB cS (sz) (0) (2)) (va_cwS 3 hts gX7_reserve_X7_in rfl rfl rfl (by decide +kernel) ⟨Nat.le_of_ble_eq_true rfl, Nat.le_of_ble_eq_true rfl⟩) hK hP [] rfl rfl rfl hl.1 (Nat.le_of_ble_eq_true rfl) dX7_reserve_14 ⟨Nat.le_of_ble_eq_true rfl, Nat.le_of_ble_eq_true rfl⟩ (fun r_3 hr_3 => ?_)
    rcases (show Yes (0 ≤ sz ∧ sz ≤ 2) r_3 from hr_3) with ⟨rfl, h_4⟩ | ⟨rfl, h_4⟩
    · -- X7_in t
      refine if_eq_f (tgt := 52) hx hb (by decide) dX7_reserve_17 (by decide) ?_
      refine lv_iload_n hx hb dX7_reserve_20 rfl (lv_at hl 3 rfl) ?_
      refine lv_aload_n hx hb dX7_reserve_21 rfl (lv_at hl 0 rfl) ?_
      refine va_get (D := D) (ci := 7) (v := .ref (ma 1)) (C := RX7) (T := TX7) (N := 11) hx hb hts (by decide +kernel) hown hK.1 hP 0 rfl rfl 0 (by decide) (hts (.fieldLink RX7 7 "ParkingGarageModel" "s" "[I") (by decide +kernel)) (fun _ h9 => h9) rfl dX7_reserve_22 ?_
      refine lv_iconst (v := 0) hx hb dX7_reserve_25 (by decide) ?_
      refine iald_n (f := enc g lf) hx hb hK.1 hP 1 0 rfl rfl (0) (rfl) (by decide) (by omega) dX7_reserve_26 ?_
      rw [show enc g lf (0) = g 0 0 from rfl]
      refine lv_sipush (v := 20000) hx hb dX7_reserve_27 (by decide) ?_
      refine cs_i (As := [.int (bg), .int (g 0 0), .int (20000)]) (rest := []) (tys := TYS cI cC cB cS) ⟨hx, hb, hml, hown, hts⟩ (c_X7_in l D cI cC cB cS (bg) (g 0 0) (20000)) (va_cwS 3 hts gX7_reserve_X7_in rfl rfl rfl (by decide +kernel) ⟨Nat.le_of_ble_eq_true rfl, Nat.le_of_ble_eq_true rfl⟩) hK hP [] rfl rfl rfl hl.1 (Nat.le_of_ble_eq_true rfl) dX7_reserve_30 ⟨Nat.le_of_ble_eq_true rfl, Nat.le_of_ble_eq_true rfl⟩ (fun r_5 hr_5 => ?_)
      rcases (show Yes (g 0 0 ≤ bg ∧ bg ≤ 20000) r_5 from hr_5) with ⟨rfl, h_6⟩ | ⟨rfl, h_6⟩
      · -- X7_in t
        refine if_eq_f (tgt := 52) hx hb (by decide) dX7_reserve_33 (by decide) ?_
        refine lv_iload hx hb dX7_reserve_36 (lv_at hl 4 rfl) ?_
        refine lv_iload_n hx hb dX7_reserve_38 rfl (lv_at hl 3 rfl) ?_
        refine lv_icmp_le (tgt := 52) hx hb dX7_reserve_39 (by decide) (fun c_7 => ?_) (fun c_7 => ?_)
        · -- c_7: en ≤ bg
          refine lv_iconst (v := -1) hx hb dX7_reserve_52 (by decide) ?_
          exact wr_iret (v := -1) ((g, lf, np, hs, lfs, Pp)) hx hb hr hlocks hS hP hD [0, 1, 2] rfl rfl (by decide) dX7_reserve_53 (⟨none, Or.inr ⟨fun q => (le_succ h_6.2).mp q.2.2.2.1 c_7, rfl, rfl⟩, Or.inl ⟨rfl, rfl⟩⟩)
        · -- c_7: not en ≤ bg
          refine lv_iload hx hb dX7_reserve_42 (lv_at hl 4 rfl) ?_
          refine lv_iload_n hx hb dX7_reserve_44 rfl (lv_at hl 3 rfl) ?_
          refine lv_sipush (v := 1440) hx hb dX7_reserve_45 (by decide) ?_
          refine lv_iadd hx hb dX7_reserve_48 ?_
          refine lv_icmp_le (tgt := 54) hx hb dX7_reserve_49 (by decide) (fun c_8 => ?_) (fun c_8 => ?_)
          · -- c_8: en ≤ (bg) + (1440)
            refine lv_aload_n hx hb dX7_reserve_54 rfl (lv_at hl 0 rfl) ?_
            refine lv_iload_n hx hb dX7_reserve_55 rfl (lv_at hl 2 rfl) ?_
            refine lv_iload_n hx hb dX7_reserve_56 rfl (lv_at hl 3 rfl) ?_
            refine lv_iload hx hb dX7_reserve_57 (lv_at hl 4 rfl) ?_
            refine cv_i (As := [.int (sz), .int (bg), .int (en)]) (rest := []) (tys := TYS cI cC cB cS) (ci := 7) ⟨hx, hb, hml, hown, hts⟩ (c_X7_bayFor l D cI cC cB cS (ma) ((fun j => [nI np, fi 1, fi 2, fi 3, fi 4, fi 5].getD j 0)) (wd) (g) (lf) (n) (q) (sz) (bg) (en) (hn) (hnb) (hq) (hqc) (hst)) (cwV 3 hts gX7_reserve_X7_bayFor rfl rfl rfl (by decide +kernel) ⟨Nat.le_of_ble_eq_true rfl, Nat.le_of_ble_eq_true rfl⟩) hK hP [0, 1] rfl rfl rfl rfl rfl hl.1 (Nat.le_of_ble_eq_true rfl) dX7_reserve_59 ⟨Nat.le_of_ble_eq_true rfl, Nat.le_of_ble_eq_true rfl⟩ (fun r_9 hr_9 => ?_)
            have hr_9 : aFor g n q (sz) (bg) (en) r_9 := hr_9
            refine lv_istore (lv' := [(5, .int (r_9)), (0, .ref (ma 0)), (1, .int (pl)), (2, .int (sz)), (3, .int (bg)), (4, .int (en))]) hx hb dX7_reserve_62 hl (by decide) rfl (fun ls hl => ?_)
            refine lv_aload_n hx hb dX7_reserve_64 rfl (lv_at hl 1 rfl) ?_
            refine va_get (D := D) (ci := 7) (v := .ref (ma 1)) (C := RX7) (T := TX7) (N := 11) hx hb hts (by decide +kernel) hown hK.1 hP 0 rfl rfl 0 (by decide) (hts (.fieldLink RX7 7 "ParkingGarageModel" "s" "[I") (by decide +kernel)) (fun _ h9 => h9) rfl dX7_reserve_65 ?_
            refine lv_iconst (v := 2) hx hb dX7_reserve_68 (by decide) ?_
            refine iald_n (f := enc g lf) hx hb hK.1 hP 1 0 rfl rfl (2) (rfl) (by decide) (by omega) dX7_reserve_69 ?_
            rw [show enc g lf (2) = nI q from hq]
            refine lv_bipush (v := 16) hx hb dX7_reserve_70 (by decide) ?_
            refine lv_icmp_eq (tgt := 82) hx hb dX7_reserve_72 (by decide) (fun c_10 => ?_) (fun c_10 => ?_)
            · -- c_10: nI q = 16
              refine lv_bipush (v := -3) hx hb dX7_reserve_82 (by decide) ?_
              exact wr_iret (v := -3) ((g, lf, np, hs, lfs, Pp)) hx hb hr hlocks hS hP hD [0, 1, 2] rfl rfl (by decide) dX7_reserve_84 (⟨none, Or.inl ⟨⟨h_2, h_4, h_6, (le_succ h_6.2).mpr c_7, c_8⟩, r_9, hr_9, Or.inl ⟨Or.inl ((nI_eq (a := q) (b := 16) (by omega) (by omega)).mp c_10), ⟨rfl, rfl⟩⟩⟩, Or.inl ⟨rfl, rfl⟩⟩)
            · -- c_10: not nI q = 16
              have hqf : q < 16 := Nat.lt_of_le_of_ne hqc (fun e => c_10 (by rw [e]; rfl))
              refine lv_iload hx hb dX7_reserve_75 (lv_at hl 0 rfl) ?_
              refine lv_bipush (v := -9) hx hb dX7_reserve_77 (by decide) ?_
              refine lv_icmp_ne (tgt := 85) hx hb dX7_reserve_79 (by decide) (fun c_11 => ?_) (fun c_11 => ?_)
              · -- c_11: r_9 ≠ -9
                refine lv_aload_n hx hb dX7_reserve_85 rfl (lv_at hl 1 rfl) ?_
                refine cv_wv (As := []) (rest := []) (tys := TYS cI cC cB cS) (ci := 7) (wr := []) ⟨hx, hb, hml, hown, hts⟩ (c_X7_notes l D cI cC cB cS _ (ma) ((fun j => [nI np, fi 1, fi 2, fi 3, fi 4, fi 5].getD j 0)) (wd) (g) (lf) (np) (Pp) (hs) (lfs) (hnp) (hPR)) (cwV 0 hts gX7_reserve_X7_notes rfl rfl rfl (by decide +kernel) ⟨Nat.le_of_ble_eq_true rfl, Nat.le_of_ble_eq_true rfl⟩) hK hP hD hS hA [0, 1, 2] [] rfl rfl (by decide) (by decide) (by decide) rfl rfl rfl rfl hl.1 (Nat.le_of_ble_eq_true rfl) dX7_reserve_86 ⟨Nat.le_of_ble_eq_true rfl, Nat.le_of_ble_eq_true rfl⟩ (fun u_12 H locs hu_12 hP hD hS => ?_)
                have hP : va_P D vwCl [(ma 0, oE 7 [.ref (ma 1), .ref (ma 2), .int (nI u_12.1), .ref (ma 3), .ref (ma 4), .int (fi 1), .int (fi 2), .int (fi 3), .long (wd), .int (fi 4), .int (fi 5)]), (ma 1, iE cI 382 (enc g lf)), (ma 2, iE cI 2292 (u_12.2.2.2))] H := hP
                have hD : va_D A [(ma 0, oE 7 [.ref (ma 1), .ref (ma 2), .int (nI u_12.1), .ref (ma 3), .ref (ma 4), .int (fi 1), .int (fi 2), .int (fi 3), .long (wd), .int (fi 4), .int (fi 5)]), (ma 1, iE cI 382 (enc g lf)), (ma 2, iE cI 2292 (u_12.2.2.2))] := hD
                have hu_12 : Sv np hs lfs g lf u_12.1 u_12.2.1 u_12.2.2.1 ∧ PRel u_12.2.2.2 u_12.1 u_12.2.1 u_12.2.2.1 := hu_12
                refine lv_bipush (v := 46) hx hb dX7_reserve_89 (by decide) ?_
                refine lv_bipush (v := 6) hx hb dX7_reserve_91 (by decide) ?_
                refine lv_aload_n hx hb dX7_reserve_93 rfl (lv_at hl 1 rfl) ?_
                refine va_get (D := D) (ci := 7) (v := .ref (ma 1)) (C := RX7) (T := TX7) (N := 11) hx hb hts (by decide +kernel) hown hK.1 hP 0 rfl rfl 0 (by decide) (hts (.fieldLink RX7 7 "ParkingGarageModel" "s" "[I") (by decide +kernel)) (fun _ h9 => h9) rfl dX7_reserve_94 ?_
                refine lv_iconst (v := 2) hx hb dX7_reserve_97 (by decide) ?_
                refine iald_n (f := enc g lf) hx hb hK.1 hP 1 0 rfl rfl (2) (rfl) (by decide) (by omega) dX7_reserve_98 ?_
                rw [show enc g lf (2) = nI q from hq]
                refine lv_imul hx hb dX7_reserve_99 ?_
                rw [show (((6) * (nI q)) : Int32) = nI (6 * q) from (nI_mul 6 q)]
                refine lv_iadd hx hb dX7_reserve_100 ?_
                rw [show (((46) + (nI (6 * q))) : Int32) = nI (46 + 6 * q) from (nI_add 46 (6 * q))]
                refine lv_istore (lv' := [(6, .int (nI (46 + 6 * q))), (5, .int (r_9)), (0, .ref (ma 0)), (1, .int (pl)), (2, .int (sz)), (3, .int (bg)), (4, .int (en))]) hx hb dX7_reserve_101 hl (by decide) rfl (fun ls hl => ?_)
                refine lv_aload_n hx hb dX7_reserve_103 rfl (lv_at hl 2 rfl) ?_
                refine va_get (D := D) (ci := 7) (v := .ref (ma 1)) (C := RX7) (T := TX7) (N := 11) hx hb hts (by decide +kernel) hown hK.1 hP 0 rfl rfl 0 (by decide) (hts (.fieldLink RX7 7 "ParkingGarageModel" "s" "[I") (by decide +kernel)) (fun _ h9 => h9) rfl dX7_reserve_104 ?_
                refine lv_iconst (v := 2) hx hb dX7_reserve_107 (by decide) ?_
                refine lv_dup2_11 hx hb dX7_reserve_108 rfl rfl ?_
                refine iald_n (f := enc g lf) hx hb hK.1 hP 1 0 rfl rfl (2) (rfl) (by decide) (by omega) dX7_reserve_109 ?_
                rw [show enc g lf (2) = g 12 0 from rfl]
                refine lv_iconst (v := 1) hx hb dX7_reserve_110 (by decide) ?_
                refine lv_iadd hx hb dX7_reserve_111 ?_
                refine iast_n (f := enc g lf) hx hb hK.1 hP hD hS 1 0 rfl rfl (2) (rfl) (by decide) (by omega) dX7_reserve_112 (fun H locs hP hD hS => ?_)
                rw [enc_up 12 0 (by omega) (rfl)] at hP hD
                have hP : va_P D vwCl [(ma 0, oE 7 [.ref (ma 1), .ref (ma 2), .int (nI u_12.1), .ref (ma 3), .ref (ma 4), .int (fi 1), .int (fi 2), .int (fi 3), .long (wd), .int (fi 4), .int (fi 5)]), (ma 1, iE cI 382 (enc (w2 g 12 (upd (g 12) 0 ((g 12 0) + (1)))) lf)), (ma 2, iE cI 2292 (u_12.2.2.2))] H := hP
                have hD : va_D A [(ma 0, oE 7 [.ref (ma 1), .ref (ma 2), .int (nI u_12.1), .ref (ma 3), .ref (ma 4), .int (fi 1), .int (fi 2), .int (fi 3), .long (wd), .int (fi 4), .int (fi 5)]), (ma 1, iE cI 382 (enc (w2 g 12 (upd (g 12) 0 ((g 12 0) + (1)))) lf)), (ma 2, iE cI 2292 (u_12.2.2.2))] := hD
                refine lv_aload_n hx hb dX7_reserve_113 rfl (lv_at hl 2 rfl) ?_
                refine va_get (D := D) (ci := 7) (v := .ref (ma 1)) (C := RX7) (T := TX7) (N := 11) hx hb hts (by decide +kernel) hown hK.1 hP 0 rfl rfl 0 (by decide) (hts (.fieldLink RX7 7 "ParkingGarageModel" "s" "[I") (by decide +kernel)) (fun _ h9 => h9) rfl dX7_reserve_114 ?_
                refine lv_iload hx hb dX7_reserve_117 (lv_at hl 0 rfl) ?_
                refine lv_iconst (v := 0) hx hb dX7_reserve_119 (by decide) ?_
                refine lv_iadd hx hb dX7_reserve_120 ?_
                rw [show (((nI (46 + 6 * q)) + (0)) : Int32) = nI (46 + 6 * q + 0) from (nI_add (46 + 6 * q) 0)]
                refine lv_iload_n hx hb dX7_reserve_121 rfl (lv_at hl 3 rfl) ?_
                refine iast_n (f := enc (w2 g 12 (upd (g 12) 0 ((g 12 0) + (1)))) lf) hx hb hK.1 hP hD hS 1 0 rfl rfl (46 + 6 * q + 0) (rfl) (by omega) (by omega) dX7_reserve_122 (fun H locs hP hD hS => ?_)
                rw [enc_up 13 q (by omega) (posR_res (by omega) (by omega))] at hP hD
                have hP : va_P D vwCl [(ma 0, oE 7 [.ref (ma 1), .ref (ma 2), .int (nI u_12.1), .ref (ma 3), .ref (ma 4), .int (fi 1), .int (fi 2), .int (fi 3), .long (wd), .int (fi 4), .int (fi 5)]), (ma 1, iE cI 382 (enc (w2 (w2 g 12 (upd (g 12) 0 ((g 12 0) + (1)))) 13 (upd (g 13) q (pl))) lf)), (ma 2, iE cI 2292 (u_12.2.2.2))] H := hP
                have hD : va_D A [(ma 0, oE 7 [.ref (ma 1), .ref (ma 2), .int (nI u_12.1), .ref (ma 3), .ref (ma 4), .int (fi 1), .int (fi 2), .int (fi 3), .long (wd), .int (fi 4), .int (fi 5)]), (ma 1, iE cI 382 (enc (w2 (w2 g 12 (upd (g 12) 0 ((g 12 0) + (1)))) 13 (upd (g 13) q (pl))) lf)), (ma 2, iE cI 2292 (u_12.2.2.2))] := hD
                refine lv_aload_n hx hb dX7_reserve_123 rfl (lv_at hl 2 rfl) ?_
                refine va_get (D := D) (ci := 7) (v := .ref (ma 1)) (C := RX7) (T := TX7) (N := 11) hx hb hts (by decide +kernel) hown hK.1 hP 0 rfl rfl 0 (by decide) (hts (.fieldLink RX7 7 "ParkingGarageModel" "s" "[I") (by decide +kernel)) (fun _ h9 => h9) rfl dX7_reserve_124 ?_
                refine lv_iload hx hb dX7_reserve_127 (lv_at hl 0 rfl) ?_
                refine lv_iconst (v := 1) hx hb dX7_reserve_129 (by decide) ?_
                refine lv_iadd hx hb dX7_reserve_130 ?_
                rw [show (((nI (46 + 6 * q)) + (1)) : Int32) = nI (46 + 6 * q + 1) from (nI_add (46 + 6 * q) 1)]
                refine lv_iload hx hb dX7_reserve_131 (lv_at hl 1 rfl) ?_
                refine iast_n (f := enc (w2 (w2 g 12 (upd (g 12) 0 ((g 12 0) + (1)))) 13 (upd (g 13) q (pl))) lf) hx hb hK.1 hP hD hS 1 0 rfl rfl (46 + 6 * q + 1) (rfl) (by omega) (by omega) dX7_reserve_133 (fun H locs hP hD hS => ?_)
                rw [enc_up 14 q (by omega) (posR_res (by omega) (by omega))] at hP hD
                have hP : va_P D vwCl [(ma 0, oE 7 [.ref (ma 1), .ref (ma 2), .int (nI u_12.1), .ref (ma 3), .ref (ma 4), .int (fi 1), .int (fi 2), .int (fi 3), .long (wd), .int (fi 4), .int (fi 5)]), (ma 1, iE cI 382 (enc (w2 (w2 (w2 g 12 (upd (g 12) 0 ((g 12 0) + (1)))) 13 (upd (g 13) q (pl))) 14 (upd (g 14) q (r_9))) lf)), (ma 2, iE cI 2292 (u_12.2.2.2))] H := hP
                have hD : va_D A [(ma 0, oE 7 [.ref (ma 1), .ref (ma 2), .int (nI u_12.1), .ref (ma 3), .ref (ma 4), .int (fi 1), .int (fi 2), .int (fi 3), .long (wd), .int (fi 4), .int (fi 5)]), (ma 1, iE cI 382 (enc (w2 (w2 (w2 g 12 (upd (g 12) 0 ((g 12 0) + (1)))) 13 (upd (g 13) q (pl))) 14 (upd (g 14) q (r_9))) lf)), (ma 2, iE cI 2292 (u_12.2.2.2))] := hD
                refine lv_aload_n hx hb dX7_reserve_134 rfl (lv_at hl 2 rfl) ?_
                refine va_get (D := D) (ci := 7) (v := .ref (ma 1)) (C := RX7) (T := TX7) (N := 11) hx hb hts (by decide +kernel) hown hK.1 hP 0 rfl rfl 0 (by decide) (hts (.fieldLink RX7 7 "ParkingGarageModel" "s" "[I") (by decide +kernel)) (fun _ h9 => h9) rfl dX7_reserve_135 ?_
                refine lv_iload hx hb dX7_reserve_138 (lv_at hl 0 rfl) ?_
                refine lv_iconst (v := 2) hx hb dX7_reserve_140 (by decide) ?_
                refine lv_iadd hx hb dX7_reserve_141 ?_
                rw [show (((nI (46 + 6 * q)) + (2)) : Int32) = nI (46 + 6 * q + 2) from (nI_add (46 + 6 * q) 2)]
                refine lv_iload_n hx hb dX7_reserve_142 rfl (lv_at hl 5 rfl) ?_
                refine iast_n (f := enc (w2 (w2 (w2 g 12 (upd (g 12) 0 ((g 12 0) + (1)))) 13 (upd (g 13) q (pl))) 14 (upd (g 14) q (r_9))) lf) hx hb hK.1 hP hD hS 1 0 rfl rfl (46 + 6 * q + 2) (rfl) (by omega) (by omega) dX7_reserve_143 (fun H locs hP hD hS => ?_)
                rw [enc_up 15 q (by omega) (posR_res (by omega) (by omega))] at hP hD
                have hP : va_P D vwCl [(ma 0, oE 7 [.ref (ma 1), .ref (ma 2), .int (nI u_12.1), .ref (ma 3), .ref (ma 4), .int (fi 1), .int (fi 2), .int (fi 3), .long (wd), .int (fi 4), .int (fi 5)]), (ma 1, iE cI 382 (enc (w2 (w2 (w2 (w2 g 12 (upd (g 12) 0 ((g 12 0) + (1)))) 13 (upd (g 13) q (pl))) 14 (upd (g 14) q (r_9))) 15 (upd (g 15) q (bg))) lf)), (ma 2, iE cI 2292 (u_12.2.2.2))] H := hP
                have hD : va_D A [(ma 0, oE 7 [.ref (ma 1), .ref (ma 2), .int (nI u_12.1), .ref (ma 3), .ref (ma 4), .int (fi 1), .int (fi 2), .int (fi 3), .long (wd), .int (fi 4), .int (fi 5)]), (ma 1, iE cI 382 (enc (w2 (w2 (w2 (w2 g 12 (upd (g 12) 0 ((g 12 0) + (1)))) 13 (upd (g 13) q (pl))) 14 (upd (g 14) q (r_9))) 15 (upd (g 15) q (bg))) lf)), (ma 2, iE cI 2292 (u_12.2.2.2))] := hD
                refine lv_aload_n hx hb dX7_reserve_144 rfl (lv_at hl 2 rfl) ?_
                refine va_get (D := D) (ci := 7) (v := .ref (ma 1)) (C := RX7) (T := TX7) (N := 11) hx hb hts (by decide +kernel) hown hK.1 hP 0 rfl rfl 0 (by decide) (hts (.fieldLink RX7 7 "ParkingGarageModel" "s" "[I") (by decide +kernel)) (fun _ h9 => h9) rfl dX7_reserve_145 ?_
                refine lv_iload hx hb dX7_reserve_148 (lv_at hl 0 rfl) ?_
                refine lv_iconst (v := 3) hx hb dX7_reserve_150 (by decide) ?_
                refine lv_iadd hx hb dX7_reserve_151 ?_
                rw [show (((nI (46 + 6 * q)) + (3)) : Int32) = nI (46 + 6 * q + 3) from (nI_add (46 + 6 * q) 3)]
                refine lv_iload hx hb dX7_reserve_152 (lv_at hl 6 rfl) ?_
                refine iast_n (f := enc (w2 (w2 (w2 (w2 g 12 (upd (g 12) 0 ((g 12 0) + (1)))) 13 (upd (g 13) q (pl))) 14 (upd (g 14) q (r_9))) 15 (upd (g 15) q (bg))) lf) hx hb hK.1 hP hD hS 1 0 rfl rfl (46 + 6 * q + 3) (rfl) (by omega) (by omega) dX7_reserve_154 (fun H locs hP hD hS => ?_)
                rw [enc_up 16 q (by omega) (posR_res (by omega) (by omega))] at hP hD
                have hP : va_P D vwCl [(ma 0, oE 7 [.ref (ma 1), .ref (ma 2), .int (nI u_12.1), .ref (ma 3), .ref (ma 4), .int (fi 1), .int (fi 2), .int (fi 3), .long (wd), .int (fi 4), .int (fi 5)]), (ma 1, iE cI 382 (enc (w2 (w2 (w2 (w2 (w2 g 12 (upd (g 12) 0 ((g 12 0) + (1)))) 13 (upd (g 13) q (pl))) 14 (upd (g 14) q (r_9))) 15 (upd (g 15) q (bg))) 16 (upd (g 16) q (en))) lf)), (ma 2, iE cI 2292 (u_12.2.2.2))] H := hP
                have hD : va_D A [(ma 0, oE 7 [.ref (ma 1), .ref (ma 2), .int (nI u_12.1), .ref (ma 3), .ref (ma 4), .int (fi 1), .int (fi 2), .int (fi 3), .long (wd), .int (fi 4), .int (fi 5)]), (ma 1, iE cI 382 (enc (w2 (w2 (w2 (w2 (w2 g 12 (upd (g 12) 0 ((g 12 0) + (1)))) 13 (upd (g 13) q (pl))) 14 (upd (g 14) q (r_9))) 15 (upd (g 15) q (bg))) 16 (upd (g 16) q (en))) lf)), (ma 2, iE cI 2292 (u_12.2.2.2))] := hD
                refine lv_aload_n hx hb dX7_reserve_155 rfl (lv_at hl 2 rfl) ?_
                refine va_get (D := D) (ci := 7) (v := .ref (ma 1)) (C := RX7) (T := TX7) (N := 11) hx hb hts (by decide +kernel) hown hK.1 hP 0 rfl rfl 0 (by decide) (hts (.fieldLink RX7 7 "ParkingGarageModel" "s" "[I") (by decide +kernel)) (fun _ h9 => h9) rfl dX7_reserve_156 ?_
                refine lv_iload hx hb dX7_reserve_159 (lv_at hl 0 rfl) ?_
                refine lv_iconst (v := 4) hx hb dX7_reserve_161 (by decide) ?_
                refine lv_iadd hx hb dX7_reserve_162 ?_
                rw [show (((nI (46 + 6 * q)) + (4)) : Int32) = nI (46 + 6 * q + 4) from (nI_add (46 + 6 * q) 4)]
                refine lv_aload_n hx hb dX7_reserve_163 rfl (lv_at hl 2 rfl) ?_
                refine lv_iload hx hb dX7_reserve_164 (lv_at hl 6 rfl) ?_
                refine lv_iload_n hx hb dX7_reserve_166 rfl (lv_at hl 5 rfl) ?_
                refine lv_isub hx hb dX7_reserve_167 ?_
                refine cv_i (As := [.int ((en) - (bg))]) (rest := [.int (nI (46 + 6 * q + 4)), .ref (ma 1)]) (tys := TYS cI cC cB cS) (ci := 7) ⟨hx, hb, hml, hown, hts⟩ (c_X7_normal l D cI cC cB cS (ma) ((fun j => [nI u_12.1, fi 1, fi 2, fi 3, fi 4, fi 5].getD j 0)) (wd) ((w2 (w2 (w2 (w2 (w2 g 12 (upd (g 12) 0 ((g 12 0) + (1)))) 13 (upd (g 13) q (pl))) 14 (upd (g 14) q (r_9))) 15 (upd (g 15) q (bg))) 16 (upd (g 16) q (en)))) (lf) (tn) ((en) - (bg)) (ht) (htb) (htu)) (cwV 1 hts gX7_reserve_X7_normal rfl rfl rfl (by decide +kernel) ⟨Nat.le_of_ble_eq_true rfl, Nat.le_of_ble_eq_true rfl⟩) hK hP [0, 1] rfl rfl rfl rfl rfl hl.1 (Nat.le_of_ble_eq_true rfl) dX7_reserve_168 ⟨Nat.le_of_ble_eq_true rfl, Nat.le_of_ble_eq_true rfl⟩ (fun r_13 hr_13 => ?_)
                have hr_13 : r_13 = nFg (w2 (w2 (w2 (w2 (w2 g 12 (upd (g 12) 0 ((g 12 0) + (1)))) 13 (upd (g 13) q (pl))) 14 (upd (g 14) q (r_9))) 15 (upd (g 15) q (bg))) 16 (upd (g 16) q (en))) tn ((en) - (bg)) := hr_13
                subst hr_13
                rw [show ((nFg (w2 (w2 (w2 (w2 (w2 g 12 (upd (g 12) 0 ((g 12 0) + (1)))) 13 (upd (g 13) q (pl))) 14 (upd (g 14) q (r_9))) 15 (upd (g 15) q (bg))) 16 (upd (g 16) q (en))) tn ((en) - (bg))) : Int32) = nFg g tn (en - bg) from rfl]
                refine iast_n (f := enc (w2 (w2 (w2 (w2 (w2 g 12 (upd (g 12) 0 ((g 12 0) + (1)))) 13 (upd (g 13) q (pl))) 14 (upd (g 14) q (r_9))) 15 (upd (g 15) q (bg))) 16 (upd (g 16) q (en))) lf) hx hb hK.1 hP hD hS 1 0 rfl rfl (46 + 6 * q + 4) (rfl) (by omega) (by omega) dX7_reserve_171 (fun H locs hP hD hS => ?_)
                rw [enc_up 17 q (by omega) (posR_res (by omega) (by omega))] at hP hD
                have hP : va_P D vwCl [(ma 0, oE 7 [.ref (ma 1), .ref (ma 2), .int (nI u_12.1), .ref (ma 3), .ref (ma 4), .int (fi 1), .int (fi 2), .int (fi 3), .long (wd), .int (fi 4), .int (fi 5)]), (ma 1, iE cI 382 (enc (w2 (w2 (w2 (w2 (w2 (w2 g 12 (upd (g 12) 0 ((g 12 0) + (1)))) 13 (upd (g 13) q (pl))) 14 (upd (g 14) q (r_9))) 15 (upd (g 15) q (bg))) 16 (upd (g 16) q (en))) 17 (upd (g 17) q (nFg g tn (en - bg)))) lf)), (ma 2, iE cI 2292 (u_12.2.2.2))] H := hP
                have hD : va_D A [(ma 0, oE 7 [.ref (ma 1), .ref (ma 2), .int (nI u_12.1), .ref (ma 3), .ref (ma 4), .int (fi 1), .int (fi 2), .int (fi 3), .long (wd), .int (fi 4), .int (fi 5)]), (ma 1, iE cI 382 (enc (w2 (w2 (w2 (w2 (w2 (w2 g 12 (upd (g 12) 0 ((g 12 0) + (1)))) 13 (upd (g 13) q (pl))) 14 (upd (g 14) q (r_9))) 15 (upd (g 15) q (bg))) 16 (upd (g 16) q (en))) 17 (upd (g 17) q (nFg g tn (en - bg)))) lf)), (ma 2, iE cI 2292 (u_12.2.2.2))] := hD
                refine lv_aload_n hx hb dX7_reserve_172 rfl (lv_at hl 2 rfl) ?_
                refine va_get (D := D) (ci := 7) (v := .ref (ma 1)) (C := RX7) (T := TX7) (N := 11) hx hb hts (by decide +kernel) hown hK.1 hP 0 rfl rfl 0 (by decide) (hts (.fieldLink RX7 7 "ParkingGarageModel" "s" "[I") (by decide +kernel)) (fun _ h9 => h9) rfl dX7_reserve_173 ?_
                refine lv_iload hx hb dX7_reserve_176 (lv_at hl 0 rfl) ?_
                refine lv_iconst (v := 5) hx hb dX7_reserve_178 (by decide) ?_
                refine lv_iadd hx hb dX7_reserve_179 ?_
                rw [show (((nI (46 + 6 * q)) + (5)) : Int32) = nI (46 + 6 * q + 5) from (nI_add (46 + 6 * q) 5)]
                refine lv_iconst (v := 0) hx hb dX7_reserve_180 (by decide) ?_
                refine iast_n (f := enc (w2 (w2 (w2 (w2 (w2 (w2 g 12 (upd (g 12) 0 ((g 12 0) + (1)))) 13 (upd (g 13) q (pl))) 14 (upd (g 14) q (r_9))) 15 (upd (g 15) q (bg))) 16 (upd (g 16) q (en))) 17 (upd (g 17) q (nFg g tn (en - bg)))) lf) hx hb hK.1 hP hD hS 1 0 rfl rfl (46 + 6 * q + 5) (rfl) (by omega) (by omega) dX7_reserve_181 (fun H locs hP hD hS => ?_)
                rw [enc_up 18 q (by omega) (posR_res (by omega) (by omega))] at hP hD
                have hP : va_P D vwCl [(ma 0, oE 7 [.ref (ma 1), .ref (ma 2), .int (nI u_12.1), .ref (ma 3), .ref (ma 4), .int (fi 1), .int (fi 2), .int (fi 3), .long (wd), .int (fi 4), .int (fi 5)]), (ma 1, iE cI 382 (enc (w2 (w2 (w2 (w2 (w2 (w2 (w2 g 12 (upd (g 12) 0 ((g 12 0) + (1)))) 13 (upd (g 13) q (pl))) 14 (upd (g 14) q (r_9))) 15 (upd (g 15) q (bg))) 16 (upd (g 16) q (en))) 17 (upd (g 17) q (nFg g tn (en - bg)))) 18 (upd (g 18) q (0))) lf)), (ma 2, iE cI 2292 (u_12.2.2.2))] H := hP
                have hD : va_D A [(ma 0, oE 7 [.ref (ma 1), .ref (ma 2), .int (nI u_12.1), .ref (ma 3), .ref (ma 4), .int (fi 1), .int (fi 2), .int (fi 3), .long (wd), .int (fi 4), .int (fi 5)]), (ma 1, iE cI 382 (enc (w2 (w2 (w2 (w2 (w2 (w2 (w2 g 12 (upd (g 12) 0 ((g 12 0) + (1)))) 13 (upd (g 13) q (pl))) 14 (upd (g 14) q (r_9))) 15 (upd (g 15) q (bg))) 16 (upd (g 16) q (en))) 17 (upd (g 17) q (nFg g tn (en - bg)))) 18 (upd (g 18) q (0))) lf)), (ma 2, iE cI 2292 (u_12.2.2.2))] := hD
                refine lv_aload_n hx hb dX7_reserve_182 rfl (lv_at hl 2 rfl) ?_
                refine va_get (D := D) (ci := 7) (v := .ref (ma 1)) (C := RX7) (T := TX7) (N := 11) hx hb hts (by decide +kernel) hown hK.1 hP 0 rfl rfl 0 (by decide) (hts (.fieldLink RX7 7 "ParkingGarageModel" "s" "[I") (by decide +kernel)) (fun _ h9 => h9) rfl dX7_reserve_183 ?_
                refine lv_bipush (v := 11) hx hb dX7_reserve_186 (by decide) ?_
                refine lv_dup2_11 hx hb dX7_reserve_188 rfl rfl ?_
                refine iald_n (f := enc (w2 (w2 (w2 (w2 (w2 (w2 (w2 g 12 (upd (g 12) 0 ((g 12 0) + (1)))) 13 (upd (g 13) q (pl))) 14 (upd (g 14) q (r_9))) 15 (upd (g 15) q (bg))) 16 (upd (g 16) q (en))) 17 (upd (g 17) q (nFg g tn (en - bg)))) 18 (upd (g 18) q (0))) lf) hx hb hK.1 hP 1 0 rfl rfl (11) (rfl) (by decide) (by omega) dX7_reserve_189 ?_
                rw [show enc (w2 (w2 (w2 (w2 (w2 (w2 (w2 g 12 (upd (g 12) 0 ((g 12 0) + (1)))) 13 (upd (g 13) q (pl))) 14 (upd (g 14) q (r_9))) 15 (upd (g 15) q (bg))) 16 (upd (g 16) q (en))) 17 (upd (g 17) q (nFg g tn (en - bg)))) 18 (upd (g 18) q (0))) lf (11) = g 2 1 from rfl]
                refine lv_aload_n hx hb dX7_reserve_190 rfl (lv_at hl 2 rfl) ?_
                refine va_get (D := D) (ci := 7) (v := .ref (ma 1)) (C := RX7) (T := TX7) (N := 11) hx hb hts (by decide +kernel) hown hK.1 hP 0 rfl rfl 0 (by decide) (hts (.fieldLink RX7 7 "ParkingGarageModel" "s" "[I") (by decide +kernel)) (fun _ h9 => h9) rfl dX7_reserve_191 ?_
                refine lv_iload hx hb dX7_reserve_194 (lv_at hl 0 rfl) ?_
                refine lv_iconst (v := 4) hx hb dX7_reserve_196 (by decide) ?_
                refine lv_iadd hx hb dX7_reserve_197 ?_
                rw [show (((nI (46 + 6 * q)) + (4)) : Int32) = nI (46 + 6 * q + 4) from (nI_add (46 + 6 * q) 4)]
                refine iald_n (f := enc (w2 (w2 (w2 (w2 (w2 (w2 (w2 g 12 (upd (g 12) 0 ((g 12 0) + (1)))) 13 (upd (g 13) q (pl))) 14 (upd (g 14) q (r_9))) 15 (upd (g 15) q (bg))) 16 (upd (g 16) q (en))) 17 (upd (g 17) q (nFg g tn (en - bg)))) 18 (upd (g 18) q (0))) lf) hx hb hK.1 hP 1 0 rfl rfl (46 + 6 * q + 4) (rfl) (by omega) (by omega) dX7_reserve_198 ?_
                rw [show enc (w2 (w2 (w2 (w2 (w2 (w2 (w2 g 12 (upd (g 12) 0 ((g 12 0) + (1)))) 13 (upd (g 13) q (pl))) 14 (upd (g 14) q (r_9))) 15 (upd (g 15) q (bg))) 16 (upd (g 16) q (en))) 17 (upd (g 17) q (nFg g tn (en - bg)))) 18 (upd (g 18) q (0))) lf (46 + 6 * q + 4) = nFg g tn (en - bg) from (enc_at (by omega) (posR_res (by omega) (by omega))).trans updE]
                refine lv_iadd hx hb dX7_reserve_199 ?_
                refine iast_n (f := enc (w2 (w2 (w2 (w2 (w2 (w2 (w2 g 12 (upd (g 12) 0 ((g 12 0) + (1)))) 13 (upd (g 13) q (pl))) 14 (upd (g 14) q (r_9))) 15 (upd (g 15) q (bg))) 16 (upd (g 16) q (en))) 17 (upd (g 17) q (nFg g tn (en - bg)))) 18 (upd (g 18) q (0))) lf) hx hb hK.1 hP hD hS 1 0 rfl rfl (11) (rfl) (by decide) (by omega) dX7_reserve_200 (fun H locs hP hD hS => ?_)
                rw [enc_up 2 1 (by omega) (rfl)] at hP hD
                have hP : va_P D vwCl [(ma 0, oE 7 [.ref (ma 1), .ref (ma 2), .int (nI u_12.1), .ref (ma 3), .ref (ma 4), .int (fi 1), .int (fi 2), .int (fi 3), .long (wd), .int (fi 4), .int (fi 5)]), (ma 1, iE cI 382 (enc (w2 (w2 (w2 (w2 (w2 (w2 (w2 (w2 g 12 (upd (g 12) 0 ((g 12 0) + (1)))) 13 (upd (g 13) q (pl))) 14 (upd (g 14) q (r_9))) 15 (upd (g 15) q (bg))) 16 (upd (g 16) q (en))) 17 (upd (g 17) q (nFg g tn (en - bg)))) 18 (upd (g 18) q (0))) 2 (upd (g 2) 1 ((g 2 1) + (nFg g tn (en - bg))))) lf)), (ma 2, iE cI 2292 (u_12.2.2.2))] H := hP
                have hD : va_D A [(ma 0, oE 7 [.ref (ma 1), .ref (ma 2), .int (nI u_12.1), .ref (ma 3), .ref (ma 4), .int (fi 1), .int (fi 2), .int (fi 3), .long (wd), .int (fi 4), .int (fi 5)]), (ma 1, iE cI 382 (enc (w2 (w2 (w2 (w2 (w2 (w2 (w2 (w2 g 12 (upd (g 12) 0 ((g 12 0) + (1)))) 13 (upd (g 13) q (pl))) 14 (upd (g 14) q (r_9))) 15 (upd (g 15) q (bg))) 16 (upd (g 16) q (en))) 17 (upd (g 17) q (nFg g tn (en - bg)))) 18 (upd (g 18) q (0))) 2 (upd (g 2) 1 ((g 2 1) + (nFg g tn (en - bg))))) lf)), (ma 2, iE cI 2292 (u_12.2.2.2))] := hD
                refine lv_aload_n hx hb dX7_reserve_201 rfl (lv_at hl 2 rfl) ?_
                refine va_get (D := D) (ci := 7) (v := .ref (ma 1)) (C := RX7) (T := TX7) (N := 11) hx hb hts (by decide +kernel) hown hK.1 hP 0 rfl rfl 0 (by decide) (hts (.fieldLink RX7 7 "ParkingGarageModel" "s" "[I") (by decide +kernel)) (fun _ h9 => h9) rfl dX7_reserve_202 ?_
                refine lv_iconst (v := 2) hx hb dX7_reserve_205 (by decide) ?_
                refine iald_n (f := enc (w2 (w2 (w2 (w2 (w2 (w2 (w2 (w2 g 12 (upd (g 12) 0 ((g 12 0) + (1)))) 13 (upd (g 13) q (pl))) 14 (upd (g 14) q (r_9))) 15 (upd (g 15) q (bg))) 16 (upd (g 16) q (en))) 17 (upd (g 17) q (nFg g tn (en - bg)))) 18 (upd (g 18) q (0))) 2 (upd (g 2) 1 ((g 2 1) + (nFg g tn (en - bg))))) lf) hx hb hK.1 hP 1 0 rfl rfl (2) (rfl) (by decide) (by omega) dX7_reserve_206 ?_
                rw [show enc (w2 (w2 (w2 (w2 (w2 (w2 (w2 (w2 g 12 (upd (g 12) 0 ((g 12 0) + (1)))) 13 (upd (g 13) q (pl))) 14 (upd (g 14) q (r_9))) 15 (upd (g 15) q (bg))) 16 (upd (g 16) q (en))) 17 (upd (g 17) q (nFg g tn (en - bg)))) 18 (upd (g 18) q (0))) 2 (upd (g 2) 1 ((g 2 1) + (nFg g tn (en - bg))))) lf (2) = (g 12 0) + (1) from rfl]
                refine lv_iconst (v := 1) hx hb dX7_reserve_207 (by decide) ?_
                refine lv_isub hx hb dX7_reserve_208 ?_
                rw [show ((((g 12 0) + (1)) - (1)) : Int32) = nI q from (by rw [hq]; exact Int32.add_sub_cancel _ _)]
                have heq9 : enc (w2 (w2 (w2 (w2 (w2 (w2 (w2 (w2 g 12 (upd (g 12) 0 ((g 12 0) + (1)))) 13 (upd (g 13) q (pl))) 14 (upd (g 14) q (r_9))) 15 (upd (g 15) q (bg))) 16 (upd (g 16) q (en))) 17 (upd (g 17) q (nFg g tn (en - bg)))) 18 (upd (g 18) q (0))) 2 (upd (g 2) 1 ((g 2 1) + (nFg g tn (en - bg))))) lf = enc (gRes g q pl r_9 bg en (nFg g tn (en - bg))) lf := congrArg (fun G => enc G lf) re_eq
                rw [heq9] at hP hD
                have hP : va_P D vwCl [(ma 0, oE 7 [.ref (ma 1), .ref (ma 2), .int (nI u_12.1), .ref (ma 3), .ref (ma 4), .int (fi 1), .int (fi 2), .int (fi 3), .long (wd), .int (fi 4), .int (fi 5)]), (ma 1, iE cI 382 (enc (gRes g q pl r_9 bg en (nFg g tn (en - bg))) lf)), (ma 2, iE cI 2292 (u_12.2.2.2))] H := hP
                have hD : va_D A [(ma 0, oE 7 [.ref (ma 1), .ref (ma 2), .int (nI u_12.1), .ref (ma 3), .ref (ma 4), .int (fi 1), .int (fi 2), .int (fi 3), .long (wd), .int (fi 4), .int (fi 5)]), (ma 1, iE cI 382 (enc (gRes g q pl r_9 bg en (nFg g tn (en - bg))) lf)), (ma 2, iE cI 2292 (u_12.2.2.2))] := hD
                exact wr_iret (v := nI q) ((gRes g q pl r_9 bg en (nFg g tn (en - bg)), lf, u_12.1, u_12.2.1, u_12.2.2.1, u_12.2.2.2)) hx hb hr hlocks hS hP hD [0, 1, 2] rfl rfl (by decide) dX7_reserve_209 (⟨some (gRes g q pl r_9 bg en (nFg g tn (en - bg))), Or.inl ⟨⟨h_2, h_4, h_6, (le_succ h_6.2).mpr c_7, c_8⟩, r_9, hr_9, Or.inr ⟨fun q9 => q9.elim (fun e => c_10 (by rw [e]; rfl)) (fun e => e ((Wlk.rng hr_9).resolve_left c_11)), rfl, rfl⟩⟩, Or.inr ⟨_, rfl, rfl, rfl, hu_12.1, hu_12.2⟩⟩)
              · -- c_11: not r_9 ≠ -9
                refine lv_bipush (v := -3) hx hb dX7_reserve_82 (by decide) ?_
                exact wr_iret (v := -3) ((g, lf, np, hs, lfs, Pp)) hx hb hr hlocks hS hP hD [0, 1, 2] rfl rfl (by decide) dX7_reserve_84 (⟨none, Or.inl ⟨⟨h_2, h_4, h_6, (le_succ h_6.2).mpr c_7, c_8⟩, r_9, hr_9, Or.inl ⟨Or.inr (fun ⟨k, h1, h2⟩ => m9_ne h1 (by omega) (c_11.symm.trans h2)), ⟨rfl, rfl⟩⟩⟩, Or.inl ⟨rfl, rfl⟩⟩)
          · -- c_8: not en ≤ (bg) + (1440)
            refine lv_iconst (v := -1) hx hb dX7_reserve_52 (by decide) ?_
            exact wr_iret (v := -1) ((g, lf, np, hs, lfs, Pp)) hx hb hr hlocks hS hP hD [0, 1, 2] rfl rfl (by decide) dX7_reserve_53 (⟨none, Or.inr ⟨fun q => c_8 q.2.2.2.2, rfl, rfl⟩, Or.inl ⟨rfl, rfl⟩⟩)
      · -- X7_in f
        refine if_eq_t (tgt := 52) hx hb rfl dX7_reserve_33 (by decide) ?_
        refine lv_iconst (v := -1) hx hb dX7_reserve_52 (by decide) ?_
        exact wr_iret (v := -1) ((g, lf, np, hs, lfs, Pp)) hx hb hr hlocks hS hP hD [0, 1, 2] rfl rfl (by decide) dX7_reserve_53 (⟨none, Or.inr ⟨fun q => h_6 q.2.2.1, rfl, rfl⟩, Or.inl ⟨rfl, rfl⟩⟩)
    · -- X7_in f
      refine if_eq_t (tgt := 52) hx hb rfl dX7_reserve_17 (by decide) ?_
      refine lv_iconst (v := -1) hx hb dX7_reserve_52 (by decide) ?_
      exact wr_iret (v := -1) ((g, lf, np, hs, lfs, Pp)) hx hb hr hlocks hS hP hD [0, 1, 2] rfl rfl (by decide) dX7_reserve_53 (⟨none, Or.inr ⟨fun q => h_4 q.2.1, rfl, rfl⟩, Or.inl ⟨rfl, rfl⟩⟩)
  · -- X7_in f
    refine if_eq_t (tgt := 52) hx hb rfl dX7_reserve_8 (by decide) ?_
    refine lv_iconst (v := -1) hx hb dX7_reserve_52 (by decide) ?_
    exact wr_iret (v := -1) ((g, lf, np, hs, lfs, Pp)) hx hb hr hlocks hS hP hD [0, 1, 2] rfl rfl (by decide) dX7_reserve_53 (⟨none, Or.inr ⟨fun q => h_2 q.1, rfl, rfl⟩, Or.inl ⟨rfl, rfl⟩⟩)
set_option maxHeartbeats 4000000 in
set_option maxRecDepth 100000 in
theorem c_X7_cancel (l : Launch) (D : va_G) (cI cC cB cS : ClassId) (zz : Nat) (ma : Nat → Nat) (fi : Nat → Int32) (wd : Int64) (g : Nat → Nat → Int32) (lf : Int32) (np : Nat) (Pp : Nat → Int32) (hs : Nat → Nat → Nat → Int32) (lfs : Nat → Int32) (q : Nat) (x : Int32) (hnp : np ≤ 6) (hPR : PRel Pp np hs lfs) (hq : g 12 0 = nI q) (hqc : q ≤ 16) : Met l yX7_cancel wsX7_cancel ({ frames := 2, cells := 0, slots := 0, locals := 43 } : Room) (wrPc D (TYS cI cC cB cS) [.ref (ma 0), .int (x)] ([(ma 0, oE 7 [.ref (ma 1), .ref (ma 2), .int (nI np), .ref (ma 3), .ref (ma 4), .int (fi 1), .int (fi 2), .int (fi 3), .long (wd), .int (fi 4), .int (fi 5)]), (ma 1, iE cI 382 (enc g lf)), (ma 2, iE cI 2292 (Pp))]) zz) (va_Qi (fun (r : Int32) (u : MWT) => ∃ o2, Ocancel g q x r o2 ∧ SvM g lf (lf) np hs lfs Pp o2 u) (wrB D (va_A ([(ma 0, oE 7 [.ref (ma 1), .ref (ma 2), .int (nI np), .ref (ma 3), .ref (ma 4), .int (fi 1), .int (fi 2), .int (fi 3), .long (wd), .int (fi 4), .int (fi 5)]), (ma 1, iE cI 382 (enc g lf)), (ma 2, iE cI 2292 (Pp))]) zz) (fun u => [(ma 0, oE 7 [.ref (ma 1), .ref (ma 2), .int (nI u.2.2.1), .ref (ma 3), .ref (ma 4), .int (fi 1), .int (fi 2), .int (fi 3), .long (wd), .int (fi 4), .int (fi 5)]), (ma 1, iE cI 382 (enc u.1 u.2.1)), (ma 2, iE cI 2292 (u.2.2.2.2.2))])) (va_A ([(ma 0, oE 7 [.ref (ma 1), .ref (ma 2), .int (nI np), .ref (ma 3), .ref (ma 4), .int (fi 1), .int (fi 2), .int (fi 3), .long (wd), .int (fi 4), .int (fi 5)]), (ma 1, iE cI 382 (enc g lf)), (ma 2, iE cI 2292 (Pp))]) zz)) 0 0 (va_A ([(ma 0, oE 7 [.ref (ma 1), .ref (ma 2), .int (nI np), .ref (ma 3), .ref (ma 4), .int (fi 1), .int (fi 2), .int (fi 3), .long (wd), .int (fi 4), .int (fi 5)]), (ma 1, iE cI 382 (enc g lf)), (ma 2, iE cI 2292 (Pp))]) zz) := by
  refine wr_intro (Qc := fun A B => va_Qi (fun (r : Int32) (u : MWT) => ∃ o2, Ocancel g q x r o2 ∧ SvM g lf (lf) np hs lfs Pp o2 u) B A) (by decide) rfl (Nat.le_of_ble_eq_true rfl) ?_
  intro p e s m below meth c A hx hb hr hml hts hown hlocks hin hP hK hD hA hS ls hl
  have hP : va_P D vwCl [(ma 0, oE 7 [.ref (ma 1), .ref (ma 2), .int (nI np), .ref (ma 3), .ref (ma 4), .int (fi 1), .int (fi 2), .int (fi 3), .long (wd), .int (fi 4), .int (fi 5)]), (ma 1, iE cI 382 (enc g lf)), (ma 2, iE cI 2292 (Pp))] s.heap := hP
  have hD : va_D A [(ma 0, oE 7 [.ref (ma 1), .ref (ma 2), .int (nI np), .ref (ma 3), .ref (ma 4), .int (fi 1), .int (fi 2), .int (fi 3), .long (wd), .int (fi 4), .int (fi 5)]), (ma 1, iE cI 382 (enc g lf)), (ma 2, iE cI 2292 (Pp))] := hD
  have hown : s.vm.findClass RX7 = some m.cls := hown
  have hl : lv_has ls 3 [(0, .ref (ma 0)), (1, .int (x))] := hl
  refine lv_aload_n hx hb dX7_cancel_0 rfl (lv_at hl 0 rfl) ?_
  refine lv_iload_n hx hb dX7_cancel_1 rfl (lv_at hl 1 rfl) ?_
  refine cv_i (As := [.int (x)]) (rest := []) (tys := TYS cI cC cB cS) (ci := 7) ⟨hx, hb, hml, hown, hts⟩ (c_X7_isReservation l D cI cC cB cS (ma) ((fun j => [nI np, fi 1, fi 2, fi 3, fi 4, fi 5].getD j 0)) (wd) (g) (lf) (q) (x) (hq) (hqc)) (cwV 1 hts gX7_cancel_X7_isReservation rfl rfl rfl (by decide +kernel) ⟨Nat.le_of_ble_eq_true rfl, Nat.le_of_ble_eq_true rfl⟩) hK hP [0, 1] rfl rfl rfl rfl rfl hl.1 (Nat.le_of_ble_eq_true rfl) dX7_cancel_2 ⟨Nat.le_of_ble_eq_true rfl, Nat.le_of_ble_eq_true rfl⟩ (fun r_1 hr_1 => ?_)
  rcases (show Yes (∃ w, w < q ∧ x = nI w) r_1 from hr_1) with ⟨rfl, h_2⟩ | ⟨rfl, h_2⟩
  · -- X7_isReservation t
    obtain ⟨k, hk, hxk⟩ := id h_2
    have hl : lv_has ls 3 [(0, .ref (ma 0)), (1, .int (nI k))] := by rw [← hxk]; exact hl
    refine if_ne_t (tgt := 10) hx hb (by decide) dX7_cancel_5 (by decide) ?_
    refine lv_aload_n hx hb dX7_cancel_10 rfl (lv_at hl 0 rfl) ?_
    refine lv_iload_n hx hb dX7_cancel_11 rfl (lv_at hl 1 rfl) ?_
    refine lv_iconst (v := 5) hx hb dX7_cancel_12 (by decide) ?_
    refine cv_i (As := [.int (nI k), .int (5)]) (rest := []) (tys := TYS cI cC cB cS) (ci := 7) ⟨hx, hb, hml, hown, hts⟩ (c_X7_about l D cI cC cB cS (ma) ((fun j => [nI np, fi 1, fi 2, fi 3, fi 4, fi 5].getD j 0)) (wd) (g) (lf) (k) (5) (by omega) (by omega)) (cwV 2 hts gX7_cancel_X7_about rfl rfl rfl (by decide +kernel) ⟨Nat.le_of_ble_eq_true rfl, Nat.le_of_ble_eq_true rfl⟩) hK hP [0, 1] rfl rfl rfl rfl rfl hl.1 (Nat.le_of_ble_eq_true rfl) dX7_cancel_13 ⟨Nat.le_of_ble_eq_true rfl, Nat.le_of_ble_eq_true rfl⟩ (fun r_3 hr_3 => ?_)
    have hr_3 : r_3 = g 18 k := hr_3
    subst hr_3
    refine lv_if_eq (tgt := 22) hx hb dX7_cancel_16 (by decide) (fun c_4 => ?_) (fun c_4 => ?_)
    · -- c_4: g 18 k = 0
      refine lv_aload_n hx hb dX7_cancel_22 rfl (lv_at hl 0 rfl) ?_
      refine cv_wv (As := []) (rest := []) (tys := TYS cI cC cB cS) (ci := 7) (wr := []) ⟨hx, hb, hml, hown, hts⟩ (c_X7_notes l D cI cC cB cS _ (ma) ((fun j => [nI np, fi 1, fi 2, fi 3, fi 4, fi 5].getD j 0)) (wd) (g) (lf) (np) (Pp) (hs) (lfs) (hnp) (hPR)) (cwV 0 hts gX7_cancel_X7_notes rfl rfl rfl (by decide +kernel) ⟨Nat.le_of_ble_eq_true rfl, Nat.le_of_ble_eq_true rfl⟩) hK hP hD hS hA [0, 1, 2] [] rfl rfl (by decide) (by decide) (by decide) rfl rfl rfl rfl hl.1 (Nat.le_of_ble_eq_true rfl) dX7_cancel_23 ⟨Nat.le_of_ble_eq_true rfl, Nat.le_of_ble_eq_true rfl⟩ (fun u_5 H locs hu_5 hP hD hS => ?_)
      have hP : va_P D vwCl [(ma 0, oE 7 [.ref (ma 1), .ref (ma 2), .int (nI u_5.1), .ref (ma 3), .ref (ma 4), .int (fi 1), .int (fi 2), .int (fi 3), .long (wd), .int (fi 4), .int (fi 5)]), (ma 1, iE cI 382 (enc g lf)), (ma 2, iE cI 2292 (u_5.2.2.2))] H := hP
      have hD : va_D A [(ma 0, oE 7 [.ref (ma 1), .ref (ma 2), .int (nI u_5.1), .ref (ma 3), .ref (ma 4), .int (fi 1), .int (fi 2), .int (fi 3), .long (wd), .int (fi 4), .int (fi 5)]), (ma 1, iE cI 382 (enc g lf)), (ma 2, iE cI 2292 (u_5.2.2.2))] := hD
      have hu_5 : Sv np hs lfs g lf u_5.1 u_5.2.1 u_5.2.2.1 ∧ PRel u_5.2.2.2 u_5.1 u_5.2.1 u_5.2.2.1 := hu_5
      refine lv_aload_n hx hb dX7_cancel_26 rfl (lv_at hl 0 rfl) ?_
      refine lv_iload_n hx hb dX7_cancel_27 rfl (lv_at hl 1 rfl) ?_
      refine lv_iconst (v := 2) hx hb dX7_cancel_28 (by decide) ?_
      refine cv_i (As := [.int (nI k), .int (2)]) (rest := []) (tys := TYS cI cC cB cS) (ci := 7) ⟨hx, hb, hml, hown, hts⟩ (c_X7_about l D cI cC cB cS (ma) ((fun j => [nI u_5.1, fi 1, fi 2, fi 3, fi 4, fi 5].getD j 0)) (wd) (g) (lf) (k) (2) (by omega) (by omega)) (cwV 2 hts gX7_cancel_X7_about rfl rfl rfl (by decide +kernel) ⟨Nat.le_of_ble_eq_true rfl, Nat.le_of_ble_eq_true rfl⟩) hK hP [0, 1] rfl rfl rfl rfl rfl hl.1 (Nat.le_of_ble_eq_true rfl) dX7_cancel_29 ⟨Nat.le_of_ble_eq_true rfl, Nat.le_of_ble_eq_true rfl⟩ (fun r_6 hr_6 => ?_)
      have hr_6 : r_6 = g 15 k := hr_6
      subst hr_6
      refine lv_aload_n hx hb dX7_cancel_32 rfl (lv_at hl 0 rfl) ?_
      refine va_get (D := D) (ci := 7) (v := .ref (ma 1)) (C := RX7) (T := TX7) (N := 11) hx hb hts (by decide +kernel) hown hK.1 hP 0 rfl rfl 0 (by decide) (hts (.fieldLink RX7 7 "ParkingGarageModel" "s" "[I") (by decide +kernel)) (fun _ h9 => h9) rfl dX7_cancel_33 ?_
      refine lv_iconst (v := 0) hx hb dX7_cancel_36 (by decide) ?_
      refine iald_n (f := enc g lf) hx hb hK.1 hP 1 0 rfl rfl (0) (rfl) (by decide) (by omega) dX7_cancel_37 ?_
      rw [show enc g lf (0) = g 0 0 from rfl]
      refine lv_icmp_le (tgt := 52) hx hb dX7_cancel_38 (by decide) (fun c_7 => ?_) (fun c_7 => ?_)
      · -- c_7: g 15 k ≤ g 0 0
        refine lv_iconst (v := 0) hx hb dX7_cancel_52 (by decide) ?_
        refine lv_istore_n (lv' := [(2, .int (0)), (0, .ref (ma 0)), (1, .int (nI k))]) hx hb dX7_cancel_53 rfl hl (by decide) rfl (fun ls hl => ?_)
        refine lv_aload_n hx hb dX7_cancel_54 rfl (lv_at hl 1 rfl) ?_
        refine lv_iload_n hx hb dX7_cancel_55 rfl (lv_at hl 2 rfl) ?_
        refine lv_iconst (v := 3) hx hb dX7_cancel_56 (by decide) ?_
        refine cv_wv (As := [.int (nI k), .int (3)]) (rest := []) (tys := TYS cI cC cB cS) (ci := 7) (wr := [(ma 2, iE cI 2292 (u_5.2.2.2))]) ⟨hx, hb, hml, hown, hts⟩ (c_X7_marks l D cI cC cB cS _ (ma) ((fun j => [nI u_5.1, fi 1, fi 2, fi 3, fi 4, fi 5].getD j 0)) (wd) (g) (lf) (k) (3) (by omega)) (cwV 2 hts gX7_cancel_X7_marks rfl rfl rfl (by decide +kernel) ⟨Nat.le_of_ble_eq_true rfl, Nat.le_of_ble_eq_true rfl⟩) hK hP hD hS hA [0, 1] [2] rfl rfl (by decide) (by decide) (by decide) rfl rfl rfl rfl hl.1 (Nat.le_of_ble_eq_true rfl) dX7_cancel_57 ⟨Nat.le_of_ble_eq_true rfl, Nat.le_of_ble_eq_true rfl⟩ (fun u_8 H locs hu_8 hP hD hS => ?_)
        have hP : va_P D vwCl [(ma 2, iE cI 2292 (u_5.2.2.2)), (ma 0, oE 7 [.ref (ma 1), .ref (ma 2), .int (nI u_5.1), .ref (ma 3), .ref (ma 4), .int (fi 1), .int (fi 2), .int (fi 3), .long (wd), .int (fi 4), .int (fi 5)]), (ma 1, iE cI 382 (enc (w2 g 18 (upd (g 18) k (3))) lf))] H := hP
        have hD : va_D A [(ma 2, iE cI 2292 (u_5.2.2.2)), (ma 0, oE 7 [.ref (ma 1), .ref (ma 2), .int (nI u_5.1), .ref (ma 3), .ref (ma 4), .int (fi 1), .int (fi 2), .int (fi 3), .long (wd), .int (fi 4), .int (fi 5)]), (ma 1, iE cI 382 (enc (w2 g 18 (upd (g 18) k (3))) lf))] := hD
        have hu_8 : True := hu_8
        refine lv_aload_n hx hb dX7_cancel_60 rfl (lv_at hl 1 rfl) ?_
        refine va_get (D := D) (ci := 7) (v := .ref (ma 1)) (C := RX7) (T := TX7) (N := 11) hx hb hts (by decide +kernel) hown hK.1 hP 1 rfl rfl 0 (by decide) (hts (.fieldLink RX7 7 "ParkingGarageModel" "s" "[I") (by decide +kernel)) (fun _ h9 => h9) rfl dX7_cancel_61 ?_
        refine lv_bipush (v := 11) hx hb dX7_cancel_64 (by decide) ?_
        refine lv_dup2_11 hx hb dX7_cancel_66 rfl rfl ?_
        refine iald_n (f := enc (w2 g 18 (upd (g 18) k (3))) lf) hx hb hK.1 hP 2 0 rfl rfl (11) (rfl) (by decide) (by omega) dX7_cancel_67 ?_
        rw [show enc (w2 g 18 (upd (g 18) k (3))) lf (11) = g 2 1 from rfl]
        refine lv_iload_n hx hb dX7_cancel_68 rfl (lv_at hl 0 rfl) ?_
        refine lv_isub hx hb dX7_cancel_69 ?_
        refine iast_n (f := enc (w2 g 18 (upd (g 18) k (3))) lf) hx hb hK.1 hP hD hS 2 0 rfl rfl (11) (rfl) (by decide) (by omega) dX7_cancel_70 (fun H locs hP hD hS => ?_)
        rw [enc_up 2 1 (by omega) (rfl)] at hP hD
        have hP : va_P D vwCl [(ma 2, iE cI 2292 (u_5.2.2.2)), (ma 0, oE 7 [.ref (ma 1), .ref (ma 2), .int (nI u_5.1), .ref (ma 3), .ref (ma 4), .int (fi 1), .int (fi 2), .int (fi 3), .long (wd), .int (fi 4), .int (fi 5)]), (ma 1, iE cI 382 (enc (w2 (w2 g 18 (upd (g 18) k (3))) 2 (upd (g 2) 1 ((g 2 1) - (0)))) lf))] H := hP
        have hD : va_D A [(ma 2, iE cI 2292 (u_5.2.2.2)), (ma 0, oE 7 [.ref (ma 1), .ref (ma 2), .int (nI u_5.1), .ref (ma 3), .ref (ma 4), .int (fi 1), .int (fi 2), .int (fi 3), .long (wd), .int (fi 4), .int (fi 5)]), (ma 1, iE cI 382 (enc (w2 (w2 g 18 (upd (g 18) k (3))) 2 (upd (g 2) 1 ((g 2 1) - (0)))) lf))] := hD
        refine lv_iload_n hx hb dX7_cancel_71 rfl (lv_at hl 0 rfl) ?_
        have heq9 : enc (w2 (w2 g 18 (upd (g 18) k (3))) 2 (upd (g 2) 1 ((g 2 1) - (0)))) lf = enc (w2 (w2 g 2 (upd (g 2) 1 (g 2 1 - (0)))) 18 (upd (g 18) k 3)) lf := congrArg (fun G => enc G lf) (w2_comm (r1 := 18) (r2 := 2) rfl)
        rw [heq9] at hP hD
        have hP : va_P D vwCl [(ma 2, iE cI 2292 (u_5.2.2.2)), (ma 0, oE 7 [.ref (ma 1), .ref (ma 2), .int (nI u_5.1), .ref (ma 3), .ref (ma 4), .int (fi 1), .int (fi 2), .int (fi 3), .long (wd), .int (fi 4), .int (fi 5)]), (ma 1, iE cI 382 (enc (w2 (w2 g 2 (upd (g 2) 1 (g 2 1 - (0)))) 18 (upd (g 18) k 3)) lf))] H := hP
        have hD : va_D A [(ma 2, iE cI 2292 (u_5.2.2.2)), (ma 0, oE 7 [.ref (ma 1), .ref (ma 2), .int (nI u_5.1), .ref (ma 3), .ref (ma 4), .int (fi 1), .int (fi 2), .int (fi 3), .long (wd), .int (fi 4), .int (fi 5)]), (ma 1, iE cI 382 (enc (w2 (w2 g 2 (upd (g 2) 1 (g 2 1 - (0)))) 18 (upd (g 18) k 3)) lf))] := hD
        exact wr_iret (v := 0) ((w2 (w2 g 2 (upd (g 2) 1 (g 2 1 - (0)))) 18 (upd (g 18) k 3), lf, u_5.1, u_5.2.1, u_5.2.2.1, u_5.2.2.2)) hx hb hr hlocks hS hP hD [1, 2, 0] rfl rfl (by decide) dX7_cancel_72 (⟨some (w2 (w2 g 2 (upd (g 2) 1 (g 2 1 - (0)))) 18 (upd (g 18) k 3)), Or.inl ⟨k, hk, hxk, Or.inl ⟨c_4, Or.inr ⟨Int32.not_lt.mpr c_7, rfl⟩, rfl⟩⟩, Or.inr ⟨_, rfl, rfl, rfl, hu_5.1, hu_5.2⟩⟩)
      · -- c_7: not g 15 k ≤ g 0 0
        refine lv_aload_n hx hb dX7_cancel_41 rfl (lv_at hl 0 rfl) ?_
        refine lv_iload_n hx hb dX7_cancel_42 rfl (lv_at hl 1 rfl) ?_
        refine lv_iconst (v := 4) hx hb dX7_cancel_43 (by decide) ?_
        refine cv_i (As := [.int (nI k), .int (4)]) (rest := []) (tys := TYS cI cC cB cS) (ci := 7) ⟨hx, hb, hml, hown, hts⟩ (c_X7_about l D cI cC cB cS (ma) ((fun j => [nI u_5.1, fi 1, fi 2, fi 3, fi 4, fi 5].getD j 0)) (wd) (g) (lf) (k) (4) (by omega) (by omega)) (cwV 2 hts gX7_cancel_X7_about rfl rfl rfl (by decide +kernel) ⟨Nat.le_of_ble_eq_true rfl, Nat.le_of_ble_eq_true rfl⟩) hK hP [0, 1] rfl rfl rfl rfl rfl hl.1 (Nat.le_of_ble_eq_true rfl) dX7_cancel_44 ⟨Nat.le_of_ble_eq_true rfl, Nat.le_of_ble_eq_true rfl⟩ (fun r_9 hr_9 => ?_)
        have hr_9 : r_9 = g 17 k := hr_9
        subst hr_9
        refine lv_iconst (v := 2) hx hb dX7_cancel_47 (by decide) ?_
        refine lv_idiv hx hb dX7_cancel_48 (by decide) ?_
        refine lv_goto (tgt := 53) hx hb dX7_cancel_49 (by decide) ?_
        refine lv_istore_n (lv' := [(2, .int ((g 17 k) / (2))), (0, .ref (ma 0)), (1, .int (nI k))]) hx hb dX7_cancel_53 rfl hl (by decide) rfl (fun ls hl => ?_)
        refine lv_aload_n hx hb dX7_cancel_54 rfl (lv_at hl 1 rfl) ?_
        refine lv_iload_n hx hb dX7_cancel_55 rfl (lv_at hl 2 rfl) ?_
        refine lv_iconst (v := 3) hx hb dX7_cancel_56 (by decide) ?_
        refine cv_wv (As := [.int (nI k), .int (3)]) (rest := []) (tys := TYS cI cC cB cS) (ci := 7) (wr := [(ma 2, iE cI 2292 (u_5.2.2.2))]) ⟨hx, hb, hml, hown, hts⟩ (c_X7_marks l D cI cC cB cS _ (ma) ((fun j => [nI u_5.1, fi 1, fi 2, fi 3, fi 4, fi 5].getD j 0)) (wd) (g) (lf) (k) (3) (by omega)) (cwV 2 hts gX7_cancel_X7_marks rfl rfl rfl (by decide +kernel) ⟨Nat.le_of_ble_eq_true rfl, Nat.le_of_ble_eq_true rfl⟩) hK hP hD hS hA [0, 1] [2] rfl rfl (by decide) (by decide) (by decide) rfl rfl rfl rfl hl.1 (Nat.le_of_ble_eq_true rfl) dX7_cancel_57 ⟨Nat.le_of_ble_eq_true rfl, Nat.le_of_ble_eq_true rfl⟩ (fun u_10 H locs hu_10 hP hD hS => ?_)
        have hP : va_P D vwCl [(ma 2, iE cI 2292 (u_5.2.2.2)), (ma 0, oE 7 [.ref (ma 1), .ref (ma 2), .int (nI u_5.1), .ref (ma 3), .ref (ma 4), .int (fi 1), .int (fi 2), .int (fi 3), .long (wd), .int (fi 4), .int (fi 5)]), (ma 1, iE cI 382 (enc (w2 g 18 (upd (g 18) k (3))) lf))] H := hP
        have hD : va_D A [(ma 2, iE cI 2292 (u_5.2.2.2)), (ma 0, oE 7 [.ref (ma 1), .ref (ma 2), .int (nI u_5.1), .ref (ma 3), .ref (ma 4), .int (fi 1), .int (fi 2), .int (fi 3), .long (wd), .int (fi 4), .int (fi 5)]), (ma 1, iE cI 382 (enc (w2 g 18 (upd (g 18) k (3))) lf))] := hD
        have hu_10 : True := hu_10
        refine lv_aload_n hx hb dX7_cancel_60 rfl (lv_at hl 1 rfl) ?_
        refine va_get (D := D) (ci := 7) (v := .ref (ma 1)) (C := RX7) (T := TX7) (N := 11) hx hb hts (by decide +kernel) hown hK.1 hP 1 rfl rfl 0 (by decide) (hts (.fieldLink RX7 7 "ParkingGarageModel" "s" "[I") (by decide +kernel)) (fun _ h9 => h9) rfl dX7_cancel_61 ?_
        refine lv_bipush (v := 11) hx hb dX7_cancel_64 (by decide) ?_
        refine lv_dup2_11 hx hb dX7_cancel_66 rfl rfl ?_
        refine iald_n (f := enc (w2 g 18 (upd (g 18) k (3))) lf) hx hb hK.1 hP 2 0 rfl rfl (11) (rfl) (by decide) (by omega) dX7_cancel_67 ?_
        rw [show enc (w2 g 18 (upd (g 18) k (3))) lf (11) = g 2 1 from rfl]
        refine lv_iload_n hx hb dX7_cancel_68 rfl (lv_at hl 0 rfl) ?_
        refine lv_isub hx hb dX7_cancel_69 ?_
        refine iast_n (f := enc (w2 g 18 (upd (g 18) k (3))) lf) hx hb hK.1 hP hD hS 2 0 rfl rfl (11) (rfl) (by decide) (by omega) dX7_cancel_70 (fun H locs hP hD hS => ?_)
        rw [enc_up 2 1 (by omega) (rfl)] at hP hD
        have hP : va_P D vwCl [(ma 2, iE cI 2292 (u_5.2.2.2)), (ma 0, oE 7 [.ref (ma 1), .ref (ma 2), .int (nI u_5.1), .ref (ma 3), .ref (ma 4), .int (fi 1), .int (fi 2), .int (fi 3), .long (wd), .int (fi 4), .int (fi 5)]), (ma 1, iE cI 382 (enc (w2 (w2 g 18 (upd (g 18) k (3))) 2 (upd (g 2) 1 ((g 2 1) - ((g 17 k) / (2))))) lf))] H := hP
        have hD : va_D A [(ma 2, iE cI 2292 (u_5.2.2.2)), (ma 0, oE 7 [.ref (ma 1), .ref (ma 2), .int (nI u_5.1), .ref (ma 3), .ref (ma 4), .int (fi 1), .int (fi 2), .int (fi 3), .long (wd), .int (fi 4), .int (fi 5)]), (ma 1, iE cI 382 (enc (w2 (w2 g 18 (upd (g 18) k (3))) 2 (upd (g 2) 1 ((g 2 1) - ((g 17 k) / (2))))) lf))] := hD
        refine lv_iload_n hx hb dX7_cancel_71 rfl (lv_at hl 0 rfl) ?_
        have heq9 : enc (w2 (w2 g 18 (upd (g 18) k (3))) 2 (upd (g 2) 1 ((g 2 1) - ((g 17 k) / (2))))) lf = enc (w2 (w2 g 2 (upd (g 2) 1 (g 2 1 - ((g 17 k) / (2))))) 18 (upd (g 18) k 3)) lf := congrArg (fun G => enc G lf) (w2_comm (r1 := 18) (r2 := 2) rfl)
        rw [heq9] at hP hD
        have hP : va_P D vwCl [(ma 2, iE cI 2292 (u_5.2.2.2)), (ma 0, oE 7 [.ref (ma 1), .ref (ma 2), .int (nI u_5.1), .ref (ma 3), .ref (ma 4), .int (fi 1), .int (fi 2), .int (fi 3), .long (wd), .int (fi 4), .int (fi 5)]), (ma 1, iE cI 382 (enc (w2 (w2 g 2 (upd (g 2) 1 (g 2 1 - ((g 17 k) / (2))))) 18 (upd (g 18) k 3)) lf))] H := hP
        have hD : va_D A [(ma 2, iE cI 2292 (u_5.2.2.2)), (ma 0, oE 7 [.ref (ma 1), .ref (ma 2), .int (nI u_5.1), .ref (ma 3), .ref (ma 4), .int (fi 1), .int (fi 2), .int (fi 3), .long (wd), .int (fi 4), .int (fi 5)]), (ma 1, iE cI 382 (enc (w2 (w2 g 2 (upd (g 2) 1 (g 2 1 - ((g 17 k) / (2))))) 18 (upd (g 18) k 3)) lf))] := hD
        exact wr_iret (v := (g 17 k) / (2)) ((w2 (w2 g 2 (upd (g 2) 1 (g 2 1 - ((g 17 k) / (2))))) 18 (upd (g 18) k 3), lf, u_5.1, u_5.2.1, u_5.2.2.1, u_5.2.2.2)) hx hb hr hlocks hS hP hD [1, 2, 0] rfl rfl (by decide) dX7_cancel_72 (⟨some (w2 (w2 g 2 (upd (g 2) 1 (g 2 1 - ((g 17 k) / (2))))) 18 (upd (g 18) k 3)), Or.inl ⟨k, hk, hxk, Or.inl ⟨c_4, Or.inl ⟨Int32.not_le.mp c_7, rfl⟩, rfl⟩⟩, Or.inr ⟨_, rfl, rfl, rfl, hu_5.1, hu_5.2⟩⟩)
    · -- c_4: not g 18 k = 0
      refine lv_bipush (v := -2) hx hb dX7_cancel_19 (by decide) ?_
      exact wr_iret (v := -2) ((g, lf, np, hs, lfs, Pp)) hx hb hr hlocks hS hP hD [0, 1, 2] rfl rfl (by decide) dX7_cancel_21 (⟨none, Or.inl ⟨k, hk, hxk, Or.inr ⟨c_4, ⟨rfl, rfl⟩⟩⟩, Or.inl ⟨rfl, rfl⟩⟩)
  · -- X7_isReservation f
    refine if_ne_f (tgt := 10) hx hb rfl dX7_cancel_5 (by decide) ?_
    refine lv_iconst (v := -1) hx hb dX7_cancel_8 (by decide) ?_
    exact wr_iret (v := -1) ((g, lf, np, hs, lfs, Pp)) hx hb hr hlocks hS hP hD [0, 1, 2] rfl rfl (by decide) dX7_cancel_9 (⟨none, Or.inr ⟨h_2, ⟨rfl, rfl⟩⟩, Or.inl ⟨rfl, rfl⟩⟩)
set_option maxHeartbeats 4000000 in
set_option maxRecDepth 100000 in
theorem c_X7_enter (l : Launch) (D : va_G) (cI cC cB cS : ClassId) (zz : Nat) (ma : Nat → Nat) (fi : Nat → Int32) (wd : Int64) (g : Nat → Nat → Int32) (lf : Int32) (np : Nat) (Pp : Nat → Int32) (hs : Nat → Nat → Nat → Int32) (lfs : Nat → Int32) (n : Nat) (q : Nat) (pl : Int32) (sz : Int32) (hnp : np ≤ 6) (hPR : PRel Pp np hs lfs) (hn : g 3 0 = nI n) (hnb : n ≤ 30) (hq : g 12 0 = nI q) (hqc : q ≤ 16) (hst : ∀ w, w < q → 0 ≤ g 18 w) (htm : g 0 0 < 30000) (hwh : ∀ w, w < q → ∃ b, b < n ∧ g 14 w = nI b) : Met l yX7_enter wsX7_enter ({ frames := 6, cells := 0, slots := 0, locals := 130 } : Room) (wrPc D (TYS cI cC cB cS) [.ref (ma 0), .int (pl), .int (sz)] ([(ma 0, oE 7 [.ref (ma 1), .ref (ma 2), .int (nI np), .ref (ma 3), .ref (ma 4), .int (fi 1), .int (fi 2), .int (fi 3), .long (wd), .int (fi 4), .int (fi 5)]), (ma 1, iE cI 382 (enc g lf)), (ma 2, iE cI 2292 (Pp))]) zz) (va_Qi (fun (r : Int32) (u : MWT) => ∃ o2, Oenter g n q pl sz r o2 ∧ SvM g lf (lf) np hs lfs Pp o2 u) (wrB D (va_A ([(ma 0, oE 7 [.ref (ma 1), .ref (ma 2), .int (nI np), .ref (ma 3), .ref (ma 4), .int (fi 1), .int (fi 2), .int (fi 3), .long (wd), .int (fi 4), .int (fi 5)]), (ma 1, iE cI 382 (enc g lf)), (ma 2, iE cI 2292 (Pp))]) zz) (fun u => [(ma 0, oE 7 [.ref (ma 1), .ref (ma 2), .int (nI u.2.2.1), .ref (ma 3), .ref (ma 4), .int (fi 1), .int (fi 2), .int (fi 3), .long (wd), .int (fi 4), .int (fi 5)]), (ma 1, iE cI 382 (enc u.1 u.2.1)), (ma 2, iE cI 2292 (u.2.2.2.2.2))])) (va_A ([(ma 0, oE 7 [.ref (ma 1), .ref (ma 2), .int (nI np), .ref (ma 3), .ref (ma 4), .int (fi 1), .int (fi 2), .int (fi 3), .long (wd), .int (fi 4), .int (fi 5)]), (ma 1, iE cI 382 (enc g lf)), (ma 2, iE cI 2292 (Pp))]) zz)) 0 0 (va_A ([(ma 0, oE 7 [.ref (ma 1), .ref (ma 2), .int (nI np), .ref (ma 3), .ref (ma 4), .int (fi 1), .int (fi 2), .int (fi 3), .long (wd), .int (fi 4), .int (fi 5)]), (ma 1, iE cI 382 (enc g lf)), (ma 2, iE cI 2292 (Pp))]) zz) := by
  refine wr_intro (Qc := fun A B => va_Qi (fun (r : Int32) (u : MWT) => ∃ o2, Oenter g n q pl sz r o2 ∧ SvM g lf (lf) np hs lfs Pp o2 u) B A) (by decide) rfl (Nat.le_of_ble_eq_true rfl) ?_
  intro p e s m below meth c A hx hb hr hml hts hown hlocks hin hP hK hD hA hS ls hl
  have hP : va_P D vwCl [(ma 0, oE 7 [.ref (ma 1), .ref (ma 2), .int (nI np), .ref (ma 3), .ref (ma 4), .int (fi 1), .int (fi 2), .int (fi 3), .long (wd), .int (fi 4), .int (fi 5)]), (ma 1, iE cI 382 (enc g lf)), (ma 2, iE cI 2292 (Pp))] s.heap := hP
  have hD : va_D A [(ma 0, oE 7 [.ref (ma 1), .ref (ma 2), .int (nI np), .ref (ma 3), .ref (ma 4), .int (fi 1), .int (fi 2), .int (fi 3), .long (wd), .int (fi 4), .int (fi 5)]), (ma 1, iE cI 382 (enc g lf)), (ma 2, iE cI 2292 (Pp))] := hD
  have hown : s.vm.findClass RX7 = some m.cls := hown
  have hl : lv_has ls 5 [(0, .ref (ma 0)), (1, .int (pl)), (2, .int (sz))] := hl
  refine lv_iload_n hx hb dX7_enter_0 rfl (lv_at hl 1 rfl) ?_
  refine lv_iconst (v := 1) hx hb dX7_enter_1 (by decide) ?_
  refine lv_sipush (v := 999) hx hb dX7_enter_2 (by decide) ?_
  refine cs_i (As := [.int (pl), .int (1), .int (999)]) (rest := []) (tys := TYS cI cC cB cS) ⟨hx, hb, hml, hown, hts⟩ (c_X7_in l D cI cC cB cS (pl) (1) (999)) (va_cwS 3 hts gX7_enter_X7_in rfl rfl rfl (by decide +kernel) ⟨Nat.le_of_ble_eq_true rfl, Nat.le_of_ble_eq_true rfl⟩) hK hP [] rfl rfl rfl hl.1 (Nat.le_of_ble_eq_true rfl) dX7_enter_5 ⟨Nat.le_of_ble_eq_true rfl, Nat.le_of_ble_eq_true rfl⟩ (fun r_1 hr_1 => ?_)
  rcases (show Yes (1 ≤ pl ∧ pl ≤ 999) r_1 from hr_1) with ⟨rfl, h_2⟩ | ⟨rfl, h_2⟩
  · -- X7_in t
    refine if_eq_f (tgt := 20) hx hb (by decide) dX7_enter_8 (by decide) ?_
    refine lv_iload_n hx hb dX7_enter_11 rfl (lv_at hl 2 rfl) ?_
    refine lv_iconst (v := 0) hx hb dX7_enter_12 (by decide) ?_
    refine lv_iconst (v := 2) hx hb dX7_enter_13 (by decide) ?_
    refine cs_i (As := [.int (sz), .int (0), .int (2)]) (rest := []) (tys := TYS cI cC cB cS) ⟨hx, hb, hml, hown, hts⟩ (c_X7_in l D cI cC cB cS (sz) (0) (2)) (va_cwS 3 hts gX7_enter_X7_in rfl rfl rfl (by decide +kernel) ⟨Nat.le_of_ble_eq_true rfl, Nat.le_of_ble_eq_true rfl⟩) hK hP [] rfl rfl rfl hl.1 (Nat.le_of_ble_eq_true rfl) dX7_enter_14 ⟨Nat.le_of_ble_eq_true rfl, Nat.le_of_ble_eq_true rfl⟩ (fun r_3 hr_3 => ?_)
    rcases (show Yes (0 ≤ sz ∧ sz ≤ 2) r_3 from hr_3) with ⟨rfl, h_4⟩ | ⟨rfl, h_4⟩
    · -- X7_in t
      refine if_ne_t (tgt := 22) hx hb (by decide) dX7_enter_17 (by decide) ?_
      refine lv_aload_n hx hb dX7_enter_22 rfl (lv_at hl 0 rfl) ?_
      refine lv_iload_n hx hb dX7_enter_23 rfl (lv_at hl 1 rfl) ?_
      refine cv_i (As := [.int (pl)]) (rest := []) (tys := TYS cI cC cB cS) (ci := 7) ⟨hx, hb, hml, hown, hts⟩ (c_X7_bayOf l D cI cC cB cS (ma) ((fun j => [nI np, fi 1, fi 2, fi 3, fi 4, fi 5].getD j 0)) (wd) (g) (lf) (n) (pl) (hn) (hnb)) (cwV 1 hts gX7_enter_X7_bayOf rfl rfl rfl (by decide +kernel) ⟨Nat.le_of_ble_eq_true rfl, Nat.le_of_ble_eq_true rfl⟩) hK hP [0, 1] rfl rfl rfl rfl rfl hl.1 (Nat.le_of_ble_eq_true rfl) dX7_enter_24 ⟨Nat.le_of_ble_eq_true rfl, Nat.le_of_ble_eq_true rfl⟩ (fun r_5 hr_5 => ?_)
      have hr_5 : Fst (fun w => g 8 w = pl) n r_5 := hr_5
      refine lv_bipush (v := -9) hx hb dX7_enter_27 (by decide) ?_
      refine lv_icmp_eq (tgt := 35) hx hb dX7_enter_29 (by decide) (fun c_6 => ?_) (fun c_6 => ?_)
      · -- c_6: r_5 = -9
        refine lv_aload_n hx hb dX7_enter_35 rfl (lv_at hl 0 rfl) ?_
        refine lv_iload_n hx hb dX7_enter_36 rfl (lv_at hl 1 rfl) ?_
        refine lv_iload_n hx hb dX7_enter_37 rfl (lv_at hl 2 rfl) ?_
        refine cv_i (As := [.int (pl), .int (sz)]) (rest := []) (tys := TYS cI cC cB cS) (ci := 7) ⟨hx, hb, hml, hown, hts⟩ (c_X7_usable l D cI cC cB cS (ma) ((fun j => [nI np, fi 1, fi 2, fi 3, fi 4, fi 5].getD j 0)) (wd) (g) (lf) (n) (q) (pl) (sz) (hn) (hnb) (hq) (hqc) (hst) (htm) (hwh)) (cwV 2 hts gX7_enter_X7_usable rfl rfl rfl (by decide +kernel) ⟨Nat.le_of_ble_eq_true rfl, Nat.le_of_ble_eq_true rfl⟩) hK hP [0, 1] rfl rfl rfl rfl rfl hl.1 (Nat.le_of_ble_eq_true rfl) dX7_enter_38 ⟨Nat.le_of_ble_eq_true rfl, Nat.le_of_ble_eq_true rfl⟩ (fun r_7 hr_7 => ?_)
        have hr_7 : aUs g n q (pl) (sz) r_7 := hr_7
        refine lv_istore_n (lv' := [(3, .int (r_7)), (0, .ref (ma 0)), (1, .int (pl)), (2, .int (sz))]) hx hb dX7_enter_41 rfl hl (by decide) rfl (fun ls hl => ?_)
        refine lv_iload_n hx hb dX7_enter_42 rfl (lv_at hl 0 rfl) ?_
        refine lv_bipush (v := -9) hx hb dX7_enter_43 (by decide) ?_
        refine lv_icmp_ne (tgt := 56) hx hb dX7_enter_45 (by decide) (fun c_8 => ?_) (fun c_8 => ?_)
        · -- c_8: r_7 ≠ -9
          obtain ⟨w, hw, hrw, i0, hi0, hgi⟩ := (aUs_rng hr_7).resolve_left c_8
          subst hrw
          refine lv_aload_n hx hb dX7_enter_56 rfl (lv_at hl 1 rfl) ?_
          refine lv_iload_n hx hb dX7_enter_57 rfl (lv_at hl 0 rfl) ?_
          refine lv_iconst (v := 1) hx hb dX7_enter_58 (by decide) ?_
          refine cv_i (As := [.int (nI w), .int (1)]) (rest := []) (tys := TYS cI cC cB cS) (ci := 7) ⟨hx, hb, hml, hown, hts⟩ (c_X7_about l D cI cC cB cS (ma) ((fun j => [nI np, fi 1, fi 2, fi 3, fi 4, fi 5].getD j 0)) (wd) (g) (lf) (w) (1) (by omega) (by omega)) (cwV 2 hts gX7_enter_X7_about rfl rfl rfl (by decide +kernel) ⟨Nat.le_of_ble_eq_true rfl, Nat.le_of_ble_eq_true rfl⟩) hK hP [0, 1] rfl rfl rfl rfl rfl hl.1 (Nat.le_of_ble_eq_true rfl) dX7_enter_59 ⟨Nat.le_of_ble_eq_true rfl, Nat.le_of_ble_eq_true rfl⟩ (fun r_9 hr_9 => ?_)
          have hr_9 : r_9 = g 14 w := hr_9
          subst hr_9
          refine lv_istore (lv' := [(4, .int (g 14 w)), (3, .int (nI w)), (0, .ref (ma 0)), (1, .int (pl)), (2, .int (sz))]) hx hb dX7_enter_62 hl (by decide) rfl (fun ls hl => ?_)
          refine lv_iload hx hb dX7_enter_64 (lv_at hl 0 rfl) ?_
          refine lv_bipush (v := -9) hx hb dX7_enter_66 (by decide) ?_
          refine lv_icmp_ne (tgt := 74) hx hb dX7_enter_68 (by decide) (fun c_10 => ?_) (fun c_10 => ?_)
          · -- c_10: g 14 w ≠ -9
            obtain ⟨k, hk, hbk⟩ : ∃ k, k < n ∧ g 14 w = nI k := ⟨i0, hi0, hgi⟩
            have hl : lv_has ls 5 [(4, .int (nI k)), (3, .int (nI w)), (0, .ref (ma 0)), (1, .int (pl)), (2, .int (sz))] := by rw [← hbk]; exact hl
            refine lv_aload_n hx hb dX7_enter_74 rfl (lv_at hl 2 rfl) ?_
            refine cv_wv (As := []) (rest := []) (tys := TYS cI cC cB cS) (ci := 7) (wr := []) ⟨hx, hb, hml, hown, hts⟩ (c_X7_notes l D cI cC cB cS _ (ma) ((fun j => [nI np, fi 1, fi 2, fi 3, fi 4, fi 5].getD j 0)) (wd) (g) (lf) (np) (Pp) (hs) (lfs) (hnp) (hPR)) (cwV 0 hts gX7_enter_X7_notes rfl rfl rfl (by decide +kernel) ⟨Nat.le_of_ble_eq_true rfl, Nat.le_of_ble_eq_true rfl⟩) hK hP hD hS hA [0, 1, 2] [] rfl rfl (by decide) (by decide) (by decide) rfl rfl rfl rfl hl.1 (Nat.le_of_ble_eq_true rfl) dX7_enter_75 ⟨Nat.le_of_ble_eq_true rfl, Nat.le_of_ble_eq_true rfl⟩ (fun u_11 H locs hu_11 hP hD hS => ?_)
            have hP : va_P D vwCl [(ma 0, oE 7 [.ref (ma 1), .ref (ma 2), .int (nI u_11.1), .ref (ma 3), .ref (ma 4), .int (fi 1), .int (fi 2), .int (fi 3), .long (wd), .int (fi 4), .int (fi 5)]), (ma 1, iE cI 382 (enc g lf)), (ma 2, iE cI 2292 (u_11.2.2.2))] H := hP
            have hD : va_D A [(ma 0, oE 7 [.ref (ma 1), .ref (ma 2), .int (nI u_11.1), .ref (ma 3), .ref (ma 4), .int (fi 1), .int (fi 2), .int (fi 3), .long (wd), .int (fi 4), .int (fi 5)]), (ma 1, iE cI 382 (enc g lf)), (ma 2, iE cI 2292 (u_11.2.2.2))] := hD
            have hu_11 : Sv np hs lfs g lf u_11.1 u_11.2.1 u_11.2.2.1 ∧ PRel u_11.2.2.2 u_11.1 u_11.2.1 u_11.2.2.1 := hu_11
            refine lv_aload_n hx hb dX7_enter_78 rfl (lv_at hl 2 rfl) ?_
            refine va_get (D := D) (ci := 7) (v := .ref (ma 1)) (C := RX7) (T := TX7) (N := 11) hx hb hts (by decide +kernel) hown hK.1 hP 0 rfl rfl 0 (by decide) (hts (.fieldLink RX7 7 "ParkingGarageModel" "s" "[I") (by decide +kernel)) (fun _ h9 => h9) rfl dX7_enter_79 ?_
            refine lv_iconst (v := 3) hx hb dX7_enter_82 (by decide) ?_
            refine lv_dup2_11 hx hb dX7_enter_83 rfl rfl ?_
            refine iald_n (f := enc g lf) hx hb hK.1 hP 1 0 rfl rfl (3) (rfl) (by decide) (by omega) dX7_enter_84 ?_
            rw [show enc g lf (3) = g 0 1 from rfl]
            refine lv_iconst (v := 1) hx hb dX7_enter_85 (by decide) ?_
            refine lv_iadd hx hb dX7_enter_86 ?_
            refine iast_n (f := enc g lf) hx hb hK.1 hP hD hS 1 0 rfl rfl (3) (rfl) (by decide) (by omega) dX7_enter_87 (fun H locs hP hD hS => ?_)
            rw [enc_up 0 1 (by omega) (rfl)] at hP hD
            have hP : va_P D vwCl [(ma 0, oE 7 [.ref (ma 1), .ref (ma 2), .int (nI u_11.1), .ref (ma 3), .ref (ma 4), .int (fi 1), .int (fi 2), .int (fi 3), .long (wd), .int (fi 4), .int (fi 5)]), (ma 1, iE cI 382 (enc (w2 g 0 (upd (g 0) 1 ((g 0 1) + (1)))) lf)), (ma 2, iE cI 2292 (u_11.2.2.2))] H := hP
            have hD : va_D A [(ma 0, oE 7 [.ref (ma 1), .ref (ma 2), .int (nI u_11.1), .ref (ma 3), .ref (ma 4), .int (fi 1), .int (fi 2), .int (fi 3), .long (wd), .int (fi 4), .int (fi 5)]), (ma 1, iE cI 382 (enc (w2 g 0 (upd (g 0) 1 ((g 0 1) + (1)))) lf)), (ma 2, iE cI 2292 (u_11.2.2.2))] := hD
            refine lv_aload_n hx hb dX7_enter_88 rfl (lv_at hl 2 rfl) ?_
            refine lv_iload hx hb dX7_enter_89 (lv_at hl 0 rfl) ?_
            refine lv_iconst (v := 4) hx hb dX7_enter_91 (by decide) ?_
            refine lv_iload_n hx hb dX7_enter_92 rfl (lv_at hl 3 rfl) ?_
            refine cv_wv (As := [.int (nI k), .int (4), .int (pl)]) (rest := []) (tys := TYS cI cC cB cS) (ci := 7) (wr := [(ma 2, iE cI 2292 (u_11.2.2.2))]) ⟨hx, hb, hml, hown, hts⟩ (c_X7_sets l D cI cC cB cS _ (ma) ((fun j => [nI u_11.1, fi 1, fi 2, fi 3, fi 4, fi 5].getD j 0)) (wd) ((w2 g 0 (upd (g 0) 1 ((g 0 1) + (1))))) (lf) (k) (4) (pl) (by omega) (by omega)) (cwV 3 hts gX7_enter_X7_sets rfl rfl rfl (by decide +kernel) ⟨Nat.le_of_ble_eq_true rfl, Nat.le_of_ble_eq_true rfl⟩) hK hP hD hS hA [0, 1] [2] rfl rfl (by decide) (by decide) (by decide) rfl rfl rfl rfl hl.1 (Nat.le_of_ble_eq_true rfl) dX7_enter_93 ⟨Nat.le_of_ble_eq_true rfl, Nat.le_of_ble_eq_true rfl⟩ (fun u_12 H locs hu_12 hP hD hS => ?_)
            have hP : va_P D vwCl [(ma 2, iE cI 2292 (u_11.2.2.2)), (ma 0, oE 7 [.ref (ma 1), .ref (ma 2), .int (nI u_11.1), .ref (ma 3), .ref (ma 4), .int (fi 1), .int (fi 2), .int (fi 3), .long (wd), .int (fi 4), .int (fi 5)]), (ma 1, iE cI 382 (enc (w2 (w2 g 0 (upd (g 0) 1 ((g 0 1) + (1)))) 8 (upd (g 8) k (pl))) lf))] H := hP
            have hD : va_D A [(ma 2, iE cI 2292 (u_11.2.2.2)), (ma 0, oE 7 [.ref (ma 1), .ref (ma 2), .int (nI u_11.1), .ref (ma 3), .ref (ma 4), .int (fi 1), .int (fi 2), .int (fi 3), .long (wd), .int (fi 4), .int (fi 5)]), (ma 1, iE cI 382 (enc (w2 (w2 g 0 (upd (g 0) 1 ((g 0 1) + (1)))) 8 (upd (g 8) k (pl))) lf))] := hD
            have hu_12 : True := hu_12
            refine lv_aload_n hx hb dX7_enter_96 rfl (lv_at hl 2 rfl) ?_
            refine lv_iload hx hb dX7_enter_97 (lv_at hl 0 rfl) ?_
            refine lv_iconst (v := 5) hx hb dX7_enter_99 (by decide) ?_
            refine lv_aload_n hx hb dX7_enter_100 rfl (lv_at hl 2 rfl) ?_
            refine va_get (D := D) (ci := 7) (v := .ref (ma 1)) (C := RX7) (T := TX7) (N := 11) hx hb hts (by decide +kernel) hown hK.1 hP 1 rfl rfl 0 (by decide) (hts (.fieldLink RX7 7 "ParkingGarageModel" "s" "[I") (by decide +kernel)) (fun _ h9 => h9) rfl dX7_enter_101 ?_
            refine lv_iconst (v := 0) hx hb dX7_enter_104 (by decide) ?_
            refine iald_n (f := enc (w2 (w2 g 0 (upd (g 0) 1 ((g 0 1) + (1)))) 8 (upd (g 8) k (pl))) lf) hx hb hK.1 hP 2 0 rfl rfl (0) (rfl) (by decide) (by omega) dX7_enter_105 ?_
            rw [show enc (w2 (w2 g 0 (upd (g 0) 1 ((g 0 1) + (1)))) 8 (upd (g 8) k (pl))) lf (0) = g 0 0 from rfl]
            refine cv_wv (As := [.int (nI k), .int (5), .int (g 0 0)]) (rest := []) (tys := TYS cI cC cB cS) (ci := 7) (wr := [(ma 2, iE cI 2292 (u_11.2.2.2))]) ⟨hx, hb, hml, hown, hts⟩ (c_X7_sets l D cI cC cB cS _ (ma) ((fun j => [nI u_11.1, fi 1, fi 2, fi 3, fi 4, fi 5].getD j 0)) (wd) ((w2 (w2 g 0 (upd (g 0) 1 ((g 0 1) + (1)))) 8 (upd (g 8) k (pl)))) (lf) (k) (5) (g 0 0) (by omega) (by omega)) (cwV 3 hts gX7_enter_X7_sets rfl rfl rfl (by decide +kernel) ⟨Nat.le_of_ble_eq_true rfl, Nat.le_of_ble_eq_true rfl⟩) hK hP hD hS hA [1, 2] [0] rfl rfl (by decide) (by decide) (by decide) rfl rfl rfl rfl hl.1 (Nat.le_of_ble_eq_true rfl) dX7_enter_106 ⟨Nat.le_of_ble_eq_true rfl, Nat.le_of_ble_eq_true rfl⟩ (fun u_13 H locs hu_13 hP hD hS => ?_)
            have hP : va_P D vwCl [(ma 2, iE cI 2292 (u_11.2.2.2)), (ma 0, oE 7 [.ref (ma 1), .ref (ma 2), .int (nI u_11.1), .ref (ma 3), .ref (ma 4), .int (fi 1), .int (fi 2), .int (fi 3), .long (wd), .int (fi 4), .int (fi 5)]), (ma 1, iE cI 382 (enc (w2 (w2 (w2 g 0 (upd (g 0) 1 ((g 0 1) + (1)))) 8 (upd (g 8) k (pl))) 10 (upd (g 10) k (g 0 0))) lf))] H := hP
            have hD : va_D A [(ma 2, iE cI 2292 (u_11.2.2.2)), (ma 0, oE 7 [.ref (ma 1), .ref (ma 2), .int (nI u_11.1), .ref (ma 3), .ref (ma 4), .int (fi 1), .int (fi 2), .int (fi 3), .long (wd), .int (fi 4), .int (fi 5)]), (ma 1, iE cI 382 (enc (w2 (w2 (w2 g 0 (upd (g 0) 1 ((g 0 1) + (1)))) 8 (upd (g 8) k (pl))) 10 (upd (g 10) k (g 0 0))) lf))] := hD
            have hu_13 : True := hu_13
            refine lv_aload_n hx hb dX7_enter_109 rfl (lv_at hl 2 rfl) ?_
            refine lv_iload hx hb dX7_enter_110 (lv_at hl 0 rfl) ?_
            refine lv_bipush (v := 6) hx hb dX7_enter_112 (by decide) ?_
            refine lv_iload_n hx hb dX7_enter_114 rfl (lv_at hl 1 rfl) ?_
            refine cv_wv (As := [.int (nI k), .int (6), .int (nI w)]) (rest := []) (tys := TYS cI cC cB cS) (ci := 7) (wr := [(ma 2, iE cI 2292 (u_11.2.2.2))]) ⟨hx, hb, hml, hown, hts⟩ (c_X7_sets l D cI cC cB cS _ (ma) ((fun j => [nI u_11.1, fi 1, fi 2, fi 3, fi 4, fi 5].getD j 0)) (wd) ((w2 (w2 (w2 g 0 (upd (g 0) 1 ((g 0 1) + (1)))) 8 (upd (g 8) k (pl))) 10 (upd (g 10) k (g 0 0)))) (lf) (k) (6) (nI w) (by omega) (by omega)) (cwV 3 hts gX7_enter_X7_sets rfl rfl rfl (by decide +kernel) ⟨Nat.le_of_ble_eq_true rfl, Nat.le_of_ble_eq_true rfl⟩) hK hP hD hS hA [1, 2] [0] rfl rfl (by decide) (by decide) (by decide) rfl rfl rfl rfl hl.1 (Nat.le_of_ble_eq_true rfl) dX7_enter_115 ⟨Nat.le_of_ble_eq_true rfl, Nat.le_of_ble_eq_true rfl⟩ (fun u_14 H locs hu_14 hP hD hS => ?_)
            have hP : va_P D vwCl [(ma 2, iE cI 2292 (u_11.2.2.2)), (ma 0, oE 7 [.ref (ma 1), .ref (ma 2), .int (nI u_11.1), .ref (ma 3), .ref (ma 4), .int (fi 1), .int (fi 2), .int (fi 3), .long (wd), .int (fi 4), .int (fi 5)]), (ma 1, iE cI 382 (enc (w2 (w2 (w2 (w2 g 0 (upd (g 0) 1 ((g 0 1) + (1)))) 8 (upd (g 8) k (pl))) 10 (upd (g 10) k (g 0 0))) 11 (upd (g 11) k (nI w))) lf))] H := hP
            have hD : va_D A [(ma 2, iE cI 2292 (u_11.2.2.2)), (ma 0, oE 7 [.ref (ma 1), .ref (ma 2), .int (nI u_11.1), .ref (ma 3), .ref (ma 4), .int (fi 1), .int (fi 2), .int (fi 3), .long (wd), .int (fi 4), .int (fi 5)]), (ma 1, iE cI 382 (enc (w2 (w2 (w2 (w2 g 0 (upd (g 0) 1 ((g 0 1) + (1)))) 8 (upd (g 8) k (pl))) 10 (upd (g 10) k (g 0 0))) 11 (upd (g 11) k (nI w))) lf))] := hD
            have hu_14 : True := hu_14
            refine lv_aload_n hx hb dX7_enter_118 rfl (lv_at hl 2 rfl) ?_
            refine lv_iload hx hb dX7_enter_119 (lv_at hl 0 rfl) ?_
            refine lv_bipush (v := 7) hx hb dX7_enter_121 (by decide) ?_
            refine lv_aload_n hx hb dX7_enter_123 rfl (lv_at hl 2 rfl) ?_
            refine va_get (D := D) (ci := 7) (v := .ref (ma 1)) (C := RX7) (T := TX7) (N := 11) hx hb hts (by decide +kernel) hown hK.1 hP 1 rfl rfl 0 (by decide) (hts (.fieldLink RX7 7 "ParkingGarageModel" "s" "[I") (by decide +kernel)) (fun _ h9 => h9) rfl dX7_enter_124 ?_
            refine lv_iconst (v := 3) hx hb dX7_enter_127 (by decide) ?_
            refine iald_n (f := enc (w2 (w2 (w2 (w2 g 0 (upd (g 0) 1 ((g 0 1) + (1)))) 8 (upd (g 8) k (pl))) 10 (upd (g 10) k (g 0 0))) 11 (upd (g 11) k (nI w))) lf) hx hb hK.1 hP 2 0 rfl rfl (3) (rfl) (by decide) (by omega) dX7_enter_128 ?_
            rw [show enc (w2 (w2 (w2 (w2 g 0 (upd (g 0) 1 ((g 0 1) + (1)))) 8 (upd (g 8) k (pl))) 10 (upd (g 10) k (g 0 0))) 11 (upd (g 11) k (nI w))) lf (3) = (g 0 1) + (1) from rfl]
            refine cv_wv (As := [.int (nI k), .int (7), .int ((g 0 1) + (1))]) (rest := []) (tys := TYS cI cC cB cS) (ci := 7) (wr := [(ma 2, iE cI 2292 (u_11.2.2.2))]) ⟨hx, hb, hml, hown, hts⟩ (c_X7_sets l D cI cC cB cS _ (ma) ((fun j => [nI u_11.1, fi 1, fi 2, fi 3, fi 4, fi 5].getD j 0)) (wd) ((w2 (w2 (w2 (w2 g 0 (upd (g 0) 1 ((g 0 1) + (1)))) 8 (upd (g 8) k (pl))) 10 (upd (g 10) k (g 0 0))) 11 (upd (g 11) k (nI w)))) (lf) (k) (7) ((g 0 1) + (1)) (by omega) (by omega)) (cwV 3 hts gX7_enter_X7_sets rfl rfl rfl (by decide +kernel) ⟨Nat.le_of_ble_eq_true rfl, Nat.le_of_ble_eq_true rfl⟩) hK hP hD hS hA [1, 2] [0] rfl rfl (by decide) (by decide) (by decide) rfl rfl rfl rfl hl.1 (Nat.le_of_ble_eq_true rfl) dX7_enter_129 ⟨Nat.le_of_ble_eq_true rfl, Nat.le_of_ble_eq_true rfl⟩ (fun u_15 H locs hu_15 hP hD hS => ?_)
            have hP : va_P D vwCl [(ma 2, iE cI 2292 (u_11.2.2.2)), (ma 0, oE 7 [.ref (ma 1), .ref (ma 2), .int (nI u_11.1), .ref (ma 3), .ref (ma 4), .int (fi 1), .int (fi 2), .int (fi 3), .long (wd), .int (fi 4), .int (fi 5)]), (ma 1, iE cI 382 (enc (w2 (w2 (w2 (w2 (w2 g 0 (upd (g 0) 1 ((g 0 1) + (1)))) 8 (upd (g 8) k (pl))) 10 (upd (g 10) k (g 0 0))) 11 (upd (g 11) k (nI w))) 9 (upd (g 9) k ((g 0 1) + (1)))) lf))] H := hP
            have hD : va_D A [(ma 2, iE cI 2292 (u_11.2.2.2)), (ma 0, oE 7 [.ref (ma 1), .ref (ma 2), .int (nI u_11.1), .ref (ma 3), .ref (ma 4), .int (fi 1), .int (fi 2), .int (fi 3), .long (wd), .int (fi 4), .int (fi 5)]), (ma 1, iE cI 382 (enc (w2 (w2 (w2 (w2 (w2 g 0 (upd (g 0) 1 ((g 0 1) + (1)))) 8 (upd (g 8) k (pl))) 10 (upd (g 10) k (g 0 0))) 11 (upd (g 11) k (nI w))) 9 (upd (g 9) k ((g 0 1) + (1)))) lf))] := hD
            have hu_15 : True := hu_15
            refine lv_iload_n hx hb dX7_enter_132 rfl (lv_at hl 1 rfl) ?_
            refine lv_bipush (v := -9) hx hb dX7_enter_133 (by decide) ?_
            refine lv_icmp_eq (tgt := 144) hx hb dX7_enter_135 (by decide) (fun c_16 => ?_) (fun c_16 => ?_)
            · -- c_16: nI w = -9
              exact absurd c_16.symm (m9_ne hw (by omega))
            · -- c_16: not nI w = -9
              refine lv_aload_n hx hb dX7_enter_138 rfl (lv_at hl 2 rfl) ?_
              refine lv_iload_n hx hb dX7_enter_139 rfl (lv_at hl 1 rfl) ?_
              refine lv_iconst (v := 1) hx hb dX7_enter_140 (by decide) ?_
              refine cv_wv (As := [.int (nI w), .int (1)]) (rest := []) (tys := TYS cI cC cB cS) (ci := 7) (wr := [(ma 2, iE cI 2292 (u_11.2.2.2))]) ⟨hx, hb, hml, hown, hts⟩ (c_X7_marks l D cI cC cB cS _ (ma) ((fun j => [nI u_11.1, fi 1, fi 2, fi 3, fi 4, fi 5].getD j 0)) (wd) ((w2 (w2 (w2 (w2 (w2 g 0 (upd (g 0) 1 ((g 0 1) + (1)))) 8 (upd (g 8) k (pl))) 10 (upd (g 10) k (g 0 0))) 11 (upd (g 11) k (nI w))) 9 (upd (g 9) k ((g 0 1) + (1))))) (lf) (w) (1) (by omega)) (cwV 2 hts gX7_enter_X7_marks rfl rfl rfl (by decide +kernel) ⟨Nat.le_of_ble_eq_true rfl, Nat.le_of_ble_eq_true rfl⟩) hK hP hD hS hA [1, 2] [0] rfl rfl (by decide) (by decide) (by decide) rfl rfl rfl rfl hl.1 (Nat.le_of_ble_eq_true rfl) dX7_enter_141 ⟨Nat.le_of_ble_eq_true rfl, Nat.le_of_ble_eq_true rfl⟩ (fun u_17 H locs hu_17 hP hD hS => ?_)
              have hP : va_P D vwCl [(ma 2, iE cI 2292 (u_11.2.2.2)), (ma 0, oE 7 [.ref (ma 1), .ref (ma 2), .int (nI u_11.1), .ref (ma 3), .ref (ma 4), .int (fi 1), .int (fi 2), .int (fi 3), .long (wd), .int (fi 4), .int (fi 5)]), (ma 1, iE cI 382 (enc (w2 (w2 (w2 (w2 (w2 (w2 g 0 (upd (g 0) 1 ((g 0 1) + (1)))) 8 (upd (g 8) k (pl))) 10 (upd (g 10) k (g 0 0))) 11 (upd (g 11) k (nI w))) 9 (upd (g 9) k ((g 0 1) + (1)))) 18 (upd (g 18) w (1))) lf))] H := hP
              have hD : va_D A [(ma 2, iE cI 2292 (u_11.2.2.2)), (ma 0, oE 7 [.ref (ma 1), .ref (ma 2), .int (nI u_11.1), .ref (ma 3), .ref (ma 4), .int (fi 1), .int (fi 2), .int (fi 3), .long (wd), .int (fi 4), .int (fi 5)]), (ma 1, iE cI 382 (enc (w2 (w2 (w2 (w2 (w2 (w2 g 0 (upd (g 0) 1 ((g 0 1) + (1)))) 8 (upd (g 8) k (pl))) 10 (upd (g 10) k (g 0 0))) 11 (upd (g 11) k (nI w))) 9 (upd (g 9) k ((g 0 1) + (1)))) 18 (upd (g 18) w (1))) lf))] := hD
              have hu_17 : True := hu_17
              refine lv_aload_n hx hb dX7_enter_144 rfl (lv_at hl 2 rfl) ?_
              refine va_get (D := D) (ci := 7) (v := .ref (ma 1)) (C := RX7) (T := TX7) (N := 11) hx hb hts (by decide +kernel) hown hK.1 hP 1 rfl rfl 0 (by decide) (hts (.fieldLink RX7 7 "ParkingGarageModel" "s" "[I") (by decide +kernel)) (fun _ h9 => h9) rfl dX7_enter_145 ?_
              refine lv_iconst (v := 3) hx hb dX7_enter_148 (by decide) ?_
              refine iald_n (f := enc (w2 (w2 (w2 (w2 (w2 (w2 g 0 (upd (g 0) 1 ((g 0 1) + (1)))) 8 (upd (g 8) k (pl))) 10 (upd (g 10) k (g 0 0))) 11 (upd (g 11) k (nI w))) 9 (upd (g 9) k ((g 0 1) + (1)))) 18 (upd (g 18) w (1))) lf) hx hb hK.1 hP 2 0 rfl rfl (3) (rfl) (by decide) (by omega) dX7_enter_149 ?_
              rw [show enc (w2 (w2 (w2 (w2 (w2 (w2 g 0 (upd (g 0) 1 ((g 0 1) + (1)))) 8 (upd (g 8) k (pl))) 10 (upd (g 10) k (g 0 0))) 11 (upd (g 11) k (nI w))) 9 (upd (g 9) k ((g 0 1) + (1)))) 18 (upd (g 18) w (1))) lf (3) = (g 0 1) + (1) from rfl]
              have heq9 : enc (w2 (w2 (w2 (w2 (w2 (w2 g 0 (upd (g 0) 1 ((g 0 1) + (1)))) 8 (upd (g 8) k (pl))) 10 (upd (g 10) k (g 0 0))) 11 (upd (g 11) k (nI w))) 9 (upd (g 9) k ((g 0 1) + (1)))) 18 (upd (g 18) w (1))) lf = enc (w2 (gIn g k pl (nI w)) 18 (upd (g 18) w 1)) lf := congrArg (fun G => enc (w2 G 18 (upd (g 18) w 1)) lf) w2_89
              rw [heq9] at hP hD
              have hP : va_P D vwCl [(ma 2, iE cI 2292 (u_11.2.2.2)), (ma 0, oE 7 [.ref (ma 1), .ref (ma 2), .int (nI u_11.1), .ref (ma 3), .ref (ma 4), .int (fi 1), .int (fi 2), .int (fi 3), .long (wd), .int (fi 4), .int (fi 5)]), (ma 1, iE cI 382 (enc (w2 (gIn g k pl (nI w)) 18 (upd (g 18) w 1)) lf))] H := hP
              have hD : va_D A [(ma 2, iE cI 2292 (u_11.2.2.2)), (ma 0, oE 7 [.ref (ma 1), .ref (ma 2), .int (nI u_11.1), .ref (ma 3), .ref (ma 4), .int (fi 1), .int (fi 2), .int (fi 3), .long (wd), .int (fi 4), .int (fi 5)]), (ma 1, iE cI 382 (enc (w2 (gIn g k pl (nI w)) 18 (upd (g 18) w 1)) lf))] := hD
              exact wr_iret (v := (g 0 1) + (1)) ((w2 (gIn g k pl (nI w)) 18 (upd (g 18) w 1), lf, u_11.1, u_11.2.1, u_11.2.2.1, u_11.2.2.2)) hx hb hr hlocks hS hP hD [1, 2, 0] rfl rfl (by decide) dX7_enter_150 (⟨some (w2 (gIn g k pl (nI w)) 18 (upd (g 18) w 1)), Or.inl ⟨⟨h_2, h_4⟩, Or.inr ⟨(m9_nof (by omega) hr_5 c_6), nI w, hr_7, g 14 w, Or.inl ⟨w, hw, rfl, rfl⟩, Or.inl ⟨k, hk, hbk, _, Or.inl ⟨w, hw, rfl, rfl⟩, rfl, rfl⟩⟩⟩, Or.inr ⟨_, rfl, rfl, rfl, hu_11.1, hu_11.2⟩⟩)
          · -- c_10: not g 14 w ≠ -9
            refine lv_bipush (v := -3) hx hb dX7_enter_71 (by decide) ?_
            exact wr_iret (v := -3) ((g, lf, np, hs, lfs, Pp)) hx hb hr hlocks hS hP hD [0, 1, 2] rfl rfl (by decide) dX7_enter_73 (⟨none, Or.inl ⟨⟨h_2, h_4⟩, Or.inr ⟨(m9_nof (by omega) hr_5 c_6), nI w, hr_7, g 14 w, Or.inl ⟨w, hw, rfl, rfl⟩, Or.inr ⟨(fun ⟨k, h1, h2⟩ => m9_ne h1 (by omega) (c_10.symm.trans h2)), ⟨rfl, rfl⟩⟩⟩⟩, Or.inl ⟨rfl, rfl⟩⟩)
        · -- c_8: not r_7 ≠ -9
          subst c_8
          refine lv_aload_n hx hb dX7_enter_48 rfl (lv_at hl 1 rfl) ?_
          refine lv_iload_n hx hb dX7_enter_49 rfl (lv_at hl 3 rfl) ?_
          refine cv_i (As := [.int (sz)]) (rest := []) (tys := TYS cI cC cB cS) (ci := 7) ⟨hx, hb, hml, hown, hts⟩ (c_X7_guided l D cI cC cB cS (ma) ((fun j => [nI np, fi 1, fi 2, fi 3, fi 4, fi 5].getD j 0)) (wd) (g) (lf) (n) (q) (sz) (hn) (hnb) (hq) (hqc) (hst) (htm)) (cwV 1 hts gX7_enter_X7_guided rfl rfl rfl (by decide +kernel) ⟨Nat.le_of_ble_eq_true rfl, Nat.le_of_ble_eq_true rfl⟩) hK hP [0, 1] rfl rfl rfl rfl rfl hl.1 (Nat.le_of_ble_eq_true rfl) dX7_enter_50 ⟨Nat.le_of_ble_eq_true rfl, Nat.le_of_ble_eq_true rfl⟩ (fun r_18 hr_18 => ?_)
          have hr_18 : aFirst g n q (sz) r_18 := hr_18
          refine lv_goto (tgt := 62) hx hb dX7_enter_53 (by decide) ?_
          refine lv_istore (lv' := [(4, .int (r_18)), (3, .int (-9)), (0, .ref (ma 0)), (1, .int (pl)), (2, .int (sz))]) hx hb dX7_enter_62 hl (by decide) rfl (fun ls hl => ?_)
          refine lv_iload hx hb dX7_enter_64 (lv_at hl 0 rfl) ?_
          refine lv_bipush (v := -9) hx hb dX7_enter_66 (by decide) ?_
          refine lv_icmp_ne (tgt := 74) hx hb dX7_enter_68 (by decide) (fun c_19 => ?_) (fun c_19 => ?_)
          · -- c_19: r_18 ≠ -9
            obtain ⟨k, hk, hbk⟩ : ∃ k, k < n ∧ r_18 = nI k := (Wlk.rng hr_18).resolve_left c_19
            have hl : lv_has ls 5 [(4, .int (nI k)), (3, .int (-9)), (0, .ref (ma 0)), (1, .int (pl)), (2, .int (sz))] := by rw [← hbk]; exact hl
            refine lv_aload_n hx hb dX7_enter_74 rfl (lv_at hl 2 rfl) ?_
            refine cv_wv (As := []) (rest := []) (tys := TYS cI cC cB cS) (ci := 7) (wr := []) ⟨hx, hb, hml, hown, hts⟩ (c_X7_notes l D cI cC cB cS _ (ma) ((fun j => [nI np, fi 1, fi 2, fi 3, fi 4, fi 5].getD j 0)) (wd) (g) (lf) (np) (Pp) (hs) (lfs) (hnp) (hPR)) (cwV 0 hts gX7_enter_X7_notes rfl rfl rfl (by decide +kernel) ⟨Nat.le_of_ble_eq_true rfl, Nat.le_of_ble_eq_true rfl⟩) hK hP hD hS hA [0, 1, 2] [] rfl rfl (by decide) (by decide) (by decide) rfl rfl rfl rfl hl.1 (Nat.le_of_ble_eq_true rfl) dX7_enter_75 ⟨Nat.le_of_ble_eq_true rfl, Nat.le_of_ble_eq_true rfl⟩ (fun u_20 H locs hu_20 hP hD hS => ?_)
            have hP : va_P D vwCl [(ma 0, oE 7 [.ref (ma 1), .ref (ma 2), .int (nI u_20.1), .ref (ma 3), .ref (ma 4), .int (fi 1), .int (fi 2), .int (fi 3), .long (wd), .int (fi 4), .int (fi 5)]), (ma 1, iE cI 382 (enc g lf)), (ma 2, iE cI 2292 (u_20.2.2.2))] H := hP
            have hD : va_D A [(ma 0, oE 7 [.ref (ma 1), .ref (ma 2), .int (nI u_20.1), .ref (ma 3), .ref (ma 4), .int (fi 1), .int (fi 2), .int (fi 3), .long (wd), .int (fi 4), .int (fi 5)]), (ma 1, iE cI 382 (enc g lf)), (ma 2, iE cI 2292 (u_20.2.2.2))] := hD
            have hu_20 : Sv np hs lfs g lf u_20.1 u_20.2.1 u_20.2.2.1 ∧ PRel u_20.2.2.2 u_20.1 u_20.2.1 u_20.2.2.1 := hu_20
            refine lv_aload_n hx hb dX7_enter_78 rfl (lv_at hl 2 rfl) ?_
            refine va_get (D := D) (ci := 7) (v := .ref (ma 1)) (C := RX7) (T := TX7) (N := 11) hx hb hts (by decide +kernel) hown hK.1 hP 0 rfl rfl 0 (by decide) (hts (.fieldLink RX7 7 "ParkingGarageModel" "s" "[I") (by decide +kernel)) (fun _ h9 => h9) rfl dX7_enter_79 ?_
            refine lv_iconst (v := 3) hx hb dX7_enter_82 (by decide) ?_
            refine lv_dup2_11 hx hb dX7_enter_83 rfl rfl ?_
            refine iald_n (f := enc g lf) hx hb hK.1 hP 1 0 rfl rfl (3) (rfl) (by decide) (by omega) dX7_enter_84 ?_
            rw [show enc g lf (3) = g 0 1 from rfl]
            refine lv_iconst (v := 1) hx hb dX7_enter_85 (by decide) ?_
            refine lv_iadd hx hb dX7_enter_86 ?_
            refine iast_n (f := enc g lf) hx hb hK.1 hP hD hS 1 0 rfl rfl (3) (rfl) (by decide) (by omega) dX7_enter_87 (fun H locs hP hD hS => ?_)
            rw [enc_up 0 1 (by omega) (rfl)] at hP hD
            have hP : va_P D vwCl [(ma 0, oE 7 [.ref (ma 1), .ref (ma 2), .int (nI u_20.1), .ref (ma 3), .ref (ma 4), .int (fi 1), .int (fi 2), .int (fi 3), .long (wd), .int (fi 4), .int (fi 5)]), (ma 1, iE cI 382 (enc (w2 g 0 (upd (g 0) 1 ((g 0 1) + (1)))) lf)), (ma 2, iE cI 2292 (u_20.2.2.2))] H := hP
            have hD : va_D A [(ma 0, oE 7 [.ref (ma 1), .ref (ma 2), .int (nI u_20.1), .ref (ma 3), .ref (ma 4), .int (fi 1), .int (fi 2), .int (fi 3), .long (wd), .int (fi 4), .int (fi 5)]), (ma 1, iE cI 382 (enc (w2 g 0 (upd (g 0) 1 ((g 0 1) + (1)))) lf)), (ma 2, iE cI 2292 (u_20.2.2.2))] := hD
            refine lv_aload_n hx hb dX7_enter_88 rfl (lv_at hl 2 rfl) ?_
            refine lv_iload hx hb dX7_enter_89 (lv_at hl 0 rfl) ?_
            refine lv_iconst (v := 4) hx hb dX7_enter_91 (by decide) ?_
            refine lv_iload_n hx hb dX7_enter_92 rfl (lv_at hl 3 rfl) ?_
            refine cv_wv (As := [.int (nI k), .int (4), .int (pl)]) (rest := []) (tys := TYS cI cC cB cS) (ci := 7) (wr := [(ma 2, iE cI 2292 (u_20.2.2.2))]) ⟨hx, hb, hml, hown, hts⟩ (c_X7_sets l D cI cC cB cS _ (ma) ((fun j => [nI u_20.1, fi 1, fi 2, fi 3, fi 4, fi 5].getD j 0)) (wd) ((w2 g 0 (upd (g 0) 1 ((g 0 1) + (1))))) (lf) (k) (4) (pl) (by omega) (by omega)) (cwV 3 hts gX7_enter_X7_sets rfl rfl rfl (by decide +kernel) ⟨Nat.le_of_ble_eq_true rfl, Nat.le_of_ble_eq_true rfl⟩) hK hP hD hS hA [0, 1] [2] rfl rfl (by decide) (by decide) (by decide) rfl rfl rfl rfl hl.1 (Nat.le_of_ble_eq_true rfl) dX7_enter_93 ⟨Nat.le_of_ble_eq_true rfl, Nat.le_of_ble_eq_true rfl⟩ (fun u_21 H locs hu_21 hP hD hS => ?_)
            have hP : va_P D vwCl [(ma 2, iE cI 2292 (u_20.2.2.2)), (ma 0, oE 7 [.ref (ma 1), .ref (ma 2), .int (nI u_20.1), .ref (ma 3), .ref (ma 4), .int (fi 1), .int (fi 2), .int (fi 3), .long (wd), .int (fi 4), .int (fi 5)]), (ma 1, iE cI 382 (enc (w2 (w2 g 0 (upd (g 0) 1 ((g 0 1) + (1)))) 8 (upd (g 8) k (pl))) lf))] H := hP
            have hD : va_D A [(ma 2, iE cI 2292 (u_20.2.2.2)), (ma 0, oE 7 [.ref (ma 1), .ref (ma 2), .int (nI u_20.1), .ref (ma 3), .ref (ma 4), .int (fi 1), .int (fi 2), .int (fi 3), .long (wd), .int (fi 4), .int (fi 5)]), (ma 1, iE cI 382 (enc (w2 (w2 g 0 (upd (g 0) 1 ((g 0 1) + (1)))) 8 (upd (g 8) k (pl))) lf))] := hD
            have hu_21 : True := hu_21
            refine lv_aload_n hx hb dX7_enter_96 rfl (lv_at hl 2 rfl) ?_
            refine lv_iload hx hb dX7_enter_97 (lv_at hl 0 rfl) ?_
            refine lv_iconst (v := 5) hx hb dX7_enter_99 (by decide) ?_
            refine lv_aload_n hx hb dX7_enter_100 rfl (lv_at hl 2 rfl) ?_
            refine va_get (D := D) (ci := 7) (v := .ref (ma 1)) (C := RX7) (T := TX7) (N := 11) hx hb hts (by decide +kernel) hown hK.1 hP 1 rfl rfl 0 (by decide) (hts (.fieldLink RX7 7 "ParkingGarageModel" "s" "[I") (by decide +kernel)) (fun _ h9 => h9) rfl dX7_enter_101 ?_
            refine lv_iconst (v := 0) hx hb dX7_enter_104 (by decide) ?_
            refine iald_n (f := enc (w2 (w2 g 0 (upd (g 0) 1 ((g 0 1) + (1)))) 8 (upd (g 8) k (pl))) lf) hx hb hK.1 hP 2 0 rfl rfl (0) (rfl) (by decide) (by omega) dX7_enter_105 ?_
            rw [show enc (w2 (w2 g 0 (upd (g 0) 1 ((g 0 1) + (1)))) 8 (upd (g 8) k (pl))) lf (0) = g 0 0 from rfl]
            refine cv_wv (As := [.int (nI k), .int (5), .int (g 0 0)]) (rest := []) (tys := TYS cI cC cB cS) (ci := 7) (wr := [(ma 2, iE cI 2292 (u_20.2.2.2))]) ⟨hx, hb, hml, hown, hts⟩ (c_X7_sets l D cI cC cB cS _ (ma) ((fun j => [nI u_20.1, fi 1, fi 2, fi 3, fi 4, fi 5].getD j 0)) (wd) ((w2 (w2 g 0 (upd (g 0) 1 ((g 0 1) + (1)))) 8 (upd (g 8) k (pl)))) (lf) (k) (5) (g 0 0) (by omega) (by omega)) (cwV 3 hts gX7_enter_X7_sets rfl rfl rfl (by decide +kernel) ⟨Nat.le_of_ble_eq_true rfl, Nat.le_of_ble_eq_true rfl⟩) hK hP hD hS hA [1, 2] [0] rfl rfl (by decide) (by decide) (by decide) rfl rfl rfl rfl hl.1 (Nat.le_of_ble_eq_true rfl) dX7_enter_106 ⟨Nat.le_of_ble_eq_true rfl, Nat.le_of_ble_eq_true rfl⟩ (fun u_22 H locs hu_22 hP hD hS => ?_)
            have hP : va_P D vwCl [(ma 2, iE cI 2292 (u_20.2.2.2)), (ma 0, oE 7 [.ref (ma 1), .ref (ma 2), .int (nI u_20.1), .ref (ma 3), .ref (ma 4), .int (fi 1), .int (fi 2), .int (fi 3), .long (wd), .int (fi 4), .int (fi 5)]), (ma 1, iE cI 382 (enc (w2 (w2 (w2 g 0 (upd (g 0) 1 ((g 0 1) + (1)))) 8 (upd (g 8) k (pl))) 10 (upd (g 10) k (g 0 0))) lf))] H := hP
            have hD : va_D A [(ma 2, iE cI 2292 (u_20.2.2.2)), (ma 0, oE 7 [.ref (ma 1), .ref (ma 2), .int (nI u_20.1), .ref (ma 3), .ref (ma 4), .int (fi 1), .int (fi 2), .int (fi 3), .long (wd), .int (fi 4), .int (fi 5)]), (ma 1, iE cI 382 (enc (w2 (w2 (w2 g 0 (upd (g 0) 1 ((g 0 1) + (1)))) 8 (upd (g 8) k (pl))) 10 (upd (g 10) k (g 0 0))) lf))] := hD
            have hu_22 : True := hu_22
            refine lv_aload_n hx hb dX7_enter_109 rfl (lv_at hl 2 rfl) ?_
            refine lv_iload hx hb dX7_enter_110 (lv_at hl 0 rfl) ?_
            refine lv_bipush (v := 6) hx hb dX7_enter_112 (by decide) ?_
            refine lv_iload_n hx hb dX7_enter_114 rfl (lv_at hl 1 rfl) ?_
            refine cv_wv (As := [.int (nI k), .int (6), .int (-9)]) (rest := []) (tys := TYS cI cC cB cS) (ci := 7) (wr := [(ma 2, iE cI 2292 (u_20.2.2.2))]) ⟨hx, hb, hml, hown, hts⟩ (c_X7_sets l D cI cC cB cS _ (ma) ((fun j => [nI u_20.1, fi 1, fi 2, fi 3, fi 4, fi 5].getD j 0)) (wd) ((w2 (w2 (w2 g 0 (upd (g 0) 1 ((g 0 1) + (1)))) 8 (upd (g 8) k (pl))) 10 (upd (g 10) k (g 0 0)))) (lf) (k) (6) (-9) (by omega) (by omega)) (cwV 3 hts gX7_enter_X7_sets rfl rfl rfl (by decide +kernel) ⟨Nat.le_of_ble_eq_true rfl, Nat.le_of_ble_eq_true rfl⟩) hK hP hD hS hA [1, 2] [0] rfl rfl (by decide) (by decide) (by decide) rfl rfl rfl rfl hl.1 (Nat.le_of_ble_eq_true rfl) dX7_enter_115 ⟨Nat.le_of_ble_eq_true rfl, Nat.le_of_ble_eq_true rfl⟩ (fun u_23 H locs hu_23 hP hD hS => ?_)
            have hP : va_P D vwCl [(ma 2, iE cI 2292 (u_20.2.2.2)), (ma 0, oE 7 [.ref (ma 1), .ref (ma 2), .int (nI u_20.1), .ref (ma 3), .ref (ma 4), .int (fi 1), .int (fi 2), .int (fi 3), .long (wd), .int (fi 4), .int (fi 5)]), (ma 1, iE cI 382 (enc (w2 (w2 (w2 (w2 g 0 (upd (g 0) 1 ((g 0 1) + (1)))) 8 (upd (g 8) k (pl))) 10 (upd (g 10) k (g 0 0))) 11 (upd (g 11) k (-9))) lf))] H := hP
            have hD : va_D A [(ma 2, iE cI 2292 (u_20.2.2.2)), (ma 0, oE 7 [.ref (ma 1), .ref (ma 2), .int (nI u_20.1), .ref (ma 3), .ref (ma 4), .int (fi 1), .int (fi 2), .int (fi 3), .long (wd), .int (fi 4), .int (fi 5)]), (ma 1, iE cI 382 (enc (w2 (w2 (w2 (w2 g 0 (upd (g 0) 1 ((g 0 1) + (1)))) 8 (upd (g 8) k (pl))) 10 (upd (g 10) k (g 0 0))) 11 (upd (g 11) k (-9))) lf))] := hD
            have hu_23 : True := hu_23
            refine lv_aload_n hx hb dX7_enter_118 rfl (lv_at hl 2 rfl) ?_
            refine lv_iload hx hb dX7_enter_119 (lv_at hl 0 rfl) ?_
            refine lv_bipush (v := 7) hx hb dX7_enter_121 (by decide) ?_
            refine lv_aload_n hx hb dX7_enter_123 rfl (lv_at hl 2 rfl) ?_
            refine va_get (D := D) (ci := 7) (v := .ref (ma 1)) (C := RX7) (T := TX7) (N := 11) hx hb hts (by decide +kernel) hown hK.1 hP 1 rfl rfl 0 (by decide) (hts (.fieldLink RX7 7 "ParkingGarageModel" "s" "[I") (by decide +kernel)) (fun _ h9 => h9) rfl dX7_enter_124 ?_
            refine lv_iconst (v := 3) hx hb dX7_enter_127 (by decide) ?_
            refine iald_n (f := enc (w2 (w2 (w2 (w2 g 0 (upd (g 0) 1 ((g 0 1) + (1)))) 8 (upd (g 8) k (pl))) 10 (upd (g 10) k (g 0 0))) 11 (upd (g 11) k (-9))) lf) hx hb hK.1 hP 2 0 rfl rfl (3) (rfl) (by decide) (by omega) dX7_enter_128 ?_
            rw [show enc (w2 (w2 (w2 (w2 g 0 (upd (g 0) 1 ((g 0 1) + (1)))) 8 (upd (g 8) k (pl))) 10 (upd (g 10) k (g 0 0))) 11 (upd (g 11) k (-9))) lf (3) = (g 0 1) + (1) from rfl]
            refine cv_wv (As := [.int (nI k), .int (7), .int ((g 0 1) + (1))]) (rest := []) (tys := TYS cI cC cB cS) (ci := 7) (wr := [(ma 2, iE cI 2292 (u_20.2.2.2))]) ⟨hx, hb, hml, hown, hts⟩ (c_X7_sets l D cI cC cB cS _ (ma) ((fun j => [nI u_20.1, fi 1, fi 2, fi 3, fi 4, fi 5].getD j 0)) (wd) ((w2 (w2 (w2 (w2 g 0 (upd (g 0) 1 ((g 0 1) + (1)))) 8 (upd (g 8) k (pl))) 10 (upd (g 10) k (g 0 0))) 11 (upd (g 11) k (-9)))) (lf) (k) (7) ((g 0 1) + (1)) (by omega) (by omega)) (cwV 3 hts gX7_enter_X7_sets rfl rfl rfl (by decide +kernel) ⟨Nat.le_of_ble_eq_true rfl, Nat.le_of_ble_eq_true rfl⟩) hK hP hD hS hA [1, 2] [0] rfl rfl (by decide) (by decide) (by decide) rfl rfl rfl rfl hl.1 (Nat.le_of_ble_eq_true rfl) dX7_enter_129 ⟨Nat.le_of_ble_eq_true rfl, Nat.le_of_ble_eq_true rfl⟩ (fun u_24 H locs hu_24 hP hD hS => ?_)
            have hP : va_P D vwCl [(ma 2, iE cI 2292 (u_20.2.2.2)), (ma 0, oE 7 [.ref (ma 1), .ref (ma 2), .int (nI u_20.1), .ref (ma 3), .ref (ma 4), .int (fi 1), .int (fi 2), .int (fi 3), .long (wd), .int (fi 4), .int (fi 5)]), (ma 1, iE cI 382 (enc (w2 (w2 (w2 (w2 (w2 g 0 (upd (g 0) 1 ((g 0 1) + (1)))) 8 (upd (g 8) k (pl))) 10 (upd (g 10) k (g 0 0))) 11 (upd (g 11) k (-9))) 9 (upd (g 9) k ((g 0 1) + (1)))) lf))] H := hP
            have hD : va_D A [(ma 2, iE cI 2292 (u_20.2.2.2)), (ma 0, oE 7 [.ref (ma 1), .ref (ma 2), .int (nI u_20.1), .ref (ma 3), .ref (ma 4), .int (fi 1), .int (fi 2), .int (fi 3), .long (wd), .int (fi 4), .int (fi 5)]), (ma 1, iE cI 382 (enc (w2 (w2 (w2 (w2 (w2 g 0 (upd (g 0) 1 ((g 0 1) + (1)))) 8 (upd (g 8) k (pl))) 10 (upd (g 10) k (g 0 0))) 11 (upd (g 11) k (-9))) 9 (upd (g 9) k ((g 0 1) + (1)))) lf))] := hD
            have hu_24 : True := hu_24
            refine lv_iload_n hx hb dX7_enter_132 rfl (lv_at hl 1 rfl) ?_
            refine lv_bipush (v := -9) hx hb dX7_enter_133 (by decide) ?_
            refine lv_icmp_eq (tgt := 144) hx hb dX7_enter_135 (by decide) (fun _ => ?_) (fun c => absurd (by decide) c)
            refine lv_aload_n hx hb dX7_enter_144 rfl (lv_at hl 2 rfl) ?_
            refine va_get (D := D) (ci := 7) (v := .ref (ma 1)) (C := RX7) (T := TX7) (N := 11) hx hb hts (by decide +kernel) hown hK.1 hP 1 rfl rfl 0 (by decide) (hts (.fieldLink RX7 7 "ParkingGarageModel" "s" "[I") (by decide +kernel)) (fun _ h9 => h9) rfl dX7_enter_145 ?_
            refine lv_iconst (v := 3) hx hb dX7_enter_148 (by decide) ?_
            refine iald_n (f := enc (w2 (w2 (w2 (w2 (w2 g 0 (upd (g 0) 1 ((g 0 1) + (1)))) 8 (upd (g 8) k (pl))) 10 (upd (g 10) k (g 0 0))) 11 (upd (g 11) k (-9))) 9 (upd (g 9) k ((g 0 1) + (1)))) lf) hx hb hK.1 hP 2 0 rfl rfl (3) (rfl) (by decide) (by omega) dX7_enter_149 ?_
            rw [show enc (w2 (w2 (w2 (w2 (w2 g 0 (upd (g 0) 1 ((g 0 1) + (1)))) 8 (upd (g 8) k (pl))) 10 (upd (g 10) k (g 0 0))) 11 (upd (g 11) k (-9))) 9 (upd (g 9) k ((g 0 1) + (1)))) lf (3) = (g 0 1) + (1) from rfl]
            have heq9 : enc (w2 (w2 (w2 (w2 (w2 g 0 (upd (g 0) 1 ((g 0 1) + (1)))) 8 (upd (g 8) k (pl))) 10 (upd (g 10) k (g 0 0))) 11 (upd (g 11) k (-9))) 9 (upd (g 9) k ((g 0 1) + (1)))) lf = enc (gIn g k pl (-9)) lf := congrArg (fun G => enc G lf) w2_89
            rw [heq9] at hP hD
            have hP : va_P D vwCl [(ma 2, iE cI 2292 (u_20.2.2.2)), (ma 0, oE 7 [.ref (ma 1), .ref (ma 2), .int (nI u_20.1), .ref (ma 3), .ref (ma 4), .int (fi 1), .int (fi 2), .int (fi 3), .long (wd), .int (fi 4), .int (fi 5)]), (ma 1, iE cI 382 (enc (gIn g k pl (-9)) lf))] H := hP
            have hD : va_D A [(ma 2, iE cI 2292 (u_20.2.2.2)), (ma 0, oE 7 [.ref (ma 1), .ref (ma 2), .int (nI u_20.1), .ref (ma 3), .ref (ma 4), .int (fi 1), .int (fi 2), .int (fi 3), .long (wd), .int (fi 4), .int (fi 5)]), (ma 1, iE cI 382 (enc (gIn g k pl (-9)) lf))] := hD
            exact wr_iret (v := (g 0 1) + (1)) ((gIn g k pl (-9), lf, u_20.1, u_20.2.1, u_20.2.2.1, u_20.2.2.2)) hx hb hr hlocks hS hP hD [1, 2, 0] rfl rfl (by decide) dX7_enter_150 (⟨some (gIn g k pl (-9)), Or.inl ⟨⟨h_2, h_4⟩, Or.inr ⟨(m9_nof (by omega) hr_5 c_6), -9, hr_7, r_18, Or.inr ⟨(fun ⟨w, h1, h2⟩ => m9_ne h1 (by omega) h2), hr_18⟩, Or.inl ⟨k, hk, hbk, _, Or.inr ⟨(fun ⟨w, h1, h2⟩ => m9_ne h1 (by omega) h2), rfl⟩, rfl, rfl⟩⟩⟩, Or.inr ⟨_, rfl, rfl, rfl, hu_20.1, hu_20.2⟩⟩)
          · -- c_19: not r_18 ≠ -9
            refine lv_bipush (v := -3) hx hb dX7_enter_71 (by decide) ?_
            exact wr_iret (v := -3) ((g, lf, np, hs, lfs, Pp)) hx hb hr hlocks hS hP hD [0, 1, 2] rfl rfl (by decide) dX7_enter_73 (⟨none, Or.inl ⟨⟨h_2, h_4⟩, Or.inr ⟨(m9_nof (by omega) hr_5 c_6), -9, hr_7, r_18, Or.inr ⟨(fun ⟨w, h1, h2⟩ => m9_ne h1 (by omega) h2), hr_18⟩, Or.inr ⟨(fun ⟨k, h1, h2⟩ => m9_ne h1 (by omega) (c_19.symm.trans h2)), ⟨rfl, rfl⟩⟩⟩⟩, Or.inl ⟨rfl, rfl⟩⟩)
      · -- c_6: not r_5 = -9
        refine lv_bipush (v := -2) hx hb dX7_enter_32 (by decide) ?_
        exact wr_iret (v := -2) ((g, lf, np, hs, lfs, Pp)) hx hb hr hlocks hS hP hD [0, 1, 2] rfl rfl (by decide) dX7_enter_34 (⟨none, Or.inl ⟨⟨h_2, h_4⟩, Or.inl ⟨m9_isf hr_5 c_6, ⟨rfl, rfl⟩⟩⟩, Or.inl ⟨rfl, rfl⟩⟩)
    · -- X7_in f
      refine if_ne_f (tgt := 22) hx hb rfl dX7_enter_17 (by decide) ?_
      refine lv_iconst (v := -1) hx hb dX7_enter_20 (by decide) ?_
      exact wr_iret (v := -1) ((g, lf, np, hs, lfs, Pp)) hx hb hr hlocks hS hP hD [0, 1, 2] rfl rfl (by decide) dX7_enter_21 (⟨none, Or.inr ⟨fun q => h_4 q.2, rfl, rfl⟩, Or.inl ⟨rfl, rfl⟩⟩)
  · -- X7_in f
    refine if_eq_t (tgt := 20) hx hb rfl dX7_enter_8 (by decide) ?_
    refine lv_iconst (v := -1) hx hb dX7_enter_20 (by decide) ?_
    exact wr_iret (v := -1) ((g, lf, np, hs, lfs, Pp)) hx hb hr hlocks hS hP hD [0, 1, 2] rfl rfl (by decide) dX7_enter_21 (⟨none, Or.inr ⟨fun q => h_2 q.1, rfl, rfl⟩, Or.inl ⟨rfl, rfl⟩⟩)
set_option maxHeartbeats 4000000 in
set_option maxRecDepth 100000 in
theorem c_X7_leave (l : Launch) (D : va_G) (cI cC cB cS : ClassId) (zz : Nat) (ma : Nat → Nat) (fi : Nat → Int32) (wd : Int64) (g : Nat → Nat → Int32) (lf : Int32) (np : Nat) (Pp : Nat → Int32) (hs : Nat → Nat → Nat → Int32) (lfs : Nat → Int32) (n : Nat) (q : Nat) (tn : Nat) (tu : Nat) (T : Nat) (x : Int32) (hnp : np ≤ 6) (hPR : PRel Pp np hs lfs) (hn : g 3 0 = nI n) (hnb : n ≤ 30) (hqc : q ≤ 16) (ht : g 19 0 = nI tn) (htb : tn ≤ 5) (htu : ∀ j, j < tn → 0 < g 21 j) (hu : g 23 0 = nI tu) (hub : tu ≤ 5) (huu : ∀ j, j < tu → 0 < g 25 j) (hu0 : ∀ j, j < tu → 0 ≤ g 24 j) (hits : ∀ k, k < n → g 11 k = -9 ∨ ∃ w, w < q ∧ g 11 k = nI w) (hen : ∀ w, w < q → Nn (g 16 w)) (hT0 : g 0 0 = nI T) (hT0b : T ≤ 20000) : Met l yX7_leave wsX7_leave ({ frames := 4, cells := 0, slots := 0, locals := 93 } : Room) (wrPc D (TYS cI cC cB cS) [.ref (ma 0), .int (x)] ([(ma 0, oE 7 [.ref (ma 1), .ref (ma 2), .int (nI np), .ref (ma 3), .ref (ma 4), .int (fi 1), .int (fi 2), .int (fi 3), .long (wd), .int (fi 4), .int (fi 5)]), (ma 1, iE cI 382 (enc g lf)), (ma 2, iE cI 2292 (Pp))]) zz) (va_Qi (fun (r : Int32) (u : MWT) => ∃ o2, Oleave g n q tn tu x r o2 ∧ SvM g lf (lf + 1) np hs lfs Pp o2 u) (wrB D (va_A ([(ma 0, oE 7 [.ref (ma 1), .ref (ma 2), .int (nI np), .ref (ma 3), .ref (ma 4), .int (fi 1), .int (fi 2), .int (fi 3), .long (wd), .int (fi 4), .int (fi 5)]), (ma 1, iE cI 382 (enc g lf)), (ma 2, iE cI 2292 (Pp))]) zz) (fun u => [(ma 0, oE 7 [.ref (ma 1), .ref (ma 2), .int (nI u.2.2.1), .ref (ma 3), .ref (ma 4), .int (fi 1), .int (fi 2), .int (fi 3), .long (wd), .int (fi 4), .int (fi 5)]), (ma 1, iE cI 382 (enc u.1 u.2.1)), (ma 2, iE cI 2292 (u.2.2.2.2.2))])) (va_A ([(ma 0, oE 7 [.ref (ma 1), .ref (ma 2), .int (nI np), .ref (ma 3), .ref (ma 4), .int (fi 1), .int (fi 2), .int (fi 3), .long (wd), .int (fi 4), .int (fi 5)]), (ma 1, iE cI 382 (enc g lf)), (ma 2, iE cI 2292 (Pp))]) zz)) 0 0 (va_A ([(ma 0, oE 7 [.ref (ma 1), .ref (ma 2), .int (nI np), .ref (ma 3), .ref (ma 4), .int (fi 1), .int (fi 2), .int (fi 3), .long (wd), .int (fi 4), .int (fi 5)]), (ma 1, iE cI 382 (enc g lf)), (ma 2, iE cI 2292 (Pp))]) zz) := by
  refine wr_intro (Qc := fun A B => va_Qi (fun (r : Int32) (u : MWT) => ∃ o2, Oleave g n q tn tu x r o2 ∧ SvM g lf (lf + 1) np hs lfs Pp o2 u) B A) (by decide) rfl (Nat.le_of_ble_eq_true rfl) ?_
  intro p e s m below meth c A hx hb hr hml hts hown hlocks hin hP hK hD hA hS ls hl
  have hP : va_P D vwCl [(ma 0, oE 7 [.ref (ma 1), .ref (ma 2), .int (nI np), .ref (ma 3), .ref (ma 4), .int (fi 1), .int (fi 2), .int (fi 3), .long (wd), .int (fi 4), .int (fi 5)]), (ma 1, iE cI 382 (enc g lf)), (ma 2, iE cI 2292 (Pp))] s.heap := hP
  have hD : va_D A [(ma 0, oE 7 [.ref (ma 1), .ref (ma 2), .int (nI np), .ref (ma 3), .ref (ma 4), .int (fi 1), .int (fi 2), .int (fi 3), .long (wd), .int (fi 4), .int (fi 5)]), (ma 1, iE cI 382 (enc g lf)), (ma 2, iE cI 2292 (Pp))] := hD
  have hown : s.vm.findClass RX7 = some m.cls := hown
  have hl : lv_has ls 3 [(0, .ref (ma 0)), (1, .int (x))] := hl
  refine lv_iload_n hx hb dX7_leave_0 rfl (lv_at hl 1 rfl) ?_
  refine lv_iconst (v := 1) hx hb dX7_leave_1 (by decide) ?_
  refine lv_aload_n hx hb dX7_leave_2 rfl (lv_at hl 0 rfl) ?_
  refine va_get (D := D) (ci := 7) (v := .ref (ma 1)) (C := RX7) (T := TX7) (N := 11) hx hb hts (by decide +kernel) hown hK.1 hP 0 rfl rfl 0 (by decide) (hts (.fieldLink RX7 7 "ParkingGarageModel" "s" "[I") (by decide +kernel)) (fun _ h9 => h9) rfl dX7_leave_3 ?_
  refine lv_iconst (v := 3) hx hb dX7_leave_6 (by decide) ?_
  refine iald_n (f := enc g lf) hx hb hK.1 hP 1 0 rfl rfl (3) (rfl) (by decide) (by omega) dX7_leave_7 ?_
  rw [show enc g lf (3) = g 0 1 from rfl]
  refine cs_i (As := [.int (x), .int (1), .int (g 0 1)]) (rest := []) (tys := TYS cI cC cB cS) ⟨hx, hb, hml, hown, hts⟩ (c_X7_in l D cI cC cB cS (x) (1) (g 0 1)) (va_cwS 3 hts gX7_leave_X7_in rfl rfl rfl (by decide +kernel) ⟨Nat.le_of_ble_eq_true rfl, Nat.le_of_ble_eq_true rfl⟩) hK hP [] rfl rfl rfl hl.1 (Nat.le_of_ble_eq_true rfl) dX7_leave_8 ⟨Nat.le_of_ble_eq_true rfl, Nat.le_of_ble_eq_true rfl⟩ (fun r_1 hr_1 => ?_)
  rcases (show Yes (1 ≤ x ∧ x ≤ g 0 1) r_1 from hr_1) with ⟨rfl, h_2⟩ | ⟨rfl, h_2⟩
  · -- X7_in t
    refine if_ne_t (tgt := 16) hx hb (by decide) dX7_leave_11 (by decide) ?_
    refine lv_iconst (v := 0) hx hb dX7_leave_16 (by decide) ?_
    refine lv_istore_n (lv' := [(2, .int (0)), (0, .ref (ma 0)), (1, .int (x))]) hx hb dX7_leave_17 rfl hl (by decide) rfl (fun ls hl => ?_)
    have hloop : ∀ (d i : Nat), i ≤ n → n - i < d → (∀ j, j < i → ¬ (g 9 j = x)) → ∀ ls : Array Slot, lv_has ls 3 [(2, .int (nI i)), (0, .ref (ma 0)), (1, .int (x))] → W p l e ({ frames := 4, cells := 0, slots := 0, locals := 93 } : Room) s m (([.ref (ma 0), .int (x)] : List Value).toArray) below meth c s.heap [] 0 0 (MQ below (va_Qi (fun (r : Int32) (u : MWT) => ∃ o2, Oleave g n q tn tu x r o2 ∧ SvM g lf (lf + 1) np hs lfs Pp o2 u) (wrB D A (fun u => [(ma 0, oE 7 [.ref (ma 1), .ref (ma 2), .int (nI u.2.2.1), .ref (ma 3), .ref (ma 4), .int (fi 1), .int (fi 2), .int (fi 3), .long (wd), .int (fi 4), .int (fi 5)]), (ma 1, iE cI 382 (enc u.1 u.2.1)), (ma 2, iE cI 2292 (u.2.2.2.2.2))])) A) (([.ref (ma 0), .int (x)] : List Value).toArray) s 0 0 A) (F0 m 18 ls []) := by
      intro d
      induction d with
      | zero => intro i _ h2; exact absurd h2 (Nat.not_lt_zero _)
      | succ d ih =>
        intro i hi hd hno ls hl
        refine lv_iload_n hx hb dX7_leave_18 rfl (lv_at hl 0 rfl) ?_
        refine lv_aload_n hx hb dX7_leave_19 rfl (lv_at hl 1 rfl) ?_
        refine va_get (D := D) (ci := 7) (v := .ref (ma 1)) (C := RX7) (T := TX7) (N := 11) hx hb hts (by decide +kernel) hown hK.1 hP 0 rfl rfl 0 (by decide) (hts (.fieldLink RX7 7 "ParkingGarageModel" "s" "[I") (by decide +kernel)) (fun _ h9 => h9) rfl dX7_leave_20 ?_
        refine lv_iconst (v := 1) hx hb dX7_leave_23 (by decide) ?_
        refine iald_n (f := enc g lf) hx hb hK.1 hP 1 0 rfl rfl (1) (rfl) (by decide) (by omega) dX7_leave_24 ?_
        rw [show enc g lf (1) = nI n from hn]
        refine lv_icmp_ge (tgt := 79) hx hb dX7_leave_25 (by decide) (fun c_3 => ?_) (fun c_3 => ?_)
        · -- c_3: nI i ≥ nI n
          have hge : i = n := nI_geD (n := n) rfl hi (by omega) c_3
          subst hge
          refine lv_bipush (v := -2) hx hb dX7_leave_79 (by decide) ?_
          exact wr_iret (v := -2) ((g, lf, np, hs, lfs, Pp)) hx hb hr hlocks hS hP hD [0, 1, 2] rfl rfl (by decide) dX7_leave_81 (⟨none, Or.inl ⟨h_2, Or.inr ⟨hno, ⟨rfl, rfl⟩⟩⟩, Or.inl ⟨rfl, rfl⟩⟩)
        · -- c_3: not nI i ≥ nI n
          have hlt : i < n := nI_ltD (n := n) rfl hi (by omega) c_3
          refine lv_aload_n hx hb dX7_leave_28 rfl (lv_at hl 1 rfl) ?_
          refine lv_iload_n hx hb dX7_leave_29 rfl (lv_at hl 0 rfl) ?_
          refine lv_bipush (v := 7) hx hb dX7_leave_30 (by decide) ?_
          refine cv_i (As := [.int (nI i), .int (7)]) (rest := []) (tys := TYS cI cC cB cS) (ci := 7) ⟨hx, hb, hml, hown, hts⟩ (c_X7_of l D cI cC cB cS (ma) ((fun j => [nI np, fi 1, fi 2, fi 3, fi 4, fi 5].getD j 0)) (wd) (g) (lf) (i) (7) (by omega) (by omega)) (cwV 2 hts gX7_leave_X7_of rfl rfl rfl (by decide +kernel) ⟨Nat.le_of_ble_eq_true rfl, Nat.le_of_ble_eq_true rfl⟩) hK hP [0, 1] rfl rfl rfl rfl rfl hl.1 (Nat.le_of_ble_eq_true rfl) dX7_leave_32 ⟨Nat.le_of_ble_eq_true rfl, Nat.le_of_ble_eq_true rfl⟩ (fun r_4 hr_4 => ?_)
          have hr_4 : r_4 = g 9 i := hr_4
          subst hr_4
          refine lv_iload_n hx hb dX7_leave_35 rfl (lv_at hl 2 rfl) ?_
          refine lv_icmp_ne (tgt := 73) hx hb dX7_leave_36 (by decide) (fun c_5 => ?_) (fun c_5 => ?_)
          · -- c_5: g 9 i ≠ x
            refine lv_iinc (v := nI (i + 1)) (lv' := [(2, .int (nI (i + 1))), (0, .ref (ma 0)), (1, .int (x))]) hx hb dX7_leave_73 hl (k := 0) rfl (nI_1 _) (by decide) rfl (fun ls hl => ?_)
            refine lv_goto (tgt := 18) hx hb dX7_leave_76 (by decide) ?_
            exact ih (i + 1) (by omega) (by omega) (all_s hno c_5) ls (lv_sub hl [0, 1, 2] rfl)
          · -- c_5: not g 9 i ≠ x
            refine lv_aload_n hx hb dX7_leave_39 rfl (lv_at hl 1 rfl) ?_
            refine lv_iload_n hx hb dX7_leave_40 rfl (lv_at hl 0 rfl) ?_
            refine lv_aload_n hx hb dX7_leave_41 rfl (lv_at hl 1 rfl) ?_
            refine lv_iload_n hx hb dX7_leave_42 rfl (lv_at hl 0 rfl) ?_
            refine lv_aload_n hx hb dX7_leave_43 rfl (lv_at hl 1 rfl) ?_
            refine va_get (D := D) (ci := 7) (v := .ref (ma 1)) (C := RX7) (T := TX7) (N := 11) hx hb hts (by decide +kernel) hown hK.1 hP 0 rfl rfl 0 (by decide) (hts (.fieldLink RX7 7 "ParkingGarageModel" "s" "[I") (by decide +kernel)) (fun _ h9 => h9) rfl dX7_leave_44 ?_
            refine lv_iconst (v := 0) hx hb dX7_leave_47 (by decide) ?_
            refine iald_n (f := enc g lf) hx hb hK.1 hP 1 0 rfl rfl (0) (rfl) (by decide) (by omega) dX7_leave_48 ?_
            rw [show enc g lf (0) = g 0 0 from rfl]
            refine cv_i (As := [.int (nI i), .int (g 0 0)]) (rest := [.int (nI i), .ref (ma 0)]) (tys := TYS cI cC cB cS) (ci := 7) ⟨hx, hb, hml, hown, hts⟩ (c_X7_feeAt l D cI cC cB cS (ma) ((fun j => [nI np, fi 1, fi 2, fi 3, fi 4, fi 5].getD j 0)) (wd) (g) (lf) (n) (q) (tn) (tu) (i) (g 0 0) (hnb) (hqc) (ht) (htb) (htu) (hu) (hub) (huu) (hu0) (hits) (hen) (by omega) ((by rw [hT0]; exact nn_nI (by omega)))) (cwV 2 hts gX7_leave_X7_feeAt rfl rfl rfl (by decide +kernel) ⟨Nat.le_of_ble_eq_true rfl, Nat.le_of_ble_eq_true rfl⟩) hK hP [0, 1] rfl rfl rfl rfl rfl hl.1 (Nat.le_of_ble_eq_true rfl) dX7_leave_49 ⟨Nat.le_of_ble_eq_true rfl, Nat.le_of_ble_eq_true rfl⟩ (fun r_6 hr_6 => ?_)
            have hr_6 : aFeeAt g q tn tu i (g 0 0) r_6 := hr_6
            refine lv_aload_n hx hb dX7_leave_52 rfl (lv_at hl 1 rfl) ?_
            refine lv_iload_n hx hb dX7_leave_53 rfl (lv_at hl 0 rfl) ?_
            refine lv_bipush (v := 6) hx hb dX7_leave_54 (by decide) ?_
            refine cv_i (As := [.int (nI i), .int (6)]) (rest := [.int (r_6), .int (nI i), .ref (ma 0)]) (tys := TYS cI cC cB cS) (ci := 7) ⟨hx, hb, hml, hown, hts⟩ (c_X7_of l D cI cC cB cS (ma) ((fun j => [nI np, fi 1, fi 2, fi 3, fi 4, fi 5].getD j 0)) (wd) (g) (lf) (i) (6) (by omega) (by omega)) (cwV 2 hts gX7_leave_X7_of rfl rfl rfl (by decide +kernel) ⟨Nat.le_of_ble_eq_true rfl, Nat.le_of_ble_eq_true rfl⟩) hK hP [0, 1] rfl rfl rfl rfl rfl hl.1 (Nat.le_of_ble_eq_true rfl) dX7_leave_56 ⟨Nat.le_of_ble_eq_true rfl, Nat.le_of_ble_eq_true rfl⟩ (fun r_7 hr_7 => ?_)
            have hr_7 : r_7 = g 11 i := hr_7
            subst hr_7
            refine lv_bipush (v := -9) hx hb dX7_leave_59 (by decide) ?_
            refine lv_icmp_ne (tgt := 68) hx hb dX7_leave_61 (by decide) (fun c_8 => ?_) (fun c_8 => ?_)
            · -- c_8: g 11 i ≠ -9
              refine lv_iconst (v := 2) hx hb dX7_leave_68 (by decide) ?_
              refine cv_wi (As := [.int (nI i), .int (r_6), .int (2)]) (rest := []) (tys := TYS cI cC cB cS) (ci := 7) (wr := []) ⟨hx, hb, hml, hown, hts⟩ (c_X7_leaves l D cI cC cB cS _ (ma) ((fun j => [nI np, fi 1, fi 2, fi 3, fi 4, fi 5].getD j 0)) (wd) (g) (lf) (np) (Pp) (hs) (lfs) (n) (q) (i) (r_6) (2) (hnp) (hPR) (hnb) (hqc) (hits) (by omega) (by decide)) (cwV 3 hts gX7_leave_X7_leaves rfl rfl rfl (by decide +kernel) ⟨Nat.le_of_ble_eq_true rfl, Nat.le_of_ble_eq_true rfl⟩) hK hP hD hS hA [0, 1, 2] [] rfl rfl (by decide) (by decide) (by decide) rfl rfl rfl rfl hl.1 (Nat.le_of_ble_eq_true rfl) dX7_leave_69 ⟨Nat.le_of_ble_eq_true rfl, Nat.le_of_ble_eq_true rfl⟩ (fun r_10 u_9 H locs hu_9 hP hD hS => ?_)
              have hP : va_P D vwCl [(ma 0, oE 7 [.ref (ma 1), .ref (ma 2), .int (nI u_9.2.1), .ref (ma 3), .ref (ma 4), .int (fi 1), .int (fi 2), .int (fi 3), .long (wd), .int (fi 4), .int (fi 5)]), (ma 1, iE cI 382 (enc u_9.1 (lf + 1))), (ma 2, iE cI 2292 (u_9.2.2.2.2))] H := hP
              have hD : va_D A [(ma 0, oE 7 [.ref (ma 1), .ref (ma 2), .int (nI u_9.2.1), .ref (ma 3), .ref (ma 4), .int (fi 1), .int (fi 2), .int (fi 3), .long (wd), .int (fi 4), .int (fi 5)]), (ma 1, iE cI 382 (enc u_9.1 (lf + 1))), (ma 2, iE cI 2292 (u_9.2.2.2.2))] := hD
              have hu_9 : r_10 = r_6 ∧ LetOut (w2 g 2 (upd (g 2) 2 (g 2 2 + r_6))) q i u_9.1 ∧ Sv np hs lfs g lf u_9.2.1 u_9.2.2.1 u_9.2.2.2.1 ∧ PRel u_9.2.2.2.2 u_9.2.1 u_9.2.2.1 u_9.2.2.2.1 := hu_9
              rw [show r_10 = r_6 from hu_9.1]
              exact wr_iret (v := r_6) ((u_9.1, lf + 1, u_9.2.1, u_9.2.2.1, u_9.2.2.2.1, u_9.2.2.2.2)) hx hb hr hlocks hS hP hD [0, 1, 2] rfl rfl (by decide) dX7_leave_72 (⟨some u_9.1, Or.inl ⟨h_2, Or.inl ⟨i, hlt, c_5, hno, hr_6, 2, Or.inl ⟨(hits i hlt).resolve_left c_8, rfl⟩, u_9.1, hu_9.2.1, rfl⟩⟩, Or.inr ⟨_, rfl, rfl, rfl, hu_9.2.2.1, hu_9.2.2.2⟩⟩)
            · -- c_8: not g 11 i ≠ -9
              refine lv_iconst (v := 0) hx hb dX7_leave_64 (by decide) ?_
              refine lv_goto (tgt := 69) hx hb dX7_leave_65 (by decide) ?_
              refine cv_wi (As := [.int (nI i), .int (r_6), .int (0)]) (rest := []) (tys := TYS cI cC cB cS) (ci := 7) (wr := []) ⟨hx, hb, hml, hown, hts⟩ (c_X7_leaves l D cI cC cB cS _ (ma) ((fun j => [nI np, fi 1, fi 2, fi 3, fi 4, fi 5].getD j 0)) (wd) (g) (lf) (np) (Pp) (hs) (lfs) (n) (q) (i) (r_6) (0) (hnp) (hPR) (hnb) (hqc) (hits) (by omega) (by decide)) (cwV 3 hts gX7_leave_X7_leaves rfl rfl rfl (by decide +kernel) ⟨Nat.le_of_ble_eq_true rfl, Nat.le_of_ble_eq_true rfl⟩) hK hP hD hS hA [0, 1, 2] [] rfl rfl (by decide) (by decide) (by decide) rfl rfl rfl rfl hl.1 (Nat.le_of_ble_eq_true rfl) dX7_leave_69 ⟨Nat.le_of_ble_eq_true rfl, Nat.le_of_ble_eq_true rfl⟩ (fun r_12 u_11 H locs hu_11 hP hD hS => ?_)
              have hP : va_P D vwCl [(ma 0, oE 7 [.ref (ma 1), .ref (ma 2), .int (nI u_11.2.1), .ref (ma 3), .ref (ma 4), .int (fi 1), .int (fi 2), .int (fi 3), .long (wd), .int (fi 4), .int (fi 5)]), (ma 1, iE cI 382 (enc u_11.1 (lf + 1))), (ma 2, iE cI 2292 (u_11.2.2.2.2))] H := hP
              have hD : va_D A [(ma 0, oE 7 [.ref (ma 1), .ref (ma 2), .int (nI u_11.2.1), .ref (ma 3), .ref (ma 4), .int (fi 1), .int (fi 2), .int (fi 3), .long (wd), .int (fi 4), .int (fi 5)]), (ma 1, iE cI 382 (enc u_11.1 (lf + 1))), (ma 2, iE cI 2292 (u_11.2.2.2.2))] := hD
              have hu_11 : r_12 = r_6 ∧ LetOut (w2 g 2 (upd (g 2) 0 (g 2 0 + r_6))) q i u_11.1 ∧ Sv np hs lfs g lf u_11.2.1 u_11.2.2.1 u_11.2.2.2.1 ∧ PRel u_11.2.2.2.2 u_11.2.1 u_11.2.2.1 u_11.2.2.2.1 := hu_11
              rw [show r_12 = r_6 from hu_11.1]
              exact wr_iret (v := r_6) ((u_11.1, lf + 1, u_11.2.1, u_11.2.2.1, u_11.2.2.2.1, u_11.2.2.2.2)) hx hb hr hlocks hS hP hD [0, 1, 2] rfl rfl (by decide) dX7_leave_72 (⟨some u_11.1, Or.inl ⟨h_2, Or.inl ⟨i, hlt, c_5, hno, hr_6, 0, Or.inr ⟨fun ⟨w, h1, h2⟩ => m9_ne h1 (by omega) (c_8.symm.trans h2), rfl⟩, u_11.1, hu_11.2.1, rfl⟩⟩, Or.inr ⟨_, rfl, rfl, rfl, hu_11.2.2.1, hu_11.2.2.2⟩⟩)
    exact hloop (n + 1) 0 (by omega) (by omega) (all_0) ls (lv_sub hl [0, 1, 2] rfl)
  · -- X7_in f
    refine if_ne_f (tgt := 16) hx hb rfl dX7_leave_11 (by decide) ?_
    refine lv_iconst (v := -1) hx hb dX7_leave_14 (by decide) ?_
    exact wr_iret (v := -1) ((g, lf, np, hs, lfs, Pp)) hx hb hr hlocks hS hP hD [0, 1, 2] rfl rfl (by decide) dX7_leave_15 (⟨none, Or.inr ⟨fun q => h_2 q, rfl, rfl⟩, Or.inl ⟨rfl, rfl⟩⟩)
set_option maxHeartbeats 4000000 in
set_option maxRecDepth 100000 in
theorem c_X7_leaveLost (l : Launch) (D : va_G) (cI cC cB cS : ClassId) (zz : Nat) (ma : Nat → Nat) (fi : Nat → Int32) (wd : Int64) (g : Nat → Nat → Int32) (lf : Int32) (np : Nat) (Pp : Nat → Int32) (hs : Nat → Nat → Nat → Int32) (lfs : Nat → Int32) (n : Nat) (q : Nat) (tn : Nat) (pl : Int32) (hnp : np ≤ 6) (hPR : PRel Pp np hs lfs) (hn : g 3 0 = nI n) (hnb : n ≤ 30) (hqc : q ≤ 16) (ht : g 19 0 = nI tn) (htb : tn ≤ 5) (htu : ∀ j, j < tn → 0 < g 21 j) (hits : ∀ k, k < n → g 11 k = -9 ∨ ∃ w, w < q ∧ g 11 k = nI w) : Met l yX7_leaveLost wsX7_leaveLost ({ frames := 4, cells := 0, slots := 0, locals := 92 } : Room) (wrPc D (TYS cI cC cB cS) [.ref (ma 0), .int (pl)] ([(ma 0, oE 7 [.ref (ma 1), .ref (ma 2), .int (nI np), .ref (ma 3), .ref (ma 4), .int (fi 1), .int (fi 2), .int (fi 3), .long (wd), .int (fi 4), .int (fi 5)]), (ma 1, iE cI 382 (enc g lf)), (ma 2, iE cI 2292 (Pp))]) zz) (va_Qi (fun (r : Int32) (u : MWT) => ∃ o2, Olost g n q tn pl r o2 ∧ SvM g lf (lf + 1) np hs lfs Pp o2 u) (wrB D (va_A ([(ma 0, oE 7 [.ref (ma 1), .ref (ma 2), .int (nI np), .ref (ma 3), .ref (ma 4), .int (fi 1), .int (fi 2), .int (fi 3), .long (wd), .int (fi 4), .int (fi 5)]), (ma 1, iE cI 382 (enc g lf)), (ma 2, iE cI 2292 (Pp))]) zz) (fun u => [(ma 0, oE 7 [.ref (ma 1), .ref (ma 2), .int (nI u.2.2.1), .ref (ma 3), .ref (ma 4), .int (fi 1), .int (fi 2), .int (fi 3), .long (wd), .int (fi 4), .int (fi 5)]), (ma 1, iE cI 382 (enc u.1 u.2.1)), (ma 2, iE cI 2292 (u.2.2.2.2.2))])) (va_A ([(ma 0, oE 7 [.ref (ma 1), .ref (ma 2), .int (nI np), .ref (ma 3), .ref (ma 4), .int (fi 1), .int (fi 2), .int (fi 3), .long (wd), .int (fi 4), .int (fi 5)]), (ma 1, iE cI 382 (enc g lf)), (ma 2, iE cI 2292 (Pp))]) zz)) 0 0 (va_A ([(ma 0, oE 7 [.ref (ma 1), .ref (ma 2), .int (nI np), .ref (ma 3), .ref (ma 4), .int (fi 1), .int (fi 2), .int (fi 3), .long (wd), .int (fi 4), .int (fi 5)]), (ma 1, iE cI 382 (enc g lf)), (ma 2, iE cI 2292 (Pp))]) zz) := by
  refine wr_intro (Qc := fun A B => va_Qi (fun (r : Int32) (u : MWT) => ∃ o2, Olost g n q tn pl r o2 ∧ SvM g lf (lf + 1) np hs lfs Pp o2 u) B A) (by decide) rfl (Nat.le_of_ble_eq_true rfl) ?_
  intro p e s m below meth c A hx hb hr hml hts hown hlocks hin hP hK hD hA hS ls hl
  have hP : va_P D vwCl [(ma 0, oE 7 [.ref (ma 1), .ref (ma 2), .int (nI np), .ref (ma 3), .ref (ma 4), .int (fi 1), .int (fi 2), .int (fi 3), .long (wd), .int (fi 4), .int (fi 5)]), (ma 1, iE cI 382 (enc g lf)), (ma 2, iE cI 2292 (Pp))] s.heap := hP
  have hD : va_D A [(ma 0, oE 7 [.ref (ma 1), .ref (ma 2), .int (nI np), .ref (ma 3), .ref (ma 4), .int (fi 1), .int (fi 2), .int (fi 3), .long (wd), .int (fi 4), .int (fi 5)]), (ma 1, iE cI 382 (enc g lf)), (ma 2, iE cI 2292 (Pp))] := hD
  have hown : s.vm.findClass RX7 = some m.cls := hown
  have hl : lv_has ls 3 [(0, .ref (ma 0)), (1, .int (pl))] := hl
  refine lv_iload_n hx hb dX7_leaveLost_0 rfl (lv_at hl 1 rfl) ?_
  refine lv_iconst (v := 1) hx hb dX7_leaveLost_1 (by decide) ?_
  refine lv_sipush (v := 999) hx hb dX7_leaveLost_2 (by decide) ?_
  refine cs_i (As := [.int (pl), .int (1), .int (999)]) (rest := []) (tys := TYS cI cC cB cS) ⟨hx, hb, hml, hown, hts⟩ (c_X7_in l D cI cC cB cS (pl) (1) (999)) (va_cwS 3 hts gX7_leaveLost_X7_in rfl rfl rfl (by decide +kernel) ⟨Nat.le_of_ble_eq_true rfl, Nat.le_of_ble_eq_true rfl⟩) hK hP [] rfl rfl rfl hl.1 (Nat.le_of_ble_eq_true rfl) dX7_leaveLost_5 ⟨Nat.le_of_ble_eq_true rfl, Nat.le_of_ble_eq_true rfl⟩ (fun r_1 hr_1 => ?_)
  rcases (show Yes (1 ≤ pl ∧ pl ≤ 999) r_1 from hr_1) with ⟨rfl, h_2⟩ | ⟨rfl, h_2⟩
  · -- X7_in t
    refine if_ne_t (tgt := 13) hx hb (by decide) dX7_leaveLost_8 (by decide) ?_
    refine lv_aload_n hx hb dX7_leaveLost_13 rfl (lv_at hl 0 rfl) ?_
    refine lv_iload_n hx hb dX7_leaveLost_14 rfl (lv_at hl 1 rfl) ?_
    refine cv_i (As := [.int (pl)]) (rest := []) (tys := TYS cI cC cB cS) (ci := 7) ⟨hx, hb, hml, hown, hts⟩ (c_X7_bayOf l D cI cC cB cS (ma) ((fun j => [nI np, fi 1, fi 2, fi 3, fi 4, fi 5].getD j 0)) (wd) (g) (lf) (n) (pl) (hn) (hnb)) (cwV 1 hts gX7_leaveLost_X7_bayOf rfl rfl rfl (by decide +kernel) ⟨Nat.le_of_ble_eq_true rfl, Nat.le_of_ble_eq_true rfl⟩) hK hP [0, 1] rfl rfl rfl rfl rfl hl.1 (Nat.le_of_ble_eq_true rfl) dX7_leaveLost_15 ⟨Nat.le_of_ble_eq_true rfl, Nat.le_of_ble_eq_true rfl⟩ (fun r_3 hr_3 => ?_)
    have hr_3 : Fst (fun w => g 8 w = pl) n r_3 := hr_3
    refine lv_istore_n (lv' := [(2, .int (r_3)), (0, .ref (ma 0)), (1, .int (pl))]) hx hb dX7_leaveLost_18 rfl hl (by decide) rfl (fun ls hl => ?_)
    refine lv_iload_n hx hb dX7_leaveLost_19 rfl (lv_at hl 0 rfl) ?_
    refine lv_bipush (v := -9) hx hb dX7_leaveLost_20 (by decide) ?_
    refine lv_icmp_ne (tgt := 30) hx hb dX7_leaveLost_22 (by decide) (fun c_4 => ?_) (fun c_4 => ?_)
    · -- c_4: r_3 ≠ -9
      obtain ⟨k, hk, hbk, hPk, hNk⟩ := Fst.got9 hr_3 c_4
      have hl : lv_has ls 3 [(2, .int (nI k)), (0, .ref (ma 0)), (1, .int (pl))] := by rw [← hbk]; exact hl
      refine lv_aload_n hx hb dX7_leaveLost_30 rfl (lv_at hl 1 rfl) ?_
      refine lv_iload_n hx hb dX7_leaveLost_31 rfl (lv_at hl 0 rfl) ?_
      refine lv_aload_n hx hb dX7_leaveLost_32 rfl (lv_at hl 1 rfl) ?_
      refine lv_iload_n hx hb dX7_leaveLost_33 rfl (lv_at hl 0 rfl) ?_
      refine cv_i (As := [.int (nI k)]) (rest := [.int (nI k), .ref (ma 0)]) (tys := TYS cI cC cB cS) (ci := 7) ⟨hx, hb, hml, hown, hts⟩ (c_X7_lostFee l D cI cC cB cS (ma) ((fun j => [nI np, fi 1, fi 2, fi 3, fi 4, fi 5].getD j 0)) (wd) (g) (lf) (tn) (k) (ht) (htb) (htu) (by omega)) (cwV 1 hts gX7_leaveLost_X7_lostFee rfl rfl rfl (by decide +kernel) ⟨Nat.le_of_ble_eq_true rfl, Nat.le_of_ble_eq_true rfl⟩) hK hP [0, 1] rfl rfl rfl rfl rfl hl.1 (Nat.le_of_ble_eq_true rfl) dX7_leaveLost_34 ⟨Nat.le_of_ble_eq_true rfl, Nat.le_of_ble_eq_true rfl⟩ (fun r_5 hr_5 => ?_)
      have hr_5 : r_5 = aLost g tn k := hr_5
      subst hr_5
      refine lv_iconst (v := 3) hx hb dX7_leaveLost_37 (by decide) ?_
      refine cv_wi (As := [.int (nI k), .int (aLost g tn k), .int (3)]) (rest := []) (tys := TYS cI cC cB cS) (ci := 7) (wr := []) ⟨hx, hb, hml, hown, hts⟩ (c_X7_leaves l D cI cC cB cS _ (ma) ((fun j => [nI np, fi 1, fi 2, fi 3, fi 4, fi 5].getD j 0)) (wd) (g) (lf) (np) (Pp) (hs) (lfs) (n) (q) (k) (aLost g tn k) (3) (hnp) (hPR) (hnb) (hqc) (hits) (by omega) (by decide)) (cwV 3 hts gX7_leaveLost_X7_leaves rfl rfl rfl (by decide +kernel) ⟨Nat.le_of_ble_eq_true rfl, Nat.le_of_ble_eq_true rfl⟩) hK hP hD hS hA [0, 1, 2] [] rfl rfl (by decide) (by decide) (by decide) rfl rfl rfl rfl hl.1 (Nat.le_of_ble_eq_true rfl) dX7_leaveLost_38 ⟨Nat.le_of_ble_eq_true rfl, Nat.le_of_ble_eq_true rfl⟩ (fun r_7 u_6 H locs hu_6 hP hD hS => ?_)
      have hP : va_P D vwCl [(ma 0, oE 7 [.ref (ma 1), .ref (ma 2), .int (nI u_6.2.1), .ref (ma 3), .ref (ma 4), .int (fi 1), .int (fi 2), .int (fi 3), .long (wd), .int (fi 4), .int (fi 5)]), (ma 1, iE cI 382 (enc u_6.1 (lf + 1))), (ma 2, iE cI 2292 (u_6.2.2.2.2))] H := hP
      have hD : va_D A [(ma 0, oE 7 [.ref (ma 1), .ref (ma 2), .int (nI u_6.2.1), .ref (ma 3), .ref (ma 4), .int (fi 1), .int (fi 2), .int (fi 3), .long (wd), .int (fi 4), .int (fi 5)]), (ma 1, iE cI 382 (enc u_6.1 (lf + 1))), (ma 2, iE cI 2292 (u_6.2.2.2.2))] := hD
      have hu_6 : r_7 = aLost g tn k ∧ LetOut (w2 g 2 (upd (g 2) 3 (g 2 3 + (aLost g tn k)))) q k u_6.1 ∧ Sv np hs lfs g lf u_6.2.1 u_6.2.2.1 u_6.2.2.2.1 ∧ PRel u_6.2.2.2.2 u_6.2.1 u_6.2.2.1 u_6.2.2.2.1 := hu_6
      rw [show r_7 = aLost g tn k from hu_6.1]
      exact wr_iret (v := aLost g tn k) ((u_6.1, lf + 1, u_6.2.1, u_6.2.2.1, u_6.2.2.2.1, u_6.2.2.2.2)) hx hb hr hlocks hS hP hD [0, 1, 2] rfl rfl (by decide) dX7_leaveLost_41 (⟨some u_6.1, Or.inl ⟨h_2, Or.inl ⟨k, hk, hPk, hNk, rfl, u_6.1, hu_6.2.1, rfl⟩⟩, Or.inr ⟨_, rfl, rfl, rfl, hu_6.2.2.1, hu_6.2.2.2⟩⟩)
    · -- c_4: not r_3 ≠ -9
      refine lv_bipush (v := -2) hx hb dX7_leaveLost_25 (by decide) ?_
      refine lv_goto (tgt := 41) hx hb dX7_leaveLost_27 (by decide) ?_
      exact wr_iret (v := -2) ((g, lf, np, hs, lfs, Pp)) hx hb hr hlocks hS hP hD [0, 1, 2] rfl rfl (by decide) dX7_leaveLost_41 (⟨none, Or.inl ⟨h_2, Or.inr ⟨Fst.no9 (by omega) hr_3 c_4, ⟨rfl, rfl⟩⟩⟩, Or.inl ⟨rfl, rfl⟩⟩)
  · -- X7_in f
    refine if_ne_f (tgt := 13) hx hb rfl dX7_leaveLost_8 (by decide) ?_
    refine lv_iconst (v := -1) hx hb dX7_leaveLost_11 (by decide) ?_
    exact wr_iret (v := -1) ((g, lf, np, hs, lfs, Pp)) hx hb hr hlocks hS hP hD [0, 1, 2] rfl rfl (by decide) dX7_leaveLost_12 (⟨none, Or.inr ⟨fun q => h_2 q, rfl, rfl⟩, Or.inl ⟨rfl, rfl⟩⟩)
set_option maxHeartbeats 4000000 in
set_option maxRecDepth 100000 in
theorem c_X7_pass (l : Launch) (D : va_G) (cI cC cB cS : ClassId) (zz : Nat) (ma : Nat → Nat) (fi : Nat → Int32) (wd : Int64) (g : Nat → Nat → Int32) (lf : Int32) (np : Nat) (Pp : Nat → Int32) (hs : Nat → Nat → Nat → Int32) (lfs : Nat → Int32) (q : Nat) (x : Int32) (hnp : np ≤ 6) (hPR : PRel Pp np hs lfs) (hq : g 12 0 = nI q) (hqc : q ≤ 16) : Met l yX7_pass wsX7_pass ({ frames := 1, cells := 0, slots := 0, locals := 22 } : Room) (wrPc D (TYS cI cC cB cS) [.ref (ma 0), .int (x)] ([(ma 0, oE 7 [.ref (ma 1), .ref (ma 2), .int (nI np), .ref (ma 3), .ref (ma 4), .int (fi 1), .int (fi 2), .int (fi 3), .long (wd), .int (fi 4), .int (fi 5)]), (ma 1, iE cI 382 (enc g lf)), (ma 2, iE cI 2292 (Pp))]) zz) (va_Qi (fun (r : Int32) (u : MWT) => ∃ o2, Opass g q x r o2 ∧ SvM g lf (lf) np hs lfs Pp o2 u) (wrB D (va_A ([(ma 0, oE 7 [.ref (ma 1), .ref (ma 2), .int (nI np), .ref (ma 3), .ref (ma 4), .int (fi 1), .int (fi 2), .int (fi 3), .long (wd), .int (fi 4), .int (fi 5)]), (ma 1, iE cI 382 (enc g lf)), (ma 2, iE cI 2292 (Pp))]) zz) (fun u => [(ma 0, oE 7 [.ref (ma 1), .ref (ma 2), .int (nI u.2.2.1), .ref (ma 3), .ref (ma 4), .int (fi 1), .int (fi 2), .int (fi 3), .long (wd), .int (fi 4), .int (fi 5)]), (ma 1, iE cI 382 (enc u.1 u.2.1)), (ma 2, iE cI 2292 (u.2.2.2.2.2))])) (va_A ([(ma 0, oE 7 [.ref (ma 1), .ref (ma 2), .int (nI np), .ref (ma 3), .ref (ma 4), .int (fi 1), .int (fi 2), .int (fi 3), .long (wd), .int (fi 4), .int (fi 5)]), (ma 1, iE cI 382 (enc g lf)), (ma 2, iE cI 2292 (Pp))]) zz)) 0 0 (va_A ([(ma 0, oE 7 [.ref (ma 1), .ref (ma 2), .int (nI np), .ref (ma 3), .ref (ma 4), .int (fi 1), .int (fi 2), .int (fi 3), .long (wd), .int (fi 4), .int (fi 5)]), (ma 1, iE cI 382 (enc g lf)), (ma 2, iE cI 2292 (Pp))]) zz) := by
  refine wr_intro (Qc := fun A B => va_Qi (fun (r : Int32) (u : MWT) => ∃ o2, Opass g q x r o2 ∧ SvM g lf (lf) np hs lfs Pp o2 u) B A) (by decide) rfl (Nat.le_of_ble_eq_true rfl) ?_
  intro p e s m below meth c A hx hb hr hml hts hown hlocks hin hP hK hD hA hS ls hl
  have hP : va_P D vwCl [(ma 0, oE 7 [.ref (ma 1), .ref (ma 2), .int (nI np), .ref (ma 3), .ref (ma 4), .int (fi 1), .int (fi 2), .int (fi 3), .long (wd), .int (fi 4), .int (fi 5)]), (ma 1, iE cI 382 (enc g lf)), (ma 2, iE cI 2292 (Pp))] s.heap := hP
  have hD : va_D A [(ma 0, oE 7 [.ref (ma 1), .ref (ma 2), .int (nI np), .ref (ma 3), .ref (ma 4), .int (fi 1), .int (fi 2), .int (fi 3), .long (wd), .int (fi 4), .int (fi 5)]), (ma 1, iE cI 382 (enc g lf)), (ma 2, iE cI 2292 (Pp))] := hD
  have hown : s.vm.findClass RX7 = some m.cls := hown
  have hl : lv_has ls 4 [(0, .ref (ma 0)), (1, .int (x))] := hl
  refine lv_iload_n hx hb dX7_pass_0 rfl (lv_at hl 1 rfl) ?_
  refine lv_iconst (v := 1) hx hb dX7_pass_1 (by decide) ?_
  refine lv_sipush (v := 5000) hx hb dX7_pass_2 (by decide) ?_
  refine cs_i (As := [.int (x), .int (1), .int (5000)]) (rest := []) (tys := TYS cI cC cB cS) ⟨hx, hb, hml, hown, hts⟩ (c_X7_in l D cI cC cB cS (x) (1) (5000)) (va_cwS 3 hts gX7_pass_X7_in rfl rfl rfl (by decide +kernel) ⟨Nat.le_of_ble_eq_true rfl, Nat.le_of_ble_eq_true rfl⟩) hK hP [] rfl rfl rfl hl.1 (Nat.le_of_ble_eq_true rfl) dX7_pass_5 ⟨Nat.le_of_ble_eq_true rfl, Nat.le_of_ble_eq_true rfl⟩ (fun r_1 hr_1 => ?_)
  rcases (show Yes (1 ≤ x ∧ x ≤ 5000) r_1 from hr_1) with ⟨rfl, h_2⟩ | ⟨rfl, h_2⟩
  · -- X7_in t
    refine if_ne_t (tgt := 13) hx hb (by decide) dX7_pass_8 (by decide) ?_
    refine lv_aload_n hx hb dX7_pass_13 rfl (lv_at hl 0 rfl) ?_
    refine va_get (D := D) (ci := 7) (v := .ref (ma 1)) (C := RX7) (T := TX7) (N := 11) hx hb hts (by decide +kernel) hown hK.1 hP 0 rfl rfl 0 (by decide) (hts (.fieldLink RX7 7 "ParkingGarageModel" "s" "[I") (by decide +kernel)) (fun _ h9 => h9) rfl dX7_pass_14 ?_
    refine lv_iconst (v := 0) hx hb dX7_pass_17 (by decide) ?_
    refine iald_n (f := enc g lf) hx hb hK.1 hP 1 0 rfl rfl (0) (rfl) (by decide) (by omega) dX7_pass_18 ?_
    rw [show enc g lf (0) = g 0 0 from rfl]
    refine lv_iload_n hx hb dX7_pass_19 rfl (lv_at hl 1 rfl) ?_
    refine lv_iadd hx hb dX7_pass_20 ?_
    refine lv_sipush (v := 20000) hx hb dX7_pass_21 (by decide) ?_
    refine lv_icmp_le (tgt := 30) hx hb dX7_pass_24 (by decide) (fun c_3 => ?_) (fun c_3 => ?_)
    · -- c_3: (g 0 0) + (x) ≤ 20000
      refine lv_aload_n hx hb dX7_pass_30 rfl (lv_at hl 0 rfl) ?_
      refine cv_wv (As := []) (rest := []) (tys := TYS cI cC cB cS) (ci := 7) (wr := []) ⟨hx, hb, hml, hown, hts⟩ (c_X7_notes l D cI cC cB cS _ (ma) ((fun j => [nI np, fi 1, fi 2, fi 3, fi 4, fi 5].getD j 0)) (wd) (g) (lf) (np) (Pp) (hs) (lfs) (hnp) (hPR)) (cwV 0 hts gX7_pass_X7_notes rfl rfl rfl (by decide +kernel) ⟨Nat.le_of_ble_eq_true rfl, Nat.le_of_ble_eq_true rfl⟩) hK hP hD hS hA [0, 1, 2] [] rfl rfl (by decide) (by decide) (by decide) rfl rfl rfl rfl hl.1 (Nat.le_of_ble_eq_true rfl) dX7_pass_31 ⟨Nat.le_of_ble_eq_true rfl, Nat.le_of_ble_eq_true rfl⟩ (fun u_4 H locs hu_4 hP hD hS => ?_)
      have hP : va_P D vwCl [(ma 0, oE 7 [.ref (ma 1), .ref (ma 2), .int (nI u_4.1), .ref (ma 3), .ref (ma 4), .int (fi 1), .int (fi 2), .int (fi 3), .long (wd), .int (fi 4), .int (fi 5)]), (ma 1, iE cI 382 (enc g lf)), (ma 2, iE cI 2292 (u_4.2.2.2))] H := hP
      have hD : va_D A [(ma 0, oE 7 [.ref (ma 1), .ref (ma 2), .int (nI u_4.1), .ref (ma 3), .ref (ma 4), .int (fi 1), .int (fi 2), .int (fi 3), .long (wd), .int (fi 4), .int (fi 5)]), (ma 1, iE cI 382 (enc g lf)), (ma 2, iE cI 2292 (u_4.2.2.2))] := hD
      have hu_4 : Sv np hs lfs g lf u_4.1 u_4.2.1 u_4.2.2.1 ∧ PRel u_4.2.2.2 u_4.1 u_4.2.1 u_4.2.2.1 := hu_4
      refine lv_aload_n hx hb dX7_pass_34 rfl (lv_at hl 0 rfl) ?_
      refine va_get (D := D) (ci := 7) (v := .ref (ma 1)) (C := RX7) (T := TX7) (N := 11) hx hb hts (by decide +kernel) hown hK.1 hP 0 rfl rfl 0 (by decide) (hts (.fieldLink RX7 7 "ParkingGarageModel" "s" "[I") (by decide +kernel)) (fun _ h9 => h9) rfl dX7_pass_35 ?_
      refine lv_iconst (v := 0) hx hb dX7_pass_38 (by decide) ?_
      refine lv_dup2_11 hx hb dX7_pass_39 rfl rfl ?_
      refine iald_n (f := enc g lf) hx hb hK.1 hP 1 0 rfl rfl (0) (rfl) (by decide) (by omega) dX7_pass_40 ?_
      rw [show enc g lf (0) = g 0 0 from rfl]
      refine lv_iload_n hx hb dX7_pass_41 rfl (lv_at hl 1 rfl) ?_
      refine lv_iadd hx hb dX7_pass_42 ?_
      refine iast_n (f := enc g lf) hx hb hK.1 hP hD hS 1 0 rfl rfl (0) (rfl) (by decide) (by omega) dX7_pass_43 (fun H locs hP hD hS => ?_)
      rw [enc_up 0 0 (by omega) (rfl)] at hP hD
      have hP : va_P D vwCl [(ma 0, oE 7 [.ref (ma 1), .ref (ma 2), .int (nI u_4.1), .ref (ma 3), .ref (ma 4), .int (fi 1), .int (fi 2), .int (fi 3), .long (wd), .int (fi 4), .int (fi 5)]), (ma 1, iE cI 382 (enc (w2 g 0 (upd (g 0) 0 ((g 0 0) + (x)))) lf)), (ma 2, iE cI 2292 (u_4.2.2.2))] H := hP
      have hD : va_D A [(ma 0, oE 7 [.ref (ma 1), .ref (ma 2), .int (nI u_4.1), .ref (ma 3), .ref (ma 4), .int (fi 1), .int (fi 2), .int (fi 3), .long (wd), .int (fi 4), .int (fi 5)]), (ma 1, iE cI 382 (enc (w2 g 0 (upd (g 0) 0 ((g 0 0) + (x)))) lf)), (ma 2, iE cI 2292 (u_4.2.2.2))] := hD
      refine lv_iconst (v := 0) hx hb dX7_pass_44 (by decide) ?_
      refine lv_istore_n (lv' := [(2, .int (0)), (0, .ref (ma 0)), (1, .int (x))]) hx hb dX7_pass_45 rfl hl (by decide) rfl (fun ls hl => ?_)
      refine lv_iconst (v := 0) hx hb dX7_pass_46 (by decide) ?_
      refine lv_istore_n (lv' := [(3, .int (0)), (2, .int (0)), (0, .ref (ma 0)), (1, .int (x))]) hx hb dX7_pass_47 rfl hl (by decide) rfl (fun ls hl => ?_)
      have hloop : ∀ (d i : Nat) (z : Nat), i ≤ q → q - i < d → (Cnt (fun w => g 18 w = 0 ∧ g 16 w ≤ g 0 0 + x) i z) → ∀ (H : Heap) (locs : List Loc), va_P D vwCl [(ma 0, oE 7 [.ref (ma 1), .ref (ma 2), .int (nI u_4.1), .ref (ma 3), .ref (ma 4), .int (fi 1), .int (fi 2), .int (fi 3), .long (wd), .int (fi 4), .int (fi 5)]), (ma 1, iE cI 382 (enc (w2 (w2 g 0 (upd (g 0) 0 (g 0 0 + x))) 18 (exS (g 18) (g 16) (g 0 0 + x) i)) lf)), (ma 2, iE cI 2292 (u_4.2.2.2))] H → va_D A [(ma 0, oE 7 [.ref (ma 1), .ref (ma 2), .int (nI u_4.1), .ref (ma 3), .ref (ma 4), .int (fi 1), .int (fi 2), .int (fi 3), .long (wd), .int (fi 4), .int (fi 5)]), (ma 1, iE cI 382 (enc (w2 (w2 g 0 (upd (g 0) 0 (g 0 0 + x))) 18 (exS (g 18) (g 16) (g 0 0 + x) i)) lf)), (ma 2, iE cI 2292 (u_4.2.2.2))] → va_S A s.heap H locs → ∀ ls : Array Slot, lv_has ls 4 [(2, .int (nI z)), (3, .int (nI i)), (0, .ref (ma 0)), (1, .int (x))] → W p l e ({ frames := 1, cells := 0, slots := 0, locals := 22 } : Room) s m (([.ref (ma 0), .int (x)] : List Value).toArray) below meth c H locs 0 0 (MQ below (va_Qi (fun (r : Int32) (u : MWT) => ∃ o2, Opass g q x r o2 ∧ SvM g lf (lf) np hs lfs Pp o2 u) (wrB D A (fun u => [(ma 0, oE 7 [.ref (ma 1), .ref (ma 2), .int (nI u.2.2.1), .ref (ma 3), .ref (ma 4), .int (fi 1), .int (fi 2), .int (fi 3), .long (wd), .int (fi 4), .int (fi 5)]), (ma 1, iE cI 382 (enc u.1 u.2.1)), (ma 2, iE cI 2292 (u.2.2.2.2.2))])) A) (([.ref (ma 0), .int (x)] : List Value).toArray) s 0 0 A) (F0 m 48 ls []) := by
        intro d
        induction d with
        | zero => intro i _ _ h2; exact absurd h2 (Nat.not_lt_zero _)
        | succ d ih =>
          intro i z hi hd hc H locs hP hD hS ls hl
          refine lv_iload_n hx hb dX7_pass_48 rfl (lv_at hl 1 rfl) ?_
          refine lv_aload_n hx hb dX7_pass_49 rfl (lv_at hl 2 rfl) ?_
          refine va_get (D := D) (ci := 7) (v := .ref (ma 1)) (C := RX7) (T := TX7) (N := 11) hx hb hts (by decide +kernel) hown hK.1 hP 0 rfl rfl 0 (by decide) (hts (.fieldLink RX7 7 "ParkingGarageModel" "s" "[I") (by decide +kernel)) (fun _ h9 => h9) rfl dX7_pass_50 ?_
          refine lv_iconst (v := 2) hx hb dX7_pass_53 (by decide) ?_
          refine iald_n (f := enc (w2 (w2 g 0 (upd (g 0) 0 (g 0 0 + x))) 18 (exS (g 18) (g 16) (g 0 0 + x) i)) lf) hx hb hK.1 hP 1 0 rfl rfl (2) (rfl) (by decide) (by omega) dX7_pass_54 ?_
          rw [show enc (w2 (w2 g 0 (upd (g 0) 0 (g 0 0 + x))) 18 (exS (g 18) (g 16) (g 0 0 + x) i)) lf (2) = nI q from hq]
          refine lv_icmp_ge (tgt := 97) hx hb dX7_pass_55 (by decide) (fun c_5 => ?_) (fun c_5 => ?_)
          · -- c_5: nI i ≥ nI q
            have hge : i = q := nI_geD (n := q) rfl hi (by omega) c_5
            rw [hge] at hP hD hc
            have hP : va_P D vwCl [(ma 0, oE 7 [.ref (ma 1), .ref (ma 2), .int (nI u_4.1), .ref (ma 3), .ref (ma 4), .int (fi 1), .int (fi 2), .int (fi 3), .long (wd), .int (fi 4), .int (fi 5)]), (ma 1, iE cI 382 (enc (w2 (w2 g 0 (upd (g 0) 0 (g 0 0 + x))) 18 (exS (g 18) (g 16) (g 0 0 + x) q)) lf)), (ma 2, iE cI 2292 (u_4.2.2.2))] H := hP
            have hD : va_D A [(ma 0, oE 7 [.ref (ma 1), .ref (ma 2), .int (nI u_4.1), .ref (ma 3), .ref (ma 4), .int (fi 1), .int (fi 2), .int (fi 3), .long (wd), .int (fi 4), .int (fi 5)]), (ma 1, iE cI 382 (enc (w2 (w2 g 0 (upd (g 0) 0 (g 0 0 + x))) 18 (exS (g 18) (g 16) (g 0 0 + x) q)) lf)), (ma 2, iE cI 2292 (u_4.2.2.2))] := hD
            refine lv_iload_n hx hb dX7_pass_97 rfl (lv_at hl 0 rfl) ?_
            exact wr_iret (v := nI z) ((w2 (w2 g 0 (upd (g 0) 0 (g 0 0 + x))) 18 (exS (g 18) (g 16) (g 0 0 + x) q), lf, u_4.1, u_4.2.1, u_4.2.2.1, u_4.2.2.2)) hx hb hr hlocks hS hP hD [0, 1, 2] rfl rfl (by decide) dX7_pass_98 (⟨some (w2 (w2 g 0 (upd (g 0) 0 (g 0 0 + x))) 18 (exS (g 18) (g 16) (g 0 0 + x) q)), Or.inl ⟨h_2, Or.inr ⟨Int32.not_lt.mpr c_3, z, hc, rfl, rfl⟩⟩, Or.inr ⟨_, rfl, rfl, rfl, hu_4.1, hu_4.2⟩⟩)
          · -- c_5: not nI i ≥ nI q
            have hlt : i < q := nI_ltD (n := q) rfl hi (by omega) c_5
            refine lv_aload_n hx hb dX7_pass_58 rfl (lv_at hl 2 rfl) ?_
            refine lv_iload_n hx hb dX7_pass_59 rfl (lv_at hl 1 rfl) ?_
            refine lv_iconst (v := 5) hx hb dX7_pass_60 (by decide) ?_
            refine cv_i (As := [.int (nI i), .int (5)]) (rest := []) (tys := TYS cI cC cB cS) (ci := 7) ⟨hx, hb, hml, hown, hts⟩ (c_X7_about l D cI cC cB cS (ma) ((fun j => [nI u_4.1, fi 1, fi 2, fi 3, fi 4, fi 5].getD j 0)) (wd) ((w2 (w2 g 0 (upd (g 0) 0 (g 0 0 + x))) 18 (exS (g 18) (g 16) (g 0 0 + x) i))) (lf) (i) (5) (by omega) (by omega)) (cwV 2 hts gX7_pass_X7_about rfl rfl rfl (by decide +kernel) ⟨Nat.le_of_ble_eq_true rfl, Nat.le_of_ble_eq_true rfl⟩) hK hP [0, 1] rfl rfl rfl rfl rfl hl.1 (Nat.le_of_ble_eq_true rfl) dX7_pass_61 ⟨Nat.le_of_ble_eq_true rfl, Nat.le_of_ble_eq_true rfl⟩ (fun r_6 hr_6 => ?_)
            have hr_6 : r_6 = (exS (g 18) (g 16) (g 0 0 + x) i) i := hr_6
            subst hr_6
            refine lv_if_ne (tgt := 91) hx hb dX7_pass_64 (by decide) (fun c_7 => ?_) (fun c_7 => ?_)
            · -- c_7: (exS (g 18) (g 16) (g 0 0 + x) i) i ≠ 0
              rw [exS_at (Nat.le_refl i)] at c_7
              refine lv_iinc (v := nI (i + 1)) (lv' := [(3, .int (nI (i + 1))), (2, .int (nI z)), (0, .ref (ma 0)), (1, .int (x))]) hx hb dX7_pass_91 hl (k := 1) rfl (nI_1 _) (by decide) rfl (fun ls hl => ?_)
              refine lv_goto (tgt := 48) hx hb dX7_pass_94 (by decide) ?_
              rw [exS_no (fun q9 => c_7 q9.1)] at hP hD
              exact ih (i + 1) (z) (by omega) (by omega) (hc.n (fun q9 => c_7 q9.1)) _ _ hP hD hS ls (lv_sub hl [1, 0, 2, 3] rfl)
            · -- c_7: not (exS (g 18) (g 16) (g 0 0 + x) i) i ≠ 0
              rw [exS_at (Nat.le_refl i)] at c_7
              refine lv_aload_n hx hb dX7_pass_67 rfl (lv_at hl 2 rfl) ?_
              refine lv_iload_n hx hb dX7_pass_68 rfl (lv_at hl 1 rfl) ?_
              refine lv_iconst (v := 3) hx hb dX7_pass_69 (by decide) ?_
              refine cv_i (As := [.int (nI i), .int (3)]) (rest := []) (tys := TYS cI cC cB cS) (ci := 7) ⟨hx, hb, hml, hown, hts⟩ (c_X7_about l D cI cC cB cS (ma) ((fun j => [nI u_4.1, fi 1, fi 2, fi 3, fi 4, fi 5].getD j 0)) (wd) ((w2 (w2 g 0 (upd (g 0) 0 (g 0 0 + x))) 18 (exS (g 18) (g 16) (g 0 0 + x) i))) (lf) (i) (3) (by omega) (by omega)) (cwV 2 hts gX7_pass_X7_about rfl rfl rfl (by decide +kernel) ⟨Nat.le_of_ble_eq_true rfl, Nat.le_of_ble_eq_true rfl⟩) hK hP [0, 1] rfl rfl rfl rfl rfl hl.1 (Nat.le_of_ble_eq_true rfl) dX7_pass_70 ⟨Nat.le_of_ble_eq_true rfl, Nat.le_of_ble_eq_true rfl⟩ (fun r_8 hr_8 => ?_)
              have hr_8 : r_8 = g 16 i := hr_8
              subst hr_8
              refine lv_aload_n hx hb dX7_pass_73 rfl (lv_at hl 2 rfl) ?_
              refine va_get (D := D) (ci := 7) (v := .ref (ma 1)) (C := RX7) (T := TX7) (N := 11) hx hb hts (by decide +kernel) hown hK.1 hP 0 rfl rfl 0 (by decide) (hts (.fieldLink RX7 7 "ParkingGarageModel" "s" "[I") (by decide +kernel)) (fun _ h9 => h9) rfl dX7_pass_74 ?_
              refine lv_iconst (v := 0) hx hb dX7_pass_77 (by decide) ?_
              refine iald_n (f := enc (w2 (w2 g 0 (upd (g 0) 0 (g 0 0 + x))) 18 (exS (g 18) (g 16) (g 0 0 + x) i)) lf) hx hb hK.1 hP 1 0 rfl rfl (0) (rfl) (by decide) (by omega) dX7_pass_78 ?_
              rw [show enc (w2 (w2 g 0 (upd (g 0) 0 (g 0 0 + x))) 18 (exS (g 18) (g 16) (g 0 0 + x) i)) lf (0) = g 0 0 + x from rfl]
              refine lv_icmp_gt (tgt := 91) hx hb dX7_pass_79 (by decide) (fun c_9 => ?_) (fun c_9 => ?_)
              · -- c_9: g 16 i > g 0 0 + x
                refine lv_iinc (v := nI (i + 1)) (lv' := [(3, .int (nI (i + 1))), (2, .int (nI z)), (0, .ref (ma 0)), (1, .int (x))]) hx hb dX7_pass_91 hl (k := 1) rfl (nI_1 _) (by decide) rfl (fun ls hl => ?_)
                refine lv_goto (tgt := 48) hx hb dX7_pass_94 (by decide) ?_
                rw [exS_no (fun q9 => Int32.not_lt.mpr q9.2 c_9)] at hP hD
                exact ih (i + 1) (z) (by omega) (by omega) (hc.n (fun q9 => Int32.not_lt.mpr q9.2 c_9)) _ _ hP hD hS ls (lv_sub hl [1, 0, 2, 3] rfl)
              · -- c_9: not g 16 i > g 0 0 + x
                refine lv_aload_n hx hb dX7_pass_82 rfl (lv_at hl 2 rfl) ?_
                refine lv_iload_n hx hb dX7_pass_83 rfl (lv_at hl 1 rfl) ?_
                refine lv_iconst (v := 4) hx hb dX7_pass_84 (by decide) ?_
                refine cv_wv (As := [.int (nI i), .int (4)]) (rest := []) (tys := TYS cI cC cB cS) (ci := 7) (wr := [(ma 2, iE cI 2292 (u_4.2.2.2))]) ⟨hx, hb, hml, hown, hts⟩ (c_X7_marks l D cI cC cB cS _ (ma) ((fun j => [nI u_4.1, fi 1, fi 2, fi 3, fi 4, fi 5].getD j 0)) (wd) ((w2 (w2 g 0 (upd (g 0) 0 (g 0 0 + x))) 18 (exS (g 18) (g 16) (g 0 0 + x) i))) (lf) (i) (4) (by omega)) (cwV 2 hts gX7_pass_X7_marks rfl rfl rfl (by decide +kernel) ⟨Nat.le_of_ble_eq_true rfl, Nat.le_of_ble_eq_true rfl⟩) hK hP hD hS hA [0, 1] [2] rfl rfl (by decide) (by decide) (by decide) rfl rfl rfl rfl hl.1 (Nat.le_of_ble_eq_true rfl) dX7_pass_85 ⟨Nat.le_of_ble_eq_true rfl, Nat.le_of_ble_eq_true rfl⟩ (fun u_10 H locs hu_10 hP hD hS => ?_)
                have hP : va_P D vwCl [(ma 2, iE cI 2292 (u_4.2.2.2)), (ma 0, oE 7 [.ref (ma 1), .ref (ma 2), .int (nI u_4.1), .ref (ma 3), .ref (ma 4), .int (fi 1), .int (fi 2), .int (fi 3), .long (wd), .int (fi 4), .int (fi 5)]), (ma 1, iE cI 382 (enc (w2 (w2 (w2 g 0 (upd (g 0) 0 (g 0 0 + x))) 18 (exS (g 18) (g 16) (g 0 0 + x) i)) 18 (upd (exS (g 18) (g 16) (g 0 0 + x) i) i (4))) lf))] H := hP
                have hD : va_D A [(ma 2, iE cI 2292 (u_4.2.2.2)), (ma 0, oE 7 [.ref (ma 1), .ref (ma 2), .int (nI u_4.1), .ref (ma 3), .ref (ma 4), .int (fi 1), .int (fi 2), .int (fi 3), .long (wd), .int (fi 4), .int (fi 5)]), (ma 1, iE cI 382 (enc (w2 (w2 (w2 g 0 (upd (g 0) 0 (g 0 0 + x))) 18 (exS (g 18) (g 16) (g 0 0 + x) i)) 18 (upd (exS (g 18) (g 16) (g 0 0 + x) i) i (4))) lf))] := hD
                have hu_10 : True := hu_10
                refine lv_iinc (v := nI (z + 1)) (lv' := [(2, .int (nI (z + 1))), (3, .int (nI i)), (0, .ref (ma 0)), (1, .int (x))]) hx hb dX7_pass_88 hl (k := 0) rfl (nI_1 _) (by decide) rfl (fun ls hl => ?_)
                refine lv_iinc (v := nI (i + 1)) (lv' := [(3, .int (nI (i + 1))), (2, .int (nI (z + 1))), (0, .ref (ma 0)), (1, .int (x))]) hx hb dX7_pass_91 hl (k := 1) rfl (nI_1 _) (by decide) rfl (fun ls hl => ?_)
                refine lv_goto (tgt := 48) hx hb dX7_pass_94 (by decide) ?_
                rw [w2_w2, exS_yes ⟨c_7, Int32.not_lt.mp c_9⟩] at hP hD
                have hP : va_P D vwCl [(ma 0, oE 7 [.ref (ma 1), .ref (ma 2), .int (nI u_4.1), .ref (ma 3), .ref (ma 4), .int (fi 1), .int (fi 2), .int (fi 3), .long (wd), .int (fi 4), .int (fi 5)]), (ma 1, iE cI 382 (enc (w2 (w2 g 0 (upd (g 0) 0 (g 0 0 + x))) 18 (exS (g 18) (g 16) (g 0 0 + x) (i + 1))) lf)), (ma 2, iE cI 2292 (u_4.2.2.2))] H := hP.sub [1, 2, 0] rfl
                have hD : va_D A [(ma 0, oE 7 [.ref (ma 1), .ref (ma 2), .int (nI u_4.1), .ref (ma 3), .ref (ma 4), .int (fi 1), .int (fi 2), .int (fi 3), .long (wd), .int (fi 4), .int (fi 5)]), (ma 1, iE cI 382 (enc (w2 (w2 g 0 (upd (g 0) 0 (g 0 0 + x))) 18 (exS (g 18) (g 16) (g 0 0 + x) (i + 1))) lf)), (ma 2, iE cI 2292 (u_4.2.2.2))] := hD.sub [1, 2, 0] (by decide) rfl
                exact ih (i + 1) ((z + 1)) (by omega) (by omega) (hc.y ⟨c_7, Int32.not_lt.mp c_9⟩) _ _ hP hD hS ls (lv_sub hl [1, 0, 2, 3] rfl)
      rw [show w2 g 0 (upd (g 0) 0 (g 0 0 + x)) = w2 (w2 g 0 (upd (g 0) 0 (g 0 0 + x))) 18 (exS (g 18) (g 16) (g 0 0 + x) 0) from by rw [exS_0]; exact (w2_self (r := 18)).symm] at hP hD
      exact hloop (q + 1) (0) (0) (by omega) (by omega) (rfl) _ _ hP hD hS ls (lv_sub hl [1, 0, 2, 3] rfl)
    · -- c_3: not (g 0 0) + (x) ≤ 20000
      refine lv_bipush (v := -3) hx hb dX7_pass_27 (by decide) ?_
      exact wr_iret (v := -3) ((g, lf, np, hs, lfs, Pp)) hx hb hr hlocks hS hP hD [0, 1, 2] rfl rfl (by decide) dX7_pass_29 (⟨none, Or.inl ⟨h_2, Or.inl ⟨Int32.not_le.mp c_3, ⟨rfl, rfl⟩⟩⟩, Or.inl ⟨rfl, rfl⟩⟩)
  · -- X7_in f
    refine if_ne_f (tgt := 13) hx hb rfl dX7_pass_8 (by decide) ?_
    refine lv_iconst (v := -1) hx hb dX7_pass_11 (by decide) ?_
    exact wr_iret (v := -1) ((g, lf, np, hs, lfs, Pp)) hx hb hr hlocks hS hP hD [0, 1, 2] rfl rfl (by decide) dX7_pass_12 (⟨none, Or.inr ⟨fun q => h_2 q, rfl, rfl⟩, Or.inl ⟨rfl, rfl⟩⟩)
set_option maxHeartbeats 4000000 in
set_option maxRecDepth 100000 in
theorem c_X7_init (l : Launch) (D : va_G) (cI cC cB cS : ClassId) (zz : Nat) (o : Nat) : Met l yX7_init wsX7_init ({ frames := 3, cells := 4, slots := 3176, locals := 75 } : Room) (wrPc D (TYS cI cC cB cS) [.ref (o)] ([(o, oE 7 [.null, .null, .int (0), .null, .null, .int (0), .int (0), .int (0), .long (0), .int (0), .int (0)])]) zz) (va_Qv (fun u : Nat → Nat => True) (wrB D (va_A ([(o, oE 7 [.null, .null, .int (0), .null, .null, .int (0), .int (0), .int (0), .long (0), .int (0), .int (0)])]) zz) (fun u => [(o, oE 7 [.ref (u 1), .ref (u 2), .int 0, .ref (u 3), .ref (u 4), .int 0, .int 0, .int 0, .long 0, .int 0, .int 0]), (u 1, iE cI 382 (enc gS0 0)), (u 2, iE cI 2292 (fun _ => 0)), (u 3, iE cI 382 (fun _ => 0)), (u 4, iE cB 120 (fun _ => 0))])) (va_A ([(o, oE 7 [.null, .null, .int (0), .null, .null, .int (0), .int (0), .int (0), .long (0), .int (0), .int (0)])]) zz)) 4 3176 (va_A ([(o, oE 7 [.null, .null, .int (0), .null, .null, .int (0), .int (0), .int (0), .long (0), .int (0), .int (0)])]) zz) := by
  refine wr_intro (Qc := fun A B => va_Qv (fun u : Nat → Nat => True) B A) (by decide) rfl (Nat.le_of_ble_eq_true rfl) ?_
  intro p e s m below meth c A hx hb hr hml hts hown hlocks hin hP hK hD hA hS ls hl
  have hP : va_P D vwCl [(o, oE 7 [.null, .null, .int (0), .null, .null, .int (0), .int (0), .int (0), .long (0), .int (0), .int (0)])] s.heap := hP
  have hD : va_D A [(o, oE 7 [.null, .null, .int (0), .null, .null, .int (0), .int (0), .int (0), .long (0), .int (0), .int (0)])] := hD
  have hown : s.vm.findClass RX7 = some m.cls := hown
  have hl : lv_has ls 1 [(0, .ref (o))] := hl
  refine lv_aload_n hx hb dX7_init_0 rfl (lv_at hl 0 rfl) ?_
  refine W.objInit hx hb hown (hts (.methodLink RX7 1 objectInit) (by decide +kernel)) (hts (.instanceMethod objectInit) (by decide +kernel)) (hts (.code objectInit ⟨#[0xb1]⟩ 1 none) (by decide +kernel)) rfl (by rw [hml]; exact hl.1) rfl dX7_init_1 (Nat.le_of_ble_eq_true rfl) (Nat.le_of_ble_eq_true rfl) ?_
  refine W.eq (g2 := F0 m 4 ls []) rfl ?_
  refine lv_aload_n hx hb dX7_init_4 rfl (lv_at hl 0 rfl) ?_
  refine lv_sipush (v := 382) hx hb dX7_init_5 (by decide) ?_
  refine newa_i hx hb (hts (.arrayClass .int) (by decide +kernel)) hK hP hD hS hA 382 (by decide) rfl (Nat.le_of_ble_eq_true rfl) (Nat.le_of_ble_eq_true rfl) (Nat.le_of_ble_eq_true rfl) dX7_init_8 (fun q_1 H hP hD hS => ?_)
  have hP : va_P D vwCl [(o, oE 7 [.null, .null, .int (0), .null, .null, .int (0), .int (0), .int (0), .long (0), .int (0), .int (0)]), (q_1, iE cI 382 (fun _ => 0))] H := hP
  have hD : va_D A [(o, oE 7 [.null, .null, .int (0), .null, .null, .int (0), .int (0), .int (0), .long (0), .int (0), .int (0)]), (q_1, iE cI 382 (fun _ => 0))] := hD
  refine va_putF (D := D) (ci := 7) (v := .ref (q_1)) (ty := (.array .int)) (C := RX7) (T := TX7) (N := 11) hx hb hts (by decide +kernel) tyX7 tyX7_ok nmX7 hown hK.1 hP hD hS 0 rfl rfl 0 (by decide) (hts (.fieldLink RX7 7 "ParkingGarageModel" "s" "[I") (by decide +kernel)) (fun _ h9 => h9) rfl (hin rfl) rfl (by decide +kernel) rfl rfl (Nat.le_of_ble_eq_true rfl) dX7_init_10 (fun H locs hP hD hS => ?_)
  have hP : va_P D vwCl [(o, oE 7 [.ref (q_1), .null, .int (0), .null, .null, .int (0), .int (0), .int (0), .long (0), .int (0), .int (0)]), (q_1, iE cI 382 (fun _ => 0))] H := hP
  have hD : va_D A [(o, oE 7 [.ref (q_1), .null, .int (0), .null, .null, .int (0), .int (0), .int (0), .long (0), .int (0), .int (0)]), (q_1, iE cI 382 (fun _ => 0))] := hD
  refine lv_aload_n hx hb dX7_init_13 rfl (lv_at hl 0 rfl) ?_
  refine lv_sipush (v := 2292) hx hb dX7_init_14 (by decide) ?_
  refine newa_i hx hb (hts (.arrayClass .int) (by decide +kernel)) hK hP hD hS hA 2292 (by decide) rfl (Nat.le_of_ble_eq_true rfl) (Nat.le_of_ble_eq_true rfl) (Nat.le_of_ble_eq_true rfl) dX7_init_17 (fun q_2 H hP hD hS => ?_)
  have hP : va_P D vwCl [(o, oE 7 [.ref (q_1), .null, .int (0), .null, .null, .int (0), .int (0), .int (0), .long (0), .int (0), .int (0)]), (q_1, iE cI 382 (fun _ => 0)), (q_2, iE cI 2292 (fun _ => 0))] H := hP
  have hD : va_D A [(o, oE 7 [.ref (q_1), .null, .int (0), .null, .null, .int (0), .int (0), .int (0), .long (0), .int (0), .int (0)]), (q_1, iE cI 382 (fun _ => 0)), (q_2, iE cI 2292 (fun _ => 0))] := hD
  refine va_putF (D := D) (ci := 7) (v := .ref (q_2)) (ty := (.array .int)) (C := RX7) (T := TX7) (N := 11) hx hb hts (by decide +kernel) tyX7 tyX7_ok nmX7 hown hK.1 hP hD hS 0 rfl rfl 1 (by decide) (hts (.fieldLink RX7 13 "ParkingGarageModel" "past" "[I") (by decide +kernel)) (fun _ h9 => h9) rfl (hin rfl) rfl (by decide +kernel) rfl rfl (Nat.le_of_ble_eq_true rfl) dX7_init_19 (fun H locs hP hD hS => ?_)
  have hP : va_P D vwCl [(o, oE 7 [.ref (q_1), .ref (q_2), .int (0), .null, .null, .int (0), .int (0), .int (0), .long (0), .int (0), .int (0)]), (q_1, iE cI 382 (fun _ => 0)), (q_2, iE cI 2292 (fun _ => 0))] H := hP
  have hD : va_D A [(o, oE 7 [.ref (q_1), .ref (q_2), .int (0), .null, .null, .int (0), .int (0), .int (0), .long (0), .int (0), .int (0)]), (q_1, iE cI 382 (fun _ => 0)), (q_2, iE cI 2292 (fun _ => 0))] := hD
  refine lv_aload_n hx hb dX7_init_22 rfl (lv_at hl 0 rfl) ?_
  refine lv_sipush (v := 382) hx hb dX7_init_23 (by decide) ?_
  refine newa_i hx hb (hts (.arrayClass .int) (by decide +kernel)) hK hP hD hS hA 382 (by decide) rfl (Nat.le_of_ble_eq_true rfl) (Nat.le_of_ble_eq_true rfl) (Nat.le_of_ble_eq_true rfl) dX7_init_26 (fun q_3 H hP hD hS => ?_)
  have hP : va_P D vwCl [(o, oE 7 [.ref (q_1), .ref (q_2), .int (0), .null, .null, .int (0), .int (0), .int (0), .long (0), .int (0), .int (0)]), (q_1, iE cI 382 (fun _ => 0)), (q_2, iE cI 2292 (fun _ => 0)), (q_3, iE cI 382 (fun _ => 0))] H := hP
  have hD : va_D A [(o, oE 7 [.ref (q_1), .ref (q_2), .int (0), .null, .null, .int (0), .int (0), .int (0), .long (0), .int (0), .int (0)]), (q_1, iE cI 382 (fun _ => 0)), (q_2, iE cI 2292 (fun _ => 0)), (q_3, iE cI 382 (fun _ => 0))] := hD
  refine va_putF (D := D) (ci := 7) (v := .ref (q_3)) (ty := (.array .int)) (C := RX7) (T := TX7) (N := 11) hx hb hts (by decide +kernel) tyX7 tyX7_ok nmX7 hown hK.1 hP hD hS 0 rfl rfl 3 (by decide) (hts (.fieldLink RX7 16 "ParkingGarageModel" "kept" "[I") (by decide +kernel)) (fun _ h9 => h9) rfl (hin rfl) rfl (by decide +kernel) rfl rfl (Nat.le_of_ble_eq_true rfl) dX7_init_28 (fun H locs hP hD hS => ?_)
  have hP : va_P D vwCl [(o, oE 7 [.ref (q_1), .ref (q_2), .int (0), .ref (q_3), .null, .int (0), .int (0), .int (0), .long (0), .int (0), .int (0)]), (q_1, iE cI 382 (fun _ => 0)), (q_2, iE cI 2292 (fun _ => 0)), (q_3, iE cI 382 (fun _ => 0))] H := hP
  have hD : va_D A [(o, oE 7 [.ref (q_1), .ref (q_2), .int (0), .ref (q_3), .null, .int (0), .int (0), .int (0), .long (0), .int (0), .int (0)]), (q_1, iE cI 382 (fun _ => 0)), (q_2, iE cI 2292 (fun _ => 0)), (q_3, iE cI 382 (fun _ => 0))] := hD
  refine lv_aload_n hx hb dX7_init_31 rfl (lv_at hl 0 rfl) ?_
  refine lv_bipush (v := 120) hx hb dX7_init_32 (by decide) ?_
  refine newa_b hx hb (hts (.arrayClass .byte) (by decide +kernel)) hK hP hD hS hA 120 (by decide) rfl (Nat.le_of_ble_eq_true rfl) (Nat.le_of_ble_eq_true rfl) (Nat.le_of_ble_eq_true rfl) dX7_init_34 (fun q_4 H hP hD hS => ?_)
  have hP : va_P D vwCl [(o, oE 7 [.ref (q_1), .ref (q_2), .int (0), .ref (q_3), .null, .int (0), .int (0), .int (0), .long (0), .int (0), .int (0)]), (q_1, iE cI 382 (fun _ => 0)), (q_2, iE cI 2292 (fun _ => 0)), (q_3, iE cI 382 (fun _ => 0)), (q_4, iE cB 120 (fun _ => 0))] H := hP
  have hD : va_D A [(o, oE 7 [.ref (q_1), .ref (q_2), .int (0), .ref (q_3), .null, .int (0), .int (0), .int (0), .long (0), .int (0), .int (0)]), (q_1, iE cI 382 (fun _ => 0)), (q_2, iE cI 2292 (fun _ => 0)), (q_3, iE cI 382 (fun _ => 0)), (q_4, iE cB 120 (fun _ => 0))] := hD
  refine va_putF (D := D) (ci := 7) (v := .ref (q_4)) (ty := (.array .byte)) (C := RX7) (T := TX7) (N := 11) hx hb hts (by decide +kernel) tyX7 tyX7_ok nmX7 hown hK.1 hP hD hS 0 rfl rfl 4 (by decide) (hts (.fieldLink RX7 19 "ParkingGarageModel" "text" "[B") (by decide +kernel)) (fun _ h9 => h9) rfl (hin rfl) rfl (by decide +kernel) rfl rfl (Nat.le_of_ble_eq_true rfl) dX7_init_36 (fun H locs hP hD hS => ?_)
  have hP : va_P D vwCl [(o, oE 7 [.ref (q_1), .ref (q_2), .int (0), .ref (q_3), .ref (q_4), .int (0), .int (0), .int (0), .long (0), .int (0), .int (0)]), (q_1, iE cI 382 (fun _ => 0)), (q_2, iE cI 2292 (fun _ => 0)), (q_3, iE cI 382 (fun _ => 0)), (q_4, iE cB 120 (fun _ => 0))] H := hP
  have hD : va_D A [(o, oE 7 [.ref (q_1), .ref (q_2), .int (0), .ref (q_3), .ref (q_4), .int (0), .int (0), .int (0), .long (0), .int (0), .int (0)]), (q_1, iE cI 382 (fun _ => 0)), (q_2, iE cI 2292 (fun _ => 0)), (q_3, iE cI 382 (fun _ => 0)), (q_4, iE cB 120 (fun _ => 0))] := hD
  obtain ⟨ma, hm0, hm1, hm2, hm3, hm4⟩ : ∃ ma : Nat → Nat, ma 0 = o ∧ ma 1 = q_1 ∧ ma 2 = q_2 ∧ ma 3 = q_3 ∧ ma 4 = q_4 := ⟨fun k => [o, q_1, q_2, q_3, q_4].getD k 0, rfl, rfl, rfl, rfl, rfl⟩
  subst hm0
  subst hm1
  subst hm2
  subst hm3
  subst hm4
  have hP : va_P D vwCl [(ma 0, oE 7 [.ref (ma 1), .ref (ma 2), .int (0), .ref (ma 3), .ref (ma 4), .int (0), .int (0), .int (0), .long (0), .int (0), .int (0)]), (ma 1, iE cI 382 (enc z2 0)), (ma 2, iE cI 2292 (fun _ => 0)), (ma 3, iE cI 382 (fun _ => 0)), (ma 4, iE cB 120 (fun _ => 0))] H := by rw [enc_zero]; exact hP
  have hD : va_D A [(ma 0, oE 7 [.ref (ma 1), .ref (ma 2), .int (0), .ref (ma 3), .ref (ma 4), .int (0), .int (0), .int (0), .long (0), .int (0), .int (0)]), (ma 1, iE cI 382 (enc z2 0)), (ma 2, iE cI 2292 (fun _ => 0)), (ma 3, iE cI 382 (fun _ => 0)), (ma 4, iE cB 120 (fun _ => 0))] := by rw [enc_zero]; exact hD
  have hl : lv_has ls 1 [(0, .ref (ma 0))] := hl
  refine lv_aload_n hx hb dX7_init_39 rfl (lv_at hl 0 rfl) ?_
  refine va_get (D := D) (ci := 7) (v := .ref (ma 1)) (C := RX7) (T := TX7) (N := 11) hx hb hts (by decide +kernel) hown hK.1 hP 0 rfl rfl 0 (by decide) (hts (.fieldLink RX7 7 "ParkingGarageModel" "s" "[I") (by decide +kernel)) (fun _ h9 => h9) rfl dX7_init_40 ?_
  refine lv_iconst (v := 5) hx hb dX7_init_43 (by decide) ?_
  refine lv_bipush (v := 50) hx hb dX7_init_44 (by decide) ?_
  refine iast_n (f := enc z2 0) hx hb hK.1 hP hD hS 1 0 rfl rfl (5) (rfl) (by decide) (by omega) dX7_init_46 (fun H locs hP hD hS => ?_)
  rw [enc_up 1 0 (by omega) (rfl)] at hP hD
  have hP : va_P D vwCl [(ma 0, oE 7 [.ref (ma 1), .ref (ma 2), .int (0), .ref (ma 3), .ref (ma 4), .int (0), .int (0), .int (0), .long (0), .int (0), .int (0)]), (ma 1, iE cI 382 (enc (w2 z2 1 (upd (z2 1) 0 (50))) 0)), (ma 2, iE cI 2292 (fun _ => 0)), (ma 3, iE cI 382 (fun _ => 0)), (ma 4, iE cB 120 (fun _ => 0))] H := hP
  have hD : va_D A [(ma 0, oE 7 [.ref (ma 1), .ref (ma 2), .int (0), .ref (ma 3), .ref (ma 4), .int (0), .int (0), .int (0), .long (0), .int (0), .int (0)]), (ma 1, iE cI 382 (enc (w2 z2 1 (upd (z2 1) 0 (50))) 0)), (ma 2, iE cI 2292 (fun _ => 0)), (ma 3, iE cI 382 (fun _ => 0)), (ma 4, iE cB 120 (fun _ => 0))] := hD
  refine lv_aload_n hx hb dX7_init_47 rfl (lv_at hl 0 rfl) ?_
  refine va_get (D := D) (ci := 7) (v := .ref (ma 1)) (C := RX7) (T := TX7) (N := 11) hx hb hts (by decide +kernel) hown hK.1 hP 0 rfl rfl 0 (by decide) (hts (.fieldLink RX7 7 "ParkingGarageModel" "s" "[I") (by decide +kernel)) (fun _ h9 => h9) rfl dX7_init_48 ?_
  refine lv_bipush (v := 6) hx hb dX7_init_51 (by decide) ?_
  refine lv_bipush (v := 15) hx hb dX7_init_53 (by decide) ?_
  refine iast_n (f := enc (w2 z2 1 (upd (z2 1) 0 (50))) 0) hx hb hK.1 hP hD hS 1 0 rfl rfl (6) (rfl) (by decide) (by omega) dX7_init_55 (fun H locs hP hD hS => ?_)
  rw [enc_up 1 1 (by omega) (rfl)] at hP hD
  have hP : va_P D vwCl [(ma 0, oE 7 [.ref (ma 1), .ref (ma 2), .int (0), .ref (ma 3), .ref (ma 4), .int (0), .int (0), .int (0), .long (0), .int (0), .int (0)]), (ma 1, iE cI 382 (enc (w2 (w2 z2 1 (upd (z2 1) 0 (50))) 1 (upd (upd (z2 1) 0 (50)) 1 (15))) 0)), (ma 2, iE cI 2292 (fun _ => 0)), (ma 3, iE cI 382 (fun _ => 0)), (ma 4, iE cB 120 (fun _ => 0))] H := hP
  have hD : va_D A [(ma 0, oE 7 [.ref (ma 1), .ref (ma 2), .int (0), .ref (ma 3), .ref (ma 4), .int (0), .int (0), .int (0), .long (0), .int (0), .int (0)]), (ma 1, iE cI 382 (enc (w2 (w2 z2 1 (upd (z2 1) 0 (50))) 1 (upd (upd (z2 1) 0 (50)) 1 (15))) 0)), (ma 2, iE cI 2292 (fun _ => 0)), (ma 3, iE cI 382 (fun _ => 0)), (ma 4, iE cB 120 (fun _ => 0))] := hD
  refine lv_aload_n hx hb dX7_init_56 rfl (lv_at hl 0 rfl) ?_
  refine va_get (D := D) (ci := 7) (v := .ref (ma 1)) (C := RX7) (T := TX7) (N := 11) hx hb hts (by decide +kernel) hown hK.1 hP 0 rfl rfl 0 (by decide) (hts (.fieldLink RX7 7 "ParkingGarageModel" "s" "[I") (by decide +kernel)) (fun _ h9 => h9) rfl dX7_init_57 ?_
  refine lv_bipush (v := 7) hx hb dX7_init_60 (by decide) ?_
  refine lv_bipush (v := 10) hx hb dX7_init_62 (by decide) ?_
  refine iast_n (f := enc (w2 (w2 z2 1 (upd (z2 1) 0 (50))) 1 (upd (upd (z2 1) 0 (50)) 1 (15))) 0) hx hb hK.1 hP hD hS 1 0 rfl rfl (7) (rfl) (by decide) (by omega) dX7_init_64 (fun H locs hP hD hS => ?_)
  rw [enc_up 1 2 (by omega) (rfl)] at hP hD
  have hP : va_P D vwCl [(ma 0, oE 7 [.ref (ma 1), .ref (ma 2), .int (0), .ref (ma 3), .ref (ma 4), .int (0), .int (0), .int (0), .long (0), .int (0), .int (0)]), (ma 1, iE cI 382 (enc (w2 (w2 (w2 z2 1 (upd (z2 1) 0 (50))) 1 (upd (upd (z2 1) 0 (50)) 1 (15))) 1 (upd (upd (upd (z2 1) 0 (50)) 1 (15)) 2 (10))) 0)), (ma 2, iE cI 2292 (fun _ => 0)), (ma 3, iE cI 382 (fun _ => 0)), (ma 4, iE cB 120 (fun _ => 0))] H := hP
  have hD : va_D A [(ma 0, oE 7 [.ref (ma 1), .ref (ma 2), .int (0), .ref (ma 3), .ref (ma 4), .int (0), .int (0), .int (0), .long (0), .int (0), .int (0)]), (ma 1, iE cI 382 (enc (w2 (w2 (w2 z2 1 (upd (z2 1) 0 (50))) 1 (upd (upd (z2 1) 0 (50)) 1 (15))) 1 (upd (upd (upd (z2 1) 0 (50)) 1 (15)) 2 (10))) 0)), (ma 2, iE cI 2292 (fun _ => 0)), (ma 3, iE cI 382 (fun _ => 0)), (ma 4, iE cB 120 (fun _ => 0))] := hD
  refine lv_aload_n hx hb dX7_init_65 rfl (lv_at hl 0 rfl) ?_
  refine va_get (D := D) (ci := 7) (v := .ref (ma 1)) (C := RX7) (T := TX7) (N := 11) hx hb hts (by decide +kernel) hown hK.1 hP 0 rfl rfl 0 (by decide) (hts (.fieldLink RX7 7 "ParkingGarageModel" "s" "[I") (by decide +kernel)) (fun _ h9 => h9) rfl dX7_init_66 ?_
  refine lv_bipush (v := 8) hx hb dX7_init_69 (by decide) ?_
  refine lv_sipush (v := 2000) hx hb dX7_init_71 (by decide) ?_
  refine iast_n (f := enc (w2 (w2 (w2 z2 1 (upd (z2 1) 0 (50))) 1 (upd (upd (z2 1) 0 (50)) 1 (15))) 1 (upd (upd (upd (z2 1) 0 (50)) 1 (15)) 2 (10))) 0) hx hb hK.1 hP hD hS 1 0 rfl rfl (8) (rfl) (by decide) (by omega) dX7_init_74 (fun H locs hP hD hS => ?_)
  rw [enc_up 1 3 (by omega) (rfl)] at hP hD
  have hP : va_P D vwCl [(ma 0, oE 7 [.ref (ma 1), .ref (ma 2), .int (0), .ref (ma 3), .ref (ma 4), .int (0), .int (0), .int (0), .long (0), .int (0), .int (0)]), (ma 1, iE cI 382 (enc (w2 (w2 (w2 (w2 z2 1 (upd (z2 1) 0 (50))) 1 (upd (upd (z2 1) 0 (50)) 1 (15))) 1 (upd (upd (upd (z2 1) 0 (50)) 1 (15)) 2 (10))) 1 (upd (upd (upd (upd (z2 1) 0 (50)) 1 (15)) 2 (10)) 3 (2000))) 0)), (ma 2, iE cI 2292 (fun _ => 0)), (ma 3, iE cI 382 (fun _ => 0)), (ma 4, iE cB 120 (fun _ => 0))] H := hP
  have hD : va_D A [(ma 0, oE 7 [.ref (ma 1), .ref (ma 2), .int (0), .ref (ma 3), .ref (ma 4), .int (0), .int (0), .int (0), .long (0), .int (0), .int (0)]), (ma 1, iE cI 382 (enc (w2 (w2 (w2 (w2 z2 1 (upd (z2 1) 0 (50))) 1 (upd (upd (z2 1) 0 (50)) 1 (15))) 1 (upd (upd (upd (z2 1) 0 (50)) 1 (15)) 2 (10))) 1 (upd (upd (upd (upd (z2 1) 0 (50)) 1 (15)) 2 (10)) 3 (2000))) 0)), (ma 2, iE cI 2292 (fun _ => 0)), (ma 3, iE cI 382 (fun _ => 0)), (ma 4, iE cB 120 (fun _ => 0))] := hD
  refine lv_aload_n hx hb dX7_init_75 rfl (lv_at hl 0 rfl) ?_
  refine va_get (D := D) (ci := 7) (v := .ref (ma 1)) (C := RX7) (T := TX7) (N := 11) hx hb hts (by decide +kernel) hown hK.1 hP 0 rfl rfl 0 (by decide) (hts (.fieldLink RX7 7 "ParkingGarageModel" "s" "[I") (by decide +kernel)) (fun _ h9 => h9) rfl dX7_init_76 ?_
  refine lv_bipush (v := 9) hx hb dX7_init_79 (by decide) ?_
  refine lv_sipush (v := 2500) hx hb dX7_init_81 (by decide) ?_
  refine iast_n (f := enc (w2 (w2 (w2 (w2 z2 1 (upd (z2 1) 0 (50))) 1 (upd (upd (z2 1) 0 (50)) 1 (15))) 1 (upd (upd (upd (z2 1) 0 (50)) 1 (15)) 2 (10))) 1 (upd (upd (upd (upd (z2 1) 0 (50)) 1 (15)) 2 (10)) 3 (2000))) 0) hx hb hK.1 hP hD hS 1 0 rfl rfl (9) (rfl) (by decide) (by omega) dX7_init_84 (fun H locs hP hD hS => ?_)
  rw [enc_up 1 4 (by omega) (rfl)] at hP hD
  have hP : va_P D vwCl [(ma 0, oE 7 [.ref (ma 1), .ref (ma 2), .int (0), .ref (ma 3), .ref (ma 4), .int (0), .int (0), .int (0), .long (0), .int (0), .int (0)]), (ma 1, iE cI 382 (enc (w2 (w2 (w2 (w2 (w2 z2 1 (upd (z2 1) 0 (50))) 1 (upd (upd (z2 1) 0 (50)) 1 (15))) 1 (upd (upd (upd (z2 1) 0 (50)) 1 (15)) 2 (10))) 1 (upd (upd (upd (upd (z2 1) 0 (50)) 1 (15)) 2 (10)) 3 (2000))) 1 (upd (upd (upd (upd (upd (z2 1) 0 (50)) 1 (15)) 2 (10)) 3 (2000)) 4 (2500))) 0)), (ma 2, iE cI 2292 (fun _ => 0)), (ma 3, iE cI 382 (fun _ => 0)), (ma 4, iE cB 120 (fun _ => 0))] H := hP
  have hD : va_D A [(ma 0, oE 7 [.ref (ma 1), .ref (ma 2), .int (0), .ref (ma 3), .ref (ma 4), .int (0), .int (0), .int (0), .long (0), .int (0), .int (0)]), (ma 1, iE cI 382 (enc (w2 (w2 (w2 (w2 (w2 z2 1 (upd (z2 1) 0 (50))) 1 (upd (upd (z2 1) 0 (50)) 1 (15))) 1 (upd (upd (upd (z2 1) 0 (50)) 1 (15)) 2 (10))) 1 (upd (upd (upd (upd (z2 1) 0 (50)) 1 (15)) 2 (10)) 3 (2000))) 1 (upd (upd (upd (upd (upd (z2 1) 0 (50)) 1 (15)) 2 (10)) 3 (2000)) 4 (2500))) 0)), (ma 2, iE cI 2292 (fun _ => 0)), (ma 3, iE cI 382 (fun _ => 0)), (ma 4, iE cB 120 (fun _ => 0))] := hD
  have heq8 : enc (w2 (w2 (w2 (w2 (w2 z2 1 (upd (z2 1) 0 (50))) 1 (upd (upd (z2 1) 0 (50)) 1 (15))) 1 (upd (upd (upd (z2 1) 0 (50)) 1 (15)) 2 (10))) 1 (upd (upd (upd (upd (z2 1) 0 (50)) 1 (15)) 2 (10)) 3 (2000))) 1 (upd (upd (upd (upd (upd (z2 1) 0 (50)) 1 (15)) 2 (10)) 3 (2000)) 4 (2500))) 0 = enc (w2 z2 1 nums0) 0 := congrArg (fun G => enc G 0) (by rw [w2_w2, w2_w2, w2_w2, w2_w2])
  rw [heq8] at hP hD
  have hP : va_P D vwCl [(ma 0, oE 7 [.ref (ma 1), .ref (ma 2), .int (0), .ref (ma 3), .ref (ma 4), .int (0), .int (0), .int (0), .long (0), .int (0), .int (0)]), (ma 1, iE cI 382 (enc (w2 z2 1 nums0) 0)), (ma 2, iE cI 2292 (fun _ => 0)), (ma 3, iE cI 382 (fun _ => 0)), (ma 4, iE cB 120 (fun _ => 0))] H := hP
  have hD : va_D A [(ma 0, oE 7 [.ref (ma 1), .ref (ma 2), .int (0), .ref (ma 3), .ref (ma 4), .int (0), .int (0), .int (0), .long (0), .int (0), .int (0)]), (ma 1, iE cI 382 (enc (w2 z2 1 nums0) 0)), (ma 2, iE cI 2292 (fun _ => 0)), (ma 3, iE cI 382 (fun _ => 0)), (ma 4, iE cB 120 (fun _ => 0))] := hD
  refine lv_aload_n hx hb dX7_init_85 rfl (lv_at hl 0 rfl) ?_
  refine lv_iconst (v := 0) hx hb dX7_init_86 (by decide) ?_
  refine lv_iconst (v := 0) hx hb dX7_init_87 (by decide) ?_
  refine lv_bipush (v := 60) hx hb dX7_init_88 (by decide) ?_
  refine lv_sipush (v := 200) hx hb dX7_init_90 (by decide) ?_
  refine cv_wv (As := [.int (0), .int (0), .int (60), .int (200)]) (rest := []) (tys := TYS cI cC cB cS) (ci := 7) (wr := [(ma 2, iE cI 2292 (fun _ => 0)), (ma 3, iE cI 382 (fun _ => 0)), (ma 4, iE cB 120 (fun _ => 0))]) ⟨hx, hb, hml, hown, hts⟩ (c_X7_puts l D cI cC cB cS _ (ma) ((fun j => [0, 0, 0, 0, 0, 0].getD j 0)) (0) ((w2 z2 1 nums0)) (0) (0) (0) (0) (60) (200) (by decide) (rfl) (by decide) (Or.inl (by decide))) (cwV 4 hts gX7_init_X7_puts rfl rfl rfl (by decide +kernel) ⟨Nat.le_of_ble_eq_true rfl, Nat.le_of_ble_eq_true rfl⟩) hK hP hD hS hA [0, 1] [2, 3, 4] rfl rfl (by decide) (by decide) (by decide) rfl rfl rfl rfl hl.1 (Nat.le_of_ble_eq_true rfl) dX7_init_93 ⟨Nat.le_of_ble_eq_true rfl, Nat.le_of_ble_eq_true rfl⟩ (fun u_5 H locs hu_5 hP hD hS => ?_)
  have hP : va_P D vwCl [(ma 2, iE cI 2292 (fun _ => 0)), (ma 3, iE cI 382 (fun _ => 0)), (ma 4, iE cB 120 (fun _ => 0)), (ma 0, oE 7 [.ref (ma 1), .ref (ma 2), .int (0), .ref (ma 3), .ref (ma 4), .int (0), .int (0), .int (0), .long (0), .int (0), .int (0)]), (ma 1, iE cI 382 (enc (wblk (w2 z2 1 nums0) 19 4 u_5) 0))] H := hP
  have hD : va_D A [(ma 2, iE cI 2292 (fun _ => 0)), (ma 3, iE cI 382 (fun _ => 0)), (ma 4, iE cB 120 (fun _ => 0)), (ma 0, oE 7 [.ref (ma 1), .ref (ma 2), .int (0), .ref (ma 3), .ref (ma 4), .int (0), .int (0), .int (0), .long (0), .int (0), .int (0)]), (ma 1, iE cI 382 (enc (wblk (w2 z2 1 nums0) 19 4 u_5) 0))] := hD
  have hu_5 : TPut (tV (w2 z2 1 nums0) 0) 0 (0) (60) (200) u_5 := hu_5
  have hv0 : TPut z2 0 0 60 200 u_5 := by have e := hu_5; rw [tV_i0] at e; exact e
  rw [tI_of (un := 60) (pr := 200) hv0] at hP hD
  have hP : va_P D vwCl [(ma 2, iE cI 2292 (fun _ => 0)), (ma 3, iE cI 382 (fun _ => 0)), (ma 4, iE cB 120 (fun _ => 0)), (ma 0, oE 7 [.ref (ma 1), .ref (ma 2), .int (0), .ref (ma 3), .ref (ma 4), .int (0), .int (0), .int (0), .long (0), .int (0), .int (0)]), (ma 1, iE cI 382 (enc (wblk (w2 z2 1 nums0) 19 4 (tI 60 200)) 0))] H := hP
  have hD : va_D A [(ma 2, iE cI 2292 (fun _ => 0)), (ma 3, iE cI 382 (fun _ => 0)), (ma 4, iE cB 120 (fun _ => 0)), (ma 0, oE 7 [.ref (ma 1), .ref (ma 2), .int (0), .ref (ma 3), .ref (ma 4), .int (0), .int (0), .int (0), .long (0), .int (0), .int (0)]), (ma 1, iE cI 382 (enc (wblk (w2 z2 1 nums0) 19 4 (tI 60 200)) 0))] := hD
  refine lv_aload_n hx hb dX7_init_96 rfl (lv_at hl 0 rfl) ?_
  refine lv_iconst (v := 1) hx hb dX7_init_97 (by decide) ?_
  refine lv_iconst (v := 0) hx hb dX7_init_98 (by decide) ?_
  refine lv_bipush (v := 15) hx hb dX7_init_99 (by decide) ?_
  refine lv_sipush (v := 300) hx hb dX7_init_101 (by decide) ?_
  refine cv_wv (As := [.int (1), .int (0), .int (15), .int (300)]) (rest := []) (tys := TYS cI cC cB cS) (ci := 7) (wr := [(ma 2, iE cI 2292 (fun _ => 0)), (ma 3, iE cI 382 (fun _ => 0)), (ma 4, iE cB 120 (fun _ => 0))]) ⟨hx, hb, hml, hown, hts⟩ (c_X7_puts l D cI cC cB cS _ (ma) ((fun j => [0, 0, 0, 0, 0, 0].getD j 0)) (0) ((wblk (w2 z2 1 nums0) 19 4 (tI 60 200))) (0) (1) (0) (0) (15) (300) (by decide) (rfl) (by decide) (Or.inl (by decide))) (cwV 4 hts gX7_init_X7_puts rfl rfl rfl (by decide +kernel) ⟨Nat.le_of_ble_eq_true rfl, Nat.le_of_ble_eq_true rfl⟩) hK hP hD hS hA [3, 4] [0, 1, 2] rfl rfl (by decide) (by decide) (by decide) rfl rfl rfl rfl hl.1 (Nat.le_of_ble_eq_true rfl) dX7_init_104 ⟨Nat.le_of_ble_eq_true rfl, Nat.le_of_ble_eq_true rfl⟩ (fun u_6 H locs hu_6 hP hD hS => ?_)
  have hP : va_P D vwCl [(ma 2, iE cI 2292 (fun _ => 0)), (ma 3, iE cI 382 (fun _ => 0)), (ma 4, iE cB 120 (fun _ => 0)), (ma 0, oE 7 [.ref (ma 1), .ref (ma 2), .int (0), .ref (ma 3), .ref (ma 4), .int (0), .int (0), .int (0), .long (0), .int (0), .int (0)]), (ma 1, iE cI 382 (enc (wblk (wblk (w2 z2 1 nums0) 19 4 (tI 60 200)) 23 4 u_6) 0))] H := hP
  have hD : va_D A [(ma 2, iE cI 2292 (fun _ => 0)), (ma 3, iE cI 382 (fun _ => 0)), (ma 4, iE cB 120 (fun _ => 0)), (ma 0, oE 7 [.ref (ma 1), .ref (ma 2), .int (0), .ref (ma 3), .ref (ma 4), .int (0), .int (0), .int (0), .long (0), .int (0), .int (0)]), (ma 1, iE cI 382 (enc (wblk (wblk (w2 z2 1 nums0) 19 4 (tI 60 200)) 23 4 u_6) 0))] := hD
  have hu_6 : TPut (tV (wblk (w2 z2 1 nums0) 19 4 (tI 60 200)) 1) 0 (0) (15) (300) u_6 := hu_6
  have hv1 : TPut z2 0 0 15 300 u_6 := by have e := hu_6; rw [tV_i1] at e; exact e
  rw [tI_of (un := 15) (pr := 300) hv1] at hP hD
  have hP : va_P D vwCl [(ma 2, iE cI 2292 (fun _ => 0)), (ma 3, iE cI 382 (fun _ => 0)), (ma 4, iE cB 120 (fun _ => 0)), (ma 0, oE 7 [.ref (ma 1), .ref (ma 2), .int (0), .ref (ma 3), .ref (ma 4), .int (0), .int (0), .int (0), .long (0), .int (0), .int (0)]), (ma 1, iE cI 382 (enc (wblk (wblk (w2 z2 1 nums0) 19 4 (tI 60 200)) 23 4 (tI 15 300)) 0))] H := hP
  have hD : va_D A [(ma 2, iE cI 2292 (fun _ => 0)), (ma 3, iE cI 382 (fun _ => 0)), (ma 4, iE cB 120 (fun _ => 0)), (ma 0, oE 7 [.ref (ma 1), .ref (ma 2), .int (0), .ref (ma 3), .ref (ma 4), .int (0), .int (0), .int (0), .long (0), .int (0), .int (0)]), (ma 1, iE cI 382 (enc (wblk (wblk (w2 z2 1 nums0) 19 4 (tI 60 200)) 23 4 (tI 15 300)) 0))] := hD
  rw [show enc (wblk (wblk (w2 z2 1 nums0) 19 4 (tI 60 200)) 23 4 (tI 15 300)) 0 = enc gS0 0 from rfl] at hP hD
  have hP : va_P D vwCl [(ma 2, iE cI 2292 (fun _ => 0)), (ma 3, iE cI 382 (fun _ => 0)), (ma 4, iE cB 120 (fun _ => 0)), (ma 0, oE 7 [.ref (ma 1), .ref (ma 2), .int (0), .ref (ma 3), .ref (ma 4), .int (0), .int (0), .int (0), .long (0), .int (0), .int (0)]), (ma 1, iE cI 382 (enc gS0 0))] H := hP
  have hD : va_D A [(ma 2, iE cI 2292 (fun _ => 0)), (ma 3, iE cI 382 (fun _ => 0)), (ma 4, iE cB 120 (fun _ => 0)), (ma 0, oE 7 [.ref (ma 1), .ref (ma 2), .int (0), .ref (ma 3), .ref (ma 4), .int (0), .int (0), .int (0), .long (0), .int (0), .int (0)]), (ma 1, iE cI 382 (enc gS0 0))] := hD
  exact wr_vret (ma) hx hb hr hlocks hS hP hD [3, 4, 0, 1, 2] rfl rfl (by decide) dX7_init_107 (trivial)
