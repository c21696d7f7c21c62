/-! ===== the reference: saved states (laid by wip/whole/gen) ===== -/
set_option maxHeartbeats 4000000 in
set_option maxRecDepth 100000 in
theorem c_X7_notes (l : Launch) (D : va_G) (cI cC cB cS : ClassId) (zz : Nat) (ma : Nat → Nat) (fi : Nat → Int32) (wd : Int64) (g : Nat → Nat → Int32) (lf : Int32) (np : Nat) (Pp : Nat → Int32) (hs : Nat → Nat → Nat → Int32) (lfs : Nat → Int32) (hnp : np ≤ 6) (hPR : PRel Pp np hs lfs) : Met l yX7_notes wsX7_notes ({ frames := 0, cells := 0, slots := 0, locals := 0 } : Room) (wrPc D (TYS cI cC cB cS) [.ref (ma 0)] ([(ma 0, oE 7 [.ref (ma 1), .ref (ma 2), .int (nI np), .ref (ma 3), .ref (ma 4), .int (fi 1), .int (fi 2), .int (fi 3), .long (wd), .int (fi 4), .int (fi 5)]), (ma 1, iE cI 382 (enc g lf)), (ma 2, iE cI 2292 (Pp))]) zz) (va_Qv (fun u : Nat × (Nat → Nat → Nat → Int32) × (Nat → Int32) × (Nat → Int32) => Sv np hs lfs g lf u.1 u.2.1 u.2.2.1 ∧ PRel u.2.2.2 u.1 u.2.1 u.2.2.1) (wrB D (va_A ([(ma 0, oE 7 [.ref (ma 1), .ref (ma 2), .int (nI np), .ref (ma 3), .ref (ma 4), .int (fi 1), .int (fi 2), .int (fi 3), .long (wd), .int (fi 4), .int (fi 5)]), (ma 1, iE cI 382 (enc g lf)), (ma 2, iE cI 2292 (Pp))]) zz) (fun u => [(ma 0, oE 7 [.ref (ma 1), .ref (ma 2), .int (nI u.1), .ref (ma 3), .ref (ma 4), .int (fi 1), .int (fi 2), .int (fi 3), .long (wd), .int (fi 4), .int (fi 5)]), (ma 1, iE cI 382 (enc g lf)), (ma 2, iE cI 2292 (u.2.2.2))])) (va_A ([(ma 0, oE 7 [.ref (ma 1), .ref (ma 2), .int (nI np), .ref (ma 3), .ref (ma 4), .int (fi 1), .int (fi 2), .int (fi 3), .long (wd), .int (fi 4), .int (fi 5)]), (ma 1, iE cI 382 (enc g lf)), (ma 2, iE cI 2292 (Pp))]) zz)) 0 0 (va_A ([(ma 0, oE 7 [.ref (ma 1), .ref (ma 2), .int (nI np), .ref (ma 3), .ref (ma 4), .int (fi 1), .int (fi 2), .int (fi 3), .long (wd), .int (fi 4), .int (fi 5)]), (ma 1, iE cI 382 (enc g lf)), (ma 2, iE cI 2292 (Pp))]) zz) := by
  refine wr_intro (Qc := fun A B => va_Qv (fun u : Nat × (Nat → Nat → Nat → Int32) × (Nat → Int32) × (Nat → Int32) => Sv np hs lfs g lf u.1 u.2.1 u.2.2.1 ∧ PRel u.2.2.2 u.1 u.2.1 u.2.2.1) B A) (by decide) rfl (Nat.le_of_ble_eq_true rfl) ?_
  intro p e s m below meth c A hx hb hr hml hts hown hlocks hin hP hK hD hA hS ls hl
  have hP : va_P D vwCl [(ma 0, oE 7 [.ref (ma 1), .ref (ma 2), .int (nI np), .ref (ma 3), .ref (ma 4), .int (fi 1), .int (fi 2), .int (fi 3), .long (wd), .int (fi 4), .int (fi 5)]), (ma 1, iE cI 382 (enc g lf)), (ma 2, iE cI 2292 (Pp))] s.heap := hP
  have hD : va_D A [(ma 0, oE 7 [.ref (ma 1), .ref (ma 2), .int (nI np), .ref (ma 3), .ref (ma 4), .int (fi 1), .int (fi 2), .int (fi 3), .long (wd), .int (fi 4), .int (fi 5)]), (ma 1, iE cI 382 (enc g lf)), (ma 2, iE cI 2292 (Pp))] := hD
  have hown : s.vm.findClass RX7 = some m.cls := hown
  have hl : lv_has ls 2 [(0, .ref (ma 0))] := hl
  refine lv_aload_n hx hb dX7_notes_0 rfl (lv_at hl 0 rfl) ?_
  refine va_get (D := D) (ci := 7) (v := .int (nI np)) (C := RX7) (T := TX7) (N := 11) hx hb hts (by decide +kernel) hown hK.1 hP 0 rfl rfl 2 (by decide) (hts (.fieldLink RX7 27 "ParkingGarageModel" "pasts" "I") (by decide +kernel)) (fun _ h9 => h9) rfl dX7_notes_1 ?_
  refine lv_bipush (v := 6) hx hb dX7_notes_4 (by decide) ?_
  refine lv_icmp_ne (tgt := 50) hx hb dX7_notes_6 (by decide) (fun c_1 => ?_) (fun c_1 => ?_)
  · -- c_1: nI np ≠ 6
    have hnl : np < 6 := Nat.lt_of_le_of_ne hnp (fun q => c_1 (by rw [q]; rfl))
    refine lv_iconst (v := 0) hx hb dX7_notes_50 (by decide) ?_
    refine lv_istore_n (lv' := [(1, .int (0)), (0, .ref (ma 0))]) hx hb dX7_notes_51 rfl hl (by decide) rfl (fun ls hl => ?_)
    have hloop : ∀ (d i : Nat), i ≤ 382 → 382 - i < d → ∀ (H : Heap) (locs : List Loc), va_P D vwCl [(ma 0, oE 7 [.ref (ma 1), .ref (ma 2), .int (nI np), .ref (ma 3), .ref (ma 4), .int (fi 1), .int (fi 2), .int (fi 3), .long (wd), .int (fi 4), .int (fi 5)]), (ma 1, iE cI 382 (enc g lf)), (ma 2, iE cI 2292 (inP Pp (enc g lf) (382 * np) i))] H → va_D A [(ma 0, oE 7 [.ref (ma 1), .ref (ma 2), .int (nI np), .ref (ma 3), .ref (ma 4), .int (fi 1), .int (fi 2), .int (fi 3), .long (wd), .int (fi 4), .int (fi 5)]), (ma 1, iE cI 382 (enc g lf)), (ma 2, iE cI 2292 (inP Pp (enc g lf) (382 * np) i))] → va_S A s.heap H locs → ∀ ls : Array Slot, lv_has ls 2 [(1, .int (nI i)), (0, .ref (ma 0))] → W p l e ({ frames := 0, cells := 0, slots := 0, locals := 0 } : Room) s m (([.ref (ma 0)] : List Value).toArray) below meth c H locs 0 0 (MQ below (va_Qv (fun u : Nat × (Nat → Nat → Nat → Int32) × (Nat → Int32) × (Nat → Int32) => Sv np hs lfs g lf u.1 u.2.1 u.2.2.1 ∧ PRel u.2.2.2 u.1 u.2.1 u.2.2.1) (wrB D A (fun u => [(ma 0, oE 7 [.ref (ma 1), .ref (ma 2), .int (nI u.1), .ref (ma 3), .ref (ma 4), .int (fi 1), .int (fi 2), .int (fi 3), .long (wd), .int (fi 4), .int (fi 5)]), (ma 1, iE cI 382 (enc g lf)), (ma 2, iE cI 2292 (u.2.2.2))])) A) (([.ref (ma 0)] : List Value).toArray) s 0 0 A) (F0 m 52 ls []) := by
      intro d
      induction d with
      | zero => intro i _ h2; exact absurd h2 (Nat.not_lt_zero _)
      | succ d ih =>
        intro i hi hd H locs hP hD hS ls hl
        refine lv_iload_n hx hb dX7_notes_52 rfl (lv_at hl 0 rfl) ?_
        refine lv_sipush (v := 382) hx hb dX7_notes_53 (by decide) ?_
        refine lv_icmp_ge (tgt := 86) hx hb dX7_notes_56 (by decide) (fun c_2 => ?_) (fun c_2 => ?_)
        · -- c_2: nI i ≥ 382
          have hge2 : i = 382 := nI_geD (n := 382) rfl hi (by omega) c_2
          rw [hge2] at hP hD
          have hP : va_P D vwCl [(ma 0, oE 7 [.ref (ma 1), .ref (ma 2), .int (nI np), .ref (ma 3), .ref (ma 4), .int (fi 1), .int (fi 2), .int (fi 3), .long (wd), .int (fi 4), .int (fi 5)]), (ma 1, iE cI 382 (enc g lf)), (ma 2, iE cI 2292 (inP Pp (enc g lf) (382 * np) 382))] H := hP
          have hD : va_D A [(ma 0, oE 7 [.ref (ma 1), .ref (ma 2), .int (nI np), .ref (ma 3), .ref (ma 4), .int (fi 1), .int (fi 2), .int (fi 3), .long (wd), .int (fi 4), .int (fi 5)]), (ma 1, iE cI 382 (enc g lf)), (ma 2, iE cI 2292 (inP Pp (enc g lf) (382 * np) 382))] := hD
          refine lv_aload_n hx hb dX7_notes_86 rfl (lv_at hl 1 rfl) ?_
          refine lv_dup hx hb dX7_notes_87 rfl ?_
          refine va_get (D := D) (ci := 7) (v := .int (nI np)) (C := RX7) (T := TX7) (N := 11) hx hb hts (by decide +kernel) hown hK.1 hP 0 rfl rfl 2 (by decide) (hts (.fieldLink RX7 27 "ParkingGarageModel" "pasts" "I") (by decide +kernel)) (fun _ h9 => h9) rfl dX7_notes_88 ?_
          refine lv_iconst (v := 1) hx hb dX7_notes_91 (by decide) ?_
          refine lv_iadd hx hb dX7_notes_92 ?_
          rw [show (((nI np) + (1)) : Int32) = nI (np + 1) from (nI_add np 1)]
          refine va_put (D := D) (ci := 7) (v := .int (nI (np + 1))) (ty := .int) (C := RX7) (T := TX7) (N := 11) hx hb hts (by decide +kernel) tyX7 tyX7_ok nmX7 hown hK.1 hP hD hS 0 rfl rfl 2 (by decide) (hts (.fieldLink RX7 27 "ParkingGarageModel" "pasts" "I") (by decide +kernel)) (fun _ h9 => h9) rfl (by decide +kernel) rfl rfl (Nat.le_of_ble_eq_true rfl) dX7_notes_93 (fun H locs hP hD hS => ?_)
          have hP : va_P D vwCl [(ma 0, oE 7 [.ref (ma 1), .ref (ma 2), .int (nI (np + 1)), .ref (ma 3), .ref (ma 4), .int (fi 1), .int (fi 2), .int (fi 3), .long (wd), .int (fi 4), .int (fi 5)]), (ma 1, iE cI 382 (enc g lf)), (ma 2, iE cI 2292 (inP Pp (enc g lf) (382 * np) 382))] H := hP
          have hD : va_D A [(ma 0, oE 7 [.ref (ma 1), .ref (ma 2), .int (nI (np + 1)), .ref (ma 3), .ref (ma 4), .int (fi 1), .int (fi 2), .int (fi 3), .long (wd), .int (fi 4), .int (fi 5)]), (ma 1, iE cI 382 (enc g lf)), (ma 2, iE cI 2292 (inP Pp (enc g lf) (382 * np) 382))] := hD
          exact wr_vret ((np + 1, upH hs np g, upd lfs np lf, inP Pp (enc g lf) (382 * np) 382)) hx hb hr hlocks hS hP hD [0, 1, 2] rfl rfl (by decide) dX7_notes_96 (⟨Or.inl ⟨hnl, rfl, rfl, rfl⟩, PRel.save hPR⟩)
        · -- c_2: not nI i ≥ 382
          have hlt : i < 382 := nI_ltD (n := 382) rfl hi (by omega) c_2
          refine lv_aload_n hx hb dX7_notes_59 rfl (lv_at hl 1 rfl) ?_
          refine va_get (D := D) (ci := 7) (v := .ref (ma 2)) (C := RX7) (T := TX7) (N := 11) hx hb hts (by decide +kernel) hown hK.1 hP 0 rfl rfl 1 (by decide) (hts (.fieldLink RX7 13 "ParkingGarageModel" "past" "[I") (by decide +kernel)) (fun _ h9 => h9) rfl dX7_notes_60 ?_
          refine lv_sipush (v := 382) hx hb dX7_notes_63 (by decide) ?_
          refine lv_aload_n hx hb dX7_notes_66 rfl (lv_at hl 1 rfl) ?_
          refine va_get (D := D) (ci := 7) (v := .int (nI np)) (C := RX7) (T := TX7) (N := 11) hx hb hts (by decide +kernel) hown hK.1 hP 0 rfl rfl 2 (by decide) (hts (.fieldLink RX7 27 "ParkingGarageModel" "pasts" "I") (by decide +kernel)) (fun _ h9 => h9) rfl dX7_notes_67 ?_
          refine lv_imul hx hb dX7_notes_70 ?_
          rw [show (((382) * (nI np)) : Int32) = nI (382 * np) from (nI_mul 382 np)]
          refine lv_iload_n hx hb dX7_notes_71 rfl (lv_at hl 0 rfl) ?_
          refine lv_iadd hx hb dX7_notes_72 ?_
          rw [show (((nI (382 * np)) + (nI i)) : Int32) = nI (382 * np + i) from (nI_add (382 * np) i)]
          refine lv_aload_n hx hb dX7_notes_73 rfl (lv_at hl 1 rfl) ?_
          refine va_get (D := D) (ci := 7) (v := .ref (ma 1)) (C := RX7) (T := TX7) (N := 11) hx hb hts (by decide +kernel) hown hK.1 hP 0 rfl rfl 0 (by decide) (hts (.fieldLink RX7 7 "ParkingGarageModel" "s" "[I") (by decide +kernel)) (fun _ h9 => h9) rfl dX7_notes_74 ?_
          refine lv_iload_n hx hb dX7_notes_77 rfl (lv_at hl 0 rfl) ?_
          refine iald_n (f := enc g lf) hx hb hK.1 hP 1 0 rfl rfl (i) (rfl) (by omega) (by omega) dX7_notes_78 ?_
          refine iast_n (f := inP Pp (enc g lf) (382 * np) i) hx hb hK.1 hP hD hS 2 0 rfl rfl (382 * np + i) (rfl) (by omega) (by omega) dX7_notes_79 (fun H locs hP hD hS => ?_)
          have hP : va_P D vwCl [(ma 0, oE 7 [.ref (ma 1), .ref (ma 2), .int (nI np), .ref (ma 3), .ref (ma 4), .int (fi 1), .int (fi 2), .int (fi 3), .long (wd), .int (fi 4), .int (fi 5)]), (ma 1, iE cI 382 (enc g lf)), (ma 2, iE cI 2292 (upd (inP Pp (enc g lf) (382 * np) i) (382 * np + i) ((enc g lf) (i))))] H := hP
          have hD : va_D A [(ma 0, oE 7 [.ref (ma 1), .ref (ma 2), .int (nI np), .ref (ma 3), .ref (ma 4), .int (fi 1), .int (fi 2), .int (fi 3), .long (wd), .int (fi 4), .int (fi 5)]), (ma 1, iE cI 382 (enc g lf)), (ma 2, iE cI 2292 (upd (inP Pp (enc g lf) (382 * np) i) (382 * np + i) ((enc g lf) (i))))] := hD
          refine lv_iinc (v := nI (i + 1)) (lv' := [(1, .int (nI (i + 1))), (0, .ref (ma 0))]) hx hb dX7_notes_80 hl (k := 0) rfl (nI_1 _) (by decide) rfl (fun ls hl => ?_)
          refine lv_goto (tgt := 52) hx hb dX7_notes_83 (by decide) ?_
          rw [inP_s] at hP hD
          exact ih (i + 1) (by omega) (by omega) _ _ hP hD hS ls (lv_sub hl [0, 1] rfl)
    rw [show Pp = inP Pp (enc g lf) (382 * np) 0 from inP_0] at hP hD
    exact hloop (382 + 1) (0) (by omega) (by omega) _ _ hP hD hS ls (lv_sub hl [0, 1] rfl)
  · -- c_1: not nI np ≠ 6
    have hnp6 : np = 6 := (nI_eq (b := 6) (by omega) (by omega)).mp c_1
    rw [show nI np = 6 from by rw [hnp6]; rfl] at hP hD
    refine lv_iconst (v := 0) hx hb dX7_notes_9 (by decide) ?_
    refine lv_istore_n (lv' := [(1, .int (0)), (0, .ref (ma 0))]) hx hb dX7_notes_10 rfl hl (by decide) rfl (fun ls hl => ?_)
    have hloop : ∀ (d i : Nat), i ≤ 1910 → 1910 - i < d → ∀ (H : Heap) (locs : List Loc), va_P D vwCl [(ma 0, oE 7 [.ref (ma 1), .ref (ma 2), .int (6), .ref (ma 3), .ref (ma 4), .int (fi 1), .int (fi 2), .int (fi 3), .long (wd), .int (fi 4), .int (fi 5)]), (ma 1, iE cI 382 (enc g lf)), (ma 2, iE cI 2292 (dnP Pp i))] H → va_D A [(ma 0, oE 7 [.ref (ma 1), .ref (ma 2), .int (6), .ref (ma 3), .ref (ma 4), .int (fi 1), .int (fi 2), .int (fi 3), .long (wd), .int (fi 4), .int (fi 5)]), (ma 1, iE cI 382 (enc g lf)), (ma 2, iE cI 2292 (dnP Pp i))] → va_S A s.heap H locs → ∀ ls : Array Slot, lv_has ls 2 [(1, .int (nI i)), (0, .ref (ma 0))] → W p l e ({ frames := 0, cells := 0, slots := 0, locals := 0 } : Room) s m (([.ref (ma 0)] : List Value).toArray) below meth c H locs 0 0 (MQ below (va_Qv (fun u : Nat × (Nat → Nat → Nat → Int32) × (Nat → Int32) × (Nat → Int32) => Sv np hs lfs g lf u.1 u.2.1 u.2.2.1 ∧ PRel u.2.2.2 u.1 u.2.1 u.2.2.1) (wrB D A (fun u => [(ma 0, oE 7 [.ref (ma 1), .ref (ma 2), .int (nI u.1), .ref (ma 3), .ref (ma 4), .int (fi 1), .int (fi 2), .int (fi 3), .long (wd), .int (fi 4), .int (fi 5)]), (ma 1, iE cI 382 (enc g lf)), (ma 2, iE cI 2292 (u.2.2.2))])) A) (([.ref (ma 0)] : List Value).toArray) s 0 0 A) (F0 m 11 ls []) := by
      intro d
      induction d with
      | zero => intro i _ h2; exact absurd h2 (Nat.not_lt_zero _)
      | succ d ih =>
        intro i hi hd H locs hP hD hS ls hl
        refine lv_iload_n hx hb dX7_notes_11 rfl (lv_at hl 0 rfl) ?_
        refine lv_sipush (v := 1910) hx hb dX7_notes_12 (by decide) ?_
        refine lv_icmp_ge (tgt := 40) hx hb dX7_notes_15 (by decide) (fun c_3 => ?_) (fun c_3 => ?_)
        · -- c_3: nI i ≥ 1910
          have hge1 : i = 1910 := nI_geD (n := 1910) rfl hi (by omega) c_3
          rw [hge1] at hP hD
          have hP : va_P D vwCl [(ma 0, oE 7 [.ref (ma 1), .ref (ma 2), .int (6), .ref (ma 3), .ref (ma 4), .int (fi 1), .int (fi 2), .int (fi 3), .long (wd), .int (fi 4), .int (fi 5)]), (ma 1, iE cI 382 (enc g lf)), (ma 2, iE cI 2292 (dnP Pp 1910))] H := hP
          have hD : va_D A [(ma 0, oE 7 [.ref (ma 1), .ref (ma 2), .int (6), .ref (ma 3), .ref (ma 4), .int (fi 1), .int (fi 2), .int (fi 3), .long (wd), .int (fi 4), .int (fi 5)]), (ma 1, iE cI 382 (enc g lf)), (ma 2, iE cI 2292 (dnP Pp 1910))] := hD
          refine lv_aload_n hx hb dX7_notes_40 rfl (lv_at hl 1 rfl) ?_
          refine lv_dup hx hb dX7_notes_41 rfl ?_
          refine va_get (D := D) (ci := 7) (v := .int (6)) (C := RX7) (T := TX7) (N := 11) hx hb hts (by decide +kernel) hown hK.1 hP 0 rfl rfl 2 (by decide) (hts (.fieldLink RX7 27 "ParkingGarageModel" "pasts" "I") (by decide +kernel)) (fun _ h9 => h9) rfl dX7_notes_42 ?_
          refine lv_iconst (v := 1) hx hb dX7_notes_45 (by decide) ?_
          refine lv_isub hx hb dX7_notes_46 ?_
          rw [show (((6) - (1)) : Int32) = 5 from by decide]
          refine va_put (D := D) (ci := 7) (v := .int (5)) (ty := .int) (C := RX7) (T := TX7) (N := 11) hx hb hts (by decide +kernel) tyX7 tyX7_ok nmX7 hown hK.1 hP hD hS 0 rfl rfl 2 (by decide) (hts (.fieldLink RX7 27 "ParkingGarageModel" "pasts" "I") (by decide +kernel)) (fun _ h9 => h9) rfl (by decide +kernel) rfl rfl (Nat.le_of_ble_eq_true rfl) dX7_notes_47 (fun H locs hP hD hS => ?_)
          have hP : va_P D vwCl [(ma 0, oE 7 [.ref (ma 1), .ref (ma 2), .int (5), .ref (ma 3), .ref (ma 4), .int (fi 1), .int (fi 2), .int (fi 3), .long (wd), .int (fi 4), .int (fi 5)]), (ma 1, iE cI 382 (enc g lf)), (ma 2, iE cI 2292 (dnP Pp 1910))] H := hP
          have hD : va_D A [(ma 0, oE 7 [.ref (ma 1), .ref (ma 2), .int (5), .ref (ma 3), .ref (ma 4), .int (fi 1), .int (fi 2), .int (fi 3), .long (wd), .int (fi 4), .int (fi 5)]), (ma 1, iE cI 382 (enc g lf)), (ma 2, iE cI 2292 (dnP Pp 1910))] := hD
          refine lv_iconst (v := 0) hx hb dX7_notes_50 (by decide) ?_
          refine lv_istore_n (lv' := [(1, .int (0)), (0, .ref (ma 0))]) hx hb dX7_notes_51 rfl hl (by decide) rfl (fun ls hl => ?_)
          have hloop : ∀ (d i : Nat), i ≤ 382 → 382 - i < d → ∀ (H : Heap) (locs : List Loc), va_P D vwCl [(ma 0, oE 7 [.ref (ma 1), .ref (ma 2), .int (5), .ref (ma 3), .ref (ma 4), .int (fi 1), .int (fi 2), .int (fi 3), .long (wd), .int (fi 4), .int (fi 5)]), (ma 1, iE cI 382 (enc g lf)), (ma 2, iE cI 2292 (inP (dnP Pp 1910) (enc g lf) 1910 i))] H → va_D A [(ma 0, oE 7 [.ref (ma 1), .ref (ma 2), .int (5), .ref (ma 3), .ref (ma 4), .int (fi 1), .int (fi 2), .int (fi 3), .long (wd), .int (fi 4), .int (fi 5)]), (ma 1, iE cI 382 (enc g lf)), (ma 2, iE cI 2292 (inP (dnP Pp 1910) (enc g lf) 1910 i))] → va_S A s.heap H locs → ∀ ls : Array Slot, lv_has ls 2 [(1, .int (nI i)), (0, .ref (ma 0))] → W p l e ({ frames := 0, cells := 0, slots := 0, locals := 0 } : Room) s m (([.ref (ma 0)] : List Value).toArray) below meth c H locs 0 0 (MQ below (va_Qv (fun u : Nat × (Nat → Nat → Nat → Int32) × (Nat → Int32) × (Nat → Int32) => Sv np hs lfs g lf u.1 u.2.1 u.2.2.1 ∧ PRel u.2.2.2 u.1 u.2.1 u.2.2.1) (wrB D A (fun u => [(ma 0, oE 7 [.ref (ma 1), .ref (ma 2), .int (nI u.1), .ref (ma 3), .ref (ma 4), .int (fi 1), .int (fi 2), .int (fi 3), .long (wd), .int (fi 4), .int (fi 5)]), (ma 1, iE cI 382 (enc g lf)), (ma 2, iE cI 2292 (u.2.2.2))])) A) (([.ref (ma 0)] : List Value).toArray) s 0 0 A) (F0 m 52 ls []) := by
            intro d
            induction d with
            | zero => intro i _ h2; exact absurd h2 (Nat.not_lt_zero _)
            | succ d ih =>
              intro i hi hd H locs hP hD hS ls hl
              refine lv_iload_n hx hb dX7_notes_52 rfl (lv_at hl 0 rfl) ?_
              refine lv_sipush (v := 382) hx hb dX7_notes_53 (by decide) ?_
              refine lv_icmp_ge (tgt := 86) hx hb dX7_notes_56 (by decide) (fun c_4 => ?_) (fun c_4 => ?_)
              · -- c_4: nI i ≥ 382
                have hge2 : i = 382 := nI_geD (n := 382) rfl hi (by omega) c_4
                rw [hge2] at hP hD
                have hP : va_P D vwCl [(ma 0, oE 7 [.ref (ma 1), .ref (ma 2), .int (5), .ref (ma 3), .ref (ma 4), .int (fi 1), .int (fi 2), .int (fi 3), .long (wd), .int (fi 4), .int (fi 5)]), (ma 1, iE cI 382 (enc g lf)), (ma 2, iE cI 2292 (inP (dnP Pp 1910) (enc g lf) 1910 382))] H := hP
                have hD : va_D A [(ma 0, oE 7 [.ref (ma 1), .ref (ma 2), .int (5), .ref (ma 3), .ref (ma 4), .int (fi 1), .int (fi 2), .int (fi 3), .long (wd), .int (fi 4), .int (fi 5)]), (ma 1, iE cI 382 (enc g lf)), (ma 2, iE cI 2292 (inP (dnP Pp 1910) (enc g lf) 1910 382))] := hD
                refine lv_aload_n hx hb dX7_notes_86 rfl (lv_at hl 1 rfl) ?_
                refine lv_dup hx hb dX7_notes_87 rfl ?_
                refine va_get (D := D) (ci := 7) (v := .int (5)) (C := RX7) (T := TX7) (N := 11) hx hb hts (by decide +kernel) hown hK.1 hP 0 rfl rfl 2 (by decide) (hts (.fieldLink RX7 27 "ParkingGarageModel" "pasts" "I") (by decide +kernel)) (fun _ h9 => h9) rfl dX7_notes_88 ?_
                refine lv_iconst (v := 1) hx hb dX7_notes_91 (by decide) ?_
                refine lv_iadd hx hb dX7_notes_92 ?_
                rw [show (((5) + (1)) : Int32) = 6 from by decide]
                refine va_put (D := D) (ci := 7) (v := .int (6)) (ty := .int) (C := RX7) (T := TX7) (N := 11) hx hb hts (by decide +kernel) tyX7 tyX7_ok nmX7 hown hK.1 hP hD hS 0 rfl rfl 2 (by decide) (hts (.fieldLink RX7 27 "ParkingGarageModel" "pasts" "I") (by decide +kernel)) (fun _ h9 => h9) rfl (by decide +kernel) rfl rfl (Nat.le_of_ble_eq_true rfl) dX7_notes_93 (fun H locs hP hD hS => ?_)
                have hP : va_P D vwCl [(ma 0, oE 7 [.ref (ma 1), .ref (ma 2), .int (6), .ref (ma 3), .ref (ma 4), .int (fi 1), .int (fi 2), .int (fi 3), .long (wd), .int (fi 4), .int (fi 5)]), (ma 1, iE cI 382 (enc g lf)), (ma 2, iE cI 2292 (inP (dnP Pp 1910) (enc g lf) 1910 382))] H := hP
                have hD : va_D A [(ma 0, oE 7 [.ref (ma 1), .ref (ma 2), .int (6), .ref (ma 3), .ref (ma 4), .int (fi 1), .int (fi 2), .int (fi 3), .long (wd), .int (fi 4), .int (fi 5)]), (ma 1, iE cI 382 (enc g lf)), (ma 2, iE cI 2292 (inP (dnP Pp 1910) (enc g lf) 1910 382))] := hD
                exact wr_vret ((6, upH (fun i => hs (rt6 i)) 5 g, upd (fun i => lfs (rt6 i)) 5 lf, inP (dnP Pp 1910) (enc g lf) 1910 382)) hx hb hr hlocks hS hP hD [0, 1, 2] rfl rfl (by decide) dX7_notes_96 (⟨Or.inr ⟨hnp6, rfl, rfl, rfl⟩, PRel.save (k := 5) (PRel.drop (by rw [← hnp6]; exact hPR))⟩)
              · -- c_4: not nI i ≥ 382
                have hlt : i < 382 := nI_ltD (n := 382) rfl hi (by omega) c_4
                refine lv_aload_n hx hb dX7_notes_59 rfl (lv_at hl 1 rfl) ?_
                refine va_get (D := D) (ci := 7) (v := .ref (ma 2)) (C := RX7) (T := TX7) (N := 11) hx hb hts (by decide +kernel) hown hK.1 hP 0 rfl rfl 1 (by decide) (hts (.fieldLink RX7 13 "ParkingGarageModel" "past" "[I") (by decide +kernel)) (fun _ h9 => h9) rfl dX7_notes_60 ?_
                refine lv_sipush (v := 382) hx hb dX7_notes_63 (by decide) ?_
                refine lv_aload_n hx hb dX7_notes_66 rfl (lv_at hl 1 rfl) ?_
                refine va_get (D := D) (ci := 7) (v := .int (5)) (C := RX7) (T := TX7) (N := 11) hx hb hts (by decide +kernel) hown hK.1 hP 0 rfl rfl 2 (by decide) (hts (.fieldLink RX7 27 "ParkingGarageModel" "pasts" "I") (by decide +kernel)) (fun _ h9 => h9) rfl dX7_notes_67 ?_
                refine lv_imul hx hb dX7_notes_70 ?_
                rw [show (((382) * (5)) : Int32) = 1910 from by decide]
                refine lv_iload_n hx hb dX7_notes_71 rfl (lv_at hl 0 rfl) ?_
                refine lv_iadd hx hb dX7_notes_72 ?_
                rw [show (((1910) + (nI i)) : Int32) = nI (1910 + i) from (nI_add 1910 i)]
                refine lv_aload_n hx hb dX7_notes_73 rfl (lv_at hl 1 rfl) ?_
                refine va_get (D := D) (ci := 7) (v := .ref (ma 1)) (C := RX7) (T := TX7) (N := 11) hx hb hts (by decide +kernel) hown hK.1 hP 0 rfl rfl 0 (by decide) (hts (.fieldLink RX7 7 "ParkingGarageModel" "s" "[I") (by decide +kernel)) (fun _ h9 => h9) rfl dX7_notes_74 ?_
                refine lv_iload_n hx hb dX7_notes_77 rfl (lv_at hl 0 rfl) ?_
                refine iald_n (f := enc g lf) hx hb hK.1 hP 1 0 rfl rfl (i) (rfl) (by omega) (by omega) dX7_notes_78 ?_
                refine iast_n (f := inP (dnP Pp 1910) (enc g lf) 1910 i) hx hb hK.1 hP hD hS 2 0 rfl rfl (1910 + i) (rfl) (by omega) (by omega) dX7_notes_79 (fun H locs hP hD hS => ?_)
                have hP : va_P D vwCl [(ma 0, oE 7 [.ref (ma 1), .ref (ma 2), .int (5), .ref (ma 3), .ref (ma 4), .int (fi 1), .int (fi 2), .int (fi 3), .long (wd), .int (fi 4), .int (fi 5)]), (ma 1, iE cI 382 (enc g lf)), (ma 2, iE cI 2292 (upd (inP (dnP Pp 1910) (enc g lf) 1910 i) (1910 + i) ((enc g lf) (i))))] H := hP
                have hD : va_D A [(ma 0, oE 7 [.ref (ma 1), .ref (ma 2), .int (5), .ref (ma 3), .ref (ma 4), .int (fi 1), .int (fi 2), .int (fi 3), .long (wd), .int (fi 4), .int (fi 5)]), (ma 1, iE cI 382 (enc g lf)), (ma 2, iE cI 2292 (upd (inP (dnP Pp 1910) (enc g lf) 1910 i) (1910 + i) ((enc g lf) (i))))] := hD
                refine lv_iinc (v := nI (i + 1)) (lv' := [(1, .int (nI (i + 1))), (0, .ref (ma 0))]) hx hb dX7_notes_80 hl (k := 0) rfl (nI_1 _) (by decide) rfl (fun ls hl => ?_)
                refine lv_goto (tgt := 52) hx hb dX7_notes_83 (by decide) ?_
                rw [inP_s] at hP hD
                exact ih (i + 1) (by omega) (by omega) _ _ hP hD hS ls (lv_sub hl [0, 1] rfl)
          rw [show (dnP Pp 1910) = inP (dnP Pp 1910) (enc g lf) 1910 0 from inP_0] at hP hD
          exact hloop (382 + 1) (0) (by omega) (by omega) _ _ hP hD hS ls (lv_sub hl [0, 1] rfl)
        · -- c_3: not nI i ≥ 1910
          have hlt : i < 1910 := nI_ltD (n := 1910) rfl hi (by omega) c_3
          refine lv_aload_n hx hb dX7_notes_18 rfl (lv_at hl 1 rfl) ?_
          refine va_get (D := D) (ci := 7) (v := .ref (ma 2)) (C := RX7) (T := TX7) (N := 11) hx hb hts (by decide +kernel) hown hK.1 hP 0 rfl rfl 1 (by decide) (hts (.fieldLink RX7 13 "ParkingGarageModel" "past" "[I") (by decide +kernel)) (fun _ h9 => h9) rfl dX7_notes_19 ?_
          refine lv_iload_n hx hb dX7_notes_22 rfl (lv_at hl 0 rfl) ?_
          refine lv_aload_n hx hb dX7_notes_23 rfl (lv_at hl 1 rfl) ?_
          refine va_get (D := D) (ci := 7) (v := .ref (ma 2)) (C := RX7) (T := TX7) (N := 11) hx hb hts (by decide +kernel) hown hK.1 hP 0 rfl rfl 1 (by decide) (hts (.fieldLink RX7 13 "ParkingGarageModel" "past" "[I") (by decide +kernel)) (fun _ h9 => h9) rfl dX7_notes_24 ?_
          refine lv_iload_n hx hb dX7_notes_27 rfl (lv_at hl 0 rfl) ?_
          refine lv_sipush (v := 382) hx hb dX7_notes_28 (by decide) ?_
          refine lv_iadd hx hb dX7_notes_31 ?_
          rw [show (((nI i) + (382)) : Int32) = nI (i + 382) from (nI_add i 382)]
          refine iald_n (f := dnP Pp i) hx hb hK.1 hP 2 0 rfl rfl (i + 382) (rfl) (by omega) (by omega) dX7_notes_32 ?_
          refine iast_n (f := dnP Pp i) hx hb hK.1 hP hD hS 2 0 rfl rfl (i) (rfl) (by omega) (by omega) dX7_notes_33 (fun H locs hP hD hS => ?_)
          have hP : va_P D vwCl [(ma 0, oE 7 [.ref (ma 1), .ref (ma 2), .int (6), .ref (ma 3), .ref (ma 4), .int (fi 1), .int (fi 2), .int (fi 3), .long (wd), .int (fi 4), .int (fi 5)]), (ma 1, iE cI 382 (enc g lf)), (ma 2, iE cI 2292 (upd (dnP Pp i) (i) ((dnP Pp i) (i + 382))))] H := hP
          have hD : va_D A [(ma 0, oE 7 [.ref (ma 1), .ref (ma 2), .int (6), .ref (ma 3), .ref (ma 4), .int (fi 1), .int (fi 2), .int (fi 3), .long (wd), .int (fi 4), .int (fi 5)]), (ma 1, iE cI 382 (enc g lf)), (ma 2, iE cI 2292 (upd (dnP Pp i) (i) ((dnP Pp i) (i + 382))))] := hD
          refine lv_iinc (v := nI (i + 1)) (lv' := [(1, .int (nI (i + 1))), (0, .ref (ma 0))]) hx hb dX7_notes_34 hl (k := 0) rfl (nI_1 _) (by decide) rfl (fun ls hl => ?_)
          refine lv_goto (tgt := 11) hx hb dX7_notes_37 (by decide) ?_
          rw [dnP_at (show i ≤ i + 382 by omega), dnP_s] at hP hD
          exact ih (i + 1) (by omega) (by omega) _ _ hP hD hS ls (lv_sub hl [0, 1] rfl)
    rw [show Pp = dnP Pp 0 from dnP_0] at hP hD
    exact hloop (1910 + 1) (0) (by omega) (by omega) _ _ hP hD hS ls (lv_sub hl [0, 1] rfl)
set_option maxHeartbeats 4000000 in
set_option maxRecDepth 100000 in
theorem c_X7_undo (l : Launch) (D : va_G) (cI cC cB cS : ClassId) (zz : Nat) (ma : Nat → Nat) (fi : Nat → Int32) (wd : Int64) (g : Nat → Nat → Int32) (lf : Int32) (np : Nat) (Pp : Nat → Int32) (hs : Nat → Nat → Nat → Int32) (lfs : Nat → Int32) (hnp : np ≤ 6) (hPR : PRel Pp np hs lfs) : Met l yX7_undo wsX7_undo ({ frames := 0, cells := 0, slots := 0, locals := 0 } : Room) (wrPc D (TYS cI cC cB cS) [.ref (ma 0)] ([(ma 0, oE 7 [.ref (ma 1), .ref (ma 2), .int (nI np), .ref (ma 3), .ref (ma 4), .int (fi 1), .int (fi 2), .int (fi 3), .long (wd), .int (fi 4), .int (fi 5)]), (ma 1, iE cI 382 (enc g lf)), (ma 2, iE cI 2292 (Pp))]) zz) (va_Qi (fun (r : Int32) (u : MU3) => UndM g lf np hs lfs r u) (wrB D (va_A ([(ma 0, oE 7 [.ref (ma 1), .ref (ma 2), .int (nI np), .ref (ma 3), .ref (ma 4), .int (fi 1), .int (fi 2), .int (fi 3), .long (wd), .int (fi 4), .int (fi 5)]), (ma 1, iE cI 382 (enc g lf)), (ma 2, iE cI 2292 (Pp))]) zz) (fun u => [(ma 0, oE 7 [.ref (ma 1), .ref (ma 2), .int (nI u.2.2), .ref (ma 3), .ref (ma 4), .int (fi 1), .int (fi 2), .int (fi 3), .long (wd), .int (fi 4), .int (fi 5)]), (ma 1, iE cI 382 (enc u.1 u.2.1)), (ma 2, iE cI 2292 (Pp))])) (va_A ([(ma 0, oE 7 [.ref (ma 1), .ref (ma 2), .int (nI np), .ref (ma 3), .ref (ma 4), .int (fi 1), .int (fi 2), .int (fi 3), .long (wd), .int (fi 4), .int (fi 5)]), (ma 1, iE cI 382 (enc g lf)), (ma 2, iE cI 2292 (Pp))]) zz)) 0 0 (va_A ([(ma 0, oE 7 [.ref (ma 1), .ref (ma 2), .int (nI np), .ref (ma 3), .ref (ma 4), .int (fi 1), .int (fi 2), .int (fi 3), .long (wd), .int (fi 4), .int (fi 5)]), (ma 1, iE cI 382 (enc g lf)), (ma 2, iE cI 2292 (Pp))]) zz) := by
  refine wr_intro (Qc := fun A B => va_Qi (fun (r : Int32) (u : MU3) => UndM g lf np hs lfs r u) B A) (by decide) rfl (Nat.le_of_ble_eq_true rfl) ?_
  intro p e s m below meth c A hx hb hr hml hts hown hlocks hin hP hK hD hA hS ls hl
  have hP : va_P D vwCl [(ma 0, oE 7 [.ref (ma 1), .ref (ma 2), .int (nI np), .ref (ma 3), .ref (ma 4), .int (fi 1), .int (fi 2), .int (fi 3), .long (wd), .int (fi 4), .int (fi 5)]), (ma 1, iE cI 382 (enc g lf)), (ma 2, iE cI 2292 (Pp))] s.heap := hP
  have hD : va_D A [(ma 0, oE 7 [.ref (ma 1), .ref (ma 2), .int (nI np), .ref (ma 3), .ref (ma 4), .int (fi 1), .int (fi 2), .int (fi 3), .long (wd), .int (fi 4), .int (fi 5)]), (ma 1, iE cI 382 (enc g lf)), (ma 2, iE cI 2292 (Pp))] := hD
  have hown : s.vm.findClass RX7 = some m.cls := hown
  have hl : lv_has ls 2 [(0, .ref (ma 0))] := hl
  refine lv_aload_n hx hb dX7_undo_0 rfl (lv_at hl 0 rfl) ?_
  refine va_get (D := D) (ci := 7) (v := .int (nI np)) (C := RX7) (T := TX7) (N := 11) hx hb hts (by decide +kernel) hown hK.1 hP 0 rfl rfl 2 (by decide) (hts (.fieldLink RX7 27 "ParkingGarageModel" "pasts" "I") (by decide +kernel)) (fun _ h9 => h9) rfl dX7_undo_1 ?_
  refine lv_if_ne (tgt := 10) hx hb dX7_undo_4 (by decide) (fun c_1 => ?_) (fun c_1 => ?_)
  · -- c_1: nI np ≠ 0
    have hnp0 : 0 < np := Nat.pos_of_ne_zero (fun h => c_1 (by rw [h]; rfl))
    refine lv_aload_n hx hb dX7_undo_10 rfl (lv_at hl 0 rfl) ?_
    refine lv_dup hx hb dX7_undo_11 rfl ?_
    refine va_get (D := D) (ci := 7) (v := .int (nI np)) (C := RX7) (T := TX7) (N := 11) hx hb hts (by decide +kernel) hown hK.1 hP 0 rfl rfl 2 (by decide) (hts (.fieldLink RX7 27 "ParkingGarageModel" "pasts" "I") (by decide +kernel)) (fun _ h9 => h9) rfl dX7_undo_12 ?_
    refine lv_iconst (v := 1) hx hb dX7_undo_15 (by decide) ?_
    refine lv_isub hx hb dX7_undo_16 ?_
    rw [show (((nI np) - (1)) : Int32) = nI (np - 1) from (pk_subn (k := 1) (by omega))]
    refine va_put (D := D) (ci := 7) (v := .int (nI (np - 1))) (ty := .int) (C := RX7) (T := TX7) (N := 11) hx hb hts (by decide +kernel) tyX7 tyX7_ok nmX7 hown hK.1 hP hD hS 0 rfl rfl 2 (by decide) (hts (.fieldLink RX7 27 "ParkingGarageModel" "pasts" "I") (by decide +kernel)) (fun _ h9 => h9) rfl (by decide +kernel) rfl rfl (Nat.le_of_ble_eq_true rfl) dX7_undo_17 (fun H locs hP hD hS => ?_)
    have hP : va_P D vwCl [(ma 0, oE 7 [.ref (ma 1), .ref (ma 2), .int (nI (np - 1)), .ref (ma 3), .ref (ma 4), .int (fi 1), .int (fi 2), .int (fi 3), .long (wd), .int (fi 4), .int (fi 5)]), (ma 1, iE cI 382 (enc g lf)), (ma 2, iE cI 2292 (Pp))] H := hP
    have hD : va_D A [(ma 0, oE 7 [.ref (ma 1), .ref (ma 2), .int (nI (np - 1)), .ref (ma 3), .ref (ma 4), .int (fi 1), .int (fi 2), .int (fi 3), .long (wd), .int (fi 4), .int (fi 5)]), (ma 1, iE cI 382 (enc g lf)), (ma 2, iE cI 2292 (Pp))] := hD
    refine lv_iconst (v := 0) hx hb dX7_undo_20 (by decide) ?_
    refine lv_istore_n (lv' := [(1, .int (0)), (0, .ref (ma 0))]) hx hb dX7_undo_21 rfl hl (by decide) rfl (fun ls hl => ?_)
    have hloop : ∀ (d i : Nat), i ≤ 382 → 382 - i < d → ∀ (H : Heap) (locs : List Loc), va_P D vwCl [(ma 0, oE 7 [.ref (ma 1), .ref (ma 2), .int (nI (np - 1)), .ref (ma 3), .ref (ma 4), .int (fi 1), .int (fi 2), .int (fi 3), .long (wd), .int (fi 4), .int (fi 5)]), (ma 1, iE cI 382 (cp1 (enc g lf) (fun j => Pp (382 * (np - 1) + j)) i)), (ma 2, iE cI 2292 (Pp))] H → va_D A [(ma 0, oE 7 [.ref (ma 1), .ref (ma 2), .int (nI (np - 1)), .ref (ma 3), .ref (ma 4), .int (fi 1), .int (fi 2), .int (fi 3), .long (wd), .int (fi 4), .int (fi 5)]), (ma 1, iE cI 382 (cp1 (enc g lf) (fun j => Pp (382 * (np - 1) + j)) i)), (ma 2, iE cI 2292 (Pp))] → va_S A s.heap H locs → ∀ ls : Array Slot, lv_has ls 2 [(1, .int (nI i)), (0, .ref (ma 0))] → W p l e ({ frames := 0, cells := 0, slots := 0, locals := 0 } : Room) s m (([.ref (ma 0)] : List Value).toArray) below meth c H locs 0 0 (MQ below (va_Qi (fun (r : Int32) (u : MU3) => UndM g lf np hs lfs r u) (wrB D A (fun u => [(ma 0, oE 7 [.ref (ma 1), .ref (ma 2), .int (nI u.2.2), .ref (ma 3), .ref (ma 4), .int (fi 1), .int (fi 2), .int (fi 3), .long (wd), .int (fi 4), .int (fi 5)]), (ma 1, iE cI 382 (enc u.1 u.2.1)), (ma 2, iE cI 2292 (Pp))])) A) (([.ref (ma 0)] : List Value).toArray) s 0 0 A) (F0 m 22 ls []) := by
      intro d
      induction d with
      | zero => intro i _ h2; exact absurd h2 (Nat.not_lt_zero _)
      | succ d ih =>
        intro i hi hd H locs hP hD hS ls hl
        refine lv_iload_n hx hb dX7_undo_22 rfl (lv_at hl 0 rfl) ?_
        refine lv_sipush (v := 382) hx hb dX7_undo_23 (by decide) ?_
        refine lv_icmp_ge (tgt := 56) hx hb dX7_undo_26 (by decide) (fun c_2 => ?_) (fun c_2 => ?_)
        · -- c_2: nI i ≥ 382
          have hge2 : i = 382 := nI_geD (n := 382) rfl hi (by omega) c_2
          rw [hge2] at hP hD
          have hP := va_P_ext (h := enc (hs (np - 1)) (lfs (np - 1))) 1 rfl (fun j hj => (cp1_all hj).trans (hPR (np - 1) (by omega) j hj)) hP
          have hD := va_D.set (p := 1) (e := iE cI 382 (enc (hs (np - 1)) (lfs (np - 1)))) hD rfl
          have hP : va_P D vwCl [(ma 0, oE 7 [.ref (ma 1), .ref (ma 2), .int (nI (np - 1)), .ref (ma 3), .ref (ma 4), .int (fi 1), .int (fi 2), .int (fi 3), .long (wd), .int (fi 4), .int (fi 5)]), (ma 1, iE cI 382 (enc (hs (np - 1)) (lfs (np - 1)))), (ma 2, iE cI 2292 (Pp))] H := hP
          have hD : va_D A [(ma 0, oE 7 [.ref (ma 1), .ref (ma 2), .int (nI (np - 1)), .ref (ma 3), .ref (ma 4), .int (fi 1), .int (fi 2), .int (fi 3), .long (wd), .int (fi 4), .int (fi 5)]), (ma 1, iE cI 382 (enc (hs (np - 1)) (lfs (np - 1)))), (ma 2, iE cI 2292 (Pp))] := hD
          refine lv_aload_n hx hb dX7_undo_56 rfl (lv_at hl 1 rfl) ?_
          refine va_get (D := D) (ci := 7) (v := .int (nI (np - 1))) (C := RX7) (T := TX7) (N := 11) hx hb hts (by decide +kernel) hown hK.1 hP 0 rfl rfl 2 (by decide) (hts (.fieldLink RX7 27 "ParkingGarageModel" "pasts" "I") (by decide +kernel)) (fun _ h9 => h9) rfl dX7_undo_57 ?_
          exact wr_iret (v := nI (np - 1)) ((hs (np - 1), lfs (np - 1), np - 1)) hx hb hr hlocks hS hP hD [0, 1, 2] rfl rfl (by decide) dX7_undo_60 (Or.inr ⟨hnp0, rfl, rfl⟩)
        · -- c_2: not nI i ≥ 382
          have hlt : i < 382 := nI_ltD (n := 382) rfl hi (by omega) c_2
          refine lv_aload_n hx hb dX7_undo_29 rfl (lv_at hl 1 rfl) ?_
          refine va_get (D := D) (ci := 7) (v := .ref (ma 1)) (C := RX7) (T := TX7) (N := 11) hx hb hts (by decide +kernel) hown hK.1 hP 0 rfl rfl 0 (by decide) (hts (.fieldLink RX7 7 "ParkingGarageModel" "s" "[I") (by decide +kernel)) (fun _ h9 => h9) rfl dX7_undo_30 ?_
          refine lv_iload_n hx hb dX7_undo_33 rfl (lv_at hl 0 rfl) ?_
          refine lv_aload_n hx hb dX7_undo_34 rfl (lv_at hl 1 rfl) ?_
          refine va_get (D := D) (ci := 7) (v := .ref (ma 2)) (C := RX7) (T := TX7) (N := 11) hx hb hts (by decide +kernel) hown hK.1 hP 0 rfl rfl 1 (by decide) (hts (.fieldLink RX7 13 "ParkingGarageModel" "past" "[I") (by decide +kernel)) (fun _ h9 => h9) rfl dX7_undo_35 ?_
          refine lv_sipush (v := 382) hx hb dX7_undo_38 (by decide) ?_
          refine lv_aload_n hx hb dX7_undo_41 rfl (lv_at hl 1 rfl) ?_
          refine va_get (D := D) (ci := 7) (v := .int (nI (np - 1))) (C := RX7) (T := TX7) (N := 11) hx hb hts (by decide +kernel) hown hK.1 hP 0 rfl rfl 2 (by decide) (hts (.fieldLink RX7 27 "ParkingGarageModel" "pasts" "I") (by decide +kernel)) (fun _ h9 => h9) rfl dX7_undo_42 ?_
          refine lv_imul hx hb dX7_undo_45 ?_
          rw [show (((382) * (nI (np - 1))) : Int32) = nI (382 * (np - 1)) from (nI_mul 382 (np - 1))]
          refine lv_iload_n hx hb dX7_undo_46 rfl (lv_at hl 0 rfl) ?_
          refine lv_iadd hx hb dX7_undo_47 ?_
          rw [show (((nI (382 * (np - 1))) + (nI i)) : Int32) = nI (382 * (np - 1) + i) from (nI_add (382 * (np - 1)) i)]
          refine iald_n (f := Pp) hx hb hK.1 hP 2 0 rfl rfl (382 * (np - 1) + i) (rfl) (by omega) (by omega) dX7_undo_48 ?_
          refine iast_n (f := cp1 (enc g lf) (fun j => Pp (382 * (np - 1) + j)) i) hx hb hK.1 hP hD hS 1 0 rfl rfl (i) (rfl) (by omega) (by omega) dX7_undo_49 (fun H locs hP hD hS => ?_)
          have hP : va_P D vwCl [(ma 0, oE 7 [.ref (ma 1), .ref (ma 2), .int (nI (np - 1)), .ref (ma 3), .ref (ma 4), .int (fi 1), .int (fi 2), .int (fi 3), .long (wd), .int (fi 4), .int (fi 5)]), (ma 1, iE cI 382 (upd (cp1 (enc g lf) (fun j => Pp (382 * (np - 1) + j)) i) (i) (Pp (382 * (np - 1) + i)))), (ma 2, iE cI 2292 (Pp))] H := hP
          have hD : va_D A [(ma 0, oE 7 [.ref (ma 1), .ref (ma 2), .int (nI (np - 1)), .ref (ma 3), .ref (ma 4), .int (fi 1), .int (fi 2), .int (fi 3), .long (wd), .int (fi 4), .int (fi 5)]), (ma 1, iE cI 382 (upd (cp1 (enc g lf) (fun j => Pp (382 * (np - 1) + j)) i) (i) (Pp (382 * (np - 1) + i)))), (ma 2, iE cI 2292 (Pp))] := hD
          refine lv_iinc (v := nI (i + 1)) (lv' := [(1, .int (nI (i + 1))), (0, .ref (ma 0))]) hx hb dX7_undo_50 hl (k := 0) rfl (nI_1 _) (by decide) rfl (fun ls hl => ?_)
          refine lv_goto (tgt := 22) hx hb dX7_undo_53 (by decide) ?_
          rw [cp1_s rfl] at hP hD
          exact ih (i + 1) (by omega) (by omega) _ _ hP hD hS ls (lv_sub hl [0, 1] rfl)
    rw [show enc g lf = cp1 (enc g lf) (fun j => Pp (382 * (np - 1) + j)) 0 from cp1_0] at hP hD
    exact hloop (382 + 1) (0) (by omega) (by omega) _ _ hP hD hS ls (lv_sub hl [0, 1] rfl)
  · -- c_1: not nI np ≠ 0
    refine lv_bipush (v := -2) hx hb dX7_undo_7 (by decide) ?_
    exact wr_iret (v := -2) ((g, lf, np)) hx hb hr hlocks hS hP hD [0, 1, 2] rfl rfl (by decide) dX7_undo_9 (Or.inl ⟨(nI_eq (a := np) (b := 0) (by omega) (by omega)).mp c_1, rfl, rfl⟩)
set_option maxHeartbeats 4000000 in
set_option maxRecDepth 100000 in
theorem c_X7_exchanges (l : Launch) (D : va_G) (cI cC cB cS : ClassId) (zz : Nat) (ma : Nat → Nat) (fi : Nat → Int32) (wd : Int64) (E1 : Nat → Int32) (E2 : Nat → Int32) : Met l yX7_exchanges wsX7_exchanges ({ frames := 0, cells := 0, slots := 0, locals := 0 } : Room) (wrPc D (TYS cI cC cB cS) [.ref (ma 0)] ([mO ma fi wd, (ma 1, iE cI 382 (E1)), (ma 3, iE cI 382 (E2))]) zz) (va_Qv (fun u : Unit => True) (wrB D (va_A ([mO ma fi wd, (ma 1, iE cI 382 (E1)), (ma 3, iE cI 382 (E2))]) zz) (fun u => [mO ma fi wd, (ma 1, iE cI 382 (E2)), (ma 3, iE cI 382 (E1))])) (va_A ([mO ma fi wd, (ma 1, iE cI 382 (E1)), (ma 3, iE cI 382 (E2))]) zz)) 0 0 (va_A ([mO ma fi wd, (ma 1, iE cI 382 (E1)), (ma 3, iE cI 382 (E2))]) zz) := by
  refine wr_intro (Qc := fun A B => va_Qv (fun u : Unit => True) B A) (by decide) rfl (Nat.le_of_ble_eq_true rfl) ?_
  intro p e s m below meth c A hx hb hr hml hts hown hlocks hin hP hK hD hA hS ls hl
  have hP : va_P D vwCl [(ma 0, oE 7 [.ref (ma 1), .ref (ma 2), .int (fi 0), .ref (ma 3), .ref (ma 4), .int (fi 1), .int (fi 2), .int (fi 3), .long (wd), .int (fi 4), .int (fi 5)]), (ma 1, iE cI 382 (E1)), (ma 3, iE cI 382 (E2))] s.heap := hP
  have hD : va_D A [(ma 0, oE 7 [.ref (ma 1), .ref (ma 2), .int (fi 0), .ref (ma 3), .ref (ma 4), .int (fi 1), .int (fi 2), .int (fi 3), .long (wd), .int (fi 4), .int (fi 5)]), (ma 1, iE cI 382 (E1)), (ma 3, iE cI 382 (E2))] := hD
  have hown : s.vm.findClass RX7 = some m.cls := hown
  have hl : lv_has ls 3 [(0, .ref (ma 0))] := hl
  refine lv_iconst (v := 0) hx hb dX7_exchanges_0 (by decide) ?_
  refine lv_istore_n (lv' := [(1, .int (0)), (0, .ref (ma 0))]) hx hb dX7_exchanges_1 rfl hl (by decide) rfl (fun ls hl => ?_)
  have hloop : ∀ (d i : Nat), i ≤ 382 → 382 - i < d → ∀ (H : Heap) (locs : List Loc), va_P D vwCl [(ma 0, oE 7 [.ref (ma 1), .ref (ma 2), .int (fi 0), .ref (ma 3), .ref (ma 4), .int (fi 1), .int (fi 2), .int (fi 3), .long (wd), .int (fi 4), .int (fi 5)]), (ma 1, iE cI 382 (cp1 E1 E2 i)), (ma 3, iE cI 382 (cp1 E2 E1 i))] H → va_D A [(ma 0, oE 7 [.ref (ma 1), .ref (ma 2), .int (fi 0), .ref (ma 3), .ref (ma 4), .int (fi 1), .int (fi 2), .int (fi 3), .long (wd), .int (fi 4), .int (fi 5)]), (ma 1, iE cI 382 (cp1 E1 E2 i)), (ma 3, iE cI 382 (cp1 E2 E1 i))] → va_S A s.heap H locs → ∀ ls : Array Slot, lv_has ls 3 [(1, .int (nI i)), (0, .ref (ma 0))] → W p l e ({ frames := 0, cells := 0, slots := 0, locals := 0 } : Room) s m (([.ref (ma 0)] : List Value).toArray) below meth c H locs 0 0 (MQ below (va_Qv (fun u : Unit => True) (wrB D A (fun u => [mO ma fi wd, (ma 1, iE cI 382 (E2)), (ma 3, iE cI 382 (E1))])) A) (([.ref (ma 0)] : List Value).toArray) s 0 0 A) (F0 m 2 ls []) := by
    intro d
    induction d with
    | zero => intro i _ h2; exact absurd h2 (Nat.not_lt_zero _)
    | succ d ih =>
      intro i hi hd H locs hP hD hS ls hl
      refine lv_iload_n hx hb dX7_exchanges_2 rfl (lv_at hl 0 rfl) ?_
      refine lv_sipush (v := 382) hx hb dX7_exchanges_3 (by decide) ?_
      refine lv_icmp_ge (tgt := 41) hx hb dX7_exchanges_6 (by decide) (fun c_1 => ?_) (fun c_1 => ?_)
      · -- c_1: nI i ≥ 382
        have hge2 : i = 382 := nI_geD (n := 382) rfl hi (by omega) c_1
        rw [hge2] at hP hD
        have hP := va_P_ext (h := E2) 1 rfl (fun j hj => cp1_all hj) hP
        have hD := va_D.set (p := 1) (e := iE cI 382 (E2)) hD rfl
        have hP := va_P_ext (h := E1) 2 rfl (fun j hj => cp1_all hj) hP
        have hD := va_D.set (p := 2) (e := iE cI 382 (E1)) hD rfl
        have hP : va_P D vwCl [(ma 0, oE 7 [.ref (ma 1), .ref (ma 2), .int (fi 0), .ref (ma 3), .ref (ma 4), .int (fi 1), .int (fi 2), .int (fi 3), .long (wd), .int (fi 4), .int (fi 5)]), (ma 1, iE cI 382 (E2)), (ma 3, iE cI 382 (E1))] H := hP
        have hD : va_D A [(ma 0, oE 7 [.ref (ma 1), .ref (ma 2), .int (fi 0), .ref (ma 3), .ref (ma 4), .int (fi 1), .int (fi 2), .int (fi 3), .long (wd), .int (fi 4), .int (fi 5)]), (ma 1, iE cI 382 (E2)), (ma 3, iE cI 382 (E1))] := hD
        exact wr_vret (()) hx hb hr hlocks hS hP hD [0, 1, 2] rfl rfl (by decide) dX7_exchanges_41 (trivial)
      · -- c_1: not nI i ≥ 382
        have hlt : i < 382 := nI_ltD (n := 382) rfl hi (by omega) c_1
        refine lv_aload_n hx hb dX7_exchanges_9 rfl (lv_at hl 1 rfl) ?_
        refine va_get (D := D) (ci := 7) (v := .ref (ma 1)) (C := RX7) (T := TX7) (N := 11) hx hb hts (by decide +kernel) hown hK.1 hP 0 rfl rfl 0 (by decide) (hts (.fieldLink RX7 7 "ParkingGarageModel" "s" "[I") (by decide +kernel)) (fun _ h9 => h9) rfl dX7_exchanges_10 ?_
        refine lv_iload_n hx hb dX7_exchanges_13 rfl (lv_at hl 0 rfl) ?_
        refine iald_n (f := cp1 E1 E2 i) hx hb hK.1 hP 1 0 rfl rfl (i) (rfl) (by omega) (by omega) dX7_exchanges_14 ?_
        refine lv_istore_n (lv' := [(2, .int ((cp1 E1 E2 i) (i))), (1, .int (nI i)), (0, .ref (ma 0))]) hx hb dX7_exchanges_15 rfl hl (by decide) rfl (fun ls hl => ?_)
        refine lv_aload_n hx hb dX7_exchanges_16 rfl (lv_at hl 2 rfl) ?_
        refine va_get (D := D) (ci := 7) (v := .ref (ma 1)) (C := RX7) (T := TX7) (N := 11) hx hb hts (by decide +kernel) hown hK.1 hP 0 rfl rfl 0 (by decide) (hts (.fieldLink RX7 7 "ParkingGarageModel" "s" "[I") (by decide +kernel)) (fun _ h9 => h9) rfl dX7_exchanges_17 ?_
        refine lv_iload_n hx hb dX7_exchanges_20 rfl (lv_at hl 1 rfl) ?_
        refine lv_aload_n hx hb dX7_exchanges_21 rfl (lv_at hl 2 rfl) ?_
        refine va_get (D := D) (ci := 7) (v := .ref (ma 3)) (C := RX7) (T := TX7) (N := 11) hx hb hts (by decide +kernel) hown hK.1 hP 0 rfl rfl 3 (by decide) (hts (.fieldLink RX7 16 "ParkingGarageModel" "kept" "[I") (by decide +kernel)) (fun _ h9 => h9) rfl dX7_exchanges_22 ?_
        refine lv_iload_n hx hb dX7_exchanges_25 rfl (lv_at hl 1 rfl) ?_
        refine iald_n (f := cp1 E2 E1 i) hx hb hK.1 hP 2 0 rfl rfl (i) (rfl) (by omega) (by omega) dX7_exchanges_26 ?_
        refine iast_n (f := cp1 E1 E2 i) hx hb hK.1 hP hD hS 1 0 rfl rfl (i) (rfl) (by omega) (by omega) dX7_exchanges_27 (fun H locs hP hD hS => ?_)
        have hP : va_P D vwCl [(ma 0, oE 7 [.ref (ma 1), .ref (ma 2), .int (fi 0), .ref (ma 3), .ref (ma 4), .int (fi 1), .int (fi 2), .int (fi 3), .long (wd), .int (fi 4), .int (fi 5)]), (ma 1, iE cI 382 (upd (cp1 E1 E2 i) (i) ((cp1 E2 E1 i) (i)))), (ma 3, iE cI 382 (cp1 E2 E1 i))] H := hP
        have hD : va_D A [(ma 0, oE 7 [.ref (ma 1), .ref (ma 2), .int (fi 0), .ref (ma 3), .ref (ma 4), .int (fi 1), .int (fi 2), .int (fi 3), .long (wd), .int (fi 4), .int (fi 5)]), (ma 1, iE cI 382 (upd (cp1 E1 E2 i) (i) ((cp1 E2 E1 i) (i)))), (ma 3, iE cI 382 (cp1 E2 E1 i))] := hD
        refine lv_aload_n hx hb dX7_exchanges_28 rfl (lv_at hl 2 rfl) ?_
        refine va_get (D := D) (ci := 7) (v := .ref (ma 3)) (C := RX7) (T := TX7) (N := 11) hx hb hts (by decide +kernel) hown hK.1 hP 0 rfl rfl 3 (by decide) (hts (.fieldLink RX7 16 "ParkingGarageModel" "kept" "[I") (by decide +kernel)) (fun _ h9 => h9) rfl dX7_exchanges_29 ?_
        refine lv_iload_n hx hb dX7_exchanges_32 rfl (lv_at hl 1 rfl) ?_
        refine lv_iload_n hx hb dX7_exchanges_33 rfl (lv_at hl 0 rfl) ?_
        refine iast_n (f := cp1 E2 E1 i) hx hb hK.1 hP hD hS 2 0 rfl rfl (i) (rfl) (by omega) (by omega) dX7_exchanges_34 (fun H locs hP hD hS => ?_)
        have hP : va_P D vwCl [(ma 0, oE 7 [.ref (ma 1), .ref (ma 2), .int (fi 0), .ref (ma 3), .ref (ma 4), .int (fi 1), .int (fi 2), .int (fi 3), .long (wd), .int (fi 4), .int (fi 5)]), (ma 1, iE cI 382 (upd (cp1 E1 E2 i) (i) ((cp1 E2 E1 i) (i)))), (ma 3, iE cI 382 (upd (cp1 E2 E1 i) (i) ((cp1 E1 E2 i) (i))))] H := hP
        have hD : va_D A [(ma 0, oE 7 [.ref (ma 1), .ref (ma 2), .int (fi 0), .ref (ma 3), .ref (ma 4), .int (fi 1), .int (fi 2), .int (fi 3), .long (wd), .int (fi 4), .int (fi 5)]), (ma 1, iE cI 382 (upd (cp1 E1 E2 i) (i) ((cp1 E2 E1 i) (i)))), (ma 3, iE cI 382 (upd (cp1 E2 E1 i) (i) ((cp1 E1 E2 i) (i))))] := hD
        refine lv_iinc (v := nI (i + 1)) (lv' := [(1, .int (nI (i + 1))), (2, .int ((cp1 E1 E2 i) (i))), (0, .ref (ma 0))]) hx hb dX7_exchanges_35 hl (k := 1) rfl (nI_1 _) (by decide) rfl (fun ls hl => ?_)
        refine lv_goto (tgt := 2) hx hb dX7_exchanges_38 (by decide) ?_
        rw [cp1_s (f := E1) cp1_at, cp1_s (f := E2) cp1_at] at hP hD
        exact ih (i + 1) (by omega) (by omega) _ _ hP hD hS ls (lv_sub hl [0, 2] rfl)
  have hP : va_P D vwCl [(ma 0, oE 7 [.ref (ma 1), .ref (ma 2), .int (fi 0), .ref (ma 3), .ref (ma 4), .int (fi 1), .int (fi 2), .int (fi 3), .long (wd), .int (fi 4), .int (fi 5)]), (ma 1, iE cI 382 (cp1 E1 E2 0)), (ma 3, iE cI 382 (cp1 E2 E1 0))] s.heap := by rw [← cp1_0, ← cp1_0]; exact hP
  have hD : va_D A [(ma 0, oE 7 [.ref (ma 1), .ref (ma 2), .int (fi 0), .ref (ma 3), .ref (ma 4), .int (fi 1), .int (fi 2), .int (fi 3), .long (wd), .int (fi 4), .int (fi 5)]), (ma 1, iE cI 382 (cp1 E1 E2 0)), (ma 3, iE cI 382 (cp1 E2 E1 0))] := by rw [← cp1_0, ← cp1_0]; exact hD
  exact hloop (382 + 1) (0) (by omega) (by omega) _ _ hP hD hS ls (lv_sub hl [0, 1] rfl)
set_option maxHeartbeats 4000000 in
set_option maxRecDepth 100000 in
theorem c_X7_leaves (l : Launch) (D : va_G) (cI cC cB cS : ClassId) (zz : Nat) (ma : Nat → Nat) (fi : Nat → Int32) (wd : Int64) (g : Nat → Nat → Int32) (lf : Int32) (np : Nat) (Pp : Nat → Int32) (hs : Nat → Nat → Nat → Int32) (lfs : Nat → Int32) (n : Nat) (q : Nat) (k : Nat) (fee : Int32) (j : Nat) (hnp : np ≤ 6) (hPR : PRel Pp np hs lfs) (hnb : n ≤ 30) (hqc : q ≤ 16) (hits : ∀ k, k < n → g 11 k = -9 ∨ ∃ w, w < q ∧ g 11 k = nI w) (hk : k < n) (hj4 : j < 4) : Met l yX7_leaves wsX7_leaves ({ frames := 1, cells := 0, slots := 0, locals := 23 } : Room) (wrPc D (TYS cI cC cB cS) [.ref (ma 0), .int (nI k), .int (fee), .int (nI j)] ([(ma 0, oE 7 [.ref (ma 1), .ref (ma 2), .int (nI np), .ref (ma 3), .ref (ma 4), .int (fi 1), .int (fi 2), .int (fi 3), .long (wd), .int (fi 4), .int (fi 5)]), (ma 1, iE cI 382 (enc g lf)), (ma 2, iE cI 2292 (Pp))]) zz) (va_Qi (fun (r : Int32) (u : (Nat → Nat → Int32) × Nat × (Nat → Nat → Nat → Int32) × (Nat → Int32) × (Nat → Int32)) => r = fee ∧ LetOut (w2 g 2 (upd (g 2) j (g 2 j + fee))) q k u.1 ∧ Sv np hs lfs g lf u.2.1 u.2.2.1 u.2.2.2.1 ∧ PRel u.2.2.2.2 u.2.1 u.2.2.1 u.2.2.2.1) (wrB D (va_A ([(ma 0, oE 7 [.ref (ma 1), .ref (ma 2), .int (nI np), .ref (ma 3), .ref (ma 4), .int (fi 1), .int (fi 2), .int (fi 3), .long (wd), .int (fi 4), .int (fi 5)]), (ma 1, iE cI 382 (enc g lf)), (ma 2, iE cI 2292 (Pp))]) zz) (fun u => [(ma 0, oE 7 [.ref (ma 1), .ref (ma 2), .int (nI u.2.1), .ref (ma 3), .ref (ma 4), .int (fi 1), .int (fi 2), .int (fi 3), .long (wd), .int (fi 4), .int (fi 5)]), (ma 1, iE cI 382 (enc u.1 (lf + 1))), (ma 2, iE cI 2292 (u.2.2.2.2))])) (va_A ([(ma 0, oE 7 [.ref (ma 1), .ref (ma 2), .int (nI np), .ref (ma 3), .ref (ma 4), .int (fi 1), .int (fi 2), .int (fi 3), .long (wd), .int (fi 4), .int (fi 5)]), (ma 1, iE cI 382 (enc g lf)), (ma 2, iE cI 2292 (Pp))]) zz)) 0 0 (va_A ([(ma 0, oE 7 [.ref (ma 1), .ref (ma 2), .int (nI np), .ref (ma 3), .ref (ma 4), .int (fi 1), .int (fi 2), .int (fi 3), .long (wd), .int (fi 4), .int (fi 5)]), (ma 1, iE cI 382 (enc g lf)), (ma 2, iE cI 2292 (Pp))]) zz) := by
  refine wr_intro (Qc := fun A B => va_Qi (fun (r : Int32) (u : (Nat → Nat → Int32) × Nat × (Nat → Nat → Nat → Int32) × (Nat → Int32) × (Nat → Int32)) => r = fee ∧ LetOut (w2 g 2 (upd (g 2) j (g 2 j + fee))) q k u.1 ∧ Sv np hs lfs g lf u.2.1 u.2.2.1 u.2.2.2.1 ∧ PRel u.2.2.2.2 u.2.1 u.2.2.1 u.2.2.2.1) B A) (by decide) rfl (Nat.le_of_ble_eq_true rfl) ?_
  intro p e s m below meth c A hx hb hr hml hts hown hlocks hin hP hK hD hA hS ls hl
  have hP : va_P D vwCl [(ma 0, oE 7 [.ref (ma 1), .ref (ma 2), .int (nI np), .ref (ma 3), .ref (ma 4), .int (fi 1), .int (fi 2), .int (fi 3), .long (wd), .int (fi 4), .int (fi 5)]), (ma 1, iE cI 382 (enc g lf)), (ma 2, iE cI 2292 (Pp))] s.heap := hP
  have hD : va_D A [(ma 0, oE 7 [.ref (ma 1), .ref (ma 2), .int (nI np), .ref (ma 3), .ref (ma 4), .int (fi 1), .int (fi 2), .int (fi 3), .long (wd), .int (fi 4), .int (fi 5)]), (ma 1, iE cI 382 (enc g lf)), (ma 2, iE cI 2292 (Pp))] := hD
  have hown : s.vm.findClass RX7 = some m.cls := hown
  have hl : lv_has ls 4 [(0, .ref (ma 0)), (1, .int (nI k)), (2, .int (fee)), (3, .int (nI j))] := hl
  refine lv_aload_n hx hb dX7_leaves_0 rfl (lv_at hl 0 rfl) ?_
  refine cv_wv (As := []) (rest := []) (tys := TYS cI cC cB cS) (ci := 7) (wr := []) ⟨hx, hb, hml, hown, hts⟩ (c_X7_notes l D cI cC cB cS _ (ma) ((fun j => [nI np, fi 1, fi 2, fi 3, fi 4, fi 5].getD j 0)) (wd) (g) (lf) (np) (Pp) (hs) (lfs) (hnp) (hPR)) (cwV 0 hts gX7_leaves_X7_notes rfl rfl rfl (by decide +kernel) ⟨Nat.le_of_ble_eq_true rfl, Nat.le_of_ble_eq_true rfl⟩) hK hP hD hS hA [0, 1, 2] [] rfl rfl (by decide) (by decide) (by decide) rfl rfl rfl rfl hl.1 (Nat.le_of_ble_eq_true rfl) dX7_leaves_1 ⟨Nat.le_of_ble_eq_true rfl, Nat.le_of_ble_eq_true rfl⟩ (fun u_1 H locs hu_1 hP hD hS => ?_)
  have hP : va_P D vwCl [(ma 0, oE 7 [.ref (ma 1), .ref (ma 2), .int (nI u_1.1), .ref (ma 3), .ref (ma 4), .int (fi 1), .int (fi 2), .int (fi 3), .long (wd), .int (fi 4), .int (fi 5)]), (ma 1, iE cI 382 (enc g lf)), (ma 2, iE cI 2292 (u_1.2.2.2))] H := hP
  have hD : va_D A [(ma 0, oE 7 [.ref (ma 1), .ref (ma 2), .int (nI u_1.1), .ref (ma 3), .ref (ma 4), .int (fi 1), .int (fi 2), .int (fi 3), .long (wd), .int (fi 4), .int (fi 5)]), (ma 1, iE cI 382 (enc g lf)), (ma 2, iE cI 2292 (u_1.2.2.2))] := hD
  have hu_1 : Sv np hs lfs g lf u_1.1 u_1.2.1 u_1.2.2.1 ∧ PRel u_1.2.2.2 u_1.1 u_1.2.1 u_1.2.2.1 := hu_1
  refine lv_aload_n hx hb dX7_leaves_4 rfl (lv_at hl 0 rfl) ?_
  refine va_get (D := D) (ci := 7) (v := .ref (ma 1)) (C := RX7) (T := TX7) (N := 11) hx hb hts (by decide +kernel) hown hK.1 hP 0 rfl rfl 0 (by decide) (hts (.fieldLink RX7 7 "ParkingGarageModel" "s" "[I") (by decide +kernel)) (fun _ h9 => h9) rfl dX7_leaves_5 ?_
  refine lv_bipush (v := 10) hx hb dX7_leaves_8 (by decide) ?_
  refine lv_iload_n hx hb dX7_leaves_10 rfl (lv_at hl 3 rfl) ?_
  refine lv_iadd hx hb dX7_leaves_11 ?_
  rw [show (((10) + (nI j)) : Int32) = nI (10 + j) from (nI_add 10 j)]
  refine lv_dup2_11 hx hb dX7_leaves_12 rfl rfl ?_
  refine iald_n (f := enc g lf) hx hb hK.1 hP 1 0 rfl rfl (10 + j) (rfl) (by omega) (by omega) dX7_leaves_13 ?_
  rw [show enc g lf (10 + j) = g 2 j from enc_at (by omega) (posR_acc (by omega))]
  refine lv_iload_n hx hb dX7_leaves_14 rfl (lv_at hl 2 rfl) ?_
  refine lv_iadd hx hb dX7_leaves_15 ?_
  refine iast_n (f := enc g lf) hx hb hK.1 hP hD hS 1 0 rfl rfl (10 + j) (rfl) (by omega) (by omega) dX7_leaves_16 (fun H locs hP hD hS => ?_)
  rw [enc_up 2 j (by omega) (posR_acc (by omega))] at hP hD
  have hP : va_P D vwCl [(ma 0, oE 7 [.ref (ma 1), .ref (ma 2), .int (nI u_1.1), .ref (ma 3), .ref (ma 4), .int (fi 1), .int (fi 2), .int (fi 3), .long (wd), .int (fi 4), .int (fi 5)]), (ma 1, iE cI 382 (enc (w2 g 2 (upd (g 2) j ((g 2 j) + (fee)))) lf)), (ma 2, iE cI 2292 (u_1.2.2.2))] H := hP
  have hD : va_D A [(ma 0, oE 7 [.ref (ma 1), .ref (ma 2), .int (nI u_1.1), .ref (ma 3), .ref (ma 4), .int (fi 1), .int (fi 2), .int (fi 3), .long (wd), .int (fi 4), .int (fi 5)]), (ma 1, iE cI 382 (enc (w2 g 2 (upd (g 2) j ((g 2 j) + (fee)))) lf)), (ma 2, iE cI 2292 (u_1.2.2.2))] := hD
  refine lv_aload_n hx hb dX7_leaves_17 rfl (lv_at hl 0 rfl) ?_
  refine lv_iload_n hx hb dX7_leaves_18 rfl (lv_at hl 1 rfl) ?_
  refine lv_bipush (v := 6) hx hb dX7_leaves_19 (by decide) ?_
  refine cv_i (As := [.int (nI k), .int (6)]) (rest := []) (tys := TYS cI cC cB cS) (ci := 7) ⟨hx, hb, hml, hown, hts⟩ (c_X7_of l D cI cC cB cS (ma) ((fun j => [nI u_1.1, fi 1, fi 2, fi 3, fi 4, fi 5].getD j 0)) (wd) ((w2 g 2 (upd (g 2) j ((g 2 j) + (fee))))) (lf) (k) (6) (by omega) (by omega)) (cwV 2 hts gX7_leaves_X7_of rfl rfl rfl (by decide +kernel) ⟨Nat.le_of_ble_eq_true rfl, Nat.le_of_ble_eq_true rfl⟩) hK hP [0, 1] rfl rfl rfl rfl rfl hl.1 (Nat.le_of_ble_eq_true rfl) dX7_leaves_21 ⟨Nat.le_of_ble_eq_true rfl, Nat.le_of_ble_eq_true rfl⟩ (fun r_2 hr_2 => ?_)
  have hr_2 : r_2 = g 11 k := hr_2
  subst hr_2
  refine lv_bipush (v := -9) hx hb dX7_leaves_24 (by decide) ?_
  refine lv_icmp_eq (tgt := 41) hx hb dX7_leaves_26 (by decide) (fun c_3 => ?_) (fun c_3 => ?_)
  · -- c_3: g 11 k = -9
    refine lv_aload_n hx hb dX7_leaves_41 rfl (lv_at hl 0 rfl) ?_
    refine lv_iload_n hx hb dX7_leaves_42 rfl (lv_at hl 1 rfl) ?_
    refine lv_iconst (v := 4) hx hb dX7_leaves_43 (by decide) ?_
    refine lv_iconst (v := 0) hx hb dX7_leaves_44 (by decide) ?_
    refine cv_wv (As := [.int (nI k), .int (4), .int (0)]) (rest := []) (tys := TYS cI cC cB cS) (ci := 7) (wr := [(ma 2, iE cI 2292 (u_1.2.2.2))]) ⟨hx, hb, hml, hown, hts⟩ (c_X7_sets l D cI cC cB cS _ (ma) ((fun j => [nI u_1.1, fi 1, fi 2, fi 3, fi 4, fi 5].getD j 0)) (wd) ((w2 g 2 (upd (g 2) j ((g 2 j) + (fee))))) (lf) (k) (4) (0) (by omega) (by omega)) (cwV 3 hts gX7_leaves_X7_sets rfl rfl rfl (by decide +kernel) ⟨Nat.le_of_ble_eq_true rfl, Nat.le_of_ble_eq_true rfl⟩) hK hP hD hS hA [0, 1] [2] rfl rfl (by decide) (by decide) (by decide) rfl rfl rfl rfl hl.1 (Nat.le_of_ble_eq_true rfl) dX7_leaves_45 ⟨Nat.le_of_ble_eq_true rfl, Nat.le_of_ble_eq_true rfl⟩ (fun u_4 H locs hu_4 hP hD hS => ?_)
    have hP : va_P D vwCl [(ma 2, iE cI 2292 (u_1.2.2.2)), (ma 0, oE 7 [.ref (ma 1), .ref (ma 2), .int (nI u_1.1), .ref (ma 3), .ref (ma 4), .int (fi 1), .int (fi 2), .int (fi 3), .long (wd), .int (fi 4), .int (fi 5)]), (ma 1, iE cI 382 (enc (w2 (w2 g 2 (upd (g 2) j ((g 2 j) + (fee)))) 8 (upd (g 8) k (0))) lf))] H := hP
    have hD : va_D A [(ma 2, iE cI 2292 (u_1.2.2.2)), (ma 0, oE 7 [.ref (ma 1), .ref (ma 2), .int (nI u_1.1), .ref (ma 3), .ref (ma 4), .int (fi 1), .int (fi 2), .int (fi 3), .long (wd), .int (fi 4), .int (fi 5)]), (ma 1, iE cI 382 (enc (w2 (w2 g 2 (upd (g 2) j ((g 2 j) + (fee)))) 8 (upd (g 8) k (0))) lf))] := hD
    have hu_4 : True := hu_4
    refine lv_aload_n hx hb dX7_leaves_48 rfl (lv_at hl 0 rfl) ?_
    refine lv_iload_n hx hb dX7_leaves_49 rfl (lv_at hl 1 rfl) ?_
    refine lv_iconst (v := 5) hx hb dX7_leaves_50 (by decide) ?_
    refine lv_iconst (v := 0) hx hb dX7_leaves_51 (by decide) ?_
    refine cv_wv (As := [.int (nI k), .int (5), .int (0)]) (rest := []) (tys := TYS cI cC cB cS) (ci := 7) (wr := [(ma 2, iE cI 2292 (u_1.2.2.2))]) ⟨hx, hb, hml, hown, hts⟩ (c_X7_sets l D cI cC cB cS _ (ma) ((fun j => [nI u_1.1, fi 1, fi 2, fi 3, fi 4, fi 5].getD j 0)) (wd) ((w2 (w2 g 2 (upd (g 2) j ((g 2 j) + (fee)))) 8 (upd (g 8) k (0)))) (lf) (k) (5) (0) (by omega) (by omega)) (cwV 3 hts gX7_leaves_X7_sets rfl rfl rfl (by decide +kernel) ⟨Nat.le_of_ble_eq_true rfl, Nat.le_of_ble_eq_true rfl⟩) hK hP hD hS hA [1, 2] [0] rfl rfl (by decide) (by decide) (by decide) rfl rfl rfl rfl hl.1 (Nat.le_of_ble_eq_true rfl) dX7_leaves_52 ⟨Nat.le_of_ble_eq_true rfl, Nat.le_of_ble_eq_true rfl⟩ (fun u_5 H locs hu_5 hP hD hS => ?_)
    have hP : va_P D vwCl [(ma 2, iE cI 2292 (u_1.2.2.2)), (ma 0, oE 7 [.ref (ma 1), .ref (ma 2), .int (nI u_1.1), .ref (ma 3), .ref (ma 4), .int (fi 1), .int (fi 2), .int (fi 3), .long (wd), .int (fi 4), .int (fi 5)]), (ma 1, iE cI 382 (enc (w2 (w2 (w2 g 2 (upd (g 2) j ((g 2 j) + (fee)))) 8 (upd (g 8) k (0))) 10 (upd (g 10) k (0))) lf))] H := hP
    have hD : va_D A [(ma 2, iE cI 2292 (u_1.2.2.2)), (ma 0, oE 7 [.ref (ma 1), .ref (ma 2), .int (nI u_1.1), .ref (ma 3), .ref (ma 4), .int (fi 1), .int (fi 2), .int (fi 3), .long (wd), .int (fi 4), .int (fi 5)]), (ma 1, iE cI 382 (enc (w2 (w2 (w2 g 2 (upd (g 2) j ((g 2 j) + (fee)))) 8 (upd (g 8) k (0))) 10 (upd (g 10) k (0))) lf))] := hD
    have hu_5 : True := hu_5
    refine lv_aload_n hx hb dX7_leaves_55 rfl (lv_at hl 0 rfl) ?_
    refine lv_iload_n hx hb dX7_leaves_56 rfl (lv_at hl 1 rfl) ?_
    refine lv_bipush (v := 6) hx hb dX7_leaves_57 (by decide) ?_
    refine lv_bipush (v := -9) hx hb dX7_leaves_59 (by decide) ?_
    refine cv_wv (As := [.int (nI k), .int (6), .int (-9)]) (rest := []) (tys := TYS cI cC cB cS) (ci := 7) (wr := [(ma 2, iE cI 2292 (u_1.2.2.2))]) ⟨hx, hb, hml, hown, hts⟩ (c_X7_sets l D cI cC cB cS _ (ma) ((fun j => [nI u_1.1, fi 1, fi 2, fi 3, fi 4, fi 5].getD j 0)) (wd) ((w2 (w2 (w2 g 2 (upd (g 2) j ((g 2 j) + (fee)))) 8 (upd (g 8) k (0))) 10 (upd (g 10) k (0)))) (lf) (k) (6) (-9) (by omega) (by omega)) (cwV 3 hts gX7_leaves_X7_sets rfl rfl rfl (by decide +kernel) ⟨Nat.le_of_ble_eq_true rfl, Nat.le_of_ble_eq_true rfl⟩) hK hP hD hS hA [1, 2] [0] rfl rfl (by decide) (by decide) (by decide) rfl rfl rfl rfl hl.1 (Nat.le_of_ble_eq_true rfl) dX7_leaves_61 ⟨Nat.le_of_ble_eq_true rfl, Nat.le_of_ble_eq_true rfl⟩ (fun u_6 H locs hu_6 hP hD hS => ?_)
    have hP : va_P D vwCl [(ma 2, iE cI 2292 (u_1.2.2.2)), (ma 0, oE 7 [.ref (ma 1), .ref (ma 2), .int (nI u_1.1), .ref (ma 3), .ref (ma 4), .int (fi 1), .int (fi 2), .int (fi 3), .long (wd), .int (fi 4), .int (fi 5)]), (ma 1, iE cI 382 (enc (w2 (w2 (w2 (w2 g 2 (upd (g 2) j ((g 2 j) + (fee)))) 8 (upd (g 8) k (0))) 10 (upd (g 10) k (0))) 11 (upd (g 11) k (-9))) lf))] H := hP
    have hD : va_D A [(ma 2, iE cI 2292 (u_1.2.2.2)), (ma 0, oE 7 [.ref (ma 1), .ref (ma 2), .int (nI u_1.1), .ref (ma 3), .ref (ma 4), .int (fi 1), .int (fi 2), .int (fi 3), .long (wd), .int (fi 4), .int (fi 5)]), (ma 1, iE cI 382 (enc (w2 (w2 (w2 (w2 g 2 (upd (g 2) j ((g 2 j) + (fee)))) 8 (upd (g 8) k (0))) 10 (upd (g 10) k (0))) 11 (upd (g 11) k (-9))) lf))] := hD
    have hu_6 : True := hu_6
    refine lv_aload_n hx hb dX7_leaves_64 rfl (lv_at hl 0 rfl) ?_
    refine lv_iload_n hx hb dX7_leaves_65 rfl (lv_at hl 1 rfl) ?_
    refine lv_bipush (v := 7) hx hb dX7_leaves_66 (by decide) ?_
    refine lv_iconst (v := 0) hx hb dX7_leaves_68 (by decide) ?_
    refine cv_wv (As := [.int (nI k), .int (7), .int (0)]) (rest := []) (tys := TYS cI cC cB cS) (ci := 7) (wr := [(ma 2, iE cI 2292 (u_1.2.2.2))]) ⟨hx, hb, hml, hown, hts⟩ (c_X7_sets l D cI cC cB cS _ (ma) ((fun j => [nI u_1.1, fi 1, fi 2, fi 3, fi 4, fi 5].getD j 0)) (wd) ((w2 (w2 (w2 (w2 g 2 (upd (g 2) j ((g 2 j) + (fee)))) 8 (upd (g 8) k (0))) 10 (upd (g 10) k (0))) 11 (upd (g 11) k (-9)))) (lf) (k) (7) (0) (by omega) (by omega)) (cwV 3 hts gX7_leaves_X7_sets rfl rfl rfl (by decide +kernel) ⟨Nat.le_of_ble_eq_true rfl, Nat.le_of_ble_eq_true rfl⟩) hK hP hD hS hA [1, 2] [0] rfl rfl (by decide) (by decide) (by decide) rfl rfl rfl rfl hl.1 (Nat.le_of_ble_eq_true rfl) dX7_leaves_69 ⟨Nat.le_of_ble_eq_true rfl, Nat.le_of_ble_eq_true rfl⟩ (fun u_7 H locs hu_7 hP hD hS => ?_)
    have hP : va_P D vwCl [(ma 2, iE cI 2292 (u_1.2.2.2)), (ma 0, oE 7 [.ref (ma 1), .ref (ma 2), .int (nI u_1.1), .ref (ma 3), .ref (ma 4), .int (fi 1), .int (fi 2), .int (fi 3), .long (wd), .int (fi 4), .int (fi 5)]), (ma 1, iE cI 382 (enc (w2 (w2 (w2 (w2 (w2 g 2 (upd (g 2) j ((g 2 j) + (fee)))) 8 (upd (g 8) k (0))) 10 (upd (g 10) k (0))) 11 (upd (g 11) k (-9))) 9 (upd (g 9) k (0))) lf))] H := hP
    have hD : va_D A [(ma 2, iE cI 2292 (u_1.2.2.2)), (ma 0, oE 7 [.ref (ma 1), .ref (ma 2), .int (nI u_1.1), .ref (ma 3), .ref (ma 4), .int (fi 1), .int (fi 2), .int (fi 3), .long (wd), .int (fi 4), .int (fi 5)]), (ma 1, iE cI 382 (enc (w2 (w2 (w2 (w2 (w2 g 2 (upd (g 2) j ((g 2 j) + (fee)))) 8 (upd (g 8) k (0))) 10 (upd (g 10) k (0))) 11 (upd (g 11) k (-9))) 9 (upd (g 9) k (0))) lf))] := hD
    have hu_7 : True := hu_7
    refine lv_aload_n hx hb dX7_leaves_72 rfl (lv_at hl 0 rfl) ?_
    refine va_get (D := D) (ci := 7) (v := .ref (ma 1)) (C := RX7) (T := TX7) (N := 11) hx hb hts (by decide +kernel) hown hK.1 hP 1 rfl rfl 0 (by decide) (hts (.fieldLink RX7 7 "ParkingGarageModel" "s" "[I") (by decide +kernel)) (fun _ h9 => h9) rfl dX7_leaves_73 ?_
    refine lv_iconst (v := 4) hx hb dX7_leaves_76 (by decide) ?_
    refine lv_dup2_11 hx hb dX7_leaves_77 rfl rfl ?_
    refine iald_n (f := enc (w2 (w2 (w2 (w2 (w2 g 2 (upd (g 2) j ((g 2 j) + (fee)))) 8 (upd (g 8) k (0))) 10 (upd (g 10) k (0))) 11 (upd (g 11) k (-9))) 9 (upd (g 9) k (0))) lf) hx hb hK.1 hP 2 0 rfl rfl (4) (rfl) (by decide) (by omega) dX7_leaves_78 ?_
    rw [show enc (w2 (w2 (w2 (w2 (w2 g 2 (upd (g 2) j ((g 2 j) + (fee)))) 8 (upd (g 8) k (0))) 10 (upd (g 10) k (0))) 11 (upd (g 11) k (-9))) 9 (upd (g 9) k (0))) lf (4) = lf from rfl]
    refine lv_iconst (v := 1) hx hb dX7_leaves_79 (by decide) ?_
    refine lv_iadd hx hb dX7_leaves_80 ?_
    refine iast_n (f := enc (w2 (w2 (w2 (w2 (w2 g 2 (upd (g 2) j ((g 2 j) + (fee)))) 8 (upd (g 8) k (0))) 10 (upd (g 10) k (0))) 11 (upd (g 11) k (-9))) 9 (upd (g 9) k (0))) lf) hx hb hK.1 hP hD hS 2 0 rfl rfl (4) (rfl) (by decide) (by omega) dX7_leaves_81 (fun H locs hP hD hS => ?_)
    rw [enc_up4] at hP hD
    have hP : va_P D vwCl [(ma 2, iE cI 2292 (u_1.2.2.2)), (ma 0, oE 7 [.ref (ma 1), .ref (ma 2), .int (nI u_1.1), .ref (ma 3), .ref (ma 4), .int (fi 1), .int (fi 2), .int (fi 3), .long (wd), .int (fi 4), .int (fi 5)]), (ma 1, iE cI 382 (enc (w2 (w2 (w2 (w2 (w2 g 2 (upd (g 2) j ((g 2 j) + (fee)))) 8 (upd (g 8) k (0))) 10 (upd (g 10) k (0))) 11 (upd (g 11) k (-9))) 9 (upd (g 9) k (0))) ((lf) + (1))))] H := hP
    have hD : va_D A [(ma 2, iE cI 2292 (u_1.2.2.2)), (ma 0, oE 7 [.ref (ma 1), .ref (ma 2), .int (nI u_1.1), .ref (ma 3), .ref (ma 4), .int (fi 1), .int (fi 2), .int (fi 3), .long (wd), .int (fi 4), .int (fi 5)]), (ma 1, iE cI 382 (enc (w2 (w2 (w2 (w2 (w2 g 2 (upd (g 2) j ((g 2 j) + (fee)))) 8 (upd (g 8) k (0))) 10 (upd (g 10) k (0))) 11 (upd (g 11) k (-9))) 9 (upd (g 9) k (0))) ((lf) + (1))))] := hD
    refine lv_iload_n hx hb dX7_leaves_82 rfl (lv_at hl 2 rfl) ?_
    rw [lv_eq0] at hP hD
    have hP : va_P D vwCl [(ma 2, iE cI 2292 (u_1.2.2.2)), (ma 0, oE 7 [.ref (ma 1), .ref (ma 2), .int (nI u_1.1), .ref (ma 3), .ref (ma 4), .int (fi 1), .int (fi 2), .int (fi 3), .long (wd), .int (fi 4), .int (fi 5)]), (ma 1, iE cI 382 (enc (gOut (w2 g 2 (upd (g 2) j (g 2 j + fee))) k) (lf + 1)))] H := hP
    have hD : va_D A [(ma 2, iE cI 2292 (u_1.2.2.2)), (ma 0, oE 7 [.ref (ma 1), .ref (ma 2), .int (nI u_1.1), .ref (ma 3), .ref (ma 4), .int (fi 1), .int (fi 2), .int (fi 3), .long (wd), .int (fi 4), .int (fi 5)]), (ma 1, iE cI 382 (enc (gOut (w2 g 2 (upd (g 2) j (g 2 j + fee))) k) (lf + 1)))] := hD
    exact wr_iret (v := fee) ((gOut (w2 g 2 (upd (g 2) j (g 2 j + fee))) k, u_1.1, u_1.2.1, u_1.2.2.1, u_1.2.2.2)) hx hb hr hlocks hS hP hD [1, 2, 0] rfl rfl (by decide) dX7_leaves_83 (⟨rfl, Or.inr ⟨fun ⟨w, h1, h2⟩ => m9_ne h1 (by omega) (c_3.symm.trans h2), rfl⟩, hu_1.1, hu_1.2⟩)
  · -- c_3: not g 11 k = -9
    obtain ⟨w, hw, hwe⟩ := (hits k hk).resolve_left c_3
    refine lv_aload_n hx hb dX7_leaves_29 rfl (lv_at hl 0 rfl) ?_
    refine lv_aload_n hx hb dX7_leaves_30 rfl (lv_at hl 0 rfl) ?_
    refine lv_iload_n hx hb dX7_leaves_31 rfl (lv_at hl 1 rfl) ?_
    refine lv_bipush (v := 6) hx hb dX7_leaves_32 (by decide) ?_
    refine cv_i (As := [.int (nI k), .int (6)]) (rest := [.ref (ma 0)]) (tys := TYS cI cC cB cS) (ci := 7) ⟨hx, hb, hml, hown, hts⟩ (c_X7_of l D cI cC cB cS (ma) ((fun j => [nI u_1.1, fi 1, fi 2, fi 3, fi 4, fi 5].getD j 0)) (wd) ((w2 g 2 (upd (g 2) j ((g 2 j) + (fee))))) (lf) (k) (6) (by omega) (by omega)) (cwV 2 hts gX7_leaves_X7_of rfl rfl rfl (by decide +kernel) ⟨Nat.le_of_ble_eq_true rfl, Nat.le_of_ble_eq_true rfl⟩) hK hP [0, 1] rfl rfl rfl rfl rfl hl.1 (Nat.le_of_ble_eq_true rfl) dX7_leaves_34 ⟨Nat.le_of_ble_eq_true rfl, Nat.le_of_ble_eq_true rfl⟩ (fun r_8 hr_8 => ?_)
    have hr_8 : r_8 = g 11 k := hr_8
    subst hr_8
    refine lv_iconst (v := 2) hx hb dX7_leaves_37 (by decide) ?_
    rw [show g 11 k = nI w from hwe]
    refine cv_wv (As := [.int (nI w), .int (2)]) (rest := []) (tys := TYS cI cC cB cS) (ci := 7) (wr := [(ma 2, iE cI 2292 (u_1.2.2.2))]) ⟨hx, hb, hml, hown, hts⟩ (c_X7_marks l D cI cC cB cS _ (ma) ((fun j => [nI u_1.1, fi 1, fi 2, fi 3, fi 4, fi 5].getD j 0)) (wd) ((w2 g 2 (upd (g 2) j ((g 2 j) + (fee))))) (lf) (w) (2) (by omega)) (cwV 2 hts gX7_leaves_X7_marks rfl rfl rfl (by decide +kernel) ⟨Nat.le_of_ble_eq_true rfl, Nat.le_of_ble_eq_true rfl⟩) hK hP hD hS hA [0, 1] [2] rfl rfl (by decide) (by decide) (by decide) rfl rfl rfl rfl hl.1 (Nat.le_of_ble_eq_true rfl) dX7_leaves_38 ⟨Nat.le_of_ble_eq_true rfl, Nat.le_of_ble_eq_true rfl⟩ (fun u_9 H locs hu_9 hP hD hS => ?_)
    have hP : va_P D vwCl [(ma 2, iE cI 2292 (u_1.2.2.2)), (ma 0, oE 7 [.ref (ma 1), .ref (ma 2), .int (nI u_1.1), .ref (ma 3), .ref (ma 4), .int (fi 1), .int (fi 2), .int (fi 3), .long (wd), .int (fi 4), .int (fi 5)]), (ma 1, iE cI 382 (enc (w2 (w2 g 2 (upd (g 2) j ((g 2 j) + (fee)))) 18 (upd (g 18) w (2))) lf))] H := hP
    have hD : va_D A [(ma 2, iE cI 2292 (u_1.2.2.2)), (ma 0, oE 7 [.ref (ma 1), .ref (ma 2), .int (nI u_1.1), .ref (ma 3), .ref (ma 4), .int (fi 1), .int (fi 2), .int (fi 3), .long (wd), .int (fi 4), .int (fi 5)]), (ma 1, iE cI 382 (enc (w2 (w2 g 2 (upd (g 2) j ((g 2 j) + (fee)))) 18 (upd (g 18) w (2))) lf))] := hD
    have hu_9 : True := hu_9
    refine lv_aload_n hx hb dX7_leaves_41 rfl (lv_at hl 0 rfl) ?_
    refine lv_iload_n hx hb dX7_leaves_42 rfl (lv_at hl 1 rfl) ?_
    refine lv_iconst (v := 4) hx hb dX7_leaves_43 (by decide) ?_
    refine lv_iconst (v := 0) hx hb dX7_leaves_44 (by decide) ?_
    refine cv_wv (As := [.int (nI k), .int (4), .int (0)]) (rest := []) (tys := TYS cI cC cB cS) (ci := 7) (wr := [(ma 2, iE cI 2292 (u_1.2.2.2))]) ⟨hx, hb, hml, hown, hts⟩ (c_X7_sets l D cI cC cB cS _ (ma) ((fun j => [nI u_1.1, fi 1, fi 2, fi 3, fi 4, fi 5].getD j 0)) (wd) ((w2 (w2 g 2 (upd (g 2) j ((g 2 j) + (fee)))) 18 (upd (g 18) w (2)))) (lf) (k) (4) (0) (by omega) (by omega)) (cwV 3 hts gX7_leaves_X7_sets rfl rfl rfl (by decide +kernel) ⟨Nat.le_of_ble_eq_true rfl, Nat.le_of_ble_eq_true rfl⟩) hK hP hD hS hA [1, 2] [0] rfl rfl (by decide) (by decide) (by decide) rfl rfl rfl rfl hl.1 (Nat.le_of_ble_eq_true rfl) dX7_leaves_45 ⟨Nat.le_of_ble_eq_true rfl, Nat.le_of_ble_eq_true rfl⟩ (fun u_10 H locs hu_10 hP hD hS => ?_)
    have hP : va_P D vwCl [(ma 2, iE cI 2292 (u_1.2.2.2)), (ma 0, oE 7 [.ref (ma 1), .ref (ma 2), .int (nI u_1.1), .ref (ma 3), .ref (ma 4), .int (fi 1), .int (fi 2), .int (fi 3), .long (wd), .int (fi 4), .int (fi 5)]), (ma 1, iE cI 382 (enc (w2 (w2 (w2 g 2 (upd (g 2) j ((g 2 j) + (fee)))) 18 (upd (g 18) w (2))) 8 (upd (g 8) k (0))) lf))] H := hP
    have hD : va_D A [(ma 2, iE cI 2292 (u_1.2.2.2)), (ma 0, oE 7 [.ref (ma 1), .ref (ma 2), .int (nI u_1.1), .ref (ma 3), .ref (ma 4), .int (fi 1), .int (fi 2), .int (fi 3), .long (wd), .int (fi 4), .int (fi 5)]), (ma 1, iE cI 382 (enc (w2 (w2 (w2 g 2 (upd (g 2) j ((g 2 j) + (fee)))) 18 (upd (g 18) w (2))) 8 (upd (g 8) k (0))) lf))] := hD
    have hu_10 : True := hu_10
    refine lv_aload_n hx hb dX7_leaves_48 rfl (lv_at hl 0 rfl) ?_
    refine lv_iload_n hx hb dX7_leaves_49 rfl (lv_at hl 1 rfl) ?_
    refine lv_iconst (v := 5) hx hb dX7_leaves_50 (by decide) ?_
    refine lv_iconst (v := 0) hx hb dX7_leaves_51 (by decide) ?_
    refine cv_wv (As := [.int (nI k), .int (5), .int (0)]) (rest := []) (tys := TYS cI cC cB cS) (ci := 7) (wr := [(ma 2, iE cI 2292 (u_1.2.2.2))]) ⟨hx, hb, hml, hown, hts⟩ (c_X7_sets l D cI cC cB cS _ (ma) ((fun j => [nI u_1.1, fi 1, fi 2, fi 3, fi 4, fi 5].getD j 0)) (wd) ((w2 (w2 (w2 g 2 (upd (g 2) j ((g 2 j) + (fee)))) 18 (upd (g 18) w (2))) 8 (upd (g 8) k (0)))) (lf) (k) (5) (0) (by omega) (by omega)) (cwV 3 hts gX7_leaves_X7_sets rfl rfl rfl (by decide +kernel) ⟨Nat.le_of_ble_eq_true rfl, Nat.le_of_ble_eq_true rfl⟩) hK hP hD hS hA [1, 2] [0] rfl rfl (by decide) (by decide) (by decide) rfl rfl rfl rfl hl.1 (Nat.le_of_ble_eq_true rfl) dX7_leaves_52 ⟨Nat.le_of_ble_eq_true rfl, Nat.le_of_ble_eq_true rfl⟩ (fun u_11 H locs hu_11 hP hD hS => ?_)
    have hP : va_P D vwCl [(ma 2, iE cI 2292 (u_1.2.2.2)), (ma 0, oE 7 [.ref (ma 1), .ref (ma 2), .int (nI u_1.1), .ref (ma 3), .ref (ma 4), .int (fi 1), .int (fi 2), .int (fi 3), .long (wd), .int (fi 4), .int (fi 5)]), (ma 1, iE cI 382 (enc (w2 (w2 (w2 (w2 g 2 (upd (g 2) j ((g 2 j) + (fee)))) 18 (upd (g 18) w (2))) 8 (upd (g 8) k (0))) 10 (upd (g 10) k (0))) lf))] H := hP
    have hD : va_D A [(ma 2, iE cI 2292 (u_1.2.2.2)), (ma 0, oE 7 [.ref (ma 1), .ref (ma 2), .int (nI u_1.1), .ref (ma 3), .ref (ma 4), .int (fi 1), .int (fi 2), .int (fi 3), .long (wd), .int (fi 4), .int (fi 5)]), (ma 1, iE cI 382 (enc (w2 (w2 (w2 (w2 g 2 (upd (g 2) j ((g 2 j) + (fee)))) 18 (upd (g 18) w (2))) 8 (upd (g 8) k (0))) 10 (upd (g 10) k (0))) lf))] := hD
    have hu_11 : True := hu_11
    refine lv_aload_n hx hb dX7_leaves_55 rfl (lv_at hl 0 rfl) ?_
    refine lv_iload_n hx hb dX7_leaves_56 rfl (lv_at hl 1 rfl) ?_
    refine lv_bipush (v := 6) hx hb dX7_leaves_57 (by decide) ?_
    refine lv_bipush (v := -9) hx hb dX7_leaves_59 (by decide) ?_
    refine cv_wv (As := [.int (nI k), .int (6), .int (-9)]) (rest := []) (tys := TYS cI cC cB cS) (ci := 7) (wr := [(ma 2, iE cI 2292 (u_1.2.2.2))]) ⟨hx, hb, hml, hown, hts⟩ (c_X7_sets l D cI cC cB cS _ (ma) ((fun j => [nI u_1.1, fi 1, fi 2, fi 3, fi 4, fi 5].getD j 0)) (wd) ((w2 (w2 (w2 (w2 g 2 (upd (g 2) j ((g 2 j) + (fee)))) 18 (upd (g 18) w (2))) 8 (upd (g 8) k (0))) 10 (upd (g 10) k (0)))) (lf) (k) (6) (-9) (by omega) (by omega)) (cwV 3 hts gX7_leaves_X7_sets rfl rfl rfl (by decide +kernel) ⟨Nat.le_of_ble_eq_true rfl, Nat.le_of_ble_eq_true rfl⟩) hK hP hD hS hA [1, 2] [0] rfl rfl (by decide) (by decide) (by decide) rfl rfl rfl rfl hl.1 (Nat.le_of_ble_eq_true rfl) dX7_leaves_61 ⟨Nat.le_of_ble_eq_true rfl, Nat.le_of_ble_eq_true rfl⟩ (fun u_12 H locs hu_12 hP hD hS => ?_)
    have hP : va_P D vwCl [(ma 2, iE cI 2292 (u_1.2.2.2)), (ma 0, oE 7 [.ref (ma 1), .ref (ma 2), .int (nI u_1.1), .ref (ma 3), .ref (ma 4), .int (fi 1), .int (fi 2), .int (fi 3), .long (wd), .int (fi 4), .int (fi 5)]), (ma 1, iE cI 382 (enc (w2 (w2 (w2 (w2 (w2 g 2 (upd (g 2) j ((g 2 j) + (fee)))) 18 (upd (g 18) w (2))) 8 (upd (g 8) k (0))) 10 (upd (g 10) k (0))) 11 (upd (g 11) k (-9))) lf))] H := hP
    have hD : va_D A [(ma 2, iE cI 2292 (u_1.2.2.2)), (ma 0, oE 7 [.ref (ma 1), .ref (ma 2), .int (nI u_1.1), .ref (ma 3), .ref (ma 4), .int (fi 1), .int (fi 2), .int (fi 3), .long (wd), .int (fi 4), .int (fi 5)]), (ma 1, iE cI 382 (enc (w2 (w2 (w2 (w2 (w2 g 2 (upd (g 2) j ((g 2 j) + (fee)))) 18 (upd (g 18) w (2))) 8 (upd (g 8) k (0))) 10 (upd (g 10) k (0))) 11 (upd (g 11) k (-9))) lf))] := hD
    have hu_12 : True := hu_12
    refine lv_aload_n hx hb dX7_leaves_64 rfl (lv_at hl 0 rfl) ?_
    refine lv_iload_n hx hb dX7_leaves_65 rfl (lv_at hl 1 rfl) ?_
    refine lv_bipush (v := 7) hx hb dX7_leaves_66 (by decide) ?_
    refine lv_iconst (v := 0) hx hb dX7_leaves_68 (by decide) ?_
    refine cv_wv (As := [.int (nI k), .int (7), .int (0)]) (rest := []) (tys := TYS cI cC cB cS) (ci := 7) (wr := [(ma 2, iE cI 2292 (u_1.2.2.2))]) ⟨hx, hb, hml, hown, hts⟩ (c_X7_sets l D cI cC cB cS _ (ma) ((fun j => [nI u_1.1, fi 1, fi 2, fi 3, fi 4, fi 5].getD j 0)) (wd) ((w2 (w2 (w2 (w2 (w2 g 2 (upd (g 2) j ((g 2 j) + (fee)))) 18 (upd (g 18) w (2))) 8 (upd (g 8) k (0))) 10 (upd (g 10) k (0))) 11 (upd (g 11) k (-9)))) (lf) (k) (7) (0) (by omega) (by omega)) (cwV 3 hts gX7_leaves_X7_sets rfl rfl rfl (by decide +kernel) ⟨Nat.le_of_ble_eq_true rfl, Nat.le_of_ble_eq_true rfl⟩) hK hP hD hS hA [1, 2] [0] rfl rfl (by decide) (by decide) (by decide) rfl rfl rfl rfl hl.1 (Nat.le_of_ble_eq_true rfl) dX7_leaves_69 ⟨Nat.le_of_ble_eq_true rfl, Nat.le_of_ble_eq_true rfl⟩ (fun u_13 H locs hu_13 hP hD hS => ?_)
    have hP : va_P D vwCl [(ma 2, iE cI 2292 (u_1.2.2.2)), (ma 0, oE 7 [.ref (ma 1), .ref (ma 2), .int (nI u_1.1), .ref (ma 3), .ref (ma 4), .int (fi 1), .int (fi 2), .int (fi 3), .long (wd), .int (fi 4), .int (fi 5)]), (ma 1, iE cI 382 (enc (w2 (w2 (w2 (w2 (w2 (w2 g 2 (upd (g 2) j ((g 2 j) + (fee)))) 18 (upd (g 18) w (2))) 8 (upd (g 8) k (0))) 10 (upd (g 10) k (0))) 11 (upd (g 11) k (-9))) 9 (upd (g 9) k (0))) lf))] H := hP
    have hD : va_D A [(ma 2, iE cI 2292 (u_1.2.2.2)), (ma 0, oE 7 [.ref (ma 1), .ref (ma 2), .int (nI u_1.1), .ref (ma 3), .ref (ma 4), .int (fi 1), .int (fi 2), .int (fi 3), .long (wd), .int (fi 4), .int (fi 5)]), (ma 1, iE cI 382 (enc (w2 (w2 (w2 (w2 (w2 (w2 g 2 (upd (g 2) j ((g 2 j) + (fee)))) 18 (upd (g 18) w (2))) 8 (upd (g 8) k (0))) 10 (upd (g 10) k (0))) 11 (upd (g 11) k (-9))) 9 (upd (g 9) k (0))) lf))] := hD
    have hu_13 : True := hu_13
    refine lv_aload_n hx hb dX7_leaves_72 rfl (lv_at hl 0 rfl) ?_
    refine va_get (D := D) (ci := 7) (v := .ref (ma 1)) (C := RX7) (T := TX7) (N := 11) hx hb hts (by decide +kernel) hown hK.1 hP 1 rfl rfl 0 (by decide) (hts (.fieldLink RX7 7 "ParkingGarageModel" "s" "[I") (by decide +kernel)) (fun _ h9 => h9) rfl dX7_leaves_73 ?_
    refine lv_iconst (v := 4) hx hb dX7_leaves_76 (by decide) ?_
    refine lv_dup2_11 hx hb dX7_leaves_77 rfl rfl ?_
    refine iald_n (f := enc (w2 (w2 (w2 (w2 (w2 (w2 g 2 (upd (g 2) j ((g 2 j) + (fee)))) 18 (upd (g 18) w (2))) 8 (upd (g 8) k (0))) 10 (upd (g 10) k (0))) 11 (upd (g 11) k (-9))) 9 (upd (g 9) k (0))) lf) hx hb hK.1 hP 2 0 rfl rfl (4) (rfl) (by decide) (by omega) dX7_leaves_78 ?_
    rw [show enc (w2 (w2 (w2 (w2 (w2 (w2 g 2 (upd (g 2) j ((g 2 j) + (fee)))) 18 (upd (g 18) w (2))) 8 (upd (g 8) k (0))) 10 (upd (g 10) k (0))) 11 (upd (g 11) k (-9))) 9 (upd (g 9) k (0))) lf (4) = lf from rfl]
    refine lv_iconst (v := 1) hx hb dX7_leaves_79 (by decide) ?_
    refine lv_iadd hx hb dX7_leaves_80 ?_
    refine iast_n (f := enc (w2 (w2 (w2 (w2 (w2 (w2 g 2 (upd (g 2) j ((g 2 j) + (fee)))) 18 (upd (g 18) w (2))) 8 (upd (g 8) k (0))) 10 (upd (g 10) k (0))) 11 (upd (g 11) k (-9))) 9 (upd (g 9) k (0))) lf) hx hb hK.1 hP hD hS 2 0 rfl rfl (4) (rfl) (by decide) (by omega) dX7_leaves_81 (fun H locs hP hD hS => ?_)
    rw [enc_up4] at hP hD
    have hP : va_P D vwCl [(ma 2, iE cI 2292 (u_1.2.2.2)), (ma 0, oE 7 [.ref (ma 1), .ref (ma 2), .int (nI u_1.1), .ref (ma 3), .ref (ma 4), .int (fi 1), .int (fi 2), .int (fi 3), .long (wd), .int (fi 4), .int (fi 5)]), (ma 1, iE cI 382 (enc (w2 (w2 (w2 (w2 (w2 (w2 g 2 (upd (g 2) j ((g 2 j) + (fee)))) 18 (upd (g 18) w (2))) 8 (upd (g 8) k (0))) 10 (upd (g 10) k (0))) 11 (upd (g 11) k (-9))) 9 (upd (g 9) k (0))) ((lf) + (1))))] H := hP
    have hD : va_D A [(ma 2, iE cI 2292 (u_1.2.2.2)), (ma 0, oE 7 [.ref (ma 1), .ref (ma 2), .int (nI u_1.1), .ref (ma 3), .ref (ma 4), .int (fi 1), .int (fi 2), .int (fi 3), .long (wd), .int (fi 4), .int (fi 5)]), (ma 1, iE cI 382 (enc (w2 (w2 (w2 (w2 (w2 (w2 g 2 (upd (g 2) j ((g 2 j) + (fee)))) 18 (upd (g 18) w (2))) 8 (upd (g 8) k (0))) 10 (upd (g 10) k (0))) 11 (upd (g 11) k (-9))) 9 (upd (g 9) k (0))) ((lf) + (1))))] := hD
    refine lv_iload_n hx hb dX7_leaves_82 rfl (lv_at hl 2 rfl) ?_
    rw [lv_eq1] at hP hD
    have hP : va_P D vwCl [(ma 2, iE cI 2292 (u_1.2.2.2)), (ma 0, oE 7 [.ref (ma 1), .ref (ma 2), .int (nI u_1.1), .ref (ma 3), .ref (ma 4), .int (fi 1), .int (fi 2), .int (fi 3), .long (wd), .int (fi 4), .int (fi 5)]), (ma 1, iE cI 382 (enc (w2 (gOut (w2 g 2 (upd (g 2) j (g 2 j + fee))) k) 18 (upd (g 18) w 2)) (lf + 1)))] H := hP
    have hD : va_D A [(ma 2, iE cI 2292 (u_1.2.2.2)), (ma 0, oE 7 [.ref (ma 1), .ref (ma 2), .int (nI u_1.1), .ref (ma 3), .ref (ma 4), .int (fi 1), .int (fi 2), .int (fi 3), .long (wd), .int (fi 4), .int (fi 5)]), (ma 1, iE cI 382 (enc (w2 (gOut (w2 g 2 (upd (g 2) j (g 2 j + fee))) k) 18 (upd (g 18) w 2)) (lf + 1)))] := hD
    exact wr_iret (v := fee) ((w2 (gOut (w2 g 2 (upd (g 2) j (g 2 j + fee))) k) 18 (upd (g 18) w 2), u_1.1, u_1.2.1, u_1.2.2.1, u_1.2.2.2)) hx hb hr hlocks hS hP hD [1, 2, 0] rfl rfl (by decide) dX7_leaves_83 (⟨rfl, Or.inl ⟨w, hw, hwe, rfl⟩, hu_1.1, hu_1.2⟩)
