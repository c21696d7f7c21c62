/-! ===== the reference: reads (laid by wip/whole/gen) ===== -/
set_option maxHeartbeats 4000000 in
set_option maxRecDepth 100000 in
theorem c_X7_reads (l : Launch) (D : va_G) (cI cC cB cS : ClassId) (zz : Nat) (ma : Nat → Nat) (fi : Nat → Int32) (wd : Int64) (L : Nat) (f : Nat → Int32) (g : Nat → Nat → Int32) (lf : Int32) (nx : Int32) (bg : Int32) (nm : Int32) (wr : Int32) (n : Nat) (q : Nat) (tn : Nat) (tu : Nat) (hL : L ≤ 120) (hch : Chr f) (hNs : Nums g n q tn tu) : Met l yX7_reads wsX7_reads ({ frames := 5, cells := 0, slots := 0, locals := 113 } : Room) (wrPc D (TYS cI cC cB cS) [.ref (ma 0)] ([(ma 0, oE 7 [.ref (ma 1), .ref (ma 2), .int (fi 0), .ref (ma 3), .ref (ma 4), .int (nI L), .int (nx), .int (bg), .long (wd), .int (nm), .int (wr)]), (ma 1, iE cI 382 (enc g lf)), (ma 4, iE cB 120 (bt f))]) zz) (va_Qi (fun (r : Int32) (u : TKN × Int32 × (Nat → Nat → Int32)) => ∃ d o, PAll f L d 0 0 g o ∧ ((u.2.1 = 1 ∧ u.1.2.1 ≤ 120 ∧ o = .inl u.1.2.1) ∨ (u.2.1 = 0 ∧ ∃ it, it ≤ 120 ∧ o = .inr (it, u.2.2) ∧ r = nI it))) (wrB D (va_A ([(ma 0, oE 7 [.ref (ma 1), .ref (ma 2), .int (fi 0), .ref (ma 3), .ref (ma 4), .int (nI L), .int (nx), .int (bg), .long (wd), .int (nm), .int (wr)]), (ma 1, iE cI 382 (enc g lf)), (ma 4, iE cB 120 (bt f))]) zz) (fun u => [(ma 0, oE 7 [.ref (ma 1), .ref (ma 2), .int (fi 0), .ref (ma 3), .ref (ma 4), .int (nI L), .int (nI u.1.2.2.1), .int (nI u.1.2.1), .long (u.1.2.2.2.1), .int (u.1.2.2.2.2), .int (u.2.1)]), (ma 1, iE cI 382 (enc u.2.2 lf)), (ma 4, iE cB 120 (bt f))])) (va_A ([(ma 0, oE 7 [.ref (ma 1), .ref (ma 2), .int (fi 0), .ref (ma 3), .ref (ma 4), .int (nI L), .int (nx), .int (bg), .long (wd), .int (nm), .int (wr)]), (ma 1, iE cI 382 (enc g lf)), (ma 4, iE cB 120 (bt f))]) zz)) 0 0 (va_A ([(ma 0, oE 7 [.ref (ma 1), .ref (ma 2), .int (fi 0), .ref (ma 3), .ref (ma 4), .int (nI L), .int (nx), .int (bg), .long (wd), .int (nm), .int (wr)]), (ma 1, iE cI 382 (enc g lf)), (ma 4, iE cB 120 (bt f))]) zz) := by
  refine wr_intro (Qc := fun A B => va_Qi (fun (r : Int32) (u : TKN × Int32 × (Nat → Nat → Int32)) => ∃ d o, PAll f L d 0 0 g o ∧ ((u.2.1 = 1 ∧ u.1.2.1 ≤ 120 ∧ o = .inl u.1.2.1) ∨ (u.2.1 = 0 ∧ ∃ it, it ≤ 120 ∧ o = .inr (it, u.2.2) ∧ r = nI it))) B A) (by decide) rfl (Nat.le_of_ble_eq_true rfl) ?_
  intro p e s m below meth c A hx hb hr hml hts hown hlocks hin hP hK hD hA hS ls hl
  have hP : va_P D vwCl [(ma 0, oE 7 [.ref (ma 1), .ref (ma 2), .int (fi 0), .ref (ma 3), .ref (ma 4), .int (nI L), .int (nx), .int (bg), .long (wd), .int (nm), .int (wr)]), (ma 1, iE cI 382 (enc g lf)), (ma 4, iE cB 120 (bt f))] s.heap := hP
  have hD : va_D A [(ma 0, oE 7 [.ref (ma 1), .ref (ma 2), .int (fi 0), .ref (ma 3), .ref (ma 4), .int (nI L), .int (nx), .int (bg), .long (wd), .int (nm), .int (wr)]), (ma 1, iE cI 382 (enc g lf)), (ma 4, iE cB 120 (bt f))] := hD
  have hown : s.vm.findClass RX7 = some m.cls := hown
  have hl : lv_has ls 2 [(0, .ref (ma 0))] := hl
  refine lv_aload_n hx hb dX7_reads_0 rfl (lv_at hl 0 rfl) ?_
  refine lv_iconst (v := 0) hx hb dX7_reads_1 (by decide) ?_
  refine va_put (D := D) (ci := 7) (v := .int (0)) (ty := .int) (C := RX7) (T := TX7) (N := 11) hx hb hts (by decide +kernel) tyX7 tyX7_ok nmX7 hown hK.1 hP hD hS 0 rfl rfl 6 (by decide) (hts (.fieldLink RX7 85 "ParkingGarageModel" "next" "I") (by decide +kernel)) (fun _ h9 => h9) rfl (by decide +kernel) rfl rfl (Nat.le_of_ble_eq_true rfl) dX7_reads_2 (fun H locs hP hD hS => ?_)
  have hP : va_P D vwCl [(ma 0, oE 7 [.ref (ma 1), .ref (ma 2), .int (fi 0), .ref (ma 3), .ref (ma 4), .int (nI L), .int (0), .int (bg), .long (wd), .int (nm), .int (wr)]), (ma 1, iE cI 382 (enc g lf)), (ma 4, iE cB 120 (bt f))] H := hP
  have hD : va_D A [(ma 0, oE 7 [.ref (ma 1), .ref (ma 2), .int (fi 0), .ref (ma 3), .ref (ma 4), .int (nI L), .int (0), .int (bg), .long (wd), .int (nm), .int (wr)]), (ma 1, iE cI 382 (enc g lf)), (ma 4, iE cB 120 (bt f))] := hD
  refine lv_aload_n hx hb dX7_reads_5 rfl (lv_at hl 0 rfl) ?_
  refine lv_iconst (v := 0) hx hb dX7_reads_6 (by decide) ?_
  refine va_put (D := D) (ci := 7) (v := .int (0)) (ty := .boolean) (C := RX7) (T := TX7) (N := 11) hx hb hts (by decide +kernel) tyX7 tyX7_ok nmX7 hown hK.1 hP hD hS 0 rfl rfl 10 (by decide) (hts (.fieldLink RX7 102 "ParkingGarageModel" "isWrong" "Z") (by decide +kernel)) (fun _ h9 => h9) rfl (by decide +kernel) rfl rfl (Nat.le_of_ble_eq_true rfl) dX7_reads_7 (fun H locs hP hD hS => ?_)
  have hP : va_P D vwCl [(ma 0, oE 7 [.ref (ma 1), .ref (ma 2), .int (fi 0), .ref (ma 3), .ref (ma 4), .int (nI L), .int (0), .int (bg), .long (wd), .int (nm), .int (0)]), (ma 1, iE cI 382 (enc g lf)), (ma 4, iE cB 120 (bt f))] H := hP
  have hD : va_D A [(ma 0, oE 7 [.ref (ma 1), .ref (ma 2), .int (fi 0), .ref (ma 3), .ref (ma 4), .int (nI L), .int (0), .int (bg), .long (wd), .int (nm), .int (0)]), (ma 1, iE cI 382 (enc g lf)), (ma 4, iE cB 120 (bt f))] := hD
  refine lv_iconst (v := 0) hx hb dX7_reads_10 (by decide) ?_
  refine lv_istore_n (lv' := [(1, .int (0)), (0, .ref (ma 0))]) hx hb dX7_reads_11 rfl hl (by decide) rfl (fun ls hl => ?_)
  refine lv_aload_n hx hb dX7_reads_12 rfl (lv_at hl 1 rfl) ?_
  refine cv_wv (As := []) (rest := []) (tys := TYS cI cC cB cS) (ci := 7) (wr := [(ma 1, iE cI 382 (enc g lf))]) ⟨hx, hb, hml, hown, hts⟩ (c_X7_goes l D cI cC cB cS _ (ma) (fi) (wd) (L) (f) (0) (bg) (nm) (0) (hL) (hch) (by omega)) (cwV 0 hts gX7_reads_X7_goes rfl rfl rfl (by decide +kernel) ⟨Nat.le_of_ble_eq_true rfl, Nat.le_of_ble_eq_true rfl⟩) hK hP hD hS hA [0, 2] [1] rfl rfl (by decide) (by decide) (by decide) rfl rfl rfl rfl hl.1 (Nat.le_of_ble_eq_true rfl) dX7_reads_13 ⟨Nat.le_of_ble_eq_true rfl, Nat.le_of_ble_eq_true rfl⟩ (fun u_1 H locs hu_1 hP hD hS => ?_)
  have hP : va_P D vwCl [(ma 1, iE cI 382 (enc g lf)), (ma 0, oE 7 [.ref (ma 1), .ref (ma 2), .int (fi 0), .ref (ma 3), .ref (ma 4), .int (nI L), .int (nI u_1.2.2.1), .int (nI u_1.2.1), .long (u_1.2.2.2.1), .int (u_1.2.2.2.2), .int (0)]), (ma 4, iE cB 120 (bt f))] H := hP
  have hD : va_D A [(ma 1, iE cI 382 (enc g lf)), (ma 0, oE 7 [.ref (ma 1), .ref (ma 2), .int (fi 0), .ref (ma 3), .ref (ma 4), .int (nI L), .int (nI u_1.2.2.1), .int (nI u_1.2.1), .long (u_1.2.2.2.1), .int (u_1.2.2.2.2), .int (0)]), (ma 4, iE cB 120 (bt f))] := hD
  have hu_1 : GoT f L 0 u_1 := hu_1
  obtain ⟨k9_1, s9_1, e9_1, w9_1, m9_1⟩ := u_1
  have htok_1 : Tok f L 0 k9_1 s9_1 e9_1 := hu_1.1
  have hwd_1 : WdOf f k9_1 s9_1 e9_1 w9_1 := hu_1.2.1
  have hnm_1 : NmOf f k9_1 s9_1 e9_1 m9_1 := hu_1.2.2
  have hle_1 := htok_1.le (by omega)
  have heL_1 : e9_1 ≤ L := hle_1.2.2.1
  have hP : va_P D vwCl [(ma 1, iE cI 382 (enc g lf)), (ma 0, oE 7 [.ref (ma 1), .ref (ma 2), .int (fi 0), .ref (ma 3), .ref (ma 4), .int (nI L), .int (nI e9_1), .int (nI s9_1), .long (w9_1), .int (m9_1), .int (0)]), (ma 4, iE cB 120 (bt f))] H := hP
  have hD : va_D A [(ma 1, iE cI 382 (enc g lf)), (ma 0, oE 7 [.ref (ma 1), .ref (ma 2), .int (fi 0), .ref (ma 3), .ref (ma 4), .int (nI L), .int (nI e9_1), .int (nI s9_1), .long (w9_1), .int (m9_1), .int (0)]), (ma 4, iE cB 120 (bt f))] := hD
  have hP : va_P D vwCl [(ma 0, oE 7 [.ref (ma 1), .ref (ma 2), .int (fi 0), .ref (ma 3), .ref (ma 4), .int (nI L), .int (nI e9_1), .int (nI s9_1), .long (w9_1), .int (m9_1), .int (0)]), (ma 1, iE cI 382 (enc g lf)), (ma 4, iE cB 120 (bt f))] H := hP.sub [1, 0, 2] rfl
  have hD : va_D A [(ma 0, oE 7 [.ref (ma 1), .ref (ma 2), .int (fi 0), .ref (ma 3), .ref (ma 4), .int (nI L), .int (nI e9_1), .int (nI s9_1), .long (w9_1), .int (m9_1), .int (0)]), (ma 1, iE cI 382 (enc g lf)), (ma 4, iE cB 120 (bt f))] := hD.sub [1, 0, 2] (by decide) rfl
  have hloop : ∀ (d : Nat) (it k9 s9 e9 : Nat) (w9 : Int64) (m9 : Int32) (gc : Nat → Nat → Int32) (n9 tn9 tu9 p9 : Nat), L + 1 - p9 < d → Tok f L p9 k9 s9 e9 → WdOf f k9 s9 e9 w9 → NmOf f k9 s9 e9 m9 → p9 ≤ L → Nums gc n9 q tn9 tu9 → it ≤ p9 → (∀ d o, PAll f L d it p9 gc o → ∃ d2, PAll f L d2 0 0 g o) → ∀ (H : Heap) (locs : List Loc), va_P D vwCl [(ma 0, oE 7 [.ref (ma 1), .ref (ma 2), .int (fi 0), .ref (ma 3), .ref (ma 4), .int (nI L), .int (nI e9), .int (nI s9), .long (w9), .int (m9), .int (0)]), (ma 1, iE cI 382 (enc gc lf)), (ma 4, iE cB 120 (bt f))] H → va_D A [(ma 0, oE 7 [.ref (ma 1), .ref (ma 2), .int (fi 0), .ref (ma 3), .ref (ma 4), .int (nI L), .int (nI e9), .int (nI s9), .long (w9), .int (m9), .int (0)]), (ma 1, iE cI 382 (enc gc lf)), (ma 4, iE cB 120 (bt f))] → va_S A s.heap H locs → ∀ ls : Array Slot, lv_has ls 2 [(1, .int (nI it)), (0, .ref (ma 0))] → W p l e ({ frames := 5, cells := 0, slots := 0, locals := 113 } : Room) s m (([.ref (ma 0)] : List Value).toArray) below meth c H locs 0 0 (MQ below (va_Qi (fun (r : Int32) (u : TKN × Int32 × (Nat → Nat → Int32)) => ∃ d o, PAll f L d 0 0 g o ∧ ((u.2.1 = 1 ∧ u.1.2.1 ≤ 120 ∧ o = .inl u.1.2.1) ∨ (u.2.1 = 0 ∧ ∃ it, it ≤ 120 ∧ o = .inr (it, u.2.2) ∧ r = nI it))) (wrB D A (fun u => [(ma 0, oE 7 [.ref (ma 1), .ref (ma 2), .int (fi 0), .ref (ma 3), .ref (ma 4), .int (nI L), .int (nI u.1.2.2.1), .int (nI u.1.2.1), .long (u.1.2.2.2.1), .int (u.1.2.2.2.2), .int (u.2.1)]), (ma 1, iE cI 382 (enc u.2.2 lf)), (ma 4, iE cB 120 (bt f))])) A) (([.ref (ma 0)] : List Value).toArray) s 0 0 A) (F0 m 16 ls []) := by
    intro d
    induction d with
    | zero => intro it k9 s9 e9 w9 m9 gc n9 tn9 tu9 p9 h2; exact absurd h2 (Nat.not_lt_zero _)
    | succ d ih =>
      intro it k9 s9 e9 w9 m9 gc n9 tn9 tu9 p9 hd htok_x hwd_x hnm_x hpL9 hN9 hit9 hk9 H locs hP hD hS ls hl
      have hle_x := htok_x.le hpL9
      obtain ⟨hn, hnb, hq, hqc, ht, htb, hu, hub⟩ := id hN9
      refine lv_aload_n hx hb dX7_reads_16 rfl (lv_at hl 1 rfl) ?_
      refine va_get (D := D) (ci := 7) (v := .int (0)) (C := RX7) (T := TX7) (N := 11) hx hb hts (by decide +kernel) hown hK.1 hP 0 rfl rfl 10 (by decide) (hts (.fieldLink RX7 102 "ParkingGarageModel" "isWrong" "Z") (by decide +kernel)) (fun _ h9 => h9) rfl dX7_reads_17 ?_
      refine if_ne_f (tgt := 157) hx hb rfl dX7_reads_20 (by decide) ?_
      refine lv_aload_n hx hb dX7_reads_23 rfl (lv_at hl 1 rfl) ?_
      refine va_get (D := D) (ci := 7) (v := .int (nI s9)) (C := RX7) (T := TX7) (N := 11) hx hb hts (by decide +kernel) hown hK.1 hP 0 rfl rfl 7 (by decide) (hts (.fieldLink RX7 88 "ParkingGarageModel" "begin" "I") (by decide +kernel)) (fun _ h9 => h9) rfl dX7_reads_24 ?_
      refine lv_aload_n hx hb dX7_reads_27 rfl (lv_at hl 1 rfl) ?_
      refine va_get (D := D) (ci := 7) (v := .int (nI L)) (C := RX7) (T := TX7) (N := 11) hx hb hts (by decide +kernel) hown hK.1 hP 0 rfl rfl 5 (by decide) (hts (.fieldLink RX7 82 "ParkingGarageModel" "typed" "I") (by decide +kernel)) (fun _ h9 => h9) rfl dX7_reads_28 ?_
      refine lv_icmp_ge (tgt := 157) hx hb dX7_reads_31 (by decide) (fun c_3 => ?_) (fun c_3 => ?_)
      · -- c_3: nI s9 ≥ nI L
        have hk0 : k9 = 0 := htok_x.k0.mpr (fun q => (fun z => Int32.not_lt.mpr c_3 z) (nI_lt q (by omega)) )
        refine lv_iload_n hx hb dX7_reads_157 rfl (lv_at hl 0 rfl) ?_
        obtain ⟨d2, hd2⟩ := hk9 1 (.inr (it, gc)) ⟨k9, s9, e9, htok_x, Or.inl ⟨hk0, rfl⟩⟩
        exact wr_iret (v := nI it) (((k9, s9, e9, w9, m9), 0, gc)) hx hb hr hlocks hS hP hD [0, 1, 2] rfl rfl (by decide) dX7_reads_158 (⟨d2, _, hd2, Or.inr ⟨rfl, it, by omega, rfl, rfl⟩⟩)
      · -- c_3: not nI s9 ≥ nI L
        have hsL : s9 < L := nI_ltD (n := L) rfl (by omega) (by omega) c_3
        have hk0 : ¬ k9 = 0 := fun q => htok_x.k0.mp q hsL
        refine lv_aload_n hx hb dX7_reads_34 rfl (lv_at hl 1 rfl) ?_
        refine va_get (D := D) (ci := 7) (v := .long (w9)) (C := RX7) (T := TX7) (N := 11) hx hb hts (by decide +kernel) hown hK.1 hP 0 rfl rfl 8 (by decide) (hts (.fieldLink RX7 91 "ParkingGarageModel" "word" "J") (by decide +kernel)) (fun _ h9 => h9) rfl dX7_reads_35 ?_
        refine lv_ldc2 (v := 1510) hx hb hown (hts (.constantLong RX7 126 1510) (by decide +kernel)) dX7_reads_38 ?_
        refine W.lcmp hx hb dX7_reads_41 ?_
        refine lv_if_ne (tgt := 52) hx hb dX7_reads_42 (by decide) (fun c_4 => ?_) (fun c_4 => ?_)
        · -- c_4: lg_cmp (w9) (1510) ≠ 0
          have hV_0_x : ¬ Wrd f k9 s9 e9 0 := fun q => c_4 (cmp_eq.mpr ((hwd_x 0 (by decide)).mpr q))
          refine lv_aload_n hx hb dX7_reads_52 rfl (lv_at hl 1 rfl) ?_
          refine va_get (D := D) (ci := 7) (v := .long (w9)) (C := RX7) (T := TX7) (N := 11) hx hb hts (by decide +kernel) hown hK.1 hP 0 rfl rfl 8 (by decide) (hts (.fieldLink RX7 91 "ParkingGarageModel" "word" "J") (by decide +kernel)) (fun _ h9 => h9) rfl dX7_reads_53 ?_
          refine lv_ldc2 (v := 388708) hx hb hown (hts (.constantLong RX7 131 388708) (by decide +kernel)) dX7_reads_56 ?_
          refine W.lcmp hx hb dX7_reads_59 ?_
          refine lv_if_ne (tgt := 70) hx hb dX7_reads_60 (by decide) (fun c_5 => ?_) (fun c_5 => ?_)
          · -- c_5: lg_cmp (w9) (388708) ≠ 0
            have hV_1_x : ¬ Wrd f k9 s9 e9 1 := fun q => c_5 (cmp_eq.mpr ((hwd_x 1 (by decide)).mpr q))
            refine lv_aload_n hx hb dX7_reads_70 rfl (lv_at hl 1 rfl) ?_
            refine va_get (D := D) (ci := 7) (v := .long (w9)) (C := RX7) (T := TX7) (N := 11) hx hb hts (by decide +kernel) hown hK.1 hP 0 rfl rfl 8 (by decide) (hts (.fieldLink RX7 91 "ParkingGarageModel" "word" "J") (by decide +kernel)) (fun _ h9 => h9) rfl dX7_reads_71 ?_
            refine lv_ldc2 (v := 4075196) hx hb hown (hts (.constantLong RX7 136 4075196) (by decide +kernel)) dX7_reads_74 ?_
            refine W.lcmp hx hb dX7_reads_77 ?_
            refine lv_if_ne (tgt := 90) hx hb dX7_reads_78 (by decide) (fun c_6 => ?_) (fun c_6 => ?_)
            · -- c_6: lg_cmp (w9) (4075196) ≠ 0
              have hV_2_x : ¬ Wrd f k9 s9 e9 2 := fun q => c_6 (cmp_eq.mpr ((hwd_x 2 (by decide)).mpr q))
              refine lv_aload_n hx hb dX7_reads_90 rfl (lv_at hl 1 rfl) ?_
              refine va_get (D := D) (ci := 7) (v := .long (w9)) (C := RX7) (T := TX7) (N := 11) hx hb hts (by decide +kernel) hown hK.1 hP 0 rfl rfl 8 (by decide) (hts (.fieldLink RX7 91 "ParkingGarageModel" "word" "J") (by decide +kernel)) (fun _ h9 => h9) rfl dX7_reads_91 ?_
              refine lv_ldc2 (v := 355390) hx hb hown (hts (.constantLong RX7 141 355390) (by decide +kernel)) dX7_reads_94 ?_
              refine W.lcmp hx hb dX7_reads_97 ?_
              refine lv_if_ne (tgt := 110) hx hb dX7_reads_98 (by decide) (fun c_7 => ?_) (fun c_7 => ?_)
              · -- c_7: lg_cmp (w9) (355390) ≠ 0
                have hV_3_x : ¬ Wrd f k9 s9 e9 3 := fun q => c_7 (cmp_eq.mpr ((hwd_x 3 (by decide)).mpr q))
                refine lv_aload_n hx hb dX7_reads_110 rfl (lv_at hl 1 rfl) ?_
                refine lv_iconst (v := 0) hx hb dX7_reads_111 (by decide) ?_
                refine cv_wv (As := [.int (0)]) (rest := []) (tys := TYS cI cC cB cS) (ci := 7) (wr := [(ma 1, iE cI 382 (enc gc lf))]) ⟨hx, hb, hml, hown, hts⟩ (c_X7_takes l D cI cC cB cS _ (ma) (fi) (w9) (L) (f) (k9) (s9) (e9) (m9) (0) (0) (hL) (hch) (by omega) ((Or.inl rfl)) ((Or.inl rfl))) (cwV 1 hts gX7_reads_X7_takes rfl rfl rfl (by decide +kernel) ⟨Nat.le_of_ble_eq_true rfl, Nat.le_of_ble_eq_true rfl⟩) hK hP hD hS hA [0, 2] [1] rfl rfl (by decide) (by decide) (by decide) rfl rfl rfl rfl hl.1 (Nat.le_of_ble_eq_true rfl) dX7_reads_112 ⟨Nat.le_of_ble_eq_true rfl, Nat.le_of_ble_eq_true rfl⟩ (fun u_8 H locs hu_8 hP hD hS => ?_)
                have hP : va_P D vwCl [(ma 1, iE cI 382 (enc gc lf)), (ma 0, oE 7 [.ref (ma 1), .ref (ma 2), .int (fi 0), .ref (ma 3), .ref (ma 4), .int (nI L), .int (nI u_8.1.2.2.1), .int (nI u_8.1.2.1), .long (u_8.1.2.2.2.1), .int (u_8.1.2.2.2.2), .int (u_8.2)]), (ma 4, iE cB 120 (bt f))] H := hP
                have hD : va_D A [(ma 1, iE cI 382 (enc gc lf)), (ma 0, oE 7 [.ref (ma 1), .ref (ma 2), .int (fi 0), .ref (ma 3), .ref (ma 4), .int (nI L), .int (nI u_8.1.2.2.1), .int (nI u_8.1.2.1), .long (u_8.1.2.2.2.1), .int (u_8.1.2.2.2.2), .int (u_8.2)]), (ma 4, iE cB 120 (bt f))] := hD
                have hu_8 : TakeR f L (0) (0) (k9, s9, e9, w9, m9) u_8 := hu_8
                have hn_8 := take_no hu_8 (fun q9 => absurd q9.2 (by decide))
                subst hn_8
                have hP : va_P D vwCl [(ma 1, iE cI 382 (enc gc lf)), (ma 0, oE 7 [.ref (ma 1), .ref (ma 2), .int (fi 0), .ref (ma 3), .ref (ma 4), .int (nI L), .int (nI e9), .int (nI s9), .long (w9), .int (m9), .int (1)]), (ma 4, iE cB 120 (bt f))] H := hP
                have hD : va_D A [(ma 1, iE cI 382 (enc gc lf)), (ma 0, oE 7 [.ref (ma 1), .ref (ma 2), .int (fi 0), .ref (ma 3), .ref (ma 4), .int (nI L), .int (nI e9), .int (nI s9), .long (w9), .int (m9), .int (1)]), (ma 4, iE cB 120 (bt f))] := hD
                have hitem : PItem f L gc n9 tn9 tu9 k9 s9 e9 (.inl s9) := Or.inr ⟨hV_0_x, Or.inr ⟨hV_1_x, Or.inr ⟨hV_2_x, Or.inr ⟨hV_3_x, rfl⟩⟩⟩⟩
                refine lv_aload_n hx hb dX7_reads_115 rfl (lv_at hl 1 rfl) ?_
                refine lv_aload_n hx hb dX7_reads_116 rfl (lv_at hl 1 rfl) ?_
                refine va_get (D := D) (ci := 7) (v := .int (nI e9)) (C := RX7) (T := TX7) (N := 11) hx hb hts (by decide +kernel) hown hK.1 hP 1 rfl rfl 6 (by decide) (hts (.fieldLink RX7 85 "ParkingGarageModel" "next" "I") (by decide +kernel)) (fun _ h9 => h9) rfl dX7_reads_117 ?_
                refine lv_aload_n hx hb dX7_reads_120 rfl (lv_at hl 1 rfl) ?_
                refine va_get (D := D) (ci := 7) (v := .int (nI s9)) (C := RX7) (T := TX7) (N := 11) hx hb hts (by decide +kernel) hown hK.1 hP 1 rfl rfl 7 (by decide) (hts (.fieldLink RX7 88 "ParkingGarageModel" "begin" "I") (by decide +kernel)) (fun _ h9 => h9) rfl dX7_reads_121 ?_
                refine lv_iconst (v := 1) hx hb dX7_reads_124 (by decide) ?_
                refine lv_iadd hx hb dX7_reads_125 ?_
                rw [show (((nI s9) + (1)) : Int32) = nI (s9 + 1) from (nI_add s9 1)]
                refine lv_icmp_ne (tgt := 147) hx hb dX7_reads_126 (by decide) (fun c_10 => ?_) (fun c_10 => ?_)
                · -- c_10: nI e9 ≠ nI (s9 + 1)
                  refine lv_iconst (v := 0) hx hb dX7_reads_147 (by decide) ?_
                  refine cv_wv (As := [.int (0)]) (rest := []) (tys := TYS cI cC cB cS) (ci := 7) (wr := [(ma 1, iE cI 382 (enc gc lf))]) ⟨hx, hb, hml, hown, hts⟩ (c_X7_takes l D cI cC cB cS _ (ma) (fi) (w9) (L) (f) (k9) (s9) (e9) (m9) (1) (0) (hL) (hch) (by omega) ((Or.inr rfl)) ((Or.inl rfl))) (cwV 1 hts gX7_reads_X7_takes rfl rfl rfl (by decide +kernel) ⟨Nat.le_of_ble_eq_true rfl, Nat.le_of_ble_eq_true rfl⟩) hK hP hD hS hA [1, 2] [0] rfl rfl (by decide) (by decide) (by decide) rfl rfl rfl rfl hl.1 (Nat.le_of_ble_eq_true rfl) dX7_reads_148 ⟨Nat.le_of_ble_eq_true rfl, Nat.le_of_ble_eq_true rfl⟩ (fun u_11 H locs hu_11 hP hD hS => ?_)
                  have hP : va_P D vwCl [(ma 1, iE cI 382 (enc gc lf)), (ma 0, oE 7 [.ref (ma 1), .ref (ma 2), .int (fi 0), .ref (ma 3), .ref (ma 4), .int (nI L), .int (nI u_11.1.2.2.1), .int (nI u_11.1.2.1), .long (u_11.1.2.2.2.1), .int (u_11.1.2.2.2.2), .int (u_11.2)]), (ma 4, iE cB 120 (bt f))] H := hP
                  have hD : va_D A [(ma 1, iE cI 382 (enc gc lf)), (ma 0, oE 7 [.ref (ma 1), .ref (ma 2), .int (fi 0), .ref (ma 3), .ref (ma 4), .int (nI L), .int (nI u_11.1.2.2.1), .int (nI u_11.1.2.1), .long (u_11.1.2.2.2.1), .int (u_11.1.2.2.2.2), .int (u_11.2)]), (ma 4, iE cB 120 (bt f))] := hD
                  have hu_11 : TakeR f L (1) (0) (k9, s9, e9, w9, m9) u_11 := hu_11
                  have hn_11 := take_no hu_11 (fun q9 => absurd q9.1 (by decide))
                  subst hn_11
                  have hP : va_P D vwCl [(ma 1, iE cI 382 (enc gc lf)), (ma 0, oE 7 [.ref (ma 1), .ref (ma 2), .int (fi 0), .ref (ma 3), .ref (ma 4), .int (nI L), .int (nI e9), .int (nI s9), .long (w9), .int (m9), .int (1)]), (ma 4, iE cB 120 (bt f))] H := hP
                  have hD : va_D A [(ma 1, iE cI 382 (enc gc lf)), (ma 0, oE 7 [.ref (ma 1), .ref (ma 2), .int (fi 0), .ref (ma 3), .ref (ma 4), .int (nI L), .int (nI e9), .int (nI s9), .long (w9), .int (m9), .int (1)]), (ma 4, iE cB 120 (bt f))] := hD
                  refine lv_iinc (v := nI (it + 1)) (lv' := [(1, .int (nI (it + 1))), (0, .ref (ma 0))]) hx hb dX7_reads_151 hl (k := 0) rfl (nI_1 _) (by decide) rfl (fun ls hl => ?_)
                  refine lv_goto (tgt := 16) hx hb dX7_reads_154 (by decide) ?_
                  refine lv_aload_n hx hb dX7_reads_16 rfl (lv_at hl 1 rfl) ?_
                  refine va_get (D := D) (ci := 7) (v := .int (1)) (C := RX7) (T := TX7) (N := 11) hx hb hts (by decide +kernel) hown hK.1 hP 1 rfl rfl 10 (by decide) (hts (.fieldLink RX7 102 "ParkingGarageModel" "isWrong" "Z") (by decide +kernel)) (fun _ h9 => h9) rfl dX7_reads_17 ?_
                  refine if_ne_t (tgt := 157) hx hb (by decide) dX7_reads_20 (by decide) ?_
                  refine lv_iload_n hx hb dX7_reads_157 rfl (lv_at hl 0 rfl) ?_
                  obtain ⟨d2, hd2⟩ := hk9 1 (.inl s9) ⟨k9, s9, e9, htok_x, Or.inr ⟨hk0, n9, q, tn9, tu9, _, hN9, hitem, Or.inl ⟨_, rfl, rfl⟩⟩⟩
                  exact wr_iret (v := nI (it + 1)) (((k9, s9, e9, w9, m9), 1, gc)) hx hb hr hlocks hS hP hD [1, 0, 2] rfl rfl (by decide) dX7_reads_158 (⟨d2, _, hd2, Or.inl ⟨rfl, (by omega : s9 ≤ 120), rfl⟩⟩)
                · -- c_10: not nI e9 ≠ nI (s9 + 1)
                  have hnx : e9 = s9 + 1 := nI_inj (by omega) (by omega) c_10
                  refine lv_aload_n hx hb dX7_reads_129 rfl (lv_at hl 1 rfl) ?_
                  refine va_get (D := D) (ci := 7) (v := .ref (ma 4)) (C := RX7) (T := TX7) (N := 11) hx hb hts (by decide +kernel) hown hK.1 hP 1 rfl rfl 4 (by decide) (hts (.fieldLink RX7 19 "ParkingGarageModel" "text" "[B") (by decide +kernel)) (fun _ h9 => h9) rfl dX7_reads_130 ?_
                  refine lv_aload_n hx hb dX7_reads_133 rfl (lv_at hl 1 rfl) ?_
                  refine va_get (D := D) (ci := 7) (v := .int (nI s9)) (C := RX7) (T := TX7) (N := 11) hx hb hts (by decide +kernel) hown hK.1 hP 1 rfl rfl 7 (by decide) (hts (.fieldLink RX7 88 "ParkingGarageModel" "begin" "I") (by decide +kernel)) (fun _ h9 => h9) rfl dX7_reads_134 ?_
                  refine bald_n (f := bt f) hx hb hK.1 hP 2 2 rfl rfl (s9) (rfl) (by omega) (by omega) dX7_reads_137 ?_
                  refine lv_bipush (v := 59) hx hb dX7_reads_138 (by decide) ?_
                  refine lv_icmp_ne (tgt := 147) hx hb dX7_reads_140 (by decide) (fun c_13 => ?_) (fun c_13 => ?_)
                  · -- c_13: (bt f) (s9) ≠ 59
                    refine lv_iconst (v := 0) hx hb dX7_reads_147 (by decide) ?_
                    refine cv_wv (As := [.int (0)]) (rest := []) (tys := TYS cI cC cB cS) (ci := 7) (wr := [(ma 1, iE cI 382 (enc gc lf))]) ⟨hx, hb, hml, hown, hts⟩ (c_X7_takes l D cI cC cB cS _ (ma) (fi) (w9) (L) (f) (k9) (s9) (e9) (m9) (1) (0) (hL) (hch) (by omega) ((Or.inr rfl)) ((Or.inl rfl))) (cwV 1 hts gX7_reads_X7_takes rfl rfl rfl (by decide +kernel) ⟨Nat.le_of_ble_eq_true rfl, Nat.le_of_ble_eq_true rfl⟩) hK hP hD hS hA [1, 2] [0] rfl rfl (by decide) (by decide) (by decide) rfl rfl rfl rfl hl.1 (Nat.le_of_ble_eq_true rfl) dX7_reads_148 ⟨Nat.le_of_ble_eq_true rfl, Nat.le_of_ble_eq_true rfl⟩ (fun u_14 H locs hu_14 hP hD hS => ?_)
                    have hP : va_P D vwCl [(ma 1, iE cI 382 (enc gc lf)), (ma 0, oE 7 [.ref (ma 1), .ref (ma 2), .int (fi 0), .ref (ma 3), .ref (ma 4), .int (nI L), .int (nI u_14.1.2.2.1), .int (nI u_14.1.2.1), .long (u_14.1.2.2.2.1), .int (u_14.1.2.2.2.2), .int (u_14.2)]), (ma 4, iE cB 120 (bt f))] H := hP
                    have hD : va_D A [(ma 1, iE cI 382 (enc gc lf)), (ma 0, oE 7 [.ref (ma 1), .ref (ma 2), .int (fi 0), .ref (ma 3), .ref (ma 4), .int (nI L), .int (nI u_14.1.2.2.1), .int (nI u_14.1.2.1), .long (u_14.1.2.2.2.1), .int (u_14.1.2.2.2.2), .int (u_14.2)]), (ma 4, iE cB 120 (bt f))] := hD
                    have hu_14 : TakeR f L (1) (0) (k9, s9, e9, w9, m9) u_14 := hu_14
                    have hn_14 := take_no hu_14 (fun q9 => absurd q9.1 (by decide))
                    subst hn_14
                    have hP : va_P D vwCl [(ma 1, iE cI 382 (enc gc lf)), (ma 0, oE 7 [.ref (ma 1), .ref (ma 2), .int (fi 0), .ref (ma 3), .ref (ma 4), .int (nI L), .int (nI e9), .int (nI s9), .long (w9), .int (m9), .int (1)]), (ma 4, iE cB 120 (bt f))] H := hP
                    have hD : va_D A [(ma 1, iE cI 382 (enc gc lf)), (ma 0, oE 7 [.ref (ma 1), .ref (ma 2), .int (fi 0), .ref (ma 3), .ref (ma 4), .int (nI L), .int (nI e9), .int (nI s9), .long (w9), .int (m9), .int (1)]), (ma 4, iE cB 120 (bt f))] := hD
                    refine lv_iinc (v := nI (it + 1)) (lv' := [(1, .int (nI (it + 1))), (0, .ref (ma 0))]) hx hb dX7_reads_151 hl (k := 0) rfl (nI_1 _) (by decide) rfl (fun ls hl => ?_)
                    refine lv_goto (tgt := 16) hx hb dX7_reads_154 (by decide) ?_
                    refine lv_aload_n hx hb dX7_reads_16 rfl (lv_at hl 1 rfl) ?_
                    refine va_get (D := D) (ci := 7) (v := .int (1)) (C := RX7) (T := TX7) (N := 11) hx hb hts (by decide +kernel) hown hK.1 hP 1 rfl rfl 10 (by decide) (hts (.fieldLink RX7 102 "ParkingGarageModel" "isWrong" "Z") (by decide +kernel)) (fun _ h9 => h9) rfl dX7_reads_17 ?_
                    refine if_ne_t (tgt := 157) hx hb (by decide) dX7_reads_20 (by decide) ?_
                    refine lv_iload_n hx hb dX7_reads_157 rfl (lv_at hl 0 rfl) ?_
                    obtain ⟨d2, hd2⟩ := hk9 1 (.inl s9) ⟨k9, s9, e9, htok_x, Or.inr ⟨hk0, n9, q, tn9, tu9, _, hN9, hitem, Or.inl ⟨_, rfl, rfl⟩⟩⟩
                    exact wr_iret (v := nI (it + 1)) (((k9, s9, e9, w9, m9), 1, gc)) hx hb hr hlocks hS hP hD [1, 0, 2] rfl rfl (by decide) dX7_reads_158 (⟨d2, _, hd2, Or.inl ⟨rfl, (by omega : s9 ≤ 120), rfl⟩⟩)
                  · -- c_13: not (bt f) (s9) ≠ 59
                    refine lv_iconst (v := 1) hx hb dX7_reads_143 (by decide) ?_
                    refine lv_goto (tgt := 148) hx hb dX7_reads_144 (by decide) ?_
                    refine cv_wv (As := [.int (1)]) (rest := []) (tys := TYS cI cC cB cS) (ci := 7) (wr := [(ma 1, iE cI 382 (enc gc lf))]) ⟨hx, hb, hml, hown, hts⟩ (c_X7_takes l D cI cC cB cS _ (ma) (fi) (w9) (L) (f) (k9) (s9) (e9) (m9) (1) (1) (hL) (hch) (by omega) ((Or.inr rfl)) ((Or.inr rfl))) (cwV 1 hts gX7_reads_X7_takes rfl rfl rfl (by decide +kernel) ⟨Nat.le_of_ble_eq_true rfl, Nat.le_of_ble_eq_true rfl⟩) hK hP hD hS hA [1, 2] [0] rfl rfl (by decide) (by decide) (by decide) rfl rfl rfl rfl hl.1 (Nat.le_of_ble_eq_true rfl) dX7_reads_148 ⟨Nat.le_of_ble_eq_true rfl, Nat.le_of_ble_eq_true rfl⟩ (fun u_16 H locs hu_16 hP hD hS => ?_)
                    have hP : va_P D vwCl [(ma 1, iE cI 382 (enc gc lf)), (ma 0, oE 7 [.ref (ma 1), .ref (ma 2), .int (fi 0), .ref (ma 3), .ref (ma 4), .int (nI L), .int (nI u_16.1.2.2.1), .int (nI u_16.1.2.1), .long (u_16.1.2.2.2.1), .int (u_16.1.2.2.2.2), .int (u_16.2)]), (ma 4, iE cB 120 (bt f))] H := hP
                    have hD : va_D A [(ma 1, iE cI 382 (enc gc lf)), (ma 0, oE 7 [.ref (ma 1), .ref (ma 2), .int (fi 0), .ref (ma 3), .ref (ma 4), .int (nI L), .int (nI u_16.1.2.2.1), .int (nI u_16.1.2.1), .long (u_16.1.2.2.2.1), .int (u_16.1.2.2.2.2), .int (u_16.2)]), (ma 4, iE cB 120 (bt f))] := hD
                    have hu_16 : TakeR f L (1) (1) (k9, s9, e9, w9, m9) u_16 := hu_16
                    have hn_16 := take_no hu_16 (fun q9 => absurd q9.1 (by decide))
                    subst hn_16
                    have hP : va_P D vwCl [(ma 1, iE cI 382 (enc gc lf)), (ma 0, oE 7 [.ref (ma 1), .ref (ma 2), .int (fi 0), .ref (ma 3), .ref (ma 4), .int (nI L), .int (nI e9), .int (nI s9), .long (w9), .int (m9), .int (1)]), (ma 4, iE cB 120 (bt f))] H := hP
                    have hD : va_D A [(ma 1, iE cI 382 (enc gc lf)), (ma 0, oE 7 [.ref (ma 1), .ref (ma 2), .int (fi 0), .ref (ma 3), .ref (ma 4), .int (nI L), .int (nI e9), .int (nI s9), .long (w9), .int (m9), .int (1)]), (ma 4, iE cB 120 (bt f))] := hD
                    refine lv_iinc (v := nI (it + 1)) (lv' := [(1, .int (nI (it + 1))), (0, .ref (ma 0))]) hx hb dX7_reads_151 hl (k := 0) rfl (nI_1 _) (by decide) rfl (fun ls hl => ?_)
                    refine lv_goto (tgt := 16) hx hb dX7_reads_154 (by decide) ?_
                    refine lv_aload_n hx hb dX7_reads_16 rfl (lv_at hl 1 rfl) ?_
                    refine va_get (D := D) (ci := 7) (v := .int (1)) (C := RX7) (T := TX7) (N := 11) hx hb hts (by decide +kernel) hown hK.1 hP 1 rfl rfl 10 (by decide) (hts (.fieldLink RX7 102 "ParkingGarageModel" "isWrong" "Z") (by decide +kernel)) (fun _ h9 => h9) rfl dX7_reads_17 ?_
                    refine if_ne_t (tgt := 157) hx hb (by decide) dX7_reads_20 (by decide) ?_
                    refine lv_iload_n hx hb dX7_reads_157 rfl (lv_at hl 0 rfl) ?_
                    obtain ⟨d2, hd2⟩ := hk9 1 (.inl s9) ⟨k9, s9, e9, htok_x, Or.inr ⟨hk0, n9, q, tn9, tu9, _, hN9, hitem, Or.inl ⟨_, rfl, rfl⟩⟩⟩
                    exact wr_iret (v := nI (it + 1)) (((k9, s9, e9, w9, m9), 1, gc)) hx hb hr hlocks hS hP hD [1, 0, 2] rfl rfl (by decide) dX7_reads_158 (⟨d2, _, hd2, Or.inl ⟨rfl, (by omega : s9 ≤ 120), rfl⟩⟩)
              · -- c_7: not lg_cmp (w9) (355390) ≠ 0
                have hW_3_x : Wrd f k9 s9 e9 3 := (hwd_x 3 (by decide)).mp (cmp_eq.mp c_7)
                refine lv_aload_n hx hb dX7_reads_101 rfl (lv_at hl 1 rfl) ?_
                refine lv_iconst (v := 0) hx hb dX7_reads_102 (by decide) ?_
                refine lv_iconst (v := 1) hx hb dX7_reads_103 (by decide) ?_
                refine cv_wv (As := [.int (0), .int (1)]) (rest := []) (tys := TYS cI cC cB cS) (ci := 7) (wr := []) ⟨hx, hb, hml, hown, hts⟩ (c_X7_readsNumber l D cI cC cB cS _ (ma) (fi) (w9) (L) (f) (gc) (lf) (k9) (s9) (e9) (m9) (0) (1) (200) (hL) (hch) (⟨p9, hpL9, htok_x, hwd_x, hnm_x⟩) (by decide) (by decide) (by decide)) (cwV 2 hts gX7_reads_X7_readsNumber rfl rfl rfl (by decide +kernel) ⟨Nat.le_of_ble_eq_true rfl, Nat.le_of_ble_eq_true rfl⟩) hK hP hD hS hA [0, 1, 2] [] rfl rfl (by decide) (by decide) (by decide) rfl rfl rfl rfl hl.1 (Nat.le_of_ble_eq_true rfl) dX7_reads_104 ⟨Nat.le_of_ble_eq_true rfl, Nat.le_of_ble_eq_true rfl⟩ (fun u_18 H locs hu_18 hP hD hS => ?_)
                have hP : va_P D vwCl [(ma 0, oE 7 [.ref (ma 1), .ref (ma 2), .int (fi 0), .ref (ma 3), .ref (ma 4), .int (nI L), .int (nI u_18.1.2.2.1), .int (nI u_18.1.2.1), .long (u_18.1.2.2.2.1), .int (u_18.1.2.2.2.2), .int (u_18.2.1)]), (ma 1, iE cI 382 (enc u_18.2.2 lf)), (ma 4, iE cB 120 (bt f))] H := hP
                have hD : va_D A [(ma 0, oE 7 [.ref (ma 1), .ref (ma 2), .int (fi 0), .ref (ma 3), .ref (ma 4), .int (nI L), .int (nI u_18.1.2.2.1), .int (nI u_18.1.2.1), .long (u_18.1.2.2.2.1), .int (u_18.1.2.2.2.2), .int (u_18.2.1)]), (ma 1, iE cI 382 (enc u_18.2.2 lf)), (ma 4, iE cB 120 (bt f))] := hD
                have hu_18 : RdR f L (fun o => PNo f L gc 0 1 200 e9 o) u_18.1 u_18.2.1 u_18.2.2 := hu_18
                obtain ⟨⟨k9_18, s9_18, e9_18, w9_18, m9_18⟩, z9_18, g2_18⟩ := u_18
                obtain ⟨hok_18, hr_18⟩ := hu_18
                obtain ⟨p_18, hp_18, hG_18⟩ := id hok_18
                have htok_18 : Tok f L p_18 k9_18 s9_18 e9_18 := hG_18.1
                have hle_18 := htok_18.le hp_18
                have hsem_18 : Semi f k9_18 s9_18 ↔ (e9_18 = s9_18 + 1 ∧ bt f s9_18 = 59) := semi_iff hok_18 hL hch
                rcases hr_18 with ⟨hz_18, hpi_18⟩ | ⟨hz_18, hpi_18⟩
                · -- wrong
                  have hz_18 : z9_18 = 1 := hz_18
                  subst hz_18
                  have hP : va_P D vwCl [(ma 0, oE 7 [.ref (ma 1), .ref (ma 2), .int (fi 0), .ref (ma 3), .ref (ma 4), .int (nI L), .int (nI e9_18), .int (nI s9_18), .long (w9_18), .int (m9_18), .int (1)]), (ma 1, iE cI 382 (enc g2_18 lf)), (ma 4, iE cB 120 (bt f))] H := hP
                  have hD : va_D A [(ma 0, oE 7 [.ref (ma 1), .ref (ma 2), .int (fi 0), .ref (ma 3), .ref (ma 4), .int (nI L), .int (nI e9_18), .int (nI s9_18), .long (w9_18), .int (m9_18), .int (1)]), (ma 1, iE cI 382 (enc g2_18 lf)), (ma 4, iE cB 120 (bt f))] := hD
                  have hitem : PItem f L gc n9 tn9 tu9 k9 s9 e9 (.inl s9_18) := Or.inr ⟨hV_0_x, Or.inr ⟨hV_1_x, Or.inr ⟨hV_2_x, Or.inl ⟨hW_3_x, hpi_18⟩⟩⟩⟩
                  refine lv_goto (tgt := 115) hx hb dX7_reads_107 (by decide) ?_
                  refine lv_aload_n hx hb dX7_reads_115 rfl (lv_at hl 1 rfl) ?_
                  refine lv_aload_n hx hb dX7_reads_116 rfl (lv_at hl 1 rfl) ?_
                  refine va_get (D := D) (ci := 7) (v := .int (nI e9_18)) (C := RX7) (T := TX7) (N := 11) hx hb hts (by decide +kernel) hown hK.1 hP 0 rfl rfl 6 (by decide) (hts (.fieldLink RX7 85 "ParkingGarageModel" "next" "I") (by decide +kernel)) (fun _ h9 => h9) rfl dX7_reads_117 ?_
                  refine lv_aload_n hx hb dX7_reads_120 rfl (lv_at hl 1 rfl) ?_
                  refine va_get (D := D) (ci := 7) (v := .int (nI s9_18)) (C := RX7) (T := TX7) (N := 11) hx hb hts (by decide +kernel) hown hK.1 hP 0 rfl rfl 7 (by decide) (hts (.fieldLink RX7 88 "ParkingGarageModel" "begin" "I") (by decide +kernel)) (fun _ h9 => h9) rfl dX7_reads_121 ?_
                  refine lv_iconst (v := 1) hx hb dX7_reads_124 (by decide) ?_
                  refine lv_iadd hx hb dX7_reads_125 ?_
                  rw [show (((nI s9_18) + (1)) : Int32) = nI (s9_18 + 1) from (nI_add s9_18 1)]
                  refine lv_icmp_ne (tgt := 147) hx hb dX7_reads_126 (by decide) (fun c_20 => ?_) (fun c_20 => ?_)
                  · -- c_20: nI e9_18 ≠ nI (s9_18 + 1)
                    refine lv_iconst (v := 0) hx hb dX7_reads_147 (by decide) ?_
                    refine cv_wv (As := [.int (0)]) (rest := []) (tys := TYS cI cC cB cS) (ci := 7) (wr := [(ma 1, iE cI 382 (enc g2_18 lf))]) ⟨hx, hb, hml, hown, hts⟩ (c_X7_takes l D cI cC cB cS _ (ma) (fi) (w9_18) (L) (f) (k9_18) (s9_18) (e9_18) (m9_18) (1) (0) (hL) (hch) (by omega) ((Or.inr rfl)) ((Or.inl rfl))) (cwV 1 hts gX7_reads_X7_takes rfl rfl rfl (by decide +kernel) ⟨Nat.le_of_ble_eq_true rfl, Nat.le_of_ble_eq_true rfl⟩) hK hP hD hS hA [0, 2] [1] rfl rfl (by decide) (by decide) (by decide) rfl rfl rfl rfl hl.1 (Nat.le_of_ble_eq_true rfl) dX7_reads_148 ⟨Nat.le_of_ble_eq_true rfl, Nat.le_of_ble_eq_true rfl⟩ (fun u_21 H locs hu_21 hP hD hS => ?_)
                    have hP : va_P D vwCl [(ma 1, iE cI 382 (enc g2_18 lf)), (ma 0, oE 7 [.ref (ma 1), .ref (ma 2), .int (fi 0), .ref (ma 3), .ref (ma 4), .int (nI L), .int (nI u_21.1.2.2.1), .int (nI u_21.1.2.1), .long (u_21.1.2.2.2.1), .int (u_21.1.2.2.2.2), .int (u_21.2)]), (ma 4, iE cB 120 (bt f))] H := hP
                    have hD : va_D A [(ma 1, iE cI 382 (enc g2_18 lf)), (ma 0, oE 7 [.ref (ma 1), .ref (ma 2), .int (fi 0), .ref (ma 3), .ref (ma 4), .int (nI L), .int (nI u_21.1.2.2.1), .int (nI u_21.1.2.1), .long (u_21.1.2.2.2.1), .int (u_21.1.2.2.2.2), .int (u_21.2)]), (ma 4, iE cB 120 (bt f))] := hD
                    have hu_21 : TakeR f L (1) (0) (k9_18, s9_18, e9_18, w9_18, m9_18) u_21 := hu_21
                    have hn_21 := take_no hu_21 (fun q9 => absurd q9.1 (by decide))
                    subst hn_21
                    have hP : va_P D vwCl [(ma 1, iE cI 382 (enc g2_18 lf)), (ma 0, oE 7 [.ref (ma 1), .ref (ma 2), .int (fi 0), .ref (ma 3), .ref (ma 4), .int (nI L), .int (nI e9_18), .int (nI s9_18), .long (w9_18), .int (m9_18), .int (1)]), (ma 4, iE cB 120 (bt f))] H := hP
                    have hD : va_D A [(ma 1, iE cI 382 (enc g2_18 lf)), (ma 0, oE 7 [.ref (ma 1), .ref (ma 2), .int (fi 0), .ref (ma 3), .ref (ma 4), .int (nI L), .int (nI e9_18), .int (nI s9_18), .long (w9_18), .int (m9_18), .int (1)]), (ma 4, iE cB 120 (bt f))] := hD
                    refine lv_iinc (v := nI (it + 1)) (lv' := [(1, .int (nI (it + 1))), (0, .ref (ma 0))]) hx hb dX7_reads_151 hl (k := 0) rfl (nI_1 _) (by decide) rfl (fun ls hl => ?_)
                    refine lv_goto (tgt := 16) hx hb dX7_reads_154 (by decide) ?_
                    refine lv_aload_n hx hb dX7_reads_16 rfl (lv_at hl 1 rfl) ?_
                    refine va_get (D := D) (ci := 7) (v := .int (1)) (C := RX7) (T := TX7) (N := 11) hx hb hts (by decide +kernel) hown hK.1 hP 1 rfl rfl 10 (by decide) (hts (.fieldLink RX7 102 "ParkingGarageModel" "isWrong" "Z") (by decide +kernel)) (fun _ h9 => h9) rfl dX7_reads_17 ?_
                    refine if_ne_t (tgt := 157) hx hb (by decide) dX7_reads_20 (by decide) ?_
                    refine lv_iload_n hx hb dX7_reads_157 rfl (lv_at hl 0 rfl) ?_
                    obtain ⟨d2, hd2⟩ := hk9 1 (.inl s9_18) ⟨k9, s9, e9, htok_x, Or.inr ⟨hk0, n9, q, tn9, tu9, _, hN9, hitem, Or.inl ⟨_, rfl, rfl⟩⟩⟩
                    exact wr_iret (v := nI (it + 1)) (((k9_18, s9_18, e9_18, w9_18, m9_18), 1, g2_18)) hx hb hr hlocks hS hP hD [1, 0, 2] rfl rfl (by decide) dX7_reads_158 (⟨d2, _, hd2, Or.inl ⟨rfl, (by omega : s9_18 ≤ 120), rfl⟩⟩)
                  · -- c_20: not nI e9_18 ≠ nI (s9_18 + 1)
                    have hnx : e9_18 = s9_18 + 1 := nI_inj (by omega) (by omega) c_20
                    refine lv_aload_n hx hb dX7_reads_129 rfl (lv_at hl 1 rfl) ?_
                    refine va_get (D := D) (ci := 7) (v := .ref (ma 4)) (C := RX7) (T := TX7) (N := 11) hx hb hts (by decide +kernel) hown hK.1 hP 0 rfl rfl 4 (by decide) (hts (.fieldLink RX7 19 "ParkingGarageModel" "text" "[B") (by decide +kernel)) (fun _ h9 => h9) rfl dX7_reads_130 ?_
                    refine lv_aload_n hx hb dX7_reads_133 rfl (lv_at hl 1 rfl) ?_
                    refine va_get (D := D) (ci := 7) (v := .int (nI s9_18)) (C := RX7) (T := TX7) (N := 11) hx hb hts (by decide +kernel) hown hK.1 hP 0 rfl rfl 7 (by decide) (hts (.fieldLink RX7 88 "ParkingGarageModel" "begin" "I") (by decide +kernel)) (fun _ h9 => h9) rfl dX7_reads_134 ?_
                    refine bald_n (f := bt f) hx hb hK.1 hP 2 2 rfl rfl (s9_18) (rfl) (by omega) (by omega) dX7_reads_137 ?_
                    refine lv_bipush (v := 59) hx hb dX7_reads_138 (by decide) ?_
                    refine lv_icmp_ne (tgt := 147) hx hb dX7_reads_140 (by decide) (fun c_23 => ?_) (fun c_23 => ?_)
                    · -- c_23: (bt f) (s9_18) ≠ 59
                      refine lv_iconst (v := 0) hx hb dX7_reads_147 (by decide) ?_
                      refine cv_wv (As := [.int (0)]) (rest := []) (tys := TYS cI cC cB cS) (ci := 7) (wr := [(ma 1, iE cI 382 (enc g2_18 lf))]) ⟨hx, hb, hml, hown, hts⟩ (c_X7_takes l D cI cC cB cS _ (ma) (fi) (w9_18) (L) (f) (k9_18) (s9_18) (e9_18) (m9_18) (1) (0) (hL) (hch) (by omega) ((Or.inr rfl)) ((Or.inl rfl))) (cwV 1 hts gX7_reads_X7_takes rfl rfl rfl (by decide +kernel) ⟨Nat.le_of_ble_eq_true rfl, Nat.le_of_ble_eq_true rfl⟩) hK hP hD hS hA [0, 2] [1] rfl rfl (by decide) (by decide) (by decide) rfl rfl rfl rfl hl.1 (Nat.le_of_ble_eq_true rfl) dX7_reads_148 ⟨Nat.le_of_ble_eq_true rfl, Nat.le_of_ble_eq_true rfl⟩ (fun u_24 H locs hu_24 hP hD hS => ?_)
                      have hP : va_P D vwCl [(ma 1, iE cI 382 (enc g2_18 lf)), (ma 0, oE 7 [.ref (ma 1), .ref (ma 2), .int (fi 0), .ref (ma 3), .ref (ma 4), .int (nI L), .int (nI u_24.1.2.2.1), .int (nI u_24.1.2.1), .long (u_24.1.2.2.2.1), .int (u_24.1.2.2.2.2), .int (u_24.2)]), (ma 4, iE cB 120 (bt f))] H := hP
                      have hD : va_D A [(ma 1, iE cI 382 (enc g2_18 lf)), (ma 0, oE 7 [.ref (ma 1), .ref (ma 2), .int (fi 0), .ref (ma 3), .ref (ma 4), .int (nI L), .int (nI u_24.1.2.2.1), .int (nI u_24.1.2.1), .long (u_24.1.2.2.2.1), .int (u_24.1.2.2.2.2), .int (u_24.2)]), (ma 4, iE cB 120 (bt f))] := hD
                      have hu_24 : TakeR f L (1) (0) (k9_18, s9_18, e9_18, w9_18, m9_18) u_24 := hu_24
                      have hn_24 := take_no hu_24 (fun q9 => absurd q9.1 (by decide))
                      subst hn_24
                      have hP : va_P D vwCl [(ma 1, iE cI 382 (enc g2_18 lf)), (ma 0, oE 7 [.ref (ma 1), .ref (ma 2), .int (fi 0), .ref (ma 3), .ref (ma 4), .int (nI L), .int (nI e9_18), .int (nI s9_18), .long (w9_18), .int (m9_18), .int (1)]), (ma 4, iE cB 120 (bt f))] H := hP
                      have hD : va_D A [(ma 1, iE cI 382 (enc g2_18 lf)), (ma 0, oE 7 [.ref (ma 1), .ref (ma 2), .int (fi 0), .ref (ma 3), .ref (ma 4), .int (nI L), .int (nI e9_18), .int (nI s9_18), .long (w9_18), .int (m9_18), .int (1)]), (ma 4, iE cB 120 (bt f))] := hD
                      refine lv_iinc (v := nI (it + 1)) (lv' := [(1, .int (nI (it + 1))), (0, .ref (ma 0))]) hx hb dX7_reads_151 hl (k := 0) rfl (nI_1 _) (by decide) rfl (fun ls hl => ?_)
                      refine lv_goto (tgt := 16) hx hb dX7_reads_154 (by decide) ?_
                      refine lv_aload_n hx hb dX7_reads_16 rfl (lv_at hl 1 rfl) ?_
                      refine va_get (D := D) (ci := 7) (v := .int (1)) (C := RX7) (T := TX7) (N := 11) hx hb hts (by decide +kernel) hown hK.1 hP 1 rfl rfl 10 (by decide) (hts (.fieldLink RX7 102 "ParkingGarageModel" "isWrong" "Z") (by decide +kernel)) (fun _ h9 => h9) rfl dX7_reads_17 ?_
                      refine if_ne_t (tgt := 157) hx hb (by decide) dX7_reads_20 (by decide) ?_
                      refine lv_iload_n hx hb dX7_reads_157 rfl (lv_at hl 0 rfl) ?_
                      obtain ⟨d2, hd2⟩ := hk9 1 (.inl s9_18) ⟨k9, s9, e9, htok_x, Or.inr ⟨hk0, n9, q, tn9, tu9, _, hN9, hitem, Or.inl ⟨_, rfl, rfl⟩⟩⟩
                      exact wr_iret (v := nI (it + 1)) (((k9_18, s9_18, e9_18, w9_18, m9_18), 1, g2_18)) hx hb hr hlocks hS hP hD [1, 0, 2] rfl rfl (by decide) dX7_reads_158 (⟨d2, _, hd2, Or.inl ⟨rfl, (by omega : s9_18 ≤ 120), rfl⟩⟩)
                    · -- c_23: not (bt f) (s9_18) ≠ 59
                      refine lv_iconst (v := 1) hx hb dX7_reads_143 (by decide) ?_
                      refine lv_goto (tgt := 148) hx hb dX7_reads_144 (by decide) ?_
                      refine cv_wv (As := [.int (1)]) (rest := []) (tys := TYS cI cC cB cS) (ci := 7) (wr := [(ma 1, iE cI 382 (enc g2_18 lf))]) ⟨hx, hb, hml, hown, hts⟩ (c_X7_takes l D cI cC cB cS _ (ma) (fi) (w9_18) (L) (f) (k9_18) (s9_18) (e9_18) (m9_18) (1) (1) (hL) (hch) (by omega) ((Or.inr rfl)) ((Or.inr rfl))) (cwV 1 hts gX7_reads_X7_takes rfl rfl rfl (by decide +kernel) ⟨Nat.le_of_ble_eq_true rfl, Nat.le_of_ble_eq_true rfl⟩) hK hP hD hS hA [0, 2] [1] rfl rfl (by decide) (by decide) (by decide) rfl rfl rfl rfl hl.1 (Nat.le_of_ble_eq_true rfl) dX7_reads_148 ⟨Nat.le_of_ble_eq_true rfl, Nat.le_of_ble_eq_true rfl⟩ (fun u_26 H locs hu_26 hP hD hS => ?_)
                      have hP : va_P D vwCl [(ma 1, iE cI 382 (enc g2_18 lf)), (ma 0, oE 7 [.ref (ma 1), .ref (ma 2), .int (fi 0), .ref (ma 3), .ref (ma 4), .int (nI L), .int (nI u_26.1.2.2.1), .int (nI u_26.1.2.1), .long (u_26.1.2.2.2.1), .int (u_26.1.2.2.2.2), .int (u_26.2)]), (ma 4, iE cB 120 (bt f))] H := hP
                      have hD : va_D A [(ma 1, iE cI 382 (enc g2_18 lf)), (ma 0, oE 7 [.ref (ma 1), .ref (ma 2), .int (fi 0), .ref (ma 3), .ref (ma 4), .int (nI L), .int (nI u_26.1.2.2.1), .int (nI u_26.1.2.1), .long (u_26.1.2.2.2.1), .int (u_26.1.2.2.2.2), .int (u_26.2)]), (ma 4, iE cB 120 (bt f))] := hD
                      have hu_26 : TakeR f L (1) (1) (k9_18, s9_18, e9_18, w9_18, m9_18) u_26 := hu_26
                      have hn_26 := take_no hu_26 (fun q9 => absurd q9.1 (by decide))
                      subst hn_26
                      have hP : va_P D vwCl [(ma 1, iE cI 382 (enc g2_18 lf)), (ma 0, oE 7 [.ref (ma 1), .ref (ma 2), .int (fi 0), .ref (ma 3), .ref (ma 4), .int (nI L), .int (nI e9_18), .int (nI s9_18), .long (w9_18), .int (m9_18), .int (1)]), (ma 4, iE cB 120 (bt f))] H := hP
                      have hD : va_D A [(ma 1, iE cI 382 (enc g2_18 lf)), (ma 0, oE 7 [.ref (ma 1), .ref (ma 2), .int (fi 0), .ref (ma 3), .ref (ma 4), .int (nI L), .int (nI e9_18), .int (nI s9_18), .long (w9_18), .int (m9_18), .int (1)]), (ma 4, iE cB 120 (bt f))] := hD
                      refine lv_iinc (v := nI (it + 1)) (lv' := [(1, .int (nI (it + 1))), (0, .ref (ma 0))]) hx hb dX7_reads_151 hl (k := 0) rfl (nI_1 _) (by decide) rfl (fun ls hl => ?_)
                      refine lv_goto (tgt := 16) hx hb dX7_reads_154 (by decide) ?_
                      refine lv_aload_n hx hb dX7_reads_16 rfl (lv_at hl 1 rfl) ?_
                      refine va_get (D := D) (ci := 7) (v := .int (1)) (C := RX7) (T := TX7) (N := 11) hx hb hts (by decide +kernel) hown hK.1 hP 1 rfl rfl 10 (by decide) (hts (.fieldLink RX7 102 "ParkingGarageModel" "isWrong" "Z") (by decide +kernel)) (fun _ h9 => h9) rfl dX7_reads_17 ?_
                      refine if_ne_t (tgt := 157) hx hb (by decide) dX7_reads_20 (by decide) ?_
                      refine lv_iload_n hx hb dX7_reads_157 rfl (lv_at hl 0 rfl) ?_
                      obtain ⟨d2, hd2⟩ := hk9 1 (.inl s9_18) ⟨k9, s9, e9, htok_x, Or.inr ⟨hk0, n9, q, tn9, tu9, _, hN9, hitem, Or.inl ⟨_, rfl, rfl⟩⟩⟩
                      exact wr_iret (v := nI (it + 1)) (((k9_18, s9_18, e9_18, w9_18, m9_18), 1, g2_18)) hx hb hr hlocks hS hP hD [1, 0, 2] rfl rfl (by decide) dX7_reads_158 (⟨d2, _, hd2, Or.inl ⟨rfl, (by omega : s9_18 ≤ 120), rfl⟩⟩)
                · -- so far
                  have hz_18 : z9_18 = 0 := hz_18
                  subst hz_18
                  have hP : va_P D vwCl [(ma 0, oE 7 [.ref (ma 1), .ref (ma 2), .int (fi 0), .ref (ma 3), .ref (ma 4), .int (nI L), .int (nI e9_18), .int (nI s9_18), .long (w9_18), .int (m9_18), .int (0)]), (ma 1, iE cI 382 (enc g2_18 lf)), (ma 4, iE cB 120 (bt f))] H := hP
                  have hD : va_D A [(ma 0, oE 7 [.ref (ma 1), .ref (ma 2), .int (fi 0), .ref (ma 3), .ref (ma 4), .int (nI L), .int (nI e9_18), .int (nI s9_18), .long (w9_18), .int (m9_18), .int (0)]), (ma 1, iE cI 382 (enc g2_18 lf)), (ma 4, iE cB 120 (bt f))] := hD
                  refine lv_goto (tgt := 115) hx hb dX7_reads_107 (by decide) ?_
                  refine lv_aload_n hx hb dX7_reads_115 rfl (lv_at hl 1 rfl) ?_
                  refine lv_aload_n hx hb dX7_reads_116 rfl (lv_at hl 1 rfl) ?_
                  refine va_get (D := D) (ci := 7) (v := .int (nI e9_18)) (C := RX7) (T := TX7) (N := 11) hx hb hts (by decide +kernel) hown hK.1 hP 0 rfl rfl 6 (by decide) (hts (.fieldLink RX7 85 "ParkingGarageModel" "next" "I") (by decide +kernel)) (fun _ h9 => h9) rfl dX7_reads_117 ?_
                  refine lv_aload_n hx hb dX7_reads_120 rfl (lv_at hl 1 rfl) ?_
                  refine va_get (D := D) (ci := 7) (v := .int (nI s9_18)) (C := RX7) (T := TX7) (N := 11) hx hb hts (by decide +kernel) hown hK.1 hP 0 rfl rfl 7 (by decide) (hts (.fieldLink RX7 88 "ParkingGarageModel" "begin" "I") (by decide +kernel)) (fun _ h9 => h9) rfl dX7_reads_121 ?_
                  refine lv_iconst (v := 1) hx hb dX7_reads_124 (by decide) ?_
                  refine lv_iadd hx hb dX7_reads_125 ?_
                  rw [show (((nI s9_18) + (1)) : Int32) = nI (s9_18 + 1) from (nI_add s9_18 1)]
                  refine lv_icmp_ne (tgt := 147) hx hb dX7_reads_126 (by decide) (fun c_28 => ?_) (fun c_28 => ?_)
                  · -- c_28: nI e9_18 ≠ nI (s9_18 + 1)
                    have hnse : ¬ Semi f k9_18 s9_18 := fun q => c_28 (by rw [(hsem_18.mp q).1])
                    refine lv_iconst (v := 0) hx hb dX7_reads_147 (by decide) ?_
                    refine cv_wv (As := [.int (0)]) (rest := []) (tys := TYS cI cC cB cS) (ci := 7) (wr := [(ma 1, iE cI 382 (enc g2_18 lf))]) ⟨hx, hb, hml, hown, hts⟩ (c_X7_takes l D cI cC cB cS _ (ma) (fi) (w9_18) (L) (f) (k9_18) (s9_18) (e9_18) (m9_18) (0) (0) (hL) (hch) (by omega) ((Or.inl rfl)) ((Or.inl rfl))) (cwV 1 hts gX7_reads_X7_takes rfl rfl rfl (by decide +kernel) ⟨Nat.le_of_ble_eq_true rfl, Nat.le_of_ble_eq_true rfl⟩) hK hP hD hS hA [0, 2] [1] rfl rfl (by decide) (by decide) (by decide) rfl rfl rfl rfl hl.1 (Nat.le_of_ble_eq_true rfl) dX7_reads_148 ⟨Nat.le_of_ble_eq_true rfl, Nat.le_of_ble_eq_true rfl⟩ (fun u_29 H locs hu_29 hP hD hS => ?_)
                    have hP : va_P D vwCl [(ma 1, iE cI 382 (enc g2_18 lf)), (ma 0, oE 7 [.ref (ma 1), .ref (ma 2), .int (fi 0), .ref (ma 3), .ref (ma 4), .int (nI L), .int (nI u_29.1.2.2.1), .int (nI u_29.1.2.1), .long (u_29.1.2.2.2.1), .int (u_29.1.2.2.2.2), .int (u_29.2)]), (ma 4, iE cB 120 (bt f))] H := hP
                    have hD : va_D A [(ma 1, iE cI 382 (enc g2_18 lf)), (ma 0, oE 7 [.ref (ma 1), .ref (ma 2), .int (fi 0), .ref (ma 3), .ref (ma 4), .int (nI L), .int (nI u_29.1.2.2.1), .int (nI u_29.1.2.1), .long (u_29.1.2.2.2.1), .int (u_29.1.2.2.2.2), .int (u_29.2)]), (ma 4, iE cB 120 (bt f))] := hD
                    have hu_29 : TakeR f L (0) (0) (k9_18, s9_18, e9_18, w9_18, m9_18) u_29 := hu_29
                    have hn_29 := take_no hu_29 (fun q9 => absurd q9.2 (by decide))
                    subst hn_29
                    have hP : va_P D vwCl [(ma 1, iE cI 382 (enc g2_18 lf)), (ma 0, oE 7 [.ref (ma 1), .ref (ma 2), .int (fi 0), .ref (ma 3), .ref (ma 4), .int (nI L), .int (nI e9_18), .int (nI s9_18), .long (w9_18), .int (m9_18), .int (1)]), (ma 4, iE cB 120 (bt f))] H := hP
                    have hD : va_D A [(ma 1, iE cI 382 (enc g2_18 lf)), (ma 0, oE 7 [.ref (ma 1), .ref (ma 2), .int (fi 0), .ref (ma 3), .ref (ma 4), .int (nI L), .int (nI e9_18), .int (nI s9_18), .long (w9_18), .int (m9_18), .int (1)]), (ma 4, iE cB 120 (bt f))] := hD
                    have hitem : PItem f L gc n9 tn9 tu9 k9 s9 e9 (.inl s9_18) := Or.inr ⟨hV_0_x, Or.inr ⟨hV_1_x, Or.inr ⟨hV_2_x, Or.inl ⟨hW_3_x, hpi_18 _ (Or.inr ⟨hnse, rfl⟩)⟩⟩⟩⟩
                    refine lv_iinc (v := nI (it + 1)) (lv' := [(1, .int (nI (it + 1))), (0, .ref (ma 0))]) hx hb dX7_reads_151 hl (k := 0) rfl (nI_1 _) (by decide) rfl (fun ls hl => ?_)
                    refine lv_goto (tgt := 16) hx hb dX7_reads_154 (by decide) ?_
                    refine lv_aload_n hx hb dX7_reads_16 rfl (lv_at hl 1 rfl) ?_
                    refine va_get (D := D) (ci := 7) (v := .int (1)) (C := RX7) (T := TX7) (N := 11) hx hb hts (by decide +kernel) hown hK.1 hP 1 rfl rfl 10 (by decide) (hts (.fieldLink RX7 102 "ParkingGarageModel" "isWrong" "Z") (by decide +kernel)) (fun _ h9 => h9) rfl dX7_reads_17 ?_
                    refine if_ne_t (tgt := 157) hx hb (by decide) dX7_reads_20 (by decide) ?_
                    refine lv_iload_n hx hb dX7_reads_157 rfl (lv_at hl 0 rfl) ?_
                    obtain ⟨d2, hd2⟩ := hk9 1 (.inl s9_18) ⟨k9, s9, e9, htok_x, Or.inr ⟨hk0, n9, q, tn9, tu9, _, hN9, hitem, Or.inl ⟨_, rfl, rfl⟩⟩⟩
                    exact wr_iret (v := nI (it + 1)) (((k9_18, s9_18, e9_18, w9_18, m9_18), 1, g2_18)) hx hb hr hlocks hS hP hD [1, 0, 2] rfl rfl (by decide) dX7_reads_158 (⟨d2, _, hd2, Or.inl ⟨rfl, (by omega : s9_18 ≤ 120), rfl⟩⟩)
                  · -- c_28: not nI e9_18 ≠ nI (s9_18 + 1)
                    have hnx : e9_18 = s9_18 + 1 := nI_inj (by omega) (by omega) c_28
                    refine lv_aload_n hx hb dX7_reads_129 rfl (lv_at hl 1 rfl) ?_
                    refine va_get (D := D) (ci := 7) (v := .ref (ma 4)) (C := RX7) (T := TX7) (N := 11) hx hb hts (by decide +kernel) hown hK.1 hP 0 rfl rfl 4 (by decide) (hts (.fieldLink RX7 19 "ParkingGarageModel" "text" "[B") (by decide +kernel)) (fun _ h9 => h9) rfl dX7_reads_130 ?_
                    refine lv_aload_n hx hb dX7_reads_133 rfl (lv_at hl 1 rfl) ?_
                    refine va_get (D := D) (ci := 7) (v := .int (nI s9_18)) (C := RX7) (T := TX7) (N := 11) hx hb hts (by decide +kernel) hown hK.1 hP 0 rfl rfl 7 (by decide) (hts (.fieldLink RX7 88 "ParkingGarageModel" "begin" "I") (by decide +kernel)) (fun _ h9 => h9) rfl dX7_reads_134 ?_
                    refine bald_n (f := bt f) hx hb hK.1 hP 2 2 rfl rfl (s9_18) (rfl) (by omega) (by omega) dX7_reads_137 ?_
                    refine lv_bipush (v := 59) hx hb dX7_reads_138 (by decide) ?_
                    refine lv_icmp_ne (tgt := 147) hx hb dX7_reads_140 (by decide) (fun c_31 => ?_) (fun c_31 => ?_)
                    · -- c_31: (bt f) (s9_18) ≠ 59
                      have hnse : ¬ Semi f k9_18 s9_18 := fun q => c_31 (hsem_18.mp q).2
                      refine lv_iconst (v := 0) hx hb dX7_reads_147 (by decide) ?_
                      refine cv_wv (As := [.int (0)]) (rest := []) (tys := TYS cI cC cB cS) (ci := 7) (wr := [(ma 1, iE cI 382 (enc g2_18 lf))]) ⟨hx, hb, hml, hown, hts⟩ (c_X7_takes l D cI cC cB cS _ (ma) (fi) (w9_18) (L) (f) (k9_18) (s9_18) (e9_18) (m9_18) (0) (0) (hL) (hch) (by omega) ((Or.inl rfl)) ((Or.inl rfl))) (cwV 1 hts gX7_reads_X7_takes rfl rfl rfl (by decide +kernel) ⟨Nat.le_of_ble_eq_true rfl, Nat.le_of_ble_eq_true rfl⟩) hK hP hD hS hA [0, 2] [1] rfl rfl (by decide) (by decide) (by decide) rfl rfl rfl rfl hl.1 (Nat.le_of_ble_eq_true rfl) dX7_reads_148 ⟨Nat.le_of_ble_eq_true rfl, Nat.le_of_ble_eq_true rfl⟩ (fun u_32 H locs hu_32 hP hD hS => ?_)
                      have hP : va_P D vwCl [(ma 1, iE cI 382 (enc g2_18 lf)), (ma 0, oE 7 [.ref (ma 1), .ref (ma 2), .int (fi 0), .ref (ma 3), .ref (ma 4), .int (nI L), .int (nI u_32.1.2.2.1), .int (nI u_32.1.2.1), .long (u_32.1.2.2.2.1), .int (u_32.1.2.2.2.2), .int (u_32.2)]), (ma 4, iE cB 120 (bt f))] H := hP
                      have hD : va_D A [(ma 1, iE cI 382 (enc g2_18 lf)), (ma 0, oE 7 [.ref (ma 1), .ref (ma 2), .int (fi 0), .ref (ma 3), .ref (ma 4), .int (nI L), .int (nI u_32.1.2.2.1), .int (nI u_32.1.2.1), .long (u_32.1.2.2.2.1), .int (u_32.1.2.2.2.2), .int (u_32.2)]), (ma 4, iE cB 120 (bt f))] := hD
                      have hu_32 : TakeR f L (0) (0) (k9_18, s9_18, e9_18, w9_18, m9_18) u_32 := hu_32
                      have hn_32 := take_no hu_32 (fun q9 => absurd q9.2 (by decide))
                      subst hn_32
                      have hP : va_P D vwCl [(ma 1, iE cI 382 (enc g2_18 lf)), (ma 0, oE 7 [.ref (ma 1), .ref (ma 2), .int (fi 0), .ref (ma 3), .ref (ma 4), .int (nI L), .int (nI e9_18), .int (nI s9_18), .long (w9_18), .int (m9_18), .int (1)]), (ma 4, iE cB 120 (bt f))] H := hP
                      have hD : va_D A [(ma 1, iE cI 382 (enc g2_18 lf)), (ma 0, oE 7 [.ref (ma 1), .ref (ma 2), .int (fi 0), .ref (ma 3), .ref (ma 4), .int (nI L), .int (nI e9_18), .int (nI s9_18), .long (w9_18), .int (m9_18), .int (1)]), (ma 4, iE cB 120 (bt f))] := hD
                      have hitem : PItem f L gc n9 tn9 tu9 k9 s9 e9 (.inl s9_18) := Or.inr ⟨hV_0_x, Or.inr ⟨hV_1_x, Or.inr ⟨hV_2_x, Or.inl ⟨hW_3_x, hpi_18 _ (Or.inr ⟨hnse, rfl⟩)⟩⟩⟩⟩
                      refine lv_iinc (v := nI (it + 1)) (lv' := [(1, .int (nI (it + 1))), (0, .ref (ma 0))]) hx hb dX7_reads_151 hl (k := 0) rfl (nI_1 _) (by decide) rfl (fun ls hl => ?_)
                      refine lv_goto (tgt := 16) hx hb dX7_reads_154 (by decide) ?_
                      refine lv_aload_n hx hb dX7_reads_16 rfl (lv_at hl 1 rfl) ?_
                      refine va_get (D := D) (ci := 7) (v := .int (1)) (C := RX7) (T := TX7) (N := 11) hx hb hts (by decide +kernel) hown hK.1 hP 1 rfl rfl 10 (by decide) (hts (.fieldLink RX7 102 "ParkingGarageModel" "isWrong" "Z") (by decide +kernel)) (fun _ h9 => h9) rfl dX7_reads_17 ?_
                      refine if_ne_t (tgt := 157) hx hb (by decide) dX7_reads_20 (by decide) ?_
                      refine lv_iload_n hx hb dX7_reads_157 rfl (lv_at hl 0 rfl) ?_
                      obtain ⟨d2, hd2⟩ := hk9 1 (.inl s9_18) ⟨k9, s9, e9, htok_x, Or.inr ⟨hk0, n9, q, tn9, tu9, _, hN9, hitem, Or.inl ⟨_, rfl, rfl⟩⟩⟩
                      exact wr_iret (v := nI (it + 1)) (((k9_18, s9_18, e9_18, w9_18, m9_18), 1, g2_18)) hx hb hr hlocks hS hP hD [1, 0, 2] rfl rfl (by decide) dX7_reads_158 (⟨d2, _, hd2, Or.inl ⟨rfl, (by omega : s9_18 ≤ 120), rfl⟩⟩)
                    · -- c_31: not (bt f) (s9_18) ≠ 59
                      have hse : Semi f k9_18 s9_18 := hsem_18.mpr ⟨hnx, c_31⟩
                      refine lv_iconst (v := 1) hx hb dX7_reads_143 (by decide) ?_
                      refine lv_goto (tgt := 148) hx hb dX7_reads_144 (by decide) ?_
                      refine cv_wv (As := [.int (1)]) (rest := []) (tys := TYS cI cC cB cS) (ci := 7) (wr := [(ma 1, iE cI 382 (enc g2_18 lf))]) ⟨hx, hb, hml, hown, hts⟩ (c_X7_takes l D cI cC cB cS _ (ma) (fi) (w9_18) (L) (f) (k9_18) (s9_18) (e9_18) (m9_18) (0) (1) (hL) (hch) (by omega) ((Or.inl rfl)) ((Or.inr rfl))) (cwV 1 hts gX7_reads_X7_takes rfl rfl rfl (by decide +kernel) ⟨Nat.le_of_ble_eq_true rfl, Nat.le_of_ble_eq_true rfl⟩) hK hP hD hS hA [0, 2] [1] rfl rfl (by decide) (by decide) (by decide) rfl rfl rfl rfl hl.1 (Nat.le_of_ble_eq_true rfl) dX7_reads_148 ⟨Nat.le_of_ble_eq_true rfl, Nat.le_of_ble_eq_true rfl⟩ (fun u_34 H locs hu_34 hP hD hS => ?_)
                      have hP : va_P D vwCl [(ma 1, iE cI 382 (enc g2_18 lf)), (ma 0, oE 7 [.ref (ma 1), .ref (ma 2), .int (fi 0), .ref (ma 3), .ref (ma 4), .int (nI L), .int (nI u_34.1.2.2.1), .int (nI u_34.1.2.1), .long (u_34.1.2.2.2.1), .int (u_34.1.2.2.2.2), .int (u_34.2)]), (ma 4, iE cB 120 (bt f))] H := hP
                      have hD : va_D A [(ma 1, iE cI 382 (enc g2_18 lf)), (ma 0, oE 7 [.ref (ma 1), .ref (ma 2), .int (fi 0), .ref (ma 3), .ref (ma 4), .int (nI L), .int (nI u_34.1.2.2.1), .int (nI u_34.1.2.1), .long (u_34.1.2.2.2.1), .int (u_34.1.2.2.2.2), .int (u_34.2)]), (ma 4, iE cB 120 (bt f))] := hD
                      have hu_34 : TakeR f L (0) (1) (k9_18, s9_18, e9_18, w9_18, m9_18) u_34 := hu_34
                      have hitem : PItem f L gc n9 tn9 tu9 k9 s9 e9 (.inr (e9_18, g2_18)) := Or.inr ⟨hV_0_x, Or.inr ⟨hV_1_x, Or.inr ⟨hV_2_x, Or.inl ⟨hW_3_x, hpi_18 _ (Or.inl ⟨hse, rfl⟩)⟩⟩⟩⟩
                      obtain ⟨hfw1, hfw2, n2, tn2, tu2, hN2⟩ := PItem.fwd (by omega) hN9 hitem
                      obtain ⟨⟨k9_34, s9_34, e9_34, w9_34, m9_34⟩, z9_34⟩ := u_34
                      obtain ⟨hz_34, hg_34⟩ := take_yes hu_34
                      have hz_34 : z9_34 = 0 := hz_34
                      subst hz_34
                      have htok_34 : Tok f L e9_18 k9_34 s9_34 e9_34 := hg_34.1
                      have hwd_34 : WdOf f k9_34 s9_34 e9_34 w9_34 := hg_34.2.1
                      have hnm_34 : NmOf f k9_34 s9_34 e9_34 m9_34 := hg_34.2.2
                      have hle_34 := htok_34.le (by omega)
                      have heL_34 : e9_34 ≤ L := hle_34.2.2.1
                      have hP : va_P D vwCl [(ma 1, iE cI 382 (enc g2_18 lf)), (ma 0, oE 7 [.ref (ma 1), .ref (ma 2), .int (fi 0), .ref (ma 3), .ref (ma 4), .int (nI L), .int (nI e9_34), .int (nI s9_34), .long (w9_34), .int (m9_34), .int (0)]), (ma 4, iE cB 120 (bt f))] H := hP
                      have hD : va_D A [(ma 1, iE cI 382 (enc g2_18 lf)), (ma 0, oE 7 [.ref (ma 1), .ref (ma 2), .int (fi 0), .ref (ma 3), .ref (ma 4), .int (nI L), .int (nI e9_34), .int (nI s9_34), .long (w9_34), .int (m9_34), .int (0)]), (ma 4, iE cB 120 (bt f))] := hD
                      refine lv_iinc (v := nI (it + 1)) (lv' := [(1, .int (nI (it + 1))), (0, .ref (ma 0))]) hx hb dX7_reads_151 hl (k := 0) rfl (nI_1 _) (by decide) rfl (fun ls hl => ?_)
                      refine lv_goto (tgt := 16) hx hb dX7_reads_154 (by decide) ?_
                      have hP : va_P D vwCl [(ma 0, oE 7 [.ref (ma 1), .ref (ma 2), .int (fi 0), .ref (ma 3), .ref (ma 4), .int (nI L), .int (nI e9_34), .int (nI s9_34), .long (w9_34), .int (m9_34), .int (0)]), (ma 1, iE cI 382 (enc g2_18 lf)), (ma 4, iE cB 120 (bt f))] H := hP.sub [1, 0, 2] rfl
                      have hD : va_D A [(ma 0, oE 7 [.ref (ma 1), .ref (ma 2), .int (fi 0), .ref (ma 3), .ref (ma 4), .int (nI L), .int (nI e9_34), .int (nI s9_34), .long (w9_34), .int (m9_34), .int (0)]), (ma 1, iE cI 382 (enc g2_18 lf)), (ma 4, iE cB 120 (bt f))] := hD.sub [1, 0, 2] (by decide) rfl
                      exact ih (it + 1) k9_34 s9_34 e9_34 w9_34 m9_34 g2_18 n2 tn2 tu2 e9_18 (by omega) htok_34 hwd_34 hnm_34 (by omega) hN2 (by omega) (fun d o h => hk9 (d + 1) o ⟨k9, s9, e9, htok_x, Or.inr ⟨hk0, n9, q, tn9, tu9, _, hN9, hitem, Or.inr ⟨_, _, rfl, h⟩⟩⟩) _ _ hP hD hS ls (lv_sub hl [0, 1] rfl)
            · -- c_6: not lg_cmp (w9) (4075196) ≠ 0
              have hW_2_x : Wrd f k9 s9 e9 2 := (hwd_x 2 (by decide)).mp (cmp_eq.mp c_6)
              refine lv_aload_n hx hb dX7_reads_81 rfl (lv_at hl 1 rfl) ?_
              refine lv_iconst (v := 2) hx hb dX7_reads_82 (by decide) ?_
              refine lv_iconst (v := 0) hx hb dX7_reads_83 (by decide) ?_
              refine cv_wv (As := [.int (2), .int (0)]) (rest := []) (tys := TYS cI cC cB cS) (ci := 7) (wr := []) ⟨hx, hb, hml, hown, hts⟩ (c_X7_readsNumber l D cI cC cB cS _ (ma) (fi) (w9) (L) (f) (gc) (lf) (k9) (s9) (e9) (m9) (2) (0) (60) (hL) (hch) (⟨p9, hpL9, htok_x, hwd_x, hnm_x⟩) (by decide) (by decide) (by decide)) (cwV 2 hts gX7_reads_X7_readsNumber rfl rfl rfl (by decide +kernel) ⟨Nat.le_of_ble_eq_true rfl, Nat.le_of_ble_eq_true rfl⟩) hK hP hD hS hA [0, 1, 2] [] rfl rfl (by decide) (by decide) (by decide) rfl rfl rfl rfl hl.1 (Nat.le_of_ble_eq_true rfl) dX7_reads_84 ⟨Nat.le_of_ble_eq_true rfl, Nat.le_of_ble_eq_true rfl⟩ (fun u_36 H locs hu_36 hP hD hS => ?_)
              have hP : va_P D vwCl [(ma 0, oE 7 [.ref (ma 1), .ref (ma 2), .int (fi 0), .ref (ma 3), .ref (ma 4), .int (nI L), .int (nI u_36.1.2.2.1), .int (nI u_36.1.2.1), .long (u_36.1.2.2.2.1), .int (u_36.1.2.2.2.2), .int (u_36.2.1)]), (ma 1, iE cI 382 (enc u_36.2.2 lf)), (ma 4, iE cB 120 (bt f))] H := hP
              have hD : va_D A [(ma 0, oE 7 [.ref (ma 1), .ref (ma 2), .int (fi 0), .ref (ma 3), .ref (ma 4), .int (nI L), .int (nI u_36.1.2.2.1), .int (nI u_36.1.2.1), .long (u_36.1.2.2.2.1), .int (u_36.1.2.2.2.2), .int (u_36.2.1)]), (ma 1, iE cI 382 (enc u_36.2.2 lf)), (ma 4, iE cB 120 (bt f))] := hD
              have hu_36 : RdR f L (fun o => PNo f L gc 2 0 60 e9 o) u_36.1 u_36.2.1 u_36.2.2 := hu_36
              obtain ⟨⟨k9_36, s9_36, e9_36, w9_36, m9_36⟩, z9_36, g2_36⟩ := u_36
              obtain ⟨hok_36, hr_36⟩ := hu_36
              obtain ⟨p_36, hp_36, hG_36⟩ := id hok_36
              have htok_36 : Tok f L p_36 k9_36 s9_36 e9_36 := hG_36.1
              have hle_36 := htok_36.le hp_36
              have hsem_36 : Semi f k9_36 s9_36 ↔ (e9_36 = s9_36 + 1 ∧ bt f s9_36 = 59) := semi_iff hok_36 hL hch
              rcases hr_36 with ⟨hz_36, hpi_36⟩ | ⟨hz_36, hpi_36⟩
              · -- wrong
                have hz_36 : z9_36 = 1 := hz_36
                subst hz_36
                have hP : va_P D vwCl [(ma 0, oE 7 [.ref (ma 1), .ref (ma 2), .int (fi 0), .ref (ma 3), .ref (ma 4), .int (nI L), .int (nI e9_36), .int (nI s9_36), .long (w9_36), .int (m9_36), .int (1)]), (ma 1, iE cI 382 (enc g2_36 lf)), (ma 4, iE cB 120 (bt f))] H := hP
                have hD : va_D A [(ma 0, oE 7 [.ref (ma 1), .ref (ma 2), .int (fi 0), .ref (ma 3), .ref (ma 4), .int (nI L), .int (nI e9_36), .int (nI s9_36), .long (w9_36), .int (m9_36), .int (1)]), (ma 1, iE cI 382 (enc g2_36 lf)), (ma 4, iE cB 120 (bt f))] := hD
                have hitem : PItem f L gc n9 tn9 tu9 k9 s9 e9 (.inl s9_36) := Or.inr ⟨hV_0_x, Or.inr ⟨hV_1_x, Or.inl ⟨hW_2_x, hpi_36⟩⟩⟩
                refine lv_goto (tgt := 115) hx hb dX7_reads_87 (by decide) ?_
                refine lv_aload_n hx hb dX7_reads_115 rfl (lv_at hl 1 rfl) ?_
                refine lv_aload_n hx hb dX7_reads_116 rfl (lv_at hl 1 rfl) ?_
                refine va_get (D := D) (ci := 7) (v := .int (nI e9_36)) (C := RX7) (T := TX7) (N := 11) hx hb hts (by decide +kernel) hown hK.1 hP 0 rfl rfl 6 (by decide) (hts (.fieldLink RX7 85 "ParkingGarageModel" "next" "I") (by decide +kernel)) (fun _ h9 => h9) rfl dX7_reads_117 ?_
                refine lv_aload_n hx hb dX7_reads_120 rfl (lv_at hl 1 rfl) ?_
                refine va_get (D := D) (ci := 7) (v := .int (nI s9_36)) (C := RX7) (T := TX7) (N := 11) hx hb hts (by decide +kernel) hown hK.1 hP 0 rfl rfl 7 (by decide) (hts (.fieldLink RX7 88 "ParkingGarageModel" "begin" "I") (by decide +kernel)) (fun _ h9 => h9) rfl dX7_reads_121 ?_
                refine lv_iconst (v := 1) hx hb dX7_reads_124 (by decide) ?_
                refine lv_iadd hx hb dX7_reads_125 ?_
                rw [show (((nI s9_36) + (1)) : Int32) = nI (s9_36 + 1) from (nI_add s9_36 1)]
                refine lv_icmp_ne (tgt := 147) hx hb dX7_reads_126 (by decide) (fun c_38 => ?_) (fun c_38 => ?_)
                · -- c_38: nI e9_36 ≠ nI (s9_36 + 1)
                  refine lv_iconst (v := 0) hx hb dX7_reads_147 (by decide) ?_
                  refine cv_wv (As := [.int (0)]) (rest := []) (tys := TYS cI cC cB cS) (ci := 7) (wr := [(ma 1, iE cI 382 (enc g2_36 lf))]) ⟨hx, hb, hml, hown, hts⟩ (c_X7_takes l D cI cC cB cS _ (ma) (fi) (w9_36) (L) (f) (k9_36) (s9_36) (e9_36) (m9_36) (1) (0) (hL) (hch) (by omega) ((Or.inr rfl)) ((Or.inl rfl))) (cwV 1 hts gX7_reads_X7_takes rfl rfl rfl (by decide +kernel) ⟨Nat.le_of_ble_eq_true rfl, Nat.le_of_ble_eq_true rfl⟩) hK hP hD hS hA [0, 2] [1] rfl rfl (by decide) (by decide) (by decide) rfl rfl rfl rfl hl.1 (Nat.le_of_ble_eq_true rfl) dX7_reads_148 ⟨Nat.le_of_ble_eq_true rfl, Nat.le_of_ble_eq_true rfl⟩ (fun u_39 H locs hu_39 hP hD hS => ?_)
                  have hP : va_P D vwCl [(ma 1, iE cI 382 (enc g2_36 lf)), (ma 0, oE 7 [.ref (ma 1), .ref (ma 2), .int (fi 0), .ref (ma 3), .ref (ma 4), .int (nI L), .int (nI u_39.1.2.2.1), .int (nI u_39.1.2.1), .long (u_39.1.2.2.2.1), .int (u_39.1.2.2.2.2), .int (u_39.2)]), (ma 4, iE cB 120 (bt f))] H := hP
                  have hD : va_D A [(ma 1, iE cI 382 (enc g2_36 lf)), (ma 0, oE 7 [.ref (ma 1), .ref (ma 2), .int (fi 0), .ref (ma 3), .ref (ma 4), .int (nI L), .int (nI u_39.1.2.2.1), .int (nI u_39.1.2.1), .long (u_39.1.2.2.2.1), .int (u_39.1.2.2.2.2), .int (u_39.2)]), (ma 4, iE cB 120 (bt f))] := hD
                  have hu_39 : TakeR f L (1) (0) (k9_36, s9_36, e9_36, w9_36, m9_36) u_39 := hu_39
                  have hn_39 := take_no hu_39 (fun q9 => absurd q9.1 (by decide))
                  subst hn_39
                  have hP : va_P D vwCl [(ma 1, iE cI 382 (enc g2_36 lf)), (ma 0, oE 7 [.ref (ma 1), .ref (ma 2), .int (fi 0), .ref (ma 3), .ref (ma 4), .int (nI L), .int (nI e9_36), .int (nI s9_36), .long (w9_36), .int (m9_36), .int (1)]), (ma 4, iE cB 120 (bt f))] H := hP
                  have hD : va_D A [(ma 1, iE cI 382 (enc g2_36 lf)), (ma 0, oE 7 [.ref (ma 1), .ref (ma 2), .int (fi 0), .ref (ma 3), .ref (ma 4), .int (nI L), .int (nI e9_36), .int (nI s9_36), .long (w9_36), .int (m9_36), .int (1)]), (ma 4, iE cB 120 (bt f))] := hD
                  refine lv_iinc (v := nI (it + 1)) (lv' := [(1, .int (nI (it + 1))), (0, .ref (ma 0))]) hx hb dX7_reads_151 hl (k := 0) rfl (nI_1 _) (by decide) rfl (fun ls hl => ?_)
                  refine lv_goto (tgt := 16) hx hb dX7_reads_154 (by decide) ?_
                  refine lv_aload_n hx hb dX7_reads_16 rfl (lv_at hl 1 rfl) ?_
                  refine va_get (D := D) (ci := 7) (v := .int (1)) (C := RX7) (T := TX7) (N := 11) hx hb hts (by decide +kernel) hown hK.1 hP 1 rfl rfl 10 (by decide) (hts (.fieldLink RX7 102 "ParkingGarageModel" "isWrong" "Z") (by decide +kernel)) (fun _ h9 => h9) rfl dX7_reads_17 ?_
                  refine if_ne_t (tgt := 157) hx hb (by decide) dX7_reads_20 (by decide) ?_
                  refine lv_iload_n hx hb dX7_reads_157 rfl (lv_at hl 0 rfl) ?_
                  obtain ⟨d2, hd2⟩ := hk9 1 (.inl s9_36) ⟨k9, s9, e9, htok_x, Or.inr ⟨hk0, n9, q, tn9, tu9, _, hN9, hitem, Or.inl ⟨_, rfl, rfl⟩⟩⟩
                  exact wr_iret (v := nI (it + 1)) (((k9_36, s9_36, e9_36, w9_36, m9_36), 1, g2_36)) hx hb hr hlocks hS hP hD [1, 0, 2] rfl rfl (by decide) dX7_reads_158 (⟨d2, _, hd2, Or.inl ⟨rfl, (by omega : s9_36 ≤ 120), rfl⟩⟩)
                · -- c_38: not nI e9_36 ≠ nI (s9_36 + 1)
                  have hnx : e9_36 = s9_36 + 1 := nI_inj (by omega) (by omega) c_38
                  refine lv_aload_n hx hb dX7_reads_129 rfl (lv_at hl 1 rfl) ?_
                  refine va_get (D := D) (ci := 7) (v := .ref (ma 4)) (C := RX7) (T := TX7) (N := 11) hx hb hts (by decide +kernel) hown hK.1 hP 0 rfl rfl 4 (by decide) (hts (.fieldLink RX7 19 "ParkingGarageModel" "text" "[B") (by decide +kernel)) (fun _ h9 => h9) rfl dX7_reads_130 ?_
                  refine lv_aload_n hx hb dX7_reads_133 rfl (lv_at hl 1 rfl) ?_
                  refine va_get (D := D) (ci := 7) (v := .int (nI s9_36)) (C := RX7) (T := TX7) (N := 11) hx hb hts (by decide +kernel) hown hK.1 hP 0 rfl rfl 7 (by decide) (hts (.fieldLink RX7 88 "ParkingGarageModel" "begin" "I") (by decide +kernel)) (fun _ h9 => h9) rfl dX7_reads_134 ?_
                  refine bald_n (f := bt f) hx hb hK.1 hP 2 2 rfl rfl (s9_36) (rfl) (by omega) (by omega) dX7_reads_137 ?_
                  refine lv_bipush (v := 59) hx hb dX7_reads_138 (by decide) ?_
                  refine lv_icmp_ne (tgt := 147) hx hb dX7_reads_140 (by decide) (fun c_41 => ?_) (fun c_41 => ?_)
                  · -- c_41: (bt f) (s9_36) ≠ 59
                    refine lv_iconst (v := 0) hx hb dX7_reads_147 (by decide) ?_
                    refine cv_wv (As := [.int (0)]) (rest := []) (tys := TYS cI cC cB cS) (ci := 7) (wr := [(ma 1, iE cI 382 (enc g2_36 lf))]) ⟨hx, hb, hml, hown, hts⟩ (c_X7_takes l D cI cC cB cS _ (ma) (fi) (w9_36) (L) (f) (k9_36) (s9_36) (e9_36) (m9_36) (1) (0) (hL) (hch) (by omega) ((Or.inr rfl)) ((Or.inl rfl))) (cwV 1 hts gX7_reads_X7_takes rfl rfl rfl (by decide +kernel) ⟨Nat.le_of_ble_eq_true rfl, Nat.le_of_ble_eq_true rfl⟩) hK hP hD hS hA [0, 2] [1] rfl rfl (by decide) (by decide) (by decide) rfl rfl rfl rfl hl.1 (Nat.le_of_ble_eq_true rfl) dX7_reads_148 ⟨Nat.le_of_ble_eq_true rfl, Nat.le_of_ble_eq_true rfl⟩ (fun u_42 H locs hu_42 hP hD hS => ?_)
                    have hP : va_P D vwCl [(ma 1, iE cI 382 (enc g2_36 lf)), (ma 0, oE 7 [.ref (ma 1), .ref (ma 2), .int (fi 0), .ref (ma 3), .ref (ma 4), .int (nI L), .int (nI u_42.1.2.2.1), .int (nI u_42.1.2.1), .long (u_42.1.2.2.2.1), .int (u_42.1.2.2.2.2), .int (u_42.2)]), (ma 4, iE cB 120 (bt f))] H := hP
                    have hD : va_D A [(ma 1, iE cI 382 (enc g2_36 lf)), (ma 0, oE 7 [.ref (ma 1), .ref (ma 2), .int (fi 0), .ref (ma 3), .ref (ma 4), .int (nI L), .int (nI u_42.1.2.2.1), .int (nI u_42.1.2.1), .long (u_42.1.2.2.2.1), .int (u_42.1.2.2.2.2), .int (u_42.2)]), (ma 4, iE cB 120 (bt f))] := hD
                    have hu_42 : TakeR f L (1) (0) (k9_36, s9_36, e9_36, w9_36, m9_36) u_42 := hu_42
                    have hn_42 := take_no hu_42 (fun q9 => absurd q9.1 (by decide))
                    subst hn_42
                    have hP : va_P D vwCl [(ma 1, iE cI 382 (enc g2_36 lf)), (ma 0, oE 7 [.ref (ma 1), .ref (ma 2), .int (fi 0), .ref (ma 3), .ref (ma 4), .int (nI L), .int (nI e9_36), .int (nI s9_36), .long (w9_36), .int (m9_36), .int (1)]), (ma 4, iE cB 120 (bt f))] H := hP
                    have hD : va_D A [(ma 1, iE cI 382 (enc g2_36 lf)), (ma 0, oE 7 [.ref (ma 1), .ref (ma 2), .int (fi 0), .ref (ma 3), .ref (ma 4), .int (nI L), .int (nI e9_36), .int (nI s9_36), .long (w9_36), .int (m9_36), .int (1)]), (ma 4, iE cB 120 (bt f))] := hD
                    refine lv_iinc (v := nI (it + 1)) (lv' := [(1, .int (nI (it + 1))), (0, .ref (ma 0))]) hx hb dX7_reads_151 hl (k := 0) rfl (nI_1 _) (by decide) rfl (fun ls hl => ?_)
                    refine lv_goto (tgt := 16) hx hb dX7_reads_154 (by decide) ?_
                    refine lv_aload_n hx hb dX7_reads_16 rfl (lv_at hl 1 rfl) ?_
                    refine va_get (D := D) (ci := 7) (v := .int (1)) (C := RX7) (T := TX7) (N := 11) hx hb hts (by decide +kernel) hown hK.1 hP 1 rfl rfl 10 (by decide) (hts (.fieldLink RX7 102 "ParkingGarageModel" "isWrong" "Z") (by decide +kernel)) (fun _ h9 => h9) rfl dX7_reads_17 ?_
                    refine if_ne_t (tgt := 157) hx hb (by decide) dX7_reads_20 (by decide) ?_
                    refine lv_iload_n hx hb dX7_reads_157 rfl (lv_at hl 0 rfl) ?_
                    obtain ⟨d2, hd2⟩ := hk9 1 (.inl s9_36) ⟨k9, s9, e9, htok_x, Or.inr ⟨hk0, n9, q, tn9, tu9, _, hN9, hitem, Or.inl ⟨_, rfl, rfl⟩⟩⟩
                    exact wr_iret (v := nI (it + 1)) (((k9_36, s9_36, e9_36, w9_36, m9_36), 1, g2_36)) hx hb hr hlocks hS hP hD [1, 0, 2] rfl rfl (by decide) dX7_reads_158 (⟨d2, _, hd2, Or.inl ⟨rfl, (by omega : s9_36 ≤ 120), rfl⟩⟩)
                  · -- c_41: not (bt f) (s9_36) ≠ 59
                    refine lv_iconst (v := 1) hx hb dX7_reads_143 (by decide) ?_
                    refine lv_goto (tgt := 148) hx hb dX7_reads_144 (by decide) ?_
                    refine cv_wv (As := [.int (1)]) (rest := []) (tys := TYS cI cC cB cS) (ci := 7) (wr := [(ma 1, iE cI 382 (enc g2_36 lf))]) ⟨hx, hb, hml, hown, hts⟩ (c_X7_takes l D cI cC cB cS _ (ma) (fi) (w9_36) (L) (f) (k9_36) (s9_36) (e9_36) (m9_36) (1) (1) (hL) (hch) (by omega) ((Or.inr rfl)) ((Or.inr rfl))) (cwV 1 hts gX7_reads_X7_takes rfl rfl rfl (by decide +kernel) ⟨Nat.le_of_ble_eq_true rfl, Nat.le_of_ble_eq_true rfl⟩) hK hP hD hS hA [0, 2] [1] rfl rfl (by decide) (by decide) (by decide) rfl rfl rfl rfl hl.1 (Nat.le_of_ble_eq_true rfl) dX7_reads_148 ⟨Nat.le_of_ble_eq_true rfl, Nat.le_of_ble_eq_true rfl⟩ (fun u_44 H locs hu_44 hP hD hS => ?_)
                    have hP : va_P D vwCl [(ma 1, iE cI 382 (enc g2_36 lf)), (ma 0, oE 7 [.ref (ma 1), .ref (ma 2), .int (fi 0), .ref (ma 3), .ref (ma 4), .int (nI L), .int (nI u_44.1.2.2.1), .int (nI u_44.1.2.1), .long (u_44.1.2.2.2.1), .int (u_44.1.2.2.2.2), .int (u_44.2)]), (ma 4, iE cB 120 (bt f))] H := hP
                    have hD : va_D A [(ma 1, iE cI 382 (enc g2_36 lf)), (ma 0, oE 7 [.ref (ma 1), .ref (ma 2), .int (fi 0), .ref (ma 3), .ref (ma 4), .int (nI L), .int (nI u_44.1.2.2.1), .int (nI u_44.1.2.1), .long (u_44.1.2.2.2.1), .int (u_44.1.2.2.2.2), .int (u_44.2)]), (ma 4, iE cB 120 (bt f))] := hD
                    have hu_44 : TakeR f L (1) (1) (k9_36, s9_36, e9_36, w9_36, m9_36) u_44 := hu_44
                    have hn_44 := take_no hu_44 (fun q9 => absurd q9.1 (by decide))
                    subst hn_44
                    have hP : va_P D vwCl [(ma 1, iE cI 382 (enc g2_36 lf)), (ma 0, oE 7 [.ref (ma 1), .ref (ma 2), .int (fi 0), .ref (ma 3), .ref (ma 4), .int (nI L), .int (nI e9_36), .int (nI s9_36), .long (w9_36), .int (m9_36), .int (1)]), (ma 4, iE cB 120 (bt f))] H := hP
                    have hD : va_D A [(ma 1, iE cI 382 (enc g2_36 lf)), (ma 0, oE 7 [.ref (ma 1), .ref (ma 2), .int (fi 0), .ref (ma 3), .ref (ma 4), .int (nI L), .int (nI e9_36), .int (nI s9_36), .long (w9_36), .int (m9_36), .int (1)]), (ma 4, iE cB 120 (bt f))] := hD
                    refine lv_iinc (v := nI (it + 1)) (lv' := [(1, .int (nI (it + 1))), (0, .ref (ma 0))]) hx hb dX7_reads_151 hl (k := 0) rfl (nI_1 _) (by decide) rfl (fun ls hl => ?_)
                    refine lv_goto (tgt := 16) hx hb dX7_reads_154 (by decide) ?_
                    refine lv_aload_n hx hb dX7_reads_16 rfl (lv_at hl 1 rfl) ?_
                    refine va_get (D := D) (ci := 7) (v := .int (1)) (C := RX7) (T := TX7) (N := 11) hx hb hts (by decide +kernel) hown hK.1 hP 1 rfl rfl 10 (by decide) (hts (.fieldLink RX7 102 "ParkingGarageModel" "isWrong" "Z") (by decide +kernel)) (fun _ h9 => h9) rfl dX7_reads_17 ?_
                    refine if_ne_t (tgt := 157) hx hb (by decide) dX7_reads_20 (by decide) ?_
                    refine lv_iload_n hx hb dX7_reads_157 rfl (lv_at hl 0 rfl) ?_
                    obtain ⟨d2, hd2⟩ := hk9 1 (.inl s9_36) ⟨k9, s9, e9, htok_x, Or.inr ⟨hk0, n9, q, tn9, tu9, _, hN9, hitem, Or.inl ⟨_, rfl, rfl⟩⟩⟩
                    exact wr_iret (v := nI (it + 1)) (((k9_36, s9_36, e9_36, w9_36, m9_36), 1, g2_36)) hx hb hr hlocks hS hP hD [1, 0, 2] rfl rfl (by decide) dX7_reads_158 (⟨d2, _, hd2, Or.inl ⟨rfl, (by omega : s9_36 ≤ 120), rfl⟩⟩)
              · -- so far
                have hz_36 : z9_36 = 0 := hz_36
                subst hz_36
                have hP : va_P D vwCl [(ma 0, oE 7 [.ref (ma 1), .ref (ma 2), .int (fi 0), .ref (ma 3), .ref (ma 4), .int (nI L), .int (nI e9_36), .int (nI s9_36), .long (w9_36), .int (m9_36), .int (0)]), (ma 1, iE cI 382 (enc g2_36 lf)), (ma 4, iE cB 120 (bt f))] H := hP
                have hD : va_D A [(ma 0, oE 7 [.ref (ma 1), .ref (ma 2), .int (fi 0), .ref (ma 3), .ref (ma 4), .int (nI L), .int (nI e9_36), .int (nI s9_36), .long (w9_36), .int (m9_36), .int (0)]), (ma 1, iE cI 382 (enc g2_36 lf)), (ma 4, iE cB 120 (bt f))] := hD
                refine lv_goto (tgt := 115) hx hb dX7_reads_87 (by decide) ?_
                refine lv_aload_n hx hb dX7_reads_115 rfl (lv_at hl 1 rfl) ?_
                refine lv_aload_n hx hb dX7_reads_116 rfl (lv_at hl 1 rfl) ?_
                refine va_get (D := D) (ci := 7) (v := .int (nI e9_36)) (C := RX7) (T := TX7) (N := 11) hx hb hts (by decide +kernel) hown hK.1 hP 0 rfl rfl 6 (by decide) (hts (.fieldLink RX7 85 "ParkingGarageModel" "next" "I") (by decide +kernel)) (fun _ h9 => h9) rfl dX7_reads_117 ?_
                refine lv_aload_n hx hb dX7_reads_120 rfl (lv_at hl 1 rfl) ?_
                refine va_get (D := D) (ci := 7) (v := .int (nI s9_36)) (C := RX7) (T := TX7) (N := 11) hx hb hts (by decide +kernel) hown hK.1 hP 0 rfl rfl 7 (by decide) (hts (.fieldLink RX7 88 "ParkingGarageModel" "begin" "I") (by decide +kernel)) (fun _ h9 => h9) rfl dX7_reads_121 ?_
                refine lv_iconst (v := 1) hx hb dX7_reads_124 (by decide) ?_
                refine lv_iadd hx hb dX7_reads_125 ?_
                rw [show (((nI s9_36) + (1)) : Int32) = nI (s9_36 + 1) from (nI_add s9_36 1)]
                refine lv_icmp_ne (tgt := 147) hx hb dX7_reads_126 (by decide) (fun c_46 => ?_) (fun c_46 => ?_)
                · -- c_46: nI e9_36 ≠ nI (s9_36 + 1)
                  have hnse : ¬ Semi f k9_36 s9_36 := fun q => c_46 (by rw [(hsem_36.mp q).1])
                  refine lv_iconst (v := 0) hx hb dX7_reads_147 (by decide) ?_
                  refine cv_wv (As := [.int (0)]) (rest := []) (tys := TYS cI cC cB cS) (ci := 7) (wr := [(ma 1, iE cI 382 (enc g2_36 lf))]) ⟨hx, hb, hml, hown, hts⟩ (c_X7_takes l D cI cC cB cS _ (ma) (fi) (w9_36) (L) (f) (k9_36) (s9_36) (e9_36) (m9_36) (0) (0) (hL) (hch) (by omega) ((Or.inl rfl)) ((Or.inl rfl))) (cwV 1 hts gX7_reads_X7_takes rfl rfl rfl (by decide +kernel) ⟨Nat.le_of_ble_eq_true rfl, Nat.le_of_ble_eq_true rfl⟩) hK hP hD hS hA [0, 2] [1] rfl rfl (by decide) (by decide) (by decide) rfl rfl rfl rfl hl.1 (Nat.le_of_ble_eq_true rfl) dX7_reads_148 ⟨Nat.le_of_ble_eq_true rfl, Nat.le_of_ble_eq_true rfl⟩ (fun u_47 H locs hu_47 hP hD hS => ?_)
                  have hP : va_P D vwCl [(ma 1, iE cI 382 (enc g2_36 lf)), (ma 0, oE 7 [.ref (ma 1), .ref (ma 2), .int (fi 0), .ref (ma 3), .ref (ma 4), .int (nI L), .int (nI u_47.1.2.2.1), .int (nI u_47.1.2.1), .long (u_47.1.2.2.2.1), .int (u_47.1.2.2.2.2), .int (u_47.2)]), (ma 4, iE cB 120 (bt f))] H := hP
                  have hD : va_D A [(ma 1, iE cI 382 (enc g2_36 lf)), (ma 0, oE 7 [.ref (ma 1), .ref (ma 2), .int (fi 0), .ref (ma 3), .ref (ma 4), .int (nI L), .int (nI u_47.1.2.2.1), .int (nI u_47.1.2.1), .long (u_47.1.2.2.2.1), .int (u_47.1.2.2.2.2), .int (u_47.2)]), (ma 4, iE cB 120 (bt f))] := hD
                  have hu_47 : TakeR f L (0) (0) (k9_36, s9_36, e9_36, w9_36, m9_36) u_47 := hu_47
                  have hn_47 := take_no hu_47 (fun q9 => absurd q9.2 (by decide))
                  subst hn_47
                  have hP : va_P D vwCl [(ma 1, iE cI 382 (enc g2_36 lf)), (ma 0, oE 7 [.ref (ma 1), .ref (ma 2), .int (fi 0), .ref (ma 3), .ref (ma 4), .int (nI L), .int (nI e9_36), .int (nI s9_36), .long (w9_36), .int (m9_36), .int (1)]), (ma 4, iE cB 120 (bt f))] H := hP
                  have hD : va_D A [(ma 1, iE cI 382 (enc g2_36 lf)), (ma 0, oE 7 [.ref (ma 1), .ref (ma 2), .int (fi 0), .ref (ma 3), .ref (ma 4), .int (nI L), .int (nI e9_36), .int (nI s9_36), .long (w9_36), .int (m9_36), .int (1)]), (ma 4, iE cB 120 (bt f))] := hD
                  have hitem : PItem f L gc n9 tn9 tu9 k9 s9 e9 (.inl s9_36) := Or.inr ⟨hV_0_x, Or.inr ⟨hV_1_x, Or.inl ⟨hW_2_x, hpi_36 _ (Or.inr ⟨hnse, rfl⟩)⟩⟩⟩
                  refine lv_iinc (v := nI (it + 1)) (lv' := [(1, .int (nI (it + 1))), (0, .ref (ma 0))]) hx hb dX7_reads_151 hl (k := 0) rfl (nI_1 _) (by decide) rfl (fun ls hl => ?_)
                  refine lv_goto (tgt := 16) hx hb dX7_reads_154 (by decide) ?_
                  refine lv_aload_n hx hb dX7_reads_16 rfl (lv_at hl 1 rfl) ?_
                  refine va_get (D := D) (ci := 7) (v := .int (1)) (C := RX7) (T := TX7) (N := 11) hx hb hts (by decide +kernel) hown hK.1 hP 1 rfl rfl 10 (by decide) (hts (.fieldLink RX7 102 "ParkingGarageModel" "isWrong" "Z") (by decide +kernel)) (fun _ h9 => h9) rfl dX7_reads_17 ?_
                  refine if_ne_t (tgt := 157) hx hb (by decide) dX7_reads_20 (by decide) ?_
                  refine lv_iload_n hx hb dX7_reads_157 rfl (lv_at hl 0 rfl) ?_
                  obtain ⟨d2, hd2⟩ := hk9 1 (.inl s9_36) ⟨k9, s9, e9, htok_x, Or.inr ⟨hk0, n9, q, tn9, tu9, _, hN9, hitem, Or.inl ⟨_, rfl, rfl⟩⟩⟩
                  exact wr_iret (v := nI (it + 1)) (((k9_36, s9_36, e9_36, w9_36, m9_36), 1, g2_36)) hx hb hr hlocks hS hP hD [1, 0, 2] rfl rfl (by decide) dX7_reads_158 (⟨d2, _, hd2, Or.inl ⟨rfl, (by omega : s9_36 ≤ 120), rfl⟩⟩)
                · -- c_46: not nI e9_36 ≠ nI (s9_36 + 1)
                  have hnx : e9_36 = s9_36 + 1 := nI_inj (by omega) (by omega) c_46
                  refine lv_aload_n hx hb dX7_reads_129 rfl (lv_at hl 1 rfl) ?_
                  refine va_get (D := D) (ci := 7) (v := .ref (ma 4)) (C := RX7) (T := TX7) (N := 11) hx hb hts (by decide +kernel) hown hK.1 hP 0 rfl rfl 4 (by decide) (hts (.fieldLink RX7 19 "ParkingGarageModel" "text" "[B") (by decide +kernel)) (fun _ h9 => h9) rfl dX7_reads_130 ?_
                  refine lv_aload_n hx hb dX7_reads_133 rfl (lv_at hl 1 rfl) ?_
                  refine va_get (D := D) (ci := 7) (v := .int (nI s9_36)) (C := RX7) (T := TX7) (N := 11) hx hb hts (by decide +kernel) hown hK.1 hP 0 rfl rfl 7 (by decide) (hts (.fieldLink RX7 88 "ParkingGarageModel" "begin" "I") (by decide +kernel)) (fun _ h9 => h9) rfl dX7_reads_134 ?_
                  refine bald_n (f := bt f) hx hb hK.1 hP 2 2 rfl rfl (s9_36) (rfl) (by omega) (by omega) dX7_reads_137 ?_
                  refine lv_bipush (v := 59) hx hb dX7_reads_138 (by decide) ?_
                  refine lv_icmp_ne (tgt := 147) hx hb dX7_reads_140 (by decide) (fun c_49 => ?_) (fun c_49 => ?_)
                  · -- c_49: (bt f) (s9_36) ≠ 59
                    have hnse : ¬ Semi f k9_36 s9_36 := fun q => c_49 (hsem_36.mp q).2
                    refine lv_iconst (v := 0) hx hb dX7_reads_147 (by decide) ?_
                    refine cv_wv (As := [.int (0)]) (rest := []) (tys := TYS cI cC cB cS) (ci := 7) (wr := [(ma 1, iE cI 382 (enc g2_36 lf))]) ⟨hx, hb, hml, hown, hts⟩ (c_X7_takes l D cI cC cB cS _ (ma) (fi) (w9_36) (L) (f) (k9_36) (s9_36) (e9_36) (m9_36) (0) (0) (hL) (hch) (by omega) ((Or.inl rfl)) ((Or.inl rfl))) (cwV 1 hts gX7_reads_X7_takes rfl rfl rfl (by decide +kernel) ⟨Nat.le_of_ble_eq_true rfl, Nat.le_of_ble_eq_true rfl⟩) hK hP hD hS hA [0, 2] [1] rfl rfl (by decide) (by decide) (by decide) rfl rfl rfl rfl hl.1 (Nat.le_of_ble_eq_true rfl) dX7_reads_148 ⟨Nat.le_of_ble_eq_true rfl, Nat.le_of_ble_eq_true rfl⟩ (fun u_50 H locs hu_50 hP hD hS => ?_)
                    have hP : va_P D vwCl [(ma 1, iE cI 382 (enc g2_36 lf)), (ma 0, oE 7 [.ref (ma 1), .ref (ma 2), .int (fi 0), .ref (ma 3), .ref (ma 4), .int (nI L), .int (nI u_50.1.2.2.1), .int (nI u_50.1.2.1), .long (u_50.1.2.2.2.1), .int (u_50.1.2.2.2.2), .int (u_50.2)]), (ma 4, iE cB 120 (bt f))] H := hP
                    have hD : va_D A [(ma 1, iE cI 382 (enc g2_36 lf)), (ma 0, oE 7 [.ref (ma 1), .ref (ma 2), .int (fi 0), .ref (ma 3), .ref (ma 4), .int (nI L), .int (nI u_50.1.2.2.1), .int (nI u_50.1.2.1), .long (u_50.1.2.2.2.1), .int (u_50.1.2.2.2.2), .int (u_50.2)]), (ma 4, iE cB 120 (bt f))] := hD
                    have hu_50 : TakeR f L (0) (0) (k9_36, s9_36, e9_36, w9_36, m9_36) u_50 := hu_50
                    have hn_50 := take_no hu_50 (fun q9 => absurd q9.2 (by decide))
                    subst hn_50
                    have hP : va_P D vwCl [(ma 1, iE cI 382 (enc g2_36 lf)), (ma 0, oE 7 [.ref (ma 1), .ref (ma 2), .int (fi 0), .ref (ma 3), .ref (ma 4), .int (nI L), .int (nI e9_36), .int (nI s9_36), .long (w9_36), .int (m9_36), .int (1)]), (ma 4, iE cB 120 (bt f))] H := hP
                    have hD : va_D A [(ma 1, iE cI 382 (enc g2_36 lf)), (ma 0, oE 7 [.ref (ma 1), .ref (ma 2), .int (fi 0), .ref (ma 3), .ref (ma 4), .int (nI L), .int (nI e9_36), .int (nI s9_36), .long (w9_36), .int (m9_36), .int (1)]), (ma 4, iE cB 120 (bt f))] := hD
                    have hitem : PItem f L gc n9 tn9 tu9 k9 s9 e9 (.inl s9_36) := Or.inr ⟨hV_0_x, Or.inr ⟨hV_1_x, Or.inl ⟨hW_2_x, hpi_36 _ (Or.inr ⟨hnse, rfl⟩)⟩⟩⟩
                    refine lv_iinc (v := nI (it + 1)) (lv' := [(1, .int (nI (it + 1))), (0, .ref (ma 0))]) hx hb dX7_reads_151 hl (k := 0) rfl (nI_1 _) (by decide) rfl (fun ls hl => ?_)
                    refine lv_goto (tgt := 16) hx hb dX7_reads_154 (by decide) ?_
                    refine lv_aload_n hx hb dX7_reads_16 rfl (lv_at hl 1 rfl) ?_
                    refine va_get (D := D) (ci := 7) (v := .int (1)) (C := RX7) (T := TX7) (N := 11) hx hb hts (by decide +kernel) hown hK.1 hP 1 rfl rfl 10 (by decide) (hts (.fieldLink RX7 102 "ParkingGarageModel" "isWrong" "Z") (by decide +kernel)) (fun _ h9 => h9) rfl dX7_reads_17 ?_
                    refine if_ne_t (tgt := 157) hx hb (by decide) dX7_reads_20 (by decide) ?_
                    refine lv_iload_n hx hb dX7_reads_157 rfl (lv_at hl 0 rfl) ?_
                    obtain ⟨d2, hd2⟩ := hk9 1 (.inl s9_36) ⟨k9, s9, e9, htok_x, Or.inr ⟨hk0, n9, q, tn9, tu9, _, hN9, hitem, Or.inl ⟨_, rfl, rfl⟩⟩⟩
                    exact wr_iret (v := nI (it + 1)) (((k9_36, s9_36, e9_36, w9_36, m9_36), 1, g2_36)) hx hb hr hlocks hS hP hD [1, 0, 2] rfl rfl (by decide) dX7_reads_158 (⟨d2, _, hd2, Or.inl ⟨rfl, (by omega : s9_36 ≤ 120), rfl⟩⟩)
                  · -- c_49: not (bt f) (s9_36) ≠ 59
                    have hse : Semi f k9_36 s9_36 := hsem_36.mpr ⟨hnx, c_49⟩
                    refine lv_iconst (v := 1) hx hb dX7_reads_143 (by decide) ?_
                    refine lv_goto (tgt := 148) hx hb dX7_reads_144 (by decide) ?_
                    refine cv_wv (As := [.int (1)]) (rest := []) (tys := TYS cI cC cB cS) (ci := 7) (wr := [(ma 1, iE cI 382 (enc g2_36 lf))]) ⟨hx, hb, hml, hown, hts⟩ (c_X7_takes l D cI cC cB cS _ (ma) (fi) (w9_36) (L) (f) (k9_36) (s9_36) (e9_36) (m9_36) (0) (1) (hL) (hch) (by omega) ((Or.inl rfl)) ((Or.inr rfl))) (cwV 1 hts gX7_reads_X7_takes rfl rfl rfl (by decide +kernel) ⟨Nat.le_of_ble_eq_true rfl, Nat.le_of_ble_eq_true rfl⟩) hK hP hD hS hA [0, 2] [1] rfl rfl (by decide) (by decide) (by decide) rfl rfl rfl rfl hl.1 (Nat.le_of_ble_eq_true rfl) dX7_reads_148 ⟨Nat.le_of_ble_eq_true rfl, Nat.le_of_ble_eq_true rfl⟩ (fun u_52 H locs hu_52 hP hD hS => ?_)
                    have hP : va_P D vwCl [(ma 1, iE cI 382 (enc g2_36 lf)), (ma 0, oE 7 [.ref (ma 1), .ref (ma 2), .int (fi 0), .ref (ma 3), .ref (ma 4), .int (nI L), .int (nI u_52.1.2.2.1), .int (nI u_52.1.2.1), .long (u_52.1.2.2.2.1), .int (u_52.1.2.2.2.2), .int (u_52.2)]), (ma 4, iE cB 120 (bt f))] H := hP
                    have hD : va_D A [(ma 1, iE cI 382 (enc g2_36 lf)), (ma 0, oE 7 [.ref (ma 1), .ref (ma 2), .int (fi 0), .ref (ma 3), .ref (ma 4), .int (nI L), .int (nI u_52.1.2.2.1), .int (nI u_52.1.2.1), .long (u_52.1.2.2.2.1), .int (u_52.1.2.2.2.2), .int (u_52.2)]), (ma 4, iE cB 120 (bt f))] := hD
                    have hu_52 : TakeR f L (0) (1) (k9_36, s9_36, e9_36, w9_36, m9_36) u_52 := hu_52
                    have hitem : PItem f L gc n9 tn9 tu9 k9 s9 e9 (.inr (e9_36, g2_36)) := Or.inr ⟨hV_0_x, Or.inr ⟨hV_1_x, Or.inl ⟨hW_2_x, hpi_36 _ (Or.inl ⟨hse, rfl⟩)⟩⟩⟩
                    obtain ⟨hfw1, hfw2, n2, tn2, tu2, hN2⟩ := PItem.fwd (by omega) hN9 hitem
                    obtain ⟨⟨k9_52, s9_52, e9_52, w9_52, m9_52⟩, z9_52⟩ := u_52
                    obtain ⟨hz_52, hg_52⟩ := take_yes hu_52
                    have hz_52 : z9_52 = 0 := hz_52
                    subst hz_52
                    have htok_52 : Tok f L e9_36 k9_52 s9_52 e9_52 := hg_52.1
                    have hwd_52 : WdOf f k9_52 s9_52 e9_52 w9_52 := hg_52.2.1
                    have hnm_52 : NmOf f k9_52 s9_52 e9_52 m9_52 := hg_52.2.2
                    have hle_52 := htok_52.le (by omega)
                    have heL_52 : e9_52 ≤ L := hle_52.2.2.1
                    have hP : va_P D vwCl [(ma 1, iE cI 382 (enc g2_36 lf)), (ma 0, oE 7 [.ref (ma 1), .ref (ma 2), .int (fi 0), .ref (ma 3), .ref (ma 4), .int (nI L), .int (nI e9_52), .int (nI s9_52), .long (w9_52), .int (m9_52), .int (0)]), (ma 4, iE cB 120 (bt f))] H := hP
                    have hD : va_D A [(ma 1, iE cI 382 (enc g2_36 lf)), (ma 0, oE 7 [.ref (ma 1), .ref (ma 2), .int (fi 0), .ref (ma 3), .ref (ma 4), .int (nI L), .int (nI e9_52), .int (nI s9_52), .long (w9_52), .int (m9_52), .int (0)]), (ma 4, iE cB 120 (bt f))] := hD
                    refine lv_iinc (v := nI (it + 1)) (lv' := [(1, .int (nI (it + 1))), (0, .ref (ma 0))]) hx hb dX7_reads_151 hl (k := 0) rfl (nI_1 _) (by decide) rfl (fun ls hl => ?_)
                    refine lv_goto (tgt := 16) hx hb dX7_reads_154 (by decide) ?_
                    have hP : va_P D vwCl [(ma 0, oE 7 [.ref (ma 1), .ref (ma 2), .int (fi 0), .ref (ma 3), .ref (ma 4), .int (nI L), .int (nI e9_52), .int (nI s9_52), .long (w9_52), .int (m9_52), .int (0)]), (ma 1, iE cI 382 (enc g2_36 lf)), (ma 4, iE cB 120 (bt f))] H := hP.sub [1, 0, 2] rfl
                    have hD : va_D A [(ma 0, oE 7 [.ref (ma 1), .ref (ma 2), .int (fi 0), .ref (ma 3), .ref (ma 4), .int (nI L), .int (nI e9_52), .int (nI s9_52), .long (w9_52), .int (m9_52), .int (0)]), (ma 1, iE cI 382 (enc g2_36 lf)), (ma 4, iE cB 120 (bt f))] := hD.sub [1, 0, 2] (by decide) rfl
                    exact ih (it + 1) k9_52 s9_52 e9_52 w9_52 m9_52 g2_36 n2 tn2 tu2 e9_36 (by omega) htok_52 hwd_52 hnm_52 (by omega) hN2 (by omega) (fun d o h => hk9 (d + 1) o ⟨k9, s9, e9, htok_x, Or.inr ⟨hk0, n9, q, tn9, tu9, _, hN9, hitem, Or.inr ⟨_, _, rfl, h⟩⟩⟩) _ _ hP hD hS ls (lv_sub hl [0, 1] rfl)
          · -- c_5: not lg_cmp (w9) (388708) ≠ 0
            have hW_1_x : Wrd f k9 s9 e9 1 := (hwd_x 1 (by decide)).mp (cmp_eq.mp c_5)
            refine lv_aload_n hx hb dX7_reads_63 rfl (lv_at hl 1 rfl) ?_
            refine cv_wv (As := []) (rest := []) (tys := TYS cI cC cB cS) (ci := 7) (wr := []) ⟨hx, hb, hml, hown, hts⟩ (c_X7_readsStep l D cI cC cB cS _ (ma) (fi) (w9) (L) (f) (gc) (lf) (k9) (s9) (e9) (m9) (tn9) (tu9) (hL) (hch) (⟨p9, hpL9, htok_x, hwd_x, hnm_x⟩) (ht) (htb) (hu) (hub)) (cwV 0 hts gX7_reads_X7_readsStep rfl rfl rfl (by decide +kernel) ⟨Nat.le_of_ble_eq_true rfl, Nat.le_of_ble_eq_true rfl⟩) hK hP hD hS hA [0, 1, 2] [] rfl rfl (by decide) (by decide) (by decide) rfl rfl rfl rfl hl.1 (Nat.le_of_ble_eq_true rfl) dX7_reads_64 ⟨Nat.le_of_ble_eq_true rfl, Nat.le_of_ble_eq_true rfl⟩ (fun u_54 H locs hu_54 hP hD hS => ?_)
            have hP : va_P D vwCl [(ma 0, oE 7 [.ref (ma 1), .ref (ma 2), .int (fi 0), .ref (ma 3), .ref (ma 4), .int (nI L), .int (nI u_54.1.2.2.1), .int (nI u_54.1.2.1), .long (u_54.1.2.2.2.1), .int (u_54.1.2.2.2.2), .int (u_54.2.1)]), (ma 1, iE cI 382 (enc u_54.2.2 lf)), (ma 4, iE cB 120 (bt f))] H := hP
            have hD : va_D A [(ma 0, oE 7 [.ref (ma 1), .ref (ma 2), .int (fi 0), .ref (ma 3), .ref (ma 4), .int (nI L), .int (nI u_54.1.2.2.1), .int (nI u_54.1.2.1), .long (u_54.1.2.2.2.1), .int (u_54.1.2.2.2.2), .int (u_54.2.1)]), (ma 1, iE cI 382 (enc u_54.2.2 lf)), (ma 4, iE cB 120 (bt f))] := hD
            have hu_54 : RdR f L (fun o => PStep f L gc tn9 tu9 e9 o) u_54.1 u_54.2.1 u_54.2.2 := hu_54
            obtain ⟨⟨k9_54, s9_54, e9_54, w9_54, m9_54⟩, z9_54, g2_54⟩ := u_54
            obtain ⟨hok_54, hr_54⟩ := hu_54
            obtain ⟨p_54, hp_54, hG_54⟩ := id hok_54
            have htok_54 : Tok f L p_54 k9_54 s9_54 e9_54 := hG_54.1
            have hle_54 := htok_54.le hp_54
            have hsem_54 : Semi f k9_54 s9_54 ↔ (e9_54 = s9_54 + 1 ∧ bt f s9_54 = 59) := semi_iff hok_54 hL hch
            rcases hr_54 with ⟨hz_54, hpi_54⟩ | ⟨hz_54, hpi_54⟩
            · -- wrong
              have hz_54 : z9_54 = 1 := hz_54
              subst hz_54
              have hP : va_P D vwCl [(ma 0, oE 7 [.ref (ma 1), .ref (ma 2), .int (fi 0), .ref (ma 3), .ref (ma 4), .int (nI L), .int (nI e9_54), .int (nI s9_54), .long (w9_54), .int (m9_54), .int (1)]), (ma 1, iE cI 382 (enc g2_54 lf)), (ma 4, iE cB 120 (bt f))] H := hP
              have hD : va_D A [(ma 0, oE 7 [.ref (ma 1), .ref (ma 2), .int (fi 0), .ref (ma 3), .ref (ma 4), .int (nI L), .int (nI e9_54), .int (nI s9_54), .long (w9_54), .int (m9_54), .int (1)]), (ma 1, iE cI 382 (enc g2_54 lf)), (ma 4, iE cB 120 (bt f))] := hD
              have hitem : PItem f L gc n9 tn9 tu9 k9 s9 e9 (.inl s9_54) := Or.inr ⟨hV_0_x, Or.inl ⟨hW_1_x, hpi_54⟩⟩
              refine lv_goto (tgt := 115) hx hb dX7_reads_67 (by decide) ?_
              refine lv_aload_n hx hb dX7_reads_115 rfl (lv_at hl 1 rfl) ?_
              refine lv_aload_n hx hb dX7_reads_116 rfl (lv_at hl 1 rfl) ?_
              refine va_get (D := D) (ci := 7) (v := .int (nI e9_54)) (C := RX7) (T := TX7) (N := 11) hx hb hts (by decide +kernel) hown hK.1 hP 0 rfl rfl 6 (by decide) (hts (.fieldLink RX7 85 "ParkingGarageModel" "next" "I") (by decide +kernel)) (fun _ h9 => h9) rfl dX7_reads_117 ?_
              refine lv_aload_n hx hb dX7_reads_120 rfl (lv_at hl 1 rfl) ?_
              refine va_get (D := D) (ci := 7) (v := .int (nI s9_54)) (C := RX7) (T := TX7) (N := 11) hx hb hts (by decide +kernel) hown hK.1 hP 0 rfl rfl 7 (by decide) (hts (.fieldLink RX7 88 "ParkingGarageModel" "begin" "I") (by decide +kernel)) (fun _ h9 => h9) rfl dX7_reads_121 ?_
              refine lv_iconst (v := 1) hx hb dX7_reads_124 (by decide) ?_
              refine lv_iadd hx hb dX7_reads_125 ?_
              rw [show (((nI s9_54) + (1)) : Int32) = nI (s9_54 + 1) from (nI_add s9_54 1)]
              refine lv_icmp_ne (tgt := 147) hx hb dX7_reads_126 (by decide) (fun c_56 => ?_) (fun c_56 => ?_)
              · -- c_56: nI e9_54 ≠ nI (s9_54 + 1)
                refine lv_iconst (v := 0) hx hb dX7_reads_147 (by decide) ?_
                refine cv_wv (As := [.int (0)]) (rest := []) (tys := TYS cI cC cB cS) (ci := 7) (wr := [(ma 1, iE cI 382 (enc g2_54 lf))]) ⟨hx, hb, hml, hown, hts⟩ (c_X7_takes l D cI cC cB cS _ (ma) (fi) (w9_54) (L) (f) (k9_54) (s9_54) (e9_54) (m9_54) (1) (0) (hL) (hch) (by omega) ((Or.inr rfl)) ((Or.inl rfl))) (cwV 1 hts gX7_reads_X7_takes rfl rfl rfl (by decide +kernel) ⟨Nat.le_of_ble_eq_true rfl, Nat.le_of_ble_eq_true rfl⟩) hK hP hD hS hA [0, 2] [1] rfl rfl (by decide) (by decide) (by decide) rfl rfl rfl rfl hl.1 (Nat.le_of_ble_eq_true rfl) dX7_reads_148 ⟨Nat.le_of_ble_eq_true rfl, Nat.le_of_ble_eq_true rfl⟩ (fun u_57 H locs hu_57 hP hD hS => ?_)
                have hP : va_P D vwCl [(ma 1, iE cI 382 (enc g2_54 lf)), (ma 0, oE 7 [.ref (ma 1), .ref (ma 2), .int (fi 0), .ref (ma 3), .ref (ma 4), .int (nI L), .int (nI u_57.1.2.2.1), .int (nI u_57.1.2.1), .long (u_57.1.2.2.2.1), .int (u_57.1.2.2.2.2), .int (u_57.2)]), (ma 4, iE cB 120 (bt f))] H := hP
                have hD : va_D A [(ma 1, iE cI 382 (enc g2_54 lf)), (ma 0, oE 7 [.ref (ma 1), .ref (ma 2), .int (fi 0), .ref (ma 3), .ref (ma 4), .int (nI L), .int (nI u_57.1.2.2.1), .int (nI u_57.1.2.1), .long (u_57.1.2.2.2.1), .int (u_57.1.2.2.2.2), .int (u_57.2)]), (ma 4, iE cB 120 (bt f))] := hD
                have hu_57 : TakeR f L (1) (0) (k9_54, s9_54, e9_54, w9_54, m9_54) u_57 := hu_57
                have hn_57 := take_no hu_57 (fun q9 => absurd q9.1 (by decide))
                subst hn_57
                have hP : va_P D vwCl [(ma 1, iE cI 382 (enc g2_54 lf)), (ma 0, oE 7 [.ref (ma 1), .ref (ma 2), .int (fi 0), .ref (ma 3), .ref (ma 4), .int (nI L), .int (nI e9_54), .int (nI s9_54), .long (w9_54), .int (m9_54), .int (1)]), (ma 4, iE cB 120 (bt f))] H := hP
                have hD : va_D A [(ma 1, iE cI 382 (enc g2_54 lf)), (ma 0, oE 7 [.ref (ma 1), .ref (ma 2), .int (fi 0), .ref (ma 3), .ref (ma 4), .int (nI L), .int (nI e9_54), .int (nI s9_54), .long (w9_54), .int (m9_54), .int (1)]), (ma 4, iE cB 120 (bt f))] := hD
                refine lv_iinc (v := nI (it + 1)) (lv' := [(1, .int (nI (it + 1))), (0, .ref (ma 0))]) hx hb dX7_reads_151 hl (k := 0) rfl (nI_1 _) (by decide) rfl (fun ls hl => ?_)
                refine lv_goto (tgt := 16) hx hb dX7_reads_154 (by decide) ?_
                refine lv_aload_n hx hb dX7_reads_16 rfl (lv_at hl 1 rfl) ?_
                refine va_get (D := D) (ci := 7) (v := .int (1)) (C := RX7) (T := TX7) (N := 11) hx hb hts (by decide +kernel) hown hK.1 hP 1 rfl rfl 10 (by decide) (hts (.fieldLink RX7 102 "ParkingGarageModel" "isWrong" "Z") (by decide +kernel)) (fun _ h9 => h9) rfl dX7_reads_17 ?_
                refine if_ne_t (tgt := 157) hx hb (by decide) dX7_reads_20 (by decide) ?_
                refine lv_iload_n hx hb dX7_reads_157 rfl (lv_at hl 0 rfl) ?_
                obtain ⟨d2, hd2⟩ := hk9 1 (.inl s9_54) ⟨k9, s9, e9, htok_x, Or.inr ⟨hk0, n9, q, tn9, tu9, _, hN9, hitem, Or.inl ⟨_, rfl, rfl⟩⟩⟩
                exact wr_iret (v := nI (it + 1)) (((k9_54, s9_54, e9_54, w9_54, m9_54), 1, g2_54)) hx hb hr hlocks hS hP hD [1, 0, 2] rfl rfl (by decide) dX7_reads_158 (⟨d2, _, hd2, Or.inl ⟨rfl, (by omega : s9_54 ≤ 120), rfl⟩⟩)
              · -- c_56: not nI e9_54 ≠ nI (s9_54 + 1)
                have hnx : e9_54 = s9_54 + 1 := nI_inj (by omega) (by omega) c_56
                refine lv_aload_n hx hb dX7_reads_129 rfl (lv_at hl 1 rfl) ?_
                refine va_get (D := D) (ci := 7) (v := .ref (ma 4)) (C := RX7) (T := TX7) (N := 11) hx hb hts (by decide +kernel) hown hK.1 hP 0 rfl rfl 4 (by decide) (hts (.fieldLink RX7 19 "ParkingGarageModel" "text" "[B") (by decide +kernel)) (fun _ h9 => h9) rfl dX7_reads_130 ?_
                refine lv_aload_n hx hb dX7_reads_133 rfl (lv_at hl 1 rfl) ?_
                refine va_get (D := D) (ci := 7) (v := .int (nI s9_54)) (C := RX7) (T := TX7) (N := 11) hx hb hts (by decide +kernel) hown hK.1 hP 0 rfl rfl 7 (by decide) (hts (.fieldLink RX7 88 "ParkingGarageModel" "begin" "I") (by decide +kernel)) (fun _ h9 => h9) rfl dX7_reads_134 ?_
                refine bald_n (f := bt f) hx hb hK.1 hP 2 2 rfl rfl (s9_54) (rfl) (by omega) (by omega) dX7_reads_137 ?_
                refine lv_bipush (v := 59) hx hb dX7_reads_138 (by decide) ?_
                refine lv_icmp_ne (tgt := 147) hx hb dX7_reads_140 (by decide) (fun c_59 => ?_) (fun c_59 => ?_)
                · -- c_59: (bt f) (s9_54) ≠ 59
                  refine lv_iconst (v := 0) hx hb dX7_reads_147 (by decide) ?_
                  refine cv_wv (As := [.int (0)]) (rest := []) (tys := TYS cI cC cB cS) (ci := 7) (wr := [(ma 1, iE cI 382 (enc g2_54 lf))]) ⟨hx, hb, hml, hown, hts⟩ (c_X7_takes l D cI cC cB cS _ (ma) (fi) (w9_54) (L) (f) (k9_54) (s9_54) (e9_54) (m9_54) (1) (0) (hL) (hch) (by omega) ((Or.inr rfl)) ((Or.inl rfl))) (cwV 1 hts gX7_reads_X7_takes rfl rfl rfl (by decide +kernel) ⟨Nat.le_of_ble_eq_true rfl, Nat.le_of_ble_eq_true rfl⟩) hK hP hD hS hA [0, 2] [1] rfl rfl (by decide) (by decide) (by decide) rfl rfl rfl rfl hl.1 (Nat.le_of_ble_eq_true rfl) dX7_reads_148 ⟨Nat.le_of_ble_eq_true rfl, Nat.le_of_ble_eq_true rfl⟩ (fun u_60 H locs hu_60 hP hD hS => ?_)
                  have hP : va_P D vwCl [(ma 1, iE cI 382 (enc g2_54 lf)), (ma 0, oE 7 [.ref (ma 1), .ref (ma 2), .int (fi 0), .ref (ma 3), .ref (ma 4), .int (nI L), .int (nI u_60.1.2.2.1), .int (nI u_60.1.2.1), .long (u_60.1.2.2.2.1), .int (u_60.1.2.2.2.2), .int (u_60.2)]), (ma 4, iE cB 120 (bt f))] H := hP
                  have hD : va_D A [(ma 1, iE cI 382 (enc g2_54 lf)), (ma 0, oE 7 [.ref (ma 1), .ref (ma 2), .int (fi 0), .ref (ma 3), .ref (ma 4), .int (nI L), .int (nI u_60.1.2.2.1), .int (nI u_60.1.2.1), .long (u_60.1.2.2.2.1), .int (u_60.1.2.2.2.2), .int (u_60.2)]), (ma 4, iE cB 120 (bt f))] := hD
                  have hu_60 : TakeR f L (1) (0) (k9_54, s9_54, e9_54, w9_54, m9_54) u_60 := hu_60
                  have hn_60 := take_no hu_60 (fun q9 => absurd q9.1 (by decide))
                  subst hn_60
                  have hP : va_P D vwCl [(ma 1, iE cI 382 (enc g2_54 lf)), (ma 0, oE 7 [.ref (ma 1), .ref (ma 2), .int (fi 0), .ref (ma 3), .ref (ma 4), .int (nI L), .int (nI e9_54), .int (nI s9_54), .long (w9_54), .int (m9_54), .int (1)]), (ma 4, iE cB 120 (bt f))] H := hP
                  have hD : va_D A [(ma 1, iE cI 382 (enc g2_54 lf)), (ma 0, oE 7 [.ref (ma 1), .ref (ma 2), .int (fi 0), .ref (ma 3), .ref (ma 4), .int (nI L), .int (nI e9_54), .int (nI s9_54), .long (w9_54), .int (m9_54), .int (1)]), (ma 4, iE cB 120 (bt f))] := hD
                  refine lv_iinc (v := nI (it + 1)) (lv' := [(1, .int (nI (it + 1))), (0, .ref (ma 0))]) hx hb dX7_reads_151 hl (k := 0) rfl (nI_1 _) (by decide) rfl (fun ls hl => ?_)
                  refine lv_goto (tgt := 16) hx hb dX7_reads_154 (by decide) ?_
                  refine lv_aload_n hx hb dX7_reads_16 rfl (lv_at hl 1 rfl) ?_
                  refine va_get (D := D) (ci := 7) (v := .int (1)) (C := RX7) (T := TX7) (N := 11) hx hb hts (by decide +kernel) hown hK.1 hP 1 rfl rfl 10 (by decide) (hts (.fieldLink RX7 102 "ParkingGarageModel" "isWrong" "Z") (by decide +kernel)) (fun _ h9 => h9) rfl dX7_reads_17 ?_
                  refine if_ne_t (tgt := 157) hx hb (by decide) dX7_reads_20 (by decide) ?_
                  refine lv_iload_n hx hb dX7_reads_157 rfl (lv_at hl 0 rfl) ?_
                  obtain ⟨d2, hd2⟩ := hk9 1 (.inl s9_54) ⟨k9, s9, e9, htok_x, Or.inr ⟨hk0, n9, q, tn9, tu9, _, hN9, hitem, Or.inl ⟨_, rfl, rfl⟩⟩⟩
                  exact wr_iret (v := nI (it + 1)) (((k9_54, s9_54, e9_54, w9_54, m9_54), 1, g2_54)) hx hb hr hlocks hS hP hD [1, 0, 2] rfl rfl (by decide) dX7_reads_158 (⟨d2, _, hd2, Or.inl ⟨rfl, (by omega : s9_54 ≤ 120), rfl⟩⟩)
                · -- c_59: not (bt f) (s9_54) ≠ 59
                  refine lv_iconst (v := 1) hx hb dX7_reads_143 (by decide) ?_
                  refine lv_goto (tgt := 148) hx hb dX7_reads_144 (by decide) ?_
                  refine cv_wv (As := [.int (1)]) (rest := []) (tys := TYS cI cC cB cS) (ci := 7) (wr := [(ma 1, iE cI 382 (enc g2_54 lf))]) ⟨hx, hb, hml, hown, hts⟩ (c_X7_takes l D cI cC cB cS _ (ma) (fi) (w9_54) (L) (f) (k9_54) (s9_54) (e9_54) (m9_54) (1) (1) (hL) (hch) (by omega) ((Or.inr rfl)) ((Or.inr rfl))) (cwV 1 hts gX7_reads_X7_takes rfl rfl rfl (by decide +kernel) ⟨Nat.le_of_ble_eq_true rfl, Nat.le_of_ble_eq_true rfl⟩) hK hP hD hS hA [0, 2] [1] rfl rfl (by decide) (by decide) (by decide) rfl rfl rfl rfl hl.1 (Nat.le_of_ble_eq_true rfl) dX7_reads_148 ⟨Nat.le_of_ble_eq_true rfl, Nat.le_of_ble_eq_true rfl⟩ (fun u_62 H locs hu_62 hP hD hS => ?_)
                  have hP : va_P D vwCl [(ma 1, iE cI 382 (enc g2_54 lf)), (ma 0, oE 7 [.ref (ma 1), .ref (ma 2), .int (fi 0), .ref (ma 3), .ref (ma 4), .int (nI L), .int (nI u_62.1.2.2.1), .int (nI u_62.1.2.1), .long (u_62.1.2.2.2.1), .int (u_62.1.2.2.2.2), .int (u_62.2)]), (ma 4, iE cB 120 (bt f))] H := hP
                  have hD : va_D A [(ma 1, iE cI 382 (enc g2_54 lf)), (ma 0, oE 7 [.ref (ma 1), .ref (ma 2), .int (fi 0), .ref (ma 3), .ref (ma 4), .int (nI L), .int (nI u_62.1.2.2.1), .int (nI u_62.1.2.1), .long (u_62.1.2.2.2.1), .int (u_62.1.2.2.2.2), .int (u_62.2)]), (ma 4, iE cB 120 (bt f))] := hD
                  have hu_62 : TakeR f L (1) (1) (k9_54, s9_54, e9_54, w9_54, m9_54) u_62 := hu_62
                  have hn_62 := take_no hu_62 (fun q9 => absurd q9.1 (by decide))
                  subst hn_62
                  have hP : va_P D vwCl [(ma 1, iE cI 382 (enc g2_54 lf)), (ma 0, oE 7 [.ref (ma 1), .ref (ma 2), .int (fi 0), .ref (ma 3), .ref (ma 4), .int (nI L), .int (nI e9_54), .int (nI s9_54), .long (w9_54), .int (m9_54), .int (1)]), (ma 4, iE cB 120 (bt f))] H := hP
                  have hD : va_D A [(ma 1, iE cI 382 (enc g2_54 lf)), (ma 0, oE 7 [.ref (ma 1), .ref (ma 2), .int (fi 0), .ref (ma 3), .ref (ma 4), .int (nI L), .int (nI e9_54), .int (nI s9_54), .long (w9_54), .int (m9_54), .int (1)]), (ma 4, iE cB 120 (bt f))] := hD
                  refine lv_iinc (v := nI (it + 1)) (lv' := [(1, .int (nI (it + 1))), (0, .ref (ma 0))]) hx hb dX7_reads_151 hl (k := 0) rfl (nI_1 _) (by decide) rfl (fun ls hl => ?_)
                  refine lv_goto (tgt := 16) hx hb dX7_reads_154 (by decide) ?_
                  refine lv_aload_n hx hb dX7_reads_16 rfl (lv_at hl 1 rfl) ?_
                  refine va_get (D := D) (ci := 7) (v := .int (1)) (C := RX7) (T := TX7) (N := 11) hx hb hts (by decide +kernel) hown hK.1 hP 1 rfl rfl 10 (by decide) (hts (.fieldLink RX7 102 "ParkingGarageModel" "isWrong" "Z") (by decide +kernel)) (fun _ h9 => h9) rfl dX7_reads_17 ?_
                  refine if_ne_t (tgt := 157) hx hb (by decide) dX7_reads_20 (by decide) ?_
                  refine lv_iload_n hx hb dX7_reads_157 rfl (lv_at hl 0 rfl) ?_
                  obtain ⟨d2, hd2⟩ := hk9 1 (.inl s9_54) ⟨k9, s9, e9, htok_x, Or.inr ⟨hk0, n9, q, tn9, tu9, _, hN9, hitem, Or.inl ⟨_, rfl, rfl⟩⟩⟩
                  exact wr_iret (v := nI (it + 1)) (((k9_54, s9_54, e9_54, w9_54, m9_54), 1, g2_54)) hx hb hr hlocks hS hP hD [1, 0, 2] rfl rfl (by decide) dX7_reads_158 (⟨d2, _, hd2, Or.inl ⟨rfl, (by omega : s9_54 ≤ 120), rfl⟩⟩)
            · -- so far
              have hz_54 : z9_54 = 0 := hz_54
              subst hz_54
              have hP : va_P D vwCl [(ma 0, oE 7 [.ref (ma 1), .ref (ma 2), .int (fi 0), .ref (ma 3), .ref (ma 4), .int (nI L), .int (nI e9_54), .int (nI s9_54), .long (w9_54), .int (m9_54), .int (0)]), (ma 1, iE cI 382 (enc g2_54 lf)), (ma 4, iE cB 120 (bt f))] H := hP
              have hD : va_D A [(ma 0, oE 7 [.ref (ma 1), .ref (ma 2), .int (fi 0), .ref (ma 3), .ref (ma 4), .int (nI L), .int (nI e9_54), .int (nI s9_54), .long (w9_54), .int (m9_54), .int (0)]), (ma 1, iE cI 382 (enc g2_54 lf)), (ma 4, iE cB 120 (bt f))] := hD
              refine lv_goto (tgt := 115) hx hb dX7_reads_67 (by decide) ?_
              refine lv_aload_n hx hb dX7_reads_115 rfl (lv_at hl 1 rfl) ?_
              refine lv_aload_n hx hb dX7_reads_116 rfl (lv_at hl 1 rfl) ?_
              refine va_get (D := D) (ci := 7) (v := .int (nI e9_54)) (C := RX7) (T := TX7) (N := 11) hx hb hts (by decide +kernel) hown hK.1 hP 0 rfl rfl 6 (by decide) (hts (.fieldLink RX7 85 "ParkingGarageModel" "next" "I") (by decide +kernel)) (fun _ h9 => h9) rfl dX7_reads_117 ?_
              refine lv_aload_n hx hb dX7_reads_120 rfl (lv_at hl 1 rfl) ?_
              refine va_get (D := D) (ci := 7) (v := .int (nI s9_54)) (C := RX7) (T := TX7) (N := 11) hx hb hts (by decide +kernel) hown hK.1 hP 0 rfl rfl 7 (by decide) (hts (.fieldLink RX7 88 "ParkingGarageModel" "begin" "I") (by decide +kernel)) (fun _ h9 => h9) rfl dX7_reads_121 ?_
              refine lv_iconst (v := 1) hx hb dX7_reads_124 (by decide) ?_
              refine lv_iadd hx hb dX7_reads_125 ?_
              rw [show (((nI s9_54) + (1)) : Int32) = nI (s9_54 + 1) from (nI_add s9_54 1)]
              refine lv_icmp_ne (tgt := 147) hx hb dX7_reads_126 (by decide) (fun c_64 => ?_) (fun c_64 => ?_)
              · -- c_64: nI e9_54 ≠ nI (s9_54 + 1)
                have hnse : ¬ Semi f k9_54 s9_54 := fun q => c_64 (by rw [(hsem_54.mp q).1])
                refine lv_iconst (v := 0) hx hb dX7_reads_147 (by decide) ?_
                refine cv_wv (As := [.int (0)]) (rest := []) (tys := TYS cI cC cB cS) (ci := 7) (wr := [(ma 1, iE cI 382 (enc g2_54 lf))]) ⟨hx, hb, hml, hown, hts⟩ (c_X7_takes l D cI cC cB cS _ (ma) (fi) (w9_54) (L) (f) (k9_54) (s9_54) (e9_54) (m9_54) (0) (0) (hL) (hch) (by omega) ((Or.inl rfl)) ((Or.inl rfl))) (cwV 1 hts gX7_reads_X7_takes rfl rfl rfl (by decide +kernel) ⟨Nat.le_of_ble_eq_true rfl, Nat.le_of_ble_eq_true rfl⟩) hK hP hD hS hA [0, 2] [1] rfl rfl (by decide) (by decide) (by decide) rfl rfl rfl rfl hl.1 (Nat.le_of_ble_eq_true rfl) dX7_reads_148 ⟨Nat.le_of_ble_eq_true rfl, Nat.le_of_ble_eq_true rfl⟩ (fun u_65 H locs hu_65 hP hD hS => ?_)
                have hP : va_P D vwCl [(ma 1, iE cI 382 (enc g2_54 lf)), (ma 0, oE 7 [.ref (ma 1), .ref (ma 2), .int (fi 0), .ref (ma 3), .ref (ma 4), .int (nI L), .int (nI u_65.1.2.2.1), .int (nI u_65.1.2.1), .long (u_65.1.2.2.2.1), .int (u_65.1.2.2.2.2), .int (u_65.2)]), (ma 4, iE cB 120 (bt f))] H := hP
                have hD : va_D A [(ma 1, iE cI 382 (enc g2_54 lf)), (ma 0, oE 7 [.ref (ma 1), .ref (ma 2), .int (fi 0), .ref (ma 3), .ref (ma 4), .int (nI L), .int (nI u_65.1.2.2.1), .int (nI u_65.1.2.1), .long (u_65.1.2.2.2.1), .int (u_65.1.2.2.2.2), .int (u_65.2)]), (ma 4, iE cB 120 (bt f))] := hD
                have hu_65 : TakeR f L (0) (0) (k9_54, s9_54, e9_54, w9_54, m9_54) u_65 := hu_65
                have hn_65 := take_no hu_65 (fun q9 => absurd q9.2 (by decide))
                subst hn_65
                have hP : va_P D vwCl [(ma 1, iE cI 382 (enc g2_54 lf)), (ma 0, oE 7 [.ref (ma 1), .ref (ma 2), .int (fi 0), .ref (ma 3), .ref (ma 4), .int (nI L), .int (nI e9_54), .int (nI s9_54), .long (w9_54), .int (m9_54), .int (1)]), (ma 4, iE cB 120 (bt f))] H := hP
                have hD : va_D A [(ma 1, iE cI 382 (enc g2_54 lf)), (ma 0, oE 7 [.ref (ma 1), .ref (ma 2), .int (fi 0), .ref (ma 3), .ref (ma 4), .int (nI L), .int (nI e9_54), .int (nI s9_54), .long (w9_54), .int (m9_54), .int (1)]), (ma 4, iE cB 120 (bt f))] := hD
                have hitem : PItem f L gc n9 tn9 tu9 k9 s9 e9 (.inl s9_54) := Or.inr ⟨hV_0_x, Or.inl ⟨hW_1_x, hpi_54 _ (Or.inr ⟨hnse, rfl⟩)⟩⟩
                refine lv_iinc (v := nI (it + 1)) (lv' := [(1, .int (nI (it + 1))), (0, .ref (ma 0))]) hx hb dX7_reads_151 hl (k := 0) rfl (nI_1 _) (by decide) rfl (fun ls hl => ?_)
                refine lv_goto (tgt := 16) hx hb dX7_reads_154 (by decide) ?_
                refine lv_aload_n hx hb dX7_reads_16 rfl (lv_at hl 1 rfl) ?_
                refine va_get (D := D) (ci := 7) (v := .int (1)) (C := RX7) (T := TX7) (N := 11) hx hb hts (by decide +kernel) hown hK.1 hP 1 rfl rfl 10 (by decide) (hts (.fieldLink RX7 102 "ParkingGarageModel" "isWrong" "Z") (by decide +kernel)) (fun _ h9 => h9) rfl dX7_reads_17 ?_
                refine if_ne_t (tgt := 157) hx hb (by decide) dX7_reads_20 (by decide) ?_
                refine lv_iload_n hx hb dX7_reads_157 rfl (lv_at hl 0 rfl) ?_
                obtain ⟨d2, hd2⟩ := hk9 1 (.inl s9_54) ⟨k9, s9, e9, htok_x, Or.inr ⟨hk0, n9, q, tn9, tu9, _, hN9, hitem, Or.inl ⟨_, rfl, rfl⟩⟩⟩
                exact wr_iret (v := nI (it + 1)) (((k9_54, s9_54, e9_54, w9_54, m9_54), 1, g2_54)) hx hb hr hlocks hS hP hD [1, 0, 2] rfl rfl (by decide) dX7_reads_158 (⟨d2, _, hd2, Or.inl ⟨rfl, (by omega : s9_54 ≤ 120), rfl⟩⟩)
              · -- c_64: not nI e9_54 ≠ nI (s9_54 + 1)
                have hnx : e9_54 = s9_54 + 1 := nI_inj (by omega) (by omega) c_64
                refine lv_aload_n hx hb dX7_reads_129 rfl (lv_at hl 1 rfl) ?_
                refine va_get (D := D) (ci := 7) (v := .ref (ma 4)) (C := RX7) (T := TX7) (N := 11) hx hb hts (by decide +kernel) hown hK.1 hP 0 rfl rfl 4 (by decide) (hts (.fieldLink RX7 19 "ParkingGarageModel" "text" "[B") (by decide +kernel)) (fun _ h9 => h9) rfl dX7_reads_130 ?_
                refine lv_aload_n hx hb dX7_reads_133 rfl (lv_at hl 1 rfl) ?_
                refine va_get (D := D) (ci := 7) (v := .int (nI s9_54)) (C := RX7) (T := TX7) (N := 11) hx hb hts (by decide +kernel) hown hK.1 hP 0 rfl rfl 7 (by decide) (hts (.fieldLink RX7 88 "ParkingGarageModel" "begin" "I") (by decide +kernel)) (fun _ h9 => h9) rfl dX7_reads_134 ?_
                refine bald_n (f := bt f) hx hb hK.1 hP 2 2 rfl rfl (s9_54) (rfl) (by omega) (by omega) dX7_reads_137 ?_
                refine lv_bipush (v := 59) hx hb dX7_reads_138 (by decide) ?_
                refine lv_icmp_ne (tgt := 147) hx hb dX7_reads_140 (by decide) (fun c_67 => ?_) (fun c_67 => ?_)
                · -- c_67: (bt f) (s9_54) ≠ 59
                  have hnse : ¬ Semi f k9_54 s9_54 := fun q => c_67 (hsem_54.mp q).2
                  refine lv_iconst (v := 0) hx hb dX7_reads_147 (by decide) ?_
                  refine cv_wv (As := [.int (0)]) (rest := []) (tys := TYS cI cC cB cS) (ci := 7) (wr := [(ma 1, iE cI 382 (enc g2_54 lf))]) ⟨hx, hb, hml, hown, hts⟩ (c_X7_takes l D cI cC cB cS _ (ma) (fi) (w9_54) (L) (f) (k9_54) (s9_54) (e9_54) (m9_54) (0) (0) (hL) (hch) (by omega) ((Or.inl rfl)) ((Or.inl rfl))) (cwV 1 hts gX7_reads_X7_takes rfl rfl rfl (by decide +kernel) ⟨Nat.le_of_ble_eq_true rfl, Nat.le_of_ble_eq_true rfl⟩) hK hP hD hS hA [0, 2] [1] rfl rfl (by decide) (by decide) (by decide) rfl rfl rfl rfl hl.1 (Nat.le_of_ble_eq_true rfl) dX7_reads_148 ⟨Nat.le_of_ble_eq_true rfl, Nat.le_of_ble_eq_true rfl⟩ (fun u_68 H locs hu_68 hP hD hS => ?_)
                  have hP : va_P D vwCl [(ma 1, iE cI 382 (enc g2_54 lf)), (ma 0, oE 7 [.ref (ma 1), .ref (ma 2), .int (fi 0), .ref (ma 3), .ref (ma 4), .int (nI L), .int (nI u_68.1.2.2.1), .int (nI u_68.1.2.1), .long (u_68.1.2.2.2.1), .int (u_68.1.2.2.2.2), .int (u_68.2)]), (ma 4, iE cB 120 (bt f))] H := hP
                  have hD : va_D A [(ma 1, iE cI 382 (enc g2_54 lf)), (ma 0, oE 7 [.ref (ma 1), .ref (ma 2), .int (fi 0), .ref (ma 3), .ref (ma 4), .int (nI L), .int (nI u_68.1.2.2.1), .int (nI u_68.1.2.1), .long (u_68.1.2.2.2.1), .int (u_68.1.2.2.2.2), .int (u_68.2)]), (ma 4, iE cB 120 (bt f))] := hD
                  have hu_68 : TakeR f L (0) (0) (k9_54, s9_54, e9_54, w9_54, m9_54) u_68 := hu_68
                  have hn_68 := take_no hu_68 (fun q9 => absurd q9.2 (by decide))
                  subst hn_68
                  have hP : va_P D vwCl [(ma 1, iE cI 382 (enc g2_54 lf)), (ma 0, oE 7 [.ref (ma 1), .ref (ma 2), .int (fi 0), .ref (ma 3), .ref (ma 4), .int (nI L), .int (nI e9_54), .int (nI s9_54), .long (w9_54), .int (m9_54), .int (1)]), (ma 4, iE cB 120 (bt f))] H := hP
                  have hD : va_D A [(ma 1, iE cI 382 (enc g2_54 lf)), (ma 0, oE 7 [.ref (ma 1), .ref (ma 2), .int (fi 0), .ref (ma 3), .ref (ma 4), .int (nI L), .int (nI e9_54), .int (nI s9_54), .long (w9_54), .int (m9_54), .int (1)]), (ma 4, iE cB 120 (bt f))] := hD
                  have hitem : PItem f L gc n9 tn9 tu9 k9 s9 e9 (.inl s9_54) := Or.inr ⟨hV_0_x, Or.inl ⟨hW_1_x, hpi_54 _ (Or.inr ⟨hnse, rfl⟩)⟩⟩
                  refine lv_iinc (v := nI (it + 1)) (lv' := [(1, .int (nI (it + 1))), (0, .ref (ma 0))]) hx hb dX7_reads_151 hl (k := 0) rfl (nI_1 _) (by decide) rfl (fun ls hl => ?_)
                  refine lv_goto (tgt := 16) hx hb dX7_reads_154 (by decide) ?_
                  refine lv_aload_n hx hb dX7_reads_16 rfl (lv_at hl 1 rfl) ?_
                  refine va_get (D := D) (ci := 7) (v := .int (1)) (C := RX7) (T := TX7) (N := 11) hx hb hts (by decide +kernel) hown hK.1 hP 1 rfl rfl 10 (by decide) (hts (.fieldLink RX7 102 "ParkingGarageModel" "isWrong" "Z") (by decide +kernel)) (fun _ h9 => h9) rfl dX7_reads_17 ?_
                  refine if_ne_t (tgt := 157) hx hb (by decide) dX7_reads_20 (by decide) ?_
                  refine lv_iload_n hx hb dX7_reads_157 rfl (lv_at hl 0 rfl) ?_
                  obtain ⟨d2, hd2⟩ := hk9 1 (.inl s9_54) ⟨k9, s9, e9, htok_x, Or.inr ⟨hk0, n9, q, tn9, tu9, _, hN9, hitem, Or.inl ⟨_, rfl, rfl⟩⟩⟩
                  exact wr_iret (v := nI (it + 1)) (((k9_54, s9_54, e9_54, w9_54, m9_54), 1, g2_54)) hx hb hr hlocks hS hP hD [1, 0, 2] rfl rfl (by decide) dX7_reads_158 (⟨d2, _, hd2, Or.inl ⟨rfl, (by omega : s9_54 ≤ 120), rfl⟩⟩)
                · -- c_67: not (bt f) (s9_54) ≠ 59
                  have hse : Semi f k9_54 s9_54 := hsem_54.mpr ⟨hnx, c_67⟩
                  refine lv_iconst (v := 1) hx hb dX7_reads_143 (by decide) ?_
                  refine lv_goto (tgt := 148) hx hb dX7_reads_144 (by decide) ?_
                  refine cv_wv (As := [.int (1)]) (rest := []) (tys := TYS cI cC cB cS) (ci := 7) (wr := [(ma 1, iE cI 382 (enc g2_54 lf))]) ⟨hx, hb, hml, hown, hts⟩ (c_X7_takes l D cI cC cB cS _ (ma) (fi) (w9_54) (L) (f) (k9_54) (s9_54) (e9_54) (m9_54) (0) (1) (hL) (hch) (by omega) ((Or.inl rfl)) ((Or.inr rfl))) (cwV 1 hts gX7_reads_X7_takes rfl rfl rfl (by decide +kernel) ⟨Nat.le_of_ble_eq_true rfl, Nat.le_of_ble_eq_true rfl⟩) hK hP hD hS hA [0, 2] [1] rfl rfl (by decide) (by decide) (by decide) rfl rfl rfl rfl hl.1 (Nat.le_of_ble_eq_true rfl) dX7_reads_148 ⟨Nat.le_of_ble_eq_true rfl, Nat.le_of_ble_eq_true rfl⟩ (fun u_70 H locs hu_70 hP hD hS => ?_)
                  have hP : va_P D vwCl [(ma 1, iE cI 382 (enc g2_54 lf)), (ma 0, oE 7 [.ref (ma 1), .ref (ma 2), .int (fi 0), .ref (ma 3), .ref (ma 4), .int (nI L), .int (nI u_70.1.2.2.1), .int (nI u_70.1.2.1), .long (u_70.1.2.2.2.1), .int (u_70.1.2.2.2.2), .int (u_70.2)]), (ma 4, iE cB 120 (bt f))] H := hP
                  have hD : va_D A [(ma 1, iE cI 382 (enc g2_54 lf)), (ma 0, oE 7 [.ref (ma 1), .ref (ma 2), .int (fi 0), .ref (ma 3), .ref (ma 4), .int (nI L), .int (nI u_70.1.2.2.1), .int (nI u_70.1.2.1), .long (u_70.1.2.2.2.1), .int (u_70.1.2.2.2.2), .int (u_70.2)]), (ma 4, iE cB 120 (bt f))] := hD
                  have hu_70 : TakeR f L (0) (1) (k9_54, s9_54, e9_54, w9_54, m9_54) u_70 := hu_70
                  have hitem : PItem f L gc n9 tn9 tu9 k9 s9 e9 (.inr (e9_54, g2_54)) := Or.inr ⟨hV_0_x, Or.inl ⟨hW_1_x, hpi_54 _ (Or.inl ⟨hse, rfl⟩)⟩⟩
                  obtain ⟨hfw1, hfw2, n2, tn2, tu2, hN2⟩ := PItem.fwd (by omega) hN9 hitem
                  obtain ⟨⟨k9_70, s9_70, e9_70, w9_70, m9_70⟩, z9_70⟩ := u_70
                  obtain ⟨hz_70, hg_70⟩ := take_yes hu_70
                  have hz_70 : z9_70 = 0 := hz_70
                  subst hz_70
                  have htok_70 : Tok f L e9_54 k9_70 s9_70 e9_70 := hg_70.1
                  have hwd_70 : WdOf f k9_70 s9_70 e9_70 w9_70 := hg_70.2.1
                  have hnm_70 : NmOf f k9_70 s9_70 e9_70 m9_70 := hg_70.2.2
                  have hle_70 := htok_70.le (by omega)
                  have heL_70 : e9_70 ≤ L := hle_70.2.2.1
                  have hP : va_P D vwCl [(ma 1, iE cI 382 (enc g2_54 lf)), (ma 0, oE 7 [.ref (ma 1), .ref (ma 2), .int (fi 0), .ref (ma 3), .ref (ma 4), .int (nI L), .int (nI e9_70), .int (nI s9_70), .long (w9_70), .int (m9_70), .int (0)]), (ma 4, iE cB 120 (bt f))] H := hP
                  have hD : va_D A [(ma 1, iE cI 382 (enc g2_54 lf)), (ma 0, oE 7 [.ref (ma 1), .ref (ma 2), .int (fi 0), .ref (ma 3), .ref (ma 4), .int (nI L), .int (nI e9_70), .int (nI s9_70), .long (w9_70), .int (m9_70), .int (0)]), (ma 4, iE cB 120 (bt f))] := hD
                  refine lv_iinc (v := nI (it + 1)) (lv' := [(1, .int (nI (it + 1))), (0, .ref (ma 0))]) hx hb dX7_reads_151 hl (k := 0) rfl (nI_1 _) (by decide) rfl (fun ls hl => ?_)
                  refine lv_goto (tgt := 16) hx hb dX7_reads_154 (by decide) ?_
                  have hP : va_P D vwCl [(ma 0, oE 7 [.ref (ma 1), .ref (ma 2), .int (fi 0), .ref (ma 3), .ref (ma 4), .int (nI L), .int (nI e9_70), .int (nI s9_70), .long (w9_70), .int (m9_70), .int (0)]), (ma 1, iE cI 382 (enc g2_54 lf)), (ma 4, iE cB 120 (bt f))] H := hP.sub [1, 0, 2] rfl
                  have hD : va_D A [(ma 0, oE 7 [.ref (ma 1), .ref (ma 2), .int (fi 0), .ref (ma 3), .ref (ma 4), .int (nI L), .int (nI e9_70), .int (nI s9_70), .long (w9_70), .int (m9_70), .int (0)]), (ma 1, iE cI 382 (enc g2_54 lf)), (ma 4, iE cB 120 (bt f))] := hD.sub [1, 0, 2] (by decide) rfl
                  exact ih (it + 1) k9_70 s9_70 e9_70 w9_70 m9_70 g2_54 n2 tn2 tu2 e9_54 (by omega) htok_70 hwd_70 hnm_70 (by omega) hN2 (by omega) (fun d o h => hk9 (d + 1) o ⟨k9, s9, e9, htok_x, Or.inr ⟨hk0, n9, q, tn9, tu9, _, hN9, hitem, Or.inr ⟨_, _, rfl, h⟩⟩⟩) _ _ hP hD hS ls (lv_sub hl [0, 1] rfl)
        · -- c_4: not lg_cmp (w9) (1510) ≠ 0
          have hW_0_x : Wrd f k9 s9 e9 0 := (hwd_x 0 (by decide)).mp (cmp_eq.mp c_4)
          refine lv_aload_n hx hb dX7_reads_45 rfl (lv_at hl 1 rfl) ?_
          refine cv_wv (As := []) (rest := []) (tys := TYS cI cC cB cS) (ci := 7) (wr := []) ⟨hx, hb, hml, hown, hts⟩ (c_X7_readsBay l D cI cC cB cS _ (ma) (fi) (w9) (L) (f) (gc) (lf) (k9) (s9) (e9) (m9) (n9) (hL) (hch) (⟨p9, hpL9, htok_x, hwd_x, hnm_x⟩) (hn) (hnb)) (cwV 0 hts gX7_reads_X7_readsBay rfl rfl rfl (by decide +kernel) ⟨Nat.le_of_ble_eq_true rfl, Nat.le_of_ble_eq_true rfl⟩) hK hP hD hS hA [0, 1, 2] [] rfl rfl (by decide) (by decide) (by decide) rfl rfl rfl rfl hl.1 (Nat.le_of_ble_eq_true rfl) dX7_reads_46 ⟨Nat.le_of_ble_eq_true rfl, Nat.le_of_ble_eq_true rfl⟩ (fun u_72 H locs hu_72 hP hD hS => ?_)
          have hP : va_P D vwCl [(ma 0, oE 7 [.ref (ma 1), .ref (ma 2), .int (fi 0), .ref (ma 3), .ref (ma 4), .int (nI L), .int (nI u_72.1.2.2.1), .int (nI u_72.1.2.1), .long (u_72.1.2.2.2.1), .int (u_72.1.2.2.2.2), .int (u_72.2.1)]), (ma 1, iE cI 382 (enc u_72.2.2 lf)), (ma 4, iE cB 120 (bt f))] H := hP
          have hD : va_D A [(ma 0, oE 7 [.ref (ma 1), .ref (ma 2), .int (fi 0), .ref (ma 3), .ref (ma 4), .int (nI L), .int (nI u_72.1.2.2.1), .int (nI u_72.1.2.1), .long (u_72.1.2.2.2.1), .int (u_72.1.2.2.2.2), .int (u_72.2.1)]), (ma 1, iE cI 382 (enc u_72.2.2 lf)), (ma 4, iE cB 120 (bt f))] := hD
          have hu_72 : RdR f L (fun o => PBay f L gc n9 s9 e9 o) u_72.1 u_72.2.1 u_72.2.2 := hu_72
          obtain ⟨⟨k9_72, s9_72, e9_72, w9_72, m9_72⟩, z9_72, g2_72⟩ := u_72
          obtain ⟨hok_72, hr_72⟩ := hu_72
          obtain ⟨p_72, hp_72, hG_72⟩ := id hok_72
          have htok_72 : Tok f L p_72 k9_72 s9_72 e9_72 := hG_72.1
          have hle_72 := htok_72.le hp_72
          have hsem_72 : Semi f k9_72 s9_72 ↔ (e9_72 = s9_72 + 1 ∧ bt f s9_72 = 59) := semi_iff hok_72 hL hch
          rcases hr_72 with ⟨hz_72, hpi_72⟩ | ⟨hz_72, hpi_72⟩
          · -- wrong
            have hz_72 : z9_72 = 1 := hz_72
            subst hz_72
            have hP : va_P D vwCl [(ma 0, oE 7 [.ref (ma 1), .ref (ma 2), .int (fi 0), .ref (ma 3), .ref (ma 4), .int (nI L), .int (nI e9_72), .int (nI s9_72), .long (w9_72), .int (m9_72), .int (1)]), (ma 1, iE cI 382 (enc g2_72 lf)), (ma 4, iE cB 120 (bt f))] H := hP
            have hD : va_D A [(ma 0, oE 7 [.ref (ma 1), .ref (ma 2), .int (fi 0), .ref (ma 3), .ref (ma 4), .int (nI L), .int (nI e9_72), .int (nI s9_72), .long (w9_72), .int (m9_72), .int (1)]), (ma 1, iE cI 382 (enc g2_72 lf)), (ma 4, iE cB 120 (bt f))] := hD
            have hitem : PItem f L gc n9 tn9 tu9 k9 s9 e9 (.inl s9_72) := Or.inl ⟨hW_0_x, hpi_72⟩
            refine lv_goto (tgt := 115) hx hb dX7_reads_49 (by decide) ?_
            refine lv_aload_n hx hb dX7_reads_115 rfl (lv_at hl 1 rfl) ?_
            refine lv_aload_n hx hb dX7_reads_116 rfl (lv_at hl 1 rfl) ?_
            refine va_get (D := D) (ci := 7) (v := .int (nI e9_72)) (C := RX7) (T := TX7) (N := 11) hx hb hts (by decide +kernel) hown hK.1 hP 0 rfl rfl 6 (by decide) (hts (.fieldLink RX7 85 "ParkingGarageModel" "next" "I") (by decide +kernel)) (fun _ h9 => h9) rfl dX7_reads_117 ?_
            refine lv_aload_n hx hb dX7_reads_120 rfl (lv_at hl 1 rfl) ?_
            refine va_get (D := D) (ci := 7) (v := .int (nI s9_72)) (C := RX7) (T := TX7) (N := 11) hx hb hts (by decide +kernel) hown hK.1 hP 0 rfl rfl 7 (by decide) (hts (.fieldLink RX7 88 "ParkingGarageModel" "begin" "I") (by decide +kernel)) (fun _ h9 => h9) rfl dX7_reads_121 ?_
            refine lv_iconst (v := 1) hx hb dX7_reads_124 (by decide) ?_
            refine lv_iadd hx hb dX7_reads_125 ?_
            rw [show (((nI s9_72) + (1)) : Int32) = nI (s9_72 + 1) from (nI_add s9_72 1)]
            refine lv_icmp_ne (tgt := 147) hx hb dX7_reads_126 (by decide) (fun c_74 => ?_) (fun c_74 => ?_)
            · -- c_74: nI e9_72 ≠ nI (s9_72 + 1)
              refine lv_iconst (v := 0) hx hb dX7_reads_147 (by decide) ?_
              refine cv_wv (As := [.int (0)]) (rest := []) (tys := TYS cI cC cB cS) (ci := 7) (wr := [(ma 1, iE cI 382 (enc g2_72 lf))]) ⟨hx, hb, hml, hown, hts⟩ (c_X7_takes l D cI cC cB cS _ (ma) (fi) (w9_72) (L) (f) (k9_72) (s9_72) (e9_72) (m9_72) (1) (0) (hL) (hch) (by omega) ((Or.inr rfl)) ((Or.inl rfl))) (cwV 1 hts gX7_reads_X7_takes rfl rfl rfl (by decide +kernel) ⟨Nat.le_of_ble_eq_true rfl, Nat.le_of_ble_eq_true rfl⟩) hK hP hD hS hA [0, 2] [1] rfl rfl (by decide) (by decide) (by decide) rfl rfl rfl rfl hl.1 (Nat.le_of_ble_eq_true rfl) dX7_reads_148 ⟨Nat.le_of_ble_eq_true rfl, Nat.le_of_ble_eq_true rfl⟩ (fun u_75 H locs hu_75 hP hD hS => ?_)
              have hP : va_P D vwCl [(ma 1, iE cI 382 (enc g2_72 lf)), (ma 0, oE 7 [.ref (ma 1), .ref (ma 2), .int (fi 0), .ref (ma 3), .ref (ma 4), .int (nI L), .int (nI u_75.1.2.2.1), .int (nI u_75.1.2.1), .long (u_75.1.2.2.2.1), .int (u_75.1.2.2.2.2), .int (u_75.2)]), (ma 4, iE cB 120 (bt f))] H := hP
              have hD : va_D A [(ma 1, iE cI 382 (enc g2_72 lf)), (ma 0, oE 7 [.ref (ma 1), .ref (ma 2), .int (fi 0), .ref (ma 3), .ref (ma 4), .int (nI L), .int (nI u_75.1.2.2.1), .int (nI u_75.1.2.1), .long (u_75.1.2.2.2.1), .int (u_75.1.2.2.2.2), .int (u_75.2)]), (ma 4, iE cB 120 (bt f))] := hD
              have hu_75 : TakeR f L (1) (0) (k9_72, s9_72, e9_72, w9_72, m9_72) u_75 := hu_75
              have hn_75 := take_no hu_75 (fun q9 => absurd q9.1 (by decide))
              subst hn_75
              have hP : va_P D vwCl [(ma 1, iE cI 382 (enc g2_72 lf)), (ma 0, oE 7 [.ref (ma 1), .ref (ma 2), .int (fi 0), .ref (ma 3), .ref (ma 4), .int (nI L), .int (nI e9_72), .int (nI s9_72), .long (w9_72), .int (m9_72), .int (1)]), (ma 4, iE cB 120 (bt f))] H := hP
              have hD : va_D A [(ma 1, iE cI 382 (enc g2_72 lf)), (ma 0, oE 7 [.ref (ma 1), .ref (ma 2), .int (fi 0), .ref (ma 3), .ref (ma 4), .int (nI L), .int (nI e9_72), .int (nI s9_72), .long (w9_72), .int (m9_72), .int (1)]), (ma 4, iE cB 120 (bt f))] := hD
              refine lv_iinc (v := nI (it + 1)) (lv' := [(1, .int (nI (it + 1))), (0, .ref (ma 0))]) hx hb dX7_reads_151 hl (k := 0) rfl (nI_1 _) (by decide) rfl (fun ls hl => ?_)
              refine lv_goto (tgt := 16) hx hb dX7_reads_154 (by decide) ?_
              refine lv_aload_n hx hb dX7_reads_16 rfl (lv_at hl 1 rfl) ?_
              refine va_get (D := D) (ci := 7) (v := .int (1)) (C := RX7) (T := TX7) (N := 11) hx hb hts (by decide +kernel) hown hK.1 hP 1 rfl rfl 10 (by decide) (hts (.fieldLink RX7 102 "ParkingGarageModel" "isWrong" "Z") (by decide +kernel)) (fun _ h9 => h9) rfl dX7_reads_17 ?_
              refine if_ne_t (tgt := 157) hx hb (by decide) dX7_reads_20 (by decide) ?_
              refine lv_iload_n hx hb dX7_reads_157 rfl (lv_at hl 0 rfl) ?_
              obtain ⟨d2, hd2⟩ := hk9 1 (.inl s9_72) ⟨k9, s9, e9, htok_x, Or.inr ⟨hk0, n9, q, tn9, tu9, _, hN9, hitem, Or.inl ⟨_, rfl, rfl⟩⟩⟩
              exact wr_iret (v := nI (it + 1)) (((k9_72, s9_72, e9_72, w9_72, m9_72), 1, g2_72)) hx hb hr hlocks hS hP hD [1, 0, 2] rfl rfl (by decide) dX7_reads_158 (⟨d2, _, hd2, Or.inl ⟨rfl, (by omega : s9_72 ≤ 120), rfl⟩⟩)
            · -- c_74: not nI e9_72 ≠ nI (s9_72 + 1)
              have hnx : e9_72 = s9_72 + 1 := nI_inj (by omega) (by omega) c_74
              refine lv_aload_n hx hb dX7_reads_129 rfl (lv_at hl 1 rfl) ?_
              refine va_get (D := D) (ci := 7) (v := .ref (ma 4)) (C := RX7) (T := TX7) (N := 11) hx hb hts (by decide +kernel) hown hK.1 hP 0 rfl rfl 4 (by decide) (hts (.fieldLink RX7 19 "ParkingGarageModel" "text" "[B") (by decide +kernel)) (fun _ h9 => h9) rfl dX7_reads_130 ?_
              refine lv_aload_n hx hb dX7_reads_133 rfl (lv_at hl 1 rfl) ?_
              refine va_get (D := D) (ci := 7) (v := .int (nI s9_72)) (C := RX7) (T := TX7) (N := 11) hx hb hts (by decide +kernel) hown hK.1 hP 0 rfl rfl 7 (by decide) (hts (.fieldLink RX7 88 "ParkingGarageModel" "begin" "I") (by decide +kernel)) (fun _ h9 => h9) rfl dX7_reads_134 ?_
              refine bald_n (f := bt f) hx hb hK.1 hP 2 2 rfl rfl (s9_72) (rfl) (by omega) (by omega) dX7_reads_137 ?_
              refine lv_bipush (v := 59) hx hb dX7_reads_138 (by decide) ?_
              refine lv_icmp_ne (tgt := 147) hx hb dX7_reads_140 (by decide) (fun c_77 => ?_) (fun c_77 => ?_)
              · -- c_77: (bt f) (s9_72) ≠ 59
                refine lv_iconst (v := 0) hx hb dX7_reads_147 (by decide) ?_
                refine cv_wv (As := [.int (0)]) (rest := []) (tys := TYS cI cC cB cS) (ci := 7) (wr := [(ma 1, iE cI 382 (enc g2_72 lf))]) ⟨hx, hb, hml, hown, hts⟩ (c_X7_takes l D cI cC cB cS _ (ma) (fi) (w9_72) (L) (f) (k9_72) (s9_72) (e9_72) (m9_72) (1) (0) (hL) (hch) (by omega) ((Or.inr rfl)) ((Or.inl rfl))) (cwV 1 hts gX7_reads_X7_takes rfl rfl rfl (by decide +kernel) ⟨Nat.le_of_ble_eq_true rfl, Nat.le_of_ble_eq_true rfl⟩) hK hP hD hS hA [0, 2] [1] rfl rfl (by decide) (by decide) (by decide) rfl rfl rfl rfl hl.1 (Nat.le_of_ble_eq_true rfl) dX7_reads_148 ⟨Nat.le_of_ble_eq_true rfl, Nat.le_of_ble_eq_true rfl⟩ (fun u_78 H locs hu_78 hP hD hS => ?_)
                have hP : va_P D vwCl [(ma 1, iE cI 382 (enc g2_72 lf)), (ma 0, oE 7 [.ref (ma 1), .ref (ma 2), .int (fi 0), .ref (ma 3), .ref (ma 4), .int (nI L), .int (nI u_78.1.2.2.1), .int (nI u_78.1.2.1), .long (u_78.1.2.2.2.1), .int (u_78.1.2.2.2.2), .int (u_78.2)]), (ma 4, iE cB 120 (bt f))] H := hP
                have hD : va_D A [(ma 1, iE cI 382 (enc g2_72 lf)), (ma 0, oE 7 [.ref (ma 1), .ref (ma 2), .int (fi 0), .ref (ma 3), .ref (ma 4), .int (nI L), .int (nI u_78.1.2.2.1), .int (nI u_78.1.2.1), .long (u_78.1.2.2.2.1), .int (u_78.1.2.2.2.2), .int (u_78.2)]), (ma 4, iE cB 120 (bt f))] := hD
                have hu_78 : TakeR f L (1) (0) (k9_72, s9_72, e9_72, w9_72, m9_72) u_78 := hu_78
                have hn_78 := take_no hu_78 (fun q9 => absurd q9.1 (by decide))
                subst hn_78
                have hP : va_P D vwCl [(ma 1, iE cI 382 (enc g2_72 lf)), (ma 0, oE 7 [.ref (ma 1), .ref (ma 2), .int (fi 0), .ref (ma 3), .ref (ma 4), .int (nI L), .int (nI e9_72), .int (nI s9_72), .long (w9_72), .int (m9_72), .int (1)]), (ma 4, iE cB 120 (bt f))] H := hP
                have hD : va_D A [(ma 1, iE cI 382 (enc g2_72 lf)), (ma 0, oE 7 [.ref (ma 1), .ref (ma 2), .int (fi 0), .ref (ma 3), .ref (ma 4), .int (nI L), .int (nI e9_72), .int (nI s9_72), .long (w9_72), .int (m9_72), .int (1)]), (ma 4, iE cB 120 (bt f))] := hD
                refine lv_iinc (v := nI (it + 1)) (lv' := [(1, .int (nI (it + 1))), (0, .ref (ma 0))]) hx hb dX7_reads_151 hl (k := 0) rfl (nI_1 _) (by decide) rfl (fun ls hl => ?_)
                refine lv_goto (tgt := 16) hx hb dX7_reads_154 (by decide) ?_
                refine lv_aload_n hx hb dX7_reads_16 rfl (lv_at hl 1 rfl) ?_
                refine va_get (D := D) (ci := 7) (v := .int (1)) (C := RX7) (T := TX7) (N := 11) hx hb hts (by decide +kernel) hown hK.1 hP 1 rfl rfl 10 (by decide) (hts (.fieldLink RX7 102 "ParkingGarageModel" "isWrong" "Z") (by decide +kernel)) (fun _ h9 => h9) rfl dX7_reads_17 ?_
                refine if_ne_t (tgt := 157) hx hb (by decide) dX7_reads_20 (by decide) ?_
                refine lv_iload_n hx hb dX7_reads_157 rfl (lv_at hl 0 rfl) ?_
                obtain ⟨d2, hd2⟩ := hk9 1 (.inl s9_72) ⟨k9, s9, e9, htok_x, Or.inr ⟨hk0, n9, q, tn9, tu9, _, hN9, hitem, Or.inl ⟨_, rfl, rfl⟩⟩⟩
                exact wr_iret (v := nI (it + 1)) (((k9_72, s9_72, e9_72, w9_72, m9_72), 1, g2_72)) hx hb hr hlocks hS hP hD [1, 0, 2] rfl rfl (by decide) dX7_reads_158 (⟨d2, _, hd2, Or.inl ⟨rfl, (by omega : s9_72 ≤ 120), rfl⟩⟩)
              · -- c_77: not (bt f) (s9_72) ≠ 59
                refine lv_iconst (v := 1) hx hb dX7_reads_143 (by decide) ?_
                refine lv_goto (tgt := 148) hx hb dX7_reads_144 (by decide) ?_
                refine cv_wv (As := [.int (1)]) (rest := []) (tys := TYS cI cC cB cS) (ci := 7) (wr := [(ma 1, iE cI 382 (enc g2_72 lf))]) ⟨hx, hb, hml, hown, hts⟩ (c_X7_takes l D cI cC cB cS _ (ma) (fi) (w9_72) (L) (f) (k9_72) (s9_72) (e9_72) (m9_72) (1) (1) (hL) (hch) (by omega) ((Or.inr rfl)) ((Or.inr rfl))) (cwV 1 hts gX7_reads_X7_takes rfl rfl rfl (by decide +kernel) ⟨Nat.le_of_ble_eq_true rfl, Nat.le_of_ble_eq_true rfl⟩) hK hP hD hS hA [0, 2] [1] rfl rfl (by decide) (by decide) (by decide) rfl rfl rfl rfl hl.1 (Nat.le_of_ble_eq_true rfl) dX7_reads_148 ⟨Nat.le_of_ble_eq_true rfl, Nat.le_of_ble_eq_true rfl⟩ (fun u_80 H locs hu_80 hP hD hS => ?_)
                have hP : va_P D vwCl [(ma 1, iE cI 382 (enc g2_72 lf)), (ma 0, oE 7 [.ref (ma 1), .ref (ma 2), .int (fi 0), .ref (ma 3), .ref (ma 4), .int (nI L), .int (nI u_80.1.2.2.1), .int (nI u_80.1.2.1), .long (u_80.1.2.2.2.1), .int (u_80.1.2.2.2.2), .int (u_80.2)]), (ma 4, iE cB 120 (bt f))] H := hP
                have hD : va_D A [(ma 1, iE cI 382 (enc g2_72 lf)), (ma 0, oE 7 [.ref (ma 1), .ref (ma 2), .int (fi 0), .ref (ma 3), .ref (ma 4), .int (nI L), .int (nI u_80.1.2.2.1), .int (nI u_80.1.2.1), .long (u_80.1.2.2.2.1), .int (u_80.1.2.2.2.2), .int (u_80.2)]), (ma 4, iE cB 120 (bt f))] := hD
                have hu_80 : TakeR f L (1) (1) (k9_72, s9_72, e9_72, w9_72, m9_72) u_80 := hu_80
                have hn_80 := take_no hu_80 (fun q9 => absurd q9.1 (by decide))
                subst hn_80
                have hP : va_P D vwCl [(ma 1, iE cI 382 (enc g2_72 lf)), (ma 0, oE 7 [.ref (ma 1), .ref (ma 2), .int (fi 0), .ref (ma 3), .ref (ma 4), .int (nI L), .int (nI e9_72), .int (nI s9_72), .long (w9_72), .int (m9_72), .int (1)]), (ma 4, iE cB 120 (bt f))] H := hP
                have hD : va_D A [(ma 1, iE cI 382 (enc g2_72 lf)), (ma 0, oE 7 [.ref (ma 1), .ref (ma 2), .int (fi 0), .ref (ma 3), .ref (ma 4), .int (nI L), .int (nI e9_72), .int (nI s9_72), .long (w9_72), .int (m9_72), .int (1)]), (ma 4, iE cB 120 (bt f))] := hD
                refine lv_iinc (v := nI (it + 1)) (lv' := [(1, .int (nI (it + 1))), (0, .ref (ma 0))]) hx hb dX7_reads_151 hl (k := 0) rfl (nI_1 _) (by decide) rfl (fun ls hl => ?_)
                refine lv_goto (tgt := 16) hx hb dX7_reads_154 (by decide) ?_
                refine lv_aload_n hx hb dX7_reads_16 rfl (lv_at hl 1 rfl) ?_
                refine va_get (D := D) (ci := 7) (v := .int (1)) (C := RX7) (T := TX7) (N := 11) hx hb hts (by decide +kernel) hown hK.1 hP 1 rfl rfl 10 (by decide) (hts (.fieldLink RX7 102 "ParkingGarageModel" "isWrong" "Z") (by decide +kernel)) (fun _ h9 => h9) rfl dX7_reads_17 ?_
                refine if_ne_t (tgt := 157) hx hb (by decide) dX7_reads_20 (by decide) ?_
                refine lv_iload_n hx hb dX7_reads_157 rfl (lv_at hl 0 rfl) ?_
                obtain ⟨d2, hd2⟩ := hk9 1 (.inl s9_72) ⟨k9, s9, e9, htok_x, Or.inr ⟨hk0, n9, q, tn9, tu9, _, hN9, hitem, Or.inl ⟨_, rfl, rfl⟩⟩⟩
                exact wr_iret (v := nI (it + 1)) (((k9_72, s9_72, e9_72, w9_72, m9_72), 1, g2_72)) hx hb hr hlocks hS hP hD [1, 0, 2] rfl rfl (by decide) dX7_reads_158 (⟨d2, _, hd2, Or.inl ⟨rfl, (by omega : s9_72 ≤ 120), rfl⟩⟩)
          · -- so far
            have hz_72 : z9_72 = 0 := hz_72
            subst hz_72
            have hP : va_P D vwCl [(ma 0, oE 7 [.ref (ma 1), .ref (ma 2), .int (fi 0), .ref (ma 3), .ref (ma 4), .int (nI L), .int (nI e9_72), .int (nI s9_72), .long (w9_72), .int (m9_72), .int (0)]), (ma 1, iE cI 382 (enc g2_72 lf)), (ma 4, iE cB 120 (bt f))] H := hP
            have hD : va_D A [(ma 0, oE 7 [.ref (ma 1), .ref (ma 2), .int (fi 0), .ref (ma 3), .ref (ma 4), .int (nI L), .int (nI e9_72), .int (nI s9_72), .long (w9_72), .int (m9_72), .int (0)]), (ma 1, iE cI 382 (enc g2_72 lf)), (ma 4, iE cB 120 (bt f))] := hD
            refine lv_goto (tgt := 115) hx hb dX7_reads_49 (by decide) ?_
            refine lv_aload_n hx hb dX7_reads_115 rfl (lv_at hl 1 rfl) ?_
            refine lv_aload_n hx hb dX7_reads_116 rfl (lv_at hl 1 rfl) ?_
            refine va_get (D := D) (ci := 7) (v := .int (nI e9_72)) (C := RX7) (T := TX7) (N := 11) hx hb hts (by decide +kernel) hown hK.1 hP 0 rfl rfl 6 (by decide) (hts (.fieldLink RX7 85 "ParkingGarageModel" "next" "I") (by decide +kernel)) (fun _ h9 => h9) rfl dX7_reads_117 ?_
            refine lv_aload_n hx hb dX7_reads_120 rfl (lv_at hl 1 rfl) ?_
            refine va_get (D := D) (ci := 7) (v := .int (nI s9_72)) (C := RX7) (T := TX7) (N := 11) hx hb hts (by decide +kernel) hown hK.1 hP 0 rfl rfl 7 (by decide) (hts (.fieldLink RX7 88 "ParkingGarageModel" "begin" "I") (by decide +kernel)) (fun _ h9 => h9) rfl dX7_reads_121 ?_
            refine lv_iconst (v := 1) hx hb dX7_reads_124 (by decide) ?_
            refine lv_iadd hx hb dX7_reads_125 ?_
            rw [show (((nI s9_72) + (1)) : Int32) = nI (s9_72 + 1) from (nI_add s9_72 1)]
            refine lv_icmp_ne (tgt := 147) hx hb dX7_reads_126 (by decide) (fun c_82 => ?_) (fun c_82 => ?_)
            · -- c_82: nI e9_72 ≠ nI (s9_72 + 1)
              have hnse : ¬ Semi f k9_72 s9_72 := fun q => c_82 (by rw [(hsem_72.mp q).1])
              refine lv_iconst (v := 0) hx hb dX7_reads_147 (by decide) ?_
              refine cv_wv (As := [.int (0)]) (rest := []) (tys := TYS cI cC cB cS) (ci := 7) (wr := [(ma 1, iE cI 382 (enc g2_72 lf))]) ⟨hx, hb, hml, hown, hts⟩ (c_X7_takes l D cI cC cB cS _ (ma) (fi) (w9_72) (L) (f) (k9_72) (s9_72) (e9_72) (m9_72) (0) (0) (hL) (hch) (by omega) ((Or.inl rfl)) ((Or.inl rfl))) (cwV 1 hts gX7_reads_X7_takes rfl rfl rfl (by decide +kernel) ⟨Nat.le_of_ble_eq_true rfl, Nat.le_of_ble_eq_true rfl⟩) hK hP hD hS hA [0, 2] [1] rfl rfl (by decide) (by decide) (by decide) rfl rfl rfl rfl hl.1 (Nat.le_of_ble_eq_true rfl) dX7_reads_148 ⟨Nat.le_of_ble_eq_true rfl, Nat.le_of_ble_eq_true rfl⟩ (fun u_83 H locs hu_83 hP hD hS => ?_)
              have hP : va_P D vwCl [(ma 1, iE cI 382 (enc g2_72 lf)), (ma 0, oE 7 [.ref (ma 1), .ref (ma 2), .int (fi 0), .ref (ma 3), .ref (ma 4), .int (nI L), .int (nI u_83.1.2.2.1), .int (nI u_83.1.2.1), .long (u_83.1.2.2.2.1), .int (u_83.1.2.2.2.2), .int (u_83.2)]), (ma 4, iE cB 120 (bt f))] H := hP
              have hD : va_D A [(ma 1, iE cI 382 (enc g2_72 lf)), (ma 0, oE 7 [.ref (ma 1), .ref (ma 2), .int (fi 0), .ref (ma 3), .ref (ma 4), .int (nI L), .int (nI u_83.1.2.2.1), .int (nI u_83.1.2.1), .long (u_83.1.2.2.2.1), .int (u_83.1.2.2.2.2), .int (u_83.2)]), (ma 4, iE cB 120 (bt f))] := hD
              have hu_83 : TakeR f L (0) (0) (k9_72, s9_72, e9_72, w9_72, m9_72) u_83 := hu_83
              have hn_83 := take_no hu_83 (fun q9 => absurd q9.2 (by decide))
              subst hn_83
              have hP : va_P D vwCl [(ma 1, iE cI 382 (enc g2_72 lf)), (ma 0, oE 7 [.ref (ma 1), .ref (ma 2), .int (fi 0), .ref (ma 3), .ref (ma 4), .int (nI L), .int (nI e9_72), .int (nI s9_72), .long (w9_72), .int (m9_72), .int (1)]), (ma 4, iE cB 120 (bt f))] H := hP
              have hD : va_D A [(ma 1, iE cI 382 (enc g2_72 lf)), (ma 0, oE 7 [.ref (ma 1), .ref (ma 2), .int (fi 0), .ref (ma 3), .ref (ma 4), .int (nI L), .int (nI e9_72), .int (nI s9_72), .long (w9_72), .int (m9_72), .int (1)]), (ma 4, iE cB 120 (bt f))] := hD
              have hitem : PItem f L gc n9 tn9 tu9 k9 s9 e9 (.inl s9_72) := Or.inl ⟨hW_0_x, hpi_72 _ (Or.inr ⟨hnse, rfl⟩)⟩
              refine lv_iinc (v := nI (it + 1)) (lv' := [(1, .int (nI (it + 1))), (0, .ref (ma 0))]) hx hb dX7_reads_151 hl (k := 0) rfl (nI_1 _) (by decide) rfl (fun ls hl => ?_)
              refine lv_goto (tgt := 16) hx hb dX7_reads_154 (by decide) ?_
              refine lv_aload_n hx hb dX7_reads_16 rfl (lv_at hl 1 rfl) ?_
              refine va_get (D := D) (ci := 7) (v := .int (1)) (C := RX7) (T := TX7) (N := 11) hx hb hts (by decide +kernel) hown hK.1 hP 1 rfl rfl 10 (by decide) (hts (.fieldLink RX7 102 "ParkingGarageModel" "isWrong" "Z") (by decide +kernel)) (fun _ h9 => h9) rfl dX7_reads_17 ?_
              refine if_ne_t (tgt := 157) hx hb (by decide) dX7_reads_20 (by decide) ?_
              refine lv_iload_n hx hb dX7_reads_157 rfl (lv_at hl 0 rfl) ?_
              obtain ⟨d2, hd2⟩ := hk9 1 (.inl s9_72) ⟨k9, s9, e9, htok_x, Or.inr ⟨hk0, n9, q, tn9, tu9, _, hN9, hitem, Or.inl ⟨_, rfl, rfl⟩⟩⟩
              exact wr_iret (v := nI (it + 1)) (((k9_72, s9_72, e9_72, w9_72, m9_72), 1, g2_72)) hx hb hr hlocks hS hP hD [1, 0, 2] rfl rfl (by decide) dX7_reads_158 (⟨d2, _, hd2, Or.inl ⟨rfl, (by omega : s9_72 ≤ 120), rfl⟩⟩)
            · -- c_82: not nI e9_72 ≠ nI (s9_72 + 1)
              have hnx : e9_72 = s9_72 + 1 := nI_inj (by omega) (by omega) c_82
              refine lv_aload_n hx hb dX7_reads_129 rfl (lv_at hl 1 rfl) ?_
              refine va_get (D := D) (ci := 7) (v := .ref (ma 4)) (C := RX7) (T := TX7) (N := 11) hx hb hts (by decide +kernel) hown hK.1 hP 0 rfl rfl 4 (by decide) (hts (.fieldLink RX7 19 "ParkingGarageModel" "text" "[B") (by decide +kernel)) (fun _ h9 => h9) rfl dX7_reads_130 ?_
              refine lv_aload_n hx hb dX7_reads_133 rfl (lv_at hl 1 rfl) ?_
              refine va_get (D := D) (ci := 7) (v := .int (nI s9_72)) (C := RX7) (T := TX7) (N := 11) hx hb hts (by decide +kernel) hown hK.1 hP 0 rfl rfl 7 (by decide) (hts (.fieldLink RX7 88 "ParkingGarageModel" "begin" "I") (by decide +kernel)) (fun _ h9 => h9) rfl dX7_reads_134 ?_
              refine bald_n (f := bt f) hx hb hK.1 hP 2 2 rfl rfl (s9_72) (rfl) (by omega) (by omega) dX7_reads_137 ?_
              refine lv_bipush (v := 59) hx hb dX7_reads_138 (by decide) ?_
              refine lv_icmp_ne (tgt := 147) hx hb dX7_reads_140 (by decide) (fun c_85 => ?_) (fun c_85 => ?_)
              · -- c_85: (bt f) (s9_72) ≠ 59
                have hnse : ¬ Semi f k9_72 s9_72 := fun q => c_85 (hsem_72.mp q).2
                refine lv_iconst (v := 0) hx hb dX7_reads_147 (by decide) ?_
                refine cv_wv (As := [.int (0)]) (rest := []) (tys := TYS cI cC cB cS) (ci := 7) (wr := [(ma 1, iE cI 382 (enc g2_72 lf))]) ⟨hx, hb, hml, hown, hts⟩ (c_X7_takes l D cI cC cB cS _ (ma) (fi) (w9_72) (L) (f) (k9_72) (s9_72) (e9_72) (m9_72) (0) (0) (hL) (hch) (by omega) ((Or.inl rfl)) ((Or.inl rfl))) (cwV 1 hts gX7_reads_X7_takes rfl rfl rfl (by decide +kernel) ⟨Nat.le_of_ble_eq_true rfl, Nat.le_of_ble_eq_true rfl⟩) hK hP hD hS hA [0, 2] [1] rfl rfl (by decide) (by decide) (by decide) rfl rfl rfl rfl hl.1 (Nat.le_of_ble_eq_true rfl) dX7_reads_148 ⟨Nat.le_of_ble_eq_true rfl, Nat.le_of_ble_eq_true rfl⟩ (fun u_86 H locs hu_86 hP hD hS => ?_)
                have hP : va_P D vwCl [(ma 1, iE cI 382 (enc g2_72 lf)), (ma 0, oE 7 [.ref (ma 1), .ref (ma 2), .int (fi 0), .ref (ma 3), .ref (ma 4), .int (nI L), .int (nI u_86.1.2.2.1), .int (nI u_86.1.2.1), .long (u_86.1.2.2.2.1), .int (u_86.1.2.2.2.2), .int (u_86.2)]), (ma 4, iE cB 120 (bt f))] H := hP
                have hD : va_D A [(ma 1, iE cI 382 (enc g2_72 lf)), (ma 0, oE 7 [.ref (ma 1), .ref (ma 2), .int (fi 0), .ref (ma 3), .ref (ma 4), .int (nI L), .int (nI u_86.1.2.2.1), .int (nI u_86.1.2.1), .long (u_86.1.2.2.2.1), .int (u_86.1.2.2.2.2), .int (u_86.2)]), (ma 4, iE cB 120 (bt f))] := hD
                have hu_86 : TakeR f L (0) (0) (k9_72, s9_72, e9_72, w9_72, m9_72) u_86 := hu_86
                have hn_86 := take_no hu_86 (fun q9 => absurd q9.2 (by decide))
                subst hn_86
                have hP : va_P D vwCl [(ma 1, iE cI 382 (enc g2_72 lf)), (ma 0, oE 7 [.ref (ma 1), .ref (ma 2), .int (fi 0), .ref (ma 3), .ref (ma 4), .int (nI L), .int (nI e9_72), .int (nI s9_72), .long (w9_72), .int (m9_72), .int (1)]), (ma 4, iE cB 120 (bt f))] H := hP
                have hD : va_D A [(ma 1, iE cI 382 (enc g2_72 lf)), (ma 0, oE 7 [.ref (ma 1), .ref (ma 2), .int (fi 0), .ref (ma 3), .ref (ma 4), .int (nI L), .int (nI e9_72), .int (nI s9_72), .long (w9_72), .int (m9_72), .int (1)]), (ma 4, iE cB 120 (bt f))] := hD
                have hitem : PItem f L gc n9 tn9 tu9 k9 s9 e9 (.inl s9_72) := Or.inl ⟨hW_0_x, hpi_72 _ (Or.inr ⟨hnse, rfl⟩)⟩
                refine lv_iinc (v := nI (it + 1)) (lv' := [(1, .int (nI (it + 1))), (0, .ref (ma 0))]) hx hb dX7_reads_151 hl (k := 0) rfl (nI_1 _) (by decide) rfl (fun ls hl => ?_)
                refine lv_goto (tgt := 16) hx hb dX7_reads_154 (by decide) ?_
                refine lv_aload_n hx hb dX7_reads_16 rfl (lv_at hl 1 rfl) ?_
                refine va_get (D := D) (ci := 7) (v := .int (1)) (C := RX7) (T := TX7) (N := 11) hx hb hts (by decide +kernel) hown hK.1 hP 1 rfl rfl 10 (by decide) (hts (.fieldLink RX7 102 "ParkingGarageModel" "isWrong" "Z") (by decide +kernel)) (fun _ h9 => h9) rfl dX7_reads_17 ?_
                refine if_ne_t (tgt := 157) hx hb (by decide) dX7_reads_20 (by decide) ?_
                refine lv_iload_n hx hb dX7_reads_157 rfl (lv_at hl 0 rfl) ?_
                obtain ⟨d2, hd2⟩ := hk9 1 (.inl s9_72) ⟨k9, s9, e9, htok_x, Or.inr ⟨hk0, n9, q, tn9, tu9, _, hN9, hitem, Or.inl ⟨_, rfl, rfl⟩⟩⟩
                exact wr_iret (v := nI (it + 1)) (((k9_72, s9_72, e9_72, w9_72, m9_72), 1, g2_72)) hx hb hr hlocks hS hP hD [1, 0, 2] rfl rfl (by decide) dX7_reads_158 (⟨d2, _, hd2, Or.inl ⟨rfl, (by omega : s9_72 ≤ 120), rfl⟩⟩)
              · -- c_85: not (bt f) (s9_72) ≠ 59
                have hse : Semi f k9_72 s9_72 := hsem_72.mpr ⟨hnx, c_85⟩
                refine lv_iconst (v := 1) hx hb dX7_reads_143 (by decide) ?_
                refine lv_goto (tgt := 148) hx hb dX7_reads_144 (by decide) ?_
                refine cv_wv (As := [.int (1)]) (rest := []) (tys := TYS cI cC cB cS) (ci := 7) (wr := [(ma 1, iE cI 382 (enc g2_72 lf))]) ⟨hx, hb, hml, hown, hts⟩ (c_X7_takes l D cI cC cB cS _ (ma) (fi) (w9_72) (L) (f) (k9_72) (s9_72) (e9_72) (m9_72) (0) (1) (hL) (hch) (by omega) ((Or.inl rfl)) ((Or.inr rfl))) (cwV 1 hts gX7_reads_X7_takes rfl rfl rfl (by decide +kernel) ⟨Nat.le_of_ble_eq_true rfl, Nat.le_of_ble_eq_true rfl⟩) hK hP hD hS hA [0, 2] [1] rfl rfl (by decide) (by decide) (by decide) rfl rfl rfl rfl hl.1 (Nat.le_of_ble_eq_true rfl) dX7_reads_148 ⟨Nat.le_of_ble_eq_true rfl, Nat.le_of_ble_eq_true rfl⟩ (fun u_88 H locs hu_88 hP hD hS => ?_)
                have hP : va_P D vwCl [(ma 1, iE cI 382 (enc g2_72 lf)), (ma 0, oE 7 [.ref (ma 1), .ref (ma 2), .int (fi 0), .ref (ma 3), .ref (ma 4), .int (nI L), .int (nI u_88.1.2.2.1), .int (nI u_88.1.2.1), .long (u_88.1.2.2.2.1), .int (u_88.1.2.2.2.2), .int (u_88.2)]), (ma 4, iE cB 120 (bt f))] H := hP
                have hD : va_D A [(ma 1, iE cI 382 (enc g2_72 lf)), (ma 0, oE 7 [.ref (ma 1), .ref (ma 2), .int (fi 0), .ref (ma 3), .ref (ma 4), .int (nI L), .int (nI u_88.1.2.2.1), .int (nI u_88.1.2.1), .long (u_88.1.2.2.2.1), .int (u_88.1.2.2.2.2), .int (u_88.2)]), (ma 4, iE cB 120 (bt f))] := hD
                have hu_88 : TakeR f L (0) (1) (k9_72, s9_72, e9_72, w9_72, m9_72) u_88 := hu_88
                have hitem : PItem f L gc n9 tn9 tu9 k9 s9 e9 (.inr (e9_72, g2_72)) := Or.inl ⟨hW_0_x, hpi_72 _ (Or.inl ⟨hse, rfl⟩)⟩
                obtain ⟨hfw1, hfw2, n2, tn2, tu2, hN2⟩ := PItem.fwd (by omega) hN9 hitem
                obtain ⟨⟨k9_88, s9_88, e9_88, w9_88, m9_88⟩, z9_88⟩ := u_88
                obtain ⟨hz_88, hg_88⟩ := take_yes hu_88
                have hz_88 : z9_88 = 0 := hz_88
                subst hz_88
                have htok_88 : Tok f L e9_72 k9_88 s9_88 e9_88 := hg_88.1
                have hwd_88 : WdOf f k9_88 s9_88 e9_88 w9_88 := hg_88.2.1
                have hnm_88 : NmOf f k9_88 s9_88 e9_88 m9_88 := hg_88.2.2
                have hle_88 := htok_88.le (by omega)
                have heL_88 : e9_88 ≤ L := hle_88.2.2.1
                have hP : va_P D vwCl [(ma 1, iE cI 382 (enc g2_72 lf)), (ma 0, oE 7 [.ref (ma 1), .ref (ma 2), .int (fi 0), .ref (ma 3), .ref (ma 4), .int (nI L), .int (nI e9_88), .int (nI s9_88), .long (w9_88), .int (m9_88), .int (0)]), (ma 4, iE cB 120 (bt f))] H := hP
                have hD : va_D A [(ma 1, iE cI 382 (enc g2_72 lf)), (ma 0, oE 7 [.ref (ma 1), .ref (ma 2), .int (fi 0), .ref (ma 3), .ref (ma 4), .int (nI L), .int (nI e9_88), .int (nI s9_88), .long (w9_88), .int (m9_88), .int (0)]), (ma 4, iE cB 120 (bt f))] := hD
                refine lv_iinc (v := nI (it + 1)) (lv' := [(1, .int (nI (it + 1))), (0, .ref (ma 0))]) hx hb dX7_reads_151 hl (k := 0) rfl (nI_1 _) (by decide) rfl (fun ls hl => ?_)
                refine lv_goto (tgt := 16) hx hb dX7_reads_154 (by decide) ?_
                have hP : va_P D vwCl [(ma 0, oE 7 [.ref (ma 1), .ref (ma 2), .int (fi 0), .ref (ma 3), .ref (ma 4), .int (nI L), .int (nI e9_88), .int (nI s9_88), .long (w9_88), .int (m9_88), .int (0)]), (ma 1, iE cI 382 (enc g2_72 lf)), (ma 4, iE cB 120 (bt f))] H := hP.sub [1, 0, 2] rfl
                have hD : va_D A [(ma 0, oE 7 [.ref (ma 1), .ref (ma 2), .int (fi 0), .ref (ma 3), .ref (ma 4), .int (nI L), .int (nI e9_88), .int (nI s9_88), .long (w9_88), .int (m9_88), .int (0)]), (ma 1, iE cI 382 (enc g2_72 lf)), (ma 4, iE cB 120 (bt f))] := hD.sub [1, 0, 2] (by decide) rfl
                exact ih (it + 1) k9_88 s9_88 e9_88 w9_88 m9_88 g2_72 n2 tn2 tu2 e9_72 (by omega) htok_88 hwd_88 hnm_88 (by omega) hN2 (by omega) (fun d o h => hk9 (d + 1) o ⟨k9, s9, e9, htok_x, Or.inr ⟨hk0, n9, q, tn9, tu9, _, hN9, hitem, Or.inr ⟨_, _, rfl, h⟩⟩⟩) _ _ hP hD hS ls (lv_sub hl [0, 1] rfl)
  exact hloop (L + 1 - 0 + 1) 0 k9_1 s9_1 e9_1 w9_1 m9_1 g n tn tu 0 (by omega) htok_1 hwd_1 hnm_1 (by omega) hNs (Nat.le_refl _) (fun d o h => ⟨d, h⟩) _ _ hP hD hS ls (lv_sub hl [0, 1] rfl)
