/-! ===== the reference: tariffs, fees, small methods that write (laid by wip/whole/gen) ===== -/
set_option maxHeartbeats 4000000 in
set_option maxRecDepth 100000 in
theorem c_X7_place (l : Launch) (D : va_G) (cI cC cB cS : ClassId) (ma : Nat → Nat) (fi : Nat → Int32) (wd : Int64) (g : Nat → Nat → Int32) (lf : Int32) (t : Nat) (n : Nat) (x : Int32) (ht2 : t < 2) (htn : g (19 + 4 * t) 0 = nI n) (htb : n ≤ 5) : Met l yX7_place wsX7_place ({ frames := 0, cells := 0, slots := 0, locals := 0 } : Room) (rdPc D (TYS cI cC cB cS) [.ref (ma 0), .int (nI t), .int (x)] ([mO ma fi wd, (ma 1, iE cI 382 (enc g lf))])) (vp_Si (fun r => ∃ w, TPl (g (19 + 4 * t + 1)) n x w ∧ r = nI w)) 0 0 (fun _ => False) := by
  refine rd_intro (by decide) rfl (Nat.le_of_ble_eq_true rfl) ?_
  intro p e s m below meth c hx hb hr hml hts hown hlocks hP hK ls hl
  have hP : va_P D vwCl [(ma 0, oE 7 [.ref (ma 1), .ref (ma 2), .int (fi 0), .ref (ma 3), .ref (ma 4), .int (fi 1), .int (fi 2), .int (fi 3), .long (wd), .int (fi 4), .int (fi 5)]), (ma 1, iE cI 382 (enc g lf))] s.heap := hP
  have hown : s.vm.findClass RX7 = some m.cls := hown
  have hl : lv_has ls 5 [(0, .ref (ma 0)), (1, .int (nI t)), (2, .int (x))] := hl
  refine lv_bipush (v := 14) hx hb dX7_place_0 (by decide) ?_
  refine lv_bipush (v := 16) hx hb dX7_place_2 (by decide) ?_
  refine lv_iload_n hx hb dX7_place_4 rfl (lv_at hl 1 rfl) ?_
  refine lv_imul hx hb dX7_place_5 ?_
  rw [show (((16) * (nI t)) : Int32) = nI (16 * t) from (nI_mul 16 t)]
  refine lv_iadd hx hb dX7_place_6 ?_
  rw [show (((14) + (nI (16 * t))) : Int32) = nI (14 + 16 * t) from (nI_add 14 (16 * t))]
  refine lv_istore_n (lv' := [(3, .int (nI (14 + 16 * t))), (0, .ref (ma 0)), (1, .int (nI t)), (2, .int (x))]) hx hb dX7_place_7 rfl hl (by decide) rfl (fun ls hl => ?_)
  refine lv_iconst (v := 0) hx hb dX7_place_8 (by decide) ?_
  refine lv_istore (lv' := [(4, .int (0)), (3, .int (nI (14 + 16 * t))), (0, .ref (ma 0)), (1, .int (nI t)), (2, .int (x))]) hx hb dX7_place_9 hl (by decide) rfl (fun ls hl => ?_)
  have hloop : ∀ (d i : Nat), i ≤ n → n - i < d → (∀ j, j < i → g (19 + 4 * t + 1) j < x) → ∀ ls : Array Slot, lv_has ls 5 [(4, .int (nI i)), (3, .int (nI (14 + 16 * t))), (0, .ref (ma 0)), (1, .int (nI t)), (2, .int (x))] → W p l e ({ frames := 0, cells := 0, slots := 0, locals := 0 } : Room) s m (([.ref (ma 0), .int (nI t), .int (x)] : List Value).toArray) below meth c s.heap [] 0 0 (MQ below (vp_Si (fun r => ∃ w, TPl (g (19 + 4 * t + 1)) n x w ∧ r = nI w)) (([.ref (ma 0), .int (nI t), .int (x)] : List Value).toArray) s 0 0 (fun _ => False)) (F0 m 11 ls []) := by
    intro d
    induction d with
    | zero => intro i _ h2; exact absurd h2 (Nat.not_lt_zero _)
    | succ d ih =>
      intro i hi hd hlo ls hl
      refine lv_iload hx hb dX7_place_11 (lv_at hl 0 rfl) ?_
      refine lv_aload_n hx hb dX7_place_13 rfl (lv_at hl 2 rfl) ?_
      refine va_get (D := D) (ci := 7) (v := .ref (ma 1)) (C := RX7) (T := TX7) (N := 11) hx hb hts (by decide +kernel) hown hK.1 hP 0 rfl rfl 0 (by decide) (hts (.fieldLink RX7 7 "ParkingGarageModel" "s" "[I") (by decide +kernel)) (fun _ h9 => h9) rfl dX7_place_14 ?_
      refine lv_iload_n hx hb dX7_place_17 rfl (lv_at hl 1 rfl) ?_
      refine iald_n (f := enc g lf) hx hb hK.1 hP 1 0 rfl rfl (14 + 16 * t) (rfl) (by omega) (by omega) dX7_place_18 ?_
      rw [show enc g lf (14 + 16 * t) = nI n from (enc_at (by omega) (posR_tn ht2)).trans htn]
      refine lv_icmp_ge (tgt := 45) hx hb dX7_place_19 (by decide) (fun c_1 => ?_) (fun c_1 => ?_)
      · -- c_1: nI i ≥ nI n
        have hge : i = n := nI_geD (n := n) rfl hi (by omega) c_1
        refine lv_iload hx hb dX7_place_45 (lv_at hl 0 rfl) ?_
        exact rd_iret (v := nI i) hx hb hr hlocks dX7_place_47 (⟨i, ⟨by omega, hlo, fun _ => absurd hge (by omega)⟩, rfl⟩)
      · -- c_1: not nI i ≥ nI n
        have hlt : i < n := nI_ltD (n := n) rfl hi (by omega) c_1
        refine lv_aload_n hx hb dX7_place_22 rfl (lv_at hl 2 rfl) ?_
        refine va_get (D := D) (ci := 7) (v := .ref (ma 1)) (C := RX7) (T := TX7) (N := 11) hx hb hts (by decide +kernel) hown hK.1 hP 0 rfl rfl 0 (by decide) (hts (.fieldLink RX7 7 "ParkingGarageModel" "s" "[I") (by decide +kernel)) (fun _ h9 => h9) rfl dX7_place_23 ?_
        refine lv_iload_n hx hb dX7_place_26 rfl (lv_at hl 1 rfl) ?_
        refine lv_iconst (v := 1) hx hb dX7_place_27 (by decide) ?_
        refine lv_iadd hx hb dX7_place_28 ?_
        rw [show (((nI (14 + 16 * t)) + (1)) : Int32) = nI (14 + 16 * t + 1) from (nI_add (14 + 16 * t) 1)]
        refine lv_iconst (v := 3) hx hb dX7_place_29 (by decide) ?_
        refine lv_iload hx hb dX7_place_30 (lv_at hl 0 rfl) ?_
        refine lv_imul hx hb dX7_place_32 ?_
        rw [show (((3) * (nI i)) : Int32) = nI (3 * i) from (nI_mul 3 i)]
        refine lv_iadd hx hb dX7_place_33 ?_
        rw [show (((nI (14 + 16 * t + 1)) + (nI (3 * i))) : Int32) = nI (14 + 16 * t + 1 + 3 * i) from (nI_add (14 + 16 * t + 1) (3 * i))]
        refine iald_n (f := enc g lf) hx hb hK.1 hP 1 0 rfl rfl (14 + 16 * t + 1 + 3 * i) (rfl) (by omega) (by omega) dX7_place_34 ?_
        rw [show enc g lf (14 + 16 * t + 1 + 3 * i) = g (19 + 4 * t + 1) i from enc_at (by omega) (posR_tar (w := 0) (by omega) (by omega) (by omega))]
        refine lv_iload_n hx hb dX7_place_35 rfl (lv_at hl 4 rfl) ?_
        refine lv_icmp_ge (tgt := 45) hx hb dX7_place_36 (by decide) (fun c_2 => ?_) (fun c_2 => ?_)
        · -- c_2: g (19 + 4 * t + 1) i ≥ x
          refine lv_iload hx hb dX7_place_45 (lv_at hl 0 rfl) ?_
          exact rd_iret (v := nI i) hx hb hr hlocks dX7_place_47 (⟨i, ⟨by omega, hlo, fun _ => Int32.not_lt.mpr c_2⟩, rfl⟩)
        · -- c_2: not g (19 + 4 * t + 1) i ≥ x
          refine lv_iinc (v := nI (i + 1)) (lv' := [(4, .int (nI (i + 1))), (3, .int (nI (14 + 16 * t))), (0, .ref (ma 0)), (1, .int (nI t)), (2, .int (x))]) hx hb dX7_place_39 hl (k := 0) rfl (nI_1 _) (by decide) rfl (fun ls hl => ?_)
          refine lv_goto (tgt := 11) hx hb dX7_place_42 (by decide) ?_
          exact ih (i + 1) (by omega) (by omega) (all_s hlo (Int32.not_le.mp c_2)) ls (lv_sub hl [0, 1, 2, 3, 4] rfl)
  exact hloop (n + 1) 0 (by omega) (by omega) (all_0) ls (lv_sub hl [0, 1, 2, 3, 4] rfl)
set_option maxHeartbeats 4000000 in
set_option maxRecDepth 100000 in
theorem c_X7_hasStep (l : Launch) (D : va_G) (cI cC cB cS : ClassId) (ma : Nat → Nat) (fi : Nat → Int32) (wd : Int64) (g : Nat → Nat → Int32) (lf : Int32) (t : Nat) (n : Nat) (x : Int32) (ht2 : t < 2) (htn : g (19 + 4 * t) 0 = nI n) (htb : n ≤ 5) : Met l yX7_hasStep wsX7_hasStep ({ frames := 1, cells := 0, slots := 0, locals := 24 } : Room) (rdPc D (TYS cI cC cB cS) [.ref (ma 0), .int (nI t), .int (x)] ([mO ma fi wd, (ma 1, iE cI 382 (enc g lf))])) (vp_Si (fun r => Yes (THas (g (19 + 4 * t + 1)) n x) r)) 0 0 (fun _ => False) := by
  refine rd_intro (by decide) rfl (Nat.le_of_ble_eq_true rfl) ?_
  intro p e s m below meth c hx hb hr hml hts hown hlocks hP hK ls hl
  have hP : va_P D vwCl [(ma 0, oE 7 [.ref (ma 1), .ref (ma 2), .int (fi 0), .ref (ma 3), .ref (ma 4), .int (fi 1), .int (fi 2), .int (fi 3), .long (wd), .int (fi 4), .int (fi 5)]), (ma 1, iE cI 382 (enc g lf))] s.heap := hP
  have hown : s.vm.findClass RX7 = some m.cls := hown
  have hl : lv_has ls 5 [(0, .ref (ma 0)), (1, .int (nI t)), (2, .int (x))] := hl
  refine lv_bipush (v := 14) hx hb dX7_hasStep_0 (by decide) ?_
  refine lv_bipush (v := 16) hx hb dX7_hasStep_2 (by decide) ?_
  refine lv_iload_n hx hb dX7_hasStep_4 rfl (lv_at hl 1 rfl) ?_
  refine lv_imul hx hb dX7_hasStep_5 ?_
  rw [show (((16) * (nI t)) : Int32) = nI (16 * t) from (nI_mul 16 t)]
  refine lv_iadd hx hb dX7_hasStep_6 ?_
  rw [show (((14) + (nI (16 * t))) : Int32) = nI (14 + 16 * t) from (nI_add 14 (16 * t))]
  refine lv_istore_n (lv' := [(3, .int (nI (14 + 16 * t))), (0, .ref (ma 0)), (1, .int (nI t)), (2, .int (x))]) hx hb dX7_hasStep_7 rfl hl (by decide) rfl (fun ls hl => ?_)
  refine lv_aload_n hx hb dX7_hasStep_8 rfl (lv_at hl 1 rfl) ?_
  refine lv_iload_n hx hb dX7_hasStep_9 rfl (lv_at hl 2 rfl) ?_
  refine lv_iload_n hx hb dX7_hasStep_10 rfl (lv_at hl 3 rfl) ?_
  refine cv_i (As := [.int (nI t), .int (x)]) (rest := []) (tys := TYS cI cC cB cS) (ci := 7) ⟨hx, hb, hml, hown, hts⟩ (c_X7_place l D cI cC cB cS (ma) (fi) (wd) (g) (lf) (t) (n) (x) (by omega) (htn) (htb)) (cwV 2 hts gX7_hasStep_X7_place rfl rfl rfl (by decide +kernel) ⟨Nat.le_of_ble_eq_true rfl, Nat.le_of_ble_eq_true rfl⟩) hK hP [0, 1] rfl rfl rfl rfl rfl hl.1 (Nat.le_of_ble_eq_true rfl) dX7_hasStep_11 ⟨Nat.le_of_ble_eq_true rfl, Nat.le_of_ble_eq_true rfl⟩ (fun r_1 hr_1 => ?_)
  have hr_1 : ∃ w, TPl (g (19 + 4 * t + 1)) n x w ∧ r_1 = nI w := hr_1
  obtain ⟨k, hk, rfl⟩ := hr_1
  have hkn := hk.1
  refine lv_istore (lv' := [(4, .int (nI k)), (3, .int (nI (14 + 16 * t))), (0, .ref (ma 0)), (1, .int (nI t)), (2, .int (x))]) hx hb dX7_hasStep_14 hl (by decide) rfl (fun ls hl => ?_)
  refine lv_iload hx hb dX7_hasStep_16 (lv_at hl 0 rfl) ?_
  refine lv_aload_n hx hb dX7_hasStep_18 rfl (lv_at hl 2 rfl) ?_
  refine va_get (D := D) (ci := 7) (v := .ref (ma 1)) (C := RX7) (T := TX7) (N := 11) hx hb hts (by decide +kernel) hown hK.1 hP 0 rfl rfl 0 (by decide) (hts (.fieldLink RX7 7 "ParkingGarageModel" "s" "[I") (by decide +kernel)) (fun _ h9 => h9) rfl dX7_hasStep_19 ?_
  refine lv_iload_n hx hb dX7_hasStep_22 rfl (lv_at hl 1 rfl) ?_
  refine iald_n (f := enc g lf) hx hb hK.1 hP 1 0 rfl rfl (14 + 16 * t) (rfl) (by omega) (by omega) dX7_hasStep_23 ?_
  rw [show enc g lf (14 + 16 * t) = nI n from (enc_at (by omega) (posR_tn ht2)).trans htn]
  refine lv_icmp_ge (tgt := 48) hx hb dX7_hasStep_24 (by decide) (fun c_2 => ?_) (fun c_2 => ?_)
  · -- c_2: nI k ≥ nI n
    have hge : k = n := nI_geD (n := n) rfl hkn (by omega) c_2
    refine lv_iconst (v := 0) hx hb dX7_hasStep_48 (by decide) ?_
    exact rd_zret (v := 0) hx hb hr hlocks dX7_hasStep_49 (by decide) (Or.inr ⟨rfl, fun ⟨j, h1, h2, h3⟩ => by have e := hk.uniq h1; subst e; omega⟩)
  · -- c_2: not nI k ≥ nI n
    have hlt : k < n := nI_ltD (n := n) rfl hkn (by omega) c_2
    refine lv_aload_n hx hb dX7_hasStep_27 rfl (lv_at hl 2 rfl) ?_
    refine va_get (D := D) (ci := 7) (v := .ref (ma 1)) (C := RX7) (T := TX7) (N := 11) hx hb hts (by decide +kernel) hown hK.1 hP 0 rfl rfl 0 (by decide) (hts (.fieldLink RX7 7 "ParkingGarageModel" "s" "[I") (by decide +kernel)) (fun _ h9 => h9) rfl dX7_hasStep_28 ?_
    refine lv_iload_n hx hb dX7_hasStep_31 rfl (lv_at hl 1 rfl) ?_
    refine lv_iconst (v := 1) hx hb dX7_hasStep_32 (by decide) ?_
    refine lv_iadd hx hb dX7_hasStep_33 ?_
    rw [show (((nI (14 + 16 * t)) + (1)) : Int32) = nI (14 + 16 * t + 1) from (nI_add (14 + 16 * t) 1)]
    refine lv_iconst (v := 3) hx hb dX7_hasStep_34 (by decide) ?_
    refine lv_iload hx hb dX7_hasStep_35 (lv_at hl 0 rfl) ?_
    refine lv_imul hx hb dX7_hasStep_37 ?_
    rw [show (((3) * (nI k)) : Int32) = nI (3 * k) from (nI_mul 3 k)]
    refine lv_iadd hx hb dX7_hasStep_38 ?_
    rw [show (((nI (14 + 16 * t + 1)) + (nI (3 * k))) : Int32) = nI (14 + 16 * t + 1 + 3 * k) from (nI_add (14 + 16 * t + 1) (3 * k))]
    refine iald_n (f := enc g lf) hx hb hK.1 hP 1 0 rfl rfl (14 + 16 * t + 1 + 3 * k) (rfl) (by omega) (by omega) dX7_hasStep_39 ?_
    rw [show enc g lf (14 + 16 * t + 1 + 3 * k) = g (19 + 4 * t + 1) k from enc_at (by omega) (posR_tar (w := 0) (by omega) (by omega) (by omega))]
    refine lv_iload_n hx hb dX7_hasStep_40 rfl (lv_at hl 4 rfl) ?_
    refine lv_icmp_ne (tgt := 48) hx hb dX7_hasStep_41 (by decide) (fun c_3 => ?_) (fun c_3 => ?_)
    · -- c_3: g (19 + 4 * t + 1) k ≠ x
      refine lv_iconst (v := 0) hx hb dX7_hasStep_48 (by decide) ?_
      exact rd_zret (v := 0) hx hb hr hlocks dX7_hasStep_49 (by decide) (Or.inr ⟨rfl, fun ⟨j, h1, h2, h3⟩ => by have e := hk.uniq h1; subst e; exact c_3 h3⟩)
    · -- c_3: not g (19 + 4 * t + 1) k ≠ x
      refine lv_iconst (v := 1) hx hb dX7_hasStep_44 (by decide) ?_
      refine lv_goto (tgt := 49) hx hb dX7_hasStep_45 (by decide) ?_
      exact rd_zret (v := 1) hx hb hr hlocks dX7_hasStep_49 (by decide) (Or.inl ⟨rfl, k, hk, hlt, c_3⟩)
set_option maxHeartbeats 4000000 in
set_option maxRecDepth 100000 in
theorem c_X7_puts (l : Launch) (D : va_G) (cI cC cB cS : ClassId) (zz : Nat) (ma : Nat → Nat) (fi : Nat → Int32) (wd : Int64) (g : Nat → Nat → Int32) (lf : Int32) (t : Nat) (n : Nat) (x : Int32) (un : Int32) (pr : Int32) (ht2 : t < 2) (htn : g (19 + 4 * t) 0 = nI n) (htb : n ≤ 5) (hroom : n < 5 ∨ THas (g (19 + 4 * t + 1)) n x) : Met l yX7_puts wsX7_puts ({ frames := 2, cells := 0, slots := 0, locals := 48 } : Room) (wrPc D (TYS cI cC cB cS) [.ref (ma 0), .int (nI t), .int (x), .int (un), .int (pr)] ([mO ma fi wd, (ma 1, iE cI 382 (enc g lf))]) zz) (va_Qv (fun u : Nat → Nat → Int32 => TPut (tV g t) n (x) (un) (pr) u) (wrB D (va_A ([mO ma fi wd, (ma 1, iE cI 382 (enc g lf))]) zz) (fun u => [mO ma fi wd, (ma 1, iE cI 382 (enc (wblk g (19 + 4 * t) 4 u) lf))])) (va_A ([mO ma fi wd, (ma 1, iE cI 382 (enc g lf))]) zz)) 0 0 (va_A ([mO ma fi wd, (ma 1, iE cI 382 (enc g lf))]) zz) := by
  refine wr_intro (Qc := fun A B => va_Qv (fun u : Nat → Nat → Int32 => TPut (tV g t) n (x) (un) (pr) u) B A) (by decide) rfl (Nat.le_of_ble_eq_true rfl) ?_
  intro p e s m below meth c A hx hb hr hml hts hown hlocks hin hP hK hD hA hS ls hl
  have hP : va_P D vwCl [(ma 0, oE 7 [.ref (ma 1), .ref (ma 2), .int (fi 0), .ref (ma 3), .ref (ma 4), .int (fi 1), .int (fi 2), .int (fi 3), .long (wd), .int (fi 4), .int (fi 5)]), (ma 1, iE cI 382 (enc g lf))] s.heap := hP
  have hD : va_D A [(ma 0, oE 7 [.ref (ma 1), .ref (ma 2), .int (fi 0), .ref (ma 3), .ref (ma 4), .int (fi 1), .int (fi 2), .int (fi 3), .long (wd), .int (fi 4), .int (fi 5)]), (ma 1, iE cI 382 (enc g lf))] := hD
  have hown : s.vm.findClass RX7 = some m.cls := hown
  have hl : lv_has ls 8 [(0, .ref (ma 0)), (1, .int (nI t)), (2, .int (x)), (3, .int (un)), (4, .int (pr))] := hl
  refine lv_bipush (v := 14) hx hb dX7_puts_0 (by decide) ?_
  refine lv_bipush (v := 16) hx hb dX7_puts_2 (by decide) ?_
  refine lv_iload_n hx hb dX7_puts_4 rfl (lv_at hl 1 rfl) ?_
  refine lv_imul hx hb dX7_puts_5 ?_
  rw [show (((16) * (nI t)) : Int32) = nI (16 * t) from (nI_mul 16 t)]
  refine lv_iadd hx hb dX7_puts_6 ?_
  rw [show (((14) + (nI (16 * t))) : Int32) = nI (14 + 16 * t) from (nI_add 14 (16 * t))]
  refine lv_istore (lv' := [(5, .int (nI (14 + 16 * t))), (0, .ref (ma 0)), (1, .int (nI t)), (2, .int (x)), (3, .int (un)), (4, .int (pr))]) hx hb dX7_puts_7 hl (by decide) rfl (fun ls hl => ?_)
  refine lv_aload_n hx hb dX7_puts_9 rfl (lv_at hl 1 rfl) ?_
  refine lv_iload_n hx hb dX7_puts_10 rfl (lv_at hl 2 rfl) ?_
  refine lv_iload_n hx hb dX7_puts_11 rfl (lv_at hl 3 rfl) ?_
  refine cv_i (As := [.int (nI t), .int (x)]) (rest := []) (tys := TYS cI cC cB cS) (ci := 7) ⟨hx, hb, hml, hown, hts⟩ (c_X7_place l D cI cC cB cS (ma) (fi) (wd) (g) (lf) (t) (n) (x) (by omega) (htn) (htb)) (cwV 2 hts gX7_puts_X7_place rfl rfl rfl (by decide +kernel) ⟨Nat.le_of_ble_eq_true rfl, Nat.le_of_ble_eq_true rfl⟩) hK hP [0, 1] rfl rfl rfl rfl rfl hl.1 (Nat.le_of_ble_eq_true rfl) dX7_puts_12 ⟨Nat.le_of_ble_eq_true rfl, Nat.le_of_ble_eq_true rfl⟩ (fun r_1 hr_1 => ?_)
  have hr_1 : ∃ w, TPl (g (19 + 4 * t + 1)) n x w ∧ r_1 = nI w := hr_1
  obtain ⟨k, hk, rfl⟩ := hr_1
  have hkn := hk.1
  refine lv_istore (lv' := [(6, .int (nI k)), (5, .int (nI (14 + 16 * t))), (0, .ref (ma 0)), (1, .int (nI t)), (2, .int (x)), (3, .int (un)), (4, .int (pr))]) hx hb dX7_puts_15 hl (by decide) rfl (fun ls hl => ?_)
  refine lv_aload_n hx hb dX7_puts_17 rfl (lv_at hl 2 rfl) ?_
  refine lv_iload_n hx hb dX7_puts_18 rfl (lv_at hl 3 rfl) ?_
  refine lv_iload_n hx hb dX7_puts_19 rfl (lv_at hl 4 rfl) ?_
  refine cv_i (As := [.int (nI t), .int (x)]) (rest := []) (tys := TYS cI cC cB cS) (ci := 7) ⟨hx, hb, hml, hown, hts⟩ (c_X7_hasStep l D cI cC cB cS (ma) (fi) (wd) (g) (lf) (t) (n) (x) (by omega) (htn) (htb)) (cwV 2 hts gX7_puts_X7_hasStep rfl rfl rfl (by decide +kernel) ⟨Nat.le_of_ble_eq_true rfl, Nat.le_of_ble_eq_true rfl⟩) hK hP [0, 1] rfl rfl rfl rfl rfl hl.1 (Nat.le_of_ble_eq_true rfl) dX7_puts_20 ⟨Nat.le_of_ble_eq_true rfl, Nat.le_of_ble_eq_true rfl⟩ (fun r_2 hr_2 => ?_)
  rcases (show Yes (THas (g (19 + 4 * t + 1)) n x) r_2 from hr_2) with ⟨rfl, h_3⟩ | ⟨rfl, h_3⟩
  · -- X7_hasStep t
    have hlt : k < n ∧ g (19 + 4 * t + 1) k = x := by obtain ⟨j, h1, h2, h3⟩ := h_3; have e := hk.uniq h1; subst e; exact ⟨h2, h3⟩
    obtain ⟨hlt, hsx⟩ := hlt
    refine if_ne_t (tgt := 85) hx hb (by decide) dX7_puts_23 (by decide) ?_
    refine lv_aload_n hx hb dX7_puts_85 rfl (lv_at hl 2 rfl) ?_
    refine va_get (D := D) (ci := 7) (v := .ref (ma 1)) (C := RX7) (T := TX7) (N := 11) hx hb hts (by decide +kernel) hown hK.1 hP 0 rfl rfl 0 (by decide) (hts (.fieldLink RX7 7 "ParkingGarageModel" "s" "[I") (by decide +kernel)) (fun _ h9 => h9) rfl dX7_puts_86 ?_
    refine lv_iload hx hb dX7_puts_89 (lv_at hl 1 rfl) ?_
    refine lv_iconst (v := 1) hx hb dX7_puts_91 (by decide) ?_
    refine lv_iadd hx hb dX7_puts_92 ?_
    rw [show (((nI (14 + 16 * t)) + (1)) : Int32) = nI (14 + 16 * t + 1) from (nI_add (14 + 16 * t) 1)]
    refine lv_iconst (v := 3) hx hb dX7_puts_93 (by decide) ?_
    refine lv_iload hx hb dX7_puts_94 (lv_at hl 0 rfl) ?_
    refine lv_imul hx hb dX7_puts_96 ?_
    rw [show (((3) * (nI k)) : Int32) = nI (3 * k) from (nI_mul 3 k)]
    refine lv_iadd hx hb dX7_puts_97 ?_
    rw [show (((nI (14 + 16 * t + 1)) + (nI (3 * k))) : Int32) = nI (14 + 16 * t + 1 + 3 * k) from (nI_add (14 + 16 * t + 1) (3 * k))]
    refine lv_iload_n hx hb dX7_puts_98 rfl (lv_at hl 4 rfl) ?_
    refine iast_n (f := enc g lf) hx hb hK.1 hP hD hS 1 0 rfl rfl (14 + 16 * t + 1 + 3 * k) (rfl) (by omega) (by omega) dX7_puts_99 (fun H locs hP hD hS => ?_)
    have hP : va_P D vwCl [(ma 0, oE 7 [.ref (ma 1), .ref (ma 2), .int (fi 0), .ref (ma 3), .ref (ma 4), .int (fi 1), .int (fi 2), .int (fi 3), .long (wd), .int (fi 4), .int (fi 5)]), (ma 1, iE cI 382 (upd (enc g lf) (14 + 16 * t + 1 + 3 * k) (x)))] H := hP
    have hD : va_D A [(ma 0, oE 7 [.ref (ma 1), .ref (ma 2), .int (fi 0), .ref (ma 3), .ref (ma 4), .int (fi 1), .int (fi 2), .int (fi 3), .long (wd), .int (fi 4), .int (fi 5)]), (ma 1, iE cI 382 (upd (enc g lf) (14 + 16 * t + 1 + 3 * k) (x)))] := hD
    refine lv_aload_n hx hb dX7_puts_100 rfl (lv_at hl 2 rfl) ?_
    refine va_get (D := D) (ci := 7) (v := .ref (ma 1)) (C := RX7) (T := TX7) (N := 11) hx hb hts (by decide +kernel) hown hK.1 hP 0 rfl rfl 0 (by decide) (hts (.fieldLink RX7 7 "ParkingGarageModel" "s" "[I") (by decide +kernel)) (fun _ h9 => h9) rfl dX7_puts_101 ?_
    refine lv_iload hx hb dX7_puts_104 (lv_at hl 1 rfl) ?_
    refine lv_iconst (v := 2) hx hb dX7_puts_106 (by decide) ?_
    refine lv_iadd hx hb dX7_puts_107 ?_
    rw [show (((nI (14 + 16 * t)) + (2)) : Int32) = nI (14 + 16 * t + 2) from (nI_add (14 + 16 * t) 2)]
    refine lv_iconst (v := 3) hx hb dX7_puts_108 (by decide) ?_
    refine lv_iload hx hb dX7_puts_109 (lv_at hl 0 rfl) ?_
    refine lv_imul hx hb dX7_puts_111 ?_
    rw [show (((3) * (nI k)) : Int32) = nI (3 * k) from (nI_mul 3 k)]
    refine lv_iadd hx hb dX7_puts_112 ?_
    rw [show (((nI (14 + 16 * t + 2)) + (nI (3 * k))) : Int32) = nI (14 + 16 * t + 2 + 3 * k) from (nI_add (14 + 16 * t + 2) (3 * k))]
    refine lv_iload_n hx hb dX7_puts_113 rfl (lv_at hl 5 rfl) ?_
    refine iast_n (f := upd (enc g lf) (14 + 16 * t + 1 + 3 * k) (x)) hx hb hK.1 hP hD hS 1 0 rfl rfl (14 + 16 * t + 2 + 3 * k) (rfl) (by omega) (by omega) dX7_puts_114 (fun H locs hP hD hS => ?_)
    have hP : va_P D vwCl [(ma 0, oE 7 [.ref (ma 1), .ref (ma 2), .int (fi 0), .ref (ma 3), .ref (ma 4), .int (fi 1), .int (fi 2), .int (fi 3), .long (wd), .int (fi 4), .int (fi 5)]), (ma 1, iE cI 382 (upd (upd (enc g lf) (14 + 16 * t + 1 + 3 * k) (x)) (14 + 16 * t + 2 + 3 * k) (un)))] H := hP
    have hD : va_D A [(ma 0, oE 7 [.ref (ma 1), .ref (ma 2), .int (fi 0), .ref (ma 3), .ref (ma 4), .int (fi 1), .int (fi 2), .int (fi 3), .long (wd), .int (fi 4), .int (fi 5)]), (ma 1, iE cI 382 (upd (upd (enc g lf) (14 + 16 * t + 1 + 3 * k) (x)) (14 + 16 * t + 2 + 3 * k) (un)))] := hD
    refine lv_aload_n hx hb dX7_puts_115 rfl (lv_at hl 2 rfl) ?_
    refine va_get (D := D) (ci := 7) (v := .ref (ma 1)) (C := RX7) (T := TX7) (N := 11) hx hb hts (by decide +kernel) hown hK.1 hP 0 rfl rfl 0 (by decide) (hts (.fieldLink RX7 7 "ParkingGarageModel" "s" "[I") (by decide +kernel)) (fun _ h9 => h9) rfl dX7_puts_116 ?_
    refine lv_iload hx hb dX7_puts_119 (lv_at hl 1 rfl) ?_
    refine lv_iconst (v := 3) hx hb dX7_puts_121 (by decide) ?_
    refine lv_iadd hx hb dX7_puts_122 ?_
    rw [show (((nI (14 + 16 * t)) + (3)) : Int32) = nI (14 + 16 * t + 3) from (nI_add (14 + 16 * t) 3)]
    refine lv_iconst (v := 3) hx hb dX7_puts_123 (by decide) ?_
    refine lv_iload hx hb dX7_puts_124 (lv_at hl 0 rfl) ?_
    refine lv_imul hx hb dX7_puts_126 ?_
    rw [show (((3) * (nI k)) : Int32) = nI (3 * k) from (nI_mul 3 k)]
    refine lv_iadd hx hb dX7_puts_127 ?_
    rw [show (((nI (14 + 16 * t + 3)) + (nI (3 * k))) : Int32) = nI (14 + 16 * t + 3 + 3 * k) from (nI_add (14 + 16 * t + 3) (3 * k))]
    refine lv_iload hx hb dX7_puts_128 (lv_at hl 6 rfl) ?_
    refine iast_n (f := upd (upd (enc g lf) (14 + 16 * t + 1 + 3 * k) (x)) (14 + 16 * t + 2 + 3 * k) (un)) hx hb hK.1 hP hD hS 1 0 rfl rfl (14 + 16 * t + 3 + 3 * k) (rfl) (by omega) (by omega) dX7_puts_130 (fun H locs hP hD hS => ?_)
    have hP : va_P D vwCl [(ma 0, oE 7 [.ref (ma 1), .ref (ma 2), .int (fi 0), .ref (ma 3), .ref (ma 4), .int (fi 1), .int (fi 2), .int (fi 3), .long (wd), .int (fi 4), .int (fi 5)]), (ma 1, iE cI 382 (upd (upd (upd (enc g lf) (14 + 16 * t + 1 + 3 * k) (x)) (14 + 16 * t + 2 + 3 * k) (un)) (14 + 16 * t + 3 + 3 * k) (pr)))] H := hP
    have hD : va_D A [(ma 0, oE 7 [.ref (ma 1), .ref (ma 2), .int (fi 0), .ref (ma 3), .ref (ma 4), .int (fi 1), .int (fi 2), .int (fi 3), .long (wd), .int (fi 4), .int (fi 5)]), (ma 1, iE cI 382 (upd (upd (upd (enc g lf) (14 + 16 * t + 1 + 3 * k) (x)) (14 + 16 * t + 2 + 3 * k) (un)) (14 + 16 * t + 3 + 3 * k) (pr)))] := hD
    rw [putr_enc ht2 (by omega)] at hP hD
    have hP : va_P D vwCl [(ma 0, oE 7 [.ref (ma 1), .ref (ma 2), .int (fi 0), .ref (ma 3), .ref (ma 4), .int (fi 1), .int (fi 2), .int (fi 3), .long (wd), .int (fi 4), .int (fi 5)]), (ma 1, iE cI 382 (enc (wblk g (19 + 4 * t) 4 (T1 (tV g t) k x un pr)) lf))] H := hP
    have hD : va_D A [(ma 0, oE 7 [.ref (ma 1), .ref (ma 2), .int (fi 0), .ref (ma 3), .ref (ma 4), .int (fi 1), .int (fi 2), .int (fi 3), .long (wd), .int (fi 4), .int (fi 5)]), (ma 1, iE cI 382 (enc (wblk g (19 + 4 * t) 4 (T1 (tV g t) k x un pr)) lf))] := hD
    exact wr_vret (T1 (tV g t) k x un pr) hx hb hr hlocks hS hP hD [0, 1] rfl rfl (by decide) dX7_puts_131 (⟨k, hk, Or.inl ⟨hlt, hsx, rfl⟩⟩)
  · -- X7_hasStep f
    have h5 : n < 5 := hroom.resolve_right h_3
    refine if_ne_f (tgt := 85) hx hb rfl dX7_puts_23 (by decide) ?_
    refine lv_iload hx hb dX7_puts_26 (lv_at hl 1 rfl) ?_
    refine lv_iconst (v := 3) hx hb dX7_puts_28 (by decide) ?_
    refine lv_aload_n hx hb dX7_puts_29 rfl (lv_at hl 2 rfl) ?_
    refine va_get (D := D) (ci := 7) (v := .ref (ma 1)) (C := RX7) (T := TX7) (N := 11) hx hb hts (by decide +kernel) hown hK.1 hP 0 rfl rfl 0 (by decide) (hts (.fieldLink RX7 7 "ParkingGarageModel" "s" "[I") (by decide +kernel)) (fun _ h9 => h9) rfl dX7_puts_30 ?_
    refine lv_iload hx hb dX7_puts_33 (lv_at hl 1 rfl) ?_
    refine iald_n (f := enc g lf) hx hb hK.1 hP 1 0 rfl rfl (14 + 16 * t) (rfl) (by omega) (by omega) dX7_puts_35 ?_
    rw [show enc g lf (14 + 16 * t) = nI n from by rw [enc_at (by omega) (posR_tn ht2)]; exact htn]
    refine lv_imul hx hb dX7_puts_36 ?_
    rw [show (((3) * (nI n)) : Int32) = nI (3 * n) from (nI_mul 3 n)]
    refine lv_iadd hx hb dX7_puts_37 ?_
    rw [show (((nI (14 + 16 * t)) + (nI (3 * n))) : Int32) = nI (14 + 16 * t + 3 * n) from (nI_add (14 + 16 * t) (3 * n))]
    refine lv_istore (lv' := [(7, .int (nI (14 + 16 * t + 3 * n))), (6, .int (nI k)), (5, .int (nI (14 + 16 * t))), (0, .ref (ma 0)), (1, .int (nI t)), (2, .int (x)), (3, .int (un)), (4, .int (pr))]) hx hb dX7_puts_38 hl (by decide) rfl (fun ls hl => ?_)
    have hloop : ∀ (d i : Nat), i ≤ (14 + 16 * t + 3 * n) → i + 0 * (14 + 16 * t + 3 * n) < d → ((14 + 16 * t + 3 * k) ≤ i) → ∀ (H : Heap) (locs : List Loc), va_P D vwCl [(ma 0, oE 7 [.ref (ma 1), .ref (ma 2), .int (fi 0), .ref (ma 3), .ref (ma 4), .int (fi 1), .int (fi 2), .int (fi 3), .long (wd), .int (fi 4), .int (fi 5)]), (ma 1, iE cI 382 (sh3 (enc g lf) i (14 + 16 * t + 3 * n)))] H → va_D A [(ma 0, oE 7 [.ref (ma 1), .ref (ma 2), .int (fi 0), .ref (ma 3), .ref (ma 4), .int (fi 1), .int (fi 2), .int (fi 3), .long (wd), .int (fi 4), .int (fi 5)]), (ma 1, iE cI 382 (sh3 (enc g lf) i (14 + 16 * t + 3 * n)))] → va_S A s.heap H locs → ∀ ls : Array Slot, lv_has ls 8 [(7, .int (nI i)), (6, .int (nI k)), (5, .int (nI (14 + 16 * t))), (0, .ref (ma 0)), (1, .int (nI t)), (2, .int (x)), (3, .int (un)), (4, .int (pr))] → W p l e ({ frames := 2, cells := 0, slots := 0, locals := 48 } : Room) s m (([.ref (ma 0), .int (nI t), .int (x), .int (un), .int (pr)] : List Value).toArray) below meth c H locs 0 0 (MQ below (va_Qv (fun u : Nat → Nat → Int32 => TPut (tV g t) n (x) (un) (pr) u) (wrB D A (fun u => [mO ma fi wd, (ma 1, iE cI 382 (enc (wblk g (19 + 4 * t) 4 u) lf))])) A) (([.ref (ma 0), .int (nI t), .int (x), .int (un), .int (pr)] : List Value).toArray) s 0 0 A) (F0 m 40 ls []) := by
      intro d
      induction d with
      | zero => intro i _ h2; exact absurd h2 (Nat.not_lt_zero _)
      | succ d ih =>
        intro i hi hd hlo H locs hP hD hS ls hl
        refine lv_iload hx hb dX7_puts_40 (lv_at hl 0 rfl) ?_
        refine lv_iload hx hb dX7_puts_42 (lv_at hl 2 rfl) ?_
        refine lv_iconst (v := 3) hx hb dX7_puts_44 (by decide) ?_
        refine lv_iload hx hb dX7_puts_45 (lv_at hl 1 rfl) ?_
        refine lv_imul hx hb dX7_puts_47 ?_
        rw [show (((3) * (nI k)) : Int32) = nI (3 * k) from (nI_mul 3 k)]
        refine lv_iadd hx hb dX7_puts_48 ?_
        rw [show (((nI (14 + 16 * t)) + (nI (3 * k))) : Int32) = nI (14 + 16 * t + 3 * k) from (nI_add (14 + 16 * t) (3 * k))]
        refine lv_icmp_le (tgt := 74) hx hb dX7_puts_49 (by decide) (fun c_4 => ?_) (fun c_4 => ?_)
        · -- c_4: nI i ≤ nI (14 + 16 * t + 3 * k)
          have hge2 : i = (14 + 16 * t + 3 * k) := by have := (nI_leI (by omega) (by omega)).mp c_4; omega
          rw [hge2] at hP hD
          have hP : va_P D vwCl [(ma 0, oE 7 [.ref (ma 1), .ref (ma 2), .int (fi 0), .ref (ma 3), .ref (ma 4), .int (fi 1), .int (fi 2), .int (fi 3), .long (wd), .int (fi 4), .int (fi 5)]), (ma 1, iE cI 382 (sh3 (enc g lf) (14 + 16 * t + 3 * k) (14 + 16 * t + 3 * n)))] H := hP
          have hD : va_D A [(ma 0, oE 7 [.ref (ma 1), .ref (ma 2), .int (fi 0), .ref (ma 3), .ref (ma 4), .int (fi 1), .int (fi 2), .int (fi 3), .long (wd), .int (fi 4), .int (fi 5)]), (ma 1, iE cI 382 (sh3 (enc g lf) (14 + 16 * t + 3 * k) (14 + 16 * t + 3 * n)))] := hD
          refine lv_aload_n hx hb dX7_puts_74 rfl (lv_at hl 3 rfl) ?_
          refine va_get (D := D) (ci := 7) (v := .ref (ma 1)) (C := RX7) (T := TX7) (N := 11) hx hb hts (by decide +kernel) hown hK.1 hP 0 rfl rfl 0 (by decide) (hts (.fieldLink RX7 7 "ParkingGarageModel" "s" "[I") (by decide +kernel)) (fun _ h9 => h9) rfl dX7_puts_75 ?_
          refine lv_iload hx hb dX7_puts_78 (lv_at hl 2 rfl) ?_
          refine lv_dup2_11 hx hb dX7_puts_80 rfl rfl ?_
          refine iald_n (f := sh3 (enc g lf) (14 + 16 * t + 3 * k) (14 + 16 * t + 3 * n)) hx hb hK.1 hP 1 0 rfl rfl (14 + 16 * t) (rfl) (by omega) (by omega) dX7_puts_81 ?_
          refine lv_iconst (v := 1) hx hb dX7_puts_82 (by decide) ?_
          refine lv_iadd hx hb dX7_puts_83 ?_
          refine iast_n (f := sh3 (enc g lf) (14 + 16 * t + 3 * k) (14 + 16 * t + 3 * n)) hx hb hK.1 hP hD hS 1 0 rfl rfl (14 + 16 * t) (rfl) (by omega) (by omega) dX7_puts_84 (fun H locs hP hD hS => ?_)
          have hP : va_P D vwCl [(ma 0, oE 7 [.ref (ma 1), .ref (ma 2), .int (fi 0), .ref (ma 3), .ref (ma 4), .int (fi 1), .int (fi 2), .int (fi 3), .long (wd), .int (fi 4), .int (fi 5)]), (ma 1, iE cI 382 (upd (sh3 (enc g lf) (14 + 16 * t + 3 * k) (14 + 16 * t + 3 * n)) (14 + 16 * t) (((sh3 (enc g lf) (14 + 16 * t + 3 * k) (14 + 16 * t + 3 * n)) (14 + 16 * t)) + (1))))] H := hP
          have hD : va_D A [(ma 0, oE 7 [.ref (ma 1), .ref (ma 2), .int (fi 0), .ref (ma 3), .ref (ma 4), .int (fi 1), .int (fi 2), .int (fi 3), .long (wd), .int (fi 4), .int (fi 5)]), (ma 1, iE cI 382 (upd (sh3 (enc g lf) (14 + 16 * t + 3 * k) (14 + 16 * t + 3 * n)) (14 + 16 * t) (((sh3 (enc g lf) (14 + 16 * t + 3 * k) (14 + 16 * t + 3 * n)) (14 + 16 * t)) + (1))))] := hD
          refine lv_aload_n hx hb dX7_puts_85 rfl (lv_at hl 3 rfl) ?_
          refine va_get (D := D) (ci := 7) (v := .ref (ma 1)) (C := RX7) (T := TX7) (N := 11) hx hb hts (by decide +kernel) hown hK.1 hP 0 rfl rfl 0 (by decide) (hts (.fieldLink RX7 7 "ParkingGarageModel" "s" "[I") (by decide +kernel)) (fun _ h9 => h9) rfl dX7_puts_86 ?_
          refine lv_iload hx hb dX7_puts_89 (lv_at hl 2 rfl) ?_
          refine lv_iconst (v := 1) hx hb dX7_puts_91 (by decide) ?_
          refine lv_iadd hx hb dX7_puts_92 ?_
          rw [show (((nI (14 + 16 * t)) + (1)) : Int32) = nI (14 + 16 * t + 1) from (nI_add (14 + 16 * t) 1)]
          refine lv_iconst (v := 3) hx hb dX7_puts_93 (by decide) ?_
          refine lv_iload hx hb dX7_puts_94 (lv_at hl 1 rfl) ?_
          refine lv_imul hx hb dX7_puts_96 ?_
          rw [show (((3) * (nI k)) : Int32) = nI (3 * k) from (nI_mul 3 k)]
          refine lv_iadd hx hb dX7_puts_97 ?_
          rw [show (((nI (14 + 16 * t + 1)) + (nI (3 * k))) : Int32) = nI (14 + 16 * t + 1 + 3 * k) from (nI_add (14 + 16 * t + 1) (3 * k))]
          refine lv_iload_n hx hb dX7_puts_98 rfl (lv_at hl 5 rfl) ?_
          refine iast_n (f := upd (sh3 (enc g lf) (14 + 16 * t + 3 * k) (14 + 16 * t + 3 * n)) (14 + 16 * t) (((sh3 (enc g lf) (14 + 16 * t + 3 * k) (14 + 16 * t + 3 * n)) (14 + 16 * t)) + (1))) hx hb hK.1 hP hD hS 1 0 rfl rfl (14 + 16 * t + 1 + 3 * k) (rfl) (by omega) (by omega) dX7_puts_99 (fun H locs hP hD hS => ?_)
          have hP : va_P D vwCl [(ma 0, oE 7 [.ref (ma 1), .ref (ma 2), .int (fi 0), .ref (ma 3), .ref (ma 4), .int (fi 1), .int (fi 2), .int (fi 3), .long (wd), .int (fi 4), .int (fi 5)]), (ma 1, iE cI 382 (upd (upd (sh3 (enc g lf) (14 + 16 * t + 3 * k) (14 + 16 * t + 3 * n)) (14 + 16 * t) (((sh3 (enc g lf) (14 + 16 * t + 3 * k) (14 + 16 * t + 3 * n)) (14 + 16 * t)) + (1))) (14 + 16 * t + 1 + 3 * k) (x)))] H := hP
          have hD : va_D A [(ma 0, oE 7 [.ref (ma 1), .ref (ma 2), .int (fi 0), .ref (ma 3), .ref (ma 4), .int (fi 1), .int (fi 2), .int (fi 3), .long (wd), .int (fi 4), .int (fi 5)]), (ma 1, iE cI 382 (upd (upd (sh3 (enc g lf) (14 + 16 * t + 3 * k) (14 + 16 * t + 3 * n)) (14 + 16 * t) (((sh3 (enc g lf) (14 + 16 * t + 3 * k) (14 + 16 * t + 3 * n)) (14 + 16 * t)) + (1))) (14 + 16 * t + 1 + 3 * k) (x)))] := hD
          refine lv_aload_n hx hb dX7_puts_100 rfl (lv_at hl 3 rfl) ?_
          refine va_get (D := D) (ci := 7) (v := .ref (ma 1)) (C := RX7) (T := TX7) (N := 11) hx hb hts (by decide +kernel) hown hK.1 hP 0 rfl rfl 0 (by decide) (hts (.fieldLink RX7 7 "ParkingGarageModel" "s" "[I") (by decide +kernel)) (fun _ h9 => h9) rfl dX7_puts_101 ?_
          refine lv_iload hx hb dX7_puts_104 (lv_at hl 2 rfl) ?_
          refine lv_iconst (v := 2) hx hb dX7_puts_106 (by decide) ?_
          refine lv_iadd hx hb dX7_puts_107 ?_
          rw [show (((nI (14 + 16 * t)) + (2)) : Int32) = nI (14 + 16 * t + 2) from (nI_add (14 + 16 * t) 2)]
          refine lv_iconst (v := 3) hx hb dX7_puts_108 (by decide) ?_
          refine lv_iload hx hb dX7_puts_109 (lv_at hl 1 rfl) ?_
          refine lv_imul hx hb dX7_puts_111 ?_
          rw [show (((3) * (nI k)) : Int32) = nI (3 * k) from (nI_mul 3 k)]
          refine lv_iadd hx hb dX7_puts_112 ?_
          rw [show (((nI (14 + 16 * t + 2)) + (nI (3 * k))) : Int32) = nI (14 + 16 * t + 2 + 3 * k) from (nI_add (14 + 16 * t + 2) (3 * k))]
          refine lv_iload_n hx hb dX7_puts_113 rfl (lv_at hl 6 rfl) ?_
          refine iast_n (f := upd (upd (sh3 (enc g lf) (14 + 16 * t + 3 * k) (14 + 16 * t + 3 * n)) (14 + 16 * t) (((sh3 (enc g lf) (14 + 16 * t + 3 * k) (14 + 16 * t + 3 * n)) (14 + 16 * t)) + (1))) (14 + 16 * t + 1 + 3 * k) (x)) hx hb hK.1 hP hD hS 1 0 rfl rfl (14 + 16 * t + 2 + 3 * k) (rfl) (by omega) (by omega) dX7_puts_114 (fun H locs hP hD hS => ?_)
          have hP : va_P D vwCl [(ma 0, oE 7 [.ref (ma 1), .ref (ma 2), .int (fi 0), .ref (ma 3), .ref (ma 4), .int (fi 1), .int (fi 2), .int (fi 3), .long (wd), .int (fi 4), .int (fi 5)]), (ma 1, iE cI 382 (upd (upd (upd (sh3 (enc g lf) (14 + 16 * t + 3 * k) (14 + 16 * t + 3 * n)) (14 + 16 * t) (((sh3 (enc g lf) (14 + 16 * t + 3 * k) (14 + 16 * t + 3 * n)) (14 + 16 * t)) + (1))) (14 + 16 * t + 1 + 3 * k) (x)) (14 + 16 * t + 2 + 3 * k) (un)))] H := hP
          have hD : va_D A [(ma 0, oE 7 [.ref (ma 1), .ref (ma 2), .int (fi 0), .ref (ma 3), .ref (ma 4), .int (fi 1), .int (fi 2), .int (fi 3), .long (wd), .int (fi 4), .int (fi 5)]), (ma 1, iE cI 382 (upd (upd (upd (sh3 (enc g lf) (14 + 16 * t + 3 * k) (14 + 16 * t + 3 * n)) (14 + 16 * t) (((sh3 (enc g lf) (14 + 16 * t + 3 * k) (14 + 16 * t + 3 * n)) (14 + 16 * t)) + (1))) (14 + 16 * t + 1 + 3 * k) (x)) (14 + 16 * t + 2 + 3 * k) (un)))] := hD
          refine lv_aload_n hx hb dX7_puts_115 rfl (lv_at hl 3 rfl) ?_
          refine va_get (D := D) (ci := 7) (v := .ref (ma 1)) (C := RX7) (T := TX7) (N := 11) hx hb hts (by decide +kernel) hown hK.1 hP 0 rfl rfl 0 (by decide) (hts (.fieldLink RX7 7 "ParkingGarageModel" "s" "[I") (by decide +kernel)) (fun _ h9 => h9) rfl dX7_puts_116 ?_
          refine lv_iload hx hb dX7_puts_119 (lv_at hl 2 rfl) ?_
          refine lv_iconst (v := 3) hx hb dX7_puts_121 (by decide) ?_
          refine lv_iadd hx hb dX7_puts_122 ?_
          rw [show (((nI (14 + 16 * t)) + (3)) : Int32) = nI (14 + 16 * t + 3) from (nI_add (14 + 16 * t) 3)]
          refine lv_iconst (v := 3) hx hb dX7_puts_123 (by decide) ?_
          refine lv_iload hx hb dX7_puts_124 (lv_at hl 1 rfl) ?_
          refine lv_imul hx hb dX7_puts_126 ?_
          rw [show (((3) * (nI k)) : Int32) = nI (3 * k) from (nI_mul 3 k)]
          refine lv_iadd hx hb dX7_puts_127 ?_
          rw [show (((nI (14 + 16 * t + 3)) + (nI (3 * k))) : Int32) = nI (14 + 16 * t + 3 + 3 * k) from (nI_add (14 + 16 * t + 3) (3 * k))]
          refine lv_iload hx hb dX7_puts_128 (lv_at hl 7 rfl) ?_
          refine iast_n (f := upd (upd (upd (sh3 (enc g lf) (14 + 16 * t + 3 * k) (14 + 16 * t + 3 * n)) (14 + 16 * t) (((sh3 (enc g lf) (14 + 16 * t + 3 * k) (14 + 16 * t + 3 * n)) (14 + 16 * t)) + (1))) (14 + 16 * t + 1 + 3 * k) (x)) (14 + 16 * t + 2 + 3 * k) (un)) hx hb hK.1 hP hD hS 1 0 rfl rfl (14 + 16 * t + 3 + 3 * k) (rfl) (by omega) (by omega) dX7_puts_130 (fun H locs hP hD hS => ?_)
          have hP : va_P D vwCl [(ma 0, oE 7 [.ref (ma 1), .ref (ma 2), .int (fi 0), .ref (ma 3), .ref (ma 4), .int (fi 1), .int (fi 2), .int (fi 3), .long (wd), .int (fi 4), .int (fi 5)]), (ma 1, iE cI 382 (upd (upd (upd (upd (sh3 (enc g lf) (14 + 16 * t + 3 * k) (14 + 16 * t + 3 * n)) (14 + 16 * t) (((sh3 (enc g lf) (14 + 16 * t + 3 * k) (14 + 16 * t + 3 * n)) (14 + 16 * t)) + (1))) (14 + 16 * t + 1 + 3 * k) (x)) (14 + 16 * t + 2 + 3 * k) (un)) (14 + 16 * t + 3 + 3 * k) (pr)))] H := hP
          have hD : va_D A [(ma 0, oE 7 [.ref (ma 1), .ref (ma 2), .int (fi 0), .ref (ma 3), .ref (ma 4), .int (fi 1), .int (fi 2), .int (fi 3), .long (wd), .int (fi 4), .int (fi 5)]), (ma 1, iE cI 382 (upd (upd (upd (upd (sh3 (enc g lf) (14 + 16 * t + 3 * k) (14 + 16 * t + 3 * n)) (14 + 16 * t) (((sh3 (enc g lf) (14 + 16 * t + 3 * k) (14 + 16 * t + 3 * n)) (14 + 16 * t)) + (1))) (14 + 16 * t + 1 + 3 * k) (x)) (14 + 16 * t + 2 + 3 * k) (un)) (14 + 16 * t + 3 + 3 * k) (pr)))] := hD
          rw [puts_enc ht2 hkn h5 (by rw [show sh3 (enc g lf) (14 + 16 * t + 3 * k) (14 + 16 * t + 3 * n) (14 + 16 * t) = enc g lf (14 + 16 * t) from if_neg (by omega), enc_at (by omega) (posR_tn ht2)])] at hP hD
          have hP : va_P D vwCl [(ma 0, oE 7 [.ref (ma 1), .ref (ma 2), .int (fi 0), .ref (ma 3), .ref (ma 4), .int (fi 1), .int (fi 2), .int (fi 3), .long (wd), .int (fi 4), .int (fi 5)]), (ma 1, iE cI 382 (enc (wblk g (19 + 4 * t) 4 (T2 (tV g t) k n x un pr)) lf))] H := hP
          have hD : va_D A [(ma 0, oE 7 [.ref (ma 1), .ref (ma 2), .int (fi 0), .ref (ma 3), .ref (ma 4), .int (fi 1), .int (fi 2), .int (fi 3), .long (wd), .int (fi 4), .int (fi 5)]), (ma 1, iE cI 382 (enc (wblk g (19 + 4 * t) 4 (T2 (tV g t) k n x un pr)) lf))] := hD
          exact wr_vret (T2 (tV g t) k n x un pr) hx hb hr hlocks hS hP hD [0, 1] rfl rfl (by decide) dX7_puts_131 (⟨k, hk, Or.inr ⟨fun q => h_3 ⟨k, hk, q.1, q.2⟩, h5, rfl⟩⟩)
        · -- c_4: not nI i ≤ nI (14 + 16 * t + 3 * k)
          have hlt2 : (14 + 16 * t + 3 * k) < i := by
            rcases Nat.lt_or_ge (14 + 16 * t + 3 * k) i with q | q
            · exact q
            · exact absurd (nI_le q (by omega)) c_4
          refine lv_aload_n hx hb dX7_puts_52 rfl (lv_at hl 3 rfl) ?_
          refine va_get (D := D) (ci := 7) (v := .ref (ma 1)) (C := RX7) (T := TX7) (N := 11) hx hb hts (by decide +kernel) hown hK.1 hP 0 rfl rfl 0 (by decide) (hts (.fieldLink RX7 7 "ParkingGarageModel" "s" "[I") (by decide +kernel)) (fun _ h9 => h9) rfl dX7_puts_53 ?_
          refine lv_iload hx hb dX7_puts_56 (lv_at hl 0 rfl) ?_
          refine lv_iconst (v := 3) hx hb dX7_puts_58 (by decide) ?_
          refine lv_iadd hx hb dX7_puts_59 ?_
          rw [show (((nI i) + (3)) : Int32) = nI (i + 3) from (nI_add i 3)]
          refine lv_aload_n hx hb dX7_puts_60 rfl (lv_at hl 3 rfl) ?_
          refine va_get (D := D) (ci := 7) (v := .ref (ma 1)) (C := RX7) (T := TX7) (N := 11) hx hb hts (by decide +kernel) hown hK.1 hP 0 rfl rfl 0 (by decide) (hts (.fieldLink RX7 7 "ParkingGarageModel" "s" "[I") (by decide +kernel)) (fun _ h9 => h9) rfl dX7_puts_61 ?_
          refine lv_iload hx hb dX7_puts_64 (lv_at hl 0 rfl) ?_
          refine iald_n (f := sh3 (enc g lf) i (14 + 16 * t + 3 * n)) hx hb hK.1 hP 1 0 rfl rfl (i) (rfl) (by omega) (by omega) dX7_puts_66 ?_
          refine iast_n (f := sh3 (enc g lf) i (14 + 16 * t + 3 * n)) hx hb hK.1 hP hD hS 1 0 rfl rfl (i + 3) (rfl) (by omega) (by omega) dX7_puts_67 (fun H locs hP hD hS => ?_)
          have hP : va_P D vwCl [(ma 0, oE 7 [.ref (ma 1), .ref (ma 2), .int (fi 0), .ref (ma 3), .ref (ma 4), .int (fi 1), .int (fi 2), .int (fi 3), .long (wd), .int (fi 4), .int (fi 5)]), (ma 1, iE cI 382 (upd (sh3 (enc g lf) i (14 + 16 * t + 3 * n)) (i + 3) ((sh3 (enc g lf) i (14 + 16 * t + 3 * n)) (i))))] H := hP
          have hD : va_D A [(ma 0, oE 7 [.ref (ma 1), .ref (ma 2), .int (fi 0), .ref (ma 3), .ref (ma 4), .int (fi 1), .int (fi 2), .int (fi 3), .long (wd), .int (fi 4), .int (fi 5)]), (ma 1, iE cI 382 (upd (sh3 (enc g lf) i (14 + 16 * t + 3 * n)) (i + 3) ((sh3 (enc g lf) i (14 + 16 * t + 3 * n)) (i))))] := hD
          refine lv_iinc (v := nI (i - 1)) (lv' := [(7, .int (nI (i - 1))), (6, .int (nI k)), (5, .int (nI (14 + 16 * t))), (0, .ref (ma 0)), (1, .int (nI t)), (2, .int (x)), (3, .int (un)), (4, .int (pr))]) hx hb dX7_puts_68 hl (k := 0) rfl (pk_dec (by omega)) (by decide) rfl (fun ls hl => ?_)
          refine lv_goto (tgt := 40) hx hb dX7_puts_71 (by decide) ?_
          rw [sh3_at, sh3_s (by omega) hi] at hP hD
          exact ih (i - 1) (by omega) (by omega) (by omega) _ _ hP hD hS ls (lv_sub hl [0, 1, 2, 3, 4, 5, 6, 7] rfl)
    rw [show enc g lf = sh3 (enc g lf) (14 + 16 * t + 3 * n) (14 + 16 * t + 3 * n) from sh3_0] at hP hD
    exact hloop ((14 + 16 * t + 3 * n) + 1) ((14 + 16 * t + 3 * n)) (by omega) (by omega) (by omega) _ _ hP hD hS ls (lv_sub hl [0, 1, 2, 3, 4, 5, 6, 7] rfl)
set_option maxHeartbeats 4000000 in
set_option maxRecDepth 100000 in
theorem c_X7_drops (l : Launch) (D : va_G) (cI cC cB cS : ClassId) (zz : Nat) (ma : Nat → Nat) (fi : Nat → Int32) (wd : Int64) (g : Nat → Nat → Int32) (lf : Int32) (t : Nat) (n : Nat) (x : Int32) (ht2 : t < 2) (htn : g (19 + 4 * t) 0 = nI n) (htb : n ≤ 5) (hhas : THas (g (19 + 4 * t + 1)) n x) : Met l yX7_drops wsX7_drops ({ frames := 1, cells := 0, slots := 0, locals := 24 } : Room) (wrPc D (TYS cI cC cB cS) [.ref (ma 0), .int (nI t), .int (x)] ([mO ma fi wd, (ma 1, iE cI 382 (enc g lf))]) zz) (va_Qv (fun u : Nat → Nat → Int32 => TRem (tV g t) n (x) u) (wrB D (va_A ([mO ma fi wd, (ma 1, iE cI 382 (enc g lf))]) zz) (fun u => [mO ma fi wd, (ma 1, iE cI 382 (enc (wblk g (19 + 4 * t) 4 u) lf))])) (va_A ([mO ma fi wd, (ma 1, iE cI 382 (enc g lf))]) zz)) 0 0 (va_A ([mO ma fi wd, (ma 1, iE cI 382 (enc g lf))]) zz) := by
  refine wr_intro (Qc := fun A B => va_Qv (fun u : Nat → Nat → Int32 => TRem (tV g t) n (x) u) B A) (by decide) rfl (Nat.le_of_ble_eq_true rfl) ?_
  intro p e s m below meth c A hx hb hr hml hts hown hlocks hin hP hK hD hA hS ls hl
  have hP : va_P D vwCl [(ma 0, oE 7 [.ref (ma 1), .ref (ma 2), .int (fi 0), .ref (ma 3), .ref (ma 4), .int (fi 1), .int (fi 2), .int (fi 3), .long (wd), .int (fi 4), .int (fi 5)]), (ma 1, iE cI 382 (enc g lf))] s.heap := hP
  have hD : va_D A [(ma 0, oE 7 [.ref (ma 1), .ref (ma 2), .int (fi 0), .ref (ma 3), .ref (ma 4), .int (fi 1), .int (fi 2), .int (fi 3), .long (wd), .int (fi 4), .int (fi 5)]), (ma 1, iE cI 382 (enc g lf))] := hD
  have hown : s.vm.findClass RX7 = some m.cls := hown
  have hl : lv_has ls 6 [(0, .ref (ma 0)), (1, .int (nI t)), (2, .int (x))] := hl
  refine lv_bipush (v := 14) hx hb dX7_drops_0 (by decide) ?_
  refine lv_bipush (v := 16) hx hb dX7_drops_2 (by decide) ?_
  refine lv_iload_n hx hb dX7_drops_4 rfl (lv_at hl 1 rfl) ?_
  refine lv_imul hx hb dX7_drops_5 ?_
  rw [show (((16) * (nI t)) : Int32) = nI (16 * t) from (nI_mul 16 t)]
  refine lv_iadd hx hb dX7_drops_6 ?_
  rw [show (((14) + (nI (16 * t))) : Int32) = nI (14 + 16 * t) from (nI_add 14 (16 * t))]
  refine lv_istore_n (lv' := [(3, .int (nI (14 + 16 * t))), (0, .ref (ma 0)), (1, .int (nI t)), (2, .int (x))]) hx hb dX7_drops_7 rfl hl (by decide) rfl (fun ls hl => ?_)
  refine lv_aload_n hx hb dX7_drops_8 rfl (lv_at hl 1 rfl) ?_
  refine lv_iload_n hx hb dX7_drops_9 rfl (lv_at hl 2 rfl) ?_
  refine lv_iload_n hx hb dX7_drops_10 rfl (lv_at hl 3 rfl) ?_
  refine cv_i (As := [.int (nI t), .int (x)]) (rest := []) (tys := TYS cI cC cB cS) (ci := 7) ⟨hx, hb, hml, hown, hts⟩ (c_X7_place l D cI cC cB cS (ma) (fi) (wd) (g) (lf) (t) (n) (x) (by omega) (htn) (htb)) (cwV 2 hts gX7_drops_X7_place rfl rfl rfl (by decide +kernel) ⟨Nat.le_of_ble_eq_true rfl, Nat.le_of_ble_eq_true rfl⟩) hK hP [0, 1] rfl rfl rfl rfl rfl hl.1 (Nat.le_of_ble_eq_true rfl) dX7_drops_11 ⟨Nat.le_of_ble_eq_true rfl, Nat.le_of_ble_eq_true rfl⟩ (fun r_1 hr_1 => ?_)
  have hr_1 : ∃ w, TPl (g (19 + 4 * t + 1)) n x w ∧ r_1 = nI w := hr_1
  obtain ⟨k, hk, rfl⟩ := hr_1
  have hkn := hk.1
  have hlt : k < n ∧ g (19 + 4 * t + 1) k = x := by obtain ⟨j, h1, h2, h3⟩ := hhas; have e := hk.uniq h1; subst e; exact ⟨h2, h3⟩
  obtain ⟨hlt, hsx⟩ := hlt
  refine lv_istore (lv' := [(4, .int (nI k)), (3, .int (nI (14 + 16 * t))), (0, .ref (ma 0)), (1, .int (nI t)), (2, .int (x))]) hx hb dX7_drops_14 hl (by decide) rfl (fun ls hl => ?_)
  refine lv_aload_n hx hb dX7_drops_16 rfl (lv_at hl 2 rfl) ?_
  refine va_get (D := D) (ci := 7) (v := .ref (ma 1)) (C := RX7) (T := TX7) (N := 11) hx hb hts (by decide +kernel) hown hK.1 hP 0 rfl rfl 0 (by decide) (hts (.fieldLink RX7 7 "ParkingGarageModel" "s" "[I") (by decide +kernel)) (fun _ h9 => h9) rfl dX7_drops_17 ?_
  refine lv_iload_n hx hb dX7_drops_20 rfl (lv_at hl 1 rfl) ?_
  refine lv_dup2_11 hx hb dX7_drops_21 rfl rfl ?_
  refine iald_n (f := enc g lf) hx hb hK.1 hP 1 0 rfl rfl (14 + 16 * t) (rfl) (by omega) (by omega) dX7_drops_22 ?_
  rw [show enc g lf (14 + 16 * t) = nI n from (enc_at (by omega) (posR_tn ht2)).trans htn]
  refine lv_iconst (v := 1) hx hb dX7_drops_23 (by decide) ?_
  refine lv_isub hx hb dX7_drops_24 ?_
  rw [show (((nI n) - (1)) : Int32) = nI (n - 1) from (pk_subn (k := 1) (by omega))]
  refine iast_n (f := enc g lf) hx hb hK.1 hP hD hS 1 0 rfl rfl (14 + 16 * t) (rfl) (by omega) (by omega) dX7_drops_25 (fun H locs hP hD hS => ?_)
  have hP : va_P D vwCl [(ma 0, oE 7 [.ref (ma 1), .ref (ma 2), .int (fi 0), .ref (ma 3), .ref (ma 4), .int (fi 1), .int (fi 2), .int (fi 3), .long (wd), .int (fi 4), .int (fi 5)]), (ma 1, iE cI 382 (upd (enc g lf) (14 + 16 * t) (nI (n - 1))))] H := hP
  have hD : va_D A [(ma 0, oE 7 [.ref (ma 1), .ref (ma 2), .int (fi 0), .ref (ma 3), .ref (ma 4), .int (fi 1), .int (fi 2), .int (fi 3), .long (wd), .int (fi 4), .int (fi 5)]), (ma 1, iE cI 382 (upd (enc g lf) (14 + 16 * t) (nI (n - 1))))] := hD
  refine lv_iload_n hx hb dX7_drops_26 rfl (lv_at hl 1 rfl) ?_
  refine lv_iconst (v := 1) hx hb dX7_drops_27 (by decide) ?_
  refine lv_iadd hx hb dX7_drops_28 ?_
  rw [show (((nI (14 + 16 * t)) + (1)) : Int32) = nI (14 + 16 * t + 1) from (nI_add (14 + 16 * t) 1)]
  refine lv_iconst (v := 3) hx hb dX7_drops_29 (by decide) ?_
  refine lv_iload hx hb dX7_drops_30 (lv_at hl 0 rfl) ?_
  refine lv_imul hx hb dX7_drops_32 ?_
  rw [show (((3) * (nI k)) : Int32) = nI (3 * k) from (nI_mul 3 k)]
  refine lv_iadd hx hb dX7_drops_33 ?_
  rw [show (((nI (14 + 16 * t + 1)) + (nI (3 * k))) : Int32) = nI (14 + 16 * t + 1 + 3 * k) from (nI_add (14 + 16 * t + 1) (3 * k))]
  refine lv_istore (lv' := [(5, .int (nI (14 + 16 * t + 1 + 3 * k))), (4, .int (nI k)), (3, .int (nI (14 + 16 * t))), (0, .ref (ma 0)), (1, .int (nI t)), (2, .int (x))]) hx hb dX7_drops_34 hl (by decide) rfl (fun ls hl => ?_)
  have hloop : ∀ (d i : Nat), i ≤ (14 + 16 * t + 3 * (n - 1) + 1) → (14 + 16 * t + 3 * (n - 1) + 1) - i < d → ((14 + 16 * t + 1 + 3 * k) ≤ i) → ∀ (H : Heap) (locs : List Loc), va_P D vwCl [(ma 0, oE 7 [.ref (ma 1), .ref (ma 2), .int (fi 0), .ref (ma 3), .ref (ma 4), .int (fi 1), .int (fi 2), .int (fi 3), .long (wd), .int (fi 4), .int (fi 5)]), (ma 1, iE cI 382 (dn3 (upd (enc g lf) (14 + 16 * t) (nI (n - 1))) (14 + 16 * t + 1 + 3 * k) i))] H → va_D A [(ma 0, oE 7 [.ref (ma 1), .ref (ma 2), .int (fi 0), .ref (ma 3), .ref (ma 4), .int (fi 1), .int (fi 2), .int (fi 3), .long (wd), .int (fi 4), .int (fi 5)]), (ma 1, iE cI 382 (dn3 (upd (enc g lf) (14 + 16 * t) (nI (n - 1))) (14 + 16 * t + 1 + 3 * k) i))] → va_S A s.heap H locs → ∀ ls : Array Slot, lv_has ls 6 [(5, .int (nI i)), (4, .int (nI k)), (3, .int (nI (14 + 16 * t))), (0, .ref (ma 0)), (1, .int (nI t)), (2, .int (x))] → W p l e ({ frames := 1, cells := 0, slots := 0, locals := 24 } : Room) s m (([.ref (ma 0), .int (nI t), .int (x)] : List Value).toArray) below meth c H locs 0 0 (MQ below (va_Qv (fun u : Nat → Nat → Int32 => TRem (tV g t) n (x) u) (wrB D A (fun u => [mO ma fi wd, (ma 1, iE cI 382 (enc (wblk g (19 + 4 * t) 4 u) lf))])) A) (([.ref (ma 0), .int (nI t), .int (x)] : List Value).toArray) s 0 0 A) (F0 m 36 ls []) := by
    intro d
    induction d with
    | zero => intro i _ h2; exact absurd h2 (Nat.not_lt_zero _)
    | succ d ih =>
      intro i hi hd hlo H locs hP hD hS ls hl
      refine lv_iload hx hb dX7_drops_36 (lv_at hl 0 rfl) ?_
      refine lv_iload_n hx hb dX7_drops_38 rfl (lv_at hl 2 rfl) ?_
      refine lv_iconst (v := 3) hx hb dX7_drops_39 (by decide) ?_
      refine lv_aload_n hx hb dX7_drops_40 rfl (lv_at hl 3 rfl) ?_
      refine va_get (D := D) (ci := 7) (v := .ref (ma 1)) (C := RX7) (T := TX7) (N := 11) hx hb hts (by decide +kernel) hown hK.1 hP 0 rfl rfl 0 (by decide) (hts (.fieldLink RX7 7 "ParkingGarageModel" "s" "[I") (by decide +kernel)) (fun _ h9 => h9) rfl dX7_drops_41 ?_
      refine lv_iload_n hx hb dX7_drops_44 rfl (lv_at hl 2 rfl) ?_
      refine iald_n (f := dn3 (upd (enc g lf) (14 + 16 * t) (nI (n - 1))) (14 + 16 * t + 1 + 3 * k) i) hx hb hK.1 hP 1 0 rfl rfl (14 + 16 * t) (rfl) (by omega) (by omega) dX7_drops_45 ?_
      rw [show dn3 (upd (enc g lf) (14 + 16 * t) (nI (n - 1))) (14 + 16 * t + 1 + 3 * k) i (14 + 16 * t) = nI (n - 1) from by rw [show dn3 (upd (enc g lf) (14 + 16 * t) (nI (n - 1))) (14 + 16 * t + 1 + 3 * k) i (14 + 16 * t) = _ from if_neg (by omega), updE]]
      refine lv_imul hx hb dX7_drops_46 ?_
      rw [show (((3) * (nI (n - 1))) : Int32) = nI (3 * (n - 1)) from (nI_mul 3 (n - 1))]
      refine lv_iadd hx hb dX7_drops_47 ?_
      rw [show (((nI (14 + 16 * t)) + (nI (3 * (n - 1)))) : Int32) = nI (14 + 16 * t + 3 * (n - 1)) from (nI_add (14 + 16 * t) (3 * (n - 1)))]
      refine lv_icmp_gt (tgt := 73) hx hb dX7_drops_48 (by decide) (fun c_2 => ?_) (fun c_2 => ?_)
      · -- c_2: nI i > nI (14 + 16 * t + 3 * (n - 1))
        have hge2 : i = (14 + 16 * t + 3 * (n - 1) + 1) := by have := (nI_ltI (by omega) (by omega)).mp c_2; omega
        rw [hge2] at hP hD
        have hP : va_P D vwCl [(ma 0, oE 7 [.ref (ma 1), .ref (ma 2), .int (fi 0), .ref (ma 3), .ref (ma 4), .int (fi 1), .int (fi 2), .int (fi 3), .long (wd), .int (fi 4), .int (fi 5)]), (ma 1, iE cI 382 (dn3 (upd (enc g lf) (14 + 16 * t) (nI (n - 1))) (14 + 16 * t + 1 + 3 * k) (14 + 16 * t + 3 * (n - 1) + 1)))] H := hP
        have hD : va_D A [(ma 0, oE 7 [.ref (ma 1), .ref (ma 2), .int (fi 0), .ref (ma 3), .ref (ma 4), .int (fi 1), .int (fi 2), .int (fi 3), .long (wd), .int (fi 4), .int (fi 5)]), (ma 1, iE cI 382 (dn3 (upd (enc g lf) (14 + 16 * t) (nI (n - 1))) (14 + 16 * t + 1 + 3 * k) (14 + 16 * t + 3 * (n - 1) + 1)))] := hD
        rw [drops_enc ht2 hlt htb (by rw [htn, show (1 : Int32) = nI 1 from rfl, pk_sub (by omega)])] at hP hD
        have hP : va_P D vwCl [(ma 0, oE 7 [.ref (ma 1), .ref (ma 2), .int (fi 0), .ref (ma 3), .ref (ma 4), .int (fi 1), .int (fi 2), .int (fi 3), .long (wd), .int (fi 4), .int (fi 5)]), (ma 1, iE cI 382 (enc (wblk g (19 + 4 * t) 4 (T3 (tV g t) k n)) lf))] H := hP
        have hD : va_D A [(ma 0, oE 7 [.ref (ma 1), .ref (ma 2), .int (fi 0), .ref (ma 3), .ref (ma 4), .int (fi 1), .int (fi 2), .int (fi 3), .long (wd), .int (fi 4), .int (fi 5)]), (ma 1, iE cI 382 (enc (wblk g (19 + 4 * t) 4 (T3 (tV g t) k n)) lf))] := hD
        exact wr_vret (T3 (tV g t) k n) hx hb hr hlocks hS hP hD [0, 1] rfl rfl (by decide) dX7_drops_73 (⟨k, hk, hlt, hsx, rfl⟩)
      · -- c_2: not nI i > nI (14 + 16 * t + 3 * (n - 1))
        have hle2 : i ≤ 14 + 16 * t + 3 * (n - 1) := (nI_leI (by omega) (by omega)).mp (Int32.not_lt.mp c_2)
        refine lv_aload_n hx hb dX7_drops_51 rfl (lv_at hl 3 rfl) ?_
        refine va_get (D := D) (ci := 7) (v := .ref (ma 1)) (C := RX7) (T := TX7) (N := 11) hx hb hts (by decide +kernel) hown hK.1 hP 0 rfl rfl 0 (by decide) (hts (.fieldLink RX7 7 "ParkingGarageModel" "s" "[I") (by decide +kernel)) (fun _ h9 => h9) rfl dX7_drops_52 ?_
        refine lv_iload hx hb dX7_drops_55 (lv_at hl 0 rfl) ?_
        refine lv_aload_n hx hb dX7_drops_57 rfl (lv_at hl 3 rfl) ?_
        refine va_get (D := D) (ci := 7) (v := .ref (ma 1)) (C := RX7) (T := TX7) (N := 11) hx hb hts (by decide +kernel) hown hK.1 hP 0 rfl rfl 0 (by decide) (hts (.fieldLink RX7 7 "ParkingGarageModel" "s" "[I") (by decide +kernel)) (fun _ h9 => h9) rfl dX7_drops_58 ?_
        refine lv_iload hx hb dX7_drops_61 (lv_at hl 0 rfl) ?_
        refine lv_iconst (v := 3) hx hb dX7_drops_63 (by decide) ?_
        refine lv_iadd hx hb dX7_drops_64 ?_
        rw [show (((nI i) + (3)) : Int32) = nI (i + 3) from (nI_add i 3)]
        refine iald_n (f := dn3 (upd (enc g lf) (14 + 16 * t) (nI (n - 1))) (14 + 16 * t + 1 + 3 * k) i) hx hb hK.1 hP 1 0 rfl rfl (i + 3) (rfl) (by omega) (by omega) dX7_drops_65 ?_
        refine iast_n (f := dn3 (upd (enc g lf) (14 + 16 * t) (nI (n - 1))) (14 + 16 * t + 1 + 3 * k) i) hx hb hK.1 hP hD hS 1 0 rfl rfl (i) (rfl) (by omega) (by omega) dX7_drops_66 (fun H locs hP hD hS => ?_)
        have hP : va_P D vwCl [(ma 0, oE 7 [.ref (ma 1), .ref (ma 2), .int (fi 0), .ref (ma 3), .ref (ma 4), .int (fi 1), .int (fi 2), .int (fi 3), .long (wd), .int (fi 4), .int (fi 5)]), (ma 1, iE cI 382 (upd (dn3 (upd (enc g lf) (14 + 16 * t) (nI (n - 1))) (14 + 16 * t + 1 + 3 * k) i) (i) ((dn3 (upd (enc g lf) (14 + 16 * t) (nI (n - 1))) (14 + 16 * t + 1 + 3 * k) i) (i + 3))))] H := hP
        have hD : va_D A [(ma 0, oE 7 [.ref (ma 1), .ref (ma 2), .int (fi 0), .ref (ma 3), .ref (ma 4), .int (fi 1), .int (fi 2), .int (fi 3), .long (wd), .int (fi 4), .int (fi 5)]), (ma 1, iE cI 382 (upd (dn3 (upd (enc g lf) (14 + 16 * t) (nI (n - 1))) (14 + 16 * t + 1 + 3 * k) i) (i) ((dn3 (upd (enc g lf) (14 + 16 * t) (nI (n - 1))) (14 + 16 * t + 1 + 3 * k) i) (i + 3))))] := hD
        refine lv_iinc (v := nI (i + 1)) (lv' := [(5, .int (nI (i + 1))), (4, .int (nI k)), (3, .int (nI (14 + 16 * t))), (0, .ref (ma 0)), (1, .int (nI t)), (2, .int (x))]) hx hb dX7_drops_67 hl (k := 0) rfl (nI_1 _) (by decide) rfl (fun ls hl => ?_)
        refine lv_goto (tgt := 36) hx hb dX7_drops_70 (by decide) ?_
        rw [dn3_at (show i ≤ i + 3 by omega), dn3_s hlo] at hP hD
        exact ih (i + 1) (by omega) (by omega) (by omega) _ _ hP hD hS ls (lv_sub hl [0, 1, 2, 3, 4, 5] rfl)
  rw [show (upd (enc g lf) (14 + 16 * t) (nI (n - 1))) = dn3 (upd (enc g lf) (14 + 16 * t) (nI (n - 1))) (14 + 16 * t + 1 + 3 * k) (14 + 16 * t + 1 + 3 * k) from dn3_0] at hP hD
  exact hloop ((14 + 16 * t + 3 * (n - 1) + 1) + 1) ((14 + 16 * t + 1 + 3 * k)) (by omega) (by omega) (Nat.le_refl _) _ _ hP hD hS ls (lv_sub hl [0, 1, 2, 3, 4, 5] rfl)
set_option maxHeartbeats 4000000 in
set_option maxRecDepth 100000 in
theorem c_X7_sum (l : Launch) (D : va_G) (cI cC cB cS : ClassId) (ma : Nat → Nat) (fi : Nat → Int32) (wd : Int64) (g : Nat → Nat → Int32) (lf : Int32) (t : Nat) (n : Nat) (mi : Int32) (ht2 : t < 2) (htn : g (19 + 4 * t) 0 = nI n) (htb : n ≤ 5) (hun : ∀ j, j < n → 0 < g (19 + 4 * t + 2) j) : Met l yX7_sum wsX7_sum ({ frames := 1, cells := 0, slots := 0, locals := 21 } : Room) (rdPc D (TYS cI cC cB cS) [.ref (ma 0), .int (nI t), .int (mi)] ([mO ma fi wd, (ma 1, iE cI 382 (enc g lf))])) (vp_Si (fun r => r = tS (g (19 + 4 * t + 1)) (g (19 + 4 * t + 2)) (g (19 + 4 * t + 3)) n (mi) n)) 0 0 (fun _ => False) := by
  refine rd_intro (by decide) rfl (Nat.le_of_ble_eq_true rfl) ?_
  intro p e s m below meth c hx hb hr hml hts hown hlocks hP hK ls hl
  have hP : va_P D vwCl [(ma 0, oE 7 [.ref (ma 1), .ref (ma 2), .int (fi 0), .ref (ma 3), .ref (ma 4), .int (fi 1), .int (fi 2), .int (fi 3), .long (wd), .int (fi 4), .int (fi 5)]), (ma 1, iE cI 382 (enc g lf))] s.heap := hP
  have hown : s.vm.findClass RX7 = some m.cls := hown
  have hl : lv_has ls 9 [(0, .ref (ma 0)), (1, .int (nI t)), (2, .int (mi))] := hl
  refine lv_bipush (v := 14) hx hb dX7_sum_0 (by decide) ?_
  refine lv_bipush (v := 16) hx hb dX7_sum_2 (by decide) ?_
  refine lv_iload_n hx hb dX7_sum_4 rfl (lv_at hl 1 rfl) ?_
  refine lv_imul hx hb dX7_sum_5 ?_
  rw [show (((16) * (nI t)) : Int32) = nI (16 * t) from (nI_mul 16 t)]
  refine lv_iadd hx hb dX7_sum_6 ?_
  rw [show (((14) + (nI (16 * t))) : Int32) = nI (14 + 16 * t) from (nI_add 14 (16 * t))]
  refine lv_istore_n (lv' := [(3, .int (nI (14 + 16 * t))), (0, .ref (ma 0)), (1, .int (nI t)), (2, .int (mi))]) hx hb dX7_sum_7 rfl hl (by decide) rfl (fun ls hl => ?_)
  refine lv_iconst (v := 0) hx hb dX7_sum_8 (by decide) ?_
  refine lv_istore (lv' := [(4, .int (0)), (3, .int (nI (14 + 16 * t))), (0, .ref (ma 0)), (1, .int (nI t)), (2, .int (mi))]) hx hb dX7_sum_9 hl (by decide) rfl (fun ls hl => ?_)
  refine lv_iconst (v := 0) hx hb dX7_sum_11 (by decide) ?_
  refine lv_istore (lv' := [(5, .int (0)), (4, .int (0)), (3, .int (nI (14 + 16 * t))), (0, .ref (ma 0)), (1, .int (nI t)), (2, .int (mi))]) hx hb dX7_sum_12 hl (by decide) rfl (fun ls hl => ?_)
  have hloop : ∀ (d i : Nat) (z : Int32), i ≤ n → n - i < d → (z = tS (g (19 + 4 * t + 1)) (g (19 + 4 * t + 2)) (g (19 + 4 * t + 3)) n mi i) → ∀ ls : Array Slot, lv_has ls 9 [(4, .int (z)), (5, .int (nI i)), (3, .int (nI (14 + 16 * t))), (0, .ref (ma 0)), (1, .int (nI t)), (2, .int (mi))] → W p l e ({ frames := 1, cells := 0, slots := 0, locals := 21 } : Room) s m (([.ref (ma 0), .int (nI t), .int (mi)] : List Value).toArray) below meth c s.heap [] 0 0 (MQ below (vp_Si (fun r => r = tS (g (19 + 4 * t + 1)) (g (19 + 4 * t + 2)) (g (19 + 4 * t + 3)) n (mi) n)) (([.ref (ma 0), .int (nI t), .int (mi)] : List Value).toArray) s 0 0 (fun _ => False)) (F0 m 14 ls []) := by
    intro d
    induction d with
    | zero => intro i _ _ h2; exact absurd h2 (Nat.not_lt_zero _)
    | succ d ih =>
      intro i z hi hd ha ls hl
      refine lv_iload hx hb dX7_sum_14 (lv_at hl 1 rfl) ?_
      refine lv_aload_n hx hb dX7_sum_16 rfl (lv_at hl 3 rfl) ?_
      refine va_get (D := D) (ci := 7) (v := .ref (ma 1)) (C := RX7) (T := TX7) (N := 11) hx hb hts (by decide +kernel) hown hK.1 hP 0 rfl rfl 0 (by decide) (hts (.fieldLink RX7 7 "ParkingGarageModel" "s" "[I") (by decide +kernel)) (fun _ h9 => h9) rfl dX7_sum_17 ?_
      refine lv_iload_n hx hb dX7_sum_20 rfl (lv_at hl 2 rfl) ?_
      refine iald_n (f := enc g lf) hx hb hK.1 hP 1 0 rfl rfl (14 + 16 * t) (rfl) (by omega) (by omega) dX7_sum_21 ?_
      rw [show enc g lf (14 + 16 * t) = nI n from (enc_at (by omega) (posR_tn ht2)).trans htn]
      refine lv_icmp_ge (tgt := 139) hx hb dX7_sum_22 (by decide) (fun c_1 => ?_) (fun c_1 => ?_)
      · -- c_1: nI i ≥ nI n
        have hge : i = n := nI_geD (n := n) rfl hi (by omega) c_1
        refine lv_iload hx hb dX7_sum_139 (lv_at hl 0 rfl) ?_
        exact rd_iret (v := z) hx hb hr hlocks dX7_sum_141 (by rw [hge] at ha; exact ha)
      · -- c_1: not nI i ≥ nI n
        have hlt : i < n := nI_ltD (n := n) rfl hi (by omega) c_1
        refine lv_aload_n hx hb dX7_sum_25 rfl (lv_at hl 3 rfl) ?_
        refine va_get (D := D) (ci := 7) (v := .ref (ma 1)) (C := RX7) (T := TX7) (N := 11) hx hb hts (by decide +kernel) hown hK.1 hP 0 rfl rfl 0 (by decide) (hts (.fieldLink RX7 7 "ParkingGarageModel" "s" "[I") (by decide +kernel)) (fun _ h9 => h9) rfl dX7_sum_26 ?_
        refine lv_iload_n hx hb dX7_sum_29 rfl (lv_at hl 2 rfl) ?_
        refine lv_iconst (v := 1) hx hb dX7_sum_30 (by decide) ?_
        refine lv_iadd hx hb dX7_sum_31 ?_
        rw [show (((nI (14 + 16 * t)) + (1)) : Int32) = nI (14 + 16 * t + 1) from (nI_add (14 + 16 * t) 1)]
        refine lv_iconst (v := 3) hx hb dX7_sum_32 (by decide) ?_
        refine lv_iload hx hb dX7_sum_33 (lv_at hl 1 rfl) ?_
        refine lv_imul hx hb dX7_sum_35 ?_
        rw [show (((3) * (nI i)) : Int32) = nI (3 * i) from (nI_mul 3 i)]
        refine lv_iadd hx hb dX7_sum_36 ?_
        rw [show (((nI (14 + 16 * t + 1)) + (nI (3 * i))) : Int32) = nI (14 + 16 * t + 1 + 3 * i) from (nI_add (14 + 16 * t + 1) (3 * i))]
        refine iald_n (f := enc g lf) hx hb hK.1 hP 1 0 rfl rfl (14 + 16 * t + 1 + 3 * i) (rfl) (by omega) (by omega) dX7_sum_37 ?_
        rw [show enc g lf (14 + 16 * t + 1 + 3 * i) = g (19 + 4 * t + 1) i from enc_at (by omega) (posR_tar (w := 0) (by omega) (by omega) (by omega))]
        refine lv_istore (lv' := [(6, .int (g (19 + 4 * t + 1) i)), (4, .int (z)), (5, .int (nI i)), (3, .int (nI (14 + 16 * t))), (0, .ref (ma 0)), (1, .int (nI t)), (2, .int (mi))]) hx hb dX7_sum_38 hl (by decide) rfl (fun ls hl => ?_)
        refine lv_iload hx hb dX7_sum_40 (lv_at hl 2 rfl) ?_
        refine lv_iconst (v := 1) hx hb dX7_sum_42 (by decide) ?_
        refine lv_iadd hx hb dX7_sum_43 ?_
        rw [show (((nI i) + (1)) : Int32) = nI (i + 1) from (nI_add i 1)]
        refine lv_aload_n hx hb dX7_sum_44 rfl (lv_at hl 4 rfl) ?_
        refine va_get (D := D) (ci := 7) (v := .ref (ma 1)) (C := RX7) (T := TX7) (N := 11) hx hb hts (by decide +kernel) hown hK.1 hP 0 rfl rfl 0 (by decide) (hts (.fieldLink RX7 7 "ParkingGarageModel" "s" "[I") (by decide +kernel)) (fun _ h9 => h9) rfl dX7_sum_45 ?_
        refine lv_iload_n hx hb dX7_sum_48 rfl (lv_at hl 3 rfl) ?_
        refine iald_n (f := enc g lf) hx hb hK.1 hP 1 0 rfl rfl (14 + 16 * t) (rfl) (by omega) (by omega) dX7_sum_49 ?_
        rw [show enc g lf (14 + 16 * t) = nI n from (enc_at (by omega) (posR_tn ht2)).trans htn]
        refine lv_icmp_ge (tgt := 73) hx hb dX7_sum_50 (by decide) (fun c_2 => ?_) (fun c_2 => ?_)
        · -- c_2: nI (i + 1) ≥ nI n
          have hl2 : ¬ i + 1 < n := fun q => absurd (nI_lt q (by omega)) (Int32.not_lt.mpr c_2)
          refine lv_iload_n hx hb dX7_sum_73 rfl (lv_at hl 6 rfl) ?_
          refine lv_istore (lv' := [(7, .int (mi)), (6, .int (g (19 + 4 * t + 1) i)), (4, .int (z)), (5, .int (nI i)), (3, .int (nI (14 + 16 * t))), (0, .ref (ma 0)), (1, .int (nI t)), (2, .int (mi))]) hx hb dX7_sum_74 hl (by decide) rfl (fun ls hl => ?_)
          refine lv_aload_n hx hb dX7_sum_76 rfl (lv_at hl 5 rfl) ?_
          refine va_get (D := D) (ci := 7) (v := .ref (ma 1)) (C := RX7) (T := TX7) (N := 11) hx hb hts (by decide +kernel) hown hK.1 hP 0 rfl rfl 0 (by decide) (hts (.fieldLink RX7 7 "ParkingGarageModel" "s" "[I") (by decide +kernel)) (fun _ h9 => h9) rfl dX7_sum_77 ?_
          refine lv_iload_n hx hb dX7_sum_80 rfl (lv_at hl 4 rfl) ?_
          refine lv_iconst (v := 2) hx hb dX7_sum_81 (by decide) ?_
          refine lv_iadd hx hb dX7_sum_82 ?_
          rw [show (((nI (14 + 16 * t)) + (2)) : Int32) = nI (14 + 16 * t + 2) from (nI_add (14 + 16 * t) 2)]
          refine lv_iconst (v := 3) hx hb dX7_sum_83 (by decide) ?_
          refine lv_iload hx hb dX7_sum_84 (lv_at hl 3 rfl) ?_
          refine lv_imul hx hb dX7_sum_86 ?_
          rw [show (((3) * (nI i)) : Int32) = nI (3 * i) from (nI_mul 3 i)]
          refine lv_iadd hx hb dX7_sum_87 ?_
          rw [show (((nI (14 + 16 * t + 2)) + (nI (3 * i))) : Int32) = nI (14 + 16 * t + 2 + 3 * i) from (nI_add (14 + 16 * t + 2) (3 * i))]
          refine iald_n (f := enc g lf) hx hb hK.1 hP 1 0 rfl rfl (14 + 16 * t + 2 + 3 * i) (rfl) (by omega) (by omega) dX7_sum_88 ?_
          rw [show enc g lf (14 + 16 * t + 2 + 3 * i) = g (19 + 4 * t + 2) i from enc_at (by omega) (posR_tar (w := 1) (by omega) (by omega) (by omega))]
          refine lv_istore (lv' := [(8, .int (g (19 + 4 * t + 2) i)), (7, .int (mi)), (6, .int (g (19 + 4 * t + 1) i)), (4, .int (z)), (5, .int (nI i)), (3, .int (nI (14 + 16 * t))), (0, .ref (ma 0)), (1, .int (nI t)), (2, .int (mi))]) hx hb dX7_sum_89 hl (by decide) rfl (fun ls hl => ?_)
          refine lv_iload hx hb dX7_sum_91 (lv_at hl 3 rfl) ?_
          refine lv_iload hx hb dX7_sum_93 (lv_at hl 2 rfl) ?_
          refine lv_iload_n hx hb dX7_sum_95 rfl (lv_at hl 8 rfl) ?_
          refine lv_icmp_ge (tgt := 129) hx hb dX7_sum_96 (by decide) (fun c_3 => ?_) (fun c_3 => ?_)
          · -- c_3: g (19 + 4 * t + 1) i ≥ mi
            refine lv_iconst (v := 0) hx hb dX7_sum_129 (by decide) ?_
            refine lv_iadd hx hb dX7_sum_130 ?_
            refine lv_istore (lv' := [(4, .int ((z) + (0))), (8, .int (g (19 + 4 * t + 2) i)), (7, .int (mi)), (6, .int (g (19 + 4 * t + 1) i)), (5, .int (nI i)), (3, .int (nI (14 + 16 * t))), (0, .ref (ma 0)), (1, .int (nI t)), (2, .int (mi))]) hx hb dX7_sum_131 hl (by decide) rfl (fun ls hl => ?_)
            refine lv_iinc (v := nI (i + 1)) (lv' := [(5, .int (nI (i + 1))), (4, .int ((z) + (0))), (8, .int (g (19 + 4 * t + 2) i)), (7, .int (mi)), (6, .int (g (19 + 4 * t + 1) i)), (3, .int (nI (14 + 16 * t))), (0, .ref (ma 0)), (1, .int (nI t)), (2, .int (mi))]) hx hb dX7_sum_133 hl (k := 4) rfl (nI_1 _) (by decide) rfl (fun ls hl => ?_)
            refine lv_goto (tgt := 14) hx hb dX7_sum_136 (by decide) ?_
            exact ih (i + 1) ((z) + (0)) (by omega) (by omega) (tS_step0 (Int32.not_lt.mpr c_3) ha) ls (lv_sub hl [1, 0, 5, 6, 7, 8] rfl)
          · -- c_3: not g (19 + 4 * t + 1) i ≥ mi
            refine lv_aload_n hx hb dX7_sum_99 rfl (lv_at hl 6 rfl) ?_
            refine va_get (D := D) (ci := 7) (v := .ref (ma 1)) (C := RX7) (T := TX7) (N := 11) hx hb hts (by decide +kernel) hown hK.1 hP 0 rfl rfl 0 (by decide) (hts (.fieldLink RX7 7 "ParkingGarageModel" "s" "[I") (by decide +kernel)) (fun _ h9 => h9) rfl dX7_sum_100 ?_
            refine lv_iload_n hx hb dX7_sum_103 rfl (lv_at hl 5 rfl) ?_
            refine lv_iconst (v := 3) hx hb dX7_sum_104 (by decide) ?_
            refine lv_iadd hx hb dX7_sum_105 ?_
            rw [show (((nI (14 + 16 * t)) + (3)) : Int32) = nI (14 + 16 * t + 3) from (nI_add (14 + 16 * t) 3)]
            refine lv_iconst (v := 3) hx hb dX7_sum_106 (by decide) ?_
            refine lv_iload hx hb dX7_sum_107 (lv_at hl 4 rfl) ?_
            refine lv_imul hx hb dX7_sum_109 ?_
            rw [show (((3) * (nI i)) : Int32) = nI (3 * i) from (nI_mul 3 i)]
            refine lv_iadd hx hb dX7_sum_110 ?_
            rw [show (((nI (14 + 16 * t + 3)) + (nI (3 * i))) : Int32) = nI (14 + 16 * t + 3 + 3 * i) from (nI_add (14 + 16 * t + 3) (3 * i))]
            refine iald_n (f := enc g lf) hx hb hK.1 hP 1 0 rfl rfl (14 + 16 * t + 3 + 3 * i) (rfl) (by omega) (by omega) dX7_sum_111 ?_
            rw [show enc g lf (14 + 16 * t + 3 + 3 * i) = g (19 + 4 * t + 3) i from enc_at (by omega) (posR_tar (w := 2) (by omega) (by omega) (by omega))]
            refine lv_iload hx hb dX7_sum_112 (lv_at hl 1 rfl) ?_
            refine lv_iload hx hb dX7_sum_114 (lv_at hl 2 rfl) ?_
            refine lv_isub hx hb dX7_sum_116 ?_
            refine lv_iload hx hb dX7_sum_117 (lv_at hl 0 rfl) ?_
            refine lv_iadd hx hb dX7_sum_119 ?_
            refine lv_iconst (v := 1) hx hb dX7_sum_120 (by decide) ?_
            refine lv_isub hx hb dX7_sum_121 ?_
            refine lv_iload hx hb dX7_sum_122 (lv_at hl 0 rfl) ?_
            refine lv_idiv hx hb dX7_sum_124 (fun e => absurd (hun i hlt) (by rw [e]; exact Int32.lt_irrefl)) ?_
            refine lv_imul hx hb dX7_sum_125 ?_
            refine lv_goto (tgt := 130) hx hb dX7_sum_126 (by decide) ?_
            refine lv_iadd hx hb dX7_sum_130 ?_
            refine lv_istore (lv' := [(4, .int ((z) + ((g (19 + 4 * t + 3) i) * (((((mi) - (g (19 + 4 * t + 1) i)) + (g (19 + 4 * t + 2) i)) - (1)) / (g (19 + 4 * t + 2) i))))), (8, .int (g (19 + 4 * t + 2) i)), (7, .int (mi)), (6, .int (g (19 + 4 * t + 1) i)), (5, .int (nI i)), (3, .int (nI (14 + 16 * t))), (0, .ref (ma 0)), (1, .int (nI t)), (2, .int (mi))]) hx hb dX7_sum_131 hl (by decide) rfl (fun ls hl => ?_)
            refine lv_iinc (v := nI (i + 1)) (lv' := [(5, .int (nI (i + 1))), (4, .int ((z) + ((g (19 + 4 * t + 3) i) * (((((mi) - (g (19 + 4 * t + 1) i)) + (g (19 + 4 * t + 2) i)) - (1)) / (g (19 + 4 * t + 2) i))))), (8, .int (g (19 + 4 * t + 2) i)), (7, .int (mi)), (6, .int (g (19 + 4 * t + 1) i)), (3, .int (nI (14 + 16 * t))), (0, .ref (ma 0)), (1, .int (nI t)), (2, .int (mi))]) hx hb dX7_sum_133 hl (k := 4) rfl (nI_1 _) (by decide) rfl (fun ls hl => ?_)
            refine lv_goto (tgt := 14) hx hb dX7_sum_136 (by decide) ?_
            exact ih (i + 1) ((z) + ((g (19 + 4 * t + 3) i) * (((((mi) - (g (19 + 4 * t + 1) i)) + (g (19 + 4 * t + 2) i)) - (1)) / (g (19 + 4 * t + 2) i)))) (by omega) (by omega) (tS_step2 hl2 (Int32.not_le.mp c_3) (hun i hlt) ha) ls (lv_sub hl [1, 0, 5, 6, 7, 8] rfl)
        · -- c_2: not nI (i + 1) ≥ nI n
          have hl2 : i + 1 < n := (nI_ltI (by omega) (by omega)).mp (Int32.not_le.mp c_2)
          refine lv_iload_n hx hb dX7_sum_53 rfl (lv_at hl 6 rfl) ?_
          refine lv_aload_n hx hb dX7_sum_54 rfl (lv_at hl 4 rfl) ?_
          refine va_get (D := D) (ci := 7) (v := .ref (ma 1)) (C := RX7) (T := TX7) (N := 11) hx hb hts (by decide +kernel) hown hK.1 hP 0 rfl rfl 0 (by decide) (hts (.fieldLink RX7 7 "ParkingGarageModel" "s" "[I") (by decide +kernel)) (fun _ h9 => h9) rfl dX7_sum_55 ?_
          refine lv_iload_n hx hb dX7_sum_58 rfl (lv_at hl 3 rfl) ?_
          refine lv_iconst (v := 4) hx hb dX7_sum_59 (by decide) ?_
          refine lv_iadd hx hb dX7_sum_60 ?_
          rw [show (((nI (14 + 16 * t)) + (4)) : Int32) = nI (14 + 16 * t + 4) from (nI_add (14 + 16 * t) 4)]
          refine lv_iconst (v := 3) hx hb dX7_sum_61 (by decide) ?_
          refine lv_iload hx hb dX7_sum_62 (lv_at hl 2 rfl) ?_
          refine lv_imul hx hb dX7_sum_64 ?_
          rw [show (((3) * (nI i)) : Int32) = nI (3 * i) from (nI_mul 3 i)]
          refine lv_iadd hx hb dX7_sum_65 ?_
          rw [show (((nI (14 + 16 * t + 4)) + (nI (3 * i))) : Int32) = nI (14 + 16 * t + 4 + 3 * i) from (nI_add (14 + 16 * t + 4) (3 * i))]
          refine iald_n (f := enc g lf) hx hb hK.1 hP 1 0 rfl rfl (14 + 16 * t + 4 + 3 * i) (rfl) (by omega) (by omega) dX7_sum_66 ?_
          rw [show enc g lf (14 + 16 * t + 4 + 3 * i) = g (19 + 4 * t + 1) (i + 1) from enc_at (by omega) (posR_next (by omega) (by omega))]
          refine cs_i (As := [.int (mi), .int (g (19 + 4 * t + 1) (i + 1))]) (rest := []) (tys := TYS cI cC cB cS) ⟨hx, hb, hml, hown, hts⟩ (c_X7_lesser l D cI cC cB cS (mi) (g (19 + 4 * t + 1) (i + 1))) (va_cwS 2 hts gX7_sum_X7_lesser rfl rfl rfl (by decide +kernel) ⟨Nat.le_of_ble_eq_true rfl, Nat.le_of_ble_eq_true rfl⟩) hK hP [] rfl rfl rfl hl.1 (Nat.le_of_ble_eq_true rfl) dX7_sum_67 ⟨Nat.le_of_ble_eq_true rfl, Nat.le_of_ble_eq_true rfl⟩ (fun r_4 hr_4 => ?_)
          have hr_4 : r_4 = if mi < g (19 + 4 * t + 1) (i + 1) then mi else g (19 + 4 * t + 1) (i + 1) := hr_4
          subst hr_4
          refine lv_goto (tgt := 74) hx hb dX7_sum_70 (by decide) ?_
          refine lv_istore (lv' := [(7, .int (if mi < g (19 + 4 * t + 1) (i + 1) then mi else g (19 + 4 * t + 1) (i + 1))), (6, .int (g (19 + 4 * t + 1) i)), (4, .int (z)), (5, .int (nI i)), (3, .int (nI (14 + 16 * t))), (0, .ref (ma 0)), (1, .int (nI t)), (2, .int (mi))]) hx hb dX7_sum_74 hl (by decide) rfl (fun ls hl => ?_)
          refine lv_aload_n hx hb dX7_sum_76 rfl (lv_at hl 5 rfl) ?_
          refine va_get (D := D) (ci := 7) (v := .ref (ma 1)) (C := RX7) (T := TX7) (N := 11) hx hb hts (by decide +kernel) hown hK.1 hP 0 rfl rfl 0 (by decide) (hts (.fieldLink RX7 7 "ParkingGarageModel" "s" "[I") (by decide +kernel)) (fun _ h9 => h9) rfl dX7_sum_77 ?_
          refine lv_iload_n hx hb dX7_sum_80 rfl (lv_at hl 4 rfl) ?_
          refine lv_iconst (v := 2) hx hb dX7_sum_81 (by decide) ?_
          refine lv_iadd hx hb dX7_sum_82 ?_
          rw [show (((nI (14 + 16 * t)) + (2)) : Int32) = nI (14 + 16 * t + 2) from (nI_add (14 + 16 * t) 2)]
          refine lv_iconst (v := 3) hx hb dX7_sum_83 (by decide) ?_
          refine lv_iload hx hb dX7_sum_84 (lv_at hl 3 rfl) ?_
          refine lv_imul hx hb dX7_sum_86 ?_
          rw [show (((3) * (nI i)) : Int32) = nI (3 * i) from (nI_mul 3 i)]
          refine lv_iadd hx hb dX7_sum_87 ?_
          rw [show (((nI (14 + 16 * t + 2)) + (nI (3 * i))) : Int32) = nI (14 + 16 * t + 2 + 3 * i) from (nI_add (14 + 16 * t + 2) (3 * i))]
          refine iald_n (f := enc g lf) hx hb hK.1 hP 1 0 rfl rfl (14 + 16 * t + 2 + 3 * i) (rfl) (by omega) (by omega) dX7_sum_88 ?_
          rw [show enc g lf (14 + 16 * t + 2 + 3 * i) = g (19 + 4 * t + 2) i from enc_at (by omega) (posR_tar (w := 1) (by omega) (by omega) (by omega))]
          refine lv_istore (lv' := [(8, .int (g (19 + 4 * t + 2) i)), (7, .int (if mi < g (19 + 4 * t + 1) (i + 1) then mi else g (19 + 4 * t + 1) (i + 1))), (6, .int (g (19 + 4 * t + 1) i)), (4, .int (z)), (5, .int (nI i)), (3, .int (nI (14 + 16 * t))), (0, .ref (ma 0)), (1, .int (nI t)), (2, .int (mi))]) hx hb dX7_sum_89 hl (by decide) rfl (fun ls hl => ?_)
          refine lv_iload hx hb dX7_sum_91 (lv_at hl 3 rfl) ?_
          refine lv_iload hx hb dX7_sum_93 (lv_at hl 2 rfl) ?_
          refine lv_iload_n hx hb dX7_sum_95 rfl (lv_at hl 8 rfl) ?_
          refine lv_icmp_ge (tgt := 129) hx hb dX7_sum_96 (by decide) (fun c_5 => ?_) (fun c_5 => ?_)
          · -- c_5: g (19 + 4 * t + 1) i ≥ mi
            refine lv_iconst (v := 0) hx hb dX7_sum_129 (by decide) ?_
            refine lv_iadd hx hb dX7_sum_130 ?_
            refine lv_istore (lv' := [(4, .int ((z) + (0))), (8, .int (g (19 + 4 * t + 2) i)), (7, .int (if mi < g (19 + 4 * t + 1) (i + 1) then mi else g (19 + 4 * t + 1) (i + 1))), (6, .int (g (19 + 4 * t + 1) i)), (5, .int (nI i)), (3, .int (nI (14 + 16 * t))), (0, .ref (ma 0)), (1, .int (nI t)), (2, .int (mi))]) hx hb dX7_sum_131 hl (by decide) rfl (fun ls hl => ?_)
            refine lv_iinc (v := nI (i + 1)) (lv' := [(5, .int (nI (i + 1))), (4, .int ((z) + (0))), (8, .int (g (19 + 4 * t + 2) i)), (7, .int (if mi < g (19 + 4 * t + 1) (i + 1) then mi else g (19 + 4 * t + 1) (i + 1))), (6, .int (g (19 + 4 * t + 1) i)), (3, .int (nI (14 + 16 * t))), (0, .ref (ma 0)), (1, .int (nI t)), (2, .int (mi))]) hx hb dX7_sum_133 hl (k := 4) rfl (nI_1 _) (by decide) rfl (fun ls hl => ?_)
            refine lv_goto (tgt := 14) hx hb dX7_sum_136 (by decide) ?_
            exact ih (i + 1) ((z) + (0)) (by omega) (by omega) (tS_step0 (Int32.not_lt.mpr c_5) ha) ls (lv_sub hl [1, 0, 5, 6, 7, 8] rfl)
          · -- c_5: not g (19 + 4 * t + 1) i ≥ mi
            refine lv_aload_n hx hb dX7_sum_99 rfl (lv_at hl 6 rfl) ?_
            refine va_get (D := D) (ci := 7) (v := .ref (ma 1)) (C := RX7) (T := TX7) (N := 11) hx hb hts (by decide +kernel) hown hK.1 hP 0 rfl rfl 0 (by decide) (hts (.fieldLink RX7 7 "ParkingGarageModel" "s" "[I") (by decide +kernel)) (fun _ h9 => h9) rfl dX7_sum_100 ?_
            refine lv_iload_n hx hb dX7_sum_103 rfl (lv_at hl 5 rfl) ?_
            refine lv_iconst (v := 3) hx hb dX7_sum_104 (by decide) ?_
            refine lv_iadd hx hb dX7_sum_105 ?_
            rw [show (((nI (14 + 16 * t)) + (3)) : Int32) = nI (14 + 16 * t + 3) from (nI_add (14 + 16 * t) 3)]
            refine lv_iconst (v := 3) hx hb dX7_sum_106 (by decide) ?_
            refine lv_iload hx hb dX7_sum_107 (lv_at hl 4 rfl) ?_
            refine lv_imul hx hb dX7_sum_109 ?_
            rw [show (((3) * (nI i)) : Int32) = nI (3 * i) from (nI_mul 3 i)]
            refine lv_iadd hx hb dX7_sum_110 ?_
            rw [show (((nI (14 + 16 * t + 3)) + (nI (3 * i))) : Int32) = nI (14 + 16 * t + 3 + 3 * i) from (nI_add (14 + 16 * t + 3) (3 * i))]
            refine iald_n (f := enc g lf) hx hb hK.1 hP 1 0 rfl rfl (14 + 16 * t + 3 + 3 * i) (rfl) (by omega) (by omega) dX7_sum_111 ?_
            rw [show enc g lf (14 + 16 * t + 3 + 3 * i) = g (19 + 4 * t + 3) i from enc_at (by omega) (posR_tar (w := 2) (by omega) (by omega) (by omega))]
            refine lv_iload hx hb dX7_sum_112 (lv_at hl 1 rfl) ?_
            refine lv_iload hx hb dX7_sum_114 (lv_at hl 2 rfl) ?_
            refine lv_isub hx hb dX7_sum_116 ?_
            refine lv_iload hx hb dX7_sum_117 (lv_at hl 0 rfl) ?_
            refine lv_iadd hx hb dX7_sum_119 ?_
            refine lv_iconst (v := 1) hx hb dX7_sum_120 (by decide) ?_
            refine lv_isub hx hb dX7_sum_121 ?_
            refine lv_iload hx hb dX7_sum_122 (lv_at hl 0 rfl) ?_
            refine lv_idiv hx hb dX7_sum_124 (fun e => absurd (hun i hlt) (by rw [e]; exact Int32.lt_irrefl)) ?_
            refine lv_imul hx hb dX7_sum_125 ?_
            refine lv_goto (tgt := 130) hx hb dX7_sum_126 (by decide) ?_
            refine lv_iadd hx hb dX7_sum_130 ?_
            refine lv_istore (lv' := [(4, .int ((z) + ((g (19 + 4 * t + 3) i) * (((((if mi < g (19 + 4 * t + 1) (i + 1) then mi else g (19 + 4 * t + 1) (i + 1)) - (g (19 + 4 * t + 1) i)) + (g (19 + 4 * t + 2) i)) - (1)) / (g (19 + 4 * t + 2) i))))), (8, .int (g (19 + 4 * t + 2) i)), (7, .int (if mi < g (19 + 4 * t + 1) (i + 1) then mi else g (19 + 4 * t + 1) (i + 1))), (6, .int (g (19 + 4 * t + 1) i)), (5, .int (nI i)), (3, .int (nI (14 + 16 * t))), (0, .ref (ma 0)), (1, .int (nI t)), (2, .int (mi))]) hx hb dX7_sum_131 hl (by decide) rfl (fun ls hl => ?_)
            refine lv_iinc (v := nI (i + 1)) (lv' := [(5, .int (nI (i + 1))), (4, .int ((z) + ((g (19 + 4 * t + 3) i) * (((((if mi < g (19 + 4 * t + 1) (i + 1) then mi else g (19 + 4 * t + 1) (i + 1)) - (g (19 + 4 * t + 1) i)) + (g (19 + 4 * t + 2) i)) - (1)) / (g (19 + 4 * t + 2) i))))), (8, .int (g (19 + 4 * t + 2) i)), (7, .int (if mi < g (19 + 4 * t + 1) (i + 1) then mi else g (19 + 4 * t + 1) (i + 1))), (6, .int (g (19 + 4 * t + 1) i)), (3, .int (nI (14 + 16 * t))), (0, .ref (ma 0)), (1, .int (nI t)), (2, .int (mi))]) hx hb dX7_sum_133 hl (k := 4) rfl (nI_1 _) (by decide) rfl (fun ls hl => ?_)
            refine lv_goto (tgt := 14) hx hb dX7_sum_136 (by decide) ?_
            exact ih (i + 1) ((z) + ((g (19 + 4 * t + 3) i) * (((((if mi < g (19 + 4 * t + 1) (i + 1) then mi else g (19 + 4 * t + 1) (i + 1)) - (g (19 + 4 * t + 1) i)) + (g (19 + 4 * t + 2) i)) - (1)) / (g (19 + 4 * t + 2) i)))) (by omega) (by omega) (tS_step1 hl2 (Int32.not_le.mp c_5) (hun i hlt) ha) ls (lv_sub hl [1, 0, 5, 6, 7, 8] rfl)
  exact hloop (n + 1) 0 (0) (by omega) (by omega) (rfl) ls (lv_sub hl [1, 0, 2, 3, 4, 5] rfl)
set_option maxHeartbeats 4000000 in
set_option maxRecDepth 100000 in
theorem c_X7_normal (l : Launch) (D : va_G) (cI cC cB cS : ClassId) (ma : Nat → Nat) (fi : Nat → Int32) (wd : Int64) (g : Nat → Nat → Int32) (lf : Int32) (tn : Nat) (mi : Int32) (ht : g 19 0 = nI tn) (htb : tn ≤ 5) (htu : ∀ j, j < tn → 0 < g 21 j) : Met l yX7_normal wsX7_normal ({ frames := 2, cells := 0, slots := 0, locals := 49 } : Room) (rdPc D (TYS cI cC cB cS) [.ref (ma 0), .int (mi)] ([mO ma fi wd, (ma 1, iE cI 382 (enc g lf))])) (vp_Si (fun r => r = nFg g tn (mi))) 0 0 (fun _ => False) := by
  refine rd_intro (by decide) rfl (Nat.le_of_ble_eq_true rfl) ?_
  intro p e s m below meth c hx hb hr hml hts hown hlocks hP hK ls hl
  have hP : va_P D vwCl [(ma 0, oE 7 [.ref (ma 1), .ref (ma 2), .int (fi 0), .ref (ma 3), .ref (ma 4), .int (fi 1), .int (fi 2), .int (fi 3), .long (wd), .int (fi 4), .int (fi 5)]), (ma 1, iE cI 382 (enc g lf))] s.heap := hP
  have hown : s.vm.findClass RX7 = some m.cls := hown
  have hl : lv_has ls 2 [(0, .ref (ma 0)), (1, .int (mi))] := hl
  refine lv_iload_n hx hb dX7_normal_0 rfl (lv_at hl 1 rfl) ?_
  refine lv_aload_n hx hb dX7_normal_1 rfl (lv_at hl 0 rfl) ?_
  refine va_get (D := D) (ci := 7) (v := .ref (ma 1)) (C := RX7) (T := TX7) (N := 11) hx hb hts (by decide +kernel) hown hK.1 hP 0 rfl rfl 0 (by decide) (hts (.fieldLink RX7 7 "ParkingGarageModel" "s" "[I") (by decide +kernel)) (fun _ h9 => h9) rfl dX7_normal_2 ?_
  refine lv_bipush (v := 7) hx hb dX7_normal_5 (by decide) ?_
  refine iald_n (f := enc g lf) hx hb hK.1 hP 1 0 rfl rfl (7) (rfl) (by decide) (by omega) dX7_normal_7 ?_
  rw [show enc g lf (7) = g 1 2 from rfl]
  refine lv_icmp_gt (tgt := 15) hx hb dX7_normal_8 (by decide) (fun c_1 => ?_) (fun c_1 => ?_)
  · -- c_1: mi > g 1 2
    refine lv_aload_n hx hb dX7_normal_15 rfl (lv_at hl 0 rfl) ?_
    refine lv_iconst (v := 0) hx hb dX7_normal_16 (by decide) ?_
    refine lv_iload_n hx hb dX7_normal_17 rfl (lv_at hl 1 rfl) ?_
    refine cv_i (As := [.int (0), .int (mi)]) (rest := []) (tys := TYS cI cC cB cS) (ci := 7) ⟨hx, hb, hml, hown, hts⟩ (c_X7_sum l D cI cC cB cS (ma) (fi) (wd) (g) (lf) (0) (tn) (mi) (by decide) (ht) (htb) (htu)) (cwV 2 hts gX7_normal_X7_sum rfl rfl rfl (by decide +kernel) ⟨Nat.le_of_ble_eq_true rfl, Nat.le_of_ble_eq_true rfl⟩) hK hP [0, 1] rfl rfl rfl rfl rfl hl.1 (Nat.le_of_ble_eq_true rfl) dX7_normal_18 ⟨Nat.le_of_ble_eq_true rfl, Nat.le_of_ble_eq_true rfl⟩ (fun r_2 hr_2 => ?_)
    have hr_2 : r_2 = tS (g 20) (g 21) (g 22) tn (mi) tn := hr_2
    subst hr_2
    refine lv_aload_n hx hb dX7_normal_21 rfl (lv_at hl 0 rfl) ?_
    refine va_get (D := D) (ci := 7) (v := .ref (ma 1)) (C := RX7) (T := TX7) (N := 11) hx hb hts (by decide +kernel) hown hK.1 hP 0 rfl rfl 0 (by decide) (hts (.fieldLink RX7 7 "ParkingGarageModel" "s" "[I") (by decide +kernel)) (fun _ h9 => h9) rfl dX7_normal_22 ?_
    refine lv_bipush (v := 8) hx hb dX7_normal_25 (by decide) ?_
    refine iald_n (f := enc g lf) hx hb hK.1 hP 1 0 rfl rfl (8) (rfl) (by decide) (by omega) dX7_normal_27 ?_
    rw [show enc g lf (8) = g 1 3 from rfl]
    refine lv_iload_n hx hb dX7_normal_28 rfl (lv_at hl 1 rfl) ?_
    refine lv_sipush (v := 1440) hx hb dX7_normal_29 (by decide) ?_
    refine lv_iadd hx hb dX7_normal_32 ?_
    refine lv_iconst (v := 1) hx hb dX7_normal_33 (by decide) ?_
    refine lv_isub hx hb dX7_normal_34 ?_
    refine lv_sipush (v := 1440) hx hb dX7_normal_35 (by decide) ?_
    refine lv_idiv hx hb dX7_normal_38 (by decide) ?_
    refine lv_imul hx hb dX7_normal_39 ?_
    refine cs_i (As := [.int (tS (g 20) (g 21) (g 22) tn (mi) tn), .int ((g 1 3) * ((((mi) + (1440)) - (1)) / (1440)))]) (rest := []) (tys := TYS cI cC cB cS) ⟨hx, hb, hml, hown, hts⟩ (c_X7_lesser l D cI cC cB cS (tS (g 20) (g 21) (g 22) tn (mi) tn) ((g 1 3) * ((((mi) + (1440)) - (1)) / (1440)))) (va_cwS 2 hts gX7_normal_X7_lesser rfl rfl rfl (by decide +kernel) ⟨Nat.le_of_ble_eq_true rfl, Nat.le_of_ble_eq_true rfl⟩) hK hP [] rfl rfl rfl hl.1 (Nat.le_of_ble_eq_true rfl) dX7_normal_40 ⟨Nat.le_of_ble_eq_true rfl, Nat.le_of_ble_eq_true rfl⟩ (fun r_3 hr_3 => ?_)
    have hr_3 : r_3 = if tS (g 20) (g 21) (g 22) tn (mi) tn < (g 1 3) * ((((mi) + (1440)) - (1)) / (1440)) then tS (g 20) (g 21) (g 22) tn (mi) tn else (g 1 3) * ((((mi) + (1440)) - (1)) / (1440)) := hr_3
    subst hr_3
    exact rd_iret (v := if tS (g 20) (g 21) (g 22) tn (mi) tn < (g 1 3) * ((((mi) + (1440)) - (1)) / (1440)) then tS (g 20) (g 21) (g 22) tn (mi) tn else (g 1 3) * ((((mi) + (1440)) - (1)) / (1440))) hx hb hr hlocks dX7_normal_43 (by
      rw [lesser_comm]
      exact (if_neg (Int32.not_le.mpr c_1)).symm)
  · -- c_1: not mi > g 1 2
    refine lv_iconst (v := 0) hx hb dX7_normal_11 (by decide) ?_
    refine lv_goto (tgt := 43) hx hb dX7_normal_12 (by decide) ?_
    exact rd_iret (v := 0) hx hb hr hlocks dX7_normal_43 ((if_pos (Int32.not_lt.mp c_1)).symm)
set_option maxHeartbeats 4000000 in
set_option maxRecDepth 100000 in
theorem c_X7_feeAt (l : Launch) (D : va_G) (cI cC cB cS : ClassId) (ma : Nat → Nat) (fi : Nat → Int32) (wd : Int64) (g : Nat → Nat → Int32) (lf : Int32) (n : Nat) (q : Nat) (tn : Nat) (tu : Nat) (k : Nat) (t : Int32) (hnb : n ≤ 30) (hqc : q ≤ 16) (ht : g 19 0 = nI tn) (htb : tn ≤ 5) (htu : ∀ j, j < tn → 0 < g 21 j) (hu : g 23 0 = nI tu) (hub : tu ≤ 5) (huu : ∀ j, j < tu → 0 < g 25 j) (hu0 : ∀ j, j < tu → 0 ≤ g 24 j) (hits : ∀ k, k < n → g 11 k = -9 ∨ ∃ w, w < q ∧ g 11 k = nI w) (hen : ∀ w, w < q → Nn (g 16 w)) (hk : k < n) (hnt : Nn (t)) : Met l yX7_feeAt wsX7_feeAt ({ frames := 3, cells := 0, slots := 0, locals := 70 } : Room) (rdPc D (TYS cI cC cB cS) [.ref (ma 0), .int (nI k), .int (t)] ([mO ma fi wd, (ma 1, iE cI 382 (enc g lf))])) (vp_Si (fun r => aFeeAt g q tn tu k (t) r)) 0 0 (fun _ => False) := by
  refine rd_intro (by decide) rfl (Nat.le_of_ble_eq_true rfl) ?_
  intro p e s m below meth c hx hb hr hml hts hown hlocks hP hK ls hl
  have hP : va_P D vwCl [(ma 0, oE 7 [.ref (ma 1), .ref (ma 2), .int (fi 0), .ref (ma 3), .ref (ma 4), .int (fi 1), .int (fi 2), .int (fi 3), .long (wd), .int (fi 4), .int (fi 5)]), (ma 1, iE cI 382 (enc g lf))] s.heap := hP
  have hown : s.vm.findClass RX7 = some m.cls := hown
  have hl : lv_has ls 4 [(0, .ref (ma 0)), (1, .int (nI k)), (2, .int (t))] := hl
  refine lv_aload_n hx hb dX7_feeAt_0 rfl (lv_at hl 0 rfl) ?_
  refine lv_iload_n hx hb dX7_feeAt_1 rfl (lv_at hl 1 rfl) ?_
  refine lv_bipush (v := 6) hx hb dX7_feeAt_2 (by decide) ?_
  refine cv_i (As := [.int (nI k), .int (6)]) (rest := []) (tys := TYS cI cC cB cS) (ci := 7) ⟨hx, hb, hml, hown, hts⟩ (c_X7_of l D cI cC cB cS (ma) (fi) (wd) (g) (lf) (k) (6) (by omega) (by omega)) (cwV 2 hts gX7_feeAt_X7_of rfl rfl rfl (by decide +kernel) ⟨Nat.le_of_ble_eq_true rfl, Nat.le_of_ble_eq_true rfl⟩) hK hP [0, 1] rfl rfl rfl rfl rfl hl.1 (Nat.le_of_ble_eq_true rfl) dX7_feeAt_4 ⟨Nat.le_of_ble_eq_true rfl, Nat.le_of_ble_eq_true rfl⟩ (fun r_1 hr_1 => ?_)
  have hr_1 : r_1 = g 11 k := hr_1
  subst hr_1
  refine lv_istore_n (lv' := [(3, .int (g 11 k)), (0, .ref (ma 0)), (1, .int (nI k)), (2, .int (t))]) hx hb dX7_feeAt_7 rfl hl (by decide) rfl (fun ls hl => ?_)
  refine lv_iload_n hx hb dX7_feeAt_8 rfl (lv_at hl 0 rfl) ?_
  refine lv_bipush (v := -9) hx hb dX7_feeAt_9 (by decide) ?_
  refine lv_icmp_ne (tgt := 27) hx hb dX7_feeAt_11 (by decide) (fun c_2 => ?_) (fun c_2 => ?_)
  · -- c_2: g 11 k ≠ -9
    obtain ⟨w, hw, hwe⟩ := (hits k hk).resolve_left c_2
    have hl : lv_has ls 4 [(3, .int (nI w)), (0, .ref (ma 0)), (1, .int (nI k)), (2, .int (t))] := by rw [← hwe]; exact hl
    refine lv_iload_n hx hb dX7_feeAt_27 rfl (lv_at hl 3 rfl) ?_
    refine lv_aload_n hx hb dX7_feeAt_28 rfl (lv_at hl 1 rfl) ?_
    refine lv_iload_n hx hb dX7_feeAt_29 rfl (lv_at hl 0 rfl) ?_
    refine lv_iconst (v := 3) hx hb dX7_feeAt_30 (by decide) ?_
    refine cv_i (As := [.int (nI w), .int (3)]) (rest := [.int (t)]) (tys := TYS cI cC cB cS) (ci := 7) ⟨hx, hb, hml, hown, hts⟩ (c_X7_about l D cI cC cB cS (ma) (fi) (wd) (g) (lf) (w) (3) (by omega) (by omega)) (cwV 2 hts gX7_feeAt_X7_about rfl rfl rfl (by decide +kernel) ⟨Nat.le_of_ble_eq_true rfl, Nat.le_of_ble_eq_true rfl⟩) hK hP [0, 1] rfl rfl rfl rfl rfl hl.1 (Nat.le_of_ble_eq_true rfl) dX7_feeAt_31 ⟨Nat.le_of_ble_eq_true rfl, Nat.le_of_ble_eq_true rfl⟩ (fun r_3 hr_3 => ?_)
    have hr_3 : r_3 = g 16 w := hr_3
    subst hr_3
    refine lv_icmp_gt (tgt := 41) hx hb dX7_feeAt_34 (by decide) (fun c_4 => ?_) (fun c_4 => ?_)
    · -- c_4: t > g 16 w
      refine lv_aload_n hx hb dX7_feeAt_41 rfl (lv_at hl 1 rfl) ?_
      refine lv_iconst (v := 1) hx hb dX7_feeAt_42 (by decide) ?_
      refine lv_iload_n hx hb dX7_feeAt_43 rfl (lv_at hl 3 rfl) ?_
      refine lv_aload_n hx hb dX7_feeAt_44 rfl (lv_at hl 1 rfl) ?_
      refine lv_iload_n hx hb dX7_feeAt_45 rfl (lv_at hl 0 rfl) ?_
      refine lv_iconst (v := 3) hx hb dX7_feeAt_46 (by decide) ?_
      refine cv_i (As := [.int (nI w), .int (3)]) (rest := [.int (t), .int (1), .ref (ma 0)]) (tys := TYS cI cC cB cS) (ci := 7) ⟨hx, hb, hml, hown, hts⟩ (c_X7_about l D cI cC cB cS (ma) (fi) (wd) (g) (lf) (w) (3) (by omega) (by omega)) (cwV 2 hts gX7_feeAt_X7_about rfl rfl rfl (by decide +kernel) ⟨Nat.le_of_ble_eq_true rfl, Nat.le_of_ble_eq_true rfl⟩) hK hP [0, 1] rfl rfl rfl rfl rfl hl.1 (Nat.le_of_ble_eq_true rfl) dX7_feeAt_47 ⟨Nat.le_of_ble_eq_true rfl, Nat.le_of_ble_eq_true rfl⟩ (fun r_5 hr_5 => ?_)
      have hr_5 : r_5 = g 16 w := hr_5
      subst hr_5
      refine lv_isub hx hb dX7_feeAt_50 ?_
      refine cv_i (As := [.int (1), .int ((t) - (g 16 w))]) (rest := []) (tys := TYS cI cC cB cS) (ci := 7) ⟨hx, hb, hml, hown, hts⟩ (c_X7_sum l D cI cC cB cS (ma) (fi) (wd) (g) (lf) (1) (tu) ((t) - (g 16 w)) (by decide) (hu) (hub) (huu)) (cwV 2 hts gX7_feeAt_X7_sum rfl rfl rfl (by decide +kernel) ⟨Nat.le_of_ble_eq_true rfl, Nat.le_of_ble_eq_true rfl⟩) hK hP [0, 1] rfl rfl rfl rfl rfl hl.1 (Nat.le_of_ble_eq_true rfl) dX7_feeAt_51 ⟨Nat.le_of_ble_eq_true rfl, Nat.le_of_ble_eq_true rfl⟩ (fun r_6 hr_6 => ?_)
      have hr_6 : r_6 = tS (g 24) (g 25) (g 26) tu ((t) - (g 16 w)) tu := hr_6
      subst hr_6
      exact rd_iret (v := tS (g 24) (g 25) (g 26) tu ((t) - (g 16 w)) tu) hx hb hr hlocks dX7_feeAt_54 (Or.inr ⟨w, hw, hwe, rfl⟩)
    · -- c_4: not t > g 16 w
      refine lv_iconst (v := 0) hx hb dX7_feeAt_37 (by decide) ?_
      refine lv_goto (tgt := 54) hx hb dX7_feeAt_38 (by decide) ?_
      exact rd_iret (v := 0) hx hb hr hlocks dX7_feeAt_54 (Or.inr ⟨w, hw, hwe, fee_late hnt (hen w hw) (Int32.not_lt.mp c_4) hu0⟩)
  · -- c_2: not g 11 k ≠ -9
    refine lv_aload_n hx hb dX7_feeAt_14 rfl (lv_at hl 1 rfl) ?_
    refine lv_iload_n hx hb dX7_feeAt_15 rfl (lv_at hl 3 rfl) ?_
    refine lv_aload_n hx hb dX7_feeAt_16 rfl (lv_at hl 1 rfl) ?_
    refine lv_iload_n hx hb dX7_feeAt_17 rfl (lv_at hl 2 rfl) ?_
    refine lv_iconst (v := 5) hx hb dX7_feeAt_18 (by decide) ?_
    refine cv_i (As := [.int (nI k), .int (5)]) (rest := [.int (t), .ref (ma 0)]) (tys := TYS cI cC cB cS) (ci := 7) ⟨hx, hb, hml, hown, hts⟩ (c_X7_of l D cI cC cB cS (ma) (fi) (wd) (g) (lf) (k) (5) (by omega) (by omega)) (cwV 2 hts gX7_feeAt_X7_of rfl rfl rfl (by decide +kernel) ⟨Nat.le_of_ble_eq_true rfl, Nat.le_of_ble_eq_true rfl⟩) hK hP [0, 1] rfl rfl rfl rfl rfl hl.1 (Nat.le_of_ble_eq_true rfl) dX7_feeAt_19 ⟨Nat.le_of_ble_eq_true rfl, Nat.le_of_ble_eq_true rfl⟩ (fun r_7 hr_7 => ?_)
    have hr_7 : r_7 = g 10 k := hr_7
    subst hr_7
    refine lv_isub hx hb dX7_feeAt_22 ?_
    refine cv_i (As := [.int ((t) - (g 10 k))]) (rest := []) (tys := TYS cI cC cB cS) (ci := 7) ⟨hx, hb, hml, hown, hts⟩ (c_X7_normal l D cI cC cB cS (ma) (fi) (wd) (g) (lf) (tn) ((t) - (g 10 k)) (ht) (htb) (htu)) (cwV 1 hts gX7_feeAt_X7_normal rfl rfl rfl (by decide +kernel) ⟨Nat.le_of_ble_eq_true rfl, Nat.le_of_ble_eq_true rfl⟩) hK hP [0, 1] rfl rfl rfl rfl rfl hl.1 (Nat.le_of_ble_eq_true rfl) dX7_feeAt_23 ⟨Nat.le_of_ble_eq_true rfl, Nat.le_of_ble_eq_true rfl⟩ (fun r_8 hr_8 => ?_)
    have hr_8 : r_8 = nFg g tn ((t) - (g 10 k)) := hr_8
    subst hr_8
    exact rd_iret (v := nFg g tn ((t) - (g 10 k))) hx hb hr hlocks dX7_feeAt_26 (Or.inl ⟨fun ⟨w, h1, h2⟩ => m9_ne h1 (by omega) (c_2.symm.trans h2), rfl⟩)
set_option maxHeartbeats 4000000 in
set_option maxRecDepth 100000 in
theorem c_X7_lostFee (l : Launch) (D : va_G) (cI cC cB cS : ClassId) (ma : Nat → Nat) (fi : Nat → Int32) (wd : Int64) (g : Nat → Nat → Int32) (lf : Int32) (tn : Nat) (k : Nat) (ht : g 19 0 = nI tn) (htb : tn ≤ 5) (htu : ∀ j, j < tn → 0 < g 21 j) (hk : k < 30) : Met l yX7_lostFee wsX7_lostFee ({ frames := 3, cells := 0, slots := 0, locals := 70 } : Room) (rdPc D (TYS cI cC cB cS) [.ref (ma 0), .int (nI k)] ([mO ma fi wd, (ma 1, iE cI 382 (enc g lf))])) (vp_Si (fun r => r = aLost g tn k)) 0 0 (fun _ => False) := by
  refine rd_intro (by decide) rfl (Nat.le_of_ble_eq_true rfl) ?_
  intro p e s m below meth c hx hb hr hml hts hown hlocks hP hK ls hl
  have hP : va_P D vwCl [(ma 0, oE 7 [.ref (ma 1), .ref (ma 2), .int (fi 0), .ref (ma 3), .ref (ma 4), .int (fi 1), .int (fi 2), .int (fi 3), .long (wd), .int (fi 4), .int (fi 5)]), (ma 1, iE cI 382 (enc g lf))] s.heap := hP
  have hown : s.vm.findClass RX7 = some m.cls := hown
  have hl : lv_has ls 3 [(0, .ref (ma 0)), (1, .int (nI k))] := hl
  refine lv_aload_n hx hb dX7_lostFee_0 rfl (lv_at hl 0 rfl) ?_
  refine lv_iload_n hx hb dX7_lostFee_1 rfl (lv_at hl 1 rfl) ?_
  refine lv_iconst (v := 5) hx hb dX7_lostFee_2 (by decide) ?_
  refine cv_i (As := [.int (nI k), .int (5)]) (rest := []) (tys := TYS cI cC cB cS) (ci := 7) ⟨hx, hb, hml, hown, hts⟩ (c_X7_of l D cI cC cB cS (ma) (fi) (wd) (g) (lf) (k) (5) (by omega) (by omega)) (cwV 2 hts gX7_lostFee_X7_of rfl rfl rfl (by decide +kernel) ⟨Nat.le_of_ble_eq_true rfl, Nat.le_of_ble_eq_true rfl⟩) hK hP [0, 1] rfl rfl rfl rfl rfl hl.1 (Nat.le_of_ble_eq_true rfl) dX7_lostFee_3 ⟨Nat.le_of_ble_eq_true rfl, Nat.le_of_ble_eq_true rfl⟩ (fun r_1 hr_1 => ?_)
  have hr_1 : r_1 = g 10 k := hr_1
  subst hr_1
  refine lv_aload_n hx hb dX7_lostFee_6 rfl (lv_at hl 0 rfl) ?_
  refine va_get (D := D) (ci := 7) (v := .ref (ma 1)) (C := RX7) (T := TX7) (N := 11) hx hb hts (by decide +kernel) hown hK.1 hP 0 rfl rfl 0 (by decide) (hts (.fieldLink RX7 7 "ParkingGarageModel" "s" "[I") (by decide +kernel)) (fun _ h9 => h9) rfl dX7_lostFee_7 ?_
  refine lv_iconst (v := 0) hx hb dX7_lostFee_10 (by decide) ?_
  refine iald_n (f := enc g lf) hx hb hK.1 hP 1 0 rfl rfl (0) (rfl) (by decide) (by omega) dX7_lostFee_11 ?_
  rw [show enc g lf (0) = g 0 0 from rfl]
  refine lv_sipush (v := 1440) hx hb dX7_lostFee_12 (by decide) ?_
  refine lv_idiv hx hb dX7_lostFee_15 (by decide) ?_
  refine lv_sipush (v := 1440) hx hb dX7_lostFee_16 (by decide) ?_
  refine lv_imul hx hb dX7_lostFee_19 ?_
  refine cs_i (As := [.int (g 10 k), .int (((g 0 0) / (1440)) * (1440))]) (rest := []) (tys := TYS cI cC cB cS) ⟨hx, hb, hml, hown, hts⟩ (c_X7_lesser l D cI cC cB cS (g 10 k) (((g 0 0) / (1440)) * (1440))) (va_cwS 2 hts gX7_lostFee_X7_lesser rfl rfl rfl (by decide +kernel) ⟨Nat.le_of_ble_eq_true rfl, Nat.le_of_ble_eq_true rfl⟩) hK hP [] rfl rfl rfl hl.1 (Nat.le_of_ble_eq_true rfl) dX7_lostFee_20 ⟨Nat.le_of_ble_eq_true rfl, Nat.le_of_ble_eq_true rfl⟩ (fun r_2 hr_2 => ?_)
  have hr_2 : r_2 = if g 10 k < ((g 0 0) / (1440)) * (1440) then g 10 k else ((g 0 0) / (1440)) * (1440) := hr_2
  subst hr_2
  refine lv_istore_n (lv' := [(2, .int (if g 10 k < ((g 0 0) / (1440)) * (1440) then g 10 k else ((g 0 0) / (1440)) * (1440))), (0, .ref (ma 0)), (1, .int (nI k))]) hx hb dX7_lostFee_23 rfl hl (by decide) rfl (fun ls hl => ?_)
  refine lv_aload_n hx hb dX7_lostFee_24 rfl (lv_at hl 1 rfl) ?_
  refine va_get (D := D) (ci := 7) (v := .ref (ma 1)) (C := RX7) (T := TX7) (N := 11) hx hb hts (by decide +kernel) hown hK.1 hP 0 rfl rfl 0 (by decide) (hts (.fieldLink RX7 7 "ParkingGarageModel" "s" "[I") (by decide +kernel)) (fun _ h9 => h9) rfl dX7_lostFee_25 ?_
  refine lv_bipush (v := 9) hx hb dX7_lostFee_28 (by decide) ?_
  refine iald_n (f := enc g lf) hx hb hK.1 hP 1 0 rfl rfl (9) (rfl) (by decide) (by omega) dX7_lostFee_30 ?_
  rw [show enc g lf (9) = g 1 4 from rfl]
  refine lv_aload_n hx hb dX7_lostFee_31 rfl (lv_at hl 1 rfl) ?_
  refine lv_aload_n hx hb dX7_lostFee_32 rfl (lv_at hl 1 rfl) ?_
  refine va_get (D := D) (ci := 7) (v := .ref (ma 1)) (C := RX7) (T := TX7) (N := 11) hx hb hts (by decide +kernel) hown hK.1 hP 0 rfl rfl 0 (by decide) (hts (.fieldLink RX7 7 "ParkingGarageModel" "s" "[I") (by decide +kernel)) (fun _ h9 => h9) rfl dX7_lostFee_33 ?_
  refine lv_iconst (v := 0) hx hb dX7_lostFee_36 (by decide) ?_
  refine iald_n (f := enc g lf) hx hb hK.1 hP 1 0 rfl rfl (0) (rfl) (by decide) (by omega) dX7_lostFee_37 ?_
  rw [show enc g lf (0) = g 0 0 from rfl]
  refine lv_iload_n hx hb dX7_lostFee_38 rfl (lv_at hl 0 rfl) ?_
  refine lv_isub hx hb dX7_lostFee_39 ?_
  refine cv_i (As := [.int ((g 0 0) - (if g 10 k < ((g 0 0) / (1440)) * (1440) then g 10 k else ((g 0 0) / (1440)) * (1440)))]) (rest := [.int (g 1 4)]) (tys := TYS cI cC cB cS) (ci := 7) ⟨hx, hb, hml, hown, hts⟩ (c_X7_normal l D cI cC cB cS (ma) (fi) (wd) (g) (lf) (tn) ((g 0 0) - (if g 10 k < ((g 0 0) / (1440)) * (1440) then g 10 k else ((g 0 0) / (1440)) * (1440))) (ht) (htb) (htu)) (cwV 1 hts gX7_lostFee_X7_normal rfl rfl rfl (by decide +kernel) ⟨Nat.le_of_ble_eq_true rfl, Nat.le_of_ble_eq_true rfl⟩) hK hP [0, 1] rfl rfl rfl rfl rfl hl.1 (Nat.le_of_ble_eq_true rfl) dX7_lostFee_40 ⟨Nat.le_of_ble_eq_true rfl, Nat.le_of_ble_eq_true rfl⟩ (fun r_3 hr_3 => ?_)
  have hr_3 : r_3 = nFg g tn ((g 0 0) - (if g 10 k < ((g 0 0) / (1440)) * (1440) then g 10 k else ((g 0 0) / (1440)) * (1440))) := hr_3
  subst hr_3
  refine lv_iadd hx hb dX7_lostFee_43 ?_
  exact rd_iret (v := (g 1 4) + (nFg g tn ((g 0 0) - (if g 10 k < ((g 0 0) / (1440)) * (1440) then g 10 k else ((g 0 0) / (1440)) * (1440))))) hx hb hr hlocks dX7_lostFee_44 (by
    unfold aLost
    rw [i_sub_sub]
    rfl)
set_option maxHeartbeats 4000000 in
set_option maxRecDepth 100000 in
theorem c_X7_most (l : Launch) (D : va_G) (cI cC cB cS : ClassId) (x : Int32) : Met l yX7_most wsX7_most ({ frames := 0, cells := 0, slots := 0, locals := 0 } : Room) (rdPc D (TYS cI cC cB cS) [.int (x)] ([])) (vp_Si (fun r => r = if x = 0 then 200 else if x = 1 then 120 else if x = 2 then 60 else 99999)) 0 0 (fun _ => False) := by
  refine rd_intro (by decide) rfl (Nat.le_of_ble_eq_true rfl) ?_
  intro p e s m below meth c hx hb hr hml hts hown hlocks hP hK ls hl
  have hP : va_P D vwCl [] s.heap := hP
  have hown : s.vm.findClass RX7 = some m.cls := hown
  have hl : lv_has ls 1 [(0, .int (x))] := hl
  refine lv_iload_n hx hb dX7_most_0 rfl (lv_at hl 0 rfl) ?_
  refine lv_if_ne (tgt := 10) hx hb dX7_most_1 (by decide) (fun c_1 => ?_) (fun c_1 => ?_)
  · -- c_1: x ≠ 0
    refine lv_iload_n hx hb dX7_most_10 rfl (lv_at hl 0 rfl) ?_
    refine lv_iconst (v := 1) hx hb dX7_most_11 (by decide) ?_
    refine lv_icmp_ne (tgt := 20) hx hb dX7_most_12 (by decide) (fun c_2 => ?_) (fun c_2 => ?_)
    · -- c_2: x ≠ 1
      refine lv_iload_n hx hb dX7_most_20 rfl (lv_at hl 0 rfl) ?_
      refine lv_iconst (v := 2) hx hb dX7_most_21 (by decide) ?_
      refine lv_icmp_ne (tgt := 30) hx hb dX7_most_22 (by decide) (fun c_3 => ?_) (fun c_3 => ?_)
      · -- c_3: x ≠ 2
        refine lv_ldc (v := 99999) hx hb hown (hts (.constant RX7 78 99999) (by decide +kernel)) dX7_most_30 ?_
        exact rd_iret (v := 99999) hx hb hr hlocks dX7_most_32 (((if_neg c_1).trans ((if_neg c_2).trans (if_neg c_3))).symm)
      · -- c_3: not x ≠ 2
        refine lv_bipush (v := 60) hx hb dX7_most_25 (by decide) ?_
        refine lv_goto (tgt := 32) hx hb dX7_most_27 (by decide) ?_
        exact rd_iret (v := 60) hx hb hr hlocks dX7_most_32 (((if_neg c_1).trans ((if_neg c_2).trans (if_pos c_3))).symm)
    · -- c_2: not x ≠ 1
      refine lv_bipush (v := 120) hx hb dX7_most_15 (by decide) ?_
      refine lv_goto (tgt := 32) hx hb dX7_most_17 (by decide) ?_
      exact rd_iret (v := 120) hx hb hr hlocks dX7_most_32 (((if_neg c_1).trans (if_pos c_2)).symm)
  · -- c_1: not x ≠ 0
    refine lv_sipush (v := 200) hx hb dX7_most_4 (by decide) ?_
    refine lv_goto (tgt := 32) hx hb dX7_most_7 (by decide) ?_
    exact rd_iret (v := 200) hx hb hr hlocks dX7_most_32 ((if_pos c_1).symm)
set_option maxHeartbeats 4000000 in
set_option maxRecDepth 100000 in
theorem c_X7_sets (l : Launch) (D : va_G) (cI cC cB cS : ClassId) (zz : Nat) (ma : Nat → Nat) (fi : Nat → Int32) (wd : Int64) (g : Nat → Nat → Int32) (lf : Int32) (k : Nat) (w : Nat) (val : Int32) (hk : k < 30) (hw : w < 8) : Met l yX7_sets wsX7_sets ({ frames := 0, cells := 0, slots := 0, locals := 0 } : Room) (wrPc D (TYS cI cC cB cS) [.ref (ma 0), .int (nI k), .int (nI w), .int (val)] ([mO ma fi wd, (ma 1, iE cI 382 (enc g lf))]) zz) (va_Qv (fun u : Unit => True) (wrB D (va_A ([mO ma fi wd, (ma 1, iE cI 382 (enc g lf))]) zz) (fun u => [mO ma fi wd, (ma 1, iE cI 382 (enc (w2 g (bR w) (upd (g (bR w)) k val)) lf))])) (va_A ([mO ma fi wd, (ma 1, iE cI 382 (enc g lf))]) zz)) 0 0 (va_A ([mO ma fi wd, (ma 1, iE cI 382 (enc g lf))]) zz) := by
  refine wr_intro (Qc := fun A B => va_Qv (fun u : Unit => True) B A) (by decide) rfl (Nat.le_of_ble_eq_true rfl) ?_
  intro p e s m below meth c A hx hb hr hml hts hown hlocks hin hP hK hD hA hS ls hl
  have hP : va_P D vwCl [(ma 0, oE 7 [.ref (ma 1), .ref (ma 2), .int (fi 0), .ref (ma 3), .ref (ma 4), .int (fi 1), .int (fi 2), .int (fi 3), .long (wd), .int (fi 4), .int (fi 5)]), (ma 1, iE cI 382 (enc g lf))] s.heap := hP
  have hD : va_D A [(ma 0, oE 7 [.ref (ma 1), .ref (ma 2), .int (fi 0), .ref (ma 3), .ref (ma 4), .int (fi 1), .int (fi 2), .int (fi 3), .long (wd), .int (fi 4), .int (fi 5)]), (ma 1, iE cI 382 (enc g lf))] := hD
  have hown : s.vm.findClass RX7 = some m.cls := hown
  have hl : lv_has ls 4 [(0, .ref (ma 0)), (1, .int (nI k)), (2, .int (nI w)), (3, .int (val))] := hl
  refine lv_aload_n hx hb dX7_sets_0 rfl (lv_at hl 0 rfl) ?_
  refine va_get (D := D) (ci := 7) (v := .ref (ma 1)) (C := RX7) (T := TX7) (N := 11) hx hb hts (by decide +kernel) hown hK.1 hP 0 rfl rfl 0 (by decide) (hts (.fieldLink RX7 7 "ParkingGarageModel" "s" "[I") (by decide +kernel)) (fun _ h9 => h9) rfl dX7_sets_1 ?_
  refine lv_sipush (v := 142) hx hb dX7_sets_4 (by decide) ?_
  refine lv_bipush (v := 8) hx hb dX7_sets_7 (by decide) ?_
  refine lv_iload_n hx hb dX7_sets_9 rfl (lv_at hl 1 rfl) ?_
  refine lv_imul hx hb dX7_sets_10 ?_
  rw [show (((8) * (nI k)) : Int32) = nI (8 * k) from (nI_mul 8 k)]
  refine lv_iadd hx hb dX7_sets_11 ?_
  rw [show (((142) + (nI (8 * k))) : Int32) = nI (142 + 8 * k) from (nI_add 142 (8 * k))]
  refine lv_iload_n hx hb dX7_sets_12 rfl (lv_at hl 2 rfl) ?_
  refine lv_iadd hx hb dX7_sets_13 ?_
  rw [show (((nI (142 + 8 * k)) + (nI w)) : Int32) = nI (142 + 8 * k + w) from (nI_add (142 + 8 * k) w)]
  refine lv_iload_n hx hb dX7_sets_14 rfl (lv_at hl 3 rfl) ?_
  refine iast_n (f := enc g lf) hx hb hK.1 hP hD hS 1 0 rfl rfl (142 + 8 * k + w) (rfl) (by omega) (by omega) dX7_sets_15 (fun H locs hP hD hS => ?_)
  rw [enc_up (bR w) k (by omega) (posR_bay (by omega))] at hP hD
  have hP : va_P D vwCl [(ma 0, oE 7 [.ref (ma 1), .ref (ma 2), .int (fi 0), .ref (ma 3), .ref (ma 4), .int (fi 1), .int (fi 2), .int (fi 3), .long (wd), .int (fi 4), .int (fi 5)]), (ma 1, iE cI 382 (enc (w2 g (bR w) (upd (g (bR w)) k (val))) lf))] H := hP
  have hD : va_D A [(ma 0, oE 7 [.ref (ma 1), .ref (ma 2), .int (fi 0), .ref (ma 3), .ref (ma 4), .int (fi 1), .int (fi 2), .int (fi 3), .long (wd), .int (fi 4), .int (fi 5)]), (ma 1, iE cI 382 (enc (w2 g (bR w) (upd (g (bR w)) k (val))) lf))] := hD
  exact wr_vret (()) hx hb hr hlocks hS hP hD [0, 1] rfl rfl (by decide) dX7_sets_16 (trivial)
set_option maxHeartbeats 4000000 in
set_option maxRecDepth 100000 in
theorem c_X7_marks (l : Launch) (D : va_G) (cI cC cB cS : ClassId) (zz : Nat) (ma : Nat → Nat) (fi : Nat → Int32) (wd : Int64) (g : Nat → Nat → Int32) (lf : Int32) (k : Nat) (val : Int32) (hk : k < 16) : Met l yX7_marks wsX7_marks ({ frames := 0, cells := 0, slots := 0, locals := 0 } : Room) (wrPc D (TYS cI cC cB cS) [.ref (ma 0), .int (nI k), .int (val)] ([mO ma fi wd, (ma 1, iE cI 382 (enc g lf))]) zz) (va_Qv (fun u : Unit => True) (wrB D (va_A ([mO ma fi wd, (ma 1, iE cI 382 (enc g lf))]) zz) (fun u => [mO ma fi wd, (ma 1, iE cI 382 (enc (w2 g 18 (upd (g 18) k val)) lf))])) (va_A ([mO ma fi wd, (ma 1, iE cI 382 (enc g lf))]) zz)) 0 0 (va_A ([mO ma fi wd, (ma 1, iE cI 382 (enc g lf))]) zz) := by
  refine wr_intro (Qc := fun A B => va_Qv (fun u : Unit => True) B A) (by decide) rfl (Nat.le_of_ble_eq_true rfl) ?_
  intro p e s m below meth c A hx hb hr hml hts hown hlocks hin hP hK hD hA hS ls hl
  have hP : va_P D vwCl [(ma 0, oE 7 [.ref (ma 1), .ref (ma 2), .int (fi 0), .ref (ma 3), .ref (ma 4), .int (fi 1), .int (fi 2), .int (fi 3), .long (wd), .int (fi 4), .int (fi 5)]), (ma 1, iE cI 382 (enc g lf))] s.heap := hP
  have hD : va_D A [(ma 0, oE 7 [.ref (ma 1), .ref (ma 2), .int (fi 0), .ref (ma 3), .ref (ma 4), .int (fi 1), .int (fi 2), .int (fi 3), .long (wd), .int (fi 4), .int (fi 5)]), (ma 1, iE cI 382 (enc g lf))] := hD
  have hown : s.vm.findClass RX7 = some m.cls := hown
  have hl : lv_has ls 3 [(0, .ref (ma 0)), (1, .int (nI k)), (2, .int (val))] := hl
  refine lv_aload_n hx hb dX7_marks_0 rfl (lv_at hl 0 rfl) ?_
  refine va_get (D := D) (ci := 7) (v := .ref (ma 1)) (C := RX7) (T := TX7) (N := 11) hx hb hts (by decide +kernel) hown hK.1 hP 0 rfl rfl 0 (by decide) (hts (.fieldLink RX7 7 "ParkingGarageModel" "s" "[I") (by decide +kernel)) (fun _ h9 => h9) rfl dX7_marks_1 ?_
  refine lv_bipush (v := 46) hx hb dX7_marks_4 (by decide) ?_
  refine lv_bipush (v := 6) hx hb dX7_marks_6 (by decide) ?_
  refine lv_iload_n hx hb dX7_marks_8 rfl (lv_at hl 1 rfl) ?_
  refine lv_imul hx hb dX7_marks_9 ?_
  rw [show (((6) * (nI k)) : Int32) = nI (6 * k) from (nI_mul 6 k)]
  refine lv_iadd hx hb dX7_marks_10 ?_
  rw [show (((46) + (nI (6 * k))) : Int32) = nI (46 + 6 * k) from (nI_add 46 (6 * k))]
  refine lv_iconst (v := 5) hx hb dX7_marks_11 (by decide) ?_
  refine lv_iadd hx hb dX7_marks_12 ?_
  rw [show (((nI (46 + 6 * k)) + (5)) : Int32) = nI (46 + 6 * k + 5) from (nI_add (46 + 6 * k) 5)]
  refine lv_iload_n hx hb dX7_marks_13 rfl (lv_at hl 2 rfl) ?_
  refine iast_n (f := enc g lf) hx hb hK.1 hP hD hS 1 0 rfl rfl (46 + 6 * k + 5) (rfl) (by omega) (by omega) dX7_marks_14 (fun H locs hP hD hS => ?_)
  rw [enc_up 18 k (by omega) (posR_res (by omega) (by omega))] at hP hD
  have hP : va_P D vwCl [(ma 0, oE 7 [.ref (ma 1), .ref (ma 2), .int (fi 0), .ref (ma 3), .ref (ma 4), .int (fi 1), .int (fi 2), .int (fi 3), .long (wd), .int (fi 4), .int (fi 5)]), (ma 1, iE cI 382 (enc (w2 g 18 (upd (g 18) k (val))) lf))] H := hP
  have hD : va_D A [(ma 0, oE 7 [.ref (ma 1), .ref (ma 2), .int (fi 0), .ref (ma 3), .ref (ma 4), .int (fi 1), .int (fi 2), .int (fi 3), .long (wd), .int (fi 4), .int (fi 5)]), (ma 1, iE cI 382 (enc (w2 g 18 (upd (g 18) k (val))) lf))] := hD
  exact wr_vret (()) hx hb hr hlocks hS hP hD [0, 1] rfl rfl (by decide) dX7_marks_15 (trivial)
set_option maxHeartbeats 4000000 in
set_option maxRecDepth 100000 in
theorem c_X7_makes (l : Launch) (D : va_G) (cI cC cB cS : ClassId) (zz : Nat) (ma : Nat → Nat) (fi : Nat → Int32) (wd : Int64) (g : Nat → Nat → Int32) (lf : Int32) (n : Nat) (lv : Int32) (ps : Int32) (sz : Int32) (hn : g 3 0 = nI n) (hnf : n < 30) : Met l yX7_makes wsX7_makes ({ frames := 1, cells := 0, slots := 0, locals := 23 } : Room) (wrPc D (TYS cI cC cB cS) [.ref (ma 0), .int (lv), .int (ps), .int (sz)] ([mO ma fi wd, (ma 1, iE cI 382 (enc g lf))]) zz) (va_Qi (fun (r : Int32) (u : Unit) => r = nI n) (wrB D (va_A ([mO ma fi wd, (ma 1, iE cI 382 (enc g lf))]) zz) (fun u => [mO ma fi wd, (ma 1, iE cI 382 (enc (gAdd g n lv ps sz) lf))])) (va_A ([mO ma fi wd, (ma 1, iE cI 382 (enc g lf))]) zz)) 0 0 (va_A ([mO ma fi wd, (ma 1, iE cI 382 (enc g lf))]) zz) := by
  refine wr_intro (Qc := fun A B => va_Qi (fun (r : Int32) (u : Unit) => r = nI n) B A) (by decide) rfl (Nat.le_of_ble_eq_true rfl) ?_
  intro p e s m below meth c A hx hb hr hml hts hown hlocks hin hP hK hD hA hS ls hl
  have hP : va_P D vwCl [(ma 0, oE 7 [.ref (ma 1), .ref (ma 2), .int (fi 0), .ref (ma 3), .ref (ma 4), .int (fi 1), .int (fi 2), .int (fi 3), .long (wd), .int (fi 4), .int (fi 5)]), (ma 1, iE cI 382 (enc g lf))] s.heap := hP
  have hD : va_D A [(ma 0, oE 7 [.ref (ma 1), .ref (ma 2), .int (fi 0), .ref (ma 3), .ref (ma 4), .int (fi 1), .int (fi 2), .int (fi 3), .long (wd), .int (fi 4), .int (fi 5)]), (ma 1, iE cI 382 (enc g lf))] := hD
  have hown : s.vm.findClass RX7 = some m.cls := hown
  have hl : lv_has ls 5 [(0, .ref (ma 0)), (1, .int (lv)), (2, .int (ps)), (3, .int (sz))] := hl
  refine lv_aload_n hx hb dX7_makes_0 rfl (lv_at hl 0 rfl) ?_
  refine va_get (D := D) (ci := 7) (v := .ref (ma 1)) (C := RX7) (T := TX7) (N := 11) hx hb hts (by decide +kernel) hown hK.1 hP 0 rfl rfl 0 (by decide) (hts (.fieldLink RX7 7 "ParkingGarageModel" "s" "[I") (by decide +kernel)) (fun _ h9 => h9) rfl dX7_makes_1 ?_
  refine lv_iconst (v := 1) hx hb dX7_makes_4 (by decide) ?_
  refine iald_n (f := enc g lf) hx hb hK.1 hP 1 0 rfl rfl (1) (rfl) (by decide) (by omega) dX7_makes_5 ?_
  rw [show enc g lf (1) = g 3 0 from rfl]
  refine lv_istore (lv' := [(4, .int (g 3 0)), (0, .ref (ma 0)), (1, .int (lv)), (2, .int (ps)), (3, .int (sz))]) hx hb dX7_makes_6 hl (by decide) rfl (fun ls hl => ?_)
  have hl : lv_has ls 5 [(4, .int (nI n)), (0, .ref (ma 0)), (1, .int (lv)), (2, .int (ps)), (3, .int (sz))] := by rw [← hn]; exact hl
  refine lv_aload_n hx hb dX7_makes_8 rfl (lv_at hl 1 rfl) ?_
  refine va_get (D := D) (ci := 7) (v := .ref (ma 1)) (C := RX7) (T := TX7) (N := 11) hx hb hts (by decide +kernel) hown hK.1 hP 0 rfl rfl 0 (by decide) (hts (.fieldLink RX7 7 "ParkingGarageModel" "s" "[I") (by decide +kernel)) (fun _ h9 => h9) rfl dX7_makes_9 ?_
  refine lv_iconst (v := 1) hx hb dX7_makes_12 (by decide) ?_
  refine lv_dup2_11 hx hb dX7_makes_13 rfl rfl ?_
  refine iald_n (f := enc g lf) hx hb hK.1 hP 1 0 rfl rfl (1) (rfl) (by decide) (by omega) dX7_makes_14 ?_
  rw [show enc g lf (1) = g 3 0 from rfl]
  refine lv_iconst (v := 1) hx hb dX7_makes_15 (by decide) ?_
  refine lv_iadd hx hb dX7_makes_16 ?_
  refine iast_n (f := enc g lf) hx hb hK.1 hP hD hS 1 0 rfl rfl (1) (rfl) (by decide) (by omega) dX7_makes_17 (fun H locs hP hD hS => ?_)
  rw [enc_up 3 0 (by omega) (rfl)] at hP hD
  have hP : va_P D vwCl [(ma 0, oE 7 [.ref (ma 1), .ref (ma 2), .int (fi 0), .ref (ma 3), .ref (ma 4), .int (fi 1), .int (fi 2), .int (fi 3), .long (wd), .int (fi 4), .int (fi 5)]), (ma 1, iE cI 382 (enc (w2 g 3 (upd (g 3) 0 ((g 3 0) + (1)))) lf))] H := hP
  have hD : va_D A [(ma 0, oE 7 [.ref (ma 1), .ref (ma 2), .int (fi 0), .ref (ma 3), .ref (ma 4), .int (fi 1), .int (fi 2), .int (fi 3), .long (wd), .int (fi 4), .int (fi 5)]), (ma 1, iE cI 382 (enc (w2 g 3 (upd (g 3) 0 ((g 3 0) + (1)))) lf))] := hD
  refine lv_aload_n hx hb dX7_makes_18 rfl (lv_at hl 1 rfl) ?_
  refine lv_iload hx hb dX7_makes_19 (lv_at hl 0 rfl) ?_
  refine lv_iconst (v := 0) hx hb dX7_makes_21 (by decide) ?_
  refine lv_iload_n hx hb dX7_makes_22 rfl (lv_at hl 2 rfl) ?_
  refine cv_wv (As := [.int (nI n), .int (0), .int (lv)]) (rest := []) (tys := TYS cI cC cB cS) (ci := 7) (wr := []) ⟨hx, hb, hml, hown, hts⟩ (c_X7_sets l D cI cC cB cS _ (ma) (fi) (wd) ((w2 g 3 (upd (g 3) 0 ((g 3 0) + (1))))) (lf) (n) (0) (lv) (by omega) (by omega)) (cwV 3 hts gX7_makes_X7_sets rfl rfl rfl (by decide +kernel) ⟨Nat.le_of_ble_eq_true rfl, Nat.le_of_ble_eq_true rfl⟩) hK hP hD hS hA [0, 1] [] rfl rfl (by decide) (by decide) (by decide) rfl rfl rfl rfl hl.1 (Nat.le_of_ble_eq_true rfl) dX7_makes_23 ⟨Nat.le_of_ble_eq_true rfl, Nat.le_of_ble_eq_true rfl⟩ (fun u_1 H locs hu_1 hP hD hS => ?_)
  have hP : va_P D vwCl [(ma 0, oE 7 [.ref (ma 1), .ref (ma 2), .int (fi 0), .ref (ma 3), .ref (ma 4), .int (fi 1), .int (fi 2), .int (fi 3), .long (wd), .int (fi 4), .int (fi 5)]), (ma 1, iE cI 382 (enc (w2 (w2 g 3 (upd (g 3) 0 ((g 3 0) + (1)))) 4 (upd (g 4) n (lv))) lf))] H := hP
  have hD : va_D A [(ma 0, oE 7 [.ref (ma 1), .ref (ma 2), .int (fi 0), .ref (ma 3), .ref (ma 4), .int (fi 1), .int (fi 2), .int (fi 3), .long (wd), .int (fi 4), .int (fi 5)]), (ma 1, iE cI 382 (enc (w2 (w2 g 3 (upd (g 3) 0 ((g 3 0) + (1)))) 4 (upd (g 4) n (lv))) lf))] := hD
  have hu_1 : True := hu_1
  refine lv_aload_n hx hb dX7_makes_26 rfl (lv_at hl 1 rfl) ?_
  refine lv_iload hx hb dX7_makes_27 (lv_at hl 0 rfl) ?_
  refine lv_iconst (v := 1) hx hb dX7_makes_29 (by decide) ?_
  refine lv_iload_n hx hb dX7_makes_30 rfl (lv_at hl 3 rfl) ?_
  refine cv_wv (As := [.int (nI n), .int (1), .int (ps)]) (rest := []) (tys := TYS cI cC cB cS) (ci := 7) (wr := []) ⟨hx, hb, hml, hown, hts⟩ (c_X7_sets l D cI cC cB cS _ (ma) (fi) (wd) ((w2 (w2 g 3 (upd (g 3) 0 ((g 3 0) + (1)))) 4 (upd (g 4) n (lv)))) (lf) (n) (1) (ps) (by omega) (by omega)) (cwV 3 hts gX7_makes_X7_sets rfl rfl rfl (by decide +kernel) ⟨Nat.le_of_ble_eq_true rfl, Nat.le_of_ble_eq_true rfl⟩) hK hP hD hS hA [0, 1] [] rfl rfl (by decide) (by decide) (by decide) rfl rfl rfl rfl hl.1 (Nat.le_of_ble_eq_true rfl) dX7_makes_31 ⟨Nat.le_of_ble_eq_true rfl, Nat.le_of_ble_eq_true rfl⟩ (fun u_2 H locs hu_2 hP hD hS => ?_)
  have hP : va_P D vwCl [(ma 0, oE 7 [.ref (ma 1), .ref (ma 2), .int (fi 0), .ref (ma 3), .ref (ma 4), .int (fi 1), .int (fi 2), .int (fi 3), .long (wd), .int (fi 4), .int (fi 5)]), (ma 1, iE cI 382 (enc (w2 (w2 (w2 g 3 (upd (g 3) 0 ((g 3 0) + (1)))) 4 (upd (g 4) n (lv))) 5 (upd (g 5) n (ps))) lf))] H := hP
  have hD : va_D A [(ma 0, oE 7 [.ref (ma 1), .ref (ma 2), .int (fi 0), .ref (ma 3), .ref (ma 4), .int (fi 1), .int (fi 2), .int (fi 3), .long (wd), .int (fi 4), .int (fi 5)]), (ma 1, iE cI 382 (enc (w2 (w2 (w2 g 3 (upd (g 3) 0 ((g 3 0) + (1)))) 4 (upd (g 4) n (lv))) 5 (upd (g 5) n (ps))) lf))] := hD
  have hu_2 : True := hu_2
  refine lv_aload_n hx hb dX7_makes_34 rfl (lv_at hl 1 rfl) ?_
  refine lv_iload hx hb dX7_makes_35 (lv_at hl 0 rfl) ?_
  refine lv_iconst (v := 2) hx hb dX7_makes_37 (by decide) ?_
  refine lv_iload_n hx hb dX7_makes_38 rfl (lv_at hl 4 rfl) ?_
  refine cv_wv (As := [.int (nI n), .int (2), .int (sz)]) (rest := []) (tys := TYS cI cC cB cS) (ci := 7) (wr := []) ⟨hx, hb, hml, hown, hts⟩ (c_X7_sets l D cI cC cB cS _ (ma) (fi) (wd) ((w2 (w2 (w2 g 3 (upd (g 3) 0 ((g 3 0) + (1)))) 4 (upd (g 4) n (lv))) 5 (upd (g 5) n (ps)))) (lf) (n) (2) (sz) (by omega) (by omega)) (cwV 3 hts gX7_makes_X7_sets rfl rfl rfl (by decide +kernel) ⟨Nat.le_of_ble_eq_true rfl, Nat.le_of_ble_eq_true rfl⟩) hK hP hD hS hA [0, 1] [] rfl rfl (by decide) (by decide) (by decide) rfl rfl rfl rfl hl.1 (Nat.le_of_ble_eq_true rfl) dX7_makes_39 ⟨Nat.le_of_ble_eq_true rfl, Nat.le_of_ble_eq_true rfl⟩ (fun u_3 H locs hu_3 hP hD hS => ?_)
  have hP : va_P D vwCl [(ma 0, oE 7 [.ref (ma 1), .ref (ma 2), .int (fi 0), .ref (ma 3), .ref (ma 4), .int (fi 1), .int (fi 2), .int (fi 3), .long (wd), .int (fi 4), .int (fi 5)]), (ma 1, iE cI 382 (enc (w2 (w2 (w2 (w2 g 3 (upd (g 3) 0 ((g 3 0) + (1)))) 4 (upd (g 4) n (lv))) 5 (upd (g 5) n (ps))) 6 (upd (g 6) n (sz))) lf))] H := hP
  have hD : va_D A [(ma 0, oE 7 [.ref (ma 1), .ref (ma 2), .int (fi 0), .ref (ma 3), .ref (ma 4), .int (fi 1), .int (fi 2), .int (fi 3), .long (wd), .int (fi 4), .int (fi 5)]), (ma 1, iE cI 382 (enc (w2 (w2 (w2 (w2 g 3 (upd (g 3) 0 ((g 3 0) + (1)))) 4 (upd (g 4) n (lv))) 5 (upd (g 5) n (ps))) 6 (upd (g 6) n (sz))) lf))] := hD
  have hu_3 : True := hu_3
  refine lv_aload_n hx hb dX7_makes_42 rfl (lv_at hl 1 rfl) ?_
  refine lv_iload hx hb dX7_makes_43 (lv_at hl 0 rfl) ?_
  refine lv_iconst (v := 3) hx hb dX7_makes_45 (by decide) ?_
  refine lv_iconst (v := 1) hx hb dX7_makes_46 (by decide) ?_
  refine cv_wv (As := [.int (nI n), .int (3), .int (1)]) (rest := []) (tys := TYS cI cC cB cS) (ci := 7) (wr := []) ⟨hx, hb, hml, hown, hts⟩ (c_X7_sets l D cI cC cB cS _ (ma) (fi) (wd) ((w2 (w2 (w2 (w2 g 3 (upd (g 3) 0 ((g 3 0) + (1)))) 4 (upd (g 4) n (lv))) 5 (upd (g 5) n (ps))) 6 (upd (g 6) n (sz)))) (lf) (n) (3) (1) (by omega) (by omega)) (cwV 3 hts gX7_makes_X7_sets rfl rfl rfl (by decide +kernel) ⟨Nat.le_of_ble_eq_true rfl, Nat.le_of_ble_eq_true rfl⟩) hK hP hD hS hA [0, 1] [] rfl rfl (by decide) (by decide) (by decide) rfl rfl rfl rfl hl.1 (Nat.le_of_ble_eq_true rfl) dX7_makes_47 ⟨Nat.le_of_ble_eq_true rfl, Nat.le_of_ble_eq_true rfl⟩ (fun u_4 H locs hu_4 hP hD hS => ?_)
  have hP : va_P D vwCl [(ma 0, oE 7 [.ref (ma 1), .ref (ma 2), .int (fi 0), .ref (ma 3), .ref (ma 4), .int (fi 1), .int (fi 2), .int (fi 3), .long (wd), .int (fi 4), .int (fi 5)]), (ma 1, iE cI 382 (enc (w2 (w2 (w2 (w2 (w2 g 3 (upd (g 3) 0 ((g 3 0) + (1)))) 4 (upd (g 4) n (lv))) 5 (upd (g 5) n (ps))) 6 (upd (g 6) n (sz))) 7 (upd (g 7) n (1))) lf))] H := hP
  have hD : va_D A [(ma 0, oE 7 [.ref (ma 1), .ref (ma 2), .int (fi 0), .ref (ma 3), .ref (ma 4), .int (fi 1), .int (fi 2), .int (fi 3), .long (wd), .int (fi 4), .int (fi 5)]), (ma 1, iE cI 382 (enc (w2 (w2 (w2 (w2 (w2 g 3 (upd (g 3) 0 ((g 3 0) + (1)))) 4 (upd (g 4) n (lv))) 5 (upd (g 5) n (ps))) 6 (upd (g 6) n (sz))) 7 (upd (g 7) n (1))) lf))] := hD
  have hu_4 : True := hu_4
  refine lv_aload_n hx hb dX7_makes_50 rfl (lv_at hl 1 rfl) ?_
  refine lv_iload hx hb dX7_makes_51 (lv_at hl 0 rfl) ?_
  refine lv_iconst (v := 4) hx hb dX7_makes_53 (by decide) ?_
  refine lv_iconst (v := 0) hx hb dX7_makes_54 (by decide) ?_
  refine cv_wv (As := [.int (nI n), .int (4), .int (0)]) (rest := []) (tys := TYS cI cC cB cS) (ci := 7) (wr := []) ⟨hx, hb, hml, hown, hts⟩ (c_X7_sets l D cI cC cB cS _ (ma) (fi) (wd) ((w2 (w2 (w2 (w2 (w2 g 3 (upd (g 3) 0 ((g 3 0) + (1)))) 4 (upd (g 4) n (lv))) 5 (upd (g 5) n (ps))) 6 (upd (g 6) n (sz))) 7 (upd (g 7) n (1)))) (lf) (n) (4) (0) (by omega) (by omega)) (cwV 3 hts gX7_makes_X7_sets rfl rfl rfl (by decide +kernel) ⟨Nat.le_of_ble_eq_true rfl, Nat.le_of_ble_eq_true rfl⟩) hK hP hD hS hA [0, 1] [] rfl rfl (by decide) (by decide) (by decide) rfl rfl rfl rfl hl.1 (Nat.le_of_ble_eq_true rfl) dX7_makes_55 ⟨Nat.le_of_ble_eq_true rfl, Nat.le_of_ble_eq_true rfl⟩ (fun u_5 H locs hu_5 hP hD hS => ?_)
  have hP : va_P D vwCl [(ma 0, oE 7 [.ref (ma 1), .ref (ma 2), .int (fi 0), .ref (ma 3), .ref (ma 4), .int (fi 1), .int (fi 2), .int (fi 3), .long (wd), .int (fi 4), .int (fi 5)]), (ma 1, iE cI 382 (enc (w2 (w2 (w2 (w2 (w2 (w2 g 3 (upd (g 3) 0 ((g 3 0) + (1)))) 4 (upd (g 4) n (lv))) 5 (upd (g 5) n (ps))) 6 (upd (g 6) n (sz))) 7 (upd (g 7) n (1))) 8 (upd (g 8) n (0))) lf))] H := hP
  have hD : va_D A [(ma 0, oE 7 [.ref (ma 1), .ref (ma 2), .int (fi 0), .ref (ma 3), .ref (ma 4), .int (fi 1), .int (fi 2), .int (fi 3), .long (wd), .int (fi 4), .int (fi 5)]), (ma 1, iE cI 382 (enc (w2 (w2 (w2 (w2 (w2 (w2 g 3 (upd (g 3) 0 ((g 3 0) + (1)))) 4 (upd (g 4) n (lv))) 5 (upd (g 5) n (ps))) 6 (upd (g 6) n (sz))) 7 (upd (g 7) n (1))) 8 (upd (g 8) n (0))) lf))] := hD
  have hu_5 : True := hu_5
  refine lv_aload_n hx hb dX7_makes_58 rfl (lv_at hl 1 rfl) ?_
  refine lv_iload hx hb dX7_makes_59 (lv_at hl 0 rfl) ?_
  refine lv_iconst (v := 5) hx hb dX7_makes_61 (by decide) ?_
  refine lv_iconst (v := 0) hx hb dX7_makes_62 (by decide) ?_
  refine cv_wv (As := [.int (nI n), .int (5), .int (0)]) (rest := []) (tys := TYS cI cC cB cS) (ci := 7) (wr := []) ⟨hx, hb, hml, hown, hts⟩ (c_X7_sets l D cI cC cB cS _ (ma) (fi) (wd) ((w2 (w2 (w2 (w2 (w2 (w2 g 3 (upd (g 3) 0 ((g 3 0) + (1)))) 4 (upd (g 4) n (lv))) 5 (upd (g 5) n (ps))) 6 (upd (g 6) n (sz))) 7 (upd (g 7) n (1))) 8 (upd (g 8) n (0)))) (lf) (n) (5) (0) (by omega) (by omega)) (cwV 3 hts gX7_makes_X7_sets rfl rfl rfl (by decide +kernel) ⟨Nat.le_of_ble_eq_true rfl, Nat.le_of_ble_eq_true rfl⟩) hK hP hD hS hA [0, 1] [] rfl rfl (by decide) (by decide) (by decide) rfl rfl rfl rfl hl.1 (Nat.le_of_ble_eq_true rfl) dX7_makes_63 ⟨Nat.le_of_ble_eq_true rfl, Nat.le_of_ble_eq_true rfl⟩ (fun u_6 H locs hu_6 hP hD hS => ?_)
  have hP : va_P D vwCl [(ma 0, oE 7 [.ref (ma 1), .ref (ma 2), .int (fi 0), .ref (ma 3), .ref (ma 4), .int (fi 1), .int (fi 2), .int (fi 3), .long (wd), .int (fi 4), .int (fi 5)]), (ma 1, iE cI 382 (enc (w2 (w2 (w2 (w2 (w2 (w2 (w2 g 3 (upd (g 3) 0 ((g 3 0) + (1)))) 4 (upd (g 4) n (lv))) 5 (upd (g 5) n (ps))) 6 (upd (g 6) n (sz))) 7 (upd (g 7) n (1))) 8 (upd (g 8) n (0))) 10 (upd (g 10) n (0))) lf))] H := hP
  have hD : va_D A [(ma 0, oE 7 [.ref (ma 1), .ref (ma 2), .int (fi 0), .ref (ma 3), .ref (ma 4), .int (fi 1), .int (fi 2), .int (fi 3), .long (wd), .int (fi 4), .int (fi 5)]), (ma 1, iE cI 382 (enc (w2 (w2 (w2 (w2 (w2 (w2 (w2 g 3 (upd (g 3) 0 ((g 3 0) + (1)))) 4 (upd (g 4) n (lv))) 5 (upd (g 5) n (ps))) 6 (upd (g 6) n (sz))) 7 (upd (g 7) n (1))) 8 (upd (g 8) n (0))) 10 (upd (g 10) n (0))) lf))] := hD
  have hu_6 : True := hu_6
  refine lv_aload_n hx hb dX7_makes_66 rfl (lv_at hl 1 rfl) ?_
  refine lv_iload hx hb dX7_makes_67 (lv_at hl 0 rfl) ?_
  refine lv_bipush (v := 6) hx hb dX7_makes_69 (by decide) ?_
  refine lv_bipush (v := -9) hx hb dX7_makes_71 (by decide) ?_
  refine cv_wv (As := [.int (nI n), .int (6), .int (-9)]) (rest := []) (tys := TYS cI cC cB cS) (ci := 7) (wr := []) ⟨hx, hb, hml, hown, hts⟩ (c_X7_sets l D cI cC cB cS _ (ma) (fi) (wd) ((w2 (w2 (w2 (w2 (w2 (w2 (w2 g 3 (upd (g 3) 0 ((g 3 0) + (1)))) 4 (upd (g 4) n (lv))) 5 (upd (g 5) n (ps))) 6 (upd (g 6) n (sz))) 7 (upd (g 7) n (1))) 8 (upd (g 8) n (0))) 10 (upd (g 10) n (0)))) (lf) (n) (6) (-9) (by omega) (by omega)) (cwV 3 hts gX7_makes_X7_sets rfl rfl rfl (by decide +kernel) ⟨Nat.le_of_ble_eq_true rfl, Nat.le_of_ble_eq_true rfl⟩) hK hP hD hS hA [0, 1] [] rfl rfl (by decide) (by decide) (by decide) rfl rfl rfl rfl hl.1 (Nat.le_of_ble_eq_true rfl) dX7_makes_73 ⟨Nat.le_of_ble_eq_true rfl, Nat.le_of_ble_eq_true rfl⟩ (fun u_7 H locs hu_7 hP hD hS => ?_)
  have hP : va_P D vwCl [(ma 0, oE 7 [.ref (ma 1), .ref (ma 2), .int (fi 0), .ref (ma 3), .ref (ma 4), .int (fi 1), .int (fi 2), .int (fi 3), .long (wd), .int (fi 4), .int (fi 5)]), (ma 1, iE cI 382 (enc (w2 (w2 (w2 (w2 (w2 (w2 (w2 (w2 g 3 (upd (g 3) 0 ((g 3 0) + (1)))) 4 (upd (g 4) n (lv))) 5 (upd (g 5) n (ps))) 6 (upd (g 6) n (sz))) 7 (upd (g 7) n (1))) 8 (upd (g 8) n (0))) 10 (upd (g 10) n (0))) 11 (upd (g 11) n (-9))) lf))] H := hP
  have hD : va_D A [(ma 0, oE 7 [.ref (ma 1), .ref (ma 2), .int (fi 0), .ref (ma 3), .ref (ma 4), .int (fi 1), .int (fi 2), .int (fi 3), .long (wd), .int (fi 4), .int (fi 5)]), (ma 1, iE cI 382 (enc (w2 (w2 (w2 (w2 (w2 (w2 (w2 (w2 g 3 (upd (g 3) 0 ((g 3 0) + (1)))) 4 (upd (g 4) n (lv))) 5 (upd (g 5) n (ps))) 6 (upd (g 6) n (sz))) 7 (upd (g 7) n (1))) 8 (upd (g 8) n (0))) 10 (upd (g 10) n (0))) 11 (upd (g 11) n (-9))) lf))] := hD
  have hu_7 : True := hu_7
  refine lv_aload_n hx hb dX7_makes_76 rfl (lv_at hl 1 rfl) ?_
  refine lv_iload hx hb dX7_makes_77 (lv_at hl 0 rfl) ?_
  refine lv_bipush (v := 7) hx hb dX7_makes_79 (by decide) ?_
  refine lv_iconst (v := 0) hx hb dX7_makes_81 (by decide) ?_
  refine cv_wv (As := [.int (nI n), .int (7), .int (0)]) (rest := []) (tys := TYS cI cC cB cS) (ci := 7) (wr := []) ⟨hx, hb, hml, hown, hts⟩ (c_X7_sets l D cI cC cB cS _ (ma) (fi) (wd) ((w2 (w2 (w2 (w2 (w2 (w2 (w2 (w2 g 3 (upd (g 3) 0 ((g 3 0) + (1)))) 4 (upd (g 4) n (lv))) 5 (upd (g 5) n (ps))) 6 (upd (g 6) n (sz))) 7 (upd (g 7) n (1))) 8 (upd (g 8) n (0))) 10 (upd (g 10) n (0))) 11 (upd (g 11) n (-9)))) (lf) (n) (7) (0) (by omega) (by omega)) (cwV 3 hts gX7_makes_X7_sets rfl rfl rfl (by decide +kernel) ⟨Nat.le_of_ble_eq_true rfl, Nat.le_of_ble_eq_true rfl⟩) hK hP hD hS hA [0, 1] [] rfl rfl (by decide) (by decide) (by decide) rfl rfl rfl rfl hl.1 (Nat.le_of_ble_eq_true rfl) dX7_makes_82 ⟨Nat.le_of_ble_eq_true rfl, Nat.le_of_ble_eq_true rfl⟩ (fun u_8 H locs hu_8 hP hD hS => ?_)
  have hP : va_P D vwCl [(ma 0, oE 7 [.ref (ma 1), .ref (ma 2), .int (fi 0), .ref (ma 3), .ref (ma 4), .int (fi 1), .int (fi 2), .int (fi 3), .long (wd), .int (fi 4), .int (fi 5)]), (ma 1, iE cI 382 (enc (w2 (w2 (w2 (w2 (w2 (w2 (w2 (w2 (w2 g 3 (upd (g 3) 0 ((g 3 0) + (1)))) 4 (upd (g 4) n (lv))) 5 (upd (g 5) n (ps))) 6 (upd (g 6) n (sz))) 7 (upd (g 7) n (1))) 8 (upd (g 8) n (0))) 10 (upd (g 10) n (0))) 11 (upd (g 11) n (-9))) 9 (upd (g 9) n (0))) lf))] H := hP
  have hD : va_D A [(ma 0, oE 7 [.ref (ma 1), .ref (ma 2), .int (fi 0), .ref (ma 3), .ref (ma 4), .int (fi 1), .int (fi 2), .int (fi 3), .long (wd), .int (fi 4), .int (fi 5)]), (ma 1, iE cI 382 (enc (w2 (w2 (w2 (w2 (w2 (w2 (w2 (w2 (w2 g 3 (upd (g 3) 0 ((g 3 0) + (1)))) 4 (upd (g 4) n (lv))) 5 (upd (g 5) n (ps))) 6 (upd (g 6) n (sz))) 7 (upd (g 7) n (1))) 8 (upd (g 8) n (0))) 10 (upd (g 10) n (0))) 11 (upd (g 11) n (-9))) 9 (upd (g 9) n (0))) lf))] := hD
  have hu_8 : True := hu_8
  refine lv_iload hx hb dX7_makes_85 (lv_at hl 0 rfl) ?_
  rw [w2_89] at hP hD
  have hP : va_P D vwCl [(ma 0, oE 7 [.ref (ma 1), .ref (ma 2), .int (fi 0), .ref (ma 3), .ref (ma 4), .int (fi 1), .int (fi 2), .int (fi 3), .long (wd), .int (fi 4), .int (fi 5)]), (ma 1, iE cI 382 (enc (gAdd g n lv ps sz) lf))] H := hP
  have hD : va_D A [(ma 0, oE 7 [.ref (ma 1), .ref (ma 2), .int (fi 0), .ref (ma 3), .ref (ma 4), .int (fi 1), .int (fi 2), .int (fi 3), .long (wd), .int (fi 4), .int (fi 5)]), (ma 1, iE cI 382 (enc (gAdd g n lv ps sz) lf))] := hD
  exact wr_iret (v := nI n) (()) hx hb hr hlocks hS hP hD [0, 1] rfl rfl (by decide) dX7_makes_87 (rfl)
