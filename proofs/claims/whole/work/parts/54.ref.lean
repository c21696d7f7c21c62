/-! ===== the reference: calls that read (laid by wip/whole/gen) ===== -/
set_option maxHeartbeats 4000000 in
set_option maxRecDepth 100000 in
theorem c_X7_nearest (l : Launch) (D : va_G) (cI cC cB cS : ClassId) (ma : Nat → Nat) (fi : Nat → Int32) (wd : Int64) (g : Nat → Nat → Int32) (lf : Int32) (n : Nat) (q : Nat) (sz : Int32) (hn : g 3 0 = nI n) (hnb : n ≤ 30) (hq : g 12 0 = nI q) (hqc : q ≤ 16) (hst : ∀ w, w < q → 0 ≤ g 18 w) (htm : g 0 0 < 30000) : Met l yX7_nearest wsX7_nearest ({ frames := 6, cells := 0, slots := 0, locals := 130 } : Room) (rdPc D (TYS cI cC cB cS) [.ref (ma 0), .int (sz)] ([mO ma fi wd, (ma 1, iE cI 382 (enc g lf))])) (vp_Si (fun r => aNearest g n q sz r)) 0 0 (fun _ => False) := by
  refine rd_intro (by decide) rfl (Nat.le_of_ble_eq_true rfl) ?_
  intro p e s m below meth c hx hb hr hml hts hown hlocks hP hK ls hl
  have hP : va_P D vwCl [(ma 0, oE 7 [.ref (ma 1), .ref (ma 2), .int (fi 0), .ref (ma 3), .ref (ma 4), .int (fi 1), .int (fi 2), .int (fi 3), .long (wd), .int (fi 4), .int (fi 5)]), (ma 1, iE cI 382 (enc g lf))] s.heap := hP
  have hown : s.vm.findClass RX7 = some m.cls := hown
  have hl : lv_has ls 2 [(0, .ref (ma 0)), (1, .int (sz))] := hl
  refine lv_iload_n hx hb dX7_nearest_0 rfl (lv_at hl 1 rfl) ?_
  refine lv_iconst (v := 0) hx hb dX7_nearest_1 (by decide) ?_
  refine lv_iconst (v := 2) hx hb dX7_nearest_2 (by decide) ?_
  refine cs_i (As := [.int (sz), .int (0), .int (2)]) (rest := []) (tys := TYS cI cC cB cS) ⟨hx, hb, hml, hown, hts⟩ (c_X7_in l D cI cC cB cS (sz) (0) (2)) (va_cwS 3 hts gX7_nearest_X7_in rfl rfl rfl (by decide +kernel) ⟨Nat.le_of_ble_eq_true rfl, Nat.le_of_ble_eq_true rfl⟩) hK hP [] rfl rfl rfl hl.1 (Nat.le_of_ble_eq_true rfl) dX7_nearest_3 ⟨Nat.le_of_ble_eq_true rfl, Nat.le_of_ble_eq_true rfl⟩ (fun r_1 hr_1 => ?_)
  rcases (show Yes (0 ≤ sz ∧ sz ≤ 2) r_1 from hr_1) with ⟨rfl, h_2⟩ | ⟨rfl, h_2⟩
  · -- X7_in t
    refine if_eq_f (tgt := 17) hx hb (by decide) dX7_nearest_6 (by decide) ?_
    refine lv_aload_n hx hb dX7_nearest_9 rfl (lv_at hl 0 rfl) ?_
    refine lv_iload_n hx hb dX7_nearest_10 rfl (lv_at hl 1 rfl) ?_
    refine cv_i (As := [.int (sz)]) (rest := []) (tys := TYS cI cC cB cS) (ci := 7) ⟨hx, hb, hml, hown, hts⟩ (c_X7_guided l D cI cC cB cS (ma) (fi) (wd) (g) (lf) (n) (q) (sz) (hn) (hnb) (hq) (hqc) (hst) (htm)) (cwV 1 hts gX7_nearest_X7_guided rfl rfl rfl (by decide +kernel) ⟨Nat.le_of_ble_eq_true rfl, Nat.le_of_ble_eq_true rfl⟩) hK hP [0, 1] rfl rfl rfl rfl rfl hl.1 (Nat.le_of_ble_eq_true rfl) dX7_nearest_11 ⟨Nat.le_of_ble_eq_true rfl, Nat.le_of_ble_eq_true rfl⟩ (fun r_3 hr_3 => ?_)
    have hr_3 : aFirst g n q (sz) r_3 := hr_3
    refine lv_goto (tgt := 18) hx hb dX7_nearest_14 (by decide) ?_
    exact rd_iret (v := r_3) hx hb hr hlocks dX7_nearest_18 (Or.inl ⟨h_2, hr_3⟩)
  · -- X7_in f
    refine if_eq_t (tgt := 17) hx hb rfl dX7_nearest_6 (by decide) ?_
    refine lv_iconst (v := -1) hx hb dX7_nearest_17 (by decide) ?_
    exact rd_iret (v := -1) hx hb hr hlocks dX7_nearest_18 (Or.inr ⟨fun q => h_2 q, rfl⟩)
set_option maxHeartbeats 4000000 in
set_option maxRecDepth 100000 in
theorem c_X7_fee (l : Launch) (D : va_G) (cI cC cB cS : ClassId) (ma : Nat → Nat) (fi : Nat → Int32) (wd : Int64) (g : Nat → Nat → Int32) (lf : Int32) (tn : Nat) (tu : Nat) (t : Int32) (mi : Int32) (ht : g 19 0 = nI tn) (htb : tn ≤ 5) (htu : ∀ j, j < tn → 0 < g 21 j) (hu : g 23 0 = nI tu) (hub : tu ≤ 5) (huu : ∀ j, j < tu → 0 < g 25 j) (hu0 : ∀ j, j < tu → 0 ≤ g 24 j) : Met l yX7_fee wsX7_fee ({ frames := 3, cells := 0, slots := 0, locals := 70 } : Room) (rdPc D (TYS cI cC cB cS) [.ref (ma 0), .int (t), .int (mi)] ([mO ma fi wd, (ma 1, iE cI 382 (enc g lf))])) (vp_Si (fun r => aFee g tn tu t mi r)) 0 0 (fun _ => False) := by
  refine rd_intro (by decide) rfl (Nat.le_of_ble_eq_true rfl) ?_
  intro p e s m below meth c hx hb hr hml hts hown hlocks hP hK ls hl
  have hP : va_P D vwCl [(ma 0, oE 7 [.ref (ma 1), .ref (ma 2), .int (fi 0), .ref (ma 3), .ref (ma 4), .int (fi 1), .int (fi 2), .int (fi 3), .long (wd), .int (fi 4), .int (fi 5)]), (ma 1, iE cI 382 (enc g lf))] s.heap := hP
  have hown : s.vm.findClass RX7 = some m.cls := hown
  have hl : lv_has ls 3 [(0, .ref (ma 0)), (1, .int (t)), (2, .int (mi))] := hl
  refine lv_iload_n hx hb dX7_fee_0 rfl (lv_at hl 1 rfl) ?_
  refine lv_iconst (v := 0) hx hb dX7_fee_1 (by decide) ?_
  refine lv_iconst (v := 1) hx hb dX7_fee_2 (by decide) ?_
  refine cs_i (As := [.int (t), .int (0), .int (1)]) (rest := []) (tys := TYS cI cC cB cS) ⟨hx, hb, hml, hown, hts⟩ (c_X7_in l D cI cC cB cS (t) (0) (1)) (va_cwS 3 hts gX7_fee_X7_in rfl rfl rfl (by decide +kernel) ⟨Nat.le_of_ble_eq_true rfl, Nat.le_of_ble_eq_true rfl⟩) hK hP [] rfl rfl rfl hl.1 (Nat.le_of_ble_eq_true rfl) dX7_fee_3 ⟨Nat.le_of_ble_eq_true rfl, Nat.le_of_ble_eq_true rfl⟩ (fun r_1 hr_1 => ?_)
  rcases (show Yes (0 ≤ t ∧ t ≤ 1) r_1 from hr_1) with ⟨rfl, h_2⟩ | ⟨rfl, h_2⟩
  · -- X7_in t
    refine if_eq_f (tgt := 20) hx hb (by decide) dX7_fee_6 (by decide) ?_
    refine lv_iload_n hx hb dX7_fee_9 rfl (lv_at hl 2 rfl) ?_
    refine lv_iconst (v := 0) hx hb dX7_fee_10 (by decide) ?_
    refine lv_sipush (v := 20000) hx hb dX7_fee_11 (by decide) ?_
    refine cs_i (As := [.int (mi), .int (0), .int (20000)]) (rest := []) (tys := TYS cI cC cB cS) ⟨hx, hb, hml, hown, hts⟩ (c_X7_in l D cI cC cB cS (mi) (0) (20000)) (va_cwS 3 hts gX7_fee_X7_in rfl rfl rfl (by decide +kernel) ⟨Nat.le_of_ble_eq_true rfl, Nat.le_of_ble_eq_true rfl⟩) hK hP [] rfl rfl rfl hl.1 (Nat.le_of_ble_eq_true rfl) dX7_fee_14 ⟨Nat.le_of_ble_eq_true rfl, Nat.le_of_ble_eq_true rfl⟩ (fun r_3 hr_3 => ?_)
    rcases (show Yes (0 ≤ mi ∧ mi ≤ 20000) r_3 from hr_3) with ⟨rfl, h_4⟩ | ⟨rfl, h_4⟩
    · -- X7_in t
      refine if_ne_t (tgt := 22) hx hb (by decide) dX7_fee_17 (by decide) ?_
      refine lv_iload_n hx hb dX7_fee_22 rfl (lv_at hl 1 rfl) ?_
      refine lv_if_ne (tgt := 34) hx hb dX7_fee_23 (by decide) (fun c_5 => ?_) (fun c_5 => ?_)
      · -- c_5: t ≠ 0
        refine lv_aload_n hx hb dX7_fee_34 rfl (lv_at hl 0 rfl) ?_
        refine lv_iconst (v := 1) hx hb dX7_fee_35 (by decide) ?_
        refine lv_iload_n hx hb dX7_fee_36 rfl (lv_at hl 2 rfl) ?_
        refine cv_i (As := [.int (1), .int (mi)]) (rest := []) (tys := TYS cI cC cB cS) (ci := 7) ⟨hx, hb, hml, hown, hts⟩ (c_X7_sum l D cI cC cB cS (ma) (fi) (wd) (g) (lf) (1) (tu) (mi) (by decide) (hu) (hub) (huu)) (cwV 2 hts gX7_fee_X7_sum rfl rfl rfl (by decide +kernel) ⟨Nat.le_of_ble_eq_true rfl, Nat.le_of_ble_eq_true rfl⟩) hK hP [0, 1] rfl rfl rfl rfl rfl hl.1 (Nat.le_of_ble_eq_true rfl) dX7_fee_37 ⟨Nat.le_of_ble_eq_true rfl, Nat.le_of_ble_eq_true rfl⟩ (fun r_6 hr_6 => ?_)
        have hr_6 : r_6 = tS (g 24) (g 25) (g 26) tu (mi) tu := hr_6
        subst hr_6
        exact rd_iret (v := tS (g 24) (g 25) (g 26) tu (mi) tu) hx hb hr hlocks dX7_fee_40 (Or.inl ⟨⟨wi01_iff.mp h_2, h_4⟩, Or.inr ⟨c_5, rfl⟩⟩)
      · -- c_5: not t ≠ 0
        refine lv_aload_n hx hb dX7_fee_26 rfl (lv_at hl 0 rfl) ?_
        refine lv_iload_n hx hb dX7_fee_27 rfl (lv_at hl 2 rfl) ?_
        refine cv_i (As := [.int (mi)]) (rest := []) (tys := TYS cI cC cB cS) (ci := 7) ⟨hx, hb, hml, hown, hts⟩ (c_X7_normal l D cI cC cB cS (ma) (fi) (wd) (g) (lf) (tn) (mi) (ht) (htb) (htu)) (cwV 1 hts gX7_fee_X7_normal rfl rfl rfl (by decide +kernel) ⟨Nat.le_of_ble_eq_true rfl, Nat.le_of_ble_eq_true rfl⟩) hK hP [0, 1] rfl rfl rfl rfl rfl hl.1 (Nat.le_of_ble_eq_true rfl) dX7_fee_28 ⟨Nat.le_of_ble_eq_true rfl, Nat.le_of_ble_eq_true rfl⟩ (fun r_7 hr_7 => ?_)
        have hr_7 : r_7 = nFg g tn (mi) := hr_7
        subst hr_7
        refine lv_goto (tgt := 40) hx hb dX7_fee_31 (by decide) ?_
        exact rd_iret (v := nFg g tn (mi)) hx hb hr hlocks dX7_fee_40 (Or.inl ⟨⟨wi01_iff.mp h_2, h_4⟩, Or.inl ⟨c_5, rfl⟩⟩)
    · -- X7_in f
      refine if_ne_f (tgt := 22) hx hb rfl dX7_fee_17 (by decide) ?_
      refine lv_iconst (v := -1) hx hb dX7_fee_20 (by decide) ?_
      exact rd_iret (v := -1) hx hb hr hlocks dX7_fee_21 (Or.inr ⟨fun q => h_4 q.2, rfl⟩)
  · -- X7_in f
    refine if_eq_t (tgt := 20) hx hb rfl dX7_fee_6 (by decide) ?_
    refine lv_iconst (v := -1) hx hb dX7_fee_20 (by decide) ?_
    exact rd_iret (v := -1) hx hb hr hlocks dX7_fee_21 (Or.inr ⟨fun q => h_2 (wi01_iff.mpr q.1), rfl⟩)
set_option maxHeartbeats 4000000 in
set_option maxRecDepth 100000 in
theorem c_X7_free (l : Launch) (D : va_G) (cI cC cB cS : ClassId) (ma : Nat → Nat) (fi : Nat → Int32) (wd : Int64) (g : Nat → Nat → Int32) (lf : Int32) (n : Nat) (q : Nat) (lv : Int32) (sz : Int32) (hn : g 3 0 = nI n) (hnb : n ≤ 30) (hq : g 12 0 = nI q) (hqc : q ≤ 16) (hst : ∀ w, w < q → 0 ≤ g 18 w) (htm : g 0 0 < 30000) (hsz : ∀ w, w < n → 0 ≤ g 6 w) : Met l yX7_free wsX7_free ({ frames := 5, cells := 0, slots := 0, locals := 107 } : Room) (rdPc D (TYS cI cC cB cS) [.ref (ma 0), .int (lv), .int (sz)] ([mO ma fi wd, (ma 1, iE cI 382 (enc g lf))])) (vp_Si (fun r => aFree g n q lv sz r)) 0 0 (fun _ => False) := by
  refine rd_intro (by decide) rfl (Nat.le_of_ble_eq_true rfl) ?_
  intro p e s m below meth c hx hb hr hml hts hown hlocks hP hK ls hl
  have hP : va_P D vwCl [(ma 0, oE 7 [.ref (ma 1), .ref (ma 2), .int (fi 0), .ref (ma 3), .ref (ma 4), .int (fi 1), .int (fi 2), .int (fi 3), .long (wd), .int (fi 4), .int (fi 5)]), (ma 1, iE cI 382 (enc g lf))] s.heap := hP
  have hown : s.vm.findClass RX7 = some m.cls := hown
  have hl : lv_has ls 5 [(0, .ref (ma 0)), (1, .int (lv)), (2, .int (sz))] := hl
  refine lv_iload_n hx hb dX7_free_0 rfl (lv_at hl 1 rfl) ?_
  refine lv_iconst (v := 0) hx hb dX7_free_1 (by decide) ?_
  refine lv_iconst (v := 4) hx hb dX7_free_2 (by decide) ?_
  refine cs_i (As := [.int (lv), .int (0), .int (4)]) (rest := []) (tys := TYS cI cC cB cS) ⟨hx, hb, hml, hown, hts⟩ (c_X7_in l D cI cC cB cS (lv) (0) (4)) (va_cwS 3 hts gX7_free_X7_in rfl rfl rfl (by decide +kernel) ⟨Nat.le_of_ble_eq_true rfl, Nat.le_of_ble_eq_true rfl⟩) hK hP [] rfl rfl rfl hl.1 (Nat.le_of_ble_eq_true rfl) dX7_free_3 ⟨Nat.le_of_ble_eq_true rfl, Nat.le_of_ble_eq_true rfl⟩ (fun r_1 hr_1 => ?_)
  rcases (show Yes (0 ≤ lv ∧ lv ≤ 4) r_1 from hr_1) with ⟨rfl, h_2⟩ | ⟨rfl, h_2⟩
  · -- X7_in t
    refine if_eq_f (tgt := 18) hx hb (by decide) dX7_free_6 (by decide) ?_
    refine lv_iload_n hx hb dX7_free_9 rfl (lv_at hl 2 rfl) ?_
    refine lv_iconst (v := -1) hx hb dX7_free_10 (by decide) ?_
    refine lv_iconst (v := 2) hx hb dX7_free_11 (by decide) ?_
    refine cs_i (As := [.int (sz), .int (-1), .int (2)]) (rest := []) (tys := TYS cI cC cB cS) ⟨hx, hb, hml, hown, hts⟩ (c_X7_in l D cI cC cB cS (sz) (-1) (2)) (va_cwS 3 hts gX7_free_X7_in rfl rfl rfl (by decide +kernel) ⟨Nat.le_of_ble_eq_true rfl, Nat.le_of_ble_eq_true rfl⟩) hK hP [] rfl rfl rfl hl.1 (Nat.le_of_ble_eq_true rfl) dX7_free_12 ⟨Nat.le_of_ble_eq_true rfl, Nat.le_of_ble_eq_true rfl⟩ (fun r_3 hr_3 => ?_)
    rcases (show Yes (-1 ≤ sz ∧ sz ≤ 2) r_3 from hr_3) with ⟨rfl, h_4⟩ | ⟨rfl, h_4⟩
    · -- X7_in t
      refine if_ne_t (tgt := 20) hx hb (by decide) dX7_free_15 (by decide) ?_
      refine lv_iconst (v := 0) hx hb dX7_free_20 (by decide) ?_
      refine lv_istore_n (lv' := [(3, .int (0)), (0, .ref (ma 0)), (1, .int (lv)), (2, .int (sz))]) hx hb dX7_free_21 rfl hl (by decide) rfl (fun ls hl => ?_)
      refine lv_iconst (v := 0) hx hb dX7_free_22 (by decide) ?_
      refine lv_istore (lv' := [(4, .int (0)), (3, .int (0)), (0, .ref (ma 0)), (1, .int (lv)), (2, .int (sz))]) hx hb dX7_free_23 hl (by decide) rfl (fun ls hl => ?_)
      have hloop : ∀ (d i : Nat) (z : Nat), i ≤ n → n - i < d → (Cnt (fun w => (g 4 w = lv ∧ (sz < 0 ∨ g 6 w = sz)) ∧ g 7 w = 1 ∧ 0 ≤ g 6 w ∧ g 8 w = 0 ∧ ¬ (∃ i, i < q ∧ HeldB (g 14) (g 18) (g 15) (g 16) (g 0 0) (g 0 0 + 1) (g 1 1) (nI w) i)) i z) → ∀ ls : Array Slot, lv_has ls 5 [(3, .int (nI z)), (4, .int (nI i)), (0, .ref (ma 0)), (1, .int (lv)), (2, .int (sz))] → W p l e ({ frames := 5, cells := 0, slots := 0, locals := 107 } : Room) s m (([.ref (ma 0), .int (lv), .int (sz)] : List Value).toArray) below meth c s.heap [] 0 0 (MQ below (vp_Si (fun r => aFree g n q lv sz r)) (([.ref (ma 0), .int (lv), .int (sz)] : List Value).toArray) s 0 0 (fun _ => False)) (F0 m 25 ls []) := by
        intro d
        induction d with
        | zero => intro i _ _ h2; exact absurd h2 (Nat.not_lt_zero _)
        | succ d ih =>
          intro i z hi hd hc ls hl
          refine lv_iload hx hb dX7_free_25 (lv_at hl 1 rfl) ?_
          refine lv_aload_n hx hb dX7_free_27 rfl (lv_at hl 2 rfl) ?_
          refine va_get (D := D) (ci := 7) (v := .ref (ma 1)) (C := RX7) (T := TX7) (N := 11) hx hb hts (by decide +kernel) hown hK.1 hP 0 rfl rfl 0 (by decide) (hts (.fieldLink RX7 7 "ParkingGarageModel" "s" "[I") (by decide +kernel)) (fun _ h9 => h9) rfl dX7_free_28 ?_
          refine lv_iconst (v := 1) hx hb dX7_free_31 (by decide) ?_
          refine iald_n (f := enc g lf) hx hb hK.1 hP 1 0 rfl rfl (1) (rfl) (by decide) (by omega) dX7_free_32 ?_
          rw [show enc g lf (1) = nI n from hn]
          refine lv_icmp_ge (tgt := 85) hx hb dX7_free_33 (by decide) (fun c_5 => ?_) (fun c_5 => ?_)
          · -- c_5: nI i ≥ nI n
            have hge : i = n := nI_geD (n := n) rfl hi (by omega) c_5
            refine lv_iload_n hx hb dX7_free_85 rfl (lv_at hl 0 rfl) ?_
            exact rd_iret (v := nI z) hx hb hr hlocks dX7_free_86 (Or.inl ⟨⟨h_2, h_4⟩, Exists.intro z ⟨by rw [hge] at hc; exact hc, rfl⟩⟩)
          · -- c_5: not nI i ≥ nI n
            have hlt : i < n := nI_ltD (n := n) rfl hi (by omega) c_5
            refine lv_iload_n hx hb dX7_free_36 rfl (lv_at hl 0 rfl) ?_
            refine lv_aload_n hx hb dX7_free_37 rfl (lv_at hl 2 rfl) ?_
            refine lv_iload hx hb dX7_free_38 (lv_at hl 1 rfl) ?_
            refine lv_iconst (v := 0) hx hb dX7_free_40 (by decide) ?_
            refine cv_i (As := [.int (nI i), .int (0)]) (rest := [.int (nI z)]) (tys := TYS cI cC cB cS) (ci := 7) ⟨hx, hb, hml, hown, hts⟩ (c_X7_of l D cI cC cB cS (ma) (fi) (wd) (g) (lf) (i) (0) (by omega) (by omega)) (cwV 2 hts gX7_free_X7_of rfl rfl rfl (by decide +kernel) ⟨Nat.le_of_ble_eq_true rfl, Nat.le_of_ble_eq_true rfl⟩) hK hP [0, 1] rfl rfl rfl rfl rfl hl.1 (Nat.le_of_ble_eq_true rfl) dX7_free_41 ⟨Nat.le_of_ble_eq_true rfl, Nat.le_of_ble_eq_true rfl⟩ (fun r_6 hr_6 => ?_)
            have hr_6 : r_6 = g 4 i := hr_6
            subst hr_6
            refine lv_iload_n hx hb dX7_free_44 rfl (lv_at hl 3 rfl) ?_
            refine lv_icmp_ne (tgt := 76) hx hb dX7_free_45 (by decide) (fun c_7 => ?_) (fun c_7 => ?_)
            · -- c_7: g 4 i ≠ lv
              refine lv_iconst (v := 0) hx hb dX7_free_76 (by decide) ?_
              refine lv_iadd hx hb dX7_free_77 ?_
              rw [show (((nI z) + (0)) : Int32) = nI (z + 0) from (nI_add z 0)]
              refine lv_istore_n (lv' := [(3, .int (nI (z + 0))), (4, .int (nI i)), (0, .ref (ma 0)), (1, .int (lv)), (2, .int (sz))]) hx hb dX7_free_78 rfl hl (by decide) rfl (fun ls hl => ?_)
              refine lv_iinc (v := nI (i + 1)) (lv' := [(4, .int (nI (i + 1))), (3, .int (nI (z + 0))), (0, .ref (ma 0)), (1, .int (lv)), (2, .int (sz))]) hx hb dX7_free_79 hl (k := 1) rfl (nI_1 _) (by decide) rfl (fun ls hl => ?_)
              refine lv_goto (tgt := 25) hx hb dX7_free_82 (by decide) ?_
              exact ih (i + 1) ((z + 0)) (by omega) (by omega) (hc.n (fun q => c_7 q.1.1)) ls (lv_sub hl [1, 0, 2, 3, 4] rfl)
            · -- c_7: not g 4 i ≠ lv
              refine lv_iload_n hx hb dX7_free_48 rfl (lv_at hl 4 rfl) ?_
              refine lv_if_lt (tgt := 63) hx hb dX7_free_49 (by decide) (fun c_8 => ?_) (fun c_8 => ?_)
              · -- c_8: sz < 0
                refine lv_aload_n hx hb dX7_free_63 rfl (lv_at hl 2 rfl) ?_
                refine lv_iload hx hb dX7_free_64 (lv_at hl 1 rfl) ?_
                refine cv_i (As := [.int (nI i)]) (rest := [.int (nI z)]) (tys := TYS cI cC cB cS) (ci := 7) ⟨hx, hb, hml, hown, hts⟩ (c_X7_isFree l D cI cC cB cS (ma) (fi) (wd) (g) (lf) (q) (i) (hq) (hqc) (hst) (htm) (by omega)) (cwV 1 hts gX7_free_X7_isFree rfl rfl rfl (by decide +kernel) ⟨Nat.le_of_ble_eq_true rfl, Nat.le_of_ble_eq_true rfl⟩) hK hP [0, 1] rfl rfl rfl rfl rfl hl.1 (Nat.le_of_ble_eq_true rfl) dX7_free_66 ⟨Nat.le_of_ble_eq_true rfl, Nat.le_of_ble_eq_true rfl⟩ (fun r_9 hr_9 => ?_)
                rcases (show Yes (g 7 i = 1 ∧ g 8 i = 0 ∧ ¬ ∃ w, w < q ∧ HeldB (g 14) (g 18) (g 15) (g 16) (g 0 0) (g 0 0 + 1) (g 1 1) (nI i) w) r_9 from hr_9) with ⟨rfl, h_10⟩ | ⟨rfl, h_10⟩
                · -- X7_isFree t
                  refine if_eq_f (tgt := 76) hx hb (by decide) dX7_free_69 (by decide) ?_
                  refine lv_iconst (v := 1) hx hb dX7_free_72 (by decide) ?_
                  refine lv_goto (tgt := 77) hx hb dX7_free_73 (by decide) ?_
                  refine lv_iadd hx hb dX7_free_77 ?_
                  rw [show (((nI z) + (1)) : Int32) = nI (z + 1) from (nI_add z 1)]
                  refine lv_istore_n (lv' := [(3, .int (nI (z + 1))), (4, .int (nI i)), (0, .ref (ma 0)), (1, .int (lv)), (2, .int (sz))]) hx hb dX7_free_78 rfl hl (by decide) rfl (fun ls hl => ?_)
                  refine lv_iinc (v := nI (i + 1)) (lv' := [(4, .int (nI (i + 1))), (3, .int (nI (z + 1))), (0, .ref (ma 0)), (1, .int (lv)), (2, .int (sz))]) hx hb dX7_free_79 hl (k := 1) rfl (nI_1 _) (by decide) rfl (fun ls hl => ?_)
                  refine lv_goto (tgt := 25) hx hb dX7_free_82 (by decide) ?_
                  exact ih (i + 1) ((z + 1)) (by omega) (by omega) (hc.y ⟨⟨c_7, Or.inl c_8⟩, h_10.1, hsz i hlt, h_10.2.1, h_10.2.2⟩) ls (lv_sub hl [1, 0, 2, 3, 4] rfl)
                · -- X7_isFree f
                  refine if_eq_t (tgt := 76) hx hb rfl dX7_free_69 (by decide) ?_
                  refine lv_iconst (v := 0) hx hb dX7_free_76 (by decide) ?_
                  refine lv_iadd hx hb dX7_free_77 ?_
                  rw [show (((nI z) + (0)) : Int32) = nI (z + 0) from (nI_add z 0)]
                  refine lv_istore_n (lv' := [(3, .int (nI (z + 0))), (4, .int (nI i)), (0, .ref (ma 0)), (1, .int (lv)), (2, .int (sz))]) hx hb dX7_free_78 rfl hl (by decide) rfl (fun ls hl => ?_)
                  refine lv_iinc (v := nI (i + 1)) (lv' := [(4, .int (nI (i + 1))), (3, .int (nI (z + 0))), (0, .ref (ma 0)), (1, .int (lv)), (2, .int (sz))]) hx hb dX7_free_79 hl (k := 1) rfl (nI_1 _) (by decide) rfl (fun ls hl => ?_)
                  refine lv_goto (tgt := 25) hx hb dX7_free_82 (by decide) ?_
                  exact ih (i + 1) ((z + 0)) (by omega) (by omega) (hc.n (fun q => h_10 ⟨q.2.1, q.2.2.2.1, q.2.2.2.2⟩)) ls (lv_sub hl [1, 0, 2, 3, 4] rfl)
              · -- c_8: not sz < 0
                refine lv_aload_n hx hb dX7_free_52 rfl (lv_at hl 2 rfl) ?_
                refine lv_iload hx hb dX7_free_53 (lv_at hl 1 rfl) ?_
                refine lv_iconst (v := 2) hx hb dX7_free_55 (by decide) ?_
                refine cv_i (As := [.int (nI i), .int (2)]) (rest := [.int (nI z)]) (tys := TYS cI cC cB cS) (ci := 7) ⟨hx, hb, hml, hown, hts⟩ (c_X7_of l D cI cC cB cS (ma) (fi) (wd) (g) (lf) (i) (2) (by omega) (by omega)) (cwV 2 hts gX7_free_X7_of rfl rfl rfl (by decide +kernel) ⟨Nat.le_of_ble_eq_true rfl, Nat.le_of_ble_eq_true rfl⟩) hK hP [0, 1] rfl rfl rfl rfl rfl hl.1 (Nat.le_of_ble_eq_true rfl) dX7_free_56 ⟨Nat.le_of_ble_eq_true rfl, Nat.le_of_ble_eq_true rfl⟩ (fun r_11 hr_11 => ?_)
                have hr_11 : r_11 = g 6 i := hr_11
                subst hr_11
                refine lv_iload_n hx hb dX7_free_59 rfl (lv_at hl 4 rfl) ?_
                refine lv_icmp_ne (tgt := 76) hx hb dX7_free_60 (by decide) (fun c_12 => ?_) (fun c_12 => ?_)
                · -- c_12: g 6 i ≠ sz
                  refine lv_iconst (v := 0) hx hb dX7_free_76 (by decide) ?_
                  refine lv_iadd hx hb dX7_free_77 ?_
                  rw [show (((nI z) + (0)) : Int32) = nI (z + 0) from (nI_add z 0)]
                  refine lv_istore_n (lv' := [(3, .int (nI (z + 0))), (4, .int (nI i)), (0, .ref (ma 0)), (1, .int (lv)), (2, .int (sz))]) hx hb dX7_free_78 rfl hl (by decide) rfl (fun ls hl => ?_)
                  refine lv_iinc (v := nI (i + 1)) (lv' := [(4, .int (nI (i + 1))), (3, .int (nI (z + 0))), (0, .ref (ma 0)), (1, .int (lv)), (2, .int (sz))]) hx hb dX7_free_79 hl (k := 1) rfl (nI_1 _) (by decide) rfl (fun ls hl => ?_)
                  refine lv_goto (tgt := 25) hx hb dX7_free_82 (by decide) ?_
                  exact ih (i + 1) ((z + 0)) (by omega) (by omega) (hc.n (fun q => q.1.2.elim c_8 c_12)) ls (lv_sub hl [1, 0, 2, 3, 4] rfl)
                · -- c_12: not g 6 i ≠ sz
                  refine lv_aload_n hx hb dX7_free_63 rfl (lv_at hl 2 rfl) ?_
                  refine lv_iload hx hb dX7_free_64 (lv_at hl 1 rfl) ?_
                  refine cv_i (As := [.int (nI i)]) (rest := [.int (nI z)]) (tys := TYS cI cC cB cS) (ci := 7) ⟨hx, hb, hml, hown, hts⟩ (c_X7_isFree l D cI cC cB cS (ma) (fi) (wd) (g) (lf) (q) (i) (hq) (hqc) (hst) (htm) (by omega)) (cwV 1 hts gX7_free_X7_isFree rfl rfl rfl (by decide +kernel) ⟨Nat.le_of_ble_eq_true rfl, Nat.le_of_ble_eq_true rfl⟩) hK hP [0, 1] rfl rfl rfl rfl rfl hl.1 (Nat.le_of_ble_eq_true rfl) dX7_free_66 ⟨Nat.le_of_ble_eq_true rfl, Nat.le_of_ble_eq_true rfl⟩ (fun r_13 hr_13 => ?_)
                  rcases (show Yes (g 7 i = 1 ∧ g 8 i = 0 ∧ ¬ ∃ w, w < q ∧ HeldB (g 14) (g 18) (g 15) (g 16) (g 0 0) (g 0 0 + 1) (g 1 1) (nI i) w) r_13 from hr_13) with ⟨rfl, h_14⟩ | ⟨rfl, h_14⟩
                  · -- X7_isFree t
                    refine if_eq_f (tgt := 76) hx hb (by decide) dX7_free_69 (by decide) ?_
                    refine lv_iconst (v := 1) hx hb dX7_free_72 (by decide) ?_
                    refine lv_goto (tgt := 77) hx hb dX7_free_73 (by decide) ?_
                    refine lv_iadd hx hb dX7_free_77 ?_
                    rw [show (((nI z) + (1)) : Int32) = nI (z + 1) from (nI_add z 1)]
                    refine lv_istore_n (lv' := [(3, .int (nI (z + 1))), (4, .int (nI i)), (0, .ref (ma 0)), (1, .int (lv)), (2, .int (sz))]) hx hb dX7_free_78 rfl hl (by decide) rfl (fun ls hl => ?_)
                    refine lv_iinc (v := nI (i + 1)) (lv' := [(4, .int (nI (i + 1))), (3, .int (nI (z + 1))), (0, .ref (ma 0)), (1, .int (lv)), (2, .int (sz))]) hx hb dX7_free_79 hl (k := 1) rfl (nI_1 _) (by decide) rfl (fun ls hl => ?_)
                    refine lv_goto (tgt := 25) hx hb dX7_free_82 (by decide) ?_
                    exact ih (i + 1) ((z + 1)) (by omega) (by omega) (hc.y ⟨⟨c_7, Or.inr c_12⟩, h_14.1, hsz i hlt, h_14.2.1, h_14.2.2⟩) ls (lv_sub hl [1, 0, 2, 3, 4] rfl)
                  · -- X7_isFree f
                    refine if_eq_t (tgt := 76) hx hb rfl dX7_free_69 (by decide) ?_
                    refine lv_iconst (v := 0) hx hb dX7_free_76 (by decide) ?_
                    refine lv_iadd hx hb dX7_free_77 ?_
                    rw [show (((nI z) + (0)) : Int32) = nI (z + 0) from (nI_add z 0)]
                    refine lv_istore_n (lv' := [(3, .int (nI (z + 0))), (4, .int (nI i)), (0, .ref (ma 0)), (1, .int (lv)), (2, .int (sz))]) hx hb dX7_free_78 rfl hl (by decide) rfl (fun ls hl => ?_)
                    refine lv_iinc (v := nI (i + 1)) (lv' := [(4, .int (nI (i + 1))), (3, .int (nI (z + 0))), (0, .ref (ma 0)), (1, .int (lv)), (2, .int (sz))]) hx hb dX7_free_79 hl (k := 1) rfl (nI_1 _) (by decide) rfl (fun ls hl => ?_)
                    refine lv_goto (tgt := 25) hx hb dX7_free_82 (by decide) ?_
                    exact ih (i + 1) ((z + 0)) (by omega) (by omega) (hc.n (fun q => h_14 ⟨q.2.1, q.2.2.2.1, q.2.2.2.2⟩)) ls (lv_sub hl [1, 0, 2, 3, 4] rfl)
      exact hloop (n + 1) 0 (0) (by omega) (by omega) (rfl) ls (lv_sub hl [1, 0, 2, 3, 4] rfl)
    · -- X7_in f
      refine if_ne_f (tgt := 20) hx hb rfl dX7_free_15 (by decide) ?_
      refine lv_iconst (v := -1) hx hb dX7_free_18 (by decide) ?_
      exact rd_iret (v := -1) hx hb hr hlocks dX7_free_19 (Or.inr ⟨fun q => h_4 q.2, rfl⟩)
  · -- X7_in f
    refine if_eq_t (tgt := 18) hx hb rfl dX7_free_6 (by decide) ?_
    refine lv_iconst (v := -1) hx hb dX7_free_18 (by decide) ?_
    exact rd_iret (v := -1) hx hb hr hlocks dX7_free_19 (Or.inr ⟨fun q => h_2 q.1, rfl⟩)
set_option maxHeartbeats 4000000 in
set_option maxRecDepth 100000 in
theorem c_X7_minutesLeft (l : Launch) (D : va_G) (cI cC cB cS : ClassId) (ma : Nat → Nat) (fi : Nat → Int32) (wd : Int64) (g : Nat → Nat → Int32) (lf : Int32) (n : Nat) (q : Nat) (tn : Nat) (tu : Nat) (T : Nat) (x : Int32) (hn : g 3 0 = nI n) (hnb : n ≤ 30) (hqc : q ≤ 16) (ht : g 19 0 = nI tn) (htb : tn ≤ 5) (htu : ∀ j, j < tn → 0 < g 21 j) (hu : g 23 0 = nI tu) (hub : tu ≤ 5) (huu : ∀ j, j < tu → 0 < g 25 j) (hu0 : ∀ j, j < tu → 0 ≤ g 24 j) (hits : ∀ k, k < n → g 11 k = -9 ∨ ∃ w, w < q ∧ g 11 k = nI w) (hen : ∀ w, w < q → Nn (g 16 w)) (hT0 : g 0 0 = nI T) (hT0b : T ≤ 20000) : Met l yX7_minutesLeft wsX7_minutesLeft ({ frames := 4, cells := 0, slots := 0, locals := 93 } : Room) (rdPc D (TYS cI cC cB cS) [.ref (ma 0), .int (x)] ([mO ma fi wd, (ma 1, iE cI 382 (enc g lf))])) (vp_Si (fun r => aMinutes g n q tn tu x r)) 0 0 (fun _ => False) := by
  refine rd_intro (by decide) rfl (Nat.le_of_ble_eq_true rfl) ?_
  intro p e s m below meth c hx hb hr hml hts hown hlocks hP hK ls hl
  have hP : va_P D vwCl [(ma 0, oE 7 [.ref (ma 1), .ref (ma 2), .int (fi 0), .ref (ma 3), .ref (ma 4), .int (fi 1), .int (fi 2), .int (fi 3), .long (wd), .int (fi 4), .int (fi 5)]), (ma 1, iE cI 382 (enc g lf))] s.heap := hP
  have hown : s.vm.findClass RX7 = some m.cls := hown
  have hl : lv_has ls 5 [(0, .ref (ma 0)), (1, .int (x))] := hl
  refine lv_iload_n hx hb dX7_minutesLeft_0 rfl (lv_at hl 1 rfl) ?_
  refine lv_iconst (v := 1) hx hb dX7_minutesLeft_1 (by decide) ?_
  refine lv_sipush (v := 999) hx hb dX7_minutesLeft_2 (by decide) ?_
  refine cs_i (As := [.int (x), .int (1), .int (999)]) (rest := []) (tys := TYS cI cC cB cS) ⟨hx, hb, hml, hown, hts⟩ (c_X7_in l D cI cC cB cS (x) (1) (999)) (va_cwS 3 hts gX7_minutesLeft_X7_in rfl rfl rfl (by decide +kernel) ⟨Nat.le_of_ble_eq_true rfl, Nat.le_of_ble_eq_true rfl⟩) hK hP [] rfl rfl rfl hl.1 (Nat.le_of_ble_eq_true rfl) dX7_minutesLeft_5 ⟨Nat.le_of_ble_eq_true rfl, Nat.le_of_ble_eq_true rfl⟩ (fun r_1 hr_1 => ?_)
  rcases (show Yes (1 ≤ x ∧ x ≤ 999) r_1 from hr_1) with ⟨rfl, h_2⟩ | ⟨rfl, h_2⟩
  · -- X7_in t
    refine if_ne_t (tgt := 13) hx hb (by decide) dX7_minutesLeft_8 (by decide) ?_
    refine lv_aload_n hx hb dX7_minutesLeft_13 rfl (lv_at hl 0 rfl) ?_
    refine lv_iload_n hx hb dX7_minutesLeft_14 rfl (lv_at hl 1 rfl) ?_
    refine cv_i (As := [.int (x)]) (rest := []) (tys := TYS cI cC cB cS) (ci := 7) ⟨hx, hb, hml, hown, hts⟩ (c_X7_bayOf l D cI cC cB cS (ma) (fi) (wd) (g) (lf) (n) (x) (hn) (hnb)) (cwV 1 hts gX7_minutesLeft_X7_bayOf rfl rfl rfl (by decide +kernel) ⟨Nat.le_of_ble_eq_true rfl, Nat.le_of_ble_eq_true rfl⟩) hK hP [0, 1] rfl rfl rfl rfl rfl hl.1 (Nat.le_of_ble_eq_true rfl) dX7_minutesLeft_15 ⟨Nat.le_of_ble_eq_true rfl, Nat.le_of_ble_eq_true rfl⟩ (fun r_3 hr_3 => ?_)
    have hr_3 : Fst (fun w => g 8 w = x) n r_3 := hr_3
    refine lv_istore_n (lv' := [(2, .int (r_3)), (0, .ref (ma 0)), (1, .int (x))]) hx hb dX7_minutesLeft_18 rfl hl (by decide) rfl (fun ls hl => ?_)
    refine lv_iload_n hx hb dX7_minutesLeft_19 rfl (lv_at hl 0 rfl) ?_
    refine lv_bipush (v := -9) hx hb dX7_minutesLeft_20 (by decide) ?_
    refine lv_icmp_ne (tgt := 28) hx hb dX7_minutesLeft_22 (by decide) (fun c_4 => ?_) (fun c_4 => ?_)
    · -- c_4: r_3 ≠ -9
      obtain ⟨k, hk, hbk, hPk, hNk⟩ := Fst.got9 hr_3 c_4
      have hl : lv_has ls 5 [(2, .int (nI k)), (0, .ref (ma 0)), (1, .int (x))] := by rw [← hbk]; exact hl
      refine lv_aload_n hx hb dX7_minutesLeft_28 rfl (lv_at hl 1 rfl) ?_
      refine lv_iload_n hx hb dX7_minutesLeft_29 rfl (lv_at hl 0 rfl) ?_
      refine lv_aload_n hx hb dX7_minutesLeft_30 rfl (lv_at hl 1 rfl) ?_
      refine va_get (D := D) (ci := 7) (v := .ref (ma 1)) (C := RX7) (T := TX7) (N := 11) hx hb hts (by decide +kernel) hown hK.1 hP 0 rfl rfl 0 (by decide) (hts (.fieldLink RX7 7 "ParkingGarageModel" "s" "[I") (by decide +kernel)) (fun _ h9 => h9) rfl dX7_minutesLeft_31 ?_
      refine lv_iconst (v := 0) hx hb dX7_minutesLeft_34 (by decide) ?_
      refine iald_n (f := enc g lf) hx hb hK.1 hP 1 0 rfl rfl (0) (rfl) (by decide) (by omega) dX7_minutesLeft_35 ?_
      rw [show enc g lf (0) = g 0 0 from rfl]
      refine cv_i (As := [.int (nI k), .int (g 0 0)]) (rest := []) (tys := TYS cI cC cB cS) (ci := 7) ⟨hx, hb, hml, hown, hts⟩ (c_X7_feeAt l D cI cC cB cS (ma) (fi) (wd) (g) (lf) (n) (q) (tn) (tu) (k) (g 0 0) (hnb) (hqc) (ht) (htb) (htu) (hu) (hub) (huu) (hu0) (hits) (hen) (by omega) ((by have := nn_add (k := 0) hT0 (by omega); rw [hT0]; exact nn_nI (by omega)))) (cwV 2 hts gX7_minutesLeft_X7_feeAt rfl rfl rfl (by decide +kernel) ⟨Nat.le_of_ble_eq_true rfl, Nat.le_of_ble_eq_true rfl⟩) hK hP [0, 1] rfl rfl rfl rfl rfl hl.1 (Nat.le_of_ble_eq_true rfl) dX7_minutesLeft_36 ⟨Nat.le_of_ble_eq_true rfl, Nat.le_of_ble_eq_true rfl⟩ (fun r_5 hr_5 => ?_)
      have hr_5 : aFeeAt g q tn tu k (g 0 0) r_5 := hr_5
      refine lv_istore_n (lv' := [(3, .int (r_5)), (2, .int (nI k)), (0, .ref (ma 0)), (1, .int (x))]) hx hb dX7_minutesLeft_39 rfl hl (by decide) rfl (fun ls hl => ?_)
      refine lv_iconst (v := 0) hx hb dX7_minutesLeft_40 (by decide) ?_
      refine lv_istore (lv' := [(4, .int (0)), (3, .int (r_5)), (2, .int (nI k)), (0, .ref (ma 0)), (1, .int (x))]) hx hb dX7_minutesLeft_41 hl (by decide) rfl (fun ls hl => ?_)
      have hloop : ∀ (d i : Nat), i ≤ 1440 → 1440 - i < d → (∀ j, 1 ≤ j → j ≤ i → ∃ f, FeA q (g 11) (g 10) (g 16) (fun z => nF (g 1) (g 20) (g 21) (g 22) tn (z)) (fun z => tS (g 24) (g 25) (g 26) tu (z) tu) k (g 0 0 + nI j) f ∧ f ≤ r_5) → ∀ ls : Array Slot, lv_has ls 5 [(4, .int (nI i)), (3, .int (r_5)), (2, .int (nI k)), (0, .ref (ma 0)), (1, .int (x))] → W p l e ({ frames := 4, cells := 0, slots := 0, locals := 93 } : Room) s m (([.ref (ma 0), .int (x)] : List Value).toArray) below meth c s.heap [] 0 0 (MQ below (vp_Si (fun r => aMinutes g n q tn tu x r)) (([.ref (ma 0), .int (x)] : List Value).toArray) s 0 0 (fun _ => False)) (F0 m 43 ls []) := by
        intro d
        induction d with
        | zero => intro i _ h2; exact absurd h2 (Nat.not_lt_zero _)
        | succ d ih =>
          intro i hi hd hm ls hl
          refine lv_iload hx hb dX7_minutesLeft_43 (lv_at hl 0 rfl) ?_
          refine lv_sipush (v := 1440) hx hb dX7_minutesLeft_45 (by decide) ?_
          refine lv_icmp_ge (tgt := 77) hx hb dX7_minutesLeft_48 (by decide) (fun c_6 => ?_) (fun c_6 => ?_)
          · -- c_6: nI i ≥ 1440
            have hge : i = 1440 := nI_geD (n := 1440) rfl hi (by omega) c_6
            refine lv_iload hx hb dX7_minutesLeft_77 (lv_at hl 0 rfl) ?_
            exact rd_iret (v := nI i) hx hb hr hlocks dX7_minutesLeft_79 (Or.inl ⟨h_2, Or.inl ⟨k, hk, hPk, hNk, Exists.intro r_5 ⟨hr_5, i, hi, rfl, hm, fun h => absurd h (by omega)⟩⟩⟩)
          · -- c_6: not nI i ≥ 1440
            have hlt : i < 1440 := nI_ltD (n := 1440) rfl hi (by omega) c_6
            refine lv_aload_n hx hb dX7_minutesLeft_51 rfl (lv_at hl 3 rfl) ?_
            refine lv_iload_n hx hb dX7_minutesLeft_52 rfl (lv_at hl 2 rfl) ?_
            refine lv_aload_n hx hb dX7_minutesLeft_53 rfl (lv_at hl 3 rfl) ?_
            refine va_get (D := D) (ci := 7) (v := .ref (ma 1)) (C := RX7) (T := TX7) (N := 11) hx hb hts (by decide +kernel) hown hK.1 hP 0 rfl rfl 0 (by decide) (hts (.fieldLink RX7 7 "ParkingGarageModel" "s" "[I") (by decide +kernel)) (fun _ h9 => h9) rfl dX7_minutesLeft_54 ?_
            refine lv_iconst (v := 0) hx hb dX7_minutesLeft_57 (by decide) ?_
            refine iald_n (f := enc g lf) hx hb hK.1 hP 1 0 rfl rfl (0) (rfl) (by decide) (by omega) dX7_minutesLeft_58 ?_
            rw [show enc g lf (0) = g 0 0 from rfl]
            refine lv_iload hx hb dX7_minutesLeft_59 (lv_at hl 0 rfl) ?_
            refine lv_iadd hx hb dX7_minutesLeft_61 ?_
            refine lv_iconst (v := 1) hx hb dX7_minutesLeft_62 (by decide) ?_
            refine lv_iadd hx hb dX7_minutesLeft_63 ?_
            rw [show ((((g 0 0) + (nI i)) + (1)) : Int32) = g 0 0 + nI (i + 1) from i_add_n1]
            refine cv_i (As := [.int (nI k), .int (g 0 0 + nI (i + 1))]) (rest := []) (tys := TYS cI cC cB cS) (ci := 7) ⟨hx, hb, hml, hown, hts⟩ (c_X7_feeAt l D cI cC cB cS (ma) (fi) (wd) (g) (lf) (n) (q) (tn) (tu) (k) (g 0 0 + nI (i + 1)) (hnb) (hqc) (ht) (htb) (htu) (hu) (hub) (huu) (hu0) (hits) (hen) (by omega) ((nn_add hT0 (by omega)))) (cwV 2 hts gX7_minutesLeft_X7_feeAt rfl rfl rfl (by decide +kernel) ⟨Nat.le_of_ble_eq_true rfl, Nat.le_of_ble_eq_true rfl⟩) hK hP [0, 1] rfl rfl rfl rfl rfl hl.1 (Nat.le_of_ble_eq_true rfl) dX7_minutesLeft_64 ⟨Nat.le_of_ble_eq_true rfl, Nat.le_of_ble_eq_true rfl⟩ (fun r_7 hr_7 => ?_)
            have hr_7 : aFeeAt g q tn tu k (g 0 0 + nI (i + 1)) r_7 := hr_7
            refine lv_iload_n hx hb dX7_minutesLeft_67 rfl (lv_at hl 1 rfl) ?_
            refine lv_icmp_gt (tgt := 77) hx hb dX7_minutesLeft_68 (by decide) (fun c_8 => ?_) (fun c_8 => ?_)
            · -- c_8: r_7 > r_5
              refine lv_iload hx hb dX7_minutesLeft_77 (lv_at hl 0 rfl) ?_
              exact rd_iret (v := nI i) hx hb hr hlocks dX7_minutesLeft_79 (Or.inl ⟨h_2, Or.inl ⟨k, hk, hPk, hNk, Exists.intro r_5 ⟨hr_5, i, hi, rfl, hm, fun _ => Exists.intro _ ⟨hr_7, c_8⟩⟩⟩⟩)
            · -- c_8: not r_7 > r_5
              refine lv_iinc (v := nI (i + 1)) (lv' := [(4, .int (nI (i + 1))), (3, .int (r_5)), (2, .int (nI k)), (0, .ref (ma 0)), (1, .int (x))]) hx hb dX7_minutesLeft_71 hl (k := 0) rfl (nI_1 _) (by decide) rfl (fun ls hl => ?_)
              refine lv_goto (tgt := 43) hx hb dX7_minutesLeft_74 (by decide) ?_
              exact ih (i + 1) (by omega) (by omega) (by
      intro j h1 h2
      rcases Nat.lt_or_ge i j with z | z
      · have e9 : j = i + 1 := by omega
        subst e9
        exact Exists.intro _ ⟨hr_7, Int32.not_lt.mp c_8⟩
      · exact hm j h1 z) ls (lv_sub hl [0, 1, 2, 3, 4] rfl)
      exact hloop (1440 + 1) 0 (by omega) (by omega) (fun j h1 h2 => absurd h1 (by omega)) ls (lv_sub hl [0, 1, 2, 3, 4] rfl)
    · -- c_4: not r_3 ≠ -9
      refine lv_bipush (v := -9) hx hb dX7_minutesLeft_25 (by decide) ?_
      exact rd_iret (v := -9) hx hb hr hlocks dX7_minutesLeft_27 (Or.inl ⟨h_2, Or.inr ⟨Fst.no9 (by omega) hr_3 c_4, rfl⟩⟩)
  · -- X7_in f
    refine if_ne_f (tgt := 13) hx hb rfl dX7_minutesLeft_8 (by decide) ?_
    refine lv_iconst (v := -1) hx hb dX7_minutesLeft_11 (by decide) ?_
    exact rd_iret (v := -1) hx hb hr hlocks dX7_minutesLeft_12 (Or.inr ⟨fun q => h_2 q, rfl⟩)
set_option maxHeartbeats 4000000 in
set_option maxRecDepth 100000 in
theorem c_X7_freeFor (l : Launch) (D : va_G) (cI cC cB cS : ClassId) (ma : Nat → Nat) (fi : Nat → Int32) (wd : Int64) (g : Nat → Nat → Int32) (lf : Int32) (n : Nat) (q : Nat) (x : Int32) (hn : g 3 0 = nI n) (hnb : n ≤ 30) (hq : g 12 0 = nI q) (hqc : q ≤ 16) (hst : ∀ w, w < q → 0 ≤ g 18 w) (htm : g 0 0 < 30000) : Met l yX7_freeFor wsX7_freeFor ({ frames := 4, cells := 0, slots := 0, locals := 86 } : Room) (rdPc D (TYS cI cC cB cS) [.ref (ma 0), .int (x)] ([mO ma fi wd, (ma 1, iE cI 382 (enc g lf))])) (vp_Si (fun r => aFreeFor g n q x r)) 0 0 (fun _ => False) := by
  refine rd_intro (by decide) rfl (Nat.le_of_ble_eq_true rfl) ?_
  intro p e s m below meth c hx hb hr hml hts hown hlocks hP hK ls hl
  have hP : va_P D vwCl [(ma 0, oE 7 [.ref (ma 1), .ref (ma 2), .int (fi 0), .ref (ma 3), .ref (ma 4), .int (fi 1), .int (fi 2), .int (fi 3), .long (wd), .int (fi 4), .int (fi 5)]), (ma 1, iE cI 382 (enc g lf))] s.heap := hP
  have hown : s.vm.findClass RX7 = some m.cls := hown
  have hl : lv_has ls 6 [(0, .ref (ma 0)), (1, .int (x))] := hl
  refine lv_aload_n hx hb dX7_freeFor_0 rfl (lv_at hl 0 rfl) ?_
  refine lv_iload_n hx hb dX7_freeFor_1 rfl (lv_at hl 1 rfl) ?_
  refine cv_i (As := [.int (x)]) (rest := []) (tys := TYS cI cC cB cS) (ci := 7) ⟨hx, hb, hml, hown, hts⟩ (c_X7_isBay l D cI cC cB cS (ma) (fi) (wd) (g) (lf) (n) (x) (hn) (hnb)) (cwV 1 hts gX7_freeFor_X7_isBay rfl rfl rfl (by decide +kernel) ⟨Nat.le_of_ble_eq_true rfl, Nat.le_of_ble_eq_true rfl⟩) hK hP [0, 1] rfl rfl rfl rfl rfl hl.1 (Nat.le_of_ble_eq_true rfl) dX7_freeFor_2 ⟨Nat.le_of_ble_eq_true rfl, Nat.le_of_ble_eq_true rfl⟩ (fun r_1 hr_1 => ?_)
  rcases (show Yes (∃ w, w < n ∧ x = nI w) r_1 from hr_1) with ⟨rfl, h_2⟩ | ⟨rfl, h_2⟩
  · -- X7_isBay t
    refine if_ne_t (tgt := 10) hx hb (by decide) dX7_freeFor_5 (by decide) ?_
    refine lv_aload_n hx hb dX7_freeFor_10 rfl (lv_at hl 0 rfl) ?_
    refine lv_iload_n hx hb dX7_freeFor_11 rfl (lv_at hl 1 rfl) ?_
    refine cv_i (As := [.int (x)]) (rest := []) (tys := TYS cI cC cB cS) (ci := 7) ⟨hx, hb, hml, hown, hts⟩ (c_X7_holder l D cI cC cB cS (ma) (fi) (wd) (g) (lf) (q) (x) (hq) (hqc) (hst) (htm)) (cwV 1 hts gX7_freeFor_X7_holder rfl rfl rfl (by decide +kernel) ⟨Nat.le_of_ble_eq_true rfl, Nat.le_of_ble_eq_true rfl⟩) hK hP [0, 1] rfl rfl rfl rfl rfl hl.1 (Nat.le_of_ble_eq_true rfl) dX7_freeFor_12 ⟨Nat.le_of_ble_eq_true rfl, Nat.le_of_ble_eq_true rfl⟩ (fun r_3 hr_3 => ?_)
    have hr_3 : Fst (fun w => HeldB (g 14) (g 18) (g 15) (g 16) (g 0 0) (g 0 0 + 1) (g 1 1) (x) w) q r_3 := hr_3
    refine lv_bipush (v := -9) hx hb dX7_freeFor_15 (by decide) ?_
    refine lv_icmp_eq (tgt := 22) hx hb dX7_freeFor_17 (by decide) (fun c_4 => ?_) (fun c_4 => ?_)
    · -- c_4: r_3 = -9
      refine lv_bipush (v := -9) hx hb dX7_freeFor_22 (by decide) ?_
      refine lv_istore_n (lv' := [(2, .int (-9)), (0, .ref (ma 0)), (1, .int (x))]) hx hb dX7_freeFor_24 rfl hl (by decide) rfl (fun ls hl => ?_)
      refine lv_iconst (v := 0) hx hb dX7_freeFor_25 (by decide) ?_
      refine lv_istore_n (lv' := [(3, .int (0)), (2, .int (-9)), (0, .ref (ma 0)), (1, .int (x))]) hx hb dX7_freeFor_26 rfl hl (by decide) rfl (fun ls hl => ?_)
      have hloop : ∀ (d i : Nat) (z : Int32), i ≤ q → q - i < d → (Wlk (-9) (Imp (fun j z => g 14 j = x ∧ Alv (g 18) j ∧ 0 < g 15 j - g 1 1 - g 0 0 ∧ (z = -9 ∨ g 15 j - g 1 1 - g 0 0 < z)) (fun j => g 15 j - g 1 1 - g 0 0)) i z) → ∀ ls : Array Slot, lv_has ls 6 [(2, .int (z)), (3, .int (nI i)), (0, .ref (ma 0)), (1, .int (x))] → W p l e ({ frames := 4, cells := 0, slots := 0, locals := 86 } : Room) s m (([.ref (ma 0), .int (x)] : List Value).toArray) below meth c s.heap [] 0 0 (MQ below (vp_Si (fun r => aFreeFor g n q x r)) (([.ref (ma 0), .int (x)] : List Value).toArray) s 0 0 (fun _ => False)) (F0 m 27 ls []) := by
        intro d
        induction d with
        | zero => intro i _ _ h2; exact absurd h2 (Nat.not_lt_zero _)
        | succ d ih =>
          intro i z hi hd hw ls hl
          refine lv_iload_n hx hb dX7_freeFor_27 rfl (lv_at hl 1 rfl) ?_
          refine lv_aload_n hx hb dX7_freeFor_28 rfl (lv_at hl 2 rfl) ?_
          refine va_get (D := D) (ci := 7) (v := .ref (ma 1)) (C := RX7) (T := TX7) (N := 11) hx hb hts (by decide +kernel) hown hK.1 hP 0 rfl rfl 0 (by decide) (hts (.fieldLink RX7 7 "ParkingGarageModel" "s" "[I") (by decide +kernel)) (fun _ h9 => h9) rfl dX7_freeFor_29 ?_
          refine lv_iconst (v := 2) hx hb dX7_freeFor_32 (by decide) ?_
          refine iald_n (f := enc g lf) hx hb hK.1 hP 1 0 rfl rfl (2) (rfl) (by decide) (by omega) dX7_freeFor_33 ?_
          rw [show enc g lf (2) = nI q from hq]
          refine lv_icmp_ge (tgt := 116) hx hb dX7_freeFor_34 (by decide) (fun c_5 => ?_) (fun c_5 => ?_)
          · -- c_5: nI i ≥ nI q
            have hge : i = q := nI_geD (n := q) rfl hi (by omega) c_5
            refine lv_iload_n hx hb dX7_freeFor_116 rfl (lv_at hl 0 rfl) ?_
            exact rd_iret (v := z) hx hb hr hlocks dX7_freeFor_117 (Or.inl ⟨h_2, Or.inr ⟨m9_nof (by omega) hr_3 c_4, by rw [hge] at hw; exact hw⟩⟩)
          · -- c_5: not nI i ≥ nI q
            have hlt : i < q := nI_ltD (n := q) rfl hi (by omega) c_5
            refine lv_aload_n hx hb dX7_freeFor_37 rfl (lv_at hl 2 rfl) ?_
            refine lv_aload_n hx hb dX7_freeFor_38 rfl (lv_at hl 2 rfl) ?_
            refine lv_iload_n hx hb dX7_freeFor_39 rfl (lv_at hl 1 rfl) ?_
            refine lv_iconst (v := 2) hx hb dX7_freeFor_40 (by decide) ?_
            refine cv_i (As := [.int (nI i), .int (2)]) (rest := [.ref (ma 0)]) (tys := TYS cI cC cB cS) (ci := 7) ⟨hx, hb, hml, hown, hts⟩ (c_X7_about l D cI cC cB cS (ma) (fi) (wd) (g) (lf) (i) (2) (by omega) (by omega)) (cwV 2 hts gX7_freeFor_X7_about rfl rfl rfl (by decide +kernel) ⟨Nat.le_of_ble_eq_true rfl, Nat.le_of_ble_eq_true rfl⟩) hK hP [0, 1] rfl rfl rfl rfl rfl hl.1 (Nat.le_of_ble_eq_true rfl) dX7_freeFor_41 ⟨Nat.le_of_ble_eq_true rfl, Nat.le_of_ble_eq_true rfl⟩ (fun r_6 hr_6 => ?_)
            have hr_6 : r_6 = g 15 i := hr_6
            subst hr_6
            refine cv_i (As := [.int (g 15 i)]) (rest := []) (tys := TYS cI cC cB cS) (ci := 7) ⟨hx, hb, hml, hown, hts⟩ (c_X7_holdsFrom l D cI cC cB cS (ma) (fi) (wd) (g) (lf) (g 15 i)) (cwV 1 hts gX7_freeFor_X7_holdsFrom rfl rfl rfl (by decide +kernel) ⟨Nat.le_of_ble_eq_true rfl, Nat.le_of_ble_eq_true rfl⟩) hK hP [0, 1] rfl rfl rfl rfl rfl hl.1 (Nat.le_of_ble_eq_true rfl) dX7_freeFor_44 ⟨Nat.le_of_ble_eq_true rfl, Nat.le_of_ble_eq_true rfl⟩ (fun r_7 hr_7 => ?_)
            have hr_7 : r_7 = g 15 i - g 1 1 := hr_7
            subst hr_7
            refine lv_aload_n hx hb dX7_freeFor_47 rfl (lv_at hl 2 rfl) ?_
            refine va_get (D := D) (ci := 7) (v := .ref (ma 1)) (C := RX7) (T := TX7) (N := 11) hx hb hts (by decide +kernel) hown hK.1 hP 0 rfl rfl 0 (by decide) (hts (.fieldLink RX7 7 "ParkingGarageModel" "s" "[I") (by decide +kernel)) (fun _ h9 => h9) rfl dX7_freeFor_48 ?_
            refine lv_iconst (v := 0) hx hb dX7_freeFor_51 (by decide) ?_
            refine iald_n (f := enc g lf) hx hb hK.1 hP 1 0 rfl rfl (0) (rfl) (by decide) (by omega) dX7_freeFor_52 ?_
            rw [show enc g lf (0) = g 0 0 from rfl]
            refine lv_isub hx hb dX7_freeFor_53 ?_
            refine lv_istore (lv' := [(4, .int ((g 15 i - g 1 1) - (g 0 0))), (2, .int (z)), (3, .int (nI i)), (0, .ref (ma 0)), (1, .int (x))]) hx hb dX7_freeFor_54 hl (by decide) rfl (fun ls hl => ?_)
            refine lv_aload_n hx hb dX7_freeFor_56 rfl (lv_at hl 3 rfl) ?_
            refine lv_iload_n hx hb dX7_freeFor_57 rfl (lv_at hl 2 rfl) ?_
            refine lv_iconst (v := 1) hx hb dX7_freeFor_58 (by decide) ?_
            refine cv_i (As := [.int (nI i), .int (1)]) (rest := []) (tys := TYS cI cC cB cS) (ci := 7) ⟨hx, hb, hml, hown, hts⟩ (c_X7_about l D cI cC cB cS (ma) (fi) (wd) (g) (lf) (i) (1) (by omega) (by omega)) (cwV 2 hts gX7_freeFor_X7_about rfl rfl rfl (by decide +kernel) ⟨Nat.le_of_ble_eq_true rfl, Nat.le_of_ble_eq_true rfl⟩) hK hP [0, 1] rfl rfl rfl rfl rfl hl.1 (Nat.le_of_ble_eq_true rfl) dX7_freeFor_59 ⟨Nat.le_of_ble_eq_true rfl, Nat.le_of_ble_eq_true rfl⟩ (fun r_8 hr_8 => ?_)
            have hr_8 : r_8 = g 14 i := hr_8
            subst hr_8
            refine lv_iload_n hx hb dX7_freeFor_62 rfl (lv_at hl 4 rfl) ?_
            refine lv_icmp_ne (tgt := 83) hx hb dX7_freeFor_63 (by decide) (fun c_9 => ?_) (fun c_9 => ?_)
            · -- c_9: g 14 i ≠ x
              refine lv_iconst (v := 0) hx hb dX7_freeFor_83 (by decide) ?_
              refine lv_istore (lv' := [(5, .int (0)), (4, .int ((g 15 i - g 1 1) - (g 0 0))), (2, .int (z)), (3, .int (nI i)), (0, .ref (ma 0)), (1, .int (x))]) hx hb dX7_freeFor_84 hl (by decide) rfl (fun ls hl => ?_)
              refine lv_iload hx hb dX7_freeFor_86 (lv_at hl 0 rfl) ?_
              refine if_eq_t (tgt := 108) hx hb rfl dX7_freeFor_88 (by decide) ?_
              refine lv_iload_n hx hb dX7_freeFor_108 rfl (lv_at hl 2 rfl) ?_
              refine lv_istore_n (lv' := [(2, .int (z)), (5, .int (0)), (4, .int ((g 15 i - g 1 1) - (g 0 0))), (3, .int (nI i)), (0, .ref (ma 0)), (1, .int (x))]) hx hb dX7_freeFor_109 rfl hl (by decide) rfl (fun ls hl => ?_)
              refine lv_iinc (v := nI (i + 1)) (lv' := [(3, .int (nI (i + 1))), (2, .int (z)), (5, .int (0)), (4, .int ((g 15 i - g 1 1) - (g 0 0))), (0, .ref (ma 0)), (1, .int (x))]) hx hb dX7_freeFor_110 hl (k := 3) rfl (nI_1 _) (by decide) rfl (fun ls hl => ?_)
              refine lv_goto (tgt := 27) hx hb dX7_freeFor_113 (by decide) ?_
              exact ih (i + 1) (z) (by omega) (by omega) (hw.s (Imp.no (fun q => c_9 q.1))) ls (lv_sub hl [1, 0, 4, 5] rfl)
            · -- c_9: not g 14 i ≠ x
              refine lv_aload_n hx hb dX7_freeFor_66 rfl (lv_at hl 3 rfl) ?_
              refine lv_iload_n hx hb dX7_freeFor_67 rfl (lv_at hl 2 rfl) ?_
              refine cv_i (As := [.int (nI i)]) (rest := []) (tys := TYS cI cC cB cS) (ci := 7) ⟨hx, hb, hml, hown, hts⟩ (c_X7_isAlive l D cI cC cB cS (ma) (fi) (wd) (g) (lf) (i) (by omega) (hst _ (by omega))) (cwV 1 hts gX7_freeFor_X7_isAlive rfl rfl rfl (by decide +kernel) ⟨Nat.le_of_ble_eq_true rfl, Nat.le_of_ble_eq_true rfl⟩) hK hP [0, 1] rfl rfl rfl rfl rfl hl.1 (Nat.le_of_ble_eq_true rfl) dX7_freeFor_68 ⟨Nat.le_of_ble_eq_true rfl, Nat.le_of_ble_eq_true rfl⟩ (fun r_10 hr_10 => ?_)
              rcases (show Yes (Alv (g 18) i) r_10 from hr_10) with ⟨rfl, h_11⟩ | ⟨rfl, h_11⟩
              · -- X7_isAlive t
                refine if_eq_f (tgt := 83) hx hb (by decide) dX7_freeFor_71 (by decide) ?_
                refine lv_iload hx hb dX7_freeFor_74 (lv_at hl 0 rfl) ?_
                refine lv_if_le (tgt := 83) hx hb dX7_freeFor_76 (by decide) (fun c_12 => ?_) (fun c_12 => ?_)
                · -- c_12: (g 15 i - g 1 1) - (g 0 0) ≤ 0
                  refine lv_iconst (v := 0) hx hb dX7_freeFor_83 (by decide) ?_
                  refine lv_istore (lv' := [(5, .int (0)), (4, .int ((g 15 i - g 1 1) - (g 0 0))), (2, .int (z)), (3, .int (nI i)), (0, .ref (ma 0)), (1, .int (x))]) hx hb dX7_freeFor_84 hl (by decide) rfl (fun ls hl => ?_)
                  refine lv_iload hx hb dX7_freeFor_86 (lv_at hl 0 rfl) ?_
                  refine if_eq_t (tgt := 108) hx hb rfl dX7_freeFor_88 (by decide) ?_
                  refine lv_iload_n hx hb dX7_freeFor_108 rfl (lv_at hl 2 rfl) ?_
                  refine lv_istore_n (lv' := [(2, .int (z)), (5, .int (0)), (4, .int ((g 15 i - g 1 1) - (g 0 0))), (3, .int (nI i)), (0, .ref (ma 0)), (1, .int (x))]) hx hb dX7_freeFor_109 rfl hl (by decide) rfl (fun ls hl => ?_)
                  refine lv_iinc (v := nI (i + 1)) (lv' := [(3, .int (nI (i + 1))), (2, .int (z)), (5, .int (0)), (4, .int ((g 15 i - g 1 1) - (g 0 0))), (0, .ref (ma 0)), (1, .int (x))]) hx hb dX7_freeFor_110 hl (k := 3) rfl (nI_1 _) (by decide) rfl (fun ls hl => ?_)
                  refine lv_goto (tgt := 27) hx hb dX7_freeFor_113 (by decide) ?_
                  exact ih (i + 1) (z) (by omega) (by omega) (hw.s (Imp.no (fun q => Int32.not_lt.mpr c_12 q.2.2.1))) ls (lv_sub hl [1, 0, 4, 5] rfl)
                · -- c_12: not (g 15 i - g 1 1) - (g 0 0) ≤ 0
                  refine lv_iconst (v := 1) hx hb dX7_freeFor_79 (by decide) ?_
                  refine lv_goto (tgt := 84) hx hb dX7_freeFor_80 (by decide) ?_
                  refine lv_istore (lv' := [(5, .int (1)), (4, .int ((g 15 i - g 1 1) - (g 0 0))), (2, .int (z)), (3, .int (nI i)), (0, .ref (ma 0)), (1, .int (x))]) hx hb dX7_freeFor_84 hl (by decide) rfl (fun ls hl => ?_)
                  refine lv_iload hx hb dX7_freeFor_86 (lv_at hl 0 rfl) ?_
                  refine if_eq_f (tgt := 108) hx hb (by decide) dX7_freeFor_88 (by decide) ?_
                  refine lv_iload_n hx hb dX7_freeFor_91 rfl (lv_at hl 2 rfl) ?_
                  refine lv_bipush (v := -9) hx hb dX7_freeFor_92 (by decide) ?_
                  refine lv_icmp_eq (tgt := 103) hx hb dX7_freeFor_94 (by decide) (fun c_13 => ?_) (fun c_13 => ?_)
                  · -- c_13: z = -9
                    refine lv_iload hx hb dX7_freeFor_103 (lv_at hl 1 rfl) ?_
                    refine lv_goto (tgt := 109) hx hb dX7_freeFor_105 (by decide) ?_
                    refine lv_istore_n (lv' := [(2, .int ((g 15 i - g 1 1) - (g 0 0))), (5, .int (1)), (4, .int ((g 15 i - g 1 1) - (g 0 0))), (3, .int (nI i)), (0, .ref (ma 0)), (1, .int (x))]) hx hb dX7_freeFor_109 rfl hl (by decide) rfl (fun ls hl => ?_)
                    refine lv_iinc (v := nI (i + 1)) (lv' := [(3, .int (nI (i + 1))), (2, .int ((g 15 i - g 1 1) - (g 0 0))), (5, .int (1)), (4, .int ((g 15 i - g 1 1) - (g 0 0))), (0, .ref (ma 0)), (1, .int (x))]) hx hb dX7_freeFor_110 hl (k := 3) rfl (nI_1 _) (by decide) rfl (fun ls hl => ?_)
                    refine lv_goto (tgt := 27) hx hb dX7_freeFor_113 (by decide) ?_
                    exact ih (i + 1) ((g 15 i - g 1 1) - (g 0 0)) (by omega) (by omega) (hw.s (Imp.yes ⟨c_9, h_11, Int32.not_le.mp c_12, Or.inl c_13⟩)) ls (lv_sub hl [1, 0, 4, 5] rfl)
                  · -- c_13: not z = -9
                    refine lv_iload hx hb dX7_freeFor_97 (lv_at hl 1 rfl) ?_
                    refine lv_iload_n hx hb dX7_freeFor_99 rfl (lv_at hl 2 rfl) ?_
                    refine lv_icmp_ge (tgt := 108) hx hb dX7_freeFor_100 (by decide) (fun c_14 => ?_) (fun c_14 => ?_)
                    · -- c_14: (g 15 i - g 1 1) - (g 0 0) ≥ z
                      refine lv_iload_n hx hb dX7_freeFor_108 rfl (lv_at hl 2 rfl) ?_
                      refine lv_istore_n (lv' := [(2, .int (z)), (5, .int (1)), (4, .int ((g 15 i - g 1 1) - (g 0 0))), (3, .int (nI i)), (0, .ref (ma 0)), (1, .int (x))]) hx hb dX7_freeFor_109 rfl hl (by decide) rfl (fun ls hl => ?_)
                      refine lv_iinc (v := nI (i + 1)) (lv' := [(3, .int (nI (i + 1))), (2, .int (z)), (5, .int (1)), (4, .int ((g 15 i - g 1 1) - (g 0 0))), (0, .ref (ma 0)), (1, .int (x))]) hx hb dX7_freeFor_110 hl (k := 3) rfl (nI_1 _) (by decide) rfl (fun ls hl => ?_)
                      refine lv_goto (tgt := 27) hx hb dX7_freeFor_113 (by decide) ?_
                      exact ih (i + 1) (z) (by omega) (by omega) (hw.s (Imp.no (fun q => q.2.2.2.elim c_13 (Int32.not_lt.mpr c_14)))) ls (lv_sub hl [1, 0, 4, 5] rfl)
                    · -- c_14: not (g 15 i - g 1 1) - (g 0 0) ≥ z
                      refine lv_iload hx hb dX7_freeFor_103 (lv_at hl 1 rfl) ?_
                      refine lv_goto (tgt := 109) hx hb dX7_freeFor_105 (by decide) ?_
                      refine lv_istore_n (lv' := [(2, .int ((g 15 i - g 1 1) - (g 0 0))), (5, .int (1)), (4, .int ((g 15 i - g 1 1) - (g 0 0))), (3, .int (nI i)), (0, .ref (ma 0)), (1, .int (x))]) hx hb dX7_freeFor_109 rfl hl (by decide) rfl (fun ls hl => ?_)
                      refine lv_iinc (v := nI (i + 1)) (lv' := [(3, .int (nI (i + 1))), (2, .int ((g 15 i - g 1 1) - (g 0 0))), (5, .int (1)), (4, .int ((g 15 i - g 1 1) - (g 0 0))), (0, .ref (ma 0)), (1, .int (x))]) hx hb dX7_freeFor_110 hl (k := 3) rfl (nI_1 _) (by decide) rfl (fun ls hl => ?_)
                      refine lv_goto (tgt := 27) hx hb dX7_freeFor_113 (by decide) ?_
                      exact ih (i + 1) ((g 15 i - g 1 1) - (g 0 0)) (by omega) (by omega) (hw.s (Imp.yes ⟨c_9, h_11, Int32.not_le.mp c_12, Or.inr (Int32.not_le.mp c_14)⟩)) ls (lv_sub hl [1, 0, 4, 5] rfl)
              · -- X7_isAlive f
                refine if_eq_t (tgt := 83) hx hb rfl dX7_freeFor_71 (by decide) ?_
                refine lv_iconst (v := 0) hx hb dX7_freeFor_83 (by decide) ?_
                refine lv_istore (lv' := [(5, .int (0)), (4, .int ((g 15 i - g 1 1) - (g 0 0))), (2, .int (z)), (3, .int (nI i)), (0, .ref (ma 0)), (1, .int (x))]) hx hb dX7_freeFor_84 hl (by decide) rfl (fun ls hl => ?_)
                refine lv_iload hx hb dX7_freeFor_86 (lv_at hl 0 rfl) ?_
                refine if_eq_t (tgt := 108) hx hb rfl dX7_freeFor_88 (by decide) ?_
                refine lv_iload_n hx hb dX7_freeFor_108 rfl (lv_at hl 2 rfl) ?_
                refine lv_istore_n (lv' := [(2, .int (z)), (5, .int (0)), (4, .int ((g 15 i - g 1 1) - (g 0 0))), (3, .int (nI i)), (0, .ref (ma 0)), (1, .int (x))]) hx hb dX7_freeFor_109 rfl hl (by decide) rfl (fun ls hl => ?_)
                refine lv_iinc (v := nI (i + 1)) (lv' := [(3, .int (nI (i + 1))), (2, .int (z)), (5, .int (0)), (4, .int ((g 15 i - g 1 1) - (g 0 0))), (0, .ref (ma 0)), (1, .int (x))]) hx hb dX7_freeFor_110 hl (k := 3) rfl (nI_1 _) (by decide) rfl (fun ls hl => ?_)
                refine lv_goto (tgt := 27) hx hb dX7_freeFor_113 (by decide) ?_
                exact ih (i + 1) (z) (by omega) (by omega) (hw.s (Imp.no (fun q => h_11 q.2.1))) ls (lv_sub hl [1, 0, 4, 5] rfl)
      exact hloop (q + 1) 0 (-9) (by omega) (by omega) (rfl) ls (lv_sub hl [1, 0, 2, 3] rfl)
    · -- c_4: not r_3 = -9
      refine lv_iconst (v := 0) hx hb dX7_freeFor_20 (by decide) ?_
      exact rd_iret (v := 0) hx hb hr hlocks dX7_freeFor_21 (Or.inl ⟨h_2, Or.inl ⟨m9_isf hr_3 c_4, rfl⟩⟩)
  · -- X7_isBay f
    refine if_ne_f (tgt := 10) hx hb rfl dX7_freeFor_5 (by decide) ?_
    refine lv_iconst (v := -1) hx hb dX7_freeFor_8 (by decide) ?_
    exact rd_iret (v := -1) hx hb hr hlocks dX7_freeFor_9 (Or.inr ⟨fun q => h_2 q, rfl⟩)
set_option maxHeartbeats 4000000 in
set_option maxRecDepth 100000 in
theorem c_X7_earliest (l : Launch) (D : va_G) (cI cC cB cS : ClassId) (ma : Nat → Nat) (fi : Nat → Int32) (wd : Int64) (g : Nat → Nat → Int32) (lf : Int32) (n : Nat) (q : Nat) (T : Nat) (sz : Int32) (mi : Int32) (hn : g 3 0 = nI n) (hnb : n ≤ 30) (hq : g 12 0 = nI q) (hqc : q ≤ 16) (hst : ∀ w, w < q → 0 ≤ g 18 w) (hT0 : g 0 0 = nI T) (hT0b : T ≤ 20000) : Met l yX7_earliest wsX7_earliest ({ frames := 4, cells := 0, slots := 0, locals := 94 } : Room) (rdPc D (TYS cI cC cB cS) [.ref (ma 0), .int (sz), .int (mi)] ([mO ma fi wd, (ma 1, iE cI 382 (enc g lf))])) (vp_Si (fun r => mEarliest g n q sz mi T r)) 0 0 (fun _ => False) := by
  refine rd_intro (by decide) rfl (Nat.le_of_ble_eq_true rfl) ?_
  intro p e s m below meth c hx hb hr hml hts hown hlocks hP hK ls hl
  have hP : va_P D vwCl [(ma 0, oE 7 [.ref (ma 1), .ref (ma 2), .int (fi 0), .ref (ma 3), .ref (ma 4), .int (fi 1), .int (fi 2), .int (fi 3), .long (wd), .int (fi 4), .int (fi 5)]), (ma 1, iE cI 382 (enc g lf))] s.heap := hP
  have hown : s.vm.findClass RX7 = some m.cls := hown
  have hl : lv_has ls 5 [(0, .ref (ma 0)), (1, .int (sz)), (2, .int (mi))] := hl
  refine lv_iload_n hx hb dX7_earliest_0 rfl (lv_at hl 1 rfl) ?_
  refine lv_iconst (v := 0) hx hb dX7_earliest_1 (by decide) ?_
  refine lv_iconst (v := 2) hx hb dX7_earliest_2 (by decide) ?_
  refine cs_i (As := [.int (sz), .int (0), .int (2)]) (rest := []) (tys := TYS cI cC cB cS) ⟨hx, hb, hml, hown, hts⟩ (c_X7_in l D cI cC cB cS (sz) (0) (2)) (va_cwS 3 hts gX7_earliest_X7_in rfl rfl rfl (by decide +kernel) ⟨Nat.le_of_ble_eq_true rfl, Nat.le_of_ble_eq_true rfl⟩) hK hP [] rfl rfl rfl hl.1 (Nat.le_of_ble_eq_true rfl) dX7_earliest_3 ⟨Nat.le_of_ble_eq_true rfl, Nat.le_of_ble_eq_true rfl⟩ (fun r_1 hr_1 => ?_)
  rcases (show Yes (0 ≤ sz ∧ sz ≤ 2) r_1 from hr_1) with ⟨rfl, h_2⟩ | ⟨rfl, h_2⟩
  · -- X7_in t
    refine if_eq_f (tgt := 20) hx hb (by decide) dX7_earliest_6 (by decide) ?_
    refine lv_iload_n hx hb dX7_earliest_9 rfl (lv_at hl 2 rfl) ?_
    refine lv_iconst (v := 1) hx hb dX7_earliest_10 (by decide) ?_
    refine lv_sipush (v := 1440) hx hb dX7_earliest_11 (by decide) ?_
    refine cs_i (As := [.int (mi), .int (1), .int (1440)]) (rest := []) (tys := TYS cI cC cB cS) ⟨hx, hb, hml, hown, hts⟩ (c_X7_in l D cI cC cB cS (mi) (1) (1440)) (va_cwS 3 hts gX7_earliest_X7_in rfl rfl rfl (by decide +kernel) ⟨Nat.le_of_ble_eq_true rfl, Nat.le_of_ble_eq_true rfl⟩) hK hP [] rfl rfl rfl hl.1 (Nat.le_of_ble_eq_true rfl) dX7_earliest_14 ⟨Nat.le_of_ble_eq_true rfl, Nat.le_of_ble_eq_true rfl⟩ (fun r_3 hr_3 => ?_)
    rcases (show Yes (1 ≤ mi ∧ mi ≤ 1440) r_3 from hr_3) with ⟨rfl, h_4⟩ | ⟨rfl, h_4⟩
    · -- X7_in t
      refine if_ne_t (tgt := 22) hx hb (by decide) dX7_earliest_17 (by decide) ?_
      refine lv_sipush (v := 20000) hx hb dX7_earliest_22 (by decide) ?_
      refine lv_aload_n hx hb dX7_earliest_25 rfl (lv_at hl 0 rfl) ?_
      refine va_get (D := D) (ci := 7) (v := .ref (ma 1)) (C := RX7) (T := TX7) (N := 11) hx hb hts (by decide +kernel) hown hK.1 hP 0 rfl rfl 0 (by decide) (hts (.fieldLink RX7 7 "ParkingGarageModel" "s" "[I") (by decide +kernel)) (fun _ h9 => h9) rfl dX7_earliest_26 ?_
      refine lv_iconst (v := 0) hx hb dX7_earliest_29 (by decide) ?_
      refine iald_n (f := enc g lf) hx hb hK.1 hP 1 0 rfl rfl (0) (rfl) (by decide) (by omega) dX7_earliest_30 ?_
      rw [show enc g lf (0) = g 0 0 from rfl]
      refine lv_sipush (v := 1440) hx hb dX7_earliest_31 (by decide) ?_
      refine lv_iadd hx hb dX7_earliest_34 ?_
      refine cs_i (As := [.int (20000), .int ((g 0 0) + (1440))]) (rest := []) (tys := TYS cI cC cB cS) ⟨hx, hb, hml, hown, hts⟩ (c_X7_lesser l D cI cC cB cS (20000) ((g 0 0) + (1440))) (va_cwS 2 hts gX7_earliest_X7_lesser rfl rfl rfl (by decide +kernel) ⟨Nat.le_of_ble_eq_true rfl, Nat.le_of_ble_eq_true rfl⟩) hK hP [] rfl rfl rfl hl.1 (Nat.le_of_ble_eq_true rfl) dX7_earliest_35 ⟨Nat.le_of_ble_eq_true rfl, Nat.le_of_ble_eq_true rfl⟩ (fun r_5 hr_5 => ?_)
      have hr_5 : r_5 = if 20000 < (g 0 0) + (1440) then 20000 else (g 0 0) + (1440) := hr_5
      subst hr_5
      rw [last_of hT0 hT0b]
      refine lv_istore_n (lv' := [(3, .int (nI (min 20000 (T + 1440)))), (0, .ref (ma 0)), (1, .int (sz)), (2, .int (mi))]) hx hb dX7_earliest_38 rfl hl (by decide) rfl (fun ls hl => ?_)
      refine lv_aload_n hx hb dX7_earliest_39 rfl (lv_at hl 1 rfl) ?_
      refine va_get (D := D) (ci := 7) (v := .ref (ma 1)) (C := RX7) (T := TX7) (N := 11) hx hb hts (by decide +kernel) hown hK.1 hP 0 rfl rfl 0 (by decide) (hts (.fieldLink RX7 7 "ParkingGarageModel" "s" "[I") (by decide +kernel)) (fun _ h9 => h9) rfl dX7_earliest_40 ?_
      refine lv_iconst (v := 0) hx hb dX7_earliest_43 (by decide) ?_
      refine iald_n (f := enc g lf) hx hb hK.1 hP 1 0 rfl rfl (0) (rfl) (by decide) (by omega) dX7_earliest_44 ?_
      rw [show enc g lf (0) = g 0 0 from rfl]
      rw [hT0]
      refine lv_istore (lv' := [(4, .int (nI T)), (3, .int (nI (min 20000 (T + 1440)))), (0, .ref (ma 0)), (1, .int (sz)), (2, .int (mi))]) hx hb dX7_earliest_45 hl (by decide) rfl (fun ls hl => ?_)
      have hloop : ∀ (d i : Nat), i ≤ (min 20000 (T + 1440) + 1) → (min 20000 (T + 1440) + 1) - i < d → (T ≤ i) → (∀ a, T ≤ a → a < i → ∃ z, aFor g n q sz (nI a) (nI a + mi) z ∧ z = -9) → ∀ ls : Array Slot, lv_has ls 5 [(4, .int (nI i)), (3, .int (nI (min 20000 (T + 1440)))), (0, .ref (ma 0)), (1, .int (sz)), (2, .int (mi))] → W p l e ({ frames := 4, cells := 0, slots := 0, locals := 94 } : Room) s m (([.ref (ma 0), .int (sz), .int (mi)] : List Value).toArray) below meth c s.heap [] 0 0 (MQ below (vp_Si (fun r => mEarliest g n q sz mi T r)) (([.ref (ma 0), .int (sz), .int (mi)] : List Value).toArray) s 0 0 (fun _ => False)) (F0 m 47 ls []) := by
        intro d
        induction d with
        | zero => intro i _ h2; exact absurd h2 (Nat.not_lt_zero _)
        | succ d ih =>
          intro i hi hd hTi hm ls hl
          refine lv_iload hx hb dX7_earliest_47 (lv_at hl 0 rfl) ?_
          refine lv_iload_n hx hb dX7_earliest_49 rfl (lv_at hl 1 rfl) ?_
          refine lv_icmp_gt (tgt := 89) hx hb dX7_earliest_50 (by decide) (fun c_6 => ?_) (fun c_6 => ?_)
          · -- c_6: nI i > nI (min 20000 (T + 1440))
            have hge : min 20000 (T + 1440) < i := (nI_ltI (by omega) (by omega)).mp c_6
            refine lv_bipush (v := -9) hx hb dX7_earliest_89 (by decide) ?_
            exact rd_iret (v := -9) hx hb hr hlocks dX7_earliest_91 (Or.inl ⟨⟨h_2, h_4⟩, (Classical.em (q = 16)).elim (fun z => Or.inl ⟨z, rfl⟩) (fun z => Or.inr ⟨z, Or.inr ⟨fun a h1 h2 => hm a h1 (by omega), rfl⟩⟩)⟩)
          · -- c_6: not nI i > nI (min 20000 (T + 1440))
            have hle9 : i ≤ min 20000 (T + 1440) := (nI_leI (by omega) (by omega)).mp (Int32.not_lt.mp c_6)
            refine lv_aload_n hx hb dX7_earliest_53 rfl (lv_at hl 2 rfl) ?_
            refine va_get (D := D) (ci := 7) (v := .ref (ma 1)) (C := RX7) (T := TX7) (N := 11) hx hb hts (by decide +kernel) hown hK.1 hP 0 rfl rfl 0 (by decide) (hts (.fieldLink RX7 7 "ParkingGarageModel" "s" "[I") (by decide +kernel)) (fun _ h9 => h9) rfl dX7_earliest_54 ?_
            refine lv_iconst (v := 2) hx hb dX7_earliest_57 (by decide) ?_
            refine iald_n (f := enc g lf) hx hb hK.1 hP 1 0 rfl rfl (2) (rfl) (by decide) (by omega) dX7_earliest_58 ?_
            rw [show enc g lf (2) = nI q from hq]
            refine lv_bipush (v := 16) hx hb dX7_earliest_59 (by decide) ?_
            refine lv_icmp_ge (tgt := 89) hx hb dX7_earliest_61 (by decide) (fun c_7 => ?_) (fun c_7 => ?_)
            · -- c_7: nI q ≥ 16
              refine lv_bipush (v := -9) hx hb dX7_earliest_89 (by decide) ?_
              exact rd_iret (v := -9) hx hb hr hlocks dX7_earliest_91 (Or.inl ⟨⟨h_2, h_4⟩, Or.inl ⟨by have := (nI_leI (a := 16) (by omega) (by omega)).mp c_7; omega, rfl⟩⟩)
            · -- c_7: not nI q ≥ 16
              refine lv_aload_n hx hb dX7_earliest_64 rfl (lv_at hl 2 rfl) ?_
              refine lv_iload_n hx hb dX7_earliest_65 rfl (lv_at hl 3 rfl) ?_
              refine lv_iload hx hb dX7_earliest_66 (lv_at hl 0 rfl) ?_
              refine lv_iload hx hb dX7_earliest_68 (lv_at hl 0 rfl) ?_
              refine lv_iload_n hx hb dX7_earliest_70 rfl (lv_at hl 4 rfl) ?_
              refine lv_iadd hx hb dX7_earliest_71 ?_
              refine cv_i (As := [.int (sz), .int (nI i), .int ((nI i) + (mi))]) (rest := []) (tys := TYS cI cC cB cS) (ci := 7) ⟨hx, hb, hml, hown, hts⟩ (c_X7_bayFor l D cI cC cB cS (ma) (fi) (wd) (g) (lf) (n) (q) (sz) (nI i) ((nI i) + (mi)) (hn) (hnb) (hq) (hqc) (hst)) (cwV 3 hts gX7_earliest_X7_bayFor rfl rfl rfl (by decide +kernel) ⟨Nat.le_of_ble_eq_true rfl, Nat.le_of_ble_eq_true rfl⟩) hK hP [0, 1] rfl rfl rfl rfl rfl hl.1 (Nat.le_of_ble_eq_true rfl) dX7_earliest_72 ⟨Nat.le_of_ble_eq_true rfl, Nat.le_of_ble_eq_true rfl⟩ (fun r_8 hr_8 => ?_)
              have hr_8 : aFor g n q (sz) (nI i) ((nI i) + (mi)) r_8 := hr_8
              refine lv_bipush (v := -9) hx hb dX7_earliest_75 (by decide) ?_
              refine lv_icmp_eq (tgt := 83) hx hb dX7_earliest_77 (by decide) (fun c_9 => ?_) (fun c_9 => ?_)
              · -- c_9: r_8 = -9
                refine lv_iinc (v := nI (i + 1)) (lv' := [(4, .int (nI (i + 1))), (3, .int (nI (min 20000 (T + 1440)))), (0, .ref (ma 0)), (1, .int (sz)), (2, .int (mi))]) hx hb dX7_earliest_83 hl (k := 0) rfl (nI_1 _) (by decide) rfl (fun ls hl => ?_)
                refine lv_goto (tgt := 47) hx hb dX7_earliest_86 (by decide) ?_
                exact ih (i + 1) (by omega) (by omega) (by omega) (by
      intro a h1 h2
      rcases Nat.lt_or_ge a i with z | z
      · exact hm a h1 z
      · have e9 : a = i := by omega
        subst e9
        exact Exists.intro _ ⟨hr_8, c_9⟩) ls (lv_sub hl [0, 1, 2, 3, 4] rfl)
              · -- c_9: not r_8 = -9
                refine lv_iload hx hb dX7_earliest_80 (lv_at hl 0 rfl) ?_
                exact rd_iret (v := nI i) hx hb hr hlocks dX7_earliest_82 (Or.inl ⟨⟨h_2, h_4⟩, Or.inr ⟨fun z => absurd (by rw [z]; decide) c_7, Or.inl ⟨i, hTi, by omega, ⟨_, hr_8, c_9⟩, hm, rfl⟩⟩⟩)
      exact hloop ((min 20000 (T + 1440) + 1) + 1) T (by omega) (by omega) (Nat.le_refl T) (fun a h1 h2 => absurd h1 (by omega)) ls (lv_sub hl [0, 1, 2, 3, 4] rfl)
    · -- X7_in f
      refine if_ne_f (tgt := 22) hx hb rfl dX7_earliest_17 (by decide) ?_
      refine lv_iconst (v := -1) hx hb dX7_earliest_20 (by decide) ?_
      exact rd_iret (v := -1) hx hb hr hlocks dX7_earliest_21 (Or.inr ⟨fun q => h_4 q.2, rfl⟩)
  · -- X7_in f
    refine if_eq_t (tgt := 20) hx hb rfl dX7_earliest_6 (by decide) ?_
    refine lv_iconst (v := -1) hx hb dX7_earliest_20 (by decide) ?_
    exact rd_iret (v := -1) hx hb hr hlocks dX7_earliest_21 (Or.inr ⟨fun q => h_2 q.1, rfl⟩)
set_option maxHeartbeats 4000000 in
set_option maxRecDepth 100000 in
theorem c_X7_bay (l : Launch) (D : va_G) (cI cC cB cS : ClassId) (ma : Nat → Nat) (fi : Nat → Int32) (wd : Int64) (g : Nat → Nat → Int32) (lf : Int32) (n : Nat) (q : Nat) (x : Int32) (wh : Int32) (hn : g 3 0 = nI n) (hnb : n ≤ 30) (hq : g 12 0 = nI q) (hqc : q ≤ 16) (hst : ∀ w, w < q → 0 ≤ g 18 w) (htm : g 0 0 < 30000) : Met l yX7_bay wsX7_bay ({ frames := 4, cells := 0, slots := 0, locals := 86 } : Room) (rdPc D (TYS cI cC cB cS) [.ref (ma 0), .int (x), .int (wh)] ([mO ma fi wd, (ma 1, iE cI 382 (enc g lf))])) (vp_Si (fun r => aBay g n q x wh r)) 0 0 (fun _ => False) := by
  refine rd_intro (by decide) rfl (Nat.le_of_ble_eq_true rfl) ?_
  intro p e s m below meth c hx hb hr hml hts hown hlocks hP hK ls hl
  have hP : va_P D vwCl [(ma 0, oE 7 [.ref (ma 1), .ref (ma 2), .int (fi 0), .ref (ma 3), .ref (ma 4), .int (fi 1), .int (fi 2), .int (fi 3), .long (wd), .int (fi 4), .int (fi 5)]), (ma 1, iE cI 382 (enc g lf))] s.heap := hP
  have hown : s.vm.findClass RX7 = some m.cls := hown
  have hl : lv_has ls 3 [(0, .ref (ma 0)), (1, .int (x)), (2, .int (wh))] := hl
  refine lv_aload_n hx hb dX7_bay_0 rfl (lv_at hl 0 rfl) ?_
  refine lv_iload_n hx hb dX7_bay_1 rfl (lv_at hl 1 rfl) ?_
  refine cv_i (As := [.int (x)]) (rest := []) (tys := TYS cI cC cB cS) (ci := 7) ⟨hx, hb, hml, hown, hts⟩ (c_X7_isBay l D cI cC cB cS (ma) (fi) (wd) (g) (lf) (n) (x) (hn) (hnb)) (cwV 1 hts gX7_bay_X7_isBay rfl rfl rfl (by decide +kernel) ⟨Nat.le_of_ble_eq_true rfl, Nat.le_of_ble_eq_true rfl⟩) hK hP [0, 1] rfl rfl rfl rfl rfl hl.1 (Nat.le_of_ble_eq_true rfl) dX7_bay_2 ⟨Nat.le_of_ble_eq_true rfl, Nat.le_of_ble_eq_true rfl⟩ (fun r_1 hr_1 => ?_)
  rcases (show Yes (∃ w, w < n ∧ x = nI w) r_1 from hr_1) with ⟨rfl, h_2⟩ | ⟨rfl, h_2⟩
  · -- X7_isBay t
    obtain ⟨k, hk, hbk⟩ := h_2
    have hl : lv_has ls 3 [(0, .ref (ma 0)), (1, .int (nI k)), (2, .int (wh))] := by rw [← hbk]; exact hl
    refine if_eq_f (tgt := 18) hx hb (by decide) dX7_bay_5 (by decide) ?_
    refine lv_iload_n hx hb dX7_bay_8 rfl (lv_at hl 2 rfl) ?_
    refine lv_iconst (v := 0) hx hb dX7_bay_9 (by decide) ?_
    refine lv_bipush (v := 6) hx hb dX7_bay_10 (by decide) ?_
    refine cs_i (As := [.int (wh), .int (0), .int (6)]) (rest := []) (tys := TYS cI cC cB cS) ⟨hx, hb, hml, hown, hts⟩ (c_X7_in l D cI cC cB cS (wh) (0) (6)) (va_cwS 3 hts gX7_bay_X7_in rfl rfl rfl (by decide +kernel) ⟨Nat.le_of_ble_eq_true rfl, Nat.le_of_ble_eq_true rfl⟩) hK hP [] rfl rfl rfl hl.1 (Nat.le_of_ble_eq_true rfl) dX7_bay_12 ⟨Nat.le_of_ble_eq_true rfl, Nat.le_of_ble_eq_true rfl⟩ (fun r_3 hr_3 => ?_)
    rcases (show Yes (0 ≤ wh ∧ wh ≤ 6) r_3 from hr_3) with ⟨rfl, h_4⟩ | ⟨rfl, h_4⟩
    · -- X7_in t
      obtain ⟨w, hw, hwe⟩ := wi_k (N := 6) (by omega) h_4
      rcases (show w = 0 ∨ w = 1 ∨ w = 2 ∨ w = 3 ∨ w = 4 ∨ w = 5 ∨ w = 6 by omega) with rfl | rfl | rfl | rfl | rfl | rfl | rfl
      · -- 0
        have hwe : wh = 0 := hwe
        have hl : lv_has ls 3 [(0, .ref (ma 0)), (1, .int (nI k)), (2, .int (0))] := by first | (rw [← hwe]; exact hl) | (have e := hl; rw [hwe] at e; exact e)
        refine if_ne_t (tgt := 20) hx hb (by decide) dX7_bay_15 (by decide) ?_
        refine lv_iload_n hx hb dX7_bay_20 rfl (lv_at hl 2 rfl) ?_
        refine lv_tableOut (tgt := 92) hx hb dX7_bay_21 (by decide) (by decide) ?_
        refine lv_aload_n hx hb dX7_bay_92 rfl (lv_at hl 0 rfl) ?_
        refine lv_iload_n hx hb dX7_bay_93 rfl (lv_at hl 1 rfl) ?_
        refine lv_iload_n hx hb dX7_bay_94 rfl (lv_at hl 2 rfl) ?_
        refine cv_i (As := [.int (nI k), .int (0)]) (rest := []) (tys := TYS cI cC cB cS) (ci := 7) ⟨hx, hb, hml, hown, hts⟩ (c_X7_of l D cI cC cB cS (ma) (fi) (wd) (g) (lf) (k) (0) (by omega) (by omega)) (cwV 2 hts gX7_bay_X7_of rfl rfl rfl (by decide +kernel) ⟨Nat.le_of_ble_eq_true rfl, Nat.le_of_ble_eq_true rfl⟩) hK hP [0, 1] rfl rfl rfl rfl rfl hl.1 (Nat.le_of_ble_eq_true rfl) dX7_bay_95 ⟨Nat.le_of_ble_eq_true rfl, Nat.le_of_ble_eq_true rfl⟩ (fun r_5 hr_5 => ?_)
        have hr_5 : r_5 = g 4 k := hr_5
        subst hr_5
        exact rd_iret (v := g 4 k) hx hb hr hlocks dX7_bay_98 (Or.inl ⟨k, hk, hbk, Or.inl ⟨hwe, rfl⟩⟩)
      · -- 1
        have hwe : wh = 1 := hwe
        have hl : lv_has ls 3 [(0, .ref (ma 0)), (1, .int (nI k)), (2, .int (1))] := by first | (rw [← hwe]; exact hl) | (have e := hl; rw [hwe] at e; exact e)
        refine if_ne_t (tgt := 20) hx hb (by decide) dX7_bay_15 (by decide) ?_
        refine lv_iload_n hx hb dX7_bay_20 rfl (lv_at hl 2 rfl) ?_
        refine lv_tableOut (tgt := 92) hx hb dX7_bay_21 (by decide) (by decide) ?_
        refine lv_aload_n hx hb dX7_bay_92 rfl (lv_at hl 0 rfl) ?_
        refine lv_iload_n hx hb dX7_bay_93 rfl (lv_at hl 1 rfl) ?_
        refine lv_iload_n hx hb dX7_bay_94 rfl (lv_at hl 2 rfl) ?_
        refine cv_i (As := [.int (nI k), .int (1)]) (rest := []) (tys := TYS cI cC cB cS) (ci := 7) ⟨hx, hb, hml, hown, hts⟩ (c_X7_of l D cI cC cB cS (ma) (fi) (wd) (g) (lf) (k) (1) (by omega) (by omega)) (cwV 2 hts gX7_bay_X7_of rfl rfl rfl (by decide +kernel) ⟨Nat.le_of_ble_eq_true rfl, Nat.le_of_ble_eq_true rfl⟩) hK hP [0, 1] rfl rfl rfl rfl rfl hl.1 (Nat.le_of_ble_eq_true rfl) dX7_bay_95 ⟨Nat.le_of_ble_eq_true rfl, Nat.le_of_ble_eq_true rfl⟩ (fun r_6 hr_6 => ?_)
        have hr_6 : r_6 = g 5 k := hr_6
        subst hr_6
        exact rd_iret (v := g 5 k) hx hb hr hlocks dX7_bay_98 (Or.inl ⟨k, hk, hbk, Or.inr (Or.inl ⟨hwe, rfl⟩)⟩)
      · -- 2
        have hwe : wh = 2 := hwe
        have hl : lv_has ls 3 [(0, .ref (ma 0)), (1, .int (nI k)), (2, .int (2))] := by first | (rw [← hwe]; exact hl) | (have e := hl; rw [hwe] at e; exact e)
        refine if_ne_t (tgt := 20) hx hb (by decide) dX7_bay_15 (by decide) ?_
        refine lv_iload_n hx hb dX7_bay_20 rfl (lv_at hl 2 rfl) ?_
        refine lv_tableOut (tgt := 92) hx hb dX7_bay_21 (by decide) (by decide) ?_
        refine lv_aload_n hx hb dX7_bay_92 rfl (lv_at hl 0 rfl) ?_
        refine lv_iload_n hx hb dX7_bay_93 rfl (lv_at hl 1 rfl) ?_
        refine lv_iload_n hx hb dX7_bay_94 rfl (lv_at hl 2 rfl) ?_
        refine cv_i (As := [.int (nI k), .int (2)]) (rest := []) (tys := TYS cI cC cB cS) (ci := 7) ⟨hx, hb, hml, hown, hts⟩ (c_X7_of l D cI cC cB cS (ma) (fi) (wd) (g) (lf) (k) (2) (by omega) (by omega)) (cwV 2 hts gX7_bay_X7_of rfl rfl rfl (by decide +kernel) ⟨Nat.le_of_ble_eq_true rfl, Nat.le_of_ble_eq_true rfl⟩) hK hP [0, 1] rfl rfl rfl rfl rfl hl.1 (Nat.le_of_ble_eq_true rfl) dX7_bay_95 ⟨Nat.le_of_ble_eq_true rfl, Nat.le_of_ble_eq_true rfl⟩ (fun r_7 hr_7 => ?_)
        have hr_7 : r_7 = g 6 k := hr_7
        subst hr_7
        exact rd_iret (v := g 6 k) hx hb hr hlocks dX7_bay_98 (Or.inl ⟨k, hk, hbk, Or.inr (Or.inr (Or.inl ⟨hwe, rfl⟩))⟩)
      · -- 3
        have hwe : wh = 3 := hwe
        have hl : lv_has ls 3 [(0, .ref (ma 0)), (1, .int (nI k)), (2, .int (3))] := by first | (rw [← hwe]; exact hl) | (have e := hl; rw [hwe] at e; exact e)
        refine if_ne_t (tgt := 20) hx hb (by decide) dX7_bay_15 (by decide) ?_
        refine lv_iload_n hx hb dX7_bay_20 rfl (lv_at hl 2 rfl) ?_
        refine lv_tableIn (off := 31) (tgt := 52) hx hb dX7_bay_21 (by decide) (by decide) (by decide +kernel) (by decide) ?_
        refine lv_aload_n hx hb dX7_bay_52 rfl (lv_at hl 0 rfl) ?_
        refine lv_iload_n hx hb dX7_bay_53 rfl (lv_at hl 1 rfl) ?_
        refine cv_i (As := [.int (nI k)]) (rest := []) (tys := TYS cI cC cB cS) (ci := 7) ⟨hx, hb, hml, hown, hts⟩ (c_X7_way l D cI cC cB cS (ma) (fi) (wd) (g) (lf) (k) (by omega)) (cwV 1 hts gX7_bay_X7_way rfl rfl rfl (by decide +kernel) ⟨Nat.le_of_ble_eq_true rfl, Nat.le_of_ble_eq_true rfl⟩) hK hP [0, 1] rfl rfl rfl rfl rfl hl.1 (Nat.le_of_ble_eq_true rfl) dX7_bay_54 ⟨Nat.le_of_ble_eq_true rfl, Nat.le_of_ble_eq_true rfl⟩ (fun r_8 hr_8 => ?_)
        have hr_8 : r_8 = Wy (g 4) (g 5) (g 1 0) k := hr_8
        subst hr_8
        exact rd_iret (v := Wy (g 4) (g 5) (g 1 0) k) hx hb hr hlocks dX7_bay_57 (Or.inl ⟨k, hk, hbk, Or.inr (Or.inr (Or.inr (Or.inl ⟨hwe, rfl⟩)))⟩)
      · -- 4
        have hwe : wh = 4 := hwe
        have hl : lv_has ls 3 [(0, .ref (ma 0)), (1, .int (nI k)), (2, .int (4))] := by first | (rw [← hwe]; exact hl) | (have e := hl; rw [hwe] at e; exact e)
        refine if_ne_t (tgt := 20) hx hb (by decide) dX7_bay_15 (by decide) ?_
        refine lv_iload_n hx hb dX7_bay_20 rfl (lv_at hl 2 rfl) ?_
        refine lv_tableIn (off := 37) (tgt := 58) hx hb dX7_bay_21 (by decide) (by decide) (by decide +kernel) (by decide) ?_
        refine lv_aload_n hx hb dX7_bay_58 rfl (lv_at hl 0 rfl) ?_
        refine lv_iload_n hx hb dX7_bay_59 rfl (lv_at hl 1 rfl) ?_
        refine lv_iconst (v := 3) hx hb dX7_bay_60 (by decide) ?_
        refine cv_i (As := [.int (nI k), .int (3)]) (rest := []) (tys := TYS cI cC cB cS) (ci := 7) ⟨hx, hb, hml, hown, hts⟩ (c_X7_of l D cI cC cB cS (ma) (fi) (wd) (g) (lf) (k) (3) (by omega) (by omega)) (cwV 2 hts gX7_bay_X7_of rfl rfl rfl (by decide +kernel) ⟨Nat.le_of_ble_eq_true rfl, Nat.le_of_ble_eq_true rfl⟩) hK hP [0, 1] rfl rfl rfl rfl rfl hl.1 (Nat.le_of_ble_eq_true rfl) dX7_bay_61 ⟨Nat.le_of_ble_eq_true rfl, Nat.le_of_ble_eq_true rfl⟩ (fun r_9 hr_9 => ?_)
        have hr_9 : r_9 = g 7 k := hr_9
        subst hr_9
        exact rd_iret (v := g 7 k) hx hb hr hlocks dX7_bay_64 (Or.inl ⟨k, hk, hbk, Or.inr (Or.inr (Or.inr (Or.inr (Or.inl ⟨hwe, rfl⟩))))⟩)
      · -- 5
        have hwe : wh = 5 := hwe
        have hl : lv_has ls 3 [(0, .ref (ma 0)), (1, .int (nI k)), (2, .int (5))] := by first | (rw [← hwe]; exact hl) | (have e := hl; rw [hwe] at e; exact e)
        refine if_ne_t (tgt := 20) hx hb (by decide) dX7_bay_15 (by decide) ?_
        refine lv_iload_n hx hb dX7_bay_20 rfl (lv_at hl 2 rfl) ?_
        refine lv_tableIn (off := 44) (tgt := 65) hx hb dX7_bay_21 (by decide) (by decide) (by decide +kernel) (by decide) ?_
        refine lv_aload_n hx hb dX7_bay_65 rfl (lv_at hl 0 rfl) ?_
        refine lv_iload_n hx hb dX7_bay_66 rfl (lv_at hl 1 rfl) ?_
        refine lv_iconst (v := 4) hx hb dX7_bay_67 (by decide) ?_
        refine cv_i (As := [.int (nI k), .int (4)]) (rest := []) (tys := TYS cI cC cB cS) (ci := 7) ⟨hx, hb, hml, hown, hts⟩ (c_X7_of l D cI cC cB cS (ma) (fi) (wd) (g) (lf) (k) (4) (by omega) (by omega)) (cwV 2 hts gX7_bay_X7_of rfl rfl rfl (by decide +kernel) ⟨Nat.le_of_ble_eq_true rfl, Nat.le_of_ble_eq_true rfl⟩) hK hP [0, 1] rfl rfl rfl rfl rfl hl.1 (Nat.le_of_ble_eq_true rfl) dX7_bay_68 ⟨Nat.le_of_ble_eq_true rfl, Nat.le_of_ble_eq_true rfl⟩ (fun r_10 hr_10 => ?_)
        have hr_10 : r_10 = g 8 k := hr_10
        subst hr_10
        refine lv_if_ne (tgt := 79) hx hb dX7_bay_71 (by decide) (fun c_11 => ?_) (fun c_11 => ?_)
        · -- c_11: g 8 k ≠ 0
          refine lv_aload_n hx hb dX7_bay_79 rfl (lv_at hl 0 rfl) ?_
          refine lv_iload_n hx hb dX7_bay_80 rfl (lv_at hl 1 rfl) ?_
          refine lv_iconst (v := 4) hx hb dX7_bay_81 (by decide) ?_
          refine cv_i (As := [.int (nI k), .int (4)]) (rest := []) (tys := TYS cI cC cB cS) (ci := 7) ⟨hx, hb, hml, hown, hts⟩ (c_X7_of l D cI cC cB cS (ma) (fi) (wd) (g) (lf) (k) (4) (by omega) (by omega)) (cwV 2 hts gX7_bay_X7_of rfl rfl rfl (by decide +kernel) ⟨Nat.le_of_ble_eq_true rfl, Nat.le_of_ble_eq_true rfl⟩) hK hP [0, 1] rfl rfl rfl rfl rfl hl.1 (Nat.le_of_ble_eq_true rfl) dX7_bay_82 ⟨Nat.le_of_ble_eq_true rfl, Nat.le_of_ble_eq_true rfl⟩ (fun r_12 hr_12 => ?_)
          have hr_12 : r_12 = g 8 k := hr_12
          subst hr_12
          exact rd_iret (v := g 8 k) hx hb hr hlocks dX7_bay_85 (Or.inl ⟨k, hk, hbk, Or.inr (Or.inr (Or.inr (Or.inr (Or.inr (Or.inl ⟨hwe, Or.inr ⟨c_11, rfl⟩⟩)))))⟩)
        · -- c_11: not g 8 k ≠ 0
          refine lv_bipush (v := -9) hx hb dX7_bay_74 (by decide) ?_
          refine lv_goto (tgt := 85) hx hb dX7_bay_76 (by decide) ?_
          exact rd_iret (v := -9) hx hb hr hlocks dX7_bay_85 (Or.inl ⟨k, hk, hbk, Or.inr (Or.inr (Or.inr (Or.inr (Or.inr (Or.inl ⟨hwe, Or.inl ⟨c_11, rfl⟩⟩)))))⟩)
      · -- 6
        have hwe : wh = 6 := hwe
        have hl : lv_has ls 3 [(0, .ref (ma 0)), (1, .int (nI k)), (2, .int (6))] := by first | (rw [← hwe]; exact hl) | (have e := hl; rw [hwe] at e; exact e)
        refine if_ne_t (tgt := 20) hx hb (by decide) dX7_bay_15 (by decide) ?_
        refine lv_iload_n hx hb dX7_bay_20 rfl (lv_at hl 2 rfl) ?_
        refine lv_tableIn (off := 65) (tgt := 86) hx hb dX7_bay_21 (by decide) (by decide) (by decide +kernel) (by decide) ?_
        refine lv_aload_n hx hb dX7_bay_86 rfl (lv_at hl 0 rfl) ?_
        refine lv_iload_n hx hb dX7_bay_87 rfl (lv_at hl 1 rfl) ?_
        refine cv_i (As := [.int (nI k)]) (rest := []) (tys := TYS cI cC cB cS) (ci := 7) ⟨hx, hb, hml, hown, hts⟩ (c_X7_holder l D cI cC cB cS (ma) (fi) (wd) (g) (lf) (q) (nI k) (hq) (hqc) (hst) (htm)) (cwV 1 hts gX7_bay_X7_holder rfl rfl rfl (by decide +kernel) ⟨Nat.le_of_ble_eq_true rfl, Nat.le_of_ble_eq_true rfl⟩) hK hP [0, 1] rfl rfl rfl rfl rfl hl.1 (Nat.le_of_ble_eq_true rfl) dX7_bay_88 ⟨Nat.le_of_ble_eq_true rfl, Nat.le_of_ble_eq_true rfl⟩ (fun r_13 hr_13 => ?_)
        have hr_13 : Fst (fun w => HeldB (g 14) (g 18) (g 15) (g 16) (g 0 0) (g 0 0 + 1) (g 1 1) (nI k) w) q r_13 := hr_13
        exact rd_iret (v := r_13) hx hb hr hlocks dX7_bay_91 (Or.inl ⟨k, hk, hbk, Or.inr (Or.inr (Or.inr (Or.inr (Or.inr (Or.inr (Or.inl ⟨hwe, hr_13⟩))))))⟩)
    · -- X7_in f
      refine if_ne_f (tgt := 20) hx hb rfl dX7_bay_15 (by decide) ?_
      refine lv_iconst (v := -1) hx hb dX7_bay_18 (by decide) ?_
      exact rd_iret (v := -1) hx hb hr hlocks dX7_bay_19 (Or.inl ⟨k, hk, hbk, Or.inr (Or.inr (Or.inr (Or.inr (Or.inr (Or.inr (Or.inr (⟨out_of h_4, rfl⟩)))))))⟩)
  · -- X7_isBay f
    refine if_eq_t (tgt := 18) hx hb rfl dX7_bay_5 (by decide) ?_
    refine lv_iconst (v := -1) hx hb dX7_bay_18 (by decide) ?_
    exact rd_iret (v := -1) hx hb hr hlocks dX7_bay_19 (Or.inr ⟨h_2, rfl⟩)
set_option maxHeartbeats 4000000 in
set_option maxRecDepth 100000 in
theorem c_X7_reservation (l : Launch) (D : va_G) (cI cC cB cS : ClassId) (ma : Nat → Nat) (fi : Nat → Int32) (wd : Int64) (g : Nat → Nat → Int32) (lf : Int32) (q : Nat) (x : Int32) (wh : Int32) (hq : g 12 0 = nI q) (hqc : q ≤ 16) : Met l yX7_reservation wsX7_reservation ({ frames := 2, cells := 0, slots := 0, locals := 43 } : Room) (rdPc D (TYS cI cC cB cS) [.ref (ma 0), .int (x), .int (wh)] ([mO ma fi wd, (ma 1, iE cI 382 (enc g lf))])) (vp_Si (fun r => aRes g q x wh r)) 0 0 (fun _ => False) := by
  refine rd_intro (by decide) rfl (Nat.le_of_ble_eq_true rfl) ?_
  intro p e s m below meth c hx hb hr hml hts hown hlocks hP hK ls hl
  have hP : va_P D vwCl [(ma 0, oE 7 [.ref (ma 1), .ref (ma 2), .int (fi 0), .ref (ma 3), .ref (ma 4), .int (fi 1), .int (fi 2), .int (fi 3), .long (wd), .int (fi 4), .int (fi 5)]), (ma 1, iE cI 382 (enc g lf))] s.heap := hP
  have hown : s.vm.findClass RX7 = some m.cls := hown
  have hl : lv_has ls 3 [(0, .ref (ma 0)), (1, .int (x)), (2, .int (wh))] := hl
  refine lv_aload_n hx hb dX7_reservation_0 rfl (lv_at hl 0 rfl) ?_
  refine lv_iload_n hx hb dX7_reservation_1 rfl (lv_at hl 1 rfl) ?_
  refine cv_i (As := [.int (x)]) (rest := []) (tys := TYS cI cC cB cS) (ci := 7) ⟨hx, hb, hml, hown, hts⟩ (c_X7_isReservation l D cI cC cB cS (ma) (fi) (wd) (g) (lf) (q) (x) (hq) (hqc)) (cwV 1 hts gX7_reservation_X7_isReservation rfl rfl rfl (by decide +kernel) ⟨Nat.le_of_ble_eq_true rfl, Nat.le_of_ble_eq_true rfl⟩) hK hP [0, 1] rfl rfl rfl rfl rfl hl.1 (Nat.le_of_ble_eq_true rfl) dX7_reservation_2 ⟨Nat.le_of_ble_eq_true rfl, Nat.le_of_ble_eq_true rfl⟩ (fun r_1 hr_1 => ?_)
  rcases (show Yes (∃ w, w < q ∧ x = nI w) r_1 from hr_1) with ⟨rfl, h_2⟩ | ⟨rfl, h_2⟩
  · -- X7_isReservation t
    obtain ⟨k, hk, hbk⟩ := h_2
    have hl : lv_has ls 3 [(0, .ref (ma 0)), (1, .int (nI k)), (2, .int (wh))] := by rw [← hbk]; exact hl
    refine if_eq_f (tgt := 26) hx hb (by decide) dX7_reservation_5 (by decide) ?_
    refine lv_iload_n hx hb dX7_reservation_8 rfl (lv_at hl 2 rfl) ?_
    refine lv_iconst (v := 0) hx hb dX7_reservation_9 (by decide) ?_
    refine lv_iconst (v := 5) hx hb dX7_reservation_10 (by decide) ?_
    refine cs_i (As := [.int (wh), .int (0), .int (5)]) (rest := []) (tys := TYS cI cC cB cS) ⟨hx, hb, hml, hown, hts⟩ (c_X7_in l D cI cC cB cS (wh) (0) (5)) (va_cwS 3 hts gX7_reservation_X7_in rfl rfl rfl (by decide +kernel) ⟨Nat.le_of_ble_eq_true rfl, Nat.le_of_ble_eq_true rfl⟩) hK hP [] rfl rfl rfl hl.1 (Nat.le_of_ble_eq_true rfl) dX7_reservation_11 ⟨Nat.le_of_ble_eq_true rfl, Nat.le_of_ble_eq_true rfl⟩ (fun r_3 hr_3 => ?_)
    rcases (show Yes (0 ≤ wh ∧ wh ≤ 5) r_3 from hr_3) with ⟨rfl, h_4⟩ | ⟨rfl, h_4⟩
    · -- X7_in t
      obtain ⟨w, hw, hwe⟩ := wi_k (N := 5) (by omega) h_4
      rcases (show w = 0 ∨ w = 1 ∨ w = 2 ∨ w = 3 ∨ w = 4 ∨ w = 5 by omega) with rfl | rfl | rfl | rfl | rfl | rfl
      · -- 0
        have hwe : wh = 0 := hwe
        have hl : lv_has ls 3 [(0, .ref (ma 0)), (1, .int (nI k)), (2, .int (0))] := by first | (rw [← hwe]; exact hl) | (have e := hl; rw [hwe] at e; exact e)
        refine if_eq_f (tgt := 26) hx hb (by decide) dX7_reservation_14 (by decide) ?_
        refine lv_aload_n hx hb dX7_reservation_17 rfl (lv_at hl 0 rfl) ?_
        refine lv_iload_n hx hb dX7_reservation_18 rfl (lv_at hl 1 rfl) ?_
        refine lv_iload_n hx hb dX7_reservation_19 rfl (lv_at hl 2 rfl) ?_
        refine cv_i (As := [.int (nI k), .int (0)]) (rest := []) (tys := TYS cI cC cB cS) (ci := 7) ⟨hx, hb, hml, hown, hts⟩ (c_X7_about l D cI cC cB cS (ma) (fi) (wd) (g) (lf) (k) (0) (by omega) (by omega)) (cwV 2 hts gX7_reservation_X7_about rfl rfl rfl (by decide +kernel) ⟨Nat.le_of_ble_eq_true rfl, Nat.le_of_ble_eq_true rfl⟩) hK hP [0, 1] rfl rfl rfl rfl rfl hl.1 (Nat.le_of_ble_eq_true rfl) dX7_reservation_20 ⟨Nat.le_of_ble_eq_true rfl, Nat.le_of_ble_eq_true rfl⟩ (fun r_5 hr_5 => ?_)
        have hr_5 : r_5 = g 13 k := hr_5
        subst hr_5
        refine lv_goto (tgt := 27) hx hb dX7_reservation_23 (by decide) ?_
        exact rd_iret (v := g 13 k) hx hb hr hlocks dX7_reservation_27 (Or.inl ⟨k, hk, hbk, Or.inl ⟨hwe, rfl⟩⟩)
      · -- 1
        have hwe : wh = 1 := hwe
        have hl : lv_has ls 3 [(0, .ref (ma 0)), (1, .int (nI k)), (2, .int (1))] := by first | (rw [← hwe]; exact hl) | (have e := hl; rw [hwe] at e; exact e)
        refine if_eq_f (tgt := 26) hx hb (by decide) dX7_reservation_14 (by decide) ?_
        refine lv_aload_n hx hb dX7_reservation_17 rfl (lv_at hl 0 rfl) ?_
        refine lv_iload_n hx hb dX7_reservation_18 rfl (lv_at hl 1 rfl) ?_
        refine lv_iload_n hx hb dX7_reservation_19 rfl (lv_at hl 2 rfl) ?_
        refine cv_i (As := [.int (nI k), .int (1)]) (rest := []) (tys := TYS cI cC cB cS) (ci := 7) ⟨hx, hb, hml, hown, hts⟩ (c_X7_about l D cI cC cB cS (ma) (fi) (wd) (g) (lf) (k) (1) (by omega) (by omega)) (cwV 2 hts gX7_reservation_X7_about rfl rfl rfl (by decide +kernel) ⟨Nat.le_of_ble_eq_true rfl, Nat.le_of_ble_eq_true rfl⟩) hK hP [0, 1] rfl rfl rfl rfl rfl hl.1 (Nat.le_of_ble_eq_true rfl) dX7_reservation_20 ⟨Nat.le_of_ble_eq_true rfl, Nat.le_of_ble_eq_true rfl⟩ (fun r_6 hr_6 => ?_)
        have hr_6 : r_6 = g 14 k := hr_6
        subst hr_6
        refine lv_goto (tgt := 27) hx hb dX7_reservation_23 (by decide) ?_
        exact rd_iret (v := g 14 k) hx hb hr hlocks dX7_reservation_27 (Or.inl ⟨k, hk, hbk, Or.inr (Or.inl ⟨hwe, rfl⟩)⟩)
      · -- 2
        have hwe : wh = 2 := hwe
        have hl : lv_has ls 3 [(0, .ref (ma 0)), (1, .int (nI k)), (2, .int (2))] := by first | (rw [← hwe]; exact hl) | (have e := hl; rw [hwe] at e; exact e)
        refine if_eq_f (tgt := 26) hx hb (by decide) dX7_reservation_14 (by decide) ?_
        refine lv_aload_n hx hb dX7_reservation_17 rfl (lv_at hl 0 rfl) ?_
        refine lv_iload_n hx hb dX7_reservation_18 rfl (lv_at hl 1 rfl) ?_
        refine lv_iload_n hx hb dX7_reservation_19 rfl (lv_at hl 2 rfl) ?_
        refine cv_i (As := [.int (nI k), .int (2)]) (rest := []) (tys := TYS cI cC cB cS) (ci := 7) ⟨hx, hb, hml, hown, hts⟩ (c_X7_about l D cI cC cB cS (ma) (fi) (wd) (g) (lf) (k) (2) (by omega) (by omega)) (cwV 2 hts gX7_reservation_X7_about rfl rfl rfl (by decide +kernel) ⟨Nat.le_of_ble_eq_true rfl, Nat.le_of_ble_eq_true rfl⟩) hK hP [0, 1] rfl rfl rfl rfl rfl hl.1 (Nat.le_of_ble_eq_true rfl) dX7_reservation_20 ⟨Nat.le_of_ble_eq_true rfl, Nat.le_of_ble_eq_true rfl⟩ (fun r_7 hr_7 => ?_)
        have hr_7 : r_7 = g 15 k := hr_7
        subst hr_7
        refine lv_goto (tgt := 27) hx hb dX7_reservation_23 (by decide) ?_
        exact rd_iret (v := g 15 k) hx hb hr hlocks dX7_reservation_27 (Or.inl ⟨k, hk, hbk, Or.inr (Or.inr (Or.inl ⟨hwe, rfl⟩))⟩)
      · -- 3
        have hwe : wh = 3 := hwe
        have hl : lv_has ls 3 [(0, .ref (ma 0)), (1, .int (nI k)), (2, .int (3))] := by first | (rw [← hwe]; exact hl) | (have e := hl; rw [hwe] at e; exact e)
        refine if_eq_f (tgt := 26) hx hb (by decide) dX7_reservation_14 (by decide) ?_
        refine lv_aload_n hx hb dX7_reservation_17 rfl (lv_at hl 0 rfl) ?_
        refine lv_iload_n hx hb dX7_reservation_18 rfl (lv_at hl 1 rfl) ?_
        refine lv_iload_n hx hb dX7_reservation_19 rfl (lv_at hl 2 rfl) ?_
        refine cv_i (As := [.int (nI k), .int (3)]) (rest := []) (tys := TYS cI cC cB cS) (ci := 7) ⟨hx, hb, hml, hown, hts⟩ (c_X7_about l D cI cC cB cS (ma) (fi) (wd) (g) (lf) (k) (3) (by omega) (by omega)) (cwV 2 hts gX7_reservation_X7_about rfl rfl rfl (by decide +kernel) ⟨Nat.le_of_ble_eq_true rfl, Nat.le_of_ble_eq_true rfl⟩) hK hP [0, 1] rfl rfl rfl rfl rfl hl.1 (Nat.le_of_ble_eq_true rfl) dX7_reservation_20 ⟨Nat.le_of_ble_eq_true rfl, Nat.le_of_ble_eq_true rfl⟩ (fun r_8 hr_8 => ?_)
        have hr_8 : r_8 = g 16 k := hr_8
        subst hr_8
        refine lv_goto (tgt := 27) hx hb dX7_reservation_23 (by decide) ?_
        exact rd_iret (v := g 16 k) hx hb hr hlocks dX7_reservation_27 (Or.inl ⟨k, hk, hbk, Or.inr (Or.inr (Or.inr (Or.inl ⟨hwe, rfl⟩)))⟩)
      · -- 4
        have hwe : wh = 4 := hwe
        have hl : lv_has ls 3 [(0, .ref (ma 0)), (1, .int (nI k)), (2, .int (4))] := by first | (rw [← hwe]; exact hl) | (have e := hl; rw [hwe] at e; exact e)
        refine if_eq_f (tgt := 26) hx hb (by decide) dX7_reservation_14 (by decide) ?_
        refine lv_aload_n hx hb dX7_reservation_17 rfl (lv_at hl 0 rfl) ?_
        refine lv_iload_n hx hb dX7_reservation_18 rfl (lv_at hl 1 rfl) ?_
        refine lv_iload_n hx hb dX7_reservation_19 rfl (lv_at hl 2 rfl) ?_
        refine cv_i (As := [.int (nI k), .int (4)]) (rest := []) (tys := TYS cI cC cB cS) (ci := 7) ⟨hx, hb, hml, hown, hts⟩ (c_X7_about l D cI cC cB cS (ma) (fi) (wd) (g) (lf) (k) (4) (by omega) (by omega)) (cwV 2 hts gX7_reservation_X7_about rfl rfl rfl (by decide +kernel) ⟨Nat.le_of_ble_eq_true rfl, Nat.le_of_ble_eq_true rfl⟩) hK hP [0, 1] rfl rfl rfl rfl rfl hl.1 (Nat.le_of_ble_eq_true rfl) dX7_reservation_20 ⟨Nat.le_of_ble_eq_true rfl, Nat.le_of_ble_eq_true rfl⟩ (fun r_9 hr_9 => ?_)
        have hr_9 : r_9 = g 17 k := hr_9
        subst hr_9
        refine lv_goto (tgt := 27) hx hb dX7_reservation_23 (by decide) ?_
        exact rd_iret (v := g 17 k) hx hb hr hlocks dX7_reservation_27 (Or.inl ⟨k, hk, hbk, Or.inr (Or.inr (Or.inr (Or.inr (Or.inl ⟨hwe, rfl⟩))))⟩)
      · -- 5
        have hwe : wh = 5 := hwe
        have hl : lv_has ls 3 [(0, .ref (ma 0)), (1, .int (nI k)), (2, .int (5))] := by first | (rw [← hwe]; exact hl) | (have e := hl; rw [hwe] at e; exact e)
        refine if_eq_f (tgt := 26) hx hb (by decide) dX7_reservation_14 (by decide) ?_
        refine lv_aload_n hx hb dX7_reservation_17 rfl (lv_at hl 0 rfl) ?_
        refine lv_iload_n hx hb dX7_reservation_18 rfl (lv_at hl 1 rfl) ?_
        refine lv_iload_n hx hb dX7_reservation_19 rfl (lv_at hl 2 rfl) ?_
        refine cv_i (As := [.int (nI k), .int (5)]) (rest := []) (tys := TYS cI cC cB cS) (ci := 7) ⟨hx, hb, hml, hown, hts⟩ (c_X7_about l D cI cC cB cS (ma) (fi) (wd) (g) (lf) (k) (5) (by omega) (by omega)) (cwV 2 hts gX7_reservation_X7_about rfl rfl rfl (by decide +kernel) ⟨Nat.le_of_ble_eq_true rfl, Nat.le_of_ble_eq_true rfl⟩) hK hP [0, 1] rfl rfl rfl rfl rfl hl.1 (Nat.le_of_ble_eq_true rfl) dX7_reservation_20 ⟨Nat.le_of_ble_eq_true rfl, Nat.le_of_ble_eq_true rfl⟩ (fun r_10 hr_10 => ?_)
        have hr_10 : r_10 = g 18 k := hr_10
        subst hr_10
        refine lv_goto (tgt := 27) hx hb dX7_reservation_23 (by decide) ?_
        exact rd_iret (v := g 18 k) hx hb hr hlocks dX7_reservation_27 (Or.inl ⟨k, hk, hbk, Or.inr (Or.inr (Or.inr (Or.inr (Or.inr (Or.inl ⟨hwe, rfl⟩)))))⟩)
    · -- X7_in f
      refine if_eq_t (tgt := 26) hx hb rfl dX7_reservation_14 (by decide) ?_
      refine lv_iconst (v := -1) hx hb dX7_reservation_26 (by decide) ?_
      exact rd_iret (v := -1) hx hb hr hlocks dX7_reservation_27 (Or.inl ⟨k, hk, hbk, Or.inr (Or.inr (Or.inr (Or.inr (Or.inr (Or.inr (⟨out_of h_4, rfl⟩))))))⟩)
  · -- X7_isReservation f
    refine if_eq_t (tgt := 26) hx hb rfl dX7_reservation_5 (by decide) ?_
    refine lv_iconst (v := -1) hx hb dX7_reservation_26 (by decide) ?_
    exact rd_iret (v := -1) hx hb hr hlocks dX7_reservation_27 (Or.inr ⟨h_2, rfl⟩)
set_option maxHeartbeats 4000000 in
set_option maxRecDepth 100000 in
theorem c_X7_car (l : Launch) (D : va_G) (cI cC cB cS : ClassId) (ma : Nat → Nat) (fi : Nat → Int32) (wd : Int64) (g : Nat → Nat → Int32) (lf : Int32) (n : Nat) (q : Nat) (tn : Nat) (tu : Nat) (T : Nat) (x : Int32) (wh : Int32) (hn : g 3 0 = nI n) (hnb : n ≤ 30) (hqc : q ≤ 16) (ht : g 19 0 = nI tn) (htb : tn ≤ 5) (htu : ∀ j, j < tn → 0 < g 21 j) (hu : g 23 0 = nI tu) (hub : tu ≤ 5) (huu : ∀ j, j < tu → 0 < g 25 j) (hu0 : ∀ j, j < tu → 0 ≤ g 24 j) (hits : ∀ k, k < n → g 11 k = -9 ∨ ∃ w, w < q ∧ g 11 k = nI w) (hen : ∀ w, w < q → Nn (g 16 w)) (hT0 : g 0 0 = nI T) (hT0b : T ≤ 20000) : Met l yX7_car wsX7_car ({ frames := 4, cells := 0, slots := 0, locals := 93 } : Room) (rdPc D (TYS cI cC cB cS) [.ref (ma 0), .int (x), .int (wh)] ([mO ma fi wd, (ma 1, iE cI 382 (enc g lf))])) (vp_Si (fun r => aCar g n q tn tu x wh r)) 0 0 (fun _ => False) := by
  refine rd_intro (by decide) rfl (Nat.le_of_ble_eq_true rfl) ?_
  intro p e s m below meth c hx hb hr hml hts hown hlocks hP hK ls hl
  have hP : va_P D vwCl [(ma 0, oE 7 [.ref (ma 1), .ref (ma 2), .int (fi 0), .ref (ma 3), .ref (ma 4), .int (fi 1), .int (fi 2), .int (fi 3), .long (wd), .int (fi 4), .int (fi 5)]), (ma 1, iE cI 382 (enc g lf))] s.heap := hP
  have hown : s.vm.findClass RX7 = some m.cls := hown
  have hl : lv_has ls 4 [(0, .ref (ma 0)), (1, .int (x)), (2, .int (wh))] := hl
  refine lv_iload_n hx hb dX7_car_0 rfl (lv_at hl 1 rfl) ?_
  refine lv_iconst (v := 1) hx hb dX7_car_1 (by decide) ?_
  refine lv_sipush (v := 999) hx hb dX7_car_2 (by decide) ?_
  refine cs_i (As := [.int (x), .int (1), .int (999)]) (rest := []) (tys := TYS cI cC cB cS) ⟨hx, hb, hml, hown, hts⟩ (c_X7_in l D cI cC cB cS (x) (1) (999)) (va_cwS 3 hts gX7_car_X7_in rfl rfl rfl (by decide +kernel) ⟨Nat.le_of_ble_eq_true rfl, Nat.le_of_ble_eq_true rfl⟩) hK hP [] rfl rfl rfl hl.1 (Nat.le_of_ble_eq_true rfl) dX7_car_5 ⟨Nat.le_of_ble_eq_true rfl, Nat.le_of_ble_eq_true rfl⟩ (fun r_1 hr_1 => ?_)
  rcases (show Yes (1 ≤ x ∧ x ≤ 999) r_1 from hr_1) with ⟨rfl, h_2⟩ | ⟨rfl, h_2⟩
  · -- X7_in t
    refine if_eq_f (tgt := 20) hx hb (by decide) dX7_car_8 (by decide) ?_
    refine lv_iload_n hx hb dX7_car_11 rfl (lv_at hl 2 rfl) ?_
    refine lv_iconst (v := 0) hx hb dX7_car_12 (by decide) ?_
    refine lv_iconst (v := 5) hx hb dX7_car_13 (by decide) ?_
    refine cs_i (As := [.int (wh), .int (0), .int (5)]) (rest := []) (tys := TYS cI cC cB cS) ⟨hx, hb, hml, hown, hts⟩ (c_X7_in l D cI cC cB cS (wh) (0) (5)) (va_cwS 3 hts gX7_car_X7_in rfl rfl rfl (by decide +kernel) ⟨Nat.le_of_ble_eq_true rfl, Nat.le_of_ble_eq_true rfl⟩) hK hP [] rfl rfl rfl hl.1 (Nat.le_of_ble_eq_true rfl) dX7_car_14 ⟨Nat.le_of_ble_eq_true rfl, Nat.le_of_ble_eq_true rfl⟩ (fun r_3 hr_3 => ?_)
    rcases (show Yes (0 ≤ wh ∧ wh ≤ 5) r_3 from hr_3) with ⟨rfl, h_4⟩ | ⟨rfl, h_4⟩
    · -- X7_in t
      refine if_ne_t (tgt := 22) hx hb (by decide) dX7_car_17 (by decide) ?_
      refine lv_aload_n hx hb dX7_car_22 rfl (lv_at hl 0 rfl) ?_
      refine lv_iload_n hx hb dX7_car_23 rfl (lv_at hl 1 rfl) ?_
      refine cv_i (As := [.int (x)]) (rest := []) (tys := TYS cI cC cB cS) (ci := 7) ⟨hx, hb, hml, hown, hts⟩ (c_X7_bayOf l D cI cC cB cS (ma) (fi) (wd) (g) (lf) (n) (x) (hn) (hnb)) (cwV 1 hts gX7_car_X7_bayOf rfl rfl rfl (by decide +kernel) ⟨Nat.le_of_ble_eq_true rfl, Nat.le_of_ble_eq_true rfl⟩) hK hP [0, 1] rfl rfl rfl rfl rfl hl.1 (Nat.le_of_ble_eq_true rfl) dX7_car_24 ⟨Nat.le_of_ble_eq_true rfl, Nat.le_of_ble_eq_true rfl⟩ (fun r_5 hr_5 => ?_)
      have hr_5 : Fst (fun w => g 8 w = x) n r_5 := hr_5
      refine lv_istore_n (lv' := [(3, .int (r_5)), (0, .ref (ma 0)), (1, .int (x)), (2, .int (wh))]) hx hb dX7_car_27 rfl hl (by decide) rfl (fun ls hl => ?_)
      refine lv_iload_n hx hb dX7_car_28 rfl (lv_at hl 0 rfl) ?_
      refine lv_bipush (v := -9) hx hb dX7_car_29 (by decide) ?_
      refine lv_icmp_ne (tgt := 37) hx hb dX7_car_31 (by decide) (fun c_6 => ?_) (fun c_6 => ?_)
      · -- c_6: r_5 ≠ -9
        obtain ⟨k, hk, hbk, hPk, hNk⟩ := Fst.got9 hr_5 c_6
        have hl : lv_has ls 4 [(3, .int (nI k)), (0, .ref (ma 0)), (1, .int (x)), (2, .int (wh))] := by rw [← hbk]; exact hl
        refine lv_iload_n hx hb dX7_car_37 rfl (lv_at hl 3 rfl) ?_
        by_cases e_7 : wh = 0
        · -- case 0
          refine lv_tableIn (off := 34) (tgt := 72) hx hb dX7_car_38 (by rw [e_7]; decide) (by rw [e_7]; decide) (by rw [e_7]; decide +kernel) (by decide) ?_
          refine lv_aload_n hx hb dX7_car_72 rfl (lv_at hl 1 rfl) ?_
          refine lv_iload_n hx hb dX7_car_73 rfl (lv_at hl 0 rfl) ?_
          refine lv_bipush (v := 7) hx hb dX7_car_74 (by decide) ?_
          refine cv_i (As := [.int (nI k), .int (7)]) (rest := []) (tys := TYS cI cC cB cS) (ci := 7) ⟨hx, hb, hml, hown, hts⟩ (c_X7_of l D cI cC cB cS (ma) (fi) (wd) (g) (lf) (k) (7) (by omega) (by omega)) (cwV 2 hts gX7_car_X7_of rfl rfl rfl (by decide +kernel) ⟨Nat.le_of_ble_eq_true rfl, Nat.le_of_ble_eq_true rfl⟩) hK hP [0, 1] rfl rfl rfl rfl rfl hl.1 (Nat.le_of_ble_eq_true rfl) dX7_car_76 ⟨Nat.le_of_ble_eq_true rfl, Nat.le_of_ble_eq_true rfl⟩ (fun r_8 hr_8 => ?_)
          have hr_8 : r_8 = g 9 k := hr_8
          subst hr_8
          exact rd_iret (v := g 9 k) hx hb hr hlocks dX7_car_79 (Or.inl ⟨⟨h_2, h_4⟩, Or.inl ⟨k, hk, hPk, hNk, Or.inl ⟨e_7, rfl⟩⟩⟩)
        by_cases e_9 : wh = 1
        · -- case 1
          refine lv_tableIn (off := 42) (tgt := 80) hx hb dX7_car_38 (by rw [e_9]; decide) (by rw [e_9]; decide) (by rw [e_9]; decide +kernel) (by decide) ?_
          refine lv_aload_n hx hb dX7_car_80 rfl (lv_at hl 1 rfl) ?_
          refine lv_iload_n hx hb dX7_car_81 rfl (lv_at hl 0 rfl) ?_
          refine lv_iconst (v := 5) hx hb dX7_car_82 (by decide) ?_
          refine cv_i (As := [.int (nI k), .int (5)]) (rest := []) (tys := TYS cI cC cB cS) (ci := 7) ⟨hx, hb, hml, hown, hts⟩ (c_X7_of l D cI cC cB cS (ma) (fi) (wd) (g) (lf) (k) (5) (by omega) (by omega)) (cwV 2 hts gX7_car_X7_of rfl rfl rfl (by decide +kernel) ⟨Nat.le_of_ble_eq_true rfl, Nat.le_of_ble_eq_true rfl⟩) hK hP [0, 1] rfl rfl rfl rfl rfl hl.1 (Nat.le_of_ble_eq_true rfl) dX7_car_83 ⟨Nat.le_of_ble_eq_true rfl, Nat.le_of_ble_eq_true rfl⟩ (fun r_10 hr_10 => ?_)
          have hr_10 : r_10 = g 10 k := hr_10
          subst hr_10
          exact rd_iret (v := g 10 k) hx hb hr hlocks dX7_car_86 (Or.inl ⟨⟨h_2, h_4⟩, Or.inl ⟨k, hk, hPk, hNk, Or.inr (Or.inl ⟨e_9, rfl⟩)⟩⟩)
        by_cases e_11 : wh = 2
        · -- case 2
          refine lv_tableIn (off := 49) (tgt := 87) hx hb dX7_car_38 (by rw [e_11]; decide) (by rw [e_11]; decide) (by rw [e_11]; decide +kernel) (by decide) ?_
          refine lv_iload_n hx hb dX7_car_87 rfl (lv_at hl 0 rfl) ?_
          exact rd_iret (v := nI k) hx hb hr hlocks dX7_car_88 (Or.inl ⟨⟨h_2, h_4⟩, Or.inl ⟨k, hk, hPk, hNk, Or.inr (Or.inr (Or.inl ⟨e_11, rfl⟩))⟩⟩)
        by_cases e_12 : wh = 3
        · -- case 3
          refine lv_tableIn (off := 51) (tgt := 89) hx hb dX7_car_38 (by rw [e_12]; decide) (by rw [e_12]; decide) (by rw [e_12]; decide +kernel) (by decide) ?_
          refine lv_aload_n hx hb dX7_car_89 rfl (lv_at hl 1 rfl) ?_
          refine lv_iload_n hx hb dX7_car_90 rfl (lv_at hl 0 rfl) ?_
          refine lv_bipush (v := 6) hx hb dX7_car_91 (by decide) ?_
          refine cv_i (As := [.int (nI k), .int (6)]) (rest := []) (tys := TYS cI cC cB cS) (ci := 7) ⟨hx, hb, hml, hown, hts⟩ (c_X7_of l D cI cC cB cS (ma) (fi) (wd) (g) (lf) (k) (6) (by omega) (by omega)) (cwV 2 hts gX7_car_X7_of rfl rfl rfl (by decide +kernel) ⟨Nat.le_of_ble_eq_true rfl, Nat.le_of_ble_eq_true rfl⟩) hK hP [0, 1] rfl rfl rfl rfl rfl hl.1 (Nat.le_of_ble_eq_true rfl) dX7_car_93 ⟨Nat.le_of_ble_eq_true rfl, Nat.le_of_ble_eq_true rfl⟩ (fun r_13 hr_13 => ?_)
          have hr_13 : r_13 = g 11 k := hr_13
          subst hr_13
          exact rd_iret (v := g 11 k) hx hb hr hlocks dX7_car_96 (Or.inl ⟨⟨h_2, h_4⟩, Or.inl ⟨k, hk, hPk, hNk, Or.inr (Or.inr (Or.inr (Or.inl ⟨e_12, rfl⟩)))⟩⟩)
        by_cases e_14 : wh = 4
        · -- case 4
          refine lv_tableIn (off := 59) (tgt := 97) hx hb dX7_car_38 (by rw [e_14]; decide) (by rw [e_14]; decide) (by rw [e_14]; decide +kernel) (by decide) ?_
          refine lv_aload_n hx hb dX7_car_97 rfl (lv_at hl 1 rfl) ?_
          refine lv_iload_n hx hb dX7_car_98 rfl (lv_at hl 0 rfl) ?_
          refine lv_aload_n hx hb dX7_car_99 rfl (lv_at hl 1 rfl) ?_
          refine va_get (D := D) (ci := 7) (v := .ref (ma 1)) (C := RX7) (T := TX7) (N := 11) hx hb hts (by decide +kernel) hown hK.1 hP 0 rfl rfl 0 (by decide) (hts (.fieldLink RX7 7 "ParkingGarageModel" "s" "[I") (by decide +kernel)) (fun _ h9 => h9) rfl dX7_car_100 ?_
          refine lv_iconst (v := 0) hx hb dX7_car_103 (by decide) ?_
          refine iald_n (f := enc g lf) hx hb hK.1 hP 1 0 rfl rfl (0) (rfl) (by decide) (by omega) dX7_car_104 ?_
          rw [show enc g lf (0) = g 0 0 from rfl]
          refine cv_i (As := [.int (nI k), .int (g 0 0)]) (rest := []) (tys := TYS cI cC cB cS) (ci := 7) ⟨hx, hb, hml, hown, hts⟩ (c_X7_feeAt l D cI cC cB cS (ma) (fi) (wd) (g) (lf) (n) (q) (tn) (tu) (k) (g 0 0) (hnb) (hqc) (ht) (htb) (htu) (hu) (hub) (huu) (hu0) (hits) (hen) (by omega) ((by rw [hT0]; exact nn_nI (by omega)))) (cwV 2 hts gX7_car_X7_feeAt rfl rfl rfl (by decide +kernel) ⟨Nat.le_of_ble_eq_true rfl, Nat.le_of_ble_eq_true rfl⟩) hK hP [0, 1] rfl rfl rfl rfl rfl hl.1 (Nat.le_of_ble_eq_true rfl) dX7_car_105 ⟨Nat.le_of_ble_eq_true rfl, Nat.le_of_ble_eq_true rfl⟩ (fun r_15 hr_15 => ?_)
          have hr_15 : aFeeAt g q tn tu k (g 0 0) r_15 := hr_15
          exact rd_iret (v := r_15) hx hb hr hlocks dX7_car_108 (Or.inl ⟨⟨h_2, h_4⟩, Or.inl ⟨k, hk, hPk, hNk, Or.inr (Or.inr (Or.inr (Or.inr (Or.inl ⟨e_14, hr_15⟩))))⟩⟩)
        have hout : (wh).toInt < 0 ∨ 4 < (wh).toInt := by
          have z0 := lv_neT e_7 (show ((0 : Int32)).toInt = 0 from by decide)
          have z1 := lv_neT e_9 (show ((1 : Int32)).toInt = 1 from by decide)
          have z2 := lv_neT e_11 (show ((2 : Int32)).toInt = 2 from by decide)
          have z3 := lv_neT e_12 (show ((3 : Int32)).toInt = 3 from by decide)
          have z4 := lv_neT e_14 (show ((4 : Int32)).toInt = 4 from by decide)
          omega
        refine lv_tableOut (tgt := 109) hx hb dX7_car_38 hout (by decide) ?_
        refine lv_aload_n hx hb dX7_car_109 rfl (lv_at hl 1 rfl) ?_
        refine lv_iload_n hx hb dX7_car_110 rfl (lv_at hl 0 rfl) ?_
        refine cv_i (As := [.int (nI k)]) (rest := []) (tys := TYS cI cC cB cS) (ci := 7) ⟨hx, hb, hml, hown, hts⟩ (c_X7_lostFee l D cI cC cB cS (ma) (fi) (wd) (g) (lf) (tn) (k) (ht) (htb) (htu) (by omega)) (cwV 1 hts gX7_car_X7_lostFee rfl rfl rfl (by decide +kernel) ⟨Nat.le_of_ble_eq_true rfl, Nat.le_of_ble_eq_true rfl⟩) hK hP [0, 1] rfl rfl rfl rfl rfl hl.1 (Nat.le_of_ble_eq_true rfl) dX7_car_111 ⟨Nat.le_of_ble_eq_true rfl, Nat.le_of_ble_eq_true rfl⟩ (fun r_16 hr_16 => ?_)
        have hr_16 : r_16 = aLost g tn k := hr_16
        subst hr_16
        exact rd_iret (v := aLost g tn k) hx hb hr hlocks dX7_car_114 (Or.inl ⟨⟨h_2, h_4⟩, Or.inl ⟨k, hk, hPk, hNk, Or.inr (Or.inr (Or.inr (Or.inr (Or.inr (⟨hout, rfl⟩)))))⟩⟩)
      · -- c_6: not r_5 ≠ -9
        refine lv_bipush (v := -9) hx hb dX7_car_34 (by decide) ?_
        exact rd_iret (v := -9) hx hb hr hlocks dX7_car_36 (Or.inl ⟨⟨h_2, h_4⟩, Or.inr ⟨Fst.no9 (by omega) hr_5 c_6, rfl⟩⟩)
    · -- X7_in f
      refine if_ne_f (tgt := 22) hx hb rfl dX7_car_17 (by decide) ?_
      refine lv_iconst (v := -1) hx hb dX7_car_20 (by decide) ?_
      exact rd_iret (v := -1) hx hb hr hlocks dX7_car_21 (Or.inr ⟨fun q => h_4 q.2, rfl⟩)
  · -- X7_in f
    refine if_eq_t (tgt := 20) hx hb rfl dX7_car_8 (by decide) ?_
    refine lv_iconst (v := -1) hx hb dX7_car_20 (by decide) ?_
    exact rd_iret (v := -1) hx hb hr hlocks dX7_car_21 (Or.inr ⟨fun q => h_2 q.1, rfl⟩)
set_option maxHeartbeats 4000000 in
set_option maxRecDepth 100000 in
theorem c_X7_step (l : Launch) (D : va_G) (cI cC cB cS : ClassId) (ma : Nat → Nat) (fi : Nat → Int32) (wd : Int64) (g : Nat → Nat → Int32) (lf : Int32) (tn : Nat) (tu : Nat) (t : Int32) (ix : Int32) (wh : Int32) (ht : g 19 0 = nI tn) (htb : tn ≤ 5) (hu : g 23 0 = nI tu) (hub : tu ≤ 5) : Met l yX7_step wsX7_step ({ frames := 1, cells := 0, slots := 0, locals := 22 } : Room) (rdPc D (TYS cI cC cB cS) [.ref (ma 0), .int (t), .int (ix), .int (wh)] ([mO ma fi wd, (ma 1, iE cI 382 (enc g lf))])) (vp_Si (fun r => aStep g tn tu t ix wh r)) 0 0 (fun _ => False) := by
  refine rd_intro (by decide) rfl (Nat.le_of_ble_eq_true rfl) ?_
  intro p e s m below meth c hx hb hr hml hts hown hlocks hP hK ls hl
  have hP : va_P D vwCl [(ma 0, oE 7 [.ref (ma 1), .ref (ma 2), .int (fi 0), .ref (ma 3), .ref (ma 4), .int (fi 1), .int (fi 2), .int (fi 3), .long (wd), .int (fi 4), .int (fi 5)]), (ma 1, iE cI 382 (enc g lf))] s.heap := hP
  have hown : s.vm.findClass RX7 = some m.cls := hown
  have hl : lv_has ls 5 [(0, .ref (ma 0)), (1, .int (t)), (2, .int (ix)), (3, .int (wh))] := hl
  refine lv_iload_n hx hb dX7_step_0 rfl (lv_at hl 1 rfl) ?_
  refine lv_iconst (v := 0) hx hb dX7_step_1 (by decide) ?_
  refine lv_iconst (v := 1) hx hb dX7_step_2 (by decide) ?_
  refine cs_i (As := [.int (t), .int (0), .int (1)]) (rest := []) (tys := TYS cI cC cB cS) ⟨hx, hb, hml, hown, hts⟩ (c_X7_in l D cI cC cB cS (t) (0) (1)) (va_cwS 3 hts gX7_step_X7_in rfl rfl rfl (by decide +kernel) ⟨Nat.le_of_ble_eq_true rfl, Nat.le_of_ble_eq_true rfl⟩) hK hP [] rfl rfl rfl hl.1 (Nat.le_of_ble_eq_true rfl) dX7_step_3 ⟨Nat.le_of_ble_eq_true rfl, Nat.le_of_ble_eq_true rfl⟩ (fun r_1 hr_1 => ?_)
  rcases (show Yes (0 ≤ t ∧ t ≤ 1) r_1 from hr_1) with ⟨rfl, h_2⟩ | ⟨rfl, h_2⟩
  · -- X7_in t
    have h01 := wi01 h_2
    have h01o := h01
    refine if_eq_f (tgt := 22) hx hb (by decide) dX7_step_6 (by decide) ?_
    refine lv_iload_n hx hb dX7_step_9 rfl (lv_at hl 2 rfl) ?_
    refine lv_if_lt (tgt := 22) hx hb dX7_step_10 (by decide) (fun c_3 => ?_) (fun c_3 => ?_)
    · -- c_3: ix < 0
      refine lv_iconst (v := -1) hx hb dX7_step_22 (by decide) ?_
      exact rd_iret (v := -1) hx hb hr hlocks dX7_step_23 (Or.inr ⟨fun q => q.2.1 c_3, rfl⟩)
    · -- c_3: not ix < 0
      refine lv_iload_n hx hb dX7_step_13 rfl (lv_at hl 3 rfl) ?_
      refine lv_iconst (v := 0) hx hb dX7_step_14 (by decide) ?_
      refine lv_iconst (v := 2) hx hb dX7_step_15 (by decide) ?_
      refine cs_i (As := [.int (wh), .int (0), .int (2)]) (rest := []) (tys := TYS cI cC cB cS) ⟨hx, hb, hml, hown, hts⟩ (c_X7_in l D cI cC cB cS (wh) (0) (2)) (va_cwS 3 hts gX7_step_X7_in rfl rfl rfl (by decide +kernel) ⟨Nat.le_of_ble_eq_true rfl, Nat.le_of_ble_eq_true rfl⟩) hK hP [] rfl rfl rfl hl.1 (Nat.le_of_ble_eq_true rfl) dX7_step_16 ⟨Nat.le_of_ble_eq_true rfl, Nat.le_of_ble_eq_true rfl⟩ (fun r_4 hr_4 => ?_)
      rcases (show Yes (0 ≤ wh ∧ wh ≤ 2) r_4 from hr_4) with ⟨rfl, h_5⟩ | ⟨rfl, h_5⟩
      · -- X7_in t
        rcases h01 with h0 | h0
        · -- tariff 0
          have hl : lv_has ls 5 [(0, .ref (ma 0)), (1, .int (0)), (2, .int (ix)), (3, .int (wh))] := by first | (rw [← h0]; exact hl) | (have e := hl; rw [h0] at e; exact e)
          obtain ⟨w, hw, hwe⟩ := wi_k (N := 2) (by omega) h_5
          rcases (show w = 0 ∨ w = 1 ∨ w = 2 by omega) with rfl | rfl | rfl
          · -- 0
            have hwe : wh = 0 := hwe
            have hl : lv_has ls 5 [(0, .ref (ma 0)), (1, .int (0)), (2, .int (ix)), (3, .int (0))] := by first | (rw [← hwe]; exact hl) | (have e := hl; rw [hwe] at e; exact e)
            refine if_ne_t (tgt := 24) hx hb (by decide) dX7_step_19 (by decide) ?_
            refine lv_bipush (v := 14) hx hb dX7_step_24 (by decide) ?_
            refine lv_bipush (v := 16) hx hb dX7_step_26 (by decide) ?_
            refine lv_iload_n hx hb dX7_step_28 rfl (lv_at hl 1 rfl) ?_
            refine lv_imul hx hb dX7_step_29 ?_
            rw [show (((16) * (0)) : Int32) = 0 from by decide]
            refine lv_iadd hx hb dX7_step_30 ?_
            rw [show (((14) + (0)) : Int32) = 14 from by decide]
            refine lv_istore (lv' := [(4, .int (14)), (0, .ref (ma 0)), (1, .int (0)), (2, .int (ix)), (3, .int (0))]) hx hb dX7_step_31 hl (by decide) rfl (fun ls hl => ?_)
            refine lv_iload_n hx hb dX7_step_33 rfl (lv_at hl 3 rfl) ?_
            refine lv_aload_n hx hb dX7_step_34 rfl (lv_at hl 1 rfl) ?_
            refine va_get (D := D) (ci := 7) (v := .ref (ma 1)) (C := RX7) (T := TX7) (N := 11) hx hb hts (by decide +kernel) hown hK.1 hP 0 rfl rfl 0 (by decide) (hts (.fieldLink RX7 7 "ParkingGarageModel" "s" "[I") (by decide +kernel)) (fun _ h9 => h9) rfl dX7_step_35 ?_
            refine lv_iload hx hb dX7_step_38 (lv_at hl 0 rfl) ?_
            refine iald_n (f := enc g lf) hx hb hK.1 hP 1 0 rfl rfl (14) (rfl) (by decide) (by omega) dX7_step_40 ?_
            rw [show enc g lf (14) = nI tn from ht]
            refine lv_icmp_ge (tgt := 62) hx hb dX7_step_41 (by decide) (fun c_6 => ?_) (fun c_6 => ?_)
            · -- c_6: ix ≥ nI tn
              refine lv_bipush (v := -9) hx hb dX7_step_62 (by decide) ?_
              exact rd_iret (v := -9) hx hb hr hlocks dX7_step_64 (Or.inl ⟨⟨h01o, c_3, h_5⟩, Or.inl ⟨h0, Or.inr ⟨ix_big (n := tn) rfl (by omega) c_6, rfl⟩⟩⟩)
            · -- c_6: not ix ≥ nI tn
              obtain ⟨k, hk, hixk⟩ := ix_of (n := tn) rfl (by omega) c_3 (Int32.not_le.mpr (Int32.not_le.mp c_6))
              have hl : lv_has ls 5 [(4, .int (14)), (0, .ref (ma 0)), (1, .int (0)), (2, .int (nI k)), (3, .int (0))] := by rw [← hixk]; exact hl
              refine lv_aload_n hx hb dX7_step_44 rfl (lv_at hl 1 rfl) ?_
              refine va_get (D := D) (ci := 7) (v := .ref (ma 1)) (C := RX7) (T := TX7) (N := 11) hx hb hts (by decide +kernel) hown hK.1 hP 0 rfl rfl 0 (by decide) (hts (.fieldLink RX7 7 "ParkingGarageModel" "s" "[I") (by decide +kernel)) (fun _ h9 => h9) rfl dX7_step_45 ?_
              refine lv_iload hx hb dX7_step_48 (lv_at hl 0 rfl) ?_
              refine lv_iconst (v := 1) hx hb dX7_step_50 (by decide) ?_
              refine lv_iadd hx hb dX7_step_51 ?_
              rw [show (((14) + (1)) : Int32) = 15 from by decide]
              refine lv_iconst (v := 3) hx hb dX7_step_52 (by decide) ?_
              refine lv_iload_n hx hb dX7_step_53 rfl (lv_at hl 3 rfl) ?_
              refine lv_imul hx hb dX7_step_54 ?_
              rw [show (((3) * (nI k)) : Int32) = nI (3 * k) from (nI_mul 3 k)]
              refine lv_iadd hx hb dX7_step_55 ?_
              rw [show (((15) + (nI (3 * k))) : Int32) = nI (15 + 3 * k) from (nI_add 15 (3 * k))]
              refine lv_iload_n hx hb dX7_step_56 rfl (lv_at hl 4 rfl) ?_
              refine lv_iadd hx hb dX7_step_57 ?_
              rw [show (((nI (15 + 3 * k)) + (0)) : Int32) = nI (15 + 3 * k + 0) from (nI_add (15 + 3 * k) 0)]
              refine iald_n (f := enc g lf) hx hb hK.1 hP 1 0 rfl rfl (15 + 3 * k + 0) (rfl) (by omega) (by omega) dX7_step_58 ?_
              rw [show enc g lf (15 + 3 * k + 0) = g 20 k from enc_at (by omega) (posR_lit0 (by omega) (by omega))]
              refine lv_goto (tgt := 64) hx hb dX7_step_59 (by decide) ?_
              exact rd_iret (v := g 20 k) hx hb hr hlocks dX7_step_64 (Or.inl ⟨⟨h01o, c_3, h_5⟩, Or.inl ⟨h0, Or.inl ⟨k, hk, hixk, Or.inl ⟨hwe, rfl⟩⟩⟩⟩)
          · -- 1
            have hwe : wh = 1 := hwe
            have hl : lv_has ls 5 [(0, .ref (ma 0)), (1, .int (0)), (2, .int (ix)), (3, .int (1))] := by first | (rw [← hwe]; exact hl) | (have e := hl; rw [hwe] at e; exact e)
            refine if_ne_t (tgt := 24) hx hb (by decide) dX7_step_19 (by decide) ?_
            refine lv_bipush (v := 14) hx hb dX7_step_24 (by decide) ?_
            refine lv_bipush (v := 16) hx hb dX7_step_26 (by decide) ?_
            refine lv_iload_n hx hb dX7_step_28 rfl (lv_at hl 1 rfl) ?_
            refine lv_imul hx hb dX7_step_29 ?_
            rw [show (((16) * (0)) : Int32) = 0 from by decide]
            refine lv_iadd hx hb dX7_step_30 ?_
            rw [show (((14) + (0)) : Int32) = 14 from by decide]
            refine lv_istore (lv' := [(4, .int (14)), (0, .ref (ma 0)), (1, .int (0)), (2, .int (ix)), (3, .int (1))]) hx hb dX7_step_31 hl (by decide) rfl (fun ls hl => ?_)
            refine lv_iload_n hx hb dX7_step_33 rfl (lv_at hl 3 rfl) ?_
            refine lv_aload_n hx hb dX7_step_34 rfl (lv_at hl 1 rfl) ?_
            refine va_get (D := D) (ci := 7) (v := .ref (ma 1)) (C := RX7) (T := TX7) (N := 11) hx hb hts (by decide +kernel) hown hK.1 hP 0 rfl rfl 0 (by decide) (hts (.fieldLink RX7 7 "ParkingGarageModel" "s" "[I") (by decide +kernel)) (fun _ h9 => h9) rfl dX7_step_35 ?_
            refine lv_iload hx hb dX7_step_38 (lv_at hl 0 rfl) ?_
            refine iald_n (f := enc g lf) hx hb hK.1 hP 1 0 rfl rfl (14) (rfl) (by decide) (by omega) dX7_step_40 ?_
            rw [show enc g lf (14) = nI tn from ht]
            refine lv_icmp_ge (tgt := 62) hx hb dX7_step_41 (by decide) (fun c_7 => ?_) (fun c_7 => ?_)
            · -- c_7: ix ≥ nI tn
              refine lv_bipush (v := -9) hx hb dX7_step_62 (by decide) ?_
              exact rd_iret (v := -9) hx hb hr hlocks dX7_step_64 (Or.inl ⟨⟨h01o, c_3, h_5⟩, Or.inl ⟨h0, Or.inr ⟨ix_big (n := tn) rfl (by omega) c_7, rfl⟩⟩⟩)
            · -- c_7: not ix ≥ nI tn
              obtain ⟨k, hk, hixk⟩ := ix_of (n := tn) rfl (by omega) c_3 (Int32.not_le.mpr (Int32.not_le.mp c_7))
              have hl : lv_has ls 5 [(4, .int (14)), (0, .ref (ma 0)), (1, .int (0)), (2, .int (nI k)), (3, .int (1))] := by rw [← hixk]; exact hl
              refine lv_aload_n hx hb dX7_step_44 rfl (lv_at hl 1 rfl) ?_
              refine va_get (D := D) (ci := 7) (v := .ref (ma 1)) (C := RX7) (T := TX7) (N := 11) hx hb hts (by decide +kernel) hown hK.1 hP 0 rfl rfl 0 (by decide) (hts (.fieldLink RX7 7 "ParkingGarageModel" "s" "[I") (by decide +kernel)) (fun _ h9 => h9) rfl dX7_step_45 ?_
              refine lv_iload hx hb dX7_step_48 (lv_at hl 0 rfl) ?_
              refine lv_iconst (v := 1) hx hb dX7_step_50 (by decide) ?_
              refine lv_iadd hx hb dX7_step_51 ?_
              rw [show (((14) + (1)) : Int32) = 15 from by decide]
              refine lv_iconst (v := 3) hx hb dX7_step_52 (by decide) ?_
              refine lv_iload_n hx hb dX7_step_53 rfl (lv_at hl 3 rfl) ?_
              refine lv_imul hx hb dX7_step_54 ?_
              rw [show (((3) * (nI k)) : Int32) = nI (3 * k) from (nI_mul 3 k)]
              refine lv_iadd hx hb dX7_step_55 ?_
              rw [show (((15) + (nI (3 * k))) : Int32) = nI (15 + 3 * k) from (nI_add 15 (3 * k))]
              refine lv_iload_n hx hb dX7_step_56 rfl (lv_at hl 4 rfl) ?_
              refine lv_iadd hx hb dX7_step_57 ?_
              rw [show (((nI (15 + 3 * k)) + (1)) : Int32) = nI (15 + 3 * k + 1) from (nI_add (15 + 3 * k) 1)]
              refine iald_n (f := enc g lf) hx hb hK.1 hP 1 0 rfl rfl (15 + 3 * k + 1) (rfl) (by omega) (by omega) dX7_step_58 ?_
              rw [show enc g lf (15 + 3 * k + 1) = g 21 k from enc_at (by omega) (posR_lit0 (by omega) (by omega))]
              refine lv_goto (tgt := 64) hx hb dX7_step_59 (by decide) ?_
              exact rd_iret (v := g 21 k) hx hb hr hlocks dX7_step_64 (Or.inl ⟨⟨h01o, c_3, h_5⟩, Or.inl ⟨h0, Or.inl ⟨k, hk, hixk, Or.inr (Or.inl ⟨hwe, rfl⟩)⟩⟩⟩)
          · -- 2
            have hwe : wh = 2 := hwe
            have hl : lv_has ls 5 [(0, .ref (ma 0)), (1, .int (0)), (2, .int (ix)), (3, .int (2))] := by first | (rw [← hwe]; exact hl) | (have e := hl; rw [hwe] at e; exact e)
            refine if_ne_t (tgt := 24) hx hb (by decide) dX7_step_19 (by decide) ?_
            refine lv_bipush (v := 14) hx hb dX7_step_24 (by decide) ?_
            refine lv_bipush (v := 16) hx hb dX7_step_26 (by decide) ?_
            refine lv_iload_n hx hb dX7_step_28 rfl (lv_at hl 1 rfl) ?_
            refine lv_imul hx hb dX7_step_29 ?_
            rw [show (((16) * (0)) : Int32) = 0 from by decide]
            refine lv_iadd hx hb dX7_step_30 ?_
            rw [show (((14) + (0)) : Int32) = 14 from by decide]
            refine lv_istore (lv' := [(4, .int (14)), (0, .ref (ma 0)), (1, .int (0)), (2, .int (ix)), (3, .int (2))]) hx hb dX7_step_31 hl (by decide) rfl (fun ls hl => ?_)
            refine lv_iload_n hx hb dX7_step_33 rfl (lv_at hl 3 rfl) ?_
            refine lv_aload_n hx hb dX7_step_34 rfl (lv_at hl 1 rfl) ?_
            refine va_get (D := D) (ci := 7) (v := .ref (ma 1)) (C := RX7) (T := TX7) (N := 11) hx hb hts (by decide +kernel) hown hK.1 hP 0 rfl rfl 0 (by decide) (hts (.fieldLink RX7 7 "ParkingGarageModel" "s" "[I") (by decide +kernel)) (fun _ h9 => h9) rfl dX7_step_35 ?_
            refine lv_iload hx hb dX7_step_38 (lv_at hl 0 rfl) ?_
            refine iald_n (f := enc g lf) hx hb hK.1 hP 1 0 rfl rfl (14) (rfl) (by decide) (by omega) dX7_step_40 ?_
            rw [show enc g lf (14) = nI tn from ht]
            refine lv_icmp_ge (tgt := 62) hx hb dX7_step_41 (by decide) (fun c_8 => ?_) (fun c_8 => ?_)
            · -- c_8: ix ≥ nI tn
              refine lv_bipush (v := -9) hx hb dX7_step_62 (by decide) ?_
              exact rd_iret (v := -9) hx hb hr hlocks dX7_step_64 (Or.inl ⟨⟨h01o, c_3, h_5⟩, Or.inl ⟨h0, Or.inr ⟨ix_big (n := tn) rfl (by omega) c_8, rfl⟩⟩⟩)
            · -- c_8: not ix ≥ nI tn
              obtain ⟨k, hk, hixk⟩ := ix_of (n := tn) rfl (by omega) c_3 (Int32.not_le.mpr (Int32.not_le.mp c_8))
              have hl : lv_has ls 5 [(4, .int (14)), (0, .ref (ma 0)), (1, .int (0)), (2, .int (nI k)), (3, .int (2))] := by rw [← hixk]; exact hl
              refine lv_aload_n hx hb dX7_step_44 rfl (lv_at hl 1 rfl) ?_
              refine va_get (D := D) (ci := 7) (v := .ref (ma 1)) (C := RX7) (T := TX7) (N := 11) hx hb hts (by decide +kernel) hown hK.1 hP 0 rfl rfl 0 (by decide) (hts (.fieldLink RX7 7 "ParkingGarageModel" "s" "[I") (by decide +kernel)) (fun _ h9 => h9) rfl dX7_step_45 ?_
              refine lv_iload hx hb dX7_step_48 (lv_at hl 0 rfl) ?_
              refine lv_iconst (v := 1) hx hb dX7_step_50 (by decide) ?_
              refine lv_iadd hx hb dX7_step_51 ?_
              rw [show (((14) + (1)) : Int32) = 15 from by decide]
              refine lv_iconst (v := 3) hx hb dX7_step_52 (by decide) ?_
              refine lv_iload_n hx hb dX7_step_53 rfl (lv_at hl 3 rfl) ?_
              refine lv_imul hx hb dX7_step_54 ?_
              rw [show (((3) * (nI k)) : Int32) = nI (3 * k) from (nI_mul 3 k)]
              refine lv_iadd hx hb dX7_step_55 ?_
              rw [show (((15) + (nI (3 * k))) : Int32) = nI (15 + 3 * k) from (nI_add 15 (3 * k))]
              refine lv_iload_n hx hb dX7_step_56 rfl (lv_at hl 4 rfl) ?_
              refine lv_iadd hx hb dX7_step_57 ?_
              rw [show (((nI (15 + 3 * k)) + (2)) : Int32) = nI (15 + 3 * k + 2) from (nI_add (15 + 3 * k) 2)]
              refine iald_n (f := enc g lf) hx hb hK.1 hP 1 0 rfl rfl (15 + 3 * k + 2) (rfl) (by omega) (by omega) dX7_step_58 ?_
              rw [show enc g lf (15 + 3 * k + 2) = g 22 k from enc_at (by omega) (posR_lit0 (by omega) (by omega))]
              refine lv_goto (tgt := 64) hx hb dX7_step_59 (by decide) ?_
              exact rd_iret (v := g 22 k) hx hb hr hlocks dX7_step_64 (Or.inl ⟨⟨h01o, c_3, h_5⟩, Or.inl ⟨h0, Or.inl ⟨k, hk, hixk, Or.inr (Or.inr (⟨⟨by rw [hwe]; decide, by rw [hwe]; decide⟩, rfl⟩))⟩⟩⟩)
        · -- tariff 1
          have hl : lv_has ls 5 [(0, .ref (ma 0)), (1, .int (1)), (2, .int (ix)), (3, .int (wh))] := by first | (rw [← h0]; exact hl) | (have e := hl; rw [h0] at e; exact e)
          obtain ⟨w, hw, hwe⟩ := wi_k (N := 2) (by omega) h_5
          rcases (show w = 0 ∨ w = 1 ∨ w = 2 by omega) with rfl | rfl | rfl
          · -- 0
            have hwe : wh = 0 := hwe
            have hl : lv_has ls 5 [(0, .ref (ma 0)), (1, .int (1)), (2, .int (ix)), (3, .int (0))] := by first | (rw [← hwe]; exact hl) | (have e := hl; rw [hwe] at e; exact e)
            refine if_ne_t (tgt := 24) hx hb (by decide) dX7_step_19 (by decide) ?_
            refine lv_bipush (v := 14) hx hb dX7_step_24 (by decide) ?_
            refine lv_bipush (v := 16) hx hb dX7_step_26 (by decide) ?_
            refine lv_iload_n hx hb dX7_step_28 rfl (lv_at hl 1 rfl) ?_
            refine lv_imul hx hb dX7_step_29 ?_
            rw [show (((16) * (1)) : Int32) = 16 from by decide]
            refine lv_iadd hx hb dX7_step_30 ?_
            rw [show (((14) + (16)) : Int32) = 30 from by decide]
            refine lv_istore (lv' := [(4, .int (30)), (0, .ref (ma 0)), (1, .int (1)), (2, .int (ix)), (3, .int (0))]) hx hb dX7_step_31 hl (by decide) rfl (fun ls hl => ?_)
            refine lv_iload_n hx hb dX7_step_33 rfl (lv_at hl 3 rfl) ?_
            refine lv_aload_n hx hb dX7_step_34 rfl (lv_at hl 1 rfl) ?_
            refine va_get (D := D) (ci := 7) (v := .ref (ma 1)) (C := RX7) (T := TX7) (N := 11) hx hb hts (by decide +kernel) hown hK.1 hP 0 rfl rfl 0 (by decide) (hts (.fieldLink RX7 7 "ParkingGarageModel" "s" "[I") (by decide +kernel)) (fun _ h9 => h9) rfl dX7_step_35 ?_
            refine lv_iload hx hb dX7_step_38 (lv_at hl 0 rfl) ?_
            refine iald_n (f := enc g lf) hx hb hK.1 hP 1 0 rfl rfl (30) (rfl) (by decide) (by omega) dX7_step_40 ?_
            rw [show enc g lf (30) = nI tu from hu]
            refine lv_icmp_ge (tgt := 62) hx hb dX7_step_41 (by decide) (fun c_9 => ?_) (fun c_9 => ?_)
            · -- c_9: ix ≥ nI tu
              refine lv_bipush (v := -9) hx hb dX7_step_62 (by decide) ?_
              exact rd_iret (v := -9) hx hb hr hlocks dX7_step_64 (Or.inl ⟨⟨h01o, c_3, h_5⟩, Or.inr ⟨by rw [h0]; decide, Or.inr ⟨ix_big (n := tu) rfl (by omega) c_9, rfl⟩⟩⟩)
            · -- c_9: not ix ≥ nI tu
              obtain ⟨k, hk, hixk⟩ := ix_of (n := tu) rfl (by omega) c_3 (Int32.not_le.mpr (Int32.not_le.mp c_9))
              have hl : lv_has ls 5 [(4, .int (30)), (0, .ref (ma 0)), (1, .int (1)), (2, .int (nI k)), (3, .int (0))] := by rw [← hixk]; exact hl
              refine lv_aload_n hx hb dX7_step_44 rfl (lv_at hl 1 rfl) ?_
              refine va_get (D := D) (ci := 7) (v := .ref (ma 1)) (C := RX7) (T := TX7) (N := 11) hx hb hts (by decide +kernel) hown hK.1 hP 0 rfl rfl 0 (by decide) (hts (.fieldLink RX7 7 "ParkingGarageModel" "s" "[I") (by decide +kernel)) (fun _ h9 => h9) rfl dX7_step_45 ?_
              refine lv_iload hx hb dX7_step_48 (lv_at hl 0 rfl) ?_
              refine lv_iconst (v := 1) hx hb dX7_step_50 (by decide) ?_
              refine lv_iadd hx hb dX7_step_51 ?_
              rw [show (((30) + (1)) : Int32) = 31 from by decide]
              refine lv_iconst (v := 3) hx hb dX7_step_52 (by decide) ?_
              refine lv_iload_n hx hb dX7_step_53 rfl (lv_at hl 3 rfl) ?_
              refine lv_imul hx hb dX7_step_54 ?_
              rw [show (((3) * (nI k)) : Int32) = nI (3 * k) from (nI_mul 3 k)]
              refine lv_iadd hx hb dX7_step_55 ?_
              rw [show (((31) + (nI (3 * k))) : Int32) = nI (31 + 3 * k) from (nI_add 31 (3 * k))]
              refine lv_iload_n hx hb dX7_step_56 rfl (lv_at hl 4 rfl) ?_
              refine lv_iadd hx hb dX7_step_57 ?_
              rw [show (((nI (31 + 3 * k)) + (0)) : Int32) = nI (31 + 3 * k + 0) from (nI_add (31 + 3 * k) 0)]
              refine iald_n (f := enc g lf) hx hb hK.1 hP 1 0 rfl rfl (31 + 3 * k + 0) (rfl) (by omega) (by omega) dX7_step_58 ?_
              rw [show enc g lf (31 + 3 * k + 0) = g 24 k from enc_at (by omega) (posR_lit1 (by omega) (by omega))]
              refine lv_goto (tgt := 64) hx hb dX7_step_59 (by decide) ?_
              exact rd_iret (v := g 24 k) hx hb hr hlocks dX7_step_64 (Or.inl ⟨⟨h01o, c_3, h_5⟩, Or.inr ⟨by rw [h0]; decide, Or.inl ⟨k, hk, hixk, Or.inl ⟨hwe, rfl⟩⟩⟩⟩)
          · -- 1
            have hwe : wh = 1 := hwe
            have hl : lv_has ls 5 [(0, .ref (ma 0)), (1, .int (1)), (2, .int (ix)), (3, .int (1))] := by first | (rw [← hwe]; exact hl) | (have e := hl; rw [hwe] at e; exact e)
            refine if_ne_t (tgt := 24) hx hb (by decide) dX7_step_19 (by decide) ?_
            refine lv_bipush (v := 14) hx hb dX7_step_24 (by decide) ?_
            refine lv_bipush (v := 16) hx hb dX7_step_26 (by decide) ?_
            refine lv_iload_n hx hb dX7_step_28 rfl (lv_at hl 1 rfl) ?_
            refine lv_imul hx hb dX7_step_29 ?_
            rw [show (((16) * (1)) : Int32) = 16 from by decide]
            refine lv_iadd hx hb dX7_step_30 ?_
            rw [show (((14) + (16)) : Int32) = 30 from by decide]
            refine lv_istore (lv' := [(4, .int (30)), (0, .ref (ma 0)), (1, .int (1)), (2, .int (ix)), (3, .int (1))]) hx hb dX7_step_31 hl (by decide) rfl (fun ls hl => ?_)
            refine lv_iload_n hx hb dX7_step_33 rfl (lv_at hl 3 rfl) ?_
            refine lv_aload_n hx hb dX7_step_34 rfl (lv_at hl 1 rfl) ?_
            refine va_get (D := D) (ci := 7) (v := .ref (ma 1)) (C := RX7) (T := TX7) (N := 11) hx hb hts (by decide +kernel) hown hK.1 hP 0 rfl rfl 0 (by decide) (hts (.fieldLink RX7 7 "ParkingGarageModel" "s" "[I") (by decide +kernel)) (fun _ h9 => h9) rfl dX7_step_35 ?_
            refine lv_iload hx hb dX7_step_38 (lv_at hl 0 rfl) ?_
            refine iald_n (f := enc g lf) hx hb hK.1 hP 1 0 rfl rfl (30) (rfl) (by decide) (by omega) dX7_step_40 ?_
            rw [show enc g lf (30) = nI tu from hu]
            refine lv_icmp_ge (tgt := 62) hx hb dX7_step_41 (by decide) (fun c_10 => ?_) (fun c_10 => ?_)
            · -- c_10: ix ≥ nI tu
              refine lv_bipush (v := -9) hx hb dX7_step_62 (by decide) ?_
              exact rd_iret (v := -9) hx hb hr hlocks dX7_step_64 (Or.inl ⟨⟨h01o, c_3, h_5⟩, Or.inr ⟨by rw [h0]; decide, Or.inr ⟨ix_big (n := tu) rfl (by omega) c_10, rfl⟩⟩⟩)
            · -- c_10: not ix ≥ nI tu
              obtain ⟨k, hk, hixk⟩ := ix_of (n := tu) rfl (by omega) c_3 (Int32.not_le.mpr (Int32.not_le.mp c_10))
              have hl : lv_has ls 5 [(4, .int (30)), (0, .ref (ma 0)), (1, .int (1)), (2, .int (nI k)), (3, .int (1))] := by rw [← hixk]; exact hl
              refine lv_aload_n hx hb dX7_step_44 rfl (lv_at hl 1 rfl) ?_
              refine va_get (D := D) (ci := 7) (v := .ref (ma 1)) (C := RX7) (T := TX7) (N := 11) hx hb hts (by decide +kernel) hown hK.1 hP 0 rfl rfl 0 (by decide) (hts (.fieldLink RX7 7 "ParkingGarageModel" "s" "[I") (by decide +kernel)) (fun _ h9 => h9) rfl dX7_step_45 ?_
              refine lv_iload hx hb dX7_step_48 (lv_at hl 0 rfl) ?_
              refine lv_iconst (v := 1) hx hb dX7_step_50 (by decide) ?_
              refine lv_iadd hx hb dX7_step_51 ?_
              rw [show (((30) + (1)) : Int32) = 31 from by decide]
              refine lv_iconst (v := 3) hx hb dX7_step_52 (by decide) ?_
              refine lv_iload_n hx hb dX7_step_53 rfl (lv_at hl 3 rfl) ?_
              refine lv_imul hx hb dX7_step_54 ?_
              rw [show (((3) * (nI k)) : Int32) = nI (3 * k) from (nI_mul 3 k)]
              refine lv_iadd hx hb dX7_step_55 ?_
              rw [show (((31) + (nI (3 * k))) : Int32) = nI (31 + 3 * k) from (nI_add 31 (3 * k))]
              refine lv_iload_n hx hb dX7_step_56 rfl (lv_at hl 4 rfl) ?_
              refine lv_iadd hx hb dX7_step_57 ?_
              rw [show (((nI (31 + 3 * k)) + (1)) : Int32) = nI (31 + 3 * k + 1) from (nI_add (31 + 3 * k) 1)]
              refine iald_n (f := enc g lf) hx hb hK.1 hP 1 0 rfl rfl (31 + 3 * k + 1) (rfl) (by omega) (by omega) dX7_step_58 ?_
              rw [show enc g lf (31 + 3 * k + 1) = g 25 k from enc_at (by omega) (posR_lit1 (by omega) (by omega))]
              refine lv_goto (tgt := 64) hx hb dX7_step_59 (by decide) ?_
              exact rd_iret (v := g 25 k) hx hb hr hlocks dX7_step_64 (Or.inl ⟨⟨h01o, c_3, h_5⟩, Or.inr ⟨by rw [h0]; decide, Or.inl ⟨k, hk, hixk, Or.inr (Or.inl ⟨hwe, rfl⟩)⟩⟩⟩)
          · -- 2
            have hwe : wh = 2 := hwe
            have hl : lv_has ls 5 [(0, .ref (ma 0)), (1, .int (1)), (2, .int (ix)), (3, .int (2))] := by first | (rw [← hwe]; exact hl) | (have e := hl; rw [hwe] at e; exact e)
            refine if_ne_t (tgt := 24) hx hb (by decide) dX7_step_19 (by decide) ?_
            refine lv_bipush (v := 14) hx hb dX7_step_24 (by decide) ?_
            refine lv_bipush (v := 16) hx hb dX7_step_26 (by decide) ?_
            refine lv_iload_n hx hb dX7_step_28 rfl (lv_at hl 1 rfl) ?_
            refine lv_imul hx hb dX7_step_29 ?_
            rw [show (((16) * (1)) : Int32) = 16 from by decide]
            refine lv_iadd hx hb dX7_step_30 ?_
            rw [show (((14) + (16)) : Int32) = 30 from by decide]
            refine lv_istore (lv' := [(4, .int (30)), (0, .ref (ma 0)), (1, .int (1)), (2, .int (ix)), (3, .int (2))]) hx hb dX7_step_31 hl (by decide) rfl (fun ls hl => ?_)
            refine lv_iload_n hx hb dX7_step_33 rfl (lv_at hl 3 rfl) ?_
            refine lv_aload_n hx hb dX7_step_34 rfl (lv_at hl 1 rfl) ?_
            refine va_get (D := D) (ci := 7) (v := .ref (ma 1)) (C := RX7) (T := TX7) (N := 11) hx hb hts (by decide +kernel) hown hK.1 hP 0 rfl rfl 0 (by decide) (hts (.fieldLink RX7 7 "ParkingGarageModel" "s" "[I") (by decide +kernel)) (fun _ h9 => h9) rfl dX7_step_35 ?_
            refine lv_iload hx hb dX7_step_38 (lv_at hl 0 rfl) ?_
            refine iald_n (f := enc g lf) hx hb hK.1 hP 1 0 rfl rfl (30) (rfl) (by decide) (by omega) dX7_step_40 ?_
            rw [show enc g lf (30) = nI tu from hu]
            refine lv_icmp_ge (tgt := 62) hx hb dX7_step_41 (by decide) (fun c_11 => ?_) (fun c_11 => ?_)
            · -- c_11: ix ≥ nI tu
              refine lv_bipush (v := -9) hx hb dX7_step_62 (by decide) ?_
              exact rd_iret (v := -9) hx hb hr hlocks dX7_step_64 (Or.inl ⟨⟨h01o, c_3, h_5⟩, Or.inr ⟨by rw [h0]; decide, Or.inr ⟨ix_big (n := tu) rfl (by omega) c_11, rfl⟩⟩⟩)
            · -- c_11: not ix ≥ nI tu
              obtain ⟨k, hk, hixk⟩ := ix_of (n := tu) rfl (by omega) c_3 (Int32.not_le.mpr (Int32.not_le.mp c_11))
              have hl : lv_has ls 5 [(4, .int (30)), (0, .ref (ma 0)), (1, .int (1)), (2, .int (nI k)), (3, .int (2))] := by rw [← hixk]; exact hl
              refine lv_aload_n hx hb dX7_step_44 rfl (lv_at hl 1 rfl) ?_
              refine va_get (D := D) (ci := 7) (v := .ref (ma 1)) (C := RX7) (T := TX7) (N := 11) hx hb hts (by decide +kernel) hown hK.1 hP 0 rfl rfl 0 (by decide) (hts (.fieldLink RX7 7 "ParkingGarageModel" "s" "[I") (by decide +kernel)) (fun _ h9 => h9) rfl dX7_step_45 ?_
              refine lv_iload hx hb dX7_step_48 (lv_at hl 0 rfl) ?_
              refine lv_iconst (v := 1) hx hb dX7_step_50 (by decide) ?_
              refine lv_iadd hx hb dX7_step_51 ?_
              rw [show (((30) + (1)) : Int32) = 31 from by decide]
              refine lv_iconst (v := 3) hx hb dX7_step_52 (by decide) ?_
              refine lv_iload_n hx hb dX7_step_53 rfl (lv_at hl 3 rfl) ?_
              refine lv_imul hx hb dX7_step_54 ?_
              rw [show (((3) * (nI k)) : Int32) = nI (3 * k) from (nI_mul 3 k)]
              refine lv_iadd hx hb dX7_step_55 ?_
              rw [show (((31) + (nI (3 * k))) : Int32) = nI (31 + 3 * k) from (nI_add 31 (3 * k))]
              refine lv_iload_n hx hb dX7_step_56 rfl (lv_at hl 4 rfl) ?_
              refine lv_iadd hx hb dX7_step_57 ?_
              rw [show (((nI (31 + 3 * k)) + (2)) : Int32) = nI (31 + 3 * k + 2) from (nI_add (31 + 3 * k) 2)]
              refine iald_n (f := enc g lf) hx hb hK.1 hP 1 0 rfl rfl (31 + 3 * k + 2) (rfl) (by omega) (by omega) dX7_step_58 ?_
              rw [show enc g lf (31 + 3 * k + 2) = g 26 k from enc_at (by omega) (posR_lit1 (by omega) (by omega))]
              refine lv_goto (tgt := 64) hx hb dX7_step_59 (by decide) ?_
              exact rd_iret (v := g 26 k) hx hb hr hlocks dX7_step_64 (Or.inl ⟨⟨h01o, c_3, h_5⟩, Or.inr ⟨by rw [h0]; decide, Or.inl ⟨k, hk, hixk, Or.inr (Or.inr (⟨⟨by rw [hwe]; decide, by rw [hwe]; decide⟩, rfl⟩))⟩⟩⟩)
      · -- X7_in f
        refine if_ne_f (tgt := 24) hx hb rfl dX7_step_19 (by decide) ?_
        refine lv_iconst (v := -1) hx hb dX7_step_22 (by decide) ?_
        exact rd_iret (v := -1) hx hb hr hlocks dX7_step_23 (Or.inr ⟨fun q => h_5 q.2.2, rfl⟩)
  · -- X7_in f
    refine if_eq_t (tgt := 22) hx hb rfl dX7_step_6 (by decide) ?_
    refine lv_iconst (v := -1) hx hb dX7_step_22 (by decide) ?_
    exact rd_iret (v := -1) hx hb hr hlocks dX7_step_23 (Or.inr ⟨fun q => h_2 (wi01_iff.mpr q.1), rfl⟩)
set_option maxHeartbeats 4000000 in
set_option maxRecDepth 100000 in
theorem c_X7_account (l : Launch) (D : va_G) (cI cC cB cS : ClassId) (ma : Nat → Nat) (fi : Nat → Int32) (wd : Int64) (g : Nat → Nat → Int32) (lf : Int32) (x : Int32) : Met l yX7_account wsX7_account ({ frames := 1, cells := 0, slots := 0, locals := 22 } : Room) (rdPc D (TYS cI cC cB cS) [.ref (ma 0), .int (x)] ([mO ma fi wd, (ma 1, iE cI 382 (enc g lf))])) (vp_Si (fun r => aAcc g x r)) 0 0 (fun _ => False) := by
  refine rd_intro (by decide) rfl (Nat.le_of_ble_eq_true rfl) ?_
  intro p e s m below meth c hx hb hr hml hts hown hlocks hP hK ls hl
  have hP : va_P D vwCl [(ma 0, oE 7 [.ref (ma 1), .ref (ma 2), .int (fi 0), .ref (ma 3), .ref (ma 4), .int (fi 1), .int (fi 2), .int (fi 3), .long (wd), .int (fi 4), .int (fi 5)]), (ma 1, iE cI 382 (enc g lf))] s.heap := hP
  have hown : s.vm.findClass RX7 = some m.cls := hown
  have hl : lv_has ls 2 [(0, .ref (ma 0)), (1, .int (x))] := hl
  refine lv_iload_n hx hb dX7_account_0 rfl (lv_at hl 1 rfl) ?_
  refine lv_iconst (v := -1) hx hb dX7_account_1 (by decide) ?_
  refine lv_iconst (v := 3) hx hb dX7_account_2 (by decide) ?_
  refine cs_i (As := [.int (x), .int (-1), .int (3)]) (rest := []) (tys := TYS cI cC cB cS) ⟨hx, hb, hml, hown, hts⟩ (c_X7_in l D cI cC cB cS (x) (-1) (3)) (va_cwS 3 hts gX7_account_X7_in rfl rfl rfl (by decide +kernel) ⟨Nat.le_of_ble_eq_true rfl, Nat.le_of_ble_eq_true rfl⟩) hK hP [] rfl rfl rfl hl.1 (Nat.le_of_ble_eq_true rfl) dX7_account_3 ⟨Nat.le_of_ble_eq_true rfl, Nat.le_of_ble_eq_true rfl⟩ (fun r_1 hr_1 => ?_)
  rcases (show Yes (-1 ≤ x ∧ x ≤ 3) r_1 from hr_1) with ⟨rfl, h_2⟩ | ⟨rfl, h_2⟩
  · -- X7_in t
    refine if_ne_t (tgt := 11) hx hb (by decide) dX7_account_6 (by decide) ?_
    refine lv_iload_n hx hb dX7_account_11 rfl (lv_at hl 1 rfl) ?_
    refine lv_if_lt (tgt := 27) hx hb dX7_account_12 (by decide) (fun c_3 => ?_) (fun c_3 => ?_)
    · -- c_3: x < 0
      refine lv_aload_n hx hb dX7_account_27 rfl (lv_at hl 0 rfl) ?_
      refine va_get (D := D) (ci := 7) (v := .ref (ma 1)) (C := RX7) (T := TX7) (N := 11) hx hb hts (by decide +kernel) hown hK.1 hP 0 rfl rfl 0 (by decide) (hts (.fieldLink RX7 7 "ParkingGarageModel" "s" "[I") (by decide +kernel)) (fun _ h9 => h9) rfl dX7_account_28 ?_
      refine lv_bipush (v := 10) hx hb dX7_account_31 (by decide) ?_
      refine iald_n (f := enc g lf) hx hb hK.1 hP 1 0 rfl rfl (10) (rfl) (by decide) (by omega) dX7_account_33 ?_
      rw [show enc g lf (10) = g 2 0 from rfl]
      refine lv_aload_n hx hb dX7_account_34 rfl (lv_at hl 0 rfl) ?_
      refine va_get (D := D) (ci := 7) (v := .ref (ma 1)) (C := RX7) (T := TX7) (N := 11) hx hb hts (by decide +kernel) hown hK.1 hP 0 rfl rfl 0 (by decide) (hts (.fieldLink RX7 7 "ParkingGarageModel" "s" "[I") (by decide +kernel)) (fun _ h9 => h9) rfl dX7_account_35 ?_
      refine lv_bipush (v := 11) hx hb dX7_account_38 (by decide) ?_
      refine iald_n (f := enc g lf) hx hb hK.1 hP 1 0 rfl rfl (11) (rfl) (by decide) (by omega) dX7_account_40 ?_
      rw [show enc g lf (11) = g 2 1 from rfl]
      refine lv_iadd hx hb dX7_account_41 ?_
      refine lv_aload_n hx hb dX7_account_42 rfl (lv_at hl 0 rfl) ?_
      refine va_get (D := D) (ci := 7) (v := .ref (ma 1)) (C := RX7) (T := TX7) (N := 11) hx hb hts (by decide +kernel) hown hK.1 hP 0 rfl rfl 0 (by decide) (hts (.fieldLink RX7 7 "ParkingGarageModel" "s" "[I") (by decide +kernel)) (fun _ h9 => h9) rfl dX7_account_43 ?_
      refine lv_bipush (v := 12) hx hb dX7_account_46 (by decide) ?_
      refine iald_n (f := enc g lf) hx hb hK.1 hP 1 0 rfl rfl (12) (rfl) (by decide) (by omega) dX7_account_48 ?_
      rw [show enc g lf (12) = g 2 2 from rfl]
      refine lv_iadd hx hb dX7_account_49 ?_
      refine lv_aload_n hx hb dX7_account_50 rfl (lv_at hl 0 rfl) ?_
      refine va_get (D := D) (ci := 7) (v := .ref (ma 1)) (C := RX7) (T := TX7) (N := 11) hx hb hts (by decide +kernel) hown hK.1 hP 0 rfl rfl 0 (by decide) (hts (.fieldLink RX7 7 "ParkingGarageModel" "s" "[I") (by decide +kernel)) (fun _ h9 => h9) rfl dX7_account_51 ?_
      refine lv_bipush (v := 13) hx hb dX7_account_54 (by decide) ?_
      refine iald_n (f := enc g lf) hx hb hK.1 hP 1 0 rfl rfl (13) (rfl) (by decide) (by omega) dX7_account_56 ?_
      rw [show enc g lf (13) = g 2 3 from rfl]
      refine lv_iadd hx hb dX7_account_57 ?_
      exact rd_iret (v := (((g 2 0) + (g 2 1)) + (g 2 2)) + (g 2 3)) hx hb hr hlocks dX7_account_58 (Or.inl ⟨h_2, Or.inl ⟨c_3, by rw [Int32.zero_add]⟩⟩)
    · -- c_3: not x < 0
      obtain ⟨k, hk, hxk⟩ := wi_k (N := 3) (by omega) ⟨Int32.not_lt.mp c_3, h_2.2⟩
      have hl : lv_has ls 2 [(0, .ref (ma 0)), (1, .int (nI k))] := by rw [← hxk]; exact hl
      refine lv_aload_n hx hb dX7_account_15 rfl (lv_at hl 0 rfl) ?_
      refine va_get (D := D) (ci := 7) (v := .ref (ma 1)) (C := RX7) (T := TX7) (N := 11) hx hb hts (by decide +kernel) hown hK.1 hP 0 rfl rfl 0 (by decide) (hts (.fieldLink RX7 7 "ParkingGarageModel" "s" "[I") (by decide +kernel)) (fun _ h9 => h9) rfl dX7_account_16 ?_
      refine lv_bipush (v := 10) hx hb dX7_account_19 (by decide) ?_
      refine lv_iload_n hx hb dX7_account_21 rfl (lv_at hl 1 rfl) ?_
      refine lv_iadd hx hb dX7_account_22 ?_
      rw [show (((10) + (nI k)) : Int32) = nI (10 + k) from (nI_add 10 k)]
      refine iald_n (f := enc g lf) hx hb hK.1 hP 1 0 rfl rfl (10 + k) (rfl) (by omega) (by omega) dX7_account_23 ?_
      rw [show enc g lf (10 + k) = g 2 k from enc_at (by omega) (posR_acc (by omega))]
      refine lv_goto (tgt := 58) hx hb dX7_account_24 (by decide) ?_
      exact rd_iret (v := g 2 k) hx hb hr hlocks dX7_account_58 (Or.inl ⟨h_2, Or.inr ⟨c_3, k, hk, hxk, rfl⟩⟩)
  · -- X7_in f
    refine if_ne_f (tgt := 11) hx hb rfl dX7_account_6 (by decide) ?_
    refine lv_iconst (v := -1) hx hb dX7_account_9 (by decide) ?_
    exact rd_iret (v := -1) hx hb hr hlocks dX7_account_10 (Or.inr ⟨fun q => h_2 q, rfl⟩)
set_option maxHeartbeats 4000000 in
set_option maxRecDepth 100000 in
theorem c_X7_count (l : Launch) (D : va_G) (cI cC cB cS : ClassId) (ma : Nat → Nat) (fi : Nat → Int32) (wd : Int64) (g : Nat → Nat → Int32) (lf : Int32) (n : Nat) (q : Nat) (np : Nat) (z0 : Nat) (x : Int32) (hn : g 3 0 = nI n) (hnb : n ≤ 30) (hq : g 12 0 = nI q) (hqc : q ≤ 16) (hps : fi 0 = nI np) (hz0 : Cnt (fun w => ¬ g 8 w = 0) n z0) (hz1 : g 0 1 - lf = nI z0) : Met l yX7_count wsX7_count ({ frames := 1, cells := 0, slots := 0, locals := 22 } : Room) (rdPc D (TYS cI cC cB cS) [.ref (ma 0), .int (x)] ([mO ma fi wd, (ma 1, iE cI 382 (enc g lf))])) (vp_Si (fun r => aCount g n q (fi 1) np x r)) 0 0 (fun _ => False) := by
  refine rd_intro (by decide) rfl (Nat.le_of_ble_eq_true rfl) ?_
  intro p e s m below meth c hx hb hr hml hts hown hlocks hP hK ls hl
  have hP : va_P D vwCl [(ma 0, oE 7 [.ref (ma 1), .ref (ma 2), .int (fi 0), .ref (ma 3), .ref (ma 4), .int (fi 1), .int (fi 2), .int (fi 3), .long (wd), .int (fi 4), .int (fi 5)]), (ma 1, iE cI 382 (enc g lf))] s.heap := hP
  have hown : s.vm.findClass RX7 = some m.cls := hown
  have hl : lv_has ls 2 [(0, .ref (ma 0)), (1, .int (x))] := hl
  refine lv_iload_n hx hb dX7_count_0 rfl (lv_at hl 1 rfl) ?_
  by_cases e_1 : x = 0
  · -- case 0
    refine lv_tableIn (off := 67) (tgt := 68) hx hb dX7_count_1 (by rw [e_1]; decide) (by rw [e_1]; decide) (by rw [e_1]; decide +kernel) (by decide) ?_
    refine lv_aload_n hx hb dX7_count_68 rfl (lv_at hl 0 rfl) ?_
    refine va_get (D := D) (ci := 7) (v := .ref (ma 1)) (C := RX7) (T := TX7) (N := 11) hx hb hts (by decide +kernel) hown hK.1 hP 0 rfl rfl 0 (by decide) (hts (.fieldLink RX7 7 "ParkingGarageModel" "s" "[I") (by decide +kernel)) (fun _ h9 => h9) rfl dX7_count_69 ?_
    refine lv_iconst (v := 1) hx hb dX7_count_72 (by decide) ?_
    refine iald_n (f := enc g lf) hx hb hK.1 hP 1 0 rfl rfl (1) (rfl) (by decide) (by omega) dX7_count_73 ?_
    rw [show enc g lf (1) = nI n from hn]
    exact rd_iret (v := nI n) hx hb hr hlocks dX7_count_74 (Or.inl ⟨e_1, rfl⟩)
  by_cases e_2 : x = 1
  · -- case 1
    refine lv_tableIn (off := 74) (tgt := 75) hx hb dX7_count_1 (by rw [e_2]; decide) (by rw [e_2]; decide) (by rw [e_2]; decide +kernel) (by decide) ?_
    refine lv_aload_n hx hb dX7_count_75 rfl (lv_at hl 0 rfl) ?_
    refine va_get (D := D) (ci := 7) (v := .ref (ma 1)) (C := RX7) (T := TX7) (N := 11) hx hb hts (by decide +kernel) hown hK.1 hP 0 rfl rfl 0 (by decide) (hts (.fieldLink RX7 7 "ParkingGarageModel" "s" "[I") (by decide +kernel)) (fun _ h9 => h9) rfl dX7_count_76 ?_
    refine lv_iconst (v := 2) hx hb dX7_count_79 (by decide) ?_
    refine iald_n (f := enc g lf) hx hb hK.1 hP 1 0 rfl rfl (2) (rfl) (by decide) (by omega) dX7_count_80 ?_
    rw [show enc g lf (2) = nI q from hq]
    exact rd_iret (v := nI q) hx hb hr hlocks dX7_count_81 (Or.inr (Or.inl ⟨e_2, rfl⟩))
  by_cases e_3 : x = 2
  · -- case 2
    refine lv_tableIn (off := 81) (tgt := 82) hx hb dX7_count_1 (by rw [e_3]; decide) (by rw [e_3]; decide) (by rw [e_3]; decide +kernel) (by decide) ?_
    refine lv_aload_n hx hb dX7_count_82 rfl (lv_at hl 0 rfl) ?_
    refine va_get (D := D) (ci := 7) (v := .ref (ma 1)) (C := RX7) (T := TX7) (N := 11) hx hb hts (by decide +kernel) hown hK.1 hP 0 rfl rfl 0 (by decide) (hts (.fieldLink RX7 7 "ParkingGarageModel" "s" "[I") (by decide +kernel)) (fun _ h9 => h9) rfl dX7_count_83 ?_
    refine lv_iconst (v := 3) hx hb dX7_count_86 (by decide) ?_
    refine iald_n (f := enc g lf) hx hb hK.1 hP 1 0 rfl rfl (3) (rfl) (by decide) (by omega) dX7_count_87 ?_
    rw [show enc g lf (3) = g 0 1 from rfl]
    exact rd_iret (v := g 0 1) hx hb hr hlocks dX7_count_88 (Or.inr (Or.inr (Or.inl ⟨e_3, rfl⟩)))
  by_cases e_4 : x = 3
  · -- case 3
    refine lv_tableIn (off := 88) (tgt := 89) hx hb dX7_count_1 (by rw [e_4]; decide) (by rw [e_4]; decide) (by rw [e_4]; decide +kernel) (by decide) ?_
    refine lv_aload_n hx hb dX7_count_89 rfl (lv_at hl 0 rfl) ?_
    refine va_get (D := D) (ci := 7) (v := .ref (ma 1)) (C := RX7) (T := TX7) (N := 11) hx hb hts (by decide +kernel) hown hK.1 hP 0 rfl rfl 0 (by decide) (hts (.fieldLink RX7 7 "ParkingGarageModel" "s" "[I") (by decide +kernel)) (fun _ h9 => h9) rfl dX7_count_90 ?_
    refine lv_iconst (v := 3) hx hb dX7_count_93 (by decide) ?_
    refine iald_n (f := enc g lf) hx hb hK.1 hP 1 0 rfl rfl (3) (rfl) (by decide) (by omega) dX7_count_94 ?_
    rw [show enc g lf (3) = g 0 1 from rfl]
    refine lv_aload_n hx hb dX7_count_95 rfl (lv_at hl 0 rfl) ?_
    refine va_get (D := D) (ci := 7) (v := .ref (ma 1)) (C := RX7) (T := TX7) (N := 11) hx hb hts (by decide +kernel) hown hK.1 hP 0 rfl rfl 0 (by decide) (hts (.fieldLink RX7 7 "ParkingGarageModel" "s" "[I") (by decide +kernel)) (fun _ h9 => h9) rfl dX7_count_96 ?_
    refine lv_iconst (v := 4) hx hb dX7_count_99 (by decide) ?_
    refine iald_n (f := enc g lf) hx hb hK.1 hP 1 0 rfl rfl (4) (rfl) (by decide) (by omega) dX7_count_100 ?_
    rw [show enc g lf (4) = lf from rfl]
    refine lv_isub hx hb dX7_count_101 ?_
    exact rd_iret (v := (g 0 1) - (lf)) hx hb hr hlocks dX7_count_102 (Or.inr (Or.inr (Or.inr (Or.inl ⟨e_4, z0, hz0, hz1⟩))))
  by_cases e_5 : x = 4
  · -- case 4
    refine lv_tableIn (off := 102) (tgt := 103) hx hb dX7_count_1 (by rw [e_5]; decide) (by rw [e_5]; decide) (by rw [e_5]; decide +kernel) (by decide) ?_
    refine lv_aload_n hx hb dX7_count_103 rfl (lv_at hl 0 rfl) ?_
    refine va_get (D := D) (ci := 7) (v := .ref (ma 1)) (C := RX7) (T := TX7) (N := 11) hx hb hts (by decide +kernel) hown hK.1 hP 0 rfl rfl 0 (by decide) (hts (.fieldLink RX7 7 "ParkingGarageModel" "s" "[I") (by decide +kernel)) (fun _ h9 => h9) rfl dX7_count_104 ?_
    refine lv_iconst (v := 4) hx hb dX7_count_107 (by decide) ?_
    refine iald_n (f := enc g lf) hx hb hK.1 hP 1 0 rfl rfl (4) (rfl) (by decide) (by omega) dX7_count_108 ?_
    rw [show enc g lf (4) = lf from rfl]
    exact rd_iret (v := lf) hx hb hr hlocks dX7_count_109 (Or.inr (Or.inr (Or.inr (Or.inr (Or.inl ⟨e_5, z0, hz0, by rw [← hz1, i_sub_sub]⟩)))))
  by_cases e_6 : x = 5
  · -- case 5
    refine lv_tableIn (off := 109) (tgt := 110) hx hb dX7_count_1 (by rw [e_6]; decide) (by rw [e_6]; decide) (by rw [e_6]; decide +kernel) (by decide) ?_
    refine lv_aload_n hx hb dX7_count_110 rfl (lv_at hl 0 rfl) ?_
    refine va_get (D := D) (ci := 7) (v := .ref (ma 1)) (C := RX7) (T := TX7) (N := 11) hx hb hts (by decide +kernel) hown hK.1 hP 0 rfl rfl 0 (by decide) (hts (.fieldLink RX7 7 "ParkingGarageModel" "s" "[I") (by decide +kernel)) (fun _ h9 => h9) rfl dX7_count_111 ?_
    refine lv_iconst (v := 0) hx hb dX7_count_114 (by decide) ?_
    refine iald_n (f := enc g lf) hx hb hK.1 hP 1 0 rfl rfl (0) (rfl) (by decide) (by omega) dX7_count_115 ?_
    rw [show enc g lf (0) = g 0 0 from rfl]
    exact rd_iret (v := g 0 0) hx hb hr hlocks dX7_count_116 (Or.inr (Or.inr (Or.inr (Or.inr (Or.inr (Or.inl ⟨e_6, rfl⟩))))))
  by_cases e_7 : x = 6
  · -- case 6
    refine lv_tableIn (off := 126) (tgt := 127) hx hb dX7_count_1 (by rw [e_7]; decide) (by rw [e_7]; decide) (by rw [e_7]; decide +kernel) (by decide) ?_
    refine lv_iload_n hx hb dX7_count_127 rfl (lv_at hl 1 rfl) ?_
    refine lv_bipush (v := 6) hx hb dX7_count_128 (by decide) ?_
    refine lv_bipush (v := 10) hx hb dX7_count_130 (by decide) ?_
    refine cs_i (As := [.int (x), .int (6), .int (10)]) (rest := []) (tys := TYS cI cC cB cS) ⟨hx, hb, hml, hown, hts⟩ (c_X7_in l D cI cC cB cS (x) (6) (10)) (va_cwS 3 hts gX7_count_X7_in rfl rfl rfl (by decide +kernel) ⟨Nat.le_of_ble_eq_true rfl, Nat.le_of_ble_eq_true rfl⟩) hK hP [] rfl rfl rfl hl.1 (Nat.le_of_ble_eq_true rfl) dX7_count_132 ⟨Nat.le_of_ble_eq_true rfl, Nat.le_of_ble_eq_true rfl⟩ (fun r_8 hr_8 => ?_)
    rcases (show Yes (6 ≤ x ∧ x ≤ 10) r_8 from hr_8) with ⟨rfl, h_9⟩ | ⟨rfl, h_9⟩
    · -- X7_in t
      obtain ⟨j, hj, hxj⟩ := wi_610 h_9
      have hl : lv_has ls 2 [(0, .ref (ma 0)), (1, .int (nI (6 + j)))] := by rw [← hxj]; exact hl
      refine if_eq_f (tgt := 152) hx hb (by decide) dX7_count_135 (by decide) ?_
      refine lv_aload_n hx hb dX7_count_138 rfl (lv_at hl 0 rfl) ?_
      refine va_get (D := D) (ci := 7) (v := .ref (ma 1)) (C := RX7) (T := TX7) (N := 11) hx hb hts (by decide +kernel) hown hK.1 hP 0 rfl rfl 0 (by decide) (hts (.fieldLink RX7 7 "ParkingGarageModel" "s" "[I") (by decide +kernel)) (fun _ h9 => h9) rfl dX7_count_139 ?_
      refine lv_iconst (v := 5) hx hb dX7_count_142 (by decide) ?_
      refine lv_iload_n hx hb dX7_count_143 rfl (lv_at hl 1 rfl) ?_
      refine lv_iadd hx hb dX7_count_144 ?_
      rw [show (((5) + (nI (6 + j))) : Int32) = nI (5 + (6 + j)) from (nI_add 5 (6 + j))]
      refine lv_bipush (v := 6) hx hb dX7_count_145 (by decide) ?_
      refine lv_isub hx hb dX7_count_147 ?_
      rw [show (((nI (5 + (6 + j))) - (6)) : Int32) = nI (5 + j) from (by rw [show (6 : Int32) = nI 6 from rfl, pk_sub (by omega), show 5 + (6 + j) - 6 = 5 + j by omega])]
      refine iald_n (f := enc g lf) hx hb hK.1 hP 1 0 rfl rfl (5 + j) (rfl) (by omega) (by omega) dX7_count_148 ?_
      rw [show enc g lf (5 + j) = g 1 j from enc_at (by omega) (posR_num (by omega))]
      refine lv_goto (tgt := 153) hx hb dX7_count_149 (by decide) ?_
      exact rd_iret (v := g 1 j) hx hb hr hlocks dX7_count_153 (Or.inr (Or.inr (Or.inr (Or.inr (Or.inr (Or.inr (Or.inl ⟨j, hj, hxj, rfl⟩)))))))
    · -- X7_in f
      refine if_eq_t (tgt := 152) hx hb rfl dX7_count_135 (by decide) ?_
      refine lv_iconst (v := -1) hx hb dX7_count_152 (by decide) ?_
      exact rd_iret (v := -1) hx hb hr hlocks dX7_count_153 (absurd (by rw [e_7]; decide) h_9)
  by_cases e_10 : x = 7
  · -- case 7
    refine lv_tableIn (off := 126) (tgt := 127) hx hb dX7_count_1 (by rw [e_10]; decide) (by rw [e_10]; decide) (by rw [e_10]; decide +kernel) (by decide) ?_
    refine lv_iload_n hx hb dX7_count_127 rfl (lv_at hl 1 rfl) ?_
    refine lv_bipush (v := 6) hx hb dX7_count_128 (by decide) ?_
    refine lv_bipush (v := 10) hx hb dX7_count_130 (by decide) ?_
    refine cs_i (As := [.int (x), .int (6), .int (10)]) (rest := []) (tys := TYS cI cC cB cS) ⟨hx, hb, hml, hown, hts⟩ (c_X7_in l D cI cC cB cS (x) (6) (10)) (va_cwS 3 hts gX7_count_X7_in rfl rfl rfl (by decide +kernel) ⟨Nat.le_of_ble_eq_true rfl, Nat.le_of_ble_eq_true rfl⟩) hK hP [] rfl rfl rfl hl.1 (Nat.le_of_ble_eq_true rfl) dX7_count_132 ⟨Nat.le_of_ble_eq_true rfl, Nat.le_of_ble_eq_true rfl⟩ (fun r_11 hr_11 => ?_)
    rcases (show Yes (6 ≤ x ∧ x ≤ 10) r_11 from hr_11) with ⟨rfl, h_12⟩ | ⟨rfl, h_12⟩
    · -- X7_in t
      obtain ⟨j, hj, hxj⟩ := wi_610 h_12
      have hl : lv_has ls 2 [(0, .ref (ma 0)), (1, .int (nI (6 + j)))] := by rw [← hxj]; exact hl
      refine if_eq_f (tgt := 152) hx hb (by decide) dX7_count_135 (by decide) ?_
      refine lv_aload_n hx hb dX7_count_138 rfl (lv_at hl 0 rfl) ?_
      refine va_get (D := D) (ci := 7) (v := .ref (ma 1)) (C := RX7) (T := TX7) (N := 11) hx hb hts (by decide +kernel) hown hK.1 hP 0 rfl rfl 0 (by decide) (hts (.fieldLink RX7 7 "ParkingGarageModel" "s" "[I") (by decide +kernel)) (fun _ h9 => h9) rfl dX7_count_139 ?_
      refine lv_iconst (v := 5) hx hb dX7_count_142 (by decide) ?_
      refine lv_iload_n hx hb dX7_count_143 rfl (lv_at hl 1 rfl) ?_
      refine lv_iadd hx hb dX7_count_144 ?_
      rw [show (((5) + (nI (6 + j))) : Int32) = nI (5 + (6 + j)) from (nI_add 5 (6 + j))]
      refine lv_bipush (v := 6) hx hb dX7_count_145 (by decide) ?_
      refine lv_isub hx hb dX7_count_147 ?_
      rw [show (((nI (5 + (6 + j))) - (6)) : Int32) = nI (5 + j) from (by rw [show (6 : Int32) = nI 6 from rfl, pk_sub (by omega), show 5 + (6 + j) - 6 = 5 + j by omega])]
      refine iald_n (f := enc g lf) hx hb hK.1 hP 1 0 rfl rfl (5 + j) (rfl) (by omega) (by omega) dX7_count_148 ?_
      rw [show enc g lf (5 + j) = g 1 j from enc_at (by omega) (posR_num (by omega))]
      refine lv_goto (tgt := 153) hx hb dX7_count_149 (by decide) ?_
      exact rd_iret (v := g 1 j) hx hb hr hlocks dX7_count_153 (Or.inr (Or.inr (Or.inr (Or.inr (Or.inr (Or.inr (Or.inl ⟨j, hj, hxj, rfl⟩)))))))
    · -- X7_in f
      refine if_eq_t (tgt := 152) hx hb rfl dX7_count_135 (by decide) ?_
      refine lv_iconst (v := -1) hx hb dX7_count_152 (by decide) ?_
      exact rd_iret (v := -1) hx hb hr hlocks dX7_count_153 (absurd (by rw [e_10]; decide) h_12)
  by_cases e_13 : x = 8
  · -- case 8
    refine lv_tableIn (off := 126) (tgt := 127) hx hb dX7_count_1 (by rw [e_13]; decide) (by rw [e_13]; decide) (by rw [e_13]; decide +kernel) (by decide) ?_
    refine lv_iload_n hx hb dX7_count_127 rfl (lv_at hl 1 rfl) ?_
    refine lv_bipush (v := 6) hx hb dX7_count_128 (by decide) ?_
    refine lv_bipush (v := 10) hx hb dX7_count_130 (by decide) ?_
    refine cs_i (As := [.int (x), .int (6), .int (10)]) (rest := []) (tys := TYS cI cC cB cS) ⟨hx, hb, hml, hown, hts⟩ (c_X7_in l D cI cC cB cS (x) (6) (10)) (va_cwS 3 hts gX7_count_X7_in rfl rfl rfl (by decide +kernel) ⟨Nat.le_of_ble_eq_true rfl, Nat.le_of_ble_eq_true rfl⟩) hK hP [] rfl rfl rfl hl.1 (Nat.le_of_ble_eq_true rfl) dX7_count_132 ⟨Nat.le_of_ble_eq_true rfl, Nat.le_of_ble_eq_true rfl⟩ (fun r_14 hr_14 => ?_)
    rcases (show Yes (6 ≤ x ∧ x ≤ 10) r_14 from hr_14) with ⟨rfl, h_15⟩ | ⟨rfl, h_15⟩
    · -- X7_in t
      obtain ⟨j, hj, hxj⟩ := wi_610 h_15
      have hl : lv_has ls 2 [(0, .ref (ma 0)), (1, .int (nI (6 + j)))] := by rw [← hxj]; exact hl
      refine if_eq_f (tgt := 152) hx hb (by decide) dX7_count_135 (by decide) ?_
      refine lv_aload_n hx hb dX7_count_138 rfl (lv_at hl 0 rfl) ?_
      refine va_get (D := D) (ci := 7) (v := .ref (ma 1)) (C := RX7) (T := TX7) (N := 11) hx hb hts (by decide +kernel) hown hK.1 hP 0 rfl rfl 0 (by decide) (hts (.fieldLink RX7 7 "ParkingGarageModel" "s" "[I") (by decide +kernel)) (fun _ h9 => h9) rfl dX7_count_139 ?_
      refine lv_iconst (v := 5) hx hb dX7_count_142 (by decide) ?_
      refine lv_iload_n hx hb dX7_count_143 rfl (lv_at hl 1 rfl) ?_
      refine lv_iadd hx hb dX7_count_144 ?_
      rw [show (((5) + (nI (6 + j))) : Int32) = nI (5 + (6 + j)) from (nI_add 5 (6 + j))]
      refine lv_bipush (v := 6) hx hb dX7_count_145 (by decide) ?_
      refine lv_isub hx hb dX7_count_147 ?_
      rw [show (((nI (5 + (6 + j))) - (6)) : Int32) = nI (5 + j) from (by rw [show (6 : Int32) = nI 6 from rfl, pk_sub (by omega), show 5 + (6 + j) - 6 = 5 + j by omega])]
      refine iald_n (f := enc g lf) hx hb hK.1 hP 1 0 rfl rfl (5 + j) (rfl) (by omega) (by omega) dX7_count_148 ?_
      rw [show enc g lf (5 + j) = g 1 j from enc_at (by omega) (posR_num (by omega))]
      refine lv_goto (tgt := 153) hx hb dX7_count_149 (by decide) ?_
      exact rd_iret (v := g 1 j) hx hb hr hlocks dX7_count_153 (Or.inr (Or.inr (Or.inr (Or.inr (Or.inr (Or.inr (Or.inl ⟨j, hj, hxj, rfl⟩)))))))
    · -- X7_in f
      refine if_eq_t (tgt := 152) hx hb rfl dX7_count_135 (by decide) ?_
      refine lv_iconst (v := -1) hx hb dX7_count_152 (by decide) ?_
      exact rd_iret (v := -1) hx hb hr hlocks dX7_count_153 (absurd (by rw [e_13]; decide) h_15)
  by_cases e_16 : x = 9
  · -- case 9
    refine lv_tableIn (off := 126) (tgt := 127) hx hb dX7_count_1 (by rw [e_16]; decide) (by rw [e_16]; decide) (by rw [e_16]; decide +kernel) (by decide) ?_
    refine lv_iload_n hx hb dX7_count_127 rfl (lv_at hl 1 rfl) ?_
    refine lv_bipush (v := 6) hx hb dX7_count_128 (by decide) ?_
    refine lv_bipush (v := 10) hx hb dX7_count_130 (by decide) ?_
    refine cs_i (As := [.int (x), .int (6), .int (10)]) (rest := []) (tys := TYS cI cC cB cS) ⟨hx, hb, hml, hown, hts⟩ (c_X7_in l D cI cC cB cS (x) (6) (10)) (va_cwS 3 hts gX7_count_X7_in rfl rfl rfl (by decide +kernel) ⟨Nat.le_of_ble_eq_true rfl, Nat.le_of_ble_eq_true rfl⟩) hK hP [] rfl rfl rfl hl.1 (Nat.le_of_ble_eq_true rfl) dX7_count_132 ⟨Nat.le_of_ble_eq_true rfl, Nat.le_of_ble_eq_true rfl⟩ (fun r_17 hr_17 => ?_)
    rcases (show Yes (6 ≤ x ∧ x ≤ 10) r_17 from hr_17) with ⟨rfl, h_18⟩ | ⟨rfl, h_18⟩
    · -- X7_in t
      obtain ⟨j, hj, hxj⟩ := wi_610 h_18
      have hl : lv_has ls 2 [(0, .ref (ma 0)), (1, .int (nI (6 + j)))] := by rw [← hxj]; exact hl
      refine if_eq_f (tgt := 152) hx hb (by decide) dX7_count_135 (by decide) ?_
      refine lv_aload_n hx hb dX7_count_138 rfl (lv_at hl 0 rfl) ?_
      refine va_get (D := D) (ci := 7) (v := .ref (ma 1)) (C := RX7) (T := TX7) (N := 11) hx hb hts (by decide +kernel) hown hK.1 hP 0 rfl rfl 0 (by decide) (hts (.fieldLink RX7 7 "ParkingGarageModel" "s" "[I") (by decide +kernel)) (fun _ h9 => h9) rfl dX7_count_139 ?_
      refine lv_iconst (v := 5) hx hb dX7_count_142 (by decide) ?_
      refine lv_iload_n hx hb dX7_count_143 rfl (lv_at hl 1 rfl) ?_
      refine lv_iadd hx hb dX7_count_144 ?_
      rw [show (((5) + (nI (6 + j))) : Int32) = nI (5 + (6 + j)) from (nI_add 5 (6 + j))]
      refine lv_bipush (v := 6) hx hb dX7_count_145 (by decide) ?_
      refine lv_isub hx hb dX7_count_147 ?_
      rw [show (((nI (5 + (6 + j))) - (6)) : Int32) = nI (5 + j) from (by rw [show (6 : Int32) = nI 6 from rfl, pk_sub (by omega), show 5 + (6 + j) - 6 = 5 + j by omega])]
      refine iald_n (f := enc g lf) hx hb hK.1 hP 1 0 rfl rfl (5 + j) (rfl) (by omega) (by omega) dX7_count_148 ?_
      rw [show enc g lf (5 + j) = g 1 j from enc_at (by omega) (posR_num (by omega))]
      refine lv_goto (tgt := 153) hx hb dX7_count_149 (by decide) ?_
      exact rd_iret (v := g 1 j) hx hb hr hlocks dX7_count_153 (Or.inr (Or.inr (Or.inr (Or.inr (Or.inr (Or.inr (Or.inl ⟨j, hj, hxj, rfl⟩)))))))
    · -- X7_in f
      refine if_eq_t (tgt := 152) hx hb rfl dX7_count_135 (by decide) ?_
      refine lv_iconst (v := -1) hx hb dX7_count_152 (by decide) ?_
      exact rd_iret (v := -1) hx hb hr hlocks dX7_count_153 (absurd (by rw [e_16]; decide) h_18)
  by_cases e_19 : x = 10
  · -- case 10
    refine lv_tableIn (off := 126) (tgt := 127) hx hb dX7_count_1 (by rw [e_19]; decide) (by rw [e_19]; decide) (by rw [e_19]; decide +kernel) (by decide) ?_
    refine lv_iload_n hx hb dX7_count_127 rfl (lv_at hl 1 rfl) ?_
    refine lv_bipush (v := 6) hx hb dX7_count_128 (by decide) ?_
    refine lv_bipush (v := 10) hx hb dX7_count_130 (by decide) ?_
    refine cs_i (As := [.int (x), .int (6), .int (10)]) (rest := []) (tys := TYS cI cC cB cS) ⟨hx, hb, hml, hown, hts⟩ (c_X7_in l D cI cC cB cS (x) (6) (10)) (va_cwS 3 hts gX7_count_X7_in rfl rfl rfl (by decide +kernel) ⟨Nat.le_of_ble_eq_true rfl, Nat.le_of_ble_eq_true rfl⟩) hK hP [] rfl rfl rfl hl.1 (Nat.le_of_ble_eq_true rfl) dX7_count_132 ⟨Nat.le_of_ble_eq_true rfl, Nat.le_of_ble_eq_true rfl⟩ (fun r_20 hr_20 => ?_)
    rcases (show Yes (6 ≤ x ∧ x ≤ 10) r_20 from hr_20) with ⟨rfl, h_21⟩ | ⟨rfl, h_21⟩
    · -- X7_in t
      obtain ⟨j, hj, hxj⟩ := wi_610 h_21
      have hl : lv_has ls 2 [(0, .ref (ma 0)), (1, .int (nI (6 + j)))] := by rw [← hxj]; exact hl
      refine if_eq_f (tgt := 152) hx hb (by decide) dX7_count_135 (by decide) ?_
      refine lv_aload_n hx hb dX7_count_138 rfl (lv_at hl 0 rfl) ?_
      refine va_get (D := D) (ci := 7) (v := .ref (ma 1)) (C := RX7) (T := TX7) (N := 11) hx hb hts (by decide +kernel) hown hK.1 hP 0 rfl rfl 0 (by decide) (hts (.fieldLink RX7 7 "ParkingGarageModel" "s" "[I") (by decide +kernel)) (fun _ h9 => h9) rfl dX7_count_139 ?_
      refine lv_iconst (v := 5) hx hb dX7_count_142 (by decide) ?_
      refine lv_iload_n hx hb dX7_count_143 rfl (lv_at hl 1 rfl) ?_
      refine lv_iadd hx hb dX7_count_144 ?_
      rw [show (((5) + (nI (6 + j))) : Int32) = nI (5 + (6 + j)) from (nI_add 5 (6 + j))]
      refine lv_bipush (v := 6) hx hb dX7_count_145 (by decide) ?_
      refine lv_isub hx hb dX7_count_147 ?_
      rw [show (((nI (5 + (6 + j))) - (6)) : Int32) = nI (5 + j) from (by rw [show (6 : Int32) = nI 6 from rfl, pk_sub (by omega), show 5 + (6 + j) - 6 = 5 + j by omega])]
      refine iald_n (f := enc g lf) hx hb hK.1 hP 1 0 rfl rfl (5 + j) (rfl) (by omega) (by omega) dX7_count_148 ?_
      rw [show enc g lf (5 + j) = g 1 j from enc_at (by omega) (posR_num (by omega))]
      refine lv_goto (tgt := 153) hx hb dX7_count_149 (by decide) ?_
      exact rd_iret (v := g 1 j) hx hb hr hlocks dX7_count_153 (Or.inr (Or.inr (Or.inr (Or.inr (Or.inr (Or.inr (Or.inl ⟨j, hj, hxj, rfl⟩)))))))
    · -- X7_in f
      refine if_eq_t (tgt := 152) hx hb rfl dX7_count_135 (by decide) ?_
      refine lv_iconst (v := -1) hx hb dX7_count_152 (by decide) ?_
      exact rd_iret (v := -1) hx hb hr hlocks dX7_count_153 (absurd (by rw [e_19]; decide) h_21)
  by_cases e_22 : x = 11
  · -- case 11
    refine lv_tableIn (off := 116) (tgt := 117) hx hb dX7_count_1 (by rw [e_22]; decide) (by rw [e_22]; decide) (by rw [e_22]; decide +kernel) (by decide) ?_
    refine lv_aload_n hx hb dX7_count_117 rfl (lv_at hl 0 rfl) ?_
    refine va_get (D := D) (ci := 7) (v := .int (fi 1)) (C := RX7) (T := TX7) (N := 11) hx hb hts (by decide +kernel) hown hK.1 hP 0 rfl rfl 5 (by decide) (hts (.fieldLink RX7 82 "ParkingGarageModel" "typed" "I") (by decide +kernel)) (fun _ h9 => h9) rfl dX7_count_118 ?_
    exact rd_iret (v := fi 1) hx hb hr hlocks dX7_count_121 (Or.inr (Or.inr (Or.inr (Or.inr (Or.inr (Or.inr (Or.inr (Or.inl ⟨e_22, rfl⟩))))))))
  by_cases e_23 : x = 12
  · -- case 12
    refine lv_tableIn (off := 121) (tgt := 122) hx hb dX7_count_1 (by rw [e_23]; decide) (by rw [e_23]; decide) (by rw [e_23]; decide +kernel) (by decide) ?_
    refine lv_aload_n hx hb dX7_count_122 rfl (lv_at hl 0 rfl) ?_
    refine va_get (D := D) (ci := 7) (v := .int (fi 0)) (C := RX7) (T := TX7) (N := 11) hx hb hts (by decide +kernel) hown hK.1 hP 0 rfl rfl 2 (by decide) (hts (.fieldLink RX7 27 "ParkingGarageModel" "pasts" "I") (by decide +kernel)) (fun _ h9 => h9) rfl dX7_count_123 ?_
    exact rd_iret (v := fi 0) hx hb hr hlocks dX7_count_126 (Or.inr (Or.inr (Or.inr (Or.inr (Or.inr (Or.inr (Or.inr (Or.inr (Or.inl ⟨e_23, hps⟩)))))))))
  have hout : (x).toInt < 0 ∨ 12 < (x).toInt := by
    have z0 := lv_neT e_1 (show ((0 : Int32)).toInt = 0 from by decide)
    have z1 := lv_neT e_2 (show ((1 : Int32)).toInt = 1 from by decide)
    have z2 := lv_neT e_3 (show ((2 : Int32)).toInt = 2 from by decide)
    have z3 := lv_neT e_4 (show ((3 : Int32)).toInt = 3 from by decide)
    have z4 := lv_neT e_5 (show ((4 : Int32)).toInt = 4 from by decide)
    have z5 := lv_neT e_6 (show ((5 : Int32)).toInt = 5 from by decide)
    have z6 := lv_neT e_7 (show ((6 : Int32)).toInt = 6 from by decide)
    have z7 := lv_neT e_10 (show ((7 : Int32)).toInt = 7 from by decide)
    have z8 := lv_neT e_13 (show ((8 : Int32)).toInt = 8 from by decide)
    have z9 := lv_neT e_16 (show ((9 : Int32)).toInt = 9 from by decide)
    have z10 := lv_neT e_19 (show ((10 : Int32)).toInt = 10 from by decide)
    have z11 := lv_neT e_22 (show ((11 : Int32)).toInt = 11 from by decide)
    have z12 := lv_neT e_23 (show ((12 : Int32)).toInt = 12 from by decide)
    omega
  refine lv_tableOut (tgt := 127) hx hb dX7_count_1 hout (by decide) ?_
  refine lv_iload_n hx hb dX7_count_127 rfl (lv_at hl 1 rfl) ?_
  refine lv_bipush (v := 6) hx hb dX7_count_128 (by decide) ?_
  refine lv_bipush (v := 10) hx hb dX7_count_130 (by decide) ?_
  refine cs_i (As := [.int (x), .int (6), .int (10)]) (rest := []) (tys := TYS cI cC cB cS) ⟨hx, hb, hml, hown, hts⟩ (c_X7_in l D cI cC cB cS (x) (6) (10)) (va_cwS 3 hts gX7_count_X7_in rfl rfl rfl (by decide +kernel) ⟨Nat.le_of_ble_eq_true rfl, Nat.le_of_ble_eq_true rfl⟩) hK hP [] rfl rfl rfl hl.1 (Nat.le_of_ble_eq_true rfl) dX7_count_132 ⟨Nat.le_of_ble_eq_true rfl, Nat.le_of_ble_eq_true rfl⟩ (fun r_24 hr_24 => ?_)
  rcases (show Yes (6 ≤ x ∧ x ≤ 10) r_24 from hr_24) with ⟨rfl, h_25⟩ | ⟨rfl, h_25⟩
  · -- X7_in t
    obtain ⟨j, hj, hxj⟩ := wi_610 h_25
    have hl : lv_has ls 2 [(0, .ref (ma 0)), (1, .int (nI (6 + j)))] := by rw [← hxj]; exact hl
    refine if_eq_f (tgt := 152) hx hb (by decide) dX7_count_135 (by decide) ?_
    refine lv_aload_n hx hb dX7_count_138 rfl (lv_at hl 0 rfl) ?_
    refine va_get (D := D) (ci := 7) (v := .ref (ma 1)) (C := RX7) (T := TX7) (N := 11) hx hb hts (by decide +kernel) hown hK.1 hP 0 rfl rfl 0 (by decide) (hts (.fieldLink RX7 7 "ParkingGarageModel" "s" "[I") (by decide +kernel)) (fun _ h9 => h9) rfl dX7_count_139 ?_
    refine lv_iconst (v := 5) hx hb dX7_count_142 (by decide) ?_
    refine lv_iload_n hx hb dX7_count_143 rfl (lv_at hl 1 rfl) ?_
    refine lv_iadd hx hb dX7_count_144 ?_
    rw [show (((5) + (nI (6 + j))) : Int32) = nI (5 + (6 + j)) from (nI_add 5 (6 + j))]
    refine lv_bipush (v := 6) hx hb dX7_count_145 (by decide) ?_
    refine lv_isub hx hb dX7_count_147 ?_
    rw [show (((nI (5 + (6 + j))) - (6)) : Int32) = nI (5 + j) from (by rw [show (6 : Int32) = nI 6 from rfl, pk_sub (by omega), show 5 + (6 + j) - 6 = 5 + j by omega])]
    refine iald_n (f := enc g lf) hx hb hK.1 hP 1 0 rfl rfl (5 + j) (rfl) (by omega) (by omega) dX7_count_148 ?_
    rw [show enc g lf (5 + j) = g 1 j from enc_at (by omega) (posR_num (by omega))]
    refine lv_goto (tgt := 153) hx hb dX7_count_149 (by decide) ?_
    exact rd_iret (v := g 1 j) hx hb hr hlocks dX7_count_153 (Or.inr (Or.inr (Or.inr (Or.inr (Or.inr (Or.inr (Or.inl ⟨j, hj, hxj, rfl⟩)))))))
  · -- X7_in f
    refine if_eq_t (tgt := 152) hx hb rfl dX7_count_135 (by decide) ?_
    refine lv_iconst (v := -1) hx hb dX7_count_152 (by decide) ?_
    exact rd_iret (v := -1) hx hb hr hlocks dX7_count_153 (Or.inr (Or.inr (Or.inr (Or.inr (Or.inr (Or.inr (Or.inr (Or.inr (Or.inr (⟨hout, rfl⟩))))))))))
