/-! ===== Tariff, State: methods that read (laid by wip/whole/gen) ===== -/
set_option maxHeartbeats 4000000 in
set_option maxRecDepth 100000 in
theorem c_X4_unitsIn (l : Launch) (D : va_G) (cI cC cB cS : ClassId) (mi : Int32) (un : Int32) : Met l yX4_unitsIn wsX4_unitsIn ({ frames := 0, cells := 0, slots := 0, locals := 0 } : Room) (rdPc D (TYS cI cC cB cS) [.int (mi), .int (un)] ([])) (vp_Si (fun r => r = Un (mi) (un))) 0 0 (fun _ => False) := by
  refine rd_intro (by decide) rfl (Nat.le_of_ble_eq_true rfl) ?_
  intro p e s m below meth c hx hb hr hml hts hown hlocks hP hK ls hl
  have hP : va_P D vwCl [] s.heap := hP
  have hown : s.vm.findClass RX4 = some m.cls := hown
  have hl : lv_has ls 2 [(0, .int (mi)), (1, .int (un))] := hl
  refine lv_iload_n hx hb dX4_unitsIn_0 rfl (lv_at hl 1 rfl) ?_
  refine lv_if_le (tgt := 14) hx hb dX4_unitsIn_1 (by decide) (fun c_1 => ?_) (fun c_1 => ?_)
  · -- c_1: un ≤ 0
    refine lv_iconst (v := 0) hx hb dX4_unitsIn_14 (by decide) ?_
    exact rd_iret (v := 0) hx hb hr hlocks dX4_unitsIn_15 ((if_neg (Int32.not_lt.mpr c_1)).symm)
  · -- c_1: not un ≤ 0
    refine lv_iload_n hx hb dX4_unitsIn_4 rfl (lv_at hl 0 rfl) ?_
    refine lv_iload_n hx hb dX4_unitsIn_5 rfl (lv_at hl 1 rfl) ?_
    refine lv_iadd hx hb dX4_unitsIn_6 ?_
    refine lv_iconst (v := 1) hx hb dX4_unitsIn_7 (by decide) ?_
    refine lv_isub hx hb dX4_unitsIn_8 ?_
    refine lv_iload_n hx hb dX4_unitsIn_9 rfl (lv_at hl 1 rfl) ?_
    refine lv_idiv hx hb dX4_unitsIn_10 (fun e => c_1 (by rw [e]; decide)) ?_
    refine lv_goto (tgt := 15) hx hb dX4_unitsIn_11 (by decide) ?_
    exact rd_iret (v := (((mi) + (un)) - (1)) / (un)) hx hb hr hlocks dX4_unitsIn_15 ((if_pos (Int32.not_le.mp c_1)).symm)
set_option maxHeartbeats 4000000 in
set_option maxRecDepth 100000 in
theorem c_X4_placeOf (l : Launch) (D : va_G) (cI cC cB cS : ClassId) (a : Nat → Nat) (g : Nat → Nat → Int32) (n : Nat) (x : Int32) (hn : g 0 0 = nI n) (hnb : n ≤ 5) : Met l yX4_placeOf wsX4_placeOf ({ frames := 0, cells := 0, slots := 0, locals := 0 } : Room) (rdPc D (TYS cI cC cB cS) [.ref (a 0), .int (x)] (wT cI a g)) (vp_Si (fun r => ∃ w, TPl (g 1) n x w ∧ r = nI w)) 0 0 (fun _ => False) := by
  refine rd_intro (by decide) rfl (Nat.le_of_ble_eq_true rfl) ?_
  intro p e s m below meth c hx hb hr hml hts hown hlocks hP hK ls hl
  have hP : va_P D vwCl [(a 0, oE 4 [.int (g 0 0), .ref (a 1), .ref (a 2), .ref (a 3)]), (a 1, iE cI 5 (g 1)), (a 2, iE cI 5 (g 2)), (a 3, iE cI 5 (g 3))] s.heap := hP
  have hown : s.vm.findClass RX4 = some m.cls := hown
  have hl : lv_has ls 3 [(0, .ref (a 0)), (1, .int (x))] := hl
  refine lv_iconst (v := 0) hx hb dX4_placeOf_0 (by decide) ?_
  refine lv_istore_n (lv' := [(2, .int (0)), (0, .ref (a 0)), (1, .int (x))]) hx hb dX4_placeOf_1 rfl hl (by decide) rfl (fun ls hl => ?_)
  have hloop : ∀ (d i : Nat), i ≤ n → n - i < d → (∀ j, j < i → g 1 j < x) → ∀ ls : Array Slot, lv_has ls 3 [(2, .int (nI i)), (0, .ref (a 0)), (1, .int (x))] → W p l e ({ frames := 0, cells := 0, slots := 0, locals := 0 } : Room) s m (([.ref (a 0), .int (x)] : List Value).toArray) below meth c s.heap [] 0 0 (MQ below (vp_Si (fun r => ∃ w, TPl (g 1) n x w ∧ r = nI w)) (([.ref (a 0), .int (x)] : List Value).toArray) s 0 0 (fun _ => False)) (F0 m 2 ls []) := by
    intro d
    induction d with
    | zero => intro i _ h2; exact absurd h2 (Nat.not_lt_zero _)
    | succ d ih =>
      intro i hi hd hlo ls hl
      refine lv_iload_n hx hb dX4_placeOf_2 rfl (lv_at hl 0 rfl) ?_
      refine lv_aload_n hx hb dX4_placeOf_3 rfl (lv_at hl 1 rfl) ?_
      refine va_get (D := D) (ci := 4) (v := .int (g 0 0)) (C := RX4) (T := TX4) (N := 4) hx hb hts (by decide +kernel) hown hK.1 hP 0 rfl rfl 0 (by decide) (hts (.fieldLink RX4 9 "ParkingGarage$Tariff" "number" "I") (by decide +kernel)) (fun _ h9 => h9) rfl dX4_placeOf_4 ?_
      refine lv_icmp_ge (tgt := 28) hx hb dX4_placeOf_7 (by decide) (fun c_1 => ?_) (fun c_1 => ?_)
      · -- c_1: nI i ≥ g 0 0
        have hge : i = n := nI_geD hn hi (by omega) c_1
        subst hge
        refine lv_aload_n hx hb dX4_placeOf_28 rfl (lv_at hl 1 rfl) ?_
        refine va_get (D := D) (ci := 4) (v := .int (g 0 0)) (C := RX4) (T := TX4) (N := 4) hx hb hts (by decide +kernel) hown hK.1 hP 0 rfl rfl 0 (by decide) (hts (.fieldLink RX4 9 "ParkingGarage$Tariff" "number" "I") (by decide +kernel)) (fun _ h9 => h9) rfl dX4_placeOf_29 ?_
        exact rd_iret (v := g 0 0) hx hb hr hlocks dX4_placeOf_32 (⟨i, ⟨Nat.le_refl _, hlo, fun h => absurd h (Nat.lt_irrefl _)⟩, hn⟩)
      · -- c_1: not nI i ≥ g 0 0
        have hlt : i < n := nI_ltD hn hi (by omega) c_1
        refine lv_aload_n hx hb dX4_placeOf_10 rfl (lv_at hl 1 rfl) ?_
        refine va_get (D := D) (ci := 4) (v := .ref (a 1)) (C := RX4) (T := TX4) (N := 4) hx hb hts (by decide +kernel) hown hK.1 hP 0 rfl rfl 1 (by decide) (hts (.fieldLink RX4 15 "ParkingGarage$Tariff" "starts" "[I") (by decide +kernel)) (fun _ h9 => h9) rfl dX4_placeOf_11 ?_
        refine lv_iload_n hx hb dX4_placeOf_14 rfl (lv_at hl 0 rfl) ?_
        refine iald_n (f := g 1) hx hb hK.1 hP 1 0 rfl rfl (i) (rfl) (by omega) (by omega) dX4_placeOf_15 ?_
        refine lv_iload_n hx hb dX4_placeOf_16 rfl (lv_at hl 2 rfl) ?_
        refine lv_icmp_lt (tgt := 22) hx hb dX4_placeOf_17 (by decide) (fun c_2 => ?_) (fun c_2 => ?_)
        · -- c_2: (g 1) (i) < x
          refine lv_iinc (v := nI (i + 1)) (lv' := [(2, .int (nI (i + 1))), (0, .ref (a 0)), (1, .int (x))]) hx hb dX4_placeOf_22 hl (k := 0) rfl (nI_1 _) (by decide) rfl (fun ls hl => ?_)
          refine lv_goto (tgt := 2) hx hb dX4_placeOf_25 (by decide) ?_
          exact ih (i + 1) (by omega) (by omega) (all_s hlo c_2) ls (lv_sub hl [0, 1, 2] rfl)
        · -- c_2: not (g 1) (i) < x
          refine lv_iload_n hx hb dX4_placeOf_20 rfl (lv_at hl 0 rfl) ?_
          exact rd_iret (v := nI i) hx hb hr hlocks dX4_placeOf_21 (⟨i, ⟨by omega, hlo, fun _ => c_2⟩, rfl⟩)
  exact hloop (n + 1) 0 (by omega) (by omega) (all_0) ls (lv_sub hl [0, 1, 2] rfl)
set_option maxHeartbeats 4000000 in
set_option maxRecDepth 100000 in
theorem c_X4_has (l : Launch) (D : va_G) (cI cC cB cS : ClassId) (a : Nat → Nat) (g : Nat → Nat → Int32) (n : Nat) (x : Int32) (hn : g 0 0 = nI n) (hnb : n ≤ 5) : Met l yX4_has wsX4_has ({ frames := 1, cells := 0, slots := 0, locals := 22 } : Room) (rdPc D (TYS cI cC cB cS) [.ref (a 0), .int (x)] (wT cI a g)) (vp_Si (fun r => Yes (THas (g 1) n x) r)) 0 0 (fun _ => False) := by
  refine rd_intro (by decide) rfl (Nat.le_of_ble_eq_true rfl) ?_
  intro p e s m below meth c hx hb hr hml hts hown hlocks hP hK ls hl
  have hP : va_P D vwCl [(a 0, oE 4 [.int (g 0 0), .ref (a 1), .ref (a 2), .ref (a 3)]), (a 1, iE cI 5 (g 1)), (a 2, iE cI 5 (g 2)), (a 3, iE cI 5 (g 3))] s.heap := hP
  have hown : s.vm.findClass RX4 = some m.cls := hown
  have hl : lv_has ls 3 [(0, .ref (a 0)), (1, .int (x))] := hl
  refine lv_aload_n hx hb dX4_has_0 rfl (lv_at hl 0 rfl) ?_
  refine lv_iload_n hx hb dX4_has_1 rfl (lv_at hl 1 rfl) ?_
  refine cv_i (As := [.int (x)]) (rest := []) (tys := TYS cI cC cB cS) (ci := 4) ⟨hx, hb, hml, hown, hts⟩ (c_X4_placeOf l D cI cC cB cS (a) (g) (n) (x) (hn) (hnb)) (cwV 1 hts gX4_has_X4_placeOf rfl rfl rfl (by decide +kernel) ⟨Nat.le_of_ble_eq_true rfl, Nat.le_of_ble_eq_true rfl⟩) hK hP [0, 1, 2, 3] rfl rfl rfl rfl rfl hl.1 (Nat.le_of_ble_eq_true rfl) dX4_has_2 ⟨Nat.le_of_ble_eq_true rfl, Nat.le_of_ble_eq_true rfl⟩ (fun r_1 hr_1 => ?_)
  have hr_1 : ∃ w, TPl (g 1) n x w ∧ r_1 = nI w := hr_1
  obtain ⟨k, hk, rfl⟩ := hr_1
  refine lv_istore_n (lv' := [(2, .int (nI k)), (0, .ref (a 0)), (1, .int (x))]) hx hb dX4_has_5 rfl hl (by decide) rfl (fun ls hl => ?_)
  refine lv_iload_n hx hb dX4_has_6 rfl (lv_at hl 0 rfl) ?_
  refine lv_aload_n hx hb dX4_has_7 rfl (lv_at hl 1 rfl) ?_
  refine va_get (D := D) (ci := 4) (v := .int (g 0 0)) (C := RX4) (T := TX4) (N := 4) hx hb hts (by decide +kernel) hown hK.1 hP 0 rfl rfl 0 (by decide) (hts (.fieldLink RX4 9 "ParkingGarage$Tariff" "number" "I") (by decide +kernel)) (fun _ h9 => h9) rfl dX4_has_8 ?_
  refine lv_icmp_ge (tgt := 28) hx hb dX4_has_11 (by decide) (fun c_2 => ?_) (fun c_2 => ?_)
  · -- c_2: nI k ≥ g 0 0
    have hge : k = n := nI_geD hn hk.1 (by omega) c_2
    refine lv_iconst (v := 0) hx hb dX4_has_28 (by decide) ?_
    exact rd_zret (v := 0) hx hb hr hlocks dX4_has_29 (by decide) (Or.inr ⟨rfl, fun ⟨j, h1, h2, h3⟩ => by have e := hk.uniq h1; subst e; omega⟩)
  · -- c_2: not nI k ≥ g 0 0
    have hlt : k < n := nI_ltD hn hk.1 (by omega) c_2
    refine lv_aload_n hx hb dX4_has_14 rfl (lv_at hl 1 rfl) ?_
    refine va_get (D := D) (ci := 4) (v := .ref (a 1)) (C := RX4) (T := TX4) (N := 4) hx hb hts (by decide +kernel) hown hK.1 hP 0 rfl rfl 1 (by decide) (hts (.fieldLink RX4 15 "ParkingGarage$Tariff" "starts" "[I") (by decide +kernel)) (fun _ h9 => h9) rfl dX4_has_15 ?_
    refine lv_iload_n hx hb dX4_has_18 rfl (lv_at hl 0 rfl) ?_
    refine iald_n (f := g 1) hx hb hK.1 hP 1 0 rfl rfl (k) (rfl) (by omega) (by omega) dX4_has_19 ?_
    refine lv_iload_n hx hb dX4_has_20 rfl (lv_at hl 2 rfl) ?_
    refine lv_icmp_ne (tgt := 28) hx hb dX4_has_21 (by decide) (fun c_3 => ?_) (fun c_3 => ?_)
    · -- c_3: (g 1) (k) ≠ x
      refine lv_iconst (v := 0) hx hb dX4_has_28 (by decide) ?_
      exact rd_zret (v := 0) hx hb hr hlocks dX4_has_29 (by decide) (Or.inr ⟨rfl, fun ⟨j, h1, h2, h3⟩ => by have e := hk.uniq h1; subst e; exact c_3 h3⟩)
    · -- c_3: not (g 1) (k) ≠ x
      refine lv_iconst (v := 1) hx hb dX4_has_24 (by decide) ?_
      refine lv_goto (tgt := 29) hx hb dX4_has_25 (by decide) ?_
      exact rd_zret (v := 1) hx hb hr hlocks dX4_has_29 (by decide) (Or.inl ⟨rfl, k, hk, hlt, c_3⟩)
set_option maxHeartbeats 4000000 in
set_option maxRecDepth 100000 in
theorem c_X4_hasRoomFor (l : Launch) (D : va_G) (cI cC cB cS : ClassId) (a : Nat → Nat) (g : Nat → Nat → Int32) (n : Nat) (x : Int32) (hn : g 0 0 = nI n) (hnb : n ≤ 5) : Met l yX4_hasRoomFor wsX4_hasRoomFor ({ frames := 2, cells := 0, slots := 0, locals := 44 } : Room) (rdPc D (TYS cI cC cB cS) [.ref (a 0), .int (x)] (wT cI a g)) (vp_Si (fun r => Yes (n < 5 ∨ THas (g 1) n x) r)) 0 0 (fun _ => False) := by
  refine rd_intro (by decide) rfl (Nat.le_of_ble_eq_true rfl) ?_
  intro p e s m below meth c hx hb hr hml hts hown hlocks hP hK ls hl
  have hP : va_P D vwCl [(a 0, oE 4 [.int (g 0 0), .ref (a 1), .ref (a 2), .ref (a 3)]), (a 1, iE cI 5 (g 1)), (a 2, iE cI 5 (g 2)), (a 3, iE cI 5 (g 3))] s.heap := hP
  have hown : s.vm.findClass RX4 = some m.cls := hown
  have hl : lv_has ls 2 [(0, .ref (a 0)), (1, .int (x))] := hl
  refine lv_aload_n hx hb dX4_hasRoomFor_0 rfl (lv_at hl 0 rfl) ?_
  refine va_get (D := D) (ci := 4) (v := .int (g 0 0)) (C := RX4) (T := TX4) (N := 4) hx hb hts (by decide +kernel) hown hK.1 hP 0 rfl rfl 0 (by decide) (hts (.fieldLink RX4 9 "ParkingGarage$Tariff" "number" "I") (by decide +kernel)) (fun _ h9 => h9) rfl dX4_hasRoomFor_1 ?_
  refine lv_iconst (v := 5) hx hb dX4_hasRoomFor_4 (by decide) ?_
  refine lv_icmp_lt (tgt := 16) hx hb dX4_hasRoomFor_5 (by decide) (fun c_1 => ?_) (fun c_1 => ?_)
  · -- c_1: g 0 0 < 5
    have hlt : n < 5 := by rw [hn] at c_1; exact (nI_ltI (by omega) (by omega)).mp (show nI n < nI 5 from c_1)
    refine lv_iconst (v := 1) hx hb dX4_hasRoomFor_16 (by decide) ?_
    refine lv_goto (tgt := 21) hx hb dX4_hasRoomFor_17 (by decide) ?_
    exact rd_zret (v := 1) hx hb hr hlocks dX4_hasRoomFor_21 (by decide) (Or.inl ⟨rfl, Or.inl hlt⟩)
  · -- c_1: not g 0 0 < 5
    have hge : ¬ n < 5 := fun h => c_1 (by rw [hn]; exact (nI_ltI (a := n) (b := 5) (by omega) (by omega)).mpr h)
    refine lv_aload_n hx hb dX4_hasRoomFor_8 rfl (lv_at hl 0 rfl) ?_
    refine lv_iload_n hx hb dX4_hasRoomFor_9 rfl (lv_at hl 1 rfl) ?_
    refine cv_i (As := [.int (x)]) (rest := []) (tys := TYS cI cC cB cS) (ci := 4) ⟨hx, hb, hml, hown, hts⟩ (c_X4_has l D cI cC cB cS (a) (g) (n) (x) (hn) (hnb)) (cwV 1 hts gX4_hasRoomFor_X4_has rfl rfl rfl (by decide +kernel) ⟨Nat.le_of_ble_eq_true rfl, Nat.le_of_ble_eq_true rfl⟩) hK hP [0, 1, 2, 3] rfl rfl rfl rfl rfl hl.1 (Nat.le_of_ble_eq_true rfl) dX4_hasRoomFor_10 ⟨Nat.le_of_ble_eq_true rfl, Nat.le_of_ble_eq_true rfl⟩ (fun r_2 hr_2 => ?_)
    rcases (show Yes (THas (g 1) n x) r_2 from hr_2) with ⟨rfl, h_3⟩ | ⟨rfl, h_3⟩
    · -- X4_has t
      refine if_eq_f (tgt := 20) hx hb (by decide) dX4_hasRoomFor_13 (by decide) ?_
      refine lv_iconst (v := 1) hx hb dX4_hasRoomFor_16 (by decide) ?_
      refine lv_goto (tgt := 21) hx hb dX4_hasRoomFor_17 (by decide) ?_
      exact rd_zret (v := 1) hx hb hr hlocks dX4_hasRoomFor_21 (by decide) (Or.inl ⟨rfl, Or.inr h_3⟩)
    · -- X4_has f
      refine if_eq_t (tgt := 20) hx hb rfl dX4_hasRoomFor_13 (by decide) ?_
      refine lv_iconst (v := 0) hx hb dX4_hasRoomFor_20 (by decide) ?_
      exact rd_zret (v := 0) hx hb hr hlocks dX4_hasRoomFor_21 (by decide) (Or.inr ⟨rfl, fun q => q.elim hge h_3⟩)
set_option maxHeartbeats 4000000 in
set_option maxRecDepth 100000 in
theorem c_X4_sum (l : Launch) (D : va_G) (cI cC cB cS : ClassId) (a : Nat → Nat) (g : Nat → Nat → Int32) (n : Nat) (mi : Int32) (hn : g 0 0 = nI n) (hnb : n ≤ 5) (hs : Srt (g 1) n) : Met l yX4_sum wsX4_sum ({ frames := 1, cells := 0, slots := 0, locals := 21 } : Room) (rdPc D (TYS cI cC cB cS) [.ref (a 0), .int (mi)] (wT cI a g)) (vp_Si (fun r => r = tS (g 1) (g 2) (g 3) n (mi) n)) 0 0 (fun _ => False) := by
  refine rd_intro (by decide) rfl (Nat.le_of_ble_eq_true rfl) ?_
  intro p e s m below meth c hx hb hr hml hts hown hlocks hP hK ls hl
  have hP : va_P D vwCl [(a 0, oE 4 [.int (g 0 0), .ref (a 1), .ref (a 2), .ref (a 3)]), (a 1, iE cI 5 (g 1)), (a 2, iE cI 5 (g 2)), (a 3, iE cI 5 (g 3))] s.heap := hP
  have hown : s.vm.findClass RX4 = some m.cls := hown
  have hl : lv_has ls 6 [(0, .ref (a 0)), (1, .int (mi))] := hl
  refine lv_iconst (v := 0) hx hb dX4_sum_0 (by decide) ?_
  refine lv_istore_n (lv' := [(2, .int (0)), (0, .ref (a 0)), (1, .int (mi))]) hx hb dX4_sum_1 rfl hl (by decide) rfl (fun ls hl => ?_)
  refine lv_iconst (v := 0) hx hb dX4_sum_2 (by decide) ?_
  refine lv_istore_n (lv' := [(3, .int (0)), (2, .int (0)), (0, .ref (a 0)), (1, .int (mi))]) hx hb dX4_sum_3 rfl hl (by decide) rfl (fun ls hl => ?_)
  have hloop : ∀ (d i : Nat) (z : Int32), i ≤ n → n - i < d → (z = tS (g 1) (g 2) (g 3) n mi i) → ∀ ls : Array Slot, lv_has ls 6 [(2, .int (z)), (3, .int (nI i)), (0, .ref (a 0)), (1, .int (mi))] → W p l e ({ frames := 1, cells := 0, slots := 0, locals := 21 } : Room) s m (([.ref (a 0), .int (mi)] : List Value).toArray) below meth c s.heap [] 0 0 (MQ below (vp_Si (fun r => r = tS (g 1) (g 2) (g 3) n (mi) n)) (([.ref (a 0), .int (mi)] : List Value).toArray) s 0 0 (fun _ => False)) (F0 m 4 ls []) := by
    intro d
    induction d with
    | zero => intro i _ _ h2; exact absurd h2 (Nat.not_lt_zero _)
    | succ d ih =>
      intro i z hi hd ha ls hl
      refine lv_iload_n hx hb dX4_sum_4 rfl (lv_at hl 1 rfl) ?_
      refine lv_aload_n hx hb dX4_sum_5 rfl (lv_at hl 2 rfl) ?_
      refine va_get (D := D) (ci := 4) (v := .int (g 0 0)) (C := RX4) (T := TX4) (N := 4) hx hb hts (by decide +kernel) hown hK.1 hP 0 rfl rfl 0 (by decide) (hts (.fieldLink RX4 9 "ParkingGarage$Tariff" "number" "I") (by decide +kernel)) (fun _ h9 => h9) rfl dX4_sum_6 ?_
      refine lv_icmp_ge (tgt := 96) hx hb dX4_sum_9 (by decide) (fun c_1 => ?_) (fun c_1 => ?_)
      · -- c_1: nI i ≥ g 0 0
        have hge : i = n := nI_geD hn hi (by omega) c_1
        subst hge
        refine lv_iload_n hx hb dX4_sum_96 rfl (lv_at hl 0 rfl) ?_
        exact rd_iret (v := z) hx hb hr hlocks dX4_sum_97 (ha)
      · -- c_1: not nI i ≥ g 0 0
        have hlt : i < n := nI_ltD hn hi (by omega) c_1
        refine lv_aload_n hx hb dX4_sum_12 rfl (lv_at hl 2 rfl) ?_
        refine va_get (D := D) (ci := 4) (v := .ref (a 1)) (C := RX4) (T := TX4) (N := 4) hx hb hts (by decide +kernel) hown hK.1 hP 0 rfl rfl 1 (by decide) (hts (.fieldLink RX4 15 "ParkingGarage$Tariff" "starts" "[I") (by decide +kernel)) (fun _ h9 => h9) rfl dX4_sum_13 ?_
        refine lv_iload_n hx hb dX4_sum_16 rfl (lv_at hl 1 rfl) ?_
        refine iald_n (f := g 1) hx hb hK.1 hP 1 0 rfl rfl (i) (rfl) (by omega) (by omega) dX4_sum_17 ?_
        refine lv_iload_n hx hb dX4_sum_18 rfl (lv_at hl 3 rfl) ?_
        refine lv_icmp_ge (tgt := 96) hx hb dX4_sum_19 (by decide) (fun c_2 => ?_) (fun c_2 => ?_)
        · -- c_2: (g 1) (i) ≥ mi
          refine lv_iload_n hx hb dX4_sum_96 rfl (lv_at hl 0 rfl) ?_
          exact rd_iret (v := z) hx hb hr hlocks dX4_sum_97 (ha.trans (tS_stop hs hlt (Int32.not_lt.mpr c_2) n (by omega) (Nat.le_refl n)).symm)
        · -- c_2: not (g 1) (i) ≥ mi
          refine lv_iload_n hx hb dX4_sum_22 rfl (lv_at hl 1 rfl) ?_
          refine lv_iconst (v := 1) hx hb dX4_sum_23 (by decide) ?_
          refine lv_iadd hx hb dX4_sum_24 ?_
          refine lv_aload_n hx hb dX4_sum_25 rfl (lv_at hl 2 rfl) ?_
          refine va_get (D := D) (ci := 4) (v := .int (g 0 0)) (C := RX4) (T := TX4) (N := 4) hx hb hts (by decide +kernel) hown hK.1 hP 0 rfl rfl 0 (by decide) (hts (.fieldLink RX4 9 "ParkingGarage$Tariff" "number" "I") (by decide +kernel)) (fun _ h9 => h9) rfl dX4_sum_26 ?_
          refine lv_icmp_lt (tgt := 36) hx hb dX4_sum_29 (by decide) (fun c_3 => ?_) (fun c_3 => ?_)
          · -- c_3: (nI i) + (1) < g 0 0
            have hl2 : i + 1 < n := by rw [hn, nI_1] at c_3; exact (nI_ltI (by omega) (by omega)).mp c_3
            refine lv_iconst (v := 0) hx hb dX4_sum_36 (by decide) ?_
            refine lv_istore (lv' := [(4, .int (0)), (2, .int (z)), (3, .int (nI i)), (0, .ref (a 0)), (1, .int (mi))]) hx hb dX4_sum_37 hl (by decide) rfl (fun ls hl => ?_)
            refine lv_iload hx hb dX4_sum_39 (lv_at hl 0 rfl) ?_
            refine if_eq_t (tgt := 48) hx hb rfl dX4_sum_41 (by decide) ?_
            refine lv_iload_n hx hb dX4_sum_48 rfl (lv_at hl 4 rfl) ?_
            refine lv_aload_n hx hb dX4_sum_49 rfl (lv_at hl 3 rfl) ?_
            refine va_get (D := D) (ci := 4) (v := .ref (a 1)) (C := RX4) (T := TX4) (N := 4) hx hb hts (by decide +kernel) hown hK.1 hP 0 rfl rfl 1 (by decide) (hts (.fieldLink RX4 15 "ParkingGarage$Tariff" "starts" "[I") (by decide +kernel)) (fun _ h9 => h9) rfl dX4_sum_50 ?_
            refine lv_iload_n hx hb dX4_sum_53 rfl (lv_at hl 2 rfl) ?_
            refine lv_iconst (v := 1) hx hb dX4_sum_54 (by decide) ?_
            refine lv_iadd hx hb dX4_sum_55 ?_
            refine iald_n (f := g 1) hx hb hK.1 hP 1 0 rfl rfl (i + 1) (nI_1 i) (by omega) (by omega) dX4_sum_56 ?_
            refine va_mmin hx hb (hml.trans hl.1.symm) hown (hts (.methodLink RX4 41 Lib.Math.min.name) (by decide +kernel)) (hts (.static Lib.Math.min.name) (by decide +kernel)) (hts (.initialized "java/lang/Math") (by decide +kernel)) (hts (.code Lib.Math.min.name Lib.Math.min.code 2 (some .int)) (by decide +kernel)) (Nat.le_of_ble_eq_true rfl) (Nat.le_of_ble_eq_true rfl) (Nat.le_of_ble_eq_true rfl) (Nat.le_of_ble_eq_true rfl) dX4_sum_57 ?_
            refine lv_istore (lv' := [(5, .int ((if (g 1) (i + 1) < mi then (g 1) (i + 1) else mi))), (4, .int (0)), (2, .int (z)), (3, .int (nI i)), (0, .ref (a 0)), (1, .int (mi))]) hx hb dX4_sum_60 hl (by decide) rfl (fun ls hl => ?_)
            refine lv_iload_n hx hb dX4_sum_62 rfl (lv_at hl 2 rfl) ?_
            refine lv_aload_n hx hb dX4_sum_63 rfl (lv_at hl 4 rfl) ?_
            refine va_get (D := D) (ci := 4) (v := .ref (a 3)) (C := RX4) (T := TX4) (N := 4) hx hb hts (by decide +kernel) hown hK.1 hP 0 rfl rfl 3 (by decide) (hts (.fieldLink RX4 22 "ParkingGarage$Tariff" "prices" "[I") (by decide +kernel)) (fun _ h9 => h9) rfl dX4_sum_64 ?_
            refine lv_iload_n hx hb dX4_sum_67 rfl (lv_at hl 3 rfl) ?_
            refine iald_n (f := g 3) hx hb hK.1 hP 3 0 rfl rfl (i) (rfl) (by omega) (by omega) dX4_sum_68 ?_
            refine lv_iload hx hb dX4_sum_69 (lv_at hl 0 rfl) ?_
            refine lv_aload_n hx hb dX4_sum_71 rfl (lv_at hl 4 rfl) ?_
            refine va_get (D := D) (ci := 4) (v := .ref (a 1)) (C := RX4) (T := TX4) (N := 4) hx hb hts (by decide +kernel) hown hK.1 hP 0 rfl rfl 1 (by decide) (hts (.fieldLink RX4 15 "ParkingGarage$Tariff" "starts" "[I") (by decide +kernel)) (fun _ h9 => h9) rfl dX4_sum_72 ?_
            refine lv_iload_n hx hb dX4_sum_75 rfl (lv_at hl 3 rfl) ?_
            refine iald_n (f := g 1) hx hb hK.1 hP 1 0 rfl rfl (i) (rfl) (by omega) (by omega) dX4_sum_76 ?_
            refine lv_isub hx hb dX4_sum_77 ?_
            refine lv_aload_n hx hb dX4_sum_78 rfl (lv_at hl 4 rfl) ?_
            refine va_get (D := D) (ci := 4) (v := .ref (a 2)) (C := RX4) (T := TX4) (N := 4) hx hb hts (by decide +kernel) hown hK.1 hP 0 rfl rfl 2 (by decide) (hts (.fieldLink RX4 19 "ParkingGarage$Tariff" "units" "[I") (by decide +kernel)) (fun _ h9 => h9) rfl dX4_sum_79 ?_
            refine lv_iload_n hx hb dX4_sum_82 rfl (lv_at hl 3 rfl) ?_
            refine iald_n (f := g 2) hx hb hK.1 hP 2 0 rfl rfl (i) (rfl) (by omega) (by omega) dX4_sum_83 ?_
            refine cs_i (As := [.int (((if (g 1) (i + 1) < mi then (g 1) (i + 1) else mi)) - ((g 1) (i))), .int ((g 2) (i))]) (rest := [.int ((g 3) (i)), .int (z)]) (tys := TYS cI cC cB cS) ⟨hx, hb, hml, hown, hts⟩ (c_X4_unitsIn l D cI cC cB cS (((if (g 1) (i + 1) < mi then (g 1) (i + 1) else mi)) - ((g 1) (i))) ((g 2) (i))) (va_cwS 2 hts gX4_sum_X4_unitsIn rfl rfl rfl (by decide +kernel) ⟨Nat.le_of_ble_eq_true rfl, Nat.le_of_ble_eq_true rfl⟩) hK hP [] rfl rfl rfl hl.1 (Nat.le_of_ble_eq_true rfl) dX4_sum_84 ⟨Nat.le_of_ble_eq_true rfl, Nat.le_of_ble_eq_true rfl⟩ (fun r_4 hr_4 => ?_)
            have hr_4 : r_4 = Un (((if (g 1) (i + 1) < mi then (g 1) (i + 1) else mi)) - ((g 1) (i))) ((g 2) (i)) := hr_4
            refine lv_imul hx hb dX4_sum_87 ?_
            refine lv_iadd hx hb dX4_sum_88 ?_
            refine lv_istore_n (lv' := [(2, .int ((z) + (((g 3) (i)) * (r_4)))), (5, .int ((if (g 1) (i + 1) < mi then (g 1) (i + 1) else mi))), (4, .int (0)), (3, .int (nI i)), (0, .ref (a 0)), (1, .int (mi))]) hx hb dX4_sum_89 rfl hl (by decide) rfl (fun ls hl => ?_)
            refine lv_iinc (v := nI (i + 1)) (lv' := [(3, .int (nI (i + 1))), (2, .int ((z) + (((g 3) (i)) * (r_4)))), (5, .int ((if (g 1) (i + 1) < mi then (g 1) (i + 1) else mi))), (4, .int (0)), (0, .ref (a 0)), (1, .int (mi))]) hx hb dX4_sum_90 hl (k := 3) rfl (nI_1 _) (by decide) rfl (fun ls hl => ?_)
            refine lv_goto (tgt := 4) hx hb dX4_sum_93 (by decide) ?_
            exact ih (i + 1) ((z) + (((g 3) (i)) * (r_4))) (by omega) (by omega) (by rw [ha]; show _ = tS (g 1) (g 2) (g 3) n mi i + _; rw [if_pos (Int32.not_le.mp c_2), show tup (g 1) n mi i = _ from if_pos (show i + 1 < n by omega), ← hr_4]) ls (lv_sub hl [1, 0, 4, 5] rfl)
          · -- c_3: not (nI i) + (1) < g 0 0
            have hl2 : ¬ i + 1 < n := fun h => c_3 (by rw [hn, nI_1]; exact (nI_ltI (by omega) (by omega)).mpr h)
            refine lv_iconst (v := 1) hx hb dX4_sum_32 (by decide) ?_
            refine lv_goto (tgt := 37) hx hb dX4_sum_33 (by decide) ?_
            refine lv_istore (lv' := [(4, .int (1)), (2, .int (z)), (3, .int (nI i)), (0, .ref (a 0)), (1, .int (mi))]) hx hb dX4_sum_37 hl (by decide) rfl (fun ls hl => ?_)
            refine lv_iload hx hb dX4_sum_39 (lv_at hl 0 rfl) ?_
            refine if_eq_f (tgt := 48) hx hb (by decide) dX4_sum_41 (by decide) ?_
            refine lv_iload_n hx hb dX4_sum_44 rfl (lv_at hl 4 rfl) ?_
            refine lv_goto (tgt := 60) hx hb dX4_sum_45 (by decide) ?_
            refine lv_istore (lv' := [(5, .int (mi)), (4, .int (1)), (2, .int (z)), (3, .int (nI i)), (0, .ref (a 0)), (1, .int (mi))]) hx hb dX4_sum_60 hl (by decide) rfl (fun ls hl => ?_)
            refine lv_iload_n hx hb dX4_sum_62 rfl (lv_at hl 2 rfl) ?_
            refine lv_aload_n hx hb dX4_sum_63 rfl (lv_at hl 4 rfl) ?_
            refine va_get (D := D) (ci := 4) (v := .ref (a 3)) (C := RX4) (T := TX4) (N := 4) hx hb hts (by decide +kernel) hown hK.1 hP 0 rfl rfl 3 (by decide) (hts (.fieldLink RX4 22 "ParkingGarage$Tariff" "prices" "[I") (by decide +kernel)) (fun _ h9 => h9) rfl dX4_sum_64 ?_
            refine lv_iload_n hx hb dX4_sum_67 rfl (lv_at hl 3 rfl) ?_
            refine iald_n (f := g 3) hx hb hK.1 hP 3 0 rfl rfl (i) (rfl) (by omega) (by omega) dX4_sum_68 ?_
            refine lv_iload hx hb dX4_sum_69 (lv_at hl 0 rfl) ?_
            refine lv_aload_n hx hb dX4_sum_71 rfl (lv_at hl 4 rfl) ?_
            refine va_get (D := D) (ci := 4) (v := .ref (a 1)) (C := RX4) (T := TX4) (N := 4) hx hb hts (by decide +kernel) hown hK.1 hP 0 rfl rfl 1 (by decide) (hts (.fieldLink RX4 15 "ParkingGarage$Tariff" "starts" "[I") (by decide +kernel)) (fun _ h9 => h9) rfl dX4_sum_72 ?_
            refine lv_iload_n hx hb dX4_sum_75 rfl (lv_at hl 3 rfl) ?_
            refine iald_n (f := g 1) hx hb hK.1 hP 1 0 rfl rfl (i) (rfl) (by omega) (by omega) dX4_sum_76 ?_
            refine lv_isub hx hb dX4_sum_77 ?_
            refine lv_aload_n hx hb dX4_sum_78 rfl (lv_at hl 4 rfl) ?_
            refine va_get (D := D) (ci := 4) (v := .ref (a 2)) (C := RX4) (T := TX4) (N := 4) hx hb hts (by decide +kernel) hown hK.1 hP 0 rfl rfl 2 (by decide) (hts (.fieldLink RX4 19 "ParkingGarage$Tariff" "units" "[I") (by decide +kernel)) (fun _ h9 => h9) rfl dX4_sum_79 ?_
            refine lv_iload_n hx hb dX4_sum_82 rfl (lv_at hl 3 rfl) ?_
            refine iald_n (f := g 2) hx hb hK.1 hP 2 0 rfl rfl (i) (rfl) (by omega) (by omega) dX4_sum_83 ?_
            refine cs_i (As := [.int ((mi) - ((g 1) (i))), .int ((g 2) (i))]) (rest := [.int ((g 3) (i)), .int (z)]) (tys := TYS cI cC cB cS) ⟨hx, hb, hml, hown, hts⟩ (c_X4_unitsIn l D cI cC cB cS ((mi) - ((g 1) (i))) ((g 2) (i))) (va_cwS 2 hts gX4_sum_X4_unitsIn rfl rfl rfl (by decide +kernel) ⟨Nat.le_of_ble_eq_true rfl, Nat.le_of_ble_eq_true rfl⟩) hK hP [] rfl rfl rfl hl.1 (Nat.le_of_ble_eq_true rfl) dX4_sum_84 ⟨Nat.le_of_ble_eq_true rfl, Nat.le_of_ble_eq_true rfl⟩ (fun r_5 hr_5 => ?_)
            have hr_5 : r_5 = Un ((mi) - ((g 1) (i))) ((g 2) (i)) := hr_5
            refine lv_imul hx hb dX4_sum_87 ?_
            refine lv_iadd hx hb dX4_sum_88 ?_
            refine lv_istore_n (lv' := [(2, .int ((z) + (((g 3) (i)) * (r_5)))), (5, .int (mi)), (4, .int (1)), (3, .int (nI i)), (0, .ref (a 0)), (1, .int (mi))]) hx hb dX4_sum_89 rfl hl (by decide) rfl (fun ls hl => ?_)
            refine lv_iinc (v := nI (i + 1)) (lv' := [(3, .int (nI (i + 1))), (2, .int ((z) + (((g 3) (i)) * (r_5)))), (5, .int (mi)), (4, .int (1)), (0, .ref (a 0)), (1, .int (mi))]) hx hb dX4_sum_90 hl (k := 3) rfl (nI_1 _) (by decide) rfl (fun ls hl => ?_)
            refine lv_goto (tgt := 4) hx hb dX4_sum_93 (by decide) ?_
            exact ih (i + 1) ((z) + (((g 3) (i)) * (r_5))) (by omega) (by omega) (by rw [ha]; show _ = tS (g 1) (g 2) (g 3) n mi i + _; rw [if_pos (Int32.not_le.mp c_2), show tup (g 1) n mi i = _ from if_neg (show ¬ i + 1 < n by omega), ← hr_5]) ls (lv_sub hl [1, 0, 4, 5] rfl)
  exact hloop (n + 1) 0 (0) (by omega) (by omega) (rfl) ls (lv_sub hl [1, 0, 2, 3] rfl)
set_option maxHeartbeats 4000000 in
set_option maxRecDepth 100000 in
theorem c_X3_way (l : Launch) (D : va_G) (cI cC cB cS : ClassId) (a : Nat → Nat) (g : Nat → Nat → Int32) (n : Nat) (k : Nat) (hn : g 3 0 = nI n) (hnb : n ≤ 30) (hk : k < n) : Met l yX3_way wsX3_way ({ frames := 1, cells := 0, slots := 0, locals := 21 } : Room) (rdPc D (TYS cI cC cB cS) [.ref (a 0), .int (nI k)] (wS cI a g)) (vp_Si (fun r => r = Wy (g 4) (g 5) (g 1 0) k)) 0 0 (fun _ => False) := by
  refine rd_intro (by decide) rfl (Nat.le_of_ble_eq_true rfl) ?_
  intro p e s m below meth c hx hb hr hml hts hown hlocks hP hK ls hl
  have hP : va_P D vwCl [(a 0, oE 3 [.int (g 0 0), .int (g 0 1), .ref (a 1), .ref (a 2), .ref (a 3), .ref (a 12), .ref (a 19), .ref (a 23)]), (a 1, iE cI 5 (g 1)), (a 2, iE cI 4 (g 2)), (a 3, oE 0 [.int (g 3 0), .ref (a 4), .ref (a 5), .ref (a 6), .ref (a 7), .ref (a 8), .ref (a 9), .ref (a 10), .ref (a 11)]), (a 4, iE cI 30 (g 4)), (a 5, iE cI 30 (g 5)), (a 6, iE cI 30 (g 6)), (a 7, iE cI 30 (g 7)), (a 8, iE cI 30 (g 8)), (a 9, iE cI 30 (g 9)), (a 10, iE cI 30 (g 10)), (a 11, iE cI 30 (g 11)), (a 12, oE 2 [.int (g 12 0), .ref (a 13), .ref (a 14), .ref (a 15), .ref (a 16), .ref (a 17), .ref (a 18)]), (a 13, iE cI 16 (g 13)), (a 14, iE cI 16 (g 14)), (a 15, iE cI 16 (g 15)), (a 16, iE cI 16 (g 16)), (a 17, iE cI 16 (g 17)), (a 18, iE cI 16 (g 18)), (a 19, oE 4 [.int (g 19 0), .ref (a 20), .ref (a 21), .ref (a 22)]), (a 20, iE cI 5 (g 20)), (a 21, iE cI 5 (g 21)), (a 22, iE cI 5 (g 22)), (a 23, oE 4 [.int (g 23 0), .ref (a 24), .ref (a 25), .ref (a 26)]), (a 24, iE cI 5 (g 24)), (a 25, iE cI 5 (g 25)), (a 26, iE cI 5 (g 26))] s.heap := hP
  have hown : s.vm.findClass RX3 = some m.cls := hown
  have hl : lv_has ls 2 [(0, .ref (a 0)), (1, .int (nI k))] := hl
  refine lv_aload_n hx hb dX3_way_0 rfl (lv_at hl 0 rfl) ?_
  refine va_get (D := D) (ci := 3) (v := .ref (a 3)) (C := RX3) (T := TX3) (N := 8) hx hb hts (by decide +kernel) hown hK.1 hP 0 rfl rfl 4 (by decide) (hts (.fieldLink RX3 28 "ParkingGarage$State" "bays" "LParkingGarage$Bays;") (by decide +kernel)) (fun _ h9 => h9) rfl dX3_way_1 ?_
  refine lv_iload_n hx hb dX3_way_4 rfl (lv_at hl 1 rfl) ?_
  refine cv_i (As := [.int (nI k)]) (rest := []) (tys := TYS cI cC cB cS) (ci := 0) ⟨hx, hb, hml, hown, hts⟩ (c_X0_has l D cI cC cB cS ((fun k => a (3 + k))) ((fun k => g (3 + k))) (n) (nI k) (hn) (hnb)) (cwV 1 hts gX3_way_X0_has rfl rfl rfl (by decide +kernel) ⟨Nat.le_of_ble_eq_true rfl, Nat.le_of_ble_eq_true rfl⟩) hK hP [3, 4, 5, 6, 7, 8, 9, 10, 11] rfl rfl rfl rfl rfl hl.1 (Nat.le_of_ble_eq_true rfl) dX3_way_5 ⟨Nat.le_of_ble_eq_true rfl, Nat.le_of_ble_eq_true rfl⟩ (fun r_1 hr_1 => ?_)
  rcases (show Yes (∃ w, w < n ∧ nI k = nI w) r_1 from hr_1) with ⟨rfl, h_2⟩ | ⟨rfl, h_2⟩
  · -- X0_has t
    refine if_eq_f (tgt := 40) hx hb (by decide) dX3_way_8 (by decide) ?_
    refine lv_aload_n hx hb dX3_way_11 rfl (lv_at hl 0 rfl) ?_
    refine va_get (D := D) (ci := 3) (v := .ref (a 3)) (C := RX3) (T := TX3) (N := 8) hx hb hts (by decide +kernel) hown hK.1 hP 0 rfl rfl 4 (by decide) (hts (.fieldLink RX3 28 "ParkingGarage$State" "bays" "LParkingGarage$Bays;") (by decide +kernel)) (fun _ h9 => h9) rfl dX3_way_12 ?_
    refine va_get (D := D) (ci := 0) (v := .ref (a 4)) (C := RX0) (T := TX0) (N := 9) hx hb hts (by decide +kernel) hown hK.1 hP 3 rfl rfl 1 (by decide) (hts (.fieldLink RX3 71 "ParkingGarage$Bays" "levels" "[I") (by decide +kernel)) (fun _ h9 => h9) rfl dX3_way_15 ?_
    refine lv_iload_n hx hb dX3_way_18 rfl (lv_at hl 1 rfl) ?_
    refine iald_n (f := g 4) hx hb hK.1 hP 4 0 rfl rfl (k) (rfl) (by omega) (by omega) dX3_way_19 ?_
    refine lv_aload_n hx hb dX3_way_20 rfl (lv_at hl 0 rfl) ?_
    refine va_get (D := D) (ci := 3) (v := .ref (a 1)) (C := RX3) (T := TX3) (N := 8) hx hb hts (by decide +kernel) hown hK.1 hP 0 rfl rfl 2 (by decide) (hts (.fieldLink RX3 18 "ParkingGarage$State" "numbers" "[I") (by decide +kernel)) (fun _ h9 => h9) rfl dX3_way_21 ?_
    refine lv_iconst (v := 0) hx hb dX3_way_24 (by decide) ?_
    refine iald_n (f := g 1) hx hb hK.1 hP 1 0 rfl rfl (0) (rfl) (by decide) (by omega) dX3_way_25 ?_
    refine lv_imul hx hb dX3_way_26 ?_
    refine lv_aload_n hx hb dX3_way_27 rfl (lv_at hl 0 rfl) ?_
    refine va_get (D := D) (ci := 3) (v := .ref (a 3)) (C := RX3) (T := TX3) (N := 8) hx hb hts (by decide +kernel) hown hK.1 hP 0 rfl rfl 4 (by decide) (hts (.fieldLink RX3 28 "ParkingGarage$State" "bays" "LParkingGarage$Bays;") (by decide +kernel)) (fun _ h9 => h9) rfl dX3_way_28 ?_
    refine va_get (D := D) (ci := 0) (v := .ref (a 5)) (C := RX0) (T := TX0) (N := 9) hx hb hts (by decide +kernel) hown hK.1 hP 3 rfl rfl 2 (by decide) (hts (.fieldLink RX3 74 "ParkingGarage$Bays" "positions" "[I") (by decide +kernel)) (fun _ h9 => h9) rfl dX3_way_31 ?_
    refine lv_iload_n hx hb dX3_way_34 rfl (lv_at hl 1 rfl) ?_
    refine iald_n (f := g 5) hx hb hK.1 hP 5 0 rfl rfl (k) (rfl) (by omega) (by omega) dX3_way_35 ?_
    refine lv_iadd hx hb dX3_way_36 ?_
    refine lv_goto (tgt := 41) hx hb dX3_way_37 (by decide) ?_
    exact rd_iret (v := (((g 4) (k)) * ((g 1) (0))) + ((g 5) (k))) hx hb hr hlocks dX3_way_41 (rfl)
  · -- X0_has f
    exact absurd ⟨k, hk, rfl⟩ h_2
set_option maxHeartbeats 4000000 in
set_option maxRecDepth 100000 in
theorem c_X3_isBefore (l : Launch) (D : va_G) (cI cC cB cS : ClassId) (a : Nat → Nat) (g : Nat → Nat → Int32) (n : Nat) (k : Nat) (z : Int32) (hn : g 3 0 = nI n) (hnb : n ≤ 30) (hk : k < n) : Met l yX3_isBefore wsX3_isBefore ({ frames := 2, cells := 0, slots := 0, locals := 42 } : Room) (rdPc D (TYS cI cC cB cS) [.ref (a 0), .int (nI k), .int (z)] (wS cI a g)) (vp_Si (fun r => Yes (Btr (g 4) (g 5) (g 6) (g 1 0) n k z) r)) 0 0 (fun _ => False) := by
  refine rd_intro (by decide) rfl (Nat.le_of_ble_eq_true rfl) ?_
  intro p e s m below meth c hx hb hr hml hts hown hlocks hP hK ls hl
  have hP : va_P D vwCl [(a 0, oE 3 [.int (g 0 0), .int (g 0 1), .ref (a 1), .ref (a 2), .ref (a 3), .ref (a 12), .ref (a 19), .ref (a 23)]), (a 1, iE cI 5 (g 1)), (a 2, iE cI 4 (g 2)), (a 3, oE 0 [.int (g 3 0), .ref (a 4), .ref (a 5), .ref (a 6), .ref (a 7), .ref (a 8), .ref (a 9), .ref (a 10), .ref (a 11)]), (a 4, iE cI 30 (g 4)), (a 5, iE cI 30 (g 5)), (a 6, iE cI 30 (g 6)), (a 7, iE cI 30 (g 7)), (a 8, iE cI 30 (g 8)), (a 9, iE cI 30 (g 9)), (a 10, iE cI 30 (g 10)), (a 11, iE cI 30 (g 11)), (a 12, oE 2 [.int (g 12 0), .ref (a 13), .ref (a 14), .ref (a 15), .ref (a 16), .ref (a 17), .ref (a 18)]), (a 13, iE cI 16 (g 13)), (a 14, iE cI 16 (g 14)), (a 15, iE cI 16 (g 15)), (a 16, iE cI 16 (g 16)), (a 17, iE cI 16 (g 17)), (a 18, iE cI 16 (g 18)), (a 19, oE 4 [.int (g 19 0), .ref (a 20), .ref (a 21), .ref (a 22)]), (a 20, iE cI 5 (g 20)), (a 21, iE cI 5 (g 21)), (a 22, iE cI 5 (g 22)), (a 23, oE 4 [.int (g 23 0), .ref (a 24), .ref (a 25), .ref (a 26)]), (a 24, iE cI 5 (g 24)), (a 25, iE cI 5 (g 25)), (a 26, iE cI 5 (g 26))] s.heap := hP
  have hown : s.vm.findClass RX3 = some m.cls := hown
  have hl : lv_has ls 5 [(0, .ref (a 0)), (1, .int (nI k)), (2, .int (z))] := hl
  refine lv_aload_n hx hb dX3_isBefore_0 rfl (lv_at hl 0 rfl) ?_
  refine va_get (D := D) (ci := 3) (v := .ref (a 3)) (C := RX3) (T := TX3) (N := 8) hx hb hts (by decide +kernel) hown hK.1 hP 0 rfl rfl 4 (by decide) (hts (.fieldLink RX3 28 "ParkingGarage$State" "bays" "LParkingGarage$Bays;") (by decide +kernel)) (fun _ h9 => h9) rfl dX3_isBefore_1 ?_
  refine lv_iload_n hx hb dX3_isBefore_4 rfl (lv_at hl 1 rfl) ?_
  refine cv_i (As := [.int (nI k)]) (rest := []) (tys := TYS cI cC cB cS) (ci := 0) ⟨hx, hb, hml, hown, hts⟩ (c_X0_has l D cI cC cB cS ((fun k => a (3 + k))) ((fun k => g (3 + k))) (n) (nI k) (hn) (hnb)) (cwV 1 hts gX3_isBefore_X0_has rfl rfl rfl (by decide +kernel) ⟨Nat.le_of_ble_eq_true rfl, Nat.le_of_ble_eq_true rfl⟩) hK hP [3, 4, 5, 6, 7, 8, 9, 10, 11] rfl rfl rfl rfl rfl hl.1 (Nat.le_of_ble_eq_true rfl) dX3_isBefore_5 ⟨Nat.le_of_ble_eq_true rfl, Nat.le_of_ble_eq_true rfl⟩ (fun r_1 hr_1 => ?_)
  rcases (show Yes (∃ w, w < n ∧ nI k = nI w) r_1 from hr_1) with ⟨rfl, h_2⟩ | ⟨rfl, h_2⟩
  · -- X0_has t
    refine if_eq_f (tgt := 22) hx hb (by decide) dX3_isBefore_8 (by decide) ?_
    refine lv_aload_n hx hb dX3_isBefore_11 rfl (lv_at hl 0 rfl) ?_
    refine va_get (D := D) (ci := 3) (v := .ref (a 3)) (C := RX3) (T := TX3) (N := 8) hx hb hts (by decide +kernel) hown hK.1 hP 0 rfl rfl 4 (by decide) (hts (.fieldLink RX3 28 "ParkingGarage$State" "bays" "LParkingGarage$Bays;") (by decide +kernel)) (fun _ h9 => h9) rfl dX3_isBefore_12 ?_
    refine lv_iload_n hx hb dX3_isBefore_15 rfl (lv_at hl 2 rfl) ?_
    refine cv_i (As := [.int (z)]) (rest := []) (tys := TYS cI cC cB cS) (ci := 0) ⟨hx, hb, hml, hown, hts⟩ (c_X0_has l D cI cC cB cS ((fun k => a (3 + k))) ((fun k => g (3 + k))) (n) (z) (hn) (hnb)) (cwV 1 hts gX3_isBefore_X0_has rfl rfl rfl (by decide +kernel) ⟨Nat.le_of_ble_eq_true rfl, Nat.le_of_ble_eq_true rfl⟩) hK hP [3, 4, 5, 6, 7, 8, 9, 10, 11] rfl rfl rfl rfl rfl hl.1 (Nat.le_of_ble_eq_true rfl) dX3_isBefore_16 ⟨Nat.le_of_ble_eq_true rfl, Nat.le_of_ble_eq_true rfl⟩ (fun r_3 hr_3 => ?_)
    rcases (show Yes (∃ w, w < n ∧ z = nI w) r_3 from hr_3) with ⟨rfl, h_4⟩ | ⟨rfl, h_4⟩
    · -- X0_has t
      obtain ⟨j, hj, hzj⟩ := h_4
      subst hzj
      have hzj : nI j = nI j := rfl
      refine if_ne_t (tgt := 31) hx hb (by decide) dX3_isBefore_19 (by decide) ?_
      refine lv_aload_n hx hb dX3_isBefore_31 rfl (lv_at hl 0 rfl) ?_
      refine lv_iload_n hx hb dX3_isBefore_32 rfl (lv_at hl 1 rfl) ?_
      refine cv_i (As := [.int (nI k)]) (rest := []) (tys := TYS cI cC cB cS) (ci := 3) ⟨hx, hb, hml, hown, hts⟩ (c_X3_way l D cI cC cB cS (a) (g) (n) (k) (hn) (hnb) (hk)) (cwV 1 hts gX3_isBefore_X3_way rfl rfl rfl (by decide +kernel) ⟨Nat.le_of_ble_eq_true rfl, Nat.le_of_ble_eq_true rfl⟩) hK hP [0, 1, 2, 3, 4, 5, 6, 7, 8, 9, 10, 11, 12, 13, 14, 15, 16, 17, 18, 19, 20, 21, 22, 23, 24, 25, 26] rfl rfl rfl rfl rfl hl.1 (Nat.le_of_ble_eq_true rfl) dX3_isBefore_33 ⟨Nat.le_of_ble_eq_true rfl, Nat.le_of_ble_eq_true rfl⟩ (fun r_5 hr_5 => ?_)
      have hr_5 : r_5 = Wy (g 4) (g 5) (g 1 0) k := hr_5
      refine lv_istore_n (lv' := [(3, .int (r_5)), (0, .ref (a 0)), (1, .int (nI k)), (2, .int (nI j))]) hx hb dX3_isBefore_36 rfl hl (by decide) rfl (fun ls hl => ?_)
      refine lv_aload_n hx hb dX3_isBefore_37 rfl (lv_at hl 1 rfl) ?_
      refine lv_iload_n hx hb dX3_isBefore_38 rfl (lv_at hl 3 rfl) ?_
      refine cv_i (As := [.int (nI j)]) (rest := []) (tys := TYS cI cC cB cS) (ci := 3) ⟨hx, hb, hml, hown, hts⟩ (c_X3_way l D cI cC cB cS (a) (g) (n) (j) (hn) (hnb) (hj)) (cwV 1 hts gX3_isBefore_X3_way rfl rfl rfl (by decide +kernel) ⟨Nat.le_of_ble_eq_true rfl, Nat.le_of_ble_eq_true rfl⟩) hK hP [0, 1, 2, 3, 4, 5, 6, 7, 8, 9, 10, 11, 12, 13, 14, 15, 16, 17, 18, 19, 20, 21, 22, 23, 24, 25, 26] rfl rfl rfl rfl rfl hl.1 (Nat.le_of_ble_eq_true rfl) dX3_isBefore_39 ⟨Nat.le_of_ble_eq_true rfl, Nat.le_of_ble_eq_true rfl⟩ (fun r_6 hr_6 => ?_)
      have hr_6 : r_6 = Wy (g 4) (g 5) (g 1 0) j := hr_6
      refine lv_istore (lv' := [(4, .int (r_6)), (3, .int (r_5)), (0, .ref (a 0)), (1, .int (nI k)), (2, .int (nI j))]) hx hb dX3_isBefore_42 hl (by decide) rfl (fun ls hl => ?_)
      refine lv_iload_n hx hb dX3_isBefore_44 rfl (lv_at hl 1 rfl) ?_
      refine lv_iload hx hb dX3_isBefore_45 (lv_at hl 0 rfl) ?_
      refine lv_icmp_lt (tgt := 77) hx hb dX3_isBefore_47 (by decide) (fun c_7 => ?_) (fun c_7 => ?_)
      · -- c_7: r_5 < r_6
        refine lv_iconst (v := 1) hx hb dX3_isBefore_77 (by decide) ?_
        refine lv_goto (tgt := 82) hx hb dX3_isBefore_78 (by decide) ?_
        exact rd_zret (v := 1) hx hb hr hlocks dX3_isBefore_82 (by decide) (Or.inl ⟨rfl, Or.inr ⟨j, hj, hzj, Or.inl (by rw [← hr_5, ← hr_6]; exact c_7)⟩⟩)
      · -- c_7: not r_5 < r_6
        refine lv_iload_n hx hb dX3_isBefore_50 rfl (lv_at hl 1 rfl) ?_
        refine lv_iload hx hb dX3_isBefore_51 (lv_at hl 0 rfl) ?_
        refine lv_icmp_ne (tgt := 81) hx hb dX3_isBefore_53 (by decide) (fun c_8 => ?_) (fun c_8 => ?_)
        · -- c_8: r_5 ≠ r_6
          refine lv_iconst (v := 0) hx hb dX3_isBefore_81 (by decide) ?_
          exact rd_zret (v := 0) hx hb hr hlocks dX3_isBefore_82 (by decide) (Or.inr ⟨rfl, fun q => by
      rcases q with q | ⟨i, hi, e, q⟩
      · exact q j hj hzj
      · have e2 := nI_inj (by omega) (by omega) (hzj.symm.trans e); subst e2
        rw [Bef, ← hr_5, ← hr_6] at q
        exact q.elim c_7 (fun z => c_8 z.1)⟩)
        · -- c_8: not r_5 ≠ r_6
          refine lv_aload_n hx hb dX3_isBefore_56 rfl (lv_at hl 2 rfl) ?_
          refine va_get (D := D) (ci := 3) (v := .ref (a 3)) (C := RX3) (T := TX3) (N := 8) hx hb hts (by decide +kernel) hown hK.1 hP 0 rfl rfl 4 (by decide) (hts (.fieldLink RX3 28 "ParkingGarage$State" "bays" "LParkingGarage$Bays;") (by decide +kernel)) (fun _ h9 => h9) rfl dX3_isBefore_57 ?_
          refine va_get (D := D) (ci := 0) (v := .ref (a 6)) (C := RX0) (T := TX0) (N := 9) hx hb hts (by decide +kernel) hown hK.1 hP 3 rfl rfl 3 (by decide) (hts (.fieldLink RX3 81 "ParkingGarage$Bays" "sizes" "[I") (by decide +kernel)) (fun _ h9 => h9) rfl dX3_isBefore_60 ?_
          refine lv_iload_n hx hb dX3_isBefore_63 rfl (lv_at hl 3 rfl) ?_
          refine iald_n (f := g 6) hx hb hK.1 hP 6 0 rfl rfl (k) (rfl) (by omega) (by omega) dX3_isBefore_64 ?_
          refine lv_aload_n hx hb dX3_isBefore_65 rfl (lv_at hl 2 rfl) ?_
          refine va_get (D := D) (ci := 3) (v := .ref (a 3)) (C := RX3) (T := TX3) (N := 8) hx hb hts (by decide +kernel) hown hK.1 hP 0 rfl rfl 4 (by decide) (hts (.fieldLink RX3 28 "ParkingGarage$State" "bays" "LParkingGarage$Bays;") (by decide +kernel)) (fun _ h9 => h9) rfl dX3_isBefore_66 ?_
          refine va_get (D := D) (ci := 0) (v := .ref (a 6)) (C := RX0) (T := TX0) (N := 9) hx hb hts (by decide +kernel) hown hK.1 hP 3 rfl rfl 3 (by decide) (hts (.fieldLink RX3 81 "ParkingGarage$Bays" "sizes" "[I") (by decide +kernel)) (fun _ h9 => h9) rfl dX3_isBefore_69 ?_
          refine lv_iload_n hx hb dX3_isBefore_72 rfl (lv_at hl 4 rfl) ?_
          refine iald_n (f := g 6) hx hb hK.1 hP 6 0 rfl rfl (j) (rfl) (by omega) (by omega) dX3_isBefore_73 ?_
          refine lv_icmp_ge (tgt := 81) hx hb dX3_isBefore_74 (by decide) (fun c_9 => ?_) (fun c_9 => ?_)
          · -- c_9: (g 6) (k) ≥ (g 6) (j)
            refine lv_iconst (v := 0) hx hb dX3_isBefore_81 (by decide) ?_
            exact rd_zret (v := 0) hx hb hr hlocks dX3_isBefore_82 (by decide) (Or.inr ⟨rfl, fun q => by
      rcases q with q | ⟨i, hi, e, q⟩
      · exact q j hj hzj
      · have e2 := nI_inj (by omega) (by omega) (hzj.symm.trans e); subst e2
        rw [Bef, ← hr_5, ← hr_6] at q
        exact q.elim c_7 (fun z => Int32.not_lt.mpr c_9 z.2)⟩)
          · -- c_9: not (g 6) (k) ≥ (g 6) (j)
            refine lv_iconst (v := 1) hx hb dX3_isBefore_77 (by decide) ?_
            refine lv_goto (tgt := 82) hx hb dX3_isBefore_78 (by decide) ?_
            exact rd_zret (v := 1) hx hb hr hlocks dX3_isBefore_82 (by decide) (Or.inl ⟨rfl, Or.inr ⟨j, hj, hzj, Or.inr ⟨by rw [← hr_5, ← hr_6]; exact c_8, Int32.not_le.mp c_9⟩⟩⟩)
    · -- X0_has f
      refine if_ne_f (tgt := 31) hx hb rfl dX3_isBefore_19 (by decide) ?_
      refine lv_aload_n hx hb dX3_isBefore_22 rfl (lv_at hl 0 rfl) ?_
      refine va_get (D := D) (ci := 3) (v := .ref (a 3)) (C := RX3) (T := TX3) (N := 8) hx hb hts (by decide +kernel) hown hK.1 hP 0 rfl rfl 4 (by decide) (hts (.fieldLink RX3 28 "ParkingGarage$State" "bays" "LParkingGarage$Bays;") (by decide +kernel)) (fun _ h9 => h9) rfl dX3_isBefore_23 ?_
      refine lv_iload_n hx hb dX3_isBefore_26 rfl (lv_at hl 1 rfl) ?_
      refine cv_i (As := [.int (nI k)]) (rest := []) (tys := TYS cI cC cB cS) (ci := 0) ⟨hx, hb, hml, hown, hts⟩ (c_X0_has l D cI cC cB cS ((fun k => a (3 + k))) ((fun k => g (3 + k))) (n) (nI k) (hn) (hnb)) (cwV 1 hts gX3_isBefore_X0_has rfl rfl rfl (by decide +kernel) ⟨Nat.le_of_ble_eq_true rfl, Nat.le_of_ble_eq_true rfl⟩) hK hP [3, 4, 5, 6, 7, 8, 9, 10, 11] rfl rfl rfl rfl rfl hl.1 (Nat.le_of_ble_eq_true rfl) dX3_isBefore_27 ⟨Nat.le_of_ble_eq_true rfl, Nat.le_of_ble_eq_true rfl⟩ (fun r_10 hr_10 => ?_)
      rcases (show Yes (∃ w, w < n ∧ nI k = nI w) r_10 from hr_10) with ⟨rfl, h_11⟩ | ⟨rfl, h_11⟩
      · -- X0_has t
        exact rd_zret (v := 1) hx hb hr hlocks dX3_isBefore_30 (by decide) (Or.inl ⟨rfl, Or.inl (fun j hj e => h_4 ⟨j, hj, e⟩)⟩)
      · -- X0_has f
        exact absurd ⟨k, hk, rfl⟩ h_11
  · -- X0_has f
    exact absurd ⟨k, hk, rfl⟩ h_2
set_option maxHeartbeats 4000000 in
set_option maxRecDepth 100000 in
theorem c_X3_holder (l : Launch) (D : va_G) (cI cC cB cS : ClassId) (a : Nat → Nat) (g : Nat → Nat → Int32) (q : Nat) (x : Int32) (hq : g 12 0 = nI q) (hqc : q ≤ 16) : Met l yX3_holder wsX3_holder ({ frames := 4, cells := 0, slots := 0, locals := 91 } : Room) (rdPc D (TYS cI cC cB cS) [.ref (a 0), .int (x)] (wS cI a g)) (vp_Si (fun r => Fst (fun w => HeldB (g 14) (g 18) (g 15) (g 16) (g 0 0) (g 0 0 + 1) (g 1 1) (x) w) q r)) 0 0 (fun _ => False) := by
  refine rd_intro (by decide) rfl (Nat.le_of_ble_eq_true rfl) ?_
  intro p e s m below meth c hx hb hr hml hts hown hlocks hP hK ls hl
  have hP : va_P D vwCl [(a 0, oE 3 [.int (g 0 0), .int (g 0 1), .ref (a 1), .ref (a 2), .ref (a 3), .ref (a 12), .ref (a 19), .ref (a 23)]), (a 1, iE cI 5 (g 1)), (a 2, iE cI 4 (g 2)), (a 3, oE 0 [.int (g 3 0), .ref (a 4), .ref (a 5), .ref (a 6), .ref (a 7), .ref (a 8), .ref (a 9), .ref (a 10), .ref (a 11)]), (a 4, iE cI 30 (g 4)), (a 5, iE cI 30 (g 5)), (a 6, iE cI 30 (g 6)), (a 7, iE cI 30 (g 7)), (a 8, iE cI 30 (g 8)), (a 9, iE cI 30 (g 9)), (a 10, iE cI 30 (g 10)), (a 11, iE cI 30 (g 11)), (a 12, oE 2 [.int (g 12 0), .ref (a 13), .ref (a 14), .ref (a 15), .ref (a 16), .ref (a 17), .ref (a 18)]), (a 13, iE cI 16 (g 13)), (a 14, iE cI 16 (g 14)), (a 15, iE cI 16 (g 15)), (a 16, iE cI 16 (g 16)), (a 17, iE cI 16 (g 17)), (a 18, iE cI 16 (g 18)), (a 19, oE 4 [.int (g 19 0), .ref (a 20), .ref (a 21), .ref (a 22)]), (a 20, iE cI 5 (g 20)), (a 21, iE cI 5 (g 21)), (a 22, iE cI 5 (g 22)), (a 23, oE 4 [.int (g 23 0), .ref (a 24), .ref (a 25), .ref (a 26)]), (a 24, iE cI 5 (g 24)), (a 25, iE cI 5 (g 25)), (a 26, iE cI 5 (g 26))] s.heap := hP
  have hown : s.vm.findClass RX3 = some m.cls := hown
  have hl : lv_has ls 2 [(0, .ref (a 0)), (1, .int (x))] := hl
  refine lv_aload_n hx hb dX3_holder_0 rfl (lv_at hl 0 rfl) ?_
  refine va_get (D := D) (ci := 3) (v := .ref (a 12)) (C := RX3) (T := TX3) (N := 8) hx hb hts (by decide +kernel) hown hK.1 hP 0 rfl rfl 5 (by decide) (hts (.fieldLink RX3 35 "ParkingGarage$State" "reservations" "LParkingGarage$Reservations;") (by decide +kernel)) (fun _ h9 => h9) rfl dX3_holder_1 ?_
  refine lv_iload_n hx hb dX3_holder_4 rfl (lv_at hl 1 rfl) ?_
  refine lv_aload_n hx hb dX3_holder_5 rfl (lv_at hl 0 rfl) ?_
  refine va_get (D := D) (ci := 3) (v := .int (g 0 0)) (C := RX3) (T := TX3) (N := 8) hx hb hts (by decide +kernel) hown hK.1 hP 0 rfl rfl 0 (by decide) (hts (.fieldLink RX3 9 "ParkingGarage$State" "time" "I") (by decide +kernel)) (fun _ h9 => h9) rfl dX3_holder_6 ?_
  refine lv_aload_n hx hb dX3_holder_9 rfl (lv_at hl 0 rfl) ?_
  refine va_get (D := D) (ci := 3) (v := .int (g 0 0)) (C := RX3) (T := TX3) (N := 8) hx hb hts (by decide +kernel) hown hK.1 hP 0 rfl rfl 0 (by decide) (hts (.fieldLink RX3 9 "ParkingGarage$State" "time" "I") (by decide +kernel)) (fun _ h9 => h9) rfl dX3_holder_10 ?_
  refine lv_iconst (v := 1) hx hb dX3_holder_13 (by decide) ?_
  refine lv_iadd hx hb dX3_holder_14 ?_
  refine lv_aload_n hx hb dX3_holder_15 rfl (lv_at hl 0 rfl) ?_
  refine va_get (D := D) (ci := 3) (v := .ref (a 1)) (C := RX3) (T := TX3) (N := 8) hx hb hts (by decide +kernel) hown hK.1 hP 0 rfl rfl 2 (by decide) (hts (.fieldLink RX3 18 "ParkingGarage$State" "numbers" "[I") (by decide +kernel)) (fun _ h9 => h9) rfl dX3_holder_16 ?_
  refine lv_iconst (v := 1) hx hb dX3_holder_19 (by decide) ?_
  refine iald_n (f := g 1) hx hb hK.1 hP 1 0 rfl rfl (1) (rfl) (by decide) (by omega) dX3_holder_20 ?_
  refine cv_i (As := [.int (x), .int (g 0 0), .int ((g 0 0) + (1)), .int ((g 1) (1))]) (rest := []) (tys := TYS cI cC cB cS) (ci := 2) ⟨hx, hb, hml, hown, hts⟩ (c_X2_holderBetween l D cI cC cB cS ((fun k => a (12 + k))) ((fun k => g (12 + k))) (q) (x) (g 0 0) ((g 0 0) + (1)) ((g 1) (1)) (hq) (hqc)) (cwV 4 hts gX3_holder_X2_holderBetween rfl rfl rfl (by decide +kernel) ⟨Nat.le_of_ble_eq_true rfl, Nat.le_of_ble_eq_true rfl⟩) hK hP [12, 13, 14, 15, 16, 17, 18] rfl rfl rfl rfl rfl hl.1 (Nat.le_of_ble_eq_true rfl) dX3_holder_21 ⟨Nat.le_of_ble_eq_true rfl, Nat.le_of_ble_eq_true rfl⟩ (fun r_1 hr_1 => ?_)
  have hr_1 : Fst (fun w => g 14 w = x ∧ Hld (g 18) (g 15) (g 16) (g 0 0) ((g 0 0) + (1)) ((g 1) (1)) w) q r_1 := hr_1
  exact rd_iret (v := r_1) hx hb hr hlocks dX3_holder_24 (hr_1)
set_option maxHeartbeats 4000000 in
set_option maxRecDepth 100000 in
theorem c_X3_isHeld (l : Launch) (D : va_G) (cI cC cB cS : ClassId) (a : Nat → Nat) (g : Nat → Nat → Int32) (q : Nat) (x : Int32) (hq : g 12 0 = nI q) (hqc : q ≤ 16) : Met l yX3_isHeld wsX3_isHeld ({ frames := 4, cells := 0, slots := 0, locals := 91 } : Room) (rdPc D (TYS cI cC cB cS) [.ref (a 0), .int (x)] (wS cI a g)) (vp_Si (fun r => Yes (∃ w, w < q ∧ HeldB (g 14) (g 18) (g 15) (g 16) (g 0 0) (g 0 0 + 1) (g 1 1) (x) w) r)) 0 0 (fun _ => False) := by
  refine rd_intro (by decide) rfl (Nat.le_of_ble_eq_true rfl) ?_
  intro p e s m below meth c hx hb hr hml hts hown hlocks hP hK ls hl
  have hP : va_P D vwCl [(a 0, oE 3 [.int (g 0 0), .int (g 0 1), .ref (a 1), .ref (a 2), .ref (a 3), .ref (a 12), .ref (a 19), .ref (a 23)]), (a 1, iE cI 5 (g 1)), (a 2, iE cI 4 (g 2)), (a 3, oE 0 [.int (g 3 0), .ref (a 4), .ref (a 5), .ref (a 6), .ref (a 7), .ref (a 8), .ref (a 9), .ref (a 10), .ref (a 11)]), (a 4, iE cI 30 (g 4)), (a 5, iE cI 30 (g 5)), (a 6, iE cI 30 (g 6)), (a 7, iE cI 30 (g 7)), (a 8, iE cI 30 (g 8)), (a 9, iE cI 30 (g 9)), (a 10, iE cI 30 (g 10)), (a 11, iE cI 30 (g 11)), (a 12, oE 2 [.int (g 12 0), .ref (a 13), .ref (a 14), .ref (a 15), .ref (a 16), .ref (a 17), .ref (a 18)]), (a 13, iE cI 16 (g 13)), (a 14, iE cI 16 (g 14)), (a 15, iE cI 16 (g 15)), (a 16, iE cI 16 (g 16)), (a 17, iE cI 16 (g 17)), (a 18, iE cI 16 (g 18)), (a 19, oE 4 [.int (g 19 0), .ref (a 20), .ref (a 21), .ref (a 22)]), (a 20, iE cI 5 (g 20)), (a 21, iE cI 5 (g 21)), (a 22, iE cI 5 (g 22)), (a 23, oE 4 [.int (g 23 0), .ref (a 24), .ref (a 25), .ref (a 26)]), (a 24, iE cI 5 (g 24)), (a 25, iE cI 5 (g 25)), (a 26, iE cI 5 (g 26))] s.heap := hP
  have hown : s.vm.findClass RX3 = some m.cls := hown
  have hl : lv_has ls 2 [(0, .ref (a 0)), (1, .int (x))] := hl
  refine lv_aload_n hx hb dX3_isHeld_0 rfl (lv_at hl 0 rfl) ?_
  refine va_get (D := D) (ci := 3) (v := .ref (a 12)) (C := RX3) (T := TX3) (N := 8) hx hb hts (by decide +kernel) hown hK.1 hP 0 rfl rfl 5 (by decide) (hts (.fieldLink RX3 35 "ParkingGarage$State" "reservations" "LParkingGarage$Reservations;") (by decide +kernel)) (fun _ h9 => h9) rfl dX3_isHeld_1 ?_
  refine lv_aload_n hx hb dX3_isHeld_4 rfl (lv_at hl 0 rfl) ?_
  refine va_get (D := D) (ci := 3) (v := .ref (a 12)) (C := RX3) (T := TX3) (N := 8) hx hb hts (by decide +kernel) hown hK.1 hP 0 rfl rfl 5 (by decide) (hts (.fieldLink RX3 35 "ParkingGarage$State" "reservations" "LParkingGarage$Reservations;") (by decide +kernel)) (fun _ h9 => h9) rfl dX3_isHeld_5 ?_
  refine lv_iload_n hx hb dX3_isHeld_8 rfl (lv_at hl 1 rfl) ?_
  refine lv_aload_n hx hb dX3_isHeld_9 rfl (lv_at hl 0 rfl) ?_
  refine va_get (D := D) (ci := 3) (v := .int (g 0 0)) (C := RX3) (T := TX3) (N := 8) hx hb hts (by decide +kernel) hown hK.1 hP 0 rfl rfl 0 (by decide) (hts (.fieldLink RX3 9 "ParkingGarage$State" "time" "I") (by decide +kernel)) (fun _ h9 => h9) rfl dX3_isHeld_10 ?_
  refine lv_aload_n hx hb dX3_isHeld_13 rfl (lv_at hl 0 rfl) ?_
  refine va_get (D := D) (ci := 3) (v := .int (g 0 0)) (C := RX3) (T := TX3) (N := 8) hx hb hts (by decide +kernel) hown hK.1 hP 0 rfl rfl 0 (by decide) (hts (.fieldLink RX3 9 "ParkingGarage$State" "time" "I") (by decide +kernel)) (fun _ h9 => h9) rfl dX3_isHeld_14 ?_
  refine lv_iconst (v := 1) hx hb dX3_isHeld_17 (by decide) ?_
  refine lv_iadd hx hb dX3_isHeld_18 ?_
  refine lv_aload_n hx hb dX3_isHeld_19 rfl (lv_at hl 0 rfl) ?_
  refine va_get (D := D) (ci := 3) (v := .ref (a 1)) (C := RX3) (T := TX3) (N := 8) hx hb hts (by decide +kernel) hown hK.1 hP 0 rfl rfl 2 (by decide) (hts (.fieldLink RX3 18 "ParkingGarage$State" "numbers" "[I") (by decide +kernel)) (fun _ h9 => h9) rfl dX3_isHeld_20 ?_
  refine lv_iconst (v := 1) hx hb dX3_isHeld_23 (by decide) ?_
  refine iald_n (f := g 1) hx hb hK.1 hP 1 0 rfl rfl (1) (rfl) (by decide) (by omega) dX3_isHeld_24 ?_
  refine cv_i (As := [.int (x), .int (g 0 0), .int ((g 0 0) + (1)), .int ((g 1) (1))]) (rest := [.ref (a 12)]) (tys := TYS cI cC cB cS) (ci := 2) ⟨hx, hb, hml, hown, hts⟩ (c_X2_holderBetween l D cI cC cB cS ((fun k => a (12 + k))) ((fun k => g (12 + k))) (q) (x) (g 0 0) ((g 0 0) + (1)) ((g 1) (1)) (hq) (hqc)) (cwV 4 hts gX3_isHeld_X2_holderBetween rfl rfl rfl (by decide +kernel) ⟨Nat.le_of_ble_eq_true rfl, Nat.le_of_ble_eq_true rfl⟩) hK hP [12, 13, 14, 15, 16, 17, 18] rfl rfl rfl rfl rfl hl.1 (Nat.le_of_ble_eq_true rfl) dX3_isHeld_25 ⟨Nat.le_of_ble_eq_true rfl, Nat.le_of_ble_eq_true rfl⟩ (fun r_1 hr_1 => ?_)
  have hr_1 : Fst (fun w => g 14 w = x ∧ Hld (g 18) (g 15) (g 16) (g 0 0) ((g 0 0) + (1)) ((g 1) (1)) w) q r_1 := hr_1
  refine cv_i (As := [.int (r_1)]) (rest := []) (tys := TYS cI cC cB cS) (ci := 2) ⟨hx, hb, hml, hown, hts⟩ (c_X2_has l D cI cC cB cS ((fun k => a (12 + k))) ((fun k => g (12 + k))) (q) (r_1) (hq) (hqc)) (cwV 1 hts gX3_isHeld_X2_has rfl rfl rfl (by decide +kernel) ⟨Nat.le_of_ble_eq_true rfl, Nat.le_of_ble_eq_true rfl⟩) hK hP [12, 13, 14, 15, 16, 17, 18] rfl rfl rfl rfl rfl hl.1 (Nat.le_of_ble_eq_true rfl) dX3_isHeld_28 ⟨Nat.le_of_ble_eq_true rfl, Nat.le_of_ble_eq_true rfl⟩ (fun r_2 hr_2 => ?_)
  rcases (show Yes (∃ w, w < q ∧ r_1 = nI w) r_2 from hr_2) with ⟨rfl, h_3⟩ | ⟨rfl, h_3⟩
  · -- X2_has t
    exact rd_zret (v := 1) hx hb hr hlocks dX3_isHeld_31 (by decide) (Or.inl ⟨rfl, (Fst.has (by omega) hr_1).mp h_3⟩)
  · -- X2_has f
    exact rd_zret (v := 0) hx hb hr hlocks dX3_isHeld_31 (by decide) (Or.inr ⟨rfl, fun q => (fun z => h_3 ((Fst.has (by omega) hr_1).mpr z)) q⟩)
set_option maxHeartbeats 4000000 in
set_option maxRecDepth 100000 in
theorem c_X3_firstFree (l : Launch) (D : va_G) (cI cC cB cS : ClassId) (a : Nat → Nat) (g : Nat → Nat → Int32) (n : Nat) (q : Nat) (sz : Int32) (hn : g 3 0 = nI n) (hnb : n ≤ 30) (hq : g 12 0 = nI q) (hqc : q ≤ 16) : Met l yX3_firstFree wsX3_firstFree ({ frames := 5, cells := 0, slots := 0, locals := 112 } : Room) (rdPc D (TYS cI cC cB cS) [.ref (a 0), .int (sz)] (wS cI a g)) (vp_Si (fun r => Wlk (-9) (Imp (fun j z => (g 7 j = 1 ∧ sz ≤ g 6 j ∧ g 8 j = 0 ∧ ¬ (∃ i, i < q ∧ HeldB (g 14) (g 18) (g 15) (g 16) (g 0 0) (g 0 0 + 1) (g 1 1) (nI j) i)) ∧ Btr (g 4) (g 5) (g 6) (g 1 0) n j z) nI) n r)) 0 0 (fun _ => False) := by
  refine rd_intro (by decide) rfl (Nat.le_of_ble_eq_true rfl) ?_
  intro p e s m below meth c hx hb hr hml hts hown hlocks hP hK ls hl
  have hP : va_P D vwCl [(a 0, oE 3 [.int (g 0 0), .int (g 0 1), .ref (a 1), .ref (a 2), .ref (a 3), .ref (a 12), .ref (a 19), .ref (a 23)]), (a 1, iE cI 5 (g 1)), (a 2, iE cI 4 (g 2)), (a 3, oE 0 [.int (g 3 0), .ref (a 4), .ref (a 5), .ref (a 6), .ref (a 7), .ref (a 8), .ref (a 9), .ref (a 10), .ref (a 11)]), (a 4, iE cI 30 (g 4)), (a 5, iE cI 30 (g 5)), (a 6, iE cI 30 (g 6)), (a 7, iE cI 30 (g 7)), (a 8, iE cI 30 (g 8)), (a 9, iE cI 30 (g 9)), (a 10, iE cI 30 (g 10)), (a 11, iE cI 30 (g 11)), (a 12, oE 2 [.int (g 12 0), .ref (a 13), .ref (a 14), .ref (a 15), .ref (a 16), .ref (a 17), .ref (a 18)]), (a 13, iE cI 16 (g 13)), (a 14, iE cI 16 (g 14)), (a 15, iE cI 16 (g 15)), (a 16, iE cI 16 (g 16)), (a 17, iE cI 16 (g 17)), (a 18, iE cI 16 (g 18)), (a 19, oE 4 [.int (g 19 0), .ref (a 20), .ref (a 21), .ref (a 22)]), (a 20, iE cI 5 (g 20)), (a 21, iE cI 5 (g 21)), (a 22, iE cI 5 (g 22)), (a 23, oE 4 [.int (g 23 0), .ref (a 24), .ref (a 25), .ref (a 26)]), (a 24, iE cI 5 (g 24)), (a 25, iE cI 5 (g 25)), (a 26, iE cI 5 (g 26))] s.heap := hP
  have hown : s.vm.findClass RX3 = some m.cls := hown
  have hl : lv_has ls 4 [(0, .ref (a 0)), (1, .int (sz))] := hl
  refine lv_bipush (v := -9) hx hb dX3_firstFree_0 (by decide) ?_
  refine lv_istore_n (lv' := [(2, .int (-9)), (0, .ref (a 0)), (1, .int (sz))]) hx hb dX3_firstFree_2 rfl hl (by decide) rfl (fun ls hl => ?_)
  refine lv_iconst (v := 0) hx hb dX3_firstFree_3 (by decide) ?_
  refine lv_istore_n (lv' := [(3, .int (0)), (2, .int (-9)), (0, .ref (a 0)), (1, .int (sz))]) hx hb dX3_firstFree_4 rfl hl (by decide) rfl (fun ls hl => ?_)
  have hloop : ∀ (d i : Nat) (z : Int32), i ≤ n → n - i < d → (Wlk (-9) (Imp (fun j z => (g 7 j = 1 ∧ sz ≤ g 6 j ∧ g 8 j = 0 ∧ ¬ (∃ i, i < q ∧ HeldB (g 14) (g 18) (g 15) (g 16) (g 0 0) (g 0 0 + 1) (g 1 1) (nI j) i)) ∧ Btr (g 4) (g 5) (g 6) (g 1 0) n j z) nI) i z) → ∀ ls : Array Slot, lv_has ls 4 [(2, .int (z)), (3, .int (nI i)), (0, .ref (a 0)), (1, .int (sz))] → W p l e ({ frames := 5, cells := 0, slots := 0, locals := 112 } : Room) s m (([.ref (a 0), .int (sz)] : List Value).toArray) below meth c s.heap [] 0 0 (MQ below (vp_Si (fun r => Wlk (-9) (Imp (fun j z => (g 7 j = 1 ∧ sz ≤ g 6 j ∧ g 8 j = 0 ∧ ¬ (∃ i, i < q ∧ HeldB (g 14) (g 18) (g 15) (g 16) (g 0 0) (g 0 0 + 1) (g 1 1) (nI j) i)) ∧ Btr (g 4) (g 5) (g 6) (g 1 0) n j z) nI) n r)) (([.ref (a 0), .int (sz)] : List Value).toArray) s 0 0 (fun _ => False)) (F0 m 5 ls []) := by
    intro d
    induction d with
    | zero => intro i _ _ h2; exact absurd h2 (Nat.not_lt_zero _)
    | succ d ih =>
      intro i z hi hd hw ls hl
      refine lv_iload_n hx hb dX3_firstFree_5 rfl (lv_at hl 1 rfl) ?_
      refine lv_aload_n hx hb dX3_firstFree_6 rfl (lv_at hl 2 rfl) ?_
      refine va_get (D := D) (ci := 3) (v := .ref (a 3)) (C := RX3) (T := TX3) (N := 8) hx hb hts (by decide +kernel) hown hK.1 hP 0 rfl rfl 4 (by decide) (hts (.fieldLink RX3 28 "ParkingGarage$State" "bays" "LParkingGarage$Bays;") (by decide +kernel)) (fun _ h9 => h9) rfl dX3_firstFree_7 ?_
      refine va_get (D := D) (ci := 0) (v := .int (g 3 0)) (C := RX0) (T := TX0) (N := 9) hx hb hts (by decide +kernel) hown hK.1 hP 3 rfl rfl 0 (by decide) (hts (.fieldLink RX3 89 "ParkingGarage$Bays" "number" "I") (by decide +kernel)) (fun _ h9 => h9) rfl dX3_firstFree_10 ?_
      refine lv_icmp_ge (tgt := 64) hx hb dX3_firstFree_13 (by decide) (fun c_1 => ?_) (fun c_1 => ?_)
      · -- c_1: nI i ≥ g 3 0
        have hge : i = n := nI_geD hn hi (by omega) c_1
        subst hge
        refine lv_iload_n hx hb dX3_firstFree_64 rfl (lv_at hl 0 rfl) ?_
        exact rd_iret (v := z) hx hb hr hlocks dX3_firstFree_65 (hw)
      · -- c_1: not nI i ≥ g 3 0
        have hlt : i < n := nI_ltD hn hi (by omega) c_1
        refine lv_aload_n hx hb dX3_firstFree_16 rfl (lv_at hl 2 rfl) ?_
        refine va_get (D := D) (ci := 3) (v := .ref (a 3)) (C := RX3) (T := TX3) (N := 8) hx hb hts (by decide +kernel) hown hK.1 hP 0 rfl rfl 4 (by decide) (hts (.fieldLink RX3 28 "ParkingGarage$State" "bays" "LParkingGarage$Bays;") (by decide +kernel)) (fun _ h9 => h9) rfl dX3_firstFree_17 ?_
        refine lv_iload_n hx hb dX3_firstFree_20 rfl (lv_at hl 1 rfl) ?_
        refine lv_iload_n hx hb dX3_firstFree_21 rfl (lv_at hl 3 rfl) ?_
        refine cv_i (As := [.int (nI i), .int (sz)]) (rest := []) (tys := TYS cI cC cB cS) (ci := 0) ⟨hx, hb, hml, hown, hts⟩ (c_X0_serves l D cI cC cB cS ((fun k => a (3 + k))) ((fun k => g (3 + k))) (n) (nI i) (sz) (hn) (hnb)) (cwV 2 hts gX3_firstFree_X0_serves rfl rfl rfl (by decide +kernel) ⟨Nat.le_of_ble_eq_true rfl, Nat.le_of_ble_eq_true rfl⟩) hK hP [3, 4, 5, 6, 7, 8, 9, 10, 11] rfl rfl rfl rfl rfl hl.1 (Nat.le_of_ble_eq_true rfl) dX3_firstFree_22 ⟨Nat.le_of_ble_eq_true rfl, Nat.le_of_ble_eq_true rfl⟩ (fun r_2 hr_2 => ?_)
        rcases (show Yes (∃ w, w < n ∧ nI i = nI w ∧ g 7 w = 1 ∧ sz ≤ g 6 w) r_2 from hr_2) with ⟨rfl, h_3⟩ | ⟨rfl, h_3⟩
        · -- X0_serves t
          have hsv : g 7 i = 1 ∧ sz ≤ g 6 i := by
              obtain ⟨k, h1, h2, h3, h4⟩ := h_3
              have e := nI_inj (by omega) (by omega) h2
              subst e
              exact ⟨h3, h4⟩
          refine if_eq_f (tgt := 58) hx hb (by decide) dX3_firstFree_25 (by decide) ?_
          refine lv_aload_n hx hb dX3_firstFree_28 rfl (lv_at hl 2 rfl) ?_
          refine va_get (D := D) (ci := 3) (v := .ref (a 3)) (C := RX3) (T := TX3) (N := 8) hx hb hts (by decide +kernel) hown hK.1 hP 0 rfl rfl 4 (by decide) (hts (.fieldLink RX3 28 "ParkingGarage$State" "bays" "LParkingGarage$Bays;") (by decide +kernel)) (fun _ h9 => h9) rfl dX3_firstFree_29 ?_
          refine lv_iload_n hx hb dX3_firstFree_32 rfl (lv_at hl 1 rfl) ?_
          refine cv_i (As := [.int (nI i)]) (rest := []) (tys := TYS cI cC cB cS) (ci := 0) ⟨hx, hb, hml, hown, hts⟩ (c_X0_isEmpty l D cI cC cB cS ((fun k => a (3 + k))) ((fun k => g (3 + k))) (n) (i) (hn) (hnb) (hlt)) (cwV 1 hts gX3_firstFree_X0_isEmpty rfl rfl rfl (by decide +kernel) ⟨Nat.le_of_ble_eq_true rfl, Nat.le_of_ble_eq_true rfl⟩) hK hP [3, 4, 5, 6, 7, 8, 9, 10, 11] rfl rfl rfl rfl rfl hl.1 (Nat.le_of_ble_eq_true rfl) dX3_firstFree_33 ⟨Nat.le_of_ble_eq_true rfl, Nat.le_of_ble_eq_true rfl⟩ (fun r_4 hr_4 => ?_)
          rcases (show Yes (g 8 i = 0) r_4 from hr_4) with ⟨rfl, h_5⟩ | ⟨rfl, h_5⟩
          · -- X0_isEmpty t
            refine if_eq_f (tgt := 58) hx hb (by decide) dX3_firstFree_36 (by decide) ?_
            refine lv_aload_n hx hb dX3_firstFree_39 rfl (lv_at hl 2 rfl) ?_
            refine lv_iload_n hx hb dX3_firstFree_40 rfl (lv_at hl 1 rfl) ?_
            refine cv_i (As := [.int (nI i)]) (rest := []) (tys := TYS cI cC cB cS) (ci := 3) ⟨hx, hb, hml, hown, hts⟩ (c_X3_isHeld l D cI cC cB cS (a) (g) (q) (nI i) (hq) (hqc)) (cwV 1 hts gX3_firstFree_X3_isHeld rfl rfl rfl (by decide +kernel) ⟨Nat.le_of_ble_eq_true rfl, Nat.le_of_ble_eq_true rfl⟩) hK hP [0, 1, 2, 3, 4, 5, 6, 7, 8, 9, 10, 11, 12, 13, 14, 15, 16, 17, 18, 19, 20, 21, 22, 23, 24, 25, 26] rfl rfl rfl rfl rfl hl.1 (Nat.le_of_ble_eq_true rfl) dX3_firstFree_41 ⟨Nat.le_of_ble_eq_true rfl, Nat.le_of_ble_eq_true rfl⟩ (fun r_6 hr_6 => ?_)
            rcases (show Yes (∃ w, w < q ∧ HeldB (g 14) (g 18) (g 15) (g 16) (g 0 0) (g 0 0 + 1) (g 1 1) (nI i) w) r_6 from hr_6) with ⟨rfl, h_7⟩ | ⟨rfl, h_7⟩
            · -- X3_isHeld t
              refine if_ne_t (tgt := 58) hx hb (by decide) dX3_firstFree_44 (by decide) ?_
              refine lv_iinc (v := nI (i + 1)) (lv' := [(3, .int (nI (i + 1))), (2, .int (z)), (0, .ref (a 0)), (1, .int (sz))]) hx hb dX3_firstFree_58 hl (k := 1) rfl (nI_1 _) (by decide) rfl (fun ls hl => ?_)
              refine lv_goto (tgt := 5) hx hb dX3_firstFree_61 (by decide) ?_
              exact ih (i + 1) (z) (by omega) (by omega) (hw.s (Imp.no (fun q => q.1.2.2.2 h_7))) ls (lv_sub hl [1, 0, 2, 3] rfl)
            · -- X3_isHeld f
              refine if_ne_f (tgt := 58) hx hb rfl dX3_firstFree_44 (by decide) ?_
              refine lv_aload_n hx hb dX3_firstFree_47 rfl (lv_at hl 2 rfl) ?_
              refine lv_iload_n hx hb dX3_firstFree_48 rfl (lv_at hl 1 rfl) ?_
              refine lv_iload_n hx hb dX3_firstFree_49 rfl (lv_at hl 0 rfl) ?_
              refine cv_i (As := [.int (nI i), .int (z)]) (rest := []) (tys := TYS cI cC cB cS) (ci := 3) ⟨hx, hb, hml, hown, hts⟩ (c_X3_isBefore l D cI cC cB cS (a) (g) (n) (i) (z) (hn) (hnb) (hlt)) (cwV 2 hts gX3_firstFree_X3_isBefore rfl rfl rfl (by decide +kernel) ⟨Nat.le_of_ble_eq_true rfl, Nat.le_of_ble_eq_true rfl⟩) hK hP [0, 1, 2, 3, 4, 5, 6, 7, 8, 9, 10, 11, 12, 13, 14, 15, 16, 17, 18, 19, 20, 21, 22, 23, 24, 25, 26] rfl rfl rfl rfl rfl hl.1 (Nat.le_of_ble_eq_true rfl) dX3_firstFree_50 ⟨Nat.le_of_ble_eq_true rfl, Nat.le_of_ble_eq_true rfl⟩ (fun r_8 hr_8 => ?_)
              rcases (show Yes (Btr (g 4) (g 5) (g 6) (g 1 0) n i z) r_8 from hr_8) with ⟨rfl, h_9⟩ | ⟨rfl, h_9⟩
              · -- X3_isBefore t
                refine if_eq_f (tgt := 58) hx hb (by decide) dX3_firstFree_53 (by decide) ?_
                refine lv_iload_n hx hb dX3_firstFree_56 rfl (lv_at hl 1 rfl) ?_
                refine lv_istore_n (lv' := [(2, .int (nI i)), (3, .int (nI i)), (0, .ref (a 0)), (1, .int (sz))]) hx hb dX3_firstFree_57 rfl hl (by decide) rfl (fun ls hl => ?_)
                refine lv_iinc (v := nI (i + 1)) (lv' := [(3, .int (nI (i + 1))), (2, .int (nI i)), (0, .ref (a 0)), (1, .int (sz))]) hx hb dX3_firstFree_58 hl (k := 1) rfl (nI_1 _) (by decide) rfl (fun ls hl => ?_)
                refine lv_goto (tgt := 5) hx hb dX3_firstFree_61 (by decide) ?_
                exact ih (i + 1) (nI i) (by omega) (by omega) (hw.s (Imp.yes ⟨⟨hsv.1, hsv.2, h_5, h_7⟩, h_9⟩)) ls (lv_sub hl [1, 0, 2, 3] rfl)
              · -- X3_isBefore f
                refine if_eq_t (tgt := 58) hx hb rfl dX3_firstFree_53 (by decide) ?_
                refine lv_iinc (v := nI (i + 1)) (lv' := [(3, .int (nI (i + 1))), (2, .int (z)), (0, .ref (a 0)), (1, .int (sz))]) hx hb dX3_firstFree_58 hl (k := 1) rfl (nI_1 _) (by decide) rfl (fun ls hl => ?_)
                refine lv_goto (tgt := 5) hx hb dX3_firstFree_61 (by decide) ?_
                exact ih (i + 1) (z) (by omega) (by omega) (hw.s (Imp.no (fun q => h_9 q.2))) ls (lv_sub hl [1, 0, 2, 3] rfl)
          · -- X0_isEmpty f
            refine if_eq_t (tgt := 58) hx hb rfl dX3_firstFree_36 (by decide) ?_
            refine lv_iinc (v := nI (i + 1)) (lv' := [(3, .int (nI (i + 1))), (2, .int (z)), (0, .ref (a 0)), (1, .int (sz))]) hx hb dX3_firstFree_58 hl (k := 1) rfl (nI_1 _) (by decide) rfl (fun ls hl => ?_)
            refine lv_goto (tgt := 5) hx hb dX3_firstFree_61 (by decide) ?_
            exact ih (i + 1) (z) (by omega) (by omega) (hw.s (Imp.no (fun q => h_5 q.1.2.2.1))) ls (lv_sub hl [1, 0, 2, 3] rfl)
        · -- X0_serves f
          refine if_eq_t (tgt := 58) hx hb rfl dX3_firstFree_25 (by decide) ?_
          refine lv_iinc (v := nI (i + 1)) (lv' := [(3, .int (nI (i + 1))), (2, .int (z)), (0, .ref (a 0)), (1, .int (sz))]) hx hb dX3_firstFree_58 hl (k := 1) rfl (nI_1 _) (by decide) rfl (fun ls hl => ?_)
          refine lv_goto (tgt := 5) hx hb dX3_firstFree_61 (by decide) ?_
          exact ih (i + 1) (z) (by omega) (by omega) (hw.s (Imp.no (fun q => h_3 ⟨i, hlt, rfl, q.1.1, q.1.2.1⟩))) ls (lv_sub hl [1, 0, 2, 3] rfl)
  exact hloop (n + 1) 0 (-9) (by omega) (by omega) (rfl) ls (lv_sub hl [1, 0, 2, 3] rfl)
