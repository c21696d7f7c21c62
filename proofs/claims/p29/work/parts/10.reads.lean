/-! ===== Bays, Reservations: the methods that read (laid by wip/whole/gen) ===== -/
set_option maxHeartbeats 4000000 in
set_option maxRecDepth 100000 in
theorem c_X6_isWithin (l : Launch) (D : va_G) (cI cC cB cS : ClassId) (v : Int32) (lo : Int32) (hi : Int32) : Met l yX6_isWithin wsX6_isWithin ({ frames := 0, cells := 0, slots := 0, locals := 0 } : Room) (rdPc D (TYS cI cC cB cS) [.int (v), .int (lo), .int (hi)] ([])) (vp_Si (fun r => Yes (lo ≤ v ∧ v ≤ hi) r)) 0 0 (fun _ => False) := by
  refine rd_intro (by decide) rfl (Nat.le_of_ble_eq_true rfl) ?_
  intro p e s m below meth c hx hb hr hml hts hown hlocks hP hK ls hl
  have hP : va_P D vwCl [] s.heap := hP
  have hown : s.vm.findClass RX6 = some m.cls := hown
  have hl : lv_has ls 3 [(0, .int (v)), (1, .int (lo)), (2, .int (hi))] := hl
  refine lv_iload_n hx hb dX6_isWithin_0 rfl (lv_at hl 0 rfl) ?_
  refine lv_iload_n hx hb dX6_isWithin_1 rfl (lv_at hl 1 rfl) ?_
  refine lv_icmp_lt (tgt := 14) hx hb dX6_isWithin_2 (by decide) (fun c_1 => ?_) (fun c_1 => ?_)
  · -- c_1: v < lo
    refine lv_iconst (v := 0) hx hb dX6_isWithin_14 (by decide) ?_
    exact rd_zret (v := 0) hx hb hr hlocks dX6_isWithin_15 (by decide) (Or.inr ⟨rfl, fun q => Int32.not_le.mpr c_1 q.1⟩)
  · -- c_1: not v < lo
    refine lv_iload_n hx hb dX6_isWithin_5 rfl (lv_at hl 0 rfl) ?_
    refine lv_iload_n hx hb dX6_isWithin_6 rfl (lv_at hl 2 rfl) ?_
    refine lv_icmp_gt (tgt := 14) hx hb dX6_isWithin_7 (by decide) (fun c_2 => ?_) (fun c_2 => ?_)
    · -- c_2: v > hi
      refine lv_iconst (v := 0) hx hb dX6_isWithin_14 (by decide) ?_
      exact rd_zret (v := 0) hx hb hr hlocks dX6_isWithin_15 (by decide) (Or.inr ⟨rfl, fun q => Int32.not_le.mpr c_2 q.2⟩)
    · -- c_2: not v > hi
      refine lv_iconst (v := 1) hx hb dX6_isWithin_10 (by decide) ?_
      refine lv_goto (tgt := 15) hx hb dX6_isWithin_11 (by decide) ?_
      exact rd_zret (v := 1) hx hb hr hlocks dX6_isWithin_15 (by decide) (Or.inl ⟨rfl, Int32.not_lt.mp c_1, Int32.not_lt.mp c_2⟩)
set_option maxHeartbeats 4000000 in
set_option maxRecDepth 100000 in
theorem c_X6_isPlate (l : Launch) (D : va_G) (cI cC cB cS : ClassId) (v : Int32) : Met l yX6_isPlate wsX6_isPlate ({ frames := 1, cells := 0, slots := 0, locals := 22 } : Room) (rdPc D (TYS cI cC cB cS) [.int (v)] ([])) (vp_Si (fun r => Yes (1 ≤ v ∧ v ≤ 999) r)) 0 0 (fun _ => False) := by
  refine rd_intro (by decide) rfl (Nat.le_of_ble_eq_true rfl) ?_
  intro p e s m below meth c hx hb hr hml hts hown hlocks hP hK ls hl
  have hP : va_P D vwCl [] s.heap := hP
  have hown : s.vm.findClass RX6 = some m.cls := hown
  have hl : lv_has ls 1 [(0, .int (v))] := hl
  refine lv_iload_n hx hb dX6_isPlate_0 rfl (lv_at hl 0 rfl) ?_
  refine lv_iconst (v := 1) hx hb dX6_isPlate_1 (by decide) ?_
  refine lv_sipush (v := 999) hx hb dX6_isPlate_2 (by decide) ?_
  refine cs_i (As := [.int (v), .int (1), .int (999)]) (rest := []) (tys := TYS cI cC cB cS) ⟨hx, hb, hml, hown, hts⟩ (c_X6_isWithin l D cI cC cB cS (v) (1) (999)) (va_cwS 3 hts gX6_isPlate_X6_isWithin rfl rfl rfl (by decide +kernel) ⟨Nat.le_of_ble_eq_true rfl, Nat.le_of_ble_eq_true rfl⟩) hK hP [] rfl rfl rfl hl.1 (Nat.le_of_ble_eq_true rfl) dX6_isPlate_5 ⟨Nat.le_of_ble_eq_true rfl, Nat.le_of_ble_eq_true rfl⟩ (fun r_1 hr_1 => ?_)
  rcases (show Yes (1 ≤ v ∧ v ≤ 999) r_1 from hr_1) with ⟨rfl, h_2⟩ | ⟨rfl, h_2⟩
  · -- X6_isWithin t
    exact rd_zret (v := 1) hx hb hr hlocks dX6_isPlate_8 (by decide) (Or.inl ⟨rfl, h_2⟩)
  · -- X6_isWithin f
    exact rd_zret (v := 0) hx hb hr hlocks dX6_isPlate_8 (by decide) (Or.inr ⟨rfl, h_2⟩)
set_option maxHeartbeats 4000000 in
set_option maxRecDepth 100000 in
theorem c_X6_isTariff (l : Launch) (D : va_G) (cI cC cB cS : ClassId) (v : Int32) : Met l yX6_isTariff wsX6_isTariff ({ frames := 0, cells := 0, slots := 0, locals := 0 } : Room) (rdPc D (TYS cI cC cB cS) [.int (v)] ([])) (vp_Si (fun r => Yes (v = 0 ∨ v = 1) r)) 0 0 (fun _ => False) := by
  refine rd_intro (by decide) rfl (Nat.le_of_ble_eq_true rfl) ?_
  intro p e s m below meth c hx hb hr hml hts hown hlocks hP hK ls hl
  have hP : va_P D vwCl [] s.heap := hP
  have hown : s.vm.findClass RX6 = some m.cls := hown
  have hl : lv_has ls 1 [(0, .int (v))] := hl
  refine lv_iload_n hx hb dX6_isTariff_0 rfl (lv_at hl 0 rfl) ?_
  refine lv_if_eq (tgt := 9) hx hb dX6_isTariff_1 (by decide) (fun c_1 => ?_) (fun c_1 => ?_)
  · -- c_1: v = 0
    refine lv_iconst (v := 1) hx hb dX6_isTariff_9 (by decide) ?_
    refine lv_goto (tgt := 14) hx hb dX6_isTariff_10 (by decide) ?_
    exact rd_zret (v := 1) hx hb hr hlocks dX6_isTariff_14 (by decide) (Or.inl ⟨rfl, Or.inl c_1⟩)
  · -- c_1: not v = 0
    refine lv_iload_n hx hb dX6_isTariff_4 rfl (lv_at hl 0 rfl) ?_
    refine lv_iconst (v := 1) hx hb dX6_isTariff_5 (by decide) ?_
    refine lv_icmp_ne (tgt := 13) hx hb dX6_isTariff_6 (by decide) (fun c_2 => ?_) (fun c_2 => ?_)
    · -- c_2: v ≠ 1
      refine lv_iconst (v := 0) hx hb dX6_isTariff_13 (by decide) ?_
      exact rd_zret (v := 0) hx hb hr hlocks dX6_isTariff_14 (by decide) (Or.inr ⟨rfl, fun q => q.elim c_1 c_2⟩)
    · -- c_2: not v ≠ 1
      refine lv_iconst (v := 1) hx hb dX6_isTariff_9 (by decide) ?_
      refine lv_goto (tgt := 14) hx hb dX6_isTariff_10 (by decide) ?_
      exact rd_zret (v := 1) hx hb hr hlocks dX6_isTariff_14 (by decide) (Or.inl ⟨rfl, Or.inr c_2⟩)
set_option maxHeartbeats 4000000 in
set_option maxRecDepth 100000 in
theorem c_X0_has (l : Launch) (D : va_G) (cI cC cB cS : ClassId) (a : Nat → Nat) (g : Nat → Nat → Int32) (n : Nat) (x : Int32) (hn : g 0 0 = nI n) (hnb : n ≤ 30) : Met l yX0_has wsX0_has ({ frames := 0, cells := 0, slots := 0, locals := 0 } : Room) (rdPc D (TYS cI cC cB cS) [.ref (a 0), .int (x)] (wB cI a g)) (vp_Si (fun r => Yes (∃ w, w < n ∧ x = nI w) r)) 0 0 (fun _ => False) := by
  refine rd_intro (by decide) rfl (Nat.le_of_ble_eq_true rfl) ?_
  intro p e s m below meth c hx hb hr hml hts hown hlocks hP hK ls hl
  have hP : va_P D vwCl [(a 0, oE 0 [.int (g 0 0), .ref (a 1), .ref (a 2), .ref (a 3), .ref (a 4), .ref (a 5), .ref (a 6), .ref (a 7), .ref (a 8)]), (a 1, iE cI 30 (g 1)), (a 2, iE cI 30 (g 2)), (a 3, iE cI 30 (g 3)), (a 4, iE cI 30 (g 4)), (a 5, iE cI 30 (g 5)), (a 6, iE cI 30 (g 6)), (a 7, iE cI 30 (g 7)), (a 8, iE cI 30 (g 8))] s.heap := hP
  have hown : s.vm.findClass RX0 = some m.cls := hown
  have hl : lv_has ls 2 [(0, .ref (a 0)), (1, .int (x))] := hl
  refine lv_iload_n hx hb dX0_has_0 rfl (lv_at hl 1 rfl) ?_
  refine lv_if_lt (tgt := 16) hx hb dX0_has_1 (by decide) (fun c_1 => ?_) (fun c_1 => ?_)
  · -- c_1: x < 0
    refine lv_iconst (v := 0) hx hb dX0_has_16 (by decide) ?_
    exact rd_zret (v := 0) hx hb hr hlocks dX0_has_17 (by decide) (Or.inr ⟨rfl, ix_neg (by omega) c_1⟩)
  · -- c_1: not x < 0
    refine lv_iload_n hx hb dX0_has_4 rfl (lv_at hl 1 rfl) ?_
    refine lv_aload_n hx hb dX0_has_5 rfl (lv_at hl 0 rfl) ?_
    refine va_get (D := D) (ci := 0) (v := .int (g 0 0)) (C := RX0) (T := TX0) (N := 9) hx hb hts (by decide +kernel) hown hK.1 hP 0 rfl rfl 0 (by decide) (hts (.fieldLink RX0 9 "ParkingGarage$Bays" "number" "I") (by decide +kernel)) (fun _ h9 => h9) rfl dX0_has_6 ?_
    refine lv_icmp_ge (tgt := 16) hx hb dX0_has_9 (by decide) (fun c_2 => ?_) (fun c_2 => ?_)
    · -- c_2: x ≥ g 0 0
      refine lv_iconst (v := 0) hx hb dX0_has_16 (by decide) ?_
      exact rd_zret (v := 0) hx hb hr hlocks dX0_has_17 (by decide) (Or.inr ⟨rfl, ix_big hn (by omega) c_2⟩)
    · -- c_2: not x ≥ g 0 0
      refine lv_iconst (v := 1) hx hb dX0_has_12 (by decide) ?_
      refine lv_goto (tgt := 17) hx hb dX0_has_13 (by decide) ?_
      exact rd_zret (v := 1) hx hb hr hlocks dX0_has_17 (by decide) (Or.inl ⟨rfl, ix_of hn (by omega) c_1 c_2⟩)
set_option maxHeartbeats 4000000 in
set_option maxRecDepth 100000 in
theorem c_X2_has (l : Launch) (D : va_G) (cI cC cB cS : ClassId) (a : Nat → Nat) (g : Nat → Nat → Int32) (n : Nat) (x : Int32) (hn : g 0 0 = nI n) (hnb : n ≤ 16) : Met l yX2_has wsX2_has ({ frames := 0, cells := 0, slots := 0, locals := 0 } : Room) (rdPc D (TYS cI cC cB cS) [.ref (a 0), .int (x)] (wR cI a g)) (vp_Si (fun r => Yes (∃ w, w < n ∧ x = nI w) r)) 0 0 (fun _ => False) := by
  refine rd_intro (by decide) rfl (Nat.le_of_ble_eq_true rfl) ?_
  intro p e s m below meth c hx hb hr hml hts hown hlocks hP hK ls hl
  have hP : va_P D vwCl [(a 0, oE 2 [.int (g 0 0), .ref (a 1), .ref (a 2), .ref (a 3), .ref (a 4), .ref (a 5), .ref (a 6)]), (a 1, iE cI 16 (g 1)), (a 2, iE cI 16 (g 2)), (a 3, iE cI 16 (g 3)), (a 4, iE cI 16 (g 4)), (a 5, iE cI 16 (g 5)), (a 6, iE cI 16 (g 6))] s.heap := hP
  have hown : s.vm.findClass RX2 = some m.cls := hown
  have hl : lv_has ls 2 [(0, .ref (a 0)), (1, .int (x))] := hl
  refine lv_iload_n hx hb dX2_has_0 rfl (lv_at hl 1 rfl) ?_
  refine lv_if_lt (tgt := 16) hx hb dX2_has_1 (by decide) (fun c_1 => ?_) (fun c_1 => ?_)
  · -- c_1: x < 0
    refine lv_iconst (v := 0) hx hb dX2_has_16 (by decide) ?_
    exact rd_zret (v := 0) hx hb hr hlocks dX2_has_17 (by decide) (Or.inr ⟨rfl, ix_neg (by omega) c_1⟩)
  · -- c_1: not x < 0
    refine lv_iload_n hx hb dX2_has_4 rfl (lv_at hl 1 rfl) ?_
    refine lv_aload_n hx hb dX2_has_5 rfl (lv_at hl 0 rfl) ?_
    refine va_get (D := D) (ci := 2) (v := .int (g 0 0)) (C := RX2) (T := TX2) (N := 7) hx hb hts (by decide +kernel) hown hK.1 hP 0 rfl rfl 0 (by decide) (hts (.fieldLink RX2 9 "ParkingGarage$Reservations" "number" "I") (by decide +kernel)) (fun _ h9 => h9) rfl dX2_has_6 ?_
    refine lv_icmp_ge (tgt := 16) hx hb dX2_has_9 (by decide) (fun c_2 => ?_) (fun c_2 => ?_)
    · -- c_2: x ≥ g 0 0
      refine lv_iconst (v := 0) hx hb dX2_has_16 (by decide) ?_
      exact rd_zret (v := 0) hx hb hr hlocks dX2_has_17 (by decide) (Or.inr ⟨rfl, ix_big hn (by omega) c_2⟩)
    · -- c_2: not x ≥ g 0 0
      refine lv_iconst (v := 1) hx hb dX2_has_12 (by decide) ?_
      refine lv_goto (tgt := 17) hx hb dX2_has_13 (by decide) ?_
      exact rd_zret (v := 1) hx hb hr hlocks dX2_has_17 (by decide) (Or.inl ⟨rfl, ix_of hn (by omega) c_1 c_2⟩)
set_option maxHeartbeats 4000000 in
set_option maxRecDepth 100000 in
theorem c_X0_isFull (l : Launch) (D : va_G) (cI cC cB cS : ClassId) (a : Nat → Nat) (g : Nat → Nat → Int32) (n : Nat) (hn : g 0 0 = nI n) (hnb : n ≤ 30) : Met l yX0_isFull wsX0_isFull ({ frames := 0, cells := 0, slots := 0, locals := 0 } : Room) (rdPc D (TYS cI cC cB cS) [.ref (a 0)] (wB cI a g)) (vp_Si (fun r => Yes (n = 30) r)) 0 0 (fun _ => False) := by
  refine rd_intro (by decide) rfl (Nat.le_of_ble_eq_true rfl) ?_
  intro p e s m below meth c hx hb hr hml hts hown hlocks hP hK ls hl
  have hP : va_P D vwCl [(a 0, oE 0 [.int (g 0 0), .ref (a 1), .ref (a 2), .ref (a 3), .ref (a 4), .ref (a 5), .ref (a 6), .ref (a 7), .ref (a 8)]), (a 1, iE cI 30 (g 1)), (a 2, iE cI 30 (g 2)), (a 3, iE cI 30 (g 3)), (a 4, iE cI 30 (g 4)), (a 5, iE cI 30 (g 5)), (a 6, iE cI 30 (g 6)), (a 7, iE cI 30 (g 7)), (a 8, iE cI 30 (g 8))] s.heap := hP
  have hown : s.vm.findClass RX0 = some m.cls := hown
  have hl : lv_has ls 1 [(0, .ref (a 0))] := hl
  refine lv_aload_n hx hb dX0_isFull_0 rfl (lv_at hl 0 rfl) ?_
  refine va_get (D := D) (ci := 0) (v := .int (g 0 0)) (C := RX0) (T := TX0) (N := 9) hx hb hts (by decide +kernel) hown hK.1 hP 0 rfl rfl 0 (by decide) (hts (.fieldLink RX0 9 "ParkingGarage$Bays" "number" "I") (by decide +kernel)) (fun _ h9 => h9) rfl dX0_isFull_1 ?_
  refine lv_bipush (v := 30) hx hb dX0_isFull_4 (by decide) ?_
  refine lv_icmp_lt (tgt := 13) hx hb dX0_isFull_6 (by decide) (fun c_1 => ?_) (fun c_1 => ?_)
  · -- c_1: g 0 0 < 30
    refine lv_iconst (v := 0) hx hb dX0_isFull_13 (by decide) ?_
    exact rd_zret (v := 0) hx hb hr hlocks dX0_isFull_14 (by decide) (Or.inr ⟨rfl, fun q => by rw [hn, q] at c_1; exact absurd c_1 (by decide)⟩)
  · -- c_1: not g 0 0 < 30
    refine lv_iconst (v := 1) hx hb dX0_isFull_9 (by decide) ?_
    refine lv_goto (tgt := 14) hx hb dX0_isFull_10 (by decide) ?_
    exact rd_zret (v := 1) hx hb hr hlocks dX0_isFull_14 (by decide) (Or.inl ⟨rfl, by rw [hn] at c_1; have := (nI_leI (by omega) (by omega)).mp (show nI 30 ≤ nI n from Int32.not_lt.mp c_1); omega⟩)
set_option maxHeartbeats 4000000 in
set_option maxRecDepth 100000 in
theorem c_X2_isFull (l : Launch) (D : va_G) (cI cC cB cS : ClassId) (a : Nat → Nat) (g : Nat → Nat → Int32) (n : Nat) (hn : g 0 0 = nI n) (hnb : n ≤ 16) : Met l yX2_isFull wsX2_isFull ({ frames := 0, cells := 0, slots := 0, locals := 0 } : Room) (rdPc D (TYS cI cC cB cS) [.ref (a 0)] (wR cI a g)) (vp_Si (fun r => Yes (n = 16) r)) 0 0 (fun _ => False) := by
  refine rd_intro (by decide) rfl (Nat.le_of_ble_eq_true rfl) ?_
  intro p e s m below meth c hx hb hr hml hts hown hlocks hP hK ls hl
  have hP : va_P D vwCl [(a 0, oE 2 [.int (g 0 0), .ref (a 1), .ref (a 2), .ref (a 3), .ref (a 4), .ref (a 5), .ref (a 6)]), (a 1, iE cI 16 (g 1)), (a 2, iE cI 16 (g 2)), (a 3, iE cI 16 (g 3)), (a 4, iE cI 16 (g 4)), (a 5, iE cI 16 (g 5)), (a 6, iE cI 16 (g 6))] s.heap := hP
  have hown : s.vm.findClass RX2 = some m.cls := hown
  have hl : lv_has ls 1 [(0, .ref (a 0))] := hl
  refine lv_aload_n hx hb dX2_isFull_0 rfl (lv_at hl 0 rfl) ?_
  refine va_get (D := D) (ci := 2) (v := .int (g 0 0)) (C := RX2) (T := TX2) (N := 7) hx hb hts (by decide +kernel) hown hK.1 hP 0 rfl rfl 0 (by decide) (hts (.fieldLink RX2 9 "ParkingGarage$Reservations" "number" "I") (by decide +kernel)) (fun _ h9 => h9) rfl dX2_isFull_1 ?_
  refine lv_bipush (v := 16) hx hb dX2_isFull_4 (by decide) ?_
  refine lv_icmp_lt (tgt := 13) hx hb dX2_isFull_6 (by decide) (fun c_1 => ?_) (fun c_1 => ?_)
  · -- c_1: g 0 0 < 16
    refine lv_iconst (v := 0) hx hb dX2_isFull_13 (by decide) ?_
    exact rd_zret (v := 0) hx hb hr hlocks dX2_isFull_14 (by decide) (Or.inr ⟨rfl, fun q => by rw [hn, q] at c_1; exact absurd c_1 (by decide)⟩)
  · -- c_1: not g 0 0 < 16
    refine lv_iconst (v := 1) hx hb dX2_isFull_9 (by decide) ?_
    refine lv_goto (tgt := 14) hx hb dX2_isFull_10 (by decide) ?_
    exact rd_zret (v := 1) hx hb hr hlocks dX2_isFull_14 (by decide) (Or.inl ⟨rfl, by rw [hn] at c_1; have := (nI_leI (by omega) (by omega)).mp (show nI 16 ≤ nI n from Int32.not_lt.mp c_1); omega⟩)
set_option maxHeartbeats 4000000 in
set_option maxRecDepth 100000 in
theorem c_X0_hasPlace (l : Launch) (D : va_G) (cI cC cB cS : ClassId) (a : Nat → Nat) (g : Nat → Nat → Int32) (n : Nat) (lv : Int32) (ps : Int32) (hn : g 0 0 = nI n) (hnb : n ≤ 30) : Met l yX0_hasPlace wsX0_hasPlace ({ frames := 0, cells := 0, slots := 0, locals := 0 } : Room) (rdPc D (TYS cI cC cB cS) [.ref (a 0), .int (lv), .int (ps)] (wB cI a g)) (vp_Si (fun r => Yes (∃ w, w < n ∧ g 1 w = lv ∧ g 2 w = ps) r)) 0 0 (fun _ => False) := by
  refine rd_intro (by decide) rfl (Nat.le_of_ble_eq_true rfl) ?_
  intro p e s m below meth c hx hb hr hml hts hown hlocks hP hK ls hl
  have hP : va_P D vwCl [(a 0, oE 0 [.int (g 0 0), .ref (a 1), .ref (a 2), .ref (a 3), .ref (a 4), .ref (a 5), .ref (a 6), .ref (a 7), .ref (a 8)]), (a 1, iE cI 30 (g 1)), (a 2, iE cI 30 (g 2)), (a 3, iE cI 30 (g 3)), (a 4, iE cI 30 (g 4)), (a 5, iE cI 30 (g 5)), (a 6, iE cI 30 (g 6)), (a 7, iE cI 30 (g 7)), (a 8, iE cI 30 (g 8))] s.heap := hP
  have hown : s.vm.findClass RX0 = some m.cls := hown
  have hl : lv_has ls 4 [(0, .ref (a 0)), (1, .int (lv)), (2, .int (ps))] := hl
  refine lv_iconst (v := 0) hx hb dX0_hasPlace_0 (by decide) ?_
  refine lv_istore_n (lv' := [(3, .int (0)), (0, .ref (a 0)), (1, .int (lv)), (2, .int (ps))]) hx hb dX0_hasPlace_1 rfl hl (by decide) rfl (fun ls hl => ?_)
  have hloop : ∀ (d i : Nat), i ≤ n → n - i < d → (∀ j, j < i → ¬ (g 1 j = lv ∧ g 2 j = ps)) → ∀ ls : Array Slot, lv_has ls 4 [(3, .int (nI i)), (0, .ref (a 0)), (1, .int (lv)), (2, .int (ps))] → W p l e ({ frames := 0, cells := 0, slots := 0, locals := 0 } : Room) s m (([.ref (a 0), .int (lv), .int (ps)] : List Value).toArray) below meth c s.heap [] 0 0 (MQ below (vp_Si (fun r => Yes (∃ w, w < n ∧ g 1 w = lv ∧ g 2 w = ps) r)) (([.ref (a 0), .int (lv), .int (ps)] : List Value).toArray) s 0 0 (fun _ => False)) (F0 m 2 ls []) := by
    intro d
    induction d with
    | zero => intro i _ h2; exact absurd h2 (Nat.not_lt_zero _)
    | succ d ih =>
      intro i hi hd hno ls hl
      refine lv_iload_n hx hb dX0_hasPlace_2 rfl (lv_at hl 0 rfl) ?_
      refine lv_aload_n hx hb dX0_hasPlace_3 rfl (lv_at hl 1 rfl) ?_
      refine va_get (D := D) (ci := 0) (v := .int (g 0 0)) (C := RX0) (T := TX0) (N := 9) hx hb hts (by decide +kernel) hown hK.1 hP 0 rfl rfl 0 (by decide) (hts (.fieldLink RX0 9 "ParkingGarage$Bays" "number" "I") (by decide +kernel)) (fun _ h9 => h9) rfl dX0_hasPlace_4 ?_
      refine lv_icmp_ge (tgt := 38) hx hb dX0_hasPlace_7 (by decide) (fun c_1 => ?_) (fun c_1 => ?_)
      · -- c_1: nI i ≥ g 0 0
        have hge : i = n := nI_geD hn hi (by omega) c_1
        subst hge
        refine lv_iconst (v := 0) hx hb dX0_hasPlace_38 (by decide) ?_
        exact rd_zret (v := 0) hx hb hr hlocks dX0_hasPlace_39 (by decide) (Or.inr ⟨rfl, fun ⟨j, hj, q⟩ => hno j hj q⟩)
      · -- c_1: not nI i ≥ g 0 0
        have hlt : i < n := nI_ltD hn hi (by omega) c_1
        refine lv_aload_n hx hb dX0_hasPlace_10 rfl (lv_at hl 1 rfl) ?_
        refine va_get (D := D) (ci := 0) (v := .ref (a 1)) (C := RX0) (T := TX0) (N := 9) hx hb hts (by decide +kernel) hown hK.1 hP 0 rfl rfl 1 (by decide) (hts (.fieldLink RX0 15 "ParkingGarage$Bays" "levels" "[I") (by decide +kernel)) (fun _ h9 => h9) rfl dX0_hasPlace_11 ?_
        refine lv_iload_n hx hb dX0_hasPlace_14 rfl (lv_at hl 0 rfl) ?_
        refine iald_n (f := g 1) hx hb hK.1 hP 1 0 rfl rfl (i) (rfl) (by omega) (by omega) dX0_hasPlace_15 ?_
        refine lv_iload_n hx hb dX0_hasPlace_16 rfl (lv_at hl 2 rfl) ?_
        refine lv_icmp_ne (tgt := 32) hx hb dX0_hasPlace_17 (by decide) (fun c_2 => ?_) (fun c_2 => ?_)
        · -- c_2: (g 1) (i) ≠ lv
          refine lv_iinc (v := nI (i + 1)) (lv' := [(3, .int (nI (i + 1))), (0, .ref (a 0)), (1, .int (lv)), (2, .int (ps))]) hx hb dX0_hasPlace_32 hl (k := 0) rfl (nI_1 _) (by decide) rfl (fun ls hl => ?_)
          refine lv_goto (tgt := 2) hx hb dX0_hasPlace_35 (by decide) ?_
          exact ih (i + 1) (by omega) (by omega) (all_s hno (fun q => c_2 q.1)) ls (lv_sub hl [0, 1, 2, 3] rfl)
        · -- c_2: not (g 1) (i) ≠ lv
          refine lv_aload_n hx hb dX0_hasPlace_20 rfl (lv_at hl 1 rfl) ?_
          refine va_get (D := D) (ci := 0) (v := .ref (a 2)) (C := RX0) (T := TX0) (N := 9) hx hb hts (by decide +kernel) hown hK.1 hP 0 rfl rfl 2 (by decide) (hts (.fieldLink RX0 19 "ParkingGarage$Bays" "positions" "[I") (by decide +kernel)) (fun _ h9 => h9) rfl dX0_hasPlace_21 ?_
          refine lv_iload_n hx hb dX0_hasPlace_24 rfl (lv_at hl 0 rfl) ?_
          refine iald_n (f := g 2) hx hb hK.1 hP 2 0 rfl rfl (i) (rfl) (by omega) (by omega) dX0_hasPlace_25 ?_
          refine lv_iload_n hx hb dX0_hasPlace_26 rfl (lv_at hl 3 rfl) ?_
          refine lv_icmp_ne (tgt := 32) hx hb dX0_hasPlace_27 (by decide) (fun c_3 => ?_) (fun c_3 => ?_)
          · -- c_3: (g 2) (i) ≠ ps
            refine lv_iinc (v := nI (i + 1)) (lv' := [(3, .int (nI (i + 1))), (0, .ref (a 0)), (1, .int (lv)), (2, .int (ps))]) hx hb dX0_hasPlace_32 hl (k := 0) rfl (nI_1 _) (by decide) rfl (fun ls hl => ?_)
            refine lv_goto (tgt := 2) hx hb dX0_hasPlace_35 (by decide) ?_
            exact ih (i + 1) (by omega) (by omega) (all_s hno (fun q => c_3 q.2)) ls (lv_sub hl [0, 1, 2, 3] rfl)
          · -- c_3: not (g 2) (i) ≠ ps
            refine lv_iconst (v := 1) hx hb dX0_hasPlace_30 (by decide) ?_
            exact rd_zret (v := 1) hx hb hr hlocks dX0_hasPlace_31 (by decide) (Or.inl ⟨rfl, i, hlt, c_2, c_3⟩)
  exact hloop (n + 1) 0 (by omega) (by omega) (all_0) ls (lv_sub hl [0, 1, 2, 3] rfl)
set_option maxHeartbeats 4000000 in
set_option maxRecDepth 100000 in
theorem c_X0_isEmpty (l : Launch) (D : va_G) (cI cC cB cS : ClassId) (a : Nat → Nat) (g : Nat → Nat → Int32) (n : Nat) (k : Nat) (hn : g 0 0 = nI n) (hnb : n ≤ 30) (hk : k < n) : Met l yX0_isEmpty wsX0_isEmpty ({ frames := 1, cells := 0, slots := 0, locals := 21 } : Room) (rdPc D (TYS cI cC cB cS) [.ref (a 0), .int (nI k)] (wB cI a g)) (vp_Si (fun r => Yes (g 5 k = 0) r)) 0 0 (fun _ => False) := by
  refine rd_intro (by decide) rfl (Nat.le_of_ble_eq_true rfl) ?_
  intro p e s m below meth c hx hb hr hml hts hown hlocks hP hK ls hl
  have hP : va_P D vwCl [(a 0, oE 0 [.int (g 0 0), .ref (a 1), .ref (a 2), .ref (a 3), .ref (a 4), .ref (a 5), .ref (a 6), .ref (a 7), .ref (a 8)]), (a 1, iE cI 30 (g 1)), (a 2, iE cI 30 (g 2)), (a 3, iE cI 30 (g 3)), (a 4, iE cI 30 (g 4)), (a 5, iE cI 30 (g 5)), (a 6, iE cI 30 (g 6)), (a 7, iE cI 30 (g 7)), (a 8, iE cI 30 (g 8))] s.heap := hP
  have hown : s.vm.findClass RX0 = some m.cls := hown
  have hl : lv_has ls 2 [(0, .ref (a 0)), (1, .int (nI k))] := hl
  refine lv_aload_n hx hb dX0_isEmpty_0 rfl (lv_at hl 0 rfl) ?_
  refine lv_iload_n hx hb dX0_isEmpty_1 rfl (lv_at hl 1 rfl) ?_
  refine cv_i (As := [.int (nI k)]) (rest := []) (tys := TYS cI cC cB cS) (ci := 0) ⟨hx, hb, hml, hown, hts⟩ (c_X0_has l D cI cC cB cS (a) (g) (n) (nI k) (hn) (hnb)) (cwV 1 hts gX0_isEmpty_X0_has rfl rfl rfl (by decide +kernel) ⟨Nat.le_of_ble_eq_true rfl, Nat.le_of_ble_eq_true rfl⟩) hK hP [0, 1, 2, 3, 4, 5, 6, 7, 8] rfl rfl rfl rfl rfl hl.1 (Nat.le_of_ble_eq_true rfl) dX0_isEmpty_2 ⟨Nat.le_of_ble_eq_true rfl, Nat.le_of_ble_eq_true rfl⟩ (fun r_1 hr_1 => ?_)
  rcases (show Yes (∃ w, w < n ∧ nI k = nI w) r_1 from hr_1) with ⟨rfl, h_2⟩ | ⟨rfl, h_2⟩
  · -- X0_has t
    refine if_eq_f (tgt := 21) hx hb (by decide) dX0_isEmpty_5 (by decide) ?_
    refine lv_aload_n hx hb dX0_isEmpty_8 rfl (lv_at hl 0 rfl) ?_
    refine va_get (D := D) (ci := 0) (v := .ref (a 5)) (C := RX0) (T := TX0) (N := 9) hx hb hts (by decide +kernel) hown hK.1 hP 0 rfl rfl 5 (by decide) (hts (.fieldLink RX0 28 "ParkingGarage$Bays" "plates" "[I") (by decide +kernel)) (fun _ h9 => h9) rfl dX0_isEmpty_9 ?_
    refine lv_iload_n hx hb dX0_isEmpty_12 rfl (lv_at hl 1 rfl) ?_
    refine iald_n (f := g 5) hx hb hK.1 hP 5 0 rfl rfl (k) (rfl) (by omega) (by omega) dX0_isEmpty_13 ?_
    refine lv_if_ne (tgt := 21) hx hb dX0_isEmpty_14 (by decide) (fun c_3 => ?_) (fun c_3 => ?_)
    · -- c_3: (g 5) (k) ≠ 0
      refine lv_iconst (v := 0) hx hb dX0_isEmpty_21 (by decide) ?_
      exact rd_zret (v := 0) hx hb hr hlocks dX0_isEmpty_22 (by decide) (Or.inr ⟨rfl, c_3⟩)
    · -- c_3: not (g 5) (k) ≠ 0
      refine lv_iconst (v := 1) hx hb dX0_isEmpty_17 (by decide) ?_
      refine lv_goto (tgt := 22) hx hb dX0_isEmpty_18 (by decide) ?_
      exact rd_zret (v := 1) hx hb hr hlocks dX0_isEmpty_22 (by decide) (Or.inl ⟨rfl, c_3⟩)
  · -- X0_has f
    exact absurd ⟨k, hk, rfl⟩ h_2
set_option maxHeartbeats 4000000 in
set_option maxRecDepth 100000 in
theorem c_X0_serves (l : Launch) (D : va_G) (cI cC cB cS : ClassId) (a : Nat → Nat) (g : Nat → Nat → Int32) (n : Nat) (x : Int32) (sz : Int32) (hn : g 0 0 = nI n) (hnb : n ≤ 30) : Met l yX0_serves wsX0_serves ({ frames := 1, cells := 0, slots := 0, locals := 21 } : Room) (rdPc D (TYS cI cC cB cS) [.ref (a 0), .int (x), .int (sz)] (wB cI a g)) (vp_Si (fun r => Yes (∃ w, w < n ∧ x = nI w ∧ g 4 w = 1 ∧ sz ≤ g 3 w) r)) 0 0 (fun _ => False) := by
  refine rd_intro (by decide) rfl (Nat.le_of_ble_eq_true rfl) ?_
  intro p e s m below meth c hx hb hr hml hts hown hlocks hP hK ls hl
  have hP : va_P D vwCl [(a 0, oE 0 [.int (g 0 0), .ref (a 1), .ref (a 2), .ref (a 3), .ref (a 4), .ref (a 5), .ref (a 6), .ref (a 7), .ref (a 8)]), (a 1, iE cI 30 (g 1)), (a 2, iE cI 30 (g 2)), (a 3, iE cI 30 (g 3)), (a 4, iE cI 30 (g 4)), (a 5, iE cI 30 (g 5)), (a 6, iE cI 30 (g 6)), (a 7, iE cI 30 (g 7)), (a 8, iE cI 30 (g 8))] s.heap := hP
  have hown : s.vm.findClass RX0 = some m.cls := hown
  have hl : lv_has ls 3 [(0, .ref (a 0)), (1, .int (x)), (2, .int (sz))] := hl
  refine lv_aload_n hx hb dX0_serves_0 rfl (lv_at hl 0 rfl) ?_
  refine lv_iload_n hx hb dX0_serves_1 rfl (lv_at hl 1 rfl) ?_
  refine cv_i (As := [.int (x)]) (rest := []) (tys := TYS cI cC cB cS) (ci := 0) ⟨hx, hb, hml, hown, hts⟩ (c_X0_has l D cI cC cB cS (a) (g) (n) (x) (hn) (hnb)) (cwV 1 hts gX0_serves_X0_has rfl rfl rfl (by decide +kernel) ⟨Nat.le_of_ble_eq_true rfl, Nat.le_of_ble_eq_true rfl⟩) hK hP [0, 1, 2, 3, 4, 5, 6, 7, 8] rfl rfl rfl rfl rfl hl.1 (Nat.le_of_ble_eq_true rfl) dX0_serves_2 ⟨Nat.le_of_ble_eq_true rfl, Nat.le_of_ble_eq_true rfl⟩ (fun r_1 hr_1 => ?_)
  rcases (show Yes (∃ w, w < n ∧ x = nI w) r_1 from hr_1) with ⟨rfl, h_2⟩ | ⟨rfl, h_2⟩
  · -- X0_has t
    obtain ⟨k, hk, hxk⟩ := h_2
    refine if_eq_f (tgt := 32) hx hb (by decide) dX0_serves_5 (by decide) ?_
    refine lv_aload_n hx hb dX0_serves_8 rfl (lv_at hl 0 rfl) ?_
    refine va_get (D := D) (ci := 0) (v := .ref (a 4)) (C := RX0) (T := TX0) (N := 9) hx hb hts (by decide +kernel) hown hK.1 hP 0 rfl rfl 4 (by decide) (hts (.fieldLink RX0 25 "ParkingGarage$Bays" "on" "[I") (by decide +kernel)) (fun _ h9 => h9) rfl dX0_serves_9 ?_
    refine lv_iload_n hx hb dX0_serves_12 rfl (lv_at hl 1 rfl) ?_
    refine iald_n (f := g 4) hx hb hK.1 hP 4 0 rfl rfl (k) (hxk) (by omega) (by omega) dX0_serves_13 ?_
    refine lv_iconst (v := 1) hx hb dX0_serves_14 (by decide) ?_
    refine lv_icmp_ne (tgt := 32) hx hb dX0_serves_15 (by decide) (fun c_3 => ?_) (fun c_3 => ?_)
    · -- c_3: (g 4) (k) ≠ 1
      refine lv_iconst (v := 0) hx hb dX0_serves_32 (by decide) ?_
      exact rd_zret (v := 0) hx hb hr hlocks dX0_serves_33 (by decide) (Or.inr ⟨rfl, fun ⟨j, h1, h2, h3, h4⟩ => by have e := nI_inj (by omega) (by omega) (hxk.symm.trans h2); subst e; exact c_3 h3⟩)
    · -- c_3: not (g 4) (k) ≠ 1
      refine lv_aload_n hx hb dX0_serves_18 rfl (lv_at hl 0 rfl) ?_
      refine va_get (D := D) (ci := 0) (v := .ref (a 3)) (C := RX0) (T := TX0) (N := 9) hx hb hts (by decide +kernel) hown hK.1 hP 0 rfl rfl 3 (by decide) (hts (.fieldLink RX0 22 "ParkingGarage$Bays" "sizes" "[I") (by decide +kernel)) (fun _ h9 => h9) rfl dX0_serves_19 ?_
      refine lv_iload_n hx hb dX0_serves_22 rfl (lv_at hl 1 rfl) ?_
      refine iald_n (f := g 3) hx hb hK.1 hP 3 0 rfl rfl (k) (hxk) (by omega) (by omega) dX0_serves_23 ?_
      refine lv_iload_n hx hb dX0_serves_24 rfl (lv_at hl 2 rfl) ?_
      refine lv_icmp_lt (tgt := 32) hx hb dX0_serves_25 (by decide) (fun c_4 => ?_) (fun c_4 => ?_)
      · -- c_4: (g 3) (k) < sz
        refine lv_iconst (v := 0) hx hb dX0_serves_32 (by decide) ?_
        exact rd_zret (v := 0) hx hb hr hlocks dX0_serves_33 (by decide) (Or.inr ⟨rfl, fun ⟨j, h1, h2, h3, h4⟩ => by have e := nI_inj (by omega) (by omega) (hxk.symm.trans h2); subst e; exact absurd c_4 (Int32.not_lt.mpr h4)⟩)
      · -- c_4: not (g 3) (k) < sz
        refine lv_iconst (v := 1) hx hb dX0_serves_28 (by decide) ?_
        refine lv_goto (tgt := 33) hx hb dX0_serves_29 (by decide) ?_
        exact rd_zret (v := 1) hx hb hr hlocks dX0_serves_33 (by decide) (Or.inl ⟨rfl, k, hk, hxk, c_3, Int32.not_lt.mp c_4⟩)
  · -- X0_has f
    refine if_eq_t (tgt := 32) hx hb rfl dX0_serves_5 (by decide) ?_
    refine lv_iconst (v := 0) hx hb dX0_serves_32 (by decide) ?_
    exact rd_zret (v := 0) hx hb hr hlocks dX0_serves_33 (by decide) (Or.inr ⟨rfl, fun ⟨j, h1, h2, _⟩ => h_2 ⟨j, h1, h2⟩⟩)
set_option maxHeartbeats 4000000 in
set_option maxRecDepth 100000 in
theorem c_X0_withPlate (l : Launch) (D : va_G) (cI cC cB cS : ClassId) (a : Nat → Nat) (g : Nat → Nat → Int32) (n : Nat) (x : Int32) (hn : g 0 0 = nI n) (hnb : n ≤ 30) : Met l yX0_withPlate wsX0_withPlate ({ frames := 0, cells := 0, slots := 0, locals := 0 } : Room) (rdPc D (TYS cI cC cB cS) [.ref (a 0), .int (x)] (wB cI a g)) (vp_Si (fun r => Fst (fun w => g 5 w = x) n r)) 0 0 (fun _ => False) := by
  refine rd_intro (by decide) rfl (Nat.le_of_ble_eq_true rfl) ?_
  intro p e s m below meth c hx hb hr hml hts hown hlocks hP hK ls hl
  have hP : va_P D vwCl [(a 0, oE 0 [.int (g 0 0), .ref (a 1), .ref (a 2), .ref (a 3), .ref (a 4), .ref (a 5), .ref (a 6), .ref (a 7), .ref (a 8)]), (a 1, iE cI 30 (g 1)), (a 2, iE cI 30 (g 2)), (a 3, iE cI 30 (g 3)), (a 4, iE cI 30 (g 4)), (a 5, iE cI 30 (g 5)), (a 6, iE cI 30 (g 6)), (a 7, iE cI 30 (g 7)), (a 8, iE cI 30 (g 8))] s.heap := hP
  have hown : s.vm.findClass RX0 = some m.cls := hown
  have hl : lv_has ls 3 [(0, .ref (a 0)), (1, .int (x))] := hl
  refine lv_iconst (v := 0) hx hb dX0_withPlate_0 (by decide) ?_
  refine lv_istore_n (lv' := [(2, .int (0)), (0, .ref (a 0)), (1, .int (x))]) hx hb dX0_withPlate_1 rfl hl (by decide) rfl (fun ls hl => ?_)
  have hloop : ∀ (d i : Nat), i ≤ n → n - i < d → (∀ j, j < i → ¬ (g 5 j = x)) → ∀ ls : Array Slot, lv_has ls 3 [(2, .int (nI i)), (0, .ref (a 0)), (1, .int (x))] → W p l e ({ frames := 0, cells := 0, slots := 0, locals := 0 } : Room) s m (([.ref (a 0), .int (x)] : List Value).toArray) below meth c s.heap [] 0 0 (MQ below (vp_Si (fun r => Fst (fun w => g 5 w = x) n r)) (([.ref (a 0), .int (x)] : List Value).toArray) s 0 0 (fun _ => False)) (F0 m 2 ls []) := by
    intro d
    induction d with
    | zero => intro i _ h2; exact absurd h2 (Nat.not_lt_zero _)
    | succ d ih =>
      intro i hi hd hno ls hl
      refine lv_iload_n hx hb dX0_withPlate_2 rfl (lv_at hl 0 rfl) ?_
      refine lv_aload_n hx hb dX0_withPlate_3 rfl (lv_at hl 1 rfl) ?_
      refine va_get (D := D) (ci := 0) (v := .int (g 0 0)) (C := RX0) (T := TX0) (N := 9) hx hb hts (by decide +kernel) hown hK.1 hP 0 rfl rfl 0 (by decide) (hts (.fieldLink RX0 9 "ParkingGarage$Bays" "number" "I") (by decide +kernel)) (fun _ h9 => h9) rfl dX0_withPlate_4 ?_
      refine lv_icmp_ge (tgt := 28) hx hb dX0_withPlate_7 (by decide) (fun c_1 => ?_) (fun c_1 => ?_)
      · -- c_1: nI i ≥ g 0 0
        have hge : i = n := nI_geD hn hi (by omega) c_1
        subst hge
        refine lv_bipush (v := -9) hx hb dX0_withPlate_28 (by decide) ?_
        exact rd_iret (v := -9) hx hb hr hlocks dX0_withPlate_30 (Fst.none hno)
      · -- c_1: not nI i ≥ g 0 0
        have hlt : i < n := nI_ltD hn hi (by omega) c_1
        refine lv_aload_n hx hb dX0_withPlate_10 rfl (lv_at hl 1 rfl) ?_
        refine va_get (D := D) (ci := 0) (v := .ref (a 5)) (C := RX0) (T := TX0) (N := 9) hx hb hts (by decide +kernel) hown hK.1 hP 0 rfl rfl 5 (by decide) (hts (.fieldLink RX0 28 "ParkingGarage$Bays" "plates" "[I") (by decide +kernel)) (fun _ h9 => h9) rfl dX0_withPlate_11 ?_
        refine lv_iload_n hx hb dX0_withPlate_14 rfl (lv_at hl 0 rfl) ?_
        refine iald_n (f := g 5) hx hb hK.1 hP 5 0 rfl rfl (i) (rfl) (by omega) (by omega) dX0_withPlate_15 ?_
        refine lv_iload_n hx hb dX0_withPlate_16 rfl (lv_at hl 2 rfl) ?_
        refine lv_icmp_ne (tgt := 22) hx hb dX0_withPlate_17 (by decide) (fun c_2 => ?_) (fun c_2 => ?_)
        · -- c_2: (g 5) (i) ≠ x
          refine lv_iinc (v := nI (i + 1)) (lv' := [(2, .int (nI (i + 1))), (0, .ref (a 0)), (1, .int (x))]) hx hb dX0_withPlate_22 hl (k := 0) rfl (nI_1 _) (by decide) rfl (fun ls hl => ?_)
          refine lv_goto (tgt := 2) hx hb dX0_withPlate_25 (by decide) ?_
          exact ih (i + 1) (by omega) (by omega) (all_s hno c_2) ls (lv_sub hl [0, 1, 2] rfl)
        · -- c_2: not (g 5) (i) ≠ x
          refine lv_iload_n hx hb dX0_withPlate_20 rfl (lv_at hl 0 rfl) ?_
          exact rd_iret (v := nI i) hx hb hr hlocks dX0_withPlate_21 (Fst.hit hlt c_2 hno)
  exact hloop (n + 1) 0 (by omega) (by omega) (all_0) ls (lv_sub hl [0, 1, 2] rfl)
set_option maxHeartbeats 4000000 in
set_option maxRecDepth 100000 in
theorem c_X0_withTicket (l : Launch) (D : va_G) (cI cC cB cS : ClassId) (a : Nat → Nat) (g : Nat → Nat → Int32) (n : Nat) (x : Int32) (hn : g 0 0 = nI n) (hnb : n ≤ 30) : Met l yX0_withTicket wsX0_withTicket ({ frames := 0, cells := 0, slots := 0, locals := 0 } : Room) (rdPc D (TYS cI cC cB cS) [.ref (a 0), .int (x)] (wB cI a g)) (vp_Si (fun r => Fst (fun w => g 6 w = x) n r)) 0 0 (fun _ => False) := by
  refine rd_intro (by decide) rfl (Nat.le_of_ble_eq_true rfl) ?_
  intro p e s m below meth c hx hb hr hml hts hown hlocks hP hK ls hl
  have hP : va_P D vwCl [(a 0, oE 0 [.int (g 0 0), .ref (a 1), .ref (a 2), .ref (a 3), .ref (a 4), .ref (a 5), .ref (a 6), .ref (a 7), .ref (a 8)]), (a 1, iE cI 30 (g 1)), (a 2, iE cI 30 (g 2)), (a 3, iE cI 30 (g 3)), (a 4, iE cI 30 (g 4)), (a 5, iE cI 30 (g 5)), (a 6, iE cI 30 (g 6)), (a 7, iE cI 30 (g 7)), (a 8, iE cI 30 (g 8))] s.heap := hP
  have hown : s.vm.findClass RX0 = some m.cls := hown
  have hl : lv_has ls 3 [(0, .ref (a 0)), (1, .int (x))] := hl
  refine lv_iconst (v := 0) hx hb dX0_withTicket_0 (by decide) ?_
  refine lv_istore_n (lv' := [(2, .int (0)), (0, .ref (a 0)), (1, .int (x))]) hx hb dX0_withTicket_1 rfl hl (by decide) rfl (fun ls hl => ?_)
  have hloop : ∀ (d i : Nat), i ≤ n → n - i < d → (∀ j, j < i → ¬ (g 6 j = x)) → ∀ ls : Array Slot, lv_has ls 3 [(2, .int (nI i)), (0, .ref (a 0)), (1, .int (x))] → W p l e ({ frames := 0, cells := 0, slots := 0, locals := 0 } : Room) s m (([.ref (a 0), .int (x)] : List Value).toArray) below meth c s.heap [] 0 0 (MQ below (vp_Si (fun r => Fst (fun w => g 6 w = x) n r)) (([.ref (a 0), .int (x)] : List Value).toArray) s 0 0 (fun _ => False)) (F0 m 2 ls []) := by
    intro d
    induction d with
    | zero => intro i _ h2; exact absurd h2 (Nat.not_lt_zero _)
    | succ d ih =>
      intro i hi hd hno ls hl
      refine lv_iload_n hx hb dX0_withTicket_2 rfl (lv_at hl 0 rfl) ?_
      refine lv_aload_n hx hb dX0_withTicket_3 rfl (lv_at hl 1 rfl) ?_
      refine va_get (D := D) (ci := 0) (v := .int (g 0 0)) (C := RX0) (T := TX0) (N := 9) hx hb hts (by decide +kernel) hown hK.1 hP 0 rfl rfl 0 (by decide) (hts (.fieldLink RX0 9 "ParkingGarage$Bays" "number" "I") (by decide +kernel)) (fun _ h9 => h9) rfl dX0_withTicket_4 ?_
      refine lv_icmp_ge (tgt := 28) hx hb dX0_withTicket_7 (by decide) (fun c_1 => ?_) (fun c_1 => ?_)
      · -- c_1: nI i ≥ g 0 0
        have hge : i = n := nI_geD hn hi (by omega) c_1
        subst hge
        refine lv_bipush (v := -9) hx hb dX0_withTicket_28 (by decide) ?_
        exact rd_iret (v := -9) hx hb hr hlocks dX0_withTicket_30 (Fst.none hno)
      · -- c_1: not nI i ≥ g 0 0
        have hlt : i < n := nI_ltD hn hi (by omega) c_1
        refine lv_aload_n hx hb dX0_withTicket_10 rfl (lv_at hl 1 rfl) ?_
        refine va_get (D := D) (ci := 0) (v := .ref (a 6)) (C := RX0) (T := TX0) (N := 9) hx hb hts (by decide +kernel) hown hK.1 hP 0 rfl rfl 6 (by decide) (hts (.fieldLink RX0 31 "ParkingGarage$Bays" "tickets" "[I") (by decide +kernel)) (fun _ h9 => h9) rfl dX0_withTicket_11 ?_
        refine lv_iload_n hx hb dX0_withTicket_14 rfl (lv_at hl 0 rfl) ?_
        refine iald_n (f := g 6) hx hb hK.1 hP 6 0 rfl rfl (i) (rfl) (by omega) (by omega) dX0_withTicket_15 ?_
        refine lv_iload_n hx hb dX0_withTicket_16 rfl (lv_at hl 2 rfl) ?_
        refine lv_icmp_ne (tgt := 22) hx hb dX0_withTicket_17 (by decide) (fun c_2 => ?_) (fun c_2 => ?_)
        · -- c_2: (g 6) (i) ≠ x
          refine lv_iinc (v := nI (i + 1)) (lv' := [(2, .int (nI (i + 1))), (0, .ref (a 0)), (1, .int (x))]) hx hb dX0_withTicket_22 hl (k := 0) rfl (nI_1 _) (by decide) rfl (fun ls hl => ?_)
          refine lv_goto (tgt := 2) hx hb dX0_withTicket_25 (by decide) ?_
          exact ih (i + 1) (by omega) (by omega) (all_s hno c_2) ls (lv_sub hl [0, 1, 2] rfl)
        · -- c_2: not (g 6) (i) ≠ x
          refine lv_iload_n hx hb dX0_withTicket_20 rfl (lv_at hl 0 rfl) ?_
          exact rd_iret (v := nI i) hx hb hr hlocks dX0_withTicket_21 (Fst.hit hlt c_2 hno)
  exact hloop (n + 1) 0 (by omega) (by omega) (all_0) ls (lv_sub hl [0, 1, 2] rfl)
set_option maxHeartbeats 4000000 in
set_option maxRecDepth 100000 in
theorem c_X0_cars (l : Launch) (D : va_G) (cI cC cB cS : ClassId) (a : Nat → Nat) (g : Nat → Nat → Int32) (n : Nat) (hn : g 0 0 = nI n) (hnb : n ≤ 30) : Met l yX0_cars wsX0_cars ({ frames := 2, cells := 0, slots := 0, locals := 42 } : Room) (rdPc D (TYS cI cC cB cS) [.ref (a 0)] (wB cI a g)) (vp_Si (fun r => ∃ z, Cnt (fun w => ¬ g 5 w = 0) n z ∧ r = nI z)) 0 0 (fun _ => False) := by
  refine rd_intro (by decide) rfl (Nat.le_of_ble_eq_true rfl) ?_
  intro p e s m below meth c hx hb hr hml hts hown hlocks hP hK ls hl
  have hP : va_P D vwCl [(a 0, oE 0 [.int (g 0 0), .ref (a 1), .ref (a 2), .ref (a 3), .ref (a 4), .ref (a 5), .ref (a 6), .ref (a 7), .ref (a 8)]), (a 1, iE cI 30 (g 1)), (a 2, iE cI 30 (g 2)), (a 3, iE cI 30 (g 3)), (a 4, iE cI 30 (g 4)), (a 5, iE cI 30 (g 5)), (a 6, iE cI 30 (g 6)), (a 7, iE cI 30 (g 7)), (a 8, iE cI 30 (g 8))] s.heap := hP
  have hown : s.vm.findClass RX0 = some m.cls := hown
  have hl : lv_has ls 3 [(0, .ref (a 0))] := hl
  refine lv_iconst (v := 0) hx hb dX0_cars_0 (by decide) ?_
  refine lv_istore_n (lv' := [(1, .int (0)), (0, .ref (a 0))]) hx hb dX0_cars_1 rfl hl (by decide) rfl (fun ls hl => ?_)
  refine lv_iconst (v := 0) hx hb dX0_cars_2 (by decide) ?_
  refine lv_istore_n (lv' := [(2, .int (0)), (1, .int (0)), (0, .ref (a 0))]) hx hb dX0_cars_3 rfl hl (by decide) rfl (fun ls hl => ?_)
  have hloop : ∀ (d i : Nat) (z : Nat), i ≤ n → n - i < d → (Cnt (fun j => ¬ g 5 j = 0) i z) → ∀ ls : Array Slot, lv_has ls 3 [(1, .int (nI z)), (2, .int (nI i)), (0, .ref (a 0))] → W p l e ({ frames := 2, cells := 0, slots := 0, locals := 42 } : Room) s m (([.ref (a 0)] : List Value).toArray) below meth c s.heap [] 0 0 (MQ below (vp_Si (fun r => ∃ z, Cnt (fun w => ¬ g 5 w = 0) n z ∧ r = nI z)) (([.ref (a 0)] : List Value).toArray) s 0 0 (fun _ => False)) (F0 m 4 ls []) := by
    intro d
    induction d with
    | zero => intro i _ _ h2; exact absurd h2 (Nat.not_lt_zero _)
    | succ d ih =>
      intro i z hi hd hc ls hl
      refine lv_iload_n hx hb dX0_cars_4 rfl (lv_at hl 1 rfl) ?_
      refine lv_aload_n hx hb dX0_cars_5 rfl (lv_at hl 2 rfl) ?_
      refine va_get (D := D) (ci := 0) (v := .int (g 0 0)) (C := RX0) (T := TX0) (N := 9) hx hb hts (by decide +kernel) hown hK.1 hP 0 rfl rfl 0 (by decide) (hts (.fieldLink RX0 9 "ParkingGarage$Bays" "number" "I") (by decide +kernel)) (fun _ h9 => h9) rfl dX0_cars_6 ?_
      refine lv_icmp_ge (tgt := 29) hx hb dX0_cars_9 (by decide) (fun c_1 => ?_) (fun c_1 => ?_)
      · -- c_1: nI i ≥ g 0 0
        have hge : i = n := nI_geD hn hi (by omega) c_1
        subst hge
        refine lv_iload_n hx hb dX0_cars_29 rfl (lv_at hl 0 rfl) ?_
        exact rd_iret (v := nI z) hx hb hr hlocks dX0_cars_30 (⟨z, hc, rfl⟩)
      · -- c_1: not nI i ≥ g 0 0
        have hlt : i < n := nI_ltD hn hi (by omega) c_1
        refine lv_aload_n hx hb dX0_cars_12 rfl (lv_at hl 2 rfl) ?_
        refine lv_iload_n hx hb dX0_cars_13 rfl (lv_at hl 1 rfl) ?_
        refine cv_i (As := [.int (nI i)]) (rest := []) (tys := TYS cI cC cB cS) (ci := 0) ⟨hx, hb, hml, hown, hts⟩ (c_X0_isEmpty l D cI cC cB cS (a) (g) (n) (i) (hn) (hnb) (hlt)) (cwV 1 hts gX0_cars_X0_isEmpty rfl rfl rfl (by decide +kernel) ⟨Nat.le_of_ble_eq_true rfl, Nat.le_of_ble_eq_true rfl⟩) hK hP [0, 1, 2, 3, 4, 5, 6, 7, 8] rfl rfl rfl rfl rfl hl.1 (Nat.le_of_ble_eq_true rfl) dX0_cars_14 ⟨Nat.le_of_ble_eq_true rfl, Nat.le_of_ble_eq_true rfl⟩ (fun r_2 hr_2 => ?_)
        rcases (show Yes (g 5 i = 0) r_2 from hr_2) with ⟨rfl, h_3⟩ | ⟨rfl, h_3⟩
        · -- X0_isEmpty t
          refine if_ne_t (tgt := 23) hx hb (by decide) dX0_cars_17 (by decide) ?_
          refine lv_iinc (v := nI (i + 1)) (lv' := [(2, .int (nI (i + 1))), (1, .int (nI z)), (0, .ref (a 0))]) hx hb dX0_cars_23 hl (k := 1) rfl (nI_1 _) (by decide) rfl (fun ls hl => ?_)
          refine lv_goto (tgt := 4) hx hb dX0_cars_26 (by decide) ?_
          exact ih (i + 1) (z) (by omega) (by omega) (hc.n (fun q => q h_3)) ls (lv_sub hl [1, 0, 2] rfl)
        · -- X0_isEmpty f
          refine if_ne_f (tgt := 23) hx hb rfl dX0_cars_17 (by decide) ?_
          refine lv_iinc (v := nI (z + 1)) (lv' := [(1, .int (nI (z + 1))), (2, .int (nI i)), (0, .ref (a 0))]) hx hb dX0_cars_20 hl (k := 0) rfl (nI_1 _) (by decide) rfl (fun ls hl => ?_)
          refine lv_iinc (v := nI (i + 1)) (lv' := [(2, .int (nI (i + 1))), (1, .int (nI (z + 1))), (0, .ref (a 0))]) hx hb dX0_cars_23 hl (k := 1) rfl (nI_1 _) (by decide) rfl (fun ls hl => ?_)
          refine lv_goto (tgt := 4) hx hb dX0_cars_26 (by decide) ?_
          exact ih (i + 1) ((z + 1)) (by omega) (by omega) (hc.y h_3) ls (lv_sub hl [1, 0, 2] rfl)
  exact hloop (n + 1) 0 (0) (by omega) (by omega) (rfl) ls (lv_sub hl [1, 0, 2] rfl)
set_option maxHeartbeats 4000000 in
set_option maxRecDepth 100000 in
theorem c_X2_isAlive (l : Launch) (D : va_G) (cI cC cB cS : ClassId) (a : Nat → Nat) (g : Nat → Nat → Int32) (n : Nat) (k : Nat) (hn : g 0 0 = nI n) (hnb : n ≤ 16) (hk : k < n) : Met l yX2_isAlive wsX2_isAlive ({ frames := 1, cells := 0, slots := 0, locals := 21 } : Room) (rdPc D (TYS cI cC cB cS) [.ref (a 0), .int (nI k)] (wR cI a g)) (vp_Si (fun r => Yes (Alv (g 6) k) r)) 0 0 (fun _ => False) := by
  refine rd_intro (by decide) rfl (Nat.le_of_ble_eq_true rfl) ?_
  intro p e s m below meth c hx hb hr hml hts hown hlocks hP hK ls hl
  have hP : va_P D vwCl [(a 0, oE 2 [.int (g 0 0), .ref (a 1), .ref (a 2), .ref (a 3), .ref (a 4), .ref (a 5), .ref (a 6)]), (a 1, iE cI 16 (g 1)), (a 2, iE cI 16 (g 2)), (a 3, iE cI 16 (g 3)), (a 4, iE cI 16 (g 4)), (a 5, iE cI 16 (g 5)), (a 6, iE cI 16 (g 6))] s.heap := hP
  have hown : s.vm.findClass RX2 = some m.cls := hown
  have hl : lv_has ls 2 [(0, .ref (a 0)), (1, .int (nI k))] := hl
  refine lv_aload_n hx hb dX2_isAlive_0 rfl (lv_at hl 0 rfl) ?_
  refine lv_iload_n hx hb dX2_isAlive_1 rfl (lv_at hl 1 rfl) ?_
  refine cv_i (As := [.int (nI k)]) (rest := []) (tys := TYS cI cC cB cS) (ci := 2) ⟨hx, hb, hml, hown, hts⟩ (c_X2_has l D cI cC cB cS (a) (g) (n) (nI k) (hn) (hnb)) (cwV 1 hts gX2_isAlive_X2_has rfl rfl rfl (by decide +kernel) ⟨Nat.le_of_ble_eq_true rfl, Nat.le_of_ble_eq_true rfl⟩) hK hP [0, 1, 2, 3, 4, 5, 6] rfl rfl rfl rfl rfl hl.1 (Nat.le_of_ble_eq_true rfl) dX2_isAlive_2 ⟨Nat.le_of_ble_eq_true rfl, Nat.le_of_ble_eq_true rfl⟩ (fun r_1 hr_1 => ?_)
  rcases (show Yes (∃ w, w < n ∧ nI k = nI w) r_1 from hr_1) with ⟨rfl, h_2⟩ | ⟨rfl, h_2⟩
  · -- X2_has t
    refine if_eq_f (tgt := 31) hx hb (by decide) dX2_isAlive_5 (by decide) ?_
    refine lv_aload_n hx hb dX2_isAlive_8 rfl (lv_at hl 0 rfl) ?_
    refine va_get (D := D) (ci := 2) (v := .ref (a 6)) (C := RX2) (T := TX2) (N := 7) hx hb hts (by decide +kernel) hown hK.1 hP 0 rfl rfl 6 (by decide) (hts (.fieldLink RX2 31 "ParkingGarage$Reservations" "states" "[I") (by decide +kernel)) (fun _ h9 => h9) rfl dX2_isAlive_9 ?_
    refine lv_iload_n hx hb dX2_isAlive_12 rfl (lv_at hl 1 rfl) ?_
    refine iald_n (f := g 6) hx hb hK.1 hP 6 0 rfl rfl (k) (rfl) (by omega) (by omega) dX2_isAlive_13 ?_
    refine lv_if_eq (tgt := 27) hx hb dX2_isAlive_14 (by decide) (fun c_3 => ?_) (fun c_3 => ?_)
    · -- c_3: (g 6) (k) = 0
      refine lv_iconst (v := 1) hx hb dX2_isAlive_27 (by decide) ?_
      refine lv_goto (tgt := 32) hx hb dX2_isAlive_28 (by decide) ?_
      exact rd_zret (v := 1) hx hb hr hlocks dX2_isAlive_32 (by decide) (Or.inl ⟨rfl, Or.inl c_3⟩)
    · -- c_3: not (g 6) (k) = 0
      refine lv_aload_n hx hb dX2_isAlive_17 rfl (lv_at hl 0 rfl) ?_
      refine va_get (D := D) (ci := 2) (v := .ref (a 6)) (C := RX2) (T := TX2) (N := 7) hx hb hts (by decide +kernel) hown hK.1 hP 0 rfl rfl 6 (by decide) (hts (.fieldLink RX2 31 "ParkingGarage$Reservations" "states" "[I") (by decide +kernel)) (fun _ h9 => h9) rfl dX2_isAlive_18 ?_
      refine lv_iload_n hx hb dX2_isAlive_21 rfl (lv_at hl 1 rfl) ?_
      refine iald_n (f := g 6) hx hb hK.1 hP 6 0 rfl rfl (k) (rfl) (by omega) (by omega) dX2_isAlive_22 ?_
      refine lv_iconst (v := 1) hx hb dX2_isAlive_23 (by decide) ?_
      refine lv_icmp_ne (tgt := 31) hx hb dX2_isAlive_24 (by decide) (fun c_4 => ?_) (fun c_4 => ?_)
      · -- c_4: (g 6) (k) ≠ 1
        refine lv_iconst (v := 0) hx hb dX2_isAlive_31 (by decide) ?_
        exact rd_zret (v := 0) hx hb hr hlocks dX2_isAlive_32 (by decide) (Or.inr ⟨rfl, fun q => q.elim c_3 c_4⟩)
      · -- c_4: not (g 6) (k) ≠ 1
        refine lv_iconst (v := 1) hx hb dX2_isAlive_27 (by decide) ?_
        refine lv_goto (tgt := 32) hx hb dX2_isAlive_28 (by decide) ?_
        exact rd_zret (v := 1) hx hb hr hlocks dX2_isAlive_32 (by decide) (Or.inl ⟨rfl, Or.inr c_4⟩)
  · -- X2_has f
    exact absurd ⟨k, hk, rfl⟩ h_2
set_option maxHeartbeats 4000000 in
set_option maxRecDepth 100000 in
theorem c_X2_holdsBetween (l : Launch) (D : va_G) (cI cC cB cS : ClassId) (a : Nat → Nat) (g : Nat → Nat → Int32) (n : Nat) (k : Nat) (f : Int32) (un : Int32) (h : Int32) (hn : g 0 0 = nI n) (hnb : n ≤ 16) (hk : k < n) : Met l yX2_holdsBetween wsX2_holdsBetween ({ frames := 2, cells := 0, slots := 0, locals := 42 } : Room) (rdPc D (TYS cI cC cB cS) [.ref (a 0), .int (nI k), .int (f), .int (un), .int (h)] (wR cI a g)) (vp_Si (fun r => Yes (Hld (g 6) (g 3) (g 4) (f) (un) (h) k) r)) 0 0 (fun _ => False) := by
  refine rd_intro (by decide) rfl (Nat.le_of_ble_eq_true rfl) ?_
  intro p e s m below meth c hx hb hr hml hts hown hlocks hP hK ls hl
  have hP : va_P D vwCl [(a 0, oE 2 [.int (g 0 0), .ref (a 1), .ref (a 2), .ref (a 3), .ref (a 4), .ref (a 5), .ref (a 6)]), (a 1, iE cI 16 (g 1)), (a 2, iE cI 16 (g 2)), (a 3, iE cI 16 (g 3)), (a 4, iE cI 16 (g 4)), (a 5, iE cI 16 (g 5)), (a 6, iE cI 16 (g 6))] s.heap := hP
  have hown : s.vm.findClass RX2 = some m.cls := hown
  have hl : lv_has ls 5 [(0, .ref (a 0)), (1, .int (nI k)), (2, .int (f)), (3, .int (un)), (4, .int (h))] := hl
  refine lv_aload_n hx hb dX2_holdsBetween_0 rfl (lv_at hl 0 rfl) ?_
  refine lv_iload_n hx hb dX2_holdsBetween_1 rfl (lv_at hl 1 rfl) ?_
  refine cv_i (As := [.int (nI k)]) (rest := []) (tys := TYS cI cC cB cS) (ci := 2) ⟨hx, hb, hml, hown, hts⟩ (c_X2_isAlive l D cI cC cB cS (a) (g) (n) (k) (hn) (hnb) (hk)) (cwV 1 hts gX2_holdsBetween_X2_isAlive rfl rfl rfl (by decide +kernel) ⟨Nat.le_of_ble_eq_true rfl, Nat.le_of_ble_eq_true rfl⟩) hK hP [0, 1, 2, 3, 4, 5, 6] rfl rfl rfl rfl rfl hl.1 (Nat.le_of_ble_eq_true rfl) dX2_holdsBetween_2 ⟨Nat.le_of_ble_eq_true rfl, Nat.le_of_ble_eq_true rfl⟩ (fun r_1 hr_1 => ?_)
  rcases (show Yes (Alv (g 6) k) r_1 from hr_1) with ⟨rfl, h_2⟩ | ⟨rfl, h_2⟩
  · -- X2_isAlive t
    refine if_eq_f (tgt := 35) hx hb (by decide) dX2_holdsBetween_5 (by decide) ?_
    refine lv_aload_n hx hb dX2_holdsBetween_8 rfl (lv_at hl 0 rfl) ?_
    refine va_get (D := D) (ci := 2) (v := .ref (a 3)) (C := RX2) (T := TX2) (N := 7) hx hb hts (by decide +kernel) hown hK.1 hP 0 rfl rfl 3 (by decide) (hts (.fieldLink RX2 22 "ParkingGarage$Reservations" "begins" "[I") (by decide +kernel)) (fun _ h9 => h9) rfl dX2_holdsBetween_9 ?_
    refine lv_iload_n hx hb dX2_holdsBetween_12 rfl (lv_at hl 1 rfl) ?_
    refine iald_n (f := g 3) hx hb hK.1 hP 3 0 rfl rfl (k) (rfl) (by omega) (by omega) dX2_holdsBetween_13 ?_
    refine lv_iload hx hb dX2_holdsBetween_14 (lv_at hl 4 rfl) ?_
    refine lv_isub hx hb dX2_holdsBetween_16 ?_
    refine lv_iload_n hx hb dX2_holdsBetween_17 rfl (lv_at hl 3 rfl) ?_
    refine lv_icmp_ge (tgt := 35) hx hb dX2_holdsBetween_18 (by decide) (fun c_3 => ?_) (fun c_3 => ?_)
    · -- c_3: ((g 3) (k)) - (h) ≥ un
      refine lv_iconst (v := 0) hx hb dX2_holdsBetween_35 (by decide) ?_
      exact rd_zret (v := 0) hx hb hr hlocks dX2_holdsBetween_36 (by decide) (Or.inr ⟨rfl, fun q => Int32.not_lt.mpr c_3 q.2.1⟩)
    · -- c_3: not ((g 3) (k)) - (h) ≥ un
      refine lv_iload_n hx hb dX2_holdsBetween_21 rfl (lv_at hl 2 rfl) ?_
      refine lv_aload_n hx hb dX2_holdsBetween_22 rfl (lv_at hl 0 rfl) ?_
      refine va_get (D := D) (ci := 2) (v := .ref (a 4)) (C := RX2) (T := TX2) (N := 7) hx hb hts (by decide +kernel) hown hK.1 hP 0 rfl rfl 4 (by decide) (hts (.fieldLink RX2 25 "ParkingGarage$Reservations" "ends" "[I") (by decide +kernel)) (fun _ h9 => h9) rfl dX2_holdsBetween_23 ?_
      refine lv_iload_n hx hb dX2_holdsBetween_26 rfl (lv_at hl 1 rfl) ?_
      refine iald_n (f := g 4) hx hb hK.1 hP 4 0 rfl rfl (k) (rfl) (by omega) (by omega) dX2_holdsBetween_27 ?_
      refine lv_icmp_ge (tgt := 35) hx hb dX2_holdsBetween_28 (by decide) (fun c_4 => ?_) (fun c_4 => ?_)
      · -- c_4: f ≥ (g 4) (k)
        refine lv_iconst (v := 0) hx hb dX2_holdsBetween_35 (by decide) ?_
        exact rd_zret (v := 0) hx hb hr hlocks dX2_holdsBetween_36 (by decide) (Or.inr ⟨rfl, fun q => Int32.not_lt.mpr c_4 q.2.2⟩)
      · -- c_4: not f ≥ (g 4) (k)
        refine lv_iconst (v := 1) hx hb dX2_holdsBetween_31 (by decide) ?_
        refine lv_goto (tgt := 36) hx hb dX2_holdsBetween_32 (by decide) ?_
        exact rd_zret (v := 1) hx hb hr hlocks dX2_holdsBetween_36 (by decide) (Or.inl ⟨rfl, h_2, Int32.not_le.mp c_3, Int32.not_le.mp c_4⟩)
  · -- X2_isAlive f
    refine if_eq_t (tgt := 35) hx hb rfl dX2_holdsBetween_5 (by decide) ?_
    refine lv_iconst (v := 0) hx hb dX2_holdsBetween_35 (by decide) ?_
    exact rd_zret (v := 0) hx hb hr hlocks dX2_holdsBetween_36 (by decide) (Or.inr ⟨rfl, fun q => h_2 q.1⟩)
set_option maxHeartbeats 4000000 in
set_option maxRecDepth 100000 in
theorem c_X2_holderBetween (l : Launch) (D : va_G) (cI cC cB cS : ClassId) (a : Nat → Nat) (g : Nat → Nat → Int32) (n : Nat) (x : Int32) (f : Int32) (un : Int32) (h : Int32) (hn : g 0 0 = nI n) (hnb : n ≤ 16) : Met l yX2_holderBetween wsX2_holderBetween ({ frames := 3, cells := 0, slots := 0, locals := 66 } : Room) (rdPc D (TYS cI cC cB cS) [.ref (a 0), .int (x), .int (f), .int (un), .int (h)] (wR cI a g)) (vp_Si (fun r => Fst (fun w => g 2 w = x ∧ Hld (g 6) (g 3) (g 4) (f) (un) (h) w) n r)) 0 0 (fun _ => False) := by
  refine rd_intro (by decide) rfl (Nat.le_of_ble_eq_true rfl) ?_
  intro p e s m below meth c hx hb hr hml hts hown hlocks hP hK ls hl
  have hP : va_P D vwCl [(a 0, oE 2 [.int (g 0 0), .ref (a 1), .ref (a 2), .ref (a 3), .ref (a 4), .ref (a 5), .ref (a 6)]), (a 1, iE cI 16 (g 1)), (a 2, iE cI 16 (g 2)), (a 3, iE cI 16 (g 3)), (a 4, iE cI 16 (g 4)), (a 5, iE cI 16 (g 5)), (a 6, iE cI 16 (g 6))] s.heap := hP
  have hown : s.vm.findClass RX2 = some m.cls := hown
  have hl : lv_has ls 6 [(0, .ref (a 0)), (1, .int (x)), (2, .int (f)), (3, .int (un)), (4, .int (h))] := hl
  refine lv_iconst (v := 0) hx hb dX2_holderBetween_0 (by decide) ?_
  refine lv_istore (lv' := [(5, .int (0)), (0, .ref (a 0)), (1, .int (x)), (2, .int (f)), (3, .int (un)), (4, .int (h))]) hx hb dX2_holderBetween_1 hl (by decide) rfl (fun ls hl => ?_)
  have hloop : ∀ (d i : Nat), i ≤ n → n - i < d → (∀ j, j < i → ¬ (g 2 j = x ∧ Hld (g 6) (g 3) (g 4) f un h j)) → ∀ ls : Array Slot, lv_has ls 6 [(5, .int (nI i)), (0, .ref (a 0)), (1, .int (x)), (2, .int (f)), (3, .int (un)), (4, .int (h))] → W p l e ({ frames := 3, cells := 0, slots := 0, locals := 66 } : Room) s m (([.ref (a 0), .int (x), .int (f), .int (un), .int (h)] : List Value).toArray) below meth c s.heap [] 0 0 (MQ below (vp_Si (fun r => Fst (fun w => g 2 w = x ∧ Hld (g 6) (g 3) (g 4) (f) (un) (h) w) n r)) (([.ref (a 0), .int (x), .int (f), .int (un), .int (h)] : List Value).toArray) s 0 0 (fun _ => False)) (F0 m 3 ls []) := by
    intro d
    induction d with
    | zero => intro i _ h2; exact absurd h2 (Nat.not_lt_zero _)
    | succ d ih =>
      intro i hi hd hno ls hl
      refine lv_iload hx hb dX2_holderBetween_3 (lv_at hl 0 rfl) ?_
      refine lv_aload_n hx hb dX2_holderBetween_5 rfl (lv_at hl 1 rfl) ?_
      refine va_get (D := D) (ci := 2) (v := .int (g 0 0)) (C := RX2) (T := TX2) (N := 7) hx hb hts (by decide +kernel) hown hK.1 hP 0 rfl rfl 0 (by decide) (hts (.fieldLink RX2 9 "ParkingGarage$Reservations" "number" "I") (by decide +kernel)) (fun _ h9 => h9) rfl dX2_holderBetween_6 ?_
      refine lv_icmp_ge (tgt := 45) hx hb dX2_holderBetween_9 (by decide) (fun c_1 => ?_) (fun c_1 => ?_)
      · -- c_1: nI i ≥ g 0 0
        have hge : i = n := nI_geD hn hi (by omega) c_1
        subst hge
        refine lv_bipush (v := -9) hx hb dX2_holderBetween_45 (by decide) ?_
        exact rd_iret (v := -9) hx hb hr hlocks dX2_holderBetween_47 (Fst.none hno)
      · -- c_1: not nI i ≥ g 0 0
        have hlt : i < n := nI_ltD hn hi (by omega) c_1
        refine lv_aload_n hx hb dX2_holderBetween_12 rfl (lv_at hl 1 rfl) ?_
        refine va_get (D := D) (ci := 2) (v := .ref (a 2)) (C := RX2) (T := TX2) (N := 7) hx hb hts (by decide +kernel) hown hK.1 hP 0 rfl rfl 2 (by decide) (hts (.fieldLink RX2 19 "ParkingGarage$Reservations" "bays" "[I") (by decide +kernel)) (fun _ h9 => h9) rfl dX2_holderBetween_13 ?_
        refine lv_iload hx hb dX2_holderBetween_16 (lv_at hl 0 rfl) ?_
        refine iald_n (f := g 2) hx hb hK.1 hP 2 0 rfl rfl (i) (rfl) (by omega) (by omega) dX2_holderBetween_18 ?_
        refine lv_iload_n hx hb dX2_holderBetween_19 rfl (lv_at hl 2 rfl) ?_
        refine lv_icmp_ne (tgt := 39) hx hb dX2_holderBetween_20 (by decide) (fun c_2 => ?_) (fun c_2 => ?_)
        · -- c_2: (g 2) (i) ≠ x
          refine lv_iinc (v := nI (i + 1)) (lv' := [(5, .int (nI (i + 1))), (0, .ref (a 0)), (1, .int (x)), (2, .int (f)), (3, .int (un)), (4, .int (h))]) hx hb dX2_holderBetween_39 hl (k := 0) rfl (nI_1 _) (by decide) rfl (fun ls hl => ?_)
          refine lv_goto (tgt := 3) hx hb dX2_holderBetween_42 (by decide) ?_
          exact ih (i + 1) (by omega) (by omega) (all_s hno (fun q => c_2 q.1)) ls (lv_sub hl [0, 1, 2, 3, 4, 5] rfl)
        · -- c_2: not (g 2) (i) ≠ x
          refine lv_aload_n hx hb dX2_holderBetween_23 rfl (lv_at hl 1 rfl) ?_
          refine lv_iload hx hb dX2_holderBetween_24 (lv_at hl 0 rfl) ?_
          refine lv_iload_n hx hb dX2_holderBetween_26 rfl (lv_at hl 3 rfl) ?_
          refine lv_iload_n hx hb dX2_holderBetween_27 rfl (lv_at hl 4 rfl) ?_
          refine lv_iload hx hb dX2_holderBetween_28 (lv_at hl 5 rfl) ?_
          refine cv_i (As := [.int (nI i), .int (f), .int (un), .int (h)]) (rest := []) (tys := TYS cI cC cB cS) (ci := 2) ⟨hx, hb, hml, hown, hts⟩ (c_X2_holdsBetween l D cI cC cB cS (a) (g) (n) (i) (f) (un) (h) (hn) (hnb) (hlt)) (cwV 4 hts gX2_holderBetween_X2_holdsBetween rfl rfl rfl (by decide +kernel) ⟨Nat.le_of_ble_eq_true rfl, Nat.le_of_ble_eq_true rfl⟩) hK hP [0, 1, 2, 3, 4, 5, 6] rfl rfl rfl rfl rfl hl.1 (Nat.le_of_ble_eq_true rfl) dX2_holderBetween_30 ⟨Nat.le_of_ble_eq_true rfl, Nat.le_of_ble_eq_true rfl⟩ (fun r_3 hr_3 => ?_)
          rcases (show Yes (Hld (g 6) (g 3) (g 4) (f) (un) (h) i) r_3 from hr_3) with ⟨rfl, h_4⟩ | ⟨rfl, h_4⟩
          · -- X2_holdsBetween t
            refine if_eq_f (tgt := 39) hx hb (by decide) dX2_holderBetween_33 (by decide) ?_
            refine lv_iload hx hb dX2_holderBetween_36 (lv_at hl 0 rfl) ?_
            exact rd_iret (v := nI i) hx hb hr hlocks dX2_holderBetween_38 (Fst.hit hlt ⟨c_2, h_4⟩ hno)
          · -- X2_holdsBetween f
            refine if_eq_t (tgt := 39) hx hb rfl dX2_holderBetween_33 (by decide) ?_
            refine lv_iinc (v := nI (i + 1)) (lv' := [(5, .int (nI (i + 1))), (0, .ref (a 0)), (1, .int (x)), (2, .int (f)), (3, .int (un)), (4, .int (h))]) hx hb dX2_holderBetween_39 hl (k := 0) rfl (nI_1 _) (by decide) rfl (fun ls hl => ?_)
            refine lv_goto (tgt := 3) hx hb dX2_holderBetween_42 (by decide) ?_
            exact ih (i + 1) (by omega) (by omega) (all_s hno (fun q => h_4 q.2)) ls (lv_sub hl [0, 1, 2, 3, 4, 5] rfl)
  exact hloop (n + 1) 0 (by omega) (by omega) (all_0) ls (lv_sub hl [0, 1, 2, 3, 4, 5] rfl)
set_option maxHeartbeats 4000000 in
set_option maxRecDepth 100000 in
theorem c_X2_firstOpenOf (l : Launch) (D : va_G) (cI cC cB cS : ClassId) (a : Nat → Nat) (g : Nat → Nat → Int32) (n : Nat) (x : Int32) (t : Int32) (h : Int32) (hn : g 0 0 = nI n) (hnb : n ≤ 16) : Met l yX2_firstOpenOf wsX2_firstOpenOf ({ frames := 3, cells := 0, slots := 0, locals := 66 } : Room) (rdPc D (TYS cI cC cB cS) [.ref (a 0), .int (x), .int (t), .int (h)] (wR cI a g)) (vp_Si (fun r => Fst (fun w => g 1 w = x ∧ g 6 w = 0 ∧ Hld (g 6) (g 3) (g 4) (t) (t + 1) (h) w) n r)) 0 0 (fun _ => False) := by
  refine rd_intro (by decide) rfl (Nat.le_of_ble_eq_true rfl) ?_
  intro p e s m below meth c hx hb hr hml hts hown hlocks hP hK ls hl
  have hP : va_P D vwCl [(a 0, oE 2 [.int (g 0 0), .ref (a 1), .ref (a 2), .ref (a 3), .ref (a 4), .ref (a 5), .ref (a 6)]), (a 1, iE cI 16 (g 1)), (a 2, iE cI 16 (g 2)), (a 3, iE cI 16 (g 3)), (a 4, iE cI 16 (g 4)), (a 5, iE cI 16 (g 5)), (a 6, iE cI 16 (g 6))] s.heap := hP
  have hown : s.vm.findClass RX2 = some m.cls := hown
  have hl : lv_has ls 5 [(0, .ref (a 0)), (1, .int (x)), (2, .int (t)), (3, .int (h))] := hl
  refine lv_iconst (v := 0) hx hb dX2_firstOpenOf_0 (by decide) ?_
  refine lv_istore (lv' := [(4, .int (0)), (0, .ref (a 0)), (1, .int (x)), (2, .int (t)), (3, .int (h))]) hx hb dX2_firstOpenOf_1 hl (by decide) rfl (fun ls hl => ?_)
  have hloop : ∀ (d i : Nat), i ≤ n → n - i < d → (∀ j, j < i → ¬ (g 1 j = x ∧ g 6 j = 0 ∧ Hld (g 6) (g 3) (g 4) t (t + 1) h j)) → ∀ ls : Array Slot, lv_has ls 5 [(4, .int (nI i)), (0, .ref (a 0)), (1, .int (x)), (2, .int (t)), (3, .int (h))] → W p l e ({ frames := 3, cells := 0, slots := 0, locals := 66 } : Room) s m (([.ref (a 0), .int (x), .int (t), .int (h)] : List Value).toArray) below meth c s.heap [] 0 0 (MQ below (vp_Si (fun r => Fst (fun w => g 1 w = x ∧ g 6 w = 0 ∧ Hld (g 6) (g 3) (g 4) (t) (t + 1) (h) w) n r)) (([.ref (a 0), .int (x), .int (t), .int (h)] : List Value).toArray) s 0 0 (fun _ => False)) (F0 m 3 ls []) := by
    intro d
    induction d with
    | zero => intro i _ h2; exact absurd h2 (Nat.not_lt_zero _)
    | succ d ih =>
      intro i hi hd hno ls hl
      refine lv_iload hx hb dX2_firstOpenOf_3 (lv_at hl 0 rfl) ?_
      refine lv_aload_n hx hb dX2_firstOpenOf_5 rfl (lv_at hl 1 rfl) ?_
      refine va_get (D := D) (ci := 2) (v := .int (g 0 0)) (C := RX2) (T := TX2) (N := 7) hx hb hts (by decide +kernel) hown hK.1 hP 0 rfl rfl 0 (by decide) (hts (.fieldLink RX2 9 "ParkingGarage$Reservations" "number" "I") (by decide +kernel)) (fun _ h9 => h9) rfl dX2_firstOpenOf_6 ?_
      refine lv_icmp_ge (tgt := 56) hx hb dX2_firstOpenOf_9 (by decide) (fun c_1 => ?_) (fun c_1 => ?_)
      · -- c_1: nI i ≥ g 0 0
        have hge : i = n := nI_geD hn hi (by omega) c_1
        subst hge
        refine lv_bipush (v := -9) hx hb dX2_firstOpenOf_56 (by decide) ?_
        exact rd_iret (v := -9) hx hb hr hlocks dX2_firstOpenOf_58 (Fst.none hno)
      · -- c_1: not nI i ≥ g 0 0
        have hlt : i < n := nI_ltD hn hi (by omega) c_1
        refine lv_aload_n hx hb dX2_firstOpenOf_12 rfl (lv_at hl 1 rfl) ?_
        refine va_get (D := D) (ci := 2) (v := .ref (a 1)) (C := RX2) (T := TX2) (N := 7) hx hb hts (by decide +kernel) hown hK.1 hP 0 rfl rfl 1 (by decide) (hts (.fieldLink RX2 15 "ParkingGarage$Reservations" "plates" "[I") (by decide +kernel)) (fun _ h9 => h9) rfl dX2_firstOpenOf_13 ?_
        refine lv_iload hx hb dX2_firstOpenOf_16 (lv_at hl 0 rfl) ?_
        refine iald_n (f := g 1) hx hb hK.1 hP 1 0 rfl rfl (i) (rfl) (by omega) (by omega) dX2_firstOpenOf_18 ?_
        refine lv_iload_n hx hb dX2_firstOpenOf_19 rfl (lv_at hl 2 rfl) ?_
        refine lv_icmp_ne (tgt := 50) hx hb dX2_firstOpenOf_20 (by decide) (fun c_2 => ?_) (fun c_2 => ?_)
        · -- c_2: (g 1) (i) ≠ x
          refine lv_iinc (v := nI (i + 1)) (lv' := [(4, .int (nI (i + 1))), (0, .ref (a 0)), (1, .int (x)), (2, .int (t)), (3, .int (h))]) hx hb dX2_firstOpenOf_50 hl (k := 0) rfl (nI_1 _) (by decide) rfl (fun ls hl => ?_)
          refine lv_goto (tgt := 3) hx hb dX2_firstOpenOf_53 (by decide) ?_
          exact ih (i + 1) (by omega) (by omega) (all_s hno (fun q => c_2 q.1)) ls (lv_sub hl [0, 1, 2, 3, 4] rfl)
        · -- c_2: not (g 1) (i) ≠ x
          refine lv_aload_n hx hb dX2_firstOpenOf_23 rfl (lv_at hl 1 rfl) ?_
          refine va_get (D := D) (ci := 2) (v := .ref (a 6)) (C := RX2) (T := TX2) (N := 7) hx hb hts (by decide +kernel) hown hK.1 hP 0 rfl rfl 6 (by decide) (hts (.fieldLink RX2 31 "ParkingGarage$Reservations" "states" "[I") (by decide +kernel)) (fun _ h9 => h9) rfl dX2_firstOpenOf_24 ?_
          refine lv_iload hx hb dX2_firstOpenOf_27 (lv_at hl 0 rfl) ?_
          refine iald_n (f := g 6) hx hb hK.1 hP 6 0 rfl rfl (i) (rfl) (by omega) (by omega) dX2_firstOpenOf_29 ?_
          refine lv_if_ne (tgt := 50) hx hb dX2_firstOpenOf_30 (by decide) (fun c_3 => ?_) (fun c_3 => ?_)
          · -- c_3: (g 6) (i) ≠ 0
            refine lv_iinc (v := nI (i + 1)) (lv' := [(4, .int (nI (i + 1))), (0, .ref (a 0)), (1, .int (x)), (2, .int (t)), (3, .int (h))]) hx hb dX2_firstOpenOf_50 hl (k := 0) rfl (nI_1 _) (by decide) rfl (fun ls hl => ?_)
            refine lv_goto (tgt := 3) hx hb dX2_firstOpenOf_53 (by decide) ?_
            exact ih (i + 1) (by omega) (by omega) (all_s hno (fun q => c_3 q.2.1)) ls (lv_sub hl [0, 1, 2, 3, 4] rfl)
          · -- c_3: not (g 6) (i) ≠ 0
            refine lv_aload_n hx hb dX2_firstOpenOf_33 rfl (lv_at hl 1 rfl) ?_
            refine lv_iload hx hb dX2_firstOpenOf_34 (lv_at hl 0 rfl) ?_
            refine lv_iload_n hx hb dX2_firstOpenOf_36 rfl (lv_at hl 3 rfl) ?_
            refine lv_iload_n hx hb dX2_firstOpenOf_37 rfl (lv_at hl 3 rfl) ?_
            refine lv_iconst (v := 1) hx hb dX2_firstOpenOf_38 (by decide) ?_
            refine lv_iadd hx hb dX2_firstOpenOf_39 ?_
            refine lv_iload_n hx hb dX2_firstOpenOf_40 rfl (lv_at hl 4 rfl) ?_
            refine cv_i (As := [.int (nI i), .int (t), .int ((t) + (1)), .int (h)]) (rest := []) (tys := TYS cI cC cB cS) (ci := 2) ⟨hx, hb, hml, hown, hts⟩ (c_X2_holdsBetween l D cI cC cB cS (a) (g) (n) (i) (t) (t + 1) (h) (hn) (hnb) (hlt)) (cwV 4 hts gX2_firstOpenOf_X2_holdsBetween rfl rfl rfl (by decide +kernel) ⟨Nat.le_of_ble_eq_true rfl, Nat.le_of_ble_eq_true rfl⟩) hK hP [0, 1, 2, 3, 4, 5, 6] rfl rfl rfl rfl rfl hl.1 (Nat.le_of_ble_eq_true rfl) dX2_firstOpenOf_41 ⟨Nat.le_of_ble_eq_true rfl, Nat.le_of_ble_eq_true rfl⟩ (fun r_4 hr_4 => ?_)
            rcases (show Yes (Hld (g 6) (g 3) (g 4) (t) (t + 1) (h) i) r_4 from hr_4) with ⟨rfl, h_5⟩ | ⟨rfl, h_5⟩
            · -- X2_holdsBetween t
              refine if_eq_f (tgt := 50) hx hb (by decide) dX2_firstOpenOf_44 (by decide) ?_
              refine lv_iload hx hb dX2_firstOpenOf_47 (lv_at hl 0 rfl) ?_
              exact rd_iret (v := nI i) hx hb hr hlocks dX2_firstOpenOf_49 (Fst.hit hlt ⟨c_2, c_3, h_5⟩ hno)
            · -- X2_holdsBetween f
              refine if_eq_t (tgt := 50) hx hb rfl dX2_firstOpenOf_44 (by decide) ?_
              refine lv_iinc (v := nI (i + 1)) (lv' := [(4, .int (nI (i + 1))), (0, .ref (a 0)), (1, .int (x)), (2, .int (t)), (3, .int (h))]) hx hb dX2_firstOpenOf_50 hl (k := 0) rfl (nI_1 _) (by decide) rfl (fun ls hl => ?_)
              refine lv_goto (tgt := 3) hx hb dX2_firstOpenOf_53 (by decide) ?_
              exact ih (i + 1) (by omega) (by omega) (all_s hno (fun q => h_5 q.2.2)) ls (lv_sub hl [0, 1, 2, 3, 4] rfl)
  exact hloop (n + 1) 0 (by omega) (by omega) (all_0) ls (lv_sub hl [0, 1, 2, 3, 4] rfl)
set_option maxHeartbeats 4000000 in
set_option maxRecDepth 100000 in
theorem c_X2_minutesUntilHeld (l : Launch) (D : va_G) (cI cC cB cS : ClassId) (a : Nat → Nat) (g : Nat → Nat → Int32) (n : Nat) (x : Int32) (t : Int32) (h : Int32) (hn : g 0 0 = nI n) (hnb : n ≤ 16) : Met l yX2_minutesUntilHeld wsX2_minutesUntilHeld ({ frames := 2, cells := 0, slots := 0, locals := 42 } : Room) (rdPc D (TYS cI cC cB cS) [.ref (a 0), .int (x), .int (t), .int (h)] (wR cI a g)) (vp_Si (fun r => Wlk (-9) (Imp (fun j z => g 2 j = x ∧ Alv (g 6) j ∧ 0 < g 3 j - h - t ∧ (z = -9 ∨ g 3 j - h - t < z)) (fun j => g 3 j - h - t)) n r)) 0 0 (fun _ => False) := by
  refine rd_intro (by decide) rfl (Nat.le_of_ble_eq_true rfl) ?_
  intro p e s m below meth c hx hb hr hml hts hown hlocks hP hK ls hl
  have hP : va_P D vwCl [(a 0, oE 2 [.int (g 0 0), .ref (a 1), .ref (a 2), .ref (a 3), .ref (a 4), .ref (a 5), .ref (a 6)]), (a 1, iE cI 16 (g 1)), (a 2, iE cI 16 (g 2)), (a 3, iE cI 16 (g 3)), (a 4, iE cI 16 (g 4)), (a 5, iE cI 16 (g 5)), (a 6, iE cI 16 (g 6))] s.heap := hP
  have hown : s.vm.findClass RX2 = some m.cls := hown
  have hl : lv_has ls 7 [(0, .ref (a 0)), (1, .int (x)), (2, .int (t)), (3, .int (h))] := hl
  refine lv_bipush (v := -9) hx hb dX2_minutesUntilHeld_0 (by decide) ?_
  refine lv_istore (lv' := [(4, .int (-9)), (0, .ref (a 0)), (1, .int (x)), (2, .int (t)), (3, .int (h))]) hx hb dX2_minutesUntilHeld_2 hl (by decide) rfl (fun ls hl => ?_)
  refine lv_iconst (v := 0) hx hb dX2_minutesUntilHeld_4 (by decide) ?_
  refine lv_istore (lv' := [(5, .int (0)), (4, .int (-9)), (0, .ref (a 0)), (1, .int (x)), (2, .int (t)), (3, .int (h))]) hx hb dX2_minutesUntilHeld_5 hl (by decide) rfl (fun ls hl => ?_)
  have hloop : ∀ (d i : Nat) (z : Int32), i ≤ n → n - i < d → (Wlk (-9) (Imp (fun j z => g 2 j = x ∧ Alv (g 6) j ∧ 0 < g 3 j - h - t ∧ (z = -9 ∨ g 3 j - h - t < z)) (fun j => g 3 j - h - t)) i z) → ∀ ls : Array Slot, lv_has ls 7 [(4, .int (z)), (5, .int (nI i)), (0, .ref (a 0)), (1, .int (x)), (2, .int (t)), (3, .int (h))] → W p l e ({ frames := 2, cells := 0, slots := 0, locals := 42 } : Room) s m (([.ref (a 0), .int (x), .int (t), .int (h)] : List Value).toArray) below meth c s.heap [] 0 0 (MQ below (vp_Si (fun r => Wlk (-9) (Imp (fun j z => g 2 j = x ∧ Alv (g 6) j ∧ 0 < g 3 j - h - t ∧ (z = -9 ∨ g 3 j - h - t < z)) (fun j => g 3 j - h - t)) n r)) (([.ref (a 0), .int (x), .int (t), .int (h)] : List Value).toArray) s 0 0 (fun _ => False)) (F0 m 7 ls []) := by
    intro d
    induction d with
    | zero => intro i _ _ h2; exact absurd h2 (Nat.not_lt_zero _)
    | succ d ih =>
      intro i z hi hd hw ls hl
      refine lv_iload hx hb dX2_minutesUntilHeld_7 (lv_at hl 1 rfl) ?_
      refine lv_aload_n hx hb dX2_minutesUntilHeld_9 rfl (lv_at hl 2 rfl) ?_
      refine va_get (D := D) (ci := 2) (v := .int (g 0 0)) (C := RX2) (T := TX2) (N := 7) hx hb hts (by decide +kernel) hown hK.1 hP 0 rfl rfl 0 (by decide) (hts (.fieldLink RX2 9 "ParkingGarage$Reservations" "number" "I") (by decide +kernel)) (fun _ h9 => h9) rfl dX2_minutesUntilHeld_10 ?_
      refine lv_icmp_ge (tgt := 78) hx hb dX2_minutesUntilHeld_13 (by decide) (fun c_1 => ?_) (fun c_1 => ?_)
      · -- c_1: nI i ≥ g 0 0
        have hge : i = n := nI_geD hn hi (by omega) c_1
        subst hge
        refine lv_iload hx hb dX2_minutesUntilHeld_78 (lv_at hl 0 rfl) ?_
        exact rd_iret (v := z) hx hb hr hlocks dX2_minutesUntilHeld_80 (hw)
      · -- c_1: not nI i ≥ g 0 0
        have hlt : i < n := nI_ltD hn hi (by omega) c_1
        refine lv_aload_n hx hb dX2_minutesUntilHeld_16 rfl (lv_at hl 2 rfl) ?_
        refine va_get (D := D) (ci := 2) (v := .ref (a 3)) (C := RX2) (T := TX2) (N := 7) hx hb hts (by decide +kernel) hown hK.1 hP 0 rfl rfl 3 (by decide) (hts (.fieldLink RX2 22 "ParkingGarage$Reservations" "begins" "[I") (by decide +kernel)) (fun _ h9 => h9) rfl dX2_minutesUntilHeld_17 ?_
        refine lv_iload hx hb dX2_minutesUntilHeld_20 (lv_at hl 1 rfl) ?_
        refine iald_n (f := g 3) hx hb hK.1 hP 3 0 rfl rfl (i) (rfl) (by omega) (by omega) dX2_minutesUntilHeld_22 ?_
        refine lv_iload_n hx hb dX2_minutesUntilHeld_23 rfl (lv_at hl 5 rfl) ?_
        refine lv_isub hx hb dX2_minutesUntilHeld_24 ?_
        refine lv_iload_n hx hb dX2_minutesUntilHeld_25 rfl (lv_at hl 4 rfl) ?_
        refine lv_isub hx hb dX2_minutesUntilHeld_26 ?_
        refine lv_istore (lv' := [(6, .int ((((g 3) (i)) - (h)) - (t))), (4, .int (z)), (5, .int (nI i)), (0, .ref (a 0)), (1, .int (x)), (2, .int (t)), (3, .int (h))]) hx hb dX2_minutesUntilHeld_27 hl (by decide) rfl (fun ls hl => ?_)
        refine lv_aload_n hx hb dX2_minutesUntilHeld_29 rfl (lv_at hl 3 rfl) ?_
        refine va_get (D := D) (ci := 2) (v := .ref (a 2)) (C := RX2) (T := TX2) (N := 7) hx hb hts (by decide +kernel) hown hK.1 hP 0 rfl rfl 2 (by decide) (hts (.fieldLink RX2 19 "ParkingGarage$Reservations" "bays" "[I") (by decide +kernel)) (fun _ h9 => h9) rfl dX2_minutesUntilHeld_30 ?_
        refine lv_iload hx hb dX2_minutesUntilHeld_33 (lv_at hl 2 rfl) ?_
        refine iald_n (f := g 2) hx hb hK.1 hP 2 0 rfl rfl (i) (rfl) (by omega) (by omega) dX2_minutesUntilHeld_35 ?_
        refine lv_iload_n hx hb dX2_minutesUntilHeld_36 rfl (lv_at hl 4 rfl) ?_
        refine lv_icmp_ne (tgt := 72) hx hb dX2_minutesUntilHeld_37 (by decide) (fun c_2 => ?_) (fun c_2 => ?_)
        · -- c_2: (g 2) (i) ≠ x
          refine lv_iinc (v := nI (i + 1)) (lv' := [(5, .int (nI (i + 1))), (6, .int ((((g 3) (i)) - (h)) - (t))), (4, .int (z)), (0, .ref (a 0)), (1, .int (x)), (2, .int (t)), (3, .int (h))]) hx hb dX2_minutesUntilHeld_72 hl (k := 2) rfl (nI_1 _) (by decide) rfl (fun ls hl => ?_)
          refine lv_goto (tgt := 7) hx hb dX2_minutesUntilHeld_75 (by decide) ?_
          exact ih (i + 1) (z) (by omega) (by omega) (hw.s (Imp.no (fun q => c_2 q.1))) ls (lv_sub hl [2, 0, 3, 4, 5, 6] rfl)
        · -- c_2: not (g 2) (i) ≠ x
          refine lv_aload_n hx hb dX2_minutesUntilHeld_40 rfl (lv_at hl 3 rfl) ?_
          refine lv_iload hx hb dX2_minutesUntilHeld_41 (lv_at hl 2 rfl) ?_
          refine cv_i (As := [.int (nI i)]) (rest := []) (tys := TYS cI cC cB cS) (ci := 2) ⟨hx, hb, hml, hown, hts⟩ (c_X2_isAlive l D cI cC cB cS (a) (g) (n) (i) (hn) (hnb) (hlt)) (cwV 1 hts gX2_minutesUntilHeld_X2_isAlive rfl rfl rfl (by decide +kernel) ⟨Nat.le_of_ble_eq_true rfl, Nat.le_of_ble_eq_true rfl⟩) hK hP [0, 1, 2, 3, 4, 5, 6] rfl rfl rfl rfl rfl hl.1 (Nat.le_of_ble_eq_true rfl) dX2_minutesUntilHeld_43 ⟨Nat.le_of_ble_eq_true rfl, Nat.le_of_ble_eq_true rfl⟩ (fun r_3 hr_3 => ?_)
          rcases (show Yes (Alv (g 6) i) r_3 from hr_3) with ⟨rfl, h_4⟩ | ⟨rfl, h_4⟩
          · -- X2_isAlive t
            refine if_eq_f (tgt := 72) hx hb (by decide) dX2_minutesUntilHeld_46 (by decide) ?_
            refine lv_iload hx hb dX2_minutesUntilHeld_49 (lv_at hl 0 rfl) ?_
            refine lv_if_le (tgt := 72) hx hb dX2_minutesUntilHeld_51 (by decide) (fun c_5 => ?_) (fun c_5 => ?_)
            · -- c_5: (((g 3) (i)) - (h)) - (t) ≤ 0
              refine lv_iinc (v := nI (i + 1)) (lv' := [(5, .int (nI (i + 1))), (6, .int ((((g 3) (i)) - (h)) - (t))), (4, .int (z)), (0, .ref (a 0)), (1, .int (x)), (2, .int (t)), (3, .int (h))]) hx hb dX2_minutesUntilHeld_72 hl (k := 2) rfl (nI_1 _) (by decide) rfl (fun ls hl => ?_)
              refine lv_goto (tgt := 7) hx hb dX2_minutesUntilHeld_75 (by decide) ?_
              exact ih (i + 1) (z) (by omega) (by omega) (hw.s (Imp.no (fun q => Int32.not_lt.mpr c_5 q.2.2.1))) ls (lv_sub hl [2, 0, 3, 4, 5, 6] rfl)
            · -- c_5: not (((g 3) (i)) - (h)) - (t) ≤ 0
              refine lv_iload hx hb dX2_minutesUntilHeld_54 (lv_at hl 1 rfl) ?_
              refine lv_bipush (v := -9) hx hb dX2_minutesUntilHeld_56 (by decide) ?_
              refine lv_icmp_eq (tgt := 68) hx hb dX2_minutesUntilHeld_58 (by decide) (fun c_6 => ?_) (fun c_6 => ?_)
              · -- c_6: z = -9
                refine lv_iload hx hb dX2_minutesUntilHeld_68 (lv_at hl 0 rfl) ?_
                refine lv_istore (lv' := [(4, .int ((((g 3) (i)) - (h)) - (t))), (6, .int ((((g 3) (i)) - (h)) - (t))), (5, .int (nI i)), (0, .ref (a 0)), (1, .int (x)), (2, .int (t)), (3, .int (h))]) hx hb dX2_minutesUntilHeld_70 hl (by decide) rfl (fun ls hl => ?_)
                refine lv_iinc (v := nI (i + 1)) (lv' := [(5, .int (nI (i + 1))), (4, .int ((((g 3) (i)) - (h)) - (t))), (6, .int ((((g 3) (i)) - (h)) - (t))), (0, .ref (a 0)), (1, .int (x)), (2, .int (t)), (3, .int (h))]) hx hb dX2_minutesUntilHeld_72 hl (k := 2) rfl (nI_1 _) (by decide) rfl (fun ls hl => ?_)
                refine lv_goto (tgt := 7) hx hb dX2_minutesUntilHeld_75 (by decide) ?_
                exact ih (i + 1) ((((g 3) (i)) - (h)) - (t)) (by omega) (by omega) (hw.s (Imp.yes ⟨c_2, h_4, Int32.not_le.mp c_5, Or.inl c_6⟩)) ls (lv_sub hl [1, 0, 3, 4, 5, 6] rfl)
              · -- c_6: not z = -9
                refine lv_iload hx hb dX2_minutesUntilHeld_61 (lv_at hl 0 rfl) ?_
                refine lv_iload hx hb dX2_minutesUntilHeld_63 (lv_at hl 1 rfl) ?_
                refine lv_icmp_ge (tgt := 72) hx hb dX2_minutesUntilHeld_65 (by decide) (fun c_7 => ?_) (fun c_7 => ?_)
                · -- c_7: (((g 3) (i)) - (h)) - (t) ≥ z
                  refine lv_iinc (v := nI (i + 1)) (lv' := [(5, .int (nI (i + 1))), (6, .int ((((g 3) (i)) - (h)) - (t))), (4, .int (z)), (0, .ref (a 0)), (1, .int (x)), (2, .int (t)), (3, .int (h))]) hx hb dX2_minutesUntilHeld_72 hl (k := 2) rfl (nI_1 _) (by decide) rfl (fun ls hl => ?_)
                  refine lv_goto (tgt := 7) hx hb dX2_minutesUntilHeld_75 (by decide) ?_
                  exact ih (i + 1) (z) (by omega) (by omega) (hw.s (Imp.no (fun q => q.2.2.2.elim c_6 (Int32.not_lt.mpr c_7)))) ls (lv_sub hl [2, 0, 3, 4, 5, 6] rfl)
                · -- c_7: not (((g 3) (i)) - (h)) - (t) ≥ z
                  refine lv_iload hx hb dX2_minutesUntilHeld_68 (lv_at hl 0 rfl) ?_
                  refine lv_istore (lv' := [(4, .int ((((g 3) (i)) - (h)) - (t))), (6, .int ((((g 3) (i)) - (h)) - (t))), (5, .int (nI i)), (0, .ref (a 0)), (1, .int (x)), (2, .int (t)), (3, .int (h))]) hx hb dX2_minutesUntilHeld_70 hl (by decide) rfl (fun ls hl => ?_)
                  refine lv_iinc (v := nI (i + 1)) (lv' := [(5, .int (nI (i + 1))), (4, .int ((((g 3) (i)) - (h)) - (t))), (6, .int ((((g 3) (i)) - (h)) - (t))), (0, .ref (a 0)), (1, .int (x)), (2, .int (t)), (3, .int (h))]) hx hb dX2_minutesUntilHeld_72 hl (k := 2) rfl (nI_1 _) (by decide) rfl (fun ls hl => ?_)
                  refine lv_goto (tgt := 7) hx hb dX2_minutesUntilHeld_75 (by decide) ?_
                  exact ih (i + 1) ((((g 3) (i)) - (h)) - (t)) (by omega) (by omega) (hw.s (Imp.yes ⟨c_2, h_4, Int32.not_le.mp c_5, Or.inr (Int32.not_le.mp c_7)⟩)) ls (lv_sub hl [1, 0, 3, 4, 5, 6] rfl)
          · -- X2_isAlive f
            refine if_eq_t (tgt := 72) hx hb rfl dX2_minutesUntilHeld_46 (by decide) ?_
            refine lv_iinc (v := nI (i + 1)) (lv' := [(5, .int (nI (i + 1))), (6, .int ((((g 3) (i)) - (h)) - (t))), (4, .int (z)), (0, .ref (a 0)), (1, .int (x)), (2, .int (t)), (3, .int (h))]) hx hb dX2_minutesUntilHeld_72 hl (k := 2) rfl (nI_1 _) (by decide) rfl (fun ls hl => ?_)
            refine lv_goto (tgt := 7) hx hb dX2_minutesUntilHeld_75 (by decide) ?_
            exact ih (i + 1) (z) (by omega) (by omega) (hw.s (Imp.no (fun q => h_4 q.2.1))) ls (lv_sub hl [2, 0, 3, 4, 5, 6] rfl)
  exact hloop (n + 1) 0 (-9) (by omega) (by omega) (rfl) ls (lv_sub hl [1, 0, 2, 3, 4, 5] rfl)
