/-! ===== Text: its tokens (laid by wip/whole/gen) ===== -/
set_option maxHeartbeats 4000000 in
set_option maxRecDepth 100000 in
theorem c_X5_isFull (l : Launch) (D : va_G) (cI cC cB cS : ClassId) (x : Nat → Nat) (L : Nat) (tk : Nat) (ts : Nat) (te : Nat) (f : Nat → Int32) (hL : L ≤ 120) : Met l yX5_isFull wsX5_isFull ({ frames := 0, cells := 0, slots := 0, locals := 0 } : Room) (rdPc D (TYS cI cC cB cS) [.ref (x 0)] (wXk cC x L tk ts te f)) (vp_Si (fun r => Yes (L = 120) r)) 0 0 (fun _ => False) := by
  refine rd_intro (by decide) rfl (Nat.le_of_ble_eq_true rfl) ?_
  intro p e s m below meth c hx hb hr hml hts hown hlocks hP hK ls hl
  have hP : va_P D vwCl [(x 0, oE 5 [.int (nI L), .ref (x 1), .int (nI tk), .int (nI ts), .int (nI te)]), (x 1, iE cC 120 (f))] s.heap := hP
  have hown : s.vm.findClass RX5 = some m.cls := hown
  have hl : lv_has ls 1 [(0, .ref (x 0))] := hl
  refine lv_aload_n hx hb dX5_isFull_0 rfl (lv_at hl 0 rfl) ?_
  refine va_get (D := D) (ci := 5) (v := .int (nI L)) (C := RX5) (T := TX5) (N := 5) hx hb hts (by decide +kernel) hown hK.1 hP 0 rfl rfl 0 (by decide) (hts (.fieldLink RX5 9 "ParkingGarage$Text" "length" "I") (by decide +kernel)) (fun _ h9 => h9) rfl dX5_isFull_1 ?_
  refine lv_bipush (v := 120) hx hb dX5_isFull_4 (by decide) ?_
  refine lv_icmp_lt (tgt := 13) hx hb dX5_isFull_6 (by decide) (fun c_1 => ?_) (fun c_1 => ?_)
  · -- c_1: nI L < 120
    refine lv_iconst (v := 0) hx hb dX5_isFull_13 (by decide) ?_
    exact rd_zret (v := 0) hx hb hr hlocks dX5_isFull_14 (by decide) (Or.inr ⟨rfl, fun q => by rw [q] at c_1; exact absurd c_1 (by decide)⟩)
  · -- c_1: not nI L < 120
    refine lv_iconst (v := 1) hx hb dX5_isFull_9 (by decide) ?_
    refine lv_goto (tgt := 14) hx hb dX5_isFull_10 (by decide) ?_
    exact rd_zret (v := 1) hx hb hr hlocks dX5_isFull_14 (by decide) (Or.inl ⟨rfl, by have := (nI_leI (by omega) (by omega)).mp (show nI 120 ≤ nI L from Int32.not_lt.mp c_1); omega⟩)
set_option maxHeartbeats 4000000 in
set_option maxRecDepth 100000 in
theorem c_X5_characterAt (l : Launch) (D : va_G) (cI cC cB cS : ClassId) (x : Nat → Nat) (L : Nat) (tk : Nat) (ts : Nat) (te : Nat) (f : Nat → Int32) (k : Nat) (hL : L ≤ 120) (hch : Chr f) (hk2 : k < 1000) : Met l yX5_characterAt wsX5_characterAt ({ frames := 0, cells := 0, slots := 0, locals := 0 } : Room) (rdPc D (TYS cI cC cB cS) [.ref (x 0), .int (nI k)] (wXk cC x L tk ts te f)) (vp_Si (fun r => r = if k < L then f k else 32)) 0 0 (fun _ => False) := by
  refine rd_intro (by decide) rfl (Nat.le_of_ble_eq_true rfl) ?_
  intro p e s m below meth c hx hb hr hml hts hown hlocks hP hK ls hl
  have hP : va_P D vwCl [(x 0, oE 5 [.int (nI L), .ref (x 1), .int (nI tk), .int (nI ts), .int (nI te)]), (x 1, iE cC 120 (f))] s.heap := hP
  have hown : s.vm.findClass RX5 = some m.cls := hown
  have hl : lv_has ls 2 [(0, .ref (x 0)), (1, .int (nI k))] := hl
  refine lv_iload_n hx hb dX5_characterAt_0 rfl (lv_at hl 1 rfl) ?_
  refine lv_if_lt (tgt := 27) hx hb dX5_characterAt_1 (by decide) (fun c_1 => ?_) (fun c_1 => ?_)
  · -- c_1: nI k < 0
    refine lv_bipush (v := 32) hx hb dX5_characterAt_27 (by decide) ?_
    exact rd_zret (v := 32) hx hb hr hlocks dX5_characterAt_29 (by decide) (absurd c_1 (nI_pos (by omega)))
  · -- c_1: not nI k < 0
    refine lv_iload_n hx hb dX5_characterAt_4 rfl (lv_at hl 1 rfl) ?_
    refine lv_aload_n hx hb dX5_characterAt_5 rfl (lv_at hl 0 rfl) ?_
    refine va_get (D := D) (ci := 5) (v := .int (nI L)) (C := RX5) (T := TX5) (N := 5) hx hb hts (by decide +kernel) hown hK.1 hP 0 rfl rfl 0 (by decide) (hts (.fieldLink RX5 9 "ParkingGarage$Text" "length" "I") (by decide +kernel)) (fun _ h9 => h9) rfl dX5_characterAt_6 ?_
    refine lv_icmp_ge (tgt := 27) hx hb dX5_characterAt_9 (by decide) (fun c_2 => ?_) (fun c_2 => ?_)
    · -- c_2: nI k ≥ nI L
      refine lv_bipush (v := 32) hx hb dX5_characterAt_27 (by decide) ?_
      exact rd_zret (v := 32) hx hb hr hlocks dX5_characterAt_29 (by decide) ((if_neg (fun q => absurd (nI_lt q (by omega)) (Int32.not_lt.mpr c_2))).symm)
    · -- c_2: not nI k ≥ nI L
      have hkL : k < L := by
        rcases Nat.lt_or_ge k L with q | q
        · exact q
        · exact absurd (nI_le q (by omega)) c_2
      refine lv_iload_n hx hb dX5_characterAt_12 rfl (lv_at hl 1 rfl) ?_
      refine lv_bipush (v := 120) hx hb dX5_characterAt_13 (by decide) ?_
      refine lv_icmp_ge (tgt := 27) hx hb dX5_characterAt_15 (by decide) (fun c_3 => ?_) (fun c_3 => ?_)
      · -- c_3: nI k ≥ 120
        refine lv_bipush (v := 32) hx hb dX5_characterAt_27 (by decide) ?_
        exact rd_zret (v := 32) hx hb hr hlocks dX5_characterAt_29 (by decide) ((if_neg (fun q => absurd (nI_lt (show k < 120 by omega) (by omega)) (Int32.not_lt.mpr c_3))).symm)
      · -- c_3: not nI k ≥ 120
        refine lv_aload_n hx hb dX5_characterAt_18 rfl (lv_at hl 0 rfl) ?_
        refine va_get (D := D) (ci := 5) (v := .ref (x 1)) (C := RX5) (T := TX5) (N := 5) hx hb hts (by decide +kernel) hown hK.1 hP 0 rfl rfl 1 (by decide) (hts (.fieldLink RX5 15 "ParkingGarage$Text" "characters" "[C") (by decide +kernel)) (fun _ h9 => h9) rfl dX5_characterAt_19 ?_
        refine lv_iload_n hx hb dX5_characterAt_22 rfl (lv_at hl 1 rfl) ?_
        refine cald_n (f := f) hx hb hK.1 hP 1 1 rfl rfl (k) (rfl) (by omega) (by omega) dX5_characterAt_23 ?_
        refine lv_goto (tgt := 29) hx hb dX5_characterAt_24 (by decide) ?_
        exact rd_zret (v := f (k)) hx hb hr hlocks dX5_characterAt_29 (chr_nar (hch k (by omega))) ((if_pos hkL).symm)
set_option maxHeartbeats 4000000 in
set_option maxRecDepth 100000 in
theorem c_X5_behindRun (l : Launch) (D : va_G) (cI cC cB cS : ClassId) (x : Nat → Nat) (L : Nat) (tk : Nat) (ts : Nat) (te : Nat) (f : Nat → Int32) (k : Nat) (lb : Int32) (ub : Int32) (hL : L ≤ 120) (hkL : k ≤ L) : Met l yX5_behindRun wsX5_behindRun ({ frames := 1, cells := 0, slots := 0, locals := 21 } : Room) (rdPc D (TYS cI cC cB cS) [.ref (x 0), .int (nI k), .int (lb), .int (ub)] (wXk cC x L tk ts te f)) (vp_Si (fun r => ∃ j, Beh f L lb ub k j ∧ r = nI j)) 0 0 (fun _ => False) := by
  refine rd_intro (by decide) rfl (Nat.le_of_ble_eq_true rfl) ?_
  intro p e s m below meth c hx hb hr hml hts hown hlocks hP hK ls hl
  have hP : va_P D vwCl [(x 0, oE 5 [.int (nI L), .ref (x 1), .int (nI tk), .int (nI ts), .int (nI te)]), (x 1, iE cC 120 (f))] s.heap := hP
  have hown : s.vm.findClass RX5 = some m.cls := hown
  have hl : lv_has ls 5 [(0, .ref (x 0)), (1, .int (nI k)), (2, .int (lb)), (3, .int (ub))] := hl
  refine lv_iload_n hx hb dX5_behindRun_0 rfl (lv_at hl 1 rfl) ?_
  refine lv_iconst (v := 0) hx hb dX5_behindRun_1 (by decide) ?_
  refine va_mmax hx hb (hml.trans hl.1.symm) hown (hts (.methodLink RX5 149 Lib.Math.max.name) (by decide +kernel)) (hts (.static Lib.Math.max.name) (by decide +kernel)) (hts (.initialized "java/lang/Math") (by decide +kernel)) (hts (.code Lib.Math.max.name Lib.Math.max.code 2 (some .int)) (by decide +kernel)) (Nat.le_of_ble_eq_true rfl) (Nat.le_of_ble_eq_true rfl) (Nat.le_of_ble_eq_true rfl) (Nat.le_of_ble_eq_true rfl) dX5_behindRun_2 ?_
  rw [show ((if nI k < 0 then 0 else nI k) : Int32) = nI k from if_neg (nI_pos (by omega))]
  refine lv_istore (lv' := [(4, .int (nI k)), (0, .ref (x 0)), (1, .int (nI k)), (2, .int (lb)), (3, .int (ub))]) hx hb dX5_behindRun_5 hl (by decide) rfl (fun ls hl => ?_)
  have hloop : ∀ (d i : Nat), i ≤ L → L - i < d → (k ≤ i) → (∀ q, k ≤ q → q < i → q < L ∧ lb ≤ f q ∧ f q ≤ ub) → ∀ ls : Array Slot, lv_has ls 5 [(4, .int (nI i)), (0, .ref (x 0)), (1, .int (nI k)), (2, .int (lb)), (3, .int (ub))] → W p l e ({ frames := 1, cells := 0, slots := 0, locals := 21 } : Room) s m (([.ref (x 0), .int (nI k), .int (lb), .int (ub)] : List Value).toArray) below meth c s.heap [] 0 0 (MQ below (vp_Si (fun r => ∃ j, Beh f L lb ub k j ∧ r = nI j)) (([.ref (x 0), .int (nI k), .int (lb), .int (ub)] : List Value).toArray) s 0 0 (fun _ => False)) (F0 m 7 ls []) := by
    intro d
    induction d with
    | zero => intro i _ h2; exact absurd h2 (Nat.not_lt_zero _)
    | succ d ih =>
      intro i hi hd hki hr2 ls hl
      refine lv_iload hx hb dX5_behindRun_7 (lv_at hl 0 rfl) ?_
      refine lv_aload_n hx hb dX5_behindRun_9 rfl (lv_at hl 1 rfl) ?_
      refine va_get (D := D) (ci := 5) (v := .int (nI L)) (C := RX5) (T := TX5) (N := 5) hx hb hts (by decide +kernel) hown hK.1 hP 0 rfl rfl 0 (by decide) (hts (.fieldLink RX5 9 "ParkingGarage$Text" "length" "I") (by decide +kernel)) (fun _ h9 => h9) rfl dX5_behindRun_10 ?_
      refine lv_icmp_ge (tgt := 51) hx hb dX5_behindRun_13 (by decide) (fun c_1 => ?_) (fun c_1 => ?_)
      · -- c_1: nI i ≥ nI L
        have hge : i = L := nI_geD (n := L) rfl hi (by omega) c_1
        refine lv_iload hx hb dX5_behindRun_51 (lv_at hl 0 rfl) ?_
        exact rd_iret (v := nI i) hx hb hr hlocks dX5_behindRun_53 (⟨i, ⟨hr2, hki, fun q => absurd q.1 (by omega)⟩, rfl⟩)
      · -- c_1: not nI i ≥ nI L
        have hlt : i < L := nI_ltD (n := L) rfl hi (by omega) c_1
        refine lv_iload hx hb dX5_behindRun_16 (lv_at hl 0 rfl) ?_
        refine lv_bipush (v := 120) hx hb dX5_behindRun_18 (by decide) ?_
        refine lv_icmp_ge (tgt := 51) hx hb dX5_behindRun_20 (by decide) (fun c_2 => ?_) (fun c_2 => ?_)
        · -- c_2: nI i ≥ 120
          exact absurd (nI_lt (show i < 120 by omega) (by omega)) (Int32.not_lt.mpr c_2)
        · -- c_2: not nI i ≥ 120
          refine lv_aload_n hx hb dX5_behindRun_23 rfl (lv_at hl 1 rfl) ?_
          refine va_get (D := D) (ci := 5) (v := .ref (x 1)) (C := RX5) (T := TX5) (N := 5) hx hb hts (by decide +kernel) hown hK.1 hP 0 rfl rfl 1 (by decide) (hts (.fieldLink RX5 15 "ParkingGarage$Text" "characters" "[C") (by decide +kernel)) (fun _ h9 => h9) rfl dX5_behindRun_24 ?_
          refine lv_iload hx hb dX5_behindRun_27 (lv_at hl 0 rfl) ?_
          refine cald_n (f := f) hx hb hK.1 hP 1 1 rfl rfl (i) (rfl) (by omega) (by omega) dX5_behindRun_29 ?_
          refine lv_iload_n hx hb dX5_behindRun_30 rfl (lv_at hl 3 rfl) ?_
          refine lv_icmp_lt (tgt := 51) hx hb dX5_behindRun_31 (by decide) (fun c_3 => ?_) (fun c_3 => ?_)
          · -- c_3: f (i) < lb
            refine lv_iload hx hb dX5_behindRun_51 (lv_at hl 0 rfl) ?_
            exact rd_iret (v := nI i) hx hb hr hlocks dX5_behindRun_53 (⟨i, ⟨hr2, hki, fun q => Int32.not_lt.mpr q.2.1 c_3⟩, rfl⟩)
          · -- c_3: not f (i) < lb
            refine lv_aload_n hx hb dX5_behindRun_34 rfl (lv_at hl 1 rfl) ?_
            refine va_get (D := D) (ci := 5) (v := .ref (x 1)) (C := RX5) (T := TX5) (N := 5) hx hb hts (by decide +kernel) hown hK.1 hP 0 rfl rfl 1 (by decide) (hts (.fieldLink RX5 15 "ParkingGarage$Text" "characters" "[C") (by decide +kernel)) (fun _ h9 => h9) rfl dX5_behindRun_35 ?_
            refine lv_iload hx hb dX5_behindRun_38 (lv_at hl 0 rfl) ?_
            refine cald_n (f := f) hx hb hK.1 hP 1 1 rfl rfl (i) (rfl) (by omega) (by omega) dX5_behindRun_40 ?_
            refine lv_iload_n hx hb dX5_behindRun_41 rfl (lv_at hl 4 rfl) ?_
            refine lv_icmp_gt (tgt := 51) hx hb dX5_behindRun_42 (by decide) (fun c_4 => ?_) (fun c_4 => ?_)
            · -- c_4: f (i) > ub
              refine lv_iload hx hb dX5_behindRun_51 (lv_at hl 0 rfl) ?_
              exact rd_iret (v := nI i) hx hb hr hlocks dX5_behindRun_53 (⟨i, ⟨hr2, hki, fun q => Int32.not_lt.mpr q.2.2 c_4⟩, rfl⟩)
            · -- c_4: not f (i) > ub
              refine lv_iinc (v := nI (i + 1)) (lv' := [(4, .int (nI (i + 1))), (0, .ref (x 0)), (1, .int (nI k)), (2, .int (lb)), (3, .int (ub))]) hx hb dX5_behindRun_45 hl (k := 0) rfl (nI_1 _) (by decide) rfl (fun ls hl => ?_)
              refine lv_goto (tgt := 7) hx hb dX5_behindRun_48 (by decide) ?_
              exact ih (i + 1) (by omega) (by omega) (by omega) (by
      intro q h1 h2
      rcases Nat.lt_or_ge q i with z | z
      · exact hr2 q h1 z
      · have e9 : q = i := by omega
        subst e9
        exact ⟨hlt, Int32.not_lt.mp c_3, Int32.not_lt.mp c_4⟩) ls (lv_sub hl [0, 1, 2, 3, 4] rfl)
  exact hloop (L + 1) k (by omega) (by omega) (Nat.le_refl k) (fun q h1 h2 => absurd h1 (by omega)) ls (lv_sub hl [0, 1, 2, 3, 4] rfl)
set_option maxHeartbeats 4000000 in
set_option maxRecDepth 100000 in
theorem c_X5_tokenValue (l : Launch) (D : va_G) (cI cC cB cS : ClassId) (x : Nat → Nat) (L : Nat) (tk : Nat) (ts : Nat) (te : Nat) (f : Nat → Int32) (hL : L ≤ 120) (hch : Chr f) (hse : ts ≤ te) (hte : te ≤ L) (hdg : ∀ i, ts ≤ i → i < te → isD (f i)) : Met l yX5_tokenValue wsX5_tokenValue ({ frames := 1, cells := 0, slots := 0, locals := 21 } : Room) (rdPc D (TYS cI cC cB cS) [.ref (x 0)] (wXk cC x L tk ts te f)) (vp_Si (fun r => ∃ w, r = nI w ∧ w < 100000000 ∧ (w = dV f ts (te - ts) ∨ (1000000 ≤ w ∧ 1000000 ≤ dV f ts (te - ts))))) 0 0 (fun _ => False) := by
  refine rd_intro (by decide) rfl (Nat.le_of_ble_eq_true rfl) ?_
  intro p e s m below meth c hx hb hr hml hts hown hlocks hP hK ls hl
  have hP : va_P D vwCl [(x 0, oE 5 [.int (nI L), .ref (x 1), .int (nI tk), .int (nI ts), .int (nI te)]), (x 1, iE cC 120 (f))] s.heap := hP
  have hown : s.vm.findClass RX5 = some m.cls := hown
  have hl : lv_has ls 3 [(0, .ref (x 0))] := hl
  refine lv_iconst (v := 0) hx hb dX5_tokenValue_0 (by decide) ?_
  refine lv_istore_n (lv' := [(1, .int (0)), (0, .ref (x 0))]) hx hb dX5_tokenValue_1 rfl hl (by decide) rfl (fun ls hl => ?_)
  refine lv_aload_n hx hb dX5_tokenValue_2 rfl (lv_at hl 1 rfl) ?_
  refine va_get (D := D) (ci := 5) (v := .int (nI ts)) (C := RX5) (T := TX5) (N := 5) hx hb hts (by decide +kernel) hown hK.1 hP 0 rfl rfl 3 (by decide) (hts (.fieldLink RX5 22 "ParkingGarage$Text" "tokenStart" "I") (by decide +kernel)) (fun _ h9 => h9) rfl dX5_tokenValue_3 ?_
  refine lv_istore_n (lv' := [(2, .int (nI ts)), (1, .int (0)), (0, .ref (x 0))]) hx hb dX5_tokenValue_6 rfl hl (by decide) rfl (fun ls hl => ?_)
  have hloop : ∀ (d i : Nat) (z : Nat), i ≤ te → te - i < d → (ts ≤ i) → (z = dV f ts (i - ts)) → (z < 10000000) → ∀ ls : Array Slot, lv_has ls 3 [(1, .int (nI z)), (2, .int (nI i)), (0, .ref (x 0))] → W p l e ({ frames := 1, cells := 0, slots := 0, locals := 21 } : Room) s m (([.ref (x 0)] : List Value).toArray) below meth c s.heap [] 0 0 (MQ below (vp_Si (fun r => ∃ w, r = nI w ∧ w < 100000000 ∧ (w = dV f ts (te - ts) ∨ (1000000 ≤ w ∧ 1000000 ≤ dV f ts (te - ts))))) (([.ref (x 0)] : List Value).toArray) s 0 0 (fun _ => False)) (F0 m 7 ls []) := by
    intro d
    induction d with
    | zero => intro i _ _ h2; exact absurd h2 (Nat.not_lt_zero _)
    | succ d ih =>
      intro i z hi hd hsi hz hz2 ls hl
      refine lv_iload_n hx hb dX5_tokenValue_7 rfl (lv_at hl 1 rfl) ?_
      refine lv_aload_n hx hb dX5_tokenValue_8 rfl (lv_at hl 2 rfl) ?_
      refine va_get (D := D) (ci := 5) (v := .int (nI te)) (C := RX5) (T := TX5) (N := 5) hx hb hts (by decide +kernel) hown hK.1 hP 0 rfl rfl 4 (by decide) (hts (.fieldLink RX5 25 "ParkingGarage$Text" "tokenEnd" "I") (by decide +kernel)) (fun _ h9 => h9) rfl dX5_tokenValue_9 ?_
      refine lv_icmp_ge (tgt := 41) hx hb dX5_tokenValue_12 (by decide) (fun c_1 => ?_) (fun c_1 => ?_)
      · -- c_1: nI i ≥ nI te
        have hge : i = te := nI_geD (n := te) rfl hi (by omega) c_1
        refine lv_iload_n hx hb dX5_tokenValue_41 rfl (lv_at hl 0 rfl) ?_
        exact rd_iret (v := nI z) hx hb hr hlocks dX5_tokenValue_42 (⟨z, rfl, by omega, Or.inl (by rw [hz, hge])⟩)
      · -- c_1: not nI i ≥ nI te
        have hlt : i < te := nI_ltD (n := te) rfl hi (by omega) c_1
        refine lv_iload_n hx hb dX5_tokenValue_15 rfl (lv_at hl 0 rfl) ?_
        refine lv_ldc (v := 1000000) hx hb hown (hts (.constant RX5 137 1000000) (by decide +kernel)) dX5_tokenValue_16 ?_
        refine lv_icmp_ge (tgt := 41) hx hb dX5_tokenValue_18 (by decide) (fun c_2 => ?_) (fun c_2 => ?_)
        · -- c_2: nI z ≥ 1000000
          have hbig : 1000000 ≤ z := (nI_leI (by omega) (by omega)).mp (show nI 1000000 ≤ nI z from c_2)
          refine lv_iload_n hx hb dX5_tokenValue_41 rfl (lv_at hl 0 rfl) ?_
          exact rd_iret (v := nI z) hx hb hr hlocks dX5_tokenValue_42 (⟨z, rfl, by omega, Or.inr ⟨hbig, Nat.le_trans hbig (by rw [hz]; exact dV_mono (by omega))⟩⟩)
        · -- c_2: not nI z ≥ 1000000
          have hsm : z < 1000000 := by
            rcases Nat.lt_or_ge z 1000000 with q | q
            · exact q
            · exact absurd (nI_le q (by omega)) c_2
          refine lv_iload_n hx hb dX5_tokenValue_21 rfl (lv_at hl 0 rfl) ?_
          refine lv_bipush (v := 10) hx hb dX5_tokenValue_22 (by decide) ?_
          refine lv_imul hx hb dX5_tokenValue_24 ?_
          refine lv_aload_n hx hb dX5_tokenValue_25 rfl (lv_at hl 2 rfl) ?_
          refine lv_iload_n hx hb dX5_tokenValue_26 rfl (lv_at hl 1 rfl) ?_
          refine cv_i (As := [.int (nI i)]) (rest := [.int ((nI z) * (10))]) (tys := TYS cI cC cB cS) (ci := 5) ⟨hx, hb, hml, hown, hts⟩ (c_X5_characterAt l D cI cC cB cS (x) (L) (tk) (ts) (te) (f) (i) (hL) (hch) (by omega)) (cwV 1 hts gX5_tokenValue_X5_characterAt rfl rfl rfl (by decide +kernel) ⟨Nat.le_of_ble_eq_true rfl, Nat.le_of_ble_eq_true rfl⟩) hK hP [0, 1] rfl rfl rfl rfl rfl hl.1 (Nat.le_of_ble_eq_true rfl) dX5_tokenValue_27 ⟨Nat.le_of_ble_eq_true rfl, Nat.le_of_ble_eq_true rfl⟩ (fun r_3 hr_3 => ?_)
          have hr_3 : r_3 = if i < L then f i else 32 := hr_3
          rw [if_pos (by omega)] at hr_3
          obtain ⟨w1, hw1, hw2, hw3⟩ := digit_step hsi hz (hdg i hsi hlt) hsm
          rw [hr_3]
          refine lv_bipush (v := 48) hx hb dX5_tokenValue_30 (by decide) ?_
          refine lv_isub hx hb dX5_tokenValue_32 ?_
          refine lv_iadd hx hb dX5_tokenValue_33 ?_
          rw [show ((((nI z) * (10)) + ((f i) - (48))) : Int32) = nI w1 from hw1]
          refine lv_istore_n (lv' := [(1, .int (nI w1)), (2, .int (nI i)), (0, .ref (x 0))]) hx hb dX5_tokenValue_34 rfl hl (by decide) rfl (fun ls hl => ?_)
          refine lv_iinc (v := nI (i + 1)) (lv' := [(2, .int (nI (i + 1))), (1, .int (nI w1)), (0, .ref (x 0))]) hx hb dX5_tokenValue_35 hl (k := 1) rfl (nI_1 _) (by decide) rfl (fun ls hl => ?_)
          refine lv_goto (tgt := 7) hx hb dX5_tokenValue_38 (by decide) ?_
          exact ih (i + 1) (w1) (by omega) (by omega) (by omega) (hw2) (hw3) ls (lv_sub hl [1, 0, 2] rfl)
  exact hloop (te + 1) ts (0) (by omega) (by omega) (Nat.le_refl ts) (by rw [Nat.sub_self]; rfl) (by omega) ls (lv_sub hl [1, 0, 2] rfl)
set_option maxHeartbeats 4000000 in
set_option maxRecDepth 100000 in
theorem c_X5_isWord (l : Launch) (D : va_G) (cI cC cB cS : ClassId) (tL tG : Nat) (aK aV : Nat → Nat) (x : Nat → Nat) (L : Nat) (tk : Nat) (ts : Nat) (te : Nat) (f : Nat → Int32) (j : Nat) (hL : L ≤ 120) (hch : Chr f) (hse : ts ≤ te) (hte : te ≤ L) (hj : j < 9) (htk : tk < 10) : Met l yX5_isWord wsX5_isWord ({ frames := 4, cells := 0, slots := 0, locals := 85 } : Room) (zdPc D (TYS cI cC cB cS) [.ref (x 0), .ref (aK j)] (wXk cC x L tk ts te f) tL tG aK aV) (vp_Si (fun r => Yes (Wrd f tk ts te j) r)) 0 0 (fun _ => False) := by
  refine zd_intro (by decide) rfl (Nat.le_of_ble_eq_true rfl) ?_
  intro p e s m below meth c hx hb hr hml hts hown hlocks hP hK hZ ls hl
  have hS : va_S (fun _ => False) s.heap s.heap [] := va_S.rf
  have hP : va_P D vwCl [(x 0, oE 5 [.int (nI L), .ref (x 1), .int (nI tk), .int (nI ts), .int (nI te)]), (x 1, iE cC 120 (f))] s.heap := hP
  have hown : s.vm.findClass RX5 = some m.cls := hown
  have hl : lv_has ls 3 [(0, .ref (x 0)), (1, .ref (aK j))] := hl
  have h9 := zN_lt j hj
  refine lv_aload_n hx hb dX5_isWord_0 rfl (lv_at hl 0 rfl) ?_
  refine va_get (D := D) (ci := 5) (v := .int (nI tk)) (C := RX5) (T := TX5) (N := 5) hx hb hts (by decide +kernel) hown hK.1 hP 0 rfl rfl 2 (by decide) (hts (.fieldLink RX5 19 "ParkingGarage$Text" "tokenKind" "I") (by decide +kernel)) (fun _ h9 => h9) rfl dX5_isWord_1 ?_
  refine lv_iconst (v := 1) hx hb dX5_isWord_4 (by decide) ?_
  refine lv_icmp_ne (tgt := 24) hx hb dX5_isWord_5 (by decide) (fun c_1 => ?_) (fun c_1 => ?_)
  · -- c_1: nI tk ≠ 1
    refine lv_iconst (v := 0) hx hb dX5_isWord_24 (by decide) ?_
    exact rd_zret (v := 0) hx hb hr hlocks dX5_isWord_25 (by decide) (Or.inr ⟨rfl, fun q => c_1 (by rw [q.1]; rfl)⟩)
  · -- c_1: not nI tk ≠ 1
    have hk1 : tk = 1 := (nI_eq (b := 1) (by omega) (by omega)).mp c_1
    refine lv_aload_n hx hb dX5_isWord_8 rfl (lv_at hl 0 rfl) ?_
    refine va_get (D := D) (ci := 5) (v := .int (nI te)) (C := RX5) (T := TX5) (N := 5) hx hb hts (by decide +kernel) hown hK.1 hP 0 rfl rfl 4 (by decide) (hts (.fieldLink RX5 25 "ParkingGarage$Text" "tokenEnd" "I") (by decide +kernel)) (fun _ h9 => h9) rfl dX5_isWord_9 ?_
    refine lv_aload_n hx hb dX5_isWord_12 rfl (lv_at hl 0 rfl) ?_
    refine va_get (D := D) (ci := 5) (v := .int (nI ts)) (C := RX5) (T := TX5) (N := 5) hx hb hts (by decide +kernel) hown hK.1 hP 0 rfl rfl 3 (by decide) (hts (.fieldLink RX5 22 "ParkingGarage$Text" "tokenStart" "I") (by decide +kernel)) (fun _ h9 => h9) rfl dX5_isWord_13 ?_
    refine lv_isub hx hb dX5_isWord_16 ?_
    rw [show (((nI te) - (nI ts)) : Int32) = nI (te - ts) from (pk_subn (by omega))]
    refine lv_aload_n hx hb dX5_isWord_17 rfl (lv_at hl 1 rfl) ?_
    refine cz_o (As := []) (rest := [.int (nI (te - ts))]) (tys := TYS cI cC cB cS) ⟨hx, hb, hml, hown, hts⟩ (c_J0_length l D cI cC cB cS tL tG aK aV j hj) (cwV 0 hts gX5_isWord_J0_length_8abf5 rfl rfl rfl (by decide +kernel) ⟨Nat.le_of_ble_eq_true rfl, Nat.le_of_ble_eq_true rfl⟩) hK hP hZ hS [] rfl (vk_recv hZ.2.2.2.2.2.2.1 hj hS) rfl rfl hl.1 (Nat.le_of_ble_eq_true rfl) dX5_isWord_18 ⟨Nat.le_of_ble_eq_true rfl, Nat.le_of_ble_eq_true rfl⟩ (fun r_2 hr_2 => ?_)
    have hr_2 : r_2 = nI (zN j) := hr_2
    rw [hr_2]
    refine lv_icmp_eq (tgt := 26) hx hb dX5_isWord_21 (by decide) (fun c_3 => ?_) (fun c_3 => ?_)
    · -- c_3: nI (te - ts) = nI (zN j)
      have hlen : te - ts = zN j := (nI_eq (by omega) (by have := zN_lt j hj; omega)).mp c_3
      refine lv_iconst (v := 0) hx hb dX5_isWord_26 (by decide) ?_
      refine lv_istore_n (lv' := [(2, .int (0)), (0, .ref (x 0)), (1, .ref (aK j))]) hx hb dX5_isWord_27 rfl hl (by decide) rfl (fun ls hl => ?_)
      have hloop : ∀ (d i : Nat), i ≤ (zN j) → (zN j) - i < d → (∀ q, q < i → f (ts + q) = zB j q) → ∀ ls : Array Slot, lv_has ls 3 [(2, .int (nI i)), (0, .ref (x 0)), (1, .ref (aK j))] → W p l e ({ frames := 4, cells := 0, slots := 0, locals := 85 } : Room) s m (([.ref (x 0), .ref (aK j)] : List Value).toArray) below meth c s.heap [] 0 0 (MQ below (vp_Si (fun r => Yes (Wrd f tk ts te j) r)) (([.ref (x 0), .ref (aK j)] : List Value).toArray) s 0 0 (fun _ => False)) (F0 m 28 ls []) := by
        intro d
        induction d with
        | zero => intro i _ h2; exact absurd h2 (Nat.not_lt_zero _)
        | succ d ih =>
          intro i hi hd hno ls hl
          refine lv_iload_n hx hb dX5_isWord_28 rfl (lv_at hl 0 rfl) ?_
          refine lv_aload_n hx hb dX5_isWord_29 rfl (lv_at hl 2 rfl) ?_
          refine cz_o (As := []) (rest := [.int (nI i)]) (tys := TYS cI cC cB cS) ⟨hx, hb, hml, hown, hts⟩ (c_J0_length l D cI cC cB cS tL tG aK aV j hj) (cwV 0 hts gX5_isWord_J0_length_8abf5 rfl rfl rfl (by decide +kernel) ⟨Nat.le_of_ble_eq_true rfl, Nat.le_of_ble_eq_true rfl⟩) hK hP hZ hS [] rfl (vk_recv hZ.2.2.2.2.2.2.1 hj hS) rfl rfl hl.1 (Nat.le_of_ble_eq_true rfl) dX5_isWord_30 ⟨Nat.le_of_ble_eq_true rfl, Nat.le_of_ble_eq_true rfl⟩ (fun r_4 hr_4 => ?_)
          have hr_4 : r_4 = nI (zN j) := hr_4
          rw [hr_4]
          refine lv_icmp_ge (tgt := 62) hx hb dX5_isWord_33 (by decide) (fun c_5 => ?_) (fun c_5 => ?_)
          · -- c_5: nI i ≥ nI (zN j)
            have hge : i = zN j := nI_geD (n := zN j) rfl hi (by have := zN_lt j hj; omega) c_5
            refine lv_iconst (v := 1) hx hb dX5_isWord_62 (by decide) ?_
            exact rd_zret (v := 1) hx hb hr hlocks dX5_isWord_63 (by decide) (Or.inl ⟨rfl, hk1, hlen, fun q hq => hno q (by omega)⟩)
          · -- c_5: not nI i ≥ nI (zN j)
            have hlt : i < zN j := nI_ltD (n := zN j) rfl hi (by have := zN_lt j hj; omega) c_5
            refine lv_aload_n hx hb dX5_isWord_36 rfl (lv_at hl 1 rfl) ?_
            refine lv_aload_n hx hb dX5_isWord_37 rfl (lv_at hl 1 rfl) ?_
            refine va_get (D := D) (ci := 5) (v := .int (nI ts)) (C := RX5) (T := TX5) (N := 5) hx hb hts (by decide +kernel) hown hK.1 hP 0 rfl rfl 3 (by decide) (hts (.fieldLink RX5 22 "ParkingGarage$Text" "tokenStart" "I") (by decide +kernel)) (fun _ h9 => h9) rfl dX5_isWord_38 ?_
            refine lv_iload_n hx hb dX5_isWord_41 rfl (lv_at hl 0 rfl) ?_
            refine lv_iadd hx hb dX5_isWord_42 ?_
            rw [show (((nI ts) + (nI i)) : Int32) = nI (ts + i) from (nI_add _ _)]
            refine cv_i (As := [.int (nI (ts + i))]) (rest := []) (tys := TYS cI cC cB cS) (ci := 5) ⟨hx, hb, hml, hown, hts⟩ (c_X5_characterAt l D cI cC cB cS (x) (L) (tk) (ts) (te) (f) (ts + i) (hL) (hch) (by omega)) (cwV 1 hts gX5_isWord_X5_characterAt rfl rfl rfl (by decide +kernel) ⟨Nat.le_of_ble_eq_true rfl, Nat.le_of_ble_eq_true rfl⟩) hK hP [0, 1] rfl rfl rfl rfl rfl hl.1 (Nat.le_of_ble_eq_true rfl) dX5_isWord_43 ⟨Nat.le_of_ble_eq_true rfl, Nat.le_of_ble_eq_true rfl⟩ (fun r_6 hr_6 => ?_)
            have hr_6 : r_6 = if (ts + i) < L then f (ts + i) else 32 := hr_6
            rw [if_pos (by omega)] at hr_6
            rw [hr_6]
            refine lv_aload_n hx hb dX5_isWord_46 rfl (lv_at hl 2 rfl) ?_
            refine lv_iload_n hx hb dX5_isWord_47 rfl (lv_at hl 0 rfl) ?_
            refine cz_o (As := [.int (nI i)]) (rest := [.int (f (ts + i))]) (tys := TYS cI cC cB cS) ⟨hx, hb, hml, hown, hts⟩ (c_J0_charAt l D cI cC cB cS tL tG aK aV j (i) hj (hlt)) (cwV 1 hts gX5_isWord_J0_charAt_5068e rfl rfl rfl (by decide +kernel) ⟨Nat.le_of_ble_eq_true rfl, Nat.le_of_ble_eq_true rfl⟩) hK hP hZ hS [] rfl (vk_recv hZ.2.2.2.2.2.2.1 hj hS) rfl rfl hl.1 (Nat.le_of_ble_eq_true rfl) dX5_isWord_48 ⟨Nat.le_of_ble_eq_true rfl, Nat.le_of_ble_eq_true rfl⟩ (fun r_7 hr_7 => ?_)
            have hr_7 : r_7 = zB j (i) := hr_7
            rw [hr_7]
            refine lv_icmp_eq (tgt := 56) hx hb dX5_isWord_51 (by decide) (fun c_8 => ?_) (fun c_8 => ?_)
            · -- c_8: f (ts + i) = zB j (i)
              refine lv_iinc (v := nI (i + 1)) (lv' := [(2, .int (nI (i + 1))), (0, .ref (x 0)), (1, .ref (aK j))]) hx hb dX5_isWord_56 hl (k := 0) rfl (nI_1 _) (by decide) rfl (fun ls hl => ?_)
              refine lv_goto (tgt := 28) hx hb dX5_isWord_59 (by decide) ?_
              exact ih (i + 1) (by omega) (by omega) (all_s hno c_8) ls (lv_sub hl [0, 1, 2] rfl)
            · -- c_8: not f (ts + i) = zB j (i)
              refine lv_iconst (v := 0) hx hb dX5_isWord_54 (by decide) ?_
              exact rd_zret (v := 0) hx hb hr hlocks dX5_isWord_55 (by decide) (Or.inr ⟨rfl, fun q => c_8 (q.2.2 i hlt)⟩)
      exact hloop ((zN j) + 1) 0 (by omega) (by omega) (fun q h => absurd h (Nat.not_lt_zero q)) ls (lv_sub hl [0, 1, 2] rfl)
    · -- c_3: not nI (te - ts) = nI (zN j)
      refine lv_iconst (v := 0) hx hb dX5_isWord_24 (by decide) ?_
      exact rd_zret (v := 0) hx hb hr hlocks dX5_isWord_25 (by decide) (Or.inr ⟨rfl, fun q => c_3 (by rw [q.2.1])⟩)
set_option maxHeartbeats 4000000 in
set_option maxRecDepth 100000 in
theorem c_X5_readToken (l : Launch) (D : va_G) (cI cC cB cS : ClassId) (zz : Nat) (x : Nat → Nat) (L : Nat) (tk : Nat) (ts : Nat) (te : Nat) (f : Nat → Int32) (hL : L ≤ 120) (hch : Chr f) (hte : te ≤ L) : Met l yX5_readToken wsX5_readToken ({ frames := 2, cells := 0, slots := 0, locals := 45 } : Room) (wrPc D (TYS cI cC cB cS) [.ref (x 0)] (wXk cC x L tk ts te f) zz) (va_Qv (fun u : Nat × Nat × Nat => Tok f L te u.1 u.2.1 u.2.2) (wrB D (va_A (wXk cC x L tk ts te f) zz) (fun u => wXk cC x L u.1 u.2.1 u.2.2 f)) (va_A (wXk cC x L tk ts te f) zz)) 0 0 (va_A (wXk cC x L tk ts te f) zz) := by
  refine wr_intro (Qc := fun A B => va_Qv (fun u : Nat × Nat × Nat => Tok f L te u.1 u.2.1 u.2.2) B A) (by decide) rfl (Nat.le_of_ble_eq_true rfl) ?_
  intro p e s m below meth c A hx hb hr hml hts hown hlocks hin hP hK hD hA hS ls hl
  have hP : va_P D vwCl [(x 0, oE 5 [.int (nI L), .ref (x 1), .int (nI tk), .int (nI ts), .int (nI te)]), (x 1, iE cC 120 (f))] s.heap := hP
  have hD : va_D A [(x 0, oE 5 [.int (nI L), .ref (x 1), .int (nI tk), .int (nI ts), .int (nI te)]), (x 1, iE cC 120 (f))] := hD
  have hown : s.vm.findClass RX5 = some m.cls := hown
  have hl : lv_has ls 2 [(0, .ref (x 0))] := hl
  refine lv_aload_n hx hb dX5_readToken_0 rfl (lv_at hl 0 rfl) ?_
  refine lv_aload_n hx hb dX5_readToken_1 rfl (lv_at hl 0 rfl) ?_
  refine lv_aload_n hx hb dX5_readToken_2 rfl (lv_at hl 0 rfl) ?_
  refine va_get (D := D) (ci := 5) (v := .int (nI te)) (C := RX5) (T := TX5) (N := 5) hx hb hts (by decide +kernel) hown hK.1 hP 0 rfl rfl 4 (by decide) (hts (.fieldLink RX5 25 "ParkingGarage$Text" "tokenEnd" "I") (by decide +kernel)) (fun _ h9 => h9) rfl dX5_readToken_3 ?_
  refine lv_bipush (v := 32) hx hb dX5_readToken_6 (by decide) ?_
  refine lv_bipush (v := 32) hx hb dX5_readToken_8 (by decide) ?_
  refine cv_i (As := [.int (nI te), .int (32), .int (32)]) (rest := [.ref (x 0)]) (tys := TYS cI cC cB cS) (ci := 5) ⟨hx, hb, hml, hown, hts⟩ (c_X5_behindRun l D cI cC cB cS (x) (L) (tk) (ts) (te) (f) (te) (32) (32) (hL) (hte)) (cwV 3 hts gX5_readToken_X5_behindRun rfl rfl rfl (by decide +kernel) ⟨Nat.le_of_ble_eq_true rfl, Nat.le_of_ble_eq_true rfl⟩) hK hP [0, 1] rfl rfl rfl rfl rfl hl.1 (Nat.le_of_ble_eq_true rfl) dX5_readToken_10 ⟨Nat.le_of_ble_eq_true rfl, Nat.le_of_ble_eq_true rfl⟩ (fun r_1 hr_1 => ?_)
  have hr_1 : ∃ j, Beh f L 32 32 te j ∧ r_1 = nI j := hr_1
  obtain ⟨j1, hj1, rfl⟩ := hr_1
  have hj1L := hj1.le hte
  refine va_put (D := D) (ci := 5) (v := .int (nI j1)) (ty := .int) (C := RX5) (T := TX5) (N := 5) hx hb hts (by decide +kernel) tyX5 tyX5_ok nmX5 hown hK.1 hP hD hS 0 rfl rfl 3 (by decide) (hts (.fieldLink RX5 22 "ParkingGarage$Text" "tokenStart" "I") (by decide +kernel)) (fun _ h9 => h9) rfl (by decide +kernel) rfl rfl (Nat.le_of_ble_eq_true rfl) dX5_readToken_13 (fun H locs hP hD hS => ?_)
  have hP : va_P D vwCl [(x 0, oE 5 [.int (nI L), .ref (x 1), .int (nI tk), .int (nI j1), .int (nI te)]), (x 1, iE cC 120 (f))] H := hP
  have hD : va_D A [(x 0, oE 5 [.int (nI L), .ref (x 1), .int (nI tk), .int (nI j1), .int (nI te)]), (x 1, iE cC 120 (f))] := hD
  refine lv_aload_n hx hb dX5_readToken_16 rfl (lv_at hl 0 rfl) ?_
  refine va_get (D := D) (ci := 5) (v := .int (nI j1)) (C := RX5) (T := TX5) (N := 5) hx hb hts (by decide +kernel) hown hK.1 hP 0 rfl rfl 3 (by decide) (hts (.fieldLink RX5 22 "ParkingGarage$Text" "tokenStart" "I") (by decide +kernel)) (fun _ h9 => h9) rfl dX5_readToken_17 ?_
  refine lv_aload_n hx hb dX5_readToken_20 rfl (lv_at hl 0 rfl) ?_
  refine va_get (D := D) (ci := 5) (v := .int (nI L)) (C := RX5) (T := TX5) (N := 5) hx hb hts (by decide +kernel) hown hK.1 hP 0 rfl rfl 0 (by decide) (hts (.fieldLink RX5 9 "ParkingGarage$Text" "length" "I") (by decide +kernel)) (fun _ h9 => h9) rfl dX5_readToken_21 ?_
  refine lv_icmp_lt (tgt := 41) hx hb dX5_readToken_24 (by decide) (fun c_2 => ?_) (fun c_2 => ?_)
  · -- c_2: nI j1 < nI L
    have hjlt : j1 < L := (nI_ltI (by omega) (by omega)).mp c_2
    refine lv_aload_n hx hb dX5_readToken_41 rfl (lv_at hl 0 rfl) ?_
    refine lv_aload_n hx hb dX5_readToken_42 rfl (lv_at hl 0 rfl) ?_
    refine va_get (D := D) (ci := 5) (v := .int (nI j1)) (C := RX5) (T := TX5) (N := 5) hx hb hts (by decide +kernel) hown hK.1 hP 0 rfl rfl 3 (by decide) (hts (.fieldLink RX5 22 "ParkingGarage$Text" "tokenStart" "I") (by decide +kernel)) (fun _ h9 => h9) rfl dX5_readToken_43 ?_
    refine cv_i (As := [.int (nI j1)]) (rest := []) (tys := TYS cI cC cB cS) (ci := 5) ⟨hx, hb, hml, hown, hts⟩ (c_X5_characterAt l D cI cC cB cS (x) (L) (tk) (j1) (te) (f) (j1) (hL) (hch) (by omega)) (cwV 1 hts gX5_readToken_X5_characterAt rfl rfl rfl (by decide +kernel) ⟨Nat.le_of_ble_eq_true rfl, Nat.le_of_ble_eq_true rfl⟩) hK hP [0, 1] rfl rfl rfl rfl rfl hl.1 (Nat.le_of_ble_eq_true rfl) dX5_readToken_46 ⟨Nat.le_of_ble_eq_true rfl, Nat.le_of_ble_eq_true rfl⟩ (fun r_3 hr_3 => ?_)
    have hr_3 : r_3 = if j1 < L then f j1 else 32 := hr_3
    rw [if_pos hjlt] at hr_3
    rw [hr_3]
    refine lv_istore_n (lv' := [(1, .int (f j1)), (0, .ref (x 0))]) hx hb dX5_readToken_49 rfl hl (by decide) rfl (fun ls hl => ?_)
    refine lv_iload_n hx hb dX5_readToken_50 rfl (lv_at hl 0 rfl) ?_
    refine lv_bipush (v := 97) hx hb dX5_readToken_51 (by decide) ?_
    refine lv_icmp_lt (tgt := 86) hx hb dX5_readToken_53 (by decide) (fun c_4 => ?_) (fun c_4 => ?_)
    · -- c_4: f j1 < 97
      refine lv_iload_n hx hb dX5_readToken_86 rfl (lv_at hl 0 rfl) ?_
      refine lv_bipush (v := 48) hx hb dX5_readToken_87 (by decide) ?_
      refine lv_icmp_lt (tgt := 122) hx hb dX5_readToken_89 (by decide) (fun c_5 => ?_) (fun c_5 => ?_)
      · -- c_5: f j1 < 48
        refine lv_aload_n hx hb dX5_readToken_122 rfl (lv_at hl 1 rfl) ?_
        refine lv_iconst (v := 3) hx hb dX5_readToken_123 (by decide) ?_
        refine va_put (D := D) (ci := 5) (v := .int (3)) (ty := .int) (C := RX5) (T := TX5) (N := 5) hx hb hts (by decide +kernel) tyX5 tyX5_ok nmX5 hown hK.1 hP hD hS 0 rfl rfl 2 (by decide) (hts (.fieldLink RX5 19 "ParkingGarage$Text" "tokenKind" "I") (by decide +kernel)) (fun _ h9 => h9) rfl (by decide +kernel) rfl rfl (Nat.le_of_ble_eq_true rfl) dX5_readToken_124 (fun H locs hP hD hS => ?_)
        have hP : va_P D vwCl [(x 0, oE 5 [.int (nI L), .ref (x 1), .int (3), .int (nI j1), .int (nI te)]), (x 1, iE cC 120 (f))] H := hP
        have hD : va_D A [(x 0, oE 5 [.int (nI L), .ref (x 1), .int (3), .int (nI j1), .int (nI te)]), (x 1, iE cC 120 (f))] := hD
        refine lv_aload_n hx hb dX5_readToken_127 rfl (lv_at hl 1 rfl) ?_
        refine lv_aload_n hx hb dX5_readToken_128 rfl (lv_at hl 1 rfl) ?_
        refine va_get (D := D) (ci := 5) (v := .int (nI j1)) (C := RX5) (T := TX5) (N := 5) hx hb hts (by decide +kernel) hown hK.1 hP 0 rfl rfl 3 (by decide) (hts (.fieldLink RX5 22 "ParkingGarage$Text" "tokenStart" "I") (by decide +kernel)) (fun _ h9 => h9) rfl dX5_readToken_129 ?_
        refine lv_iconst (v := 1) hx hb dX5_readToken_132 (by decide) ?_
        refine lv_iadd hx hb dX5_readToken_133 ?_
        rw [show (((nI j1) + (1)) : Int32) = nI (j1 + 1) from (nI_1 _)]
        refine va_put (D := D) (ci := 5) (v := .int (nI (j1 + 1))) (ty := .int) (C := RX5) (T := TX5) (N := 5) hx hb hts (by decide +kernel) tyX5 tyX5_ok nmX5 hown hK.1 hP hD hS 0 rfl rfl 4 (by decide) (hts (.fieldLink RX5 25 "ParkingGarage$Text" "tokenEnd" "I") (by decide +kernel)) (fun _ h9 => h9) rfl (by decide +kernel) rfl rfl (Nat.le_of_ble_eq_true rfl) dX5_readToken_134 (fun H locs hP hD hS => ?_)
        have hP : va_P D vwCl [(x 0, oE 5 [.int (nI L), .ref (x 1), .int (3), .int (nI j1), .int (nI (j1 + 1))]), (x 1, iE cC 120 (f))] H := hP
        have hD : va_D A [(x 0, oE 5 [.int (nI L), .ref (x 1), .int (3), .int (nI j1), .int (nI (j1 + 1))]), (x 1, iE cC 120 (f))] := hD
        exact wr_vret ((3, j1, j1 + 1)) hx hb hr hlocks hS hP hD [0, 1] rfl rfl (by decide) dX5_readToken_137 (⟨hj1, Or.inr (Or.inr (Or.inr ⟨hjlt, (fun q => Int32.not_lt.mpr q.1 c_4), (fun q => Int32.not_lt.mpr q.1 c_5), rfl, rfl⟩))⟩)
      · -- c_5: not f j1 < 48
        refine lv_iload_n hx hb dX5_readToken_92 rfl (lv_at hl 0 rfl) ?_
        refine lv_bipush (v := 57) hx hb dX5_readToken_93 (by decide) ?_
        refine lv_icmp_gt (tgt := 122) hx hb dX5_readToken_95 (by decide) (fun c_6 => ?_) (fun c_6 => ?_)
        · -- c_6: f j1 > 57
          refine lv_aload_n hx hb dX5_readToken_122 rfl (lv_at hl 1 rfl) ?_
          refine lv_iconst (v := 3) hx hb dX5_readToken_123 (by decide) ?_
          refine va_put (D := D) (ci := 5) (v := .int (3)) (ty := .int) (C := RX5) (T := TX5) (N := 5) hx hb hts (by decide +kernel) tyX5 tyX5_ok nmX5 hown hK.1 hP hD hS 0 rfl rfl 2 (by decide) (hts (.fieldLink RX5 19 "ParkingGarage$Text" "tokenKind" "I") (by decide +kernel)) (fun _ h9 => h9) rfl (by decide +kernel) rfl rfl (Nat.le_of_ble_eq_true rfl) dX5_readToken_124 (fun H locs hP hD hS => ?_)
          have hP : va_P D vwCl [(x 0, oE 5 [.int (nI L), .ref (x 1), .int (3), .int (nI j1), .int (nI te)]), (x 1, iE cC 120 (f))] H := hP
          have hD : va_D A [(x 0, oE 5 [.int (nI L), .ref (x 1), .int (3), .int (nI j1), .int (nI te)]), (x 1, iE cC 120 (f))] := hD
          refine lv_aload_n hx hb dX5_readToken_127 rfl (lv_at hl 1 rfl) ?_
          refine lv_aload_n hx hb dX5_readToken_128 rfl (lv_at hl 1 rfl) ?_
          refine va_get (D := D) (ci := 5) (v := .int (nI j1)) (C := RX5) (T := TX5) (N := 5) hx hb hts (by decide +kernel) hown hK.1 hP 0 rfl rfl 3 (by decide) (hts (.fieldLink RX5 22 "ParkingGarage$Text" "tokenStart" "I") (by decide +kernel)) (fun _ h9 => h9) rfl dX5_readToken_129 ?_
          refine lv_iconst (v := 1) hx hb dX5_readToken_132 (by decide) ?_
          refine lv_iadd hx hb dX5_readToken_133 ?_
          rw [show (((nI j1) + (1)) : Int32) = nI (j1 + 1) from (nI_1 _)]
          refine va_put (D := D) (ci := 5) (v := .int (nI (j1 + 1))) (ty := .int) (C := RX5) (T := TX5) (N := 5) hx hb hts (by decide +kernel) tyX5 tyX5_ok nmX5 hown hK.1 hP hD hS 0 rfl rfl 4 (by decide) (hts (.fieldLink RX5 25 "ParkingGarage$Text" "tokenEnd" "I") (by decide +kernel)) (fun _ h9 => h9) rfl (by decide +kernel) rfl rfl (Nat.le_of_ble_eq_true rfl) dX5_readToken_134 (fun H locs hP hD hS => ?_)
          have hP : va_P D vwCl [(x 0, oE 5 [.int (nI L), .ref (x 1), .int (3), .int (nI j1), .int (nI (j1 + 1))]), (x 1, iE cC 120 (f))] H := hP
          have hD : va_D A [(x 0, oE 5 [.int (nI L), .ref (x 1), .int (3), .int (nI j1), .int (nI (j1 + 1))]), (x 1, iE cC 120 (f))] := hD
          exact wr_vret ((3, j1, j1 + 1)) hx hb hr hlocks hS hP hD [0, 1] rfl rfl (by decide) dX5_readToken_137 (⟨hj1, Or.inr (Or.inr (Or.inr ⟨hjlt, (fun q => Int32.not_lt.mpr q.1 c_4), (fun q => Int32.not_lt.mpr q.2 c_6), rfl, rfl⟩))⟩)
        · -- c_6: not f j1 > 57
          refine lv_aload_n hx hb dX5_readToken_98 rfl (lv_at hl 1 rfl) ?_
          refine lv_iconst (v := 2) hx hb dX5_readToken_99 (by decide) ?_
          refine va_put (D := D) (ci := 5) (v := .int (2)) (ty := .int) (C := RX5) (T := TX5) (N := 5) hx hb hts (by decide +kernel) tyX5 tyX5_ok nmX5 hown hK.1 hP hD hS 0 rfl rfl 2 (by decide) (hts (.fieldLink RX5 19 "ParkingGarage$Text" "tokenKind" "I") (by decide +kernel)) (fun _ h9 => h9) rfl (by decide +kernel) rfl rfl (Nat.le_of_ble_eq_true rfl) dX5_readToken_100 (fun H locs hP hD hS => ?_)
          have hP : va_P D vwCl [(x 0, oE 5 [.int (nI L), .ref (x 1), .int (2), .int (nI j1), .int (nI te)]), (x 1, iE cC 120 (f))] H := hP
          have hD : va_D A [(x 0, oE 5 [.int (nI L), .ref (x 1), .int (2), .int (nI j1), .int (nI te)]), (x 1, iE cC 120 (f))] := hD
          refine lv_aload_n hx hb dX5_readToken_103 rfl (lv_at hl 1 rfl) ?_
          refine lv_aload_n hx hb dX5_readToken_104 rfl (lv_at hl 1 rfl) ?_
          refine lv_aload_n hx hb dX5_readToken_105 rfl (lv_at hl 1 rfl) ?_
          refine va_get (D := D) (ci := 5) (v := .int (nI j1)) (C := RX5) (T := TX5) (N := 5) hx hb hts (by decide +kernel) hown hK.1 hP 0 rfl rfl 3 (by decide) (hts (.fieldLink RX5 22 "ParkingGarage$Text" "tokenStart" "I") (by decide +kernel)) (fun _ h9 => h9) rfl dX5_readToken_106 ?_
          refine lv_bipush (v := 48) hx hb dX5_readToken_109 (by decide) ?_
          refine lv_bipush (v := 57) hx hb dX5_readToken_111 (by decide) ?_
          refine cv_i (As := [.int (nI j1), .int (48), .int (57)]) (rest := [.ref (x 0)]) (tys := TYS cI cC cB cS) (ci := 5) ⟨hx, hb, hml, hown, hts⟩ (c_X5_behindRun l D cI cC cB cS (x) (L) (2) (j1) (te) (f) (j1) (48) (57) (hL) (by omega)) (cwV 3 hts gX5_readToken_X5_behindRun rfl rfl rfl (by decide +kernel) ⟨Nat.le_of_ble_eq_true rfl, Nat.le_of_ble_eq_true rfl⟩) hK hP [0, 1] rfl rfl rfl rfl rfl hl.1 (Nat.le_of_ble_eq_true rfl) dX5_readToken_113 ⟨Nat.le_of_ble_eq_true rfl, Nat.le_of_ble_eq_true rfl⟩ (fun r_7 hr_7 => ?_)
          have hr_7 : ∃ j, Beh f L 48 57 j1 j ∧ r_7 = nI j := hr_7
          obtain ⟨j2, hj2, rfl⟩ := hr_7
          refine va_put (D := D) (ci := 5) (v := .int (nI j2)) (ty := .int) (C := RX5) (T := TX5) (N := 5) hx hb hts (by decide +kernel) tyX5 tyX5_ok nmX5 hown hK.1 hP hD hS 0 rfl rfl 4 (by decide) (hts (.fieldLink RX5 25 "ParkingGarage$Text" "tokenEnd" "I") (by decide +kernel)) (fun _ h9 => h9) rfl (by decide +kernel) rfl rfl (Nat.le_of_ble_eq_true rfl) dX5_readToken_116 (fun H locs hP hD hS => ?_)
          have hP : va_P D vwCl [(x 0, oE 5 [.int (nI L), .ref (x 1), .int (2), .int (nI j1), .int (nI j2)]), (x 1, iE cC 120 (f))] H := hP
          have hD : va_D A [(x 0, oE 5 [.int (nI L), .ref (x 1), .int (2), .int (nI j1), .int (nI j2)]), (x 1, iE cC 120 (f))] := hD
          refine lv_goto (tgt := 137) hx hb dX5_readToken_119 (by decide) ?_
          exact wr_vret ((2, j1, j2)) hx hb hr hlocks hS hP hD [0, 1] rfl rfl (by decide) dX5_readToken_137 (⟨hj1, Or.inr (Or.inr (Or.inl ⟨hjlt, (fun q => Int32.not_lt.mpr q.1 c_4), ⟨Int32.not_lt.mp c_5, Int32.not_lt.mp c_6⟩, rfl, hj2⟩))⟩)
    · -- c_4: not f j1 < 97
      refine lv_iload_n hx hb dX5_readToken_56 rfl (lv_at hl 0 rfl) ?_
      refine lv_bipush (v := 122) hx hb dX5_readToken_57 (by decide) ?_
      refine lv_icmp_gt (tgt := 86) hx hb dX5_readToken_59 (by decide) (fun c_8 => ?_) (fun c_8 => ?_)
      · -- c_8: f j1 > 122
        refine lv_iload_n hx hb dX5_readToken_86 rfl (lv_at hl 0 rfl) ?_
        refine lv_bipush (v := 48) hx hb dX5_readToken_87 (by decide) ?_
        refine lv_icmp_lt (tgt := 122) hx hb dX5_readToken_89 (by decide) (fun c_9 => ?_) (fun c_9 => ?_)
        · -- c_9: f j1 < 48
          refine lv_aload_n hx hb dX5_readToken_122 rfl (lv_at hl 1 rfl) ?_
          refine lv_iconst (v := 3) hx hb dX5_readToken_123 (by decide) ?_
          refine va_put (D := D) (ci := 5) (v := .int (3)) (ty := .int) (C := RX5) (T := TX5) (N := 5) hx hb hts (by decide +kernel) tyX5 tyX5_ok nmX5 hown hK.1 hP hD hS 0 rfl rfl 2 (by decide) (hts (.fieldLink RX5 19 "ParkingGarage$Text" "tokenKind" "I") (by decide +kernel)) (fun _ h9 => h9) rfl (by decide +kernel) rfl rfl (Nat.le_of_ble_eq_true rfl) dX5_readToken_124 (fun H locs hP hD hS => ?_)
          have hP : va_P D vwCl [(x 0, oE 5 [.int (nI L), .ref (x 1), .int (3), .int (nI j1), .int (nI te)]), (x 1, iE cC 120 (f))] H := hP
          have hD : va_D A [(x 0, oE 5 [.int (nI L), .ref (x 1), .int (3), .int (nI j1), .int (nI te)]), (x 1, iE cC 120 (f))] := hD
          refine lv_aload_n hx hb dX5_readToken_127 rfl (lv_at hl 1 rfl) ?_
          refine lv_aload_n hx hb dX5_readToken_128 rfl (lv_at hl 1 rfl) ?_
          refine va_get (D := D) (ci := 5) (v := .int (nI j1)) (C := RX5) (T := TX5) (N := 5) hx hb hts (by decide +kernel) hown hK.1 hP 0 rfl rfl 3 (by decide) (hts (.fieldLink RX5 22 "ParkingGarage$Text" "tokenStart" "I") (by decide +kernel)) (fun _ h9 => h9) rfl dX5_readToken_129 ?_
          refine lv_iconst (v := 1) hx hb dX5_readToken_132 (by decide) ?_
          refine lv_iadd hx hb dX5_readToken_133 ?_
          rw [show (((nI j1) + (1)) : Int32) = nI (j1 + 1) from (nI_1 _)]
          refine va_put (D := D) (ci := 5) (v := .int (nI (j1 + 1))) (ty := .int) (C := RX5) (T := TX5) (N := 5) hx hb hts (by decide +kernel) tyX5 tyX5_ok nmX5 hown hK.1 hP hD hS 0 rfl rfl 4 (by decide) (hts (.fieldLink RX5 25 "ParkingGarage$Text" "tokenEnd" "I") (by decide +kernel)) (fun _ h9 => h9) rfl (by decide +kernel) rfl rfl (Nat.le_of_ble_eq_true rfl) dX5_readToken_134 (fun H locs hP hD hS => ?_)
          have hP : va_P D vwCl [(x 0, oE 5 [.int (nI L), .ref (x 1), .int (3), .int (nI j1), .int (nI (j1 + 1))]), (x 1, iE cC 120 (f))] H := hP
          have hD : va_D A [(x 0, oE 5 [.int (nI L), .ref (x 1), .int (3), .int (nI j1), .int (nI (j1 + 1))]), (x 1, iE cC 120 (f))] := hD
          exact wr_vret ((3, j1, j1 + 1)) hx hb hr hlocks hS hP hD [0, 1] rfl rfl (by decide) dX5_readToken_137 (⟨hj1, Or.inr (Or.inr (Or.inr ⟨hjlt, (fun q => Int32.not_lt.mpr q.2 c_8), (fun q => Int32.not_lt.mpr q.1 c_9), rfl, rfl⟩))⟩)
        · -- c_9: not f j1 < 48
          refine lv_iload_n hx hb dX5_readToken_92 rfl (lv_at hl 0 rfl) ?_
          refine lv_bipush (v := 57) hx hb dX5_readToken_93 (by decide) ?_
          refine lv_icmp_gt (tgt := 122) hx hb dX5_readToken_95 (by decide) (fun c_10 => ?_) (fun c_10 => ?_)
          · -- c_10: f j1 > 57
            refine lv_aload_n hx hb dX5_readToken_122 rfl (lv_at hl 1 rfl) ?_
            refine lv_iconst (v := 3) hx hb dX5_readToken_123 (by decide) ?_
            refine va_put (D := D) (ci := 5) (v := .int (3)) (ty := .int) (C := RX5) (T := TX5) (N := 5) hx hb hts (by decide +kernel) tyX5 tyX5_ok nmX5 hown hK.1 hP hD hS 0 rfl rfl 2 (by decide) (hts (.fieldLink RX5 19 "ParkingGarage$Text" "tokenKind" "I") (by decide +kernel)) (fun _ h9 => h9) rfl (by decide +kernel) rfl rfl (Nat.le_of_ble_eq_true rfl) dX5_readToken_124 (fun H locs hP hD hS => ?_)
            have hP : va_P D vwCl [(x 0, oE 5 [.int (nI L), .ref (x 1), .int (3), .int (nI j1), .int (nI te)]), (x 1, iE cC 120 (f))] H := hP
            have hD : va_D A [(x 0, oE 5 [.int (nI L), .ref (x 1), .int (3), .int (nI j1), .int (nI te)]), (x 1, iE cC 120 (f))] := hD
            refine lv_aload_n hx hb dX5_readToken_127 rfl (lv_at hl 1 rfl) ?_
            refine lv_aload_n hx hb dX5_readToken_128 rfl (lv_at hl 1 rfl) ?_
            refine va_get (D := D) (ci := 5) (v := .int (nI j1)) (C := RX5) (T := TX5) (N := 5) hx hb hts (by decide +kernel) hown hK.1 hP 0 rfl rfl 3 (by decide) (hts (.fieldLink RX5 22 "ParkingGarage$Text" "tokenStart" "I") (by decide +kernel)) (fun _ h9 => h9) rfl dX5_readToken_129 ?_
            refine lv_iconst (v := 1) hx hb dX5_readToken_132 (by decide) ?_
            refine lv_iadd hx hb dX5_readToken_133 ?_
            rw [show (((nI j1) + (1)) : Int32) = nI (j1 + 1) from (nI_1 _)]
            refine va_put (D := D) (ci := 5) (v := .int (nI (j1 + 1))) (ty := .int) (C := RX5) (T := TX5) (N := 5) hx hb hts (by decide +kernel) tyX5 tyX5_ok nmX5 hown hK.1 hP hD hS 0 rfl rfl 4 (by decide) (hts (.fieldLink RX5 25 "ParkingGarage$Text" "tokenEnd" "I") (by decide +kernel)) (fun _ h9 => h9) rfl (by decide +kernel) rfl rfl (Nat.le_of_ble_eq_true rfl) dX5_readToken_134 (fun H locs hP hD hS => ?_)
            have hP : va_P D vwCl [(x 0, oE 5 [.int (nI L), .ref (x 1), .int (3), .int (nI j1), .int (nI (j1 + 1))]), (x 1, iE cC 120 (f))] H := hP
            have hD : va_D A [(x 0, oE 5 [.int (nI L), .ref (x 1), .int (3), .int (nI j1), .int (nI (j1 + 1))]), (x 1, iE cC 120 (f))] := hD
            exact wr_vret ((3, j1, j1 + 1)) hx hb hr hlocks hS hP hD [0, 1] rfl rfl (by decide) dX5_readToken_137 (⟨hj1, Or.inr (Or.inr (Or.inr ⟨hjlt, (fun q => Int32.not_lt.mpr q.2 c_8), (fun q => Int32.not_lt.mpr q.2 c_10), rfl, rfl⟩))⟩)
          · -- c_10: not f j1 > 57
            refine lv_aload_n hx hb dX5_readToken_98 rfl (lv_at hl 1 rfl) ?_
            refine lv_iconst (v := 2) hx hb dX5_readToken_99 (by decide) ?_
            refine va_put (D := D) (ci := 5) (v := .int (2)) (ty := .int) (C := RX5) (T := TX5) (N := 5) hx hb hts (by decide +kernel) tyX5 tyX5_ok nmX5 hown hK.1 hP hD hS 0 rfl rfl 2 (by decide) (hts (.fieldLink RX5 19 "ParkingGarage$Text" "tokenKind" "I") (by decide +kernel)) (fun _ h9 => h9) rfl (by decide +kernel) rfl rfl (Nat.le_of_ble_eq_true rfl) dX5_readToken_100 (fun H locs hP hD hS => ?_)
            have hP : va_P D vwCl [(x 0, oE 5 [.int (nI L), .ref (x 1), .int (2), .int (nI j1), .int (nI te)]), (x 1, iE cC 120 (f))] H := hP
            have hD : va_D A [(x 0, oE 5 [.int (nI L), .ref (x 1), .int (2), .int (nI j1), .int (nI te)]), (x 1, iE cC 120 (f))] := hD
            refine lv_aload_n hx hb dX5_readToken_103 rfl (lv_at hl 1 rfl) ?_
            refine lv_aload_n hx hb dX5_readToken_104 rfl (lv_at hl 1 rfl) ?_
            refine lv_aload_n hx hb dX5_readToken_105 rfl (lv_at hl 1 rfl) ?_
            refine va_get (D := D) (ci := 5) (v := .int (nI j1)) (C := RX5) (T := TX5) (N := 5) hx hb hts (by decide +kernel) hown hK.1 hP 0 rfl rfl 3 (by decide) (hts (.fieldLink RX5 22 "ParkingGarage$Text" "tokenStart" "I") (by decide +kernel)) (fun _ h9 => h9) rfl dX5_readToken_106 ?_
            refine lv_bipush (v := 48) hx hb dX5_readToken_109 (by decide) ?_
            refine lv_bipush (v := 57) hx hb dX5_readToken_111 (by decide) ?_
            refine cv_i (As := [.int (nI j1), .int (48), .int (57)]) (rest := [.ref (x 0)]) (tys := TYS cI cC cB cS) (ci := 5) ⟨hx, hb, hml, hown, hts⟩ (c_X5_behindRun l D cI cC cB cS (x) (L) (2) (j1) (te) (f) (j1) (48) (57) (hL) (by omega)) (cwV 3 hts gX5_readToken_X5_behindRun rfl rfl rfl (by decide +kernel) ⟨Nat.le_of_ble_eq_true rfl, Nat.le_of_ble_eq_true rfl⟩) hK hP [0, 1] rfl rfl rfl rfl rfl hl.1 (Nat.le_of_ble_eq_true rfl) dX5_readToken_113 ⟨Nat.le_of_ble_eq_true rfl, Nat.le_of_ble_eq_true rfl⟩ (fun r_11 hr_11 => ?_)
            have hr_11 : ∃ j, Beh f L 48 57 j1 j ∧ r_11 = nI j := hr_11
            obtain ⟨j2, hj2, rfl⟩ := hr_11
            refine va_put (D := D) (ci := 5) (v := .int (nI j2)) (ty := .int) (C := RX5) (T := TX5) (N := 5) hx hb hts (by decide +kernel) tyX5 tyX5_ok nmX5 hown hK.1 hP hD hS 0 rfl rfl 4 (by decide) (hts (.fieldLink RX5 25 "ParkingGarage$Text" "tokenEnd" "I") (by decide +kernel)) (fun _ h9 => h9) rfl (by decide +kernel) rfl rfl (Nat.le_of_ble_eq_true rfl) dX5_readToken_116 (fun H locs hP hD hS => ?_)
            have hP : va_P D vwCl [(x 0, oE 5 [.int (nI L), .ref (x 1), .int (2), .int (nI j1), .int (nI j2)]), (x 1, iE cC 120 (f))] H := hP
            have hD : va_D A [(x 0, oE 5 [.int (nI L), .ref (x 1), .int (2), .int (nI j1), .int (nI j2)]), (x 1, iE cC 120 (f))] := hD
            refine lv_goto (tgt := 137) hx hb dX5_readToken_119 (by decide) ?_
            exact wr_vret ((2, j1, j2)) hx hb hr hlocks hS hP hD [0, 1] rfl rfl (by decide) dX5_readToken_137 (⟨hj1, Or.inr (Or.inr (Or.inl ⟨hjlt, (fun q => Int32.not_lt.mpr q.2 c_8), ⟨Int32.not_lt.mp c_9, Int32.not_lt.mp c_10⟩, rfl, hj2⟩))⟩)
      · -- c_8: not f j1 > 122
        refine lv_aload_n hx hb dX5_readToken_62 rfl (lv_at hl 1 rfl) ?_
        refine lv_iconst (v := 1) hx hb dX5_readToken_63 (by decide) ?_
        refine va_put (D := D) (ci := 5) (v := .int (1)) (ty := .int) (C := RX5) (T := TX5) (N := 5) hx hb hts (by decide +kernel) tyX5 tyX5_ok nmX5 hown hK.1 hP hD hS 0 rfl rfl 2 (by decide) (hts (.fieldLink RX5 19 "ParkingGarage$Text" "tokenKind" "I") (by decide +kernel)) (fun _ h9 => h9) rfl (by decide +kernel) rfl rfl (Nat.le_of_ble_eq_true rfl) dX5_readToken_64 (fun H locs hP hD hS => ?_)
        have hP : va_P D vwCl [(x 0, oE 5 [.int (nI L), .ref (x 1), .int (1), .int (nI j1), .int (nI te)]), (x 1, iE cC 120 (f))] H := hP
        have hD : va_D A [(x 0, oE 5 [.int (nI L), .ref (x 1), .int (1), .int (nI j1), .int (nI te)]), (x 1, iE cC 120 (f))] := hD
        refine lv_aload_n hx hb dX5_readToken_67 rfl (lv_at hl 1 rfl) ?_
        refine lv_aload_n hx hb dX5_readToken_68 rfl (lv_at hl 1 rfl) ?_
        refine lv_aload_n hx hb dX5_readToken_69 rfl (lv_at hl 1 rfl) ?_
        refine va_get (D := D) (ci := 5) (v := .int (nI j1)) (C := RX5) (T := TX5) (N := 5) hx hb hts (by decide +kernel) hown hK.1 hP 0 rfl rfl 3 (by decide) (hts (.fieldLink RX5 22 "ParkingGarage$Text" "tokenStart" "I") (by decide +kernel)) (fun _ h9 => h9) rfl dX5_readToken_70 ?_
        refine lv_bipush (v := 97) hx hb dX5_readToken_73 (by decide) ?_
        refine lv_bipush (v := 122) hx hb dX5_readToken_75 (by decide) ?_
        refine cv_i (As := [.int (nI j1), .int (97), .int (122)]) (rest := [.ref (x 0)]) (tys := TYS cI cC cB cS) (ci := 5) ⟨hx, hb, hml, hown, hts⟩ (c_X5_behindRun l D cI cC cB cS (x) (L) (1) (j1) (te) (f) (j1) (97) (122) (hL) (by omega)) (cwV 3 hts gX5_readToken_X5_behindRun rfl rfl rfl (by decide +kernel) ⟨Nat.le_of_ble_eq_true rfl, Nat.le_of_ble_eq_true rfl⟩) hK hP [0, 1] rfl rfl rfl rfl rfl hl.1 (Nat.le_of_ble_eq_true rfl) dX5_readToken_77 ⟨Nat.le_of_ble_eq_true rfl, Nat.le_of_ble_eq_true rfl⟩ (fun r_12 hr_12 => ?_)
        have hr_12 : ∃ j, Beh f L 97 122 j1 j ∧ r_12 = nI j := hr_12
        obtain ⟨j2, hj2, rfl⟩ := hr_12
        refine va_put (D := D) (ci := 5) (v := .int (nI j2)) (ty := .int) (C := RX5) (T := TX5) (N := 5) hx hb hts (by decide +kernel) tyX5 tyX5_ok nmX5 hown hK.1 hP hD hS 0 rfl rfl 4 (by decide) (hts (.fieldLink RX5 25 "ParkingGarage$Text" "tokenEnd" "I") (by decide +kernel)) (fun _ h9 => h9) rfl (by decide +kernel) rfl rfl (Nat.le_of_ble_eq_true rfl) dX5_readToken_80 (fun H locs hP hD hS => ?_)
        have hP : va_P D vwCl [(x 0, oE 5 [.int (nI L), .ref (x 1), .int (1), .int (nI j1), .int (nI j2)]), (x 1, iE cC 120 (f))] H := hP
        have hD : va_D A [(x 0, oE 5 [.int (nI L), .ref (x 1), .int (1), .int (nI j1), .int (nI j2)]), (x 1, iE cC 120 (f))] := hD
        refine lv_goto (tgt := 137) hx hb dX5_readToken_83 (by decide) ?_
        exact wr_vret ((1, j1, j2)) hx hb hr hlocks hS hP hD [0, 1] rfl rfl (by decide) dX5_readToken_137 (⟨hj1, Or.inr (Or.inl ⟨hjlt, ⟨Int32.not_lt.mp c_4, Int32.not_lt.mp c_8⟩, rfl, hj2⟩)⟩)
  · -- c_2: not nI j1 < nI L
    have hjge : ¬ j1 < L := fun q => c_2 (nI_lt q (by omega))
    refine lv_aload_n hx hb dX5_readToken_27 rfl (lv_at hl 0 rfl) ?_
    refine lv_iconst (v := 0) hx hb dX5_readToken_28 (by decide) ?_
    refine va_put (D := D) (ci := 5) (v := .int (0)) (ty := .int) (C := RX5) (T := TX5) (N := 5) hx hb hts (by decide +kernel) tyX5 tyX5_ok nmX5 hown hK.1 hP hD hS 0 rfl rfl 2 (by decide) (hts (.fieldLink RX5 19 "ParkingGarage$Text" "tokenKind" "I") (by decide +kernel)) (fun _ h9 => h9) rfl (by decide +kernel) rfl rfl (Nat.le_of_ble_eq_true rfl) dX5_readToken_29 (fun H locs hP hD hS => ?_)
    have hP : va_P D vwCl [(x 0, oE 5 [.int (nI L), .ref (x 1), .int (0), .int (nI j1), .int (nI te)]), (x 1, iE cC 120 (f))] H := hP
    have hD : va_D A [(x 0, oE 5 [.int (nI L), .ref (x 1), .int (0), .int (nI j1), .int (nI te)]), (x 1, iE cC 120 (f))] := hD
    refine lv_aload_n hx hb dX5_readToken_32 rfl (lv_at hl 0 rfl) ?_
    refine lv_aload_n hx hb dX5_readToken_33 rfl (lv_at hl 0 rfl) ?_
    refine va_get (D := D) (ci := 5) (v := .int (nI j1)) (C := RX5) (T := TX5) (N := 5) hx hb hts (by decide +kernel) hown hK.1 hP 0 rfl rfl 3 (by decide) (hts (.fieldLink RX5 22 "ParkingGarage$Text" "tokenStart" "I") (by decide +kernel)) (fun _ h9 => h9) rfl dX5_readToken_34 ?_
    refine va_put (D := D) (ci := 5) (v := .int (nI j1)) (ty := .int) (C := RX5) (T := TX5) (N := 5) hx hb hts (by decide +kernel) tyX5 tyX5_ok nmX5 hown hK.1 hP hD hS 0 rfl rfl 4 (by decide) (hts (.fieldLink RX5 25 "ParkingGarage$Text" "tokenEnd" "I") (by decide +kernel)) (fun _ h9 => h9) rfl (by decide +kernel) rfl rfl (Nat.le_of_ble_eq_true rfl) dX5_readToken_37 (fun H locs hP hD hS => ?_)
    have hP : va_P D vwCl [(x 0, oE 5 [.int (nI L), .ref (x 1), .int (0), .int (nI j1), .int (nI j1)]), (x 1, iE cC 120 (f))] H := hP
    have hD : va_D A [(x 0, oE 5 [.int (nI L), .ref (x 1), .int (0), .int (nI j1), .int (nI j1)]), (x 1, iE cC 120 (f))] := hD
    exact wr_vret ((0, j1, j1)) hx hb hr hlocks hS hP hD [0, 1] rfl rfl (by decide) dX5_readToken_40 (⟨hj1, Or.inl ⟨hjge, rfl, rfl⟩⟩)
set_option maxHeartbeats 4000000 in
set_option maxRecDepth 100000 in
theorem c_X5_readNumber (l : Launch) (D : va_G) (cI cC cB cS : ClassId) (zz : Nat) (x : Nat → Nat) (L : Nat) (tk : Nat) (ts : Nat) (te : Nat) (f : Nat → Int32) (lo : Nat) (hi : Nat) (hL : L ≤ 120) (hch : Chr f) (hte : te ≤ L) (hlh : lo < 100000 ∧ hi < 100000) : Met l yX5_readNumber wsX5_readNumber ({ frames := 3, cells := 0, slots := 0, locals := 66 } : Room) (wrPc D (TYS cI cC cB cS) [.ref (x 0), .int (nI lo), .int (nI hi)] (wXk cC x L tk ts te f) zz) (va_Qi (fun (r : Int32) (u : Nat × Nat × Nat) => Tok f L te u.1 u.2.1 u.2.2 ∧ NumR f u.1 u.2.1 u.2.2 lo hi r) (wrB D (va_A (wXk cC x L tk ts te f) zz) (fun u => wXk cC x L u.1 u.2.1 u.2.2 f)) (va_A (wXk cC x L tk ts te f) zz)) 0 0 (va_A (wXk cC x L tk ts te f) zz) := by
  refine wr_intro (Qc := fun A B => va_Qi (fun (r : Int32) (u : Nat × Nat × Nat) => Tok f L te u.1 u.2.1 u.2.2 ∧ NumR f u.1 u.2.1 u.2.2 lo hi r) B A) (by decide) rfl (Nat.le_of_ble_eq_true rfl) ?_
  intro p e s m below meth c A hx hb hr hml hts hown hlocks hin hP hK hD hA hS ls hl
  have hP : va_P D vwCl [(x 0, oE 5 [.int (nI L), .ref (x 1), .int (nI tk), .int (nI ts), .int (nI te)]), (x 1, iE cC 120 (f))] s.heap := hP
  have hD : va_D A [(x 0, oE 5 [.int (nI L), .ref (x 1), .int (nI tk), .int (nI ts), .int (nI te)]), (x 1, iE cC 120 (f))] := hD
  have hown : s.vm.findClass RX5 = some m.cls := hown
  have hl : lv_has ls 5 [(0, .ref (x 0)), (1, .int (nI lo)), (2, .int (nI hi))] := hl
  refine lv_aload_n hx hb dX5_readNumber_0 rfl (lv_at hl 0 rfl) ?_
  refine cv_wv (As := []) (rest := []) (tys := TYS cI cC cB cS) (ci := 5) (wr := []) ⟨hx, hb, hml, hown, hts⟩ (c_X5_readToken l D cI cC cB cS _ (x) (L) (tk) (ts) (te) (f) (hL) (hch) (hte)) (cwV 0 hts gX5_readNumber_X5_readToken rfl rfl rfl (by decide +kernel) ⟨Nat.le_of_ble_eq_true rfl, Nat.le_of_ble_eq_true rfl⟩) hK hP hD hS hA [0, 1] [] rfl rfl (by decide) (by decide) (by decide) rfl rfl rfl rfl hl.1 (Nat.le_of_ble_eq_true rfl) dX5_readNumber_1 ⟨Nat.le_of_ble_eq_true rfl, Nat.le_of_ble_eq_true rfl⟩ (fun u_1 H locs hu_1 hP hD hS => ?_)
  have hP : va_P D vwCl [(x 0, oE 5 [.int (nI L), .ref (x 1), .int (nI u_1.1), .int (nI u_1.2.1), .int (nI u_1.2.2)]), (x 1, iE cC 120 (f))] H := hP
  have hD : va_D A [(x 0, oE 5 [.int (nI L), .ref (x 1), .int (nI u_1.1), .int (nI u_1.2.1), .int (nI u_1.2.2)]), (x 1, iE cC 120 (f))] := hD
  have hu_1 : Tok f L te u_1.1 u_1.2.1 u_1.2.2 := hu_1
  have hle_u_1 := Tok.le hu_1 hte
  refine lv_aload_n hx hb dX5_readNumber_4 rfl (lv_at hl 0 rfl) ?_
  refine va_get (D := D) (ci := 5) (v := .int (nI u_1.1)) (C := RX5) (T := TX5) (N := 5) hx hb hts (by decide +kernel) hown hK.1 hP 0 rfl rfl 2 (by decide) (hts (.fieldLink RX5 19 "ParkingGarage$Text" "tokenKind" "I") (by decide +kernel)) (fun _ h9 => h9) rfl dX5_readNumber_5 ?_
  refine lv_iconst (v := 2) hx hb dX5_readNumber_8 (by decide) ?_
  refine lv_icmp_eq (tgt := 14) hx hb dX5_readNumber_9 (by decide) (fun c_2 => ?_) (fun c_2 => ?_)
  · -- c_2: nI u_1.1 = 2
    have hk2 : u_1.1 = 2 := (nI_eq (b := 2) (by have := Tok.k_lt hu_1; omega) (by omega)).mp c_2
    have hkn : u_1.1 ≠ 0 := by omega
    refine lv_aload_n hx hb dX5_readNumber_14 rfl (lv_at hl 0 rfl) ?_
    refine lv_aload_n hx hb dX5_readNumber_15 rfl (lv_at hl 0 rfl) ?_
    refine va_get (D := D) (ci := 5) (v := .int (nI u_1.2.1)) (C := RX5) (T := TX5) (N := 5) hx hb hts (by decide +kernel) hown hK.1 hP 0 rfl rfl 3 (by decide) (hts (.fieldLink RX5 22 "ParkingGarage$Text" "tokenStart" "I") (by decide +kernel)) (fun _ h9 => h9) rfl dX5_readNumber_16 ?_
    refine cv_i (As := [.int (nI u_1.2.1)]) (rest := []) (tys := TYS cI cC cB cS) (ci := 5) ⟨hx, hb, hml, hown, hts⟩ (c_X5_characterAt l D cI cC cB cS (x) (L) (u_1.1) (u_1.2.1) (u_1.2.2) (f) (u_1.2.1) (hL) (hch) (by omega)) (cwV 1 hts gX5_readNumber_X5_characterAt rfl rfl rfl (by decide +kernel) ⟨Nat.le_of_ble_eq_true rfl, Nat.le_of_ble_eq_true rfl⟩) hK hP [0, 1] rfl rfl rfl rfl rfl hl.1 (Nat.le_of_ble_eq_true rfl) dX5_readNumber_19 ⟨Nat.le_of_ble_eq_true rfl, Nat.le_of_ble_eq_true rfl⟩ (fun r_3 hr_3 => ?_)
    have hr_3 : r_3 = if u_1.2.1 < L then f u_1.2.1 else 32 := hr_3
    rw [if_pos (Tok.lt hu_1 hkn)] at hr_3
    rw [hr_3]
    refine lv_bipush (v := 48) hx hb dX5_readNumber_22 (by decide) ?_
    refine lv_icmp_ne (tgt := 44) hx hb dX5_readNumber_24 (by decide) (fun c_4 => ?_) (fun c_4 => ?_)
    · -- c_4: f u_1.2.1 ≠ 48
      have hnz : ¬ (f u_1.2.1 = 48 ∧ 1 < u_1.2.2 - u_1.2.1) := fun q => c_4 q.1
      refine lv_iconst (v := 0) hx hb dX5_readNumber_44 (by decide) ?_
      refine lv_istore_n (lv' := [(3, .int (0)), (0, .ref (x 0)), (1, .int (nI lo)), (2, .int (nI hi))]) hx hb dX5_readNumber_45 rfl hl (by decide) rfl (fun ls hl => ?_)
      refine lv_aload_n hx hb dX5_readNumber_46 rfl (lv_at hl 1 rfl) ?_
      refine cv_i (As := []) (rest := []) (tys := TYS cI cC cB cS) (ci := 5) ⟨hx, hb, hml, hown, hts⟩ (c_X5_tokenValue l D cI cC cB cS (x) (L) (u_1.1) (u_1.2.1) (u_1.2.2) (f) (hL) (hch) (by omega) (by omega) (Tok.digits hu_1 hk2)) (cwV 0 hts gX5_readNumber_X5_tokenValue rfl rfl rfl (by decide +kernel) ⟨Nat.le_of_ble_eq_true rfl, Nat.le_of_ble_eq_true rfl⟩) hK hP [0, 1] rfl rfl rfl rfl rfl hl.1 (Nat.le_of_ble_eq_true rfl) dX5_readNumber_47 ⟨Nat.le_of_ble_eq_true rfl, Nat.le_of_ble_eq_true rfl⟩ (fun r_5 hr_5 => ?_)
      have hr_5 : ∃ w, r_5 = nI w ∧ w < 100000000 ∧ (w = dV f u_1.2.1 (u_1.2.2 - u_1.2.1) ∨ (1000000 ≤ w ∧ 1000000 ≤ dV f u_1.2.1 (u_1.2.2 - u_1.2.1))) := hr_5
      obtain ⟨w, hw, hw8, hwv⟩ := hr_5
      refine lv_istore (lv' := [(4, .int (r_5)), (3, .int (0)), (0, .ref (x 0)), (1, .int (nI lo)), (2, .int (nI hi))]) hx hb dX5_readNumber_50 hl (by decide) rfl (fun ls hl => ?_)
      refine lv_iload_n hx hb dX5_readNumber_52 rfl (lv_at hl 1 rfl) ?_
      refine if_ne_f (tgt := 71) hx hb rfl dX5_readNumber_53 (by decide) ?_
      refine lv_iload hx hb dX5_readNumber_56 (lv_at hl 0 rfl) ?_
      refine lv_iload_n hx hb dX5_readNumber_58 rfl (lv_at hl 3 rfl) ?_
      refine lv_iload_n hx hb dX5_readNumber_59 rfl (lv_at hl 4 rfl) ?_
      refine csN_i (As := [.int (r_5), .int (nI lo), .int (nI hi)]) (rest := []) (tys := TYS cI cC cB cS) ⟨hx, hb, hml, hown, hts⟩ (c_X6_isWithin l D cI cC cB cS (r_5) (nI lo) (nI hi)) ⟨va_cnB 3 hts gX5_readNumber_X6_isWithin_n106 rfl rfl rfl (hK.2.1 (.methodLinkNest RX5 106 yX6_isWithin RX6) (List.mem_of_getElem? (i := 8) rfl)) (hts (.initialized RX6) (by decide +kernel)) (by decide +kernel) ⟨Nat.le_of_ble_eq_true rfl, Nat.le_of_ble_eq_true rfl⟩, hts (.static yX6_isWithin) (by decide +kernel), trivial⟩ hK hP [] rfl rfl rfl hl.1 (Nat.le_of_ble_eq_true rfl) dX5_readNumber_60 ⟨Nat.le_of_ble_eq_true rfl, Nat.le_of_ble_eq_true rfl⟩ (fun r_6 hr_6 => ?_)
      rcases (show Yes (nI lo ≤ r_5 ∧ r_5 ≤ nI hi) r_6 from hr_6) with ⟨rfl, h_7⟩ | ⟨rfl, h_7⟩
      · -- X6_isWithin t
        refine if_eq_f (tgt := 71) hx hb (by decide) dX5_readNumber_63 (by decide) ?_
        refine lv_iload hx hb dX5_readNumber_66 (lv_at hl 0 rfl) ?_
        refine lv_goto (tgt := 72) hx hb dX5_readNumber_68 (by decide) ?_
        exact wr_iret (v := r_5) ((u_1.1, u_1.2.1, u_1.2.2)) hx hb hr hlocks hS hP hD [0, 1] rfl rfl (by decide) dX5_readNumber_72 (⟨hu_1, Or.inl (numr_yes hw hw8 hwv hlh hk2 hnz h_7)⟩)
      · -- X6_isWithin f
        refine if_eq_t (tgt := 71) hx hb rfl dX5_readNumber_63 (by decide) ?_
        refine lv_iconst (v := -1) hx hb dX5_readNumber_71 (by decide) ?_
        exact wr_iret (v := -1) ((u_1.1, u_1.2.1, u_1.2.2)) hx hb hr hlocks hS hP hD [0, 1] rfl rfl (by decide) dX5_readNumber_72 (⟨hu_1, Or.inr ⟨numr_no hw hw8 hwv hlh h_7, rfl⟩⟩)
    · -- c_4: not f u_1.2.1 ≠ 48
      refine lv_aload_n hx hb dX5_readNumber_27 rfl (lv_at hl 0 rfl) ?_
      refine va_get (D := D) (ci := 5) (v := .int (nI u_1.2.2)) (C := RX5) (T := TX5) (N := 5) hx hb hts (by decide +kernel) hown hK.1 hP 0 rfl rfl 4 (by decide) (hts (.fieldLink RX5 25 "ParkingGarage$Text" "tokenEnd" "I") (by decide +kernel)) (fun _ h9 => h9) rfl dX5_readNumber_28 ?_
      refine lv_aload_n hx hb dX5_readNumber_31 rfl (lv_at hl 0 rfl) ?_
      refine va_get (D := D) (ci := 5) (v := .int (nI u_1.2.1)) (C := RX5) (T := TX5) (N := 5) hx hb hts (by decide +kernel) hown hK.1 hP 0 rfl rfl 3 (by decide) (hts (.fieldLink RX5 22 "ParkingGarage$Text" "tokenStart" "I") (by decide +kernel)) (fun _ h9 => h9) rfl dX5_readNumber_32 ?_
      refine lv_isub hx hb dX5_readNumber_35 ?_
      rw [show (((nI u_1.2.2) - (nI u_1.2.1)) : Int32) = nI (u_1.2.2 - u_1.2.1) from (pk_subn (by omega))]
      refine lv_iconst (v := 1) hx hb dX5_readNumber_36 (by decide) ?_
      refine lv_icmp_le (tgt := 44) hx hb dX5_readNumber_37 (by decide) (fun c_8 => ?_) (fun c_8 => ?_)
      · -- c_8: nI (u_1.2.2 - u_1.2.1) ≤ 1
        have hnz : ¬ (f u_1.2.1 = 48 ∧ 1 < u_1.2.2 - u_1.2.1) := fun q => absurd (nI_lt q.2 (by omega)) (Int32.not_lt.mpr c_8)
        refine lv_iconst (v := 0) hx hb dX5_readNumber_44 (by decide) ?_
        refine lv_istore_n (lv' := [(3, .int (0)), (0, .ref (x 0)), (1, .int (nI lo)), (2, .int (nI hi))]) hx hb dX5_readNumber_45 rfl hl (by decide) rfl (fun ls hl => ?_)
        refine lv_aload_n hx hb dX5_readNumber_46 rfl (lv_at hl 1 rfl) ?_
        refine cv_i (As := []) (rest := []) (tys := TYS cI cC cB cS) (ci := 5) ⟨hx, hb, hml, hown, hts⟩ (c_X5_tokenValue l D cI cC cB cS (x) (L) (u_1.1) (u_1.2.1) (u_1.2.2) (f) (hL) (hch) (by omega) (by omega) (Tok.digits hu_1 hk2)) (cwV 0 hts gX5_readNumber_X5_tokenValue rfl rfl rfl (by decide +kernel) ⟨Nat.le_of_ble_eq_true rfl, Nat.le_of_ble_eq_true rfl⟩) hK hP [0, 1] rfl rfl rfl rfl rfl hl.1 (Nat.le_of_ble_eq_true rfl) dX5_readNumber_47 ⟨Nat.le_of_ble_eq_true rfl, Nat.le_of_ble_eq_true rfl⟩ (fun r_9 hr_9 => ?_)
        have hr_9 : ∃ w, r_9 = nI w ∧ w < 100000000 ∧ (w = dV f u_1.2.1 (u_1.2.2 - u_1.2.1) ∨ (1000000 ≤ w ∧ 1000000 ≤ dV f u_1.2.1 (u_1.2.2 - u_1.2.1))) := hr_9
        obtain ⟨w, hw, hw8, hwv⟩ := hr_9
        refine lv_istore (lv' := [(4, .int (r_9)), (3, .int (0)), (0, .ref (x 0)), (1, .int (nI lo)), (2, .int (nI hi))]) hx hb dX5_readNumber_50 hl (by decide) rfl (fun ls hl => ?_)
        refine lv_iload_n hx hb dX5_readNumber_52 rfl (lv_at hl 1 rfl) ?_
        refine if_ne_f (tgt := 71) hx hb rfl dX5_readNumber_53 (by decide) ?_
        refine lv_iload hx hb dX5_readNumber_56 (lv_at hl 0 rfl) ?_
        refine lv_iload_n hx hb dX5_readNumber_58 rfl (lv_at hl 3 rfl) ?_
        refine lv_iload_n hx hb dX5_readNumber_59 rfl (lv_at hl 4 rfl) ?_
        refine csN_i (As := [.int (r_9), .int (nI lo), .int (nI hi)]) (rest := []) (tys := TYS cI cC cB cS) ⟨hx, hb, hml, hown, hts⟩ (c_X6_isWithin l D cI cC cB cS (r_9) (nI lo) (nI hi)) ⟨va_cnB 3 hts gX5_readNumber_X6_isWithin_n106 rfl rfl rfl (hK.2.1 (.methodLinkNest RX5 106 yX6_isWithin RX6) (List.mem_of_getElem? (i := 8) rfl)) (hts (.initialized RX6) (by decide +kernel)) (by decide +kernel) ⟨Nat.le_of_ble_eq_true rfl, Nat.le_of_ble_eq_true rfl⟩, hts (.static yX6_isWithin) (by decide +kernel), trivial⟩ hK hP [] rfl rfl rfl hl.1 (Nat.le_of_ble_eq_true rfl) dX5_readNumber_60 ⟨Nat.le_of_ble_eq_true rfl, Nat.le_of_ble_eq_true rfl⟩ (fun r_10 hr_10 => ?_)
        rcases (show Yes (nI lo ≤ r_9 ∧ r_9 ≤ nI hi) r_10 from hr_10) with ⟨rfl, h_11⟩ | ⟨rfl, h_11⟩
        · -- X6_isWithin t
          refine if_eq_f (tgt := 71) hx hb (by decide) dX5_readNumber_63 (by decide) ?_
          refine lv_iload hx hb dX5_readNumber_66 (lv_at hl 0 rfl) ?_
          refine lv_goto (tgt := 72) hx hb dX5_readNumber_68 (by decide) ?_
          exact wr_iret (v := r_9) ((u_1.1, u_1.2.1, u_1.2.2)) hx hb hr hlocks hS hP hD [0, 1] rfl rfl (by decide) dX5_readNumber_72 (⟨hu_1, Or.inl (numr_yes hw hw8 hwv hlh hk2 hnz h_11)⟩)
        · -- X6_isWithin f
          refine if_eq_t (tgt := 71) hx hb rfl dX5_readNumber_63 (by decide) ?_
          refine lv_iconst (v := -1) hx hb dX5_readNumber_71 (by decide) ?_
          exact wr_iret (v := -1) ((u_1.1, u_1.2.1, u_1.2.2)) hx hb hr hlocks hS hP hD [0, 1] rfl rfl (by decide) dX5_readNumber_72 (⟨hu_1, Or.inr ⟨numr_no hw hw8 hwv hlh h_11, rfl⟩⟩)
      · -- c_8: not nI (u_1.2.2 - u_1.2.1) ≤ 1
        have hlong : 1 < u_1.2.2 - u_1.2.1 := (nI_ltI (a := 1) (by omega) (by omega)).mp (Int32.not_le.mp c_8)
        refine lv_iconst (v := 1) hx hb dX5_readNumber_40 (by decide) ?_
        refine lv_goto (tgt := 45) hx hb dX5_readNumber_41 (by decide) ?_
        refine lv_istore_n (lv' := [(3, .int (1)), (0, .ref (x 0)), (1, .int (nI lo)), (2, .int (nI hi))]) hx hb dX5_readNumber_45 rfl hl (by decide) rfl (fun ls hl => ?_)
        refine lv_aload_n hx hb dX5_readNumber_46 rfl (lv_at hl 1 rfl) ?_
        refine cv_i (As := []) (rest := []) (tys := TYS cI cC cB cS) (ci := 5) ⟨hx, hb, hml, hown, hts⟩ (c_X5_tokenValue l D cI cC cB cS (x) (L) (u_1.1) (u_1.2.1) (u_1.2.2) (f) (hL) (hch) (by omega) (by omega) (Tok.digits hu_1 hk2)) (cwV 0 hts gX5_readNumber_X5_tokenValue rfl rfl rfl (by decide +kernel) ⟨Nat.le_of_ble_eq_true rfl, Nat.le_of_ble_eq_true rfl⟩) hK hP [0, 1] rfl rfl rfl rfl rfl hl.1 (Nat.le_of_ble_eq_true rfl) dX5_readNumber_47 ⟨Nat.le_of_ble_eq_true rfl, Nat.le_of_ble_eq_true rfl⟩ (fun r_12 hr_12 => ?_)
        have hr_12 : ∃ w, r_12 = nI w ∧ w < 100000000 ∧ (w = dV f u_1.2.1 (u_1.2.2 - u_1.2.1) ∨ (1000000 ≤ w ∧ 1000000 ≤ dV f u_1.2.1 (u_1.2.2 - u_1.2.1))) := hr_12
        obtain ⟨w, hw, hw8, hwv⟩ := hr_12
        refine lv_istore (lv' := [(4, .int (r_12)), (3, .int (1)), (0, .ref (x 0)), (1, .int (nI lo)), (2, .int (nI hi))]) hx hb dX5_readNumber_50 hl (by decide) rfl (fun ls hl => ?_)
        refine lv_iload_n hx hb dX5_readNumber_52 rfl (lv_at hl 1 rfl) ?_
        refine if_ne_t (tgt := 71) hx hb (by decide) dX5_readNumber_53 (by decide) ?_
        refine lv_iconst (v := -1) hx hb dX5_readNumber_71 (by decide) ?_
        exact wr_iret (v := -1) ((u_1.1, u_1.2.1, u_1.2.2)) hx hb hr hlocks hS hP hD [0, 1] rfl rfl (by decide) dX5_readNumber_72 (⟨hu_1, Or.inr ⟨fun ⟨v, q, _⟩ => q.2.1 ⟨c_4, by have := hlong; omega⟩, rfl⟩⟩)
  · -- c_2: not nI u_1.1 = 2
    refine lv_iconst (v := -1) hx hb dX5_readNumber_12 (by decide) ?_
    exact wr_iret (v := -1) ((u_1.1, u_1.2.1, u_1.2.2)) hx hb hr hlocks hS hP hD [0, 1] rfl rfl (by decide) dX5_readNumber_13 (⟨hu_1, Or.inr ⟨fun ⟨v, q, _⟩ => c_2 (by rw [q.1]; rfl), rfl⟩⟩)
set_option maxHeartbeats 4000000 in
set_option maxRecDepth 100000 in
theorem c_X5_readSemicolon (l : Launch) (D : va_G) (cI cC cB cS : ClassId) (zz : Nat) (x : Nat → Nat) (L : Nat) (tk : Nat) (ts : Nat) (te : Nat) (f : Nat → Int32) (hL : L ≤ 120) (hch : Chr f) (hte : te ≤ L) : Met l yX5_readSemicolon wsX5_readSemicolon ({ frames := 3, cells := 0, slots := 0, locals := 66 } : Room) (wrPc D (TYS cI cC cB cS) [.ref (x 0)] (wXk cC x L tk ts te f) zz) (va_Qi (fun (r : Int32) (u : Nat × Nat × Nat) => Tok f L te u.1 u.2.1 u.2.2 ∧ Yes (Semi f u.1 u.2.1) r) (wrB D (va_A (wXk cC x L tk ts te f) zz) (fun u => wXk cC x L u.1 u.2.1 u.2.2 f)) (va_A (wXk cC x L tk ts te f) zz)) 0 0 (va_A (wXk cC x L tk ts te f) zz) := by
  refine wr_intro (Qc := fun A B => va_Qi (fun (r : Int32) (u : Nat × Nat × Nat) => Tok f L te u.1 u.2.1 u.2.2 ∧ Yes (Semi f u.1 u.2.1) r) B A) (by decide) rfl (Nat.le_of_ble_eq_true rfl) ?_
  intro p e s m below meth c A hx hb hr hml hts hown hlocks hin hP hK hD hA hS ls hl
  have hP : va_P D vwCl [(x 0, oE 5 [.int (nI L), .ref (x 1), .int (nI tk), .int (nI ts), .int (nI te)]), (x 1, iE cC 120 (f))] s.heap := hP
  have hD : va_D A [(x 0, oE 5 [.int (nI L), .ref (x 1), .int (nI tk), .int (nI ts), .int (nI te)]), (x 1, iE cC 120 (f))] := hD
  have hown : s.vm.findClass RX5 = some m.cls := hown
  have hl : lv_has ls 1 [(0, .ref (x 0))] := hl
  refine lv_aload_n hx hb dX5_readSemicolon_0 rfl (lv_at hl 0 rfl) ?_
  refine cv_wv (As := []) (rest := []) (tys := TYS cI cC cB cS) (ci := 5) (wr := []) ⟨hx, hb, hml, hown, hts⟩ (c_X5_readToken l D cI cC cB cS _ (x) (L) (tk) (ts) (te) (f) (hL) (hch) (hte)) (cwV 0 hts gX5_readSemicolon_X5_readToken rfl rfl rfl (by decide +kernel) ⟨Nat.le_of_ble_eq_true rfl, Nat.le_of_ble_eq_true rfl⟩) hK hP hD hS hA [0, 1] [] rfl rfl (by decide) (by decide) (by decide) rfl rfl rfl rfl hl.1 (Nat.le_of_ble_eq_true rfl) dX5_readSemicolon_1 ⟨Nat.le_of_ble_eq_true rfl, Nat.le_of_ble_eq_true rfl⟩ (fun u_1 H locs hu_1 hP hD hS => ?_)
  have hP : va_P D vwCl [(x 0, oE 5 [.int (nI L), .ref (x 1), .int (nI u_1.1), .int (nI u_1.2.1), .int (nI u_1.2.2)]), (x 1, iE cC 120 (f))] H := hP
  have hD : va_D A [(x 0, oE 5 [.int (nI L), .ref (x 1), .int (nI u_1.1), .int (nI u_1.2.1), .int (nI u_1.2.2)]), (x 1, iE cC 120 (f))] := hD
  have hu_1 : Tok f L te u_1.1 u_1.2.1 u_1.2.2 := hu_1
  have hle_u_1 := Tok.le hu_1 hte
  refine lv_aload_n hx hb dX5_readSemicolon_4 rfl (lv_at hl 0 rfl) ?_
  refine va_get (D := D) (ci := 5) (v := .int (nI u_1.1)) (C := RX5) (T := TX5) (N := 5) hx hb hts (by decide +kernel) hown hK.1 hP 0 rfl rfl 2 (by decide) (hts (.fieldLink RX5 19 "ParkingGarage$Text" "tokenKind" "I") (by decide +kernel)) (fun _ h9 => h9) rfl dX5_readSemicolon_5 ?_
  refine lv_iconst (v := 3) hx hb dX5_readSemicolon_8 (by decide) ?_
  refine lv_icmp_ne (tgt := 29) hx hb dX5_readSemicolon_9 (by decide) (fun c_2 => ?_) (fun c_2 => ?_)
  · -- c_2: nI u_1.1 ≠ 3
    refine lv_iconst (v := 0) hx hb dX5_readSemicolon_29 (by decide) ?_
    exact wr_zret (v := 0) ((u_1.1, u_1.2.1, u_1.2.2)) hx hb hr (by decide) hlocks hS hP hD [0, 1] rfl rfl (by decide) dX5_readSemicolon_30 (⟨hu_1, Or.inr ⟨rfl, fun q => c_2 (by rw [q.1]; rfl)⟩⟩)
  · -- c_2: not nI u_1.1 ≠ 3
    have hk3 : u_1.1 = 3 := (nI_eq (b := 3) (by have := Tok.k_lt hu_1; omega) (by omega)).mp c_2
    have hkn : u_1.1 ≠ 0 := by omega
    refine lv_aload_n hx hb dX5_readSemicolon_12 rfl (lv_at hl 0 rfl) ?_
    refine lv_aload_n hx hb dX5_readSemicolon_13 rfl (lv_at hl 0 rfl) ?_
    refine va_get (D := D) (ci := 5) (v := .int (nI u_1.2.1)) (C := RX5) (T := TX5) (N := 5) hx hb hts (by decide +kernel) hown hK.1 hP 0 rfl rfl 3 (by decide) (hts (.fieldLink RX5 22 "ParkingGarage$Text" "tokenStart" "I") (by decide +kernel)) (fun _ h9 => h9) rfl dX5_readSemicolon_14 ?_
    refine cv_i (As := [.int (nI u_1.2.1)]) (rest := []) (tys := TYS cI cC cB cS) (ci := 5) ⟨hx, hb, hml, hown, hts⟩ (c_X5_characterAt l D cI cC cB cS (x) (L) (u_1.1) (u_1.2.1) (u_1.2.2) (f) (u_1.2.1) (hL) (hch) (by omega)) (cwV 1 hts gX5_readSemicolon_X5_characterAt rfl rfl rfl (by decide +kernel) ⟨Nat.le_of_ble_eq_true rfl, Nat.le_of_ble_eq_true rfl⟩) hK hP [0, 1] rfl rfl rfl rfl rfl hl.1 (Nat.le_of_ble_eq_true rfl) dX5_readSemicolon_17 ⟨Nat.le_of_ble_eq_true rfl, Nat.le_of_ble_eq_true rfl⟩ (fun r_3 hr_3 => ?_)
    have hr_3 : r_3 = if u_1.2.1 < L then f u_1.2.1 else 32 := hr_3
    rw [if_pos (Tok.lt hu_1 hkn)] at hr_3
    rw [hr_3]
    refine lv_bipush (v := 59) hx hb dX5_readSemicolon_20 (by decide) ?_
    refine lv_icmp_ne (tgt := 29) hx hb dX5_readSemicolon_22 (by decide) (fun c_4 => ?_) (fun c_4 => ?_)
    · -- c_4: f u_1.2.1 ≠ 59
      refine lv_iconst (v := 0) hx hb dX5_readSemicolon_29 (by decide) ?_
      exact wr_zret (v := 0) ((u_1.1, u_1.2.1, u_1.2.2)) hx hb hr (by decide) hlocks hS hP hD [0, 1] rfl rfl (by decide) dX5_readSemicolon_30 (⟨hu_1, Or.inr ⟨rfl, fun q => c_4 q.2⟩⟩)
    · -- c_4: not f u_1.2.1 ≠ 59
      refine lv_iconst (v := 1) hx hb dX5_readSemicolon_25 (by decide) ?_
      refine lv_goto (tgt := 30) hx hb dX5_readSemicolon_26 (by decide) ?_
      exact wr_zret (v := 1) ((u_1.1, u_1.2.1, u_1.2.2)) hx hb hr (by decide) hlocks hS hP hD [0, 1] rfl rfl (by decide) dX5_readSemicolon_30 (⟨hu_1, Or.inl ⟨rfl, hk3, c_4⟩⟩)
set_option maxHeartbeats 4000000 in
set_option maxRecDepth 100000 in
theorem c_X5_readSize (l : Launch) (D : va_G) (cI cC cB cS : ClassId) (zz : Nat) (tL tG : Nat) (aK aV : Nat → Nat) (x : Nat → Nat) (L : Nat) (tk : Nat) (ts : Nat) (te : Nat) (f : Nat → Int32) (hL : L ≤ 120) (hch : Chr f) (hte : te ≤ L) : Met l yX5_readSize wsX5_readSize ({ frames := 5, cells := 0, slots := 0, locals := 107 } : Room) (zwPc D (TYS cI cC cB cS) [.ref (x 0)] (wXk cC x L tk ts te f) zz tL tG aK aV) (va_Qi (fun (r : Int32) (u : Nat × Nat × Nat) => Tok f L te u.1 u.2.1 u.2.2 ∧ SizeR f u.1 u.2.1 u.2.2 r) (wrB D (va_A (wXk cC x L tk ts te f) zz) (fun u => wXk cC x L u.1 u.2.1 u.2.2 f)) (va_A (wXk cC x L tk ts te f) zz)) 0 0 (va_A (wXk cC x L tk ts te f) zz) := by
  refine zw_intro (Qc := fun A B => va_Qi (fun (r : Int32) (u : Nat × Nat × Nat) => Tok f L te u.1 u.2.1 u.2.2 ∧ SizeR f u.1 u.2.1 u.2.2 r) B A) (by decide) rfl (Nat.le_of_ble_eq_true rfl) ?_
  intro p e s m below meth c A hx hb hr hml hts hown hlocks hin hP hK hD hA hS hZ ls hl
  have hP : va_P D vwCl [(x 0, oE 5 [.int (nI L), .ref (x 1), .int (nI tk), .int (nI ts), .int (nI te)]), (x 1, iE cC 120 (f))] s.heap := hP
  have hD : va_D A [(x 0, oE 5 [.int (nI L), .ref (x 1), .int (nI tk), .int (nI ts), .int (nI te)]), (x 1, iE cC 120 (f))] := hD
  have hown : s.vm.findClass RX5 = some m.cls := hown
  have hl : lv_has ls 1 [(0, .ref (x 0))] := hl
  refine lv_aload_n hx hb dX5_readSize_0 rfl (lv_at hl 0 rfl) ?_
  refine cv_wv (As := []) (rest := []) (tys := TYS cI cC cB cS) (ci := 5) (wr := []) ⟨hx, hb, hml, hown, hts⟩ (c_X5_readToken l D cI cC cB cS _ (x) (L) (tk) (ts) (te) (f) (hL) (hch) (hte)) (cwV 0 hts gX5_readSize_X5_readToken rfl rfl rfl (by decide +kernel) ⟨Nat.le_of_ble_eq_true rfl, Nat.le_of_ble_eq_true rfl⟩) hK hP hD hS hA [0, 1] [] rfl rfl (by decide) (by decide) (by decide) rfl rfl rfl rfl hl.1 (Nat.le_of_ble_eq_true rfl) dX5_readSize_1 ⟨Nat.le_of_ble_eq_true rfl, Nat.le_of_ble_eq_true rfl⟩ (fun u_1 H locs hu_1 hP hD hS => ?_)
  have hP : va_P D vwCl [(x 0, oE 5 [.int (nI L), .ref (x 1), .int (nI u_1.1), .int (nI u_1.2.1), .int (nI u_1.2.2)]), (x 1, iE cC 120 (f))] H := hP
  have hD : va_D A [(x 0, oE 5 [.int (nI L), .ref (x 1), .int (nI u_1.1), .int (nI u_1.2.1), .int (nI u_1.2.2)]), (x 1, iE cC 120 (f))] := hD
  have hu_1 : Tok f L te u_1.1 u_1.2.1 u_1.2.2 := hu_1
  have hle_u_1 := Tok.le hu_1 hte
  refine lv_aload_n hx hb dX5_readSize_4 rfl (lv_at hl 0 rfl) ?_
  refine va_ldcS hx hb hown (hZ.2.2.2.2.2.2.2 4 (by decide)) dX5_readSize_5 ?_
  refine cz_v (As := [.ref (aK 4)]) (rest := []) (tys := TYS cI cC cB cS) (ci := 5) ⟨hx, hb, hml, hown, hts⟩ (c_X5_isWord l D cI cC cB cS tL tG aK aV (x) (L) (u_1.1) (u_1.2.1) (u_1.2.2) (f) (4) (hL) (hch) (by omega) (by omega) (by decide) (Tok.k_lt hu_1)) (cwV 1 hts gX5_readSize_X5_isWord rfl rfl rfl (by decide +kernel) ⟨Nat.le_of_ble_eq_true rfl, Nat.le_of_ble_eq_true rfl⟩) hK hP hZ hS [0, 1] rfl rfl rfl rfl rfl hl.1 (Nat.le_of_ble_eq_true rfl) dX5_readSize_7 ⟨Nat.le_of_ble_eq_true rfl, Nat.le_of_ble_eq_true rfl⟩ (fun r_2 hr_2 => ?_)
  rcases (show Yes (Wrd f u_1.1 u_1.2.1 u_1.2.2 4) r_2 from hr_2) with ⟨rfl, h_3⟩ | ⟨rfl, h_3⟩
  · -- X5_isWord t
    refine if_eq_f (tgt := 15) hx hb (by decide) dX5_readSize_10 (by decide) ?_
    refine lv_iconst (v := 0) hx hb dX5_readSize_13 (by decide) ?_
    exact wr_iret (v := 0) ((u_1.1, u_1.2.1, u_1.2.2)) hx hb hr hlocks hS hP hD [0, 1] rfl rfl (by decide) dX5_readSize_14 (⟨hu_1, Or.inl ⟨h_3, rfl⟩⟩)
  · -- X5_isWord f
    refine if_eq_t (tgt := 15) hx hb rfl dX5_readSize_10 (by decide) ?_
    refine lv_aload_n hx hb dX5_readSize_15 rfl (lv_at hl 0 rfl) ?_
    refine va_ldcS hx hb hown (hZ.2.2.2.2.2.2.2 5 (by decide)) dX5_readSize_16 ?_
    refine cz_v (As := [.ref (aK 5)]) (rest := []) (tys := TYS cI cC cB cS) (ci := 5) ⟨hx, hb, hml, hown, hts⟩ (c_X5_isWord l D cI cC cB cS tL tG aK aV (x) (L) (u_1.1) (u_1.2.1) (u_1.2.2) (f) (5) (hL) (hch) (by omega) (by omega) (by decide) (Tok.k_lt hu_1)) (cwV 1 hts gX5_readSize_X5_isWord rfl rfl rfl (by decide +kernel) ⟨Nat.le_of_ble_eq_true rfl, Nat.le_of_ble_eq_true rfl⟩) hK hP hZ hS [0, 1] rfl rfl rfl rfl rfl hl.1 (Nat.le_of_ble_eq_true rfl) dX5_readSize_18 ⟨Nat.le_of_ble_eq_true rfl, Nat.le_of_ble_eq_true rfl⟩ (fun r_4 hr_4 => ?_)
    rcases (show Yes (Wrd f u_1.1 u_1.2.1 u_1.2.2 5) r_4 from hr_4) with ⟨rfl, h_5⟩ | ⟨rfl, h_5⟩
    · -- X5_isWord t
      refine if_eq_f (tgt := 26) hx hb (by decide) dX5_readSize_21 (by decide) ?_
      refine lv_iconst (v := 1) hx hb dX5_readSize_24 (by decide) ?_
      exact wr_iret (v := 1) ((u_1.1, u_1.2.1, u_1.2.2)) hx hb hr hlocks hS hP hD [0, 1] rfl rfl (by decide) dX5_readSize_25 (⟨hu_1, Or.inr ⟨h_3, Or.inl ⟨h_5, rfl⟩⟩⟩)
    · -- X5_isWord f
      refine if_eq_t (tgt := 26) hx hb rfl dX5_readSize_21 (by decide) ?_
      refine lv_aload_n hx hb dX5_readSize_26 rfl (lv_at hl 0 rfl) ?_
      refine va_ldcS hx hb hown (hZ.2.2.2.2.2.2.2 6 (by decide)) dX5_readSize_27 ?_
      refine cz_v (As := [.ref (aK 6)]) (rest := []) (tys := TYS cI cC cB cS) (ci := 5) ⟨hx, hb, hml, hown, hts⟩ (c_X5_isWord l D cI cC cB cS tL tG aK aV (x) (L) (u_1.1) (u_1.2.1) (u_1.2.2) (f) (6) (hL) (hch) (by omega) (by omega) (by decide) (Tok.k_lt hu_1)) (cwV 1 hts gX5_readSize_X5_isWord rfl rfl rfl (by decide +kernel) ⟨Nat.le_of_ble_eq_true rfl, Nat.le_of_ble_eq_true rfl⟩) hK hP hZ hS [0, 1] rfl rfl rfl rfl rfl hl.1 (Nat.le_of_ble_eq_true rfl) dX5_readSize_29 ⟨Nat.le_of_ble_eq_true rfl, Nat.le_of_ble_eq_true rfl⟩ (fun r_6 hr_6 => ?_)
      rcases (show Yes (Wrd f u_1.1 u_1.2.1 u_1.2.2 6) r_6 from hr_6) with ⟨rfl, h_7⟩ | ⟨rfl, h_7⟩
      · -- X5_isWord t
        refine if_eq_f (tgt := 39) hx hb (by decide) dX5_readSize_32 (by decide) ?_
        refine lv_iconst (v := 2) hx hb dX5_readSize_35 (by decide) ?_
        refine lv_goto (tgt := 40) hx hb dX5_readSize_36 (by decide) ?_
        exact wr_iret (v := 2) ((u_1.1, u_1.2.1, u_1.2.2)) hx hb hr hlocks hS hP hD [0, 1] rfl rfl (by decide) dX5_readSize_40 (⟨hu_1, Or.inr ⟨h_3, Or.inr ⟨h_5, Or.inl ⟨h_7, rfl⟩⟩⟩⟩)
      · -- X5_isWord f
        refine if_eq_t (tgt := 39) hx hb rfl dX5_readSize_32 (by decide) ?_
        refine lv_iconst (v := -1) hx hb dX5_readSize_39 (by decide) ?_
        exact wr_iret (v := -1) ((u_1.1, u_1.2.1, u_1.2.2)) hx hb hr hlocks hS hP hD [0, 1] rfl rfl (by decide) dX5_readSize_40 (⟨hu_1, Or.inr ⟨h_3, Or.inr ⟨h_5, Or.inr ⟨h_7, rfl⟩⟩⟩⟩)
set_option maxHeartbeats 4000000 in
set_option maxRecDepth 100000 in
theorem c_X5_readTariff (l : Launch) (D : va_G) (cI cC cB cS : ClassId) (zz : Nat) (tL tG : Nat) (aK aV : Nat → Nat) (x : Nat → Nat) (L : Nat) (tk : Nat) (ts : Nat) (te : Nat) (f : Nat → Int32) (hL : L ≤ 120) (hch : Chr f) (hte : te ≤ L) : Met l yX5_readTariff wsX5_readTariff ({ frames := 5, cells := 0, slots := 0, locals := 107 } : Room) (zwPc D (TYS cI cC cB cS) [.ref (x 0)] (wXk cC x L tk ts te f) zz tL tG aK aV) (va_Qi (fun (r : Int32) (u : Nat × Nat × Nat) => Tok f L te u.1 u.2.1 u.2.2 ∧ TarR f u.1 u.2.1 u.2.2 r) (wrB D (va_A (wXk cC x L tk ts te f) zz) (fun u => wXk cC x L u.1 u.2.1 u.2.2 f)) (va_A (wXk cC x L tk ts te f) zz)) 0 0 (va_A (wXk cC x L tk ts te f) zz) := by
  refine zw_intro (Qc := fun A B => va_Qi (fun (r : Int32) (u : Nat × Nat × Nat) => Tok f L te u.1 u.2.1 u.2.2 ∧ TarR f u.1 u.2.1 u.2.2 r) B A) (by decide) rfl (Nat.le_of_ble_eq_true rfl) ?_
  intro p e s m below meth c A hx hb hr hml hts hown hlocks hin hP hK hD hA hS hZ ls hl
  have hP : va_P D vwCl [(x 0, oE 5 [.int (nI L), .ref (x 1), .int (nI tk), .int (nI ts), .int (nI te)]), (x 1, iE cC 120 (f))] s.heap := hP
  have hD : va_D A [(x 0, oE 5 [.int (nI L), .ref (x 1), .int (nI tk), .int (nI ts), .int (nI te)]), (x 1, iE cC 120 (f))] := hD
  have hown : s.vm.findClass RX5 = some m.cls := hown
  have hl : lv_has ls 1 [(0, .ref (x 0))] := hl
  refine lv_aload_n hx hb dX5_readTariff_0 rfl (lv_at hl 0 rfl) ?_
  refine cv_wv (As := []) (rest := []) (tys := TYS cI cC cB cS) (ci := 5) (wr := []) ⟨hx, hb, hml, hown, hts⟩ (c_X5_readToken l D cI cC cB cS _ (x) (L) (tk) (ts) (te) (f) (hL) (hch) (hte)) (cwV 0 hts gX5_readTariff_X5_readToken rfl rfl rfl (by decide +kernel) ⟨Nat.le_of_ble_eq_true rfl, Nat.le_of_ble_eq_true rfl⟩) hK hP hD hS hA [0, 1] [] rfl rfl (by decide) (by decide) (by decide) rfl rfl rfl rfl hl.1 (Nat.le_of_ble_eq_true rfl) dX5_readTariff_1 ⟨Nat.le_of_ble_eq_true rfl, Nat.le_of_ble_eq_true rfl⟩ (fun u_1 H locs hu_1 hP hD hS => ?_)
  have hP : va_P D vwCl [(x 0, oE 5 [.int (nI L), .ref (x 1), .int (nI u_1.1), .int (nI u_1.2.1), .int (nI u_1.2.2)]), (x 1, iE cC 120 (f))] H := hP
  have hD : va_D A [(x 0, oE 5 [.int (nI L), .ref (x 1), .int (nI u_1.1), .int (nI u_1.2.1), .int (nI u_1.2.2)]), (x 1, iE cC 120 (f))] := hD
  have hu_1 : Tok f L te u_1.1 u_1.2.1 u_1.2.2 := hu_1
  have hle_u_1 := Tok.le hu_1 hte
  refine lv_aload_n hx hb dX5_readTariff_4 rfl (lv_at hl 0 rfl) ?_
  refine va_ldcS hx hb hown (hZ.2.2.2.2.2.2.2 7 (by decide)) dX5_readTariff_5 ?_
  refine cz_v (As := [.ref (aK 7)]) (rest := []) (tys := TYS cI cC cB cS) (ci := 5) ⟨hx, hb, hml, hown, hts⟩ (c_X5_isWord l D cI cC cB cS tL tG aK aV (x) (L) (u_1.1) (u_1.2.1) (u_1.2.2) (f) (7) (hL) (hch) (by omega) (by omega) (by decide) (Tok.k_lt hu_1)) (cwV 1 hts gX5_readTariff_X5_isWord rfl rfl rfl (by decide +kernel) ⟨Nat.le_of_ble_eq_true rfl, Nat.le_of_ble_eq_true rfl⟩) hK hP hZ hS [0, 1] rfl rfl rfl rfl rfl hl.1 (Nat.le_of_ble_eq_true rfl) dX5_readTariff_7 ⟨Nat.le_of_ble_eq_true rfl, Nat.le_of_ble_eq_true rfl⟩ (fun r_2 hr_2 => ?_)
  rcases (show Yes (Wrd f u_1.1 u_1.2.1 u_1.2.2 7) r_2 from hr_2) with ⟨rfl, h_3⟩ | ⟨rfl, h_3⟩
  · -- X5_isWord t
    refine if_eq_f (tgt := 15) hx hb (by decide) dX5_readTariff_10 (by decide) ?_
    refine lv_iconst (v := 0) hx hb dX5_readTariff_13 (by decide) ?_
    exact wr_iret (v := 0) ((u_1.1, u_1.2.1, u_1.2.2)) hx hb hr hlocks hS hP hD [0, 1] rfl rfl (by decide) dX5_readTariff_14 (⟨hu_1, Or.inl ⟨h_3, rfl⟩⟩)
  · -- X5_isWord f
    refine if_eq_t (tgt := 15) hx hb rfl dX5_readTariff_10 (by decide) ?_
    refine lv_aload_n hx hb dX5_readTariff_15 rfl (lv_at hl 0 rfl) ?_
    refine va_ldcS hx hb hown (hZ.2.2.2.2.2.2.2 8 (by decide)) dX5_readTariff_16 ?_
    refine cz_v (As := [.ref (aK 8)]) (rest := []) (tys := TYS cI cC cB cS) (ci := 5) ⟨hx, hb, hml, hown, hts⟩ (c_X5_isWord l D cI cC cB cS tL tG aK aV (x) (L) (u_1.1) (u_1.2.1) (u_1.2.2) (f) (8) (hL) (hch) (by omega) (by omega) (by decide) (Tok.k_lt hu_1)) (cwV 1 hts gX5_readTariff_X5_isWord rfl rfl rfl (by decide +kernel) ⟨Nat.le_of_ble_eq_true rfl, Nat.le_of_ble_eq_true rfl⟩) hK hP hZ hS [0, 1] rfl rfl rfl rfl rfl hl.1 (Nat.le_of_ble_eq_true rfl) dX5_readTariff_18 ⟨Nat.le_of_ble_eq_true rfl, Nat.le_of_ble_eq_true rfl⟩ (fun r_4 hr_4 => ?_)
    rcases (show Yes (Wrd f u_1.1 u_1.2.1 u_1.2.2 8) r_4 from hr_4) with ⟨rfl, h_5⟩ | ⟨rfl, h_5⟩
    · -- X5_isWord t
      refine if_eq_f (tgt := 28) hx hb (by decide) dX5_readTariff_21 (by decide) ?_
      refine lv_iconst (v := 1) hx hb dX5_readTariff_24 (by decide) ?_
      refine lv_goto (tgt := 29) hx hb dX5_readTariff_25 (by decide) ?_
      exact wr_iret (v := 1) ((u_1.1, u_1.2.1, u_1.2.2)) hx hb hr hlocks hS hP hD [0, 1] rfl rfl (by decide) dX5_readTariff_29 (⟨hu_1, Or.inr ⟨h_3, Or.inl ⟨h_5, rfl⟩⟩⟩)
    · -- X5_isWord f
      refine if_eq_t (tgt := 28) hx hb rfl dX5_readTariff_21 (by decide) ?_
      refine lv_iconst (v := -1) hx hb dX5_readTariff_28 (by decide) ?_
      exact wr_iret (v := -1) ((u_1.1, u_1.2.1, u_1.2.2)) hx hb hr hlocks hS hP hD [0, 1] rfl rfl (by decide) dX5_readTariff_29 (⟨hu_1, Or.inr ⟨h_3, Or.inr ⟨h_5, rfl⟩⟩⟩)
