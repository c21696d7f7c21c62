/-! ===== the reference: load (laid by wip/whole/gen) ===== -/
set_option maxHeartbeats 4000000 in
set_option maxRecDepth 100000 in
theorem c_X7_load (l : Launch) (D : va_G) (cI cC cB cS : ClassId) (zz : Nat) (ma : Nat → Nat) (fi : Nat → Int32) (wd : Int64) (L : Nat) (f : Nat → Int32) (g : Nat → Nat → Int32) (lf : Int32) (nx : Int32) (bg : Int32) (nm : Int32) (wr : Int32) (n : Nat) (q : Nat) (tn : Nat) (tu : Nat) (np : Nat) (Pp : Nat → Int32) (hs : Nat → Nat → Nat → Int32) (lfs : Nat → Int32) (E : Nat → Int32) (hL : L ≤ 120) (hch : Chr f) (hNs : Nums g n q tn tu) (hnp : np ≤ 6) (hPR : PRel Pp np hs lfs) : Met l yX7_load wsX7_load ({ frames := 6, cells := 0, slots := 0, locals := 134 } : Room) (wrPc D (TYS cI cC cB cS) [.ref (ma 0)] ([(ma 0, oE 7 [.ref (ma 1), .ref (ma 2), .int (nI np), .ref (ma 3), .ref (ma 4), .int (nI L), .int (nx), .int (bg), .long (wd), .int (nm), .int (wr)]), (ma 1, iE cI 382 (enc g lf)), (ma 2, iE cI 2292 (Pp)), (ma 3, iE cI 382 (E)), (ma 4, iE cB 120 (bt f))]) zz) (va_Qi (fun (r : Int32) (u : MLT) => OloadM f L g lf np hs lfs Pp r u) (wrB D (va_A ([(ma 0, oE 7 [.ref (ma 1), .ref (ma 2), .int (nI np), .ref (ma 3), .ref (ma 4), .int (nI L), .int (nx), .int (bg), .long (wd), .int (nm), .int (wr)]), (ma 1, iE cI 382 (enc g lf)), (ma 2, iE cI 2292 (Pp)), (ma 3, iE cI 382 (E)), (ma 4, iE cB 120 (bt f))]) zz) (fun u => [(ma 0, oE 7 [.ref (ma 1), .ref (ma 2), .int (nI u.1.2.2.1), .ref (ma 3), .ref (ma 4), .int (nI u.2.1), .int (u.2.2.1.1), .int (u.2.2.1.2.1), .long (u.2.2.1.2.2.2.2), .int (u.2.2.1.2.2.1), .int (u.2.2.1.2.2.2.1)]), (ma 1, iE cI 382 (enc u.1.1 u.1.2.1)), (ma 2, iE cI 2292 (u.1.2.2.2.2.2)), (ma 3, iE cI 382 (u.2.2.2)), (ma 4, iE cB 120 (bt f))])) (va_A ([(ma 0, oE 7 [.ref (ma 1), .ref (ma 2), .int (nI np), .ref (ma 3), .ref (ma 4), .int (nI L), .int (nx), .int (bg), .long (wd), .int (nm), .int (wr)]), (ma 1, iE cI 382 (enc g lf)), (ma 2, iE cI 2292 (Pp)), (ma 3, iE cI 382 (E)), (ma 4, iE cB 120 (bt f))]) zz)) 0 0 (va_A ([(ma 0, oE 7 [.ref (ma 1), .ref (ma 2), .int (nI np), .ref (ma 3), .ref (ma 4), .int (nI L), .int (nx), .int (bg), .long (wd), .int (nm), .int (wr)]), (ma 1, iE cI 382 (enc g lf)), (ma 2, iE cI 2292 (Pp)), (ma 3, iE cI 382 (E)), (ma 4, iE cB 120 (bt f))]) zz) := by
  refine wr_intro (Qc := fun A B => va_Qi (fun (r : Int32) (u : MLT) => OloadM f L g lf np hs lfs Pp r u) B A) (by decide) rfl (Nat.le_of_ble_eq_true rfl) ?_
  intro p e s m below meth c A hx hb hr hml hts hown hlocks hin hP hK hD hA hS ls hl
  have hP : va_P D vwCl [(ma 0, oE 7 [.ref (ma 1), .ref (ma 2), .int (nI np), .ref (ma 3), .ref (ma 4), .int (nI L), .int (nx), .int (bg), .long (wd), .int (nm), .int (wr)]), (ma 1, iE cI 382 (enc g lf)), (ma 2, iE cI 2292 (Pp)), (ma 3, iE cI 382 (E)), (ma 4, iE cB 120 (bt f))] s.heap := hP
  have hD : va_D A [(ma 0, oE 7 [.ref (ma 1), .ref (ma 2), .int (nI np), .ref (ma 3), .ref (ma 4), .int (nI L), .int (nx), .int (bg), .long (wd), .int (nm), .int (wr)]), (ma 1, iE cI 382 (enc g lf)), (ma 2, iE cI 2292 (Pp)), (ma 3, iE cI 382 (E)), (ma 4, iE cB 120 (bt f))] := hD
  have hown : s.vm.findClass RX7 = some m.cls := hown
  have hl : lv_has ls 2 [(0, .ref (ma 0))] := hl
  refine lv_iconst (v := 0) hx hb dX7_load_0 (by decide) ?_
  refine lv_istore_n (lv' := [(1, .int (0)), (0, .ref (ma 0))]) hx hb dX7_load_1 rfl hl (by decide) rfl (fun ls hl => ?_)
  have hloop : ∀ (d i : Nat), i ≤ 382 → 382 - i < d → ∀ (H : Heap) (locs : List Loc), va_P D vwCl [(ma 0, oE 7 [.ref (ma 1), .ref (ma 2), .int (nI np), .ref (ma 3), .ref (ma 4), .int (nI L), .int (nx), .int (bg), .long (wd), .int (nm), .int (wr)]), (ma 1, iE cI 382 (enc g lf)), (ma 2, iE cI 2292 (Pp)), (ma 3, iE cI 382 (cp1 E (enc g lf) i)), (ma 4, iE cB 120 (bt f))] H → va_D A [(ma 0, oE 7 [.ref (ma 1), .ref (ma 2), .int (nI np), .ref (ma 3), .ref (ma 4), .int (nI L), .int (nx), .int (bg), .long (wd), .int (nm), .int (wr)]), (ma 1, iE cI 382 (enc g lf)), (ma 2, iE cI 2292 (Pp)), (ma 3, iE cI 382 (cp1 E (enc g lf) i)), (ma 4, iE cB 120 (bt f))] → va_S A s.heap H locs → ∀ ls : Array Slot, lv_has ls 2 [(1, .int (nI i)), (0, .ref (ma 0))] → W p l e ({ frames := 6, cells := 0, slots := 0, locals := 134 } : Room) s m (([.ref (ma 0)] : List Value).toArray) below meth c H locs 0 0 (MQ below (va_Qi (fun (r : Int32) (u : MLT) => OloadM f L g lf np hs lfs Pp r u) (wrB D A (fun u => [(ma 0, oE 7 [.ref (ma 1), .ref (ma 2), .int (nI u.1.2.2.1), .ref (ma 3), .ref (ma 4), .int (nI u.2.1), .int (u.2.2.1.1), .int (u.2.2.1.2.1), .long (u.2.2.1.2.2.2.2), .int (u.2.2.1.2.2.1), .int (u.2.2.1.2.2.2.1)]), (ma 1, iE cI 382 (enc u.1.1 u.1.2.1)), (ma 2, iE cI 2292 (u.1.2.2.2.2.2)), (ma 3, iE cI 382 (u.2.2.2)), (ma 4, iE cB 120 (bt f))])) A) (([.ref (ma 0)] : List Value).toArray) s 0 0 A) (F0 m 2 ls []) := by
    intro d
    induction d with
    | zero => intro i _ h2; exact absurd h2 (Nat.not_lt_zero _)
    | succ d ih =>
      intro i hi hd H locs hP hD hS ls hl
      refine lv_iload_n hx hb dX7_load_2 rfl (lv_at hl 0 rfl) ?_
      refine lv_sipush (v := 382) hx hb dX7_load_3 (by decide) ?_
      refine lv_icmp_ge (tgt := 27) hx hb dX7_load_6 (by decide) (fun c_1 => ?_) (fun c_1 => ?_)
      · -- c_1: nI i ≥ 382
        have hge2 : i = 382 := nI_geD (n := 382) rfl hi (by omega) c_1
        rw [hge2] at hP hD
        have hP := va_P_ext (h := enc g lf) 3 rfl (fun j hj => cp1_all hj) hP
        have hD := va_D.set (p := 3) (e := iE cI 382 (enc g lf)) hD rfl
        have hP : va_P D vwCl [(ma 0, oE 7 [.ref (ma 1), .ref (ma 2), .int (nI np), .ref (ma 3), .ref (ma 4), .int (nI L), .int (nx), .int (bg), .long (wd), .int (nm), .int (wr)]), (ma 1, iE cI 382 (enc g lf)), (ma 2, iE cI 2292 (Pp)), (ma 3, iE cI 382 (enc g lf)), (ma 4, iE cB 120 (bt f))] H := hP
        have hD : va_D A [(ma 0, oE 7 [.ref (ma 1), .ref (ma 2), .int (nI np), .ref (ma 3), .ref (ma 4), .int (nI L), .int (nx), .int (bg), .long (wd), .int (nm), .int (wr)]), (ma 1, iE cI 382 (enc g lf)), (ma 2, iE cI 2292 (Pp)), (ma 3, iE cI 382 (enc g lf)), (ma 4, iE cB 120 (bt f))] := hD
        refine lv_aload_n hx hb dX7_load_27 rfl (lv_at hl 1 rfl) ?_
        refine cv_wi (As := []) (rest := []) (tys := TYS cI cC cB cS) (ci := 7) (wr := [(ma 2, iE cI 2292 (Pp)), (ma 3, iE cI 382 (enc g lf))]) ⟨hx, hb, hml, hown, hts⟩ (c_X7_reads l D cI cC cB cS _ (ma) ((fun _ => nI np)) (wd) (L) (f) (g) (lf) (nx) (bg) (nm) (wr) (n) (q) (tn) (tu) (hL) (hch) (hNs)) (cwV 0 hts gX7_load_X7_reads rfl rfl rfl (by decide +kernel) ⟨Nat.le_of_ble_eq_true rfl, Nat.le_of_ble_eq_true rfl⟩) hK hP hD hS hA [0, 1, 4] [2, 3] rfl rfl (by decide) (by decide) (by decide) rfl rfl rfl rfl hl.1 (Nat.le_of_ble_eq_true rfl) dX7_load_28 ⟨Nat.le_of_ble_eq_true rfl, Nat.le_of_ble_eq_true rfl⟩ (fun r_3 u_2 H locs hu_2 hP hD hS => ?_)
        have hP : va_P D vwCl [(ma 2, iE cI 2292 (Pp)), (ma 3, iE cI 382 (enc g lf)), (ma 0, oE 7 [.ref (ma 1), .ref (ma 2), .int (nI np), .ref (ma 3), .ref (ma 4), .int (nI L), .int (nI u_2.1.2.2.1), .int (nI u_2.1.2.1), .long (u_2.1.2.2.2.1), .int (u_2.1.2.2.2.2), .int (u_2.2.1)]), (ma 1, iE cI 382 (enc u_2.2.2 lf)), (ma 4, iE cB 120 (bt f))] H := hP
        have hD : va_D A [(ma 2, iE cI 2292 (Pp)), (ma 3, iE cI 382 (enc g lf)), (ma 0, oE 7 [.ref (ma 1), .ref (ma 2), .int (nI np), .ref (ma 3), .ref (ma 4), .int (nI L), .int (nI u_2.1.2.2.1), .int (nI u_2.1.2.1), .long (u_2.1.2.2.2.1), .int (u_2.1.2.2.2.2), .int (u_2.2.1)]), (ma 1, iE cI 382 (enc u_2.2.2 lf)), (ma 4, iE cB 120 (bt f))] := hD
        have hu_2 : ∃ d o, PAll f L d 0 0 g o ∧ ((u_2.2.1 = 1 ∧ u_2.1.2.1 ≤ 120 ∧ o = .inl u_2.1.2.1) ∨ (u_2.2.1 = 0 ∧ ∃ it, it ≤ 120 ∧ o = .inr (it, u_2.2.2) ∧ r_3 = nI it)) := hu_2
        obtain ⟨⟨k9, s9, e9, w9, m9⟩, z9, g2⟩ := u_2
        obtain ⟨d9, o9, hp9, hres⟩ := hu_2
        rcases hres with ⟨hz9, hs9, ho9⟩ | ⟨hz9, it, hit, ho9, hr9⟩
        · -- wrong
          have hz9 : z9 = 1 := hz9
          subst hz9
          have hP : va_P D vwCl [(ma 2, iE cI 2292 (Pp)), (ma 3, iE cI 382 (enc g lf)), (ma 0, oE 7 [.ref (ma 1), .ref (ma 2), .int (nI np), .ref (ma 3), .ref (ma 4), .int (nI L), .int (nI e9), .int (nI s9), .long (w9), .int (m9), .int (1)]), (ma 1, iE cI 382 (enc g2 lf)), (ma 4, iE cB 120 (bt f))] H := hP
          have hD : va_D A [(ma 2, iE cI 2292 (Pp)), (ma 3, iE cI 382 (enc g lf)), (ma 0, oE 7 [.ref (ma 1), .ref (ma 2), .int (nI np), .ref (ma 3), .ref (ma 4), .int (nI L), .int (nI e9), .int (nI s9), .long (w9), .int (m9), .int (1)]), (ma 1, iE cI 382 (enc g2 lf)), (ma 4, iE cB 120 (bt f))] := hD
          refine lv_istore_n (lv' := [(1, .int (r_3)), (0, .ref (ma 0))]) hx hb dX7_load_31 rfl hl (by decide) rfl (fun ls hl => ?_)
          refine lv_aload_n hx hb dX7_load_32 rfl (lv_at hl 1 rfl) ?_
          refine cv_wv (As := []) (rest := []) (tys := TYS cI cC cB cS) (ci := 7) (wr := [(ma 2, iE cI 2292 (Pp)), (ma 4, iE cB 120 (bt f))]) ⟨hx, hb, hml, hown, hts⟩ (c_X7_exchanges l D cI cC cB cS _ (ma) ((fun j => [nI np, nI L, nI e9, nI s9, m9, 1].getD j 0)) (w9) (enc g2 lf) (enc g lf)) (cwV 0 hts gX7_load_X7_exchanges rfl rfl rfl (by decide +kernel) ⟨Nat.le_of_ble_eq_true rfl, Nat.le_of_ble_eq_true rfl⟩) hK hP hD hS hA [2, 3, 1] [0, 4] rfl rfl (by decide) (by decide) (by decide) rfl rfl rfl rfl hl.1 (Nat.le_of_ble_eq_true rfl) dX7_load_33 ⟨Nat.le_of_ble_eq_true rfl, Nat.le_of_ble_eq_true rfl⟩ (fun u_4 H locs hu_4 hP hD hS => ?_)
          have hP : va_P D vwCl [(ma 2, iE cI 2292 (Pp)), (ma 4, iE cB 120 (bt f)), (ma 0, oE 7 [.ref (ma 1), .ref (ma 2), .int (nI np), .ref (ma 3), .ref (ma 4), .int (nI L), .int (nI e9), .int (nI s9), .long (w9), .int (m9), .int (1)]), (ma 1, iE cI 382 (enc g lf)), (ma 3, iE cI 382 (enc g2 lf))] H := hP
          have hD : va_D A [(ma 2, iE cI 2292 (Pp)), (ma 4, iE cB 120 (bt f)), (ma 0, oE 7 [.ref (ma 1), .ref (ma 2), .int (nI np), .ref (ma 3), .ref (ma 4), .int (nI L), .int (nI e9), .int (nI s9), .long (w9), .int (m9), .int (1)]), (ma 1, iE cI 382 (enc g lf)), (ma 3, iE cI 382 (enc g2 lf))] := hD
          have hu_4 : True := hu_4
          refine lv_aload_n hx hb dX7_load_36 rfl (lv_at hl 1 rfl) ?_
          refine va_get (D := D) (ci := 7) (v := .int (1)) (C := RX7) (T := TX7) (N := 11) hx hb hts (by decide +kernel) hown hK.1 hP 2 rfl rfl 10 (by decide) (hts (.fieldLink RX7 102 "ParkingGarageModel" "isWrong" "Z") (by decide +kernel)) (fun _ h9 => h9) rfl dX7_load_37 ?_
          refine if_eq_f (tgt := 51) hx hb (by decide) dX7_load_40 (by decide) ?_
          refine lv_bipush (v := -10) hx hb dX7_load_43 (by decide) ?_
          refine lv_aload_n hx hb dX7_load_45 rfl (lv_at hl 1 rfl) ?_
          refine va_get (D := D) (ci := 7) (v := .int (nI s9)) (C := RX7) (T := TX7) (N := 11) hx hb hts (by decide +kernel) hown hK.1 hP 2 rfl rfl 7 (by decide) (hts (.fieldLink RX7 88 "ParkingGarageModel" "begin" "I") (by decide +kernel)) (fun _ h9 => h9) rfl dX7_load_46 ?_
          refine lv_isub hx hb dX7_load_49 ?_
          exact wr_iret (v := (-10) - (nI s9)) (((g, lf, np, hs, lfs, Pp), L, (nI e9, nI s9, m9, 1, w9), enc g2 lf)) hx hb hr hlocks hS hP hD [2, 3, 0, 4, 1] rfl rfl (by decide) dX7_load_50 (⟨d9, o9, hp9, Or.inl ⟨s9, hs9, ho9, rfl, rfl, rfl⟩⟩)
        · -- right
          have hz9 : z9 = 0 := hz9
          subst hz9
          have hP : va_P D vwCl [(ma 2, iE cI 2292 (Pp)), (ma 3, iE cI 382 (enc g lf)), (ma 0, oE 7 [.ref (ma 1), .ref (ma 2), .int (nI np), .ref (ma 3), .ref (ma 4), .int (nI L), .int (nI e9), .int (nI s9), .long (w9), .int (m9), .int (0)]), (ma 1, iE cI 382 (enc g2 lf)), (ma 4, iE cB 120 (bt f))] H := hP
          have hD : va_D A [(ma 2, iE cI 2292 (Pp)), (ma 3, iE cI 382 (enc g lf)), (ma 0, oE 7 [.ref (ma 1), .ref (ma 2), .int (nI np), .ref (ma 3), .ref (ma 4), .int (nI L), .int (nI e9), .int (nI s9), .long (w9), .int (m9), .int (0)]), (ma 1, iE cI 382 (enc g2 lf)), (ma 4, iE cB 120 (bt f))] := hD
          rw [show r_3 = nI it from hr9]
          refine lv_istore_n (lv' := [(1, .int (nI it)), (0, .ref (ma 0))]) hx hb dX7_load_31 rfl hl (by decide) rfl (fun ls hl => ?_)
          refine lv_aload_n hx hb dX7_load_32 rfl (lv_at hl 1 rfl) ?_
          refine cv_wv (As := []) (rest := []) (tys := TYS cI cC cB cS) (ci := 7) (wr := [(ma 2, iE cI 2292 (Pp)), (ma 4, iE cB 120 (bt f))]) ⟨hx, hb, hml, hown, hts⟩ (c_X7_exchanges l D cI cC cB cS _ (ma) ((fun j => [nI np, nI L, nI e9, nI s9, m9, 0].getD j 0)) (w9) (enc g2 lf) (enc g lf)) (cwV 0 hts gX7_load_X7_exchanges rfl rfl rfl (by decide +kernel) ⟨Nat.le_of_ble_eq_true rfl, Nat.le_of_ble_eq_true rfl⟩) hK hP hD hS hA [2, 3, 1] [0, 4] rfl rfl (by decide) (by decide) (by decide) rfl rfl rfl rfl hl.1 (Nat.le_of_ble_eq_true rfl) dX7_load_33 ⟨Nat.le_of_ble_eq_true rfl, Nat.le_of_ble_eq_true rfl⟩ (fun u_5 H locs hu_5 hP hD hS => ?_)
          have hP : va_P D vwCl [(ma 2, iE cI 2292 (Pp)), (ma 4, iE cB 120 (bt f)), (ma 0, oE 7 [.ref (ma 1), .ref (ma 2), .int (nI np), .ref (ma 3), .ref (ma 4), .int (nI L), .int (nI e9), .int (nI s9), .long (w9), .int (m9), .int (0)]), (ma 1, iE cI 382 (enc g lf)), (ma 3, iE cI 382 (enc g2 lf))] H := hP
          have hD : va_D A [(ma 2, iE cI 2292 (Pp)), (ma 4, iE cB 120 (bt f)), (ma 0, oE 7 [.ref (ma 1), .ref (ma 2), .int (nI np), .ref (ma 3), .ref (ma 4), .int (nI L), .int (nI e9), .int (nI s9), .long (w9), .int (m9), .int (0)]), (ma 1, iE cI 382 (enc g lf)), (ma 3, iE cI 382 (enc g2 lf))] := hD
          have hu_5 : True := hu_5
          refine lv_aload_n hx hb dX7_load_36 rfl (lv_at hl 1 rfl) ?_
          refine va_get (D := D) (ci := 7) (v := .int (0)) (C := RX7) (T := TX7) (N := 11) hx hb hts (by decide +kernel) hown hK.1 hP 2 rfl rfl 10 (by decide) (hts (.fieldLink RX7 102 "ParkingGarageModel" "isWrong" "Z") (by decide +kernel)) (fun _ h9 => h9) rfl dX7_load_37 ?_
          refine if_eq_t (tgt := 51) hx hb rfl dX7_load_40 (by decide) ?_
          refine lv_aload_n hx hb dX7_load_51 rfl (lv_at hl 1 rfl) ?_
          refine cv_wv (As := []) (rest := []) (tys := TYS cI cC cB cS) (ci := 7) (wr := [(ma 4, iE cB 120 (bt f)), (ma 3, iE cI 382 (enc g2 lf))]) ⟨hx, hb, hml, hown, hts⟩ (c_X7_notes l D cI cC cB cS _ (ma) ((fun j => [nI np, nI L, nI e9, nI s9, m9, 0].getD j 0)) (w9) (g) (lf) (np) (Pp) (hs) (lfs) (hnp) (hPR)) (cwV 0 hts gX7_load_X7_notes rfl rfl rfl (by decide +kernel) ⟨Nat.le_of_ble_eq_true rfl, Nat.le_of_ble_eq_true rfl⟩) hK hP hD hS hA [2, 3, 0] [1, 4] rfl rfl (by decide) (by decide) (by decide) rfl rfl rfl rfl hl.1 (Nat.le_of_ble_eq_true rfl) dX7_load_52 ⟨Nat.le_of_ble_eq_true rfl, Nat.le_of_ble_eq_true rfl⟩ (fun u_6 H locs hu_6 hP hD hS => ?_)
          have hP : va_P D vwCl [(ma 4, iE cB 120 (bt f)), (ma 3, iE cI 382 (enc g2 lf)), (ma 0, oE 7 [.ref (ma 1), .ref (ma 2), .int (nI u_6.1), .ref (ma 3), .ref (ma 4), .int (nI L), .int (nI e9), .int (nI s9), .long (w9), .int (m9), .int (0)]), (ma 1, iE cI 382 (enc g lf)), (ma 2, iE cI 2292 (u_6.2.2.2))] H := hP
          have hD : va_D A [(ma 4, iE cB 120 (bt f)), (ma 3, iE cI 382 (enc g2 lf)), (ma 0, oE 7 [.ref (ma 1), .ref (ma 2), .int (nI u_6.1), .ref (ma 3), .ref (ma 4), .int (nI L), .int (nI e9), .int (nI s9), .long (w9), .int (m9), .int (0)]), (ma 1, iE cI 382 (enc g lf)), (ma 2, iE cI 2292 (u_6.2.2.2))] := hD
          have hu_6 : Sv np hs lfs g lf u_6.1 u_6.2.1 u_6.2.2.1 ∧ PRel u_6.2.2.2 u_6.1 u_6.2.1 u_6.2.2.1 := hu_6
          refine lv_aload_n hx hb dX7_load_55 rfl (lv_at hl 1 rfl) ?_
          refine cv_wv (As := []) (rest := []) (tys := TYS cI cC cB cS) (ci := 7) (wr := [(ma 4, iE cB 120 (bt f)), (ma 2, iE cI 2292 (u_6.2.2.2))]) ⟨hx, hb, hml, hown, hts⟩ (c_X7_exchanges l D cI cC cB cS _ (ma) ((fun j => [nI u_6.1, nI L, nI e9, nI s9, m9, 0].getD j 0)) (w9) (enc g lf) (enc g2 lf)) (cwV 0 hts gX7_load_X7_exchanges rfl rfl rfl (by decide +kernel) ⟨Nat.le_of_ble_eq_true rfl, Nat.le_of_ble_eq_true rfl⟩) hK hP hD hS hA [2, 3, 1] [0, 4] rfl rfl (by decide) (by decide) (by decide) rfl rfl rfl rfl hl.1 (Nat.le_of_ble_eq_true rfl) dX7_load_56 ⟨Nat.le_of_ble_eq_true rfl, Nat.le_of_ble_eq_true rfl⟩ (fun u_7 H locs hu_7 hP hD hS => ?_)
          have hP : va_P D vwCl [(ma 4, iE cB 120 (bt f)), (ma 2, iE cI 2292 (u_6.2.2.2)), (ma 0, oE 7 [.ref (ma 1), .ref (ma 2), .int (nI u_6.1), .ref (ma 3), .ref (ma 4), .int (nI L), .int (nI e9), .int (nI s9), .long (w9), .int (m9), .int (0)]), (ma 1, iE cI 382 (enc g2 lf)), (ma 3, iE cI 382 (enc g lf))] H := hP
          have hD : va_D A [(ma 4, iE cB 120 (bt f)), (ma 2, iE cI 2292 (u_6.2.2.2)), (ma 0, oE 7 [.ref (ma 1), .ref (ma 2), .int (nI u_6.1), .ref (ma 3), .ref (ma 4), .int (nI L), .int (nI e9), .int (nI s9), .long (w9), .int (m9), .int (0)]), (ma 1, iE cI 382 (enc g2 lf)), (ma 3, iE cI 382 (enc g lf))] := hD
          have hu_7 : True := hu_7
          refine lv_aload_n hx hb dX7_load_59 rfl (lv_at hl 1 rfl) ?_
          refine lv_iconst (v := 0) hx hb dX7_load_60 (by decide) ?_
          refine va_put (D := D) (ci := 7) (v := .int (0)) (ty := .int) (C := RX7) (T := TX7) (N := 11) hx hb hts (by decide +kernel) tyX7 tyX7_ok nmX7 hown hK.1 hP hD hS 2 rfl rfl 5 (by decide) (hts (.fieldLink RX7 82 "ParkingGarageModel" "typed" "I") (by decide +kernel)) (fun _ h9 => h9) rfl (by decide +kernel) rfl rfl (Nat.le_of_ble_eq_true rfl) dX7_load_61 (fun H locs hP hD hS => ?_)
          have hP : va_P D vwCl [(ma 4, iE cB 120 (bt f)), (ma 2, iE cI 2292 (u_6.2.2.2)), (ma 0, oE 7 [.ref (ma 1), .ref (ma 2), .int (nI u_6.1), .ref (ma 3), .ref (ma 4), .int (0), .int (nI e9), .int (nI s9), .long (w9), .int (m9), .int (0)]), (ma 1, iE cI 382 (enc g2 lf)), (ma 3, iE cI 382 (enc g lf))] H := hP
          have hD : va_D A [(ma 4, iE cB 120 (bt f)), (ma 2, iE cI 2292 (u_6.2.2.2)), (ma 0, oE 7 [.ref (ma 1), .ref (ma 2), .int (nI u_6.1), .ref (ma 3), .ref (ma 4), .int (0), .int (nI e9), .int (nI s9), .long (w9), .int (m9), .int (0)]), (ma 1, iE cI 382 (enc g2 lf)), (ma 3, iE cI 382 (enc g lf))] := hD
          refine lv_iload_n hx hb dX7_load_64 rfl (lv_at hl 0 rfl) ?_
          exact wr_iret (v := nI it) (((g2, lf, u_6.1, u_6.2.1, u_6.2.2.1, u_6.2.2.2), 0, (nI e9, nI s9, m9, 0, w9), enc g lf)) hx hb hr hlocks hS hP hD [2, 3, 1, 4, 0] rfl rfl (by decide) dX7_load_65 (⟨d9, o9, hp9, Or.inr ⟨it, g2, hit, ho9, rfl, rfl, rfl, hu_6.1, hu_6.2, rfl⟩⟩)
      · -- c_1: not nI i ≥ 382
        have hlt : i < 382 := nI_ltD (n := 382) rfl hi (by omega) c_1
        refine lv_aload_n hx hb dX7_load_9 rfl (lv_at hl 1 rfl) ?_
        refine va_get (D := D) (ci := 7) (v := .ref (ma 3)) (C := RX7) (T := TX7) (N := 11) hx hb hts (by decide +kernel) hown hK.1 hP 0 rfl rfl 3 (by decide) (hts (.fieldLink RX7 16 "ParkingGarageModel" "kept" "[I") (by decide +kernel)) (fun _ h9 => h9) rfl dX7_load_10 ?_
        refine lv_iload_n hx hb dX7_load_13 rfl (lv_at hl 0 rfl) ?_
        refine lv_aload_n hx hb dX7_load_14 rfl (lv_at hl 1 rfl) ?_
        refine va_get (D := D) (ci := 7) (v := .ref (ma 1)) (C := RX7) (T := TX7) (N := 11) hx hb hts (by decide +kernel) hown hK.1 hP 0 rfl rfl 0 (by decide) (hts (.fieldLink RX7 7 "ParkingGarageModel" "s" "[I") (by decide +kernel)) (fun _ h9 => h9) rfl dX7_load_15 ?_
        refine lv_iload_n hx hb dX7_load_18 rfl (lv_at hl 0 rfl) ?_
        refine iald_n (f := enc g lf) hx hb hK.1 hP 1 0 rfl rfl (i) (rfl) (by omega) (by omega) dX7_load_19 ?_
        refine iast_n (f := cp1 E (enc g lf) i) hx hb hK.1 hP hD hS 3 0 rfl rfl (i) (rfl) (by omega) (by omega) dX7_load_20 (fun H locs hP hD hS => ?_)
        have hP : va_P D vwCl [(ma 0, oE 7 [.ref (ma 1), .ref (ma 2), .int (nI np), .ref (ma 3), .ref (ma 4), .int (nI L), .int (nx), .int (bg), .long (wd), .int (nm), .int (wr)]), (ma 1, iE cI 382 (enc g lf)), (ma 2, iE cI 2292 (Pp)), (ma 3, iE cI 382 (upd (cp1 E (enc g lf) i) (i) ((enc g lf) (i)))), (ma 4, iE cB 120 (bt f))] H := hP
        have hD : va_D A [(ma 0, oE 7 [.ref (ma 1), .ref (ma 2), .int (nI np), .ref (ma 3), .ref (ma 4), .int (nI L), .int (nx), .int (bg), .long (wd), .int (nm), .int (wr)]), (ma 1, iE cI 382 (enc g lf)), (ma 2, iE cI 2292 (Pp)), (ma 3, iE cI 382 (upd (cp1 E (enc g lf) i) (i) ((enc g lf) (i)))), (ma 4, iE cB 120 (bt f))] := hD
        refine lv_iinc (v := nI (i + 1)) (lv' := [(1, .int (nI (i + 1))), (0, .ref (ma 0))]) hx hb dX7_load_21 hl (k := 0) rfl (nI_1 _) (by decide) rfl (fun ls hl => ?_)
        refine lv_goto (tgt := 2) hx hb dX7_load_24 (by decide) ?_
        rw [cp1_s rfl] at hP hD
        exact ih (i + 1) (by omega) (by omega) _ _ hP hD hS ls (lv_sub hl [0, 1] rfl)
  have hP : va_P D vwCl [(ma 0, oE 7 [.ref (ma 1), .ref (ma 2), .int (nI np), .ref (ma 3), .ref (ma 4), .int (nI L), .int (nx), .int (bg), .long (wd), .int (nm), .int (wr)]), (ma 1, iE cI 382 (enc g lf)), (ma 2, iE cI 2292 (Pp)), (ma 3, iE cI 382 (cp1 E (enc g lf) 0)), (ma 4, iE cB 120 (bt f))] s.heap := by rw [← cp1_0]; exact hP
  have hD : va_D A [(ma 0, oE 7 [.ref (ma 1), .ref (ma 2), .int (nI np), .ref (ma 3), .ref (ma 4), .int (nI L), .int (nx), .int (bg), .long (wd), .int (nm), .int (wr)]), (ma 1, iE cI 382 (enc g lf)), (ma 2, iE cI 2292 (Pp)), (ma 3, iE cI 382 (cp1 E (enc g lf) 0)), (ma 4, iE cB 120 (bt f))] := by rw [← cp1_0]; exact hD
  exact hloop (382 + 1) (0) (by omega) (by omega) _ _ hP hD hS ls (lv_sub hl [0, 1] rfl)
