/-! ===== the law's does: one call (laid by wip/p29/gen/lawgen.py) ===== -/
def DoP (g : Nat → Nat → Int32) (np : Nat) (b : Nat → Nat → Nat) (hs : Nat → Nat → Nat → Int32) (e : Nat) (r : Int32) (u : PST) : Prop := (r < 0 ∧ u = (g, np, b, hs)) ∨ (0 ≤ r ∧ JJ u.1 (e + 1) ∧ Sav np hs g u.2.1 u.2.2.2)
theorem dop_of {g : Nat → Nat → Int32} {np : Nat} {b : Nat → Nat → Nat} {hs : Nat → Nat → Nat → Int32} {e : Nat} {r : Int32} {u : PST} {o : Option (Nat → Nat → Int32)} (h : Dp r o (e + 1)) (k : SvP g np b hs o u) : DoP g np b hs e r u := by
  rcases h with ⟨a, rfl⟩ | ⟨a, g2, rfl, hj⟩
  · rcases k with ⟨-, k⟩ | ⟨g3, k, -⟩
    · exact Or.inl ⟨a, k⟩
    · cases k
  · rcases k with ⟨k, -⟩ | ⟨g3, k, k1, k2⟩
    · cases k
    · injection k with k
      subst k
      exact Or.inr ⟨a, by rw [k1]; exact hj, k2⟩
set_option maxHeartbeats 8000000 in
set_option maxRecDepth 100000 in
theorem c_L_does (l : Launch) (D : va_G) (cI cC cB cS : ClassId) (zz : Nat) (tL tG : Nat) (aK aV : Nat → Nat) (ob : Nat) (a dd o x : Nat → Nat) (g : Nat → Nat → Int32) (np : Nat) (b : Nat → Nat → Nat) (hs : Nat → Nat → Nat → Int32) (v : Int32) (e2 : Nat) {lf : Int32} {n q tn tu T : Nat} (he : e2 < 1000) (hnp : np ≤ 6) (hI : Inv g lf n q tn tu T) (hE : Ex g n q tn tu T e2) : Met l yL_does wsL_does ({ frames := 7, cells := 0, slots := 0, locals := 167 } : Room) (zwPc D (TYS cI cC cB cS) [.ref ob, .int v] (wL (kB cI cC cS ob a dd o x g np b hs)) zz tL tG aK aV) (va_Qi (fun (r : Int32) (u : PST) => DoP g np b hs e2 r u) (wrB D (va_A (wL (kB cI cC cS ob a dd o x g np b hs)) zz) (fun u => wL (kB cI cC cS ob a dd o x u.1 u.2.1 u.2.2.1 u.2.2.2))) (va_A (wL (kB cI cC cS ob a dd o x g np b hs)) zz)) 0 0 (va_A (wL (kB cI cC cS ob a dd o x g np b hs)) zz) := by
  refine zw_intro (Qc := fun A B => va_Qi (fun (r : Int32) (u : PST) => DoP g np b hs e2 r u) B A) (f := (fun u => wL (kB cI cC cS ob a dd o x u.1 u.2.1 u.2.2.1 u.2.2.2))) (by decide) rfl (Nat.le_of_ble_eq_true rfl) ?_
  intro p e s m below meth c A hx hb hr hml hts hown hlocks hin hP hK hD hA hS hZ ls hl
  have hown : s.vm.findClass RL = some m.cls := hown
  have hl : lv_has ls 4 [(0, .ref (ob)), (1, .int (v))] := hl
  have hP4 := bl_4 hP
  have hPN : va_P D vwCl [] s.heap := fun k q h => by simp at h
  refine lv_aload_n hx hb dL_does_0 rfl (lv_at hl 0 rfl) ?_
  refine lv_iconst (v := 5) hx hb dL_does_1 (by decide) ?_
  refine lr_i (As := [.int (5)]) (rest := []) (tys := TYS cI cC cB cS) (ci := 6) ⟨hx, hb, hml, hown, hts⟩ (c_X6_count l D cI cC cB cS a g ob (dd 0) (o 0) (x 0) n q (nI 0) (x 1) (nI 0) (nI 0) (nI 0) np (o 1) (5) hI.hn hI.hnb hI.hq hI.hqc) (cwV 1 hts gL_does_X6_count rfl rfl rfl (by decide +kernel) ⟨Nat.le_of_ble_eq_true rfl, Nat.le_of_ble_eq_true rfl⟩) hK hP4 rfl rfl rfl rfl hl.1 (Nat.le_of_ble_eq_true rfl) dL_does_2 ⟨Nat.le_of_ble_eq_true rfl, Nat.le_of_ble_eq_true rfl⟩ (fun r_1 hr_1 => ?_)
  refine lv_istore_n (lv' := [(2, .int (r_1)), (0, .ref (ob)), (1, .int (v))]) hx hb dL_does_5 rfl hl (by decide) rfl (fun ls hl => ?_)
  refine lv_iconst (v := 1) hx hb dL_does_6 (by decide) ?_
  refine lv_iload_n hx hb dL_does_7 rfl (lv_at hl 2 rfl) ?_
  refine lv_iconst (v := 4) hx hb dL_does_8 (by decide) ?_
  refine lv_ishr hx hb dL_does_9 ?_
  refine lv_bipush (v := 7) hx hb dL_does_10 (by decide) ?_
  refine lr_s (As := [.int ((v) >>> ((4) &&& 31)), .int (7)]) (rest := [.int (1)]) (tys := TYS cI cC cB cS) ⟨hx, hb, hml, hown, hts⟩ (c_L_low l D cI cC cB cS ((v) >>> ((4) &&& 31)) (7) (by decide)) (va_cwS 2 hts gL_does_L_low rfl rfl rfl (by decide +kernel) ⟨Nat.le_of_ble_eq_true rfl, Nat.le_of_ble_eq_true rfl⟩) hK hPN rfl rfl hl.1 (Nat.le_of_ble_eq_true rfl) dL_does_12 ⟨Nat.le_of_ble_eq_true rfl, Nat.le_of_ble_eq_true rfl⟩ (fun r_2 _ => ?_)
  refine lv_iadd hx hb dL_does_15 ?_
  refine lv_istore_n (lv' := [(3, .int ((1) + (r_2))), (2, .int (r_1)), (0, .ref (ob)), (1, .int (v))]) hx hb dL_does_16 rfl hl (by decide) rfl (fun ls hl => ?_)
  refine lv_iload_n hx hb dL_does_17 rfl (lv_at hl 3 rfl) ?_
  refine lv_bipush (v := 15) hx hb dL_does_18 (by decide) ?_
  refine lv_iand hx hb dL_does_20 ?_
  obtain ⟨k, hk, ek⟩ := pk_andE v (m := 15) 4 (by decide)
  rw [ek]
  rcases (show k = 0 ∨ k = 1 ∨ k = 2 ∨ k = 3 ∨ k = 4 ∨ k = 5 ∨ k = 6 ∨ k = 7 ∨ k = 8 ∨ k = 9 ∨ k = 10 ∨ k = 11 ∨ k = 12 ∨ k = 13 ∨ k = 14 ∨ k = 15 by omega) with rfl | rfl | rfl | rfl | rfl | rfl | rfl | rfl | rfl | rfl | rfl | rfl | rfl | rfl | rfl | rfl
  · -- case 0
    refine lv_tableIn (off := 71) (tgt := 92) hx hb dL_does_21 (by decide) (by decide) rfl (by decide) ?_
    refine lv_aload_n hx hb dL_does_92 rfl (lv_at hl 2 rfl) ?_
    refine lv_iload_n hx hb dL_does_93 rfl (lv_at hl 3 rfl) ?_
    refine lv_iconst (v := 4) hx hb dL_does_94 (by decide) ?_
    refine lv_ishr hx hb dL_does_95 ?_
    refine lv_iconst (v := 4) hx hb dL_does_96 (by decide) ?_
    refine lr_s (As := [.int ((v) >>> ((4) &&& 31)), .int (4)]) (rest := [.ref (ob)]) (tys := TYS cI cC cB cS) ⟨hx, hb, hml, hown, hts⟩ (c_L_low l D cI cC cB cS ((v) >>> ((4) &&& 31)) (4) (by decide)) (va_cwS 2 hts gL_does_L_low rfl rfl rfl (by decide +kernel) ⟨Nat.le_of_ble_eq_true rfl, Nat.le_of_ble_eq_true rfl⟩) hK hPN rfl rfl hl.1 (Nat.le_of_ble_eq_true rfl) dL_does_97 ⟨Nat.le_of_ble_eq_true rfl, Nat.le_of_ble_eq_true rfl⟩ (fun r_3 _ => ?_)
    refine lv_iload_n hx hb dL_does_100 rfl (lv_at hl 3 rfl) ?_
    refine lv_bipush (v := 6) hx hb dL_does_101 (by decide) ?_
    refine lv_ishr hx hb dL_does_103 ?_
    refine lv_bipush (v := 6) hx hb dL_does_104 (by decide) ?_
    refine lr_s (As := [.int ((v) >>> ((6) &&& 31)), .int (6)]) (rest := [.int (r_3), .ref (ob)]) (tys := TYS cI cC cB cS) ⟨hx, hb, hml, hown, hts⟩ (c_L_low l D cI cC cB cS ((v) >>> ((6) &&& 31)) (6) (by decide)) (va_cwS 2 hts gL_does_L_low rfl rfl rfl (by decide +kernel) ⟨Nat.le_of_ble_eq_true rfl, Nat.le_of_ble_eq_true rfl⟩) hK hPN rfl rfl hl.1 (Nat.le_of_ble_eq_true rfl) dL_does_106 ⟨Nat.le_of_ble_eq_true rfl, Nat.le_of_ble_eq_true rfl⟩ (fun r_4 _ => ?_)
    refine lv_iload_n hx hb dL_does_109 rfl (lv_at hl 3 rfl) ?_
    refine lv_bipush (v := 9) hx hb dL_does_110 (by decide) ?_
    refine lv_ishr hx hb dL_does_112 ?_
    refine lv_iconst (v := 3) hx hb dL_does_113 (by decide) ?_
    refine lr_s (As := [.int ((v) >>> ((9) &&& 31)), .int (3)]) (rest := [.int (r_4), .int (r_3), .ref (ob)]) (tys := TYS cI cC cB cS) ⟨hx, hb, hml, hown, hts⟩ (c_L_low l D cI cC cB cS ((v) >>> ((9) &&& 31)) (3) (by decide)) (va_cwS 2 hts gL_does_L_low rfl rfl rfl (by decide +kernel) ⟨Nat.le_of_ble_eq_true rfl, Nat.le_of_ble_eq_true rfl⟩) hK hPN rfl rfl hl.1 (Nat.le_of_ble_eq_true rfl) dL_does_114 ⟨Nat.le_of_ble_eq_true rfl, Nat.le_of_ble_eq_true rfl⟩ (fun r_5 _ => ?_)
    refine lw_wi (As := [.int (r_3), .int (r_4), .int (r_5)]) (rest := []) (tys := TYS cI cC cB cS) (ci := 6) (fun u => kB cI cC cS ob a dd o x u.1 u.2.1 u.2.2.1 u.2.2.2) ⟨hx, hb, hml, hown, hts⟩ (c_X6_addBay l D cI cC cB cS _ a g ob (dd 0) (x 0) o b hs np n (r_3) (r_4) (r_5) hnp hI.hn hI.hnb) (cwV 3 hts gL_does_X6_addBay rfl rfl rfl (by decide +kernel) ⟨Nat.le_of_ble_eq_true rfl, Nat.le_of_ble_eq_true rfl⟩) hK hP hD hS hA [0, 1, 2, 5] [3, 4] (by decide) (ap4 _ _ _ _) (fun u => ap4 _ _ _ _) (fun u => rfl) rfl rfl rfl rfl hl.1 (Nat.le_of_ble_eq_true rfl) dL_does_117 ⟨Nat.le_of_ble_eq_true rfl, Nat.le_of_ble_eq_true rfl⟩ (fun r1 u1 H locs h1 hP hD hS => ?_)
    obtain ⟨o1, h1, s1⟩ := h1
    exact wr_iretS u1 hx hb hr hlocks hS hP hD dL_does_120 (dop_of (Ex.kaddBay  hI hE h1) s1)
  · -- case 1
    refine lv_tableIn (off := 71) (tgt := 92) hx hb dL_does_21 (by decide) (by decide) rfl (by decide) ?_
    refine lv_aload_n hx hb dL_does_92 rfl (lv_at hl 2 rfl) ?_
    refine lv_iload_n hx hb dL_does_93 rfl (lv_at hl 3 rfl) ?_
    refine lv_iconst (v := 4) hx hb dL_does_94 (by decide) ?_
    refine lv_ishr hx hb dL_does_95 ?_
    refine lv_iconst (v := 4) hx hb dL_does_96 (by decide) ?_
    refine lr_s (As := [.int ((v) >>> ((4) &&& 31)), .int (4)]) (rest := [.ref (ob)]) (tys := TYS cI cC cB cS) ⟨hx, hb, hml, hown, hts⟩ (c_L_low l D cI cC cB cS ((v) >>> ((4) &&& 31)) (4) (by decide)) (va_cwS 2 hts gL_does_L_low rfl rfl rfl (by decide +kernel) ⟨Nat.le_of_ble_eq_true rfl, Nat.le_of_ble_eq_true rfl⟩) hK hPN rfl rfl hl.1 (Nat.le_of_ble_eq_true rfl) dL_does_97 ⟨Nat.le_of_ble_eq_true rfl, Nat.le_of_ble_eq_true rfl⟩ (fun r_6 _ => ?_)
    refine lv_iload_n hx hb dL_does_100 rfl (lv_at hl 3 rfl) ?_
    refine lv_bipush (v := 6) hx hb dL_does_101 (by decide) ?_
    refine lv_ishr hx hb dL_does_103 ?_
    refine lv_bipush (v := 6) hx hb dL_does_104 (by decide) ?_
    refine lr_s (As := [.int ((v) >>> ((6) &&& 31)), .int (6)]) (rest := [.int (r_6), .ref (ob)]) (tys := TYS cI cC cB cS) ⟨hx, hb, hml, hown, hts⟩ (c_L_low l D cI cC cB cS ((v) >>> ((6) &&& 31)) (6) (by decide)) (va_cwS 2 hts gL_does_L_low rfl rfl rfl (by decide +kernel) ⟨Nat.le_of_ble_eq_true rfl, Nat.le_of_ble_eq_true rfl⟩) hK hPN rfl rfl hl.1 (Nat.le_of_ble_eq_true rfl) dL_does_106 ⟨Nat.le_of_ble_eq_true rfl, Nat.le_of_ble_eq_true rfl⟩ (fun r_7 _ => ?_)
    refine lv_iload_n hx hb dL_does_109 rfl (lv_at hl 3 rfl) ?_
    refine lv_bipush (v := 9) hx hb dL_does_110 (by decide) ?_
    refine lv_ishr hx hb dL_does_112 ?_
    refine lv_iconst (v := 3) hx hb dL_does_113 (by decide) ?_
    refine lr_s (As := [.int ((v) >>> ((9) &&& 31)), .int (3)]) (rest := [.int (r_7), .int (r_6), .ref (ob)]) (tys := TYS cI cC cB cS) ⟨hx, hb, hml, hown, hts⟩ (c_L_low l D cI cC cB cS ((v) >>> ((9) &&& 31)) (3) (by decide)) (va_cwS 2 hts gL_does_L_low rfl rfl rfl (by decide +kernel) ⟨Nat.le_of_ble_eq_true rfl, Nat.le_of_ble_eq_true rfl⟩) hK hPN rfl rfl hl.1 (Nat.le_of_ble_eq_true rfl) dL_does_114 ⟨Nat.le_of_ble_eq_true rfl, Nat.le_of_ble_eq_true rfl⟩ (fun r_8 _ => ?_)
    refine lw_wi (As := [.int (r_6), .int (r_7), .int (r_8)]) (rest := []) (tys := TYS cI cC cB cS) (ci := 6) (fun u => kB cI cC cS ob a dd o x u.1 u.2.1 u.2.2.1 u.2.2.2) ⟨hx, hb, hml, hown, hts⟩ (c_X6_addBay l D cI cC cB cS _ a g ob (dd 0) (x 0) o b hs np n (r_6) (r_7) (r_8) hnp hI.hn hI.hnb) (cwV 3 hts gL_does_X6_addBay rfl rfl rfl (by decide +kernel) ⟨Nat.le_of_ble_eq_true rfl, Nat.le_of_ble_eq_true rfl⟩) hK hP hD hS hA [0, 1, 2, 5] [3, 4] (by decide) (ap4 _ _ _ _) (fun u => ap4 _ _ _ _) (fun u => rfl) rfl rfl rfl rfl hl.1 (Nat.le_of_ble_eq_true rfl) dL_does_117 ⟨Nat.le_of_ble_eq_true rfl, Nat.le_of_ble_eq_true rfl⟩ (fun r1 u1 H locs h1 hP hD hS => ?_)
    obtain ⟨o1, h1, s1⟩ := h1
    exact wr_iretS u1 hx hb hr hlocks hS hP hD dL_does_120 (dop_of (Ex.kaddBay  hI hE h1) s1)
  · -- case 2
    refine lv_tableIn (off := 100) (tgt := 121) hx hb dL_does_21 (by decide) (by decide) rfl (by decide) ?_
    refine lv_aload_n hx hb dL_does_121 rfl (lv_at hl 2 rfl) ?_
    refine lv_iload_n hx hb dL_does_122 rfl (lv_at hl 3 rfl) ?_
    refine lv_iconst (v := 4) hx hb dL_does_123 (by decide) ?_
    refine lv_ishr hx hb dL_does_124 ?_
    refine lv_bipush (v := 6) hx hb dL_does_125 (by decide) ?_
    refine lr_s (As := [.int ((v) >>> ((4) &&& 31)), .int (6)]) (rest := [.ref (ob)]) (tys := TYS cI cC cB cS) ⟨hx, hb, hml, hown, hts⟩ (c_L_low l D cI cC cB cS ((v) >>> ((4) &&& 31)) (6) (by decide)) (va_cwS 2 hts gL_does_L_low rfl rfl rfl (by decide +kernel) ⟨Nat.le_of_ble_eq_true rfl, Nat.le_of_ble_eq_true rfl⟩) hK hPN rfl rfl hl.1 (Nat.le_of_ble_eq_true rfl) dL_does_127 ⟨Nat.le_of_ble_eq_true rfl, Nat.le_of_ble_eq_true rfl⟩ (fun r_9 _ => ?_)
    refine lv_iload_n hx hb dL_does_130 rfl (lv_at hl 3 rfl) ?_
    refine lv_bipush (v := 7) hx hb dL_does_131 (by decide) ?_
    refine lv_ishr hx hb dL_does_133 ?_
    refine lv_iconst (v := 5) hx hb dL_does_134 (by decide) ?_
    refine lr_s (As := [.int ((v) >>> ((7) &&& 31)), .int (5)]) (rest := [.int (r_9), .ref (ob)]) (tys := TYS cI cC cB cS) ⟨hx, hb, hml, hown, hts⟩ (c_L_low l D cI cC cB cS ((v) >>> ((7) &&& 31)) (5) (by decide)) (va_cwS 2 hts gL_does_L_low rfl rfl rfl (by decide +kernel) ⟨Nat.le_of_ble_eq_true rfl, Nat.le_of_ble_eq_true rfl⟩) hK hPN rfl rfl hl.1 (Nat.le_of_ble_eq_true rfl) dL_does_135 ⟨Nat.le_of_ble_eq_true rfl, Nat.le_of_ble_eq_true rfl⟩ (fun r_10 _ => ?_)
    refine lv_if_ne (tgt := 145) hx hb dL_does_138 (by decide) (fun c_11 => ?_) (fun c_11 => ?_)
    · -- c_11: r_10 ≠ 0
      refine lv_iconst (v := 1) hx hb dL_does_145 (by decide) ?_
      refine lw_wi (As := [.int (r_9), .int (1)]) (rest := []) (tys := TYS cI cC cB cS) (ci := 6) (fun u => kB cI cC cS ob a dd o x u.1 u.2.1 u.2.2.1 u.2.2.2) ⟨hx, hb, hml, hown, hts⟩ (c_X6_setBay l D cI cC cB cS _ a g ob (dd 0) (x 0) o b hs np n (r_9) (1) hnp hI.hn hI.hnb) (cwV 2 hts gL_does_X6_setBay rfl rfl rfl (by decide +kernel) ⟨Nat.le_of_ble_eq_true rfl, Nat.le_of_ble_eq_true rfl⟩) hK hP hD hS hA [0, 1, 2, 5] [3, 4] (by decide) (ap4 _ _ _ _) (fun u => ap4 _ _ _ _) (fun u => rfl) rfl rfl rfl rfl hl.1 (Nat.le_of_ble_eq_true rfl) dL_does_146 ⟨Nat.le_of_ble_eq_true rfl, Nat.le_of_ble_eq_true rfl⟩ (fun r1 u1 H locs h1 hP hD hS => ?_)
      obtain ⟨o1, h1, s1⟩ := h1
      exact wr_iretS u1 hx hb hr hlocks hS hP hD dL_does_149 (dop_of (Ex.ksetBay  hI hE h1) s1)
    · -- c_11: not r_10 ≠ 0
      refine lv_iconst (v := 0) hx hb dL_does_141 (by decide) ?_
      refine lv_goto (tgt := 146) hx hb dL_does_142 (by decide) ?_
      refine lw_wi (As := [.int (r_9), .int (0)]) (rest := []) (tys := TYS cI cC cB cS) (ci := 6) (fun u => kB cI cC cS ob a dd o x u.1 u.2.1 u.2.2.1 u.2.2.2) ⟨hx, hb, hml, hown, hts⟩ (c_X6_setBay l D cI cC cB cS _ a g ob (dd 0) (x 0) o b hs np n (r_9) (0) hnp hI.hn hI.hnb) (cwV 2 hts gL_does_X6_setBay rfl rfl rfl (by decide +kernel) ⟨Nat.le_of_ble_eq_true rfl, Nat.le_of_ble_eq_true rfl⟩) hK hP hD hS hA [0, 1, 2, 5] [3, 4] (by decide) (ap4 _ _ _ _) (fun u => ap4 _ _ _ _) (fun u => rfl) rfl rfl rfl rfl hl.1 (Nat.le_of_ble_eq_true rfl) dL_does_146 ⟨Nat.le_of_ble_eq_true rfl, Nat.le_of_ble_eq_true rfl⟩ (fun r1 u1 H locs h1 hP hD hS => ?_)
      obtain ⟨o1, h1, s1⟩ := h1
      exact wr_iretS u1 hx hb hr hlocks hS hP hD dL_does_149 (dop_of (Ex.ksetBay  hI hE h1) s1)
  · -- case 3
    refine lv_tableIn (off := 129) (tgt := 150) hx hb dL_does_21 (by decide) (by decide) rfl (by decide) ?_
    refine lv_aload_n hx hb dL_does_150 rfl (lv_at hl 2 rfl) ?_
    refine lv_iload_n hx hb dL_does_151 rfl (lv_at hl 3 rfl) ?_
    refine lv_iconst (v := 4) hx hb dL_does_152 (by decide) ?_
    refine lv_ishr hx hb dL_does_153 ?_
    refine lv_iconst (v := 1) hx hb dL_does_154 (by decide) ?_
    refine lv_iand hx hb dL_does_155 ?_
    refine lv_iload_n hx hb dL_does_156 rfl (lv_at hl 3 rfl) ?_
    refine lv_iconst (v := 5) hx hb dL_does_157 (by decide) ?_
    refine lv_ishr hx hb dL_does_158 ?_
    refine lv_iconst (v := 5) hx hb dL_does_159 (by decide) ?_
    refine lr_s (As := [.int ((v) >>> ((5) &&& 31)), .int (5)]) (rest := [.int (((v) >>> ((4) &&& 31)) &&& (1)), .ref (ob)]) (tys := TYS cI cC cB cS) ⟨hx, hb, hml, hown, hts⟩ (c_L_low l D cI cC cB cS ((v) >>> ((5) &&& 31)) (5) (by decide)) (va_cwS 2 hts gL_does_L_low rfl rfl rfl (by decide +kernel) ⟨Nat.le_of_ble_eq_true rfl, Nat.le_of_ble_eq_true rfl⟩) hK hPN rfl rfl hl.1 (Nat.le_of_ble_eq_true rfl) dL_does_160 ⟨Nat.le_of_ble_eq_true rfl, Nat.le_of_ble_eq_true rfl⟩ (fun r_12 _ => ?_)
    refine lv_bipush (v := 60) hx hb dL_does_163 (by decide) ?_
    refine lv_imul hx hb dL_does_165 ?_
    refine lv_iload_n hx hb dL_does_166 rfl (lv_at hl 3 rfl) ?_
    refine lv_bipush (v := 8) hx hb dL_does_167 (by decide) ?_
    refine lv_ishr hx hb dL_does_169 ?_
    refine lv_bipush (v := 60) hx hb dL_does_170 (by decide) ?_
    refine lr_s (As := [.int ((v) >>> ((8) &&& 31)), .int (60)]) (rest := [.int ((r_12) * (60)), .int (((v) >>> ((4) &&& 31)) &&& (1)), .ref (ob)]) (tys := TYS cI cC cB cS) ⟨hx, hb, hml, hown, hts⟩ (c_L_low l D cI cC cB cS ((v) >>> ((8) &&& 31)) (60) (by decide)) (va_cwS 2 hts gL_does_L_low rfl rfl rfl (by decide +kernel) ⟨Nat.le_of_ble_eq_true rfl, Nat.le_of_ble_eq_true rfl⟩) hK hPN rfl rfl hl.1 (Nat.le_of_ble_eq_true rfl) dL_does_172 ⟨Nat.le_of_ble_eq_true rfl, Nat.le_of_ble_eq_true rfl⟩ (fun r_13 _ => ?_)
    refine lv_iload_n hx hb dL_does_175 rfl (lv_at hl 3 rfl) ?_
    refine lv_bipush (v := 14) hx hb dL_does_176 (by decide) ?_
    refine lv_ishr hx hb dL_does_178 ?_
    refine lv_sipush (v := 500) hx hb dL_does_179 (by decide) ?_
    refine lr_s (As := [.int ((v) >>> ((14) &&& 31)), .int (500)]) (rest := [.int (r_13), .int ((r_12) * (60)), .int (((v) >>> ((4) &&& 31)) &&& (1)), .ref (ob)]) (tys := TYS cI cC cB cS) ⟨hx, hb, hml, hown, hts⟩ (c_L_low l D cI cC cB cS ((v) >>> ((14) &&& 31)) (500) (by decide)) (va_cwS 2 hts gL_does_L_low rfl rfl rfl (by decide +kernel) ⟨Nat.le_of_ble_eq_true rfl, Nat.le_of_ble_eq_true rfl⟩) hK hPN rfl rfl hl.1 (Nat.le_of_ble_eq_true rfl) dL_does_182 ⟨Nat.le_of_ble_eq_true rfl, Nat.le_of_ble_eq_true rfl⟩ (fun r_14 _ => ?_)
    refine lw_wi (As := [.int (((v) >>> ((4) &&& 31)) &&& (1)), .int ((r_12) * (60)), .int (r_13), .int (r_14)]) (rest := []) (tys := TYS cI cC cB cS) (ci := 6) (fun u => kB cI cC cS ob a dd o x u.1 u.2.1 u.2.2.1 u.2.2.2) ⟨hx, hb, hml, hown, hts⟩ (c_X6_setStep l D cI cC cB cS _ a g ob (dd 0) (x 0) o b hs np tn tu (((v) >>> ((4) &&& 31)) &&& (1)) ((r_12) * (60)) (r_13) (r_14) hnp hI.ht hI.htb hI.hts1 hI.hu hI.hub hI.hus1) (cwV 4 hts gL_does_X6_setStep rfl rfl rfl (by decide +kernel) ⟨Nat.le_of_ble_eq_true rfl, Nat.le_of_ble_eq_true rfl⟩) hK hP hD hS hA [0, 1, 2, 5] [3, 4] (by decide) (ap4 _ _ _ _) (fun u => ap4 _ _ _ _) (fun u => rfl) rfl rfl rfl rfl hl.1 (Nat.le_of_ble_eq_true rfl) dL_does_185 ⟨Nat.le_of_ble_eq_true rfl, Nat.le_of_ble_eq_true rfl⟩ (fun r1 u1 H locs h1 hP hD hS => ?_)
    obtain ⟨o1, h1, s1⟩ := h1
    exact wr_iretS u1 hx hb hr hlocks hS hP hD dL_does_188 (dop_of (Ex.ksetStep  hI hE h1) s1)
  · -- case 4
    refine lv_tableIn (off := 168) (tgt := 189) hx hb dL_does_21 (by decide) (by decide) rfl (by decide) ?_
    refine lv_aload_n hx hb dL_does_189 rfl (lv_at hl 2 rfl) ?_
    refine lv_iload_n hx hb dL_does_190 rfl (lv_at hl 3 rfl) ?_
    refine lv_iconst (v := 4) hx hb dL_does_191 (by decide) ?_
    refine lv_ishr hx hb dL_does_192 ?_
    refine lv_iconst (v := 5) hx hb dL_does_193 (by decide) ?_
    refine lr_s (As := [.int ((v) >>> ((4) &&& 31)), .int (5)]) (rest := [.ref (ob)]) (tys := TYS cI cC cB cS) ⟨hx, hb, hml, hown, hts⟩ (c_L_low l D cI cC cB cS ((v) >>> ((4) &&& 31)) (5) (by decide)) (va_cwS 2 hts gL_does_L_low rfl rfl rfl (by decide +kernel) ⟨Nat.le_of_ble_eq_true rfl, Nat.le_of_ble_eq_true rfl⟩) hK hPN rfl rfl hl.1 (Nat.le_of_ble_eq_true rfl) dL_does_194 ⟨Nat.le_of_ble_eq_true rfl, Nat.le_of_ble_eq_true rfl⟩ (fun r_15 _ => ?_)
    refine lv_iload_n hx hb dL_does_197 rfl (lv_at hl 3 rfl) ?_
    refine lv_bipush (v := 7) hx hb dL_does_198 (by decide) ?_
    refine lv_ishr hx hb dL_does_200 ?_
    refine lv_bipush (v := 100) hx hb dL_does_201 (by decide) ?_
    refine lr_s (As := [.int ((v) >>> ((7) &&& 31)), .int (100)]) (rest := [.int (r_15), .ref (ob)]) (tys := TYS cI cC cB cS) ⟨hx, hb, hml, hown, hts⟩ (c_L_low l D cI cC cB cS ((v) >>> ((7) &&& 31)) (100) (by decide)) (va_cwS 2 hts gL_does_L_low rfl rfl rfl (by decide +kernel) ⟨Nat.le_of_ble_eq_true rfl, Nat.le_of_ble_eq_true rfl⟩) hK hPN rfl rfl hl.1 (Nat.le_of_ble_eq_true rfl) dL_does_203 ⟨Nat.le_of_ble_eq_true rfl, Nat.le_of_ble_eq_true rfl⟩ (fun r_16 _ => ?_)
    refine lw_wiz (As := [.int (r_15), .int (r_16)]) (rest := []) (tys := TYS cI cC cB cS) (ci := 6) (fun u => kB cI cC cS ob a dd o x u.1 u.2.1 u.2.2.1 u.2.2.2) ⟨hx, hb, hml, hown, hts⟩ (c_X6_setNumber l D cI cC cB cS _ tL tG aK aV a g ob (dd 0) (x 0) o b hs np  (r_15) (r_16) hnp) (cwV 2 hts gL_does_X6_setNumber rfl rfl rfl (by decide +kernel) ⟨Nat.le_of_ble_eq_true rfl, Nat.le_of_ble_eq_true rfl⟩) hK hP hD hS hA hZ [0, 1, 2, 5] [3, 4] (by decide) (ap4 _ _ _ _) (fun u => ap4 _ _ _ _) (fun u => rfl) rfl rfl rfl rfl hl.1 (Nat.le_of_ble_eq_true rfl) dL_does_206 ⟨Nat.le_of_ble_eq_true rfl, Nat.le_of_ble_eq_true rfl⟩ (fun r1 u1 H locs h1 hP hD hS => ?_)
    obtain ⟨o1, h1, s1⟩ := h1
    exact wr_iretS u1 hx hb hr hlocks hS hP hD dL_does_209 (dop_of (Ex.ksetNumber  hI hE h1) s1)
  · -- case 5
    refine lv_tableIn (off := 189) (tgt := 210) hx hb dL_does_21 (by decide) (by decide) rfl (by decide) ?_
    refine lv_aload_n hx hb dL_does_210 rfl (lv_at hl 2 rfl) ?_
    refine lv_iload_n hx hb dL_does_211 rfl (lv_at hl 0 rfl) ?_
    refine lv_iload_n hx hb dL_does_212 rfl (lv_at hl 3 rfl) ?_
    refine lv_bipush (v := 7) hx hb dL_does_213 (by decide) ?_
    refine lv_ishr hx hb dL_does_215 ?_
    refine lv_iconst (v := 3) hx hb dL_does_216 (by decide) ?_
    refine lr_s (As := [.int ((v) >>> ((7) &&& 31)), .int (3)]) (rest := [.int ((1) + (r_2)), .ref (ob)]) (tys := TYS cI cC cB cS) ⟨hx, hb, hml, hown, hts⟩ (c_L_low l D cI cC cB cS ((v) >>> ((7) &&& 31)) (3) (by decide)) (va_cwS 2 hts gL_does_L_low rfl rfl rfl (by decide +kernel) ⟨Nat.le_of_ble_eq_true rfl, Nat.le_of_ble_eq_true rfl⟩) hK hPN rfl rfl hl.1 (Nat.le_of_ble_eq_true rfl) dL_does_217 ⟨Nat.le_of_ble_eq_true rfl, Nat.le_of_ble_eq_true rfl⟩ (fun r_17 _ => ?_)
    refine lv_iload_n hx hb dL_does_220 rfl (lv_at hl 1 rfl) ?_
    refine lv_iload_n hx hb dL_does_221 rfl (lv_at hl 3 rfl) ?_
    refine lv_bipush (v := 9) hx hb dL_does_222 (by decide) ?_
    refine lv_ishr hx hb dL_does_224 ?_
    refine lv_sipush (v := 200) hx hb dL_does_225 (by decide) ?_
    refine lr_s (As := [.int ((v) >>> ((9) &&& 31)), .int (200)]) (rest := [.int (r_1), .int (r_17), .int ((1) + (r_2)), .ref (ob)]) (tys := TYS cI cC cB cS) ⟨hx, hb, hml, hown, hts⟩ (c_L_low l D cI cC cB cS ((v) >>> ((9) &&& 31)) (200) (by decide)) (va_cwS 2 hts gL_does_L_low rfl rfl rfl (by decide +kernel) ⟨Nat.le_of_ble_eq_true rfl, Nat.le_of_ble_eq_true rfl⟩) hK hPN rfl rfl hl.1 (Nat.le_of_ble_eq_true rfl) dL_does_228 ⟨Nat.le_of_ble_eq_true rfl, Nat.le_of_ble_eq_true rfl⟩ (fun r_18 _ => ?_)
    refine lv_iadd hx hb dL_does_231 ?_
    refine lv_iload_n hx hb dL_does_232 rfl (lv_at hl 1 rfl) ?_
    refine lv_iconst (v := 1) hx hb dL_does_233 (by decide) ?_
    refine lv_iadd hx hb dL_does_234 ?_
    refine lv_iload_n hx hb dL_does_235 rfl (lv_at hl 3 rfl) ?_
    refine lv_bipush (v := 17) hx hb dL_does_236 (by decide) ?_
    refine lv_ishr hx hb dL_does_238 ?_
    refine lv_sipush (v := 300) hx hb dL_does_239 (by decide) ?_
    refine lr_s (As := [.int ((v) >>> ((17) &&& 31)), .int (300)]) (rest := [.int ((r_1) + (1)), .int ((r_1) + (r_18)), .int (r_17), .int ((1) + (r_2)), .ref (ob)]) (tys := TYS cI cC cB cS) ⟨hx, hb, hml, hown, hts⟩ (c_L_low l D cI cC cB cS ((v) >>> ((17) &&& 31)) (300) (by decide)) (va_cwS 2 hts gL_does_L_low rfl rfl rfl (by decide +kernel) ⟨Nat.le_of_ble_eq_true rfl, Nat.le_of_ble_eq_true rfl⟩) hK hPN rfl rfl hl.1 (Nat.le_of_ble_eq_true rfl) dL_does_242 ⟨Nat.le_of_ble_eq_true rfl, Nat.le_of_ble_eq_true rfl⟩ (fun r_19 _ => ?_)
    refine lv_iadd hx hb dL_does_245 ?_
    refine lw_wi (As := [.int ((1) + (r_2)), .int (r_17), .int ((r_1) + (r_18)), .int (((r_1) + (1)) + (r_19))]) (rest := []) (tys := TYS cI cC cB cS) (ci := 6) (fun u => kB cI cC cS ob a dd o x u.1 u.2.1 u.2.2.1 u.2.2.2) ⟨hx, hb, hml, hown, hts⟩ (c_X6_reserve l D cI cC cB cS _ a g ob (dd 0) (x 0) o b hs np n q tn ((1) + (r_2)) (r_17) ((r_1) + (r_18)) (((r_1) + (1)) + (r_19)) hnp hI.hn hI.hnb hI.hq hI.hqc hI.ht hI.htb hI.hts1) (cwV 4 hts gL_does_X6_reserve rfl rfl rfl (by decide +kernel) ⟨Nat.le_of_ble_eq_true rfl, Nat.le_of_ble_eq_true rfl⟩) hK hP hD hS hA [0, 1, 2, 5] [3, 4] (by decide) (ap4 _ _ _ _) (fun u => ap4 _ _ _ _) (fun u => rfl) rfl rfl rfl rfl hl.1 (Nat.le_of_ble_eq_true rfl) dL_does_246 ⟨Nat.le_of_ble_eq_true rfl, Nat.le_of_ble_eq_true rfl⟩ (fun r1 u1 H locs h1 hP hD hS => ?_)
    obtain ⟨o1, h1, s1⟩ := h1
    exact wr_iretS u1 hx hb hr hlocks hS hP hD dL_does_249 (dop_of (Ex.kreserve  hI hE h1) s1)
  · -- case 6
    refine lv_tableIn (off := 189) (tgt := 210) hx hb dL_does_21 (by decide) (by decide) rfl (by decide) ?_
    refine lv_aload_n hx hb dL_does_210 rfl (lv_at hl 2 rfl) ?_
    refine lv_iload_n hx hb dL_does_211 rfl (lv_at hl 0 rfl) ?_
    refine lv_iload_n hx hb dL_does_212 rfl (lv_at hl 3 rfl) ?_
    refine lv_bipush (v := 7) hx hb dL_does_213 (by decide) ?_
    refine lv_ishr hx hb dL_does_215 ?_
    refine lv_iconst (v := 3) hx hb dL_does_216 (by decide) ?_
    refine lr_s (As := [.int ((v) >>> ((7) &&& 31)), .int (3)]) (rest := [.int ((1) + (r_2)), .ref (ob)]) (tys := TYS cI cC cB cS) ⟨hx, hb, hml, hown, hts⟩ (c_L_low l D cI cC cB cS ((v) >>> ((7) &&& 31)) (3) (by decide)) (va_cwS 2 hts gL_does_L_low rfl rfl rfl (by decide +kernel) ⟨Nat.le_of_ble_eq_true rfl, Nat.le_of_ble_eq_true rfl⟩) hK hPN rfl rfl hl.1 (Nat.le_of_ble_eq_true rfl) dL_does_217 ⟨Nat.le_of_ble_eq_true rfl, Nat.le_of_ble_eq_true rfl⟩ (fun r_20 _ => ?_)
    refine lv_iload_n hx hb dL_does_220 rfl (lv_at hl 1 rfl) ?_
    refine lv_iload_n hx hb dL_does_221 rfl (lv_at hl 3 rfl) ?_
    refine lv_bipush (v := 9) hx hb dL_does_222 (by decide) ?_
    refine lv_ishr hx hb dL_does_224 ?_
    refine lv_sipush (v := 200) hx hb dL_does_225 (by decide) ?_
    refine lr_s (As := [.int ((v) >>> ((9) &&& 31)), .int (200)]) (rest := [.int (r_1), .int (r_20), .int ((1) + (r_2)), .ref (ob)]) (tys := TYS cI cC cB cS) ⟨hx, hb, hml, hown, hts⟩ (c_L_low l D cI cC cB cS ((v) >>> ((9) &&& 31)) (200) (by decide)) (va_cwS 2 hts gL_does_L_low rfl rfl rfl (by decide +kernel) ⟨Nat.le_of_ble_eq_true rfl, Nat.le_of_ble_eq_true rfl⟩) hK hPN rfl rfl hl.1 (Nat.le_of_ble_eq_true rfl) dL_does_228 ⟨Nat.le_of_ble_eq_true rfl, Nat.le_of_ble_eq_true rfl⟩ (fun r_21 _ => ?_)
    refine lv_iadd hx hb dL_does_231 ?_
    refine lv_iload_n hx hb dL_does_232 rfl (lv_at hl 1 rfl) ?_
    refine lv_iconst (v := 1) hx hb dL_does_233 (by decide) ?_
    refine lv_iadd hx hb dL_does_234 ?_
    refine lv_iload_n hx hb dL_does_235 rfl (lv_at hl 3 rfl) ?_
    refine lv_bipush (v := 17) hx hb dL_does_236 (by decide) ?_
    refine lv_ishr hx hb dL_does_238 ?_
    refine lv_sipush (v := 300) hx hb dL_does_239 (by decide) ?_
    refine lr_s (As := [.int ((v) >>> ((17) &&& 31)), .int (300)]) (rest := [.int ((r_1) + (1)), .int ((r_1) + (r_21)), .int (r_20), .int ((1) + (r_2)), .ref (ob)]) (tys := TYS cI cC cB cS) ⟨hx, hb, hml, hown, hts⟩ (c_L_low l D cI cC cB cS ((v) >>> ((17) &&& 31)) (300) (by decide)) (va_cwS 2 hts gL_does_L_low rfl rfl rfl (by decide +kernel) ⟨Nat.le_of_ble_eq_true rfl, Nat.le_of_ble_eq_true rfl⟩) hK hPN rfl rfl hl.1 (Nat.le_of_ble_eq_true rfl) dL_does_242 ⟨Nat.le_of_ble_eq_true rfl, Nat.le_of_ble_eq_true rfl⟩ (fun r_22 _ => ?_)
    refine lv_iadd hx hb dL_does_245 ?_
    refine lw_wi (As := [.int ((1) + (r_2)), .int (r_20), .int ((r_1) + (r_21)), .int (((r_1) + (1)) + (r_22))]) (rest := []) (tys := TYS cI cC cB cS) (ci := 6) (fun u => kB cI cC cS ob a dd o x u.1 u.2.1 u.2.2.1 u.2.2.2) ⟨hx, hb, hml, hown, hts⟩ (c_X6_reserve l D cI cC cB cS _ a g ob (dd 0) (x 0) o b hs np n q tn ((1) + (r_2)) (r_20) ((r_1) + (r_21)) (((r_1) + (1)) + (r_22)) hnp hI.hn hI.hnb hI.hq hI.hqc hI.ht hI.htb hI.hts1) (cwV 4 hts gL_does_X6_reserve rfl rfl rfl (by decide +kernel) ⟨Nat.le_of_ble_eq_true rfl, Nat.le_of_ble_eq_true rfl⟩) hK hP hD hS hA [0, 1, 2, 5] [3, 4] (by decide) (ap4 _ _ _ _) (fun u => ap4 _ _ _ _) (fun u => rfl) rfl rfl rfl rfl hl.1 (Nat.le_of_ble_eq_true rfl) dL_does_246 ⟨Nat.le_of_ble_eq_true rfl, Nat.le_of_ble_eq_true rfl⟩ (fun r1 u1 H locs h1 hP hD hS => ?_)
    obtain ⟨o1, h1, s1⟩ := h1
    exact wr_iretS u1 hx hb hr hlocks hS hP hD dL_does_249 (dop_of (Ex.kreserve  hI hE h1) s1)
  · -- case 7
    refine lv_tableIn (off := 189) (tgt := 210) hx hb dL_does_21 (by decide) (by decide) rfl (by decide) ?_
    refine lv_aload_n hx hb dL_does_210 rfl (lv_at hl 2 rfl) ?_
    refine lv_iload_n hx hb dL_does_211 rfl (lv_at hl 0 rfl) ?_
    refine lv_iload_n hx hb dL_does_212 rfl (lv_at hl 3 rfl) ?_
    refine lv_bipush (v := 7) hx hb dL_does_213 (by decide) ?_
    refine lv_ishr hx hb dL_does_215 ?_
    refine lv_iconst (v := 3) hx hb dL_does_216 (by decide) ?_
    refine lr_s (As := [.int ((v) >>> ((7) &&& 31)), .int (3)]) (rest := [.int ((1) + (r_2)), .ref (ob)]) (tys := TYS cI cC cB cS) ⟨hx, hb, hml, hown, hts⟩ (c_L_low l D cI cC cB cS ((v) >>> ((7) &&& 31)) (3) (by decide)) (va_cwS 2 hts gL_does_L_low rfl rfl rfl (by decide +kernel) ⟨Nat.le_of_ble_eq_true rfl, Nat.le_of_ble_eq_true rfl⟩) hK hPN rfl rfl hl.1 (Nat.le_of_ble_eq_true rfl) dL_does_217 ⟨Nat.le_of_ble_eq_true rfl, Nat.le_of_ble_eq_true rfl⟩ (fun r_23 _ => ?_)
    refine lv_iload_n hx hb dL_does_220 rfl (lv_at hl 1 rfl) ?_
    refine lv_iload_n hx hb dL_does_221 rfl (lv_at hl 3 rfl) ?_
    refine lv_bipush (v := 9) hx hb dL_does_222 (by decide) ?_
    refine lv_ishr hx hb dL_does_224 ?_
    refine lv_sipush (v := 200) hx hb dL_does_225 (by decide) ?_
    refine lr_s (As := [.int ((v) >>> ((9) &&& 31)), .int (200)]) (rest := [.int (r_1), .int (r_23), .int ((1) + (r_2)), .ref (ob)]) (tys := TYS cI cC cB cS) ⟨hx, hb, hml, hown, hts⟩ (c_L_low l D cI cC cB cS ((v) >>> ((9) &&& 31)) (200) (by decide)) (va_cwS 2 hts gL_does_L_low rfl rfl rfl (by decide +kernel) ⟨Nat.le_of_ble_eq_true rfl, Nat.le_of_ble_eq_true rfl⟩) hK hPN rfl rfl hl.1 (Nat.le_of_ble_eq_true rfl) dL_does_228 ⟨Nat.le_of_ble_eq_true rfl, Nat.le_of_ble_eq_true rfl⟩ (fun r_24 _ => ?_)
    refine lv_iadd hx hb dL_does_231 ?_
    refine lv_iload_n hx hb dL_does_232 rfl (lv_at hl 1 rfl) ?_
    refine lv_iconst (v := 1) hx hb dL_does_233 (by decide) ?_
    refine lv_iadd hx hb dL_does_234 ?_
    refine lv_iload_n hx hb dL_does_235 rfl (lv_at hl 3 rfl) ?_
    refine lv_bipush (v := 17) hx hb dL_does_236 (by decide) ?_
    refine lv_ishr hx hb dL_does_238 ?_
    refine lv_sipush (v := 300) hx hb dL_does_239 (by decide) ?_
    refine lr_s (As := [.int ((v) >>> ((17) &&& 31)), .int (300)]) (rest := [.int ((r_1) + (1)), .int ((r_1) + (r_24)), .int (r_23), .int ((1) + (r_2)), .ref (ob)]) (tys := TYS cI cC cB cS) ⟨hx, hb, hml, hown, hts⟩ (c_L_low l D cI cC cB cS ((v) >>> ((17) &&& 31)) (300) (by decide)) (va_cwS 2 hts gL_does_L_low rfl rfl rfl (by decide +kernel) ⟨Nat.le_of_ble_eq_true rfl, Nat.le_of_ble_eq_true rfl⟩) hK hPN rfl rfl hl.1 (Nat.le_of_ble_eq_true rfl) dL_does_242 ⟨Nat.le_of_ble_eq_true rfl, Nat.le_of_ble_eq_true rfl⟩ (fun r_25 _ => ?_)
    refine lv_iadd hx hb dL_does_245 ?_
    refine lw_wi (As := [.int ((1) + (r_2)), .int (r_23), .int ((r_1) + (r_24)), .int (((r_1) + (1)) + (r_25))]) (rest := []) (tys := TYS cI cC cB cS) (ci := 6) (fun u => kB cI cC cS ob a dd o x u.1 u.2.1 u.2.2.1 u.2.2.2) ⟨hx, hb, hml, hown, hts⟩ (c_X6_reserve l D cI cC cB cS _ a g ob (dd 0) (x 0) o b hs np n q tn ((1) + (r_2)) (r_23) ((r_1) + (r_24)) (((r_1) + (1)) + (r_25)) hnp hI.hn hI.hnb hI.hq hI.hqc hI.ht hI.htb hI.hts1) (cwV 4 hts gL_does_X6_reserve rfl rfl rfl (by decide +kernel) ⟨Nat.le_of_ble_eq_true rfl, Nat.le_of_ble_eq_true rfl⟩) hK hP hD hS hA [0, 1, 2, 5] [3, 4] (by decide) (ap4 _ _ _ _) (fun u => ap4 _ _ _ _) (fun u => rfl) rfl rfl rfl rfl hl.1 (Nat.le_of_ble_eq_true rfl) dL_does_246 ⟨Nat.le_of_ble_eq_true rfl, Nat.le_of_ble_eq_true rfl⟩ (fun r1 u1 H locs h1 hP hD hS => ?_)
    obtain ⟨o1, h1, s1⟩ := h1
    exact wr_iretS u1 hx hb hr hlocks hS hP hD dL_does_249 (dop_of (Ex.kreserve  hI hE h1) s1)
  · -- case 8
    refine lv_tableIn (off := 229) (tgt := 250) hx hb dL_does_21 (by decide) (by decide) rfl (by decide) ?_
    refine lv_aload_n hx hb dL_does_250 rfl (lv_at hl 2 rfl) ?_
    refine lv_iload_n hx hb dL_does_251 rfl (lv_at hl 3 rfl) ?_
    refine lv_iconst (v := 4) hx hb dL_does_252 (by decide) ?_
    refine lv_ishr hx hb dL_does_253 ?_
    refine lv_iconst (v := 5) hx hb dL_does_254 (by decide) ?_
    refine lr_s (As := [.int ((v) >>> ((4) &&& 31)), .int (5)]) (rest := [.ref (ob)]) (tys := TYS cI cC cB cS) ⟨hx, hb, hml, hown, hts⟩ (c_L_low l D cI cC cB cS ((v) >>> ((4) &&& 31)) (5) (by decide)) (va_cwS 2 hts gL_does_L_low rfl rfl rfl (by decide +kernel) ⟨Nat.le_of_ble_eq_true rfl, Nat.le_of_ble_eq_true rfl⟩) hK hPN rfl rfl hl.1 (Nat.le_of_ble_eq_true rfl) dL_does_255 ⟨Nat.le_of_ble_eq_true rfl, Nat.le_of_ble_eq_true rfl⟩ (fun r_26 _ => ?_)
    refine lw_wi (As := [.int (r_26)]) (rest := []) (tys := TYS cI cC cB cS) (ci := 6) (fun u => kB cI cC cS ob a dd o x u.1 u.2.1 u.2.2.1 u.2.2.2) ⟨hx, hb, hml, hown, hts⟩ (c_X6_cancel l D cI cC cB cS _ a g ob (dd 0) (x 0) o b hs np q (r_26) hnp hI.hq hI.hqc) (cwV 1 hts gL_does_X6_cancel rfl rfl rfl (by decide +kernel) ⟨Nat.le_of_ble_eq_true rfl, Nat.le_of_ble_eq_true rfl⟩) hK hP hD hS hA [0, 1, 2, 5] [3, 4] (by decide) (ap4 _ _ _ _) (fun u => ap4 _ _ _ _) (fun u => rfl) rfl rfl rfl rfl hl.1 (Nat.le_of_ble_eq_true rfl) dL_does_258 ⟨Nat.le_of_ble_eq_true rfl, Nat.le_of_ble_eq_true rfl⟩ (fun r1 u1 H locs h1 hP hD hS => ?_)
    obtain ⟨o1, h1, s1⟩ := h1
    exact wr_iretS u1 hx hb hr hlocks hS hP hD dL_does_261 (dop_of (Ex.kcancel  hI hE h1) s1)
  · -- case 9
    refine lv_tableIn (off := 241) (tgt := 262) hx hb dL_does_21 (by decide) (by decide) rfl (by decide) ?_
    refine lv_aload_n hx hb dL_does_262 rfl (lv_at hl 2 rfl) ?_
    refine lv_iload_n hx hb dL_does_263 rfl (lv_at hl 0 rfl) ?_
    refine lv_iload_n hx hb dL_does_264 rfl (lv_at hl 3 rfl) ?_
    refine lv_bipush (v := 7) hx hb dL_does_265 (by decide) ?_
    refine lv_ishr hx hb dL_does_267 ?_
    refine lv_iconst (v := 3) hx hb dL_does_268 (by decide) ?_
    refine lr_s (As := [.int ((v) >>> ((7) &&& 31)), .int (3)]) (rest := [.int ((1) + (r_2)), .ref (ob)]) (tys := TYS cI cC cB cS) ⟨hx, hb, hml, hown, hts⟩ (c_L_low l D cI cC cB cS ((v) >>> ((7) &&& 31)) (3) (by decide)) (va_cwS 2 hts gL_does_L_low rfl rfl rfl (by decide +kernel) ⟨Nat.le_of_ble_eq_true rfl, Nat.le_of_ble_eq_true rfl⟩) hK hPN rfl rfl hl.1 (Nat.le_of_ble_eq_true rfl) dL_does_269 ⟨Nat.le_of_ble_eq_true rfl, Nat.le_of_ble_eq_true rfl⟩ (fun r_27 _ => ?_)
    refine lw_wi (As := [.int ((1) + (r_2)), .int (r_27)]) (rest := []) (tys := TYS cI cC cB cS) (ci := 6) (fun u => kB cI cC cS ob a dd o x u.1 u.2.1 u.2.2.1 u.2.2.2) ⟨hx, hb, hml, hown, hts⟩ (c_X6_enter l D cI cC cB cS _ a g ob (dd 0) (x 0) o b hs np n q ((1) + (r_2)) (r_27) hnp hI.hn hI.hnb hI.hq hI.hqc) (cwV 2 hts gL_does_X6_enter rfl rfl rfl (by decide +kernel) ⟨Nat.le_of_ble_eq_true rfl, Nat.le_of_ble_eq_true rfl⟩) hK hP hD hS hA [0, 1, 2, 5] [3, 4] (by decide) (ap4 _ _ _ _) (fun u => ap4 _ _ _ _) (fun u => rfl) rfl rfl rfl rfl hl.1 (Nat.le_of_ble_eq_true rfl) dL_does_272 ⟨Nat.le_of_ble_eq_true rfl, Nat.le_of_ble_eq_true rfl⟩ (fun r1 u1 H locs h1 hP hD hS => ?_)
    obtain ⟨o1, h1, s1⟩ := h1
    exact wr_iretS u1 hx hb hr hlocks hS hP hD dL_does_275 (dop_of (Ex.kenter he hI hE h1) s1)
  · -- case 10
    refine lv_tableIn (off := 241) (tgt := 262) hx hb dL_does_21 (by decide) (by decide) rfl (by decide) ?_
    refine lv_aload_n hx hb dL_does_262 rfl (lv_at hl 2 rfl) ?_
    refine lv_iload_n hx hb dL_does_263 rfl (lv_at hl 0 rfl) ?_
    refine lv_iload_n hx hb dL_does_264 rfl (lv_at hl 3 rfl) ?_
    refine lv_bipush (v := 7) hx hb dL_does_265 (by decide) ?_
    refine lv_ishr hx hb dL_does_267 ?_
    refine lv_iconst (v := 3) hx hb dL_does_268 (by decide) ?_
    refine lr_s (As := [.int ((v) >>> ((7) &&& 31)), .int (3)]) (rest := [.int ((1) + (r_2)), .ref (ob)]) (tys := TYS cI cC cB cS) ⟨hx, hb, hml, hown, hts⟩ (c_L_low l D cI cC cB cS ((v) >>> ((7) &&& 31)) (3) (by decide)) (va_cwS 2 hts gL_does_L_low rfl rfl rfl (by decide +kernel) ⟨Nat.le_of_ble_eq_true rfl, Nat.le_of_ble_eq_true rfl⟩) hK hPN rfl rfl hl.1 (Nat.le_of_ble_eq_true rfl) dL_does_269 ⟨Nat.le_of_ble_eq_true rfl, Nat.le_of_ble_eq_true rfl⟩ (fun r_28 _ => ?_)
    refine lw_wi (As := [.int ((1) + (r_2)), .int (r_28)]) (rest := []) (tys := TYS cI cC cB cS) (ci := 6) (fun u => kB cI cC cS ob a dd o x u.1 u.2.1 u.2.2.1 u.2.2.2) ⟨hx, hb, hml, hown, hts⟩ (c_X6_enter l D cI cC cB cS _ a g ob (dd 0) (x 0) o b hs np n q ((1) + (r_2)) (r_28) hnp hI.hn hI.hnb hI.hq hI.hqc) (cwV 2 hts gL_does_X6_enter rfl rfl rfl (by decide +kernel) ⟨Nat.le_of_ble_eq_true rfl, Nat.le_of_ble_eq_true rfl⟩) hK hP hD hS hA [0, 1, 2, 5] [3, 4] (by decide) (ap4 _ _ _ _) (fun u => ap4 _ _ _ _) (fun u => rfl) rfl rfl rfl rfl hl.1 (Nat.le_of_ble_eq_true rfl) dL_does_272 ⟨Nat.le_of_ble_eq_true rfl, Nat.le_of_ble_eq_true rfl⟩ (fun r1 u1 H locs h1 hP hD hS => ?_)
    obtain ⟨o1, h1, s1⟩ := h1
    exact wr_iretS u1 hx hb hr hlocks hS hP hD dL_does_275 (dop_of (Ex.kenter he hI hE h1) s1)
  · -- case 11
    refine lv_tableIn (off := 241) (tgt := 262) hx hb dL_does_21 (by decide) (by decide) rfl (by decide) ?_
    refine lv_aload_n hx hb dL_does_262 rfl (lv_at hl 2 rfl) ?_
    refine lv_iload_n hx hb dL_does_263 rfl (lv_at hl 0 rfl) ?_
    refine lv_iload_n hx hb dL_does_264 rfl (lv_at hl 3 rfl) ?_
    refine lv_bipush (v := 7) hx hb dL_does_265 (by decide) ?_
    refine lv_ishr hx hb dL_does_267 ?_
    refine lv_iconst (v := 3) hx hb dL_does_268 (by decide) ?_
    refine lr_s (As := [.int ((v) >>> ((7) &&& 31)), .int (3)]) (rest := [.int ((1) + (r_2)), .ref (ob)]) (tys := TYS cI cC cB cS) ⟨hx, hb, hml, hown, hts⟩ (c_L_low l D cI cC cB cS ((v) >>> ((7) &&& 31)) (3) (by decide)) (va_cwS 2 hts gL_does_L_low rfl rfl rfl (by decide +kernel) ⟨Nat.le_of_ble_eq_true rfl, Nat.le_of_ble_eq_true rfl⟩) hK hPN rfl rfl hl.1 (Nat.le_of_ble_eq_true rfl) dL_does_269 ⟨Nat.le_of_ble_eq_true rfl, Nat.le_of_ble_eq_true rfl⟩ (fun r_29 _ => ?_)
    refine lw_wi (As := [.int ((1) + (r_2)), .int (r_29)]) (rest := []) (tys := TYS cI cC cB cS) (ci := 6) (fun u => kB cI cC cS ob a dd o x u.1 u.2.1 u.2.2.1 u.2.2.2) ⟨hx, hb, hml, hown, hts⟩ (c_X6_enter l D cI cC cB cS _ a g ob (dd 0) (x 0) o b hs np n q ((1) + (r_2)) (r_29) hnp hI.hn hI.hnb hI.hq hI.hqc) (cwV 2 hts gL_does_X6_enter rfl rfl rfl (by decide +kernel) ⟨Nat.le_of_ble_eq_true rfl, Nat.le_of_ble_eq_true rfl⟩) hK hP hD hS hA [0, 1, 2, 5] [3, 4] (by decide) (ap4 _ _ _ _) (fun u => ap4 _ _ _ _) (fun u => rfl) rfl rfl rfl rfl hl.1 (Nat.le_of_ble_eq_true rfl) dL_does_272 ⟨Nat.le_of_ble_eq_true rfl, Nat.le_of_ble_eq_true rfl⟩ (fun r1 u1 H locs h1 hP hD hS => ?_)
    obtain ⟨o1, h1, s1⟩ := h1
    exact wr_iretS u1 hx hb hr hlocks hS hP hD dL_does_275 (dop_of (Ex.kenter he hI hE h1) s1)
  · -- case 12
    refine lv_tableIn (off := 255) (tgt := 276) hx hb dL_does_21 (by decide) (by decide) rfl (by decide) ?_
    refine lv_aload_n hx hb dL_does_276 rfl (lv_at hl 2 rfl) ?_
    refine lv_iload_n hx hb dL_does_277 rfl (lv_at hl 3 rfl) ?_
    refine lv_iconst (v := 4) hx hb dL_does_278 (by decide) ?_
    refine lv_ishr hx hb dL_does_279 ?_
    refine lv_bipush (v := 8) hx hb dL_does_280 (by decide) ?_
    refine lr_s (As := [.int ((v) >>> ((4) &&& 31)), .int (8)]) (rest := [.ref (ob)]) (tys := TYS cI cC cB cS) ⟨hx, hb, hml, hown, hts⟩ (c_L_low l D cI cC cB cS ((v) >>> ((4) &&& 31)) (8) (by decide)) (va_cwS 2 hts gL_does_L_low rfl rfl rfl (by decide +kernel) ⟨Nat.le_of_ble_eq_true rfl, Nat.le_of_ble_eq_true rfl⟩) hK hPN rfl rfl hl.1 (Nat.le_of_ble_eq_true rfl) dL_does_282 ⟨Nat.le_of_ble_eq_true rfl, Nat.le_of_ble_eq_true rfl⟩ (fun r_30 _ => ?_)
    refine lw_wi (As := [.int (r_30)]) (rest := []) (tys := TYS cI cC cB cS) (ci := 6) (fun u => kB cI cC cS ob a dd o x u.1 u.2.1 u.2.2.1 u.2.2.2) ⟨hx, hb, hml, hown, hts⟩ (c_X6_leave l D cI cC cB cS _ a g ob (dd 0) (x 0) o b hs np n q tn tu (r_30) hnp hI.hn hI.hnb hI.hq hI.hqc hI.ht hI.htb hI.hts1 hI.hu hI.hub hI.hus1) (cwV 1 hts gL_does_X6_leave rfl rfl rfl (by decide +kernel) ⟨Nat.le_of_ble_eq_true rfl, Nat.le_of_ble_eq_true rfl⟩) hK hP hD hS hA [0, 1, 2, 5] [3, 4] (by decide) (ap4 _ _ _ _) (fun u => ap4 _ _ _ _) (fun u => rfl) rfl rfl rfl rfl hl.1 (Nat.le_of_ble_eq_true rfl) dL_does_285 ⟨Nat.le_of_ble_eq_true rfl, Nat.le_of_ble_eq_true rfl⟩ (fun r1 u1 H locs h1 hP hD hS => ?_)
    obtain ⟨o1, h1, s1⟩ := h1
    exact wr_iretS u1 hx hb hr hlocks hS hP hD dL_does_288 (dop_of (Ex.kleave  hI hE h1) s1)
  · -- case 13
    refine lv_tableIn (off := 268) (tgt := 289) hx hb dL_does_21 (by decide) (by decide) rfl (by decide) ?_
    refine lv_aload_n hx hb dL_does_289 rfl (lv_at hl 2 rfl) ?_
    refine lv_iload_n hx hb dL_does_290 rfl (lv_at hl 0 rfl) ?_
    refine lw_wi (As := [.int ((1) + (r_2))]) (rest := []) (tys := TYS cI cC cB cS) (ci := 6) (fun u => kB cI cC cS ob a dd o x u.1 u.2.1 u.2.2.1 u.2.2.2) ⟨hx, hb, hml, hown, hts⟩ (c_X6_leaveLost l D cI cC cB cS _ a g ob (dd 0) (x 0) o b hs np n q tn ((1) + (r_2)) hnp hI.hn hI.hnb hI.hq hI.hqc hI.ht hI.htb hI.hts1) (cwV 1 hts gL_does_X6_leaveLost rfl rfl rfl (by decide +kernel) ⟨Nat.le_of_ble_eq_true rfl, Nat.le_of_ble_eq_true rfl⟩) hK hP hD hS hA [0, 1, 2, 5] [3, 4] (by decide) (ap4 _ _ _ _) (fun u => ap4 _ _ _ _) (fun u => rfl) rfl rfl rfl rfl hl.1 (Nat.le_of_ble_eq_true rfl) dL_does_291 ⟨Nat.le_of_ble_eq_true rfl, Nat.le_of_ble_eq_true rfl⟩ (fun r1 u1 H locs h1 hP hD hS => ?_)
    obtain ⟨o1, h1, s1⟩ := h1
    exact wr_iretS u1 hx hb hr hlocks hS hP hD dL_does_294 (dop_of (Ex.klost  hI hE h1) s1)
  · -- case 14
    refine lv_tableOut (tgt := 295) hx hb dL_does_21 (Or.inr (by decide)) (by decide) ?_
    refine lv_aload_n hx hb dL_does_295 rfl (lv_at hl 2 rfl) ?_
    refine lv_iconst (v := 1) hx hb dL_does_296 (by decide) ?_
    refine lv_iload_n hx hb dL_does_297 rfl (lv_at hl 3 rfl) ?_
    refine lv_iconst (v := 4) hx hb dL_does_298 (by decide) ?_
    refine lv_ishr hx hb dL_does_299 ?_
    refine lv_sipush (v := 150) hx hb dL_does_300 (by decide) ?_
    refine lr_s (As := [.int ((v) >>> ((4) &&& 31)), .int (150)]) (rest := [.int (1), .ref (ob)]) (tys := TYS cI cC cB cS) ⟨hx, hb, hml, hown, hts⟩ (c_L_low l D cI cC cB cS ((v) >>> ((4) &&& 31)) (150) (by decide)) (va_cwS 2 hts gL_does_L_low rfl rfl rfl (by decide +kernel) ⟨Nat.le_of_ble_eq_true rfl, Nat.le_of_ble_eq_true rfl⟩) hK hPN rfl rfl hl.1 (Nat.le_of_ble_eq_true rfl) dL_does_303 ⟨Nat.le_of_ble_eq_true rfl, Nat.le_of_ble_eq_true rfl⟩ (fun r_31 _ => ?_)
    refine lv_iadd hx hb dL_does_306 ?_
    refine lw_wi (As := [.int ((1) + (r_31))]) (rest := []) (tys := TYS cI cC cB cS) (ci := 6) (fun u => kB cI cC cS ob a dd o x u.1 u.2.1 u.2.2.1 u.2.2.2) ⟨hx, hb, hml, hown, hts⟩ (c_X6_pass l D cI cC cB cS _ a g ob (dd 0) (x 0) o b hs np q ((1) + (r_31)) hnp hI.hq hI.hqc) (cwV 1 hts gL_does_X6_pass rfl rfl rfl (by decide +kernel) ⟨Nat.le_of_ble_eq_true rfl, Nat.le_of_ble_eq_true rfl⟩) hK hP hD hS hA [0, 1, 2, 5] [3, 4] (by decide) (ap4 _ _ _ _) (fun u => ap4 _ _ _ _) (fun u => rfl) rfl rfl rfl rfl hl.1 (Nat.le_of_ble_eq_true rfl) dL_does_307 ⟨Nat.le_of_ble_eq_true rfl, Nat.le_of_ble_eq_true rfl⟩ (fun r1 u1 H locs h1 hP hD hS => ?_)
    obtain ⟨o1, h1, s1⟩ := h1
    exact wr_iretS u1 hx hb hr hlocks hS hP hD dL_does_310 (dop_of (Ex.kpass  hI hE h1) s1)
  · -- case 15
    refine lv_tableOut (tgt := 295) hx hb dL_does_21 (Or.inr (by decide)) (by decide) ?_
    refine lv_aload_n hx hb dL_does_295 rfl (lv_at hl 2 rfl) ?_
    refine lv_iconst (v := 1) hx hb dL_does_296 (by decide) ?_
    refine lv_iload_n hx hb dL_does_297 rfl (lv_at hl 3 rfl) ?_
    refine lv_iconst (v := 4) hx hb dL_does_298 (by decide) ?_
    refine lv_ishr hx hb dL_does_299 ?_
    refine lv_sipush (v := 150) hx hb dL_does_300 (by decide) ?_
    refine lr_s (As := [.int ((v) >>> ((4) &&& 31)), .int (150)]) (rest := [.int (1), .ref (ob)]) (tys := TYS cI cC cB cS) ⟨hx, hb, hml, hown, hts⟩ (c_L_low l D cI cC cB cS ((v) >>> ((4) &&& 31)) (150) (by decide)) (va_cwS 2 hts gL_does_L_low rfl rfl rfl (by decide +kernel) ⟨Nat.le_of_ble_eq_true rfl, Nat.le_of_ble_eq_true rfl⟩) hK hPN rfl rfl hl.1 (Nat.le_of_ble_eq_true rfl) dL_does_303 ⟨Nat.le_of_ble_eq_true rfl, Nat.le_of_ble_eq_true rfl⟩ (fun r_32 _ => ?_)
    refine lv_iadd hx hb dL_does_306 ?_
    refine lw_wi (As := [.int ((1) + (r_32))]) (rest := []) (tys := TYS cI cC cB cS) (ci := 6) (fun u => kB cI cC cS ob a dd o x u.1 u.2.1 u.2.2.1 u.2.2.2) ⟨hx, hb, hml, hown, hts⟩ (c_X6_pass l D cI cC cB cS _ a g ob (dd 0) (x 0) o b hs np q ((1) + (r_32)) hnp hI.hq hI.hqc) (cwV 1 hts gL_does_X6_pass rfl rfl rfl (by decide +kernel) ⟨Nat.le_of_ble_eq_true rfl, Nat.le_of_ble_eq_true rfl⟩) hK hP hD hS hA [0, 1, 2, 5] [3, 4] (by decide) (ap4 _ _ _ _) (fun u => ap4 _ _ _ _) (fun u => rfl) rfl rfl rfl rfl hl.1 (Nat.le_of_ble_eq_true rfl) dL_does_307 ⟨Nat.le_of_ble_eq_true rfl, Nat.le_of_ble_eq_true rfl⟩ (fun r1 u1 H locs h1 hP hD hS => ?_)
    obtain ⟨o1, h1, s1⟩ := h1
    exact wr_iretS u1 hx hb hr hlocks hS hP hD dL_does_310 (dop_of (Ex.kpass  hI hE h1) s1)
