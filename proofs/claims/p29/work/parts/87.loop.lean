/-! ===== the law's round and loop (laid by wip/p29/gen/loopgen.py) ===== -/
/-- a state and its saved states, behind at most e calls -/
def LSt (g : Nat → Nat → Int32) (np : Nat) (hs : Nat → Nat → Nat → Int32) (e : Nat) : Prop := JJ g e ∧ np ≤ 6 ∧ ∀ i, i < np → JJ (hs i) e
/-- a round's end, from any state -/
def KK (p : Program) (l : Launch) (e : Env) (s : State) (m : MethodId) (below : List Frame) (meth : Method) (c : Code) (bs : Nat) (cells slots : Nat) (Q : State → Prop) (D : va_G) (cI cC cS : ClassId) (ob : Nat) (a dd o x : Nat → Nat) (e2 ei pc : Nat) : Prop :=
  ∀ (g : Nat → Nat → Int32) (np : Nat) (b : Nat → Nat → Nat) (hs : Nat → Nat → Nat → Int32) (H : Heap) (locs : List Loc) (ls : Array Slot), LSt g np hs e2 →
    va_P D vwCl (wL (kB cI cC cS ob a dd o x g np b hs)) H → va_D (fun q => s.heap.size ≤ q) (wL (kB cI cC cS ob a dd o x g np b hs)) → va_S (fun q => s.heap.size ≤ q) s.heap H locs → lv_has ls 14 [(0, .ref bs), (1, .ref ob), (2, .int (nI np)), (3, .int (nI ei))] →
    W p l e room_1 s m #[Value.ref bs] below meth c H locs cells slots Q (F0 m pc ls [])
theorem LSt.s {g : Nat → Nat → Int32} {np : Nat} {hs : Nat → Nat → Nat → Int32} {e : Nat} (h : LSt g np hs e) : LSt g np hs (e + 1) := ⟨h.1.s, h.2.1, fun i hi => (h.2.2 i hi).s⟩
theorem cmp_self (x : Int64) : lg_cmp x x = 0 := (lg_cmp_eq x x).mpr rfl
/-- behind a call that has saved a state -/
theorem sav_ls {g g1 : Nat → Nat → Int32} {np np1 : Nat} {hs hs1 : Nat → Nat → Nat → Int32} {e : Nat} (h : LSt g np hs e) (hj : JJ g1 (e + 1)) (hv : Sav np hs g np1 hs1) : LSt g1 np1 hs1 (e + 1) ∧ 0 < np1 ∧ hs1 (np1 - 1) = g ∧ ((np < 6 ∧ np1 = np + 1) ∨ (np = 6 ∧ np1 = 6)) := by
  obtain ⟨h1, h2, h3⟩ := h
  rcases hv with ⟨a, rfl, rfl⟩ | ⟨a, rfl, rfl⟩
  · refine ⟨⟨hj, by omega, fun i hi => ?_⟩, by omega, ?_, Or.inl ⟨a, rfl⟩⟩
    · show JJ (if i = np then g else hs i) (e + 1)
      by_cases q : i = np
      · rw [if_pos q]; exact h1.s
      · rw [if_neg q]; exact (h3 i (by omega)).s
    · show (if np + 1 - 1 = np then g else hs (np + 1 - 1)) = g
      rw [if_pos (by omega)]
  · refine ⟨⟨hj, by omega, fun i hi => ?_⟩, by omega, ?_, Or.inr ⟨a, rfl⟩⟩
    · show JJ (if i = 5 then g else hs (rt6 i)) (e + 1)
      by_cases q : i = 5
      · rw [if_pos q]; exact h1.s
      · rw [if_neg q]
        refine (h3 (rt6 i) ?_).s
        unfold rt6
        rw [if_neg q]
        omega
    · show (if 6 - 1 = 5 then g else hs (rt6 (6 - 1))) = g
      rw [if_pos (by decide)]
section MYCL
variable {p : Program} {l : Launch} {e : Env} {R : Room} {s : State} {m : MethodId} {args : Array Value} {below : List Frame} {meth : Method} {c : Code} {H : Heap} {locs : List Loc} {cells slots : Nat} {Q : State → Prop}
variable {cc : ByteArray} {pc : Nat} {ls : Array Slot} {rest st0 : List Value} {A : Nat → Prop}
variable {y : MethodName} {bytes : ByteArray} {maxL nL n index : Nat} {ret : Option FieldType} {wc : List Cond} {rm : Room} {Ts : List Cond} {own : String} {As : List Value} {bs Lx : Nat} {xs : Nat → Int32}
/-- the call of cell: the script is an old row -/
theorem lr_c {post : Int32 → Prop} (F : CallFix p m c cc nL s args Ts own) (hM : Met l y wc rm (clPc bs Lx xs As) (vp_Si post) 0 0 (fun _ => False)) (cw : CallB R s args own index y bytes maxL ret wc rm 0 0 n ∧ (Cond.static y).before args s = true)
    (hX : va_X bs Lx xs s s.heap) (hbl : bs < s.heap.size) (hbA : ¬ A bs) (hS : va_S A s.heap H locs) (hst : st0 = As.reverse ++ rest) (hn : As.length = n) (hsize : ls.size = nL) (hW : (rest.map fun v => v.category).sum ≤ 8) (hdg : decode cc pc = .ok (.invokestatic index, 3)) (hf : cells ≤ R.cells ∧ slots ≤ R.slots)
    (kk : ∀ r : Int32, post r → W p l e R s m args below meth c H locs cells slots Q (F0 m (pc + 3) ls (.int r :: rest))) : W p l e R s m args below meth c H locs cells slots Q (F0 m pc ls st0) :=
  rd_go (free := fun _ => False) (va_runS F hM cw ⟨clPc_blind, fun U hU hW => ⟨rfl, by rw [hU]; exact (hX.kept (hS.2.1 bs hbl hbA)).moved hW.alike, by rw [hU]; exact Nat.lt_of_lt_of_le hbl hS.1⟩⟩ rfl hn hsize hst (lv_room hW) hdg hf) kk
end MYCL
section LSEG
variable {p : Program} {l : Launch} {e : Env} {s : State} {m : MethodId} {below : List Frame} {meth : Method} {c : Code} {H : Heap} {locs : List Loc} {cells slots : Nat} {Q : State → Prop} {ls : Array Slot} {D : va_G} {cI cC cB cS : ClassId} {tL tG : Nat} {aK aV : Nat → Nat} {bs Lx : Nat} {xs : Nat → Int32} {ob : Nat} {a dd o x : Nat → Nat}
variable {g : Nat → Nat → Int32} {np : Nat} {b : Nat → Nat → Nat} {hs : Nat → Nat → Nat → Int32} {lf : Int32} {n q tn tu T ee ei k zc zf : Nat} {pv : Int32}
/-- from the state's checks to the round's end -/
theorem lw_chk (hC : LC p s m c D cI cC cB cS tL tG aK aV bs Lx xs) (hF : cells ≤ 600000 ∧ slots ≤ 7302250) (hL : LSt g np hs (ei + 1)) (hP : va_P D vwCl (wL (kB cI cC cS ob a dd o x g np b hs)) H) (hD : va_D (fun q => s.heap.size ≤ q) (wL (kB cI cC cS ob a dd o x g np b hs))) (hS : va_S (fun q => s.heap.size ≤ q) s.heap H locs) (hl : lv_has ls 14 [(0, .ref (bs)), (1, .ref (ob)), (2, .int (nI np)), (3, .int (nI ei))]) (kk : KK p l e s m below meth c bs cells slots Q D cI cC cS ob a dd o x (ei + 1) ei 532) : W p l e room_1 s m #[Value.ref bs] below meth c H locs cells slots Q (F0 m 120 ls []) := by
  obtain ⟨lf, n, q, tn, tu, T, hI, hE⟩ := id hL.1
  exact sg_all hC ⟨hP, hF, hI, hE⟩ hl (fun ls hl => kk g np b hs H locs ls hL hP hD hS hl)
set_option maxHeartbeats 4000000 in
set_option maxRecDepth 100000 in
theorem lw_tail (hC : LC p s m c D cI cC cB cS tL tG aK aV bs Lx xs) (hF : cells ≤ 600000 ∧ slots ≤ 7302250) {g0 : Nat → Nat → Int32} {v r : Int32} (hI : Inv g0 lf n q tn tu T) (hpos : 0 ≤ r) (hL : LSt g np hs (ei + 1)) (hn0 : 0 < np) (hg0 : hs (np - 1) = g0) (hj0 : JJ g0 (ei + 1)) (hP : va_P D vwCl (wL (kB cI cC cS ob a dd o x g np b hs)) H) (hD : va_D (fun q => s.heap.size ≤ q) (wL (kB cI cC cS ob a dd o x g np b hs))) (hS : va_S (fun q => s.heap.size ≤ q) s.heap H locs) (hl : lv_has ls 14 [(0, .ref bs), (1, .ref ob), (2, .int (nI np)), (3, .int (nI ei)), (4, .int v), (5, .long (tale g0 n q tn tu)), (7, .int r)]) (kk : KK p l e s m below meth c bs cells slots Q D cI cC cS ob a dd o x (ei + 1) ei 532) : W p l e room_1 s m #[Value.ref bs] below meth c H locs cells slots Q (F0 m 80 ls []) := by
  obtain ⟨hx, hb, hml, hown, hts, hX, hbl, hK, hZ, hLx⟩ := id hC
  have hA : ∀ q : Nat, s.heap.size ≤ q → (fun q : Nat => s.heap.size ≤ q) q := fun _ h => h
  have hnp := hL.2.1
  refine lv_iload hx hb dL_law_80 (lv_at hl 6 rfl) ?_
  refine lv_if_lt (tgt := 120) hx hb dL_law_82 (by decide) (fun q9 => absurd q9 (Int32.not_lt.mpr hpos)) (fun _ => ?_)
  refine lv_iload hx hb dL_law_85 (lv_at hl 4 rfl) ?_
  refine lv_bipush (v := 27) hx hb dL_law_87 (by decide) ?_
  refine lv_ishr hx hb dL_law_89 ?_
  refine lv_iconst (v := 3) hx hb dL_law_90 (by decide) ?_
  refine lv_iand hx hb dL_law_91 ?_
  refine lv_if_ne (tgt := 120) hx hb dL_law_92 (by decide) (fun _ => ?_) (fun _ => ?_)
  · exact lw_chk hC hF hL hP hD hS (lv_sub hl [0, 1, 2, 3] rfl) kk
  · refine lv_aload_n hx hb dL_law_95 rfl (lv_at hl 1 rfl) ?_
    refine lw_wi (As := []) (rest := []) (tys := TYS cI cC cB cS) (ci := 6) (fun u => kB cI cC cS ob a dd o x u.1 u.2.1 u.2.2.1 u.2.2.2) ⟨hx, hb, hml, hown, hts⟩ (c_X6_undo l D cI cC cB cS _ a g ob (dd 0) (x 0) o b hs np hnp) (cwV 0 hts gL_law_X6_undo rfl rfl rfl (by decide +kernel) ⟨Nat.le_of_ble_eq_true rfl, Nat.le_of_ble_eq_true rfl⟩) hK hP hD hS hA [0, 1, 2, 5] [3, 4] (by decide) (ap4 _ _ _ _) (fun u => ap4 _ _ _ _) (fun u => rfl) rfl rfl rfl rfl hl.1 (Nat.le_of_ble_eq_true rfl) dL_law_96 hF (fun r1 u1 H locs hu1 hP hD hS => ?_)
    rcases hu1 with ⟨h0, -, -⟩ | ⟨-, e1, e2⟩
    · omega
    subst e1 e2
    have hP : va_P D vwCl (wL (kB cI cC cS ob a dd o x (hs (np - 1)) (np - 1) b hs)) H := hP
    have hD : va_D (fun q => s.heap.size ≤ q) (wL (kB cI cC cS ob a dd o x (hs (np - 1)) (np - 1) b hs)) := hD
    rw [hg0] at hP hD
    refine lv_iload_n hx hb dL_law_99 rfl (lv_at hl 2 rfl) ?_
    refine lv_iconst (v := 1) hx hb dL_law_100 (by decide) ?_
    refine lv_isub hx hb dL_law_101 ?_
    rw [show nI np - 1 = nI (np - 1) from pk_sub (b := 1) hn0]
    refine lv_icmp_ne (tgt := 115) hx hb dL_law_102 (by decide) (fun q9 => absurd rfl q9) (fun _ => ?_)
    refine lv_aload_n hx hb dL_law_105 rfl (lv_at hl 1 rfl) ?_
    refine lr_sl (As := [.ref ob]) (rest := []) (tys := TYS cI cC cB cS) ⟨hx, hb, hml, hown, hts⟩ (c_L_tale l D cI cC cB cS ob a dd o x g0 (np - 1) b hs hI) (va_cwS 1 hts gL_law_L_tale rfl rfl rfl (by decide +kernel) ⟨Nat.le_of_ble_eq_true rfl, Nat.le_of_ble_eq_true rfl⟩) hK hP rfl rfl hl.1 (Nat.le_of_ble_eq_true rfl) dL_law_106 hF (fun t1 et1 => ?_)
    subst et1
    refine lv_lload hx hb dL_law_109 (lv_at hl 5 rfl) ?_
    refine W.lcmp hx hb dL_law_111 ?_
    refine lv_if_eq (tgt := 117) hx hb dL_law_112 (by decide) (fun _ => ?_) (fun q9 => absurd (cmp_self _) q9)
    refine lv_iinc (v := nI (np - 1)) (lv' := [(2, .int (nI (np - 1))), (0, .ref bs), (1, .ref ob), (3, .int (nI ei)), (4, .int v), (5, .long (tale g0 n q tn tu)), (7, .int r)]) hx hb dL_law_117 hl (k := 2) rfl (pk_dec hn0) (by decide) rfl (fun ls hl => ?_)
    exact lw_chk hC hF (np := np - 1) ⟨hj0, by omega, fun i hi => hL.2.2 i (by omega)⟩ hP hD hS (lv_sub hl [1, 2, 0, 3] rfl) kk
set_option maxHeartbeats 4000000 in
set_option maxRecDepth 100000 in
theorem lw_round (hC : LC p s m c D cI cC cB cS tL tG aK aV bs Lx xs) (hF : cells ≤ 600000 ∧ slots ≤ 7302250) (hei : ei < 40) (hL : LSt g np hs ei) (hP : va_P D vwCl (wL (kB cI cC cS ob a dd o x g np b hs)) H) (hD : va_D (fun q => s.heap.size ≤ q) (wL (kB cI cC cS ob a dd o x g np b hs))) (hS : va_S (fun q => s.heap.size ≤ q) s.heap H locs) (hl : lv_has ls 14 [(0, .ref (bs)), (1, .ref (ob)), (2, .int (nI np)), (3, .int (nI ei))]) (kk : KK p l e s m below meth c bs cells slots Q D cI cC cS ob a dd o x (ei + 1) ei 532) : W p l e room_1 s m #[Value.ref bs] below meth c H locs cells slots Q (F0 m 18 ls []) := by
  obtain ⟨hx, hb, hml, hown, hts, hX, hbl, hK, hZ, hLx⟩ := id hC
  have hA : ∀ q : Nat, s.heap.size ≤ q → (fun q : Nat => s.heap.size ≤ q) q := fun _ h => h
  have hbA : ¬ (fun q : Nat => s.heap.size ≤ q) bs := Nat.not_le.mpr hbl
  obtain ⟨lf, n, q, tn, tu, T, hI, hE⟩ := id hL.1
  have hnp := hL.2.1
  refine lv_aload_n hx hb dL_law_18 rfl (lv_at hl 0 rfl) ?_
  refine lv_iload_n hx hb dL_law_19 rfl (lv_at hl 3 rfl) ?_
  refine lr_c (As := [.ref bs, .int (nI ei)]) (rest := []) ⟨hx, hb, hml, hown, hts⟩ (c_L_cell l bs Lx xs ei (by omega) (by omega)) (va_cwS 2 hts gL_law_L_cell rfl rfl rfl (by decide +kernel) ⟨Nat.le_of_ble_eq_true rfl, Nat.le_of_ble_eq_true rfl⟩) hX hbl hbA hS rfl rfl hl.1 (Nat.le_of_ble_eq_true rfl) dL_law_20 hF (fun v _ => ?_)
  refine lv_istore (lv' := [(4, .int v), (0, .ref (bs)), (1, .ref (ob)), (2, .int (nI np)), (3, .int (nI ei))]) hx hb dL_law_23 hl (by decide) rfl (fun ls hl => ?_)
  refine lv_aload_n hx hb dL_law_25 rfl (lv_at hl 2 rfl) ?_
  refine lr_sl (As := [.ref ob]) (rest := []) (tys := TYS cI cC cB cS) ⟨hx, hb, hml, hown, hts⟩ (c_L_tale l D cI cC cB cS ob a dd o x g np b hs hI) (va_cwS 1 hts gL_law_L_tale rfl rfl rfl (by decide +kernel) ⟨Nat.le_of_ble_eq_true rfl, Nat.le_of_ble_eq_true rfl⟩) hK hP rfl rfl hl.1 (Nat.le_of_ble_eq_true rfl) dL_law_26 hF (fun t0 et0 => ?_)
  subst et0
  refine lv_lstore (lv' := [(5, .long (tale g n q tn tu)), (4, .int v), (0, .ref (bs)), (1, .ref (ob)), (2, .int (nI np)), (3, .int (nI ei))]) hx hb dL_law_29 hl (by decide) rfl (fun ls hl => ?_)
  refine lv_aload_n hx hb dL_law_31 rfl (lv_at hl 3 rfl) ?_
  refine lv_iload hx hb dL_law_32 (lv_at hl 1 rfl) ?_
  refine lw_ss (As := [.ref ob, .int v]) (rest := []) (tys := TYS cI cC cB cS) ⟨hx, hb, hml, hown, hts⟩ (c_L_does l D cI cC cB cS _ tL tG aK aV ob a dd o x g np b hs v ei (by omega) hnp hI hE) (va_cwS 2 hts gL_law_L_does rfl rfl rfl (by decide +kernel) ⟨Nat.le_of_ble_eq_true rfl, Nat.le_of_ble_eq_true rfl⟩) hK hP hD hS hA hZ rfl rfl hl.1 (Nat.le_of_ble_eq_true rfl) dL_law_34 hF (fun r u H2 locs2 hr hPn hDn hSn => ?_)
  obtain ⟨g1, np1, b1, hs1⟩ := u
  have hPn : va_P D vwCl (wL (kB cI cC cS ob a dd o x g1 np1 b1 hs1)) H2 := hPn
  have hDn : va_D (fun q => s.heap.size ≤ q) (wL (kB cI cC cS ob a dd o x g1 np1 b1 hs1)) := hDn
  refine lv_istore (lv' := [(7, .int r), (5, .long (tale g n q tn tu)), (4, .int v), (0, .ref (bs)), (1, .ref (ob)), (2, .int (nI np)), (3, .int (nI ei))]) hx hb dL_law_37 hl (by decide) rfl (fun ls hl => ?_)
  refine lv_iload hx hb dL_law_39 (lv_at hl 0 rfl) ?_
  rcases hr with ⟨hneg, e1⟩ | ⟨hpos, hj, hsv⟩
  · -- an error: nothing has changed
    injection e1 with e1 e2
    injection e2 with e2 e3
    injection e3 with e3 e4
    subst e1 e2 e3 e4
    refine lv_if_ge (tgt := 56) hx hb dL_law_41 (by decide) (fun q9 => absurd q9 (Int32.not_le.mpr hneg)) (fun _ => ?_)
    refine lv_aload_n hx hb dL_law_44 rfl (lv_at hl 4 rfl) ?_
    refine lr_sl (As := [.ref ob]) (rest := []) (tys := TYS cI cC cB cS) ⟨hx, hb, hml, hown, hts⟩ (c_L_tale l D cI cC cB cS ob a dd o x g1 np1 b1 hs1 hI) (va_cwS 1 hts gL_law_L_tale rfl rfl rfl (by decide +kernel) ⟨Nat.le_of_ble_eq_true rfl, Nat.le_of_ble_eq_true rfl⟩) hK hPn rfl rfl hl.1 (Nat.le_of_ble_eq_true rfl) dL_law_45 hF (fun t1 et1 => ?_)
    subst et1
    refine lv_lload hx hb dL_law_48 (lv_at hl 1 rfl) ?_
    refine W.lcmp hx hb dL_law_50 ?_
    refine lv_if_eq (tgt := 56) hx hb dL_law_51 (by decide) (fun _ => ?_) (fun q9 => absurd (cmp_self _) q9)
    refine lv_iload hx hb dL_law_56 (lv_at hl 0 rfl) ?_
    refine lv_if_ge (tgt := 65) hx hb dL_law_58 (by decide) (fun q9 => absurd q9 (Int32.not_le.mpr hneg)) (fun _ => ?_)
    refine lv_iload_n hx hb dL_law_61 rfl (lv_at hl 5 rfl) ?_
    refine lv_goto (tgt := 79) hx hb dL_law_62 (by decide) ?_
    refine lv_istore_n (lv' := [(2, .int (nI np1)), (7, .int r), (5, .long (tale g1 n q tn tu)), (4, .int v), (0, .ref (bs)), (1, .ref (ob)), (3, .int (nI ei))]) hx hb dL_law_79 rfl hl (by decide) rfl (fun ls hl => ?_)
    refine lv_iload hx hb dL_law_80 (lv_at hl 1 rfl) ?_
    refine lv_if_lt (tgt := 120) hx hb dL_law_82 (by decide) (fun _ => ?_) (fun q9 => absurd hneg q9)
    exact lw_chk hC hF hL.s hPn hDn hSn (lv_sub hl [4, 5, 0, 6] rfl) kk
  · -- the call was carried out
    obtain ⟨hL1, hn0, hg0, hc⟩ := sav_ls hL hj hsv
    refine lv_if_ge (tgt := 56) hx hb dL_law_41 (by decide) (fun _ => ?_) (fun q9 => absurd hpos q9)
    refine lv_iload hx hb dL_law_56 (lv_at hl 0 rfl) ?_
    refine lv_if_ge (tgt := 65) hx hb dL_law_58 (by decide) (fun _ => ?_) (fun q9 => absurd hpos q9)
    refine lv_iload_n hx hb dL_law_65 rfl (lv_at hl 5 rfl) ?_
    refine lv_bipush (v := 6) hx hb dL_law_66 (by decide) ?_
    rcases hc with ⟨h6, e6⟩ | ⟨h6, e6⟩
    · refine lv_icmp_ge (tgt := 77) hx hb dL_law_68 (by decide) (fun q9 => absurd q9 (nI_ge h6 (by decide))) (fun _ => ?_)
      have e6 : np1 = np + 1 := e6
      refine lv_iload_n hx hb dL_law_71 rfl (lv_at hl 5 rfl) ?_
      refine lv_iconst (v := 1) hx hb dL_law_72 (by decide) ?_
      refine lv_iadd hx hb dL_law_73 ?_
      rw [show nI np + 1 = nI np1 from by rw [nI_1, e6]]
      refine lv_goto (tgt := 79) hx hb dL_law_74 (by decide) ?_
      refine lv_istore_n (lv' := [(2, .int (nI np1)), (7, .int r), (5, .long (tale g n q tn tu)), (4, .int v), (0, .ref (bs)), (1, .ref (ob)), (3, .int (nI ei))]) hx hb dL_law_79 rfl hl (by decide) rfl (fun ls hl => ?_)
      exact lw_tail hC hF hI hpos hL1 hn0 hg0 hL.1.s hPn hDn hSn (lv_sub hl [4, 5, 0, 6, 3, 2, 1] rfl) kk
    · refine lv_icmp_ge (tgt := 77) hx hb dL_law_68 (by decide) (fun _ => ?_) (fun q9 => absurd (by rw [h6]; decide) q9)
      have e6 : np1 = 6 := e6
      refine lv_bipush (v := nI np1) hx hb dL_law_77 (by rw [e6]; decide) ?_
      refine lv_istore_n (lv' := [(2, .int (nI np1)), (7, .int r), (5, .long (tale g n q tn tu)), (4, .int v), (0, .ref (bs)), (1, .ref (ob)), (3, .int (nI ei))]) hx hb dL_law_79 rfl hl (by decide) rfl (fun ls hl => ?_)
      exact lw_tail hC hF hI hpos hL1 hn0 hg0 hL.1.s hPn hDn hSn (lv_sub hl [4, 5, 0, 6, 3, 2, 1] rfl) kk
set_option maxHeartbeats 4000000 in
set_option maxRecDepth 100000 in
theorem law_loop (hC : LC p s m c D cI cC cB cS tL tG aK aV bs Lx xs) (hF : cells ≤ 600000 ∧ slots ≤ 7302250) (hr : meth.sig.returnType = ret) (hlocks : meth.locks = false) : ∀ (d ei : Nat), ei ≤ 40 → 40 - ei < d → KK p l e s m below meth c bs cells slots (lw_Z below #[Value.ref bs] s) D cI cC cS ob a dd o x ei ei 12 := by
  obtain ⟨hx, hb, hml, hown, hts, hX, hbl, hK, hZ, hLx⟩ := id hC
  have hA : ∀ q : Nat, s.heap.size ≤ q → (fun q : Nat => s.heap.size ≤ q) q := fun _ h => h
  intro d
  induction d with
  | zero => intro ei _ h2; exact absurd h2 (Nat.not_lt_zero _)
  | succ d ih =>
    intro ei hei hd g np b hs H locs ls hL hP hD hS hl
    have hnp := hL.2.1
    refine lv_iload_n hx hb dL_law_12 rfl (lv_at hl 3 rfl) ?_
    refine lv_bipush (v := 40) hx hb dL_law_13 (by decide) ?_
    refine lv_icmp_ge (tgt := 538) hx hb dL_law_15 (by decide) (fun c1 => ?_) (fun c1 => ?_)
    · refine lv_aload_n hx hb dL_law_538 rfl (lv_at hl 1 rfl) ?_
      refine lw_wi (As := []) (rest := []) (tys := TYS cI cC cB cS) (ci := 6) (fun u => kB cI cC cS ob a dd o x u.1 u.2.1 u.2.2.1 u.2.2.2) ⟨hx, hb, hml, hown, hts⟩ (c_X6_undo l D cI cC cB cS _ a g ob (dd 0) (x 0) o b hs np hnp) (cwV 0 hts gL_law_X6_undo rfl rfl rfl (by decide +kernel) ⟨Nat.le_of_ble_eq_true rfl, Nat.le_of_ble_eq_true rfl⟩) hK hP hD hS hA [0, 1, 2, 5] [3, 4] (by decide) (ap4 _ _ _ _) (fun u => ap4 _ _ _ _) (fun u => rfl) rfl rfl rfl rfl hl.1 (Nat.le_of_ble_eq_true rfl) dL_law_539 hF (fun r1 u1 H locs hu1 hP hD hS => ?_)
      refine lv_iload_n hx hb dL_law_542 rfl (lv_at hl 2 rfl) ?_
      have fin : ∀ (H : Heap) (locs : List Loc), va_S (fun q => s.heap.size ≤ q) s.heap H locs → W p l e room_1 s m #[Value.ref bs] below meth c H locs cells slots (lw_Z below #[Value.ref bs] s) (F0 m 557 ls []) := fun H locs hS => by
        refine lv_iconst (v := 1) hx hb dL_law_557 (by decide) ?_
        refine lv_goto (tgt := 562) hx hb dL_law_558 (by decide) ?_
        refine va_forget (fun q hq => hS.2.2 q hq) ?_
        refine W.widen (k := 600000) (n := 7302250) hF.1 hF.2 ?_
        exact lw_ret hx hb hr hlocks dL_law_562
      rcases hu1 with ⟨e0, e1, -⟩ | ⟨h0, e1, -⟩
      · subst e0 e1
        refine lv_if_ne (tgt := 551) hx hb dL_law_543 (by decide) (fun q9 => absurd rfl q9) (fun _ => ?_)
        refine lv_bipush (v := -2) hx hb dL_law_546 (by decide) ?_
        refine lv_goto (tgt := 554) hx hb dL_law_548 (by decide) ?_
        refine lv_icmp_ne (tgt := 561) hx hb dL_law_554 (by decide) (fun q9 => absurd rfl q9) (fun _ => ?_)
        exact fin H locs hS
      · subst e1
        refine lv_if_ne (tgt := 551) hx hb dL_law_543 (by decide) (fun _ => ?_) (fun q9 => absurd q9 (nI_ne0 h0 (by omega)))
        refine lv_iload_n hx hb dL_law_551 rfl (lv_at hl 2 rfl) ?_
        refine lv_iconst (v := 1) hx hb dL_law_552 (by decide) ?_
        refine lv_isub hx hb dL_law_553 ?_
        rw [show nI np - 1 = nI (np - 1) from pk_sub (b := 1) h0]
        refine lv_icmp_ne (tgt := 561) hx hb dL_law_554 (by decide) (fun q9 => absurd rfl q9) (fun _ => ?_)
        exact fin H locs hS
    · have h40 : ei < 40 := nI_ltD (y := 40) rfl hei (by omega) c1
      refine lw_round hC hF h40 hL hP hD hS hl (fun g np b hs H locs ls hL hP hD hS hl => ?_)
      refine lv_iinc (v := nI (ei + 1)) (lv' := [(3, .int (nI (ei + 1))), (0, .ref bs), (1, .ref ob), (2, .int (nI np))]) hx hb dL_law_532 hl (k := 3) rfl (nI_1 _) (by decide) rfl (fun ls hl => ?_)
      refine lv_goto (tgt := 12) hx hb dL_law_535 (by decide) ?_
      exact ih (ei + 1) h40 (by omega) g np b hs H locs ls hL hP hD hS (lv_sub hl [1, 2, 3, 0] rfl)
end LSEG
