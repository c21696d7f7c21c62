/-! ===== the law, case by case (laid by wip/whole/gen/law.py) ===== -/
section LCASES
variable {p : Program} {l : Launch} {e : Env} {s : State} {m : MethodId} {below : List Frame} {meth : Method} {c : Code} {H : Heap} {locs : List Loc} {cells slots : Nat} {Q : State → Prop} {ls : Array Slot} {D : va_G} {cI cC cB cS : ClassId} {tL tG : Nat} {aK aV : Nat → Nat} {bs Lx i : Nat} {xs : Nat → Int32} {ob : Nat} {a dd o x ma : Nat → Nat}
variable {g : Nat → Nat → Int32} {lf : Int32} {np : Nat} {b : Nat → Nat → Nat} {hs : Nat → Nat → Nat → Int32} {lfs Pp : Nat → Int32} {dg : Nat → Nat → Int32} {L tk ts te : Nat} {f E ex : Nat → Int32} {wd : Int64}
set_option maxHeartbeats 4000000 in
set_option maxRecDepth 100000 in
theorem lc_count (hC : LC p s m c D cI cC cB cS tL tG aK aV bs Lx xs) (hl : lv_has ls 4 [(0, .ref bs), (1, .ref ob), (2, .ref (ma 0)), (3, .int (nI i))]) (hi : i + 5 ≤ Lx) (hcl : cells ≤ 600000) (hsl : slots ≤ 7302250) (hL : LSt g lf np hs lfs Pp L f) (hP : va_P D vwCl (wL (lb (kB cI cC cS ob a dd o x g np b hs dg L tk ts te f) (mB cI cB ma g lf np L f Pp E ex wd))) H) (hD : va_D (fun q => s.heap.size ≤ q) (wL (lb (kB cI cC cS ob a dd o x g np b hs dg L tk ts te f) (mB cI cB ma g lf np L f Pp E ex wd)))) (hS : va_S (fun q => s.heap.size ≤ q) s.heap H locs) (kk : KK p l e s m below meth c bs cells slots Q D cI cC cB cS ob a dd o x ma 910 ls) : W p l e room_1 s m #[Value.ref bs] below meth c H locs cells slots Q (F0 m 541 ls []) := by
  obtain ⟨hx, hb, hml, hown, hts, hX, hbl, hK, hZ, hLx⟩ := hC
  have hl2 : lv_has ls 4 [(0, .ref bs), (3, .int (nI i)), (1, .ref ob)] := lv_sub hl [0, 3, 1] rfl
  have hA : ∀ q : Nat, s.heap.size ≤ q → (fun q : Nat => s.heap.size ≤ q) q := fun _ h => h
  have hbA : ¬ (fun q : Nat => s.heap.size ≤ q) bs := Nat.not_le.mpr hbl
  obtain ⟨⟨n, q, tn, tu, T, hI⟩, hnp, hh, hPR, hLb, hch⟩ := id hL
  have hn31 : n < 2 ^ 31 := by have := hI.hnb; omega
  have hq31 : q < 2 ^ 31 := by have := hI.hqc; omega
  obtain ⟨z0, hz0, hz1⟩ := hI.hcnt
  refine lv_aload_n hx hb dL_law_541 rfl (lv_at hl 1 rfl) ?_
  refine ls_arg hx hb hl2 hX hbl hbA hS 1 (by decide) hi hLx dL_law_542 dL_law_543 dL_law_544 dL_law_545 dL_law_546 ?_
  have hPX : va_P D vwCl ([(ob, oE 6 [.ref (a 0), .ref (dd 0), .ref (o 0), .ref (x 0)]), (x 0, oE 5 [.int (nI L), .ref (x 1), .int (nI tk), .int (nI ts), .int (nI te)]), (o 0, oE 1 [.int (nI np), .ref (o 1)])] ++ wS cI a g) H := (bl_sub hP [0, 4, 1, 2] (by decide)).sub [0, 1, 3, 5, 6, 7, 8, 9, 10, 11, 12, 13, 14, 15, 16, 17, 18, 19, 20, 21, 22, 23, 24, 25, 26, 27, 28, 29, 30, 31] rfl
  refine lr_i (As := [.int (xs (i + 1))]) (rest := []) (tys := TYS cI cC cB cS) (ci := 6) ⟨hx, hb, hml, hown, hts⟩ (c_X6_count l D cI cC cB cS a g ob (dd 0) (o 0) (x 0) n q (nI L) (x 1) (nI tk) (nI ts) (nI te) np (o 1) (xs (i + 1)) hI.hn hI.hnb hI.hq hI.hqc) (cwV 1 hts gL_law_X6_count rfl rfl rfl (by decide +kernel) ⟨Nat.le_of_ble_eq_true rfl, Nat.le_of_ble_eq_true rfl⟩) hK hPX rfl rfl rfl rfl hl.1 (Nat.le_of_ble_eq_true rfl) dL_law_547 ⟨hcl, hsl⟩ (fun r1 h1 => ?_)
  refine lv_aload_n hx hb dL_law_550 rfl (lv_at hl 2 rfl) ?_
  refine ls_arg hx hb hl2 hX hbl hbA hS 1 (by decide) hi hLx dL_law_551 dL_law_552 dL_law_553 dL_law_554 dL_law_555 ?_
  have hPX : va_P D vwCl ([mO ma (fiF np L ex) wd, (ma 1, iE cI 382 (enc g lf))]) H := bl_sub hP [6, 7] (by decide)
  refine lr_i (As := [.int (xs (i + 1))]) (rest := [.int r1]) (tys := TYS cI cC cB cS) (ci := 7) ⟨hx, hb, hml, hown, hts⟩ (c_X7_count l D cI cC cB cS ma (fiF np L ex) wd g lf n q np z0 (xs (i + 1)) hI.hn hI.hnb hI.hq hI.hqc rfl hz0 hz1) (cwV 1 hts gL_law_X7_count rfl rfl rfl (by decide +kernel) ⟨Nat.le_of_ble_eq_true rfl, Nat.le_of_ble_eq_true rfl⟩) hK hPX rfl rfl rfl rfl hl.1 (Nat.le_of_ble_eq_true rfl) dL_law_556 ⟨hcl, hsl⟩ (fun r2 h2 => ?_)
  have hrr : r1 = r2 := aCount_one h1 h2
  subst hrr
  refine lv_icmp_eq (tgt := 910) hx hb dL_law_559 (by decide) (fun _ => ?_) (fun q => absurd rfl q)
  exact kk _ _ _ _ _ _ _ _ _ _ _ _ _ _ _ _ _ _ hL hP hD hS
set_option maxHeartbeats 4000000 in
set_option maxRecDepth 100000 in
theorem lc_bay (hC : LC p s m c D cI cC cB cS tL tG aK aV bs Lx xs) (hl : lv_has ls 4 [(0, .ref bs), (1, .ref ob), (2, .ref (ma 0)), (3, .int (nI i))]) (hi : i + 5 ≤ Lx) (hcl : cells ≤ 600000) (hsl : slots ≤ 7302250) (hL : LSt g lf np hs lfs Pp L f) (hP : va_P D vwCl (wL (lb (kB cI cC cS ob a dd o x g np b hs dg L tk ts te f) (mB cI cB ma g lf np L f Pp E ex wd))) H) (hD : va_D (fun q => s.heap.size ≤ q) (wL (lb (kB cI cC cS ob a dd o x g np b hs dg L tk ts te f) (mB cI cB ma g lf np L f Pp E ex wd)))) (hS : va_S (fun q => s.heap.size ≤ q) s.heap H locs) (kk : KK p l e s m below meth c bs cells slots Q D cI cC cB cS ob a dd o x ma 910 ls) : W p l e room_1 s m #[Value.ref bs] below meth c H locs cells slots Q (F0 m 564 ls []) := by
  obtain ⟨hx, hb, hml, hown, hts, hX, hbl, hK, hZ, hLx⟩ := hC
  have hl2 : lv_has ls 4 [(0, .ref bs), (3, .int (nI i)), (1, .ref ob)] := lv_sub hl [0, 3, 1] rfl
  have hA : ∀ q : Nat, s.heap.size ≤ q → (fun q : Nat => s.heap.size ≤ q) q := fun _ h => h
  have hbA : ¬ (fun q : Nat => s.heap.size ≤ q) bs := Nat.not_le.mpr hbl
  obtain ⟨⟨n, q, tn, tu, T, hI⟩, hnp, hh, hPR, hLb, hch⟩ := id hL
  have hn31 : n < 2 ^ 31 := by have := hI.hnb; omega
  have hq31 : q < 2 ^ 31 := by have := hI.hqc; omega
  refine lv_aload_n hx hb dL_law_564 rfl (lv_at hl 1 rfl) ?_
  refine ls_arg hx hb hl2 hX hbl hbA hS 1 (by decide) hi hLx dL_law_565 dL_law_566 dL_law_567 dL_law_568 dL_law_569 ?_
  refine ls_arg hx hb hl2 hX hbl hbA hS 2 (by decide) hi hLx dL_law_570 dL_law_571 dL_law_572 dL_law_573 dL_law_574 ?_
  have hPX : va_P D vwCl ([(ob, oE 6 [.ref (a 0), .ref (dd 0), .ref (o 0), .ref (x 0)])] ++ wS cI a g) H := bl_sub hP [0, 2] (by decide)
  refine lr_i (As := [.int (xs (i + 1)), .int (xs (i + 2))]) (rest := []) (tys := TYS cI cC cB cS) (ci := 6) ⟨hx, hb, hml, hown, hts⟩ (c_X6_bay l D cI cC cB cS a g ob (dd 0) (o 0) (x 0) n q (xs (i + 1)) (xs (i + 2)) hI.hn hI.hnb hI.hq hI.hqc) (cwV 2 hts gL_law_X6_bay rfl rfl rfl (by decide +kernel) ⟨Nat.le_of_ble_eq_true rfl, Nat.le_of_ble_eq_true rfl⟩) hK hPX rfl rfl rfl rfl hl.1 (Nat.le_of_ble_eq_true rfl) dL_law_575 ⟨hcl, hsl⟩ (fun r1 h1 => ?_)
  refine lv_aload_n hx hb dL_law_578 rfl (lv_at hl 2 rfl) ?_
  refine ls_arg hx hb hl2 hX hbl hbA hS 1 (by decide) hi hLx dL_law_579 dL_law_580 dL_law_581 dL_law_582 dL_law_583 ?_
  refine ls_arg hx hb hl2 hX hbl hbA hS 2 (by decide) hi hLx dL_law_584 dL_law_585 dL_law_586 dL_law_587 dL_law_588 ?_
  have hPX : va_P D vwCl ([mO ma (fiF np L ex) wd, (ma 1, iE cI 382 (enc g lf))]) H := bl_sub hP [6, 7] (by decide)
  refine lr_i (As := [.int (xs (i + 1)), .int (xs (i + 2))]) (rest := [.int r1]) (tys := TYS cI cC cB cS) (ci := 7) ⟨hx, hb, hml, hown, hts⟩ (c_X7_bay l D cI cC cB cS ma (fiF np L ex) wd g lf n q (xs (i + 1)) (xs (i + 2)) hI.hn hI.hnb hI.hq hI.hqc hI.hst hI.htm) (cwV 2 hts gL_law_X7_bay rfl rfl rfl (by decide +kernel) ⟨Nat.le_of_ble_eq_true rfl, Nat.le_of_ble_eq_true rfl⟩) hK hPX rfl rfl rfl rfl hl.1 (Nat.le_of_ble_eq_true rfl) dL_law_589 ⟨hcl, hsl⟩ (fun r2 h2 => ?_)
  have hrr : r1 = r2 := aBay_one hn31 h1 h2
  subst hrr
  refine lv_icmp_eq (tgt := 910) hx hb dL_law_592 (by decide) (fun _ => ?_) (fun q => absurd rfl q)
  exact kk _ _ _ _ _ _ _ _ _ _ _ _ _ _ _ _ _ _ hL hP hD hS
set_option maxHeartbeats 4000000 in
set_option maxRecDepth 100000 in
theorem lc_reservation (hC : LC p s m c D cI cC cB cS tL tG aK aV bs Lx xs) (hl : lv_has ls 4 [(0, .ref bs), (1, .ref ob), (2, .ref (ma 0)), (3, .int (nI i))]) (hi : i + 5 ≤ Lx) (hcl : cells ≤ 600000) (hsl : slots ≤ 7302250) (hL : LSt g lf np hs lfs Pp L f) (hP : va_P D vwCl (wL (lb (kB cI cC cS ob a dd o x g np b hs dg L tk ts te f) (mB cI cB ma g lf np L f Pp E ex wd))) H) (hD : va_D (fun q => s.heap.size ≤ q) (wL (lb (kB cI cC cS ob a dd o x g np b hs dg L tk ts te f) (mB cI cB ma g lf np L f Pp E ex wd)))) (hS : va_S (fun q => s.heap.size ≤ q) s.heap H locs) (kk : KK p l e s m below meth c bs cells slots Q D cI cC cB cS ob a dd o x ma 910 ls) : W p l e room_1 s m #[Value.ref bs] below meth c H locs cells slots Q (F0 m 597 ls []) := by
  obtain ⟨hx, hb, hml, hown, hts, hX, hbl, hK, hZ, hLx⟩ := hC
  have hl2 : lv_has ls 4 [(0, .ref bs), (3, .int (nI i)), (1, .ref ob)] := lv_sub hl [0, 3, 1] rfl
  have hA : ∀ q : Nat, s.heap.size ≤ q → (fun q : Nat => s.heap.size ≤ q) q := fun _ h => h
  have hbA : ¬ (fun q : Nat => s.heap.size ≤ q) bs := Nat.not_le.mpr hbl
  obtain ⟨⟨n, q, tn, tu, T, hI⟩, hnp, hh, hPR, hLb, hch⟩ := id hL
  have hn31 : n < 2 ^ 31 := by have := hI.hnb; omega
  have hq31 : q < 2 ^ 31 := by have := hI.hqc; omega
  refine lv_aload_n hx hb dL_law_597 rfl (lv_at hl 1 rfl) ?_
  refine ls_arg hx hb hl2 hX hbl hbA hS 1 (by decide) hi hLx dL_law_598 dL_law_599 dL_law_600 dL_law_601 dL_law_602 ?_
  refine ls_arg hx hb hl2 hX hbl hbA hS 2 (by decide) hi hLx dL_law_603 dL_law_604 dL_law_605 dL_law_606 dL_law_607 ?_
  have hPX : va_P D vwCl ([(ob, oE 6 [.ref (a 0), .ref (dd 0), .ref (o 0), .ref (x 0)])] ++ wS cI a g) H := bl_sub hP [0, 2] (by decide)
  refine lr_i (As := [.int (xs (i + 1)), .int (xs (i + 2))]) (rest := []) (tys := TYS cI cC cB cS) (ci := 6) ⟨hx, hb, hml, hown, hts⟩ (c_X6_reservation l D cI cC cB cS a g ob (dd 0) (o 0) (x 0) q (xs (i + 1)) (xs (i + 2)) hI.hq hI.hqc) (cwV 2 hts gL_law_X6_reservation rfl rfl rfl (by decide +kernel) ⟨Nat.le_of_ble_eq_true rfl, Nat.le_of_ble_eq_true rfl⟩) hK hPX rfl rfl rfl rfl hl.1 (Nat.le_of_ble_eq_true rfl) dL_law_608 ⟨hcl, hsl⟩ (fun r1 h1 => ?_)
  refine lv_aload_n hx hb dL_law_611 rfl (lv_at hl 2 rfl) ?_
  refine ls_arg hx hb hl2 hX hbl hbA hS 1 (by decide) hi hLx dL_law_612 dL_law_613 dL_law_614 dL_law_615 dL_law_616 ?_
  refine ls_arg hx hb hl2 hX hbl hbA hS 2 (by decide) hi hLx dL_law_617 dL_law_618 dL_law_619 dL_law_620 dL_law_621 ?_
  have hPX : va_P D vwCl ([mO ma (fiF np L ex) wd, (ma 1, iE cI 382 (enc g lf))]) H := bl_sub hP [6, 7] (by decide)
  refine lr_i (As := [.int (xs (i + 1)), .int (xs (i + 2))]) (rest := [.int r1]) (tys := TYS cI cC cB cS) (ci := 7) ⟨hx, hb, hml, hown, hts⟩ (c_X7_reservation l D cI cC cB cS ma (fiF np L ex) wd g lf q (xs (i + 1)) (xs (i + 2)) hI.hq hI.hqc) (cwV 2 hts gL_law_X7_reservation rfl rfl rfl (by decide +kernel) ⟨Nat.le_of_ble_eq_true rfl, Nat.le_of_ble_eq_true rfl⟩) hK hPX rfl rfl rfl rfl hl.1 (Nat.le_of_ble_eq_true rfl) dL_law_622 ⟨hcl, hsl⟩ (fun r2 h2 => ?_)
  have hrr : r1 = r2 := aRes_one hq31 h1 h2
  subst hrr
  refine lv_icmp_eq (tgt := 910) hx hb dL_law_625 (by decide) (fun _ => ?_) (fun q => absurd rfl q)
  exact kk _ _ _ _ _ _ _ _ _ _ _ _ _ _ _ _ _ _ hL hP hD hS
set_option maxHeartbeats 4000000 in
set_option maxRecDepth 100000 in
theorem lc_car (hC : LC p s m c D cI cC cB cS tL tG aK aV bs Lx xs) (hl : lv_has ls 4 [(0, .ref bs), (1, .ref ob), (2, .ref (ma 0)), (3, .int (nI i))]) (hi : i + 5 ≤ Lx) (hcl : cells ≤ 600000) (hsl : slots ≤ 7302250) (hL : LSt g lf np hs lfs Pp L f) (hP : va_P D vwCl (wL (lb (kB cI cC cS ob a dd o x g np b hs dg L tk ts te f) (mB cI cB ma g lf np L f Pp E ex wd))) H) (hD : va_D (fun q => s.heap.size ≤ q) (wL (lb (kB cI cC cS ob a dd o x g np b hs dg L tk ts te f) (mB cI cB ma g lf np L f Pp E ex wd)))) (hS : va_S (fun q => s.heap.size ≤ q) s.heap H locs) (kk : KK p l e s m below meth c bs cells slots Q D cI cC cB cS ob a dd o x ma 910 ls) : W p l e room_1 s m #[Value.ref bs] below meth c H locs cells slots Q (F0 m 630 ls []) := by
  obtain ⟨hx, hb, hml, hown, hts, hX, hbl, hK, hZ, hLx⟩ := hC
  have hl2 : lv_has ls 4 [(0, .ref bs), (3, .int (nI i)), (1, .ref ob)] := lv_sub hl [0, 3, 1] rfl
  have hA : ∀ q : Nat, s.heap.size ≤ q → (fun q : Nat => s.heap.size ≤ q) q := fun _ h => h
  have hbA : ¬ (fun q : Nat => s.heap.size ≤ q) bs := Nat.not_le.mpr hbl
  obtain ⟨⟨n, q, tn, tu, T, hI⟩, hnp, hh, hPR, hLb, hch⟩ := id hL
  have hn31 : n < 2 ^ 31 := by have := hI.hnb; omega
  have hq31 : q < 2 ^ 31 := by have := hI.hqc; omega
  refine lv_aload_n hx hb dL_law_630 rfl (lv_at hl 1 rfl) ?_
  refine ls_arg hx hb hl2 hX hbl hbA hS 1 (by decide) hi hLx dL_law_631 dL_law_632 dL_law_633 dL_law_634 dL_law_635 ?_
  refine ls_arg hx hb hl2 hX hbl hbA hS 2 (by decide) hi hLx dL_law_636 dL_law_637 dL_law_638 dL_law_639 dL_law_640 ?_
  have hPX : va_P D vwCl ([(ob, oE 6 [.ref (a 0), .ref (dd 0), .ref (o 0), .ref (x 0)])] ++ wS cI a g) H := bl_sub hP [0, 2] (by decide)
  refine lr_i (As := [.int (xs (i + 1)), .int (xs (i + 2))]) (rest := []) (tys := TYS cI cC cB cS) (ci := 6) ⟨hx, hb, hml, hown, hts⟩ (c_X6_car l D cI cC cB cS a g ob (dd 0) (o 0) (x 0) n q tn tu (xs (i + 1)) (xs (i + 2)) hI.hn hI.hnb hI.hq hI.hqc hI.ht hI.htb hI.hts1 hI.hu hI.hub hI.hus1) (cwV 2 hts gL_law_X6_car rfl rfl rfl (by decide +kernel) ⟨Nat.le_of_ble_eq_true rfl, Nat.le_of_ble_eq_true rfl⟩) hK hPX rfl rfl rfl rfl hl.1 (Nat.le_of_ble_eq_true rfl) dL_law_641 ⟨hcl, hsl⟩ (fun r1 h1 => ?_)
  refine lv_aload_n hx hb dL_law_644 rfl (lv_at hl 2 rfl) ?_
  refine ls_arg hx hb hl2 hX hbl hbA hS 1 (by decide) hi hLx dL_law_645 dL_law_646 dL_law_647 dL_law_648 dL_law_649 ?_
  refine ls_arg hx hb hl2 hX hbl hbA hS 2 (by decide) hi hLx dL_law_650 dL_law_651 dL_law_652 dL_law_653 dL_law_654 ?_
  have hPX : va_P D vwCl ([mO ma (fiF np L ex) wd, (ma 1, iE cI 382 (enc g lf))]) H := bl_sub hP [6, 7] (by decide)
  refine lr_i (As := [.int (xs (i + 1)), .int (xs (i + 2))]) (rest := [.int r1]) (tys := TYS cI cC cB cS) (ci := 7) ⟨hx, hb, hml, hown, hts⟩ (c_X7_car l D cI cC cB cS ma (fiF np L ex) wd g lf n q tn tu T (xs (i + 1)) (xs (i + 2)) hI.hn hI.hnb hI.hqc hI.ht hI.htb hI.htu hI.hu hI.hub hI.huu hI.hu0 hI.hits hI.hen hI.hT0 hI.hT0b) (cwV 2 hts gL_law_X7_car rfl rfl rfl (by decide +kernel) ⟨Nat.le_of_ble_eq_true rfl, Nat.le_of_ble_eq_true rfl⟩) hK hPX rfl rfl rfl rfl hl.1 (Nat.le_of_ble_eq_true rfl) dL_law_655 ⟨hcl, hsl⟩ (fun r2 h2 => ?_)
  have hrr : r1 = r2 := aCar_one hq31 h1 h2
  subst hrr
  refine lv_icmp_eq (tgt := 910) hx hb dL_law_658 (by decide) (fun _ => ?_) (fun q => absurd rfl q)
  exact kk _ _ _ _ _ _ _ _ _ _ _ _ _ _ _ _ _ _ hL hP hD hS
set_option maxHeartbeats 4000000 in
set_option maxRecDepth 100000 in
theorem lc_step (hC : LC p s m c D cI cC cB cS tL tG aK aV bs Lx xs) (hl : lv_has ls 4 [(0, .ref bs), (1, .ref ob), (2, .ref (ma 0)), (3, .int (nI i))]) (hi : i + 5 ≤ Lx) (hcl : cells ≤ 600000) (hsl : slots ≤ 7302250) (hL : LSt g lf np hs lfs Pp L f) (hP : va_P D vwCl (wL (lb (kB cI cC cS ob a dd o x g np b hs dg L tk ts te f) (mB cI cB ma g lf np L f Pp E ex wd))) H) (hD : va_D (fun q => s.heap.size ≤ q) (wL (lb (kB cI cC cS ob a dd o x g np b hs dg L tk ts te f) (mB cI cB ma g lf np L f Pp E ex wd)))) (hS : va_S (fun q => s.heap.size ≤ q) s.heap H locs) (kk : KK p l e s m below meth c bs cells slots Q D cI cC cB cS ob a dd o x ma 910 ls) : W p l e room_1 s m #[Value.ref bs] below meth c H locs cells slots Q (F0 m 663 ls []) := by
  obtain ⟨hx, hb, hml, hown, hts, hX, hbl, hK, hZ, hLx⟩ := hC
  have hl2 : lv_has ls 4 [(0, .ref bs), (3, .int (nI i)), (1, .ref ob)] := lv_sub hl [0, 3, 1] rfl
  have hA : ∀ q : Nat, s.heap.size ≤ q → (fun q : Nat => s.heap.size ≤ q) q := fun _ h => h
  have hbA : ¬ (fun q : Nat => s.heap.size ≤ q) bs := Nat.not_le.mpr hbl
  obtain ⟨⟨n, q, tn, tu, T, hI⟩, hnp, hh, hPR, hLb, hch⟩ := id hL
  have hn31 : n < 2 ^ 31 := by have := hI.hnb; omega
  have hq31 : q < 2 ^ 31 := by have := hI.hqc; omega
  refine lv_aload_n hx hb dL_law_663 rfl (lv_at hl 1 rfl) ?_
  refine ls_arg hx hb hl2 hX hbl hbA hS 1 (by decide) hi hLx dL_law_664 dL_law_665 dL_law_666 dL_law_667 dL_law_668 ?_
  refine ls_arg hx hb hl2 hX hbl hbA hS 2 (by decide) hi hLx dL_law_669 dL_law_670 dL_law_671 dL_law_672 dL_law_673 ?_
  refine ls_arg hx hb hl2 hX hbl hbA hS 3 (by decide) hi hLx dL_law_674 dL_law_675 dL_law_676 dL_law_677 dL_law_678 ?_
  have hPX : va_P D vwCl ([(ob, oE 6 [.ref (a 0), .ref (dd 0), .ref (o 0), .ref (x 0)])] ++ wS cI a g) H := bl_sub hP [0, 2] (by decide)
  refine lr_i (As := [.int (xs (i + 1)), .int (xs (i + 2)), .int (xs (i + 3))]) (rest := []) (tys := TYS cI cC cB cS) (ci := 6) ⟨hx, hb, hml, hown, hts⟩ (c_X6_step l D cI cC cB cS a g ob (dd 0) (o 0) (x 0) tn tu (xs (i + 1)) (xs (i + 2)) (xs (i + 3)) hI.ht hI.htb hI.hts1 hI.hu hI.hub hI.hus1) (cwV 3 hts gL_law_X6_step rfl rfl rfl (by decide +kernel) ⟨Nat.le_of_ble_eq_true rfl, Nat.le_of_ble_eq_true rfl⟩) hK hPX rfl rfl rfl rfl hl.1 (Nat.le_of_ble_eq_true rfl) dL_law_679 ⟨hcl, hsl⟩ (fun r1 h1 => ?_)
  refine lv_aload_n hx hb dL_law_682 rfl (lv_at hl 2 rfl) ?_
  refine ls_arg hx hb hl2 hX hbl hbA hS 1 (by decide) hi hLx dL_law_683 dL_law_684 dL_law_685 dL_law_686 dL_law_687 ?_
  refine ls_arg hx hb hl2 hX hbl hbA hS 2 (by decide) hi hLx dL_law_688 dL_law_689 dL_law_690 dL_law_691 dL_law_692 ?_
  refine ls_arg hx hb hl2 hX hbl hbA hS 3 (by decide) hi hLx dL_law_693 dL_law_694 dL_law_695 dL_law_696 dL_law_697 ?_
  have hPX : va_P D vwCl ([mO ma (fiF np L ex) wd, (ma 1, iE cI 382 (enc g lf))]) H := bl_sub hP [6, 7] (by decide)
  refine lr_i (As := [.int (xs (i + 1)), .int (xs (i + 2)), .int (xs (i + 3))]) (rest := [.int r1]) (tys := TYS cI cC cB cS) (ci := 7) ⟨hx, hb, hml, hown, hts⟩ (c_X7_step l D cI cC cB cS ma (fiF np L ex) wd g lf tn tu (xs (i + 1)) (xs (i + 2)) (xs (i + 3)) hI.ht hI.htb hI.hu hI.hub) (cwV 3 hts gL_law_X7_step rfl rfl rfl (by decide +kernel) ⟨Nat.le_of_ble_eq_true rfl, Nat.le_of_ble_eq_true rfl⟩) hK hPX rfl rfl rfl rfl hl.1 (Nat.le_of_ble_eq_true rfl) dL_law_698 ⟨hcl, hsl⟩ (fun r2 h2 => ?_)
  have hrr : r1 = r2 := aStep_one (by have := hI.htb; omega) (by have := hI.hub; omega) h1 h2
  subst hrr
  refine lv_icmp_eq (tgt := 910) hx hb dL_law_701 (by decide) (fun _ => ?_) (fun q => absurd rfl q)
  exact kk _ _ _ _ _ _ _ _ _ _ _ _ _ _ _ _ _ _ hL hP hD hS
set_option maxHeartbeats 4000000 in
set_option maxRecDepth 100000 in
theorem lc_account (hC : LC p s m c D cI cC cB cS tL tG aK aV bs Lx xs) (hl : lv_has ls 4 [(0, .ref bs), (1, .ref ob), (2, .ref (ma 0)), (3, .int (nI i))]) (hi : i + 5 ≤ Lx) (hcl : cells ≤ 600000) (hsl : slots ≤ 7302250) (hL : LSt g lf np hs lfs Pp L f) (hP : va_P D vwCl (wL (lb (kB cI cC cS ob a dd o x g np b hs dg L tk ts te f) (mB cI cB ma g lf np L f Pp E ex wd))) H) (hD : va_D (fun q => s.heap.size ≤ q) (wL (lb (kB cI cC cS ob a dd o x g np b hs dg L tk ts te f) (mB cI cB ma g lf np L f Pp E ex wd)))) (hS : va_S (fun q => s.heap.size ≤ q) s.heap H locs) (kk : KK p l e s m below meth c bs cells slots Q D cI cC cB cS ob a dd o x ma 910 ls) : W p l e room_1 s m #[Value.ref bs] below meth c H locs cells slots Q (F0 m 706 ls []) := by
  obtain ⟨hx, hb, hml, hown, hts, hX, hbl, hK, hZ, hLx⟩ := hC
  have hl2 : lv_has ls 4 [(0, .ref bs), (3, .int (nI i)), (1, .ref ob)] := lv_sub hl [0, 3, 1] rfl
  have hA : ∀ q : Nat, s.heap.size ≤ q → (fun q : Nat => s.heap.size ≤ q) q := fun _ h => h
  have hbA : ¬ (fun q : Nat => s.heap.size ≤ q) bs := Nat.not_le.mpr hbl
  obtain ⟨⟨n, q, tn, tu, T, hI⟩, hnp, hh, hPR, hLb, hch⟩ := id hL
  have hn31 : n < 2 ^ 31 := by have := hI.hnb; omega
  have hq31 : q < 2 ^ 31 := by have := hI.hqc; omega
  refine lv_aload_n hx hb dL_law_706 rfl (lv_at hl 1 rfl) ?_
  refine ls_arg hx hb hl2 hX hbl hbA hS 1 (by decide) hi hLx dL_law_707 dL_law_708 dL_law_709 dL_law_710 dL_law_711 ?_
  have hPX : va_P D vwCl ([(ob, oE 6 [.ref (a 0), .ref (dd 0), .ref (o 0), .ref (x 0)])] ++ wS cI a g) H := bl_sub hP [0, 2] (by decide)
  refine lr_i (As := [.int (xs (i + 1))]) (rest := []) (tys := TYS cI cC cB cS) (ci := 6) ⟨hx, hb, hml, hown, hts⟩ (c_X6_account l D cI cC cB cS a g ob (dd 0) (o 0) (x 0) (xs (i + 1))) (cwV 1 hts gL_law_X6_account rfl rfl rfl (by decide +kernel) ⟨Nat.le_of_ble_eq_true rfl, Nat.le_of_ble_eq_true rfl⟩) hK hPX rfl rfl rfl rfl hl.1 (Nat.le_of_ble_eq_true rfl) dL_law_712 ⟨hcl, hsl⟩ (fun r1 h1 => ?_)
  refine lv_aload_n hx hb dL_law_715 rfl (lv_at hl 2 rfl) ?_
  refine ls_arg hx hb hl2 hX hbl hbA hS 1 (by decide) hi hLx dL_law_716 dL_law_717 dL_law_718 dL_law_719 dL_law_720 ?_
  have hPX : va_P D vwCl ([mO ma (fiF np L ex) wd, (ma 1, iE cI 382 (enc g lf))]) H := bl_sub hP [6, 7] (by decide)
  refine lr_i (As := [.int (xs (i + 1))]) (rest := [.int r1]) (tys := TYS cI cC cB cS) (ci := 7) ⟨hx, hb, hml, hown, hts⟩ (c_X7_account l D cI cC cB cS ma (fiF np L ex) wd g lf (xs (i + 1))) (cwV 1 hts gL_law_X7_account rfl rfl rfl (by decide +kernel) ⟨Nat.le_of_ble_eq_true rfl, Nat.le_of_ble_eq_true rfl⟩) hK hPX rfl rfl rfl rfl hl.1 (Nat.le_of_ble_eq_true rfl) dL_law_721 ⟨hcl, hsl⟩ (fun r2 h2 => ?_)
  have hrr : r1 = r2 := aAcc_one h1 h2
  subst hrr
  refine lv_icmp_eq (tgt := 910) hx hb dL_law_724 (by decide) (fun _ => ?_) (fun q => absurd rfl q)
  exact kk _ _ _ _ _ _ _ _ _ _ _ _ _ _ _ _ _ _ hL hP hD hS
set_option maxHeartbeats 4000000 in
set_option maxRecDepth 100000 in
theorem lc_nearest (hC : LC p s m c D cI cC cB cS tL tG aK aV bs Lx xs) (hl : lv_has ls 4 [(0, .ref bs), (1, .ref ob), (2, .ref (ma 0)), (3, .int (nI i))]) (hi : i + 5 ≤ Lx) (hcl : cells ≤ 600000) (hsl : slots ≤ 7302250) (hL : LSt g lf np hs lfs Pp L f) (hP : va_P D vwCl (wL (lb (kB cI cC cS ob a dd o x g np b hs dg L tk ts te f) (mB cI cB ma g lf np L f Pp E ex wd))) H) (hD : va_D (fun q => s.heap.size ≤ q) (wL (lb (kB cI cC cS ob a dd o x g np b hs dg L tk ts te f) (mB cI cB ma g lf np L f Pp E ex wd)))) (hS : va_S (fun q => s.heap.size ≤ q) s.heap H locs) (kk : KK p l e s m below meth c bs cells slots Q D cI cC cB cS ob a dd o x ma 910 ls) : W p l e room_1 s m #[Value.ref bs] below meth c H locs cells slots Q (F0 m 729 ls []) := by
  obtain ⟨hx, hb, hml, hown, hts, hX, hbl, hK, hZ, hLx⟩ := hC
  have hl2 : lv_has ls 4 [(0, .ref bs), (3, .int (nI i)), (1, .ref ob)] := lv_sub hl [0, 3, 1] rfl
  have hA : ∀ q : Nat, s.heap.size ≤ q → (fun q : Nat => s.heap.size ≤ q) q := fun _ h => h
  have hbA : ¬ (fun q : Nat => s.heap.size ≤ q) bs := Nat.not_le.mpr hbl
  obtain ⟨⟨n, q, tn, tu, T, hI⟩, hnp, hh, hPR, hLb, hch⟩ := id hL
  have hn31 : n < 2 ^ 31 := by have := hI.hnb; omega
  have hq31 : q < 2 ^ 31 := by have := hI.hqc; omega
  refine lv_aload_n hx hb dL_law_729 rfl (lv_at hl 1 rfl) ?_
  refine ls_arg hx hb hl2 hX hbl hbA hS 1 (by decide) hi hLx dL_law_730 dL_law_731 dL_law_732 dL_law_733 dL_law_734 ?_
  have hPX : va_P D vwCl ([(ob, oE 6 [.ref (a 0), .ref (dd 0), .ref (o 0), .ref (x 0)])] ++ wS cI a g) H := bl_sub hP [0, 2] (by decide)
  refine lr_i (As := [.int (xs (i + 1))]) (rest := []) (tys := TYS cI cC cB cS) (ci := 6) ⟨hx, hb, hml, hown, hts⟩ (c_X6_nearest l D cI cC cB cS a g ob (dd 0) (o 0) (x 0) n q (xs (i + 1)) hI.hn hI.hnb hI.hq hI.hqc) (cwV 1 hts gL_law_X6_nearest rfl rfl rfl (by decide +kernel) ⟨Nat.le_of_ble_eq_true rfl, Nat.le_of_ble_eq_true rfl⟩) hK hPX rfl rfl rfl rfl hl.1 (Nat.le_of_ble_eq_true rfl) dL_law_735 ⟨hcl, hsl⟩ (fun r1 h1 => ?_)
  refine lv_aload_n hx hb dL_law_738 rfl (lv_at hl 2 rfl) ?_
  refine ls_arg hx hb hl2 hX hbl hbA hS 1 (by decide) hi hLx dL_law_739 dL_law_740 dL_law_741 dL_law_742 dL_law_743 ?_
  have hPX : va_P D vwCl ([mO ma (fiF np L ex) wd, (ma 1, iE cI 382 (enc g lf))]) H := bl_sub hP [6, 7] (by decide)
  refine lr_i (As := [.int (xs (i + 1))]) (rest := [.int r1]) (tys := TYS cI cC cB cS) (ci := 7) ⟨hx, hb, hml, hown, hts⟩ (c_X7_nearest l D cI cC cB cS ma (fiF np L ex) wd g lf n q (xs (i + 1)) hI.hn hI.hnb hI.hq hI.hqc hI.hst hI.htm) (cwV 1 hts gL_law_X7_nearest rfl rfl rfl (by decide +kernel) ⟨Nat.le_of_ble_eq_true rfl, Nat.le_of_ble_eq_true rfl⟩) hK hPX rfl rfl rfl rfl hl.1 (Nat.le_of_ble_eq_true rfl) dL_law_744 ⟨hcl, hsl⟩ (fun r2 h2 => ?_)
  have hrr : r1 = r2 := aNearest_one h1 h2
  subst hrr
  refine lv_icmp_eq (tgt := 910) hx hb dL_law_747 (by decide) (fun _ => ?_) (fun q => absurd rfl q)
  exact kk _ _ _ _ _ _ _ _ _ _ _ _ _ _ _ _ _ _ hL hP hD hS
end LCASES
