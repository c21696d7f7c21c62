/-! ===== the law, case by case (laid by wip/whole/gen/law.py) ===== -/
section LCASES
variable {p : Program} {l : Launch} {e : Env} {s : State} {m : MethodId} {below : List Frame} {meth : Method} {c : Code} {H : Heap} {locs : List Loc} {cells slots : Nat} {Q : State → Prop} {ls : Array Slot} {D : va_G} {cI cC cB cS : ClassId} {tL tG : Nat} {aK aV : Nat → Nat} {bs Lx i : Nat} {xs : Nat → Int32} {ob : Nat} {a dd o x ma : Nat → Nat}
variable {g : Nat → Nat → Int32} {lf : Int32} {np : Nat} {b : Nat → Nat → Nat} {hs : Nat → Nat → Nat → Int32} {lfs Pp : Nat → Int32} {dg : Nat → Nat → Int32} {L tk ts te : Nat} {f E ex : Nat → Int32} {wd : Int64}
set_option maxHeartbeats 4000000 in
set_option maxRecDepth 100000 in
theorem lc_cancel (hC : LC p s m c D cI cC cB cS tL tG aK aV bs Lx xs) (hl : lv_has ls 4 [(0, .ref bs), (1, .ref ob), (2, .ref (ma 0)), (3, .int (nI i))]) (hi : i + 5 ≤ Lx) (hcl : cells ≤ 600000) (hsl : slots ≤ 7302250) (hL : LSt g lf np hs lfs Pp L f) (hP : va_P D vwCl (wL (lb (kB cI cC cS ob a dd o x g np b hs dg L tk ts te f) (mB cI cB ma g lf np L f Pp E ex wd))) H) (hD : va_D (fun q => s.heap.size ≤ q) (wL (lb (kB cI cC cS ob a dd o x g np b hs dg L tk ts te f) (mB cI cB ma g lf np L f Pp E ex wd)))) (hS : va_S (fun q => s.heap.size ≤ q) s.heap H locs) (kk : KK p l e s m below meth c bs cells slots Q D cI cC cB cS ob a dd o x ma 910 ls) : W p l e room_1 s m #[Value.ref bs] below meth c H locs cells slots Q (F0 m 416 ls []) := by
  obtain ⟨hx, hb, hml, hown, hts, hX, hbl, hK, hZ, hLx⟩ := hC
  have hl2 : lv_has ls 4 [(0, .ref bs), (3, .int (nI i)), (1, .ref ob)] := lv_sub hl [0, 3, 1] rfl
  have hA : ∀ q : Nat, s.heap.size ≤ q → (fun q : Nat => s.heap.size ≤ q) q := fun _ h => h
  have hbA : ¬ (fun q : Nat => s.heap.size ≤ q) bs := Nat.not_le.mpr hbl
  obtain ⟨⟨n, q, tn, tu, T, hI⟩, hnp, hh, hPR, hLb, hch⟩ := id hL
  have hn31 : n < 2 ^ 31 := by have := hI.hnb; omega
  have hq31 : q < 2 ^ 31 := by have := hI.hqc; omega
  refine lv_aload_n hx hb dL_law_416 rfl (lv_at hl 1 rfl) ?_
  refine ls_arg hx hb hl2 hX hbl hbA hS 1 (by decide) hi hLx dL_law_417 dL_law_418 dL_law_419 dL_law_420 dL_law_421 ?_
  refine lw_wi (As := [.int (xs (i + 1))]) (rest := []) (tys := TYS cI cC cB cS) (ci := 6) (fun u => lb (kB cI cC cS ob a dd o x u.1 u.2.1 u.2.2.1 u.2.2.2 dg L tk ts te f) (mB cI cB ma g lf np L f Pp E ex wd)) ⟨hx, hb, hml, hown, hts⟩ (c_X6_cancel l D cI cC cB cS _ a g ob (dd 0) (x 0) o b hs np q (xs (i + 1)) hnp hI.hq hI.hqc) (cwV 1 hts gL_law_X6_cancel rfl rfl rfl (by decide +kernel) ⟨Nat.le_of_ble_eq_true rfl, Nat.le_of_ble_eq_true rfl⟩) hK hP hD hS hA [0, 1, 2, 5] [3, 4, 6, 7, 8, 9, 10] (by decide) (ap4 _ _ _ _) (fun u => ap4 _ _ _ _) (fun u => rfl) rfl rfl rfl rfl hl.1 (Nat.le_of_ble_eq_true rfl) dL_law_422 ⟨hcl, hsl⟩ (fun r1 u1 H locs h1 hP hD hS => ?_)
  obtain ⟨g1, np1, b1, hs1⟩ := u1
  have hP : va_P D vwCl (wL (lb (kB cI cC cS ob a dd o x g1 np1 b1 hs1 dg L tk ts te f) (mB cI cB ma g lf np L f Pp E ex wd))) H := hP
  have hD : va_D (fun q => s.heap.size ≤ q) (wL (lb (kB cI cC cS ob a dd o x g1 np1 b1 hs1 dg L tk ts te f) (mB cI cB ma g lf np L f Pp E ex wd))) := hD
  obtain ⟨o1, h1, s1⟩ := h1
  refine lv_aload_n hx hb dL_law_425 rfl (lv_at hl 2 rfl) ?_
  refine ls_arg hx hb hl2 hX hbl hbA hS 1 (by decide) hi hLx dL_law_426 dL_law_427 dL_law_428 dL_law_429 dL_law_430 ?_
  refine lw_wi (As := [.int (xs (i + 1))]) (rest := [.int r1]) (tys := TYS cI cC cB cS) (ci := 7) (fun u => lb (kB cI cC cS ob a dd o x g1 np1 b1 hs1 dg L tk ts te f) (mB cI cB ma u.1 u.2.1 u.2.2.1 L f u.2.2.2.2.2 E ex wd)) ⟨hx, hb, hml, hown, hts⟩ (c_X7_cancel l D cI cC cB cS _ ma (fiF np L ex) wd g lf np Pp hs lfs q (xs (i + 1)) hnp hPR hI.hq hI.hqc) (cwV 1 hts gL_law_X7_cancel rfl rfl rfl (by decide +kernel) ⟨Nat.le_of_ble_eq_true rfl, Nat.le_of_ble_eq_true rfl⟩) hK hP hD hS hA [6, 7, 8] [0, 1, 2, 3, 4, 5, 9, 10] (by decide) rfl (fun u => rfl) (fun u => rfl) rfl rfl rfl rfl hl.1 (Nat.le_of_ble_eq_true rfl) dL_law_431 ⟨hcl, hsl⟩ (fun r2 u2 H locs h2 hP hD hS => ?_)
  obtain ⟨g2, lf2, np2, hs2, lfs2, Pp2⟩ := u2
  have hP : va_P D vwCl (wL (lb (kB cI cC cS ob a dd o x g1 np1 b1 hs1 dg L tk ts te f) (mB cI cB ma g2 lf2 np2 L f Pp2 E ex wd))) H := hP
  have hD : va_D (fun q => s.heap.size ≤ q) (wL (lb (kB cI cC cS ob a dd o x g1 np1 b1 hs1 dg L tk ts te f) (mB cI cB ma g2 lf2 np2 L f Pp2 E ex wd))) := hD
  obtain ⟨o2, h2, s2⟩ := h2
  obtain ⟨hrr, eo⟩ := Ocancel_one hq31 h1 h2
  subst eo
  obtain ⟨e1, e2, hL2⟩ := sv_both hL (hI.kcancel h1) s1 s2
  subst hrr
  have e1 : g2 = g1 := e1
  have e2 : np2 = np1 := e2
  subst e1 e2
  refine lv_icmp_eq (tgt := 910) hx hb dL_law_434 (by decide) (fun _ => ?_) (fun q => absurd rfl q)
  exact kk _ _ _ _ _ _ _ _ _ _ _ _ _ _ _ _ _ _ hL2 hP hD hS
set_option maxHeartbeats 4000000 in
set_option maxRecDepth 100000 in
theorem lc_enter (hC : LC p s m c D cI cC cB cS tL tG aK aV bs Lx xs) (hl : lv_has ls 4 [(0, .ref bs), (1, .ref ob), (2, .ref (ma 0)), (3, .int (nI i))]) (hi : i + 5 ≤ Lx) (hcl : cells ≤ 600000) (hsl : slots ≤ 7302250) (hL : LSt g lf np hs lfs Pp L f) (hP : va_P D vwCl (wL (lb (kB cI cC cS ob a dd o x g np b hs dg L tk ts te f) (mB cI cB ma g lf np L f Pp E ex wd))) H) (hD : va_D (fun q => s.heap.size ≤ q) (wL (lb (kB cI cC cS ob a dd o x g np b hs dg L tk ts te f) (mB cI cB ma g lf np L f Pp E ex wd)))) (hS : va_S (fun q => s.heap.size ≤ q) s.heap H locs) (kk : KK p l e s m below meth c bs cells slots Q D cI cC cB cS ob a dd o x ma 910 ls) : W p l e room_1 s m #[Value.ref bs] below meth c H locs cells slots Q (F0 m 439 ls []) := by
  obtain ⟨hx, hb, hml, hown, hts, hX, hbl, hK, hZ, hLx⟩ := hC
  have hl2 : lv_has ls 4 [(0, .ref bs), (3, .int (nI i)), (1, .ref ob)] := lv_sub hl [0, 3, 1] rfl
  have hA : ∀ q : Nat, s.heap.size ≤ q → (fun q : Nat => s.heap.size ≤ q) q := fun _ h => h
  have hbA : ¬ (fun q : Nat => s.heap.size ≤ q) bs := Nat.not_le.mpr hbl
  obtain ⟨⟨n, q, tn, tu, T, hI⟩, hnp, hh, hPR, hLb, hch⟩ := id hL
  have hn31 : n < 2 ^ 31 := by have := hI.hnb; omega
  have hq31 : q < 2 ^ 31 := by have := hI.hqc; omega
  refine lv_aload_n hx hb dL_law_439 rfl (lv_at hl 1 rfl) ?_
  refine ls_arg hx hb hl2 hX hbl hbA hS 1 (by decide) hi hLx dL_law_440 dL_law_441 dL_law_442 dL_law_443 dL_law_444 ?_
  refine ls_arg hx hb hl2 hX hbl hbA hS 2 (by decide) hi hLx dL_law_445 dL_law_446 dL_law_447 dL_law_448 dL_law_449 ?_
  refine lw_wi (As := [.int (xs (i + 1)), .int (xs (i + 2))]) (rest := []) (tys := TYS cI cC cB cS) (ci := 6) (fun u => lb (kB cI cC cS ob a dd o x u.1 u.2.1 u.2.2.1 u.2.2.2 dg L tk ts te f) (mB cI cB ma g lf np L f Pp E ex wd)) ⟨hx, hb, hml, hown, hts⟩ (c_X6_enter l D cI cC cB cS _ a g ob (dd 0) (x 0) o b hs np n q (xs (i + 1)) (xs (i + 2)) hnp hI.hn hI.hnb hI.hq hI.hqc) (cwV 2 hts gL_law_X6_enter rfl rfl rfl (by decide +kernel) ⟨Nat.le_of_ble_eq_true rfl, Nat.le_of_ble_eq_true rfl⟩) hK hP hD hS hA [0, 1, 2, 5] [3, 4, 6, 7, 8, 9, 10] (by decide) (ap4 _ _ _ _) (fun u => ap4 _ _ _ _) (fun u => rfl) rfl rfl rfl rfl hl.1 (Nat.le_of_ble_eq_true rfl) dL_law_450 ⟨hcl, hsl⟩ (fun r1 u1 H locs h1 hP hD hS => ?_)
  obtain ⟨g1, np1, b1, hs1⟩ := u1
  have hP : va_P D vwCl (wL (lb (kB cI cC cS ob a dd o x g1 np1 b1 hs1 dg L tk ts te f) (mB cI cB ma g lf np L f Pp E ex wd))) H := hP
  have hD : va_D (fun q => s.heap.size ≤ q) (wL (lb (kB cI cC cS ob a dd o x g1 np1 b1 hs1 dg L tk ts te f) (mB cI cB ma g lf np L f Pp E ex wd))) := hD
  obtain ⟨o1, h1, s1⟩ := h1
  refine lv_aload_n hx hb dL_law_453 rfl (lv_at hl 2 rfl) ?_
  refine ls_arg hx hb hl2 hX hbl hbA hS 1 (by decide) hi hLx dL_law_454 dL_law_455 dL_law_456 dL_law_457 dL_law_458 ?_
  refine ls_arg hx hb hl2 hX hbl hbA hS 2 (by decide) hi hLx dL_law_459 dL_law_460 dL_law_461 dL_law_462 dL_law_463 ?_
  refine lw_wi (As := [.int (xs (i + 1)), .int (xs (i + 2))]) (rest := [.int r1]) (tys := TYS cI cC cB cS) (ci := 7) (fun u => lb (kB cI cC cS ob a dd o x g1 np1 b1 hs1 dg L tk ts te f) (mB cI cB ma u.1 u.2.1 u.2.2.1 L f u.2.2.2.2.2 E ex wd)) ⟨hx, hb, hml, hown, hts⟩ (c_X7_enter l D cI cC cB cS _ ma (fiF np L ex) wd g lf np Pp hs lfs n q (xs (i + 1)) (xs (i + 2)) hnp hPR hI.hn hI.hnb hI.hq hI.hqc hI.hst hI.htm hI.hwh) (cwV 2 hts gL_law_X7_enter rfl rfl rfl (by decide +kernel) ⟨Nat.le_of_ble_eq_true rfl, Nat.le_of_ble_eq_true rfl⟩) hK hP hD hS hA [6, 7, 8] [0, 1, 2, 3, 4, 5, 9, 10] (by decide) rfl (fun u => rfl) (fun u => rfl) rfl rfl rfl rfl hl.1 (Nat.le_of_ble_eq_true rfl) dL_law_464 ⟨hcl, hsl⟩ (fun r2 u2 H locs h2 hP hD hS => ?_)
  obtain ⟨g2, lf2, np2, hs2, lfs2, Pp2⟩ := u2
  have hP : va_P D vwCl (wL (lb (kB cI cC cS ob a dd o x g1 np1 b1 hs1 dg L tk ts te f) (mB cI cB ma g2 lf2 np2 L f Pp2 E ex wd))) H := hP
  have hD : va_D (fun q => s.heap.size ≤ q) (wL (lb (kB cI cC cS ob a dd o x g1 np1 b1 hs1 dg L tk ts te f) (mB cI cB ma g2 lf2 np2 L f Pp2 E ex wd))) := hD
  obtain ⟨o2, h2, s2⟩ := h2
  obtain ⟨hrr, eo⟩ := Oenter_one hn31 hq31 h1 h2
  subst eo
  obtain ⟨e1, e2, hL2⟩ := sv_both hL (hI.kenter h1) s1 s2
  subst hrr
  have e1 : g2 = g1 := e1
  have e2 : np2 = np1 := e2
  subst e1 e2
  refine lv_icmp_eq (tgt := 910) hx hb dL_law_467 (by decide) (fun _ => ?_) (fun q => absurd rfl q)
  exact kk _ _ _ _ _ _ _ _ _ _ _ _ _ _ _ _ _ _ hL2 hP hD hS
set_option maxHeartbeats 4000000 in
set_option maxRecDepth 100000 in
theorem lc_leave (hC : LC p s m c D cI cC cB cS tL tG aK aV bs Lx xs) (hl : lv_has ls 4 [(0, .ref bs), (1, .ref ob), (2, .ref (ma 0)), (3, .int (nI i))]) (hi : i + 5 ≤ Lx) (hcl : cells ≤ 600000) (hsl : slots ≤ 7302250) (hL : LSt g lf np hs lfs Pp L f) (hP : va_P D vwCl (wL (lb (kB cI cC cS ob a dd o x g np b hs dg L tk ts te f) (mB cI cB ma g lf np L f Pp E ex wd))) H) (hD : va_D (fun q => s.heap.size ≤ q) (wL (lb (kB cI cC cS ob a dd o x g np b hs dg L tk ts te f) (mB cI cB ma g lf np L f Pp E ex wd)))) (hS : va_S (fun q => s.heap.size ≤ q) s.heap H locs) (kk : KK p l e s m below meth c bs cells slots Q D cI cC cB cS ob a dd o x ma 910 ls) : W p l e room_1 s m #[Value.ref bs] below meth c H locs cells slots Q (F0 m 472 ls []) := by
  obtain ⟨hx, hb, hml, hown, hts, hX, hbl, hK, hZ, hLx⟩ := hC
  have hl2 : lv_has ls 4 [(0, .ref bs), (3, .int (nI i)), (1, .ref ob)] := lv_sub hl [0, 3, 1] rfl
  have hA : ∀ q : Nat, s.heap.size ≤ q → (fun q : Nat => s.heap.size ≤ q) q := fun _ h => h
  have hbA : ¬ (fun q : Nat => s.heap.size ≤ q) bs := Nat.not_le.mpr hbl
  obtain ⟨⟨n, q, tn, tu, T, hI⟩, hnp, hh, hPR, hLb, hch⟩ := id hL
  have hn31 : n < 2 ^ 31 := by have := hI.hnb; omega
  have hq31 : q < 2 ^ 31 := by have := hI.hqc; omega
  refine lv_aload_n hx hb dL_law_472 rfl (lv_at hl 1 rfl) ?_
  refine ls_arg hx hb hl2 hX hbl hbA hS 1 (by decide) hi hLx dL_law_473 dL_law_474 dL_law_475 dL_law_476 dL_law_477 ?_
  refine lw_wi (As := [.int (xs (i + 1))]) (rest := []) (tys := TYS cI cC cB cS) (ci := 6) (fun u => lb (kB cI cC cS ob a dd o x u.1 u.2.1 u.2.2.1 u.2.2.2 dg L tk ts te f) (mB cI cB ma g lf np L f Pp E ex wd)) ⟨hx, hb, hml, hown, hts⟩ (c_X6_leave l D cI cC cB cS _ a g ob (dd 0) (x 0) o b hs np n q tn tu (xs (i + 1)) hnp hI.hn hI.hnb hI.hq hI.hqc hI.ht hI.htb hI.hts1 hI.hu hI.hub hI.hus1) (cwV 1 hts gL_law_X6_leave rfl rfl rfl (by decide +kernel) ⟨Nat.le_of_ble_eq_true rfl, Nat.le_of_ble_eq_true rfl⟩) hK hP hD hS hA [0, 1, 2, 5] [3, 4, 6, 7, 8, 9, 10] (by decide) (ap4 _ _ _ _) (fun u => ap4 _ _ _ _) (fun u => rfl) rfl rfl rfl rfl hl.1 (Nat.le_of_ble_eq_true rfl) dL_law_478 ⟨hcl, hsl⟩ (fun r1 u1 H locs h1 hP hD hS => ?_)
  obtain ⟨g1, np1, b1, hs1⟩ := u1
  have hP : va_P D vwCl (wL (lb (kB cI cC cS ob a dd o x g1 np1 b1 hs1 dg L tk ts te f) (mB cI cB ma g lf np L f Pp E ex wd))) H := hP
  have hD : va_D (fun q => s.heap.size ≤ q) (wL (lb (kB cI cC cS ob a dd o x g1 np1 b1 hs1 dg L tk ts te f) (mB cI cB ma g lf np L f Pp E ex wd))) := hD
  obtain ⟨o1, h1, s1⟩ := h1
  refine lv_aload_n hx hb dL_law_481 rfl (lv_at hl 2 rfl) ?_
  refine ls_arg hx hb hl2 hX hbl hbA hS 1 (by decide) hi hLx dL_law_482 dL_law_483 dL_law_484 dL_law_485 dL_law_486 ?_
  refine lw_wi (As := [.int (xs (i + 1))]) (rest := [.int r1]) (tys := TYS cI cC cB cS) (ci := 7) (fun u => lb (kB cI cC cS ob a dd o x g1 np1 b1 hs1 dg L tk ts te f) (mB cI cB ma u.1 u.2.1 u.2.2.1 L f u.2.2.2.2.2 E ex wd)) ⟨hx, hb, hml, hown, hts⟩ (c_X7_leave l D cI cC cB cS _ ma (fiF np L ex) wd g lf np Pp hs lfs n q tn tu T (xs (i + 1)) hnp hPR hI.hn hI.hnb hI.hqc hI.ht hI.htb hI.htu hI.hu hI.hub hI.huu hI.hu0 hI.hits hI.hen hI.hT0 hI.hT0b) (cwV 1 hts gL_law_X7_leave rfl rfl rfl (by decide +kernel) ⟨Nat.le_of_ble_eq_true rfl, Nat.le_of_ble_eq_true rfl⟩) hK hP hD hS hA [6, 7, 8] [0, 1, 2, 3, 4, 5, 9, 10] (by decide) rfl (fun u => rfl) (fun u => rfl) rfl rfl rfl rfl hl.1 (Nat.le_of_ble_eq_true rfl) dL_law_487 ⟨hcl, hsl⟩ (fun r2 u2 H locs h2 hP hD hS => ?_)
  obtain ⟨g2, lf2, np2, hs2, lfs2, Pp2⟩ := u2
  have hP : va_P D vwCl (wL (lb (kB cI cC cS ob a dd o x g1 np1 b1 hs1 dg L tk ts te f) (mB cI cB ma g2 lf2 np2 L f Pp2 E ex wd))) H := hP
  have hD : va_D (fun q => s.heap.size ≤ q) (wL (lb (kB cI cC cS ob a dd o x g1 np1 b1 hs1 dg L tk ts te f) (mB cI cB ma g2 lf2 np2 L f Pp2 E ex wd))) := hD
  obtain ⟨o2, h2, s2⟩ := h2
  obtain ⟨hrr, eo⟩ := Oleave_one hq31 h1 h2
  subst eo
  obtain ⟨e1, e2, hL2⟩ := sv_both hL (hI.kleave h1) s1 s2
  subst hrr
  have e1 : g2 = g1 := e1
  have e2 : np2 = np1 := e2
  subst e1 e2
  refine lv_icmp_eq (tgt := 910) hx hb dL_law_490 (by decide) (fun _ => ?_) (fun q => absurd rfl q)
  exact kk _ _ _ _ _ _ _ _ _ _ _ _ _ _ _ _ _ _ hL2 hP hD hS
set_option maxHeartbeats 4000000 in
set_option maxRecDepth 100000 in
theorem lc_leaveLost (hC : LC p s m c D cI cC cB cS tL tG aK aV bs Lx xs) (hl : lv_has ls 4 [(0, .ref bs), (1, .ref ob), (2, .ref (ma 0)), (3, .int (nI i))]) (hi : i + 5 ≤ Lx) (hcl : cells ≤ 600000) (hsl : slots ≤ 7302250) (hL : LSt g lf np hs lfs Pp L f) (hP : va_P D vwCl (wL (lb (kB cI cC cS ob a dd o x g np b hs dg L tk ts te f) (mB cI cB ma g lf np L f Pp E ex wd))) H) (hD : va_D (fun q => s.heap.size ≤ q) (wL (lb (kB cI cC cS ob a dd o x g np b hs dg L tk ts te f) (mB cI cB ma g lf np L f Pp E ex wd)))) (hS : va_S (fun q => s.heap.size ≤ q) s.heap H locs) (kk : KK p l e s m below meth c bs cells slots Q D cI cC cB cS ob a dd o x ma 910 ls) : W p l e room_1 s m #[Value.ref bs] below meth c H locs cells slots Q (F0 m 495 ls []) := by
  obtain ⟨hx, hb, hml, hown, hts, hX, hbl, hK, hZ, hLx⟩ := hC
  have hl2 : lv_has ls 4 [(0, .ref bs), (3, .int (nI i)), (1, .ref ob)] := lv_sub hl [0, 3, 1] rfl
  have hA : ∀ q : Nat, s.heap.size ≤ q → (fun q : Nat => s.heap.size ≤ q) q := fun _ h => h
  have hbA : ¬ (fun q : Nat => s.heap.size ≤ q) bs := Nat.not_le.mpr hbl
  obtain ⟨⟨n, q, tn, tu, T, hI⟩, hnp, hh, hPR, hLb, hch⟩ := id hL
  have hn31 : n < 2 ^ 31 := by have := hI.hnb; omega
  have hq31 : q < 2 ^ 31 := by have := hI.hqc; omega
  refine lv_aload_n hx hb dL_law_495 rfl (lv_at hl 1 rfl) ?_
  refine ls_arg hx hb hl2 hX hbl hbA hS 1 (by decide) hi hLx dL_law_496 dL_law_497 dL_law_498 dL_law_499 dL_law_500 ?_
  refine lw_wi (As := [.int (xs (i + 1))]) (rest := []) (tys := TYS cI cC cB cS) (ci := 6) (fun u => lb (kB cI cC cS ob a dd o x u.1 u.2.1 u.2.2.1 u.2.2.2 dg L tk ts te f) (mB cI cB ma g lf np L f Pp E ex wd)) ⟨hx, hb, hml, hown, hts⟩ (c_X6_leaveLost l D cI cC cB cS _ a g ob (dd 0) (x 0) o b hs np n q tn (xs (i + 1)) hnp hI.hn hI.hnb hI.hq hI.hqc hI.ht hI.htb hI.hts1) (cwV 1 hts gL_law_X6_leaveLost rfl rfl rfl (by decide +kernel) ⟨Nat.le_of_ble_eq_true rfl, Nat.le_of_ble_eq_true rfl⟩) hK hP hD hS hA [0, 1, 2, 5] [3, 4, 6, 7, 8, 9, 10] (by decide) (ap4 _ _ _ _) (fun u => ap4 _ _ _ _) (fun u => rfl) rfl rfl rfl rfl hl.1 (Nat.le_of_ble_eq_true rfl) dL_law_501 ⟨hcl, hsl⟩ (fun r1 u1 H locs h1 hP hD hS => ?_)
  obtain ⟨g1, np1, b1, hs1⟩ := u1
  have hP : va_P D vwCl (wL (lb (kB cI cC cS ob a dd o x g1 np1 b1 hs1 dg L tk ts te f) (mB cI cB ma g lf np L f Pp E ex wd))) H := hP
  have hD : va_D (fun q => s.heap.size ≤ q) (wL (lb (kB cI cC cS ob a dd o x g1 np1 b1 hs1 dg L tk ts te f) (mB cI cB ma g lf np L f Pp E ex wd))) := hD
  obtain ⟨o1, h1, s1⟩ := h1
  refine lv_aload_n hx hb dL_law_504 rfl (lv_at hl 2 rfl) ?_
  refine ls_arg hx hb hl2 hX hbl hbA hS 1 (by decide) hi hLx dL_law_505 dL_law_506 dL_law_507 dL_law_508 dL_law_509 ?_
  refine lw_wi (As := [.int (xs (i + 1))]) (rest := [.int r1]) (tys := TYS cI cC cB cS) (ci := 7) (fun u => lb (kB cI cC cS ob a dd o x g1 np1 b1 hs1 dg L tk ts te f) (mB cI cB ma u.1 u.2.1 u.2.2.1 L f u.2.2.2.2.2 E ex wd)) ⟨hx, hb, hml, hown, hts⟩ (c_X7_leaveLost l D cI cC cB cS _ ma (fiF np L ex) wd g lf np Pp hs lfs n q tn (xs (i + 1)) hnp hPR hI.hn hI.hnb hI.hqc hI.ht hI.htb hI.htu hI.hits) (cwV 1 hts gL_law_X7_leaveLost rfl rfl rfl (by decide +kernel) ⟨Nat.le_of_ble_eq_true rfl, Nat.le_of_ble_eq_true rfl⟩) hK hP hD hS hA [6, 7, 8] [0, 1, 2, 3, 4, 5, 9, 10] (by decide) rfl (fun u => rfl) (fun u => rfl) rfl rfl rfl rfl hl.1 (Nat.le_of_ble_eq_true rfl) dL_law_510 ⟨hcl, hsl⟩ (fun r2 u2 H locs h2 hP hD hS => ?_)
  obtain ⟨g2, lf2, np2, hs2, lfs2, Pp2⟩ := u2
  have hP : va_P D vwCl (wL (lb (kB cI cC cS ob a dd o x g1 np1 b1 hs1 dg L tk ts te f) (mB cI cB ma g2 lf2 np2 L f Pp2 E ex wd))) H := hP
  have hD : va_D (fun q => s.heap.size ≤ q) (wL (lb (kB cI cC cS ob a dd o x g1 np1 b1 hs1 dg L tk ts te f) (mB cI cB ma g2 lf2 np2 L f Pp2 E ex wd))) := hD
  obtain ⟨o2, h2, s2⟩ := h2
  obtain ⟨hrr, eo⟩ := Olost_one hq31 h1 h2
  subst eo
  obtain ⟨e1, e2, hL2⟩ := sv_both hL (hI.klost h1) s1 s2
  subst hrr
  have e1 : g2 = g1 := e1
  have e2 : np2 = np1 := e2
  subst e1 e2
  refine lv_icmp_eq (tgt := 910) hx hb dL_law_513 (by decide) (fun _ => ?_) (fun q => absurd rfl q)
  exact kk _ _ _ _ _ _ _ _ _ _ _ _ _ _ _ _ _ _ hL2 hP hD hS
set_option maxHeartbeats 4000000 in
set_option maxRecDepth 100000 in
theorem lc_pass (hC : LC p s m c D cI cC cB cS tL tG aK aV bs Lx xs) (hl : lv_has ls 4 [(0, .ref bs), (1, .ref ob), (2, .ref (ma 0)), (3, .int (nI i))]) (hi : i + 5 ≤ Lx) (hcl : cells ≤ 600000) (hsl : slots ≤ 7302250) (hL : LSt g lf np hs lfs Pp L f) (hP : va_P D vwCl (wL (lb (kB cI cC cS ob a dd o x g np b hs dg L tk ts te f) (mB cI cB ma g lf np L f Pp E ex wd))) H) (hD : va_D (fun q => s.heap.size ≤ q) (wL (lb (kB cI cC cS ob a dd o x g np b hs dg L tk ts te f) (mB cI cB ma g lf np L f Pp E ex wd)))) (hS : va_S (fun q => s.heap.size ≤ q) s.heap H locs) (kk : KK p l e s m below meth c bs cells slots Q D cI cC cB cS ob a dd o x ma 910 ls) : W p l e room_1 s m #[Value.ref bs] below meth c H locs cells slots Q (F0 m 518 ls []) := by
  obtain ⟨hx, hb, hml, hown, hts, hX, hbl, hK, hZ, hLx⟩ := hC
  have hl2 : lv_has ls 4 [(0, .ref bs), (3, .int (nI i)), (1, .ref ob)] := lv_sub hl [0, 3, 1] rfl
  have hA : ∀ q : Nat, s.heap.size ≤ q → (fun q : Nat => s.heap.size ≤ q) q := fun _ h => h
  have hbA : ¬ (fun q : Nat => s.heap.size ≤ q) bs := Nat.not_le.mpr hbl
  obtain ⟨⟨n, q, tn, tu, T, hI⟩, hnp, hh, hPR, hLb, hch⟩ := id hL
  have hn31 : n < 2 ^ 31 := by have := hI.hnb; omega
  have hq31 : q < 2 ^ 31 := by have := hI.hqc; omega
  refine lv_aload_n hx hb dL_law_518 rfl (lv_at hl 1 rfl) ?_
  refine ls_arg hx hb hl2 hX hbl hbA hS 1 (by decide) hi hLx dL_law_519 dL_law_520 dL_law_521 dL_law_522 dL_law_523 ?_
  refine lw_wi (As := [.int (xs (i + 1))]) (rest := []) (tys := TYS cI cC cB cS) (ci := 6) (fun u => lb (kB cI cC cS ob a dd o x u.1 u.2.1 u.2.2.1 u.2.2.2 dg L tk ts te f) (mB cI cB ma g lf np L f Pp E ex wd)) ⟨hx, hb, hml, hown, hts⟩ (c_X6_pass l D cI cC cB cS _ a g ob (dd 0) (x 0) o b hs np q (xs (i + 1)) hnp hI.hq hI.hqc) (cwV 1 hts gL_law_X6_pass rfl rfl rfl (by decide +kernel) ⟨Nat.le_of_ble_eq_true rfl, Nat.le_of_ble_eq_true rfl⟩) hK hP hD hS hA [0, 1, 2, 5] [3, 4, 6, 7, 8, 9, 10] (by decide) (ap4 _ _ _ _) (fun u => ap4 _ _ _ _) (fun u => rfl) rfl rfl rfl rfl hl.1 (Nat.le_of_ble_eq_true rfl) dL_law_524 ⟨hcl, hsl⟩ (fun r1 u1 H locs h1 hP hD hS => ?_)
  obtain ⟨g1, np1, b1, hs1⟩ := u1
  have hP : va_P D vwCl (wL (lb (kB cI cC cS ob a dd o x g1 np1 b1 hs1 dg L tk ts te f) (mB cI cB ma g lf np L f Pp E ex wd))) H := hP
  have hD : va_D (fun q => s.heap.size ≤ q) (wL (lb (kB cI cC cS ob a dd o x g1 np1 b1 hs1 dg L tk ts te f) (mB cI cB ma g lf np L f Pp E ex wd))) := hD
  obtain ⟨o1, h1, s1⟩ := h1
  refine lv_aload_n hx hb dL_law_527 rfl (lv_at hl 2 rfl) ?_
  refine ls_arg hx hb hl2 hX hbl hbA hS 1 (by decide) hi hLx dL_law_528 dL_law_529 dL_law_530 dL_law_531 dL_law_532 ?_
  refine lw_wi (As := [.int (xs (i + 1))]) (rest := [.int r1]) (tys := TYS cI cC cB cS) (ci := 7) (fun u => lb (kB cI cC cS ob a dd o x g1 np1 b1 hs1 dg L tk ts te f) (mB cI cB ma u.1 u.2.1 u.2.2.1 L f u.2.2.2.2.2 E ex wd)) ⟨hx, hb, hml, hown, hts⟩ (c_X7_pass l D cI cC cB cS _ ma (fiF np L ex) wd g lf np Pp hs lfs q (xs (i + 1)) hnp hPR hI.hq hI.hqc) (cwV 1 hts gL_law_X7_pass rfl rfl rfl (by decide +kernel) ⟨Nat.le_of_ble_eq_true rfl, Nat.le_of_ble_eq_true rfl⟩) hK hP hD hS hA [6, 7, 8] [0, 1, 2, 3, 4, 5, 9, 10] (by decide) rfl (fun u => rfl) (fun u => rfl) rfl rfl rfl rfl hl.1 (Nat.le_of_ble_eq_true rfl) dL_law_533 ⟨hcl, hsl⟩ (fun r2 u2 H locs h2 hP hD hS => ?_)
  obtain ⟨g2, lf2, np2, hs2, lfs2, Pp2⟩ := u2
  have hP : va_P D vwCl (wL (lb (kB cI cC cS ob a dd o x g1 np1 b1 hs1 dg L tk ts te f) (mB cI cB ma g2 lf2 np2 L f Pp2 E ex wd))) H := hP
  have hD : va_D (fun q => s.heap.size ≤ q) (wL (lb (kB cI cC cS ob a dd o x g1 np1 b1 hs1 dg L tk ts te f) (mB cI cB ma g2 lf2 np2 L f Pp2 E ex wd))) := hD
  obtain ⟨o2, h2, s2⟩ := h2
  obtain ⟨hrr, eo⟩ := Opass_one h1 h2
  subst eo
  obtain ⟨e1, e2, hL2⟩ := sv_both hL (hI.kpass h1) s1 s2
  subst hrr
  have e1 : g2 = g1 := e1
  have e2 : np2 = np1 := e2
  subst e1 e2
  refine lv_icmp_eq (tgt := 910) hx hb dL_law_536 (by decide) (fun _ => ?_) (fun q => absurd rfl q)
  exact kk _ _ _ _ _ _ _ _ _ _ _ _ _ _ _ _ _ _ hL2 hP hD hS
end LCASES
