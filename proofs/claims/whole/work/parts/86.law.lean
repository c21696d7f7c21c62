/-! ===== the law, case by case (laid by wip/whole/gen/law.py) ===== -/
section LCASES
variable {p : Program} {l : Launch} {e : Env} {s : State} {m : MethodId} {below : List Frame} {meth : Method} {c : Code} {H : Heap} {locs : List Loc} {cells slots : Nat} {Q : State → Prop} {ls : Array Slot} {D : va_G} {cI cC cB cS : ClassId} {tL tG : Nat} {aK aV : Nat → Nat} {bs Lx i : Nat} {xs : Nat → Int32} {ob : Nat} {a dd o x ma : Nat → Nat}
variable {g : Nat → Nat → Int32} {lf : Int32} {np : Nat} {b : Nat → Nat → Nat} {hs : Nat → Nat → Nat → Int32} {lfs Pp : Nat → Int32} {dg : Nat → Nat → Int32} {L tk ts te : Nat} {f E ex : Nat → Int32} {wd : Int64}
set_option maxHeartbeats 4000000 in
set_option maxRecDepth 100000 in
theorem lc_free (hC : LC p s m c D cI cC cB cS tL tG aK aV bs Lx xs) (hl : lv_has ls 4 [(0, .ref bs), (1, .ref ob), (2, .ref (ma 0)), (3, .int (nI i))]) (hi : i + 5 ≤ Lx) (hcl : cells ≤ 600000) (hsl : slots ≤ 7302250) (hL : LSt g lf np hs lfs Pp L f) (hP : va_P D vwCl (wL (lb (kB cI cC cS ob a dd o x g np b hs dg L tk ts te f) (mB cI cB ma g lf np L f Pp E ex wd))) H) (hD : va_D (fun q => s.heap.size ≤ q) (wL (lb (kB cI cC cS ob a dd o x g np b hs dg L tk ts te f) (mB cI cB ma g lf np L f Pp E ex wd)))) (hS : va_S (fun q => s.heap.size ≤ q) s.heap H locs) (kk : KK p l e s m below meth c bs cells slots Q D cI cC cB cS ob a dd o x ma 910 ls) : W p l e room_1 s m #[Value.ref bs] below meth c H locs cells slots Q (F0 m 752 ls []) := by
  obtain ⟨hx, hb, hml, hown, hts, hX, hbl, hK, hZ, hLx⟩ := hC
  have hl2 : lv_has ls 4 [(0, .ref bs), (3, .int (nI i)), (1, .ref ob)] := lv_sub hl [0, 3, 1] rfl
  have hA : ∀ q : Nat, s.heap.size ≤ q → (fun q : Nat => s.heap.size ≤ q) q := fun _ h => h
  have hbA : ¬ (fun q : Nat => s.heap.size ≤ q) bs := Nat.not_le.mpr hbl
  obtain ⟨⟨n, q, tn, tu, T, hI⟩, hnp, hh, hPR, hLb, hch⟩ := id hL
  have hn31 : n < 2 ^ 31 := by have := hI.hnb; omega
  have hq31 : q < 2 ^ 31 := by have := hI.hqc; omega
  refine lv_aload_n hx hb dL_law_752 rfl (lv_at hl 1 rfl) ?_
  refine ls_arg hx hb hl2 hX hbl hbA hS 1 (by decide) hi hLx dL_law_753 dL_law_754 dL_law_755 dL_law_756 dL_law_757 ?_
  refine ls_arg hx hb hl2 hX hbl hbA hS 2 (by decide) hi hLx dL_law_758 dL_law_759 dL_law_760 dL_law_761 dL_law_762 ?_
  have hPX : va_P D vwCl ([(ob, oE 6 [.ref (a 0), .ref (dd 0), .ref (o 0), .ref (x 0)])] ++ wS cI a g) H := bl_sub hP [0, 2] (by decide)
  refine lr_i (As := [.int (xs (i + 1)), .int (xs (i + 2))]) (rest := []) (tys := TYS cI cC cB cS) (ci := 6) ⟨hx, hb, hml, hown, hts⟩ (c_X6_free l D cI cC cB cS a g ob (dd 0) (o 0) (x 0) n q (xs (i + 1)) (xs (i + 2)) hI.hn hI.hnb hI.hq hI.hqc) (cwV 2 hts gL_law_X6_free rfl rfl rfl (by decide +kernel) ⟨Nat.le_of_ble_eq_true rfl, Nat.le_of_ble_eq_true rfl⟩) hK hPX rfl rfl rfl rfl hl.1 (Nat.le_of_ble_eq_true rfl) dL_law_763 ⟨hcl, hsl⟩ (fun r1 h1 => ?_)
  refine lv_aload_n hx hb dL_law_766 rfl (lv_at hl 2 rfl) ?_
  refine ls_arg hx hb hl2 hX hbl hbA hS 1 (by decide) hi hLx dL_law_767 dL_law_768 dL_law_769 dL_law_770 dL_law_771 ?_
  refine ls_arg hx hb hl2 hX hbl hbA hS 2 (by decide) hi hLx dL_law_772 dL_law_773 dL_law_774 dL_law_775 dL_law_776 ?_
  have hPX : va_P D vwCl ([mO ma (fiF np L ex) wd, (ma 1, iE cI 382 (enc g lf))]) H := bl_sub hP [6, 7] (by decide)
  refine lr_i (As := [.int (xs (i + 1)), .int (xs (i + 2))]) (rest := [.int r1]) (tys := TYS cI cC cB cS) (ci := 7) ⟨hx, hb, hml, hown, hts⟩ (c_X7_free l D cI cC cB cS ma (fiF np L ex) wd g lf n q (xs (i + 1)) (xs (i + 2)) hI.hn hI.hnb hI.hq hI.hqc hI.hst hI.htm hI.hsz) (cwV 2 hts gL_law_X7_free rfl rfl rfl (by decide +kernel) ⟨Nat.le_of_ble_eq_true rfl, Nat.le_of_ble_eq_true rfl⟩) hK hPX rfl rfl rfl rfl hl.1 (Nat.le_of_ble_eq_true rfl) dL_law_777 ⟨hcl, hsl⟩ (fun r2 h2 => ?_)
  have hrr : r1 = r2 := aFree_one h1 h2
  subst hrr
  refine lv_icmp_eq (tgt := 910) hx hb dL_law_780 (by decide) (fun _ => ?_) (fun q => absurd rfl q)
  exact kk _ _ _ _ _ _ _ _ _ _ _ _ _ _ _ _ _ _ hL hP hD hS
set_option maxHeartbeats 4000000 in
set_option maxRecDepth 100000 in
theorem lc_fee (hC : LC p s m c D cI cC cB cS tL tG aK aV bs Lx xs) (hl : lv_has ls 4 [(0, .ref bs), (1, .ref ob), (2, .ref (ma 0)), (3, .int (nI i))]) (hi : i + 5 ≤ Lx) (hcl : cells ≤ 600000) (hsl : slots ≤ 7302250) (hL : LSt g lf np hs lfs Pp L f) (hP : va_P D vwCl (wL (lb (kB cI cC cS ob a dd o x g np b hs dg L tk ts te f) (mB cI cB ma g lf np L f Pp E ex wd))) H) (hD : va_D (fun q => s.heap.size ≤ q) (wL (lb (kB cI cC cS ob a dd o x g np b hs dg L tk ts te f) (mB cI cB ma g lf np L f Pp E ex wd)))) (hS : va_S (fun q => s.heap.size ≤ q) s.heap H locs) (kk : KK p l e s m below meth c bs cells slots Q D cI cC cB cS ob a dd o x ma 910 ls) : W p l e room_1 s m #[Value.ref bs] below meth c H locs cells slots Q (F0 m 785 ls []) := by
  obtain ⟨hx, hb, hml, hown, hts, hX, hbl, hK, hZ, hLx⟩ := hC
  have hl2 : lv_has ls 4 [(0, .ref bs), (3, .int (nI i)), (1, .ref ob)] := lv_sub hl [0, 3, 1] rfl
  have hA : ∀ q : Nat, s.heap.size ≤ q → (fun q : Nat => s.heap.size ≤ q) q := fun _ h => h
  have hbA : ¬ (fun q : Nat => s.heap.size ≤ q) bs := Nat.not_le.mpr hbl
  obtain ⟨⟨n, q, tn, tu, T, hI⟩, hnp, hh, hPR, hLb, hch⟩ := id hL
  have hn31 : n < 2 ^ 31 := by have := hI.hnb; omega
  have hq31 : q < 2 ^ 31 := by have := hI.hqc; omega
  refine lv_aload_n hx hb dL_law_785 rfl (lv_at hl 1 rfl) ?_
  refine ls_arg hx hb hl2 hX hbl hbA hS 1 (by decide) hi hLx dL_law_786 dL_law_787 dL_law_788 dL_law_789 dL_law_790 ?_
  refine ls_arg hx hb hl2 hX hbl hbA hS 2 (by decide) hi hLx dL_law_791 dL_law_792 dL_law_793 dL_law_794 dL_law_795 ?_
  have hPX : va_P D vwCl ([(ob, oE 6 [.ref (a 0), .ref (dd 0), .ref (o 0), .ref (x 0)])] ++ wS cI a g) H := bl_sub hP [0, 2] (by decide)
  refine lr_i (As := [.int (xs (i + 1)), .int (xs (i + 2))]) (rest := []) (tys := TYS cI cC cB cS) (ci := 6) ⟨hx, hb, hml, hown, hts⟩ (c_X6_fee l D cI cC cB cS a g ob (dd 0) (o 0) (x 0) tn tu (xs (i + 1)) (xs (i + 2)) hI.ht hI.htb hI.hts1 hI.hu hI.hub hI.hus1) (cwV 2 hts gL_law_X6_fee rfl rfl rfl (by decide +kernel) ⟨Nat.le_of_ble_eq_true rfl, Nat.le_of_ble_eq_true rfl⟩) hK hPX rfl rfl rfl rfl hl.1 (Nat.le_of_ble_eq_true rfl) dL_law_796 ⟨hcl, hsl⟩ (fun r1 h1 => ?_)
  refine lv_aload_n hx hb dL_law_799 rfl (lv_at hl 2 rfl) ?_
  refine ls_arg hx hb hl2 hX hbl hbA hS 1 (by decide) hi hLx dL_law_800 dL_law_801 dL_law_802 dL_law_803 dL_law_804 ?_
  refine ls_arg hx hb hl2 hX hbl hbA hS 2 (by decide) hi hLx dL_law_805 dL_law_806 dL_law_807 dL_law_808 dL_law_809 ?_
  have hPX : va_P D vwCl ([mO ma (fiF np L ex) wd, (ma 1, iE cI 382 (enc g lf))]) H := bl_sub hP [6, 7] (by decide)
  refine lr_i (As := [.int (xs (i + 1)), .int (xs (i + 2))]) (rest := [.int r1]) (tys := TYS cI cC cB cS) (ci := 7) ⟨hx, hb, hml, hown, hts⟩ (c_X7_fee l D cI cC cB cS ma (fiF np L ex) wd g lf tn tu (xs (i + 1)) (xs (i + 2)) hI.ht hI.htb hI.htu hI.hu hI.hub hI.huu hI.hu0) (cwV 2 hts gL_law_X7_fee rfl rfl rfl (by decide +kernel) ⟨Nat.le_of_ble_eq_true rfl, Nat.le_of_ble_eq_true rfl⟩) hK hPX rfl rfl rfl rfl hl.1 (Nat.le_of_ble_eq_true rfl) dL_law_810 ⟨hcl, hsl⟩ (fun r2 h2 => ?_)
  have hrr : r1 = r2 := aFee_one h1 h2
  subst hrr
  refine lv_icmp_eq (tgt := 910) hx hb dL_law_813 (by decide) (fun _ => ?_) (fun q => absurd rfl q)
  exact kk _ _ _ _ _ _ _ _ _ _ _ _ _ _ _ _ _ _ hL hP hD hS
set_option maxHeartbeats 4000000 in
set_option maxRecDepth 100000 in
theorem lc_minutesLeft (hC : LC p s m c D cI cC cB cS tL tG aK aV bs Lx xs) (hl : lv_has ls 4 [(0, .ref bs), (1, .ref ob), (2, .ref (ma 0)), (3, .int (nI i))]) (hi : i + 5 ≤ Lx) (hcl : cells ≤ 600000) (hsl : slots ≤ 7302250) (hL : LSt g lf np hs lfs Pp L f) (hP : va_P D vwCl (wL (lb (kB cI cC cS ob a dd o x g np b hs dg L tk ts te f) (mB cI cB ma g lf np L f Pp E ex wd))) H) (hD : va_D (fun q => s.heap.size ≤ q) (wL (lb (kB cI cC cS ob a dd o x g np b hs dg L tk ts te f) (mB cI cB ma g lf np L f Pp E ex wd)))) (hS : va_S (fun q => s.heap.size ≤ q) s.heap H locs) (kk : KK p l e s m below meth c bs cells slots Q D cI cC cB cS ob a dd o x ma 910 ls) : W p l e room_1 s m #[Value.ref bs] below meth c H locs cells slots Q (F0 m 818 ls []) := by
  obtain ⟨hx, hb, hml, hown, hts, hX, hbl, hK, hZ, hLx⟩ := hC
  have hl2 : lv_has ls 4 [(0, .ref bs), (3, .int (nI i)), (1, .ref ob)] := lv_sub hl [0, 3, 1] rfl
  have hA : ∀ q : Nat, s.heap.size ≤ q → (fun q : Nat => s.heap.size ≤ q) q := fun _ h => h
  have hbA : ¬ (fun q : Nat => s.heap.size ≤ q) bs := Nat.not_le.mpr hbl
  obtain ⟨⟨n, q, tn, tu, T, hI⟩, hnp, hh, hPR, hLb, hch⟩ := id hL
  have hn31 : n < 2 ^ 31 := by have := hI.hnb; omega
  have hq31 : q < 2 ^ 31 := by have := hI.hqc; omega
  refine lv_aload_n hx hb dL_law_818 rfl (lv_at hl 1 rfl) ?_
  refine ls_arg hx hb hl2 hX hbl hbA hS 1 (by decide) hi hLx dL_law_819 dL_law_820 dL_law_821 dL_law_822 dL_law_823 ?_
  have hPX : va_P D vwCl ([(ob, oE 6 [.ref (a 0), .ref (dd 0), .ref (o 0), .ref (x 0)])] ++ wS cI a g) H := bl_sub hP [0, 2] (by decide)
  refine lr_i (As := [.int (xs (i + 1))]) (rest := []) (tys := TYS cI cC cB cS) (ci := 6) ⟨hx, hb, hml, hown, hts⟩ (c_X6_minutesLeft l D cI cC cB cS a g ob (dd 0) (o 0) (x 0) n q tn tu (xs (i + 1)) hI.hn hI.hnb hI.hq hI.hqc hI.ht hI.htb hI.hts1 hI.hu hI.hub hI.hus1) (cwV 1 hts gL_law_X6_minutesLeft rfl rfl rfl (by decide +kernel) ⟨Nat.le_of_ble_eq_true rfl, Nat.le_of_ble_eq_true rfl⟩) hK hPX rfl rfl rfl rfl hl.1 (Nat.le_of_ble_eq_true rfl) dL_law_824 ⟨hcl, hsl⟩ (fun r1 h1 => ?_)
  refine lv_aload_n hx hb dL_law_827 rfl (lv_at hl 2 rfl) ?_
  refine ls_arg hx hb hl2 hX hbl hbA hS 1 (by decide) hi hLx dL_law_828 dL_law_829 dL_law_830 dL_law_831 dL_law_832 ?_
  have hPX : va_P D vwCl ([mO ma (fiF np L ex) wd, (ma 1, iE cI 382 (enc g lf))]) H := bl_sub hP [6, 7] (by decide)
  refine lr_i (As := [.int (xs (i + 1))]) (rest := [.int r1]) (tys := TYS cI cC cB cS) (ci := 7) ⟨hx, hb, hml, hown, hts⟩ (c_X7_minutesLeft l D cI cC cB cS ma (fiF np L ex) wd g lf n q tn tu T (xs (i + 1)) hI.hn hI.hnb hI.hqc hI.ht hI.htb hI.htu hI.hu hI.hub hI.huu hI.hu0 hI.hits hI.hen hI.hT0 hI.hT0b) (cwV 1 hts gL_law_X7_minutesLeft rfl rfl rfl (by decide +kernel) ⟨Nat.le_of_ble_eq_true rfl, Nat.le_of_ble_eq_true rfl⟩) hK hPX rfl rfl rfl rfl hl.1 (Nat.le_of_ble_eq_true rfl) dL_law_833 ⟨hcl, hsl⟩ (fun r2 h2 => ?_)
  have hrr : r1 = r2 := aMinutes_one hq31 h1 h2
  subst hrr
  refine lv_icmp_eq (tgt := 910) hx hb dL_law_836 (by decide) (fun _ => ?_) (fun q => absurd rfl q)
  exact kk _ _ _ _ _ _ _ _ _ _ _ _ _ _ _ _ _ _ hL hP hD hS
set_option maxHeartbeats 4000000 in
set_option maxRecDepth 100000 in
theorem lc_freeFor (hC : LC p s m c D cI cC cB cS tL tG aK aV bs Lx xs) (hl : lv_has ls 4 [(0, .ref bs), (1, .ref ob), (2, .ref (ma 0)), (3, .int (nI i))]) (hi : i + 5 ≤ Lx) (hcl : cells ≤ 600000) (hsl : slots ≤ 7302250) (hL : LSt g lf np hs lfs Pp L f) (hP : va_P D vwCl (wL (lb (kB cI cC cS ob a dd o x g np b hs dg L tk ts te f) (mB cI cB ma g lf np L f Pp E ex wd))) H) (hD : va_D (fun q => s.heap.size ≤ q) (wL (lb (kB cI cC cS ob a dd o x g np b hs dg L tk ts te f) (mB cI cB ma g lf np L f Pp E ex wd)))) (hS : va_S (fun q => s.heap.size ≤ q) s.heap H locs) (kk : KK p l e s m below meth c bs cells slots Q D cI cC cB cS ob a dd o x ma 910 ls) : W p l e room_1 s m #[Value.ref bs] below meth c H locs cells slots Q (F0 m 841 ls []) := by
  obtain ⟨hx, hb, hml, hown, hts, hX, hbl, hK, hZ, hLx⟩ := hC
  have hl2 : lv_has ls 4 [(0, .ref bs), (3, .int (nI i)), (1, .ref ob)] := lv_sub hl [0, 3, 1] rfl
  have hA : ∀ q : Nat, s.heap.size ≤ q → (fun q : Nat => s.heap.size ≤ q) q := fun _ h => h
  have hbA : ¬ (fun q : Nat => s.heap.size ≤ q) bs := Nat.not_le.mpr hbl
  obtain ⟨⟨n, q, tn, tu, T, hI⟩, hnp, hh, hPR, hLb, hch⟩ := id hL
  have hn31 : n < 2 ^ 31 := by have := hI.hnb; omega
  have hq31 : q < 2 ^ 31 := by have := hI.hqc; omega
  refine lv_aload_n hx hb dL_law_841 rfl (lv_at hl 1 rfl) ?_
  refine ls_arg hx hb hl2 hX hbl hbA hS 1 (by decide) hi hLx dL_law_842 dL_law_843 dL_law_844 dL_law_845 dL_law_846 ?_
  have hPX : va_P D vwCl ([(ob, oE 6 [.ref (a 0), .ref (dd 0), .ref (o 0), .ref (x 0)])] ++ wS cI a g) H := bl_sub hP [0, 2] (by decide)
  refine lr_i (As := [.int (xs (i + 1))]) (rest := []) (tys := TYS cI cC cB cS) (ci := 6) ⟨hx, hb, hml, hown, hts⟩ (c_X6_freeFor l D cI cC cB cS a g ob (dd 0) (o 0) (x 0) n q (xs (i + 1)) hI.hn hI.hnb hI.hq hI.hqc) (cwV 1 hts gL_law_X6_freeFor rfl rfl rfl (by decide +kernel) ⟨Nat.le_of_ble_eq_true rfl, Nat.le_of_ble_eq_true rfl⟩) hK hPX rfl rfl rfl rfl hl.1 (Nat.le_of_ble_eq_true rfl) dL_law_847 ⟨hcl, hsl⟩ (fun r1 h1 => ?_)
  refine lv_aload_n hx hb dL_law_850 rfl (lv_at hl 2 rfl) ?_
  refine ls_arg hx hb hl2 hX hbl hbA hS 1 (by decide) hi hLx dL_law_851 dL_law_852 dL_law_853 dL_law_854 dL_law_855 ?_
  have hPX : va_P D vwCl ([mO ma (fiF np L ex) wd, (ma 1, iE cI 382 (enc g lf))]) H := bl_sub hP [6, 7] (by decide)
  refine lr_i (As := [.int (xs (i + 1))]) (rest := [.int r1]) (tys := TYS cI cC cB cS) (ci := 7) ⟨hx, hb, hml, hown, hts⟩ (c_X7_freeFor l D cI cC cB cS ma (fiF np L ex) wd g lf n q (xs (i + 1)) hI.hn hI.hnb hI.hq hI.hqc hI.hst hI.htm) (cwV 1 hts gL_law_X7_freeFor rfl rfl rfl (by decide +kernel) ⟨Nat.le_of_ble_eq_true rfl, Nat.le_of_ble_eq_true rfl⟩) hK hPX rfl rfl rfl rfl hl.1 (Nat.le_of_ble_eq_true rfl) dL_law_856 ⟨hcl, hsl⟩ (fun r2 h2 => ?_)
  have hrr : r1 = r2 := aFreeFor_one h1 h2
  subst hrr
  refine lv_icmp_eq (tgt := 910) hx hb dL_law_859 (by decide) (fun _ => ?_) (fun q => absurd rfl q)
  exact kk _ _ _ _ _ _ _ _ _ _ _ _ _ _ _ _ _ _ hL hP hD hS
set_option maxHeartbeats 4000000 in
set_option maxRecDepth 100000 in
theorem lc_earliest (hC : LC p s m c D cI cC cB cS tL tG aK aV bs Lx xs) (hl : lv_has ls 4 [(0, .ref bs), (1, .ref ob), (2, .ref (ma 0)), (3, .int (nI i))]) (hi : i + 5 ≤ Lx) (hcl : cells ≤ 600000) (hsl : slots ≤ 7302250) (hL : LSt g lf np hs lfs Pp L f) (hP : va_P D vwCl (wL (lb (kB cI cC cS ob a dd o x g np b hs dg L tk ts te f) (mB cI cB ma g lf np L f Pp E ex wd))) H) (hD : va_D (fun q => s.heap.size ≤ q) (wL (lb (kB cI cC cS ob a dd o x g np b hs dg L tk ts te f) (mB cI cB ma g lf np L f Pp E ex wd)))) (hS : va_S (fun q => s.heap.size ≤ q) s.heap H locs) (kk : KK p l e s m below meth c bs cells slots Q D cI cC cB cS ob a dd o x ma 910 ls) : W p l e room_1 s m #[Value.ref bs] below meth c H locs cells slots Q (F0 m 864 ls []) := by
  obtain ⟨hx, hb, hml, hown, hts, hX, hbl, hK, hZ, hLx⟩ := hC
  have hl2 : lv_has ls 4 [(0, .ref bs), (3, .int (nI i)), (1, .ref ob)] := lv_sub hl [0, 3, 1] rfl
  have hA : ∀ q : Nat, s.heap.size ≤ q → (fun q : Nat => s.heap.size ≤ q) q := fun _ h => h
  have hbA : ¬ (fun q : Nat => s.heap.size ≤ q) bs := Nat.not_le.mpr hbl
  obtain ⟨⟨n, q, tn, tu, T, hI⟩, hnp, hh, hPR, hLb, hch⟩ := id hL
  have hn31 : n < 2 ^ 31 := by have := hI.hnb; omega
  have hq31 : q < 2 ^ 31 := by have := hI.hqc; omega
  refine lv_aload_n hx hb dL_law_864 rfl (lv_at hl 1 rfl) ?_
  refine ls_arg hx hb hl2 hX hbl hbA hS 1 (by decide) hi hLx dL_law_865 dL_law_866 dL_law_867 dL_law_868 dL_law_869 ?_
  refine ls_arg hx hb hl2 hX hbl hbA hS 2 (by decide) hi hLx dL_law_870 dL_law_871 dL_law_872 dL_law_873 dL_law_874 ?_
  have hPX : va_P D vwCl ([(ob, oE 6 [.ref (a 0), .ref (dd 0), .ref (o 0), .ref (x 0)])] ++ wS cI a g) H := bl_sub hP [0, 2] (by decide)
  refine lr_i (As := [.int (xs (i + 1)), .int (xs (i + 2))]) (rest := []) (tys := TYS cI cC cB cS) (ci := 6) ⟨hx, hb, hml, hown, hts⟩ (c_X6_earliest l D cI cC cB cS a g ob (dd 0) (o 0) (x 0) n q (xs (i + 1)) (xs (i + 2)) hI.hn hI.hnb hI.hq hI.hqc) (cwV 2 hts gL_law_X6_earliest rfl rfl rfl (by decide +kernel) ⟨Nat.le_of_ble_eq_true rfl, Nat.le_of_ble_eq_true rfl⟩) hK hPX rfl rfl rfl rfl hl.1 (Nat.le_of_ble_eq_true rfl) dL_law_875 ⟨hcl, hsl⟩ (fun r1 h1 => ?_)
  refine lv_aload_n hx hb dL_law_878 rfl (lv_at hl 2 rfl) ?_
  refine ls_arg hx hb hl2 hX hbl hbA hS 1 (by decide) hi hLx dL_law_879 dL_law_880 dL_law_881 dL_law_882 dL_law_883 ?_
  refine ls_arg hx hb hl2 hX hbl hbA hS 2 (by decide) hi hLx dL_law_884 dL_law_885 dL_law_886 dL_law_887 dL_law_888 ?_
  have hPX : va_P D vwCl ([mO ma (fiF np L ex) wd, (ma 1, iE cI 382 (enc g lf))]) H := bl_sub hP [6, 7] (by decide)
  refine lr_i (As := [.int (xs (i + 1)), .int (xs (i + 2))]) (rest := [.int r1]) (tys := TYS cI cC cB cS) (ci := 7) ⟨hx, hb, hml, hown, hts⟩ (c_X7_earliest l D cI cC cB cS ma (fiF np L ex) wd g lf n q T (xs (i + 1)) (xs (i + 2)) hI.hn hI.hnb hI.hq hI.hqc hI.hst hI.hT0 hI.hT0b) (cwV 2 hts gL_law_X7_earliest rfl rfl rfl (by decide +kernel) ⟨Nat.le_of_ble_eq_true rfl, Nat.le_of_ble_eq_true rfl⟩) hK hPX rfl rfl rfl rfl hl.1 (Nat.le_of_ble_eq_true rfl) dL_law_889 ⟨hcl, hsl⟩ (fun r2 h2 => ?_)
  have hrr : r1 = r2 := aEarliest_one hI h1 h2
  subst hrr
  refine lv_icmp_eq (tgt := 910) hx hb dL_law_892 (by decide) (fun _ => ?_) (fun q => absurd rfl q)
  exact kk _ _ _ _ _ _ _ _ _ _ _ _ _ _ _ _ _ _ hL hP hD hS
set_option maxHeartbeats 4000000 in
set_option maxRecDepth 100000 in
theorem lc_undo (hC : LC p s m c D cI cC cB cS tL tG aK aV bs Lx xs) (hl : lv_has ls 4 [(0, .ref bs), (1, .ref ob), (2, .ref (ma 0)), (3, .int (nI i))]) (hi : i + 5 ≤ Lx) (hcl : cells ≤ 600000) (hsl : slots ≤ 7302250) (hL : LSt g lf np hs lfs Pp L f) (hP : va_P D vwCl (wL (lb (kB cI cC cS ob a dd o x g np b hs dg L tk ts te f) (mB cI cB ma g lf np L f Pp E ex wd))) H) (hD : va_D (fun q => s.heap.size ≤ q) (wL (lb (kB cI cC cS ob a dd o x g np b hs dg L tk ts te f) (mB cI cB ma g lf np L f Pp E ex wd)))) (hS : va_S (fun q => s.heap.size ≤ q) s.heap H locs) (kk : KK p l e s m below meth c bs cells slots Q D cI cC cB cS ob a dd o x ma 910 ls) : W p l e room_1 s m #[Value.ref bs] below meth c H locs cells slots Q (F0 m 897 ls []) := by
  obtain ⟨hx, hb, hml, hown, hts, hX, hbl, hK, hZ, hLx⟩ := hC
  have hl2 : lv_has ls 4 [(0, .ref bs), (3, .int (nI i)), (1, .ref ob)] := lv_sub hl [0, 3, 1] rfl
  have hA : ∀ q : Nat, s.heap.size ≤ q → (fun q : Nat => s.heap.size ≤ q) q := fun _ h => h
  have hbA : ¬ (fun q : Nat => s.heap.size ≤ q) bs := Nat.not_le.mpr hbl
  obtain ⟨⟨n, q, tn, tu, T, hI⟩, hnp, hh, hPR, hLb, hch⟩ := id hL
  have hn31 : n < 2 ^ 31 := by have := hI.hnb; omega
  have hq31 : q < 2 ^ 31 := by have := hI.hqc; omega
  refine lv_aload_n hx hb dL_law_897 rfl (lv_at hl 1 rfl) ?_
  refine lw_wi (As := []) (rest := []) (tys := TYS cI cC cB cS) (ci := 6) (fun u => lb (kB cI cC cS ob a dd o x u.1 u.2.1 u.2.2.1 u.2.2.2 dg L tk ts te f) (mB cI cB ma g lf np L f Pp E ex wd)) ⟨hx, hb, hml, hown, hts⟩ (c_X6_undo l D cI cC cB cS _ a g ob (dd 0) (x 0) o b hs np hnp) (cwV 0 hts gL_law_X6_undo rfl rfl rfl (by decide +kernel) ⟨Nat.le_of_ble_eq_true rfl, Nat.le_of_ble_eq_true rfl⟩) hK hP hD hS hA [0, 1, 2, 5] [3, 4, 6, 7, 8, 9, 10] (by decide) (ap4 _ _ _ _) (fun u => ap4 _ _ _ _) (fun u => rfl) rfl rfl rfl rfl hl.1 (Nat.le_of_ble_eq_true rfl) dL_law_898 ⟨hcl, hsl⟩ (fun r1 u1 H locs h1 hP hD hS => ?_)
  obtain ⟨g1, np1, b1, hs1⟩ := u1
  have hP : va_P D vwCl (wL (lb (kB cI cC cS ob a dd o x g1 np1 b1 hs1 dg L tk ts te f) (mB cI cB ma g lf np L f Pp E ex wd))) H := hP
  have hD : va_D (fun q => s.heap.size ≤ q) (wL (lb (kB cI cC cS ob a dd o x g1 np1 b1 hs1 dg L tk ts te f) (mB cI cB ma g lf np L f Pp E ex wd))) := hD
  refine lv_aload_n hx hb dL_law_901 rfl (lv_at hl 2 rfl) ?_
  refine lw_wi (As := []) (rest := [.int r1]) (tys := TYS cI cC cB cS) (ci := 7) (fun u => lb (kB cI cC cS ob a dd o x g1 np1 b1 hs1 dg L tk ts te f) (mB cI cB ma u.1 u.2.1 u.2.2 L f Pp E ex wd)) ⟨hx, hb, hml, hown, hts⟩ (c_X7_undo l D cI cC cB cS _ ma (fiF np L ex) wd g lf np Pp hs lfs hnp hPR) (cwV 0 hts gL_law_X7_undo rfl rfl rfl (by decide +kernel) ⟨Nat.le_of_ble_eq_true rfl, Nat.le_of_ble_eq_true rfl⟩) hK hP hD hS hA [6, 7, 8] [0, 1, 2, 3, 4, 5, 9, 10] (by decide) rfl (fun u => rfl) (fun u => rfl) rfl rfl rfl rfl hl.1 (Nat.le_of_ble_eq_true rfl) dL_law_902 ⟨hcl, hsl⟩ (fun r2 u2 H locs h2 hP hD hS => ?_)
  obtain ⟨g2, lf2, np2⟩ := u2
  have hP : va_P D vwCl (wL (lb (kB cI cC cS ob a dd o x g1 np1 b1 hs1 dg L tk ts te f) (mB cI cB ma g2 lf2 np2 L f Pp E ex wd))) H := hP
  have hD : va_D (fun q => s.heap.size ≤ q) (wL (lb (kB cI cC cS ob a dd o x g1 np1 b1 hs1 dg L tk ts te f) (mB cI cB ma g2 lf2 np2 L f Pp E ex wd))) := hD
  obtain ⟨hrr, e1, e2, hL2⟩ := und_both hL h1 h2
  subst hrr
  have e1 : g2 = g1 := e1
  have e2 : np2 = np1 := e2
  subst e1 e2
  refine lv_icmp_eq (tgt := 910) hx hb dL_law_905 (by decide) (fun _ => ?_) (fun q => absurd rfl q)
  exact kk _ _ _ _ _ _ _ _ _ _ _ _ _ _ _ _ _ _ hL2 hP hD hS
end LCASES
