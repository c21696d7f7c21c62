/-! ===== the law, case by case (laid by wip/whole/gen/law.py) ===== -/
section LCASES
variable {p : Program} {l : Launch} {e : Env} {s : State} {m : MethodId} {below : List Frame} {meth : Method} {c : Code} {H : Heap} {locs : List Loc} {cells slots : Nat} {Q : State → Prop} {ls : Array Slot} {D : va_G} {cI cC cB cS : ClassId} {tL tG : Nat} {aK aV : Nat → Nat} {bs Lx i : Nat} {xs : Nat → Int32} {ob : Nat} {a dd o x ma : Nat → Nat}
variable {g : Nat → Nat → Int32} {lf : Int32} {np : Nat} {b : Nat → Nat → Nat} {hs : Nat → Nat → Nat → Int32} {lfs Pp : Nat → Int32} {dg : Nat → Nat → Int32} {L tk ts te : Nat} {f E ex : Nat → Int32} {wd : Int64}
set_option maxHeartbeats 4000000 in
set_option maxRecDepth 100000 in
theorem lc_appendCharacter (hC : LC p s m c D cI cC cB cS tL tG aK aV bs Lx xs) (hl : lv_has ls 4 [(0, .ref bs), (1, .ref ob), (2, .ref (ma 0)), (3, .int (nI i))]) (hi : i + 5 ≤ Lx) (hcl : cells ≤ 600000) (hsl : slots ≤ 7302250) (hL : LSt g lf np hs lfs Pp L f) (hP : va_P D vwCl (wL (lb (kB cI cC cS ob a dd o x g np b hs dg L tk ts te f) (mB cI cB ma g lf np L f Pp E ex wd))) H) (hD : va_D (fun q => s.heap.size ≤ q) (wL (lb (kB cI cC cS ob a dd o x g np b hs dg L tk ts te f) (mB cI cB ma g lf np L f Pp E ex wd)))) (hS : va_S (fun q => s.heap.size ≤ q) s.heap H locs) (kk : KK p l e s m below meth c bs cells slots Q D cI cC cB cS ob a dd o x ma 910 ls) : W p l e room_1 s m #[Value.ref bs] below meth c H locs cells slots Q (F0 m 314 ls []) := by
  obtain ⟨hx, hb, hml, hown, hts, hX, hbl, hK, hZ, hLx⟩ := hC
  have hl2 : lv_has ls 4 [(0, .ref bs), (3, .int (nI i)), (1, .ref ob)] := lv_sub hl [0, 3, 1] rfl
  have hA : ∀ q : Nat, s.heap.size ≤ q → (fun q : Nat => s.heap.size ≤ q) q := fun _ h => h
  have hbA : ¬ (fun q : Nat => s.heap.size ≤ q) bs := Nat.not_le.mpr hbl
  obtain ⟨⟨n, q, tn, tu, T, hI⟩, hnp, hh, hPR, hLb, hch⟩ := id hL
  have hn31 : n < 2 ^ 31 := by have := hI.hnb; omega
  have hq31 : q < 2 ^ 31 := by have := hI.hqc; omega
  refine lv_aload_n hx hb dL_law_314 rfl (lv_at hl 1 rfl) ?_
  refine ls_arg hx hb hl2 hX hbl hbA hS 1 (by decide) hi hLx dL_law_315 dL_law_316 dL_law_317 dL_law_318 dL_law_319 ?_
  refine lw_wi (As := [.int (xs (i + 1))]) (rest := []) (tys := TYS cI cC cB cS) (ci := 6) (fun u => lb (kB cI cC cS ob a dd o x g np b hs dg u.1 tk ts te u.2) (mB cI cB ma g lf np L f Pp E ex wd)) ⟨hx, hb, hml, hown, hts⟩ (c_X6_appendCharacter l D cI cC cB cS _ ob (a 0) (dd 0) (o 0) x L tk ts te f (xs (i + 1)) hLb) (cwV 1 hts gL_law_X6_appendCharacter rfl rfl rfl (by decide +kernel) ⟨Nat.le_of_ble_eq_true rfl, Nat.le_of_ble_eq_true rfl⟩) hK hP hD hS hA [0, 4] [1, 2, 3, 5, 6, 7, 8, 9, 10] (by decide) (ap2 _ _) (fun u => ap2 _ _) (fun u => rfl) rfl rfl rfl rfl hl.1 (Nat.le_of_ble_eq_true rfl) dL_law_320 ⟨hcl, hsl⟩ (fun r1 u1 H locs h1 hP hD hS => ?_)
  obtain ⟨L1, f1⟩ := u1
  have hP : va_P D vwCl (wL (lb (kB cI cC cS ob a dd o x g np b hs dg L1 tk ts te f1) (mB cI cB ma g lf np L f Pp E ex wd))) H := hP
  have hD : va_D (fun q => s.heap.size ≤ q) (wL (lb (kB cI cC cS ob a dd o x g np b hs dg L1 tk ts te f1) (mB cI cB ma g lf np L f Pp E ex wd))) := hD
  refine lv_aload_n hx hb dL_law_323 rfl (lv_at hl 2 rfl) ?_
  refine ls_arg hx hb hl2 hX hbl hbA hS 1 (by decide) hi hLx dL_law_324 dL_law_325 dL_law_326 dL_law_327 dL_law_328 ?_
  refine lw_wi (As := [.int (xs (i + 1))]) (rest := [.int r1]) (tys := TYS cI cC cB cS) (ci := 7) (fun u => lb (kB cI cC cS ob a dd o x g np b hs dg L1 tk ts te f1) (mB cI cB ma g lf np u.1 u.2 Pp E ex wd)) ⟨hx, hb, hml, hown, hts⟩ (c_X7_appendCharacter l D cI cC cB cS _ ma (fiF np L ex) wd L f (xs (i + 1)) hLb) (cwV 1 hts gL_law_X7_appendCharacter rfl rfl rfl (by decide +kernel) ⟨Nat.le_of_ble_eq_true rfl, Nat.le_of_ble_eq_true rfl⟩) hK hP hD hS hA [6, 10] [0, 1, 2, 3, 4, 5, 7, 8, 9] (by decide) rfl (fun u => rfl) (fun u => hr_a (mB7.trans mB7.symm) (mB8.trans mB8.symm) (mB9.trans mB9.symm)) rfl rfl rfl rfl hl.1 (Nat.le_of_ble_eq_true rfl) dL_law_329 ⟨hcl, hsl⟩ (fun r2 u2 H locs h2 hP hD hS => ?_)
  obtain ⟨L2, f2⟩ := u2
  have hP : va_P D vwCl (wL (lb (kB cI cC cS ob a dd o x g np b hs dg L1 tk ts te f1) (mB cI cB ma g lf np L2 f2 Pp E ex wd))) H := hP
  have hD : va_D (fun q => s.heap.size ≤ q) (wL (lb (kB cI cC cS ob a dd o x g np b hs dg L1 tk ts te f1) (mB cI cB ma g lf np L2 f2 Pp E ex wd))) := hD
  obtain ⟨hrr, eu⟩ := Oappend_one h1 h2
  have hL2 := app_both hL h1
  injection eu with e1 e2
  subst hrr e1 e2
  refine lv_icmp_eq (tgt := 910) hx hb dL_law_332 (by decide) (fun _ => ?_) (fun q => absurd rfl q)
  exact kk _ _ _ _ _ _ _ _ _ _ _ _ _ _ _ _ _ _ hL2 hP hD hS
set_option maxHeartbeats 4000000 in
set_option maxRecDepth 100000 in
theorem lc_clearText (hC : LC p s m c D cI cC cB cS tL tG aK aV bs Lx xs) (hl : lv_has ls 4 [(0, .ref bs), (1, .ref ob), (2, .ref (ma 0)), (3, .int (nI i))]) (hi : i + 5 ≤ Lx) (hcl : cells ≤ 600000) (hsl : slots ≤ 7302250) (hL : LSt g lf np hs lfs Pp L f) (hP : va_P D vwCl (wL (lb (kB cI cC cS ob a dd o x g np b hs dg L tk ts te f) (mB cI cB ma g lf np L f Pp E ex wd))) H) (hD : va_D (fun q => s.heap.size ≤ q) (wL (lb (kB cI cC cS ob a dd o x g np b hs dg L tk ts te f) (mB cI cB ma g lf np L f Pp E ex wd)))) (hS : va_S (fun q => s.heap.size ≤ q) s.heap H locs) (kk : KK p l e s m below meth c bs cells slots Q D cI cC cB cS ob a dd o x ma 910 ls) : W p l e room_1 s m #[Value.ref bs] below meth c H locs cells slots Q (F0 m 337 ls []) := by
  obtain ⟨hx, hb, hml, hown, hts, hX, hbl, hK, hZ, hLx⟩ := hC
  have hl2 : lv_has ls 4 [(0, .ref bs), (3, .int (nI i)), (1, .ref ob)] := lv_sub hl [0, 3, 1] rfl
  have hA : ∀ q : Nat, s.heap.size ≤ q → (fun q : Nat => s.heap.size ≤ q) q := fun _ h => h
  have hbA : ¬ (fun q : Nat => s.heap.size ≤ q) bs := Nat.not_le.mpr hbl
  obtain ⟨⟨n, q, tn, tu, T, hI⟩, hnp, hh, hPR, hLb, hch⟩ := id hL
  have hn31 : n < 2 ^ 31 := by have := hI.hnb; omega
  have hq31 : q < 2 ^ 31 := by have := hI.hqc; omega
  refine lv_aload_n hx hb dL_law_337 rfl (lv_at hl 1 rfl) ?_
  refine lw_wi (As := []) (rest := []) (tys := TYS cI cC cB cS) (ci := 6) (fun u => lb (kB cI cC cS ob a dd o x g np b hs dg 0 tk ts te f) (mB cI cB ma g lf np L f Pp E ex wd)) ⟨hx, hb, hml, hown, hts⟩ (c_X6_clearText l D cI cC cB cS _ ob (a 0) (dd 0) (o 0) x L tk ts te f) (cwV 0 hts gL_law_X6_clearText rfl rfl rfl (by decide +kernel) ⟨Nat.le_of_ble_eq_true rfl, Nat.le_of_ble_eq_true rfl⟩) hK hP hD hS hA [0, 4] [1, 2, 3, 5, 6, 7, 8, 9, 10] (by decide) (ap2 _ _) (fun u => ap2 _ _) (fun u => rfl) rfl rfl rfl rfl hl.1 (Nat.le_of_ble_eq_true rfl) dL_law_338 ⟨hcl, hsl⟩ (fun r1 u1 H locs h1 hP hD hS => ?_)
  have hP : va_P D vwCl (wL (lb (kB cI cC cS ob a dd o x g np b hs dg 0 tk ts te f) (mB cI cB ma g lf np L f Pp E ex wd))) H := hP
  have hD : va_D (fun q => s.heap.size ≤ q) (wL (lb (kB cI cC cS ob a dd o x g np b hs dg 0 tk ts te f) (mB cI cB ma g lf np L f Pp E ex wd))) := hD
  refine lv_aload_n hx hb dL_law_341 rfl (lv_at hl 2 rfl) ?_
  refine lw_wi (As := []) (rest := [.int r1]) (tys := TYS cI cC cB cS) (ci := 7) (fun u => lb (kB cI cC cS ob a dd o x g np b hs dg 0 tk ts te f) (mB cI cB ma g lf np 0 f Pp E ex wd)) ⟨hx, hb, hml, hown, hts⟩ (c_X7_clearText l D cI cC cB cS _ ma (fiF np L ex) wd L f) (cwV 0 hts gL_law_X7_clearText rfl rfl rfl (by decide +kernel) ⟨Nat.le_of_ble_eq_true rfl, Nat.le_of_ble_eq_true rfl⟩) hK hP hD hS hA [6, 10] [0, 1, 2, 3, 4, 5, 7, 8, 9] (by decide) rfl (fun u => rfl) (fun u => rfl) rfl rfl rfl rfl hl.1 (Nat.le_of_ble_eq_true rfl) dL_law_342 ⟨hcl, hsl⟩ (fun r2 u2 H locs h2 hP hD hS => ?_)
  have hP : va_P D vwCl (wL (lb (kB cI cC cS ob a dd o x g np b hs dg 0 tk ts te f) (mB cI cB ma g lf np 0 f Pp E ex wd))) H := hP
  have hD : va_D (fun q => s.heap.size ≤ q) (wL (lb (kB cI cC cS ob a dd o x g np b hs dg 0 tk ts te f) (mB cI cB ma g lf np 0 f Pp E ex wd))) := hD
  have hrr : r1 = r2 := h1.trans h2.symm
  subst hrr
  have hL2 : LSt g lf np hs lfs Pp 0 f := ⟨hL.1, hL.2.1, hL.2.2.1, hL.2.2.2.1, Nat.zero_le _, hL.2.2.2.2.2⟩
  refine lv_icmp_eq (tgt := 910) hx hb dL_law_345 (by decide) (fun _ => ?_) (fun q => absurd rfl q)
  exact kk _ _ _ _ _ _ _ _ _ _ _ _ _ _ _ _ _ _ hL2 hP hD hS
set_option maxHeartbeats 4000000 in
set_option maxRecDepth 100000 in
theorem lc_load (hC : LC p s m c D cI cC cB cS tL tG aK aV bs Lx xs) (hl : lv_has ls 4 [(0, .ref bs), (1, .ref ob), (2, .ref (ma 0)), (3, .int (nI i))]) (hi : i + 5 ≤ Lx) (hcl : cells ≤ 600000) (hsl : slots ≤ 7302250) (hL : LSt g lf np hs lfs Pp L f) (hP : va_P D vwCl (wL (lb (kB cI cC cS ob a dd o x g np b hs dg L tk ts te f) (mB cI cB ma g lf np L f Pp E ex wd))) H) (hD : va_D (fun q => s.heap.size ≤ q) (wL (lb (kB cI cC cS ob a dd o x g np b hs dg L tk ts te f) (mB cI cB ma g lf np L f Pp E ex wd)))) (hS : va_S (fun q => s.heap.size ≤ q) s.heap H locs) (kk : KK p l e s m below meth c bs cells slots Q D cI cC cB cS ob a dd o x ma 910 ls) : W p l e room_1 s m #[Value.ref bs] below meth c H locs cells slots Q (F0 m 350 ls []) := by
  obtain ⟨hx, hb, hml, hown, hts, hX, hbl, hK, hZ, hLx⟩ := hC
  have hl2 : lv_has ls 4 [(0, .ref bs), (3, .int (nI i)), (1, .ref ob)] := lv_sub hl [0, 3, 1] rfl
  have hA : ∀ q : Nat, s.heap.size ≤ q → (fun q : Nat => s.heap.size ≤ q) q := fun _ h => h
  have hbA : ¬ (fun q : Nat => s.heap.size ≤ q) bs := Nat.not_le.mpr hbl
  obtain ⟨⟨n, q, tn, tu, T, hI⟩, hnp, hh, hPR, hLb, hch⟩ := id hL
  have hn31 : n < 2 ^ 31 := by have := hI.hnb; omega
  have hq31 : q < 2 ^ 31 := by have := hI.hqc; omega
  refine lv_aload_n hx hb dL_law_350 rfl (lv_at hl 1 rfl) ?_
  refine lw_wiz (As := []) (rest := []) (tys := TYS cI cC cB cS) (ci := 6) (fun u => lb (kB cI cC cS ob a dd o x u.1.1 u.1.2.1 u.1.2.2.1 u.1.2.2.2 u.2.2 u.2.1.1 u.2.1.2.1 u.2.1.2.2.1 u.2.1.2.2.2 f) (mB cI cB ma g lf np L f Pp E ex wd)) ⟨hx, hb, hml, hown, hts⟩ (c_X6_load l D cI cC cB cS _ tL tG aK aV a g dd dg ob o b hs np x L tk ts te f n q tn tu hnp hLb hch hI.nums) (cwV 0 hts gL_law_X6_load rfl rfl rfl (by decide +kernel) ⟨Nat.le_of_ble_eq_true rfl, Nat.le_of_ble_eq_true rfl⟩) hK hP hD hS hA hZ [0, 1, 2, 3, 4, 5] [6, 7, 8, 9, 10] (by decide) (ap6 _ _ _ _ _ _) (fun u => ap6 _ _ _ _ _ _) (fun u => rfl) rfl rfl rfl rfl hl.1 (Nat.le_of_ble_eq_true rfl) dL_law_351 ⟨hcl, hsl⟩ (fun r1 u1 H locs h1 hP hD hS => ?_)
  have hP : va_P D vwCl (wL (lb (kB cI cC cS ob a dd o x u1.1.1 u1.1.2.1 u1.1.2.2.1 u1.1.2.2.2 u1.2.2 u1.2.1.1 u1.2.1.2.1 u1.2.1.2.2.1 u1.2.1.2.2.2 f) (mB cI cB ma g lf np L f Pp E ex wd))) H := hP
  have hD : va_D (fun q => s.heap.size ≤ q) (wL (lb (kB cI cC cS ob a dd o x u1.1.1 u1.1.2.1 u1.1.2.2.1 u1.1.2.2.2 u1.2.2 u1.2.1.1 u1.2.1.2.1 u1.2.1.2.2.1 u1.2.1.2.2.2 f) (mB cI cB ma g lf np L f Pp E ex wd))) := hD
  refine lv_aload_n hx hb dL_law_354 rfl (lv_at hl 2 rfl) ?_
  refine lw_wi (As := []) (rest := [.int r1]) (tys := TYS cI cC cB cS) (ci := 7) (fun u => lb (kB cI cC cS ob a dd o x u1.1.1 u1.1.2.1 u1.1.2.2.1 u1.1.2.2.2 u1.2.2 u1.2.1.1 u1.2.1.2.1 u1.2.1.2.2.1 u1.2.1.2.2.2 f) (mB cI cB ma u.1.1 u.1.2.1 u.1.2.2.1 u.2.1 f u.1.2.2.2.2.2 u.2.2.2 (exF u.2.2.1) u.2.2.1.2.2.2.2)) ⟨hx, hb, hml, hown, hts⟩ (c_X7_load l D cI cC cB cS _ ma (fiF np L ex) wd L f g lf (ex 2) (ex 3) (ex 4) (ex 5) n q tn tu np Pp hs lfs E hLb hch hI.nums hnp hPR) (cwV 0 hts gL_law_X7_load rfl rfl rfl (by decide +kernel) ⟨Nat.le_of_ble_eq_true rfl, Nat.le_of_ble_eq_true rfl⟩) hK hP hD hS hA [6, 7, 8, 9, 10] [0, 1, 2, 3, 4, 5] (by decide) rfl (fun u => rfl) (fun u => rfl) rfl rfl rfl rfl hl.1 (Nat.le_of_ble_eq_true rfl) dL_law_355 ⟨hcl, hsl⟩ (fun r2 u2 H locs h2 hP hD hS => ?_)
  have hP : va_P D vwCl (wL (lb (kB cI cC cS ob a dd o x u1.1.1 u1.1.2.1 u1.1.2.2.1 u1.1.2.2.2 u1.2.2 u1.2.1.1 u1.2.1.2.1 u1.2.1.2.2.1 u1.2.1.2.2.2 f) (mB cI cB ma u2.1.1 u2.1.2.1 u2.1.2.2.1 u2.2.1 f u2.1.2.2.2.2.2 u2.2.2.2 (exF u2.2.2.1) u2.2.2.1.2.2.2.2))) H := hP
  have hD : va_D (fun q => s.heap.size ≤ q) (wL (lb (kB cI cC cS ob a dd o x u1.1.1 u1.1.2.1 u1.1.2.2.1 u1.1.2.2.2 u1.2.2 u1.2.1.1 u1.2.1.2.1 u1.2.1.2.2.1 u1.2.1.2.2.2 f) (mB cI cB ma u2.1.1 u2.1.2.1 u2.1.2.2.1 u2.2.1 f u2.1.2.2.2.2.2 u2.2.2.2 (exF u2.2.2.1) u2.2.2.1.2.2.2.2))) := hD
  obtain ⟨hrr, e1, e2, e3, hL2⟩ := load_both hL h1 h2
  subst hrr
  rw [e1, e2, e3] at hP hD
  refine lv_icmp_eq (tgt := 910) hx hb dL_law_358 (by decide) (fun _ => ?_) (fun q => absurd rfl q)
  exact kk _ _ _ _ _ _ _ _ _ _ _ _ _ _ _ _ _ _ hL2 hP hD hS
set_option maxHeartbeats 4000000 in
set_option maxRecDepth 100000 in
theorem lc_reserve (hC : LC p s m c D cI cC cB cS tL tG aK aV bs Lx xs) (hl : lv_has ls 4 [(0, .ref bs), (1, .ref ob), (2, .ref (ma 0)), (3, .int (nI i))]) (hi : i + 5 ≤ Lx) (hcl : cells ≤ 600000) (hsl : slots ≤ 7302250) (hL : LSt g lf np hs lfs Pp L f) (hP : va_P D vwCl (wL (lb (kB cI cC cS ob a dd o x g np b hs dg L tk ts te f) (mB cI cB ma g lf np L f Pp E ex wd))) H) (hD : va_D (fun q => s.heap.size ≤ q) (wL (lb (kB cI cC cS ob a dd o x g np b hs dg L tk ts te f) (mB cI cB ma g lf np L f Pp E ex wd)))) (hS : va_S (fun q => s.heap.size ≤ q) s.heap H locs) (kk : KK p l e s m below meth c bs cells slots Q D cI cC cB cS ob a dd o x ma 910 ls) : W p l e room_1 s m #[Value.ref bs] below meth c H locs cells slots Q (F0 m 363 ls []) := by
  obtain ⟨hx, hb, hml, hown, hts, hX, hbl, hK, hZ, hLx⟩ := hC
  have hl2 : lv_has ls 4 [(0, .ref bs), (3, .int (nI i)), (1, .ref ob)] := lv_sub hl [0, 3, 1] rfl
  have hA : ∀ q : Nat, s.heap.size ≤ q → (fun q : Nat => s.heap.size ≤ q) q := fun _ h => h
  have hbA : ¬ (fun q : Nat => s.heap.size ≤ q) bs := Nat.not_le.mpr hbl
  obtain ⟨⟨n, q, tn, tu, T, hI⟩, hnp, hh, hPR, hLb, hch⟩ := id hL
  have hn31 : n < 2 ^ 31 := by have := hI.hnb; omega
  have hq31 : q < 2 ^ 31 := by have := hI.hqc; omega
  refine lv_aload_n hx hb dL_law_363 rfl (lv_at hl 1 rfl) ?_
  refine ls_arg hx hb hl2 hX hbl hbA hS 1 (by decide) hi hLx dL_law_364 dL_law_365 dL_law_366 dL_law_367 dL_law_368 ?_
  refine ls_arg hx hb hl2 hX hbl hbA hS 2 (by decide) hi hLx dL_law_369 dL_law_370 dL_law_371 dL_law_372 dL_law_373 ?_
  refine ls_arg hx hb hl2 hX hbl hbA hS 3 (by decide) hi hLx dL_law_374 dL_law_375 dL_law_376 dL_law_377 dL_law_378 ?_
  refine ls_arg hx hb hl2 hX hbl hbA hS 4 (by decide) hi hLx dL_law_379 dL_law_380 dL_law_381 dL_law_382 dL_law_383 ?_
  refine lw_wi (As := [.int (xs (i + 1)), .int (xs (i + 2)), .int (xs (i + 3)), .int (xs (i + 4))]) (rest := []) (tys := TYS cI cC cB cS) (ci := 6) (fun u => lb (kB cI cC cS ob a dd o x u.1 u.2.1 u.2.2.1 u.2.2.2 dg L tk ts te f) (mB cI cB ma g lf np L f Pp E ex wd)) ⟨hx, hb, hml, hown, hts⟩ (c_X6_reserve l D cI cC cB cS _ a g ob (dd 0) (x 0) o b hs np n q tn (xs (i + 1)) (xs (i + 2)) (xs (i + 3)) (xs (i + 4)) hnp hI.hn hI.hnb hI.hq hI.hqc hI.ht hI.htb hI.hts1) (cwV 4 hts gL_law_X6_reserve rfl rfl rfl (by decide +kernel) ⟨Nat.le_of_ble_eq_true rfl, Nat.le_of_ble_eq_true rfl⟩) hK hP hD hS hA [0, 1, 2, 5] [3, 4, 6, 7, 8, 9, 10] (by decide) (ap4 _ _ _ _) (fun u => ap4 _ _ _ _) (fun u => rfl) rfl rfl rfl rfl hl.1 (Nat.le_of_ble_eq_true rfl) dL_law_384 ⟨hcl, hsl⟩ (fun r1 u1 H locs h1 hP hD hS => ?_)
  obtain ⟨g1, np1, b1, hs1⟩ := u1
  have hP : va_P D vwCl (wL (lb (kB cI cC cS ob a dd o x g1 np1 b1 hs1 dg L tk ts te f) (mB cI cB ma g lf np L f Pp E ex wd))) H := hP
  have hD : va_D (fun q => s.heap.size ≤ q) (wL (lb (kB cI cC cS ob a dd o x g1 np1 b1 hs1 dg L tk ts te f) (mB cI cB ma g lf np L f Pp E ex wd))) := hD
  obtain ⟨o1, h1, s1⟩ := h1
  refine lv_aload_n hx hb dL_law_387 rfl (lv_at hl 2 rfl) ?_
  refine ls_arg hx hb hl2 hX hbl hbA hS 1 (by decide) hi hLx dL_law_388 dL_law_389 dL_law_390 dL_law_391 dL_law_392 ?_
  refine ls_arg hx hb hl2 hX hbl hbA hS 2 (by decide) hi hLx dL_law_393 dL_law_394 dL_law_395 dL_law_396 dL_law_397 ?_
  refine ls_arg hx hb hl2 hX hbl hbA hS 3 (by decide) hi hLx dL_law_398 dL_law_399 dL_law_400 dL_law_401 dL_law_402 ?_
  refine ls_arg hx hb hl2 hX hbl hbA hS 4 (by decide) hi hLx dL_law_403 dL_law_404 dL_law_405 dL_law_406 dL_law_407 ?_
  refine lw_wi (As := [.int (xs (i + 1)), .int (xs (i + 2)), .int (xs (i + 3)), .int (xs (i + 4))]) (rest := [.int r1]) (tys := TYS cI cC cB cS) (ci := 7) (fun u => lb (kB cI cC cS ob a dd o x g1 np1 b1 hs1 dg L tk ts te f) (mB cI cB ma u.1 u.2.1 u.2.2.1 L f u.2.2.2.2.2 E ex wd)) ⟨hx, hb, hml, hown, hts⟩ (c_X7_reserve l D cI cC cB cS _ ma (fiF np L ex) wd g lf np Pp hs lfs n q tn (xs (i + 1)) (xs (i + 2)) (xs (i + 3)) (xs (i + 4)) hnp hPR hI.hn hI.hnb hI.hq hI.hqc hI.hst hI.ht hI.htb hI.htu) (cwV 4 hts gL_law_X7_reserve rfl rfl rfl (by decide +kernel) ⟨Nat.le_of_ble_eq_true rfl, Nat.le_of_ble_eq_true rfl⟩) hK hP hD hS hA [6, 7, 8] [0, 1, 2, 3, 4, 5, 9, 10] (by decide) rfl (fun u => rfl) (fun u => rfl) rfl rfl rfl rfl hl.1 (Nat.le_of_ble_eq_true rfl) dL_law_408 ⟨hcl, hsl⟩ (fun r2 u2 H locs h2 hP hD hS => ?_)
  obtain ⟨g2, lf2, np2, hs2, lfs2, Pp2⟩ := u2
  have hP : va_P D vwCl (wL (lb (kB cI cC cS ob a dd o x g1 np1 b1 hs1 dg L tk ts te f) (mB cI cB ma g2 lf2 np2 L f Pp2 E ex wd))) H := hP
  have hD : va_D (fun q => s.heap.size ≤ q) (wL (lb (kB cI cC cS ob a dd o x g1 np1 b1 hs1 dg L tk ts te f) (mB cI cB ma g2 lf2 np2 L f Pp2 E ex wd))) := hD
  obtain ⟨o2, h2, s2⟩ := h2
  obtain ⟨hrr, eo⟩ := Oreserve_one h1 h2
  subst eo
  obtain ⟨e1, e2, hL2⟩ := sv_both hL (hI.kreserve h1) s1 s2
  subst hrr
  have e1 : g2 = g1 := e1
  have e2 : np2 = np1 := e2
  subst e1 e2
  refine lv_icmp_eq (tgt := 910) hx hb dL_law_411 (by decide) (fun _ => ?_) (fun q => absurd rfl q)
  exact kk _ _ _ _ _ _ _ _ _ _ _ _ _ _ _ _ _ _ hL2 hP hD hS
end LCASES
