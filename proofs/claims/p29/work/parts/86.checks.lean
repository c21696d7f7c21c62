/-! ===== the law's other checks (laid by wip/p29/gen/seggen.py) ===== -/
section LSEG
variable {p : Program} {l : Launch} {e : Env} {s : State} {m : MethodId} {below : List Frame} {meth : Method} {c : Code} {H : Heap} {locs : List Loc} {cells slots : Nat} {Q : State → Prop} {ls : Array Slot} {D : va_G} {cI cC cB cS : ClassId} {tL tG : Nat} {aK aV : Nat → Nat} {bs Lx : Nat} {xs : Nat → Int32} {ob : Nat} {a dd o x : Nat → Nat}
variable {g : Nat → Nat → Int32} {np : Nat} {b : Nat → Nat → Nat} {hs : Nat → Nat → Nat → Int32} {lf : Int32} {n q tn tu T ee ei k zc zf : Nat} {pv : Int32}
set_option maxHeartbeats 4000000 in
set_option maxRecDepth 100000 in
theorem sg_levels (hC : LC p s m c D cI cC cB cS tL tG aK aV bs Lx xs) (hLK : LK D cI cC cS ob a dd o x g np b hs H cells slots lf n q tn tu T ee) (kk : ∀ (ls : Array Slot) (z : Nat), Cnt (fun w => Fr g q w ∧ ∃ j, j < 5 ∧ g 4 w = nI j) n z → lv_has ls 14 [(0, .ref (bs)), (1, .ref (ob)), (2, .int (nI np)), (3, .int (nI ei)), (8, .int (nI zc)), (9, .int (nI zf)), (10, .int (nI z))] → W p l e room_1 s m #[Value.ref bs] below meth c H locs cells slots Q (F0 m 356 ls [])) : ∀ (d j z : Nat), j ≤ 5 → 5 - j < d → Cnt (fun w => Fr g q w ∧ ∃ i, i < j ∧ g 4 w = nI i) n z → ∀ (ls : Array Slot), lv_has ls 14 [(0, .ref (bs)), (1, .ref (ob)), (2, .int (nI np)), (3, .int (nI ei)), (8, .int (nI zc)), (9, .int (nI zf)), (10, .int (nI z)), (11, .int (nI j))] → W p l e room_1 s m #[Value.ref bs] below meth c H locs cells slots Q (F0 m 332 ls []) := by
  obtain ⟨hx, hb, hml, hown, hts, hX, hbl, hK, hZ, hLx⟩ := id hC
  obtain ⟨hP, hF, hI, hE⟩ := id hLK
  have hP2 := bl_2 hP
  intro d
  induction d with
  | zero => intro j z _ h2; exact absurd h2 (Nat.not_lt_zero _)
  | succ d ih =>
    intro j z hj hd hc ls hl
    refine lv_iload hx hb dL_law_332 (lv_at hl 7 rfl) ?_
    refine lv_iconst (v := 5) hx hb dL_law_334 (by decide) ?_
    refine lv_icmp_ge (tgt := 356) hx hb dL_law_335 (by decide) (fun c1 => ?_) (fun c1 => ?_)
    · have hge : j = 5 := nI_geD (y := 5) rfl hj (by omega) c1
      subst hge
      exact kk _ z hc (lv_sub hl [0, 1, 2, 3, 4, 5, 6] rfl)
    · have hj5 : j < 5 := nI_ltD (y := 5) rfl hj (by omega) c1
      refine lv_iload hx hb dL_law_338 (lv_at hl 6 rfl) ?_
      refine lv_aload_n hx hb dL_law_340 rfl (lv_at hl 1 rfl) ?_
      refine lv_iload hx hb dL_law_341 (lv_at hl 7 rfl) ?_
      refine lv_iconst (v := -1) hx hb dL_law_343 (by decide) ?_
      refine lr_i (As := [.int (nI j), .int (-1)]) (rest := [.int (nI z)]) (tys := TYS cI cC cB cS) (ci := 6) ⟨hx, hb, hml, hown, hts⟩ (c_X6_free l D cI cC cB cS a g ob (dd 0) (o 0) (x 0) n q (nI j) (-1) hI.hn hI.hnb hI.hq hI.hqc) (cwV 2 hts gL_law_X6_free rfl rfl rfl (by decide +kernel) ⟨Nat.le_of_ble_eq_true rfl, Nat.le_of_ble_eq_true rfl⟩) hK hP2 rfl rfl rfl rfl hl.1 (Nat.le_of_ble_eq_true rfl) dL_law_344 hF (fun r1 h1 => ?_)
      obtain ⟨y, hy, e1⟩ := k_fl hI hj5 h1
      subst e1
      refine lv_iadd hx hb dL_law_347 ?_
      rw [nI_add]
      refine lv_istore (lv' := [(10, .int (nI (z + y))), (0, .ref (bs)), (1, .ref (ob)), (2, .int (nI np)), (3, .int (nI ei)), (8, .int (nI zc)), (9, .int (nI zf)), (11, .int (nI j))]) hx hb dL_law_348 hl (by decide) rfl (fun ls hl => ?_)
      refine lv_iinc (v := nI (j + 1)) (lv' := [(11, .int (nI (j + 1))), (10, .int (nI (z + y))), (0, .ref (bs)), (1, .ref (ob)), (2, .int (nI np)), (3, .int (nI ei)), (8, .int (nI zc)), (9, .int (nI zf))]) hx hb dL_law_350 hl (k := 7) rfl (nI_1 _) (by decide) rfl (fun ls hl => ?_)
      refine lv_goto (tgt := 332) hx hb dL_law_353 (by decide) ?_
      exact ih (j + 1) (z + y) hj5 (by omega) (k_fl_s hj5 hc hy) ls (lv_sub hl [2, 3, 4, 5, 6, 7, 1, 0] rfl)
set_option maxHeartbeats 4000000 in
set_option maxRecDepth 100000 in
theorem sg_res1 (hC : LC p s m c D cI cC cB cS tL tG aK aV bs Lx xs) (hLK : LK D cI cC cS ob a dd o x g np b hs H cells slots lf n q tn tu T ee) (hk : k < q) (hl : lv_has ls 14 [(0, .ref (bs)), (1, .ref (ob)), (2, .int (nI np)), (3, .int (nI ei)), (9, .int (nI zf)), (11, .int (nI k))]) (kk : ∀ (ls : Array Slot), lv_has ls 14 [(0, .ref (bs)), (1, .ref (ob)), (2, .int (nI np)), (3, .int (nI ei)), (9, .int (nI zf)), (11, .int (nI k))] → W p l e room_1 s m #[Value.ref bs] below meth c H locs cells slots Q (F0 m 463 ls [])) : W p l e room_1 s m #[Value.ref bs] below meth c H locs cells slots Q (F0 m 388 ls []) := by
  obtain ⟨hx, hb, hml, hown, hts, hX, hbl, hK, hZ, hLx⟩ := id hC
  obtain ⟨hP, hF, hI, hE⟩ := id hLK
  have hP2 := bl_2 hP
  have hP4 := bl_4 hP
  refine lv_aload_n hx hb dL_law_388 rfl (lv_at hl 1 rfl) ?_
  refine lv_iload hx hb dL_law_389 (lv_at hl 5 rfl) ?_
  refine lv_iconst (v := 5) hx hb dL_law_391 (by decide) ?_
  refine lr_i (As := [.int (nI k), .int (5)]) (rest := []) (tys := TYS cI cC cB cS) (ci := 6) ⟨hx, hb, hml, hown, hts⟩ (c_X6_reservation l D cI cC cB cS a g ob (dd 0) (o 0) (x 0) q (nI k) (5) hI.hq hI.hqc) (cwV 2 hts gL_law_X6_reservation rfl rfl rfl (by decide +kernel) ⟨Nat.le_of_ble_eq_true rfl, Nat.le_of_ble_eq_true rfl⟩) hK hP2 rfl rfl rfl rfl hl.1 (Nat.le_of_ble_eq_true rfl) dL_law_392 hF (fun r_1 hr_1 => ?_)
  have er_1 : r_1 = g 18 k := k_r5 hI hk hr_1
  subst er_1
  refine lv_istore (lv' := [(12, .int (g 18 k)), (0, .ref (bs)), (1, .ref (ob)), (2, .int (nI np)), (3, .int (nI ei)), (9, .int (nI zf)), (11, .int (nI k))]) hx hb dL_law_395 hl (by decide) rfl (fun ls hl => ?_)
  refine lv_aload_n hx hb dL_law_397 rfl (lv_at hl 2 rfl) ?_
  refine lv_iload hx hb dL_law_398 (lv_at hl 6 rfl) ?_
  refine lv_iconst (v := 0) hx hb dL_law_400 (by decide) ?_
  refine lr_i (As := [.int (nI k), .int (0)]) (rest := []) (tys := TYS cI cC cB cS) (ci := 6) ⟨hx, hb, hml, hown, hts⟩ (c_X6_reservation l D cI cC cB cS a g ob (dd 0) (o 0) (x 0) q (nI k) (0) hI.hq hI.hqc) (cwV 2 hts gL_law_X6_reservation rfl rfl rfl (by decide +kernel) ⟨Nat.le_of_ble_eq_true rfl, Nat.le_of_ble_eq_true rfl⟩) hK hP2 rfl rfl rfl rfl hl.1 (Nat.le_of_ble_eq_true rfl) dL_law_401 hF (fun r_2 hr_2 => ?_)
  have er_2 : r_2 = g 13 k := k_r0 hI hk hr_2
  subst er_2
  refine lv_istore (lv' := [(13, .int (g 13 k)), (12, .int (g 18 k)), (0, .ref (bs)), (1, .ref (ob)), (2, .int (nI np)), (3, .int (nI ei)), (9, .int (nI zf)), (11, .int (nI k))]) hx hb dL_law_404 hl (by decide) rfl (fun ls hl => ?_)
  refine lv_iload hx hb dL_law_406 (lv_at hl 1 rfl) ?_
  refine lv_iconst (v := 1) hx hb dL_law_408 (by decide) ?_
  refine lv_icmp_ne (tgt := 441) hx hb dL_law_409 (by decide) (fun c_3 => ?_) (fun c_3 => ?_)
  · -- c_3: g 18 k ≠ 1
    refine lv_iload hx hb dL_law_441 (lv_at hl 1 rfl) ?_
    refine lv_if_ne (tgt := 463) hx hb dL_law_443 (by decide) (fun _ => ?_) (fun c0 => ?_)
    · -- not open
      exact kk _ (lv_sub hl [2, 3, 4, 5, 6, 7] rfl)
    · -- open
      have h0 : g 18 k = 0 := c0
      refine lv_aload_n hx hb dL_law_446 rfl (lv_at hl 3 rfl) ?_
      refine lv_iload hx hb dL_law_447 (lv_at hl 7 rfl) ?_
      refine lv_iconst (v := 3) hx hb dL_law_449 (by decide) ?_
      refine lr_i (As := [.int (nI k), .int (3)]) (rest := []) (tys := TYS cI cC cB cS) (ci := 6) ⟨hx, hb, hml, hown, hts⟩ (c_X6_reservation l D cI cC cB cS a g ob (dd 0) (o 0) (x 0) q (nI k) (3) hI.hq hI.hqc) (cwV 2 hts gL_law_X6_reservation rfl rfl rfl (by decide +kernel) ⟨Nat.le_of_ble_eq_true rfl, Nat.le_of_ble_eq_true rfl⟩) hK hP2 rfl rfl rfl rfl hl.1 (Nat.le_of_ble_eq_true rfl) dL_law_450 hF (fun r_4 hr_4 => ?_)
      have er_4 : r_4 = g 16 k := k_r3 hI hk hr_4
      subst er_4
      refine lv_aload_n hx hb dL_law_453 rfl (lv_at hl 3 rfl) ?_
      refine lv_iconst (v := 5) hx hb dL_law_454 (by decide) ?_
      refine lr_i (As := [.int (5)]) (rest := [.int (g 16 k)]) (tys := TYS cI cC cB cS) (ci := 6) ⟨hx, hb, hml, hown, hts⟩ (c_X6_count l D cI cC cB cS a g ob (dd 0) (o 0) (x 0) n q (nI 0) (x 1) (nI 0) (nI 0) (nI 0) np (o 1) (5) hI.hn hI.hnb hI.hq hI.hqc) (cwV 1 hts gL_law_X6_count rfl rfl rfl (by decide +kernel) ⟨Nat.le_of_ble_eq_true rfl, Nat.le_of_ble_eq_true rfl⟩) hK hP4 rfl rfl rfl rfl hl.1 (Nat.le_of_ble_eq_true rfl) dL_law_455 hF (fun r_5 hr_5 => ?_)
      have er_5 : r_5 = g 0 0 := k_c5 hr_5
      subst er_5
      refine lv_icmp_gt (tgt := 463) hx hb dL_law_458 (by decide) (fun _ => ?_) (fun q9 => absurd (hE.x12 k hk h0) q9)
      exact kk _ (lv_sub hl [2, 3, 4, 5, 6, 7] rfl)
  · -- c_3: not g 18 k ≠ 1
    have h1 : g 18 k = 1 := c_3
    obtain ⟨w, hw, ew, h8, e8, e11⟩ := hE.x11 k hk h1
    rw [← e8] at hl
    refine lv_aload_n hx hb dL_law_412 rfl (lv_at hl 3 rfl) ?_
    refine lv_iload hx hb dL_law_413 (lv_at hl 0 rfl) ?_
    refine lv_iconst (v := 3) hx hb dL_law_415 (by decide) ?_
    refine lr_i (As := [.int (g 8 w), .int (3)]) (rest := []) (tys := TYS cI cC cB cS) (ci := 6) ⟨hx, hb, hml, hown, hts⟩ (c_X6_car l D cI cC cB cS a g ob (dd 0) (o 0) (x 0) n q tn tu (g 8 w) (3) hI.hn hI.hnb hI.hq hI.hqc hI.ht hI.htb hI.hts1 hI.hu hI.hub hI.hus1) (cwV 2 hts gL_law_X6_car rfl rfl rfl (by decide +kernel) ⟨Nat.le_of_ble_eq_true rfl, Nat.le_of_ble_eq_true rfl⟩) hK hP2 rfl rfl rfl rfl hl.1 (Nat.le_of_ble_eq_true rfl) dL_law_416 hF (fun r_6 hr_6 => ?_)
    have er_6 : r_6 = nI k := (k_k3 hI hE hw h8 hr_6).trans e11
    subst er_6
    refine lv_iload hx hb dL_law_419 (lv_at hl 7 rfl) ?_
    refine lv_icmp_ne (tgt := 461) hx hb dL_law_421 (by decide) (fun q9 => absurd (rfl) q9) (fun _ => ?_)
    refine lv_aload_n hx hb dL_law_424 rfl (lv_at hl 3 rfl) ?_
    refine lv_iload hx hb dL_law_425 (lv_at hl 0 rfl) ?_
    refine lv_iconst (v := 2) hx hb dL_law_427 (by decide) ?_
    refine lr_i (As := [.int (g 8 w), .int (2)]) (rest := []) (tys := TYS cI cC cB cS) (ci := 6) ⟨hx, hb, hml, hown, hts⟩ (c_X6_car l D cI cC cB cS a g ob (dd 0) (o 0) (x 0) n q tn tu (g 8 w) (2) hI.hn hI.hnb hI.hq hI.hqc hI.ht hI.htb hI.hts1 hI.hu hI.hub hI.hus1) (cwV 2 hts gL_law_X6_car rfl rfl rfl (by decide +kernel) ⟨Nat.le_of_ble_eq_true rfl, Nat.le_of_ble_eq_true rfl⟩) hK hP2 rfl rfl rfl rfl hl.1 (Nat.le_of_ble_eq_true rfl) dL_law_428 hF (fun r_7 hr_7 => ?_)
    have er_7 : r_7 = nI w := k_k2 hI hE hw h8 hr_7
    subst er_7
    refine lv_aload_n hx hb dL_law_431 rfl (lv_at hl 3 rfl) ?_
    refine lv_iload hx hb dL_law_432 (lv_at hl 7 rfl) ?_
    refine lv_iconst (v := 1) hx hb dL_law_434 (by decide) ?_
    refine lr_i (As := [.int (nI k), .int (1)]) (rest := [.int (nI w)]) (tys := TYS cI cC cB cS) (ci := 6) ⟨hx, hb, hml, hown, hts⟩ (c_X6_reservation l D cI cC cB cS a g ob (dd 0) (o 0) (x 0) q (nI k) (1) hI.hq hI.hqc) (cwV 2 hts gL_law_X6_reservation rfl rfl rfl (by decide +kernel) ⟨Nat.le_of_ble_eq_true rfl, Nat.le_of_ble_eq_true rfl⟩) hK hP2 rfl rfl rfl rfl hl.1 (Nat.le_of_ble_eq_true rfl) dL_law_435 hF (fun r_8 hr_8 => ?_)
    have er_8 : r_8 = nI w := (k_r1 hI hk hr_8).trans ew
    subst er_8
    refine lv_icmp_ne (tgt := 461) hx hb dL_law_438 (by decide) (fun q9 => absurd (rfl) q9) (fun _ => ?_)
    refine lv_iload hx hb dL_law_441 (lv_at hl 1 rfl) ?_
    refine lv_if_ne (tgt := 463) hx hb dL_law_443 (by decide) (fun _ => ?_) (fun q9 => absurd q9 (by rw [h1]; decide))
    exact kk _ (lv_sub hl [2, 3, 4, 5, 6, 7] rfl)
set_option maxHeartbeats 4000000 in
set_option maxRecDepth 100000 in
theorem sg_res (hC : LC p s m c D cI cC cB cS tL tG aK aV bs Lx xs) (hLK : LK D cI cC cS ob a dd o x g np b hs H cells slots lf n q tn tu T ee) (kk : ∀ (ls : Array Slot), lv_has ls 14 [(0, .ref (bs)), (1, .ref (ob)), (2, .int (nI np)), (3, .int (nI ei)), (9, .int (nI zf))] → W p l e room_1 s m #[Value.ref bs] below meth c H locs cells slots Q (F0 m 469 ls [])) : ∀ (d k : Nat), k ≤ q → q - k < d → ∀ (ls : Array Slot), lv_has ls 14 [(0, .ref (bs)), (1, .ref (ob)), (2, .int (nI np)), (3, .int (nI ei)), (9, .int (nI zf)), (11, .int (nI k))] → W p l e room_1 s m #[Value.ref bs] below meth c H locs cells slots Q (F0 m 378 ls []) := by
  obtain ⟨hx, hb, hml, hown, hts, hX, hbl, hK, hZ, hLx⟩ := id hC
  obtain ⟨hP, hF, hI, hE⟩ := id hLK
  have hP4 := bl_4 hP
  intro d
  induction d with
  | zero => intro k _ h2; exact absurd h2 (Nat.not_lt_zero _)
  | succ d ih =>
    intro k hkq hd ls hl
    refine lv_iload hx hb dL_law_378 (lv_at hl 5 rfl) ?_
    refine lv_aload_n hx hb dL_law_380 rfl (lv_at hl 1 rfl) ?_
    refine lv_iconst (v := 1) hx hb dL_law_381 (by decide) ?_
    refine lr_i (As := [.int (1)]) (rest := [.int (nI k)]) (tys := TYS cI cC cB cS) (ci := 6) ⟨hx, hb, hml, hown, hts⟩ (c_X6_count l D cI cC cB cS a g ob (dd 0) (o 0) (x 0) n q (nI 0) (x 1) (nI 0) (nI 0) (nI 0) np (o 1) (1) hI.hn hI.hnb hI.hq hI.hqc) (cwV 1 hts gL_law_X6_count rfl rfl rfl (by decide +kernel) ⟨Nat.le_of_ble_eq_true rfl, Nat.le_of_ble_eq_true rfl⟩) hK hP4 rfl rfl rfl rfl hl.1 (Nat.le_of_ble_eq_true rfl) dL_law_382 hF (fun r1 h1 => ?_)
    have e1 := k_c1 h1
    subst e1
    refine lv_icmp_ge (tgt := 469) hx hb dL_law_385 (by decide) (fun c1 => ?_) (fun c1 => ?_)
    · exact kk _ (lv_sub hl [0, 1, 2, 3, 4] rfl)
    · have hk : k < q := nI_ltD rfl hkq hI.q31 c1
      refine sg_res1 hC hLK hk hl (fun ls hl => ?_)
      refine lv_iinc (v := nI (k + 1)) (lv' := [(11, .int (nI (k + 1))), (0, .ref (bs)), (1, .ref (ob)), (2, .int (nI np)), (3, .int (nI ei)), (9, .int (nI zf))]) hx hb dL_law_463 hl (k := 5) rfl (nI_1 _) (by decide) rfl (fun ls hl => ?_)
      refine lv_goto (tgt := 378) hx hb dL_law_466 (by decide) ?_
      exact ih (k + 1) hk (by omega) ls (lv_sub hl [1, 2, 3, 4, 5, 0] rfl)
set_option maxHeartbeats 4000000 in
set_option maxRecDepth 100000 in
theorem sg_end (hC : LC p s m c D cI cC cB cS tL tG aK aV bs Lx xs) (hLK : LK D cI cC cS ob a dd o x g np b hs H cells slots lf n q tn tu T ee) (hzf : Cnt (fun w => Fr g q w) n zf) (hl : lv_has ls 14 [(0, .ref (bs)), (1, .ref (ob)), (2, .int (nI np)), (3, .int (nI ei)), (9, .int (nI zf))]) (kk : ∀ (ls : Array Slot), lv_has ls 14 [(0, .ref (bs)), (1, .ref (ob)), (2, .int (nI np)), (3, .int (nI ei))] → W p l e room_1 s m #[Value.ref bs] below meth c H locs cells slots Q (F0 m 532 ls [])) : W p l e room_1 s m #[Value.ref bs] below meth c H locs cells slots Q (F0 m 469 ls []) := by
  obtain ⟨hx, hb, hml, hown, hts, hX, hbl, hK, hZ, hLx⟩ := id hC
  obtain ⟨hP, hF, hI, hE⟩ := id hLK
  have hP2 := bl_2 hP
  have hP4 := bl_4 hP
  refine lv_aload_n hx hb dL_law_469 rfl (lv_at hl 1 rfl) ?_
  refine lv_iconst (v := 0) hx hb dL_law_470 (by decide) ?_
  refine lr_i (As := [.int (0)]) (rest := []) (tys := TYS cI cC cB cS) (ci := 6) ⟨hx, hb, hml, hown, hts⟩ (c_X6_nearest l D cI cC cB cS a g ob (dd 0) (o 0) (x 0) n q (0) hI.hn hI.hnb hI.hq hI.hqc) (cwV 1 hts gL_law_X6_nearest rfl rfl rfl (by decide +kernel) ⟨Nat.le_of_ble_eq_true rfl, Nat.le_of_ble_eq_true rfl⟩) hK hP2 rfl rfl rfl rfl hl.1 (Nat.le_of_ble_eq_true rfl) dL_law_471 hF (fun r_1 hr_1 => ?_)
  rcases k_ne hI hzf hr_1 with ⟨er_1, ez⟩ | ⟨⟨w, hw, er_1⟩, hz⟩
  · subst er_1 ez
    refine lv_istore (lv' := [(11, .int (-9)), (0, .ref (bs)), (1, .ref (ob)), (2, .int (nI np)), (3, .int (nI ei)), (9, .int (nI 0))]) hx hb dL_law_474 hl (by decide) rfl (fun ls hl => ?_)
    refine lv_iload hx hb dL_law_476 (lv_at hl 0 rfl) ?_
    refine lv_if_lt (tgt := 485) hx hb dL_law_478 (by decide) (fun _ => ?_) (fun q9 => absurd (by decide) q9)
    refine lv_iconst (v := 0) hx hb dL_law_485 (by decide) ?_
    refine lv_iload hx hb dL_law_486 (lv_at hl 5 rfl) ?_
    refine lv_if_le (tgt := 495) hx hb dL_law_488 (by decide) (fun _ => ?_) (fun q9 => absurd (by decide) q9)
    refine lv_iconst (v := 0) hx hb dL_law_495 (by decide) ?_
    refine lv_icmp_ne (tgt := 530) hx hb dL_law_496 (by decide) (fun c => absurd c (by decide)) (fun _ => ?_)
    refine lv_aload_n hx hb dL_law_499 rfl (lv_at hl 2 rfl) ?_
    refine lv_iconst (v := -1) hx hb dL_law_500 (by decide) ?_
    refine lr_i (As := [.int (-1)]) (rest := []) (tys := TYS cI cC cB cS) (ci := 6) ⟨hx, hb, hml, hown, hts⟩ (c_X6_account l D cI cC cB cS a g ob (dd 0) (o 0) (x 0) (-1)) (cwV 1 hts gL_law_X6_account rfl rfl rfl (by decide +kernel) ⟨Nat.le_of_ble_eq_true rfl, Nat.le_of_ble_eq_true rfl⟩) hK hP2 rfl rfl rfl rfl hl.1 (Nat.le_of_ble_eq_true rfl) dL_law_501 hF (fun r_2 hr_2 => ?_)
    have er_2 : r_2 = 0 + g 2 0 + g 2 1 + g 2 2 + g 2 3 := k_am hr_2
    subst er_2
    refine lv_aload_n hx hb dL_law_504 rfl (lv_at hl 2 rfl) ?_
    refine lv_iconst (v := 0) hx hb dL_law_505 (by decide) ?_
    refine lr_i (As := [.int (0)]) (rest := [.int (0 + g 2 0 + g 2 1 + g 2 2 + g 2 3)]) (tys := TYS cI cC cB cS) (ci := 6) ⟨hx, hb, hml, hown, hts⟩ (c_X6_account l D cI cC cB cS a g ob (dd 0) (o 0) (x 0) (0)) (cwV 1 hts gL_law_X6_account rfl rfl rfl (by decide +kernel) ⟨Nat.le_of_ble_eq_true rfl, Nat.le_of_ble_eq_true rfl⟩) hK hP2 rfl rfl rfl rfl hl.1 (Nat.le_of_ble_eq_true rfl) dL_law_506 hF (fun r_3 hr_3 => ?_)
    have er_3 : r_3 = g 2 0 := k_a0 hr_3
    subst er_3
    refine lv_aload_n hx hb dL_law_509 rfl (lv_at hl 2 rfl) ?_
    refine lv_iconst (v := 1) hx hb dL_law_510 (by decide) ?_
    refine lr_i (As := [.int (1)]) (rest := [.int (g 2 0), .int (0 + g 2 0 + g 2 1 + g 2 2 + g 2 3)]) (tys := TYS cI cC cB cS) (ci := 6) ⟨hx, hb, hml, hown, hts⟩ (c_X6_account l D cI cC cB cS a g ob (dd 0) (o 0) (x 0) (1)) (cwV 1 hts gL_law_X6_account rfl rfl rfl (by decide +kernel) ⟨Nat.le_of_ble_eq_true rfl, Nat.le_of_ble_eq_true rfl⟩) hK hP2 rfl rfl rfl rfl hl.1 (Nat.le_of_ble_eq_true rfl) dL_law_511 hF (fun r_4 hr_4 => ?_)
    have er_4 : r_4 = g 2 1 := k_a1 hr_4
    subst er_4
    refine lv_iadd hx hb dL_law_514 ?_
    refine lv_aload_n hx hb dL_law_515 rfl (lv_at hl 2 rfl) ?_
    refine lv_iconst (v := 2) hx hb dL_law_516 (by decide) ?_
    refine lr_i (As := [.int (2)]) (rest := [.int ((g 2 0) + (g 2 1)), .int (0 + g 2 0 + g 2 1 + g 2 2 + g 2 3)]) (tys := TYS cI cC cB cS) (ci := 6) ⟨hx, hb, hml, hown, hts⟩ (c_X6_account l D cI cC cB cS a g ob (dd 0) (o 0) (x 0) (2)) (cwV 1 hts gL_law_X6_account rfl rfl rfl (by decide +kernel) ⟨Nat.le_of_ble_eq_true rfl, Nat.le_of_ble_eq_true rfl⟩) hK hP2 rfl rfl rfl rfl hl.1 (Nat.le_of_ble_eq_true rfl) dL_law_517 hF (fun r_5 hr_5 => ?_)
    have er_5 : r_5 = g 2 2 := k_a2 hr_5
    subst er_5
    refine lv_iadd hx hb dL_law_520 ?_
    refine lv_aload_n hx hb dL_law_521 rfl (lv_at hl 2 rfl) ?_
    refine lv_iconst (v := 3) hx hb dL_law_522 (by decide) ?_
    refine lr_i (As := [.int (3)]) (rest := [.int (((g 2 0) + (g 2 1)) + (g 2 2)), .int (0 + g 2 0 + g 2 1 + g 2 2 + g 2 3)]) (tys := TYS cI cC cB cS) (ci := 6) ⟨hx, hb, hml, hown, hts⟩ (c_X6_account l D cI cC cB cS a g ob (dd 0) (o 0) (x 0) (3)) (cwV 1 hts gL_law_X6_account rfl rfl rfl (by decide +kernel) ⟨Nat.le_of_ble_eq_true rfl, Nat.le_of_ble_eq_true rfl⟩) hK hP2 rfl rfl rfl rfl hl.1 (Nat.le_of_ble_eq_true rfl) dL_law_523 hF (fun r_6 hr_6 => ?_)
    have er_6 : r_6 = g 2 3 := k_a3 hr_6
    subst er_6
    refine lv_iadd hx hb dL_law_526 ?_
    refine lv_icmp_eq (tgt := 532) hx hb dL_law_527 (by decide) (fun _ => ?_) (fun q9 => absurd (by rw [Int32.zero_add]) q9)
    exact kk _ (lv_sub hl [1, 2, 3, 4] rfl)
  · subst er_1
    refine lv_istore (lv' := [(11, .int (nI w)), (0, .ref (bs)), (1, .ref (ob)), (2, .int (nI np)), (3, .int (nI ei)), (9, .int (nI zf))]) hx hb dL_law_474 hl (by decide) rfl (fun ls hl => ?_)
    refine lv_iload hx hb dL_law_476 (lv_at hl 0 rfl) ?_
    refine lv_if_lt (tgt := 485) hx hb dL_law_478 (by decide) (fun q9 => absurd q9 (nI_pos (by have := hI.n31; omega))) (fun _ => ?_)
    refine lv_iconst (v := 1) hx hb dL_law_481 (by decide) ?_
    refine lv_goto (tgt := 486) hx hb dL_law_482 (by decide) ?_
    refine lv_iload hx hb dL_law_486 (lv_at hl 5 rfl) ?_
    refine lv_if_le (tgt := 495) hx hb dL_law_488 (by decide) (fun q9 => absurd q9 (nI_nle hz (by have := hI.n31; have := hzf.le; omega))) (fun _ => ?_)
    refine lv_iconst (v := 1) hx hb dL_law_491 (by decide) ?_
    refine lv_goto (tgt := 496) hx hb dL_law_492 (by decide) ?_
    refine lv_icmp_ne (tgt := 530) hx hb dL_law_496 (by decide) (fun c => absurd c (by decide)) (fun _ => ?_)
    refine lv_aload_n hx hb dL_law_499 rfl (lv_at hl 2 rfl) ?_
    refine lv_iconst (v := -1) hx hb dL_law_500 (by decide) ?_
    refine lr_i (As := [.int (-1)]) (rest := []) (tys := TYS cI cC cB cS) (ci := 6) ⟨hx, hb, hml, hown, hts⟩ (c_X6_account l D cI cC cB cS a g ob (dd 0) (o 0) (x 0) (-1)) (cwV 1 hts gL_law_X6_account rfl rfl rfl (by decide +kernel) ⟨Nat.le_of_ble_eq_true rfl, Nat.le_of_ble_eq_true rfl⟩) hK hP2 rfl rfl rfl rfl hl.1 (Nat.le_of_ble_eq_true rfl) dL_law_501 hF (fun r_7 hr_7 => ?_)
    have er_7 : r_7 = 0 + g 2 0 + g 2 1 + g 2 2 + g 2 3 := k_am hr_7
    subst er_7
    refine lv_aload_n hx hb dL_law_504 rfl (lv_at hl 2 rfl) ?_
    refine lv_iconst (v := 0) hx hb dL_law_505 (by decide) ?_
    refine lr_i (As := [.int (0)]) (rest := [.int (0 + g 2 0 + g 2 1 + g 2 2 + g 2 3)]) (tys := TYS cI cC cB cS) (ci := 6) ⟨hx, hb, hml, hown, hts⟩ (c_X6_account l D cI cC cB cS a g ob (dd 0) (o 0) (x 0) (0)) (cwV 1 hts gL_law_X6_account rfl rfl rfl (by decide +kernel) ⟨Nat.le_of_ble_eq_true rfl, Nat.le_of_ble_eq_true rfl⟩) hK hP2 rfl rfl rfl rfl hl.1 (Nat.le_of_ble_eq_true rfl) dL_law_506 hF (fun r_8 hr_8 => ?_)
    have er_8 : r_8 = g 2 0 := k_a0 hr_8
    subst er_8
    refine lv_aload_n hx hb dL_law_509 rfl (lv_at hl 2 rfl) ?_
    refine lv_iconst (v := 1) hx hb dL_law_510 (by decide) ?_
    refine lr_i (As := [.int (1)]) (rest := [.int (g 2 0), .int (0 + g 2 0 + g 2 1 + g 2 2 + g 2 3)]) (tys := TYS cI cC cB cS) (ci := 6) ⟨hx, hb, hml, hown, hts⟩ (c_X6_account l D cI cC cB cS a g ob (dd 0) (o 0) (x 0) (1)) (cwV 1 hts gL_law_X6_account rfl rfl rfl (by decide +kernel) ⟨Nat.le_of_ble_eq_true rfl, Nat.le_of_ble_eq_true rfl⟩) hK hP2 rfl rfl rfl rfl hl.1 (Nat.le_of_ble_eq_true rfl) dL_law_511 hF (fun r_9 hr_9 => ?_)
    have er_9 : r_9 = g 2 1 := k_a1 hr_9
    subst er_9
    refine lv_iadd hx hb dL_law_514 ?_
    refine lv_aload_n hx hb dL_law_515 rfl (lv_at hl 2 rfl) ?_
    refine lv_iconst (v := 2) hx hb dL_law_516 (by decide) ?_
    refine lr_i (As := [.int (2)]) (rest := [.int ((g 2 0) + (g 2 1)), .int (0 + g 2 0 + g 2 1 + g 2 2 + g 2 3)]) (tys := TYS cI cC cB cS) (ci := 6) ⟨hx, hb, hml, hown, hts⟩ (c_X6_account l D cI cC cB cS a g ob (dd 0) (o 0) (x 0) (2)) (cwV 1 hts gL_law_X6_account rfl rfl rfl (by decide +kernel) ⟨Nat.le_of_ble_eq_true rfl, Nat.le_of_ble_eq_true rfl⟩) hK hP2 rfl rfl rfl rfl hl.1 (Nat.le_of_ble_eq_true rfl) dL_law_517 hF (fun r_10 hr_10 => ?_)
    have er_10 : r_10 = g 2 2 := k_a2 hr_10
    subst er_10
    refine lv_iadd hx hb dL_law_520 ?_
    refine lv_aload_n hx hb dL_law_521 rfl (lv_at hl 2 rfl) ?_
    refine lv_iconst (v := 3) hx hb dL_law_522 (by decide) ?_
    refine lr_i (As := [.int (3)]) (rest := [.int (((g 2 0) + (g 2 1)) + (g 2 2)), .int (0 + g 2 0 + g 2 1 + g 2 2 + g 2 3)]) (tys := TYS cI cC cB cS) (ci := 6) ⟨hx, hb, hml, hown, hts⟩ (c_X6_account l D cI cC cB cS a g ob (dd 0) (o 0) (x 0) (3)) (cwV 1 hts gL_law_X6_account rfl rfl rfl (by decide +kernel) ⟨Nat.le_of_ble_eq_true rfl, Nat.le_of_ble_eq_true rfl⟩) hK hP2 rfl rfl rfl rfl hl.1 (Nat.le_of_ble_eq_true rfl) dL_law_523 hF (fun r_11 hr_11 => ?_)
    have er_11 : r_11 = g 2 3 := k_a3 hr_11
    subst er_11
    refine lv_iadd hx hb dL_law_526 ?_
    refine lv_icmp_eq (tgt := 532) hx hb dL_law_527 (by decide) (fun _ => ?_) (fun q9 => absurd (by rw [Int32.zero_add]) q9)
    exact kk _ (lv_sub hl [1, 2, 3, 4] rfl)
set_option maxHeartbeats 4000000 in
set_option maxRecDepth 100000 in
theorem sg_all (hC : LC p s m c D cI cC cB cS tL tG aK aV bs Lx xs) (hLK : LK D cI cC cS ob a dd o x g np b hs H cells slots lf n q tn tu T ee) (hl : lv_has ls 14 [(0, .ref (bs)), (1, .ref (ob)), (2, .int (nI np)), (3, .int (nI ei))]) (kk : ∀ (ls : Array Slot), lv_has ls 14 [(0, .ref (bs)), (1, .ref (ob)), (2, .int (nI np)), (3, .int (nI ei))] → W p l e room_1 s m #[Value.ref bs] below meth c H locs cells slots Q (F0 m 532 ls [])) : W p l e room_1 s m #[Value.ref bs] below meth c H locs cells slots Q (F0 m 120 ls []) := by
  obtain ⟨hx, hb, hml, hown, hts, hX, hbl, hK, hZ, hLx⟩ := id hC
  obtain ⟨hP, hF, hI, hE⟩ := id hLK
  obtain ⟨z, hz, -⟩ := hI.hcnt
  have hP2 := bl_2 hP
  have hP4 := bl_4 hP
  refine lv_aload_n hx hb dL_law_120 rfl (lv_at hl 1 rfl) ?_
  refine lv_bipush (v := 12) hx hb dL_law_121 (by decide) ?_
  refine lr_i (As := [.int (12)]) (rest := []) (tys := TYS cI cC cB cS) (ci := 6) ⟨hx, hb, hml, hown, hts⟩ (c_X6_count l D cI cC cB cS a g ob (dd 0) (o 0) (x 0) n q (nI 0) (x 1) (nI 0) (nI 0) (nI 0) np (o 1) (12) hI.hn hI.hnb hI.hq hI.hqc) (cwV 1 hts gL_law_X6_count rfl rfl rfl (by decide +kernel) ⟨Nat.le_of_ble_eq_true rfl, Nat.le_of_ble_eq_true rfl⟩) hK hP4 rfl rfl rfl rfl hl.1 (Nat.le_of_ble_eq_true rfl) dL_law_123 hF (fun r_1 hr_1 => ?_)
  have er_1 : r_1 = nI np := k_c12 hr_1
  subst er_1
  refine lv_iload_n hx hb dL_law_126 rfl (lv_at hl 2 rfl) ?_
  refine lv_icmp_ne (tgt := 149) hx hb dL_law_127 (by decide) (fun q9 => absurd (rfl) q9) (fun _ => ?_)
  refine lv_aload_n hx hb dL_law_130 rfl (lv_at hl 1 rfl) ?_
  refine lv_iconst (v := 3) hx hb dL_law_131 (by decide) ?_
  refine lr_i (As := [.int (3)]) (rest := []) (tys := TYS cI cC cB cS) (ci := 6) ⟨hx, hb, hml, hown, hts⟩ (c_X6_count l D cI cC cB cS a g ob (dd 0) (o 0) (x 0) n q (nI 0) (x 1) (nI 0) (nI 0) (nI 0) np (o 1) (3) hI.hn hI.hnb hI.hq hI.hqc) (cwV 1 hts gL_law_X6_count rfl rfl rfl (by decide +kernel) ⟨Nat.le_of_ble_eq_true rfl, Nat.le_of_ble_eq_true rfl⟩) hK hP4 rfl rfl rfl rfl hl.1 (Nat.le_of_ble_eq_true rfl) dL_law_132 hF (fun r_2 hr_2 => ?_)
  have er_2 : r_2 = nI z := k_c3 hz hr_2
  subst er_2
  refine lv_aload_n hx hb dL_law_135 rfl (lv_at hl 1 rfl) ?_
  refine lv_iconst (v := 4) hx hb dL_law_136 (by decide) ?_
  refine lr_i (As := [.int (4)]) (rest := [.int (nI z)]) (tys := TYS cI cC cB cS) (ci := 6) ⟨hx, hb, hml, hown, hts⟩ (c_X6_count l D cI cC cB cS a g ob (dd 0) (o 0) (x 0) n q (nI 0) (x 1) (nI 0) (nI 0) (nI 0) np (o 1) (4) hI.hn hI.hnb hI.hq hI.hqc) (cwV 1 hts gL_law_X6_count rfl rfl rfl (by decide +kernel) ⟨Nat.le_of_ble_eq_true rfl, Nat.le_of_ble_eq_true rfl⟩) hK hP4 rfl rfl rfl rfl hl.1 (Nat.le_of_ble_eq_true rfl) dL_law_137 hF (fun r_3 hr_3 => ?_)
  have er_3 : r_3 = g 0 1 - nI z := k_c4 hz hr_3
  subst er_3
  refine lv_iadd hx hb dL_law_140 ?_
  refine lv_aload_n hx hb dL_law_141 rfl (lv_at hl 1 rfl) ?_
  refine lv_iconst (v := 2) hx hb dL_law_142 (by decide) ?_
  refine lr_i (As := [.int (2)]) (rest := [.int ((nI z) + (g 0 1 - nI z))]) (tys := TYS cI cC cB cS) (ci := 6) ⟨hx, hb, hml, hown, hts⟩ (c_X6_count l D cI cC cB cS a g ob (dd 0) (o 0) (x 0) n q (nI 0) (x 1) (nI 0) (nI 0) (nI 0) np (o 1) (2) hI.hn hI.hnb hI.hq hI.hqc) (cwV 1 hts gL_law_X6_count rfl rfl rfl (by decide +kernel) ⟨Nat.le_of_ble_eq_true rfl, Nat.le_of_ble_eq_true rfl⟩) hK hP4 rfl rfl rfl rfl hl.1 (Nat.le_of_ble_eq_true rfl) dL_law_143 hF (fun r_4 hr_4 => ?_)
  have er_4 : r_4 = g 0 1 := k_c2 hr_4
  subst er_4
  refine lv_icmp_eq (tgt := 151) hx hb dL_law_146 (by decide) (fun _ => ?_) (fun q9 => absurd (i_addsub _ _) q9)
  refine lv_iconst (v := 0) hx hb dL_law_151 (by decide) ?_
  refine lv_istore (lv' := [(8, .int (0)), (0, .ref (bs)), (1, .ref (ob)), (2, .int (nI np)), (3, .int (nI ei))]) hx hb dL_law_152 hl (by decide) rfl (fun ls hl => ?_)
  refine lv_iconst (v := 0) hx hb dL_law_154 (by decide) ?_
  refine lv_istore (lv' := [(9, .int (0)), (8, .int (0)), (0, .ref (bs)), (1, .ref (ob)), (2, .int (nI np)), (3, .int (nI ei))]) hx hb dL_law_155 hl (by decide) rfl (fun ls hl => ?_)
  refine lv_iconst (v := 0) hx hb dL_law_157 (by decide) ?_
  refine lv_istore (lv' := [(10, .int (0)), (9, .int (0)), (8, .int (0)), (0, .ref (bs)), (1, .ref (ob)), (2, .int (nI np)), (3, .int (nI ei))]) hx hb dL_law_158 hl (by decide) rfl (fun ls hl => ?_)
  refine sg_bays hC hLK (fun ls zc zf hc hf hl => ?_) (n + 1) 0 0 0 (Nat.zero_le _) (by omega) rfl rfl ls (lv_sub hl [3, 4, 5, 6, 2, 1, 0] rfl)
  have ez := hc.one hz
  subst ez
  refine lv_iconst (v := 0) hx hb dL_law_326 (by decide) ?_
  refine lv_istore (lv' := [(10, .int (0)), (0, .ref (bs)), (1, .ref (ob)), (2, .int (nI np)), (3, .int (nI ei)), (8, .int (nI zc)), (9, .int (nI zf))]) hx hb dL_law_327 hl (by decide) rfl (fun ls hl => ?_)
  refine lv_iconst (v := 0) hx hb dL_law_329 (by decide) ?_
  refine lv_istore (lv' := [(11, .int (0)), (10, .int (0)), (0, .ref (bs)), (1, .ref (ob)), (2, .int (nI np)), (3, .int (nI ei)), (8, .int (nI zc)), (9, .int (nI zf))]) hx hb dL_law_330 hl (by decide) rfl (fun ls hl => ?_)
  refine sg_levels hC hLK (fun ls zl hlv hl => ?_) 6 0 0 (Nat.zero_le _) (by omega) k_fl_0 ls (lv_sub hl [2, 3, 4, 5, 6, 7, 1, 0] rfl)
  have ez := k_fl_5 hE hlv hf
  subst ez
  refine lv_iload hx hb dL_law_356 (lv_at hl 4 rfl) ?_
  refine lv_aload_n hx hb dL_law_358 rfl (lv_at hl 1 rfl) ?_
  refine lv_iconst (v := 3) hx hb dL_law_359 (by decide) ?_
  refine lr_i (As := [.int (3)]) (rest := [.int (nI zc)]) (tys := TYS cI cC cB cS) (ci := 6) ⟨hx, hb, hml, hown, hts⟩ (c_X6_count l D cI cC cB cS a g ob (dd 0) (o 0) (x 0) n q (nI 0) (x 1) (nI 0) (nI 0) (nI 0) np (o 1) (3) hI.hn hI.hnb hI.hq hI.hqc) (cwV 1 hts gL_law_X6_count rfl rfl rfl (by decide +kernel) ⟨Nat.le_of_ble_eq_true rfl, Nat.le_of_ble_eq_true rfl⟩) hK hP4 rfl rfl rfl rfl hl.1 (Nat.le_of_ble_eq_true rfl) dL_law_360 hF (fun r_5 hr_5 => ?_)
  have er_5 : r_5 = nI zc := k_c3 hz hr_5
  subst er_5
  refine lv_icmp_ne (tgt := 373) hx hb dL_law_363 (by decide) (fun q9 => absurd (rfl) q9) (fun _ => ?_)
  refine lv_iload hx hb dL_law_366 (lv_at hl 6 rfl) ?_
  refine lv_iload hx hb dL_law_368 (lv_at hl 5 rfl) ?_
  refine lv_icmp_eq (tgt := 375) hx hb dL_law_370 (by decide) (fun _ => ?_) (fun q9 => absurd (rfl) q9)
  refine lv_iconst (v := 0) hx hb dL_law_375 (by decide) ?_
  refine lv_istore (lv' := [(11, .int (0)), (0, .ref (bs)), (1, .ref (ob)), (2, .int (nI np)), (3, .int (nI ei)), (8, .int (nI zc)), (9, .int (nI zl)), (10, .int (nI zl))]) hx hb dL_law_376 hl (by decide) rfl (fun ls hl => ?_)
  refine sg_res hC hLK (fun ls hl => ?_) (q + 1) 0 (Nat.zero_le _) (by omega) ls (lv_sub hl [1, 2, 3, 4, 6, 0] rfl)
  exact sg_end hC hLK hf hl kk
end LSEG
