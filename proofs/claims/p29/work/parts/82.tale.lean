/-! ===== the law's tale: one number of all that a state shows (laid by wip/p29/gen/lawgen.py) ===== -/
theorem cnt_ne {i : Nat} (h : i < 12) : ¬ nI i = 12 := fun e => by have := nI_inj (a := i) (b := 12) (by omega) (by decide) e; omega
set_option maxHeartbeats 8000000 in
set_option maxRecDepth 100000 in
theorem c_L_tale (l : Launch) (D : va_G) (cI cC cB cS : ClassId) (ob : Nat) (a dd o x : Nat → Nat) (g : Nat → Nat → Int32) (np : Nat) (b : Nat → Nat → Nat) (hs : Nat → Nat → Nat → Int32) {lf : Int32} {n q tn tu T : Nat} (hI : Inv g lf n q tn tu T) : Met l yL_tale wsL_tale ({ frames := 6, cells := 0, slots := 0, locals := 134 } : Room) (rdPc D (TYS cI cC cB cS) [.ref ob] (wL (kB cI cC cS ob a dd o x g np b hs))) (vp_Sl (fun r => r = tale g n q tn tu)) 0 0 (fun _ => False) := by
  refine rd_intro (by decide) rfl (Nat.le_of_ble_eq_true rfl) ?_
  intro p e s m below meth c hx hb hr hml hts hown hlocks hP hK ls hl
  have hown : s.vm.findClass RL = some m.cls := hown
  have hl : lv_has ls 5 [(0, .ref (ob))] := hl
  have hP2 := bl_2 hP
  have hP4 := bl_4 hP
  have hn31 : n < 2 ^ 31 := by have := hI.hnb; omega
  have hq31 : q < 2 ^ 31 := by have := hI.hqc; omega
  have htn : tn < 2 ^ 31 := by have := hI.htb; omega
  have htu : tu < 2 ^ 31 := by have := hI.hub; omega
  refine lv_ldc2 (v := 3) hx hb hown (hts (.constantLong RL 8 3) (by decide +kernel)) dL_tale_0 ?_
  refine lv_lstore_n (lv' := [(1, .long (3)), (0, .ref (ob))]) hx hb dL_tale_3 rfl hl (by decide) rfl (fun ls hl => ?_)
  refine lv_iconst (v := 0) hx hb dL_tale_4 (by decide) ?_
  refine lv_istore_n (lv' := [(3, .int (0)), (1, .long (3)), (0, .ref (ob))]) hx hb dL_tale_5 rfl hl (by decide) rfl (fun ls hl => ?_)
  have hloop_i : ∀ (d i : Nat), i ≤ 12 → 12 - i < d → ∀ ls : Array Slot, lv_has ls 5 [(1, .long (i1 g n q i)), (3, .int (nI i)), (0, .ref (ob))] → W p l e ({ frames := 6, cells := 0, slots := 0, locals := 134 } : Room) s m (([.ref ob] : List Value).toArray) below meth c s.heap [] 0 0 (MQ below (vp_Sl (fun r => r = tale g n q tn tu)) (([.ref ob] : List Value).toArray) s 0 0 (fun _ => False)) (F0 m 6 ls []) := by
    intro d
    induction d with
    | zero => intro i _ h2; exact absurd h2 (Nat.not_lt_zero _)
    | succ d ih_i =>
      intro i hi_i hd_i ls hl
      refine lv_iload_n hx hb dL_tale_6 rfl (lv_at hl 1 rfl) ?_
      refine lv_bipush (v := 12) hx hb dL_tale_7 (by decide) ?_
      refine lv_icmp_ge (tgt := 31) hx hb dL_tale_9 (by decide) (fun c_1 => ?_) (fun c_1 => ?_)
      · -- c_1: nI i ≥ 12
        have hge : i = 12 := nI_geD (y := 12) rfl (by omega) (by omega) c_1
        obtain rfl : i = 12 := by omega
        refine lv_iconst (v := 0) hx hb dL_tale_31 (by decide) ?_
        refine lv_istore_n (lv' := [(3, .int (0)), (1, .long (i1 g n q 12)), (0, .ref (ob))]) hx hb dL_tale_32 rfl hl (by decide) rfl (fun ls hl => ?_)
        have hloop_k : ∀ (d k : Nat), k ≤ 8 → 8 - k < d → ∀ ls : Array Slot, lv_has ls 5 [(1, .long (i2 g n q k)), (3, .int (nI k)), (0, .ref (ob))] → W p l e ({ frames := 6, cells := 0, slots := 0, locals := 134 } : Room) s m (([.ref ob] : List Value).toArray) below meth c s.heap [] 0 0 (MQ below (vp_Sl (fun r => r = tale g n q tn tu)) (([.ref ob] : List Value).toArray) s 0 0 (fun _ => False)) (F0 m 33 ls []) := by
          intro d
          induction d with
          | zero => intro k _ h2; exact absurd h2 (Nat.not_lt_zero _)
          | succ d ih_k =>
            intro k hi_k hd_k ls hl
            refine lv_iload_n hx hb dL_tale_33 rfl (lv_at hl 1 rfl) ?_
            refine lv_bipush (v := 8) hx hb dL_tale_34 (by decide) ?_
            refine lv_icmp_ge (tgt := 100) hx hb dL_tale_36 (by decide) (fun c_2 => ?_) (fun c_2 => ?_)
            · -- c_2: nI k ≥ 8
              have hge : k = 8 := nI_geD (y := 8) rfl (by omega) (by omega) c_2
              obtain rfl : k = 8 := by omega
              refine lv_iconst (v := 0) hx hb dL_tale_100 (by decide) ?_
              refine lv_istore_n (lv' := [(3, .int (0)), (1, .long (i2 g n q 8)), (0, .ref (ob))]) hx hb dL_tale_101 rfl hl (by decide) rfl (fun ls hl => ?_)
              have hloop_t : ∀ (d t : Nat), t ≤ 2 → 2 - t < d → ∀ ls : Array Slot, lv_has ls 5 [(1, .long (i3 g n q tn tu t)), (3, .int (nI t)), (0, .ref (ob))] → W p l e ({ frames := 6, cells := 0, slots := 0, locals := 134 } : Room) s m (([.ref ob] : List Value).toArray) below meth c s.heap [] 0 0 (MQ below (vp_Sl (fun r => r = tale g n q tn tu)) (([.ref ob] : List Value).toArray) s 0 0 (fun _ => False)) (F0 m 102 ls []) := by
                intro d
                induction d with
                | zero => intro t _ h2; exact absurd h2 (Nat.not_lt_zero _)
                | succ d ih_t =>
                  intro t hi_t hd_t ls hl
                  refine lv_iload_n hx hb dL_tale_102 rfl (lv_at hl 1 rfl) ?_
                  refine lv_iconst (v := 2) hx hb dL_tale_103 (by decide) ?_
                  refine lv_icmp_ge (tgt := 172) hx hb dL_tale_104 (by decide) (fun c_3 => ?_) (fun c_3 => ?_)
                  · -- c_3: nI t ≥ 2
                    have hge : t = 2 := nI_geD (y := 2) rfl (by omega) (by omega) c_3
                    obtain rfl : t = 2 := by omega
                    refine lv_iconst (v := 1) hx hb dL_tale_172 (by decide) ?_
                    refine lv_istore_n (lv' := [(3, .int (1)), (1, .long (i3 g n q tn tu 2)), (0, .ref (ob))]) hx hb dL_tale_173 rfl hl (by decide) rfl (fun ls hl => ?_)
                    have hloop_y : ∀ (d y : Nat), y ≤ 7 → 7 - y < d → ∀ ls : Array Slot, lv_has ls 5 [(1, .long (i4 g n q tn tu y)), (3, .int (nI (y + 1))), (0, .ref (ob))] → W p l e ({ frames := 6, cells := 0, slots := 0, locals := 134 } : Room) s m (([.ref ob] : List Value).toArray) below meth c s.heap [] 0 0 (MQ below (vp_Sl (fun r => r = tale g n q tn tu)) (([.ref ob] : List Value).toArray) s 0 0 (fun _ => False)) (F0 m 174 ls []) := by
                      intro d
                      induction d with
                      | zero => intro y _ h2; exact absurd h2 (Nat.not_lt_zero _)
                      | succ d ih_y =>
                        intro y hi_y hd_y ls hl
                        refine lv_iload_n hx hb dL_tale_174 rfl (lv_at hl 1 rfl) ?_
                        refine lv_bipush (v := 8) hx hb dL_tale_175 (by decide) ?_
                        refine lv_icmp_ge (tgt := 217) hx hb dL_tale_177 (by decide) (fun c_4 => ?_) (fun c_4 => ?_)
                        · -- c_4: nI (y + 1) ≥ 8
                          have hge : y + 1 = 8 := nI_geD (y := 8) rfl (by omega) (by omega) c_4
                          obtain rfl : y = 7 := by omega
                          refine lv_lload_n hx hb dL_tale_217 rfl (lv_at hl 0 rfl) ?_
                          refine lv_ldc2 (v := 47) hx hb hown (hts (.constantLong RL 42 47) (by decide +kernel)) dL_tale_218 ?_
                          refine lv_aload_n hx hb dL_tale_221 rfl (lv_at hl 2 rfl) ?_
                          refine lv_iconst (v := 0) hx hb dL_tale_222 (by decide) ?_
                          refine lr_i (As := [.int (0)]) (rest := [.long (47), .long (i4 g n q tn tu 7)]) (tys := TYS cI cC cB cS) (ci := 6) ⟨hx, hb, hml, hown, hts⟩ (c_X6_account l D cI cC cB cS a g ob (dd 0) (o 0) (x 0) (0)) (cwV 1 hts gL_tale_X6_account rfl rfl rfl (by decide +kernel) ⟨Nat.le_of_ble_eq_true rfl, Nat.le_of_ble_eq_true rfl⟩) hK hP2 rfl rfl rfl rfl hl.1 (Nat.le_of_ble_eq_true rfl) dL_tale_223 ⟨Nat.le_of_ble_eq_true rfl, Nat.le_of_ble_eq_true rfl⟩ (fun r_5 hr_5 => ?_)
                          have er_5 : r_5 = fA g (0) := fA_eq hr_5
                          subst er_5
                          refine lv_i2l (v := (fA g (0)).toInt64) hx hb dL_tale_226 rfl ?_
                          refine lv_lmul hx hb dL_tale_227 ?_
                          refine lv_ladd hx hb dL_tale_228 ?_
                          refine lv_ldc2 (v := 53) hx hb hown (hts (.constantLong RL 47 53) (by decide +kernel)) dL_tale_229 ?_
                          refine lv_aload_n hx hb dL_tale_232 rfl (lv_at hl 2 rfl) ?_
                          refine lv_iconst (v := 1) hx hb dL_tale_233 (by decide) ?_
                          refine lr_i (As := [.int (1)]) (rest := [.long (53), .long ((i4 g n q tn tu 7) + ((47) * ((fA g (0)).toInt64)))]) (tys := TYS cI cC cB cS) (ci := 6) ⟨hx, hb, hml, hown, hts⟩ (c_X6_account l D cI cC cB cS a g ob (dd 0) (o 0) (x 0) (1)) (cwV 1 hts gL_tale_X6_account rfl rfl rfl (by decide +kernel) ⟨Nat.le_of_ble_eq_true rfl, Nat.le_of_ble_eq_true rfl⟩) hK hP2 rfl rfl rfl rfl hl.1 (Nat.le_of_ble_eq_true rfl) dL_tale_234 ⟨Nat.le_of_ble_eq_true rfl, Nat.le_of_ble_eq_true rfl⟩ (fun r_6 hr_6 => ?_)
                          have er_6 : r_6 = fA g (1) := fA_eq hr_6
                          subst er_6
                          refine lv_i2l (v := (fA g (1)).toInt64) hx hb dL_tale_237 rfl ?_
                          refine lv_lmul hx hb dL_tale_238 ?_
                          refine lv_ladd hx hb dL_tale_239 ?_
                          refine lv_ldc2 (v := 59) hx hb hown (hts (.constantLong RL 49 59) (by decide +kernel)) dL_tale_240 ?_
                          refine lv_aload_n hx hb dL_tale_243 rfl (lv_at hl 2 rfl) ?_
                          refine lv_iconst (v := 2) hx hb dL_tale_244 (by decide) ?_
                          refine lr_i (As := [.int (2)]) (rest := [.long (59), .long (((i4 g n q tn tu 7) + ((47) * ((fA g (0)).toInt64))) + ((53) * ((fA g (1)).toInt64)))]) (tys := TYS cI cC cB cS) (ci := 6) ⟨hx, hb, hml, hown, hts⟩ (c_X6_account l D cI cC cB cS a g ob (dd 0) (o 0) (x 0) (2)) (cwV 1 hts gL_tale_X6_account rfl rfl rfl (by decide +kernel) ⟨Nat.le_of_ble_eq_true rfl, Nat.le_of_ble_eq_true rfl⟩) hK hP2 rfl rfl rfl rfl hl.1 (Nat.le_of_ble_eq_true rfl) dL_tale_245 ⟨Nat.le_of_ble_eq_true rfl, Nat.le_of_ble_eq_true rfl⟩ (fun r_7 hr_7 => ?_)
                          have er_7 : r_7 = fA g (2) := fA_eq hr_7
                          subst er_7
                          refine lv_i2l (v := (fA g (2)).toInt64) hx hb dL_tale_248 rfl ?_
                          refine lv_lmul hx hb dL_tale_249 ?_
                          refine lv_ladd hx hb dL_tale_250 ?_
                          refine lv_ldc2 (v := 61) hx hb hown (hts (.constantLong RL 51 61) (by decide +kernel)) dL_tale_251 ?_
                          refine lv_aload_n hx hb dL_tale_254 rfl (lv_at hl 2 rfl) ?_
                          refine lv_iconst (v := 3) hx hb dL_tale_255 (by decide) ?_
                          refine lr_i (As := [.int (3)]) (rest := [.long (61), .long ((((i4 g n q tn tu 7) + ((47) * ((fA g (0)).toInt64))) + ((53) * ((fA g (1)).toInt64))) + ((59) * ((fA g (2)).toInt64)))]) (tys := TYS cI cC cB cS) (ci := 6) ⟨hx, hb, hml, hown, hts⟩ (c_X6_account l D cI cC cB cS a g ob (dd 0) (o 0) (x 0) (3)) (cwV 1 hts gL_tale_X6_account rfl rfl rfl (by decide +kernel) ⟨Nat.le_of_ble_eq_true rfl, Nat.le_of_ble_eq_true rfl⟩) hK hP2 rfl rfl rfl rfl hl.1 (Nat.le_of_ble_eq_true rfl) dL_tale_256 ⟨Nat.le_of_ble_eq_true rfl, Nat.le_of_ble_eq_true rfl⟩ (fun r_8 hr_8 => ?_)
                          have er_8 : r_8 = fA g (3) := fA_eq hr_8
                          subst er_8
                          refine lv_i2l (v := (fA g (3)).toInt64) hx hb dL_tale_259 rfl ?_
                          refine lv_lmul hx hb dL_tale_260 ?_
                          refine lv_ladd hx hb dL_tale_261 ?_
                          exact rd_lret hx hb hr hlocks dL_tale_262 rfl
                        · -- c_4: not nI (y + 1) ≥ 8
                          have hlt6 : y + 1 < 8 := nI_ltD (y := 8) rfl (by omega) (by omega) c_4
                          refine lv_iconst (v := 0) hx hb dL_tale_180 (by decide) ?_
                          refine lv_istore (lv' := [(4, .int (0)), (1, .long (i4 g n q tn tu y)), (3, .int (nI (y + 1))), (0, .ref (ob))]) hx hb dL_tale_181 hl (by decide) rfl (fun ls hl => ?_)
                          have hloop_w : ∀ (d w : Nat), w ≤ 6 → 6 - w < d → ∀ ls : Array Slot, lv_has ls 5 [(1, .long (i4b g n q tn tu y (i4 g n q tn tu y) w)), (4, .int (nI w)), (3, .int (nI (y + 1))), (0, .ref (ob))] → W p l e ({ frames := 6, cells := 0, slots := 0, locals := 134 } : Room) s m (([.ref ob] : List Value).toArray) below meth c s.heap [] 0 0 (MQ below (vp_Sl (fun r => r = tale g n q tn tu)) (([.ref ob] : List Value).toArray) s 0 0 (fun _ => False)) (F0 m 183 ls []) := by
                            intro d
                            induction d with
                            | zero => intro w _ h2; exact absurd h2 (Nat.not_lt_zero _)
                            | succ d ih_w =>
                              intro w hi_w hd_w ls hl
                              refine lv_iload hx hb dL_tale_183 (lv_at hl 1 rfl) ?_
                              refine lv_bipush (v := 6) hx hb dL_tale_185 (by decide) ?_
                              refine lv_icmp_ge (tgt := 211) hx hb dL_tale_187 (by decide) (fun c_9 => ?_) (fun c_9 => ?_)
                              · -- c_9: nI w ≥ 6
                                have hge : w = 6 := nI_geD (y := 6) rfl (by omega) (by omega) c_9
                                obtain rfl : w = 6 := by omega
                                refine lv_iinc (v := nI (y + 1 + 1)) (lv' := [(3, .int (nI (y + 1 + 1))), (1, .long (i4b g n q tn tu y (i4 g n q tn tu y) 6)), (4, .int (nI 6)), (0, .ref (ob))]) hx hb dL_tale_211 hl (k := 2) rfl (nI_1 _) (by decide) rfl (fun ls hl => ?_)
                                refine lv_goto (tgt := 174) hx hb dL_tale_214 (by decide) ?_
                                exact ih_y (y + 1) (by omega) (by omega) ls (lv_sub hl [1, 0, 3] rfl)
                              · -- c_9: not nI w ≥ 6
                                have hlt7 : w < 6 := nI_ltD (y := 6) rfl (by omega) (by omega) c_9
                                refine lv_lload_n hx hb dL_tale_190 rfl (lv_at hl 0 rfl) ?_
                                refine lv_ldc2 (v := 43) hx hb hown (hts (.constantLong RL 37 43) (by decide +kernel)) dL_tale_191 ?_
                                refine lv_lmul hx hb dL_tale_194 ?_
                                refine lv_aload_n hx hb dL_tale_195 rfl (lv_at hl 3 rfl) ?_
                                refine lv_iload_n hx hb dL_tale_196 rfl (lv_at hl 2 rfl) ?_
                                refine lv_iload hx hb dL_tale_197 (lv_at hl 1 rfl) ?_
                                refine lr_i (As := [.int (nI (y + 1)), .int (nI w)]) (rest := [.long ((i4b g n q tn tu y (i4 g n q tn tu y) w) * (43))]) (tys := TYS cI cC cB cS) (ci := 6) ⟨hx, hb, hml, hown, hts⟩ (c_X6_car l D cI cC cB cS a g ob (dd 0) (o 0) (x 0) n q tn tu (nI (y + 1)) (nI w) hI.hn hI.hnb hI.hq hI.hqc hI.ht hI.htb hI.hts1 hI.hu hI.hub hI.hus1) (cwV 2 hts gL_tale_X6_car rfl rfl rfl (by decide +kernel) ⟨Nat.le_of_ble_eq_true rfl, Nat.le_of_ble_eq_true rfl⟩) hK hP2 rfl rfl rfl rfl hl.1 (Nat.le_of_ble_eq_true rfl) dL_tale_199 ⟨Nat.le_of_ble_eq_true rfl, Nat.le_of_ble_eq_true rfl⟩ (fun r_10 hr_10 => ?_)
                                have er_10 : r_10 = fK g n q tn tu (nI (y + 1)) (nI w) := fK_eq hq31 hr_10
                                subst er_10
                                refine lv_i2l (v := (fK g n q tn tu (nI (y + 1)) (nI w)).toInt64) hx hb dL_tale_202 rfl ?_
                                refine lv_ladd hx hb dL_tale_203 ?_
                                refine lv_lstore_n (lv' := [(1, .long (((i4b g n q tn tu y (i4 g n q tn tu y) w) * (43)) + ((fK g n q tn tu (nI (y + 1)) (nI w)).toInt64))), (4, .int (nI w)), (3, .int (nI (y + 1))), (0, .ref (ob))]) hx hb dL_tale_204 rfl hl (by decide) rfl (fun ls hl => ?_)
                                refine lv_iinc (v := nI (w + 1)) (lv' := [(4, .int (nI (w + 1))), (1, .long (((i4b g n q tn tu y (i4 g n q tn tu y) w) * (43)) + ((fK g n q tn tu (nI (y + 1)) (nI w)).toInt64))), (3, .int (nI (y + 1))), (0, .ref (ob))]) hx hb dL_tale_205 hl (k := 1) rfl (nI_1 _) (by decide) rfl (fun ls hl => ?_)
                                refine lv_goto (tgt := 183) hx hb dL_tale_208 (by decide) ?_
                                exact ih_w (w + 1) (by omega) (by omega) ls (lv_sub hl [1, 0, 2, 3] rfl)
                          exact hloop_w (6 + 1) 0 (by omega) (by omega) ls (lv_sub hl [1, 0, 2, 3] rfl)
                    exact hloop_y (7 + 1) 0 (by omega) (by omega) ls (lv_sub hl [1, 0, 2] rfl)
                  · -- c_3: not nI t ≥ 2
                    have hlt4 : t < 2 := nI_ltD (y := 2) rfl (by omega) (by omega) c_3
                    refine lv_iconst (v := 0) hx hb dL_tale_107 (by decide) ?_
                    refine lv_istore (lv' := [(4, .int (0)), (1, .long (i3 g n q tn tu t)), (3, .int (nI t)), (0, .ref (ob))]) hx hb dL_tale_108 hl (by decide) rfl (fun ls hl => ?_)
                    have hloop_v : ∀ (d v : Nat), v ≤ 5 → 5 - v < d → ∀ ls : Array Slot, lv_has ls 5 [(1, .long (i3b g tn tu t (i3 g n q tn tu t) v)), (4, .int (nI v)), (3, .int (nI t)), (0, .ref (ob))] → W p l e ({ frames := 6, cells := 0, slots := 0, locals := 134 } : Room) s m (([.ref ob] : List Value).toArray) below meth c s.heap [] 0 0 (MQ below (vp_Sl (fun r => r = tale g n q tn tu)) (([.ref ob] : List Value).toArray) s 0 0 (fun _ => False)) (F0 m 110 ls []) := by
                      intro d
                      induction d with
                      | zero => intro v _ h2; exact absurd h2 (Nat.not_lt_zero _)
                      | succ d ih_v =>
                        intro v hi_v hd_v ls hl
                        refine lv_iload hx hb dL_tale_110 (lv_at hl 1 rfl) ?_
                        refine lv_iconst (v := 5) hx hb dL_tale_112 (by decide) ?_
                        refine lv_icmp_ge (tgt := 166) hx hb dL_tale_113 (by decide) (fun c_11 => ?_) (fun c_11 => ?_)
                        · -- c_11: nI v ≥ 5
                          have hge : v = 5 := nI_geD (y := 5) rfl (by omega) (by omega) c_11
                          obtain rfl : v = 5 := by omega
                          refine lv_iinc (v := nI (t + 1)) (lv' := [(3, .int (nI (t + 1))), (1, .long (i3b g tn tu t (i3 g n q tn tu t) 5)), (4, .int (nI 5)), (0, .ref (ob))]) hx hb dL_tale_166 hl (k := 2) rfl (nI_1 _) (by decide) rfl (fun ls hl => ?_)
                          refine lv_goto (tgt := 102) hx hb dL_tale_169 (by decide) ?_
                          exact ih_t (t + 1) (by omega) (by omega) ls (lv_sub hl [1, 0, 3] rfl)
                        · -- c_11: not nI v ≥ 5
                          have hlt5 : v < 5 := nI_ltD (y := 5) rfl (by omega) (by omega) c_11
                          refine lv_lload_n hx hb dL_tale_116 rfl (lv_at hl 0 rfl) ?_
                          refine lv_ldc2 (v := 41) hx hb hown (hts (.constantLong RL 29 41) (by decide +kernel)) dL_tale_117 ?_
                          refine lv_lmul hx hb dL_tale_120 ?_
                          refine lv_aload_n hx hb dL_tale_121 rfl (lv_at hl 3 rfl) ?_
                          refine lv_iload_n hx hb dL_tale_122 rfl (lv_at hl 2 rfl) ?_
                          refine lv_iload hx hb dL_tale_123 (lv_at hl 1 rfl) ?_
                          refine lv_iconst (v := 0) hx hb dL_tale_125 (by decide) ?_
                          refine lr_i (As := [.int (nI t), .int (nI v), .int (0)]) (rest := [.long ((i3b g tn tu t (i3 g n q tn tu t) v) * (41))]) (tys := TYS cI cC cB cS) (ci := 6) ⟨hx, hb, hml, hown, hts⟩ (c_X6_step l D cI cC cB cS a g ob (dd 0) (o 0) (x 0) tn tu (nI t) (nI v) (0) hI.ht hI.htb hI.hts1 hI.hu hI.hub hI.hus1) (cwV 3 hts gL_tale_X6_step rfl rfl rfl (by decide +kernel) ⟨Nat.le_of_ble_eq_true rfl, Nat.le_of_ble_eq_true rfl⟩) hK hP2 rfl rfl rfl rfl hl.1 (Nat.le_of_ble_eq_true rfl) dL_tale_126 ⟨Nat.le_of_ble_eq_true rfl, Nat.le_of_ble_eq_true rfl⟩ (fun r_12 hr_12 => ?_)
                          have er_12 : r_12 = fS g tn tu (nI t) (nI v) (0) := fS_eq htn htu hr_12
                          subst er_12
                          refine lv_i2l (v := (fS g tn tu (nI t) (nI v) (0)).toInt64) hx hb dL_tale_129 rfl ?_
                          refine lv_ladd hx hb dL_tale_130 ?_
                          refine lv_ldc2 (v := 3) hx hb hown (hts (.constantLong RL 8 3) (by decide +kernel)) dL_tale_131 ?_
                          refine lv_aload_n hx hb dL_tale_134 rfl (lv_at hl 3 rfl) ?_
                          refine lv_iload_n hx hb dL_tale_135 rfl (lv_at hl 2 rfl) ?_
                          refine lv_iload hx hb dL_tale_136 (lv_at hl 1 rfl) ?_
                          refine lv_iconst (v := 1) hx hb dL_tale_138 (by decide) ?_
                          refine lr_i (As := [.int (nI t), .int (nI v), .int (1)]) (rest := [.long (3), .long (((i3b g tn tu t (i3 g n q tn tu t) v) * (41)) + ((fS g tn tu (nI t) (nI v) (0)).toInt64))]) (tys := TYS cI cC cB cS) (ci := 6) ⟨hx, hb, hml, hown, hts⟩ (c_X6_step l D cI cC cB cS a g ob (dd 0) (o 0) (x 0) tn tu (nI t) (nI v) (1) hI.ht hI.htb hI.hts1 hI.hu hI.hub hI.hus1) (cwV 3 hts gL_tale_X6_step rfl rfl rfl (by decide +kernel) ⟨Nat.le_of_ble_eq_true rfl, Nat.le_of_ble_eq_true rfl⟩) hK hP2 rfl rfl rfl rfl hl.1 (Nat.le_of_ble_eq_true rfl) dL_tale_139 ⟨Nat.le_of_ble_eq_true rfl, Nat.le_of_ble_eq_true rfl⟩ (fun r_13 hr_13 => ?_)
                          have er_13 : r_13 = fS g tn tu (nI t) (nI v) (1) := fS_eq htn htu hr_13
                          subst er_13
                          refine lv_i2l (v := (fS g tn tu (nI t) (nI v) (1)).toInt64) hx hb dL_tale_142 rfl ?_
                          refine lv_lmul hx hb dL_tale_143 ?_
                          refine lv_ladd hx hb dL_tale_144 ?_
                          refine lv_ldc2 (v := 5) hx hb hown (hts (.constantLong RL 35 5) (by decide +kernel)) dL_tale_145 ?_
                          refine lv_aload_n hx hb dL_tale_148 rfl (lv_at hl 3 rfl) ?_
                          refine lv_iload_n hx hb dL_tale_149 rfl (lv_at hl 2 rfl) ?_
                          refine lv_iload hx hb dL_tale_150 (lv_at hl 1 rfl) ?_
                          refine lv_iconst (v := 2) hx hb dL_tale_152 (by decide) ?_
                          refine lr_i (As := [.int (nI t), .int (nI v), .int (2)]) (rest := [.long (5), .long ((((i3b g tn tu t (i3 g n q tn tu t) v) * (41)) + ((fS g tn tu (nI t) (nI v) (0)).toInt64)) + ((3) * ((fS g tn tu (nI t) (nI v) (1)).toInt64)))]) (tys := TYS cI cC cB cS) (ci := 6) ⟨hx, hb, hml, hown, hts⟩ (c_X6_step l D cI cC cB cS a g ob (dd 0) (o 0) (x 0) tn tu (nI t) (nI v) (2) hI.ht hI.htb hI.hts1 hI.hu hI.hub hI.hus1) (cwV 3 hts gL_tale_X6_step rfl rfl rfl (by decide +kernel) ⟨Nat.le_of_ble_eq_true rfl, Nat.le_of_ble_eq_true rfl⟩) hK hP2 rfl rfl rfl rfl hl.1 (Nat.le_of_ble_eq_true rfl) dL_tale_153 ⟨Nat.le_of_ble_eq_true rfl, Nat.le_of_ble_eq_true rfl⟩ (fun r_14 hr_14 => ?_)
                          have er_14 : r_14 = fS g tn tu (nI t) (nI v) (2) := fS_eq htn htu hr_14
                          subst er_14
                          refine lv_i2l (v := (fS g tn tu (nI t) (nI v) (2)).toInt64) hx hb dL_tale_156 rfl ?_
                          refine lv_lmul hx hb dL_tale_157 ?_
                          refine lv_ladd hx hb dL_tale_158 ?_
                          refine lv_lstore_n (lv' := [(1, .long (((((i3b g tn tu t (i3 g n q tn tu t) v) * (41)) + ((fS g tn tu (nI t) (nI v) (0)).toInt64)) + ((3) * ((fS g tn tu (nI t) (nI v) (1)).toInt64))) + ((5) * ((fS g tn tu (nI t) (nI v) (2)).toInt64)))), (4, .int (nI v)), (3, .int (nI t)), (0, .ref (ob))]) hx hb dL_tale_159 rfl hl (by decide) rfl (fun ls hl => ?_)
                          refine lv_iinc (v := nI (v + 1)) (lv' := [(4, .int (nI (v + 1))), (1, .long (((((i3b g tn tu t (i3 g n q tn tu t) v) * (41)) + ((fS g tn tu (nI t) (nI v) (0)).toInt64)) + ((3) * ((fS g tn tu (nI t) (nI v) (1)).toInt64))) + ((5) * ((fS g tn tu (nI t) (nI v) (2)).toInt64)))), (3, .int (nI t)), (0, .ref (ob))]) hx hb dL_tale_160 hl (k := 1) rfl (nI_1 _) (by decide) rfl (fun ls hl => ?_)
                          refine lv_goto (tgt := 110) hx hb dL_tale_163 (by decide) ?_
                          exact ih_v (v + 1) (by omega) (by omega) ls (lv_sub hl [1, 0, 2, 3] rfl)
                    exact hloop_v (5 + 1) 0 (by omega) (by omega) ls (lv_sub hl [1, 0, 2, 3] rfl)
              exact hloop_t (2 + 1) 0 (by omega) (by omega) ls (lv_sub hl [1, 0, 2] rfl)
            · -- c_2: not nI k ≥ 8
              have hlt2 : k < 8 := nI_ltD (y := 8) rfl (by omega) (by omega) c_2
              refine lv_iconst (v := 0) hx hb dL_tale_39 (by decide) ?_
              refine lv_istore (lv' := [(4, .int (0)), (1, .long (i2 g n q k)), (3, .int (nI k)), (0, .ref (ob))]) hx hb dL_tale_40 hl (by decide) rfl (fun ls hl => ?_)
              have hloop_j : ∀ (d j : Nat), j ≤ 7 → 7 - j < d → ∀ ls : Array Slot, lv_has ls 5 [(1, .long (i2b g n q k (i2 g n q k) j)), (4, .int (nI j)), (3, .int (nI k)), (0, .ref (ob))] → W p l e ({ frames := 6, cells := 0, slots := 0, locals := 134 } : Room) s m (([.ref ob] : List Value).toArray) below meth c s.heap [] 0 0 (MQ below (vp_Sl (fun r => r = tale g n q tn tu)) (([.ref ob] : List Value).toArray) s 0 0 (fun _ => False)) (F0 m 42 ls []) := by
                intro d
                induction d with
                | zero => intro j _ h2; exact absurd h2 (Nat.not_lt_zero _)
                | succ d ih_j =>
                  intro j hi_j hd_j ls hl
                  refine lv_iload hx hb dL_tale_42 (lv_at hl 1 rfl) ?_
                  refine lv_bipush (v := 7) hx hb dL_tale_44 (by decide) ?_
                  refine lv_icmp_ge (tgt := 94) hx hb dL_tale_46 (by decide) (fun c_15 => ?_) (fun c_15 => ?_)
                  · -- c_15: nI j ≥ 7
                    have hge : j = 7 := nI_geD (y := 7) rfl (by omega) (by omega) c_15
                    obtain rfl : j = 7 := by omega
                    refine lv_iinc (v := nI (k + 1)) (lv' := [(3, .int (nI (k + 1))), (1, .long (i2b g n q k (i2 g n q k) 7)), (4, .int (nI 7)), (0, .ref (ob))]) hx hb dL_tale_94 hl (k := 2) rfl (nI_1 _) (by decide) rfl (fun ls hl => ?_)
                    refine lv_goto (tgt := 33) hx hb dL_tale_97 (by decide) ?_
                    exact ih_k (k + 1) (by omega) (by omega) ls (lv_sub hl [1, 0, 3] rfl)
                  · -- c_15: not nI j ≥ 7
                    have hlt3 : j < 7 := nI_ltD (y := 7) rfl (by omega) (by omega) c_15
                    refine lv_lload_n hx hb dL_tale_49 rfl (lv_at hl 0 rfl) ?_
                    refine lv_ldc2 (v := 37) hx hb hown (hts (.constantLong RL 18 37) (by decide +kernel)) dL_tale_50 ?_
                    refine lv_lmul hx hb dL_tale_53 ?_
                    refine lv_aload_n hx hb dL_tale_54 rfl (lv_at hl 3 rfl) ?_
                    refine lv_iload_n hx hb dL_tale_55 rfl (lv_at hl 2 rfl) ?_
                    refine lv_iload hx hb dL_tale_56 (lv_at hl 1 rfl) ?_
                    refine lr_i (As := [.int (nI k), .int (nI j)]) (rest := [.long ((i2b g n q k (i2 g n q k) j) * (37))]) (tys := TYS cI cC cB cS) (ci := 6) ⟨hx, hb, hml, hown, hts⟩ (c_X6_bay l D cI cC cB cS a g ob (dd 0) (o 0) (x 0) n q (nI k) (nI j) hI.hn hI.hnb hI.hq hI.hqc) (cwV 2 hts gL_tale_X6_bay rfl rfl rfl (by decide +kernel) ⟨Nat.le_of_ble_eq_true rfl, Nat.le_of_ble_eq_true rfl⟩) hK hP2 rfl rfl rfl rfl hl.1 (Nat.le_of_ble_eq_true rfl) dL_tale_58 ⟨Nat.le_of_ble_eq_true rfl, Nat.le_of_ble_eq_true rfl⟩ (fun r_16 hr_16 => ?_)
                    have er_16 : r_16 = fB g n q (nI k) (nI j) := fB_eq hn31 hr_16
                    subst er_16
                    refine lv_i2l (v := (fB g n q (nI k) (nI j)).toInt64) hx hb dL_tale_61 rfl ?_
                    refine lv_ladd hx hb dL_tale_62 ?_
                    refine lv_iload hx hb dL_tale_63 (lv_at hl 1 rfl) ?_
                    refine lv_bipush (v := 6) hx hb dL_tale_65 (by decide) ?_
                    refine lv_icmp_ge (tgt := 85) hx hb dL_tale_67 (by decide) (fun c_17 => ?_) (fun c_17 => ?_)
                    · -- c_17: nI j ≥ 6
                      have h6 : ¬ j < 6 := fun z => absurd c_17 (nI_ge z (by decide))
                      refine lv_lconst (v := 0) hx hb dL_tale_85 (by decide) ?_
                      rw [show (0 : Int64) = rz g q k j from (if_neg h6).symm]
                      refine lv_ladd hx hb dL_tale_86 ?_
                      refine lv_lstore_n (lv' := [(1, .long ((((i2b g n q k (i2 g n q k) j) * (37)) + ((fB g n q (nI k) (nI j)).toInt64)) + (rz g q k j))), (4, .int (nI j)), (3, .int (nI k)), (0, .ref (ob))]) hx hb dL_tale_87 rfl hl (by decide) rfl (fun ls hl => ?_)
                      refine lv_iinc (v := nI (j + 1)) (lv' := [(4, .int (nI (j + 1))), (1, .long ((((i2b g n q k (i2 g n q k) j) * (37)) + ((fB g n q (nI k) (nI j)).toInt64)) + (rz g q k j))), (3, .int (nI k)), (0, .ref (ob))]) hx hb dL_tale_88 hl (k := 1) rfl (nI_1 _) (by decide) rfl (fun ls hl => ?_)
                      refine lv_goto (tgt := 42) hx hb dL_tale_91 (by decide) ?_
                      exact ih_j (j + 1) (by omega) (by omega) ls (lv_sub hl [1, 0, 2, 3] rfl)
                    · -- c_17: not nI j ≥ 6
                      have h6 : j < 6 := by
                        rcases Nat.lt_or_ge j 6 with z | z
                        · exact z
                        · exact absurd (nI_le (a := 6) (b := j) z (by omega)) c_17
                      refine lv_ldc2 (v := 11) hx hb hown (hts (.constantLong RL 24 11) (by decide +kernel)) dL_tale_70 ?_
                      refine lv_aload_n hx hb dL_tale_73 rfl (lv_at hl 3 rfl) ?_
                      refine lv_iload_n hx hb dL_tale_74 rfl (lv_at hl 2 rfl) ?_
                      refine lv_iload hx hb dL_tale_75 (lv_at hl 1 rfl) ?_
                      refine lr_i (As := [.int (nI k), .int (nI j)]) (rest := [.long (11), .long (((i2b g n q k (i2 g n q k) j) * (37)) + ((fB g n q (nI k) (nI j)).toInt64))]) (tys := TYS cI cC cB cS) (ci := 6) ⟨hx, hb, hml, hown, hts⟩ (c_X6_reservation l D cI cC cB cS a g ob (dd 0) (o 0) (x 0) q (nI k) (nI j) hI.hq hI.hqc) (cwV 2 hts gL_tale_X6_reservation rfl rfl rfl (by decide +kernel) ⟨Nat.le_of_ble_eq_true rfl, Nat.le_of_ble_eq_true rfl⟩) hK hP2 rfl rfl rfl rfl hl.1 (Nat.le_of_ble_eq_true rfl) dL_tale_77 ⟨Nat.le_of_ble_eq_true rfl, Nat.le_of_ble_eq_true rfl⟩ (fun r_18 hr_18 => ?_)
                      have er_18 : r_18 = fR g q (nI k) (nI j) := fR_eq hq31 hr_18
                      subst er_18
                      refine lv_i2l (v := (fR g q (nI k) (nI j)).toInt64) hx hb dL_tale_80 rfl ?_
                      refine lv_lmul hx hb dL_tale_81 ?_
                      rw [show ((11 : Int64) * (fR g q (nI k) (nI j)).toInt64) = rz g q k j from (if_pos h6).symm]
                      refine lv_goto (tgt := 86) hx hb dL_tale_82 (by decide) ?_
                      refine lv_ladd hx hb dL_tale_86 ?_
                      refine lv_lstore_n (lv' := [(1, .long ((((i2b g n q k (i2 g n q k) j) * (37)) + ((fB g n q (nI k) (nI j)).toInt64)) + (rz g q k j))), (4, .int (nI j)), (3, .int (nI k)), (0, .ref (ob))]) hx hb dL_tale_87 rfl hl (by decide) rfl (fun ls hl => ?_)
                      refine lv_iinc (v := nI (j + 1)) (lv' := [(4, .int (nI (j + 1))), (1, .long ((((i2b g n q k (i2 g n q k) j) * (37)) + ((fB g n q (nI k) (nI j)).toInt64)) + (rz g q k j))), (3, .int (nI k)), (0, .ref (ob))]) hx hb dL_tale_88 hl (k := 1) rfl (nI_1 _) (by decide) rfl (fun ls hl => ?_)
                      refine lv_goto (tgt := 42) hx hb dL_tale_91 (by decide) ?_
                      exact ih_j (j + 1) (by omega) (by omega) ls (lv_sub hl [1, 0, 2, 3] rfl)
              exact hloop_j (7 + 1) 0 (by omega) (by omega) ls (lv_sub hl [1, 0, 2, 3] rfl)
        exact hloop_k (8 + 1) 0 (by omega) (by omega) ls (lv_sub hl [1, 0, 2] rfl)
      · -- c_1: not nI i ≥ 12
        have hlt : i < 12 := nI_ltD (y := 12) rfl (by omega) (by omega) c_1
        refine lv_lload_n hx hb dL_tale_12 rfl (lv_at hl 0 rfl) ?_
        refine lv_ldc2 (v := 31) hx hb hown (hts (.constantLong RL 10 31) (by decide +kernel)) dL_tale_13 ?_
        refine lv_lmul hx hb dL_tale_16 ?_
        refine lv_aload_n hx hb dL_tale_17 rfl (lv_at hl 2 rfl) ?_
        refine lv_iload_n hx hb dL_tale_18 rfl (lv_at hl 1 rfl) ?_
        refine lr_i (As := [.int (nI i)]) (rest := [.long ((i1 g n q i) * (31))]) (tys := TYS cI cC cB cS) (ci := 6) ⟨hx, hb, hml, hown, hts⟩ (c_X6_count l D cI cC cB cS a g ob (dd 0) (o 0) (x 0) n q (nI 0) (x 1) (nI 0) (nI 0) (nI 0) np (o 1) (nI i) hI.hn hI.hnb hI.hq hI.hqc) (cwV 1 hts gL_tale_X6_count rfl rfl rfl (by decide +kernel) ⟨Nat.le_of_ble_eq_true rfl, Nat.le_of_ble_eq_true rfl⟩) hK hP4 rfl rfl rfl rfl hl.1 (Nat.le_of_ble_eq_true rfl) dL_tale_19 ⟨Nat.le_of_ble_eq_true rfl, Nat.le_of_ble_eq_true rfl⟩ (fun r_19 hr_19 => ?_)
        have er_19 : r_19 = fC g n q (nI i) := fC_eq (cnt_ne hlt) hr_19
        subst er_19
        refine lv_i2l (v := (fC g n q (nI i)).toInt64) hx hb dL_tale_22 rfl ?_
        refine lv_ladd hx hb dL_tale_23 ?_
        refine lv_lstore_n (lv' := [(1, .long (((i1 g n q i) * (31)) + ((fC g n q (nI i)).toInt64))), (3, .int (nI i)), (0, .ref (ob))]) hx hb dL_tale_24 rfl hl (by decide) rfl (fun ls hl => ?_)
        refine lv_iinc (v := nI (i + 1)) (lv' := [(3, .int (nI (i + 1))), (1, .long (((i1 g n q i) * (31)) + ((fC g n q (nI i)).toInt64))), (0, .ref (ob))]) hx hb dL_tale_25 hl (k := 1) rfl (nI_1 _) (by decide) rfl (fun ls hl => ?_)
        refine lv_goto (tgt := 6) hx hb dL_tale_28 (by decide) ?_
        exact ih_i (i + 1) (by omega) (by omega) ls (lv_sub hl [1, 0, 2] rfl)
  exact hloop_i (12 + 1) 0 (by omega) (by omega) ls (lv_sub hl [1, 0, 2] rfl)
