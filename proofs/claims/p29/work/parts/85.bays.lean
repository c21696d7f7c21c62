/-! ===== the law's checks of the bays (laid by wip/p29/gen/seggen.py) ===== -/
/-- what stands throughout the law -/
def LC (p : Program) (s : State) (m : MethodId) (c : Code) (D : va_G) (cI cC cB cS : ClassId) (tL tG : Nat) (aK aV : Nat → Nat) (bs Lx : Nat) (xs : Nat → Int32) : Prop :=
  p.tables.exec = Jvm.exec ∧ c.code = code ∧ c.maxLocals = 14 ∧ s.vm.findClass RL = some m.cls ∧ (∀ w ∈ wsL_law, w.before #[Value.ref bs] s = true) ∧ va_X bs Lx xs s s.heap ∧ bs < s.heap.size ∧ KN D (TYS cI cC cB cS) s ∧ ZS tL tG aK aV (fun q => s.heap.size ≤ q) s s.heap ∧ Lx ≤ 260
/-- what stands throughout a round's checks -/
def LK (D : va_G) (cI cC cS : ClassId) (ob : Nat) (a dd o x : Nat → Nat) (g : Nat → Nat → Int32) (np : Nat) (b : Nat → Nat → Nat) (hs : Nat → Nat → Nat → Int32) (H : Heap) (cells slots : Nat) (lf : Int32) (n q tn tu T ee : Nat) : Prop :=
  va_P D vwCl (wL (kB cI cC cS ob a dd o x g np b hs)) H ∧ (cells ≤ 600000 ∧ slots ≤ 7302250) ∧ Inv g lf n q tn tu T ∧ Ex g n q tn tu T ee
section LSEG
variable {p : Program} {l : Launch} {e : Env} {s : State} {m : MethodId} {below : List Frame} {meth : Method} {c : Code} {H : Heap} {locs : List Loc} {cells slots : Nat} {Q : State → Prop} {ls : Array Slot} {D : va_G} {cI cC cB cS : ClassId} {tL tG : Nat} {aK aV : Nat → Nat} {bs Lx : Nat} {xs : Nat → Int32} {ob : Nat} {a dd o x : Nat → Nat}
variable {g : Nat → Nat → Int32} {np : Nat} {b : Nat → Nat → Nat} {hs : Nat → Nat → Nat → Int32} {lf : Int32} {n q tn tu T ee ei k zc zf : Nat} {pv : Int32}
set_option maxHeartbeats 4000000 in
set_option maxRecDepth 100000 in
theorem sg_a (hC : LC p s m c D cI cC cB cS tL tG aK aV bs Lx xs) (hLK : LK D cI cC cS ob a dd o x g np b hs H cells slots lf n q tn tu T ee) (hk : k < n) (hl : lv_has ls 14 [(0, .ref (bs)), (1, .ref (ob)), (2, .int (nI np)), (3, .int (nI ei)), (8, .int (nI zc)), (9, .int (nI zf)), (10, .int (nI k))]) (kk : ∀ (ls : Array Slot) (zc2 : Nat) (pv2 : Int32), ((g 8 k = 0 ∧ pv2 = -9 ∧ zc2 = zc) ∨ (¬ g 8 k = 0 ∧ pv2 = g 8 k ∧ zc2 = zc + 1)) → lv_has ls 14 [(0, .ref (bs)), (1, .ref (ob)), (2, .int (nI np)), (3, .int (nI ei)), (8, .int (nI zc2)), (9, .int (nI zf)), (10, .int (nI k)), (11, .int (pv2))] → W p l e room_1 s m #[Value.ref bs] below meth c H locs cells slots Q (F0 m 228 ls [])) : W p l e room_1 s m #[Value.ref bs] below meth c H locs cells slots Q (F0 m 170 ls []) := by
  obtain ⟨hx, hb, hml, hown, hts, hX, hbl, hK, hZ, hLx⟩ := id hC
  obtain ⟨hP, hF, hI, hE⟩ := id hLK
  have hP2 := bl_2 hP
  have hP4 := bl_4 hP
  refine lv_aload_n hx hb dL_law_170 rfl (lv_at hl 1 rfl) ?_
  refine lv_iload hx hb dL_law_171 (lv_at hl 6 rfl) ?_
  refine lv_iconst (v := 5) hx hb dL_law_173 (by decide) ?_
  refine lr_i (As := [.int (nI k), .int (5)]) (rest := []) (tys := TYS cI cC cB cS) (ci := 6) ⟨hx, hb, hml, hown, hts⟩ (c_X6_bay l D cI cC cB cS a g ob (dd 0) (o 0) (x 0) n q (nI k) (5) hI.hn hI.hnb hI.hq hI.hqc) (cwV 2 hts gL_law_X6_bay rfl rfl rfl (by decide +kernel) ⟨Nat.le_of_ble_eq_true rfl, Nat.le_of_ble_eq_true rfl⟩) hK hP2 rfl rfl rfl rfl hl.1 (Nat.le_of_ble_eq_true rfl) dL_law_174 hF (fun r_1 hr_1 => ?_)
  rcases k_b5 hI hk hr_1 with ⟨h8, er_1⟩ | ⟨h8, er_1⟩
  · subst er_1
    refine lv_istore (lv' := [(11, .int (-9)), (0, .ref (bs)), (1, .ref (ob)), (2, .int (nI np)), (3, .int (nI ei)), (8, .int (nI zc)), (9, .int (nI zf)), (10, .int (nI k))]) hx hb dL_law_177 hl (by decide) rfl (fun ls hl => ?_)
    refine lv_iload hx hb dL_law_179 (lv_at hl 5 rfl) ?_
    refine lv_iload hx hb dL_law_181 (lv_at hl 0 rfl) ?_
    refine lv_if_le (tgt := 190) hx hb dL_law_183 (by decide) (fun _ => ?_) (fun q9 => absurd (by decide) q9)
    refine lv_iconst (v := 0) hx hb dL_law_190 (by decide) ?_
    refine lv_iadd hx hb dL_law_191 ?_
    rw [show (((nI zc) + (0)) : Int32) = nI zc from i_add0 _]
    refine lv_istore (lv' := [(8, .int (nI zc)), (11, .int (-9)), (0, .ref (bs)), (1, .ref (ob)), (2, .int (nI np)), (3, .int (nI ei)), (9, .int (nI zf)), (10, .int (nI k))]) hx hb dL_law_192 hl (by decide) rfl (fun ls hl => ?_)
    refine lv_iload hx hb dL_law_194 (lv_at hl 1 rfl) ?_
    refine lv_if_le (tgt := 228) hx hb dL_law_196 (by decide) (fun _ => ?_) (fun q9 => absurd (by decide) q9)
    exact kk _ _ _ (Or.inl ⟨h8, rfl, rfl⟩) (lv_sub hl [2, 3, 4, 5, 0, 6, 7, 1] rfl)
  · subst er_1
    have hps := i_pos_le (hE.x8 k hk h8).1
    refine lv_istore (lv' := [(11, .int (g 8 k)), (0, .ref (bs)), (1, .ref (ob)), (2, .int (nI np)), (3, .int (nI ei)), (8, .int (nI zc)), (9, .int (nI zf)), (10, .int (nI k))]) hx hb dL_law_177 hl (by decide) rfl (fun ls hl => ?_)
    refine lv_iload hx hb dL_law_179 (lv_at hl 5 rfl) ?_
    refine lv_iload hx hb dL_law_181 (lv_at hl 0 rfl) ?_
    refine lv_if_le (tgt := 190) hx hb dL_law_183 (by decide) (fun q9 => absurd q9 (hps)) (fun _ => ?_)
    refine lv_iconst (v := 1) hx hb dL_law_186 (by decide) ?_
    refine lv_goto (tgt := 191) hx hb dL_law_187 (by decide) ?_
    refine lv_iadd hx hb dL_law_191 ?_
    rw [show (((nI zc) + (1)) : Int32) = nI (zc + 1) from nI_1 _]
    refine lv_istore (lv' := [(8, .int (nI (zc + 1))), (11, .int (g 8 k)), (0, .ref (bs)), (1, .ref (ob)), (2, .int (nI np)), (3, .int (nI ei)), (9, .int (nI zf)), (10, .int (nI k))]) hx hb dL_law_192 hl (by decide) rfl (fun ls hl => ?_)
    refine lv_iload hx hb dL_law_194 (lv_at hl 1 rfl) ?_
    refine lv_if_le (tgt := 228) hx hb dL_law_196 (by decide) (fun q9 => absurd q9 (hps)) (fun _ => ?_)
    refine lv_aload_n hx hb dL_law_199 rfl (lv_at hl 3 rfl) ?_
    refine lv_iload hx hb dL_law_200 (lv_at hl 1 rfl) ?_
    refine lv_iconst (v := 2) hx hb dL_law_202 (by decide) ?_
    refine lr_i (As := [.int (g 8 k), .int (2)]) (rest := []) (tys := TYS cI cC cB cS) (ci := 6) ⟨hx, hb, hml, hown, hts⟩ (c_X6_car l D cI cC cB cS a g ob (dd 0) (o 0) (x 0) n q tn tu (g 8 k) (2) hI.hn hI.hnb hI.hq hI.hqc hI.ht hI.htb hI.hts1 hI.hu hI.hub hI.hus1) (cwV 2 hts gL_law_X6_car rfl rfl rfl (by decide +kernel) ⟨Nat.le_of_ble_eq_true rfl, Nat.le_of_ble_eq_true rfl⟩) hK hP2 rfl rfl rfl rfl hl.1 (Nat.le_of_ble_eq_true rfl) dL_law_203 hF (fun r_2 hr_2 => ?_)
    have er_2 : r_2 = nI k := k_k2 hI hE hk h8 hr_2
    subst er_2
    refine lv_iload hx hb dL_law_206 (lv_at hl 7 rfl) ?_
    refine lv_icmp_ne (tgt := 226) hx hb dL_law_208 (by decide) (fun q9 => absurd (rfl) q9) (fun _ => ?_)
    refine lv_aload_n hx hb dL_law_211 rfl (lv_at hl 3 rfl) ?_
    refine lv_iload hx hb dL_law_212 (lv_at hl 1 rfl) ?_
    refine lv_iconst (v := 1) hx hb dL_law_214 (by decide) ?_
    refine lr_i (As := [.int (g 8 k), .int (1)]) (rest := []) (tys := TYS cI cC cB cS) (ci := 6) ⟨hx, hb, hml, hown, hts⟩ (c_X6_car l D cI cC cB cS a g ob (dd 0) (o 0) (x 0) n q tn tu (g 8 k) (1) hI.hn hI.hnb hI.hq hI.hqc hI.ht hI.htb hI.hts1 hI.hu hI.hub hI.hus1) (cwV 2 hts gL_law_X6_car rfl rfl rfl (by decide +kernel) ⟨Nat.le_of_ble_eq_true rfl, Nat.le_of_ble_eq_true rfl⟩) hK hP2 rfl rfl rfl rfl hl.1 (Nat.le_of_ble_eq_true rfl) dL_law_215 hF (fun r_3 hr_3 => ?_)
    have er_3 : r_3 = g 10 k := k_k1 hI hE hk h8 hr_3
    subst er_3
    refine lv_aload_n hx hb dL_law_218 rfl (lv_at hl 3 rfl) ?_
    refine lv_iconst (v := 5) hx hb dL_law_219 (by decide) ?_
    refine lr_i (As := [.int (5)]) (rest := [.int (g 10 k)]) (tys := TYS cI cC cB cS) (ci := 6) ⟨hx, hb, hml, hown, hts⟩ (c_X6_count l D cI cC cB cS a g ob (dd 0) (o 0) (x 0) n q (nI 0) (x 1) (nI 0) (nI 0) (nI 0) np (o 1) (5) hI.hn hI.hnb hI.hq hI.hqc) (cwV 1 hts gL_law_X6_count rfl rfl rfl (by decide +kernel) ⟨Nat.le_of_ble_eq_true rfl, Nat.le_of_ble_eq_true rfl⟩) hK hP4 rfl rfl rfl rfl hl.1 (Nat.le_of_ble_eq_true rfl) dL_law_220 hF (fun r_4 hr_4 => ?_)
    have er_4 : r_4 = g 0 0 := k_c5 hr_4
    subst er_4
    refine lv_icmp_le (tgt := 228) hx hb dL_law_223 (by decide) (fun _ => ?_) (fun q9 => absurd (k_ent hI hE hk h8) q9)
    exact kk _ _ _ (Or.inr ⟨h8, rfl, rfl⟩) (lv_sub hl [2, 3, 4, 5, 0, 6, 7, 1] rfl)
set_option maxHeartbeats 4000000 in
set_option maxRecDepth 100000 in
theorem sg_b (hC : LC p s m c D cI cC cB cS tL tG aK aV bs Lx xs) (hLK : LK D cI cC cS ob a dd o x g np b hs H cells slots lf n q tn tu T ee) (hk : k < n) (hpv : (g 8 k = 0 ∧ pv = -9) ∨ (¬ g 8 k = 0 ∧ pv = g 8 k)) (hl : lv_has ls 14 [(0, .ref (bs)), (1, .ref (ob)), (2, .int (nI np)), (3, .int (nI ei)), (8, .int (nI zc)), (9, .int (nI zf)), (10, .int (nI k)), (11, .int (pv))]) (kk : ∀ (ls : Array Slot) (zf2 : Nat), ((Fr g q k ∧ zf2 = zf + 1) ∨ (¬ Fr g q k ∧ zf2 = zf)) → lv_has ls 14 [(0, .ref (bs)), (1, .ref (ob)), (2, .int (nI np)), (3, .int (nI ei)), (8, .int (nI zc)), (9, .int (nI zf2)), (10, .int (nI k))] → W p l e room_1 s m #[Value.ref bs] below meth c H locs cells slots Q (F0 m 269 ls [])) : W p l e room_1 s m #[Value.ref bs] below meth c H locs cells slots Q (F0 m 228 ls []) := by
  obtain ⟨hx, hb, hml, hown, hts, hX, hbl, hK, hZ, hLx⟩ := id hC
  obtain ⟨hP, hF, hI, hE⟩ := id hLK
  have hP2 := bl_2 hP
  have hP4 := bl_4 hP
  refine lv_iload hx hb dL_law_228 (lv_at hl 5 rfl) ?_
  refine lv_aload_n hx hb dL_law_230 rfl (lv_at hl 1 rfl) ?_
  refine lv_iload hx hb dL_law_231 (lv_at hl 6 rfl) ?_
  refine lv_iconst (v := 4) hx hb dL_law_233 (by decide) ?_
  refine lr_i (As := [.int (nI k), .int (4)]) (rest := [.int (nI zf)]) (tys := TYS cI cC cB cS) (ci := 6) ⟨hx, hb, hml, hown, hts⟩ (c_X6_bay l D cI cC cB cS a g ob (dd 0) (o 0) (x 0) n q (nI k) (4) hI.hn hI.hnb hI.hq hI.hqc) (cwV 2 hts gL_law_X6_bay rfl rfl rfl (by decide +kernel) ⟨Nat.le_of_ble_eq_true rfl, Nat.le_of_ble_eq_true rfl⟩) hK hP2 rfl rfl rfl rfl hl.1 (Nat.le_of_ble_eq_true rfl) dL_law_234 hF (fun r_1 hr_1 => ?_)
  have er_1 : r_1 = g 7 k := k_b4 hI hk hr_1
  subst er_1
  refine lv_iconst (v := 1) hx hb dL_law_237 (by decide) ?_
  refine lv_icmp_ne (tgt := 265) hx hb dL_law_238 (by decide) (fun c_2 => ?_) (fun c_2 => ?_)
  · -- c_2: g 7 k ≠ 1
    refine lv_iconst (v := 0) hx hb dL_law_265 (by decide) ?_
    refine lv_iadd hx hb dL_law_266 ?_
    rw [show (((nI zf) + (0)) : Int32) = nI zf from i_add0 _]
    refine lv_istore (lv' := [(9, .int (nI zf)), (0, .ref (bs)), (1, .ref (ob)), (2, .int (nI np)), (3, .int (nI ei)), (8, .int (nI zc)), (10, .int (nI k)), (11, .int (pv))]) hx hb dL_law_267 hl (by decide) rfl (fun ls hl => ?_)
    exact kk _ _ (Or.inr ⟨fun z => c_2 z.1, rfl⟩) (lv_sub hl [1, 2, 3, 4, 5, 0, 6] rfl)
  · -- c_2: not g 7 k ≠ 1
    have h7 : g 7 k = 1 := c_2
    rcases hpv with ⟨h8, rfl⟩ | ⟨h8, rfl⟩
    · -- empty
      refine lv_iload hx hb dL_law_241 (lv_at hl 7 rfl) ?_
      refine lv_bipush (v := -9) hx hb dL_law_243 (by decide) ?_
      refine lv_icmp_ne (tgt := 265) hx hb dL_law_245 (by decide) (fun c => absurd c (by decide)) (fun _ => ?_)
      refine lv_aload_n hx hb dL_law_248 rfl (lv_at hl 1 rfl) ?_
      refine lv_iload hx hb dL_law_249 (lv_at hl 6 rfl) ?_
      refine lv_bipush (v := 6) hx hb dL_law_251 (by decide) ?_
      refine lr_i (As := [.int (nI k), .int (6)]) (rest := [.int (nI zf)]) (tys := TYS cI cC cB cS) (ci := 6) ⟨hx, hb, hml, hown, hts⟩ (c_X6_bay l D cI cC cB cS a g ob (dd 0) (o 0) (x 0) n q (nI k) (6) hI.hn hI.hnb hI.hq hI.hqc) (cwV 2 hts gL_law_X6_bay rfl rfl rfl (by decide +kernel) ⟨Nat.le_of_ble_eq_true rfl, Nat.le_of_ble_eq_true rfl⟩) hK hP2 rfl rfl rfl rfl hl.1 (Nat.le_of_ble_eq_true rfl) dL_law_253 hF (fun r_3 hr_3 => ?_)
      rcases k_b6 hI hk hr_3 with ⟨hd, w, hw, er_3⟩ | ⟨hd, er_3⟩
      · subst er_3
        refine lv_bipush (v := -9) hx hb dL_law_256 (by decide) ?_
        refine lv_icmp_ne (tgt := 265) hx hb dL_law_258 (by decide) (fun _ => ?_) (fun q9 => absurd q9 (fun z => m9_ne hw hI.q31 z.symm))
        refine lv_iconst (v := 0) hx hb dL_law_265 (by decide) ?_
        refine lv_iadd hx hb dL_law_266 ?_
        rw [show (((nI zf) + (0)) : Int32) = nI zf from i_add0 _]
        refine lv_istore (lv' := [(9, .int (nI zf)), (0, .ref (bs)), (1, .ref (ob)), (2, .int (nI np)), (3, .int (nI ei)), (8, .int (nI zc)), (10, .int (nI k)), (11, .int (-9))]) hx hb dL_law_267 hl (by decide) rfl (fun ls hl => ?_)
        exact kk _ _ (Or.inr ⟨fun z => z.2.2 hd, rfl⟩) (lv_sub hl [1, 2, 3, 4, 5, 0, 6] rfl)
      · subst er_3
        refine lv_bipush (v := -9) hx hb dL_law_256 (by decide) ?_
        refine lv_icmp_ne (tgt := 265) hx hb dL_law_258 (by decide) (fun c => absurd c (by decide)) (fun _ => ?_)
        refine lv_iconst (v := 1) hx hb dL_law_261 (by decide) ?_
        refine lv_goto (tgt := 266) hx hb dL_law_262 (by decide) ?_
        refine lv_iadd hx hb dL_law_266 ?_
        rw [show (((nI zf) + (1)) : Int32) = nI (zf + 1) from nI_1 _]
        refine lv_istore (lv' := [(9, .int (nI (zf + 1))), (0, .ref (bs)), (1, .ref (ob)), (2, .int (nI np)), (3, .int (nI ei)), (8, .int (nI zc)), (10, .int (nI k)), (11, .int (-9))]) hx hb dL_law_267 hl (by decide) rfl (fun ls hl => ?_)
        exact kk _ _ (Or.inl ⟨⟨h7, h8, hd⟩, rfl⟩) (lv_sub hl [1, 2, 3, 4, 5, 0, 6] rfl)
    · -- a car in it
      have hps := i_pos_m9 (hE.x8 k hk h8).1
      refine lv_iload hx hb dL_law_241 (lv_at hl 7 rfl) ?_
      refine lv_bipush (v := -9) hx hb dL_law_243 (by decide) ?_
      refine lv_icmp_ne (tgt := 265) hx hb dL_law_245 (by decide) (fun _ => ?_) (fun q9 => absurd q9 (hps))
      refine lv_iconst (v := 0) hx hb dL_law_265 (by decide) ?_
      refine lv_iadd hx hb dL_law_266 ?_
      rw [show (((nI zf) + (0)) : Int32) = nI zf from i_add0 _]
      refine lv_istore (lv' := [(9, .int (nI zf)), (0, .ref (bs)), (1, .ref (ob)), (2, .int (nI np)), (3, .int (nI ei)), (8, .int (nI zc)), (10, .int (nI k)), (11, .int (g 8 k))]) hx hb dL_law_267 hl (by decide) rfl (fun ls hl => ?_)
      exact kk _ _ (Or.inr ⟨fun z => h8 z.2.1, rfl⟩) (lv_sub hl [1, 2, 3, 4, 5, 0, 6] rfl)
set_option maxHeartbeats 4000000 in
set_option maxRecDepth 100000 in
theorem sg_c (hC : LC p s m c D cI cC cB cS tL tG aK aV bs Lx xs) (hLK : LK D cI cC cS ob a dd o x g np b hs H cells slots lf n q tn tu T ee) (hk : k < n) (hl : lv_has ls 14 [(0, .ref (bs)), (1, .ref (ob)), (2, .int (nI np)), (3, .int (nI ei)), (8, .int (nI zc)), (9, .int (nI zf)), (10, .int (nI k))]) (kk : ∀ (ls : Array Slot), lv_has ls 14 [(0, .ref (bs)), (1, .ref (ob)), (2, .int (nI np)), (3, .int (nI ei)), (8, .int (nI zc)), (9, .int (nI zf)), (10, .int (nI k))] → W p l e room_1 s m #[Value.ref bs] below meth c H locs cells slots Q (F0 m 320 ls [])) : W p l e room_1 s m #[Value.ref bs] below meth c H locs cells slots Q (F0 m 269 ls []) := by
  obtain ⟨hx, hb, hml, hown, hts, hX, hbl, hK, hZ, hLx⟩ := id hC
  obtain ⟨hP, hF, hI, hE⟩ := id hLK
  have hP2 := bl_2 hP
  have hP4 := bl_4 hP
  refine lv_aload_n hx hb dL_law_269 rfl (lv_at hl 1 rfl) ?_
  refine lv_iload hx hb dL_law_270 (lv_at hl 6 rfl) ?_
  refine lr_i (As := [.int (nI k)]) (rest := []) (tys := TYS cI cC cB cS) (ci := 6) ⟨hx, hb, hml, hown, hts⟩ (c_X6_freeFor l D cI cC cB cS a g ob (dd 0) (o 0) (x 0) n q (nI k) hI.hn hI.hnb hI.hq hI.hqc) (cwV 1 hts gL_law_X6_freeFor rfl rfl rfl (by decide +kernel) ⟨Nat.le_of_ble_eq_true rfl, Nat.le_of_ble_eq_true rfl⟩) hK hP2 rfl rfl rfl rfl hl.1 (Nat.le_of_ble_eq_true rfl) dL_law_272 hF (fun r_1 hr_1 => ?_)
  rcases k_ff hk hr_1 with ⟨hd, er_1⟩ | ⟨hd, er_1⟩ | ⟨hd, hp⟩
  · subst er_1
    refine lv_istore (lv' := [(12, .int (0)), (0, .ref (bs)), (1, .ref (ob)), (2, .int (nI np)), (3, .int (nI ei)), (8, .int (nI zc)), (9, .int (nI zf)), (10, .int (nI k))]) hx hb dL_law_275 hl (by decide) rfl (fun ls hl => ?_)
    refine lv_iload hx hb dL_law_277 (lv_at hl 0 rfl) ?_
    refine lv_if_ne (tgt := 286) hx hb dL_law_279 (by decide) (fun q9 => absurd (rfl) q9) (fun _ => ?_)
    refine lv_iconst (v := 1) hx hb dL_law_282 (by decide) ?_
    refine lv_goto (tgt := 287) hx hb dL_law_283 (by decide) ?_
    refine lv_aload_n hx hb dL_law_287 rfl (lv_at hl 2 rfl) ?_
    refine lv_iload hx hb dL_law_288 (lv_at hl 7 rfl) ?_
    refine lv_bipush (v := 6) hx hb dL_law_290 (by decide) ?_
    refine lr_i (As := [.int (nI k), .int (6)]) (rest := [.int (1)]) (tys := TYS cI cC cB cS) (ci := 6) ⟨hx, hb, hml, hown, hts⟩ (c_X6_bay l D cI cC cB cS a g ob (dd 0) (o 0) (x 0) n q (nI k) (6) hI.hn hI.hnb hI.hq hI.hqc) (cwV 2 hts gL_law_X6_bay rfl rfl rfl (by decide +kernel) ⟨Nat.le_of_ble_eq_true rfl, Nat.le_of_ble_eq_true rfl⟩) hK hP2 rfl rfl rfl rfl hl.1 (Nat.le_of_ble_eq_true rfl) dL_law_292 hF (fun r_2 hr_2 => ?_)
    rcases k_b6 hI hk hr_2 with ⟨hd2, w, hw, er_2⟩ | ⟨hd2, er_2⟩
    · subst er_2
      refine lv_if_lt (tgt := 302) hx hb dL_law_295 (by decide) (fun q9 => absurd q9 (nI_pos (by have := hI.q31; omega))) (fun _ => ?_)
      refine lv_iconst (v := 1) hx hb dL_law_298 (by decide) ?_
      refine lv_goto (tgt := 303) hx hb dL_law_299 (by decide) ?_
      refine lv_icmp_ne (tgt := 318) hx hb dL_law_303 (by decide) (fun c => absurd c (by decide)) (fun _ => ?_)
      refine lv_iload hx hb dL_law_306 (lv_at hl 0 rfl) ?_
      refine lv_if_ge (tgt := 320) hx hb dL_law_308 (by decide) (fun _ => ?_) (fun q9 => absurd (by decide) q9)
      exact kk _ (lv_sub hl [1, 2, 3, 4, 5, 6, 7] rfl)
    · exact absurd hd hd2
  · subst er_1
    refine lv_istore (lv' := [(12, .int (-9)), (0, .ref (bs)), (1, .ref (ob)), (2, .int (nI np)), (3, .int (nI ei)), (8, .int (nI zc)), (9, .int (nI zf)), (10, .int (nI k))]) hx hb dL_law_275 hl (by decide) rfl (fun ls hl => ?_)
    refine lv_iload hx hb dL_law_277 (lv_at hl 0 rfl) ?_
    refine lv_if_ne (tgt := 286) hx hb dL_law_279 (by decide) (fun _ => ?_) (fun q9 => absurd q9 (by decide))
    refine lv_iconst (v := 0) hx hb dL_law_286 (by decide) ?_
    refine lv_aload_n hx hb dL_law_287 rfl (lv_at hl 2 rfl) ?_
    refine lv_iload hx hb dL_law_288 (lv_at hl 7 rfl) ?_
    refine lv_bipush (v := 6) hx hb dL_law_290 (by decide) ?_
    refine lr_i (As := [.int (nI k), .int (6)]) (rest := [.int (0)]) (tys := TYS cI cC cB cS) (ci := 6) ⟨hx, hb, hml, hown, hts⟩ (c_X6_bay l D cI cC cB cS a g ob (dd 0) (o 0) (x 0) n q (nI k) (6) hI.hn hI.hnb hI.hq hI.hqc) (cwV 2 hts gL_law_X6_bay rfl rfl rfl (by decide +kernel) ⟨Nat.le_of_ble_eq_true rfl, Nat.le_of_ble_eq_true rfl⟩) hK hP2 rfl rfl rfl rfl hl.1 (Nat.le_of_ble_eq_true rfl) dL_law_292 hF (fun r_3 hr_3 => ?_)
    rcases k_b6 hI hk hr_3 with ⟨hd2, w, hw, er_3⟩ | ⟨hd2, er_3⟩
    · exact absurd hd2 hd
    · subst er_3
      refine lv_if_lt (tgt := 302) hx hb dL_law_295 (by decide) (fun _ => ?_) (fun q9 => absurd (by decide) q9)
      refine lv_iconst (v := 0) hx hb dL_law_302 (by decide) ?_
      refine lv_icmp_ne (tgt := 318) hx hb dL_law_303 (by decide) (fun c => absurd c (by decide)) (fun _ => ?_)
      refine lv_iload hx hb dL_law_306 (lv_at hl 0 rfl) ?_
      refine lv_if_ge (tgt := 320) hx hb dL_law_308 (by decide) (fun q9 => absurd q9 (by decide)) (fun _ => ?_)
      refine lv_iload hx hb dL_law_311 (lv_at hl 0 rfl) ?_
      refine lv_bipush (v := -9) hx hb dL_law_313 (by decide) ?_
      refine lv_icmp_eq (tgt := 320) hx hb dL_law_315 (by decide) (fun _ => ?_) (fun c => absurd (by decide) c)
      exact kk _ (lv_sub hl [1, 2, 3, 4, 5, 6, 7] rfl)
  · -- a number above 0
    refine lv_istore (lv' := [(12, .int (r_1)), (0, .ref (bs)), (1, .ref (ob)), (2, .int (nI np)), (3, .int (nI ei)), (8, .int (nI zc)), (9, .int (nI zf)), (10, .int (nI k))]) hx hb dL_law_275 hl (by decide) rfl (fun ls hl => ?_)
    refine lv_iload hx hb dL_law_277 (lv_at hl 0 rfl) ?_
    refine lv_if_ne (tgt := 286) hx hb dL_law_279 (by decide) (fun _ => ?_) (fun q9 => absurd q9 (i_gt_ne hp))
    refine lv_iconst (v := 0) hx hb dL_law_286 (by decide) ?_
    refine lv_aload_n hx hb dL_law_287 rfl (lv_at hl 2 rfl) ?_
    refine lv_iload hx hb dL_law_288 (lv_at hl 7 rfl) ?_
    refine lv_bipush (v := 6) hx hb dL_law_290 (by decide) ?_
    refine lr_i (As := [.int (nI k), .int (6)]) (rest := [.int (0)]) (tys := TYS cI cC cB cS) (ci := 6) ⟨hx, hb, hml, hown, hts⟩ (c_X6_bay l D cI cC cB cS a g ob (dd 0) (o 0) (x 0) n q (nI k) (6) hI.hn hI.hnb hI.hq hI.hqc) (cwV 2 hts gL_law_X6_bay rfl rfl rfl (by decide +kernel) ⟨Nat.le_of_ble_eq_true rfl, Nat.le_of_ble_eq_true rfl⟩) hK hP2 rfl rfl rfl rfl hl.1 (Nat.le_of_ble_eq_true rfl) dL_law_292 hF (fun r_4 hr_4 => ?_)
    rcases k_b6 hI hk hr_4 with ⟨hd2, w, hw, er_4⟩ | ⟨hd2, er_4⟩
    · exact absurd hd2 hd
    · subst er_4
      refine lv_if_lt (tgt := 302) hx hb dL_law_295 (by decide) (fun _ => ?_) (fun q9 => absurd (by decide) q9)
      refine lv_iconst (v := 0) hx hb dL_law_302 (by decide) ?_
      refine lv_icmp_ne (tgt := 318) hx hb dL_law_303 (by decide) (fun c => absurd c (by decide)) (fun _ => ?_)
      refine lv_iload hx hb dL_law_306 (lv_at hl 0 rfl) ?_
      refine lv_if_ge (tgt := 320) hx hb dL_law_308 (by decide) (fun _ => ?_) (fun q9 => absurd (i_gt_ge hp) q9)
      exact kk _ (lv_sub hl [1, 2, 3, 4, 5, 6, 7] rfl)
set_option maxHeartbeats 4000000 in
set_option maxRecDepth 100000 in
theorem sg_bays (hC : LC p s m c D cI cC cB cS tL tG aK aV bs Lx xs) (hLK : LK D cI cC cS ob a dd o x g np b hs H cells slots lf n q tn tu T ee) (kk : ∀ (ls : Array Slot) (zc zf : Nat), Cnt (fun w => ¬ g 8 w = 0) n zc → Cnt (fun w => Fr g q w) n zf → lv_has ls 14 [(0, .ref (bs)), (1, .ref (ob)), (2, .int (nI np)), (3, .int (nI ei)), (8, .int (nI zc)), (9, .int (nI zf))] → W p l e room_1 s m #[Value.ref bs] below meth c H locs cells slots Q (F0 m 326 ls [])) : ∀ (d k zc zf : Nat), k ≤ n → n - k < d → Cnt (fun w => ¬ g 8 w = 0) k zc → Cnt (fun w => Fr g q w) k zf → ∀ (ls : Array Slot), lv_has ls 14 [(0, .ref (bs)), (1, .ref (ob)), (2, .int (nI np)), (3, .int (nI ei)), (8, .int (nI zc)), (9, .int (nI zf)), (10, .int (nI k))] → W p l e room_1 s m #[Value.ref bs] below meth c H locs cells slots Q (F0 m 160 ls []) := by
  obtain ⟨hx, hb, hml, hown, hts, hX, hbl, hK, hZ, hLx⟩ := id hC
  obtain ⟨hP, hF, hI, hE⟩ := id hLK
  have hP4 := bl_4 hP
  intro d
  induction d with
  | zero => intro k zc zf _ h2; exact absurd h2 (Nat.not_lt_zero _)
  | succ d ih =>
    intro k zc zf hkn hd hc hf ls hl
    refine lv_iload hx hb dL_law_160 (lv_at hl 6 rfl) ?_
    refine lv_aload_n hx hb dL_law_162 rfl (lv_at hl 1 rfl) ?_
    refine lv_iconst (v := 0) hx hb dL_law_163 (by decide) ?_
    refine lr_i (As := [.int (0)]) (rest := [.int (nI k)]) (tys := TYS cI cC cB cS) (ci := 6) ⟨hx, hb, hml, hown, hts⟩ (c_X6_count l D cI cC cB cS a g ob (dd 0) (o 0) (x 0) n q (nI 0) (x 1) (nI 0) (nI 0) (nI 0) np (o 1) (0) hI.hn hI.hnb hI.hq hI.hqc) (cwV 1 hts gL_law_X6_count rfl rfl rfl (by decide +kernel) ⟨Nat.le_of_ble_eq_true rfl, Nat.le_of_ble_eq_true rfl⟩) hK hP4 rfl rfl rfl rfl hl.1 (Nat.le_of_ble_eq_true rfl) dL_law_164 hF (fun r1 h1 => ?_)
    have e1 := k_c0 h1
    subst e1
    refine lv_icmp_ge (tgt := 326) hx hb dL_law_167 (by decide) (fun c1 => ?_) (fun c1 => ?_)
    · have hge : k = n := nI_geD rfl hkn hI.n31 c1
      subst hge
      exact kk _ zc zf hc hf (lv_sub hl [0, 1, 2, 3, 4, 5] rfl)
    · have hk : k < n := nI_ltD rfl hkn hI.n31 c1
      refine sg_a hC hLK hk hl (fun ls zc2 pv2 h2 hl => ?_)
      have hpv : (g 8 k = 0 ∧ pv2 = -9) ∨ (¬ g 8 k = 0 ∧ pv2 = g 8 k) := h2.imp (fun q => ⟨q.1, q.2.1⟩) (fun q => ⟨q.1, q.2.1⟩)
      have hc2 : Cnt (fun w => ¬ g 8 w = 0) (k + 1) zc2 := by
        rcases h2 with ⟨h8, -, rfl⟩ | ⟨h8, -, rfl⟩
        · exact hc.n (fun q => q h8)
        · exact hc.y h8
      refine sg_b hC hLK hk hpv hl (fun ls zf2 h3 hl => ?_)
      have hf2 : Cnt (fun w => Fr g q w) (k + 1) zf2 := by
        rcases h3 with ⟨h9, rfl⟩ | ⟨h9, rfl⟩
        · exact hf.y h9
        · exact hf.n h9
      refine sg_c hC hLK hk hl (fun ls hl => ?_)
      refine lv_iinc (v := nI (k + 1)) (lv' := [(10, .int (nI (k + 1))), (0, .ref (bs)), (1, .ref (ob)), (2, .int (nI np)), (3, .int (nI ei)), (8, .int (nI zc2)), (9, .int (nI zf2))]) hx hb dL_law_320 hl (k := 6) rfl (nI_1 _) (by decide) rfl (fun ls hl => ?_)
      refine lv_goto (tgt := 160) hx hb dL_law_323 (by decide) ?_
      exact ih (k + 1) zc2 zf2 hk (by omega) hc2 hf2 ls (lv_sub hl [1, 2, 3, 4, 5, 6, 0] rfl)
end LSEG
