/-! ===== the law, case by case (laid by wip/whole/gen/law.py) ===== -/
section LCASES
variable {p : Program} {l : Launch} {e : Env} {s : State} {m : MethodId} {below : List Frame} {meth : Method} {c : Code} {H : Heap} {locs : List Loc} {cells slots : Nat} {Q : State → Prop} {ls : Array Slot} {D : va_G} {cI cC cB cS : ClassId} {tL tG : Nat} {aK aV : Nat → Nat} {bs Lx i : Nat} {xs : Nat → Int32} {ob : Nat} {a dd o x ma : Nat → Nat}
variable {g : Nat → Nat → Int32} {lf : Int32} {np : Nat} {b : Nat → Nat → Nat} {hs : Nat → Nat → Nat → Int32} {lfs Pp : Nat → Int32} {dg : Nat → Nat → Int32} {L tk ts te : Nat} {f E ex : Nat → Int32} {wd : Int64}
set_option maxHeartbeats 4000000 in
set_option maxRecDepth 100000 in
theorem lc_addBay (hC : LC p s m c D cI cC cB cS tL tG aK aV bs Lx xs) (hl : lv_has ls 4 [(0, .ref bs), (1, .ref ob), (2, .ref (ma 0)), (3, .int (nI i))]) (hi : i + 5 ≤ Lx) (hcl : cells ≤ 600000) (hsl : slots ≤ 7302250) (hL : LSt g lf np hs lfs Pp L f) (hP : va_P D vwCl (wL (lb (kB cI cC cS ob a dd o x g np b hs dg L tk ts te f) (mB cI cB ma g lf np L f Pp E ex wd))) H) (hD : va_D (fun q => s.heap.size ≤ q) (wL (lb (kB cI cC cS ob a dd o x g np b hs dg L tk ts te f) (mB cI cB ma g lf np L f Pp E ex wd)))) (hS : va_S (fun q => s.heap.size ≤ q) s.heap H locs) (kk : KK p l e s m below meth c bs cells slots Q D cI cC cB cS ob a dd o x ma 910 ls) : W p l e room_1 s m #[Value.ref bs] below meth c H locs cells slots Q (F0 m 152 ls []) := by
  obtain ⟨hx, hb, hml, hown, hts, hX, hbl, hK, hZ, hLx⟩ := hC
  have hl2 : lv_has ls 4 [(0, .ref bs), (3, .int (nI i)), (1, .ref ob)] := lv_sub hl [0, 3, 1] rfl
  have hA : ∀ q : Nat, s.heap.size ≤ q → (fun q : Nat => s.heap.size ≤ q) q := fun _ h => h
  have hbA : ¬ (fun q : Nat => s.heap.size ≤ q) bs := Nat.not_le.mpr hbl
  obtain ⟨⟨n, q, tn, tu, T, hI⟩, hnp, hh, hPR, hLb, hch⟩ := id hL
  have hn31 : n < 2 ^ 31 := by have := hI.hnb; omega
  have hq31 : q < 2 ^ 31 := by have := hI.hqc; omega
  refine lv_aload_n hx hb dL_law_152 rfl (lv_at hl 1 rfl) ?_
  refine ls_arg hx hb hl2 hX hbl hbA hS 1 (by decide) hi hLx dL_law_153 dL_law_154 dL_law_155 dL_law_156 dL_law_157 ?_
  refine ls_arg hx hb hl2 hX hbl hbA hS 2 (by decide) hi hLx dL_law_158 dL_law_159 dL_law_160 dL_law_161 dL_law_162 ?_
  refine ls_arg hx hb hl2 hX hbl hbA hS 3 (by decide) hi hLx dL_law_163 dL_law_164 dL_law_165 dL_law_166 dL_law_167 ?_
  refine lw_wi (As := [.int (xs (i + 1)), .int (xs (i + 2)), .int (xs (i + 3))]) (rest := []) (tys := TYS cI cC cB cS) (ci := 6) (fun u => lb (kB cI cC cS ob a dd o x u.1 u.2.1 u.2.2.1 u.2.2.2 dg L tk ts te f) (mB cI cB ma g lf np L f Pp E ex wd)) ⟨hx, hb, hml, hown, hts⟩ (c_X6_addBay l D cI cC cB cS _ a g ob (dd 0) (x 0) o b hs np n (xs (i + 1)) (xs (i + 2)) (xs (i + 3)) hnp hI.hn hI.hnb) (cwV 3 hts gL_law_X6_addBay rfl rfl rfl (by decide +kernel) ⟨Nat.le_of_ble_eq_true rfl, Nat.le_of_ble_eq_true rfl⟩) hK hP hD hS hA [0, 1, 2, 5] [3, 4, 6, 7, 8, 9, 10] (by decide) (ap4 _ _ _ _) (fun u => ap4 _ _ _ _) (fun u => rfl) rfl rfl rfl rfl hl.1 (Nat.le_of_ble_eq_true rfl) dL_law_168 ⟨hcl, hsl⟩ (fun r1 u1 H locs h1 hP hD hS => ?_)
  obtain ⟨g1, np1, b1, hs1⟩ := u1
  have hP : va_P D vwCl (wL (lb (kB cI cC cS ob a dd o x g1 np1 b1 hs1 dg L tk ts te f) (mB cI cB ma g lf np L f Pp E ex wd))) H := hP
  have hD : va_D (fun q => s.heap.size ≤ q) (wL (lb (kB cI cC cS ob a dd o x g1 np1 b1 hs1 dg L tk ts te f) (mB cI cB ma g lf np L f Pp E ex wd))) := hD
  obtain ⟨o1, h1, s1⟩ := h1
  refine lv_aload_n hx hb dL_law_171 rfl (lv_at hl 2 rfl) ?_
  refine ls_arg hx hb hl2 hX hbl hbA hS 1 (by decide) hi hLx dL_law_172 dL_law_173 dL_law_174 dL_law_175 dL_law_176 ?_
  refine ls_arg hx hb hl2 hX hbl hbA hS 2 (by decide) hi hLx dL_law_177 dL_law_178 dL_law_179 dL_law_180 dL_law_181 ?_
  refine ls_arg hx hb hl2 hX hbl hbA hS 3 (by decide) hi hLx dL_law_182 dL_law_183 dL_law_184 dL_law_185 dL_law_186 ?_
  refine lw_wi (As := [.int (xs (i + 1)), .int (xs (i + 2)), .int (xs (i + 3))]) (rest := [.int r1]) (tys := TYS cI cC cB cS) (ci := 7) (fun u => lb (kB cI cC cS ob a dd o x g1 np1 b1 hs1 dg L tk ts te f) (mB cI cB ma u.1 u.2.1 u.2.2.1 L f u.2.2.2.2.2 E ex wd)) ⟨hx, hb, hml, hown, hts⟩ (c_X7_addBay l D cI cC cB cS _ ma (fiF np L ex) wd g lf np Pp hs lfs n (xs (i + 1)) (xs (i + 2)) (xs (i + 3)) hnp hPR hI.hn hI.hnb) (cwV 3 hts gL_law_X7_addBay rfl rfl rfl (by decide +kernel) ⟨Nat.le_of_ble_eq_true rfl, Nat.le_of_ble_eq_true rfl⟩) hK hP hD hS hA [6, 7, 8] [0, 1, 2, 3, 4, 5, 9, 10] (by decide) rfl (fun u => rfl) (fun u => rfl) rfl rfl rfl rfl hl.1 (Nat.le_of_ble_eq_true rfl) dL_law_187 ⟨hcl, hsl⟩ (fun r2 u2 H locs h2 hP hD hS => ?_)
  obtain ⟨g2, lf2, np2, hs2, lfs2, Pp2⟩ := u2
  have hP : va_P D vwCl (wL (lb (kB cI cC cS ob a dd o x g1 np1 b1 hs1 dg L tk ts te f) (mB cI cB ma g2 lf2 np2 L f Pp2 E ex wd))) H := hP
  have hD : va_D (fun q => s.heap.size ≤ q) (wL (lb (kB cI cC cS ob a dd o x g1 np1 b1 hs1 dg L tk ts te f) (mB cI cB ma g2 lf2 np2 L f Pp2 E ex wd))) := hD
  obtain ⟨o2, h2, s2⟩ := h2
  obtain ⟨hrr, eo⟩ := OaddBay_one h1 h2
  subst eo
  obtain ⟨e1, e2, hL2⟩ := sv_both hL (hI.kaddBay h1) s1 s2
  subst hrr
  have e1 : g2 = g1 := e1
  have e2 : np2 = np1 := e2
  subst e1 e2
  refine lv_icmp_eq (tgt := 910) hx hb dL_law_190 (by decide) (fun _ => ?_) (fun q => absurd rfl q)
  exact kk _ _ _ _ _ _ _ _ _ _ _ _ _ _ _ _ _ _ hL2 hP hD hS
set_option maxHeartbeats 4000000 in
set_option maxRecDepth 100000 in
theorem lc_setBay (hC : LC p s m c D cI cC cB cS tL tG aK aV bs Lx xs) (hl : lv_has ls 4 [(0, .ref bs), (1, .ref ob), (2, .ref (ma 0)), (3, .int (nI i))]) (hi : i + 5 ≤ Lx) (hcl : cells ≤ 600000) (hsl : slots ≤ 7302250) (hL : LSt g lf np hs lfs Pp L f) (hP : va_P D vwCl (wL (lb (kB cI cC cS ob a dd o x g np b hs dg L tk ts te f) (mB cI cB ma g lf np L f Pp E ex wd))) H) (hD : va_D (fun q => s.heap.size ≤ q) (wL (lb (kB cI cC cS ob a dd o x g np b hs dg L tk ts te f) (mB cI cB ma g lf np L f Pp E ex wd)))) (hS : va_S (fun q => s.heap.size ≤ q) s.heap H locs) (kk : KK p l e s m below meth c bs cells slots Q D cI cC cB cS ob a dd o x ma 910 ls) : W p l e room_1 s m #[Value.ref bs] below meth c H locs cells slots Q (F0 m 195 ls []) := by
  obtain ⟨hx, hb, hml, hown, hts, hX, hbl, hK, hZ, hLx⟩ := hC
  have hl2 : lv_has ls 4 [(0, .ref bs), (3, .int (nI i)), (1, .ref ob)] := lv_sub hl [0, 3, 1] rfl
  have hA : ∀ q : Nat, s.heap.size ≤ q → (fun q : Nat => s.heap.size ≤ q) q := fun _ h => h
  have hbA : ¬ (fun q : Nat => s.heap.size ≤ q) bs := Nat.not_le.mpr hbl
  obtain ⟨⟨n, q, tn, tu, T, hI⟩, hnp, hh, hPR, hLb, hch⟩ := id hL
  have hn31 : n < 2 ^ 31 := by have := hI.hnb; omega
  have hq31 : q < 2 ^ 31 := by have := hI.hqc; omega
  refine lv_aload_n hx hb dL_law_195 rfl (lv_at hl 1 rfl) ?_
  refine ls_arg hx hb hl2 hX hbl hbA hS 1 (by decide) hi hLx dL_law_196 dL_law_197 dL_law_198 dL_law_199 dL_law_200 ?_
  refine ls_arg hx hb hl2 hX hbl hbA hS 2 (by decide) hi hLx dL_law_201 dL_law_202 dL_law_203 dL_law_204 dL_law_205 ?_
  refine lw_wi (As := [.int (xs (i + 1)), .int (xs (i + 2))]) (rest := []) (tys := TYS cI cC cB cS) (ci := 6) (fun u => lb (kB cI cC cS ob a dd o x u.1 u.2.1 u.2.2.1 u.2.2.2 dg L tk ts te f) (mB cI cB ma g lf np L f Pp E ex wd)) ⟨hx, hb, hml, hown, hts⟩ (c_X6_setBay l D cI cC cB cS _ a g ob (dd 0) (x 0) o b hs np n (xs (i + 1)) (xs (i + 2)) hnp hI.hn hI.hnb) (cwV 2 hts gL_law_X6_setBay rfl rfl rfl (by decide +kernel) ⟨Nat.le_of_ble_eq_true rfl, Nat.le_of_ble_eq_true rfl⟩) hK hP hD hS hA [0, 1, 2, 5] [3, 4, 6, 7, 8, 9, 10] (by decide) (ap4 _ _ _ _) (fun u => ap4 _ _ _ _) (fun u => rfl) rfl rfl rfl rfl hl.1 (Nat.le_of_ble_eq_true rfl) dL_law_206 ⟨hcl, hsl⟩ (fun r1 u1 H locs h1 hP hD hS => ?_)
  obtain ⟨g1, np1, b1, hs1⟩ := u1
  have hP : va_P D vwCl (wL (lb (kB cI cC cS ob a dd o x g1 np1 b1 hs1 dg L tk ts te f) (mB cI cB ma g lf np L f Pp E ex wd))) H := hP
  have hD : va_D (fun q => s.heap.size ≤ q) (wL (lb (kB cI cC cS ob a dd o x g1 np1 b1 hs1 dg L tk ts te f) (mB cI cB ma g lf np L f Pp E ex wd))) := hD
  obtain ⟨o1, h1, s1⟩ := h1
  refine lv_aload_n hx hb dL_law_209 rfl (lv_at hl 2 rfl) ?_
  refine ls_arg hx hb hl2 hX hbl hbA hS 1 (by decide) hi hLx dL_law_210 dL_law_211 dL_law_212 dL_law_213 dL_law_214 ?_
  refine ls_arg hx hb hl2 hX hbl hbA hS 2 (by decide) hi hLx dL_law_215 dL_law_216 dL_law_217 dL_law_218 dL_law_219 ?_
  refine lw_wi (As := [.int (xs (i + 1)), .int (xs (i + 2))]) (rest := [.int r1]) (tys := TYS cI cC cB cS) (ci := 7) (fun u => lb (kB cI cC cS ob a dd o x g1 np1 b1 hs1 dg L tk ts te f) (mB cI cB ma u.1 u.2.1 u.2.2.1 L f u.2.2.2.2.2 E ex wd)) ⟨hx, hb, hml, hown, hts⟩ (c_X7_setBay l D cI cC cB cS _ ma (fiF np L ex) wd g lf np Pp hs lfs n (xs (i + 1)) (xs (i + 2)) hnp hPR hI.hn hI.hnb) (cwV 2 hts gL_law_X7_setBay rfl rfl rfl (by decide +kernel) ⟨Nat.le_of_ble_eq_true rfl, Nat.le_of_ble_eq_true rfl⟩) hK hP hD hS hA [6, 7, 8] [0, 1, 2, 3, 4, 5, 9, 10] (by decide) rfl (fun u => rfl) (fun u => rfl) rfl rfl rfl rfl hl.1 (Nat.le_of_ble_eq_true rfl) dL_law_220 ⟨hcl, hsl⟩ (fun r2 u2 H locs h2 hP hD hS => ?_)
  obtain ⟨g2, lf2, np2, hs2, lfs2, Pp2⟩ := u2
  have hP : va_P D vwCl (wL (lb (kB cI cC cS ob a dd o x g1 np1 b1 hs1 dg L tk ts te f) (mB cI cB ma g2 lf2 np2 L f Pp2 E ex wd))) H := hP
  have hD : va_D (fun q => s.heap.size ≤ q) (wL (lb (kB cI cC cS ob a dd o x g1 np1 b1 hs1 dg L tk ts te f) (mB cI cB ma g2 lf2 np2 L f Pp2 E ex wd))) := hD
  obtain ⟨o2, h2, s2⟩ := h2
  obtain ⟨hrr, eo⟩ := OsetBay_one hn31 h1 h2
  subst eo
  obtain ⟨e1, e2, hL2⟩ := sv_both hL (hI.ksetBay h1) s1 s2
  subst hrr
  have e1 : g2 = g1 := e1
  have e2 : np2 = np1 := e2
  subst e1 e2
  refine lv_icmp_eq (tgt := 910) hx hb dL_law_223 (by decide) (fun _ => ?_) (fun q => absurd rfl q)
  exact kk _ _ _ _ _ _ _ _ _ _ _ _ _ _ _ _ _ _ hL2 hP hD hS
set_option maxHeartbeats 4000000 in
set_option maxRecDepth 100000 in
theorem lc_setStep (hC : LC p s m c D cI cC cB cS tL tG aK aV bs Lx xs) (hl : lv_has ls 4 [(0, .ref bs), (1, .ref ob), (2, .ref (ma 0)), (3, .int (nI i))]) (hi : i + 5 ≤ Lx) (hcl : cells ≤ 600000) (hsl : slots ≤ 7302250) (hL : LSt g lf np hs lfs Pp L f) (hP : va_P D vwCl (wL (lb (kB cI cC cS ob a dd o x g np b hs dg L tk ts te f) (mB cI cB ma g lf np L f Pp E ex wd))) H) (hD : va_D (fun q => s.heap.size ≤ q) (wL (lb (kB cI cC cS ob a dd o x g np b hs dg L tk ts te f) (mB cI cB ma g lf np L f Pp E ex wd)))) (hS : va_S (fun q => s.heap.size ≤ q) s.heap H locs) (kk : KK p l e s m below meth c bs cells slots Q D cI cC cB cS ob a dd o x ma 910 ls) : W p l e room_1 s m #[Value.ref bs] below meth c H locs cells slots Q (F0 m 228 ls []) := by
  obtain ⟨hx, hb, hml, hown, hts, hX, hbl, hK, hZ, hLx⟩ := hC
  have hl2 : lv_has ls 4 [(0, .ref bs), (3, .int (nI i)), (1, .ref ob)] := lv_sub hl [0, 3, 1] rfl
  have hA : ∀ q : Nat, s.heap.size ≤ q → (fun q : Nat => s.heap.size ≤ q) q := fun _ h => h
  have hbA : ¬ (fun q : Nat => s.heap.size ≤ q) bs := Nat.not_le.mpr hbl
  obtain ⟨⟨n, q, tn, tu, T, hI⟩, hnp, hh, hPR, hLb, hch⟩ := id hL
  have hn31 : n < 2 ^ 31 := by have := hI.hnb; omega
  have hq31 : q < 2 ^ 31 := by have := hI.hqc; omega
  refine lv_aload_n hx hb dL_law_228 rfl (lv_at hl 1 rfl) ?_
  refine ls_arg hx hb hl2 hX hbl hbA hS 1 (by decide) hi hLx dL_law_229 dL_law_230 dL_law_231 dL_law_232 dL_law_233 ?_
  refine ls_arg hx hb hl2 hX hbl hbA hS 2 (by decide) hi hLx dL_law_234 dL_law_235 dL_law_236 dL_law_237 dL_law_238 ?_
  refine ls_arg hx hb hl2 hX hbl hbA hS 3 (by decide) hi hLx dL_law_239 dL_law_240 dL_law_241 dL_law_242 dL_law_243 ?_
  refine ls_arg hx hb hl2 hX hbl hbA hS 4 (by decide) hi hLx dL_law_244 dL_law_245 dL_law_246 dL_law_247 dL_law_248 ?_
  refine lw_wi (As := [.int (xs (i + 1)), .int (xs (i + 2)), .int (xs (i + 3)), .int (xs (i + 4))]) (rest := []) (tys := TYS cI cC cB cS) (ci := 6) (fun u => lb (kB cI cC cS ob a dd o x u.1 u.2.1 u.2.2.1 u.2.2.2 dg L tk ts te f) (mB cI cB ma g lf np L f Pp E ex wd)) ⟨hx, hb, hml, hown, hts⟩ (c_X6_setStep l D cI cC cB cS _ a g ob (dd 0) (x 0) o b hs np tn tu (xs (i + 1)) (xs (i + 2)) (xs (i + 3)) (xs (i + 4)) hnp hI.ht hI.htb hI.hts1 hI.hu hI.hub hI.hus1) (cwV 4 hts gL_law_X6_setStep rfl rfl rfl (by decide +kernel) ⟨Nat.le_of_ble_eq_true rfl, Nat.le_of_ble_eq_true rfl⟩) hK hP hD hS hA [0, 1, 2, 5] [3, 4, 6, 7, 8, 9, 10] (by decide) (ap4 _ _ _ _) (fun u => ap4 _ _ _ _) (fun u => rfl) rfl rfl rfl rfl hl.1 (Nat.le_of_ble_eq_true rfl) dL_law_249 ⟨hcl, hsl⟩ (fun r1 u1 H locs h1 hP hD hS => ?_)
  obtain ⟨g1, np1, b1, hs1⟩ := u1
  have hP : va_P D vwCl (wL (lb (kB cI cC cS ob a dd o x g1 np1 b1 hs1 dg L tk ts te f) (mB cI cB ma g lf np L f Pp E ex wd))) H := hP
  have hD : va_D (fun q => s.heap.size ≤ q) (wL (lb (kB cI cC cS ob a dd o x g1 np1 b1 hs1 dg L tk ts te f) (mB cI cB ma g lf np L f Pp E ex wd))) := hD
  obtain ⟨o1, h1, s1⟩ := h1
  refine lv_aload_n hx hb dL_law_252 rfl (lv_at hl 2 rfl) ?_
  refine ls_arg hx hb hl2 hX hbl hbA hS 1 (by decide) hi hLx dL_law_253 dL_law_254 dL_law_255 dL_law_256 dL_law_257 ?_
  refine ls_arg hx hb hl2 hX hbl hbA hS 2 (by decide) hi hLx dL_law_258 dL_law_259 dL_law_260 dL_law_261 dL_law_262 ?_
  refine ls_arg hx hb hl2 hX hbl hbA hS 3 (by decide) hi hLx dL_law_263 dL_law_264 dL_law_265 dL_law_266 dL_law_267 ?_
  refine ls_arg hx hb hl2 hX hbl hbA hS 4 (by decide) hi hLx dL_law_268 dL_law_269 dL_law_270 dL_law_271 dL_law_272 ?_
  refine lw_wi (As := [.int (xs (i + 1)), .int (xs (i + 2)), .int (xs (i + 3)), .int (xs (i + 4))]) (rest := [.int r1]) (tys := TYS cI cC cB cS) (ci := 7) (fun u => lb (kB cI cC cS ob a dd o x g1 np1 b1 hs1 dg L tk ts te f) (mB cI cB ma u.1 u.2.1 u.2.2.1 L f u.2.2.2.2.2 E ex wd)) ⟨hx, hb, hml, hown, hts⟩ (c_X7_setStep l D cI cC cB cS _ ma (fiF np L ex) wd g lf np Pp hs lfs tn tu (xs (i + 1)) (xs (i + 2)) (xs (i + 3)) (xs (i + 4)) hnp hPR hI.ht hI.htb hI.hu hI.hub) (cwV 4 hts gL_law_X7_setStep rfl rfl rfl (by decide +kernel) ⟨Nat.le_of_ble_eq_true rfl, Nat.le_of_ble_eq_true rfl⟩) hK hP hD hS hA [6, 7, 8] [0, 1, 2, 3, 4, 5, 9, 10] (by decide) rfl (fun u => rfl) (fun u => rfl) rfl rfl rfl rfl hl.1 (Nat.le_of_ble_eq_true rfl) dL_law_273 ⟨hcl, hsl⟩ (fun r2 u2 H locs h2 hP hD hS => ?_)
  obtain ⟨g2, lf2, np2, hs2, lfs2, Pp2⟩ := u2
  have hP : va_P D vwCl (wL (lb (kB cI cC cS ob a dd o x g1 np1 b1 hs1 dg L tk ts te f) (mB cI cB ma g2 lf2 np2 L f Pp2 E ex wd))) H := hP
  have hD : va_D (fun q => s.heap.size ≤ q) (wL (lb (kB cI cC cS ob a dd o x g1 np1 b1 hs1 dg L tk ts te f) (mB cI cB ma g2 lf2 np2 L f Pp2 E ex wd))) := hD
  obtain ⟨o2, h2, s2⟩ := h2
  obtain ⟨hrr, eo⟩ := OsetStep_one h1 h2
  subst eo
  obtain ⟨e1, e2, hL2⟩ := sv_both hL (hI.ksetStep h1) s1 s2
  subst hrr
  have e1 : g2 = g1 := e1
  have e2 : np2 = np1 := e2
  subst e1 e2
  refine lv_icmp_eq (tgt := 910) hx hb dL_law_276 (by decide) (fun _ => ?_) (fun q => absurd rfl q)
  exact kk _ _ _ _ _ _ _ _ _ _ _ _ _ _ _ _ _ _ hL2 hP hD hS
set_option maxHeartbeats 4000000 in
set_option maxRecDepth 100000 in
theorem lc_setNumber (hC : LC p s m c D cI cC cB cS tL tG aK aV bs Lx xs) (hl : lv_has ls 4 [(0, .ref bs), (1, .ref ob), (2, .ref (ma 0)), (3, .int (nI i))]) (hi : i + 5 ≤ Lx) (hcl : cells ≤ 600000) (hsl : slots ≤ 7302250) (hL : LSt g lf np hs lfs Pp L f) (hP : va_P D vwCl (wL (lb (kB cI cC cS ob a dd o x g np b hs dg L tk ts te f) (mB cI cB ma g lf np L f Pp E ex wd))) H) (hD : va_D (fun q => s.heap.size ≤ q) (wL (lb (kB cI cC cS ob a dd o x g np b hs dg L tk ts te f) (mB cI cB ma g lf np L f Pp E ex wd)))) (hS : va_S (fun q => s.heap.size ≤ q) s.heap H locs) (kk : KK p l e s m below meth c bs cells slots Q D cI cC cB cS ob a dd o x ma 910 ls) : W p l e room_1 s m #[Value.ref bs] below meth c H locs cells slots Q (F0 m 281 ls []) := by
  obtain ⟨hx, hb, hml, hown, hts, hX, hbl, hK, hZ, hLx⟩ := hC
  have hl2 : lv_has ls 4 [(0, .ref bs), (3, .int (nI i)), (1, .ref ob)] := lv_sub hl [0, 3, 1] rfl
  have hA : ∀ q : Nat, s.heap.size ≤ q → (fun q : Nat => s.heap.size ≤ q) q := fun _ h => h
  have hbA : ¬ (fun q : Nat => s.heap.size ≤ q) bs := Nat.not_le.mpr hbl
  obtain ⟨⟨n, q, tn, tu, T, hI⟩, hnp, hh, hPR, hLb, hch⟩ := id hL
  have hn31 : n < 2 ^ 31 := by have := hI.hnb; omega
  have hq31 : q < 2 ^ 31 := by have := hI.hqc; omega
  refine lv_aload_n hx hb dL_law_281 rfl (lv_at hl 1 rfl) ?_
  refine ls_arg hx hb hl2 hX hbl hbA hS 1 (by decide) hi hLx dL_law_282 dL_law_283 dL_law_284 dL_law_285 dL_law_286 ?_
  refine ls_arg hx hb hl2 hX hbl hbA hS 2 (by decide) hi hLx dL_law_287 dL_law_288 dL_law_289 dL_law_290 dL_law_291 ?_
  refine lw_wiz (As := [.int (xs (i + 1)), .int (xs (i + 2))]) (rest := []) (tys := TYS cI cC cB cS) (ci := 6) (fun u => lb (kB cI cC cS ob a dd o x u.1 u.2.1 u.2.2.1 u.2.2.2 dg L tk ts te f) (mB cI cB ma g lf np L f Pp E ex wd)) ⟨hx, hb, hml, hown, hts⟩ (c_X6_setNumber l D cI cC cB cS _ tL tG aK aV a g ob (dd 0) (x 0) o b hs np (xs (i + 1)) (xs (i + 2)) hnp) (cwV 2 hts gL_law_X6_setNumber rfl rfl rfl (by decide +kernel) ⟨Nat.le_of_ble_eq_true rfl, Nat.le_of_ble_eq_true rfl⟩) hK hP hD hS hA hZ [0, 1, 2, 5] [3, 4, 6, 7, 8, 9, 10] (by decide) (ap4 _ _ _ _) (fun u => ap4 _ _ _ _) (fun u => rfl) rfl rfl rfl rfl hl.1 (Nat.le_of_ble_eq_true rfl) dL_law_292 ⟨hcl, hsl⟩ (fun r1 u1 H locs h1 hP hD hS => ?_)
  obtain ⟨g1, np1, b1, hs1⟩ := u1
  have hP : va_P D vwCl (wL (lb (kB cI cC cS ob a dd o x g1 np1 b1 hs1 dg L tk ts te f) (mB cI cB ma g lf np L f Pp E ex wd))) H := hP
  have hD : va_D (fun q => s.heap.size ≤ q) (wL (lb (kB cI cC cS ob a dd o x g1 np1 b1 hs1 dg L tk ts te f) (mB cI cB ma g lf np L f Pp E ex wd))) := hD
  obtain ⟨o1, h1, s1⟩ := h1
  refine lv_aload_n hx hb dL_law_295 rfl (lv_at hl 2 rfl) ?_
  refine ls_arg hx hb hl2 hX hbl hbA hS 1 (by decide) hi hLx dL_law_296 dL_law_297 dL_law_298 dL_law_299 dL_law_300 ?_
  refine ls_arg hx hb hl2 hX hbl hbA hS 2 (by decide) hi hLx dL_law_301 dL_law_302 dL_law_303 dL_law_304 dL_law_305 ?_
  refine lw_wi (As := [.int (xs (i + 1)), .int (xs (i + 2))]) (rest := [.int r1]) (tys := TYS cI cC cB cS) (ci := 7) (fun u => lb (kB cI cC cS ob a dd o x g1 np1 b1 hs1 dg L tk ts te f) (mB cI cB ma u.1 u.2.1 u.2.2.1 L f u.2.2.2.2.2 E ex wd)) ⟨hx, hb, hml, hown, hts⟩ (c_X7_setNumber l D cI cC cB cS _ ma (fiF np L ex) wd g lf np Pp hs lfs (xs (i + 1)) (xs (i + 2)) hnp hPR) (cwV 2 hts gL_law_X7_setNumber rfl rfl rfl (by decide +kernel) ⟨Nat.le_of_ble_eq_true rfl, Nat.le_of_ble_eq_true rfl⟩) hK hP hD hS hA [6, 7, 8] [0, 1, 2, 3, 4, 5, 9, 10] (by decide) rfl (fun u => rfl) (fun u => rfl) rfl rfl rfl rfl hl.1 (Nat.le_of_ble_eq_true rfl) dL_law_306 ⟨hcl, hsl⟩ (fun r2 u2 H locs h2 hP hD hS => ?_)
  obtain ⟨g2, lf2, np2, hs2, lfs2, Pp2⟩ := u2
  have hP : va_P D vwCl (wL (lb (kB cI cC cS ob a dd o x g1 np1 b1 hs1 dg L tk ts te f) (mB cI cB ma g2 lf2 np2 L f Pp2 E ex wd))) H := hP
  have hD : va_D (fun q => s.heap.size ≤ q) (wL (lb (kB cI cC cS ob a dd o x g1 np1 b1 hs1 dg L tk ts te f) (mB cI cB ma g2 lf2 np2 L f Pp2 E ex wd))) := hD
  obtain ⟨o2, h2, s2⟩ := h2
  obtain ⟨hrr, eo⟩ := OsetNumber_one h1 h2
  subst eo
  obtain ⟨e1, e2, hL2⟩ := sv_both hL (hI.ksetNumber h1) s1 s2
  subst hrr
  have e1 : g2 = g1 := e1
  have e2 : np2 = np1 := e2
  subst e1 e2
  refine lv_icmp_eq (tgt := 910) hx hb dL_law_309 (by decide) (fun _ => ?_) (fun q => absurd rfl q)
  exact kk _ _ _ _ _ _ _ _ _ _ _ _ _ _ _ _ _ _ hL2 hP hD hS
end LCASES
