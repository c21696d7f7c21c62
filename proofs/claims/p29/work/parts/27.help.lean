/-! ===== worlds in another order, worlds with a tail, rows of references ===== -/
theorem va_P.perm {D : va_G} {cl : List vw_C} {ws ws' : va_W} {H : Heap} (h : va_P D cl ws H) (hp : ws.Perm ws') : va_P D cl ws' H := by
  intro k q hk
  have hm : q ∈ ws := hp.mem_iff.mpr (List.mem_of_getElem? hk)
  obtain ⟨i, hi⟩ := List.getElem?_of_mem hm
  exact h i q hi
theorem va_D_iff {A : Nat → Prop} {ws : va_W} : va_D A ws ↔ (ws.map Prod.fst).Nodup ∧ ∀ q ∈ ws, A q.1 := by
  constructor
  · rintro ⟨h1, h2⟩
    refine ⟨?_, fun q hq => by obtain ⟨i, hi⟩ := List.getElem?_of_mem hq; exact h2 i q hi⟩
    rw [List.nodup_iff_pairwise_ne, List.pairwise_iff_getElem]
    intro i j hi hj hij e
    rw [List.length_map] at hi hj
    have := h1 i j ws[i] ws[j] (List.getElem?_eq_getElem hi) (List.getElem?_eq_getElem hj) (by simpa using e)
    omega
  · rintro ⟨h1, h2⟩
    refine ⟨fun i j p q hp hq e => ?_, fun k q hk => h2 q (List.mem_of_getElem? hk)⟩
    obtain ⟨hi, rfl⟩ := List.getElem?_eq_some_iff.mp hp
    obtain ⟨hj, rfl⟩ := List.getElem?_eq_some_iff.mp hq
    rw [List.nodup_iff_pairwise_ne, List.pairwise_iff_getElem] at h1
    rcases Nat.lt_trichotomy i j with h | h | h
    · exact absurd (by rw [List.getElem_map, List.getElem_map]; exact e) (h1 i j (by simpa using hi) (by simpa using hj) h)
    · exact h
    · exact absurd (by rw [List.getElem_map, List.getElem_map]; exact e.symm) (h1 j i (by simpa using hj) (by simpa using hi) h)
theorem va_D.perm {A : Nat → Prop} {ws ws' : va_W} (h : va_D A ws) (hp : ws.Perm ws') : va_D A ws' := by
  rw [va_D_iff] at h ⊢
  exact ⟨(hp.map Prod.fst).nodup_iff.mp h.1, fun q hq => h.2 q (hp.mem_iff.mpr hq)⟩
theorem va_P.left {D : va_G} {cl : List vw_C} {X pl : va_W} {H : Heap} (h : va_P D cl (X ++ pl) H) : va_P D cl X H := fun k q hk => h k q (by rw [List.getElem?_append_left (List.getElem?_eq_some_iff.mp hk).1]; exact hk)
theorem va_D.left {A : Nat → Prop} {X pl : va_W} (h : va_D A (X ++ pl)) : va_D A X := by
  rw [va_D_iff] at h ⊢
  rw [List.map_append, List.nodup_append] at h
  exact ⟨h.1.1, fun q hq => h.2 q (List.mem_append_left _ hq)⟩
theorem range_at (X : va_W) : (List.range X.length).map (fun i => X[i]?) = X.map some := by
  apply List.ext_getElem?
  intro i
  rw [List.getElem?_map, List.getElem?_map]
  by_cases h : i < X.length
  · rw [List.getElem?_range h, List.getElem?_eq_getElem h]
    show some (X[i]?) = some (some X[i])
    rw [List.getElem?_eq_getElem h]
  · rw [List.getElem?_eq_none (by rw [List.length_range]; omega), List.getElem?_eq_none (by omega)]; rfl
section MYE
variable {p : Program} {l : Launch} {e : Env} {R : Room} {s : State} {m : MethodId} {args : Array Value} {below : List Frame} {meth : Method} {c : Code} {H : Heap} {locs : List Loc} {cells slots : Nat} {Q : State → Prop}
variable {cc : ByteArray} {pc : Nat} {ls : Array Slot} {rest st0 : List Value} {D : va_G} {A : Nat → Prop} {tys : List (ClassId × FieldType)} {a : Nat} {cl : List vw_C} {ws : va_W} {H0 : Heap}
/-- the end of a method that writes, its world in another order -/
theorem wr_vretP {S : Type} {post : S → Prop} {f : S → va_W} (u : S) (hexec : p.tables.exec = Jvm.exec) (hb : c.code = cc) (hr : meth.sig.returnType = none) (hlocks : meth.locks = false) (hS : va_S A s.heap H locs) (hP : va_P D vwCl ws H) (hD : va_D A ws) (hp : ws.Perm (f u)) (hdg : decode cc pc = .ok (.return_, 1)) (hq : post u) :
    W p l e R s m args below meth c H locs cells slots (MQ below (va_Qv post (wrB D A f) A) args s cells slots A) (F0 m pc ls []) :=
  W.vret hexec hb hr (fun t ht _ => ⟨⟨u, rfl, hq, by rw [ht]; exact hP.perm hp, hD.perm hp⟩, hS.F ht⟩) hS.2.2 hdg hlocks
theorem wr_iretP {S : Type} {post : Int32 → S → Prop} {f : S → va_W} {v : Int32} (u : S) (hexec : p.tables.exec = Jvm.exec) (hb : c.code = cc) (hr : meth.sig.returnType = some .int) (hlocks : meth.locks = false) (hS : va_S A s.heap H locs) (hP : va_P D vwCl ws H) (hD : va_D A ws) (hp : ws.Perm (f u)) (hdg : decode cc pc = .ok (.ireturn, 1)) (hq : post v u) :
    W p l e R s m args below meth c H locs cells slots (MQ below (va_Qi post (wrB D A f) A) args s cells slots A) (F0 m pc ls [.int v]) :=
  W.iret (v := v) hexec hb hr (fun t ht _ => ⟨⟨v, u, rfl, hq, by rw [ht]; exact hP.perm hp, hD.perm hp⟩, hS.F ht⟩) hS.2.2 hdg hlocks
-- rows of references
theorem aald_n (hexec : p.tables.exec = Jvm.exec) (hb : c.code = cc) (hK : va_K D cl tys s) (hP : va_P D cl ws H) (q0 t0 : Nat) {cA : ClassId} {C : String} {n : Nat} {f : Nat → Option Nat} (ha : ws[q0]? = some (a, .inl (cA, n, .inr (.inr (.inr (.inr f)))))) (ht : tys[t0]? = some (cA, .object C)) {i : Int32} (k : Nat) (hi : i = nI k) (hk : k < n) (hn : n < 2 ^ 31) (v : Nat) (hv : f k = some v) (hdg : decode cc pc = .ok (.aaload, 1))
    (kk : W p l e R s m args below meth c H locs cells slots Q (F0 m (pc + 1) ls (.ref v :: rest))) : W p l e R s m args below meth c H locs cells slots Q (F0 m pc ls (.int i :: .ref a :: rest)) := by
  subst hi
  refine va_aldq hexec hb hK hP q0 t0 ha ht (vp_in_nI hk hn) hdg ?_
  rw [nI_clamp (by omega), hv]
  exact kk
theorem aast_n (hexec : p.tables.exec = Jvm.exec) (hb : c.code = cc) (hK : va_K D cl tys s) (hP : va_P D cl ws H) (hD : va_D A ws) (hS : va_S A H0 H locs) (q0 t0 qk ci : Nat) {cA : ClassId} {r : vw_C} {n v : Nat} {vs : List Value} {f : Nat → Option Nat} (ha : ws[q0]? = some (a, .inl (cA, n, .inr (.inr (.inr (.inr f)))))) (ht : tys[t0]? = some (cA, .object r.1)) (hv : ws[qk]? = some (v, .inr (ci, vs))) (hc : cl[ci]? = some r) {i : Int32} (k : Nat) (hi : i = nI k) (hk : k < n) (hn : n < 2 ^ 31) (hdg : decode cc pc = .ok (.aastore, 1))
    (kk : ∀ (H1 : Heap) (locs1 : List Loc), va_P D cl (ws.set q0 (a, .inl (cA, n, .inr (.inr (.inr (.inr (va_up f k (some v)))))))) H1 → va_D A (ws.set q0 (a, .inl (cA, n, .inr (.inr (.inr (.inr (va_up f k (some v)))))))) → va_S A H0 H1 locs1 → W p l e R s m args below meth c H1 locs1 cells slots Q (F0 m (pc + 1) ls rest)) : W p l e R s m args below meth c H locs cells slots Q (F0 m pc ls (.ref v :: .int i :: .ref a :: rest)) := by
  subst hi
  refine va_astq hexec hb hK hP hD hS q0 t0 qk ci ha ht hv hc (vp_in_nI hk hn) hdg ?_
  rw [nI_clamp (by omega)]
  exact kk
theorem va_P_extq (p : Nat) {N : Nat} {cA : ClassId} {f h : Nat → Option Nat} (hp : ws[p]? = some (a, .inl (cA, N, .inr (.inr (.inr (.inr f)))))) (e : ∀ j, j < N → f j = h j) (hP : va_P D cl ws H) : va_P D cl (ws.set p (a, .inl (cA, N, .inr (.inr (.inr (.inr h)))))) H := by
  have hl := (List.getElem?_eq_some_iff.mp hp).1
  intro k q hk
  by_cases hkp : k = p
  · subst hkp
    rw [List.getElem?_set_self hl] at hk
    cases hk
    have h0 : H[a]? = some (vp_cell cA (N, .inr (.inr (.inr (.inr f))))) := hP k _ hp
    show H[a]? = some (vp_cell cA (N, .inr (.inr (.inr (.inr h)))))
    rw [h0, vp_cell_q, vp_cell_q]
    congr 1
    unfold arrV
    congr 1
    apply Array.ext
    · simp
    · intro i h1 h2
      simp only [Array.getElem_ofFn]
      rw [e i (by simpa using h1)]
  · rw [List.getElem?_set_ne (Ne.symm hkp)] at hk
    exact hP k q hk
variable {y : MethodName} {bytes : ByteArray} {maxL nL mc ms n index : Nat} {ret : Option FieldType} {wc : List Cond} {rm : Room} {Ts : List Cond} {own C : String} {b : Addr} {As : List Value} {X Wd pl : va_W}
-- calls of methods that write, by a method whose world has a tail
theorem sub_P {is : List Nat} (hi : is.map (fun i => Wd[i]?) = X.map some) (hP : va_P D vwCl Wd H) : va_P D vwCl X H := by
  intro k q hk
  have h1 : (is.map (fun i => Wd[i]?))[k]? = some (some q) := by rw [hi, List.getElem?_map, hk]; rfl
  rw [List.getElem?_map] at h1
  cases hj : is[k]? with
  | none => rw [hj] at h1; cases h1
  | some i => rw [hj] at h1; exact hP i q (Option.some.inj h1)
theorem cv_wiQ {S : Type} {post : Int32 → S → Prop} {f : S → va_W} {T : u_T} {N ci : Nat} {fs : List Value} {wr : va_W} (F : CallFix p m c cc nL s args Ts own) (hM : Met l y wc rm (wrPc D tys (.ref b :: As) X H.size) (va_Qi post (wrB D (va_A X H.size) f) (va_A X H.size)) mc ms (va_A X H.size)) (cw : CallW R s args own C index y bytes maxL ret wc rm mc ms n)
    (hK : KN D tys s) (hP : va_P D vwCl (Wd ++ pl) H) (hD : va_D A (Wd ++ pl)) (hS : va_S A s.heap H locs) (hA : ∀ q : Nat, s.heap.size ≤ q → A q) (is ir : List Nat) (hi : is.map (fun i => Wd[i]?) = X.map some) (hr : ir.map (fun i => Wd[i]?) = wr.map some) (hni : va_nd is = true) (hnr : va_nd ir = true) (hdis : ∀ i ∈ ir, i ∉ is) (hc : vwCl[ci]? = some (C, T, N)) (he : X[0]? = some (b, .inr (ci, fs))) (hst : st0 = As.reverse ++ .ref b :: rest) (hn : As.length = n) (hsize : ls.size = nL) (hW : (rest.map fun v => v.category).sum ≤ 8) (hdg : decode cc pc = .ok (.invokevirtual index, 3)) (hf : cells + mc ≤ R.cells ∧ slots + ms ≤ R.slots)
    (kk : ∀ (r : Int32) (u : S) (H1 : Heap) (locs1 : List Loc), post r u → va_P D vwCl ((wr ++ f u) ++ pl) H1 → va_D A ((wr ++ f u) ++ pl) → va_S A s.heap H1 locs1 → W p l e R s m args below meth c H1 locs1 (cells + mc) (slots + ms) Q (F0 m (pc + 3) ls (.int r :: rest))) : W p l e R s m args below meth c H locs cells slots Q (F0 m pc ls st0) := by
  have hpre := wr_pre (b := .ref b :: As) hK hP.left hD.left rfl is hi hni
  have hFc := va_free (wc := X) hD.left hS hA is hi
  have hPX : va_P D vwCl X H := sub_P hi hP.left
  refine va_calli (va_runV F hM cw ⟨wrPc_blind, va_recv hK.1 hPX hc he, hpre⟩ rfl hn hsize hst (lv_room hW) hdg hf) hS (fun q _ h => hFc q h) hFc (fun r u t H1 locs1 ht hvm hp hB hz1 hk1 hS1 => ?_)
  obtain ⟨hP1, hD1⟩ := hB
  rw [ht] at hP1
  obtain ⟨hP3, hD3⟩ := va_joinQ hP hD is ir hi hr hnr hdis hk1 hFc hP1 hD1
  exact kk r u H1 locs1 hp hP3 hD3 hS1
theorem cv_wvQ {S : Type} {post : S → Prop} {f : S → va_W} {T : u_T} {N ci : Nat} {fs : List Value} {wr : va_W} (F : CallFix p m c cc nL s args Ts own) (hM : Met l y wc rm (wrPc D tys (.ref b :: As) X H.size) (va_Qv post (wrB D (va_A X H.size) f) (va_A X H.size)) mc ms (va_A X H.size)) (cw : CallW R s args own C index y bytes maxL ret wc rm mc ms n)
    (hK : KN D tys s) (hP : va_P D vwCl (Wd ++ pl) H) (hD : va_D A (Wd ++ pl)) (hS : va_S A s.heap H locs) (hA : ∀ q : Nat, s.heap.size ≤ q → A q) (is ir : List Nat) (hi : is.map (fun i => Wd[i]?) = X.map some) (hr : ir.map (fun i => Wd[i]?) = wr.map some) (hni : va_nd is = true) (hnr : va_nd ir = true) (hdis : ∀ i ∈ ir, i ∉ is) (hc : vwCl[ci]? = some (C, T, N)) (he : X[0]? = some (b, .inr (ci, fs))) (hst : st0 = As.reverse ++ .ref b :: rest) (hn : As.length = n) (hsize : ls.size = nL) (hW : (rest.map fun v => v.category).sum ≤ 8) (hdg : decode cc pc = .ok (.invokevirtual index, 3)) (hf : cells + mc ≤ R.cells ∧ slots + ms ≤ R.slots)
    (kk : ∀ (u : S) (H1 : Heap) (locs1 : List Loc), post u → va_P D vwCl ((wr ++ f u) ++ pl) H1 → va_D A ((wr ++ f u) ++ pl) → va_S A s.heap H1 locs1 → W p l e R s m args below meth c H1 locs1 (cells + mc) (slots + ms) Q (F0 m (pc + 3) ls rest)) : W p l e R s m args below meth c H locs cells slots Q (F0 m pc ls st0) := by
  have hpre := wr_pre (b := .ref b :: As) hK hP.left hD.left rfl is hi hni
  have hFc := va_free (wc := X) hD.left hS hA is hi
  have hPX : va_P D vwCl X H := sub_P hi hP.left
  refine va_callv (va_runV F hM cw ⟨wrPc_blind, va_recv hK.1 hPX hc he, hpre⟩ rfl hn hsize hst (lv_room hW) hdg hf) hS (fun q _ h => hFc q h) hFc (fun u t H1 locs1 ht hvm hp hB hz1 hk1 hS1 => ?_)
  obtain ⟨hP1, hD1⟩ := hB
  rw [ht] at hP1
  obtain ⟨hP3, hD3⟩ := va_joinQ hP hD is ir hi hr hnr hdis hk1 hFc hP1 hD1
  exact kk u H1 locs1 hp hP3 hD3 hS1
theorem cv_wiP {S : Type} {post : Int32 → S → Prop} {f pf : S → va_W} {T : u_T} {N ci : Nat} {fs : List Value} {wr : va_W} (F : CallFix p m c cc nL s args Ts own) (hM : Met l y wc rm (wrPc D tys (.ref b :: As) (X ++ pl) H.size) (va_Qi post (wrB D (va_A (X ++ pl) H.size) (fun u => f u ++ pf u)) (va_A (X ++ pl) H.size)) mc ms (va_A (X ++ pl) H.size)) (cw : CallW R s args own C index y bytes maxL ret wc rm mc ms n)
    (hK : KN D tys s) (hP : va_P D vwCl (Wd ++ pl) H) (hD : va_D A (Wd ++ pl)) (hS : va_S A s.heap H locs) (hA : ∀ q : Nat, s.heap.size ≤ q → A q) (is ir : List Nat) (hi : is.map (fun i => Wd[i]?) = X.map some) (hr : ir.map (fun i => Wd[i]?) = wr.map some) (hni : va_nd is = true) (hnr : va_nd ir = true) (hdis : ∀ i ∈ ir, i ∉ is) (hc : vwCl[ci]? = some (C, T, N)) (he : X[0]? = some (b, .inr (ci, fs))) (hst : st0 = As.reverse ++ .ref b :: rest) (hn : As.length = n) (hsize : ls.size = nL) (hW : (rest.map fun v => v.category).sum ≤ 8) (hdg : decode cc pc = .ok (.invokevirtual index, 3)) (hf : cells + mc ≤ R.cells ∧ slots + ms ≤ R.slots)
    (kk : ∀ (r : Int32) (u : S) (H1 : Heap) (locs1 : List Loc), post r u → va_P D vwCl ((wr ++ f u) ++ pf u) H1 → va_D A ((wr ++ f u) ++ pf u) → va_S A s.heap H1 locs1 → W p l e R s m args below meth c H1 locs1 (cells + mc) (slots + ms) Q (F0 m (pc + 3) ls (.int r :: rest))) : W p l e R s m args below meth c H locs cells slots Q (F0 m pc ls st0) := by
  have hPX : va_P D vwCl (X ++ pl) H := hP.part is hi
  have hDX := hD.part is hni hi
  have hpre : ∀ U : State, U.heap = H → s.WarmedH U.vm → wrPc D tys (.ref b :: As) (X ++ pl) H.size (Value.ref b :: As).toArray U := fun U hU hW => ⟨rfl, by rw [hU], by rw [hU]; exact hPX, hK.warm hW, hDX.weaken (fun _ _ _ _ => trivial)⟩
  have hFc := va_freeP (cx := X) hD hS hA is hi
  refine va_calli (va_runV F hM cw ⟨wrPc_blind, va_recv hK.1 hPX hc (by rw [List.getElem?_append_left (List.getElem?_eq_some_iff.mp he).1]; exact he), hpre⟩ rfl hn hsize hst (lv_room hW) hdg hf) hS (fun q _ h => hFc q h) hFc (fun r u t H1 locs1 ht hvm hp hB hz1 hk1 hS1 => ?_)
  obtain ⟨hP1, hD1⟩ := hB
  rw [ht] at hP1
  obtain ⟨hP3, hD3⟩ := va_joinP hP hD is ir hi hr hnr hdis hk1 hFc hP1 hD1
  exact kk r u H1 locs1 hp hP3 hD3 hS1
theorem cv_wvP {S : Type} {post : S → Prop} {f pf : S → va_W} {T : u_T} {N ci : Nat} {fs : List Value} {wr : va_W} (F : CallFix p m c cc nL s args Ts own) (hM : Met l y wc rm (wrPc D tys (.ref b :: As) (X ++ pl) H.size) (va_Qv post (wrB D (va_A (X ++ pl) H.size) (fun u => f u ++ pf u)) (va_A (X ++ pl) H.size)) mc ms (va_A (X ++ pl) H.size)) (cw : CallW R s args own C index y bytes maxL ret wc rm mc ms n)
    (hK : KN D tys s) (hP : va_P D vwCl (Wd ++ pl) H) (hD : va_D A (Wd ++ pl)) (hS : va_S A s.heap H locs) (hA : ∀ q : Nat, s.heap.size ≤ q → A q) (is ir : List Nat) (hi : is.map (fun i => Wd[i]?) = X.map some) (hr : ir.map (fun i => Wd[i]?) = wr.map some) (hni : va_nd is = true) (hnr : va_nd ir = true) (hdis : ∀ i ∈ ir, i ∉ is) (hc : vwCl[ci]? = some (C, T, N)) (he : X[0]? = some (b, .inr (ci, fs))) (hst : st0 = As.reverse ++ .ref b :: rest) (hn : As.length = n) (hsize : ls.size = nL) (hW : (rest.map fun v => v.category).sum ≤ 8) (hdg : decode cc pc = .ok (.invokevirtual index, 3)) (hf : cells + mc ≤ R.cells ∧ slots + ms ≤ R.slots)
    (kk : ∀ (u : S) (H1 : Heap) (locs1 : List Loc), post u → va_P D vwCl ((wr ++ f u) ++ pf u) H1 → va_D A ((wr ++ f u) ++ pf u) → va_S A s.heap H1 locs1 → W p l e R s m args below meth c H1 locs1 (cells + mc) (slots + ms) Q (F0 m (pc + 3) ls rest)) : W p l e R s m args below meth c H locs cells slots Q (F0 m pc ls st0) := by
  have hPX : va_P D vwCl (X ++ pl) H := hP.part is hi
  have hDX := hD.part is hni hi
  have hpre : ∀ U : State, U.heap = H → s.WarmedH U.vm → wrPc D tys (.ref b :: As) (X ++ pl) H.size (Value.ref b :: As).toArray U := fun U hU hW => ⟨rfl, by rw [hU], by rw [hU]; exact hPX, hK.warm hW, hDX.weaken (fun _ _ _ _ => trivial)⟩
  have hFc := va_freeP (cx := X) hD hS hA is hi
  refine va_callv (va_runV F hM cw ⟨wrPc_blind, va_recv hK.1 hPX hc (by rw [List.getElem?_append_left (List.getElem?_eq_some_iff.mp he).1]; exact he), hpre⟩ rfl hn hsize hst (lv_room hW) hdg hf) hS (fun q _ h => hFc q h) hFc (fun u t H1 locs1 ht hvm hp hB hz1 hk1 hS1 => ?_)
  obtain ⟨hP1, hD1⟩ := hB
  rw [ht] at hP1
  obtain ⟨hP3, hD3⟩ := va_joinP hP hD is ir hi hr hnr hdis hk1 hFc hP1 hD1
  exact kk u H1 locs1 hp hP3 hD3 hS1
theorem cv_wvX {S : Type} {post : S → Prop} {f : S → va_W} {T : u_T} {N ci : Nat} {fs : List Value} (F : CallFix p m c cc nL s args Ts own) (hM : Met l y wc rm (wrPc D tys (.ref b :: As) X H.size) (va_Qv post (wrB D (va_A X H.size) f) (va_A X H.size)) mc ms (va_A X H.size)) (cw : CallW R s args own C index y bytes maxL ret wc rm mc ms n)
    (hK : KN D tys s) (hP : va_P D vwCl Wd H) (hD : va_D A Wd) (hS : va_S A s.heap H locs) (hA : ∀ q : Nat, s.heap.size ≤ q → A q) (hperm : Wd.Perm (X ++ pl)) (hc : vwCl[ci]? = some (C, T, N)) (he : X[0]? = some (b, .inr (ci, fs))) (hst : st0 = As.reverse ++ .ref b :: rest) (hn : As.length = n) (hsize : ls.size = nL) (hW : (rest.map fun v => v.category).sum ≤ 8) (hdg : decode cc pc = .ok (.invokevirtual index, 3)) (hf : cells + mc ≤ R.cells ∧ slots + ms ≤ R.slots)
    (kk : ∀ (u : S) (H1 : Heap) (locs1 : List Loc), post u → va_P D vwCl (f u ++ pl) H1 → va_D A (f u ++ pl) → va_S A s.heap H1 locs1 → W p l e R s m args below meth c H1 locs1 (cells + mc) (slots + ms) Q (F0 m (pc + 3) ls rest)) : W p l e R s m args below meth c H locs cells slots Q (F0 m pc ls st0) := by
  have hP2 := hP.perm hperm
  have hD2 := hD.perm hperm
  have hPX : va_P D vwCl X H := hP2.left
  have hpre : ∀ U : State, U.heap = H → s.WarmedH U.vm → wrPc D tys (.ref b :: As) X H.size (Value.ref b :: As).toArray U := fun U hU hW => ⟨rfl, by rw [hU], by rw [hU]; exact hPX, hK.warm hW, hD2.left.weaken (fun _ _ _ _ => trivial)⟩
  have hFc := va_free (wc := X) hD2.left hS hA (List.range X.length) (range_at X)
  refine va_callv (va_runV F hM cw ⟨wrPc_blind, va_recv hK.1 hPX hc he, hpre⟩ rfl hn hsize hst (lv_room hW) hdg hf) hS (fun q _ h => hFc q h) hFc (fun u t H1 locs1 ht hvm hp hB hz1 hk1 hS1 => ?_)
  obtain ⟨hP1, hD1⟩ := hB
  rw [ht] at hP1
  obtain ⟨hP3, hD3⟩ := va_joinQ (wr := []) hP2 hD2 (List.range X.length) [] (range_at X) rfl rfl (fun i h => absurd h List.not_mem_nil) hk1 hFc hP1 hD1
  exact kk u H1 locs1 hp hP3 hD3 hS1
end MYE
