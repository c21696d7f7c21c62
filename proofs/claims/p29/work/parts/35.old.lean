/-! ===== old cells: the two static rows of bounds, and the words of the text's grammar ===== -/
def leastF : Nat → Int32 := fun j => [1, 0, 0, 0, 0].getD j 0
def greatF : Nat → Int32 := fun j => [200, 120, 60, 99999, 99999].getD j 0
def ZS (tL tG : Nat) (aK aV : Nat → Nat) (A : Nat → Prop) (U : State) (H : Heap) : Prop :=
  va_Z RX6 "NUMBER_LEAST" "[I" (.ref tL) A U H ∧ va_Z RX6 "NUMBER_GREATEST" "[I" (.ref tG) A U H ∧ va_T .int tL 5 (fun j => .int (leastF j)) A U H ∧ va_T .int tG 5 (fun j => .int (greatF j)) A U H ∧ True
theorem ZS.call {tL tG : Nat} {aK aV : Nat → Nat} {A A1 : Nat → Prop} {s U : State} {H : Heap} {locs : List Loc} (h : ZS tL tG aK aV A s s.heap) (hS : va_S A s.heap H locs) (hA : ∀ q, A1 q → A q) (hU : U.heap = H) (hW : s.WarmedH U.vm) : ZS tL tG aK aV A1 U U.heap := by
  obtain ⟨h1, h2, h3, h4, h5⟩ := h
  rw [hU]
  exact ⟨((h1.kept hS.2.1).narrow hA).moved hW.alike, ((h2.kept hS.2.1).narrow hA).moved hW.alike, ((h3.kept hS.2.1).narrow hA).moved hW.alike, ((h4.kept hS.2.1).narrow hA).moved hW.alike, trivial⟩
theorem ZS.blind {tL tG : Nat} {aK aV : Nat → Nat} {A : Nat → Prop} {U V : State} (e : V.vm = U.vm) (eh : V.heap = U.heap) (h : ZS tL tG aK aV A U U.heap) : ZS tL tG aK aV A V V.heap := by
  obtain ⟨h1, h2, h3, h4, h5⟩ := h
  have hA : U.vm.Alike V.vm := by rw [e]; exact Vm.Alike.refl U.vm
  rw [eh]
  exact ⟨h1.moved hA, h2.moved hA, h3.moved hA, h4.moved hA, trivial⟩
def zdPc (D : va_G) (tys : List (ClassId × FieldType)) (av : List Value) (X : va_W) (tL tG : Nat) (aK aV : Nat → Nat) : Array Value → State → Prop := va_Pc av (fun U => va_P D vwCl X U.heap ∧ KN D tys U ∧ ZS tL tG aK aV (fun _ => False) U U.heap)
theorem zdPc_blind {D : va_G} {tys : List (ClassId × FieldType)} {av : List Value} {X : va_W} {tL tG : Nat} {aK aV : Nat → Nat} : FrameBlind (zdPc D tys av X tL tG aK aV) := fun a U g mk q => ⟨q.1, q.2.1, KN.same (s := U) (U := U.calling g mk a) rfl (Vm.Alike.refl U.vm) q.2.2.1, ZS.blind (U := U) (V := U.calling g mk a) rfl rfl q.2.2.2⟩
theorem zd_intro {l : Launch} {y : MethodName} {ws ws' : List Cond} {rm : Room} {cc : ByteArray} {maxL : Nat} {ret : Option FieldType} {D : va_G} {tys : List (ClassId × FieldType)} {av : List Value} {X : va_W} {tL tG : Nat} {aK aV : Nat → Nat} {Qc : Array Value → State → Outcome → State → Prop}
    (hy : plainName y.cls = true) (hw : ws = Cond.code y cc maxL ret :: ws') (hn : (lg_sl av).length ≤ maxL)
    (body : ∀ (p : Program) (e : Env) (s : State) (m : MethodId) (below : List Frame) (meth : Method) (c : Code), p.tables.exec = Jvm.exec → c.code = cc → meth.sig.returnType = ret → c.maxLocals = maxL → (∀ w ∈ ws, w.before av.toArray s = true) → s.vm.findClass y.cls = some m.cls → meth.locks = false → va_P D vwCl X s.heap → KN D tys s → ZS tL tG aK aV (fun _ => False) s s.heap → ∀ ls : Array Slot, lv_has ls maxL (lv_args 0 av) →
      W p l e rm s m av.toArray below meth c s.heap [] 0 0 (MQ below Qc av.toArray s 0 0 (fun _ => False)) (F0 m 0 ls [])) : Met l y ws rm (zdPc D tys av X tL tG aK aV) Qc 0 0 (fun _ => False) := by
  refine Met.ofW (cc := cc) (maxL := maxL) (ret := ret) hy hw ?_
  intro p e s m args below meth c s₁ B hml hv
  obtain ⟨rfl, hP, hK, hZ⟩ := hv
  have hts := atoms_spec (ws := ws) B.pre
  have hl := lv_entry av (n := maxL) hn
  rw [lg_entry_eq]
  exact body p e s m below meth c B.exec B.bytes B.returns hml hts (findClass_of_methodNamed B.named) B.notSynchronized hP hK hZ _ hl
def zwPc (D : va_G) (tys : List (ClassId × FieldType)) (av : List Value) (X : va_W) (sz : Nat) (tL tG : Nat) (aK aV : Nat → Nat) : Array Value → State → Prop := va_Pc av (fun U => U.heap.size = sz ∧ va_P D vwCl X U.heap ∧ KN D tys U ∧ va_D (fun _ => True) X ∧ ZS tL tG aK aV (va_A X sz) U U.heap)
theorem zwPc_blind {D : va_G} {tys : List (ClassId × FieldType)} {av : List Value} {X : va_W} {sz : Nat} {tL tG : Nat} {aK aV : Nat → Nat} : FrameBlind (zwPc D tys av X sz tL tG aK aV) := fun a U g mk q => ⟨q.1, q.2.1, q.2.2.1, KN.same (s := U) (U := U.calling g mk a) rfl (Vm.Alike.refl U.vm) q.2.2.2.1, q.2.2.2.2.1, ZS.blind (U := U) (V := U.calling g mk a) rfl rfl q.2.2.2.2.2⟩
theorem zw_intro {S : Type} {l : Launch} {y : MethodName} {ws ws' : List Cond} {rm : Room} {cc : ByteArray} {maxL : Nat} {ret : Option FieldType} {D : va_G} {tys : List (ClassId × FieldType)} {av : List Value} {X : va_W} {sz mc ms : Nat} {tL tG : Nat} {aK aV : Nat → Nat} {Qc : (Nat → Prop) → (S → State → Prop) → Array Value → State → Outcome → State → Prop} {f : S → va_W}
    (hy : plainName y.cls = true) (hw : ws = Cond.code y cc maxL ret :: ws') (hn : (lg_sl av).length ≤ maxL)
    (body : ∀ (p : Program) (e : Env) (s : State) (m : MethodId) (below : List Frame) (meth : Method) (c : Code) (A : Nat → Prop), p.tables.exec = Jvm.exec → c.code = cc → meth.sig.returnType = ret → c.maxLocals = maxL → (∀ w ∈ ws, w.before av.toArray s = true) → s.vm.findClass y.cls = some m.cls → meth.locks = false → (y.name = "<init>" → meth.name = "<init>") → va_P D vwCl X s.heap → KN D tys s → va_D A X → (∀ q : Nat, s.heap.size ≤ q → A q) → va_S A s.heap s.heap [] → ZS tL tG aK aV A s s.heap → ∀ ls : Array Slot, lv_has ls maxL (lv_args 0 av) →
      W p l e rm s m av.toArray below meth c s.heap [] 0 0 (MQ below (Qc A (wrB D A f)) av.toArray s mc ms A) (F0 m 0 ls [])) : Met l y ws rm (zwPc D tys av X sz tL tG aK aV) (Qc (va_A X sz) (wrB D (va_A X sz) f)) mc ms (va_A X sz) := by
  refine Met.ofW (cc := cc) (maxL := maxL) (ret := ret) hy hw ?_
  intro p e s m args below meth c s₁ B hml hv
  obtain ⟨rfl, hsz, hP, hK, hD0, hZ⟩ := hv
  subst hsz
  have hts := atoms_spec (ws := ws) B.pre
  have hl := lv_entry av (n := maxL) hn
  rw [lg_entry_eq]
  exact body p e s m below meth c (va_A X s.heap.size) B.exec B.bytes B.returns hml hts (findClass_of_methodNamed B.named) B.notSynchronized (fun h => by rw [(name_of_methodNamed B.named B.method).1]; exact h) hP hK hD0.self (fun q h => Or.inr h) va_S.rf hZ _ hl
section MYZ
variable {p : Program} {l : Launch} {e : Env} {R : Room} {s : State} {m : MethodId} {args : Array Value} {below : List Frame} {meth : Method} {c : Code} {H : Heap} {locs : List Loc} {cells slots : Nat} {Q : State → Prop}
variable {cc : ByteArray} {pc : Nat} {ls : Array Slot} {rest st0 : List Value} {D : va_G} {A : Nat → Prop} {tys : List (ClassId × FieldType)}
variable {y : MethodName} {bytes : ByteArray} {maxL nL mc ms n index : Nat} {ret : Option FieldType} {wc : List Cond} {rm : Room} {Ts : List Cond} {own C : String} {b : Addr} {As : List Value} {X Wd pl : va_W} {tL tG : Nat} {aK aV : Nat → Nat}
theorem rd_goV {post : Unit → Prop} {a : Array Value} (hr : va_Run p l e R s m args below meth c H locs cells slots 0 0 (F0 m pc ls st0) rest (va_Sv post a) (fun _ => False))
    (kk : post () → W p l e R s m args below meth c H locs cells slots Q (F0 m (pc + 3) ls rest)) : W p l e R s m args below meth c H locs cells slots Q (F0 m pc ls st0) := by
  intro T hT X
  obtain ⟨v, st₀, t, T', L, h0, X', hL, e1, e2, ⟨hv, hp, hh⟩, st⟩ := hr T hT X
  cases hv
  obtain ⟨t2, a1, b1⟩ := kk hp T' (by rw [e1, hh, h0]) (Stand.forget X' (fun q h => (hL q h).elim))
  exact ⟨t2, st t2 a1, b1⟩
theorem rd_vret {post : Unit → Prop} (hexec : p.tables.exec = Jvm.exec) (hb : c.code = cc) (hr : meth.sig.returnType = none) (hlocks : meth.locks = false) (hdg : decode cc pc = .ok (.return_, 1)) (hp : post ()) :
    W p l e R s m args below meth c s.heap [] 0 0 (MQ below (va_Sv post) args s 0 0 (fun _ => False)) (F0 m pc ls []) :=
  W.vret hexec hb hr (fun t ht _ => ⟨rfl, hp, ht⟩) (fun q h => by cases h) hdg hlocks
-- old cells
theorem z_least (hexec : p.tables.exec = Jvm.exec) (hb : c.code = cc) (hZ : ZS tL tG aK aV A s s.heap) (hS : va_S A s.heap H locs) {i : Int32} (k : Nat) (hi : i = nI k) (hk : k < 5) (hdg : decode cc pc = .ok (.iaload, 1))
    (kk : W p l e R s m args below meth c H locs cells slots Q (F0 m (pc + 1) ls (.int (leastF k) :: rest))) : W p l e R s m args below meth c H locs cells slots Q (F0 m pc ls (.int i :: .ref tL :: rest)) := by
  subst hi
  exact va_ti hexec hb hZ.2.2.1 hS (vp_in_nI hk (by omega)) (by rw [nI_clamp (by omega)]) hdg kk
theorem z_great (hexec : p.tables.exec = Jvm.exec) (hb : c.code = cc) (hZ : ZS tL tG aK aV A s s.heap) (hS : va_S A s.heap H locs) {i : Int32} (k : Nat) (hi : i = nI k) (hk : k < 5) (hdg : decode cc pc = .ok (.iaload, 1))
    (kk : W p l e R s m args below meth c H locs cells slots Q (F0 m (pc + 1) ls (.int (greatF k) :: rest))) : W p l e R s m args below meth c H locs cells slots Q (F0 m pc ls (.int i :: .ref tG :: rest)) := by
  subst hi
  exact va_ti hexec hb hZ.2.2.2.1 hS (vp_in_nI hk (by omega)) (by rw [nI_clamp (by omega)]) hdg kk
theorem cz_v {post : Int32 → Prop} {T : u_T} {N ci : Nat} {fs : List Value} (S : CallFix p m c cc nL s args Ts own) (hM : Met l y wc rm (zdPc D tys (.ref b :: As) X tL tG aK aV) (vp_Si post) 0 0 (fun _ => False)) (cw : CallW R s args own C index y bytes maxL ret wc rm 0 0 n)
    (hK : KN D tys s) (hP : va_P D vwCl Wd H) (hZ : ZS tL tG aK aV A s s.heap) (hS : va_S A s.heap H locs) (is : List Nat) (hi : is.filterMap (fun i => Wd[i]?) = X) (hc : vwCl[ci]? = some (C, T, N)) (he : X[0]? = some (b, .inr (ci, fs))) (hst : st0 = As.reverse ++ .ref b :: rest) (hn : As.length = n) (hsize : ls.size = nL) (hW : (rest.map fun v => v.category).sum ≤ 8) (hdg : decode cc pc = .ok (.invokevirtual index, 3)) (hf : cells ≤ R.cells ∧ slots ≤ R.slots)
    (kk : ∀ r : Int32, post r → W p l e R s m args below meth c H locs cells slots Q (F0 m (pc + 3) ls (.int r :: rest))) : W p l e R s m args below meth c H locs cells slots Q (F0 m pc ls st0) := by
  have hPX := hP.sub is hi
  exact rd_go (free := fun _ => False) (va_runV S hM cw ⟨zdPc_blind, va_recv hK.1 hPX hc he, fun U hU hW => ⟨rfl, by rw [hU]; exact hPX, hK.warm hW, hZ.call hS (fun _ h => h.elim) hU hW⟩⟩ rfl hn hsize hst (lv_room hW) hdg hf) kk
theorem cz_o {post : Int32 → Prop} (S : CallFix p m c cc nL s args Ts own) (hM : Met l y wc rm (zdPc D tys (.ref b :: As) X tL tG aK aV) (vp_Si post) 0 0 (fun _ => False)) (cw : CallW R s args own C index y bytes maxL ret wc rm 0 0 n)
    (hK : KN D tys s) (hP : va_P D vwCl Wd H) (hZ : ZS tL tG aK aV A s s.heap) (hS : va_S A s.heap H locs) (is : List Nat) (hi : is.filterMap (fun i => Wd[i]?) = X) (hrec : ∃ cell : Cell, H[b]? = some cell ∧ cell.vm.isStatics = false ∧ s.vm.findClass C = some cell.cls) (hst : st0 = As.reverse ++ .ref b :: rest) (hn : As.length = n) (hsize : ls.size = nL) (hW : (rest.map fun v => v.category).sum ≤ 8) (hdg : decode cc pc = .ok (.invokevirtual index, 3)) (hf : cells ≤ R.cells ∧ slots ≤ R.slots)
    (kk : ∀ r : Int32, post r → W p l e R s m args below meth c H locs cells slots Q (F0 m (pc + 3) ls (.int r :: rest))) : W p l e R s m args below meth c H locs cells slots Q (F0 m pc ls st0) := by
  have hPX := hP.sub is hi
  exact rd_go (free := fun _ => False) (va_runV S hM cw ⟨zdPc_blind, hrec, fun U hU hW => ⟨rfl, by rw [hU]; exact hPX, hK.warm hW, hZ.call hS (fun _ h => h.elim) hU hW⟩⟩ rfl hn hsize hst (lv_room hW) hdg hf) kk
theorem cz_s {post : Int32 → Prop} (S : CallFix p m c cc nL s args Ts own) (hM : Met l y wc rm (zdPc D tys As X tL tG aK aV) (vp_Si post) 0 0 (fun _ => False)) (cw : CallB R s args own index y bytes maxL ret wc rm 0 0 n ∧ (Cond.static y).before args s = true)
    (hK : KN D tys s) (hP : va_P D vwCl Wd H) (hZ : ZS tL tG aK aV A s s.heap) (hS : va_S A s.heap H locs) (is : List Nat) (hi : is.filterMap (fun i => Wd[i]?) = X) (hst : st0 = As.reverse ++ rest) (hn : As.length = n) (hsize : ls.size = nL) (hW : (rest.map fun v => v.category).sum ≤ 8) (hdg : decode cc pc = .ok (.invokestatic index, 3)) (hf : cells ≤ R.cells ∧ slots ≤ R.slots)
    (kk : ∀ r : Int32, post r → W p l e R s m args below meth c H locs cells slots Q (F0 m (pc + 3) ls (.int r :: rest))) : W p l e R s m args below meth c H locs cells slots Q (F0 m pc ls st0) := by
  have hPX := hP.sub is hi
  exact rd_go (free := fun _ => False) (va_runS S hM cw ⟨zdPc_blind, fun U hU hW => ⟨rfl, by rw [hU]; exact hPX, hK.warm hW, hZ.call hS (fun _ h => h.elim) hU hW⟩⟩ rfl hn hsize hst (lv_room hW) hdg hf) kk
theorem cz_sv {post : Unit → Prop} (S : CallFix p m c cc nL s args Ts own) (hM : Met l y wc rm (zdPc D tys As X tL tG aK aV) (va_Sv post) 0 0 (fun _ => False)) (cw : CallB R s args own index y bytes maxL ret wc rm 0 0 n ∧ (Cond.static y).before args s = true)
    (hK : KN D tys s) (hP : va_P D vwCl Wd H) (hZ : ZS tL tG aK aV A s s.heap) (hS : va_S A s.heap H locs) (is : List Nat) (hi : is.filterMap (fun i => Wd[i]?) = X) (hst : st0 = As.reverse ++ rest) (hn : As.length = n) (hsize : ls.size = nL) (hW : (rest.map fun v => v.category).sum ≤ 8) (hdg : decode cc pc = .ok (.invokestatic index, 3)) (hf : cells ≤ R.cells ∧ slots ≤ R.slots)
    (kk : post () → W p l e R s m args below meth c H locs cells slots Q (F0 m (pc + 3) ls rest)) : W p l e R s m args below meth c H locs cells slots Q (F0 m pc ls st0) := by
  have hPX := hP.sub is hi
  exact rd_goV (va_runS S hM cw ⟨zdPc_blind, fun U hU hW => ⟨rfl, by rw [hU]; exact hPX, hK.warm hW, hZ.call hS (fun _ h => h.elim) hU hW⟩⟩ rfl hn hsize hst (lv_room hW) hdg hf) kk
theorem cz_wi {S : Type} {post : Int32 → S → Prop} {f : S → va_W} {T : u_T} {N ci : Nat} {fs : List Value} {wr : va_W} (F : CallFix p m c cc nL s args Ts own) (hM : Met l y wc rm (zwPc D tys (.ref b :: As) X H.size tL tG aK aV) (va_Qi post (wrB D (va_A X H.size) f) (va_A X H.size)) mc ms (va_A X H.size)) (cw : CallW R s args own C index y bytes maxL ret wc rm mc ms n)
    (hK : KN D tys s) (hP : va_P D vwCl Wd H) (hD : va_D A Wd) (hS : va_S A s.heap H locs) (hA : ∀ q : Nat, s.heap.size ≤ q → A q) (hZ : ZS tL tG aK aV A s s.heap) (is ir : List Nat) (hi : is.map (fun i => Wd[i]?) = X.map some) (hr : ir.map (fun i => Wd[i]?) = wr.map some) (hni : va_nd is = true) (hnr : va_nd ir = true) (hdis : ∀ i ∈ ir, i ∉ is) (hc : vwCl[ci]? = some (C, T, N)) (he : X[0]? = some (b, .inr (ci, fs))) (hst : st0 = As.reverse ++ .ref b :: rest) (hn : As.length = n) (hsize : ls.size = nL) (hW : (rest.map fun v => v.category).sum ≤ 8) (hdg : decode cc pc = .ok (.invokevirtual index, 3)) (hf : cells + mc ≤ R.cells ∧ slots + ms ≤ R.slots)
    (kk : ∀ (r : Int32) (u : S) (H1 : Heap) (locs1 : List Loc), post r u → va_P D vwCl (wr ++ f u) H1 → va_D A (wr ++ f u) → va_S A s.heap H1 locs1 → W p l e R s m args below meth c H1 locs1 (cells + mc) (slots + ms) Q (F0 m (pc + 3) ls (.int r :: rest))) : W p l e R s m args below meth c H locs cells slots Q (F0 m pc ls st0) := by
  have hpre0 := wr_pre (b := .ref b :: As) hK hP hD rfl is hi hni
  have hFc := va_free (wc := X) hD hS hA is hi
  have hPX : va_P D vwCl X H := sub_P hi hP
  have hpre : ∀ U : State, U.heap = H → s.WarmedH U.vm → zwPc D tys (.ref b :: As) X H.size tL tG aK aV (Value.ref b :: As).toArray U := fun U hU hW => by
    obtain ⟨q1, q2, q3, q4, q5⟩ := hpre0 U hU hW
    exact ⟨q1, q2, q3, q4, q5, hZ.call hS hFc hU hW⟩
  refine va_calli (va_runV F hM cw ⟨zwPc_blind, va_recv hK.1 hPX hc he, hpre⟩ rfl hn hsize hst (lv_room hW) hdg hf) hS (fun q _ h => hFc q h) hFc (fun r u t H1 locs1 ht hvm hp hB hz1 hk1 hS1 => ?_)
  obtain ⟨hP1, hD1⟩ := hB
  rw [ht] at hP1
  obtain ⟨hP3, hD3⟩ := va_join hP hD is ir hi hr hnr hdis hk1 hFc hP1 hD1
  exact kk r u H1 locs1 hp hP3 hD3 hS1
theorem cz_wv {S : Type} {post : S → Prop} {f : S → va_W} {T : u_T} {N ci : Nat} {fs : List Value} {wr : va_W} (F : CallFix p m c cc nL s args Ts own) (hM : Met l y wc rm (zwPc D tys (.ref b :: As) X H.size tL tG aK aV) (va_Qv post (wrB D (va_A X H.size) f) (va_A X H.size)) mc ms (va_A X H.size)) (cw : CallW R s args own C index y bytes maxL ret wc rm mc ms n)
    (hK : KN D tys s) (hP : va_P D vwCl Wd H) (hD : va_D A Wd) (hS : va_S A s.heap H locs) (hA : ∀ q : Nat, s.heap.size ≤ q → A q) (hZ : ZS tL tG aK aV A s s.heap) (is ir : List Nat) (hi : is.map (fun i => Wd[i]?) = X.map some) (hr : ir.map (fun i => Wd[i]?) = wr.map some) (hni : va_nd is = true) (hnr : va_nd ir = true) (hdis : ∀ i ∈ ir, i ∉ is) (hc : vwCl[ci]? = some (C, T, N)) (he : X[0]? = some (b, .inr (ci, fs))) (hst : st0 = As.reverse ++ .ref b :: rest) (hn : As.length = n) (hsize : ls.size = nL) (hW : (rest.map fun v => v.category).sum ≤ 8) (hdg : decode cc pc = .ok (.invokevirtual index, 3)) (hf : cells + mc ≤ R.cells ∧ slots + ms ≤ R.slots)
    (kk : ∀ (u : S) (H1 : Heap) (locs1 : List Loc), post u → va_P D vwCl (wr ++ f u) H1 → va_D A (wr ++ f u) → va_S A s.heap H1 locs1 → W p l e R s m args below meth c H1 locs1 (cells + mc) (slots + ms) Q (F0 m (pc + 3) ls rest)) : W p l e R s m args below meth c H locs cells slots Q (F0 m pc ls st0) := by
  have hpre0 := wr_pre (b := .ref b :: As) hK hP hD rfl is hi hni
  have hFc := va_free (wc := X) hD hS hA is hi
  have hPX : va_P D vwCl X H := sub_P hi hP
  have hpre : ∀ U : State, U.heap = H → s.WarmedH U.vm → zwPc D tys (.ref b :: As) X H.size tL tG aK aV (Value.ref b :: As).toArray U := fun U hU hW => by
    obtain ⟨q1, q2, q3, q4, q5⟩ := hpre0 U hU hW
    exact ⟨q1, q2, q3, q4, q5, hZ.call hS hFc hU hW⟩
  refine va_callv (va_runV F hM cw ⟨zwPc_blind, va_recv hK.1 hPX hc he, hpre⟩ rfl hn hsize hst (lv_room hW) hdg hf) hS (fun q _ h => hFc q h) hFc (fun u t H1 locs1 ht hvm hp hB hz1 hk1 hS1 => ?_)
  obtain ⟨hP1, hD1⟩ := hB
  rw [ht] at hP1
  obtain ⟨hP3, hD3⟩ := va_join hP hD is ir hi hr hnr hdis hk1 hFc hP1 hD1
  exact kk u H1 locs1 hp hP3 hD3 hS1
theorem cz_wiQ {S : Type} {post : Int32 → S → Prop} {f : S → va_W} {T : u_T} {N ci : Nat} {fs : List Value} {wr : va_W} (F : CallFix p m c cc nL s args Ts own) (hM : Met l y wc rm (zwPc D tys (.ref b :: As) X H.size tL tG aK aV) (va_Qi post (wrB D (va_A X H.size) f) (va_A X H.size)) mc ms (va_A X H.size)) (cw : CallW R s args own C index y bytes maxL ret wc rm mc ms n)
    (hK : KN D tys s) (hP : va_P D vwCl (Wd ++ pl) H) (hD : va_D A (Wd ++ pl)) (hS : va_S A s.heap H locs) (hA : ∀ q : Nat, s.heap.size ≤ q → A q) (hZ : ZS tL tG aK aV A s s.heap) (is ir : List Nat) (hi : is.map (fun i => Wd[i]?) = X.map some) (hr : ir.map (fun i => Wd[i]?) = wr.map some) (hni : va_nd is = true) (hnr : va_nd ir = true) (hdis : ∀ i ∈ ir, i ∉ is) (hc : vwCl[ci]? = some (C, T, N)) (he : X[0]? = some (b, .inr (ci, fs))) (hst : st0 = As.reverse ++ .ref b :: rest) (hn : As.length = n) (hsize : ls.size = nL) (hW : (rest.map fun v => v.category).sum ≤ 8) (hdg : decode cc pc = .ok (.invokevirtual index, 3)) (hf : cells + mc ≤ R.cells ∧ slots + ms ≤ R.slots)
    (kk : ∀ (r : Int32) (u : S) (H1 : Heap) (locs1 : List Loc), post r u → va_P D vwCl ((wr ++ f u) ++ pl) H1 → va_D A ((wr ++ f u) ++ pl) → va_S A s.heap H1 locs1 → W p l e R s m args below meth c H1 locs1 (cells + mc) (slots + ms) Q (F0 m (pc + 3) ls (.int r :: rest))) : W p l e R s m args below meth c H locs cells slots Q (F0 m pc ls st0) := by
  have hpre0 := wr_pre (b := .ref b :: As) hK hP.left hD.left rfl is hi hni
  have hFc := va_free (wc := X) hD.left hS hA is hi
  have hPX : va_P D vwCl X H := sub_P hi hP.left
  have hpre : ∀ U : State, U.heap = H → s.WarmedH U.vm → zwPc D tys (.ref b :: As) X H.size tL tG aK aV (Value.ref b :: As).toArray U := fun U hU hW => by
    obtain ⟨q1, q2, q3, q4, q5⟩ := hpre0 U hU hW
    exact ⟨q1, q2, q3, q4, q5, hZ.call hS hFc hU hW⟩
  refine va_calli (va_runV F hM cw ⟨zwPc_blind, va_recv hK.1 hPX hc he, hpre⟩ rfl hn hsize hst (lv_room hW) hdg hf) hS (fun q _ h => hFc q h) hFc (fun r u t H1 locs1 ht hvm hp hB hz1 hk1 hS1 => ?_)
  obtain ⟨hP1, hD1⟩ := hB
  rw [ht] at hP1
  obtain ⟨hP3, hD3⟩ := va_joinQ hP hD is ir hi hr hnr hdis hk1 hFc hP1 hD1
  exact kk r u H1 locs1 hp hP3 hD3 hS1
theorem cz_wvQ {S : Type} {post : S → Prop} {f : S → va_W} {T : u_T} {N ci : Nat} {fs : List Value} {wr : va_W} (F : CallFix p m c cc nL s args Ts own) (hM : Met l y wc rm (zwPc D tys (.ref b :: As) X H.size tL tG aK aV) (va_Qv post (wrB D (va_A X H.size) f) (va_A X H.size)) mc ms (va_A X H.size)) (cw : CallW R s args own C index y bytes maxL ret wc rm mc ms n)
    (hK : KN D tys s) (hP : va_P D vwCl (Wd ++ pl) H) (hD : va_D A (Wd ++ pl)) (hS : va_S A s.heap H locs) (hA : ∀ q : Nat, s.heap.size ≤ q → A q) (hZ : ZS tL tG aK aV A s s.heap) (is ir : List Nat) (hi : is.map (fun i => Wd[i]?) = X.map some) (hr : ir.map (fun i => Wd[i]?) = wr.map some) (hni : va_nd is = true) (hnr : va_nd ir = true) (hdis : ∀ i ∈ ir, i ∉ is) (hc : vwCl[ci]? = some (C, T, N)) (he : X[0]? = some (b, .inr (ci, fs))) (hst : st0 = As.reverse ++ .ref b :: rest) (hn : As.length = n) (hsize : ls.size = nL) (hW : (rest.map fun v => v.category).sum ≤ 8) (hdg : decode cc pc = .ok (.invokevirtual index, 3)) (hf : cells + mc ≤ R.cells ∧ slots + ms ≤ R.slots)
    (kk : ∀ (u : S) (H1 : Heap) (locs1 : List Loc), post u → va_P D vwCl ((wr ++ f u) ++ pl) H1 → va_D A ((wr ++ f u) ++ pl) → va_S A s.heap H1 locs1 → W p l e R s m args below meth c H1 locs1 (cells + mc) (slots + ms) Q (F0 m (pc + 3) ls rest)) : W p l e R s m args below meth c H locs cells slots Q (F0 m pc ls st0) := by
  have hpre0 := wr_pre (b := .ref b :: As) hK hP.left hD.left rfl is hi hni
  have hFc := va_free (wc := X) hD.left hS hA is hi
  have hPX : va_P D vwCl X H := sub_P hi hP.left
  have hpre : ∀ U : State, U.heap = H → s.WarmedH U.vm → zwPc D tys (.ref b :: As) X H.size tL tG aK aV (Value.ref b :: As).toArray U := fun U hU hW => by
    obtain ⟨q1, q2, q3, q4, q5⟩ := hpre0 U hU hW
    exact ⟨q1, q2, q3, q4, q5, hZ.call hS hFc hU hW⟩
  refine va_callv (va_runV F hM cw ⟨zwPc_blind, va_recv hK.1 hPX hc he, hpre⟩ rfl hn hsize hst (lv_room hW) hdg hf) hS (fun q _ h => hFc q h) hFc (fun u t H1 locs1 ht hvm hp hB hz1 hk1 hS1 => ?_)
  obtain ⟨hP1, hD1⟩ := hB
  rw [ht] at hP1
  obtain ⟨hP3, hD3⟩ := va_joinQ hP hD is ir hi hr hnr hdis hk1 hFc hP1 hD1
  exact kk u H1 locs1 hp hP3 hD3 hS1
end MYZ
