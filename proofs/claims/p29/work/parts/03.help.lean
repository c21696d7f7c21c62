/-! ===== my rows: pictures, contracts that read, contracts that write, calls ===== -/
-- the nest mates' links, that no word list holds: they are carried in each contract's start
def nestWs : List Cond := [.methodLinkNest RX3 27 yX0_init RX6, .methodLinkNest RX3 34 yX2_init RX6, .methodLinkNest RX3 41 yX4_init RX6, .methodLinkNest RX6 28 yX5_init RX6, .methodLinkNest RX3 53 yX6_copyRow RX6, .methodLinkNest RX0 40 yX6_copyRow RX6, .methodLinkNest RX2 34 yX6_copyRow RX6, .methodLinkNest RX4 25 yX6_copyRow RX6]
def EV (U : State) : Prop := ∀ w ∈ nestWs, va_Nw w U
theorem nestWs_tab : nestWs.all (fun w => w.onTables) = true := by decide +kernel
theorem EV.same {u U : State} (h : u.vm = U.vm) (hE : EV u) : EV U := fun w hw => va_Nw.same (List.all_eq_true.mp nestWs_tab w hw) h (hE w hw)
theorem EV.warm {s U : State} (hW : s.WarmedH U.vm) (h : EV s) : EV U := by
  intro w hw
  have h1 := h w hw
  simp only [nestWs, List.mem_cons, List.not_mem_nil, or_false] at hw
  rcases hw with rfl | rfl | rfl | rfl | rfl | rfl | rfl | rfl
  · exact va_Nw.warmM hW h1
  · exact va_Nw.warmM hW h1
  · exact va_Nw.warmM hW h1
  · exact va_Nw.warmM hW h1
  · exact va_Nw.warmM hW h1
  · exact va_Nw.warmM hW h1
  · exact va_Nw.warmM hW h1
  · exact va_Nw.warmM hW h1
-- the classes and array classes as the tables have them
def KN (D : va_G) (tys : List (ClassId × FieldType)) (U : State) : Prop := va_K D vwCl tys U ∧ EV U ∧ va_AO "ParkingGarage$State" U
theorem KN.warm {D : va_G} {tys : List (ClassId × FieldType)} {s U : State} (hW : s.WarmedH U.vm) (h : KN D tys s) : KN D tys U := ⟨va_K.moved hW.alike h.1, h.2.1.warm hW, va_AO.moved hW.alike h.2.2⟩
theorem KN.same {D : va_G} {tys : List (ClassId × FieldType)} {s U : State} (e : s.vm = U.vm) (hA : s.vm.Alike U.vm) (h : KN D tys s) : KN D tys U := ⟨va_K.moved hA h.1, h.2.1.same e, va_AO.moved hA h.2.2⟩
-- a method that reads: it leaves the heap as it is
def rdPc (D : va_G) (tys : List (ClassId × FieldType)) (av : List Value) (X : va_W) : Array Value → State → Prop := va_Pc av (fun U => va_P D vwCl X U.heap ∧ KN D tys U)
theorem rdPc_blind {D : va_G} {tys : List (ClassId × FieldType)} {av : List Value} {X : va_W} : FrameBlind (rdPc D tys av X) := fun a U g mk q => ⟨q.1, q.2.1, KN.same (s := U) (U := U.calling g mk a) rfl (Vm.Alike.refl U.vm) q.2.2⟩
theorem rd_intro {l : Launch} {y : MethodName} {ws ws' : List Cond} {rm : Room} {cc : ByteArray} {maxL : Nat} {ret : Option FieldType} {D : va_G} {tys : List (ClassId × FieldType)} {av : List Value} {X : va_W} {Qc : Array Value → State → Outcome → State → Prop}
    (hy : plainName y.cls = true) (hw : ws = Cond.code y cc maxL ret :: ws') (hn : (lg_sl av).length ≤ maxL)
    (body : ∀ (p : Program) (e : Env) (s : State) (m : MethodId) (below : List Frame) (meth : Method) (c : Code), p.tables.exec = Jvm.exec → c.code = cc → meth.sig.returnType = ret → c.maxLocals = maxL → (∀ w ∈ ws, w.before av.toArray s = true) → s.vm.findClass y.cls = some m.cls → meth.locks = false → va_P D vwCl X s.heap → KN D tys s → ∀ ls : Array Slot, lv_has ls maxL (lv_args 0 av) →
      W p l e rm s m av.toArray below meth c s.heap [] 0 0 (MQ below Qc av.toArray s 0 0 (fun _ => False)) (F0 m 0 ls [])) : Met l y ws rm (rdPc D tys av X) Qc 0 0 (fun _ => False) := by
  refine Met.ofW (cc := cc) (maxL := maxL) (ret := ret) hy hw ?_
  intro p e s m args below meth c s₁ B hml hv
  obtain ⟨rfl, hP, hK⟩ := hv
  have hts := atoms_spec (ws := ws) B.pre
  have hl := lv_entry av (n := maxL) hn
  rw [lg_entry_eq]
  exact body p e s m below meth c B.exec B.bytes B.returns hml hts (findClass_of_methodNamed B.named) B.notSynchronized hP hK _ hl
-- a method that writes
def wrPc (D : va_G) (tys : List (ClassId × FieldType)) (av : List Value) (X : va_W) (sz : Nat) : Array Value → State → Prop := va_Pc av (fun U => U.heap.size = sz ∧ va_P D vwCl X U.heap ∧ KN D tys U ∧ va_D (fun _ => True) X)
theorem wrPc_blind {D : va_G} {tys : List (ClassId × FieldType)} {av : List Value} {X : va_W} {sz : Nat} : FrameBlind (wrPc D tys av X sz) := fun a U g mk q => ⟨q.1, q.2.1, q.2.2.1, KN.same (s := U) (U := U.calling g mk a) rfl (Vm.Alike.refl U.vm) q.2.2.2.1, q.2.2.2.2⟩
def wrB {S : Type} (D : va_G) (A : Nat → Prop) (f : S → va_W) : S → State → Prop := fun u t => va_P D vwCl (f u) t.heap ∧ va_D A (f u)
theorem wr_intro {S : Type} {l : Launch} {y : MethodName} {ws ws' : List Cond} {rm : Room} {cc : ByteArray} {maxL : Nat} {ret : Option FieldType} {D : va_G} {tys : List (ClassId × FieldType)} {av : List Value} {X : va_W} {sz mc ms : Nat} {Qc : (Nat → Prop) → (S → State → Prop) → Array Value → State → Outcome → State → Prop} {f : S → va_W}
    (hy : plainName y.cls = true) (hw : ws = Cond.code y cc maxL ret :: ws') (hn : (lg_sl av).length ≤ maxL)
    (body : ∀ (p : Program) (e : Env) (s : State) (m : MethodId) (below : List Frame) (meth : Method) (c : Code) (A : Nat → Prop), p.tables.exec = Jvm.exec → c.code = cc → meth.sig.returnType = ret → c.maxLocals = maxL → (∀ w ∈ ws, w.before av.toArray s = true) → s.vm.findClass y.cls = some m.cls → meth.locks = false → (y.name = "<init>" → meth.name = "<init>") → va_P D vwCl X s.heap → KN D tys s → va_D A X → (∀ q : Nat, s.heap.size ≤ q → A q) → va_S A s.heap s.heap [] → ∀ ls : Array Slot, lv_has ls maxL (lv_args 0 av) →
      W p l e rm s m av.toArray below meth c s.heap [] 0 0 (MQ below (Qc A (wrB D A f)) av.toArray s mc ms A) (F0 m 0 ls [])) : Met l y ws rm (wrPc D tys av X sz) (Qc (va_A X sz) (wrB D (va_A X sz) f)) mc ms (va_A X sz) := by
  refine Met.ofW (cc := cc) (maxL := maxL) (ret := ret) hy hw ?_
  intro p e s m args below meth c s₁ B hml hv
  obtain ⟨rfl, hsz, hP, hK, hD0⟩ := hv
  subst hsz
  have hts := atoms_spec (ws := ws) B.pre
  have hl := lv_entry av (n := maxL) hn
  rw [lg_entry_eq]
  exact body p e s m below meth c (va_A X s.heap.size) B.exec B.bytes B.returns hml hts (findClass_of_methodNamed B.named) B.notSynchronized (fun h => by rw [(name_of_methodNamed B.named B.method).1]; exact h) hP hK hD0.self (fun q h => Or.inr h) va_S.rf _ hl
section MYW
variable {p : Program} {l : Launch} {e : Env} {R : Room} {s : State} {m : MethodId} {args : Array Value} {below : List Frame} {meth : Method} {c : Code} {H : Heap} {locs : List Loc} {cells slots : Nat} {Q : State → Prop}
variable {cc : ByteArray} {pc : Nat} {ls : Array Slot} {rest st0 : List Value} {D : va_G} {cl : List vw_C} {A : Nat → Prop} {a : Nat} {tys : List (ClassId × FieldType)} {ws : va_W} {H0 : Heap}
-- the ends of a method that reads
theorem rd_iret {post : Int32 → Prop} {v : Int32} (hexec : p.tables.exec = Jvm.exec) (hb : c.code = cc) (hr : meth.sig.returnType = some .int) (hlocks : meth.locks = false) (hdg : decode cc pc = .ok (.ireturn, 1)) (hp : post v) :
    W p l e R s m args below meth c s.heap [] 0 0 (MQ below (vp_Si post) args s 0 0 (fun _ => False)) (F0 m pc ls [.int v]) :=
  W.iret (v := v) hexec hb hr (fun t ht _ => ⟨v, rfl, hp, ht⟩) (fun q h => by cases h) hdg hlocks
theorem rd_zret {post : Int32 → Prop} {v : Int32} {ty : FieldType} (hexec : p.tables.exec = Jvm.exec) (hb : c.code = cc) (hr : meth.sig.returnType = some ty) (hlocks : meth.locks = false) (hdg : decode cc pc = .ok (.ireturn, 1)) (hn : narrow ty (.int v) = .int v) (hp : post v) :
    W p l e R s m args below meth c s.heap [] 0 0 (MQ below (vp_Si post) args s 0 0 (fun _ => False)) (F0 m pc ls [.int v]) :=
  W.zret (v := v) hexec hb hr hn (fun t ht _ => ⟨v, rfl, hp, ht⟩) (fun q h => by cases h) hdg hlocks
-- the ends of a method that writes
theorem wr_iret {S : Type} {post : Int32 → S → Prop} {f : S → va_W} {v : Int32} (u : S) (hexec : p.tables.exec = Jvm.exec) (hb : c.code = cc) (hr : meth.sig.returnType = some .int) (hlocks : meth.locks = false) (hS : va_S A s.heap H locs) (hP : va_P D vwCl ws H) (hD : va_D A ws) (is : List Nat) (hi : is.filterMap (fun i => ws[i]?) = f u) (hi2 : is.map (fun i => ws[i]?) = (f u).map some) (hn : va_nd is = true) (hdg : decode cc pc = .ok (.ireturn, 1)) (hp : post v u) :
    W p l e R s m args below meth c H locs cells slots (MQ below (va_Qi post (wrB D A f) A) args s cells slots A) (F0 m pc ls [.int v]) :=
  W.iret (v := v) hexec hb hr (fun t ht _ => ⟨⟨v, u, rfl, hp, by rw [ht]; exact hP.sub is hi, hD.sub is hn hi2⟩, hS.F ht⟩) hS.2.2 hdg hlocks
theorem wr_zret {S : Type} {post : Int32 → S → Prop} {f : S → va_W} {v : Int32} {ty : FieldType} (u : S) (hexec : p.tables.exec = Jvm.exec) (hb : c.code = cc) (hr : meth.sig.returnType = some ty) (hn1 : narrow ty (.int v) = .int v) (hlocks : meth.locks = false) (hS : va_S A s.heap H locs) (hP : va_P D vwCl ws H) (hD : va_D A ws) (is : List Nat) (hi : is.filterMap (fun i => ws[i]?) = f u) (hi2 : is.map (fun i => ws[i]?) = (f u).map some) (hn : va_nd is = true) (hdg : decode cc pc = .ok (.ireturn, 1)) (hp : post v u) :
    W p l e R s m args below meth c H locs cells slots (MQ below (va_Qi post (wrB D A f) A) args s cells slots A) (F0 m pc ls [.int v]) :=
  W.zret (v := v) hexec hb hr hn1 (fun t ht _ => ⟨⟨v, u, rfl, hp, by rw [ht]; exact hP.sub is hi, hD.sub is hn hi2⟩, hS.F ht⟩) hS.2.2 hdg hlocks
theorem wr_vret {S : Type} {post : S → Prop} {f : S → va_W} (u : S) (hexec : p.tables.exec = Jvm.exec) (hb : c.code = cc) (hr : meth.sig.returnType = none) (hlocks : meth.locks = false) (hS : va_S A s.heap H locs) (hP : va_P D vwCl ws H) (hD : va_D A ws) (is : List Nat) (hi : is.filterMap (fun i => ws[i]?) = f u) (hi2 : is.map (fun i => ws[i]?) = (f u).map some) (hn : va_nd is = true) (hdg : decode cc pc = .ok (.return_, 1)) (hp : post u) :
    W p l e R s m args below meth c H locs cells slots (MQ below (va_Qv post (wrB D A f) A) args s cells slots A) (F0 m pc ls []) :=
  W.vret hexec hb hr (fun t ht _ => ⟨⟨u, rfl, hp, by rw [ht]; exact hP.sub is hi, hD.sub is hn hi2⟩, hS.F ht⟩) hS.2.2 hdg hlocks
-- arrays of ints at a place that is a number
theorem iald_n (hexec : p.tables.exec = Jvm.exec) (hb : c.code = cc) (hK : va_K D cl tys s) (hP : va_P D cl ws H) (q0 t0 : Nat) {cA : ClassId} {n : Nat} {f : Nat → Int32} (ha : ws[q0]? = some (a, .inl (cA, n, .inl f))) (ht : tys[t0]? = some (cA, .int)) {i : Int32} (k : Nat) (hi : i = nI k) (hk : k < n) (hn : n < 2 ^ 31) (hdg : decode cc pc = .ok (.iaload, 1))
    (kk : W p l e R s m args below meth c H locs cells slots Q (F0 m (pc + 1) ls (.int (f k) :: rest))) : W p l e R s m args below meth c H locs cells slots Q (F0 m pc ls (.int i :: .ref a :: rest)) := by
  subst hi
  refine va_iald hexec hb hK hP q0 t0 ha ht (vp_in_nI hk hn) hdg ?_
  rw [nI_clamp (by omega)]
  exact kk
theorem iast_n (hexec : p.tables.exec = Jvm.exec) (hb : c.code = cc) (hK : va_K D cl tys s) (hP : va_P D cl ws H) (hD : va_D A ws) (hS : va_S A H0 H locs) (q0 t0 : Nat) {cA : ClassId} {n : Nat} {f : Nat → Int32} (ha : ws[q0]? = some (a, .inl (cA, n, .inl f))) (ht : tys[t0]? = some (cA, .int)) {i : Int32} {x : Int32} (k : Nat) (hi : i = nI k) (hk : k < n) (hn : n < 2 ^ 31) (hdg : decode cc pc = .ok (.iastore, 1))
    (kk : ∀ (H1 : Heap) (locs1 : List Loc), va_P D cl (ws.set q0 (a, .inl (cA, n, .inl (upd f k x)))) H1 → va_D A (ws.set q0 (a, .inl (cA, n, .inl (upd f k x)))) → va_S A H0 H1 locs1 → W p l e R s m args below meth c H1 locs1 cells slots Q (F0 m (pc + 1) ls rest)) : W p l e R s m args below meth c H locs cells slots Q (F0 m pc ls (.int x :: .int i :: .ref a :: rest)) := by
  subst hi
  refine va_iast hexec hb hK hP hD hS q0 t0 ha ht (vp_in_nI hk hn) hdg ?_
  rw [nI_clamp (by omega)]
  exact kk
-- branches whose way is known
theorem if_eq_t (hexec : p.tables.exec = Jvm.exec) (hb : c.code = cc) {x : Int32} {off : Int} {tgt : Nat} (h : x = 0) (hdg : decode cc pc = .ok (.ifCond .eq off, 3)) (ht : (pc : Int) + off = (tgt : Int)) (k : W p l e R s m args below meth c H locs cells slots Q (F0 m tgt ls rest)) : W p l e R s m args below meth c H locs cells slots Q (F0 m pc ls (.int x :: rest)) := lv_if_eq hexec hb hdg ht (fun _ => k) (fun q => absurd h q)
theorem if_eq_f (hexec : p.tables.exec = Jvm.exec) (hb : c.code = cc) {x : Int32} {off : Int} {tgt : Nat} (h : ¬ x = 0) (hdg : decode cc pc = .ok (.ifCond .eq off, 3)) (ht : (pc : Int) + off = (tgt : Int)) (k : W p l e R s m args below meth c H locs cells slots Q (F0 m (pc + 3) ls rest)) : W p l e R s m args below meth c H locs cells slots Q (F0 m pc ls (.int x :: rest)) := lv_if_eq hexec hb hdg ht (fun q => absurd q h) (fun _ => k)
theorem if_ne_t (hexec : p.tables.exec = Jvm.exec) (hb : c.code = cc) {x : Int32} {off : Int} {tgt : Nat} (h : ¬ x = 0) (hdg : decode cc pc = .ok (.ifCond .ne off, 3)) (ht : (pc : Int) + off = (tgt : Int)) (k : W p l e R s m args below meth c H locs cells slots Q (F0 m tgt ls rest)) : W p l e R s m args below meth c H locs cells slots Q (F0 m pc ls (.int x :: rest)) := lv_if_ne hexec hb hdg ht (fun _ => k) (fun q => absurd q h)
theorem if_ne_f (hexec : p.tables.exec = Jvm.exec) (hb : c.code = cc) {x : Int32} {off : Int} {tgt : Nat} (h : x = 0) (hdg : decode cc pc = .ok (.ifCond .ne off, 3)) (ht : (pc : Int) + off = (tgt : Int)) (k : W p l e R s m args below meth c H locs cells slots Q (F0 m (pc + 3) ls rest)) : W p l e R s m args below meth c H locs cells slots Q (F0 m pc ls (.int x :: rest)) := lv_if_ne hexec hb hdg ht (fun q => absurd h q) (fun _ => k)
-- calls of methods that read
variable {y : MethodName} {bytes : ByteArray} {maxL nL mc ms n index : Nat} {ret : Option FieldType} {wc : List Cond} {rm : Room} {Ts : List Cond} {own C : String} {b : Addr} {As : List Value} {X Wd : va_W}
theorem rd_go {post : Int32 → Prop} {a : Array Value} {free : Addr → Prop} (hr : va_Run p l e R s m args below meth c H locs cells slots 0 0 (F0 m pc ls st0) rest (vp_Si post a) (fun _ => False))
    (kk : ∀ r : Int32, post r → W p l e R s m args below meth c H locs cells slots Q (F0 m (pc + 3) ls (.int r :: rest))) : W p l e R s m args below meth c H locs cells slots Q (F0 m pc ls st0) := by
  intro T hT X
  obtain ⟨v, st₀, t, T', L, h0, X', hL, e1, e2, ⟨r, hv, hp, hh⟩, st⟩ := hr T hT X
  cases hv
  obtain ⟨t2, a1, b1⟩ := kk r hp T' (by rw [e1, hh, h0]) (Stand.forget X' (fun q h => (hL q h).elim))
  exact ⟨t2, st t2 a1, b1⟩
theorem cv_i {post : Int32 → Prop} {T : u_T} {N ci : Nat} {fs : List Value} (S : CallFix p m c cc nL s args Ts own) (hM : Met l y wc rm (rdPc D tys (.ref b :: As) X) (vp_Si post) 0 0 (fun _ => False)) (cw : CallW R s args own C index y bytes maxL ret wc rm 0 0 n)
    (hK : KN D tys s) (hP : va_P D vwCl Wd H) (is : List Nat) (hi : is.filterMap (fun i => Wd[i]?) = X) (hc : vwCl[ci]? = some (C, T, N)) (he : X[0]? = some (b, .inr (ci, fs))) (hst : st0 = As.reverse ++ .ref b :: rest) (hn : As.length = n) (hsize : ls.size = nL) (hW : (rest.map fun v => v.category).sum ≤ 8) (hdg : decode cc pc = .ok (.invokevirtual index, 3)) (hf : cells ≤ R.cells ∧ slots ≤ R.slots)
    (kk : ∀ r : Int32, post r → W p l e R s m args below meth c H locs cells slots Q (F0 m (pc + 3) ls (.int r :: rest))) : W p l e R s m args below meth c H locs cells slots Q (F0 m pc ls st0) := by
  have hPX := hP.sub is hi
  exact rd_go (free := fun _ => False) (va_runV S hM cw ⟨rdPc_blind, va_recv hK.1 hPX hc he, fun U hU hW => ⟨rfl, by rw [hU]; exact hPX, hK.warm hW⟩⟩ rfl hn hsize hst (lv_room hW) hdg hf) kk
theorem cs_i {post : Int32 → Prop} (S : CallFix p m c cc nL s args Ts own) (hM : Met l y wc rm (rdPc D tys As X) (vp_Si post) 0 0 (fun _ => False)) (cw : CallB R s args own index y bytes maxL ret wc rm 0 0 n ∧ (Cond.static y).before args s = true)
    (hK : KN D tys s) (hP : va_P D vwCl Wd H) (is : List Nat) (hi : is.filterMap (fun i => Wd[i]?) = X) (hst : st0 = As.reverse ++ rest) (hn : As.length = n) (hsize : ls.size = nL) (hW : (rest.map fun v => v.category).sum ≤ 8) (hdg : decode cc pc = .ok (.invokestatic index, 3)) (hf : cells ≤ R.cells ∧ slots ≤ R.slots)
    (kk : ∀ r : Int32, post r → W p l e R s m args below meth c H locs cells slots Q (F0 m (pc + 3) ls (.int r :: rest))) : W p l e R s m args below meth c H locs cells slots Q (F0 m pc ls st0) := by
  have hPX := hP.sub is hi
  exact rd_go (free := fun _ => False) (va_runS S hM cw ⟨rdPc_blind, fun U hU hW => ⟨rfl, by rw [hU]; exact hPX, hK.warm hW⟩⟩ rfl hn hsize hst (lv_room hW) hdg hf) kk
theorem csN_i {host : String} {post : Int32 → Prop} (S : CallFix p m c cc nL s args Ts own) (hM : Met l y wc rm (rdPc D tys As X) (vp_Si post) 0 0 (fun _ => False)) (cw : va_CN R s args own index y host bytes maxL ret wc rm 0 0 n ∧ (Cond.static y).before args s = true ∧ True)
    (hK : KN D tys s) (hP : va_P D vwCl Wd H) (is : List Nat) (hi : is.filterMap (fun i => Wd[i]?) = X) (hst : st0 = As.reverse ++ rest) (hn : As.length = n) (hsize : ls.size = nL) (hW : (rest.map fun v => v.category).sum ≤ 8) (hdg : decode cc pc = .ok (.invokestatic index, 3)) (hf : cells ≤ R.cells ∧ slots ≤ R.slots)
    (kk : ∀ r : Int32, post r → W p l e R s m args below meth c H locs cells slots Q (F0 m (pc + 3) ls (.int r :: rest))) : W p l e R s m args below meth c H locs cells slots Q (F0 m pc ls st0) := by
  have hPX := hP.sub is hi
  exact rd_go (free := fun _ => False) (va_runSN S hM cw ⟨rdPc_blind, fun U hU hW => ⟨rfl, by rw [hU]; exact hPX, hK.warm hW⟩⟩ rfl hn hsize hst (lv_room hW) hdg hf) kk
theorem rd_aret {post : Nat → Prop} {ad : Nat → Nat} {rt : String} (k : Nat) (hexec : p.tables.exec = Jvm.exec) (hb : c.code = cc) (hr : meth.sig.returnType = some (.object rt)) (hlocks : meth.locks = false) (hdg : decode cc pc = .ok (.areturn, 1)) (hp : post k) :
    W p l e R s m args below meth c s.heap [] 0 0 (MQ below (va_Sr post (fun k => Value.ref (ad k))) args s 0 0 (fun _ => False)) (F0 m pc ls [.ref (ad k)]) :=
  W.aret (v := .ref (ad k)) hexec hb hr (Or.inl ⟨_, rfl⟩) (Or.inr ⟨_, rfl⟩) (fun t ht _ => ⟨k, rfl, hp, ht⟩) (fun q h => by cases h) hdg hlocks
theorem cv_r {post : Nat → Prop} {ad : Nat → Nat} {T : u_T} {N ci : Nat} {fs : List Value} (S : CallFix p m c cc nL s args Ts own) (hM : Met l y wc rm (rdPc D tys (.ref b :: As) X) (va_Sr post (fun k => Value.ref (ad k))) 0 0 (fun _ => False)) (cw : CallW R s args own C index y bytes maxL ret wc rm 0 0 n)
    (hK : KN D tys s) (hP : va_P D vwCl Wd H) (is : List Nat) (hi : is.filterMap (fun i => Wd[i]?) = X) (hc : vwCl[ci]? = some (C, T, N)) (he : X[0]? = some (b, .inr (ci, fs))) (hst : st0 = As.reverse ++ .ref b :: rest) (hn : As.length = n) (hsize : ls.size = nL) (hW : (rest.map fun v => v.category).sum ≤ 8) (hdg : decode cc pc = .ok (.invokevirtual index, 3)) (hf : cells ≤ R.cells ∧ slots ≤ R.slots)
    (kk : ∀ k : Nat, post k → W p l e R s m args below meth c H locs cells slots Q (F0 m (pc + 3) ls (.ref (ad k) :: rest))) : W p l e R s m args below meth c H locs cells slots Q (F0 m pc ls st0) := by
  have hPX := hP.sub is hi
  have hr : va_Run p l e R s m args below meth c H locs cells slots 0 0 (F0 m pc ls st0) rest (va_Sr post (fun k => Value.ref (ad k)) (Value.ref b :: As).toArray) (fun _ => False) := va_runV S hM cw ⟨rdPc_blind, va_recv hK.1 hPX hc he, fun U hU hW => ⟨rfl, by rw [hU]; exact hPX, hK.warm hW⟩⟩ rfl hn hsize hst (lv_room hW) hdg hf
  intro T hT X
  obtain ⟨v, st₀, t, T', L, h0, X', hL, e1, e2, ⟨k, hv, hp, hh⟩, st⟩ := hr T hT X
  cases hv
  obtain ⟨t2, a1, b1⟩ := kk k hp T' (by rw [e1, hh, h0]) (Stand.forget X' (fun q h => (hL q h).elim))
  exact ⟨t2, st t2 a1, b1⟩
-- calls of methods that write
theorem wr_pre {b : List Value} {sz : Nat} (hK : KN D tys s) (hP : va_P D vwCl Wd H) (hD : va_D A Wd) (hsz : H.size = sz) (is : List Nat) (hi : is.map (fun i => Wd[i]?) = X.map some) (hnd : va_nd is = true) : ∀ U : State, U.heap = H → s.WarmedH U.vm → wrPc D tys b X sz b.toArray U := by
  intro U hU hW
  have hPX : va_P D vwCl X H := by
    intro k q hk
    have h1 : (is.map (fun i => Wd[i]?))[k]? = some (some q) := by rw [hi, List.getElem?_map, hk]; rfl
    rw [List.getElem?_map] at h1
    cases hj : is[k]? with
    | none => rw [hj] at h1; cases h1
    | some i => rw [hj] at h1; exact hP i q (Option.some.inj h1)
  exact ⟨rfl, by rw [hU]; exact hsz, by rw [hU]; exact hPX, hK.warm hW, (hD.sub is hnd hi).weaken (fun _ _ _ _ => trivial)⟩
theorem cv_wi {S : Type} {post : Int32 → S → Prop} {f : S → va_W} {T : u_T} {N ci : Nat} {fs : List Value} {wr : va_W} (F : CallFix p m c cc nL s args Ts own) (hM : Met l y wc rm (wrPc D tys (.ref b :: As) X H.size) (va_Qi post (wrB D (va_A X H.size) f) (va_A X H.size)) mc ms (va_A X H.size)) (cw : CallW R s args own C index y bytes maxL ret wc rm mc ms n)
    (hK : KN D tys s) (hP : va_P D vwCl Wd H) (hD : va_D A Wd) (hS : va_S A s.heap H locs) (hA : ∀ q : Nat, s.heap.size ≤ q → A q) (is ir : List Nat) (hi : is.map (fun i => Wd[i]?) = X.map some) (hr : ir.map (fun i => Wd[i]?) = wr.map some) (hni : va_nd is = true) (hnr : va_nd ir = true) (hdis : ∀ i ∈ ir, i ∉ is) (hc : vwCl[ci]? = some (C, T, N)) (he : X[0]? = some (b, .inr (ci, fs))) (hst : st0 = As.reverse ++ .ref b :: rest) (hn : As.length = n) (hsize : ls.size = nL) (hW : (rest.map fun v => v.category).sum ≤ 8) (hdg : decode cc pc = .ok (.invokevirtual index, 3)) (hf : cells + mc ≤ R.cells ∧ slots + ms ≤ R.slots)
    (kk : ∀ (r : Int32) (u : S) (H1 : Heap) (locs1 : List Loc), post r u → va_P D vwCl (wr ++ f u) H1 → va_D A (wr ++ f u) → va_S A s.heap H1 locs1 → W p l e R s m args below meth c H1 locs1 (cells + mc) (slots + ms) Q (F0 m (pc + 3) ls (.int r :: rest))) : W p l e R s m args below meth c H locs cells slots Q (F0 m pc ls st0) := by
  have hpre := wr_pre (b := .ref b :: As) hK hP hD rfl is hi hni
  have hFc := va_free (wc := X) hD hS hA is hi
  have hPX : va_P D vwCl X H := fun k q hk => by
    have h1 : (is.map (fun i => Wd[i]?))[k]? = some (some q) := by rw [hi, List.getElem?_map, hk]; rfl
    rw [List.getElem?_map] at h1
    cases hj : is[k]? with
    | none => rw [hj] at h1; cases h1
    | some i => rw [hj] at h1; exact hP i q (Option.some.inj h1)
  refine va_calli (va_runV F hM cw ⟨wrPc_blind, va_recv hK.1 hPX hc he, hpre⟩ rfl hn hsize hst (lv_room hW) hdg hf) hS (fun q _ h => hFc q h) hFc (fun r u t H1 locs1 ht hvm hp hB hz1 hk1 hS1 => ?_)
  obtain ⟨hP1, hD1⟩ := hB
  rw [ht] at hP1
  obtain ⟨hP2, hD2⟩ := va_join hP hD is ir hi hr hnr hdis hk1 hFc hP1 hD1
  exact kk r u H1 locs1 hp hP2 hD2 hS1
theorem cv_wv {S : Type} {post : S → Prop} {f : S → va_W} {T : u_T} {N ci : Nat} {fs : List Value} {wr : va_W} (F : CallFix p m c cc nL s args Ts own) (hM : Met l y wc rm (wrPc D tys (.ref b :: As) X H.size) (va_Qv post (wrB D (va_A X H.size) f) (va_A X H.size)) mc ms (va_A X H.size)) (cw : CallW R s args own C index y bytes maxL ret wc rm mc ms n)
    (hK : KN D tys s) (hP : va_P D vwCl Wd H) (hD : va_D A Wd) (hS : va_S A s.heap H locs) (hA : ∀ q : Nat, s.heap.size ≤ q → A q) (is ir : List Nat) (hi : is.map (fun i => Wd[i]?) = X.map some) (hr : ir.map (fun i => Wd[i]?) = wr.map some) (hni : va_nd is = true) (hnr : va_nd ir = true) (hdis : ∀ i ∈ ir, i ∉ is) (hc : vwCl[ci]? = some (C, T, N)) (he : X[0]? = some (b, .inr (ci, fs))) (hst : st0 = As.reverse ++ .ref b :: rest) (hn : As.length = n) (hsize : ls.size = nL) (hW : (rest.map fun v => v.category).sum ≤ 8) (hdg : decode cc pc = .ok (.invokevirtual index, 3)) (hf : cells + mc ≤ R.cells ∧ slots + ms ≤ R.slots)
    (kk : ∀ (u : S) (H1 : Heap) (locs1 : List Loc), post u → va_P D vwCl (wr ++ f u) H1 → va_D A (wr ++ f u) → va_S A s.heap H1 locs1 → W p l e R s m args below meth c H1 locs1 (cells + mc) (slots + ms) Q (F0 m (pc + 3) ls rest)) : W p l e R s m args below meth c H locs cells slots Q (F0 m pc ls st0) := by
  have hpre := wr_pre (b := .ref b :: As) hK hP hD rfl is hi hni
  have hFc := va_free (wc := X) hD hS hA is hi
  have hPX : va_P D vwCl X H := fun k q hk => by
    have h1 : (is.map (fun i => Wd[i]?))[k]? = some (some q) := by rw [hi, List.getElem?_map, hk]; rfl
    rw [List.getElem?_map] at h1
    cases hj : is[k]? with
    | none => rw [hj] at h1; cases h1
    | some i => rw [hj] at h1; exact hP i q (Option.some.inj h1)
  refine va_callv (va_runV F hM cw ⟨wrPc_blind, va_recv hK.1 hPX hc he, hpre⟩ rfl hn hsize hst (lv_room hW) hdg hf) hS (fun q _ h => hFc q h) hFc (fun u t H1 locs1 ht hvm hp hB hz1 hk1 hS1 => ?_)
  obtain ⟨hP1, hD1⟩ := hB
  rw [ht] at hP1
  obtain ⟨hP2, hD2⟩ := va_join hP hD is ir hi hr hnr hdis hk1 hFc hP1 hD1
  exact kk u H1 locs1 hp hP2 hD2 hS1
theorem csN_wv {S : Type} {host : String} {post : S → Prop} {f : S → va_W} {wr : va_W} (F : CallFix p m c cc nL s args Ts own) (hM : Met l y wc rm (wrPc D tys As X H.size) (va_Qv post (wrB D (va_A X H.size) f) (va_A X H.size)) mc ms (va_A X H.size)) (cw : va_CN R s args own index y host bytes maxL ret wc rm mc ms n ∧ (Cond.static y).before args s = true ∧ True)
    (hK : KN D tys s) (hP : va_P D vwCl Wd H) (hD : va_D A Wd) (hS : va_S A s.heap H locs) (hA : ∀ q : Nat, s.heap.size ≤ q → A q) (is ir : List Nat) (hi : is.map (fun i => Wd[i]?) = X.map some) (hr : ir.map (fun i => Wd[i]?) = wr.map some) (hni : va_nd is = true) (hnr : va_nd ir = true) (hdis : ∀ i ∈ ir, i ∉ is) (hst : st0 = As.reverse ++ rest) (hn : As.length = n) (hsize : ls.size = nL) (hW : (rest.map fun v => v.category).sum ≤ 8) (hdg : decode cc pc = .ok (.invokestatic index, 3)) (hf : cells + mc ≤ R.cells ∧ slots + ms ≤ R.slots)
    (kk : ∀ (u : S) (H1 : Heap) (locs1 : List Loc), post u → va_P D vwCl (wr ++ f u) H1 → va_D A (wr ++ f u) → va_S A s.heap H1 locs1 → W p l e R s m args below meth c H1 locs1 (cells + mc) (slots + ms) Q (F0 m (pc + 3) ls rest)) : W p l e R s m args below meth c H locs cells slots Q (F0 m pc ls st0) := by
  have hpre := wr_pre (b := As) hK hP hD rfl is hi hni
  have hFc := va_free (wc := X) hD hS hA is hi
  refine va_callv (va_runSN F hM cw ⟨wrPc_blind, hpre⟩ rfl hn hsize hst (lv_room hW) hdg hf) hS (fun q _ h => hFc q h) hFc (fun u t H1 locs1 ht hvm hp hB hz1 hk1 hS1 => ?_)
  obtain ⟨hP1, hD1⟩ := hB
  rw [ht] at hP1
  obtain ⟨hP2, hD2⟩ := va_join hP hD is ir hi hr hnr hdis hk1 hFc hP1 hD1
  exact kk u H1 locs1 hp hP2 hD2 hS1
end MYW
-- the pictures
abbrev TYS (cI cC cB cS : ClassId) : List (ClassId × FieldType) := [(cI, .int), (cC, .char), (cI, .int), (cS, .object "ParkingGarage$State")]
abbrev oE (ci : Nat) (fs : List Value) : va_E := .inr (ci, fs)
abbrev iE (cI : ClassId) (n : Nat) (f : Nat → Int32) : va_E := .inl (cI, n, .inl f)
abbrev wB (cI : ClassId) (a : Nat → Nat) (g : Nat → Nat → Int32) : va_W := [(a 0, oE 0 [.int (g 0 0), .ref (a 1), .ref (a 2), .ref (a 3), .ref (a 4), .ref (a 5), .ref (a 6), .ref (a 7), .ref (a 8)]), (a 1, iE cI 30 (g 1)), (a 2, iE cI 30 (g 2)), (a 3, iE cI 30 (g 3)), (a 4, iE cI 30 (g 4)), (a 5, iE cI 30 (g 5)), (a 6, iE cI 30 (g 6)), (a 7, iE cI 30 (g 7)), (a 8, iE cI 30 (g 8))]
abbrev wR (cI : ClassId) (a : Nat → Nat) (g : Nat → Nat → Int32) : va_W := [(a 0, oE 2 [.int (g 0 0), .ref (a 1), .ref (a 2), .ref (a 3), .ref (a 4), .ref (a 5), .ref (a 6)]), (a 1, iE cI 16 (g 1)), (a 2, iE cI 16 (g 2)), (a 3, iE cI 16 (g 3)), (a 4, iE cI 16 (g 4)), (a 5, iE cI 16 (g 5)), (a 6, iE cI 16 (g 6))]
abbrev wT (cI : ClassId) (a : Nat → Nat) (g : Nat → Nat → Int32) : va_W := [(a 0, oE 4 [.int (g 0 0), .ref (a 1), .ref (a 2), .ref (a 3)]), (a 1, iE cI 5 (g 1)), (a 2, iE cI 5 (g 2)), (a 3, iE cI 5 (g 3))]
abbrev wS (cI : ClassId) (a : Nat → Nat) (g : Nat → Nat → Int32) : va_W := (a 0, oE 3 [.int (g 0 0), .int (g 0 1), .ref (a 1), .ref (a 2), .ref (a 3), .ref (a 12), .ref (a 19), .ref (a 23)]) :: (a 1, iE cI 5 (g 1)) :: (a 2, iE cI 4 (g 2)) :: (wB cI (fun k => a (3 + k)) (fun k => g (3 + k)) ++ (wR cI (fun k => a (12 + k)) (fun k => g (12 + k)) ++ (wT cI (fun k => a (19 + k)) (fun k => g (19 + k)) ++ wT cI (fun k => a (23 + k)) (fun k => g (23 + k)))))
