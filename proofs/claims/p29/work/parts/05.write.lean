/-! ===== rows for the methods that write, and for constructors ===== -/
/-- rows with one of them new -/
def w2 (g : Nat → Nat → Int32) (r : Nat) (f : Nat → Int32) : Nat → Nat → Int32 := fun k => bif Nat.beq k r then f else g k
/-- rows with a block of them new -/
def wblk (g : Nat → Nat → Int32) (o n : Nat) (u : Nat → Nat → Int32) : Nat → Nat → Int32 := fun k => bif (Nat.ble o k && Nat.blt k (o + n)) then u (k - o) else g k
theorem va_at_ext {D : va_G} {cl : List vw_C} {a N : Nat} {cA : ClassId} {f h : Nat → Int32} {H : Heap} (e : ∀ j, j < N → f j = h j) (q : va_at D cl (a, .inl (cA, N, .inl f)) H) : va_at D cl (a, .inl (cA, N, .inl h)) H := by
  have e2 : vp_cell cA (N, .inl f) = vp_cell cA (N, .inl h) := by
    rw [vp_cell_i, vp_cell_i]
    unfold arrV
    congr 1
    apply Array.ext
    · simp
    · intro i h1 h2
      simp only [Array.getElem_ofFn]
      rw [e i (by simpa using h1)]
  exact q.trans (congrArg some e2)
theorem va_P_ext {D : va_G} {cl : List vw_C} {ws : va_W} {H : Heap} (p : Nat) {a N : Nat} {cA : ClassId} {f h : Nat → Int32} (hp : ws[p]? = some (a, .inl (cA, N, .inl f))) (e : ∀ j, j < N → f j = h j) (hP : va_P D cl ws H) : va_P D cl (ws.set p (a, .inl (cA, N, .inl h))) H := by
  have hl := (List.getElem?_eq_some_iff.mp hp).1
  intro k q hk
  by_cases hkp : k = p
  · subst hkp
    rw [List.getElem?_set_self hl] at hk
    cases hk
    exact va_at_ext e (hP k _ hp)
  · rw [List.getElem?_set_ne (Ne.symm hkp)] at hk
    exact hP k q hk
section MYC
variable {p : Program} {l : Launch} {e : Env} {R : Room} {s : State} {m : MethodId} {args : Array Value} {below : List Frame} {meth : Method} {c : Code} {H : Heap} {locs : List Loc} {cells slots : Nat} {Q : State → Prop}
variable {cc : ByteArray} {pc : Nat} {ls : Array Slot} {rest st0 : List Value} {D : va_G} {A : Nat → Prop} {tys : List (ClassId × FieldType)}
variable {y : MethodName} {bytes : ByteArray} {maxL nL mc ms n index : Nat} {ret : Option FieldType} {wc : List Cond} {rm : Room} {Ts : List Cond} {own C : String} {b : Addr} {As : List Value} {X Wd : va_W}
/-- a constructor's call -/
theorem ci_w {S : Type} {post : S → Prop} {f : S → va_W} {wr : va_W} (F : CallFix p m c cc nL s args Ts own) (hM : Met l y wc rm (wrPc D tys (.ref b :: As) X H.size) (va_Qv post (wrB D (va_A X H.size) f) (va_A X H.size)) mc ms (va_A X H.size)) (cw : CallB R s args own index y bytes maxL none wc rm mc ms n ∧ y.name = "<init>" ∧ (Cond.instanceMethod y).before args s = true)
    (hK : KN D tys s) (hP : va_P D vwCl Wd H) (hD : va_D A Wd) (hS : va_S A s.heap H locs) (hA : ∀ q : Nat, s.heap.size ≤ q → A q) (is ir : List Nat) (hi : is.map (fun i => Wd[i]?) = X.map some) (hr : ir.map (fun i => Wd[i]?) = wr.map some) (hni : va_nd is = true) (hnr : va_nd ir = true) (hdis : ∀ i ∈ ir, i ∉ is) (hst : st0 = As.reverse ++ .ref b :: rest) (hn : As.length = n) (hsize : ls.size = nL) (hW : (rest.map fun v => v.category).sum ≤ 8) (hdg : decode cc pc = .ok (.invokespecial index, 3)) (hf : cells + mc ≤ R.cells ∧ slots + ms ≤ R.slots)
    (kk : ∀ (u : S) (H1 : Heap) (locs1 : List Loc), post u → va_P D vwCl (wr ++ f u) H1 → va_D A (wr ++ f u) → va_S A s.heap H1 locs1 → W p l e R s m args below meth c H1 locs1 (cells + mc) (slots + ms) Q (F0 m (pc + 3) ls rest)) : W p l e R s m args below meth c H locs cells slots Q (F0 m pc ls st0) := by
  have hpre := wr_pre (b := .ref b :: As) hK hP hD rfl is hi hni
  have hFc := va_free (wc := X) hD hS hA is hi
  refine va_callv (va_runI F hM cw ⟨wrPc_blind, hpre⟩ rfl hn hsize hst (lv_room hW) hdg hf) hS (fun q _ h => hFc q h) hFc (fun u t H1 locs1 ht hvm hp hB hz1 hk1 hS1 => ?_)
  obtain ⟨hP1, hD1⟩ := hB
  rw [ht] at hP1
  obtain ⟨hP2, hD2⟩ := va_join hP hD is ir hi hr hnr hdis hk1 hFc hP1 hD1
  exact kk u H1 locs1 hp hP2 hD2 hS1
/-- a private constructor's call by a nest mate -/
theorem ciN_w {S : Type} {host : String} {post : S → Prop} {f : S → va_W} {wr : va_W} (F : CallFix p m c cc nL s args Ts own) (hM : Met l y wc rm (wrPc D tys (.ref b :: As) X H.size) (va_Qv post (wrB D (va_A X H.size) f) (va_A X H.size)) mc ms (va_A X H.size)) (cw : va_CN R s args own index y host bytes maxL none wc rm mc ms n ∧ y.name = "<init>" ∧ (Cond.instanceMethod y).before args s = true)
    (hK : KN D tys s) (hP : va_P D vwCl Wd H) (hD : va_D A Wd) (hS : va_S A s.heap H locs) (hA : ∀ q : Nat, s.heap.size ≤ q → A q) (is ir : List Nat) (hi : is.map (fun i => Wd[i]?) = X.map some) (hr : ir.map (fun i => Wd[i]?) = wr.map some) (hni : va_nd is = true) (hnr : va_nd ir = true) (hdis : ∀ i ∈ ir, i ∉ is) (hst : st0 = As.reverse ++ .ref b :: rest) (hn : As.length = n) (hsize : ls.size = nL) (hW : (rest.map fun v => v.category).sum ≤ 8) (hdg : decode cc pc = .ok (.invokespecial index, 3)) (hf : cells + mc ≤ R.cells ∧ slots + ms ≤ R.slots)
    (kk : ∀ (u : S) (H1 : Heap) (locs1 : List Loc), post u → va_P D vwCl (wr ++ f u) H1 → va_D A (wr ++ f u) → va_S A s.heap H1 locs1 → W p l e R s m args below meth c H1 locs1 (cells + mc) (slots + ms) Q (F0 m (pc + 3) ls rest)) : W p l e R s m args below meth c H locs cells slots Q (F0 m pc ls st0) := by
  have hpre := wr_pre (b := .ref b :: As) hK hP hD rfl is hi hni
  have hFc := va_free (wc := X) hD hS hA is hi
  refine va_callv (va_runIN F hM cw ⟨wrPc_blind, hpre⟩ rfl hn hsize hst (lv_room hW) hdg hf) hS (fun q _ h => hFc q h) hFc (fun u t H1 locs1 ht hvm hp hB hz1 hk1 hS1 => ?_)
  obtain ⟨hP1, hD1⟩ := hB
  rw [ht] at hP1
  obtain ⟨hP2, hD2⟩ := va_join hP hD is ir hi hr hnr hdis hk1 hFc hP1 hD1
  exact kk u H1 locs1 hp hP2 hD2 hS1
/-- a new row of ints: its class is the one that the tables name -/
theorem newa_i (hexec : p.tables.exec = Jvm.exec) (hb : c.code = cc) (harr : (Cond.arrayClass .int).before args s = true) {cI cC cS : ClassId} (hK : KN D [(cI, .int), (cC, .char), (cI, .int), (cS, .object "ParkingGarage$State")] s) (hP : va_P D vwCl Wd H) (hD : va_D A Wd) (hS : va_S A s.heap H locs) (hA : ∀ q, s.heap.size ≤ q → A q)
    {k : Int32} (N : Nat) (hk : ¬ k < 0) (hN : k.toNatClampNeg = N) (hbytes : N * componentBytes .int ≤ 536870912) (hcells : cells + 1 ≤ R.cells) (hslots : slots + N ≤ R.slots) (hdg : decode cc pc = .ok (.newarray .int, 2))
    (kk : ∀ (q : Nat) (H1 : Heap), va_P D vwCl (Wd ++ [(q, .inl (cI, N, .inl (fun _ => 0)))]) H1 → va_D A (Wd ++ [(q, .inl (cI, N, .inl (fun _ => 0)))]) → va_S A s.heap H1 locs →
      W p l e R s m args below meth c H1 locs (cells + 1) (slots + N) Q (F0 m (pc + 2) ls (.ref q :: rest))) : W p l e R s m args below meth c H locs cells slots Q (F0 m pc ls (.int k :: rest)) := by
  refine va_newa (atype := .int) (ty := .int) hexec hb harr rfl hK.1 hP hD hS hA (a0 := (N, .inl (fun _ => 0))) (fun cA => rfl) hk hN hbytes hcells hslots hdg (fun q cA H1 hK1 hP1 hD1 hS1 => ?_)
  have e1 : s.vm.findClass ("[" ++ FieldType.int.toString) = some cI := (hK.1.2 0 (cI, .int) rfl).2
  have e2 : s.vm.findClass ("[" ++ FieldType.int.toString) = some cA := (hK1.2 4 (cA, .int) rfl).2
  have e3 : cA = cI := Option.some.inj (e2.symm.trans e1)
  subst e3
  exact kk q H1 hP1 hD1 hS1
end MYC
