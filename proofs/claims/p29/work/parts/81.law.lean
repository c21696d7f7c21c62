/-! ===== the law's world: six blocks of cells; what a call does to it ===== -/
/-- the class's blocks (draft and text are as they were made) -/
abbrev kB (cI cC cS : ClassId) (ob : Nat) (a dd o x : Nat → Nat) (g : Nat → Nat → Int32) (np : Nat) (b : Nat → Nat → Nat) (hs : Nat → Nat → Nat → Int32) : Nat → va_W := fun k => match k with
  | 0 => [(ob, oE 6 [.ref (a 0), .ref (dd 0), .ref (o 0), .ref (x 0)])]
  | 1 => [(o 0, oE 1 [.int (nI np), .ref (o 1)]), (o 1, qE cS 6 (fun i => some (b i 0)))]
  | 2 => wS cI a g
  | 3 => wS cI dd gS0
  | 4 => wXk cC x 0 0 0 0 (fun _ => 0)
  | _ => wH6 cI b hs
abbrev wL (bl : Nat → va_W) : va_W := (List.range 6).flatMap bl
theorem ap4 (A B C P : va_W) : (A ++ B ++ C) ++ P = A ++ (B ++ (C ++ (P ++ []))) := by simp only [List.append_assoc, List.append_nil]
theorem ap6 (A B C D E P : va_W) : (A ++ B ++ C ++ D ++ E) ++ P = A ++ (B ++ (C ++ (D ++ (E ++ (P ++ []))))) := by simp only [List.append_assoc, List.append_nil]
theorem lw_split {bl : Nat → va_W} {is ir : List Nat} (h : (List.range 6).Perm (is ++ ir)) : (wL bl).Perm (is.flatMap bl ++ ir.flatMap bl) := by
  rw [← List.flatMap_append]
  exact List.Perm.flatMap_right bl h
theorem nd_all : ∀ (l : List Nat), l.Nodup → va_nd l = true
  | [], _ => rfl
  | a :: l, h => by
    obtain ⟨h1, h2⟩ := List.nodup_cons.mp h
    show (decide (a ∉ l) && va_nd l) = true
    rw [nd_all l h2, decide_eq_true h1]
    rfl
theorem bl_sub {D : va_G} {bl : Nat → va_W} {H : Heap} (hP : va_P D vwCl (wL bl) H) (is : List Nat) (hi : ∀ i ∈ is, i < 6) : va_P D vwCl (is.flatMap bl) H := by
  intro k q hk
  have hm : q ∈ is.flatMap bl := List.mem_of_getElem? hk
  obtain ⟨i, h1, h2⟩ := List.mem_flatMap.mp hm
  obtain ⟨j, hj⟩ := List.getElem?_of_mem (List.mem_flatMap.mpr ⟨i, List.mem_range.mpr (hi i h1), h2⟩ : q ∈ wL bl)
  exact hP j q hj
/-- what the reading calls ask -/
theorem bl_2 {D : va_G} {cI cC cS : ClassId} {ob : Nat} {a dd o x : Nat → Nat} {g : Nat → Nat → Int32} {np : Nat} {b : Nat → Nat → Nat} {hs : Nat → Nat → Nat → Int32} {H : Heap} (hP : va_P D vwCl (wL (kB cI cC cS ob a dd o x g np b hs)) H) : va_P D vwCl ([(ob, oE 6 [.ref (a 0), .ref (dd 0), .ref (o 0), .ref (x 0)])] ++ wS cI a g) H := bl_sub hP [0, 2] (by decide)
theorem bl_4 {D : va_G} {cI cC cS : ClassId} {ob : Nat} {a dd o x : Nat → Nat} {g : Nat → Nat → Int32} {np : Nat} {b : Nat → Nat → Nat} {hs : Nat → Nat → Nat → Int32} {H : Heap} (hP : va_P D vwCl (wL (kB cI cC cS ob a dd o x g np b hs)) H) : va_P D vwCl ([(ob, oE 6 [.ref (a 0), .ref (dd 0), .ref (o 0), .ref (x 0)]), (x 0, oE 5 [.int (nI 0), .ref (x 1), .int (nI 0), .int (nI 0), .int (nI 0)]), (o 0, oE 1 [.int (nI np), .ref (o 1)])] ++ wS cI a g) H := (bl_sub hP [0, 4, 1, 2] (by decide)).sub [0, 1, 3, 5, 6, 7, 8, 9, 10, 11, 12, 13, 14, 15, 16, 17, 18, 19, 20, 21, 22, 23, 24, 25, 26, 27, 28, 29, 30, 31] rfl
section MYLAW
variable {p : Program} {l : Launch} {e : Env} {R : Room} {s : State} {m : MethodId} {args : Array Value} {below : List Frame} {meth : Method} {c : Code} {H : Heap} {locs : List Loc} {cells slots : Nat} {Q : State → Prop}
variable {cc : ByteArray} {pc : Nat} {ls : Array Slot} {rest st0 : List Value} {D : va_G} {A : Nat → Prop} {tys : List (ClassId × FieldType)} {bl : Nat → va_W}
variable {y : MethodName} {bytes : ByteArray} {maxL nL mc ms n index : Nat} {ret : Option FieldType} {wc : List Cond} {rm : Room} {Ts : List Cond} {own C : String} {b : Addr} {As : List Value} {X : va_W}
theorem lr_i {post : Int32 → Prop} {T : u_T} {N ci : Nat} {fs : List Value} (F : CallFix p m c cc nL s args Ts own) (hM : Met l y wc rm (rdPc D tys (.ref b :: As) X) (vp_Si post) 0 0 (fun _ => False)) (cw : CallW R s args own C index y bytes maxL ret wc rm 0 0 n)
    (hK : KN D tys s) (hPX : va_P D vwCl X H) (hc : vwCl[ci]? = some (C, T, N)) (he : X[0]? = some (b, .inr (ci, fs))) (hst : st0 = As.reverse ++ .ref b :: rest) (hn : As.length = n) (hsize : ls.size = nL) (hW : (rest.map fun v => v.category).sum ≤ 8) (hdg : decode cc pc = .ok (.invokevirtual index, 3)) (hf : cells ≤ R.cells ∧ slots ≤ R.slots)
    (kk : ∀ r : Int32, post r → W p l e R s m args below meth c H locs cells slots Q (F0 m (pc + 3) ls (.int r :: rest))) : W p l e R s m args below meth c H locs cells slots Q (F0 m pc ls st0) :=
  rd_go (free := fun _ => False) (va_runV F hM cw ⟨rdPc_blind, va_recv hK.1 hPX hc he, fun U hU hW => ⟨rfl, by rw [hU]; exact hPX, hK.warm hW⟩⟩ rfl hn hsize hst (lv_room hW) hdg hf) kk
/-- a reading method that is static -/
theorem lr_s {post : Int32 → Prop} (F : CallFix p m c cc nL s args Ts own) (hM : Met l y wc rm (rdPc D tys As X) (vp_Si post) 0 0 (fun _ => False)) (cw : CallB R s args own index y bytes maxL ret wc rm 0 0 n ∧ (Cond.static y).before args s = true)
    (hK : KN D tys s) (hPX : va_P D vwCl X H) (hst : st0 = As.reverse ++ rest) (hn : As.length = n) (hsize : ls.size = nL) (hW : (rest.map fun v => v.category).sum ≤ 8) (hdg : decode cc pc = .ok (.invokestatic index, 3)) (hf : cells ≤ R.cells ∧ slots ≤ R.slots)
    (kk : ∀ r : Int32, post r → W p l e R s m args below meth c H locs cells slots Q (F0 m (pc + 3) ls (.int r :: rest))) : W p l e R s m args below meth c H locs cells slots Q (F0 m pc ls st0) :=
  rd_go (free := fun _ => False) (va_runS F hM cw ⟨rdPc_blind, fun U hU hW => ⟨rfl, by rw [hU]; exact hPX, hK.warm hW⟩⟩ rfl hn hsize hst (lv_room hW) hdg hf) kk
theorem rd_goL {post : Int64 → Prop} {a : Array Value} {free : Addr → Prop} (hr : va_Run p l e R s m args below meth c H locs cells slots 0 0 (F0 m pc ls st0) rest (vp_Sl post a) (fun _ => False))
    (kk : ∀ r : Int64, post r → W p l e R s m args below meth c H locs cells slots Q (F0 m (pc + 3) ls (.long r :: rest))) : W p l e R s m args below meth c H locs cells slots Q (F0 m pc ls st0) := by
  intro T hT X
  obtain ⟨v, st₀, t, T', L, h0, X', hL, e1, e2, ⟨r, hv, hp, hh⟩, st⟩ := hr T hT X
  cases hv
  obtain ⟨t2, a1, b1⟩ := kk r hp T' (by rw [e1, hh, h0]) (Stand.forget X' (fun q h => (hL q h).elim))
  exact ⟨t2, st t2 a1, b1⟩
theorem lr_sl {post : Int64 → Prop} (F : CallFix p m c cc nL s args Ts own) (hM : Met l y wc rm (rdPc D tys As X) (vp_Sl post) 0 0 (fun _ => False)) (cw : CallB R s args own index y bytes maxL ret wc rm 0 0 n ∧ (Cond.static y).before args s = true)
    (hK : KN D tys s) (hPX : va_P D vwCl X H) (hst : st0 = As.reverse ++ rest) (hn : As.length = n) (hsize : ls.size = nL) (hW : (rest.map fun v => v.category).sum ≤ 8) (hdg : decode cc pc = .ok (.invokestatic index, 3)) (hf : cells ≤ R.cells ∧ slots ≤ R.slots)
    (kk : ∀ r : Int64, post r → W p l e R s m args below meth c H locs cells slots Q (F0 m (pc + 3) ls (.long r :: rest))) : W p l e R s m args below meth c H locs cells slots Q (F0 m pc ls st0) :=
  rd_goL (free := fun _ => False) (va_runS F hM cw ⟨rdPc_blind, fun U hU hW => ⟨rfl, by rw [hU]; exact hPX, hK.warm hW⟩⟩ rfl hn hsize hst (lv_room hW) hdg hf) kk
theorem rd_lret {post : Int64 → Prop} {v : Int64} (hexec : p.tables.exec = Jvm.exec) (hb : c.code = cc) (hr : meth.sig.returnType = some .long) (hlocks : meth.locks = false) (hdg : decode cc pc = .ok (.lreturn, 1)) (hp : post v) :
    W p l e R s m args below meth c s.heap [] 0 0 (MQ below (vp_Sl post) args s 0 0 (fun _ => False)) (F0 m pc ls [.long v]) :=
  W.lret (v := v) hexec hb hr (fun t ht _ => ⟨v, rfl, hp, ht⟩) (fun q h => by cases h) hdg hlocks
/-- the end of a method that writes, its world as it stands -/
theorem wr_iretS {S : Type} {post : Int32 → S → Prop} {f : S → va_W} {v : Int32} (u : S) (hexec : p.tables.exec = Jvm.exec) (hb : c.code = cc) (hr : meth.sig.returnType = some .int) (hlocks : meth.locks = false) (hS : va_S A s.heap H locs) (hP : va_P D vwCl (f u) H) (hD : va_D A (f u)) (hdg : decode cc pc = .ok (.ireturn, 1)) (hp : post v u) :
    W p l e R s m args below meth c H locs cells slots (MQ below (va_Qi post (wrB D A f) A) args s cells slots A) (F0 m pc ls [.int v]) :=
  W.iret (v := v) hexec hb hr (fun t ht _ => ⟨⟨v, u, rfl, hp, by rw [ht]; exact hP, hD⟩, hS.F ht⟩) hS.2.2 hdg hlocks
theorem lw_wi {S : Type} {post : Int32 → S → Prop} {f : S → va_W} {T : u_T} {N ci : Nat} {fs : List Value} (bl2 : S → Nat → va_W) (F : CallFix p m c cc nL s args Ts own) (hM : Met l y wc rm (wrPc D tys (.ref b :: As) X H.size) (va_Qi post (wrB D (va_A X H.size) f) (va_A X H.size)) mc ms (va_A X H.size)) (cw : CallW R s args own C index y bytes maxL ret wc rm mc ms n)
    (hK : KN D tys s) (hP : va_P D vwCl (wL bl) H) (hD : va_D A (wL bl)) (hS : va_S A s.heap H locs) (hA : ∀ q : Nat, s.heap.size ≤ q → A q) (is ir : List Nat) (hpm : (List.range 6).Perm (is ++ ir)) (hX : X = is.flatMap bl) (hf2 : ∀ u, f u = is.flatMap (bl2 u)) (hr : ∀ u, ir.flatMap (bl2 u) = ir.flatMap bl) (hc : vwCl[ci]? = some (C, T, N)) (he : X[0]? = some (b, .inr (ci, fs))) (hst : st0 = As.reverse ++ .ref b :: rest) (hn : As.length = n) (hsize : ls.size = nL) (hW : (rest.map fun v => v.category).sum ≤ 8) (hdg : decode cc pc = .ok (.invokevirtual index, 3)) (hf : cells + mc ≤ R.cells ∧ slots + ms ≤ R.slots)
    (kk : ∀ (r : Int32) (u : S) (H1 : Heap) (locs1 : List Loc), post r u → va_P D vwCl (wL (bl2 u)) H1 → va_D A (wL (bl2 u)) → va_S A s.heap H1 locs1 → W p l e R s m args below meth c H1 locs1 (cells + mc) (slots + ms) Q (F0 m (pc + 3) ls (.int r :: rest))) : W p l e R s m args below meth c H locs cells slots Q (F0 m pc ls st0) := by
  have hpp := lw_split (bl := bl) hpm
  rw [← hX] at hpp
  have hb : ∀ u, (([] ++ f u) ++ ir.flatMap bl).Perm (wL (bl2 u)) := fun u => by
    rw [List.nil_append, hf2, ← hr u]
    exact (lw_split hpm).symm
  exact cv_wiQ (wr := []) (Wd := X) (pl := ir.flatMap bl) F hM cw hK (hP.perm hpp) (hD.perm hpp) hS hA (List.range X.length) [] (range_at X) rfl (nd_all _ List.nodup_range) rfl (fun i h => absurd h List.not_mem_nil) hc he hst hn hsize hW hdg hf (fun r u H1 locs1 hp h1 h2 h3 => kk r u H1 locs1 hp (h1.perm (hb u)) (h2.perm (hb u)) h3)
theorem lw_wiz {S : Type} {post : Int32 → S → Prop} {f : S → va_W} {T : u_T} {N ci : Nat} {fs : List Value} {tL tG : Nat} {aK aV : Nat → Nat} (bl2 : S → Nat → va_W) (F : CallFix p m c cc nL s args Ts own) (hM : Met l y wc rm (zwPc D tys (.ref b :: As) X H.size tL tG aK aV) (va_Qi post (wrB D (va_A X H.size) f) (va_A X H.size)) mc ms (va_A X H.size)) (cw : CallW R s args own C index y bytes maxL ret wc rm mc ms n)
    (hK : KN D tys s) (hP : va_P D vwCl (wL bl) H) (hD : va_D A (wL bl)) (hS : va_S A s.heap H locs) (hA : ∀ q : Nat, s.heap.size ≤ q → A q) (hZ : ZS tL tG aK aV A s s.heap) (is ir : List Nat) (hpm : (List.range 6).Perm (is ++ ir)) (hX : X = is.flatMap bl) (hf2 : ∀ u, f u = is.flatMap (bl2 u)) (hr : ∀ u, ir.flatMap (bl2 u) = ir.flatMap bl) (hc : vwCl[ci]? = some (C, T, N)) (he : X[0]? = some (b, .inr (ci, fs))) (hst : st0 = As.reverse ++ .ref b :: rest) (hn : As.length = n) (hsize : ls.size = nL) (hW : (rest.map fun v => v.category).sum ≤ 8) (hdg : decode cc pc = .ok (.invokevirtual index, 3)) (hf : cells + mc ≤ R.cells ∧ slots + ms ≤ R.slots)
    (kk : ∀ (r : Int32) (u : S) (H1 : Heap) (locs1 : List Loc), post r u → va_P D vwCl (wL (bl2 u)) H1 → va_D A (wL (bl2 u)) → va_S A s.heap H1 locs1 → W p l e R s m args below meth c H1 locs1 (cells + mc) (slots + ms) Q (F0 m (pc + 3) ls (.int r :: rest))) : W p l e R s m args below meth c H locs cells slots Q (F0 m pc ls st0) := by
  have hpp := lw_split (bl := bl) hpm
  rw [← hX] at hpp
  have hb : ∀ u, (([] ++ f u) ++ ir.flatMap bl).Perm (wL (bl2 u)) := fun u => by
    rw [List.nil_append, hf2, ← hr u]
    exact (lw_split hpm).symm
  exact cz_wiQ (wr := []) (Wd := X) (pl := ir.flatMap bl) F hM cw hK (hP.perm hpp) (hD.perm hpp) hS hA hZ (List.range X.length) [] (range_at X) rfl (nd_all _ List.nodup_range) rfl (fun i h => absurd h List.not_mem_nil) hc he hst hn hsize hW hdg hf (fun r u H1 locs1 hp h1 h2 h3 => kk r u H1 locs1 hp (h1.perm (hb u)) (h2.perm (hb u)) h3)
/-- a writing method that is static, on the whole world -/
theorem lw_ss {S : Type} {post : Int32 → S → Prop} {f : S → va_W} {tL tG : Nat} {aK aV : Nat → Nat} (F : CallFix p m c cc nL s args Ts own) (hM : Met l y wc rm (zwPc D tys As X H.size tL tG aK aV) (va_Qi post (wrB D (va_A X H.size) f) (va_A X H.size)) mc ms (va_A X H.size)) (cw : CallB R s args own index y bytes maxL ret wc rm mc ms n ∧ (Cond.static y).before args s = true)
    (hK : KN D tys s) (hP : va_P D vwCl X H) (hD : va_D A X) (hS : va_S A s.heap H locs) (hA : ∀ q : Nat, s.heap.size ≤ q → A q) (hZ : ZS tL tG aK aV A s s.heap) (hst : st0 = As.reverse ++ rest) (hn : As.length = n) (hsize : ls.size = nL) (hW : (rest.map fun v => v.category).sum ≤ 8) (hdg : decode cc pc = .ok (.invokestatic index, 3)) (hf : cells + mc ≤ R.cells ∧ slots + ms ≤ R.slots)
    (kk : ∀ (r : Int32) (u : S) (H1 : Heap) (locs1 : List Loc), post r u → va_P D vwCl (f u) H1 → va_D A (f u) → va_S A s.heap H1 locs1 → W p l e R s m args below meth c H1 locs1 (cells + mc) (slots + ms) Q (F0 m (pc + 3) ls (.int r :: rest))) : W p l e R s m args below meth c H locs cells slots Q (F0 m pc ls st0) := by
  have hi := range_at X
  have hni := nd_all _ (List.nodup_range (n := X.length))
  have hpre0 := wr_pre (b := As) hK hP hD rfl (List.range X.length) hi hni
  have hFc := va_free (wc := X) hD hS hA (List.range X.length) hi
  have hpre : ∀ U : State, U.heap = H → s.WarmedH U.vm → zwPc D tys As X H.size tL tG aK aV As.toArray U := fun U hU hW => by
    obtain ⟨q1, q2, q3, q4, q5⟩ := hpre0 U hU hW
    exact ⟨q1, q2, q3, q4, q5, hZ.call hS hFc hU hW⟩
  refine va_calli (va_runS F hM cw ⟨zwPc_blind, hpre⟩ rfl hn hsize hst (lv_room hW) hdg hf) hS (fun q _ h => hFc q h) hFc (fun r u t H1 locs1 ht hvm hp hB hz1 hk1 hS1 => ?_)
  obtain ⟨hP1, hD1⟩ := hB
  rw [ht] at hP1
  obtain ⟨hP2, hD2⟩ := va_join (wr := []) hP hD (List.range X.length) [] hi rfl rfl (fun i h => absurd h List.not_mem_nil) hk1 hFc hP1 hD1
  exact kk r u H1 locs1 hp hP2 hD2 hS1
end MYLAW
