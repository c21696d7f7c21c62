/-! ===== the law's world: eleven blocks of cells; what a call does to it ===== -/
/-- the class's blocks -/
abbrev kB (cI cC cS : ClassId) (ob : Nat) (a dd o x : Nat → Nat) (g : Nat → Nat → Int32) (np : Nat) (b : Nat → Nat → Nat) (hs : Nat → Nat → Nat → Int32) (dg : Nat → Nat → Int32) (L tk ts te : Nat) (f : Nat → Int32) : Nat → va_W := fun k => match k with
  | 0 => [(ob, oE 6 [.ref (a 0), .ref (dd 0), .ref (o 0), .ref (x 0)])]
  | 1 => [(o 0, oE 1 [.int (nI np), .ref (o 1)]), (o 1, qE cS 6 (fun i => some (b i 0)))]
  | 2 => wS cI a g
  | 3 => wS cI dd dg
  | 4 => wXk cC x L tk ts te f
  | _ => wH6 cI b hs
abbrev fiF (np L : Nat) (ex : Nat → Int32) : Nat → Int32 := fun k => match k with
  | 0 => nI np
  | 1 => nI L
  | k => ex k
/-- the reference's blocks -/
abbrev mB (cI cB : ClassId) (ma : Nat → Nat) (g : Nat → Nat → Int32) (lf : Int32) (np L : Nat) (f Pp E ex : Nat → Int32) (wd : Int64) : Nat → va_W := fun k => match k with
  | 6 => [mO ma (fiF np L ex) wd]
  | 7 => [(ma 1, iE cI 382 (enc g lf))]
  | 8 => [(ma 2, iE cI 2292 Pp)]
  | 9 => [(ma 3, iE cI 382 E)]
  | _ => [(ma 4, iE cB 120 (bt f))]
abbrev lb (C M : Nat → va_W) : Nat → va_W := fun k => bif Nat.blt k 6 then C k else M k
abbrev wL (bl : Nat → va_W) : va_W := (List.range 11).flatMap bl
theorem ap2 (A B : va_W) : A ++ B = A ++ (B ++ []) := by simp only [List.append_nil]
theorem ap4 (A B C P : va_W) : (A ++ B ++ C) ++ P = A ++ (B ++ (C ++ (P ++ []))) := by simp only [List.append_assoc, List.append_nil]
theorem ap6 (A B C D E P : va_W) : (A ++ B ++ C ++ D ++ E) ++ P = A ++ (B ++ (C ++ (D ++ (E ++ (P ++ []))))) := by simp only [List.append_assoc, List.append_nil]
theorem mB7 {cI cB : ClassId} {ma : Nat → Nat} {g : Nat → Nat → Int32} {lf : Int32} {np L : Nat} {f Pp E ex : Nat → Int32} {wd : Int64} : mB cI cB ma g lf np L f Pp E ex wd 7 = [(ma 1, iE cI 382 (enc g lf))] := rfl
theorem mB8 {cI cB : ClassId} {ma : Nat → Nat} {g : Nat → Nat → Int32} {lf : Int32} {np L : Nat} {f Pp E ex : Nat → Int32} {wd : Int64} : mB cI cB ma g lf np L f Pp E ex wd 8 = [(ma 2, iE cI 2292 Pp)] := rfl
theorem mB9 {cI cB : ClassId} {ma : Nat → Nat} {g : Nat → Nat → Int32} {lf : Int32} {np L : Nat} {f Pp E ex : Nat → Int32} {wd : Int64} : mB cI cB ma g lf np L f Pp E ex wd 9 = [(ma 3, iE cI 382 E)] := rfl
theorem hr_a {C M M2 : Nat → va_W} (h7 : M2 7 = M 7) (h8 : M2 8 = M 8) (h9 : M2 9 = M 9) : [0, 1, 2, 3, 4, 5, 7, 8, 9].flatMap (lb C M2) = [0, 1, 2, 3, 4, 5, 7, 8, 9].flatMap (lb C M) := by
  show C 0 ++ (C 1 ++ (C 2 ++ (C 3 ++ (C 4 ++ (C 5 ++ (M2 7 ++ (M2 8 ++ (M2 9 ++ [])))))))) = C 0 ++ (C 1 ++ (C 2 ++ (C 3 ++ (C 4 ++ (C 5 ++ (M 7 ++ (M 8 ++ (M 9 ++ []))))))))
  rw [h7, h8, h9]
theorem lw_split {bl : Nat → va_W} {is ir : List Nat} (h : (List.range 11).Perm (is ++ ir)) : (wL bl).Perm (is.flatMap bl ++ ir.flatMap bl) := by
  rw [← List.flatMap_append]
  exact List.Perm.flatMap_right bl h
theorem nd_all : ∀ (l : List Nat), l.Nodup → va_nd l = true
  | [], _ => rfl
  | a :: l, h => by
    obtain ⟨h1, h2⟩ := List.nodup_cons.mp h
    show (decide (a ∉ l) && va_nd l) = true
    rw [nd_all l h2, decide_eq_true h1]
    rfl
theorem bl_sub {D : va_G} {bl : Nat → va_W} {H : Heap} (hP : va_P D vwCl (wL bl) H) (is : List Nat) (hi : ∀ i ∈ is, i < 11) : va_P D vwCl (is.flatMap bl) H := by
  intro k q hk
  have hm : q ∈ is.flatMap bl := List.mem_of_getElem? hk
  obtain ⟨i, h1, h2⟩ := List.mem_flatMap.mp hm
  obtain ⟨j, hj⟩ := List.getElem?_of_mem (List.mem_flatMap.mpr ⟨i, List.mem_range.mpr (hi i h1), h2⟩ : q ∈ wL bl)
  exact hP j q hj
section MYLAW
variable {p : Program} {l : Launch} {e : Env} {R : Room} {s : State} {m : MethodId} {args : Array Value} {below : List Frame} {meth : Method} {c : Code} {H : Heap} {locs : List Loc} {cells slots : Nat} {Q : State → Prop}
variable {cc : ByteArray} {pc : Nat} {ls : Array Slot} {rest st0 : List Value} {D : va_G} {A : Nat → Prop} {tys : List (ClassId × FieldType)} {bl : Nat → va_W}
variable {y : MethodName} {bytes : ByteArray} {maxL nL mc ms n index : Nat} {ret : Option FieldType} {wc : List Cond} {rm : Room} {Ts : List Cond} {own C : String} {b : Addr} {As : List Value} {X : va_W}
theorem lr_i {post : Int32 → Prop} {T : u_T} {N ci : Nat} {fs : List Value} (F : CallFix p m c cc nL s args Ts own) (hM : Met l y wc rm (rdPc D tys (.ref b :: As) X) (vp_Si post) 0 0 (fun _ => False)) (cw : CallW R s args own C index y bytes maxL ret wc rm 0 0 n)
    (hK : KN D tys s) (hPX : va_P D vwCl X H) (hc : vwCl[ci]? = some (C, T, N)) (he : X[0]? = some (b, .inr (ci, fs))) (hst : st0 = As.reverse ++ .ref b :: rest) (hn : As.length = n) (hsize : ls.size = nL) (hW : (rest.map fun v => v.category).sum ≤ 8) (hdg : decode cc pc = .ok (.invokevirtual index, 3)) (hf : cells ≤ R.cells ∧ slots ≤ R.slots)
    (kk : ∀ r : Int32, post r → W p l e R s m args below meth c H locs cells slots Q (F0 m (pc + 3) ls (.int r :: rest))) : W p l e R s m args below meth c H locs cells slots Q (F0 m pc ls st0) :=
  rd_go (free := fun _ => False) (va_runV F hM cw ⟨rdPc_blind, va_recv hK.1 hPX hc he, fun U hU hW => ⟨rfl, by rw [hU]; exact hPX, hK.warm hW⟩⟩ rfl hn hsize hst (lv_room hW) hdg hf) kk
theorem lw_wi {S : Type} {post : Int32 → S → Prop} {f : S → va_W} {T : u_T} {N ci : Nat} {fs : List Value} (bl2 : S → Nat → va_W) (F : CallFix p m c cc nL s args Ts own) (hM : Met l y wc rm (wrPc D tys (.ref b :: As) X H.size) (va_Qi post (wrB D (va_A X H.size) f) (va_A X H.size)) mc ms (va_A X H.size)) (cw : CallW R s args own C index y bytes maxL ret wc rm mc ms n)
    (hK : KN D tys s) (hP : va_P D vwCl (wL bl) H) (hD : va_D A (wL bl)) (hS : va_S A s.heap H locs) (hA : ∀ q : Nat, s.heap.size ≤ q → A q) (is ir : List Nat) (hpm : (List.range 11).Perm (is ++ ir)) (hX : X = is.flatMap bl) (hf2 : ∀ u, f u = is.flatMap (bl2 u)) (hr : ∀ u, ir.flatMap (bl2 u) = ir.flatMap bl) (hc : vwCl[ci]? = some (C, T, N)) (he : X[0]? = some (b, .inr (ci, fs))) (hst : st0 = As.reverse ++ .ref b :: rest) (hn : As.length = n) (hsize : ls.size = nL) (hW : (rest.map fun v => v.category).sum ≤ 8) (hdg : decode cc pc = .ok (.invokevirtual index, 3)) (hf : cells + mc ≤ R.cells ∧ slots + ms ≤ R.slots)
    (kk : ∀ (r : Int32) (u : S) (H1 : Heap) (locs1 : List Loc), post r u → va_P D vwCl (wL (bl2 u)) H1 → va_D A (wL (bl2 u)) → va_S A s.heap H1 locs1 → W p l e R s m args below meth c H1 locs1 (cells + mc) (slots + ms) Q (F0 m (pc + 3) ls (.int r :: rest))) : W p l e R s m args below meth c H locs cells slots Q (F0 m pc ls st0) := by
  have hpp := lw_split (bl := bl) hpm
  rw [← hX] at hpp
  have hb : ∀ u, (([] ++ f u) ++ ir.flatMap bl).Perm (wL (bl2 u)) := fun u => by
    rw [List.nil_append, hf2, ← hr u]
    exact (lw_split hpm).symm
  exact cv_wiQ (wr := []) (Wd := X) (pl := ir.flatMap bl) F hM cw hK (hP.perm hpp) (hD.perm hpp) hS hA (List.range X.length) [] (range_at X) rfl (nd_all _ List.nodup_range) rfl (fun i h => absurd h List.not_mem_nil) hc he hst hn hsize hW hdg hf (fun r u H1 locs1 hp h1 h2 h3 => kk r u H1 locs1 hp (h1.perm (hb u)) (h2.perm (hb u)) h3)
theorem lw_wiz {S : Type} {post : Int32 → S → Prop} {f : S → va_W} {T : u_T} {N ci : Nat} {fs : List Value} {tL tG : Nat} {aK aV : Nat → Nat} (bl2 : S → Nat → va_W) (F : CallFix p m c cc nL s args Ts own) (hM : Met l y wc rm (zwPc D tys (.ref b :: As) X H.size tL tG aK aV) (va_Qi post (wrB D (va_A X H.size) f) (va_A X H.size)) mc ms (va_A X H.size)) (cw : CallW R s args own C index y bytes maxL ret wc rm mc ms n)
    (hK : KN D tys s) (hP : va_P D vwCl (wL bl) H) (hD : va_D A (wL bl)) (hS : va_S A s.heap H locs) (hA : ∀ q : Nat, s.heap.size ≤ q → A q) (hZ : ZS tL tG aK aV A s s.heap) (is ir : List Nat) (hpm : (List.range 11).Perm (is ++ ir)) (hX : X = is.flatMap bl) (hf2 : ∀ u, f u = is.flatMap (bl2 u)) (hr : ∀ u, ir.flatMap (bl2 u) = ir.flatMap bl) (hc : vwCl[ci]? = some (C, T, N)) (he : X[0]? = some (b, .inr (ci, fs))) (hst : st0 = As.reverse ++ .ref b :: rest) (hn : As.length = n) (hsize : ls.size = nL) (hW : (rest.map fun v => v.category).sum ≤ 8) (hdg : decode cc pc = .ok (.invokevirtual index, 3)) (hf : cells + mc ≤ R.cells ∧ slots + ms ≤ R.slots)
    (kk : ∀ (r : Int32) (u : S) (H1 : Heap) (locs1 : List Loc), post r u → va_P D vwCl (wL (bl2 u)) H1 → va_D A (wL (bl2 u)) → va_S A s.heap H1 locs1 → W p l e R s m args below meth c H1 locs1 (cells + mc) (slots + ms) Q (F0 m (pc + 3) ls (.int r :: rest))) : W p l e R s m args below meth c H locs cells slots Q (F0 m pc ls st0) := by
  have hpp := lw_split (bl := bl) hpm
  rw [← hX] at hpp
  have hb : ∀ u, (([] ++ f u) ++ ir.flatMap bl).Perm (wL (bl2 u)) := fun u => by
    rw [List.nil_append, hf2, ← hr u]
    exact (lw_split hpm).symm
  exact cz_wiQ (wr := []) (Wd := X) (pl := ir.flatMap bl) F hM cw hK (hP.perm hpp) (hD.perm hpp) hS hA hZ (List.range X.length) [] (range_at X) rfl (nd_all _ List.nodup_range) rfl (fun i h => absurd h List.not_mem_nil) hc he hst hn hsize hW hdg hf (fun r u H1 locs1 hp h1 h2 h3 => kk r u H1 locs1 hp (h1.perm (hb u)) (h2.perm (hb u)) h3)
/-- a number of the script, at place i + j -/
theorem ls_arg {bs Lx i : Nat} {xs : Nat → Int32} {lv : List (Nat × Value)} (hx : p.tables.exec = Jvm.exec) (hb : c.code = cc) (hl : lv_has ls 4 ((0, .ref bs) :: (3, .int (nI i)) :: lv)) (hX : va_X bs Lx xs s s.heap) (hbl : bs < s.heap.size) (hbA : ¬ A bs) (hS : va_S A s.heap H locs) (j : Nat) (hj : j < 5) (hi : i + 5 ≤ Lx) (hLx : Lx ≤ 2560) (d0 : decode cc pc = .ok (.aload_n 0, 1)) (d1 : decode cc (pc + 1) = .ok (.iload_n 3, 1)) (d2 : decode cc (pc + 2) = .ok (.iconst (j : Int), 1)) (d3 : decode cc (pc + 3) = .ok (.iadd, 1)) (d4 : decode cc (pc + 4) = .ok (.iaload, 1))
    (kk : W p l e R s m args below meth c H locs cells slots Q (F0 m (pc + 5) ls (.int (xs (i + j)) :: rest))) : W p l e R s m args below meth c H locs cells slots Q (F0 m pc ls rest) := by
  refine lv_aload_n hx hb d0 rfl (lv_at hl 0 rfl) ?_
  refine lv_iload_n hx hb d1 rfl (lv_at hl 1 rfl) ?_
  refine lv_iconst (v := nI j) hx hb d2 rfl ?_
  refine lv_iadd hx hb d3 ?_
  rw [nI_add]
  refine va_sld hx hb hX hbl hbA hS (vp_in_nI (by omega) (by omega)) d4 ?_
  rw [nI_clamp (by omega)]
  exact kk
end MYLAW
/-- what stands throughout the law -/
def LC (p : Program) (s : State) (m : MethodId) (c : Code) (D : va_G) (cI cC cB cS : ClassId) (tL tG : Nat) (aK aV : Nat → Nat) (bs Lx : Nat) (xs : Nat → Int32) : Prop :=
  p.tables.exec = Jvm.exec ∧ c.code = code ∧ c.maxLocals = 4 ∧ s.vm.findClass RL = some m.cls ∧ (∀ w ∈ wsL_law, w.before #[Value.ref bs] s = true) ∧ va_X bs Lx xs s s.heap ∧ bs < s.heap.size ∧ KN D (TYS cI cC cB cS) s ∧ ZS tL tG aK aV (fun q => s.heap.size ≤ q) s s.heap ∧ Lx ≤ 2560
/-- the loop's end, from any state -/
def KK (p : Program) (l : Launch) (e : Env) (s : State) (m : MethodId) (below : List Frame) (meth : Method) (c : Code) (bs : Nat) (cells slots : Nat) (Q : State → Prop) (D : va_G) (cI cC cB cS : ClassId) (ob : Nat) (a dd o x ma : Nat → Nat) (pc : Nat) (ls : Array Slot) : Prop :=
  ∀ (g : Nat → Nat → Int32) (lf : Int32) (np : Nat) (b : Nat → Nat → Nat) (hs : Nat → Nat → Nat → Int32) (lfs Pp : Nat → Int32) (dg : Nat → Nat → Int32) (L tk ts te : Nat) (f E ex : Nat → Int32) (wd : Int64) (H : Heap) (locs : List Loc), LSt g lf np hs lfs Pp L f →
    va_P D vwCl (wL (lb (kB cI cC cS ob a dd o x g np b hs dg L tk ts te f) (mB cI cB ma g lf np L f Pp E ex wd))) H → va_D (fun q => s.heap.size ≤ q) (wL (lb (kB cI cC cS ob a dd o x g np b hs dg L tk ts te f) (mB cI cB ma g lf np L f Pp E ex wd))) → va_S (fun q => s.heap.size ≤ q) s.heap H locs →
    W p l e room_1 s m #[Value.ref bs] below meth c H locs cells slots Q (F0 m pc ls [])
abbrev exF (t : Int32 × Int32 × Int32 × Int32 × Int64) : Nat → Int32 := fun k => match k with
  | 2 => t.1
  | 3 => t.2.1
  | 4 => t.2.2.1
  | _ => t.2.2.2.1
theorem app_both {g : Nat → Nat → Int32} {lf r x : Int32} {np L : Nat} {hs : Nat → Nat → Nat → Int32} {lfs Pp f : Nat → Int32} {u : Nat × (Nat → Int32)} (h : LSt g lf np hs lfs Pp L f) (h1 : Oappend L f x r u) : LSt g lf np hs lfs Pp u.1 u.2 := by
  obtain ⟨q1, q2, q3, q4, q5, q6⟩ := h
  rcases h1 with ⟨a, ⟨b, -, rfl⟩ | ⟨b, -, rfl⟩⟩ | ⟨a, -, rfl⟩
  · exact ⟨q1, q2, q3, q4, q5, q6⟩
  · exact ⟨q1, q2, q3, q4, by show L + 1 ≤ 120; omega, chr_up q6 a⟩
  · exact ⟨q1, q2, q3, q4, q5, q6⟩
