/-! ===== the text (never written here), and setNumber ===== -/
abbrev wXk (cC : ClassId) (x : Nat → Nat) (L k s e : Nat) (f : Nat → Int32) : va_W := [(x 0, oE 5 [.int (nI L), .ref (x 1), .int (nI k), .int (nI s), .int (nI e)]), (x 1, cE cC 120 f)]
def OsetNumber (g : Nat → Nat → Int32) (wh v r : Int32) (o : Option (Nat → Nat → Int32)) : Prop := Ch (∃ k, k < 5 ∧ wh = nI k ∧ leastF k ≤ v ∧ v ≤ greatF k) (∃ k, k < 5 ∧ wh = nI k ∧ r = g 1 k ∧ o = some (w2 g 1 (upd (g 1) k v))) (No r (-1) o)
theorem wi_ix {x : Int32} {N : Nat} (hN : N + 1 < 2 ^ 31) (h : 0 ≤ x ∧ x ≤ nI N) : ∃ k, k < N + 1 ∧ x = nI k := by
  rcases pk_ix x hN with q | q | ⟨j, q1, q2⟩
  · exact absurd q (Int32.not_lt.mpr h.1)
  · exact absurd (Int32.le_trans q h.2) (fun z => by have := (nI_leI (by omega) (by omega)).mp z; omega)
  · exact ⟨j, q1, q2⟩
section MYK
variable {p : Program} {l : Launch} {e : Env} {R : Room} {s : State} {m : MethodId} {args : Array Value} {below : List Frame} {meth : Method} {c : Code} {H : Heap} {locs : List Loc} {cells slots : Nat} {Q : State → Prop}
variable {cc : ByteArray} {pc : Nat} {ls : Array Slot} {rest st0 : List Value} {D : va_G} {A : Nat → Prop} {tys : List (ClassId × FieldType)}
variable {y : MethodName} {bytes : ByteArray} {maxL nL mc ms n index : Nat} {ret : Option FieldType} {wc : List Cond} {rm : Room} {Ts : List Cond} {own C : String} {b : Addr} {As : List Value} {X Wd pl : va_W}
theorem ciN_wQ {S : Type} {host : String} {post : S → Prop} {f : S → va_W} {wr : va_W} (F : CallFix p m c cc nL s args Ts own) (hM : Met l y wc rm (wrPc D tys (.ref b :: As) X H.size) (va_Qv post (wrB D (va_A X H.size) f) (va_A X H.size)) mc ms (va_A X H.size)) (cw : va_CN R s args own index y host bytes maxL none wc rm mc ms n ∧ y.name = "<init>" ∧ (Cond.instanceMethod y).before args s = true)
    (hK : KN D tys s) (hP : va_P D vwCl (Wd ++ pl) H) (hD : va_D A (Wd ++ pl)) (hS : va_S A s.heap H locs) (hA : ∀ q : Nat, s.heap.size ≤ q → A q) (is ir : List Nat) (hi : is.map (fun i => Wd[i]?) = X.map some) (hr : ir.map (fun i => Wd[i]?) = wr.map some) (hni : va_nd is = true) (hnr : va_nd ir = true) (hdis : ∀ i ∈ ir, i ∉ is) (hst : st0 = As.reverse ++ .ref b :: rest) (hn : As.length = n) (hsize : ls.size = nL) (hW : (rest.map fun v => v.category).sum ≤ 8) (hdg : decode cc pc = .ok (.invokespecial index, 3)) (hf : cells + mc ≤ R.cells ∧ slots + ms ≤ R.slots)
    (kk : ∀ (u : S) (H1 : Heap) (locs1 : List Loc), post u → va_P D vwCl ((wr ++ f u) ++ pl) H1 → va_D A ((wr ++ f u) ++ pl) → va_S A s.heap H1 locs1 → W p l e R s m args below meth c H1 locs1 (cells + mc) (slots + ms) Q (F0 m (pc + 3) ls rest)) : W p l e R s m args below meth c H locs cells slots Q (F0 m pc ls st0) := by
  have hpre := wr_pre (b := .ref b :: As) hK hP.left hD.left rfl is hi hni
  have hFc := va_free (wc := X) hD.left hS hA is hi
  refine va_callv (va_runIN F hM cw ⟨wrPc_blind, hpre⟩ rfl hn hsize hst (lv_room hW) hdg hf) hS (fun q _ h => hFc q h) hFc (fun u t H1 locs1 ht hvm hp hB hz1 hk1 hS1 => ?_)
  obtain ⟨hP1, hD1⟩ := hB
  rw [ht] at hP1
  obtain ⟨hP2, hD2⟩ := va_joinQ hP hD is ir hi hr hnr hdis hk1 hFc hP1 hD1
  exact kk u H1 locs1 hp hP2 hD2 hS1
end MYK
