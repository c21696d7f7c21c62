/-! ===== setNumber, the text's calls, load: what they answer; a new garage ===== -/
def OsetNumber (g : Nat → Nat → Int32) (wh v r : Int32) (o : Option (Nat → Nat → Int32)) : Prop := Ch (∃ k, k < 5 ∧ wh = nI k ∧ leastF k ≤ v ∧ v ≤ greatF k) (∃ k, k < 5 ∧ wh = nI k ∧ r = g 1 k ∧ o = some (w2 g 1 (upd (g 1) k v))) (No r (-1) o)
def Oappend (L : Nat) (f : Nat → Int32) (x r : Int32) (u : Nat × (Nat → Int32)) : Prop := Ch (Wi x 0 255) (Ch (L = 120) (r = -3 ∧ u = (L, f)) (r = nI (L + 1) ∧ u = (L + 1, upd f L x))) (r = -1 ∧ u = (L, f))
/-- behind load: the state, the length of the text, the token's numbers, the draft -/
abbrev LST : Type := PST × (Nat × Nat × Nat × Nat) × (Nat → Nat → Int32)
def Oload (f : Nat → Int32) (L : Nat) (g : Nat → Nat → Int32) (np : Nat) (b : Nat → Nat → Nat) (hs : Nat → Nat → Nat → Int32) (r : Int32) (u : LST) : Prop :=
  ∃ d o, PAll f L d 0 0 g o ∧ ((∃ x, x ≤ 120 ∧ o = .inl x ∧ r = -10 - nI x ∧ u.1 = (g, np, b, hs) ∧ u.2.1.1 = L) ∨ ∃ it g2, it ≤ 120 ∧ o = .inr (it, g2) ∧ r = nI it ∧ u.1.1 = g2 ∧ Sav np hs g u.1.2.1 u.1.2.2.2 ∧ u.2.1.1 = 0)
theorem m10_neg {x : Nat} (h : x ≤ 120) : ¬ (-10 - nI x ≥ 0) := by
  have q : ∀ x, x < 121 → ¬ (-10 - nI x ≥ 0) := by decide +kernel
  exact q x (by omega)
section MYK
variable {p : Program} {l : Launch} {e : Env} {R : Room} {s : State} {m : MethodId} {args : Array Value} {below : List Frame} {meth : Method} {c : Code} {H : Heap} {locs : List Loc} {cells slots : Nat} {Q : State → Prop}
variable {cc : ByteArray} {pc : Nat} {ls : Array Slot} {rest st0 : List Value} {D : va_G} {A : Nat → Prop} {tys : List (ClassId × FieldType)}
variable {y : MethodName} {bytes : ByteArray} {maxL nL mc ms n index : Nat} {ret : Option FieldType} {wc : List Cond} {rm : Room} {Ts : List Cond} {own C : String} {b : Addr} {As : List Value} {X Wd pl : va_W}
theorem ciN_wQ {S : Type} {host : String} {post : S → Prop} {f : S → va_W} {wr : va_W} (F : CallFix p m c cc nL s args Ts own) (hM : Met l y wc rm (wrPc D tys (.ref b :: As) X H.size) (va_Qv post (wrB D (va_A X H.size) f) (va_A X H.size)) mc ms (va_A X H.size)) (cw : va_CN R s args own index y host bytes maxL none wc rm mc ms n ∧ y.name = "<init>" ∧ (Cond.instanceMethod y).before args s = true)
    (hK : KN D tys s) (hP : va_P D vwCl (Wd ++ pl) H) (hD : va_D A (Wd ++ pl)) (hS : va_S A s.heap H locs) (hA : ∀ q : Nat, s.heap.size ≤ q → A q) (is ir : List Nat) (hi : is.map (fun i => Wd[i]?) = X.map some) (hr : ir.map (fun i => Wd[i]?) = wr.map some) (hni : va_nd is = true) (hnr : va_nd ir = true) (hdis : ∀ i ∈ ir, i ∉ is) (hst : st0 = As.reverse ++ .ref b :: rest) (hn : As.length = n) (hsize : ls.size = nL) (hW : (rest.map fun v => v.category).sum ≤ 8) (hdg : decode cc pc = .ok (.invokespecial index, 3)) (hf : cells + mc ≤ R.cells ∧ slots + ms ≤ R.slots)
    (kk : ∀ (u : S) (H1 : Heap) (locs1 : List Loc), post u → va_P D vwCl ((wr ++ f u) ++ pl) H1 → va_D A ((wr ++ f u) ++ pl) → va_S A s.heap H1 locs1 → W p l e R s m args below meth c H1 locs1 (cells + mc) (slots + ms) Q (F0 m (pc + 3) ls rest)) : W p l e R s m args below meth c H locs cells slots Q (F0 m pc ls st0) := by
  have hpre := wr_pre (b := .ref b :: As) hK hP.left hD.left rfl is hi hni
  have hFc := va_free (wc := X) hD.left hS hA is hi
  refine va_callv (va_runIN F hM cw ⟨wrPc_blind, hpre⟩ rfl hn hsize hst (lv_room hW) hdg hf) hS (fun q _ h => hFc q h) hFc (fun u t H1 locs1 ht hvm hp hB hz1 hk1 hS1 => ?_)
  obtain ⟨hP1, hD1⟩ := hB
  rw [ht] at hP1
  obtain ⟨hP2, hD2⟩ := va_joinQ hP hD is ir hi hr hnr hdis hk1 hFc hP1 hD1
  exact kk u H1 locs1 hp hP2 hD2 hS1
end MYK
