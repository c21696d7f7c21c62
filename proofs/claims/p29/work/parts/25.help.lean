theorem pk_dec {i : Nat} (h : 0 < i) : nI i + Int32.ofInt (-1) = nI (i - 1) := by
  rw [show Int32.ofInt (-1) = -(1 : Int32) from by decide +kernel, ← Int32.sub_eq_add_neg]
  exact pk_subn (k := 1) (by omega)
abbrev cE (cC : ClassId) (n : Nat) (f : Nat → Int32) : va_E := .inl (cC, n, .inl f)
abbrev wX (cC : ClassId) (a : Nat → Nat) (g : Nat → Nat → Int32) : va_W := [(a 0, oE 5 [.int (g 0 0), .ref (a 1), .int (g 0 1), .int (g 0 2), .int (g 0 3)]), (a 1, cE cC 120 (g 1))]
/-! ===== what a car's coming and going does to a state; new objects ===== -/
abbrev gIn (g : Nat → Nat → Int32) (k : Nat) (pl rv : Int32) : Nat → Nat → Int32 := w2 (w2 (w2 (w2 (w2 g 0 (upd (g 0) 1 (g 0 1 + 1))) 8 (upd (g 8) k pl)) 9 (upd (g 9) k (g 0 1 + 1))) 10 (upd (g 10) k (g 0 0))) 11 (upd (g 11) k rv)
def LetIn (g : Nat → Nat → Int32) (q k : Nat) (pl rv : Int32) (u : Nat → Nat → Int32) : Prop := (∃ w, w < q ∧ rv = nI w ∧ u = w2 (gIn g k pl rv) 18 (upd (g 18) w 1)) ∨ ((¬ ∃ w, w < q ∧ rv = nI w) ∧ u = gIn g k pl rv)
abbrev gOut (g : Nat → Nat → Int32) (k : Nat) : Nat → Nat → Int32 := w2 (w2 (w2 (w2 g 8 (upd (g 8) k 0)) 9 (upd (g 9) k 0)) 10 (upd (g 10) k 0)) 11 (upd (g 11) k (-9))
def LetOut (g : Nat → Nat → Int32) (q k : Nat) (u : Nat → Nat → Int32) : Prop := (∃ w, w < q ∧ g 11 k = nI w ∧ u = w2 (gOut g k) 18 (upd (g 18) w 2)) ∨ ((¬ ∃ w, w < q ∧ g 11 k = nI w) ∧ u = gOut g k)
/-- the addresses of an object o and of what it has made -/
abbrev cns (o : Nat) (u : Nat → Nat) : Nat → Nat := fun k => match k with
  | 0 => o
  | k + 1 => u k
abbrev z2 : Nat → Nat → Int32 := fun _ _ => 0
abbrev tI (un pr : Int32) : Nat → Nat → Int32 := T2 z2 0 0 0 un pr
theorem tI_of {un pr : Int32} {u : Nat → Nat → Int32} (h : TPut z2 0 0 un pr u) : u = tI un pr := by
  obtain ⟨k, hk, h | ⟨-, -, h⟩⟩ := h
  · exact absurd h.1 (Nat.not_lt_zero k)
  · have : k = 0 := by have := hk.1; omega
    subst this
    exact h
abbrev nums0 : Nat → Int32 := upd (upd (upd (upd (upd (fun _ => 0) 0 50) 1 15) 2 10) 3 2000) 4 2500
/-- a new state -/
def gS0 : Nat → Nat → Int32 := wblk (wblk (w2 z2 1 nums0) 19 4 (tI 60 200)) 23 4 (tI 15 300)
section MYD
variable {p : Program} {l : Launch} {e : Env} {R : Room} {s : State} {m : MethodId} {args : Array Value} {below : List Frame} {meth : Method} {c : Code} {H : Heap} {locs : List Loc} {cells slots : Nat} {Q : State → Prop}
variable {cc : ByteArray} {pc : Nat} {ls : Array Slot} {rest st0 : List Value} {D : va_G} {A : Nat → Prop} {Wd : va_W}
/-- a new row of chars -/
theorem newa_c (hexec : p.tables.exec = Jvm.exec) (hb : c.code = cc) (harr : (Cond.arrayClass .char).before args s = true) {cI cC cS : ClassId} (hK : KN D [(cI, .int), (cC, .char), (cI, .int), (cS, .object "ParkingGarage$State")] s) (hP : va_P D vwCl Wd H) (hD : va_D A Wd) (hS : va_S A s.heap H locs) (hA : ∀ q, s.heap.size ≤ q → A q)
    {k : Int32} (N : Nat) (hk : ¬ k < 0) (hN : k.toNatClampNeg = N) (hbytes : N * componentBytes .char ≤ 536870912) (hcells : cells + 1 ≤ R.cells) (hslots : slots + N ≤ R.slots) (hdg : decode cc pc = .ok (.newarray .char, 2))
    (kk : ∀ (q : Nat) (H1 : Heap), va_P D vwCl (Wd ++ [(q, .inl (cC, N, .inl (fun _ => 0)))]) H1 → va_D A (Wd ++ [(q, .inl (cC, N, .inl (fun _ => 0)))]) → va_S A s.heap H1 locs →
      W p l e R s m args below meth c H1 locs (cells + 1) (slots + N) Q (F0 m (pc + 2) ls (.ref q :: rest))) : W p l e R s m args below meth c H locs cells slots Q (F0 m pc ls (.int k :: rest)) := by
  refine va_newa (atype := .char) (ty := .char) hexec hb harr rfl hK.1 hP hD hS hA (a0 := (N, .inl (fun _ => 0))) (fun cA => rfl) hk hN hbytes hcells hslots hdg (fun q cA H1 hK1 hP1 hD1 hS1 => ?_)
  have e1 : s.vm.findClass ("[" ++ FieldType.char.toString) = some cC := (hK.1.2 1 (cC, .char) rfl).2
  have e2 : s.vm.findClass ("[" ++ FieldType.char.toString) = some cA := (hK1.2 4 (cA, .char) rfl).2
  have e3 : cA = cC := Option.some.inj (e2.symm.trans e1)
  subst e3
  exact kk q H1 hP1 hD1 hS1
end MYD
