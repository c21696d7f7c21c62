/-! ===== what the text says: each answer an error's place, or the place behind and the new state ===== -/
abbrev RES : Type := Nat ⊕ (Nat × (Nat → Nat → Int32))
def SizeR (f : Nat → Int32) (k s e : Nat) (r : Int32) : Prop := Ch (Wrd f k s e 4) (r = 0) (Ch (Wrd f k s e 5) (r = 1) (Ch (Wrd f k s e 6) (r = 2) (r = -1)))
def TarR (f : Nat → Int32) (k s e : Nat) (r : Int32) : Prop := Ch (Wrd f k s e 7) (r = 0) (Ch (Wrd f k s e 8) (r = 1) (r = -1))
abbrev NumIn (f : Nat → Int32) (k s e lo hi v : Nat) : Prop := Num f k s e v ∧ lo ≤ v ∧ v ≤ hi
def NumR (f : Nat → Int32) (k s e lo hi : Nat) (r : Int32) : Prop := Ch (∃ v, NumIn f k s e lo hi v) (∃ v, NumIn f k s e lo hi v ∧ r = nI v) (r = -1)
abbrev Semi (f : Nat → Int32) (k s : Nat) : Prop := k = 3 ∧ f s = 59
def PSemi (f : Nat → Int32) (L e : Nat) (P : Nat → Prop) (o : RES) : Prop := ∃ k2 s2 e2, Tok f L e k2 s2 e2 ∧ Ch (Semi f k2 s2) (P e2) (o = .inl s2)
/-- a number from lo to hi, and P of it and of the place behind it and of its own -/
def PNumb (f : Nat → Int32) (L e lo hi : Nat) (P : Nat → Nat → Nat → Prop) (o : RES) : Prop := ∃ k2 s2 e2, Tok f L e k2 s2 e2 ∧ Ch (∃ v, NumIn f k2 s2 e2 lo hi v) (∃ v, NumIn f k2 s2 e2 lo hi v ∧ P v s2 e2) (o = .inl s2)
def PBay (f : Nat → Int32) (L : Nat) (g : Nat → Nat → Int32) (n s0 e0 : Nat) (o : RES) : Prop :=
  Ch (n = 30) (o = .inl s0) (∃ k1 s1 e1 z, Tok f L e0 k1 s1 e1 ∧ SizeR f k1 s1 e1 z ∧ Ch (z = -1) (o = .inl s1) (PNumb f L e1 0 4 (fun lv _ e2 => PNumb f L e2 0 99 (fun ps s3 e3 => Ch (∃ w, w < n ∧ g 4 w = nI lv ∧ g 5 w = nI ps) (o = .inl s3) (PSemi f L e3 (fun e4 => o = .inr (e4, gAdd g n (nI lv) (nI ps) z)) o)) o) o))
def PStep1 (f : Nat → Int32) (L : Nat) (g : Nat → Nat → Int32) (B n e1 : Nat) (o : RES) : Prop :=
  PNumb f L e1 0 1440 (fun x s2 e2 => Ch (n < 5 ∨ THas (g (B + 1)) n (nI x)) (PNumb f L e2 1 240 (fun un _ e3 => PNumb f L e3 0 5000 (fun pr _ e4 => PSemi f L e4 (fun e5 => ∃ u, TPut (fun k => g (B + k)) n (nI x) (nI un) (nI pr) u ∧ o = .inr (e5, wblk g B 4 u)) o) o) o) (o = .inl s2)) o
def PStep (f : Nat → Int32) (L : Nat) (g : Nat → Nat → Int32) (tn tu e0 : Nat) (o : RES) : Prop :=
  ∃ k1 s1 e1 z, Tok f L e0 k1 s1 e1 ∧ TarR f k1 s1 e1 z ∧ Ch (z = -1) (o = .inl s1) (Ch (z = 0) (PStep1 f L g 19 tn e1 o) (PStep1 f L g 23 tu e1 o))
def PNo (f : Nat → Int32) (L : Nat) (g : Nat → Nat → Int32) (wh lo hi e0 : Nat) (o : RES) : Prop :=
  PNumb f L e0 lo hi (fun v _ e1 => PSemi f L e1 (fun e2 => o = .inr (e2, w2 g 1 (upd (g 1) wh (nI v)))) o) o
def PItem (f : Nat → Int32) (L : Nat) (g : Nat → Nat → Int32) (n tn tu k0 s0 e0 : Nat) (o : RES) : Prop :=
  Ch (Wrd f k0 s0 e0 0) (PBay f L g n s0 e0 o) (Ch (Wrd f k0 s0 e0 1) (PStep f L g tn tu e0 o) (Ch (Wrd f k0 s0 e0 2) (PNo f L g 2 0 60 e0 o) (Ch (Wrd f k0 s0 e0 3) (PNo f L g 0 1 200 e0 o) (o = .inl s0))))
/-- the numbers of bays, of reservations, of steps -/
abbrev Nums (g : Nat → Nat → Int32) (n q tn tu : Nat) : Prop := g 3 0 = nI n ∧ n ≤ 30 ∧ g 12 0 = nI q ∧ q ≤ 16 ∧ g 19 0 = nI tn ∧ tn ≤ 5 ∧ g 23 0 = nI tu ∧ tu ≤ 5
def PAll (f : Nat → Int32) (L : Nat) : Nat → Nat → Nat → (Nat → Nat → Int32) → RES → Prop
  | 0, _, _, _, _ => False
  | d + 1, it, p, g, o => ∃ k s e, Tok f L p k s e ∧ Ch (k = 0) (o = .inr (it, g)) (∃ n q tn tu o1, Nums g n q tn tu ∧ PItem f L g n tn tu k s e o1 ∧ ((∃ x, o1 = .inl x ∧ o = .inl x) ∨ ∃ e2 g2, o1 = .inr (e2, g2) ∧ PAll f L d (it + 1) e2 g2 o))
/-- how a method of the text answers: 0, and the token that is wrong starts there; 1, and the place behind, and the new state -/
abbrev TSt : Type := (Nat × Nat × Nat) × (Nat → Nat → Int32)
def ResB (r : Int32) (u : TSt) (o : RES) : Prop := (∃ x, o = .inl x ∧ r = 0 ∧ u.1.2.1 = x) ∨ ∃ e2 g2, o = .inr (e2, g2) ∧ r = 1 ∧ u.1.2.2 = e2 ∧ u.2 = g2
theorem ResB.no {u : TSt} {x : Nat} (h : u.1.2.1 = x) : ResB 0 u (.inl x) := Or.inl ⟨x, rfl, rfl, h⟩
theorem ResB.yes {u : TSt} {e2 : Nat} {g2 : Nat → Nat → Int32} (h : u.1.2.2 = e2) (hg : u.2 = g2) : ResB 1 u (.inr (e2, g2)) := Or.inr ⟨e2, g2, rfl, rfl, h, hg⟩
