/-! ===== two answers to the same words are one ===== -/
theorem Ch.two {P A B A2 B2 C : Prop} (h : Ch P A B) (h2 : Ch P A2 B2) (k1 : P → A → A2 → C) (k2 : ¬ P → B → B2 → C) : C := by
  rcases h with ⟨p, a⟩ | ⟨p, b⟩ <;> rcases h2 with ⟨p2, a2⟩ | ⟨p2, b2⟩
  · exact k1 p a a2
  · exact absurd p p2
  · exact absurd p2 p
  · exact k2 p b b2
theorem Plc.two {n : Nat} {x : Int32} {R R2 : Nat → Prop} {E E2 C : Prop} (hn : n < 2 ^ 31) (h : Plc n x R E) (h2 : Plc n x R2 E2) (k1 : ∀ k, k < n → x = nI k → R k → R2 k → C) (k2 : E → E2 → C) : C := by
  rcases h with ⟨k, hk, hx, r⟩ | ⟨hno, e⟩ <;> rcases h2 with ⟨j, hj, hx2, r2⟩ | ⟨hno2, e2⟩
  · have : k = j := nI_inj (by omega) (by omega) (hx.symm.trans hx2)
    subst this
    exact k1 k hk hx r r2
  · exact absurd ⟨k, hk, hx⟩ hno2
  · exact absurd ⟨j, hj, hx2⟩ hno
  · exact k2 e e2
theorem Fnd.two {P : Nat → Prop} {n : Nat} {R R2 : Nat → Prop} {E E2 C : Prop} (h : Fnd P n R E) (h2 : Fnd P n R2 E2) (k1 : ∀ k, k < n → P k → R k → R2 k → C) (k2 : E → E2 → C) : C := by
  rcases h with ⟨k, hk, p, hf, r⟩ | ⟨hno, e⟩ <;> rcases h2 with ⟨j, hj, p2, hf2, r2⟩ | ⟨hno2, e2⟩
  · have : k = j := by
      rcases Nat.lt_trichotomy k j with q | q | q
      · exact absurd p (hf2 k q)
      · exact q
      · exact absurd p2 (hf j q)
    subst this
    exact k1 k hk p r r2
  · exact absurd p (hno2 k hk)
  · exact absurd p2 (hno j hj)
  · exact k2 e e2
theorem Fst.one {P : Nat → Prop} {n : Nat} {r r2 : Int32} (h : Fst P n r) (h2 : Fst P n r2) : r = r2 := by
  rcases h with ⟨k, hk, p, hf, e⟩ | ⟨hno, e⟩ <;> rcases h2 with ⟨j, hj, p2, hf2, e2⟩ | ⟨hno2, e2⟩
  · have : k = j := by
      rcases Nat.lt_trichotomy k j with q | q | q
      · exact absurd p (hf2 k q)
      · exact q
      · exact absurd p2 (hf j q)
    subst this
    exact e.trans e2.symm
  · exact absurd p (hno2 k hk)
  · exact absurd p2 (hno j hj)
  · exact e.trans e2.symm
theorem Cnt.one {P : Nat → Prop} : ∀ {n a b : Nat}, Cnt P n a → Cnt P n b → a = b
  | 0, a, b, h, h2 => h.trans h2.symm
  | n + 1, a, b, ⟨z, hz, h⟩, ⟨y, hy, h2⟩ => by
    have : z = y := Cnt.one hz hy
    subst this
    rcases h with ⟨p, e⟩ | ⟨p, e⟩ <;> rcases h2 with ⟨p2, e2⟩ | ⟨p2, e2⟩
    · exact e.trans e2.symm
    · exact absurd p p2
    · exact absurd p2 p
    · exact e.trans e2.symm
theorem Wlk.one {α : Type} {a : α} {st : Nat → α → α → Prop} (hs : ∀ j z q q2, st j z q → st j z q2 → q = q2) : ∀ {n : Nat} {q q2 : α}, Wlk a st n q → Wlk a st n q2 → q = q2
  | 0, q, q2, h, h2 => h.trans h2.symm
  | n + 1, q, q2, ⟨z, hz, h⟩, ⟨y, hy, h2⟩ => by
    have : z = y := Wlk.one hs hz hy
    subst this
    exact hs n z q q2 h h2
theorem Imp.one {c : Nat → Int32 → Prop} {m : Nat → Int32} {j : Nat} {z q q2 : Int32} (h : Imp c m j z q) (h2 : Imp c m j z q2) : q = q2 := by
  rcases h with ⟨p, e⟩ | ⟨p, e⟩ <;> rcases h2 with ⟨p2, e2⟩ | ⟨p2, e2⟩
  · exact e.trans e2.symm
  · exact absurd p p2
  · exact absurd p2 p
  · exact e.trans e2.symm
theorem WlkI.one {a : Int32} {c : Nat → Int32 → Prop} {m : Nat → Int32} {n : Nat} {q q2 : Int32} (h : Wlk a (Imp c m) n q) (h2 : Wlk a (Imp c m) n q2) : q = q2 := Wlk.one (st := Imp c m) (fun _ _ _ _ x y => Imp.one x y) h h2
theorem aFirst_one {g : Nat → Nat → Int32} {n q : Nat} {sz r r2 : Int32} (h : aFirst g n q sz r) (h2 : aFirst g n q sz r2) : r = r2 := WlkI.one h h2
theorem aFor_one {g : Nat → Nat → Int32} {n q : Nat} {sz b e r r2 : Int32} (h : aFor g n q sz b e r) (h2 : aFor g n q sz b e r2) : r = r2 := WlkI.one h h2
theorem aFreeBays_one {g : Nat → Nat → Int32} {n q : Nat} {lv sz r r2 : Int32} (h : aFreeBays g n q lv sz r) (h2 : aFreeBays g n q lv sz r2) : r = r2 := by
  obtain ⟨z, hz, rfl⟩ := h
  obtain ⟨y, hy, rfl⟩ := h2
  rw [hz.one hy]
theorem FeA.one {q : Nat} {rs et en : Nat → Int32} {nf ov : Int32 → Int32} {k : Nat} {t r r2 : Int32} (hq : q < 2 ^ 31) (h : FeA q rs et en nf ov k t r) (h2 : FeA q rs et en nf ov k t r2) : r = r2 := by
  rcases h with ⟨a, e⟩ | ⟨w, hw, a, e⟩ <;> rcases h2 with ⟨b, e2⟩ | ⟨v, hv, b, e2⟩
  · exact e.trans e2.symm
  · exact absurd ⟨v, hv, b⟩ a
  · exact absurd ⟨w, hw, a⟩ b
  · have : w = v := nI_inj (by omega) (by omega) (a.symm.trans b)
    subst this
    exact e.trans e2.symm
theorem aUs_one {g : Nat → Nat → Int32} {n q : Nat} {x sz r r2 : Int32} (hq : q < 2 ^ 31) (h : aUs g n q x sz r) (h2 : aUs g n q x sz r2) : r = r2 := by
  obtain ⟨z, hz, h⟩ := h
  obtain ⟨y, hy, h2⟩ := h2
  have := hz.one hy
  subst this
  rcases h with ⟨a, e⟩ | ⟨w, hw, a, e⟩ <;> rcases h2 with ⟨b, e2⟩ | ⟨v, hv, b, e2⟩
  · exact e.trans e2.symm
  · exact absurd (a.symm.trans b) (m9_ne hv hq)
  · exact absurd (b.symm.trans a) (m9_ne hw hq)
  · have : w = v := nI_inj (by omega) (by omega) (a.symm.trans b)
    subst this
    rcases e with ⟨c, e⟩ | ⟨c, e⟩ <;> rcases e2 with ⟨c2, e2⟩ | ⟨c2, e2⟩
    · exact e.trans e2.symm
    · exact absurd c c2
    · exact absurd c2 c
    · exact e.trans e2.symm
theorem aNearest_one {g : Nat → Nat → Int32} {n q : Nat} {sz r r2 : Int32} (h : aNearest g n q sz r) (h2 : aNearest g n q sz r2) : r = r2 := Ch.two h h2 (fun _ => aFirst_one) (fun _ a b => a.trans b.symm)
theorem aFree_one {g : Nat → Nat → Int32} {n q : Nat} {lv sz r r2 : Int32} (h : aFree g n q lv sz r) (h2 : aFree g n q lv sz r2) : r = r2 := Ch.two h h2 (fun _ => aFreeBays_one) (fun _ a b => a.trans b.symm)
theorem aFee_one {g : Nat → Nat → Int32} {tn tu : Nat} {t m r r2 : Int32} (h : aFee g tn tu t m r) (h2 : aFee g tn tu t m r2) : r = r2 :=
  Ch.two h h2 (fun _ a b => Ch.two a b (fun _ a b => a.trans b.symm) (fun _ a b => a.trans b.symm)) (fun _ a b => a.trans b.symm)
theorem aMin_one {g : Nat → Nat → Int32} {q tn tu k : Nat} {r r2 : Int32} (hq : q < 2 ^ 31) (h : aMin g q tn tu k r) (h2 : aMin g q tn tu k r2) : r = r2 := by
  obtain ⟨f0, hf, z, hz, e, ha, hb⟩ := h
  obtain ⟨f1, hf1, y, hy, e2, ha2, hb2⟩ := h2
  have := FeA.one hq hf hf1
  subst this
  rw [e, e2]
  have key : ∀ {z y : Nat}, y ≤ 1440 → z < y → (z < 1440 → ∃ f, aFeeAt g q tn tu k (g 0 0 + nI (z + 1)) f ∧ f0 < f) → (∀ j, 1 ≤ j → j ≤ y → ∃ f, aFeeAt g q tn tu k (g 0 0 + nI j) f ∧ f ≤ f0) → False := by
    intro z y hy hzy h1 h2
    obtain ⟨a, ha, ha2⟩ := h1 (by omega)
    obtain ⟨b, hb, hb2⟩ := h2 (z + 1) (by omega) (by omega)
    have := FeA.one hq ha hb
    subst this
    exact Int32.not_lt.mpr hb2 ha2
  rcases Nat.lt_trichotomy z y with p | p | p
  · exact (key hy p hb ha2).elim
  · rw [p]
  · exact (key hz p hb2 ha).elim
theorem aMinutes_one {g : Nat → Nat → Int32} {n q tn tu : Nat} {pl r r2 : Int32} (hq : q < 2 ^ 31) (h : aMinutes g n q tn tu pl r) (h2 : aMinutes g n q tn tu pl r2) : r = r2 :=
  Ch.two h h2 (fun _ a b => Fnd.two a b (fun _ _ _ => aMin_one hq) (fun a b => a.trans b.symm)) (fun _ a b => a.trans b.symm)
theorem aFreeFor_one {g : Nat → Nat → Int32} {n q : Nat} {x r r2 : Int32} (h : aFreeFor g n q x r) (h2 : aFreeFor g n q x r2) : r = r2 :=
  Ch.two h h2 (fun _ a b => Ch.two a b (fun _ a b => a.trans b.symm) (fun _ a b => WlkI.one a b)) (fun _ a b => a.trans b.symm)
theorem aStep_one {g : Nat → Nat → Int32} {tn tu : Nat} {t ix wh r r2 : Int32} (hn : tn < 2 ^ 31) (hu : tu < 2 ^ 31) (h : aStep g tn tu t ix wh r) (h2 : aStep g tn tu t ix wh r2) : r = r2 := by
  have key : ∀ {G : Nat → Nat → Int32} {n : Nat}, n < 2 ^ 31 → aStep1 G n ix wh r → aStep1 G n ix wh r2 → r = r2 := by
    intro G n hn a b
    refine Plc.two hn a b (fun k _ _ a b => ?_) (fun a b => a.trans b.symm)
    rcases a with ⟨p, e⟩ | ⟨p, e⟩ | ⟨p, e⟩ <;> rcases b with ⟨p2, e2⟩ | ⟨p2, e2⟩ | ⟨p2, e2⟩
    · exact e.trans e2.symm
    · exact absurd (p.symm.trans p2) (by decide)
    · exact absurd p p2.1
    · exact absurd (p.symm.trans p2) (by decide)
    · exact e.trans e2.symm
    · exact absurd p p2.2
    · exact absurd p2 p.1
    · exact absurd p2 p.2
    · exact e.trans e2.symm
  exact Ch.two h h2 (fun _ a b => Ch.two a b (fun _ => key hn) (fun _ => key hu)) (fun _ a b => a.trans b.symm)
theorem aAcc_one {g : Nat → Nat → Int32} {x r r2 : Int32} (h : aAcc g x r) (h2 : aAcc g x r2) : r = r2 := by
  refine Ch.two h h2 (fun _ a b => Ch.two a b (fun _ a b => a.trans b.symm) (fun _ a b => ?_)) (fun _ a b => a.trans b.symm)
  obtain ⟨k, hk, hx, e⟩ := a
  obtain ⟨j, hj, hx2, e2⟩ := b
  have : k = j := nI_inj (by omega) (by omega) (hx.symm.trans hx2)
  subst this
  exact e.trans e2.symm
