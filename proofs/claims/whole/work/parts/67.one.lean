/-! ===== the text says one thing ===== -/
theorem SizeR.one {f : Nat → Int32} {k s e : Nat} {r r2 : Int32} (h : SizeR f k s e r) (h2 : SizeR f k s e r2) : r = r2 :=
  Ch.two h h2 (fun _ a b => a.trans b.symm) (fun _ a b => Ch.two a b (fun _ a b => a.trans b.symm) (fun _ a b => Ch.two a b (fun _ a b => a.trans b.symm) (fun _ a b => a.trans b.symm)))
theorem TarR.one {f : Nat → Int32} {k s e : Nat} {r r2 : Int32} (h : TarR f k s e r) (h2 : TarR f k s e r2) : r = r2 :=
  Ch.two h h2 (fun _ a b => a.trans b.symm) (fun _ a b => Ch.two a b (fun _ a b => a.trans b.symm) (fun _ a b => a.trans b.symm))
theorem PSemi.one {f : Nat → Int32} {L e : Nat} {P P2 : Nat → Prop} {o o2 : RES} (h : PSemi f L e P o) (h2 : PSemi f L e P2 o2) (k : ∀ e, P e → P2 e → o = o2) : o = o2 := by
  obtain ⟨k1, s1, e1, t1, h⟩ := h
  obtain ⟨k2, s2, e2, t2, h2⟩ := h2
  obtain ⟨rfl, rfl, rfl⟩ := t1.uniq t2
  exact Ch.two h h2 (fun _ => k _) (fun _ a b => a.trans b.symm)
theorem PNumb.one {f : Nat → Int32} {L e lo hi : Nat} {P P2 : Nat → Nat → Nat → Prop} {o o2 : RES} (h : PNumb f L e lo hi P o) (h2 : PNumb f L e lo hi P2 o2) (k : ∀ v s e, P v s e → P2 v s e → o = o2) : o = o2 := by
  obtain ⟨k1, s1, e1, t1, h⟩ := h
  obtain ⟨k2, s2, e2, t2, h2⟩ := h2
  obtain ⟨rfl, rfl, rfl⟩ := t1.uniq t2
  exact Ch.two h h2 (fun _ ⟨v, hv, a⟩ ⟨w, hw, b⟩ => by
    have := hv.1.uniq hw.1
    subst this
    exact k _ _ _ a b) (fun _ a b => a.trans b.symm)
theorem PNo.one {f : Nat → Int32} {L : Nat} {g : Nat → Nat → Int32} {wh lo hi e0 : Nat} {o o2 : RES} (h : PNo f L g wh lo hi e0 o) (h2 : PNo f L g wh lo hi e0 o2) : o = o2 :=
  PNumb.one h h2 (fun _ _ _ a b => PSemi.one a b (fun _ a b => a.trans b.symm))
theorem PStep1.one {f : Nat → Int32} {L : Nat} {g : Nat → Nat → Int32} {B n e1 : Nat} {o o2 : RES} (h : PStep1 f L g B n e1 o) (h2 : PStep1 f L g B n e1 o2) : o = o2 :=
  PNumb.one h h2 (fun _ _ _ a b => Ch.two a b (fun _ a b => PNumb.one a b (fun _ _ _ a b => PNumb.one a b (fun _ _ _ a b => PSemi.one a b (fun _ ⟨u, hu, e⟩ ⟨v, hv, e2⟩ => by
    have := hu.one hv
    subst this
    exact e.trans e2.symm)))) (fun _ a b => a.trans b.symm))
theorem PStep.one {f : Nat → Int32} {L : Nat} {g : Nat → Nat → Int32} {tn tu e0 : Nat} {o o2 : RES} (h : PStep f L g tn tu e0 o) (h2 : PStep f L g tn tu e0 o2) : o = o2 := by
  obtain ⟨k1, s1, e1, z1, t1, r1, h⟩ := h
  obtain ⟨k2, s2, e2, z2, t2, r2, h2⟩ := h2
  obtain ⟨rfl, rfl, rfl⟩ := t1.uniq t2
  have := r1.one r2
  subst this
  exact Ch.two h h2 (fun _ a b => a.trans b.symm) (fun _ a b => Ch.two a b (fun _ => PStep1.one) (fun _ => PStep1.one))
theorem PBay.one {f : Nat → Int32} {L : Nat} {g : Nat → Nat → Int32} {n s0 e0 : Nat} {o o2 : RES} (h : PBay f L g n s0 e0 o) (h2 : PBay f L g n s0 e0 o2) : o = o2 := by
  refine Ch.two h h2 (fun _ a b => a.trans b.symm) (fun _ a b => ?_)
  obtain ⟨k1, s1, e1, z1, t1, r1, a⟩ := a
  obtain ⟨k2, s2, e2, z2, t2, r2, b⟩ := b
  obtain ⟨rfl, rfl, rfl⟩ := t1.uniq t2
  have := r1.one r2
  subst this
  exact Ch.two a b (fun _ a b => a.trans b.symm) (fun _ a b => PNumb.one a b (fun _ _ _ a b => PNumb.one a b (fun _ _ _ a b => Ch.two a b (fun _ a b => a.trans b.symm) (fun _ a b => PSemi.one a b (fun _ a b => a.trans b.symm)))))
theorem PItem.one {f : Nat → Int32} {L : Nat} {g : Nat → Nat → Int32} {n tn tu k0 s0 e0 : Nat} {o o2 : RES} (h : PItem f L g n tn tu k0 s0 e0 o) (h2 : PItem f L g n tn tu k0 s0 e0 o2) : o = o2 :=
  Ch.two h h2 (fun _ => PBay.one) (fun _ a b => Ch.two a b (fun _ => PStep.one) (fun _ a b => Ch.two a b (fun _ => PNo.one) (fun _ a b => Ch.two a b (fun _ => PNo.one) (fun _ a b => a.trans b.symm))))
theorem PAll.one {f : Nat → Int32} {L : Nat} : ∀ {d d2 it p : Nat} {g : Nat → Nat → Int32} {o o2 : RES}, PAll f L d it p g o → PAll f L d2 it p g o2 → o = o2
  | 0, _, _, _, _, _, _, h, _ => h.elim
  | _ + 1, 0, _, _, _, _, _, _, h2 => h2.elim
  | d + 1, d2 + 1, it, p, g, o, o2, h, h2 => by
    obtain ⟨k1, s1, e1, t1, h⟩ := h
    obtain ⟨k2, s2, e2, t2, h2⟩ := h2
    obtain ⟨rfl, rfl, rfl⟩ := t1.uniq t2
    refine Ch.two h h2 (fun _ a b => a.trans b.symm) (fun _ a b => ?_)
    obtain ⟨n, q, tn, tu, x1, ⟨a1, a2, a3, a4, a5, a6, a7, a8⟩, i1, a⟩ := a
    obtain ⟨n', q', tn', tu', x2, ⟨b1, b2, b3, b4, b5, b6, b7, b8⟩, i2, b⟩ := b
    have en : n = n' := nI_inj (by omega) (by omega) (a1.symm.trans b1)
    have et : tn = tn' := nI_inj (by omega) (by omega) (a5.symm.trans b5)
    have eu : tu = tu' := nI_inj (by omega) (by omega) (a7.symm.trans b7)
    subst en et eu
    have := i1.one i2
    subst this
    rcases a with ⟨x, ex, a⟩ | ⟨e3, g3, ex, a⟩ <;> rcases b with ⟨y, ey, b⟩ | ⟨e4, g4, ey, b⟩
    · have := ex.symm.trans ey
      injection this with this
      subst this
      exact a.trans b.symm
    · exact absurd (ex.symm.trans ey) (fun z => by injection z)
    · exact absurd (ex.symm.trans ey) (fun z => by injection z)
    · have := ex.symm.trans ey
      injection this with this
      injection this with h3 h4
      subst h3 h4
      exact PAll.one a b
