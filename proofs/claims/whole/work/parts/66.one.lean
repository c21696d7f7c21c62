/-! ===== two answers of a writing call are one ===== -/
abbrev O2 (r r2 : Int32) (o o2 : Option (Nat → Nat → Int32)) : Prop := r = r2 ∧ o = o2
theorem no2 {r r2 c : Int32} {o o2 : Option (Nat → Nat → Int32)} (h : No r c o) (h2 : No r2 c o2) : O2 r r2 o o2 := ⟨h.1.trans h2.1.symm, h.2.trans h2.2.symm⟩
theorem eq2 {r r2 c : Int32} {o o2 p : Option (Nat → Nat → Int32)} (h : r = c ∧ o = p) (h2 : r2 = c ∧ o2 = p) : O2 r r2 o o2 := ⟨h.1.trans h2.1.symm, h.2.trans h2.2.symm⟩
theorem OaddBay_one {g : Nat → Nat → Int32} {n : Nat} {lv ps sz r r2 : Int32} {o o2 : Option (Nat → Nat → Int32)} (h : OaddBay g n lv ps sz r o) (h2 : OaddBay g n lv ps sz r2 o2) : O2 r r2 o o2 :=
  Ch.two h h2 (fun _ a b => Ch.two a b (fun _ => no2) (fun _ a b => Ch.two a b (fun _ => no2) (fun _ => eq2))) (fun _ => no2)
theorem OsetBay_one {g : Nat → Nat → Int32} {n : Nat} {x on r r2 : Int32} {o o2 : Option (Nat → Nat → Int32)} (hn : n < 2 ^ 31) (h : OsetBay g n x on r o) (h2 : OsetBay g n x on r2 o2) : O2 r r2 o o2 :=
  Ch.two h h2 (fun _ ⟨k, hk, hx, e⟩ ⟨j, hj, hx2, e2⟩ => by
    have : k = j := nI_inj (by omega) (by omega) (hx.symm.trans hx2)
    subst this
    exact eq2 e e2) (fun _ => no2)
theorem TPut.one {g u u2 : Nat → Nat → Int32} {n : Nat} {x un pr : Int32} (h : TPut g n x un pr u) (h2 : TPut g n x un pr u2) : u = u2 := by
  obtain ⟨k, hk, h⟩ := h
  obtain ⟨j, hj, h2⟩ := h2
  have := hk.uniq hj
  subst this
  rcases h with ⟨a, b, e⟩ | ⟨a, b, e⟩ <;> rcases h2 with ⟨a2, b2, e2⟩ | ⟨a2, b2, e2⟩
  · exact e.trans e2.symm
  · exact absurd ⟨a, b⟩ a2
  · exact absurd ⟨a2, b2⟩ a
  · exact e.trans e2.symm
theorem TRem.one {g u u2 : Nat → Nat → Int32} {n : Nat} {x : Int32} (h : TRem g n x u) (h2 : TRem g n x u2) : u = u2 := by
  obtain ⟨k, hk, _, _, e⟩ := h
  obtain ⟨j, hj, _, _, e2⟩ := h2
  have := hk.uniq hj
  subst this
  exact e.trans e2.symm
theorem OS1_one {g : Nat → Nat → Int32} {B n : Nat} {x un pr r r2 : Int32} {o o2 : Option (Nat → Nat → Int32)} (h : OS1 g B n x un pr r o) (h2 : OS1 g B n x un pr r2 o2) : O2 r r2 o o2 :=
  Ch.two h h2 (fun _ a b => Ch.two a b (fun _ ⟨u, hu, e⟩ ⟨v, hv, e2⟩ => by have := hu.one hv; subst this; exact eq2 e e2) (fun _ => no2)) (fun _ a b => Ch.two a b (fun _ ⟨u, hu, e⟩ ⟨v, hv, e2⟩ => by have := hu.one hv; subst this; exact eq2 e e2) (fun _ => no2))
theorem OsetStep_one {g : Nat → Nat → Int32} {tn tu : Nat} {t x un pr r r2 : Int32} {o o2 : Option (Nat → Nat → Int32)} (h : OsetStep g tn tu t x un pr r o) (h2 : OsetStep g tn tu t x un pr r2 o2) : O2 r r2 o o2 :=
  Ch.two h h2 (fun _ a b => Ch.two a b (fun _ => OS1_one) (fun _ => OS1_one)) (fun _ => no2)
theorem OsetNumber_one {g : Nat → Nat → Int32} {wh v r r2 : Int32} {o o2 : Option (Nat → Nat → Int32)} (h : OsetNumber g wh v r o) (h2 : OsetNumber g wh v r2 o2) : O2 r r2 o o2 :=
  Ch.two h h2 (fun _ ⟨k, hk, hx, e⟩ ⟨j, hj, hx2, e2⟩ => by
    have : k = j := nI_inj (by omega) (by omega) (hx.symm.trans hx2)
    subst this
    exact eq2 e e2) (fun _ => no2)
theorem Oreserve_one {g : Nat → Nat → Int32} {n q tn : Nat} {pl sz bg en r r2 : Int32} {o o2 : Option (Nat → Nat → Int32)} (h : Oreserve g n q tn pl sz bg en r o) (h2 : Oreserve g n q tn pl sz bg en r2 o2) : O2 r r2 o o2 :=
  Ch.two h h2 (fun _ ⟨z, hz, a⟩ ⟨y, hy, b⟩ => by
    have := aFor_one hz hy
    subst this
    exact Ch.two a b (fun _ => no2) (fun _ => eq2)) (fun _ => no2)
theorem Ocancel_one {g : Nat → Nat → Int32} {q : Nat} {x r r2 : Int32} {o o2 : Option (Nat → Nat → Int32)} (hq : q < 2 ^ 31) (h : Ocancel g q x r o) (h2 : Ocancel g q x r2 o2) : O2 r r2 o o2 :=
  Plc.two hq h h2 (fun k _ _ a b => Ch.two a b (fun _ ⟨c, e⟩ ⟨c2, e2⟩ => by
    have : r = r2 := Ch.two c c2 (fun _ a b => a.trans b.symm) (fun _ a b => a.trans b.symm)
    subst this
    exact ⟨rfl, e.trans e2.symm⟩) (fun _ => no2)) no2
theorem LetIn.one {g u u2 : Nat → Nat → Int32} {q k : Nat} {pl rv : Int32} (hq : q < 2 ^ 31) (h : LetIn g q k pl rv u) (h2 : LetIn g q k pl rv u2) : u = u2 := by
  rcases h with ⟨w, hw, a, e⟩ | ⟨a, e⟩ <;> rcases h2 with ⟨v, hv, b, e2⟩ | ⟨b, e2⟩
  · have : w = v := nI_inj (by omega) (by omega) (a.symm.trans b)
    subst this
    exact e.trans e2.symm
  · exact absurd ⟨w, hw, a⟩ b
  · exact absurd ⟨v, hv, b⟩ a
  · exact e.trans e2.symm
theorem LetOut.one {g u u2 : Nat → Nat → Int32} {q k : Nat} (hq : q < 2 ^ 31) (h : LetOut g q k u) (h2 : LetOut g q k u2) : u = u2 := by
  rcases h with ⟨w, hw, a, e⟩ | ⟨a, e⟩ <;> rcases h2 with ⟨v, hv, b, e2⟩ | ⟨b, e2⟩
  · have : w = v := nI_inj (by omega) (by omega) (a.symm.trans b)
    subst this
    exact e.trans e2.symm
  · exact absurd ⟨w, hw, a⟩ b
  · exact absurd ⟨v, hv, b⟩ a
  · exact e.trans e2.symm
theorem Oenter_one {g : Nat → Nat → Int32} {n q : Nat} {pl sz r r2 : Int32} {o o2 : Option (Nat → Nat → Int32)} (hn : n < 2 ^ 31) (hq : q < 2 ^ 31) (h : Oenter g n q pl sz r o) (h2 : Oenter g n q pl sz r2 o2) : O2 r r2 o o2 :=
  Ch.two h h2 (fun _ a b => Ch.two a b (fun _ => no2) (fun _ ⟨rv, hr, z, hz, a⟩ ⟨rv2, hr2, y, hy, b⟩ => by
    have := aUs_one hq hr hr2
    subst this
    have : z = y := Plc.two hq hz hy (fun _ _ _ a b => a.trans b.symm) aFirst_one
    subst this
    exact Plc.two hn a b (fun k _ _ ⟨u, hu, e⟩ ⟨v, hv, e2⟩ => by have := hu.one hq hv; subst this; exact eq2 e e2) no2)) (fun _ => no2)
theorem Oleave_one {g : Nat → Nat → Int32} {n q tn tu : Nat} {x r r2 : Int32} {o o2 : Option (Nat → Nat → Int32)} (hq : q < 2 ^ 31) (h : Oleave g n q tn tu x r o) (h2 : Oleave g n q tn tu x r2 o2) : O2 r r2 o o2 :=
  Ch.two h h2 (fun _ a b => Fnd.two a b (fun k _ _ ⟨hf, j, hj, u, hu, e⟩ ⟨hf2, i, hi, v, hv, e2⟩ => by
    have := FeA.one hq hf hf2
    subst this
    have : j = i := Ch.two hj hi (fun _ a b => a.trans b.symm) (fun _ a b => a.trans b.symm)
    subst this
    have := hu.one hq hv
    subst this
    exact ⟨rfl, e.trans e2.symm⟩) no2) (fun _ => no2)
theorem Olost_one {g : Nat → Nat → Int32} {n q tn : Nat} {pl r r2 : Int32} {o o2 : Option (Nat → Nat → Int32)} (hq : q < 2 ^ 31) (h : Olost g n q tn pl r o) (h2 : Olost g n q tn pl r2 o2) : O2 r r2 o o2 :=
  Ch.two h h2 (fun _ a b => Fnd.two a b (fun k _ _ ⟨hf, u, hu, e⟩ ⟨hf2, v, hv, e2⟩ => by
    have : r = r2 := hf.trans hf2.symm
    subst this
    have := hu.one hq hv
    subst this
    exact ⟨rfl, e.trans e2.symm⟩) no2) (fun _ => no2)
theorem Opass_one {g : Nat → Nat → Int32} {q : Nat} {x r r2 : Int32} {o o2 : Option (Nat → Nat → Int32)} (h : Opass g q x r o) (h2 : Opass g q x r2 o2) : O2 r r2 o o2 :=
  Ch.two h h2 (fun _ a b => Ch.two a b (fun _ => no2) (fun _ ⟨z, hz, e⟩ ⟨y, hy, e2⟩ => by
    have := hz.one hy
    subst this
    exact eq2 e e2)) (fun _ => no2)
theorem Oappend_one {L : Nat} {f : Nat → Int32} {x r r2 : Int32} {u u2 : Nat × (Nat → Int32)} (h : Oappend L f x r u) (h2 : Oappend L f x r2 u2) : r = r2 ∧ u = u2 :=
  Ch.two h h2 (fun _ a b => Ch.two a b (fun _ a b => ⟨a.1.trans b.1.symm, a.2.trans b.2.symm⟩) (fun _ a b => ⟨a.1.trans b.1.symm, a.2.trans b.2.symm⟩)) (fun _ a b => ⟨a.1.trans b.1.symm, a.2.trans b.2.symm⟩)
