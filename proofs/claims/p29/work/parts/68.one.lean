/-! ===== one answer: the calls that choose by a number ===== -/
theorem lit_ne {x a b : Int32} (h : x = a) (h2 : x = b) (h3 : ¬ a = b) {C : Prop} : C := absurd (h.symm.trans h2) h3
theorem lit_out {x a : Int32} {lo hi : Int} (h : x = a) (h2 : Out x lo hi) (h3 : ¬ Out a lo hi) {C : Prop} : C := absurd (h ▸ h2) h3
theorem aRes_one {g : Nat → Nat → Int32} {q : Nat} {x wh r r2 : Int32} (hq : q < 2 ^ 31) (h : aRes g q x wh r) (h2 : aRes g q x wh r2) : r = r2 := by
  refine Plc.two hq h h2 (fun k _ _ a b => ?_) (fun a b => a.trans b.symm)
  rcases a with ⟨p, e⟩ | ⟨p, e⟩ | ⟨p, e⟩ | ⟨p, e⟩ | ⟨p, e⟩ | ⟨p, e⟩ | ⟨p, e⟩ <;> rcases b with ⟨p2, e2⟩ | ⟨p2, e2⟩ | ⟨p2, e2⟩ | ⟨p2, e2⟩ | ⟨p2, e2⟩ | ⟨p2, e2⟩ | ⟨p2, e2⟩ <;>
    first
      | exact e.trans e2.symm
      | exact lit_ne p p2 (by decide)
      | exact lit_out p p2 (by decide)
      | exact lit_out p2 p (by decide)
theorem aBay_one {g : Nat → Nat → Int32} {n q : Nat} {x wh r r2 : Int32} (hn : n < 2 ^ 31) (h : aBay g n q x wh r) (h2 : aBay g n q x wh r2) : r = r2 := by
  refine Plc.two hn h h2 (fun k _ _ a b => ?_) (fun a b => a.trans b.symm)
  rcases a with ⟨p, e⟩ | ⟨p, e⟩ | ⟨p, e⟩ | ⟨p, e⟩ | ⟨p, e⟩ | ⟨p, e⟩ | ⟨p, e⟩ | ⟨p, e⟩ <;> rcases b with ⟨p2, e2⟩ | ⟨p2, e2⟩ | ⟨p2, e2⟩ | ⟨p2, e2⟩ | ⟨p2, e2⟩ | ⟨p2, e2⟩ | ⟨p2, e2⟩ | ⟨p2, e2⟩ <;>
    first
      | exact e.trans e2.symm
      | exact Ch.two e e2 (fun _ a b => a.trans b.symm) (fun _ a b => a.trans b.symm)
      | exact Fst.one e e2
      | exact lit_ne p p2 (by decide)
      | exact lit_out p p2 (by decide)
      | exact lit_out p2 p (by decide)
theorem aCar_one {g : Nat → Nat → Int32} {n q tn tu : Nat} {pl wh r r2 : Int32} (hq : q < 2 ^ 31) (h : aCar g n q tn tu pl wh r) (h2 : aCar g n q tn tu pl wh r2) : r = r2 := by
  refine Ch.two h h2 (fun _ a b => Fnd.two a b (fun k _ _ a b => ?_) (fun a b => a.trans b.symm)) (fun _ a b => a.trans b.symm)
  rcases a with ⟨p, e⟩ | ⟨p, e⟩ | ⟨p, e⟩ | ⟨p, e⟩ | ⟨p, e⟩ | ⟨p, e⟩ <;> rcases b with ⟨p2, e2⟩ | ⟨p2, e2⟩ | ⟨p2, e2⟩ | ⟨p2, e2⟩ | ⟨p2, e2⟩ | ⟨p2, e2⟩ <;>
    first
      | exact e.trans e2.symm
      | exact FeA.one hq e e2
      | exact lit_ne p p2 (by decide)
      | exact lit_out p p2 (by decide)
      | exact lit_out p2 p (by decide)
