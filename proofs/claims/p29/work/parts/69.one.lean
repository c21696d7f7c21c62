/-! ===== one answer: count ===== -/
theorem nI_lit {x : Int32} {j a : Nat} (ha : a < 2 ^ 31) (hj : j < 5) (h : x = nI (6 + j)) (h2 : x = nI a) (h3 : a < 6 ∨ 10 < a) {C : Prop} : C := absurd (nI_inj (by omega) ha (h.symm.trans h2)) (by omega)
theorem nI_outc {x : Int32} {j : Nat} (hj : j < 5) (h : x = nI (6 + j)) (h2 : Out x 0 12) {C : Prop} : C := by
  subst h
  rcases h2 with q | q
  · rw [nI_toInt (by omega)] at q; omega
  · rw [nI_toInt (by omega)] at q; omega
theorem aCount_one {g : Nat → Nat → Int32} {n q : Nat} {tl : Int32} {np : Nat} {x r r2 : Int32} (h : aCount g n q tl np x r) (h2 : aCount g n q tl np x r2) : r = r2 := by
  rcases h with ⟨p, e⟩ | ⟨p, e⟩ | ⟨p, e⟩ | ⟨p, z, hz, e⟩ | ⟨p, z, hz, e⟩ | ⟨p, e⟩ | ⟨j, hj, p, e⟩ | ⟨p, e⟩ | ⟨p, e⟩ | ⟨p, e⟩ <;> rcases h2 with ⟨p2, e2⟩ | ⟨p2, e2⟩ | ⟨p2, e2⟩ | ⟨p2, y, hy, e2⟩ | ⟨p2, y, hy, e2⟩ | ⟨p2, e2⟩ | ⟨i, hi, p2, e2⟩ | ⟨p2, e2⟩ | ⟨p2, e2⟩ | ⟨p2, e2⟩ <;>
    first
      | exact e.trans e2.symm
      | (have := hz.one hy; subst this; exact e.trans e2.symm)
      | (have : j = i := by have := nI_inj (by omega) (by omega) (p.symm.trans p2); omega
         subst this; exact e.trans e2.symm)
      | exact lit_ne p p2 (by decide)
      | exact lit_out p p2 (by decide)
      | exact lit_out p2 p (by decide)
      | exact nI_outc hj p p2
      | exact nI_outc hi p2 p
      | exact nI_lit (a := 0) (by decide) hj p p2 (by decide)
      | exact nI_lit (a := 1) (by decide) hj p p2 (by decide)
      | exact nI_lit (a := 2) (by decide) hj p p2 (by decide)
      | exact nI_lit (a := 3) (by decide) hj p p2 (by decide)
      | exact nI_lit (a := 4) (by decide) hj p p2 (by decide)
      | exact nI_lit (a := 5) (by decide) hj p p2 (by decide)
      | exact nI_lit (a := 11) (by decide) hj p p2 (by decide)
      | exact nI_lit (a := 12) (by decide) hj p p2 (by decide)
      | exact nI_lit (a := 0) (by decide) hi p2 p (by decide)
      | exact nI_lit (a := 1) (by decide) hi p2 p (by decide)
      | exact nI_lit (a := 2) (by decide) hi p2 p (by decide)
      | exact nI_lit (a := 3) (by decide) hi p2 p (by decide)
      | exact nI_lit (a := 4) (by decide) hi p2 p (by decide)
      | exact nI_lit (a := 5) (by decide) hi p2 p (by decide)
      | exact nI_lit (a := 11) (by decide) hi p2 p (by decide)
      | exact nI_lit (a := 12) (by decide) hi p2 p (by decide)
