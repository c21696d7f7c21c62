/-! ===== answers as functions; the law's tale of a state ===== -/
noncomputable def ans (P : Int32 → Prop) : Int32 := Classical.epsilon P
theorem ans_eq {P : Int32 → Prop} {r : Int32} (h : P r) (u : ∀ r r2, P r → P r2 → r = r2) : r = ans P := u _ _ h (Classical.epsilon_spec ⟨r, h⟩)
noncomputable def fC (g : Nat → Nat → Int32) (n q : Nat) (x : Int32) : Int32 := ans (aCount g n q (nI 0) 0 x)
noncomputable def fB (g : Nat → Nat → Int32) (n q : Nat) (x w : Int32) : Int32 := ans (aBay g n q x w)
noncomputable def fR (g : Nat → Nat → Int32) (q : Nat) (x w : Int32) : Int32 := ans (aRes g q x w)
noncomputable def fS (g : Nat → Nat → Int32) (tn tu : Nat) (t x w : Int32) : Int32 := ans (aStep g tn tu t x w)
noncomputable def fK (g : Nat → Nat → Int32) (n q tn tu : Nat) (x w : Int32) : Int32 := ans (aCar g n q tn tu x w)
noncomputable def fA (g : Nat → Nat → Int32) (x : Int32) : Int32 := ans (aAcc g x)
theorem aCount_np {g : Nat → Nat → Int32} {n q : Nat} {tl : Int32} {np : Nat} {x r : Int32} (h : aCount g n q tl np x r) (hx : ¬ x = 12) : aCount g n q tl 0 x r := by
  rcases h with h | h | h | h | h | h | h | h | h | h
  · exact Or.inl h
  · exact Or.inr (Or.inl h)
  · exact Or.inr (Or.inr (Or.inl h))
  · exact Or.inr (Or.inr (Or.inr (Or.inl h)))
  · exact Or.inr (Or.inr (Or.inr (Or.inr (Or.inl h))))
  · exact Or.inr (Or.inr (Or.inr (Or.inr (Or.inr (Or.inl h)))))
  · exact Or.inr (Or.inr (Or.inr (Or.inr (Or.inr (Or.inr (Or.inl h))))))
  · exact Or.inr (Or.inr (Or.inr (Or.inr (Or.inr (Or.inr (Or.inr (Or.inl h)))))))
  · exact absurd h.1 hx
  · exact Or.inr (Or.inr (Or.inr (Or.inr (Or.inr (Or.inr (Or.inr (Or.inr (Or.inr h))))))))
theorem fC_eq {g : Nat → Nat → Int32} {n q np : Nat} {x r : Int32} (hx : ¬ x = 12) (h : aCount g n q (nI 0) np x r) : r = fC g n q x := ans_eq (aCount_np h hx) (fun _ _ => aCount_one)
theorem fB_eq {g : Nat → Nat → Int32} {n q : Nat} {x w r : Int32} (hn : n < 2 ^ 31) (h : aBay g n q x w r) : r = fB g n q x w := ans_eq h (fun _ _ => aBay_one hn)
theorem fR_eq {g : Nat → Nat → Int32} {q : Nat} {x w r : Int32} (hq : q < 2 ^ 31) (h : aRes g q x w r) : r = fR g q x w := ans_eq h (fun _ _ => aRes_one hq)
theorem fS_eq {g : Nat → Nat → Int32} {tn tu : Nat} {t x w r : Int32} (hn : tn < 2 ^ 31) (hu : tu < 2 ^ 31) (h : aStep g tn tu t x w r) : r = fS g tn tu t x w := ans_eq h (fun _ _ => aStep_one hn hu)
theorem fK_eq {g : Nat → Nat → Int32} {n q tn tu : Nat} {x w r : Int32} (hq : q < 2 ^ 31) (h : aCar g n q tn tu x w r) : r = fK g n q tn tu x w := ans_eq h (fun _ _ => aCar_one hq)
theorem fA_eq {g : Nat → Nat → Int32} {x r : Int32} (h : aAcc g x r) : r = fA g x := ans_eq h (fun _ _ => aAcc_one)
/-- a sum that goes on, number by number -/
def It (f : Nat → Int64 → Int64) (x : Int64) : Nat → Int64
  | 0 => x
  | k + 1 => f k (It f x k)
noncomputable def rz (g : Nat → Nat → Int32) (q i j : Nat) : Int64 := if j < 6 then 11 * (fR g q (nI i) (nI j)).toInt64 else 0
noncomputable abbrev i1 (g : Nat → Nat → Int32) (n q : Nat) : Nat → Int64 := It (fun i x => x * 31 + (fC g n q (nI i)).toInt64) 3
noncomputable abbrev i2b (g : Nat → Nat → Int32) (n q i : Nat) (x : Int64) : Nat → Int64 := It (fun j x => x * 37 + (fB g n q (nI i) (nI j)).toInt64 + rz g q i j) x
noncomputable abbrev i2 (g : Nat → Nat → Int32) (n q : Nat) : Nat → Int64 := It (fun i x => i2b g n q i x 7) (i1 g n q 12)
noncomputable abbrev i3b (g : Nat → Nat → Int32) (tn tu i : Nat) (x : Int64) : Nat → Int64 := It (fun j x => x * 41 + (fS g tn tu (nI i) (nI j) 0).toInt64 + 3 * (fS g tn tu (nI i) (nI j) 1).toInt64 + 5 * (fS g tn tu (nI i) (nI j) 2).toInt64) x
noncomputable abbrev i3 (g : Nat → Nat → Int32) (n q tn tu : Nat) : Nat → Int64 := It (fun i x => i3b g tn tu i x 5) (i2 g n q 8)
noncomputable abbrev i4b (g : Nat → Nat → Int32) (n q tn tu i : Nat) (x : Int64) : Nat → Int64 := It (fun j x => x * 43 + (fK g n q tn tu (nI (i + 1)) (nI j)).toInt64) x
noncomputable abbrev i4 (g : Nat → Nat → Int32) (n q tn tu : Nat) : Nat → Int64 := It (fun i x => i4b g n q tn tu i x 6) (i3 g n q tn tu 2)
noncomputable def tale (g : Nat → Nat → Int32) (n q tn tu : Nat) : Int64 := i4 g n q tn tu 7 + 47 * (fA g 0).toInt64 + 53 * (fA g 1).toInt64 + 59 * (fA g 2).toInt64 + 61 * (fA g 3).toInt64
