/-! ===== the text (never written here), and setNumber ===== -/
abbrev wXk (cC : ClassId) (x : Nat → Nat) (L k s e : Nat) (f : Nat → Int32) : va_W := [(x 0, oE 5 [.int (nI L), .ref (x 1), .int (nI k), .int (nI s), .int (nI e)]), (x 1, cE cC 120 f)]
def OsetNumber (g : Nat → Nat → Int32) (wh v r : Int32) (o : Option (Nat → Nat → Int32)) : Prop := Ch (∃ k, k < 5 ∧ wh = nI k ∧ leastF k ≤ v ∧ v ≤ greatF k) (∃ k, k < 5 ∧ wh = nI k ∧ r = g 1 k ∧ o = some (w2 g 1 (upd (g 1) k v))) (No r (-1) o)
