/-! ===== rows that stand with the text and the reference in whole ===== -/
/-- the numbers of bays, of reservations, of steps -/
abbrev Nums (g : Nat → Nat → Int32) (n q tn tu : Nat) : Prop := g 3 0 = nI n ∧ n ≤ 30 ∧ g 12 0 = nI q ∧ q ≤ 16 ∧ g 19 0 = nI tn ∧ tn ≤ 5 ∧ g 23 0 = nI tu ∧ tu ≤ 5
abbrev Nn (x : Int32) : Prop := 0 ≤ x ∧ x ≤ 60000
theorem nn_nI {k : Nat} (h : k ≤ 60000) : Nn (nI k) := ⟨nI_pos' (by omega), nI_le (b := 60000) h (by decide)⟩
theorem aUs_rng {g : Nat → Nat → Int32} {n q : Nat} {x sz r : Int32} (h : aUs g n q x sz r) : r = -9 ∨ ∃ w, w < q ∧ r = nI w ∧ ∃ i, i < n ∧ g 14 w = nI i := by
  obtain ⟨z, -, h⟩ := h
  rcases h with ⟨-, h⟩ | ⟨w, hw, hz, h⟩
  · exact Or.inl h
  · rcases h with ⟨⟨i, hi, he, -⟩, h⟩ | ⟨-, h⟩
    · exact Or.inr ⟨w, hw, h.trans hz, i, hi, he⟩
    · exact Or.inl h
