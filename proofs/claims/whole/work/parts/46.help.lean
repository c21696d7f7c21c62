/-! ===== small words for the reference ===== -/
theorem alv_lt {x : Int32} (h : 0 ≤ x) : x < 2 ↔ (x = 0 ∨ x = 1) := by
  constructor
  · intro h2
    rw [Int32.le_iff_toInt_le] at h
    rw [Int32.lt_iff_toInt_lt] at h2
    have e0 : (0 : Int32).toInt = 0 := by decide
    have e1 : (1 : Int32).toInt = 1 := by decide
    have e2 : (2 : Int32).toInt = 2 := by decide
    rcases (show x.toInt = 0 ∨ x.toInt = 1 by omega) with q | q
    · exact Or.inl (Int32.toInt_inj.mp (by rw [q, e0]))
    · exact Or.inr (Int32.toInt_inj.mp (by rw [q, e1]))
  · rintro (rfl | rfl) <;> decide
theorem i_add1 {t : Int32} (h : t < 2147483647) : (t + 1).toInt = t.toInt + 1 := by
  rw [Int32.lt_iff_toInt_lt] at h
  have e : (2147483647 : Int32).toInt = 2147483647 := by decide
  have e1 : (1 : Int32).toInt = 1 := by decide
  have hb := Int32.le_toInt t
  rw [Int32.toInt_add, e1]
  apply Int.bmod_eq_of_le <;> omega
theorem le_lt1 {x t : Int32} (h : t < 30000) : x ≤ t ↔ x < t + 1 := by
  have h2 : t < 2147483647 := i_lt_trans h (by decide)
  rw [Int32.le_iff_toInt_le, Int32.lt_iff_toInt_lt, i_add1 h2]
  omega
theorem m9_nof {P : Nat → Prop} {n : Nat} {r : Int32} (hn : n < 2 ^ 31) (h : Fst P n r) (e : r = -9) : ¬ ∃ w, w < n ∧ P w := by
  rintro ⟨w, hw, hp⟩
  obtain ⟨k, hk, hr⟩ := (h.has hn).mpr ⟨w, hw, hp⟩
  exact m9_ne hk hn (e.symm.trans hr)
theorem m9_isf {P : Nat → Prop} {n : Nat} {r : Int32} (h : Fst P n r) (e : ¬ r = -9) : ∃ w, w < n ∧ P w := by
  rcases h.cases with ⟨k, h1, h2, h3, -⟩ | ⟨h1, -⟩
  · exact ⟨k, h1, h3⟩
  · exact absurd h1 e
theorem posR_next {t k : Nat} (ht : t < 2) (hk : k + 1 < 5) : posR (14 + 16 * t + 4 + 3 * k) = (19 + 4 * t + 1, k + 1) := by
  have h := posR_tar (t := t) (k := k + 1) (w := 0) ht hk (by omega)
  rw [show 14 + 16 * t + 4 + 3 * k = 14 + 16 * t + (1 + 0) + 3 * (k + 1) by omega]
  exact h
