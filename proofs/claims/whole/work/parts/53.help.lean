/-! ===== words for the reference's reading calls ===== -/
theorem wi01_iff {x : Int32} : (0 ≤ x ∧ x ≤ 1) ↔ (x = 0 ∨ x = 1) := ⟨wi01, fun h => by rcases h with rfl | rfl <;> decide⟩
theorem out_of {x : Int32} {lo hi : Int32} (h : ¬ (lo ≤ x ∧ x ≤ hi)) : Out x lo.toInt hi.toInt := by
  by_cases h1 : x.toInt < lo.toInt
  · exact Or.inl h1
  · right
    rcases Int.lt_or_le hi.toInt x.toInt with q | q
    · exact q
    · exact absurd ⟨Int32.le_iff_toInt_le.mpr (by omega), Int32.le_iff_toInt_le.mpr q⟩ h
theorem in_of {x : Int32} {lo hi : Int32} (h : Out x lo.toInt hi.toInt) : ¬ (lo ≤ x ∧ x ≤ hi) := by
  rintro ⟨h1, h2⟩
  rw [Int32.le_iff_toInt_le] at h1 h2
  rcases h with q | q <;> omega
theorem nn_nI {k : Nat} (h : k ≤ 60000) : Nn (nI k) := ⟨nI_pos' (by omega), nI_le (b := 60000) h (by decide)⟩
theorem nn_add {t : Int32} {T k : Nat} (ht : t = nI T) (h : T + k ≤ 60000) : Nn (t + nI k) := by
  subst ht
  rw [nI_add]
  exact nn_nI h
theorem i_add_n1 {t : Int32} {i : Nat} : t + nI i + 1 = t + nI (i + 1) := by rw [Int32.add_assoc, nI_1]
theorem last_of {t : Int32} {T : Nat} (ht : t = nI T) (hT : T ≤ 20000) : (if 20000 < t + 1440 then 20000 else t + 1440) = nI (min 20000 (T + 1440)) := by
  subst ht
  rw [show (1440 : Int32) = nI 1440 from rfl, nI_add, show (20000 : Int32) = nI 20000 from rfl]
  by_cases h : nI 20000 < nI (T + 1440)
  · rw [if_pos h]
    have := (nI_ltI (by omega) (by omega)).mp h
    rw [Nat.min_eq_left (by omega)]
  · rw [if_neg h]
    rcases Nat.lt_or_ge 20000 (T + 1440) with q | q
    · exact absurd (nI_lt q (by omega)) h
    · rw [Nat.min_eq_right q]
/-- the reference's search for a begin, minute by minute -/
def mEarl (g : Nat → Nat → Int32) (n q : Nat) (sz mi : Int32) (T : Nat) (r : Int32) : Prop :=
  (∃ b, T ≤ b ∧ b ≤ min 20000 (T + 1440) ∧ (∃ z, aFor g n q sz (nI b) (nI b + mi) z ∧ ¬ z = -9) ∧ (∀ a, T ≤ a → a < b → ∃ z, aFor g n q sz (nI a) (nI a + mi) z ∧ z = -9) ∧ r = nI b) ∨ ((∀ a, T ≤ a → a ≤ min 20000 (T + 1440) → ∃ z, aFor g n q sz (nI a) (nI a + mi) z ∧ z = -9) ∧ r = -9)
def mEarliest (g : Nat → Nat → Int32) (n q : Nat) (sz mi : Int32) (T : Nat) (r : Int32) : Prop := Ch (Wi sz 0 2 ∧ Wi mi 1 1440) (Ch (q = 16) (r = -9) (mEarl g n q sz mi T r)) (r = -1)
theorem posR_lit0 {k w : Nat} (hk : k < 5) (hw : w < 3) : posR (15 + 3 * k + w) = (20 + w, k) := by
  have h : ∀ k, k < 5 → ∀ w, w < 3 → posR (15 + 3 * k + w) = (20 + w, k) := by decide +kernel
  exact h k hk w hw
theorem posR_lit1 {k w : Nat} (hk : k < 5) (hw : w < 3) : posR (31 + 3 * k + w) = (24 + w, k) := by
  have h : ∀ k, k < 5 → ∀ w, w < 3 → posR (31 + 3 * k + w) = (24 + w, k) := by decide +kernel
  exact h k hk w hw
theorem wi_610 {x : Int32} (h : 6 ≤ x ∧ x ≤ 10) : ∃ j, j < 5 ∧ x = nI (6 + j) := by
  obtain ⟨k, hk, rfl⟩ := wi_ix (N := 10) (by omega) ⟨Int32.le_trans (by decide) h.1, h.2⟩
  have := (nI_leI (a := 6) (b := k) (by omega) (by omega)).mp h.1
  exact ⟨k - 6, by omega, by rw [show 6 + (k - 6) = k by omega]⟩
theorem wi_k {x : Int32} {N : Nat} (hN : N < 60000) (h : 0 ≤ x ∧ x ≤ nI N) : ∃ k, k < N + 1 ∧ x = nI k := wi_ix (by omega) h
theorem Fst.got9 {P : Nat → Prop} {n : Nat} {r : Int32} (h : Fst P n r) (c : ¬ r = -9) : ∃ k, k < n ∧ r = nI k ∧ P k ∧ ∀ j, j < k → ¬ P j := by
  rcases h.cases with q | ⟨h1, -⟩
  · exact q
  · exact absurd h1 c
theorem Fst.no9 {P : Nat → Prop} {n : Nat} {r : Int32} (hn : n < 2 ^ 31) (h : Fst P n r) (c : r = -9) : ∀ j, j < n → ¬ P j := by
  rcases h.cases with ⟨k, h1, h2, -⟩ | ⟨-, h2⟩
  · exact absurd (c.symm.trans h2) (m9_ne h1 hn)
  · exact h2
