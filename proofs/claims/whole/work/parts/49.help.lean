/-! ===== more small words for the reference ===== -/
theorem tS_step1 {st un pr : Nat → Int32} {n i : Nat} {m z : Int32} (h : i + 1 < n) (hs : st i < m) (hu : 0 < un i) (hz : z = tS st un pr n m i) : z + pr i * (((if m < st (i + 1) then m else st (i + 1)) - st i + un i - 1) / un i) = tS st un pr n m (i + 1) := by
  show _ = tS st un pr n m i + (if st i < m then pr i * Un (tup st n m i - st i) (un i) else 0)
  rw [if_pos hs, hz, show Un (tup st n m i - st i) (un i) = (tup st n m i - st i + un i - 1) / un i from if_pos hu, show tup st n m i = (if st (i + 1) < m then st (i + 1) else m) from if_pos h, lesser_comm]
theorem tS_step2 {st un pr : Nat → Int32} {n i : Nat} {m z : Int32} (h : ¬ i + 1 < n) (hs : st i < m) (hu : 0 < un i) (hz : z = tS st un pr n m i) : z + pr i * ((m - st i + un i - 1) / un i) = tS st un pr n m (i + 1) := by
  show _ = tS st un pr n m i + (if st i < m then pr i * Un (tup st n m i - st i) (un i) else 0)
  rw [if_pos hs, hz, show Un (tup st n m i - st i) (un i) = (tup st n m i - st i + un i - 1) / un i from if_pos hu, show tup st n m i = m from if_neg h]
theorem tS_step0 {st un pr : Nat → Int32} {n i : Nat} {m z : Int32} (hs : ¬ st i < m) (hz : z = tS st un pr n m i) : z + 0 = tS st un pr n m (i + 1) := by
  show _ = tS st un pr n m i + (if st i < m then pr i * Un (tup st n m i - st i) (un i) else 0)
  rw [if_neg hs, hz]
theorem w2_89 {G : Nat → Nat → Int32} {a b c d : Nat → Int32} : w2 (w2 (w2 (w2 G 8 a) 10 c) 11 d) 9 b = w2 (w2 (w2 (w2 G 8 a) 9 b) 10 c) 11 d := by
  rw [w2_comm (r1 := 11) (r2 := 9) rfl, w2_comm (r1 := 10) (r2 := 9) rfl]
/-- the first i numbers of h in place of f's -/
def cp1 (f h : Nat → Int32) (i : Nat) : Nat → Int32 := fun j => if j < i then h j else f j
theorem cp1_0 {f h : Nat → Int32} : f = cp1 f h 0 := funext fun j => (if_neg (fun q => by omega)).symm
theorem cp1_at {f h : Nat → Int32} {i : Nat} : cp1 f h i i = f i := if_neg (fun q => by omega)
theorem cp1_s {f h : Nat → Int32} {i : Nat} {v : Int32} (hv : v = h i) : upd (cp1 f h i) i v = cp1 f h (i + 1) := by
  funext j
  unfold upd cp1
  by_cases hj : j = i
  · subst hj; rw [if_pos rfl, if_pos (by omega), hv]
  · rw [if_neg hj]
    by_cases h2 : j < i
    · rw [if_pos h2, if_pos (by omega)]
    · rw [if_neg h2, if_neg (fun q => h2 (by omega))]
theorem cp1_all {f h : Nat → Int32} {n j : Nat} (hj : j < n) : cp1 f h n j = h j := if_pos hj
/-- undo, of the reference -/
abbrev MU3 : Type := (Nat → Nat → Int32) × Int32 × Nat
def UndM (g : Nat → Nat → Int32) (lf : Int32) (np : Nat) (hs : Nat → Nat → Nat → Int32) (lfs : Nat → Int32) (r : Int32) (u : MU3) : Prop := (np = 0 ∧ r = -2 ∧ u = (g, lf, np)) ∨ (0 < np ∧ r = nI (np - 1) ∧ u = (hs (np - 1), lfs (np - 1), np - 1))
theorem fee_late {st un pr : Nat → Int32} {n : Nat} {t e : Int32} (h1 : Nn t) (h2 : Nn e) (h : t ≤ e) (h0 : ∀ j, j < n → 0 ≤ st j) : (0 : Int32) = tS st un pr n (t - e) n := (tS_neg (i_sub_le h1 h2 h) h0 n (Nat.le_refl n)).symm
theorem wi01 {x : Int32} (h : 0 ≤ x ∧ x ≤ 1) : x = 0 ∨ x = 1 := by
  obtain ⟨k, hk, rfl⟩ := wi_ix (N := 1) (by omega) h
  rcases (show k = 0 ∨ k = 1 by omega) with rfl | rfl
  · exact Or.inl rfl
  · exact Or.inr rfl
