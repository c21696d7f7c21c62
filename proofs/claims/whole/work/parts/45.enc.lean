/-! ===== the reference's row of numbers, as a function of the same state g (and of how many cars have left) ===== -/
def bR (w : Nat) : Nat := match w with
  | 0 => 4
  | 1 => 5
  | 2 => 6
  | 3 => 7
  | 4 => 8
  | 5 => 10
  | 6 => 11
  | _ => 9
/-- places 0 to 45: row and place in it -/
def pos0 (i : Nat) : Nat × Nat := [(0, 0), (3, 0), (12, 0), (0, 1), (0, 0), (1, 0), (1, 1), (1, 2), (1, 3), (1, 4), (2, 0), (2, 1), (2, 2), (2, 3), (19, 0), (20, 0), (21, 0), (22, 0), (20, 1), (21, 1), (22, 1), (20, 2), (21, 2), (22, 2), (20, 3), (21, 3), (22, 3), (20, 4), (21, 4), (22, 4), (23, 0), (24, 0), (25, 0), (26, 0), (24, 1), (25, 1), (26, 1), (24, 2), (25, 2), (26, 2), (24, 3), (25, 3), (26, 3), (24, 4), (25, 4), (26, 4)].getD i (0, 0)
def posR (i : Nat) : Nat × Nat := if i < 46 then pos0 i else if i < 142 then (13 + (i - 46) % 6, (i - 46) / 6) else (bR ((i - 142) % 8), (i - 142) / 8)
def enc (g : Nat → Nat → Int32) (lf : Int32) : Nat → Int32 := fun i => if i = 4 then lf else g (posR i).1 (posR i).2
/-- the way back -/
def posI (r k : Nat) : Nat := match r with
  | 0 => if k = 0 then 0 else 3
  | 1 => 5 + k
  | 2 => 10 + k
  | 3 => 1
  | 12 => 2
  | 19 => 14
  | 20 => 15 + 3 * k
  | 21 => 16 + 3 * k
  | 22 => 17 + 3 * k
  | 23 => 30
  | 24 => 31 + 3 * k
  | 25 => 32 + 3 * k
  | 26 => 33 + 3 * k
  | 13 => 46 + 6 * k
  | 14 => 47 + 6 * k
  | 15 => 48 + 6 * k
  | 16 => 49 + 6 * k
  | 17 => 50 + 6 * k
  | 18 => 51 + 6 * k
  | 4 => 142 + 8 * k
  | 5 => 143 + 8 * k
  | 6 => 144 + 8 * k
  | 7 => 145 + 8 * k
  | 8 => 146 + 8 * k
  | 10 => 147 + 8 * k
  | 11 => 148 + 8 * k
  | _ => 149 + 8 * k
theorem lt6 {P : Nat → Prop} (h0 : P 0) (h1 : P 1) (h2 : P 2) (h3 : P 3) (h4 : P 4) (h5 : P 5) : ∀ i, i < 6 → P i := by
  intro i hi
  rcases (show i = 0 ∨ i = 1 ∨ i = 2 ∨ i = 3 ∨ i = 4 ∨ i = 5 by omega) with rfl | rfl | rfl | rfl | rfl | rfl <;> assumption
theorem lt8 {P : Nat → Prop} (h0 : P 0) (h1 : P 1) (h2 : P 2) (h3 : P 3) (h4 : P 4) (h5 : P 5) (h6 : P 6) (h7 : P 7) : ∀ i, i < 8 → P i := by
  intro i hi
  rcases (show i = 0 ∨ i = 1 ∨ i = 2 ∨ i = 3 ∨ i = 4 ∨ i = 5 ∨ i = 6 ∨ i = 7 by omega) with rfl | rfl | rfl | rfl | rfl | rfl | rfl | rfl <;> assumption
theorem posI_R (i : Nat) (hi : i ≠ 4) : posI (posR i).1 (posR i).2 = i := by
  unfold posR
  by_cases h1 : i < 46
  · rw [if_pos h1]
    have h : ∀ i, i < 46 → i ≠ 4 → posI (pos0 i).1 (pos0 i).2 = i := by decide +kernel
    exact h i h1 hi
  · rw [if_neg h1]
    by_cases h2 : i < 142
    · rw [if_pos h2]
      have hq : i = 46 + 6 * ((i - 46) / 6) + (i - 46) % 6 := by omega
      have key : ∀ w, w < 6 → ∀ k, posI (13 + w) k = 46 + 6 * k + w := lt6 (fun k => rfl) (fun k => by show 47 + 6 * k = _; omega) (fun k => by show 48 + 6 * k = _; omega) (fun k => by show 49 + 6 * k = _; omega) (fun k => by show 50 + 6 * k = _; omega) (fun k => by show 51 + 6 * k = _; omega)
      dsimp only
      rw [key _ (by omega)]
      exact hq.symm
    · rw [if_neg h2]
      have hq : i = 142 + 8 * ((i - 142) / 8) + (i - 142) % 8 := by omega
      have key : ∀ w, w < 8 → ∀ k, posI (bR w) k = 142 + 8 * k + w := lt8 (fun k => rfl) (fun k => by show 143 + 8 * k = _; omega) (fun k => by show 144 + 8 * k = _; omega) (fun k => by show 145 + 8 * k = _; omega) (fun k => by show 146 + 8 * k = _; omega) (fun k => by show 147 + 8 * k = _; omega) (fun k => by show 148 + 8 * k = _; omega) (fun k => by show 149 + 8 * k = _; omega)
      dsimp only
      rw [key _ (by omega)]
      exact hq.symm
/-- a number in the row is new -/
theorem enc_up {g : Nat → Nat → Int32} {lf : Int32} {i : Nat} {v : Int32} (r k : Nat) (hi : i ≠ 4) (h : posR i = (r, k)) : upd (enc g lf) i v = enc (w2 g r (upd (g r) k v)) lf := by
  have e1 : (posR i).1 = r := by rw [h]
  have e2 : (posR i).2 = k := by rw [h]
  funext j
  by_cases hj : j = i
  · subst hj
    rw [updE]
    unfold enc w2
    rw [if_neg hi, e1, e2, show Nat.beq r r = true from Nat.beq_refl r]
    show v = upd (g r) k v k
    rw [updE]
  · rw [updN hj]
    unfold enc
    by_cases h4 : j = 4
    · rw [if_pos h4, if_pos h4]
    · rw [if_neg h4, if_neg h4]
      unfold w2
      by_cases hr : (posR j).1 = r
      · have hk : (posR j).2 ≠ k := fun hk => hj (by rw [← posI_R j h4, ← posI_R i hi, hr, hk, e1, e2])
        rw [hr, show Nat.beq r r = true from Nat.beq_refl r]
        show g r (posR j).2 = upd (g r) k v (posR j).2
        rw [updN hk]
      · rw [show Nat.beq (posR j).1 r = false from by
          cases hb : Nat.beq (posR j).1 r with
          | false => rfl
          | true => exact absurd (Nat.eq_of_beq_eq_true hb) hr]
        rfl
theorem enc_up4 {g : Nat → Nat → Int32} {lf v : Int32} : upd (enc g lf) 4 v = enc g v := by
  funext j
  unfold upd enc
  by_cases h : j = 4
  · rw [if_pos h, if_pos h]
  · rw [if_neg h, if_neg h, if_neg h]
theorem posR_bay {k w : Nat} (hw : w < 8) : posR (142 + 8 * k + w) = (bR w, k) := by
  unfold posR
  rw [if_neg (by omega), if_neg (by omega), show (142 + 8 * k + w - 142) % 8 = w by omega, show (142 + 8 * k + w - 142) / 8 = k by omega]
theorem posR_res {k w : Nat} (hk : k < 16) (hw : w < 6) : posR (46 + 6 * k + w) = (13 + w, k) := by
  unfold posR
  rw [if_neg (by omega), if_pos (by omega), show (46 + 6 * k + w - 46) % 6 = w by omega, show (46 + 6 * k + w - 46) / 6 = k by omega]
theorem posR_num {k : Nat} (hk : k < 5) : posR (5 + k) = (1, k) := by
  have h : ∀ k, k < 5 → posR (5 + k) = (1, k) := by decide +kernel
  exact h k hk
theorem posR_acc {k : Nat} (hk : k < 4) : posR (10 + k) = (2, k) := by
  have h : ∀ k, k < 4 → posR (10 + k) = (2, k) := by decide +kernel
  exact h k hk
theorem posR_tn {t : Nat} (ht : t < 2) : posR (14 + 16 * t) = (19 + 4 * t, 0) := by
  have h : ∀ t, t < 2 → posR (14 + 16 * t) = (19 + 4 * t, 0) := by decide +kernel
  exact h t ht
theorem posR_tar {t k w : Nat} (ht : t < 2) (hk : k < 5) (hw : w < 3) : posR (14 + 16 * t + (1 + w) + 3 * k) = (19 + 4 * t + (1 + w), k) := by
  have h : ∀ t, t < 2 → ∀ k, k < 5 → ∀ w, w < 3 → posR (14 + 16 * t + (1 + w) + 3 * k) = (19 + 4 * t + (1 + w), k) := by decide +kernel
  exact h t ht k hk w hw
theorem enc_at {g : Nat → Nat → Int32} {lf : Int32} {i r k : Nat} (hi : i ≠ 4) (h : posR i = (r, k)) : enc g lf i = g r k := by
  unfold enc
  rw [if_neg hi, h]
theorem enc_bay {g : Nat → Nat → Int32} {lf : Int32} {k w : Nat} (hw : w < 8) : enc g lf (142 + 8 * k + w) = g (bR w) k := enc_at (by omega) (posR_bay hw)
theorem enc_res {g : Nat → Nat → Int32} {lf : Int32} {k w : Nat} (hk : k < 16) (hw : w < 6) : enc g lf (46 + 6 * k + w) = g (13 + w) k := enc_at (by omega) (posR_res hk hw)
/-- the reference: its object's cell -/
abbrev mO (m : Nat → Nat) (fi : Nat → Int32) (wd : Int64) : Nat × va_E := (m 0, oE 7 [.ref (m 1), .ref (m 2), .int (fi 0), .ref (m 3), .ref (m 4), .int (fi 1), .int (fi 2), .int (fi 3), .long wd, .int (fi 4), .int (fi 5)])
-- a boolean that is gathered
theorem yes_or1 {P : Nat → Prop} {i : Nat} {z : Int32} (h : Yes (∃ w, w < i ∧ P w) z) (c : z ≠ 0) : Yes (∃ w, w < i + 1 ∧ P w) 1 := by
  rcases h with ⟨-, w, h1, h2⟩ | ⟨h1, -⟩
  · exact Or.inl ⟨rfl, w, by omega, h2⟩
  · exact absurd h1 c
theorem yes_or2 {P : Nat → Prop} {i : Nat} (h : P i) : Yes (∃ w, w < i + 1 ∧ P w) 1 := Or.inl ⟨rfl, i, by omega, h⟩
theorem yes_or3 {P : Nat → Prop} {i : Nat} {z : Int32} (h : Yes (∃ w, w < i ∧ P w) z) (c : z = 0) (hn : ¬ P i) : Yes (∃ w, w < i + 1 ∧ P w) 0 := by
  rcases h with ⟨h1, -⟩ | ⟨-, h2⟩
  · rw [h1] at c; exact absurd c (by decide)
  · refine Or.inr ⟨rfl, fun ⟨w, h3, h4⟩ => ?_⟩
    rcases Nat.lt_or_ge w i with q | q
    · exact h2 ⟨w, q, h4⟩
    · have : w = i := by omega
      subst this; exact hn h4
theorem yes_or0 {P : Nat → Prop} : Yes (∃ w, w < 0 ∧ P w) 0 := Or.inr ⟨rfl, fun ⟨w, h, _⟩ => absurd h (Nat.not_lt_zero w)⟩
theorem Yes.nar {P : Prop} {r : Int32} (h : Yes P r) : narrow .boolean (.int r) = .int r := by
  rcases h with ⟨rfl, -⟩ | ⟨rfl, -⟩ <;> rfl
/-- a place among n, as the reference asks for it -/
theorem ix_within {x : Int32} {n : Nat} (hn : n < 1000) : (0 ≤ x ∧ x ≤ nI n - 1) ↔ ∃ k, k < n ∧ x = nI k := by
  constructor
  · rintro ⟨h1, h2⟩
    rcases pk_ix x (n := n) (by omega) with q | q | q
    · exact absurd q (Int32.not_lt.mpr h1)
    · exfalso
      have h3 := Int32.le_iff_toInt_le.mp (Int32.le_trans q h2)
      rw [nI_toInt (by omega), show (nI n - 1).toInt = (n : Int) - 1 from by
        rw [show (1 : Int32) = nI 1 from rfl]
        have := pk_sub_toInt (a := n) (b := 1) (by omega) (by omega)
        simpa using this] at h3
      omega
    · exact q
  · rintro ⟨k, hk, rfl⟩
    refine ⟨nI_pos' (by omega), ?_⟩
    rw [show (1 : Int32) = nI 1 from rfl, pk_sub (by omega)]
    exact nI_le (by omega) (by omega)
