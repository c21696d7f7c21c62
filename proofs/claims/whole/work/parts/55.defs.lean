/-! ===== the reference's calls that write: what they leave ===== -/
abbrev MWT : Type := (Nat → Nat → Int32) × Int32 × Nat × (Nat → Nat → Nat → Int32) × (Nat → Int32) × (Nat → Int32)
/-- behind a call of the reference: nothing has changed, or g is saved and the state is new -/
def SvM (g : Nat → Nat → Int32) (lf lf2 : Int32) (np : Nat) (hs : Nat → Nat → Nat → Int32) (lfs Pp : Nat → Int32) (o : Option (Nat → Nat → Int32)) (u : MWT) : Prop :=
  (o = none ∧ u = (g, lf, np, hs, lfs, Pp)) ∨ ∃ g2, o = some g2 ∧ u.1 = g2 ∧ u.2.1 = lf2 ∧ Sv np hs lfs g lf u.2.2.1 u.2.2.2.1 u.2.2.2.2.1 ∧ PRel u.2.2.2.2.2 u.2.2.1 u.2.2.2.1 u.2.2.2.2.1
/-- characters as bytes -/
def bt (f : Nat → Int32) : Nat → Int32 := fun i => (f i).toInt8.toInt32
theorem bt_up {f : Nat → Int32} {L : Nat} {x : Int32} : upd (bt f) L x.toInt8.toInt32 = bt (upd f L x) := by
  funext j
  unfold bt upd
  by_cases h : j = L
  · rw [if_pos h, if_pos h]
  · rw [if_neg h, if_neg h]
theorem le_succ {b e : Int32} (h : b ≤ 20000) : b + 1 ≤ e ↔ ¬ e ≤ b := by
  have h2 : b < 2147483647 := by
    rw [Int32.lt_iff_toInt_lt]
    rw [Int32.le_iff_toInt_le] at h
    have e1 : (20000 : Int32).toInt = 20000 := by decide
    have e2 : (2147483647 : Int32).toInt = 2147483647 := by decide
    omega
  rw [Int32.le_iff_toInt_le, Int32.le_iff_toInt_le, i_add1 h2]
  omega
theorem Wlk.rng {c : Nat → Int32 → Prop} : ∀ {n : Nat} {z : Int32}, Wlk (-9) (Imp c nI) n z → z = -9 ∨ ∃ k, k < n ∧ z = nI k
  | 0, z, h => Or.inl h
  | n + 1, z, ⟨y, hy, hs⟩ => by
    rcases hs with ⟨-, h⟩ | ⟨-, h⟩
    · exact Or.inr ⟨n, by omega, h⟩
    · rcases Wlk.rng hy with q | ⟨k, hk, q⟩
      · exact Or.inl (h.trans q)
      · exact Or.inr ⟨k, by omega, h.trans q⟩
theorem aUs_rng {g : Nat → Nat → Int32} {n q : Nat} {x sz r : Int32} (h : aUs g n q x sz r) : r = -9 ∨ ∃ w, w < q ∧ r = nI w ∧ ∃ i, i < n ∧ g 14 w = nI i := by
  obtain ⟨z, -, h⟩ := h
  rcases h with ⟨-, h⟩ | ⟨w, hw, hz, h⟩
  · exact Or.inl h
  · rcases h with ⟨⟨i, hi, he, -⟩, h⟩ | ⟨-, h⟩
    · exact Or.inr ⟨w, hw, h.trans hz, i, hi, he⟩
    · exact Or.inl h
theorem w2_self {G : Nat → Nat → Int32} {r : Nat} : w2 G r (G r) = G := by
  funext k
  unfold w2
  cases h : Nat.beq k r with
  | false => rfl
  | true =>
    have : k = r := Nat.eq_of_beq_eq_true h
    subst this
    rfl
theorem re_eq {G : Nat → Nat → Int32} {a b c d e f h i : Nat → Int32} : w2 (w2 (w2 (w2 (w2 (w2 (w2 (w2 G 12 a) 13 b) 14 c) 15 d) 16 e) 17 f) 18 h) 2 i = w2 (w2 (w2 (w2 (w2 (w2 (w2 (w2 G 2 i) 12 a) 13 b) 14 c) 15 d) 16 e) 17 f) 18 h := by
  rw [w2_comm (r1 := 18) (r2 := 2) rfl, w2_comm (r1 := 17) (r2 := 2) rfl, w2_comm (r1 := 16) (r2 := 2) rfl, w2_comm (r1 := 15) (r2 := 2) rfl, w2_comm (r1 := 14) (r2 := 2) rfl, w2_comm (r1 := 13) (r2 := 2) rfl, w2_comm (r1 := 12) (r2 := 2) rfl]
theorem tV_i0 : tV (w2 z2 1 nums0) 0 = z2 := by
  funext k j
  show w2 z2 1 nums0 (19 + 4 * 0 + k) j = 0
  unfold w2
  rw [show Nat.beq (19 + 4 * 0 + k) 1 = false from by
    cases h : Nat.beq (19 + 4 * 0 + k) 1 with
    | false => rfl
    | true => have := Nat.eq_of_beq_eq_true h; omega]
  rfl
theorem tV_i1 {u : Nat → Nat → Int32} : tV (wblk (w2 z2 1 nums0) 19 4 u) 1 = z2 := by
  funext k j
  show wblk (w2 z2 1 nums0) 19 4 u (19 + 4 * 1 + k) j = 0
  rw [wblk_out (fun w hw => by omega)]
  unfold w2
  rw [show Nat.beq (19 + 4 * 1 + k) 1 = false from by
    cases h : Nat.beq (19 + 4 * 1 + k) 1 with
    | false => rfl
    | true => have := Nat.eq_of_beq_eq_true h; omega]
  rfl
