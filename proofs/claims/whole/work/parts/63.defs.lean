/-! ===== load, of the reference ===== -/
abbrev MLT : Type := MWT × Nat × (Int32 × Int32 × Int32 × Int32 × Int64) × (Nat → Int32)
def OloadM (f : Nat → Int32) (L : Nat) (g : Nat → Nat → Int32) (lf : Int32) (np : Nat) (hs : Nat → Nat → Nat → Int32) (lfs Pp : Nat → Int32) (r : Int32) (u : MLT) : Prop :=
  ∃ d o, PAll f L d 0 0 g o ∧ ((∃ x, x ≤ 120 ∧ o = .inl x ∧ r = -10 - nI x ∧ u.1 = (g, lf, np, hs, lfs, Pp) ∧ u.2.1 = L) ∨ ∃ it g2, it ≤ 120 ∧ o = .inr (it, g2) ∧ r = nI it ∧ u.1.1 = g2 ∧ u.1.2.1 = lf ∧ Sv np hs lfs g lf u.1.2.2.1 u.1.2.2.2.1 u.1.2.2.2.2.1 ∧ PRel u.1.2.2.2.2.2 u.1.2.2.1 u.1.2.2.2.1 u.1.2.2.2.2.1 ∧ u.2.1 = 0)
