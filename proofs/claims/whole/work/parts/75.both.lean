/-! ===== behind a call of both sides: one state ===== -/
def LSt (g : Nat → Nat → Int32) (lf : Int32) (np : Nat) (hs : Nat → Nat → Nat → Int32) (lfs Pp : Nat → Int32) (L : Nat) (f : Nat → Int32) : Prop := OKs g lf ∧ np ≤ 6 ∧ (∀ i, i < np → OKs (hs i) (lfs i)) ∧ PRel Pp np hs lfs ∧ L ≤ 120 ∧ Chr f
section BOTH
variable {g : Nat → Nat → Int32} {lf lf2 r r2 : Int32} {np L : Nat} {b : Nat → Nat → Nat} {hs : Nat → Nat → Nat → Int32} {lfs Pp f : Nat → Int32}
theorem sav_ok {k k2 : Nat} {hs2 hs3 : Nat → Nat → Nat → Int32} {lfs2 : Nat → Int32} (h : LSt g lf np hs lfs Pp L f) (h1 : Sav np hs g k hs2) (h2 : Sv np hs lfs g lf k2 hs3 lfs2) : k2 = k ∧ hs3 = hs2 ∧ k ≤ 6 ∧ ∀ i, i < k → OKs (hs2 i) (lfs2 i) := by
  obtain ⟨hg, hnp, hh, -, -, -⟩ := h
  rcases h1 with ⟨a, rfl, rfl⟩ | ⟨a, rfl, rfl⟩ <;> rcases h2 with ⟨c, rfl, rfl, rfl⟩ | ⟨c, rfl, rfl, rfl⟩
  · refine ⟨rfl, rfl, by omega, fun i hi => ?_⟩
    unfold upH upd
    by_cases q : i = np
    · rw [if_pos q, if_pos q]; exact hg
    · rw [if_neg q, if_neg q]; exact hh i (by omega)
  · omega
  · omega
  · refine ⟨rfl, rfl, by omega, fun i hi => ?_⟩
    unfold upH upd
    by_cases q : i = 5
    · rw [if_pos q, if_pos q]; exact hg
    · rw [if_neg q, if_neg q]
      refine hh (rt6 i) ?_
      unfold rt6
      rw [if_neg q]
      omega
theorem sv_both {o : Option (Nat → Nat → Int32)} {u : PST} {v : MWT} (h : LSt g lf np hs lfs Pp L f) (hk : Kp o lf2) (h1 : SvP g np b hs o u) (h2 : SvM g lf lf2 np hs lfs Pp o v) : v.1 = u.1 ∧ v.2.2.1 = u.2.1 ∧ LSt u.1 v.2.1 u.2.1 u.2.2.2 v.2.2.2.2.1 v.2.2.2.2.2 L f := by
  rcases h1 with ⟨rfl, rfl⟩ | ⟨g2, rfl, rfl, h1⟩ <;> rcases h2 with ⟨e, rfl⟩ | ⟨g3, e, e1, e2, h2, h3⟩
  · exact ⟨rfl, rfl, h⟩
  · cases e
  · cases e
  · injection e with e
    subst e
    obtain ⟨q1, q2, q3, q4⟩ := sav_ok h h1 h2
    refine ⟨e1, q1, ?_, q3, q4, ?_, h.2.2.2.2.1, h.2.2.2.2.2⟩
    · rw [e2]; exact hk _ rfl
    · rw [← q1, ← q2]; exact h3
theorem load_both {u : LST} {v : MLT} (h : LSt g lf np hs lfs Pp L f) (h1 : Oload f L g np b hs r u) (h2 : OloadM f L g lf np hs lfs Pp r2 v) : r = r2 ∧ v.1.1 = u.1.1 ∧ v.1.2.2.1 = u.1.2.1 ∧ v.2.1 = u.2.1.1 ∧ LSt u.1.1 v.1.2.1 u.1.2.1 u.1.2.2.2 v.1.2.2.2.2.1 v.1.2.2.2.2.2 u.2.1.1 f := by
  obtain ⟨d, o, a, h1⟩ := h1
  obtain ⟨d2, o2, a2, h2⟩ := h2
  have e := a.one a2
  subst e
  have hk := kPAll h.1 a
  obtain ⟨u1, u2, u3⟩ := u
  obtain ⟨v1, v2, v3⟩ := v
  rcases h1 with ⟨x, hx, rfl, rfl, e1, e2⟩ | ⟨it, g2, hit, rfl, rfl, e1, h1, e2⟩ <;> rcases h2 with ⟨y, hy, e, rfl, f1, f2⟩ | ⟨it2, g3, hit2, e, rfl, f1, f2, h2, h3, f3⟩
  · injection e with e
    subst e
    have e1 : u1 = (g, np, b, hs) := e1
    have f1 : v1 = (g, lf, np, hs, lfs, Pp) := f1
    subst e1 f1
    have e2 : u2.1 = L := e2
    have f2 : v2 = L := f2
    subst f2
    refine ⟨rfl, rfl, rfl, e2.symm, ?_⟩
    show LSt g lf np hs lfs Pp u2.1 f
    rw [e2]
    exact h
  · cases e
  · cases e
  · injection e with e
    injection e with e3 e4
    subst e3 e4
    obtain ⟨q1, q2, q3, q4⟩ := sav_ok h h1 h2
    refine ⟨rfl, f1.trans e1.symm, q1, f3.trans e2.symm, ?_, q3, q4, ?_, ?_, h.2.2.2.2.2⟩
    · rcases hk with ⟨x, hx⟩ | ⟨e, g4, hg, hk⟩
      · cases hx
      · injection hg with hg
        injection hg with h5 h6
        subst h6
        rw [e1, f2]
        exact hk
    · rw [← q1, ← q2]; exact h3
    · rw [e2]; exact Nat.zero_le _
theorem und_both {u : PST} {v : MU3} (h : LSt g lf np hs lfs Pp L f) (h1 : Und g np b hs r u) (h2 : UndM g lf np hs lfs r2 v) : r = r2 ∧ v.1 = u.1 ∧ v.2.2 = u.2.1 ∧ LSt u.1 v.2.1 u.2.1 u.2.2.2 lfs Pp L f := by
  rcases h1 with ⟨a, rfl, rfl⟩ | ⟨a, rfl, rfl⟩ <;> rcases h2 with ⟨c, rfl, rfl⟩ | ⟨c, rfl, rfl⟩
  · exact ⟨rfl, rfl, rfl, h⟩
  · omega
  · omega
  · obtain ⟨hg, hnp, hh, hp, hL, hc⟩ := h
    exact ⟨rfl, rfl, rfl, hh _ (by omega), by show np - 1 ≤ 6; omega, fun i hi => hh i (by have : i < np - 1 := hi; omega), fun i hi => hp i (by have : i < np - 1 := hi; omega), hL, hc⟩
end BOTH
theorem chr_up {f : Nat → Int32} {L : Nat} {x : Int32} (h : Chr f) (hx : Wi x 0 255) : Chr (upd f L x) := fun j hj => by
  unfold upd
  by_cases q : j = L
  · rw [if_pos q]
    exact hx
  · rw [if_neg q]; exact h j hj
