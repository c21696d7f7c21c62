/-! ===== p29: what the law's checks rest on ===== -/
theorem Cnt.pos {P : Nat → Prop} : ∀ {n z : Nat}, Cnt P n z → (∃ k, k < n ∧ P k) → 0 < z
  | 0, _, _ => fun ⟨k, hk, _⟩ => absurd hk (Nat.not_lt_zero k)
  | n + 1, z, ⟨y, hy, hc⟩ => fun ⟨k, hk, hp⟩ => by
    rcases hc with ⟨c, d⟩ | ⟨c, d⟩
    · omega
    · rcases Nat.lt_or_ge k n with q | q
      · have := Cnt.pos hy ⟨k, q, hp⟩
        omega
      · have : k = n := by omega
        subst this
        exact absurd hp c
theorem Cnt.zero {P : Nat → Prop} : ∀ {n z : Nat}, Cnt P n z → (¬ ∃ k, k < n ∧ P k) → z = 0
  | 0, _, h => fun _ => h
  | n + 1, z, ⟨y, hy, hc⟩ => fun hn => by
    have := Cnt.zero hy (fun ⟨k, hk, hp⟩ => hn ⟨k, by omega, hp⟩)
    rcases hc with ⟨c, d⟩ | ⟨c, d⟩
    · exact absurd ⟨n, Nat.lt_succ_self n, c⟩ hn
    · omega
theorem Cnt.add {P Q : Nat → Prop} (hd : ∀ w, P w → Q w → False) : ∀ {n y z : Nat}, Cnt P n y → Cnt Q n z → Cnt (fun w => P w ∨ Q w) n (y + z)
  | 0, y, z, h, h2 => by
    rw [show y = 0 from h, show z = 0 from h2]
    rfl
  | n + 1, y, z, ⟨a, ha, hc⟩, ⟨b, hb, hc2⟩ => by
    refine ⟨a + b, Cnt.add hd ha hb, ?_⟩
    rcases hc with ⟨c, d⟩ | ⟨c, d⟩ <;> rcases hc2 with ⟨c2, d2⟩ | ⟨c2, d2⟩
    · exact (hd n c c2).elim
    · exact Or.inl ⟨Or.inl c, by omega⟩
    · exact Or.inl ⟨Or.inr c2, by omega⟩
    · exact Or.inr ⟨fun q => q.elim c c2, by omega⟩
/-- bay k is held now -/
abbrev Hd (g : Nat → Nat → Int32) (q k : Nat) : Prop := ∃ w, w < q ∧ HeldB (g 14) (g 18) (g 15) (g 16) (g 0 0) (g 0 0 + 1) (g 1 1) (nI k) w
/-- bay k is open, empty, and not held now -/
def Fr (g : Nat → Nat → Int32) (q k : Nat) : Prop := g 7 k = 1 ∧ g 8 k = 0 ∧ ¬ Hd g q k
theorem wlk_pos {c : Nat → Int32 → Prop} {f : Nat → Int32} (h : ∀ j z, c j z → 0 < f j) : ∀ {n : Nat} {z : Int32}, Wlk (-9) (Imp c f) n z → z = -9 ∨ 0 < z
  | 0, _, e => Or.inl e
  | n + 1, z, ⟨y, hy, hs⟩ => by
    rcases hs with ⟨hc, e⟩ | ⟨-, e⟩
    · exact Or.inr (by rw [e]; exact h n y hc)
    · rw [e]; exact wlk_pos h hy
theorem wlk_first {P : Nat → Prop} {c : Nat → Int32 → Prop} (h1 : ∀ j z, c j z → P j) (h2 : ∀ j, P j → c j (-9)) : ∀ {n : Nat} {z : Int32}, Wlk (-9) (Imp c nI) n z → (z = -9 ∧ ∀ j, j < n → ¬ P j) ∨ ∃ k, k < n ∧ z = nI k ∧ P k
  | 0, _, e => Or.inl ⟨e, all_0⟩
  | n + 1, z, ⟨y, hy, hs⟩ => by
    rcases hs with ⟨hc, e⟩ | ⟨hc, e⟩
    · exact Or.inr ⟨n, Nat.lt_succ_self n, e, h1 n y hc⟩
    · rcases wlk_first h1 h2 hy with ⟨e2, ha⟩ | ⟨k, hk, e2, hp⟩
      · exact Or.inl ⟨e.trans e2, all_s ha (fun hp => hc (by rw [e2]; exact h2 n hp))⟩
      · exact Or.inr ⟨k, by omega, e.trans e2, hp⟩
theorem i_addsub (a b : Int32) : a + (b - a) = b := by rw [Int32.add_comm, Int32.sub_add_cancel]
theorem i_pos_le {x : Int32} (h : 1 ≤ x) : ¬ x ≤ 0 := fun c => absurd (Int32.le_trans h c) (by decide)
theorem i_pos_m9 {x : Int32} (h : 1 ≤ x) : x ≠ -9 := fun c => by
  rw [c] at h
  exact absurd h (by decide)
theorem i_gt_ge {x : Int32} (h : 0 < x) : x ≥ 0 := Int32.le_of_lt h
theorem i_gt_ne {x : Int32} (h : 0 < x) : x ≠ 0 := fun c => by
  rw [c] at h
  exact absurd h (by decide)
section CHECKS
variable {g : Nat → Nat → Int32} {lf : Int32} {n q tn tu T e k np : Nat} {r : Int32}
theorem Inv.n31 (hI : Inv g lf n q tn tu T) : n < 2 ^ 31 := by have := hI.hnb; omega
theorem Inv.q31 (hI : Inv g lf n q tn tu T) : q < 2 ^ 31 := by have := hI.hqc; omega
theorem k_c0 (h : aCount g n q (nI 0) np 0 r) : r = nI n := aCount_one h (Or.inl ⟨rfl, rfl⟩)
theorem k_c1 (h : aCount g n q (nI 0) np 1 r) : r = nI q := aCount_one h (Or.inr (Or.inl ⟨rfl, rfl⟩))
theorem k_c2 (h : aCount g n q (nI 0) np 2 r) : r = g 0 1 := aCount_one h (Or.inr (Or.inr (Or.inl ⟨rfl, rfl⟩)))
theorem k_c3 {z : Nat} (hz : Cnt (fun w => ¬ g 8 w = 0) n z) (h : aCount g n q (nI 0) np 3 r) : r = nI z := aCount_one h (Or.inr (Or.inr (Or.inr (Or.inl ⟨rfl, z, hz, rfl⟩))))
theorem k_c4 {z : Nat} (hz : Cnt (fun w => ¬ g 8 w = 0) n z) (h : aCount g n q (nI 0) np 4 r) : r = g 0 1 - nI z := aCount_one h (Or.inr (Or.inr (Or.inr (Or.inr (Or.inl ⟨rfl, z, hz, rfl⟩)))))
theorem k_c5 (h : aCount g n q (nI 0) np 5 r) : r = g 0 0 := aCount_one h (Or.inr (Or.inr (Or.inr (Or.inr (Or.inr (Or.inl ⟨rfl, rfl⟩))))))
theorem k_c12 (h : aCount g n q (nI 0) np 12 r) : r = nI np := aCount_one h (Or.inr (Or.inr (Or.inr (Or.inr (Or.inr (Or.inr (Or.inr (Or.inr (Or.inl ⟨rfl, rfl⟩)))))))))
theorem k_b4 (hI : Inv g lf n q tn tu T) (hk : k < n) (h : aBay g n q (nI k) 4 r) : r = g 7 k := aBay_one hI.n31 h (Or.inl ⟨k, hk, rfl, Or.inr (Or.inr (Or.inr (Or.inr (Or.inl ⟨rfl, rfl⟩))))⟩)
theorem k_b5 (hI : Inv g lf n q tn tu T) (hk : k < n) (h : aBay g n q (nI k) 5 r) : (g 8 k = 0 ∧ r = -9) ∨ (¬ g 8 k = 0 ∧ r = g 8 k) := by
  by_cases c : g 8 k = 0
  · exact Or.inl ⟨c, aBay_one hI.n31 h (Or.inl ⟨k, hk, rfl, Or.inr (Or.inr (Or.inr (Or.inr (Or.inr (Or.inl ⟨rfl, Or.inl ⟨c, rfl⟩⟩)))))⟩)⟩
  · exact Or.inr ⟨c, aBay_one hI.n31 h (Or.inl ⟨k, hk, rfl, Or.inr (Or.inr (Or.inr (Or.inr (Or.inr (Or.inl ⟨rfl, Or.inr ⟨c, rfl⟩⟩)))))⟩)⟩
theorem k_b6 (hI : Inv g lf n q tn tu T) (hk : k < n) (h : aBay g n q (nI k) 6 r) : (Hd g q k ∧ ∃ w, w < q ∧ r = nI w) ∨ (¬ Hd g q k ∧ r = -9) := by
  have hn := hI.n31
  rcases h with ⟨k2, hk2, ek, h⟩ | ⟨hno, -⟩
  · have : k = k2 := nI_inj (by omega) (by omega) ek
    subst this
    rcases h with ⟨c, -⟩ | ⟨c, -⟩ | ⟨c, -⟩ | ⟨c, -⟩ | ⟨c, -⟩ | ⟨c, -⟩ | ⟨-, h⟩ | ⟨c, -⟩
    · exact absurd c (by decide)
    · exact absurd c (by decide)
    · exact absurd c (by decide)
    · exact absurd c (by decide)
    · exact absurd c (by decide)
    · exact absurd c (by decide)
    · rcases Fst.cases h with ⟨w, hw, ew, hp, -⟩ | ⟨ew, hno⟩
      · exact Or.inl ⟨⟨w, hw, hp⟩, w, hw, ew⟩
      · exact Or.inr ⟨fun ⟨w, hw, hp⟩ => hno w hw hp, ew⟩
    · exact absurd c (by decide)
  · exact absurd ⟨k, hk, rfl⟩ hno
theorem k_ff (hk : k < n) (h : aFreeFor g n q (nI k) r) : (Hd g q k ∧ r = 0) ∨ (¬ Hd g q k ∧ r = -9) ∨ (¬ Hd g q k ∧ 0 < r) := by
  rcases h with ⟨-, h⟩ | ⟨hno, -⟩
  · rcases h with ⟨c, h⟩ | ⟨c, h⟩
    · exact Or.inl ⟨c, h⟩
    · rcases wlk_pos (fun j z hc => hc.2.2.1) h with d | d
      · exact Or.inr (Or.inl ⟨c, d⟩)
      · exact Or.inr (Or.inr ⟨c, d⟩)
  · exact absurd ⟨k, hk, rfl⟩ hno
theorem k_fst (hE : Ex g n q tn tu T e) (hk : k < n) (h8 : ¬ g 8 k = 0) : ∀ j, j < k → ¬ g 8 j = g 8 k := fun j hj c => by
  have := hE.x9 k j hk (by omega) h8 c.symm
  omega
theorem k_k1 (hI : Inv g lf n q tn tu T) (hE : Ex g n q tn tu T e) (hk : k < n) (h8 : ¬ g 8 k = 0) (h : aCar g n q tn tu (g 8 k) 1 r) : r = g 10 k := aCar_one hI.q31 h (Or.inl ⟨⟨hE.x8 k hk h8, by decide⟩, Or.inl ⟨k, hk, rfl, k_fst hE hk h8, Or.inr (Or.inl ⟨rfl, rfl⟩)⟩⟩)
theorem k_k2 (hI : Inv g lf n q tn tu T) (hE : Ex g n q tn tu T e) (hk : k < n) (h8 : ¬ g 8 k = 0) (h : aCar g n q tn tu (g 8 k) 2 r) : r = nI k := aCar_one hI.q31 h (Or.inl ⟨⟨hE.x8 k hk h8, by decide⟩, Or.inl ⟨k, hk, rfl, k_fst hE hk h8, Or.inr (Or.inr (Or.inl ⟨rfl, rfl⟩))⟩⟩)
theorem k_k3 (hI : Inv g lf n q tn tu T) (hE : Ex g n q tn tu T e) (hk : k < n) (h8 : ¬ g 8 k = 0) (h : aCar g n q tn tu (g 8 k) 3 r) : r = g 11 k := aCar_one hI.q31 h (Or.inl ⟨⟨hE.x8 k hk h8, by decide⟩, Or.inl ⟨k, hk, rfl, k_fst hE hk h8, Or.inr (Or.inr (Or.inr (Or.inl ⟨rfl, rfl⟩)))⟩⟩)
theorem k_ent (hI : Inv g lf n q tn tu T) (hE : Ex g n q tn tu T e) (hk : k < n) (h8 : ¬ g 8 k = 0) : g 10 k ≤ g 0 0 := by
  obtain ⟨t, ht, et⟩ := hE.x10 k hk h8
  rw [et, hI.hT0]
  exact nI_le ht (by have := hI.hT0b; omega)
theorem k_r0 (hI : Inv g lf n q tn tu T) (hk : k < q) (h : aRes g q (nI k) 0 r) : r = g 13 k := aRes_one hI.q31 h (Or.inl ⟨k, hk, rfl, Or.inl ⟨rfl, rfl⟩⟩)
theorem k_r1 (hI : Inv g lf n q tn tu T) (hk : k < q) (h : aRes g q (nI k) 1 r) : r = g 14 k := aRes_one hI.q31 h (Or.inl ⟨k, hk, rfl, Or.inr (Or.inl ⟨rfl, rfl⟩)⟩)
theorem k_r3 (hI : Inv g lf n q tn tu T) (hk : k < q) (h : aRes g q (nI k) 3 r) : r = g 16 k := aRes_one hI.q31 h (Or.inl ⟨k, hk, rfl, Or.inr (Or.inr (Or.inr (Or.inl ⟨rfl, rfl⟩)))⟩)
theorem k_r5 (hI : Inv g lf n q tn tu T) (hk : k < q) (h : aRes g q (nI k) 5 r) : r = g 18 k := aRes_one hI.q31 h (Or.inl ⟨k, hk, rfl, Or.inr (Or.inr (Or.inr (Or.inr (Or.inr (Or.inl ⟨rfl, rfl⟩)))))⟩)
theorem k_am (h : aAcc g (-1) r) : r = 0 + g 2 0 + g 2 1 + g 2 2 + g 2 3 := aAcc_one h (Or.inl ⟨by decide, Or.inl ⟨by decide, rfl⟩⟩)
theorem k_a0 (h : aAcc g 0 r) : r = g 2 0 := aAcc_one h (Or.inl ⟨by decide, Or.inr ⟨by decide, 0, by decide, rfl, rfl⟩⟩)
theorem k_a1 (h : aAcc g 1 r) : r = g 2 1 := aAcc_one h (Or.inl ⟨by decide, Or.inr ⟨by decide, 1, by decide, rfl, rfl⟩⟩)
theorem k_a2 (h : aAcc g 2 r) : r = g 2 2 := aAcc_one h (Or.inl ⟨by decide, Or.inr ⟨by decide, 2, by decide, rfl, rfl⟩⟩)
theorem k_a3 (h : aAcc g 3 r) : r = g 2 3 := aAcc_one h (Or.inl ⟨by decide, Or.inr ⟨by decide, 3, by decide, rfl, rfl⟩⟩)
/-- the bays of a level that are free -/
theorem k_fl (hI : Inv g lf n q tn tu T) {j : Nat} (hj : j < 5) (h : aFree g n q (nI j) (-1) r) : ∃ z, Cnt (fun w => Fr g q w ∧ g 4 w = nI j) n z ∧ r = nI z := by
  rcases h with ⟨-, h⟩ | ⟨hno, -⟩
  · obtain ⟨z, hz, e⟩ := h
    refine ⟨z, hz.cg (fun w hw => ⟨fun p => ⟨⟨p.2.1, p.2.2.2.1, p.2.2.2.2⟩, p.1.1⟩, fun p => ⟨⟨p.2, Or.inl (by decide)⟩, p.1.1, hI.hsz w hw, p.1.2.1, p.1.2.2⟩⟩), e⟩
  · exact absurd ⟨⟨nI_pos' (by omega), nI_le (b := 4) (by omega) (by decide)⟩, by decide⟩ hno
theorem k_fl_s {i y z : Nat} (hi : i < 5) (h1 : Cnt (fun w => Fr g q w ∧ ∃ j, j < i ∧ g 4 w = nI j) n y) (h2 : Cnt (fun w => Fr g q w ∧ g 4 w = nI i) n z) : Cnt (fun w => Fr g q w ∧ ∃ j, j < i + 1 ∧ g 4 w = nI j) n (y + z) := by
  refine (Cnt.add (fun w a b => ?_) h1 h2).cg (fun w hw => ⟨fun p => ?_, fun p => ?_⟩)
  · obtain ⟨-, j, hj, ej⟩ := a
    have := nI_inj (a := j) (b := i) (by omega) (by omega) (ej.symm.trans b.2)
    omega
  · rcases p with ⟨a, j, hj, ej⟩ | ⟨a, ei⟩
    · exact ⟨a, j, by omega, ej⟩
    · exact ⟨a, i, by omega, ei⟩
  · obtain ⟨a, j, hj, ej⟩ := p
    rcases Nat.lt_or_ge j i with c | c
    · exact Or.inl ⟨a, j, c, ej⟩
    · have : j = i := by omega
      subst this
      exact Or.inr ⟨a, ej⟩
theorem k_fl_0 : Cnt (fun w => Fr g q w ∧ ∃ j, j < 0 ∧ g 4 w = nI j) n 0 := by
  have h : ∀ m, Cnt (fun w => Fr g q w ∧ ∃ j, j < 0 ∧ g 4 w = nI j) m 0 := by
    intro m
    induction m with
    | zero => rfl
    | succ m ih => exact ih.n (fun ⟨_, j, hj, _⟩ => absurd hj (Nat.not_lt_zero j))
  exact h n
theorem k_fl_5 (hE : Ex g n q tn tu T e) {z y : Nat} (h : Cnt (fun w => Fr g q w ∧ ∃ j, j < 5 ∧ g 4 w = nI j) n z) (h2 : Cnt (fun w => Fr g q w) n y) : z = y :=
  (h.cg (fun w hw => ⟨fun p => p.1, fun p => ⟨p, hE.x7 w hw⟩⟩)).one h2
/-- the nearest bay -/
theorem k_ne (hI : Inv g lf n q tn tu T) {z : Nat} (hz : Cnt (fun w => Fr g q w) n z) (h : aNearest g n q 0 r) : (r = -9 ∧ z = 0) ∨ ((∃ k, k < n ∧ r = nI k) ∧ 0 < z) := by
  rcases h with ⟨-, h⟩ | ⟨hno, -⟩
  · rcases wlk_first (P := fun j => g 7 j = 1 ∧ 0 ≤ g 6 j ∧ g 8 j = 0 ∧ ¬ (∃ i, i < q ∧ HeldB (g 14) (g 18) (g 15) (g 16) (g 0 0) (g 0 0 + 1) (g 1 1) (nI j) i)) (fun j z hc => hc.1) (fun j hp => ⟨hp, Or.inl (fun i hi => m9_ne hi hI.n31)⟩) h with ⟨e1, ha⟩ | ⟨k, hk, e1, hp⟩
    · exact Or.inl ⟨e1, hz.zero (fun ⟨k, hk, p⟩ => ha k hk ⟨p.1, hI.hsz k hk, p.2.1, p.2.2⟩)⟩
    · exact Or.inr ⟨⟨k, hk, e1⟩, hz.pos ⟨k, hk, hp.1, hp.2.2.1, hp.2.2.2⟩⟩
  · exact absurd (by decide) hno
end CHECKS
