/-! ===== my words for what the methods answer ===== -/
def Yes (P : Prop) (r : Int32) : Prop := (r = 1 ∧ P) ∨ (r = 0 ∧ ¬ P)
/-- the first number below n with P; -9 -/
def Fst (P : Nat → Prop) (n : Nat) (r : Int32) : Prop := (∃ k, k < n ∧ P k ∧ (∀ j, j < k → ¬ P j) ∧ r = nI k) ∨ ((∀ j, j < n → ¬ P j) ∧ r = -9)
/-- how many numbers below n have P -/
def Cnt (P : Nat → Prop) : Nat → Nat → Prop
  | 0, q => q = 0
  | n + 1, q => ∃ z, Cnt P n z ∧ ((P n ∧ q = z + 1) ∨ (¬ P n ∧ q = z))
/-- a walk from a first value over the numbers below n -/
def Wlk {α : Type} (a : α) (st : Nat → α → α → Prop) : Nat → α → Prop
  | 0, q => q = a
  | n + 1, q => ∃ z, Wlk a st n z ∧ st n z q
theorem nI_geD {i n : Nat} {y : Int32} (hy : y = nI n) (hi : i ≤ n) (hn : n < 2 ^ 31) (c : nI i ≥ y) : i = n := by
  subst hy
  have := (nI_leI hn (by omega)).mp c
  omega
theorem nI_ltD {i n : Nat} {y : Int32} (hy : y = nI n) (hi : i ≤ n) (hn : n < 2 ^ 31) (c : ¬ nI i ≥ y) : i < n := by
  subst hy
  rcases Nat.lt_or_ge i n with h | h
  · exact h
  · exact absurd (nI_le h (by omega)) c
theorem all_s {P : Nat → Prop} {i : Nat} (h : ∀ j, j < i → P j) (hi : P i) : ∀ j, j < i + 1 → P j := by
  intro j hj
  rcases Nat.lt_or_ge j i with q | q
  · exact h j q
  · have : j = i := by omega
    subst this
    exact hi
theorem all_0 {P : Nat → Prop} : ∀ j, j < 0 → P j := fun j h => absurd h (Nat.not_lt_zero j)
theorem Fst.hit {P : Nat → Prop} {n i : Nat} (hi : i < n) (hP : P i) (h : ∀ j, j < i → ¬ P j) : Fst P n (nI i) := Or.inl ⟨i, hi, hP, h, rfl⟩
theorem Fst.none {P : Nat → Prop} {n : Nat} (h : ∀ j, j < n → ¬ P j) : Fst P n (-9) := Or.inr ⟨h, rfl⟩
/-- a place among n, or not -/
theorem ix_cases (x : Int32) {n : Nat} (hn : n < 2 ^ 31) : (∃ k, k < n ∧ x = nI k) ∨ ¬ (∃ k, k < n ∧ x = nI k) := Classical.em _
theorem ix_of {x y : Int32} {n : Nat} (hy : y = nI n) (hn : n < 2 ^ 31) (h0 : ¬ x < 0) (h1 : ¬ x ≥ y) : ∃ k, k < n ∧ x = nI k := by
  subst hy
  rcases pk_ix x hn with h | h | h
  · exact absurd h h0
  · exact absurd h h1
  · exact h
theorem ix_neg {x : Int32} {n : Nat} (hn : n < 2 ^ 31) (h0 : x < 0) : ¬ ∃ k, k < n ∧ x = nI k := by
  rintro ⟨k, hk, rfl⟩
  exact nI_pos (by omega) h0
theorem ix_big {x y : Int32} {n : Nat} (hy : y = nI n) (hn : n < 2 ^ 31) (h0 : x ≥ y) : ¬ ∃ k, k < n ∧ x = nI k := by
  subst hy
  rintro ⟨k, hk, rfl⟩
  exact nI_ge hk hn h0
/-- alive: open or used -/
abbrev Alv (st : Nat → Int32) (k : Nat) : Prop := st k = 0 ∨ st k = 1
/-- holds its bay at a minute from f on and before u -/
abbrev Hld (st bg en : Nat → Int32) (f u h : Int32) (k : Nat) : Prop := Alv st k ∧ bg k - h < u ∧ f < en k
/-- a step that takes a new value, or keeps the old one -/
def Imp (c : Nat → Int32 → Prop) (m : Nat → Int32) (j : Nat) (z q : Int32) : Prop := (c j z ∧ q = m j) ∨ (¬ c j z ∧ q = z)
theorem Imp.yes {c : Nat → Int32 → Prop} {m : Nat → Int32} {j : Nat} {z : Int32} (h : c j z) : Imp c m j z (m j) := Or.inl ⟨h, rfl⟩
theorem Imp.no {c : Nat → Int32 → Prop} {m : Nat → Int32} {j : Nat} {z : Int32} (h : ¬ c j z) : Imp c m j z z := Or.inr ⟨h, rfl⟩
theorem Wlk.s {α : Type} {a : α} {st : Nat → α → α → Prop} {i : Nat} {z q : α} (h : Wlk a st i z) (hs : st i z q) : Wlk a st (i + 1) q := ⟨z, h, hs⟩
theorem Cnt.y {P : Nat → Prop} {i z : Nat} (h : Cnt P i z) (hp : P i) : Cnt P (i + 1) (z + 1) := ⟨z, h, Or.inl ⟨hp, rfl⟩⟩
theorem Cnt.n {P : Nat → Prop} {i z : Nat} (h : Cnt P i z) (hp : ¬ P i) : Cnt P (i + 1) z := ⟨z, h, Or.inr ⟨hp, rfl⟩⟩
theorem nI_inj {a b : Nat} (ha : a < 2 ^ 31) (hb : b < 2 ^ 31) (h : nI a = nI b) : a = b := (nI_eq ha hb).mp h
theorem Fst.cases {P : Nat → Prop} {n : Nat} {r : Int32} (h : Fst P n r) : (∃ k, k < n ∧ r = nI k ∧ P k ∧ (∀ j, j < k → ¬ P j)) ∨ (r = -9 ∧ ∀ j, j < n → ¬ P j) := by
  rcases h with ⟨k, h1, h2, h3, h4⟩ | ⟨h1, h2⟩
  · exact Or.inl ⟨k, h1, h4, h2, h3⟩
  · exact Or.inr ⟨h2, h1⟩
theorem m9_ne {k n : Nat} (hk : k < n) (hn : n < 2 ^ 31) : ¬ (-9 : Int32) = nI k := fun e => absurd (show (-9 : Int32) < 0 by decide) (by rw [e]; exact nI_pos (by omega))
/-- a first number, seen as a place: it is one just where there is one -/
theorem Fst.has {P : Nat → Prop} {n : Nat} {r : Int32} (hn : n < 2 ^ 31) (h : Fst P n r) : (∃ k, k < n ∧ r = nI k) ↔ ∃ j, j < n ∧ P j := by
  rcases h.cases with ⟨k, h1, h2, h3, -⟩ | ⟨h1, h2⟩
  · exact ⟨fun _ => ⟨k, h1, h3⟩, fun _ => ⟨k, h1, h2⟩⟩
  · exact ⟨fun ⟨k, hk, e⟩ => absurd (h1.symm.trans e) (m9_ne hk hn), fun ⟨j, hj, q⟩ => absurd q (h2 j hj)⟩
-- tariffs: starts st, units un, prices pr, n steps
def Un (m u : Int32) : Int32 := if 0 < u then (m + u - 1) / u else 0
def tup (st : Nat → Int32) (n : Nat) (m : Int32) (j : Nat) : Int32 := if j + 1 < n then (if st (j + 1) < m then st (j + 1) else m) else m
def tS (st un pr : Nat → Int32) (n : Nat) (m : Int32) : Nat → Int32
  | 0 => 0
  | j + 1 => tS st un pr n m j + (if st j < m then pr j * Un (tup st n m j - st j) (un j) else 0)
def Srt (st : Nat → Int32) (n : Nat) : Prop := ∀ i j, i < j → j < n → st i < st j
theorem i_lt_trans {x y z : Int32} (h : x < y) (h2 : y < z) : x < z := by
  rw [Int32.lt_iff_toInt_lt] at *; omega
theorem i_add0 (x : Int32) : x + 0 = x := by
  apply Int32.toInt_inj.mp; simp
theorem tS_stop {st un pr : Nat → Int32} {n : Nat} {m : Int32} (hs : Srt st n) {i : Nat} (hi : i < n) (h : ¬ st i < m) : ∀ k, i ≤ k → k ≤ n → tS st un pr n m k = tS st un pr n m i := by
  intro k
  induction k with
  | zero => intro h1 _; have : i = 0 := by omega
            subst this; rfl
  | succ k ih =>
    intro h1 h2
    rcases Nat.lt_or_ge k i with q | q
    · have : i = k + 1 := by omega
      subst this; rfl
    · have hk : ¬ st k < m := by
        rcases Nat.lt_or_ge i k with e | e
        · exact fun z => h (i_lt_trans (hs i k e (by omega)) z)
        · have : i = k := by omega
          subst this; exact h
      show tS st un pr n m k + (if st k < m then pr k * Un (tup st n m k - st k) (un k) else 0) = _
      rw [if_neg hk, i_add0]
      exact ih q (by omega)
/-- the place of a start among n -/
def TPl (st : Nat → Int32) (n : Nat) (x : Int32) (k : Nat) : Prop := k ≤ n ∧ (∀ j, j < k → st j < x) ∧ (k < n → ¬ st k < x)
abbrev THas (st : Nat → Int32) (n : Nat) (x : Int32) : Prop := ∃ k, TPl st n x k ∧ k < n ∧ st k = x
theorem TPl.uniq {st : Nat → Int32} {n : Nat} {x : Int32} {k j : Nat} (h : TPl st n x k) (h2 : TPl st n x j) : k = j := by
  rcases Nat.lt_trichotomy k j with q | q | q
  · exact absurd (h2.2.1 k q) (h.2.2 (by have := h2.1; omega))
  · exact q
  · exact absurd (h.2.1 j q) (h2.2.2 (by have := h.1; omega))
/-- the fee of the normal tariff: nb the numbers -/
def nF (nb st un pr : Nat → Int32) (n : Nat) (m : Int32) : Int32 := if m ≤ nb 2 then 0 else if nb 3 * ((m + 1440 - 1) / 1440) < tS st un pr n m n then nb 3 * ((m + 1440 - 1) / 1440) else tS st un pr n m n
/-- bay k is before bay j: its way is shorter, or it is as long and its size is smaller -/
abbrev Wy (lv ps : Nat → Int32) (ra : Int32) (k : Nat) : Int32 := lv k * ra + ps k
def Bef (lv ps sz : Nat → Int32) (ra : Int32) (k j : Nat) : Prop := Wy lv ps ra k < Wy lv ps ra j ∨ (Wy lv ps ra k = Wy lv ps ra j ∧ sz k < sz j)
/-- the best so far is none, or this one is before it -/
def Btr (lv ps sz : Nat → Int32) (ra : Int32) (n k : Nat) (z : Int32) : Prop := (∀ j, j < n → ¬ z = nI j) ∨ ∃ j, j < n ∧ z = nI j ∧ Bef lv ps sz ra k j
/-- the bay is held by a reservation at a minute from f on and before u -/
abbrev HeldB (wh st bg en : Nat → Int32) (f u h : Int32) (x : Int32) (j : Nat) : Prop := wh j = x ∧ Hld st bg en f u h j
/-- begins for a bay, each behind the reservation that is in the way of the one before -/
def EB (q : Nat) (wh st bg en : Nat → Int32) (x mi h : Int32) : Nat → Int32 → Int32 → Prop
  | 0, b, r => r = b
  | d + 1, b, r => ((∀ j, j < q → ¬ HeldB wh st bg en (b - h) (b + mi) h x j) ∧ r = b) ∨ ∃ j, j < q ∧ HeldB wh st bg en (b - h) (b + mi) h x j ∧ (∀ i, i < j → ¬ HeldB wh st bg en (b - h) (b + mi) h x i) ∧ EB q wh st bg en x mi h d (en j + h) r
theorem Fst.got {P : Nat → Prop} {n : Nat} {r : Int32} (hn : n < 2 ^ 31) (h : Fst P n r) (hh : ∃ w, w < n ∧ r = nI w) : ∃ k, k < n ∧ r = nI k ∧ P k ∧ ∀ j, j < k → ¬ P j := by
  rcases h.cases with q | ⟨h1, -⟩
  · exact q
  · obtain ⟨w, hw, e⟩ := hh
    exact absurd (h1.symm.trans e) (m9_ne hw hn)
theorem Fst.not {P : Nat → Prop} {n : Nat} {r : Int32} (h : Fst P n r) (hh : ¬ ∃ w, w < n ∧ r = nI w) : r = -9 ∧ ∀ j, j < n → ¬ P j := by
  rcases h.cases with ⟨k, h1, h2, -⟩ | q
  · exact absurd ⟨k, h1, h2⟩ hh
  · exact q
/-- a bay can be reserved from b to e (h the holding time, t the time, pl the cars) -/
abbrev Rsv (q : Nat) (wh st bg en pl : Nat → Int32) (t h b e : Int32) (k : Nat) : Prop := ¬ (b - h ≤ t ∧ ¬ pl k = 0) ∧ ¬ ∃ w, w < q ∧ HeldB wh st bg en (b - h) e h (nI k) w
/-- the earliest begin in a bay -/
abbrev EIn (q : Nat) (wh st bg en pl : Nat → Int32) (t h mi : Int32) (k : Nat) (r : Int32) : Prop := (pl k = 0 ∧ EB q wh st bg en (nI k) mi h 16 t r) ∨ (¬ pl k = 0 ∧ EB q wh st bg en (nI k) mi h 16 (t + h + 1) r)
/-- a step of the search for the earliest begin -/
def ErS (sv : Nat → Prop) (ei : Nat → Int32 → Prop) (t : Int32) (j : Nat) (z q : Int32) : Prop := (¬ sv j ∧ q = z) ∨ (sv j ∧ ∃ b, ei j b ∧ (((b ≤ t + 1440 ∧ b ≤ 20000 ∧ (z = -9 ∨ b < z)) ∧ q = b) ∨ (¬ (b ≤ t + 1440 ∧ b ≤ 20000 ∧ (z = -9 ∨ b < z)) ∧ q = z)))
/-- the fee of the car in bay k at minute t: rs the cars' reservations, et their entries, en the reservations' ends -/
def FeA (q : Nat) (rs et en : Nat → Int32) (nf ov : Int32 → Int32) (k : Nat) (t r : Int32) : Prop := (¬ (∃ w, w < q ∧ rs k = nI w) ∧ r = nf (t - et k)) ∨ ∃ w, w < q ∧ rs k = nI w ∧ r = ov (t - en w)
theorem nI_gtD {i n : Nat} {y : Int32} (hy : y = nI n) (hi : i ≤ n + 1) (hn : n + 1 < 2 ^ 31) (c : y < nI i) : i = n + 1 := by
  subst hy
  have := (nI_ltI (by omega) (by omega)).mp c
  omega
theorem nI_ngtD {i n : Nat} {y : Int32} (hy : y = nI n) (hi : i ≤ n + 1) (hn : n + 1 < 2 ^ 31) (c : ¬ y < nI i) : i ≤ n := by
  subst hy
  rcases Nat.lt_or_ge n i with h | h
  · exact absurd (nI_lt h (by omega)) c
  · exact h
