/-! ===== rows that methods write: my words for them ===== -/
theorem cpy_all {f h : Nat → Int32} {N j : Nat} (hN : N < 2 ^ 31) (hj : j < N) : va_cpy f h (0 : Int32).toNatClampNeg (0 : Int32).toNatClampNeg (nI N).toNatClampNeg j = f j := by
  rw [nI_clamp hN, show (0 : Int32).toNatClampNeg = 0 from by decide +kernel]
  unfold va_cpy
  rw [if_pos ⟨Nat.zero_le _, by omega⟩]
  congr 1
  omega
theorem updE {f : Nat → Int32} {k : Nat} {x : Int32} : upd f k x k = x := if_pos rfl
theorem updN {f : Nat → Int32} {k j : Nat} {x : Int32} (h : j ≠ k) : upd f k x j = f j := if_neg h
theorem pk_subn {i k : Nat} (h : k ≤ i) : nI i - nI k = nI (i - k) := by
  obtain ⟨d, rfl⟩ := Nat.exists_eq_add_of_le h
  rw [show k + d - k = d by omega]
  show Int32.ofNat (k + d) - Int32.ofNat k = Int32.ofNat d
  rw [Int32.ofNat_add, Int32.add_comm, Int32.add_sub_cancel]
/-- the states of the reservations below i, the open ones that have ended at t expired -/
def exS (st en : Nat → Int32) (t : Int32) (i : Nat) : Nat → Int32 := fun w => if w < i ∧ st w = 0 ∧ en w ≤ t then 4 else st w
theorem exS_at {st en : Nat → Int32} {t : Int32} {i j : Nat} (h : i ≤ j) : exS st en t i j = st j := if_neg fun q => absurd q.1 (by omega)
theorem exS_0 {st en : Nat → Int32} {t : Int32} : exS st en t 0 = st := funext fun _ => exS_at (Nat.zero_le _)
theorem exS_no {st en : Nat → Int32} {t : Int32} {i : Nat} (h : ¬ (st i = 0 ∧ en i ≤ t)) : exS st en t i = exS st en t (i + 1) := by
  funext w
  unfold exS
  by_cases hw : w = i
  · subst hw
    rw [if_neg (fun q => absurd q.1 (by omega)), if_neg (fun q => h q.2)]
  · by_cases h2 : st w = 0 ∧ en w ≤ t
    · by_cases h3 : w < i
      · rw [if_pos ⟨h3, h2⟩, if_pos ⟨by omega, h2⟩]
      · rw [if_neg (fun q => h3 q.1), if_neg (fun q => absurd q.1 (by omega))]
    · rw [if_neg (fun q => h2 q.2), if_neg (fun q => h2 q.2)]
theorem exS_yes {st en : Nat → Int32} {t : Int32} {i : Nat} (h : st i = 0 ∧ en i ≤ t) : upd (exS st en t i) i 4 = exS st en t (i + 1) := by
  funext w
  unfold upd exS
  by_cases hw : w = i
  · subst hw
    rw [if_pos rfl, if_pos ⟨by omega, h⟩]
  · rw [if_neg hw]
    by_cases h2 : st w = 0 ∧ en w ≤ t
    · by_cases h3 : w < i
      · rw [if_pos ⟨h3, h2⟩, if_pos ⟨by omega, h2⟩]
      · rw [if_neg (fun q => h3 q.1), if_neg (fun q => absurd q.1 (by omega))]
    · rw [if_neg (fun q => h2 q.2), if_neg (fun q => h2 q.2)]
/-- a row of n whose numbers behind place i have gone up by one place -/
def shR (f : Nat → Int32) (i n : Nat) : Nat → Int32 := fun j => if i < j ∧ j ≤ n then f (j - 1) else f j
theorem shR_0 {f : Nat → Int32} {n : Nat} : f = shR f n n := funext fun j => (if_neg (fun q => by omega)).symm
theorem shR_s {f : Nat → Int32} {i n : Nat} (h0 : 0 < i) (h : i ≤ n) : upd (shR f i n) i (shR f i n (i - 1)) = shR f (i - 1) n := by
  funext j
  unfold upd shR
  by_cases hj : j = i
  · subst hj
    rw [if_pos rfl, if_neg (fun q => by omega), if_pos ⟨by omega, h⟩]
  · rw [if_neg hj]
    by_cases h2 : i < j ∧ j ≤ n
    · rw [if_pos h2, if_pos ⟨by omega, h2.2⟩]
    · rw [if_neg h2, if_neg (fun q => h2 ⟨by omega, q.2⟩)]
/-- a row of n whose numbers from behind place k up to place i (without it) have gone down by one place -/
def dlR (f : Nat → Int32) (k i : Nat) : Nat → Int32 := fun j => if k ≤ j ∧ j + 1 < i then f (j + 1) else f j
theorem dlR_0 {f : Nat → Int32} {k : Nat} : f = dlR f k (k + 1) := funext fun j => (if_neg (fun q => by omega)).symm
theorem dlR_s {f : Nat → Int32} {k i : Nat} (h : k < i) : upd (dlR f k i) (i - 1) (dlR f k i i) = dlR f k (i + 1) := by
  funext j
  unfold upd dlR
  by_cases hj : j = i - 1
  · subst hj
    rw [if_pos rfl, if_neg (fun q => by omega), if_pos ⟨by omega, by omega⟩, show i - 1 + 1 = i by omega]
  · rw [if_neg hj]
    by_cases h2 : k ≤ j ∧ j + 1 < i
    · rw [if_pos h2, if_pos ⟨h2.1, by omega⟩]
    · rw [if_neg h2, if_neg (fun q => h2 ⟨q.1, by omega⟩)]
/-- a tariff's rows (0: their number, 1 starts, 2 units, 3 prices) with the step at place k new -/
abbrev T1 (g : Nat → Nat → Int32) (k : Nat) (x un pr : Int32) : Nat → Nat → Int32 := w2 (w2 (w2 g 1 (upd (g 1) k x)) 2 (upd (g 2) k un)) 3 (upd (g 3) k pr)
/-- with a step ahead of place k -/
abbrev T2 (g : Nat → Nat → Int32) (k n : Nat) (x un pr : Int32) : Nat → Nat → Int32 := w2 (w2 (w2 (w2 g 0 (upd (g 0) 0 (g 0 0 + 1))) 1 (upd (shR (g 1) k n) k x)) 2 (upd (shR (g 2) k n) k un)) 3 (upd (shR (g 3) k n) k pr)
/-- without the step at place k -/
abbrev T3 (g : Nat → Nat → Int32) (k n : Nat) : Nat → Nat → Int32 := w2 (w2 (w2 (w2 g 0 (upd (g 0) 0 (g 0 0 - 1))) 1 (dlR (g 1) k n)) 2 (dlR (g 2) k n)) 3 (dlR (g 3) k n)
def TPut (g : Nat → Nat → Int32) (n : Nat) (x un pr : Int32) (u : Nat → Nat → Int32) : Prop := ∃ k, TPl (g 1) n x k ∧ ((k < n ∧ g 1 k = x ∧ u = T1 g k x un pr) ∨ (¬ (k < n ∧ g 1 k = x) ∧ n < 5 ∧ u = T2 g k n x un pr))
def TRem (g : Nat → Nat → Int32) (n : Nat) (x : Int32) (u : Nat → Nat → Int32) : Prop := ∃ k, TPl (g 1) n x k ∧ k < n ∧ g 1 k = x ∧ u = T3 g k n
