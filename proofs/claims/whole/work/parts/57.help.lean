/-! ===== the reference's tokens: bytes, words as numbers, numbers ===== -/
theorem bt_sp {x : Int32} (h : 0 ≤ x ∧ x ≤ 255) : x.toInt8.toInt32 = 32 ↔ x = 32 := by
  obtain ⟨d, hd, rfl⟩ := chr_cases h
  have q : ∀ d, d < 256 → ((nI d).toInt8.toInt32 = 32 ↔ nI d = 32) := by decide +kernel
  exact q d hd
theorem bt_se {x : Int32} (h : 0 ≤ x ∧ x ≤ 255) : x.toInt8.toInt32 = 59 ↔ x = 59 := by
  obtain ⟨d, hd, rfl⟩ := chr_cases h
  have q : ∀ d, d < 256 → ((nI d).toInt8.toInt32 = 59 ↔ nI d = 59) := by decide +kernel
  exact q d hd
theorem bt_L {x : Int32} (h : 0 ≤ x ∧ x ≤ 255) : (97 ≤ x.toInt8.toInt32 ∧ x.toInt8.toInt32 ≤ 122) ↔ isL x := by
  obtain ⟨d, hd, rfl⟩ := chr_cases h
  have q : ∀ d, d < 256 → ((97 ≤ (nI d).toInt8.toInt32 ∧ (nI d).toInt8.toInt32 ≤ 122) ↔ (97 ≤ nI d ∧ nI d ≤ 122)) := by decide +kernel
  exact q d hd
theorem bt_D {x : Int32} (h : 0 ≤ x ∧ x ≤ 255) : (48 ≤ x.toInt8.toInt32 ∧ x.toInt8.toInt32 ≤ 57) ↔ isD x := by
  obtain ⟨d, hd, rfl⟩ := chr_cases h
  have q : ∀ d, d < 256 → ((48 ≤ (nI d).toInt8.toInt32 ∧ (nI d).toInt8.toInt32 ≤ 57) ↔ (48 ≤ nI d ∧ nI d ≤ 57)) := by decide +kernel
  exact q d hd
theorem bt_Dv {x : Int32} (h : isD x) : x.toInt8.toInt32 = x := by
  obtain ⟨d, hd, rfl⟩ := chr_cases (x := x) ⟨Int32.le_trans (by decide) h.1, Int32.le_trans h.2 (by decide)⟩
  have q : ∀ d, d < 256 → (48 ≤ nI d ∧ nI d ≤ 57) → (nI d).toInt8.toInt32 = nI d := by decide +kernel
  exact q d hd h
theorem isLD {x : Int32} (h : isL x) (h2 : isD x) : False := Int32.not_lt.mpr (Int32.le_trans h.1 h2.2) (by decide)
/-- a word as a number -/
def wH (f : Nat → Int32) (s : Nat) : Nat → Int64
  | 0 => 0
  | n + 1 => 27 * wH f s n + (bt f (s + n)).toInt64 - 96
theorem wH_s {f : Nat → Int32} {s i : Nat} (h : s ≤ i) : 27 * wH f s (i - s) + (bt f i).toInt64 - 96 = wH f s (i + 1 - s) := by
  rw [show i + 1 - s = (i - s) + 1 by omega]
  show _ = 27 * wH f s (i - s) + (bt f (s + (i - s))).toInt64 - 96
  rw [show s + (i - s) = i by omega]
def dL (x : Int32) : Nat := x.toInt.toNat - 96
def hN (f : Nat → Int32) (s : Nat) : Nat → Nat
  | 0 => 0
  | n + 1 => 27 * hN f s n + dL (f (s + n))
theorem dL_of {x : Int32} (h : isL x) : 1 ≤ dL x ∧ dL x ≤ 26 ∧ x.toInt8.toInt32.toInt64 + -96 = lN (dL x) ∧ x = nI (96 + dL x) := by
  obtain ⟨d, hd, rfl⟩ := chr_cases (x := x) ⟨Int32.le_trans (by decide) h.1, Int32.le_trans h.2 (by decide)⟩
  have q : ∀ d, d < 256 → (97 ≤ nI d ∧ nI d ≤ 122) → 1 ≤ dL (nI d) ∧ dL (nI d) ≤ 26 ∧ (nI d).toInt8.toInt32.toInt64 + -96 = lN (dL (nI d)) ∧ nI d = nI (96 + dL (nI d)) := by decide +kernel
  exact q d hd h
theorem wH_hN {f : Nat → Int32} {s : Nat} : ∀ n, (∀ i, i < n → isL (f (s + i))) → wH f s n = lN (hN f s n) := by
  intro n
  induction n with
  | zero => intro _; rfl
  | succ n ih =>
    intro h
    have hd := (dL_of (h n (by omega))).2.2.1
    show 27 * wH f s n + (f (s + n)).toInt8.toInt32.toInt64 - 96 = lN (27 * hN f s n + dL (f (s + n)))
    rw [ih (fun i hi => h i (by omega)), Int64.sub_eq_add_neg, Int64.add_assoc, hd]
    show (27 : Int64) * Int64.ofNat _ + Int64.ofNat _ = Int64.ofNat _
    rw [Int64.ofNat_add, Int64.ofNat_mul]
    rfl
theorem hN_lt {f : Nat → Int32} {s : Nat} : ∀ n, (∀ i, i < n → isL (f (s + i))) → hN f s n < 27 ^ n := by
  intro n
  induction n with
  | zero => intro _; exact (show (0 : Nat) < 27 ^ 0 from by decide)
  | succ n ih =>
    intro h
    have := ih (fun i hi => h i (by omega))
    have hd := (dL_of (h n (by omega))).2.1
    show 27 * hN f s n + dL (f (s + n)) < 27 ^ (n + 1)
    rw [Nat.pow_succ]
    omega
theorem hN_inj {f f2 : Nat → Int32} {s s2 : Nat} : ∀ n n2, (∀ i, i < n → isL (f (s + i))) → (∀ i, i < n2 → isL (f2 (s2 + i))) → hN f s n = hN f2 s2 n2 → n = n2 ∧ ∀ i, i < n → f (s + i) = f2 (s2 + i) := by
  intro n
  induction n with
  | zero =>
    intro n2 _ h2 e
    cases n2 with
    | zero => exact ⟨rfl, fun i hi => absurd hi (Nat.not_lt_zero i)⟩
    | succ n2 =>
      have := (dL_of (h2 n2 (by omega))).1
      have e : 0 = 27 * hN f2 s2 n2 + dL (f2 (s2 + n2)) := e
      omega
  | succ n ih =>
    intro n2 h1 h2 e
    have a := dL_of (h1 n (by omega))
    cases n2 with
    | zero =>
      have e : 27 * hN f s n + dL (f (s + n)) = 0 := e
      omega
    | succ n2 =>
      have b := dL_of (h2 n2 (by omega))
      have e : 27 * hN f s n + dL (f (s + n)) = 27 * hN f2 s2 n2 + dL (f2 (s2 + n2)) := e
      obtain ⟨e1, e2⟩ := ih n2 (fun i hi => h1 i (by omega)) (fun i hi => h2 i (by omega)) (by omega)
      subst e1
      refine ⟨rfl, fun i hi => ?_⟩
      rcases Nat.lt_or_ge i n with q | q
      · exact e2 i q
      · have : i = n := by omega
        subst this
        rw [a.2.2.2, b.2.2.2, show dL (f (s + i)) = dL (f2 (s2 + i)) by omega]
/-- the grammar's words as numbers -/
def wC (j : Nat) : Int64 := [1510, 388708, 4075196, 355390, 10354323, 189278869, 6410291, 209220123, 311436].getD j 0
theorem zB_isL : ∀ j, j < 9 → ∀ i, i < zN j → 97 ≤ zB j (0 + i) ∧ zB j (0 + i) ≤ 122 := by decide +kernel
theorem wC_eq : ∀ j, j < 9 → wC j = lN (hN (zB j) 0 (zN j)) := by decide +kernel
theorem wC_ne : ∀ j, j < 9 → ¬ (0 : Int64) = wC j := by decide +kernel
theorem zN_7 : ∀ j, j < 9 → zN j < 7 := by decide +kernel
/-- what the reference's number says of the word -/
def WdOf (f : Nat → Int32) (k s e : Nat) (w : Int64) : Prop := ∀ j, j < 9 → (w = wC j ↔ Wrd f k s e j)
theorem wd_zero {f : Nat → Int32} {k s e : Nat} (h : ¬ (k = 1 ∧ e - s < 8)) : WdOf f k s e 0 := by
  intro j hj
  refine ⟨fun e => absurd e (wC_ne j hj), fun q => absurd ⟨q.1, ?_⟩ h⟩
  have := zN_7 j hj
  have := q.2.1
  omega
theorem wd_word {f : Nat → Int32} {s e : Nat} (hse : s ≤ e) (hl : ∀ i, s ≤ i → i < e → isL (f i)) (h8 : e - s < 8) : WdOf f 1 s e (wH f s (e - s)) := by
  have h1 : ∀ i, i < e - s → isL (f (s + i)) := fun i hi => hl (s + i) (by omega) (by omega)
  intro j hj
  have hz := hN_lt (f := zB j) (s := 0) (zN j) (zB_isL j hj)
  have hw := hN_lt (e - s) h1
  have p1 : (27 : Nat) ^ (e - s) ≤ 27 ^ 7 := Nat.pow_le_pow_right (by omega) (by omega)
  have p2 : (27 : Nat) ^ (zN j) ≤ 27 ^ 7 := Nat.pow_le_pow_right (by omega) (by have := zN_7 j hj; omega)
  have p3 : (27 : Nat) ^ 7 < 2 ^ 63 := by decide
  rw [wH_hN _ h1, wC_eq j hj, pk_lEQ (by omega) (by omega)]
  constructor
  · intro q
    obtain ⟨e1, e2⟩ := hN_inj _ _ h1 (zB_isL j hj) q
    exact ⟨rfl, e1, fun i hi => by have := e2 i (by omega); rw [Nat.zero_add] at this; exact this⟩
  · rintro ⟨-, e1, e2⟩
    rw [e1]
    have key : ∀ n, n ≤ zN j → hN f s n = hN (zB j) 0 n := by
      intro n
      induction n with
      | zero => intro _; rfl
      | succ n ih =>
        intro hn
        show 27 * hN f s n + dL (f (s + n)) = 27 * hN (zB j) 0 n + dL (zB j (0 + n))
        rw [ih (by omega), e2 n (by omega), Nat.zero_add]
    exact key _ (Nat.le_refl _)
/-- what the reference's number says of a number -/
def NmOf (f : Nat → Int32) (k s e : Nat) (nm : Int32) : Prop := (∃ v, Num f k s e v ∧ nm = nI (min 99999 v)) ∨ ((¬ ∃ v, Num f k s e v) ∧ nm = -9)
theorem nm_none {f : Nat → Int32} {k s e : Nat} (h : k ≠ 2) : NmOf f k s e (-9) := Or.inr ⟨fun ⟨_, q⟩ => h q.1, rfl⟩
theorem nm_num {f : Nat → Int32} {s e : Nat} (h : ¬ (f s = 48 ∧ 1 < e - s)) : NmOf f 2 s e (nI (min 99999 (dV f s (e - s)))) := Or.inl ⟨_, ⟨rfl, h, rfl⟩, rfl⟩
theorem nm_lead {f : Nat → Int32} {s e : Nat} (h : f s = 48 ∧ 1 < e - s) : NmOf f 2 s e (-9) := Or.inr ⟨fun ⟨_, q⟩ => q.2.1 h, rfl⟩
theorem nm_yes {f : Nat → Int32} {k s e lo hi : Nat} {nm : Int32} (h : NmOf f k s e nm) (hh : hi < 99999) (hin : nI lo ≤ nm ∧ nm ≤ nI hi) (hl : lo < 99999) : ∃ v, NumIn f k s e lo hi v ∧ nm = nI v := by
  rcases h with ⟨v, hv, rfl⟩ | ⟨-, rfl⟩
  · have h1 := (nI_leI (by omega) (by omega)).mp hin.1
    have h2 := (nI_leI (by omega) (by omega)).mp hin.2
    have : min 99999 v = v := by omega
    rw [this] at h1 h2 ⊢
    exact ⟨v, ⟨hv, h1, h2⟩, rfl⟩
  · exact absurd (Int32.le_trans hin.1 (show (-9 : Int32) ≤ -1 by decide)) (fun q => nI_pos (show lo < 2 ^ 31 by omega) (Int32.lt_of_le_of_lt q (by decide)))
theorem nm_no {f : Nat → Int32} {k s e lo hi : Nat} {nm : Int32} (h : NmOf f k s e nm) (hh : hi < 99999) (hin : ¬ (nI lo ≤ nm ∧ nm ≤ nI hi)) : ¬ ∃ v, NumIn f k s e lo hi v := by
  rintro ⟨v, hv, h1, h2⟩
  rcases h with ⟨v2, hv2, rfl⟩ | ⟨h9, -⟩
  · have := hv2.uniq hv
    subst this
    have : min 99999 v2 = v2 := by omega
    rw [this] at hin
    exact hin ⟨nI_le h1 (by omega), nI_le h2 (by omega)⟩
  · exact h9 ⟨v, hv⟩
theorem num_step {f : Nat → Int32} {s i : Nat} (hs : s ≤ i) (hd : isD (f i)) : (if (99999 : Int32) < 10 * nI (min 99999 (dV f s (i - s))) + bt f i - 48 then 99999 else 10 * nI (min 99999 (dV f s (i - s))) + bt f i - 48) = nI (min 99999 (dV f s (i + 1 - s))) := by
  obtain ⟨d, h1, h2, h3⟩ := digit_of hd
  have e : (10 : Int32) * nI (min 99999 (dV f s (i - s))) + bt f i - 48 = nI (10 * min 99999 (dV f s (i - s)) + d) := by
    rw [show bt f i = f i from bt_Dv hd, Int32.sub_eq_add_neg, Int32.add_assoc, ← Int32.sub_eq_add_neg, h2, show (10 : Int32) = nI 10 from rfl, nI_mul, nI_add]
  have e2 : dV f s (i + 1 - s) = dV f s (i - s) * 10 + d := by
    rw [show i + 1 - s = (i - s) + 1 by omega]
    show dV f s (i - s) * 10 + (f (s + (i - s)) - 48).toInt.toNat = _
    rw [show s + (i - s) = i by omega, h3]
  rw [e, e2, show (99999 : Int32) = nI 99999 from rfl]
  generalize dV f s (i - s) = z
  by_cases h : nI 99999 < nI (10 * min 99999 z + d)
  · rw [if_pos h]
    have := (nI_ltI (by omega) (by omega)).mp h
    rw [show min 99999 (z * 10 + d) = 99999 by omega]
  · rw [if_neg h]
    rcases Nat.lt_or_ge 99999 (10 * min 99999 z + d) with q | q
    · exact absurd (nI_lt q (by omega)) h
    · rw [show min 99999 (z * 10 + d) = 10 * min 99999 z + d by omega]
/-- the token's kind, its places, its word and its number -/
abbrev TKN : Type := Nat × Nat × Nat × Int64 × Int32
def GoT (f : Nat → Int32) (L p : Nat) (u : TKN) : Prop := Tok f L p u.1 u.2.1 u.2.2.1 ∧ WdOf f u.1 u.2.1 u.2.2.1 u.2.2.2.1 ∧ NmOf f u.1 u.2.1 u.2.2.1 u.2.2.2.2
theorem cmp_eq {x y : Int64} : lg_cmp x y = 0 ↔ x = y := by
  unfold lg_cmp
  constructor
  · intro h
    by_cases h1 : x > y
    · rw [if_pos h1] at h; exact absurd h (by decide)
    · rw [if_neg h1] at h
      by_cases h2 : x = y
      · exact h2
      · rw [if_neg h2] at h; exact absurd h (by decide)
  · rintro rfl
    rw [if_neg (Int64.lt_irrefl), if_pos rfl]
