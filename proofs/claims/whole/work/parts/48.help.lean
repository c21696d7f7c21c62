/-! ===== words for the reference's writing methods ===== -/
theorem lesser_comm (a b : Int32) : (if a < b then a else b) = if b < a then b else a := by
  by_cases h : a < b
  · rw [if_pos h, if_neg (fun q => Int32.lt_irrefl (i_lt_trans h q))]
  · rw [if_neg h]
    by_cases h2 : b < a
    · rw [if_pos h2]
    · rw [if_neg h2]
      exact Int32.le_antisymm (Int32.not_lt.mp h) (Int32.not_lt.mp h2)
theorem i_sub_sub (t x : Int32) : t - (t - x) = x := by
  rw [Int32.sub_eq_add_neg, Int32.neg_sub, Int32.add_comm, Int32.sub_add_cancel]
theorem tS_neg {st un pr : Nat → Int32} {n : Nat} {m : Int32} (hm : m ≤ 0) (h0 : ∀ j, j < n → 0 ≤ st j) : ∀ k, k ≤ n → tS st un pr n m k = 0 := by
  intro k
  induction k with
  | zero => intro _; rfl
  | succ k ih =>
    intro hk
    show tS st un pr n m k + (if st k < m then pr k * Un (tup st n m k - st k) (un k) else 0) = 0
    rw [ih (by omega), if_neg (fun q => Int32.not_lt.mpr (Int32.le_trans hm (h0 k (by omega))) q)]
    rfl
abbrev Nn (x : Int32) : Prop := 0 ≤ x ∧ x ≤ 60000
theorem i_sub_le {t e : Int32} (h1 : Nn t) (h2 : Nn e) (h : t ≤ e) : t - e ≤ 0 := by
  obtain ⟨a1, a2⟩ := h1
  obtain ⟨b1, b2⟩ := h2
  rw [Int32.le_iff_toInt_le] at *
  have e0 : (0 : Int32).toInt = 0 := by decide
  have e6 : (60000 : Int32).toInt = 60000 := by decide
  rw [Int32.toInt_sub, Int.bmod_eq_of_le (by omega) (by omega)]
  omega
theorem w2_comm {g : Nat → Nat → Int32} {r1 r2 : Nat} {f1 f2 : Nat → Int32} (h : Nat.beq r1 r2 = false) : w2 (w2 g r1 f1) r2 f2 = w2 (w2 g r2 f2) r1 f1 := by
  funext k
  unfold w2
  cases h1 : Nat.beq k r1 with
  | false => rfl
  | true =>
    have : k = r1 := Nat.eq_of_beq_eq_true h1
    subst this
    rw [h]
    rfl
theorem w2_w2 {g : Nat → Nat → Int32} {r : Nat} {f1 f2 : Nat → Int32} : w2 (w2 g r f1) r f2 = w2 g r f2 := by
  funext k
  unfold w2
  cases Nat.beq k r <;> rfl
theorem enc_zero : enc z2 0 = fun _ => 0 := by
  funext i
  unfold enc
  by_cases h : i = 4
  · rw [if_pos h]
  · rw [if_neg h]
/-- a tariff's rows in a state -/
abbrev tV (g : Nat → Nat → Int32) (t : Nat) : Nat → Nat → Int32 := fun k => g (19 + 4 * t + k)
/-- numbers behind i, up to top, have gone up by three places -/
def sh3 (f : Nat → Int32) (i top : Nat) : Nat → Int32 := fun j => if i + 3 < j ∧ j ≤ top + 3 then f (j - 3) else f j
theorem sh3_0 {f : Nat → Int32} {i : Nat} : f = sh3 f i i := funext fun j => (if_neg (fun q => by omega)).symm
theorem sh3_at {f : Nat → Int32} {i top : Nat} : sh3 f i top i = f i := if_neg (fun q => by omega)
theorem sh3_s {f : Nat → Int32} {i top : Nat} (h0 : 0 < i) (h : i ≤ top) : upd (sh3 f i top) (i + 3) (f i) = sh3 f (i - 1) top := by
  funext j
  unfold upd sh3
  by_cases hj : j = i + 3
  · subst hj
    rw [if_pos rfl, if_pos ⟨by omega, by omega⟩, show i + 3 - 3 = i by omega]
  · rw [if_neg hj]
    by_cases h2 : i + 3 < j ∧ j ≤ top + 3
    · rw [if_pos h2, if_pos ⟨by omega, h2.2⟩]
    · rw [if_neg h2, if_neg (fun q => h2 ⟨by omega, q.2⟩)]
/-- numbers from lo up to before i have come down by three places -/
def dn3 (f : Nat → Int32) (lo i : Nat) : Nat → Int32 := fun j => if lo ≤ j ∧ j < i then f (j + 3) else f j
theorem dn3_0 {f : Nat → Int32} {i : Nat} : f = dn3 f i i := funext fun j => (if_neg (fun q => by omega)).symm
theorem dn3_at {f : Nat → Int32} {lo i k : Nat} (h : i ≤ k) : dn3 f lo i k = f k := if_neg (fun q => by omega)
theorem dn3_s {f : Nat → Int32} {lo i : Nat} (h : lo ≤ i) : upd (dn3 f lo i) i (f (i + 3)) = dn3 f lo (i + 1) := by
  funext j
  unfold upd dn3
  by_cases hj : j = i
  · subst hj
    rw [if_pos rfl, if_pos ⟨h, by omega⟩]
  · rw [if_neg hj]
    by_cases h2 : lo ≤ j ∧ j < i
    · rw [if_pos h2, if_pos ⟨h2.1, by omega⟩]
    · rw [if_neg h2, if_neg (fun q => h2 ⟨q.1, by omega⟩)]
/-- the places of tariff t, or another place -/
theorem tar_cases {t : Nat} (ht : t < 2) (i : Nat) : i = 14 + 16 * t ∨ (∃ w j, w < 3 ∧ j < 5 ∧ i = 14 + 16 * t + (1 + w) + 3 * j) ∨ ((i < 14 + 16 * t ∨ 14 + 16 * t + 15 < i) ∧ ∀ r, r < 4 → (posR i).1 ≠ 19 + 4 * t + r) := by
  by_cases h0 : i = 14 + 16 * t
  · exact Or.inl h0
  · by_cases h1 : 14 + 16 * t < i ∧ i ≤ 14 + 16 * t + 15
    · exact Or.inr (Or.inl ⟨(i - (14 + 16 * t) - 1) % 3, (i - (14 + 16 * t) - 1) / 3, by omega, by omega, by omega⟩)
    · refine Or.inr (Or.inr ⟨by omega, fun r hr => ?_⟩)
      unfold posR
      by_cases h2 : i < 46
      · rw [if_pos h2]
        have key : ∀ t, t < 2 → ∀ i, i < 46 → (i < 14 + 16 * t ∨ 14 + 16 * t + 15 < i) → ∀ r, r < 4 → (pos0 i).1 ≠ 19 + 4 * t + r := by decide +kernel
        exact key t ht i h2 (by omega) r hr
      · rw [if_neg h2]
        by_cases h3 : i < 142
        · rw [if_pos h3]
          dsimp only
          omega
        · rw [if_neg h3]
          dsimp only
          have key : ∀ w, w < 8 → bR w < 19 := by decide +kernel
          have := key ((i - 142) % 8) (by omega)
          omega
theorem wblk_in {g u : Nat → Nat → Int32} {B w : Nat} (hw : w < 4) : wblk g B 4 u (B + w) = u w := by
  unfold wblk
  rw [show (Nat.ble B (B + w) && Nat.blt (B + w) (B + 4)) = true from by
    rw [Bool.and_eq_true]
    exact ⟨Nat.ble_eq_true_of_le (by omega), Nat.ble_eq_true_of_le (by omega)⟩]
  show u (B + w - B) = u w
  rw [show B + w - B = w by omega]
theorem wblk_out {g u : Nat → Nat → Int32} {B r : Nat} (h : ∀ w, w < 4 → r ≠ B + w) : wblk g B 4 u r = g r := by
  unfold wblk
  cases hb : (Nat.ble B r && Nat.blt r (B + 4)) with
  | false => rfl
  | true =>
    rw [Bool.and_eq_true] at hb
    have h1 := Nat.le_of_ble_eq_true hb.1
    have h2 := Nat.le_of_ble_eq_true hb.2
    exact absurd (show r = B + (r - B) by omega) (h (r - B) (by omega))
/-- the reference's row behind puts, a step ahead of place k -/
theorem puts_enc {g : Nat → Nat → Int32} {lf x un pr c : Int32} {t k n : Nat} (ht : t < 2) (hk : k ≤ n) (hn : n < 5) (hc : c = g (19 + 4 * t) 0 + 1) :
    upd (upd (upd (upd (sh3 (enc g lf) (14 + 16 * t + 3 * k) (14 + 16 * t + 3 * n)) (14 + 16 * t) c) (14 + 16 * t + 1 + 3 * k) x) (14 + 16 * t + 2 + 3 * k) un) (14 + 16 * t + 3 + 3 * k) pr = enc (wblk g (19 + 4 * t) 4 (T2 (tV g t) k n x un pr)) lf := by
  funext i
  rcases tar_cases ht i with rfl | ⟨w, j, hw, hj, rfl⟩ | ⟨h1, h2⟩
  · rw [updN (by omega), updN (by omega), updN (by omega), updE, enc_at (by omega) (posR_tn ht), hc]
    have e := wblk_in (g := g) (u := T2 (tV g t) k n x un pr) (B := 19 + 4 * t) (w := 0) (by omega)
    rw [show 19 + 4 * t + 0 = 19 + 4 * t from rfl] at e
    rw [e]
    rfl
  · rw [enc_at (by omega) (posR_tar ht hj hw), wblk_in (by omega)]
    have hsh : sh3 (enc g lf) (14 + 16 * t + 3 * k) (14 + 16 * t + 3 * n) (14 + 16 * t + (1 + w) + 3 * j) = shR (g (19 + 4 * t + (1 + w))) k n j := by
      unfold sh3 shR
      by_cases h : k < j ∧ j ≤ n
      · rw [if_pos (by omega), if_pos h, show 14 + 16 * t + (1 + w) + 3 * j - 3 = 14 + 16 * t + (1 + w) + 3 * (j - 1) by omega, enc_at (by omega) (posR_tar ht (by omega) hw)]
      · rw [if_neg (by omega), if_neg h, enc_at (by omega) (posR_tar ht hj hw)]
    rcases (show w = 0 ∨ w = 1 ∨ w = 2 by omega) with rfl | rfl | rfl
    · rw [updN (by omega), updN (by omega)]
      show _ = upd (shR (tV g t 1) k n) k x j
      by_cases h : j = k
      · subst h; rw [updE, updE]
      · rw [updN h, updN (by omega), updN (by omega)]; exact hsh
    · rw [updN (by omega)]
      show _ = upd (shR (tV g t 2) k n) k un j
      by_cases h : j = k
      · subst h; rw [updE, updE]
      · rw [updN h, updN (by omega), updN (by omega), updN (by omega)]; exact hsh
    · show _ = upd (shR (tV g t 3) k n) k pr j
      by_cases h : j = k
      · subst h; rw [updE, updE]
      · rw [updN h, updN (by omega), updN (by omega), updN (by omega), updN (by omega)]; exact hsh
  · rw [updN (by omega), updN (by omega), updN (by omega), updN (by omega)]
    unfold sh3 enc
    rw [if_neg (by omega)]
    by_cases h4 : i = 4
    · rw [if_pos h4, if_pos h4]
    · rw [if_neg h4, if_neg h4, wblk_out h2]
/-- behind puts, the step at place k in place of the one before -/
theorem putr_enc {g : Nat → Nat → Int32} {lf x un pr : Int32} {t k : Nat} (ht : t < 2) (hk : k < 5) :
    upd (upd (upd (enc g lf) (14 + 16 * t + 1 + 3 * k) x) (14 + 16 * t + 2 + 3 * k) un) (14 + 16 * t + 3 + 3 * k) pr = enc (wblk g (19 + 4 * t) 4 (T1 (tV g t) k x un pr)) lf := by
  funext i
  rcases tar_cases ht i with rfl | ⟨w, j, hw, hj, rfl⟩ | ⟨h1, h2⟩
  · rw [updN (by omega), updN (by omega), updN (by omega), enc_at (by omega) (posR_tn ht), enc_at (by omega) (posR_tn ht)]
    have e := wblk_in (g := g) (u := T1 (tV g t) k x un pr) (B := 19 + 4 * t) (w := 0) (by omega)
    rw [show 19 + 4 * t + 0 = 19 + 4 * t from rfl] at e
    rw [e]
    rfl
  · rw [enc_at (g := wblk _ _ _ _) (by omega) (posR_tar ht hj hw), wblk_in (by omega)]
    have hsh : enc g lf (14 + 16 * t + (1 + w) + 3 * j) = g (19 + 4 * t + (1 + w)) j := enc_at (by omega) (posR_tar ht hj hw)
    rcases (show w = 0 ∨ w = 1 ∨ w = 2 by omega) with rfl | rfl | rfl
    · rw [updN (by omega), updN (by omega)]
      show _ = upd (tV g t 1) k x j
      by_cases h : j = k
      · subst h; rw [updE, updE]
      · rw [updN h, updN (by omega)]; exact hsh
    · rw [updN (by omega)]
      show _ = upd (tV g t 2) k un j
      by_cases h : j = k
      · subst h; rw [updE, updE]
      · rw [updN h, updN (by omega), updN (by omega)]; exact hsh
    · show _ = upd (tV g t 3) k pr j
      by_cases h : j = k
      · subst h; rw [updE, updE]
      · rw [updN h, updN (by omega), updN (by omega), updN (by omega)]; exact hsh
  · rw [updN (by omega), updN (by omega), updN (by omega)]
    unfold enc
    by_cases h4 : i = 4
    · rw [if_pos h4, if_pos h4]
    · rw [if_neg h4, if_neg h4, wblk_out h2]
/-- behind drops -/
theorem drops_enc {g : Nat → Nat → Int32} {lf c : Int32} {t k n : Nat} (ht : t < 2) (hk : k < n) (hn : n ≤ 5) (hc : c = g (19 + 4 * t) 0 - 1) :
    dn3 (upd (enc g lf) (14 + 16 * t) c) (14 + 16 * t + 1 + 3 * k) (14 + 16 * t + 3 * (n - 1) + 1) = enc (wblk g (19 + 4 * t) 4 (T3 (tV g t) k n)) lf := by
  funext i
  rcases tar_cases ht i with rfl | ⟨w, j, hw, hj, rfl⟩ | ⟨h1, h2⟩
  · unfold dn3
    rw [if_neg (by omega), updE, enc_at (by omega) (posR_tn ht), hc]
    have e := wblk_in (g := g) (u := T3 (tV g t) k n) (B := 19 + 4 * t) (w := 0) (by omega)
    rw [show 19 + 4 * t + 0 = 19 + 4 * t from rfl] at e
    rw [e]
    rfl
  · rw [enc_at (g := wblk _ _ _ _) (by omega) (posR_tar ht hj hw), wblk_in (by omega)]
    have hsh : dn3 (upd (enc g lf) (14 + 16 * t) c) (14 + 16 * t + 1 + 3 * k) (14 + 16 * t + 3 * (n - 1) + 1) (14 + 16 * t + (1 + w) + 3 * j) = dlR (g (19 + 4 * t + (1 + w))) k n j := by
      unfold dn3 dlR
      by_cases h : k ≤ j ∧ j + 1 < n
      · rw [if_pos (by omega), if_pos h, show 14 + 16 * t + (1 + w) + 3 * j + 3 = 14 + 16 * t + (1 + w) + 3 * (j + 1) by omega, updN (by omega), enc_at (by omega) (posR_tar ht (by omega) hw)]
      · rw [if_neg (by omega), if_neg h, updN (by omega), enc_at (by omega) (posR_tar ht hj hw)]
    rcases (show w = 0 ∨ w = 1 ∨ w = 2 by omega) with rfl | rfl | rfl
    · exact hsh
    · exact hsh
    · exact hsh
  · unfold dn3
    rw [if_neg (by omega), updN (by omega)]
    unfold enc
    by_cases h4 : i = 4
    · rw [if_pos h4, if_pos h4]
    · rw [if_neg h4, if_neg h4, wblk_out h2]
/-- the reference's saved states: np of them, hs and lfs -/
def PRel (P : Nat → Int32) (np : Nat) (hs : Nat → Nat → Nat → Int32) (lfs : Nat → Int32) : Prop := ∀ i, i < np → ∀ j, j < 382 → P (382 * i + j) = enc (hs i) (lfs i) j
/-- what is saved behind a call that saves g and lf -/
def Sv (k : Nat) (hs : Nat → Nat → Nat → Int32) (lfs : Nat → Int32) (g : Nat → Nat → Int32) (lf : Int32) (k2 : Nat) (hs2 : Nat → Nat → Nat → Int32) (lfs2 : Nat → Int32) : Prop := (k < 6 ∧ k2 = k + 1 ∧ hs2 = upH hs k g ∧ lfs2 = upd lfs k lf) ∨ (k = 6 ∧ k2 = 6 ∧ hs2 = upH (fun i => hs (rt6 i)) 5 g ∧ lfs2 = upd (fun i => lfs (rt6 i)) 5 lf)
/-- a row of saved states with all moved down by one, up to i -/
def dnP (P : Nat → Int32) (i : Nat) : Nat → Int32 := fun j => if j < i then P (j + 382) else P j
theorem dnP_0 {P : Nat → Int32} : P = dnP P 0 := funext fun j => (if_neg (fun q => by omega)).symm
theorem dnP_at {P : Nat → Int32} {i k : Nat} (h : i ≤ k) : dnP P i k = P k := if_neg (fun q => by omega)
theorem dnP_s {P : Nat → Int32} {i : Nat} : upd (dnP P i) i (P (i + 382)) = dnP P (i + 1) := by
  funext j
  unfold upd dnP
  by_cases hj : j = i
  · subst hj; rw [if_pos rfl, if_pos (by omega)]
  · rw [if_neg hj]
    by_cases h2 : j < i
    · rw [if_pos h2, if_pos (by omega)]
    · rw [if_neg h2, if_neg (by omega)]
/-- a row with i numbers of f from place o on -/
def inP (P f : Nat → Int32) (o i : Nat) : Nat → Int32 := fun j => if o ≤ j ∧ j < o + i then f (j - o) else P j
theorem inP_0 {P f : Nat → Int32} {o : Nat} : P = inP P f o 0 := funext fun j => (if_neg (fun q => by omega)).symm
theorem inP_s {P f : Nat → Int32} {o i : Nat} : upd (inP P f o i) (o + i) (f i) = inP P f o (i + 1) := by
  funext j
  unfold upd inP
  by_cases hj : j = o + i
  · subst hj; rw [if_pos rfl, if_pos ⟨by omega, by omega⟩, show o + i - o = i by omega]
  · rw [if_neg hj]
    by_cases h2 : o ≤ j ∧ j < o + i
    · rw [if_pos h2, if_pos ⟨h2.1, by omega⟩]
    · rw [if_neg h2, if_neg (fun q => h2 ⟨q.1, by omega⟩)]
theorem PRel.save {P : Nat → Int32} {k : Nat} {hs : Nat → Nat → Nat → Int32} {lfs : Nat → Int32} {g : Nat → Nat → Int32} {lf : Int32} (h : PRel P k hs lfs) : PRel (inP P (enc g lf) (382 * k) 382) (k + 1) (upH hs k g) (upd lfs k lf) := by
  intro i hi j hj
  unfold inP
  by_cases hk : i = k
  · subst hk
    rw [if_pos ⟨by omega, by omega⟩, show 382 * i + j - 382 * i = j by omega, updE, show upH hs i g i = g from if_pos rfl]
  · rw [if_neg (fun q => by omega), updN hk, show upH hs k g i = hs i from if_neg hk]
    exact h i (by omega) j hj
theorem PRel.drop {P : Nat → Int32} {hs : Nat → Nat → Nat → Int32} {lfs : Nat → Int32} (h : PRel P 6 hs lfs) : PRel (dnP P 1910) 5 (fun i => hs (rt6 i)) (fun i => lfs (rt6 i)) := by
  intro i hi j hj
  unfold dnP
  show (if 382 * i + j < 1910 then P (382 * i + j + 382) else P (382 * i + j)) = enc (hs (rt6 i)) (lfs (rt6 i)) j
  rw [if_pos (by omega), show rt6 i = i + 1 from if_neg (by omega), show 382 * i + j + 382 = 382 * (i + 1) + j by omega]
  exact h (i + 1) (by omega) j hj
