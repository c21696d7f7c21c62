/-! ===== p29: fees are numbers of a bounded size ===== -/
/-- a number from 0 to B -/
def Bd (x : Int32) (B : Nat) : Prop := ∃ v, v ≤ B ∧ x = nI v
theorem Bd.nn {x : Int32} {B : Nat} (hB : B < 2 ^ 31) (h : Bd x B) : 0 ≤ x := by
  obtain ⟨v, hv, rfl⟩ := h
  exact nI_pos' (by omega)
theorem Bd.mono {x : Int32} {B C : Nat} (h : Bd x B) (hc : B ≤ C) : Bd x C := by
  obtain ⟨v, hv, e⟩ := h
  exact ⟨v, by omega, e⟩
theorem bd_of {x : Int32} {B : Nat} (hB : B + 1 < 2 ^ 31) (h : 0 ≤ x ∧ x ≤ nI B) : Bd x B := by
  obtain ⟨k, hk, e⟩ := wi_ix hB h
  exact ⟨k, by omega, e⟩
theorem un_bd {d u : Nat} (hd : d ≤ 20000) (hu0 : 0 < u) (hu : u ≤ 240) : Bd (Un (nI d) (nI u)) 20240 := by
  refine ⟨(d + u - 1) / u, ?_, ?_⟩
  · have := Nat.div_le_self (d + u - 1) u
    omega
  · unfold Un
    have h0 : (0 : Int32) < nI u := nI_lt (a := 0) hu0 (by omega)
    rw [if_pos h0, nI_add, show (1 : Int32) = nI 1 from rfl, pk_sub (by omega), pk_div (by omega) hu0 (by omega)]
/-- units at most 240, prices from 0 to 5000 -/
def TB (g : Nat → Nat → Int32) (n : Nat) : Prop := (∀ j, j < n → g 2 j ≤ 240) ∧ ∀ j, j < n → 0 ≤ g 3 j ∧ g 3 j ≤ 5000
theorem tS_bd {g : Nat → Nat → Int32} {n : Nat} {m : Int32} (h : Tk g n) (hb : TB g n) (hm : m ≤ nI 20000) : ∀ j, j ≤ n → Bd (tS (g 1) (g 2) (g 3) n m j) (j * 101200000) := by
  obtain ⟨-, hn, hs, h1, h2⟩ := h
  intro j
  induction j with
  | zero => intro _; exact ⟨0, Nat.le_refl _, rfl⟩
  | succ j ih =>
    intro hj
    obtain ⟨v, hv, e⟩ := ih (by omega)
    show Bd (tS (g 1) (g 2) (g 3) n m j + (if g 1 j < m then g 3 j * Un (tup (g 1) n m j - g 1 j) (g 2 j) else 0)) _
    rw [e]
    by_cases c : g 1 j < m
    · rw [if_pos c]
      have hst := h2 j (by omega)
      obtain ⟨mm, hmm, em⟩ := bd_of (x := m) (B := 20000) (by decide) ⟨Int32.le_trans hst (Int32.le_of_lt c), hm⟩
      obtain ⟨a, ha, ea⟩ := bd_of (x := g 1 j) (B := 20000) (by decide) ⟨hst, Int32.le_trans (Int32.le_of_lt c) hm⟩
      obtain ⟨u, hu, eu⟩ := bd_of (x := g 2 j) (B := 240) (by decide) ⟨Int32.le_of_lt (h1 j (by omega)), hb.1 j (by omega)⟩
      have hu0 : 0 < u := by
        have := h1 j (by omega)
        rw [eu] at this
        exact (nI_ltI (a := 0) (by decide) (by omega)).mp this
      obtain ⟨p, hp, ep⟩ := bd_of (x := g 3 j) (B := 5000) (by decide) (hb.2 j (by omega))
      have ht : ∃ t, a < t ∧ t ≤ 20000 ∧ tup (g 1) n m j = nI t := by
        have ham : a < mm := by
          rw [ea, em] at c
          exact (nI_ltI (by omega) (by omega)).mp c
        unfold tup
        by_cases q : j + 1 < n
        · rw [if_pos q]
          by_cases r : g 1 (j + 1) < m
          · rw [if_pos r]
            have hlt := hs j (j + 1) (by omega) q
            obtain ⟨b, hb2, eb⟩ := bd_of (x := g 1 (j + 1)) (B := 20000) (by decide) ⟨h2 (j + 1) q, Int32.le_trans (Int32.le_of_lt r) hm⟩
            refine ⟨b, ?_, hb2, eb⟩
            rw [ea, eb] at hlt
            exact (nI_ltI (by omega) (by omega)).mp hlt
          · rw [if_neg r]
            exact ⟨mm, ham, hmm, em⟩
        · rw [if_neg q]
          exact ⟨mm, ham, hmm, em⟩
      obtain ⟨t, ht1, ht2, et⟩ := ht
      obtain ⟨w, hw, ew⟩ := un_bd (d := t - a) (u := u) (by omega) hu0 hu
      rw [et, ea, eu, ep, pk_sub (by omega), ew, pk_mul, nI_add]
      refine ⟨v + p * w, ?_, rfl⟩
      have : p * w ≤ 5000 * 20240 := Nat.mul_le_mul hp hw
      omega
    · rw [if_neg c]
      exact ⟨v, Nat.le_trans hv (Nat.mul_le_mul_right _ (Nat.le_succ j)), i_add0 _⟩
theorem tS_all {g : Nat → Nat → Int32} {n : Nat} {m : Int32} (h : Tk g n) (hb : TB g n) (hm : m ≤ nI 20000) : Bd (tS (g 1) (g 2) (g 3) n m n) 506000000 := (tS_bd h hb hm n (Nat.le_refl n)).mono (by have := h.2.1; omega)
theorem nF_bd {g : Nat → Nat → Int32} {nb : Nat → Int32} {n M : Nat} (h : Tk g n) (hb : TB g n) (hx : 0 ≤ nb 3 ∧ nb 3 ≤ 99999) (hM : M ≤ 20000) : Bd (nF nb (g 1) (g 2) (g 3) n (nI M)) 506000000 := by
  have ht := tS_all h hb (m := nI M) (nI_le hM (by decide))
  unfold nF
  by_cases c : nI M ≤ nb 2
  · rw [if_pos c]
    exact ⟨0, Nat.zero_le _, rfl⟩
  · rw [if_neg c]
    by_cases d : nb 3 * ((nI M + 1440 - 1) / 1440) < tS (g 1) (g 2) (g 3) n (nI M) n
    · rw [if_pos d]
      obtain ⟨x, hx1, ex⟩ := bd_of (x := nb 3) (B := 99999) (by decide) hx
      rw [ex, show (1440 : Int32) = nI 1440 from rfl, show (1 : Int32) = nI 1 from rfl, nI_add, pk_sub (by omega), pk_div (by omega) (by decide) (by decide), pk_mul]
      refine ⟨_, ?_, rfl⟩
      have : (M + 1440 - 1) / 1440 ≤ 14 := by omega
      have : x * ((M + 1440 - 1) / 1440) ≤ 99999 * 14 := Nat.mul_le_mul hx1 this
      omega
    · rw [if_neg d]
      exact ht
