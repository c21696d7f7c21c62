/-! ===== what is always so of a state (lf: how many cars have left) ===== -/
structure Inv (g : Nat → Nat → Int32) (lf : Int32) (n q tn tu T : Nat) : Prop where
  hn : g 3 0 = nI n
  hnb : n ≤ 30
  hq : g 12 0 = nI q
  hqc : q ≤ 16
  ht : g 19 0 = nI tn
  htb : tn ≤ 5
  hts1 : Srt (g 20) tn
  htu : ∀ j, j < tn → 0 < g 21 j
  hu : g 23 0 = nI tu
  hub : tu ≤ 5
  hus1 : Srt (g 24) tu
  huu : ∀ j, j < tu → 0 < g 25 j
  hu0 : ∀ j, j < tu → 0 ≤ g 24 j
  hst : ∀ w, w < q → 0 ≤ g 18 w
  hsz : ∀ w, w < n → 0 ≤ g 6 w
  hits : ∀ k, k < n → g 11 k = -9 ∨ ∃ w, w < q ∧ g 11 k = nI w
  hbe : ∀ w, w < q → ∃ a b, g 15 w = nI a ∧ g 16 w = nI b ∧ a < b ∧ b ≤ a + 1440 ∧ a ≤ 20000
  hwh : ∀ w, w < q → ∃ b, b < n ∧ g 14 w = nI b
  hT0 : g 0 0 = nI T
  hT0b : T ≤ 20000
  hho : ∃ h, g 1 1 = nI h ∧ h ≤ 120
  hcnt : ∃ z, Cnt (fun w => ¬ g 8 w = 0) n z ∧ g 0 1 - lf = nI z
theorem Inv.hen {g : Nat → Nat → Int32} {lf : Int32} {n q tn tu T : Nat} (h : Inv g lf n q tn tu T) : ∀ w, w < q → Nn (g 16 w) := fun w hw => by
  obtain ⟨a, b, -, e, h1, h2, h3⟩ := h.hbe w hw
  rw [e]
  exact nn_nI (by omega)
theorem Inv.htm {g : Nat → Nat → Int32} {lf : Int32} {n q tn tu T : Nat} (h : Inv g lf n q tn tu T) : g 0 0 < 30000 := by
  rw [h.hT0]
  exact nI_lt (b := 30000) (by have := h.hT0b; omega) (by decide)
theorem Inv.w7 {g : Nat → Nat → Int32} {lf : Int32} {n q tn tu T : Nat} {f : Nat → Int32} (h : Inv g lf n q tn tu T) : Inv (w2 g 7 f) lf n q tn tu T :=
  ⟨h.hn, h.hnb, h.hq, h.hqc, h.ht, h.htb, h.hts1, h.htu, h.hu, h.hub, h.hus1, h.huu, h.hu0, h.hst, h.hsz, h.hits, h.hbe, h.hwh, h.hT0, h.hT0b, h.hho, h.hcnt⟩
theorem Inv.nums {g : Nat → Nat → Int32} {lf : Int32} {n q tn tu T : Nat} (h : Inv g lf n q tn tu T) : Nums g n q tn tu := ⟨h.hn, h.hnb, h.hq, h.hqc, h.ht, h.htb, h.hu, h.hub⟩
