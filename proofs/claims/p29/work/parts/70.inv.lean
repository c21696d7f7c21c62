/-! ===== what is always so of a state (lf: how many cars have left) ===== -/
def Inv (g : Nat → Nat → Int32) (lf : Int32) (n q tn tu T : Nat) : Prop :=
  (g 3 0 = nI n) ∧
  (n ≤ 30) ∧
  (g 12 0 = nI q) ∧
  (q ≤ 16) ∧
  (g 19 0 = nI tn) ∧
  (tn ≤ 5) ∧
  (Srt (g 20) tn) ∧
  (∀ j, j < tn → 0 < g 21 j) ∧
  (∀ j, j < tn → 0 ≤ g 20 j) ∧
  (g 23 0 = nI tu) ∧
  (tu ≤ 5) ∧
  (Srt (g 24) tu) ∧
  (∀ j, j < tu → 0 < g 25 j) ∧
  (∀ j, j < tu → 0 ≤ g 24 j) ∧
  (∀ w, w < q → 0 ≤ g 18 w) ∧
  (∀ w, w < n → 0 ≤ g 6 w) ∧
  (∀ k, k < n → g 11 k = -9 ∨ ∃ w, w < q ∧ g 11 k = nI w) ∧
  (∀ w, w < q → ∃ a b, g 15 w = nI a ∧ g 16 w = nI b ∧ a < b ∧ b ≤ a + 1440 ∧ a ≤ 20000) ∧
  (∀ w, w < q → ∃ b, b < n ∧ g 14 w = nI b) ∧
  (g 0 0 = nI T) ∧
  (T ≤ 20000) ∧
  (∃ h, g 1 1 = nI h ∧ h ≤ 120) ∧
  (∀ w, w < n → g 8 w = 0 → g 9 w = 0) ∧
  (∃ z, Cnt (fun w => ¬ g 8 w = 0) n z ∧ g 0 1 - lf = nI z)
theorem Inv.hn {g : Nat → Nat → Int32} {lf : Int32} {n q tn tu T : Nat} (h : Inv g lf n q tn tu T) : g 3 0 = nI n := h.1
theorem Inv.hnb {g : Nat → Nat → Int32} {lf : Int32} {n q tn tu T : Nat} (h : Inv g lf n q tn tu T) : n ≤ 30 := h.2.1
theorem Inv.hq {g : Nat → Nat → Int32} {lf : Int32} {n q tn tu T : Nat} (h : Inv g lf n q tn tu T) : g 12 0 = nI q := h.2.2.1
theorem Inv.hqc {g : Nat → Nat → Int32} {lf : Int32} {n q tn tu T : Nat} (h : Inv g lf n q tn tu T) : q ≤ 16 := h.2.2.2.1
theorem Inv.ht {g : Nat → Nat → Int32} {lf : Int32} {n q tn tu T : Nat} (h : Inv g lf n q tn tu T) : g 19 0 = nI tn := h.2.2.2.2.1
theorem Inv.htb {g : Nat → Nat → Int32} {lf : Int32} {n q tn tu T : Nat} (h : Inv g lf n q tn tu T) : tn ≤ 5 := h.2.2.2.2.2.1
theorem Inv.hts1 {g : Nat → Nat → Int32} {lf : Int32} {n q tn tu T : Nat} (h : Inv g lf n q tn tu T) : Srt (g 20) tn := h.2.2.2.2.2.2.1
theorem Inv.htu {g : Nat → Nat → Int32} {lf : Int32} {n q tn tu T : Nat} (h : Inv g lf n q tn tu T) : ∀ j, j < tn → 0 < g 21 j := h.2.2.2.2.2.2.2.1
theorem Inv.ht0 {g : Nat → Nat → Int32} {lf : Int32} {n q tn tu T : Nat} (h : Inv g lf n q tn tu T) : ∀ j, j < tn → 0 ≤ g 20 j := h.2.2.2.2.2.2.2.2.1
theorem Inv.hu {g : Nat → Nat → Int32} {lf : Int32} {n q tn tu T : Nat} (h : Inv g lf n q tn tu T) : g 23 0 = nI tu := h.2.2.2.2.2.2.2.2.2.1
theorem Inv.hub {g : Nat → Nat → Int32} {lf : Int32} {n q tn tu T : Nat} (h : Inv g lf n q tn tu T) : tu ≤ 5 := h.2.2.2.2.2.2.2.2.2.2.1
theorem Inv.hus1 {g : Nat → Nat → Int32} {lf : Int32} {n q tn tu T : Nat} (h : Inv g lf n q tn tu T) : Srt (g 24) tu := h.2.2.2.2.2.2.2.2.2.2.2.1
theorem Inv.huu {g : Nat → Nat → Int32} {lf : Int32} {n q tn tu T : Nat} (h : Inv g lf n q tn tu T) : ∀ j, j < tu → 0 < g 25 j := h.2.2.2.2.2.2.2.2.2.2.2.2.1
theorem Inv.hu0 {g : Nat → Nat → Int32} {lf : Int32} {n q tn tu T : Nat} (h : Inv g lf n q tn tu T) : ∀ j, j < tu → 0 ≤ g 24 j := h.2.2.2.2.2.2.2.2.2.2.2.2.2.1
theorem Inv.hst {g : Nat → Nat → Int32} {lf : Int32} {n q tn tu T : Nat} (h : Inv g lf n q tn tu T) : ∀ w, w < q → 0 ≤ g 18 w := h.2.2.2.2.2.2.2.2.2.2.2.2.2.2.1
theorem Inv.hsz {g : Nat → Nat → Int32} {lf : Int32} {n q tn tu T : Nat} (h : Inv g lf n q tn tu T) : ∀ w, w < n → 0 ≤ g 6 w := h.2.2.2.2.2.2.2.2.2.2.2.2.2.2.2.1
theorem Inv.hits {g : Nat → Nat → Int32} {lf : Int32} {n q tn tu T : Nat} (h : Inv g lf n q tn tu T) : ∀ k, k < n → g 11 k = -9 ∨ ∃ w, w < q ∧ g 11 k = nI w := h.2.2.2.2.2.2.2.2.2.2.2.2.2.2.2.2.1
theorem Inv.hbe {g : Nat → Nat → Int32} {lf : Int32} {n q tn tu T : Nat} (h : Inv g lf n q tn tu T) : ∀ w, w < q → ∃ a b, g 15 w = nI a ∧ g 16 w = nI b ∧ a < b ∧ b ≤ a + 1440 ∧ a ≤ 20000 := h.2.2.2.2.2.2.2.2.2.2.2.2.2.2.2.2.2.1
theorem Inv.hwh {g : Nat → Nat → Int32} {lf : Int32} {n q tn tu T : Nat} (h : Inv g lf n q tn tu T) : ∀ w, w < q → ∃ b, b < n ∧ g 14 w = nI b := h.2.2.2.2.2.2.2.2.2.2.2.2.2.2.2.2.2.2.1
theorem Inv.hT0 {g : Nat → Nat → Int32} {lf : Int32} {n q tn tu T : Nat} (h : Inv g lf n q tn tu T) : g 0 0 = nI T := h.2.2.2.2.2.2.2.2.2.2.2.2.2.2.2.2.2.2.2.1
theorem Inv.hT0b {g : Nat → Nat → Int32} {lf : Int32} {n q tn tu T : Nat} (h : Inv g lf n q tn tu T) : T ≤ 20000 := h.2.2.2.2.2.2.2.2.2.2.2.2.2.2.2.2.2.2.2.2.1
theorem Inv.hho {g : Nat → Nat → Int32} {lf : Int32} {n q tn tu T : Nat} (h : Inv g lf n q tn tu T) : ∃ h, g 1 1 = nI h ∧ h ≤ 120 := h.2.2.2.2.2.2.2.2.2.2.2.2.2.2.2.2.2.2.2.2.2.1
theorem Inv.hcar {g : Nat → Nat → Int32} {lf : Int32} {n q tn tu T : Nat} (h : Inv g lf n q tn tu T) : ∀ w, w < n → g 8 w = 0 → g 9 w = 0 := h.2.2.2.2.2.2.2.2.2.2.2.2.2.2.2.2.2.2.2.2.2.2.1
theorem Inv.hcnt {g : Nat → Nat → Int32} {lf : Int32} {n q tn tu T : Nat} (h : Inv g lf n q tn tu T) : ∃ z, Cnt (fun w => ¬ g 8 w = 0) n z ∧ g 0 1 - lf = nI z := h.2.2.2.2.2.2.2.2.2.2.2.2.2.2.2.2.2.2.2.2.2.2.2
theorem Inv.hen {g : Nat → Nat → Int32} {lf : Int32} {n q tn tu T : Nat} (h : Inv g lf n q tn tu T) : ∀ w, w < q → Nn (g 16 w) := fun w hw => by
  obtain ⟨a, b, -, e, h1, h2, h3⟩ := h.hbe w hw
  rw [e]
  exact nn_nI (by omega)
theorem Inv.htm {g : Nat → Nat → Int32} {lf : Int32} {n q tn tu T : Nat} (h : Inv g lf n q tn tu T) : g 0 0 < 30000 := by
  rw [h.hT0]
  exact nI_lt (b := 30000) (by have := h.hT0b; omega) (by decide)
theorem Inv.nums {g : Nat → Nat → Int32} {lf : Int32} {n q tn tu T : Nat} (h : Inv g lf n q tn tu T) : Nums g n q tn tu := ⟨h.hn, h.hnb, h.hq, h.hqc, h.ht, h.htb, h.hu, h.hub⟩
