/-! ===== tariffs stay tariffs ===== -/
def Tk (g : Nat → Nat → Int32) (n : Nat) : Prop := g 0 0 = nI n ∧ n ≤ 5 ∧ Srt (g 1) n ∧ (∀ j, j < n → 0 < g 2 j) ∧ ∀ j, j < n → 0 ≤ g 1 j
theorem i_le_lt {x y z : Int32} (h : x < y) (h2 : y ≤ z) : x < z := by
  rw [Int32.lt_iff_toInt_lt] at *
  rw [Int32.le_iff_toInt_le] at h2
  omega
theorem i_lt_of {x y : Int32} (h : ¬ x < y) (h2 : ¬ x = y) : y < x := by
  rw [Int32.lt_iff_toInt_lt] at *
  have : x.toInt ≠ y.toInt := fun c => h2 (Int32.toInt_inj.mp c)
  omega
theorem sh_all {P : Int32 → Prop} {f : Nat → Int32} {k n : Nat} {v : Int32} (hk : k ≤ n) (h : ∀ w, w < n → P (f w)) (hv : P v) : ∀ w, w < n + 1 → P (upd (shR f k n) k v w) := fun w hw => by
  unfold upd shR
  by_cases c : w = k
  · rw [if_pos c]; exact hv
  · rw [if_neg c]
    by_cases d : k < w ∧ w ≤ n
    · rw [if_pos d]; exact h (w - 1) (by omega)
    · rw [if_neg d]; exact h w (by omega)
theorem sh_srt {f : Nat → Int32} {k n : Nat} {x : Int32} (hs : Srt f n) (hk : TPl f n x k) (hx : ¬ (k < n ∧ f k = x)) : Srt (upd (shR f k n) k x) (n + 1) := by
  obtain ⟨h1, h2, h3⟩ := hk
  intro i j hij hj
  have hi : ∀ i, i < k → upd (shR f k n) k x i = f i := fun i q => by
    rw [updN (by omega)]
    exact if_neg (fun c => by omega)
  have ha : ∀ j, k < j → j < n + 1 → upd (shR f k n) k x j = f (j - 1) := fun j q q2 => by
    rw [updN (by omega)]
    exact if_pos ⟨q, by omega⟩
  have hb : ∀ j, k ≤ j → j < n → x < f j := fun j q q2 => by
    have c := i_lt_of (h3 (by omega)) (fun e => hx ⟨by omega, e⟩)
    rcases Nat.lt_or_ge k j with d | d
    · exact i_lt_trans c (hs k j d q2)
    · have : k = j := by omega
      subst this; exact c
  rcases Nat.lt_trichotomy i k with q | q | q
  · rw [hi i q]
    rcases Nat.lt_trichotomy j k with r | r | r
    · rw [hi j r]; exact hs i j hij (by omega)
    · subst r; rw [updE]; exact h2 i q
    · rw [ha j r hj]
      exact i_lt_trans (h2 i q) (hb (j - 1) (by omega) (by omega))
  · subst q
    rw [updE, ha j hij hj]
    exact hb (j - 1) (by omega) (by omega)
  · rw [ha i q (by omega), ha j (by omega) hj]
    exact hs (i - 1) (j - 1) (by omega) (by omega)
theorem dl_at {f : Nat → Int32} {k n : Nat} (j : Nat) (hj : j + 1 < n) : dlR f k n j = f (if k ≤ j then j + 1 else j) := by
  unfold dlR
  by_cases c : k ≤ j
  · rw [if_pos ⟨c, hj⟩, if_pos c]
  · rw [if_neg (fun d => c d.1), if_neg c]
theorem Tk.put {g u : Nat → Nat → Int32} {n : Nat} {x un pr : Int32} (h : Tk g n) (h0 : 0 ≤ x) (hu : 0 < un) (hp : TPut g n x un pr u) : ∃ m, Tk u m := by
  obtain ⟨e, hn, hs, h1, h2⟩ := h
  obtain ⟨k, hk, hp⟩ := hp
  rcases hp with ⟨a, b, rfl⟩ | ⟨a, b, rfl⟩
  · refine ⟨n, e, hn, ?_, up_all (P := fun x => 0 < x) h1 hu, up_all (P := fun x => 0 ≤ x) h2 h0⟩
    have : upd (g 1) k x = g 1 := by
      funext j
      unfold upd
      by_cases c : j = k
      · subst c; rw [if_pos rfl, b]
      · rw [if_neg c]
    show Srt (upd (g 1) k x) n
    rw [this]
    exact hs
  · exact ⟨n + 1, up_nI e, by omega, sh_srt hs hk a, sh_all (P := fun x => 0 < x) hk.1 h1 hu, sh_all (P := fun x => 0 ≤ x) hk.1 h2 h0⟩
theorem Tk.rem {g u : Nat → Nat → Int32} {n : Nat} {x : Int32} (h : Tk g n) (hp : TRem g n x u) : ∃ m, Tk u m := by
  obtain ⟨e, hn, hs, h1, h2⟩ := h
  obtain ⟨k, hk, a, -, rfl⟩ := hp
  refine ⟨n - 1, ?_, by omega, fun i j hij hj => ?_, fun j hj => ?_, fun j hj => ?_⟩
  · show upd (g 0) 0 (g 0 0 - 1) 0 = _
    rw [updE, e, show (1 : Int32) = nI 1 from rfl, pk_sub (by omega)]
  · show dlR (g 1) k n i < dlR (g 1) k n j
    rw [dl_at i (by omega), dl_at j (by omega)]
    refine hs _ _ ?_ ?_
    · split <;> split <;> omega
    · split <;> omega
  · show 0 < dlR (g 2) k n j
    rw [dl_at j (by omega)]
    exact h1 _ (by split <;> omega)
  · show 0 ≤ dlR (g 1) k n j
    rw [dl_at j (by omega)]
    exact h2 _ (by split <;> omega)
theorem Inv.tk0 {g : Nat → Nat → Int32} {lf : Int32} {n q tn tu T : Nat} (h : Inv g lf n q tn tu T) : Tk (fun k => g (19 + k)) tn := ⟨h.ht, h.htb, h.hts1, h.htu, h.ht0⟩
theorem Inv.tk1 {g : Nat → Nat → Int32} {lf : Int32} {n q tn tu T : Nat} (h : Inv g lf n q tn tu T) : Tk (fun k => g (23 + k)) tu := ⟨h.hu, h.hub, h.hus1, h.huu, h.hu0⟩
theorem Inv.st0 {g u : Nat → Nat → Int32} {lf : Int32} {n q tn tu T m : Nat} (h : Inv g lf n q tn tu T) (k : Tk u m) : Inv (wblk g 19 4 u) lf n q m tu T :=
  ⟨h.hn, h.hnb, h.hq, h.hqc, k.1, k.2.1, k.2.2.1, k.2.2.2.1, k.2.2.2.2, h.hu, h.hub, h.hus1, h.huu, h.hu0, h.hst, h.hsz, h.hits, h.hbe, h.hwh, h.hT0, h.hT0b, h.hho, h.hcar, h.hcnt⟩
theorem Inv.st1 {g u : Nat → Nat → Int32} {lf : Int32} {n q tn tu T m : Nat} (h : Inv g lf n q tn tu T) (k : Tk u m) : Inv (wblk g 23 4 u) lf n q tn m T :=
  ⟨h.hn, h.hnb, h.hq, h.hqc, h.ht, h.htb, h.hts1, h.htu, h.ht0, k.1, k.2.1, k.2.2.1, k.2.2.2.1, k.2.2.2.2, h.hst, h.hsz, h.hits, h.hbe, h.hwh, h.hT0, h.hT0b, h.hho, h.hcar, h.hcnt⟩
/-- a state as it always is, whatever its numbers -/
def OKs (g : Nat → Nat → Int32) (lf : Int32) : Prop := ∃ n q tn tu T, Inv g lf n q tn tu T
theorem Inv.ok {g : Nat → Nat → Int32} {lf : Int32} {n q tn tu T : Nat} (h : Inv g lf n q tn tu T) : OKs g lf := ⟨n, q, tn, tu, T, h⟩
theorem tk_new {un pr : Int32} (h : 0 < un) : Tk (tI un pr) 1 :=
  ⟨rfl, by decide, fun i j hij hj => by omega, fun j hj => by
    have : j = 0 := by omega
    subst this
    exact h, fun j hj => by
    have : j = 0 := by omega
    subst this
    exact Int32.le_refl 0⟩
/-- a new garage -/
theorem inv_new : OKs gS0 0 := by
  have h : Inv (w2 z2 1 nums0) 0 0 0 0 0 0 := ⟨rfl, by decide, rfl, by decide, rfl, by decide, fun i j _ hj => absurd hj (Nat.not_lt_zero j), all_0, all_0, rfl, by decide, fun i j _ hj => absurd hj (Nat.not_lt_zero j), all_0, all_0, all_0, all_0, all_0, all_0, all_0, rfl, by decide, ⟨15, rfl, by decide⟩, all_0, ⟨0, rfl, rfl⟩⟩
  exact ((h.st0 (tk_new (un := 60) (pr := 200) (by decide))).st1 (tk_new (un := 15) (pr := 300) (by decide))).ok
