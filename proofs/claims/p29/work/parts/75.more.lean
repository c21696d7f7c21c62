/-! ===== p29: what is always so of a state, besides Inv (e: how many calls at most) ===== -/
theorem TB.put {g u : Nat → Nat → Int32} {n : Nat} {x un pr : Int32} (h : Tk g n) (hb : TB g n) (h0 : 0 ≤ x) (hu : 0 < un) (hu2 : un ≤ 240) (hp2 : 0 ≤ pr ∧ pr ≤ 5000) (hp : TPut g n x un pr u) : ∃ m, Tk u m ∧ TB u m := by
  obtain ⟨e, hn, hs, h1, h2⟩ := id h
  obtain ⟨b1, b2⟩ := hb
  obtain ⟨k, hk, hp⟩ := hp
  rcases hp with ⟨a, b, rfl⟩ | ⟨a, b, rfl⟩
  · refine ⟨n, ⟨e, hn, ?_, up_all (P := fun x => 0 < x) h1 hu, up_all (P := fun x => 0 ≤ x) h2 h0⟩, up_all (P := fun x => x ≤ 240) b1 hu2, up_all (P := fun x => 0 ≤ x ∧ x ≤ 5000) b2 hp2⟩
    have : upd (g 1) k x = g 1 := by
      funext j
      unfold upd
      by_cases c : j = k
      · subst c; rw [if_pos rfl, b]
      · rw [if_neg c]
    show Srt (upd (g 1) k x) n
    rw [this]
    exact hs
  · exact ⟨n + 1, ⟨up_nI e, by omega, sh_srt hs hk a, sh_all (P := fun x => 0 < x) hk.1 h1 hu, sh_all (P := fun x => 0 ≤ x) hk.1 h2 h0⟩, sh_all (P := fun x => x ≤ 240) hk.1 b1 hu2, sh_all (P := fun x => 0 ≤ x ∧ x ≤ 5000) hk.1 b2 hp2⟩
theorem TB.rem {g u : Nat → Nat → Int32} {n : Nat} {x : Int32} (h : Tk g n) (hb : TB g n) (hp : TRem g n x u) : ∃ m, Tk u m ∧ TB u m := by
  obtain ⟨e, hn, hs, h1, h2⟩ := id h
  obtain ⟨b1, b2⟩ := hb
  obtain ⟨k, hk, a, -, rfl⟩ := hp
  refine ⟨n - 1, ⟨?_, by omega, fun i j hij hj => ?_, fun j hj => ?_, fun j hj => ?_⟩, fun j hj => ?_, fun j hj => ?_⟩
  · show upd (g 0) 0 (g 0 0 - 1) 0 = _
    rw [updE, e, show (1 : Int32) = nI 1 from rfl, pk_sub (by omega)]
  · show dlR (g 1) k n i < dlR (g 1) k n j
    rw [dl_at i (by omega), dl_at j (by omega)]
    refine hs _ _ ?_ ?_
    · split <;> split <;> omega
    · split <;> omega
  · show 0 < dlR (g 2) k n j
    rw [dl_at j (by omega)]
    exact h1 _ (by split <;> omega)
  · show 0 ≤ dlR (g 1) k n j
    rw [dl_at j (by omega)]
    exact h2 _ (by split <;> omega)
  · show dlR (g 2) k n j ≤ 240
    rw [dl_at j (by omega)]
    exact b1 _ (by split <;> omega)
  · show 0 ≤ dlR (g 3) k n j ∧ dlR (g 3) k n j ≤ 5000
    rw [dl_at j (by omega)]
    exact b2 _ (by split <;> omega)
/-- the car in bay k is the one of reservation w -/
def UsR (g : Nat → Nat → Int32) (n w : Nat) : Prop := ∃ k, k < n ∧ g 14 w = nI k ∧ ¬ g 8 k = 0 ∧ g 8 k = g 13 w ∧ g 11 k = nI w
def Ex (g : Nat → Nat → Int32) (n q tn tu T e : Nat) : Prop :=
  (∀ j, j < 5 → 0 ≤ g 1 j ∧ g 1 j ≤ 99999) ∧
  TB (fun k => g (19 + k)) tn ∧
  TB (fun k => g (23 + k)) tu ∧
  (∀ w, w < q → 0 ≤ g 17 w) ∧
  (∀ k, k < n → 0 ≤ g 7 k) ∧
  (∃ K, g 0 1 = nI K ∧ K ≤ e) ∧
  (∀ k, k < n → ∃ v, v < 5 ∧ g 4 k = nI v) ∧
  (∀ k, k < n → ¬ g 8 k = 0 → 1 ≤ g 8 k ∧ g 8 k ≤ 999) ∧
  (∀ i j, i < n → j < n → ¬ g 8 i = 0 → g 8 i = g 8 j → i = j) ∧
  (∀ k, k < n → ¬ g 8 k = 0 → ∃ t, t ≤ T ∧ g 10 k = nI t) ∧
  (∀ w, w < q → g 18 w = 1 → UsR g n w) ∧
  (∀ w, w < q → g 18 w = 0 → g 0 0 < g 16 w)
section EX
variable {g : Nat → Nat → Int32} {n q tn tu T e : Nat}
theorem Ex.x1 (h : Ex g n q tn tu T e) : ∀ j, j < 5 → 0 ≤ g 1 j ∧ g 1 j ≤ 99999 := h.1
theorem Ex.x2 (h : Ex g n q tn tu T e) : TB (fun k => g (19 + k)) tn := h.2.1
theorem Ex.x3 (h : Ex g n q tn tu T e) : TB (fun k => g (23 + k)) tu := h.2.2.1
theorem Ex.x4 (h : Ex g n q tn tu T e) : ∀ w, w < q → 0 ≤ g 17 w := h.2.2.2.1
theorem Ex.x5 (h : Ex g n q tn tu T e) : ∀ k, k < n → 0 ≤ g 7 k := h.2.2.2.2.1
theorem Ex.x6 (h : Ex g n q tn tu T e) : ∃ K, g 0 1 = nI K ∧ K ≤ e := h.2.2.2.2.2.1
theorem Ex.x7 (h : Ex g n q tn tu T e) : ∀ k, k < n → ∃ v, v < 5 ∧ g 4 k = nI v := h.2.2.2.2.2.2.1
theorem Ex.x8 (h : Ex g n q tn tu T e) : ∀ k, k < n → ¬ g 8 k = 0 → 1 ≤ g 8 k ∧ g 8 k ≤ 999 := h.2.2.2.2.2.2.2.1
theorem Ex.x9 (h : Ex g n q tn tu T e) : ∀ i j, i < n → j < n → ¬ g 8 i = 0 → g 8 i = g 8 j → i = j := h.2.2.2.2.2.2.2.2.1
theorem Ex.x10 (h : Ex g n q tn tu T e) : ∀ k, k < n → ¬ g 8 k = 0 → ∃ t, t ≤ T ∧ g 10 k = nI t := h.2.2.2.2.2.2.2.2.2.1
theorem Ex.x11 (h : Ex g n q tn tu T e) : ∀ w, w < q → g 18 w = 1 → UsR g n w := h.2.2.2.2.2.2.2.2.2.2.1
theorem Ex.x12 (h : Ex g n q tn tu T e) : ∀ w, w < q → g 18 w = 0 → g 0 0 < g 16 w := h.2.2.2.2.2.2.2.2.2.2.2
theorem Ex.x6s (h : Ex g n q tn tu T e) : ∃ K, g 0 1 = nI K ∧ K ≤ e + 1 := by
  obtain ⟨K, h1, h2⟩ := h.x6
  exact ⟨K, h1, by omega⟩
end EX
/-- a state as it is behind at most e calls -/
def JJ (g : Nat → Nat → Int32) (e : Nat) : Prop := ∃ lf n q tn tu T, Inv g lf n q tn tu T ∧ Ex g n q tn tu T e
theorem JJ.s {g : Nat → Nat → Int32} {e : Nat} (h : JJ g e) : JJ g (e + 1) := by
  obtain ⟨lf, n, q, tn, tu, T, hI, hE⟩ := h
  exact ⟨lf, n, q, tn, tu, T, hI, hE.x1, hE.x2, hE.x3, hE.x4, hE.x5, hE.x6s, hE.x7, hE.x8, hE.x9, hE.x10, hE.x11, hE.x12⟩
/-- a call's end: an error, and nothing has changed, or an answer from 0 on and a state as it always is -/
def Dp (r : Int32) (o : Option (Nat → Nat → Int32)) (e : Nat) : Prop := (r < 0 ∧ o = none) ∨ (0 ≤ r ∧ ∃ g2, o = some g2 ∧ JJ g2 e)
theorem dp_no {r c : Int32} {o : Option (Nat → Nat → Int32)} {e : Nat} (hc : c < 0) (h : No r c o) : Dp r o e := Or.inl ⟨by rw [h.1]; exact hc, h.2⟩
theorem dp_yes {r : Int32} {o : Option (Nat → Nat → Int32)} {e : Nat} {g2 : Nat → Nat → Int32} (hr : 0 ≤ r) (h : o = some g2) (hj : JJ g2 e) : Dp r o e := Or.inr ⟨hr, g2, h, hj⟩
theorem up_ne {f : Nat → Int32} {k w : Nat} {v : Int32} (h : ¬ w = k) : upd f k v w = f w := if_neg h
section DOES
variable {g : Nat → Nat → Int32} {lf : Int32} {n q tn tu T e : Nat} {r : Int32} {o : Option (Nat → Nat → Int32)}
theorem Ex.tick2 {f : Nat → Int32} (hE : Ex g n q tn tu T e) : Ex (w2 g 2 f) n q tn tu T e := ⟨hE.x1, hE.x2, hE.x3, hE.x4, hE.x5, hE.x6, hE.x7, hE.x8, hE.x9, hE.x10, hE.x11, hE.x12⟩
theorem Ex.kaddBay {lv ps sz : Int32} (hI : Inv g lf n q tn tu T) (hE : Ex g n q tn tu T e) (k : OaddBay g n lv ps sz r o) : Dp r o (e + 1) := by
  refine k.on (fun p k => k.on (fun _ => dp_no (by decide)) (fun _ k => k.on (fun _ => dp_no (by decide)) (fun hn k => ?_))) (fun _ => dp_no (by decide))
  have hn30 := hI.hnb
  obtain ⟨v, hv, ev⟩ := bd_of (x := lv) (B := 4) (by decide) p.1
  refine dp_yes (by rw [k.1]; exact nI_pos' (by omega)) k.2 ⟨lf, n + 1, q, tn, tu, T, hI.gAdd (by omega) p.2.2.1, hE.x1, hE.x2, hE.x3, hE.x4, up_end (P := fun x => 0 ≤ x) hE.x5 (by decide), hE.x6s, up_end (P := fun x => ∃ v, v < 5 ∧ x = nI v) hE.x7 ⟨v, by omega, ev⟩, ?_, ?_, ?_, ?_, hE.x12⟩
  · intro k hk
    show ¬ upd (g 8) n 0 k = 0 → 1 ≤ upd (g 8) n 0 k ∧ upd (g 8) n 0 k ≤ 999
    by_cases c : k = n
    · subst c; rw [updE]; exact fun h => absurd rfl h
    · rw [updN c]; exact hE.x8 k (by omega)
  · intro i j hi hj
    show ¬ upd (g 8) n 0 i = 0 → upd (g 8) n 0 i = upd (g 8) n 0 j → i = j
    by_cases c : i = n
    · subst c; rw [updE]; exact fun h => absurd rfl h
    · rw [updN c]
      intro h0
      by_cases d : j = n
      · subst d; rw [updE]; exact fun h => absurd h h0
      · rw [updN d]; exact hE.x9 i j (by omega) (by omega) h0
  · intro k hk
    show ¬ upd (g 8) n 0 k = 0 → ∃ t, t ≤ T ∧ upd (g 10) n 0 k = nI t
    by_cases c : k = n
    · subst c; rw [updE]; exact fun h => absurd rfl h
    · rw [updN c, updN c]; exact hE.x10 k (by omega)
  · intro w hw h1
    obtain ⟨k, hk, a, b, c, d⟩ := hE.x11 w hw h1
    have hkn : k ≠ n := by omega
    refine ⟨k, by omega, a, ?_, ?_, ?_⟩
    · show ¬ upd (g 8) n 0 k = 0
      rw [updN hkn]; exact b
    · show upd (g 8) n 0 k = g 13 w
      rw [updN hkn]; exact c
    · show upd (g 11) n (-9) k = nI w
      rw [updN hkn]; exact d
theorem Ex.ksetBay {x on : Int32} (hI : Inv g lf n q tn tu T) (hE : Ex g n q tn tu T e) (k : OsetBay g n x on r o) : Dp r o (e + 1) := by
  refine k.on (fun p ⟨k, hk, hx, hr, ho⟩ => ?_) (fun _ => dp_no (by decide))
  exact dp_yes (by rw [hr]; exact hE.x5 k hk) ho ⟨lf, n, q, tn, tu, T, hI.gw7, hE.x1, hE.x2, hE.x3, hE.x4, up_all (P := fun x => 0 ≤ x) hE.x5 p.2.1, hE.x6s, hE.x7, hE.x8, hE.x9, hE.x10, hE.x11, hE.x12⟩
theorem Ex.st0 {u : Nat → Nat → Int32} {m : Nat} (hI : Inv g lf n q tn tu T) (hE : Ex g n q tn tu T e) (k : Tk u m) (kb : TB u m) : JJ (wblk g 19 4 u) (e + 1) := ⟨lf, n, q, m, tu, T, hI.st0 k, hE.x1, ⟨kb.1, kb.2⟩, hE.x3, hE.x4, hE.x5, hE.x6s, hE.x7, hE.x8, hE.x9, hE.x10, hE.x11, hE.x12⟩
theorem Ex.st1 {u : Nat → Nat → Int32} {m : Nat} (hI : Inv g lf n q tn tu T) (hE : Ex g n q tn tu T e) (k : Tk u m) (kb : TB u m) : JJ (wblk g 23 4 u) (e + 1) := ⟨lf, n, q, tn, m, T, hI.st1 k, hE.x1, hE.x2, ⟨kb.1, kb.2⟩, hE.x4, hE.x5, hE.x6s, hE.x7, hE.x8, hE.x9, hE.x10, hE.x11, hE.x12⟩
theorem tk_nn {u : Nat → Nat → Int32} {m : Nat} (k : Tk u m) : 0 ≤ u 0 0 := by
  rw [k.1]
  exact nI_pos' (by have := k.2.1; omega)
theorem Ex.ksetStep {t x un pr : Int32} (hI : Inv g lf n q tn tu T) (hE : Ex g n q tn tu T e) (k : OsetStep g tn tu t x un pr r o) : Dp r o (e + 1) := by
  refine k.on (fun p k => k.on (fun _ k => ?_) (fun _ k => ?_)) (fun _ => dp_no (by decide))
  · refine k.on (fun _ k => k.on (fun _ ⟨u, hu, hr, ho⟩ => ?_) (fun _ => dp_no (by decide))) (fun c k => k.on (fun _ ⟨u, hu, hr, ho⟩ => ?_) (fun _ => dp_no (by decide)))
    · obtain ⟨m, h1, h2⟩ := TB.rem hI.tk0 hE.x2 hu
      exact dp_yes (by rw [hr]; exact tk_nn h1) ho (Ex.st0 hI hE h1 h2)
    · obtain ⟨m, h1, h2⟩ := TB.put hI.tk0 hE.x2 p.2.1.1 (i_lt_of (Int32.not_lt.mpr p.2.2.1.1) c) p.2.2.1.2 p.2.2.2 hu
      exact dp_yes (by rw [hr]; exact tk_nn h1) ho (Ex.st0 hI hE h1 h2)
  · refine k.on (fun _ k => k.on (fun _ ⟨u, hu, hr, ho⟩ => ?_) (fun _ => dp_no (by decide))) (fun c k => k.on (fun _ ⟨u, hu, hr, ho⟩ => ?_) (fun _ => dp_no (by decide)))
    · obtain ⟨m, h1, h2⟩ := TB.rem hI.tk1 hE.x3 hu
      exact dp_yes (by rw [hr]; exact tk_nn h1) ho (Ex.st1 hI hE h1 h2)
    · obtain ⟨m, h1, h2⟩ := TB.put hI.tk1 hE.x3 p.2.1.1 (i_lt_of (Int32.not_lt.mpr p.2.2.1.1) c) p.2.2.1.2 p.2.2.2 hu
      exact dp_yes (by rw [hr]; exact tk_nn h1) ho (Ex.st1 hI hE h1 h2)
theorem num_rng : ∀ k, k < 5 → 0 ≤ leastF k ∧ greatF k ≤ 99999 := by decide +kernel
theorem num_rng1 : leastF 1 = 0 ∧ greatF 1 = nI 120 := by decide +kernel
theorem Ex.ksetNumber {wh v : Int32} (hI : Inv g lf n q tn tu T) (hE : Ex g n q tn tu T e) (k : OsetNumber g wh v r o) : Dp r o (e + 1) := by
  refine k.on (fun ⟨k, hk, hw, l1, l2⟩ ⟨k2, hk2, hw2, hr, ho⟩ => ?_) (fun _ => dp_no (by decide))
  have : k = k2 := nI_inj (by omega) (by omega) (hw.symm.trans hw2)
  subst this
  obtain ⟨b1, b2⟩ := num_rng k hk
  refine dp_yes (by rw [hr]; exact (hE.x1 k hk).1) ho ⟨lf, n, q, tn, tu, T, hI.gw1 (ho_up hI.hho (fun c => by
    subst c
    rw [num_rng1.1] at l1
    rw [num_rng1.2] at l2
    exact ⟨l1, l2⟩)), ?_, hE.x2, hE.x3, hE.x4, hE.x5, hE.x6s, hE.x7, hE.x8, hE.x9, hE.x10, hE.x11, hE.x12⟩
  exact up_all (P := fun x => 0 ≤ x ∧ x ≤ 99999) hE.x1 ⟨Int32.le_trans b1 l1, Int32.le_trans l2 b2⟩
theorem Inv.fee_bd (hI : Inv g lf n q tn tu T) (hE : Ex g n q tn tu T e) {M : Nat} (hM : M ≤ 20000) : Bd (nFg g tn (nI M)) 506000000 := nF_bd (g := fun k => g (19 + k)) (nb := g 1) hI.tk0 hE.x2 (hE.x1 3 (by decide)) hM
theorem Ex.kreserve {pl sz bg en : Int32} (hI : Inv g lf n q tn tu T) (hE : Ex g n q tn tu T e) (k : Oreserve g n q tn pl sz bg en r o) : Dp r o (e + 1) := by
  refine k.on (fun p ⟨z, hz, k⟩ => k.on (fun _ => dp_no (by decide)) (fun c k => ?_)) (fun _ => dp_no (by decide))
  have hq16 := hI.hqc
  have hq : q < 16 := by
    rcases Nat.lt_or_ge q 16 with d | d
    · exact d
    · exact absurd (Or.inl (by omega)) c
  have hb : ∃ k, k < n ∧ z = nI k := by
    rcases Classical.em (∃ k, k < n ∧ z = nI k) with d | d
    · exact d
    · exact absurd (Or.inr d) c
  have hI2 := hI.gRes (pl := pl) (pr := nFg g tn (en - bg)) hq hb p.2.2.1 p.2.2.2
  obtain ⟨a, ha0, ha, ea⟩ := wi_nI (x := bg) (a := T) (N := 20000) (by have := hI.hT0b; omega) (by decide) (by rw [← hI.hT0]; exact p.2.2.1)
  obtain ⟨b, hb0, hb1, eb⟩ := wi_nI (x := en) (a := a + 1) (N := a + 1440) (by omega) (by omega) (by rw [← nI_add, ← nI_add, ← ea]; exact p.2.2.2)
  have hpr : Bd (nFg g tn (en - bg)) 506000000 := by
    rw [ea, eb, pk_sub (by omega)]
    exact hI.fee_bd hE (by omega)
  refine dp_yes (by rw [k.1]; exact nI_pos' (by omega)) k.2 ⟨lf, n, q + 1, tn, tu, T, hI2, hE.x1, hE.x2, hE.x3, up_end (P := fun x => 0 ≤ x) hE.x4 (hpr.nn (by decide)), hE.x5, hE.x6s, hE.x7, hE.x8, hE.x9, hE.x10, ?_, ?_⟩
  · intro w hw
    show upd (g 18) q 0 w = 1 → _
    by_cases d : w = q
    · subst d; rw [updE]; exact fun h => absurd h (by decide)
    · rw [updN d]
      intro h1
      obtain ⟨k, hk, e1, e2, e3, e4⟩ := hE.x11 w (by omega) h1
      refine ⟨k, hk, ?_, e2, ?_, e4⟩
      · show upd (g 14) q z w = nI k
        rw [updN d]; exact e1
      · show g 8 k = upd (g 13) q pl w
        rw [updN d]; exact e3
  · intro w hw
    show upd (g 18) q 0 w = 0 → g 0 0 < upd (g 16) q en w
    by_cases d : w = q
    · subst d
      rw [updE, updE, hI.hT0, eb]
      exact fun _ => nI_lt (by omega) (by omega)
    · rw [updN d, updN d]; exact hE.x12 w (by omega)
theorem half_nn {x : Int32} (h : 0 ≤ x) : 0 ≤ x / 2 := by
  obtain ⟨v, hv, rfl⟩ := nI_of (x := x) (Int32.not_lt.mpr h)
  rw [show (2 : Int32) = nI 2 from rfl, pk_div hv (by decide) (by decide)]
  exact nI_pos' (Nat.lt_of_le_of_lt (Nat.div_le_self v 2) hv)
theorem Ex.kcancel {x : Int32} (hI : Inv g lf n q tn tu T) (hE : Ex g n q tn tu T e) (k : Ocancel g q x r o) : Dp r o (e + 1) := by
  rcases k with ⟨k, hk, hx, kc⟩ | ⟨_, kc⟩
  · refine kc.on (fun _ ⟨hr, ho⟩ => ?_) (fun _ => dp_no (by decide))
    refine dp_yes (hr.on (fun _ h => by rw [h]; exact half_nn (hE.x4 k hk)) (fun _ h => by rw [h]; decide)) ho ⟨lf, n, q, tn, tu, T, hI.gw2.gw18 (up_all (P := fun x => 0 ≤ x) hI.hst (by decide)), hE.x1, hE.x2, hE.x3, hE.x4, hE.x5, hE.x6s, hE.x7, hE.x8, hE.x9, hE.x10, ?_, ?_⟩
    · intro w hw
      show upd (g 18) k 3 w = 1 → _
      by_cases d : w = k
      · subst d; rw [updE]; exact fun h => absurd h (by decide)
      · rw [updN d]; exact hE.x11 w hw
    · intro w hw
      show upd (g 18) k 3 w = 0 → _
      by_cases d : w = k
      · subst d; rw [updE]; exact fun h => absurd h (by decide)
      · rw [updN d]; exact hE.x12 w hw
  · exact dp_no (by decide) kc
/-- a car has come into the empty bay k -/
theorem Ex.gIn {k : Nat} {pl rv : Int32} (hI : Inv g lf n q tn tu T) (hE : Ex g n q tn tu T e) (hk : k < n) (he : g 8 k = 0) (hp : 1 ≤ pl ∧ pl ≤ 999) (hno : ¬ ∃ k, k < n ∧ g 8 k = pl) : Ex (gIn g k pl rv) n q tn tu T (e + 1) := by
  refine ⟨hE.x1, hE.x2, hE.x3, hE.x4, hE.x5, ?_, hE.x7, ?_, ?_, ?_, ?_, hE.x12⟩
  · obtain ⟨K, h1, h2⟩ := hE.x6
    refine ⟨K + 1, ?_, by omega⟩
    show upd (g 0) 1 (g 0 1 + 1) 1 = _
    rw [updE, h1, nI_1]
  · intro j hj
    show ¬ upd (g 8) k pl j = 0 → 1 ≤ upd (g 8) k pl j ∧ upd (g 8) k pl j ≤ 999
    by_cases c : j = k
    · subst c; rw [updE]; exact fun _ => hp
    · rw [updN c]; exact hE.x8 j hj
  · intro i j hi hj
    show ¬ upd (g 8) k pl i = 0 → upd (g 8) k pl i = upd (g 8) k pl j → i = j
    by_cases c : i = k
    · subst c
      rw [updE]
      intro _
      by_cases d : j = i
      · exact fun _ => d.symm
      · rw [updN d]; exact fun h => absurd ⟨j, hj, h.symm⟩ hno
    · rw [updN c]
      intro h0
      by_cases d : j = k
      · subst d; rw [updE]; exact fun h => absurd ⟨i, hi, h⟩ hno
      · rw [updN d]; exact hE.x9 i j hi hj h0
  · intro j hj
    show ¬ upd (g 8) k pl j = 0 → ∃ t, t ≤ T ∧ upd (g 10) k (g 0 0) j = nI t
    by_cases c : j = k
    · subst c; rw [updE]; exact fun _ => ⟨T, Nat.le_refl T, by rw [updE]; exact hI.hT0⟩
    · rw [updN c, updN c]; exact hE.x10 j hj
  · intro w hw h1
    obtain ⟨j, hj, e1, e2, e3, e4⟩ := hE.x11 w hw h1
    have hjk : j ≠ k := fun c => e2 (by rw [c]; exact he)
    refine ⟨j, hj, e1, ?_, ?_, ?_⟩
    · show ¬ upd (g 8) k pl j = 0
      rw [updN hjk]; exact e2
    · show upd (g 8) k pl j = g 13 w
      rw [updN hjk]; exact e3
    · show upd (g 11) k rv j = nI w
      rw [updN hjk]; exact e4
/-- the reservation that a car enters with -/
theorem aUs_got {x sz z : Int32} {w : Nat} (hq : q < 2 ^ 31) (h : aUs g n q x sz z) (hw : w < q) (hz : z = nI w) : g 13 w = x ∧ g 18 w = 0 := by
  obtain ⟨y, hy, h⟩ := h
  rcases h with ⟨-, h⟩ | ⟨v, hv, ev, h⟩
  · exact absurd (h.symm.trans hz) (m9_ne hw hq)
  · rcases h with ⟨-, h⟩ | ⟨-, h⟩
    · rcases hy.cases with ⟨k, hk, ek, hp, -⟩ | ⟨h9, -⟩
      · have : k = w := nI_inj (by omega) (by omega) (ek.symm.trans (h.symm.trans hz))
        subst this
        exact ⟨hp.1, hp.2.1⟩
      · exact absurd (h9.symm.trans ev) (m9_ne hv hq)
    · exact absurd (h.symm.trans hz) (m9_ne hw hq)
theorem Ex.kenter {pl sz : Int32} (he : e < 1000) (hI : Inv g lf n q tn tu T) (hE : Ex g n q tn tu T e) (k : Oenter g n q pl sz r o) : Dp r o (e + 1) := by
  have hn : n < 2 ^ 31 := by have := hI.hnb; omega
  have hq : q < 2 ^ 31 := by have := hI.hqc; omega
  refine k.on (fun p k => k.on (fun _ => dp_no (by decide)) (fun hno ⟨rv, hr, z, hz, k⟩ => ?_)) (fun _ => dp_no (by decide))
  rcases k with ⟨k, hk, hx, u, hu, er, eo⟩ | ⟨_, k⟩
  · have hemp : g 8 k = 0 := by
      rcases hz with ⟨w, hw, ew, e2⟩ | ⟨-, e2⟩
      · exact aUs_emp hn hq hr hw ew hk (e2.symm.trans hx)
      · exact aFirst_emp hn e2 hk hx
    have hrv : rv = -9 ∨ ∃ w, w < q ∧ rv = nI w := by
      rcases aUs_rng hr with d | ⟨w, hw, d, -⟩
      · exact Or.inl d
      · exact Or.inr ⟨w, hw, d⟩
    have hI2 := hI.inx hk hemp (pos_ne p.1.1) hrv hu
    have hE2 := hE.gIn (rv := rv) hI hk hemp p.1 hno
    have h01 : 0 ≤ g 0 1 + 1 := by
      obtain ⟨K, h1, h2⟩ := hE.x6
      rw [h1, nI_1]
      exact nI_pos' (by omega)
    rcases hu with ⟨w, hw, ew, rfl⟩ | ⟨hnr, rfl⟩
    · refine dp_yes ?_ eo ⟨lf, n, q, tn, tu, T, hI2, hE2.x1, hE2.x2, hE2.x3, hE2.x4, hE2.x5, hE2.x6, hE2.x7, hE2.x8, hE2.x9, hE2.x10, ?_, ?_⟩
      · rw [er]; exact h01
      · intro v hv
        show upd (g 18) w 1 v = 1 → _
        by_cases d : v = w
        · subst d
          intro _
          obtain ⟨g1, g2⟩ := aUs_got hq hr hw ew
          have hbay : g 14 v = nI k := by
            rcases hz with ⟨w2, hw2, ew2, e2⟩ | ⟨h9, -⟩
            · have : w2 = v := nI_inj (by omega) (by omega) (ew2.symm.trans ew)
              subst this
              exact e2.symm.trans hx
            · exact absurd ⟨v, hw, ew⟩ h9
          refine ⟨k, hk, hbay, ?_, ?_, ?_⟩
          · show ¬ upd (g 8) k pl k = 0
            rw [updE]; exact pos_ne p.1.1
          · show upd (g 8) k pl k = g 13 v
            rw [updE]; exact g1.symm
          · show upd (g 11) k rv k = nI v
            rw [updE]; exact ew
        · rw [updN d]
          intro h1
          exact hE2.x11 v hv h1
      · intro v hv
        show upd (g 18) w 1 v = 0 → _
        by_cases d : v = w
        · subst d; rw [updE]; exact fun h => absurd h (by decide)
        · rw [updN d]; exact hE2.x12 v hv
    · exact dp_yes (by rw [er]; exact h01) eo ⟨lf, n, q, tn, tu, T, hI2, hE2⟩
  · exact dp_no (by decide) k
/-- the car in bay k has gone; where its bay told a reservation, that one is done -/
theorem Ex.outx {k : Nat} {u : Nat → Nat → Int32} (hI : Inv g lf n q tn tu T) (hE : Ex g n q tn tu T e) (hk : k < n) (hu : LetOut g q k u) : Ex u n q tn tu T (e + 1) := by
  have hq : q < 2 ^ 31 := by have := hI.hqc; omega
  have h8 : ∀ j, j < n → ¬ upd (g 8) k 0 j = 0 → j ≠ k := fun j _ h c => h (by rw [c]; exact updE)
  have y8 : ∀ j, j < n → ¬ upd (g 8) k 0 j = 0 → 1 ≤ upd (g 8) k 0 j ∧ upd (g 8) k 0 j ≤ 999 := fun j hj h => by
    have c := h8 j hj h
    rw [updN c] at h ⊢
    exact hE.x8 j hj h
  have y9 : ∀ i j, i < n → j < n → ¬ upd (g 8) k 0 i = 0 → upd (g 8) k 0 i = upd (g 8) k 0 j → i = j := fun i j hi hj h e => by
    have c := h8 i hi h
    have d := h8 j hj (by rw [← e]; exact h)
    rw [updN c] at h e
    rw [updN d] at e
    exact hE.x9 i j hi hj h e
  have y10 : ∀ j, j < n → ¬ upd (g 8) k 0 j = 0 → ∃ t, t ≤ T ∧ upd (g 10) k 0 j = nI t := fun j hj h => by
    have c := h8 j hj h
    rw [updN c] at h ⊢
    exact hE.x10 j hj h
  have y11 : ∀ w, w < q → g 18 w = 1 → ¬ g 11 k = nI w → ∃ j, j < n ∧ g 14 w = nI j ∧ ¬ upd (g 8) k 0 j = 0 ∧ upd (g 8) k 0 j = g 13 w ∧ upd (g 11) k (-9) j = nI w := fun w hw h1 hne => by
    obtain ⟨j, hj, e1, e2, e3, e4⟩ := hE.x11 w hw h1
    have c : j ≠ k := fun c => hne (by rw [← c]; exact e4)
    exact ⟨j, hj, e1, by rw [updN c]; exact e2, by rw [updN c]; exact e3, by rw [updN c]; exact e4⟩
  rcases hu with ⟨w, hw, ew, rfl⟩ | ⟨hno, rfl⟩
  · refine ⟨hE.x1, hE.x2, hE.x3, hE.x4, hE.x5, hE.x6s, hE.x7, y8, y9, y10, ?_, ?_⟩
    · intro v hv
      show upd (g 18) w 2 v = 1 → _
      by_cases d : v = w
      · subst d; rw [updE]; exact fun h => absurd h (by decide)
      · rw [updN d]
        exact fun h => y11 v hv h (fun c => d (nI_inj (by omega) (by omega) (c.symm.trans ew)))
    · intro v hv
      show upd (g 18) w 2 v = 0 → _
      by_cases d : v = w
      · subst d; rw [updE]; exact fun h => absurd h (by decide)
      · rw [updN d]; exact hE.x12 v hv
  · exact ⟨hE.x1, hE.x2, hE.x3, hE.x4, hE.x5, hE.x6s, hE.x7, y8, y9, y10, fun v hv h => y11 v hv h (fun c => hno ⟨v, hv, c⟩), hE.x12⟩
theorem day_le (T : Nat) : T / 1440 * 1440 ≤ T := Nat.div_mul_le_self T 1440
/-- the fee of the car in bay k now -/
theorem Ex.fee {k : Nat} (hI : Inv g lf n q tn tu T) (hE : Ex g n q tn tu T e) (hk : k < n) (h8 : ¬ g 8 k = 0) (h : aFeeAt g q tn tu k (g 0 0) r) : 0 ≤ r := by
  have hT := hI.hT0b
  rcases h with ⟨-, rfl⟩ | ⟨w, hw, -, rfl⟩
  · obtain ⟨t, ht, et⟩ := hE.x10 k hk h8
    show 0 ≤ nF (g 1) (g 20) (g 21) (g 22) tn (g 0 0 - g 10 k)
    rw [hI.hT0, et, pk_sub ht]
    exact (hI.fee_bd hE (M := T - t) (by omega)).nn (by decide)
  · obtain ⟨a, b, -, eb, -, h1, h2⟩ := hI.hbe w hw
    refine (tS_all (g := fun k => g (23 + k)) (m := g 0 0 - g 16 w) hI.tk1 hE.x3 ?_).nn (by decide)
    rw [hI.hT0, eb, Int32.le_iff_toInt_le, pk_sub_toInt (by omega) (by omega), nI_toInt (by decide)]
    omega
/-- the fee of a lost ticket -/
theorem Ex.lost {k : Nat} (hI : Inv g lf n q tn tu T) (hE : Ex g n q tn tu T e) (hk : k < n) (h8 : ¬ g 8 k = 0) : 0 ≤ aLost g tn k := by
  have hT := hI.hT0b
  obtain ⟨t, ht, et⟩ := hE.x10 k hk h8
  have hx := hE.x1 4 (by decide)
  obtain ⟨v, hv, ev⟩ := bd_of (x := g 1 4) (B := 99999) (by decide) hx
  have hd := day_le T
  have hs : ∃ z, z ≤ T ∧ (if g 10 k < g 0 0 - (g 0 0 - g 0 0 / 1440 * 1440) then g 10 k else g 0 0 - (g 0 0 - g 0 0 / 1440 * 1440)) = nI z := by
    have e1 : g 0 0 - (g 0 0 - g 0 0 / 1440 * 1440) = nI (T - (T - T / 1440 * 1440)) := by
      rw [hI.hT0, show (1440 : Int32) = nI 1440 from rfl, pk_div (by omega) (by decide) (by decide), pk_mul, pk_sub hd, pk_sub (by omega)]
    rw [e1, et]
    by_cases c : nI t < nI (T - (T - T / 1440 * 1440))
    · rw [if_pos c]; exact ⟨t, ht, rfl⟩
    · rw [if_neg c]; exact ⟨_, by omega, rfl⟩
  obtain ⟨z, hz, ez⟩ := hs
  unfold aLost
  rw [ez, ev, hI.hT0, pk_sub hz]
  obtain ⟨f, hf, ef⟩ := hI.fee_bd hE (M := T - z) (by omega)
  have ef : nF (g 1) (g 20) (g 21) (g 22) tn (nI (T - z)) = nI f := ef
  rw [ef, nI_add]
  exact nI_pos' (by omega)
theorem Ex.kleave {x : Int32} (hI : Inv g lf n q tn tu T) (hE : Ex g n q tn tu T e) (k : Oleave g n q tn tu x r o) : Dp r o (e + 1) := by
  refine k.on (fun p k => ?_) (fun _ => dp_no (by decide))
  rcases k with ⟨k, hk, hx, -, hr, j, -, u, hu, eo⟩ | ⟨_, k⟩
  · have h8 : ¬ g 8 k = 0 := fun c => pos_ne p.1 (by rw [← hx]; exact hI.hcar k hk c)
    exact dp_yes (hE.fee hI hk h8 hr) eo ⟨lf + 1, n, q, tn, tu, T, hI.gw2.outx hk h8 hu, hE.tick2.outx hI.gw2 hk hu⟩
  · exact dp_no (by decide) k
theorem Ex.klost {pl : Int32} (hI : Inv g lf n q tn tu T) (hE : Ex g n q tn tu T e) (k : Olost g n q tn pl r o) : Dp r o (e + 1) := by
  refine k.on (fun p k => ?_) (fun _ => dp_no (by decide))
  rcases k with ⟨k, hk, hx, -, hr, u, hu, eo⟩ | ⟨_, k⟩
  · have h8 : ¬ g 8 k = 0 := fun c => pos_ne p.1 (by rw [← hx]; exact c)
    exact dp_yes (by rw [hr]; exact hE.lost hI hk h8) eo ⟨lf + 1, n, q, tn, tu, T, hI.gw2.outx hk h8 hu, hE.tick2.outx hI.gw2 hk hu⟩
  · exact dp_no (by decide) k
theorem Ex.kpass {x : Int32} (hI : Inv g lf n q tn tu T) (hE : Ex g n q tn tu T e) (k : Opass g q x r o) : Dp r o (e + 1) := by
  refine k.on (fun p k => k.on (fun _ => dp_no (by decide)) (fun c ⟨z, hz, hr, eo⟩ => ?_)) (fun _ => dp_no (by decide))
  obtain ⟨T2, hI2⟩ := hI.gPass p c
  have hq := hI.hqc
  have hzq := hz.le
  have hTT : T ≤ T2 := by
    have e1 : upd (g 0) 0 (g 0 0 + x) 0 = nI T2 := hI2.hT0
    rw [updE, hI.hT0] at e1
    obtain ⟨y, hy, ey⟩ := bd_of (x := x) (B := 5000) (by decide) ⟨Int32.le_trans (by decide) p.1, p.2⟩
    have hT := hI.hT0b
    have hT2 := hI2.hT0b
    rw [ey, nI_add] at e1
    have := nI_inj (by omega) (by omega) e1
    omega
  refine dp_yes (by rw [hr]; exact nI_pos' (by omega)) eo ⟨lf, n, q, tn, tu, T2, hI2, hE.x1, hE.x2, hE.x3, hE.x4, hE.x5, ?_, hE.x7, hE.x8, hE.x9, ?_, ?_, ?_⟩
  · obtain ⟨K, h1, h2⟩ := hE.x6
    refine ⟨K, ?_, by omega⟩
    show upd (g 0) 0 (g 0 0 + x) 1 = nI K
    rw [updN (by decide)]
    exact h1
  · intro k hk h8
    obtain ⟨t, ht, et⟩ := hE.x10 k hk h8
    exact ⟨t, by omega, et⟩
  · intro w hw
    show exS (g 18) (g 16) (g 0 0 + x) q w = 1 → _
    unfold exS
    by_cases d : w < q ∧ g 18 w = 0 ∧ g 16 w ≤ g 0 0 + x
    · rw [if_pos d]; exact fun h => absurd h (by decide)
    · rw [if_neg d]; exact hE.x11 w hw
  · intro w hw
    show exS (g 18) (g 16) (g 0 0 + x) q w = 0 → upd (g 0) 0 (g 0 0 + x) 0 < g 16 w
    unfold exS
    rw [updE]
    by_cases d : w < q ∧ g 18 w = 0 ∧ g 16 w ≤ g 0 0 + x
    · rw [if_pos d]; exact fun h => absurd h (by decide)
    · rw [if_neg d]
      exact fun h => Int32.not_le.mp (fun c => d ⟨hw, h, c⟩)
end DOES
