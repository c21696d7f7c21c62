/-! ===== the calls keep what is always so ===== -/
theorem Cnt.cg {P Q : Nat → Prop} : ∀ {n z : Nat}, (∀ w, w < n → (P w ↔ Q w)) → Cnt P n z → Cnt Q n z
  | 0, z, _, h => h
  | n + 1, z, e, ⟨y, hy, h⟩ => ⟨y, Cnt.cg (fun w hw => e w (by omega)) hy, h.imp (fun q => ⟨(e n (by omega)).mp q.1, q.2⟩) (fun q => ⟨fun c => q.1 ((e n (by omega)).mpr c), q.2⟩)⟩
theorem Cnt.more {P Q : Nat → Prop} {k : Nat} (hk : ¬ P k) (hq : Q k) : ∀ {n z : Nat}, k < n → (∀ w, w ≠ k → (P w ↔ Q w)) → Cnt P n z → Cnt Q n (z + 1)
  | 0, z, h, _, _ => absurd h (Nat.not_lt_zero k)
  | n + 1, z, h, e, ⟨y, hy, hc⟩ => by
    by_cases q : k = n
    · subst q
      rcases hc with ⟨c, -⟩ | ⟨-, c⟩
      · exact absurd c hk
      · subst c
        exact ⟨z, hy.cg (fun w hw => e w (by omega)), Or.inl ⟨hq, rfl⟩⟩
    · have h2 := Cnt.more hk hq (by omega) e hy
      refine ⟨y + 1, h2, ?_⟩
      rcases hc with ⟨c, d⟩ | ⟨c, d⟩
      · exact Or.inl ⟨(e n (fun x => q x.symm)).mp c, by omega⟩
      · exact Or.inr ⟨fun x => c ((e n (fun x => q x.symm)).mpr x), by omega⟩
theorem Cnt.less {P Q : Nat → Prop} {k : Nat} (hk : P k) (hq : ¬ Q k) : ∀ {n z : Nat}, k < n → (∀ w, w ≠ k → (P w ↔ Q w)) → Cnt P n z → ∃ y, z = y + 1 ∧ Cnt Q n y
  | 0, z, h, _, _ => absurd h (Nat.not_lt_zero k)
  | n + 1, z, h, e, ⟨y, hy, hc⟩ => by
    by_cases q : k = n
    · subst q
      rcases hc with ⟨-, c⟩ | ⟨c, -⟩
      · exact ⟨y, c, y, hy.cg (fun w hw => e w (by omega)), Or.inr ⟨hq, rfl⟩⟩
      · exact absurd hk c
    · obtain ⟨y2, e2, h2⟩ := Cnt.less hk hq (by omega) e hy
      rcases hc with ⟨c, d⟩ | ⟨c, d⟩
      · exact ⟨y, by omega, y2, h2, Or.inl ⟨(e n (fun x => q x.symm)).mp c, by omega⟩⟩
      · exact ⟨y2, by omega, y2, h2, Or.inr ⟨fun x => c ((e n (fun x => q x.symm)).mpr x), rfl⟩⟩
theorem Cnt.le {P : Nat → Prop} : ∀ {n z : Nat}, Cnt P n z → z ≤ n
  | 0, z, h => by rw [show z = 0 from h]; exact Nat.le_refl 0
  | n + 1, z, ⟨y, hy, hc⟩ => by
    have := Cnt.le hy
    rcases hc with ⟨-, d⟩ | ⟨-, d⟩ <;> omega
theorem up_all {P : Int32 → Prop} {f : Nat → Int32} {n k : Nat} {v : Int32} (h : ∀ w, w < n → P (f w)) (hv : P v) : ∀ w, w < n → P (upd f k v w) := fun w hw => by
  unfold upd
  by_cases q : w = k
  · rw [if_pos q]; exact hv
  · rw [if_neg q]; exact h w hw
theorem up_end {P : Int32 → Prop} {f : Nat → Int32} {n : Nat} {v : Int32} (h : ∀ w, w < n → P (f w)) (hv : P v) : ∀ w, w < n + 1 → P (upd f n v w) := fun w hw => by
  unfold upd
  by_cases q : w = n
  · rw [if_pos q]; exact hv
  · rw [if_neg q]; exact h w (by omega)
theorem up_nI {f : Nat → Int32} {n : Nat} (h : f 0 = nI n) : upd f 0 (f 0 + 1) 0 = nI (n + 1) := by
  rw [updE, h, nI_1]
theorem Inv.cg {g g2 : Nat → Nat → Int32} {lf : Int32} {n q tn tu T : Nat} (h : Inv g lf n q tn tu T) (e : g = g2) : Inv g2 lf n q tn tu T := e ▸ h
theorem Inv.gw2 {g : Nat → Nat → Int32} {lf : Int32} {n q tn tu T : Nat} {f : Nat → Int32} (h : Inv g lf n q tn tu T) : Inv (w2 g 2 f) lf n q tn tu T :=
  ⟨h.hn, h.hnb, h.hq, h.hqc, h.ht, h.htb, h.hts1, h.htu, h.ht0, h.hu, h.hub, h.hus1, h.huu, h.hu0, h.hst, h.hsz, h.hits, h.hbe, h.hwh, h.hT0, h.hT0b, h.hho, h.hcar, h.hcnt⟩
theorem Inv.gw7 {g : Nat → Nat → Int32} {lf : Int32} {n q tn tu T : Nat} {f : Nat → Int32} (h : Inv g lf n q tn tu T) : Inv (w2 g 7 f) lf n q tn tu T :=
  ⟨h.hn, h.hnb, h.hq, h.hqc, h.ht, h.htb, h.hts1, h.htu, h.ht0, h.hu, h.hub, h.hus1, h.huu, h.hu0, h.hst, h.hsz, h.hits, h.hbe, h.hwh, h.hT0, h.hT0b, h.hho, h.hcar, h.hcnt⟩
theorem Inv.gw18 {g : Nat → Nat → Int32} {lf : Int32} {n q tn tu T : Nat} {f : Nat → Int32} (h : Inv g lf n q tn tu T) (hf : ∀ w, w < q → 0 ≤ f w) : Inv (w2 g 18 f) lf n q tn tu T :=
  ⟨h.hn, h.hnb, h.hq, h.hqc, h.ht, h.htb, h.hts1, h.htu, h.ht0, h.hu, h.hub, h.hus1, h.huu, h.hu0, hf, h.hsz, h.hits, h.hbe, h.hwh, h.hT0, h.hT0b, h.hho, h.hcar, h.hcnt⟩
theorem Inv.gw1 {g : Nat → Nat → Int32} {lf : Int32} {n q tn tu T : Nat} {f : Nat → Int32} (h : Inv g lf n q tn tu T) (hf : ∃ h, f 1 = nI h ∧ h ≤ 120) : Inv (w2 g 1 f) lf n q tn tu T :=
  ⟨h.hn, h.hnb, h.hq, h.hqc, h.ht, h.htb, h.hts1, h.htu, h.ht0, h.hu, h.hub, h.hus1, h.huu, h.hu0, h.hst, h.hsz, h.hits, h.hbe, h.hwh, h.hT0, h.hT0b, hf, h.hcar, h.hcnt⟩
theorem cnt_up0 {f : Nat → Int32} {n z : Nat} (h : Cnt (fun w => ¬ f w = 0) n z) : Cnt (fun w => ¬ upd f n 0 w = 0) (n + 1) z :=
  ⟨z, h.cg (fun w hw => by
    show _ ↔ ¬ upd f n 0 w = 0
    rw [updN (by omega)]), Or.inr ⟨fun c => c updE, rfl⟩⟩
theorem up_car {g : Nat → Nat → Int32} {n : Nat} (h : ∀ w, w < n → g 8 w = 0 → g 9 w = 0) : ∀ w, w < n + 1 → upd (g 8) n 0 w = 0 → upd (g 9) n 0 w = 0 := by
  intro w hw
  unfold upd
  by_cases c : w = n
  · rw [if_pos c]; intro _; exact if_pos c
  · rw [if_neg c, if_neg c]; exact h w (by omega)
/-- a bay more -/
theorem Inv.gAdd {g : Nat → Nat → Int32} {lf : Int32} {n q tn tu T : Nat} {lv ps sz : Int32} (h : Inv g lf n q tn tu T) (hn : n < 30) (hs : 0 ≤ sz) : Inv (gAdd g n lv ps sz) lf (n + 1) q tn tu T :=
  ⟨up_nI h.hn, by omega, h.hq, h.hqc, h.ht, h.htb, h.hts1, h.htu, h.ht0, h.hu, h.hub, h.hus1, h.huu, h.hu0, h.hst, up_end (P := fun x => 0 ≤ x) h.hsz hs, up_end (P := fun x => x = -9 ∨ ∃ w, w < q ∧ x = nI w) h.hits (Or.inl rfl), h.hbe,
    fun w hw => by
      obtain ⟨b, hb, e⟩ := h.hwh w hw
      exact ⟨b, by omega, e⟩, h.hT0, h.hT0b, h.hho, up_car h.hcar, by
      obtain ⟨z, hz, e⟩ := h.hcnt
      exact ⟨z, cnt_up0 hz, e⟩⟩
theorem wi_nI {x : Int32} {a N : Nat} (ha : a < 2 ^ 31) (hN : N + 1 < 2 ^ 31) (h : nI a ≤ x ∧ x ≤ nI N) : ∃ k, a ≤ k ∧ k ≤ N ∧ x = nI k := by
  obtain ⟨k, hk, e⟩ := wi_ix hN ⟨Int32.le_trans (nI_pos' ha) h.1, h.2⟩
  subst e
  exact ⟨k, (nI_leI ha (by omega)).mp h.1, by omega, rfl⟩
/-- a reservation more -/
theorem Inv.gRes {g : Nat → Nat → Int32} {lf : Int32} {n q tn tu T : Nat} {pl bay bg en pr : Int32} (h : Inv g lf n q tn tu T) (hq : q < 16) (hb : ∃ k, k < n ∧ bay = nI k) (h1 : Wi bg (g 0 0) 20000) (h2 : Wi en (bg + 1) (bg + 1440)) : Inv (gRes g q pl bay bg en pr) lf n (q + 1) tn tu T := by
  obtain ⟨a, ha0, ha, rfl⟩ := wi_nI (x := bg) (a := T) (N := 20000) (by have := h.hT0b; omega) (by decide) (by rw [← h.hT0]; exact h1)
  obtain ⟨b, hb0, hb1, rfl⟩ := wi_nI (x := en) (a := a + 1) (N := a + 1440) (by omega) (by omega) (by rw [← nI_add, ← nI_add]; exact h2)
  exact ⟨h.hn, h.hnb, up_nI h.hq, by omega, h.ht, h.htb, h.hts1, h.htu, h.ht0, h.hu, h.hub, h.hus1, h.huu, h.hu0, up_end (P := fun x => 0 ≤ x) h.hst (by decide), h.hsz, fun k hk => by
      rcases h.hits k hk with e | ⟨w, hw, e⟩
      · exact Or.inl e
      · exact Or.inr ⟨w, by omega, e⟩, fun w hw => by
      show ∃ a_1 b_1, upd (g 15) q (nI a) w = nI a_1 ∧ upd (g 16) q (nI b) w = nI b_1 ∧ _
      by_cases c : w = q
      · subst c
        exact ⟨a, b, updE, updE, by omega, by omega, ha⟩
      · rw [updN c, updN c]
        exact h.hbe w (by omega), up_end (P := fun x => ∃ b, b < n ∧ x = nI b) h.hwh hb, h.hT0, h.hT0b, h.hho, h.hcar, h.hcnt⟩
theorem i_cnt1 (a b : Int32) : a + 1 - b = a - b + 1 := by
  rw [Int32.sub_eq_add_neg, Int32.sub_eq_add_neg, Int32.add_assoc, Int32.add_comm 1, Int32.add_assoc]
theorem i_cnt2 (a b : Int32) : a - (b + 1) = a - b - 1 := by
  rw [Int32.sub_eq_add_neg, Int32.sub_eq_add_neg, Int32.sub_eq_add_neg, Int32.neg_add, Int32.sub_eq_add_neg, Int32.add_assoc]
/-- a car comes into an empty bay -/
theorem Inv.gIn {g : Nat → Nat → Int32} {lf : Int32} {n q tn tu T k : Nat} {pl rv : Int32} (h : Inv g lf n q tn tu T) (hk : k < n) (he : g 8 k = 0) (hp : ¬ pl = 0) (hr : rv = -9 ∨ ∃ w, w < q ∧ rv = nI w) : Inv (gIn g k pl rv) lf n q tn tu T :=
  ⟨h.hn, h.hnb, h.hq, h.hqc, h.ht, h.htb, h.hts1, h.htu, h.ht0, h.hu, h.hub, h.hus1, h.huu, h.hu0, h.hst, h.hsz, up_all (P := fun x => x = -9 ∨ ∃ w, w < q ∧ x = nI w) h.hits hr, h.hbe, h.hwh, h.hT0, h.hT0b, h.hho, fun w hw => by
      show upd (g 8) k pl w = 0 → upd (g 9) k (g 0 1 + 1) w = 0
      by_cases c : w = k
      · subst c; rw [updE]; intro e; exact absurd e hp
      · rw [updN c, updN c]; exact h.hcar w hw, by
      obtain ⟨z, hz, e⟩ := h.hcnt
      refine ⟨z + 1, hz.more (k := k) (Q := fun w => ¬ upd (g 8) k pl w = 0) (fun c => c he) ?_ hk (fun w hw => ?_), ?_⟩
      · show ¬ upd (g 8) k pl k = 0
        rw [updE]; exact hp
      · show _ ↔ ¬ upd (g 8) k pl w = 0
        rw [updN hw]
      · show upd (g 0) 1 (g 0 1 + 1) 1 - lf = _
        rw [updE, i_cnt1, e, nI_1]⟩
/-- a car goes -/
theorem Inv.gOut {g : Nat → Nat → Int32} {lf : Int32} {n q tn tu T k : Nat} (h : Inv g lf n q tn tu T) (hk : k < n) (he : ¬ g 8 k = 0) : Inv (gOut g k) (lf + 1) n q tn tu T :=
  ⟨h.hn, h.hnb, h.hq, h.hqc, h.ht, h.htb, h.hts1, h.htu, h.ht0, h.hu, h.hub, h.hus1, h.huu, h.hu0, h.hst, h.hsz, up_all (P := fun x => x = -9 ∨ ∃ w, w < q ∧ x = nI w) h.hits (Or.inl rfl), h.hbe, h.hwh, h.hT0, h.hT0b, h.hho, fun w hw => by
      show upd (g 8) k 0 w = 0 → upd (g 9) k 0 w = 0
      by_cases c : w = k
      · subst c; rw [updE, updE]; intro _; rfl
      · rw [updN c, updN c]; exact h.hcar w hw, by
      obtain ⟨z, hz, e⟩ := h.hcnt
      obtain ⟨y, rfl, hy⟩ := hz.less (k := k) (Q := fun w => ¬ upd (g 8) k 0 w = 0) he (by show ¬ ¬ upd (g 8) k 0 k = 0; rw [updE]; exact fun c => c rfl) hk (fun w hw => by show _ ↔ ¬ upd (g 8) k 0 w = 0; rw [updN hw])
      refine ⟨y, hy, ?_⟩
      show g 0 1 - (lf + 1) = _
      rw [i_cnt2, e, show (1 : Int32) = nI 1 from rfl, pk_sub (by omega)]
      rfl⟩
theorem Inv.inx {g u : Nat → Nat → Int32} {lf : Int32} {n q tn tu T k : Nat} {pl rv : Int32} (h : Inv g lf n q tn tu T) (hk : k < n) (he : g 8 k = 0) (hp : ¬ pl = 0) (hr : rv = -9 ∨ ∃ w, w < q ∧ rv = nI w) (hu : LetIn g q k pl rv u) : Inv u lf n q tn tu T := by
  have h2 := h.gIn hk he hp hr
  rcases hu with ⟨w, hw, -, rfl⟩ | ⟨-, rfl⟩
  · exact h2.gw18 (up_all (P := fun x => 0 ≤ x) h.hst (by decide))
  · exact h2
theorem Inv.outx {g u : Nat → Nat → Int32} {lf : Int32} {n q tn tu T k : Nat} (h : Inv g lf n q tn tu T) (hk : k < n) (he : ¬ g 8 k = 0) (hu : LetOut g q k u) : Inv u (lf + 1) n q tn tu T := by
  have h2 := h.gOut hk he
  rcases hu with ⟨w, hw, -, rfl⟩ | ⟨-, rfl⟩
  · exact h2.gw18 (up_all (P := fun x => 0 ≤ x) h.hst (by decide))
  · exact h2
/-- time goes on -/
theorem Inv.gPass {g : Nat → Nat → Int32} {lf : Int32} {n q tn tu T : Nat} {x : Int32} (h : Inv g lf n q tn tu T) (h1 : Wi x 1 5000) (h2 : ¬ 20000 < g 0 0 + x) : ∃ T, Inv (w2 (w2 g 0 (upd (g 0) 0 (g 0 0 + x))) 18 (exS (g 18) (g 16) (g 0 0 + x) q)) lf n q tn tu T := by
  obtain ⟨y, hy0, hy, rfl⟩ := wi_nI (x := x) (a := 1) (N := 5000) (by decide) (by decide) h1
  have hb := h.hT0b
  have e : g 0 0 + nI y = nI (T + y) := by rw [h.hT0, nI_add]
  rw [e] at h2 ⊢
  have hlt : T + y ≤ 20000 := (nI_leI (by omega) (by decide)).mp (Int32.not_lt.mp h2)
  refine ⟨T + y, ?_⟩
  have h3 : Inv (w2 g 0 (upd (g 0) 0 (nI (T + y)))) lf n q tn tu (T + y) := ⟨h.hn, h.hnb, h.hq, h.hqc, h.ht, h.htb, h.hts1, h.htu, h.ht0, h.hu, h.hub, h.hus1, h.huu, h.hu0, h.hst, h.hsz, h.hits, h.hbe, h.hwh, (show upd (g 0) 0 (nI (T + y)) 0 = nI (T + y) from updE), hlt, h.hho, h.hcar, h.hcnt⟩
  refine h3.gw18 (fun w hw => ?_)
  unfold exS
  by_cases c : w < q ∧ g 18 w = 0 ∧ g 16 w ≤ nI (T + y)
  · rw [if_pos c]; decide
  · rw [if_neg c]; exact h.hst w hw
