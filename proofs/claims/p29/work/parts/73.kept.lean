/-! ===== each call that writes keeps a state as it always is ===== -/
def Kp (o : Option (Nat → Nat → Int32)) (lf : Int32) : Prop := ∀ g2, o = some g2 → OKs g2 lf
theorem kp_no {r c lf : Int32} {o : Option (Nat → Nat → Int32)} (h : No r c o) : Kp o lf := fun g2 e => absurd (h.2.symm.trans e) (fun q => by cases q)
theorem kp_yes {lf : Int32} {o : Option (Nat → Nat → Int32)} {g : Nat → Nat → Int32} (h : o = some g) (k : OKs g lf) : Kp o lf := fun g2 e => by
  have := h.symm.trans e
  injection this with this
  subst this
  exact k
theorem Ch.on {P A B C : Prop} (h : Ch P A B) (k1 : P → A → C) (k2 : ¬ P → B → C) : C := by
  rcases h with ⟨p, a⟩ | ⟨p, b⟩
  · exact k1 p a
  · exact k2 p b
section KEPT
variable {g : Nat → Nat → Int32} {lf : Int32} {n q tn tu T : Nat} {r : Int32} {o : Option (Nat → Nat → Int32)}
theorem Inv.kaddBay {lv ps sz : Int32} (h : Inv g lf n q tn tu T) (k : OaddBay g n lv ps sz r o) : Kp o lf :=
  k.on (fun p k => k.on (fun _ => kp_no) (fun _ k => k.on (fun _ => kp_no) (fun hn k => kp_yes k.2 (h.gAdd (by have := h.hnb; omega) p.2.2.1).ok))) (fun _ => kp_no)
theorem Inv.ksetBay {x on : Int32} (h : Inv g lf n q tn tu T) (k : OsetBay g n x on r o) : Kp o lf :=
  k.on (fun _ ⟨_, _, _, _, e⟩ => kp_yes e h.gw7.ok) (fun _ => kp_no)
theorem Inv.kS0 {x un pr : Int32} (h : Inv g lf n q tn tu T) (hx : 0 ≤ x) (hu : 0 ≤ un) (k : OS1 g 19 tn x un pr r o) : Kp o lf :=
  k.on (fun _ k => k.on (fun _ ⟨u, hu, _, e⟩ => by
    obtain ⟨m, hm⟩ := h.tk0.rem hu
    exact kp_yes e (h.st0 hm).ok) (fun _ => kp_no)) (fun p k => k.on (fun _ ⟨u, hp, _, e⟩ => by
    obtain ⟨m, hm⟩ := h.tk0.put hx (i_lt_of (Int32.not_lt.mpr hu) p) hp
    exact kp_yes e (h.st0 hm).ok) (fun _ => kp_no))
theorem Inv.kS1 {x un pr : Int32} (h : Inv g lf n q tn tu T) (hx : 0 ≤ x) (hu : 0 ≤ un) (k : OS1 g 23 tu x un pr r o) : Kp o lf :=
  k.on (fun _ k => k.on (fun _ ⟨u, hu, _, e⟩ => by
    obtain ⟨m, hm⟩ := h.tk1.rem hu
    exact kp_yes e (h.st1 hm).ok) (fun _ => kp_no)) (fun p k => k.on (fun _ ⟨u, hp, _, e⟩ => by
    obtain ⟨m, hm⟩ := h.tk1.put hx (i_lt_of (Int32.not_lt.mpr hu) p) hp
    exact kp_yes e (h.st1 hm).ok) (fun _ => kp_no))
theorem Inv.ksetStep {t x un pr : Int32} (h : Inv g lf n q tn tu T) (k : OsetStep g tn tu t x un pr r o) : Kp o lf :=
  k.on (fun p k => k.on (fun _ => h.kS0 p.2.1.1 p.2.2.1.1) (fun _ => h.kS1 p.2.1.1 p.2.2.1.1)) (fun _ => kp_no)
theorem ho_up {f : Nat → Int32} {k : Nat} {v : Int32} (h : ∃ h, f 1 = nI h ∧ h ≤ 120) (hv : k = 1 → 0 ≤ v ∧ v ≤ nI 120) : ∃ h, upd f k v 1 = nI h ∧ h ≤ 120 := by
  by_cases c : k = 1
  · subst c
    obtain ⟨y, hy, e⟩ := wi_ix (N := 120) (by decide) (hv rfl)
    exact ⟨y, by rw [updE]; exact e, by omega⟩
  · obtain ⟨y, e, hy⟩ := h
    exact ⟨y, by rw [updN (fun d => c d.symm)]; exact e, hy⟩
theorem Inv.ksetNumber {wh v : Int32} (h : Inv g lf n q tn tu T) (k : OsetNumber g wh v r o) : Kp o lf :=
  k.on (fun ⟨k, hk, hw, l1, l2⟩ ⟨k2, hk2, hw2, _, e⟩ => kp_yes e (h.gw1 (ho_up h.hho (fun c => by
    have : k = k2 := nI_inj (by omega) (by omega) (hw.symm.trans hw2)
    subst this c
    exact ⟨l1, l2⟩))).ok) (fun _ => kp_no)
theorem Inv.kreserve {pl sz bg en : Int32} (h : Inv g lf n q tn tu T) (k : Oreserve g n q tn pl sz bg en r o) : Kp o lf :=
  k.on (fun p ⟨z, hz, k⟩ => k.on (fun _ => kp_no) (fun c k => kp_yes k.2 (h.gRes (by
    have := h.hqc
    rcases Nat.lt_or_ge q 16 with d | d
    · exact d
    · exact absurd (Or.inl (by omega)) c) (by
    rcases Classical.em (∃ k, k < n ∧ z = nI k) with d | d
    · exact d
    · exact absurd (Or.inr d) c) p.2.2.1 p.2.2.2).ok)) (fun _ => kp_no)
theorem Inv.kcancel {x : Int32} (h : Inv g lf n q tn tu T) (k : Ocancel g q x r o) : Kp o lf := by
  rcases k with ⟨k, hk, hx, k⟩ | ⟨_, k⟩
  · exact k.on (fun _ ⟨_, e⟩ => kp_yes e (h.gw2.gw18 (up_all (P := fun x => 0 ≤ x) h.hst (by decide))).ok) (fun _ => kp_no)
  · exact kp_no k
theorem Wlk.sat {c : Nat → Int32 → Prop} : ∀ {n : Nat} {z : Int32}, Wlk (-9) (Imp c nI) n z → z = -9 ∨ ∃ k y, k < n ∧ z = nI k ∧ c k y
  | 0, z, h => Or.inl h
  | n + 1, z, ⟨y, hy, hs⟩ => by
    rcases hs with ⟨hc, h⟩ | ⟨-, h⟩
    · exact Or.inr ⟨n, y, by omega, h, hc⟩
    · rcases Wlk.sat hy with e | ⟨k, y2, hk, e, hc⟩
      · exact Or.inl (h.trans e)
      · exact Or.inr ⟨k, y2, by omega, h.trans e, hc⟩
theorem aFirst_emp {sz z : Int32} {k : Nat} (hn : n < 2 ^ 31) (h : aFirst g n q sz z) (hk : k < n) (hz : z = nI k) : g 8 k = 0 := by
  rcases Wlk.sat h with e | ⟨j, y, hj, e, hc⟩
  · exact absurd (e.symm.trans hz) (m9_ne hk hn)
  · have : j = k := nI_inj (by omega) (by omega) (e.symm.trans hz)
    subst this
    exact hc.1.2.2.1
theorem aUs_emp {x sz z : Int32} {k w : Nat} (hn : n < 2 ^ 31) (hq : q < 2 ^ 31) (h : aUs g n q x sz z) (hw : w < q) (hz : z = nI w) (hk : k < n) (hb : g 14 w = nI k) : g 8 k = 0 := by
  obtain ⟨y, -, h⟩ := h
  rcases h with ⟨-, e⟩ | ⟨v, hv, hy, h⟩
  · exact absurd (e.symm.trans hz) (m9_ne hw hq)
  · rcases h with ⟨⟨i, hi, e, _, _, h0⟩, e2⟩ | ⟨-, e⟩
    · have : v = w := nI_inj (by omega) (by omega) ((hy.symm.trans e2.symm).trans hz)
      subst this
      have : i = k := nI_inj (by omega) (by omega) (e.symm.trans hb)
      subst this
      exact h0
    · exact absurd (e.symm.trans hz) (m9_ne hw hq)
theorem pos_ne {x : Int32} (h : 1 ≤ x) : ¬ x = 0 := fun e => by
  subst e
  exact absurd h (by decide)
theorem Inv.kenter {pl sz : Int32} (h : Inv g lf n q tn tu T) (k : Oenter g n q pl sz r o) : Kp o lf := by
  have hn : n < 2 ^ 31 := by have := h.hnb; omega
  have hq : q < 2 ^ 31 := by have := h.hqc; omega
  refine k.on (fun p k => k.on (fun _ => kp_no) (fun _ ⟨rv, hr, z, hz, k⟩ => ?_)) (fun _ => kp_no)
  rcases k with ⟨k, hk, hx, u, hu, -, e⟩ | ⟨_, k⟩
  · refine kp_yes e (h.inx hk ?_ (pos_ne p.1.1) ?_ hu).ok
    · rcases hz with ⟨w, hw, ew, e2⟩ | ⟨-, e2⟩
      · exact aUs_emp hn hq hr hw ew hk (e2.symm.trans hx)
      · exact aFirst_emp hn e2 hk hx
    · rcases aUs_rng hr with d | ⟨w, hw, d, -⟩
      · exact Or.inl d
      · exact Or.inr ⟨w, hw, d⟩
  · exact kp_no k
theorem Inv.kleave {x : Int32} (h : Inv g lf n q tn tu T) (k : Oleave g n q tn tu x r o) : Kp o (lf + 1) := by
  refine k.on (fun p k => ?_) (fun _ => kp_no)
  rcases k with ⟨k, hk, hx, -, -, j, -, u, hu, e⟩ | ⟨_, k⟩
  · exact kp_yes e (h.gw2.outx hk (fun c => pos_ne p.1 (by rw [← hx]; exact h.hcar k hk c)) hu).ok
  · exact kp_no k
theorem Inv.klost {pl : Int32} (h : Inv g lf n q tn tu T) (k : Olost g n q tn pl r o) : Kp o (lf + 1) := by
  refine k.on (fun p k => ?_) (fun _ => kp_no)
  rcases k with ⟨k, hk, hx, -, -, u, hu, e⟩ | ⟨_, k⟩
  · exact kp_yes e (h.gw2.outx hk (fun c => pos_ne p.1 (by rw [← hx]; exact c)) hu).ok
  · exact kp_no k
theorem Inv.kpass {x : Int32} (h : Inv g lf n q tn tu T) (k : Opass g q x r o) : Kp o lf :=
  k.on (fun p k => k.on (fun _ => kp_no) (fun c ⟨_, _, _, e⟩ => by
    obtain ⟨T2, h2⟩ := h.gPass p c
    exact kp_yes e h2.ok)) (fun _ => kp_no)
end KEPT
theorem nums_eq {g : Nat → Nat → Int32} {lf : Int32} {n q tn tu T n2 q2 tn2 tu2 : Nat} (h : Inv g lf n q tn tu T) (k : Nums g n2 q2 tn2 tu2) : n = n2 ∧ q = q2 ∧ tn = tn2 ∧ tu = tu2 := by
  obtain ⟨b1, b2, b3, b4, b5, b6, b7, b8⟩ := k
  obtain ⟨a1, a2, a3, a4, a5, a6, a7, a8⟩ := h.nums
  exact ⟨nI_inj (by omega) (by omega) (a1.symm.trans b1), nI_inj (by omega) (by omega) (a3.symm.trans b3), nI_inj (by omega) (by omega) (a5.symm.trans b5), nI_inj (by omega) (by omega) (a7.symm.trans b7)⟩
