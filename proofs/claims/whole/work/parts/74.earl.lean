/-! ===== the earliest begin: from jump to jump, or minute by minute ===== -/
abbrev Sm (x : Int32) : Prop := -1000000 ≤ x.toInt ∧ x.toInt ≤ 1000000
theorem i_addI {x y : Int32} (h1 : Sm x) (h2 : Sm y) : (x + y).toInt = x.toInt + y.toInt := by
  rw [Int32.toInt_add]
  exact Int.bmod_eq_of_le (by have := h1.1; have := h2.1; omega) (by have := h1.2; have := h2.2; omega)
theorem i_subI {x y : Int32} (h1 : Sm x) (h2 : Sm y) : (x - y).toInt = x.toInt - y.toInt := by
  rw [Int32.toInt_sub]
  exact Int.bmod_eq_of_le (by have := h1.1; have := h2.2; omega) (by have := h1.2; have := h2.1; omega)
/-- how many of n lie behind b -/
def cB (E : Nat → Int) (b : Int) : Nat → Nat
  | 0 => 0
  | n + 1 => cB E b n + (if b < E n then 1 else 0)
theorem cB_le {E : Nat → Int} {b b2 : Int} (h : b ≤ b2) : ∀ n, cB E b2 n ≤ cB E b n
  | 0 => Nat.le_refl 0
  | n + 1 => by
    have := cB_le (E := E) h n
    show cB E b2 n + _ ≤ cB E b n + _
    by_cases c : b2 < E n
    · rw [if_pos c, if_pos (by omega)]; omega
    · rw [if_neg c]; split <;> omega
theorem cB_lt {E : Nat → Int} {b b2 : Int} {w : Nat} (h : b ≤ b2) (h1 : b < E w) (h2 : ¬ b2 < E w) : ∀ n, w < n → cB E b2 n < cB E b n
  | 0, hw => absurd hw (Nat.not_lt_zero w)
  | n + 1, hw => by
    show cB E b2 n + _ < cB E b n + _
    by_cases c : w = n
    · subst c
      have := cB_le (E := E) h w
      rw [if_pos h1, if_neg h2]; omega
    · have := cB_lt h h1 h2 n (by omega)
      by_cases c : b2 < E n
      · rw [if_pos c, if_pos (by omega)]; omega
      · rw [if_neg c]; split <;> omega
theorem cB_n {E : Nat → Int} {b : Int} : ∀ n, cB E b n ≤ n
  | 0 => Nat.le_refl 0
  | n + 1 => by
    have := cB_n (E := E) (b := b) n
    show cB E b n + _ ≤ _
    split <;> omega
theorem EB_least {q : Nat} {wh st bg en : Nat → Int32} {x mi h : Int32} (hh : 0 ≤ h.toInt ∧ h.toInt ≤ 120) (hm : 0 ≤ mi.toInt ∧ mi.toInt ≤ 1440) (hbe : ∀ w, w < q → 0 ≤ (bg w).toInt ∧ (bg w).toInt ≤ 20000 ∧ 0 ≤ (en w).toInt ∧ (en w).toInt ≤ 21440) :
    ∀ (d : Nat) (b r : Int32), 0 ≤ b.toInt → b.toInt ≤ 25000 → cB (fun w => (en w).toInt + h.toInt) b.toInt q < d → EB q wh st bg en x mi h d b r →
      b.toInt ≤ r.toInt ∧ r.toInt ≤ 25000 ∧ (∀ j, j < q → ¬ HeldB wh st bg en (r - h) (r + mi) h x j) ∧ ∀ a : Int32, b.toInt ≤ a.toInt → a.toInt < r.toInt → ∃ w, w < q ∧ HeldB wh st bg en (a - h) (a + mi) h x w := by
  intro d
  induction d with
  | zero => intro b r _ _ hd; exact absurd hd (Nat.not_lt_zero _)
  | succ d ih =>
    intro b r hb0 hb1 hd hE
    rcases hE with ⟨hno, rfl⟩ | ⟨j, hj, hheld, -, hE⟩
    · exact ⟨Int.le_refl _, hb1, hno, fun a h1 h2 => by omega⟩
    · obtain ⟨g1, g2, g3, g4⟩ := hbe j hj
      have en1 : (en j + h).toInt = (en j).toInt + h.toInt := i_addI ⟨by omega, by omega⟩ ⟨by omega, by omega⟩
      obtain ⟨q1, q2, q3, q4⟩ := hheld
      have bh : ∀ a : Int32, 0 ≤ a.toInt → a.toInt ≤ 25000 → (a - h).toInt = a.toInt - h.toInt := fun a h1 h2 => i_subI ⟨by omega, by omega⟩ ⟨by omega, by omega⟩
      have bm : ∀ a : Int32, 0 ≤ a.toInt → a.toInt ≤ 25000 → (a + mi).toInt = a.toInt + mi.toInt := fun a h1 h2 => i_addI ⟨by omega, by omega⟩ ⟨by omega, by omega⟩
      rw [Int32.lt_iff_toInt_lt, bm b hb0 hb1] at q3
      rw [Int32.lt_iff_toInt_lt, bh b hb0 hb1] at q4
      have hstep : cB (fun w => (en w).toInt + h.toInt) (en j + h).toInt q < d := by
        have := cB_lt (E := fun w => (en w).toInt + h.toInt) (b := b.toInt) (b2 := (en j + h).toInt) (w := j) (by omega) (by show b.toInt < (en j).toInt + h.toInt; omega) (by show ¬ _ < (en j).toInt + h.toInt; omega) q hj
        omega
      obtain ⟨r1, r2, r3, r4⟩ := ih (en j + h) r (by omega) (by omega) hstep hE
      refine ⟨by omega, r2, r3, fun a h1 h2 => ?_⟩
      rcases Int.lt_or_le a.toInt (en j + h).toInt with c | c
      · refine ⟨j, hj, q1, q2, ?_, ?_⟩
        · rw [Int32.lt_iff_toInt_lt, bm a (by omega) (by omega)]; omega
        · rw [Int32.lt_iff_toInt_lt, bh a (by omega) (by omega)]; omega
      · exact r4 a c h2
theorem ErS_walk {sv : Nat → Prop} {ei : Nat → Int32 → Prop} {t : Int32} (h0 : ∀ j b, ei j b → ¬ b = -9) : ∀ {n : Nat} {z : Int32}, Wlk (-9) (ErS sv ei t) n z →
    (z = -9 ∧ ∀ j, j < n → sv j → ∃ b, ei j b ∧ ¬ (b ≤ t + 1440 ∧ b ≤ 20000)) ∨ ((∃ j, j < n ∧ sv j ∧ ei j z ∧ z ≤ t + 1440 ∧ z ≤ 20000) ∧ ∀ j, j < n → sv j → ∃ b, ei j b ∧ (b ≤ t + 1440 ∧ b ≤ 20000 → z ≤ b))
  | 0, z, h => Or.inl ⟨h, fun j hj => absurd hj (Nat.not_lt_zero j)⟩
  | n + 1, z, ⟨y, hy, hs⟩ => by
    have ih := ErS_walk h0 hy
    have last : ∀ {C : Nat → Prop}, (∀ j, j < n → sv j → C j) → (sv n → C n) → ∀ j, j < n + 1 → sv j → C j := fun a b j hj => by
      by_cases c : j = n
      · subst c; exact b
      · exact a j (by omega)
    rcases hs with ⟨hn, e⟩ | ⟨hv, b, hb, hs⟩
    · subst e
      rcases ih with ⟨e, ih⟩ | ⟨⟨j, hj, e⟩, ih⟩
      · exact Or.inl ⟨e, last ih (fun c => absurd c hn)⟩
      · exact Or.inr ⟨⟨j, by omega, e⟩, last ih (fun c => absurd c hn)⟩
    · rcases hs with ⟨⟨l1, l2, hz⟩, e⟩ | ⟨hno, e⟩
      · subst e
        refine Or.inr ⟨⟨n, by omega, hv, hb, l1, l2⟩, last ?_ (fun _ => ⟨z, hb, fun _ => Int32.le_refl z⟩)⟩
        rcases ih with ⟨e, ih⟩ | ⟨⟨j, hj, e⟩, ih⟩
        · intro j hj c
          obtain ⟨b2, hb2, h2⟩ := ih j hj c
          exact ⟨b2, hb2, fun d => absurd d h2⟩
        · intro i hi c
          obtain ⟨b2, hb2, h2⟩ := ih i hi c
          refine ⟨b2, hb2, fun d => ?_⟩
          rcases hz with hz | hz
          · exact absurd hz (h0 j y e.2.1)
          · exact Int32.le_trans (Int32.le_of_lt hz) (h2 d)
      · subst e
        rcases ih with ⟨e, ih⟩ | ⟨⟨j, hj, e⟩, ih⟩
        · exact Or.inl ⟨e, last ih (fun _ => ⟨b, hb, fun c => hno ⟨c.1, c.2, Or.inl e⟩⟩)⟩
        · refine Or.inr ⟨⟨j, by omega, e⟩, last ih (fun _ => ⟨b, hb, fun c => ?_⟩)⟩
          exact Int32.not_lt.mp (fun d => hno ⟨c.1, c.2, Or.inr d⟩)
theorem Wlk_none {C : Nat → Prop} {lv ps sz : Nat → Int32} {ra : Int32} {N : Nat} (hN : N < 2 ^ 31) : ∀ {n : Nat} {z : Int32}, n ≤ N → Wlk (-9) (Imp (fun j z => C j ∧ Btr lv ps sz ra N j z) nI) n z → z = -9 → ∀ j, j < n → ¬ C j
  | 0, z, _, _, _ => fun j hj => absurd hj (Nat.not_lt_zero j)
  | n + 1, z, hn, ⟨y, hy, hs⟩, e => by
    rcases hs with ⟨_, e2⟩ | ⟨hc, e2⟩
    · exact absurd (e.symm.trans e2) (m9_ne (n := N) (by omega) hN)
    · have hy9 : y = -9 := e2.symm.trans e
      have ih := Wlk_none hN (by omega) hy hy9
      intro j hj
      by_cases c : j = n
      · subst c
        exact fun d => hc ⟨d, Or.inl (fun i hi => by rw [hy9]; exact m9_ne hi hN)⟩
      · exact ih j (by omega)
theorem earl_one {g : Nat → Nat → Int32} {lf : Int32} {n q tn tu T : Nat} {sz mi r r2 : Int32} (hI : Inv g lf n q tn tu T) (hq : ¬ q = 16) (hm : Wi mi 1 1440) (h : aEarl g n q sz mi r) (h2 : mEarl g n q sz mi T r2) : r = r2 := by
  have hn : n < 2 ^ 31 := by have := hI.hnb; omega
  obtain ⟨H, hH, hHb⟩ := hI.hho
  have hT := hI.hT0
  have hTb := hI.hT0b
  have hqc := hI.hqc
  have Hi : (g 1 1).toInt = H := by rw [hH]; exact nI_toInt (by omega)
  have Ti : (g 0 0).toInt = T := by rw [hT]; exact nI_toInt (by omega)
  have hm1 : 0 ≤ mi.toInt ∧ mi.toInt ≤ 1440 := by
    have a := Int32.le_iff_toInt_le.mp hm.1
    have b := Int32.le_iff_toInt_le.mp hm.2
    have e1 : (1 : Int32).toInt = 1 := by decide
    have e2 : (1440 : Int32).toInt = 1440 := by decide
    omega
  have hbe : ∀ w, w < q → 0 ≤ (g 15 w).toInt ∧ (g 15 w).toInt ≤ 20000 ∧ 0 ≤ (g 16 w).toInt ∧ (g 16 w).toInt ≤ 21440 := fun w hw => by
    obtain ⟨a, b, e1, e2, h1, h2, h3⟩ := hI.hbe w hw
    rw [e1, e2, nI_toInt (by omega), nI_toInt (by omega)]
    omega
  -- what EIn says
  have hE : ∀ j b, EIn q (g 14) (g 18) (g 15) (g 16) (g 8) (g 0 0) (g 1 1) mi j b → (T : Int) ≤ b.toInt ∧ b.toInt ≤ 25000 ∧ Rsv q (g 14) (g 18) (g 15) (g 16) (g 8) (g 0 0) (g 1 1) b (b + mi) j ∧ ∀ a : Int32, (T : Int) ≤ a.toInt → a.toInt < b.toInt → ¬ Rsv q (g 14) (g 18) (g 15) (g 16) (g 8) (g 0 0) (g 1 1) a (a + mi) j := by
    intro j b hb
    rcases hb with ⟨hp, hb⟩ | ⟨hp, hb⟩
    · obtain ⟨r1, r2, r3, r4⟩ := EB_least (by omega) hm1 hbe 16 (g 0 0) b (by omega) (by omega) (by have := cB_n (E := fun w => (g 16 w).toInt + (g 1 1).toInt) (b := (g 0 0).toInt) q; omega) hb
      exact ⟨by omega, r2, ⟨fun c => c.2 hp, fun ⟨w, hw, c⟩ => r3 w hw c⟩, fun a h1 h2 c => c.2 (r4 a (by omega) h2)⟩
    · have e1 : (g 0 0 + g 1 1 + 1).toInt = T + H + 1 := by rw [hT, hH, nI_add, nI_1, nI_toInt (by omega)]; omega
      obtain ⟨r1, r2, r3, r4⟩ := EB_least (by omega) hm1 hbe 16 (g 0 0 + g 1 1 + 1) b (by omega) (by omega) (by have := cB_n (E := fun w => (g 16 w).toInt + (g 1 1).toInt) (b := (g 0 0 + g 1 1 + 1).toInt) q; omega) hb
      have sb : ∀ a : Int32, (T : Int) ≤ a.toInt → a.toInt ≤ 25000 → (a - g 1 1).toInt = a.toInt - H := fun a h1 h2 => by rw [i_subI ⟨by omega, by omega⟩ ⟨by omega, by omega⟩]; omega
      refine ⟨by omega, r2, ⟨fun c => ?_, fun ⟨w, hw, c⟩ => r3 w hw c⟩, fun a h1 h2 c => ?_⟩
      · have := Int32.le_iff_toInt_le.mp c.1
        rw [sb b (by omega) r2] at this
        omega
      · have c1 : ¬ a - g 1 1 ≤ g 0 0 := fun d => c.1 ⟨d, hp⟩
        rw [Int32.le_iff_toInt_le, sb a h1 (by omega)] at c1
        exact c.2 (r4 a (by omega) h2)
  have hno : ∀ j b, EIn q (g 14) (g 18) (g 15) (g 16) (g 8) (g 0 0) (g 1 1) mi j b → ¬ b = -9 := fun j b hb e => by
    have := (hE j b hb).1
    rw [e] at this
    have e9 : (-9 : Int32).toInt = -9 := by decide
    omega
  have lim : ∀ b : Int32, (b ≤ g 0 0 + 1440 ∧ b ≤ 20000) ↔ b.toInt ≤ (min 20000 (T + 1440) : Nat) := fun b => by
    rw [Int32.le_iff_toInt_le, Int32.le_iff_toInt_le, hT, show (1440 : Int32) = nI 1440 from rfl, nI_add, nI_toInt (by omega), show (20000 : Int32).toInt = 20000 from by decide]
    omega
  -- what the reference's search at a minute says
  have hR : ∀ (a : Nat), a ≤ 20000 → (∃ z, aFor g n q sz (nI a) (nI a + mi) z ∧ z = -9) → ∀ j, j < n → ¬ ((g 7 j = 1 ∧ sz ≤ g 6 j) ∧ Rsv q (g 14) (g 18) (g 15) (g 16) (g 8) (g 0 0) (g 1 1) (nI a) (nI a + mi) j) := by
    intro a ha ⟨z, hz, e⟩ j hj c
    exact Wlk_none (C := fun j => g 7 j = 1 ∧ sz ≤ g 6 j ∧ Rsv q (g 14) (g 18) (g 15) (g 16) (g 8) (g 0 0) (g 1 1) (nI a) (nI a + mi) j) hn (Nat.le_refl n) hz e j hj ⟨c.1.1, c.1.2, c.2⟩
  have nat : ∀ b : Int32, 0 ≤ b.toInt → b.toInt ≤ 25000 → ∃ a : Nat, b = nI a ∧ (a : Int) = b.toInt := fun b h1 h2 => by
    refine ⟨b.toInt.toNat, ?_, by omega⟩
    apply Int32.toInt_inj.mp
    rw [nI_toInt (by omega)]
    omega
  rcases ErS_walk hno h with ⟨e, hw⟩ | ⟨⟨j, hj, hs, hb, hl⟩, hw⟩
  · -- the class finds none
    subst e
    rcases h2 with ⟨b, hb1, hb2, ⟨z, hz, hz9⟩, -, -⟩ | ⟨-, e2⟩
    · exfalso
      rcases Wlk.sat hz with c | ⟨k, y, hk, -, hc⟩
      · exact hz9 c
      · obtain ⟨b2, hb3, hb4⟩ := hw k hk ⟨hc.1.1, hc.1.2.1⟩
        obtain ⟨q1, q2, q3, q4⟩ := hE k b2 hb3
        rw [lim] at hb4
        have eb : (nI b).toInt = b := nI_toInt (by omega)
        exact q4 (nI b) (by omega) (by omega) hc.1.2.2
    · exact e2.symm
  · obtain ⟨q1, q2, q3, q4⟩ := hE j r hb
    rw [lim] at hl
    obtain ⟨R, rfl, eR⟩ := nat r (by omega) q2
    rcases h2 with ⟨b, hb1, hb2, ⟨z, hz, hz9⟩, hlow, e2⟩ | ⟨hall, -⟩
    · rw [e2]
      congr 1
      rcases Nat.lt_trichotomy R b with c | c | c
      · exact absurd ⟨hs, q3⟩ (hR R (by omega) (hlow R (by omega) c) j hj)
      · exact c
      · exfalso
        rcases Wlk.sat hz with d | ⟨k, y, hk, -, hc⟩
        · exact hz9 d
        · obtain ⟨b2, hb3, hb4⟩ := hw k hk ⟨hc.1.1, hc.1.2.1⟩
          obtain ⟨p1, p2, p3, p4⟩ := hE k b2 hb3
          have eb : (nI b).toInt = b := nI_toInt (by omega)
          rcases Int.lt_or_le (nI b).toInt b2.toInt with d | d
          · exact p4 (nI b) (by omega) d hc.1.2.2
          · have := Int32.le_iff_toInt_le.mp (hb4 ((lim b2).mpr (by omega)))
            omega
    · exact absurd ⟨hs, q3⟩ (hR R (by omega) (hall R (by omega) (by omega)) j hj)
theorem aEarliest_one {g : Nat → Nat → Int32} {lf : Int32} {n q tn tu T : Nat} {sz mi r r2 : Int32} (hI : Inv g lf n q tn tu T) (h : aEarliest g n q sz mi r) (h2 : mEarliest g n q sz mi T r2) : r = r2 :=
  Ch.two h h2 (fun p a b => Ch.two a b (fun _ a b => a.trans b.symm) (fun hq a b => earl_one hI hq p.2 a b)) (fun _ a b => a.trans b.symm)
