/-! ===== items of the text: they go on, and keep the numbers ===== -/
theorem nI_nem1 {v : Nat} (h : v < 2 ^ 31) : ¬ nI v = -1 := fun e => absurd (show (-1 : Int32) < 0 by decide) (by rw [← e]; exact nI_pos h)
theorem ResB.r01 {r : Int32} {u : TSt} {o : RES} (h : ResB r u o) : r = 0 ∨ r = 1 := by
  rcases h with ⟨_, _, h, _⟩ | ⟨_, _, _, h, _⟩
  · exact Or.inl h
  · exact Or.inr h
theorem ResB.nar {r : Int32} {u : TSt} {o : RES} (h : ResB r u o) : narrow .boolean (.int r) = .int r := by
  rcases h.r01 with rfl | rfl <;> rfl
theorem ResB.one {r : Int32} {u : TSt} {o : RES} (h : ResB r u o) (hr : ¬ r = 0) : ResB 1 u o := by
  rcases h.r01 with e | e
  · exact absurd e hr
  · rw [← e]; exact h
theorem ResB.zero {r : Int32} {u : TSt} {o : RES} (h : ResB r u o) (hr : r = 0) : ResB 0 u o := by rw [← hr]; exact h
theorem PSemi.fwd {f : Nat → Int32} {L e : Nat} {P : Nat → Prop} {o : RES} (he : e ≤ L) (h : PSemi f L e P o) : (∃ x, o = .inl x) ∨ ∃ e2, e < e2 ∧ e2 ≤ L ∧ P e2 := by
  obtain ⟨k, s, e2, ht, ⟨hs, hp⟩ | ⟨-, hp⟩⟩ := h
  · right
    have hle := ht.le he
    have hlt := ht.lt (by rw [hs.1]; decide)
    rcases ht.2 with ⟨q, _, _⟩ | ⟨_, _, q, _⟩ | ⟨_, _, _, q, _⟩ | ⟨_, _, _, _, q⟩
    · exact absurd hlt q
    · have := hs.1; omega
    · have := hs.1; omega
    · exact ⟨e2, by omega, by omega, hp⟩
  · exact Or.inl ⟨s, hp⟩
theorem PNumb.fwd {f : Nat → Int32} {L e lo hi : Nat} {P : Nat → Nat → Nat → Prop} {o : RES} (he : e ≤ L) (h : PNumb f L e lo hi P o) : (∃ x, o = .inl x) ∨ ∃ v s2 e2, e ≤ e2 ∧ e2 ≤ L ∧ NumIn f 2 s2 e2 lo hi v ∧ P v s2 e2 := by
  obtain ⟨k, s, e2, ht, ⟨hs, v, hv, hp⟩ | ⟨-, hp⟩⟩ := h
  · right
    have hle := ht.le he
    have hk := hv.1.1
    subst hk
    exact ⟨v, s, e2, by omega, by omega, hv, hp⟩
  · exact Or.inl ⟨s, hp⟩
theorem PNo.fwd {f : Nat → Int32} {L : Nat} {g : Nat → Nat → Int32} {wh lo hi e0 : Nat} {o : RES} (he : e0 ≤ L) (h : PNo f L g wh lo hi e0 o) : (∃ x, o = .inl x) ∨ ∃ e2 v, e0 < e2 ∧ e2 ≤ L ∧ lo ≤ v ∧ v ≤ hi ∧ o = .inr (e2, w2 g 1 (upd (g 1) wh (nI v))) := by
  rcases PNumb.fwd he h with q | ⟨v, s2, e2, h1, h2, hv, hp⟩
  · exact Or.inl q
  · rcases PSemi.fwd h2 hp with q | ⟨e3, h3, h4, q⟩
    · exact Or.inl q
    · exact Or.inr ⟨e3, v, by omega, h4, hv.2.1, hv.2.2, q⟩
theorem SizeR.in {f : Nat → Int32} {k s e : Nat} {r : Int32} (h : SizeR f k s e r) (hr : ¬ r = -1) : 0 ≤ r ∧ r ≤ 2 := by
  rcases h with ⟨-, rfl⟩ | ⟨-, ⟨-, rfl⟩ | ⟨-, ⟨-, rfl⟩ | ⟨-, h⟩⟩⟩
  · decide
  · decide
  · decide
  · exact absurd h hr
theorem PBay.fwd {f : Nat → Int32} {L : Nat} {g : Nat → Nat → Int32} {n s0 e0 : Nat} {o : RES} (he : e0 ≤ L) (h : PBay f L g n s0 e0 o) : (∃ x, o = .inl x) ∨ ∃ e2 lv ps z, e0 < e2 ∧ e2 ≤ L ∧ ¬ n = 30 ∧ lv ≤ 4 ∧ ps ≤ 99 ∧ (0 ≤ z ∧ z ≤ 2) ∧ (¬ ∃ w, w < n ∧ g 4 w = nI lv ∧ g 5 w = nI ps) ∧ o = .inr (e2, gAdd g n (nI lv) (nI ps) z) := by
  rcases h with ⟨-, h⟩ | ⟨hn, k1, s1, e1, z, ht, hz, ⟨-, h⟩ | ⟨hz1, h⟩⟩
  · exact Or.inl ⟨_, h⟩
  · exact Or.inl ⟨_, h⟩
  · have hle := ht.le he
    rcases PNumb.fwd (by omega) h with q | ⟨lv, s2, e2, h1, h2, hv, hp⟩
    · exact Or.inl q
    · rcases PNumb.fwd h2 hp with q | ⟨ps, s3, e3, h3, h4, hv2, ⟨-, hp⟩ | ⟨hno, hp⟩⟩
      · exact Or.inl q
      · exact Or.inl ⟨_, hp⟩
      · rcases PSemi.fwd h4 hp with q | ⟨e4, h5, h6, q⟩
        · exact Or.inl q
        · exact Or.inr ⟨e4, lv, ps, z, by omega, h6, hn, hv.2.2, hv2.2.2, hz.in hz1, hno, q⟩
theorem PStep1.fwd {f : Nat → Int32} {L : Nat} {g : Nat → Nat → Int32} {B n e0 : Nat} {o : RES} (he : e0 ≤ L) (h : PStep1 f L g B n e0 o) : (∃ x, o = .inl x) ∨ ∃ e2 x un pr u, e0 < e2 ∧ e2 ≤ L ∧ x ≤ 1440 ∧ 1 ≤ un ∧ un ≤ 240 ∧ pr ≤ 5000 ∧ TPut (fun k => g (B + k)) n (nI x) (nI un) (nI pr) u ∧ o = .inr (e2, wblk g B 4 u) := by
  rcases PNumb.fwd he h with q | ⟨x, s2, e2, h1, h2, hv, ⟨-, hp⟩ | ⟨-, hp⟩⟩
  · exact Or.inl q
  · rcases PNumb.fwd h2 hp with q | ⟨un, s3, e3, h3, h4, hv2, hp⟩
    · exact Or.inl q
    · rcases PNumb.fwd h4 hp with q | ⟨pr, s4, e4, h5, h6, hv3, hp⟩
      · exact Or.inl q
      · rcases PSemi.fwd h6 hp with q | ⟨e5, h7, h8, u, hu, q⟩
        · exact Or.inl q
        · exact Or.inr ⟨e5, x, un, pr, u, by omega, h8, hv.2.2, hv2.2.1, hv2.2.2, hv3.2.2, hu, q⟩
  · exact Or.inl ⟨_, hp⟩
theorem TPut.num {g u : Nat → Nat → Int32} {n : Nat} {x un pr : Int32} (h : TPut g n x un pr u) (hn : g 0 0 = nI n) (hb : n ≤ 5) : ∃ m, u 0 0 = nI m ∧ m ≤ 5 := by
  obtain ⟨k, -, ⟨-, -, rfl⟩ | ⟨-, h5, rfl⟩⟩ := h
  · exact ⟨n, hn, hb⟩
  · exact ⟨n + 1, by show g 0 0 + 1 = _; rw [hn, nI_1], by omega⟩
/-- an item that is carried out: it ends further on, and the numbers stay in their bounds -/
theorem PItem.fwd {f : Nat → Int32} {L : Nat} {g g2 : Nat → Nat → Int32} {n q tn tu k0 s0 e0 e2 : Nat} (he : e0 ≤ L) (hN : Nums g n q tn tu) (h : PItem f L g n tn tu k0 s0 e0 (.inr (e2, g2))) : e0 < e2 ∧ e2 ≤ L ∧ ∃ n2 tn2 tu2, Nums g2 n2 q tn2 tu2 := by
  obtain ⟨h1, h2, h3, h4, h5, h6, h7, h8⟩ := hN
  rcases h with ⟨-, h⟩ | ⟨-, ⟨-, h⟩ | ⟨-, ⟨-, h⟩ | ⟨-, ⟨-, h⟩ | ⟨-, h⟩⟩⟩⟩
  · rcases h.fwd he with ⟨x, q⟩ | ⟨e3, lv, ps, z, a1, a2, a3, -, -, -, -, a4⟩
    · cases q
    · obtain ⟨rfl, rfl⟩ := Prod.mk.inj (Sum.inr.inj a4)
      exact ⟨a1, a2, n + 1, tn, tu, by show g 3 0 + 1 = _; rw [h1, nI_1], by omega, h3, h4, h5, h6, h7, h8⟩
  · obtain ⟨k1, s1, e1, z, ht, -, ⟨-, h⟩ | ⟨-, h⟩⟩ := h
    · cases h
    · have hle := ht.le he
      rcases h with ⟨-, h⟩ | ⟨-, h⟩
      · rcases h.fwd (by omega) with ⟨x, q⟩ | ⟨e3, x, un, pr, u, a1, a2, -, -, -, -, hu, a4⟩
        · cases q
        · obtain ⟨rfl, rfl⟩ := Prod.mk.inj (Sum.inr.inj a4)
          obtain ⟨m, b1, b2⟩ := hu.num h5 h6
          exact ⟨by omega, a2, n, m, tu, h1, h2, h3, h4, b1, b2, h7, h8⟩
      · rcases h.fwd (by omega) with ⟨x, q⟩ | ⟨e3, x, un, pr, u, a1, a2, -, -, -, -, hu, a4⟩
        · cases q
        · obtain ⟨rfl, rfl⟩ := Prod.mk.inj (Sum.inr.inj a4)
          obtain ⟨m, b1, b2⟩ := hu.num h7 h8
          exact ⟨by omega, a2, n, tn, m, h1, h2, h3, h4, h5, h6, b1, b2⟩
  · rcases h.fwd he with ⟨x, q⟩ | ⟨e3, v, a1, a2, -, -, a4⟩
    · cases q
    · obtain ⟨rfl, rfl⟩ := Prod.mk.inj (Sum.inr.inj a4)
      exact ⟨a1, a2, n, tn, tu, h1, h2, h3, h4, h5, h6, h7, h8⟩
  · rcases h.fwd he with ⟨x, q⟩ | ⟨e3, v, a1, a2, -, -, a4⟩
    · cases q
    · obtain ⟨rfl, rfl⟩ := Prod.mk.inj (Sum.inr.inj a4)
      exact ⟨a1, a2, n, tn, tu, h1, h2, h3, h4, h5, h6, h7, h8⟩
  · cases h
/-- how the whole text answers -/
def ResI (r : Int32) (g2 : Nat → Nat → Int32) (o : RES) : Prop := (∃ x, x ≤ 120 ∧ o = .inl x ∧ r = -10 - nI x) ∨ ∃ it, it ≤ 120 ∧ o = .inr (it, g2) ∧ r = nI it
theorem PSemi.err {f : Nat → Int32} {L e x : Nat} {P : Nat → Prop} (he : e ≤ L) (hP : ∀ e2, e2 ≤ L → P e2 → x ≤ L) (h : PSemi f L e P (.inl x)) : x ≤ L := by
  obtain ⟨k, s, e2, ht, ⟨-, hp⟩ | ⟨-, hp⟩⟩ := h
  · exact hP e2 (ht.le he).2.2.1 hp
  · cases hp
    exact (ht.le he).1
theorem PNumb.err {f : Nat → Int32} {L e lo hi x : Nat} {P : Nat → Nat → Nat → Prop} (he : e ≤ L) (hP : ∀ v s2 e2, s2 ≤ L → e2 ≤ L → P v s2 e2 → x ≤ L) (h : PNumb f L e lo hi P (.inl x)) : x ≤ L := by
  obtain ⟨k, s, e2, ht, ⟨-, v, -, hp⟩ | ⟨-, hp⟩⟩ := h
  · exact hP v s e2 (ht.le he).1 (ht.le he).2.2.1 hp
  · cases hp
    exact (ht.le he).1
theorem PNo.err {f : Nat → Int32} {L : Nat} {g : Nat → Nat → Int32} {wh lo hi e0 x : Nat} (he : e0 ≤ L) (h : PNo f L g wh lo hi e0 (.inl x)) : x ≤ L :=
  PNumb.err he (fun v s2 e2 _ h2 hp => PSemi.err h2 (fun _ _ q => by cases q) hp) h
theorem PStep1.err {f : Nat → Int32} {L : Nat} {g : Nat → Nat → Int32} {B n e0 x : Nat} (he : e0 ≤ L) (h : PStep1 f L g B n e0 (.inl x)) : x ≤ L :=
  PNumb.err he (fun v s2 e2 hs2 h2 hp => by
    rcases hp with ⟨-, hp⟩ | ⟨-, hp⟩
    · exact PNumb.err h2 (fun _ _ e3 _ h3 hp => PNumb.err h3 (fun _ _ e4 _ h4 hp => PSemi.err h4 (fun _ _ ⟨_, _, q⟩ => by cases q) hp) hp) hp
    · cases hp
      exact hs2) h
theorem PBay.err {f : Nat → Int32} {L : Nat} {g : Nat → Nat → Int32} {n s0 e0 x : Nat} (hs : s0 ≤ L) (he : e0 ≤ L) (h : PBay f L g n s0 e0 (.inl x)) : x ≤ L := by
  rcases h with ⟨-, h⟩ | ⟨-, k1, s1, e1, z, ht, -, ⟨-, h⟩ | ⟨-, h⟩⟩
  · cases h; exact hs
  · cases h; exact (ht.le he).1
  · exact PNumb.err (ht.le he).2.2.1 (fun _ _ e2 _ h2 hp => PNumb.err h2 (fun _ s3 e3 hs3 h3 hp => by
      rcases hp with ⟨-, hp⟩ | ⟨-, hp⟩
      · cases hp; exact hs3
      · exact PSemi.err h3 (fun _ _ q => by cases q) hp) hp) h
theorem PItem.err {f : Nat → Int32} {L : Nat} {g : Nat → Nat → Int32} {n tn tu k0 s0 e0 x : Nat} (hs : s0 ≤ L) (he : e0 ≤ L) (h : PItem f L g n tn tu k0 s0 e0 (.inl x)) : x ≤ L := by
  rcases h with ⟨-, h⟩ | ⟨-, ⟨-, h⟩ | ⟨-, ⟨-, h⟩ | ⟨-, ⟨-, h⟩ | ⟨-, h⟩⟩⟩⟩
  · exact h.err hs he
  · obtain ⟨k1, s1, e1, z, ht, -, ⟨-, h⟩ | ⟨-, h⟩⟩ := h
    · cases h; exact (ht.le he).1
    · rcases h with ⟨-, h⟩ | ⟨-, h⟩
      · exact h.err (ht.le he).2.2.1
      · exact h.err (ht.le he).2.2.1
  · exact h.err he
  · exact h.err he
  · cases h; exact hs
theorem wi_ix {x : Int32} {N : Nat} (hN : N + 1 < 2 ^ 31) (h : 0 ≤ x ∧ x ≤ nI N) : ∃ k, k < N + 1 ∧ x = nI k := by
  rcases pk_ix x hN with q | q | ⟨j, q1, q2⟩
  · exact absurd q (Int32.not_lt.mpr h.1)
  · exact absurd (Int32.le_trans q h.2) (fun z => by have := (nI_leI (by omega) (by omega)).mp z; omega)
  · exact ⟨j, q1, q2⟩
