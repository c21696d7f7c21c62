/-! ===== words for what the reference reads ===== -/
def TakeR (f : Nat → Int32) (L : Nat) (wr b : Int32) (t0 : TKN) (u : TKN × Int32) : Prop := (wr = 0 ∧ b = 1 ∧ u.2 = 0 ∧ GoT f L t0.2.2.1 u.1) ∨ (¬ (wr = 0 ∧ b = 1) ∧ u = (t0, 1))
theorem take_yes {f : Nat → Int32} {L : Nat} {t0 : TKN} {u : TKN × Int32} (h : TakeR f L 0 1 t0 u) : u.2 = 0 ∧ GoT f L t0.2.2.1 u.1 := by
  rcases h with ⟨-, -, h⟩ | ⟨h, -⟩
  · exact h
  · exact absurd ⟨rfl, rfl⟩ h
theorem take_no {f : Nat → Int32} {L : Nat} {wr b : Int32} {t0 : TKN} {u : TKN × Int32} (h : TakeR f L wr b t0 u) (hn : ¬ (wr = 0 ∧ b = 1)) : u = (t0, 1) := by
  rcases h with ⟨h1, h2, -⟩ | ⟨-, h⟩
  · exact absurd ⟨h1, h2⟩ hn
  · exact h
def TakeN (f : Nat → Int32) (L lo hi : Nat) (wr : Int32) (t0 : TKN) (r : Int32) (u : TKN × Int32) : Prop := r = t0.2.2.2.2 ∧ (((nI lo ≤ t0.2.2.2.2 ∧ t0.2.2.2.2 ≤ nI hi) ∧ TakeR f L wr 1 t0 u) ∨ (¬ (nI lo ≤ t0.2.2.2.2 ∧ t0.2.2.2.2 ≤ nI hi) ∧ TakeR f L wr 0 t0 u))
theorem takeN_wrong {f : Nat → Int32} {L lo hi : Nat} {t0 : TKN} {r : Int32} {u : TKN × Int32} (h : TakeN f L lo hi 1 t0 r u) : u = (t0, 1) := by
  rcases h.2 with ⟨-, h⟩ | ⟨-, h⟩
  · exact take_no h (fun q => absurd q.1 (by decide))
  · exact take_no h (fun q => absurd q.1 (by decide))
theorem takeN_cases {f : Nat → Int32} {L lo hi : Nat} {t0 : TKN} {r : Int32} {u : TKN × Int32} (h : TakeN f L lo hi 0 t0 r u) (hnm : NmOf f t0.1 t0.2.1 t0.2.2.1 t0.2.2.2.2) (hlo : lo < 99999) (hhi : hi < 99999) :
    ((∃ v, NumIn f t0.1 t0.2.1 t0.2.2.1 lo hi v ∧ r = nI v) ∧ u.2 = 0 ∧ GoT f L t0.2.2.1 u.1) ∨ ((¬ ∃ v, NumIn f t0.1 t0.2.1 t0.2.2.1 lo hi v) ∧ u = (t0, 1)) := by
  rcases h.2 with ⟨hin, h2⟩ | ⟨hin, h2⟩
  · obtain ⟨v, hv, e⟩ := nm_yes hnm hhi hin hlo
    exact Or.inl ⟨⟨v, hv, h.1.trans e⟩, take_yes h2⟩
  · exact Or.inr ⟨nm_no hnm hhi hin, take_no h2 (fun q => absurd q.2 (by decide))⟩
/-- the token that the reference has now -/
def TkOK (f : Nat → Int32) (L : Nat) (t : TKN) : Prop := ∃ p, p ≤ L ∧ GoT f L p t
theorem TkOK.le {f : Nat → Int32} {L : Nat} {t : TKN} (h : TkOK f L t) : t.2.1 ≤ L ∧ t.2.1 ≤ t.2.2.1 ∧ t.2.2.1 ≤ L := by
  obtain ⟨p, hp, h, -⟩ := h
  have := h.le hp
  omega
/-- behind an item but for its semicolon -/
def RdR (f : Nat → Int32) (L : Nat) (P : RES → Prop) (t : TKN) (wr : Int32) (g2 : Nat → Nat → Int32) : Prop := TkOK f L t ∧ ((wr = 1 ∧ P (.inl t.2.1)) ∨ (wr = 0 ∧ ∀ o : RES, Ch (Semi f t.1 t.2.1) (o = .inr (t.2.2.1, g2)) (o = .inl t.2.1) → P o))
theorem Ch.im {P A B A2 : Prop} (h : Ch P A B) (k : A → A2) : Ch P A2 B := Or.imp (fun q => ⟨q.1, k q.2⟩) id h
theorem Tok.k0 {f : Nat → Int32} {L p k s e : Nat} (h : Tok f L p k s e) : k = 0 ↔ ¬ s < L := by
  rcases h.2 with ⟨a, b, _⟩ | ⟨a, _, b, _⟩ | ⟨a, _, _, b, _⟩ | ⟨a, _, _, b, _⟩
  · exact ⟨fun _ => a, fun _ => b⟩
  · exact ⟨fun q => by omega, fun q => absurd a q⟩
  · exact ⟨fun q => by omega, fun q => absurd a q⟩
  · exact ⟨fun q => by omega, fun q => absurd a q⟩
theorem semi_iff {f : Nat → Int32} {L : Nat} {t : TKN} (h : TkOK f L t) (hL : L ≤ 120) (hc : Chr f) : Semi f t.1 t.2.1 ↔ (t.2.2.1 = t.2.1 + 1 ∧ bt f t.2.1 = 59) := by
  obtain ⟨p, hp, ht, -⟩ := h
  have hl := ht.le hp
  constructor
  · rintro ⟨h1, h2⟩
    rcases ht.2 with ⟨_, b, _⟩ | ⟨_, _, b, _⟩ | ⟨_, _, _, b, _⟩ | ⟨a, _, _, b, c⟩
    · omega
    · omega
    · omega
    · exact ⟨c, (bt_se (hc _ (by omega))).mpr h2⟩
  · rintro ⟨h1, h2⟩
    have h59 := (bt_se (hc t.2.1 (by omega))).mp h2
    rcases ht.2 with ⟨_, _, b⟩ | ⟨_, b, _, _⟩ | ⟨_, _, b, _, _⟩ | ⟨_, _, _, b, c⟩
    · omega
    · rw [h59] at b; exact absurd b (by decide)
    · rw [h59] at b; exact absurd b (by decide)
    · exact ⟨b, h59⟩
