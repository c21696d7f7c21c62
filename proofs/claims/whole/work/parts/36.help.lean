/-! ===== the text: f its characters, L how many ===== -/
abbrev wXk (cC : ClassId) (x : Nat → Nat) (L k s e : Nat) (f : Nat → Int32) : va_W := [(x 0, oE 5 [.int (nI L), .ref (x 1), .int (nI k), .int (nI s), .int (nI e)]), (x 1, cE cC 120 f)]
def Chr (f : Nat → Int32) : Prop := ∀ i, i < 120 → 0 ≤ f i ∧ f i ≤ 255
theorem chr_cases {x : Int32} (h : 0 ≤ x ∧ x ≤ 255) : ∃ d : Nat, d < 256 ∧ x = nI d := by
  obtain ⟨h1, h2⟩ := h
  rw [Int32.le_iff_toInt_le] at h1 h2
  have e0 : (0 : Int32).toInt = 0 := by decide
  have e1 : (255 : Int32).toInt = 255 := by decide
  refine ⟨x.toInt.toNat, by omega, Int32.toInt_inj.mp ?_⟩
  rw [nI_toInt (by omega)]
  omega
theorem chr_nar {x : Int32} (h : 0 ≤ x ∧ x ≤ 255) : narrow .char (.int x) = .int x := by
  obtain ⟨d, hd, rfl⟩ := chr_cases h
  have q : ∀ d, d < 256 → (nI d).toUInt32.toUInt16.toUInt32.toInt32 = nI d := by decide +kernel
  show Value.int _ = _
  rw [q d hd]
theorem chr_vnar {x : Int32} (h : 0 ≤ x ∧ x ≤ 255) : vp_nar .char x = x := by
  obtain ⟨d, hd, rfl⟩ := chr_cases h
  have q : ∀ d, d < 256 → (nI d).toUInt32.toUInt16.toUInt32.toInt32 = nI d := by decide +kernel
  rw [vp_nar_char, q d hd]
theorem chr_i2c {x : Int32} (h : 0 ≤ x ∧ x ≤ 255) : (x.toUInt32 % 65536).toInt32 = x := by
  obtain ⟨d, hd, rfl⟩ := chr_cases h
  have q : ∀ d, d < 256 → ((nI d).toUInt32 % 65536).toInt32 = nI d := by decide +kernel
  exact q d hd
theorem chr_at {f : Nat → Int32} (h : Chr f) {k L : Nat} (hL : L ≤ 120) : 0 ≤ (if k < L then f k else 32) ∧ (if k < L then f k else 32) ≤ 255 := by
  by_cases hk : k < L
  · rw [if_pos hk]; exact h k (by omega)
  · rw [if_neg hk]; decide
/-- j is the first place from k on that is not below L with a character from lo to hi -/
def Beh (f : Nat → Int32) (L : Nat) (lo hi : Int32) (k j : Nat) : Prop := (∀ i, k ≤ i → i < j → i < L ∧ lo ≤ f i ∧ f i ≤ hi) ∧ k ≤ j ∧ ¬ (j < L ∧ lo ≤ f j ∧ f j ≤ hi)
theorem Beh.uniq {f : Nat → Int32} {L : Nat} {lo hi : Int32} {k j i : Nat} (h : Beh f L lo hi k j) (h2 : Beh f L lo hi k i) : j = i := by
  rcases Nat.lt_trichotomy j i with q | q | q
  · exact absurd (h2.1 j h.2.1 q) h.2.2
  · exact q
  · exact absurd (h.1 i h2.2.1 q) h2.2.2
theorem Beh.le {f : Nat → Int32} {L : Nat} {lo hi : Int32} {k j : Nat} (h : Beh f L lo hi k j) (hk : k ≤ L) : j ≤ L := by
  rcases Nat.lt_or_ge L j with q | q
  · have := (h.1 (j - 1) (by omega) (by omega)).1; omega
  · exact q
abbrev isL (x : Int32) : Prop := 97 ≤ x ∧ x ≤ 122
abbrev isD (x : Int32) : Prop := 48 ≤ x ∧ x ≤ 57
/-- the token behind place p: its kind (0 the end, 1 a word, 2 a number, 3 another), from s to before e -/
def Tok (f : Nat → Int32) (L p k s e : Nat) : Prop := Beh f L 32 32 p s ∧ ((¬ s < L ∧ k = 0 ∧ e = s) ∨ (s < L ∧ isL (f s) ∧ k = 1 ∧ Beh f L 97 122 s e) ∨ (s < L ∧ ¬ isL (f s) ∧ isD (f s) ∧ k = 2 ∧ Beh f L 48 57 s e) ∨ (s < L ∧ ¬ isL (f s) ∧ ¬ isD (f s) ∧ k = 3 ∧ e = s + 1))
theorem Tok.le {f : Nat → Int32} {L p k s e : Nat} (h : Tok f L p k s e) (hp : p ≤ L) : s ≤ L ∧ s ≤ e ∧ e ≤ L ∧ p ≤ s := by
  have hs := h.1.le hp
  have h2 := h.1.2.1
  rcases h.2 with ⟨_, _, q⟩ | ⟨q0, _, _, q⟩ | ⟨q0, _, _, _, q⟩ | ⟨q0, _, _, _, q⟩
  · omega
  · exact ⟨hs, q.2.1, q.le hs, h2⟩
  · exact ⟨hs, q.2.1, q.le hs, h2⟩
  · omega
theorem Tok.uniq {f : Nat → Int32} {L p k s e k2 s2 e2 : Nat} (h : Tok f L p k s e) (h2 : Tok f L p k2 s2 e2) : k = k2 ∧ s = s2 ∧ e = e2 := by
  have es := h.1.uniq h2.1
  subst es
  rcases h.2 with ⟨a1, a2, a3⟩ | ⟨a0, a1, a2, a3⟩ | ⟨a0, a1, a2, a3, a4⟩ | ⟨a0, a1, a2, a3, a4⟩ <;> rcases h2.2 with ⟨b1, b2, b3⟩ | ⟨b0, b1, b2, b3⟩ | ⟨b0, b1, b2, b3, b4⟩ | ⟨b0, b1, b2, b3, b4⟩
  · exact ⟨by omega, rfl, by omega⟩
  · exact absurd b0 a1
  · exact absurd b0 a1
  · exact absurd b0 a1
  · exact absurd a0 b1
  · exact ⟨by omega, rfl, a3.uniq b3⟩
  · exact absurd a1 b1
  · exact absurd a1 b1
  · exact absurd a0 b1
  · exact absurd b1 a1
  · exact ⟨by omega, rfl, a4.uniq b4⟩
  · exact absurd a2 b2
  · exact absurd a0 b1
  · exact absurd b1 a1
  · exact absurd b2 a2
  · exact ⟨by omega, rfl, by omega⟩
theorem Tok.k_lt {f : Nat → Int32} {L p k s e : Nat} (h : Tok f L p k s e) : k < 10 := by
  rcases h.2 with ⟨_, q, _⟩ | ⟨_, _, q, _⟩ | ⟨_, _, _, q, _⟩ | ⟨_, _, _, q, _⟩ <;> omega
theorem Tok.lt {f : Nat → Int32} {L p k s e : Nat} (h : Tok f L p k s e) (hk : k ≠ 0) : s < L := by
  rcases h.2 with ⟨_, q, _⟩ | ⟨q, _⟩ | ⟨q, _⟩ | ⟨q, _⟩
  · exact absurd q hk
  · exact q
  · exact q
  · exact q
theorem Tok.digits {f : Nat → Int32} {L p k s e : Nat} (h : Tok f L p k s e) (hk : k = 2) : ∀ i, s ≤ i → i < e → isD (f i) := by
  rcases h.2 with ⟨_, q, _⟩ | ⟨_, _, q, _⟩ | ⟨_, _, _, _, q⟩ | ⟨_, _, _, q, _⟩
  · omega
  · omega
  · exact fun i h1 h2 => (q.1 i h1 h2).2
  · omega
/-- the token is word j of the grammar -/
def Wrd (f : Nat → Int32) (k s e j : Nat) : Prop := k = 1 ∧ e - s = zN j ∧ ∀ i, i < zN j → f (s + i) = zB j i
/-- the number that n digits from s on tell -/
def dV (f : Nat → Int32) (s : Nat) : Nat → Nat
  | 0 => 0
  | n + 1 => dV f s n * 10 + (f (s + n) - 48).toInt.toNat
/-- the token is a number v as the grammar wants it -/
def Num (f : Nat → Int32) (k s e v : Nat) : Prop := k = 2 ∧ ¬ (f s = 48 ∧ 1 < e - s) ∧ v = dV f s (e - s)
theorem Num.uniq {f : Nat → Int32} {k s e v v2 : Nat} (h : Num f k s e v) (h2 : Num f k s e v2) : v = v2 := h.2.2.trans h2.2.2.symm
theorem dV_mono {f : Nat → Int32} {s : Nat} : ∀ {n k : Nat}, n ≤ k → dV f s n ≤ dV f s k := by
  intro n k
  induction k with
  | zero => intro h; have : n = 0 := by omega
            subst this; exact Nat.le_refl _
  | succ k ih =>
    intro h
    rcases Nat.lt_or_ge k n with q | q
    · have : n = k + 1 := by omega
      subst this; exact Nat.le_refl _
    · have := ih q
      show _ ≤ dV f s k * 10 + _
      omega
theorem digit_of {x : Int32} (h : isD x) : ∃ d : Nat, d < 10 ∧ x - 48 = nI d ∧ (x - 48).toInt.toNat = d := by
  obtain ⟨d, hd, rfl⟩ := chr_cases (x := x) ⟨Int32.le_trans (by decide) h.1, Int32.le_trans h.2 (by decide)⟩
  have h1 := (nI_leI (a := 48) (b := d) (by omega) (by omega)).mp h.1
  have h2 := (nI_leI (a := d) (b := 57) (by omega) (by omega)).mp h.2
  have e : nI d - 48 = nI (d - 48) := pk_subn (k := 48) h1
  refine ⟨d - 48, by omega, e, ?_⟩
  rw [e, nI_toInt (by omega)]
  omega
theorem nI_mul (a b : Nat) : nI a * nI b = nI (a * b) := by
  show Int32.ofNat a * Int32.ofNat b = Int32.ofNat (a * b)
  rw [Int32.ofNat_mul]
theorem digit_step {f : Nat → Int32} {s i z : Nat} (hs : s ≤ i) (hz : z = dV f s (i - s)) (hd : isD (f i)) (hz2 : z < 1000000) : ∃ w, nI z * 10 + (f i - 48) = nI w ∧ w = dV f s (i + 1 - s) ∧ w < 10000000 := by
  obtain ⟨d, h1, h2, h3⟩ := digit_of hd
  refine ⟨z * 10 + d, ?_, ?_, by omega⟩
  · rw [h2, show (10 : Int32) = nI 10 from rfl, nI_mul, nI_add]
  · rw [show i + 1 - s = (i - s) + 1 by omega]
    show _ = dV f s (i - s) * 10 + (f (s + (i - s)) - 48).toInt.toNat
    rw [show s + (i - s) = i by omega, h3, ← hz]
theorem numr_yes {f : Nat → Int32} {k s e lo hi w : Nat} {r : Int32} (hw : r = nI w) (hw8 : w < 100000000) (hwv : w = dV f s (e - s) ∨ (1000000 ≤ w ∧ 1000000 ≤ dV f s (e - s))) (hlh : lo < 100000 ∧ hi < 100000) (hk : k = 2) (hnz : ¬ (f s = 48 ∧ 1 < e - s)) (hin : nI lo ≤ r ∧ r ≤ nI hi) : (∃ v, Num f k s e v ∧ lo ≤ v ∧ v ≤ hi) ∧ ∃ v, (Num f k s e v ∧ lo ≤ v ∧ v ≤ hi) ∧ r = nI v := by
  subst hw
  have h1 := (nI_leI (by omega) (by omega)).mp hin.1
  have h2 := (nI_leI (by omega) (by omega)).mp hin.2
  rcases hwv with h | h
  · exact ⟨⟨w, ⟨hk, hnz, h⟩, h1, h2⟩, w, ⟨⟨hk, hnz, h⟩, h1, h2⟩, rfl⟩
  · omega
theorem numr_no {f : Nat → Int32} {k s e lo hi w : Nat} {r : Int32} (hw : r = nI w) (hw8 : w < 100000000) (hwv : w = dV f s (e - s) ∨ (1000000 ≤ w ∧ 1000000 ≤ dV f s (e - s))) (hlh : lo < 100000 ∧ hi < 100000) (hin : ¬ (nI lo ≤ r ∧ r ≤ nI hi)) : ¬ ∃ v, Num f k s e v ∧ lo ≤ v ∧ v ≤ hi := by
  subst hw
  rintro ⟨v, hv, h1, h2⟩
  rcases hwv with h | h
  · have e0 : v = w := hv.2.2.trans h.symm
    subst e0
    exact hin ⟨nI_le h1 (by omega), nI_le h2 (by omega)⟩
  · have := hv.2.2
    omega
section MYT
variable {p : Program} {l : Launch} {e : Env} {R : Room} {s : State} {m : MethodId} {args : Array Value} {below : List Frame} {meth : Method} {c : Code} {H : Heap} {locs : List Loc} {cells slots : Nat} {Q : State → Prop}
variable {cc : ByteArray} {pc : Nat} {ls : Array Slot} {rest : List Value} {D : va_G} {cl : List vw_C} {A : Nat → Prop} {a : Nat} {tys : List (ClassId × FieldType)} {ws : va_W} {H0 : Heap}
theorem cald_n (hexec : p.tables.exec = Jvm.exec) (hb : c.code = cc) (hK : va_K D cl tys s) (hP : va_P D cl ws H) (q0 t0 : Nat) {cA : ClassId} {n : Nat} {f : Nat → Int32} (ha : ws[q0]? = some (a, .inl (cA, n, .inl f))) (ht : tys[t0]? = some (cA, .char)) {i : Int32} (k : Nat) (hi : i = nI k) (hk : k < n) (hn : n < 2 ^ 31) (hdg : decode cc pc = .ok (.caload, 1))
    (kk : W p l e R s m args below meth c H locs cells slots Q (F0 m (pc + 1) ls (.int (f k) :: rest))) : W p l e R s m args below meth c H locs cells slots Q (F0 m pc ls (.int i :: .ref a :: rest)) := by
  subst hi
  refine va_cald hexec hb hK hP q0 t0 ha ht (vp_in_nI hk hn) hdg ?_
  rw [nI_clamp (by omega)]
  exact kk
theorem bald_n (hexec : p.tables.exec = Jvm.exec) (hb : c.code = cc) (hK : va_K D cl tys s) (hP : va_P D cl ws H) (q0 t0 : Nat) {cA : ClassId} {n : Nat} {f : Nat → Int32} (ha : ws[q0]? = some (a, .inl (cA, n, .inl f))) (ht : tys[t0]? = some (cA, .byte)) {i : Int32} (k : Nat) (hi : i = nI k) (hk : k < n) (hn : n < 2 ^ 31) (hdg : decode cc pc = .ok (.baload, 1))
    (kk : W p l e R s m args below meth c H locs cells slots Q (F0 m (pc + 1) ls (.int (f k) :: rest))) : W p l e R s m args below meth c H locs cells slots Q (F0 m pc ls (.int i :: .ref a :: rest)) := by
  subst hi
  refine va_bald hexec hb hK hP q0 t0 ha ht (vp_in_nI hk hn) hdg ?_
  rw [nI_clamp (by omega)]
  exact kk
theorem cast_n (hexec : p.tables.exec = Jvm.exec) (hb : c.code = cc) (hK : va_K D cl tys s) (hP : va_P D cl ws H) (hD : va_D A ws) (hS : va_S A H0 H locs) (q0 t0 : Nat) {cA : ClassId} {n : Nat} {f : Nat → Int32} (ha : ws[q0]? = some (a, .inl (cA, n, .inl f))) (ht : tys[t0]? = some (cA, .char)) {i : Int32} {x : Int32} (k : Nat) (hi : i = nI k) (hk : k < n) (hn : n < 2 ^ 31) (hx : 0 ≤ x ∧ x ≤ 255) (hdg : decode cc pc = .ok (.castore, 1))
    (kk : ∀ (H1 : Heap) (locs1 : List Loc), va_P D cl (ws.set q0 (a, .inl (cA, n, .inl (upd f k x)))) H1 → va_D A (ws.set q0 (a, .inl (cA, n, .inl (upd f k x)))) → va_S A H0 H1 locs1 → W p l e R s m args below meth c H1 locs1 cells slots Q (F0 m (pc + 1) ls rest)) : W p l e R s m args below meth c H locs cells slots Q (F0 m pc ls (.int x :: .int i :: .ref a :: rest)) := by
  subst hi
  refine va_cast hexec hb hK hP hD hS q0 t0 ha ht (vp_in_nI hk hn) hdg ?_
  rw [nI_clamp (by omega), chr_vnar hx]
  exact kk
theorem bast_n (hexec : p.tables.exec = Jvm.exec) (hb : c.code = cc) (hK : va_K D cl tys s) (hP : va_P D cl ws H) (hD : va_D A ws) (hS : va_S A H0 H locs) (q0 t0 : Nat) {cA : ClassId} {n : Nat} {f : Nat → Int32} (ha : ws[q0]? = some (a, .inl (cA, n, .inl f))) (ht : tys[t0]? = some (cA, .byte)) {i : Int32} {x : Int32} (k : Nat) (hi : i = nI k) (hk : k < n) (hn : n < 2 ^ 31) {v : Int32} (hx : x.toInt8.toInt32 = v) (hdg : decode cc pc = .ok (.bastore, 1))
    (kk : ∀ (H1 : Heap) (locs1 : List Loc), va_P D cl (ws.set q0 (a, .inl (cA, n, .inl (upd f k v)))) H1 → va_D A (ws.set q0 (a, .inl (cA, n, .inl (upd f k v)))) → va_S A H0 H1 locs1 → W p l e R s m args below meth c H1 locs1 cells slots Q (F0 m (pc + 1) ls rest)) : W p l e R s m args below meth c H locs cells slots Q (F0 m pc ls (.int x :: .int i :: .ref a :: rest)) := by
  subst hi hx
  refine va_bast hexec hb hK hP hD hS q0 t0 ha ht (vp_in_nI hk hn) hdg ?_
  rw [nI_clamp (by omega), vp_nar_byte]
  exact kk
end MYT
