/-! ===== what the calls answer (laid by wip/whole/gen) ===== -/
def aFirst (g : Nat → Nat → Int32) (n q : Nat) (sz r : Int32) : Prop := Wlk (-9) (Imp (fun j z => (g 7 j = 1 ∧ sz ≤ g 6 j ∧ g 8 j = 0 ∧ ¬ (∃ i, i < q ∧ HeldB (g 14) (g 18) (g 15) (g 16) (g 0 0) (g 0 0 + 1) (g 1 1) (nI j) i)) ∧ Btr (g 4) (g 5) (g 6) (g 1 0) n j z) nI) n r
def aFor (g : Nat → Nat → Int32) (n q : Nat) (sz b e r : Int32) : Prop := Wlk (-9) (Imp (fun j z => (g 7 j = 1 ∧ sz ≤ g 6 j ∧ Rsv q (g 14) (g 18) (g 15) (g 16) (g 8) (g 0 0) (g 1 1) (b) (e) j) ∧ Btr (g 4) (g 5) (g 6) (g 1 0) n j z) nI) n r
def aFreeBays (g : Nat → Nat → Int32) (n q : Nat) (lv sz r : Int32) : Prop := ∃ z, Cnt (fun w => (g 4 w = lv ∧ (sz < 0 ∨ g 6 w = sz)) ∧ g 7 w = 1 ∧ 0 ≤ g 6 w ∧ g 8 w = 0 ∧ ¬ (∃ i, i < q ∧ HeldB (g 14) (g 18) (g 15) (g 16) (g 0 0) (g 0 0 + 1) (g 1 1) (nI w) i)) n z ∧ r = nI z
def aEarl (g : Nat → Nat → Int32) (n q : Nat) (sz mi r : Int32) : Prop := Wlk (-9) (ErS (fun j => g 7 j = 1 ∧ sz ≤ g 6 j) (fun j b => EIn q (g 14) (g 18) (g 15) (g 16) (g 8) (g 0 0) (g 1 1) mi j b) (g 0 0)) n r
def aUs (g : Nat → Nat → Int32) (n q : Nat) (x sz r : Int32) : Prop := ∃ z, Fst (fun w => g 13 w = x ∧ g 18 w = 0 ∧ Hld (g 18) (g 15) (g 16) (g 0 0) (g 0 0 + 1) (g 1 1) w) q z ∧ ((z = -9 ∧ r = -9) ∨ ∃ w, w < q ∧ z = nI w ∧ ((∃ i, i < n ∧ g 14 w = nI i ∧ g 7 i = 1 ∧ sz ≤ g 6 i ∧ g 8 i = 0) ∧ r = z ∨ ¬ (∃ i, i < n ∧ g 14 w = nI i ∧ g 7 i = 1 ∧ sz ≤ g 6 i ∧ g 8 i = 0) ∧ r = -9))
def aFeeAt (g : Nat → Nat → Int32) (q tn tu k : Nat) (t r : Int32) : Prop := FeA q (g 11) (g 10) (g 16) (fun z => nF (g 1) (g 20) (g 21) (g 22) tn (z)) (fun z => tS (g 24) (g 25) (g 26) tu (z) tu) k (t) r
def aLost (g : Nat → Nat → Int32) (tn k : Nat) : Int32 := g 1 4 + nF (g 1) (g 20) (g 21) (g 22) tn (g 0 0 - (if g 10 k < g 0 0 - (g 0 0 - g 0 0 / 1440 * 1440) then g 10 k else g 0 0 - (g 0 0 - g 0 0 / 1440 * 1440)))
def aMin (g : Nat → Nat → Int32) (q tn tu k : Nat) (r : Int32) : Prop := ∃ f0, FeA q (g 11) (g 10) (g 16) (fun z => nF (g 1) (g 20) (g 21) (g 22) tn (z)) (fun z => tS (g 24) (g 25) (g 26) tu (z) tu) k (g 0 0) f0 ∧ ∃ z, z ≤ 1440 ∧ r = nI z ∧ (∀ j, 1 ≤ j → j ≤ z → ∃ f, FeA q (g 11) (g 10) (g 16) (fun z => nF (g 1) (g 20) (g 21) (g 22) tn (z)) (fun z => tS (g 24) (g 25) (g 26) tu (z) tu) k (g 0 0 + nI j) f ∧ f ≤ f0) ∧ (z < 1440 → ∃ f, FeA q (g 11) (g 10) (g 16) (fun z => nF (g 1) (g 20) (g 21) (g 22) tn (z)) (fun z => tS (g 24) (g 25) (g 26) tu (z) tu) k (g 0 0 + nI (z + 1)) f ∧ f0 < f)
def aHolder (g : Nat → Nat → Int32) (q : Nat) (x r : Int32) : Prop := Fst (fun w => HeldB (g 14) (g 18) (g 15) (g 16) (g 0 0) (g 0 0 + 1) (g 1 1) (x) w) q r
def aUntil (g : Nat → Nat → Int32) (q : Nat) (x r : Int32) : Prop := Wlk (-9) (Imp (fun j z => g 14 j = x ∧ Alv (g 18) j ∧ 0 < g 15 j - g 1 1 - g 0 0 ∧ (z = -9 ∨ g 15 j - g 1 1 - g 0 0 < z)) (fun j => g 15 j - g 1 1 - g 0 0)) q r
def nFg (g : Nat → Nat → Int32) (tn : Nat) (m : Int32) : Int32 := nF (g 1) (g 20) (g 21) (g 22) tn (m)
def oVg (g : Nat → Nat → Int32) (tu : Nat) (m : Int32) : Int32 := tS (g 24) (g 25) (g 26) tu (m) tu
/-- one of two, by a condition -/
def Ch (P A B : Prop) : Prop := (P ∧ A) ∨ (¬ P ∧ B)
/-- the first of n with P has R; there is none, and E -/
def Fnd (P : Nat → Prop) (n : Nat) (R : Nat → Prop) (E : Prop) : Prop := (∃ k, k < n ∧ P k ∧ (∀ j, j < k → ¬ P j) ∧ R k) ∨ ((∀ j, j < n → ¬ P j) ∧ E)
/-- the place x among n has R; it is none, and E -/
def Plc (n : Nat) (x : Int32) (R : Nat → Prop) (E : Prop) : Prop := (∃ k, k < n ∧ x = nI k ∧ R k) ∨ ((¬ ∃ k, k < n ∧ x = nI k) ∧ E)
abbrev Wi (x lo hi : Int32) : Prop := lo ≤ x ∧ x ≤ hi
abbrev Out (x : Int32) (lo hi : Int) : Prop := x.toInt < lo ∨ hi < x.toInt
def aNearest (g : Nat → Nat → Int32) (n q : Nat) (sz r : Int32) : Prop := Ch (Wi sz 0 2) (aFirst g n q sz r) (r = -1)
def aFree (g : Nat → Nat → Int32) (n q : Nat) (lv sz r : Int32) : Prop := Ch (Wi lv 0 4 ∧ Wi sz (-1) 2) (aFreeBays g n q lv sz r) (r = -1)
def aFee (g : Nat → Nat → Int32) (tn tu : Nat) (t m r : Int32) : Prop := Ch ((t = 0 ∨ t = 1) ∧ Wi m 0 20000) (Ch (t = 0) (r = nFg g tn m) (r = oVg g tu m)) (r = -1)
def aMinutes (g : Nat → Nat → Int32) (n q tn tu : Nat) (pl r : Int32) : Prop := Ch (Wi pl 1 999) (Fnd (fun w => g 8 w = pl) n (fun k => aMin g q tn tu k r) (r = -9)) (r = -1)
def aFreeFor (g : Nat → Nat → Int32) (n q : Nat) (x r : Int32) : Prop := Ch (∃ k, k < n ∧ x = nI k) (Ch (∃ w, w < q ∧ HeldB (g 14) (g 18) (g 15) (g 16) (g 0 0) (g 0 0 + 1) (g 1 1) (x) w) (r = 0) (aUntil g q x r)) (r = -1)
def aEarliest (g : Nat → Nat → Int32) (n q : Nat) (sz mi r : Int32) : Prop := Ch (Wi sz 0 2 ∧ Wi mi 1 1440) (Ch (q = 16) (r = -9) (aEarl g n q sz mi r)) (r = -1)
def aBay (g : Nat → Nat → Int32) (n q : Nat) (x wh r : Int32) : Prop := Plc n x (fun k => (wh = 0 ∧ r = g 4 k) ∨ (wh = 1 ∧ r = g 5 k) ∨ (wh = 2 ∧ r = g 6 k) ∨ (wh = 3 ∧ r = Wy (g 4) (g 5) (g 1 0) k) ∨ (wh = 4 ∧ r = g 7 k) ∨ (wh = 5 ∧ Ch (g 8 k = 0) (r = -9) (r = g 8 k)) ∨ (wh = 6 ∧ aHolder g q (nI k) r) ∨ (Out wh 0 6 ∧ r = -1)) (r = -1)
def aRes (g : Nat → Nat → Int32) (q : Nat) (x wh r : Int32) : Prop := Plc q x (fun k => (wh = 0 ∧ r = g 13 k) ∨ (wh = 1 ∧ r = g 14 k) ∨ (wh = 2 ∧ r = g 15 k) ∨ (wh = 3 ∧ r = g 16 k) ∨ (wh = 4 ∧ r = g 17 k) ∨ (wh = 5 ∧ r = g 18 k) ∨ (Out wh 0 5 ∧ r = -1)) (r = -1)
def aCar (g : Nat → Nat → Int32) (n q tn tu : Nat) (pl wh r : Int32) : Prop := Ch (Wi pl 1 999 ∧ Wi wh 0 5) (Fnd (fun w => g 8 w = pl) n (fun k => (wh = 0 ∧ r = g 9 k) ∨ (wh = 1 ∧ r = g 10 k) ∨ (wh = 2 ∧ r = nI k) ∨ (wh = 3 ∧ r = g 11 k) ∨ (wh = 4 ∧ aFeeAt g q tn tu k (g 0 0) r) ∨ (Out wh 0 4 ∧ r = aLost g tn k)) (r = -9)) (r = -1)
def aStep1 (g : Nat → Nat → Int32) (n : Nat) (ix wh r : Int32) : Prop := Plc n ix (fun k => (wh = 0 ∧ r = g 1 k) ∨ (wh = 1 ∧ r = g 2 k) ∨ ((¬ wh = 0 ∧ ¬ wh = 1) ∧ r = g 3 k)) (r = -9)
def aStep (g : Nat → Nat → Int32) (tn tu : Nat) (t ix wh r : Int32) : Prop := Ch ((t = 0 ∨ t = 1) ∧ ¬ ix < 0 ∧ Wi wh 0 2) (Ch (t = 0) (aStep1 (fun k => g (19 + k)) tn ix wh r) (aStep1 (fun k => g (23 + k)) tu ix wh r)) (r = -1)
def aAcc (g : Nat → Nat → Int32) (x r : Int32) : Prop := Ch (Wi x (-1) 3) (Ch (x < 0) (r = 0 + g 2 0 + g 2 1 + g 2 2 + g 2 3) (∃ k, k < 4 ∧ x = nI k ∧ r = g 2 k)) (r = -1)
def aCount (g : Nat → Nat → Int32) (n q : Nat) (tl : Int32) (np : Nat) (x r : Int32) : Prop := (x = 0 ∧ r = nI n) ∨ (x = 1 ∧ r = nI q) ∨ (x = 2 ∧ r = g 0 1) ∨ (x = 3 ∧ ∃ z, Cnt (fun w => ¬ g 8 w = 0) n z ∧ r = nI z) ∨ (x = 4 ∧ ∃ z, Cnt (fun w => ¬ g 8 w = 0) n z ∧ r = g 0 1 - nI z) ∨ (x = 5 ∧ r = g 0 0) ∨ (∃ j, j < 5 ∧ x = nI (6 + j) ∧ r = g 1 j) ∨ (x = 11 ∧ r = tl) ∨ (x = 12 ∧ r = nI np) ∨ (Out x 0 12 ∧ r = -1)
