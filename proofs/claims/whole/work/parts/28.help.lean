/-! ===== the saved states: six rooms at b 0 .. b 5, holding hs 0 .. hs 5 ===== -/
abbrev qE (cS : ClassId) (n : Nat) (f : Nat → Option Nat) : va_E := .inl (cS, n, .inr (.inr (.inr (.inr f))))
def wH6 (cI : ClassId) (b : Nat → Nat → Nat) (hs : Nat → Nat → Nat → Int32) : va_W := (List.range 6).flatMap (fun i => wS cI (b i) (hs i))
/-- all but room k -/
def wH5 (cI : ClassId) (b : Nat → Nat → Nat) (hs : Nat → Nat → Nat → Int32) (k : Nat) : va_W := ((List.range 6).erase k).flatMap (fun i => wS cI (b i) (hs i))
/-- places of the rooms, the oldest one at the end -/
def rt6 (i : Nat) : Nat := if i = 5 then 0 else i + 1
def upH (hs : Nat → Nat → Nat → Int32) (k : Nat) (g : Nat → Nat → Int32) : Nat → Nat → Nat → Int32 := fun i => if i = k then g else hs i
theorem wH6_split {cI : ClassId} {b : Nat → Nat → Nat} {hs : Nat → Nat → Nat → Int32} {k : Nat} (hk : k < 6) : (wH6 cI b hs).Perm (wS cI (b k) (hs k) ++ wH5 cI b hs k) := by
  have h : (List.range 6).Perm (k :: (List.range 6).erase k) := List.perm_cons_erase (List.mem_range.mpr hk)
  exact (List.Perm.flatMap_right (fun i => wS cI (b i) (hs i)) h).trans (List.Perm.of_eq List.flatMap_cons)
theorem wH5_up {cI : ClassId} {b : Nat → Nat → Nat} {hs : Nat → Nat → Nat → Int32} {k : Nat} {g : Nat → Nat → Int32} : wH5 cI b (upH hs k g) k = wH5 cI b hs k := by
  unfold wH5
  have h : ∀ i ∈ (List.range 6).erase k, wS cI (b i) (upH hs k g i) = wS cI (b i) (hs i) := by
    intro i hi
    have : i ≠ k := fun e => by
      subst e
      exact absurd hi (List.Nodup.not_mem_erase List.nodup_range)
    rw [show upH hs k g i = hs i from if_neg this]
  rw [List.flatMap_def, List.flatMap_def, List.map_congr_left h]
theorem wH6_up {cI : ClassId} {b : Nat → Nat → Nat} {hs : Nat → Nat → Nat → Int32} {k : Nat} {g : Nat → Nat → Int32} (hk : k < 6) : (wS cI (b k) g ++ wH5 cI b hs k).Perm (wH6 cI b (upH hs k g)) := by
  have h := (wH6_split (cI := cI) (b := b) (hs := upH hs k g) hk).symm
  rw [wH5_up, show upH hs k g k = g from if_pos rfl] at h
  exact h
theorem wH6_rt {cI : ClassId} {b : Nat → Nat → Nat} {hs : Nat → Nat → Nat → Int32} : (wH6 cI b hs).Perm (wH6 cI (fun i => b (rt6 i)) (fun i => hs (rt6 i))) := by
  have h : (List.range 6).Perm ((List.range 6).map rt6) := by decide +kernel
  have h2 := List.Perm.flatMap_right (fun i => wS cI (b i) (hs i)) h
  rw [List.flatMap_map] at h2
  exact h2
/-- what is saved behind a call that saves g -/
def Sav (k : Nat) (hs : Nat → Nat → Nat → Int32) (g : Nat → Nat → Int32) (k2 : Nat) (hs2 : Nat → Nat → Nat → Int32) : Prop := (k < 6 ∧ k2 = k + 1 ∧ hs2 = upH hs k g) ∨ (k = 6 ∧ k2 = 6 ∧ hs2 = upH (fun i => hs (rt6 i)) 5 g)
