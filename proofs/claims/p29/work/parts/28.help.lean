/-! ===== the saved states: six rooms at b 0 .. b 5, holding hs 0 .. hs 5 ===== -/
abbrev qE (cS : ClassId) (n : Nat) (f : Nat → Option Nat) : va_E := .inl (cS, n, .inr (.inr (.inr (.inr f))))
def wH6 (cI : ClassId) (b : Nat → Nat → Nat) (hs : Nat → Nat → Nat → Int32) : va_W := (List.range 6).flatMap (fun i => wS cI (b i) (hs i))
/-- all but room k -/
def wH5 (cI : ClassId) (b : Nat → Nat → Nat) (hs : Nat → Nat → Nat → Int32) (k : Nat) : va_W := ((List.range 6).erase k).flatMap (fun i => wS cI (b i) (hs i))
/-- places of the rooms, the oldest one at the end -/
def rt6 (i : Nat) : Nat := if i = 5 then 0 else i + 1
def upH (hs : Nat → Nat → Nat → Int32) (k : Nat) (g : Nat → Nat → Int32) : Nat → Nat → Nat → Int32 := fun i => if i = k then g else hs i
theorem wH6_split {cI : ClassId} {b : Nat → Nat → Nat} {hs : Nat → Nat → Nat → Int32} {k : Nat} (hk : k < 6) : (wH6 cI b hs).Perm (wS cI (b k) (hs k) ++ wH5 cI b hs k) := by
  have h : (List.range 6).Perm (k :: (List.range 6).erase k) := List.perm_cons_erase (List.mem_range.mpr hk)
  exact (List.Perm.flatMap_right (fun i => wS cI (b i) (hs i)) h).trans (List.Perm.of_eq List.flatMap_cons)
theorem wH5_up {cI : ClassId} {b : Nat → Nat → Nat} {hs : Nat → Nat → Nat → Int32} {k : Nat} {g : Nat → Nat → Int32} : wH5 cI b (upH hs k g) k = wH5 cI b hs k := by
  unfold wH5
  have h : ∀ i ∈ (List.range 6).erase k, wS cI (b i) (upH hs k g i) = wS cI (b i) (hs i) := by
    intro i hi
    have : i ≠ k := fun e => by
      subst e
      exact absurd hi (List.Nodup.not_mem_erase List.nodup_range)
    rw [show upH hs k g i = hs i from if_neg this]
  rw [List.flatMap_def, List.flatMap_def, List.map_congr_left h]
theorem wH6_up {cI : ClassId} {b : Nat → Nat → Nat} {hs : Nat → Nat → Nat → Int32} {k : Nat} {g : Nat → Nat → Int32} (hk : k < 6) : (wS cI (b k) g ++ wH5 cI b hs k).Perm (wH6 cI b (upH hs k g)) := by
  have h := (wH6_split (cI := cI) (b := b) (hs := upH hs k g) hk).symm
  rw [wH5_up, show upH hs k g k = g from if_pos rfl] at h
  exact h
theorem wH6_rt {cI : ClassId} {b : Nat → Nat → Nat} {hs : Nat → Nat → Nat → Int32} : (wH6 cI b hs).Perm (wH6 cI (fun i => b (rt6 i)) (fun i => hs (rt6 i))) := by
  have h : (List.range 6).Perm ((List.range 6).map rt6) := by decide +kernel
  have h2 := List.Perm.flatMap_right (fun i => wS cI (b i) (hs i)) h
  rw [List.flatMap_map] at h2
  exact h2
/-- what is saved behind a call that saves g -/
def Sav (k : Nat) (hs : Nat → Nat → Nat → Int32) (g : Nat → Nat → Int32) (k2 : Nat) (hs2 : Nat → Nat → Nat → Int32) : Prop := (k < 6 ∧ k2 = k + 1 ∧ hs2 = upH hs k g) ∨ (k = 6 ∧ k2 = 6 ∧ hs2 = upH (fun i => hs (rt6 i)) 5 g)
theorem sav_perm {A N H6 Sk H5 : va_W} (h : H6.Perm (Sk ++ H5)) : ((A ++ N) ++ H6).Perm ((Sk ++ N) ++ (A ++ H5)) := by
  refine (h.append_left (A ++ N)).trans ?_
  rw [← List.append_assoc, ← List.append_assoc]
  refine List.Perm.append_right H5 ?_
  rw [List.append_assoc, List.append_assoc]
  exact List.perm_append_comm.trans (by
    rw [List.append_assoc]
    exact (List.perm_append_comm (l₁ := N) (l₂ := Sk ++ A)).trans (by rw [List.append_assoc]; exact List.Perm.append_left Sk List.perm_append_comm))
theorem res_perm {A N H6 Sk H5 : va_W} (h : H6.Perm (Sk ++ H5)) : ((A ++ N) ++ H6).Perm ((N ++ Sk) ++ (A ++ H5)) := (sav_perm h).trans (List.Perm.append_right _ List.perm_append_comm)
section MYG
variable {p : Program} {l : Launch} {e : Env} {R : Room} {s : State} {m : MethodId} {args : Array Value} {below : List Frame} {meth : Method} {c : Code} {H : Heap} {locs : List Loc} {cells slots : Nat} {Q : State → Prop}
variable {cc : ByteArray} {pc : Nat} {ls : Array Slot} {rest st0 : List Value} {D : va_G} {A : Nat → Prop} {tys : List (ClassId × FieldType)} {X pl Wd : va_W}
-- ends of methods whose world has a tail
theorem wr_vretT {S : Type} {post : S → Prop} {f pf : S → va_W} (u : S) (hexec : p.tables.exec = Jvm.exec) (hb : c.code = cc) (hr : meth.sig.returnType = none) (hlocks : meth.locks = false) (hS : va_S A s.heap H locs) (hP : va_P D vwCl (X ++ pl) H) (hD : va_D A (X ++ pl)) (is : List Nat) (hi : is.map (fun i => X[i]?) = (f u).map some) (hn : va_nd is = true) (hpl : pl.Perm (pf u)) (hdg : decode cc pc = .ok (.return_, 1)) (hq : post u) :
    W p l e R s m args below meth c H locs cells slots (MQ below (va_Qv post (wrB D A (fun u => f u ++ pf u)) A) args s cells slots A) (F0 m pc ls []) :=
  W.vret hexec hb hr (fun t ht _ => ⟨⟨u, rfl, hq, by rw [ht]; exact (hP.part is hi).perm (hpl.append_left _), (hD.part is hn hi).perm (hpl.append_left _)⟩, hS.F ht⟩) hS.2.2 hdg hlocks
theorem wr_iretT {S : Type} {post : Int32 → S → Prop} {f pf : S → va_W} {v : Int32} (u : S) (hexec : p.tables.exec = Jvm.exec) (hb : c.code = cc) (hr : meth.sig.returnType = some .int) (hlocks : meth.locks = false) (hS : va_S A s.heap H locs) (hP : va_P D vwCl (X ++ pl) H) (hD : va_D A (X ++ pl)) (is : List Nat) (hi : is.map (fun i => X[i]?) = (f u).map some) (hn : va_nd is = true) (hpl : pl.Perm (pf u)) (hdg : decode cc pc = .ok (.ireturn, 1)) (hq : post v u) :
    W p l e R s m args below meth c H locs cells slots (MQ below (va_Qi post (wrB D A (fun u => f u ++ pf u)) A) args s cells slots A) (F0 m pc ls [.int v]) :=
  W.iret (v := v) hexec hb hr (fun t ht _ => ⟨⟨v, u, rfl, hq, by rw [ht]; exact (hP.part is hi).perm (hpl.append_left _), (hD.part is hn hi).perm (hpl.append_left _)⟩, hS.F ht⟩) hS.2.2 hdg hlocks
/-- a new row of references to states -/
theorem newa_q (hexec : p.tables.exec = Jvm.exec) (hb : c.code = cc) {own : String} {index : Nat} (hown : s.vm.findClass own = some m.cls) (hcl : (Cond.classLink own index "ParkingGarage$State").before args s = true) {cI cC cS : ClassId} (hK : KN D [(cI, .int), (cC, .char), (cI, .int), (cS, .object "ParkingGarage$State")] s) (hP : va_P D vwCl Wd H) (hD : va_D A Wd) (hS : va_S A s.heap H locs) (hA : ∀ q, s.heap.size ≤ q → A q)
    {k : Int32} (N : Nat) (hk : ¬ k < 0) (hN : k.toNatClampNeg = N) (hbytes : N * 4 ≤ 536870912) (hcells : cells + 1 ≤ R.cells) (hslots : slots + N ≤ R.slots) (hdg : decode cc pc = .ok (.anewarray index, 3))
    (kk : ∀ (q : Nat) (H1 : Heap), va_P D vwCl (Wd ++ [(q, qE cS N (fun _ => none))]) H1 → va_D A (Wd ++ [(q, qE cS N (fun _ => none))]) → va_S A s.heap H1 locs →
      W p l e R s m args below meth c H1 locs (cells + 1) (slots + N) Q (F0 m (pc + 3) ls (.ref q :: rest))) : W p l e R s m args below meth c H locs cells slots Q (F0 m pc ls (.int k :: rest)) := by
  refine va_newq hexec hb hown hcl hK.2.2 hK.1 hP hD hS hA hk hN hbytes hcells hslots hdg (fun q cA H1 hK1 hP1 hD1 hS1 => ?_)
  have e1 := (hK.1.2 3 (cS, .object "ParkingGarage$State") rfl).1
  have e2 := (hK1.2 4 (cA, .object "ParkingGarage$State") rfl).1
  have r1 : va_RA s cS (.object "ParkingGarage$State") := (hK.1.2 3 (cS, .object "ParkingGarage$State") rfl).2
  have r2 : va_RA s cA (.object "ParkingGarage$State") := (hK1.2 4 (cA, .object "ParkingGarage$State") rfl).2
  obtain ⟨k1, c1, -, -, -, f1⟩ := r1
  obtain ⟨k2, c2, -, -, -, f2⟩ := r2
  have e3 : cA = cS := Option.some.inj (f2.symm.trans f1)
  subst e3
  exact kk q H1 hP1 hD1 hS1
end MYG
