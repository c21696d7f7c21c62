/-! ===== THE LAW, from its entry ===== -/
section MYCQ
variable {p : Program} {l : Launch} {e : Env} {R : Room} {s : State} {m : MethodId} {args : Array Value} {below : List Frame} {meth : Method} {c : Code} {H : Heap} {locs : List Loc} {cells slots : Nat} {Q : State → Prop}
variable {cc : ByteArray} {pc : Nat} {ls : Array Slot} {rest st0 : List Value} {D : va_G} {A : Nat → Prop} {tys : List (ClassId × FieldType)}
variable {y : MethodName} {bytes : ByteArray} {maxL nL mc ms n index : Nat} {ret : Option FieldType} {wc : List Cond} {rm : Room} {Ts : List Cond} {own C : String} {b : Addr} {As : List Value} {X pl : va_W}
/-- a constructor's call, on a new object behind all others -/
theorem ci_end {S : Type} {post : S → Prop} {f : S → va_W} (F : CallFix p m c cc nL s args Ts own) (hM : Met l y wc rm (wrPc D tys (.ref b :: As) X H.size) (va_Qv post (wrB D (va_A X H.size) f) (va_A X H.size)) mc ms (va_A X H.size)) (cw : CallB R s args own index y bytes maxL none wc rm mc ms n ∧ y.name = "<init>" ∧ (Cond.instanceMethod y).before args s = true)
    (hK : KN D tys s) (hP : va_P D vwCl (pl ++ X) H) (hD : va_D A (pl ++ X)) (hS : va_S A s.heap H locs) (hA : ∀ q : Nat, s.heap.size ≤ q → A q) (hst : st0 = As.reverse ++ .ref b :: rest) (hn : As.length = n) (hsize : ls.size = nL) (hW : (rest.map fun v => v.category).sum ≤ 8) (hdg : decode cc pc = .ok (.invokespecial index, 3)) (hf : cells + mc ≤ R.cells ∧ slots + ms ≤ R.slots)
    (kk : ∀ (u : S) (H1 : Heap) (locs1 : List Loc), post u → va_P D vwCl (f u ++ pl) H1 → va_D A (f u ++ pl) → va_S A s.heap H1 locs1 → W p l e R s m args below meth c H1 locs1 (cells + mc) (slots + ms) Q (F0 m (pc + 3) ls rest)) : W p l e R s m args below meth c H locs cells slots Q (F0 m pc ls st0) := by
  have hP := hP.perm List.perm_append_comm
  have hD := hD.perm List.perm_append_comm
  have hi := range_at X
  have hni := nd_all _ (List.nodup_range (n := X.length))
  have hpre := wr_pre (b := .ref b :: As) hK hP.left hD.left rfl (List.range X.length) hi hni
  have hFc := va_free (wc := X) hD.left hS hA (List.range X.length) hi
  refine va_callv (va_runI F hM cw ⟨wrPc_blind, hpre⟩ rfl hn hsize hst (lv_room hW) hdg hf) hS (fun q _ h => hFc q h) hFc (fun u t H1 locs1 ht hvm hp hB hz1 hk1 hS1 => ?_)
  obtain ⟨hP1, hD1⟩ := hB
  rw [ht] at hP1
  obtain ⟨hP2, hD2⟩ := va_joinQ (wr := []) hP hD (List.range X.length) [] hi rfl rfl (fun i h => absurd h List.not_mem_nil) hk1 hFc hP1 hD1
  exact kk u H1 locs1 hp hP2 hD2 hS1
end MYCQ
theorem ex_new : JJ gS0 0 := by
  have hA : ∀ {P : Nat → Prop} (j : Nat), j < 0 → P j := fun j h => absurd h (Nat.not_lt_zero j)
  have h : Inv (w2 z2 1 nums0) 0 0 0 0 0 0 := ⟨rfl, by decide, rfl, by decide, rfl, by decide, fun i j _ hj => absurd hj (Nat.not_lt_zero j), all_0, all_0, rfl, by decide, fun i j _ hj => absurd hj (Nat.not_lt_zero j), all_0, all_0, all_0, all_0, all_0, all_0, all_0, rfl, by decide, ⟨15, rfl, by decide⟩, all_0, ⟨0, rfl, rfl⟩⟩
  have t0 := tk_new (un := 60) (pr := 200) (by decide)
  have t1 := tk_new (un := 15) (pr := 300) (by decide)
  have b0 : TB (tI 60 200) 1 := ⟨fun j hj => by
    have : j = 0 := by omega
    subst this
    show (60 : Int32) ≤ 240
    decide, fun j hj => by
    have : j = 0 := by omega
    subst this
    show (0 : Int32) ≤ 200 ∧ (200 : Int32) ≤ 5000
    decide⟩
  have b1 : TB (tI 15 300) 1 := ⟨fun j hj => by
    have : j = 0 := by omega
    subst this
    show (15 : Int32) ≤ 240
    decide, fun j hj => by
    have : j = 0 := by omega
    subst this
    show (0 : Int32) ≤ 300 ∧ (300 : Int32) ≤ 5000
    decide⟩
  refine ⟨0, 0, 0, 1, 1, 0, (h.st0 t0).st1 t1, ?_, ⟨b0.1, b0.2⟩, ⟨b1.1, b1.2⟩, all_0, all_0, ⟨0, rfl, Nat.le_refl 0⟩, all_0, all_0, fun i j hi => absurd hi (Nat.not_lt_zero i), all_0, all_0, all_0⟩
  show ∀ j, j < 5 → 0 ≤ nums0 j ∧ nums0 j ≤ 99999
  decide +kernel
theorem lst_new {hs : Nat → Nat → Nat → Int32} : LSt gS0 0 hs 0 := ⟨ex_new, Nat.zero_le _, fun i h => absurd h (Nat.not_lt_zero i)⟩
set_option maxHeartbeats 4000000 in
set_option maxRecDepth 100000 in
/-- YOUR PART: from the entry, for every script of at most 260 ints, the law comes to its end with true ('hflags': the launch's flags, for a law that throws: no stack traces) -/
theorem whole_start {p : Program} {e : Env} {s : State} {m : MethodId} {below : List Frame} {meth : Method} {c : Code} (l : Launch) (hflags : l.flags = flags0) {b L : Nat} {xs : Nat → Int32} (hL : L ≤ 260) (C0 : lw_At p s m meth c b L xs) : W p l e room_1 s m #[Value.ref b] below meth c s.heap [] 0 0 (lw_Z below #[Value.ref b] s) (entryFrame m ([Value.ref b] : List Value).toArray 14) := by
  obtain ⟨hx, hb, hr, hml, hown, hts0, hX, hbl, hlocks, hgv⟩ := id C0
  have hown : s.vm.findClass RL = some m.cls := hown
  have hts : ∀ w ∈ wsL_law, w.before #[Value.ref b] s = true := fun w h => hts0 w (wsL_law_in w h)
  have hte : ∀ w ∈ entW, w.before #[Value.ref b] s = true := fun w h => hts0 w (ent_in w h)
  obtain ⟨tL, tG, aK, aV, hZ⟩ := zs_start hte hgv
  obtain ⟨D, cI, cC, cS, hK⟩ := kn_start hts0
  have hC : LC p s m c D cI cC cI cS tL tG aK aV b L xs := ⟨hx, hb, hml, hown, hts, hX, hbl, hK, hZ, hL⟩
  have hA : ∀ q : Nat, s.heap.size ≤ q → (fun q : Nat => s.heap.size ≤ q) q := fun _ h => h
  have hS : va_S (fun q : Nat => s.heap.size ≤ q) s.heap s.heap [] := va_S.rf
  have hP : va_P D vwCl [] s.heap := fun k q h => by simp at h
  have hD : va_D (fun q : Nat => s.heap.size ≤ q) [] := ⟨fun i j p q h => by simp at h, fun k q h => by simp at h⟩
  have hl := lv_entry ([.ref b]) (n := 14) (Nat.le_of_ble_eq_true rfl)
  rw [lg_entry_eq]
  generalize (lg_sl ([.ref b]) ++ List.replicate (14 - (lg_sl ([.ref b])).length) Slot.unset).toArray = ls at hl ⊢
  have hl : lv_has ls 14 [(0, .ref b)] := hl
  refine va_new (D := D) (ci := 6) (fs := [.null, .null, .null, .null]) (C := RX6) (T := TX6) (N := 4) hx hb hts0 inX6 tyX6 tyX6_ok hown (hte (.classLink RL 13 RX6) (by decide +kernel)) (hte (.instantiable RX6 4) (by decide +kernel)) (hte (.initialized RX6) (by decide +kernel)) hK.1 hP hD hS hA rfl (fun j hj => by rcases (show j = 0 ∨ j = 1 ∨ j = 2 ∨ j = 3 by omega) with rfl | rfl | rfl | rfl <;> rfl) (Nat.le_of_ble_eq_true rfl) (Nat.le_of_ble_eq_true rfl) dL_law_0 (fun ob H hP hD hS => ?_)
  refine lv_dup hx hb dL_law_3 rfl ?_
  refine ci_end (pl := []) (As := []) (rest := [.ref ob]) (tys := TYS cI cC cI cS) ⟨hx, hb, hml, hown, hts⟩ (c_X6_init l D cI cC cI cS _ ob) (cwI 0 hts gL_law_X6_init rfl rfl rfl (hte (.initialized RX6) (by decide +kernel)) (hte (.methodLink RL 89 yX6_init) (by decide +kernel)) (hte (.instanceMethod yX6_init) (by decide +kernel)) rfl (by decide +kernel) ⟨Nat.le_of_ble_eq_true rfl, Nat.le_of_ble_eq_true rfl⟩) hK hP hD hS hA rfl rfl hl.1 (Nat.le_of_ble_eq_true rfl) dL_law_4 ⟨Nat.le_of_ble_eq_true rfl, Nat.le_of_ble_eq_true rfl⟩ (fun u H locs _ hP hD hS => ?_)
  obtain ⟨a, dd, o, x, b6⟩ := u
  refine lv_astore_n (lv' := [(1, .ref ob), (0, .ref b)]) hx hb dL_law_7 rfl hl (by decide) rfl (fun ls hl => ?_)
  refine lv_iconst (v := 0) hx hb dL_law_8 (by decide) ?_
  refine lv_istore_n (lv' := [(2, .int (nI 0)), (1, .ref ob), (0, .ref b)]) hx hb dL_law_9 rfl hl (by decide) rfl (fun ls hl => ?_)
  refine lv_iconst (v := 0) hx hb dL_law_10 (by decide) ?_
  refine lv_istore_n (lv' := [(3, .int (nI 0)), (2, .int (nI 0)), (1, .ref ob), (0, .ref b)]) hx hb dL_law_11 rfl hl (by decide) rfl (fun ls hl => ?_)
  have hpp : ((([(ob, oE 6 [.ref (a 0), .ref (dd 0), .ref (o 0), .ref (x 0)])] ++ [(o 0, oE 1 [.int 0, .ref (o 1)]), (o 1, qE cS 6 (fun i => some (b6 i 0)))] ++ wS cI a gS0 ++ wS cI dd gS0 ++ wXk cC x 0 0 0 0 (fun _ => 0)) ++ wH6 cI b6 (fun _ => gS0)) ++ []).Perm (wL (kB cI cC cS ob a dd o x gS0 0 b6 (fun _ => gS0))) := by
    rw [List.append_nil]
    exact List.Perm.of_eq (ap6 _ _ _ _ _ _)
  exact law_loop hC ⟨Nat.le_of_ble_eq_true rfl, Nat.le_of_ble_eq_true rfl⟩ hr hlocks 41 0 (Nat.zero_le _) (by omega) gS0 0 b6 (fun _ => gS0) H locs ls lst_new (hP.perm hpp) (hD.perm hpp) hS (lv_sub hl [3, 2, 1, 0] rfl)
