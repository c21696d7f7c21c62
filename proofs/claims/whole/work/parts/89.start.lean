/-! ===== THE LAW, from its entry ===== -/
section MYCQ
variable {p : Program} {l : Launch} {e : Env} {R : Room} {s : State} {m : MethodId} {args : Array Value} {below : List Frame} {meth : Method} {c : Code} {H : Heap} {locs : List Loc} {cells slots : Nat} {Q : State → Prop}
variable {cc : ByteArray} {pc : Nat} {ls : Array Slot} {rest st0 : List Value} {D : va_G} {A : Nat → Prop} {tys : List (ClassId × FieldType)}
variable {y : MethodName} {bytes : ByteArray} {maxL nL mc ms n index : Nat} {ret : Option FieldType} {wc : List Cond} {rm : Room} {Ts : List Cond} {own C : String} {b : Addr} {As : List Value} {X pl : va_W}
/-- a constructor's call, on a new object behind all others -/
theorem ci_end {S : Type} {post : S → Prop} {f : S → va_W} (F : CallFix p m c cc nL s args Ts own) (hM : Met l y wc rm (wrPc D tys (.ref b :: As) X H.size) (va_Qv post (wrB D (va_A X H.size) f) (va_A X H.size)) mc ms (va_A X H.size)) (cw : CallB R s args own index y bytes maxL none wc rm mc ms n ∧ y.name = "<init>" ∧ (Cond.instanceMethod y).before args s = true)
    (hK : KN D tys s) (hP : va_P D vwCl (pl ++ X) H) (hD : va_D A (pl ++ X)) (hS : va_S A s.heap H locs) (hA : ∀ q : Nat, s.heap.size ≤ q → A q) (hst : st0 = As.reverse ++ .ref b :: rest) (hn : As.length = n) (hsize : ls.size = nL) (hW : (rest.map fun v => v.category).sum ≤ 8) (hdg : decode cc pc = .ok (.invokespecial index, 3)) (hf : cells + mc ≤ R.cells ∧ slots + ms ≤ R.slots)
    (kk : ∀ (u : S) (H1 : Heap) (locs1 : List Loc), post u → va_P D vwCl (f u ++ pl) H1 → va_D A (f u ++ pl) → va_S A s.heap H1 locs1 → W p l e R s m args below meth c H1 locs1 (cells + mc) (slots + ms) Q (F0 m (pc + 3) ls rest)) : W p l e R s m args below meth c H locs cells slots Q (F0 m pc ls st0) := by
  have hP := hP.perm List.perm_append_comm
  have hD := hD.perm List.perm_append_comm
  have hi := range_at X
  have hni := nd_all _ (List.nodup_range (n := X.length))
  have hpre := wr_pre (b := .ref b :: As) hK hP.left hD.left rfl (List.range X.length) hi hni
  have hFc := va_free (wc := X) hD.left hS hA (List.range X.length) hi
  refine va_callv (va_runI F hM cw ⟨wrPc_blind, hpre⟩ rfl hn hsize hst (lv_room hW) hdg hf) hS (fun q _ h => hFc q h) hFc (fun u t H1 locs1 ht hvm hp hB hz1 hk1 hS1 => ?_)
  obtain ⟨hP1, hD1⟩ := hB
  rw [ht] at hP1
  obtain ⟨hP2, hD2⟩ := va_joinQ (wr := []) hP hD (List.range X.length) [] hi rfl rfl (fun i h => absurd h List.not_mem_nil) hk1 hFc hP1 hD1
  exact kk u H1 locs1 hp hP2 hD2 hS1
end MYCQ
theorem bt_zero : bt (fun _ => 0) = fun _ => 0 := funext fun _ => by
  show (0 : Int32).toInt8.toInt32 = 0
  decide +kernel
theorem mB10 {cI cB : ClassId} {ma : Nat → Nat} {g : Nat → Nat → Int32} {lf : Int32} {np L : Nat} {f Pp E ex : Nat → Int32} {wd : Int64} : mB cI cB ma g lf np L f Pp E ex wd 10 = [(ma 4, iE cB 120 (bt f))] := rfl
theorem lst_new {hs : Nat → Nat → Nat → Int32} {lfs Pp : Nat → Int32} : LSt gS0 0 0 hs lfs Pp 0 (fun _ => 0) := ⟨inv_new, Nat.zero_le _, fun i h => absurd h (Nat.not_lt_zero i), fun i h => absurd h (Nat.not_lt_zero i), Nat.zero_le _, fun _ _ => (show (0 : Int32) ≤ 0 ∧ (0 : Int32) ≤ 255 by decide)⟩
set_option maxHeartbeats 4000000 in
set_option maxRecDepth 100000 in
/-- YOUR PART: from the entry, for every script of at most 2560 ints, the law comes to its end with true ('hflags': the launch's flags, for a law that throws: no stack traces) -/
theorem whole_start {p : Program} {e : Env} {s : State} {m : MethodId} {below : List Frame} {meth : Method} {c : Code} (l : Launch) (hflags : l.flags = flags0) {b L : Nat} {xs : Nat → Int32} (hL : L ≤ 2560) (C0 : lw_At p s m meth c b L xs) : W p l e room_1 s m #[Value.ref b] below meth c s.heap [] 0 0 (lw_Z below #[Value.ref b] s) (entryFrame m ([Value.ref b] : List Value).toArray 4) := by
  obtain ⟨hx, hb, hr, hml, hown, hts0, hX, hbl, hlocks, hgv⟩ := id C0
  have hown : s.vm.findClass RL = some m.cls := hown
  have hts : ∀ w ∈ wsL_law, w.before #[Value.ref b] s = true := fun w h => hts0 w (wsL_law_in w h)
  have hte : ∀ w ∈ entW, w.before #[Value.ref b] s = true := fun w h => hts0 w (ent_in w h)
  obtain ⟨tL, tG, aK, aV, hZ⟩ := zs_start hte hgv
  obtain ⟨D, cI, cC, cB, cS, hK⟩ := kn_start hts0
  have hC : LC p s m c D cI cC cB cS tL tG aK aV b L xs := ⟨hx, hb, hml, hown, hts, hX, hbl, hK, hZ, hL⟩
  have hA : ∀ q : Nat, s.heap.size ≤ q → (fun q : Nat => s.heap.size ≤ q) q := fun _ h => h
  have hS : va_S (fun q : Nat => s.heap.size ≤ q) s.heap s.heap [] := va_S.rf
  have hP : va_P D vwCl [] s.heap := fun k q h => by simp at h
  have hD : va_D (fun q : Nat => s.heap.size ≤ q) [] := ⟨fun i j p q h => by simp at h, fun k q h => by simp at h⟩
  have hl := lv_entry ([.ref b]) (n := 4) (Nat.le_of_ble_eq_true rfl)
  rw [lg_entry_eq]
  generalize (lg_sl ([.ref b]) ++ List.replicate (4 - (lg_sl ([.ref b])).length) Slot.unset).toArray = ls at hl ⊢
  have hl : lv_has ls 4 [(0, .ref b)] := hl
  refine va_new (D := D) (ci := 6) (fs := [.null, .null, .null, .null]) (C := RX6) (T := TX6) (N := 4) hx hb hts0 inX6 tyX6 tyX6_ok hown (hte (.classLink RL 7 RX6) (by decide +kernel)) (hte (.instantiable RX6 4) (by decide +kernel)) (hte (.initialized RX6) (by decide +kernel)) hK.1 hP hD hS hA rfl (fun j hj => by rcases (show j = 0 ∨ j = 1 ∨ j = 2 ∨ j = 3 by omega) with rfl | rfl | rfl | rfl <;> rfl) (Nat.le_of_ble_eq_true rfl) (Nat.le_of_ble_eq_true rfl) dL_law_0 (fun ob H hP hD hS => ?_)
  refine lv_dup hx hb dL_law_3 rfl ?_
  refine ci_end (pl := []) (As := []) (rest := [.ref ob]) (tys := TYS cI cC cB cS) ⟨hx, hb, hml, hown, hts⟩ (c_X6_init l D cI cC cB cS _ ob) (cwI 0 hts gL_law_X6_init rfl rfl rfl (hte (.initialized RX6) (by decide +kernel)) (hte (.methodLink RL 9 yX6_init) (by decide +kernel)) (hte (.instanceMethod yX6_init) (by decide +kernel)) rfl (by decide +kernel) ⟨Nat.le_of_ble_eq_true rfl, Nat.le_of_ble_eq_true rfl⟩) hK hP hD hS hA rfl rfl hl.1 (Nat.le_of_ble_eq_true rfl) dL_law_4 ⟨Nat.le_of_ble_eq_true rfl, Nat.le_of_ble_eq_true rfl⟩ (fun u H locs _ hP hD hS => ?_)
  obtain ⟨a, dd, o, x, b6⟩ := u
  refine lv_astore_n (lv' := [(1, .ref ob), (0, .ref b)]) hx hb dL_law_7 rfl hl (by decide) rfl (fun ls hl => ?_)
  refine va_new (D := D) (ci := 7) (fs := [.null, .null, .int 0, .null, .null, .int 0, .int 0, .int 0, .long 0, .int 0, .int 0]) (C := RX7) (T := TX7) (N := 11) hx hb hts0 inX7 tyX7 tyX7_ok hown (hte (.classLink RL 10 RX7) (by decide +kernel)) (hte (.instantiable RX7 11) (by decide +kernel)) (hte (.initialized RX7) (by decide +kernel)) hK.1 hP hD hS hA rfl (fun j hj => by rcases (show j = 0 ∨ j = 1 ∨ j = 2 ∨ j = 3 ∨ j = 4 ∨ j = 5 ∨ j = 6 ∨ j = 7 ∨ j = 8 ∨ j = 9 ∨ j = 10 by omega) with rfl | rfl | rfl | rfl | rfl | rfl | rfl | rfl | rfl | rfl | rfl <;> rfl) (Nat.le_of_ble_eq_true rfl) (Nat.le_of_ble_eq_true rfl) dL_law_8 (fun mo H hP hD hS => ?_)
  refine lv_dup hx hb dL_law_11 rfl ?_
  refine ci_end (As := []) (rest := [.ref mo]) (tys := TYS cI cC cB cS) ⟨hx, hb, hml, hown, hts⟩ (c_X7_init l D cI cC cB cS _ mo) (cwI 0 hts gL_law_X7_init rfl rfl rfl (hte (.initialized RX7) (by decide +kernel)) (hte (.methodLink RL 12 yX7_init) (by decide +kernel)) (hte (.instanceMethod yX7_init) (by decide +kernel)) rfl (by decide +kernel) ⟨Nat.le_of_ble_eq_true rfl, Nat.le_of_ble_eq_true rfl⟩) hK hP hD hS hA rfl rfl hl.1 (Nat.le_of_ble_eq_true rfl) dL_law_12 ⟨Nat.le_of_ble_eq_true rfl, Nat.le_of_ble_eq_true rfl⟩ (fun mu H locs _ hP hD hS => ?_)
  refine lv_astore_n (lv' := [(2, .ref mo), (1, .ref ob), (0, .ref b)]) hx hb dL_law_15 rfl hl (by decide) rfl (fun ls hl => ?_)
  refine lv_iconst (v := 0) hx hb dL_law_16 (by decide) ?_
  refine lv_istore_n (lv' := [(3, .int 0), (2, .ref mo), (1, .ref ob), (0, .ref b)]) hx hb dL_law_17 rfl hl (by decide) rfl (fun ls hl => ?_)
  have hp : ∀ (B2 B1 : va_W) (bl : Nat → va_W), B1 = [0, 1, 2, 3, 4, 5].flatMap bl → B2 = [6, 7, 8, 9, 10].flatMap bl → (B2 ++ ([] ++ B1)).Perm (wL bl) ∧ (B2 ++ (B1 ++ [])).Perm (wL bl) := fun B2 B1 bl h1 h2 => by
    rw [List.nil_append, List.append_nil, h1, h2]
    exact ⟨(lw_split (is := [6, 7, 8, 9, 10]) (ir := [0, 1, 2, 3, 4, 5]) (by decide)).symm, (lw_split (is := [6, 7, 8, 9, 10]) (ir := [0, 1, 2, 3, 4, 5]) (by decide)).symm⟩
  have h10 : [6, 7, 8, 9, 10].flatMap (lb (kB cI cC cS ob a dd o x gS0 0 b6 (fun _ => gS0) gS0 0 0 0 0 (fun _ => 0)) (mB cI cB (cns mo (fun k => mu (k + 1))) gS0 0 0 0 (fun _ => 0) (fun _ => 0) (fun _ => 0) (fun _ => 0) 0)) = [(mo, oE 7 [.ref (mu 1), .ref (mu 2), .int 0, .ref (mu 3), .ref (mu 4), .int 0, .int 0, .int 0, .long 0, .int 0, .int 0]), (mu 1, iE cI 382 (enc gS0 0)), (mu 2, iE cI 2292 (fun _ => 0)), (mu 3, iE cI 382 (fun _ => 0)), (mu 4, iE cB 120 (fun _ => 0))] := by
    show mB cI cB (cns mo (fun k => mu (k + 1))) gS0 0 0 0 (fun _ => 0) (fun _ => 0) (fun _ => 0) (fun _ => 0) 0 6 ++ (mB cI cB (cns mo (fun k => mu (k + 1))) gS0 0 0 0 (fun _ => 0) (fun _ => 0) (fun _ => 0) (fun _ => 0) 0 7 ++ (mB cI cB (cns mo (fun k => mu (k + 1))) gS0 0 0 0 (fun _ => 0) (fun _ => 0) (fun _ => 0) (fun _ => 0) 0 8 ++ (mB cI cB (cns mo (fun k => mu (k + 1))) gS0 0 0 0 (fun _ => 0) (fun _ => 0) (fun _ => 0) (fun _ => 0) 0 9 ++ (mB cI cB (cns mo (fun k => mu (k + 1))) gS0 0 0 0 (fun _ => 0) (fun _ => 0) (fun _ => 0) (fun _ => 0) 0 10 ++ [])))) = _
    rw [mB10, bt_zero]
    rfl
  have hpp := (hp _ _ (lb (kB cI cC cS ob a dd o x gS0 0 b6 (fun _ => gS0) gS0 0 0 0 0 (fun _ => 0)) (mB cI cB (cns mo (fun k => mu (k + 1))) gS0 0 0 0 (fun _ => 0) (fun _ => 0) (fun _ => 0) (fun _ => 0) 0)) (ap6 [(ob, oE 6 [.ref (a 0), .ref (dd 0), .ref (o 0), .ref (x 0)])] [(o 0, oE 1 [.int 0, .ref (o 1)]), (o 1, qE cS 6 (fun i => some (b6 i 0)))] (wS cI a gS0) (wS cI dd gS0) (wXk cC x 0 0 0 0 (fun _ => 0)) (wH6 cI b6 (fun _ => gS0))) h10.symm).2
  exact law_loop hC hr hlocks (Nat.le_of_ble_eq_true rfl) (Nat.le_of_ble_eq_true rfl) (L + 5) 0 (Nat.zero_le _) (by omega) ls (lv_sub hl [3, 2, 1, 0] rfl) gS0 0 0 b6 (fun _ => gS0) (fun _ => 0) (fun _ => 0) gS0 0 0 0 0 (fun _ => 0) (fun _ => 0) (fun _ => 0) 0 H locs lst_new (hP.perm hpp) (hD.perm hpp) hS
