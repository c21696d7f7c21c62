/-! ===== the law's loop ===== -/
theorem and31 (x : Int32) : ∃ k : Nat, k < 32 ∧ x &&& 31 = nI k := by
  refine ⟨(x &&& 31).toBitVec.toNat, ?_, ?_⟩
  · rw [Int32.toBitVec_and, BitVec.toNat_and]
    exact Nat.lt_of_le_of_lt Nat.and_le_right (by decide)
  · apply Int32.toBitVec_inj.mp
    show _ = BitVec.ofNat 32 _
    rw [BitVec.ofNat_toNat, BitVec.setWidth_eq]
theorem room5 {i Lx : Nat} (hLx : Lx ≤ 2560) (hi : i ≤ Lx + 4) (h : ¬ Int32.ofNat Lx - 5 < nI i) : i + 5 ≤ Lx := by
  have e : (Int32.ofNat Lx - 5).toInt = (Lx : Int) - 5 := pk_sub_toInt (a := Lx) (b := 5) (by omega) (by omega)
  rw [Int32.lt_iff_toInt_lt, e, nI_toInt (by omega)] at h
  omega
section LLOOP
variable {p : Program} {l : Launch} {e : Env} {s : State} {m : MethodId} {below : List Frame} {meth : Method} {c : Code} {cells slots : Nat} {D : va_G} {cI cC cB cS : ClassId} {tL tG : Nat} {aK aV : Nat → Nat} {bs Lx : Nat} {xs : Nat → Int32} {ob : Nat} {a dd o x ma : Nat → Nat}
set_option maxHeartbeats 4000000 in
set_option maxRecDepth 100000 in
theorem law_loop (hC : LC p s m c D cI cC cB cS tL tG aK aV bs Lx xs) (hr : meth.sig.returnType = ret) (hlocks : meth.locks = false) (hcl : cells ≤ 600000) (hsl : slots ≤ 7302250) : ∀ (n i : Nat), i ≤ Lx + 4 → Lx + 4 < i + n → ∀ (ls : Array Slot), lv_has ls 4 [(0, .ref bs), (1, .ref ob), (2, .ref (ma 0)), (3, .int (nI i))] → KK p l e s m below meth c bs cells slots (lw_Z below #[Value.ref bs] s) D cI cC cB cS ob a dd o x ma 18 ls := by
  intro n
  induction n with
  | zero =>
    intro i h1 h2
    exact absurd h2 (by omega)
  | succ n ih =>
    intro i h1 h2 ls hl g lf np b hs lfs Pp dg L tk ts te f E ex wd H locs hL hP hD hS
    obtain ⟨hx, hb, hml, hown, hts, hX, hbl, hK, hZ, hLx⟩ := id hC
    have hbA : ¬ (fun q : Nat => s.heap.size ≤ q) bs := Nat.not_le.mpr hbl
    refine lv_iload_n hx hb dL_law_18 rfl (lv_at hl 3 rfl) ?_
    refine lv_aload_n hx hb dL_law_19 rfl (lv_at hl 0 rfl) ?_
    refine va_slen hx hb hX hbl hbA hS dL_law_20 ?_
    refine lv_iconst (v := 5) hx hb dL_law_21 (by decide) ?_
    refine lv_isub hx hb dL_law_22 ?_
    refine lv_icmp_gt (tgt := 916) hx hb dL_law_23 (by decide) (fun _ => ?_) (fun c23 => ?_)
    · refine lv_iconst (v := 1) hx hb dL_law_916 (by decide) ?_
      refine va_forget (fun q hq => hS.2.2 q hq) ?_
      refine W.widen (k := 600000) (n := 7302250) hcl hsl ?_
      exact lw_ret hx hb hr hlocks dL_law_917
    · have hi5 : i + 5 ≤ Lx := room5 hLx h1 c23
      refine lv_aload_n hx hb dL_law_26 rfl (lv_at hl 0 rfl) ?_
      refine lv_iload_n hx hb dL_law_27 rfl (lv_at hl 3 rfl) ?_
      refine va_sld hx hb hX hbl hbA hS (vp_in_nI (by omega) (by omega)) dL_law_28 ?_
      refine lv_bipush (v := 31) hx hb dL_law_29 (by decide) ?_
      refine lv_iand hx hb dL_law_31 ?_
      obtain ⟨k, hk, ek⟩ := and31 (xs (nI i).toNatClampNeg)
      rw [ek]
      have kk : KK p l e s m below meth c bs cells slots (lw_Z below #[Value.ref bs] s) D cI cC cB cS ob a dd o x ma 910 ls := by
        intro g lf np b hs lfs Pp dg L tk ts te f E ex wd H locs hL hP hD hS
        refine lv_iinc (v := nI (i + 5)) (lv' := [(3, .int (nI (i + 5))), (0, .ref bs), (1, .ref ob), (2, .ref (ma 0))]) hx hb dL_law_910 hl (k := 3) rfl (nI_add i 5) (by decide) rfl (fun ls hl => ?_)
        refine lv_goto (tgt := 18) hx hb dL_law_913 (by decide) ?_
        exact ih (i + 5) (by omega) (by omega) ls (lv_sub hl [1, 2, 3, 0] rfl) g lf np b hs lfs Pp dg L tk ts te f E ex wd H locs hL hP hD hS
      rcases (show k = 0 ∨ k = 1 ∨ k = 2 ∨ k = 3 ∨ k = 4 ∨ k = 5 ∨ k = 6 ∨ k = 7 ∨ k = 8 ∨ k = 9 ∨ k = 10 ∨ k = 11 ∨ k = 12 ∨ k = 13 ∨ k = 14 ∨ k = 15 ∨ k = 16 ∨ k = 17 ∨ k = 18 ∨ k = 19 ∨ k = 20 ∨ k = 21 ∨ k = 22 ∨ k = 23 ∨ k = 24 ∨ k = 25 ∨ 26 ≤ k by omega) with rfl | rfl | rfl | rfl | rfl | rfl | rfl | rfl | rfl | rfl | rfl | rfl | rfl | rfl | rfl | rfl | rfl | rfl | rfl | rfl | rfl | rfl | rfl | rfl | rfl | rfl | hk26
      · refine lv_tableIn (off := 120) (tgt := 152) hx hb dL_law_32 (by decide) (by decide) rfl (by decide) ?_
        exact lc_addBay hC hl hi5 hcl hsl hL hP hD hS kk
      · refine lv_tableIn (off := 163) (tgt := 195) hx hb dL_law_32 (by decide) (by decide) rfl (by decide) ?_
        exact lc_setBay hC hl hi5 hcl hsl hL hP hD hS kk
      · refine lv_tableIn (off := 196) (tgt := 228) hx hb dL_law_32 (by decide) (by decide) rfl (by decide) ?_
        exact lc_setStep hC hl hi5 hcl hsl hL hP hD hS kk
      · refine lv_tableIn (off := 249) (tgt := 281) hx hb dL_law_32 (by decide) (by decide) rfl (by decide) ?_
        exact lc_setNumber hC hl hi5 hcl hsl hL hP hD hS kk
      · refine lv_tableIn (off := 282) (tgt := 314) hx hb dL_law_32 (by decide) (by decide) rfl (by decide) ?_
        exact lc_appendCharacter hC hl hi5 hcl hsl hL hP hD hS kk
      · refine lv_tableIn (off := 305) (tgt := 337) hx hb dL_law_32 (by decide) (by decide) rfl (by decide) ?_
        exact lc_clearText hC hl hi5 hcl hsl hL hP hD hS kk
      · refine lv_tableIn (off := 318) (tgt := 350) hx hb dL_law_32 (by decide) (by decide) rfl (by decide) ?_
        exact lc_load hC hl hi5 hcl hsl hL hP hD hS kk
      · refine lv_tableIn (off := 331) (tgt := 363) hx hb dL_law_32 (by decide) (by decide) rfl (by decide) ?_
        exact lc_reserve hC hl hi5 hcl hsl hL hP hD hS kk
      · refine lv_tableIn (off := 384) (tgt := 416) hx hb dL_law_32 (by decide) (by decide) rfl (by decide) ?_
        exact lc_cancel hC hl hi5 hcl hsl hL hP hD hS kk
      · refine lv_tableIn (off := 407) (tgt := 439) hx hb dL_law_32 (by decide) (by decide) rfl (by decide) ?_
        exact lc_enter hC hl hi5 hcl hsl hL hP hD hS kk
      · refine lv_tableIn (off := 440) (tgt := 472) hx hb dL_law_32 (by decide) (by decide) rfl (by decide) ?_
        exact lc_leave hC hl hi5 hcl hsl hL hP hD hS kk
      · refine lv_tableIn (off := 463) (tgt := 495) hx hb dL_law_32 (by decide) (by decide) rfl (by decide) ?_
        exact lc_leaveLost hC hl hi5 hcl hsl hL hP hD hS kk
      · refine lv_tableIn (off := 486) (tgt := 518) hx hb dL_law_32 (by decide) (by decide) rfl (by decide) ?_
        exact lc_pass hC hl hi5 hcl hsl hL hP hD hS kk
      · refine lv_tableIn (off := 509) (tgt := 541) hx hb dL_law_32 (by decide) (by decide) rfl (by decide) ?_
        exact lc_count hC hl hi5 hcl hsl hL hP hD hS kk
      · refine lv_tableIn (off := 532) (tgt := 564) hx hb dL_law_32 (by decide) (by decide) rfl (by decide) ?_
        exact lc_bay hC hl hi5 hcl hsl hL hP hD hS kk
      · refine lv_tableIn (off := 565) (tgt := 597) hx hb dL_law_32 (by decide) (by decide) rfl (by decide) ?_
        exact lc_reservation hC hl hi5 hcl hsl hL hP hD hS kk
      · refine lv_tableIn (off := 598) (tgt := 630) hx hb dL_law_32 (by decide) (by decide) rfl (by decide) ?_
        exact lc_car hC hl hi5 hcl hsl hL hP hD hS kk
      · refine lv_tableIn (off := 631) (tgt := 663) hx hb dL_law_32 (by decide) (by decide) rfl (by decide) ?_
        exact lc_step hC hl hi5 hcl hsl hL hP hD hS kk
      · refine lv_tableIn (off := 674) (tgt := 706) hx hb dL_law_32 (by decide) (by decide) rfl (by decide) ?_
        exact lc_account hC hl hi5 hcl hsl hL hP hD hS kk
      · refine lv_tableIn (off := 697) (tgt := 729) hx hb dL_law_32 (by decide) (by decide) rfl (by decide) ?_
        exact lc_nearest hC hl hi5 hcl hsl hL hP hD hS kk
      · refine lv_tableIn (off := 720) (tgt := 752) hx hb dL_law_32 (by decide) (by decide) rfl (by decide) ?_
        exact lc_free hC hl hi5 hcl hsl hL hP hD hS kk
      · refine lv_tableIn (off := 753) (tgt := 785) hx hb dL_law_32 (by decide) (by decide) rfl (by decide) ?_
        exact lc_fee hC hl hi5 hcl hsl hL hP hD hS kk
      · refine lv_tableIn (off := 786) (tgt := 818) hx hb dL_law_32 (by decide) (by decide) rfl (by decide) ?_
        exact lc_minutesLeft hC hl hi5 hcl hsl hL hP hD hS kk
      · refine lv_tableIn (off := 809) (tgt := 841) hx hb dL_law_32 (by decide) (by decide) rfl (by decide) ?_
        exact lc_freeFor hC hl hi5 hcl hsl hL hP hD hS kk
      · refine lv_tableIn (off := 832) (tgt := 864) hx hb dL_law_32 (by decide) (by decide) rfl (by decide) ?_
        exact lc_earliest hC hl hi5 hcl hsl hL hP hD hS kk
      · refine lv_tableIn (off := 865) (tgt := 897) hx hb dL_law_32 (by decide) (by decide) rfl (by decide) ?_
        exact lc_undo hC hl hi5 hcl hsl hL hP hD hS kk
      · have e1 : (nI k).toInt = k := nI_toInt (by omega)
        refine lv_tableOut (tgt := 910) hx hb dL_law_32 (Or.inr (by omega)) (by decide) ?_
        exact kk g lf np b hs lfs Pp dg L tk ts te f E ex wd H locs hL hP hD hS
end LLOOP
