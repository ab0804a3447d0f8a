theorem sw_in : ∀ j, j < 32 → ((nI j).toInt < 0 ∨ 24 < (nI j).toInt) ∨ j < 25 := by
  intro j hj
  rw [nI_toInt (by omega)]
  omega
set_option maxHeartbeats 4000000 in
set_option maxRecDepth 100000 in
/-- the law's loop, from its head -/
theorem law_loop {p : Program} {l : Launch} {e : Env} {s : State} {m : MethodId} {below : List Frame} {meth : Method} {c : Code} {b L : Nat} {xs : Nat → Int32} {D : va_G} {cx cm : ClassId} {qx qm : Nat → Nat} (hr : meth.sig.returnType = ret) (hlocks : meth.locks = false) (hLC : LC p s m c #[Value.ref b] b L xs D cx cm qx qm) :
    ∀ (n i : Nat) (H : Heap) (locs : List Loc) (ls : Array Slot), i ≤ 2048 + 4 → 2052 < i + n → LI s D cx cm qx qm H locs → lv_has ls 4 [(0, .ref b), (1, .ref (qx 0)), (2, .ref (qm 0)), (3, .int (nI i))] → W p l e room_1 s m #[Value.ref b] below meth c H locs 20 223 (lw_Z below #[Value.ref b] s) (F0 m 18 ls []) := by
  have hLC2 := hLC
  obtain ⟨hx, hb, hml, hown, hts, hX, hbl, hL, hKx, hKm, hDx0, hDm0, hap⟩ := hLC2
  have hbA : ¬ (fun z : Nat => s.heap.size ≤ z) b := Nat.not_le.mpr hbl
  intro n
  induction n with
  | zero => intro i H locs ls h1 h2; omega
  | succ n ih =>
    intro i H locs ls h1 h2 hLI hl
    have hS : va_S (fun z => s.heap.size ≤ z) s.heap H locs := by
      obtain ⟨N, K, S, T, C, ak, ta, pl, cp, kd, fa, fb, bm, sx, sy, gh, mb, co, ff, fm, fw, hI, hPx, hPm, hS⟩ := hLI
      exact hS
    refine lv_iload_n hx hb dL_law_18 rfl (lv_at hl 3 rfl) ?_
    refine lv_aload_n hx hb dL_law_19 rfl (lv_at hl 0 rfl) ?_
    refine va_slen hx hb hX hbl hbA hS dL_law_20 ?_
    refine lv_iconst (v := 4) hx hb dL_law_21 (by decide) ?_
    refine lv_isub hx hb dL_law_22 ?_
    have hz : (Int32.ofNat L - 4).toInt = (L : Int) - 4 := pk_sub_toInt (a := L) (b := 4) (by omega) (by omega)
    have hz2 : (nI i).toInt = (i : Int) := nI_toInt (by omega)
    refine lv_icmp_gt (tgt := 690) hx hb dL_law_23 (by decide) (fun hcz => ?_) (fun hcz => ?_)
    · refine lv_iconst (v := 1) hx hb dL_law_690 (by decide) ?_
      refine va_forget (fun q hq => hS.2.2 q hq) ?_
      refine W.widen (k := 20) (n := 223) (Nat.le_refl 20) (Nat.le_refl 223) ?_
      exact lw_ret hx hb hr hlocks dL_law_691
    · have hi : i + 4 ≤ L := by
        have h5 := Int32.le_iff_toInt_le.mp (Int32.not_lt.mp hcz)
        omega
      have kk : ∀ (H : Heap) (locs : List Loc), LI s D cx cm qx qm H locs → W p l e room_1 s m #[Value.ref b] below meth c H locs 20 223 (lw_Z below #[Value.ref b] s) (F0 m 684 ls []) := by
        intro H locs hLI
        refine lv_iinc (v := nI (i + 4)) (lv' := [(3, .int (nI (i + 4))), (0, .ref b), (1, .ref (qx 0)), (2, .ref (qm 0))]) hx hb dL_law_684 hl (k := 3) rfl (nI_add i 4) (by decide) rfl (fun ls hl => ?_)
        refine lv_goto (tgt := 18) hx hb dL_law_687 (by decide) ?_
        exact ih (i + 4) H locs ls (by omega) (by omega) hLI (lv_sub hl [1, 2, 3, 0] rfl)
      refine lv_aload_n hx hb dL_law_26 rfl (lv_at hl 0 rfl) ?_
      refine lv_iload_n hx hb dL_law_27 rfl (lv_at hl 3 rfl) ?_
      refine sldN hx hb hX hbl hbA hS (by omega) hL dL_law_28 ?_
      refine lv_bipush (v := 31) hx hb dL_law_29 (by decide) ?_
      refine lv_iand hx hb dL_law_31 ?_
      obtain ⟨j, hj, ej⟩ := pk_andE (xs i) (m := 31) 5 (by decide)
      refine tpI (y := nI j) ej ?_
      rcases Nat.lt_or_ge j 25 with hj2 | hj2
      · rcases (show j = 0 ∨ j = 1 ∨ j = 2 ∨ j = 3 ∨ j = 4 ∨ j = 5 ∨ j = 6 ∨ j = 7 ∨ j = 8 ∨ j = 9 ∨ j = 10 ∨ j = 11 ∨ j = 12 ∨ j = 13 ∨ j = 14 ∨ j = 15 ∨ j = 16 ∨ j = 17 ∨ j = 18 ∨ j = 19 ∨ j = 20 ∨ j = 21 ∨ j = 22 ∨ j = 23 ∨ j = 24 by omega) with rfl | rfl | rfl | rfl | rfl | rfl | rfl | rfl | rfl | rfl | rfl | rfl | rfl | rfl | rfl | rfl | rfl | rfl | rfl | rfl | rfl | rfl | rfl | rfl | rfl
        · refine lv_tableIn (off := 116) (tgt := 148) hx hb dL_law_32 (by decide) (by decide) (by decide) (by decide) ?_
          exact lc_things hLC hi hLI hl kk
        · refine lv_tableIn (off := 139) (tgt := 171) hx hb dL_law_32 (by decide) (by decide) (by decide) (by decide) ?_
          exact lc_swap hLC hi hLI hl kk
        · refine lv_tableIn (off := 172) (tgt := 204) hx hb dL_law_32 (by decide) (by decide) (by decide) (by decide) ?_
          exact lc_second hLC hi hLI hl kk
        · refine lv_tableIn (off := 195) (tgt := 227) hx hb dL_law_32 (by decide) (by decide) (by decide) (by decide) ?_
          exact lc_heap hLC hi hLI hl kk
        · refine lv_tableIn (off := 238) (tgt := 270) hx hb dL_law_32 (by decide) (by decide) (by decide) (by decide) ?_
          exact lc_drop hLC hi hLI hl kk
        · refine lv_tableIn (off := 251) (tgt := 283) hx hb dL_law_32 (by decide) (by decide) (by decide) (by decide) ?_
          exact lc_has hLC hi hLI hl kk
        · refine lv_tableIn (off := 284) (tgt := 316) hx hb dL_law_32 (by decide) (by decide) (by decide) (by decide) ?_
          exact lc_bits hLC hi hLI hl kk
        · refine lv_tableIn (off := 307) (tgt := 339) hx hb dL_law_32 (by decide) (by decide) (by decide) (by decide) ?_
          exact lc_hold hLC hi hLI hl kk
        · refine lv_tableIn (off := 340) (tgt := 372) hx hb dL_law_32 (by decide) (by decide) (by decide) (by decide) ?_
          exact lc_off hLC hi hLI hl kk
        · refine lv_tableIn (off := 373) (tgt := 405) hx hb dL_law_32 (by decide) (by decide) (by decide) (by decide) ?_
          exact lc_worst hLC hi hLI hl kk
        · refine lv_tableIn (off := 396) (tgt := 428) hx hb dL_law_32 (by decide) (by decide) (by decide) (by decide) ?_
          exact lc_squares hLC hi hLI hl kk
        · refine lv_tableIn (off := 419) (tgt := 451) hx hb dL_law_32 (by decide) (by decide) (by decide) (by decide) ?_
          exact lc_times hLC hi hLI hl kk
        · refine lv_tableIn (off := 432) (tgt := 464) hx hb dL_law_32 (by decide) (by decide) (by decide) (by decide) ?_
          exact lc_least hLC hi hLI hl kk
        · refine lv_tableIn (off := 445) (tgt := 477) hx hb dL_law_32 (by decide) (by decide) (by decide) (by decide) ?_
          exact lc_first hLC hi hLI hl kk
        · refine lv_tableIn (off := 458) (tgt := 490) hx hb dL_law_32 (by decide) (by decide) (by decide) (by decide) ?_
          exact lc_many hLC hi hLI hl kk
        · refine lv_tableIn (off := 471) (tgt := 503) hx hb dL_law_32 (by decide) (by decide) (by decide) (by decide) ?_
          exact lc_fewest hLC hi hLI hl kk
        · refine lv_tableIn (off := 484) (tgt := 516) hx hb dL_law_32 (by decide) (by decide) (by decide) (by decide) ?_
          exact lc_turns hLC hi hLI hl kk
        · refine lv_tableIn (off := 497) (tgt := 529) hx hb dL_law_32 (by decide) (by decide) (by decide) (by decide) ?_
          exact lc_pairs hLC hi hLI hl kk
        · refine lv_tableIn (off := 510) (tgt := 542) hx hb dL_law_32 (by decide) (by decide) (by decide) (by decide) ?_
          exact lc_come hLC hi hLI hl kk
        · refine lv_tableIn (off := 523) (tgt := 555) hx hb dL_law_32 (by decide) (by decide) (by decide) (by decide) ?_
          exact lc_step hLC hi hLI hl kk
        · refine lv_tableIn (off := 556) (tgt := 588) hx hb dL_law_32 (by decide) (by decide) (by decide) (by decide) ?_
          exact lc_clear hLC hi hLI hl kk
        · refine lv_tableIn (off := 569) (tgt := 601) hx hb dL_law_32 (by decide) (by decide) (by decide) (by decide) ?_
          exact lc_stray hLC hi hLI hl kk
        · refine lv_tableIn (off := 592) (tgt := 624) hx hb dL_law_32 (by decide) (by decide) (by decide) (by decide) ?_
          exact lc_straight hLC hi hLI hl kk
        · refine lv_tableIn (off := 615) (tgt := 647) hx hb dL_law_32 (by decide) (by decide) (by decide) (by decide) ?_
          exact lc_count hLC hi hLI hl kk
        · refine lv_tableIn (off := 638) (tgt := 670) hx hb dL_law_32 (by decide) (by decide) (by decide) (by decide) ?_
          exact lc_trace hLC hi hLI hl kk
      · refine lv_tableOut (tgt := 684) hx hb dL_law_32 (by rw [nI_toInt (by omega)]; right; omega) (by decide) ?_
        exact kk H locs hLI
