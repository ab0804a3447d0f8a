set_option maxHeartbeats 4000000 in
set_option maxRecDepth 100000 in
theorem lc_first {p : Program} {l : Launch} {e : Env} {s : State} {m : MethodId} {args : Array Value} {below : List Frame} {meth : Method} {c : Code} {H : Heap} {locs : List Loc} {Q : State → Prop} {ls : Array Slot} {b L i : Nat} {xs : Nat → Int32} {D : va_G} {cx cm : ClassId} {qx qm : Nat → Nat} (hLC : LC p s m c args b L xs D cx cm qx qm) (hi : i + 4 ≤ L) (hLI : LI s D cx cm qx qm H locs) (hl : lv_has ls 4 [(0, .ref b), (1, .ref (qx 0)), (2, .ref (qm 0)), (3, .int (nI i))]) (kk : ∀ (H : Heap) (locs : List Loc), LI s D cx cm qx qm H locs → W p l e room_1 s m args below meth c H locs 20 223 Q (F0 m 684 ls [])) : W p l e room_1 s m args below meth c H locs 20 223 Q (F0 m 477 ls []) := by
  obtain ⟨hx, hb, hml, hown, hts, hX, hbl, hL, hKx, hKm, hDx0, hDm0, hap⟩ := hLC
  have hbA : ¬ (fun z : Nat => s.heap.size ≤ z) b := Nat.not_le.mpr hbl
  obtain ⟨N, K, S, T, C, ak, ta, pl, cp, kd, fa, fb, bm, sx, sy, gh, mb, co, ff, fm, fw, hI, hPx, hPm, hS⟩ := hLI
  have hI2 := hI
  obtain ⟨hN1, hN, hKn, hSn, hpm, hhp, hbm, hhd⟩ := hI2
  have hC := (⟨hx, hb, hml, hown, hts⟩ : CallFix p m c cL_law 4 s args wsL_law RL)
  have hpl := pm_pl hN hpm
  have hAx := dX_A hDx0
  have hAm := dM_A hDm0
  refine lv_aload_n hx hb dL_law_477 rfl (lv_at hl 1 rfl) ?_
  have hse := search_eq (f0 := ff) (m0 := fm) (b1 := bm) (b2 := rbF (hbX pl kd fa fb N) mb K) hN hKn hhd (fun j hj => by rw [rbF_lt hj]; exact hbm j hj)
  refine cV (As := []) hC hKx hPx rfl rfl (kX0_first hPx  hN hKn hhd.2.1) [] (cwV 0 hts gL_law_X0_first rfl rfl rfl hdX0_first ⟨Nat.le_of_ble_eq_true rfl, Nat.le_of_ble_eq_true rfl⟩) rfl hl.1 rfl (Nat.le_of_ble_eq_true rfl) dL_law_478 ⟨Nat.le_of_ble_eq_true rfl, Nat.le_of_ble_eq_true rfl⟩ ?_
  refine lv_aload_n hx hb dL_law_481 rfl (lv_at hl 2 rfl) ?_
  have hDm : va_D (aL qm) (wM cm qm (nI N) (nI K) (nI S) ff fm fw ak ta gh kd fa fb sx sy mb co) := dM_aL (vD_same (by rfl) hDm0)
  refine cVw (As := []) hC hKm hPm rfl rfl (kX1_first hPm hDm  hN hKn hpl hhp) [_] (cwV 0 hts gL_law_X1_first rfl rfl rfl hdX1_first ⟨Nat.le_of_ble_eq_true rfl, Nat.le_of_ble_eq_true rfl⟩) rfl hl.1 rfl (Nat.le_of_ble_eq_true rfl) dL_law_482 ⟨Nat.le_of_ble_eq_true rfl, Nat.le_of_ble_eq_true rfl⟩ hS hAm (fun H2 locs2 hQm hz hkp hS2 => ?_)
  have hPx := keepP hPx (dX_aL (A := fun z => s.heap.size ≤ z) (vD_same (by rfl) hDx0)) hap hkp
  clear hPm hS hz hkp hDm
  have hPm := hQm
  have hS := hS2
  clear hQm hS2
  refine lv_icmp_eq (tgt := 684) hx hb dL_law_485 (by decide) (fun _ => ?_) (fun h => absurd (by rw [hse]) h)
  exact kk _ _ ⟨N, K, S, T, C, ak, ta, pl, cp, kd, fa, fb, bm, sx, sy, gh, _, co, _, _, _, hI, hPx, hPm, hS⟩
set_option maxHeartbeats 4000000 in
set_option maxRecDepth 100000 in
theorem lc_many {p : Program} {l : Launch} {e : Env} {s : State} {m : MethodId} {args : Array Value} {below : List Frame} {meth : Method} {c : Code} {H : Heap} {locs : List Loc} {Q : State → Prop} {ls : Array Slot} {b L i : Nat} {xs : Nat → Int32} {D : va_G} {cx cm : ClassId} {qx qm : Nat → Nat} (hLC : LC p s m c args b L xs D cx cm qx qm) (hi : i + 4 ≤ L) (hLI : LI s D cx cm qx qm H locs) (hl : lv_has ls 4 [(0, .ref b), (1, .ref (qx 0)), (2, .ref (qm 0)), (3, .int (nI i))]) (kk : ∀ (H : Heap) (locs : List Loc), LI s D cx cm qx qm H locs → W p l e room_1 s m args below meth c H locs 20 223 Q (F0 m 684 ls [])) : W p l e room_1 s m args below meth c H locs 20 223 Q (F0 m 490 ls []) := by
  obtain ⟨hx, hb, hml, hown, hts, hX, hbl, hL, hKx, hKm, hDx0, hDm0, hap⟩ := hLC
  have hbA : ¬ (fun z : Nat => s.heap.size ≤ z) b := Nat.not_le.mpr hbl
  obtain ⟨N, K, S, T, C, ak, ta, pl, cp, kd, fa, fb, bm, sx, sy, gh, mb, co, ff, fm, fw, hI, hPx, hPm, hS⟩ := hLI
  have hI2 := hI
  obtain ⟨hN1, hN, hKn, hSn, hpm, hhp, hbm, hhd⟩ := hI2
  have hC := (⟨hx, hb, hml, hown, hts⟩ : CallFix p m c cL_law 4 s args wsL_law RL)
  have hpl := pm_pl hN hpm
  have hAx := dX_A hDx0
  have hAm := dM_A hDm0
  refine lv_aload_n hx hb dL_law_490 rfl (lv_at hl 1 rfl) ?_
  have hse := search_eq (f0 := ff) (m0 := fm) (b1 := bm) (b2 := rbF (hbX pl kd fa fb N) mb K) hN hKn hhd (fun j hj => by rw [rbF_lt hj]; exact hbm j hj)
  refine cV (As := []) hC hKx hPx rfl rfl (kX0_many hPx  hN hKn hhd.2.1) [] (cwV 0 hts gL_law_X0_many rfl rfl rfl hdX0_many ⟨Nat.le_of_ble_eq_true rfl, Nat.le_of_ble_eq_true rfl⟩) rfl hl.1 rfl (Nat.le_of_ble_eq_true rfl) dL_law_491 ⟨Nat.le_of_ble_eq_true rfl, Nat.le_of_ble_eq_true rfl⟩ ?_
  refine lv_aload_n hx hb dL_law_494 rfl (lv_at hl 2 rfl) ?_
  have hDm : va_D (aL qm) (wM cm qm (nI N) (nI K) (nI S) ff fm fw ak ta gh kd fa fb sx sy mb co) := dM_aL (vD_same (by rfl) hDm0)
  refine cVw (As := []) hC hKm hPm rfl rfl (kX1_many hPm hDm  hN hKn hpl hhp) [_] (cwV 0 hts gL_law_X1_many rfl rfl rfl hdX1_many ⟨Nat.le_of_ble_eq_true rfl, Nat.le_of_ble_eq_true rfl⟩) rfl hl.1 rfl (Nat.le_of_ble_eq_true rfl) dL_law_495 ⟨Nat.le_of_ble_eq_true rfl, Nat.le_of_ble_eq_true rfl⟩ hS hAm (fun H2 locs2 hQm hz hkp hS2 => ?_)
  have hPx := keepP hPx (dX_aL (A := fun z => s.heap.size ≤ z) (vD_same (by rfl) hDx0)) hap hkp
  clear hPm hS hz hkp hDm
  have hPm := hQm
  have hS := hS2
  clear hQm hS2
  refine lv_icmp_eq (tgt := 684) hx hb dL_law_498 (by decide) (fun _ => ?_) (fun h => absurd (by rw [hse]) h)
  exact kk _ _ ⟨N, K, S, T, C, ak, ta, pl, cp, kd, fa, fb, bm, sx, sy, gh, _, co, _, _, _, hI, hPx, hPm, hS⟩
set_option maxHeartbeats 4000000 in
set_option maxRecDepth 100000 in
theorem lc_fewest {p : Program} {l : Launch} {e : Env} {s : State} {m : MethodId} {args : Array Value} {below : List Frame} {meth : Method} {c : Code} {H : Heap} {locs : List Loc} {Q : State → Prop} {ls : Array Slot} {b L i : Nat} {xs : Nat → Int32} {D : va_G} {cx cm : ClassId} {qx qm : Nat → Nat} (hLC : LC p s m c args b L xs D cx cm qx qm) (hi : i + 4 ≤ L) (hLI : LI s D cx cm qx qm H locs) (hl : lv_has ls 4 [(0, .ref b), (1, .ref (qx 0)), (2, .ref (qm 0)), (3, .int (nI i))]) (kk : ∀ (H : Heap) (locs : List Loc), LI s D cx cm qx qm H locs → W p l e room_1 s m args below meth c H locs 20 223 Q (F0 m 684 ls [])) : W p l e room_1 s m args below meth c H locs 20 223 Q (F0 m 503 ls []) := by
  obtain ⟨hx, hb, hml, hown, hts, hX, hbl, hL, hKx, hKm, hDx0, hDm0, hap⟩ := hLC
  have hbA : ¬ (fun z : Nat => s.heap.size ≤ z) b := Nat.not_le.mpr hbl
  obtain ⟨N, K, S, T, C, ak, ta, pl, cp, kd, fa, fb, bm, sx, sy, gh, mb, co, ff, fm, fw, hI, hPx, hPm, hS⟩ := hLI
  have hI2 := hI
  obtain ⟨hN1, hN, hKn, hSn, hpm, hhp, hbm, hhd⟩ := hI2
  have hC := (⟨hx, hb, hml, hown, hts⟩ : CallFix p m c cL_law 4 s args wsL_law RL)
  have hpl := pm_pl hN hpm
  have hAx := dX_A hDx0
  have hAm := dM_A hDm0
  refine lv_aload_n hx hb dL_law_503 rfl (lv_at hl 1 rfl) ?_
  have hse := search_eq (f0 := ff) (m0 := fm) (b1 := bm) (b2 := rbF (hbX pl kd fa fb N) mb K) hN hKn hhd (fun j hj => by rw [rbF_lt hj]; exact hbm j hj)
  refine cV (As := []) hC hKx hPx rfl rfl (kX0_fewest hPx  hN hKn hhd.2.1) [] (cwV 0 hts gL_law_X0_fewest rfl rfl rfl hdX0_fewest ⟨Nat.le_of_ble_eq_true rfl, Nat.le_of_ble_eq_true rfl⟩) rfl hl.1 rfl (Nat.le_of_ble_eq_true rfl) dL_law_504 ⟨Nat.le_of_ble_eq_true rfl, Nat.le_of_ble_eq_true rfl⟩ ?_
  refine lv_aload_n hx hb dL_law_507 rfl (lv_at hl 2 rfl) ?_
  have hDm : va_D (aL qm) (wM cm qm (nI N) (nI K) (nI S) ff fm fw ak ta gh kd fa fb sx sy mb co) := dM_aL (vD_same (by rfl) hDm0)
  refine cVw (As := []) hC hKm hPm rfl rfl (kX1_fewest hPm hDm  hN hKn hpl hhp) [_] (cwV 0 hts gL_law_X1_fewest rfl rfl rfl hdX1_fewest ⟨Nat.le_of_ble_eq_true rfl, Nat.le_of_ble_eq_true rfl⟩) rfl hl.1 rfl (Nat.le_of_ble_eq_true rfl) dL_law_508 ⟨Nat.le_of_ble_eq_true rfl, Nat.le_of_ble_eq_true rfl⟩ hS hAm (fun H2 locs2 hQm hz hkp hS2 => ?_)
  have hPx := keepP hPx (dX_aL (A := fun z => s.heap.size ≤ z) (vD_same (by rfl) hDx0)) hap hkp
  clear hPm hS hz hkp hDm
  have hPm := hQm
  have hS := hS2
  clear hQm hS2
  refine lv_icmp_eq (tgt := 684) hx hb dL_law_511 (by decide) (fun _ => ?_) (fun h => absurd (by rw [hse]) h)
  exact kk _ _ ⟨N, K, S, T, C, ak, ta, pl, cp, kd, fa, fb, bm, sx, sy, gh, _, co, _, _, _, hI, hPx, hPm, hS⟩
set_option maxHeartbeats 4000000 in
set_option maxRecDepth 100000 in
theorem lc_turns {p : Program} {l : Launch} {e : Env} {s : State} {m : MethodId} {args : Array Value} {below : List Frame} {meth : Method} {c : Code} {H : Heap} {locs : List Loc} {Q : State → Prop} {ls : Array Slot} {b L i : Nat} {xs : Nat → Int32} {D : va_G} {cx cm : ClassId} {qx qm : Nat → Nat} (hLC : LC p s m c args b L xs D cx cm qx qm) (hi : i + 4 ≤ L) (hLI : LI s D cx cm qx qm H locs) (hl : lv_has ls 4 [(0, .ref b), (1, .ref (qx 0)), (2, .ref (qm 0)), (3, .int (nI i))]) (kk : ∀ (H : Heap) (locs : List Loc), LI s D cx cm qx qm H locs → W p l e room_1 s m args below meth c H locs 20 223 Q (F0 m 684 ls [])) : W p l e room_1 s m args below meth c H locs 20 223 Q (F0 m 516 ls []) := by
  obtain ⟨hx, hb, hml, hown, hts, hX, hbl, hL, hKx, hKm, hDx0, hDm0, hap⟩ := hLC
  have hbA : ¬ (fun z : Nat => s.heap.size ≤ z) b := Nat.not_le.mpr hbl
  obtain ⟨N, K, S, T, C, ak, ta, pl, cp, kd, fa, fb, bm, sx, sy, gh, mb, co, ff, fm, fw, hI, hPx, hPm, hS⟩ := hLI
  have hI2 := hI
  obtain ⟨hN1, hN, hKn, hSn, hpm, hhp, hbm, hhd⟩ := hI2
  have hC := (⟨hx, hb, hml, hown, hts⟩ : CallFix p m c cL_law 4 s args wsL_law RL)
  have hpl := pm_pl hN hpm
  have hAx := dX_A hDx0
  have hAm := dM_A hDm0
  refine lv_aload_n hx hb dL_law_516 rfl (lv_at hl 1 rfl) ?_
  refine cV (As := []) hC hKx hPx rfl rfl (kX0_turns hPx  hN) [] (cwV 0 hts gL_law_X0_turns rfl rfl rfl hdX0_turns ⟨Nat.le_of_ble_eq_true rfl, Nat.le_of_ble_eq_true rfl⟩) rfl hl.1 rfl (Nat.le_of_ble_eq_true rfl) dL_law_517 ⟨Nat.le_of_ble_eq_true rfl, Nat.le_of_ble_eq_true rfl⟩ ?_
  refine lv_aload_n hx hb dL_law_520 rfl (lv_at hl 2 rfl) ?_
  refine cV (As := []) hC hKm hPm rfl rfl (kX1_turns hPm  hN) [_] (cwV 0 hts gL_law_X1_turns rfl rfl rfl hdX1_turns ⟨Nat.le_of_ble_eq_true rfl, Nat.le_of_ble_eq_true rfl⟩) rfl hl.1 rfl (Nat.le_of_ble_eq_true rfl) dL_law_521 ⟨Nat.le_of_ble_eq_true rfl, Nat.le_of_ble_eq_true rfl⟩ ?_
  refine lv_icmp_eq (tgt := 684) hx hb dL_law_524 (by decide) (fun _ => ?_) (fun h => absurd (turns_eq N (by omega)) h)
  exact kk _ _ ⟨N, K, S, T, C, ak, ta, pl, cp, kd, fa, fb, bm, sx, sy, gh, mb, co, ff, fm, fw, hI, hPx, hPm, hS⟩
set_option maxHeartbeats 4000000 in
set_option maxRecDepth 100000 in
theorem lc_pairs {p : Program} {l : Launch} {e : Env} {s : State} {m : MethodId} {args : Array Value} {below : List Frame} {meth : Method} {c : Code} {H : Heap} {locs : List Loc} {Q : State → Prop} {ls : Array Slot} {b L i : Nat} {xs : Nat → Int32} {D : va_G} {cx cm : ClassId} {qx qm : Nat → Nat} (hLC : LC p s m c args b L xs D cx cm qx qm) (hi : i + 4 ≤ L) (hLI : LI s D cx cm qx qm H locs) (hl : lv_has ls 4 [(0, .ref b), (1, .ref (qx 0)), (2, .ref (qm 0)), (3, .int (nI i))]) (kk : ∀ (H : Heap) (locs : List Loc), LI s D cx cm qx qm H locs → W p l e room_1 s m args below meth c H locs 20 223 Q (F0 m 684 ls [])) : W p l e room_1 s m args below meth c H locs 20 223 Q (F0 m 529 ls []) := by
  obtain ⟨hx, hb, hml, hown, hts, hX, hbl, hL, hKx, hKm, hDx0, hDm0, hap⟩ := hLC
  have hbA : ¬ (fun z : Nat => s.heap.size ≤ z) b := Nat.not_le.mpr hbl
  obtain ⟨N, K, S, T, C, ak, ta, pl, cp, kd, fa, fb, bm, sx, sy, gh, mb, co, ff, fm, fw, hI, hPx, hPm, hS⟩ := hLI
  have hI2 := hI
  obtain ⟨hN1, hN, hKn, hSn, hpm, hhp, hbm, hhd⟩ := hI2
  have hC := (⟨hx, hb, hml, hown, hts⟩ : CallFix p m c cL_law 4 s args wsL_law RL)
  have hpl := pm_pl hN hpm
  have hAx := dX_A hDx0
  have hAm := dM_A hDm0
  refine lv_aload_n hx hb dL_law_529 rfl (lv_at hl 1 rfl) ?_
  have hDx : va_D (aL qx) (wX cx qx (nI N) (nI T) (nI C) (nI K) (nI S) ak ta pl cp kd fa fb bm sx sy) := dX_aL (vD_same (by rfl) hDx0)
  refine cVw (As := []) hC hKx hPx rfl rfl (kX0_pairs hPx hDx  hN (pm_rg hpm) (pm_rgp hpm)) [] (cwV 0 hts gL_law_X0_pairs rfl rfl rfl hdX0_pairs ⟨Nat.le_of_ble_eq_true rfl, Nat.le_of_ble_eq_true rfl⟩) rfl hl.1 rfl (Nat.le_of_ble_eq_true rfl) dL_law_530 ⟨Nat.le_of_ble_eq_true rfl, Nat.le_of_ble_eq_true rfl⟩ hS hAx (fun H1 locs1 hQx hz hkp hS1 => ?_)
  have hPm := keepP hPm (dM_aL (A := fun z => s.heap.size ≤ z) (vD_same (by rfl) hDm0)) (fun z h1 h2 => hap z h2 h1) hkp
  clear hPx hS hz hkp hDx
  have hPx := hQx
  have hS := hS1
  clear hQx hS1
  refine lv_aload_n hx hb dL_law_533 rfl (lv_at hl 2 rfl) ?_
  have hDm : va_D (aL qm) (wM cm qm (nI N) (nI K) (nI S) ff fm fw ak ta gh kd fa fb sx sy mb co) := dM_aL (vD_same (by rfl) hDm0)
  refine cVw (As := []) hC hKm hPm rfl rfl (kX1_pairs hPm hDm  hN hpl (pm_rg hpm)) [_] (cwV 0 hts gL_law_X1_pairs rfl rfl rfl hdX1_pairs ⟨Nat.le_of_ble_eq_true rfl, Nat.le_of_ble_eq_true rfl⟩) rfl hl.1 rfl (Nat.le_of_ble_eq_true rfl) dL_law_534 ⟨Nat.le_of_ble_eq_true rfl, Nat.le_of_ble_eq_true rfl⟩ hS hAm (fun H2 locs2 hQm hz hkp hS2 => ?_)
  have hPx := keepP hPx (dX_aL (A := fun z => s.heap.size ≤ z) (vD_same (by rfl) hDx0)) hap hkp
  clear hPm hS hz hkp hDm
  have hPm := hQm
  have hS := hS2
  clear hQm hS2
  refine lv_icmp_eq (tgt := 684) hx hb dL_law_537 (by decide) (fun _ => ?_) (fun h => absurd (pairs_eq hN hpm) h)
  exact kk _ _ ⟨N, K, S, T, C, ak, ta, pl, _, kd, fa, fb, bm, sx, sy, gh, mb, _, ff, fm, fw, hI, hPx, hPm, hS⟩
set_option maxHeartbeats 4000000 in
set_option maxRecDepth 100000 in
theorem lc_come {p : Program} {l : Launch} {e : Env} {s : State} {m : MethodId} {args : Array Value} {below : List Frame} {meth : Method} {c : Code} {H : Heap} {locs : List Loc} {Q : State → Prop} {ls : Array Slot} {b L i : Nat} {xs : Nat → Int32} {D : va_G} {cx cm : ClassId} {qx qm : Nat → Nat} (hLC : LC p s m c args b L xs D cx cm qx qm) (hi : i + 4 ≤ L) (hLI : LI s D cx cm qx qm H locs) (hl : lv_has ls 4 [(0, .ref b), (1, .ref (qx 0)), (2, .ref (qm 0)), (3, .int (nI i))]) (kk : ∀ (H : Heap) (locs : List Loc), LI s D cx cm qx qm H locs → W p l e room_1 s m args below meth c H locs 20 223 Q (F0 m 684 ls [])) : W p l e room_1 s m args below meth c H locs 20 223 Q (F0 m 542 ls []) := by
  obtain ⟨hx, hb, hml, hown, hts, hX, hbl, hL, hKx, hKm, hDx0, hDm0, hap⟩ := hLC
  have hbA : ¬ (fun z : Nat => s.heap.size ≤ z) b := Nat.not_le.mpr hbl
  obtain ⟨N, K, S, T, C, ak, ta, pl, cp, kd, fa, fb, bm, sx, sy, gh, mb, co, ff, fm, fw, hI, hPx, hPm, hS⟩ := hLI
  have hI2 := hI
  obtain ⟨hN1, hN, hKn, hSn, hpm, hhp, hbm, hhd⟩ := hI2
  have hC := (⟨hx, hb, hml, hown, hts⟩ : CallFix p m c cL_law 4 s args wsL_law RL)
  have hpl := pm_pl hN hpm
  have hAx := dX_A hDx0
  have hAm := dM_A hDm0
  refine lv_aload_n hx hb dL_law_542 rfl (lv_at hl 1 rfl) ?_
  refine cV (As := []) hC hKx hPx rfl rfl (kX0_come hPx  hN hKn) [] (cwV 0 hts gL_law_X0_come rfl rfl rfl hdX0_come ⟨Nat.le_of_ble_eq_true rfl, Nat.le_of_ble_eq_true rfl⟩) rfl hl.1 rfl (Nat.le_of_ble_eq_true rfl) dL_law_543 ⟨Nat.le_of_ble_eq_true rfl, Nat.le_of_ble_eq_true rfl⟩ ?_
  refine lv_aload_n hx hb dL_law_546 rfl (lv_at hl 2 rfl) ?_
  have hDm : va_D (aL qm) (wM cm qm (nI N) (nI K) (nI S) ff fm fw ak ta gh kd fa fb sx sy mb co) := dM_aL (vD_same (by rfl) hDm0)
  refine cVw (As := []) hC hKm hPm rfl rfl (kX1_come hPm hDm  hN hKn hpl hhp) [_] (cwV 0 hts gL_law_X1_come rfl rfl rfl hdX1_come ⟨Nat.le_of_ble_eq_true rfl, Nat.le_of_ble_eq_true rfl⟩) rfl hl.1 rfl (Nat.le_of_ble_eq_true rfl) dL_law_547 ⟨Nat.le_of_ble_eq_true rfl, Nat.le_of_ble_eq_true rfl⟩ hS hAm (fun H2 locs2 hQm hz hkp hS2 => ?_)
  have hPx := keepP hPx (dX_aL (A := fun z => s.heap.size ≤ z) (vD_same (by rfl) hDx0)) hap hkp
  clear hPm hS hz hkp hDm
  have hPm := hQm
  have hS := hS2
  clear hQm hS2
  refine lv_icmp_eq (tgt := 684) hx hb dL_law_550 (by decide) (fun _ => ?_) (fun h => absurd (come_eq hN hhd (fun j hj => by rw [rbF_lt hj]; exact hbm j hj) N (Nat.le_refl _)) h)
  exact kk _ _ ⟨N, K, S, T, C, ak, ta, pl, cp, kd, fa, fb, bm, sx, sy, gh, _, co, ff, fm, fw, hI, hPx, hPm, hS⟩
set_option maxHeartbeats 4000000 in
set_option maxRecDepth 100000 in
theorem lc_step {p : Program} {l : Launch} {e : Env} {s : State} {m : MethodId} {args : Array Value} {below : List Frame} {meth : Method} {c : Code} {H : Heap} {locs : List Loc} {Q : State → Prop} {ls : Array Slot} {b L i : Nat} {xs : Nat → Int32} {D : va_G} {cx cm : ClassId} {qx qm : Nat → Nat} (hLC : LC p s m c args b L xs D cx cm qx qm) (hi : i + 4 ≤ L) (hLI : LI s D cx cm qx qm H locs) (hl : lv_has ls 4 [(0, .ref b), (1, .ref (qx 0)), (2, .ref (qm 0)), (3, .int (nI i))]) (kk : ∀ (H : Heap) (locs : List Loc), LI s D cx cm qx qm H locs → W p l e room_1 s m args below meth c H locs 20 223 Q (F0 m 684 ls [])) : W p l e room_1 s m args below meth c H locs 20 223 Q (F0 m 555 ls []) := by
  obtain ⟨hx, hb, hml, hown, hts, hX, hbl, hL, hKx, hKm, hDx0, hDm0, hap⟩ := hLC
  have hbA : ¬ (fun z : Nat => s.heap.size ≤ z) b := Nat.not_le.mpr hbl
  obtain ⟨N, K, S, T, C, ak, ta, pl, cp, kd, fa, fb, bm, sx, sy, gh, mb, co, ff, fm, fw, hI, hPx, hPm, hS⟩ := hLI
  have hI2 := hI
  obtain ⟨hN1, hN, hKn, hSn, hpm, hhp, hbm, hhd⟩ := hI2
  have hC := (⟨hx, hb, hml, hown, hts⟩ : CallFix p m c cL_law 4 s args wsL_law RL)
  have hpl := pm_pl hN hpm
  have hAx := dX_A hDx0
  have hAm := dM_A hDm0
  by_cases hc : ((-20 ≤ (xs (i + 1)) ∧ (xs (i + 1)) ≤ 20) ∧ (-20 ≤ (xs (i + 2)) ∧ (xs (i + 2)) ≤ 20)) ∧ S < 10
  · refine lv_aload_n hx hb dL_law_555 rfl (lv_at hl 1 rfl) ?_
    refine lv_aload_n hx hb dL_law_556 rfl (lv_at hl 0 rfl) ?_
    refine lv_iload_n hx hb dL_law_557 rfl (lv_at hl 3 rfl) ?_
    refine lv_iconst (v := 1) hx hb dL_law_558 (by decide) ?_
    refine lv_iadd hx hb dL_law_559 ?_
    refine tpI (y := nI (i + 1)) (nI_add i 1) ?_
    refine sldN hx hb hX hbl hbA hS (by omega) hL dL_law_560 ?_
    refine lv_aload_n hx hb dL_law_561 rfl (lv_at hl 0 rfl) ?_
    refine lv_iload_n hx hb dL_law_562 rfl (lv_at hl 3 rfl) ?_
    refine lv_iconst (v := 2) hx hb dL_law_563 (by decide) ?_
    refine lv_iadd hx hb dL_law_564 ?_
    refine tpI (y := nI (i + 2)) (nI_add i 2) ?_
    refine sldN hx hb hX hbl hbA hS (by omega) hL dL_law_565 ?_
    have hDx : va_D (aL qx) (wX cx qx (nI N) (nI T) (nI C) (nI K) (nI S) ak ta pl cp kd fa fb bm sx sy) := dX_aL (vD_same (by rfl) hDx0)
    refine cVw (As := [.int (xs (i + 1)), .int (xs (i + 2))]) hC hKx hPx rfl rfl (kX0_step hPx hDx (xs (i + 1)) (xs (i + 2)) hSn) [] (cwV 2 hts gL_law_X0_step rfl rfl rfl hdX0_step ⟨Nat.le_of_ble_eq_true rfl, Nat.le_of_ble_eq_true rfl⟩) rfl hl.1 rfl (Nat.le_of_ble_eq_true rfl) dL_law_566 ⟨Nat.le_of_ble_eq_true rfl, Nat.le_of_ble_eq_true rfl⟩ hS hAx (fun H1 locs1 hQx hz hkp hS1 => ?_)
    have hPm := keepP hPm (dM_aL (A := fun z => s.heap.size ≤ z) (vD_same (by rfl) hDm0)) (fun z h1 h2 => hap z h2 h1) hkp
    clear hPx hS hz hkp hDx
    have hPx := hQx
    have hS := hS1
    clear hQx hS1
    rw [if_pos hc] at hPx
    refine lv_aload_n hx hb dL_law_569 rfl (lv_at hl 2 rfl) ?_
    refine lv_aload_n hx hb dL_law_570 rfl (lv_at hl 0 rfl) ?_
    refine lv_iload_n hx hb dL_law_571 rfl (lv_at hl 3 rfl) ?_
    refine lv_iconst (v := 1) hx hb dL_law_572 (by decide) ?_
    refine lv_iadd hx hb dL_law_573 ?_
    refine tpI (y := nI (i + 1)) (nI_add i 1) ?_
    refine sldN hx hb hX hbl hbA hS (by omega) hL dL_law_574 ?_
    refine lv_aload_n hx hb dL_law_575 rfl (lv_at hl 0 rfl) ?_
    refine lv_iload_n hx hb dL_law_576 rfl (lv_at hl 3 rfl) ?_
    refine lv_iconst (v := 2) hx hb dL_law_577 (by decide) ?_
    refine lv_iadd hx hb dL_law_578 ?_
    refine tpI (y := nI (i + 2)) (nI_add i 2) ?_
    refine sldN hx hb hX hbl hbA hS (by omega) hL dL_law_579 ?_
    have hDm : va_D (aL qm) (wM cm qm (nI N) (nI K) (nI S) ff fm fw ak ta gh kd fa fb sx sy mb co) := dM_aL (vD_same (by rfl) hDm0)
    refine cVw (As := [.int (xs (i + 1)), .int (xs (i + 2))]) hC hKm hPm rfl rfl (kX1_step hPm hDm (xs (i + 1)) (xs (i + 2)) hSn) [_] (cwV 2 hts gL_law_X1_step rfl rfl rfl hdX1_step ⟨Nat.le_of_ble_eq_true rfl, Nat.le_of_ble_eq_true rfl⟩) rfl hl.1 rfl (Nat.le_of_ble_eq_true rfl) dL_law_580 ⟨Nat.le_of_ble_eq_true rfl, Nat.le_of_ble_eq_true rfl⟩ hS hAm (fun H2 locs2 hQm hz hkp hS2 => ?_)
    have hPx := keepP hPx (dX_aL (A := fun z => s.heap.size ≤ z) (vD_same (by rfl) hDx0)) hap hkp
    clear hPm hS hz hkp hDm
    have hPm := hQm
    have hS := hS2
    clear hQm hS2
    rw [if_pos hc] at hPm
    refine lv_icmp_eq (tgt := 684) hx hb dL_law_583 (by decide) (fun _ => ?_) (fun h => absurd rfl h)
    exact kk _ _ ⟨N, K, S + 1, T, C, ak, ta, pl, cp, kd, fa, fb, bm, _, _, gh, mb, co, ff, fm, fw, iv_S hI (by omega), hPx, hPm, hS⟩
  · refine lv_aload_n hx hb dL_law_555 rfl (lv_at hl 1 rfl) ?_
    refine lv_aload_n hx hb dL_law_556 rfl (lv_at hl 0 rfl) ?_
    refine lv_iload_n hx hb dL_law_557 rfl (lv_at hl 3 rfl) ?_
    refine lv_iconst (v := 1) hx hb dL_law_558 (by decide) ?_
    refine lv_iadd hx hb dL_law_559 ?_
    refine tpI (y := nI (i + 1)) (nI_add i 1) ?_
    refine sldN hx hb hX hbl hbA hS (by omega) hL dL_law_560 ?_
    refine lv_aload_n hx hb dL_law_561 rfl (lv_at hl 0 rfl) ?_
    refine lv_iload_n hx hb dL_law_562 rfl (lv_at hl 3 rfl) ?_
    refine lv_iconst (v := 2) hx hb dL_law_563 (by decide) ?_
    refine lv_iadd hx hb dL_law_564 ?_
    refine tpI (y := nI (i + 2)) (nI_add i 2) ?_
    refine sldN hx hb hX hbl hbA hS (by omega) hL dL_law_565 ?_
    have hDx : va_D (aL qx) (wX cx qx (nI N) (nI T) (nI C) (nI K) (nI S) ak ta pl cp kd fa fb bm sx sy) := dX_aL (vD_same (by rfl) hDx0)
    refine cVw (As := [.int (xs (i + 1)), .int (xs (i + 2))]) hC hKx hPx rfl rfl (kX0_step hPx hDx (xs (i + 1)) (xs (i + 2)) hSn) [] (cwV 2 hts gL_law_X0_step rfl rfl rfl hdX0_step ⟨Nat.le_of_ble_eq_true rfl, Nat.le_of_ble_eq_true rfl⟩) rfl hl.1 rfl (Nat.le_of_ble_eq_true rfl) dL_law_566 ⟨Nat.le_of_ble_eq_true rfl, Nat.le_of_ble_eq_true rfl⟩ hS hAx (fun H1 locs1 hQx hz hkp hS1 => ?_)
    have hPm := keepP hPm (dM_aL (A := fun z => s.heap.size ≤ z) (vD_same (by rfl) hDm0)) (fun z h1 h2 => hap z h2 h1) hkp
    clear hPx hS hz hkp hDx
    have hPx := hQx
    have hS := hS1
    clear hQx hS1
    rw [if_neg hc, ite_self] at hPx
    refine lv_aload_n hx hb dL_law_569 rfl (lv_at hl 2 rfl) ?_
    refine lv_aload_n hx hb dL_law_570 rfl (lv_at hl 0 rfl) ?_
    refine lv_iload_n hx hb dL_law_571 rfl (lv_at hl 3 rfl) ?_
    refine lv_iconst (v := 1) hx hb dL_law_572 (by decide) ?_
    refine lv_iadd hx hb dL_law_573 ?_
    refine tpI (y := nI (i + 1)) (nI_add i 1) ?_
    refine sldN hx hb hX hbl hbA hS (by omega) hL dL_law_574 ?_
    refine lv_aload_n hx hb dL_law_575 rfl (lv_at hl 0 rfl) ?_
    refine lv_iload_n hx hb dL_law_576 rfl (lv_at hl 3 rfl) ?_
    refine lv_iconst (v := 2) hx hb dL_law_577 (by decide) ?_
    refine lv_iadd hx hb dL_law_578 ?_
    refine tpI (y := nI (i + 2)) (nI_add i 2) ?_
    refine sldN hx hb hX hbl hbA hS (by omega) hL dL_law_579 ?_
    have hDm : va_D (aL qm) (wM cm qm (nI N) (nI K) (nI S) ff fm fw ak ta gh kd fa fb sx sy mb co) := dM_aL (vD_same (by rfl) hDm0)
    refine cVw (As := [.int (xs (i + 1)), .int (xs (i + 2))]) hC hKm hPm rfl rfl (kX1_step hPm hDm (xs (i + 1)) (xs (i + 2)) hSn) [_] (cwV 2 hts gL_law_X1_step rfl rfl rfl hdX1_step ⟨Nat.le_of_ble_eq_true rfl, Nat.le_of_ble_eq_true rfl⟩) rfl hl.1 rfl (Nat.le_of_ble_eq_true rfl) dL_law_580 ⟨Nat.le_of_ble_eq_true rfl, Nat.le_of_ble_eq_true rfl⟩ hS hAm (fun H2 locs2 hQm hz hkp hS2 => ?_)
    have hPx := keepP hPx (dX_aL (A := fun z => s.heap.size ≤ z) (vD_same (by rfl) hDx0)) hap hkp
    clear hPm hS hz hkp hDm
    have hPm := hQm
    have hS := hS2
    clear hQm hS2
    rw [if_neg hc, ite_self] at hPm
    refine lv_icmp_eq (tgt := 684) hx hb dL_law_583 (by decide) (fun _ => ?_) (fun h => absurd rfl h)
    exact kk _ _ ⟨N, K, S, T, C, ak, ta, pl, cp, kd, fa, fb, bm, sx, sy, gh, mb, co, ff, fm, fw, hI, hPx, hPm, hS⟩
set_option maxHeartbeats 4000000 in
set_option maxRecDepth 100000 in
theorem lc_clear {p : Program} {l : Launch} {e : Env} {s : State} {m : MethodId} {args : Array Value} {below : List Frame} {meth : Method} {c : Code} {H : Heap} {locs : List Loc} {Q : State → Prop} {ls : Array Slot} {b L i : Nat} {xs : Nat → Int32} {D : va_G} {cx cm : ClassId} {qx qm : Nat → Nat} (hLC : LC p s m c args b L xs D cx cm qx qm) (hi : i + 4 ≤ L) (hLI : LI s D cx cm qx qm H locs) (hl : lv_has ls 4 [(0, .ref b), (1, .ref (qx 0)), (2, .ref (qm 0)), (3, .int (nI i))]) (kk : ∀ (H : Heap) (locs : List Loc), LI s D cx cm qx qm H locs → W p l e room_1 s m args below meth c H locs 20 223 Q (F0 m 684 ls [])) : W p l e room_1 s m args below meth c H locs 20 223 Q (F0 m 588 ls []) := by
  obtain ⟨hx, hb, hml, hown, hts, hX, hbl, hL, hKx, hKm, hDx0, hDm0, hap⟩ := hLC
  have hbA : ¬ (fun z : Nat => s.heap.size ≤ z) b := Nat.not_le.mpr hbl
  obtain ⟨N, K, S, T, C, ak, ta, pl, cp, kd, fa, fb, bm, sx, sy, gh, mb, co, ff, fm, fw, hI, hPx, hPm, hS⟩ := hLI
  have hI2 := hI
  obtain ⟨hN1, hN, hKn, hSn, hpm, hhp, hbm, hhd⟩ := hI2
  have hC := (⟨hx, hb, hml, hown, hts⟩ : CallFix p m c cL_law 4 s args wsL_law RL)
  have hpl := pm_pl hN hpm
  have hAx := dX_A hDx0
  have hAm := dM_A hDm0
  refine lv_aload_n hx hb dL_law_588 rfl (lv_at hl 1 rfl) ?_
  have hDx : va_D (aL qx) (wX cx qx (nI N) (nI T) (nI C) (nI K) (nI S) ak ta pl cp kd fa fb bm sx sy) := dX_aL (vD_same (by rfl) hDx0)
  refine cVw (As := []) hC hKx hPx rfl rfl (kX0_clear hPx hDx  ) [] (cwV 0 hts gL_law_X0_clear rfl rfl rfl hdX0_clear ⟨Nat.le_of_ble_eq_true rfl, Nat.le_of_ble_eq_true rfl⟩) rfl hl.1 rfl (Nat.le_of_ble_eq_true rfl) dL_law_589 ⟨Nat.le_of_ble_eq_true rfl, Nat.le_of_ble_eq_true rfl⟩ hS hAx (fun H1 locs1 hQx hz hkp hS1 => ?_)
  have hPm := keepP hPm (dM_aL (A := fun z => s.heap.size ≤ z) (vD_same (by rfl) hDm0)) (fun z h1 h2 => hap z h2 h1) hkp
  clear hPx hS hz hkp hDx
  have hPx := hQx
  have hS := hS1
  clear hQx hS1
  refine lv_aload_n hx hb dL_law_592 rfl (lv_at hl 2 rfl) ?_
  have hDm : va_D (aL qm) (wM cm qm (nI N) (nI K) (nI S) ff fm fw ak ta gh kd fa fb sx sy mb co) := dM_aL (vD_same (by rfl) hDm0)
  refine cVw (As := []) hC hKm hPm rfl rfl (kX1_clear hPm hDm  ) [_] (cwV 0 hts gL_law_X1_clear rfl rfl rfl hdX1_clear ⟨Nat.le_of_ble_eq_true rfl, Nat.le_of_ble_eq_true rfl⟩) rfl hl.1 rfl (Nat.le_of_ble_eq_true rfl) dL_law_593 ⟨Nat.le_of_ble_eq_true rfl, Nat.le_of_ble_eq_true rfl⟩ hS hAm (fun H2 locs2 hQm hz hkp hS2 => ?_)
  have hPx := keepP hPx (dX_aL (A := fun z => s.heap.size ≤ z) (vD_same (by rfl) hDx0)) hap hkp
  clear hPm hS hz hkp hDm
  have hPm := hQm
  have hS := hS2
  clear hQm hS2
  refine lv_icmp_eq (tgt := 684) hx hb dL_law_596 (by decide) (fun _ => ?_) (fun h => absurd rfl h)
  exact kk _ _ ⟨N, K, 0, T, C, ak, ta, pl, cp, kd, fa, fb, bm, sx, sy, gh, mb, co, ff, fm, fw, iv_S hI (Nat.zero_le _), hPx, hPm, hS⟩
set_option maxHeartbeats 4000000 in
set_option maxRecDepth 100000 in
theorem lc_stray {p : Program} {l : Launch} {e : Env} {s : State} {m : MethodId} {args : Array Value} {below : List Frame} {meth : Method} {c : Code} {H : Heap} {locs : List Loc} {Q : State → Prop} {ls : Array Slot} {b L i : Nat} {xs : Nat → Int32} {D : va_G} {cx cm : ClassId} {qx qm : Nat → Nat} (hLC : LC p s m c args b L xs D cx cm qx qm) (hi : i + 4 ≤ L) (hLI : LI s D cx cm qx qm H locs) (hl : lv_has ls 4 [(0, .ref b), (1, .ref (qx 0)), (2, .ref (qm 0)), (3, .int (nI i))]) (kk : ∀ (H : Heap) (locs : List Loc), LI s D cx cm qx qm H locs → W p l e room_1 s m args below meth c H locs 20 223 Q (F0 m 684 ls [])) : W p l e room_1 s m args below meth c H locs 20 223 Q (F0 m 601 ls []) := by
  obtain ⟨hx, hb, hml, hown, hts, hX, hbl, hL, hKx, hKm, hDx0, hDm0, hap⟩ := hLC
  have hbA : ¬ (fun z : Nat => s.heap.size ≤ z) b := Nat.not_le.mpr hbl
  obtain ⟨N, K, S, T, C, ak, ta, pl, cp, kd, fa, fb, bm, sx, sy, gh, mb, co, ff, fm, fw, hI, hPx, hPm, hS⟩ := hLI
  have hI2 := hI
  obtain ⟨hN1, hN, hKn, hSn, hpm, hhp, hbm, hhd⟩ := hI2
  have hC := (⟨hx, hb, hml, hown, hts⟩ : CallFix p m c cL_law 4 s args wsL_law RL)
  have hpl := pm_pl hN hpm
  have hAx := dX_A hDx0
  have hAm := dM_A hDm0
  refine lv_aload_n hx hb dL_law_601 rfl (lv_at hl 1 rfl) ?_
  refine lv_aload_n hx hb dL_law_602 rfl (lv_at hl 0 rfl) ?_
  refine lv_iload_n hx hb dL_law_603 rfl (lv_at hl 3 rfl) ?_
  refine lv_iconst (v := 1) hx hb dL_law_604 (by decide) ?_
  refine lv_iadd hx hb dL_law_605 ?_
  refine tpI (y := nI (i + 1)) (nI_add i 1) ?_
  refine sldN hx hb hX hbl hbA hS (by omega) hL dL_law_606 ?_
  refine cV (As := [.int (xs (i + 1))]) hC hKx hPx rfl rfl (kX0_stray hPx (xs (i + 1)) hSn) [] (cwV 1 hts gL_law_X0_stray rfl rfl rfl hdX0_stray ⟨Nat.le_of_ble_eq_true rfl, Nat.le_of_ble_eq_true rfl⟩) rfl hl.1 rfl (Nat.le_of_ble_eq_true rfl) dL_law_607 ⟨Nat.le_of_ble_eq_true rfl, Nat.le_of_ble_eq_true rfl⟩ ?_
  refine lv_aload_n hx hb dL_law_610 rfl (lv_at hl 2 rfl) ?_
  refine lv_aload_n hx hb dL_law_611 rfl (lv_at hl 0 rfl) ?_
  refine lv_iload_n hx hb dL_law_612 rfl (lv_at hl 3 rfl) ?_
  refine lv_iconst (v := 1) hx hb dL_law_613 (by decide) ?_
  refine lv_iadd hx hb dL_law_614 ?_
  refine tpI (y := nI (i + 1)) (nI_add i 1) ?_
  refine sldN hx hb hX hbl hbA hS (by omega) hL dL_law_615 ?_
  refine cV (As := [.int (xs (i + 1))]) hC hKm hPm rfl rfl (kX1_stray hPm (xs (i + 1)) hSn) [_] (cwV 1 hts gL_law_X1_stray rfl rfl rfl hdX1_stray ⟨Nat.le_of_ble_eq_true rfl, Nat.le_of_ble_eq_true rfl⟩) rfl hl.1 rfl (Nat.le_of_ble_eq_true rfl) dL_law_616 ⟨Nat.le_of_ble_eq_true rfl, Nat.le_of_ble_eq_true rfl⟩ ?_
  refine lv_icmp_eq (tgt := 684) hx hb dL_law_619 (by decide) (fun _ => ?_) (fun h => absurd rfl h)
  exact kk _ _ ⟨N, K, S, T, C, ak, ta, pl, cp, kd, fa, fb, bm, sx, sy, gh, mb, co, ff, fm, fw, hI, hPx, hPm, hS⟩
set_option maxHeartbeats 4000000 in
set_option maxRecDepth 100000 in
theorem lc_straight {p : Program} {l : Launch} {e : Env} {s : State} {m : MethodId} {args : Array Value} {below : List Frame} {meth : Method} {c : Code} {H : Heap} {locs : List Loc} {Q : State → Prop} {ls : Array Slot} {b L i : Nat} {xs : Nat → Int32} {D : va_G} {cx cm : ClassId} {qx qm : Nat → Nat} (hLC : LC p s m c args b L xs D cx cm qx qm) (hi : i + 4 ≤ L) (hLI : LI s D cx cm qx qm H locs) (hl : lv_has ls 4 [(0, .ref b), (1, .ref (qx 0)), (2, .ref (qm 0)), (3, .int (nI i))]) (kk : ∀ (H : Heap) (locs : List Loc), LI s D cx cm qx qm H locs → W p l e room_1 s m args below meth c H locs 20 223 Q (F0 m 684 ls [])) : W p l e room_1 s m args below meth c H locs 20 223 Q (F0 m 624 ls []) := by
  obtain ⟨hx, hb, hml, hown, hts, hX, hbl, hL, hKx, hKm, hDx0, hDm0, hap⟩ := hLC
  have hbA : ¬ (fun z : Nat => s.heap.size ≤ z) b := Nat.not_le.mpr hbl
  obtain ⟨N, K, S, T, C, ak, ta, pl, cp, kd, fa, fb, bm, sx, sy, gh, mb, co, ff, fm, fw, hI, hPx, hPm, hS⟩ := hLI
  have hI2 := hI
  obtain ⟨hN1, hN, hKn, hSn, hpm, hhp, hbm, hhd⟩ := hI2
  have hC := (⟨hx, hb, hml, hown, hts⟩ : CallFix p m c cL_law 4 s args wsL_law RL)
  have hpl := pm_pl hN hpm
  have hAx := dX_A hDx0
  have hAm := dM_A hDm0
  refine lv_aload_n hx hb dL_law_624 rfl (lv_at hl 1 rfl) ?_
  refine lv_aload_n hx hb dL_law_625 rfl (lv_at hl 0 rfl) ?_
  refine lv_iload_n hx hb dL_law_626 rfl (lv_at hl 3 rfl) ?_
  refine lv_iconst (v := 1) hx hb dL_law_627 (by decide) ?_
  refine lv_iadd hx hb dL_law_628 ?_
  refine tpI (y := nI (i + 1)) (nI_add i 1) ?_
  refine sldN hx hb hX hbl hbA hS (by omega) hL dL_law_629 ?_
  refine cV (As := [.int (xs (i + 1))]) hC hKx hPx rfl rfl (kX0_straight hPx (xs (i + 1)) hSn) [] (cwV 1 hts gL_law_X0_straight rfl rfl rfl hdX0_straight ⟨Nat.le_of_ble_eq_true rfl, Nat.le_of_ble_eq_true rfl⟩) rfl hl.1 rfl (Nat.le_of_ble_eq_true rfl) dL_law_630 ⟨Nat.le_of_ble_eq_true rfl, Nat.le_of_ble_eq_true rfl⟩ ?_
  refine lv_aload_n hx hb dL_law_633 rfl (lv_at hl 2 rfl) ?_
  refine lv_aload_n hx hb dL_law_634 rfl (lv_at hl 0 rfl) ?_
  refine lv_iload_n hx hb dL_law_635 rfl (lv_at hl 3 rfl) ?_
  refine lv_iconst (v := 1) hx hb dL_law_636 (by decide) ?_
  refine lv_iadd hx hb dL_law_637 ?_
  refine tpI (y := nI (i + 1)) (nI_add i 1) ?_
  refine sldN hx hb hX hbl hbA hS (by omega) hL dL_law_638 ?_
  refine cV (As := [.int (xs (i + 1))]) hC hKm hPm rfl rfl (kX1_straight hPm (xs (i + 1)) hSn) [_] (cwV 1 hts gL_law_X1_straight rfl rfl rfl hdX1_straight ⟨Nat.le_of_ble_eq_true rfl, Nat.le_of_ble_eq_true rfl⟩) rfl hl.1 rfl (Nat.le_of_ble_eq_true rfl) dL_law_639 ⟨Nat.le_of_ble_eq_true rfl, Nat.le_of_ble_eq_true rfl⟩ ?_
  refine lv_icmp_eq (tgt := 684) hx hb dL_law_642 (by decide) (fun _ => ?_) (fun h => absurd rfl h)
  exact kk _ _ ⟨N, K, S, T, C, ak, ta, pl, cp, kd, fa, fb, bm, sx, sy, gh, mb, co, ff, fm, fw, hI, hPx, hPm, hS⟩
set_option maxHeartbeats 4000000 in
set_option maxRecDepth 100000 in
theorem lc_count {p : Program} {l : Launch} {e : Env} {s : State} {m : MethodId} {args : Array Value} {below : List Frame} {meth : Method} {c : Code} {H : Heap} {locs : List Loc} {Q : State → Prop} {ls : Array Slot} {b L i : Nat} {xs : Nat → Int32} {D : va_G} {cx cm : ClassId} {qx qm : Nat → Nat} (hLC : LC p s m c args b L xs D cx cm qx qm) (hi : i + 4 ≤ L) (hLI : LI s D cx cm qx qm H locs) (hl : lv_has ls 4 [(0, .ref b), (1, .ref (qx 0)), (2, .ref (qm 0)), (3, .int (nI i))]) (kk : ∀ (H : Heap) (locs : List Loc), LI s D cx cm qx qm H locs → W p l e room_1 s m args below meth c H locs 20 223 Q (F0 m 684 ls [])) : W p l e room_1 s m args below meth c H locs 20 223 Q (F0 m 647 ls []) := by
  obtain ⟨hx, hb, hml, hown, hts, hX, hbl, hL, hKx, hKm, hDx0, hDm0, hap⟩ := hLC
  have hbA : ¬ (fun z : Nat => s.heap.size ≤ z) b := Nat.not_le.mpr hbl
  obtain ⟨N, K, S, T, C, ak, ta, pl, cp, kd, fa, fb, bm, sx, sy, gh, mb, co, ff, fm, fw, hI, hPx, hPm, hS⟩ := hLI
  have hI2 := hI
  obtain ⟨hN1, hN, hKn, hSn, hpm, hhp, hbm, hhd⟩ := hI2
  have hC := (⟨hx, hb, hml, hown, hts⟩ : CallFix p m c cL_law 4 s args wsL_law RL)
  have hpl := pm_pl hN hpm
  have hAx := dX_A hDx0
  have hAm := dM_A hDm0
  refine lv_aload_n hx hb dL_law_647 rfl (lv_at hl 1 rfl) ?_
  refine lv_aload_n hx hb dL_law_648 rfl (lv_at hl 0 rfl) ?_
  refine lv_iload_n hx hb dL_law_649 rfl (lv_at hl 3 rfl) ?_
  refine lv_iconst (v := 1) hx hb dL_law_650 (by decide) ?_
  refine lv_iadd hx hb dL_law_651 ?_
  refine tpI (y := nI (i + 1)) (nI_add i 1) ?_
  refine sldN hx hb hX hbl hbA hS (by omega) hL dL_law_652 ?_
  refine cV (As := [.int (xs (i + 1))]) hC hKx hPx rfl rfl (kX0_count hPx (xs (i + 1)) ) [] (cwV 1 hts gL_law_X0_count rfl rfl rfl hdX0_count ⟨Nat.le_of_ble_eq_true rfl, Nat.le_of_ble_eq_true rfl⟩) rfl hl.1 rfl (Nat.le_of_ble_eq_true rfl) dL_law_653 ⟨Nat.le_of_ble_eq_true rfl, Nat.le_of_ble_eq_true rfl⟩ ?_
  refine lv_aload_n hx hb dL_law_656 rfl (lv_at hl 2 rfl) ?_
  refine lv_aload_n hx hb dL_law_657 rfl (lv_at hl 0 rfl) ?_
  refine lv_iload_n hx hb dL_law_658 rfl (lv_at hl 3 rfl) ?_
  refine lv_iconst (v := 1) hx hb dL_law_659 (by decide) ?_
  refine lv_iadd hx hb dL_law_660 ?_
  refine tpI (y := nI (i + 1)) (nI_add i 1) ?_
  refine sldN hx hb hX hbl hbA hS (by omega) hL dL_law_661 ?_
  refine cV (As := [.int (xs (i + 1))]) hC hKm hPm rfl rfl (kX1_count hPm (xs (i + 1)) hN) [_] (cwV 1 hts gL_law_X1_count rfl rfl rfl hdX1_count ⟨Nat.le_of_ble_eq_true rfl, Nat.le_of_ble_eq_true rfl⟩) rfl hl.1 rfl (Nat.le_of_ble_eq_true rfl) dL_law_662 ⟨Nat.le_of_ble_eq_true rfl, Nat.le_of_ble_eq_true rfl⟩ ?_
  refine lv_icmp_eq (tgt := 684) hx hb dL_law_665 (by decide) (fun _ => ?_) (fun h => absurd (by rw [count_eq hN hhd]) h)
  exact kk _ _ ⟨N, K, S, T, C, ak, ta, pl, cp, kd, fa, fb, bm, sx, sy, gh, mb, co, ff, fm, fw, hI, hPx, hPm, hS⟩
set_option maxHeartbeats 4000000 in
set_option maxRecDepth 100000 in
theorem lc_trace {p : Program} {l : Launch} {e : Env} {s : State} {m : MethodId} {args : Array Value} {below : List Frame} {meth : Method} {c : Code} {H : Heap} {locs : List Loc} {Q : State → Prop} {ls : Array Slot} {b L i : Nat} {xs : Nat → Int32} {D : va_G} {cx cm : ClassId} {qx qm : Nat → Nat} (hLC : LC p s m c args b L xs D cx cm qx qm) (hi : i + 4 ≤ L) (hLI : LI s D cx cm qx qm H locs) (hl : lv_has ls 4 [(0, .ref b), (1, .ref (qx 0)), (2, .ref (qm 0)), (3, .int (nI i))]) (kk : ∀ (H : Heap) (locs : List Loc), LI s D cx cm qx qm H locs → W p l e room_1 s m args below meth c H locs 20 223 Q (F0 m 684 ls [])) : W p l e room_1 s m args below meth c H locs 20 223 Q (F0 m 670 ls []) := by
  obtain ⟨hx, hb, hml, hown, hts, hX, hbl, hL, hKx, hKm, hDx0, hDm0, hap⟩ := hLC
  have hbA : ¬ (fun z : Nat => s.heap.size ≤ z) b := Nat.not_le.mpr hbl
  obtain ⟨N, K, S, T, C, ak, ta, pl, cp, kd, fa, fb, bm, sx, sy, gh, mb, co, ff, fm, fw, hI, hPx, hPm, hS⟩ := hLI
  have hI2 := hI
  obtain ⟨hN1, hN, hKn, hSn, hpm, hhp, hbm, hhd⟩ := hI2
  have hC := (⟨hx, hb, hml, hown, hts⟩ : CallFix p m c cL_law 4 s args wsL_law RL)
  have hpl := pm_pl hN hpm
  have hAx := dX_A hDx0
  have hAm := dM_A hDm0
  refine lv_aload_n hx hb dL_law_670 rfl (lv_at hl 1 rfl) ?_
  refine cVw (As := []) hC hKx hPx rfl rfl (kX0_trace hPx  ) [] (cwV 0 hts gL_law_X0_trace rfl rfl rfl hdX0_trace ⟨Nat.le_of_ble_eq_true rfl, Nat.le_of_ble_eq_true rfl⟩) rfl hl.1 rfl (Nat.le_of_ble_eq_true rfl) dL_law_671 ⟨Nat.le_of_ble_eq_true rfl, Nat.le_of_ble_eq_true rfl⟩ hS (fun _ h => False.elim h) (fun H1 locs1 hQx hz hkp hS1 => ?_)
  subst hQx
  have hS := hS1
  refine lv_aload_n hx hb dL_law_674 rfl (lv_at hl 2 rfl) ?_
  refine cVw (As := []) hC hKm hPm rfl rfl (kX1_trace hPm  ) [_] (cwV 0 hts gL_law_X1_trace rfl rfl rfl hdX1_trace ⟨Nat.le_of_ble_eq_true rfl, Nat.le_of_ble_eq_true rfl⟩) rfl hl.1 rfl (Nat.le_of_ble_eq_true rfl) dL_law_675 ⟨Nat.le_of_ble_eq_true rfl, Nat.le_of_ble_eq_true rfl⟩ hS (fun _ h => False.elim h) (fun H2 locs2 hQm hz hkp hS2 => ?_)
  subst hQm
  have hS := hS2
  refine W.lcmp hx hb dL_law_678 ?_
  refine lv_if_eq (tgt := 684) hx hb dL_law_679 (by decide) (fun _ => ?_) (fun h => absurd (by unfold lg_cmp; simp) h)
  exact kk _ _ ⟨N, K, S, T, C, ak, ta, pl, cp, kd, fa, fb, bm, sx, sy, gh, mb, co, ff, fm, fw, hI, hPx, hPm, hS⟩
