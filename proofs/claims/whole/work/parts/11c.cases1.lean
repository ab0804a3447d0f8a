set_option maxHeartbeats 4000000 in
set_option maxRecDepth 100000 in
theorem lc_things {p : Program} {l : Launch} {e : Env} {s : State} {m : MethodId} {args : Array Value} {below : List Frame} {meth : Method} {c : Code} {H : Heap} {locs : List Loc} {Q : State → Prop} {ls : Array Slot} {b L i : Nat} {xs : Nat → Int32} {D : va_G} {cx cm : ClassId} {qx qm : Nat → Nat} (hLC : LC p s m c args b L xs D cx cm qx qm) (hi : i + 4 ≤ L) (hLI : LI s D cx cm qx qm H locs) (hl : lv_has ls 4 [(0, .ref b), (1, .ref (qx 0)), (2, .ref (qm 0)), (3, .int (nI i))]) (kk : ∀ (H : Heap) (locs : List Loc), LI s D cx cm qx qm H locs → W p l e room_1 s m args below meth c H locs 20 223 Q (F0 m 684 ls [])) : W p l e room_1 s m args below meth c H locs 20 223 Q (F0 m 148 ls []) := by
  obtain ⟨hx, hb, hml, hown, hts, hX, hbl, hL, hKx, hKm, hDx0, hDm0, hap⟩ := hLC
  have hbA : ¬ (fun z : Nat => s.heap.size ≤ z) b := Nat.not_le.mpr hbl
  obtain ⟨N, K, S, T, C, ak, ta, pl, cp, kd, fa, fb, bm, sx, sy, gh, mb, co, ff, fm, fw, hI, hPx, hPm, hS⟩ := hLI
  have hI2 := hI
  obtain ⟨hN1, hN, hKn, hSn, hpm, hhp, hbm, hhd⟩ := hI2
  have hC := (⟨hx, hb, hml, hown, hts⟩ : CallFix p m c cL_law 4 s args wsL_law RL)
  have hpl := pm_pl hN hpm
  have hAx := dX_A hDx0
  have hAm := dM_A hDm0
  by_cases hc : 1 ≤ (xs (i + 1)) ∧ (xs (i + 1)) ≤ 12
  · refine lv_aload_n hx hb dL_law_148 rfl (lv_at hl 1 rfl) ?_
    refine lv_aload_n hx hb dL_law_149 rfl (lv_at hl 0 rfl) ?_
    refine lv_iload_n hx hb dL_law_150 rfl (lv_at hl 3 rfl) ?_
    refine lv_iconst (v := 1) hx hb dL_law_151 (by decide) ?_
    refine lv_iadd hx hb dL_law_152 ?_
    refine tpI (y := nI (i + 1)) (nI_add i 1) ?_
    refine sldN hx hb hX hbl hbA hS (by omega) hL dL_law_153 ?_
    have hDx : va_D (aL qx) (wX cx qx (nI N) (nI T) (nI C) (nI K) (nI S) ak ta pl cp kd fa fb bm sx sy) := dX_aL (vD_same (by rfl) hDx0)
    refine cVw (As := [.int (xs (i + 1))]) hC hKx hPx rfl rfl (kX0_things hPx hDx (xs (i + 1)) ) [] (cwV 1 hts gL_law_X0_things rfl rfl rfl hdX0_things ⟨Nat.le_of_ble_eq_true rfl, Nat.le_of_ble_eq_true rfl⟩) rfl hl.1 rfl (Nat.le_of_ble_eq_true rfl) dL_law_154 ⟨Nat.le_of_ble_eq_true rfl, Nat.le_of_ble_eq_true rfl⟩ hS hAx (fun H1 locs1 hQx hz hkp hS1 => ?_)
    have hPm := keepP hPm (dM_aL (A := fun z => s.heap.size ≤ z) (vD_same (by rfl) hDm0)) (fun z h1 h2 => hap z h2 h1) hkp
    clear hPx hS hz hkp hDx
    have hPx := hQx
    have hS := hS1
    clear hQx hS1
    rw [if_pos hc] at hPx
    refine lv_aload_n hx hb dL_law_157 rfl (lv_at hl 2 rfl) ?_
    refine lv_aload_n hx hb dL_law_158 rfl (lv_at hl 0 rfl) ?_
    refine lv_iload_n hx hb dL_law_159 rfl (lv_at hl 3 rfl) ?_
    refine lv_iconst (v := 1) hx hb dL_law_160 (by decide) ?_
    refine lv_iadd hx hb dL_law_161 ?_
    refine tpI (y := nI (i + 1)) (nI_add i 1) ?_
    refine sldN hx hb hX hbl hbA hS (by omega) hL dL_law_162 ?_
    have hDm : va_D (aL qm) (wM cm qm (nI N) (nI K) (nI S) ff fm fw ak ta gh kd fa fb sx sy mb co) := dM_aL (vD_same (by rfl) hDm0)
    refine cVw (As := [.int (xs (i + 1))]) hC hKm hPm rfl rfl (kX1_things hPm hDm (xs (i + 1)) ) [_] (cwV 1 hts gL_law_X1_things rfl rfl rfl hdX1_things ⟨Nat.le_of_ble_eq_true rfl, Nat.le_of_ble_eq_true rfl⟩) rfl hl.1 rfl (Nat.le_of_ble_eq_true rfl) dL_law_163 ⟨Nat.le_of_ble_eq_true rfl, Nat.le_of_ble_eq_true rfl⟩ hS hAm (fun H2 locs2 hQm hz hkp hS2 => ?_)
    have hPx := keepP hPx (dX_aL (A := fun z => s.heap.size ≤ z) (vD_same (by rfl) hDx0)) hap hkp
    clear hPm hS hz hkp hDm
    have hPm := hQm
    have hS := hS2
    clear hQm hS2
    rw [if_pos hc] at hPm
    obtain ⟨j, hj1, hj2, ej⟩ := in112 (Int32.not_lt.mpr hc.1) hc.2
    rw [ej] at hPx hPm
    refine lv_icmp_eq (tgt := 684) hx hb dL_law_166 (by decide) (fun _ => ?_) (fun h => absurd rfl h)
    exact kk _ _ ⟨j, 0, S, 0, 0, ak, idF ta 12, idF pl 12, cp, kd, fa, fb, bm, sx, sy, fiF (-1) gh 12, mb, co, ff, fm, fw, ⟨hj1, hj2, Nat.zero_le _, hSn, pm_id, fun h hh => absurd hh (by omega), fun h hh => absurd hh (by omega), hd_0 hj2⟩, hPx, hPm, hS⟩
  · refine lv_aload_n hx hb dL_law_148 rfl (lv_at hl 1 rfl) ?_
    refine lv_aload_n hx hb dL_law_149 rfl (lv_at hl 0 rfl) ?_
    refine lv_iload_n hx hb dL_law_150 rfl (lv_at hl 3 rfl) ?_
    refine lv_iconst (v := 1) hx hb dL_law_151 (by decide) ?_
    refine lv_iadd hx hb dL_law_152 ?_
    refine tpI (y := nI (i + 1)) (nI_add i 1) ?_
    refine sldN hx hb hX hbl hbA hS (by omega) hL dL_law_153 ?_
    have hDx : va_D (aL qx) (wX cx qx (nI N) (nI T) (nI C) (nI K) (nI S) ak ta pl cp kd fa fb bm sx sy) := dX_aL (vD_same (by rfl) hDx0)
    refine cVw (As := [.int (xs (i + 1))]) hC hKx hPx rfl rfl (kX0_things hPx hDx (xs (i + 1)) ) [] (cwV 1 hts gL_law_X0_things rfl rfl rfl hdX0_things ⟨Nat.le_of_ble_eq_true rfl, Nat.le_of_ble_eq_true rfl⟩) rfl hl.1 rfl (Nat.le_of_ble_eq_true rfl) dL_law_154 ⟨Nat.le_of_ble_eq_true rfl, Nat.le_of_ble_eq_true rfl⟩ hS hAx (fun H1 locs1 hQx hz hkp hS1 => ?_)
    have hPm := keepP hPm (dM_aL (A := fun z => s.heap.size ≤ z) (vD_same (by rfl) hDm0)) (fun z h1 h2 => hap z h2 h1) hkp
    clear hPx hS hz hkp hDx
    have hPx := hQx
    have hS := hS1
    clear hQx hS1
    rw [if_neg hc] at hPx
    refine lv_aload_n hx hb dL_law_157 rfl (lv_at hl 2 rfl) ?_
    refine lv_aload_n hx hb dL_law_158 rfl (lv_at hl 0 rfl) ?_
    refine lv_iload_n hx hb dL_law_159 rfl (lv_at hl 3 rfl) ?_
    refine lv_iconst (v := 1) hx hb dL_law_160 (by decide) ?_
    refine lv_iadd hx hb dL_law_161 ?_
    refine tpI (y := nI (i + 1)) (nI_add i 1) ?_
    refine sldN hx hb hX hbl hbA hS (by omega) hL dL_law_162 ?_
    have hDm : va_D (aL qm) (wM cm qm (nI N) (nI K) (nI S) ff fm fw ak ta gh kd fa fb sx sy mb co) := dM_aL (vD_same (by rfl) hDm0)
    refine cVw (As := [.int (xs (i + 1))]) hC hKm hPm rfl rfl (kX1_things hPm hDm (xs (i + 1)) ) [_] (cwV 1 hts gL_law_X1_things rfl rfl rfl hdX1_things ⟨Nat.le_of_ble_eq_true rfl, Nat.le_of_ble_eq_true rfl⟩) rfl hl.1 rfl (Nat.le_of_ble_eq_true rfl) dL_law_163 ⟨Nat.le_of_ble_eq_true rfl, Nat.le_of_ble_eq_true rfl⟩ hS hAm (fun H2 locs2 hQm hz hkp hS2 => ?_)
    have hPx := keepP hPx (dX_aL (A := fun z => s.heap.size ≤ z) (vD_same (by rfl) hDx0)) hap hkp
    clear hPm hS hz hkp hDm
    have hPm := hQm
    have hS := hS2
    clear hQm hS2
    rw [if_neg hc] at hPm
    refine lv_icmp_eq (tgt := 684) hx hb dL_law_166 (by decide) (fun _ => ?_) (fun h => absurd rfl h)
    exact kk _ _ ⟨N, K, S, T, C, ak, ta, pl, cp, kd, fa, fb, bm, sx, sy, gh, mb, co, ff, fm, fw, hI, hPx, hPm, hS⟩
set_option maxHeartbeats 4000000 in
set_option maxRecDepth 100000 in
theorem lc_swap {p : Program} {l : Launch} {e : Env} {s : State} {m : MethodId} {args : Array Value} {below : List Frame} {meth : Method} {c : Code} {H : Heap} {locs : List Loc} {Q : State → Prop} {ls : Array Slot} {b L i : Nat} {xs : Nat → Int32} {D : va_G} {cx cm : ClassId} {qx qm : Nat → Nat} (hLC : LC p s m c args b L xs D cx cm qx qm) (hi : i + 4 ≤ L) (hLI : LI s D cx cm qx qm H locs) (hl : lv_has ls 4 [(0, .ref b), (1, .ref (qx 0)), (2, .ref (qm 0)), (3, .int (nI i))]) (kk : ∀ (H : Heap) (locs : List Loc), LI s D cx cm qx qm H locs → W p l e room_1 s m args below meth c H locs 20 223 Q (F0 m 684 ls [])) : W p l e room_1 s m args below meth c H locs 20 223 Q (F0 m 171 ls []) := by
  obtain ⟨hx, hb, hml, hown, hts, hX, hbl, hL, hKx, hKm, hDx0, hDm0, hap⟩ := hLC
  have hbA : ¬ (fun z : Nat => s.heap.size ≤ z) b := Nat.not_le.mpr hbl
  obtain ⟨N, K, S, T, C, ak, ta, pl, cp, kd, fa, fb, bm, sx, sy, gh, mb, co, ff, fm, fw, hI, hPx, hPm, hS⟩ := hLI
  have hI2 := hI
  obtain ⟨hN1, hN, hKn, hSn, hpm, hhp, hbm, hhd⟩ := hI2
  have hC := (⟨hx, hb, hml, hown, hts⟩ : CallFix p m c cL_law 4 s args wsL_law RL)
  have hpl := pm_pl hN hpm
  have hAx := dX_A hDx0
  have hAm := dM_A hDm0
  by_cases hc : (0 ≤ (xs (i + 1)) ∧ (xs (i + 1)) < nI N) ∧ (0 ≤ (xs (i + 2)) ∧ (xs (i + 2)) < nI N)
  · refine lv_aload_n hx hb dL_law_171 rfl (lv_at hl 1 rfl) ?_
    refine lv_aload_n hx hb dL_law_172 rfl (lv_at hl 0 rfl) ?_
    refine lv_iload_n hx hb dL_law_173 rfl (lv_at hl 3 rfl) ?_
    refine lv_iconst (v := 1) hx hb dL_law_174 (by decide) ?_
    refine lv_iadd hx hb dL_law_175 ?_
    refine tpI (y := nI (i + 1)) (nI_add i 1) ?_
    refine sldN hx hb hX hbl hbA hS (by omega) hL dL_law_176 ?_
    refine lv_aload_n hx hb dL_law_177 rfl (lv_at hl 0 rfl) ?_
    refine lv_iload_n hx hb dL_law_178 rfl (lv_at hl 3 rfl) ?_
    refine lv_iconst (v := 2) hx hb dL_law_179 (by decide) ?_
    refine lv_iadd hx hb dL_law_180 ?_
    refine tpI (y := nI (i + 2)) (nI_add i 2) ?_
    refine sldN hx hb hX hbl hbA hS (by omega) hL dL_law_181 ?_
    have hDx : va_D (aL qx) (wX cx qx (nI N) (nI T) (nI C) (nI K) (nI S) ak ta pl cp kd fa fb bm sx sy) := dX_aL (vD_same (by rfl) hDx0)
    refine cVw (As := [.int (xs (i + 1)), .int (xs (i + 2))]) hC hKx hPx rfl rfl (kX0_swap hPx hDx (xs (i + 1)) (xs (i + 2)) hN hKn (pm_rg hpm)) [] (cwV 2 hts gL_law_X0_swap rfl rfl rfl hdX0_swap ⟨Nat.le_of_ble_eq_true rfl, Nat.le_of_ble_eq_true rfl⟩) rfl hl.1 rfl (Nat.le_of_ble_eq_true rfl) dL_law_182 ⟨Nat.le_of_ble_eq_true rfl, Nat.le_of_ble_eq_true rfl⟩ hS hAx (fun H1 locs1 hQx hz hkp hS1 => ?_)
    have hPm := keepP hPm (dM_aL (A := fun z => s.heap.size ≤ z) (vD_same (by rfl) hDm0)) (fun z h1 h2 => hap z h2 h1) hkp
    clear hPx hS hz hkp hDx
    have hPx := hQx
    have hS := hS1
    clear hQx hS1
    rw [if_pos hc] at hPx
    refine lv_aload_n hx hb dL_law_185 rfl (lv_at hl 2 rfl) ?_
    refine lv_aload_n hx hb dL_law_186 rfl (lv_at hl 0 rfl) ?_
    refine lv_iload_n hx hb dL_law_187 rfl (lv_at hl 3 rfl) ?_
    refine lv_iconst (v := 1) hx hb dL_law_188 (by decide) ?_
    refine lv_iadd hx hb dL_law_189 ?_
    refine tpI (y := nI (i + 1)) (nI_add i 1) ?_
    refine sldN hx hb hX hbl hbA hS (by omega) hL dL_law_190 ?_
    refine lv_aload_n hx hb dL_law_191 rfl (lv_at hl 0 rfl) ?_
    refine lv_iload_n hx hb dL_law_192 rfl (lv_at hl 3 rfl) ?_
    refine lv_iconst (v := 2) hx hb dL_law_193 (by decide) ?_
    refine lv_iadd hx hb dL_law_194 ?_
    refine tpI (y := nI (i + 2)) (nI_add i 2) ?_
    refine sldN hx hb hX hbl hbA hS (by omega) hL dL_law_195 ?_
    have hDm : va_D (aL qm) (wM cm qm (nI N) (nI K) (nI S) ff fm fw ak ta gh kd fa fb sx sy mb co) := dM_aL (vD_same (by rfl) hDm0)
    refine cVw (As := [.int (xs (i + 1)), .int (xs (i + 2))]) hC hKm hPm rfl rfl (kX1_swap hPm hDm (xs (i + 1)) (xs (i + 2)) hN) [_] (cwV 2 hts gL_law_X1_swap rfl rfl rfl hdX1_swap ⟨Nat.le_of_ble_eq_true rfl, Nat.le_of_ble_eq_true rfl⟩) rfl hl.1 rfl (Nat.le_of_ble_eq_true rfl) dL_law_196 ⟨Nat.le_of_ble_eq_true rfl, Nat.le_of_ble_eq_true rfl⟩ hS hAm (fun H2 locs2 hQm hz hkp hS2 => ?_)
    have hPx := keepP hPx (dX_aL (A := fun z => s.heap.size ≤ z) (vD_same (by rfl) hDx0)) hap hkp
    clear hPm hS hz hkp hDm
    have hPm := hQm
    have hS := hS2
    clear hQm hS2
    rw [if_pos hc] at hPm
    obtain ⟨i1, hi1, e1⟩ := inN hc.1 (by omega)
    have f1 : ix (xs (i + 1)) = i1 := by rw [e1]; exact ix_nI (by omega)
    obtain ⟨i2, hi2, e2⟩ := inN hc.2 (by omega)
    have f2 : ix (xs (i + 2)) = i2 := by rw [e2]; exact ix_nI (by omega)
    rw [f1, f2] at hPx hPm
    refine lv_icmp_eq (tgt := 684) hx hb dL_law_199 (by decide) (fun _ => ?_) (fun h => absurd rfl h)
    exact kk _ _ ⟨N, K, S, T, C, ak, swT ta i1 i2, swP pl ta i1 i2, cp, kd, fa, fb, rbF (hbX (swP pl ta i1 i2) kd fa fb N) bm K, sx, sy, gh, mb, co, ff, fm, fw, ⟨hN1, hN, hKn, hSn, pm_swap hN hi1 hi2 hpm, hhp, fun h hh => rbF_lt hh, hhd⟩, hPx, hPm, hS⟩
  · refine lv_aload_n hx hb dL_law_171 rfl (lv_at hl 1 rfl) ?_
    refine lv_aload_n hx hb dL_law_172 rfl (lv_at hl 0 rfl) ?_
    refine lv_iload_n hx hb dL_law_173 rfl (lv_at hl 3 rfl) ?_
    refine lv_iconst (v := 1) hx hb dL_law_174 (by decide) ?_
    refine lv_iadd hx hb dL_law_175 ?_
    refine tpI (y := nI (i + 1)) (nI_add i 1) ?_
    refine sldN hx hb hX hbl hbA hS (by omega) hL dL_law_176 ?_
    refine lv_aload_n hx hb dL_law_177 rfl (lv_at hl 0 rfl) ?_
    refine lv_iload_n hx hb dL_law_178 rfl (lv_at hl 3 rfl) ?_
    refine lv_iconst (v := 2) hx hb dL_law_179 (by decide) ?_
    refine lv_iadd hx hb dL_law_180 ?_
    refine tpI (y := nI (i + 2)) (nI_add i 2) ?_
    refine sldN hx hb hX hbl hbA hS (by omega) hL dL_law_181 ?_
    have hDx : va_D (aL qx) (wX cx qx (nI N) (nI T) (nI C) (nI K) (nI S) ak ta pl cp kd fa fb bm sx sy) := dX_aL (vD_same (by rfl) hDx0)
    refine cVw (As := [.int (xs (i + 1)), .int (xs (i + 2))]) hC hKx hPx rfl rfl (kX0_swap hPx hDx (xs (i + 1)) (xs (i + 2)) hN hKn (pm_rg hpm)) [] (cwV 2 hts gL_law_X0_swap rfl rfl rfl hdX0_swap ⟨Nat.le_of_ble_eq_true rfl, Nat.le_of_ble_eq_true rfl⟩) rfl hl.1 rfl (Nat.le_of_ble_eq_true rfl) dL_law_182 ⟨Nat.le_of_ble_eq_true rfl, Nat.le_of_ble_eq_true rfl⟩ hS hAx (fun H1 locs1 hQx hz hkp hS1 => ?_)
    have hPm := keepP hPm (dM_aL (A := fun z => s.heap.size ≤ z) (vD_same (by rfl) hDm0)) (fun z h1 h2 => hap z h2 h1) hkp
    clear hPx hS hz hkp hDx
    have hPx := hQx
    have hS := hS1
    clear hQx hS1
    rw [if_neg hc] at hPx
    refine lv_aload_n hx hb dL_law_185 rfl (lv_at hl 2 rfl) ?_
    refine lv_aload_n hx hb dL_law_186 rfl (lv_at hl 0 rfl) ?_
    refine lv_iload_n hx hb dL_law_187 rfl (lv_at hl 3 rfl) ?_
    refine lv_iconst (v := 1) hx hb dL_law_188 (by decide) ?_
    refine lv_iadd hx hb dL_law_189 ?_
    refine tpI (y := nI (i + 1)) (nI_add i 1) ?_
    refine sldN hx hb hX hbl hbA hS (by omega) hL dL_law_190 ?_
    refine lv_aload_n hx hb dL_law_191 rfl (lv_at hl 0 rfl) ?_
    refine lv_iload_n hx hb dL_law_192 rfl (lv_at hl 3 rfl) ?_
    refine lv_iconst (v := 2) hx hb dL_law_193 (by decide) ?_
    refine lv_iadd hx hb dL_law_194 ?_
    refine tpI (y := nI (i + 2)) (nI_add i 2) ?_
    refine sldN hx hb hX hbl hbA hS (by omega) hL dL_law_195 ?_
    have hDm : va_D (aL qm) (wM cm qm (nI N) (nI K) (nI S) ff fm fw ak ta gh kd fa fb sx sy mb co) := dM_aL (vD_same (by rfl) hDm0)
    refine cVw (As := [.int (xs (i + 1)), .int (xs (i + 2))]) hC hKm hPm rfl rfl (kX1_swap hPm hDm (xs (i + 1)) (xs (i + 2)) hN) [_] (cwV 2 hts gL_law_X1_swap rfl rfl rfl hdX1_swap ⟨Nat.le_of_ble_eq_true rfl, Nat.le_of_ble_eq_true rfl⟩) rfl hl.1 rfl (Nat.le_of_ble_eq_true rfl) dL_law_196 ⟨Nat.le_of_ble_eq_true rfl, Nat.le_of_ble_eq_true rfl⟩ hS hAm (fun H2 locs2 hQm hz hkp hS2 => ?_)
    have hPx := keepP hPx (dX_aL (A := fun z => s.heap.size ≤ z) (vD_same (by rfl) hDx0)) hap hkp
    clear hPm hS hz hkp hDm
    have hPm := hQm
    have hS := hS2
    clear hQm hS2
    rw [if_neg hc] at hPm
    refine lv_icmp_eq (tgt := 684) hx hb dL_law_199 (by decide) (fun _ => ?_) (fun h => absurd rfl h)
    exact kk _ _ ⟨N, K, S, T, C, ak, ta, pl, cp, kd, fa, fb, bm, sx, sy, gh, mb, co, ff, fm, fw, hI, hPx, hPm, hS⟩
set_option maxHeartbeats 4000000 in
set_option maxRecDepth 100000 in
theorem lc_second {p : Program} {l : Launch} {e : Env} {s : State} {m : MethodId} {args : Array Value} {below : List Frame} {meth : Method} {c : Code} {H : Heap} {locs : List Loc} {Q : State → Prop} {ls : Array Slot} {b L i : Nat} {xs : Nat → Int32} {D : va_G} {cx cm : ClassId} {qx qm : Nat → Nat} (hLC : LC p s m c args b L xs D cx cm qx qm) (hi : i + 4 ≤ L) (hLI : LI s D cx cm qx qm H locs) (hl : lv_has ls 4 [(0, .ref b), (1, .ref (qx 0)), (2, .ref (qm 0)), (3, .int (nI i))]) (kk : ∀ (H : Heap) (locs : List Loc), LI s D cx cm qx qm H locs → W p l e room_1 s m args below meth c H locs 20 223 Q (F0 m 684 ls [])) : W p l e room_1 s m args below meth c H locs 20 223 Q (F0 m 204 ls []) := by
  obtain ⟨hx, hb, hml, hown, hts, hX, hbl, hL, hKx, hKm, hDx0, hDm0, hap⟩ := hLC
  have hbA : ¬ (fun z : Nat => s.heap.size ≤ z) b := Nat.not_le.mpr hbl
  obtain ⟨N, K, S, T, C, ak, ta, pl, cp, kd, fa, fb, bm, sx, sy, gh, mb, co, ff, fm, fw, hI, hPx, hPm, hS⟩ := hLI
  have hI2 := hI
  obtain ⟨hN1, hN, hKn, hSn, hpm, hhp, hbm, hhd⟩ := hI2
  have hC := (⟨hx, hb, hml, hown, hts⟩ : CallFix p m c cL_law 4 s args wsL_law RL)
  have hpl := pm_pl hN hpm
  have hAx := dX_A hDx0
  have hAm := dM_A hDm0
  refine lv_aload_n hx hb dL_law_204 rfl (lv_at hl 1 rfl) ?_
  refine lv_aload_n hx hb dL_law_205 rfl (lv_at hl 0 rfl) ?_
  refine lv_iload_n hx hb dL_law_206 rfl (lv_at hl 3 rfl) ?_
  refine lv_iconst (v := 1) hx hb dL_law_207 (by decide) ?_
  refine lv_iadd hx hb dL_law_208 ?_
  refine tpI (y := nI (i + 1)) (nI_add i 1) ?_
  refine sldN hx hb hX hbl hbA hS (by omega) hL dL_law_209 ?_
  refine cV (As := [.int (xs (i + 1))]) hC hKx hPx rfl rfl (kX0_second hPx (xs (i + 1)) hN) [] (cwV 1 hts gL_law_X0_second rfl rfl rfl hdX0_second ⟨Nat.le_of_ble_eq_true rfl, Nat.le_of_ble_eq_true rfl⟩) rfl hl.1 rfl (Nat.le_of_ble_eq_true rfl) dL_law_210 ⟨Nat.le_of_ble_eq_true rfl, Nat.le_of_ble_eq_true rfl⟩ ?_
  refine lv_aload_n hx hb dL_law_213 rfl (lv_at hl 2 rfl) ?_
  refine lv_aload_n hx hb dL_law_214 rfl (lv_at hl 0 rfl) ?_
  refine lv_iload_n hx hb dL_law_215 rfl (lv_at hl 3 rfl) ?_
  refine lv_iconst (v := 1) hx hb dL_law_216 (by decide) ?_
  refine lv_iadd hx hb dL_law_217 ?_
  refine tpI (y := nI (i + 1)) (nI_add i 1) ?_
  refine sldN hx hb hX hbl hbA hS (by omega) hL dL_law_218 ?_
  refine cV (As := [.int (xs (i + 1))]) hC hKm hPm rfl rfl (kX1_second hPm (xs (i + 1)) hN) [_] (cwV 1 hts gL_law_X1_second rfl rfl rfl hdX1_second ⟨Nat.le_of_ble_eq_true rfl, Nat.le_of_ble_eq_true rfl⟩) rfl hl.1 rfl (Nat.le_of_ble_eq_true rfl) dL_law_219 ⟨Nat.le_of_ble_eq_true rfl, Nat.le_of_ble_eq_true rfl⟩ ?_
  refine lv_icmp_eq (tgt := 684) hx hb dL_law_222 (by decide) (fun _ => ?_) (fun h => absurd rfl h)
  exact kk _ _ ⟨N, K, S, T, C, ak, ta, pl, cp, kd, fa, fb, bm, sx, sy, gh, mb, co, ff, fm, fw, hI, hPx, hPm, hS⟩
set_option maxHeartbeats 4000000 in
set_option maxRecDepth 100000 in
theorem lc_heap {p : Program} {l : Launch} {e : Env} {s : State} {m : MethodId} {args : Array Value} {below : List Frame} {meth : Method} {c : Code} {H : Heap} {locs : List Loc} {Q : State → Prop} {ls : Array Slot} {b L i : Nat} {xs : Nat → Int32} {D : va_G} {cx cm : ClassId} {qx qm : Nat → Nat} (hLC : LC p s m c args b L xs D cx cm qx qm) (hi : i + 4 ≤ L) (hLI : LI s D cx cm qx qm H locs) (hl : lv_has ls 4 [(0, .ref b), (1, .ref (qx 0)), (2, .ref (qm 0)), (3, .int (nI i))]) (kk : ∀ (H : Heap) (locs : List Loc), LI s D cx cm qx qm H locs → W p l e room_1 s m args below meth c H locs 20 223 Q (F0 m 684 ls [])) : W p l e room_1 s m args below meth c H locs 20 223 Q (F0 m 227 ls []) := by
  obtain ⟨hx, hb, hml, hown, hts, hX, hbl, hL, hKx, hKm, hDx0, hDm0, hap⟩ := hLC
  have hbA : ¬ (fun z : Nat => s.heap.size ≤ z) b := Nat.not_le.mpr hbl
  obtain ⟨N, K, S, T, C, ak, ta, pl, cp, kd, fa, fb, bm, sx, sy, gh, mb, co, ff, fm, fw, hI, hPx, hPm, hS⟩ := hLI
  have hI2 := hI
  obtain ⟨hN1, hN, hKn, hSn, hpm, hhp, hbm, hhd⟩ := hI2
  have hC := (⟨hx, hb, hml, hown, hts⟩ : CallFix p m c cL_law 4 s args wsL_law RL)
  have hpl := pm_pl hN hpm
  have hAx := dX_A hDx0
  have hAm := dM_A hDm0
  by_cases hc : canX N (xs (i + 1)) (xs (i + 2)) (xs (i + 3)) = true ∧ K < 10
  · refine lv_aload_n hx hb dL_law_227 rfl (lv_at hl 1 rfl) ?_
    refine lv_aload_n hx hb dL_law_228 rfl (lv_at hl 0 rfl) ?_
    refine lv_iload_n hx hb dL_law_229 rfl (lv_at hl 3 rfl) ?_
    refine lv_iconst (v := 1) hx hb dL_law_230 (by decide) ?_
    refine lv_iadd hx hb dL_law_231 ?_
    refine tpI (y := nI (i + 1)) (nI_add i 1) ?_
    refine sldN hx hb hX hbl hbA hS (by omega) hL dL_law_232 ?_
    refine lv_aload_n hx hb dL_law_233 rfl (lv_at hl 0 rfl) ?_
    refine lv_iload_n hx hb dL_law_234 rfl (lv_at hl 3 rfl) ?_
    refine lv_iconst (v := 2) hx hb dL_law_235 (by decide) ?_
    refine lv_iadd hx hb dL_law_236 ?_
    refine tpI (y := nI (i + 2)) (nI_add i 2) ?_
    refine sldN hx hb hX hbl hbA hS (by omega) hL dL_law_237 ?_
    refine lv_aload_n hx hb dL_law_238 rfl (lv_at hl 0 rfl) ?_
    refine lv_iload_n hx hb dL_law_239 rfl (lv_at hl 3 rfl) ?_
    refine lv_iconst (v := 3) hx hb dL_law_240 (by decide) ?_
    refine lv_iadd hx hb dL_law_241 ?_
    refine tpI (y := nI (i + 3)) (nI_add i 3) ?_
    refine sldN hx hb hX hbl hbA hS (by omega) hL dL_law_242 ?_
    have hDx : va_D (aL qx) (wX cx qx (nI N) (nI T) (nI C) (nI K) (nI S) ak ta pl cp kd fa fb bm sx sy) := dX_aL (vD_same (by rfl) hDx0)
    refine cVw (As := [.int (xs (i + 1)), .int (xs (i + 2)), .int (xs (i + 3))]) hC hKx hPx rfl rfl (kX0_heap hPx hDx (xs (i + 1)) (xs (i + 2)) (xs (i + 3)) hN hKn) [] (cwV 3 hts gL_law_X0_heap rfl rfl rfl hdX0_heap ⟨Nat.le_of_ble_eq_true rfl, Nat.le_of_ble_eq_true rfl⟩) rfl hl.1 rfl (Nat.le_of_ble_eq_true rfl) dL_law_243 ⟨Nat.le_of_ble_eq_true rfl, Nat.le_of_ble_eq_true rfl⟩ hS hAx (fun H1 locs1 hQx hz hkp hS1 => ?_)
    have hPm := keepP hPm (dM_aL (A := fun z => s.heap.size ≤ z) (vD_same (by rfl) hDm0)) (fun z h1 h2 => hap z h2 h1) hkp
    clear hPx hS hz hkp hDx
    have hPx := hQx
    have hS := hS1
    clear hQx hS1
    rw [if_pos hc] at hPx
    refine lv_aload_n hx hb dL_law_246 rfl (lv_at hl 2 rfl) ?_
    refine lv_aload_n hx hb dL_law_247 rfl (lv_at hl 0 rfl) ?_
    refine lv_iload_n hx hb dL_law_248 rfl (lv_at hl 3 rfl) ?_
    refine lv_iconst (v := 1) hx hb dL_law_249 (by decide) ?_
    refine lv_iadd hx hb dL_law_250 ?_
    refine tpI (y := nI (i + 1)) (nI_add i 1) ?_
    refine sldN hx hb hX hbl hbA hS (by omega) hL dL_law_251 ?_
    refine lv_aload_n hx hb dL_law_252 rfl (lv_at hl 0 rfl) ?_
    refine lv_iload_n hx hb dL_law_253 rfl (lv_at hl 3 rfl) ?_
    refine lv_iconst (v := 2) hx hb dL_law_254 (by decide) ?_
    refine lv_iadd hx hb dL_law_255 ?_
    refine tpI (y := nI (i + 2)) (nI_add i 2) ?_
    refine sldN hx hb hX hbl hbA hS (by omega) hL dL_law_256 ?_
    refine lv_aload_n hx hb dL_law_257 rfl (lv_at hl 0 rfl) ?_
    refine lv_iload_n hx hb dL_law_258 rfl (lv_at hl 3 rfl) ?_
    refine lv_iconst (v := 3) hx hb dL_law_259 (by decide) ?_
    refine lv_iadd hx hb dL_law_260 ?_
    refine tpI (y := nI (i + 3)) (nI_add i 3) ?_
    refine sldN hx hb hX hbl hbA hS (by omega) hL dL_law_261 ?_
    have hDm : va_D (aL qm) (wM cm qm (nI N) (nI K) (nI S) ff fm fw ak ta gh kd fa fb sx sy mb co) := dM_aL (vD_same (by rfl) hDm0)
    refine cVw (As := [.int (xs (i + 1)), .int (xs (i + 2)), .int (xs (i + 3))]) hC hKm hPm rfl rfl (kX1_heap hPm hDm (xs (i + 1)) (xs (i + 2)) (xs (i + 3)) hN hKn) [_] (cwV 3 hts gL_law_X1_heap rfl rfl rfl hdX1_heap ⟨Nat.le_of_ble_eq_true rfl, Nat.le_of_ble_eq_true rfl⟩) rfl hl.1 rfl (Nat.le_of_ble_eq_true rfl) dL_law_262 ⟨Nat.le_of_ble_eq_true rfl, Nat.le_of_ble_eq_true rfl⟩ hS hAm (fun H2 locs2 hQm hz hkp hS2 => ?_)
    have hPx := keepP hPx (dX_aL (A := fun z => s.heap.size ≤ z) (vD_same (by rfl) hDx0)) hap hkp
    clear hPm hS hz hkp hDm
    have hPm := hQm
    have hS := hS2
    clear hQm hS2
    rw [if_pos hc] at hPm
    refine lv_icmp_eq (tgt := 684) hx hb dL_law_265 (by decide) (fun _ => ?_) (fun h => absurd rfl h)
    exact kk _ _ ⟨N, K + 1, S, T, C, ak, ta, pl, cp, _, _, _, _, sx, sy, gh, mb, co, ff, fm, fw, iv_heap hI hc.1 hc.2, hPx, hPm, hS⟩
  · refine lv_aload_n hx hb dL_law_227 rfl (lv_at hl 1 rfl) ?_
    refine lv_aload_n hx hb dL_law_228 rfl (lv_at hl 0 rfl) ?_
    refine lv_iload_n hx hb dL_law_229 rfl (lv_at hl 3 rfl) ?_
    refine lv_iconst (v := 1) hx hb dL_law_230 (by decide) ?_
    refine lv_iadd hx hb dL_law_231 ?_
    refine tpI (y := nI (i + 1)) (nI_add i 1) ?_
    refine sldN hx hb hX hbl hbA hS (by omega) hL dL_law_232 ?_
    refine lv_aload_n hx hb dL_law_233 rfl (lv_at hl 0 rfl) ?_
    refine lv_iload_n hx hb dL_law_234 rfl (lv_at hl 3 rfl) ?_
    refine lv_iconst (v := 2) hx hb dL_law_235 (by decide) ?_
    refine lv_iadd hx hb dL_law_236 ?_
    refine tpI (y := nI (i + 2)) (nI_add i 2) ?_
    refine sldN hx hb hX hbl hbA hS (by omega) hL dL_law_237 ?_
    refine lv_aload_n hx hb dL_law_238 rfl (lv_at hl 0 rfl) ?_
    refine lv_iload_n hx hb dL_law_239 rfl (lv_at hl 3 rfl) ?_
    refine lv_iconst (v := 3) hx hb dL_law_240 (by decide) ?_
    refine lv_iadd hx hb dL_law_241 ?_
    refine tpI (y := nI (i + 3)) (nI_add i 3) ?_
    refine sldN hx hb hX hbl hbA hS (by omega) hL dL_law_242 ?_
    have hDx : va_D (aL qx) (wX cx qx (nI N) (nI T) (nI C) (nI K) (nI S) ak ta pl cp kd fa fb bm sx sy) := dX_aL (vD_same (by rfl) hDx0)
    refine cVw (As := [.int (xs (i + 1)), .int (xs (i + 2)), .int (xs (i + 3))]) hC hKx hPx rfl rfl (kX0_heap hPx hDx (xs (i + 1)) (xs (i + 2)) (xs (i + 3)) hN hKn) [] (cwV 3 hts gL_law_X0_heap rfl rfl rfl hdX0_heap ⟨Nat.le_of_ble_eq_true rfl, Nat.le_of_ble_eq_true rfl⟩) rfl hl.1 rfl (Nat.le_of_ble_eq_true rfl) dL_law_243 ⟨Nat.le_of_ble_eq_true rfl, Nat.le_of_ble_eq_true rfl⟩ hS hAx (fun H1 locs1 hQx hz hkp hS1 => ?_)
    have hPm := keepP hPm (dM_aL (A := fun z => s.heap.size ≤ z) (vD_same (by rfl) hDm0)) (fun z h1 h2 => hap z h2 h1) hkp
    clear hPx hS hz hkp hDx
    have hPx := hQx
    have hS := hS1
    clear hQx hS1
    rw [if_neg hc, ite_self] at hPx
    refine lv_aload_n hx hb dL_law_246 rfl (lv_at hl 2 rfl) ?_
    refine lv_aload_n hx hb dL_law_247 rfl (lv_at hl 0 rfl) ?_
    refine lv_iload_n hx hb dL_law_248 rfl (lv_at hl 3 rfl) ?_
    refine lv_iconst (v := 1) hx hb dL_law_249 (by decide) ?_
    refine lv_iadd hx hb dL_law_250 ?_
    refine tpI (y := nI (i + 1)) (nI_add i 1) ?_
    refine sldN hx hb hX hbl hbA hS (by omega) hL dL_law_251 ?_
    refine lv_aload_n hx hb dL_law_252 rfl (lv_at hl 0 rfl) ?_
    refine lv_iload_n hx hb dL_law_253 rfl (lv_at hl 3 rfl) ?_
    refine lv_iconst (v := 2) hx hb dL_law_254 (by decide) ?_
    refine lv_iadd hx hb dL_law_255 ?_
    refine tpI (y := nI (i + 2)) (nI_add i 2) ?_
    refine sldN hx hb hX hbl hbA hS (by omega) hL dL_law_256 ?_
    refine lv_aload_n hx hb dL_law_257 rfl (lv_at hl 0 rfl) ?_
    refine lv_iload_n hx hb dL_law_258 rfl (lv_at hl 3 rfl) ?_
    refine lv_iconst (v := 3) hx hb dL_law_259 (by decide) ?_
    refine lv_iadd hx hb dL_law_260 ?_
    refine tpI (y := nI (i + 3)) (nI_add i 3) ?_
    refine sldN hx hb hX hbl hbA hS (by omega) hL dL_law_261 ?_
    have hDm : va_D (aL qm) (wM cm qm (nI N) (nI K) (nI S) ff fm fw ak ta gh kd fa fb sx sy mb co) := dM_aL (vD_same (by rfl) hDm0)
    refine cVw (As := [.int (xs (i + 1)), .int (xs (i + 2)), .int (xs (i + 3))]) hC hKm hPm rfl rfl (kX1_heap hPm hDm (xs (i + 1)) (xs (i + 2)) (xs (i + 3)) hN hKn) [_] (cwV 3 hts gL_law_X1_heap rfl rfl rfl hdX1_heap ⟨Nat.le_of_ble_eq_true rfl, Nat.le_of_ble_eq_true rfl⟩) rfl hl.1 rfl (Nat.le_of_ble_eq_true rfl) dL_law_262 ⟨Nat.le_of_ble_eq_true rfl, Nat.le_of_ble_eq_true rfl⟩ hS hAm (fun H2 locs2 hQm hz hkp hS2 => ?_)
    have hPx := keepP hPx (dX_aL (A := fun z => s.heap.size ≤ z) (vD_same (by rfl) hDx0)) hap hkp
    clear hPm hS hz hkp hDm
    have hPm := hQm
    have hS := hS2
    clear hQm hS2
    rw [if_neg hc, ite_self] at hPm
    refine lv_icmp_eq (tgt := 684) hx hb dL_law_265 (by decide) (fun _ => ?_) (fun h => absurd rfl h)
    exact kk _ _ ⟨N, K, S, T, C, ak, ta, pl, cp, kd, fa, fb, bm, sx, sy, gh, mb, co, ff, fm, fw, hI, hPx, hPm, hS⟩
set_option maxHeartbeats 4000000 in
set_option maxRecDepth 100000 in
theorem lc_drop {p : Program} {l : Launch} {e : Env} {s : State} {m : MethodId} {args : Array Value} {below : List Frame} {meth : Method} {c : Code} {H : Heap} {locs : List Loc} {Q : State → Prop} {ls : Array Slot} {b L i : Nat} {xs : Nat → Int32} {D : va_G} {cx cm : ClassId} {qx qm : Nat → Nat} (hLC : LC p s m c args b L xs D cx cm qx qm) (hi : i + 4 ≤ L) (hLI : LI s D cx cm qx qm H locs) (hl : lv_has ls 4 [(0, .ref b), (1, .ref (qx 0)), (2, .ref (qm 0)), (3, .int (nI i))]) (kk : ∀ (H : Heap) (locs : List Loc), LI s D cx cm qx qm H locs → W p l e room_1 s m args below meth c H locs 20 223 Q (F0 m 684 ls [])) : W p l e room_1 s m args below meth c H locs 20 223 Q (F0 m 270 ls []) := by
  obtain ⟨hx, hb, hml, hown, hts, hX, hbl, hL, hKx, hKm, hDx0, hDm0, hap⟩ := hLC
  have hbA : ¬ (fun z : Nat => s.heap.size ≤ z) b := Nat.not_le.mpr hbl
  obtain ⟨N, K, S, T, C, ak, ta, pl, cp, kd, fa, fb, bm, sx, sy, gh, mb, co, ff, fm, fw, hI, hPx, hPm, hS⟩ := hLI
  have hI2 := hI
  obtain ⟨hN1, hN, hKn, hSn, hpm, hhp, hbm, hhd⟩ := hI2
  have hC := (⟨hx, hb, hml, hown, hts⟩ : CallFix p m c cL_law 4 s args wsL_law RL)
  have hpl := pm_pl hN hpm
  have hAx := dX_A hDx0
  have hAm := dM_A hDm0
  by_cases hc : K = 0
  · refine lv_aload_n hx hb dL_law_270 rfl (lv_at hl 1 rfl) ?_
    have hDx : va_D (aL qx) (wX cx qx (nI N) (nI T) (nI C) (nI K) (nI S) ak ta pl cp kd fa fb bm sx sy) := dX_aL (vD_same (by rfl) hDx0)
    refine cVw (As := []) hC hKx hPx rfl rfl (kX0_drop hPx hDx  hKn) [] (cwV 0 hts gL_law_X0_drop rfl rfl rfl hdX0_drop ⟨Nat.le_of_ble_eq_true rfl, Nat.le_of_ble_eq_true rfl⟩) rfl hl.1 rfl (Nat.le_of_ble_eq_true rfl) dL_law_271 ⟨Nat.le_of_ble_eq_true rfl, Nat.le_of_ble_eq_true rfl⟩ hS hAx (fun H1 locs1 hQx hz hkp hS1 => ?_)
    have hPm := keepP hPm (dM_aL (A := fun z => s.heap.size ≤ z) (vD_same (by rfl) hDm0)) (fun z h1 h2 => hap z h2 h1) hkp
    clear hPx hS hz hkp hDx
    have hPx := hQx
    have hS := hS1
    clear hQx hS1
    rw [if_pos hc] at hPx
    refine lv_aload_n hx hb dL_law_274 rfl (lv_at hl 2 rfl) ?_
    have hDm : va_D (aL qm) (wM cm qm (nI N) (nI K) (nI S) ff fm fw ak ta gh kd fa fb sx sy mb co) := dM_aL (vD_same (by rfl) hDm0)
    refine cVw (As := []) hC hKm hPm rfl rfl (kX1_drop hPm hDm  hKn) [_] (cwV 0 hts gL_law_X1_drop rfl rfl rfl hdX1_drop ⟨Nat.le_of_ble_eq_true rfl, Nat.le_of_ble_eq_true rfl⟩) rfl hl.1 rfl (Nat.le_of_ble_eq_true rfl) dL_law_275 ⟨Nat.le_of_ble_eq_true rfl, Nat.le_of_ble_eq_true rfl⟩ hS hAm (fun H2 locs2 hQm hz hkp hS2 => ?_)
    have hPx := keepP hPx (dX_aL (A := fun z => s.heap.size ≤ z) (vD_same (by rfl) hDx0)) hap hkp
    clear hPm hS hz hkp hDm
    have hPm := hQm
    have hS := hS2
    clear hQm hS2
    rw [if_pos hc] at hPm
    refine lv_icmp_eq (tgt := 684) hx hb dL_law_278 (by decide) (fun _ => ?_) (fun h => absurd rfl h)
    exact kk _ _ ⟨N, K, S, T, C, ak, ta, pl, cp, kd, fa, fb, bm, sx, sy, gh, mb, co, ff, fm, fw, hI, hPx, hPm, hS⟩
  · refine lv_aload_n hx hb dL_law_270 rfl (lv_at hl 1 rfl) ?_
    have hDx : va_D (aL qx) (wX cx qx (nI N) (nI T) (nI C) (nI K) (nI S) ak ta pl cp kd fa fb bm sx sy) := dX_aL (vD_same (by rfl) hDx0)
    refine cVw (As := []) hC hKx hPx rfl rfl (kX0_drop hPx hDx  hKn) [] (cwV 0 hts gL_law_X0_drop rfl rfl rfl hdX0_drop ⟨Nat.le_of_ble_eq_true rfl, Nat.le_of_ble_eq_true rfl⟩) rfl hl.1 rfl (Nat.le_of_ble_eq_true rfl) dL_law_271 ⟨Nat.le_of_ble_eq_true rfl, Nat.le_of_ble_eq_true rfl⟩ hS hAx (fun H1 locs1 hQx hz hkp hS1 => ?_)
    have hPm := keepP hPm (dM_aL (A := fun z => s.heap.size ≤ z) (vD_same (by rfl) hDm0)) (fun z h1 h2 => hap z h2 h1) hkp
    clear hPx hS hz hkp hDx
    have hPx := hQx
    have hS := hS1
    clear hQx hS1
    rw [if_neg hc] at hPx
    refine lv_aload_n hx hb dL_law_274 rfl (lv_at hl 2 rfl) ?_
    have hDm : va_D (aL qm) (wM cm qm (nI N) (nI K) (nI S) ff fm fw ak ta gh kd fa fb sx sy mb co) := dM_aL (vD_same (by rfl) hDm0)
    refine cVw (As := []) hC hKm hPm rfl rfl (kX1_drop hPm hDm  hKn) [_] (cwV 0 hts gL_law_X1_drop rfl rfl rfl hdX1_drop ⟨Nat.le_of_ble_eq_true rfl, Nat.le_of_ble_eq_true rfl⟩) rfl hl.1 rfl (Nat.le_of_ble_eq_true rfl) dL_law_275 ⟨Nat.le_of_ble_eq_true rfl, Nat.le_of_ble_eq_true rfl⟩ hS hAm (fun H2 locs2 hQm hz hkp hS2 => ?_)
    have hPx := keepP hPx (dX_aL (A := fun z => s.heap.size ≤ z) (vD_same (by rfl) hDx0)) hap hkp
    clear hPm hS hz hkp hDm
    have hPm := hQm
    have hS := hS2
    clear hQm hS2
    rw [if_neg hc] at hPm
    refine lv_icmp_eq (tgt := 684) hx hb dL_law_278 (by decide) (fun _ => ?_) (fun h => absurd rfl h)
    exact kk _ _ ⟨N, K - 1, S, T, C, ak, ta, pl, cp, kd, fa, fb, bm, sx, sy, gh, mb, co, ff, fm, fw, iv_drop hI, hPx, hPm, hS⟩
set_option maxHeartbeats 4000000 in
set_option maxRecDepth 100000 in
theorem lc_has {p : Program} {l : Launch} {e : Env} {s : State} {m : MethodId} {args : Array Value} {below : List Frame} {meth : Method} {c : Code} {H : Heap} {locs : List Loc} {Q : State → Prop} {ls : Array Slot} {b L i : Nat} {xs : Nat → Int32} {D : va_G} {cx cm : ClassId} {qx qm : Nat → Nat} (hLC : LC p s m c args b L xs D cx cm qx qm) (hi : i + 4 ≤ L) (hLI : LI s D cx cm qx qm H locs) (hl : lv_has ls 4 [(0, .ref b), (1, .ref (qx 0)), (2, .ref (qm 0)), (3, .int (nI i))]) (kk : ∀ (H : Heap) (locs : List Loc), LI s D cx cm qx qm H locs → W p l e room_1 s m args below meth c H locs 20 223 Q (F0 m 684 ls [])) : W p l e room_1 s m args below meth c H locs 20 223 Q (F0 m 283 ls []) := by
  obtain ⟨hx, hb, hml, hown, hts, hX, hbl, hL, hKx, hKm, hDx0, hDm0, hap⟩ := hLC
  have hbA : ¬ (fun z : Nat => s.heap.size ≤ z) b := Nat.not_le.mpr hbl
  obtain ⟨N, K, S, T, C, ak, ta, pl, cp, kd, fa, fb, bm, sx, sy, gh, mb, co, ff, fm, fw, hI, hPx, hPm, hS⟩ := hLI
  have hI2 := hI
  obtain ⟨hN1, hN, hKn, hSn, hpm, hhp, hbm, hhd⟩ := hI2
  have hC := (⟨hx, hb, hml, hown, hts⟩ : CallFix p m c cL_law 4 s args wsL_law RL)
  have hpl := pm_pl hN hpm
  have hAx := dX_A hDx0
  have hAm := dM_A hDm0
  by_cases hc : (0 ≤ (xs (i + 1)) ∧ (xs (i + 1)) < nI K) ∧ (0 ≤ (xs (i + 2)) ∧ (xs (i + 2)) < nI N)
  · refine lv_aload_n hx hb dL_law_283 rfl (lv_at hl 1 rfl) ?_
    refine lv_aload_n hx hb dL_law_284 rfl (lv_at hl 0 rfl) ?_
    refine lv_iload_n hx hb dL_law_285 rfl (lv_at hl 3 rfl) ?_
    refine lv_iconst (v := 1) hx hb dL_law_286 (by decide) ?_
    refine lv_iadd hx hb dL_law_287 ?_
    refine tpI (y := nI (i + 1)) (nI_add i 1) ?_
    refine sldN hx hb hX hbl hbA hS (by omega) hL dL_law_288 ?_
    refine lv_aload_n hx hb dL_law_289 rfl (lv_at hl 0 rfl) ?_
    refine lv_iload_n hx hb dL_law_290 rfl (lv_at hl 3 rfl) ?_
    refine lv_iconst (v := 2) hx hb dL_law_291 (by decide) ?_
    refine lv_iadd hx hb dL_law_292 ?_
    refine tpI (y := nI (i + 2)) (nI_add i 2) ?_
    refine sldN hx hb hX hbl hbA hS (by omega) hL dL_law_293 ?_
    have hDx : va_D (aL qx) (wX cx qx (nI N) (nI T) (nI C) (nI K) (nI S) ak ta pl cp kd fa fb bm sx sy) := dX_aL (vD_same (by rfl) hDx0)
    refine cVw (As := [.int (xs (i + 1)), .int (xs (i + 2))]) hC hKx hPx rfl rfl (kX0_has hPx hDx (xs (i + 1)) (xs (i + 2)) hN hKn) [] (cwV 2 hts gL_law_X0_has rfl rfl rfl hdX0_has ⟨Nat.le_of_ble_eq_true rfl, Nat.le_of_ble_eq_true rfl⟩) rfl hl.1 rfl (Nat.le_of_ble_eq_true rfl) dL_law_294 ⟨Nat.le_of_ble_eq_true rfl, Nat.le_of_ble_eq_true rfl⟩ hS hAx (fun H1 locs1 hQx hz hkp hS1 => ?_)
    have hPm := keepP hPm (dM_aL (A := fun z => s.heap.size ≤ z) (vD_same (by rfl) hDm0)) (fun z h1 h2 => hap z h2 h1) hkp
    clear hPx hS hz hkp hDx
    have hPx := hQx
    have hS := hS1
    clear hQx hS1
    rw [if_pos hc] at hPx
    obtain ⟨i1, hi1, e1⟩ := inN hc.1 (by omega)
    have f1 : ix (xs (i + 1)) = i1 := by rw [e1]; exact ix_nI (by omega)
    refine lv_aload_n hx hb dL_law_297 rfl (lv_at hl 2 rfl) ?_
    refine lv_aload_n hx hb dL_law_298 rfl (lv_at hl 0 rfl) ?_
    refine lv_iload_n hx hb dL_law_299 rfl (lv_at hl 3 rfl) ?_
    refine lv_iconst (v := 1) hx hb dL_law_300 (by decide) ?_
    refine lv_iadd hx hb dL_law_301 ?_
    refine tpI (y := nI (i + 1)) (nI_add i 1) ?_
    refine sldN hx hb hX hbl hbA hS (by omega) hL dL_law_302 ?_
    refine lv_aload_n hx hb dL_law_303 rfl (lv_at hl 0 rfl) ?_
    refine lv_iload_n hx hb dL_law_304 rfl (lv_at hl 3 rfl) ?_
    refine lv_iconst (v := 2) hx hb dL_law_305 (by decide) ?_
    refine lv_iadd hx hb dL_law_306 ?_
    refine tpI (y := nI (i + 2)) (nI_add i 2) ?_
    refine sldN hx hb hX hbl hbA hS (by omega) hL dL_law_307 ?_
    have hDm : va_D (aL qm) (wM cm qm (nI N) (nI K) (nI S) ff fm fw ak ta gh kd fa fb sx sy mb co) := dM_aL (vD_same (by rfl) hDm0)
    refine cVw (As := [.int (xs (i + 1)), .int (xs (i + 2))]) hC hKm hPm rfl rfl (kX1_has hPm hDm (xs (i + 1)) (xs (i + 2)) hN hKn hpl hhp) [_] (cwV 2 hts gL_law_X1_has rfl rfl rfl hdX1_has ⟨Nat.le_of_ble_eq_true rfl, Nat.le_of_ble_eq_true rfl⟩) rfl hl.1 rfl (Nat.le_of_ble_eq_true rfl) dL_law_308 ⟨Nat.le_of_ble_eq_true rfl, Nat.le_of_ble_eq_true rfl⟩ hS hAm (fun H2 locs2 hQm hz hkp hS2 => ?_)
    have hPx := keepP hPx (dX_aL (A := fun z => s.heap.size ≤ z) (vD_same (by rfl) hDx0)) hap hkp
    clear hPm hS hz hkp hDm
    have hPm := hQm
    have hS := hS2
    clear hQm hS2
    rw [if_pos hc] at hPm
    refine lv_icmp_eq (tgt := 684) hx hb dL_law_311 (by decide) (fun _ => ?_) (fun h => absurd (by rw [if_pos hc, if_pos hc, f1, hbm i1 hi1]) h)
    exact kk _ _ ⟨N, K, S, T, C, _, ta, pl, cp, kd, fa, fb, bm, sx, sy, gh, mb, co, ff, fm, fw, hI, hPx, hPm, hS⟩
  · refine lv_aload_n hx hb dL_law_283 rfl (lv_at hl 1 rfl) ?_
    refine lv_aload_n hx hb dL_law_284 rfl (lv_at hl 0 rfl) ?_
    refine lv_iload_n hx hb dL_law_285 rfl (lv_at hl 3 rfl) ?_
    refine lv_iconst (v := 1) hx hb dL_law_286 (by decide) ?_
    refine lv_iadd hx hb dL_law_287 ?_
    refine tpI (y := nI (i + 1)) (nI_add i 1) ?_
    refine sldN hx hb hX hbl hbA hS (by omega) hL dL_law_288 ?_
    refine lv_aload_n hx hb dL_law_289 rfl (lv_at hl 0 rfl) ?_
    refine lv_iload_n hx hb dL_law_290 rfl (lv_at hl 3 rfl) ?_
    refine lv_iconst (v := 2) hx hb dL_law_291 (by decide) ?_
    refine lv_iadd hx hb dL_law_292 ?_
    refine tpI (y := nI (i + 2)) (nI_add i 2) ?_
    refine sldN hx hb hX hbl hbA hS (by omega) hL dL_law_293 ?_
    have hDx : va_D (aL qx) (wX cx qx (nI N) (nI T) (nI C) (nI K) (nI S) ak ta pl cp kd fa fb bm sx sy) := dX_aL (vD_same (by rfl) hDx0)
    refine cVw (As := [.int (xs (i + 1)), .int (xs (i + 2))]) hC hKx hPx rfl rfl (kX0_has hPx hDx (xs (i + 1)) (xs (i + 2)) hN hKn) [] (cwV 2 hts gL_law_X0_has rfl rfl rfl hdX0_has ⟨Nat.le_of_ble_eq_true rfl, Nat.le_of_ble_eq_true rfl⟩) rfl hl.1 rfl (Nat.le_of_ble_eq_true rfl) dL_law_294 ⟨Nat.le_of_ble_eq_true rfl, Nat.le_of_ble_eq_true rfl⟩ hS hAx (fun H1 locs1 hQx hz hkp hS1 => ?_)
    have hPm := keepP hPm (dM_aL (A := fun z => s.heap.size ≤ z) (vD_same (by rfl) hDm0)) (fun z h1 h2 => hap z h2 h1) hkp
    clear hPx hS hz hkp hDx
    have hPx := hQx
    have hS := hS1
    clear hQx hS1
    rw [if_neg hc] at hPx
    refine lv_aload_n hx hb dL_law_297 rfl (lv_at hl 2 rfl) ?_
    refine lv_aload_n hx hb dL_law_298 rfl (lv_at hl 0 rfl) ?_
    refine lv_iload_n hx hb dL_law_299 rfl (lv_at hl 3 rfl) ?_
    refine lv_iconst (v := 1) hx hb dL_law_300 (by decide) ?_
    refine lv_iadd hx hb dL_law_301 ?_
    refine tpI (y := nI (i + 1)) (nI_add i 1) ?_
    refine sldN hx hb hX hbl hbA hS (by omega) hL dL_law_302 ?_
    refine lv_aload_n hx hb dL_law_303 rfl (lv_at hl 0 rfl) ?_
    refine lv_iload_n hx hb dL_law_304 rfl (lv_at hl 3 rfl) ?_
    refine lv_iconst (v := 2) hx hb dL_law_305 (by decide) ?_
    refine lv_iadd hx hb dL_law_306 ?_
    refine tpI (y := nI (i + 2)) (nI_add i 2) ?_
    refine sldN hx hb hX hbl hbA hS (by omega) hL dL_law_307 ?_
    have hDm : va_D (aL qm) (wM cm qm (nI N) (nI K) (nI S) ff fm fw ak ta gh kd fa fb sx sy mb co) := dM_aL (vD_same (by rfl) hDm0)
    refine cVw (As := [.int (xs (i + 1)), .int (xs (i + 2))]) hC hKm hPm rfl rfl (kX1_has hPm hDm (xs (i + 1)) (xs (i + 2)) hN hKn hpl hhp) [_] (cwV 2 hts gL_law_X1_has rfl rfl rfl hdX1_has ⟨Nat.le_of_ble_eq_true rfl, Nat.le_of_ble_eq_true rfl⟩) rfl hl.1 rfl (Nat.le_of_ble_eq_true rfl) dL_law_308 ⟨Nat.le_of_ble_eq_true rfl, Nat.le_of_ble_eq_true rfl⟩ hS hAm (fun H2 locs2 hQm hz hkp hS2 => ?_)
    have hPx := keepP hPx (dX_aL (A := fun z => s.heap.size ≤ z) (vD_same (by rfl) hDx0)) hap hkp
    clear hPm hS hz hkp hDm
    have hPm := hQm
    have hS := hS2
    clear hQm hS2
    rw [if_neg hc] at hPm
    refine lv_icmp_eq (tgt := 684) hx hb dL_law_311 (by decide) (fun _ => ?_) (fun h => absurd (by rw [if_neg hc, if_neg hc]) h)
    exact kk _ _ ⟨N, K, S, T, C, ak, ta, pl, cp, kd, fa, fb, bm, sx, sy, gh, mb, co, ff, fm, fw, hI, hPx, hPm, hS⟩
set_option maxHeartbeats 4000000 in
set_option maxRecDepth 100000 in
theorem lc_bits {p : Program} {l : Launch} {e : Env} {s : State} {m : MethodId} {args : Array Value} {below : List Frame} {meth : Method} {c : Code} {H : Heap} {locs : List Loc} {Q : State → Prop} {ls : Array Slot} {b L i : Nat} {xs : Nat → Int32} {D : va_G} {cx cm : ClassId} {qx qm : Nat → Nat} (hLC : LC p s m c args b L xs D cx cm qx qm) (hi : i + 4 ≤ L) (hLI : LI s D cx cm qx qm H locs) (hl : lv_has ls 4 [(0, .ref b), (1, .ref (qx 0)), (2, .ref (qm 0)), (3, .int (nI i))]) (kk : ∀ (H : Heap) (locs : List Loc), LI s D cx cm qx qm H locs → W p l e room_1 s m args below meth c H locs 20 223 Q (F0 m 684 ls [])) : W p l e room_1 s m args below meth c H locs 20 223 Q (F0 m 316 ls []) := by
  obtain ⟨hx, hb, hml, hown, hts, hX, hbl, hL, hKx, hKm, hDx0, hDm0, hap⟩ := hLC
  have hbA : ¬ (fun z : Nat => s.heap.size ≤ z) b := Nat.not_le.mpr hbl
  obtain ⟨N, K, S, T, C, ak, ta, pl, cp, kd, fa, fb, bm, sx, sy, gh, mb, co, ff, fm, fw, hI, hPx, hPm, hS⟩ := hLI
  have hI2 := hI
  obtain ⟨hN1, hN, hKn, hSn, hpm, hhp, hbm, hhd⟩ := hI2
  have hC := (⟨hx, hb, hml, hown, hts⟩ : CallFix p m c cL_law 4 s args wsL_law RL)
  have hpl := pm_pl hN hpm
  have hAx := dX_A hDx0
  have hAm := dM_A hDm0
  refine lv_aload_n hx hb dL_law_316 rfl (lv_at hl 1 rfl) ?_
  refine lv_aload_n hx hb dL_law_317 rfl (lv_at hl 0 rfl) ?_
  refine lv_iload_n hx hb dL_law_318 rfl (lv_at hl 3 rfl) ?_
  refine lv_iconst (v := 1) hx hb dL_law_319 (by decide) ?_
  refine lv_iadd hx hb dL_law_320 ?_
  refine tpI (y := nI (i + 1)) (nI_add i 1) ?_
  refine sldN hx hb hX hbl hbA hS (by omega) hL dL_law_321 ?_
  refine cV (As := [.int (xs (i + 1))]) hC hKx hPx rfl rfl (kX0_bits hPx (xs (i + 1)) hKn) [] (cwV 1 hts gL_law_X0_bits rfl rfl rfl hdX0_bits ⟨Nat.le_of_ble_eq_true rfl, Nat.le_of_ble_eq_true rfl⟩) rfl hl.1 rfl (Nat.le_of_ble_eq_true rfl) dL_law_322 ⟨Nat.le_of_ble_eq_true rfl, Nat.le_of_ble_eq_true rfl⟩ ?_
  refine lv_aload_n hx hb dL_law_325 rfl (lv_at hl 2 rfl) ?_
  refine lv_aload_n hx hb dL_law_326 rfl (lv_at hl 0 rfl) ?_
  refine lv_iload_n hx hb dL_law_327 rfl (lv_at hl 3 rfl) ?_
  refine lv_iconst (v := 1) hx hb dL_law_328 (by decide) ?_
  refine lv_iadd hx hb dL_law_329 ?_
  refine tpI (y := nI (i + 1)) (nI_add i 1) ?_
  refine sldN hx hb hX hbl hbA hS (by omega) hL dL_law_330 ?_
  refine cV (As := [.int (xs (i + 1))]) hC hKm hPm rfl rfl (kX1_bits hPm (xs (i + 1)) hN hKn hpl hhp) [_] (cwV 1 hts gL_law_X1_bits rfl rfl rfl hdX1_bits ⟨Nat.le_of_ble_eq_true rfl, Nat.le_of_ble_eq_true rfl⟩) rfl hl.1 rfl (Nat.le_of_ble_eq_true rfl) dL_law_331 ⟨Nat.le_of_ble_eq_true rfl, Nat.le_of_ble_eq_true rfl⟩ ?_
  refine lv_icmp_eq (tgt := 684) hx hb dL_law_334 (by decide) (fun _ => ?_) (fun h => absurd (by by_cases hc : 0 ≤ xs (i + 1) ∧ xs (i + 1) < nI K; (obtain ⟨i1, hi1, e1⟩ := inN hc (by omega); rw [if_pos hc, if_pos hc, show ix (xs (i + 1)) = i1 by rw [e1]; exact ix_nI (by omega), hbm i1 hi1]); rw [if_neg hc, if_neg hc]) h)
  exact kk _ _ ⟨N, K, S, T, C, ak, ta, pl, cp, kd, fa, fb, bm, sx, sy, gh, mb, co, ff, fm, fw, hI, hPx, hPm, hS⟩
set_option maxHeartbeats 4000000 in
set_option maxRecDepth 100000 in
theorem lc_hold {p : Program} {l : Launch} {e : Env} {s : State} {m : MethodId} {args : Array Value} {below : List Frame} {meth : Method} {c : Code} {H : Heap} {locs : List Loc} {Q : State → Prop} {ls : Array Slot} {b L i : Nat} {xs : Nat → Int32} {D : va_G} {cx cm : ClassId} {qx qm : Nat → Nat} (hLC : LC p s m c args b L xs D cx cm qx qm) (hi : i + 4 ≤ L) (hLI : LI s D cx cm qx qm H locs) (hl : lv_has ls 4 [(0, .ref b), (1, .ref (qx 0)), (2, .ref (qm 0)), (3, .int (nI i))]) (kk : ∀ (H : Heap) (locs : List Loc), LI s D cx cm qx qm H locs → W p l e room_1 s m args below meth c H locs 20 223 Q (F0 m 684 ls [])) : W p l e room_1 s m args below meth c H locs 20 223 Q (F0 m 339 ls []) := by
  obtain ⟨hx, hb, hml, hown, hts, hX, hbl, hL, hKx, hKm, hDx0, hDm0, hap⟩ := hLC
  have hbA : ¬ (fun z : Nat => s.heap.size ≤ z) b := Nat.not_le.mpr hbl
  obtain ⟨N, K, S, T, C, ak, ta, pl, cp, kd, fa, fb, bm, sx, sy, gh, mb, co, ff, fm, fw, hI, hPx, hPm, hS⟩ := hLI
  have hI2 := hI
  obtain ⟨hN1, hN, hKn, hSn, hpm, hhp, hbm, hhd⟩ := hI2
  have hC := (⟨hx, hb, hml, hown, hts⟩ : CallFix p m c cL_law 4 s args wsL_law RL)
  have hpl := pm_pl hN hpm
  have hAx := dX_A hDx0
  have hAm := dM_A hDm0
  by_cases hc : (0 ≤ (xs (i + 1)) ∧ (xs (i + 1)) < nI N) ∧ (-1 ≤ (xs (i + 2)) ∧ (xs (i + 2)) ≤ 1)
  · refine lv_aload_n hx hb dL_law_339 rfl (lv_at hl 1 rfl) ?_
    refine lv_aload_n hx hb dL_law_340 rfl (lv_at hl 0 rfl) ?_
    refine lv_iload_n hx hb dL_law_341 rfl (lv_at hl 3 rfl) ?_
    refine lv_iconst (v := 1) hx hb dL_law_342 (by decide) ?_
    refine lv_iadd hx hb dL_law_343 ?_
    refine tpI (y := nI (i + 1)) (nI_add i 1) ?_
    refine sldN hx hb hX hbl hbA hS (by omega) hL dL_law_344 ?_
    refine lv_aload_n hx hb dL_law_345 rfl (lv_at hl 0 rfl) ?_
    refine lv_iload_n hx hb dL_law_346 rfl (lv_at hl 3 rfl) ?_
    refine lv_iconst (v := 2) hx hb dL_law_347 (by decide) ?_
    refine lv_iadd hx hb dL_law_348 ?_
    refine tpI (y := nI (i + 2)) (nI_add i 2) ?_
    refine sldN hx hb hX hbl hbA hS (by omega) hL dL_law_349 ?_
    have hDx : va_D (aL qx) (wX cx qx (nI N) (nI T) (nI C) (nI K) (nI S) ak ta pl cp kd fa fb bm sx sy) := dX_aL (vD_same (by rfl) hDx0)
    refine cVw (As := [.int (xs (i + 1)), .int (xs (i + 2))]) hC hKx hPx rfl rfl (kX0_hold hPx hDx (xs (i + 1)) (xs (i + 2)) ) [] (cwV 2 hts gL_law_X0_hold rfl rfl rfl hdX0_hold ⟨Nat.le_of_ble_eq_true rfl, Nat.le_of_ble_eq_true rfl⟩) rfl hl.1 rfl (Nat.le_of_ble_eq_true rfl) dL_law_350 ⟨Nat.le_of_ble_eq_true rfl, Nat.le_of_ble_eq_true rfl⟩ hS hAx (fun H1 locs1 hQx hz hkp hS1 => ?_)
    have hPm := keepP hPm (dM_aL (A := fun z => s.heap.size ≤ z) (vD_same (by rfl) hDm0)) (fun z h1 h2 => hap z h2 h1) hkp
    clear hPx hS hz hkp hDx
    have hPx := hQx
    have hS := hS1
    clear hQx hS1
    rw [if_pos hc] at hPx
    obtain ⟨i1, hi1, e1⟩ := inN hc.1 (by omega)
    have f1 : ix (xs (i + 1)) = i1 := by rw [e1]; exact ix_nI (by omega)
    obtain ⟨T2, C2, eT, eC, hd2⟩ := hold_T hN hhd hi1 hc.2
    rw [e1, eT, eC] at hPx
    refine lv_aload_n hx hb dL_law_353 rfl (lv_at hl 2 rfl) ?_
    refine lv_aload_n hx hb dL_law_354 rfl (lv_at hl 0 rfl) ?_
    refine lv_iload_n hx hb dL_law_355 rfl (lv_at hl 3 rfl) ?_
    refine lv_iconst (v := 1) hx hb dL_law_356 (by decide) ?_
    refine lv_iadd hx hb dL_law_357 ?_
    refine tpI (y := nI (i + 1)) (nI_add i 1) ?_
    refine sldN hx hb hX hbl hbA hS (by omega) hL dL_law_358 ?_
    refine lv_aload_n hx hb dL_law_359 rfl (lv_at hl 0 rfl) ?_
    refine lv_iload_n hx hb dL_law_360 rfl (lv_at hl 3 rfl) ?_
    refine lv_iconst (v := 2) hx hb dL_law_361 (by decide) ?_
    refine lv_iadd hx hb dL_law_362 ?_
    refine tpI (y := nI (i + 2)) (nI_add i 2) ?_
    refine sldN hx hb hX hbl hbA hS (by omega) hL dL_law_363 ?_
    have hDm : va_D (aL qm) (wM cm qm (nI N) (nI K) (nI S) ff fm fw ak ta gh kd fa fb sx sy mb co) := dM_aL (vD_same (by rfl) hDm0)
    refine cVw (As := [.int (xs (i + 1)), .int (xs (i + 2))]) hC hKm hPm rfl rfl (kX1_hold hPm hDm (xs (i + 1)) (xs (i + 2)) hN) [_] (cwV 2 hts gL_law_X1_hold rfl rfl rfl hdX1_hold ⟨Nat.le_of_ble_eq_true rfl, Nat.le_of_ble_eq_true rfl⟩) rfl hl.1 rfl (Nat.le_of_ble_eq_true rfl) dL_law_364 ⟨Nat.le_of_ble_eq_true rfl, Nat.le_of_ble_eq_true rfl⟩ hS hAm (fun H2 locs2 hQm hz hkp hS2 => ?_)
    have hPx := keepP hPx (dX_aL (A := fun z => s.heap.size ≤ z) (vD_same (by rfl) hDx0)) hap hkp
    clear hPm hS hz hkp hDm
    have hPm := hQm
    have hS := hS2
    clear hQm hS2
    rw [if_pos hc, f1] at hPm
    refine lv_icmp_eq (tgt := 684) hx hb dL_law_367 (by decide) (fun _ => ?_) (fun h => absurd (by rw [if_pos hc, if_pos hc, f1, e1]; exact hold_v hN hhd hi1) h)
    exact kk _ _ ⟨N, K, S, T2, C2, ak, ta, pl, cp, kd, fa, fb, bm, sx, sy, _, mb, co, ff, fm, fw, ⟨hN1, hN, hKn, hSn, hpm, hhp, hbm, hd2⟩, hPx, hPm, hS⟩
  · refine lv_aload_n hx hb dL_law_339 rfl (lv_at hl 1 rfl) ?_
    refine lv_aload_n hx hb dL_law_340 rfl (lv_at hl 0 rfl) ?_
    refine lv_iload_n hx hb dL_law_341 rfl (lv_at hl 3 rfl) ?_
    refine lv_iconst (v := 1) hx hb dL_law_342 (by decide) ?_
    refine lv_iadd hx hb dL_law_343 ?_
    refine tpI (y := nI (i + 1)) (nI_add i 1) ?_
    refine sldN hx hb hX hbl hbA hS (by omega) hL dL_law_344 ?_
    refine lv_aload_n hx hb dL_law_345 rfl (lv_at hl 0 rfl) ?_
    refine lv_iload_n hx hb dL_law_346 rfl (lv_at hl 3 rfl) ?_
    refine lv_iconst (v := 2) hx hb dL_law_347 (by decide) ?_
    refine lv_iadd hx hb dL_law_348 ?_
    refine tpI (y := nI (i + 2)) (nI_add i 2) ?_
    refine sldN hx hb hX hbl hbA hS (by omega) hL dL_law_349 ?_
    have hDx : va_D (aL qx) (wX cx qx (nI N) (nI T) (nI C) (nI K) (nI S) ak ta pl cp kd fa fb bm sx sy) := dX_aL (vD_same (by rfl) hDx0)
    refine cVw (As := [.int (xs (i + 1)), .int (xs (i + 2))]) hC hKx hPx rfl rfl (kX0_hold hPx hDx (xs (i + 1)) (xs (i + 2)) ) [] (cwV 2 hts gL_law_X0_hold rfl rfl rfl hdX0_hold ⟨Nat.le_of_ble_eq_true rfl, Nat.le_of_ble_eq_true rfl⟩) rfl hl.1 rfl (Nat.le_of_ble_eq_true rfl) dL_law_350 ⟨Nat.le_of_ble_eq_true rfl, Nat.le_of_ble_eq_true rfl⟩ hS hAx (fun H1 locs1 hQx hz hkp hS1 => ?_)
    have hPm := keepP hPm (dM_aL (A := fun z => s.heap.size ≤ z) (vD_same (by rfl) hDm0)) (fun z h1 h2 => hap z h2 h1) hkp
    clear hPx hS hz hkp hDx
    have hPx := hQx
    have hS := hS1
    clear hQx hS1
    rw [if_neg hc] at hPx
    refine lv_aload_n hx hb dL_law_353 rfl (lv_at hl 2 rfl) ?_
    refine lv_aload_n hx hb dL_law_354 rfl (lv_at hl 0 rfl) ?_
    refine lv_iload_n hx hb dL_law_355 rfl (lv_at hl 3 rfl) ?_
    refine lv_iconst (v := 1) hx hb dL_law_356 (by decide) ?_
    refine lv_iadd hx hb dL_law_357 ?_
    refine tpI (y := nI (i + 1)) (nI_add i 1) ?_
    refine sldN hx hb hX hbl hbA hS (by omega) hL dL_law_358 ?_
    refine lv_aload_n hx hb dL_law_359 rfl (lv_at hl 0 rfl) ?_
    refine lv_iload_n hx hb dL_law_360 rfl (lv_at hl 3 rfl) ?_
    refine lv_iconst (v := 2) hx hb dL_law_361 (by decide) ?_
    refine lv_iadd hx hb dL_law_362 ?_
    refine tpI (y := nI (i + 2)) (nI_add i 2) ?_
    refine sldN hx hb hX hbl hbA hS (by omega) hL dL_law_363 ?_
    have hDm : va_D (aL qm) (wM cm qm (nI N) (nI K) (nI S) ff fm fw ak ta gh kd fa fb sx sy mb co) := dM_aL (vD_same (by rfl) hDm0)
    refine cVw (As := [.int (xs (i + 1)), .int (xs (i + 2))]) hC hKm hPm rfl rfl (kX1_hold hPm hDm (xs (i + 1)) (xs (i + 2)) hN) [_] (cwV 2 hts gL_law_X1_hold rfl rfl rfl hdX1_hold ⟨Nat.le_of_ble_eq_true rfl, Nat.le_of_ble_eq_true rfl⟩) rfl hl.1 rfl (Nat.le_of_ble_eq_true rfl) dL_law_364 ⟨Nat.le_of_ble_eq_true rfl, Nat.le_of_ble_eq_true rfl⟩ hS hAm (fun H2 locs2 hQm hz hkp hS2 => ?_)
    have hPx := keepP hPx (dX_aL (A := fun z => s.heap.size ≤ z) (vD_same (by rfl) hDx0)) hap hkp
    clear hPm hS hz hkp hDm
    have hPm := hQm
    have hS := hS2
    clear hQm hS2
    rw [if_neg hc] at hPm
    refine lv_icmp_eq (tgt := 684) hx hb dL_law_367 (by decide) (fun _ => ?_) (fun h => absurd (by rw [if_neg hc, if_neg hc]) h)
    exact kk _ _ ⟨N, K, S, T, C, ak, ta, pl, cp, kd, fa, fb, bm, sx, sy, gh, mb, co, ff, fm, fw, hI, hPx, hPm, hS⟩
set_option maxHeartbeats 4000000 in
set_option maxRecDepth 100000 in
theorem lc_off {p : Program} {l : Launch} {e : Env} {s : State} {m : MethodId} {args : Array Value} {below : List Frame} {meth : Method} {c : Code} {H : Heap} {locs : List Loc} {Q : State → Prop} {ls : Array Slot} {b L i : Nat} {xs : Nat → Int32} {D : va_G} {cx cm : ClassId} {qx qm : Nat → Nat} (hLC : LC p s m c args b L xs D cx cm qx qm) (hi : i + 4 ≤ L) (hLI : LI s D cx cm qx qm H locs) (hl : lv_has ls 4 [(0, .ref b), (1, .ref (qx 0)), (2, .ref (qm 0)), (3, .int (nI i))]) (kk : ∀ (H : Heap) (locs : List Loc), LI s D cx cm qx qm H locs → W p l e room_1 s m args below meth c H locs 20 223 Q (F0 m 684 ls [])) : W p l e room_1 s m args below meth c H locs 20 223 Q (F0 m 372 ls []) := by
  obtain ⟨hx, hb, hml, hown, hts, hX, hbl, hL, hKx, hKm, hDx0, hDm0, hap⟩ := hLC
  have hbA : ¬ (fun z : Nat => s.heap.size ≤ z) b := Nat.not_le.mpr hbl
  obtain ⟨N, K, S, T, C, ak, ta, pl, cp, kd, fa, fb, bm, sx, sy, gh, mb, co, ff, fm, fw, hI, hPx, hPm, hS⟩ := hLI
  have hI2 := hI
  obtain ⟨hN1, hN, hKn, hSn, hpm, hhp, hbm, hhd⟩ := hI2
  have hC := (⟨hx, hb, hml, hown, hts⟩ : CallFix p m c cL_law 4 s args wsL_law RL)
  have hpl := pm_pl hN hpm
  have hAx := dX_A hDx0
  have hAm := dM_A hDm0
  refine lv_aload_n hx hb dL_law_372 rfl (lv_at hl 1 rfl) ?_
  refine lv_aload_n hx hb dL_law_373 rfl (lv_at hl 0 rfl) ?_
  refine lv_iload_n hx hb dL_law_374 rfl (lv_at hl 3 rfl) ?_
  refine lv_iconst (v := 1) hx hb dL_law_375 (by decide) ?_
  refine lv_iadd hx hb dL_law_376 ?_
  refine tpI (y := nI (i + 1)) (nI_add i 1) ?_
  refine sldN hx hb hX hbl hbA hS (by omega) hL dL_law_377 ?_
  refine lv_aload_n hx hb dL_law_378 rfl (lv_at hl 0 rfl) ?_
  refine lv_iload_n hx hb dL_law_379 rfl (lv_at hl 3 rfl) ?_
  refine lv_iconst (v := 2) hx hb dL_law_380 (by decide) ?_
  refine lv_iadd hx hb dL_law_381 ?_
  refine tpI (y := nI (i + 2)) (nI_add i 2) ?_
  refine sldN hx hb hX hbl hbA hS (by omega) hL dL_law_382 ?_
  refine cV (As := [.int (xs (i + 1)), .int (xs (i + 2))]) hC hKx hPx rfl rfl (kX0_off hPx (xs (i + 1)) (xs (i + 2)) hN hKn) [] (cwV 2 hts gL_law_X0_off rfl rfl rfl hdX0_off ⟨Nat.le_of_ble_eq_true rfl, Nat.le_of_ble_eq_true rfl⟩) rfl hl.1 rfl (Nat.le_of_ble_eq_true rfl) dL_law_383 ⟨Nat.le_of_ble_eq_true rfl, Nat.le_of_ble_eq_true rfl⟩ ?_
  refine lv_aload_n hx hb dL_law_386 rfl (lv_at hl 2 rfl) ?_
  refine lv_aload_n hx hb dL_law_387 rfl (lv_at hl 0 rfl) ?_
  refine lv_iload_n hx hb dL_law_388 rfl (lv_at hl 3 rfl) ?_
  refine lv_iconst (v := 1) hx hb dL_law_389 (by decide) ?_
  refine lv_iadd hx hb dL_law_390 ?_
  refine tpI (y := nI (i + 1)) (nI_add i 1) ?_
  refine sldN hx hb hX hbl hbA hS (by omega) hL dL_law_391 ?_
  refine lv_aload_n hx hb dL_law_392 rfl (lv_at hl 0 rfl) ?_
  refine lv_iload_n hx hb dL_law_393 rfl (lv_at hl 3 rfl) ?_
  refine lv_iconst (v := 2) hx hb dL_law_394 (by decide) ?_
  refine lv_iadd hx hb dL_law_395 ?_
  refine tpI (y := nI (i + 2)) (nI_add i 2) ?_
  refine sldN hx hb hX hbl hbA hS (by omega) hL dL_law_396 ?_
  refine cV (As := [.int (xs (i + 1)), .int (xs (i + 2))]) hC hKm hPm rfl rfl (kX1_off hPm (xs (i + 1)) (xs (i + 2)) hN hKn hpl hhp) [_] (cwV 2 hts gL_law_X1_off rfl rfl rfl hdX1_off ⟨Nat.le_of_ble_eq_true rfl, Nat.le_of_ble_eq_true rfl⟩) rfl hl.1 rfl (Nat.le_of_ble_eq_true rfl) dL_law_397 ⟨Nat.le_of_ble_eq_true rfl, Nat.le_of_ble_eq_true rfl⟩ ?_
  refine lv_icmp_eq (tgt := 684) hx hb dL_law_400 (by decide) (fun _ => ?_) (fun h => absurd (by by_cases hc : (0 ≤ xs (i + 1) ∧ xs (i + 1) < nI (2 ^ N)) ∧ (0 ≤ xs (i + 2) ∧ xs (i + 2) < nI K); (obtain ⟨i1, hi1, e1⟩ := inN hc.2 (by omega); rw [if_pos hc, if_pos hc, show ix (xs (i + 2)) = i1 by rw [e1]; exact ix_nI (by omega), hbm i1 hi1]); rw [if_neg hc, if_neg hc]) h)
  exact kk _ _ ⟨N, K, S, T, C, ak, ta, pl, cp, kd, fa, fb, bm, sx, sy, gh, mb, co, ff, fm, fw, hI, hPx, hPm, hS⟩
set_option maxHeartbeats 4000000 in
set_option maxRecDepth 100000 in
theorem lc_worst {p : Program} {l : Launch} {e : Env} {s : State} {m : MethodId} {args : Array Value} {below : List Frame} {meth : Method} {c : Code} {H : Heap} {locs : List Loc} {Q : State → Prop} {ls : Array Slot} {b L i : Nat} {xs : Nat → Int32} {D : va_G} {cx cm : ClassId} {qx qm : Nat → Nat} (hLC : LC p s m c args b L xs D cx cm qx qm) (hi : i + 4 ≤ L) (hLI : LI s D cx cm qx qm H locs) (hl : lv_has ls 4 [(0, .ref b), (1, .ref (qx 0)), (2, .ref (qm 0)), (3, .int (nI i))]) (kk : ∀ (H : Heap) (locs : List Loc), LI s D cx cm qx qm H locs → W p l e room_1 s m args below meth c H locs 20 223 Q (F0 m 684 ls [])) : W p l e room_1 s m args below meth c H locs 20 223 Q (F0 m 405 ls []) := by
  obtain ⟨hx, hb, hml, hown, hts, hX, hbl, hL, hKx, hKm, hDx0, hDm0, hap⟩ := hLC
  have hbA : ¬ (fun z : Nat => s.heap.size ≤ z) b := Nat.not_le.mpr hbl
  obtain ⟨N, K, S, T, C, ak, ta, pl, cp, kd, fa, fb, bm, sx, sy, gh, mb, co, ff, fm, fw, hI, hPx, hPm, hS⟩ := hLI
  have hI2 := hI
  obtain ⟨hN1, hN, hKn, hSn, hpm, hhp, hbm, hhd⟩ := hI2
  have hC := (⟨hx, hb, hml, hown, hts⟩ : CallFix p m c cL_law 4 s args wsL_law RL)
  have hpl := pm_pl hN hpm
  have hAx := dX_A hDx0
  have hAm := dM_A hDm0
  refine lv_aload_n hx hb dL_law_405 rfl (lv_at hl 1 rfl) ?_
  refine lv_aload_n hx hb dL_law_406 rfl (lv_at hl 0 rfl) ?_
  refine lv_iload_n hx hb dL_law_407 rfl (lv_at hl 3 rfl) ?_
  refine lv_iconst (v := 1) hx hb dL_law_408 (by decide) ?_
  refine lv_iadd hx hb dL_law_409 ?_
  refine tpI (y := nI (i + 1)) (nI_add i 1) ?_
  refine sldN hx hb hX hbl hbA hS (by omega) hL dL_law_410 ?_
  refine cV (As := [.int (xs (i + 1))]) hC hKx hPx rfl rfl (kX0_worst hPx (xs (i + 1)) hN hKn) [] (cwV 1 hts gL_law_X0_worst rfl rfl rfl hdX0_worst ⟨Nat.le_of_ble_eq_true rfl, Nat.le_of_ble_eq_true rfl⟩) rfl hl.1 rfl (Nat.le_of_ble_eq_true rfl) dL_law_411 ⟨Nat.le_of_ble_eq_true rfl, Nat.le_of_ble_eq_true rfl⟩ ?_
  refine lv_aload_n hx hb dL_law_414 rfl (lv_at hl 2 rfl) ?_
  refine lv_aload_n hx hb dL_law_415 rfl (lv_at hl 0 rfl) ?_
  refine lv_iload_n hx hb dL_law_416 rfl (lv_at hl 3 rfl) ?_
  refine lv_iconst (v := 1) hx hb dL_law_417 (by decide) ?_
  refine lv_iadd hx hb dL_law_418 ?_
  refine tpI (y := nI (i + 1)) (nI_add i 1) ?_
  refine sldN hx hb hX hbl hbA hS (by omega) hL dL_law_419 ?_
  have hDm : va_D (aL qm) (wM cm qm (nI N) (nI K) (nI S) ff fm fw ak ta gh kd fa fb sx sy mb co) := dM_aL (vD_same (by rfl) hDm0)
  refine cVw (As := [.int (xs (i + 1))]) hC hKm hPm rfl rfl (kX1_worst hPm hDm (xs (i + 1)) hN hKn hpl hhp) [_] (cwV 1 hts gL_law_X1_worst rfl rfl rfl hdX1_worst ⟨Nat.le_of_ble_eq_true rfl, Nat.le_of_ble_eq_true rfl⟩) rfl hl.1 rfl (Nat.le_of_ble_eq_true rfl) dL_law_420 ⟨Nat.le_of_ble_eq_true rfl, Nat.le_of_ble_eq_true rfl⟩ hS hAm (fun H2 locs2 hQm hz hkp hS2 => ?_)
  have hPx := keepP hPx (dX_aL (A := fun z => s.heap.size ≤ z) (vD_same (by rfl) hDx0)) hap hkp
  clear hPm hS hz hkp hDm
  have hPm := hQm
  have hS := hS2
  clear hQm hS2
  refine lv_icmp_eq (tgt := 684) hx hb dL_law_423 (by decide) (fun _ => ?_) (fun h => absurd (by rw [woF_congr (b1 := bm) (b2 := rbF (hbX pl kd fa fb N) mb K) (fun j hj => by rw [rbF_lt hj]; exact hbm j hj)]) h)
  exact kk _ _ ⟨N, K, S, T, C, ak, ta, pl, cp, kd, fa, fb, bm, sx, sy, gh, _, co, ff, fm, fw, hI, hPx, hPm, hS⟩
set_option maxHeartbeats 4000000 in
set_option maxRecDepth 100000 in
theorem lc_squares {p : Program} {l : Launch} {e : Env} {s : State} {m : MethodId} {args : Array Value} {below : List Frame} {meth : Method} {c : Code} {H : Heap} {locs : List Loc} {Q : State → Prop} {ls : Array Slot} {b L i : Nat} {xs : Nat → Int32} {D : va_G} {cx cm : ClassId} {qx qm : Nat → Nat} (hLC : LC p s m c args b L xs D cx cm qx qm) (hi : i + 4 ≤ L) (hLI : LI s D cx cm qx qm H locs) (hl : lv_has ls 4 [(0, .ref b), (1, .ref (qx 0)), (2, .ref (qm 0)), (3, .int (nI i))]) (kk : ∀ (H : Heap) (locs : List Loc), LI s D cx cm qx qm H locs → W p l e room_1 s m args below meth c H locs 20 223 Q (F0 m 684 ls [])) : W p l e room_1 s m args below meth c H locs 20 223 Q (F0 m 428 ls []) := by
  obtain ⟨hx, hb, hml, hown, hts, hX, hbl, hL, hKx, hKm, hDx0, hDm0, hap⟩ := hLC
  have hbA : ¬ (fun z : Nat => s.heap.size ≤ z) b := Nat.not_le.mpr hbl
  obtain ⟨N, K, S, T, C, ak, ta, pl, cp, kd, fa, fb, bm, sx, sy, gh, mb, co, ff, fm, fw, hI, hPx, hPm, hS⟩ := hLI
  have hI2 := hI
  obtain ⟨hN1, hN, hKn, hSn, hpm, hhp, hbm, hhd⟩ := hI2
  have hC := (⟨hx, hb, hml, hown, hts⟩ : CallFix p m c cL_law 4 s args wsL_law RL)
  have hpl := pm_pl hN hpm
  have hAx := dX_A hDx0
  have hAm := dM_A hDm0
  refine lv_aload_n hx hb dL_law_428 rfl (lv_at hl 1 rfl) ?_
  refine lv_aload_n hx hb dL_law_429 rfl (lv_at hl 0 rfl) ?_
  refine lv_iload_n hx hb dL_law_430 rfl (lv_at hl 3 rfl) ?_
  refine lv_iconst (v := 1) hx hb dL_law_431 (by decide) ?_
  refine lv_iadd hx hb dL_law_432 ?_
  refine tpI (y := nI (i + 1)) (nI_add i 1) ?_
  refine sldN hx hb hX hbl hbA hS (by omega) hL dL_law_433 ?_
  refine cV (As := [.int (xs (i + 1))]) hC hKx hPx rfl rfl (kX0_squares hPx (xs (i + 1)) hN hKn) [] (cwV 1 hts gL_law_X0_squares rfl rfl rfl hdX0_squares ⟨Nat.le_of_ble_eq_true rfl, Nat.le_of_ble_eq_true rfl⟩) rfl hl.1 rfl (Nat.le_of_ble_eq_true rfl) dL_law_434 ⟨Nat.le_of_ble_eq_true rfl, Nat.le_of_ble_eq_true rfl⟩ ?_
  refine lv_aload_n hx hb dL_law_437 rfl (lv_at hl 2 rfl) ?_
  refine lv_aload_n hx hb dL_law_438 rfl (lv_at hl 0 rfl) ?_
  refine lv_iload_n hx hb dL_law_439 rfl (lv_at hl 3 rfl) ?_
  refine lv_iconst (v := 1) hx hb dL_law_440 (by decide) ?_
  refine lv_iadd hx hb dL_law_441 ?_
  refine tpI (y := nI (i + 1)) (nI_add i 1) ?_
  refine sldN hx hb hX hbl hbA hS (by omega) hL dL_law_442 ?_
  have hDm : va_D (aL qm) (wM cm qm (nI N) (nI K) (nI S) ff fm fw ak ta gh kd fa fb sx sy mb co) := dM_aL (vD_same (by rfl) hDm0)
  refine cVw (As := [.int (xs (i + 1))]) hC hKm hPm rfl rfl (kX1_squares hPm hDm (xs (i + 1)) hN hKn hpl hhp) [_] (cwV 1 hts gL_law_X1_squares rfl rfl rfl hdX1_squares ⟨Nat.le_of_ble_eq_true rfl, Nat.le_of_ble_eq_true rfl⟩) rfl hl.1 rfl (Nat.le_of_ble_eq_true rfl) dL_law_443 ⟨Nat.le_of_ble_eq_true rfl, Nat.le_of_ble_eq_true rfl⟩ hS hAm (fun H2 locs2 hQm hz hkp hS2 => ?_)
  have hPx := keepP hPx (dX_aL (A := fun z => s.heap.size ≤ z) (vD_same (by rfl) hDx0)) hap hkp
  clear hPm hS hz hkp hDm
  have hPm := hQm
  have hS := hS2
  clear hQm hS2
  refine lv_icmp_eq (tgt := 684) hx hb dL_law_446 (by decide) (fun _ => ?_) (fun h => absurd (by rw [sqF_congr (b1 := bm) (b2 := rbF (hbX pl kd fa fb N) mb K) (fun j hj => by rw [rbF_lt hj]; exact hbm j hj)]) h)
  exact kk _ _ ⟨N, K, S, T, C, ak, ta, pl, cp, kd, fa, fb, bm, sx, sy, gh, _, co, ff, fm, fw, hI, hPx, hPm, hS⟩
set_option maxHeartbeats 4000000 in
set_option maxRecDepth 100000 in
theorem lc_times {p : Program} {l : Launch} {e : Env} {s : State} {m : MethodId} {args : Array Value} {below : List Frame} {meth : Method} {c : Code} {H : Heap} {locs : List Loc} {Q : State → Prop} {ls : Array Slot} {b L i : Nat} {xs : Nat → Int32} {D : va_G} {cx cm : ClassId} {qx qm : Nat → Nat} (hLC : LC p s m c args b L xs D cx cm qx qm) (hi : i + 4 ≤ L) (hLI : LI s D cx cm qx qm H locs) (hl : lv_has ls 4 [(0, .ref b), (1, .ref (qx 0)), (2, .ref (qm 0)), (3, .int (nI i))]) (kk : ∀ (H : Heap) (locs : List Loc), LI s D cx cm qx qm H locs → W p l e room_1 s m args below meth c H locs 20 223 Q (F0 m 684 ls [])) : W p l e room_1 s m args below meth c H locs 20 223 Q (F0 m 451 ls []) := by
  obtain ⟨hx, hb, hml, hown, hts, hX, hbl, hL, hKx, hKm, hDx0, hDm0, hap⟩ := hLC
  have hbA : ¬ (fun z : Nat => s.heap.size ≤ z) b := Nat.not_le.mpr hbl
  obtain ⟨N, K, S, T, C, ak, ta, pl, cp, kd, fa, fb, bm, sx, sy, gh, mb, co, ff, fm, fw, hI, hPx, hPm, hS⟩ := hLI
  have hI2 := hI
  obtain ⟨hN1, hN, hKn, hSn, hpm, hhp, hbm, hhd⟩ := hI2
  have hC := (⟨hx, hb, hml, hown, hts⟩ : CallFix p m c cL_law 4 s args wsL_law RL)
  have hpl := pm_pl hN hpm
  have hAx := dX_A hDx0
  have hAm := dM_A hDm0
  refine lv_aload_n hx hb dL_law_451 rfl (lv_at hl 1 rfl) ?_
  refine cV (As := []) hC hKx hPx rfl rfl (kX0_times hPx  hN hKn) [] (cwV 0 hts gL_law_X0_times rfl rfl rfl hdX0_times ⟨Nat.le_of_ble_eq_true rfl, Nat.le_of_ble_eq_true rfl⟩) rfl hl.1 rfl (Nat.le_of_ble_eq_true rfl) dL_law_452 ⟨Nat.le_of_ble_eq_true rfl, Nat.le_of_ble_eq_true rfl⟩ ?_
  refine lv_aload_n hx hb dL_law_455 rfl (lv_at hl 2 rfl) ?_
  refine cV (As := []) hC hKm hPm rfl rfl (kX1_times hPm  hN hKn hpl hhp) [_] (cwV 0 hts gL_law_X1_times rfl rfl rfl hdX1_times ⟨Nat.le_of_ble_eq_true rfl, Nat.le_of_ble_eq_true rfl⟩) rfl hl.1 rfl (Nat.le_of_ble_eq_true rfl) dL_law_456 ⟨Nat.le_of_ble_eq_true rfl, Nat.le_of_ble_eq_true rfl⟩ ?_
  refine lv_icmp_eq (tgt := 684) hx hb dL_law_459 (by decide) (fun _ => ?_) (fun h => absurd (tiF_congr hbm) h)
  exact kk _ _ ⟨N, K, S, T, C, ak, ta, pl, cp, kd, fa, fb, bm, sx, sy, gh, mb, co, ff, fm, fw, hI, hPx, hPm, hS⟩
set_option maxHeartbeats 4000000 in
set_option maxRecDepth 100000 in
theorem lc_least {p : Program} {l : Launch} {e : Env} {s : State} {m : MethodId} {args : Array Value} {below : List Frame} {meth : Method} {c : Code} {H : Heap} {locs : List Loc} {Q : State → Prop} {ls : Array Slot} {b L i : Nat} {xs : Nat → Int32} {D : va_G} {cx cm : ClassId} {qx qm : Nat → Nat} (hLC : LC p s m c args b L xs D cx cm qx qm) (hi : i + 4 ≤ L) (hLI : LI s D cx cm qx qm H locs) (hl : lv_has ls 4 [(0, .ref b), (1, .ref (qx 0)), (2, .ref (qm 0)), (3, .int (nI i))]) (kk : ∀ (H : Heap) (locs : List Loc), LI s D cx cm qx qm H locs → W p l e room_1 s m args below meth c H locs 20 223 Q (F0 m 684 ls [])) : W p l e room_1 s m args below meth c H locs 20 223 Q (F0 m 464 ls []) := by
  obtain ⟨hx, hb, hml, hown, hts, hX, hbl, hL, hKx, hKm, hDx0, hDm0, hap⟩ := hLC
  have hbA : ¬ (fun z : Nat => s.heap.size ≤ z) b := Nat.not_le.mpr hbl
  obtain ⟨N, K, S, T, C, ak, ta, pl, cp, kd, fa, fb, bm, sx, sy, gh, mb, co, ff, fm, fw, hI, hPx, hPm, hS⟩ := hLI
  have hI2 := hI
  obtain ⟨hN1, hN, hKn, hSn, hpm, hhp, hbm, hhd⟩ := hI2
  have hC := (⟨hx, hb, hml, hown, hts⟩ : CallFix p m c cL_law 4 s args wsL_law RL)
  have hpl := pm_pl hN hpm
  have hAx := dX_A hDx0
  have hAm := dM_A hDm0
  refine lv_aload_n hx hb dL_law_464 rfl (lv_at hl 1 rfl) ?_
  have hse := search_eq (f0 := ff) (m0 := fm) (b1 := bm) (b2 := rbF (hbX pl kd fa fb N) mb K) hN hKn hhd (fun j hj => by rw [rbF_lt hj]; exact hbm j hj)
  refine cV (As := []) hC hKx hPx rfl rfl (kX0_least hPx  hN hKn hhd.2.1) [] (cwV 0 hts gL_law_X0_least rfl rfl rfl hdX0_least ⟨Nat.le_of_ble_eq_true rfl, Nat.le_of_ble_eq_true rfl⟩) rfl hl.1 rfl (Nat.le_of_ble_eq_true rfl) dL_law_465 ⟨Nat.le_of_ble_eq_true rfl, Nat.le_of_ble_eq_true rfl⟩ ?_
  refine lv_aload_n hx hb dL_law_468 rfl (lv_at hl 2 rfl) ?_
  have hDm : va_D (aL qm) (wM cm qm (nI N) (nI K) (nI S) ff fm fw ak ta gh kd fa fb sx sy mb co) := dM_aL (vD_same (by rfl) hDm0)
  refine cVw (As := []) hC hKm hPm rfl rfl (kX1_least hPm hDm  hN hKn hpl hhp) [_] (cwV 0 hts gL_law_X1_least rfl rfl rfl hdX1_least ⟨Nat.le_of_ble_eq_true rfl, Nat.le_of_ble_eq_true rfl⟩) rfl hl.1 rfl (Nat.le_of_ble_eq_true rfl) dL_law_469 ⟨Nat.le_of_ble_eq_true rfl, Nat.le_of_ble_eq_true rfl⟩ hS hAm (fun H2 locs2 hQm hz hkp hS2 => ?_)
  have hPx := keepP hPx (dX_aL (A := fun z => s.heap.size ≤ z) (vD_same (by rfl) hDx0)) hap hkp
  clear hPm hS hz hkp hDm
  have hPm := hQm
  have hS := hS2
  clear hQm hS2
  refine lv_icmp_eq (tgt := 684) hx hb dL_law_472 (by decide) (fun _ => ?_) (fun h => absurd (by rw [hse]) h)
  exact kk _ _ ⟨N, K, S, T, C, ak, ta, pl, cp, kd, fa, fb, bm, sx, sy, gh, _, co, _, _, _, hI, hPx, hPm, hS⟩
