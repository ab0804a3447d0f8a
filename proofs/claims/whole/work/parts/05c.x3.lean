set_option maxHeartbeats 4000000 in
set_option maxRecDepth 100000 in
theorem kX0_isStepLength {l : Launch}  (k : Int32)  : Met l yX0_isStepLength wsX0_isStepLength { frames := 0, cells := 0, slots := 0, locals := 0 } (fun v _ => v = ([.int k] : List Value).toArray) (QcRead (b2 (-20 ≤ k ∧ k ≤ 20))) 0 0 (fun _ => False) := by
  refine mS 1 (by decide) rfl (Nat.le_of_ble_eq_true rfl) ?_
  intro p e s m below meth c hx hb hml hr hlk hts hown ls hl
  have hC := (⟨hx, hb, hml, hown, hts⟩ : CallFix p m c cX0_isStepLength 1 s _ wsX0_isStepLength RX0)
  have hl : lv_has ls 1 [(0, .int (k))] := hl
  refine lv_iload_n hx hb dX0_isStepLength_0 rfl (lv_at hl 0 rfl) ?_
  refine lv_bipush (v := (-20)) hx hb dX0_isStepLength_1 (by decide) ?_
  refine lv_icmp_lt (tgt := 16) hx hb dX0_isStepLength_3 (by decide) (fun cz1 => ?_) (fun cz1 => ?_)
  · refine lv_iconst (v := 0) hx hb dX0_isStepLength_16 (by decide) ?_
    exact rZ hx hb hr hlk rfl dX0_isStepLength_17 rfl (b2_f (by clear hl hC hts hown hx hb hr hlk hml; first | (simp_all [Int32.not_lt, Int32.not_le]; done) | grind))
  · refine lv_iload_n hx hb dX0_isStepLength_6 rfl (lv_at hl 0 rfl) ?_
    refine lv_bipush (v := 20) hx hb dX0_isStepLength_7 (by decide) ?_
    refine lv_icmp_gt (tgt := 16) hx hb dX0_isStepLength_9 (by decide) (fun cz2 => ?_) (fun cz2 => ?_)
    · refine lv_iconst (v := 0) hx hb dX0_isStepLength_16 (by decide) ?_
      exact rZ hx hb hr hlk rfl dX0_isStepLength_17 rfl (b2_f (by clear hl hC hts hown hx hb hr hlk hml; first | (simp_all [Int32.not_lt, Int32.not_le]; done) | grind))
    · refine lv_iconst (v := 1) hx hb dX0_isStepLength_12 (by decide) ?_
      refine lv_goto (tgt := 17) hx hb dX0_isStepLength_13 (by decide) ?_
      exact rZ hx hb hr hlk rfl dX0_isStepLength_17 rfl (b2_t (by clear hl hC hts hown hx hb hr hlk hml; first | (simp_all [Int32.not_lt, Int32.not_le]; done) | grind))

theorem hdX0_signingCount : yX0_signingCount.cls = RX0 ∧ yX0_signingCount.cls ≠ "java/lang/invoke/MethodHandle" ∧ yX0_signingCount.cls ≠ "java/lang/invoke/VarHandle" ∧ (parseMethodDescriptor yX0_signingCount.desc).map (fun d => d.parameters.length) = some 0 := by decide +kernel
set_option maxHeartbeats 4000000 in
set_option maxRecDepth 100000 in
theorem kX0_signingCount {l : Launch} {D : va_G} {cy : ClassId} {H : Heap} {q : Nat → Nat} {gT gC : Int32} {ak : Int64} {ta pl cp kd fa fb bm sx sy : Nat → Int32} {N K S : Nat}  (hP : va_P D vwCl (wX cy q (nI N) gT gC (nI K) (nI S) ak ta pl cp kd fa fb bm sx sy) H)  (hSn : S ≤ 10) : Met l yX0_signingCount wsX0_signingCount { frames := 0, cells := 0, slots := 0, locals := 0 } (pcK D cy H [.ref (q 0)]) (QcRead (nI (2 ^ S))) 0 0 (fun _ => False) := by
  refine mV 1 (by decide) rfl (Nat.le_of_ble_eq_true rfl) ?_
  intro p e s m below meth c hx hb hml hr hlk hts hown hnm hK hH ls hl
  have hC := (⟨hx, hb, hml, hown, hts⟩ : CallFix p m c cX0_signingCount 1 s _ wsX0_signingCount RX0)
  have hin : ∀ w ∈ wsX00, w ∈ wsX0_signingCount := by decide +kernel
  have L44 : Cond.fieldLink RX0 44 "TwoColours" "stepCount" "I" ∈ wsX0_signingCount := by decide +kernel
  have hl : lv_has ls 1 [(0, .ref (q 0))] := hl
  refine lv_iconst (v := 1) hx hb dX0_signingCount_0 (by decide) ?_
  refine lv_aload_n hx hb dX0_signingCount_1 rfl (lv_at hl 0 rfl) ?_
  refine gX_stepCount hx hb hts hin hown hK hP L44 dX0_signingCount_2 ?_
  refine lv_ishl hx hb dX0_signingCount_5 ?_
  exact rI hx hb hr hlk hH dX0_signingCount_6 (shl1 S (by omega))

set_option maxHeartbeats 4000000 in
set_option maxRecDepth 100000 in
theorem kX0_greaterSize {l : Launch}  (x : Int32) (y : Int32)  : Met l yX0_greaterSize wsX0_greaterSize { frames := 1, cells := 0, slots := 0, locals := 21 } (fun v _ => v = ([.int x, .int y] : List Value).toArray) (QcRead (gsz x y)) 0 0 (fun _ => False) := by
  refine mS 2 (by decide) rfl (Nat.le_of_ble_eq_true rfl) ?_
  intro p e s m below meth c hx hb hml hr hlk hts hown ls hl
  have hC := (⟨hx, hb, hml, hown, hts⟩ : CallFix p m c cX0_greaterSize 2 s _ wsX0_greaterSize RX0)
  have hl : lv_has ls 2 [(0, .int (x)), (1, .int (y))] := hl
  refine lv_iload_n hx hb dX0_greaterSize_0 rfl (lv_at hl 0 rfl) ?_
  refine va_mabs hx hb (hml.trans hl.1.symm) hown (hts (.methodLink RX0 148 Lib.Math.abs.name) (by decide +kernel)) (hts (.static Lib.Math.abs.name) (by decide +kernel)) (hts (.initialized "java/lang/Math") (by decide +kernel)) (hts (.code Lib.Math.abs.name Lib.Math.abs.code 1 (some .int)) (by decide +kernel)) (Nat.le_of_ble_eq_true rfl) (Nat.le_of_ble_eq_true rfl) (Nat.zero_le _) (Nat.zero_le _) dX0_greaterSize_1 ?_
  refine lv_iload_n hx hb dX0_greaterSize_4 rfl (lv_at hl 1 rfl) ?_
  refine va_mabs hx hb (hml.trans hl.1.symm) hown (hts (.methodLink RX0 148 Lib.Math.abs.name) (by decide +kernel)) (hts (.static Lib.Math.abs.name) (by decide +kernel)) (hts (.initialized "java/lang/Math") (by decide +kernel)) (hts (.code Lib.Math.abs.name Lib.Math.abs.code 1 (some .int)) (by decide +kernel)) (Nat.le_of_ble_eq_true rfl) (Nat.le_of_ble_eq_true rfl) (Nat.zero_le _) (Nat.zero_le _) dX0_greaterSize_5 ?_
  refine va_mmax hx hb (hml.trans hl.1.symm) hown (hts (.methodLink RX0 109 Lib.Math.max.name) (by decide +kernel)) (hts (.static Lib.Math.max.name) (by decide +kernel)) (hts (.initialized "java/lang/Math") (by decide +kernel)) (hts (.code Lib.Math.max.name Lib.Math.max.code 2 (some .int)) (by decide +kernel)) (Nat.le_of_ble_eq_true rfl) (Nat.le_of_ble_eq_true rfl) (Nat.zero_le _) (Nat.zero_le _) dX0_greaterSize_8 ?_
  exact rI hx hb hr hlk rfl dX0_greaterSize_11 rfl

theorem hdX0_strayOf : yX0_strayOf.cls = RX0 ∧ yX0_strayOf.cls ≠ "java/lang/invoke/MethodHandle" ∧ yX0_strayOf.cls ≠ "java/lang/invoke/VarHandle" ∧ (parseMethodDescriptor yX0_strayOf.desc).map (fun d => d.parameters.length) = some 1 := by decide +kernel
set_option maxHeartbeats 4000000 in
set_option maxRecDepth 100000 in
theorem kX0_strayOf {l : Launch} {D : va_G} {cy : ClassId} {H : Heap} {q : Nat → Nat} {gT gC : Int32} {ak : Int64} {ta pl cp kd fa fb bm sx sy : Nat → Int32} {N K S : Nat}  (hP : va_P D vwCl (wX cy q (nI N) gT gC (nI K) (nI S) ak ta pl cp kd fa fb bm sx sy) H) (k : Int32) (hSn : S ≤ 10) : Met l yX0_strayOf wsX0_strayOf { frames := 2, cells := 0, slots := 0, locals := 42 } (pcK D cy H [.ref (q 0), .int k]) (QcRead (stm sx sy k S)) 0 0 (fun _ => False) := by
  refine mV 7 (by decide) rfl (Nat.le_of_ble_eq_true rfl) ?_
  intro p e s m below meth c hx hb hml hr hlk hts hown hnm hK hH ls hl
  have hC := (⟨hx, hb, hml, hown, hts⟩ : CallFix p m c cX0_strayOf 7 s _ wsX0_strayOf RX0)
  have hin : ∀ w ∈ wsX00, w ∈ wsX0_strayOf := by decide +kernel
  have L44 : Cond.fieldLink RX0 44 "TwoColours" "stepCount" "I" ∈ wsX0_strayOf := by decide +kernel
  have L47 : Cond.fieldLink RX0 47 "TwoColours" "stepX" "[I" ∈ wsX0_strayOf := by decide +kernel
  have L50 : Cond.fieldLink RX0 50 "TwoColours" "stepY" "[I" ∈ wsX0_strayOf := by decide +kernel
  have hl : lv_has ls 7 [(0, .ref (q 0)), (1, .int (k))] := hl
  refine lv_iconst (v := 0) hx hb dX0_strayOf_0 (by decide) ?_
  refine lv_istore_n (lv' := [(2, .int (0)), (0, .ref (q 0)), (1, .int (k))]) hx hb dX0_strayOf_1 rfl hl (by decide) rfl (fun ls hl => ?_)
  refine lv_iconst (v := 0) hx hb dX0_strayOf_2 (by decide) ?_
  refine lv_istore_n (lv' := [(3, .int (0)), (2, .int (0)), (0, .ref (q 0)), (1, .int (k))]) hx hb dX0_strayOf_3 rfl hl (by decide) rfl (fun ls hl => ?_)
  refine lv_iconst (v := 0) hx hb dX0_strayOf_4 (by decide) ?_
  refine lv_istore (lv' := [(4, .int (0)), (3, .int (0)), (2, .int (0)), (0, .ref (q 0)), (1, .int (k))]) hx hb dX0_strayOf_5 hl (by decide) rfl (fun ls hl => ?_)
  refine lv_iconst (v := 0) hx hb dX0_strayOf_7 (by decide) ?_
  refine lv_istore (lv' := [(5, .int (0)), (4, .int (0)), (3, .int (0)), (2, .int (0)), (0, .ref (q 0)), (1, .int (k))]) hx hb dX0_strayOf_8 hl (by decide) rfl (fun ls hl => ?_)
  refine lpP 10 (fun i ls => lv_has ls 7 [(0, .ref (q 0)), (1, .int (k)), (2, .int (stx sx k i)), (3, .int (stx sy k i)), (4, .int (stm sx sy k i)), (5, .int (nI i))]) (S) ?_ (0) ls (by omega) (lv_sub hl [4, 5, 3, 2, 1, 0] rfl)
  intro i ls hi hl ih_10
  refine lv_iload hx hb dX0_strayOf_10 (lv_at hl 5 rfl) ?_
  refine lv_aload_n hx hb dX0_strayOf_12 rfl (lv_at hl 0 rfl) ?_
  refine gX_stepCount hx hb hts hin hown hK hP L44 dX0_strayOf_13 ?_
  refine lv_icmp_ge (tgt := 79) hx hb dX0_strayOf_16 (by decide) (fun cz1 => ?_) (fun cz1 => ?_)
  · have cz1 : S ≤ i := (nI_leI (a := S) (b := i) (by omega) (by omega)).mp cz1
    refine lv_iload hx hb dX0_strayOf_79 (lv_at hl 4 rfl) ?_
    exact rI hx hb hr hlk hH dX0_strayOf_81 (by rw [show i = S by omega])
  · have cz1 : ¬ S ≤ i := fun h => cz1 ((nI_leI (a := S) (b := i) (by omega) (by omega)).mpr h)
    refine lv_iload_n hx hb dX0_strayOf_19 rfl (lv_at hl 1 rfl) ?_
    refine lv_iload hx hb dX0_strayOf_20 (lv_at hl 5 rfl) ?_
    refine cS (As := [.int (k), .int (nI i)]) hC (kX0_bitOf k (nI i) ) [] (va_cwS 2 hts gX0_strayOf_X0_bitOf rfl rfl rfl (by decide +kernel) ⟨Nat.le_of_ble_eq_true rfl, Nat.le_of_ble_eq_true rfl⟩) rfl hl.1 rfl (Nat.le_of_ble_eq_true rfl) dX0_strayOf_22 ⟨Nat.zero_le _, Nat.zero_le _⟩ ?_
    refine lv_if_ne (tgt := 32) hx hb dX0_strayOf_25 (by decide) (fun cz2 => ?_) (fun cz2 => ?_)
    · refine lv_iconst (v := (-1)) hx hb dX0_strayOf_32 (by decide) ?_
      refine tpI (y := sgI k i) (by rw [sgI, if_neg cz2]) ?_
      refine lv_istore (lv' := [(6, .int (sgI k i)), (0, .ref (q 0)), (1, .int (k)), (2, .int (stx sx k i)), (3, .int (stx sy k i)), (4, .int (stm sx sy k i)), (5, .int (nI i))]) hx hb dX0_strayOf_33 hl (by decide) rfl (fun ls hl => ?_)
      refine lv_iload_n hx hb dX0_strayOf_35 rfl (lv_at hl 3 rfl) ?_
      refine lv_iload hx hb dX0_strayOf_36 (lv_at hl 0 rfl) ?_
      refine lv_aload_n hx hb dX0_strayOf_38 rfl (lv_at hl 1 rfl) ?_
      refine gX_stepX hx hb hts hin hown hK hP L47 dX0_strayOf_39 ?_
      refine lv_iload hx hb dX0_strayOf_42 (lv_at hl 6 rfl) ?_
      refine ldX_stepX (j := i) hx hb hK hP rfl (by omega) dX0_strayOf_44 ?_
      refine lv_imul hx hb dX0_strayOf_45 ?_
      refine lv_iadd hx hb dX0_strayOf_46 ?_
      refine lv_istore_n (lv' := [(2, .int ((stx sx k i) + ((sgI k i) * (sx i)))), (6, .int (sgI k i)), (0, .ref (q 0)), (1, .int (k)), (3, .int (stx sy k i)), (4, .int (stm sx sy k i)), (5, .int (nI i))]) hx hb dX0_strayOf_47 rfl hl (by decide) rfl (fun ls hl => ?_)
      refine lv_iload_n hx hb dX0_strayOf_48 rfl (lv_at hl 4 rfl) ?_
      refine lv_iload hx hb dX0_strayOf_49 (lv_at hl 1 rfl) ?_
      refine lv_aload_n hx hb dX0_strayOf_51 rfl (lv_at hl 2 rfl) ?_
      refine gX_stepY hx hb hts hin hown hK hP L50 dX0_strayOf_52 ?_
      refine lv_iload hx hb dX0_strayOf_55 (lv_at hl 6 rfl) ?_
      refine ldX_stepY (j := i) hx hb hK hP rfl (by omega) dX0_strayOf_57 ?_
      refine lv_imul hx hb dX0_strayOf_58 ?_
      refine lv_iadd hx hb dX0_strayOf_59 ?_
      refine lv_istore_n (lv' := [(3, .int ((stx sy k i) + ((sgI k i) * (sy i)))), (2, .int ((stx sx k i) + ((sgI k i) * (sx i)))), (6, .int (sgI k i)), (0, .ref (q 0)), (1, .int (k)), (4, .int (stm sx sy k i)), (5, .int (nI i))]) hx hb dX0_strayOf_60 rfl hl (by decide) rfl (fun ls hl => ?_)
      refine lv_iload hx hb dX0_strayOf_61 (lv_at hl 5 rfl) ?_
      refine lv_iload_n hx hb dX0_strayOf_63 rfl (lv_at hl 1 rfl) ?_
      refine lv_iload_n hx hb dX0_strayOf_64 rfl (lv_at hl 0 rfl) ?_
      refine cS (As := [.int ((stx sx k i) + ((sgI k i) * (sx i))), .int ((stx sy k i) + ((sgI k i) * (sy i)))]) hC (kX0_greaterSize ((stx sx k i) + ((sgI k i) * (sx i))) ((stx sy k i) + ((sgI k i) * (sy i))) ) [.int (stm sx sy k i)] (va_cwS 2 hts gX0_strayOf_X0_greaterSize rfl rfl rfl (by decide +kernel) ⟨Nat.le_of_ble_eq_true rfl, Nat.le_of_ble_eq_true rfl⟩) rfl hl.1 rfl (Nat.le_of_ble_eq_true rfl) dX0_strayOf_65 ⟨Nat.zero_le _, Nat.zero_le _⟩ ?_
      refine va_mmax hx hb (hml.trans hl.1.symm) hown (hts (.methodLink RX0 109 Lib.Math.max.name) (by decide +kernel)) (hts (.static Lib.Math.max.name) (by decide +kernel)) (hts (.initialized "java/lang/Math") (by decide +kernel)) (hts (.code Lib.Math.max.name Lib.Math.max.code 2 (some .int)) (by decide +kernel)) (Nat.le_of_ble_eq_true rfl) (Nat.le_of_ble_eq_true rfl) (Nat.zero_le _) (Nat.zero_le _) dX0_strayOf_68 ?_
      refine lv_istore (lv' := [(4, .int (maxI (stm sx sy k i) (gsz ((stx sx k i) + ((sgI k i) * (sx i))) ((stx sy k i) + ((sgI k i) * (sy i)))))), (3, .int ((stx sy k i) + ((sgI k i) * (sy i)))), (2, .int ((stx sx k i) + ((sgI k i) * (sx i)))), (6, .int (sgI k i)), (0, .ref (q 0)), (1, .int (k)), (5, .int (nI i))]) hx hb dX0_strayOf_71 hl (by decide) rfl (fun ls hl => ?_)
      refine lv_iinc (v := nI (i + 1)) (lv' := [(5, .int (nI (i + 1))), (4, .int (maxI (stm sx sy k i) (gsz ((stx sx k i) + ((sgI k i) * (sx i))) ((stx sy k i) + ((sgI k i) * (sy i)))))), (3, .int ((stx sy k i) + ((sgI k i) * (sy i)))), (2, .int ((stx sx k i) + ((sgI k i) * (sx i)))), (6, .int (sgI k i)), (0, .ref (q 0)), (1, .int (k))]) hx hb dX0_strayOf_73 hl (k := 6) rfl (nI_1 _) (by decide) rfl (fun ls hl => ?_)
      refine lv_goto (tgt := 10) hx hb dX0_strayOf_76 (by decide) ?_
      exact ih_10 _ (by omega) (lv_sub hl [5, 6, 3, 2, 1, 0] rfl)
    · refine lv_iconst (v := 1) hx hb dX0_strayOf_28 (by decide) ?_
      refine lv_goto (tgt := 33) hx hb dX0_strayOf_29 (by decide) ?_
      refine tpI (y := sgI k i) (by rw [sgI, if_pos cz2]) ?_
      refine lv_istore (lv' := [(6, .int (sgI k i)), (0, .ref (q 0)), (1, .int (k)), (2, .int (stx sx k i)), (3, .int (stx sy k i)), (4, .int (stm sx sy k i)), (5, .int (nI i))]) hx hb dX0_strayOf_33 hl (by decide) rfl (fun ls hl => ?_)
      refine lv_iload_n hx hb dX0_strayOf_35 rfl (lv_at hl 3 rfl) ?_
      refine lv_iload hx hb dX0_strayOf_36 (lv_at hl 0 rfl) ?_
      refine lv_aload_n hx hb dX0_strayOf_38 rfl (lv_at hl 1 rfl) ?_
      refine gX_stepX hx hb hts hin hown hK hP L47 dX0_strayOf_39 ?_
      refine lv_iload hx hb dX0_strayOf_42 (lv_at hl 6 rfl) ?_
      refine ldX_stepX (j := i) hx hb hK hP rfl (by omega) dX0_strayOf_44 ?_
      refine lv_imul hx hb dX0_strayOf_45 ?_
      refine lv_iadd hx hb dX0_strayOf_46 ?_
      refine lv_istore_n (lv' := [(2, .int ((stx sx k i) + ((sgI k i) * (sx i)))), (6, .int (sgI k i)), (0, .ref (q 0)), (1, .int (k)), (3, .int (stx sy k i)), (4, .int (stm sx sy k i)), (5, .int (nI i))]) hx hb dX0_strayOf_47 rfl hl (by decide) rfl (fun ls hl => ?_)
      refine lv_iload_n hx hb dX0_strayOf_48 rfl (lv_at hl 4 rfl) ?_
      refine lv_iload hx hb dX0_strayOf_49 (lv_at hl 1 rfl) ?_
      refine lv_aload_n hx hb dX0_strayOf_51 rfl (lv_at hl 2 rfl) ?_
      refine gX_stepY hx hb hts hin hown hK hP L50 dX0_strayOf_52 ?_
      refine lv_iload hx hb dX0_strayOf_55 (lv_at hl 6 rfl) ?_
      refine ldX_stepY (j := i) hx hb hK hP rfl (by omega) dX0_strayOf_57 ?_
      refine lv_imul hx hb dX0_strayOf_58 ?_
      refine lv_iadd hx hb dX0_strayOf_59 ?_
      refine lv_istore_n (lv' := [(3, .int ((stx sy k i) + ((sgI k i) * (sy i)))), (2, .int ((stx sx k i) + ((sgI k i) * (sx i)))), (6, .int (sgI k i)), (0, .ref (q 0)), (1, .int (k)), (4, .int (stm sx sy k i)), (5, .int (nI i))]) hx hb dX0_strayOf_60 rfl hl (by decide) rfl (fun ls hl => ?_)
      refine lv_iload hx hb dX0_strayOf_61 (lv_at hl 5 rfl) ?_
      refine lv_iload_n hx hb dX0_strayOf_63 rfl (lv_at hl 1 rfl) ?_
      refine lv_iload_n hx hb dX0_strayOf_64 rfl (lv_at hl 0 rfl) ?_
      refine cS (As := [.int ((stx sx k i) + ((sgI k i) * (sx i))), .int ((stx sy k i) + ((sgI k i) * (sy i)))]) hC (kX0_greaterSize ((stx sx k i) + ((sgI k i) * (sx i))) ((stx sy k i) + ((sgI k i) * (sy i))) ) [.int (stm sx sy k i)] (va_cwS 2 hts gX0_strayOf_X0_greaterSize rfl rfl rfl (by decide +kernel) ⟨Nat.le_of_ble_eq_true rfl, Nat.le_of_ble_eq_true rfl⟩) rfl hl.1 rfl (Nat.le_of_ble_eq_true rfl) dX0_strayOf_65 ⟨Nat.zero_le _, Nat.zero_le _⟩ ?_
      refine va_mmax hx hb (hml.trans hl.1.symm) hown (hts (.methodLink RX0 109 Lib.Math.max.name) (by decide +kernel)) (hts (.static Lib.Math.max.name) (by decide +kernel)) (hts (.initialized "java/lang/Math") (by decide +kernel)) (hts (.code Lib.Math.max.name Lib.Math.max.code 2 (some .int)) (by decide +kernel)) (Nat.le_of_ble_eq_true rfl) (Nat.le_of_ble_eq_true rfl) (Nat.zero_le _) (Nat.zero_le _) dX0_strayOf_68 ?_
      refine lv_istore (lv' := [(4, .int (maxI (stm sx sy k i) (gsz ((stx sx k i) + ((sgI k i) * (sx i))) ((stx sy k i) + ((sgI k i) * (sy i)))))), (3, .int ((stx sy k i) + ((sgI k i) * (sy i)))), (2, .int ((stx sx k i) + ((sgI k i) * (sx i)))), (6, .int (sgI k i)), (0, .ref (q 0)), (1, .int (k)), (5, .int (nI i))]) hx hb dX0_strayOf_71 hl (by decide) rfl (fun ls hl => ?_)
      refine lv_iinc (v := nI (i + 1)) (lv' := [(5, .int (nI (i + 1))), (4, .int (maxI (stm sx sy k i) (gsz ((stx sx k i) + ((sgI k i) * (sx i))) ((stx sy k i) + ((sgI k i) * (sy i)))))), (3, .int ((stx sy k i) + ((sgI k i) * (sy i)))), (2, .int ((stx sx k i) + ((sgI k i) * (sx i)))), (6, .int (sgI k i)), (0, .ref (q 0)), (1, .int (k))]) hx hb dX0_strayOf_73 hl (k := 6) rfl (nI_1 _) (by decide) rfl (fun ls hl => ?_)
      refine lv_goto (tgt := 10) hx hb dX0_strayOf_76 (by decide) ?_
      exact ih_10 _ (by omega) (lv_sub hl [5, 6, 3, 2, 1, 0] rfl)

theorem hdX0_straightest : yX0_straightest.cls = RX0 ∧ yX0_straightest.cls ≠ "java/lang/invoke/MethodHandle" ∧ yX0_straightest.cls ≠ "java/lang/invoke/VarHandle" ∧ (parseMethodDescriptor yX0_straightest.desc).map (fun d => d.parameters.length) = some 0 := by decide +kernel
set_option maxHeartbeats 4000000 in
set_option maxRecDepth 100000 in
theorem kX0_straightest {l : Launch} {D : va_G} {cy : ClassId} {H : Heap} {q : Nat → Nat} {gT gC : Int32} {ak : Int64} {ta pl cp kd fa fb bm sx sy : Nat → Int32} {N K S : Nat}  (hP : va_P D vwCl (wX cy q (nI N) gT gC (nI K) (nI S) ak ta pl cp kd fa fb bm sx sy) H)  (hSn : S ≤ 10) : Met l yX0_straightest wsX0_straightest { frames := 3, cells := 0, slots := 0, locals := 68 } (pcK D cy H [.ref (q 0)]) (QcRead (nI (beS sx sy S))) 0 0 (fun _ => False) := by
  refine mV 5 (by decide) rfl (Nat.le_of_ble_eq_true rfl) ?_
  intro p e s m below meth c hx hb hml hr hlk hts hown hnm hK hH ls hl
  have hC := (⟨hx, hb, hml, hown, hts⟩ : CallFix p m c cX0_straightest 5 s _ wsX0_straightest RX0)
  have hl : lv_has ls 5 [(0, .ref (q 0))] := hl
  have h2S := p2_le (n := S) (by omega)
  have h2P := p2_pos S
  refine lv_iconst (v := 0) hx hb dX0_straightest_0 (by decide) ?_
  refine lv_istore_n (lv' := [(1, .int (0)), (0, .ref (q 0))]) hx hb dX0_straightest_1 rfl hl (by decide) rfl (fun ls hl => ?_)
  refine lv_aload_n hx hb dX0_straightest_2 rfl (lv_at hl 1 rfl) ?_
  refine lv_iload_n hx hb dX0_straightest_3 rfl (lv_at hl 0 rfl) ?_
  refine cV (As := [.int (0)]) hC hK hP rfl rfl (kX0_strayOf hP 0 (by omega)) [] (cwV 1 hts gX0_straightest_X0_strayOf rfl rfl rfl hdX0_strayOf ⟨Nat.le_of_ble_eq_true rfl, Nat.le_of_ble_eq_true rfl⟩) rfl hl.1 rfl (Nat.le_of_ble_eq_true rfl) dX0_straightest_4 ⟨Nat.zero_le _, Nat.zero_le _⟩ ?_
  refine lv_istore_n (lv' := [(2, .int (stm sx sy (0 : Int32) S)), (1, .int (0)), (0, .ref (q 0))]) hx hb dX0_straightest_7 rfl hl (by decide) rfl (fun ls hl => ?_)
  refine lv_iconst (v := 1) hx hb dX0_straightest_8 (by decide) ?_
  refine lv_istore_n (lv' := [(3, .int (1)), (2, .int (stm sx sy (0 : Int32) S)), (1, .int (0)), (0, .ref (q 0))]) hx hb dX0_straightest_9 rfl hl (by decide) rfl (fun ls hl => ?_)
  refine lpP 10 (fun i ls => lv_has ls 5 [(0, .ref (q 0)), (1, .int (nI (amF (fun n => stm sx sy (nI n) S) (fun _ => true) 0 i))), (2, .int (stm sx sy (nI (amF (fun n => stm sx sy (nI n) S) (fun _ => true) 0 i)) S)), (3, .int (nI (0 + 1 + i)))]) (2 ^ S - 1) ?_ (0) ls (by omega) (lv_sub hl [3, 2, 1, 0] rfl)
  intro i ls hi hl ih_10
  refine lv_iload_n hx hb dX0_straightest_10 rfl (lv_at hl 3 rfl) ?_
  refine lv_aload_n hx hb dX0_straightest_11 rfl (lv_at hl 0 rfl) ?_
  refine cV (As := []) hC hK hP rfl rfl (kX0_signingCount hP  (by omega)) [.int (nI (0 + 1 + i))] (cwV 0 hts gX0_straightest_X0_signingCount rfl rfl rfl hdX0_signingCount ⟨Nat.le_of_ble_eq_true rfl, Nat.le_of_ble_eq_true rfl⟩) rfl hl.1 rfl (Nat.le_of_ble_eq_true rfl) dX0_straightest_12 ⟨Nat.zero_le _, Nat.zero_le _⟩ ?_
  refine lv_icmp_ge (tgt := 42) hx hb dX0_straightest_15 (by decide) (fun cz1 => ?_) (fun cz1 => ?_)
  · have cz1 : (2 ^ S) ≤ (0 + 1 + i) := (nI_leI (a := (2 ^ S)) (b := (0 + 1 + i)) (by omega) (by omega)).mp cz1
    refine lv_iload_n hx hb dX0_straightest_42 rfl (lv_at hl 1 rfl) ?_
    exact rI hx hb hr hlk hH dX0_straightest_43 (by rw [show i = 2 ^ S - 1 by omega]; rfl)
  · have cz1 : ¬ (2 ^ S) ≤ (0 + 1 + i) := fun h => cz1 ((nI_leI (a := (2 ^ S)) (b := (0 + 1 + i)) (by omega) (by omega)).mpr h)
    refine lv_aload_n hx hb dX0_straightest_18 rfl (lv_at hl 0 rfl) ?_
    refine lv_iload_n hx hb dX0_straightest_19 rfl (lv_at hl 3 rfl) ?_
    refine cV (As := [.int (nI (0 + 1 + i))]) hC hK hP rfl rfl (kX0_strayOf hP (nI (0 + 1 + i)) (by omega)) [] (cwV 1 hts gX0_straightest_X0_strayOf rfl rfl rfl hdX0_strayOf ⟨Nat.le_of_ble_eq_true rfl, Nat.le_of_ble_eq_true rfl⟩) rfl hl.1 rfl (Nat.le_of_ble_eq_true rfl) dX0_straightest_20 ⟨Nat.zero_le _, Nat.zero_le _⟩ ?_
    refine lv_istore (lv' := [(4, .int (stm sx sy (nI (0 + 1 + i)) S)), (0, .ref (q 0)), (1, .int (nI (amF (fun n => stm sx sy (nI n) S) (fun _ => true) 0 i))), (2, .int (stm sx sy (nI (amF (fun n => stm sx sy (nI n) S) (fun _ => true) 0 i)) S)), (3, .int (nI (0 + 1 + i)))]) hx hb dX0_straightest_23 hl (by decide) rfl (fun ls hl => ?_)
    refine lv_iload hx hb dX0_straightest_25 (lv_at hl 0 rfl) ?_
    refine lv_iload_n hx hb dX0_straightest_27 rfl (lv_at hl 3 rfl) ?_
    refine lv_icmp_ge (tgt := 36) hx hb dX0_straightest_28 (by decide) (fun cz2 => ?_) (fun cz2 => ?_)
    · refine lv_iinc (v := nI ((0 + 1 + i) + 1)) (lv' := [(3, .int (nI ((0 + 1 + i) + 1))), (4, .int (stm sx sy (nI (0 + 1 + i)) S)), (0, .ref (q 0)), (1, .int (nI (amF (fun n => stm sx sy (nI n) S) (fun _ => true) 0 i))), (2, .int (stm sx sy (nI (amF (fun n => stm sx sy (nI n) S) (fun _ => true) 0 i)) S))]) hx hb dX0_straightest_36 hl (k := 4) rfl (nI_1 _) (by decide) rfl (fun ls hl => ?_)
      refine lv_goto (tgt := 10) hx hb dX0_straightest_39 (by decide) ?_
      exact ih_10 _ (by omega) (by rw [amF_f (w := (fun n => stm sx sy (nI n) S)) (ok := fun _ => true) (Int32.not_lt.mpr cz2)]; exact lv_sub hl [2, 3, 4, 0] rfl)
    · refine lv_iload hx hb dX0_straightest_31 (lv_at hl 0 rfl) ?_
      refine lv_istore_n (lv' := [(2, .int (stm sx sy (nI (0 + 1 + i)) S)), (4, .int (stm sx sy (nI (0 + 1 + i)) S)), (0, .ref (q 0)), (1, .int (nI (amF (fun n => stm sx sy (nI n) S) (fun _ => true) 0 i))), (3, .int (nI (0 + 1 + i)))]) hx hb dX0_straightest_33 rfl hl (by decide) rfl (fun ls hl => ?_)
      refine lv_iload_n hx hb dX0_straightest_34 rfl (lv_at hl 4 rfl) ?_
      refine lv_istore_n (lv' := [(1, .int (nI (0 + 1 + i))), (2, .int (stm sx sy (nI (0 + 1 + i)) S)), (4, .int (stm sx sy (nI (0 + 1 + i)) S)), (0, .ref (q 0)), (3, .int (nI (0 + 1 + i)))]) hx hb dX0_straightest_35 rfl hl (by decide) rfl (fun ls hl => ?_)
      refine lv_iinc (v := nI ((0 + 1 + i) + 1)) (lv' := [(3, .int (nI ((0 + 1 + i) + 1))), (1, .int (nI (0 + 1 + i))), (2, .int (stm sx sy (nI (0 + 1 + i)) S)), (4, .int (stm sx sy (nI (0 + 1 + i)) S)), (0, .ref (q 0))]) hx hb dX0_straightest_36 hl (k := 4) rfl (nI_1 _) (by decide) rfl (fun ls hl => ?_)
      refine lv_goto (tgt := 10) hx hb dX0_straightest_39 (by decide) ?_
      exact ih_10 _ (by omega) (by rw [amF_t (w := (fun n => stm sx sy (nI n) S)) (ok := fun _ => true) rfl (Int32.not_le.mp cz2)]; exact lv_sub hl [4, 1, 2, 0] rfl)

theorem hdX0_nearest : yX0_nearest.cls = RX0 ∧ yX0_nearest.cls ≠ "java/lang/invoke/MethodHandle" ∧ yX0_nearest.cls ≠ "java/lang/invoke/VarHandle" ∧ (parseMethodDescriptor yX0_nearest.desc).map (fun d => d.parameters.length) = some 0 := by decide +kernel
set_option maxHeartbeats 4000000 in
set_option maxRecDepth 100000 in
theorem kX0_nearest {l : Launch} {D : va_G} {cy : ClassId} {H : Heap} {q : Nat → Nat} {gT gC : Int32} {ak : Int64} {ta pl cp kd fa fb bm sx sy : Nat → Int32} {N K S : Nat}  (hP : va_P D vwCl (wX cy q (nI N) gT gC (nI K) (nI S) ak ta pl cp kd fa fb bm sx sy) H)  (hSn : S ≤ 10) : Met l yX0_nearest wsX0_nearest { frames := 2, cells := 0, slots := 0, locals := 42 } (pcK D cy H [.ref (q 0)]) (QcRead ((nef sx sy S).2.2)) 0 0 (fun _ => False) := by
  refine mV 6 (by decide) rfl (Nat.le_of_ble_eq_true rfl) ?_
  intro p e s m below meth c hx hb hml hr hlk hts hown hnm hK hH ls hl
  have hC := (⟨hx, hb, hml, hown, hts⟩ : CallFix p m c cX0_nearest 6 s _ wsX0_nearest RX0)
  have hin : ∀ w ∈ wsX00, w ∈ wsX0_nearest := by decide +kernel
  have L44 : Cond.fieldLink RX0 44 "TwoColours" "stepCount" "I" ∈ wsX0_nearest := by decide +kernel
  have L47 : Cond.fieldLink RX0 47 "TwoColours" "stepX" "[I" ∈ wsX0_nearest := by decide +kernel
  have L50 : Cond.fieldLink RX0 50 "TwoColours" "stepY" "[I" ∈ wsX0_nearest := by decide +kernel
  have hl : lv_has ls 6 [(0, .ref (q 0))] := hl
  refine lv_iconst (v := 0) hx hb dX0_nearest_0 (by decide) ?_
  refine lv_istore_n (lv' := [(1, .int (0)), (0, .ref (q 0))]) hx hb dX0_nearest_1 rfl hl (by decide) rfl (fun ls hl => ?_)
  refine lv_iconst (v := 0) hx hb dX0_nearest_2 (by decide) ?_
  refine lv_istore_n (lv' := [(2, .int (0)), (1, .int (0)), (0, .ref (q 0))]) hx hb dX0_nearest_3 rfl hl (by decide) rfl (fun ls hl => ?_)
  refine lv_iconst (v := 0) hx hb dX0_nearest_4 (by decide) ?_
  refine lv_istore_n (lv' := [(3, .int (0)), (2, .int (0)), (1, .int (0)), (0, .ref (q 0))]) hx hb dX0_nearest_5 rfl hl (by decide) rfl (fun ls hl => ?_)
  refine lv_iconst (v := 0) hx hb dX0_nearest_6 (by decide) ?_
  refine lv_istore (lv' := [(4, .int (0)), (3, .int (0)), (2, .int (0)), (1, .int (0)), (0, .ref (q 0))]) hx hb dX0_nearest_7 hl (by decide) rfl (fun ls hl => ?_)
  refine lpP 9 (fun i ls => lv_has ls 6 [(0, .ref (q 0)), (1, .int ((nef sx sy i).1)), (2, .int ((nef sx sy i).2.1)), (3, .int ((nef sx sy i).2.2)), (4, .int (nI i))]) (S) ?_ (0) ls (by omega) (lv_sub hl [4, 3, 2, 1, 0] rfl)
  intro i ls hi hl ih_9
  refine lv_iload hx hb dX0_nearest_9 (lv_at hl 4 rfl) ?_
  refine lv_aload_n hx hb dX0_nearest_11 rfl (lv_at hl 0 rfl) ?_
  refine gX_stepCount hx hb hts hin hown hK hP L44 dX0_nearest_12 ?_
  refine lv_icmp_ge (tgt := 108) hx hb dX0_nearest_15 (by decide) (fun cz1 => ?_) (fun cz1 => ?_)
  · have cz1 : S ≤ i := (nI_leI (a := S) (b := i) (by omega) (by omega)).mp cz1
    refine lv_iload_n hx hb dX0_nearest_108 rfl (lv_at hl 3 rfl) ?_
    exact rI hx hb hr hlk hH dX0_nearest_109 (by rw [show i = S by omega])
  · have cz1 : ¬ S ≤ i := fun h => cz1 ((nI_leI (a := S) (b := i) (by omega) (by omega)).mpr h)
    refine lv_iconst (v := 1) hx hb dX0_nearest_18 (by decide) ?_
    refine lv_istore (lv' := [(5, .int (1)), (0, .ref (q 0)), (1, .int ((nef sx sy i).1)), (2, .int ((nef sx sy i).2.1)), (3, .int ((nef sx sy i).2.2)), (4, .int (nI i))]) hx hb dX0_nearest_19 hl (by decide) rfl (fun ls hl => ?_)
    refine lv_iload_n hx hb dX0_nearest_21 rfl (lv_at hl 2 rfl) ?_
    refine lv_aload_n hx hb dX0_nearest_22 rfl (lv_at hl 1 rfl) ?_
    refine gX_stepX hx hb hts hin hown hK hP L47 dX0_nearest_23 ?_
    refine lv_iload hx hb dX0_nearest_26 (lv_at hl 5 rfl) ?_
    refine ldX_stepX (j := i) hx hb hK hP rfl (by omega) dX0_nearest_28 ?_
    refine lv_isub hx hb dX0_nearest_29 ?_
    refine lv_iload_n hx hb dX0_nearest_30 rfl (lv_at hl 3 rfl) ?_
    refine lv_aload_n hx hb dX0_nearest_31 rfl (lv_at hl 1 rfl) ?_
    refine gX_stepY hx hb hts hin hown hK hP L50 dX0_nearest_32 ?_
    refine lv_iload hx hb dX0_nearest_35 (lv_at hl 5 rfl) ?_
    refine ldX_stepY (j := i) hx hb hK hP rfl (by omega) dX0_nearest_37 ?_
    refine lv_isub hx hb dX0_nearest_38 ?_
    refine cS (As := [.int (((nef sx sy i).1) - (sx i)), .int (((nef sx sy i).2.1) - (sy i))]) hC (kX0_greaterSize (((nef sx sy i).1) - (sx i)) (((nef sx sy i).2.1) - (sy i)) ) [] (va_cwS 2 hts gX0_nearest_X0_greaterSize rfl rfl rfl (by decide +kernel) ⟨Nat.le_of_ble_eq_true rfl, Nat.le_of_ble_eq_true rfl⟩) rfl hl.1 rfl (Nat.le_of_ble_eq_true rfl) dX0_nearest_39 ⟨Nat.zero_le _, Nat.zero_le _⟩ ?_
    refine lv_iload_n hx hb dX0_nearest_42 rfl (lv_at hl 2 rfl) ?_
    refine lv_aload_n hx hb dX0_nearest_43 rfl (lv_at hl 1 rfl) ?_
    refine gX_stepX hx hb hts hin hown hK hP L47 dX0_nearest_44 ?_
    refine lv_iload hx hb dX0_nearest_47 (lv_at hl 5 rfl) ?_
    refine ldX_stepX (j := i) hx hb hK hP rfl (by omega) dX0_nearest_49 ?_
    refine lv_iadd hx hb dX0_nearest_50 ?_
    refine lv_iload_n hx hb dX0_nearest_51 rfl (lv_at hl 3 rfl) ?_
    refine lv_aload_n hx hb dX0_nearest_52 rfl (lv_at hl 1 rfl) ?_
    refine gX_stepY hx hb hts hin hown hK hP L50 dX0_nearest_53 ?_
    refine lv_iload hx hb dX0_nearest_56 (lv_at hl 5 rfl) ?_
    refine ldX_stepY (j := i) hx hb hK hP rfl (by omega) dX0_nearest_58 ?_
    refine lv_iadd hx hb dX0_nearest_59 ?_
    refine cS (As := [.int (((nef sx sy i).1) + (sx i)), .int (((nef sx sy i).2.1) + (sy i))]) hC (kX0_greaterSize (((nef sx sy i).1) + (sx i)) (((nef sx sy i).2.1) + (sy i)) ) [.int (gsz (((nef sx sy i).1) - (sx i)) (((nef sx sy i).2.1) - (sy i)))] (va_cwS 2 hts gX0_nearest_X0_greaterSize rfl rfl rfl (by decide +kernel) ⟨Nat.le_of_ble_eq_true rfl, Nat.le_of_ble_eq_true rfl⟩) rfl hl.1 rfl (Nat.le_of_ble_eq_true rfl) dX0_nearest_60 ⟨Nat.zero_le _, Nat.zero_le _⟩ ?_
    refine lv_icmp_ge (tgt := 76) hx hb dX0_nearest_63 (by decide) (fun cz2 => ?_) (fun cz2 => ?_)
    · refine lv_iload_n hx hb dX0_nearest_76 rfl (lv_at hl 2 rfl) ?_
      refine lv_iload hx hb dX0_nearest_77 (lv_at hl 0 rfl) ?_
      refine lv_aload_n hx hb dX0_nearest_79 rfl (lv_at hl 1 rfl) ?_
      refine gX_stepX hx hb hts hin hown hK hP L47 dX0_nearest_80 ?_
      refine lv_iload hx hb dX0_nearest_83 (lv_at hl 5 rfl) ?_
      refine ldX_stepX (j := i) hx hb hK hP rfl (by omega) dX0_nearest_85 ?_
      refine lv_imul hx hb dX0_nearest_86 ?_
      refine lv_iadd hx hb dX0_nearest_87 ?_
      refine lv_istore_n (lv' := [(1, .int (((nef sx sy i).1) + ((1 : Int32) * (sx i)))), (5, .int (1)), (0, .ref (q 0)), (2, .int ((nef sx sy i).2.1)), (3, .int ((nef sx sy i).2.2)), (4, .int (nI i))]) hx hb dX0_nearest_88 rfl hl (by decide) rfl (fun ls hl => ?_)
      refine lv_iload_n hx hb dX0_nearest_89 rfl (lv_at hl 3 rfl) ?_
      refine lv_iload hx hb dX0_nearest_90 (lv_at hl 1 rfl) ?_
      refine lv_aload_n hx hb dX0_nearest_92 rfl (lv_at hl 2 rfl) ?_
      refine gX_stepY hx hb hts hin hown hK hP L50 dX0_nearest_93 ?_
      refine lv_iload hx hb dX0_nearest_96 (lv_at hl 5 rfl) ?_
      refine ldX_stepY (j := i) hx hb hK hP rfl (by omega) dX0_nearest_98 ?_
      refine lv_imul hx hb dX0_nearest_99 ?_
      refine lv_iadd hx hb dX0_nearest_100 ?_
      refine lv_istore_n (lv' := [(2, .int (((nef sx sy i).2.1) + ((1 : Int32) * (sy i)))), (1, .int (((nef sx sy i).1) + ((1 : Int32) * (sx i)))), (5, .int (1)), (0, .ref (q 0)), (3, .int ((nef sx sy i).2.2)), (4, .int (nI i))]) hx hb dX0_nearest_101 rfl hl (by decide) rfl (fun ls hl => ?_)
      refine lv_iinc (v := nI (i + 1)) (lv' := [(4, .int (nI (i + 1))), (2, .int (((nef sx sy i).2.1) + ((1 : Int32) * (sy i)))), (1, .int (((nef sx sy i).1) + ((1 : Int32) * (sx i)))), (5, .int (1)), (0, .ref (q 0)), (3, .int ((nef sx sy i).2.2))]) hx hb dX0_nearest_102 hl (k := 5) rfl (nI_1 _) (by decide) rfl (fun ls hl => ?_)
      refine lv_goto (tgt := 9) hx hb dX0_nearest_105 (by decide) ?_
      exact ih_9 _ (by omega) (by rw [nef_f (Int32.not_lt.mpr cz2)]; exact lv_sub hl [4, 2, 1, 5, 0] rfl)
    · refine lv_iconst (v := (-1)) hx hb dX0_nearest_66 (by decide) ?_
      refine lv_istore (lv' := [(5, .int (-1)), (0, .ref (q 0)), (1, .int ((nef sx sy i).1)), (2, .int ((nef sx sy i).2.1)), (3, .int ((nef sx sy i).2.2)), (4, .int (nI i))]) hx hb dX0_nearest_67 hl (by decide) rfl (fun ls hl => ?_)
      refine lv_iload_n hx hb dX0_nearest_69 rfl (lv_at hl 4 rfl) ?_
      refine lv_iconst (v := 1) hx hb dX0_nearest_70 (by decide) ?_
      refine lv_iload hx hb dX0_nearest_71 (lv_at hl 5 rfl) ?_
      refine lv_ishl hx hb dX0_nearest_73 ?_
      refine lv_ior hx hb dX0_nearest_74 ?_
      refine lv_istore_n (lv' := [(3, .int (((nef sx sy i).2.2) ||| ((1 : Int32) <<< ((nI i) &&& 31)))), (5, .int (-1)), (0, .ref (q 0)), (1, .int ((nef sx sy i).1)), (2, .int ((nef sx sy i).2.1)), (4, .int (nI i))]) hx hb dX0_nearest_75 rfl hl (by decide) rfl (fun ls hl => ?_)
      refine lv_iload_n hx hb dX0_nearest_76 rfl (lv_at hl 3 rfl) ?_
      refine lv_iload hx hb dX0_nearest_77 (lv_at hl 1 rfl) ?_
      refine lv_aload_n hx hb dX0_nearest_79 rfl (lv_at hl 2 rfl) ?_
      refine gX_stepX hx hb hts hin hown hK hP L47 dX0_nearest_80 ?_
      refine lv_iload hx hb dX0_nearest_83 (lv_at hl 5 rfl) ?_
      refine ldX_stepX (j := i) hx hb hK hP rfl (by omega) dX0_nearest_85 ?_
      refine lv_imul hx hb dX0_nearest_86 ?_
      refine lv_iadd hx hb dX0_nearest_87 ?_
      refine lv_istore_n (lv' := [(1, .int (((nef sx sy i).1) + ((-1 : Int32) * (sx i)))), (3, .int (((nef sx sy i).2.2) ||| ((1 : Int32) <<< ((nI i) &&& 31)))), (5, .int (-1)), (0, .ref (q 0)), (2, .int ((nef sx sy i).2.1)), (4, .int (nI i))]) hx hb dX0_nearest_88 rfl hl (by decide) rfl (fun ls hl => ?_)
      refine lv_iload_n hx hb dX0_nearest_89 rfl (lv_at hl 4 rfl) ?_
      refine lv_iload hx hb dX0_nearest_90 (lv_at hl 2 rfl) ?_
      refine lv_aload_n hx hb dX0_nearest_92 rfl (lv_at hl 3 rfl) ?_
      refine gX_stepY hx hb hts hin hown hK hP L50 dX0_nearest_93 ?_
      refine lv_iload hx hb dX0_nearest_96 (lv_at hl 5 rfl) ?_
      refine ldX_stepY (j := i) hx hb hK hP rfl (by omega) dX0_nearest_98 ?_
      refine lv_imul hx hb dX0_nearest_99 ?_
      refine lv_iadd hx hb dX0_nearest_100 ?_
      refine lv_istore_n (lv' := [(2, .int (((nef sx sy i).2.1) + ((-1 : Int32) * (sy i)))), (1, .int (((nef sx sy i).1) + ((-1 : Int32) * (sx i)))), (3, .int (((nef sx sy i).2.2) ||| ((1 : Int32) <<< ((nI i) &&& 31)))), (5, .int (-1)), (0, .ref (q 0)), (4, .int (nI i))]) hx hb dX0_nearest_101 rfl hl (by decide) rfl (fun ls hl => ?_)
      refine lv_iinc (v := nI (i + 1)) (lv' := [(4, .int (nI (i + 1))), (2, .int (((nef sx sy i).2.1) + ((-1 : Int32) * (sy i)))), (1, .int (((nef sx sy i).1) + ((-1 : Int32) * (sx i)))), (3, .int (((nef sx sy i).2.2) ||| ((1 : Int32) <<< ((nI i) &&& 31)))), (5, .int (-1)), (0, .ref (q 0))]) hx hb dX0_nearest_102 hl (k := 5) rfl (nI_1 _) (by decide) rfl (fun ls hl => ?_)
      refine lv_goto (tgt := 9) hx hb dX0_nearest_105 (by decide) ?_
      exact ih_9 _ (by omega) (by rw [nef_t (Int32.not_le.mp cz2)]; exact lv_sub hl [5, 2, 1, 3, 0] rfl)

theorem hdX0_stray : yX0_stray.cls = RX0 ∧ yX0_stray.cls ≠ "java/lang/invoke/MethodHandle" ∧ yX0_stray.cls ≠ "java/lang/invoke/VarHandle" ∧ (parseMethodDescriptor yX0_stray.desc).map (fun d => d.parameters.length) = some 1 := by decide +kernel
set_option maxHeartbeats 4000000 in
set_option maxRecDepth 100000 in
theorem kX0_stray {l : Launch} {D : va_G} {cy : ClassId} {H : Heap} {q : Nat → Nat} {gT gC : Int32} {ak : Int64} {ta pl cp kd fa fb bm sx sy : Nat → Int32} {N K S : Nat}  (hP : va_P D vwCl (wX cy q (nI N) gT gC (nI K) (nI S) ak ta pl cp kd fa fb bm sx sy) H) (k : Int32) (hSn : S ≤ 10) : Met l yX0_stray wsX0_stray { frames := 3, cells := 0, slots := 0, locals := 68 } (pcK D cy H [.ref (q 0), .int k]) (QcRead (if 0 ≤ k ∧ k < nI (2 ^ S) then stm sx sy k S else -1)) 0 0 (fun _ => False) := by
  refine mV 2 (by decide) rfl (Nat.le_of_ble_eq_true rfl) ?_
  intro p e s m below meth c hx hb hml hr hlk hts hown hnm hK hH ls hl
  have hC := (⟨hx, hb, hml, hown, hts⟩ : CallFix p m c cX0_stray 2 s _ wsX0_stray RX0)
  have hl : lv_has ls 2 [(0, .ref (q 0)), (1, .int (k))] := hl
  refine lv_iload_n hx hb dX0_stray_0 rfl (lv_at hl 1 rfl) ?_
  refine lv_if_lt (tgt := 20) hx hb dX0_stray_1 (by decide) (fun cz1 => ?_) (fun cz1 => ?_)
  · refine lv_iconst (v := (-1)) hx hb dX0_stray_20 (by decide) ?_
    exact rI hx hb hr hlk hH dX0_stray_21 (by rw [if_neg (fun h => absurd h.1 (Int32.not_le.mpr cz1))])
  · refine lv_iload_n hx hb dX0_stray_4 rfl (lv_at hl 1 rfl) ?_
    refine lv_aload_n hx hb dX0_stray_5 rfl (lv_at hl 0 rfl) ?_
    refine cV (As := []) hC hK hP rfl rfl (kX0_signingCount hP  (by omega)) [.int (k)] (cwV 0 hts gX0_stray_X0_signingCount rfl rfl rfl hdX0_signingCount ⟨Nat.le_of_ble_eq_true rfl, Nat.le_of_ble_eq_true rfl⟩) rfl hl.1 rfl (Nat.le_of_ble_eq_true rfl) dX0_stray_6 ⟨Nat.zero_le _, Nat.zero_le _⟩ ?_
    refine lv_icmp_ge (tgt := 20) hx hb dX0_stray_9 (by decide) (fun cz2 => ?_) (fun cz2 => ?_)
    · refine lv_iconst (v := (-1)) hx hb dX0_stray_20 (by decide) ?_
      exact rI hx hb hr hlk hH dX0_stray_21 (by rw [if_neg (fun h => absurd h.2 (Int32.not_lt.mpr cz2))])
    · refine lv_aload_n hx hb dX0_stray_12 rfl (lv_at hl 0 rfl) ?_
      refine lv_iload_n hx hb dX0_stray_13 rfl (lv_at hl 1 rfl) ?_
      refine cV (As := [.int (k)]) hC hK hP rfl rfl (kX0_strayOf hP k (by omega)) [] (cwV 1 hts gX0_stray_X0_strayOf rfl rfl rfl hdX0_strayOf ⟨Nat.le_of_ble_eq_true rfl, Nat.le_of_ble_eq_true rfl⟩) rfl hl.1 rfl (Nat.le_of_ble_eq_true rfl) dX0_stray_14 ⟨Nat.zero_le _, Nat.zero_le _⟩ ?_
      refine lv_goto (tgt := 21) hx hb dX0_stray_17 (by decide) ?_
      exact rI hx hb hr hlk hH dX0_stray_21 (by rw [if_pos ⟨Int32.not_lt.mp cz1, Int32.not_le.mp cz2⟩])

theorem hdX0_straight : yX0_straight.cls = RX0 ∧ yX0_straight.cls ≠ "java/lang/invoke/MethodHandle" ∧ yX0_straight.cls ≠ "java/lang/invoke/VarHandle" ∧ (parseMethodDescriptor yX0_straight.desc).map (fun d => d.parameters.length) = some 1 := by decide +kernel
set_option maxHeartbeats 4000000 in
set_option maxRecDepth 100000 in
theorem kX0_straight {l : Launch} {D : va_G} {cy : ClassId} {H : Heap} {q : Nat → Nat} {gT gC : Int32} {ak : Int64} {ta pl cp kd fa fb bm sx sy : Nat → Int32} {N K S : Nat}  (hP : va_P D vwCl (wX cy q (nI N) gT gC (nI K) (nI S) ak ta pl cp kd fa fb bm sx sy) H) (k : Int32) (hSn : S ≤ 10) : Met l yX0_straight wsX0_straight { frames := 4, cells := 0, slots := 0, locals := 92 } (pcK D cy H [.ref (q 0), .int k]) (QcRead (if k = 0 then stm sx sy (nI (beS sx sy S)) S else if k = 1 then nI (beS sx sy S) else if k = 2 then (nef sx sy S).2.2 else -1)) 0 0 (fun _ => False) := by
  refine mV 2 (by decide) rfl (Nat.le_of_ble_eq_true rfl) ?_
  intro p e s m below meth c hx hb hml hr hlk hts hown hnm hK hH ls hl
  have hC := (⟨hx, hb, hml, hown, hts⟩ : CallFix p m c cX0_straight 2 s _ wsX0_straight RX0)
  have hl : lv_has ls 2 [(0, .ref (q 0)), (1, .int (k))] := hl
  refine lv_iload_n hx hb dX0_straight_0 rfl (lv_at hl 1 rfl) ?_
  by_cases cz1 : k = 0
  · refine lv_tableIn (off := 27) (tgt := 28) hx hb dX0_straight_1 (by rw [cz1]; decide) (by rw [cz1]; decide) (by rw [cz1]; decide) (by decide) ?_
    refine lv_aload_n hx hb dX0_straight_28 rfl (lv_at hl 0 rfl) ?_
    refine lv_aload_n hx hb dX0_straight_29 rfl (lv_at hl 0 rfl) ?_
    refine cV (As := []) hC hK hP rfl rfl (kX0_straightest hP  (by omega)) [.ref (q 0)] (cwV 0 hts gX0_straight_X0_straightest rfl rfl rfl hdX0_straightest ⟨Nat.le_of_ble_eq_true rfl, Nat.le_of_ble_eq_true rfl⟩) rfl hl.1 rfl (Nat.le_of_ble_eq_true rfl) dX0_straight_30 ⟨Nat.zero_le _, Nat.zero_le _⟩ ?_
    refine cV (As := [.int (nI (beS sx sy S))]) hC hK hP rfl rfl (kX0_strayOf hP (nI (beS sx sy S)) (by omega)) [] (cwV 1 hts gX0_straight_X0_strayOf rfl rfl rfl hdX0_strayOf ⟨Nat.le_of_ble_eq_true rfl, Nat.le_of_ble_eq_true rfl⟩) rfl hl.1 rfl (Nat.le_of_ble_eq_true rfl) dX0_straight_33 ⟨Nat.zero_le _, Nat.zero_le _⟩ ?_
    exact rI hx hb hr hlk hH dX0_straight_36 (by clear hl hC hK hP hts hown hnm hx hb hr hlk hml; first | (simp_all [Int32.not_lt, Int32.not_le]; done) | grind)
  by_cases cz2 : k = 1
  · refine lv_tableIn (off := 36) (tgt := 37) hx hb dX0_straight_1 (by rw [cz2]; decide) (by rw [cz2]; decide) (by rw [cz2]; decide) (by decide) ?_
    refine lv_aload_n hx hb dX0_straight_37 rfl (lv_at hl 0 rfl) ?_
    refine cV (As := []) hC hK hP rfl rfl (kX0_straightest hP  (by omega)) [] (cwV 0 hts gX0_straight_X0_straightest rfl rfl rfl hdX0_straightest ⟨Nat.le_of_ble_eq_true rfl, Nat.le_of_ble_eq_true rfl⟩) rfl hl.1 rfl (Nat.le_of_ble_eq_true rfl) dX0_straight_38 ⟨Nat.zero_le _, Nat.zero_le _⟩ ?_
    exact rI hx hb hr hlk hH dX0_straight_41 (by clear hl hC hK hP hts hown hnm hx hb hr hlk hml; first | (simp_all [Int32.not_lt, Int32.not_le]; done) | grind)
  by_cases cz3 : k = 2
  · refine lv_tableIn (off := 41) (tgt := 42) hx hb dX0_straight_1 (by rw [cz3]; decide) (by rw [cz3]; decide) (by rw [cz3]; decide) (by decide) ?_
    refine lv_aload_n hx hb dX0_straight_42 rfl (lv_at hl 0 rfl) ?_
    refine cV (As := []) hC hK hP rfl rfl (kX0_nearest hP  (by omega)) [] (cwV 0 hts gX0_straight_X0_nearest rfl rfl rfl hdX0_nearest ⟨Nat.le_of_ble_eq_true rfl, Nat.le_of_ble_eq_true rfl⟩) rfl hl.1 rfl (Nat.le_of_ble_eq_true rfl) dX0_straight_43 ⟨Nat.zero_le _, Nat.zero_le _⟩ ?_
    exact rI hx hb hr hlk hH dX0_straight_46 (by clear hl hC hK hP hts hown hnm hx hb hr hlk hml; first | (simp_all [Int32.not_lt, Int32.not_le]; done) | grind)
  refine lv_tableOut (tgt := 47) hx hb dX0_straight_1 (by have h0 := lv_neT (a := 0) cz1 (by decide); have h1 := lv_neT (a := 1) cz2 (by decide); have h2 := lv_neT (a := 2) cz3 (by decide); omega) (by decide) ?_
  refine lv_iconst (v := (-1)) hx hb dX0_straight_47 (by decide) ?_
  exact rI hx hb hr hlk hH dX0_straight_48 (by clear hl hC hK hP hts hown hnm hx hb hr hlk hml; first | (simp_all [Int32.not_lt, Int32.not_le]; done) | grind)

theorem hdX0_count : yX0_count.cls = RX0 ∧ yX0_count.cls ≠ "java/lang/invoke/MethodHandle" ∧ yX0_count.cls ≠ "java/lang/invoke/VarHandle" ∧ (parseMethodDescriptor yX0_count.desc).map (fun d => d.parameters.length) = some 1 := by decide +kernel
set_option maxHeartbeats 4000000 in
set_option maxRecDepth 100000 in
theorem kX0_count {l : Launch} {D : va_G} {cy : ClassId} {H : Heap} {q : Nat → Nat} {gT gC : Int32} {ak : Int64} {ta pl cp kd fa fb bm sx sy : Nat → Int32} {N K S : Nat}  (hP : va_P D vwCl (wX cy q (nI N) gT gC (nI K) (nI S) ak ta pl cp kd fa fb bm sx sy) H) (k : Int32)  : Met l yX0_count wsX0_count { frames := 1, cells := 0, slots := 0, locals := 20 } (pcK D cy H [.ref (q 0), .int k]) (QcRead (if k = 0 then nI N else if k = 1 then nI K else if k = 2 then nI S else if k = 3 then bcI gT else -1)) 0 0 (fun _ => False) := by
  refine mV 2 (by decide) rfl (Nat.le_of_ble_eq_true rfl) ?_
  intro p e s m below meth c hx hb hml hr hlk hts hown hnm hK hH ls hl
  have hC := (⟨hx, hb, hml, hown, hts⟩ : CallFix p m c cX0_count 2 s _ wsX0_count RX0)
  have hin : ∀ w ∈ wsX00, w ∈ wsX0_count := by decide +kernel
  have L7 : Cond.fieldLink RX0 7 "TwoColours" "thingCount" "I" ∈ wsX0_count := by decide +kernel
  have L20 : Cond.fieldLink RX0 20 "TwoColours" "heldThings" "I" ∈ wsX0_count := by decide +kernel
  have L29 : Cond.fieldLink RX0 29 "TwoColours" "heapCount" "I" ∈ wsX0_count := by decide +kernel
  have L44 : Cond.fieldLink RX0 44 "TwoColours" "stepCount" "I" ∈ wsX0_count := by decide +kernel
  have hl : lv_has ls 2 [(0, .ref (q 0)), (1, .int (k))] := hl
  refine lv_iload_n hx hb dX0_count_0 rfl (lv_at hl 1 rfl) ?_
  by_cases cz1 : k = 0
  · refine lv_tableIn (off := 31) (tgt := 32) hx hb dX0_count_1 (by rw [cz1]; decide) (by rw [cz1]; decide) (by rw [cz1]; decide) (by decide) ?_
    refine lv_aload_n hx hb dX0_count_32 rfl (lv_at hl 0 rfl) ?_
    refine gX_thingCount hx hb hts hin hown hK hP L7 dX0_count_33 ?_
    exact rI hx hb hr hlk hH dX0_count_36 (by clear hl hC hin hK hP hts hown hnm hx hb hr hlk hml; first | (simp_all [Int32.not_lt, Int32.not_le]; done) | grind)
  by_cases cz2 : k = 1
  · refine lv_tableIn (off := 36) (tgt := 37) hx hb dX0_count_1 (by rw [cz2]; decide) (by rw [cz2]; decide) (by rw [cz2]; decide) (by decide) ?_
    refine lv_aload_n hx hb dX0_count_37 rfl (lv_at hl 0 rfl) ?_
    refine gX_heapCount hx hb hts hin hown hK hP L29 dX0_count_38 ?_
    exact rI hx hb hr hlk hH dX0_count_41 (by clear hl hC hin hK hP hts hown hnm hx hb hr hlk hml; first | (simp_all [Int32.not_lt, Int32.not_le]; done) | grind)
  by_cases cz3 : k = 2
  · refine lv_tableIn (off := 41) (tgt := 42) hx hb dX0_count_1 (by rw [cz3]; decide) (by rw [cz3]; decide) (by rw [cz3]; decide) (by decide) ?_
    refine lv_aload_n hx hb dX0_count_42 rfl (lv_at hl 0 rfl) ?_
    refine gX_stepCount hx hb hts hin hown hK hP L44 dX0_count_43 ?_
    exact rI hx hb hr hlk hH dX0_count_46 (by clear hl hC hin hK hP hts hown hnm hx hb hr hlk hml; first | (simp_all [Int32.not_lt, Int32.not_le]; done) | grind)
  by_cases cz4 : k = 3
  · refine lv_tableIn (off := 46) (tgt := 47) hx hb dX0_count_1 (by rw [cz4]; decide) (by rw [cz4]; decide) (by rw [cz4]; decide) (by decide) ?_
    refine lv_aload_n hx hb dX0_count_47 rfl (lv_at hl 0 rfl) ?_
    refine gX_heldThings hx hb hts hin hown hK hP L20 dX0_count_48 ?_
    refine cS (As := [.int (gT)]) hC (kJ6_bitCount_0f7a4 gT ) [] (va_cwS 1 hts gX0_count_J6_bitCount_0f7a4 rfl rfl rfl (by decide +kernel) ⟨Nat.le_of_ble_eq_true rfl, Nat.le_of_ble_eq_true rfl⟩) rfl hl.1 rfl (Nat.le_of_ble_eq_true rfl) dX0_count_51 ⟨Nat.zero_le _, Nat.zero_le _⟩ ?_
    exact rI hx hb hr hlk hH dX0_count_54 (by clear hl hC hin hK hP hts hown hnm hx hb hr hlk hml; first | (simp_all [Int32.not_lt, Int32.not_le]; done) | grind)
  refine lv_tableOut (tgt := 55) hx hb dX0_count_1 (by have h0 := lv_neT (a := 0) cz1 (by decide); have h1 := lv_neT (a := 1) cz2 (by decide); have h2 := lv_neT (a := 2) cz3 (by decide); have h3 := lv_neT (a := 3) cz4 (by decide); omega) (by decide) ?_
  refine lv_iconst (v := (-1)) hx hb dX0_count_55 (by decide) ?_
  exact rI hx hb hr hlk hH dX0_count_56 (by clear hl hC hin hK hP hts hown hnm hx hb hr hlk hml; first | (simp_all [Int32.not_lt, Int32.not_le]; done) | grind)

theorem hdX0_trace : yX0_trace.cls = RX0 ∧ yX0_trace.cls ≠ "java/lang/invoke/MethodHandle" ∧ yX0_trace.cls ≠ "java/lang/invoke/VarHandle" ∧ (parseMethodDescriptor yX0_trace.desc).map (fun d => d.parameters.length) = some 0 := by decide +kernel
set_option maxHeartbeats 4000000 in
set_option maxRecDepth 100000 in
theorem kX0_trace {l : Launch} {D : va_G} {cy : ClassId} {H : Heap} {q : Nat → Nat} {gT gC : Int32} {ak : Int64} {ta pl cp kd fa fb bm sx sy : Nat → Int32} {N K S : Nat}  (hP : va_P D vwCl (wX cy q (nI N) gT gC (nI K) (nI S) ak ta pl cp kd fa fb bm sx sy) H)   : Met l yX0_trace wsX0_trace { frames := 0, cells := 0, slots := 0, locals := 0 } (pcK D cy H [.ref (q 0)]) (qI (some (.long ak)) (fun H1 => H1 = H) (fun _ => False)) 0 0 (fun _ => False) := by
  refine mV 1 (by decide) rfl (Nat.le_of_ble_eq_true rfl) ?_
  intro p e s m below meth c hx hb hml hr hlk hts hown hnm hK hH ls hl
  have hC := (⟨hx, hb, hml, hown, hts⟩ : CallFix p m c cX0_trace 1 s _ wsX0_trace RX0)
  have hin : ∀ w ∈ wsX00, w ∈ wsX0_trace := by decide +kernel
  have L53 : Cond.fieldLink RX0 53 "TwoColours" "asked" "J" ∈ wsX0_trace := by decide +kernel
  have hl : lv_has ls 1 [(0, .ref (q 0))] := hl
  refine lv_aload_n hx hb dX0_trace_0 rfl (lv_at hl 0 rfl) ?_
  refine gX_asked hx hb hts hin hown hK hP L53 dX0_trace_1 ?_
  exact rL hx hb hr hlk hH dX0_trace_4 rfl

theorem hdX0_second : yX0_second.cls = RX0 ∧ yX0_second.cls ≠ "java/lang/invoke/MethodHandle" ∧ yX0_second.cls ≠ "java/lang/invoke/VarHandle" ∧ (parseMethodDescriptor yX0_second.desc).map (fun d => d.parameters.length) = some 1 := by decide +kernel
set_option maxHeartbeats 4000000 in
set_option maxRecDepth 100000 in
theorem kX0_second {l : Launch} {D : va_G} {cy : ClassId} {H : Heap} {q : Nat → Nat} {gT gC : Int32} {ak : Int64} {ta pl cp kd fa fb bm sx sy : Nat → Int32} {N K S : Nat}  (hP : va_P D vwCl (wX cy q (nI N) gT gC (nI K) (nI S) ak ta pl cp kd fa fb bm sx sy) H) (k : Int32) (hN : N ≤ 12) : Met l yX0_second wsX0_second { frames := 1, cells := 0, slots := 0, locals := 21 } (pcK D cy H [.ref (q 0), .int k]) (QcRead (if 0 ≤ k ∧ k < nI N then ta (ix k) else -1)) 0 0 (fun _ => False) := by
  refine mV 2 (by decide) rfl (Nat.le_of_ble_eq_true rfl) ?_
  intro p e s m below meth c hx hb hml hr hlk hts hown hnm hK hH ls hl
  have hC := (⟨hx, hb, hml, hown, hts⟩ : CallFix p m c cX0_second 2 s _ wsX0_second RX0)
  have hin : ∀ w ∈ wsX00, w ∈ wsX0_second := by decide +kernel
  have L13 : Cond.fieldLink RX0 13 "TwoColours" "thingAt" "[I" ∈ wsX0_second := by decide +kernel
  have hl : lv_has ls 2 [(0, .ref (q 0)), (1, .int (k))] := hl
  refine lv_aload_n hx hb dX0_second_0 rfl (lv_at hl 0 rfl) ?_
  refine lv_iload_n hx hb dX0_second_1 rfl (lv_at hl 1 rfl) ?_
  refine cV (As := [.int (k)]) hC hK hP rfl rfl (kX0_isThing hP k ) [] (cwV 1 hts gX0_second_X0_isThing rfl rfl rfl hdX0_isThing ⟨Nat.le_of_ble_eq_true rfl, Nat.le_of_ble_eq_true rfl⟩) rfl hl.1 rfl (Nat.le_of_ble_eq_true rfl) dX0_second_2 ⟨Nat.zero_le _, Nat.zero_le _⟩ ?_
  refine lv_if_eq (tgt := 17) hx hb dX0_second_5 (by decide) (fun cz1 => ?_) (fun cz1 => ?_)
  · have cz1 := b2_0 cz1
    refine lv_iconst (v := (-1)) hx hb dX0_second_17 (by decide) ?_
    exact rI hx hb hr hlk hH dX0_second_18 (by rw [if_neg cz1])
  · have cz1 := b2_1 cz1
    obtain ⟨j, hj, ej⟩ := inN cz1 (by omega)
    subst ej
    refine lv_aload_n hx hb dX0_second_8 rfl (lv_at hl 0 rfl) ?_
    refine gX_thingAt hx hb hts hin hown hK hP L13 dX0_second_9 ?_
    refine lv_iload_n hx hb dX0_second_12 rfl (lv_at hl 1 rfl) ?_
    refine ldX_thingAt (j := j) hx hb hK hP rfl (by omega) dX0_second_13 ?_
    refine lv_goto (tgt := 18) hx hb dX0_second_14 (by decide) ?_
    exact rI hx hb hr hlk hH dX0_second_18 (by rw [if_pos cz1, ix_nI (by omega)])

theorem hdX0_bits : yX0_bits.cls = RX0 ∧ yX0_bits.cls ≠ "java/lang/invoke/MethodHandle" ∧ yX0_bits.cls ≠ "java/lang/invoke/VarHandle" ∧ (parseMethodDescriptor yX0_bits.desc).map (fun d => d.parameters.length) = some 1 := by decide +kernel
set_option maxHeartbeats 4000000 in
set_option maxRecDepth 100000 in
theorem kX0_bits {l : Launch} {D : va_G} {cy : ClassId} {H : Heap} {q : Nat → Nat} {gT gC : Int32} {ak : Int64} {ta pl cp kd fa fb bm sx sy : Nat → Int32} {N K S : Nat}  (hP : va_P D vwCl (wX cy q (nI N) gT gC (nI K) (nI S) ak ta pl cp kd fa fb bm sx sy) H) (k : Int32) (hKn : K ≤ 10) : Met l yX0_bits wsX0_bits { frames := 1, cells := 0, slots := 0, locals := 21 } (pcK D cy H [.ref (q 0), .int k]) (QcRead (if 0 ≤ k ∧ k < nI K then bm (ix k) else -1)) 0 0 (fun _ => False) := by
  refine mV 2 (by decide) rfl (Nat.le_of_ble_eq_true rfl) ?_
  intro p e s m below meth c hx hb hml hr hlk hts hown hnm hK hH ls hl
  have hC := (⟨hx, hb, hml, hown, hts⟩ : CallFix p m c cX0_bits 2 s _ wsX0_bits RX0)
  have hin : ∀ w ∈ wsX00, w ∈ wsX0_bits := by decide +kernel
  have L41 : Cond.fieldLink RX0 41 "TwoColours" "heapBits" "[I" ∈ wsX0_bits := by decide +kernel
  have hl : lv_has ls 2 [(0, .ref (q 0)), (1, .int (k))] := hl
  refine lv_aload_n hx hb dX0_bits_0 rfl (lv_at hl 0 rfl) ?_
  refine lv_iload_n hx hb dX0_bits_1 rfl (lv_at hl 1 rfl) ?_
  refine cV (As := [.int (k)]) hC hK hP rfl rfl (kX0_isHeap hP k ) [] (cwV 1 hts gX0_bits_X0_isHeap rfl rfl rfl hdX0_isHeap ⟨Nat.le_of_ble_eq_true rfl, Nat.le_of_ble_eq_true rfl⟩) rfl hl.1 rfl (Nat.le_of_ble_eq_true rfl) dX0_bits_2 ⟨Nat.zero_le _, Nat.zero_le _⟩ ?_
  refine lv_if_eq (tgt := 17) hx hb dX0_bits_5 (by decide) (fun cz1 => ?_) (fun cz1 => ?_)
  · have cz1 := b2_0 cz1
    refine lv_iconst (v := (-1)) hx hb dX0_bits_17 (by decide) ?_
    exact rI hx hb hr hlk hH dX0_bits_18 (by rw [if_neg cz1])
  · have cz1 := b2_1 cz1
    obtain ⟨j, hj, ej⟩ := inN cz1 (by omega)
    subst ej
    refine lv_aload_n hx hb dX0_bits_8 rfl (lv_at hl 0 rfl) ?_
    refine gX_heapBits hx hb hts hin hown hK hP L41 dX0_bits_9 ?_
    refine lv_iload_n hx hb dX0_bits_12 rfl (lv_at hl 1 rfl) ?_
    refine ldX_heapBits (j := j) hx hb hK hP rfl (by omega) dX0_bits_13 ?_
    refine lv_goto (tgt := 18) hx hb dX0_bits_14 (by decide) ?_
    exact rI hx hb hr hlk hH dX0_bits_18 (by rw [if_pos cz1, ix_nI (by omega)])

theorem hdX0_partnerInFirstOrder : yX0_partnerInFirstOrder.cls = RX0 ∧ yX0_partnerInFirstOrder.cls ≠ "java/lang/invoke/MethodHandle" ∧ yX0_partnerInFirstOrder.cls ≠ "java/lang/invoke/VarHandle" ∧ (parseMethodDescriptor yX0_partnerInFirstOrder.desc).map (fun d => d.parameters.length) = some 1 := by decide +kernel
set_option maxHeartbeats 4000000 in
set_option maxRecDepth 100000 in
theorem kX0_partnerInFirstOrder {l : Launch} {D : va_G} {cy : ClassId} {H : Heap} {q : Nat → Nat} {gT gC : Int32} {ak : Int64} {ta pl cp kd fa fb bm sx sy : Nat → Int32} {N K S : Nat}  (hP : va_P D vwCl (wX cy q (nI N) gT gC (nI K) (nI S) ak ta pl cp kd fa fb bm sx sy) H) (t : Nat) (hN : N ≤ 12) (ht : t < 12) : Met l yX0_partnerInFirstOrder wsX0_partnerInFirstOrder { frames := 1, cells := 0, slots := 0, locals := 21 } (pcK D cy H [.ref (q 0), .int (nI t)]) (QcRead (if t ^^^ 1 < N then nI (t ^^^ 1) else -9)) 0 0 (fun _ => False) := by
  refine mV 3 (by decide) rfl (Nat.le_of_ble_eq_true rfl) ?_
  intro p e s m below meth c hx hb hml hr hlk hts hown hnm hK hH ls hl
  have hC := (⟨hx, hb, hml, hown, hts⟩ : CallFix p m c cX0_partnerInFirstOrder 3 s _ wsX0_partnerInFirstOrder RX0)
  have hl : lv_has ls 3 [(0, .ref (q 0)), (1, .int (nI t))] := hl
  have hx1 := xor1_lt t ht
  refine lv_iload_n hx hb dX0_partnerInFirstOrder_0 rfl (lv_at hl 1 rfl) ?_
  refine lv_iconst (v := 1) hx hb dX0_partnerInFirstOrder_1 (by decide) ?_
  refine lv_ixor hx hb dX0_partnerInFirstOrder_2 ?_
  refine tpI (y := nI (t ^^^ 1)) (xor1 t (by omega)) ?_
  refine lv_istore_n (lv' := [(2, .int (nI (t ^^^ 1))), (0, .ref (q 0)), (1, .int (nI t))]) hx hb dX0_partnerInFirstOrder_3 rfl hl (by decide) rfl (fun ls hl => ?_)
  refine lv_aload_n hx hb dX0_partnerInFirstOrder_4 rfl (lv_at hl 1 rfl) ?_
  refine lv_iload_n hx hb dX0_partnerInFirstOrder_5 rfl (lv_at hl 0 rfl) ?_
  refine cV (As := [.int (nI (t ^^^ 1))]) hC hK hP rfl rfl (kX0_isThing hP (nI (t ^^^ 1)) ) [] (cwV 1 hts gX0_partnerInFirstOrder_X0_isThing rfl rfl rfl hdX0_isThing ⟨Nat.le_of_ble_eq_true rfl, Nat.le_of_ble_eq_true rfl⟩) rfl hl.1 rfl (Nat.le_of_ble_eq_true rfl) dX0_partnerInFirstOrder_6 ⟨Nat.zero_le _, Nat.zero_le _⟩ ?_
  refine lv_if_eq (tgt := 16) hx hb dX0_partnerInFirstOrder_9 (by decide) (fun cz1 => ?_) (fun cz1 => ?_)
  · have cz1 := b2_0 cz1
    refine lv_bipush (v := (-9)) hx hb dX0_partnerInFirstOrder_16 (by decide) ?_
    exact rI hx hb hr hlk hH dX0_partnerInFirstOrder_18 (by rw [if_neg (fun h => cz1 (nIin h (by omega)))])
  · have cz1 := b2_1 cz1
    refine lv_iload_n hx hb dX0_partnerInFirstOrder_12 rfl (lv_at hl 0 rfl) ?_
    refine lv_goto (tgt := 18) hx hb dX0_partnerInFirstOrder_13 (by decide) ?_
    exact rI hx hb hr hlk hH dX0_partnerInFirstOrder_18 (by rw [if_pos ((nI_ltI (by omega) (by omega)).mp cz1.2)])

theorem hdX0_partnerInSecondOrder : yX0_partnerInSecondOrder.cls = RX0 ∧ yX0_partnerInSecondOrder.cls ≠ "java/lang/invoke/MethodHandle" ∧ yX0_partnerInSecondOrder.cls ≠ "java/lang/invoke/VarHandle" ∧ (parseMethodDescriptor yX0_partnerInSecondOrder.desc).map (fun d => d.parameters.length) = some 1 := by decide +kernel
set_option maxHeartbeats 4000000 in
set_option maxRecDepth 100000 in
theorem kX0_partnerInSecondOrder {l : Launch} {D : va_G} {cy : ClassId} {H : Heap} {q : Nat → Nat} {gT gC : Int32} {ak : Int64} {ta pl cp kd fa fb bm sx sy : Nat → Int32} {N K S : Nat}  (hP : va_P D vwCl (wX cy q (nI N) gT gC (nI K) (nI S) ak ta pl cp kd fa fb bm sx sy) H) (t : Nat) (hN : N ≤ 12) (ht : t < 12) (u : Nat) (hu : u < 12) (hp : pl t = nI u) : Met l yX0_partnerInSecondOrder wsX0_partnerInSecondOrder { frames := 1, cells := 0, slots := 0, locals := 21 } (pcK D cy H [.ref (q 0), .int (nI t)]) (QcRead (if u ^^^ 1 < N then ta (u ^^^ 1) else -9)) 0 0 (fun _ => False) := by
  refine mV 3 (by decide) rfl (Nat.le_of_ble_eq_true rfl) ?_
  intro p e s m below meth c hx hb hml hr hlk hts hown hnm hK hH ls hl
  have hC := (⟨hx, hb, hml, hown, hts⟩ : CallFix p m c cX0_partnerInSecondOrder 3 s _ wsX0_partnerInSecondOrder RX0)
  have hin : ∀ w ∈ wsX00, w ∈ wsX0_partnerInSecondOrder := by decide +kernel
  have L13 : Cond.fieldLink RX0 13 "TwoColours" "thingAt" "[I" ∈ wsX0_partnerInSecondOrder := by decide +kernel
  have L17 : Cond.fieldLink RX0 17 "TwoColours" "placeOf" "[I" ∈ wsX0_partnerInSecondOrder := by decide +kernel
  have hl : lv_has ls 3 [(0, .ref (q 0)), (1, .int (nI t))] := hl
  have hx1 := xor1_lt u hu
  refine lv_aload_n hx hb dX0_partnerInSecondOrder_0 rfl (lv_at hl 0 rfl) ?_
  refine gX_placeOf hx hb hts hin hown hK hP L17 dX0_partnerInSecondOrder_1 ?_
  refine lv_iload_n hx hb dX0_partnerInSecondOrder_4 rfl (lv_at hl 1 rfl) ?_
  refine ldX_placeOf (j := t) hx hb hK hP rfl (by omega) dX0_partnerInSecondOrder_5 ?_
  refine lv_iconst (v := 1) hx hb dX0_partnerInSecondOrder_6 (by decide) ?_
  refine lv_ixor hx hb dX0_partnerInSecondOrder_7 ?_
  refine tpI (y := nI (u ^^^ 1)) (by rw [hp]; exact xor1 u (by omega)) ?_
  refine lv_istore_n (lv' := [(2, .int (nI (u ^^^ 1))), (0, .ref (q 0)), (1, .int (nI t))]) hx hb dX0_partnerInSecondOrder_8 rfl hl (by decide) rfl (fun ls hl => ?_)
  refine lv_aload_n hx hb dX0_partnerInSecondOrder_9 rfl (lv_at hl 1 rfl) ?_
  refine lv_iload_n hx hb dX0_partnerInSecondOrder_10 rfl (lv_at hl 0 rfl) ?_
  refine cV (As := [.int (nI (u ^^^ 1))]) hC hK hP rfl rfl (kX0_isThing hP (nI (u ^^^ 1)) ) [] (cwV 1 hts gX0_partnerInSecondOrder_X0_isThing rfl rfl rfl hdX0_isThing ⟨Nat.le_of_ble_eq_true rfl, Nat.le_of_ble_eq_true rfl⟩) rfl hl.1 rfl (Nat.le_of_ble_eq_true rfl) dX0_partnerInSecondOrder_11 ⟨Nat.zero_le _, Nat.zero_le _⟩ ?_
  refine lv_if_eq (tgt := 26) hx hb dX0_partnerInSecondOrder_14 (by decide) (fun cz1 => ?_) (fun cz1 => ?_)
  · have cz1 := b2_0 cz1
    refine lv_bipush (v := (-9)) hx hb dX0_partnerInSecondOrder_26 (by decide) ?_
    exact rI hx hb hr hlk hH dX0_partnerInSecondOrder_28 (by rw [if_neg (fun h => cz1 (nIin h (by omega)))])
  · have cz1 := b2_1 cz1
    refine lv_aload_n hx hb dX0_partnerInSecondOrder_17 rfl (lv_at hl 1 rfl) ?_
    refine gX_thingAt hx hb hts hin hown hK hP L13 dX0_partnerInSecondOrder_18 ?_
    refine lv_iload_n hx hb dX0_partnerInSecondOrder_21 rfl (lv_at hl 0 rfl) ?_
    refine ldX_thingAt (j := (u ^^^ 1)) hx hb hK hP rfl (by omega) dX0_partnerInSecondOrder_22 ?_
    refine lv_goto (tgt := 28) hx hb dX0_partnerInSecondOrder_23 (by decide) ?_
    exact rI hx hb hr hlk hH dX0_partnerInSecondOrder_28 (by rw [if_pos ((nI_ltI (by omega) (by omega)).mp cz1.2)])

