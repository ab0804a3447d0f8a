set_option maxHeartbeats 4000000 in
set_option maxRecDepth 100000 in
theorem kX1_far {l : Launch}  (x : Int32) (y : Int32)  : Met l yX1_far wsX1_far { frames := 1, cells := 0, slots := 0, locals := 20 } (fun v _ => v = ([.int x, .int y] : List Value).toArray) (QcRead (gsz x y)) 0 0 (fun _ => False) := by
  refine mS 2 (by decide) rfl (Nat.le_of_ble_eq_true rfl) ?_
  intro p e s m below meth c hx hb hml hr hlk hts hown ls hl
  have hC := (⟨hx, hb, hml, hown, hts⟩ : CallFix p m c cX1_far 2 s _ wsX1_far RX1)
  have hl : lv_has ls 2 [(0, .int (x)), (1, .int (y))] := hl
  refine lv_iload_n hx hb dX1_far_0 rfl (lv_at hl 0 rfl) ?_
  refine cS (As := [.int (x)]) hC (kX1_size x ) [] (va_cwS 1 hts gX1_far_X1_size rfl rfl rfl (by decide +kernel) ⟨Nat.le_of_ble_eq_true rfl, Nat.le_of_ble_eq_true rfl⟩) rfl hl.1 rfl (Nat.le_of_ble_eq_true rfl) dX1_far_1 ⟨Nat.zero_le _, Nat.zero_le _⟩ ?_
  refine lv_iload_n hx hb dX1_far_4 rfl (lv_at hl 1 rfl) ?_
  refine cS (As := [.int (y)]) hC (kX1_size y ) [.int (absI x)] (va_cwS 1 hts gX1_far_X1_size rfl rfl rfl (by decide +kernel) ⟨Nat.le_of_ble_eq_true rfl, Nat.le_of_ble_eq_true rfl⟩) rfl hl.1 rfl (Nat.le_of_ble_eq_true rfl) dX1_far_5 ⟨Nat.zero_le _, Nat.zero_le _⟩ ?_
  refine lv_icmp_le (tgt := 18) hx hb dX1_far_8 (by decide) (fun cz1 => ?_) (fun cz1 => ?_)
  · refine lv_iload_n hx hb dX1_far_18 rfl (lv_at hl 1 rfl) ?_
    refine cS (As := [.int (y)]) hC (kX1_size y ) [] (va_cwS 1 hts gX1_far_X1_size rfl rfl rfl (by decide +kernel) ⟨Nat.le_of_ble_eq_true rfl, Nat.le_of_ble_eq_true rfl⟩) rfl hl.1 rfl (Nat.le_of_ble_eq_true rfl) dX1_far_19 ⟨Nat.zero_le _, Nat.zero_le _⟩ ?_
    exact rI hx hb hr hlk rfl dX1_far_22 (by rw [gsz, maxI]; split; rfl; exact Int32.le_antisymm (Int32.not_lt.mp (by assumption)) cz1)
  · refine lv_iload_n hx hb dX1_far_11 rfl (lv_at hl 0 rfl) ?_
    refine cS (As := [.int (x)]) hC (kX1_size x ) [] (va_cwS 1 hts gX1_far_X1_size rfl rfl rfl (by decide +kernel) ⟨Nat.le_of_ble_eq_true rfl, Nat.le_of_ble_eq_true rfl⟩) rfl hl.1 rfl (Nat.le_of_ble_eq_true rfl) dX1_far_12 ⟨Nat.zero_le _, Nat.zero_le _⟩ ?_
    refine lv_goto (tgt := 22) hx hb dX1_far_15 (by decide) ?_
    exact rI hx hb hr hlk rfl dX1_far_22 (by rw [gsz, maxI, if_neg (fun h => Int32.lt_irrefl (Int32.lt_trans h (Int32.not_le.mp cz1)))])

theorem hdX1_strayOf : yX1_strayOf.cls = RX1 ∧ yX1_strayOf.cls ≠ "java/lang/invoke/MethodHandle" ∧ yX1_strayOf.cls ≠ "java/lang/invoke/VarHandle" ∧ (parseMethodDescriptor yX1_strayOf.desc).map (fun d => d.parameters.length) = some 1 := by decide +kernel
set_option maxHeartbeats 4000000 in
set_option maxRecDepth 100000 in
theorem kX1_strayOf {l : Launch} {D : va_G} {cy : ClassId} {H : Heap} {q : Nat → Nat} {ff fm fw : Int32} {ak : Int64} {ta gh kd fa fb sx sy mb co : Nat → Int32} {N K S : Nat}  (hP : va_P D vwCl (wM cy q (nI N) (nI K) (nI S) ff fm fw ak ta gh kd fa fb sx sy mb co) H) (k : Int32) (hSn : S ≤ 10) : Met l yX1_strayOf wsX1_strayOf { frames := 2, cells := 0, slots := 0, locals := 41 } (pcK D cy H [.ref (q 0), .int k]) (QcRead (stm sx sy k S)) 0 0 (fun _ => False) := by
  refine mV 7 (by decide) rfl (Nat.le_of_ble_eq_true rfl) ?_
  intro p e s m below meth c hx hb hml hr hlk hts hown hnm hK hH ls hl
  have hC := (⟨hx, hb, hml, hown, hts⟩ : CallFix p m c cX1_strayOf 7 s _ wsX1_strayOf RX1)
  have hin : ∀ w ∈ wsX10, w ∈ wsX1_strayOf := by decide +kernel
  have L29 : Cond.fieldLink RX1 29 "TwoColoursModel" "stepX" "[I" ∈ wsX1_strayOf := by decide +kernel
  have L32 : Cond.fieldLink RX1 32 "TwoColoursModel" "stepY" "[I" ∈ wsX1_strayOf := by decide +kernel
  have L122 : Cond.fieldLink RX1 122 "TwoColoursModel" "steps" "I" ∈ wsX1_strayOf := by decide +kernel
  have hl : lv_has ls 7 [(0, .ref (q 0)), (1, .int (k))] := hl
  refine lv_iconst (v := 0) hx hb dX1_strayOf_0 (by decide) ?_
  refine lv_istore_n (lv' := [(2, .int (0)), (0, .ref (q 0)), (1, .int (k))]) hx hb dX1_strayOf_1 rfl hl (by decide) rfl (fun ls hl => ?_)
  refine lv_iconst (v := 0) hx hb dX1_strayOf_2 (by decide) ?_
  refine lv_istore_n (lv' := [(3, .int (0)), (2, .int (0)), (0, .ref (q 0)), (1, .int (k))]) hx hb dX1_strayOf_3 rfl hl (by decide) rfl (fun ls hl => ?_)
  refine lv_iconst (v := 0) hx hb dX1_strayOf_4 (by decide) ?_
  refine lv_istore (lv' := [(4, .int (0)), (3, .int (0)), (2, .int (0)), (0, .ref (q 0)), (1, .int (k))]) hx hb dX1_strayOf_5 hl (by decide) rfl (fun ls hl => ?_)
  refine lv_iconst (v := 0) hx hb dX1_strayOf_7 (by decide) ?_
  refine lv_istore (lv' := [(5, .int (0)), (4, .int (0)), (3, .int (0)), (2, .int (0)), (0, .ref (q 0)), (1, .int (k))]) hx hb dX1_strayOf_8 hl (by decide) rfl (fun ls hl => ?_)
  refine lpP 10 (fun i ls => lv_has ls 7 [(0, .ref (q 0)), (1, .int (k)), (2, .int (stx sx k i)), (3, .int (stx sy k i)), (4, .int (stm sx sy k i)), (5, .int (nI i))]) (S) ?_ (0) ls (by omega) (lv_sub hl [4, 5, 3, 2, 1, 0] rfl)
  intro i ls hi hl ih_10
  refine lv_iload hx hb dX1_strayOf_10 (lv_at hl 5 rfl) ?_
  refine lv_aload_n hx hb dX1_strayOf_12 rfl (lv_at hl 0 rfl) ?_
  refine gM_steps hx hb hts hin hown hK hP L122 dX1_strayOf_13 ?_
  refine lv_icmp_ge (tgt := 90) hx hb dX1_strayOf_16 (by decide) (fun cz1 => ?_) (fun cz1 => ?_)
  · have cz1 : S ≤ i := (nI_leI (a := S) (b := i) (by omega) (by omega)).mp cz1
    refine lv_iload hx hb dX1_strayOf_90 (lv_at hl 4 rfl) ?_
    exact rI hx hb hr hlk hH dX1_strayOf_92 (by rw [show i = S by omega])
  · have cz1 : ¬ S ≤ i := fun h => cz1 ((nI_leI (a := S) (b := i) (by omega) (by omega)).mpr h)
    refine lv_iload_n hx hb dX1_strayOf_19 rfl (lv_at hl 1 rfl) ?_
    refine lv_iload hx hb dX1_strayOf_20 (lv_at hl 5 rfl) ?_
    refine lv_ishr hx hb dX1_strayOf_22 ?_
    refine lv_iconst (v := 1) hx hb dX1_strayOf_23 (by decide) ?_
    refine lv_iand hx hb dX1_strayOf_24 ?_
    refine lv_iconst (v := 1) hx hb dX1_strayOf_25 (by decide) ?_
    refine lv_icmp_ne (tgt := 33) hx hb dX1_strayOf_26 (by decide) (fun cz2 => ?_) (fun cz2 => ?_)
    · refine lv_iconst (v := 1) hx hb dX1_strayOf_33 (by decide) ?_
      refine tpI (y := sgI k i) (by rw [sgI, if_pos (bit1 cz2)]) ?_
      refine lv_istore (lv' := [(6, .int (sgI k i)), (0, .ref (q 0)), (1, .int (k)), (2, .int (stx sx k i)), (3, .int (stx sy k i)), (4, .int (stm sx sy k i)), (5, .int (nI i))]) hx hb dX1_strayOf_34 hl (by decide) rfl (fun ls hl => ?_)
      refine lv_iload_n hx hb dX1_strayOf_36 rfl (lv_at hl 3 rfl) ?_
      refine lv_iload hx hb dX1_strayOf_37 (lv_at hl 0 rfl) ?_
      refine lv_aload_n hx hb dX1_strayOf_39 rfl (lv_at hl 1 rfl) ?_
      refine gM_stepX hx hb hts hin hown hK hP L29 dX1_strayOf_40 ?_
      refine lv_iload hx hb dX1_strayOf_43 (lv_at hl 6 rfl) ?_
      refine ldM_stepX (j := i) hx hb hK hP rfl (by omega) dX1_strayOf_45 ?_
      refine lv_imul hx hb dX1_strayOf_46 ?_
      refine lv_iadd hx hb dX1_strayOf_47 ?_
      refine lv_istore_n (lv' := [(2, .int ((stx sx k i) + ((sgI k i) * (sx i)))), (6, .int (sgI k i)), (0, .ref (q 0)), (1, .int (k)), (3, .int (stx sy k i)), (4, .int (stm sx sy k i)), (5, .int (nI i))]) hx hb dX1_strayOf_48 rfl hl (by decide) rfl (fun ls hl => ?_)
      refine lv_iload_n hx hb dX1_strayOf_49 rfl (lv_at hl 4 rfl) ?_
      refine lv_iload hx hb dX1_strayOf_50 (lv_at hl 1 rfl) ?_
      refine lv_aload_n hx hb dX1_strayOf_52 rfl (lv_at hl 2 rfl) ?_
      refine gM_stepY hx hb hts hin hown hK hP L32 dX1_strayOf_53 ?_
      refine lv_iload hx hb dX1_strayOf_56 (lv_at hl 6 rfl) ?_
      refine ldM_stepY (j := i) hx hb hK hP rfl (by omega) dX1_strayOf_58 ?_
      refine lv_imul hx hb dX1_strayOf_59 ?_
      refine lv_iadd hx hb dX1_strayOf_60 ?_
      refine lv_istore_n (lv' := [(3, .int ((stx sy k i) + ((sgI k i) * (sy i)))), (2, .int ((stx sx k i) + ((sgI k i) * (sx i)))), (6, .int (sgI k i)), (0, .ref (q 0)), (1, .int (k)), (4, .int (stm sx sy k i)), (5, .int (nI i))]) hx hb dX1_strayOf_61 rfl hl (by decide) rfl (fun ls hl => ?_)
      refine lv_iload_n hx hb dX1_strayOf_62 rfl (lv_at hl 1 rfl) ?_
      refine lv_iload_n hx hb dX1_strayOf_63 rfl (lv_at hl 0 rfl) ?_
      refine cS (As := [.int ((stx sx k i) + ((sgI k i) * (sx i))), .int ((stx sy k i) + ((sgI k i) * (sy i)))]) hC (kX1_far ((stx sx k i) + ((sgI k i) * (sx i))) ((stx sy k i) + ((sgI k i) * (sy i))) ) [] (va_cwS 2 hts gX1_strayOf_X1_far rfl rfl rfl (by decide +kernel) ⟨Nat.le_of_ble_eq_true rfl, Nat.le_of_ble_eq_true rfl⟩) rfl hl.1 rfl (Nat.le_of_ble_eq_true rfl) dX1_strayOf_64 ⟨Nat.zero_le _, Nat.zero_le _⟩ ?_
      refine lv_iload hx hb dX1_strayOf_67 (lv_at hl 5 rfl) ?_
      refine lv_icmp_le (tgt := 80) hx hb dX1_strayOf_69 (by decide) (fun cz3 => ?_) (fun cz3 => ?_)
      · refine lv_iload hx hb dX1_strayOf_80 (lv_at hl 5 rfl) ?_
        refine tpI (y := maxI (stm sx sy k i) (gsz (stx sx k i + sgI k i * sx i) (stx sy k i + sgI k i * sy i))) (by rw [maxI, if_neg (Int32.not_lt.mpr cz3)]) ?_
        refine lv_istore (lv' := [(4, .int (maxI (stm sx sy k i) (gsz (stx sx k i + sgI k i * sx i) (stx sy k i + sgI k i * sy i)))), (3, .int ((stx sy k i) + ((sgI k i) * (sy i)))), (2, .int ((stx sx k i) + ((sgI k i) * (sx i)))), (6, .int (sgI k i)), (0, .ref (q 0)), (1, .int (k)), (5, .int (nI i))]) hx hb dX1_strayOf_82 hl (by decide) rfl (fun ls hl => ?_)
        refine lv_iinc (v := nI (i + 1)) (lv' := [(5, .int (nI (i + 1))), (4, .int (maxI (stm sx sy k i) (gsz (stx sx k i + sgI k i * sx i) (stx sy k i + sgI k i * sy i)))), (3, .int ((stx sy k i) + ((sgI k i) * (sy i)))), (2, .int ((stx sx k i) + ((sgI k i) * (sx i)))), (6, .int (sgI k i)), (0, .ref (q 0)), (1, .int (k))]) hx hb dX1_strayOf_84 hl (k := 6) rfl (nI_1 _) (by decide) rfl (fun ls hl => ?_)
        refine lv_goto (tgt := 10) hx hb dX1_strayOf_87 (by decide) ?_
        exact ih_10 _ (by omega) (lv_sub hl [5, 6, 3, 2, 1, 0] rfl)
      · refine lv_iload_n hx hb dX1_strayOf_72 rfl (lv_at hl 1 rfl) ?_
        refine lv_iload_n hx hb dX1_strayOf_73 rfl (lv_at hl 0 rfl) ?_
        refine cS (As := [.int ((stx sx k i) + ((sgI k i) * (sx i))), .int ((stx sy k i) + ((sgI k i) * (sy i)))]) hC (kX1_far ((stx sx k i) + ((sgI k i) * (sx i))) ((stx sy k i) + ((sgI k i) * (sy i))) ) [] (va_cwS 2 hts gX1_strayOf_X1_far rfl rfl rfl (by decide +kernel) ⟨Nat.le_of_ble_eq_true rfl, Nat.le_of_ble_eq_true rfl⟩) rfl hl.1 rfl (Nat.le_of_ble_eq_true rfl) dX1_strayOf_74 ⟨Nat.zero_le _, Nat.zero_le _⟩ ?_
        refine lv_goto (tgt := 82) hx hb dX1_strayOf_77 (by decide) ?_
        refine tpI (y := maxI (stm sx sy k i) (gsz (stx sx k i + sgI k i * sx i) (stx sy k i + sgI k i * sy i))) (by rw [maxI, if_pos (Int32.not_le.mp cz3)]) ?_
        refine lv_istore (lv' := [(4, .int (maxI (stm sx sy k i) (gsz (stx sx k i + sgI k i * sx i) (stx sy k i + sgI k i * sy i)))), (3, .int ((stx sy k i) + ((sgI k i) * (sy i)))), (2, .int ((stx sx k i) + ((sgI k i) * (sx i)))), (6, .int (sgI k i)), (0, .ref (q 0)), (1, .int (k)), (5, .int (nI i))]) hx hb dX1_strayOf_82 hl (by decide) rfl (fun ls hl => ?_)
        refine lv_iinc (v := nI (i + 1)) (lv' := [(5, .int (nI (i + 1))), (4, .int (maxI (stm sx sy k i) (gsz (stx sx k i + sgI k i * sx i) (stx sy k i + sgI k i * sy i)))), (3, .int ((stx sy k i) + ((sgI k i) * (sy i)))), (2, .int ((stx sx k i) + ((sgI k i) * (sx i)))), (6, .int (sgI k i)), (0, .ref (q 0)), (1, .int (k))]) hx hb dX1_strayOf_84 hl (k := 6) rfl (nI_1 _) (by decide) rfl (fun ls hl => ?_)
        refine lv_goto (tgt := 10) hx hb dX1_strayOf_87 (by decide) ?_
        exact ih_10 _ (by omega) (lv_sub hl [5, 6, 3, 2, 1, 0] rfl)
    · refine lv_iconst (v := (-1)) hx hb dX1_strayOf_29 (by decide) ?_
      refine lv_goto (tgt := 34) hx hb dX1_strayOf_30 (by decide) ?_
      refine tpI (y := sgI k i) (by rw [sgI, if_neg (fun h => absurd (h.symm.trans cz2) (by decide))]) ?_
      refine lv_istore (lv' := [(6, .int (sgI k i)), (0, .ref (q 0)), (1, .int (k)), (2, .int (stx sx k i)), (3, .int (stx sy k i)), (4, .int (stm sx sy k i)), (5, .int (nI i))]) hx hb dX1_strayOf_34 hl (by decide) rfl (fun ls hl => ?_)
      refine lv_iload_n hx hb dX1_strayOf_36 rfl (lv_at hl 3 rfl) ?_
      refine lv_iload hx hb dX1_strayOf_37 (lv_at hl 0 rfl) ?_
      refine lv_aload_n hx hb dX1_strayOf_39 rfl (lv_at hl 1 rfl) ?_
      refine gM_stepX hx hb hts hin hown hK hP L29 dX1_strayOf_40 ?_
      refine lv_iload hx hb dX1_strayOf_43 (lv_at hl 6 rfl) ?_
      refine ldM_stepX (j := i) hx hb hK hP rfl (by omega) dX1_strayOf_45 ?_
      refine lv_imul hx hb dX1_strayOf_46 ?_
      refine lv_iadd hx hb dX1_strayOf_47 ?_
      refine lv_istore_n (lv' := [(2, .int ((stx sx k i) + ((sgI k i) * (sx i)))), (6, .int (sgI k i)), (0, .ref (q 0)), (1, .int (k)), (3, .int (stx sy k i)), (4, .int (stm sx sy k i)), (5, .int (nI i))]) hx hb dX1_strayOf_48 rfl hl (by decide) rfl (fun ls hl => ?_)
      refine lv_iload_n hx hb dX1_strayOf_49 rfl (lv_at hl 4 rfl) ?_
      refine lv_iload hx hb dX1_strayOf_50 (lv_at hl 1 rfl) ?_
      refine lv_aload_n hx hb dX1_strayOf_52 rfl (lv_at hl 2 rfl) ?_
      refine gM_stepY hx hb hts hin hown hK hP L32 dX1_strayOf_53 ?_
      refine lv_iload hx hb dX1_strayOf_56 (lv_at hl 6 rfl) ?_
      refine ldM_stepY (j := i) hx hb hK hP rfl (by omega) dX1_strayOf_58 ?_
      refine lv_imul hx hb dX1_strayOf_59 ?_
      refine lv_iadd hx hb dX1_strayOf_60 ?_
      refine lv_istore_n (lv' := [(3, .int ((stx sy k i) + ((sgI k i) * (sy i)))), (2, .int ((stx sx k i) + ((sgI k i) * (sx i)))), (6, .int (sgI k i)), (0, .ref (q 0)), (1, .int (k)), (4, .int (stm sx sy k i)), (5, .int (nI i))]) hx hb dX1_strayOf_61 rfl hl (by decide) rfl (fun ls hl => ?_)
      refine lv_iload_n hx hb dX1_strayOf_62 rfl (lv_at hl 1 rfl) ?_
      refine lv_iload_n hx hb dX1_strayOf_63 rfl (lv_at hl 0 rfl) ?_
      refine cS (As := [.int ((stx sx k i) + ((sgI k i) * (sx i))), .int ((stx sy k i) + ((sgI k i) * (sy i)))]) hC (kX1_far ((stx sx k i) + ((sgI k i) * (sx i))) ((stx sy k i) + ((sgI k i) * (sy i))) ) [] (va_cwS 2 hts gX1_strayOf_X1_far rfl rfl rfl (by decide +kernel) ⟨Nat.le_of_ble_eq_true rfl, Nat.le_of_ble_eq_true rfl⟩) rfl hl.1 rfl (Nat.le_of_ble_eq_true rfl) dX1_strayOf_64 ⟨Nat.zero_le _, Nat.zero_le _⟩ ?_
      refine lv_iload hx hb dX1_strayOf_67 (lv_at hl 5 rfl) ?_
      refine lv_icmp_le (tgt := 80) hx hb dX1_strayOf_69 (by decide) (fun cz4 => ?_) (fun cz4 => ?_)
      · refine lv_iload hx hb dX1_strayOf_80 (lv_at hl 5 rfl) ?_
        refine tpI (y := maxI (stm sx sy k i) (gsz (stx sx k i + sgI k i * sx i) (stx sy k i + sgI k i * sy i))) (by rw [maxI, if_neg (Int32.not_lt.mpr cz4)]) ?_
        refine lv_istore (lv' := [(4, .int (maxI (stm sx sy k i) (gsz (stx sx k i + sgI k i * sx i) (stx sy k i + sgI k i * sy i)))), (3, .int ((stx sy k i) + ((sgI k i) * (sy i)))), (2, .int ((stx sx k i) + ((sgI k i) * (sx i)))), (6, .int (sgI k i)), (0, .ref (q 0)), (1, .int (k)), (5, .int (nI i))]) hx hb dX1_strayOf_82 hl (by decide) rfl (fun ls hl => ?_)
        refine lv_iinc (v := nI (i + 1)) (lv' := [(5, .int (nI (i + 1))), (4, .int (maxI (stm sx sy k i) (gsz (stx sx k i + sgI k i * sx i) (stx sy k i + sgI k i * sy i)))), (3, .int ((stx sy k i) + ((sgI k i) * (sy i)))), (2, .int ((stx sx k i) + ((sgI k i) * (sx i)))), (6, .int (sgI k i)), (0, .ref (q 0)), (1, .int (k))]) hx hb dX1_strayOf_84 hl (k := 6) rfl (nI_1 _) (by decide) rfl (fun ls hl => ?_)
        refine lv_goto (tgt := 10) hx hb dX1_strayOf_87 (by decide) ?_
        exact ih_10 _ (by omega) (lv_sub hl [5, 6, 3, 2, 1, 0] rfl)
      · refine lv_iload_n hx hb dX1_strayOf_72 rfl (lv_at hl 1 rfl) ?_
        refine lv_iload_n hx hb dX1_strayOf_73 rfl (lv_at hl 0 rfl) ?_
        refine cS (As := [.int ((stx sx k i) + ((sgI k i) * (sx i))), .int ((stx sy k i) + ((sgI k i) * (sy i)))]) hC (kX1_far ((stx sx k i) + ((sgI k i) * (sx i))) ((stx sy k i) + ((sgI k i) * (sy i))) ) [] (va_cwS 2 hts gX1_strayOf_X1_far rfl rfl rfl (by decide +kernel) ⟨Nat.le_of_ble_eq_true rfl, Nat.le_of_ble_eq_true rfl⟩) rfl hl.1 rfl (Nat.le_of_ble_eq_true rfl) dX1_strayOf_74 ⟨Nat.zero_le _, Nat.zero_le _⟩ ?_
        refine lv_goto (tgt := 82) hx hb dX1_strayOf_77 (by decide) ?_
        refine tpI (y := maxI (stm sx sy k i) (gsz (stx sx k i + sgI k i * sx i) (stx sy k i + sgI k i * sy i))) (by rw [maxI, if_pos (Int32.not_le.mp cz4)]) ?_
        refine lv_istore (lv' := [(4, .int (maxI (stm sx sy k i) (gsz (stx sx k i + sgI k i * sx i) (stx sy k i + sgI k i * sy i)))), (3, .int ((stx sy k i) + ((sgI k i) * (sy i)))), (2, .int ((stx sx k i) + ((sgI k i) * (sx i)))), (6, .int (sgI k i)), (0, .ref (q 0)), (1, .int (k)), (5, .int (nI i))]) hx hb dX1_strayOf_82 hl (by decide) rfl (fun ls hl => ?_)
        refine lv_iinc (v := nI (i + 1)) (lv' := [(5, .int (nI (i + 1))), (4, .int (maxI (stm sx sy k i) (gsz (stx sx k i + sgI k i * sx i) (stx sy k i + sgI k i * sy i)))), (3, .int ((stx sy k i) + ((sgI k i) * (sy i)))), (2, .int ((stx sx k i) + ((sgI k i) * (sx i)))), (6, .int (sgI k i)), (0, .ref (q 0)), (1, .int (k))]) hx hb dX1_strayOf_84 hl (k := 6) rfl (nI_1 _) (by decide) rfl (fun ls hl => ?_)
        refine lv_goto (tgt := 10) hx hb dX1_strayOf_87 (by decide) ?_
        exact ih_10 _ (by omega) (lv_sub hl [5, 6, 3, 2, 1, 0] rfl)

theorem hdX1_stray : yX1_stray.cls = RX1 ∧ yX1_stray.cls ≠ "java/lang/invoke/MethodHandle" ∧ yX1_stray.cls ≠ "java/lang/invoke/VarHandle" ∧ (parseMethodDescriptor yX1_stray.desc).map (fun d => d.parameters.length) = some 1 := by decide +kernel
set_option maxHeartbeats 4000000 in
set_option maxRecDepth 100000 in
theorem kX1_stray {l : Launch} {D : va_G} {cy : ClassId} {H : Heap} {q : Nat → Nat} {ff fm fw : Int32} {ak : Int64} {ta gh kd fa fb sx sy mb co : Nat → Int32} {N K S : Nat}  (hP : va_P D vwCl (wM cy q (nI N) (nI K) (nI S) ff fm fw ak ta gh kd fa fb sx sy mb co) H) (k : Int32) (hSn : S ≤ 10) : Met l yX1_stray wsX1_stray { frames := 3, cells := 0, slots := 0, locals := 67 } (pcK D cy H [.ref (q 0), .int k]) (QcRead (if 0 ≤ k ∧ k < nI (2 ^ S) then stm sx sy k S else -1)) 0 0 (fun _ => False) := by
  refine mV 2 (by decide) rfl (Nat.le_of_ble_eq_true rfl) ?_
  intro p e s m below meth c hx hb hml hr hlk hts hown hnm hK hH ls hl
  have hC := (⟨hx, hb, hml, hown, hts⟩ : CallFix p m c cX1_stray 2 s _ wsX1_stray RX1)
  have hin : ∀ w ∈ wsX10, w ∈ wsX1_stray := by decide +kernel
  have L122 : Cond.fieldLink RX1 122 "TwoColoursModel" "steps" "I" ∈ wsX1_stray := by decide +kernel
  have hl : lv_has ls 2 [(0, .ref (q 0)), (1, .int (k))] := hl
  have h2S := p2_le (n := S) (by omega)
  have h2P := p2_pos S
  refine lv_iload_n hx hb dX1_stray_0 rfl (lv_at hl 1 rfl) ?_
  refine lv_iconst (v := 0) hx hb dX1_stray_1 (by decide) ?_
  refine lv_iconst (v := 1) hx hb dX1_stray_2 (by decide) ?_
  refine lv_aload_n hx hb dX1_stray_3 rfl (lv_at hl 0 rfl) ?_
  refine gM_steps hx hb hts hin hown hK hP L122 dX1_stray_4 ?_
  refine lv_ishl hx hb dX1_stray_7 ?_
  refine tpI (y := nI (2 ^ S)) (shl1 S (by omega)) ?_
  refine lv_iconst (v := 1) hx hb dX1_stray_8 (by decide) ?_
  refine lv_isub hx hb dX1_stray_9 ?_
  refine cS (As := [.int (k), .int (0), .int ((nI (2 ^ S)) - ((1 : Int32)))]) hC (kX1_in k 0 ((nI (2 ^ S)) - ((1 : Int32))) ) [] (va_cwS 3 hts gX1_stray_X1_in rfl rfl rfl (by decide +kernel) ⟨Nat.le_of_ble_eq_true rfl, Nat.le_of_ble_eq_true rfl⟩) rfl hl.1 rfl (Nat.le_of_ble_eq_true rfl) dX1_stray_10 ⟨Nat.zero_le _, Nat.zero_le _⟩ ?_
  refine lv_if_eq (tgt := 24) hx hb dX1_stray_13 (by decide) (fun cz1 => ?_) (fun cz1 => ?_)
  · have cz1 := b2_0 cz1
    refine lv_iconst (v := (-1)) hx hb dX1_stray_24 (by decide) ?_
    exact rI hx hb hr hlk hH dX1_stray_25 (by rw [if_neg (fun h => cz1 ((leP (by omega)).mpr h))])
  · have cz1 := b2_1 cz1
    refine lv_aload_n hx hb dX1_stray_16 rfl (lv_at hl 0 rfl) ?_
    refine lv_iload_n hx hb dX1_stray_17 rfl (lv_at hl 1 rfl) ?_
    refine cV (As := [.int (k)]) hC hK hP rfl rfl (kX1_strayOf hP k (by omega)) [] (cwV 1 hts gX1_stray_X1_strayOf rfl rfl rfl hdX1_strayOf ⟨Nat.le_of_ble_eq_true rfl, Nat.le_of_ble_eq_true rfl⟩) rfl hl.1 rfl (Nat.le_of_ble_eq_true rfl) dX1_stray_18 ⟨Nat.zero_le _, Nat.zero_le _⟩ ?_
    refine lv_goto (tgt := 25) hx hb dX1_stray_21 (by decide) ?_
    exact rI hx hb hr hlk hH dX1_stray_25 (by rw [if_pos ((leP (by omega)).mp cz1)])

theorem hdX1_nearest : yX1_nearest.cls = RX1 ∧ yX1_nearest.cls ≠ "java/lang/invoke/MethodHandle" ∧ yX1_nearest.cls ≠ "java/lang/invoke/VarHandle" ∧ (parseMethodDescriptor yX1_nearest.desc).map (fun d => d.parameters.length) = some 0 := by decide +kernel
set_option maxHeartbeats 4000000 in
set_option maxRecDepth 100000 in
theorem kX1_nearest {l : Launch} {D : va_G} {cy : ClassId} {H : Heap} {q : Nat → Nat} {ff fm fw : Int32} {ak : Int64} {ta gh kd fa fb sx sy mb co : Nat → Int32} {N K S : Nat}  (hP : va_P D vwCl (wM cy q (nI N) (nI K) (nI S) ff fm fw ak ta gh kd fa fb sx sy mb co) H)  (hSn : S ≤ 10) : Met l yX1_nearest wsX1_nearest { frames := 2, cells := 0, slots := 0, locals := 41 } (pcK D cy H [.ref (q 0)]) (QcRead ((nef sx sy S).2.2)) 0 0 (fun _ => False) := by
  refine mV 7 (by decide) rfl (Nat.le_of_ble_eq_true rfl) ?_
  intro p e s m below meth c hx hb hml hr hlk hts hown hnm hK hH ls hl
  have hC := (⟨hx, hb, hml, hown, hts⟩ : CallFix p m c cX1_nearest 7 s _ wsX1_nearest RX1)
  have hin : ∀ w ∈ wsX10, w ∈ wsX1_nearest := by decide +kernel
  have L29 : Cond.fieldLink RX1 29 "TwoColoursModel" "stepX" "[I" ∈ wsX1_nearest := by decide +kernel
  have L32 : Cond.fieldLink RX1 32 "TwoColoursModel" "stepY" "[I" ∈ wsX1_nearest := by decide +kernel
  have L122 : Cond.fieldLink RX1 122 "TwoColoursModel" "steps" "I" ∈ wsX1_nearest := by decide +kernel
  have hl : lv_has ls 7 [(0, .ref (q 0))] := hl
  refine lv_iconst (v := 0) hx hb dX1_nearest_0 (by decide) ?_
  refine lv_istore_n (lv' := [(1, .int (0)), (0, .ref (q 0))]) hx hb dX1_nearest_1 rfl hl (by decide) rfl (fun ls hl => ?_)
  refine lv_iconst (v := 0) hx hb dX1_nearest_2 (by decide) ?_
  refine lv_istore_n (lv' := [(2, .int (0)), (1, .int (0)), (0, .ref (q 0))]) hx hb dX1_nearest_3 rfl hl (by decide) rfl (fun ls hl => ?_)
  refine lv_iconst (v := 0) hx hb dX1_nearest_4 (by decide) ?_
  refine lv_istore_n (lv' := [(3, .int (0)), (2, .int (0)), (1, .int (0)), (0, .ref (q 0))]) hx hb dX1_nearest_5 rfl hl (by decide) rfl (fun ls hl => ?_)
  refine lv_iconst (v := 0) hx hb dX1_nearest_6 (by decide) ?_
  refine lv_istore (lv' := [(4, .int (0)), (3, .int (0)), (2, .int (0)), (1, .int (0)), (0, .ref (q 0))]) hx hb dX1_nearest_7 hl (by decide) rfl (fun ls hl => ?_)
  refine lpP 9 (fun i ls => lv_has ls 7 [(0, .ref (q 0)), (1, .int ((nef sx sy i).1)), (2, .int ((nef sx sy i).2.1)), (3, .int ((nef sx sy i).2.2)), (4, .int (nI i))]) (S) ?_ (0) ls (by omega) (lv_sub hl [4, 3, 2, 1, 0] rfl)
  intro i ls hi hl ih_9
  refine lv_iload hx hb dX1_nearest_9 (lv_at hl 4 rfl) ?_
  refine lv_aload_n hx hb dX1_nearest_11 rfl (lv_at hl 0 rfl) ?_
  refine gM_steps hx hb hts hin hown hK hP L122 dX1_nearest_12 ?_
  refine lv_icmp_ge (tgt := 130) hx hb dX1_nearest_15 (by decide) (fun cz1 => ?_) (fun cz1 => ?_)
  · have cz1 : S ≤ i := (nI_leI (a := S) (b := i) (by omega) (by omega)).mp cz1
    refine lv_iload_n hx hb dX1_nearest_130 rfl (lv_at hl 3 rfl) ?_
    exact rI hx hb hr hlk hH dX1_nearest_131 (by rw [show i = S by omega])
  · have cz1 : ¬ S ≤ i := fun h => cz1 ((nI_leI (a := S) (b := i) (by omega) (by omega)).mpr h)
    refine lv_iload_n hx hb dX1_nearest_18 rfl (lv_at hl 1 rfl) ?_
    refine lv_aload_n hx hb dX1_nearest_19 rfl (lv_at hl 0 rfl) ?_
    refine gM_stepX hx hb hts hin hown hK hP L29 dX1_nearest_20 ?_
    refine lv_iload hx hb dX1_nearest_23 (lv_at hl 4 rfl) ?_
    refine ldM_stepX (j := i) hx hb hK hP rfl (by omega) dX1_nearest_25 ?_
    refine lv_isub hx hb dX1_nearest_26 ?_
    refine lv_iload_n hx hb dX1_nearest_27 rfl (lv_at hl 2 rfl) ?_
    refine lv_aload_n hx hb dX1_nearest_28 rfl (lv_at hl 0 rfl) ?_
    refine gM_stepY hx hb hts hin hown hK hP L32 dX1_nearest_29 ?_
    refine lv_iload hx hb dX1_nearest_32 (lv_at hl 4 rfl) ?_
    refine ldM_stepY (j := i) hx hb hK hP rfl (by omega) dX1_nearest_34 ?_
    refine lv_isub hx hb dX1_nearest_35 ?_
    refine cS (As := [.int (((nef sx sy i).1) - (sx i)), .int (((nef sx sy i).2.1) - (sy i))]) hC (kX1_far (((nef sx sy i).1) - (sx i)) (((nef sx sy i).2.1) - (sy i)) ) [] (va_cwS 2 hts gX1_nearest_X1_far rfl rfl rfl (by decide +kernel) ⟨Nat.le_of_ble_eq_true rfl, Nat.le_of_ble_eq_true rfl⟩) rfl hl.1 rfl (Nat.le_of_ble_eq_true rfl) dX1_nearest_36 ⟨Nat.zero_le _, Nat.zero_le _⟩ ?_
    refine lv_iload_n hx hb dX1_nearest_39 rfl (lv_at hl 1 rfl) ?_
    refine lv_aload_n hx hb dX1_nearest_40 rfl (lv_at hl 0 rfl) ?_
    refine gM_stepX hx hb hts hin hown hK hP L29 dX1_nearest_41 ?_
    refine lv_iload hx hb dX1_nearest_44 (lv_at hl 4 rfl) ?_
    refine ldM_stepX (j := i) hx hb hK hP rfl (by omega) dX1_nearest_46 ?_
    refine lv_iadd hx hb dX1_nearest_47 ?_
    refine lv_iload_n hx hb dX1_nearest_48 rfl (lv_at hl 2 rfl) ?_
    refine lv_aload_n hx hb dX1_nearest_49 rfl (lv_at hl 0 rfl) ?_
    refine gM_stepY hx hb hts hin hown hK hP L32 dX1_nearest_50 ?_
    refine lv_iload hx hb dX1_nearest_53 (lv_at hl 4 rfl) ?_
    refine ldM_stepY (j := i) hx hb hK hP rfl (by omega) dX1_nearest_55 ?_
    refine lv_iadd hx hb dX1_nearest_56 ?_
    refine cS (As := [.int (((nef sx sy i).1) + (sx i)), .int (((nef sx sy i).2.1) + (sy i))]) hC (kX1_far (((nef sx sy i).1) + (sx i)) (((nef sx sy i).2.1) + (sy i)) ) [.int (gsz (((nef sx sy i).1) - (sx i)) (((nef sx sy i).2.1) - (sy i)))] (va_cwS 2 hts gX1_nearest_X1_far rfl rfl rfl (by decide +kernel) ⟨Nat.le_of_ble_eq_true rfl, Nat.le_of_ble_eq_true rfl⟩) rfl hl.1 rfl (Nat.le_of_ble_eq_true rfl) dX1_nearest_57 ⟨Nat.zero_le _, Nat.zero_le _⟩ ?_
    refine lv_icmp_ge (tgt := 67) hx hb dX1_nearest_60 (by decide) (fun cz2 => ?_) (fun cz2 => ?_)
    · refine lv_iconst (v := 0) hx hb dX1_nearest_67 (by decide) ?_
      refine lv_istore (lv' := [(5, .int (0)), (0, .ref (q 0)), (1, .int ((nef sx sy i).1)), (2, .int ((nef sx sy i).2.1)), (3, .int ((nef sx sy i).2.2)), (4, .int (nI i))]) hx hb dX1_nearest_68 hl (by decide) rfl (fun ls hl => ?_)
      refine lv_iload hx hb dX1_nearest_70 (lv_at hl 0 rfl) ?_
      refine lv_if_eq (tgt := 79) hx hb dX1_nearest_72 (by decide) (fun _ => ?_) (fun h => absurd h (by decide))
      refine lv_iconst (v := 1) hx hb dX1_nearest_79 (by decide) ?_
      refine lv_istore (lv' := [(6, .int (1)), (5, .int (0)), (0, .ref (q 0)), (1, .int ((nef sx sy i).1)), (2, .int ((nef sx sy i).2.1)), (3, .int ((nef sx sy i).2.2)), (4, .int (nI i))]) hx hb dX1_nearest_80 hl (by decide) rfl (fun ls hl => ?_)
      refine lv_iload_n hx hb dX1_nearest_82 rfl (lv_at hl 3 rfl) ?_
      refine lv_iload hx hb dX1_nearest_83 (lv_at hl 0 rfl) ?_
      refine lv_aload_n hx hb dX1_nearest_85 rfl (lv_at hl 2 rfl) ?_
      refine gM_stepX hx hb hts hin hown hK hP L29 dX1_nearest_86 ?_
      refine lv_iload hx hb dX1_nearest_89 (lv_at hl 6 rfl) ?_
      refine ldM_stepX (j := i) hx hb hK hP rfl (by omega) dX1_nearest_91 ?_
      refine lv_imul hx hb dX1_nearest_92 ?_
      refine lv_iadd hx hb dX1_nearest_93 ?_
      refine lv_istore_n (lv' := [(1, .int (((nef sx sy i).1) + ((1 : Int32) * (sx i)))), (6, .int (1)), (5, .int (0)), (0, .ref (q 0)), (2, .int ((nef sx sy i).2.1)), (3, .int ((nef sx sy i).2.2)), (4, .int (nI i))]) hx hb dX1_nearest_94 rfl hl (by decide) rfl (fun ls hl => ?_)
      refine lv_iload_n hx hb dX1_nearest_95 rfl (lv_at hl 4 rfl) ?_
      refine lv_iload hx hb dX1_nearest_96 (lv_at hl 1 rfl) ?_
      refine lv_aload_n hx hb dX1_nearest_98 rfl (lv_at hl 3 rfl) ?_
      refine gM_stepY hx hb hts hin hown hK hP L32 dX1_nearest_99 ?_
      refine lv_iload hx hb dX1_nearest_102 (lv_at hl 6 rfl) ?_
      refine ldM_stepY (j := i) hx hb hK hP rfl (by omega) dX1_nearest_104 ?_
      refine lv_imul hx hb dX1_nearest_105 ?_
      refine lv_iadd hx hb dX1_nearest_106 ?_
      refine lv_istore_n (lv' := [(2, .int (((nef sx sy i).2.1) + ((1 : Int32) * (sy i)))), (1, .int (((nef sx sy i).1) + ((1 : Int32) * (sx i)))), (6, .int (1)), (5, .int (0)), (0, .ref (q 0)), (3, .int ((nef sx sy i).2.2)), (4, .int (nI i))]) hx hb dX1_nearest_107 rfl hl (by decide) rfl (fun ls hl => ?_)
      refine lv_iload_n hx hb dX1_nearest_108 rfl (lv_at hl 5 rfl) ?_
      refine lv_iload hx hb dX1_nearest_109 (lv_at hl 3 rfl) ?_
      refine lv_if_eq (tgt := 121) hx hb dX1_nearest_111 (by decide) (fun _ => ?_) (fun h => absurd h (by decide))
      refine lv_iconst (v := 0) hx hb dX1_nearest_121 (by decide) ?_
      refine lv_ior hx hb dX1_nearest_122 ?_
      refine lv_istore_n (lv' := [(3, .int (((nef sx sy i).2.2) ||| ((0 : Int32)))), (2, .int (((nef sx sy i).2.1) + ((1 : Int32) * (sy i)))), (1, .int (((nef sx sy i).1) + ((1 : Int32) * (sx i)))), (6, .int (1)), (5, .int (0)), (0, .ref (q 0)), (4, .int (nI i))]) hx hb dX1_nearest_123 rfl hl (by decide) rfl (fun ls hl => ?_)
      refine lv_iinc (v := nI (i + 1)) (lv' := [(4, .int (nI (i + 1))), (3, .int (((nef sx sy i).2.2) ||| ((0 : Int32)))), (2, .int (((nef sx sy i).2.1) + ((1 : Int32) * (sy i)))), (1, .int (((nef sx sy i).1) + ((1 : Int32) * (sx i)))), (6, .int (1)), (5, .int (0)), (0, .ref (q 0))]) hx hb dX1_nearest_124 hl (k := 6) rfl (nI_1 _) (by decide) rfl (fun ls hl => ?_)
      refine lv_goto (tgt := 9) hx hb dX1_nearest_127 (by decide) ?_
      exact ih_9 _ (by omega) (by rw [nef_f (Int32.not_lt.mpr cz2), ← or0 (nef sx sy i).2.2]; exact lv_sub hl [6, 3, 2, 1, 0] rfl)
    · refine lv_iconst (v := 1) hx hb dX1_nearest_63 (by decide) ?_
      refine lv_goto (tgt := 68) hx hb dX1_nearest_64 (by decide) ?_
      refine lv_istore (lv' := [(5, .int (1)), (0, .ref (q 0)), (1, .int ((nef sx sy i).1)), (2, .int ((nef sx sy i).2.1)), (3, .int ((nef sx sy i).2.2)), (4, .int (nI i))]) hx hb dX1_nearest_68 hl (by decide) rfl (fun ls hl => ?_)
      refine lv_iload hx hb dX1_nearest_70 (lv_at hl 0 rfl) ?_
      refine lv_if_eq (tgt := 79) hx hb dX1_nearest_72 (by decide) (fun h => absurd h (by decide)) (fun _ => ?_)
      refine lv_iconst (v := (-1)) hx hb dX1_nearest_75 (by decide) ?_
      refine lv_goto (tgt := 80) hx hb dX1_nearest_76 (by decide) ?_
      refine lv_istore (lv' := [(6, .int (-1)), (5, .int (1)), (0, .ref (q 0)), (1, .int ((nef sx sy i).1)), (2, .int ((nef sx sy i).2.1)), (3, .int ((nef sx sy i).2.2)), (4, .int (nI i))]) hx hb dX1_nearest_80 hl (by decide) rfl (fun ls hl => ?_)
      refine lv_iload_n hx hb dX1_nearest_82 rfl (lv_at hl 3 rfl) ?_
      refine lv_iload hx hb dX1_nearest_83 (lv_at hl 0 rfl) ?_
      refine lv_aload_n hx hb dX1_nearest_85 rfl (lv_at hl 2 rfl) ?_
      refine gM_stepX hx hb hts hin hown hK hP L29 dX1_nearest_86 ?_
      refine lv_iload hx hb dX1_nearest_89 (lv_at hl 6 rfl) ?_
      refine ldM_stepX (j := i) hx hb hK hP rfl (by omega) dX1_nearest_91 ?_
      refine lv_imul hx hb dX1_nearest_92 ?_
      refine lv_iadd hx hb dX1_nearest_93 ?_
      refine lv_istore_n (lv' := [(1, .int (((nef sx sy i).1) + ((-1 : Int32) * (sx i)))), (6, .int (-1)), (5, .int (1)), (0, .ref (q 0)), (2, .int ((nef sx sy i).2.1)), (3, .int ((nef sx sy i).2.2)), (4, .int (nI i))]) hx hb dX1_nearest_94 rfl hl (by decide) rfl (fun ls hl => ?_)
      refine lv_iload_n hx hb dX1_nearest_95 rfl (lv_at hl 4 rfl) ?_
      refine lv_iload hx hb dX1_nearest_96 (lv_at hl 1 rfl) ?_
      refine lv_aload_n hx hb dX1_nearest_98 rfl (lv_at hl 3 rfl) ?_
      refine gM_stepY hx hb hts hin hown hK hP L32 dX1_nearest_99 ?_
      refine lv_iload hx hb dX1_nearest_102 (lv_at hl 6 rfl) ?_
      refine ldM_stepY (j := i) hx hb hK hP rfl (by omega) dX1_nearest_104 ?_
      refine lv_imul hx hb dX1_nearest_105 ?_
      refine lv_iadd hx hb dX1_nearest_106 ?_
      refine lv_istore_n (lv' := [(2, .int (((nef sx sy i).2.1) + ((-1 : Int32) * (sy i)))), (1, .int (((nef sx sy i).1) + ((-1 : Int32) * (sx i)))), (6, .int (-1)), (5, .int (1)), (0, .ref (q 0)), (3, .int ((nef sx sy i).2.2)), (4, .int (nI i))]) hx hb dX1_nearest_107 rfl hl (by decide) rfl (fun ls hl => ?_)
      refine lv_iload_n hx hb dX1_nearest_108 rfl (lv_at hl 5 rfl) ?_
      refine lv_iload hx hb dX1_nearest_109 (lv_at hl 3 rfl) ?_
      refine lv_if_eq (tgt := 121) hx hb dX1_nearest_111 (by decide) (fun h => absurd h (by decide)) (fun _ => ?_)
      refine lv_iconst (v := 1) hx hb dX1_nearest_114 (by decide) ?_
      refine lv_iload hx hb dX1_nearest_115 (lv_at hl 6 rfl) ?_
      refine lv_ishl hx hb dX1_nearest_117 ?_
      refine lv_goto (tgt := 122) hx hb dX1_nearest_118 (by decide) ?_
      refine lv_ior hx hb dX1_nearest_122 ?_
      refine lv_istore_n (lv' := [(3, .int (((nef sx sy i).2.2) ||| ((1 : Int32) <<< ((nI i) &&& 31)))), (2, .int (((nef sx sy i).2.1) + ((-1 : Int32) * (sy i)))), (1, .int (((nef sx sy i).1) + ((-1 : Int32) * (sx i)))), (6, .int (-1)), (5, .int (1)), (0, .ref (q 0)), (4, .int (nI i))]) hx hb dX1_nearest_123 rfl hl (by decide) rfl (fun ls hl => ?_)
      refine lv_iinc (v := nI (i + 1)) (lv' := [(4, .int (nI (i + 1))), (3, .int (((nef sx sy i).2.2) ||| ((1 : Int32) <<< ((nI i) &&& 31)))), (2, .int (((nef sx sy i).2.1) + ((-1 : Int32) * (sy i)))), (1, .int (((nef sx sy i).1) + ((-1 : Int32) * (sx i)))), (6, .int (-1)), (5, .int (1)), (0, .ref (q 0))]) hx hb dX1_nearest_124 hl (k := 6) rfl (nI_1 _) (by decide) rfl (fun ls hl => ?_)
      refine lv_goto (tgt := 9) hx hb dX1_nearest_127 (by decide) ?_
      exact ih_9 _ (by omega) (by rw [nef_t (Int32.not_le.mp cz2)]; exact lv_sub hl [6, 3, 2, 1, 0] rfl)

theorem hdX1_straight : yX1_straight.cls = RX1 ∧ yX1_straight.cls ≠ "java/lang/invoke/MethodHandle" ∧ yX1_straight.cls ≠ "java/lang/invoke/VarHandle" ∧ (parseMethodDescriptor yX1_straight.desc).map (fun d => d.parameters.length) = some 1 := by decide +kernel
set_option maxHeartbeats 4000000 in
set_option maxRecDepth 100000 in
theorem kX1_straight {l : Launch} {D : va_G} {cy : ClassId} {H : Heap} {q : Nat → Nat} {ff fm fw : Int32} {ak : Int64} {ta gh kd fa fb sx sy mb co : Nat → Int32} {N K S : Nat}  (hP : va_P D vwCl (wM cy q (nI N) (nI K) (nI S) ff fm fw ak ta gh kd fa fb sx sy mb co) H) (k : Int32) (hSn : S ≤ 10) : Met l yX1_straight wsX1_straight { frames := 3, cells := 0, slots := 0, locals := 67 } (pcK D cy H [.ref (q 0), .int k]) (QcRead (if k = 0 then stm sx sy (nI (beS sx sy S)) S else if k = 1 then nI (beS sx sy S) else if k = 2 then (nef sx sy S).2.2 else -1)) 0 0 (fun _ => False) := by
  refine mV 6 (by decide) rfl (Nat.le_of_ble_eq_true rfl) ?_
  intro p e s m below meth c hx hb hml hr hlk hts hown hnm hK hH ls hl
  have hC := (⟨hx, hb, hml, hown, hts⟩ : CallFix p m c cX1_straight 6 s _ wsX1_straight RX1)
  have hin : ∀ w ∈ wsX10, w ∈ wsX1_straight := by decide +kernel
  have L122 : Cond.fieldLink RX1 122 "TwoColoursModel" "steps" "I" ∈ wsX1_straight := by decide +kernel
  have hl : lv_has ls 6 [(0, .ref (q 0)), (1, .int (k))] := hl
  have h2S := p2_le (n := S) (by omega)
  have h2P := p2_pos S
  refine lv_iload_n hx hb dX1_straight_0 rfl (lv_at hl 1 rfl) ?_
  refine lv_iconst (v := 0) hx hb dX1_straight_1 (by decide) ?_
  refine lv_iconst (v := 2) hx hb dX1_straight_2 (by decide) ?_
  refine cS (As := [.int (k), .int (0), .int (2)]) hC (kX1_in k 0 2 ) [] (va_cwS 3 hts gX1_straight_X1_in rfl rfl rfl (by decide +kernel) ⟨Nat.le_of_ble_eq_true rfl, Nat.le_of_ble_eq_true rfl⟩) rfl hl.1 rfl (Nat.le_of_ble_eq_true rfl) dX1_straight_3 ⟨Nat.zero_le _, Nat.zero_le _⟩ ?_
  refine lv_if_ne (tgt := 11) hx hb dX1_straight_6 (by decide) (fun cz1 => ?_) (fun cz1 => ?_)
  · have cz1 := b2_1 cz1
    refine lv_iload_n hx hb dX1_straight_11 rfl (lv_at hl 1 rfl) ?_
    refine lv_iconst (v := 2) hx hb dX1_straight_12 (by decide) ?_
    refine lv_icmp_ne (tgt := 21) hx hb dX1_straight_13 (by decide) (fun cz2 => ?_) (fun cz2 => ?_)
    · refine lv_iconst (v := 0) hx hb dX1_straight_21 (by decide) ?_
      refine lv_istore_n (lv' := [(2, .int (0)), (0, .ref (q 0)), (1, .int (k))]) hx hb dX1_straight_22 rfl hl (by decide) rfl (fun ls hl => ?_)
      refine lv_aload_n hx hb dX1_straight_23 rfl (lv_at hl 1 rfl) ?_
      refine lv_iconst (v := 0) hx hb dX1_straight_24 (by decide) ?_
      refine cV (As := [.int (0)]) hC hK hP rfl rfl (kX1_strayOf hP 0 (by omega)) [] (cwV 1 hts gX1_straight_X1_strayOf rfl rfl rfl hdX1_strayOf ⟨Nat.le_of_ble_eq_true rfl, Nat.le_of_ble_eq_true rfl⟩) rfl hl.1 rfl (Nat.le_of_ble_eq_true rfl) dX1_straight_25 ⟨Nat.zero_le _, Nat.zero_le _⟩ ?_
      refine lv_istore_n (lv' := [(3, .int (stm sx sy (0 : Int32) S)), (2, .int (0)), (0, .ref (q 0)), (1, .int (k))]) hx hb dX1_straight_28 rfl hl (by decide) rfl (fun ls hl => ?_)
      refine lv_iconst (v := 1) hx hb dX1_straight_29 (by decide) ?_
      refine lv_istore (lv' := [(4, .int (1)), (3, .int (stm sx sy (0 : Int32) S)), (2, .int (0)), (0, .ref (q 0)), (1, .int (k))]) hx hb dX1_straight_30 hl (by decide) rfl (fun ls hl => ?_)
      refine lpP 32 (fun i ls => lv_has ls 6 [(0, .ref (q 0)), (1, .int (k)), (2, .int (nI (amF (fun n => stm sx sy (nI n) S) (fun _ => true) 0 i))), (3, .int (stm sx sy (nI (amF (fun n => stm sx sy (nI n) S) (fun _ => true) 0 i)) S)), (4, .int (nI (0 + 1 + i)))]) (2 ^ S - 1) ?_ (0) ls (by omega) (lv_sub hl [3, 4, 2, 1, 0] rfl)
      intro i ls hi hl ih_32
      refine lv_iload hx hb dX1_straight_32 (lv_at hl 4 rfl) ?_
      refine lv_iconst (v := 1) hx hb dX1_straight_34 (by decide) ?_
      refine lv_aload_n hx hb dX1_straight_35 rfl (lv_at hl 0 rfl) ?_
      refine gM_steps hx hb hts hin hown hK hP L122 dX1_straight_36 ?_
      refine lv_ishl hx hb dX1_straight_39 ?_
      refine tpI (y := nI (2 ^ S)) (shl1 S (by omega)) ?_
      refine lv_icmp_ge (tgt := 83) hx hb dX1_straight_40 (by decide) (fun cz3 => ?_) (fun cz3 => ?_)
      · have cz3 : (2 ^ S) ≤ (0 + 1 + i) := (nI_leI (a := (2 ^ S)) (b := (0 + 1 + i)) (by omega) (by omega)).mp cz3
        refine lv_iload_n hx hb dX1_straight_83 rfl (lv_at hl 1 rfl) ?_
        refine lv_if_ne (tgt := 91) hx hb dX1_straight_84 (by decide) (fun cz4 => ?_) (fun cz4 => ?_)
        · refine lv_iload_n hx hb dX1_straight_91 rfl (lv_at hl 2 rfl) ?_
          exact rI hx hb hr hlk hH dX1_straight_92 (by rw [if_neg cz4, if_pos (in012 cz1 cz2 cz4), show i = 2 ^ S - 1 by omega]; rfl)
        · refine lv_iload_n hx hb dX1_straight_87 rfl (lv_at hl 3 rfl) ?_
          refine lv_goto (tgt := 92) hx hb dX1_straight_88 (by decide) ?_
          exact rI hx hb hr hlk hH dX1_straight_92 (by rw [if_pos cz4, show i = 2 ^ S - 1 by omega]; rfl)
      · have cz3 : ¬ (2 ^ S) ≤ (0 + 1 + i) := fun h => cz3 ((nI_leI (a := (2 ^ S)) (b := (0 + 1 + i)) (by omega) (by omega)).mpr h)
        refine lv_aload_n hx hb dX1_straight_43 rfl (lv_at hl 0 rfl) ?_
        refine lv_iload hx hb dX1_straight_44 (lv_at hl 4 rfl) ?_
        refine cV (As := [.int (nI (0 + 1 + i))]) hC hK hP rfl rfl (kX1_strayOf hP (nI (0 + 1 + i)) (by omega)) [] (cwV 1 hts gX1_straight_X1_strayOf rfl rfl rfl hdX1_strayOf ⟨Nat.le_of_ble_eq_true rfl, Nat.le_of_ble_eq_true rfl⟩) rfl hl.1 rfl (Nat.le_of_ble_eq_true rfl) dX1_straight_46 ⟨Nat.zero_le _, Nat.zero_le _⟩ ?_
        refine lv_istore (lv' := [(5, .int (stm sx sy (nI (0 + 1 + i)) S)), (0, .ref (q 0)), (1, .int (k)), (2, .int (nI (amF (fun n => stm sx sy (nI n) S) (fun _ => true) 0 i))), (3, .int (stm sx sy (nI (amF (fun n => stm sx sy (nI n) S) (fun _ => true) 0 i)) S)), (4, .int (nI (0 + 1 + i)))]) hx hb dX1_straight_49 hl (by decide) rfl (fun ls hl => ?_)
        refine lv_iload hx hb dX1_straight_51 (lv_at hl 0 rfl) ?_
        refine lv_iload_n hx hb dX1_straight_53 rfl (lv_at hl 4 rfl) ?_
        refine lv_icmp_ge (tgt := 62) hx hb dX1_straight_54 (by decide) (fun cz5 => ?_) (fun cz5 => ?_)
        · refine lv_iload_n hx hb dX1_straight_62 rfl (lv_at hl 3 rfl) ?_
          refine lv_istore_n (lv' := [(2, .int (nI (amF (fun n => stm sx sy (nI n) S) (fun _ => true) 0 i))), (5, .int (stm sx sy (nI (0 + 1 + i)) S)), (0, .ref (q 0)), (1, .int (k)), (3, .int (stm sx sy (nI (amF (fun n => stm sx sy (nI n) S) (fun _ => true) 0 i)) S)), (4, .int (nI (0 + 1 + i)))]) hx hb dX1_straight_63 rfl hl (by decide) rfl (fun ls hl => ?_)
          refine lv_iload hx hb dX1_straight_64 (lv_at hl 1 rfl) ?_
          refine lv_iload_n hx hb dX1_straight_66 rfl (lv_at hl 4 rfl) ?_
          refine lv_icmp_ge (tgt := 75) hx hb dX1_straight_67 (by decide) (fun _ => ?_) (fun h => absurd cz5 h)
          refine lv_iload_n hx hb dX1_straight_75 rfl (lv_at hl 4 rfl) ?_
          refine lv_istore_n (lv' := [(3, .int (stm sx sy (nI (amF (fun n => stm sx sy (nI n) S) (fun _ => true) 0 i)) S)), (2, .int (nI (amF (fun n => stm sx sy (nI n) S) (fun _ => true) 0 i))), (5, .int (stm sx sy (nI (0 + 1 + i)) S)), (0, .ref (q 0)), (1, .int (k)), (4, .int (nI (0 + 1 + i)))]) hx hb dX1_straight_76 rfl hl (by decide) rfl (fun ls hl => ?_)
          refine lv_iinc (v := nI ((0 + 1 + i) + 1)) (lv' := [(4, .int (nI ((0 + 1 + i) + 1))), (3, .int (stm sx sy (nI (amF (fun n => stm sx sy (nI n) S) (fun _ => true) 0 i)) S)), (2, .int (nI (amF (fun n => stm sx sy (nI n) S) (fun _ => true) 0 i))), (5, .int (stm sx sy (nI (0 + 1 + i)) S)), (0, .ref (q 0)), (1, .int (k))]) hx hb dX1_straight_77 hl (k := 5) rfl (nI_1 _) (by decide) rfl (fun ls hl => ?_)
          refine lv_goto (tgt := 32) hx hb dX1_straight_80 (by decide) ?_
          exact ih_32 _ (by omega) (by rw [amF_f (w := (fun n => stm sx sy (nI n) S)) (ok := fun _ => true) (Int32.not_lt.mpr cz5)]; exact lv_sub hl [4, 5, 2, 1, 0] rfl)
        · refine lv_iload hx hb dX1_straight_57 (lv_at hl 5 rfl) ?_
          refine lv_goto (tgt := 63) hx hb dX1_straight_59 (by decide) ?_
          refine lv_istore_n (lv' := [(2, .int (nI (0 + 1 + i))), (5, .int (stm sx sy (nI (0 + 1 + i)) S)), (0, .ref (q 0)), (1, .int (k)), (3, .int (stm sx sy (nI (amF (fun n => stm sx sy (nI n) S) (fun _ => true) 0 i)) S)), (4, .int (nI (0 + 1 + i)))]) hx hb dX1_straight_63 rfl hl (by decide) rfl (fun ls hl => ?_)
          refine lv_iload hx hb dX1_straight_64 (lv_at hl 1 rfl) ?_
          refine lv_iload_n hx hb dX1_straight_66 rfl (lv_at hl 4 rfl) ?_
          refine lv_icmp_ge (tgt := 75) hx hb dX1_straight_67 (by decide) (fun h => absurd h cz5) (fun _ => ?_)
          refine lv_iload hx hb dX1_straight_70 (lv_at hl 1 rfl) ?_
          refine lv_goto (tgt := 76) hx hb dX1_straight_72 (by decide) ?_
          refine lv_istore_n (lv' := [(3, .int (stm sx sy (nI (0 + 1 + i)) S)), (2, .int (nI (0 + 1 + i))), (5, .int (stm sx sy (nI (0 + 1 + i)) S)), (0, .ref (q 0)), (1, .int (k)), (4, .int (nI (0 + 1 + i)))]) hx hb dX1_straight_76 rfl hl (by decide) rfl (fun ls hl => ?_)
          refine lv_iinc (v := nI ((0 + 1 + i) + 1)) (lv' := [(4, .int (nI ((0 + 1 + i) + 1))), (3, .int (stm sx sy (nI (0 + 1 + i)) S)), (2, .int (nI (0 + 1 + i))), (5, .int (stm sx sy (nI (0 + 1 + i)) S)), (0, .ref (q 0)), (1, .int (k))]) hx hb dX1_straight_77 hl (k := 5) rfl (nI_1 _) (by decide) rfl (fun ls hl => ?_)
          refine lv_goto (tgt := 32) hx hb dX1_straight_80 (by decide) ?_
          exact ih_32 _ (by omega) (by rw [amF_t (w := (fun n => stm sx sy (nI n) S)) (ok := fun _ => true) rfl (Int32.not_le.mp cz5)]; exact lv_sub hl [4, 5, 2, 1, 0] rfl)
    · refine lv_aload_n hx hb dX1_straight_16 rfl (lv_at hl 0 rfl) ?_
      refine cV (As := []) hC hK hP rfl rfl (kX1_nearest hP  (by omega)) [] (cwV 0 hts gX1_straight_X1_nearest rfl rfl rfl hdX1_nearest ⟨Nat.le_of_ble_eq_true rfl, Nat.le_of_ble_eq_true rfl⟩) rfl hl.1 rfl (Nat.le_of_ble_eq_true rfl) dX1_straight_17 ⟨Nat.zero_le _, Nat.zero_le _⟩ ?_
      exact rI hx hb hr hlk hH dX1_straight_20 (by rw [if_neg (by rw [cz2]; decide), if_neg (by rw [cz2]; decide), if_pos cz2])
  · have cz1 := b2_0 cz1
    refine lv_iconst (v := (-1)) hx hb dX1_straight_9 (by decide) ?_
    exact rI hx hb hr hlk hH dX1_straight_10 (by rw [if_neg (fun h => cz1 (by rw [h]; decide)), if_neg (fun h => cz1 (by rw [h]; decide)), if_neg (fun h => cz1 (by rw [h]; decide))])

theorem hdX1_count : yX1_count.cls = RX1 ∧ yX1_count.cls ≠ "java/lang/invoke/MethodHandle" ∧ yX1_count.cls ≠ "java/lang/invoke/VarHandle" ∧ (parseMethodDescriptor yX1_count.desc).map (fun d => d.parameters.length) = some 1 := by decide +kernel
set_option maxHeartbeats 4000000 in
set_option maxRecDepth 100000 in
theorem kX1_count {l : Launch} {D : va_G} {cy : ClassId} {H : Heap} {q : Nat → Nat} {ff fm fw : Int32} {ak : Int64} {ta gh kd fa fb sx sy mb co : Nat → Int32} {N K S : Nat}  (hP : va_P D vwCl (wM cy q (nI N) (nI K) (nI S) ff fm fw ak ta gh kd fa fb sx sy mb co) H) (k : Int32) (hN : N ≤ 12) : Met l yX1_count wsX1_count { frames := 0, cells := 0, slots := 0, locals := 0 } (pcK D cy H [.ref (q 0), .int k]) (QcRead (if k = 0 then nI N else if k = 1 then nI K else if k = 2 then nI S else if k = 3 then chF gh N else -1)) 0 0 (fun _ => False) := by
  refine mV 4 (by decide) rfl (Nat.le_of_ble_eq_true rfl) ?_
  intro p e s m below meth c hx hb hml hr hlk hts hown hnm hK hH ls hl
  have hC := (⟨hx, hb, hml, hown, hts⟩ : CallFix p m c cX1_count 4 s _ wsX1_count RX1)
  have hin : ∀ w ∈ wsX10, w ∈ wsX1_count := by decide +kernel
  have L7 : Cond.fieldLink RX1 7 "TwoColoursModel" "n" "I" ∈ wsX1_count := by decide +kernel
  have L17 : Cond.fieldLink RX1 17 "TwoColoursModel" "held" "[I" ∈ wsX1_count := by decide +kernel
  have L41 : Cond.fieldLink RX1 41 "TwoColoursModel" "heaps" "I" ∈ wsX1_count := by decide +kernel
  have L122 : Cond.fieldLink RX1 122 "TwoColoursModel" "steps" "I" ∈ wsX1_count := by decide +kernel
  have hl : lv_has ls 4 [(0, .ref (q 0)), (1, .int (k))] := hl
  refine lv_iconst (v := 0) hx hb dX1_count_0 (by decide) ?_
  refine lv_istore_n (lv' := [(2, .int (0)), (0, .ref (q 0)), (1, .int (k))]) hx hb dX1_count_1 rfl hl (by decide) rfl (fun ls hl => ?_)
  refine lv_iload_n hx hb dX1_count_2 rfl (lv_at hl 2 rfl) ?_
  by_cases cz1 : k = 0
  · refine lv_tableIn (off := 29) (tgt := 32) hx hb dX1_count_3 (by rw [cz1]; decide) (by rw [cz1]; decide) (by rw [cz1]; decide) (by decide) ?_
    refine lv_aload_n hx hb dX1_count_32 rfl (lv_at hl 1 rfl) ?_
    refine gM_n hx hb hts hin hown hK hP L7 dX1_count_33 ?_
    exact rI hx hb hr hlk hH dX1_count_36 (by clear hl hC hin hK hP hts hown hnm hx hb hr hlk hml; simp_all)
  by_cases cz2 : k = 1
  · refine lv_tableIn (off := 34) (tgt := 37) hx hb dX1_count_3 (by rw [cz2]; decide) (by rw [cz2]; decide) (by rw [cz2]; decide) (by decide) ?_
    refine lv_aload_n hx hb dX1_count_37 rfl (lv_at hl 1 rfl) ?_
    refine gM_heaps hx hb hts hin hown hK hP L41 dX1_count_38 ?_
    exact rI hx hb hr hlk hH dX1_count_41 (by clear hl hC hin hK hP hts hown hnm hx hb hr hlk hml; simp_all)
  by_cases cz3 : k = 2
  · refine lv_tableIn (off := 39) (tgt := 42) hx hb dX1_count_3 (by rw [cz3]; decide) (by rw [cz3]; decide) (by rw [cz3]; decide) (by decide) ?_
    refine lv_aload_n hx hb dX1_count_42 rfl (lv_at hl 1 rfl) ?_
    refine gM_steps hx hb hts hin hown hK hP L122 dX1_count_43 ?_
    exact rI hx hb hr hlk hH dX1_count_46 (by clear hl hC hin hK hP hts hown hnm hx hb hr hlk hml; simp_all)
  by_cases cz4 : k = 3
  · refine lv_tableIn (off := 44) (tgt := 47) hx hb dX1_count_3 (by rw [cz4]; decide) (by rw [cz4]; decide) (by rw [cz4]; decide) (by decide) ?_
    refine lv_iconst (v := 0) hx hb dX1_count_47 (by decide) ?_
    refine lv_istore_n (lv' := [(3, .int (0)), (2, .int (0)), (0, .ref (q 0)), (1, .int (k))]) hx hb dX1_count_48 rfl hl (by decide) rfl (fun ls hl => ?_)
    refine lpP 49 (fun i ls => lv_has ls 4 [(0, .ref (q 0)), (1, .int (k)), (2, .int (chF gh i)), (3, .int (nI i))]) (N) ?_ (0) ls (by omega) (lv_sub hl [2, 3, 1, 0] rfl)
    intro i ls hi hl ih_49
    refine lv_iload_n hx hb dX1_count_49 rfl (lv_at hl 3 rfl) ?_
    refine lv_aload_n hx hb dX1_count_50 rfl (lv_at hl 0 rfl) ?_
    refine gM_n hx hb hts hin hown hK hP L7 dX1_count_51 ?_
    refine lv_icmp_ge (tgt := 80) hx hb dX1_count_54 (by decide) (fun cz5 => ?_) (fun cz5 => ?_)
    · have cz5 : N ≤ i := (nI_leI (a := N) (b := i) (by omega) (by omega)).mp cz5
      refine lv_iload_n hx hb dX1_count_80 rfl (lv_at hl 2 rfl) ?_
      exact rI hx hb hr hlk hH dX1_count_81 (by rw [show i = N by omega]; simp_all)
    · have cz5 : ¬ N ≤ i := fun h => cz5 ((nI_leI (a := N) (b := i) (by omega) (by omega)).mpr h)
      refine lv_iload_n hx hb dX1_count_57 rfl (lv_at hl 2 rfl) ?_
      refine lv_aload_n hx hb dX1_count_58 rfl (lv_at hl 0 rfl) ?_
      refine gM_held hx hb hts hin hown hK hP L17 dX1_count_59 ?_
      refine lv_iload_n hx hb dX1_count_62 rfl (lv_at hl 3 rfl) ?_
      refine ldM_held (j := i) hx hb hK hP rfl (by omega) dX1_count_63 ?_
      refine lv_if_ge (tgt := 71) hx hb dX1_count_64 (by decide) (fun cz6 => ?_) (fun cz6 => ?_)
      · refine lv_iconst (v := 1) hx hb dX1_count_71 (by decide) ?_
        refine lv_iadd hx hb dX1_count_72 ?_
        refine lv_istore_n (lv' := [(2, .int ((chF gh i) + ((1 : Int32)))), (0, .ref (q 0)), (1, .int (k)), (3, .int (nI i))]) hx hb dX1_count_73 rfl hl (by decide) rfl (fun ls hl => ?_)
        refine lv_iinc (v := nI (i + 1)) (lv' := [(3, .int (nI (i + 1))), (2, .int ((chF gh i) + ((1 : Int32)))), (0, .ref (q 0)), (1, .int (k))]) hx hb dX1_count_74 hl (k := 3) rfl (nI_1 _) (by decide) rfl (fun ls hl => ?_)
        refine lv_goto (tgt := 49) hx hb dX1_count_77 (by decide) ?_
        exact ih_49 _ (by omega) (by rw [chF, if_neg (Int32.not_lt.mpr cz6)]; exact lv_sub hl [2, 3, 1, 0] rfl)
      · refine lv_iconst (v := 0) hx hb dX1_count_67 (by decide) ?_
        refine lv_goto (tgt := 72) hx hb dX1_count_68 (by decide) ?_
        refine lv_iadd hx hb dX1_count_72 ?_
        refine lv_istore_n (lv' := [(2, .int ((chF gh i) + ((0 : Int32)))), (0, .ref (q 0)), (1, .int (k)), (3, .int (nI i))]) hx hb dX1_count_73 rfl hl (by decide) rfl (fun ls hl => ?_)
        refine lv_iinc (v := nI (i + 1)) (lv' := [(3, .int (nI (i + 1))), (2, .int ((chF gh i) + ((0 : Int32)))), (0, .ref (q 0)), (1, .int (k))]) hx hb dX1_count_74 hl (k := 3) rfl (nI_1 _) (by decide) rfl (fun ls hl => ?_)
        refine lv_goto (tgt := 49) hx hb dX1_count_77 (by decide) ?_
        exact ih_49 _ (by omega) (by rw [chF, if_pos (Int32.not_le.mp cz6)]; exact lv_sub hl [2, 3, 1, 0] rfl)
  refine lv_tableOut (tgt := 82) hx hb dX1_count_3 (by have h0 := lv_neT (a := 0) cz1 (by decide); have h1 := lv_neT (a := 1) cz2 (by decide); have h2 := lv_neT (a := 2) cz3 (by decide); have h3 := lv_neT (a := 3) cz4 (by decide); omega) (by decide) ?_
  refine lv_iconst (v := (-1)) hx hb dX1_count_82 (by decide) ?_
  exact rI hx hb hr hlk hH dX1_count_83 (by clear hl hC hin hK hP hts hown hnm hx hb hr hlk hml; simp_all)

theorem hdX1_trace : yX1_trace.cls = RX1 ∧ yX1_trace.cls ≠ "java/lang/invoke/MethodHandle" ∧ yX1_trace.cls ≠ "java/lang/invoke/VarHandle" ∧ (parseMethodDescriptor yX1_trace.desc).map (fun d => d.parameters.length) = some 0 := by decide +kernel
set_option maxHeartbeats 4000000 in
set_option maxRecDepth 100000 in
theorem kX1_trace {l : Launch} {D : va_G} {cy : ClassId} {H : Heap} {q : Nat → Nat} {ff fm fw : Int32} {ak : Int64} {ta gh kd fa fb sx sy mb co : Nat → Int32} {N K S : Nat}  (hP : va_P D vwCl (wM cy q (nI N) (nI K) (nI S) ff fm fw ak ta gh kd fa fb sx sy mb co) H)   : Met l yX1_trace wsX1_trace { frames := 0, cells := 0, slots := 0, locals := 0 } (pcK D cy H [.ref (q 0)]) (qI (some (.long ak)) (fun H1 => H1 = H) (fun _ => False)) 0 0 (fun _ => False) := by
  refine mV 1 (by decide) rfl (Nat.le_of_ble_eq_true rfl) ?_
  intro p e s m below meth c hx hb hml hr hlk hts hown hnm hK hH ls hl
  have hC := (⟨hx, hb, hml, hown, hts⟩ : CallFix p m c cX1_trace 1 s _ wsX1_trace RX1)
  have hin : ∀ w ∈ wsX10, w ∈ wsX1_trace := by decide +kernel
  have L62 : Cond.fieldLink RX1 62 "TwoColoursModel" "trace" "J" ∈ wsX1_trace := by decide +kernel
  have hl : lv_has ls 1 [(0, .ref (q 0))] := hl
  refine lv_aload_n hx hb dX1_trace_0 rfl (lv_at hl 0 rfl) ?_
  refine gM_trace hx hb hts hin hown hK hP L62 dX1_trace_1 ?_
  exact rL hx hb hr hlk hH dX1_trace_4 rfl

theorem hdX1_keeps : yX1_keeps.cls = RX1 ∧ yX1_keeps.cls ≠ "java/lang/invoke/MethodHandle" ∧ yX1_keeps.cls ≠ "java/lang/invoke/VarHandle" ∧ (parseMethodDescriptor yX1_keeps.desc).map (fun d => d.parameters.length) = some 1 := by decide +kernel
set_option maxHeartbeats 4000000 in
set_option maxRecDepth 100000 in
theorem kX1_keeps {l : Launch} {D : va_G} {cy : ClassId} {H : Heap} {q : Nat → Nat} {ff fm fw : Int32} {ak : Int64} {ta gh kd fa fb sx sy mb co : Nat → Int32} {N K S : Nat}  (hP : va_P D vwCl (wM cy q (nI N) (nI K) (nI S) ff fm fw ak ta gh kd fa fb sx sy mb co) H) (k : Int32) (hN : N ≤ 12) : Met l yX1_keeps wsX1_keeps { frames := 0, cells := 0, slots := 0, locals := 0 } (pcK D cy H [.ref (q 0), .int k]) (QcRead (b2 (kpF gh k N = true))) 0 0 (fun _ => False) := by
  refine mV 4 (by decide) rfl (Nat.le_of_ble_eq_true rfl) ?_
  intro p e s m below meth c hx hb hml hr hlk hts hown hnm hK hH ls hl
  have hC := (⟨hx, hb, hml, hown, hts⟩ : CallFix p m c cX1_keeps 4 s _ wsX1_keeps RX1)
  have hin : ∀ w ∈ wsX10, w ∈ wsX1_keeps := by decide +kernel
  have L7 : Cond.fieldLink RX1 7 "TwoColoursModel" "n" "I" ∈ wsX1_keeps := by decide +kernel
  have L17 : Cond.fieldLink RX1 17 "TwoColoursModel" "held" "[I" ∈ wsX1_keeps := by decide +kernel
  have hl : lv_has ls 4 [(0, .ref (q 0)), (1, .int (k))] := hl
  refine lv_iconst (v := 1) hx hb dX1_keeps_0 (by decide) ?_
  refine lv_istore_n (lv' := [(2, .int (1)), (0, .ref (q 0)), (1, .int (k))]) hx hb dX1_keeps_1 rfl hl (by decide) rfl (fun ls hl => ?_)
  refine lv_iconst (v := 0) hx hb dX1_keeps_2 (by decide) ?_
  refine lv_istore_n (lv' := [(3, .int (0)), (2, .int (1)), (0, .ref (q 0)), (1, .int (k))]) hx hb dX1_keeps_3 rfl hl (by decide) rfl (fun ls hl => ?_)
  refine lpP 4 (fun i ls => lv_has ls 4 [(0, .ref (q 0)), (1, .int (k)), (2, .int (b2 (kpF gh k i = true))), (3, .int (nI i))]) (N) ?_ (0) ls (by omega) (lv_sub hl [2, 3, 1, 0] rfl)
  intro i ls hi hl ih_4
  refine lv_iload_n hx hb dX1_keeps_4 rfl (lv_at hl 3 rfl) ?_
  refine lv_aload_n hx hb dX1_keeps_5 rfl (lv_at hl 0 rfl) ?_
  refine gM_n hx hb hts hin hown hK hP L7 dX1_keeps_6 ?_
  refine lv_icmp_ge (tgt := 51) hx hb dX1_keeps_9 (by decide) (fun cz1 => ?_) (fun cz1 => ?_)
  · have cz1 : N ≤ i := (nI_leI (a := N) (b := i) (by omega) (by omega)).mp cz1
    refine lv_iload_n hx hb dX1_keeps_51 rfl (lv_at hl 2 rfl) ?_
    exact rZ hx hb hr hlk hH dX1_keeps_52 b2_nar (by rw [show i = N by omega])
  · have cz1 : ¬ N ≤ i := fun h => cz1 ((nI_leI (a := N) (b := i) (by omega) (by omega)).mpr h)
    refine lv_iload_n hx hb dX1_keeps_12 rfl (lv_at hl 2 rfl) ?_
    refine lv_if_eq (tgt := 43) hx hb dX1_keeps_13 (by decide) (fun cz2 => ?_) (fun cz2 => ?_)
    · have cz2 := b2_0 cz2
      refine lv_iconst (v := 0) hx hb dX1_keeps_43 (by decide) ?_
      refine lv_istore_n (lv' := [(2, .int (0)), (0, .ref (q 0)), (1, .int (k)), (3, .int (nI i))]) hx hb dX1_keeps_44 rfl hl (by decide) rfl (fun ls hl => ?_)
      refine lv_iinc (v := nI (i + 1)) (lv' := [(3, .int (nI (i + 1))), (2, .int (0)), (0, .ref (q 0)), (1, .int (k))]) hx hb dX1_keeps_45 hl (k := 3) rfl (nI_1 _) (by decide) rfl (fun ls hl => ?_)
      refine lv_goto (tgt := 4) hx hb dX1_keeps_48 (by decide) ?_
      exact ih_4 _ (by omega) (by rw [b2_eq0 (kpF_n cz2)]; exact lv_sub hl [2, 3, 1, 0] rfl)
    · have cz2 := b2_1 cz2
      refine lv_aload_n hx hb dX1_keeps_16 rfl (lv_at hl 0 rfl) ?_
      refine gM_held hx hb hts hin hown hK hP L17 dX1_keeps_17 ?_
      refine lv_iload_n hx hb dX1_keeps_20 rfl (lv_at hl 3 rfl) ?_
      refine ldM_held (j := i) hx hb hK hP rfl (by omega) dX1_keeps_21 ?_
      refine lv_if_lt (tgt := 39) hx hb dX1_keeps_22 (by decide) (fun cz3 => ?_) (fun cz3 => ?_)
      · refine lv_iconst (v := 1) hx hb dX1_keeps_39 (by decide) ?_
        refine lv_goto (tgt := 44) hx hb dX1_keeps_40 (by decide) ?_
        refine lv_istore_n (lv' := [(2, .int (1)), (0, .ref (q 0)), (1, .int (k)), (3, .int (nI i))]) hx hb dX1_keeps_44 rfl hl (by decide) rfl (fun ls hl => ?_)
        refine lv_iinc (v := nI (i + 1)) (lv' := [(3, .int (nI (i + 1))), (2, .int (1)), (0, .ref (q 0)), (1, .int (k))]) hx hb dX1_keeps_45 hl (k := 3) rfl (nI_1 _) (by decide) rfl (fun ls hl => ?_)
        refine lv_goto (tgt := 4) hx hb dX1_keeps_48 (by decide) ?_
        exact ih_4 _ (by omega) (by rw [b2_eq1 (kpF_l cz2 cz3)]; exact lv_sub hl [2, 3, 1, 0] rfl)
      · refine lv_aload_n hx hb dX1_keeps_25 rfl (lv_at hl 0 rfl) ?_
        refine gM_held hx hb hts hin hown hK hP L17 dX1_keeps_26 ?_
        refine lv_iload_n hx hb dX1_keeps_29 rfl (lv_at hl 3 rfl) ?_
        refine ldM_held (j := i) hx hb hK hP rfl (by omega) dX1_keeps_30 ?_
        refine lv_iload_n hx hb dX1_keeps_31 rfl (lv_at hl 1 rfl) ?_
        refine lv_iload_n hx hb dX1_keeps_32 rfl (lv_at hl 3 rfl) ?_
        refine lv_ishr hx hb dX1_keeps_33 ?_
        refine lv_iconst (v := 1) hx hb dX1_keeps_34 (by decide) ?_
        refine lv_iand hx hb dX1_keeps_35 ?_
        refine lv_icmp_ne (tgt := 43) hx hb dX1_keeps_36 (by decide) (fun cz4 => ?_) (fun cz4 => ?_)
        · refine lv_iconst (v := 0) hx hb dX1_keeps_43 (by decide) ?_
          refine lv_istore_n (lv' := [(2, .int (0)), (0, .ref (q 0)), (1, .int (k)), (3, .int (nI i))]) hx hb dX1_keeps_44 rfl hl (by decide) rfl (fun ls hl => ?_)
          refine lv_iinc (v := nI (i + 1)) (lv' := [(3, .int (nI (i + 1))), (2, .int (0)), (0, .ref (q 0)), (1, .int (k))]) hx hb dX1_keeps_45 hl (k := 3) rfl (nI_1 _) (by decide) rfl (fun ls hl => ?_)
          refine lv_goto (tgt := 4) hx hb dX1_keeps_48 (by decide) ?_
          exact ih_4 _ (by omega) (by rw [b2_eq0 (kpF_f cz3 cz4)]; exact lv_sub hl [2, 3, 1, 0] rfl)
        · refine lv_iconst (v := 1) hx hb dX1_keeps_39 (by decide) ?_
          refine lv_goto (tgt := 44) hx hb dX1_keeps_40 (by decide) ?_
          refine lv_istore_n (lv' := [(2, .int (1)), (0, .ref (q 0)), (1, .int (k)), (3, .int (nI i))]) hx hb dX1_keeps_44 rfl hl (by decide) rfl (fun ls hl => ?_)
          refine lv_iinc (v := nI (i + 1)) (lv' := [(3, .int (nI (i + 1))), (2, .int (1)), (0, .ref (q 0)), (1, .int (k))]) hx hb dX1_keeps_45 hl (k := 3) rfl (nI_1 _) (by decide) rfl (fun ls hl => ?_)
          refine lv_goto (tgt := 4) hx hb dX1_keeps_48 (by decide) ?_
          exact ih_4 _ (by omega) (by rw [b2_eq1 (kpF_e cz2 cz4)]; exact lv_sub hl [2, 3, 1, 0] rfl)

