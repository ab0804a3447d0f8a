theorem hdX1_partner : yX1_partner.cls = RX1 ∧ yX1_partner.cls ≠ "java/lang/invoke/MethodHandle" ∧ yX1_partner.cls ≠ "java/lang/invoke/VarHandle" ∧ (parseMethodDescriptor yX1_partner.desc).map (fun d => d.parameters.length) = some 2 := by decide +kernel
set_option maxHeartbeats 4000000 in
set_option maxRecDepth 100000 in
theorem kX1_partner {l : Launch} {D : va_G} {cy : ClassId} {H : Heap} {q : Nat → Nat} {ff fm fw : Int32} {ak : Int64} {ta gh kd fa fb sx sy mb co : Nat → Int32} {N K S : Nat} {pl : Nat → Int32} (hP : va_P D vwCl (wM cy q (nI N) (nI K) (nI S) ff fm fw ak ta gh kd fa fb sx sy mb co) H) (t : Nat) (d : Bool) (hN : N ≤ 12) (hpl : plOk ta pl N) (ht : t < N) : Met l yX1_partner wsX1_partner { frames := 1, cells := 0, slots := 0, locals := 22 } (pcK D cy H [.ref (q 0), .int (nI t), .int (b2 (d = true))]) (QcRead (enM ta pl N d t)) 0 0 (fun _ => False) := by
  refine mV 5 (by decide) rfl (Nat.le_of_ble_eq_true rfl) ?_
  intro p e s m below meth c hx hb hml hr hlk hts hown hnm hK hH ls hl
  have hC := (⟨hx, hb, hml, hown, hts⟩ : CallFix p m c cX1_partner 5 s _ wsX1_partner RX1)
  have hin : ∀ w ∈ wsX10, w ∈ wsX1_partner := by decide +kernel
  have L7 : Cond.fieldLink RX1 7 "TwoColoursModel" "n" "I" ∈ wsX1_partner := by decide +kernel
  have L13 : Cond.fieldLink RX1 13 "TwoColoursModel" "second" "[I" ∈ wsX1_partner := by decide +kernel
  have hl : lv_has ls 5 [(0, .ref (q 0)), (1, .int (nI t)), (2, .int (b2 (d = true)))] := hl
  obtain ⟨u, hu, eu, h1, h2⟩ := hpl t ht
  have hxt := xor1_lt t (by omega)
  have hxu := xor1_lt u hu
  refine lv_iload_n hx hb dX1_partner_0 rfl (lv_at hl 2 rfl) ?_
  refine lv_if_eq (tgt := 8) hx hb dX1_partner_1 (by decide) (fun cz1 => ?_) (fun cz1 => ?_)
  · have cz1 := b2_0 cz1
    refine lv_aload_n hx hb dX1_partner_8 rfl (lv_at hl 0 rfl) ?_
    refine lv_iload_n hx hb dX1_partner_9 rfl (lv_at hl 1 rfl) ?_
    refine cV (As := [.int (nI t)]) hC hK hP rfl rfl (kX1_placeOf hP t u hu h1 h2) [] (cwV 1 hts gX1_partner_X1_placeOf rfl rfl rfl hdX1_placeOf ⟨Nat.le_of_ble_eq_true rfl, Nat.le_of_ble_eq_true rfl⟩) rfl hl.1 rfl (Nat.le_of_ble_eq_true rfl) dX1_partner_10 ⟨Nat.zero_le _, Nat.zero_le _⟩ ?_
    refine lv_istore_n (lv' := [(3, .int (nI u)), (0, .ref (q 0)), (1, .int (nI t)), (2, .int (b2 (d = true)))]) hx hb dX1_partner_13 rfl hl (by decide) rfl (fun ls hl => ?_)
    refine lv_iload_n hx hb dX1_partner_14 rfl (lv_at hl 0 rfl) ?_
    refine lv_iconst (v := 2) hx hb dX1_partner_15 (by decide) ?_
    refine lv_irem hx hb dX1_partner_16 (by decide) ?_
    refine tpI (y := nI (u % 2)) (pk_rem (a := u) (d := 2) (by omega) (by omega) (by omega)) ?_
    refine lv_if_ne (tgt := 26) hx hb dX1_partner_17 (by decide) (fun cz2 => ?_) (fun cz2 => ?_)
    · have cz2 : ¬ (u % 2) = 0 := fun h => cz2 ((nI_eq (a := (u % 2)) (b := 0) (by omega) (by omega)).mpr h)
      refine lv_iload_n hx hb dX1_partner_26 rfl (lv_at hl 0 rfl) ?_
      refine lv_iconst (v := 1) hx hb dX1_partner_27 (by decide) ?_
      refine lv_isub hx hb dX1_partner_28 ?_
      refine tpI (y := nI (u ^^^ 1)) (par_o u (by omega) cz2) ?_
      refine lv_istore (lv' := [(4, .int (nI (u ^^^ 1))), (3, .int (nI u)), (0, .ref (q 0)), (1, .int (nI t)), (2, .int (b2 (d = true)))]) hx hb dX1_partner_29 hl (by decide) rfl (fun ls hl => ?_)
      refine lv_iload hx hb dX1_partner_31 (lv_at hl 0 rfl) ?_
      refine lv_aload_n hx hb dX1_partner_33 rfl (lv_at hl 2 rfl) ?_
      refine gM_n hx hb hts hin hown hK hP L7 dX1_partner_34 ?_
      refine lv_icmp_lt (tgt := 44) hx hb dX1_partner_37 (by decide) (fun cz3 => ?_) (fun cz3 => ?_)
      · have cz3 : (u ^^^ 1) < N := (nI_ltI (a := (u ^^^ 1)) (b := N) (by omega) (by omega)).mp cz3
        refine lv_iload_n hx hb dX1_partner_44 rfl (lv_at hl 4 rfl) ?_
        refine lv_if_eq (tgt := 53) hx hb dX1_partner_45 (by decide) (fun _ => ?_) (fun h => absurd (b2_1 h) cz1)
        refine lv_aload_n hx hb dX1_partner_53 rfl (lv_at hl 2 rfl) ?_
        refine gM_second hx hb hts hin hown hK hP L13 dX1_partner_54 ?_
        refine lv_iload hx hb dX1_partner_57 (lv_at hl 0 rfl) ?_
        refine ldM_second (j := (u ^^^ 1)) hx hb hK hP rfl (by omega) dX1_partner_59 ?_
        exact rI hx hb hr hlk hH dX1_partner_60 (by rw [enM, if_neg cz1, eu, ix_nI (by omega), if_pos cz3])
      · have cz3 : ¬ (u ^^^ 1) < N := fun h => cz3 ((nI_ltI (a := (u ^^^ 1)) (b := N) (by omega) (by omega)).mpr h)
        refine lv_iconst (v := (-1)) hx hb dX1_partner_40 (by decide) ?_
        refine lv_goto (tgt := 60) hx hb dX1_partner_41 (by decide) ?_
        exact rI hx hb hr hlk hH dX1_partner_60 (by rw [enM, if_neg cz1, eu, ix_nI (by omega), if_neg cz3])
    · have cz2 : (u % 2) = 0 := (nI_eq (a := (u % 2)) (b := 0) (by omega) (by omega)).mp cz2
      refine lv_iload_n hx hb dX1_partner_20 rfl (lv_at hl 0 rfl) ?_
      refine lv_iconst (v := 1) hx hb dX1_partner_21 (by decide) ?_
      refine lv_iadd hx hb dX1_partner_22 ?_
      refine lv_goto (tgt := 29) hx hb dX1_partner_23 (by decide) ?_
      refine tpI (y := nI (u ^^^ 1)) (par_e u (by omega) cz2) ?_
      refine lv_istore (lv' := [(4, .int (nI (u ^^^ 1))), (3, .int (nI u)), (0, .ref (q 0)), (1, .int (nI t)), (2, .int (b2 (d = true)))]) hx hb dX1_partner_29 hl (by decide) rfl (fun ls hl => ?_)
      refine lv_iload hx hb dX1_partner_31 (lv_at hl 0 rfl) ?_
      refine lv_aload_n hx hb dX1_partner_33 rfl (lv_at hl 2 rfl) ?_
      refine gM_n hx hb hts hin hown hK hP L7 dX1_partner_34 ?_
      refine lv_icmp_lt (tgt := 44) hx hb dX1_partner_37 (by decide) (fun cz5 => ?_) (fun cz5 => ?_)
      · have cz5 : (u ^^^ 1) < N := (nI_ltI (a := (u ^^^ 1)) (b := N) (by omega) (by omega)).mp cz5
        refine lv_iload_n hx hb dX1_partner_44 rfl (lv_at hl 4 rfl) ?_
        refine lv_if_eq (tgt := 53) hx hb dX1_partner_45 (by decide) (fun _ => ?_) (fun h => absurd (b2_1 h) cz1)
        refine lv_aload_n hx hb dX1_partner_53 rfl (lv_at hl 2 rfl) ?_
        refine gM_second hx hb hts hin hown hK hP L13 dX1_partner_54 ?_
        refine lv_iload hx hb dX1_partner_57 (lv_at hl 0 rfl) ?_
        refine ldM_second (j := (u ^^^ 1)) hx hb hK hP rfl (by omega) dX1_partner_59 ?_
        exact rI hx hb hr hlk hH dX1_partner_60 (by rw [enM, if_neg cz1, eu, ix_nI (by omega), if_pos cz5])
      · have cz5 : ¬ (u ^^^ 1) < N := fun h => cz5 ((nI_ltI (a := (u ^^^ 1)) (b := N) (by omega) (by omega)).mpr h)
        refine lv_iconst (v := (-1)) hx hb dX1_partner_40 (by decide) ?_
        refine lv_goto (tgt := 60) hx hb dX1_partner_41 (by decide) ?_
        exact rI hx hb hr hlk hH dX1_partner_60 (by rw [enM, if_neg cz1, eu, ix_nI (by omega), if_neg cz5])
  · have cz1 := b2_1 cz1
    refine lv_iload_n hx hb dX1_partner_4 rfl (lv_at hl 1 rfl) ?_
    refine lv_goto (tgt := 13) hx hb dX1_partner_5 (by decide) ?_
    refine lv_istore_n (lv' := [(3, .int (nI t)), (0, .ref (q 0)), (1, .int (nI t)), (2, .int (b2 (d = true)))]) hx hb dX1_partner_13 rfl hl (by decide) rfl (fun ls hl => ?_)
    refine lv_iload_n hx hb dX1_partner_14 rfl (lv_at hl 0 rfl) ?_
    refine lv_iconst (v := 2) hx hb dX1_partner_15 (by decide) ?_
    refine lv_irem hx hb dX1_partner_16 (by decide) ?_
    refine tpI (y := nI (t % 2)) (pk_rem (a := t) (d := 2) (by omega) (by omega) (by omega)) ?_
    refine lv_if_ne (tgt := 26) hx hb dX1_partner_17 (by decide) (fun cz7 => ?_) (fun cz7 => ?_)
    · have cz7 : ¬ (t % 2) = 0 := fun h => cz7 ((nI_eq (a := (t % 2)) (b := 0) (by omega) (by omega)).mpr h)
      refine lv_iload_n hx hb dX1_partner_26 rfl (lv_at hl 0 rfl) ?_
      refine lv_iconst (v := 1) hx hb dX1_partner_27 (by decide) ?_
      refine lv_isub hx hb dX1_partner_28 ?_
      refine tpI (y := nI (t ^^^ 1)) (par_o t (by omega) cz7) ?_
      refine lv_istore (lv' := [(4, .int (nI (t ^^^ 1))), (3, .int (nI t)), (0, .ref (q 0)), (1, .int (nI t)), (2, .int (b2 (d = true)))]) hx hb dX1_partner_29 hl (by decide) rfl (fun ls hl => ?_)
      refine lv_iload hx hb dX1_partner_31 (lv_at hl 0 rfl) ?_
      refine lv_aload_n hx hb dX1_partner_33 rfl (lv_at hl 2 rfl) ?_
      refine gM_n hx hb hts hin hown hK hP L7 dX1_partner_34 ?_
      refine lv_icmp_lt (tgt := 44) hx hb dX1_partner_37 (by decide) (fun cz8 => ?_) (fun cz8 => ?_)
      · have cz8 : (t ^^^ 1) < N := (nI_ltI (a := (t ^^^ 1)) (b := N) (by omega) (by omega)).mp cz8
        refine lv_iload_n hx hb dX1_partner_44 rfl (lv_at hl 4 rfl) ?_
        refine lv_if_eq (tgt := 53) hx hb dX1_partner_45 (by decide) (fun h => absurd cz1 (b2_0 h)) (fun _ => ?_)
        refine lv_iload hx hb dX1_partner_48 (lv_at hl 0 rfl) ?_
        refine lv_goto (tgt := 60) hx hb dX1_partner_50 (by decide) ?_
        exact rI hx hb hr hlk hH dX1_partner_60 (by rw [enM, if_pos cz1, if_pos cz8])
      · have cz8 : ¬ (t ^^^ 1) < N := fun h => cz8 ((nI_ltI (a := (t ^^^ 1)) (b := N) (by omega) (by omega)).mpr h)
        refine lv_iconst (v := (-1)) hx hb dX1_partner_40 (by decide) ?_
        refine lv_goto (tgt := 60) hx hb dX1_partner_41 (by decide) ?_
        exact rI hx hb hr hlk hH dX1_partner_60 (by rw [enM, if_pos cz1, if_neg cz8])
    · have cz7 : (t % 2) = 0 := (nI_eq (a := (t % 2)) (b := 0) (by omega) (by omega)).mp cz7
      refine lv_iload_n hx hb dX1_partner_20 rfl (lv_at hl 0 rfl) ?_
      refine lv_iconst (v := 1) hx hb dX1_partner_21 (by decide) ?_
      refine lv_iadd hx hb dX1_partner_22 ?_
      refine lv_goto (tgt := 29) hx hb dX1_partner_23 (by decide) ?_
      refine tpI (y := nI (t ^^^ 1)) (par_e t (by omega) cz7) ?_
      refine lv_istore (lv' := [(4, .int (nI (t ^^^ 1))), (3, .int (nI t)), (0, .ref (q 0)), (1, .int (nI t)), (2, .int (b2 (d = true)))]) hx hb dX1_partner_29 hl (by decide) rfl (fun ls hl => ?_)
      refine lv_iload hx hb dX1_partner_31 (lv_at hl 0 rfl) ?_
      refine lv_aload_n hx hb dX1_partner_33 rfl (lv_at hl 2 rfl) ?_
      refine gM_n hx hb hts hin hown hK hP L7 dX1_partner_34 ?_
      refine lv_icmp_lt (tgt := 44) hx hb dX1_partner_37 (by decide) (fun cz10 => ?_) (fun cz10 => ?_)
      · have cz10 : (t ^^^ 1) < N := (nI_ltI (a := (t ^^^ 1)) (b := N) (by omega) (by omega)).mp cz10
        refine lv_iload_n hx hb dX1_partner_44 rfl (lv_at hl 4 rfl) ?_
        refine lv_if_eq (tgt := 53) hx hb dX1_partner_45 (by decide) (fun h => absurd cz1 (b2_0 h)) (fun _ => ?_)
        refine lv_iload hx hb dX1_partner_48 (lv_at hl 0 rfl) ?_
        refine lv_goto (tgt := 60) hx hb dX1_partner_50 (by decide) ?_
        exact rI hx hb hr hlk hH dX1_partner_60 (by rw [enM, if_pos cz1, if_pos cz10])
      · have cz10 : ¬ (t ^^^ 1) < N := fun h => cz10 ((nI_ltI (a := (t ^^^ 1)) (b := N) (by omega) (by omega)).mpr h)
        refine lv_iconst (v := (-1)) hx hb dX1_partner_40 (by decide) ?_
        refine lv_goto (tgt := 60) hx hb dX1_partner_41 (by decide) ?_
        exact rI hx hb hr hlk hH dX1_partner_60 (by rw [enM, if_pos cz1, if_neg cz10])

theorem hdX1_pairs : yX1_pairs.cls = RX1 ∧ yX1_pairs.cls ≠ "java/lang/invoke/MethodHandle" ∧ yX1_pairs.cls ≠ "java/lang/invoke/VarHandle" ∧ (parseMethodDescriptor yX1_pairs.desc).map (fun d => d.parameters.length) = some 0 := by decide +kernel
set_option maxHeartbeats 4000000 in
set_option maxRecDepth 100000 in
theorem kX1_pairs {l : Launch} {D : va_G} {cy : ClassId} {H : Heap} {q : Nat → Nat} {ff fm fw : Int32} {ak : Int64} {ta gh kd fa fb sx sy mb co : Nat → Int32} {N K S : Nat} {pl : Nat → Int32} (hP : va_P D vwCl (wM cy q (nI N) (nI K) (nI S) ff fm fw ak ta gh kd fa fb sx sy mb co) H) (hD : va_D (aL q) (wM cy q (nI N) (nI K) (nI S) ff fm fw ak ta gh kd fa fb sx sy mb co))  (hN : N ≤ 12) (hpl : plOk ta pl N) (hta : rg ta) : Met l yX1_pairs wsX1_pairs { frames := 2, cells := 0, slots := 0, locals := 46 } (pcK D cy H [.ref (q 0)]) (qI (some (.int ((paM (edM ta pl N) N (fiF (-1) co N) N).1))) (va_P D vwCl (wM cy q (nI N) (nI K) (nI S) ff fm fw ak ta gh kd fa fb sx sy mb ((paM (edM ta pl N) N (fiF (-1) co N) N).2))) (aL q)) 0 0 (aL q) := by
  refine mV 6 (by decide) rfl (Nat.le_of_ble_eq_true rfl) ?_
  intro p e s m below meth c hx hb hml hr hlk hts hown hnm hK hH ls hl
  have hC := (⟨hx, hb, hml, hown, hts⟩ : CallFix p m c cX1_pairs 6 s _ wsX1_pairs RX1)
  have hin : ∀ w ∈ wsX10, w ∈ wsX1_pairs := by decide +kernel
  have L7 : Cond.fieldLink RX1 7 "TwoColoursModel" "n" "I" ∈ wsX1_pairs := by decide +kernel
  have L38 : Cond.fieldLink RX1 38 "TwoColoursModel" "colour" "[I" ∈ wsX1_pairs := by decide +kernel
  have hl : lv_has ls 6 [(0, .ref (q 0))] := hl
  have hS : va_S (aL q) s.heap H [] := by rw [hH]; exact va_S.rf
  have hen : ∀ k, k < 2 * N → ¬ edM ta pl N k < 0 → ∃ v : Nat, v < 12 ∧ edM ta pl N k = nI v := fun k hk h => edM_lt hN hta hpl hk h
  refine lv_iconst (v := 0) hx hb dX1_pairs_0 (by decide) ?_
  refine lv_istore_n (lv' := [(1, .int (0)), (0, .ref (q 0))]) hx hb dX1_pairs_1 rfl hl (by decide) rfl (fun ls hl => ?_)
  refine lpW (σ := Nat) 2 (fun i ls H locs => (i ≤ N) ∧ lv_has ls 6 [(0, .ref (q 0)), (1, .int (nI i))] ∧ va_P D vwCl (wM cy q (nI N) (nI K) (nI S) ff fm fw ak ta gh kd fa fb sx sy mb (fiF (-1) co i)) H ∧ va_D (aL q) (wM cy q (nI N) (nI K) (nI S) ff fm fw ak ta gh kd fa fb sx sy mb (fiF (-1) co i)) ∧ va_S (aL q) s.heap H locs) (fun i => N - i) ?_ (0) ls ⟨Nat.zero_le _, lv_sub hl [1, 0] rfl, hP, hD, hS⟩
  intro i ls H locs hI ih_2
  obtain ⟨hi, hl, hP, hD, hS⟩ := hI
  refine lv_iload_n hx hb dX1_pairs_2 rfl (lv_at hl 1 rfl) ?_
  refine lv_aload_n hx hb dX1_pairs_3 rfl (lv_at hl 0 rfl) ?_
  refine gM_n hx hb hts hin hown hK hP L7 dX1_pairs_4 ?_
  refine lv_icmp_ge (tgt := 23) hx hb dX1_pairs_7 (by decide) (fun cz1 => ?_) (fun cz1 => ?_)
  · have cz1 : N ≤ i := (nI_leI (a := N) (b := i) (by omega) (by omega)).mp cz1
    have ei : N = i := by omega
    subst ei
    refine lv_iconst (v := 0) hx hb dX1_pairs_23 (by decide) ?_
    refine lv_istore_n (lv' := [(1, .int (0)), (0, .ref (q 0))]) hx hb dX1_pairs_24 rfl hl (by decide) rfl (fun ls hl => ?_)
    refine lv_iconst (v := 0) hx hb dX1_pairs_25 (by decide) ?_
    refine lv_istore_n (lv' := [(2, .int (0)), (1, .int (0)), (0, .ref (q 0))]) hx hb dX1_pairs_26 rfl hl (by decide) rfl (fun ls hl => ?_)
    refine lpW (σ := Nat) 27 (fun i ls H locs => (i ≤ N) ∧ lv_has ls 6 [(0, .ref (q 0)), (1, .int ((paM (edM ta pl N) N (fiF (-1) co N) i).1)), (2, .int (nI i))] ∧ va_P D vwCl (wM cy q (nI N) (nI K) (nI S) ff fm fw ak ta gh kd fa fb sx sy mb (paM (edM ta pl N) N (fiF (-1) co N) i).2) H ∧ va_D (aL q) (wM cy q (nI N) (nI K) (nI S) ff fm fw ak ta gh kd fa fb sx sy mb (paM (edM ta pl N) N (fiF (-1) co N) i).2) ∧ va_S (aL q) s.heap H locs) (fun i => N - i) ?_ (0) ls ⟨Nat.zero_le _, lv_sub hl [2, 1, 0] rfl, hP, hD, hS⟩
    intro i ls H locs hI ih_27
    obtain ⟨hi, hl, hP, hD, hS⟩ := hI
    have hck := paM_ok (fiF_ok (f := co) (N := N)) hen i
    refine lv_iload_n hx hb dX1_pairs_27 rfl (lv_at hl 2 rfl) ?_
    refine lv_aload_n hx hb dX1_pairs_28 rfl (lv_at hl 0 rfl) ?_
    refine gM_n hx hb hts hin hown hK hP L7 dX1_pairs_29 ?_
    refine lv_icmp_ge (tgt := 168) hx hb dX1_pairs_32 (by decide) (fun cz2 => ?_) (fun cz2 => ?_)
    · have cz2 : N ≤ i := (nI_leI (a := N) (b := i) (by omega) (by omega)).mp cz2
      have ei : N = i := by omega
      subst ei
      refine lv_iload_n hx hb dX1_pairs_168 rfl (lv_at hl 1 rfl) ?_
      exact rIw hx hb hr hlk hS hP dX1_pairs_169 rfl
    · have cz2 : ¬ N ≤ i := fun h => cz2 ((nI_leI (a := N) (b := i) (by omega) (by omega)).mpr h)
      refine lv_aload_n hx hb dX1_pairs_35 rfl (lv_at hl 0 rfl) ?_
      refine gM_colour hx hb hts hin hown hK hP L38 dX1_pairs_36 ?_
      refine lv_iload_n hx hb dX1_pairs_39 rfl (lv_at hl 2 rfl) ?_
      refine ldM_colour (j := i) hx hb hK hP rfl (by omega) dX1_pairs_40 ?_
      refine lv_if_ge (tgt := 151) hx hb dX1_pairs_41 (by decide) (fun cz3 => ?_) (fun cz3 => ?_)
      · have hc0 := Int32.not_lt.mpr cz3
        refine lv_iload_n hx hb dX1_pairs_151 rfl (lv_at hl 1 rfl) ?_
        refine lv_aload_n hx hb dX1_pairs_152 rfl (lv_at hl 0 rfl) ?_
        refine gM_colour hx hb hts hin hown hK hP L38 dX1_pairs_153 ?_
        refine lv_iload_n hx hb dX1_pairs_156 rfl (lv_at hl 2 rfl) ?_
        refine ldM_colour (j := i) hx hb hK hP rfl (by omega) dX1_pairs_157 ?_
        refine lv_iload_n hx hb dX1_pairs_158 rfl (lv_at hl 2 rfl) ?_
        refine lv_ishl hx hb dX1_pairs_159 ?_
        refine lv_ior hx hb dX1_pairs_160 ?_
        refine lv_istore_n (lv' := [(1, .int (((paM (edM ta pl N) N (fiF (-1) co N) i).1) ||| (((paM (edM ta pl N) N (fiF (-1) co N) i).2 i) <<< ((nI i) &&& 31)))), (0, .ref (q 0)), (2, .int (nI i))]) hx hb dX1_pairs_161 rfl hl (by decide) rfl (fun ls hl => ?_)
        refine lv_iinc (v := nI (i + 1)) (lv' := [(2, .int (nI (i + 1))), (1, .int (((paM (edM ta pl N) N (fiF (-1) co N) i).1) ||| (((paM (edM ta pl N) N (fiF (-1) co N) i).2 i) <<< ((nI i) &&& 31)))), (0, .ref (q 0))]) hx hb dX1_pairs_162 hl (k := 2) rfl (nI_1 _) (by decide) rfl (fun ls hl => ?_)
        refine lv_goto (tgt := 27) hx hb dX1_pairs_165 (by decide) ?_
        exact ih_27 (i + 1) _ _ _ (by omega) ⟨by omega, by rw [paM_f hc0]; exact lv_sub hl [2, 1, 0] rfl, (by rw [paM_f hc0]; exact hP), vD_same (by rfl) hD, hS⟩
      · have hc0 := Int32.not_le.mp cz3
        refine lv_aload_n hx hb dX1_pairs_44 rfl (lv_at hl 0 rfl) ?_
        refine gM_colour hx hb hts hin hown hK hP L38 dX1_pairs_45 ?_
        refine lv_iload_n hx hb dX1_pairs_48 rfl (lv_at hl 2 rfl) ?_
        refine lv_iconst (v := 0) hx hb dX1_pairs_49 (by decide) ?_
        refine stM_colour (j := i) hx hb hK hP hD hS rfl (by omega) dX1_pairs_50 (fun H locs hP hD hS => ?_)
        refine lv_iconst (v := 1) hx hb dX1_pairs_51 (by decide) ?_
        refine lv_istore_n (lv' := [(3, .int (1)), (0, .ref (q 0)), (1, .int ((paM (edM ta pl N) N (fiF (-1) co N) i).1)), (2, .int (nI i))]) hx hb dX1_pairs_52 rfl hl (by decide) rfl (fun ls hl => ?_)
        refine lpW (σ := Nat × Bool × (Nat → Int32)) 53 (fun a ls H locs => (cOk (a.2.2) N ∧ ((a.2.1) = true → ucF (a.2.2) 12 < (a.1)) ∧ (if (a.2.1) = true then clF (edM ta pl N) (2 * N) (a.1) (a.2.2) else (a.2.2)) = clF (edM ta pl N) (2 * N) 13 (upd (paM (edM ta pl N) N (fiF (-1) co N) i).2 i 0)) ∧ lv_has ls 6 [(0, .ref (q 0)), (1, .int ((paM (edM ta pl N) N (fiF (-1) co N) i).1)), (2, .int (nI i)), (3, .int (b2 ((a.2.1) = true)))] ∧ va_P D vwCl (wM cy q (nI N) (nI K) (nI S) ff fm fw ak ta gh kd fa fb sx sy mb (a.2.2)) H ∧ va_D (aL q) (wM cy q (nI N) (nI K) (nI S) ff fm fw ak ta gh kd fa fb sx sy mb (a.2.2)) ∧ va_S (aL q) s.heap H locs) (fun a => if (a.2.1) = true then (a.1) + 1 else 0) ?_ ((13, true, upd (paM (edM ta pl N) N (fiF (-1) co N) i).2 i 0)) ls ⟨⟨cOk_upd hck (Or.inr (Or.inl rfl)), fun _ => Nat.lt_succ_of_le (ucF_le _ 12), rfl⟩, lv_sub hl [1, 2, 3, 0] rfl, hP, hD, hS⟩
        intro a ls H locs hI ih_53
        obtain ⟨f1, m1, co1⟩ := a
        dsimp only at hI
        obtain ⟨⟨hok, huc, hres⟩, hl, hP, hD, hS⟩ := hI
        have hl : lv_has ls 6 [(0, .ref (q 0)), (1, .int ((paM (edM ta pl N) N (fiF (-1) co N) i).1)), (2, .int (nI i)), (3, .int (b2 (m1 = true)))] := hl
        refine lv_iload_n hx hb dX1_pairs_53 rfl (lv_at hl 3 rfl) ?_
        refine lv_if_eq (tgt := 151) hx hb dX1_pairs_54 (by decide) (fun cz4 => ?_) (fun cz4 => ?_)
        · have cz4 := b2_0 cz4
          have hm := cz4
          have hre : co1 = clF (edM ta pl N) (2 * N) 13 (upd (paM (edM ta pl N) N (fiF (-1) co N) i).2 i 0) := by rw [if_neg hm] at hres; exact hres
          rw [hre] at hP hD
          refine lv_iload_n hx hb dX1_pairs_151 rfl (lv_at hl 1 rfl) ?_
          refine lv_aload_n hx hb dX1_pairs_152 rfl (lv_at hl 0 rfl) ?_
          refine gM_colour hx hb hts hin hown hK hP L38 dX1_pairs_153 ?_
          refine lv_iload_n hx hb dX1_pairs_156 rfl (lv_at hl 2 rfl) ?_
          refine ldM_colour (j := i) hx hb hK hP rfl (by omega) dX1_pairs_157 ?_
          refine lv_iload_n hx hb dX1_pairs_158 rfl (lv_at hl 2 rfl) ?_
          refine lv_ishl hx hb dX1_pairs_159 ?_
          refine lv_ior hx hb dX1_pairs_160 ?_
          refine lv_istore_n (lv' := [(1, .int (((paM (edM ta pl N) N (fiF (-1) co N) i).1) ||| (((clF (edM ta pl N) (2 * N) 13 (upd (paM (edM ta pl N) N (fiF (-1) co N) i).2 i 0)) i) <<< ((nI i) &&& 31)))), (0, .ref (q 0)), (2, .int (nI i)), (3, .int (b2 (m1 = true)))]) hx hb dX1_pairs_161 rfl hl (by decide) rfl (fun ls hl => ?_)
          refine lv_iinc (v := nI (i + 1)) (lv' := [(2, .int (nI (i + 1))), (1, .int (((paM (edM ta pl N) N (fiF (-1) co N) i).1) ||| (((clF (edM ta pl N) (2 * N) 13 (upd (paM (edM ta pl N) N (fiF (-1) co N) i).2 i 0)) i) <<< ((nI i) &&& 31)))), (0, .ref (q 0)), (3, .int (b2 (m1 = true)))]) hx hb dX1_pairs_162 hl (k := 2) rfl (nI_1 _) (by decide) rfl (fun ls hl => ?_)
          refine lv_goto (tgt := 27) hx hb dX1_pairs_165 (by decide) ?_
          exact ih_27 (i + 1) _ _ _ (by omega) ⟨by omega, by rw [paM_t hc0]; exact lv_sub hl [2, 1, 0] rfl, (by rw [paM_t hc0]; exact hP), vD_same (by rfl) hD, hS⟩
        · have cz4 := b2_1 cz4
          have hm := cz4
          refine lv_iconst (v := 0) hx hb dX1_pairs_57 (by decide) ?_
          refine lv_istore_n (lv' := [(3, .int (0)), (0, .ref (q 0)), (1, .int ((paM (edM ta pl N) N (fiF (-1) co N) i).1)), (2, .int (nI i))]) hx hb dX1_pairs_58 rfl hl (by decide) rfl (fun ls hl => ?_)
          refine lv_iconst (v := 0) hx hb dX1_pairs_59 (by decide) ?_
          refine lv_istore (lv' := [(4, .int (0)), (3, .int (0)), (0, .ref (q 0)), (1, .int ((paM (edM ta pl N) N (fiF (-1) co N) i).1)), (2, .int (nI i))]) hx hb dX1_pairs_60 hl (by decide) rfl (fun ls hl => ?_)
          refine lpW (σ := Nat) 62 (fun k ls H locs => (k ≤ 2 * N) ∧ lv_has ls 6 [(0, .ref (q 0)), (1, .int ((paM (edM ta pl N) N (fiF (-1) co N) i).1)), (2, .int (nI i)), (3, .int (b2 ((psF (edM ta pl N) co1 k).2 = true))), (4, .int (nI k))] ∧ va_P D vwCl (wM cy q (nI N) (nI K) (nI S) ff fm fw ak ta gh kd fa fb sx sy mb (psF (edM ta pl N) co1 k).1) H ∧ va_D (aL q) (wM cy q (nI N) (nI K) (nI S) ff fm fw ak ta gh kd fa fb sx sy mb (psF (edM ta pl N) co1 k).1) ∧ va_S (aL q) s.heap H locs) (fun k => 2 * N - k) ?_ (0) ls ⟨Nat.zero_le _, lv_sub hl [2, 3, 4, 1, 0] rfl, hP, hD, hS⟩
          intro k ls H locs hI ih_62
          obtain ⟨hk, hl, hP, hD, hS⟩ := hI
          refine lv_iload hx hb dX1_pairs_62 (lv_at hl 4 rfl) ?_
          refine lv_iconst (v := 2) hx hb dX1_pairs_64 (by decide) ?_
          refine lv_aload_n hx hb dX1_pairs_65 rfl (lv_at hl 0 rfl) ?_
          refine gM_n hx hb hts hin hown hK hP L7 dX1_pairs_66 ?_
          refine lv_imul hx hb dX1_pairs_69 ?_
          refine tpI (y := nI (2 * N)) (pk_mul 2 N) ?_
          refine lv_icmp_ge (tgt := 148) hx hb dX1_pairs_70 (by decide) (fun cz5 => ?_) (fun cz5 => ?_)
          · have cz5 : (2 * N) ≤ k := (nI_leI (a := (2 * N)) (b := k) (by omega) (by omega)).mp cz5
            have ek : 2 * N = k := by omega
            subst ek
            refine lv_goto (tgt := 53) hx hb dX1_pairs_148 (by decide) ?_
            exact ih_53 ((f1 - 1, (psF (edM ta pl N) co1 (2 * N)).2, (psF (edM ta pl N) co1 (2 * N)).1)) _ _ _ (by show (if (psF (edM ta pl N) co1 (2 * N)).2 = true then f1 - 1 + 1 else 0) < (if m1 = true then f1 + 1 else 0); rw [if_pos hm]; have := huc hm; split <;> omega) ⟨clF_w hok hen (huc hm) (by rw [if_pos hm] at hres; exact hres), lv_sub hl [0, 1, 2, 3] rfl, hP, vD_same (by rfl) hD, hS⟩
          · have cz5 : ¬ (2 * N) ≤ k := fun h => cz5 ((nI_leI (a := (2 * N)) (b := k) (by omega) (by omega)).mpr h)
            refine lv_aload_n hx hb dX1_pairs_73 rfl (lv_at hl 0 rfl) ?_
            refine lv_iload hx hb dX1_pairs_74 (lv_at hl 4 rfl) ?_
            refine lv_iconst (v := 2) hx hb dX1_pairs_76 (by decide) ?_
            refine lv_idiv hx hb dX1_pairs_77 (by decide) ?_
            refine tpI (y := nI (k / 2)) (pk_div (a := k) (d := 2) (by omega) (by omega) (by omega)) ?_
            refine lv_iload hx hb dX1_pairs_78 (lv_at hl 4 rfl) ?_
            refine lv_iconst (v := 2) hx hb dX1_pairs_80 (by decide) ?_
            refine lv_irem hx hb dX1_pairs_81 (by decide) ?_
            refine tpI (y := nI (k % 2)) (pk_rem (a := k) (d := 2) (by omega) (by omega) (by omega)) ?_
            refine lv_if_ne (tgt := 89) hx hb dX1_pairs_82 (by decide) (fun cz6 => ?_) (fun cz6 => ?_)
            · have cz6 : ¬ (k % 2) = 0 := fun h => cz6 ((nI_eq (a := (k % 2)) (b := 0) (by omega) (by omega)).mpr h)
              refine lv_iconst (v := 0) hx hb dX1_pairs_89 (by decide) ?_
              refine cV (As := [.int (nI (k / 2)), .int (0)]) hC hK hP rfl rfl (kX1_partner hP ((k / 2)) false hN hpl (by omega)) [] (cwV 2 hts gX1_pairs_X1_partner rfl rfl rfl hdX1_partner ⟨Nat.le_of_ble_eq_true rfl, Nat.le_of_ble_eq_true rfl⟩) rfl hl.1 rfl (Nat.le_of_ble_eq_true rfl) dX1_pairs_90 ⟨Nat.zero_le _, Nat.zero_le _⟩ ?_
              refine tpI (y := edM ta pl N k) (by rw [edM, decide_eq_false cz6]) ?_
              refine lv_istore (lv' := [(5, .int (edM ta pl N k)), (0, .ref (q 0)), (1, .int ((paM (edM ta pl N) N (fiF (-1) co N) i).1)), (2, .int (nI i)), (3, .int (b2 ((psF (edM ta pl N) co1 k).2 = true))), (4, .int (nI k))]) hx hb dX1_pairs_93 hl (by decide) rfl (fun ls hl => ?_)
              refine lv_aload_n hx hb dX1_pairs_95 rfl (lv_at hl 1 rfl) ?_
              refine gM_colour hx hb hts hin hown hK hP L38 dX1_pairs_96 ?_
              refine lv_iload hx hb dX1_pairs_99 (lv_at hl 5 rfl) ?_
              refine lv_iconst (v := 2) hx hb dX1_pairs_101 (by decide) ?_
              refine lv_idiv hx hb dX1_pairs_102 (by decide) ?_
              refine tpI (y := nI (k / 2)) (pk_div (a := k) (d := 2) (by omega) (by omega) (by omega)) ?_
              refine ldM_colour (j := (k / 2)) hx hb hK hP rfl (by omega) dX1_pairs_103 ?_
              refine lv_if_lt (tgt := 142) hx hb dX1_pairs_104 (by decide) (fun cz7 => ?_) (fun cz7 => ?_)
              · have hca := cz7
                refine lv_iinc (v := nI (k + 1)) (lv' := [(4, .int (nI (k + 1))), (5, .int (edM ta pl N k)), (0, .ref (q 0)), (1, .int ((paM (edM ta pl N) N (fiF (-1) co N) i).1)), (2, .int (nI i)), (3, .int (b2 ((psF (edM ta pl N) co1 k).2 = true)))]) hx hb dX1_pairs_142 hl (k := 5) rfl (nI_1 _) (by decide) rfl (fun ls hl => ?_)
                refine lv_goto (tgt := 62) hx hb dX1_pairs_145 (by decide) ?_
                exact ih_62 (k + 1) _ _ _ (by omega) ⟨by omega, by rw [psF_a hca]; exact lv_sub hl [2, 3, 4, 5, 0] rfl, (by rw [psF_a hca]; exact hP), vD_same (by rfl) hD, hS⟩
              · have hca := cz7
                refine lv_iload hx hb dX1_pairs_107 (lv_at hl 0 rfl) ?_
                refine lv_if_lt (tgt := 142) hx hb dX1_pairs_109 (by decide) (fun cz8 => ?_) (fun cz8 => ?_)
                · have hcb := cz8
                  refine lv_iinc (v := nI (k + 1)) (lv' := [(4, .int (nI (k + 1))), (5, .int (edM ta pl N k)), (0, .ref (q 0)), (1, .int ((paM (edM ta pl N) N (fiF (-1) co N) i).1)), (2, .int (nI i)), (3, .int (b2 ((psF (edM ta pl N) co1 k).2 = true)))]) hx hb dX1_pairs_142 hl (k := 5) rfl (nI_1 _) (by decide) rfl (fun ls hl => ?_)
                  refine lv_goto (tgt := 62) hx hb dX1_pairs_145 (by decide) ?_
                  exact ih_62 (k + 1) _ _ _ (by omega) ⟨by omega, by rw [psF_b hcb]; exact lv_sub hl [2, 3, 4, 5, 0] rfl, (by rw [psF_b hcb]; exact hP), vD_same (by rfl) hD, hS⟩
                · have hcb := cz8
                  obtain ⟨v, hv, ev⟩ := hen k (by omega) cz8
                  refine lv_aload_n hx hb dX1_pairs_112 rfl (lv_at hl 1 rfl) ?_
                  refine gM_colour hx hb hts hin hown hK hP L38 dX1_pairs_113 ?_
                  refine lv_iload hx hb dX1_pairs_116 (lv_at hl 0 rfl) ?_
                  refine ldM_colour (j := v) hx hb hK hP ev hv dX1_pairs_118 ?_
                  refine lv_if_ge (tgt := 142) hx hb dX1_pairs_119 (by decide) (fun cz9 => ?_) (fun cz9 => ?_)
                  · have hcc := Int32.not_lt.mpr cz9
                    refine lv_iinc (v := nI (k + 1)) (lv' := [(4, .int (nI (k + 1))), (5, .int (edM ta pl N k)), (0, .ref (q 0)), (1, .int ((paM (edM ta pl N) N (fiF (-1) co N) i).1)), (2, .int (nI i)), (3, .int (b2 ((psF (edM ta pl N) co1 k).2 = true)))]) hx hb dX1_pairs_142 hl (k := 5) rfl (nI_1 _) (by decide) rfl (fun ls hl => ?_)
                    refine lv_goto (tgt := 62) hx hb dX1_pairs_145 (by decide) ?_
                    exact ih_62 (k + 1) _ _ _ (by omega) ⟨by omega, by rw [psF_c ev hv hcc]; exact lv_sub hl [2, 3, 4, 5, 0] rfl, (by rw [psF_c ev hv hcc]; exact hP), vD_same (by rfl) hD, hS⟩
                  · have hcc := Int32.not_le.mp cz9
                    refine lv_aload_n hx hb dX1_pairs_122 rfl (lv_at hl 1 rfl) ?_
                    refine gM_colour hx hb hts hin hown hK hP L38 dX1_pairs_123 ?_
                    refine lv_iload hx hb dX1_pairs_126 (lv_at hl 0 rfl) ?_
                    refine lv_iconst (v := 1) hx hb dX1_pairs_128 (by decide) ?_
                    refine lv_aload_n hx hb dX1_pairs_129 rfl (lv_at hl 1 rfl) ?_
                    refine gM_colour hx hb hts hin hown hK hP L38 dX1_pairs_130 ?_
                    refine lv_iload hx hb dX1_pairs_133 (lv_at hl 5 rfl) ?_
                    refine lv_iconst (v := 2) hx hb dX1_pairs_135 (by decide) ?_
                    refine lv_idiv hx hb dX1_pairs_136 (by decide) ?_
                    refine tpI (y := nI (k / 2)) (pk_div (a := k) (d := 2) (by omega) (by omega) (by omega)) ?_
                    refine ldM_colour (j := (k / 2)) hx hb hK hP rfl (by omega) dX1_pairs_137 ?_
                    refine lv_isub hx hb dX1_pairs_138 ?_
                    refine stM_colour (j := v) hx hb hK hP hD hS ev hv dX1_pairs_139 (fun H locs hP hD hS => ?_)
                    refine lv_iconst (v := 1) hx hb dX1_pairs_140 (by decide) ?_
                    refine lv_istore_n (lv' := [(3, .int (1)), (5, .int (edM ta pl N k)), (0, .ref (q 0)), (1, .int ((paM (edM ta pl N) N (fiF (-1) co N) i).1)), (2, .int (nI i)), (4, .int (nI k))]) hx hb dX1_pairs_141 rfl hl (by decide) rfl (fun ls hl => ?_)
                    refine lv_iinc (v := nI (k + 1)) (lv' := [(4, .int (nI (k + 1))), (3, .int (1)), (5, .int (edM ta pl N k)), (0, .ref (q 0)), (1, .int ((paM (edM ta pl N) N (fiF (-1) co N) i).1)), (2, .int (nI i))]) hx hb dX1_pairs_142 hl (k := 5) rfl (nI_1 _) (by decide) rfl (fun ls hl => ?_)
                    refine lv_goto (tgt := 62) hx hb dX1_pairs_145 (by decide) ?_
                    exact ih_62 (k + 1) _ _ _ (by omega) ⟨by omega, by rw [psF_t ev hv hca hcb hcc]; exact lv_sub hl [3, 4, 5, 1, 0] rfl, (by rw [psF_t ev hv hca hcb hcc]; exact hP), vD_same (by rfl) hD, hS⟩
            · have cz6 : (k % 2) = 0 := (nI_eq (a := (k % 2)) (b := 0) (by omega) (by omega)).mp cz6
              refine lv_iconst (v := 1) hx hb dX1_pairs_85 (by decide) ?_
              refine lv_goto (tgt := 90) hx hb dX1_pairs_86 (by decide) ?_
              refine cV (As := [.int (nI (k / 2)), .int (1)]) hC hK hP rfl rfl (kX1_partner hP ((k / 2)) true hN hpl (by omega)) [] (cwV 2 hts gX1_pairs_X1_partner rfl rfl rfl hdX1_partner ⟨Nat.le_of_ble_eq_true rfl, Nat.le_of_ble_eq_true rfl⟩) rfl hl.1 rfl (Nat.le_of_ble_eq_true rfl) dX1_pairs_90 ⟨Nat.zero_le _, Nat.zero_le _⟩ ?_
              refine tpI (y := edM ta pl N k) (by rw [edM, decide_eq_true cz6]) ?_
              refine lv_istore (lv' := [(5, .int (edM ta pl N k)), (0, .ref (q 0)), (1, .int ((paM (edM ta pl N) N (fiF (-1) co N) i).1)), (2, .int (nI i)), (3, .int (b2 ((psF (edM ta pl N) co1 k).2 = true))), (4, .int (nI k))]) hx hb dX1_pairs_93 hl (by decide) rfl (fun ls hl => ?_)
              refine lv_aload_n hx hb dX1_pairs_95 rfl (lv_at hl 1 rfl) ?_
              refine gM_colour hx hb hts hin hown hK hP L38 dX1_pairs_96 ?_
              refine lv_iload hx hb dX1_pairs_99 (lv_at hl 5 rfl) ?_
              refine lv_iconst (v := 2) hx hb dX1_pairs_101 (by decide) ?_
              refine lv_idiv hx hb dX1_pairs_102 (by decide) ?_
              refine tpI (y := nI (k / 2)) (pk_div (a := k) (d := 2) (by omega) (by omega) (by omega)) ?_
              refine ldM_colour (j := (k / 2)) hx hb hK hP rfl (by omega) dX1_pairs_103 ?_
              refine lv_if_lt (tgt := 142) hx hb dX1_pairs_104 (by decide) (fun cz10 => ?_) (fun cz10 => ?_)
              · have hca := cz10
                refine lv_iinc (v := nI (k + 1)) (lv' := [(4, .int (nI (k + 1))), (5, .int (edM ta pl N k)), (0, .ref (q 0)), (1, .int ((paM (edM ta pl N) N (fiF (-1) co N) i).1)), (2, .int (nI i)), (3, .int (b2 ((psF (edM ta pl N) co1 k).2 = true)))]) hx hb dX1_pairs_142 hl (k := 5) rfl (nI_1 _) (by decide) rfl (fun ls hl => ?_)
                refine lv_goto (tgt := 62) hx hb dX1_pairs_145 (by decide) ?_
                exact ih_62 (k + 1) _ _ _ (by omega) ⟨by omega, by rw [psF_a hca]; exact lv_sub hl [2, 3, 4, 5, 0] rfl, (by rw [psF_a hca]; exact hP), vD_same (by rfl) hD, hS⟩
              · have hca := cz10
                refine lv_iload hx hb dX1_pairs_107 (lv_at hl 0 rfl) ?_
                refine lv_if_lt (tgt := 142) hx hb dX1_pairs_109 (by decide) (fun cz11 => ?_) (fun cz11 => ?_)
                · have hcb := cz11
                  refine lv_iinc (v := nI (k + 1)) (lv' := [(4, .int (nI (k + 1))), (5, .int (edM ta pl N k)), (0, .ref (q 0)), (1, .int ((paM (edM ta pl N) N (fiF (-1) co N) i).1)), (2, .int (nI i)), (3, .int (b2 ((psF (edM ta pl N) co1 k).2 = true)))]) hx hb dX1_pairs_142 hl (k := 5) rfl (nI_1 _) (by decide) rfl (fun ls hl => ?_)
                  refine lv_goto (tgt := 62) hx hb dX1_pairs_145 (by decide) ?_
                  exact ih_62 (k + 1) _ _ _ (by omega) ⟨by omega, by rw [psF_b hcb]; exact lv_sub hl [2, 3, 4, 5, 0] rfl, (by rw [psF_b hcb]; exact hP), vD_same (by rfl) hD, hS⟩
                · have hcb := cz11
                  obtain ⟨v, hv, ev⟩ := hen k (by omega) cz11
                  refine lv_aload_n hx hb dX1_pairs_112 rfl (lv_at hl 1 rfl) ?_
                  refine gM_colour hx hb hts hin hown hK hP L38 dX1_pairs_113 ?_
                  refine lv_iload hx hb dX1_pairs_116 (lv_at hl 0 rfl) ?_
                  refine ldM_colour (j := v) hx hb hK hP ev hv dX1_pairs_118 ?_
                  refine lv_if_ge (tgt := 142) hx hb dX1_pairs_119 (by decide) (fun cz12 => ?_) (fun cz12 => ?_)
                  · have hcc := Int32.not_lt.mpr cz12
                    refine lv_iinc (v := nI (k + 1)) (lv' := [(4, .int (nI (k + 1))), (5, .int (edM ta pl N k)), (0, .ref (q 0)), (1, .int ((paM (edM ta pl N) N (fiF (-1) co N) i).1)), (2, .int (nI i)), (3, .int (b2 ((psF (edM ta pl N) co1 k).2 = true)))]) hx hb dX1_pairs_142 hl (k := 5) rfl (nI_1 _) (by decide) rfl (fun ls hl => ?_)
                    refine lv_goto (tgt := 62) hx hb dX1_pairs_145 (by decide) ?_
                    exact ih_62 (k + 1) _ _ _ (by omega) ⟨by omega, by rw [psF_c ev hv hcc]; exact lv_sub hl [2, 3, 4, 5, 0] rfl, (by rw [psF_c ev hv hcc]; exact hP), vD_same (by rfl) hD, hS⟩
                  · have hcc := Int32.not_le.mp cz12
                    refine lv_aload_n hx hb dX1_pairs_122 rfl (lv_at hl 1 rfl) ?_
                    refine gM_colour hx hb hts hin hown hK hP L38 dX1_pairs_123 ?_
                    refine lv_iload hx hb dX1_pairs_126 (lv_at hl 0 rfl) ?_
                    refine lv_iconst (v := 1) hx hb dX1_pairs_128 (by decide) ?_
                    refine lv_aload_n hx hb dX1_pairs_129 rfl (lv_at hl 1 rfl) ?_
                    refine gM_colour hx hb hts hin hown hK hP L38 dX1_pairs_130 ?_
                    refine lv_iload hx hb dX1_pairs_133 (lv_at hl 5 rfl) ?_
                    refine lv_iconst (v := 2) hx hb dX1_pairs_135 (by decide) ?_
                    refine lv_idiv hx hb dX1_pairs_136 (by decide) ?_
                    refine tpI (y := nI (k / 2)) (pk_div (a := k) (d := 2) (by omega) (by omega) (by omega)) ?_
                    refine ldM_colour (j := (k / 2)) hx hb hK hP rfl (by omega) dX1_pairs_137 ?_
                    refine lv_isub hx hb dX1_pairs_138 ?_
                    refine stM_colour (j := v) hx hb hK hP hD hS ev hv dX1_pairs_139 (fun H locs hP hD hS => ?_)
                    refine lv_iconst (v := 1) hx hb dX1_pairs_140 (by decide) ?_
                    refine lv_istore_n (lv' := [(3, .int (1)), (5, .int (edM ta pl N k)), (0, .ref (q 0)), (1, .int ((paM (edM ta pl N) N (fiF (-1) co N) i).1)), (2, .int (nI i)), (4, .int (nI k))]) hx hb dX1_pairs_141 rfl hl (by decide) rfl (fun ls hl => ?_)
                    refine lv_iinc (v := nI (k + 1)) (lv' := [(4, .int (nI (k + 1))), (3, .int (1)), (5, .int (edM ta pl N k)), (0, .ref (q 0)), (1, .int ((paM (edM ta pl N) N (fiF (-1) co N) i).1)), (2, .int (nI i))]) hx hb dX1_pairs_142 hl (k := 5) rfl (nI_1 _) (by decide) rfl (fun ls hl => ?_)
                    refine lv_goto (tgt := 62) hx hb dX1_pairs_145 (by decide) ?_
                    exact ih_62 (k + 1) _ _ _ (by omega) ⟨by omega, by rw [psF_t ev hv hca hcb hcc]; exact lv_sub hl [3, 4, 5, 1, 0] rfl, (by rw [psF_t ev hv hca hcb hcc]; exact hP), vD_same (by rfl) hD, hS⟩
  · have cz1 : ¬ N ≤ i := fun h => cz1 ((nI_leI (a := N) (b := i) (by omega) (by omega)).mpr h)
    refine lv_aload_n hx hb dX1_pairs_10 rfl (lv_at hl 0 rfl) ?_
    refine gM_colour hx hb hts hin hown hK hP L38 dX1_pairs_11 ?_
    refine lv_iload_n hx hb dX1_pairs_14 rfl (lv_at hl 1 rfl) ?_
    refine lv_iconst (v := (-1)) hx hb dX1_pairs_15 (by decide) ?_
    refine stM_colour (j := i) hx hb hK hP hD hS rfl (by omega) dX1_pairs_16 (fun H locs hP hD hS => ?_)
    refine lv_iinc (v := nI (i + 1)) (lv' := [(1, .int (nI (i + 1))), (0, .ref (q 0))]) hx hb dX1_pairs_17 hl (k := 1) rfl (nI_1 _) (by decide) rfl (fun ls hl => ?_)
    refine lv_goto (tgt := 2) hx hb dX1_pairs_20 (by decide) ?_
    exact ih_2 (i + 1) _ _ _ (by omega) ⟨by omega, lv_sub hl [1, 0] rfl, hP, vD_same (by rfl) hD, hS⟩

