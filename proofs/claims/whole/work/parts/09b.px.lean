set_option maxHeartbeats 4000000 in
set_option maxRecDepth 100000 in
theorem kJ7_fill_53178 {l : Launch} {D : va_G} {cy : ClassId} {H : Heap} {q : Nat → Nat} {gT gC : Int32} {ak : Int64} {ta pl cp kd fa fb bm sx sy : Nat → Int32} {N K S : Nat}  (hP : va_P D vwCl (wX cy q (nI N) gT gC (nI K) (nI S) ak ta pl cp kd fa fb bm sx sy) H) (hD : va_D (aL q) (wX cy q (nI N) gT gC (nI K) (nI S) ak ta pl cp kd fa fb bm sx sy)) (z : Int32)  : Met l yJ7_fill_53178 wsJ7_fill_53178 { frames := 0, cells := 0, slots := 0, locals := 0 } (pcK D cy H [.ref (q 3), .int z]) (qI none (va_P D vwCl (wX cy q (nI N) gT gC (nI K) (nI S) ak ta pl (fiF z cp 12) kd fa fb bm sx sy)) (aL q)) 0 0 (aL q) := by
  refine mV 4 (by decide) rfl (Nat.le_of_ble_eq_true rfl) ?_
  intro p e s m below meth c hx hb hml hr hlk hts hown hnm hK hH ls hl
  have hC := (⟨hx, hb, hml, hown, hts⟩ : CallFix p m c cJ7_fill_53178 4 s _ wsJ7_fill_53178 RJ7)
  have hl : lv_has ls 4 [(0, .ref (q 3)), (1, .int (z))] := hl
  have hS : va_S (aL q) s.heap H [] := by rw [hH]; exact va_S.rf
  refine lv_iconst (v := 0) hx hb dJ7_fill_53178_0 (by decide) ?_
  refine lv_istore_n (lv' := [(2, .int (0)), (0, .ref (q 3)), (1, .int (z))]) hx hb dJ7_fill_53178_1 rfl hl (by decide) rfl (fun ls hl => ?_)
  refine lv_aload_n hx hb dJ7_fill_53178_2 rfl (lv_at hl 1 rfl) ?_
  refine va_alen (v := nI 12) hx hb hK hP 3 0 rfl rfl rfl dJ7_fill_53178_3 ?_
  refine lv_istore_n (lv' := [(3, .int (nI 12)), (2, .int (0)), (0, .ref (q 3)), (1, .int (z))]) hx hb dJ7_fill_53178_4 rfl hl (by decide) rfl (fun ls hl => ?_)
  refine lpW (σ := Nat) 5 (fun i ls H locs => (i ≤ 12) ∧ lv_has ls 4 [(0, .ref (q 3)), (1, .int (z)), (2, .int (nI i)), (3, .int (nI 12))] ∧ va_P D vwCl (wX cy q (nI N) gT gC (nI K) (nI S) ak ta pl (fiF z cp i) kd fa fb bm sx sy) H ∧ va_D (aL q) (wX cy q (nI N) gT gC (nI K) (nI S) ak ta pl (fiF z cp i) kd fa fb bm sx sy) ∧ va_S (aL q) s.heap H locs) (fun i => 12 - i) ?_ (0) ls ⟨Nat.zero_le _, lv_sub hl [2, 3, 1, 0] rfl, hP, hD, hS⟩
  intro i ls H locs hI ih_5
  obtain ⟨hi, hl, hP, hD, hS⟩ := hI
  refine lv_iload_n hx hb dJ7_fill_53178_5 rfl (lv_at hl 2 rfl) ?_
  refine lv_iload_n hx hb dJ7_fill_53178_6 rfl (lv_at hl 3 rfl) ?_
  refine lv_icmp_ge (tgt := 20) hx hb dJ7_fill_53178_7 (by decide) (fun cz1 => ?_) (fun cz1 => ?_)
  · have cz1 : 12 ≤ i := (nI_leI (a := 12) (b := i) (by omega) (by omega)).mp cz1
    have ei : 12 = i := by omega
    subst ei
    exact rVw hx hb hr hlk hS hP dJ7_fill_53178_20
  · have cz1 : ¬ 12 ≤ i := fun h => cz1 ((nI_leI (a := 12) (b := i) (by omega) (by omega)).mpr h)
    refine lv_aload_n hx hb dJ7_fill_53178_10 rfl (lv_at hl 0 rfl) ?_
    refine lv_iload_n hx hb dJ7_fill_53178_11 rfl (lv_at hl 2 rfl) ?_
    refine lv_iload_n hx hb dJ7_fill_53178_12 rfl (lv_at hl 1 rfl) ?_
    refine stX_colourByPairs (j := i) hx hb hK hP hD hS rfl (by omega) dJ7_fill_53178_13 (fun H locs hP hD hS => ?_)
    refine lv_iinc (v := nI (i + 1)) (lv' := [(2, .int (nI (i + 1))), (0, .ref (q 3)), (1, .int (z)), (3, .int (nI 12))]) hx hb dJ7_fill_53178_14 hl (k := 2) rfl (nI_1 _) (by decide) rfl (fun ls hl => ?_)
    refine lv_goto (tgt := 5) hx hb dJ7_fill_53178_17 (by decide) ?_
    exact ih_5 (i + 1) _ _ _ (by omega) ⟨by omega, lv_sub hl [1, 2, 0, 3] rfl, hP, vD_same (by rfl) hD, hS⟩

theorem hdX0_colourAlongPairs : yX0_colourAlongPairs.cls = RX0 ∧ yX0_colourAlongPairs.cls ≠ "java/lang/invoke/MethodHandle" ∧ yX0_colourAlongPairs.cls ≠ "java/lang/invoke/VarHandle" ∧ (parseMethodDescriptor yX0_colourAlongPairs.desc).map (fun d => d.parameters.length) = some 2 := by decide +kernel
set_option maxHeartbeats 4000000 in
set_option maxRecDepth 100000 in
theorem kX0_colourAlongPairs {l : Launch} {D : va_G} {cy : ClassId} {H : Heap} {q : Nat → Nat} {gT gC : Int32} {ak : Int64} {ta pl cp kd fa fb bm sx sy : Nat → Int32} {N K S : Nat}  (hP : va_P D vwCl (wX cy q (nI N) gT gC (nI K) (nI S) ak ta pl cp kd fa fb bm sx sy) H) (hD : va_D (aL q) (wX cy q (nI N) gT gC (nI K) (nI S) ak ta pl cp kd fa fb bm sx sy)) (t : Nat) (d : Bool) (hN : N ≤ 12) (ht : t < 12) (hta : rg ta) (hpx : rg pl) : Met l yX0_colourAlongPairs wsX0_colourAlongPairs { frames := 2, cells := 0, slots := 0, locals := 43 } (pcK D cy H [.ref (q 0), .int (nI t), .int (b2 (d = true))]) (qI none (va_P D vwCl (wX cy q (nI N) gT gC (nI K) (nI S) ak ta pl (wkF (enX ta pl N) N cp t d) kd fa fb bm sx sy)) (aL q)) 0 0 (aL q) := by
  refine mV 7 (by decide) rfl (Nat.le_of_ble_eq_true rfl) ?_
  intro p e s m below meth c hx hb hml hr hlk hts hown hnm hK hH ls hl
  have hC := (⟨hx, hb, hml, hown, hts⟩ : CallFix p m c cX0_colourAlongPairs 7 s _ wsX0_colourAlongPairs RX0)
  have hin : ∀ w ∈ wsX00, w ∈ wsX0_colourAlongPairs := by decide +kernel
  have L7 : Cond.fieldLink RX0 7 "TwoColours" "thingCount" "I" ∈ wsX0_colourAlongPairs := by decide +kernel
  have L26 : Cond.fieldLink RX0 26 "TwoColours" "colourByPairs" "[I" ∈ wsX0_colourAlongPairs := by decide +kernel
  have hl : lv_has ls 7 [(0, .ref (q 0)), (1, .int (nI t)), (2, .int (b2 (d = true)))] := hl
  have hS : va_S (aL q) s.heap H [] := by rw [hH]; exact va_S.rf
  refine lv_iload_n hx hb dX0_colourAlongPairs_0 rfl (lv_at hl 1 rfl) ?_
  refine lv_istore_n (lv' := [(3, .int (nI t)), (0, .ref (q 0)), (1, .int (nI t)), (2, .int (b2 (d = true)))]) hx hb dX0_colourAlongPairs_1 rfl hl (by decide) rfl (fun ls hl => ?_)
  refine lv_iload_n hx hb dX0_colourAlongPairs_2 rfl (lv_at hl 3 rfl) ?_
  refine lv_istore (lv' := [(4, .int (b2 (d = true))), (3, .int (nI t)), (0, .ref (q 0)), (1, .int (nI t)), (2, .int (b2 (d = true)))]) hx hb dX0_colourAlongPairs_3 hl (by decide) rfl (fun ls hl => ?_)
  refine lv_iconst (v := 0) hx hb dX0_colourAlongPairs_5 (by decide) ?_
  refine lv_istore (lv' := [(5, .int (0)), (4, .int (b2 (d = true))), (3, .int (nI t)), (0, .ref (q 0)), (1, .int (nI t)), (2, .int (b2 (d = true)))]) hx hb dX0_colourAlongPairs_6 hl (by decide) rfl (fun ls hl => ?_)
  refine lpW (σ := Nat × Nat × Bool × (Nat → Int32)) 8 (fun a ls H locs => ((a.1) ≤ N ∧ (a.2.1) < 12 ∧ wkF (enX ta pl N) (N - (a.1)) (a.2.2.2) (a.2.1) (a.2.2.1) = wkF (enX ta pl N) N cp t d) ∧ lv_has ls 7 [(0, .ref (q 0)), (3, .int (nI (a.2.1))), (4, .int (b2 ((a.2.2.1) = true))), (5, .int (nI (a.1)))] ∧ va_P D vwCl (wX cy q (nI N) gT gC (nI K) (nI S) ak ta pl (a.2.2.2) kd fa fb bm sx sy) H ∧ va_D (aL q) (wX cy q (nI N) gT gC (nI K) (nI S) ak ta pl (a.2.2.2) kd fa fb bm sx sy) ∧ va_S (aL q) s.heap H locs) (fun a => N - (a.1)) ?_ ((0, t, d, cp)) ls ⟨⟨Nat.zero_le _, ht, rfl⟩, lv_sub hl [3, 2, 1, 0] rfl, hP, hD, hS⟩
  intro a ls H locs hI ih_8
  obtain ⟨i1, t1, d1, cp1⟩ := a
  dsimp only at hI
  obtain ⟨⟨hi1, ht1, hres⟩, hl, hP, hD, hS⟩ := hI
  have hl : lv_has ls 7 [(0, .ref (q 0)), (3, .int (nI t1)), (4, .int (b2 (d1 = true))), (5, .int (nI i1))] := hl
  obtain ⟨u, hu, eu⟩ := hpx t1 ht1
  refine lv_iload hx hb dX0_colourAlongPairs_8 (lv_at hl 3 rfl) ?_
  refine lv_aload_n hx hb dX0_colourAlongPairs_10 rfl (lv_at hl 0 rfl) ?_
  refine gX_thingCount hx hb hts hin hown hK hP L7 dX0_colourAlongPairs_11 ?_
  refine lv_icmp_ge (tgt := 92) hx hb dX0_colourAlongPairs_14 (by decide) (fun cz1 => ?_) (fun cz1 => ?_)
  · have cz1 : N ≤ i1 := (nI_leI (a := N) (b := i1) (by omega) (by omega)).mp cz1
    have hre : wkF (enX ta pl N) (N - i1) cp1 t1 d1 = cp1 := by rw [show N - i1 = 0 by omega]; rfl
    exact rVw hx hb hr hlk hS (by rw [← hres, hre]; exact hP) dX0_colourAlongPairs_92
  · have cz1 : ¬ N ≤ i1 := fun h => cz1 ((nI_leI (a := N) (b := i1) (by omega) (by omega)).mpr h)
    refine lv_iload hx hb dX0_colourAlongPairs_17 (lv_at hl 2 rfl) ?_
    refine lv_if_eq (tgt := 30) hx hb dX0_colourAlongPairs_19 (by decide) (fun cz2 => ?_) (fun cz2 => ?_)
    · have cz2 := b2_0 cz2
      refine lv_aload_n hx hb dX0_colourAlongPairs_30 rfl (lv_at hl 0 rfl) ?_
      refine lv_iload_n hx hb dX0_colourAlongPairs_31 rfl (lv_at hl 1 rfl) ?_
      refine cV (As := [.int (nI t1)]) hC hK hP rfl rfl (kX0_partnerInSecondOrder hP t1 hN ht1 u hu eu) [] (cwV 1 hts gX0_colourAlongPairs_X0_partnerInSecondOrder rfl rfl rfl hdX0_partnerInSecondOrder ⟨Nat.le_of_ble_eq_true rfl, Nat.le_of_ble_eq_true rfl⟩) rfl hl.1 rfl (Nat.le_of_ble_eq_true rfl) dX0_colourAlongPairs_32 ⟨Nat.zero_le _, Nat.zero_le _⟩ ?_
      refine tpI (y := enX ta pl N d1 t1) (by rw [enX, if_neg cz2, eu, ix_nI (by omega)]) ?_
      refine lv_istore (lv' := [(6, .int (enX ta pl N d1 t1)), (0, .ref (q 0)), (3, .int (nI t1)), (4, .int (b2 (d1 = true))), (5, .int (nI i1))]) hx hb dX0_colourAlongPairs_35 hl (by decide) rfl (fun ls hl => ?_)
      refine lv_iload hx hb dX0_colourAlongPairs_37 (lv_at hl 0 rfl) ?_
      refine lv_bipush (v := (-9)) hx hb dX0_colourAlongPairs_39 (by decide) ?_
      refine lv_icmp_eq (tgt := 55) hx hb dX0_colourAlongPairs_41 (by decide) (fun cz3 => ?_) (fun cz3 => ?_)
      · have hre := wkF_9 (en := (enX ta pl N)) (f := N - i1) (cp := cp1) cz3
        exact rVw hx hb hr hlk hS (by rw [← hres, hre]; exact hP) dX0_colourAlongPairs_55
      · have hne := cz3
        obtain ⟨v, hv, ev⟩ := enX_lt hta hpx ht1 cz3
        refine lv_aload_n hx hb dX0_colourAlongPairs_44 rfl (lv_at hl 1 rfl) ?_
        refine gX_colourByPairs hx hb hts hin hown hK hP L26 dX0_colourAlongPairs_45 ?_
        refine lv_iload hx hb dX0_colourAlongPairs_48 (lv_at hl 0 rfl) ?_
        refine ldX_colourByPairs (j := v) hx hb hK hP ev hv dX0_colourAlongPairs_50 ?_
        refine lv_iconst (v := (-1)) hx hb dX0_colourAlongPairs_51 (by decide) ?_
        refine lv_icmp_eq (tgt := 56) hx hb dX0_colourAlongPairs_52 (by decide) (fun cz4 => ?_) (fun cz4 => ?_)
        · have hcv := cz4
          refine lv_aload_n hx hb dX0_colourAlongPairs_56 rfl (lv_at hl 1 rfl) ?_
          refine gX_colourByPairs hx hb hts hin hown hK hP L26 dX0_colourAlongPairs_57 ?_
          refine lv_iload hx hb dX0_colourAlongPairs_60 (lv_at hl 0 rfl) ?_
          refine lv_iconst (v := 1) hx hb dX0_colourAlongPairs_62 (by decide) ?_
          refine lv_aload_n hx hb dX0_colourAlongPairs_63 rfl (lv_at hl 1 rfl) ?_
          refine gX_colourByPairs hx hb hts hin hown hK hP L26 dX0_colourAlongPairs_64 ?_
          refine lv_iload_n hx hb dX0_colourAlongPairs_67 rfl (lv_at hl 2 rfl) ?_
          refine ldX_colourByPairs (j := t1) hx hb hK hP rfl (by omega) dX0_colourAlongPairs_68 ?_
          refine lv_isub hx hb dX0_colourAlongPairs_69 ?_
          refine stX_colourByPairs (j := v) hx hb hK hP hD hS ev hv dX0_colourAlongPairs_70 (fun H locs hP hD hS => ?_)
          refine lv_iload hx hb dX0_colourAlongPairs_71 (lv_at hl 0 rfl) ?_
          refine tpI (y := nI v) ev ?_
          refine lv_istore_n (lv' := [(3, .int (nI v)), (6, .int (enX ta pl N d1 t1)), (0, .ref (q 0)), (4, .int (b2 (d1 = true))), (5, .int (nI i1))]) hx hb dX0_colourAlongPairs_73 rfl hl (by decide) rfl (fun ls hl => ?_)
          refine lv_iload hx hb dX0_colourAlongPairs_74 (lv_at hl 3 rfl) ?_
          refine lv_if_ne (tgt := 83) hx hb dX0_colourAlongPairs_76 (by decide) (fun h => absurd (b2_1 h) cz2) (fun _ => ?_)
          refine lv_iconst (v := 1) hx hb dX0_colourAlongPairs_79 (by decide) ?_
          refine lv_goto (tgt := 84) hx hb dX0_colourAlongPairs_80 (by decide) ?_
          refine tpI (y := b2 ((!d1) = true)) (by rw [Bool.eq_false_iff.mpr cz2]; rfl) ?_
          refine lv_istore (lv' := [(4, .int (b2 ((!d1) = true))), (3, .int (nI v)), (6, .int (enX ta pl N d1 t1)), (0, .ref (q 0)), (5, .int (nI i1))]) hx hb dX0_colourAlongPairs_84 hl (by decide) rfl (fun ls hl => ?_)
          refine lv_iinc (v := nI (i1 + 1)) (lv' := [(5, .int (nI (i1 + 1))), (4, .int (b2 ((!d1) = true))), (3, .int (nI v)), (6, .int (enX ta pl N d1 t1)), (0, .ref (q 0))]) hx hb dX0_colourAlongPairs_86 hl (k := 4) rfl (nI_1 _) (by decide) rfl (fun ls hl => ?_)
          refine lv_goto (tgt := 8) hx hb dX0_colourAlongPairs_89 (by decide) ?_
          exact ih_8 ((i1 + 1, v, !d1, upd cp1 v (1 - cp1 t1))) _ _ _ (by show N - (i1 + 1) < N - i1; omega) ⟨⟨by show i1 + 1 ≤ N; omega, hv, by show wkF (enX ta pl N) (N - (i1 + 1)) (upd cp1 v (1 - cp1 t1)) v (!d1) = _; rw [← hres, wkF_g (by omega) hne ev hv hcv, show N - i1 - 1 = N - (i1 + 1) by omega]⟩, lv_sub hl [4, 2, 1, 0] rfl, hP, vD_same (by rfl) hD, hS⟩
        · have hre := wkF_c (en := (enX ta pl N)) (f := N - i1) hne ev hv cz4
          exact rVw hx hb hr hlk hS (by rw [← hres, hre]; exact hP) dX0_colourAlongPairs_55
    · have cz2 := b2_1 cz2
      refine lv_aload_n hx hb dX0_colourAlongPairs_22 rfl (lv_at hl 0 rfl) ?_
      refine lv_iload_n hx hb dX0_colourAlongPairs_23 rfl (lv_at hl 1 rfl) ?_
      refine cV (As := [.int (nI t1)]) hC hK hP rfl rfl (kX0_partnerInFirstOrder hP t1 (by omega) (by omega)) [] (cwV 1 hts gX0_colourAlongPairs_X0_partnerInFirstOrder rfl rfl rfl hdX0_partnerInFirstOrder ⟨Nat.le_of_ble_eq_true rfl, Nat.le_of_ble_eq_true rfl⟩) rfl hl.1 rfl (Nat.le_of_ble_eq_true rfl) dX0_colourAlongPairs_24 ⟨Nat.zero_le _, Nat.zero_le _⟩ ?_
      refine lv_goto (tgt := 35) hx hb dX0_colourAlongPairs_27 (by decide) ?_
      refine tpI (y := enX ta pl N d1 t1) (by rw [enX, if_pos cz2]) ?_
      refine lv_istore (lv' := [(6, .int (enX ta pl N d1 t1)), (0, .ref (q 0)), (3, .int (nI t1)), (4, .int (b2 (d1 = true))), (5, .int (nI i1))]) hx hb dX0_colourAlongPairs_35 hl (by decide) rfl (fun ls hl => ?_)
      refine lv_iload hx hb dX0_colourAlongPairs_37 (lv_at hl 0 rfl) ?_
      refine lv_bipush (v := (-9)) hx hb dX0_colourAlongPairs_39 (by decide) ?_
      refine lv_icmp_eq (tgt := 55) hx hb dX0_colourAlongPairs_41 (by decide) (fun cz6 => ?_) (fun cz6 => ?_)
      · have hre := wkF_9 (en := (enX ta pl N)) (f := N - i1) (cp := cp1) cz6
        exact rVw hx hb hr hlk hS (by rw [← hres, hre]; exact hP) dX0_colourAlongPairs_55
      · have hne := cz6
        obtain ⟨v, hv, ev⟩ := enX_lt hta hpx ht1 cz6
        refine lv_aload_n hx hb dX0_colourAlongPairs_44 rfl (lv_at hl 1 rfl) ?_
        refine gX_colourByPairs hx hb hts hin hown hK hP L26 dX0_colourAlongPairs_45 ?_
        refine lv_iload hx hb dX0_colourAlongPairs_48 (lv_at hl 0 rfl) ?_
        refine ldX_colourByPairs (j := v) hx hb hK hP ev hv dX0_colourAlongPairs_50 ?_
        refine lv_iconst (v := (-1)) hx hb dX0_colourAlongPairs_51 (by decide) ?_
        refine lv_icmp_eq (tgt := 56) hx hb dX0_colourAlongPairs_52 (by decide) (fun cz7 => ?_) (fun cz7 => ?_)
        · have hcv := cz7
          refine lv_aload_n hx hb dX0_colourAlongPairs_56 rfl (lv_at hl 1 rfl) ?_
          refine gX_colourByPairs hx hb hts hin hown hK hP L26 dX0_colourAlongPairs_57 ?_
          refine lv_iload hx hb dX0_colourAlongPairs_60 (lv_at hl 0 rfl) ?_
          refine lv_iconst (v := 1) hx hb dX0_colourAlongPairs_62 (by decide) ?_
          refine lv_aload_n hx hb dX0_colourAlongPairs_63 rfl (lv_at hl 1 rfl) ?_
          refine gX_colourByPairs hx hb hts hin hown hK hP L26 dX0_colourAlongPairs_64 ?_
          refine lv_iload_n hx hb dX0_colourAlongPairs_67 rfl (lv_at hl 2 rfl) ?_
          refine ldX_colourByPairs (j := t1) hx hb hK hP rfl (by omega) dX0_colourAlongPairs_68 ?_
          refine lv_isub hx hb dX0_colourAlongPairs_69 ?_
          refine stX_colourByPairs (j := v) hx hb hK hP hD hS ev hv dX0_colourAlongPairs_70 (fun H locs hP hD hS => ?_)
          refine lv_iload hx hb dX0_colourAlongPairs_71 (lv_at hl 0 rfl) ?_
          refine tpI (y := nI v) ev ?_
          refine lv_istore_n (lv' := [(3, .int (nI v)), (6, .int (enX ta pl N d1 t1)), (0, .ref (q 0)), (4, .int (b2 (d1 = true))), (5, .int (nI i1))]) hx hb dX0_colourAlongPairs_73 rfl hl (by decide) rfl (fun ls hl => ?_)
          refine lv_iload hx hb dX0_colourAlongPairs_74 (lv_at hl 3 rfl) ?_
          refine lv_if_ne (tgt := 83) hx hb dX0_colourAlongPairs_76 (by decide) (fun _ => ?_) (fun h => absurd h (fun z => absurd cz2 (b2_0 z)))
          refine lv_iconst (v := 0) hx hb dX0_colourAlongPairs_83 (by decide) ?_
          refine tpI (y := b2 ((!d1) = true)) (by rw [cz2]; rfl) ?_
          refine lv_istore (lv' := [(4, .int (b2 ((!d1) = true))), (3, .int (nI v)), (6, .int (enX ta pl N d1 t1)), (0, .ref (q 0)), (5, .int (nI i1))]) hx hb dX0_colourAlongPairs_84 hl (by decide) rfl (fun ls hl => ?_)
          refine lv_iinc (v := nI (i1 + 1)) (lv' := [(5, .int (nI (i1 + 1))), (4, .int (b2 ((!d1) = true))), (3, .int (nI v)), (6, .int (enX ta pl N d1 t1)), (0, .ref (q 0))]) hx hb dX0_colourAlongPairs_86 hl (k := 4) rfl (nI_1 _) (by decide) rfl (fun ls hl => ?_)
          refine lv_goto (tgt := 8) hx hb dX0_colourAlongPairs_89 (by decide) ?_
          exact ih_8 ((i1 + 1, v, !d1, upd cp1 v (1 - cp1 t1))) _ _ _ (by show N - (i1 + 1) < N - i1; omega) ⟨⟨by show i1 + 1 ≤ N; omega, hv, by show wkF (enX ta pl N) (N - (i1 + 1)) (upd cp1 v (1 - cp1 t1)) v (!d1) = _; rw [← hres, wkF_g (by omega) hne ev hv hcv, show N - i1 - 1 = N - (i1 + 1) by omega]⟩, lv_sub hl [4, 2, 1, 0] rfl, hP, vD_same (by rfl) hD, hS⟩
        · have hre := wkF_c (en := (enX ta pl N)) (f := N - i1) hne ev hv cz7
          exact rVw hx hb hr hlk hS (by rw [← hres, hre]; exact hP) dX0_colourAlongPairs_55

theorem hdX0_pairs : yX0_pairs.cls = RX0 ∧ yX0_pairs.cls ≠ "java/lang/invoke/MethodHandle" ∧ yX0_pairs.cls ≠ "java/lang/invoke/VarHandle" ∧ (parseMethodDescriptor yX0_pairs.desc).map (fun d => d.parameters.length) = some 0 := by decide +kernel
set_option maxHeartbeats 4000000 in
set_option maxRecDepth 100000 in
theorem kX0_pairs {l : Launch} {D : va_G} {cy : ClassId} {H : Heap} {q : Nat → Nat} {gT gC : Int32} {ak : Int64} {ta pl cp kd fa fb bm sx sy : Nat → Int32} {N K S : Nat}  (hP : va_P D vwCl (wX cy q (nI N) gT gC (nI K) (nI S) ak ta pl cp kd fa fb bm sx sy) H) (hD : va_D (aL q) (wX cy q (nI N) gT gC (nI K) (nI S) ak ta pl cp kd fa fb bm sx sy))  (hN : N ≤ 12) (hta : rg ta) (hpx : rg pl) : Met l yX0_pairs wsX0_pairs { frames := 3, cells := 0, slots := 0, locals := 69 } (pcK D cy H [.ref (q 0)]) (qI (some (.int ((paF (enX ta pl N) N (fiF (-1) cp 12) N).1))) (va_P D vwCl (wX cy q (nI N) gT gC (nI K) (nI S) ak ta pl ((paF (enX ta pl N) N (fiF (-1) cp 12) N).2) kd fa fb bm sx sy)) (aL q)) 0 0 (aL q) := by
  refine mV 3 (by decide) rfl (Nat.le_of_ble_eq_true rfl) ?_
  intro p e s m below meth c hx hb hml hr hlk hts hown hnm hK hH ls hl
  have hC := (⟨hx, hb, hml, hown, hts⟩ : CallFix p m c cX0_pairs 3 s _ wsX0_pairs RX0)
  have hin : ∀ w ∈ wsX00, w ∈ wsX0_pairs := by decide +kernel
  have L7 : Cond.fieldLink RX0 7 "TwoColours" "thingCount" "I" ∈ wsX0_pairs := by decide +kernel
  have L26 : Cond.fieldLink RX0 26 "TwoColours" "colourByPairs" "[I" ∈ wsX0_pairs := by decide +kernel
  have hl : lv_has ls 3 [(0, .ref (q 0))] := hl
  have hS : va_S (aL q) s.heap H [] := by rw [hH]; exact va_S.rf
  refine lv_aload_n hx hb dX0_pairs_0 rfl (lv_at hl 0 rfl) ?_
  refine gX_colourByPairs hx hb hts hin hown hK hP L26 dX0_pairs_1 ?_
  refine lv_iconst (v := (-1)) hx hb dX0_pairs_4 (by decide) ?_
  refine cSw (As := [.ref (q 3), .int (-1)]) hC hK (kJ7_fill_53178 hP hD ((-1))) [] (va_cwS 2 hts gX0_pairs_J7_fill_53178 rfl rfl rfl (by decide +kernel) ⟨Nat.le_of_ble_eq_true rfl, Nat.le_of_ble_eq_true rfl⟩) rfl hl.1 rfl (Nat.le_of_ble_eq_true rfl) dX0_pairs_5 ⟨Nat.zero_le _, Nat.zero_le _⟩ hS (fun _ h => h) (fun H locs hP hz hkp hS => ?_)
  have hD := vD_same (w2 := wX cy q (nI N) gT gC (nI K) (nI S) ak ta pl (fiF ((-1)) cp 12) kd fa fb bm sx sy) (by rfl) hD
  refine lv_iconst (v := 0) hx hb dX0_pairs_8 (by decide) ?_
  refine lv_istore_n (lv' := [(1, .int (0)), (0, .ref (q 0))]) hx hb dX0_pairs_9 rfl hl (by decide) rfl (fun ls hl => ?_)
  refine lv_iconst (v := 0) hx hb dX0_pairs_10 (by decide) ?_
  refine lv_istore_n (lv' := [(2, .int (0)), (1, .int (0)), (0, .ref (q 0))]) hx hb dX0_pairs_11 rfl hl (by decide) rfl (fun ls hl => ?_)
  refine lpW (σ := Nat) 12 (fun i ls H locs => (i ≤ N) ∧ lv_has ls 3 [(0, .ref (q 0)), (1, .int ((paF (enX ta pl N) N (fiF (-1) cp 12) i).1)), (2, .int (nI i))] ∧ va_P D vwCl (wX cy q (nI N) gT gC (nI K) (nI S) ak ta pl (paF (enX ta pl N) N (fiF (-1) cp 12) i).2 kd fa fb bm sx sy) H ∧ va_D (aL q) (wX cy q (nI N) gT gC (nI K) (nI S) ak ta pl (paF (enX ta pl N) N (fiF (-1) cp 12) i).2 kd fa fb bm sx sy) ∧ va_S (aL q) s.heap H locs) (fun i => N - i) ?_ (0) ls ⟨Nat.zero_le _, lv_sub hl [2, 1, 0] rfl, hP, hD, hS⟩
  intro i ls H locs hI ih_12
  obtain ⟨hi, hl, hP, hD, hS⟩ := hI
  refine lv_iload_n hx hb dX0_pairs_12 rfl (lv_at hl 2 rfl) ?_
  refine lv_aload_n hx hb dX0_pairs_13 rfl (lv_at hl 0 rfl) ?_
  refine gX_thingCount hx hb hts hin hown hK hP L7 dX0_pairs_14 ?_
  refine lv_icmp_ge (tgt := 66) hx hb dX0_pairs_17 (by decide) (fun cz1 => ?_) (fun cz1 => ?_)
  · have cz1 : N ≤ i := (nI_leI (a := N) (b := i) (by omega) (by omega)).mp cz1
    have ei : N = i := by omega
    subst ei
    refine lv_iload_n hx hb dX0_pairs_66 rfl (lv_at hl 1 rfl) ?_
    exact rIw hx hb hr hlk hS hP dX0_pairs_67 rfl
  · have cz1 : ¬ N ≤ i := fun h => cz1 ((nI_leI (a := N) (b := i) (by omega) (by omega)).mpr h)
    refine lv_aload_n hx hb dX0_pairs_20 rfl (lv_at hl 0 rfl) ?_
    refine gX_colourByPairs hx hb hts hin hown hK hP L26 dX0_pairs_21 ?_
    refine lv_iload_n hx hb dX0_pairs_24 rfl (lv_at hl 2 rfl) ?_
    refine ldX_colourByPairs (j := i) hx hb hK hP rfl (by omega) dX0_pairs_25 ?_
    refine lv_iconst (v := (-1)) hx hb dX0_pairs_26 (by decide) ?_
    refine lv_icmp_ne (tgt := 49) hx hb dX0_pairs_27 (by decide) (fun cz2 => ?_) (fun cz2 => ?_)
    · refine lv_iload_n hx hb dX0_pairs_49 rfl (lv_at hl 1 rfl) ?_
      refine lv_aload_n hx hb dX0_pairs_50 rfl (lv_at hl 0 rfl) ?_
      refine gX_colourByPairs hx hb hts hin hown hK hP L26 dX0_pairs_51 ?_
      refine lv_iload_n hx hb dX0_pairs_54 rfl (lv_at hl 2 rfl) ?_
      refine ldX_colourByPairs (j := i) hx hb hK hP rfl (by omega) dX0_pairs_55 ?_
      refine lv_iload_n hx hb dX0_pairs_56 rfl (lv_at hl 2 rfl) ?_
      refine lv_ishl hx hb dX0_pairs_57 ?_
      refine lv_ior hx hb dX0_pairs_58 ?_
      refine lv_istore_n (lv' := [(1, .int (((paF (enX ta pl N) N (fiF (-1) cp 12) i).1) ||| (((paF (enX ta pl N) N (fiF (-1) cp 12) i).2 i) <<< ((nI i) &&& 31)))), (0, .ref (q 0)), (2, .int (nI i))]) hx hb dX0_pairs_59 rfl hl (by decide) rfl (fun ls hl => ?_)
      refine lv_iinc (v := nI (i + 1)) (lv' := [(2, .int (nI (i + 1))), (1, .int (((paF (enX ta pl N) N (fiF (-1) cp 12) i).1) ||| (((paF (enX ta pl N) N (fiF (-1) cp 12) i).2 i) <<< ((nI i) &&& 31)))), (0, .ref (q 0))]) hx hb dX0_pairs_60 hl (k := 2) rfl (nI_1 _) (by decide) rfl (fun ls hl => ?_)
      refine lv_goto (tgt := 12) hx hb dX0_pairs_63 (by decide) ?_
      exact ih_12 (i + 1) _ _ _ (by omega) ⟨by omega, by rw [paF_f cz2]; exact lv_sub hl [2, 1, 0] rfl, (by rw [paF_f cz2]; exact hP), vD_same (by rfl) hD, hS⟩
    · refine lv_aload_n hx hb dX0_pairs_30 rfl (lv_at hl 0 rfl) ?_
      refine gX_colourByPairs hx hb hts hin hown hK hP L26 dX0_pairs_31 ?_
      refine lv_iload_n hx hb dX0_pairs_34 rfl (lv_at hl 2 rfl) ?_
      refine lv_iconst (v := 0) hx hb dX0_pairs_35 (by decide) ?_
      refine stX_colourByPairs (j := i) hx hb hK hP hD hS rfl (by omega) dX0_pairs_36 (fun H locs hP hD hS => ?_)
      refine lv_aload_n hx hb dX0_pairs_37 rfl (lv_at hl 0 rfl) ?_
      refine lv_iload_n hx hb dX0_pairs_38 rfl (lv_at hl 2 rfl) ?_
      refine lv_iconst (v := 1) hx hb dX0_pairs_39 (by decide) ?_
      refine cVw (As := [.int (nI i), .int (1)]) hC hK hP rfl rfl (kX0_colourAlongPairs hP hD i true hN (by omega) hta hpx) [] (cwV 2 hts gX0_pairs_X0_colourAlongPairs rfl rfl rfl hdX0_colourAlongPairs ⟨Nat.le_of_ble_eq_true rfl, Nat.le_of_ble_eq_true rfl⟩) rfl hl.1 rfl (Nat.le_of_ble_eq_true rfl) dX0_pairs_40 ⟨Nat.zero_le _, Nat.zero_le _⟩ hS (fun _ h => h) (fun H locs hP hz hkp hS => ?_)
      have hD := vD_same (w2 := wX cy q (nI N) gT gC (nI K) (nI S) ak ta pl (wkF (enX ta pl N) N (upd (paF (enX ta pl N) N (fiF (-1) cp 12) i).2 i 0) i true) kd fa fb bm sx sy) (by rfl) hD
      refine lv_aload_n hx hb dX0_pairs_43 rfl (lv_at hl 0 rfl) ?_
      refine lv_iload_n hx hb dX0_pairs_44 rfl (lv_at hl 2 rfl) ?_
      refine lv_iconst (v := 0) hx hb dX0_pairs_45 (by decide) ?_
      refine cVw (As := [.int (nI i), .int (0)]) hC hK hP rfl rfl (kX0_colourAlongPairs hP hD i false hN (by omega) hta hpx) [] (cwV 2 hts gX0_pairs_X0_colourAlongPairs rfl rfl rfl hdX0_colourAlongPairs ⟨Nat.le_of_ble_eq_true rfl, Nat.le_of_ble_eq_true rfl⟩) rfl hl.1 rfl (Nat.le_of_ble_eq_true rfl) dX0_pairs_46 ⟨Nat.zero_le _, Nat.zero_le _⟩ hS (fun _ h => h) (fun H locs hP hz hkp hS => ?_)
      have hD := vD_same (w2 := wX cy q (nI N) gT gC (nI K) (nI S) ak ta pl (wkF (enX ta pl N) N (wkF (enX ta pl N) N (upd (paF (enX ta pl N) N (fiF (-1) cp 12) i).2 i 0) i true) i false) kd fa fb bm sx sy) (by rfl) hD
      refine lv_iload_n hx hb dX0_pairs_49 rfl (lv_at hl 1 rfl) ?_
      refine lv_aload_n hx hb dX0_pairs_50 rfl (lv_at hl 0 rfl) ?_
      refine gX_colourByPairs hx hb hts hin hown hK hP L26 dX0_pairs_51 ?_
      refine lv_iload_n hx hb dX0_pairs_54 rfl (lv_at hl 2 rfl) ?_
      refine ldX_colourByPairs (j := i) hx hb hK hP rfl (by omega) dX0_pairs_55 ?_
      refine lv_iload_n hx hb dX0_pairs_56 rfl (lv_at hl 2 rfl) ?_
      refine lv_ishl hx hb dX0_pairs_57 ?_
      refine lv_ior hx hb dX0_pairs_58 ?_
      refine lv_istore_n (lv' := [(1, .int (((paF (enX ta pl N) N (fiF (-1) cp 12) i).1) ||| (((wkF (enX ta pl N) N (wkF (enX ta pl N) N (upd (paF (enX ta pl N) N (fiF (-1) cp 12) i).2 i 0) i true) i false) i) <<< ((nI i) &&& 31)))), (0, .ref (q 0)), (2, .int (nI i))]) hx hb dX0_pairs_59 rfl hl (by decide) rfl (fun ls hl => ?_)
      refine lv_iinc (v := nI (i + 1)) (lv' := [(2, .int (nI (i + 1))), (1, .int (((paF (enX ta pl N) N (fiF (-1) cp 12) i).1) ||| (((wkF (enX ta pl N) N (wkF (enX ta pl N) N (upd (paF (enX ta pl N) N (fiF (-1) cp 12) i).2 i 0) i true) i false) i) <<< ((nI i) &&& 31)))), (0, .ref (q 0))]) hx hb dX0_pairs_60 hl (k := 2) rfl (nI_1 _) (by decide) rfl (fun ls hl => ?_)
      refine lv_goto (tgt := 12) hx hb dX0_pairs_63 (by decide) ?_
      exact ih_12 (i + 1) _ _ _ (by omega) ⟨by omega, by rw [paF_t cz2]; exact lv_sub hl [2, 1, 0] rfl, (by rw [paF_t cz2]; exact hP), vD_same (by rfl) hD, hS⟩

