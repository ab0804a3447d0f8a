theorem hdX0_off : yX0_off.cls = RX0 ∧ yX0_off.cls ≠ "java/lang/invoke/MethodHandle" ∧ yX0_off.cls ≠ "java/lang/invoke/VarHandle" ∧ (parseMethodDescriptor yX0_off.desc).map (fun d => d.parameters.length) = some 2 := by decide +kernel
set_option maxHeartbeats 4000000 in
set_option maxRecDepth 100000 in
theorem kX0_off {l : Launch} {D : va_G} {cy : ClassId} {H : Heap} {q : Nat → Nat} {gT gC : Int32} {ak : Int64} {ta pl cp kd fa fb bm sx sy : Nat → Int32} {N K S : Nat}  (hP : va_P D vwCl (wX cy q (nI N) gT gC (nI K) (nI S) ak ta pl cp kd fa fb bm sx sy) H) (k : Int32) (h : Int32) (hN : N ≤ 12) (hKn : K ≤ 10) : Met l yX0_off wsX0_off { frames := 3, cells := 0, slots := 0, locals := 63 } (pcK D cy H [.ref (q 0), .int k, .int h]) (QcRead (if (0 ≤ k ∧ k < nI (2 ^ N)) ∧ (0 ≤ h ∧ h < nI K) then absI (leanI (bm (ix h)) k) else -1)) 0 0 (fun _ => False) := by
  refine mV 3 (by decide) rfl (Nat.le_of_ble_eq_true rfl) ?_
  intro p e s m below meth c hx hb hml hr hlk hts hown hnm hK hH ls hl
  have hC := (⟨hx, hb, hml, hown, hts⟩ : CallFix p m c cX0_off 3 s _ wsX0_off RX0)
  have hl : lv_has ls 3 [(0, .ref (q 0)), (1, .int (k)), (2, .int (h))] := hl
  refine lv_aload_n hx hb dX0_off_0 rfl (lv_at hl 0 rfl) ?_
  refine lv_iload_n hx hb dX0_off_1 rfl (lv_at hl 1 rfl) ?_
  refine cV (As := [.int (k)]) hC hK hP rfl rfl (kX0_isColouring hP k (by omega)) [] (cwV 1 hts gX0_off_X0_isColouring rfl rfl rfl hdX0_isColouring ⟨Nat.le_of_ble_eq_true rfl, Nat.le_of_ble_eq_true rfl⟩) rfl hl.1 rfl (Nat.le_of_ble_eq_true rfl) dX0_off_2 ⟨Nat.zero_le _, Nat.zero_le _⟩ ?_
  refine lv_if_eq (tgt := 25) hx hb dX0_off_5 (by decide) (fun cz1 => ?_) (fun cz1 => ?_)
  · have cz1 := b2_0 cz1
    refine lv_iconst (v := (-1)) hx hb dX0_off_25 (by decide) ?_
    exact rI hx hb hr hlk hH dX0_off_26 (by rw [if_neg (fun h => cz1 h.1)])
  · have cz1 := b2_1 cz1
    refine lv_aload_n hx hb dX0_off_8 rfl (lv_at hl 0 rfl) ?_
    refine lv_iload_n hx hb dX0_off_9 rfl (lv_at hl 2 rfl) ?_
    refine cV (As := [.int (h)]) hC hK hP rfl rfl (kX0_isHeap hP h ) [] (cwV 1 hts gX0_off_X0_isHeap rfl rfl rfl hdX0_isHeap ⟨Nat.le_of_ble_eq_true rfl, Nat.le_of_ble_eq_true rfl⟩) rfl hl.1 rfl (Nat.le_of_ble_eq_true rfl) dX0_off_10 ⟨Nat.zero_le _, Nat.zero_le _⟩ ?_
    refine lv_if_eq (tgt := 25) hx hb dX0_off_13 (by decide) (fun cz2 => ?_) (fun cz2 => ?_)
    · have cz2 := b2_0 cz2
      refine lv_iconst (v := (-1)) hx hb dX0_off_25 (by decide) ?_
      exact rI hx hb hr hlk hH dX0_off_26 (by rw [if_neg (fun h => cz2 h.2)])
    · have cz2 := b2_1 cz2
      obtain ⟨j, hj, ej⟩ := inN cz2 (by omega)
      subst ej
      refine lv_aload_n hx hb dX0_off_16 rfl (lv_at hl 0 rfl) ?_
      refine lv_iload_n hx hb dX0_off_17 rfl (lv_at hl 1 rfl) ?_
      refine lv_iload_n hx hb dX0_off_18 rfl (lv_at hl 2 rfl) ?_
      refine cV (As := [.int (k), .int (nI j)]) hC hK hP rfl rfl (kX0_offOf hP k j (by omega)) [] (cwV 2 hts gX0_off_X0_offOf rfl rfl rfl hdX0_offOf ⟨Nat.le_of_ble_eq_true rfl, Nat.le_of_ble_eq_true rfl⟩) rfl hl.1 rfl (Nat.le_of_ble_eq_true rfl) dX0_off_19 ⟨Nat.zero_le _, Nat.zero_le _⟩ ?_
      refine lv_goto (tgt := 26) hx hb dX0_off_22 (by decide) ?_
      exact rI hx hb hr hlk hH dX0_off_26 (by rw [if_pos ⟨cz1, cz2⟩, ix_nI (by omega)])

theorem hdX0_worst : yX0_worst.cls = RX0 ∧ yX0_worst.cls ≠ "java/lang/invoke/MethodHandle" ∧ yX0_worst.cls ≠ "java/lang/invoke/VarHandle" ∧ (parseMethodDescriptor yX0_worst.desc).map (fun d => d.parameters.length) = some 1 := by decide +kernel
set_option maxHeartbeats 4000000 in
set_option maxRecDepth 100000 in
theorem kX0_worst {l : Launch} {D : va_G} {cy : ClassId} {H : Heap} {q : Nat → Nat} {gT gC : Int32} {ak : Int64} {ta pl cp kd fa fb bm sx sy : Nat → Int32} {N K S : Nat}  (hP : va_P D vwCl (wX cy q (nI N) gT gC (nI K) (nI S) ak ta pl cp kd fa fb bm sx sy) H) (k : Int32) (hN : N ≤ 12) (hKn : K ≤ 10) : Met l yX0_worst wsX0_worst { frames := 4, cells := 0, slots := 0, locals := 86 } (pcK D cy H [.ref (q 0), .int k]) (QcRead (if 0 ≤ k ∧ k < nI (2 ^ N) then woF bm k K else -1)) 0 0 (fun _ => False) := by
  refine mV 2 (by decide) rfl (Nat.le_of_ble_eq_true rfl) ?_
  intro p e s m below meth c hx hb hml hr hlk hts hown hnm hK hH ls hl
  have hC := (⟨hx, hb, hml, hown, hts⟩ : CallFix p m c cX0_worst 2 s _ wsX0_worst RX0)
  have hl : lv_has ls 2 [(0, .ref (q 0)), (1, .int (k))] := hl
  refine lv_aload_n hx hb dX0_worst_0 rfl (lv_at hl 0 rfl) ?_
  refine lv_iload_n hx hb dX0_worst_1 rfl (lv_at hl 1 rfl) ?_
  refine cV (As := [.int (k)]) hC hK hP rfl rfl (kX0_isColouring hP k (by omega)) [] (cwV 1 hts gX0_worst_X0_isColouring rfl rfl rfl hdX0_isColouring ⟨Nat.le_of_ble_eq_true rfl, Nat.le_of_ble_eq_true rfl⟩) rfl hl.1 rfl (Nat.le_of_ble_eq_true rfl) dX0_worst_2 ⟨Nat.zero_le _, Nat.zero_le _⟩ ?_
  refine lv_if_eq (tgt := 16) hx hb dX0_worst_5 (by decide) (fun cz1 => ?_) (fun cz1 => ?_)
  · have cz1 := b2_0 cz1
    refine lv_iconst (v := (-1)) hx hb dX0_worst_16 (by decide) ?_
    exact rI hx hb hr hlk hH dX0_worst_17 (by rw [if_neg (by assumption)])
  · have cz1 := b2_1 cz1
    refine lv_aload_n hx hb dX0_worst_8 rfl (lv_at hl 0 rfl) ?_
    refine lv_iload_n hx hb dX0_worst_9 rfl (lv_at hl 1 rfl) ?_
    refine cV (As := [.int (k)]) hC hK hP rfl rfl (kX0_worstOf hP k (by omega)) [] (cwV 1 hts gX0_worst_X0_worstOf rfl rfl rfl hdX0_worstOf ⟨Nat.le_of_ble_eq_true rfl, Nat.le_of_ble_eq_true rfl⟩) rfl hl.1 rfl (Nat.le_of_ble_eq_true rfl) dX0_worst_10 ⟨Nat.zero_le _, Nat.zero_le _⟩ ?_
    refine lv_goto (tgt := 17) hx hb dX0_worst_13 (by decide) ?_
    exact rI hx hb hr hlk hH dX0_worst_17 (by rw [if_pos (by assumption)])

theorem hdX0_squares : yX0_squares.cls = RX0 ∧ yX0_squares.cls ≠ "java/lang/invoke/MethodHandle" ∧ yX0_squares.cls ≠ "java/lang/invoke/VarHandle" ∧ (parseMethodDescriptor yX0_squares.desc).map (fun d => d.parameters.length) = some 1 := by decide +kernel
set_option maxHeartbeats 4000000 in
set_option maxRecDepth 100000 in
theorem kX0_squares {l : Launch} {D : va_G} {cy : ClassId} {H : Heap} {q : Nat → Nat} {gT gC : Int32} {ak : Int64} {ta pl cp kd fa fb bm sx sy : Nat → Int32} {N K S : Nat}  (hP : va_P D vwCl (wX cy q (nI N) gT gC (nI K) (nI S) ak ta pl cp kd fa fb bm sx sy) H) (k : Int32) (hN : N ≤ 12) (hKn : K ≤ 10) : Met l yX0_squares wsX0_squares { frames := 4, cells := 0, slots := 0, locals := 87 } (pcK D cy H [.ref (q 0), .int k]) (QcRead (if 0 ≤ k ∧ k < nI (2 ^ N) then sqF bm k K else -1)) 0 0 (fun _ => False) := by
  refine mV 2 (by decide) rfl (Nat.le_of_ble_eq_true rfl) ?_
  intro p e s m below meth c hx hb hml hr hlk hts hown hnm hK hH ls hl
  have hC := (⟨hx, hb, hml, hown, hts⟩ : CallFix p m c cX0_squares 2 s _ wsX0_squares RX0)
  have hl : lv_has ls 2 [(0, .ref (q 0)), (1, .int (k))] := hl
  refine lv_aload_n hx hb dX0_squares_0 rfl (lv_at hl 0 rfl) ?_
  refine lv_iload_n hx hb dX0_squares_1 rfl (lv_at hl 1 rfl) ?_
  refine cV (As := [.int (k)]) hC hK hP rfl rfl (kX0_isColouring hP k (by omega)) [] (cwV 1 hts gX0_squares_X0_isColouring rfl rfl rfl hdX0_isColouring ⟨Nat.le_of_ble_eq_true rfl, Nat.le_of_ble_eq_true rfl⟩) rfl hl.1 rfl (Nat.le_of_ble_eq_true rfl) dX0_squares_2 ⟨Nat.zero_le _, Nat.zero_le _⟩ ?_
  refine lv_if_eq (tgt := 16) hx hb dX0_squares_5 (by decide) (fun cz1 => ?_) (fun cz1 => ?_)
  · have cz1 := b2_0 cz1
    refine lv_iconst (v := (-1)) hx hb dX0_squares_16 (by decide) ?_
    exact rI hx hb hr hlk hH dX0_squares_17 (by rw [if_neg (by assumption)])
  · have cz1 := b2_1 cz1
    refine lv_aload_n hx hb dX0_squares_8 rfl (lv_at hl 0 rfl) ?_
    refine lv_iload_n hx hb dX0_squares_9 rfl (lv_at hl 1 rfl) ?_
    refine cV (As := [.int (k)]) hC hK hP rfl rfl (kX0_squaresOf hP k (by omega)) [] (cwV 1 hts gX0_squares_X0_squaresOf rfl rfl rfl hdX0_squaresOf ⟨Nat.le_of_ble_eq_true rfl, Nat.le_of_ble_eq_true rfl⟩) rfl hl.1 rfl (Nat.le_of_ble_eq_true rfl) dX0_squares_10 ⟨Nat.zero_le _, Nat.zero_le _⟩ ?_
    refine lv_goto (tgt := 17) hx hb dX0_squares_13 (by decide) ?_
    exact rI hx hb hr hlk hH dX0_squares_17 (by rw [if_pos (by assumption)])

theorem hdX0_times : yX0_times.cls = RX0 ∧ yX0_times.cls ≠ "java/lang/invoke/MethodHandle" ∧ yX0_times.cls ≠ "java/lang/invoke/VarHandle" ∧ (parseMethodDescriptor yX0_times.desc).map (fun d => d.parameters.length) = some 0 := by decide +kernel
set_option maxHeartbeats 4000000 in
set_option maxRecDepth 100000 in
theorem kX0_times {l : Launch} {D : va_G} {cy : ClassId} {H : Heap} {q : Nat → Nat} {gT gC : Int32} {ak : Int64} {ta pl cp kd fa fb bm sx sy : Nat → Int32} {N K S : Nat}  (hP : va_P D vwCl (wX cy q (nI N) gT gC (nI K) (nI S) ak ta pl cp kd fa fb bm sx sy) H)  (hN : N ≤ 12) (hKn : K ≤ 10) : Met l yX0_times wsX0_times { frames := 1, cells := 0, slots := 0, locals := 21 } (pcK D cy H [.ref (q 0)]) (QcRead (tiF bm K N)) 0 0 (fun _ => False) := by
  refine mV 5 (by decide) rfl (Nat.le_of_ble_eq_true rfl) ?_
  intro p e s m below meth c hx hb hml hr hlk hts hown hnm hK hH ls hl
  have hC := (⟨hx, hb, hml, hown, hts⟩ : CallFix p m c cX0_times 5 s _ wsX0_times RX0)
  have hin : ∀ w ∈ wsX00, w ∈ wsX0_times := by decide +kernel
  have L7 : Cond.fieldLink RX0 7 "TwoColours" "thingCount" "I" ∈ wsX0_times := by decide +kernel
  have L29 : Cond.fieldLink RX0 29 "TwoColours" "heapCount" "I" ∈ wsX0_times := by decide +kernel
  have L41 : Cond.fieldLink RX0 41 "TwoColours" "heapBits" "[I" ∈ wsX0_times := by decide +kernel
  have hl : lv_has ls 5 [(0, .ref (q 0))] := hl
  refine lv_iconst (v := 0) hx hb dX0_times_0 (by decide) ?_
  refine lv_istore_n (lv' := [(1, .int (0)), (0, .ref (q 0))]) hx hb dX0_times_1 rfl hl (by decide) rfl (fun ls hl => ?_)
  refine lv_iconst (v := 0) hx hb dX0_times_2 (by decide) ?_
  refine lv_istore_n (lv' := [(2, .int (0)), (1, .int (0)), (0, .ref (q 0))]) hx hb dX0_times_3 rfl hl (by decide) rfl (fun ls hl => ?_)
  refine lpP 4 (fun i ls => lv_has ls 5 [(0, .ref (q 0)), (1, .int (tiF bm K i)), (2, .int (nI i))]) (N) ?_ (0) ls (by omega) (lv_sub hl [2, 1, 0] rfl)
  intro i ls hi hl ih_4
  refine lv_iload_n hx hb dX0_times_4 rfl (lv_at hl 2 rfl) ?_
  refine lv_aload_n hx hb dX0_times_5 rfl (lv_at hl 0 rfl) ?_
  refine gX_thingCount hx hb hts hin hown hK hP L7 dX0_times_6 ?_
  refine lv_icmp_ge (tgt := 58) hx hb dX0_times_9 (by decide) (fun cz1 => ?_) (fun cz1 => ?_)
  · have cz1 : N ≤ i := (nI_leI (a := N) (b := i) (by omega) (by omega)).mp cz1
    refine lv_iload_n hx hb dX0_times_58 rfl (lv_at hl 1 rfl) ?_
    exact rI hx hb hr hlk hH dX0_times_59 (by rw [show i = N by omega])
  · have cz1 : ¬ N ≤ i := fun h => cz1 ((nI_leI (a := N) (b := i) (by omega) (by omega)).mpr h)
    refine lv_iconst (v := 0) hx hb dX0_times_12 (by decide) ?_
    refine lv_istore_n (lv' := [(3, .int (0)), (0, .ref (q 0)), (1, .int (tiF bm K i)), (2, .int (nI i))]) hx hb dX0_times_13 rfl hl (by decide) rfl (fun ls hl => ?_)
    refine lv_iconst (v := 0) hx hb dX0_times_14 (by decide) ?_
    refine lv_istore (lv' := [(4, .int (0)), (3, .int (0)), (0, .ref (q 0)), (1, .int (tiF bm K i)), (2, .int (nI i))]) hx hb dX0_times_15 hl (by decide) rfl (fun ls hl => ?_)
    refine lpP 17 (fun j ls => lv_has ls 5 [(0, .ref (q 0)), (1, .int (tiF bm K i)), (2, .int (nI i)), (3, .int (tmF bm (nI i) j)), (4, .int (nI j))]) (K) ?_ (0) ls (by omega) (lv_sub hl [2, 3, 4, 1, 0] rfl)
    intro j ls hj hl ih_17
    refine lv_iload hx hb dX0_times_17 (lv_at hl 4 rfl) ?_
    refine lv_aload_n hx hb dX0_times_19 rfl (lv_at hl 0 rfl) ?_
    refine gX_heapCount hx hb hts hin hown hK hP L29 dX0_times_20 ?_
    refine lv_icmp_ge (tgt := 46) hx hb dX0_times_23 (by decide) (fun cz2 => ?_) (fun cz2 => ?_)
    · have cz2 : K ≤ j := (nI_leI (a := K) (b := j) (by omega) (by omega)).mp cz2
      have ej : K = j := by omega
      subst ej
      refine lv_iload_n hx hb dX0_times_46 rfl (lv_at hl 1 rfl) ?_
      refine lv_iload_n hx hb dX0_times_47 rfl (lv_at hl 3 rfl) ?_
      refine va_mmax hx hb (hml.trans hl.1.symm) hown (hts (.methodLink RX0 109 Lib.Math.max.name) (by decide +kernel)) (hts (.static Lib.Math.max.name) (by decide +kernel)) (hts (.initialized "java/lang/Math") (by decide +kernel)) (hts (.code Lib.Math.max.name Lib.Math.max.code 2 (some .int)) (by decide +kernel)) (Nat.le_of_ble_eq_true rfl) (Nat.le_of_ble_eq_true rfl) (Nat.zero_le _) (Nat.zero_le _) dX0_times_48 ?_
      refine lv_istore_n (lv' := [(1, .int (maxI (tiF bm K i) (tmF bm (nI i) K))), (0, .ref (q 0)), (2, .int (nI i)), (3, .int (tmF bm (nI i) K)), (4, .int (nI K))]) hx hb dX0_times_51 rfl hl (by decide) rfl (fun ls hl => ?_)
      refine lv_iinc (v := nI (i + 1)) (lv' := [(2, .int (nI (i + 1))), (1, .int (maxI (tiF bm K i) (tmF bm (nI i) K))), (0, .ref (q 0)), (3, .int (tmF bm (nI i) K)), (4, .int (nI K))]) hx hb dX0_times_52 hl (k := 2) rfl (nI_1 _) (by decide) rfl (fun ls hl => ?_)
      refine lv_goto (tgt := 4) hx hb dX0_times_55 (by decide) ?_
      exact ih_4 _ (by omega) (lv_sub hl [2, 1, 0] rfl)
    · have cz2 : ¬ K ≤ j := fun h => cz2 ((nI_leI (a := K) (b := j) (by omega) (by omega)).mpr h)
      refine lv_iload_n hx hb dX0_times_26 rfl (lv_at hl 3 rfl) ?_
      refine lv_aload_n hx hb dX0_times_27 rfl (lv_at hl 0 rfl) ?_
      refine gX_heapBits hx hb hts hin hown hK hP L41 dX0_times_28 ?_
      refine lv_iload hx hb dX0_times_31 (lv_at hl 4 rfl) ?_
      refine ldX_heapBits (j := j) hx hb hK hP rfl (by omega) dX0_times_33 ?_
      refine lv_iload_n hx hb dX0_times_34 rfl (lv_at hl 2 rfl) ?_
      refine cS (As := [.int (bm j), .int (nI i)]) hC (kX0_bitOf (bm j) (nI i) ) [.int (tmF bm (nI i) j)] (va_cwS 2 hts gX0_times_X0_bitOf rfl rfl rfl (by decide +kernel) ⟨Nat.le_of_ble_eq_true rfl, Nat.le_of_ble_eq_true rfl⟩) rfl hl.1 rfl (Nat.le_of_ble_eq_true rfl) dX0_times_35 ⟨Nat.zero_le _, Nat.zero_le _⟩ ?_
      refine lv_iadd hx hb dX0_times_38 ?_
      refine lv_istore_n (lv' := [(3, .int ((tmF bm (nI i) j) + (bitI (bm j) (nI i)))), (0, .ref (q 0)), (1, .int (tiF bm K i)), (2, .int (nI i)), (4, .int (nI j))]) hx hb dX0_times_39 rfl hl (by decide) rfl (fun ls hl => ?_)
      refine lv_iinc (v := nI (j + 1)) (lv' := [(4, .int (nI (j + 1))), (3, .int ((tmF bm (nI i) j) + (bitI (bm j) (nI i)))), (0, .ref (q 0)), (1, .int (tiF bm K i)), (2, .int (nI i))]) hx hb dX0_times_40 hl (k := 4) rfl (nI_1 _) (by decide) rfl (fun ls hl => ?_)
      refine lv_goto (tgt := 17) hx hb dX0_times_43 (by decide) ?_
      exact ih_17 _ (by omega) (lv_sub hl [2, 3, 4, 1, 0] rfl)

theorem hdX0_firstLeast : yX0_firstLeast.cls = RX0 ∧ yX0_firstLeast.cls ≠ "java/lang/invoke/MethodHandle" ∧ yX0_firstLeast.cls ≠ "java/lang/invoke/VarHandle" ∧ (parseMethodDescriptor yX0_firstLeast.desc).map (fun d => d.parameters.length) = some 0 := by decide +kernel
set_option maxHeartbeats 4000000 in
set_option maxRecDepth 100000 in
theorem kX0_firstLeast {l : Launch} {D : va_G} {cy : ClassId} {H : Heap} {q : Nat → Nat} {gT : Int32} {ak : Int64} {ta pl cp kd fa fb bm sx sy : Nat → Int32} {N K S : Nat} {C : Nat} (hP : va_P D vwCl (wX cy q (nI N) gT (nI C) (nI K) (nI S) ak ta pl cp kd fa fb bm sx sy) H)  (hN : N ≤ 12) (hKn : K ≤ 10) (hCn : C < 2 ^ N) : Met l yX0_firstLeast wsX0_firstLeast { frames := 4, cells := 0, slots := 0, locals := 86 } (pcK D cy H [.ref (q 0)]) (QcRead (nI (flX bm K gT C N))) 0 0 (fun _ => False) := by
  refine mV 5 (by decide) rfl (Nat.le_of_ble_eq_true rfl) ?_
  intro p e s m below meth c hx hb hml hr hlk hts hown hnm hK hH ls hl
  have hC := (⟨hx, hb, hml, hown, hts⟩ : CallFix p m c cX0_firstLeast 5 s _ wsX0_firstLeast RX0)
  have hin : ∀ w ∈ wsX00, w ∈ wsX0_firstLeast := by decide +kernel
  have L23 : Cond.fieldLink RX0 23 "TwoColours" "heldColours" "I" ∈ wsX0_firstLeast := by decide +kernel
  have hl : lv_has ls 5 [(0, .ref (q 0))] := hl
  have h2N := p2_le hN
  have h2P := p2_pos N
  refine lv_aload_n hx hb dX0_firstLeast_0 rfl (lv_at hl 0 rfl) ?_
  refine gX_heldColours hx hb hts hin hown hK hP L23 dX0_firstLeast_1 ?_
  refine lv_istore_n (lv' := [(1, .int (nI C)), (0, .ref (q 0))]) hx hb dX0_firstLeast_4 rfl hl (by decide) rfl (fun ls hl => ?_)
  refine lv_aload_n hx hb dX0_firstLeast_5 rfl (lv_at hl 1 rfl) ?_
  refine lv_iload_n hx hb dX0_firstLeast_6 rfl (lv_at hl 0 rfl) ?_
  refine cV (As := [.int (nI C)]) hC hK hP rfl rfl (kX0_worstOf hP (nI C) (by omega)) [] (cwV 1 hts gX0_firstLeast_X0_worstOf rfl rfl rfl hdX0_worstOf ⟨Nat.le_of_ble_eq_true rfl, Nat.le_of_ble_eq_true rfl⟩) rfl hl.1 rfl (Nat.le_of_ble_eq_true rfl) dX0_firstLeast_7 ⟨Nat.zero_le _, Nat.zero_le _⟩ ?_
  refine lv_istore_n (lv' := [(2, .int (woF bm (nI C) K)), (1, .int (nI C)), (0, .ref (q 0))]) hx hb dX0_firstLeast_10 rfl hl (by decide) rfl (fun ls hl => ?_)
  refine lv_iload_n hx hb dX0_firstLeast_11 rfl (lv_at hl 1 rfl) ?_
  refine lv_iconst (v := 1) hx hb dX0_firstLeast_12 (by decide) ?_
  refine lv_iadd hx hb dX0_firstLeast_13 ?_
  refine tpI (y := nI (C + 1)) (nI_1 C) ?_
  refine lv_istore_n (lv' := [(3, .int (nI (C + 1))), (2, .int (woF bm (nI C) K)), (1, .int (nI C)), (0, .ref (q 0))]) hx hb dX0_firstLeast_14 rfl hl (by decide) rfl (fun ls hl => ?_)
  refine lpP 15 (fun i ls => lv_has ls 5 [(0, .ref (q 0)), (1, .int (nI (amF (fun n => woF bm (nI n) K) (okX gT (nI C)) C i))), (2, .int (woF bm (nI (amF (fun n => woF bm (nI n) K) (okX gT (nI C)) C i)) K)), (3, .int (nI (C + 1 + i)))]) (2 ^ N - (C + 1)) ?_ (0) ls (by omega) (lv_sub hl [3, 2, 1, 0] rfl)
  intro i ls hi hl ih_15
  refine lv_iload_n hx hb dX0_firstLeast_15 rfl (lv_at hl 3 rfl) ?_
  refine lv_aload_n hx hb dX0_firstLeast_16 rfl (lv_at hl 0 rfl) ?_
  refine cV (As := []) hC hK hP rfl rfl (kX0_colouringCount hP  (by omega)) [.int (nI (C + 1 + i))] (cwV 0 hts gX0_firstLeast_X0_colouringCount rfl rfl rfl hdX0_colouringCount ⟨Nat.le_of_ble_eq_true rfl, Nat.le_of_ble_eq_true rfl⟩) rfl hl.1 rfl (Nat.le_of_ble_eq_true rfl) dX0_firstLeast_17 ⟨Nat.zero_le _, Nat.zero_le _⟩ ?_
  refine lv_icmp_ge (tgt := 55) hx hb dX0_firstLeast_20 (by decide) (fun cz1 => ?_) (fun cz1 => ?_)
  · have cz1 : (2 ^ N) ≤ (C + 1 + i) := (nI_leI (a := (2 ^ N)) (b := (C + 1 + i)) (by omega) (by omega)).mp cz1
    refine lv_iload_n hx hb dX0_firstLeast_55 rfl (lv_at hl 1 rfl) ?_
    exact rI hx hb hr hlk hH dX0_firstLeast_56 (by rw [show i = 2 ^ N - (C + 1) by omega]; rfl)
  · have cz1 : ¬ (2 ^ N) ≤ (C + 1 + i) := fun h => cz1 ((nI_leI (a := (2 ^ N)) (b := (C + 1 + i)) (by omega) (by omega)).mpr h)
    refine lv_aload_n hx hb dX0_firstLeast_23 rfl (lv_at hl 0 rfl) ?_
    refine lv_iload_n hx hb dX0_firstLeast_24 rfl (lv_at hl 3 rfl) ?_
    refine cV (As := [.int (nI (C + 1 + i))]) hC hK hP rfl rfl (kX0_keepsToHeld hP (nI (C + 1 + i)) ) [] (cwV 1 hts gX0_firstLeast_X0_keepsToHeld rfl rfl rfl hdX0_keepsToHeld ⟨Nat.le_of_ble_eq_true rfl, Nat.le_of_ble_eq_true rfl⟩) rfl hl.1 rfl (Nat.le_of_ble_eq_true rfl) dX0_firstLeast_25 ⟨Nat.zero_le _, Nat.zero_le _⟩ ?_
    refine lv_if_eq (tgt := 49) hx hb dX0_firstLeast_28 (by decide) (fun cz2 => ?_) (fun cz2 => ?_)
    · have cz2 := b2_0 cz2
      refine lv_iinc (v := nI ((C + 1 + i) + 1)) (lv' := [(3, .int (nI ((C + 1 + i) + 1))), (0, .ref (q 0)), (1, .int (nI (amF (fun n => woF bm (nI n) K) (okX gT (nI C)) C i))), (2, .int (woF bm (nI (amF (fun n => woF bm (nI n) K) (okX gT (nI C)) C i)) K))]) hx hb dX0_firstLeast_49 hl (k := 3) rfl (nI_1 _) (by decide) rfl (fun ls hl => ?_)
      refine lv_goto (tgt := 15) hx hb dX0_firstLeast_52 (by decide) ?_
      exact ih_15 _ (by omega) (by rw [amF_n (w := (fun n => woF bm (nI n) K)) (ok := (okX gT (nI C))) (fun h => cz2 (of_decide_eq_true h))]; exact lv_sub hl [1, 2, 3, 0] rfl)
    · have cz2 := b2_1 cz2
      refine lv_aload_n hx hb dX0_firstLeast_31 rfl (lv_at hl 0 rfl) ?_
      refine lv_iload_n hx hb dX0_firstLeast_32 rfl (lv_at hl 3 rfl) ?_
      refine cV (As := [.int (nI (C + 1 + i))]) hC hK hP rfl rfl (kX0_worstOf hP (nI (C + 1 + i)) (by omega)) [] (cwV 1 hts gX0_firstLeast_X0_worstOf rfl rfl rfl hdX0_worstOf ⟨Nat.le_of_ble_eq_true rfl, Nat.le_of_ble_eq_true rfl⟩) rfl hl.1 rfl (Nat.le_of_ble_eq_true rfl) dX0_firstLeast_33 ⟨Nat.zero_le _, Nat.zero_le _⟩ ?_
      refine lv_istore (lv' := [(4, .int (woF bm (nI (C + 1 + i)) K)), (0, .ref (q 0)), (1, .int (nI (amF (fun n => woF bm (nI n) K) (okX gT (nI C)) C i))), (2, .int (woF bm (nI (amF (fun n => woF bm (nI n) K) (okX gT (nI C)) C i)) K)), (3, .int (nI (C + 1 + i)))]) hx hb dX0_firstLeast_36 hl (by decide) rfl (fun ls hl => ?_)
      refine lv_iload hx hb dX0_firstLeast_38 (lv_at hl 0 rfl) ?_
      refine lv_iload_n hx hb dX0_firstLeast_40 rfl (lv_at hl 3 rfl) ?_
      refine lv_icmp_ge (tgt := 49) hx hb dX0_firstLeast_41 (by decide) (fun cz3 => ?_) (fun cz3 => ?_)
      · refine lv_iinc (v := nI ((C + 1 + i) + 1)) (lv' := [(3, .int (nI ((C + 1 + i) + 1))), (4, .int (woF bm (nI (C + 1 + i)) K)), (0, .ref (q 0)), (1, .int (nI (amF (fun n => woF bm (nI n) K) (okX gT (nI C)) C i))), (2, .int (woF bm (nI (amF (fun n => woF bm (nI n) K) (okX gT (nI C)) C i)) K))]) hx hb dX0_firstLeast_49 hl (k := 4) rfl (nI_1 _) (by decide) rfl (fun ls hl => ?_)
        refine lv_goto (tgt := 15) hx hb dX0_firstLeast_52 (by decide) ?_
        exact ih_15 _ (by omega) (by rw [amF_f (w := (fun n => woF bm (nI n) K)) (ok := (okX gT (nI C))) (Int32.not_lt.mpr cz3)]; exact lv_sub hl [2, 3, 4, 0] rfl)
      · refine lv_iload hx hb dX0_firstLeast_44 (lv_at hl 0 rfl) ?_
        refine lv_istore_n (lv' := [(2, .int (woF bm (nI (C + 1 + i)) K)), (4, .int (woF bm (nI (C + 1 + i)) K)), (0, .ref (q 0)), (1, .int (nI (amF (fun n => woF bm (nI n) K) (okX gT (nI C)) C i))), (3, .int (nI (C + 1 + i)))]) hx hb dX0_firstLeast_46 rfl hl (by decide) rfl (fun ls hl => ?_)
        refine lv_iload_n hx hb dX0_firstLeast_47 rfl (lv_at hl 4 rfl) ?_
        refine lv_istore_n (lv' := [(1, .int (nI (C + 1 + i))), (2, .int (woF bm (nI (C + 1 + i)) K)), (4, .int (woF bm (nI (C + 1 + i)) K)), (0, .ref (q 0)), (3, .int (nI (C + 1 + i)))]) hx hb dX0_firstLeast_48 rfl hl (by decide) rfl (fun ls hl => ?_)
        refine lv_iinc (v := nI ((C + 1 + i) + 1)) (lv' := [(3, .int (nI ((C + 1 + i) + 1))), (1, .int (nI (C + 1 + i))), (2, .int (woF bm (nI (C + 1 + i)) K)), (4, .int (woF bm (nI (C + 1 + i)) K)), (0, .ref (q 0))]) hx hb dX0_firstLeast_49 hl (k := 4) rfl (nI_1 _) (by decide) rfl (fun ls hl => ?_)
        refine lv_goto (tgt := 15) hx hb dX0_firstLeast_52 (by decide) ?_
        exact ih_15 _ (by omega) (by rw [amF_t (w := (fun n => woF bm (nI n) K)) (ok := (okX gT (nI C))) (decide_eq_true cz2) (Int32.not_le.mp cz3)]; exact lv_sub hl [4, 1, 2, 0] rfl)

theorem hdX0_least : yX0_least.cls = RX0 ∧ yX0_least.cls ≠ "java/lang/invoke/MethodHandle" ∧ yX0_least.cls ≠ "java/lang/invoke/VarHandle" ∧ (parseMethodDescriptor yX0_least.desc).map (fun d => d.parameters.length) = some 0 := by decide +kernel
set_option maxHeartbeats 4000000 in
set_option maxRecDepth 100000 in
theorem kX0_least {l : Launch} {D : va_G} {cy : ClassId} {H : Heap} {q : Nat → Nat} {gT : Int32} {ak : Int64} {ta pl cp kd fa fb bm sx sy : Nat → Int32} {N K S : Nat} {C : Nat} (hP : va_P D vwCl (wX cy q (nI N) gT (nI C) (nI K) (nI S) ak ta pl cp kd fa fb bm sx sy) H)  (hN : N ≤ 12) (hKn : K ≤ 10) (hCn : C < 2 ^ N) : Met l yX0_least wsX0_least { frames := 5, cells := 0, slots := 0, locals := 110 } (pcK D cy H [.ref (q 0)]) (QcRead (woF bm (nI (flX bm K gT C N)) K)) 0 0 (fun _ => False) := by
  refine mV 1 (by decide) rfl (Nat.le_of_ble_eq_true rfl) ?_
  intro p e s m below meth c hx hb hml hr hlk hts hown hnm hK hH ls hl
  have hC := (⟨hx, hb, hml, hown, hts⟩ : CallFix p m c cX0_least 1 s _ wsX0_least RX0)
  have hl : lv_has ls 1 [(0, .ref (q 0))] := hl
  have h2N := p2_le hN
  have h2P := p2_pos N
  refine lv_aload_n hx hb dX0_least_0 rfl (lv_at hl 0 rfl) ?_
  refine lv_aload_n hx hb dX0_least_1 rfl (lv_at hl 0 rfl) ?_
  refine cV (As := []) hC hK hP rfl rfl (kX0_firstLeast hP  (by omega) (by omega) (by omega)) [.ref (q 0)] (cwV 0 hts gX0_least_X0_firstLeast rfl rfl rfl hdX0_firstLeast ⟨Nat.le_of_ble_eq_true rfl, Nat.le_of_ble_eq_true rfl⟩) rfl hl.1 rfl (Nat.le_of_ble_eq_true rfl) dX0_least_2 ⟨Nat.zero_le _, Nat.zero_le _⟩ ?_
  refine cV (As := [.int (nI (flX bm K gT C N))]) hC hK hP rfl rfl (kX0_worstOf hP (nI (flX bm K gT C N)) (by omega)) [] (cwV 1 hts gX0_least_X0_worstOf rfl rfl rfl hdX0_worstOf ⟨Nat.le_of_ble_eq_true rfl, Nat.le_of_ble_eq_true rfl⟩) rfl hl.1 rfl (Nat.le_of_ble_eq_true rfl) dX0_least_5 ⟨Nat.zero_le _, Nat.zero_le _⟩ ?_
  exact rI hx hb hr hlk hH dX0_least_8 rfl

theorem hdX0_first : yX0_first.cls = RX0 ∧ yX0_first.cls ≠ "java/lang/invoke/MethodHandle" ∧ yX0_first.cls ≠ "java/lang/invoke/VarHandle" ∧ (parseMethodDescriptor yX0_first.desc).map (fun d => d.parameters.length) = some 0 := by decide +kernel
set_option maxHeartbeats 4000000 in
set_option maxRecDepth 100000 in
theorem kX0_first {l : Launch} {D : va_G} {cy : ClassId} {H : Heap} {q : Nat → Nat} {gT : Int32} {ak : Int64} {ta pl cp kd fa fb bm sx sy : Nat → Int32} {N K S : Nat} {C : Nat} (hP : va_P D vwCl (wX cy q (nI N) gT (nI C) (nI K) (nI S) ak ta pl cp kd fa fb bm sx sy) H)  (hN : N ≤ 12) (hKn : K ≤ 10) (hCn : C < 2 ^ N) : Met l yX0_first wsX0_first { frames := 5, cells := 0, slots := 0, locals := 110 } (pcK D cy H [.ref (q 0)]) (QcRead (nI (flX bm K gT C N))) 0 0 (fun _ => False) := by
  refine mV 1 (by decide) rfl (Nat.le_of_ble_eq_true rfl) ?_
  intro p e s m below meth c hx hb hml hr hlk hts hown hnm hK hH ls hl
  have hC := (⟨hx, hb, hml, hown, hts⟩ : CallFix p m c cX0_first 1 s _ wsX0_first RX0)
  have hl : lv_has ls 1 [(0, .ref (q 0))] := hl
  have h2N := p2_le hN
  have h2P := p2_pos N
  refine lv_aload_n hx hb dX0_first_0 rfl (lv_at hl 0 rfl) ?_
  refine cV (As := []) hC hK hP rfl rfl (kX0_firstLeast hP  (by omega) (by omega) (by omega)) [] (cwV 0 hts gX0_first_X0_firstLeast rfl rfl rfl hdX0_firstLeast ⟨Nat.le_of_ble_eq_true rfl, Nat.le_of_ble_eq_true rfl⟩) rfl hl.1 rfl (Nat.le_of_ble_eq_true rfl) dX0_first_1 ⟨Nat.zero_le _, Nat.zero_le _⟩ ?_
  exact rI hx hb hr hlk hH dX0_first_4 rfl

theorem hdX0_many : yX0_many.cls = RX0 ∧ yX0_many.cls ≠ "java/lang/invoke/MethodHandle" ∧ yX0_many.cls ≠ "java/lang/invoke/VarHandle" ∧ (parseMethodDescriptor yX0_many.desc).map (fun d => d.parameters.length) = some 0 := by decide +kernel
set_option maxHeartbeats 4000000 in
set_option maxRecDepth 100000 in
theorem kX0_many {l : Launch} {D : va_G} {cy : ClassId} {H : Heap} {q : Nat → Nat} {gT : Int32} {ak : Int64} {ta pl cp kd fa fb bm sx sy : Nat → Int32} {N K S : Nat} {C : Nat} (hP : va_P D vwCl (wX cy q (nI N) gT (nI C) (nI K) (nI S) ak ta pl cp kd fa fb bm sx sy) H)  (hN : N ≤ 12) (hKn : K ≤ 10) (hCn : C < 2 ^ N) : Met l yX0_many wsX0_many { frames := 5, cells := 0, slots := 0, locals := 110 } (pcK D cy H [.ref (q 0)]) (QcRead (nI (cnF (maX bm K gT (nI C) (woF bm (nI (flX bm K gT C N)) K)) (flX bm K gT C N) (2 ^ N - flX bm K gT C N)))) 0 0 (fun _ => False) := by
  refine mV 5 (by decide) rfl (Nat.le_of_ble_eq_true rfl) ?_
  intro p e s m below meth c hx hb hml hr hlk hts hown hnm hK hH ls hl
  have hC := (⟨hx, hb, hml, hown, hts⟩ : CallFix p m c cX0_many 5 s _ wsX0_many RX0)
  have hl : lv_has ls 5 [(0, .ref (q 0))] := hl
  have h2N := p2_le hN
  have h2P := p2_pos N
  have hfl := flX_lt (bm := bm) (K := K) (gT := gT) hCn
  refine lv_aload_n hx hb dX0_many_0 rfl (lv_at hl 0 rfl) ?_
  refine cV (As := []) hC hK hP rfl rfl (kX0_firstLeast hP  (by omega) (by omega) (by omega)) [] (cwV 0 hts gX0_many_X0_firstLeast rfl rfl rfl hdX0_firstLeast ⟨Nat.le_of_ble_eq_true rfl, Nat.le_of_ble_eq_true rfl⟩) rfl hl.1 rfl (Nat.le_of_ble_eq_true rfl) dX0_many_1 ⟨Nat.zero_le _, Nat.zero_le _⟩ ?_
  refine lv_istore_n (lv' := [(1, .int (nI (flX bm K gT C N))), (0, .ref (q 0))]) hx hb dX0_many_4 rfl hl (by decide) rfl (fun ls hl => ?_)
  refine lv_aload_n hx hb dX0_many_5 rfl (lv_at hl 1 rfl) ?_
  refine lv_iload_n hx hb dX0_many_6 rfl (lv_at hl 0 rfl) ?_
  refine cV (As := [.int (nI (flX bm K gT C N))]) hC hK hP rfl rfl (kX0_worstOf hP (nI (flX bm K gT C N)) (by omega)) [] (cwV 1 hts gX0_many_X0_worstOf rfl rfl rfl hdX0_worstOf ⟨Nat.le_of_ble_eq_true rfl, Nat.le_of_ble_eq_true rfl⟩) rfl hl.1 rfl (Nat.le_of_ble_eq_true rfl) dX0_many_7 ⟨Nat.zero_le _, Nat.zero_le _⟩ ?_
  refine lv_istore_n (lv' := [(2, .int (woF bm (nI (flX bm K gT C N)) K)), (1, .int (nI (flX bm K gT C N))), (0, .ref (q 0))]) hx hb dX0_many_10 rfl hl (by decide) rfl (fun ls hl => ?_)
  refine lv_iconst (v := 0) hx hb dX0_many_11 (by decide) ?_
  refine lv_istore_n (lv' := [(3, .int (0)), (2, .int (woF bm (nI (flX bm K gT C N)) K)), (1, .int (nI (flX bm K gT C N))), (0, .ref (q 0))]) hx hb dX0_many_12 rfl hl (by decide) rfl (fun ls hl => ?_)
  refine lv_iload_n hx hb dX0_many_13 rfl (lv_at hl 2 rfl) ?_
  refine lv_istore (lv' := [(4, .int (nI (flX bm K gT C N))), (3, .int (0)), (2, .int (woF bm (nI (flX bm K gT C N)) K)), (1, .int (nI (flX bm K gT C N))), (0, .ref (q 0))]) hx hb dX0_many_14 hl (by decide) rfl (fun ls hl => ?_)
  refine lpP 16 (fun i ls => lv_has ls 5 [(0, .ref (q 0)), (1, .int (nI (flX bm K gT C N))), (2, .int (woF bm (nI (flX bm K gT C N)) K)), (3, .int (nI (cnF (maX bm K gT (nI C) (woF bm (nI (flX bm K gT C N)) K)) (flX bm K gT C N) i))), (4, .int (nI (flX bm K gT C N + i)))]) (2 ^ N - flX bm K gT C N) ?_ (0) ls (by omega) (lv_sub hl [4, 3, 2, 1, 0] rfl)
  intro i ls hi hl ih_16
  refine lv_iload hx hb dX0_many_16 (lv_at hl 4 rfl) ?_
  refine lv_aload_n hx hb dX0_many_18 rfl (lv_at hl 0 rfl) ?_
  refine cV (As := []) hC hK hP rfl rfl (kX0_colouringCount hP  (by omega)) [.int (nI (flX bm K gT C N + i))] (cwV 0 hts gX0_many_X0_colouringCount rfl rfl rfl hdX0_colouringCount ⟨Nat.le_of_ble_eq_true rfl, Nat.le_of_ble_eq_true rfl⟩) rfl hl.1 rfl (Nat.le_of_ble_eq_true rfl) dX0_many_19 ⟨Nat.zero_le _, Nat.zero_le _⟩ ?_
  refine lv_icmp_ge (tgt := 53) hx hb dX0_many_22 (by decide) (fun cz1 => ?_) (fun cz1 => ?_)
  · have cz1 : (2 ^ N) ≤ (flX bm K gT C N + i) := (nI_leI (a := (2 ^ N)) (b := (flX bm K gT C N + i)) (by omega) (by omega)).mp cz1
    refine lv_iload_n hx hb dX0_many_53 rfl (lv_at hl 3 rfl) ?_
    exact rI hx hb hr hlk hH dX0_many_54 (by rw [show i = 2 ^ N - flX bm K gT C N by omega])
  · have cz1 : ¬ (2 ^ N) ≤ (flX bm K gT C N + i) := fun h => cz1 ((nI_leI (a := (2 ^ N)) (b := (flX bm K gT C N + i)) (by omega) (by omega)).mpr h)
    refine lv_aload_n hx hb dX0_many_25 rfl (lv_at hl 0 rfl) ?_
    refine lv_iload hx hb dX0_many_26 (lv_at hl 4 rfl) ?_
    refine cV (As := [.int (nI (flX bm K gT C N + i))]) hC hK hP rfl rfl (kX0_keepsToHeld hP (nI (flX bm K gT C N + i)) ) [] (cwV 1 hts gX0_many_X0_keepsToHeld rfl rfl rfl hdX0_keepsToHeld ⟨Nat.le_of_ble_eq_true rfl, Nat.le_of_ble_eq_true rfl⟩) rfl hl.1 rfl (Nat.le_of_ble_eq_true rfl) dX0_many_28 ⟨Nat.zero_le _, Nat.zero_le _⟩ ?_
    refine lv_if_eq (tgt := 47) hx hb dX0_many_31 (by decide) (fun cz2 => ?_) (fun cz2 => ?_)
    · have cz2 := b2_0 cz2
      refine lv_iinc (v := nI ((flX bm K gT C N + i) + 1)) (lv' := [(4, .int (nI ((flX bm K gT C N + i) + 1))), (0, .ref (q 0)), (1, .int (nI (flX bm K gT C N))), (2, .int (woF bm (nI (flX bm K gT C N)) K)), (3, .int (nI (cnF (maX bm K gT (nI C) (woF bm (nI (flX bm K gT C N)) K)) (flX bm K gT C N) i)))]) hx hb dX0_many_47 hl (k := 4) rfl (nI_1 _) (by decide) rfl (fun ls hl => ?_)
      refine lv_goto (tgt := 16) hx hb dX0_many_50 (by decide) ?_
      exact ih_16 _ (by omega) (by rw [cnF_f (P := maX bm K gT (nI C) (woF bm (nI (flX bm K gT C N)) K)) (fun h => cz2 (of_decide_eq_true (Bool.and_eq_true _ _ ▸ h).1))]; exact lv_sub hl [1, 2, 3, 4, 0] rfl)
    · have cz2 := b2_1 cz2
      refine lv_aload_n hx hb dX0_many_34 rfl (lv_at hl 0 rfl) ?_
      refine lv_iload hx hb dX0_many_35 (lv_at hl 4 rfl) ?_
      refine cV (As := [.int (nI (flX bm K gT C N + i))]) hC hK hP rfl rfl (kX0_worstOf hP (nI (flX bm K gT C N + i)) (by omega)) [] (cwV 1 hts gX0_many_X0_worstOf rfl rfl rfl hdX0_worstOf ⟨Nat.le_of_ble_eq_true rfl, Nat.le_of_ble_eq_true rfl⟩) rfl hl.1 rfl (Nat.le_of_ble_eq_true rfl) dX0_many_37 ⟨Nat.zero_le _, Nat.zero_le _⟩ ?_
      refine lv_iload_n hx hb dX0_many_40 rfl (lv_at hl 2 rfl) ?_
      refine lv_icmp_ne (tgt := 47) hx hb dX0_many_41 (by decide) (fun cz3 => ?_) (fun cz3 => ?_)
      · refine lv_iinc (v := nI ((flX bm K gT C N + i) + 1)) (lv' := [(4, .int (nI ((flX bm K gT C N + i) + 1))), (0, .ref (q 0)), (1, .int (nI (flX bm K gT C N))), (2, .int (woF bm (nI (flX bm K gT C N)) K)), (3, .int (nI (cnF (maX bm K gT (nI C) (woF bm (nI (flX bm K gT C N)) K)) (flX bm K gT C N) i)))]) hx hb dX0_many_47 hl (k := 4) rfl (nI_1 _) (by decide) rfl (fun ls hl => ?_)
        refine lv_goto (tgt := 16) hx hb dX0_many_50 (by decide) ?_
        exact ih_16 _ (by omega) (by rw [cnF_f (P := maX bm K gT (nI C) (woF bm (nI (flX bm K gT C N)) K)) (fun h => cz3 (of_decide_eq_true (Bool.and_eq_true _ _ ▸ h).2))]; exact lv_sub hl [1, 2, 3, 4, 0] rfl)
      · refine lv_iinc (v := nI ((cnF (maX bm K gT (nI C) (woF bm (nI (flX bm K gT C N)) K)) (flX bm K gT C N) i) + 1)) (lv' := [(3, .int (nI ((cnF (maX bm K gT (nI C) (woF bm (nI (flX bm K gT C N)) K)) (flX bm K gT C N) i) + 1))), (0, .ref (q 0)), (1, .int (nI (flX bm K gT C N))), (2, .int (woF bm (nI (flX bm K gT C N)) K)), (4, .int (nI (flX bm K gT C N + i)))]) hx hb dX0_many_44 hl (k := 3) rfl (nI_1 _) (by decide) rfl (fun ls hl => ?_)
        refine lv_iinc (v := nI ((flX bm K gT C N + i) + 1)) (lv' := [(4, .int (nI ((flX bm K gT C N + i) + 1))), (3, .int (nI ((cnF (maX bm K gT (nI C) (woF bm (nI (flX bm K gT C N)) K)) (flX bm K gT C N) i) + 1))), (0, .ref (q 0)), (1, .int (nI (flX bm K gT C N))), (2, .int (woF bm (nI (flX bm K gT C N)) K))]) hx hb dX0_many_47 hl (k := 4) rfl (nI_1 _) (by decide) rfl (fun ls hl => ?_)
        refine lv_goto (tgt := 16) hx hb dX0_many_50 (by decide) ?_
        exact ih_16 _ (by omega) (by rw [cnF_t (P := maX bm K gT (nI C) (woF bm (nI (flX bm K gT C N)) K)) (Bool.and_eq_true _ _ ▸ ⟨decide_eq_true cz2, decide_eq_true cz3⟩)]; exact lv_sub hl [2, 3, 4, 1, 0] rfl)

theorem hdX0_fewest : yX0_fewest.cls = RX0 ∧ yX0_fewest.cls ≠ "java/lang/invoke/MethodHandle" ∧ yX0_fewest.cls ≠ "java/lang/invoke/VarHandle" ∧ (parseMethodDescriptor yX0_fewest.desc).map (fun d => d.parameters.length) = some 0 := by decide +kernel
set_option maxHeartbeats 4000000 in
set_option maxRecDepth 100000 in
theorem kX0_fewest {l : Launch} {D : va_G} {cy : ClassId} {H : Heap} {q : Nat → Nat} {gT : Int32} {ak : Int64} {ta pl cp kd fa fb bm sx sy : Nat → Int32} {N K S : Nat} {C : Nat} (hP : va_P D vwCl (wX cy q (nI N) gT (nI C) (nI K) (nI S) ak ta pl cp kd fa fb bm sx sy) H)  (hN : N ≤ 12) (hKn : K ≤ 10) (hCn : C < 2 ^ N) : Met l yX0_fewest wsX0_fewest { frames := 4, cells := 0, slots := 0, locals := 87 } (pcK D cy H [.ref (q 0)]) (QcRead (mnF (fun n => sqF bm (nI n) K) (okX gT (nI C)) C (2 ^ N - (C + 1)))) 0 0 (fun _ => False) := by
  refine mV 3 (by decide) rfl (Nat.le_of_ble_eq_true rfl) ?_
  intro p e s m below meth c hx hb hml hr hlk hts hown hnm hK hH ls hl
  have hC := (⟨hx, hb, hml, hown, hts⟩ : CallFix p m c cX0_fewest 3 s _ wsX0_fewest RX0)
  have hin : ∀ w ∈ wsX00, w ∈ wsX0_fewest := by decide +kernel
  have L23 : Cond.fieldLink RX0 23 "TwoColours" "heldColours" "I" ∈ wsX0_fewest := by decide +kernel
  have hl : lv_has ls 3 [(0, .ref (q 0))] := hl
  have h2N := p2_le hN
  have h2P := p2_pos N
  refine lv_aload_n hx hb dX0_fewest_0 rfl (lv_at hl 0 rfl) ?_
  refine lv_aload_n hx hb dX0_fewest_1 rfl (lv_at hl 0 rfl) ?_
  refine gX_heldColours hx hb hts hin hown hK hP L23 dX0_fewest_2 ?_
  refine cV (As := [.int (nI C)]) hC hK hP rfl rfl (kX0_squaresOf hP (nI C) (by omega)) [] (cwV 1 hts gX0_fewest_X0_squaresOf rfl rfl rfl hdX0_squaresOf ⟨Nat.le_of_ble_eq_true rfl, Nat.le_of_ble_eq_true rfl⟩) rfl hl.1 rfl (Nat.le_of_ble_eq_true rfl) dX0_fewest_5 ⟨Nat.zero_le _, Nat.zero_le _⟩ ?_
  refine lv_istore_n (lv' := [(1, .int (sqF bm (nI C) K)), (0, .ref (q 0))]) hx hb dX0_fewest_8 rfl hl (by decide) rfl (fun ls hl => ?_)
  refine lv_aload_n hx hb dX0_fewest_9 rfl (lv_at hl 1 rfl) ?_
  refine gX_heldColours hx hb hts hin hown hK hP L23 dX0_fewest_10 ?_
  refine lv_iconst (v := 1) hx hb dX0_fewest_13 (by decide) ?_
  refine lv_iadd hx hb dX0_fewest_14 ?_
  refine tpI (y := nI (C + 1)) (nI_1 C) ?_
  refine lv_istore_n (lv' := [(2, .int (nI (C + 1))), (1, .int (sqF bm (nI C) K)), (0, .ref (q 0))]) hx hb dX0_fewest_15 rfl hl (by decide) rfl (fun ls hl => ?_)
  refine lpP 16 (fun i ls => lv_has ls 3 [(0, .ref (q 0)), (1, .int (mnF (fun n => sqF bm (nI n) K) (okX gT (nI C)) C i)), (2, .int (nI (C + 1 + i)))]) (2 ^ N - (C + 1)) ?_ (0) ls (by omega) (lv_sub hl [2, 1, 0] rfl)
  intro i ls hi hl ih_16
  refine lv_iload_n hx hb dX0_fewest_16 rfl (lv_at hl 2 rfl) ?_
  refine lv_aload_n hx hb dX0_fewest_17 rfl (lv_at hl 0 rfl) ?_
  refine cV (As := []) hC hK hP rfl rfl (kX0_colouringCount hP  (by omega)) [.int (nI (C + 1 + i))] (cwV 0 hts gX0_fewest_X0_colouringCount rfl rfl rfl hdX0_colouringCount ⟨Nat.le_of_ble_eq_true rfl, Nat.le_of_ble_eq_true rfl⟩) rfl hl.1 rfl (Nat.le_of_ble_eq_true rfl) dX0_fewest_18 ⟨Nat.zero_le _, Nat.zero_le _⟩ ?_
  refine lv_icmp_ge (tgt := 48) hx hb dX0_fewest_21 (by decide) (fun cz1 => ?_) (fun cz1 => ?_)
  · have cz1 : (2 ^ N) ≤ (C + 1 + i) := (nI_leI (a := (2 ^ N)) (b := (C + 1 + i)) (by omega) (by omega)).mp cz1
    refine lv_iload_n hx hb dX0_fewest_48 rfl (lv_at hl 1 rfl) ?_
    exact rI hx hb hr hlk hH dX0_fewest_49 (by rw [show i = 2 ^ N - (C + 1) by omega])
  · have cz1 : ¬ (2 ^ N) ≤ (C + 1 + i) := fun h => cz1 ((nI_leI (a := (2 ^ N)) (b := (C + 1 + i)) (by omega) (by omega)).mpr h)
    refine lv_aload_n hx hb dX0_fewest_24 rfl (lv_at hl 0 rfl) ?_
    refine lv_iload_n hx hb dX0_fewest_25 rfl (lv_at hl 2 rfl) ?_
    refine cV (As := [.int (nI (C + 1 + i))]) hC hK hP rfl rfl (kX0_keepsToHeld hP (nI (C + 1 + i)) ) [] (cwV 1 hts gX0_fewest_X0_keepsToHeld rfl rfl rfl hdX0_keepsToHeld ⟨Nat.le_of_ble_eq_true rfl, Nat.le_of_ble_eq_true rfl⟩) rfl hl.1 rfl (Nat.le_of_ble_eq_true rfl) dX0_fewest_26 ⟨Nat.zero_le _, Nat.zero_le _⟩ ?_
    refine lv_if_eq (tgt := 42) hx hb dX0_fewest_29 (by decide) (fun cz2 => ?_) (fun cz2 => ?_)
    · have cz2 := b2_0 cz2
      refine lv_iinc (v := nI ((C + 1 + i) + 1)) (lv' := [(2, .int (nI ((C + 1 + i) + 1))), (0, .ref (q 0)), (1, .int (mnF (fun n => sqF bm (nI n) K) (okX gT (nI C)) C i))]) hx hb dX0_fewest_42 hl (k := 2) rfl (nI_1 _) (by decide) rfl (fun ls hl => ?_)
      refine lv_goto (tgt := 16) hx hb dX0_fewest_45 (by decide) ?_
      exact ih_16 _ (by omega) (by rw [mnF_f (w := (fun n => sqF bm (nI n) K)) (ok := (okX gT (nI C))) (fun h => cz2 (of_decide_eq_true h))]; exact lv_sub hl [1, 2, 0] rfl)
    · have cz2 := b2_1 cz2
      refine lv_iload_n hx hb dX0_fewest_32 rfl (lv_at hl 1 rfl) ?_
      refine lv_aload_n hx hb dX0_fewest_33 rfl (lv_at hl 0 rfl) ?_
      refine lv_iload_n hx hb dX0_fewest_34 rfl (lv_at hl 2 rfl) ?_
      refine cV (As := [.int (nI (C + 1 + i))]) hC hK hP rfl rfl (kX0_squaresOf hP (nI (C + 1 + i)) (by omega)) [.int (mnF (fun n => sqF bm (nI n) K) (okX gT (nI C)) C i)] (cwV 1 hts gX0_fewest_X0_squaresOf rfl rfl rfl hdX0_squaresOf ⟨Nat.le_of_ble_eq_true rfl, Nat.le_of_ble_eq_true rfl⟩) rfl hl.1 rfl (Nat.le_of_ble_eq_true rfl) dX0_fewest_35 ⟨Nat.zero_le _, Nat.zero_le _⟩ ?_
      refine va_mmin hx hb (hml.trans hl.1.symm) hown (hts (.methodLink RX0 124 Lib.Math.min.name) (by decide +kernel)) (hts (.static Lib.Math.min.name) (by decide +kernel)) (hts (.initialized "java/lang/Math") (by decide +kernel)) (hts (.code Lib.Math.min.name Lib.Math.min.code 2 (some .int)) (by decide +kernel)) (Nat.le_of_ble_eq_true rfl) (Nat.le_of_ble_eq_true rfl) (Nat.zero_le _) (Nat.zero_le _) dX0_fewest_38 ?_
      refine lv_istore_n (lv' := [(1, .int (minI (mnF (fun n => sqF bm (nI n) K) (okX gT (nI C)) C i) (sqF bm (nI (C + 1 + i)) K))), (0, .ref (q 0)), (2, .int (nI (C + 1 + i)))]) hx hb dX0_fewest_41 rfl hl (by decide) rfl (fun ls hl => ?_)
      refine lv_iinc (v := nI ((C + 1 + i) + 1)) (lv' := [(2, .int (nI ((C + 1 + i) + 1))), (1, .int (minI (mnF (fun n => sqF bm (nI n) K) (okX gT (nI C)) C i) (sqF bm (nI (C + 1 + i)) K))), (0, .ref (q 0))]) hx hb dX0_fewest_42 hl (k := 2) rfl (nI_1 _) (by decide) rfl (fun ls hl => ?_)
      refine lv_goto (tgt := 16) hx hb dX0_fewest_45 (by decide) ?_
      exact ih_16 _ (by omega) (by rw [mnF_t (w := (fun n => sqF bm (nI n) K)) (ok := (okX gT (nI C))) (decide_eq_true cz2)]; exact lv_sub hl [2, 1, 0] rfl)

theorem hdX0_turns : yX0_turns.cls = RX0 ∧ yX0_turns.cls ≠ "java/lang/invoke/MethodHandle" ∧ yX0_turns.cls ≠ "java/lang/invoke/VarHandle" ∧ (parseMethodDescriptor yX0_turns.desc).map (fun d => d.parameters.length) = some 0 := by decide +kernel
set_option maxHeartbeats 4000000 in
set_option maxRecDepth 100000 in
theorem kX0_turns {l : Launch} {D : va_G} {cy : ClassId} {H : Heap} {q : Nat → Nat} {gT gC : Int32} {ak : Int64} {ta pl cp kd fa fb bm sx sy : Nat → Int32} {N K S : Nat}  (hP : va_P D vwCl (wX cy q (nI N) gT gC (nI K) (nI S) ak ta pl cp kd fa fb bm sx sy) H)  (hN : N ≤ 12) : Met l yX0_turns wsX0_turns { frames := 0, cells := 0, slots := 0, locals := 0 } (pcK D cy H [.ref (q 0)]) (QcRead (tuF (N / 2))) 0 0 (fun _ => False) := by
  refine mV 3 (by decide) rfl (Nat.le_of_ble_eq_true rfl) ?_
  intro p e s m below meth c hx hb hml hr hlk hts hown hnm hK hH ls hl
  have hC := (⟨hx, hb, hml, hown, hts⟩ : CallFix p m c cX0_turns 3 s _ wsX0_turns RX0)
  have hin : ∀ w ∈ wsX00, w ∈ wsX0_turns := by decide +kernel
  have L7 : Cond.fieldLink RX0 7 "TwoColours" "thingCount" "I" ∈ wsX0_turns := by decide +kernel
  have hl : lv_has ls 3 [(0, .ref (q 0))] := hl
  refine lv_iconst (v := 0) hx hb dX0_turns_0 (by decide) ?_
  refine lv_istore_n (lv' := [(1, .int (0)), (0, .ref (q 0))]) hx hb dX0_turns_1 rfl hl (by decide) rfl (fun ls hl => ?_)
  refine lv_iconst (v := 1) hx hb dX0_turns_2 (by decide) ?_
  refine lv_istore_n (lv' := [(2, .int (1)), (1, .int (0)), (0, .ref (q 0))]) hx hb dX0_turns_3 rfl hl (by decide) rfl (fun ls hl => ?_)
  refine lpP 4 (fun i ls => lv_has ls 3 [(0, .ref (q 0)), (1, .int (tuF i)), (2, .int (nI (1 + 2 * i)))]) (N / 2) ?_ (0) ls (by omega) (lv_sub hl [2, 1, 0] rfl)
  intro i ls hi hl ih_4
  refine lv_iload_n hx hb dX0_turns_4 rfl (lv_at hl 2 rfl) ?_
  refine lv_aload_n hx hb dX0_turns_5 rfl (lv_at hl 0 rfl) ?_
  refine gX_thingCount hx hb hts hin hown hK hP L7 dX0_turns_6 ?_
  refine lv_icmp_ge (tgt := 24) hx hb dX0_turns_9 (by decide) (fun cz1 => ?_) (fun cz1 => ?_)
  · have cz1 : N ≤ (1 + 2 * i) := (nI_leI (a := N) (b := (1 + 2 * i)) (by omega) (by omega)).mp cz1
    refine lv_iload_n hx hb dX0_turns_24 rfl (lv_at hl 1 rfl) ?_
    exact rI hx hb hr hlk hH dX0_turns_25 (by rw [show i = N / 2 by omega])
  · have cz1 : ¬ N ≤ (1 + 2 * i) := fun h => cz1 ((nI_leI (a := N) (b := (1 + 2 * i)) (by omega) (by omega)).mpr h)
    refine lv_iload_n hx hb dX0_turns_12 rfl (lv_at hl 1 rfl) ?_
    refine lv_iconst (v := 1) hx hb dX0_turns_13 (by decide) ?_
    refine lv_iload_n hx hb dX0_turns_14 rfl (lv_at hl 2 rfl) ?_
    refine lv_ishl hx hb dX0_turns_15 ?_
    refine lv_ior hx hb dX0_turns_16 ?_
    refine lv_istore_n (lv' := [(1, .int ((tuF i) ||| ((1 : Int32) <<< ((nI (1 + 2 * i)) &&& 31)))), (0, .ref (q 0)), (2, .int (nI (1 + 2 * i)))]) hx hb dX0_turns_17 rfl hl (by decide) rfl (fun ls hl => ?_)
    refine lv_iinc (v := nI ((1 + 2 * i) + 2)) (lv' := [(2, .int (nI ((1 + 2 * i) + 2))), (1, .int ((tuF i) ||| ((1 : Int32) <<< ((nI (1 + 2 * i)) &&& 31)))), (0, .ref (q 0))]) hx hb dX0_turns_18 hl (k := 2) rfl (nI_add (1 + 2 * i) 2) (by decide) rfl (fun ls hl => ?_)
    refine lv_goto (tgt := 4) hx hb dX0_turns_21 (by decide) ?_
    exact ih_4 _ (by omega) (lv_sub hl [2, 1, 0] rfl)

theorem hdX0_colourOnComing : yX0_colourOnComing.cls = RX0 ∧ yX0_colourOnComing.cls ≠ "java/lang/invoke/MethodHandle" ∧ yX0_colourOnComing.cls ≠ "java/lang/invoke/VarHandle" ∧ (parseMethodDescriptor yX0_colourOnComing.desc).map (fun d => d.parameters.length) = some 2 := by decide +kernel
set_option maxHeartbeats 4000000 in
set_option maxRecDepth 100000 in
theorem kX0_colourOnComing {l : Launch} {D : va_G} {cy : ClassId} {H : Heap} {q : Nat → Nat} {gT gC : Int32} {ak : Int64} {ta pl cp kd fa fb bm sx sy : Nat → Int32} {N K S : Nat}  (hP : va_P D vwCl (wX cy q (nI N) gT gC (nI K) (nI S) ak ta pl cp kd fa fb bm sx sy) H) (t : Nat) (d : Int32) (hKn : K ≤ 10) (ht : t < 12) : Met l yX0_colourOnComing wsX0_colourOnComing { frames := 2, cells := 0, slots := 0, locals := 42 } (pcK D cy H [.ref (q 0), .int (nI t), .int d]) (QcRead (ccX bm K gT gC t d)) 0 0 (fun _ => False) := by
  refine mV 6 (by decide) rfl (Nat.le_of_ble_eq_true rfl) ?_
  intro p e s m below meth c hx hb hml hr hlk hts hown hnm hK hH ls hl
  have hC := (⟨hx, hb, hml, hown, hts⟩ : CallFix p m c cX0_colourOnComing 6 s _ wsX0_colourOnComing RX0)
  have hin : ∀ w ∈ wsX00, w ∈ wsX0_colourOnComing := by decide +kernel
  have L23 : Cond.fieldLink RX0 23 "TwoColours" "heldColours" "I" ∈ wsX0_colourOnComing := by decide +kernel
  have L29 : Cond.fieldLink RX0 29 "TwoColours" "heapCount" "I" ∈ wsX0_colourOnComing := by decide +kernel
  have L41 : Cond.fieldLink RX0 41 "TwoColours" "heapBits" "[I" ∈ wsX0_colourOnComing := by decide +kernel
  have hl : lv_has ls 6 [(0, .ref (q 0)), (1, .int (nI t)), (2, .int (d))] := hl
  refine lv_aload_n hx hb dX0_colourOnComing_0 rfl (lv_at hl 0 rfl) ?_
  refine lv_iload_n hx hb dX0_colourOnComing_1 rfl (lv_at hl 1 rfl) ?_
  refine cV (As := [.int (nI t)]) hC hK hP rfl rfl (kX0_isHeld hP (nI t) ) [] (cwV 1 hts gX0_colourOnComing_X0_isHeld rfl rfl rfl hdX0_isHeld ⟨Nat.le_of_ble_eq_true rfl, Nat.le_of_ble_eq_true rfl⟩) rfl hl.1 rfl (Nat.le_of_ble_eq_true rfl) dX0_colourOnComing_2 ⟨Nat.zero_le _, Nat.zero_le _⟩ ?_
  refine lv_if_eq (tgt := 17) hx hb dX0_colourOnComing_5 (by decide) (fun cz1 => ?_) (fun cz1 => ?_)
  · have cz1 := b2_0 cz1
    refine lv_iconst (v := 1) hx hb dX0_colourOnComing_17 (by decide) ?_
    refine lv_iload_n hx hb dX0_colourOnComing_18 rfl (lv_at hl 1 rfl) ?_
    refine lv_ishl hx hb dX0_colourOnComing_19 ?_
    refine lv_iconst (v := 1) hx hb dX0_colourOnComing_20 (by decide) ?_
    refine lv_isub hx hb dX0_colourOnComing_21 ?_
    refine lv_istore_n (lv' := [(3, .int (((1 : Int32) <<< ((nI t) &&& 31)) - ((1 : Int32)))), (0, .ref (q 0)), (1, .int (nI t)), (2, .int (d))]) hx hb dX0_colourOnComing_22 rfl hl (by decide) rfl (fun ls hl => ?_)
    refine lv_iconst (v := 0) hx hb dX0_colourOnComing_23 (by decide) ?_
    refine lv_istore (lv' := [(4, .int (0)), (3, .int (((1 : Int32) <<< ((nI t) &&& 31)) - ((1 : Int32)))), (0, .ref (q 0)), (1, .int (nI t)), (2, .int (d))]) hx hb dX0_colourOnComing_24 hl (by decide) rfl (fun ls hl => ?_)
    refine lv_iconst (v := 0) hx hb dX0_colourOnComing_26 (by decide) ?_
    refine lv_istore (lv' := [(5, .int (0)), (4, .int (0)), (3, .int (((1 : Int32) <<< ((nI t) &&& 31)) - ((1 : Int32)))), (0, .ref (q 0)), (1, .int (nI t)), (2, .int (d))]) hx hb dX0_colourOnComing_27 hl (by decide) rfl (fun ls hl => ?_)
    refine lpP 29 (fun i ls => lv_has ls 6 [(0, .ref (q 0)), (1, .int (nI t)), (2, .int (d)), (3, .int (((1 : Int32) <<< ((nI t) &&& 31)) - ((1 : Int32)))), (4, .int (cmF bm t d i)), (5, .int (nI i))]) (K) ?_ (0) ls (by omega) (lv_sub hl [3, 4, 5, 2, 1, 0] rfl)
    intro i ls hi hl ih_29
    refine lv_iload hx hb dX0_colourOnComing_29 (lv_at hl 5 rfl) ?_
    refine lv_aload_n hx hb dX0_colourOnComing_31 rfl (lv_at hl 0 rfl) ?_
    refine gX_heapCount hx hb hts hin hown hK hP L29 dX0_colourOnComing_32 ?_
    refine lv_icmp_ge (tgt := 77) hx hb dX0_colourOnComing_35 (by decide) (fun cz2 => ?_) (fun cz2 => ?_)
    · have cz2 : K ≤ i := (nI_leI (a := K) (b := i) (by omega) (by omega)).mp cz2
      have ei : K = i := by omega
      subst ei
      refine lv_iload hx hb dX0_colourOnComing_77 (lv_at hl 4 rfl) ?_
      refine lv_if_ge (tgt := 86) hx hb dX0_colourOnComing_79 (by decide) (fun cz3 => ?_) (fun cz3 => ?_)
      · refine lv_iconst (v := 0) hx hb dX0_colourOnComing_86 (by decide) ?_
        exact rI hx hb hr hlk hH dX0_colourOnComing_87 (by rw [ccX, if_neg cz1, if_neg (Int32.not_lt.mpr cz3)])
      · refine lv_iconst (v := 1) hx hb dX0_colourOnComing_82 (by decide) ?_
        refine lv_goto (tgt := 87) hx hb dX0_colourOnComing_83 (by decide) ?_
        exact rI hx hb hr hlk hH dX0_colourOnComing_87 (by rw [ccX, if_neg cz1, if_pos (Int32.not_le.mp cz3)])
    · have cz2 : ¬ K ≤ i := fun h => cz2 ((nI_leI (a := K) (b := i) (by omega) (by omega)).mpr h)
      refine lv_aload_n hx hb dX0_colourOnComing_38 rfl (lv_at hl 0 rfl) ?_
      refine gX_heapBits hx hb hts hin hown hK hP L41 dX0_colourOnComing_39 ?_
      refine lv_iload hx hb dX0_colourOnComing_42 (lv_at hl 5 rfl) ?_
      refine ldX_heapBits (j := i) hx hb hK hP rfl (by omega) dX0_colourOnComing_44 ?_
      refine lv_iload_n hx hb dX0_colourOnComing_45 rfl (lv_at hl 1 rfl) ?_
      refine cS (As := [.int (bm i), .int (nI t)]) hC (kX0_bitOf (bm i) (nI t) ) [] (va_cwS 2 hts gX0_colourOnComing_X0_bitOf rfl rfl rfl (by decide +kernel) ⟨Nat.le_of_ble_eq_true rfl, Nat.le_of_ble_eq_true rfl⟩) rfl hl.1 rfl (Nat.le_of_ble_eq_true rfl) dX0_colourOnComing_46 ⟨Nat.zero_le _, Nat.zero_le _⟩ ?_
      refine lv_iconst (v := 1) hx hb dX0_colourOnComing_49 (by decide) ?_
      refine lv_icmp_ne (tgt := 71) hx hb dX0_colourOnComing_50 (by decide) (fun cz4 => ?_) (fun cz4 => ?_)
      · refine lv_iinc (v := nI (i + 1)) (lv' := [(5, .int (nI (i + 1))), (0, .ref (q 0)), (1, .int (nI t)), (2, .int (d)), (3, .int (((1 : Int32) <<< ((nI t) &&& 31)) - ((1 : Int32)))), (4, .int (cmF bm t d i))]) hx hb dX0_colourOnComing_71 hl (k := 5) rfl (nI_1 _) (by decide) rfl (fun ls hl => ?_)
        refine lv_goto (tgt := 29) hx hb dX0_colourOnComing_74 (by decide) ?_
        exact ih_29 _ (by omega) (by rw [cmF_f (by assumption)]; exact lv_sub hl [1, 2, 3, 4, 5, 0] rfl)
      · refine lv_iload hx hb dX0_colourOnComing_53 (lv_at hl 4 rfl) ?_
        refine lv_aload_n hx hb dX0_colourOnComing_55 rfl (lv_at hl 0 rfl) ?_
        refine gX_heapBits hx hb hts hin hown hK hP L41 dX0_colourOnComing_56 ?_
        refine lv_iload hx hb dX0_colourOnComing_59 (lv_at hl 5 rfl) ?_
        refine ldX_heapBits (j := i) hx hb hK hP rfl (by omega) dX0_colourOnComing_61 ?_
        refine lv_iload_n hx hb dX0_colourOnComing_62 rfl (lv_at hl 3 rfl) ?_
        refine lv_iand hx hb dX0_colourOnComing_63 ?_
        refine lv_iload_n hx hb dX0_colourOnComing_64 rfl (lv_at hl 2 rfl) ?_
        refine cS (As := [.int ((bm i) &&& (((1 : Int32) <<< ((nI t) &&& 31)) - ((1 : Int32)))), .int (d)]) hC (kX0_leaning ((bm i) &&& (((1 : Int32) <<< ((nI t) &&& 31)) - ((1 : Int32)))) d ) [.int (cmF bm t d i)] (va_cwS 2 hts gX0_colourOnComing_X0_leaning rfl rfl rfl (by decide +kernel) ⟨Nat.le_of_ble_eq_true rfl, Nat.le_of_ble_eq_true rfl⟩) rfl hl.1 rfl (Nat.le_of_ble_eq_true rfl) dX0_colourOnComing_65 ⟨Nat.zero_le _, Nat.zero_le _⟩ ?_
        refine lv_iadd hx hb dX0_colourOnComing_68 ?_
        refine lv_istore (lv' := [(4, .int ((cmF bm t d i) + (leanI ((bm i) &&& (((1 : Int32) <<< ((nI t) &&& 31)) - ((1 : Int32)))) d))), (0, .ref (q 0)), (1, .int (nI t)), (2, .int (d)), (3, .int (((1 : Int32) <<< ((nI t) &&& 31)) - ((1 : Int32)))), (5, .int (nI i))]) hx hb dX0_colourOnComing_69 hl (by decide) rfl (fun ls hl => ?_)
        refine lv_iinc (v := nI (i + 1)) (lv' := [(5, .int (nI (i + 1))), (4, .int ((cmF bm t d i) + (leanI ((bm i) &&& (((1 : Int32) <<< ((nI t) &&& 31)) - ((1 : Int32)))) d))), (0, .ref (q 0)), (1, .int (nI t)), (2, .int (d)), (3, .int (((1 : Int32) <<< ((nI t) &&& 31)) - ((1 : Int32))))]) hx hb dX0_colourOnComing_71 hl (k := 5) rfl (nI_1 _) (by decide) rfl (fun ls hl => ?_)
        refine lv_goto (tgt := 29) hx hb dX0_colourOnComing_74 (by decide) ?_
        exact ih_29 _ (by omega) (by rw [cmF_t (by assumption)]; exact lv_sub hl [2, 3, 4, 5, 1, 0] rfl)
  · have cz1 := b2_1 cz1
    refine lv_aload_n hx hb dX0_colourOnComing_8 rfl (lv_at hl 0 rfl) ?_
    refine gX_heldColours hx hb hts hin hown hK hP L23 dX0_colourOnComing_9 ?_
    refine lv_iload_n hx hb dX0_colourOnComing_12 rfl (lv_at hl 1 rfl) ?_
    refine cS (As := [.int (gC), .int (nI t)]) hC (kX0_bitOf gC (nI t) ) [] (va_cwS 2 hts gX0_colourOnComing_X0_bitOf rfl rfl rfl (by decide +kernel) ⟨Nat.le_of_ble_eq_true rfl, Nat.le_of_ble_eq_true rfl⟩) rfl hl.1 rfl (Nat.le_of_ble_eq_true rfl) dX0_colourOnComing_13 ⟨Nat.zero_le _, Nat.zero_le _⟩ ?_
    exact rI hx hb hr hlk hH dX0_colourOnComing_16 (by rw [ccX, if_pos cz1])

theorem hdX0_come : yX0_come.cls = RX0 ∧ yX0_come.cls ≠ "java/lang/invoke/MethodHandle" ∧ yX0_come.cls ≠ "java/lang/invoke/VarHandle" ∧ (parseMethodDescriptor yX0_come.desc).map (fun d => d.parameters.length) = some 0 := by decide +kernel
set_option maxHeartbeats 4000000 in
set_option maxRecDepth 100000 in
theorem kX0_come {l : Launch} {D : va_G} {cy : ClassId} {H : Heap} {q : Nat → Nat} {gT gC : Int32} {ak : Int64} {ta pl cp kd fa fb bm sx sy : Nat → Int32} {N K S : Nat}  (hP : va_P D vwCl (wX cy q (nI N) gT gC (nI K) (nI S) ak ta pl cp kd fa fb bm sx sy) H)  (hN : N ≤ 12) (hKn : K ≤ 10) : Met l yX0_come wsX0_come { frames := 3, cells := 0, slots := 0, locals := 67 } (pcK D cy H [.ref (q 0)]) (QcRead (coF bm K gT gC N)) 0 0 (fun _ => False) := by
  refine mV 3 (by decide) rfl (Nat.le_of_ble_eq_true rfl) ?_
  intro p e s m below meth c hx hb hml hr hlk hts hown hnm hK hH ls hl
  have hC := (⟨hx, hb, hml, hown, hts⟩ : CallFix p m c cX0_come 3 s _ wsX0_come RX0)
  have hin : ∀ w ∈ wsX00, w ∈ wsX0_come := by decide +kernel
  have L7 : Cond.fieldLink RX0 7 "TwoColours" "thingCount" "I" ∈ wsX0_come := by decide +kernel
  have hl : lv_has ls 3 [(0, .ref (q 0))] := hl
  refine lv_iconst (v := 0) hx hb dX0_come_0 (by decide) ?_
  refine lv_istore_n (lv' := [(1, .int (0)), (0, .ref (q 0))]) hx hb dX0_come_1 rfl hl (by decide) rfl (fun ls hl => ?_)
  refine lv_iconst (v := 0) hx hb dX0_come_2 (by decide) ?_
  refine lv_istore_n (lv' := [(2, .int (0)), (1, .int (0)), (0, .ref (q 0))]) hx hb dX0_come_3 rfl hl (by decide) rfl (fun ls hl => ?_)
  refine lpP 4 (fun i ls => lv_has ls 3 [(0, .ref (q 0)), (1, .int (coF bm K gT gC i)), (2, .int (nI i))]) (N) ?_ (0) ls (by omega) (lv_sub hl [2, 1, 0] rfl)
  intro i ls hi hl ih_4
  refine lv_iload_n hx hb dX0_come_4 rfl (lv_at hl 2 rfl) ?_
  refine lv_aload_n hx hb dX0_come_5 rfl (lv_at hl 0 rfl) ?_
  refine gX_thingCount hx hb hts hin hown hK hP L7 dX0_come_6 ?_
  refine lv_icmp_ge (tgt := 29) hx hb dX0_come_9 (by decide) (fun cz1 => ?_) (fun cz1 => ?_)
  · have cz1 : N ≤ i := (nI_leI (a := N) (b := i) (by omega) (by omega)).mp cz1
    refine lv_iload_n hx hb dX0_come_29 rfl (lv_at hl 1 rfl) ?_
    exact rI hx hb hr hlk hH dX0_come_30 (by rw [show i = N by omega])
  · have cz1 : ¬ N ≤ i := fun h => cz1 ((nI_leI (a := N) (b := i) (by omega) (by omega)).mpr h)
    refine lv_iload_n hx hb dX0_come_12 rfl (lv_at hl 1 rfl) ?_
    refine lv_aload_n hx hb dX0_come_13 rfl (lv_at hl 0 rfl) ?_
    refine lv_iload_n hx hb dX0_come_14 rfl (lv_at hl 2 rfl) ?_
    refine lv_iload_n hx hb dX0_come_15 rfl (lv_at hl 1 rfl) ?_
    refine cV (As := [.int (nI i), .int (coF bm K gT gC i)]) hC hK hP rfl rfl (kX0_colourOnComing hP i (coF bm K gT gC i) (by omega) (by omega)) [.int (coF bm K gT gC i)] (cwV 2 hts gX0_come_X0_colourOnComing rfl rfl rfl hdX0_colourOnComing ⟨Nat.le_of_ble_eq_true rfl, Nat.le_of_ble_eq_true rfl⟩) rfl hl.1 rfl (Nat.le_of_ble_eq_true rfl) dX0_come_16 ⟨Nat.zero_le _, Nat.zero_le _⟩ ?_
    refine lv_iload_n hx hb dX0_come_19 rfl (lv_at hl 2 rfl) ?_
    refine lv_ishl hx hb dX0_come_20 ?_
    refine lv_ior hx hb dX0_come_21 ?_
    refine lv_istore_n (lv' := [(1, .int ((coF bm K gT gC i) ||| ((ccX bm K gT gC i (coF bm K gT gC i)) <<< ((nI i) &&& 31)))), (0, .ref (q 0)), (2, .int (nI i))]) hx hb dX0_come_22 rfl hl (by decide) rfl (fun ls hl => ?_)
    refine lv_iinc (v := nI (i + 1)) (lv' := [(2, .int (nI (i + 1))), (1, .int ((coF bm K gT gC i) ||| ((ccX bm K gT gC i (coF bm K gT gC i)) <<< ((nI i) &&& 31)))), (0, .ref (q 0))]) hx hb dX0_come_23 hl (k := 2) rfl (nI_1 _) (by decide) rfl (fun ls hl => ?_)
    refine lv_goto (tgt := 4) hx hb dX0_come_26 (by decide) ?_
    exact ih_4 _ (by omega) (lv_sub hl [2, 1, 0] rfl)

