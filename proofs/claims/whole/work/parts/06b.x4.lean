theorem hdX0_putAt : yX0_putAt.cls = RX0 ∧ yX0_putAt.cls ≠ "java/lang/invoke/MethodHandle" ∧ yX0_putAt.cls ≠ "java/lang/invoke/VarHandle" ∧ (parseMethodDescriptor yX0_putAt.desc).map (fun d => d.parameters.length) = some 2 := by decide +kernel
set_option maxHeartbeats 4000000 in
set_option maxRecDepth 100000 in
theorem kX0_putAt {l : Launch} {D : va_G} {cy : ClassId} {H : Heap} {q : Nat → Nat} {gT gC : Int32} {ak : Int64} {ta pl cp kd fa fb bm sx sy : Nat → Int32} {N K S : Nat}  (hP : va_P D vwCl (wX cy q (nI N) gT gC (nI K) (nI S) ak ta pl cp kd fa fb bm sx sy) H) (hD : va_D (aL q) (wX cy q (nI N) gT gC (nI K) (nI S) ak ta pl cp kd fa fb bm sx sy)) (i : Nat) (t : Nat) (hi : i < 12) (ht : t < 12) : Met l yX0_putAt wsX0_putAt { frames := 0, cells := 0, slots := 0, locals := 0 } (pcK D cy H [.ref (q 0), .int (nI i), .int (nI t)]) (qI none (va_P D vwCl (wX cy q (nI N) gT gC (nI K) (nI S) ak (upd ta i (nI t)) (upd pl t (nI i)) cp kd fa fb bm sx sy)) (aL q)) 0 0 (aL q) := by
  refine mV 3 (by decide) rfl (Nat.le_of_ble_eq_true rfl) ?_
  intro p e s m below meth c hx hb hml hr hlk hts hown hnm hK hH ls hl
  have hC := (⟨hx, hb, hml, hown, hts⟩ : CallFix p m c cX0_putAt 3 s _ wsX0_putAt RX0)
  have hin : ∀ w ∈ wsX00, w ∈ wsX0_putAt := by decide +kernel
  have L13 : Cond.fieldLink RX0 13 "TwoColours" "thingAt" "[I" ∈ wsX0_putAt := by decide +kernel
  have L17 : Cond.fieldLink RX0 17 "TwoColours" "placeOf" "[I" ∈ wsX0_putAt := by decide +kernel
  have hl : lv_has ls 3 [(0, .ref (q 0)), (1, .int (nI i)), (2, .int (nI t))] := hl
  have hS : va_S (aL q) s.heap H [] := by rw [hH]; exact va_S.rf
  refine lv_aload_n hx hb dX0_putAt_0 rfl (lv_at hl 0 rfl) ?_
  refine gX_thingAt hx hb hts hin hown hK hP L13 dX0_putAt_1 ?_
  refine lv_iload_n hx hb dX0_putAt_4 rfl (lv_at hl 1 rfl) ?_
  refine lv_iload_n hx hb dX0_putAt_5 rfl (lv_at hl 2 rfl) ?_
  refine stX_thingAt (j := i) hx hb hK hP hD hS rfl (by omega) dX0_putAt_6 (fun H locs hP hD hS => ?_)
  refine lv_aload_n hx hb dX0_putAt_7 rfl (lv_at hl 0 rfl) ?_
  refine gX_placeOf hx hb hts hin hown hK hP L17 dX0_putAt_8 ?_
  refine lv_iload_n hx hb dX0_putAt_11 rfl (lv_at hl 2 rfl) ?_
  refine lv_iload_n hx hb dX0_putAt_12 rfl (lv_at hl 1 rfl) ?_
  refine stX_placeOf (j := t) hx hb hK hP hD hS rfl (by omega) dX0_putAt_13 (fun H locs hP hD hS => ?_)
  exact rVw hx hb hr hlk hS hP dX0_putAt_14

theorem hdX0_orderByNumbers : yX0_orderByNumbers.cls = RX0 ∧ yX0_orderByNumbers.cls ≠ "java/lang/invoke/MethodHandle" ∧ yX0_orderByNumbers.cls ≠ "java/lang/invoke/VarHandle" ∧ (parseMethodDescriptor yX0_orderByNumbers.desc).map (fun d => d.parameters.length) = some 0 := by decide +kernel
set_option maxHeartbeats 4000000 in
set_option maxRecDepth 100000 in
theorem kX0_orderByNumbers {l : Launch} {D : va_G} {cy : ClassId} {H : Heap} {q : Nat → Nat} {gT gC : Int32} {ak : Int64} {ta pl cp kd fa fb bm sx sy : Nat → Int32} {N K S : Nat}  (hP : va_P D vwCl (wX cy q (nI N) gT gC (nI K) (nI S) ak ta pl cp kd fa fb bm sx sy) H) (hD : va_D (aL q) (wX cy q (nI N) gT gC (nI K) (nI S) ak ta pl cp kd fa fb bm sx sy))   : Met l yX0_orderByNumbers wsX0_orderByNumbers { frames := 1, cells := 0, slots := 0, locals := 22 } (pcK D cy H [.ref (q 0)]) (qI none (va_P D vwCl (wX cy q (nI N) gT gC (nI K) (nI S) ak (idF ta 12) (idF pl 12) cp kd fa fb bm sx sy)) (aL q)) 0 0 (aL q) := by
  refine mV 2 (by decide) rfl (Nat.le_of_ble_eq_true rfl) ?_
  intro p e s m below meth c hx hb hml hr hlk hts hown hnm hK hH ls hl
  have hC := (⟨hx, hb, hml, hown, hts⟩ : CallFix p m c cX0_orderByNumbers 2 s _ wsX0_orderByNumbers RX0)
  have hl : lv_has ls 2 [(0, .ref (q 0))] := hl
  have hS : va_S (aL q) s.heap H [] := by rw [hH]; exact va_S.rf
  refine lv_iconst (v := 0) hx hb dX0_orderByNumbers_0 (by decide) ?_
  refine lv_istore_n (lv' := [(1, .int (0)), (0, .ref (q 0))]) hx hb dX0_orderByNumbers_1 rfl hl (by decide) rfl (fun ls hl => ?_)
  refine lpW (σ := Nat) 2 (fun i ls H locs => (i ≤ 12) ∧ lv_has ls 2 [(0, .ref (q 0)), (1, .int (nI i))] ∧ va_P D vwCl (wX cy q (nI N) gT gC (nI K) (nI S) ak (idF ta i) (idF pl i) cp kd fa fb bm sx sy) H ∧ va_D (aL q) (wX cy q (nI N) gT gC (nI K) (nI S) ak (idF ta i) (idF pl i) cp kd fa fb bm sx sy) ∧ va_S (aL q) s.heap H locs) (fun i => 12 - i) ?_ (0) ls ⟨Nat.zero_le _, lv_sub hl [1, 0] rfl, hP, hD, hS⟩
  intro i ls H locs hI ih_2
  obtain ⟨hi, hl, hP, hD, hS⟩ := hI
  refine lv_iload_n hx hb dX0_orderByNumbers_2 rfl (lv_at hl 1 rfl) ?_
  refine lv_bipush (v := 12) hx hb dX0_orderByNumbers_3 (by decide) ?_
  refine lv_icmp_ge (tgt := 20) hx hb dX0_orderByNumbers_5 (by decide) (fun cz1 => ?_) (fun cz1 => ?_)
  · have cz1 : 12 ≤ i := (nI_leI (a := 12) (b := i) (by omega) (by omega)).mp cz1
    have ei : 12 = i := by omega
    subst ei
    exact rVw hx hb hr hlk hS hP dX0_orderByNumbers_20
  · have cz1 : ¬ 12 ≤ i := fun h => cz1 ((nI_leI (a := 12) (b := i) (by omega) (by omega)).mpr h)
    refine lv_aload_n hx hb dX0_orderByNumbers_8 rfl (lv_at hl 0 rfl) ?_
    refine lv_iload_n hx hb dX0_orderByNumbers_9 rfl (lv_at hl 1 rfl) ?_
    refine lv_iload_n hx hb dX0_orderByNumbers_10 rfl (lv_at hl 1 rfl) ?_
    refine cVw (As := [.int (nI i), .int (nI i)]) hC hK hP rfl rfl (kX0_putAt hP hD i i (by omega) (by omega)) [] (cwV 2 hts gX0_orderByNumbers_X0_putAt rfl rfl rfl hdX0_putAt ⟨Nat.le_of_ble_eq_true rfl, Nat.le_of_ble_eq_true rfl⟩) rfl hl.1 rfl (Nat.le_of_ble_eq_true rfl) dX0_orderByNumbers_11 ⟨Nat.zero_le _, Nat.zero_le _⟩ hS (fun _ h => h) (fun H locs hP hz hkp hS => ?_)
    have hD := vD_same (w2 := wX cy q (nI N) gT gC (nI K) (nI S) ak (upd (idF ta i) i (nI i)) (upd (idF pl i) i (nI i)) cp kd fa fb bm sx sy) (by rfl) hD
    refine lv_iinc (v := nI (i + 1)) (lv' := [(1, .int (nI (i + 1))), (0, .ref (q 0))]) hx hb dX0_orderByNumbers_14 hl (k := 1) rfl (nI_1 _) (by decide) rfl (fun ls hl => ?_)
    refine lv_goto (tgt := 2) hx hb dX0_orderByNumbers_17 (by decide) ?_
    exact ih_2 (i + 1) _ _ _ (by omega) ⟨by omega, lv_sub hl [1, 0] rfl, hP, vD_same (by rfl) hD, hS⟩

theorem hdX0_things : yX0_things.cls = RX0 ∧ yX0_things.cls ≠ "java/lang/invoke/MethodHandle" ∧ yX0_things.cls ≠ "java/lang/invoke/VarHandle" ∧ (parseMethodDescriptor yX0_things.desc).map (fun d => d.parameters.length) = some 1 := by decide +kernel
set_option maxHeartbeats 4000000 in
set_option maxRecDepth 100000 in
theorem kX0_things {l : Launch} {D : va_G} {cy : ClassId} {H : Heap} {q : Nat → Nat} {gT gC : Int32} {ak : Int64} {ta pl cp kd fa fb bm sx sy : Nat → Int32} {N K S : Nat}  (hP : va_P D vwCl (wX cy q (nI N) gT gC (nI K) (nI S) ak ta pl cp kd fa fb bm sx sy) H) (hD : va_D (aL q) (wX cy q (nI N) gT gC (nI K) (nI S) ak ta pl cp kd fa fb bm sx sy)) (k : Int32)  : Met l yX0_things wsX0_things { frames := 2, cells := 0, slots := 0, locals := 43 } (pcK D cy H [.ref (q 0), .int k]) (qI (some (.int (if 1 ≤ k ∧ k ≤ 12 then nI N else -1))) (va_P D vwCl (if 1 ≤ k ∧ k ≤ 12 then wX cy q k 0 0 (nI 0) (nI S) ak (idF ta 12) (idF pl 12) cp kd fa fb bm sx sy else wX cy q (nI N) gT gC (nI K) (nI S) ak ta pl cp kd fa fb bm sx sy)) (aL q)) 0 0 (aL q) := by
  refine mV 3 (by decide) rfl (Nat.le_of_ble_eq_true rfl) ?_
  intro p e s m below meth c hx hb hml hr hlk hts hown hnm hK hH ls hl
  have hC := (⟨hx, hb, hml, hown, hts⟩ : CallFix p m c cX0_things 3 s _ wsX0_things RX0)
  have hin : ∀ w ∈ wsX00, w ∈ wsX0_things := by decide +kernel
  have L7 : Cond.fieldLink RX0 7 "TwoColours" "thingCount" "I" ∈ wsX0_things := by decide +kernel
  have L20 : Cond.fieldLink RX0 20 "TwoColours" "heldThings" "I" ∈ wsX0_things := by decide +kernel
  have L23 : Cond.fieldLink RX0 23 "TwoColours" "heldColours" "I" ∈ wsX0_things := by decide +kernel
  have L29 : Cond.fieldLink RX0 29 "TwoColours" "heapCount" "I" ∈ wsX0_things := by decide +kernel
  have hl : lv_has ls 3 [(0, .ref (q 0)), (1, .int (k))] := hl
  have hS : va_S (aL q) s.heap H [] := by rw [hH]; exact va_S.rf
  refine lv_iload_n hx hb dX0_things_0 rfl (lv_at hl 1 rfl) ?_
  refine lv_iconst (v := 1) hx hb dX0_things_1 (by decide) ?_
  refine lv_icmp_lt (tgt := 11) hx hb dX0_things_2 (by decide) (fun cz1 => ?_) (fun cz1 => ?_)
  · refine lv_iconst (v := (-1)) hx hb dX0_things_11 (by decide) ?_
    exact rIw hx hb hr hlk hS (by rw [if_neg (fun h => absurd h.1 (Int32.not_le.mpr cz1))]; exact hP) dX0_things_12 (by rw [if_neg (fun h => absurd h.1 (Int32.not_le.mpr cz1))])
  · refine lv_iload_n hx hb dX0_things_5 rfl (lv_at hl 1 rfl) ?_
    refine lv_bipush (v := 12) hx hb dX0_things_6 (by decide) ?_
    refine lv_icmp_le (tgt := 13) hx hb dX0_things_8 (by decide) (fun cz2 => ?_) (fun cz2 => ?_)
    · obtain ⟨j, hj1, hj2, ej⟩ := in112 cz1 cz2
      subst ej
      refine lv_aload_n hx hb dX0_things_13 rfl (lv_at hl 0 rfl) ?_
      refine gX_thingCount hx hb hts hin hown hK hP L7 dX0_things_14 ?_
      refine lv_istore_n (lv' := [(2, .int (nI N)), (0, .ref (q 0)), (1, .int (nI j))]) hx hb dX0_things_17 rfl hl (by decide) rfl (fun ls hl => ?_)
      refine lv_aload_n hx hb dX0_things_18 rfl (lv_at hl 1 rfl) ?_
      refine lv_iload_n hx hb dX0_things_19 rfl (lv_at hl 2 rfl) ?_
      refine pX_thingCount hx hb hts hin hown hK hP hD hS L7 dX0_things_20 (fun H locs hP hD hS => ?_)
      refine lv_aload_n hx hb dX0_things_23 rfl (lv_at hl 1 rfl) ?_
      refine lv_iconst (v := 0) hx hb dX0_things_24 (by decide) ?_
      refine pX_heldThings hx hb hts hin hown hK hP hD hS L20 dX0_things_25 (fun H locs hP hD hS => ?_)
      refine lv_aload_n hx hb dX0_things_28 rfl (lv_at hl 1 rfl) ?_
      refine lv_iconst (v := 0) hx hb dX0_things_29 (by decide) ?_
      refine pX_heldColours hx hb hts hin hown hK hP hD hS L23 dX0_things_30 (fun H locs hP hD hS => ?_)
      refine lv_aload_n hx hb dX0_things_33 rfl (lv_at hl 1 rfl) ?_
      refine lv_iconst (v := 0) hx hb dX0_things_34 (by decide) ?_
      refine tpI (y := nI 0) nI_0.symm ?_
      refine pX_heapCount hx hb hts hin hown hK hP hD hS L29 dX0_things_35 (fun H locs hP hD hS => ?_)
      refine lv_aload_n hx hb dX0_things_38 rfl (lv_at hl 1 rfl) ?_
      refine cVw (As := []) hC hK hP rfl rfl (kX0_orderByNumbers hP hD  ) [] (cwV 0 hts gX0_things_X0_orderByNumbers rfl rfl rfl hdX0_orderByNumbers ⟨Nat.le_of_ble_eq_true rfl, Nat.le_of_ble_eq_true rfl⟩) rfl hl.1 rfl (Nat.le_of_ble_eq_true rfl) dX0_things_39 ⟨Nat.zero_le _, Nat.zero_le _⟩ hS (fun _ h => h) (fun H locs hP hz hkp hS => ?_)
      have hD := vD_same (w2 := wX cy q (nI j) 0 0 (nI 0) (nI S) ak (idF ta 12) (idF pl 12) cp kd fa fb bm sx sy) (by rfl) hD
      refine lv_iload_n hx hb dX0_things_42 rfl (lv_at hl 0 rfl) ?_
      exact rIw hx hb hr hlk hS (by rw [if_pos ⟨Int32.not_lt.mp cz1, cz2⟩]; exact hP) dX0_things_43 (by rw [if_pos ⟨Int32.not_lt.mp cz1, cz2⟩])
    · refine lv_iconst (v := (-1)) hx hb dX0_things_11 (by decide) ?_
      exact rIw hx hb hr hlk hS (by rw [if_neg (fun h => cz2 h.2)]; exact hP) dX0_things_12 (by rw [if_neg (fun h => cz2 h.2)])

theorem hdX0_heap : yX0_heap.cls = RX0 ∧ yX0_heap.cls ≠ "java/lang/invoke/MethodHandle" ∧ yX0_heap.cls ≠ "java/lang/invoke/VarHandle" ∧ (parseMethodDescriptor yX0_heap.desc).map (fun d => d.parameters.length) = some 3 := by decide +kernel
set_option maxHeartbeats 4000000 in
set_option maxRecDepth 100000 in
theorem kX0_heap {l : Launch} {D : va_G} {cy : ClassId} {H : Heap} {q : Nat → Nat} {gT gC : Int32} {ak : Int64} {ta pl cp kd fa fb bm sx sy : Nat → Int32} {N K S : Nat}  (hP : va_P D vwCl (wX cy q (nI N) gT gC (nI K) (nI S) ak ta pl cp kd fa fb bm sx sy) H) (hD : va_D (aL q) (wX cy q (nI N) gT gC (nI K) (nI S) ak ta pl cp kd fa fb bm sx sy)) (k : Int32) (a : Int32) (b : Int32) (hN : N ≤ 12) (hKn : K ≤ 10) : Met l yX0_heap wsX0_heap { frames := 3, cells := 0, slots := 0, locals := 71 } (pcK D cy H [.ref (q 0), .int k, .int a, .int b]) (qI (some (.int (if canX N k a b = true ∧ K < 10 then nI K else if canX N k a b = true then -3 else -1))) (va_P D vwCl (if canX N k a b = true ∧ K < 10 then wX cy q (nI N) gT gC (nI (K + 1)) (nI S) ak ta pl cp (upd kd K k) (upd fa K a) (upd fb K b) (upd bm K (setF (fun t => belX pl t k a b) N)) sx sy else if canX N k a b = true then wX cy q (nI N) gT gC (nI K) (nI S) ak ta pl cp kd fa fb bm sx sy else wX cy q (nI N) gT gC (nI K) (nI S) ak ta pl cp kd fa fb bm sx sy)) (aL q)) 0 0 (aL q) := by
  refine mV 5 (by decide) rfl (Nat.le_of_ble_eq_true rfl) ?_
  intro p e s m below meth c hx hb hml hr hlk hts hown hnm hK hH ls hl
  have hC := (⟨hx, hb, hml, hown, hts⟩ : CallFix p m c cX0_heap 5 s _ wsX0_heap RX0)
  have hin : ∀ w ∈ wsX00, w ∈ wsX0_heap := by decide +kernel
  have L29 : Cond.fieldLink RX0 29 "TwoColours" "heapCount" "I" ∈ wsX0_heap := by decide +kernel
  have L32 : Cond.fieldLink RX0 32 "TwoColours" "heapKind" "[I" ∈ wsX0_heap := by decide +kernel
  have L35 : Cond.fieldLink RX0 35 "TwoColours" "heapA" "[I" ∈ wsX0_heap := by decide +kernel
  have L38 : Cond.fieldLink RX0 38 "TwoColours" "heapB" "[I" ∈ wsX0_heap := by decide +kernel
  have L41 : Cond.fieldLink RX0 41 "TwoColours" "heapBits" "[I" ∈ wsX0_heap := by decide +kernel
  have hl : lv_has ls 5 [(0, .ref (q 0)), (1, .int (k)), (2, .int (a)), (3, .int (b))] := hl
  have hS : va_S (aL q) s.heap H [] := by rw [hH]; exact va_S.rf
  refine lv_aload_n hx hb dX0_heap_0 rfl (lv_at hl 0 rfl) ?_
  refine lv_iload_n hx hb dX0_heap_1 rfl (lv_at hl 1 rfl) ?_
  refine lv_iload_n hx hb dX0_heap_2 rfl (lv_at hl 2 rfl) ?_
  refine lv_iload_n hx hb dX0_heap_3 rfl (lv_at hl 3 rfl) ?_
  refine cV (As := [.int (k), .int (a), .int (b)]) hC hK hP rfl rfl (kX0_canBeHeap hP k a b (by omega)) [] (cwV 3 hts gX0_heap_X0_canBeHeap rfl rfl rfl hdX0_canBeHeap ⟨Nat.le_of_ble_eq_true rfl, Nat.le_of_ble_eq_true rfl⟩) rfl hl.1 rfl (Nat.le_of_ble_eq_true rfl) dX0_heap_4 ⟨Nat.zero_le _, Nat.zero_le _⟩ ?_
  refine lv_if_ne (tgt := 12) hx hb dX0_heap_7 (by decide) (fun cz1 => ?_) (fun cz1 => ?_)
  · have cz1 := b2_1 cz1
    refine lv_aload_n hx hb dX0_heap_12 rfl (lv_at hl 0 rfl) ?_
    refine gX_heapCount hx hb hts hin hown hK hP L29 dX0_heap_13 ?_
    refine lv_bipush (v := 10) hx hb dX0_heap_16 (by decide) ?_
    refine lv_icmp_lt (tgt := 24) hx hb dX0_heap_18 (by decide) (fun cz2 => ?_) (fun cz2 => ?_)
    · have cz2 : K < 10 := (nI_ltI (a := K) (b := 10) (by omega) (by omega)).mp cz2
      refine lv_aload_n hx hb dX0_heap_24 rfl (lv_at hl 0 rfl) ?_
      refine gX_heapCount hx hb hts hin hown hK hP L29 dX0_heap_25 ?_
      refine lv_istore (lv' := [(4, .int (nI K)), (0, .ref (q 0)), (1, .int (k)), (2, .int (a)), (3, .int (b))]) hx hb dX0_heap_28 hl (by decide) rfl (fun ls hl => ?_)
      refine lv_aload_n hx hb dX0_heap_30 rfl (lv_at hl 1 rfl) ?_
      refine gX_heapKind hx hb hts hin hown hK hP L32 dX0_heap_31 ?_
      refine lv_iload hx hb dX0_heap_34 (lv_at hl 0 rfl) ?_
      refine lv_iload_n hx hb dX0_heap_36 rfl (lv_at hl 2 rfl) ?_
      refine stX_heapKind (j := K) hx hb hK hP hD hS rfl (by omega) dX0_heap_37 (fun H locs hP hD hS => ?_)
      refine lv_aload_n hx hb dX0_heap_38 rfl (lv_at hl 1 rfl) ?_
      refine gX_heapA hx hb hts hin hown hK hP L35 dX0_heap_39 ?_
      refine lv_iload hx hb dX0_heap_42 (lv_at hl 0 rfl) ?_
      refine lv_iload_n hx hb dX0_heap_44 rfl (lv_at hl 3 rfl) ?_
      refine stX_heapA (j := K) hx hb hK hP hD hS rfl (by omega) dX0_heap_45 (fun H locs hP hD hS => ?_)
      refine lv_aload_n hx hb dX0_heap_46 rfl (lv_at hl 1 rfl) ?_
      refine gX_heapB hx hb hts hin hown hK hP L38 dX0_heap_47 ?_
      refine lv_iload hx hb dX0_heap_50 (lv_at hl 0 rfl) ?_
      refine lv_iload_n hx hb dX0_heap_52 rfl (lv_at hl 4 rfl) ?_
      refine stX_heapB (j := K) hx hb hK hP hD hS rfl (by omega) dX0_heap_53 (fun H locs hP hD hS => ?_)
      refine lv_aload_n hx hb dX0_heap_54 rfl (lv_at hl 1 rfl) ?_
      refine gX_heapBits hx hb hts hin hown hK hP L41 dX0_heap_55 ?_
      refine lv_iload hx hb dX0_heap_58 (lv_at hl 0 rfl) ?_
      refine lv_aload_n hx hb dX0_heap_60 rfl (lv_at hl 1 rfl) ?_
      refine lv_iload_n hx hb dX0_heap_61 rfl (lv_at hl 2 rfl) ?_
      refine lv_iload_n hx hb dX0_heap_62 rfl (lv_at hl 3 rfl) ?_
      refine lv_iload_n hx hb dX0_heap_63 rfl (lv_at hl 4 rfl) ?_
      refine cV (As := [.int (k), .int (a), .int (b)]) hC hK hP rfl rfl (kX0_thingsOf hP k a b (by omega)) [.int (nI K), .ref (q 7)] (cwV 3 hts gX0_heap_X0_thingsOf rfl rfl rfl hdX0_thingsOf ⟨Nat.le_of_ble_eq_true rfl, Nat.le_of_ble_eq_true rfl⟩) rfl hl.1 rfl (Nat.le_of_ble_eq_true rfl) dX0_heap_64 ⟨Nat.zero_le _, Nat.zero_le _⟩ ?_
      refine stX_heapBits (j := K) hx hb hK hP hD hS rfl (by omega) dX0_heap_67 (fun H locs hP hD hS => ?_)
      refine lv_aload_n hx hb dX0_heap_68 rfl (lv_at hl 1 rfl) ?_
      refine lv_dup hx hb dX0_heap_69 rfl ?_
      refine gX_heapCount hx hb hts hin hown hK hP L29 dX0_heap_70 ?_
      refine lv_iconst (v := 1) hx hb dX0_heap_73 (by decide) ?_
      refine lv_iadd hx hb dX0_heap_74 ?_
      refine tpI (y := nI (K + 1)) (nI_1 K) ?_
      refine pX_heapCount hx hb hts hin hown hK hP hD hS L29 dX0_heap_75 (fun H locs hP hD hS => ?_)
      refine lv_iload hx hb dX0_heap_78 (lv_at hl 0 rfl) ?_
      exact rIw hx hb hr hlk hS (by rw [if_pos ⟨cz1, cz2⟩]; exact hP) dX0_heap_80 (by rw [if_pos ⟨cz1, cz2⟩])
    · have cz2 : ¬ K < 10 := fun h => cz2 ((nI_ltI (a := K) (b := 10) (by omega) (by omega)).mpr h)
      refine lv_bipush (v := (-3)) hx hb dX0_heap_21 (by decide) ?_
      exact rIw hx hb hr hlk hS (by rw [if_neg (fun h => cz2 h.2), if_pos cz1]; exact hP) dX0_heap_23 (by rw [if_neg (fun h => cz2 h.2), if_pos cz1])
  · have cz1 := b2_0 cz1
    refine lv_iconst (v := (-1)) hx hb dX0_heap_10 (by decide) ?_
    exact rIw hx hb hr hlk hS (by rw [if_neg (fun h => cz1 h.1), if_neg cz1]; exact hP) dX0_heap_11 (by rw [if_neg (fun h => cz1 h.1), if_neg cz1])

theorem hdX0_drop : yX0_drop.cls = RX0 ∧ yX0_drop.cls ≠ "java/lang/invoke/MethodHandle" ∧ yX0_drop.cls ≠ "java/lang/invoke/VarHandle" ∧ (parseMethodDescriptor yX0_drop.desc).map (fun d => d.parameters.length) = some 0 := by decide +kernel
set_option maxHeartbeats 4000000 in
set_option maxRecDepth 100000 in
theorem kX0_drop {l : Launch} {D : va_G} {cy : ClassId} {H : Heap} {q : Nat → Nat} {gT gC : Int32} {ak : Int64} {ta pl cp kd fa fb bm sx sy : Nat → Int32} {N K S : Nat}  (hP : va_P D vwCl (wX cy q (nI N) gT gC (nI K) (nI S) ak ta pl cp kd fa fb bm sx sy) H) (hD : va_D (aL q) (wX cy q (nI N) gT gC (nI K) (nI S) ak ta pl cp kd fa fb bm sx sy))  (hKn : K ≤ 10) : Met l yX0_drop wsX0_drop { frames := 0, cells := 0, slots := 0, locals := 0 } (pcK D cy H [.ref (q 0)]) (qI (some (.int (if K = 0 then -2 else nI (K - 1)))) (va_P D vwCl (if K = 0 then wX cy q (nI N) gT gC (nI K) (nI S) ak ta pl cp kd fa fb bm sx sy else wX cy q (nI N) gT gC (nI (K - 1)) (nI S) ak ta pl cp kd fa fb bm sx sy)) (aL q)) 0 0 (aL q) := by
  refine mV 1 (by decide) rfl (Nat.le_of_ble_eq_true rfl) ?_
  intro p e s m below meth c hx hb hml hr hlk hts hown hnm hK hH ls hl
  have hC := (⟨hx, hb, hml, hown, hts⟩ : CallFix p m c cX0_drop 1 s _ wsX0_drop RX0)
  have hin : ∀ w ∈ wsX00, w ∈ wsX0_drop := by decide +kernel
  have L29 : Cond.fieldLink RX0 29 "TwoColours" "heapCount" "I" ∈ wsX0_drop := by decide +kernel
  have hl : lv_has ls 1 [(0, .ref (q 0))] := hl
  have hS : va_S (aL q) s.heap H [] := by rw [hH]; exact va_S.rf
  refine lv_aload_n hx hb dX0_drop_0 rfl (lv_at hl 0 rfl) ?_
  refine gX_heapCount hx hb hts hin hown hK hP L29 dX0_drop_1 ?_
  refine lv_if_ne (tgt := 10) hx hb dX0_drop_4 (by decide) (fun cz1 => ?_) (fun cz1 => ?_)
  · have cz1 : ¬ K = 0 := fun h => cz1 ((nI_eq (a := K) (b := 0) (by omega) (by omega)).mpr h)
    refine lv_aload_n hx hb dX0_drop_10 rfl (lv_at hl 0 rfl) ?_
    refine lv_dup hx hb dX0_drop_11 rfl ?_
    refine gX_heapCount hx hb hts hin hown hK hP L29 dX0_drop_12 ?_
    refine lv_iconst (v := 1) hx hb dX0_drop_15 (by decide) ?_
    refine lv_isub hx hb dX0_drop_16 ?_
    refine tpI (y := nI (K - 1)) (nI_sub1 cz1) ?_
    refine pX_heapCount hx hb hts hin hown hK hP hD hS L29 dX0_drop_17 (fun H locs hP hD hS => ?_)
    refine lv_aload_n hx hb dX0_drop_20 rfl (lv_at hl 0 rfl) ?_
    refine gX_heapCount hx hb hts hin hown hK hP L29 dX0_drop_21 ?_
    exact rIw hx hb hr hlk hS (by rw [if_neg cz1]; exact hP) dX0_drop_24 (by rw [if_neg cz1])
  · have cz1 : K = 0 := (nI_eq (a := K) (b := 0) (by omega) (by omega)).mp cz1
    refine lv_bipush (v := (-2)) hx hb dX0_drop_7 (by decide) ?_
    exact rIw hx hb hr hlk hS (by rw [if_pos cz1]; exact hP) dX0_drop_9 (by rw [if_pos cz1])

theorem hdX0_has : yX0_has.cls = RX0 ∧ yX0_has.cls ≠ "java/lang/invoke/MethodHandle" ∧ yX0_has.cls ≠ "java/lang/invoke/VarHandle" ∧ (parseMethodDescriptor yX0_has.desc).map (fun d => d.parameters.length) = some 2 := by decide +kernel
set_option maxHeartbeats 4000000 in
set_option maxRecDepth 100000 in
theorem kX0_has {l : Launch} {D : va_G} {cy : ClassId} {H : Heap} {q : Nat → Nat} {gT gC : Int32} {ak : Int64} {ta pl cp kd fa fb bm sx sy : Nat → Int32} {N K S : Nat}  (hP : va_P D vwCl (wX cy q (nI N) gT gC (nI K) (nI S) ak ta pl cp kd fa fb bm sx sy) H) (hD : va_D (aL q) (wX cy q (nI N) gT gC (nI K) (nI S) ak ta pl cp kd fa fb bm sx sy)) (k : Int32) (h : Int32) (hN : N ≤ 12) (hKn : K ≤ 10) : Met l yX0_has wsX0_has { frames := 1, cells := 0, slots := 0, locals := 21 } (pcK D cy H [.ref (q 0), .int k, .int h]) (qI (some (.int (if (0 ≤ k ∧ k < nI K) ∧ (0 ≤ h ∧ h < nI N) then bitI (bm (ix k)) h else -1))) (va_P D vwCl (if (0 ≤ k ∧ k < nI K) ∧ (0 ≤ h ∧ h < nI N) then wX cy q (nI N) gT gC (nI K) (nI S) (ak + (trI (kd (ix k))).toInt64) ta pl cp kd fa fb bm sx sy else wX cy q (nI N) gT gC (nI K) (nI S) ak ta pl cp kd fa fb bm sx sy)) (aL q)) 0 0 (aL q) := by
  refine mV 3 (by decide) rfl (Nat.le_of_ble_eq_true rfl) ?_
  intro p e s m below meth c hx hb hml hr hlk hts hown hnm hK hH ls hl
  have hC := (⟨hx, hb, hml, hown, hts⟩ : CallFix p m c cX0_has 3 s _ wsX0_has RX0)
  have hin : ∀ w ∈ wsX00, w ∈ wsX0_has := by decide +kernel
  have L32 : Cond.fieldLink RX0 32 "TwoColours" "heapKind" "[I" ∈ wsX0_has := by decide +kernel
  have L41 : Cond.fieldLink RX0 41 "TwoColours" "heapBits" "[I" ∈ wsX0_has := by decide +kernel
  have L53 : Cond.fieldLink RX0 53 "TwoColours" "asked" "J" ∈ wsX0_has := by decide +kernel
  have hl : lv_has ls 3 [(0, .ref (q 0)), (1, .int (k)), (2, .int (h))] := hl
  have hS : va_S (aL q) s.heap H [] := by rw [hH]; exact va_S.rf
  refine lv_aload_n hx hb dX0_has_0 rfl (lv_at hl 0 rfl) ?_
  refine lv_iload_n hx hb dX0_has_1 rfl (lv_at hl 1 rfl) ?_
  refine cV (As := [.int (k)]) hC hK hP rfl rfl (kX0_isHeap hP k ) [] (cwV 1 hts gX0_has_X0_isHeap rfl rfl rfl hdX0_isHeap ⟨Nat.le_of_ble_eq_true rfl, Nat.le_of_ble_eq_true rfl⟩) rfl hl.1 rfl (Nat.le_of_ble_eq_true rfl) dX0_has_2 ⟨Nat.zero_le _, Nat.zero_le _⟩ ?_
  refine lv_if_eq (tgt := 16) hx hb dX0_has_5 (by decide) (fun cz1 => ?_) (fun cz1 => ?_)
  · have cz1 := b2_0 cz1
    refine lv_iconst (v := (-1)) hx hb dX0_has_16 (by decide) ?_
    exact rIw hx hb hr hlk hS (by rw [if_neg (fun h => cz1 h.1)]; exact hP) dX0_has_17 (by rw [if_neg (fun h => cz1 h.1)])
  · have cz1 := b2_1 cz1
    obtain ⟨j, hj, ej⟩ := inN cz1 (by omega)
    subst ej
    refine lv_aload_n hx hb dX0_has_8 rfl (lv_at hl 0 rfl) ?_
    refine lv_iload_n hx hb dX0_has_9 rfl (lv_at hl 2 rfl) ?_
    refine cV (As := [.int (h)]) hC hK hP rfl rfl (kX0_isThing hP h ) [] (cwV 1 hts gX0_has_X0_isThing rfl rfl rfl hdX0_isThing ⟨Nat.le_of_ble_eq_true rfl, Nat.le_of_ble_eq_true rfl⟩) rfl hl.1 rfl (Nat.le_of_ble_eq_true rfl) dX0_has_10 ⟨Nat.zero_le _, Nat.zero_le _⟩ ?_
    refine lv_if_ne (tgt := 18) hx hb dX0_has_13 (by decide) (fun cz2 => ?_) (fun cz2 => ?_)
    · have cz2 := b2_1 cz2
      refine lv_aload_n hx hb dX0_has_18 rfl (lv_at hl 0 rfl) ?_
      refine lv_dup hx hb dX0_has_19 rfl ?_
      refine gX_asked hx hb hts hin hown hK hP L53 dX0_has_20 ?_
      refine lv_aload_n hx hb dX0_has_23 rfl (lv_at hl 0 rfl) ?_
      refine gX_heapKind hx hb hts hin hown hK hP L32 dX0_has_24 ?_
      refine lv_iload_n hx hb dX0_has_27 rfl (lv_at hl 1 rfl) ?_
      refine ldX_heapKind (j := j) hx hb hK hP rfl (by omega) dX0_has_28 ?_
      refine cS (As := [.int (kd j)]) hC (kX0_traceOf (kd j) ) [.long (ak), .ref (q 0)] (va_cwS 1 hts gX0_has_X0_traceOf rfl rfl rfl (by decide +kernel) ⟨Nat.le_of_ble_eq_true rfl, Nat.le_of_ble_eq_true rfl⟩) rfl hl.1 rfl (Nat.le_of_ble_eq_true rfl) dX0_has_29 ⟨Nat.zero_le _, Nat.zero_le _⟩ ?_
      refine lv_i2l hx hb dX0_has_32 rfl ?_
      refine lv_ladd hx hb dX0_has_33 ?_
      refine pX_asked hx hb hts hin hown hK hP hD hS L53 dX0_has_34 (fun H locs hP hD hS => ?_)
      refine lv_aload_n hx hb dX0_has_37 rfl (lv_at hl 0 rfl) ?_
      refine gX_heapBits hx hb hts hin hown hK hP L41 dX0_has_38 ?_
      refine lv_iload_n hx hb dX0_has_41 rfl (lv_at hl 1 rfl) ?_
      refine ldX_heapBits (j := j) hx hb hK hP rfl (by omega) dX0_has_42 ?_
      refine lv_iload_n hx hb dX0_has_43 rfl (lv_at hl 2 rfl) ?_
      refine cS (As := [.int (bm j), .int (h)]) hC (kX0_bitOf (bm j) h ) [] (va_cwS 2 hts gX0_has_X0_bitOf rfl rfl rfl (by decide +kernel) ⟨Nat.le_of_ble_eq_true rfl, Nat.le_of_ble_eq_true rfl⟩) rfl hl.1 rfl (Nat.le_of_ble_eq_true rfl) dX0_has_44 ⟨Nat.zero_le _, Nat.zero_le _⟩ ?_
      exact rIw hx hb hr hlk hS (by rw [if_pos ⟨cz1, cz2⟩, ix_nI (by omega)]; exact hP) dX0_has_47 (by rw [if_pos ⟨cz1, cz2⟩, ix_nI (by omega)])
    · have cz2 := b2_0 cz2
      refine lv_iconst (v := (-1)) hx hb dX0_has_16 (by decide) ?_
      exact rIw hx hb hr hlk hS (by rw [if_neg (fun h => cz2 h.2)]; exact hP) dX0_has_17 (by rw [if_neg (fun h => cz2 h.2)])

theorem hdX0_hold : yX0_hold.cls = RX0 ∧ yX0_hold.cls ≠ "java/lang/invoke/MethodHandle" ∧ yX0_hold.cls ≠ "java/lang/invoke/VarHandle" ∧ (parseMethodDescriptor yX0_hold.desc).map (fun d => d.parameters.length) = some 2 := by decide +kernel
set_option maxHeartbeats 4000000 in
set_option maxRecDepth 100000 in
theorem kX0_hold {l : Launch} {D : va_G} {cy : ClassId} {H : Heap} {q : Nat → Nat} {gT gC : Int32} {ak : Int64} {ta pl cp kd fa fb bm sx sy : Nat → Int32} {N K S : Nat}  (hP : va_P D vwCl (wX cy q (nI N) gT gC (nI K) (nI S) ak ta pl cp kd fa fb bm sx sy) H) (hD : va_D (aL q) (wX cy q (nI N) gT gC (nI K) (nI S) ak ta pl cp kd fa fb bm sx sy)) (k : Int32) (h : Int32)  : Met l yX0_hold wsX0_hold { frames := 2, cells := 0, slots := 0, locals := 42 } (pcK D cy H [.ref (q 0), .int k, .int h]) (qI (some (.int (if (0 ≤ k ∧ k < nI N) ∧ (-1 ≤ h ∧ h ≤ 1) then if bitI gT k = 1 then bitI gC k else -1 else -2))) (va_P D vwCl (if (0 ≤ k ∧ k < nI N) ∧ (-1 ≤ h ∧ h ≤ 1) then wX cy q (nI N) (if h = -1 then gT &&& (((1 : Int32) <<< (k &&& 31)) ^^^ -1) else gT ||| ((1 : Int32) <<< (k &&& 31))) (if h = 1 then gC ||| ((1 : Int32) <<< (k &&& 31)) else gC &&& (((1 : Int32) <<< (k &&& 31)) ^^^ -1)) (nI K) (nI S) ak ta pl cp kd fa fb bm sx sy else wX cy q (nI N) gT gC (nI K) (nI S) ak ta pl cp kd fa fb bm sx sy)) (aL q)) 0 0 (aL q) := by
  refine mV 5 (by decide) rfl (Nat.le_of_ble_eq_true rfl) ?_
  intro p e s m below meth c hx hb hml hr hlk hts hown hnm hK hH ls hl
  have hC := (⟨hx, hb, hml, hown, hts⟩ : CallFix p m c cX0_hold 5 s _ wsX0_hold RX0)
  have hin : ∀ w ∈ wsX00, w ∈ wsX0_hold := by decide +kernel
  have L20 : Cond.fieldLink RX0 20 "TwoColours" "heldThings" "I" ∈ wsX0_hold := by decide +kernel
  have L23 : Cond.fieldLink RX0 23 "TwoColours" "heldColours" "I" ∈ wsX0_hold := by decide +kernel
  have hl : lv_has ls 5 [(0, .ref (q 0)), (1, .int (k)), (2, .int (h))] := hl
  have hS : va_S (aL q) s.heap H [] := by rw [hH]; exact va_S.rf
  refine lv_aload_n hx hb dX0_hold_0 rfl (lv_at hl 0 rfl) ?_
  refine lv_iload_n hx hb dX0_hold_1 rfl (lv_at hl 1 rfl) ?_
  refine cV (As := [.int (k)]) hC hK hP rfl rfl (kX0_isThing hP k ) [] (cwV 1 hts gX0_hold_X0_isThing rfl rfl rfl hdX0_isThing ⟨Nat.le_of_ble_eq_true rfl, Nat.le_of_ble_eq_true rfl⟩) rfl hl.1 rfl (Nat.le_of_ble_eq_true rfl) dX0_hold_2 ⟨Nat.zero_le _, Nat.zero_le _⟩ ?_
  refine lv_if_eq (tgt := 18) hx hb dX0_hold_5 (by decide) (fun cz1 => ?_) (fun cz1 => ?_)
  · have cz1 := b2_0 cz1
    refine lv_bipush (v := (-2)) hx hb dX0_hold_18 (by decide) ?_
    exact rIw hx hb hr hlk hS (by rw [if_neg (fun h => cz1 h.1)]; exact hP) dX0_hold_20 (by rw [if_neg (fun h => cz1 h.1)])
  · have cz1 := b2_1 cz1
    refine lv_iload_n hx hb dX0_hold_8 rfl (lv_at hl 2 rfl) ?_
    refine lv_iconst (v := (-1)) hx hb dX0_hold_9 (by decide) ?_
    refine lv_icmp_lt (tgt := 18) hx hb dX0_hold_10 (by decide) (fun cz2 => ?_) (fun cz2 => ?_)
    · refine lv_bipush (v := (-2)) hx hb dX0_hold_18 (by decide) ?_
      exact rIw hx hb hr hlk hS (by rw [if_neg (fun h => absurd h.2.1 (Int32.not_le.mpr cz2))]; exact hP) dX0_hold_20 (by rw [if_neg (fun h => absurd h.2.1 (Int32.not_le.mpr cz2))])
    · refine lv_iload_n hx hb dX0_hold_13 rfl (lv_at hl 2 rfl) ?_
      refine lv_iconst (v := 1) hx hb dX0_hold_14 (by decide) ?_
      refine lv_icmp_le (tgt := 21) hx hb dX0_hold_15 (by decide) (fun cz3 => ?_) (fun cz3 => ?_)
      · refine lv_aload_n hx hb dX0_hold_21 rfl (lv_at hl 0 rfl) ?_
        refine lv_iload_n hx hb dX0_hold_22 rfl (lv_at hl 1 rfl) ?_
        refine cV (As := [.int (k)]) hC hK hP rfl rfl (kX0_isHeld hP k ) [] (cwV 1 hts gX0_hold_X0_isHeld rfl rfl rfl hdX0_isHeld ⟨Nat.le_of_ble_eq_true rfl, Nat.le_of_ble_eq_true rfl⟩) rfl hl.1 rfl (Nat.le_of_ble_eq_true rfl) dX0_hold_23 ⟨Nat.zero_le _, Nat.zero_le _⟩ ?_
        refine lv_if_eq (tgt := 40) hx hb dX0_hold_26 (by decide) (fun cz4 => ?_) (fun cz4 => ?_)
        · have cz4 := b2_0 cz4
          refine lv_iconst (v := (-1)) hx hb dX0_hold_40 (by decide) ?_
          refine lv_istore_n (lv' := [(3, .int (-1)), (0, .ref (q 0)), (1, .int (k)), (2, .int (h))]) hx hb dX0_hold_41 rfl hl (by decide) rfl (fun ls hl => ?_)
          refine lv_iconst (v := 1) hx hb dX0_hold_42 (by decide) ?_
          refine lv_iload_n hx hb dX0_hold_43 rfl (lv_at hl 2 rfl) ?_
          refine lv_ishl hx hb dX0_hold_44 ?_
          refine lv_istore (lv' := [(4, .int ((1 : Int32) <<< (k &&& 31))), (3, .int (-1)), (0, .ref (q 0)), (1, .int (k)), (2, .int (h))]) hx hb dX0_hold_45 hl (by decide) rfl (fun ls hl => ?_)
          refine lv_aload_n hx hb dX0_hold_47 rfl (lv_at hl 2 rfl) ?_
          refine lv_iload_n hx hb dX0_hold_48 rfl (lv_at hl 4 rfl) ?_
          refine lv_iconst (v := (-1)) hx hb dX0_hold_49 (by decide) ?_
          refine lv_icmp_ne (tgt := 65) hx hb dX0_hold_50 (by decide) (fun cz5 => ?_) (fun cz5 => ?_)
          · refine lv_aload_n hx hb dX0_hold_65 rfl (lv_at hl 2 rfl) ?_
            refine gX_heldThings hx hb hts hin hown hK hP L20 dX0_hold_66 ?_
            refine lv_iload hx hb dX0_hold_69 (lv_at hl 0 rfl) ?_
            refine lv_ior hx hb dX0_hold_71 ?_
            refine pX_heldThings hx hb hts hin hown hK hP hD hS L20 dX0_hold_72 (fun H locs hP hD hS => ?_)
            refine lv_aload_n hx hb dX0_hold_75 rfl (lv_at hl 2 rfl) ?_
            refine lv_iload_n hx hb dX0_hold_76 rfl (lv_at hl 4 rfl) ?_
            refine lv_iconst (v := 1) hx hb dX0_hold_77 (by decide) ?_
            refine lv_icmp_ne (tgt := 91) hx hb dX0_hold_78 (by decide) (fun cz6 => ?_) (fun cz6 => ?_)
            · refine lv_aload_n hx hb dX0_hold_91 rfl (lv_at hl 2 rfl) ?_
              refine gX_heldColours hx hb hts hin hown hK hP L23 dX0_hold_92 ?_
              refine lv_iload hx hb dX0_hold_95 (lv_at hl 0 rfl) ?_
              refine lv_iconst (v := (-1)) hx hb dX0_hold_97 (by decide) ?_
              refine lv_ixor hx hb dX0_hold_98 ?_
              refine lv_iand hx hb dX0_hold_99 ?_
              refine pX_heldColours hx hb hts hin hown hK hP hD hS L23 dX0_hold_100 (fun H locs hP hD hS => ?_)
              refine lv_iload_n hx hb dX0_hold_103 rfl (lv_at hl 1 rfl) ?_
              exact rIw hx hb hr hlk hS (by rw [if_pos ⟨cz1, Int32.not_lt.mp cz2, cz3⟩, if_neg cz5, if_neg cz6]; exact hP) dX0_hold_104 (by rw [if_pos ⟨cz1, Int32.not_lt.mp cz2, cz3⟩, if_neg cz4])
            · refine lv_aload_n hx hb dX0_hold_81 rfl (lv_at hl 2 rfl) ?_
              refine gX_heldColours hx hb hts hin hown hK hP L23 dX0_hold_82 ?_
              refine lv_iload hx hb dX0_hold_85 (lv_at hl 0 rfl) ?_
              refine lv_ior hx hb dX0_hold_87 ?_
              refine lv_goto (tgt := 100) hx hb dX0_hold_88 (by decide) ?_
              refine pX_heldColours hx hb hts hin hown hK hP hD hS L23 dX0_hold_100 (fun H locs hP hD hS => ?_)
              refine lv_iload_n hx hb dX0_hold_103 rfl (lv_at hl 1 rfl) ?_
              exact rIw hx hb hr hlk hS (by rw [if_pos ⟨cz1, Int32.not_lt.mp cz2, cz3⟩, if_neg cz5, if_pos cz6]; exact hP) dX0_hold_104 (by rw [if_pos ⟨cz1, Int32.not_lt.mp cz2, cz3⟩, if_neg cz4])
          · refine lv_aload_n hx hb dX0_hold_53 rfl (lv_at hl 2 rfl) ?_
            refine gX_heldThings hx hb hts hin hown hK hP L20 dX0_hold_54 ?_
            refine lv_iload hx hb dX0_hold_57 (lv_at hl 0 rfl) ?_
            refine lv_iconst (v := (-1)) hx hb dX0_hold_59 (by decide) ?_
            refine lv_ixor hx hb dX0_hold_60 ?_
            refine lv_iand hx hb dX0_hold_61 ?_
            refine lv_goto (tgt := 72) hx hb dX0_hold_62 (by decide) ?_
            refine pX_heldThings hx hb hts hin hown hK hP hD hS L20 dX0_hold_72 (fun H locs hP hD hS => ?_)
            refine lv_aload_n hx hb dX0_hold_75 rfl (lv_at hl 2 rfl) ?_
            refine lv_iload_n hx hb dX0_hold_76 rfl (lv_at hl 4 rfl) ?_
            refine lv_iconst (v := 1) hx hb dX0_hold_77 (by decide) ?_
            refine lv_icmp_ne (tgt := 91) hx hb dX0_hold_78 (by decide) (fun cz7 => ?_) (fun cz7 => ?_)
            · refine lv_aload_n hx hb dX0_hold_91 rfl (lv_at hl 2 rfl) ?_
              refine gX_heldColours hx hb hts hin hown hK hP L23 dX0_hold_92 ?_
              refine lv_iload hx hb dX0_hold_95 (lv_at hl 0 rfl) ?_
              refine lv_iconst (v := (-1)) hx hb dX0_hold_97 (by decide) ?_
              refine lv_ixor hx hb dX0_hold_98 ?_
              refine lv_iand hx hb dX0_hold_99 ?_
              refine pX_heldColours hx hb hts hin hown hK hP hD hS L23 dX0_hold_100 (fun H locs hP hD hS => ?_)
              refine lv_iload_n hx hb dX0_hold_103 rfl (lv_at hl 1 rfl) ?_
              exact rIw hx hb hr hlk hS (by rw [if_pos ⟨cz1, Int32.not_lt.mp cz2, cz3⟩, if_pos cz5, if_neg cz7]; exact hP) dX0_hold_104 (by rw [if_pos ⟨cz1, Int32.not_lt.mp cz2, cz3⟩, if_neg cz4])
            · refine lv_aload_n hx hb dX0_hold_81 rfl (lv_at hl 2 rfl) ?_
              refine gX_heldColours hx hb hts hin hown hK hP L23 dX0_hold_82 ?_
              refine lv_iload hx hb dX0_hold_85 (lv_at hl 0 rfl) ?_
              refine lv_ior hx hb dX0_hold_87 ?_
              refine lv_goto (tgt := 100) hx hb dX0_hold_88 (by decide) ?_
              refine pX_heldColours hx hb hts hin hown hK hP hD hS L23 dX0_hold_100 (fun H locs hP hD hS => ?_)
              refine lv_iload_n hx hb dX0_hold_103 rfl (lv_at hl 1 rfl) ?_
              exact rIw hx hb hr hlk hS (by rw [if_pos ⟨cz1, Int32.not_lt.mp cz2, cz3⟩, if_pos cz5, if_pos cz7]; exact hP) dX0_hold_104 (by rw [if_pos ⟨cz1, Int32.not_lt.mp cz2, cz3⟩, if_neg cz4])
        · have cz4 := b2_1 cz4
          refine lv_aload_n hx hb dX0_hold_29 rfl (lv_at hl 0 rfl) ?_
          refine gX_heldColours hx hb hts hin hown hK hP L23 dX0_hold_30 ?_
          refine lv_iload_n hx hb dX0_hold_33 rfl (lv_at hl 1 rfl) ?_
          refine cS (As := [.int (gC), .int (k)]) hC (kX0_bitOf gC k ) [] (va_cwS 2 hts gX0_hold_X0_bitOf rfl rfl rfl (by decide +kernel) ⟨Nat.le_of_ble_eq_true rfl, Nat.le_of_ble_eq_true rfl⟩) rfl hl.1 rfl (Nat.le_of_ble_eq_true rfl) dX0_hold_34 ⟨Nat.zero_le _, Nat.zero_le _⟩ ?_
          refine lv_goto (tgt := 41) hx hb dX0_hold_37 (by decide) ?_
          refine lv_istore_n (lv' := [(3, .int (bitI gC k)), (0, .ref (q 0)), (1, .int (k)), (2, .int (h))]) hx hb dX0_hold_41 rfl hl (by decide) rfl (fun ls hl => ?_)
          refine lv_iconst (v := 1) hx hb dX0_hold_42 (by decide) ?_
          refine lv_iload_n hx hb dX0_hold_43 rfl (lv_at hl 2 rfl) ?_
          refine lv_ishl hx hb dX0_hold_44 ?_
          refine lv_istore (lv' := [(4, .int ((1 : Int32) <<< (k &&& 31))), (3, .int (bitI gC k)), (0, .ref (q 0)), (1, .int (k)), (2, .int (h))]) hx hb dX0_hold_45 hl (by decide) rfl (fun ls hl => ?_)
          refine lv_aload_n hx hb dX0_hold_47 rfl (lv_at hl 2 rfl) ?_
          refine lv_iload_n hx hb dX0_hold_48 rfl (lv_at hl 4 rfl) ?_
          refine lv_iconst (v := (-1)) hx hb dX0_hold_49 (by decide) ?_
          refine lv_icmp_ne (tgt := 65) hx hb dX0_hold_50 (by decide) (fun cz8 => ?_) (fun cz8 => ?_)
          · refine lv_aload_n hx hb dX0_hold_65 rfl (lv_at hl 2 rfl) ?_
            refine gX_heldThings hx hb hts hin hown hK hP L20 dX0_hold_66 ?_
            refine lv_iload hx hb dX0_hold_69 (lv_at hl 0 rfl) ?_
            refine lv_ior hx hb dX0_hold_71 ?_
            refine pX_heldThings hx hb hts hin hown hK hP hD hS L20 dX0_hold_72 (fun H locs hP hD hS => ?_)
            refine lv_aload_n hx hb dX0_hold_75 rfl (lv_at hl 2 rfl) ?_
            refine lv_iload_n hx hb dX0_hold_76 rfl (lv_at hl 4 rfl) ?_
            refine lv_iconst (v := 1) hx hb dX0_hold_77 (by decide) ?_
            refine lv_icmp_ne (tgt := 91) hx hb dX0_hold_78 (by decide) (fun cz9 => ?_) (fun cz9 => ?_)
            · refine lv_aload_n hx hb dX0_hold_91 rfl (lv_at hl 2 rfl) ?_
              refine gX_heldColours hx hb hts hin hown hK hP L23 dX0_hold_92 ?_
              refine lv_iload hx hb dX0_hold_95 (lv_at hl 0 rfl) ?_
              refine lv_iconst (v := (-1)) hx hb dX0_hold_97 (by decide) ?_
              refine lv_ixor hx hb dX0_hold_98 ?_
              refine lv_iand hx hb dX0_hold_99 ?_
              refine pX_heldColours hx hb hts hin hown hK hP hD hS L23 dX0_hold_100 (fun H locs hP hD hS => ?_)
              refine lv_iload_n hx hb dX0_hold_103 rfl (lv_at hl 1 rfl) ?_
              exact rIw hx hb hr hlk hS (by rw [if_pos ⟨cz1, Int32.not_lt.mp cz2, cz3⟩, if_neg cz8, if_neg cz9]; exact hP) dX0_hold_104 (by rw [if_pos ⟨cz1, Int32.not_lt.mp cz2, cz3⟩, if_pos cz4])
            · refine lv_aload_n hx hb dX0_hold_81 rfl (lv_at hl 2 rfl) ?_
              refine gX_heldColours hx hb hts hin hown hK hP L23 dX0_hold_82 ?_
              refine lv_iload hx hb dX0_hold_85 (lv_at hl 0 rfl) ?_
              refine lv_ior hx hb dX0_hold_87 ?_
              refine lv_goto (tgt := 100) hx hb dX0_hold_88 (by decide) ?_
              refine pX_heldColours hx hb hts hin hown hK hP hD hS L23 dX0_hold_100 (fun H locs hP hD hS => ?_)
              refine lv_iload_n hx hb dX0_hold_103 rfl (lv_at hl 1 rfl) ?_
              exact rIw hx hb hr hlk hS (by rw [if_pos ⟨cz1, Int32.not_lt.mp cz2, cz3⟩, if_neg cz8, if_pos cz9]; exact hP) dX0_hold_104 (by rw [if_pos ⟨cz1, Int32.not_lt.mp cz2, cz3⟩, if_pos cz4])
          · refine lv_aload_n hx hb dX0_hold_53 rfl (lv_at hl 2 rfl) ?_
            refine gX_heldThings hx hb hts hin hown hK hP L20 dX0_hold_54 ?_
            refine lv_iload hx hb dX0_hold_57 (lv_at hl 0 rfl) ?_
            refine lv_iconst (v := (-1)) hx hb dX0_hold_59 (by decide) ?_
            refine lv_ixor hx hb dX0_hold_60 ?_
            refine lv_iand hx hb dX0_hold_61 ?_
            refine lv_goto (tgt := 72) hx hb dX0_hold_62 (by decide) ?_
            refine pX_heldThings hx hb hts hin hown hK hP hD hS L20 dX0_hold_72 (fun H locs hP hD hS => ?_)
            refine lv_aload_n hx hb dX0_hold_75 rfl (lv_at hl 2 rfl) ?_
            refine lv_iload_n hx hb dX0_hold_76 rfl (lv_at hl 4 rfl) ?_
            refine lv_iconst (v := 1) hx hb dX0_hold_77 (by decide) ?_
            refine lv_icmp_ne (tgt := 91) hx hb dX0_hold_78 (by decide) (fun cz10 => ?_) (fun cz10 => ?_)
            · refine lv_aload_n hx hb dX0_hold_91 rfl (lv_at hl 2 rfl) ?_
              refine gX_heldColours hx hb hts hin hown hK hP L23 dX0_hold_92 ?_
              refine lv_iload hx hb dX0_hold_95 (lv_at hl 0 rfl) ?_
              refine lv_iconst (v := (-1)) hx hb dX0_hold_97 (by decide) ?_
              refine lv_ixor hx hb dX0_hold_98 ?_
              refine lv_iand hx hb dX0_hold_99 ?_
              refine pX_heldColours hx hb hts hin hown hK hP hD hS L23 dX0_hold_100 (fun H locs hP hD hS => ?_)
              refine lv_iload_n hx hb dX0_hold_103 rfl (lv_at hl 1 rfl) ?_
              exact rIw hx hb hr hlk hS (by rw [if_pos ⟨cz1, Int32.not_lt.mp cz2, cz3⟩, if_pos cz8, if_neg cz10]; exact hP) dX0_hold_104 (by rw [if_pos ⟨cz1, Int32.not_lt.mp cz2, cz3⟩, if_pos cz4])
            · refine lv_aload_n hx hb dX0_hold_81 rfl (lv_at hl 2 rfl) ?_
              refine gX_heldColours hx hb hts hin hown hK hP L23 dX0_hold_82 ?_
              refine lv_iload hx hb dX0_hold_85 (lv_at hl 0 rfl) ?_
              refine lv_ior hx hb dX0_hold_87 ?_
              refine lv_goto (tgt := 100) hx hb dX0_hold_88 (by decide) ?_
              refine pX_heldColours hx hb hts hin hown hK hP hD hS L23 dX0_hold_100 (fun H locs hP hD hS => ?_)
              refine lv_iload_n hx hb dX0_hold_103 rfl (lv_at hl 1 rfl) ?_
              exact rIw hx hb hr hlk hS (by rw [if_pos ⟨cz1, Int32.not_lt.mp cz2, cz3⟩, if_pos cz8, if_pos cz10]; exact hP) dX0_hold_104 (by rw [if_pos ⟨cz1, Int32.not_lt.mp cz2, cz3⟩, if_pos cz4])
      · refine lv_bipush (v := (-2)) hx hb dX0_hold_18 (by decide) ?_
        exact rIw hx hb hr hlk hS (by rw [if_neg (fun h => cz3 h.2.2)]; exact hP) dX0_hold_20 (by rw [if_neg (fun h => cz3 h.2.2)])

theorem hdX0_step : yX0_step.cls = RX0 ∧ yX0_step.cls ≠ "java/lang/invoke/MethodHandle" ∧ yX0_step.cls ≠ "java/lang/invoke/VarHandle" ∧ (parseMethodDescriptor yX0_step.desc).map (fun d => d.parameters.length) = some 2 := by decide +kernel
set_option maxHeartbeats 4000000 in
set_option maxRecDepth 100000 in
theorem kX0_step {l : Launch} {D : va_G} {cy : ClassId} {H : Heap} {q : Nat → Nat} {gT gC : Int32} {ak : Int64} {ta pl cp kd fa fb bm sx sy : Nat → Int32} {N K S : Nat}  (hP : va_P D vwCl (wX cy q (nI N) gT gC (nI K) (nI S) ak ta pl cp kd fa fb bm sx sy) H) (hD : va_D (aL q) (wX cy q (nI N) gT gC (nI K) (nI S) ak ta pl cp kd fa fb bm sx sy)) (x : Int32) (y : Int32) (hSn : S ≤ 10) : Met l yX0_step wsX0_step { frames := 1, cells := 0, slots := 0, locals := 20 } (pcK D cy H [.ref (q 0), .int x, .int y]) (qI (some (.int (if ((-20 ≤ x ∧ x ≤ 20) ∧ (-20 ≤ y ∧ y ≤ 20)) ∧ S < 10 then nI S else if (-20 ≤ x ∧ x ≤ 20) ∧ (-20 ≤ y ∧ y ≤ 20) then -3 else -1))) (va_P D vwCl (if ((-20 ≤ x ∧ x ≤ 20) ∧ (-20 ≤ y ∧ y ≤ 20)) ∧ S < 10 then wX cy q (nI N) gT gC (nI K) (nI (S + 1)) ak ta pl cp kd fa fb bm (upd sx S x) (upd sy S y) else if (-20 ≤ x ∧ x ≤ 20) ∧ (-20 ≤ y ∧ y ≤ 20) then wX cy q (nI N) gT gC (nI K) (nI S) ak ta pl cp kd fa fb bm sx sy else wX cy q (nI N) gT gC (nI K) (nI S) ak ta pl cp kd fa fb bm sx sy)) (aL q)) 0 0 (aL q) := by
  refine mV 4 (by decide) rfl (Nat.le_of_ble_eq_true rfl) ?_
  intro p e s m below meth c hx hb hml hr hlk hts hown hnm hK hH ls hl
  have hC := (⟨hx, hb, hml, hown, hts⟩ : CallFix p m c cX0_step 4 s _ wsX0_step RX0)
  have hin : ∀ w ∈ wsX00, w ∈ wsX0_step := by decide +kernel
  have L44 : Cond.fieldLink RX0 44 "TwoColours" "stepCount" "I" ∈ wsX0_step := by decide +kernel
  have L47 : Cond.fieldLink RX0 47 "TwoColours" "stepX" "[I" ∈ wsX0_step := by decide +kernel
  have L50 : Cond.fieldLink RX0 50 "TwoColours" "stepY" "[I" ∈ wsX0_step := by decide +kernel
  have hl : lv_has ls 4 [(0, .ref (q 0)), (1, .int (x)), (2, .int (y))] := hl
  have hS : va_S (aL q) s.heap H [] := by rw [hH]; exact va_S.rf
  refine lv_iload_n hx hb dX0_step_0 rfl (lv_at hl 1 rfl) ?_
  refine cS (As := [.int (x)]) hC (kX0_isStepLength x ) [] (va_cwS 1 hts gX0_step_X0_isStepLength rfl rfl rfl (by decide +kernel) ⟨Nat.le_of_ble_eq_true rfl, Nat.le_of_ble_eq_true rfl⟩) rfl hl.1 rfl (Nat.le_of_ble_eq_true rfl) dX0_step_1 ⟨Nat.zero_le _, Nat.zero_le _⟩ ?_
  refine lv_if_eq (tgt := 14) hx hb dX0_step_4 (by decide) (fun cz1 => ?_) (fun cz1 => ?_)
  · have cz1 := b2_0 cz1
    refine lv_iconst (v := (-1)) hx hb dX0_step_14 (by decide) ?_
    exact rIw hx hb hr hlk hS (by rw [if_neg (fun h => (fun h => cz1 h.1) h.1), if_neg (fun h => cz1 h.1)]; exact hP) dX0_step_15 (by rw [if_neg (fun h => (fun h => cz1 h.1) h.1), if_neg (fun h => cz1 h.1)])
  · have cz1 := b2_1 cz1
    refine lv_iload_n hx hb dX0_step_7 rfl (lv_at hl 2 rfl) ?_
    refine cS (As := [.int (y)]) hC (kX0_isStepLength y ) [] (va_cwS 1 hts gX0_step_X0_isStepLength rfl rfl rfl (by decide +kernel) ⟨Nat.le_of_ble_eq_true rfl, Nat.le_of_ble_eq_true rfl⟩) rfl hl.1 rfl (Nat.le_of_ble_eq_true rfl) dX0_step_8 ⟨Nat.zero_le _, Nat.zero_le _⟩ ?_
    refine lv_if_ne (tgt := 16) hx hb dX0_step_11 (by decide) (fun cz2 => ?_) (fun cz2 => ?_)
    · have cz2 := b2_1 cz2
      refine lv_aload_n hx hb dX0_step_16 rfl (lv_at hl 0 rfl) ?_
      refine gX_stepCount hx hb hts hin hown hK hP L44 dX0_step_17 ?_
      refine lv_bipush (v := 10) hx hb dX0_step_20 (by decide) ?_
      refine lv_icmp_lt (tgt := 28) hx hb dX0_step_22 (by decide) (fun cz3 => ?_) (fun cz3 => ?_)
      · have cz3 : S < 10 := (nI_ltI (a := S) (b := 10) (by omega) (by omega)).mp cz3
        refine lv_aload_n hx hb dX0_step_28 rfl (lv_at hl 0 rfl) ?_
        refine gX_stepCount hx hb hts hin hown hK hP L44 dX0_step_29 ?_
        refine lv_istore_n (lv' := [(3, .int (nI S)), (0, .ref (q 0)), (1, .int (x)), (2, .int (y))]) hx hb dX0_step_32 rfl hl (by decide) rfl (fun ls hl => ?_)
        refine lv_aload_n hx hb dX0_step_33 rfl (lv_at hl 1 rfl) ?_
        refine gX_stepX hx hb hts hin hown hK hP L47 dX0_step_34 ?_
        refine lv_iload_n hx hb dX0_step_37 rfl (lv_at hl 0 rfl) ?_
        refine lv_iload_n hx hb dX0_step_38 rfl (lv_at hl 2 rfl) ?_
        refine stX_stepX (j := S) hx hb hK hP hD hS rfl (by omega) dX0_step_39 (fun H locs hP hD hS => ?_)
        refine lv_aload_n hx hb dX0_step_40 rfl (lv_at hl 1 rfl) ?_
        refine gX_stepY hx hb hts hin hown hK hP L50 dX0_step_41 ?_
        refine lv_iload_n hx hb dX0_step_44 rfl (lv_at hl 0 rfl) ?_
        refine lv_iload_n hx hb dX0_step_45 rfl (lv_at hl 3 rfl) ?_
        refine stX_stepY (j := S) hx hb hK hP hD hS rfl (by omega) dX0_step_46 (fun H locs hP hD hS => ?_)
        refine lv_aload_n hx hb dX0_step_47 rfl (lv_at hl 1 rfl) ?_
        refine lv_dup hx hb dX0_step_48 rfl ?_
        refine gX_stepCount hx hb hts hin hown hK hP L44 dX0_step_49 ?_
        refine lv_iconst (v := 1) hx hb dX0_step_52 (by decide) ?_
        refine lv_iadd hx hb dX0_step_53 ?_
        refine tpI (y := nI (S + 1)) (nI_1 S) ?_
        refine pX_stepCount hx hb hts hin hown hK hP hD hS L44 dX0_step_54 (fun H locs hP hD hS => ?_)
        refine lv_iload_n hx hb dX0_step_57 rfl (lv_at hl 0 rfl) ?_
        exact rIw hx hb hr hlk hS (by rw [if_pos ⟨⟨cz1, cz2⟩, cz3⟩]; exact hP) dX0_step_58 (by rw [if_pos ⟨⟨cz1, cz2⟩, cz3⟩])
      · have cz3 : ¬ S < 10 := fun h => cz3 ((nI_ltI (a := S) (b := 10) (by omega) (by omega)).mpr h)
        refine lv_bipush (v := (-3)) hx hb dX0_step_25 (by decide) ?_
        exact rIw hx hb hr hlk hS (by rw [if_neg (fun h => cz3 h.2), if_pos ⟨cz1, cz2⟩]; exact hP) dX0_step_27 (by rw [if_neg (fun h => cz3 h.2), if_pos ⟨cz1, cz2⟩])
    · have cz2 := b2_0 cz2
      refine lv_iconst (v := (-1)) hx hb dX0_step_14 (by decide) ?_
      exact rIw hx hb hr hlk hS (by rw [if_neg (fun h => (fun h => cz2 h.2) h.1), if_neg (fun h => cz2 h.2)]; exact hP) dX0_step_15 (by rw [if_neg (fun h => (fun h => cz2 h.2) h.1), if_neg (fun h => cz2 h.2)])

theorem hdX0_clear : yX0_clear.cls = RX0 ∧ yX0_clear.cls ≠ "java/lang/invoke/MethodHandle" ∧ yX0_clear.cls ≠ "java/lang/invoke/VarHandle" ∧ (parseMethodDescriptor yX0_clear.desc).map (fun d => d.parameters.length) = some 0 := by decide +kernel
set_option maxHeartbeats 4000000 in
set_option maxRecDepth 100000 in
theorem kX0_clear {l : Launch} {D : va_G} {cy : ClassId} {H : Heap} {q : Nat → Nat} {gT gC : Int32} {ak : Int64} {ta pl cp kd fa fb bm sx sy : Nat → Int32} {N K S : Nat}  (hP : va_P D vwCl (wX cy q (nI N) gT gC (nI K) (nI S) ak ta pl cp kd fa fb bm sx sy) H) (hD : va_D (aL q) (wX cy q (nI N) gT gC (nI K) (nI S) ak ta pl cp kd fa fb bm sx sy))   : Met l yX0_clear wsX0_clear { frames := 0, cells := 0, slots := 0, locals := 0 } (pcK D cy H [.ref (q 0)]) (qI (some (.int (nI S))) (va_P D vwCl (wX cy q (nI N) gT gC (nI K) (nI 0) ak ta pl cp kd fa fb bm sx sy)) (aL q)) 0 0 (aL q) := by
  refine mV 2 (by decide) rfl (Nat.le_of_ble_eq_true rfl) ?_
  intro p e s m below meth c hx hb hml hr hlk hts hown hnm hK hH ls hl
  have hC := (⟨hx, hb, hml, hown, hts⟩ : CallFix p m c cX0_clear 2 s _ wsX0_clear RX0)
  have hin : ∀ w ∈ wsX00, w ∈ wsX0_clear := by decide +kernel
  have L44 : Cond.fieldLink RX0 44 "TwoColours" "stepCount" "I" ∈ wsX0_clear := by decide +kernel
  have hl : lv_has ls 2 [(0, .ref (q 0))] := hl
  have hS : va_S (aL q) s.heap H [] := by rw [hH]; exact va_S.rf
  refine lv_aload_n hx hb dX0_clear_0 rfl (lv_at hl 0 rfl) ?_
  refine gX_stepCount hx hb hts hin hown hK hP L44 dX0_clear_1 ?_
  refine lv_istore_n (lv' := [(1, .int (nI S)), (0, .ref (q 0))]) hx hb dX0_clear_4 rfl hl (by decide) rfl (fun ls hl => ?_)
  refine lv_aload_n hx hb dX0_clear_5 rfl (lv_at hl 1 rfl) ?_
  refine lv_iconst (v := 0) hx hb dX0_clear_6 (by decide) ?_
  refine tpI (y := nI 0) nI_0.symm ?_
  refine pX_stepCount hx hb hts hin hown hK hP hD hS L44 dX0_clear_7 (fun H locs hP hD hS => ?_)
  refine lv_iload_n hx hb dX0_clear_10 rfl (lv_at hl 0 rfl) ?_
  exact rIw hx hb hr hlk hS hP dX0_clear_11 rfl

theorem hdX0_swap : yX0_swap.cls = RX0 ∧ yX0_swap.cls ≠ "java/lang/invoke/MethodHandle" ∧ yX0_swap.cls ≠ "java/lang/invoke/VarHandle" ∧ (parseMethodDescriptor yX0_swap.desc).map (fun d => d.parameters.length) = some 2 := by decide +kernel
set_option maxHeartbeats 4000000 in
set_option maxRecDepth 100000 in
theorem kX0_swap {l : Launch} {D : va_G} {cy : ClassId} {H : Heap} {q : Nat → Nat} {gT gC : Int32} {ak : Int64} {ta pl cp kd fa fb bm sx sy : Nat → Int32} {N K S : Nat}  (hP : va_P D vwCl (wX cy q (nI N) gT gC (nI K) (nI S) ak ta pl cp kd fa fb bm sx sy) H) (hD : va_D (aL q) (wX cy q (nI N) gT gC (nI K) (nI S) ak ta pl cp kd fa fb bm sx sy)) (k : Int32) (h : Int32) (hN : N ≤ 12) (hKn : K ≤ 10) (hta : ∀ j, j < 12 → ∃ u : Nat, u < 12 ∧ ta j = nI u) : Met l yX0_swap wsX0_swap { frames := 3, cells := 0, slots := 0, locals := 71 } (pcK D cy H [.ref (q 0), .int k, .int h]) (qI (some (.int (if (0 ≤ k ∧ k < nI N) ∧ (0 ≤ h ∧ h < nI N) then 1 else -1))) (va_P D vwCl (if (0 ≤ k ∧ k < nI N) ∧ (0 ≤ h ∧ h < nI N) then wX cy q (nI N) gT gC (nI K) (nI S) ak (swT ta (ix k) (ix h)) (swP pl ta (ix k) (ix h)) cp kd fa fb (rbF (hbX (swP pl ta (ix k) (ix h)) kd fa fb N) bm K) sx sy else wX cy q (nI N) gT gC (nI K) (nI S) ak ta pl cp kd fa fb bm sx sy)) (aL q)) 0 0 (aL q) := by
  refine mV 6 (by decide) rfl (Nat.le_of_ble_eq_true rfl) ?_
  intro p e s m below meth c hx hb hml hr hlk hts hown hnm hK hH ls hl
  have hC := (⟨hx, hb, hml, hown, hts⟩ : CallFix p m c cX0_swap 6 s _ wsX0_swap RX0)
  have hin : ∀ w ∈ wsX00, w ∈ wsX0_swap := by decide +kernel
  have L13 : Cond.fieldLink RX0 13 "TwoColours" "thingAt" "[I" ∈ wsX0_swap := by decide +kernel
  have L29 : Cond.fieldLink RX0 29 "TwoColours" "heapCount" "I" ∈ wsX0_swap := by decide +kernel
  have L32 : Cond.fieldLink RX0 32 "TwoColours" "heapKind" "[I" ∈ wsX0_swap := by decide +kernel
  have L35 : Cond.fieldLink RX0 35 "TwoColours" "heapA" "[I" ∈ wsX0_swap := by decide +kernel
  have L38 : Cond.fieldLink RX0 38 "TwoColours" "heapB" "[I" ∈ wsX0_swap := by decide +kernel
  have L41 : Cond.fieldLink RX0 41 "TwoColours" "heapBits" "[I" ∈ wsX0_swap := by decide +kernel
  have hl : lv_has ls 6 [(0, .ref (q 0)), (1, .int (k)), (2, .int (h))] := hl
  have hS : va_S (aL q) s.heap H [] := by rw [hH]; exact va_S.rf
  refine lv_aload_n hx hb dX0_swap_0 rfl (lv_at hl 0 rfl) ?_
  refine lv_iload_n hx hb dX0_swap_1 rfl (lv_at hl 1 rfl) ?_
  refine cV (As := [.int (k)]) hC hK hP rfl rfl (kX0_isThing hP k ) [] (cwV 1 hts gX0_swap_X0_isThing rfl rfl rfl hdX0_isThing ⟨Nat.le_of_ble_eq_true rfl, Nat.le_of_ble_eq_true rfl⟩) rfl hl.1 rfl (Nat.le_of_ble_eq_true rfl) dX0_swap_2 ⟨Nat.zero_le _, Nat.zero_le _⟩ ?_
  refine lv_if_eq (tgt := 16) hx hb dX0_swap_5 (by decide) (fun cz1 => ?_) (fun cz1 => ?_)
  · have cz1 := b2_0 cz1
    refine lv_iconst (v := (-1)) hx hb dX0_swap_16 (by decide) ?_
    exact rIw hx hb hr hlk hS (by rw [if_neg (fun h => cz1 h.1)]; exact hP) dX0_swap_17 (by rw [if_neg (fun h => cz1 h.1)])
  · have cz1 := b2_1 cz1
    obtain ⟨i1, hi1, e1⟩ := inN cz1 (by omega)
    subst e1
    obtain ⟨u1, hu1, eu1⟩ := hta i1 (by omega)
    refine lv_aload_n hx hb dX0_swap_8 rfl (lv_at hl 0 rfl) ?_
    refine lv_iload_n hx hb dX0_swap_9 rfl (lv_at hl 2 rfl) ?_
    refine cV (As := [.int (h)]) hC hK hP rfl rfl (kX0_isThing hP h ) [] (cwV 1 hts gX0_swap_X0_isThing rfl rfl rfl hdX0_isThing ⟨Nat.le_of_ble_eq_true rfl, Nat.le_of_ble_eq_true rfl⟩) rfl hl.1 rfl (Nat.le_of_ble_eq_true rfl) dX0_swap_10 ⟨Nat.zero_le _, Nat.zero_le _⟩ ?_
    refine lv_if_ne (tgt := 18) hx hb dX0_swap_13 (by decide) (fun cz2 => ?_) (fun cz2 => ?_)
    · have cz2 := b2_1 cz2
      obtain ⟨i2, hi2, e2⟩ := inN cz2 (by omega)
      subst e2
      obtain ⟨u2, hu2, eu2⟩ := hta i2 (by omega)
      refine lv_aload_n hx hb dX0_swap_18 rfl (lv_at hl 0 rfl) ?_
      refine gX_thingAt hx hb hts hin hown hK hP L13 dX0_swap_19 ?_
      refine lv_iload_n hx hb dX0_swap_22 rfl (lv_at hl 1 rfl) ?_
      refine ldX_thingAt (j := i1) hx hb hK hP rfl (by omega) dX0_swap_23 ?_
      refine tpI (y := nI u1) eu1 ?_
      refine lv_istore_n (lv' := [(3, .int (nI u1)), (0, .ref (q 0)), (1, .int (nI i1)), (2, .int (nI i2))]) hx hb dX0_swap_24 rfl hl (by decide) rfl (fun ls hl => ?_)
      refine lv_aload_n hx hb dX0_swap_25 rfl (lv_at hl 1 rfl) ?_
      refine gX_thingAt hx hb hts hin hown hK hP L13 dX0_swap_26 ?_
      refine lv_iload_n hx hb dX0_swap_29 rfl (lv_at hl 3 rfl) ?_
      refine ldX_thingAt (j := i2) hx hb hK hP rfl (by omega) dX0_swap_30 ?_
      refine tpI (y := nI u2) eu2 ?_
      refine lv_istore (lv' := [(4, .int (nI u2)), (3, .int (nI u1)), (0, .ref (q 0)), (1, .int (nI i1)), (2, .int (nI i2))]) hx hb dX0_swap_31 hl (by decide) rfl (fun ls hl => ?_)
      refine lv_aload_n hx hb dX0_swap_33 rfl (lv_at hl 2 rfl) ?_
      refine lv_iload_n hx hb dX0_swap_34 rfl (lv_at hl 3 rfl) ?_
      refine lv_iload hx hb dX0_swap_35 (lv_at hl 0 rfl) ?_
      refine cVw (As := [.int (nI i1), .int (nI u2)]) hC hK hP rfl rfl (kX0_putAt hP hD i1 u2 (by omega) (by omega)) [] (cwV 2 hts gX0_swap_X0_putAt rfl rfl rfl hdX0_putAt ⟨Nat.le_of_ble_eq_true rfl, Nat.le_of_ble_eq_true rfl⟩) rfl hl.1 rfl (Nat.le_of_ble_eq_true rfl) dX0_swap_37 ⟨Nat.zero_le _, Nat.zero_le _⟩ hS (fun _ h => h) (fun H locs hP hz hkp hS => ?_)
      have hD := vD_same (w2 := wX cy q (nI N) gT gC (nI K) (nI S) ak (upd ta i1 (nI u2)) (upd pl u2 (nI i1)) cp kd fa fb bm sx sy) (by rfl) hD
      refine lv_aload_n hx hb dX0_swap_40 rfl (lv_at hl 2 rfl) ?_
      refine lv_iload_n hx hb dX0_swap_41 rfl (lv_at hl 4 rfl) ?_
      refine lv_iload_n hx hb dX0_swap_42 rfl (lv_at hl 1 rfl) ?_
      refine cVw (As := [.int (nI i2), .int (nI u1)]) hC hK hP rfl rfl (kX0_putAt hP hD i2 u1 (by omega) (by omega)) [] (cwV 2 hts gX0_swap_X0_putAt rfl rfl rfl hdX0_putAt ⟨Nat.le_of_ble_eq_true rfl, Nat.le_of_ble_eq_true rfl⟩) rfl hl.1 rfl (Nat.le_of_ble_eq_true rfl) dX0_swap_43 ⟨Nat.zero_le _, Nat.zero_le _⟩ hS (fun _ h => h) (fun H locs hP hz hkp hS => ?_)
      have hD := vD_same (w2 := wX cy q (nI N) gT gC (nI K) (nI S) ak (upd (upd ta i1 (nI u2)) i2 (nI u1)) (upd (upd pl u2 (nI i1)) u1 (nI i2)) cp kd fa fb bm sx sy) (by rfl) hD
      refine lv_iconst (v := 0) hx hb dX0_swap_46 (by decide) ?_
      refine lv_istore (lv' := [(5, .int (0)), (4, .int (nI u2)), (3, .int (nI u1)), (0, .ref (q 0)), (1, .int (nI i1)), (2, .int (nI i2))]) hx hb dX0_swap_47 hl (by decide) rfl (fun ls hl => ?_)
      refine lpW (σ := Nat) 49 (fun i ls H locs => (i ≤ K) ∧ lv_has ls 6 [(0, .ref (q 0)), (5, .int (nI i))] ∧ va_P D vwCl (wX cy q (nI N) gT gC (nI K) (nI S) ak (upd (upd ta i1 (nI u2)) i2 (nI u1)) (upd (upd pl u2 (nI i1)) u1 (nI i2)) cp kd fa fb (rbF (hbX (upd (upd pl u2 (nI i1)) u1 (nI i2)) kd fa fb N) bm i) sx sy) H ∧ va_D (aL q) (wX cy q (nI N) gT gC (nI K) (nI S) ak (upd (upd ta i1 (nI u2)) i2 (nI u1)) (upd (upd pl u2 (nI i1)) u1 (nI i2)) cp kd fa fb (rbF (hbX (upd (upd pl u2 (nI i1)) u1 (nI i2)) kd fa fb N) bm i) sx sy) ∧ va_S (aL q) s.heap H locs) (fun i => K - i) ?_ (0) ls ⟨Nat.zero_le _, lv_sub hl [3, 0] rfl, hP, hD, hS⟩
      intro i ls H locs hI ih_49
      obtain ⟨hi, hl, hP, hD, hS⟩ := hI
      refine lv_iload hx hb dX0_swap_49 (lv_at hl 1 rfl) ?_
      refine lv_aload_n hx hb dX0_swap_51 rfl (lv_at hl 0 rfl) ?_
      refine gX_heapCount hx hb hts hin hown hK hP L29 dX0_swap_52 ?_
      refine lv_icmp_ge (tgt := 96) hx hb dX0_swap_55 (by decide) (fun cz3 => ?_) (fun cz3 => ?_)
      · have cz3 : K ≤ i := (nI_leI (a := K) (b := i) (by omega) (by omega)).mp cz3
        have ei : K = i := by omega
        subst ei
        refine lv_iconst (v := 1) hx hb dX0_swap_96 (by decide) ?_
        exact rIw hx hb hr hlk hS (by rw [if_pos ⟨cz1, cz2⟩, swT, swP, ix_nI (by omega), ix_nI (by omega), eu1, eu2, ix_nI (by omega), ix_nI (by omega)]; exact hP) dX0_swap_97 (by rw [if_pos ⟨cz1, cz2⟩])
      · have cz3 : ¬ K ≤ i := fun h => cz3 ((nI_leI (a := K) (b := i) (by omega) (by omega)).mpr h)
        refine lv_aload_n hx hb dX0_swap_58 rfl (lv_at hl 0 rfl) ?_
        refine gX_heapBits hx hb hts hin hown hK hP L41 dX0_swap_59 ?_
        refine lv_iload hx hb dX0_swap_62 (lv_at hl 1 rfl) ?_
        refine lv_aload_n hx hb dX0_swap_64 rfl (lv_at hl 0 rfl) ?_
        refine lv_aload_n hx hb dX0_swap_65 rfl (lv_at hl 0 rfl) ?_
        refine gX_heapKind hx hb hts hin hown hK hP L32 dX0_swap_66 ?_
        refine lv_iload hx hb dX0_swap_69 (lv_at hl 1 rfl) ?_
        refine ldX_heapKind (j := i) hx hb hK hP rfl (by omega) dX0_swap_71 ?_
        refine lv_aload_n hx hb dX0_swap_72 rfl (lv_at hl 0 rfl) ?_
        refine gX_heapA hx hb hts hin hown hK hP L35 dX0_swap_73 ?_
        refine lv_iload hx hb dX0_swap_76 (lv_at hl 1 rfl) ?_
        refine ldX_heapA (j := i) hx hb hK hP rfl (by omega) dX0_swap_78 ?_
        refine lv_aload_n hx hb dX0_swap_79 rfl (lv_at hl 0 rfl) ?_
        refine gX_heapB hx hb hts hin hown hK hP L38 dX0_swap_80 ?_
        refine lv_iload hx hb dX0_swap_83 (lv_at hl 1 rfl) ?_
        refine ldX_heapB (j := i) hx hb hK hP rfl (by omega) dX0_swap_85 ?_
        refine cV (As := [.int (kd i), .int (fa i), .int (fb i)]) hC hK hP rfl rfl (kX0_thingsOf hP (kd i) (fa i) (fb i) (by omega)) [.int (nI i), .ref (q 7)] (cwV 3 hts gX0_swap_X0_thingsOf rfl rfl rfl hdX0_thingsOf ⟨Nat.le_of_ble_eq_true rfl, Nat.le_of_ble_eq_true rfl⟩) rfl hl.1 rfl (Nat.le_of_ble_eq_true rfl) dX0_swap_86 ⟨Nat.zero_le _, Nat.zero_le _⟩ ?_
        refine stX_heapBits (j := i) hx hb hK hP hD hS rfl (by omega) dX0_swap_89 (fun H locs hP hD hS => ?_)
        refine lv_iinc (v := nI (i + 1)) (lv' := [(5, .int (nI (i + 1))), (0, .ref (q 0))]) hx hb dX0_swap_90 hl (k := 1) rfl (nI_1 _) (by decide) rfl (fun ls hl => ?_)
        refine lv_goto (tgt := 49) hx hb dX0_swap_93 (by decide) ?_
        exact ih_49 (i + 1) _ _ _ (by omega) ⟨by omega, lv_sub hl [1, 0] rfl, hP, vD_same (by rfl) hD, hS⟩
    · have cz2 := b2_0 cz2
      refine lv_iconst (v := (-1)) hx hb dX0_swap_16 (by decide) ?_
      exact rIw hx hb hr hlk hS (by rw [if_neg (fun h => cz2 h.2)]; exact hP) dX0_swap_17 (by rw [if_neg (fun h => cz2 h.2)])

