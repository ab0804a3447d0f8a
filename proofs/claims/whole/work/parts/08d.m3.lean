theorem hdX1_things : yX1_things.cls = RX1 ∧ yX1_things.cls ≠ "java/lang/invoke/MethodHandle" ∧ yX1_things.cls ≠ "java/lang/invoke/VarHandle" ∧ (parseMethodDescriptor yX1_things.desc).map (fun d => d.parameters.length) = some 1 := by decide +kernel
set_option maxHeartbeats 4000000 in
set_option maxRecDepth 100000 in
theorem kX1_things {l : Launch} {D : va_G} {cy : ClassId} {H : Heap} {q : Nat → Nat} {ff fm fw : Int32} {ak : Int64} {ta gh kd fa fb sx sy mb co : Nat → Int32} {N K S : Nat}  (hP : va_P D vwCl (wM cy q (nI N) (nI K) (nI S) ff fm fw ak ta gh kd fa fb sx sy mb co) H) (hD : va_D (aL q) (wM cy q (nI N) (nI K) (nI S) ff fm fw ak ta gh kd fa fb sx sy mb co)) (k : Int32)  : Met l yX1_things wsX1_things { frames := 1, cells := 0, slots := 0, locals := 22 } (pcK D cy H [.ref (q 0), .int k]) (qI (some (.int (if 1 ≤ k ∧ k ≤ 12 then nI N else -1))) (va_P D vwCl (if 1 ≤ k ∧ k ≤ 12 then wM cy q k (nI 0) (nI S) ff fm fw ak (idF ta 12) (fiF (-1) gh 12) kd fa fb sx sy mb co else wM cy q (nI N) (nI K) (nI S) ff fm fw ak ta gh kd fa fb sx sy mb co)) (aL q)) 0 0 (aL q) := by
  refine mV 4 (by decide) rfl (Nat.le_of_ble_eq_true rfl) ?_
  intro p e s m below meth c hx hb hml hr hlk hts hown hnm hK hH ls hl
  have hC := (⟨hx, hb, hml, hown, hts⟩ : CallFix p m c cX1_things 4 s _ wsX1_things RX1)
  have hin : ∀ w ∈ wsX10, w ∈ wsX1_things := by decide +kernel
  have L7 : Cond.fieldLink RX1 7 "TwoColoursModel" "n" "I" ∈ wsX1_things := by decide +kernel
  have L13 : Cond.fieldLink RX1 13 "TwoColoursModel" "second" "[I" ∈ wsX1_things := by decide +kernel
  have L17 : Cond.fieldLink RX1 17 "TwoColoursModel" "held" "[I" ∈ wsX1_things := by decide +kernel
  have L41 : Cond.fieldLink RX1 41 "TwoColoursModel" "heaps" "I" ∈ wsX1_things := by decide +kernel
  have hl : lv_has ls 4 [(0, .ref (q 0)), (1, .int (k))] := hl
  have hS : va_S (aL q) s.heap H [] := by rw [hH]; exact va_S.rf
  refine lv_iload_n hx hb dX1_things_0 rfl (lv_at hl 1 rfl) ?_
  refine lv_iconst (v := 1) hx hb dX1_things_1 (by decide) ?_
  refine lv_bipush (v := 12) hx hb dX1_things_2 (by decide) ?_
  refine cS (As := [.int (k), .int (1), .int (12)]) hC (kX1_in k 1 12 ) [] (va_cwS 3 hts gX1_things_X1_in rfl rfl rfl (by decide +kernel) ⟨Nat.le_of_ble_eq_true rfl, Nat.le_of_ble_eq_true rfl⟩) rfl hl.1 rfl (Nat.le_of_ble_eq_true rfl) dX1_things_4 ⟨Nat.zero_le _, Nat.zero_le _⟩ ?_
  refine lv_if_ne (tgt := 12) hx hb dX1_things_7 (by decide) (fun cz1 => ?_) (fun cz1 => ?_)
  · have cz1 := b2_1 cz1
    obtain ⟨j, hj1, hj2, ej⟩ := in112 (Int32.not_lt.mpr cz1.1) cz1.2
    subst ej
    refine lv_aload_n hx hb dX1_things_12 rfl (lv_at hl 0 rfl) ?_
    refine gM_n hx hb hts hin hown hK hP L7 dX1_things_13 ?_
    refine lv_istore_n (lv' := [(2, .int (nI N)), (0, .ref (q 0)), (1, .int (nI j))]) hx hb dX1_things_16 rfl hl (by decide) rfl (fun ls hl => ?_)
    refine lv_aload_n hx hb dX1_things_17 rfl (lv_at hl 1 rfl) ?_
    refine lv_iload_n hx hb dX1_things_18 rfl (lv_at hl 2 rfl) ?_
    refine pM_n hx hb hts hin hown hK hP hD hS L7 dX1_things_19 (fun H locs hP hD hS => ?_)
    refine lv_aload_n hx hb dX1_things_22 rfl (lv_at hl 1 rfl) ?_
    refine lv_iconst (v := 0) hx hb dX1_things_23 (by decide) ?_
    refine tpI (y := nI 0) nI_0.symm ?_
    refine pM_heaps hx hb hts hin hown hK hP hD hS L41 dX1_things_24 (fun H locs hP hD hS => ?_)
    refine lv_iconst (v := 0) hx hb dX1_things_27 (by decide) ?_
    refine lv_istore_n (lv' := [(3, .int (0)), (2, .int (nI N)), (0, .ref (q 0)), (1, .int (nI j))]) hx hb dX1_things_28 rfl hl (by decide) rfl (fun ls hl => ?_)
    refine lpW (σ := Nat) 29 (fun i ls H locs => (i ≤ 12) ∧ lv_has ls 4 [(0, .ref (q 0)), (2, .int (nI N)), (3, .int (nI i))] ∧ va_P D vwCl (wM cy q (nI j) (nI 0) (nI S) ff fm fw ak (idF ta i) (fiF (-1) gh i) kd fa fb sx sy mb co) H ∧ va_D (aL q) (wM cy q (nI j) (nI 0) (nI S) ff fm fw ak (idF ta i) (fiF (-1) gh i) kd fa fb sx sy mb co) ∧ va_S (aL q) s.heap H locs) (fun i => 12 - i) ?_ (0) ls ⟨Nat.zero_le _, lv_sub hl [2, 1, 0] rfl, hP, hD, hS⟩
    intro i ls H locs hI ih_29
    obtain ⟨hi, hl, hP, hD, hS⟩ := hI
    refine lv_iload_n hx hb dX1_things_29 rfl (lv_at hl 2 rfl) ?_
    refine lv_bipush (v := 12) hx hb dX1_things_30 (by decide) ?_
    refine lv_icmp_ge (tgt := 55) hx hb dX1_things_32 (by decide) (fun cz2 => ?_) (fun cz2 => ?_)
    · have cz2 : 12 ≤ i := (nI_leI (a := 12) (b := i) (by omega) (by omega)).mp cz2
      have ei : 12 = i := by omega
      subst ei
      refine lv_iload_n hx hb dX1_things_55 rfl (lv_at hl 1 rfl) ?_
      exact rIw hx hb hr hlk hS (by rw [if_pos cz1]; exact hP) dX1_things_56 (by rw [if_pos cz1])
    · have cz2 : ¬ 12 ≤ i := fun h => cz2 ((nI_leI (a := 12) (b := i) (by omega) (by omega)).mpr h)
      refine lv_aload_n hx hb dX1_things_35 rfl (lv_at hl 0 rfl) ?_
      refine gM_second hx hb hts hin hown hK hP L13 dX1_things_36 ?_
      refine lv_iload_n hx hb dX1_things_39 rfl (lv_at hl 2 rfl) ?_
      refine lv_iload_n hx hb dX1_things_40 rfl (lv_at hl 2 rfl) ?_
      refine stM_second (j := i) hx hb hK hP hD hS rfl (by omega) dX1_things_41 (fun H locs hP hD hS => ?_)
      refine lv_aload_n hx hb dX1_things_42 rfl (lv_at hl 0 rfl) ?_
      refine gM_held hx hb hts hin hown hK hP L17 dX1_things_43 ?_
      refine lv_iload_n hx hb dX1_things_46 rfl (lv_at hl 2 rfl) ?_
      refine lv_iconst (v := (-1)) hx hb dX1_things_47 (by decide) ?_
      refine stM_held (j := i) hx hb hK hP hD hS rfl (by omega) dX1_things_48 (fun H locs hP hD hS => ?_)
      refine lv_iinc (v := nI (i + 1)) (lv' := [(3, .int (nI (i + 1))), (0, .ref (q 0)), (2, .int (nI N))]) hx hb dX1_things_49 hl (k := 2) rfl (nI_1 _) (by decide) rfl (fun ls hl => ?_)
      refine lv_goto (tgt := 29) hx hb dX1_things_52 (by decide) ?_
      exact ih_29 (i + 1) _ _ _ (by omega) ⟨by omega, lv_sub hl [1, 2, 0] rfl, hP, vD_same (by rfl) hD, hS⟩
  · have cz1 := b2_0 cz1
    refine lv_iconst (v := (-1)) hx hb dX1_things_10 (by decide) ?_
    exact rIw hx hb hr hlk hS (by rw [if_neg cz1]; exact hP) dX1_things_11 (by rw [if_neg cz1])

theorem hdX1_heap : yX1_heap.cls = RX1 ∧ yX1_heap.cls ≠ "java/lang/invoke/MethodHandle" ∧ yX1_heap.cls ≠ "java/lang/invoke/VarHandle" ∧ (parseMethodDescriptor yX1_heap.desc).map (fun d => d.parameters.length) = some 3 := by decide +kernel
set_option maxHeartbeats 4000000 in
set_option maxRecDepth 100000 in
theorem kX1_heap {l : Launch} {D : va_G} {cy : ClassId} {H : Heap} {q : Nat → Nat} {ff fm fw : Int32} {ak : Int64} {ta gh kd fa fb sx sy mb co : Nat → Int32} {N K S : Nat}  (hP : va_P D vwCl (wM cy q (nI N) (nI K) (nI S) ff fm fw ak ta gh kd fa fb sx sy mb co) H) (hD : va_D (aL q) (wM cy q (nI N) (nI K) (nI S) ff fm fw ak ta gh kd fa fb sx sy mb co)) (k : Int32) (a : Int32) (b : Int32) (hN : N ≤ 12) (hKn : K ≤ 10) : Met l yX1_heap wsX1_heap { frames := 3, cells := 0, slots := 0, locals := 66 } (pcK D cy H [.ref (q 0), .int k, .int a, .int b]) (qI (some (.int (if canX N k a b = true ∧ K < 10 then nI K else if canX N k a b = true then -3 else -1))) (va_P D vwCl (if canX N k a b = true ∧ K < 10 then wM cy q (nI N) (nI (K + 1)) (nI S) ff fm fw ak ta gh (upd kd K k) (upd fa K a) (upd fb K b) sx sy mb co else if canX N k a b = true then wM cy q (nI N) (nI K) (nI S) ff fm fw ak ta gh kd fa fb sx sy mb co else wM cy q (nI N) (nI K) (nI S) ff fm fw ak ta gh kd fa fb sx sy mb co)) (aL q)) 0 0 (aL q) := by
  refine mV 4 (by decide) rfl (Nat.le_of_ble_eq_true rfl) ?_
  intro p e s m below meth c hx hb hml hr hlk hts hown hnm hK hH ls hl
  have hC := (⟨hx, hb, hml, hown, hts⟩ : CallFix p m c cX1_heap 4 s _ wsX1_heap RX1)
  have hin : ∀ w ∈ wsX10, w ∈ wsX1_heap := by decide +kernel
  have L20 : Cond.fieldLink RX1 20 "TwoColoursModel" "kind" "[I" ∈ wsX1_heap := by decide +kernel
  have L23 : Cond.fieldLink RX1 23 "TwoColoursModel" "from" "[I" ∈ wsX1_heap := by decide +kernel
  have L26 : Cond.fieldLink RX1 26 "TwoColoursModel" "to" "[I" ∈ wsX1_heap := by decide +kernel
  have L41 : Cond.fieldLink RX1 41 "TwoColoursModel" "heaps" "I" ∈ wsX1_heap := by decide +kernel
  have hl : lv_has ls 4 [(0, .ref (q 0)), (1, .int (k)), (2, .int (a)), (3, .int (b))] := hl
  have hS : va_S (aL q) s.heap H [] := by rw [hH]; exact va_S.rf
  refine lv_aload_n hx hb dX1_heap_0 rfl (lv_at hl 0 rfl) ?_
  refine lv_iload_n hx hb dX1_heap_1 rfl (lv_at hl 1 rfl) ?_
  refine lv_iload_n hx hb dX1_heap_2 rfl (lv_at hl 2 rfl) ?_
  refine lv_iload_n hx hb dX1_heap_3 rfl (lv_at hl 3 rfl) ?_
  refine cV (As := [.int (k), .int (a), .int (b)]) hC hK hP rfl rfl (kX1_isWell hP k a b (by omega)) [] (cwV 3 hts gX1_heap_X1_isWell rfl rfl rfl hdX1_isWell ⟨Nat.le_of_ble_eq_true rfl, Nat.le_of_ble_eq_true rfl⟩) rfl hl.1 rfl (Nat.le_of_ble_eq_true rfl) dX1_heap_4 ⟨Nat.zero_le _, Nat.zero_le _⟩ ?_
  refine lv_if_ne (tgt := 12) hx hb dX1_heap_7 (by decide) (fun cz1 => ?_) (fun cz1 => ?_)
  · have cz1 := b2_1 cz1
    refine lv_aload_n hx hb dX1_heap_12 rfl (lv_at hl 0 rfl) ?_
    refine gM_heaps hx hb hts hin hown hK hP L41 dX1_heap_13 ?_
    refine lv_bipush (v := 10) hx hb dX1_heap_16 (by decide) ?_
    refine lv_icmp_ne (tgt := 24) hx hb dX1_heap_18 (by decide) (fun cz2 => ?_) (fun cz2 => ?_)
    · have cz2 : ¬ K = 10 := fun h => cz2 ((nI_eq (a := K) (b := 10) (by omega) (by omega)).mpr h)
      refine lv_aload_n hx hb dX1_heap_24 rfl (lv_at hl 0 rfl) ?_
      refine gM_kind hx hb hts hin hown hK hP L20 dX1_heap_25 ?_
      refine lv_aload_n hx hb dX1_heap_28 rfl (lv_at hl 0 rfl) ?_
      refine gM_heaps hx hb hts hin hown hK hP L41 dX1_heap_29 ?_
      refine lv_iload_n hx hb dX1_heap_32 rfl (lv_at hl 1 rfl) ?_
      refine stM_kind (j := K) hx hb hK hP hD hS rfl (by omega) dX1_heap_33 (fun H locs hP hD hS => ?_)
      refine lv_aload_n hx hb dX1_heap_34 rfl (lv_at hl 0 rfl) ?_
      refine gM_from hx hb hts hin hown hK hP L23 dX1_heap_35 ?_
      refine lv_aload_n hx hb dX1_heap_38 rfl (lv_at hl 0 rfl) ?_
      refine gM_heaps hx hb hts hin hown hK hP L41 dX1_heap_39 ?_
      refine lv_iload_n hx hb dX1_heap_42 rfl (lv_at hl 2 rfl) ?_
      refine stM_from (j := K) hx hb hK hP hD hS rfl (by omega) dX1_heap_43 (fun H locs hP hD hS => ?_)
      refine lv_aload_n hx hb dX1_heap_44 rfl (lv_at hl 0 rfl) ?_
      refine gM_to hx hb hts hin hown hK hP L26 dX1_heap_45 ?_
      refine lv_aload_n hx hb dX1_heap_48 rfl (lv_at hl 0 rfl) ?_
      refine gM_heaps hx hb hts hin hown hK hP L41 dX1_heap_49 ?_
      refine lv_iload_n hx hb dX1_heap_52 rfl (lv_at hl 3 rfl) ?_
      refine stM_to (j := K) hx hb hK hP hD hS rfl (by omega) dX1_heap_53 (fun H locs hP hD hS => ?_)
      refine lv_aload_n hx hb dX1_heap_54 rfl (lv_at hl 0 rfl) ?_
      refine lv_dup hx hb dX1_heap_55 rfl ?_
      refine gM_heaps hx hb hts hin hown hK hP L41 dX1_heap_56 ?_
      refine lv_iconst (v := 1) hx hb dX1_heap_59 (by decide) ?_
      refine lv_iadd hx hb dX1_heap_60 ?_
      refine tpI (y := nI (K + 1)) (nI_1 K) ?_
      refine pM_heaps hx hb hts hin hown hK hP hD hS L41 dX1_heap_61 (fun H locs hP hD hS => ?_)
      refine lv_aload_n hx hb dX1_heap_64 rfl (lv_at hl 0 rfl) ?_
      refine gM_heaps hx hb hts hin hown hK hP L41 dX1_heap_65 ?_
      refine lv_iconst (v := 1) hx hb dX1_heap_68 (by decide) ?_
      refine lv_isub hx hb dX1_heap_69 ?_
      refine tpI (y := nI K) (nI_pred K) ?_
      exact rIw hx hb hr hlk hS (by rw [if_pos ⟨cz1, by omega⟩]; exact hP) dX1_heap_70 (by rw [if_pos ⟨cz1, by omega⟩])
    · have cz2 : K = 10 := (nI_eq (a := K) (b := 10) (by omega) (by omega)).mp cz2
      refine lv_bipush (v := (-3)) hx hb dX1_heap_21 (by decide) ?_
      exact rIw hx hb hr hlk hS (by rw [if_neg (fun h => absurd h.2 (by omega)), if_pos cz1]; exact hP) dX1_heap_23 (by rw [if_neg (fun h => absurd h.2 (by omega)), if_pos cz1])
  · have cz1 := b2_0 cz1
    refine lv_iconst (v := (-1)) hx hb dX1_heap_10 (by decide) ?_
    exact rIw hx hb hr hlk hS (by rw [if_neg (fun h => cz1 h.1), if_neg cz1]; exact hP) dX1_heap_11 (by rw [if_neg (fun h => cz1 h.1), if_neg cz1])

theorem hdX1_drop : yX1_drop.cls = RX1 ∧ yX1_drop.cls ≠ "java/lang/invoke/MethodHandle" ∧ yX1_drop.cls ≠ "java/lang/invoke/VarHandle" ∧ (parseMethodDescriptor yX1_drop.desc).map (fun d => d.parameters.length) = some 0 := by decide +kernel
set_option maxHeartbeats 4000000 in
set_option maxRecDepth 100000 in
theorem kX1_drop {l : Launch} {D : va_G} {cy : ClassId} {H : Heap} {q : Nat → Nat} {ff fm fw : Int32} {ak : Int64} {ta gh kd fa fb sx sy mb co : Nat → Int32} {N K S : Nat}  (hP : va_P D vwCl (wM cy q (nI N) (nI K) (nI S) ff fm fw ak ta gh kd fa fb sx sy mb co) H) (hD : va_D (aL q) (wM cy q (nI N) (nI K) (nI S) ff fm fw ak ta gh kd fa fb sx sy mb co))  (hKn : K ≤ 10) : Met l yX1_drop wsX1_drop { frames := 0, cells := 0, slots := 0, locals := 0 } (pcK D cy H [.ref (q 0)]) (qI (some (.int (if K = 0 then -2 else nI (K - 1)))) (va_P D vwCl (if K = 0 then wM cy q (nI N) (nI K) (nI S) ff fm fw ak ta gh kd fa fb sx sy mb co else wM cy q (nI N) (nI (K - 1)) (nI S) ff fm fw ak ta gh kd fa fb sx sy mb co)) (aL q)) 0 0 (aL q) := by
  refine mV 1 (by decide) rfl (Nat.le_of_ble_eq_true rfl) ?_
  intro p e s m below meth c hx hb hml hr hlk hts hown hnm hK hH ls hl
  have hC := (⟨hx, hb, hml, hown, hts⟩ : CallFix p m c cX1_drop 1 s _ wsX1_drop RX1)
  have hin : ∀ w ∈ wsX10, w ∈ wsX1_drop := by decide +kernel
  have L41 : Cond.fieldLink RX1 41 "TwoColoursModel" "heaps" "I" ∈ wsX1_drop := by decide +kernel
  have hl : lv_has ls 1 [(0, .ref (q 0))] := hl
  have hS : va_S (aL q) s.heap H [] := by rw [hH]; exact va_S.rf
  refine lv_aload_n hx hb dX1_drop_0 rfl (lv_at hl 0 rfl) ?_
  refine gM_heaps hx hb hts hin hown hK hP L41 dX1_drop_1 ?_
  refine lv_if_ne (tgt := 10) hx hb dX1_drop_4 (by decide) (fun cz1 => ?_) (fun cz1 => ?_)
  · have cz1 : ¬ K = 0 := fun h => cz1 ((nI_eq (a := K) (b := 0) (by omega) (by omega)).mpr h)
    refine lv_aload_n hx hb dX1_drop_10 rfl (lv_at hl 0 rfl) ?_
    refine lv_dup hx hb dX1_drop_11 rfl ?_
    refine gM_heaps hx hb hts hin hown hK hP L41 dX1_drop_12 ?_
    refine lv_iconst (v := 1) hx hb dX1_drop_15 (by decide) ?_
    refine lv_isub hx hb dX1_drop_16 ?_
    refine tpI (y := nI (K - 1)) (nI_sub1 cz1) ?_
    refine pM_heaps hx hb hts hin hown hK hP hD hS L41 dX1_drop_17 (fun H locs hP hD hS => ?_)
    refine lv_aload_n hx hb dX1_drop_20 rfl (lv_at hl 0 rfl) ?_
    refine gM_heaps hx hb hts hin hown hK hP L41 dX1_drop_21 ?_
    exact rIw hx hb hr hlk hS (by rw [if_neg cz1]; exact hP) dX1_drop_24 (by rw [if_neg cz1])
  · have cz1 : K = 0 := (nI_eq (a := K) (b := 0) (by omega) (by omega)).mp cz1
    refine lv_bipush (v := (-2)) hx hb dX1_drop_7 (by decide) ?_
    exact rIw hx hb hr hlk hS (by rw [if_pos cz1]; exact hP) dX1_drop_9 (by rw [if_pos cz1])

theorem hdX1_swap : yX1_swap.cls = RX1 ∧ yX1_swap.cls ≠ "java/lang/invoke/MethodHandle" ∧ yX1_swap.cls ≠ "java/lang/invoke/VarHandle" ∧ (parseMethodDescriptor yX1_swap.desc).map (fun d => d.parameters.length) = some 2 := by decide +kernel
set_option maxHeartbeats 4000000 in
set_option maxRecDepth 100000 in
theorem kX1_swap {l : Launch} {D : va_G} {cy : ClassId} {H : Heap} {q : Nat → Nat} {ff fm fw : Int32} {ak : Int64} {ta gh kd fa fb sx sy mb co : Nat → Int32} {N K S : Nat}  (hP : va_P D vwCl (wM cy q (nI N) (nI K) (nI S) ff fm fw ak ta gh kd fa fb sx sy mb co) H) (hD : va_D (aL q) (wM cy q (nI N) (nI K) (nI S) ff fm fw ak ta gh kd fa fb sx sy mb co)) (k : Int32) (h : Int32) (hN : N ≤ 12) : Met l yX1_swap wsX1_swap { frames := 2, cells := 0, slots := 0, locals := 43 } (pcK D cy H [.ref (q 0), .int k, .int h]) (qI (some (.int (if (0 ≤ k ∧ k < nI N) ∧ (0 ≤ h ∧ h < nI N) then 1 else -1))) (va_P D vwCl (if (0 ≤ k ∧ k < nI N) ∧ (0 ≤ h ∧ h < nI N) then wM cy q (nI N) (nI K) (nI S) ff fm fw ak (swT ta (ix k) (ix h)) gh kd fa fb sx sy mb co else wM cy q (nI N) (nI K) (nI S) ff fm fw ak ta gh kd fa fb sx sy mb co)) (aL q)) 0 0 (aL q) := by
  refine mV 4 (by decide) rfl (Nat.le_of_ble_eq_true rfl) ?_
  intro p e s m below meth c hx hb hml hr hlk hts hown hnm hK hH ls hl
  have hC := (⟨hx, hb, hml, hown, hts⟩ : CallFix p m c cX1_swap 4 s _ wsX1_swap RX1)
  have hin : ∀ w ∈ wsX10, w ∈ wsX1_swap := by decide +kernel
  have L13 : Cond.fieldLink RX1 13 "TwoColoursModel" "second" "[I" ∈ wsX1_swap := by decide +kernel
  have hl : lv_has ls 4 [(0, .ref (q 0)), (1, .int (k)), (2, .int (h))] := hl
  have hS : va_S (aL q) s.heap H [] := by rw [hH]; exact va_S.rf
  refine lv_aload_n hx hb dX1_swap_0 rfl (lv_at hl 0 rfl) ?_
  refine lv_iload_n hx hb dX1_swap_1 rfl (lv_at hl 1 rfl) ?_
  refine cV (As := [.int (k)]) hC hK hP rfl rfl (kX1_isThing hP k (by omega)) [] (cwV 1 hts gX1_swap_X1_isThing rfl rfl rfl hdX1_isThing ⟨Nat.le_of_ble_eq_true rfl, Nat.le_of_ble_eq_true rfl⟩) rfl hl.1 rfl (Nat.le_of_ble_eq_true rfl) dX1_swap_2 ⟨Nat.zero_le _, Nat.zero_le _⟩ ?_
  refine lv_if_eq (tgt := 16) hx hb dX1_swap_5 (by decide) (fun cz1 => ?_) (fun cz1 => ?_)
  · have cz1 := b2_0 cz1
    refine lv_iconst (v := (-1)) hx hb dX1_swap_16 (by decide) ?_
    exact rIw hx hb hr hlk hS (by rw [if_neg (fun h => cz1 h.1)]; exact hP) dX1_swap_17 (by rw [if_neg (fun h => cz1 h.1)])
  · have cz1 := b2_1 cz1
    obtain ⟨i1, hi1, e1⟩ := inN cz1 (by omega)
    subst e1
    refine lv_aload_n hx hb dX1_swap_8 rfl (lv_at hl 0 rfl) ?_
    refine lv_iload_n hx hb dX1_swap_9 rfl (lv_at hl 2 rfl) ?_
    refine cV (As := [.int (h)]) hC hK hP rfl rfl (kX1_isThing hP h (by omega)) [] (cwV 1 hts gX1_swap_X1_isThing rfl rfl rfl hdX1_isThing ⟨Nat.le_of_ble_eq_true rfl, Nat.le_of_ble_eq_true rfl⟩) rfl hl.1 rfl (Nat.le_of_ble_eq_true rfl) dX1_swap_10 ⟨Nat.zero_le _, Nat.zero_le _⟩ ?_
    refine lv_if_ne (tgt := 18) hx hb dX1_swap_13 (by decide) (fun cz2 => ?_) (fun cz2 => ?_)
    · have cz2 := b2_1 cz2
      obtain ⟨i2, hi2, e2⟩ := inN cz2 (by omega)
      subst e2
      refine lv_aload_n hx hb dX1_swap_18 rfl (lv_at hl 0 rfl) ?_
      refine gM_second hx hb hts hin hown hK hP L13 dX1_swap_19 ?_
      refine lv_iload_n hx hb dX1_swap_22 rfl (lv_at hl 1 rfl) ?_
      refine ldM_second (j := i1) hx hb hK hP rfl (by omega) dX1_swap_23 ?_
      refine lv_istore_n (lv' := [(3, .int (ta i1)), (0, .ref (q 0)), (1, .int (nI i1)), (2, .int (nI i2))]) hx hb dX1_swap_24 rfl hl (by decide) rfl (fun ls hl => ?_)
      refine lv_aload_n hx hb dX1_swap_25 rfl (lv_at hl 1 rfl) ?_
      refine gM_second hx hb hts hin hown hK hP L13 dX1_swap_26 ?_
      refine lv_iload_n hx hb dX1_swap_29 rfl (lv_at hl 2 rfl) ?_
      refine lv_aload_n hx hb dX1_swap_30 rfl (lv_at hl 1 rfl) ?_
      refine gM_second hx hb hts hin hown hK hP L13 dX1_swap_31 ?_
      refine lv_iload_n hx hb dX1_swap_34 rfl (lv_at hl 3 rfl) ?_
      refine ldM_second (j := i2) hx hb hK hP rfl (by omega) dX1_swap_35 ?_
      refine stM_second (j := i1) hx hb hK hP hD hS rfl (by omega) dX1_swap_36 (fun H locs hP hD hS => ?_)
      refine lv_aload_n hx hb dX1_swap_37 rfl (lv_at hl 1 rfl) ?_
      refine gM_second hx hb hts hin hown hK hP L13 dX1_swap_38 ?_
      refine lv_iload_n hx hb dX1_swap_41 rfl (lv_at hl 3 rfl) ?_
      refine lv_iload_n hx hb dX1_swap_42 rfl (lv_at hl 0 rfl) ?_
      refine stM_second (j := i2) hx hb hK hP hD hS rfl (by omega) dX1_swap_43 (fun H locs hP hD hS => ?_)
      refine lv_iconst (v := 1) hx hb dX1_swap_44 (by decide) ?_
      exact rIw hx hb hr hlk hS (by rw [if_pos ⟨cz1, cz2⟩, ix_nI (by omega), ix_nI (by omega)]; exact hP) dX1_swap_45 (by rw [if_pos ⟨cz1, cz2⟩])
    · have cz2 := b2_0 cz2
      refine lv_iconst (v := (-1)) hx hb dX1_swap_16 (by decide) ?_
      exact rIw hx hb hr hlk hS (by rw [if_neg (fun h => cz2 h.2)]; exact hP) dX1_swap_17 (by rw [if_neg (fun h => cz2 h.2)])

theorem hdX1_has : yX1_has.cls = RX1 ∧ yX1_has.cls ≠ "java/lang/invoke/MethodHandle" ∧ yX1_has.cls ≠ "java/lang/invoke/VarHandle" ∧ (parseMethodDescriptor yX1_has.desc).map (fun d => d.parameters.length) = some 2 := by decide +kernel
set_option maxHeartbeats 4000000 in
set_option maxRecDepth 100000 in
theorem kX1_has {l : Launch} {D : va_G} {cy : ClassId} {H : Heap} {q : Nat → Nat} {ff fm fw : Int32} {ak : Int64} {ta gh kd fa fb sx sy mb co : Nat → Int32} {N K S : Nat} {pl : Nat → Int32} (hP : va_P D vwCl (wM cy q (nI N) (nI K) (nI S) ff fm fw ak ta gh kd fa fb sx sy mb co) H) (hD : va_D (aL q) (wM cy q (nI N) (nI K) (nI S) ff fm fw ak ta gh kd fa fb sx sy mb co)) (k : Int32) (h : Int32) (hN : N ≤ 12) (hKn : K ≤ 10) (hpl : plOk ta pl N) (hw : hpOk kd fa fb N K) : Met l yX1_has wsX1_has { frames := 2, cells := 0, slots := 0, locals := 44 } (pcK D cy H [.ref (q 0), .int k, .int h]) (qI (some (.int (if (0 ≤ k ∧ k < nI K) ∧ (0 ≤ h ∧ h < nI N) then bitI (hbX pl kd fa fb N (ix k)) h else -1))) (va_P D vwCl (if (0 ≤ k ∧ k < nI K) ∧ (0 ≤ h ∧ h < nI N) then wM cy q (nI N) (nI K) (nI S) ff fm fw (ak + (trI (kd (ix k))).toInt64) ta gh kd fa fb sx sy mb co else wM cy q (nI N) (nI K) (nI S) ff fm fw ak ta gh kd fa fb sx sy mb co)) (aL q)) 0 0 (aL q) := by
  refine mV 3 (by decide) rfl (Nat.le_of_ble_eq_true rfl) ?_
  intro p e s m below meth c hx hb hml hr hlk hts hown hnm hK hH ls hl
  have hC := (⟨hx, hb, hml, hown, hts⟩ : CallFix p m c cX1_has 3 s _ wsX1_has RX1)
  have hin : ∀ w ∈ wsX10, w ∈ wsX1_has := by decide +kernel
  have L20 : Cond.fieldLink RX1 20 "TwoColoursModel" "kind" "[I" ∈ wsX1_has := by decide +kernel
  have L62 : Cond.fieldLink RX1 62 "TwoColoursModel" "trace" "J" ∈ wsX1_has := by decide +kernel
  have hl : lv_has ls 3 [(0, .ref (q 0)), (1, .int (k)), (2, .int (h))] := hl
  have hS : va_S (aL q) s.heap H [] := by rw [hH]; exact va_S.rf
  refine lv_aload_n hx hb dX1_has_0 rfl (lv_at hl 0 rfl) ?_
  refine lv_iload_n hx hb dX1_has_1 rfl (lv_at hl 1 rfl) ?_
  refine cV (As := [.int (k)]) hC hK hP rfl rfl (kX1_isHeap hP k (by omega)) [] (cwV 1 hts gX1_has_X1_isHeap rfl rfl rfl hdX1_isHeap ⟨Nat.le_of_ble_eq_true rfl, Nat.le_of_ble_eq_true rfl⟩) rfl hl.1 rfl (Nat.le_of_ble_eq_true rfl) dX1_has_2 ⟨Nat.zero_le _, Nat.zero_le _⟩ ?_
  refine lv_if_eq (tgt := 16) hx hb dX1_has_5 (by decide) (fun cz1 => ?_) (fun cz1 => ?_)
  · have cz1 := b2_0 cz1
    refine lv_iconst (v := (-1)) hx hb dX1_has_16 (by decide) ?_
    exact rIw hx hb hr hlk hS (by rw [if_neg (fun h => cz1 h.1)]; exact hP) dX1_has_17 (by rw [if_neg (fun h => cz1 h.1)])
  · have cz1 := b2_1 cz1
    obtain ⟨j, hj, ej⟩ := inN cz1 (by omega)
    subst ej
    have hk4 := can_k (hw j hj)
    refine lv_aload_n hx hb dX1_has_8 rfl (lv_at hl 0 rfl) ?_
    refine lv_iload_n hx hb dX1_has_9 rfl (lv_at hl 2 rfl) ?_
    refine cV (As := [.int (h)]) hC hK hP rfl rfl (kX1_isThing hP h (by omega)) [] (cwV 1 hts gX1_has_X1_isThing rfl rfl rfl hdX1_isThing ⟨Nat.le_of_ble_eq_true rfl, Nat.le_of_ble_eq_true rfl⟩) rfl hl.1 rfl (Nat.le_of_ble_eq_true rfl) dX1_has_10 ⟨Nat.zero_le _, Nat.zero_le _⟩ ?_
    refine lv_if_ne (tgt := 18) hx hb dX1_has_13 (by decide) (fun cz2 => ?_) (fun cz2 => ?_)
    · have cz2 := b2_1 cz2
      obtain ⟨t, ht, et⟩ := inN cz2 (by omega)
      subst et
      refine lv_aload_n hx hb dX1_has_18 rfl (lv_at hl 0 rfl) ?_
      refine lv_dup hx hb dX1_has_19 rfl ?_
      refine gM_trace hx hb hts hin hown hK hP L62 dX1_has_20 ?_
      refine lv_aload_n hx hb dX1_has_23 rfl (lv_at hl 0 rfl) ?_
      refine gM_kind hx hb hts hin hown hK hP L20 dX1_has_24 ?_
      refine lv_iload_n hx hb dX1_has_27 rfl (lv_at hl 1 rfl) ?_
      refine ldM_kind (j := j) hx hb hK hP rfl (by omega) dX1_has_28 ?_
      refine lv_if_ne (tgt := 36) hx hb dX1_has_29 (by decide) (fun cz3 => ?_) (fun cz3 => ?_)
      · refine lv_aload_n hx hb dX1_has_36 rfl (lv_at hl 0 rfl) ?_
        refine gM_kind hx hb hts hin hown hK hP L20 dX1_has_37 ?_
        refine lv_iload_n hx hb dX1_has_40 rfl (lv_at hl 1 rfl) ?_
        refine ldM_kind (j := j) hx hb hK hP rfl (by omega) dX1_has_41 ?_
        refine lv_iconst (v := 1) hx hb dX1_has_42 (by decide) ?_
        refine lv_icmp_ne (tgt := 52) hx hb dX1_has_43 (by decide) (fun cz4 => ?_) (fun cz4 => ?_)
        · refine lv_aload_n hx hb dX1_has_52 rfl (lv_at hl 0 rfl) ?_
          refine gM_kind hx hb hts hin hown hK hP L20 dX1_has_53 ?_
          refine lv_iload_n hx hb dX1_has_56 rfl (lv_at hl 1 rfl) ?_
          refine ldM_kind (j := j) hx hb hK hP rfl (by omega) dX1_has_57 ?_
          refine lv_iconst (v := 2) hx hb dX1_has_58 (by decide) ?_
          refine lv_icmp_ne (tgt := 68) hx hb dX1_has_59 (by decide) (fun cz5 => ?_) (fun cz5 => ?_)
          · refine lv_ldc2 (v := 1000) hx hb hown (hts (.constantLong RX1 70 (1000)) (by decide +kernel)) dX1_has_68 ?_
            refine tpL (y := (trI (kd j)).toInt64) (by rw [show kd j = 3 from ((hk4.resolve_left cz3).resolve_left cz4).resolve_left cz5]; decide) ?_
            refine lv_ladd hx hb dX1_has_71 ?_
            refine pM_trace hx hb hts hin hown hK hP hD hS L62 dX1_has_72 (fun H locs hP hD hS => ?_)
            refine lv_aload_n hx hb dX1_has_75 rfl (lv_at hl 0 rfl) ?_
            refine lv_iload_n hx hb dX1_has_76 rfl (lv_at hl 1 rfl) ?_
            refine lv_iload_n hx hb dX1_has_77 rfl (lv_at hl 2 rfl) ?_
            refine cV (As := [.int (nI j), .int (nI t)]) hC hK hP rfl rfl (kX1_holds hP j t hN hKn hpl hw hj ht) [] (cwV 2 hts gX1_has_X1_holds rfl rfl rfl hdX1_holds ⟨Nat.le_of_ble_eq_true rfl, Nat.le_of_ble_eq_true rfl⟩) rfl hl.1 rfl (Nat.le_of_ble_eq_true rfl) dX1_has_78 ⟨Nat.zero_le _, Nat.zero_le _⟩ ?_
            refine lv_if_eq (tgt := 88) hx hb dX1_has_81 (by decide) (fun cz6 => ?_) (fun cz6 => ?_)
            · have cz6 := b2_0 cz6
              refine lv_iconst (v := 0) hx hb dX1_has_88 (by decide) ?_
              exact rIw hx hb hr hlk hS (by rw [if_pos ⟨cz1, cz2⟩, ix_nI (by omega)]; exact hP) dX1_has_89 (by rw [if_pos ⟨cz1, cz2⟩, ix_nI (by omega)]; exact hbX_f hN ht cz6)
            · have cz6 := b2_1 cz6
              refine lv_iconst (v := 1) hx hb dX1_has_84 (by decide) ?_
              refine lv_goto (tgt := 89) hx hb dX1_has_85 (by decide) ?_
              exact rIw hx hb hr hlk hS (by rw [if_pos ⟨cz1, cz2⟩, ix_nI (by omega)]; exact hP) dX1_has_89 (by rw [if_pos ⟨cz1, cz2⟩, ix_nI (by omega)]; exact hbX_t hN ht cz6)
          · refine lv_ldc2 (v := 110) hx hb hown (hts (.constantLong RX1 68 (110)) (by decide +kernel)) dX1_has_62 ?_
            refine lv_goto (tgt := 71) hx hb dX1_has_65 (by decide) ?_
            refine tpL (y := (trI (kd j)).toInt64) (by rw [cz5]; decide) ?_
            refine lv_ladd hx hb dX1_has_71 ?_
            refine pM_trace hx hb hts hin hown hK hP hD hS L62 dX1_has_72 (fun H locs hP hD hS => ?_)
            refine lv_aload_n hx hb dX1_has_75 rfl (lv_at hl 0 rfl) ?_
            refine lv_iload_n hx hb dX1_has_76 rfl (lv_at hl 1 rfl) ?_
            refine lv_iload_n hx hb dX1_has_77 rfl (lv_at hl 2 rfl) ?_
            refine cV (As := [.int (nI j), .int (nI t)]) hC hK hP rfl rfl (kX1_holds hP j t hN hKn hpl hw hj ht) [] (cwV 2 hts gX1_has_X1_holds rfl rfl rfl hdX1_holds ⟨Nat.le_of_ble_eq_true rfl, Nat.le_of_ble_eq_true rfl⟩) rfl hl.1 rfl (Nat.le_of_ble_eq_true rfl) dX1_has_78 ⟨Nat.zero_le _, Nat.zero_le _⟩ ?_
            refine lv_if_eq (tgt := 88) hx hb dX1_has_81 (by decide) (fun cz7 => ?_) (fun cz7 => ?_)
            · have cz7 := b2_0 cz7
              refine lv_iconst (v := 0) hx hb dX1_has_88 (by decide) ?_
              exact rIw hx hb hr hlk hS (by rw [if_pos ⟨cz1, cz2⟩, ix_nI (by omega)]; exact hP) dX1_has_89 (by rw [if_pos ⟨cz1, cz2⟩, ix_nI (by omega)]; exact hbX_f hN ht cz7)
            · have cz7 := b2_1 cz7
              refine lv_iconst (v := 1) hx hb dX1_has_84 (by decide) ?_
              refine lv_goto (tgt := 89) hx hb dX1_has_85 (by decide) ?_
              exact rIw hx hb hr hlk hS (by rw [if_pos ⟨cz1, cz2⟩, ix_nI (by omega)]; exact hP) dX1_has_89 (by rw [if_pos ⟨cz1, cz2⟩, ix_nI (by omega)]; exact hbX_t hN ht cz7)
        · refine lv_ldc2 (v := 10) hx hb hown (hts (.constantLong RX1 66 (10)) (by decide +kernel)) dX1_has_46 ?_
          refine lv_goto (tgt := 71) hx hb dX1_has_49 (by decide) ?_
          refine tpL (y := (trI (kd j)).toInt64) (by rw [cz4]; decide) ?_
          refine lv_ladd hx hb dX1_has_71 ?_
          refine pM_trace hx hb hts hin hown hK hP hD hS L62 dX1_has_72 (fun H locs hP hD hS => ?_)
          refine lv_aload_n hx hb dX1_has_75 rfl (lv_at hl 0 rfl) ?_
          refine lv_iload_n hx hb dX1_has_76 rfl (lv_at hl 1 rfl) ?_
          refine lv_iload_n hx hb dX1_has_77 rfl (lv_at hl 2 rfl) ?_
          refine cV (As := [.int (nI j), .int (nI t)]) hC hK hP rfl rfl (kX1_holds hP j t hN hKn hpl hw hj ht) [] (cwV 2 hts gX1_has_X1_holds rfl rfl rfl hdX1_holds ⟨Nat.le_of_ble_eq_true rfl, Nat.le_of_ble_eq_true rfl⟩) rfl hl.1 rfl (Nat.le_of_ble_eq_true rfl) dX1_has_78 ⟨Nat.zero_le _, Nat.zero_le _⟩ ?_
          refine lv_if_eq (tgt := 88) hx hb dX1_has_81 (by decide) (fun cz8 => ?_) (fun cz8 => ?_)
          · have cz8 := b2_0 cz8
            refine lv_iconst (v := 0) hx hb dX1_has_88 (by decide) ?_
            exact rIw hx hb hr hlk hS (by rw [if_pos ⟨cz1, cz2⟩, ix_nI (by omega)]; exact hP) dX1_has_89 (by rw [if_pos ⟨cz1, cz2⟩, ix_nI (by omega)]; exact hbX_f hN ht cz8)
          · have cz8 := b2_1 cz8
            refine lv_iconst (v := 1) hx hb dX1_has_84 (by decide) ?_
            refine lv_goto (tgt := 89) hx hb dX1_has_85 (by decide) ?_
            exact rIw hx hb hr hlk hS (by rw [if_pos ⟨cz1, cz2⟩, ix_nI (by omega)]; exact hP) dX1_has_89 (by rw [if_pos ⟨cz1, cz2⟩, ix_nI (by omega)]; exact hbX_t hN ht cz8)
      · refine lv_lconst (v := 1) hx hb dX1_has_32 (by decide) ?_
        refine lv_goto (tgt := 71) hx hb dX1_has_33 (by decide) ?_
        refine tpL (y := (trI (kd j)).toInt64) (by rw [cz3]; decide) ?_
        refine lv_ladd hx hb dX1_has_71 ?_
        refine pM_trace hx hb hts hin hown hK hP hD hS L62 dX1_has_72 (fun H locs hP hD hS => ?_)
        refine lv_aload_n hx hb dX1_has_75 rfl (lv_at hl 0 rfl) ?_
        refine lv_iload_n hx hb dX1_has_76 rfl (lv_at hl 1 rfl) ?_
        refine lv_iload_n hx hb dX1_has_77 rfl (lv_at hl 2 rfl) ?_
        refine cV (As := [.int (nI j), .int (nI t)]) hC hK hP rfl rfl (kX1_holds hP j t hN hKn hpl hw hj ht) [] (cwV 2 hts gX1_has_X1_holds rfl rfl rfl hdX1_holds ⟨Nat.le_of_ble_eq_true rfl, Nat.le_of_ble_eq_true rfl⟩) rfl hl.1 rfl (Nat.le_of_ble_eq_true rfl) dX1_has_78 ⟨Nat.zero_le _, Nat.zero_le _⟩ ?_
        refine lv_if_eq (tgt := 88) hx hb dX1_has_81 (by decide) (fun cz9 => ?_) (fun cz9 => ?_)
        · have cz9 := b2_0 cz9
          refine lv_iconst (v := 0) hx hb dX1_has_88 (by decide) ?_
          exact rIw hx hb hr hlk hS (by rw [if_pos ⟨cz1, cz2⟩, ix_nI (by omega)]; exact hP) dX1_has_89 (by rw [if_pos ⟨cz1, cz2⟩, ix_nI (by omega)]; exact hbX_f hN ht cz9)
        · have cz9 := b2_1 cz9
          refine lv_iconst (v := 1) hx hb dX1_has_84 (by decide) ?_
          refine lv_goto (tgt := 89) hx hb dX1_has_85 (by decide) ?_
          exact rIw hx hb hr hlk hS (by rw [if_pos ⟨cz1, cz2⟩, ix_nI (by omega)]; exact hP) dX1_has_89 (by rw [if_pos ⟨cz1, cz2⟩, ix_nI (by omega)]; exact hbX_t hN ht cz9)
    · have cz2 := b2_0 cz2
      refine lv_iconst (v := (-1)) hx hb dX1_has_16 (by decide) ?_
      exact rIw hx hb hr hlk hS (by rw [if_neg (fun h => cz2 h.2)]; exact hP) dX1_has_17 (by rw [if_neg (fun h => cz2 h.2)])

theorem hdX1_hold : yX1_hold.cls = RX1 ∧ yX1_hold.cls ≠ "java/lang/invoke/MethodHandle" ∧ yX1_hold.cls ≠ "java/lang/invoke/VarHandle" ∧ (parseMethodDescriptor yX1_hold.desc).map (fun d => d.parameters.length) = some 2 := by decide +kernel
set_option maxHeartbeats 4000000 in
set_option maxRecDepth 100000 in
theorem kX1_hold {l : Launch} {D : va_G} {cy : ClassId} {H : Heap} {q : Nat → Nat} {ff fm fw : Int32} {ak : Int64} {ta gh kd fa fb sx sy mb co : Nat → Int32} {N K S : Nat}  (hP : va_P D vwCl (wM cy q (nI N) (nI K) (nI S) ff fm fw ak ta gh kd fa fb sx sy mb co) H) (hD : va_D (aL q) (wM cy q (nI N) (nI K) (nI S) ff fm fw ak ta gh kd fa fb sx sy mb co)) (k : Int32) (h : Int32) (hN : N ≤ 12) : Met l yX1_hold wsX1_hold { frames := 2, cells := 0, slots := 0, locals := 43 } (pcK D cy H [.ref (q 0), .int k, .int h]) (qI (some (.int (if (0 ≤ k ∧ k < nI N) ∧ (-1 ≤ h ∧ h ≤ 1) then gh (ix k) else -2))) (va_P D vwCl (if (0 ≤ k ∧ k < nI N) ∧ (-1 ≤ h ∧ h ≤ 1) then wM cy q (nI N) (nI K) (nI S) ff fm fw ak ta (upd gh (ix k) h) kd fa fb sx sy mb co else wM cy q (nI N) (nI K) (nI S) ff fm fw ak ta gh kd fa fb sx sy mb co)) (aL q)) 0 0 (aL q) := by
  refine mV 4 (by decide) rfl (Nat.le_of_ble_eq_true rfl) ?_
  intro p e s m below meth c hx hb hml hr hlk hts hown hnm hK hH ls hl
  have hC := (⟨hx, hb, hml, hown, hts⟩ : CallFix p m c cX1_hold 4 s _ wsX1_hold RX1)
  have hin : ∀ w ∈ wsX10, w ∈ wsX1_hold := by decide +kernel
  have L17 : Cond.fieldLink RX1 17 "TwoColoursModel" "held" "[I" ∈ wsX1_hold := by decide +kernel
  have hl : lv_has ls 4 [(0, .ref (q 0)), (1, .int (k)), (2, .int (h))] := hl
  have hS : va_S (aL q) s.heap H [] := by rw [hH]; exact va_S.rf
  refine lv_aload_n hx hb dX1_hold_0 rfl (lv_at hl 0 rfl) ?_
  refine lv_iload_n hx hb dX1_hold_1 rfl (lv_at hl 1 rfl) ?_
  refine cV (As := [.int (k)]) hC hK hP rfl rfl (kX1_isThing hP k (by omega)) [] (cwV 1 hts gX1_hold_X1_isThing rfl rfl rfl hdX1_isThing ⟨Nat.le_of_ble_eq_true rfl, Nat.le_of_ble_eq_true rfl⟩) rfl hl.1 rfl (Nat.le_of_ble_eq_true rfl) dX1_hold_2 ⟨Nat.zero_le _, Nat.zero_le _⟩ ?_
  refine lv_if_eq (tgt := 17) hx hb dX1_hold_5 (by decide) (fun cz1 => ?_) (fun cz1 => ?_)
  · have cz1 := b2_0 cz1
    refine lv_bipush (v := (-2)) hx hb dX1_hold_17 (by decide) ?_
    exact rIw hx hb hr hlk hS (by rw [if_neg (fun h => cz1 h.1)]; exact hP) dX1_hold_19 (by rw [if_neg (fun h => cz1 h.1)])
  · have cz1 := b2_1 cz1
    obtain ⟨j, hj, ej⟩ := inN cz1 (by omega)
    subst ej
    refine lv_iload_n hx hb dX1_hold_8 rfl (lv_at hl 2 rfl) ?_
    refine lv_iconst (v := (-1)) hx hb dX1_hold_9 (by decide) ?_
    refine lv_iconst (v := 1) hx hb dX1_hold_10 (by decide) ?_
    refine cS (As := [.int (h), .int (-1), .int (1)]) hC (kX1_in h ((-1)) 1 ) [] (va_cwS 3 hts gX1_hold_X1_in rfl rfl rfl (by decide +kernel) ⟨Nat.le_of_ble_eq_true rfl, Nat.le_of_ble_eq_true rfl⟩) rfl hl.1 rfl (Nat.le_of_ble_eq_true rfl) dX1_hold_11 ⟨Nat.zero_le _, Nat.zero_le _⟩ ?_
    refine lv_if_ne (tgt := 20) hx hb dX1_hold_14 (by decide) (fun cz2 => ?_) (fun cz2 => ?_)
    · have cz2 := b2_1 cz2
      refine lv_aload_n hx hb dX1_hold_20 rfl (lv_at hl 0 rfl) ?_
      refine gM_held hx hb hts hin hown hK hP L17 dX1_hold_21 ?_
      refine lv_iload_n hx hb dX1_hold_24 rfl (lv_at hl 1 rfl) ?_
      refine ldM_held (j := j) hx hb hK hP rfl (by omega) dX1_hold_25 ?_
      refine lv_istore_n (lv' := [(3, .int (gh j)), (0, .ref (q 0)), (1, .int (nI j)), (2, .int (h))]) hx hb dX1_hold_26 rfl hl (by decide) rfl (fun ls hl => ?_)
      refine lv_aload_n hx hb dX1_hold_27 rfl (lv_at hl 1 rfl) ?_
      refine gM_held hx hb hts hin hown hK hP L17 dX1_hold_28 ?_
      refine lv_iload_n hx hb dX1_hold_31 rfl (lv_at hl 2 rfl) ?_
      refine lv_iload_n hx hb dX1_hold_32 rfl (lv_at hl 3 rfl) ?_
      refine stM_held (j := j) hx hb hK hP hD hS rfl (by omega) dX1_hold_33 (fun H locs hP hD hS => ?_)
      refine lv_iload_n hx hb dX1_hold_34 rfl (lv_at hl 0 rfl) ?_
      exact rIw hx hb hr hlk hS (by rw [if_pos ⟨cz1, cz2⟩, ix_nI (by omega)]; exact hP) dX1_hold_35 (by rw [if_pos ⟨cz1, cz2⟩, ix_nI (by omega)])
    · have cz2 := b2_0 cz2
      refine lv_bipush (v := (-2)) hx hb dX1_hold_17 (by decide) ?_
      exact rIw hx hb hr hlk hS (by rw [if_neg (fun h => cz2 h.2)]; exact hP) dX1_hold_19 (by rw [if_neg (fun h => cz2 h.2)])

theorem hdX1_step : yX1_step.cls = RX1 ∧ yX1_step.cls ≠ "java/lang/invoke/MethodHandle" ∧ yX1_step.cls ≠ "java/lang/invoke/VarHandle" ∧ (parseMethodDescriptor yX1_step.desc).map (fun d => d.parameters.length) = some 2 := by decide +kernel
set_option maxHeartbeats 4000000 in
set_option maxRecDepth 100000 in
theorem kX1_step {l : Launch} {D : va_G} {cy : ClassId} {H : Heap} {q : Nat → Nat} {ff fm fw : Int32} {ak : Int64} {ta gh kd fa fb sx sy mb co : Nat → Int32} {N K S : Nat}  (hP : va_P D vwCl (wM cy q (nI N) (nI K) (nI S) ff fm fw ak ta gh kd fa fb sx sy mb co) H) (hD : va_D (aL q) (wM cy q (nI N) (nI K) (nI S) ff fm fw ak ta gh kd fa fb sx sy mb co)) (x : Int32) (y : Int32) (hSn : S ≤ 10) : Met l yX1_step wsX1_step { frames := 1, cells := 0, slots := 0, locals := 22 } (pcK D cy H [.ref (q 0), .int x, .int y]) (qI (some (.int (if ((-20 ≤ x ∧ x ≤ 20) ∧ (-20 ≤ y ∧ y ≤ 20)) ∧ S < 10 then nI S else if (-20 ≤ x ∧ x ≤ 20) ∧ (-20 ≤ y ∧ y ≤ 20) then -3 else -1))) (va_P D vwCl (if ((-20 ≤ x ∧ x ≤ 20) ∧ (-20 ≤ y ∧ y ≤ 20)) ∧ S < 10 then wM cy q (nI N) (nI K) (nI (S + 1)) ff fm fw ak ta gh kd fa fb (upd sx S x) (upd sy S y) mb co else if (-20 ≤ x ∧ x ≤ 20) ∧ (-20 ≤ y ∧ y ≤ 20) then wM cy q (nI N) (nI K) (nI S) ff fm fw ak ta gh kd fa fb sx sy mb co else wM cy q (nI N) (nI K) (nI S) ff fm fw ak ta gh kd fa fb sx sy mb co)) (aL q)) 0 0 (aL q) := by
  refine mV 3 (by decide) rfl (Nat.le_of_ble_eq_true rfl) ?_
  intro p e s m below meth c hx hb hml hr hlk hts hown hnm hK hH ls hl
  have hC := (⟨hx, hb, hml, hown, hts⟩ : CallFix p m c cX1_step 3 s _ wsX1_step RX1)
  have hin : ∀ w ∈ wsX10, w ∈ wsX1_step := by decide +kernel
  have L29 : Cond.fieldLink RX1 29 "TwoColoursModel" "stepX" "[I" ∈ wsX1_step := by decide +kernel
  have L32 : Cond.fieldLink RX1 32 "TwoColoursModel" "stepY" "[I" ∈ wsX1_step := by decide +kernel
  have L122 : Cond.fieldLink RX1 122 "TwoColoursModel" "steps" "I" ∈ wsX1_step := by decide +kernel
  have hl : lv_has ls 3 [(0, .ref (q 0)), (1, .int (x)), (2, .int (y))] := hl
  have hS : va_S (aL q) s.heap H [] := by rw [hH]; exact va_S.rf
  refine lv_iload_n hx hb dX1_step_0 rfl (lv_at hl 1 rfl) ?_
  refine lv_bipush (v := (-20)) hx hb dX1_step_1 (by decide) ?_
  refine lv_bipush (v := 20) hx hb dX1_step_3 (by decide) ?_
  refine cS (As := [.int (x), .int (-20), .int (20)]) hC (kX1_in x ((-20)) 20 ) [] (va_cwS 3 hts gX1_step_X1_in rfl rfl rfl (by decide +kernel) ⟨Nat.le_of_ble_eq_true rfl, Nat.le_of_ble_eq_true rfl⟩) rfl hl.1 rfl (Nat.le_of_ble_eq_true rfl) dX1_step_5 ⟨Nat.zero_le _, Nat.zero_le _⟩ ?_
  refine lv_if_eq (tgt := 22) hx hb dX1_step_8 (by decide) (fun cz1 => ?_) (fun cz1 => ?_)
  · have cz1 := b2_0 cz1
    refine lv_iconst (v := (-1)) hx hb dX1_step_22 (by decide) ?_
    exact rIw hx hb hr hlk hS (by rw [if_neg (fun h => (fun h => cz1 h.1) h.1), if_neg (fun h => cz1 h.1)]; exact hP) dX1_step_23 (by rw [if_neg (fun h => (fun h => cz1 h.1) h.1), if_neg (fun h => cz1 h.1)])
  · have cz1 := b2_1 cz1
    refine lv_iload_n hx hb dX1_step_11 rfl (lv_at hl 2 rfl) ?_
    refine lv_bipush (v := (-20)) hx hb dX1_step_12 (by decide) ?_
    refine lv_bipush (v := 20) hx hb dX1_step_14 (by decide) ?_
    refine cS (As := [.int (y), .int (-20), .int (20)]) hC (kX1_in y ((-20)) 20 ) [] (va_cwS 3 hts gX1_step_X1_in rfl rfl rfl (by decide +kernel) ⟨Nat.le_of_ble_eq_true rfl, Nat.le_of_ble_eq_true rfl⟩) rfl hl.1 rfl (Nat.le_of_ble_eq_true rfl) dX1_step_16 ⟨Nat.zero_le _, Nat.zero_le _⟩ ?_
    refine lv_if_ne (tgt := 24) hx hb dX1_step_19 (by decide) (fun cz2 => ?_) (fun cz2 => ?_)
    · have cz2 := b2_1 cz2
      refine lv_aload_n hx hb dX1_step_24 rfl (lv_at hl 0 rfl) ?_
      refine gM_steps hx hb hts hin hown hK hP L122 dX1_step_25 ?_
      refine lv_bipush (v := 10) hx hb dX1_step_28 (by decide) ?_
      refine lv_icmp_ne (tgt := 36) hx hb dX1_step_30 (by decide) (fun cz3 => ?_) (fun cz3 => ?_)
      · have cz3 : ¬ S = 10 := fun h => cz3 ((nI_eq (a := S) (b := 10) (by omega) (by omega)).mpr h)
        refine lv_aload_n hx hb dX1_step_36 rfl (lv_at hl 0 rfl) ?_
        refine gM_stepX hx hb hts hin hown hK hP L29 dX1_step_37 ?_
        refine lv_aload_n hx hb dX1_step_40 rfl (lv_at hl 0 rfl) ?_
        refine gM_steps hx hb hts hin hown hK hP L122 dX1_step_41 ?_
        refine lv_iload_n hx hb dX1_step_44 rfl (lv_at hl 1 rfl) ?_
        refine stM_stepX (j := S) hx hb hK hP hD hS rfl (by omega) dX1_step_45 (fun H locs hP hD hS => ?_)
        refine lv_aload_n hx hb dX1_step_46 rfl (lv_at hl 0 rfl) ?_
        refine gM_stepY hx hb hts hin hown hK hP L32 dX1_step_47 ?_
        refine lv_aload_n hx hb dX1_step_50 rfl (lv_at hl 0 rfl) ?_
        refine gM_steps hx hb hts hin hown hK hP L122 dX1_step_51 ?_
        refine lv_iload_n hx hb dX1_step_54 rfl (lv_at hl 2 rfl) ?_
        refine stM_stepY (j := S) hx hb hK hP hD hS rfl (by omega) dX1_step_55 (fun H locs hP hD hS => ?_)
        refine lv_aload_n hx hb dX1_step_56 rfl (lv_at hl 0 rfl) ?_
        refine lv_dup hx hb dX1_step_57 rfl ?_
        refine gM_steps hx hb hts hin hown hK hP L122 dX1_step_58 ?_
        refine lv_iconst (v := 1) hx hb dX1_step_61 (by decide) ?_
        refine lv_iadd hx hb dX1_step_62 ?_
        refine tpI (y := nI (S + 1)) (nI_1 S) ?_
        refine pM_steps hx hb hts hin hown hK hP hD hS L122 dX1_step_63 (fun H locs hP hD hS => ?_)
        refine lv_aload_n hx hb dX1_step_66 rfl (lv_at hl 0 rfl) ?_
        refine gM_steps hx hb hts hin hown hK hP L122 dX1_step_67 ?_
        refine lv_iconst (v := 1) hx hb dX1_step_70 (by decide) ?_
        refine lv_isub hx hb dX1_step_71 ?_
        refine tpI (y := nI S) (nI_pred S) ?_
        exact rIw hx hb hr hlk hS (by rw [if_pos ⟨⟨cz1, cz2⟩, by omega⟩]; exact hP) dX1_step_72 (by rw [if_pos ⟨⟨cz1, cz2⟩, by omega⟩])
      · have cz3 : S = 10 := (nI_eq (a := S) (b := 10) (by omega) (by omega)).mp cz3
        refine lv_bipush (v := (-3)) hx hb dX1_step_33 (by decide) ?_
        exact rIw hx hb hr hlk hS (by rw [if_neg (fun h => absurd h.2 (by omega)), if_pos ⟨cz1, cz2⟩]; exact hP) dX1_step_35 (by rw [if_neg (fun h => absurd h.2 (by omega)), if_pos ⟨cz1, cz2⟩])
    · have cz2 := b2_0 cz2
      refine lv_iconst (v := (-1)) hx hb dX1_step_22 (by decide) ?_
      exact rIw hx hb hr hlk hS (by rw [if_neg (fun h => (fun h => cz2 h.2) h.1), if_neg (fun h => cz2 h.2)]; exact hP) dX1_step_23 (by rw [if_neg (fun h => (fun h => cz2 h.2) h.1), if_neg (fun h => cz2 h.2)])

theorem hdX1_clear : yX1_clear.cls = RX1 ∧ yX1_clear.cls ≠ "java/lang/invoke/MethodHandle" ∧ yX1_clear.cls ≠ "java/lang/invoke/VarHandle" ∧ (parseMethodDescriptor yX1_clear.desc).map (fun d => d.parameters.length) = some 0 := by decide +kernel
set_option maxHeartbeats 4000000 in
set_option maxRecDepth 100000 in
theorem kX1_clear {l : Launch} {D : va_G} {cy : ClassId} {H : Heap} {q : Nat → Nat} {ff fm fw : Int32} {ak : Int64} {ta gh kd fa fb sx sy mb co : Nat → Int32} {N K S : Nat}  (hP : va_P D vwCl (wM cy q (nI N) (nI K) (nI S) ff fm fw ak ta gh kd fa fb sx sy mb co) H) (hD : va_D (aL q) (wM cy q (nI N) (nI K) (nI S) ff fm fw ak ta gh kd fa fb sx sy mb co))   : Met l yX1_clear wsX1_clear { frames := 0, cells := 0, slots := 0, locals := 0 } (pcK D cy H [.ref (q 0)]) (qI (some (.int (nI S))) (va_P D vwCl (wM cy q (nI N) (nI K) (nI 0) ff fm fw ak ta gh kd fa fb sx sy mb co)) (aL q)) 0 0 (aL q) := by
  refine mV 2 (by decide) rfl (Nat.le_of_ble_eq_true rfl) ?_
  intro p e s m below meth c hx hb hml hr hlk hts hown hnm hK hH ls hl
  have hC := (⟨hx, hb, hml, hown, hts⟩ : CallFix p m c cX1_clear 2 s _ wsX1_clear RX1)
  have hin : ∀ w ∈ wsX10, w ∈ wsX1_clear := by decide +kernel
  have L122 : Cond.fieldLink RX1 122 "TwoColoursModel" "steps" "I" ∈ wsX1_clear := by decide +kernel
  have hl : lv_has ls 2 [(0, .ref (q 0))] := hl
  have hS : va_S (aL q) s.heap H [] := by rw [hH]; exact va_S.rf
  refine lv_aload_n hx hb dX1_clear_0 rfl (lv_at hl 0 rfl) ?_
  refine gM_steps hx hb hts hin hown hK hP L122 dX1_clear_1 ?_
  refine lv_istore_n (lv' := [(1, .int (nI S)), (0, .ref (q 0))]) hx hb dX1_clear_4 rfl hl (by decide) rfl (fun ls hl => ?_)
  refine lv_aload_n hx hb dX1_clear_5 rfl (lv_at hl 1 rfl) ?_
  refine lv_iconst (v := 0) hx hb dX1_clear_6 (by decide) ?_
  refine tpI (y := nI 0) nI_0.symm ?_
  refine pM_steps hx hb hts hin hown hK hP hD hS L122 dX1_clear_7 (fun H locs hP hD hS => ?_)
  refine lv_iload_n hx hb dX1_clear_10 rfl (lv_at hl 0 rfl) ?_
  exact rIw hx hb hr hlk hS hP dX1_clear_11 rfl

theorem hdX1_collect : yX1_collect.cls = RX1 ∧ yX1_collect.cls ≠ "java/lang/invoke/MethodHandle" ∧ yX1_collect.cls ≠ "java/lang/invoke/VarHandle" ∧ (parseMethodDescriptor yX1_collect.desc).map (fun d => d.parameters.length) = some 0 := by decide +kernel
set_option maxHeartbeats 4000000 in
set_option maxRecDepth 100000 in
theorem kX1_collect {l : Launch} {D : va_G} {cy : ClassId} {H : Heap} {q : Nat → Nat} {ff fm fw : Int32} {ak : Int64} {ta gh kd fa fb sx sy mb co : Nat → Int32} {N K S : Nat} {pl : Nat → Int32} (hP : va_P D vwCl (wM cy q (nI N) (nI K) (nI S) ff fm fw ak ta gh kd fa fb sx sy mb co) H) (hD : va_D (aL q) (wM cy q (nI N) (nI K) (nI S) ff fm fw ak ta gh kd fa fb sx sy mb co))  (hN : N ≤ 12) (hKn : K ≤ 10) (hpl : plOk ta pl N) (hw : hpOk kd fa fb N K) : Met l yX1_collect wsX1_collect { frames := 3, cells := 0, slots := 0, locals := 67 } (pcK D cy H [.ref (q 0)]) (qI none (va_P D vwCl (wM cy q (nI N) (nI K) (nI S) ff fm fw ak ta gh kd fa fb sx sy (rbF (hbX pl kd fa fb N) mb K) co)) (aL q)) 0 0 (aL q) := by
  refine mV 2 (by decide) rfl (Nat.le_of_ble_eq_true rfl) ?_
  intro p e s m below meth c hx hb hml hr hlk hts hown hnm hK hH ls hl
  have hC := (⟨hx, hb, hml, hown, hts⟩ : CallFix p m c cX1_collect 2 s _ wsX1_collect RX1)
  have hin : ∀ w ∈ wsX10, w ∈ wsX1_collect := by decide +kernel
  have L35 : Cond.fieldLink RX1 35 "TwoColoursModel" "heapBits" "[I" ∈ wsX1_collect := by decide +kernel
  have L41 : Cond.fieldLink RX1 41 "TwoColoursModel" "heaps" "I" ∈ wsX1_collect := by decide +kernel
  have hl : lv_has ls 2 [(0, .ref (q 0))] := hl
  have hS : va_S (aL q) s.heap H [] := by rw [hH]; exact va_S.rf
  refine lv_iconst (v := 0) hx hb dX1_collect_0 (by decide) ?_
  refine lv_istore_n (lv' := [(1, .int (0)), (0, .ref (q 0))]) hx hb dX1_collect_1 rfl hl (by decide) rfl (fun ls hl => ?_)
  refine lpW (σ := Nat) 2 (fun i ls H locs => (i ≤ K) ∧ lv_has ls 2 [(0, .ref (q 0)), (1, .int (nI i))] ∧ va_P D vwCl (wM cy q (nI N) (nI K) (nI S) ff fm fw ak ta gh kd fa fb sx sy (rbF (hbX pl kd fa fb N) mb i) co) H ∧ va_D (aL q) (wM cy q (nI N) (nI K) (nI S) ff fm fw ak ta gh kd fa fb sx sy (rbF (hbX pl kd fa fb N) mb i) co) ∧ va_S (aL q) s.heap H locs) (fun i => K - i) ?_ (0) ls ⟨Nat.zero_le _, lv_sub hl [1, 0] rfl, hP, hD, hS⟩
  intro i ls H locs hI ih_2
  obtain ⟨hi, hl, hP, hD, hS⟩ := hI
  refine lv_iload_n hx hb dX1_collect_2 rfl (lv_at hl 1 rfl) ?_
  refine lv_aload_n hx hb dX1_collect_3 rfl (lv_at hl 0 rfl) ?_
  refine gM_heaps hx hb hts hin hown hK hP L41 dX1_collect_4 ?_
  refine lv_icmp_ge (tgt := 27) hx hb dX1_collect_7 (by decide) (fun cz1 => ?_) (fun cz1 => ?_)
  · have cz1 : K ≤ i := (nI_leI (a := K) (b := i) (by omega) (by omega)).mp cz1
    have ei : K = i := by omega
    subst ei
    exact rVw hx hb hr hlk hS hP dX1_collect_27
  · have cz1 : ¬ K ≤ i := fun h => cz1 ((nI_leI (a := K) (b := i) (by omega) (by omega)).mpr h)
    refine lv_aload_n hx hb dX1_collect_10 rfl (lv_at hl 0 rfl) ?_
    refine gM_heapBits hx hb hts hin hown hK hP L35 dX1_collect_11 ?_
    refine lv_iload_n hx hb dX1_collect_14 rfl (lv_at hl 1 rfl) ?_
    refine lv_aload_n hx hb dX1_collect_15 rfl (lv_at hl 0 rfl) ?_
    refine lv_iload_n hx hb dX1_collect_16 rfl (lv_at hl 1 rfl) ?_
    refine cV (As := [.int (nI i)]) hC hK hP rfl rfl (kX1_bitsOf hP i hN hKn hpl hw (by omega)) [.int (nI i), .ref (q 8)] (cwV 1 hts gX1_collect_X1_bitsOf rfl rfl rfl hdX1_bitsOf ⟨Nat.le_of_ble_eq_true rfl, Nat.le_of_ble_eq_true rfl⟩) rfl hl.1 rfl (Nat.le_of_ble_eq_true rfl) dX1_collect_17 ⟨Nat.zero_le _, Nat.zero_le _⟩ ?_
    refine stM_heapBits (j := i) hx hb hK hP hD hS rfl (by omega) dX1_collect_20 (fun H locs hP hD hS => ?_)
    refine lv_iinc (v := nI (i + 1)) (lv' := [(1, .int (nI (i + 1))), (0, .ref (q 0))]) hx hb dX1_collect_21 hl (k := 1) rfl (nI_1 _) (by decide) rfl (fun ls hl => ?_)
    refine lv_goto (tgt := 2) hx hb dX1_collect_24 (by decide) ?_
    exact ih_2 (i + 1) _ _ _ (by omega) ⟨by omega, lv_sub hl [1, 0] rfl, hP, vD_same (by rfl) hD, hS⟩

theorem hdX1_worst : yX1_worst.cls = RX1 ∧ yX1_worst.cls ≠ "java/lang/invoke/MethodHandle" ∧ yX1_worst.cls ≠ "java/lang/invoke/VarHandle" ∧ (parseMethodDescriptor yX1_worst.desc).map (fun d => d.parameters.length) = some 1 := by decide +kernel
set_option maxHeartbeats 4000000 in
set_option maxRecDepth 100000 in
theorem kX1_worst {l : Launch} {D : va_G} {cy : ClassId} {H : Heap} {q : Nat → Nat} {ff fm fw : Int32} {ak : Int64} {ta gh kd fa fb sx sy mb co : Nat → Int32} {N K S : Nat} {pl : Nat → Int32} (hP : va_P D vwCl (wM cy q (nI N) (nI K) (nI S) ff fm fw ak ta gh kd fa fb sx sy mb co) H) (hD : va_D (aL q) (wM cy q (nI N) (nI K) (nI S) ff fm fw ak ta gh kd fa fb sx sy mb co)) (k : Int32) (hN : N ≤ 12) (hKn : K ≤ 10) (hpl : plOk ta pl N) (hw : hpOk kd fa fb N K) : Met l yX1_worst wsX1_worst { frames := 4, cells := 0, slots := 0, locals := 88 } (pcK D cy H [.ref (q 0), .int k]) (qI (some (.int (if 0 ≤ k ∧ k < nI (2 ^ N) then woF (rbF (hbX pl kd fa fb N) mb K) k K else -1))) (va_P D vwCl (wM cy q (nI N) (nI K) (nI S) ff fm fw ak ta gh kd fa fb sx sy (rbF (hbX pl kd fa fb N) mb K) co)) (aL q)) 0 0 (aL q) := by
  refine mV 2 (by decide) rfl (Nat.le_of_ble_eq_true rfl) ?_
  intro p e s m below meth c hx hb hml hr hlk hts hown hnm hK hH ls hl
  have hC := (⟨hx, hb, hml, hown, hts⟩ : CallFix p m c cX1_worst 2 s _ wsX1_worst RX1)
  have hl : lv_has ls 2 [(0, .ref (q 0)), (1, .int (k))] := hl
  have hS : va_S (aL q) s.heap H [] := by rw [hH]; exact va_S.rf
  refine lv_aload_n hx hb dX1_worst_0 rfl (lv_at hl 0 rfl) ?_
  refine cVw (As := []) hC hK hP rfl rfl (kX1_collect hP hD  hN hKn hpl hw) [] (cwV 0 hts gX1_worst_X1_collect rfl rfl rfl hdX1_collect ⟨Nat.le_of_ble_eq_true rfl, Nat.le_of_ble_eq_true rfl⟩) rfl hl.1 rfl (Nat.le_of_ble_eq_true rfl) dX1_worst_1 ⟨Nat.zero_le _, Nat.zero_le _⟩ hS (fun _ h => h) (fun H locs hP hz hkp hS => ?_)
  have hD := vD_same (w2 := wM cy q (nI N) (nI K) (nI S) ff fm fw ak ta gh kd fa fb sx sy (rbF (hbX pl kd fa fb N) mb K) co) (by rfl) hD
  refine lv_aload_n hx hb dX1_worst_4 rfl (lv_at hl 0 rfl) ?_
  refine lv_iload_n hx hb dX1_worst_5 rfl (lv_at hl 1 rfl) ?_
  refine cV (As := [.int (k)]) hC hK hP rfl rfl (kX1_isColouring hP k (by omega)) [] (cwV 1 hts gX1_worst_X1_isColouring rfl rfl rfl hdX1_isColouring ⟨Nat.le_of_ble_eq_true rfl, Nat.le_of_ble_eq_true rfl⟩) rfl hl.1 rfl (Nat.le_of_ble_eq_true rfl) dX1_worst_6 ⟨Nat.zero_le _, Nat.zero_le _⟩ ?_
  refine lv_if_eq (tgt := 20) hx hb dX1_worst_9 (by decide) (fun cz1 => ?_) (fun cz1 => ?_)
  · have cz1 := b2_0 cz1
    refine lv_iconst (v := (-1)) hx hb dX1_worst_20 (by decide) ?_
    exact rIw hx hb hr hlk hS hP dX1_worst_21 (by rw [if_neg cz1])
  · have cz1 := b2_1 cz1
    refine lv_aload_n hx hb dX1_worst_12 rfl (lv_at hl 0 rfl) ?_
    refine lv_iload_n hx hb dX1_worst_13 rfl (lv_at hl 1 rfl) ?_
    refine cV (As := [.int (k)]) hC hK hP rfl rfl (kX1_worstOf hP k hKn (sm_in cz1 (p12 hN)) (fun h hh => by rw [rbF_lt hh]; exact hbX_sm hN)) [] (cwV 1 hts gX1_worst_X1_worstOf rfl rfl rfl hdX1_worstOf ⟨Nat.le_of_ble_eq_true rfl, Nat.le_of_ble_eq_true rfl⟩) rfl hl.1 rfl (Nat.le_of_ble_eq_true rfl) dX1_worst_14 ⟨Nat.zero_le _, Nat.zero_le _⟩ ?_
    refine lv_goto (tgt := 21) hx hb dX1_worst_17 (by decide) ?_
    exact rIw hx hb hr hlk hS hP dX1_worst_21 (by rw [if_pos cz1])

theorem hdX1_squares : yX1_squares.cls = RX1 ∧ yX1_squares.cls ≠ "java/lang/invoke/MethodHandle" ∧ yX1_squares.cls ≠ "java/lang/invoke/VarHandle" ∧ (parseMethodDescriptor yX1_squares.desc).map (fun d => d.parameters.length) = some 1 := by decide +kernel
set_option maxHeartbeats 4000000 in
set_option maxRecDepth 100000 in
theorem kX1_squares {l : Launch} {D : va_G} {cy : ClassId} {H : Heap} {q : Nat → Nat} {ff fm fw : Int32} {ak : Int64} {ta gh kd fa fb sx sy mb co : Nat → Int32} {N K S : Nat} {pl : Nat → Int32} (hP : va_P D vwCl (wM cy q (nI N) (nI K) (nI S) ff fm fw ak ta gh kd fa fb sx sy mb co) H) (hD : va_D (aL q) (wM cy q (nI N) (nI K) (nI S) ff fm fw ak ta gh kd fa fb sx sy mb co)) (k : Int32) (hN : N ≤ 12) (hKn : K ≤ 10) (hpl : plOk ta pl N) (hw : hpOk kd fa fb N K) : Met l yX1_squares wsX1_squares { frames := 4, cells := 0, slots := 0, locals := 88 } (pcK D cy H [.ref (q 0), .int k]) (qI (some (.int (if 0 ≤ k ∧ k < nI (2 ^ N) then sqF (rbF (hbX pl kd fa fb N) mb K) k K else -1))) (va_P D vwCl (wM cy q (nI N) (nI K) (nI S) ff fm fw ak ta gh kd fa fb sx sy (rbF (hbX pl kd fa fb N) mb K) co)) (aL q)) 0 0 (aL q) := by
  refine mV 2 (by decide) rfl (Nat.le_of_ble_eq_true rfl) ?_
  intro p e s m below meth c hx hb hml hr hlk hts hown hnm hK hH ls hl
  have hC := (⟨hx, hb, hml, hown, hts⟩ : CallFix p m c cX1_squares 2 s _ wsX1_squares RX1)
  have hl : lv_has ls 2 [(0, .ref (q 0)), (1, .int (k))] := hl
  have hS : va_S (aL q) s.heap H [] := by rw [hH]; exact va_S.rf
  refine lv_aload_n hx hb dX1_squares_0 rfl (lv_at hl 0 rfl) ?_
  refine cVw (As := []) hC hK hP rfl rfl (kX1_collect hP hD  hN hKn hpl hw) [] (cwV 0 hts gX1_squares_X1_collect rfl rfl rfl hdX1_collect ⟨Nat.le_of_ble_eq_true rfl, Nat.le_of_ble_eq_true rfl⟩) rfl hl.1 rfl (Nat.le_of_ble_eq_true rfl) dX1_squares_1 ⟨Nat.zero_le _, Nat.zero_le _⟩ hS (fun _ h => h) (fun H locs hP hz hkp hS => ?_)
  have hD := vD_same (w2 := wM cy q (nI N) (nI K) (nI S) ff fm fw ak ta gh kd fa fb sx sy (rbF (hbX pl kd fa fb N) mb K) co) (by rfl) hD
  refine lv_aload_n hx hb dX1_squares_4 rfl (lv_at hl 0 rfl) ?_
  refine lv_iload_n hx hb dX1_squares_5 rfl (lv_at hl 1 rfl) ?_
  refine cV (As := [.int (k)]) hC hK hP rfl rfl (kX1_isColouring hP k (by omega)) [] (cwV 1 hts gX1_squares_X1_isColouring rfl rfl rfl hdX1_isColouring ⟨Nat.le_of_ble_eq_true rfl, Nat.le_of_ble_eq_true rfl⟩) rfl hl.1 rfl (Nat.le_of_ble_eq_true rfl) dX1_squares_6 ⟨Nat.zero_le _, Nat.zero_le _⟩ ?_
  refine lv_if_eq (tgt := 20) hx hb dX1_squares_9 (by decide) (fun cz1 => ?_) (fun cz1 => ?_)
  · have cz1 := b2_0 cz1
    refine lv_iconst (v := (-1)) hx hb dX1_squares_20 (by decide) ?_
    exact rIw hx hb hr hlk hS hP dX1_squares_21 (by rw [if_neg cz1])
  · have cz1 := b2_1 cz1
    refine lv_aload_n hx hb dX1_squares_12 rfl (lv_at hl 0 rfl) ?_
    refine lv_iload_n hx hb dX1_squares_13 rfl (lv_at hl 1 rfl) ?_
    refine cV (As := [.int (k)]) hC hK hP rfl rfl (kX1_squaresOf hP k hKn (sm_in cz1 (p12 hN)) (fun h hh => by rw [rbF_lt hh]; exact hbX_sm hN)) [] (cwV 1 hts gX1_squares_X1_squaresOf rfl rfl rfl hdX1_squaresOf ⟨Nat.le_of_ble_eq_true rfl, Nat.le_of_ble_eq_true rfl⟩) rfl hl.1 rfl (Nat.le_of_ble_eq_true rfl) dX1_squares_14 ⟨Nat.zero_le _, Nat.zero_le _⟩ ?_
    refine lv_goto (tgt := 21) hx hb dX1_squares_17 (by decide) ?_
    exact rIw hx hb hr hlk hS hP dX1_squares_21 (by rw [if_pos cz1])

theorem hdX1_goThrough : yX1_goThrough.cls = RX1 ∧ yX1_goThrough.cls ≠ "java/lang/invoke/MethodHandle" ∧ yX1_goThrough.cls ≠ "java/lang/invoke/VarHandle" ∧ (parseMethodDescriptor yX1_goThrough.desc).map (fun d => d.parameters.length) = some 0 := by decide +kernel
set_option maxHeartbeats 4000000 in
set_option maxRecDepth 100000 in
theorem kX1_goThrough {l : Launch} {D : va_G} {cy : ClassId} {H : Heap} {q : Nat → Nat} {ff fm fw : Int32} {ak : Int64} {ta gh kd fa fb sx sy mb co : Nat → Int32} {N K S : Nat} {pl : Nat → Int32} (hP : va_P D vwCl (wM cy q (nI N) (nI K) (nI S) ff fm fw ak ta gh kd fa fb sx sy mb co) H) (hD : va_D (aL q) (wM cy q (nI N) (nI K) (nI S) ff fm fw ak ta gh kd fa fb sx sy mb co))  (hN : N ≤ 12) (hKn : K ≤ 10) (hpl : plOk ta pl N) (hw : hpOk kd fa fb N K) : Met l yX1_goThrough wsX1_goThrough { frames := 4, cells := 0, slots := 0, locals := 88 } (pcK D cy H [.ref (q 0)]) (qI (some (.int ((gtM (rbF (hbX pl kd fa fb N) mb K) gh N K ff fm).1))) (va_P D vwCl (wM cy q (nI N) (nI K) (nI S) ((gtM (rbF (hbX pl kd fa fb N) mb K) gh N K ff fm).2.1) ((gtM (rbF (hbX pl kd fa fb N) mb K) gh N K ff fm).2.2.1) ((gtM (rbF (hbX pl kd fa fb N) mb K) gh N K ff fm).2.2.2) ak ta gh kd fa fb sx sy (rbF (hbX pl kd fa fb N) mb K) co)) (aL q)) 0 0 (aL q) := by
  refine mV 5 (by decide) rfl (Nat.le_of_ble_eq_true rfl) ?_
  intro p e s m below meth c hx hb hml hr hlk hts hown hnm hK hH ls hl
  have hC := (⟨hx, hb, hml, hown, hts⟩ : CallFix p m c cX1_goThrough 5 s _ wsX1_goThrough RX1)
  have hin : ∀ w ∈ wsX10, w ∈ wsX1_goThrough := by decide +kernel
  have L7 : Cond.fieldLink RX1 7 "TwoColoursModel" "n" "I" ∈ wsX1_goThrough := by decide +kernel
  have L102 : Cond.fieldLink RX1 102 "TwoColoursModel" "foundFewest" "I" ∈ wsX1_goThrough := by decide +kernel
  have L108 : Cond.fieldLink RX1 108 "TwoColoursModel" "foundFirst" "I" ∈ wsX1_goThrough := by decide +kernel
  have L111 : Cond.fieldLink RX1 111 "TwoColoursModel" "foundMany" "I" ∈ wsX1_goThrough := by decide +kernel
  have hl : lv_has ls 5 [(0, .ref (q 0))] := hl
  have hS : va_S (aL q) s.heap H [] := by rw [hH]; exact va_S.rf
  have h2N := p2_le hN
  have h2P := p2_pos N
  refine lv_aload_n hx hb dX1_goThrough_0 rfl (lv_at hl 0 rfl) ?_
  refine cVw (As := []) hC hK hP rfl rfl (kX1_collect hP hD  hN hKn hpl hw) [] (cwV 0 hts gX1_goThrough_X1_collect rfl rfl rfl hdX1_collect ⟨Nat.le_of_ble_eq_true rfl, Nat.le_of_ble_eq_true rfl⟩) rfl hl.1 rfl (Nat.le_of_ble_eq_true rfl) dX1_goThrough_1 ⟨Nat.zero_le _, Nat.zero_le _⟩ hS (fun _ h => h) (fun H locs hP hz hkp hS => ?_)
  have hD := vD_same (w2 := wM cy q (nI N) (nI K) (nI S) ff fm fw ak ta gh kd fa fb sx sy (rbF (hbX pl kd fa fb N) mb K) co) (by rfl) hD
  refine lv_sipush (v := 1000) hx hb dX1_goThrough_4 (by decide) ?_
  refine lv_istore_n (lv' := [(1, .int (1000)), (0, .ref (q 0))]) hx hb dX1_goThrough_7 rfl hl (by decide) rfl (fun ls hl => ?_)
  refine lv_aload_n hx hb dX1_goThrough_8 rfl (lv_at hl 1 rfl) ?_
  refine lv_ldc (v := 1000000) hx hb hown (hts (.constant RX1 101 (1000000)) (by decide +kernel)) dX1_goThrough_9 ?_
  refine pM_foundFewest hx hb hts hin hown hK hP hD hS L102 dX1_goThrough_11 (fun H locs hP hD hS => ?_)
  refine lv_iconst (v := 0) hx hb dX1_goThrough_14 (by decide) ?_
  refine lv_istore_n (lv' := [(2, .int (0)), (1, .int (1000)), (0, .ref (q 0))]) hx hb dX1_goThrough_15 rfl hl (by decide) rfl (fun ls hl => ?_)
  refine lpW (σ := Nat) 16 (fun i ls H locs => (i ≤ 2 ^ N) ∧ lv_has ls 5 [(0, .ref (q 0)), (1, .int ((gtF (fun n => woF (rbF (hbX pl kd fa fb N) mb K) (nI n) K) (fun n => sqF (rbF (hbX pl kd fa fb N) mb K) (nI n) K) (fun n => kpF gh (nI n) N) ff fm i).1)), (2, .int (nI i))] ∧ va_P D vwCl (wM cy q (nI N) (nI K) (nI S) (gtF (fun n => woF (rbF (hbX pl kd fa fb N) mb K) (nI n) K) (fun n => sqF (rbF (hbX pl kd fa fb N) mb K) (nI n) K) (fun n => kpF gh (nI n) N) ff fm i).2.1 (gtF (fun n => woF (rbF (hbX pl kd fa fb N) mb K) (nI n) K) (fun n => sqF (rbF (hbX pl kd fa fb N) mb K) (nI n) K) (fun n => kpF gh (nI n) N) ff fm i).2.2.1 (gtF (fun n => woF (rbF (hbX pl kd fa fb N) mb K) (nI n) K) (fun n => sqF (rbF (hbX pl kd fa fb N) mb K) (nI n) K) (fun n => kpF gh (nI n) N) ff fm i).2.2.2 ak ta gh kd fa fb sx sy (rbF (hbX pl kd fa fb N) mb K) co) H ∧ va_D (aL q) (wM cy q (nI N) (nI K) (nI S) (gtF (fun n => woF (rbF (hbX pl kd fa fb N) mb K) (nI n) K) (fun n => sqF (rbF (hbX pl kd fa fb N) mb K) (nI n) K) (fun n => kpF gh (nI n) N) ff fm i).2.1 (gtF (fun n => woF (rbF (hbX pl kd fa fb N) mb K) (nI n) K) (fun n => sqF (rbF (hbX pl kd fa fb N) mb K) (nI n) K) (fun n => kpF gh (nI n) N) ff fm i).2.2.1 (gtF (fun n => woF (rbF (hbX pl kd fa fb N) mb K) (nI n) K) (fun n => sqF (rbF (hbX pl kd fa fb N) mb K) (nI n) K) (fun n => kpF gh (nI n) N) ff fm i).2.2.2 ak ta gh kd fa fb sx sy (rbF (hbX pl kd fa fb N) mb K) co) ∧ va_S (aL q) s.heap H locs) (fun i => 2 ^ N - i) ?_ (0) ls ⟨Nat.zero_le _, lv_sub hl [2, 1, 0] rfl, hP, hD, hS⟩
  intro i ls H locs hI ih_16
  obtain ⟨hi, hl, hP, hD, hS⟩ := hI
  refine lv_iload_n hx hb dX1_goThrough_16 rfl (lv_at hl 2 rfl) ?_
  refine lv_iconst (v := 1) hx hb dX1_goThrough_17 (by decide) ?_
  refine lv_aload_n hx hb dX1_goThrough_18 rfl (lv_at hl 0 rfl) ?_
  refine gM_n hx hb hts hin hown hK hP L7 dX1_goThrough_19 ?_
  refine lv_ishl hx hb dX1_goThrough_22 ?_
  refine tpI (y := nI (2 ^ N)) (shl1 N (by omega)) ?_
  refine lv_icmp_ge (tgt := 134) hx hb dX1_goThrough_23 (by decide) (fun cz1 => ?_) (fun cz1 => ?_)
  · have cz1 : (2 ^ N) ≤ i := (nI_leI (a := (2 ^ N)) (b := i) (by omega) (by omega)).mp cz1
    have ei : 2 ^ N = i := by omega
    subst ei
    refine lv_iload_n hx hb dX1_goThrough_134 rfl (lv_at hl 1 rfl) ?_
    exact rIw hx hb hr hlk hS hP dX1_goThrough_135 rfl
  · have cz1 : ¬ (2 ^ N) ≤ i := fun h => cz1 ((nI_leI (a := (2 ^ N)) (b := i) (by omega) (by omega)).mpr h)
    refine lv_aload_n hx hb dX1_goThrough_26 rfl (lv_at hl 0 rfl) ?_
    refine lv_iload_n hx hb dX1_goThrough_27 rfl (lv_at hl 2 rfl) ?_
    refine cV (As := [.int (nI i)]) hC hK hP rfl rfl (kX1_keeps hP (nI i) hN) [] (cwV 1 hts gX1_goThrough_X1_keeps rfl rfl rfl hdX1_keeps ⟨Nat.le_of_ble_eq_true rfl, Nat.le_of_ble_eq_true rfl⟩) rfl hl.1 rfl (Nat.le_of_ble_eq_true rfl) dX1_goThrough_28 ⟨Nat.zero_le _, Nat.zero_le _⟩ ?_
    refine lv_if_eq (tgt := 128) hx hb dX1_goThrough_31 (by decide) (fun cz2 => ?_) (fun cz2 => ?_)
    · have cz2 := b2_0 cz2
      refine lv_iinc (v := nI (i + 1)) (lv' := [(2, .int (nI (i + 1))), (0, .ref (q 0)), (1, .int ((gtF (fun n => woF (rbF (hbX pl kd fa fb N) mb K) (nI n) K) (fun n => sqF (rbF (hbX pl kd fa fb N) mb K) (nI n) K) (fun n => kpF gh (nI n) N) ff fm i).1))]) hx hb dX1_goThrough_128 hl (k := 2) rfl (nI_1 _) (by decide) rfl (fun ls hl => ?_)
      refine lv_goto (tgt := 16) hx hb dX1_goThrough_131 (by decide) ?_
      exact ih_16 (i + 1) _ _ _ (by omega) ⟨by omega, by rw [gtF_n (w := (fun n => woF (rbF (hbX pl kd fa fb N) mb K) (nI n) K)) (sq := (fun n => sqF (rbF (hbX pl kd fa fb N) mb K) (nI n) K)) (ok := (fun n => kpF gh (nI n) N)) (k := i) cz2]; exact lv_sub hl [1, 2, 0] rfl, (by rw [gtF_n (w := (fun n => woF (rbF (hbX pl kd fa fb N) mb K) (nI n) K)) (sq := (fun n => sqF (rbF (hbX pl kd fa fb N) mb K) (nI n) K)) (ok := (fun n => kpF gh (nI n) N)) (k := i) cz2]; exact hP), vD_same (by rfl) hD, hS⟩
    · have cz2 := b2_1 cz2
      refine lv_aload_n hx hb dX1_goThrough_34 rfl (lv_at hl 0 rfl) ?_
      refine lv_iload_n hx hb dX1_goThrough_35 rfl (lv_at hl 2 rfl) ?_
      refine cV (As := [.int (nI i)]) hC hK hP rfl rfl (kX1_worstOf hP (nI i) hKn (sm_nI (by omega)) (fun h hh => by rw [rbF_lt hh]; exact hbX_sm hN)) [] (cwV 1 hts gX1_goThrough_X1_worstOf rfl rfl rfl hdX1_worstOf ⟨Nat.le_of_ble_eq_true rfl, Nat.le_of_ble_eq_true rfl⟩) rfl hl.1 rfl (Nat.le_of_ble_eq_true rfl) dX1_goThrough_36 ⟨Nat.zero_le _, Nat.zero_le _⟩ ?_
      refine lv_istore_n (lv' := [(3, .int (woF (rbF (hbX pl kd fa fb N) mb K) (nI i) K)), (0, .ref (q 0)), (1, .int ((gtF (fun n => woF (rbF (hbX pl kd fa fb N) mb K) (nI n) K) (fun n => sqF (rbF (hbX pl kd fa fb N) mb K) (nI n) K) (fun n => kpF gh (nI n) N) ff fm i).1)), (2, .int (nI i))]) hx hb dX1_goThrough_39 rfl hl (by decide) rfl (fun ls hl => ?_)
      refine lv_aload_n hx hb dX1_goThrough_40 rfl (lv_at hl 1 rfl) ?_
      refine lv_iload_n hx hb dX1_goThrough_41 rfl (lv_at hl 3 rfl) ?_
      refine cV (As := [.int (nI i)]) hC hK hP rfl rfl (kX1_squaresOf hP (nI i) hKn (sm_nI (by omega)) (fun h hh => by rw [rbF_lt hh]; exact hbX_sm hN)) [] (cwV 1 hts gX1_goThrough_X1_squaresOf rfl rfl rfl hdX1_squaresOf ⟨Nat.le_of_ble_eq_true rfl, Nat.le_of_ble_eq_true rfl⟩) rfl hl.1 rfl (Nat.le_of_ble_eq_true rfl) dX1_goThrough_42 ⟨Nat.zero_le _, Nat.zero_le _⟩ ?_
      refine lv_istore (lv' := [(4, .int (sqF (rbF (hbX pl kd fa fb N) mb K) (nI i) K)), (3, .int (woF (rbF (hbX pl kd fa fb N) mb K) (nI i) K)), (0, .ref (q 0)), (1, .int ((gtF (fun n => woF (rbF (hbX pl kd fa fb N) mb K) (nI n) K) (fun n => sqF (rbF (hbX pl kd fa fb N) mb K) (nI n) K) (fun n => kpF gh (nI n) N) ff fm i).1)), (2, .int (nI i))]) hx hb dX1_goThrough_45 hl (by decide) rfl (fun ls hl => ?_)
      refine lv_aload_n hx hb dX1_goThrough_47 rfl (lv_at hl 2 rfl) ?_
      refine lv_iload_n hx hb dX1_goThrough_48 rfl (lv_at hl 1 rfl) ?_
      refine lv_iload_n hx hb dX1_goThrough_49 rfl (lv_at hl 3 rfl) ?_
      refine lv_icmp_ge (tgt := 57) hx hb dX1_goThrough_50 (by decide) (fun cz3 => ?_) (fun cz3 => ?_)
      · refine lv_aload_n hx hb dX1_goThrough_57 rfl (lv_at hl 2 rfl) ?_
        refine gM_foundFirst hx hb hts hin hown hK hP L108 dX1_goThrough_58 ?_
        refine tpI (y := if woF (rbF (hbX pl kd fa fb N) mb K) (nI i) K < (gtF (fun n => woF (rbF (hbX pl kd fa fb N) mb K) (nI n) K) (fun n => sqF (rbF (hbX pl kd fa fb N) mb K) (nI n) K) (fun n => kpF gh (nI n) N) ff fm i).1 then nI i else (gtF (fun n => woF (rbF (hbX pl kd fa fb N) mb K) (nI n) K) (fun n => sqF (rbF (hbX pl kd fa fb N) mb K) (nI n) K) (fun n => kpF gh (nI n) N) ff fm i).2.1) (by rw [if_neg (Int32.not_lt.mpr cz3)]) ?_
        refine pM_foundFirst hx hb hts hin hown hK hP hD hS L108 dX1_goThrough_61 (fun H locs hP hD hS => ?_)
        refine lv_aload_n hx hb dX1_goThrough_64 rfl (lv_at hl 2 rfl) ?_
        refine lv_iload_n hx hb dX1_goThrough_65 rfl (lv_at hl 1 rfl) ?_
        refine lv_iload_n hx hb dX1_goThrough_66 rfl (lv_at hl 3 rfl) ?_
        refine lv_icmp_ge (tgt := 74) hx hb dX1_goThrough_67 (by decide) (fun _ => ?_) (fun h => absurd cz3 h)
        refine lv_iload_n hx hb dX1_goThrough_74 rfl (lv_at hl 1 rfl) ?_
        refine lv_iload_n hx hb dX1_goThrough_75 rfl (lv_at hl 3 rfl) ?_
        refine lv_icmp_ne (tgt := 88) hx hb dX1_goThrough_76 (by decide) (fun cz5 => ?_) (fun cz5 => ?_)
        · refine lv_aload_n hx hb dX1_goThrough_88 rfl (lv_at hl 2 rfl) ?_
          refine gM_foundMany hx hb hts hin hown hK hP L111 dX1_goThrough_89 ?_
          refine tpI (y := if woF (rbF (hbX pl kd fa fb N) mb K) (nI i) K < (gtF (fun n => woF (rbF (hbX pl kd fa fb N) mb K) (nI n) K) (fun n => sqF (rbF (hbX pl kd fa fb N) mb K) (nI n) K) (fun n => kpF gh (nI n) N) ff fm i).1 then 1 else if woF (rbF (hbX pl kd fa fb N) mb K) (nI i) K = (gtF (fun n => woF (rbF (hbX pl kd fa fb N) mb K) (nI n) K) (fun n => sqF (rbF (hbX pl kd fa fb N) mb K) (nI n) K) (fun n => kpF gh (nI n) N) ff fm i).1 then (gtF (fun n => woF (rbF (hbX pl kd fa fb N) mb K) (nI n) K) (fun n => sqF (rbF (hbX pl kd fa fb N) mb K) (nI n) K) (fun n => kpF gh (nI n) N) ff fm i).2.2.1 + 1 else (gtF (fun n => woF (rbF (hbX pl kd fa fb N) mb K) (nI n) K) (fun n => sqF (rbF (hbX pl kd fa fb N) mb K) (nI n) K) (fun n => kpF gh (nI n) N) ff fm i).2.2.1) (by rw [if_neg (Int32.not_lt.mpr cz3), if_neg cz5]) ?_
          refine pM_foundMany hx hb hts hin hown hK hP hD hS L111 dX1_goThrough_92 (fun H locs hP hD hS => ?_)
          refine lv_iload_n hx hb dX1_goThrough_95 rfl (lv_at hl 1 rfl) ?_
          refine lv_iload_n hx hb dX1_goThrough_96 rfl (lv_at hl 3 rfl) ?_
          refine lv_icmp_ge (tgt := 104) hx hb dX1_goThrough_97 (by decide) (fun _ => ?_) (fun h => absurd cz3 h)
          refine lv_iload_n hx hb dX1_goThrough_104 rfl (lv_at hl 3 rfl) ?_
          refine tpI (y := if woF (rbF (hbX pl kd fa fb N) mb K) (nI i) K < (gtF (fun n => woF (rbF (hbX pl kd fa fb N) mb K) (nI n) K) (fun n => sqF (rbF (hbX pl kd fa fb N) mb K) (nI n) K) (fun n => kpF gh (nI n) N) ff fm i).1 then woF (rbF (hbX pl kd fa fb N) mb K) (nI i) K else (gtF (fun n => woF (rbF (hbX pl kd fa fb N) mb K) (nI n) K) (fun n => sqF (rbF (hbX pl kd fa fb N) mb K) (nI n) K) (fun n => kpF gh (nI n) N) ff fm i).1) (by rw [if_neg (Int32.not_lt.mpr cz3)]) ?_
          refine lv_istore_n (lv' := [(1, .int (if woF (rbF (hbX pl kd fa fb N) mb K) (nI i) K < (gtF (fun n => woF (rbF (hbX pl kd fa fb N) mb K) (nI n) K) (fun n => sqF (rbF (hbX pl kd fa fb N) mb K) (nI n) K) (fun n => kpF gh (nI n) N) ff fm i).1 then woF (rbF (hbX pl kd fa fb N) mb K) (nI i) K else (gtF (fun n => woF (rbF (hbX pl kd fa fb N) mb K) (nI n) K) (fun n => sqF (rbF (hbX pl kd fa fb N) mb K) (nI n) K) (fun n => kpF gh (nI n) N) ff fm i).1)), (4, .int (sqF (rbF (hbX pl kd fa fb N) mb K) (nI i) K)), (3, .int (woF (rbF (hbX pl kd fa fb N) mb K) (nI i) K)), (0, .ref (q 0)), (2, .int (nI i))]) hx hb dX1_goThrough_105 rfl hl (by decide) rfl (fun ls hl => ?_)
          refine lv_aload_n hx hb dX1_goThrough_106 rfl (lv_at hl 3 rfl) ?_
          refine lv_iload hx hb dX1_goThrough_107 (lv_at hl 1 rfl) ?_
          refine lv_aload_n hx hb dX1_goThrough_109 rfl (lv_at hl 3 rfl) ?_
          refine gM_foundFewest hx hb hts hin hown hK hP L102 dX1_goThrough_110 ?_
          refine lv_icmp_ge (tgt := 121) hx hb dX1_goThrough_113 (by decide) (fun cz7 => ?_) (fun cz7 => ?_)
          · refine lv_aload_n hx hb dX1_goThrough_121 rfl (lv_at hl 3 rfl) ?_
            refine gM_foundFewest hx hb hts hin hown hK hP L102 dX1_goThrough_122 ?_
            refine tpI (y := if sqF (rbF (hbX pl kd fa fb N) mb K) (nI i) K < (gtF (fun n => woF (rbF (hbX pl kd fa fb N) mb K) (nI n) K) (fun n => sqF (rbF (hbX pl kd fa fb N) mb K) (nI n) K) (fun n => kpF gh (nI n) N) ff fm i).2.2.2 then sqF (rbF (hbX pl kd fa fb N) mb K) (nI i) K else (gtF (fun n => woF (rbF (hbX pl kd fa fb N) mb K) (nI n) K) (fun n => sqF (rbF (hbX pl kd fa fb N) mb K) (nI n) K) (fun n => kpF gh (nI n) N) ff fm i).2.2.2) (by rw [if_neg (Int32.not_lt.mpr cz7)]) ?_
            refine pM_foundFewest hx hb hts hin hown hK hP hD hS L102 dX1_goThrough_125 (fun H locs hP hD hS => ?_)
            refine lv_iinc (v := nI (i + 1)) (lv' := [(2, .int (nI (i + 1))), (1, .int (if woF (rbF (hbX pl kd fa fb N) mb K) (nI i) K < (gtF (fun n => woF (rbF (hbX pl kd fa fb N) mb K) (nI n) K) (fun n => sqF (rbF (hbX pl kd fa fb N) mb K) (nI n) K) (fun n => kpF gh (nI n) N) ff fm i).1 then woF (rbF (hbX pl kd fa fb N) mb K) (nI i) K else (gtF (fun n => woF (rbF (hbX pl kd fa fb N) mb K) (nI n) K) (fun n => sqF (rbF (hbX pl kd fa fb N) mb K) (nI n) K) (fun n => kpF gh (nI n) N) ff fm i).1)), (4, .int (sqF (rbF (hbX pl kd fa fb N) mb K) (nI i) K)), (3, .int (woF (rbF (hbX pl kd fa fb N) mb K) (nI i) K)), (0, .ref (q 0))]) hx hb dX1_goThrough_128 hl (k := 4) rfl (nI_1 _) (by decide) rfl (fun ls hl => ?_)
            refine lv_goto (tgt := 16) hx hb dX1_goThrough_131 (by decide) ?_
            exact ih_16 (i + 1) _ _ _ (by omega) ⟨by omega, by rw [gtF_t (w := (fun n => woF (rbF (hbX pl kd fa fb N) mb K) (nI n) K)) (sq := (fun n => sqF (rbF (hbX pl kd fa fb N) mb K) (nI n) K)) (ok := (fun n => kpF gh (nI n) N)) (k := i) cz2]; exact lv_sub hl [4, 1, 0] rfl, (by rw [gtF_t (w := (fun n => woF (rbF (hbX pl kd fa fb N) mb K) (nI n) K)) (sq := (fun n => sqF (rbF (hbX pl kd fa fb N) mb K) (nI n) K)) (ok := (fun n => kpF gh (nI n) N)) (k := i) cz2]; exact hP), vD_same (by rfl) hD, hS⟩
          · refine lv_iload hx hb dX1_goThrough_116 (lv_at hl 1 rfl) ?_
            refine lv_goto (tgt := 125) hx hb dX1_goThrough_118 (by decide) ?_
            refine tpI (y := if sqF (rbF (hbX pl kd fa fb N) mb K) (nI i) K < (gtF (fun n => woF (rbF (hbX pl kd fa fb N) mb K) (nI n) K) (fun n => sqF (rbF (hbX pl kd fa fb N) mb K) (nI n) K) (fun n => kpF gh (nI n) N) ff fm i).2.2.2 then sqF (rbF (hbX pl kd fa fb N) mb K) (nI i) K else (gtF (fun n => woF (rbF (hbX pl kd fa fb N) mb K) (nI n) K) (fun n => sqF (rbF (hbX pl kd fa fb N) mb K) (nI n) K) (fun n => kpF gh (nI n) N) ff fm i).2.2.2) (by rw [if_pos (Int32.not_le.mp cz7)]) ?_
            refine pM_foundFewest hx hb hts hin hown hK hP hD hS L102 dX1_goThrough_125 (fun H locs hP hD hS => ?_)
            refine lv_iinc (v := nI (i + 1)) (lv' := [(2, .int (nI (i + 1))), (1, .int (if woF (rbF (hbX pl kd fa fb N) mb K) (nI i) K < (gtF (fun n => woF (rbF (hbX pl kd fa fb N) mb K) (nI n) K) (fun n => sqF (rbF (hbX pl kd fa fb N) mb K) (nI n) K) (fun n => kpF gh (nI n) N) ff fm i).1 then woF (rbF (hbX pl kd fa fb N) mb K) (nI i) K else (gtF (fun n => woF (rbF (hbX pl kd fa fb N) mb K) (nI n) K) (fun n => sqF (rbF (hbX pl kd fa fb N) mb K) (nI n) K) (fun n => kpF gh (nI n) N) ff fm i).1)), (4, .int (sqF (rbF (hbX pl kd fa fb N) mb K) (nI i) K)), (3, .int (woF (rbF (hbX pl kd fa fb N) mb K) (nI i) K)), (0, .ref (q 0))]) hx hb dX1_goThrough_128 hl (k := 4) rfl (nI_1 _) (by decide) rfl (fun ls hl => ?_)
            refine lv_goto (tgt := 16) hx hb dX1_goThrough_131 (by decide) ?_
            exact ih_16 (i + 1) _ _ _ (by omega) ⟨by omega, by rw [gtF_t (w := (fun n => woF (rbF (hbX pl kd fa fb N) mb K) (nI n) K)) (sq := (fun n => sqF (rbF (hbX pl kd fa fb N) mb K) (nI n) K)) (ok := (fun n => kpF gh (nI n) N)) (k := i) cz2]; exact lv_sub hl [4, 1, 0] rfl, (by rw [gtF_t (w := (fun n => woF (rbF (hbX pl kd fa fb N) mb K) (nI n) K)) (sq := (fun n => sqF (rbF (hbX pl kd fa fb N) mb K) (nI n) K)) (ok := (fun n => kpF gh (nI n) N)) (k := i) cz2]; exact hP), vD_same (by rfl) hD, hS⟩
        · refine lv_aload_n hx hb dX1_goThrough_79 rfl (lv_at hl 2 rfl) ?_
          refine gM_foundMany hx hb hts hin hown hK hP L111 dX1_goThrough_80 ?_
          refine lv_iconst (v := 1) hx hb dX1_goThrough_83 (by decide) ?_
          refine lv_iadd hx hb dX1_goThrough_84 ?_
          refine lv_goto (tgt := 92) hx hb dX1_goThrough_85 (by decide) ?_
          refine tpI (y := if woF (rbF (hbX pl kd fa fb N) mb K) (nI i) K < (gtF (fun n => woF (rbF (hbX pl kd fa fb N) mb K) (nI n) K) (fun n => sqF (rbF (hbX pl kd fa fb N) mb K) (nI n) K) (fun n => kpF gh (nI n) N) ff fm i).1 then 1 else if woF (rbF (hbX pl kd fa fb N) mb K) (nI i) K = (gtF (fun n => woF (rbF (hbX pl kd fa fb N) mb K) (nI n) K) (fun n => sqF (rbF (hbX pl kd fa fb N) mb K) (nI n) K) (fun n => kpF gh (nI n) N) ff fm i).1 then (gtF (fun n => woF (rbF (hbX pl kd fa fb N) mb K) (nI n) K) (fun n => sqF (rbF (hbX pl kd fa fb N) mb K) (nI n) K) (fun n => kpF gh (nI n) N) ff fm i).2.2.1 + 1 else (gtF (fun n => woF (rbF (hbX pl kd fa fb N) mb K) (nI n) K) (fun n => sqF (rbF (hbX pl kd fa fb N) mb K) (nI n) K) (fun n => kpF gh (nI n) N) ff fm i).2.2.1) (by rw [if_neg (Int32.not_lt.mpr cz3), if_pos cz5]) ?_
          refine pM_foundMany hx hb hts hin hown hK hP hD hS L111 dX1_goThrough_92 (fun H locs hP hD hS => ?_)
          refine lv_iload_n hx hb dX1_goThrough_95 rfl (lv_at hl 1 rfl) ?_
          refine lv_iload_n hx hb dX1_goThrough_96 rfl (lv_at hl 3 rfl) ?_
          refine lv_icmp_ge (tgt := 104) hx hb dX1_goThrough_97 (by decide) (fun _ => ?_) (fun h => absurd cz3 h)
          refine lv_iload_n hx hb dX1_goThrough_104 rfl (lv_at hl 3 rfl) ?_
          refine tpI (y := if woF (rbF (hbX pl kd fa fb N) mb K) (nI i) K < (gtF (fun n => woF (rbF (hbX pl kd fa fb N) mb K) (nI n) K) (fun n => sqF (rbF (hbX pl kd fa fb N) mb K) (nI n) K) (fun n => kpF gh (nI n) N) ff fm i).1 then woF (rbF (hbX pl kd fa fb N) mb K) (nI i) K else (gtF (fun n => woF (rbF (hbX pl kd fa fb N) mb K) (nI n) K) (fun n => sqF (rbF (hbX pl kd fa fb N) mb K) (nI n) K) (fun n => kpF gh (nI n) N) ff fm i).1) (by rw [if_neg (Int32.not_lt.mpr cz3)]) ?_
          refine lv_istore_n (lv' := [(1, .int (if woF (rbF (hbX pl kd fa fb N) mb K) (nI i) K < (gtF (fun n => woF (rbF (hbX pl kd fa fb N) mb K) (nI n) K) (fun n => sqF (rbF (hbX pl kd fa fb N) mb K) (nI n) K) (fun n => kpF gh (nI n) N) ff fm i).1 then woF (rbF (hbX pl kd fa fb N) mb K) (nI i) K else (gtF (fun n => woF (rbF (hbX pl kd fa fb N) mb K) (nI n) K) (fun n => sqF (rbF (hbX pl kd fa fb N) mb K) (nI n) K) (fun n => kpF gh (nI n) N) ff fm i).1)), (4, .int (sqF (rbF (hbX pl kd fa fb N) mb K) (nI i) K)), (3, .int (woF (rbF (hbX pl kd fa fb N) mb K) (nI i) K)), (0, .ref (q 0)), (2, .int (nI i))]) hx hb dX1_goThrough_105 rfl hl (by decide) rfl (fun ls hl => ?_)
          refine lv_aload_n hx hb dX1_goThrough_106 rfl (lv_at hl 3 rfl) ?_
          refine lv_iload hx hb dX1_goThrough_107 (lv_at hl 1 rfl) ?_
          refine lv_aload_n hx hb dX1_goThrough_109 rfl (lv_at hl 3 rfl) ?_
          refine gM_foundFewest hx hb hts hin hown hK hP L102 dX1_goThrough_110 ?_
          refine lv_icmp_ge (tgt := 121) hx hb dX1_goThrough_113 (by decide) (fun cz9 => ?_) (fun cz9 => ?_)
          · refine lv_aload_n hx hb dX1_goThrough_121 rfl (lv_at hl 3 rfl) ?_
            refine gM_foundFewest hx hb hts hin hown hK hP L102 dX1_goThrough_122 ?_
            refine tpI (y := if sqF (rbF (hbX pl kd fa fb N) mb K) (nI i) K < (gtF (fun n => woF (rbF (hbX pl kd fa fb N) mb K) (nI n) K) (fun n => sqF (rbF (hbX pl kd fa fb N) mb K) (nI n) K) (fun n => kpF gh (nI n) N) ff fm i).2.2.2 then sqF (rbF (hbX pl kd fa fb N) mb K) (nI i) K else (gtF (fun n => woF (rbF (hbX pl kd fa fb N) mb K) (nI n) K) (fun n => sqF (rbF (hbX pl kd fa fb N) mb K) (nI n) K) (fun n => kpF gh (nI n) N) ff fm i).2.2.2) (by rw [if_neg (Int32.not_lt.mpr cz9)]) ?_
            refine pM_foundFewest hx hb hts hin hown hK hP hD hS L102 dX1_goThrough_125 (fun H locs hP hD hS => ?_)
            refine lv_iinc (v := nI (i + 1)) (lv' := [(2, .int (nI (i + 1))), (1, .int (if woF (rbF (hbX pl kd fa fb N) mb K) (nI i) K < (gtF (fun n => woF (rbF (hbX pl kd fa fb N) mb K) (nI n) K) (fun n => sqF (rbF (hbX pl kd fa fb N) mb K) (nI n) K) (fun n => kpF gh (nI n) N) ff fm i).1 then woF (rbF (hbX pl kd fa fb N) mb K) (nI i) K else (gtF (fun n => woF (rbF (hbX pl kd fa fb N) mb K) (nI n) K) (fun n => sqF (rbF (hbX pl kd fa fb N) mb K) (nI n) K) (fun n => kpF gh (nI n) N) ff fm i).1)), (4, .int (sqF (rbF (hbX pl kd fa fb N) mb K) (nI i) K)), (3, .int (woF (rbF (hbX pl kd fa fb N) mb K) (nI i) K)), (0, .ref (q 0))]) hx hb dX1_goThrough_128 hl (k := 4) rfl (nI_1 _) (by decide) rfl (fun ls hl => ?_)
            refine lv_goto (tgt := 16) hx hb dX1_goThrough_131 (by decide) ?_
            exact ih_16 (i + 1) _ _ _ (by omega) ⟨by omega, by rw [gtF_t (w := (fun n => woF (rbF (hbX pl kd fa fb N) mb K) (nI n) K)) (sq := (fun n => sqF (rbF (hbX pl kd fa fb N) mb K) (nI n) K)) (ok := (fun n => kpF gh (nI n) N)) (k := i) cz2]; exact lv_sub hl [4, 1, 0] rfl, (by rw [gtF_t (w := (fun n => woF (rbF (hbX pl kd fa fb N) mb K) (nI n) K)) (sq := (fun n => sqF (rbF (hbX pl kd fa fb N) mb K) (nI n) K)) (ok := (fun n => kpF gh (nI n) N)) (k := i) cz2]; exact hP), vD_same (by rfl) hD, hS⟩
          · refine lv_iload hx hb dX1_goThrough_116 (lv_at hl 1 rfl) ?_
            refine lv_goto (tgt := 125) hx hb dX1_goThrough_118 (by decide) ?_
            refine tpI (y := if sqF (rbF (hbX pl kd fa fb N) mb K) (nI i) K < (gtF (fun n => woF (rbF (hbX pl kd fa fb N) mb K) (nI n) K) (fun n => sqF (rbF (hbX pl kd fa fb N) mb K) (nI n) K) (fun n => kpF gh (nI n) N) ff fm i).2.2.2 then sqF (rbF (hbX pl kd fa fb N) mb K) (nI i) K else (gtF (fun n => woF (rbF (hbX pl kd fa fb N) mb K) (nI n) K) (fun n => sqF (rbF (hbX pl kd fa fb N) mb K) (nI n) K) (fun n => kpF gh (nI n) N) ff fm i).2.2.2) (by rw [if_pos (Int32.not_le.mp cz9)]) ?_
            refine pM_foundFewest hx hb hts hin hown hK hP hD hS L102 dX1_goThrough_125 (fun H locs hP hD hS => ?_)
            refine lv_iinc (v := nI (i + 1)) (lv' := [(2, .int (nI (i + 1))), (1, .int (if woF (rbF (hbX pl kd fa fb N) mb K) (nI i) K < (gtF (fun n => woF (rbF (hbX pl kd fa fb N) mb K) (nI n) K) (fun n => sqF (rbF (hbX pl kd fa fb N) mb K) (nI n) K) (fun n => kpF gh (nI n) N) ff fm i).1 then woF (rbF (hbX pl kd fa fb N) mb K) (nI i) K else (gtF (fun n => woF (rbF (hbX pl kd fa fb N) mb K) (nI n) K) (fun n => sqF (rbF (hbX pl kd fa fb N) mb K) (nI n) K) (fun n => kpF gh (nI n) N) ff fm i).1)), (4, .int (sqF (rbF (hbX pl kd fa fb N) mb K) (nI i) K)), (3, .int (woF (rbF (hbX pl kd fa fb N) mb K) (nI i) K)), (0, .ref (q 0))]) hx hb dX1_goThrough_128 hl (k := 4) rfl (nI_1 _) (by decide) rfl (fun ls hl => ?_)
            refine lv_goto (tgt := 16) hx hb dX1_goThrough_131 (by decide) ?_
            exact ih_16 (i + 1) _ _ _ (by omega) ⟨by omega, by rw [gtF_t (w := (fun n => woF (rbF (hbX pl kd fa fb N) mb K) (nI n) K)) (sq := (fun n => sqF (rbF (hbX pl kd fa fb N) mb K) (nI n) K)) (ok := (fun n => kpF gh (nI n) N)) (k := i) cz2]; exact lv_sub hl [4, 1, 0] rfl, (by rw [gtF_t (w := (fun n => woF (rbF (hbX pl kd fa fb N) mb K) (nI n) K)) (sq := (fun n => sqF (rbF (hbX pl kd fa fb N) mb K) (nI n) K)) (ok := (fun n => kpF gh (nI n) N)) (k := i) cz2]; exact hP), vD_same (by rfl) hD, hS⟩
      · refine lv_iload_n hx hb dX1_goThrough_53 rfl (lv_at hl 4 rfl) ?_
        refine lv_goto (tgt := 61) hx hb dX1_goThrough_54 (by decide) ?_
        refine tpI (y := if woF (rbF (hbX pl kd fa fb N) mb K) (nI i) K < (gtF (fun n => woF (rbF (hbX pl kd fa fb N) mb K) (nI n) K) (fun n => sqF (rbF (hbX pl kd fa fb N) mb K) (nI n) K) (fun n => kpF gh (nI n) N) ff fm i).1 then nI i else (gtF (fun n => woF (rbF (hbX pl kd fa fb N) mb K) (nI n) K) (fun n => sqF (rbF (hbX pl kd fa fb N) mb K) (nI n) K) (fun n => kpF gh (nI n) N) ff fm i).2.1) (by rw [if_pos (Int32.not_le.mp cz3)]) ?_
        refine pM_foundFirst hx hb hts hin hown hK hP hD hS L108 dX1_goThrough_61 (fun H locs hP hD hS => ?_)
        refine lv_aload_n hx hb dX1_goThrough_64 rfl (lv_at hl 2 rfl) ?_
        refine lv_iload_n hx hb dX1_goThrough_65 rfl (lv_at hl 1 rfl) ?_
        refine lv_iload_n hx hb dX1_goThrough_66 rfl (lv_at hl 3 rfl) ?_
        refine lv_icmp_ge (tgt := 74) hx hb dX1_goThrough_67 (by decide) (fun h => absurd h cz3) (fun _ => ?_)
        refine lv_iconst (v := 1) hx hb dX1_goThrough_70 (by decide) ?_
        refine lv_goto (tgt := 92) hx hb dX1_goThrough_71 (by decide) ?_
        refine tpI (y := if woF (rbF (hbX pl kd fa fb N) mb K) (nI i) K < (gtF (fun n => woF (rbF (hbX pl kd fa fb N) mb K) (nI n) K) (fun n => sqF (rbF (hbX pl kd fa fb N) mb K) (nI n) K) (fun n => kpF gh (nI n) N) ff fm i).1 then 1 else if woF (rbF (hbX pl kd fa fb N) mb K) (nI i) K = (gtF (fun n => woF (rbF (hbX pl kd fa fb N) mb K) (nI n) K) (fun n => sqF (rbF (hbX pl kd fa fb N) mb K) (nI n) K) (fun n => kpF gh (nI n) N) ff fm i).1 then (gtF (fun n => woF (rbF (hbX pl kd fa fb N) mb K) (nI n) K) (fun n => sqF (rbF (hbX pl kd fa fb N) mb K) (nI n) K) (fun n => kpF gh (nI n) N) ff fm i).2.2.1 + 1 else (gtF (fun n => woF (rbF (hbX pl kd fa fb N) mb K) (nI n) K) (fun n => sqF (rbF (hbX pl kd fa fb N) mb K) (nI n) K) (fun n => kpF gh (nI n) N) ff fm i).2.2.1) (by rw [if_pos (Int32.not_le.mp cz3)]) ?_
        refine pM_foundMany hx hb hts hin hown hK hP hD hS L111 dX1_goThrough_92 (fun H locs hP hD hS => ?_)
        refine lv_iload_n hx hb dX1_goThrough_95 rfl (lv_at hl 1 rfl) ?_
        refine lv_iload_n hx hb dX1_goThrough_96 rfl (lv_at hl 3 rfl) ?_
        refine lv_icmp_ge (tgt := 104) hx hb dX1_goThrough_97 (by decide) (fun h => absurd h cz3) (fun _ => ?_)
        refine lv_iload_n hx hb dX1_goThrough_100 rfl (lv_at hl 1 rfl) ?_
        refine lv_goto (tgt := 105) hx hb dX1_goThrough_101 (by decide) ?_
        refine tpI (y := if woF (rbF (hbX pl kd fa fb N) mb K) (nI i) K < (gtF (fun n => woF (rbF (hbX pl kd fa fb N) mb K) (nI n) K) (fun n => sqF (rbF (hbX pl kd fa fb N) mb K) (nI n) K) (fun n => kpF gh (nI n) N) ff fm i).1 then woF (rbF (hbX pl kd fa fb N) mb K) (nI i) K else (gtF (fun n => woF (rbF (hbX pl kd fa fb N) mb K) (nI n) K) (fun n => sqF (rbF (hbX pl kd fa fb N) mb K) (nI n) K) (fun n => kpF gh (nI n) N) ff fm i).1) (by rw [if_pos (Int32.not_le.mp cz3)]) ?_
        refine lv_istore_n (lv' := [(1, .int (if woF (rbF (hbX pl kd fa fb N) mb K) (nI i) K < (gtF (fun n => woF (rbF (hbX pl kd fa fb N) mb K) (nI n) K) (fun n => sqF (rbF (hbX pl kd fa fb N) mb K) (nI n) K) (fun n => kpF gh (nI n) N) ff fm i).1 then woF (rbF (hbX pl kd fa fb N) mb K) (nI i) K else (gtF (fun n => woF (rbF (hbX pl kd fa fb N) mb K) (nI n) K) (fun n => sqF (rbF (hbX pl kd fa fb N) mb K) (nI n) K) (fun n => kpF gh (nI n) N) ff fm i).1)), (4, .int (sqF (rbF (hbX pl kd fa fb N) mb K) (nI i) K)), (3, .int (woF (rbF (hbX pl kd fa fb N) mb K) (nI i) K)), (0, .ref (q 0)), (2, .int (nI i))]) hx hb dX1_goThrough_105 rfl hl (by decide) rfl (fun ls hl => ?_)
        refine lv_aload_n hx hb dX1_goThrough_106 rfl (lv_at hl 3 rfl) ?_
        refine lv_iload hx hb dX1_goThrough_107 (lv_at hl 1 rfl) ?_
        refine lv_aload_n hx hb dX1_goThrough_109 rfl (lv_at hl 3 rfl) ?_
        refine gM_foundFewest hx hb hts hin hown hK hP L102 dX1_goThrough_110 ?_
        refine lv_icmp_ge (tgt := 121) hx hb dX1_goThrough_113 (by decide) (fun cz12 => ?_) (fun cz12 => ?_)
        · refine lv_aload_n hx hb dX1_goThrough_121 rfl (lv_at hl 3 rfl) ?_
          refine gM_foundFewest hx hb hts hin hown hK hP L102 dX1_goThrough_122 ?_
          refine tpI (y := if sqF (rbF (hbX pl kd fa fb N) mb K) (nI i) K < (gtF (fun n => woF (rbF (hbX pl kd fa fb N) mb K) (nI n) K) (fun n => sqF (rbF (hbX pl kd fa fb N) mb K) (nI n) K) (fun n => kpF gh (nI n) N) ff fm i).2.2.2 then sqF (rbF (hbX pl kd fa fb N) mb K) (nI i) K else (gtF (fun n => woF (rbF (hbX pl kd fa fb N) mb K) (nI n) K) (fun n => sqF (rbF (hbX pl kd fa fb N) mb K) (nI n) K) (fun n => kpF gh (nI n) N) ff fm i).2.2.2) (by rw [if_neg (Int32.not_lt.mpr cz12)]) ?_
          refine pM_foundFewest hx hb hts hin hown hK hP hD hS L102 dX1_goThrough_125 (fun H locs hP hD hS => ?_)
          refine lv_iinc (v := nI (i + 1)) (lv' := [(2, .int (nI (i + 1))), (1, .int (if woF (rbF (hbX pl kd fa fb N) mb K) (nI i) K < (gtF (fun n => woF (rbF (hbX pl kd fa fb N) mb K) (nI n) K) (fun n => sqF (rbF (hbX pl kd fa fb N) mb K) (nI n) K) (fun n => kpF gh (nI n) N) ff fm i).1 then woF (rbF (hbX pl kd fa fb N) mb K) (nI i) K else (gtF (fun n => woF (rbF (hbX pl kd fa fb N) mb K) (nI n) K) (fun n => sqF (rbF (hbX pl kd fa fb N) mb K) (nI n) K) (fun n => kpF gh (nI n) N) ff fm i).1)), (4, .int (sqF (rbF (hbX pl kd fa fb N) mb K) (nI i) K)), (3, .int (woF (rbF (hbX pl kd fa fb N) mb K) (nI i) K)), (0, .ref (q 0))]) hx hb dX1_goThrough_128 hl (k := 4) rfl (nI_1 _) (by decide) rfl (fun ls hl => ?_)
          refine lv_goto (tgt := 16) hx hb dX1_goThrough_131 (by decide) ?_
          exact ih_16 (i + 1) _ _ _ (by omega) ⟨by omega, by rw [gtF_t (w := (fun n => woF (rbF (hbX pl kd fa fb N) mb K) (nI n) K)) (sq := (fun n => sqF (rbF (hbX pl kd fa fb N) mb K) (nI n) K)) (ok := (fun n => kpF gh (nI n) N)) (k := i) cz2]; exact lv_sub hl [4, 1, 0] rfl, (by rw [gtF_t (w := (fun n => woF (rbF (hbX pl kd fa fb N) mb K) (nI n) K)) (sq := (fun n => sqF (rbF (hbX pl kd fa fb N) mb K) (nI n) K)) (ok := (fun n => kpF gh (nI n) N)) (k := i) cz2]; exact hP), vD_same (by rfl) hD, hS⟩
        · refine lv_iload hx hb dX1_goThrough_116 (lv_at hl 1 rfl) ?_
          refine lv_goto (tgt := 125) hx hb dX1_goThrough_118 (by decide) ?_
          refine tpI (y := if sqF (rbF (hbX pl kd fa fb N) mb K) (nI i) K < (gtF (fun n => woF (rbF (hbX pl kd fa fb N) mb K) (nI n) K) (fun n => sqF (rbF (hbX pl kd fa fb N) mb K) (nI n) K) (fun n => kpF gh (nI n) N) ff fm i).2.2.2 then sqF (rbF (hbX pl kd fa fb N) mb K) (nI i) K else (gtF (fun n => woF (rbF (hbX pl kd fa fb N) mb K) (nI n) K) (fun n => sqF (rbF (hbX pl kd fa fb N) mb K) (nI n) K) (fun n => kpF gh (nI n) N) ff fm i).2.2.2) (by rw [if_pos (Int32.not_le.mp cz12)]) ?_
          refine pM_foundFewest hx hb hts hin hown hK hP hD hS L102 dX1_goThrough_125 (fun H locs hP hD hS => ?_)
          refine lv_iinc (v := nI (i + 1)) (lv' := [(2, .int (nI (i + 1))), (1, .int (if woF (rbF (hbX pl kd fa fb N) mb K) (nI i) K < (gtF (fun n => woF (rbF (hbX pl kd fa fb N) mb K) (nI n) K) (fun n => sqF (rbF (hbX pl kd fa fb N) mb K) (nI n) K) (fun n => kpF gh (nI n) N) ff fm i).1 then woF (rbF (hbX pl kd fa fb N) mb K) (nI i) K else (gtF (fun n => woF (rbF (hbX pl kd fa fb N) mb K) (nI n) K) (fun n => sqF (rbF (hbX pl kd fa fb N) mb K) (nI n) K) (fun n => kpF gh (nI n) N) ff fm i).1)), (4, .int (sqF (rbF (hbX pl kd fa fb N) mb K) (nI i) K)), (3, .int (woF (rbF (hbX pl kd fa fb N) mb K) (nI i) K)), (0, .ref (q 0))]) hx hb dX1_goThrough_128 hl (k := 4) rfl (nI_1 _) (by decide) rfl (fun ls hl => ?_)
          refine lv_goto (tgt := 16) hx hb dX1_goThrough_131 (by decide) ?_
          exact ih_16 (i + 1) _ _ _ (by omega) ⟨by omega, by rw [gtF_t (w := (fun n => woF (rbF (hbX pl kd fa fb N) mb K) (nI n) K)) (sq := (fun n => sqF (rbF (hbX pl kd fa fb N) mb K) (nI n) K)) (ok := (fun n => kpF gh (nI n) N)) (k := i) cz2]; exact lv_sub hl [4, 1, 0] rfl, (by rw [gtF_t (w := (fun n => woF (rbF (hbX pl kd fa fb N) mb K) (nI n) K)) (sq := (fun n => sqF (rbF (hbX pl kd fa fb N) mb K) (nI n) K)) (ok := (fun n => kpF gh (nI n) N)) (k := i) cz2]; exact hP), vD_same (by rfl) hD, hS⟩

theorem hdX1_least : yX1_least.cls = RX1 ∧ yX1_least.cls ≠ "java/lang/invoke/MethodHandle" ∧ yX1_least.cls ≠ "java/lang/invoke/VarHandle" ∧ (parseMethodDescriptor yX1_least.desc).map (fun d => d.parameters.length) = some 0 := by decide +kernel
set_option maxHeartbeats 4000000 in
set_option maxRecDepth 100000 in
theorem kX1_least {l : Launch} {D : va_G} {cy : ClassId} {H : Heap} {q : Nat → Nat} {ff fm fw : Int32} {ak : Int64} {ta gh kd fa fb sx sy mb co : Nat → Int32} {N K S : Nat} {pl : Nat → Int32} (hP : va_P D vwCl (wM cy q (nI N) (nI K) (nI S) ff fm fw ak ta gh kd fa fb sx sy mb co) H) (hD : va_D (aL q) (wM cy q (nI N) (nI K) (nI S) ff fm fw ak ta gh kd fa fb sx sy mb co))  (hN : N ≤ 12) (hKn : K ≤ 10) (hpl : plOk ta pl N) (hw : hpOk kd fa fb N K) : Met l yX1_least wsX1_least { frames := 5, cells := 0, slots := 0, locals := 112 } (pcK D cy H [.ref (q 0)]) (qI (some (.int ((gtM (rbF (hbX pl kd fa fb N) mb K) gh N K ff fm).1))) (va_P D vwCl (wM cy q (nI N) (nI K) (nI S) ((gtM (rbF (hbX pl kd fa fb N) mb K) gh N K ff fm).2.1) ((gtM (rbF (hbX pl kd fa fb N) mb K) gh N K ff fm).2.2.1) ((gtM (rbF (hbX pl kd fa fb N) mb K) gh N K ff fm).2.2.2) ak ta gh kd fa fb sx sy (rbF (hbX pl kd fa fb N) mb K) co)) (aL q)) 0 0 (aL q) := by
  refine mV 1 (by decide) rfl (Nat.le_of_ble_eq_true rfl) ?_
  intro p e s m below meth c hx hb hml hr hlk hts hown hnm hK hH ls hl
  have hC := (⟨hx, hb, hml, hown, hts⟩ : CallFix p m c cX1_least 1 s _ wsX1_least RX1)
  have hl : lv_has ls 1 [(0, .ref (q 0))] := hl
  have hS : va_S (aL q) s.heap H [] := by rw [hH]; exact va_S.rf
  refine lv_aload_n hx hb dX1_least_0 rfl (lv_at hl 0 rfl) ?_
  refine cVw (As := []) hC hK hP rfl rfl (kX1_goThrough hP hD  hN hKn hpl hw) [] (cwV 0 hts gX1_least_X1_goThrough rfl rfl rfl hdX1_goThrough ⟨Nat.le_of_ble_eq_true rfl, Nat.le_of_ble_eq_true rfl⟩) rfl hl.1 rfl (Nat.le_of_ble_eq_true rfl) dX1_least_1 ⟨Nat.zero_le _, Nat.zero_le _⟩ hS (fun _ h => h) (fun H locs hP hz hkp hS => ?_)
  have hD := vD_same (w2 := wM cy q (nI N) (nI K) (nI S) ((gtM (rbF (hbX pl kd fa fb N) mb K) gh N K ff fm).2.1) ((gtM (rbF (hbX pl kd fa fb N) mb K) gh N K ff fm).2.2.1) ((gtM (rbF (hbX pl kd fa fb N) mb K) gh N K ff fm).2.2.2) ak ta gh kd fa fb sx sy (rbF (hbX pl kd fa fb N) mb K) co) (by rfl) hD
  exact rIw hx hb hr hlk hS hP dX1_least_4 rfl

theorem hdX1_first : yX1_first.cls = RX1 ∧ yX1_first.cls ≠ "java/lang/invoke/MethodHandle" ∧ yX1_first.cls ≠ "java/lang/invoke/VarHandle" ∧ (parseMethodDescriptor yX1_first.desc).map (fun d => d.parameters.length) = some 0 := by decide +kernel
set_option maxHeartbeats 4000000 in
set_option maxRecDepth 100000 in
theorem kX1_first {l : Launch} {D : va_G} {cy : ClassId} {H : Heap} {q : Nat → Nat} {ff fm fw : Int32} {ak : Int64} {ta gh kd fa fb sx sy mb co : Nat → Int32} {N K S : Nat} {pl : Nat → Int32} (hP : va_P D vwCl (wM cy q (nI N) (nI K) (nI S) ff fm fw ak ta gh kd fa fb sx sy mb co) H) (hD : va_D (aL q) (wM cy q (nI N) (nI K) (nI S) ff fm fw ak ta gh kd fa fb sx sy mb co))  (hN : N ≤ 12) (hKn : K ≤ 10) (hpl : plOk ta pl N) (hw : hpOk kd fa fb N K) : Met l yX1_first wsX1_first { frames := 5, cells := 0, slots := 0, locals := 112 } (pcK D cy H [.ref (q 0)]) (qI (some (.int ((gtM (rbF (hbX pl kd fa fb N) mb K) gh N K ff fm).2.1))) (va_P D vwCl (wM cy q (nI N) (nI K) (nI S) ((gtM (rbF (hbX pl kd fa fb N) mb K) gh N K ff fm).2.1) ((gtM (rbF (hbX pl kd fa fb N) mb K) gh N K ff fm).2.2.1) ((gtM (rbF (hbX pl kd fa fb N) mb K) gh N K ff fm).2.2.2) ak ta gh kd fa fb sx sy (rbF (hbX pl kd fa fb N) mb K) co)) (aL q)) 0 0 (aL q) := by
  refine mV 2 (by decide) rfl (Nat.le_of_ble_eq_true rfl) ?_
  intro p e s m below meth c hx hb hml hr hlk hts hown hnm hK hH ls hl
  have hC := (⟨hx, hb, hml, hown, hts⟩ : CallFix p m c cX1_first 2 s _ wsX1_first RX1)
  have hin : ∀ w ∈ wsX10, w ∈ wsX1_first := by decide +kernel
  have L108 : Cond.fieldLink RX1 108 "TwoColoursModel" "foundFirst" "I" ∈ wsX1_first := by decide +kernel
  have hl : lv_has ls 2 [(0, .ref (q 0))] := hl
  have hS : va_S (aL q) s.heap H [] := by rw [hH]; exact va_S.rf
  refine lv_aload_n hx hb dX1_first_0 rfl (lv_at hl 0 rfl) ?_
  refine cVw (As := []) hC hK hP rfl rfl (kX1_goThrough hP hD  hN hKn hpl hw) [] (cwV 0 hts gX1_first_X1_goThrough rfl rfl rfl hdX1_goThrough ⟨Nat.le_of_ble_eq_true rfl, Nat.le_of_ble_eq_true rfl⟩) rfl hl.1 rfl (Nat.le_of_ble_eq_true rfl) dX1_first_1 ⟨Nat.zero_le _, Nat.zero_le _⟩ hS (fun _ h => h) (fun H locs hP hz hkp hS => ?_)
  have hD := vD_same (w2 := wM cy q (nI N) (nI K) (nI S) ((gtM (rbF (hbX pl kd fa fb N) mb K) gh N K ff fm).2.1) ((gtM (rbF (hbX pl kd fa fb N) mb K) gh N K ff fm).2.2.1) ((gtM (rbF (hbX pl kd fa fb N) mb K) gh N K ff fm).2.2.2) ak ta gh kd fa fb sx sy (rbF (hbX pl kd fa fb N) mb K) co) (by rfl) hD
  refine lv_istore_n (lv' := [(1, .int ((gtM (rbF (hbX pl kd fa fb N) mb K) gh N K ff fm).1)), (0, .ref (q 0))]) hx hb dX1_first_4 rfl hl (by decide) rfl (fun ls hl => ?_)
  refine lv_aload_n hx hb dX1_first_5 rfl (lv_at hl 1 rfl) ?_
  refine gM_foundFirst hx hb hts hin hown hK hP L108 dX1_first_6 ?_
  exact rIw hx hb hr hlk hS hP dX1_first_9 rfl

theorem hdX1_many : yX1_many.cls = RX1 ∧ yX1_many.cls ≠ "java/lang/invoke/MethodHandle" ∧ yX1_many.cls ≠ "java/lang/invoke/VarHandle" ∧ (parseMethodDescriptor yX1_many.desc).map (fun d => d.parameters.length) = some 0 := by decide +kernel
set_option maxHeartbeats 4000000 in
set_option maxRecDepth 100000 in
theorem kX1_many {l : Launch} {D : va_G} {cy : ClassId} {H : Heap} {q : Nat → Nat} {ff fm fw : Int32} {ak : Int64} {ta gh kd fa fb sx sy mb co : Nat → Int32} {N K S : Nat} {pl : Nat → Int32} (hP : va_P D vwCl (wM cy q (nI N) (nI K) (nI S) ff fm fw ak ta gh kd fa fb sx sy mb co) H) (hD : va_D (aL q) (wM cy q (nI N) (nI K) (nI S) ff fm fw ak ta gh kd fa fb sx sy mb co))  (hN : N ≤ 12) (hKn : K ≤ 10) (hpl : plOk ta pl N) (hw : hpOk kd fa fb N K) : Met l yX1_many wsX1_many { frames := 5, cells := 0, slots := 0, locals := 112 } (pcK D cy H [.ref (q 0)]) (qI (some (.int ((gtM (rbF (hbX pl kd fa fb N) mb K) gh N K ff fm).2.2.1))) (va_P D vwCl (wM cy q (nI N) (nI K) (nI S) ((gtM (rbF (hbX pl kd fa fb N) mb K) gh N K ff fm).2.1) ((gtM (rbF (hbX pl kd fa fb N) mb K) gh N K ff fm).2.2.1) ((gtM (rbF (hbX pl kd fa fb N) mb K) gh N K ff fm).2.2.2) ak ta gh kd fa fb sx sy (rbF (hbX pl kd fa fb N) mb K) co)) (aL q)) 0 0 (aL q) := by
  refine mV 2 (by decide) rfl (Nat.le_of_ble_eq_true rfl) ?_
  intro p e s m below meth c hx hb hml hr hlk hts hown hnm hK hH ls hl
  have hC := (⟨hx, hb, hml, hown, hts⟩ : CallFix p m c cX1_many 2 s _ wsX1_many RX1)
  have hin : ∀ w ∈ wsX10, w ∈ wsX1_many := by decide +kernel
  have L111 : Cond.fieldLink RX1 111 "TwoColoursModel" "foundMany" "I" ∈ wsX1_many := by decide +kernel
  have hl : lv_has ls 2 [(0, .ref (q 0))] := hl
  have hS : va_S (aL q) s.heap H [] := by rw [hH]; exact va_S.rf
  refine lv_aload_n hx hb dX1_many_0 rfl (lv_at hl 0 rfl) ?_
  refine cVw (As := []) hC hK hP rfl rfl (kX1_goThrough hP hD  hN hKn hpl hw) [] (cwV 0 hts gX1_many_X1_goThrough rfl rfl rfl hdX1_goThrough ⟨Nat.le_of_ble_eq_true rfl, Nat.le_of_ble_eq_true rfl⟩) rfl hl.1 rfl (Nat.le_of_ble_eq_true rfl) dX1_many_1 ⟨Nat.zero_le _, Nat.zero_le _⟩ hS (fun _ h => h) (fun H locs hP hz hkp hS => ?_)
  have hD := vD_same (w2 := wM cy q (nI N) (nI K) (nI S) ((gtM (rbF (hbX pl kd fa fb N) mb K) gh N K ff fm).2.1) ((gtM (rbF (hbX pl kd fa fb N) mb K) gh N K ff fm).2.2.1) ((gtM (rbF (hbX pl kd fa fb N) mb K) gh N K ff fm).2.2.2) ak ta gh kd fa fb sx sy (rbF (hbX pl kd fa fb N) mb K) co) (by rfl) hD
  refine lv_istore_n (lv' := [(1, .int ((gtM (rbF (hbX pl kd fa fb N) mb K) gh N K ff fm).1)), (0, .ref (q 0))]) hx hb dX1_many_4 rfl hl (by decide) rfl (fun ls hl => ?_)
  refine lv_aload_n hx hb dX1_many_5 rfl (lv_at hl 1 rfl) ?_
  refine gM_foundMany hx hb hts hin hown hK hP L111 dX1_many_6 ?_
  exact rIw hx hb hr hlk hS hP dX1_many_9 rfl

theorem hdX1_fewest : yX1_fewest.cls = RX1 ∧ yX1_fewest.cls ≠ "java/lang/invoke/MethodHandle" ∧ yX1_fewest.cls ≠ "java/lang/invoke/VarHandle" ∧ (parseMethodDescriptor yX1_fewest.desc).map (fun d => d.parameters.length) = some 0 := by decide +kernel
set_option maxHeartbeats 4000000 in
set_option maxRecDepth 100000 in
theorem kX1_fewest {l : Launch} {D : va_G} {cy : ClassId} {H : Heap} {q : Nat → Nat} {ff fm fw : Int32} {ak : Int64} {ta gh kd fa fb sx sy mb co : Nat → Int32} {N K S : Nat} {pl : Nat → Int32} (hP : va_P D vwCl (wM cy q (nI N) (nI K) (nI S) ff fm fw ak ta gh kd fa fb sx sy mb co) H) (hD : va_D (aL q) (wM cy q (nI N) (nI K) (nI S) ff fm fw ak ta gh kd fa fb sx sy mb co))  (hN : N ≤ 12) (hKn : K ≤ 10) (hpl : plOk ta pl N) (hw : hpOk kd fa fb N K) : Met l yX1_fewest wsX1_fewest { frames := 5, cells := 0, slots := 0, locals := 112 } (pcK D cy H [.ref (q 0)]) (qI (some (.int ((gtM (rbF (hbX pl kd fa fb N) mb K) gh N K ff fm).2.2.2))) (va_P D vwCl (wM cy q (nI N) (nI K) (nI S) ((gtM (rbF (hbX pl kd fa fb N) mb K) gh N K ff fm).2.1) ((gtM (rbF (hbX pl kd fa fb N) mb K) gh N K ff fm).2.2.1) ((gtM (rbF (hbX pl kd fa fb N) mb K) gh N K ff fm).2.2.2) ak ta gh kd fa fb sx sy (rbF (hbX pl kd fa fb N) mb K) co)) (aL q)) 0 0 (aL q) := by
  refine mV 2 (by decide) rfl (Nat.le_of_ble_eq_true rfl) ?_
  intro p e s m below meth c hx hb hml hr hlk hts hown hnm hK hH ls hl
  have hC := (⟨hx, hb, hml, hown, hts⟩ : CallFix p m c cX1_fewest 2 s _ wsX1_fewest RX1)
  have hin : ∀ w ∈ wsX10, w ∈ wsX1_fewest := by decide +kernel
  have L102 : Cond.fieldLink RX1 102 "TwoColoursModel" "foundFewest" "I" ∈ wsX1_fewest := by decide +kernel
  have hl : lv_has ls 2 [(0, .ref (q 0))] := hl
  have hS : va_S (aL q) s.heap H [] := by rw [hH]; exact va_S.rf
  refine lv_aload_n hx hb dX1_fewest_0 rfl (lv_at hl 0 rfl) ?_
  refine cVw (As := []) hC hK hP rfl rfl (kX1_goThrough hP hD  hN hKn hpl hw) [] (cwV 0 hts gX1_fewest_X1_goThrough rfl rfl rfl hdX1_goThrough ⟨Nat.le_of_ble_eq_true rfl, Nat.le_of_ble_eq_true rfl⟩) rfl hl.1 rfl (Nat.le_of_ble_eq_true rfl) dX1_fewest_1 ⟨Nat.zero_le _, Nat.zero_le _⟩ hS (fun _ h => h) (fun H locs hP hz hkp hS => ?_)
  have hD := vD_same (w2 := wM cy q (nI N) (nI K) (nI S) ((gtM (rbF (hbX pl kd fa fb N) mb K) gh N K ff fm).2.1) ((gtM (rbF (hbX pl kd fa fb N) mb K) gh N K ff fm).2.2.1) ((gtM (rbF (hbX pl kd fa fb N) mb K) gh N K ff fm).2.2.2) ak ta gh kd fa fb sx sy (rbF (hbX pl kd fa fb N) mb K) co) (by rfl) hD
  refine lv_istore_n (lv' := [(1, .int ((gtM (rbF (hbX pl kd fa fb N) mb K) gh N K ff fm).1)), (0, .ref (q 0))]) hx hb dX1_fewest_4 rfl hl (by decide) rfl (fun ls hl => ?_)
  refine lv_aload_n hx hb dX1_fewest_5 rfl (lv_at hl 1 rfl) ?_
  refine gM_foundFewest hx hb hts hin hown hK hP L102 dX1_fewest_6 ?_
  exact rIw hx hb hr hlk hS hP dX1_fewest_9 rfl

theorem hdX1_come : yX1_come.cls = RX1 ∧ yX1_come.cls ≠ "java/lang/invoke/MethodHandle" ∧ yX1_come.cls ≠ "java/lang/invoke/VarHandle" ∧ (parseMethodDescriptor yX1_come.desc).map (fun d => d.parameters.length) = some 0 := by decide +kernel
set_option maxHeartbeats 4000000 in
set_option maxRecDepth 100000 in
theorem kX1_come {l : Launch} {D : va_G} {cy : ClassId} {H : Heap} {q : Nat → Nat} {ff fm fw : Int32} {ak : Int64} {ta gh kd fa fb sx sy mb co : Nat → Int32} {N K S : Nat} {pl : Nat → Int32} (hP : va_P D vwCl (wM cy q (nI N) (nI K) (nI S) ff fm fw ak ta gh kd fa fb sx sy mb co) H) (hD : va_D (aL q) (wM cy q (nI N) (nI K) (nI S) ff fm fw ak ta gh kd fa fb sx sy mb co))  (hN : N ≤ 12) (hKn : K ≤ 10) (hpl : plOk ta pl N) (hw : hpOk kd fa fb N K) : Met l yX1_come wsX1_come { frames := 4, cells := 0, slots := 0, locals := 88 } (pcK D cy H [.ref (q 0)]) (qI (some (.int (coM (rbF (hbX pl kd fa fb N) mb K) K gh N))) (va_P D vwCl (wM cy q (nI N) (nI K) (nI S) ff fm fw ak ta gh kd fa fb sx sy (rbF (hbX pl kd fa fb N) mb K) co)) (aL q)) 0 0 (aL q) := by
  refine mV 6 (by decide) rfl (Nat.le_of_ble_eq_true rfl) ?_
  intro p e s m below meth c hx hb hml hr hlk hts hown hnm hK hH ls hl
  have hC := (⟨hx, hb, hml, hown, hts⟩ : CallFix p m c cX1_come 6 s _ wsX1_come RX1)
  have hin : ∀ w ∈ wsX10, w ∈ wsX1_come := by decide +kernel
  have L7 : Cond.fieldLink RX1 7 "TwoColoursModel" "n" "I" ∈ wsX1_come := by decide +kernel
  have L17 : Cond.fieldLink RX1 17 "TwoColoursModel" "held" "[I" ∈ wsX1_come := by decide +kernel
  have L35 : Cond.fieldLink RX1 35 "TwoColoursModel" "heapBits" "[I" ∈ wsX1_come := by decide +kernel
  have L41 : Cond.fieldLink RX1 41 "TwoColoursModel" "heaps" "I" ∈ wsX1_come := by decide +kernel
  have hl : lv_has ls 6 [(0, .ref (q 0))] := hl
  have hS : va_S (aL q) s.heap H [] := by rw [hH]; exact va_S.rf
  refine lv_iconst (v := 0) hx hb dX1_come_0 (by decide) ?_
  refine lv_istore_n (lv' := [(1, .int (0)), (0, .ref (q 0))]) hx hb dX1_come_1 rfl hl (by decide) rfl (fun ls hl => ?_)
  refine lv_iconst (v := 0) hx hb dX1_come_2 (by decide) ?_
  refine lv_istore_n (lv' := [(2, .int (0)), (1, .int (0)), (0, .ref (q 0))]) hx hb dX1_come_3 rfl hl (by decide) rfl (fun ls hl => ?_)
  refine lv_aload_n hx hb dX1_come_4 rfl (lv_at hl 2 rfl) ?_
  refine cVw (As := []) hC hK hP rfl rfl (kX1_collect hP hD  hN hKn hpl hw) [] (cwV 0 hts gX1_come_X1_collect rfl rfl rfl hdX1_collect ⟨Nat.le_of_ble_eq_true rfl, Nat.le_of_ble_eq_true rfl⟩) rfl hl.1 rfl (Nat.le_of_ble_eq_true rfl) dX1_come_5 ⟨Nat.zero_le _, Nat.zero_le _⟩ hS (fun _ h => h) (fun H locs hP hz hkp hS => ?_)
  have hD := vD_same (w2 := wM cy q (nI N) (nI K) (nI S) ff fm fw ak ta gh kd fa fb sx sy (rbF (hbX pl kd fa fb N) mb K) co) (by rfl) hD
  have hsm : ∀ h, h < K → sm ((rbF (hbX pl kd fa fb N) mb K) h) := (fun h hh => by rw [rbF_lt hh]; exact hbX_sm hN)
  refine lv_iconst (v := 0) hx hb dX1_come_8 (by decide) ?_
  refine lv_istore_n (lv' := [(3, .int (0)), (2, .int (0)), (1, .int (0)), (0, .ref (q 0))]) hx hb dX1_come_9 rfl hl (by decide) rfl (fun ls hl => ?_)
  refine lpP 10 (fun i ls => lv_has ls 6 [(0, .ref (q 0)), (1, .int (coM (rbF (hbX pl kd fa fb N) mb K) K gh i)), (2, .int (nI (2 ^ i - 1))), (3, .int (nI i))]) (N) ?_ (0) ls (by omega) (lv_sub hl [3, 2, 1, 0] rfl)
  intro i ls hi hl ih_10
  obtain ⟨b1, hb1, eb⟩ := coM_lt (rbF (hbX pl kd fa fb N) mb K) K gh (j := i) (by omega)
  refine lv_iload_n hx hb dX1_come_10 rfl (lv_at hl 3 rfl) ?_
  refine lv_aload_n hx hb dX1_come_11 rfl (lv_at hl 0 rfl) ?_
  refine gM_n hx hb hts hin hown hK hP L7 dX1_come_12 ?_
  refine lv_icmp_ge (tgt := 152) hx hb dX1_come_15 (by decide) (fun cz1 => ?_) (fun cz1 => ?_)
  · have cz1 : N ≤ i := (nI_leI (a := N) (b := i) (by omega) (by omega)).mp cz1
    have ei : N = i := by omega
    subst ei
    refine lv_iload_n hx hb dX1_come_152 rfl (lv_at hl 1 rfl) ?_
    exact rIw hx hb hr hlk hS hP dX1_come_153 rfl
  · have cz1 : ¬ N ≤ i := fun h => cz1 ((nI_leI (a := N) (b := i) (by omega) (by omega)).mpr h)
    refine lv_iconst (v := 0) hx hb dX1_come_18 (by decide) ?_
    refine lv_istore (lv' := [(4, .int (0)), (0, .ref (q 0)), (1, .int (coM (rbF (hbX pl kd fa fb N) mb K) K gh i)), (2, .int (nI (2 ^ i - 1))), (3, .int (nI i))]) hx hb dX1_come_19 hl (by decide) rfl (fun ls hl => ?_)
    refine lv_iconst (v := 0) hx hb dX1_come_21 (by decide) ?_
    refine lv_istore (lv' := [(5, .int (0)), (4, .int (0)), (0, .ref (q 0)), (1, .int (coM (rbF (hbX pl kd fa fb N) mb K) K gh i)), (2, .int (nI (2 ^ i - 1))), (3, .int (nI i))]) hx hb dX1_come_22 hl (by decide) rfl (fun ls hl => ?_)
    refine lpP 24 (fun j ls => lv_has ls 6 [(0, .ref (q 0)), (1, .int (coM (rbF (hbX pl kd fa fb N) mb K) K gh i)), (2, .int (nI (2 ^ i - 1))), (3, .int (nI i)), (4, .int (cmF (rbF (hbX pl kd fa fb N) mb K) i (coM (rbF (hbX pl kd fa fb N) mb K) K gh i) j)), (5, .int (nI j))]) (K) ?_ (0) ls (by omega) (lv_sub hl [2, 3, 4, 5, 1, 0] rfl)
    intro j ls hj hl ih_24
    refine lv_iload hx hb dX1_come_24 (lv_at hl 5 rfl) ?_
    refine lv_aload_n hx hb dX1_come_26 rfl (lv_at hl 0 rfl) ?_
    refine gM_heaps hx hb hts hin hown hK hP L41 dX1_come_27 ?_
    refine lv_icmp_ge (tgt := 86) hx hb dX1_come_30 (by decide) (fun cz2 => ?_) (fun cz2 => ?_)
    · have cz2 : K ≤ j := (nI_leI (a := K) (b := j) (by omega) (by omega)).mp cz2
      have ej : K = j := by omega
      subst ej
      refine lv_aload_n hx hb dX1_come_86 rfl (lv_at hl 0 rfl) ?_
      refine gM_held hx hb hts hin hown hK hP L17 dX1_come_87 ?_
      refine lv_iload_n hx hb dX1_come_90 rfl (lv_at hl 3 rfl) ?_
      refine ldM_held (j := i) hx hb hK hP rfl (by omega) dX1_come_91 ?_
      refine lv_if_ge (tgt := 108) hx hb dX1_come_92 (by decide) (fun cz3 => ?_) (fun cz3 => ?_)
      · refine lv_aload_n hx hb dX1_come_108 rfl (lv_at hl 0 rfl) ?_
        refine gM_held hx hb hts hin hown hK hP L17 dX1_come_109 ?_
        refine lv_iload_n hx hb dX1_come_112 rfl (lv_at hl 3 rfl) ?_
        refine ldM_held (j := i) hx hb hK hP rfl (by omega) dX1_come_113 ?_
        refine lv_iconst (v := 1) hx hb dX1_come_114 (by decide) ?_
        refine lv_icmp_ne (tgt := 122) hx hb dX1_come_115 (by decide) (fun cz4 => ?_) (fun cz4 => ?_)
        · refine lv_iconst (v := 0) hx hb dX1_come_122 (by decide) ?_
          refine lv_istore (lv' := [(5, .int (0)), (0, .ref (q 0)), (1, .int (coM (rbF (hbX pl kd fa fb N) mb K) K gh i)), (2, .int (nI (2 ^ i - 1))), (3, .int (nI i)), (4, .int (cmF (rbF (hbX pl kd fa fb N) mb K) i (coM (rbF (hbX pl kd fa fb N) mb K) K gh i) K))]) hx hb dX1_come_123 hl (by decide) rfl (fun ls hl => ?_)
          refine lv_iload_n hx hb dX1_come_125 rfl (lv_at hl 2 rfl) ?_
          refine lv_iload hx hb dX1_come_126 (lv_at hl 0 rfl) ?_
          refine lv_if_eq (tgt := 137) hx hb dX1_come_128 (by decide) (fun _ => ?_) (fun h => absurd h (by decide))
          refine lv_iconst (v := 0) hx hb dX1_come_137 (by decide) ?_
          refine tpI (y := ccM (rbF (hbX pl kd fa fb N) mb K) K gh i (coM (rbF (hbX pl kd fa fb N) mb K) K gh i) <<< (nI i &&& 31)) (by rw [ccM, if_neg (Int32.not_lt.mpr cz3), if_neg cz4]; exact (shl0 i (by omega)).symm) ?_
          refine lv_ior hx hb dX1_come_138 ?_
          refine lv_istore_n (lv' := [(1, .int ((coM (rbF (hbX pl kd fa fb N) mb K) K gh i) ||| (ccM (rbF (hbX pl kd fa fb N) mb K) K gh i (coM (rbF (hbX pl kd fa fb N) mb K) K gh i) <<< (nI i &&& 31)))), (5, .int (0)), (0, .ref (q 0)), (2, .int (nI (2 ^ i - 1))), (3, .int (nI i)), (4, .int (cmF (rbF (hbX pl kd fa fb N) mb K) i (coM (rbF (hbX pl kd fa fb N) mb K) K gh i) K))]) hx hb dX1_come_139 rfl hl (by decide) rfl (fun ls hl => ?_)
          refine lv_iload_n hx hb dX1_come_140 rfl (lv_at hl 3 rfl) ?_
          refine lv_iconst (v := 1) hx hb dX1_come_141 (by decide) ?_
          refine lv_iload_n hx hb dX1_come_142 rfl (lv_at hl 4 rfl) ?_
          refine lv_ishl hx hb dX1_come_143 ?_
          refine lv_ior hx hb dX1_come_144 ?_
          refine tpI (y := nI (2 ^ (i + 1) - 1)) (done_or i (by omega)) ?_
          refine lv_istore_n (lv' := [(2, .int (nI (2 ^ (i + 1) - 1))), (1, .int ((coM (rbF (hbX pl kd fa fb N) mb K) K gh i) ||| (ccM (rbF (hbX pl kd fa fb N) mb K) K gh i (coM (rbF (hbX pl kd fa fb N) mb K) K gh i) <<< (nI i &&& 31)))), (5, .int (0)), (0, .ref (q 0)), (3, .int (nI i)), (4, .int (cmF (rbF (hbX pl kd fa fb N) mb K) i (coM (rbF (hbX pl kd fa fb N) mb K) K gh i) K))]) hx hb dX1_come_145 rfl hl (by decide) rfl (fun ls hl => ?_)
          refine lv_iinc (v := nI (i + 1)) (lv' := [(3, .int (nI (i + 1))), (2, .int (nI (2 ^ (i + 1) - 1))), (1, .int ((coM (rbF (hbX pl kd fa fb N) mb K) K gh i) ||| (ccM (rbF (hbX pl kd fa fb N) mb K) K gh i (coM (rbF (hbX pl kd fa fb N) mb K) K gh i) <<< (nI i &&& 31)))), (5, .int (0)), (0, .ref (q 0)), (4, .int (cmF (rbF (hbX pl kd fa fb N) mb K) i (coM (rbF (hbX pl kd fa fb N) mb K) K gh i) K))]) hx hb dX1_come_146 hl (k := 4) rfl (nI_1 _) (by decide) rfl (fun ls hl => ?_)
          refine lv_goto (tgt := 10) hx hb dX1_come_149 (by decide) ?_
          exact ih_10 _ (by omega) (lv_sub hl [4, 2, 1, 0] rfl)
        · refine lv_iconst (v := 1) hx hb dX1_come_118 (by decide) ?_
          refine lv_goto (tgt := 123) hx hb dX1_come_119 (by decide) ?_
          refine lv_istore (lv' := [(5, .int (1)), (0, .ref (q 0)), (1, .int (coM (rbF (hbX pl kd fa fb N) mb K) K gh i)), (2, .int (nI (2 ^ i - 1))), (3, .int (nI i)), (4, .int (cmF (rbF (hbX pl kd fa fb N) mb K) i (coM (rbF (hbX pl kd fa fb N) mb K) K gh i) K))]) hx hb dX1_come_123 hl (by decide) rfl (fun ls hl => ?_)
          refine lv_iload_n hx hb dX1_come_125 rfl (lv_at hl 2 rfl) ?_
          refine lv_iload hx hb dX1_come_126 (lv_at hl 0 rfl) ?_
          refine lv_if_eq (tgt := 137) hx hb dX1_come_128 (by decide) (fun h => absurd h (by decide)) (fun _ => ?_)
          refine lv_iconst (v := 1) hx hb dX1_come_131 (by decide) ?_
          refine lv_iload_n hx hb dX1_come_132 rfl (lv_at hl 4 rfl) ?_
          refine lv_ishl hx hb dX1_come_133 ?_
          refine lv_goto (tgt := 138) hx hb dX1_come_134 (by decide) ?_
          refine tpI (y := ccM (rbF (hbX pl kd fa fb N) mb K) K gh i (coM (rbF (hbX pl kd fa fb N) mb K) K gh i) <<< (nI i &&& 31)) (by rw [ccM, if_neg (Int32.not_lt.mpr cz3), if_pos cz4]) ?_
          refine lv_ior hx hb dX1_come_138 ?_
          refine lv_istore_n (lv' := [(1, .int ((coM (rbF (hbX pl kd fa fb N) mb K) K gh i) ||| (ccM (rbF (hbX pl kd fa fb N) mb K) K gh i (coM (rbF (hbX pl kd fa fb N) mb K) K gh i) <<< (nI i &&& 31)))), (5, .int (1)), (0, .ref (q 0)), (2, .int (nI (2 ^ i - 1))), (3, .int (nI i)), (4, .int (cmF (rbF (hbX pl kd fa fb N) mb K) i (coM (rbF (hbX pl kd fa fb N) mb K) K gh i) K))]) hx hb dX1_come_139 rfl hl (by decide) rfl (fun ls hl => ?_)
          refine lv_iload_n hx hb dX1_come_140 rfl (lv_at hl 3 rfl) ?_
          refine lv_iconst (v := 1) hx hb dX1_come_141 (by decide) ?_
          refine lv_iload_n hx hb dX1_come_142 rfl (lv_at hl 4 rfl) ?_
          refine lv_ishl hx hb dX1_come_143 ?_
          refine lv_ior hx hb dX1_come_144 ?_
          refine tpI (y := nI (2 ^ (i + 1) - 1)) (done_or i (by omega)) ?_
          refine lv_istore_n (lv' := [(2, .int (nI (2 ^ (i + 1) - 1))), (1, .int ((coM (rbF (hbX pl kd fa fb N) mb K) K gh i) ||| (ccM (rbF (hbX pl kd fa fb N) mb K) K gh i (coM (rbF (hbX pl kd fa fb N) mb K) K gh i) <<< (nI i &&& 31)))), (5, .int (1)), (0, .ref (q 0)), (3, .int (nI i)), (4, .int (cmF (rbF (hbX pl kd fa fb N) mb K) i (coM (rbF (hbX pl kd fa fb N) mb K) K gh i) K))]) hx hb dX1_come_145 rfl hl (by decide) rfl (fun ls hl => ?_)
          refine lv_iinc (v := nI (i + 1)) (lv' := [(3, .int (nI (i + 1))), (2, .int (nI (2 ^ (i + 1) - 1))), (1, .int ((coM (rbF (hbX pl kd fa fb N) mb K) K gh i) ||| (ccM (rbF (hbX pl kd fa fb N) mb K) K gh i (coM (rbF (hbX pl kd fa fb N) mb K) K gh i) <<< (nI i &&& 31)))), (5, .int (1)), (0, .ref (q 0)), (4, .int (cmF (rbF (hbX pl kd fa fb N) mb K) i (coM (rbF (hbX pl kd fa fb N) mb K) K gh i) K))]) hx hb dX1_come_146 hl (k := 4) rfl (nI_1 _) (by decide) rfl (fun ls hl => ?_)
          refine lv_goto (tgt := 10) hx hb dX1_come_149 (by decide) ?_
          exact ih_10 _ (by omega) (lv_sub hl [4, 2, 1, 0] rfl)
      · refine lv_iload hx hb dX1_come_95 (lv_at hl 4 rfl) ?_
        refine lv_if_ge (tgt := 104) hx hb dX1_come_97 (by decide) (fun cz7 => ?_) (fun cz7 => ?_)
        · refine lv_iconst (v := 0) hx hb dX1_come_104 (by decide) ?_
          refine lv_goto (tgt := 123) hx hb dX1_come_105 (by decide) ?_
          refine lv_istore (lv' := [(5, .int (0)), (0, .ref (q 0)), (1, .int (coM (rbF (hbX pl kd fa fb N) mb K) K gh i)), (2, .int (nI (2 ^ i - 1))), (3, .int (nI i)), (4, .int (cmF (rbF (hbX pl kd fa fb N) mb K) i (coM (rbF (hbX pl kd fa fb N) mb K) K gh i) K))]) hx hb dX1_come_123 hl (by decide) rfl (fun ls hl => ?_)
          refine lv_iload_n hx hb dX1_come_125 rfl (lv_at hl 2 rfl) ?_
          refine lv_iload hx hb dX1_come_126 (lv_at hl 0 rfl) ?_
          refine lv_if_eq (tgt := 137) hx hb dX1_come_128 (by decide) (fun _ => ?_) (fun h => absurd h (by decide))
          refine lv_iconst (v := 0) hx hb dX1_come_137 (by decide) ?_
          refine tpI (y := ccM (rbF (hbX pl kd fa fb N) mb K) K gh i (coM (rbF (hbX pl kd fa fb N) mb K) K gh i) <<< (nI i &&& 31)) (by rw [ccM, if_pos (Int32.not_le.mp cz3), if_neg (Int32.not_lt.mpr cz7)]; exact (shl0 i (by omega)).symm) ?_
          refine lv_ior hx hb dX1_come_138 ?_
          refine lv_istore_n (lv' := [(1, .int ((coM (rbF (hbX pl kd fa fb N) mb K) K gh i) ||| (ccM (rbF (hbX pl kd fa fb N) mb K) K gh i (coM (rbF (hbX pl kd fa fb N) mb K) K gh i) <<< (nI i &&& 31)))), (5, .int (0)), (0, .ref (q 0)), (2, .int (nI (2 ^ i - 1))), (3, .int (nI i)), (4, .int (cmF (rbF (hbX pl kd fa fb N) mb K) i (coM (rbF (hbX pl kd fa fb N) mb K) K gh i) K))]) hx hb dX1_come_139 rfl hl (by decide) rfl (fun ls hl => ?_)
          refine lv_iload_n hx hb dX1_come_140 rfl (lv_at hl 3 rfl) ?_
          refine lv_iconst (v := 1) hx hb dX1_come_141 (by decide) ?_
          refine lv_iload_n hx hb dX1_come_142 rfl (lv_at hl 4 rfl) ?_
          refine lv_ishl hx hb dX1_come_143 ?_
          refine lv_ior hx hb dX1_come_144 ?_
          refine tpI (y := nI (2 ^ (i + 1) - 1)) (done_or i (by omega)) ?_
          refine lv_istore_n (lv' := [(2, .int (nI (2 ^ (i + 1) - 1))), (1, .int ((coM (rbF (hbX pl kd fa fb N) mb K) K gh i) ||| (ccM (rbF (hbX pl kd fa fb N) mb K) K gh i (coM (rbF (hbX pl kd fa fb N) mb K) K gh i) <<< (nI i &&& 31)))), (5, .int (0)), (0, .ref (q 0)), (3, .int (nI i)), (4, .int (cmF (rbF (hbX pl kd fa fb N) mb K) i (coM (rbF (hbX pl kd fa fb N) mb K) K gh i) K))]) hx hb dX1_come_145 rfl hl (by decide) rfl (fun ls hl => ?_)
          refine lv_iinc (v := nI (i + 1)) (lv' := [(3, .int (nI (i + 1))), (2, .int (nI (2 ^ (i + 1) - 1))), (1, .int ((coM (rbF (hbX pl kd fa fb N) mb K) K gh i) ||| (ccM (rbF (hbX pl kd fa fb N) mb K) K gh i (coM (rbF (hbX pl kd fa fb N) mb K) K gh i) <<< (nI i &&& 31)))), (5, .int (0)), (0, .ref (q 0)), (4, .int (cmF (rbF (hbX pl kd fa fb N) mb K) i (coM (rbF (hbX pl kd fa fb N) mb K) K gh i) K))]) hx hb dX1_come_146 hl (k := 4) rfl (nI_1 _) (by decide) rfl (fun ls hl => ?_)
          refine lv_goto (tgt := 10) hx hb dX1_come_149 (by decide) ?_
          exact ih_10 _ (by omega) (lv_sub hl [4, 2, 1, 0] rfl)
        · refine lv_iconst (v := 1) hx hb dX1_come_100 (by decide) ?_
          refine lv_goto (tgt := 123) hx hb dX1_come_101 (by decide) ?_
          refine lv_istore (lv' := [(5, .int (1)), (0, .ref (q 0)), (1, .int (coM (rbF (hbX pl kd fa fb N) mb K) K gh i)), (2, .int (nI (2 ^ i - 1))), (3, .int (nI i)), (4, .int (cmF (rbF (hbX pl kd fa fb N) mb K) i (coM (rbF (hbX pl kd fa fb N) mb K) K gh i) K))]) hx hb dX1_come_123 hl (by decide) rfl (fun ls hl => ?_)
          refine lv_iload_n hx hb dX1_come_125 rfl (lv_at hl 2 rfl) ?_
          refine lv_iload hx hb dX1_come_126 (lv_at hl 0 rfl) ?_
          refine lv_if_eq (tgt := 137) hx hb dX1_come_128 (by decide) (fun h => absurd h (by decide)) (fun _ => ?_)
          refine lv_iconst (v := 1) hx hb dX1_come_131 (by decide) ?_
          refine lv_iload_n hx hb dX1_come_132 rfl (lv_at hl 4 rfl) ?_
          refine lv_ishl hx hb dX1_come_133 ?_
          refine lv_goto (tgt := 138) hx hb dX1_come_134 (by decide) ?_
          refine tpI (y := ccM (rbF (hbX pl kd fa fb N) mb K) K gh i (coM (rbF (hbX pl kd fa fb N) mb K) K gh i) <<< (nI i &&& 31)) (by rw [ccM, if_pos (Int32.not_le.mp cz3), if_pos (Int32.not_le.mp cz7)]) ?_
          refine lv_ior hx hb dX1_come_138 ?_
          refine lv_istore_n (lv' := [(1, .int ((coM (rbF (hbX pl kd fa fb N) mb K) K gh i) ||| (ccM (rbF (hbX pl kd fa fb N) mb K) K gh i (coM (rbF (hbX pl kd fa fb N) mb K) K gh i) <<< (nI i &&& 31)))), (5, .int (1)), (0, .ref (q 0)), (2, .int (nI (2 ^ i - 1))), (3, .int (nI i)), (4, .int (cmF (rbF (hbX pl kd fa fb N) mb K) i (coM (rbF (hbX pl kd fa fb N) mb K) K gh i) K))]) hx hb dX1_come_139 rfl hl (by decide) rfl (fun ls hl => ?_)
          refine lv_iload_n hx hb dX1_come_140 rfl (lv_at hl 3 rfl) ?_
          refine lv_iconst (v := 1) hx hb dX1_come_141 (by decide) ?_
          refine lv_iload_n hx hb dX1_come_142 rfl (lv_at hl 4 rfl) ?_
          refine lv_ishl hx hb dX1_come_143 ?_
          refine lv_ior hx hb dX1_come_144 ?_
          refine tpI (y := nI (2 ^ (i + 1) - 1)) (done_or i (by omega)) ?_
          refine lv_istore_n (lv' := [(2, .int (nI (2 ^ (i + 1) - 1))), (1, .int ((coM (rbF (hbX pl kd fa fb N) mb K) K gh i) ||| (ccM (rbF (hbX pl kd fa fb N) mb K) K gh i (coM (rbF (hbX pl kd fa fb N) mb K) K gh i) <<< (nI i &&& 31)))), (5, .int (1)), (0, .ref (q 0)), (3, .int (nI i)), (4, .int (cmF (rbF (hbX pl kd fa fb N) mb K) i (coM (rbF (hbX pl kd fa fb N) mb K) K gh i) K))]) hx hb dX1_come_145 rfl hl (by decide) rfl (fun ls hl => ?_)
          refine lv_iinc (v := nI (i + 1)) (lv' := [(3, .int (nI (i + 1))), (2, .int (nI (2 ^ (i + 1) - 1))), (1, .int ((coM (rbF (hbX pl kd fa fb N) mb K) K gh i) ||| (ccM (rbF (hbX pl kd fa fb N) mb K) K gh i (coM (rbF (hbX pl kd fa fb N) mb K) K gh i) <<< (nI i &&& 31)))), (5, .int (1)), (0, .ref (q 0)), (4, .int (cmF (rbF (hbX pl kd fa fb N) mb K) i (coM (rbF (hbX pl kd fa fb N) mb K) K gh i) K))]) hx hb dX1_come_146 hl (k := 4) rfl (nI_1 _) (by decide) rfl (fun ls hl => ?_)
          refine lv_goto (tgt := 10) hx hb dX1_come_149 (by decide) ?_
          exact ih_10 _ (by omega) (lv_sub hl [4, 2, 1, 0] rfl)
    · have cz2 : ¬ K ≤ j := fun h => cz2 ((nI_leI (a := K) (b := j) (by omega) (by omega)).mpr h)
      refine lv_aload_n hx hb dX1_come_33 rfl (lv_at hl 0 rfl) ?_
      refine gM_heapBits hx hb hts hin hown hK hP L35 dX1_come_34 ?_
      refine lv_iload hx hb dX1_come_37 (lv_at hl 5 rfl) ?_
      refine ldM_heapBits (j := j) hx hb hK hP rfl (by omega) dX1_come_39 ?_
      refine lv_iload_n hx hb dX1_come_40 rfl (lv_at hl 3 rfl) ?_
      refine lv_ishr hx hb dX1_come_41 ?_
      refine lv_iconst (v := 1) hx hb dX1_come_42 (by decide) ?_
      refine lv_iand hx hb dX1_come_43 ?_
      refine lv_iconst (v := 1) hx hb dX1_come_44 (by decide) ?_
      refine lv_icmp_ne (tgt := 80) hx hb dX1_come_45 (by decide) (fun cz10 => ?_) (fun cz10 => ?_)
      · refine lv_iinc (v := nI (j + 1)) (lv' := [(5, .int (nI (j + 1))), (0, .ref (q 0)), (1, .int (coM (rbF (hbX pl kd fa fb N) mb K) K gh i)), (2, .int (nI (2 ^ i - 1))), (3, .int (nI i)), (4, .int (cmF (rbF (hbX pl kd fa fb N) mb K) i (coM (rbF (hbX pl kd fa fb N) mb K) K gh i) j))]) hx hb dX1_come_80 hl (k := 5) rfl (nI_1 _) (by decide) rfl (fun ls hl => ?_)
        refine lv_goto (tgt := 24) hx hb dX1_come_83 (by decide) ?_
        exact ih_24 _ (by omega) (by rw [cmF_f (by assumption)]; exact lv_sub hl [1, 2, 3, 4, 5, 0] rfl)
      · refine lv_iload hx hb dX1_come_48 (lv_at hl 4 rfl) ?_
        refine lv_iconst (v := 2) hx hb dX1_come_50 (by decide) ?_
        refine lv_aload_n hx hb dX1_come_51 rfl (lv_at hl 0 rfl) ?_
        refine gM_heapBits hx hb hts hin hown hK hP L35 dX1_come_52 ?_
        refine lv_iload hx hb dX1_come_55 (lv_at hl 5 rfl) ?_
        refine ldM_heapBits (j := j) hx hb hK hP rfl (by omega) dX1_come_57 ?_
        refine lv_iload_n hx hb dX1_come_58 rfl (lv_at hl 1 rfl) ?_
        refine lv_iand hx hb dX1_come_59 ?_
        refine cS (As := [.int (((rbF (hbX pl kd fa fb N) mb K) j) &&& (coM (rbF (hbX pl kd fa fb N) mb K) K gh i))]) hC (kX1_ones (((rbF (hbX pl kd fa fb N) mb K) j) &&& (coM (rbF (hbX pl kd fa fb N) mb K) K gh i)) (sm_and ⟨b1, Nat.lt_of_lt_of_le hb1 (p12 (by omega)), eb⟩ (hsm j (by omega)))) [.int (2), .int (cmF (rbF (hbX pl kd fa fb N) mb K) i (coM (rbF (hbX pl kd fa fb N) mb K) K gh i) j)] (va_cwS 1 hts gX1_come_X1_ones rfl rfl rfl (by decide +kernel) ⟨Nat.le_of_ble_eq_true rfl, Nat.le_of_ble_eq_true rfl⟩) rfl hl.1 rfl (Nat.le_of_ble_eq_true rfl) dX1_come_60 ⟨Nat.zero_le _, Nat.zero_le _⟩ ?_
        refine lv_imul hx hb dX1_come_63 ?_
        refine lv_aload_n hx hb dX1_come_64 rfl (lv_at hl 0 rfl) ?_
        refine gM_heapBits hx hb hts hin hown hK hP L35 dX1_come_65 ?_
        refine lv_iload hx hb dX1_come_68 (lv_at hl 5 rfl) ?_
        refine ldM_heapBits (j := j) hx hb hK hP rfl (by omega) dX1_come_70 ?_
        refine lv_iload_n hx hb dX1_come_71 rfl (lv_at hl 2 rfl) ?_
        refine lv_iand hx hb dX1_come_72 ?_
        refine cS (As := [.int (((rbF (hbX pl kd fa fb N) mb K) j) &&& (nI (2 ^ i - 1)))]) hC (kX1_ones (((rbF (hbX pl kd fa fb N) mb K) j) &&& (nI (2 ^ i - 1))) (sm_and (sm_nI (by have := p12 (n := i) (by omega); omega)) (hsm j (by omega)))) [.int ((2 : Int32) * (bcI (((rbF (hbX pl kd fa fb N) mb K) j) &&& (coM (rbF (hbX pl kd fa fb N) mb K) K gh i)))), .int (cmF (rbF (hbX pl kd fa fb N) mb K) i (coM (rbF (hbX pl kd fa fb N) mb K) K gh i) j)] (va_cwS 1 hts gX1_come_X1_ones rfl rfl rfl (by decide +kernel) ⟨Nat.le_of_ble_eq_true rfl, Nat.le_of_ble_eq_true rfl⟩) rfl hl.1 rfl (Nat.le_of_ble_eq_true rfl) dX1_come_73 ⟨Nat.zero_le _, Nat.zero_le _⟩ ?_
        refine lv_isub hx hb dX1_come_76 ?_
        refine lv_iadd hx hb dX1_come_77 ?_
        refine lv_istore (lv' := [(4, .int ((cmF (rbF (hbX pl kd fa fb N) mb K) i (coM (rbF (hbX pl kd fa fb N) mb K) K gh i) j) + (((2 : Int32) * (bcI (((rbF (hbX pl kd fa fb N) mb K) j) &&& (coM (rbF (hbX pl kd fa fb N) mb K) K gh i)))) - (bcI (((rbF (hbX pl kd fa fb N) mb K) j) &&& (nI (2 ^ i - 1))))))), (0, .ref (q 0)), (1, .int (coM (rbF (hbX pl kd fa fb N) mb K) K gh i)), (2, .int (nI (2 ^ i - 1))), (3, .int (nI i)), (5, .int (nI j))]) hx hb dX1_come_78 hl (by decide) rfl (fun ls hl => ?_)
        refine lv_iinc (v := nI (j + 1)) (lv' := [(5, .int (nI (j + 1))), (4, .int ((cmF (rbF (hbX pl kd fa fb N) mb K) i (coM (rbF (hbX pl kd fa fb N) mb K) K gh i) j) + (((2 : Int32) * (bcI (((rbF (hbX pl kd fa fb N) mb K) j) &&& (coM (rbF (hbX pl kd fa fb N) mb K) K gh i)))) - (bcI (((rbF (hbX pl kd fa fb N) mb K) j) &&& (nI (2 ^ i - 1))))))), (0, .ref (q 0)), (1, .int (coM (rbF (hbX pl kd fa fb N) mb K) K gh i)), (2, .int (nI (2 ^ i - 1))), (3, .int (nI i))]) hx hb dX1_come_80 hl (k := 5) rfl (nI_1 _) (by decide) rfl (fun ls hl => ?_)
        refine lv_goto (tgt := 24) hx hb dX1_come_83 (by decide) ?_
        exact ih_24 _ (by omega) (by rw [cmF_t (by assumption), ← lean_eq2 (hsm j (by omega)) hb1 eb (by omega)]; exact lv_sub hl [2, 3, 4, 5, 1, 0] rfl)

