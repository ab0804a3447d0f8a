set_option maxHeartbeats 4000000 in
set_option maxRecDepth 100000 in
theorem kX1_in {l : Launch}  (z : Int32) (a : Int32) (b : Int32)  : Met l yX1_in wsX1_in { frames := 0, cells := 0, slots := 0, locals := 0 } (fun v _ => v = ([.int z, .int a, .int b] : List Value).toArray) (QcRead (b2 (a ≤ z ∧ z ≤ b))) 0 0 (fun _ => False) := by
  refine mS 3 (by decide) rfl (Nat.le_of_ble_eq_true rfl) ?_
  intro p e s m below meth c hx hb hml hr hlk hts hown ls hl
  have hC := (⟨hx, hb, hml, hown, hts⟩ : CallFix p m c cX1_in 3 s _ wsX1_in RX1)
  have hl : lv_has ls 3 [(0, .int (z)), (1, .int (a)), (2, .int (b))] := hl
  refine lv_iload_n hx hb dX1_in_0 rfl (lv_at hl 0 rfl) ?_
  refine lv_iload_n hx hb dX1_in_1 rfl (lv_at hl 1 rfl) ?_
  refine lv_icmp_lt (tgt := 14) hx hb dX1_in_2 (by decide) (fun cz1 => ?_) (fun cz1 => ?_)
  · refine lv_iconst (v := 0) hx hb dX1_in_14 (by decide) ?_
    exact rZ hx hb hr hlk rfl dX1_in_15 rfl (b2_f (by clear hl hC hts hown hx hb hr hlk hml; first | (simp_all [Int32.not_lt, Int32.not_le]; done) | grind))
  · refine lv_iload_n hx hb dX1_in_5 rfl (lv_at hl 0 rfl) ?_
    refine lv_iload_n hx hb dX1_in_6 rfl (lv_at hl 2 rfl) ?_
    refine lv_icmp_gt (tgt := 14) hx hb dX1_in_7 (by decide) (fun cz2 => ?_) (fun cz2 => ?_)
    · refine lv_iconst (v := 0) hx hb dX1_in_14 (by decide) ?_
      exact rZ hx hb hr hlk rfl dX1_in_15 rfl (b2_f (by clear hl hC hts hown hx hb hr hlk hml; first | (simp_all [Int32.not_lt, Int32.not_le]; done) | grind))
    · refine lv_iconst (v := 1) hx hb dX1_in_10 (by decide) ?_
      refine lv_goto (tgt := 15) hx hb dX1_in_11 (by decide) ?_
      exact rZ hx hb hr hlk rfl dX1_in_15 rfl (b2_t (by clear hl hC hts hown hx hb hr hlk hml; first | (simp_all [Int32.not_lt, Int32.not_le]; done) | grind))

theorem hdX1_isThing : yX1_isThing.cls = RX1 ∧ yX1_isThing.cls ≠ "java/lang/invoke/MethodHandle" ∧ yX1_isThing.cls ≠ "java/lang/invoke/VarHandle" ∧ (parseMethodDescriptor yX1_isThing.desc).map (fun d => d.parameters.length) = some 1 := by decide +kernel
set_option maxHeartbeats 4000000 in
set_option maxRecDepth 100000 in
theorem kX1_isThing {l : Launch} {D : va_G} {cy : ClassId} {H : Heap} {q : Nat → Nat} {ff fm fw : Int32} {ak : Int64} {ta gh kd fa fb sx sy mb co : Nat → Int32} {N K S : Nat}  (hP : va_P D vwCl (wM cy q (nI N) (nI K) (nI S) ff fm fw ak ta gh kd fa fb sx sy mb co) H) (k : Int32) (hN : N ≤ 12) : Met l yX1_isThing wsX1_isThing { frames := 1, cells := 0, slots := 0, locals := 22 } (pcK D cy H [.ref (q 0), .int k]) (QcRead (b2 (0 ≤ k ∧ k < nI N))) 0 0 (fun _ => False) := by
  refine mV 2 (by decide) rfl (Nat.le_of_ble_eq_true rfl) ?_
  intro p e s m below meth c hx hb hml hr hlk hts hown hnm hK hH ls hl
  have hC := (⟨hx, hb, hml, hown, hts⟩ : CallFix p m c cX1_isThing 2 s _ wsX1_isThing RX1)
  have hin : ∀ w ∈ wsX10, w ∈ wsX1_isThing := by decide +kernel
  have L7 : Cond.fieldLink RX1 7 "TwoColoursModel" "n" "I" ∈ wsX1_isThing := by decide +kernel
  have hl : lv_has ls 2 [(0, .ref (q 0)), (1, .int (k))] := hl
  refine lv_iload_n hx hb dX1_isThing_0 rfl (lv_at hl 1 rfl) ?_
  refine lv_iconst (v := 0) hx hb dX1_isThing_1 (by decide) ?_
  refine lv_aload_n hx hb dX1_isThing_2 rfl (lv_at hl 0 rfl) ?_
  refine gM_n hx hb hts hin hown hK hP L7 dX1_isThing_3 ?_
  refine lv_iconst (v := 1) hx hb dX1_isThing_6 (by decide) ?_
  refine lv_isub hx hb dX1_isThing_7 ?_
  refine cS (As := [.int (k), .int (0), .int ((nI N) - ((1 : Int32)))]) hC (kX1_in k 0 ((nI N) - ((1 : Int32))) ) [] (va_cwS 3 hts gX1_isThing_X1_in rfl rfl rfl (by decide +kernel) ⟨Nat.le_of_ble_eq_true rfl, Nat.le_of_ble_eq_true rfl⟩) rfl hl.1 rfl (Nat.le_of_ble_eq_true rfl) dX1_isThing_8 ⟨Nat.zero_le _, Nat.zero_le _⟩ ?_
  exact rZ hx hb hr hlk hH dX1_isThing_11 b2_nar (b2_congr (leP (by omega)))

theorem hdX1_isHeap : yX1_isHeap.cls = RX1 ∧ yX1_isHeap.cls ≠ "java/lang/invoke/MethodHandle" ∧ yX1_isHeap.cls ≠ "java/lang/invoke/VarHandle" ∧ (parseMethodDescriptor yX1_isHeap.desc).map (fun d => d.parameters.length) = some 1 := by decide +kernel
set_option maxHeartbeats 4000000 in
set_option maxRecDepth 100000 in
theorem kX1_isHeap {l : Launch} {D : va_G} {cy : ClassId} {H : Heap} {q : Nat → Nat} {ff fm fw : Int32} {ak : Int64} {ta gh kd fa fb sx sy mb co : Nat → Int32} {N K S : Nat}  (hP : va_P D vwCl (wM cy q (nI N) (nI K) (nI S) ff fm fw ak ta gh kd fa fb sx sy mb co) H) (k : Int32) (hKn : K ≤ 10) : Met l yX1_isHeap wsX1_isHeap { frames := 1, cells := 0, slots := 0, locals := 22 } (pcK D cy H [.ref (q 0), .int k]) (QcRead (b2 (0 ≤ k ∧ k < nI K))) 0 0 (fun _ => False) := by
  refine mV 2 (by decide) rfl (Nat.le_of_ble_eq_true rfl) ?_
  intro p e s m below meth c hx hb hml hr hlk hts hown hnm hK hH ls hl
  have hC := (⟨hx, hb, hml, hown, hts⟩ : CallFix p m c cX1_isHeap 2 s _ wsX1_isHeap RX1)
  have hin : ∀ w ∈ wsX10, w ∈ wsX1_isHeap := by decide +kernel
  have L41 : Cond.fieldLink RX1 41 "TwoColoursModel" "heaps" "I" ∈ wsX1_isHeap := by decide +kernel
  have hl : lv_has ls 2 [(0, .ref (q 0)), (1, .int (k))] := hl
  refine lv_iload_n hx hb dX1_isHeap_0 rfl (lv_at hl 1 rfl) ?_
  refine lv_iconst (v := 0) hx hb dX1_isHeap_1 (by decide) ?_
  refine lv_aload_n hx hb dX1_isHeap_2 rfl (lv_at hl 0 rfl) ?_
  refine gM_heaps hx hb hts hin hown hK hP L41 dX1_isHeap_3 ?_
  refine lv_iconst (v := 1) hx hb dX1_isHeap_6 (by decide) ?_
  refine lv_isub hx hb dX1_isHeap_7 ?_
  refine cS (As := [.int (k), .int (0), .int ((nI K) - ((1 : Int32)))]) hC (kX1_in k 0 ((nI K) - ((1 : Int32))) ) [] (va_cwS 3 hts gX1_isHeap_X1_in rfl rfl rfl (by decide +kernel) ⟨Nat.le_of_ble_eq_true rfl, Nat.le_of_ble_eq_true rfl⟩) rfl hl.1 rfl (Nat.le_of_ble_eq_true rfl) dX1_isHeap_8 ⟨Nat.zero_le _, Nat.zero_le _⟩ ?_
  exact rZ hx hb hr hlk hH dX1_isHeap_11 b2_nar (b2_congr (leP (by omega)))

theorem hdX1_isColouring : yX1_isColouring.cls = RX1 ∧ yX1_isColouring.cls ≠ "java/lang/invoke/MethodHandle" ∧ yX1_isColouring.cls ≠ "java/lang/invoke/VarHandle" ∧ (parseMethodDescriptor yX1_isColouring.desc).map (fun d => d.parameters.length) = some 1 := by decide +kernel
set_option maxHeartbeats 4000000 in
set_option maxRecDepth 100000 in
theorem kX1_isColouring {l : Launch} {D : va_G} {cy : ClassId} {H : Heap} {q : Nat → Nat} {ff fm fw : Int32} {ak : Int64} {ta gh kd fa fb sx sy mb co : Nat → Int32} {N K S : Nat}  (hP : va_P D vwCl (wM cy q (nI N) (nI K) (nI S) ff fm fw ak ta gh kd fa fb sx sy mb co) H) (k : Int32) (hN : N ≤ 12) : Met l yX1_isColouring wsX1_isColouring { frames := 1, cells := 0, slots := 0, locals := 22 } (pcK D cy H [.ref (q 0), .int k]) (QcRead (b2 (0 ≤ k ∧ k < nI (2 ^ N)))) 0 0 (fun _ => False) := by
  refine mV 2 (by decide) rfl (Nat.le_of_ble_eq_true rfl) ?_
  intro p e s m below meth c hx hb hml hr hlk hts hown hnm hK hH ls hl
  have hC := (⟨hx, hb, hml, hown, hts⟩ : CallFix p m c cX1_isColouring 2 s _ wsX1_isColouring RX1)
  have hin : ∀ w ∈ wsX10, w ∈ wsX1_isColouring := by decide +kernel
  have L7 : Cond.fieldLink RX1 7 "TwoColoursModel" "n" "I" ∈ wsX1_isColouring := by decide +kernel
  have hl : lv_has ls 2 [(0, .ref (q 0)), (1, .int (k))] := hl
  have h2N := p2_le hN
  have h2P := p2_pos N
  refine lv_iload_n hx hb dX1_isColouring_0 rfl (lv_at hl 1 rfl) ?_
  refine lv_iconst (v := 0) hx hb dX1_isColouring_1 (by decide) ?_
  refine lv_iconst (v := 1) hx hb dX1_isColouring_2 (by decide) ?_
  refine lv_aload_n hx hb dX1_isColouring_3 rfl (lv_at hl 0 rfl) ?_
  refine gM_n hx hb hts hin hown hK hP L7 dX1_isColouring_4 ?_
  refine lv_ishl hx hb dX1_isColouring_7 ?_
  refine tpI (y := nI (2 ^ N)) (shl1 N (by omega)) ?_
  refine lv_iconst (v := 1) hx hb dX1_isColouring_8 (by decide) ?_
  refine lv_isub hx hb dX1_isColouring_9 ?_
  refine cS (As := [.int (k), .int (0), .int ((nI (2 ^ N)) - ((1 : Int32)))]) hC (kX1_in k 0 ((nI (2 ^ N)) - ((1 : Int32))) ) [] (va_cwS 3 hts gX1_isColouring_X1_in rfl rfl rfl (by decide +kernel) ⟨Nat.le_of_ble_eq_true rfl, Nat.le_of_ble_eq_true rfl⟩) rfl hl.1 rfl (Nat.le_of_ble_eq_true rfl) dX1_isColouring_10 ⟨Nat.zero_le _, Nat.zero_le _⟩ ?_
  exact rZ hx hb hr hlk hH dX1_isColouring_13 b2_nar (b2_congr (leP (by omega)))

theorem hdX1_second : yX1_second.cls = RX1 ∧ yX1_second.cls ≠ "java/lang/invoke/MethodHandle" ∧ yX1_second.cls ≠ "java/lang/invoke/VarHandle" ∧ (parseMethodDescriptor yX1_second.desc).map (fun d => d.parameters.length) = some 1 := by decide +kernel
set_option maxHeartbeats 4000000 in
set_option maxRecDepth 100000 in
theorem kX1_second {l : Launch} {D : va_G} {cy : ClassId} {H : Heap} {q : Nat → Nat} {ff fm fw : Int32} {ak : Int64} {ta gh kd fa fb sx sy mb co : Nat → Int32} {N K S : Nat}  (hP : va_P D vwCl (wM cy q (nI N) (nI K) (nI S) ff fm fw ak ta gh kd fa fb sx sy mb co) H) (k : Int32) (hN : N ≤ 12) : Met l yX1_second wsX1_second { frames := 2, cells := 0, slots := 0, locals := 43 } (pcK D cy H [.ref (q 0), .int k]) (QcRead (if 0 ≤ k ∧ k < nI N then ta (ix k) else -1)) 0 0 (fun _ => False) := by
  refine mV 2 (by decide) rfl (Nat.le_of_ble_eq_true rfl) ?_
  intro p e s m below meth c hx hb hml hr hlk hts hown hnm hK hH ls hl
  have hC := (⟨hx, hb, hml, hown, hts⟩ : CallFix p m c cX1_second 2 s _ wsX1_second RX1)
  have hin : ∀ w ∈ wsX10, w ∈ wsX1_second := by decide +kernel
  have L13 : Cond.fieldLink RX1 13 "TwoColoursModel" "second" "[I" ∈ wsX1_second := by decide +kernel
  have hl : lv_has ls 2 [(0, .ref (q 0)), (1, .int (k))] := hl
  refine lv_aload_n hx hb dX1_second_0 rfl (lv_at hl 0 rfl) ?_
  refine lv_iload_n hx hb dX1_second_1 rfl (lv_at hl 1 rfl) ?_
  refine cV (As := [.int (k)]) hC hK hP rfl rfl (kX1_isThing hP k (by omega)) [] (cwV 1 hts gX1_second_X1_isThing rfl rfl rfl hdX1_isThing ⟨Nat.le_of_ble_eq_true rfl, Nat.le_of_ble_eq_true rfl⟩) rfl hl.1 rfl (Nat.le_of_ble_eq_true rfl) dX1_second_2 ⟨Nat.zero_le _, Nat.zero_le _⟩ ?_
  refine lv_if_eq (tgt := 17) hx hb dX1_second_5 (by decide) (fun cz1 => ?_) (fun cz1 => ?_)
  · have cz1 := b2_0 cz1
    refine lv_iconst (v := (-1)) hx hb dX1_second_17 (by decide) ?_
    exact rI hx hb hr hlk hH dX1_second_18 (by rw [if_neg cz1])
  · have cz1 := b2_1 cz1
    obtain ⟨j, hj, ej⟩ := inN cz1 (by omega)
    subst ej
    refine lv_aload_n hx hb dX1_second_8 rfl (lv_at hl 0 rfl) ?_
    refine gM_second hx hb hts hin hown hK hP L13 dX1_second_9 ?_
    refine lv_iload_n hx hb dX1_second_12 rfl (lv_at hl 1 rfl) ?_
    refine ldM_second (j := j) hx hb hK hP rfl (by omega) dX1_second_13 ?_
    refine lv_goto (tgt := 18) hx hb dX1_second_14 (by decide) ?_
    exact rI hx hb hr hlk hH dX1_second_18 (by rw [if_pos cz1, ix_nI (by omega)])

theorem hdX1_isWell : yX1_isWell.cls = RX1 ∧ yX1_isWell.cls ≠ "java/lang/invoke/MethodHandle" ∧ yX1_isWell.cls ≠ "java/lang/invoke/VarHandle" ∧ (parseMethodDescriptor yX1_isWell.desc).map (fun d => d.parameters.length) = some 3 := by decide +kernel
set_option maxHeartbeats 4000000 in
set_option maxRecDepth 100000 in
theorem kX1_isWell {l : Launch} {D : va_G} {cy : ClassId} {H : Heap} {q : Nat → Nat} {ff fm fw : Int32} {ak : Int64} {ta gh kd fa fb sx sy mb co : Nat → Int32} {N K S : Nat}  (hP : va_P D vwCl (wM cy q (nI N) (nI K) (nI S) ff fm fw ak ta gh kd fa fb sx sy mb co) H) (k : Int32) (a : Int32) (b : Int32) (hN : N ≤ 12) : Met l yX1_isWell wsX1_isWell { frames := 2, cells := 0, slots := 0, locals := 43 } (pcK D cy H [.ref (q 0), .int k, .int a, .int b]) (QcRead (b2 (canX N k a b = true))) 0 0 (fun _ => False) := by
  refine mV 4 (by decide) rfl (Nat.le_of_ble_eq_true rfl) ?_
  intro p e s m below meth c hx hb hml hr hlk hts hown hnm hK hH ls hl
  have hC := (⟨hx, hb, hml, hown, hts⟩ : CallFix p m c cX1_isWell 4 s _ wsX1_isWell RX1)
  have hin : ∀ w ∈ wsX10, w ∈ wsX1_isWell := by decide +kernel
  have L7 : Cond.fieldLink RX1 7 "TwoColoursModel" "n" "I" ∈ wsX1_isWell := by decide +kernel
  have hl : lv_has ls 4 [(0, .ref (q 0)), (1, .int (k)), (2, .int (a)), (3, .int (b))] := hl
  have h2N := p2_le hN
  have h2P := p2_pos N
  refine lv_iload_n hx hb dX1_isWell_0 rfl (lv_at hl 1 rfl) ?_
  refine lv_if_ne (tgt := 18) hx hb dX1_isWell_1 (by decide) (fun cz1 => ?_) (fun cz1 => ?_)
  · refine lv_iload_n hx hb dX1_isWell_18 rfl (lv_at hl 1 rfl) ?_
    refine lv_iconst (v := 1) hx hb dX1_isWell_19 (by decide) ?_
    refine lv_icmp_eq (tgt := 28) hx hb dX1_isWell_20 (by decide) (fun cz2 => ?_) (fun cz2 => ?_)
    · refine lv_aload_n hx hb dX1_isWell_28 rfl (lv_at hl 0 rfl) ?_
      refine lv_iload_n hx hb dX1_isWell_29 rfl (lv_at hl 2 rfl) ?_
      refine cV (As := [.int (a)]) hC hK hP rfl rfl (kX1_isThing hP a (by omega)) [] (cwV 1 hts gX1_isWell_X1_isThing rfl rfl rfl hdX1_isThing ⟨Nat.le_of_ble_eq_true rfl, Nat.le_of_ble_eq_true rfl⟩) rfl hl.1 rfl (Nat.le_of_ble_eq_true rfl) dX1_isWell_30 ⟨Nat.zero_le _, Nat.zero_le _⟩ ?_
      refine lv_if_eq (tgt := 53) hx hb dX1_isWell_33 (by decide) (fun cz3 => ?_) (fun cz3 => ?_)
      · have cz3 := b2_0 cz3
        refine lv_iconst (v := 0) hx hb dX1_isWell_53 (by decide) ?_
        exact rZ hx hb hr hlk hH dX1_isWell_54 rfl (b2_f (by clear hl hC hin hK hP hts hown hnm hx hb hr hlk hml; first | (simp_all [Int32.not_lt, Int32.not_le, canX]; done) | grind [canX]))
      · have cz3 := b2_1 cz3
        refine lv_aload_n hx hb dX1_isWell_36 rfl (lv_at hl 0 rfl) ?_
        refine lv_iload_n hx hb dX1_isWell_37 rfl (lv_at hl 3 rfl) ?_
        refine cV (As := [.int (b)]) hC hK hP rfl rfl (kX1_isThing hP b (by omega)) [] (cwV 1 hts gX1_isWell_X1_isThing rfl rfl rfl hdX1_isThing ⟨Nat.le_of_ble_eq_true rfl, Nat.le_of_ble_eq_true rfl⟩) rfl hl.1 rfl (Nat.le_of_ble_eq_true rfl) dX1_isWell_38 ⟨Nat.zero_le _, Nat.zero_le _⟩ ?_
        refine lv_if_eq (tgt := 53) hx hb dX1_isWell_41 (by decide) (fun cz4 => ?_) (fun cz4 => ?_)
        · have cz4 := b2_0 cz4
          refine lv_iconst (v := 0) hx hb dX1_isWell_53 (by decide) ?_
          exact rZ hx hb hr hlk hH dX1_isWell_54 rfl (b2_f (by clear hl hC hin hK hP hts hown hnm hx hb hr hlk hml; first | (simp_all [Int32.not_lt, Int32.not_le, canX]; done) | grind [canX]))
        · have cz4 := b2_1 cz4
          refine lv_iload_n hx hb dX1_isWell_44 rfl (lv_at hl 2 rfl) ?_
          refine lv_iload_n hx hb dX1_isWell_45 rfl (lv_at hl 3 rfl) ?_
          refine lv_icmp_gt (tgt := 53) hx hb dX1_isWell_46 (by decide) (fun cz5 => ?_) (fun cz5 => ?_)
          · refine lv_iconst (v := 0) hx hb dX1_isWell_53 (by decide) ?_
            exact rZ hx hb hr hlk hH dX1_isWell_54 rfl (b2_f (by clear hl hC hin hK hP hts hown hnm hx hb hr hlk hml; first | (simp_all [Int32.not_lt, Int32.not_le, canX]; done) | grind [canX]))
          · refine lv_iconst (v := 1) hx hb dX1_isWell_49 (by decide) ?_
            refine lv_goto (tgt := 54) hx hb dX1_isWell_50 (by decide) ?_
            exact rZ hx hb hr hlk hH dX1_isWell_54 rfl (b2_t (by clear hl hC hin hK hP hts hown hnm hx hb hr hlk hml; first | (simp_all [Int32.not_lt, Int32.not_le, canX]; done) | grind [canX]))
    · refine lv_iload_n hx hb dX1_isWell_23 rfl (lv_at hl 1 rfl) ?_
      refine lv_iconst (v := 2) hx hb dX1_isWell_24 (by decide) ?_
      refine lv_icmp_ne (tgt := 55) hx hb dX1_isWell_25 (by decide) (fun cz6 => ?_) (fun cz6 => ?_)
      · refine lv_iload_n hx hb dX1_isWell_55 rfl (lv_at hl 1 rfl) ?_
        refine lv_iconst (v := 3) hx hb dX1_isWell_56 (by decide) ?_
        refine lv_icmp_ne (tgt := 82) hx hb dX1_isWell_57 (by decide) (fun cz7 => ?_) (fun cz7 => ?_)
        · refine lv_iconst (v := 0) hx hb dX1_isWell_82 (by decide) ?_
          exact rZ hx hb hr hlk hH dX1_isWell_83 rfl (b2_f (by clear hl hC hin hK hP hts hown hnm hx hb hr hlk hml; first | (simp_all [Int32.not_lt, Int32.not_le, canX]; done) | grind [canX]))
        · refine lv_aload_n hx hb dX1_isWell_60 rfl (lv_at hl 0 rfl) ?_
          refine lv_iload_n hx hb dX1_isWell_61 rfl (lv_at hl 2 rfl) ?_
          refine cV (As := [.int (a)]) hC hK hP rfl rfl (kX1_isThing hP a (by omega)) [] (cwV 1 hts gX1_isWell_X1_isThing rfl rfl rfl hdX1_isThing ⟨Nat.le_of_ble_eq_true rfl, Nat.le_of_ble_eq_true rfl⟩) rfl hl.1 rfl (Nat.le_of_ble_eq_true rfl) dX1_isWell_62 ⟨Nat.zero_le _, Nat.zero_le _⟩ ?_
          refine lv_if_eq (tgt := 82) hx hb dX1_isWell_65 (by decide) (fun cz8 => ?_) (fun cz8 => ?_)
          · have cz8 := b2_0 cz8
            refine lv_iconst (v := 0) hx hb dX1_isWell_82 (by decide) ?_
            exact rZ hx hb hr hlk hH dX1_isWell_83 rfl (b2_f (by clear hl hC hin hK hP hts hown hnm hx hb hr hlk hml; first | (simp_all [Int32.not_lt, Int32.not_le, canX]; done) | grind [canX]))
          · have cz8 := b2_1 cz8
            refine lv_iload_n hx hb dX1_isWell_68 rfl (lv_at hl 3 rfl) ?_
            refine lv_iconst (v := 1) hx hb dX1_isWell_69 (by decide) ?_
            refine lv_bipush (v := 12) hx hb dX1_isWell_70 (by decide) ?_
            refine cS (As := [.int (b), .int (1), .int (12)]) hC (kX1_in b 1 12 ) [] (va_cwS 3 hts gX1_isWell_X1_in rfl rfl rfl (by decide +kernel) ⟨Nat.le_of_ble_eq_true rfl, Nat.le_of_ble_eq_true rfl⟩) rfl hl.1 rfl (Nat.le_of_ble_eq_true rfl) dX1_isWell_72 ⟨Nat.zero_le _, Nat.zero_le _⟩ ?_
            refine lv_if_eq (tgt := 82) hx hb dX1_isWell_75 (by decide) (fun cz9 => ?_) (fun cz9 => ?_)
            · have cz9 := b2_0 cz9
              refine lv_iconst (v := 0) hx hb dX1_isWell_82 (by decide) ?_
              exact rZ hx hb hr hlk hH dX1_isWell_83 rfl (b2_f (by clear hl hC hin hK hP hts hown hnm hx hb hr hlk hml; first | (simp_all [Int32.not_lt, Int32.not_le, canX]; done) | grind [canX]))
            · have cz9 := b2_1 cz9
              refine lv_iconst (v := 1) hx hb dX1_isWell_78 (by decide) ?_
              refine lv_goto (tgt := 83) hx hb dX1_isWell_79 (by decide) ?_
              exact rZ hx hb hr hlk hH dX1_isWell_83 rfl (b2_t (by clear hl hC hin hK hP hts hown hnm hx hb hr hlk hml; first | (simp_all [Int32.not_lt, Int32.not_le, canX]; done) | grind [canX]))
      · refine lv_aload_n hx hb dX1_isWell_28 rfl (lv_at hl 0 rfl) ?_
        refine lv_iload_n hx hb dX1_isWell_29 rfl (lv_at hl 2 rfl) ?_
        refine cV (As := [.int (a)]) hC hK hP rfl rfl (kX1_isThing hP a (by omega)) [] (cwV 1 hts gX1_isWell_X1_isThing rfl rfl rfl hdX1_isThing ⟨Nat.le_of_ble_eq_true rfl, Nat.le_of_ble_eq_true rfl⟩) rfl hl.1 rfl (Nat.le_of_ble_eq_true rfl) dX1_isWell_30 ⟨Nat.zero_le _, Nat.zero_le _⟩ ?_
        refine lv_if_eq (tgt := 53) hx hb dX1_isWell_33 (by decide) (fun cz10 => ?_) (fun cz10 => ?_)
        · have cz10 := b2_0 cz10
          refine lv_iconst (v := 0) hx hb dX1_isWell_53 (by decide) ?_
          exact rZ hx hb hr hlk hH dX1_isWell_54 rfl (b2_f (by clear hl hC hin hK hP hts hown hnm hx hb hr hlk hml; first | (simp_all [Int32.not_lt, Int32.not_le, canX]; done) | grind [canX]))
        · have cz10 := b2_1 cz10
          refine lv_aload_n hx hb dX1_isWell_36 rfl (lv_at hl 0 rfl) ?_
          refine lv_iload_n hx hb dX1_isWell_37 rfl (lv_at hl 3 rfl) ?_
          refine cV (As := [.int (b)]) hC hK hP rfl rfl (kX1_isThing hP b (by omega)) [] (cwV 1 hts gX1_isWell_X1_isThing rfl rfl rfl hdX1_isThing ⟨Nat.le_of_ble_eq_true rfl, Nat.le_of_ble_eq_true rfl⟩) rfl hl.1 rfl (Nat.le_of_ble_eq_true rfl) dX1_isWell_38 ⟨Nat.zero_le _, Nat.zero_le _⟩ ?_
          refine lv_if_eq (tgt := 53) hx hb dX1_isWell_41 (by decide) (fun cz11 => ?_) (fun cz11 => ?_)
          · have cz11 := b2_0 cz11
            refine lv_iconst (v := 0) hx hb dX1_isWell_53 (by decide) ?_
            exact rZ hx hb hr hlk hH dX1_isWell_54 rfl (b2_f (by clear hl hC hin hK hP hts hown hnm hx hb hr hlk hml; first | (simp_all [Int32.not_lt, Int32.not_le, canX]; done) | grind [canX]))
          · have cz11 := b2_1 cz11
            refine lv_iload_n hx hb dX1_isWell_44 rfl (lv_at hl 2 rfl) ?_
            refine lv_iload_n hx hb dX1_isWell_45 rfl (lv_at hl 3 rfl) ?_
            refine lv_icmp_gt (tgt := 53) hx hb dX1_isWell_46 (by decide) (fun cz12 => ?_) (fun cz12 => ?_)
            · refine lv_iconst (v := 0) hx hb dX1_isWell_53 (by decide) ?_
              exact rZ hx hb hr hlk hH dX1_isWell_54 rfl (b2_f (by clear hl hC hin hK hP hts hown hnm hx hb hr hlk hml; first | (simp_all [Int32.not_lt, Int32.not_le, canX]; done) | grind [canX]))
            · refine lv_iconst (v := 1) hx hb dX1_isWell_49 (by decide) ?_
              refine lv_goto (tgt := 54) hx hb dX1_isWell_50 (by decide) ?_
              exact rZ hx hb hr hlk hH dX1_isWell_54 rfl (b2_t (by clear hl hC hin hK hP hts hown hnm hx hb hr hlk hml; first | (simp_all [Int32.not_lt, Int32.not_le, canX]; done) | grind [canX]))
  · refine lv_iload_n hx hb dX1_isWell_4 rfl (lv_at hl 2 rfl) ?_
    refine lv_iconst (v := 0) hx hb dX1_isWell_5 (by decide) ?_
    refine lv_iconst (v := 1) hx hb dX1_isWell_6 (by decide) ?_
    refine lv_aload_n hx hb dX1_isWell_7 rfl (lv_at hl 0 rfl) ?_
    refine gM_n hx hb hts hin hown hK hP L7 dX1_isWell_8 ?_
    refine lv_ishl hx hb dX1_isWell_11 ?_
    refine tpI (y := nI (2 ^ N)) (shl1 N (by omega)) ?_
    refine lv_iconst (v := 1) hx hb dX1_isWell_12 (by decide) ?_
    refine lv_isub hx hb dX1_isWell_13 ?_
    refine cS (As := [.int (a), .int (0), .int ((nI (2 ^ N)) - ((1 : Int32)))]) hC (kX1_in a 0 ((nI (2 ^ N)) - ((1 : Int32))) ) [] (va_cwS 3 hts gX1_isWell_X1_in rfl rfl rfl (by decide +kernel) ⟨Nat.le_of_ble_eq_true rfl, Nat.le_of_ble_eq_true rfl⟩) rfl hl.1 rfl (Nat.le_of_ble_eq_true rfl) dX1_isWell_14 ⟨Nat.zero_le _, Nat.zero_le _⟩ ?_
    exact rZ hx hb hr hlk hH dX1_isWell_17 b2_nar (b2_congr (Iff.trans (leP (by omega)) (by rw [canX, if_pos cz1]; exact decide_eq_true_iff.symm)))

theorem hdX1_placeOf : yX1_placeOf.cls = RX1 ∧ yX1_placeOf.cls ≠ "java/lang/invoke/MethodHandle" ∧ yX1_placeOf.cls ≠ "java/lang/invoke/VarHandle" ∧ (parseMethodDescriptor yX1_placeOf.desc).map (fun d => d.parameters.length) = some 1 := by decide +kernel
set_option maxHeartbeats 4000000 in
set_option maxRecDepth 100000 in
theorem kX1_placeOf {l : Launch} {D : va_G} {cy : ClassId} {H : Heap} {q : Nat → Nat} {ff fm fw : Int32} {ak : Int64} {ta gh kd fa fb sx sy mb co : Nat → Int32} {N K S : Nat}  (hP : va_P D vwCl (wM cy q (nI N) (nI K) (nI S) ff fm fw ak ta gh kd fa fb sx sy mb co) H) (t : Nat) (u : Nat) (hu : u < 12) (h1 : ta u = nI t) (h2 : ∀ j, j < u → ¬ ta j = nI t) : Met l yX1_placeOf wsX1_placeOf { frames := 0, cells := 0, slots := 0, locals := 0 } (pcK D cy H [.ref (q 0), .int (nI t)]) (QcRead (nI u)) 0 0 (fun _ => False) := by
  refine mV 3 (by decide) rfl (Nat.le_of_ble_eq_true rfl) ?_
  intro p e s m below meth c hx hb hml hr hlk hts hown hnm hK hH ls hl
  have hC := (⟨hx, hb, hml, hown, hts⟩ : CallFix p m c cX1_placeOf 3 s _ wsX1_placeOf RX1)
  have hin : ∀ w ∈ wsX10, w ∈ wsX1_placeOf := by decide +kernel
  have L13 : Cond.fieldLink RX1 13 "TwoColoursModel" "second" "[I" ∈ wsX1_placeOf := by decide +kernel
  have hl : lv_has ls 3 [(0, .ref (q 0)), (1, .int (nI t))] := hl
  refine lv_iconst (v := 0) hx hb dX1_placeOf_0 (by decide) ?_
  refine lv_istore_n (lv' := [(2, .int (0)), (0, .ref (q 0)), (1, .int (nI t))]) hx hb dX1_placeOf_1 rfl hl (by decide) rfl (fun ls hl => ?_)
  refine lpP 2 (fun i ls => lv_has ls 3 [(0, .ref (q 0)), (1, .int (nI t)), (2, .int (nI i))]) (u) ?_ (0) ls (by omega) (lv_sub hl [1, 2, 0] rfl)
  intro i ls hi hl ih_2
  refine lv_aload_n hx hb dX1_placeOf_2 rfl (lv_at hl 0 rfl) ?_
  refine gM_second hx hb hts hin hown hK hP L13 dX1_placeOf_3 ?_
  refine lv_iload_n hx hb dX1_placeOf_6 rfl (lv_at hl 2 rfl) ?_
  refine ldM_second (j := i) hx hb hK hP rfl (by omega) dX1_placeOf_7 ?_
  refine lv_iload_n hx hb dX1_placeOf_8 rfl (lv_at hl 1 rfl) ?_
  refine lv_icmp_eq (tgt := 18) hx hb dX1_placeOf_9 (by decide) (fun cz1 => ?_) (fun cz1 => ?_)
  · refine lv_iload_n hx hb dX1_placeOf_18 rfl (lv_at hl 2 rfl) ?_
    exact rI hx hb hr hlk hH dX1_placeOf_19 (by rw [show i = u from Nat.le_antisymm hi (Nat.le_of_not_lt fun h => h2 i h cz1)])
  · have hne : ¬ i = u := fun h => cz1 (by rw [h]; exact h1)
    refine lv_iinc (v := nI (i + 1)) (lv' := [(2, .int (nI (i + 1))), (0, .ref (q 0)), (1, .int (nI t))]) hx hb dX1_placeOf_12 hl (k := 2) rfl (nI_1 _) (by decide) rfl (fun ls hl => ?_)
    refine lv_goto (tgt := 2) hx hb dX1_placeOf_15 (by decide) ?_
    exact ih_2 _ (by omega) (lv_sub hl [1, 2, 0] rfl)

theorem hdX1_holds : yX1_holds.cls = RX1 ∧ yX1_holds.cls ≠ "java/lang/invoke/MethodHandle" ∧ yX1_holds.cls ≠ "java/lang/invoke/VarHandle" ∧ (parseMethodDescriptor yX1_holds.desc).map (fun d => d.parameters.length) = some 2 := by decide +kernel
set_option maxHeartbeats 4000000 in
set_option maxRecDepth 100000 in
theorem kX1_holds {l : Launch} {D : va_G} {cy : ClassId} {H : Heap} {q : Nat → Nat} {ff fm fw : Int32} {ak : Int64} {ta gh kd fa fb sx sy mb co : Nat → Int32} {N K S : Nat} {pl : Nat → Int32} (hP : va_P D vwCl (wM cy q (nI N) (nI K) (nI S) ff fm fw ak ta gh kd fa fb sx sy mb co) H) (j : Nat) (t : Nat) (hN : N ≤ 12) (hKn : K ≤ 10) (hpl : plOk ta pl N) (hw : hpOk kd fa fb N K) (hj : j < K) (ht : t < N) : Met l yX1_holds wsX1_holds { frames := 1, cells := 0, slots := 0, locals := 22 } (pcK D cy H [.ref (q 0), .int (nI j), .int (nI t)]) (QcRead (b2 (belX pl t (kd j) (fa j) (fb j) = true))) 0 0 (fun _ => False) := by
  refine mV 3 (by decide) rfl (Nat.le_of_ble_eq_true rfl) ?_
  intro p e s m below meth c hx hb hml hr hlk hts hown hnm hK hH ls hl
  have hC := (⟨hx, hb, hml, hown, hts⟩ : CallFix p m c cX1_holds 3 s _ wsX1_holds RX1)
  have hin : ∀ w ∈ wsX10, w ∈ wsX1_holds := by decide +kernel
  have L20 : Cond.fieldLink RX1 20 "TwoColoursModel" "kind" "[I" ∈ wsX1_holds := by decide +kernel
  have L23 : Cond.fieldLink RX1 23 "TwoColoursModel" "from" "[I" ∈ wsX1_holds := by decide +kernel
  have L26 : Cond.fieldLink RX1 26 "TwoColoursModel" "to" "[I" ∈ wsX1_holds := by decide +kernel
  have hl : lv_has ls 3 [(0, .ref (q 0)), (1, .int (nI j)), (2, .int (nI t))] := hl
  have hk4 := can_k (hw j hj)
  have hk3 := can_b (hw j hj)
  obtain ⟨u, hu, eu, h1, h2⟩ := hpl t ht
  refine lv_aload_n hx hb dX1_holds_0 rfl (lv_at hl 0 rfl) ?_
  refine gM_kind hx hb hts hin hown hK hP L20 dX1_holds_1 ?_
  refine lv_iload_n hx hb dX1_holds_4 rfl (lv_at hl 1 rfl) ?_
  refine ldM_kind (j := j) hx hb hK hP rfl (by omega) dX1_holds_5 ?_
  by_cases cz1 : kd j = 0
  · refine lv_tableIn (off := 26) (tgt := 32) hx hb dX1_holds_6 (by rw [cz1]; decide) (by rw [cz1]; decide) (by rw [cz1]; decide) (by decide) ?_
    refine lv_aload_n hx hb dX1_holds_32 rfl (lv_at hl 0 rfl) ?_
    refine gM_from hx hb hts hin hown hK hP L23 dX1_holds_33 ?_
    refine lv_iload_n hx hb dX1_holds_36 rfl (lv_at hl 1 rfl) ?_
    refine ldM_from (j := j) hx hb hK hP rfl (by omega) dX1_holds_37 ?_
    refine lv_iload_n hx hb dX1_holds_38 rfl (lv_at hl 2 rfl) ?_
    refine lv_ishr hx hb dX1_holds_39 ?_
    refine lv_iconst (v := 1) hx hb dX1_holds_40 (by decide) ?_
    refine lv_iand hx hb dX1_holds_41 ?_
    refine lv_iconst (v := 1) hx hb dX1_holds_42 (by decide) ?_
    refine lv_icmp_ne (tgt := 50) hx hb dX1_holds_43 (by decide) (fun cz2 => ?_) (fun cz2 => ?_)
    · refine lv_iconst (v := 0) hx hb dX1_holds_50 (by decide) ?_
      exact rZ hx hb hr hlk hH dX1_holds_51 rfl (b2_f (by clear hl hC hin hK hP hts hown hnm hx hb hr hlk hml; first | (simp_all [Int32.not_lt, Int32.not_le, belX, bitI]; done) | grind [belX, bitI]))
    · refine lv_iconst (v := 1) hx hb dX1_holds_46 (by decide) ?_
      refine lv_goto (tgt := 51) hx hb dX1_holds_47 (by decide) ?_
      exact rZ hx hb hr hlk hH dX1_holds_51 rfl (b2_t (by clear hl hC hin hK hP hts hown hnm hx hb hr hlk hml; first | (simp_all [Int32.not_lt, Int32.not_le, belX, bitI]; done) | grind [belX, bitI]))
  by_cases cz3 : kd j = 1
  · refine lv_tableIn (off := 46) (tgt := 52) hx hb dX1_holds_6 (by rw [cz3]; decide) (by rw [cz3]; decide) (by rw [cz3]; decide) (by decide) ?_
    refine lv_iload_n hx hb dX1_holds_52 rfl (lv_at hl 2 rfl) ?_
    refine lv_aload_n hx hb dX1_holds_53 rfl (lv_at hl 0 rfl) ?_
    refine gM_from hx hb hts hin hown hK hP L23 dX1_holds_54 ?_
    refine lv_iload_n hx hb dX1_holds_57 rfl (lv_at hl 1 rfl) ?_
    refine ldM_from (j := j) hx hb hK hP rfl (by omega) dX1_holds_58 ?_
    refine lv_aload_n hx hb dX1_holds_59 rfl (lv_at hl 0 rfl) ?_
    refine gM_to hx hb hts hin hown hK hP L26 dX1_holds_60 ?_
    refine lv_iload_n hx hb dX1_holds_63 rfl (lv_at hl 1 rfl) ?_
    refine ldM_to (j := j) hx hb hK hP rfl (by omega) dX1_holds_64 ?_
    refine cS (As := [.int (nI t), .int (fa j), .int (fb j)]) hC (kX1_in (nI t) (fa j) (fb j) ) [] (va_cwS 3 hts gX1_holds_X1_in rfl rfl rfl (by decide +kernel) ⟨Nat.le_of_ble_eq_true rfl, Nat.le_of_ble_eq_true rfl⟩) rfl hl.1 rfl (Nat.le_of_ble_eq_true rfl) dX1_holds_65 ⟨Nat.zero_le _, Nat.zero_le _⟩ ?_
    exact rZ hx hb hr hlk hH dX1_holds_68 b2_nar (b2_congr (by clear hl hC hin hK hP hts hown hnm hx hb hr hlk hml; first | (simp_all [Int32.not_lt, Int32.not_le, belX, bitI]; done) | grind [belX, bitI]))
  by_cases cz4 : kd j = 2
  · refine lv_tableIn (off := 63) (tgt := 69) hx hb dX1_holds_6 (by rw [cz4]; decide) (by rw [cz4]; decide) (by rw [cz4]; decide) (by decide) ?_
    refine lv_aload_n hx hb dX1_holds_69 rfl (lv_at hl 0 rfl) ?_
    refine lv_iload_n hx hb dX1_holds_70 rfl (lv_at hl 2 rfl) ?_
    refine cV (As := [.int (nI t)]) hC hK hP rfl rfl (kX1_placeOf hP t u hu h1 h2) [] (cwV 1 hts gX1_holds_X1_placeOf rfl rfl rfl hdX1_placeOf ⟨Nat.le_of_ble_eq_true rfl, Nat.le_of_ble_eq_true rfl⟩) rfl hl.1 rfl (Nat.le_of_ble_eq_true rfl) dX1_holds_71 ⟨Nat.zero_le _, Nat.zero_le _⟩ ?_
    refine tpI (y := pl t) eu.symm ?_
    refine lv_aload_n hx hb dX1_holds_74 rfl (lv_at hl 0 rfl) ?_
    refine gM_from hx hb hts hin hown hK hP L23 dX1_holds_75 ?_
    refine lv_iload_n hx hb dX1_holds_78 rfl (lv_at hl 1 rfl) ?_
    refine ldM_from (j := j) hx hb hK hP rfl (by omega) dX1_holds_79 ?_
    refine lv_aload_n hx hb dX1_holds_80 rfl (lv_at hl 0 rfl) ?_
    refine gM_to hx hb hts hin hown hK hP L26 dX1_holds_81 ?_
    refine lv_iload_n hx hb dX1_holds_84 rfl (lv_at hl 1 rfl) ?_
    refine ldM_to (j := j) hx hb hK hP rfl (by omega) dX1_holds_85 ?_
    refine cS (As := [.int (pl t), .int (fa j), .int (fb j)]) hC (kX1_in (pl t) (fa j) (fb j) ) [] (va_cwS 3 hts gX1_holds_X1_in rfl rfl rfl (by decide +kernel) ⟨Nat.le_of_ble_eq_true rfl, Nat.le_of_ble_eq_true rfl⟩) rfl hl.1 rfl (Nat.le_of_ble_eq_true rfl) dX1_holds_86 ⟨Nat.zero_le _, Nat.zero_le _⟩ ?_
    exact rZ hx hb hr hlk hH dX1_holds_89 b2_nar (b2_congr (by clear hl hC hin hK hP hts hown hnm hx hb hr hlk hml; first | (simp_all [Int32.not_lt, Int32.not_le, belX, bitI]; done) | grind [belX, bitI]))
  refine lv_tableOut (tgt := 90) hx hb dX1_holds_6 (by have h0 := lv_neT (a := 0) cz1 (by decide); have h1 := lv_neT (a := 1) cz3 (by decide); have h2 := lv_neT (a := 2) cz4 (by decide); omega) (by decide) ?_
  refine lv_iload_n hx hb dX1_holds_90 rfl (lv_at hl 2 rfl) ?_
  refine lv_aload_n hx hb dX1_holds_91 rfl (lv_at hl 0 rfl) ?_
  refine gM_from hx hb hts hin hown hK hP L23 dX1_holds_92 ?_
  refine lv_iload_n hx hb dX1_holds_95 rfl (lv_at hl 1 rfl) ?_
  refine ldM_from (j := j) hx hb hK hP rfl (by omega) dX1_holds_96 ?_
  refine lv_icmp_lt (tgt := 122) hx hb dX1_holds_97 (by decide) (fun cz5 => ?_) (fun cz5 => ?_)
  · refine lv_iconst (v := 0) hx hb dX1_holds_122 (by decide) ?_
    exact rZ hx hb hr hlk hH dX1_holds_123 rfl (b2_f (by clear hl hC hin hK hP hts hown hnm hx hb hr hlk hml; first | (simp_all [Int32.not_lt, Int32.not_le, belX, bitI]; done) | grind [belX, bitI]))
  · refine lv_iload_n hx hb dX1_holds_100 rfl (lv_at hl 2 rfl) ?_
    refine lv_aload_n hx hb dX1_holds_101 rfl (lv_at hl 0 rfl) ?_
    refine gM_from hx hb hts hin hown hK hP L23 dX1_holds_102 ?_
    refine lv_iload_n hx hb dX1_holds_105 rfl (lv_at hl 1 rfl) ?_
    refine ldM_from (j := j) hx hb hK hP rfl (by omega) dX1_holds_106 ?_
    refine lv_isub hx hb dX1_holds_107 ?_
    refine lv_aload_n hx hb dX1_holds_108 rfl (lv_at hl 0 rfl) ?_
    refine gM_to hx hb hts hin hown hK hP L26 dX1_holds_109 ?_
    refine lv_iload_n hx hb dX1_holds_112 rfl (lv_at hl 1 rfl) ?_
    refine ldM_to (j := j) hx hb hK hP rfl (by omega) dX1_holds_113 ?_
    refine lv_irem hx hb dX1_holds_114 (fun h => by have h5 := hk3 (by simp_all); rw [h] at h5; exact absurd h5 (by decide)) ?_
    refine lv_if_ne (tgt := 122) hx hb dX1_holds_115 (by decide) (fun cz6 => ?_) (fun cz6 => ?_)
    · refine lv_iconst (v := 0) hx hb dX1_holds_122 (by decide) ?_
      exact rZ hx hb hr hlk hH dX1_holds_123 rfl (b2_f (by clear hl hC hin hK hP hts hown hnm hx hb hr hlk hml; first | (simp_all [Int32.not_lt, Int32.not_le, belX, bitI]; done) | grind [belX, bitI]))
    · refine lv_iconst (v := 1) hx hb dX1_holds_118 (by decide) ?_
      refine lv_goto (tgt := 123) hx hb dX1_holds_119 (by decide) ?_
      exact rZ hx hb hr hlk hH dX1_holds_123 rfl (b2_t (by clear hl hC hin hK hP hts hown hnm hx hb hr hlk hml; first | (simp_all [Int32.not_lt, Int32.not_le, belX, bitI]; done) | grind [belX, bitI]))

theorem hdX1_bitsOf : yX1_bitsOf.cls = RX1 ∧ yX1_bitsOf.cls ≠ "java/lang/invoke/MethodHandle" ∧ yX1_bitsOf.cls ≠ "java/lang/invoke/VarHandle" ∧ (parseMethodDescriptor yX1_bitsOf.desc).map (fun d => d.parameters.length) = some 1 := by decide +kernel
set_option maxHeartbeats 4000000 in
set_option maxRecDepth 100000 in
theorem kX1_bitsOf {l : Launch} {D : va_G} {cy : ClassId} {H : Heap} {q : Nat → Nat} {ff fm fw : Int32} {ak : Int64} {ta gh kd fa fb sx sy mb co : Nat → Int32} {N K S : Nat} {pl : Nat → Int32} (hP : va_P D vwCl (wM cy q (nI N) (nI K) (nI S) ff fm fw ak ta gh kd fa fb sx sy mb co) H) (j : Nat) (hN : N ≤ 12) (hKn : K ≤ 10) (hpl : plOk ta pl N) (hw : hpOk kd fa fb N K) (hj : j < K) : Met l yX1_bitsOf wsX1_bitsOf { frames := 2, cells := 0, slots := 0, locals := 44 } (pcK D cy H [.ref (q 0), .int (nI j)]) (QcRead (hbX pl kd fa fb N j)) 0 0 (fun _ => False) := by
  refine mV 4 (by decide) rfl (Nat.le_of_ble_eq_true rfl) ?_
  intro p e s m below meth c hx hb hml hr hlk hts hown hnm hK hH ls hl
  have hC := (⟨hx, hb, hml, hown, hts⟩ : CallFix p m c cX1_bitsOf 4 s _ wsX1_bitsOf RX1)
  have hin : ∀ w ∈ wsX10, w ∈ wsX1_bitsOf := by decide +kernel
  have L7 : Cond.fieldLink RX1 7 "TwoColoursModel" "n" "I" ∈ wsX1_bitsOf := by decide +kernel
  have hl : lv_has ls 4 [(0, .ref (q 0)), (1, .int (nI j))] := hl
  refine lv_iconst (v := 0) hx hb dX1_bitsOf_0 (by decide) ?_
  refine lv_istore_n (lv' := [(2, .int (0)), (0, .ref (q 0)), (1, .int (nI j))]) hx hb dX1_bitsOf_1 rfl hl (by decide) rfl (fun ls hl => ?_)
  refine lv_iconst (v := 0) hx hb dX1_bitsOf_2 (by decide) ?_
  refine lv_istore_n (lv' := [(3, .int (0)), (2, .int (0)), (0, .ref (q 0)), (1, .int (nI j))]) hx hb dX1_bitsOf_3 rfl hl (by decide) rfl (fun ls hl => ?_)
  refine lpP 4 (fun i ls => lv_has ls 4 [(0, .ref (q 0)), (1, .int (nI j)), (2, .int (setF (fun t => belX pl t (kd j) (fa j) (fb j)) i)), (3, .int (nI i))]) (N) ?_ (0) ls (by omega) (lv_sub hl [2, 3, 1, 0] rfl)
  intro i ls hi hl ih_4
  refine lv_iload_n hx hb dX1_bitsOf_4 rfl (lv_at hl 3 rfl) ?_
  refine lv_aload_n hx hb dX1_bitsOf_5 rfl (lv_at hl 0 rfl) ?_
  refine gM_n hx hb hts hin hown hK hP L7 dX1_bitsOf_6 ?_
  refine lv_icmp_ge (tgt := 37) hx hb dX1_bitsOf_9 (by decide) (fun cz1 => ?_) (fun cz1 => ?_)
  · have cz1 : N ≤ i := (nI_leI (a := N) (b := i) (by omega) (by omega)).mp cz1
    refine lv_iload_n hx hb dX1_bitsOf_37 rfl (lv_at hl 2 rfl) ?_
    exact rI hx hb hr hlk hH dX1_bitsOf_38 (by rw [show i = N by omega]; rfl)
  · have cz1 : ¬ N ≤ i := fun h => cz1 ((nI_leI (a := N) (b := i) (by omega) (by omega)).mpr h)
    refine lv_iload_n hx hb dX1_bitsOf_12 rfl (lv_at hl 2 rfl) ?_
    refine lv_aload_n hx hb dX1_bitsOf_13 rfl (lv_at hl 0 rfl) ?_
    refine lv_iload_n hx hb dX1_bitsOf_14 rfl (lv_at hl 1 rfl) ?_
    refine lv_iload_n hx hb dX1_bitsOf_15 rfl (lv_at hl 3 rfl) ?_
    refine cV (As := [.int (nI j), .int (nI i)]) hC hK hP rfl rfl (kX1_holds hP j i hN hKn hpl hw hj (by omega)) [.int (setF (fun t => belX pl t (kd j) (fa j) (fb j)) i)] (cwV 2 hts gX1_bitsOf_X1_holds rfl rfl rfl hdX1_holds ⟨Nat.le_of_ble_eq_true rfl, Nat.le_of_ble_eq_true rfl⟩) rfl hl.1 rfl (Nat.le_of_ble_eq_true rfl) dX1_bitsOf_16 ⟨Nat.zero_le _, Nat.zero_le _⟩ ?_
    refine lv_if_eq (tgt := 28) hx hb dX1_bitsOf_19 (by decide) (fun cz2 => ?_) (fun cz2 => ?_)
    · have cz2 := b2_0 cz2
      refine lv_iconst (v := 0) hx hb dX1_bitsOf_28 (by decide) ?_
      refine lv_ior hx hb dX1_bitsOf_29 ?_
      refine lv_istore_n (lv' := [(2, .int ((setF (fun t => belX pl t (kd j) (fa j) (fb j)) i) ||| ((0 : Int32)))), (0, .ref (q 0)), (1, .int (nI j)), (3, .int (nI i))]) hx hb dX1_bitsOf_30 rfl hl (by decide) rfl (fun ls hl => ?_)
      refine lv_iinc (v := nI (i + 1)) (lv' := [(3, .int (nI (i + 1))), (2, .int ((setF (fun t => belX pl t (kd j) (fa j) (fb j)) i) ||| ((0 : Int32)))), (0, .ref (q 0)), (1, .int (nI j))]) hx hb dX1_bitsOf_31 hl (k := 3) rfl (nI_1 _) (by decide) rfl (fun ls hl => ?_)
      refine lv_goto (tgt := 4) hx hb dX1_bitsOf_34 (by decide) ?_
      exact ih_4 _ (by omega) (by rw [setF_f (by assumption), ← or0 (setF _ i)]; exact lv_sub hl [2, 3, 1, 0] rfl)
    · have cz2 := b2_1 cz2
      refine lv_iconst (v := 1) hx hb dX1_bitsOf_22 (by decide) ?_
      refine lv_iload_n hx hb dX1_bitsOf_23 rfl (lv_at hl 3 rfl) ?_
      refine lv_ishl hx hb dX1_bitsOf_24 ?_
      refine lv_goto (tgt := 29) hx hb dX1_bitsOf_25 (by decide) ?_
      refine lv_ior hx hb dX1_bitsOf_29 ?_
      refine lv_istore_n (lv' := [(2, .int ((setF (fun t => belX pl t (kd j) (fa j) (fb j)) i) ||| ((1 : Int32) <<< ((nI i) &&& 31)))), (0, .ref (q 0)), (1, .int (nI j)), (3, .int (nI i))]) hx hb dX1_bitsOf_30 rfl hl (by decide) rfl (fun ls hl => ?_)
      refine lv_iinc (v := nI (i + 1)) (lv' := [(3, .int (nI (i + 1))), (2, .int ((setF (fun t => belX pl t (kd j) (fa j) (fb j)) i) ||| ((1 : Int32) <<< ((nI i) &&& 31)))), (0, .ref (q 0)), (1, .int (nI j))]) hx hb dX1_bitsOf_31 hl (k := 3) rfl (nI_1 _) (by decide) rfl (fun ls hl => ?_)
      refine lv_goto (tgt := 4) hx hb dX1_bitsOf_34 (by decide) ?_
      exact ih_4 _ (by omega) (by rw [setF_t (by assumption)]; exact lv_sub hl [2, 3, 1, 0] rfl)

theorem hdX1_bits : yX1_bits.cls = RX1 ∧ yX1_bits.cls ≠ "java/lang/invoke/MethodHandle" ∧ yX1_bits.cls ≠ "java/lang/invoke/VarHandle" ∧ (parseMethodDescriptor yX1_bits.desc).map (fun d => d.parameters.length) = some 1 := by decide +kernel
set_option maxHeartbeats 4000000 in
set_option maxRecDepth 100000 in
theorem kX1_bits {l : Launch} {D : va_G} {cy : ClassId} {H : Heap} {q : Nat → Nat} {ff fm fw : Int32} {ak : Int64} {ta gh kd fa fb sx sy mb co : Nat → Int32} {N K S : Nat} {pl : Nat → Int32} (hP : va_P D vwCl (wM cy q (nI N) (nI K) (nI S) ff fm fw ak ta gh kd fa fb sx sy mb co) H) (k : Int32) (hN : N ≤ 12) (hKn : K ≤ 10) (hpl : plOk ta pl N) (hw : hpOk kd fa fb N K) : Met l yX1_bits wsX1_bits { frames := 3, cells := 0, slots := 0, locals := 67 } (pcK D cy H [.ref (q 0), .int k]) (QcRead (if 0 ≤ k ∧ k < nI K then hbX pl kd fa fb N (ix k) else -1)) 0 0 (fun _ => False) := by
  refine mV 2 (by decide) rfl (Nat.le_of_ble_eq_true rfl) ?_
  intro p e s m below meth c hx hb hml hr hlk hts hown hnm hK hH ls hl
  have hC := (⟨hx, hb, hml, hown, hts⟩ : CallFix p m c cX1_bits 2 s _ wsX1_bits RX1)
  have hl : lv_has ls 2 [(0, .ref (q 0)), (1, .int (k))] := hl
  refine lv_aload_n hx hb dX1_bits_0 rfl (lv_at hl 0 rfl) ?_
  refine lv_iload_n hx hb dX1_bits_1 rfl (lv_at hl 1 rfl) ?_
  refine cV (As := [.int (k)]) hC hK hP rfl rfl (kX1_isHeap hP k (by omega)) [] (cwV 1 hts gX1_bits_X1_isHeap rfl rfl rfl hdX1_isHeap ⟨Nat.le_of_ble_eq_true rfl, Nat.le_of_ble_eq_true rfl⟩) rfl hl.1 rfl (Nat.le_of_ble_eq_true rfl) dX1_bits_2 ⟨Nat.zero_le _, Nat.zero_le _⟩ ?_
  refine lv_if_eq (tgt := 16) hx hb dX1_bits_5 (by decide) (fun cz1 => ?_) (fun cz1 => ?_)
  · have cz1 := b2_0 cz1
    refine lv_iconst (v := (-1)) hx hb dX1_bits_16 (by decide) ?_
    exact rI hx hb hr hlk hH dX1_bits_17 (by rw [if_neg cz1])
  · have cz1 := b2_1 cz1
    obtain ⟨j, hj, ej⟩ := inN cz1 (by omega)
    subst ej
    refine lv_aload_n hx hb dX1_bits_8 rfl (lv_at hl 0 rfl) ?_
    refine lv_iload_n hx hb dX1_bits_9 rfl (lv_at hl 1 rfl) ?_
    refine cV (As := [.int (nI j)]) hC hK hP rfl rfl (kX1_bitsOf hP j hN hKn hpl hw hj) [] (cwV 1 hts gX1_bits_X1_bitsOf rfl rfl rfl hdX1_bitsOf ⟨Nat.le_of_ble_eq_true rfl, Nat.le_of_ble_eq_true rfl⟩) rfl hl.1 rfl (Nat.le_of_ble_eq_true rfl) dX1_bits_10 ⟨Nat.zero_le _, Nat.zero_le _⟩ ?_
    refine lv_goto (tgt := 17) hx hb dX1_bits_13 (by decide) ?_
    exact rI hx hb hr hlk hH dX1_bits_17 (by rw [if_pos cz1, ix_nI (by omega)])

set_option maxHeartbeats 4000000 in
set_option maxRecDepth 100000 in
theorem kX1_ones {l : Launch}  (x : Int32) (hx1 : sm x) : Met l yX1_ones wsX1_ones { frames := 0, cells := 0, slots := 0, locals := 0 } (fun v _ => v = ([.int x] : List Value).toArray) (QcRead (bcI x)) 0 0 (fun _ => False) := by
  refine mS 3 (by decide) rfl (Nat.le_of_ble_eq_true rfl) ?_
  intro p e s m below meth c hx hb hml hr hlk hts hown ls hl
  have hC := (⟨hx, hb, hml, hown, hts⟩ : CallFix p m c cX1_ones 3 s _ wsX1_ones RX1)
  have hl : lv_has ls 3 [(0, .int (x))] := hl
  obtain ⟨b0, hb0, eb⟩ := hx1
  subst eb
  refine lv_iconst (v := 0) hx hb dX1_ones_0 (by decide) ?_
  refine lv_istore_n (lv' := [(1, .int (0)), (0, .int (nI b0))]) hx hb dX1_ones_1 rfl hl (by decide) rfl (fun ls hl => ?_)
  refine lv_iload_n hx hb dX1_ones_2 rfl (lv_at hl 1 rfl) ?_
  refine lv_istore_n (lv' := [(2, .int (nI b0)), (1, .int (0)), (0, .int (nI b0))]) hx hb dX1_ones_3 rfl hl (by decide) rfl (fun ls hl => ?_)
  refine lpM (σ := Nat) 4 (fun b1 ls => (b1 < 4096 ∧ pcn b1 ≤ pcn b0) ∧ lv_has ls 3 [(1, .int (nI (pcn b0 - pcn b1))), (2, .int (nI b1))]) (fun z => z) ?_ (b0) ls ⟨⟨hb0, Nat.le_refl _⟩, by rw [Nat.sub_self]; exact lv_sub hl [1, 0] rfl⟩
  intro b1 ls hI ih_4
  obtain ⟨hb1, hl⟩ := hI
  obtain ⟨hb1, hb2⟩ := hb1
  refine lv_iload_n hx hb dX1_ones_4 rfl (lv_at hl 1 rfl) ?_
  refine lv_if_eq (tgt := 20) hx hb dX1_ones_5 (by decide) (fun cz1 => ?_) (fun cz1 => ?_)
  · have cz1 : b1 = 0 := (nI_eq (a := b1) (b := 0) (by omega) (by omega)).mp cz1
    refine lv_iload_n hx hb dX1_ones_20 rfl (lv_at hl 0 rfl) ?_
    exact rI hx hb hr hlk rfl dX1_ones_21 (by rw [show b1 = 0 from cz1, bc_pcn b0 hb0]; rfl)
  · have cz1 : ¬ b1 = 0 := fun h => cz1 ((nI_eq (a := b1) (b := 0) (by omega) (by omega)).mpr h)
    refine lv_iinc (v := nI ((pcn b0 - pcn b1) + 1)) (lv' := [(1, .int (nI ((pcn b0 - pcn b1) + 1))), (2, .int (nI b1))]) hx hb dX1_ones_8 hl (k := 0) rfl (nI_1 _) (by decide) rfl (fun ls hl => ?_)
    refine lv_iload_n hx hb dX1_ones_11 rfl (lv_at hl 1 rfl) ?_
    refine lv_iload_n hx hb dX1_ones_12 rfl (lv_at hl 1 rfl) ?_
    refine lv_iconst (v := 1) hx hb dX1_ones_13 (by decide) ?_
    refine lv_isub hx hb dX1_ones_14 ?_
    refine lv_iand hx hb dX1_ones_15 ?_
    refine tpI (y := nI (b1 &&& (b1 - 1))) (and_pred cz1) ?_
    refine lv_istore_n (lv' := [(2, .int (nI (b1 &&& (b1 - 1)))), (1, .int (nI ((pcn b0 - pcn b1) + 1)))]) hx hb dX1_ones_16 rfl hl (by decide) rfl (fun ls hl => ?_)
    refine lv_goto (tgt := 4) hx hb dX1_ones_17 (by decide) ?_
    exact ih_4 (b1 &&& (b1 - 1)) _ (and_pred_lt cz1) ⟨⟨Nat.lt_of_lt_of_le (and_pred_lt cz1) (by omega), by have := pcn_step b1 hb1 cz1; omega⟩, by rw [show pcn b0 - pcn (b1 &&& (b1 - 1)) = pcn b0 - pcn b1 + 1 by have := pcn_step b1 hb1 cz1; omega]; exact lv_sub hl [1, 0] rfl⟩

set_option maxHeartbeats 4000000 in
set_option maxRecDepth 100000 in
theorem kX1_size {l : Launch}  (x : Int32)  : Met l yX1_size wsX1_size { frames := 0, cells := 0, slots := 0, locals := 0 } (fun v _ => v = ([.int x] : List Value).toArray) (QcRead (absI x)) 0 0 (fun _ => False) := by
  refine mS 1 (by decide) rfl (Nat.le_of_ble_eq_true rfl) ?_
  intro p e s m below meth c hx hb hml hr hlk hts hown ls hl
  have hC := (⟨hx, hb, hml, hown, hts⟩ : CallFix p m c cX1_size 1 s _ wsX1_size RX1)
  have hl : lv_has ls 1 [(0, .int (x))] := hl
  refine lv_iload_n hx hb dX1_size_0 rfl (lv_at hl 0 rfl) ?_
  refine lv_if_ge (tgt := 9) hx hb dX1_size_1 (by decide) (fun cz1 => ?_) (fun cz1 => ?_)
  · refine lv_iload_n hx hb dX1_size_9 rfl (lv_at hl 0 rfl) ?_
    exact rI hx hb hr hlk rfl dX1_size_10 (by rw [absI, if_pos cz1])
  · refine lv_iload_n hx hb dX1_size_4 rfl (lv_at hl 0 rfl) ?_
    refine lv_ineg hx hb dX1_size_5 ?_
    refine lv_goto (tgt := 10) hx hb dX1_size_6 (by decide) ?_
    exact rI hx hb hr hlk rfl dX1_size_10 (by rw [absI, if_neg cz1, Int32.zero_sub])

set_option maxHeartbeats 4000000 in
set_option maxRecDepth 100000 in
theorem kX1_offOf {l : Launch}  (x : Int32) (y : Int32) (hx1 : sm x) (hy1 : sm y) : Met l yX1_offOf wsX1_offOf { frames := 1, cells := 0, slots := 0, locals := 22 } (fun v _ => v = ([.int x, .int y] : List Value).toArray) (QcRead (absI (leanI y x))) 0 0 (fun _ => False) := by
  refine mS 2 (by decide) rfl (Nat.le_of_ble_eq_true rfl) ?_
  intro p e s m below meth c hx hb hml hr hlk hts hown ls hl
  have hC := (⟨hx, hb, hml, hown, hts⟩ : CallFix p m c cX1_offOf 2 s _ wsX1_offOf RX1)
  have hl : lv_has ls 2 [(0, .int (x)), (1, .int (y))] := hl
  refine lv_iconst (v := 2) hx hb dX1_offOf_0 (by decide) ?_
  refine lv_iload_n hx hb dX1_offOf_1 rfl (lv_at hl 0 rfl) ?_
  refine lv_iload_n hx hb dX1_offOf_2 rfl (lv_at hl 1 rfl) ?_
  refine lv_iand hx hb dX1_offOf_3 ?_
  refine cS (As := [.int (x &&& y)]) hC (kX1_ones (x &&& y) (sm_and hy1 hx1)) [.int (2)] (va_cwS 1 hts gX1_offOf_X1_ones rfl rfl rfl (by decide +kernel) ⟨Nat.le_of_ble_eq_true rfl, Nat.le_of_ble_eq_true rfl⟩) rfl hl.1 rfl (Nat.le_of_ble_eq_true rfl) dX1_offOf_4 ⟨Nat.zero_le _, Nat.zero_le _⟩ ?_
  refine lv_imul hx hb dX1_offOf_7 ?_
  refine lv_iload_n hx hb dX1_offOf_8 rfl (lv_at hl 1 rfl) ?_
  refine cS (As := [.int (y)]) hC (kX1_ones y hy1) [.int ((2 : Int32) * (bcI (x &&& y)))] (va_cwS 1 hts gX1_offOf_X1_ones rfl rfl rfl (by decide +kernel) ⟨Nat.le_of_ble_eq_true rfl, Nat.le_of_ble_eq_true rfl⟩) rfl hl.1 rfl (Nat.le_of_ble_eq_true rfl) dX1_offOf_9 ⟨Nat.zero_le _, Nat.zero_le _⟩ ?_
  refine lv_isub hx hb dX1_offOf_12 ?_
  refine cS (As := [.int (((2 : Int32) * (bcI (x &&& y))) - (bcI y))]) hC (kX1_size (((2 : Int32) * (bcI (x &&& y))) - (bcI y)) ) [] (va_cwS 1 hts gX1_offOf_X1_size rfl rfl rfl (by decide +kernel) ⟨Nat.le_of_ble_eq_true rfl, Nat.le_of_ble_eq_true rfl⟩) rfl hl.1 rfl (Nat.le_of_ble_eq_true rfl) dX1_offOf_13 ⟨Nat.zero_le _, Nat.zero_le _⟩ ?_
  exact rI hx hb hr hlk rfl dX1_offOf_16 (by rw [leanI, Int32.and_comm])

theorem hdX1_off : yX1_off.cls = RX1 ∧ yX1_off.cls ≠ "java/lang/invoke/MethodHandle" ∧ yX1_off.cls ≠ "java/lang/invoke/VarHandle" ∧ (parseMethodDescriptor yX1_off.desc).map (fun d => d.parameters.length) = some 2 := by decide +kernel
set_option maxHeartbeats 4000000 in
set_option maxRecDepth 100000 in
theorem kX1_off {l : Launch} {D : va_G} {cy : ClassId} {H : Heap} {q : Nat → Nat} {ff fm fw : Int32} {ak : Int64} {ta gh kd fa fb sx sy mb co : Nat → Int32} {N K S : Nat} {pl : Nat → Int32} (hP : va_P D vwCl (wM cy q (nI N) (nI K) (nI S) ff fm fw ak ta gh kd fa fb sx sy mb co) H) (k : Int32) (h : Int32) (hN : N ≤ 12) (hKn : K ≤ 10) (hpl : plOk ta pl N) (hw : hpOk kd fa fb N K) : Met l yX1_off wsX1_off { frames := 3, cells := 0, slots := 0, locals := 67 } (pcK D cy H [.ref (q 0), .int k, .int h]) (QcRead (if (0 ≤ k ∧ k < nI (2 ^ N)) ∧ (0 ≤ h ∧ h < nI K) then absI (leanI (hbX pl kd fa fb N (ix h)) k) else -1)) 0 0 (fun _ => False) := by
  refine mV 3 (by decide) rfl (Nat.le_of_ble_eq_true rfl) ?_
  intro p e s m below meth c hx hb hml hr hlk hts hown hnm hK hH ls hl
  have hC := (⟨hx, hb, hml, hown, hts⟩ : CallFix p m c cX1_off 3 s _ wsX1_off RX1)
  have hl : lv_has ls 3 [(0, .ref (q 0)), (1, .int (k)), (2, .int (h))] := hl
  refine lv_aload_n hx hb dX1_off_0 rfl (lv_at hl 0 rfl) ?_
  refine lv_iload_n hx hb dX1_off_1 rfl (lv_at hl 1 rfl) ?_
  refine cV (As := [.int (k)]) hC hK hP rfl rfl (kX1_isColouring hP k (by omega)) [] (cwV 1 hts gX1_off_X1_isColouring rfl rfl rfl hdX1_isColouring ⟨Nat.le_of_ble_eq_true rfl, Nat.le_of_ble_eq_true rfl⟩) rfl hl.1 rfl (Nat.le_of_ble_eq_true rfl) dX1_off_2 ⟨Nat.zero_le _, Nat.zero_le _⟩ ?_
  refine lv_if_eq (tgt := 28) hx hb dX1_off_5 (by decide) (fun cz1 => ?_) (fun cz1 => ?_)
  · have cz1 := b2_0 cz1
    refine lv_iconst (v := (-1)) hx hb dX1_off_28 (by decide) ?_
    exact rI hx hb hr hlk hH dX1_off_29 (by rw [if_neg (fun h => cz1 h.1)])
  · have cz1 := b2_1 cz1
    refine lv_aload_n hx hb dX1_off_8 rfl (lv_at hl 0 rfl) ?_
    refine lv_iload_n hx hb dX1_off_9 rfl (lv_at hl 2 rfl) ?_
    refine cV (As := [.int (h)]) hC hK hP rfl rfl (kX1_isHeap hP h (by omega)) [] (cwV 1 hts gX1_off_X1_isHeap rfl rfl rfl hdX1_isHeap ⟨Nat.le_of_ble_eq_true rfl, Nat.le_of_ble_eq_true rfl⟩) rfl hl.1 rfl (Nat.le_of_ble_eq_true rfl) dX1_off_10 ⟨Nat.zero_le _, Nat.zero_le _⟩ ?_
    refine lv_if_eq (tgt := 28) hx hb dX1_off_13 (by decide) (fun cz2 => ?_) (fun cz2 => ?_)
    · have cz2 := b2_0 cz2
      refine lv_iconst (v := (-1)) hx hb dX1_off_28 (by decide) ?_
      exact rI hx hb hr hlk hH dX1_off_29 (by rw [if_neg (fun h => cz2 h.2)])
    · have cz2 := b2_1 cz2
      obtain ⟨j, hj, ej⟩ := inN cz2 (by omega)
      subst ej
      refine lv_iload_n hx hb dX1_off_16 rfl (lv_at hl 1 rfl) ?_
      refine lv_aload_n hx hb dX1_off_17 rfl (lv_at hl 0 rfl) ?_
      refine lv_iload_n hx hb dX1_off_18 rfl (lv_at hl 2 rfl) ?_
      refine cV (As := [.int (nI j)]) hC hK hP rfl rfl (kX1_bitsOf hP j hN hKn hpl hw hj) [.int (k)] (cwV 1 hts gX1_off_X1_bitsOf rfl rfl rfl hdX1_bitsOf ⟨Nat.le_of_ble_eq_true rfl, Nat.le_of_ble_eq_true rfl⟩) rfl hl.1 rfl (Nat.le_of_ble_eq_true rfl) dX1_off_19 ⟨Nat.zero_le _, Nat.zero_le _⟩ ?_
      refine cS (As := [.int (k), .int (hbX pl kd fa fb N j)]) hC (kX1_offOf k (hbX pl kd fa fb N j) (sm_in cz1 (p12 hN)) (hbX_sm hN)) [] (va_cwS 2 hts gX1_off_X1_offOf rfl rfl rfl (by decide +kernel) ⟨Nat.le_of_ble_eq_true rfl, Nat.le_of_ble_eq_true rfl⟩) rfl hl.1 rfl (Nat.le_of_ble_eq_true rfl) dX1_off_22 ⟨Nat.zero_le _, Nat.zero_le _⟩ ?_
      refine lv_goto (tgt := 29) hx hb dX1_off_25 (by decide) ?_
      exact rI hx hb hr hlk hH dX1_off_29 (by rw [if_pos ⟨cz1, cz2⟩, ix_nI (by omega)])

theorem hdX1_worstOf : yX1_worstOf.cls = RX1 ∧ yX1_worstOf.cls ≠ "java/lang/invoke/MethodHandle" ∧ yX1_worstOf.cls ≠ "java/lang/invoke/VarHandle" ∧ (parseMethodDescriptor yX1_worstOf.desc).map (fun d => d.parameters.length) = some 1 := by decide +kernel
set_option maxHeartbeats 4000000 in
set_option maxRecDepth 100000 in
theorem kX1_worstOf {l : Launch} {D : va_G} {cy : ClassId} {H : Heap} {q : Nat → Nat} {ff fm fw : Int32} {ak : Int64} {ta gh kd fa fb sx sy mb co : Nat → Int32} {N K S : Nat}  (hP : va_P D vwCl (wM cy q (nI N) (nI K) (nI S) ff fm fw ak ta gh kd fa fb sx sy mb co) H) (k : Int32) (hKn : K ≤ 10) (hk1 : sm k) (hmb : ∀ h, h < K → sm (mb h)) : Met l yX1_worstOf wsX1_worstOf { frames := 2, cells := 0, slots := 0, locals := 43 } (pcK D cy H [.ref (q 0), .int k]) (QcRead (woF mb k K)) 0 0 (fun _ => False) := by
  refine mV 5 (by decide) rfl (Nat.le_of_ble_eq_true rfl) ?_
  intro p e s m below meth c hx hb hml hr hlk hts hown hnm hK hH ls hl
  have hC := (⟨hx, hb, hml, hown, hts⟩ : CallFix p m c cX1_worstOf 5 s _ wsX1_worstOf RX1)
  have hin : ∀ w ∈ wsX10, w ∈ wsX1_worstOf := by decide +kernel
  have L35 : Cond.fieldLink RX1 35 "TwoColoursModel" "heapBits" "[I" ∈ wsX1_worstOf := by decide +kernel
  have L41 : Cond.fieldLink RX1 41 "TwoColoursModel" "heaps" "I" ∈ wsX1_worstOf := by decide +kernel
  have hl : lv_has ls 5 [(0, .ref (q 0)), (1, .int (k))] := hl
  refine lv_iconst (v := 0) hx hb dX1_worstOf_0 (by decide) ?_
  refine lv_istore_n (lv' := [(2, .int (0)), (0, .ref (q 0)), (1, .int (k))]) hx hb dX1_worstOf_1 rfl hl (by decide) rfl (fun ls hl => ?_)
  refine lv_iconst (v := 0) hx hb dX1_worstOf_2 (by decide) ?_
  refine lv_istore_n (lv' := [(3, .int (0)), (2, .int (0)), (0, .ref (q 0)), (1, .int (k))]) hx hb dX1_worstOf_3 rfl hl (by decide) rfl (fun ls hl => ?_)
  refine lpP 4 (fun i ls => lv_has ls 5 [(0, .ref (q 0)), (1, .int (k)), (2, .int (woF mb k i)), (3, .int (nI i))]) (K) ?_ (0) ls (by omega) (lv_sub hl [2, 3, 1, 0] rfl)
  intro i ls hi hl ih_4
  refine lv_iload_n hx hb dX1_worstOf_4 rfl (lv_at hl 3 rfl) ?_
  refine lv_aload_n hx hb dX1_worstOf_5 rfl (lv_at hl 0 rfl) ?_
  refine gM_heaps hx hb hts hin hown hK hP L41 dX1_worstOf_6 ?_
  refine lv_icmp_ge (tgt := 43) hx hb dX1_worstOf_9 (by decide) (fun cz1 => ?_) (fun cz1 => ?_)
  · have cz1 : K ≤ i := (nI_leI (a := K) (b := i) (by omega) (by omega)).mp cz1
    refine lv_iload_n hx hb dX1_worstOf_43 rfl (lv_at hl 2 rfl) ?_
    exact rI hx hb hr hlk hH dX1_worstOf_44 (by rw [show i = K by omega])
  · have cz1 : ¬ K ≤ i := fun h => cz1 ((nI_leI (a := K) (b := i) (by omega) (by omega)).mpr h)
    refine lv_iload_n hx hb dX1_worstOf_12 rfl (lv_at hl 1 rfl) ?_
    refine lv_aload_n hx hb dX1_worstOf_13 rfl (lv_at hl 0 rfl) ?_
    refine gM_heapBits hx hb hts hin hown hK hP L35 dX1_worstOf_14 ?_
    refine lv_iload_n hx hb dX1_worstOf_17 rfl (lv_at hl 3 rfl) ?_
    refine ldM_heapBits (j := i) hx hb hK hP rfl (by omega) dX1_worstOf_18 ?_
    refine cS (As := [.int (k), .int (mb i)]) hC (kX1_offOf k (mb i) hk1 (hmb i (by omega))) [] (va_cwS 2 hts gX1_worstOf_X1_offOf rfl rfl rfl (by decide +kernel) ⟨Nat.le_of_ble_eq_true rfl, Nat.le_of_ble_eq_true rfl⟩) rfl hl.1 rfl (Nat.le_of_ble_eq_true rfl) dX1_worstOf_19 ⟨Nat.zero_le _, Nat.zero_le _⟩ ?_
    refine lv_istore (lv' := [(4, .int (absI (leanI (mb i) k))), (0, .ref (q 0)), (1, .int (k)), (2, .int (woF mb k i)), (3, .int (nI i))]) hx hb dX1_worstOf_22 hl (by decide) rfl (fun ls hl => ?_)
    refine lv_iload hx hb dX1_worstOf_24 (lv_at hl 0 rfl) ?_
    refine lv_iload_n hx hb dX1_worstOf_26 rfl (lv_at hl 3 rfl) ?_
    refine lv_icmp_le (tgt := 35) hx hb dX1_worstOf_27 (by decide) (fun cz2 => ?_) (fun cz2 => ?_)
    · refine lv_iload_n hx hb dX1_worstOf_35 rfl (lv_at hl 3 rfl) ?_
      refine tpI (y := maxI (woF mb k i) (absI (leanI (mb i) k))) (by rw [maxI, if_neg (Int32.not_lt.mpr cz2)]) ?_
      refine lv_istore_n (lv' := [(2, .int (maxI (woF mb k i) (absI (leanI (mb i) k)))), (4, .int (absI (leanI (mb i) k))), (0, .ref (q 0)), (1, .int (k)), (3, .int (nI i))]) hx hb dX1_worstOf_36 rfl hl (by decide) rfl (fun ls hl => ?_)
      refine lv_iinc (v := nI (i + 1)) (lv' := [(3, .int (nI (i + 1))), (2, .int (maxI (woF mb k i) (absI (leanI (mb i) k)))), (4, .int (absI (leanI (mb i) k))), (0, .ref (q 0)), (1, .int (k))]) hx hb dX1_worstOf_37 hl (k := 4) rfl (nI_1 _) (by decide) rfl (fun ls hl => ?_)
      refine lv_goto (tgt := 4) hx hb dX1_worstOf_40 (by decide) ?_
      exact ih_4 _ (by omega) (lv_sub hl [3, 4, 1, 0] rfl)
    · refine lv_iload hx hb dX1_worstOf_30 (lv_at hl 0 rfl) ?_
      refine lv_goto (tgt := 36) hx hb dX1_worstOf_32 (by decide) ?_
      refine tpI (y := maxI (woF mb k i) (absI (leanI (mb i) k))) (by rw [maxI, if_pos (Int32.not_le.mp cz2)]) ?_
      refine lv_istore_n (lv' := [(2, .int (maxI (woF mb k i) (absI (leanI (mb i) k)))), (4, .int (absI (leanI (mb i) k))), (0, .ref (q 0)), (1, .int (k)), (3, .int (nI i))]) hx hb dX1_worstOf_36 rfl hl (by decide) rfl (fun ls hl => ?_)
      refine lv_iinc (v := nI (i + 1)) (lv' := [(3, .int (nI (i + 1))), (2, .int (maxI (woF mb k i) (absI (leanI (mb i) k)))), (4, .int (absI (leanI (mb i) k))), (0, .ref (q 0)), (1, .int (k))]) hx hb dX1_worstOf_37 hl (k := 4) rfl (nI_1 _) (by decide) rfl (fun ls hl => ?_)
      refine lv_goto (tgt := 4) hx hb dX1_worstOf_40 (by decide) ?_
      exact ih_4 _ (by omega) (lv_sub hl [3, 4, 1, 0] rfl)

theorem hdX1_squaresOf : yX1_squaresOf.cls = RX1 ∧ yX1_squaresOf.cls ≠ "java/lang/invoke/MethodHandle" ∧ yX1_squaresOf.cls ≠ "java/lang/invoke/VarHandle" ∧ (parseMethodDescriptor yX1_squaresOf.desc).map (fun d => d.parameters.length) = some 1 := by decide +kernel
set_option maxHeartbeats 4000000 in
set_option maxRecDepth 100000 in
theorem kX1_squaresOf {l : Launch} {D : va_G} {cy : ClassId} {H : Heap} {q : Nat → Nat} {ff fm fw : Int32} {ak : Int64} {ta gh kd fa fb sx sy mb co : Nat → Int32} {N K S : Nat}  (hP : va_P D vwCl (wM cy q (nI N) (nI K) (nI S) ff fm fw ak ta gh kd fa fb sx sy mb co) H) (k : Int32) (hKn : K ≤ 10) (hk1 : sm k) (hmb : ∀ h, h < K → sm (mb h)) : Met l yX1_squaresOf wsX1_squaresOf { frames := 2, cells := 0, slots := 0, locals := 43 } (pcK D cy H [.ref (q 0), .int k]) (QcRead (sqF mb k K)) 0 0 (fun _ => False) := by
  refine mV 5 (by decide) rfl (Nat.le_of_ble_eq_true rfl) ?_
  intro p e s m below meth c hx hb hml hr hlk hts hown hnm hK hH ls hl
  have hC := (⟨hx, hb, hml, hown, hts⟩ : CallFix p m c cX1_squaresOf 5 s _ wsX1_squaresOf RX1)
  have hin : ∀ w ∈ wsX10, w ∈ wsX1_squaresOf := by decide +kernel
  have L35 : Cond.fieldLink RX1 35 "TwoColoursModel" "heapBits" "[I" ∈ wsX1_squaresOf := by decide +kernel
  have L41 : Cond.fieldLink RX1 41 "TwoColoursModel" "heaps" "I" ∈ wsX1_squaresOf := by decide +kernel
  have hl : lv_has ls 5 [(0, .ref (q 0)), (1, .int (k))] := hl
  refine lv_iconst (v := 0) hx hb dX1_squaresOf_0 (by decide) ?_
  refine lv_istore_n (lv' := [(2, .int (0)), (0, .ref (q 0)), (1, .int (k))]) hx hb dX1_squaresOf_1 rfl hl (by decide) rfl (fun ls hl => ?_)
  refine lv_iconst (v := 0) hx hb dX1_squaresOf_2 (by decide) ?_
  refine lv_istore_n (lv' := [(3, .int (0)), (2, .int (0)), (0, .ref (q 0)), (1, .int (k))]) hx hb dX1_squaresOf_3 rfl hl (by decide) rfl (fun ls hl => ?_)
  refine lpP 4 (fun i ls => lv_has ls 5 [(0, .ref (q 0)), (1, .int (k)), (2, .int (sqF mb k i)), (3, .int (nI i))]) (K) ?_ (0) ls (by omega) (lv_sub hl [2, 3, 1, 0] rfl)
  intro i ls hi hl ih_4
  refine lv_iload_n hx hb dX1_squaresOf_4 rfl (lv_at hl 3 rfl) ?_
  refine lv_aload_n hx hb dX1_squaresOf_5 rfl (lv_at hl 0 rfl) ?_
  refine gM_heaps hx hb hts hin hown hK hP L41 dX1_squaresOf_6 ?_
  refine lv_icmp_ge (tgt := 38) hx hb dX1_squaresOf_9 (by decide) (fun cz1 => ?_) (fun cz1 => ?_)
  · have cz1 : K ≤ i := (nI_leI (a := K) (b := i) (by omega) (by omega)).mp cz1
    refine lv_iload_n hx hb dX1_squaresOf_38 rfl (lv_at hl 2 rfl) ?_
    exact rI hx hb hr hlk hH dX1_squaresOf_39 (by rw [show i = K by omega])
  · have cz1 : ¬ K ≤ i := fun h => cz1 ((nI_leI (a := K) (b := i) (by omega) (by omega)).mpr h)
    refine lv_iload_n hx hb dX1_squaresOf_12 rfl (lv_at hl 1 rfl) ?_
    refine lv_aload_n hx hb dX1_squaresOf_13 rfl (lv_at hl 0 rfl) ?_
    refine gM_heapBits hx hb hts hin hown hK hP L35 dX1_squaresOf_14 ?_
    refine lv_iload_n hx hb dX1_squaresOf_17 rfl (lv_at hl 3 rfl) ?_
    refine ldM_heapBits (j := i) hx hb hK hP rfl (by omega) dX1_squaresOf_18 ?_
    refine cS (As := [.int (k), .int (mb i)]) hC (kX1_offOf k (mb i) hk1 (hmb i (by omega))) [] (va_cwS 2 hts gX1_squaresOf_X1_offOf rfl rfl rfl (by decide +kernel) ⟨Nat.le_of_ble_eq_true rfl, Nat.le_of_ble_eq_true rfl⟩) rfl hl.1 rfl (Nat.le_of_ble_eq_true rfl) dX1_squaresOf_19 ⟨Nat.zero_le _, Nat.zero_le _⟩ ?_
    refine lv_istore (lv' := [(4, .int (absI (leanI (mb i) k))), (0, .ref (q 0)), (1, .int (k)), (2, .int (sqF mb k i)), (3, .int (nI i))]) hx hb dX1_squaresOf_22 hl (by decide) rfl (fun ls hl => ?_)
    refine lv_iload_n hx hb dX1_squaresOf_24 rfl (lv_at hl 3 rfl) ?_
    refine lv_iload hx hb dX1_squaresOf_25 (lv_at hl 0 rfl) ?_
    refine lv_iload hx hb dX1_squaresOf_27 (lv_at hl 0 rfl) ?_
    refine lv_imul hx hb dX1_squaresOf_29 ?_
    refine lv_iadd hx hb dX1_squaresOf_30 ?_
    refine lv_istore_n (lv' := [(2, .int ((sqF mb k i) + ((absI (leanI (mb i) k)) * (absI (leanI (mb i) k))))), (4, .int (absI (leanI (mb i) k))), (0, .ref (q 0)), (1, .int (k)), (3, .int (nI i))]) hx hb dX1_squaresOf_31 rfl hl (by decide) rfl (fun ls hl => ?_)
    refine lv_iinc (v := nI (i + 1)) (lv' := [(3, .int (nI (i + 1))), (2, .int ((sqF mb k i) + ((absI (leanI (mb i) k)) * (absI (leanI (mb i) k))))), (4, .int (absI (leanI (mb i) k))), (0, .ref (q 0)), (1, .int (k))]) hx hb dX1_squaresOf_32 hl (k := 4) rfl (nI_1 _) (by decide) rfl (fun ls hl => ?_)
    refine lv_goto (tgt := 4) hx hb dX1_squaresOf_35 (by decide) ?_
    exact ih_4 _ (by omega) (lv_sub hl [3, 4, 1, 0] rfl)

theorem hdX1_times : yX1_times.cls = RX1 ∧ yX1_times.cls ≠ "java/lang/invoke/MethodHandle" ∧ yX1_times.cls ≠ "java/lang/invoke/VarHandle" ∧ (parseMethodDescriptor yX1_times.desc).map (fun d => d.parameters.length) = some 0 := by decide +kernel
set_option maxHeartbeats 4000000 in
set_option maxRecDepth 100000 in
theorem kX1_times {l : Launch} {D : va_G} {cy : ClassId} {H : Heap} {q : Nat → Nat} {ff fm fw : Int32} {ak : Int64} {ta gh kd fa fb sx sy mb co : Nat → Int32} {N K S : Nat} {pl : Nat → Int32} (hP : va_P D vwCl (wM cy q (nI N) (nI K) (nI S) ff fm fw ak ta gh kd fa fb sx sy mb co) H)  (hN : N ≤ 12) (hKn : K ≤ 10) (hpl : plOk ta pl N) (hw : hpOk kd fa fb N K) : Met l yX1_times wsX1_times { frames := 2, cells := 0, slots := 0, locals := 44 } (pcK D cy H [.ref (q 0)]) (QcRead (tiF (hbX pl kd fa fb N) K N)) 0 0 (fun _ => False) := by
  refine mV 5 (by decide) rfl (Nat.le_of_ble_eq_true rfl) ?_
  intro p e s m below meth c hx hb hml hr hlk hts hown hnm hK hH ls hl
  have hC := (⟨hx, hb, hml, hown, hts⟩ : CallFix p m c cX1_times 5 s _ wsX1_times RX1)
  have hin : ∀ w ∈ wsX10, w ∈ wsX1_times := by decide +kernel
  have L7 : Cond.fieldLink RX1 7 "TwoColoursModel" "n" "I" ∈ wsX1_times := by decide +kernel
  have L41 : Cond.fieldLink RX1 41 "TwoColoursModel" "heaps" "I" ∈ wsX1_times := by decide +kernel
  have hl : lv_has ls 5 [(0, .ref (q 0))] := hl
  refine lv_iconst (v := 0) hx hb dX1_times_0 (by decide) ?_
  refine lv_istore_n (lv' := [(1, .int (0)), (0, .ref (q 0))]) hx hb dX1_times_1 rfl hl (by decide) rfl (fun ls hl => ?_)
  refine lv_iconst (v := 0) hx hb dX1_times_2 (by decide) ?_
  refine lv_istore_n (lv' := [(2, .int (0)), (1, .int (0)), (0, .ref (q 0))]) hx hb dX1_times_3 rfl hl (by decide) rfl (fun ls hl => ?_)
  refine lpP 4 (fun i ls => lv_has ls 5 [(0, .ref (q 0)), (1, .int (tiF (hbX pl kd fa fb N) K i)), (2, .int (nI i))]) (N) ?_ (0) ls (by omega) (lv_sub hl [2, 1, 0] rfl)
  intro i ls hi hl ih_4
  refine lv_iload_n hx hb dX1_times_4 rfl (lv_at hl 2 rfl) ?_
  refine lv_aload_n hx hb dX1_times_5 rfl (lv_at hl 0 rfl) ?_
  refine gM_n hx hb hts hin hown hK hP L7 dX1_times_6 ?_
  refine lv_icmp_ge (tgt := 67) hx hb dX1_times_9 (by decide) (fun cz1 => ?_) (fun cz1 => ?_)
  · have cz1 : N ≤ i := (nI_leI (a := N) (b := i) (by omega) (by omega)).mp cz1
    refine lv_iload_n hx hb dX1_times_67 rfl (lv_at hl 1 rfl) ?_
    exact rI hx hb hr hlk hH dX1_times_68 (by rw [show i = N by omega])
  · have cz1 : ¬ N ≤ i := fun h => cz1 ((nI_leI (a := N) (b := i) (by omega) (by omega)).mpr h)
    refine lv_iconst (v := 0) hx hb dX1_times_12 (by decide) ?_
    refine lv_istore_n (lv' := [(3, .int (0)), (0, .ref (q 0)), (1, .int (tiF (hbX pl kd fa fb N) K i)), (2, .int (nI i))]) hx hb dX1_times_13 rfl hl (by decide) rfl (fun ls hl => ?_)
    refine lv_iconst (v := 0) hx hb dX1_times_14 (by decide) ?_
    refine lv_istore (lv' := [(4, .int (0)), (3, .int (0)), (0, .ref (q 0)), (1, .int (tiF (hbX pl kd fa fb N) K i)), (2, .int (nI i))]) hx hb dX1_times_15 hl (by decide) rfl (fun ls hl => ?_)
    refine lpP 17 (fun j ls => lv_has ls 5 [(0, .ref (q 0)), (1, .int (tiF (hbX pl kd fa fb N) K i)), (2, .int (nI i)), (3, .int (tmF (hbX pl kd fa fb N) (nI i) j)), (4, .int (nI j))]) (K) ?_ (0) ls (by omega) (lv_sub hl [2, 3, 4, 1, 0] rfl)
    intro j ls hj hl ih_17
    refine lv_iload hx hb dX1_times_17 (lv_at hl 4 rfl) ?_
    refine lv_aload_n hx hb dX1_times_19 rfl (lv_at hl 0 rfl) ?_
    refine gM_heaps hx hb hts hin hown hK hP L41 dX1_times_20 ?_
    refine lv_icmp_ge (tgt := 50) hx hb dX1_times_23 (by decide) (fun cz2 => ?_) (fun cz2 => ?_)
    · have cz2 : K ≤ j := (nI_leI (a := K) (b := j) (by omega) (by omega)).mp cz2
      have ej : K = j := by omega
      subst ej
      refine lv_iload_n hx hb dX1_times_50 rfl (lv_at hl 3 rfl) ?_
      refine lv_iload_n hx hb dX1_times_51 rfl (lv_at hl 1 rfl) ?_
      refine lv_icmp_le (tgt := 59) hx hb dX1_times_52 (by decide) (fun cz3 => ?_) (fun cz3 => ?_)
      · refine lv_iload_n hx hb dX1_times_59 rfl (lv_at hl 1 rfl) ?_
        refine tpI (y := maxI (tiF (hbX pl kd fa fb N) K i) (tmF (hbX pl kd fa fb N) (nI i) K)) (by rw [maxI, if_neg (Int32.not_lt.mpr cz3)]) ?_
        refine lv_istore_n (lv' := [(1, .int (maxI (tiF (hbX pl kd fa fb N) K i) (tmF (hbX pl kd fa fb N) (nI i) K))), (0, .ref (q 0)), (2, .int (nI i)), (3, .int (tmF (hbX pl kd fa fb N) (nI i) K)), (4, .int (nI K))]) hx hb dX1_times_60 rfl hl (by decide) rfl (fun ls hl => ?_)
        refine lv_iinc (v := nI (i + 1)) (lv' := [(2, .int (nI (i + 1))), (1, .int (maxI (tiF (hbX pl kd fa fb N) K i) (tmF (hbX pl kd fa fb N) (nI i) K))), (0, .ref (q 0)), (3, .int (tmF (hbX pl kd fa fb N) (nI i) K)), (4, .int (nI K))]) hx hb dX1_times_61 hl (k := 2) rfl (nI_1 _) (by decide) rfl (fun ls hl => ?_)
        refine lv_goto (tgt := 4) hx hb dX1_times_64 (by decide) ?_
        exact ih_4 _ (by omega) (lv_sub hl [2, 1, 0] rfl)
      · refine lv_iload_n hx hb dX1_times_55 rfl (lv_at hl 3 rfl) ?_
        refine lv_goto (tgt := 60) hx hb dX1_times_56 (by decide) ?_
        refine tpI (y := maxI (tiF (hbX pl kd fa fb N) K i) (tmF (hbX pl kd fa fb N) (nI i) K)) (by rw [maxI, if_pos (Int32.not_le.mp cz3)]) ?_
        refine lv_istore_n (lv' := [(1, .int (maxI (tiF (hbX pl kd fa fb N) K i) (tmF (hbX pl kd fa fb N) (nI i) K))), (0, .ref (q 0)), (2, .int (nI i)), (3, .int (tmF (hbX pl kd fa fb N) (nI i) K)), (4, .int (nI K))]) hx hb dX1_times_60 rfl hl (by decide) rfl (fun ls hl => ?_)
        refine lv_iinc (v := nI (i + 1)) (lv' := [(2, .int (nI (i + 1))), (1, .int (maxI (tiF (hbX pl kd fa fb N) K i) (tmF (hbX pl kd fa fb N) (nI i) K))), (0, .ref (q 0)), (3, .int (tmF (hbX pl kd fa fb N) (nI i) K)), (4, .int (nI K))]) hx hb dX1_times_61 hl (k := 2) rfl (nI_1 _) (by decide) rfl (fun ls hl => ?_)
        refine lv_goto (tgt := 4) hx hb dX1_times_64 (by decide) ?_
        exact ih_4 _ (by omega) (lv_sub hl [2, 1, 0] rfl)
    · have cz2 : ¬ K ≤ j := fun h => cz2 ((nI_leI (a := K) (b := j) (by omega) (by omega)).mpr h)
      refine lv_iload_n hx hb dX1_times_26 rfl (lv_at hl 3 rfl) ?_
      refine lv_aload_n hx hb dX1_times_27 rfl (lv_at hl 0 rfl) ?_
      refine lv_iload hx hb dX1_times_28 (lv_at hl 4 rfl) ?_
      refine lv_iload_n hx hb dX1_times_30 rfl (lv_at hl 2 rfl) ?_
      refine cV (As := [.int (nI j), .int (nI i)]) hC hK hP rfl rfl (kX1_holds hP j i hN hKn hpl hw (by omega) (by omega)) [.int (tmF (hbX pl kd fa fb N) (nI i) j)] (cwV 2 hts gX1_times_X1_holds rfl rfl rfl hdX1_holds ⟨Nat.le_of_ble_eq_true rfl, Nat.le_of_ble_eq_true rfl⟩) rfl hl.1 rfl (Nat.le_of_ble_eq_true rfl) dX1_times_31 ⟨Nat.zero_le _, Nat.zero_le _⟩ ?_
      refine lv_if_eq (tgt := 41) hx hb dX1_times_34 (by decide) (fun cz4 => ?_) (fun cz4 => ?_)
      · have cz4 := b2_0 cz4
        refine lv_iconst (v := 0) hx hb dX1_times_41 (by decide) ?_
        refine tpI (y := bitI (hbX pl kd fa fb N j) (nI i)) (hbX_f hN (by omega) (by assumption)) ?_
        refine lv_iadd hx hb dX1_times_42 ?_
        refine lv_istore_n (lv' := [(3, .int ((tmF (hbX pl kd fa fb N) (nI i) j) + (bitI (hbX pl kd fa fb N j) (nI i)))), (0, .ref (q 0)), (1, .int (tiF (hbX pl kd fa fb N) K i)), (2, .int (nI i)), (4, .int (nI j))]) hx hb dX1_times_43 rfl hl (by decide) rfl (fun ls hl => ?_)
        refine lv_iinc (v := nI (j + 1)) (lv' := [(4, .int (nI (j + 1))), (3, .int ((tmF (hbX pl kd fa fb N) (nI i) j) + (bitI (hbX pl kd fa fb N j) (nI i)))), (0, .ref (q 0)), (1, .int (tiF (hbX pl kd fa fb N) K i)), (2, .int (nI i))]) hx hb dX1_times_44 hl (k := 4) rfl (nI_1 _) (by decide) rfl (fun ls hl => ?_)
        refine lv_goto (tgt := 17) hx hb dX1_times_47 (by decide) ?_
        exact ih_17 _ (by omega) (lv_sub hl [2, 3, 4, 1, 0] rfl)
      · have cz4 := b2_1 cz4
        refine lv_iconst (v := 1) hx hb dX1_times_37 (by decide) ?_
        refine lv_goto (tgt := 42) hx hb dX1_times_38 (by decide) ?_
        refine tpI (y := bitI (hbX pl kd fa fb N j) (nI i)) (hbX_t hN (by omega) (by assumption)) ?_
        refine lv_iadd hx hb dX1_times_42 ?_
        refine lv_istore_n (lv' := [(3, .int ((tmF (hbX pl kd fa fb N) (nI i) j) + (bitI (hbX pl kd fa fb N j) (nI i)))), (0, .ref (q 0)), (1, .int (tiF (hbX pl kd fa fb N) K i)), (2, .int (nI i)), (4, .int (nI j))]) hx hb dX1_times_43 rfl hl (by decide) rfl (fun ls hl => ?_)
        refine lv_iinc (v := nI (j + 1)) (lv' := [(4, .int (nI (j + 1))), (3, .int ((tmF (hbX pl kd fa fb N) (nI i) j) + (bitI (hbX pl kd fa fb N j) (nI i)))), (0, .ref (q 0)), (1, .int (tiF (hbX pl kd fa fb N) K i)), (2, .int (nI i))]) hx hb dX1_times_44 hl (k := 4) rfl (nI_1 _) (by decide) rfl (fun ls hl => ?_)
        refine lv_goto (tgt := 17) hx hb dX1_times_47 (by decide) ?_
        exact ih_17 _ (by omega) (lv_sub hl [2, 3, 4, 1, 0] rfl)

theorem hdX1_turns : yX1_turns.cls = RX1 ∧ yX1_turns.cls ≠ "java/lang/invoke/MethodHandle" ∧ yX1_turns.cls ≠ "java/lang/invoke/VarHandle" ∧ (parseMethodDescriptor yX1_turns.desc).map (fun d => d.parameters.length) = some 0 := by decide +kernel
set_option maxHeartbeats 4000000 in
set_option maxRecDepth 100000 in
theorem kX1_turns {l : Launch} {D : va_G} {cy : ClassId} {H : Heap} {q : Nat → Nat} {ff fm fw : Int32} {ak : Int64} {ta gh kd fa fb sx sy mb co : Nat → Int32} {N K S : Nat}  (hP : va_P D vwCl (wM cy q (nI N) (nI K) (nI S) ff fm fw ak ta gh kd fa fb sx sy mb co) H)  (hN : N ≤ 12) : Met l yX1_turns wsX1_turns { frames := 0, cells := 0, slots := 0, locals := 0 } (pcK D cy H [.ref (q 0)]) (QcRead (2730 &&& (nI (2 ^ N) - 1))) 0 0 (fun _ => False) := by
  refine mV 1 (by decide) rfl (Nat.le_of_ble_eq_true rfl) ?_
  intro p e s m below meth c hx hb hml hr hlk hts hown hnm hK hH ls hl
  have hC := (⟨hx, hb, hml, hown, hts⟩ : CallFix p m c cX1_turns 1 s _ wsX1_turns RX1)
  have hin : ∀ w ∈ wsX10, w ∈ wsX1_turns := by decide +kernel
  have L7 : Cond.fieldLink RX1 7 "TwoColoursModel" "n" "I" ∈ wsX1_turns := by decide +kernel
  have hl : lv_has ls 1 [(0, .ref (q 0))] := hl
  refine lv_sipush (v := 2730) hx hb dX1_turns_0 (by decide) ?_
  refine lv_iconst (v := 1) hx hb dX1_turns_3 (by decide) ?_
  refine lv_aload_n hx hb dX1_turns_4 rfl (lv_at hl 0 rfl) ?_
  refine gM_n hx hb hts hin hown hK hP L7 dX1_turns_5 ?_
  refine lv_ishl hx hb dX1_turns_8 ?_
  refine tpI (y := nI (2 ^ N)) (shl1 N (by omega)) ?_
  refine lv_iconst (v := 1) hx hb dX1_turns_9 (by decide) ?_
  refine lv_isub hx hb dX1_turns_10 ?_
  refine lv_iand hx hb dX1_turns_11 ?_
  exact rI hx hb hr hlk hH dX1_turns_12 rfl

