theorem hdX0_isThing : yX0_isThing.cls = RX0 ∧ yX0_isThing.cls ≠ "java/lang/invoke/MethodHandle" ∧ yX0_isThing.cls ≠ "java/lang/invoke/VarHandle" ∧ (parseMethodDescriptor yX0_isThing.desc).map (fun d => d.parameters.length) = some 1 := by decide +kernel
set_option maxHeartbeats 4000000 in
set_option maxRecDepth 100000 in
theorem kX0_isThing {l : Launch} {D : va_G} {cy : ClassId} {H : Heap} {q : Nat → Nat} {gT gC : Int32} {ak : Int64} {ta pl cp kd fa fb bm sx sy : Nat → Int32} {N K S : Nat}  (hP : va_P D vwCl (wX cy q (nI N) gT gC (nI K) (nI S) ak ta pl cp kd fa fb bm sx sy) H) (k : Int32)  : Met l yX0_isThing wsX0_isThing { frames := 0, cells := 0, slots := 0, locals := 0 } (pcK D cy H [.ref (q 0), .int k]) (QcRead (b2 (0 ≤ k ∧ k < nI N))) 0 0 (fun _ => False) := by
  refine mV 2 (by decide) rfl (Nat.le_of_ble_eq_true rfl) ?_
  intro p e s m below meth c hx hb hml hr hlk hts hown hnm hK hH ls hl
  have hC := (⟨hx, hb, hml, hown, hts⟩ : CallFix p m c cX0_isThing 2 s _ wsX0_isThing RX0)
  have hin : ∀ w ∈ wsX00, w ∈ wsX0_isThing := by decide +kernel
  have L7 : Cond.fieldLink RX0 7 "TwoColours" "thingCount" "I" ∈ wsX0_isThing := by decide +kernel
  have hl : lv_has ls 2 [(0, .ref (q 0)), (1, .int (k))] := hl
  refine lv_iload_n hx hb dX0_isThing_0 rfl (lv_at hl 1 rfl) ?_
  refine lv_if_lt (tgt := 16) hx hb dX0_isThing_1 (by decide) (fun cz1 => ?_) (fun cz1 => ?_)
  · refine lv_iconst (v := 0) hx hb dX0_isThing_16 (by decide) ?_
    exact rZ hx hb hr hlk hH dX0_isThing_17 rfl (b2_f (by clear hl hC hin hK hP hts hown hnm hx hb hr hlk hml; first | (simp_all [Int32.not_lt, Int32.not_le]; done) | grind))
  · refine lv_iload_n hx hb dX0_isThing_4 rfl (lv_at hl 1 rfl) ?_
    refine lv_aload_n hx hb dX0_isThing_5 rfl (lv_at hl 0 rfl) ?_
    refine gX_thingCount hx hb hts hin hown hK hP L7 dX0_isThing_6 ?_
    refine lv_icmp_ge (tgt := 16) hx hb dX0_isThing_9 (by decide) (fun cz2 => ?_) (fun cz2 => ?_)
    · refine lv_iconst (v := 0) hx hb dX0_isThing_16 (by decide) ?_
      exact rZ hx hb hr hlk hH dX0_isThing_17 rfl (b2_f (by clear hl hC hin hK hP hts hown hnm hx hb hr hlk hml; first | (simp_all [Int32.not_lt, Int32.not_le]; done) | grind))
    · refine lv_iconst (v := 1) hx hb dX0_isThing_12 (by decide) ?_
      refine lv_goto (tgt := 17) hx hb dX0_isThing_13 (by decide) ?_
      exact rZ hx hb hr hlk hH dX0_isThing_17 rfl (b2_t (by clear hl hC hin hK hP hts hown hnm hx hb hr hlk hml; first | (simp_all [Int32.not_lt, Int32.not_le]; done) | grind))

theorem hdX0_isHeap : yX0_isHeap.cls = RX0 ∧ yX0_isHeap.cls ≠ "java/lang/invoke/MethodHandle" ∧ yX0_isHeap.cls ≠ "java/lang/invoke/VarHandle" ∧ (parseMethodDescriptor yX0_isHeap.desc).map (fun d => d.parameters.length) = some 1 := by decide +kernel
set_option maxHeartbeats 4000000 in
set_option maxRecDepth 100000 in
theorem kX0_isHeap {l : Launch} {D : va_G} {cy : ClassId} {H : Heap} {q : Nat → Nat} {gT gC : Int32} {ak : Int64} {ta pl cp kd fa fb bm sx sy : Nat → Int32} {N K S : Nat}  (hP : va_P D vwCl (wX cy q (nI N) gT gC (nI K) (nI S) ak ta pl cp kd fa fb bm sx sy) H) (k : Int32)  : Met l yX0_isHeap wsX0_isHeap { frames := 0, cells := 0, slots := 0, locals := 0 } (pcK D cy H [.ref (q 0), .int k]) (QcRead (b2 (0 ≤ k ∧ k < nI K))) 0 0 (fun _ => False) := by
  refine mV 2 (by decide) rfl (Nat.le_of_ble_eq_true rfl) ?_
  intro p e s m below meth c hx hb hml hr hlk hts hown hnm hK hH ls hl
  have hC := (⟨hx, hb, hml, hown, hts⟩ : CallFix p m c cX0_isHeap 2 s _ wsX0_isHeap RX0)
  have hin : ∀ w ∈ wsX00, w ∈ wsX0_isHeap := by decide +kernel
  have L29 : Cond.fieldLink RX0 29 "TwoColours" "heapCount" "I" ∈ wsX0_isHeap := by decide +kernel
  have hl : lv_has ls 2 [(0, .ref (q 0)), (1, .int (k))] := hl
  refine lv_iload_n hx hb dX0_isHeap_0 rfl (lv_at hl 1 rfl) ?_
  refine lv_if_lt (tgt := 16) hx hb dX0_isHeap_1 (by decide) (fun cz1 => ?_) (fun cz1 => ?_)
  · refine lv_iconst (v := 0) hx hb dX0_isHeap_16 (by decide) ?_
    exact rZ hx hb hr hlk hH dX0_isHeap_17 rfl (b2_f (by clear hl hC hin hK hP hts hown hnm hx hb hr hlk hml; first | (simp_all [Int32.not_lt, Int32.not_le]; done) | grind))
  · refine lv_iload_n hx hb dX0_isHeap_4 rfl (lv_at hl 1 rfl) ?_
    refine lv_aload_n hx hb dX0_isHeap_5 rfl (lv_at hl 0 rfl) ?_
    refine gX_heapCount hx hb hts hin hown hK hP L29 dX0_isHeap_6 ?_
    refine lv_icmp_ge (tgt := 16) hx hb dX0_isHeap_9 (by decide) (fun cz2 => ?_) (fun cz2 => ?_)
    · refine lv_iconst (v := 0) hx hb dX0_isHeap_16 (by decide) ?_
      exact rZ hx hb hr hlk hH dX0_isHeap_17 rfl (b2_f (by clear hl hC hin hK hP hts hown hnm hx hb hr hlk hml; first | (simp_all [Int32.not_lt, Int32.not_le]; done) | grind))
    · refine lv_iconst (v := 1) hx hb dX0_isHeap_12 (by decide) ?_
      refine lv_goto (tgt := 17) hx hb dX0_isHeap_13 (by decide) ?_
      exact rZ hx hb hr hlk hH dX0_isHeap_17 rfl (b2_t (by clear hl hC hin hK hP hts hown hnm hx hb hr hlk hml; first | (simp_all [Int32.not_lt, Int32.not_le]; done) | grind))

set_option maxHeartbeats 4000000 in
set_option maxRecDepth 100000 in
theorem kX0_bitOf {l : Launch}  (b : Int32) (t : Int32)  : Met l yX0_bitOf wsX0_bitOf { frames := 0, cells := 0, slots := 0, locals := 0 } (fun v _ => v = ([.int b, .int t] : List Value).toArray) (QcRead (bitI b t)) 0 0 (fun _ => False) := by
  refine mS 2 (by decide) rfl (Nat.le_of_ble_eq_true rfl) ?_
  intro p e s m below meth c hx hb hml hr hlk hts hown ls hl
  have hC := (⟨hx, hb, hml, hown, hts⟩ : CallFix p m c cX0_bitOf 2 s _ wsX0_bitOf RX0)
  have hl : lv_has ls 2 [(0, .int (b)), (1, .int (t))] := hl
  refine lv_iload_n hx hb dX0_bitOf_0 rfl (lv_at hl 0 rfl) ?_
  refine lv_iload_n hx hb dX0_bitOf_1 rfl (lv_at hl 1 rfl) ?_
  refine lv_ishr hx hb dX0_bitOf_2 ?_
  refine lv_iconst (v := 1) hx hb dX0_bitOf_3 (by decide) ?_
  refine lv_iand hx hb dX0_bitOf_4 ?_
  exact rI hx hb hr hlk rfl dX0_bitOf_5 rfl

theorem hdX0_isHeld : yX0_isHeld.cls = RX0 ∧ yX0_isHeld.cls ≠ "java/lang/invoke/MethodHandle" ∧ yX0_isHeld.cls ≠ "java/lang/invoke/VarHandle" ∧ (parseMethodDescriptor yX0_isHeld.desc).map (fun d => d.parameters.length) = some 1 := by decide +kernel
set_option maxHeartbeats 4000000 in
set_option maxRecDepth 100000 in
theorem kX0_isHeld {l : Launch} {D : va_G} {cy : ClassId} {H : Heap} {q : Nat → Nat} {gT gC : Int32} {ak : Int64} {ta pl cp kd fa fb bm sx sy : Nat → Int32} {N K S : Nat}  (hP : va_P D vwCl (wX cy q (nI N) gT gC (nI K) (nI S) ak ta pl cp kd fa fb bm sx sy) H) (t : Int32)  : Met l yX0_isHeld wsX0_isHeld { frames := 1, cells := 0, slots := 0, locals := 21 } (pcK D cy H [.ref (q 0), .int t]) (QcRead (b2 (bitI gT t = 1))) 0 0 (fun _ => False) := by
  refine mV 2 (by decide) rfl (Nat.le_of_ble_eq_true rfl) ?_
  intro p e s m below meth c hx hb hml hr hlk hts hown hnm hK hH ls hl
  have hC := (⟨hx, hb, hml, hown, hts⟩ : CallFix p m c cX0_isHeld 2 s _ wsX0_isHeld RX0)
  have hin : ∀ w ∈ wsX00, w ∈ wsX0_isHeld := by decide +kernel
  have L20 : Cond.fieldLink RX0 20 "TwoColours" "heldThings" "I" ∈ wsX0_isHeld := by decide +kernel
  have hl : lv_has ls 2 [(0, .ref (q 0)), (1, .int (t))] := hl
  refine lv_aload_n hx hb dX0_isHeld_0 rfl (lv_at hl 0 rfl) ?_
  refine gX_heldThings hx hb hts hin hown hK hP L20 dX0_isHeld_1 ?_
  refine lv_iload_n hx hb dX0_isHeld_4 rfl (lv_at hl 1 rfl) ?_
  refine cS (As := [.int (gT), .int (t)]) hC (kX0_bitOf gT t ) [] (va_cwS 2 hts gX0_isHeld_X0_bitOf rfl rfl rfl (by decide +kernel) ⟨Nat.le_of_ble_eq_true rfl, Nat.le_of_ble_eq_true rfl⟩) rfl hl.1 rfl (Nat.le_of_ble_eq_true rfl) dX0_isHeld_5 ⟨Nat.zero_le _, Nat.zero_le _⟩ ?_
  refine lv_iconst (v := 1) hx hb dX0_isHeld_8 (by decide) ?_
  refine lv_icmp_ne (tgt := 16) hx hb dX0_isHeld_9 (by decide) (fun cz1 => ?_) (fun cz1 => ?_)
  · refine lv_iconst (v := 0) hx hb dX0_isHeld_16 (by decide) ?_
    exact rZ hx hb hr hlk hH dX0_isHeld_17 rfl (b2_f (by clear hl hC hin hK hP hts hown hnm hx hb hr hlk hml; first | (simp_all [Int32.not_lt, Int32.not_le]; done) | grind))
  · refine lv_iconst (v := 1) hx hb dX0_isHeld_12 (by decide) ?_
    refine lv_goto (tgt := 17) hx hb dX0_isHeld_13 (by decide) ?_
    exact rZ hx hb hr hlk hH dX0_isHeld_17 rfl (b2_t (by clear hl hC hin hK hP hts hown hnm hx hb hr hlk hml; first | (simp_all [Int32.not_lt, Int32.not_le]; done) | grind))

set_option maxHeartbeats 4000000 in
set_option maxRecDepth 100000 in
theorem kX0_isWithin {l : Launch}  (z : Int32) (a : Int32) (b : Int32)  : Met l yX0_isWithin wsX0_isWithin { frames := 0, cells := 0, slots := 0, locals := 0 } (fun v _ => v = ([.int z, .int a, .int b] : List Value).toArray) (QcRead (b2 (a ≤ z ∧ z ≤ b))) 0 0 (fun _ => False) := by
  refine mS 3 (by decide) rfl (Nat.le_of_ble_eq_true rfl) ?_
  intro p e s m below meth c hx hb hml hr hlk hts hown ls hl
  have hC := (⟨hx, hb, hml, hown, hts⟩ : CallFix p m c cX0_isWithin 3 s _ wsX0_isWithin RX0)
  have hl : lv_has ls 3 [(0, .int (z)), (1, .int (a)), (2, .int (b))] := hl
  refine lv_iload_n hx hb dX0_isWithin_0 rfl (lv_at hl 0 rfl) ?_
  refine lv_iload_n hx hb dX0_isWithin_1 rfl (lv_at hl 1 rfl) ?_
  refine lv_icmp_lt (tgt := 14) hx hb dX0_isWithin_2 (by decide) (fun cz1 => ?_) (fun cz1 => ?_)
  · refine lv_iconst (v := 0) hx hb dX0_isWithin_14 (by decide) ?_
    exact rZ hx hb hr hlk rfl dX0_isWithin_15 rfl (b2_f (by clear hl hC hts hown hx hb hr hlk hml; first | (simp_all [Int32.not_lt, Int32.not_le]; done) | grind))
  · refine lv_iload_n hx hb dX0_isWithin_5 rfl (lv_at hl 0 rfl) ?_
    refine lv_iload_n hx hb dX0_isWithin_6 rfl (lv_at hl 2 rfl) ?_
    refine lv_icmp_gt (tgt := 14) hx hb dX0_isWithin_7 (by decide) (fun cz2 => ?_) (fun cz2 => ?_)
    · refine lv_iconst (v := 0) hx hb dX0_isWithin_14 (by decide) ?_
      exact rZ hx hb hr hlk rfl dX0_isWithin_15 rfl (b2_f (by clear hl hC hts hown hx hb hr hlk hml; first | (simp_all [Int32.not_lt, Int32.not_le]; done) | grind))
    · refine lv_iconst (v := 1) hx hb dX0_isWithin_10 (by decide) ?_
      refine lv_goto (tgt := 15) hx hb dX0_isWithin_11 (by decide) ?_
      exact rZ hx hb hr hlk rfl dX0_isWithin_15 rfl (b2_t (by clear hl hC hts hown hx hb hr hlk hml; first | (simp_all [Int32.not_lt, Int32.not_le]; done) | grind))

set_option maxHeartbeats 4000000 in
set_option maxRecDepth 100000 in
theorem kX0_traceOf {l : Launch}  (k : Int32)  : Met l yX0_traceOf wsX0_traceOf { frames := 0, cells := 0, slots := 0, locals := 0 } (fun v _ => v = ([.int k] : List Value).toArray) (QcRead (trI k)) 0 0 (fun _ => False) := by
  refine mS 1 (by decide) rfl (Nat.le_of_ble_eq_true rfl) ?_
  intro p e s m below meth c hx hb hml hr hlk hts hown ls hl
  have hC := (⟨hx, hb, hml, hown, hts⟩ : CallFix p m c cX0_traceOf 1 s _ wsX0_traceOf RX0)
  have hl : lv_has ls 1 [(0, .int (k))] := hl
  refine lv_iload_n hx hb dX0_traceOf_0 rfl (lv_at hl 0 rfl) ?_
  by_cases cz1 : k = 1
  · refine lv_tableIn (off := 27) (tgt := 28) hx hb dX0_traceOf_1 (by rw [cz1]; decide) (by rw [cz1]; decide) (by rw [cz1]; decide) (by decide) ?_
    refine lv_bipush (v := 10) hx hb dX0_traceOf_28 (by decide) ?_
    exact rI hx hb hr hlk rfl dX0_traceOf_30 (by simp_all [trI])
  by_cases cz2 : k = 2
  · refine lv_tableIn (off := 30) (tgt := 31) hx hb dX0_traceOf_1 (by rw [cz2]; decide) (by rw [cz2]; decide) (by rw [cz2]; decide) (by decide) ?_
    refine lv_bipush (v := 110) hx hb dX0_traceOf_31 (by decide) ?_
    exact rI hx hb hr hlk rfl dX0_traceOf_33 (by simp_all [trI])
  by_cases cz3 : k = 3
  · refine lv_tableIn (off := 33) (tgt := 34) hx hb dX0_traceOf_1 (by rw [cz3]; decide) (by rw [cz3]; decide) (by rw [cz3]; decide) (by decide) ?_
    refine lv_sipush (v := 1000) hx hb dX0_traceOf_34 (by decide) ?_
    exact rI hx hb hr hlk rfl dX0_traceOf_37 (by simp_all [trI])
  refine lv_tableOut (tgt := 38) hx hb dX0_traceOf_1 (by have h1 := lv_neT (a := 1) cz1 (by decide); have h2 := lv_neT (a := 2) cz2 (by decide); have h3 := lv_neT (a := 3) cz3 (by decide); omega) (by decide) ?_
  refine lv_iconst (v := 1) hx hb dX0_traceOf_38 (by decide) ?_
  exact rI hx hb hr hlk rfl dX0_traceOf_39 (by simp_all [trI])

theorem hdX0_colouringCount : yX0_colouringCount.cls = RX0 ∧ yX0_colouringCount.cls ≠ "java/lang/invoke/MethodHandle" ∧ yX0_colouringCount.cls ≠ "java/lang/invoke/VarHandle" ∧ (parseMethodDescriptor yX0_colouringCount.desc).map (fun d => d.parameters.length) = some 0 := by decide +kernel
set_option maxHeartbeats 4000000 in
set_option maxRecDepth 100000 in
theorem kX0_colouringCount {l : Launch} {D : va_G} {cy : ClassId} {H : Heap} {q : Nat → Nat} {gT gC : Int32} {ak : Int64} {ta pl cp kd fa fb bm sx sy : Nat → Int32} {N K S : Nat}  (hP : va_P D vwCl (wX cy q (nI N) gT gC (nI K) (nI S) ak ta pl cp kd fa fb bm sx sy) H)  (hN : N ≤ 12) : Met l yX0_colouringCount wsX0_colouringCount { frames := 0, cells := 0, slots := 0, locals := 0 } (pcK D cy H [.ref (q 0)]) (QcRead (nI (2 ^ N))) 0 0 (fun _ => False) := by
  refine mV 1 (by decide) rfl (Nat.le_of_ble_eq_true rfl) ?_
  intro p e s m below meth c hx hb hml hr hlk hts hown hnm hK hH ls hl
  have hC := (⟨hx, hb, hml, hown, hts⟩ : CallFix p m c cX0_colouringCount 1 s _ wsX0_colouringCount RX0)
  have hin : ∀ w ∈ wsX00, w ∈ wsX0_colouringCount := by decide +kernel
  have L7 : Cond.fieldLink RX0 7 "TwoColours" "thingCount" "I" ∈ wsX0_colouringCount := by decide +kernel
  have hl : lv_has ls 1 [(0, .ref (q 0))] := hl
  refine lv_iconst (v := 1) hx hb dX0_colouringCount_0 (by decide) ?_
  refine lv_aload_n hx hb dX0_colouringCount_1 rfl (lv_at hl 0 rfl) ?_
  refine gX_thingCount hx hb hts hin hown hK hP L7 dX0_colouringCount_2 ?_
  refine lv_ishl hx hb dX0_colouringCount_5 ?_
  exact rI hx hb hr hlk hH dX0_colouringCount_6 (shl1 N (by omega))

theorem hdX0_isColouring : yX0_isColouring.cls = RX0 ∧ yX0_isColouring.cls ≠ "java/lang/invoke/MethodHandle" ∧ yX0_isColouring.cls ≠ "java/lang/invoke/VarHandle" ∧ (parseMethodDescriptor yX0_isColouring.desc).map (fun d => d.parameters.length) = some 1 := by decide +kernel
set_option maxHeartbeats 4000000 in
set_option maxRecDepth 100000 in
theorem kX0_isColouring {l : Launch} {D : va_G} {cy : ClassId} {H : Heap} {q : Nat → Nat} {gT gC : Int32} {ak : Int64} {ta pl cp kd fa fb bm sx sy : Nat → Int32} {N K S : Nat}  (hP : va_P D vwCl (wX cy q (nI N) gT gC (nI K) (nI S) ak ta pl cp kd fa fb bm sx sy) H) (k : Int32) (hN : N ≤ 12) : Met l yX0_isColouring wsX0_isColouring { frames := 1, cells := 0, slots := 0, locals := 20 } (pcK D cy H [.ref (q 0), .int k]) (QcRead (b2 (0 ≤ k ∧ k < nI (2 ^ N)))) 0 0 (fun _ => False) := by
  refine mV 2 (by decide) rfl (Nat.le_of_ble_eq_true rfl) ?_
  intro p e s m below meth c hx hb hml hr hlk hts hown hnm hK hH ls hl
  have hC := (⟨hx, hb, hml, hown, hts⟩ : CallFix p m c cX0_isColouring 2 s _ wsX0_isColouring RX0)
  have hl : lv_has ls 2 [(0, .ref (q 0)), (1, .int (k))] := hl
  refine lv_iload_n hx hb dX0_isColouring_0 rfl (lv_at hl 1 rfl) ?_
  refine lv_if_lt (tgt := 16) hx hb dX0_isColouring_1 (by decide) (fun cz1 => ?_) (fun cz1 => ?_)
  · refine lv_iconst (v := 0) hx hb dX0_isColouring_16 (by decide) ?_
    exact rZ hx hb hr hlk hH dX0_isColouring_17 rfl (b2_f (by clear hl hC hK hP hts hown hnm hx hb hr hlk hml; first | (simp_all [Int32.not_lt, Int32.not_le]; done) | grind))
  · refine lv_iload_n hx hb dX0_isColouring_4 rfl (lv_at hl 1 rfl) ?_
    refine lv_aload_n hx hb dX0_isColouring_5 rfl (lv_at hl 0 rfl) ?_
    refine cV (As := []) hC hK hP rfl rfl (kX0_colouringCount hP  (by omega)) [.int (k)] (cwV 0 hts gX0_isColouring_X0_colouringCount rfl rfl rfl hdX0_colouringCount ⟨Nat.le_of_ble_eq_true rfl, Nat.le_of_ble_eq_true rfl⟩) rfl hl.1 rfl (Nat.le_of_ble_eq_true rfl) dX0_isColouring_6 ⟨Nat.zero_le _, Nat.zero_le _⟩ ?_
    refine lv_icmp_ge (tgt := 16) hx hb dX0_isColouring_9 (by decide) (fun cz2 => ?_) (fun cz2 => ?_)
    · refine lv_iconst (v := 0) hx hb dX0_isColouring_16 (by decide) ?_
      exact rZ hx hb hr hlk hH dX0_isColouring_17 rfl (b2_f (by clear hl hC hK hP hts hown hnm hx hb hr hlk hml; first | (simp_all [Int32.not_lt, Int32.not_le]; done) | grind))
    · refine lv_iconst (v := 1) hx hb dX0_isColouring_12 (by decide) ?_
      refine lv_goto (tgt := 17) hx hb dX0_isColouring_13 (by decide) ?_
      exact rZ hx hb hr hlk hH dX0_isColouring_17 rfl (b2_t (by clear hl hC hK hP hts hown hnm hx hb hr hlk hml; first | (simp_all [Int32.not_lt, Int32.not_le]; done) | grind))

theorem hdX0_keepsToHeld : yX0_keepsToHeld.cls = RX0 ∧ yX0_keepsToHeld.cls ≠ "java/lang/invoke/MethodHandle" ∧ yX0_keepsToHeld.cls ≠ "java/lang/invoke/VarHandle" ∧ (parseMethodDescriptor yX0_keepsToHeld.desc).map (fun d => d.parameters.length) = some 1 := by decide +kernel
set_option maxHeartbeats 4000000 in
set_option maxRecDepth 100000 in
theorem kX0_keepsToHeld {l : Launch} {D : va_G} {cy : ClassId} {H : Heap} {q : Nat → Nat} {gT gC : Int32} {ak : Int64} {ta pl cp kd fa fb bm sx sy : Nat → Int32} {N K S : Nat}  (hP : va_P D vwCl (wX cy q (nI N) gT gC (nI K) (nI S) ak ta pl cp kd fa fb bm sx sy) H) (k : Int32)  : Met l yX0_keepsToHeld wsX0_keepsToHeld { frames := 0, cells := 0, slots := 0, locals := 0 } (pcK D cy H [.ref (q 0), .int k]) (QcRead (b2 (k &&& gT = gC))) 0 0 (fun _ => False) := by
  refine mV 2 (by decide) rfl (Nat.le_of_ble_eq_true rfl) ?_
  intro p e s m below meth c hx hb hml hr hlk hts hown hnm hK hH ls hl
  have hC := (⟨hx, hb, hml, hown, hts⟩ : CallFix p m c cX0_keepsToHeld 2 s _ wsX0_keepsToHeld RX0)
  have hin : ∀ w ∈ wsX00, w ∈ wsX0_keepsToHeld := by decide +kernel
  have L20 : Cond.fieldLink RX0 20 "TwoColours" "heldThings" "I" ∈ wsX0_keepsToHeld := by decide +kernel
  have L23 : Cond.fieldLink RX0 23 "TwoColours" "heldColours" "I" ∈ wsX0_keepsToHeld := by decide +kernel
  have hl : lv_has ls 2 [(0, .ref (q 0)), (1, .int (k))] := hl
  refine lv_iload_n hx hb dX0_keepsToHeld_0 rfl (lv_at hl 1 rfl) ?_
  refine lv_aload_n hx hb dX0_keepsToHeld_1 rfl (lv_at hl 0 rfl) ?_
  refine gX_heldThings hx hb hts hin hown hK hP L20 dX0_keepsToHeld_2 ?_
  refine lv_iand hx hb dX0_keepsToHeld_5 ?_
  refine lv_aload_n hx hb dX0_keepsToHeld_6 rfl (lv_at hl 0 rfl) ?_
  refine gX_heldColours hx hb hts hin hown hK hP L23 dX0_keepsToHeld_7 ?_
  refine lv_icmp_ne (tgt := 17) hx hb dX0_keepsToHeld_10 (by decide) (fun cz1 => ?_) (fun cz1 => ?_)
  · refine lv_iconst (v := 0) hx hb dX0_keepsToHeld_17 (by decide) ?_
    exact rZ hx hb hr hlk hH dX0_keepsToHeld_18 rfl (b2_f (by clear hl hC hin hK hP hts hown hnm hx hb hr hlk hml; first | (simp_all [Int32.not_lt, Int32.not_le]; done) | grind))
  · refine lv_iconst (v := 1) hx hb dX0_keepsToHeld_13 (by decide) ?_
    refine lv_goto (tgt := 18) hx hb dX0_keepsToHeld_14 (by decide) ?_
    exact rZ hx hb hr hlk hH dX0_keepsToHeld_18 rfl (b2_t (by clear hl hC hin hK hP hts hown hnm hx hb hr hlk hml; first | (simp_all [Int32.not_lt, Int32.not_le]; done) | grind))

theorem hdX0_belongs : yX0_belongs.cls = RX0 ∧ yX0_belongs.cls ≠ "java/lang/invoke/MethodHandle" ∧ yX0_belongs.cls ≠ "java/lang/invoke/VarHandle" ∧ (parseMethodDescriptor yX0_belongs.desc).map (fun d => d.parameters.length) = some 4 := by decide +kernel
set_option maxHeartbeats 4000000 in
set_option maxRecDepth 100000 in
theorem kX0_belongs {l : Launch} {D : va_G} {cy : ClassId} {H : Heap} {q : Nat → Nat} {gT gC : Int32} {ak : Int64} {ta pl cp kd fa fb bm sx sy : Nat → Int32} {N K S : Nat}  (hP : va_P D vwCl (wX cy q (nI N) gT gC (nI K) (nI S) ak ta pl cp kd fa fb bm sx sy) H) (t : Nat) (k : Int32) (a : Int32) (b : Int32) (ht : t < 12) : Met l yX0_belongs wsX0_belongs { frames := 1, cells := 0, slots := 0, locals := 22 } (pcK D cy H [.ref (q 0), .int (nI t), .int k, .int a, .int b]) (QcRead (b2 (belX pl t k a b = true))) 0 0 (fun _ => False) := by
  refine mV 5 (by decide) rfl (Nat.le_of_ble_eq_true rfl) ?_
  intro p e s m below meth c hx hb hml hr hlk hts hown hnm hK hH ls hl
  have hC := (⟨hx, hb, hml, hown, hts⟩ : CallFix p m c cX0_belongs 5 s _ wsX0_belongs RX0)
  have hin : ∀ w ∈ wsX00, w ∈ wsX0_belongs := by decide +kernel
  have L17 : Cond.fieldLink RX0 17 "TwoColours" "placeOf" "[I" ∈ wsX0_belongs := by decide +kernel
  have hl : lv_has ls 5 [(0, .ref (q 0)), (1, .int (nI t)), (2, .int (k)), (3, .int (a)), (4, .int (b))] := hl
  refine lv_iload_n hx hb dX0_belongs_0 rfl (lv_at hl 2 rfl) ?_
  by_cases cz1 : k = 1
  · refine lv_tableIn (off := 27) (tgt := 28) hx hb dX0_belongs_1 (by rw [cz1]; decide) (by rw [cz1]; decide) (by rw [cz1]; decide) (by decide) ?_
    refine lv_iload_n hx hb dX0_belongs_28 rfl (lv_at hl 1 rfl) ?_
    refine lv_iload_n hx hb dX0_belongs_29 rfl (lv_at hl 3 rfl) ?_
    refine lv_iload hx hb dX0_belongs_30 (lv_at hl 4 rfl) ?_
    refine cS (As := [.int (nI t), .int (a), .int (b)]) hC (kX0_isWithin (nI t) a b ) [] (va_cwS 3 hts gX0_belongs_X0_isWithin rfl rfl rfl (by decide +kernel) ⟨Nat.le_of_ble_eq_true rfl, Nat.le_of_ble_eq_true rfl⟩) rfl hl.1 rfl (Nat.le_of_ble_eq_true rfl) dX0_belongs_32 ⟨Nat.zero_le _, Nat.zero_le _⟩ ?_
    exact rZ hx hb hr hlk hH dX0_belongs_35 b2_nar (b2_congr (by clear hl hC hin hK hP hts hown hnm hx hb hr hlk hml; first | (simp_all [Int32.not_lt, Int32.not_le, belX]; done) | grind [belX]))
  by_cases cz2 : k = 2
  · refine lv_tableIn (off := 35) (tgt := 36) hx hb dX0_belongs_1 (by rw [cz2]; decide) (by rw [cz2]; decide) (by rw [cz2]; decide) (by decide) ?_
    refine lv_aload_n hx hb dX0_belongs_36 rfl (lv_at hl 0 rfl) ?_
    refine gX_placeOf hx hb hts hin hown hK hP L17 dX0_belongs_37 ?_
    refine lv_iload_n hx hb dX0_belongs_40 rfl (lv_at hl 1 rfl) ?_
    refine ldX_placeOf (j := t) hx hb hK hP rfl (by omega) dX0_belongs_41 ?_
    refine lv_iload_n hx hb dX0_belongs_42 rfl (lv_at hl 3 rfl) ?_
    refine lv_iload hx hb dX0_belongs_43 (lv_at hl 4 rfl) ?_
    refine cS (As := [.int (pl t), .int (a), .int (b)]) hC (kX0_isWithin (pl t) a b ) [] (va_cwS 3 hts gX0_belongs_X0_isWithin rfl rfl rfl (by decide +kernel) ⟨Nat.le_of_ble_eq_true rfl, Nat.le_of_ble_eq_true rfl⟩) rfl hl.1 rfl (Nat.le_of_ble_eq_true rfl) dX0_belongs_45 ⟨Nat.zero_le _, Nat.zero_le _⟩ ?_
    exact rZ hx hb hr hlk hH dX0_belongs_48 b2_nar (b2_congr (by clear hl hC hin hK hP hts hown hnm hx hb hr hlk hml; first | (simp_all [Int32.not_lt, Int32.not_le, belX]; done) | grind [belX]))
  by_cases cz3 : k = 3
  · refine lv_tableIn (off := 48) (tgt := 49) hx hb dX0_belongs_1 (by rw [cz3]; decide) (by rw [cz3]; decide) (by rw [cz3]; decide) (by decide) ?_
    refine lv_iload_n hx hb dX0_belongs_49 rfl (lv_at hl 1 rfl) ?_
    refine lv_iload_n hx hb dX0_belongs_50 rfl (lv_at hl 3 rfl) ?_
    refine lv_icmp_lt (tgt := 72) hx hb dX0_belongs_51 (by decide) (fun cz4 => ?_) (fun cz4 => ?_)
    · refine lv_iconst (v := 0) hx hb dX0_belongs_72 (by decide) ?_
      exact rZ hx hb hr hlk hH dX0_belongs_73 rfl (b2_f (by clear hl hC hin hK hP hts hown hnm hx hb hr hlk hml; first | (simp_all [Int32.not_lt, Int32.not_le, belX]; done) | grind [belX]))
    · refine lv_iload hx hb dX0_belongs_54 (lv_at hl 4 rfl) ?_
      refine lv_if_le (tgt := 72) hx hb dX0_belongs_56 (by decide) (fun cz5 => ?_) (fun cz5 => ?_)
      · refine lv_iconst (v := 0) hx hb dX0_belongs_72 (by decide) ?_
        exact rZ hx hb hr hlk hH dX0_belongs_73 rfl (b2_f (by clear hl hC hin hK hP hts hown hnm hx hb hr hlk hml; first | (simp_all [Int32.not_lt, Int32.not_le, belX]; done) | grind [belX]))
      · refine lv_iload_n hx hb dX0_belongs_59 rfl (lv_at hl 1 rfl) ?_
        refine lv_iload_n hx hb dX0_belongs_60 rfl (lv_at hl 3 rfl) ?_
        refine lv_isub hx hb dX0_belongs_61 ?_
        refine lv_iload hx hb dX0_belongs_62 (lv_at hl 4 rfl) ?_
        refine lv_irem hx hb dX0_belongs_64 (fun h => by rw [h] at cz5; exact absurd (by decide) cz5) ?_
        refine lv_if_ne (tgt := 72) hx hb dX0_belongs_65 (by decide) (fun cz6 => ?_) (fun cz6 => ?_)
        · refine lv_iconst (v := 0) hx hb dX0_belongs_72 (by decide) ?_
          exact rZ hx hb hr hlk hH dX0_belongs_73 rfl (b2_f (by clear hl hC hin hK hP hts hown hnm hx hb hr hlk hml; first | (simp_all [Int32.not_lt, Int32.not_le, belX]; done) | grind [belX]))
        · refine lv_iconst (v := 1) hx hb dX0_belongs_68 (by decide) ?_
          refine lv_goto (tgt := 73) hx hb dX0_belongs_69 (by decide) ?_
          exact rZ hx hb hr hlk hH dX0_belongs_73 rfl (b2_t (by clear hl hC hin hK hP hts hown hnm hx hb hr hlk hml; first | (simp_all [Int32.not_lt, Int32.not_le, belX]; done) | grind [belX]))
  refine lv_tableOut (tgt := 74) hx hb dX0_belongs_1 (by have h1 := lv_neT (a := 1) cz1 (by decide); have h2 := lv_neT (a := 2) cz2 (by decide); have h3 := lv_neT (a := 3) cz3 (by decide); omega) (by decide) ?_
  refine lv_iload_n hx hb dX0_belongs_74 rfl (lv_at hl 3 rfl) ?_
  refine lv_iload_n hx hb dX0_belongs_75 rfl (lv_at hl 1 rfl) ?_
  refine cS (As := [.int (a), .int (nI t)]) hC (kX0_bitOf a (nI t) ) [] (va_cwS 2 hts gX0_belongs_X0_bitOf rfl rfl rfl (by decide +kernel) ⟨Nat.le_of_ble_eq_true rfl, Nat.le_of_ble_eq_true rfl⟩) rfl hl.1 rfl (Nat.le_of_ble_eq_true rfl) dX0_belongs_76 ⟨Nat.zero_le _, Nat.zero_le _⟩ ?_
  refine lv_iconst (v := 1) hx hb dX0_belongs_79 (by decide) ?_
  refine lv_icmp_ne (tgt := 87) hx hb dX0_belongs_80 (by decide) (fun cz7 => ?_) (fun cz7 => ?_)
  · refine lv_iconst (v := 0) hx hb dX0_belongs_87 (by decide) ?_
    exact rZ hx hb hr hlk hH dX0_belongs_88 rfl (b2_f (by clear hl hC hin hK hP hts hown hnm hx hb hr hlk hml; first | (simp_all [Int32.not_lt, Int32.not_le, belX]; done) | grind [belX]))
  · refine lv_iconst (v := 1) hx hb dX0_belongs_83 (by decide) ?_
    refine lv_goto (tgt := 88) hx hb dX0_belongs_84 (by decide) ?_
    exact rZ hx hb hr hlk hH dX0_belongs_88 rfl (b2_t (by clear hl hC hin hK hP hts hown hnm hx hb hr hlk hml; first | (simp_all [Int32.not_lt, Int32.not_le, belX]; done) | grind [belX]))

theorem hdX0_thingsOf : yX0_thingsOf.cls = RX0 ∧ yX0_thingsOf.cls ≠ "java/lang/invoke/MethodHandle" ∧ yX0_thingsOf.cls ≠ "java/lang/invoke/VarHandle" ∧ (parseMethodDescriptor yX0_thingsOf.desc).map (fun d => d.parameters.length) = some 3 := by decide +kernel
set_option maxHeartbeats 4000000 in
set_option maxRecDepth 100000 in
theorem kX0_thingsOf {l : Launch} {D : va_G} {cy : ClassId} {H : Heap} {q : Nat → Nat} {gT gC : Int32} {ak : Int64} {ta pl cp kd fa fb bm sx sy : Nat → Int32} {N K S : Nat}  (hP : va_P D vwCl (wX cy q (nI N) gT gC (nI K) (nI S) ak ta pl cp kd fa fb bm sx sy) H) (k : Int32) (a : Int32) (b : Int32) (hN : N ≤ 12) : Met l yX0_thingsOf wsX0_thingsOf { frames := 2, cells := 0, slots := 0, locals := 46 } (pcK D cy H [.ref (q 0), .int k, .int a, .int b]) (QcRead (setF (fun t => belX pl t k a b) N)) 0 0 (fun _ => False) := by
  refine mV 6 (by decide) rfl (Nat.le_of_ble_eq_true rfl) ?_
  intro p e s m below meth c hx hb hml hr hlk hts hown hnm hK hH ls hl
  have hC := (⟨hx, hb, hml, hown, hts⟩ : CallFix p m c cX0_thingsOf 6 s _ wsX0_thingsOf RX0)
  have hin : ∀ w ∈ wsX00, w ∈ wsX0_thingsOf := by decide +kernel
  have L7 : Cond.fieldLink RX0 7 "TwoColours" "thingCount" "I" ∈ wsX0_thingsOf := by decide +kernel
  have hl : lv_has ls 6 [(0, .ref (q 0)), (1, .int (k)), (2, .int (a)), (3, .int (b))] := hl
  refine lv_iconst (v := 0) hx hb dX0_thingsOf_0 (by decide) ?_
  refine lv_istore (lv' := [(4, .int (0)), (0, .ref (q 0)), (1, .int (k)), (2, .int (a)), (3, .int (b))]) hx hb dX0_thingsOf_1 hl (by decide) rfl (fun ls hl => ?_)
  refine lv_iconst (v := 0) hx hb dX0_thingsOf_3 (by decide) ?_
  refine lv_istore (lv' := [(5, .int (0)), (4, .int (0)), (0, .ref (q 0)), (1, .int (k)), (2, .int (a)), (3, .int (b))]) hx hb dX0_thingsOf_4 hl (by decide) rfl (fun ls hl => ?_)
  refine lpP 6 (fun i ls => lv_has ls 6 [(0, .ref (q 0)), (1, .int (k)), (2, .int (a)), (3, .int (b)), (4, .int (setF (fun t => belX pl t k a b) i)), (5, .int (nI i))]) (N) ?_ (0) ls (by omega) (lv_sub hl [2, 3, 4, 5, 1, 0] rfl)
  intro i ls hi hl ih_6
  refine lv_iload hx hb dX0_thingsOf_6 (lv_at hl 5 rfl) ?_
  refine lv_aload_n hx hb dX0_thingsOf_8 rfl (lv_at hl 0 rfl) ?_
  refine gX_thingCount hx hb hts hin hown hK hP L7 dX0_thingsOf_9 ?_
  refine lv_icmp_ge (tgt := 42) hx hb dX0_thingsOf_12 (by decide) (fun cz1 => ?_) (fun cz1 => ?_)
  · have cz1 : N ≤ i := (nI_leI (a := N) (b := i) (by omega) (by omega)).mp cz1
    refine lv_iload hx hb dX0_thingsOf_42 (lv_at hl 4 rfl) ?_
    exact rI hx hb hr hlk hH dX0_thingsOf_44 (by rw [show i = N by omega])
  · have cz1 : ¬ N ≤ i := fun h => cz1 ((nI_leI (a := N) (b := i) (by omega) (by omega)).mpr h)
    refine lv_aload_n hx hb dX0_thingsOf_15 rfl (lv_at hl 0 rfl) ?_
    refine lv_iload hx hb dX0_thingsOf_16 (lv_at hl 5 rfl) ?_
    refine lv_iload_n hx hb dX0_thingsOf_18 rfl (lv_at hl 1 rfl) ?_
    refine lv_iload_n hx hb dX0_thingsOf_19 rfl (lv_at hl 2 rfl) ?_
    refine lv_iload_n hx hb dX0_thingsOf_20 rfl (lv_at hl 3 rfl) ?_
    refine cV (As := [.int (nI i), .int (k), .int (a), .int (b)]) hC hK hP rfl rfl (kX0_belongs hP i k a b (by omega)) [] (cwV 4 hts gX0_thingsOf_X0_belongs rfl rfl rfl hdX0_belongs ⟨Nat.le_of_ble_eq_true rfl, Nat.le_of_ble_eq_true rfl⟩) rfl hl.1 rfl (Nat.le_of_ble_eq_true rfl) dX0_thingsOf_21 ⟨Nat.zero_le _, Nat.zero_le _⟩ ?_
    refine lv_if_eq (tgt := 36) hx hb dX0_thingsOf_24 (by decide) (fun cz2 => ?_) (fun cz2 => ?_)
    · have cz2 := b2_0 cz2
      refine lv_iinc (v := nI (i + 1)) (lv' := [(5, .int (nI (i + 1))), (0, .ref (q 0)), (1, .int (k)), (2, .int (a)), (3, .int (b)), (4, .int (setF (fun t => belX pl t k a b) i))]) hx hb dX0_thingsOf_36 hl (k := 5) rfl (nI_1 _) (by decide) rfl (fun ls hl => ?_)
      refine lv_goto (tgt := 6) hx hb dX0_thingsOf_39 (by decide) ?_
      exact ih_6 _ (by omega) (by rw [setF_f (by assumption)]; exact lv_sub hl [1, 2, 3, 4, 5, 0] rfl)
    · have cz2 := b2_1 cz2
      refine lv_iload hx hb dX0_thingsOf_27 (lv_at hl 4 rfl) ?_
      refine lv_iconst (v := 1) hx hb dX0_thingsOf_29 (by decide) ?_
      refine lv_iload hx hb dX0_thingsOf_30 (lv_at hl 5 rfl) ?_
      refine lv_ishl hx hb dX0_thingsOf_32 ?_
      refine lv_ior hx hb dX0_thingsOf_33 ?_
      refine lv_istore (lv' := [(4, .int ((setF (fun t => belX pl t k a b) i) ||| ((1 : Int32) <<< ((nI i) &&& 31)))), (0, .ref (q 0)), (1, .int (k)), (2, .int (a)), (3, .int (b)), (5, .int (nI i))]) hx hb dX0_thingsOf_34 hl (by decide) rfl (fun ls hl => ?_)
      refine lv_iinc (v := nI (i + 1)) (lv' := [(5, .int (nI (i + 1))), (4, .int ((setF (fun t => belX pl t k a b) i) ||| ((1 : Int32) <<< ((nI i) &&& 31)))), (0, .ref (q 0)), (1, .int (k)), (2, .int (a)), (3, .int (b))]) hx hb dX0_thingsOf_36 hl (k := 5) rfl (nI_1 _) (by decide) rfl (fun ls hl => ?_)
      refine lv_goto (tgt := 6) hx hb dX0_thingsOf_39 (by decide) ?_
      exact ih_6 _ (by omega) (by rw [setF_t (by assumption)]; exact lv_sub hl [2, 3, 4, 5, 1, 0] rfl)

theorem hdX0_canBeHeap : yX0_canBeHeap.cls = RX0 ∧ yX0_canBeHeap.cls ≠ "java/lang/invoke/MethodHandle" ∧ yX0_canBeHeap.cls ≠ "java/lang/invoke/VarHandle" ∧ (parseMethodDescriptor yX0_canBeHeap.desc).map (fun d => d.parameters.length) = some 3 := by decide +kernel
set_option maxHeartbeats 4000000 in
set_option maxRecDepth 100000 in
theorem kX0_canBeHeap {l : Launch} {D : va_G} {cy : ClassId} {H : Heap} {q : Nat → Nat} {gT gC : Int32} {ak : Int64} {ta pl cp kd fa fb bm sx sy : Nat → Int32} {N K S : Nat}  (hP : va_P D vwCl (wX cy q (nI N) gT gC (nI K) (nI S) ak ta pl cp kd fa fb bm sx sy) H) (k : Int32) (a : Int32) (b : Int32) (hN : N ≤ 12) : Met l yX0_canBeHeap wsX0_canBeHeap { frames := 2, cells := 0, slots := 0, locals := 41 } (pcK D cy H [.ref (q 0), .int k, .int a, .int b]) (QcRead (b2 (canX N k a b = true))) 0 0 (fun _ => False) := by
  refine mV 4 (by decide) rfl (Nat.le_of_ble_eq_true rfl) ?_
  intro p e s m below meth c hx hb hml hr hlk hts hown hnm hK hH ls hl
  have hC := (⟨hx, hb, hml, hown, hts⟩ : CallFix p m c cX0_canBeHeap 4 s _ wsX0_canBeHeap RX0)
  have hl : lv_has ls 4 [(0, .ref (q 0)), (1, .int (k)), (2, .int (a)), (3, .int (b))] := hl
  refine lv_iload_n hx hb dX0_canBeHeap_0 rfl (lv_at hl 1 rfl) ?_
  by_cases cz1 : k = 0
  · refine lv_tableIn (off := 31) (tgt := 32) hx hb dX0_canBeHeap_1 (by rw [cz1]; decide) (by rw [cz1]; decide) (by rw [cz1]; decide) (by decide) ?_
    refine lv_aload_n hx hb dX0_canBeHeap_32 rfl (lv_at hl 0 rfl) ?_
    refine lv_iload_n hx hb dX0_canBeHeap_33 rfl (lv_at hl 2 rfl) ?_
    refine cV (As := [.int (a)]) hC hK hP rfl rfl (kX0_isColouring hP a (by omega)) [] (cwV 1 hts gX0_canBeHeap_X0_isColouring rfl rfl rfl hdX0_isColouring ⟨Nat.le_of_ble_eq_true rfl, Nat.le_of_ble_eq_true rfl⟩) rfl hl.1 rfl (Nat.le_of_ble_eq_true rfl) dX0_canBeHeap_34 ⟨Nat.zero_le _, Nat.zero_le _⟩ ?_
    exact rZ hx hb hr hlk hH dX0_canBeHeap_37 b2_nar (b2_congr (by clear hl hC hK hP hts hown hnm hx hb hr hlk hml; first | (simp_all [Int32.not_lt, Int32.not_le, canX]; done) | grind [canX]))
  by_cases cz2 : k = 1
  · refine lv_tableIn (off := 37) (tgt := 38) hx hb dX0_canBeHeap_1 (by rw [cz2]; decide) (by rw [cz2]; decide) (by rw [cz2]; decide) (by decide) ?_
    refine lv_aload_n hx hb dX0_canBeHeap_38 rfl (lv_at hl 0 rfl) ?_
    refine lv_iload_n hx hb dX0_canBeHeap_39 rfl (lv_at hl 2 rfl) ?_
    refine cV (As := [.int (a)]) hC hK hP rfl rfl (kX0_isThing hP a ) [] (cwV 1 hts gX0_canBeHeap_X0_isThing rfl rfl rfl hdX0_isThing ⟨Nat.le_of_ble_eq_true rfl, Nat.le_of_ble_eq_true rfl⟩) rfl hl.1 rfl (Nat.le_of_ble_eq_true rfl) dX0_canBeHeap_40 ⟨Nat.zero_le _, Nat.zero_le _⟩ ?_
    refine lv_if_eq (tgt := 63) hx hb dX0_canBeHeap_43 (by decide) (fun cz3 => ?_) (fun cz3 => ?_)
    · have cz3 := b2_0 cz3
      refine lv_iconst (v := 0) hx hb dX0_canBeHeap_63 (by decide) ?_
      exact rZ hx hb hr hlk hH dX0_canBeHeap_64 rfl (b2_f (by clear hl hC hK hP hts hown hnm hx hb hr hlk hml; first | (simp_all [Int32.not_lt, Int32.not_le, canX]; done) | grind [canX]))
    · have cz3 := b2_1 cz3
      refine lv_aload_n hx hb dX0_canBeHeap_46 rfl (lv_at hl 0 rfl) ?_
      refine lv_iload_n hx hb dX0_canBeHeap_47 rfl (lv_at hl 3 rfl) ?_
      refine cV (As := [.int (b)]) hC hK hP rfl rfl (kX0_isThing hP b ) [] (cwV 1 hts gX0_canBeHeap_X0_isThing rfl rfl rfl hdX0_isThing ⟨Nat.le_of_ble_eq_true rfl, Nat.le_of_ble_eq_true rfl⟩) rfl hl.1 rfl (Nat.le_of_ble_eq_true rfl) dX0_canBeHeap_48 ⟨Nat.zero_le _, Nat.zero_le _⟩ ?_
      refine lv_if_eq (tgt := 63) hx hb dX0_canBeHeap_51 (by decide) (fun cz4 => ?_) (fun cz4 => ?_)
      · have cz4 := b2_0 cz4
        refine lv_iconst (v := 0) hx hb dX0_canBeHeap_63 (by decide) ?_
        exact rZ hx hb hr hlk hH dX0_canBeHeap_64 rfl (b2_f (by clear hl hC hK hP hts hown hnm hx hb hr hlk hml; first | (simp_all [Int32.not_lt, Int32.not_le, canX]; done) | grind [canX]))
      · have cz4 := b2_1 cz4
        refine lv_iload_n hx hb dX0_canBeHeap_54 rfl (lv_at hl 2 rfl) ?_
        refine lv_iload_n hx hb dX0_canBeHeap_55 rfl (lv_at hl 3 rfl) ?_
        refine lv_icmp_gt (tgt := 63) hx hb dX0_canBeHeap_56 (by decide) (fun cz5 => ?_) (fun cz5 => ?_)
        · refine lv_iconst (v := 0) hx hb dX0_canBeHeap_63 (by decide) ?_
          exact rZ hx hb hr hlk hH dX0_canBeHeap_64 rfl (b2_f (by clear hl hC hK hP hts hown hnm hx hb hr hlk hml; first | (simp_all [Int32.not_lt, Int32.not_le, canX]; done) | grind [canX]))
        · refine lv_iconst (v := 1) hx hb dX0_canBeHeap_59 (by decide) ?_
          refine lv_goto (tgt := 64) hx hb dX0_canBeHeap_60 (by decide) ?_
          exact rZ hx hb hr hlk hH dX0_canBeHeap_64 rfl (b2_t (by clear hl hC hK hP hts hown hnm hx hb hr hlk hml; first | (simp_all [Int32.not_lt, Int32.not_le, canX]; done) | grind [canX]))
  by_cases cz6 : k = 2
  · refine lv_tableIn (off := 37) (tgt := 38) hx hb dX0_canBeHeap_1 (by rw [cz6]; decide) (by rw [cz6]; decide) (by rw [cz6]; decide) (by decide) ?_
    refine lv_aload_n hx hb dX0_canBeHeap_38 rfl (lv_at hl 0 rfl) ?_
    refine lv_iload_n hx hb dX0_canBeHeap_39 rfl (lv_at hl 2 rfl) ?_
    refine cV (As := [.int (a)]) hC hK hP rfl rfl (kX0_isThing hP a ) [] (cwV 1 hts gX0_canBeHeap_X0_isThing rfl rfl rfl hdX0_isThing ⟨Nat.le_of_ble_eq_true rfl, Nat.le_of_ble_eq_true rfl⟩) rfl hl.1 rfl (Nat.le_of_ble_eq_true rfl) dX0_canBeHeap_40 ⟨Nat.zero_le _, Nat.zero_le _⟩ ?_
    refine lv_if_eq (tgt := 63) hx hb dX0_canBeHeap_43 (by decide) (fun cz7 => ?_) (fun cz7 => ?_)
    · have cz7 := b2_0 cz7
      refine lv_iconst (v := 0) hx hb dX0_canBeHeap_63 (by decide) ?_
      exact rZ hx hb hr hlk hH dX0_canBeHeap_64 rfl (b2_f (by clear hl hC hK hP hts hown hnm hx hb hr hlk hml; first | (simp_all [Int32.not_lt, Int32.not_le, canX]; done) | grind [canX]))
    · have cz7 := b2_1 cz7
      refine lv_aload_n hx hb dX0_canBeHeap_46 rfl (lv_at hl 0 rfl) ?_
      refine lv_iload_n hx hb dX0_canBeHeap_47 rfl (lv_at hl 3 rfl) ?_
      refine cV (As := [.int (b)]) hC hK hP rfl rfl (kX0_isThing hP b ) [] (cwV 1 hts gX0_canBeHeap_X0_isThing rfl rfl rfl hdX0_isThing ⟨Nat.le_of_ble_eq_true rfl, Nat.le_of_ble_eq_true rfl⟩) rfl hl.1 rfl (Nat.le_of_ble_eq_true rfl) dX0_canBeHeap_48 ⟨Nat.zero_le _, Nat.zero_le _⟩ ?_
      refine lv_if_eq (tgt := 63) hx hb dX0_canBeHeap_51 (by decide) (fun cz8 => ?_) (fun cz8 => ?_)
      · have cz8 := b2_0 cz8
        refine lv_iconst (v := 0) hx hb dX0_canBeHeap_63 (by decide) ?_
        exact rZ hx hb hr hlk hH dX0_canBeHeap_64 rfl (b2_f (by clear hl hC hK hP hts hown hnm hx hb hr hlk hml; first | (simp_all [Int32.not_lt, Int32.not_le, canX]; done) | grind [canX]))
      · have cz8 := b2_1 cz8
        refine lv_iload_n hx hb dX0_canBeHeap_54 rfl (lv_at hl 2 rfl) ?_
        refine lv_iload_n hx hb dX0_canBeHeap_55 rfl (lv_at hl 3 rfl) ?_
        refine lv_icmp_gt (tgt := 63) hx hb dX0_canBeHeap_56 (by decide) (fun cz9 => ?_) (fun cz9 => ?_)
        · refine lv_iconst (v := 0) hx hb dX0_canBeHeap_63 (by decide) ?_
          exact rZ hx hb hr hlk hH dX0_canBeHeap_64 rfl (b2_f (by clear hl hC hK hP hts hown hnm hx hb hr hlk hml; first | (simp_all [Int32.not_lt, Int32.not_le, canX]; done) | grind [canX]))
        · refine lv_iconst (v := 1) hx hb dX0_canBeHeap_59 (by decide) ?_
          refine lv_goto (tgt := 64) hx hb dX0_canBeHeap_60 (by decide) ?_
          exact rZ hx hb hr hlk hH dX0_canBeHeap_64 rfl (b2_t (by clear hl hC hK hP hts hown hnm hx hb hr hlk hml; first | (simp_all [Int32.not_lt, Int32.not_le, canX]; done) | grind [canX]))
  by_cases cz10 : k = 3
  · refine lv_tableIn (off := 64) (tgt := 65) hx hb dX0_canBeHeap_1 (by rw [cz10]; decide) (by rw [cz10]; decide) (by rw [cz10]; decide) (by decide) ?_
    refine lv_aload_n hx hb dX0_canBeHeap_65 rfl (lv_at hl 0 rfl) ?_
    refine lv_iload_n hx hb dX0_canBeHeap_66 rfl (lv_at hl 2 rfl) ?_
    refine cV (As := [.int (a)]) hC hK hP rfl rfl (kX0_isThing hP a ) [] (cwV 1 hts gX0_canBeHeap_X0_isThing rfl rfl rfl hdX0_isThing ⟨Nat.le_of_ble_eq_true rfl, Nat.le_of_ble_eq_true rfl⟩) rfl hl.1 rfl (Nat.le_of_ble_eq_true rfl) dX0_canBeHeap_67 ⟨Nat.zero_le _, Nat.zero_le _⟩ ?_
    refine lv_if_eq (tgt := 88) hx hb dX0_canBeHeap_70 (by decide) (fun cz11 => ?_) (fun cz11 => ?_)
    · have cz11 := b2_0 cz11
      refine lv_iconst (v := 0) hx hb dX0_canBeHeap_88 (by decide) ?_
      exact rZ hx hb hr hlk hH dX0_canBeHeap_89 rfl (b2_f (by clear hl hC hK hP hts hown hnm hx hb hr hlk hml; first | (simp_all [Int32.not_lt, Int32.not_le, canX]; done) | grind [canX]))
    · have cz11 := b2_1 cz11
      refine lv_iload_n hx hb dX0_canBeHeap_73 rfl (lv_at hl 3 rfl) ?_
      refine lv_iconst (v := 1) hx hb dX0_canBeHeap_74 (by decide) ?_
      refine lv_icmp_lt (tgt := 88) hx hb dX0_canBeHeap_75 (by decide) (fun cz12 => ?_) (fun cz12 => ?_)
      · refine lv_iconst (v := 0) hx hb dX0_canBeHeap_88 (by decide) ?_
        exact rZ hx hb hr hlk hH dX0_canBeHeap_89 rfl (b2_f (by clear hl hC hK hP hts hown hnm hx hb hr hlk hml; first | (simp_all [Int32.not_lt, Int32.not_le, canX]; done) | grind [canX]))
      · refine lv_iload_n hx hb dX0_canBeHeap_78 rfl (lv_at hl 3 rfl) ?_
        refine lv_bipush (v := 12) hx hb dX0_canBeHeap_79 (by decide) ?_
        refine lv_icmp_gt (tgt := 88) hx hb dX0_canBeHeap_81 (by decide) (fun cz13 => ?_) (fun cz13 => ?_)
        · refine lv_iconst (v := 0) hx hb dX0_canBeHeap_88 (by decide) ?_
          exact rZ hx hb hr hlk hH dX0_canBeHeap_89 rfl (b2_f (by clear hl hC hK hP hts hown hnm hx hb hr hlk hml; first | (simp_all [Int32.not_lt, Int32.not_le, canX]; done) | grind [canX]))
        · refine lv_iconst (v := 1) hx hb dX0_canBeHeap_84 (by decide) ?_
          refine lv_goto (tgt := 89) hx hb dX0_canBeHeap_85 (by decide) ?_
          exact rZ hx hb hr hlk hH dX0_canBeHeap_89 rfl (b2_t (by clear hl hC hK hP hts hown hnm hx hb hr hlk hml; first | (simp_all [Int32.not_lt, Int32.not_le, canX]; done) | grind [canX]))
  refine lv_tableOut (tgt := 90) hx hb dX0_canBeHeap_1 (by have h0 := lv_neT (a := 0) cz1 (by decide); have h1 := lv_neT (a := 1) cz2 (by decide); have h2 := lv_neT (a := 2) cz6 (by decide); have h3 := lv_neT (a := 3) cz10 (by decide); omega) (by decide) ?_
  refine lv_iconst (v := 0) hx hb dX0_canBeHeap_90 (by decide) ?_
  exact rZ hx hb hr hlk hH dX0_canBeHeap_91 rfl (b2_f (by clear hl hC hK hP hts hown hnm hx hb hr hlk hml; first | (simp_all [Int32.not_lt, Int32.not_le, canX]; done) | grind [canX]))

set_option maxHeartbeats 4000000 in
set_option maxRecDepth 100000 in
theorem kJ6_bitCount_0f7a4 {l : Launch}  (x : Int32)  : Met l yJ6_bitCount_0f7a4 wsJ6_bitCount_0f7a4 { frames := 0, cells := 0, slots := 0, locals := 0 } (fun v _ => v = ([.int x] : List Value).toArray) (QcRead (bcI x)) 0 0 (fun _ => False) := by
  refine mS 1 (by decide) rfl (Nat.le_of_ble_eq_true rfl) ?_
  intro p e s m below meth c hx hb hml hr hlk hts hown ls hl
  have hC := (⟨hx, hb, hml, hown, hts⟩ : CallFix p m c cJ6_bitCount_0f7a4 1 s _ wsJ6_bitCount_0f7a4 RJ6)
  have hl : lv_has ls 1 [(0, .int (x))] := hl
  refine lv_iload_n hx hb dJ6_bitCount_0f7a4_0 rfl (lv_at hl 0 rfl) ?_
  refine lv_iload_n hx hb dJ6_bitCount_0f7a4_1 rfl (lv_at hl 0 rfl) ?_
  refine lv_iconst (v := 1) hx hb dJ6_bitCount_0f7a4_2 (by decide) ?_
  refine lv_iushr hx hb dJ6_bitCount_0f7a4_3 rfl ?_
  refine lv_ldcw (v := 1431655765) hx hb hown (hts (.constant RJ6 265 (1431655765)) (by decide +kernel)) dJ6_bitCount_0f7a4_4 ?_
  refine lv_iand hx hb dJ6_bitCount_0f7a4_7 ?_
  refine lv_isub hx hb dJ6_bitCount_0f7a4_8 ?_
  refine lv_istore_n (lv' := [(0, .int (x - (((x.toUInt32 >>> (((1 : Int32)).toUInt32 &&& Int32.toUInt32 31)).toInt32) &&& ((1431655765 : Int32)))))]) hx hb dJ6_bitCount_0f7a4_9 rfl hl (by decide) rfl (fun ls hl => ?_)
  refine lv_iload_n hx hb dJ6_bitCount_0f7a4_10 rfl (lv_at hl 0 rfl) ?_
  refine lv_ldcw (v := 858993459) hx hb hown (hts (.constant RJ6 266 (858993459)) (by decide +kernel)) dJ6_bitCount_0f7a4_11 ?_
  refine lv_iand hx hb dJ6_bitCount_0f7a4_14 ?_
  refine lv_iload_n hx hb dJ6_bitCount_0f7a4_15 rfl (lv_at hl 0 rfl) ?_
  refine lv_iconst (v := 2) hx hb dJ6_bitCount_0f7a4_16 (by decide) ?_
  refine lv_iushr hx hb dJ6_bitCount_0f7a4_17 rfl ?_
  refine lv_ldcw (v := 858993459) hx hb hown (hts (.constant RJ6 266 (858993459)) (by decide +kernel)) dJ6_bitCount_0f7a4_18 ?_
  refine lv_iand hx hb dJ6_bitCount_0f7a4_21 ?_
  refine lv_iadd hx hb dJ6_bitCount_0f7a4_22 ?_
  refine lv_istore_n (lv' := [(0, .int (((x - (((x.toUInt32 >>> (((1 : Int32)).toUInt32 &&& Int32.toUInt32 31)).toInt32) &&& ((1431655765 : Int32)))) &&& ((858993459 : Int32))) + ((((x - (((x.toUInt32 >>> (((1 : Int32)).toUInt32 &&& Int32.toUInt32 31)).toInt32) &&& ((1431655765 : Int32)))).toUInt32 >>> (((2 : Int32)).toUInt32 &&& Int32.toUInt32 31)).toInt32) &&& ((858993459 : Int32)))))]) hx hb dJ6_bitCount_0f7a4_23 rfl hl (by decide) rfl (fun ls hl => ?_)
  refine lv_iload_n hx hb dJ6_bitCount_0f7a4_24 rfl (lv_at hl 0 rfl) ?_
  refine lv_iload_n hx hb dJ6_bitCount_0f7a4_25 rfl (lv_at hl 0 rfl) ?_
  refine lv_iconst (v := 4) hx hb dJ6_bitCount_0f7a4_26 (by decide) ?_
  refine lv_iushr hx hb dJ6_bitCount_0f7a4_27 rfl ?_
  refine lv_iadd hx hb dJ6_bitCount_0f7a4_28 ?_
  refine lv_ldcw (v := 252645135) hx hb hown (hts (.constant RJ6 267 (252645135)) (by decide +kernel)) dJ6_bitCount_0f7a4_29 ?_
  refine lv_iand hx hb dJ6_bitCount_0f7a4_32 ?_
  refine lv_istore_n (lv' := [(0, .int (((((x - (((x.toUInt32 >>> (((1 : Int32)).toUInt32 &&& Int32.toUInt32 31)).toInt32) &&& ((1431655765 : Int32)))) &&& ((858993459 : Int32))) + ((((x - (((x.toUInt32 >>> (((1 : Int32)).toUInt32 &&& Int32.toUInt32 31)).toInt32) &&& ((1431655765 : Int32)))).toUInt32 >>> (((2 : Int32)).toUInt32 &&& Int32.toUInt32 31)).toInt32) &&& ((858993459 : Int32)))) + (((((x - (((x.toUInt32 >>> (((1 : Int32)).toUInt32 &&& Int32.toUInt32 31)).toInt32) &&& ((1431655765 : Int32)))) &&& ((858993459 : Int32))) + ((((x - (((x.toUInt32 >>> (((1 : Int32)).toUInt32 &&& Int32.toUInt32 31)).toInt32) &&& ((1431655765 : Int32)))).toUInt32 >>> (((2 : Int32)).toUInt32 &&& Int32.toUInt32 31)).toInt32) &&& ((858993459 : Int32)))).toUInt32 >>> (((4 : Int32)).toUInt32 &&& Int32.toUInt32 31)).toInt32)) &&& ((252645135 : Int32))))]) hx hb dJ6_bitCount_0f7a4_33 rfl hl (by decide) rfl (fun ls hl => ?_)
  refine lv_iload_n hx hb dJ6_bitCount_0f7a4_34 rfl (lv_at hl 0 rfl) ?_
  refine lv_iload_n hx hb dJ6_bitCount_0f7a4_35 rfl (lv_at hl 0 rfl) ?_
  refine lv_bipush (v := 8) hx hb dJ6_bitCount_0f7a4_36 (by decide) ?_
  refine lv_iushr hx hb dJ6_bitCount_0f7a4_38 rfl ?_
  refine lv_iadd hx hb dJ6_bitCount_0f7a4_39 ?_
  refine lv_istore_n (lv' := [(0, .int ((((((x - (((x.toUInt32 >>> (((1 : Int32)).toUInt32 &&& Int32.toUInt32 31)).toInt32) &&& ((1431655765 : Int32)))) &&& ((858993459 : Int32))) + ((((x - (((x.toUInt32 >>> (((1 : Int32)).toUInt32 &&& Int32.toUInt32 31)).toInt32) &&& ((1431655765 : Int32)))).toUInt32 >>> (((2 : Int32)).toUInt32 &&& Int32.toUInt32 31)).toInt32) &&& ((858993459 : Int32)))) + (((((x - (((x.toUInt32 >>> (((1 : Int32)).toUInt32 &&& Int32.toUInt32 31)).toInt32) &&& ((1431655765 : Int32)))) &&& ((858993459 : Int32))) + ((((x - (((x.toUInt32 >>> (((1 : Int32)).toUInt32 &&& Int32.toUInt32 31)).toInt32) &&& ((1431655765 : Int32)))).toUInt32 >>> (((2 : Int32)).toUInt32 &&& Int32.toUInt32 31)).toInt32) &&& ((858993459 : Int32)))).toUInt32 >>> (((4 : Int32)).toUInt32 &&& Int32.toUInt32 31)).toInt32)) &&& ((252645135 : Int32))) + (((((((x - (((x.toUInt32 >>> (((1 : Int32)).toUInt32 &&& Int32.toUInt32 31)).toInt32) &&& ((1431655765 : Int32)))) &&& ((858993459 : Int32))) + ((((x - (((x.toUInt32 >>> (((1 : Int32)).toUInt32 &&& Int32.toUInt32 31)).toInt32) &&& ((1431655765 : Int32)))).toUInt32 >>> (((2 : Int32)).toUInt32 &&& Int32.toUInt32 31)).toInt32) &&& ((858993459 : Int32)))) + (((((x - (((x.toUInt32 >>> (((1 : Int32)).toUInt32 &&& Int32.toUInt32 31)).toInt32) &&& ((1431655765 : Int32)))) &&& ((858993459 : Int32))) + ((((x - (((x.toUInt32 >>> (((1 : Int32)).toUInt32 &&& Int32.toUInt32 31)).toInt32) &&& ((1431655765 : Int32)))).toUInt32 >>> (((2 : Int32)).toUInt32 &&& Int32.toUInt32 31)).toInt32) &&& ((858993459 : Int32)))).toUInt32 >>> (((4 : Int32)).toUInt32 &&& Int32.toUInt32 31)).toInt32)) &&& ((252645135 : Int32))).toUInt32 >>> (((8 : Int32)).toUInt32 &&& Int32.toUInt32 31)).toInt32)))]) hx hb dJ6_bitCount_0f7a4_40 rfl hl (by decide) rfl (fun ls hl => ?_)
  refine lv_iload_n hx hb dJ6_bitCount_0f7a4_41 rfl (lv_at hl 0 rfl) ?_
  refine lv_iload_n hx hb dJ6_bitCount_0f7a4_42 rfl (lv_at hl 0 rfl) ?_
  refine lv_bipush (v := 16) hx hb dJ6_bitCount_0f7a4_43 (by decide) ?_
  refine lv_iushr hx hb dJ6_bitCount_0f7a4_45 rfl ?_
  refine lv_iadd hx hb dJ6_bitCount_0f7a4_46 ?_
  refine lv_istore_n (lv' := [(0, .int (((((((x - (((x.toUInt32 >>> (((1 : Int32)).toUInt32 &&& Int32.toUInt32 31)).toInt32) &&& ((1431655765 : Int32)))) &&& ((858993459 : Int32))) + ((((x - (((x.toUInt32 >>> (((1 : Int32)).toUInt32 &&& Int32.toUInt32 31)).toInt32) &&& ((1431655765 : Int32)))).toUInt32 >>> (((2 : Int32)).toUInt32 &&& Int32.toUInt32 31)).toInt32) &&& ((858993459 : Int32)))) + (((((x - (((x.toUInt32 >>> (((1 : Int32)).toUInt32 &&& Int32.toUInt32 31)).toInt32) &&& ((1431655765 : Int32)))) &&& ((858993459 : Int32))) + ((((x - (((x.toUInt32 >>> (((1 : Int32)).toUInt32 &&& Int32.toUInt32 31)).toInt32) &&& ((1431655765 : Int32)))).toUInt32 >>> (((2 : Int32)).toUInt32 &&& Int32.toUInt32 31)).toInt32) &&& ((858993459 : Int32)))).toUInt32 >>> (((4 : Int32)).toUInt32 &&& Int32.toUInt32 31)).toInt32)) &&& ((252645135 : Int32))) + (((((((x - (((x.toUInt32 >>> (((1 : Int32)).toUInt32 &&& Int32.toUInt32 31)).toInt32) &&& ((1431655765 : Int32)))) &&& ((858993459 : Int32))) + ((((x - (((x.toUInt32 >>> (((1 : Int32)).toUInt32 &&& Int32.toUInt32 31)).toInt32) &&& ((1431655765 : Int32)))).toUInt32 >>> (((2 : Int32)).toUInt32 &&& Int32.toUInt32 31)).toInt32) &&& ((858993459 : Int32)))) + (((((x - (((x.toUInt32 >>> (((1 : Int32)).toUInt32 &&& Int32.toUInt32 31)).toInt32) &&& ((1431655765 : Int32)))) &&& ((858993459 : Int32))) + ((((x - (((x.toUInt32 >>> (((1 : Int32)).toUInt32 &&& Int32.toUInt32 31)).toInt32) &&& ((1431655765 : Int32)))).toUInt32 >>> (((2 : Int32)).toUInt32 &&& Int32.toUInt32 31)).toInt32) &&& ((858993459 : Int32)))).toUInt32 >>> (((4 : Int32)).toUInt32 &&& Int32.toUInt32 31)).toInt32)) &&& ((252645135 : Int32))).toUInt32 >>> (((8 : Int32)).toUInt32 &&& Int32.toUInt32 31)).toInt32)) + ((((((((x - (((x.toUInt32 >>> (((1 : Int32)).toUInt32 &&& Int32.toUInt32 31)).toInt32) &&& ((1431655765 : Int32)))) &&& ((858993459 : Int32))) + ((((x - (((x.toUInt32 >>> (((1 : Int32)).toUInt32 &&& Int32.toUInt32 31)).toInt32) &&& ((1431655765 : Int32)))).toUInt32 >>> (((2 : Int32)).toUInt32 &&& Int32.toUInt32 31)).toInt32) &&& ((858993459 : Int32)))) + (((((x - (((x.toUInt32 >>> (((1 : Int32)).toUInt32 &&& Int32.toUInt32 31)).toInt32) &&& ((1431655765 : Int32)))) &&& ((858993459 : Int32))) + ((((x - (((x.toUInt32 >>> (((1 : Int32)).toUInt32 &&& Int32.toUInt32 31)).toInt32) &&& ((1431655765 : Int32)))).toUInt32 >>> (((2 : Int32)).toUInt32 &&& Int32.toUInt32 31)).toInt32) &&& ((858993459 : Int32)))).toUInt32 >>> (((4 : Int32)).toUInt32 &&& Int32.toUInt32 31)).toInt32)) &&& ((252645135 : Int32))) + (((((((x - (((x.toUInt32 >>> (((1 : Int32)).toUInt32 &&& Int32.toUInt32 31)).toInt32) &&& ((1431655765 : Int32)))) &&& ((858993459 : Int32))) + ((((x - (((x.toUInt32 >>> (((1 : Int32)).toUInt32 &&& Int32.toUInt32 31)).toInt32) &&& ((1431655765 : Int32)))).toUInt32 >>> (((2 : Int32)).toUInt32 &&& Int32.toUInt32 31)).toInt32) &&& ((858993459 : Int32)))) + (((((x - (((x.toUInt32 >>> (((1 : Int32)).toUInt32 &&& Int32.toUInt32 31)).toInt32) &&& ((1431655765 : Int32)))) &&& ((858993459 : Int32))) + ((((x - (((x.toUInt32 >>> (((1 : Int32)).toUInt32 &&& Int32.toUInt32 31)).toInt32) &&& ((1431655765 : Int32)))).toUInt32 >>> (((2 : Int32)).toUInt32 &&& Int32.toUInt32 31)).toInt32) &&& ((858993459 : Int32)))).toUInt32 >>> (((4 : Int32)).toUInt32 &&& Int32.toUInt32 31)).toInt32)) &&& ((252645135 : Int32))).toUInt32 >>> (((8 : Int32)).toUInt32 &&& Int32.toUInt32 31)).toInt32)).toUInt32 >>> (((16 : Int32)).toUInt32 &&& Int32.toUInt32 31)).toInt32)))]) hx hb dJ6_bitCount_0f7a4_47 rfl hl (by decide) rfl (fun ls hl => ?_)
  refine lv_iload_n hx hb dJ6_bitCount_0f7a4_48 rfl (lv_at hl 0 rfl) ?_
  refine lv_bipush (v := 63) hx hb dJ6_bitCount_0f7a4_49 (by decide) ?_
  refine lv_iand hx hb dJ6_bitCount_0f7a4_51 ?_
  exact rI hx hb hr hlk rfl dJ6_bitCount_0f7a4_52 rfl

set_option maxHeartbeats 4000000 in
set_option maxRecDepth 100000 in
theorem kX0_leaning {l : Launch}  (b : Int32) (d : Int32)  : Met l yX0_leaning wsX0_leaning { frames := 1, cells := 0, slots := 0, locals := 20 } (fun v _ => v = ([.int b, .int d] : List Value).toArray) (QcRead (leanI b d)) 0 0 (fun _ => False) := by
  refine mS 2 (by decide) rfl (Nat.le_of_ble_eq_true rfl) ?_
  intro p e s m below meth c hx hb hml hr hlk hts hown ls hl
  have hC := (⟨hx, hb, hml, hown, hts⟩ : CallFix p m c cX0_leaning 2 s _ wsX0_leaning RX0)
  have hl : lv_has ls 2 [(0, .int (b)), (1, .int (d))] := hl
  refine lv_iconst (v := 2) hx hb dX0_leaning_0 (by decide) ?_
  refine lv_iload_n hx hb dX0_leaning_1 rfl (lv_at hl 0 rfl) ?_
  refine lv_iload_n hx hb dX0_leaning_2 rfl (lv_at hl 1 rfl) ?_
  refine lv_iand hx hb dX0_leaning_3 ?_
  refine cS (As := [.int (b &&& d)]) hC (kJ6_bitCount_0f7a4 (b &&& d) ) [.int (2)] (va_cwS 1 hts gX0_leaning_J6_bitCount_0f7a4 rfl rfl rfl (by decide +kernel) ⟨Nat.le_of_ble_eq_true rfl, Nat.le_of_ble_eq_true rfl⟩) rfl hl.1 rfl (Nat.le_of_ble_eq_true rfl) dX0_leaning_4 ⟨Nat.zero_le _, Nat.zero_le _⟩ ?_
  refine lv_imul hx hb dX0_leaning_7 ?_
  refine lv_iload_n hx hb dX0_leaning_8 rfl (lv_at hl 0 rfl) ?_
  refine cS (As := [.int (b)]) hC (kJ6_bitCount_0f7a4 b ) [.int ((2 : Int32) * (bcI (b &&& d)))] (va_cwS 1 hts gX0_leaning_J6_bitCount_0f7a4 rfl rfl rfl (by decide +kernel) ⟨Nat.le_of_ble_eq_true rfl, Nat.le_of_ble_eq_true rfl⟩) rfl hl.1 rfl (Nat.le_of_ble_eq_true rfl) dX0_leaning_9 ⟨Nat.zero_le _, Nat.zero_le _⟩ ?_
  refine lv_isub hx hb dX0_leaning_12 ?_
  exact rI hx hb hr hlk rfl dX0_leaning_13 rfl

theorem hdX0_offOf : yX0_offOf.cls = RX0 ∧ yX0_offOf.cls ≠ "java/lang/invoke/MethodHandle" ∧ yX0_offOf.cls ≠ "java/lang/invoke/VarHandle" ∧ (parseMethodDescriptor yX0_offOf.desc).map (fun d => d.parameters.length) = some 2 := by decide +kernel
set_option maxHeartbeats 4000000 in
set_option maxRecDepth 100000 in
theorem kX0_offOf {l : Launch} {D : va_G} {cy : ClassId} {H : Heap} {q : Nat → Nat} {gT gC : Int32} {ak : Int64} {ta pl cp kd fa fb bm sx sy : Nat → Int32} {N K S : Nat}  (hP : va_P D vwCl (wX cy q (nI N) gT gC (nI K) (nI S) ak ta pl cp kd fa fb bm sx sy) H) (k : Int32) (j : Nat) (hj : j < 10) : Met l yX0_offOf wsX0_offOf { frames := 2, cells := 0, slots := 0, locals := 41 } (pcK D cy H [.ref (q 0), .int k, .int (nI j)]) (QcRead (absI (leanI (bm j) k))) 0 0 (fun _ => False) := by
  refine mV 3 (by decide) rfl (Nat.le_of_ble_eq_true rfl) ?_
  intro p e s m below meth c hx hb hml hr hlk hts hown hnm hK hH ls hl
  have hC := (⟨hx, hb, hml, hown, hts⟩ : CallFix p m c cX0_offOf 3 s _ wsX0_offOf RX0)
  have hin : ∀ w ∈ wsX00, w ∈ wsX0_offOf := by decide +kernel
  have L41 : Cond.fieldLink RX0 41 "TwoColours" "heapBits" "[I" ∈ wsX0_offOf := by decide +kernel
  have hl : lv_has ls 3 [(0, .ref (q 0)), (1, .int (k)), (2, .int (nI j))] := hl
  refine lv_aload_n hx hb dX0_offOf_0 rfl (lv_at hl 0 rfl) ?_
  refine gX_heapBits hx hb hts hin hown hK hP L41 dX0_offOf_1 ?_
  refine lv_iload_n hx hb dX0_offOf_4 rfl (lv_at hl 2 rfl) ?_
  refine ldX_heapBits (j := j) hx hb hK hP rfl (by omega) dX0_offOf_5 ?_
  refine lv_iload_n hx hb dX0_offOf_6 rfl (lv_at hl 1 rfl) ?_
  refine cS (As := [.int (bm j), .int (k)]) hC (kX0_leaning (bm j) k ) [] (va_cwS 2 hts gX0_offOf_X0_leaning rfl rfl rfl (by decide +kernel) ⟨Nat.le_of_ble_eq_true rfl, Nat.le_of_ble_eq_true rfl⟩) rfl hl.1 rfl (Nat.le_of_ble_eq_true rfl) dX0_offOf_7 ⟨Nat.zero_le _, Nat.zero_le _⟩ ?_
  refine va_mabs hx hb (hml.trans hl.1.symm) hown (hts (.methodLink RX0 148 Lib.Math.abs.name) (by decide +kernel)) (hts (.static Lib.Math.abs.name) (by decide +kernel)) (hts (.initialized "java/lang/Math") (by decide +kernel)) (hts (.code Lib.Math.abs.name Lib.Math.abs.code 1 (some .int)) (by decide +kernel)) (Nat.le_of_ble_eq_true rfl) (Nat.le_of_ble_eq_true rfl) (Nat.zero_le _) (Nat.zero_le _) dX0_offOf_10 ?_
  exact rI hx hb hr hlk hH dX0_offOf_13 rfl

theorem hdX0_worstOf : yX0_worstOf.cls = RX0 ∧ yX0_worstOf.cls ≠ "java/lang/invoke/MethodHandle" ∧ yX0_worstOf.cls ≠ "java/lang/invoke/VarHandle" ∧ (parseMethodDescriptor yX0_worstOf.desc).map (fun d => d.parameters.length) = some 1 := by decide +kernel
set_option maxHeartbeats 4000000 in
set_option maxRecDepth 100000 in
theorem kX0_worstOf {l : Launch} {D : va_G} {cy : ClassId} {H : Heap} {q : Nat → Nat} {gT gC : Int32} {ak : Int64} {ta pl cp kd fa fb bm sx sy : Nat → Int32} {N K S : Nat}  (hP : va_P D vwCl (wX cy q (nI N) gT gC (nI K) (nI S) ak ta pl cp kd fa fb bm sx sy) H) (k : Int32) (hKn : K ≤ 10) : Met l yX0_worstOf wsX0_worstOf { frames := 3, cells := 0, slots := 0, locals := 63 } (pcK D cy H [.ref (q 0), .int k]) (QcRead (woF bm k K)) 0 0 (fun _ => False) := by
  refine mV 4 (by decide) rfl (Nat.le_of_ble_eq_true rfl) ?_
  intro p e s m below meth c hx hb hml hr hlk hts hown hnm hK hH ls hl
  have hC := (⟨hx, hb, hml, hown, hts⟩ : CallFix p m c cX0_worstOf 4 s _ wsX0_worstOf RX0)
  have hin : ∀ w ∈ wsX00, w ∈ wsX0_worstOf := by decide +kernel
  have L29 : Cond.fieldLink RX0 29 "TwoColours" "heapCount" "I" ∈ wsX0_worstOf := by decide +kernel
  have hl : lv_has ls 4 [(0, .ref (q 0)), (1, .int (k))] := hl
  refine lv_iconst (v := 0) hx hb dX0_worstOf_0 (by decide) ?_
  refine lv_istore_n (lv' := [(2, .int (0)), (0, .ref (q 0)), (1, .int (k))]) hx hb dX0_worstOf_1 rfl hl (by decide) rfl (fun ls hl => ?_)
  refine lv_iconst (v := 0) hx hb dX0_worstOf_2 (by decide) ?_
  refine lv_istore_n (lv' := [(3, .int (0)), (2, .int (0)), (0, .ref (q 0)), (1, .int (k))]) hx hb dX0_worstOf_3 rfl hl (by decide) rfl (fun ls hl => ?_)
  refine lpP 4 (fun i ls => lv_has ls 4 [(0, .ref (q 0)), (1, .int (k)), (2, .int (woF bm k i)), (3, .int (nI i))]) (K) ?_ (0) ls (by omega) (lv_sub hl [2, 3, 1, 0] rfl)
  intro i ls hi hl ih_4
  refine lv_iload_n hx hb dX0_worstOf_4 rfl (lv_at hl 3 rfl) ?_
  refine lv_aload_n hx hb dX0_worstOf_5 rfl (lv_at hl 0 rfl) ?_
  refine gX_heapCount hx hb hts hin hown hK hP L29 dX0_worstOf_6 ?_
  refine lv_icmp_ge (tgt := 29) hx hb dX0_worstOf_9 (by decide) (fun cz1 => ?_) (fun cz1 => ?_)
  · have cz1 : K ≤ i := (nI_leI (a := K) (b := i) (by omega) (by omega)).mp cz1
    refine lv_iload_n hx hb dX0_worstOf_29 rfl (lv_at hl 2 rfl) ?_
    exact rI hx hb hr hlk hH dX0_worstOf_30 (by rw [show i = K by omega])
  · have cz1 : ¬ K ≤ i := fun h => cz1 ((nI_leI (a := K) (b := i) (by omega) (by omega)).mpr h)
    refine lv_iload_n hx hb dX0_worstOf_12 rfl (lv_at hl 2 rfl) ?_
    refine lv_aload_n hx hb dX0_worstOf_13 rfl (lv_at hl 0 rfl) ?_
    refine lv_iload_n hx hb dX0_worstOf_14 rfl (lv_at hl 1 rfl) ?_
    refine lv_iload_n hx hb dX0_worstOf_15 rfl (lv_at hl 3 rfl) ?_
    refine cV (As := [.int (k), .int (nI i)]) hC hK hP rfl rfl (kX0_offOf hP k i (by omega)) [.int (woF bm k i)] (cwV 2 hts gX0_worstOf_X0_offOf rfl rfl rfl hdX0_offOf ⟨Nat.le_of_ble_eq_true rfl, Nat.le_of_ble_eq_true rfl⟩) rfl hl.1 rfl (Nat.le_of_ble_eq_true rfl) dX0_worstOf_16 ⟨Nat.zero_le _, Nat.zero_le _⟩ ?_
    refine va_mmax hx hb (hml.trans hl.1.symm) hown (hts (.methodLink RX0 109 Lib.Math.max.name) (by decide +kernel)) (hts (.static Lib.Math.max.name) (by decide +kernel)) (hts (.initialized "java/lang/Math") (by decide +kernel)) (hts (.code Lib.Math.max.name Lib.Math.max.code 2 (some .int)) (by decide +kernel)) (Nat.le_of_ble_eq_true rfl) (Nat.le_of_ble_eq_true rfl) (Nat.zero_le _) (Nat.zero_le _) dX0_worstOf_19 ?_
    refine lv_istore_n (lv' := [(2, .int (maxI (woF bm k i) (absI (leanI (bm i) k)))), (0, .ref (q 0)), (1, .int (k)), (3, .int (nI i))]) hx hb dX0_worstOf_22 rfl hl (by decide) rfl (fun ls hl => ?_)
    refine lv_iinc (v := nI (i + 1)) (lv' := [(3, .int (nI (i + 1))), (2, .int (maxI (woF bm k i) (absI (leanI (bm i) k)))), (0, .ref (q 0)), (1, .int (k))]) hx hb dX0_worstOf_23 hl (k := 3) rfl (nI_1 _) (by decide) rfl (fun ls hl => ?_)
    refine lv_goto (tgt := 4) hx hb dX0_worstOf_26 (by decide) ?_
    exact ih_4 _ (by omega) (lv_sub hl [2, 3, 1, 0] rfl)

theorem hdX0_squaresOf : yX0_squaresOf.cls = RX0 ∧ yX0_squaresOf.cls ≠ "java/lang/invoke/MethodHandle" ∧ yX0_squaresOf.cls ≠ "java/lang/invoke/VarHandle" ∧ (parseMethodDescriptor yX0_squaresOf.desc).map (fun d => d.parameters.length) = some 1 := by decide +kernel
set_option maxHeartbeats 4000000 in
set_option maxRecDepth 100000 in
theorem kX0_squaresOf {l : Launch} {D : va_G} {cy : ClassId} {H : Heap} {q : Nat → Nat} {gT gC : Int32} {ak : Int64} {ta pl cp kd fa fb bm sx sy : Nat → Int32} {N K S : Nat}  (hP : va_P D vwCl (wX cy q (nI N) gT gC (nI K) (nI S) ak ta pl cp kd fa fb bm sx sy) H) (k : Int32) (hKn : K ≤ 10) : Met l yX0_squaresOf wsX0_squaresOf { frames := 3, cells := 0, slots := 0, locals := 63 } (pcK D cy H [.ref (q 0), .int k]) (QcRead (sqF bm k K)) 0 0 (fun _ => False) := by
  refine mV 5 (by decide) rfl (Nat.le_of_ble_eq_true rfl) ?_
  intro p e s m below meth c hx hb hml hr hlk hts hown hnm hK hH ls hl
  have hC := (⟨hx, hb, hml, hown, hts⟩ : CallFix p m c cX0_squaresOf 5 s _ wsX0_squaresOf RX0)
  have hin : ∀ w ∈ wsX00, w ∈ wsX0_squaresOf := by decide +kernel
  have L29 : Cond.fieldLink RX0 29 "TwoColours" "heapCount" "I" ∈ wsX0_squaresOf := by decide +kernel
  have hl : lv_has ls 5 [(0, .ref (q 0)), (1, .int (k))] := hl
  refine lv_iconst (v := 0) hx hb dX0_squaresOf_0 (by decide) ?_
  refine lv_istore_n (lv' := [(2, .int (0)), (0, .ref (q 0)), (1, .int (k))]) hx hb dX0_squaresOf_1 rfl hl (by decide) rfl (fun ls hl => ?_)
  refine lv_iconst (v := 0) hx hb dX0_squaresOf_2 (by decide) ?_
  refine lv_istore_n (lv' := [(3, .int (0)), (2, .int (0)), (0, .ref (q 0)), (1, .int (k))]) hx hb dX0_squaresOf_3 rfl hl (by decide) rfl (fun ls hl => ?_)
  refine lpP 4 (fun i ls => lv_has ls 5 [(0, .ref (q 0)), (1, .int (k)), (2, .int (sqF bm k i)), (3, .int (nI i))]) (K) ?_ (0) ls (by omega) (lv_sub hl [2, 3, 1, 0] rfl)
  intro i ls hi hl ih_4
  refine lv_iload_n hx hb dX0_squaresOf_4 rfl (lv_at hl 3 rfl) ?_
  refine lv_aload_n hx hb dX0_squaresOf_5 rfl (lv_at hl 0 rfl) ?_
  refine gX_heapCount hx hb hts hin hown hK hP L29 dX0_squaresOf_6 ?_
  refine lv_icmp_ge (tgt := 34) hx hb dX0_squaresOf_9 (by decide) (fun cz1 => ?_) (fun cz1 => ?_)
  · have cz1 : K ≤ i := (nI_leI (a := K) (b := i) (by omega) (by omega)).mp cz1
    refine lv_iload_n hx hb dX0_squaresOf_34 rfl (lv_at hl 2 rfl) ?_
    exact rI hx hb hr hlk hH dX0_squaresOf_35 (by rw [show i = K by omega])
  · have cz1 : ¬ K ≤ i := fun h => cz1 ((nI_leI (a := K) (b := i) (by omega) (by omega)).mpr h)
    refine lv_aload_n hx hb dX0_squaresOf_12 rfl (lv_at hl 0 rfl) ?_
    refine lv_iload_n hx hb dX0_squaresOf_13 rfl (lv_at hl 1 rfl) ?_
    refine lv_iload_n hx hb dX0_squaresOf_14 rfl (lv_at hl 3 rfl) ?_
    refine cV (As := [.int (k), .int (nI i)]) hC hK hP rfl rfl (kX0_offOf hP k i (by omega)) [] (cwV 2 hts gX0_squaresOf_X0_offOf rfl rfl rfl hdX0_offOf ⟨Nat.le_of_ble_eq_true rfl, Nat.le_of_ble_eq_true rfl⟩) rfl hl.1 rfl (Nat.le_of_ble_eq_true rfl) dX0_squaresOf_15 ⟨Nat.zero_le _, Nat.zero_le _⟩ ?_
    refine lv_istore (lv' := [(4, .int (absI (leanI (bm i) k))), (0, .ref (q 0)), (1, .int (k)), (2, .int (sqF bm k i)), (3, .int (nI i))]) hx hb dX0_squaresOf_18 hl (by decide) rfl (fun ls hl => ?_)
    refine lv_iload_n hx hb dX0_squaresOf_20 rfl (lv_at hl 3 rfl) ?_
    refine lv_iload hx hb dX0_squaresOf_21 (lv_at hl 0 rfl) ?_
    refine lv_iload hx hb dX0_squaresOf_23 (lv_at hl 0 rfl) ?_
    refine lv_imul hx hb dX0_squaresOf_25 ?_
    refine lv_iadd hx hb dX0_squaresOf_26 ?_
    refine lv_istore_n (lv' := [(2, .int ((sqF bm k i) + ((absI (leanI (bm i) k)) * (absI (leanI (bm i) k))))), (4, .int (absI (leanI (bm i) k))), (0, .ref (q 0)), (1, .int (k)), (3, .int (nI i))]) hx hb dX0_squaresOf_27 rfl hl (by decide) rfl (fun ls hl => ?_)
    refine lv_iinc (v := nI (i + 1)) (lv' := [(3, .int (nI (i + 1))), (2, .int ((sqF bm k i) + ((absI (leanI (bm i) k)) * (absI (leanI (bm i) k))))), (4, .int (absI (leanI (bm i) k))), (0, .ref (q 0)), (1, .int (k))]) hx hb dX0_squaresOf_28 hl (k := 4) rfl (nI_1 _) (by decide) rfl (fun ls hl => ?_)
    refine lv_goto (tgt := 4) hx hb dX0_squaresOf_31 (by decide) ?_
    exact ih_4 _ (by omega) (lv_sub hl [3, 4, 1, 0] rfl)

