/-! the constructors -/
def qv (a0 a1 a2 a3 a4 a5 a6 a7 a8 a9 : Nat) : Nat → Nat
  | 0 => a0 | 1 => a1 | 2 => a2 | 3 => a3 | 4 => a4 | 5 => a5 | 6 => a6 | 7 => a7 | 8 => a8 | _ => a9
abbrev z0 : Nat → Int32 := fun _ => 0
section
variable {p : Program} {l : Launch} {e : Env} {R : Room} {s : State} {m : MethodId} {args : Array Value} {below : List Frame} {meth : Method} {c : Code} {H H0 : Heap} {locs : List Loc} {cells slots : Nat} {Q : State → Prop}
variable {cc : ByteArray} {pc : Nat} {ls : Array Slot} {rest : List Value} {D : va_G} {A : Nat → Prop} {cy : ClassId} {ws : va_W}
theorem naF {n : Int32} {n2 : Nat} (hx : p.tables.exec = Jvm.exec) (hb : c.code = cc) (harr : (Cond.arrayClass .int).before args s = true) (hK : va_K D vwCl [] s) (hP : va_P D vwCl ws H) (hD : va_D A ws) (hS : va_S A H0 H locs) (hA : ∀ q, H0.size ≤ q → A q) (hn : ¬ n < 0) (hN : n.toNatClampNeg = n2) (hby : n2 * 4 ≤ 536870912) (hcells : cells + 1 ≤ R.cells) (hslots : slots + n2 ≤ R.slots) (hdg : decode cc pc = .ok (.newarray .int, 2))
    (kk : ∀ (q : Nat) (cy : ClassId) (H1 : Heap), va_K D vwCl [(cy, .int)] s → va_P D vwCl (ws ++ [(q, .inl (cy, n2, .inl z0))]) H1 → va_D A (ws ++ [(q, .inl (cy, n2, .inl z0))]) → va_S A H0 H1 locs → W p l e R s m args below meth c H1 locs (cells + 1) (slots + n2) Q (F0 m (pc + 2) ls (.ref q :: rest))) : W p l e R s m args below meth c H locs cells slots Q (F0 m pc ls (.int n :: rest)) :=
  va_newa (atype := .int) (a0 := (n2, .inl z0)) hx hb harr rfl hK hP hD hS hA (fun _ => rfl) hn hN hby hcells hslots hdg (fun q cA H1 hK1 hP1 hD1 hS1 => kk q cA H1 hK1 hP1 hD1 hS1)
theorem naI {n : Int32} {n2 : Nat} (hx : p.tables.exec = Jvm.exec) (hb : c.code = cc) (harr : (Cond.arrayClass .int).before args s = true) (hK : va_K D vwCl [(cy, .int)] s) (hP : va_P D vwCl ws H) (hD : va_D A ws) (hS : va_S A H0 H locs) (hA : ∀ q, H0.size ≤ q → A q) (hn : ¬ n < 0) (hN : n.toNatClampNeg = n2) (hby : n2 * 4 ≤ 536870912) (hcells : cells + 1 ≤ R.cells) (hslots : slots + n2 ≤ R.slots) (hdg : decode cc pc = .ok (.newarray .int, 2))
    (kk : ∀ (q : Nat) (H1 : Heap), va_P D vwCl (ws ++ [(q, .inl (cy, n2, .inl z0))]) H1 → va_D A (ws ++ [(q, .inl (cy, n2, .inl z0))]) → va_S A H0 H1 locs → W p l e R s m args below meth c H1 locs (cells + 1) (slots + n2) Q (F0 m (pc + 2) ls (.ref q :: rest))) : W p l e R s m args below meth c H locs cells slots Q (F0 m pc ls (.int n :: rest)) :=
  va_newa (atype := .int) (a0 := (n2, .inl z0)) hx hb harr rfl hK hP hD hS hA (fun _ => rfl) hn hN hby hcells hslots hdg (fun q cA H1 hK1 hP1 hD1 hS1 => by
    have e1 : s.vm.findClass ("[" ++ FieldType.int.toString) = some cy := (hK1.2 0 _ rfl).2
    have e2 : s.vm.findClass ("[" ++ FieldType.int.toString) = some cA := (hK1.2 1 _ rfl).2
    have e3 : cA = cy := Option.some.inj (e2.symm.trans e1)
    subst e3
    exact kk q H1 hP1 hD1 hS1)
theorem stG {q0 a n : Nat} {f : Nat → Int32} {i z : Int32} {j : Nat} (hx : p.tables.exec = Jvm.exec) (hb : c.code = cc) (hK : va_K D vwCl [(cy, .int)] s) (hP : va_P D vwCl ws H) (hD : va_D A ws) (hS : va_S A H0 H locs) (ha : ws[q0]? = some (a, .inl (cy, n, .inl f))) (hi : i = nI j) (hj : j < n) (hn : n ≤ 12) (hdg : decode cc pc = .ok (.iastore, 1))
    (kk : ∀ (H1 : Heap) (locs1 : List Loc), va_P D vwCl (ws.set q0 (a, .inl (cy, n, .inl (upd f j z)))) H1 → va_D A (ws.set q0 (a, .inl (cy, n, .inl (upd f j z)))) → va_S A H0 H1 locs1 → W p l e R s m args below meth c H1 locs1 cells slots Q (F0 m (pc + 1) ls rest)) : W p l e R s m args below meth c H locs cells slots Q (F0 m pc ls (.int z :: .int i :: .ref a :: rest)) := by
  subst hi; exact va_iast (f := f) hx hb hK hP hD hS q0 0 ha rfl (vp_in_nI hj (by omega)) hdg (by rw [nI_clamp (by omega)]; exact kk)
end
theorem dX_aL {A : Nat → Prop} {cy : ClassId} {q : Nat → Nat} {tc gT gC nh ns : Int32} {ak : Int64} {ta pl cp kd fa fb bm sx sy : Nat → Int32} (h : va_D A (wX cy q tc gT gC nh ns ak ta pl cp kd fa fb bm sx sy)) : va_D (aL q) (wX cy q tc gT gC nh ns ak ta pl cp kd fa fb bm sx sy) := ⟨h.1, fun k x hk => by
  match k, hk with
  | 0, hk => exact Or.inl (congrArg Prod.fst (Option.some.inj hk)).symm
  | 1, hk => exact Or.inr (Or.inl (congrArg Prod.fst (Option.some.inj hk)).symm)
  | 2, hk => exact Or.inr (Or.inr (Or.inl (congrArg Prod.fst (Option.some.inj hk)).symm))
  | 3, hk => exact Or.inr (Or.inr (Or.inr (Or.inl (congrArg Prod.fst (Option.some.inj hk)).symm)))
  | 4, hk => exact Or.inr (Or.inr (Or.inr (Or.inr (Or.inl (congrArg Prod.fst (Option.some.inj hk)).symm))))
  | 5, hk => exact Or.inr (Or.inr (Or.inr (Or.inr (Or.inr (Or.inl (congrArg Prod.fst (Option.some.inj hk)).symm)))))
  | 6, hk => exact Or.inr (Or.inr (Or.inr (Or.inr (Or.inr (Or.inr (Or.inl (congrArg Prod.fst (Option.some.inj hk)).symm))))))
  | 7, hk => exact Or.inr (Or.inr (Or.inr (Or.inr (Or.inr (Or.inr (Or.inr (Or.inl (congrArg Prod.fst (Option.some.inj hk)).symm)))))))
  | 8, hk => exact Or.inr (Or.inr (Or.inr (Or.inr (Or.inr (Or.inr (Or.inr (Or.inr (Or.inl (congrArg Prod.fst (Option.some.inj hk)).symm))))))))
  | 9, hk => exact Or.inr (Or.inr (Or.inr (Or.inr (Or.inr (Or.inr (Or.inr (Or.inr (Or.inr ((congrArg Prod.fst (Option.some.inj hk)).symm)))))))))
  | k + 10, hk => simp [wX] at hk⟩
theorem dX_A {A : Nat → Prop} {cy : ClassId} {q : Nat → Nat} {tc gT gC nh ns : Int32} {ak : Int64} {ta pl cp kd fa fb bm sx sy : Nat → Int32} (h : va_D A (wX cy q tc gT gC nh ns ak ta pl cp kd fa fb bm sx sy)) : ∀ z, aL q z → A z := by
  intro z hz
  rcases hz with rfl | rfl | rfl | rfl | rfl | rfl | rfl | rfl | rfl | rfl
  · exact h.2 0 _ rfl
  · exact h.2 1 _ rfl
  · exact h.2 2 _ rfl
  · exact h.2 3 _ rfl
  · exact h.2 4 _ rfl
  · exact h.2 5 _ rfl
  · exact h.2 6 _ rfl
  · exact h.2 7 _ rfl
  · exact h.2 8 _ rfl
  · exact h.2 9 _ rfl
theorem dM_aL {A : Nat → Prop} {cy : ClassId} {q : Nat → Nat} {tc nh ns ff fm fw : Int32} {ak : Int64} {ta gh kd fa fb sx sy mb co : Nat → Int32} (h : va_D A (wM cy q tc nh ns ff fm fw ak ta gh kd fa fb sx sy mb co)) : va_D (aL q) (wM cy q tc nh ns ff fm fw ak ta gh kd fa fb sx sy mb co) := ⟨h.1, fun k x hk => by
  match k, hk with
  | 0, hk => exact Or.inl (congrArg Prod.fst (Option.some.inj hk)).symm
  | 1, hk => exact Or.inr (Or.inl (congrArg Prod.fst (Option.some.inj hk)).symm)
  | 2, hk => exact Or.inr (Or.inr (Or.inl (congrArg Prod.fst (Option.some.inj hk)).symm))
  | 3, hk => exact Or.inr (Or.inr (Or.inr (Or.inl (congrArg Prod.fst (Option.some.inj hk)).symm)))
  | 4, hk => exact Or.inr (Or.inr (Or.inr (Or.inr (Or.inl (congrArg Prod.fst (Option.some.inj hk)).symm))))
  | 5, hk => exact Or.inr (Or.inr (Or.inr (Or.inr (Or.inr (Or.inl (congrArg Prod.fst (Option.some.inj hk)).symm)))))
  | 6, hk => exact Or.inr (Or.inr (Or.inr (Or.inr (Or.inr (Or.inr (Or.inl (congrArg Prod.fst (Option.some.inj hk)).symm))))))
  | 7, hk => exact Or.inr (Or.inr (Or.inr (Or.inr (Or.inr (Or.inr (Or.inr (Or.inl (congrArg Prod.fst (Option.some.inj hk)).symm)))))))
  | 8, hk => exact Or.inr (Or.inr (Or.inr (Or.inr (Or.inr (Or.inr (Or.inr (Or.inr (Or.inl (congrArg Prod.fst (Option.some.inj hk)).symm))))))))
  | 9, hk => exact Or.inr (Or.inr (Or.inr (Or.inr (Or.inr (Or.inr (Or.inr (Or.inr (Or.inr ((congrArg Prod.fst (Option.some.inj hk)).symm)))))))))
  | k + 10, hk => simp [wM] at hk⟩
theorem dM_A {A : Nat → Prop} {cy : ClassId} {q : Nat → Nat} {tc nh ns ff fm fw : Int32} {ak : Int64} {ta gh kd fa fb sx sy mb co : Nat → Int32} (h : va_D A (wM cy q tc nh ns ff fm fw ak ta gh kd fa fb sx sy mb co)) : ∀ z, aL q z → A z := by
  intro z hz
  rcases hz with rfl | rfl | rfl | rfl | rfl | rfl | rfl | rfl | rfl | rfl
  · exact h.2 0 _ rfl
  · exact h.2 1 _ rfl
  · exact h.2 2 _ rfl
  · exact h.2 3 _ rfl
  · exact h.2 4 _ rfl
  · exact h.2 5 _ rfl
  · exact h.2 6 _ rfl
  · exact h.2 7 _ rfl
  · exact h.2 8 _ rfl
  · exact h.2 9 _ rfl
set_option maxHeartbeats 4000000 in
set_option maxRecDepth 100000 in
theorem kX0_init {l : Launch} {D : va_G} {H : Heap} {h0 : Nat} (hP : va_P D vwCl [(h0, .inr (0, [.int 0, .null, .null, .int 0, .int 0, .null, .int 0, .null, .null, .null, .null, .int 0, .null, .null, .long 0]))] H) (hD : va_D (fun z => z = h0 ∨ H.size ≤ z) [(h0, .inr (0, [.int 0, .null, .null, .int 0, .int 0, .null, .int 0, .null, .null, .null, .null, .int 0, .null, .null, .long 0]))]) : Met l yX0_init wsX0_init { frames := 2, cells := 9, slots := 96, locals := 43 } (va_Pc [.ref h0] (fun U => U.heap = H ∧ va_K D vwCl [] U)) (va_Qv (fun _ : Unit => True) (fun (_ : Unit) t => ∃ (cy : ClassId) (a1 a2 a3 a4 a5 a6 a7 a8 a9 : Nat), va_P D vwCl (wX cy (qv h0 a1 a2 a3 a4 a5 a6 a7 a8 a9) (nI 1) 0 0 (nI 0) (nI 0) 0 (idF z0 12) (idF z0 12) z0 z0 z0 z0 z0 z0 z0) t.heap ∧ va_K D vwCl [(cy, .int)] t ∧ va_D (fun z => z = h0 ∨ H.size ≤ z) (wX cy (qv h0 a1 a2 a3 a4 a5 a6 a7 a8 a9) (nI 1) 0 0 (nI 0) (nI 0) 0 (idF z0 12) (idF z0 12) z0 z0 z0 z0 z0 z0 z0)) (fun z => z = h0 ∨ H.size ≤ z)) 9 96 (fun z => z = h0 ∨ H.size ≤ z) := by
  refine Met.ofW (cc := cX0_init) (maxL := 1) (ret := none) (by decide) rfl ?_
  intro p e s m args below meth c s₁ B hml hv
  obtain ⟨rfl, hH, hK⟩ := hv
  have hx := B.exec
  have hb := B.bytes
  have hr := B.returns
  have hts := atoms_spec (ws := wsX0_init) B.pre
  have hown : s.vm.findClass RX0 = some m.cls := findClass_of_methodNamed B.named
  have hlocks := B.notSynchronized
  have hnm : meth.name = "<init>" := (name_of_methodNamed B.named B.method).1
  subst hH
  have hin : ∀ w ∈ wsX00, w ∈ wsX0_init := by decide +kernel
  have L7 : Cond.fieldLink RX0 7 "TwoColours" "thingCount" "I" ∈ wsX0_init := by decide +kernel
  have L13 : Cond.fieldLink RX0 13 "TwoColours" "thingAt" "[I" ∈ wsX0_init := by decide +kernel
  have L17 : Cond.fieldLink RX0 17 "TwoColours" "placeOf" "[I" ∈ wsX0_init := by decide +kernel
  have L20 : Cond.fieldLink RX0 20 "TwoColours" "heldThings" "I" ∈ wsX0_init := by decide +kernel
  have L23 : Cond.fieldLink RX0 23 "TwoColours" "heldColours" "I" ∈ wsX0_init := by decide +kernel
  have L26 : Cond.fieldLink RX0 26 "TwoColours" "colourByPairs" "[I" ∈ wsX0_init := by decide +kernel
  have L29 : Cond.fieldLink RX0 29 "TwoColours" "heapCount" "I" ∈ wsX0_init := by decide +kernel
  have L32 : Cond.fieldLink RX0 32 "TwoColours" "heapKind" "[I" ∈ wsX0_init := by decide +kernel
  have L35 : Cond.fieldLink RX0 35 "TwoColours" "heapA" "[I" ∈ wsX0_init := by decide +kernel
  have L38 : Cond.fieldLink RX0 38 "TwoColours" "heapB" "[I" ∈ wsX0_init := by decide +kernel
  have L41 : Cond.fieldLink RX0 41 "TwoColours" "heapBits" "[I" ∈ wsX0_init := by decide +kernel
  have L44 : Cond.fieldLink RX0 44 "TwoColours" "stepCount" "I" ∈ wsX0_init := by decide +kernel
  have L47 : Cond.fieldLink RX0 47 "TwoColours" "stepX" "[I" ∈ wsX0_init := by decide +kernel
  have L50 : Cond.fieldLink RX0 50 "TwoColours" "stepY" "[I" ∈ wsX0_init := by decide +kernel
  have L53 : Cond.fieldLink RX0 53 "TwoColours" "asked" "J" ∈ wsX0_init := by decide +kernel
  have hS : va_S (fun z => z = h0 ∨ s.heap.size ≤ z) s.heap s.heap [] := va_S.rf
  generalize hAe : (fun z => z = h0 ∨ s.heap.size ≤ z) = A at hD hS ⊢
  have hA : ∀ q : Nat, s.heap.size ≤ q → A q := fun q h => by rw [← hAe]; exact Or.inr h
  have hl := lv_entry ([.ref h0]) (n := 1) (Nat.le_of_ble_eq_true rfl)
  rw [lg_entry_eq]
  generalize (lg_sl ([.ref h0]) ++ List.replicate (1 - (lg_sl ([.ref h0])).length) Slot.unset).toArray = ls at hl ⊢
  have hl : lv_has ls 1 [(0, .ref h0)] := hl
  skip
  refine lv_aload_n hx hb dX0_init_0 rfl (lv_at hl 0 rfl) ?_
  refine W.objInit hx hb hown (hts (.methodLink RX0 1 objectInit) (by decide +kernel)) (hts (.instanceMethod objectInit) (by decide +kernel)) (hts (.code objectInit ⟨#[0xb1]⟩ 1 none) (by decide +kernel)) rfl (by rw [hml]; exact hl.1) rfl dX0_init_1 (Nat.le_of_ble_eq_true rfl) (Nat.le_of_ble_eq_true rfl) ?_
  refine W.eq (g2 := F0 m 4 ls []) rfl ?_
  refine lv_aload_n hx hb dX0_init_4 rfl (lv_at hl 0 rfl) ?_
  refine lv_iconst (v := 1) hx hb dX0_init_5 (by decide) ?_
  refine va_put (D := D) (ci := 0) (v := .int 1) (ty := .int) (C := RX0) (T := TX0) (N := 15) hx hb hts hin tyX0 tyX0_ok nmX0 hown hK hP hD hS 0 rfl rfl 0 (by decide) (hts _ L7) (fun _ h9 => h9) rfl (by decide +kernel) rfl rfl (Nat.le_of_ble_eq_true rfl) dX0_init_6 (fun H locs hP hD hS => ?_)
  have hP : va_P D vwCl [(h0, .inr (0, [.int 1, .null, .null, .int 0, .int 0, .null, .int 0, .null, .null, .null, .null, .int 0, .null, .null, .long 0]))] H := hP
  have hD : va_D A [(h0, .inr (0, [.int 1, .null, .null, .int 0, .int 0, .null, .int 0, .null, .null, .null, .null, .int 0, .null, .null, .long 0]))] := hD
  refine lv_aload_n hx hb dX0_init_9 rfl (lv_at hl 0 rfl) ?_
  refine lv_bipush (v := 12) hx hb dX0_init_10 (by decide) ?_
  refine naF (n2 := 12) hx hb (hts (.arrayClass .int) (by decide +kernel)) hK hP hD hS hA (by decide) (by decide) (by decide) (Nat.le_of_ble_eq_true rfl) (Nat.le_of_ble_eq_true rfl) dX0_init_12 (fun a1 cy H hK hP hD hS => ?_)
  have hP : va_P D vwCl [(h0, .inr (0, [.int 1, .null, .null, .int 0, .int 0, .null, .int 0, .null, .null, .null, .null, .int 0, .null, .null, .long 0])), (a1, .inl (cy, 12, .inl z0))] H := hP
  have hD : va_D A [(h0, .inr (0, [.int 1, .null, .null, .int 0, .int 0, .null, .int 0, .null, .null, .null, .null, .int 0, .null, .null, .long 0])), (a1, .inl (cy, 12, .inl z0))] := hD
  refine va_putF (D := D) (ci := 0) (v := .ref a1) (ty := .array .int) (C := RX0) (T := TX0) (N := 15) hx hb hts hin tyX0 tyX0_ok nmX0 hown hK hP hD hS 0 rfl rfl 1 (by decide) (hts _ L13) (fun _ h9 => h9) rfl hnm rfl (by decide +kernel) rfl rfl (Nat.le_of_ble_eq_true rfl) dX0_init_14 (fun H locs hP hD hS => ?_)
  have hP : va_P D vwCl [(h0, .inr (0, [.int 1, .ref a1, .null, .int 0, .int 0, .null, .int 0, .null, .null, .null, .null, .int 0, .null, .null, .long 0])), (a1, .inl (cy, 12, .inl z0))] H := hP
  have hD : va_D A [(h0, .inr (0, [.int 1, .ref a1, .null, .int 0, .int 0, .null, .int 0, .null, .null, .null, .null, .int 0, .null, .null, .long 0])), (a1, .inl (cy, 12, .inl z0))] := hD
  refine lv_aload_n hx hb dX0_init_17 rfl (lv_at hl 0 rfl) ?_
  refine lv_bipush (v := 12) hx hb dX0_init_18 (by decide) ?_
  refine naI (n2 := 12) hx hb (hts (.arrayClass .int) (by decide +kernel)) hK hP hD hS hA (by decide) (by decide) (by decide) (Nat.le_of_ble_eq_true rfl) (Nat.le_of_ble_eq_true rfl) dX0_init_20 (fun a2 H hP hD hS => ?_)
  have hP : va_P D vwCl [(h0, .inr (0, [.int 1, .ref a1, .null, .int 0, .int 0, .null, .int 0, .null, .null, .null, .null, .int 0, .null, .null, .long 0])), (a1, .inl (cy, 12, .inl z0)), (a2, .inl (cy, 12, .inl z0))] H := hP
  have hD : va_D A [(h0, .inr (0, [.int 1, .ref a1, .null, .int 0, .int 0, .null, .int 0, .null, .null, .null, .null, .int 0, .null, .null, .long 0])), (a1, .inl (cy, 12, .inl z0)), (a2, .inl (cy, 12, .inl z0))] := hD
  refine va_putF (D := D) (ci := 0) (v := .ref a2) (ty := .array .int) (C := RX0) (T := TX0) (N := 15) hx hb hts hin tyX0 tyX0_ok nmX0 hown hK hP hD hS 0 rfl rfl 2 (by decide) (hts _ L17) (fun _ h9 => h9) rfl hnm rfl (by decide +kernel) rfl rfl (Nat.le_of_ble_eq_true rfl) dX0_init_22 (fun H locs hP hD hS => ?_)
  have hP : va_P D vwCl [(h0, .inr (0, [.int 1, .ref a1, .ref a2, .int 0, .int 0, .null, .int 0, .null, .null, .null, .null, .int 0, .null, .null, .long 0])), (a1, .inl (cy, 12, .inl z0)), (a2, .inl (cy, 12, .inl z0))] H := hP
  have hD : va_D A [(h0, .inr (0, [.int 1, .ref a1, .ref a2, .int 0, .int 0, .null, .int 0, .null, .null, .null, .null, .int 0, .null, .null, .long 0])), (a1, .inl (cy, 12, .inl z0)), (a2, .inl (cy, 12, .inl z0))] := hD
  refine lv_aload_n hx hb dX0_init_25 rfl (lv_at hl 0 rfl) ?_
  refine lv_iconst (v := 0) hx hb dX0_init_26 (by decide) ?_
  refine va_put (D := D) (ci := 0) (v := .int 0) (ty := .int) (C := RX0) (T := TX0) (N := 15) hx hb hts hin tyX0 tyX0_ok nmX0 hown hK hP hD hS 0 rfl rfl 3 (by decide) (hts _ L20) (fun _ h9 => h9) rfl (by decide +kernel) rfl rfl (Nat.le_of_ble_eq_true rfl) dX0_init_27 (fun H locs hP hD hS => ?_)
  have hP : va_P D vwCl [(h0, .inr (0, [.int 1, .ref a1, .ref a2, .int 0, .int 0, .null, .int 0, .null, .null, .null, .null, .int 0, .null, .null, .long 0])), (a1, .inl (cy, 12, .inl z0)), (a2, .inl (cy, 12, .inl z0))] H := hP
  have hD : va_D A [(h0, .inr (0, [.int 1, .ref a1, .ref a2, .int 0, .int 0, .null, .int 0, .null, .null, .null, .null, .int 0, .null, .null, .long 0])), (a1, .inl (cy, 12, .inl z0)), (a2, .inl (cy, 12, .inl z0))] := hD
  refine lv_aload_n hx hb dX0_init_30 rfl (lv_at hl 0 rfl) ?_
  refine lv_iconst (v := 0) hx hb dX0_init_31 (by decide) ?_
  refine va_put (D := D) (ci := 0) (v := .int 0) (ty := .int) (C := RX0) (T := TX0) (N := 15) hx hb hts hin tyX0 tyX0_ok nmX0 hown hK hP hD hS 0 rfl rfl 4 (by decide) (hts _ L23) (fun _ h9 => h9) rfl (by decide +kernel) rfl rfl (Nat.le_of_ble_eq_true rfl) dX0_init_32 (fun H locs hP hD hS => ?_)
  have hP : va_P D vwCl [(h0, .inr (0, [.int 1, .ref a1, .ref a2, .int 0, .int 0, .null, .int 0, .null, .null, .null, .null, .int 0, .null, .null, .long 0])), (a1, .inl (cy, 12, .inl z0)), (a2, .inl (cy, 12, .inl z0))] H := hP
  have hD : va_D A [(h0, .inr (0, [.int 1, .ref a1, .ref a2, .int 0, .int 0, .null, .int 0, .null, .null, .null, .null, .int 0, .null, .null, .long 0])), (a1, .inl (cy, 12, .inl z0)), (a2, .inl (cy, 12, .inl z0))] := hD
  refine lv_aload_n hx hb dX0_init_35 rfl (lv_at hl 0 rfl) ?_
  refine lv_bipush (v := 12) hx hb dX0_init_36 (by decide) ?_
  refine naI (n2 := 12) hx hb (hts (.arrayClass .int) (by decide +kernel)) hK hP hD hS hA (by decide) (by decide) (by decide) (Nat.le_of_ble_eq_true rfl) (Nat.le_of_ble_eq_true rfl) dX0_init_38 (fun a3 H hP hD hS => ?_)
  have hP : va_P D vwCl [(h0, .inr (0, [.int 1, .ref a1, .ref a2, .int 0, .int 0, .null, .int 0, .null, .null, .null, .null, .int 0, .null, .null, .long 0])), (a1, .inl (cy, 12, .inl z0)), (a2, .inl (cy, 12, .inl z0)), (a3, .inl (cy, 12, .inl z0))] H := hP
  have hD : va_D A [(h0, .inr (0, [.int 1, .ref a1, .ref a2, .int 0, .int 0, .null, .int 0, .null, .null, .null, .null, .int 0, .null, .null, .long 0])), (a1, .inl (cy, 12, .inl z0)), (a2, .inl (cy, 12, .inl z0)), (a3, .inl (cy, 12, .inl z0))] := hD
  refine va_putF (D := D) (ci := 0) (v := .ref a3) (ty := .array .int) (C := RX0) (T := TX0) (N := 15) hx hb hts hin tyX0 tyX0_ok nmX0 hown hK hP hD hS 0 rfl rfl 5 (by decide) (hts _ L26) (fun _ h9 => h9) rfl hnm rfl (by decide +kernel) rfl rfl (Nat.le_of_ble_eq_true rfl) dX0_init_40 (fun H locs hP hD hS => ?_)
  have hP : va_P D vwCl [(h0, .inr (0, [.int 1, .ref a1, .ref a2, .int 0, .int 0, .ref a3, .int 0, .null, .null, .null, .null, .int 0, .null, .null, .long 0])), (a1, .inl (cy, 12, .inl z0)), (a2, .inl (cy, 12, .inl z0)), (a3, .inl (cy, 12, .inl z0))] H := hP
  have hD : va_D A [(h0, .inr (0, [.int 1, .ref a1, .ref a2, .int 0, .int 0, .ref a3, .int 0, .null, .null, .null, .null, .int 0, .null, .null, .long 0])), (a1, .inl (cy, 12, .inl z0)), (a2, .inl (cy, 12, .inl z0)), (a3, .inl (cy, 12, .inl z0))] := hD
  refine lv_aload_n hx hb dX0_init_43 rfl (lv_at hl 0 rfl) ?_
  refine lv_iconst (v := 0) hx hb dX0_init_44 (by decide) ?_
  refine va_put (D := D) (ci := 0) (v := .int 0) (ty := .int) (C := RX0) (T := TX0) (N := 15) hx hb hts hin tyX0 tyX0_ok nmX0 hown hK hP hD hS 0 rfl rfl 6 (by decide) (hts _ L29) (fun _ h9 => h9) rfl (by decide +kernel) rfl rfl (Nat.le_of_ble_eq_true rfl) dX0_init_45 (fun H locs hP hD hS => ?_)
  have hP : va_P D vwCl [(h0, .inr (0, [.int 1, .ref a1, .ref a2, .int 0, .int 0, .ref a3, .int 0, .null, .null, .null, .null, .int 0, .null, .null, .long 0])), (a1, .inl (cy, 12, .inl z0)), (a2, .inl (cy, 12, .inl z0)), (a3, .inl (cy, 12, .inl z0))] H := hP
  have hD : va_D A [(h0, .inr (0, [.int 1, .ref a1, .ref a2, .int 0, .int 0, .ref a3, .int 0, .null, .null, .null, .null, .int 0, .null, .null, .long 0])), (a1, .inl (cy, 12, .inl z0)), (a2, .inl (cy, 12, .inl z0)), (a3, .inl (cy, 12, .inl z0))] := hD
  refine lv_aload_n hx hb dX0_init_48 rfl (lv_at hl 0 rfl) ?_
  refine lv_bipush (v := 10) hx hb dX0_init_49 (by decide) ?_
  refine naI (n2 := 10) hx hb (hts (.arrayClass .int) (by decide +kernel)) hK hP hD hS hA (by decide) (by decide) (by decide) (Nat.le_of_ble_eq_true rfl) (Nat.le_of_ble_eq_true rfl) dX0_init_51 (fun a4 H hP hD hS => ?_)
  have hP : va_P D vwCl [(h0, .inr (0, [.int 1, .ref a1, .ref a2, .int 0, .int 0, .ref a3, .int 0, .null, .null, .null, .null, .int 0, .null, .null, .long 0])), (a1, .inl (cy, 12, .inl z0)), (a2, .inl (cy, 12, .inl z0)), (a3, .inl (cy, 12, .inl z0)), (a4, .inl (cy, 10, .inl z0))] H := hP
  have hD : va_D A [(h0, .inr (0, [.int 1, .ref a1, .ref a2, .int 0, .int 0, .ref a3, .int 0, .null, .null, .null, .null, .int 0, .null, .null, .long 0])), (a1, .inl (cy, 12, .inl z0)), (a2, .inl (cy, 12, .inl z0)), (a3, .inl (cy, 12, .inl z0)), (a4, .inl (cy, 10, .inl z0))] := hD
  refine va_putF (D := D) (ci := 0) (v := .ref a4) (ty := .array .int) (C := RX0) (T := TX0) (N := 15) hx hb hts hin tyX0 tyX0_ok nmX0 hown hK hP hD hS 0 rfl rfl 7 (by decide) (hts _ L32) (fun _ h9 => h9) rfl hnm rfl (by decide +kernel) rfl rfl (Nat.le_of_ble_eq_true rfl) dX0_init_53 (fun H locs hP hD hS => ?_)
  have hP : va_P D vwCl [(h0, .inr (0, [.int 1, .ref a1, .ref a2, .int 0, .int 0, .ref a3, .int 0, .ref a4, .null, .null, .null, .int 0, .null, .null, .long 0])), (a1, .inl (cy, 12, .inl z0)), (a2, .inl (cy, 12, .inl z0)), (a3, .inl (cy, 12, .inl z0)), (a4, .inl (cy, 10, .inl z0))] H := hP
  have hD : va_D A [(h0, .inr (0, [.int 1, .ref a1, .ref a2, .int 0, .int 0, .ref a3, .int 0, .ref a4, .null, .null, .null, .int 0, .null, .null, .long 0])), (a1, .inl (cy, 12, .inl z0)), (a2, .inl (cy, 12, .inl z0)), (a3, .inl (cy, 12, .inl z0)), (a4, .inl (cy, 10, .inl z0))] := hD
  refine lv_aload_n hx hb dX0_init_56 rfl (lv_at hl 0 rfl) ?_
  refine lv_bipush (v := 10) hx hb dX0_init_57 (by decide) ?_
  refine naI (n2 := 10) hx hb (hts (.arrayClass .int) (by decide +kernel)) hK hP hD hS hA (by decide) (by decide) (by decide) (Nat.le_of_ble_eq_true rfl) (Nat.le_of_ble_eq_true rfl) dX0_init_59 (fun a5 H hP hD hS => ?_)
  have hP : va_P D vwCl [(h0, .inr (0, [.int 1, .ref a1, .ref a2, .int 0, .int 0, .ref a3, .int 0, .ref a4, .null, .null, .null, .int 0, .null, .null, .long 0])), (a1, .inl (cy, 12, .inl z0)), (a2, .inl (cy, 12, .inl z0)), (a3, .inl (cy, 12, .inl z0)), (a4, .inl (cy, 10, .inl z0)), (a5, .inl (cy, 10, .inl z0))] H := hP
  have hD : va_D A [(h0, .inr (0, [.int 1, .ref a1, .ref a2, .int 0, .int 0, .ref a3, .int 0, .ref a4, .null, .null, .null, .int 0, .null, .null, .long 0])), (a1, .inl (cy, 12, .inl z0)), (a2, .inl (cy, 12, .inl z0)), (a3, .inl (cy, 12, .inl z0)), (a4, .inl (cy, 10, .inl z0)), (a5, .inl (cy, 10, .inl z0))] := hD
  refine va_putF (D := D) (ci := 0) (v := .ref a5) (ty := .array .int) (C := RX0) (T := TX0) (N := 15) hx hb hts hin tyX0 tyX0_ok nmX0 hown hK hP hD hS 0 rfl rfl 8 (by decide) (hts _ L35) (fun _ h9 => h9) rfl hnm rfl (by decide +kernel) rfl rfl (Nat.le_of_ble_eq_true rfl) dX0_init_61 (fun H locs hP hD hS => ?_)
  have hP : va_P D vwCl [(h0, .inr (0, [.int 1, .ref a1, .ref a2, .int 0, .int 0, .ref a3, .int 0, .ref a4, .ref a5, .null, .null, .int 0, .null, .null, .long 0])), (a1, .inl (cy, 12, .inl z0)), (a2, .inl (cy, 12, .inl z0)), (a3, .inl (cy, 12, .inl z0)), (a4, .inl (cy, 10, .inl z0)), (a5, .inl (cy, 10, .inl z0))] H := hP
  have hD : va_D A [(h0, .inr (0, [.int 1, .ref a1, .ref a2, .int 0, .int 0, .ref a3, .int 0, .ref a4, .ref a5, .null, .null, .int 0, .null, .null, .long 0])), (a1, .inl (cy, 12, .inl z0)), (a2, .inl (cy, 12, .inl z0)), (a3, .inl (cy, 12, .inl z0)), (a4, .inl (cy, 10, .inl z0)), (a5, .inl (cy, 10, .inl z0))] := hD
  refine lv_aload_n hx hb dX0_init_64 rfl (lv_at hl 0 rfl) ?_
  refine lv_bipush (v := 10) hx hb dX0_init_65 (by decide) ?_
  refine naI (n2 := 10) hx hb (hts (.arrayClass .int) (by decide +kernel)) hK hP hD hS hA (by decide) (by decide) (by decide) (Nat.le_of_ble_eq_true rfl) (Nat.le_of_ble_eq_true rfl) dX0_init_67 (fun a6 H hP hD hS => ?_)
  have hP : va_P D vwCl [(h0, .inr (0, [.int 1, .ref a1, .ref a2, .int 0, .int 0, .ref a3, .int 0, .ref a4, .ref a5, .null, .null, .int 0, .null, .null, .long 0])), (a1, .inl (cy, 12, .inl z0)), (a2, .inl (cy, 12, .inl z0)), (a3, .inl (cy, 12, .inl z0)), (a4, .inl (cy, 10, .inl z0)), (a5, .inl (cy, 10, .inl z0)), (a6, .inl (cy, 10, .inl z0))] H := hP
  have hD : va_D A [(h0, .inr (0, [.int 1, .ref a1, .ref a2, .int 0, .int 0, .ref a3, .int 0, .ref a4, .ref a5, .null, .null, .int 0, .null, .null, .long 0])), (a1, .inl (cy, 12, .inl z0)), (a2, .inl (cy, 12, .inl z0)), (a3, .inl (cy, 12, .inl z0)), (a4, .inl (cy, 10, .inl z0)), (a5, .inl (cy, 10, .inl z0)), (a6, .inl (cy, 10, .inl z0))] := hD
  refine va_putF (D := D) (ci := 0) (v := .ref a6) (ty := .array .int) (C := RX0) (T := TX0) (N := 15) hx hb hts hin tyX0 tyX0_ok nmX0 hown hK hP hD hS 0 rfl rfl 9 (by decide) (hts _ L38) (fun _ h9 => h9) rfl hnm rfl (by decide +kernel) rfl rfl (Nat.le_of_ble_eq_true rfl) dX0_init_69 (fun H locs hP hD hS => ?_)
  have hP : va_P D vwCl [(h0, .inr (0, [.int 1, .ref a1, .ref a2, .int 0, .int 0, .ref a3, .int 0, .ref a4, .ref a5, .ref a6, .null, .int 0, .null, .null, .long 0])), (a1, .inl (cy, 12, .inl z0)), (a2, .inl (cy, 12, .inl z0)), (a3, .inl (cy, 12, .inl z0)), (a4, .inl (cy, 10, .inl z0)), (a5, .inl (cy, 10, .inl z0)), (a6, .inl (cy, 10, .inl z0))] H := hP
  have hD : va_D A [(h0, .inr (0, [.int 1, .ref a1, .ref a2, .int 0, .int 0, .ref a3, .int 0, .ref a4, .ref a5, .ref a6, .null, .int 0, .null, .null, .long 0])), (a1, .inl (cy, 12, .inl z0)), (a2, .inl (cy, 12, .inl z0)), (a3, .inl (cy, 12, .inl z0)), (a4, .inl (cy, 10, .inl z0)), (a5, .inl (cy, 10, .inl z0)), (a6, .inl (cy, 10, .inl z0))] := hD
  refine lv_aload_n hx hb dX0_init_72 rfl (lv_at hl 0 rfl) ?_
  refine lv_bipush (v := 10) hx hb dX0_init_73 (by decide) ?_
  refine naI (n2 := 10) hx hb (hts (.arrayClass .int) (by decide +kernel)) hK hP hD hS hA (by decide) (by decide) (by decide) (Nat.le_of_ble_eq_true rfl) (Nat.le_of_ble_eq_true rfl) dX0_init_75 (fun a7 H hP hD hS => ?_)
  have hP : va_P D vwCl [(h0, .inr (0, [.int 1, .ref a1, .ref a2, .int 0, .int 0, .ref a3, .int 0, .ref a4, .ref a5, .ref a6, .null, .int 0, .null, .null, .long 0])), (a1, .inl (cy, 12, .inl z0)), (a2, .inl (cy, 12, .inl z0)), (a3, .inl (cy, 12, .inl z0)), (a4, .inl (cy, 10, .inl z0)), (a5, .inl (cy, 10, .inl z0)), (a6, .inl (cy, 10, .inl z0)), (a7, .inl (cy, 10, .inl z0))] H := hP
  have hD : va_D A [(h0, .inr (0, [.int 1, .ref a1, .ref a2, .int 0, .int 0, .ref a3, .int 0, .ref a4, .ref a5, .ref a6, .null, .int 0, .null, .null, .long 0])), (a1, .inl (cy, 12, .inl z0)), (a2, .inl (cy, 12, .inl z0)), (a3, .inl (cy, 12, .inl z0)), (a4, .inl (cy, 10, .inl z0)), (a5, .inl (cy, 10, .inl z0)), (a6, .inl (cy, 10, .inl z0)), (a7, .inl (cy, 10, .inl z0))] := hD
  refine va_putF (D := D) (ci := 0) (v := .ref a7) (ty := .array .int) (C := RX0) (T := TX0) (N := 15) hx hb hts hin tyX0 tyX0_ok nmX0 hown hK hP hD hS 0 rfl rfl 10 (by decide) (hts _ L41) (fun _ h9 => h9) rfl hnm rfl (by decide +kernel) rfl rfl (Nat.le_of_ble_eq_true rfl) dX0_init_77 (fun H locs hP hD hS => ?_)
  have hP : va_P D vwCl [(h0, .inr (0, [.int 1, .ref a1, .ref a2, .int 0, .int 0, .ref a3, .int 0, .ref a4, .ref a5, .ref a6, .ref a7, .int 0, .null, .null, .long 0])), (a1, .inl (cy, 12, .inl z0)), (a2, .inl (cy, 12, .inl z0)), (a3, .inl (cy, 12, .inl z0)), (a4, .inl (cy, 10, .inl z0)), (a5, .inl (cy, 10, .inl z0)), (a6, .inl (cy, 10, .inl z0)), (a7, .inl (cy, 10, .inl z0))] H := hP
  have hD : va_D A [(h0, .inr (0, [.int 1, .ref a1, .ref a2, .int 0, .int 0, .ref a3, .int 0, .ref a4, .ref a5, .ref a6, .ref a7, .int 0, .null, .null, .long 0])), (a1, .inl (cy, 12, .inl z0)), (a2, .inl (cy, 12, .inl z0)), (a3, .inl (cy, 12, .inl z0)), (a4, .inl (cy, 10, .inl z0)), (a5, .inl (cy, 10, .inl z0)), (a6, .inl (cy, 10, .inl z0)), (a7, .inl (cy, 10, .inl z0))] := hD
  refine lv_aload_n hx hb dX0_init_80 rfl (lv_at hl 0 rfl) ?_
  refine lv_iconst (v := 0) hx hb dX0_init_81 (by decide) ?_
  refine va_put (D := D) (ci := 0) (v := .int 0) (ty := .int) (C := RX0) (T := TX0) (N := 15) hx hb hts hin tyX0 tyX0_ok nmX0 hown hK hP hD hS 0 rfl rfl 11 (by decide) (hts _ L44) (fun _ h9 => h9) rfl (by decide +kernel) rfl rfl (Nat.le_of_ble_eq_true rfl) dX0_init_82 (fun H locs hP hD hS => ?_)
  have hP : va_P D vwCl [(h0, .inr (0, [.int 1, .ref a1, .ref a2, .int 0, .int 0, .ref a3, .int 0, .ref a4, .ref a5, .ref a6, .ref a7, .int 0, .null, .null, .long 0])), (a1, .inl (cy, 12, .inl z0)), (a2, .inl (cy, 12, .inl z0)), (a3, .inl (cy, 12, .inl z0)), (a4, .inl (cy, 10, .inl z0)), (a5, .inl (cy, 10, .inl z0)), (a6, .inl (cy, 10, .inl z0)), (a7, .inl (cy, 10, .inl z0))] H := hP
  have hD : va_D A [(h0, .inr (0, [.int 1, .ref a1, .ref a2, .int 0, .int 0, .ref a3, .int 0, .ref a4, .ref a5, .ref a6, .ref a7, .int 0, .null, .null, .long 0])), (a1, .inl (cy, 12, .inl z0)), (a2, .inl (cy, 12, .inl z0)), (a3, .inl (cy, 12, .inl z0)), (a4, .inl (cy, 10, .inl z0)), (a5, .inl (cy, 10, .inl z0)), (a6, .inl (cy, 10, .inl z0)), (a7, .inl (cy, 10, .inl z0))] := hD
  refine lv_aload_n hx hb dX0_init_85 rfl (lv_at hl 0 rfl) ?_
  refine lv_bipush (v := 10) hx hb dX0_init_86 (by decide) ?_
  refine naI (n2 := 10) hx hb (hts (.arrayClass .int) (by decide +kernel)) hK hP hD hS hA (by decide) (by decide) (by decide) (Nat.le_of_ble_eq_true rfl) (Nat.le_of_ble_eq_true rfl) dX0_init_88 (fun a8 H hP hD hS => ?_)
  have hP : va_P D vwCl [(h0, .inr (0, [.int 1, .ref a1, .ref a2, .int 0, .int 0, .ref a3, .int 0, .ref a4, .ref a5, .ref a6, .ref a7, .int 0, .null, .null, .long 0])), (a1, .inl (cy, 12, .inl z0)), (a2, .inl (cy, 12, .inl z0)), (a3, .inl (cy, 12, .inl z0)), (a4, .inl (cy, 10, .inl z0)), (a5, .inl (cy, 10, .inl z0)), (a6, .inl (cy, 10, .inl z0)), (a7, .inl (cy, 10, .inl z0)), (a8, .inl (cy, 10, .inl z0))] H := hP
  have hD : va_D A [(h0, .inr (0, [.int 1, .ref a1, .ref a2, .int 0, .int 0, .ref a3, .int 0, .ref a4, .ref a5, .ref a6, .ref a7, .int 0, .null, .null, .long 0])), (a1, .inl (cy, 12, .inl z0)), (a2, .inl (cy, 12, .inl z0)), (a3, .inl (cy, 12, .inl z0)), (a4, .inl (cy, 10, .inl z0)), (a5, .inl (cy, 10, .inl z0)), (a6, .inl (cy, 10, .inl z0)), (a7, .inl (cy, 10, .inl z0)), (a8, .inl (cy, 10, .inl z0))] := hD
  refine va_putF (D := D) (ci := 0) (v := .ref a8) (ty := .array .int) (C := RX0) (T := TX0) (N := 15) hx hb hts hin tyX0 tyX0_ok nmX0 hown hK hP hD hS 0 rfl rfl 12 (by decide) (hts _ L47) (fun _ h9 => h9) rfl hnm rfl (by decide +kernel) rfl rfl (Nat.le_of_ble_eq_true rfl) dX0_init_90 (fun H locs hP hD hS => ?_)
  have hP : va_P D vwCl [(h0, .inr (0, [.int 1, .ref a1, .ref a2, .int 0, .int 0, .ref a3, .int 0, .ref a4, .ref a5, .ref a6, .ref a7, .int 0, .ref a8, .null, .long 0])), (a1, .inl (cy, 12, .inl z0)), (a2, .inl (cy, 12, .inl z0)), (a3, .inl (cy, 12, .inl z0)), (a4, .inl (cy, 10, .inl z0)), (a5, .inl (cy, 10, .inl z0)), (a6, .inl (cy, 10, .inl z0)), (a7, .inl (cy, 10, .inl z0)), (a8, .inl (cy, 10, .inl z0))] H := hP
  have hD : va_D A [(h0, .inr (0, [.int 1, .ref a1, .ref a2, .int 0, .int 0, .ref a3, .int 0, .ref a4, .ref a5, .ref a6, .ref a7, .int 0, .ref a8, .null, .long 0])), (a1, .inl (cy, 12, .inl z0)), (a2, .inl (cy, 12, .inl z0)), (a3, .inl (cy, 12, .inl z0)), (a4, .inl (cy, 10, .inl z0)), (a5, .inl (cy, 10, .inl z0)), (a6, .inl (cy, 10, .inl z0)), (a7, .inl (cy, 10, .inl z0)), (a8, .inl (cy, 10, .inl z0))] := hD
  refine lv_aload_n hx hb dX0_init_93 rfl (lv_at hl 0 rfl) ?_
  refine lv_bipush (v := 10) hx hb dX0_init_94 (by decide) ?_
  refine naI (n2 := 10) hx hb (hts (.arrayClass .int) (by decide +kernel)) hK hP hD hS hA (by decide) (by decide) (by decide) (Nat.le_of_ble_eq_true rfl) (Nat.le_of_ble_eq_true rfl) dX0_init_96 (fun a9 H hP hD hS => ?_)
  have hP : va_P D vwCl [(h0, .inr (0, [.int 1, .ref a1, .ref a2, .int 0, .int 0, .ref a3, .int 0, .ref a4, .ref a5, .ref a6, .ref a7, .int 0, .ref a8, .null, .long 0])), (a1, .inl (cy, 12, .inl z0)), (a2, .inl (cy, 12, .inl z0)), (a3, .inl (cy, 12, .inl z0)), (a4, .inl (cy, 10, .inl z0)), (a5, .inl (cy, 10, .inl z0)), (a6, .inl (cy, 10, .inl z0)), (a7, .inl (cy, 10, .inl z0)), (a8, .inl (cy, 10, .inl z0)), (a9, .inl (cy, 10, .inl z0))] H := hP
  have hD : va_D A [(h0, .inr (0, [.int 1, .ref a1, .ref a2, .int 0, .int 0, .ref a3, .int 0, .ref a4, .ref a5, .ref a6, .ref a7, .int 0, .ref a8, .null, .long 0])), (a1, .inl (cy, 12, .inl z0)), (a2, .inl (cy, 12, .inl z0)), (a3, .inl (cy, 12, .inl z0)), (a4, .inl (cy, 10, .inl z0)), (a5, .inl (cy, 10, .inl z0)), (a6, .inl (cy, 10, .inl z0)), (a7, .inl (cy, 10, .inl z0)), (a8, .inl (cy, 10, .inl z0)), (a9, .inl (cy, 10, .inl z0))] := hD
  refine va_putF (D := D) (ci := 0) (v := .ref a9) (ty := .array .int) (C := RX0) (T := TX0) (N := 15) hx hb hts hin tyX0 tyX0_ok nmX0 hown hK hP hD hS 0 rfl rfl 13 (by decide) (hts _ L50) (fun _ h9 => h9) rfl hnm rfl (by decide +kernel) rfl rfl (Nat.le_of_ble_eq_true rfl) dX0_init_98 (fun H locs hP hD hS => ?_)
  have hP : va_P D vwCl [(h0, .inr (0, [.int 1, .ref a1, .ref a2, .int 0, .int 0, .ref a3, .int 0, .ref a4, .ref a5, .ref a6, .ref a7, .int 0, .ref a8, .ref a9, .long 0])), (a1, .inl (cy, 12, .inl z0)), (a2, .inl (cy, 12, .inl z0)), (a3, .inl (cy, 12, .inl z0)), (a4, .inl (cy, 10, .inl z0)), (a5, .inl (cy, 10, .inl z0)), (a6, .inl (cy, 10, .inl z0)), (a7, .inl (cy, 10, .inl z0)), (a8, .inl (cy, 10, .inl z0)), (a9, .inl (cy, 10, .inl z0))] H := hP
  have hD : va_D A [(h0, .inr (0, [.int 1, .ref a1, .ref a2, .int 0, .int 0, .ref a3, .int 0, .ref a4, .ref a5, .ref a6, .ref a7, .int 0, .ref a8, .ref a9, .long 0])), (a1, .inl (cy, 12, .inl z0)), (a2, .inl (cy, 12, .inl z0)), (a3, .inl (cy, 12, .inl z0)), (a4, .inl (cy, 10, .inl z0)), (a5, .inl (cy, 10, .inl z0)), (a6, .inl (cy, 10, .inl z0)), (a7, .inl (cy, 10, .inl z0)), (a8, .inl (cy, 10, .inl z0)), (a9, .inl (cy, 10, .inl z0))] := hD
  refine lv_aload_n hx hb dX0_init_101 rfl (lv_at hl 0 rfl) ?_
  refine lv_lconst (v := 0) hx hb dX0_init_102 (by decide) ?_
  refine va_put (D := D) (ci := 0) (v := .long 0) (ty := .long) (C := RX0) (T := TX0) (N := 15) hx hb hts hin tyX0 tyX0_ok nmX0 hown hK hP hD hS 0 rfl rfl 14 (by decide) (hts _ L53) (fun _ h9 => h9) rfl (by decide +kernel) rfl rfl (Nat.le_of_ble_eq_true rfl) dX0_init_103 (fun H locs hP hD hS => ?_)
  have hP : va_P D vwCl [(h0, .inr (0, [.int 1, .ref a1, .ref a2, .int 0, .int 0, .ref a3, .int 0, .ref a4, .ref a5, .ref a6, .ref a7, .int 0, .ref a8, .ref a9, .long 0])), (a1, .inl (cy, 12, .inl z0)), (a2, .inl (cy, 12, .inl z0)), (a3, .inl (cy, 12, .inl z0)), (a4, .inl (cy, 10, .inl z0)), (a5, .inl (cy, 10, .inl z0)), (a6, .inl (cy, 10, .inl z0)), (a7, .inl (cy, 10, .inl z0)), (a8, .inl (cy, 10, .inl z0)), (a9, .inl (cy, 10, .inl z0))] H := hP
  have hD : va_D A [(h0, .inr (0, [.int 1, .ref a1, .ref a2, .int 0, .int 0, .ref a3, .int 0, .ref a4, .ref a5, .ref a6, .ref a7, .int 0, .ref a8, .ref a9, .long 0])), (a1, .inl (cy, 12, .inl z0)), (a2, .inl (cy, 12, .inl z0)), (a3, .inl (cy, 12, .inl z0)), (a4, .inl (cy, 10, .inl z0)), (a5, .inl (cy, 10, .inl z0)), (a6, .inl (cy, 10, .inl z0)), (a7, .inl (cy, 10, .inl z0)), (a8, .inl (cy, 10, .inl z0)), (a9, .inl (cy, 10, .inl z0))] := hD
  refine lv_aload_n hx hb dX0_init_106 rfl (lv_at hl 0 rfl) ?_
  have hPX : va_P D vwCl (wX cy (qv h0 a1 a2 a3 a4 a5 a6 a7 a8 a9) (nI 1) 0 0 (nI 0) (nI 0) 0 z0 z0 z0 z0 z0 z0 z0 z0 z0) H := hP
  have hDX : va_D A (wX cy (qv h0 a1 a2 a3 a4 a5 a6 a7 a8 a9) (nI 1) 0 0 (nI 0) (nI 0) 0 z0 z0 z0 z0 z0 z0 z0 z0 z0) := hD
  refine cVw (As := []) (b := h0) ⟨hx, hb, hml, hown, hts⟩ hK hPX rfl rfl (kX0_orderByNumbers hPX (dX_aL hDX)) [] (cwV 0 hts gX0_init_X0_orderByNumbers rfl rfl rfl hdX0_orderByNumbers ⟨Nat.le_of_ble_eq_true rfl, Nat.le_of_ble_eq_true rfl⟩) rfl hl.1 rfl (Nat.le_of_ble_eq_true rfl) dX0_init_107 ⟨Nat.le_of_ble_eq_true rfl, Nat.le_of_ble_eq_true rfl⟩ hS (dX_A hDX) (fun H locs hP hz hkp hS => ?_)
  have hD := vD_same (w2 := wX cy (qv h0 a1 a2 a3 a4 a5 a6 a7 a8 a9) (nI 1) 0 0 (nI 0) (nI 0) 0 (idF z0 12) (idF z0 12) z0 z0 z0 z0 z0 z0 z0) (by rfl) hDX
  refine W.widen (k := 9) (n := 96) (by omega) (by omega) ?_
  exact W.vret hx hb hr (fun t ht hW => ⟨⟨(), rfl, trivial, cy, a1, a2, a3, a4, a5, a6, a7, a8, a9, by rw [ht]; exact hP, va_K.moved hW.alike hK, hD⟩, hS.F ht⟩) hS.2.2 dX0_init_110
set_option maxHeartbeats 4000000 in
set_option maxRecDepth 100000 in
theorem kX1_init {l : Launch} {D : va_G} {H : Heap} {h0 : Nat} (hP : va_P D vwCl [(h0, .inr (1, [.int 0, .null, .null, .int 0, .null, .null, .null, .int 0, .null, .null, .long 0, .null, .int 0, .int 0, .int 0, .null]))] H) (hD : va_D (fun z => z = h0 ∨ H.size ≤ z) [(h0, .inr (1, [.int 0, .null, .null, .int 0, .null, .null, .null, .int 0, .null, .null, .long 0, .null, .int 0, .int 0, .int 0, .null]))]) : Met l yX1_init wsX1_init { frames := 1, cells := 9, slots := 96, locals := 12 } (va_Pc [.ref h0] (fun U => U.heap = H ∧ va_K D vwCl [] U)) (va_Qv (fun _ : Unit => True) (fun (_ : Unit) t => ∃ (cy : ClassId) (a1 a2 a3 a4 a5 a6 a7 a8 a9 : Nat), va_P D vwCl (wM cy (qv h0 a1 a2 a3 a4 a5 a6 a7 a8 a9) (nI 1) (nI 0) (nI 0) 0 0 0 0 (idF z0 12) (fiF (-1) z0 12) z0 z0 z0 z0 z0 z0 z0) t.heap ∧ va_K D vwCl [(cy, .int)] t ∧ va_D (fun z => z = h0 ∨ H.size ≤ z) (wM cy (qv h0 a1 a2 a3 a4 a5 a6 a7 a8 a9) (nI 1) (nI 0) (nI 0) 0 0 0 0 (idF z0 12) (fiF (-1) z0 12) z0 z0 z0 z0 z0 z0 z0)) (fun z => z = h0 ∨ H.size ≤ z)) 9 96 (fun z => z = h0 ∨ H.size ≤ z) := by
  refine Met.ofW (cc := cX1_init) (maxL := 1) (ret := none) (by decide) rfl ?_
  intro p e s m args below meth c s₁ B hml hv
  obtain ⟨rfl, hH, hK⟩ := hv
  have hx := B.exec
  have hb := B.bytes
  have hr := B.returns
  have hts := atoms_spec (ws := wsX1_init) B.pre
  have hown : s.vm.findClass RX1 = some m.cls := findClass_of_methodNamed B.named
  have hlocks := B.notSynchronized
  have hnm : meth.name = "<init>" := (name_of_methodNamed B.named B.method).1
  subst hH
  have hin : ∀ w ∈ wsX10, w ∈ wsX1_init := by decide +kernel
  have L7 : Cond.fieldLink RX1 7 "TwoColoursModel" "n" "I" ∈ wsX1_init := by decide +kernel
  have L13 : Cond.fieldLink RX1 13 "TwoColoursModel" "second" "[I" ∈ wsX1_init := by decide +kernel
  have L17 : Cond.fieldLink RX1 17 "TwoColoursModel" "held" "[I" ∈ wsX1_init := by decide +kernel
  have L20 : Cond.fieldLink RX1 20 "TwoColoursModel" "kind" "[I" ∈ wsX1_init := by decide +kernel
  have L23 : Cond.fieldLink RX1 23 "TwoColoursModel" "from" "[I" ∈ wsX1_init := by decide +kernel
  have L26 : Cond.fieldLink RX1 26 "TwoColoursModel" "to" "[I" ∈ wsX1_init := by decide +kernel
  have L29 : Cond.fieldLink RX1 29 "TwoColoursModel" "stepX" "[I" ∈ wsX1_init := by decide +kernel
  have L32 : Cond.fieldLink RX1 32 "TwoColoursModel" "stepY" "[I" ∈ wsX1_init := by decide +kernel
  have L35 : Cond.fieldLink RX1 35 "TwoColoursModel" "heapBits" "[I" ∈ wsX1_init := by decide +kernel
  have L38 : Cond.fieldLink RX1 38 "TwoColoursModel" "colour" "[I" ∈ wsX1_init := by decide +kernel
  have L41 : Cond.fieldLink RX1 41 "TwoColoursModel" "heaps" "I" ∈ wsX1_init := by decide +kernel
  have hS : va_S (fun z => z = h0 ∨ s.heap.size ≤ z) s.heap s.heap [] := va_S.rf
  generalize hAe : (fun z => z = h0 ∨ s.heap.size ≤ z) = A at hD hS ⊢
  have hA : ∀ q : Nat, s.heap.size ≤ q → A q := fun q h => by rw [← hAe]; exact Or.inr h
  have hl := lv_entry ([.ref h0]) (n := 1) (Nat.le_of_ble_eq_true rfl)
  rw [lg_entry_eq]
  generalize (lg_sl ([.ref h0]) ++ List.replicate (1 - (lg_sl ([.ref h0])).length) Slot.unset).toArray = ls at hl ⊢
  have hl : lv_has ls 1 [(0, .ref h0)] := hl
  skip
  refine lv_aload_n hx hb dX1_init_0 rfl (lv_at hl 0 rfl) ?_
  refine W.objInit hx hb hown (hts (.methodLink RX1 1 objectInit) (by decide +kernel)) (hts (.instanceMethod objectInit) (by decide +kernel)) (hts (.code objectInit ⟨#[0xb1]⟩ 1 none) (by decide +kernel)) rfl (by rw [hml]; exact hl.1) rfl dX1_init_1 (Nat.le_of_ble_eq_true rfl) (Nat.le_of_ble_eq_true rfl) ?_
  refine W.eq (g2 := F0 m 4 ls []) rfl ?_
  refine lv_aload_n hx hb dX1_init_4 rfl (lv_at hl 0 rfl) ?_
  refine lv_iconst (v := 1) hx hb dX1_init_5 (by decide) ?_
  refine va_put (D := D) (ci := 1) (v := .int 1) (ty := .int) (C := RX1) (T := TX1) (N := 16) hx hb hts hin tyX1 tyX1_ok nmX1 hown hK hP hD hS 0 rfl rfl 0 (by decide) (hts _ L7) (fun _ h9 => h9) rfl (by decide +kernel) rfl rfl (Nat.le_of_ble_eq_true rfl) dX1_init_6 (fun H locs hP hD hS => ?_)
  have hP : va_P D vwCl [(h0, .inr (1, [.int 1, .null, .null, .int 0, .null, .null, .null, .int 0, .null, .null, .long 0, .null, .int 0, .int 0, .int 0, .null]))] H := hP
  have hD : va_D A [(h0, .inr (1, [.int 1, .null, .null, .int 0, .null, .null, .null, .int 0, .null, .null, .long 0, .null, .int 0, .int 0, .int 0, .null]))] := hD
  refine lv_aload_n hx hb dX1_init_9 rfl (lv_at hl 0 rfl) ?_
  refine lv_bipush (v := 12) hx hb dX1_init_10 (by decide) ?_
  refine naF (n2 := 12) hx hb (hts (.arrayClass .int) (by decide +kernel)) hK hP hD hS hA (by decide) (by decide) (by decide) (Nat.le_of_ble_eq_true rfl) (Nat.le_of_ble_eq_true rfl) dX1_init_12 (fun a1 cy H hK hP hD hS => ?_)
  have hP : va_P D vwCl [(h0, .inr (1, [.int 1, .null, .null, .int 0, .null, .null, .null, .int 0, .null, .null, .long 0, .null, .int 0, .int 0, .int 0, .null])), (a1, .inl (cy, 12, .inl z0))] H := hP
  have hD : va_D A [(h0, .inr (1, [.int 1, .null, .null, .int 0, .null, .null, .null, .int 0, .null, .null, .long 0, .null, .int 0, .int 0, .int 0, .null])), (a1, .inl (cy, 12, .inl z0))] := hD
  refine lv_dup hx hb dX1_init_14 rfl ?_
  refine lv_iconst (v := 0) hx hb dX1_init_15 (by decide) ?_
  refine lv_iconst (v := 0) hx hb dX1_init_16 (by decide) ?_
  refine stG (q0 := 1) (j := 0) hx hb hK hP hD hS rfl rfl (by decide) (by decide) dX1_init_17 (fun H locs hP hD hS => ?_)
  have hP : va_P D vwCl [(h0, .inr (1, [.int 1, .null, .null, .int 0, .null, .null, .null, .int 0, .null, .null, .long 0, .null, .int 0, .int 0, .int 0, .null])), (a1, .inl (cy, 12, .inl (upd z0 0 0)))] H := hP
  have hD : va_D A [(h0, .inr (1, [.int 1, .null, .null, .int 0, .null, .null, .null, .int 0, .null, .null, .long 0, .null, .int 0, .int 0, .int 0, .null])), (a1, .inl (cy, 12, .inl (upd z0 0 0)))] := hD
  refine lv_dup hx hb dX1_init_18 rfl ?_
  refine lv_iconst (v := 1) hx hb dX1_init_19 (by decide) ?_
  refine lv_iconst (v := 1) hx hb dX1_init_20 (by decide) ?_
  refine stG (q0 := 1) (j := 1) hx hb hK hP hD hS rfl rfl (by decide) (by decide) dX1_init_21 (fun H locs hP hD hS => ?_)
  have hP : va_P D vwCl [(h0, .inr (1, [.int 1, .null, .null, .int 0, .null, .null, .null, .int 0, .null, .null, .long 0, .null, .int 0, .int 0, .int 0, .null])), (a1, .inl (cy, 12, .inl (upd (upd z0 0 0) 1 1)))] H := hP
  have hD : va_D A [(h0, .inr (1, [.int 1, .null, .null, .int 0, .null, .null, .null, .int 0, .null, .null, .long 0, .null, .int 0, .int 0, .int 0, .null])), (a1, .inl (cy, 12, .inl (upd (upd z0 0 0) 1 1)))] := hD
  refine lv_dup hx hb dX1_init_22 rfl ?_
  refine lv_iconst (v := 2) hx hb dX1_init_23 (by decide) ?_
  refine lv_iconst (v := 2) hx hb dX1_init_24 (by decide) ?_
  refine stG (q0 := 1) (j := 2) hx hb hK hP hD hS rfl rfl (by decide) (by decide) dX1_init_25 (fun H locs hP hD hS => ?_)
  have hP : va_P D vwCl [(h0, .inr (1, [.int 1, .null, .null, .int 0, .null, .null, .null, .int 0, .null, .null, .long 0, .null, .int 0, .int 0, .int 0, .null])), (a1, .inl (cy, 12, .inl (upd (upd (upd z0 0 0) 1 1) 2 2)))] H := hP
  have hD : va_D A [(h0, .inr (1, [.int 1, .null, .null, .int 0, .null, .null, .null, .int 0, .null, .null, .long 0, .null, .int 0, .int 0, .int 0, .null])), (a1, .inl (cy, 12, .inl (upd (upd (upd z0 0 0) 1 1) 2 2)))] := hD
  refine lv_dup hx hb dX1_init_26 rfl ?_
  refine lv_iconst (v := 3) hx hb dX1_init_27 (by decide) ?_
  refine lv_iconst (v := 3) hx hb dX1_init_28 (by decide) ?_
  refine stG (q0 := 1) (j := 3) hx hb hK hP hD hS rfl rfl (by decide) (by decide) dX1_init_29 (fun H locs hP hD hS => ?_)
  have hP : va_P D vwCl [(h0, .inr (1, [.int 1, .null, .null, .int 0, .null, .null, .null, .int 0, .null, .null, .long 0, .null, .int 0, .int 0, .int 0, .null])), (a1, .inl (cy, 12, .inl (upd (upd (upd (upd z0 0 0) 1 1) 2 2) 3 3)))] H := hP
  have hD : va_D A [(h0, .inr (1, [.int 1, .null, .null, .int 0, .null, .null, .null, .int 0, .null, .null, .long 0, .null, .int 0, .int 0, .int 0, .null])), (a1, .inl (cy, 12, .inl (upd (upd (upd (upd z0 0 0) 1 1) 2 2) 3 3)))] := hD
  refine lv_dup hx hb dX1_init_30 rfl ?_
  refine lv_iconst (v := 4) hx hb dX1_init_31 (by decide) ?_
  refine lv_iconst (v := 4) hx hb dX1_init_32 (by decide) ?_
  refine stG (q0 := 1) (j := 4) hx hb hK hP hD hS rfl rfl (by decide) (by decide) dX1_init_33 (fun H locs hP hD hS => ?_)
  have hP : va_P D vwCl [(h0, .inr (1, [.int 1, .null, .null, .int 0, .null, .null, .null, .int 0, .null, .null, .long 0, .null, .int 0, .int 0, .int 0, .null])), (a1, .inl (cy, 12, .inl (upd (upd (upd (upd (upd z0 0 0) 1 1) 2 2) 3 3) 4 4)))] H := hP
  have hD : va_D A [(h0, .inr (1, [.int 1, .null, .null, .int 0, .null, .null, .null, .int 0, .null, .null, .long 0, .null, .int 0, .int 0, .int 0, .null])), (a1, .inl (cy, 12, .inl (upd (upd (upd (upd (upd z0 0 0) 1 1) 2 2) 3 3) 4 4)))] := hD
  refine lv_dup hx hb dX1_init_34 rfl ?_
  refine lv_iconst (v := 5) hx hb dX1_init_35 (by decide) ?_
  refine lv_iconst (v := 5) hx hb dX1_init_36 (by decide) ?_
  refine stG (q0 := 1) (j := 5) hx hb hK hP hD hS rfl rfl (by decide) (by decide) dX1_init_37 (fun H locs hP hD hS => ?_)
  have hP : va_P D vwCl [(h0, .inr (1, [.int 1, .null, .null, .int 0, .null, .null, .null, .int 0, .null, .null, .long 0, .null, .int 0, .int 0, .int 0, .null])), (a1, .inl (cy, 12, .inl (upd (upd (upd (upd (upd (upd z0 0 0) 1 1) 2 2) 3 3) 4 4) 5 5)))] H := hP
  have hD : va_D A [(h0, .inr (1, [.int 1, .null, .null, .int 0, .null, .null, .null, .int 0, .null, .null, .long 0, .null, .int 0, .int 0, .int 0, .null])), (a1, .inl (cy, 12, .inl (upd (upd (upd (upd (upd (upd z0 0 0) 1 1) 2 2) 3 3) 4 4) 5 5)))] := hD
  refine lv_dup hx hb dX1_init_38 rfl ?_
  refine lv_bipush (v := 6) hx hb dX1_init_39 (by decide) ?_
  refine lv_bipush (v := 6) hx hb dX1_init_41 (by decide) ?_
  refine stG (q0 := 1) (j := 6) hx hb hK hP hD hS rfl rfl (by decide) (by decide) dX1_init_43 (fun H locs hP hD hS => ?_)
  have hP : va_P D vwCl [(h0, .inr (1, [.int 1, .null, .null, .int 0, .null, .null, .null, .int 0, .null, .null, .long 0, .null, .int 0, .int 0, .int 0, .null])), (a1, .inl (cy, 12, .inl (upd (upd (upd (upd (upd (upd (upd z0 0 0) 1 1) 2 2) 3 3) 4 4) 5 5) 6 6)))] H := hP
  have hD : va_D A [(h0, .inr (1, [.int 1, .null, .null, .int 0, .null, .null, .null, .int 0, .null, .null, .long 0, .null, .int 0, .int 0, .int 0, .null])), (a1, .inl (cy, 12, .inl (upd (upd (upd (upd (upd (upd (upd z0 0 0) 1 1) 2 2) 3 3) 4 4) 5 5) 6 6)))] := hD
  refine lv_dup hx hb dX1_init_44 rfl ?_
  refine lv_bipush (v := 7) hx hb dX1_init_45 (by decide) ?_
  refine lv_bipush (v := 7) hx hb dX1_init_47 (by decide) ?_
  refine stG (q0 := 1) (j := 7) hx hb hK hP hD hS rfl rfl (by decide) (by decide) dX1_init_49 (fun H locs hP hD hS => ?_)
  have hP : va_P D vwCl [(h0, .inr (1, [.int 1, .null, .null, .int 0, .null, .null, .null, .int 0, .null, .null, .long 0, .null, .int 0, .int 0, .int 0, .null])), (a1, .inl (cy, 12, .inl (upd (upd (upd (upd (upd (upd (upd (upd z0 0 0) 1 1) 2 2) 3 3) 4 4) 5 5) 6 6) 7 7)))] H := hP
  have hD : va_D A [(h0, .inr (1, [.int 1, .null, .null, .int 0, .null, .null, .null, .int 0, .null, .null, .long 0, .null, .int 0, .int 0, .int 0, .null])), (a1, .inl (cy, 12, .inl (upd (upd (upd (upd (upd (upd (upd (upd z0 0 0) 1 1) 2 2) 3 3) 4 4) 5 5) 6 6) 7 7)))] := hD
  refine lv_dup hx hb dX1_init_50 rfl ?_
  refine lv_bipush (v := 8) hx hb dX1_init_51 (by decide) ?_
  refine lv_bipush (v := 8) hx hb dX1_init_53 (by decide) ?_
  refine stG (q0 := 1) (j := 8) hx hb hK hP hD hS rfl rfl (by decide) (by decide) dX1_init_55 (fun H locs hP hD hS => ?_)
  have hP : va_P D vwCl [(h0, .inr (1, [.int 1, .null, .null, .int 0, .null, .null, .null, .int 0, .null, .null, .long 0, .null, .int 0, .int 0, .int 0, .null])), (a1, .inl (cy, 12, .inl (upd (upd (upd (upd (upd (upd (upd (upd (upd z0 0 0) 1 1) 2 2) 3 3) 4 4) 5 5) 6 6) 7 7) 8 8)))] H := hP
  have hD : va_D A [(h0, .inr (1, [.int 1, .null, .null, .int 0, .null, .null, .null, .int 0, .null, .null, .long 0, .null, .int 0, .int 0, .int 0, .null])), (a1, .inl (cy, 12, .inl (upd (upd (upd (upd (upd (upd (upd (upd (upd z0 0 0) 1 1) 2 2) 3 3) 4 4) 5 5) 6 6) 7 7) 8 8)))] := hD
  refine lv_dup hx hb dX1_init_56 rfl ?_
  refine lv_bipush (v := 9) hx hb dX1_init_57 (by decide) ?_
  refine lv_bipush (v := 9) hx hb dX1_init_59 (by decide) ?_
  refine stG (q0 := 1) (j := 9) hx hb hK hP hD hS rfl rfl (by decide) (by decide) dX1_init_61 (fun H locs hP hD hS => ?_)
  have hP : va_P D vwCl [(h0, .inr (1, [.int 1, .null, .null, .int 0, .null, .null, .null, .int 0, .null, .null, .long 0, .null, .int 0, .int 0, .int 0, .null])), (a1, .inl (cy, 12, .inl (upd (upd (upd (upd (upd (upd (upd (upd (upd (upd z0 0 0) 1 1) 2 2) 3 3) 4 4) 5 5) 6 6) 7 7) 8 8) 9 9)))] H := hP
  have hD : va_D A [(h0, .inr (1, [.int 1, .null, .null, .int 0, .null, .null, .null, .int 0, .null, .null, .long 0, .null, .int 0, .int 0, .int 0, .null])), (a1, .inl (cy, 12, .inl (upd (upd (upd (upd (upd (upd (upd (upd (upd (upd z0 0 0) 1 1) 2 2) 3 3) 4 4) 5 5) 6 6) 7 7) 8 8) 9 9)))] := hD
  refine lv_dup hx hb dX1_init_62 rfl ?_
  refine lv_bipush (v := 10) hx hb dX1_init_63 (by decide) ?_
  refine lv_bipush (v := 10) hx hb dX1_init_65 (by decide) ?_
  refine stG (q0 := 1) (j := 10) hx hb hK hP hD hS rfl rfl (by decide) (by decide) dX1_init_67 (fun H locs hP hD hS => ?_)
  have hP : va_P D vwCl [(h0, .inr (1, [.int 1, .null, .null, .int 0, .null, .null, .null, .int 0, .null, .null, .long 0, .null, .int 0, .int 0, .int 0, .null])), (a1, .inl (cy, 12, .inl (upd (upd (upd (upd (upd (upd (upd (upd (upd (upd (upd z0 0 0) 1 1) 2 2) 3 3) 4 4) 5 5) 6 6) 7 7) 8 8) 9 9) 10 10)))] H := hP
  have hD : va_D A [(h0, .inr (1, [.int 1, .null, .null, .int 0, .null, .null, .null, .int 0, .null, .null, .long 0, .null, .int 0, .int 0, .int 0, .null])), (a1, .inl (cy, 12, .inl (upd (upd (upd (upd (upd (upd (upd (upd (upd (upd (upd z0 0 0) 1 1) 2 2) 3 3) 4 4) 5 5) 6 6) 7 7) 8 8) 9 9) 10 10)))] := hD
  refine lv_dup hx hb dX1_init_68 rfl ?_
  refine lv_bipush (v := 11) hx hb dX1_init_69 (by decide) ?_
  refine lv_bipush (v := 11) hx hb dX1_init_71 (by decide) ?_
  refine stG (q0 := 1) (j := 11) hx hb hK hP hD hS rfl rfl (by decide) (by decide) dX1_init_73 (fun H locs hP hD hS => ?_)
  have hP : va_P D vwCl [(h0, .inr (1, [.int 1, .null, .null, .int 0, .null, .null, .null, .int 0, .null, .null, .long 0, .null, .int 0, .int 0, .int 0, .null])), (a1, .inl (cy, 12, .inl (upd (upd (upd (upd (upd (upd (upd (upd (upd (upd (upd (upd z0 0 0) 1 1) 2 2) 3 3) 4 4) 5 5) 6 6) 7 7) 8 8) 9 9) 10 10) 11 11)))] H := hP
  have hD : va_D A [(h0, .inr (1, [.int 1, .null, .null, .int 0, .null, .null, .null, .int 0, .null, .null, .long 0, .null, .int 0, .int 0, .int 0, .null])), (a1, .inl (cy, 12, .inl (upd (upd (upd (upd (upd (upd (upd (upd (upd (upd (upd (upd z0 0 0) 1 1) 2 2) 3 3) 4 4) 5 5) 6 6) 7 7) 8 8) 9 9) 10 10) 11 11)))] := hD
  refine va_putF (D := D) (ci := 1) (v := .ref a1) (ty := .array .int) (C := RX1) (T := TX1) (N := 16) hx hb hts hin tyX1 tyX1_ok nmX1 hown hK hP hD hS 0 rfl rfl 1 (by decide) (hts _ L13) (fun _ h9 => h9) rfl hnm rfl (by decide +kernel) rfl rfl (Nat.le_of_ble_eq_true rfl) dX1_init_74 (fun H locs hP hD hS => ?_)
  have hP : va_P D vwCl [(h0, .inr (1, [.int 1, .ref a1, .null, .int 0, .null, .null, .null, .int 0, .null, .null, .long 0, .null, .int 0, .int 0, .int 0, .null])), (a1, .inl (cy, 12, .inl (upd (upd (upd (upd (upd (upd (upd (upd (upd (upd (upd (upd z0 0 0) 1 1) 2 2) 3 3) 4 4) 5 5) 6 6) 7 7) 8 8) 9 9) 10 10) 11 11)))] H := hP
  have hD : va_D A [(h0, .inr (1, [.int 1, .ref a1, .null, .int 0, .null, .null, .null, .int 0, .null, .null, .long 0, .null, .int 0, .int 0, .int 0, .null])), (a1, .inl (cy, 12, .inl (upd (upd (upd (upd (upd (upd (upd (upd (upd (upd (upd (upd z0 0 0) 1 1) 2 2) 3 3) 4 4) 5 5) 6 6) 7 7) 8 8) 9 9) 10 10) 11 11)))] := hD
  refine lv_aload_n hx hb dX1_init_77 rfl (lv_at hl 0 rfl) ?_
  refine lv_bipush (v := 12) hx hb dX1_init_78 (by decide) ?_
  refine naI (n2 := 12) hx hb (hts (.arrayClass .int) (by decide +kernel)) hK hP hD hS hA (by decide) (by decide) (by decide) (Nat.le_of_ble_eq_true rfl) (Nat.le_of_ble_eq_true rfl) dX1_init_80 (fun a2 H hP hD hS => ?_)
  have hP : va_P D vwCl [(h0, .inr (1, [.int 1, .ref a1, .null, .int 0, .null, .null, .null, .int 0, .null, .null, .long 0, .null, .int 0, .int 0, .int 0, .null])), (a1, .inl (cy, 12, .inl (upd (upd (upd (upd (upd (upd (upd (upd (upd (upd (upd (upd z0 0 0) 1 1) 2 2) 3 3) 4 4) 5 5) 6 6) 7 7) 8 8) 9 9) 10 10) 11 11))), (a2, .inl (cy, 12, .inl z0))] H := hP
  have hD : va_D A [(h0, .inr (1, [.int 1, .ref a1, .null, .int 0, .null, .null, .null, .int 0, .null, .null, .long 0, .null, .int 0, .int 0, .int 0, .null])), (a1, .inl (cy, 12, .inl (upd (upd (upd (upd (upd (upd (upd (upd (upd (upd (upd (upd z0 0 0) 1 1) 2 2) 3 3) 4 4) 5 5) 6 6) 7 7) 8 8) 9 9) 10 10) 11 11))), (a2, .inl (cy, 12, .inl z0))] := hD
  refine lv_dup hx hb dX1_init_82 rfl ?_
  refine lv_iconst (v := 0) hx hb dX1_init_83 (by decide) ?_
  refine lv_iconst (v := (-1)) hx hb dX1_init_84 (by decide) ?_
  refine stG (q0 := 2) (j := 0) hx hb hK hP hD hS rfl rfl (by decide) (by decide) dX1_init_85 (fun H locs hP hD hS => ?_)
  have hP : va_P D vwCl [(h0, .inr (1, [.int 1, .ref a1, .null, .int 0, .null, .null, .null, .int 0, .null, .null, .long 0, .null, .int 0, .int 0, .int 0, .null])), (a1, .inl (cy, 12, .inl (upd (upd (upd (upd (upd (upd (upd (upd (upd (upd (upd (upd z0 0 0) 1 1) 2 2) 3 3) 4 4) 5 5) 6 6) 7 7) 8 8) 9 9) 10 10) 11 11))), (a2, .inl (cy, 12, .inl (upd z0 0 (-1))))] H := hP
  have hD : va_D A [(h0, .inr (1, [.int 1, .ref a1, .null, .int 0, .null, .null, .null, .int 0, .null, .null, .long 0, .null, .int 0, .int 0, .int 0, .null])), (a1, .inl (cy, 12, .inl (upd (upd (upd (upd (upd (upd (upd (upd (upd (upd (upd (upd z0 0 0) 1 1) 2 2) 3 3) 4 4) 5 5) 6 6) 7 7) 8 8) 9 9) 10 10) 11 11))), (a2, .inl (cy, 12, .inl (upd z0 0 (-1))))] := hD
  refine lv_dup hx hb dX1_init_86 rfl ?_
  refine lv_iconst (v := 1) hx hb dX1_init_87 (by decide) ?_
  refine lv_iconst (v := (-1)) hx hb dX1_init_88 (by decide) ?_
  refine stG (q0 := 2) (j := 1) hx hb hK hP hD hS rfl rfl (by decide) (by decide) dX1_init_89 (fun H locs hP hD hS => ?_)
  have hP : va_P D vwCl [(h0, .inr (1, [.int 1, .ref a1, .null, .int 0, .null, .null, .null, .int 0, .null, .null, .long 0, .null, .int 0, .int 0, .int 0, .null])), (a1, .inl (cy, 12, .inl (upd (upd (upd (upd (upd (upd (upd (upd (upd (upd (upd (upd z0 0 0) 1 1) 2 2) 3 3) 4 4) 5 5) 6 6) 7 7) 8 8) 9 9) 10 10) 11 11))), (a2, .inl (cy, 12, .inl (upd (upd z0 0 (-1)) 1 (-1))))] H := hP
  have hD : va_D A [(h0, .inr (1, [.int 1, .ref a1, .null, .int 0, .null, .null, .null, .int 0, .null, .null, .long 0, .null, .int 0, .int 0, .int 0, .null])), (a1, .inl (cy, 12, .inl (upd (upd (upd (upd (upd (upd (upd (upd (upd (upd (upd (upd z0 0 0) 1 1) 2 2) 3 3) 4 4) 5 5) 6 6) 7 7) 8 8) 9 9) 10 10) 11 11))), (a2, .inl (cy, 12, .inl (upd (upd z0 0 (-1)) 1 (-1))))] := hD
  refine lv_dup hx hb dX1_init_90 rfl ?_
  refine lv_iconst (v := 2) hx hb dX1_init_91 (by decide) ?_
  refine lv_iconst (v := (-1)) hx hb dX1_init_92 (by decide) ?_
  refine stG (q0 := 2) (j := 2) hx hb hK hP hD hS rfl rfl (by decide) (by decide) dX1_init_93 (fun H locs hP hD hS => ?_)
  have hP : va_P D vwCl [(h0, .inr (1, [.int 1, .ref a1, .null, .int 0, .null, .null, .null, .int 0, .null, .null, .long 0, .null, .int 0, .int 0, .int 0, .null])), (a1, .inl (cy, 12, .inl (upd (upd (upd (upd (upd (upd (upd (upd (upd (upd (upd (upd z0 0 0) 1 1) 2 2) 3 3) 4 4) 5 5) 6 6) 7 7) 8 8) 9 9) 10 10) 11 11))), (a2, .inl (cy, 12, .inl (upd (upd (upd z0 0 (-1)) 1 (-1)) 2 (-1))))] H := hP
  have hD : va_D A [(h0, .inr (1, [.int 1, .ref a1, .null, .int 0, .null, .null, .null, .int 0, .null, .null, .long 0, .null, .int 0, .int 0, .int 0, .null])), (a1, .inl (cy, 12, .inl (upd (upd (upd (upd (upd (upd (upd (upd (upd (upd (upd (upd z0 0 0) 1 1) 2 2) 3 3) 4 4) 5 5) 6 6) 7 7) 8 8) 9 9) 10 10) 11 11))), (a2, .inl (cy, 12, .inl (upd (upd (upd z0 0 (-1)) 1 (-1)) 2 (-1))))] := hD
  refine lv_dup hx hb dX1_init_94 rfl ?_
  refine lv_iconst (v := 3) hx hb dX1_init_95 (by decide) ?_
  refine lv_iconst (v := (-1)) hx hb dX1_init_96 (by decide) ?_
  refine stG (q0 := 2) (j := 3) hx hb hK hP hD hS rfl rfl (by decide) (by decide) dX1_init_97 (fun H locs hP hD hS => ?_)
  have hP : va_P D vwCl [(h0, .inr (1, [.int 1, .ref a1, .null, .int 0, .null, .null, .null, .int 0, .null, .null, .long 0, .null, .int 0, .int 0, .int 0, .null])), (a1, .inl (cy, 12, .inl (upd (upd (upd (upd (upd (upd (upd (upd (upd (upd (upd (upd z0 0 0) 1 1) 2 2) 3 3) 4 4) 5 5) 6 6) 7 7) 8 8) 9 9) 10 10) 11 11))), (a2, .inl (cy, 12, .inl (upd (upd (upd (upd z0 0 (-1)) 1 (-1)) 2 (-1)) 3 (-1))))] H := hP
  have hD : va_D A [(h0, .inr (1, [.int 1, .ref a1, .null, .int 0, .null, .null, .null, .int 0, .null, .null, .long 0, .null, .int 0, .int 0, .int 0, .null])), (a1, .inl (cy, 12, .inl (upd (upd (upd (upd (upd (upd (upd (upd (upd (upd (upd (upd z0 0 0) 1 1) 2 2) 3 3) 4 4) 5 5) 6 6) 7 7) 8 8) 9 9) 10 10) 11 11))), (a2, .inl (cy, 12, .inl (upd (upd (upd (upd z0 0 (-1)) 1 (-1)) 2 (-1)) 3 (-1))))] := hD
  refine lv_dup hx hb dX1_init_98 rfl ?_
  refine lv_iconst (v := 4) hx hb dX1_init_99 (by decide) ?_
  refine lv_iconst (v := (-1)) hx hb dX1_init_100 (by decide) ?_
  refine stG (q0 := 2) (j := 4) hx hb hK hP hD hS rfl rfl (by decide) (by decide) dX1_init_101 (fun H locs hP hD hS => ?_)
  have hP : va_P D vwCl [(h0, .inr (1, [.int 1, .ref a1, .null, .int 0, .null, .null, .null, .int 0, .null, .null, .long 0, .null, .int 0, .int 0, .int 0, .null])), (a1, .inl (cy, 12, .inl (upd (upd (upd (upd (upd (upd (upd (upd (upd (upd (upd (upd z0 0 0) 1 1) 2 2) 3 3) 4 4) 5 5) 6 6) 7 7) 8 8) 9 9) 10 10) 11 11))), (a2, .inl (cy, 12, .inl (upd (upd (upd (upd (upd z0 0 (-1)) 1 (-1)) 2 (-1)) 3 (-1)) 4 (-1))))] H := hP
  have hD : va_D A [(h0, .inr (1, [.int 1, .ref a1, .null, .int 0, .null, .null, .null, .int 0, .null, .null, .long 0, .null, .int 0, .int 0, .int 0, .null])), (a1, .inl (cy, 12, .inl (upd (upd (upd (upd (upd (upd (upd (upd (upd (upd (upd (upd z0 0 0) 1 1) 2 2) 3 3) 4 4) 5 5) 6 6) 7 7) 8 8) 9 9) 10 10) 11 11))), (a2, .inl (cy, 12, .inl (upd (upd (upd (upd (upd z0 0 (-1)) 1 (-1)) 2 (-1)) 3 (-1)) 4 (-1))))] := hD
  refine lv_dup hx hb dX1_init_102 rfl ?_
  refine lv_iconst (v := 5) hx hb dX1_init_103 (by decide) ?_
  refine lv_iconst (v := (-1)) hx hb dX1_init_104 (by decide) ?_
  refine stG (q0 := 2) (j := 5) hx hb hK hP hD hS rfl rfl (by decide) (by decide) dX1_init_105 (fun H locs hP hD hS => ?_)
  have hP : va_P D vwCl [(h0, .inr (1, [.int 1, .ref a1, .null, .int 0, .null, .null, .null, .int 0, .null, .null, .long 0, .null, .int 0, .int 0, .int 0, .null])), (a1, .inl (cy, 12, .inl (upd (upd (upd (upd (upd (upd (upd (upd (upd (upd (upd (upd z0 0 0) 1 1) 2 2) 3 3) 4 4) 5 5) 6 6) 7 7) 8 8) 9 9) 10 10) 11 11))), (a2, .inl (cy, 12, .inl (upd (upd (upd (upd (upd (upd z0 0 (-1)) 1 (-1)) 2 (-1)) 3 (-1)) 4 (-1)) 5 (-1))))] H := hP
  have hD : va_D A [(h0, .inr (1, [.int 1, .ref a1, .null, .int 0, .null, .null, .null, .int 0, .null, .null, .long 0, .null, .int 0, .int 0, .int 0, .null])), (a1, .inl (cy, 12, .inl (upd (upd (upd (upd (upd (upd (upd (upd (upd (upd (upd (upd z0 0 0) 1 1) 2 2) 3 3) 4 4) 5 5) 6 6) 7 7) 8 8) 9 9) 10 10) 11 11))), (a2, .inl (cy, 12, .inl (upd (upd (upd (upd (upd (upd z0 0 (-1)) 1 (-1)) 2 (-1)) 3 (-1)) 4 (-1)) 5 (-1))))] := hD
  refine lv_dup hx hb dX1_init_106 rfl ?_
  refine lv_bipush (v := 6) hx hb dX1_init_107 (by decide) ?_
  refine lv_iconst (v := (-1)) hx hb dX1_init_109 (by decide) ?_
  refine stG (q0 := 2) (j := 6) hx hb hK hP hD hS rfl rfl (by decide) (by decide) dX1_init_110 (fun H locs hP hD hS => ?_)
  have hP : va_P D vwCl [(h0, .inr (1, [.int 1, .ref a1, .null, .int 0, .null, .null, .null, .int 0, .null, .null, .long 0, .null, .int 0, .int 0, .int 0, .null])), (a1, .inl (cy, 12, .inl (upd (upd (upd (upd (upd (upd (upd (upd (upd (upd (upd (upd z0 0 0) 1 1) 2 2) 3 3) 4 4) 5 5) 6 6) 7 7) 8 8) 9 9) 10 10) 11 11))), (a2, .inl (cy, 12, .inl (upd (upd (upd (upd (upd (upd (upd z0 0 (-1)) 1 (-1)) 2 (-1)) 3 (-1)) 4 (-1)) 5 (-1)) 6 (-1))))] H := hP
  have hD : va_D A [(h0, .inr (1, [.int 1, .ref a1, .null, .int 0, .null, .null, .null, .int 0, .null, .null, .long 0, .null, .int 0, .int 0, .int 0, .null])), (a1, .inl (cy, 12, .inl (upd (upd (upd (upd (upd (upd (upd (upd (upd (upd (upd (upd z0 0 0) 1 1) 2 2) 3 3) 4 4) 5 5) 6 6) 7 7) 8 8) 9 9) 10 10) 11 11))), (a2, .inl (cy, 12, .inl (upd (upd (upd (upd (upd (upd (upd z0 0 (-1)) 1 (-1)) 2 (-1)) 3 (-1)) 4 (-1)) 5 (-1)) 6 (-1))))] := hD
  refine lv_dup hx hb dX1_init_111 rfl ?_
  refine lv_bipush (v := 7) hx hb dX1_init_112 (by decide) ?_
  refine lv_iconst (v := (-1)) hx hb dX1_init_114 (by decide) ?_
  refine stG (q0 := 2) (j := 7) hx hb hK hP hD hS rfl rfl (by decide) (by decide) dX1_init_115 (fun H locs hP hD hS => ?_)
  have hP : va_P D vwCl [(h0, .inr (1, [.int 1, .ref a1, .null, .int 0, .null, .null, .null, .int 0, .null, .null, .long 0, .null, .int 0, .int 0, .int 0, .null])), (a1, .inl (cy, 12, .inl (upd (upd (upd (upd (upd (upd (upd (upd (upd (upd (upd (upd z0 0 0) 1 1) 2 2) 3 3) 4 4) 5 5) 6 6) 7 7) 8 8) 9 9) 10 10) 11 11))), (a2, .inl (cy, 12, .inl (upd (upd (upd (upd (upd (upd (upd (upd z0 0 (-1)) 1 (-1)) 2 (-1)) 3 (-1)) 4 (-1)) 5 (-1)) 6 (-1)) 7 (-1))))] H := hP
  have hD : va_D A [(h0, .inr (1, [.int 1, .ref a1, .null, .int 0, .null, .null, .null, .int 0, .null, .null, .long 0, .null, .int 0, .int 0, .int 0, .null])), (a1, .inl (cy, 12, .inl (upd (upd (upd (upd (upd (upd (upd (upd (upd (upd (upd (upd z0 0 0) 1 1) 2 2) 3 3) 4 4) 5 5) 6 6) 7 7) 8 8) 9 9) 10 10) 11 11))), (a2, .inl (cy, 12, .inl (upd (upd (upd (upd (upd (upd (upd (upd z0 0 (-1)) 1 (-1)) 2 (-1)) 3 (-1)) 4 (-1)) 5 (-1)) 6 (-1)) 7 (-1))))] := hD
  refine lv_dup hx hb dX1_init_116 rfl ?_
  refine lv_bipush (v := 8) hx hb dX1_init_117 (by decide) ?_
  refine lv_iconst (v := (-1)) hx hb dX1_init_119 (by decide) ?_
  refine stG (q0 := 2) (j := 8) hx hb hK hP hD hS rfl rfl (by decide) (by decide) dX1_init_120 (fun H locs hP hD hS => ?_)
  have hP : va_P D vwCl [(h0, .inr (1, [.int 1, .ref a1, .null, .int 0, .null, .null, .null, .int 0, .null, .null, .long 0, .null, .int 0, .int 0, .int 0, .null])), (a1, .inl (cy, 12, .inl (upd (upd (upd (upd (upd (upd (upd (upd (upd (upd (upd (upd z0 0 0) 1 1) 2 2) 3 3) 4 4) 5 5) 6 6) 7 7) 8 8) 9 9) 10 10) 11 11))), (a2, .inl (cy, 12, .inl (upd (upd (upd (upd (upd (upd (upd (upd (upd z0 0 (-1)) 1 (-1)) 2 (-1)) 3 (-1)) 4 (-1)) 5 (-1)) 6 (-1)) 7 (-1)) 8 (-1))))] H := hP
  have hD : va_D A [(h0, .inr (1, [.int 1, .ref a1, .null, .int 0, .null, .null, .null, .int 0, .null, .null, .long 0, .null, .int 0, .int 0, .int 0, .null])), (a1, .inl (cy, 12, .inl (upd (upd (upd (upd (upd (upd (upd (upd (upd (upd (upd (upd z0 0 0) 1 1) 2 2) 3 3) 4 4) 5 5) 6 6) 7 7) 8 8) 9 9) 10 10) 11 11))), (a2, .inl (cy, 12, .inl (upd (upd (upd (upd (upd (upd (upd (upd (upd z0 0 (-1)) 1 (-1)) 2 (-1)) 3 (-1)) 4 (-1)) 5 (-1)) 6 (-1)) 7 (-1)) 8 (-1))))] := hD
  refine lv_dup hx hb dX1_init_121 rfl ?_
  refine lv_bipush (v := 9) hx hb dX1_init_122 (by decide) ?_
  refine lv_iconst (v := (-1)) hx hb dX1_init_124 (by decide) ?_
  refine stG (q0 := 2) (j := 9) hx hb hK hP hD hS rfl rfl (by decide) (by decide) dX1_init_125 (fun H locs hP hD hS => ?_)
  have hP : va_P D vwCl [(h0, .inr (1, [.int 1, .ref a1, .null, .int 0, .null, .null, .null, .int 0, .null, .null, .long 0, .null, .int 0, .int 0, .int 0, .null])), (a1, .inl (cy, 12, .inl (upd (upd (upd (upd (upd (upd (upd (upd (upd (upd (upd (upd z0 0 0) 1 1) 2 2) 3 3) 4 4) 5 5) 6 6) 7 7) 8 8) 9 9) 10 10) 11 11))), (a2, .inl (cy, 12, .inl (upd (upd (upd (upd (upd (upd (upd (upd (upd (upd z0 0 (-1)) 1 (-1)) 2 (-1)) 3 (-1)) 4 (-1)) 5 (-1)) 6 (-1)) 7 (-1)) 8 (-1)) 9 (-1))))] H := hP
  have hD : va_D A [(h0, .inr (1, [.int 1, .ref a1, .null, .int 0, .null, .null, .null, .int 0, .null, .null, .long 0, .null, .int 0, .int 0, .int 0, .null])), (a1, .inl (cy, 12, .inl (upd (upd (upd (upd (upd (upd (upd (upd (upd (upd (upd (upd z0 0 0) 1 1) 2 2) 3 3) 4 4) 5 5) 6 6) 7 7) 8 8) 9 9) 10 10) 11 11))), (a2, .inl (cy, 12, .inl (upd (upd (upd (upd (upd (upd (upd (upd (upd (upd z0 0 (-1)) 1 (-1)) 2 (-1)) 3 (-1)) 4 (-1)) 5 (-1)) 6 (-1)) 7 (-1)) 8 (-1)) 9 (-1))))] := hD
  refine lv_dup hx hb dX1_init_126 rfl ?_
  refine lv_bipush (v := 10) hx hb dX1_init_127 (by decide) ?_
  refine lv_iconst (v := (-1)) hx hb dX1_init_129 (by decide) ?_
  refine stG (q0 := 2) (j := 10) hx hb hK hP hD hS rfl rfl (by decide) (by decide) dX1_init_130 (fun H locs hP hD hS => ?_)
  have hP : va_P D vwCl [(h0, .inr (1, [.int 1, .ref a1, .null, .int 0, .null, .null, .null, .int 0, .null, .null, .long 0, .null, .int 0, .int 0, .int 0, .null])), (a1, .inl (cy, 12, .inl (upd (upd (upd (upd (upd (upd (upd (upd (upd (upd (upd (upd z0 0 0) 1 1) 2 2) 3 3) 4 4) 5 5) 6 6) 7 7) 8 8) 9 9) 10 10) 11 11))), (a2, .inl (cy, 12, .inl (upd (upd (upd (upd (upd (upd (upd (upd (upd (upd (upd z0 0 (-1)) 1 (-1)) 2 (-1)) 3 (-1)) 4 (-1)) 5 (-1)) 6 (-1)) 7 (-1)) 8 (-1)) 9 (-1)) 10 (-1))))] H := hP
  have hD : va_D A [(h0, .inr (1, [.int 1, .ref a1, .null, .int 0, .null, .null, .null, .int 0, .null, .null, .long 0, .null, .int 0, .int 0, .int 0, .null])), (a1, .inl (cy, 12, .inl (upd (upd (upd (upd (upd (upd (upd (upd (upd (upd (upd (upd z0 0 0) 1 1) 2 2) 3 3) 4 4) 5 5) 6 6) 7 7) 8 8) 9 9) 10 10) 11 11))), (a2, .inl (cy, 12, .inl (upd (upd (upd (upd (upd (upd (upd (upd (upd (upd (upd z0 0 (-1)) 1 (-1)) 2 (-1)) 3 (-1)) 4 (-1)) 5 (-1)) 6 (-1)) 7 (-1)) 8 (-1)) 9 (-1)) 10 (-1))))] := hD
  refine lv_dup hx hb dX1_init_131 rfl ?_
  refine lv_bipush (v := 11) hx hb dX1_init_132 (by decide) ?_
  refine lv_iconst (v := (-1)) hx hb dX1_init_134 (by decide) ?_
  refine stG (q0 := 2) (j := 11) hx hb hK hP hD hS rfl rfl (by decide) (by decide) dX1_init_135 (fun H locs hP hD hS => ?_)
  have hP : va_P D vwCl [(h0, .inr (1, [.int 1, .ref a1, .null, .int 0, .null, .null, .null, .int 0, .null, .null, .long 0, .null, .int 0, .int 0, .int 0, .null])), (a1, .inl (cy, 12, .inl (upd (upd (upd (upd (upd (upd (upd (upd (upd (upd (upd (upd z0 0 0) 1 1) 2 2) 3 3) 4 4) 5 5) 6 6) 7 7) 8 8) 9 9) 10 10) 11 11))), (a2, .inl (cy, 12, .inl (upd (upd (upd (upd (upd (upd (upd (upd (upd (upd (upd (upd z0 0 (-1)) 1 (-1)) 2 (-1)) 3 (-1)) 4 (-1)) 5 (-1)) 6 (-1)) 7 (-1)) 8 (-1)) 9 (-1)) 10 (-1)) 11 (-1))))] H := hP
  have hD : va_D A [(h0, .inr (1, [.int 1, .ref a1, .null, .int 0, .null, .null, .null, .int 0, .null, .null, .long 0, .null, .int 0, .int 0, .int 0, .null])), (a1, .inl (cy, 12, .inl (upd (upd (upd (upd (upd (upd (upd (upd (upd (upd (upd (upd z0 0 0) 1 1) 2 2) 3 3) 4 4) 5 5) 6 6) 7 7) 8 8) 9 9) 10 10) 11 11))), (a2, .inl (cy, 12, .inl (upd (upd (upd (upd (upd (upd (upd (upd (upd (upd (upd (upd z0 0 (-1)) 1 (-1)) 2 (-1)) 3 (-1)) 4 (-1)) 5 (-1)) 6 (-1)) 7 (-1)) 8 (-1)) 9 (-1)) 10 (-1)) 11 (-1))))] := hD
  refine va_putF (D := D) (ci := 1) (v := .ref a2) (ty := .array .int) (C := RX1) (T := TX1) (N := 16) hx hb hts hin tyX1 tyX1_ok nmX1 hown hK hP hD hS 0 rfl rfl 2 (by decide) (hts _ L17) (fun _ h9 => h9) rfl hnm rfl (by decide +kernel) rfl rfl (Nat.le_of_ble_eq_true rfl) dX1_init_136 (fun H locs hP hD hS => ?_)
  have hP : va_P D vwCl [(h0, .inr (1, [.int 1, .ref a1, .ref a2, .int 0, .null, .null, .null, .int 0, .null, .null, .long 0, .null, .int 0, .int 0, .int 0, .null])), (a1, .inl (cy, 12, .inl (upd (upd (upd (upd (upd (upd (upd (upd (upd (upd (upd (upd z0 0 0) 1 1) 2 2) 3 3) 4 4) 5 5) 6 6) 7 7) 8 8) 9 9) 10 10) 11 11))), (a2, .inl (cy, 12, .inl (upd (upd (upd (upd (upd (upd (upd (upd (upd (upd (upd (upd z0 0 (-1)) 1 (-1)) 2 (-1)) 3 (-1)) 4 (-1)) 5 (-1)) 6 (-1)) 7 (-1)) 8 (-1)) 9 (-1)) 10 (-1)) 11 (-1))))] H := hP
  have hD : va_D A [(h0, .inr (1, [.int 1, .ref a1, .ref a2, .int 0, .null, .null, .null, .int 0, .null, .null, .long 0, .null, .int 0, .int 0, .int 0, .null])), (a1, .inl (cy, 12, .inl (upd (upd (upd (upd (upd (upd (upd (upd (upd (upd (upd (upd z0 0 0) 1 1) 2 2) 3 3) 4 4) 5 5) 6 6) 7 7) 8 8) 9 9) 10 10) 11 11))), (a2, .inl (cy, 12, .inl (upd (upd (upd (upd (upd (upd (upd (upd (upd (upd (upd (upd z0 0 (-1)) 1 (-1)) 2 (-1)) 3 (-1)) 4 (-1)) 5 (-1)) 6 (-1)) 7 (-1)) 8 (-1)) 9 (-1)) 10 (-1)) 11 (-1))))] := hD
  refine lv_aload_n hx hb dX1_init_139 rfl (lv_at hl 0 rfl) ?_
  refine lv_bipush (v := 10) hx hb dX1_init_140 (by decide) ?_
  refine naI (n2 := 10) hx hb (hts (.arrayClass .int) (by decide +kernel)) hK hP hD hS hA (by decide) (by decide) (by decide) (Nat.le_of_ble_eq_true rfl) (Nat.le_of_ble_eq_true rfl) dX1_init_142 (fun a3 H hP hD hS => ?_)
  have hP : va_P D vwCl [(h0, .inr (1, [.int 1, .ref a1, .ref a2, .int 0, .null, .null, .null, .int 0, .null, .null, .long 0, .null, .int 0, .int 0, .int 0, .null])), (a1, .inl (cy, 12, .inl (upd (upd (upd (upd (upd (upd (upd (upd (upd (upd (upd (upd z0 0 0) 1 1) 2 2) 3 3) 4 4) 5 5) 6 6) 7 7) 8 8) 9 9) 10 10) 11 11))), (a2, .inl (cy, 12, .inl (upd (upd (upd (upd (upd (upd (upd (upd (upd (upd (upd (upd z0 0 (-1)) 1 (-1)) 2 (-1)) 3 (-1)) 4 (-1)) 5 (-1)) 6 (-1)) 7 (-1)) 8 (-1)) 9 (-1)) 10 (-1)) 11 (-1)))), (a3, .inl (cy, 10, .inl z0))] H := hP
  have hD : va_D A [(h0, .inr (1, [.int 1, .ref a1, .ref a2, .int 0, .null, .null, .null, .int 0, .null, .null, .long 0, .null, .int 0, .int 0, .int 0, .null])), (a1, .inl (cy, 12, .inl (upd (upd (upd (upd (upd (upd (upd (upd (upd (upd (upd (upd z0 0 0) 1 1) 2 2) 3 3) 4 4) 5 5) 6 6) 7 7) 8 8) 9 9) 10 10) 11 11))), (a2, .inl (cy, 12, .inl (upd (upd (upd (upd (upd (upd (upd (upd (upd (upd (upd (upd z0 0 (-1)) 1 (-1)) 2 (-1)) 3 (-1)) 4 (-1)) 5 (-1)) 6 (-1)) 7 (-1)) 8 (-1)) 9 (-1)) 10 (-1)) 11 (-1)))), (a3, .inl (cy, 10, .inl z0))] := hD
  refine va_putF (D := D) (ci := 1) (v := .ref a3) (ty := .array .int) (C := RX1) (T := TX1) (N := 16) hx hb hts hin tyX1 tyX1_ok nmX1 hown hK hP hD hS 0 rfl rfl 4 (by decide) (hts _ L20) (fun _ h9 => h9) rfl hnm rfl (by decide +kernel) rfl rfl (Nat.le_of_ble_eq_true rfl) dX1_init_144 (fun H locs hP hD hS => ?_)
  have hP : va_P D vwCl [(h0, .inr (1, [.int 1, .ref a1, .ref a2, .int 0, .ref a3, .null, .null, .int 0, .null, .null, .long 0, .null, .int 0, .int 0, .int 0, .null])), (a1, .inl (cy, 12, .inl (upd (upd (upd (upd (upd (upd (upd (upd (upd (upd (upd (upd z0 0 0) 1 1) 2 2) 3 3) 4 4) 5 5) 6 6) 7 7) 8 8) 9 9) 10 10) 11 11))), (a2, .inl (cy, 12, .inl (upd (upd (upd (upd (upd (upd (upd (upd (upd (upd (upd (upd z0 0 (-1)) 1 (-1)) 2 (-1)) 3 (-1)) 4 (-1)) 5 (-1)) 6 (-1)) 7 (-1)) 8 (-1)) 9 (-1)) 10 (-1)) 11 (-1)))), (a3, .inl (cy, 10, .inl z0))] H := hP
  have hD : va_D A [(h0, .inr (1, [.int 1, .ref a1, .ref a2, .int 0, .ref a3, .null, .null, .int 0, .null, .null, .long 0, .null, .int 0, .int 0, .int 0, .null])), (a1, .inl (cy, 12, .inl (upd (upd (upd (upd (upd (upd (upd (upd (upd (upd (upd (upd z0 0 0) 1 1) 2 2) 3 3) 4 4) 5 5) 6 6) 7 7) 8 8) 9 9) 10 10) 11 11))), (a2, .inl (cy, 12, .inl (upd (upd (upd (upd (upd (upd (upd (upd (upd (upd (upd (upd z0 0 (-1)) 1 (-1)) 2 (-1)) 3 (-1)) 4 (-1)) 5 (-1)) 6 (-1)) 7 (-1)) 8 (-1)) 9 (-1)) 10 (-1)) 11 (-1)))), (a3, .inl (cy, 10, .inl z0))] := hD
  refine lv_aload_n hx hb dX1_init_147 rfl (lv_at hl 0 rfl) ?_
  refine lv_bipush (v := 10) hx hb dX1_init_148 (by decide) ?_
  refine naI (n2 := 10) hx hb (hts (.arrayClass .int) (by decide +kernel)) hK hP hD hS hA (by decide) (by decide) (by decide) (Nat.le_of_ble_eq_true rfl) (Nat.le_of_ble_eq_true rfl) dX1_init_150 (fun a4 H hP hD hS => ?_)
  have hP : va_P D vwCl [(h0, .inr (1, [.int 1, .ref a1, .ref a2, .int 0, .ref a3, .null, .null, .int 0, .null, .null, .long 0, .null, .int 0, .int 0, .int 0, .null])), (a1, .inl (cy, 12, .inl (upd (upd (upd (upd (upd (upd (upd (upd (upd (upd (upd (upd z0 0 0) 1 1) 2 2) 3 3) 4 4) 5 5) 6 6) 7 7) 8 8) 9 9) 10 10) 11 11))), (a2, .inl (cy, 12, .inl (upd (upd (upd (upd (upd (upd (upd (upd (upd (upd (upd (upd z0 0 (-1)) 1 (-1)) 2 (-1)) 3 (-1)) 4 (-1)) 5 (-1)) 6 (-1)) 7 (-1)) 8 (-1)) 9 (-1)) 10 (-1)) 11 (-1)))), (a3, .inl (cy, 10, .inl z0)), (a4, .inl (cy, 10, .inl z0))] H := hP
  have hD : va_D A [(h0, .inr (1, [.int 1, .ref a1, .ref a2, .int 0, .ref a3, .null, .null, .int 0, .null, .null, .long 0, .null, .int 0, .int 0, .int 0, .null])), (a1, .inl (cy, 12, .inl (upd (upd (upd (upd (upd (upd (upd (upd (upd (upd (upd (upd z0 0 0) 1 1) 2 2) 3 3) 4 4) 5 5) 6 6) 7 7) 8 8) 9 9) 10 10) 11 11))), (a2, .inl (cy, 12, .inl (upd (upd (upd (upd (upd (upd (upd (upd (upd (upd (upd (upd z0 0 (-1)) 1 (-1)) 2 (-1)) 3 (-1)) 4 (-1)) 5 (-1)) 6 (-1)) 7 (-1)) 8 (-1)) 9 (-1)) 10 (-1)) 11 (-1)))), (a3, .inl (cy, 10, .inl z0)), (a4, .inl (cy, 10, .inl z0))] := hD
  refine va_putF (D := D) (ci := 1) (v := .ref a4) (ty := .array .int) (C := RX1) (T := TX1) (N := 16) hx hb hts hin tyX1 tyX1_ok nmX1 hown hK hP hD hS 0 rfl rfl 5 (by decide) (hts _ L23) (fun _ h9 => h9) rfl hnm rfl (by decide +kernel) rfl rfl (Nat.le_of_ble_eq_true rfl) dX1_init_152 (fun H locs hP hD hS => ?_)
  have hP : va_P D vwCl [(h0, .inr (1, [.int 1, .ref a1, .ref a2, .int 0, .ref a3, .ref a4, .null, .int 0, .null, .null, .long 0, .null, .int 0, .int 0, .int 0, .null])), (a1, .inl (cy, 12, .inl (upd (upd (upd (upd (upd (upd (upd (upd (upd (upd (upd (upd z0 0 0) 1 1) 2 2) 3 3) 4 4) 5 5) 6 6) 7 7) 8 8) 9 9) 10 10) 11 11))), (a2, .inl (cy, 12, .inl (upd (upd (upd (upd (upd (upd (upd (upd (upd (upd (upd (upd z0 0 (-1)) 1 (-1)) 2 (-1)) 3 (-1)) 4 (-1)) 5 (-1)) 6 (-1)) 7 (-1)) 8 (-1)) 9 (-1)) 10 (-1)) 11 (-1)))), (a3, .inl (cy, 10, .inl z0)), (a4, .inl (cy, 10, .inl z0))] H := hP
  have hD : va_D A [(h0, .inr (1, [.int 1, .ref a1, .ref a2, .int 0, .ref a3, .ref a4, .null, .int 0, .null, .null, .long 0, .null, .int 0, .int 0, .int 0, .null])), (a1, .inl (cy, 12, .inl (upd (upd (upd (upd (upd (upd (upd (upd (upd (upd (upd (upd z0 0 0) 1 1) 2 2) 3 3) 4 4) 5 5) 6 6) 7 7) 8 8) 9 9) 10 10) 11 11))), (a2, .inl (cy, 12, .inl (upd (upd (upd (upd (upd (upd (upd (upd (upd (upd (upd (upd z0 0 (-1)) 1 (-1)) 2 (-1)) 3 (-1)) 4 (-1)) 5 (-1)) 6 (-1)) 7 (-1)) 8 (-1)) 9 (-1)) 10 (-1)) 11 (-1)))), (a3, .inl (cy, 10, .inl z0)), (a4, .inl (cy, 10, .inl z0))] := hD
  refine lv_aload_n hx hb dX1_init_155 rfl (lv_at hl 0 rfl) ?_
  refine lv_bipush (v := 10) hx hb dX1_init_156 (by decide) ?_
  refine naI (n2 := 10) hx hb (hts (.arrayClass .int) (by decide +kernel)) hK hP hD hS hA (by decide) (by decide) (by decide) (Nat.le_of_ble_eq_true rfl) (Nat.le_of_ble_eq_true rfl) dX1_init_158 (fun a5 H hP hD hS => ?_)
  have hP : va_P D vwCl [(h0, .inr (1, [.int 1, .ref a1, .ref a2, .int 0, .ref a3, .ref a4, .null, .int 0, .null, .null, .long 0, .null, .int 0, .int 0, .int 0, .null])), (a1, .inl (cy, 12, .inl (upd (upd (upd (upd (upd (upd (upd (upd (upd (upd (upd (upd z0 0 0) 1 1) 2 2) 3 3) 4 4) 5 5) 6 6) 7 7) 8 8) 9 9) 10 10) 11 11))), (a2, .inl (cy, 12, .inl (upd (upd (upd (upd (upd (upd (upd (upd (upd (upd (upd (upd z0 0 (-1)) 1 (-1)) 2 (-1)) 3 (-1)) 4 (-1)) 5 (-1)) 6 (-1)) 7 (-1)) 8 (-1)) 9 (-1)) 10 (-1)) 11 (-1)))), (a3, .inl (cy, 10, .inl z0)), (a4, .inl (cy, 10, .inl z0)), (a5, .inl (cy, 10, .inl z0))] H := hP
  have hD : va_D A [(h0, .inr (1, [.int 1, .ref a1, .ref a2, .int 0, .ref a3, .ref a4, .null, .int 0, .null, .null, .long 0, .null, .int 0, .int 0, .int 0, .null])), (a1, .inl (cy, 12, .inl (upd (upd (upd (upd (upd (upd (upd (upd (upd (upd (upd (upd z0 0 0) 1 1) 2 2) 3 3) 4 4) 5 5) 6 6) 7 7) 8 8) 9 9) 10 10) 11 11))), (a2, .inl (cy, 12, .inl (upd (upd (upd (upd (upd (upd (upd (upd (upd (upd (upd (upd z0 0 (-1)) 1 (-1)) 2 (-1)) 3 (-1)) 4 (-1)) 5 (-1)) 6 (-1)) 7 (-1)) 8 (-1)) 9 (-1)) 10 (-1)) 11 (-1)))), (a3, .inl (cy, 10, .inl z0)), (a4, .inl (cy, 10, .inl z0)), (a5, .inl (cy, 10, .inl z0))] := hD
  refine va_putF (D := D) (ci := 1) (v := .ref a5) (ty := .array .int) (C := RX1) (T := TX1) (N := 16) hx hb hts hin tyX1 tyX1_ok nmX1 hown hK hP hD hS 0 rfl rfl 6 (by decide) (hts _ L26) (fun _ h9 => h9) rfl hnm rfl (by decide +kernel) rfl rfl (Nat.le_of_ble_eq_true rfl) dX1_init_160 (fun H locs hP hD hS => ?_)
  have hP : va_P D vwCl [(h0, .inr (1, [.int 1, .ref a1, .ref a2, .int 0, .ref a3, .ref a4, .ref a5, .int 0, .null, .null, .long 0, .null, .int 0, .int 0, .int 0, .null])), (a1, .inl (cy, 12, .inl (upd (upd (upd (upd (upd (upd (upd (upd (upd (upd (upd (upd z0 0 0) 1 1) 2 2) 3 3) 4 4) 5 5) 6 6) 7 7) 8 8) 9 9) 10 10) 11 11))), (a2, .inl (cy, 12, .inl (upd (upd (upd (upd (upd (upd (upd (upd (upd (upd (upd (upd z0 0 (-1)) 1 (-1)) 2 (-1)) 3 (-1)) 4 (-1)) 5 (-1)) 6 (-1)) 7 (-1)) 8 (-1)) 9 (-1)) 10 (-1)) 11 (-1)))), (a3, .inl (cy, 10, .inl z0)), (a4, .inl (cy, 10, .inl z0)), (a5, .inl (cy, 10, .inl z0))] H := hP
  have hD : va_D A [(h0, .inr (1, [.int 1, .ref a1, .ref a2, .int 0, .ref a3, .ref a4, .ref a5, .int 0, .null, .null, .long 0, .null, .int 0, .int 0, .int 0, .null])), (a1, .inl (cy, 12, .inl (upd (upd (upd (upd (upd (upd (upd (upd (upd (upd (upd (upd z0 0 0) 1 1) 2 2) 3 3) 4 4) 5 5) 6 6) 7 7) 8 8) 9 9) 10 10) 11 11))), (a2, .inl (cy, 12, .inl (upd (upd (upd (upd (upd (upd (upd (upd (upd (upd (upd (upd z0 0 (-1)) 1 (-1)) 2 (-1)) 3 (-1)) 4 (-1)) 5 (-1)) 6 (-1)) 7 (-1)) 8 (-1)) 9 (-1)) 10 (-1)) 11 (-1)))), (a3, .inl (cy, 10, .inl z0)), (a4, .inl (cy, 10, .inl z0)), (a5, .inl (cy, 10, .inl z0))] := hD
  refine lv_aload_n hx hb dX1_init_163 rfl (lv_at hl 0 rfl) ?_
  refine lv_bipush (v := 10) hx hb dX1_init_164 (by decide) ?_
  refine naI (n2 := 10) hx hb (hts (.arrayClass .int) (by decide +kernel)) hK hP hD hS hA (by decide) (by decide) (by decide) (Nat.le_of_ble_eq_true rfl) (Nat.le_of_ble_eq_true rfl) dX1_init_166 (fun a6 H hP hD hS => ?_)
  have hP : va_P D vwCl [(h0, .inr (1, [.int 1, .ref a1, .ref a2, .int 0, .ref a3, .ref a4, .ref a5, .int 0, .null, .null, .long 0, .null, .int 0, .int 0, .int 0, .null])), (a1, .inl (cy, 12, .inl (upd (upd (upd (upd (upd (upd (upd (upd (upd (upd (upd (upd z0 0 0) 1 1) 2 2) 3 3) 4 4) 5 5) 6 6) 7 7) 8 8) 9 9) 10 10) 11 11))), (a2, .inl (cy, 12, .inl (upd (upd (upd (upd (upd (upd (upd (upd (upd (upd (upd (upd z0 0 (-1)) 1 (-1)) 2 (-1)) 3 (-1)) 4 (-1)) 5 (-1)) 6 (-1)) 7 (-1)) 8 (-1)) 9 (-1)) 10 (-1)) 11 (-1)))), (a3, .inl (cy, 10, .inl z0)), (a4, .inl (cy, 10, .inl z0)), (a5, .inl (cy, 10, .inl z0)), (a6, .inl (cy, 10, .inl z0))] H := hP
  have hD : va_D A [(h0, .inr (1, [.int 1, .ref a1, .ref a2, .int 0, .ref a3, .ref a4, .ref a5, .int 0, .null, .null, .long 0, .null, .int 0, .int 0, .int 0, .null])), (a1, .inl (cy, 12, .inl (upd (upd (upd (upd (upd (upd (upd (upd (upd (upd (upd (upd z0 0 0) 1 1) 2 2) 3 3) 4 4) 5 5) 6 6) 7 7) 8 8) 9 9) 10 10) 11 11))), (a2, .inl (cy, 12, .inl (upd (upd (upd (upd (upd (upd (upd (upd (upd (upd (upd (upd z0 0 (-1)) 1 (-1)) 2 (-1)) 3 (-1)) 4 (-1)) 5 (-1)) 6 (-1)) 7 (-1)) 8 (-1)) 9 (-1)) 10 (-1)) 11 (-1)))), (a3, .inl (cy, 10, .inl z0)), (a4, .inl (cy, 10, .inl z0)), (a5, .inl (cy, 10, .inl z0)), (a6, .inl (cy, 10, .inl z0))] := hD
  refine va_putF (D := D) (ci := 1) (v := .ref a6) (ty := .array .int) (C := RX1) (T := TX1) (N := 16) hx hb hts hin tyX1 tyX1_ok nmX1 hown hK hP hD hS 0 rfl rfl 8 (by decide) (hts _ L29) (fun _ h9 => h9) rfl hnm rfl (by decide +kernel) rfl rfl (Nat.le_of_ble_eq_true rfl) dX1_init_168 (fun H locs hP hD hS => ?_)
  have hP : va_P D vwCl [(h0, .inr (1, [.int 1, .ref a1, .ref a2, .int 0, .ref a3, .ref a4, .ref a5, .int 0, .ref a6, .null, .long 0, .null, .int 0, .int 0, .int 0, .null])), (a1, .inl (cy, 12, .inl (upd (upd (upd (upd (upd (upd (upd (upd (upd (upd (upd (upd z0 0 0) 1 1) 2 2) 3 3) 4 4) 5 5) 6 6) 7 7) 8 8) 9 9) 10 10) 11 11))), (a2, .inl (cy, 12, .inl (upd (upd (upd (upd (upd (upd (upd (upd (upd (upd (upd (upd z0 0 (-1)) 1 (-1)) 2 (-1)) 3 (-1)) 4 (-1)) 5 (-1)) 6 (-1)) 7 (-1)) 8 (-1)) 9 (-1)) 10 (-1)) 11 (-1)))), (a3, .inl (cy, 10, .inl z0)), (a4, .inl (cy, 10, .inl z0)), (a5, .inl (cy, 10, .inl z0)), (a6, .inl (cy, 10, .inl z0))] H := hP
  have hD : va_D A [(h0, .inr (1, [.int 1, .ref a1, .ref a2, .int 0, .ref a3, .ref a4, .ref a5, .int 0, .ref a6, .null, .long 0, .null, .int 0, .int 0, .int 0, .null])), (a1, .inl (cy, 12, .inl (upd (upd (upd (upd (upd (upd (upd (upd (upd (upd (upd (upd z0 0 0) 1 1) 2 2) 3 3) 4 4) 5 5) 6 6) 7 7) 8 8) 9 9) 10 10) 11 11))), (a2, .inl (cy, 12, .inl (upd (upd (upd (upd (upd (upd (upd (upd (upd (upd (upd (upd z0 0 (-1)) 1 (-1)) 2 (-1)) 3 (-1)) 4 (-1)) 5 (-1)) 6 (-1)) 7 (-1)) 8 (-1)) 9 (-1)) 10 (-1)) 11 (-1)))), (a3, .inl (cy, 10, .inl z0)), (a4, .inl (cy, 10, .inl z0)), (a5, .inl (cy, 10, .inl z0)), (a6, .inl (cy, 10, .inl z0))] := hD
  refine lv_aload_n hx hb dX1_init_171 rfl (lv_at hl 0 rfl) ?_
  refine lv_bipush (v := 10) hx hb dX1_init_172 (by decide) ?_
  refine naI (n2 := 10) hx hb (hts (.arrayClass .int) (by decide +kernel)) hK hP hD hS hA (by decide) (by decide) (by decide) (Nat.le_of_ble_eq_true rfl) (Nat.le_of_ble_eq_true rfl) dX1_init_174 (fun a7 H hP hD hS => ?_)
  have hP : va_P D vwCl [(h0, .inr (1, [.int 1, .ref a1, .ref a2, .int 0, .ref a3, .ref a4, .ref a5, .int 0, .ref a6, .null, .long 0, .null, .int 0, .int 0, .int 0, .null])), (a1, .inl (cy, 12, .inl (upd (upd (upd (upd (upd (upd (upd (upd (upd (upd (upd (upd z0 0 0) 1 1) 2 2) 3 3) 4 4) 5 5) 6 6) 7 7) 8 8) 9 9) 10 10) 11 11))), (a2, .inl (cy, 12, .inl (upd (upd (upd (upd (upd (upd (upd (upd (upd (upd (upd (upd z0 0 (-1)) 1 (-1)) 2 (-1)) 3 (-1)) 4 (-1)) 5 (-1)) 6 (-1)) 7 (-1)) 8 (-1)) 9 (-1)) 10 (-1)) 11 (-1)))), (a3, .inl (cy, 10, .inl z0)), (a4, .inl (cy, 10, .inl z0)), (a5, .inl (cy, 10, .inl z0)), (a6, .inl (cy, 10, .inl z0)), (a7, .inl (cy, 10, .inl z0))] H := hP
  have hD : va_D A [(h0, .inr (1, [.int 1, .ref a1, .ref a2, .int 0, .ref a3, .ref a4, .ref a5, .int 0, .ref a6, .null, .long 0, .null, .int 0, .int 0, .int 0, .null])), (a1, .inl (cy, 12, .inl (upd (upd (upd (upd (upd (upd (upd (upd (upd (upd (upd (upd z0 0 0) 1 1) 2 2) 3 3) 4 4) 5 5) 6 6) 7 7) 8 8) 9 9) 10 10) 11 11))), (a2, .inl (cy, 12, .inl (upd (upd (upd (upd (upd (upd (upd (upd (upd (upd (upd (upd z0 0 (-1)) 1 (-1)) 2 (-1)) 3 (-1)) 4 (-1)) 5 (-1)) 6 (-1)) 7 (-1)) 8 (-1)) 9 (-1)) 10 (-1)) 11 (-1)))), (a3, .inl (cy, 10, .inl z0)), (a4, .inl (cy, 10, .inl z0)), (a5, .inl (cy, 10, .inl z0)), (a6, .inl (cy, 10, .inl z0)), (a7, .inl (cy, 10, .inl z0))] := hD
  refine va_putF (D := D) (ci := 1) (v := .ref a7) (ty := .array .int) (C := RX1) (T := TX1) (N := 16) hx hb hts hin tyX1 tyX1_ok nmX1 hown hK hP hD hS 0 rfl rfl 9 (by decide) (hts _ L32) (fun _ h9 => h9) rfl hnm rfl (by decide +kernel) rfl rfl (Nat.le_of_ble_eq_true rfl) dX1_init_176 (fun H locs hP hD hS => ?_)
  have hP : va_P D vwCl [(h0, .inr (1, [.int 1, .ref a1, .ref a2, .int 0, .ref a3, .ref a4, .ref a5, .int 0, .ref a6, .ref a7, .long 0, .null, .int 0, .int 0, .int 0, .null])), (a1, .inl (cy, 12, .inl (upd (upd (upd (upd (upd (upd (upd (upd (upd (upd (upd (upd z0 0 0) 1 1) 2 2) 3 3) 4 4) 5 5) 6 6) 7 7) 8 8) 9 9) 10 10) 11 11))), (a2, .inl (cy, 12, .inl (upd (upd (upd (upd (upd (upd (upd (upd (upd (upd (upd (upd z0 0 (-1)) 1 (-1)) 2 (-1)) 3 (-1)) 4 (-1)) 5 (-1)) 6 (-1)) 7 (-1)) 8 (-1)) 9 (-1)) 10 (-1)) 11 (-1)))), (a3, .inl (cy, 10, .inl z0)), (a4, .inl (cy, 10, .inl z0)), (a5, .inl (cy, 10, .inl z0)), (a6, .inl (cy, 10, .inl z0)), (a7, .inl (cy, 10, .inl z0))] H := hP
  have hD : va_D A [(h0, .inr (1, [.int 1, .ref a1, .ref a2, .int 0, .ref a3, .ref a4, .ref a5, .int 0, .ref a6, .ref a7, .long 0, .null, .int 0, .int 0, .int 0, .null])), (a1, .inl (cy, 12, .inl (upd (upd (upd (upd (upd (upd (upd (upd (upd (upd (upd (upd z0 0 0) 1 1) 2 2) 3 3) 4 4) 5 5) 6 6) 7 7) 8 8) 9 9) 10 10) 11 11))), (a2, .inl (cy, 12, .inl (upd (upd (upd (upd (upd (upd (upd (upd (upd (upd (upd (upd z0 0 (-1)) 1 (-1)) 2 (-1)) 3 (-1)) 4 (-1)) 5 (-1)) 6 (-1)) 7 (-1)) 8 (-1)) 9 (-1)) 10 (-1)) 11 (-1)))), (a3, .inl (cy, 10, .inl z0)), (a4, .inl (cy, 10, .inl z0)), (a5, .inl (cy, 10, .inl z0)), (a6, .inl (cy, 10, .inl z0)), (a7, .inl (cy, 10, .inl z0))] := hD
  refine lv_aload_n hx hb dX1_init_179 rfl (lv_at hl 0 rfl) ?_
  refine lv_bipush (v := 10) hx hb dX1_init_180 (by decide) ?_
  refine naI (n2 := 10) hx hb (hts (.arrayClass .int) (by decide +kernel)) hK hP hD hS hA (by decide) (by decide) (by decide) (Nat.le_of_ble_eq_true rfl) (Nat.le_of_ble_eq_true rfl) dX1_init_182 (fun a8 H hP hD hS => ?_)
  have hP : va_P D vwCl [(h0, .inr (1, [.int 1, .ref a1, .ref a2, .int 0, .ref a3, .ref a4, .ref a5, .int 0, .ref a6, .ref a7, .long 0, .null, .int 0, .int 0, .int 0, .null])), (a1, .inl (cy, 12, .inl (upd (upd (upd (upd (upd (upd (upd (upd (upd (upd (upd (upd z0 0 0) 1 1) 2 2) 3 3) 4 4) 5 5) 6 6) 7 7) 8 8) 9 9) 10 10) 11 11))), (a2, .inl (cy, 12, .inl (upd (upd (upd (upd (upd (upd (upd (upd (upd (upd (upd (upd z0 0 (-1)) 1 (-1)) 2 (-1)) 3 (-1)) 4 (-1)) 5 (-1)) 6 (-1)) 7 (-1)) 8 (-1)) 9 (-1)) 10 (-1)) 11 (-1)))), (a3, .inl (cy, 10, .inl z0)), (a4, .inl (cy, 10, .inl z0)), (a5, .inl (cy, 10, .inl z0)), (a6, .inl (cy, 10, .inl z0)), (a7, .inl (cy, 10, .inl z0)), (a8, .inl (cy, 10, .inl z0))] H := hP
  have hD : va_D A [(h0, .inr (1, [.int 1, .ref a1, .ref a2, .int 0, .ref a3, .ref a4, .ref a5, .int 0, .ref a6, .ref a7, .long 0, .null, .int 0, .int 0, .int 0, .null])), (a1, .inl (cy, 12, .inl (upd (upd (upd (upd (upd (upd (upd (upd (upd (upd (upd (upd z0 0 0) 1 1) 2 2) 3 3) 4 4) 5 5) 6 6) 7 7) 8 8) 9 9) 10 10) 11 11))), (a2, .inl (cy, 12, .inl (upd (upd (upd (upd (upd (upd (upd (upd (upd (upd (upd (upd z0 0 (-1)) 1 (-1)) 2 (-1)) 3 (-1)) 4 (-1)) 5 (-1)) 6 (-1)) 7 (-1)) 8 (-1)) 9 (-1)) 10 (-1)) 11 (-1)))), (a3, .inl (cy, 10, .inl z0)), (a4, .inl (cy, 10, .inl z0)), (a5, .inl (cy, 10, .inl z0)), (a6, .inl (cy, 10, .inl z0)), (a7, .inl (cy, 10, .inl z0)), (a8, .inl (cy, 10, .inl z0))] := hD
  refine va_putF (D := D) (ci := 1) (v := .ref a8) (ty := .array .int) (C := RX1) (T := TX1) (N := 16) hx hb hts hin tyX1 tyX1_ok nmX1 hown hK hP hD hS 0 rfl rfl 11 (by decide) (hts _ L35) (fun _ h9 => h9) rfl hnm rfl (by decide +kernel) rfl rfl (Nat.le_of_ble_eq_true rfl) dX1_init_184 (fun H locs hP hD hS => ?_)
  have hP : va_P D vwCl [(h0, .inr (1, [.int 1, .ref a1, .ref a2, .int 0, .ref a3, .ref a4, .ref a5, .int 0, .ref a6, .ref a7, .long 0, .ref a8, .int 0, .int 0, .int 0, .null])), (a1, .inl (cy, 12, .inl (upd (upd (upd (upd (upd (upd (upd (upd (upd (upd (upd (upd z0 0 0) 1 1) 2 2) 3 3) 4 4) 5 5) 6 6) 7 7) 8 8) 9 9) 10 10) 11 11))), (a2, .inl (cy, 12, .inl (upd (upd (upd (upd (upd (upd (upd (upd (upd (upd (upd (upd z0 0 (-1)) 1 (-1)) 2 (-1)) 3 (-1)) 4 (-1)) 5 (-1)) 6 (-1)) 7 (-1)) 8 (-1)) 9 (-1)) 10 (-1)) 11 (-1)))), (a3, .inl (cy, 10, .inl z0)), (a4, .inl (cy, 10, .inl z0)), (a5, .inl (cy, 10, .inl z0)), (a6, .inl (cy, 10, .inl z0)), (a7, .inl (cy, 10, .inl z0)), (a8, .inl (cy, 10, .inl z0))] H := hP
  have hD : va_D A [(h0, .inr (1, [.int 1, .ref a1, .ref a2, .int 0, .ref a3, .ref a4, .ref a5, .int 0, .ref a6, .ref a7, .long 0, .ref a8, .int 0, .int 0, .int 0, .null])), (a1, .inl (cy, 12, .inl (upd (upd (upd (upd (upd (upd (upd (upd (upd (upd (upd (upd z0 0 0) 1 1) 2 2) 3 3) 4 4) 5 5) 6 6) 7 7) 8 8) 9 9) 10 10) 11 11))), (a2, .inl (cy, 12, .inl (upd (upd (upd (upd (upd (upd (upd (upd (upd (upd (upd (upd z0 0 (-1)) 1 (-1)) 2 (-1)) 3 (-1)) 4 (-1)) 5 (-1)) 6 (-1)) 7 (-1)) 8 (-1)) 9 (-1)) 10 (-1)) 11 (-1)))), (a3, .inl (cy, 10, .inl z0)), (a4, .inl (cy, 10, .inl z0)), (a5, .inl (cy, 10, .inl z0)), (a6, .inl (cy, 10, .inl z0)), (a7, .inl (cy, 10, .inl z0)), (a8, .inl (cy, 10, .inl z0))] := hD
  refine lv_aload_n hx hb dX1_init_187 rfl (lv_at hl 0 rfl) ?_
  refine lv_bipush (v := 12) hx hb dX1_init_188 (by decide) ?_
  refine naI (n2 := 12) hx hb (hts (.arrayClass .int) (by decide +kernel)) hK hP hD hS hA (by decide) (by decide) (by decide) (Nat.le_of_ble_eq_true rfl) (Nat.le_of_ble_eq_true rfl) dX1_init_190 (fun a9 H hP hD hS => ?_)
  have hP : va_P D vwCl [(h0, .inr (1, [.int 1, .ref a1, .ref a2, .int 0, .ref a3, .ref a4, .ref a5, .int 0, .ref a6, .ref a7, .long 0, .ref a8, .int 0, .int 0, .int 0, .null])), (a1, .inl (cy, 12, .inl (upd (upd (upd (upd (upd (upd (upd (upd (upd (upd (upd (upd z0 0 0) 1 1) 2 2) 3 3) 4 4) 5 5) 6 6) 7 7) 8 8) 9 9) 10 10) 11 11))), (a2, .inl (cy, 12, .inl (upd (upd (upd (upd (upd (upd (upd (upd (upd (upd (upd (upd z0 0 (-1)) 1 (-1)) 2 (-1)) 3 (-1)) 4 (-1)) 5 (-1)) 6 (-1)) 7 (-1)) 8 (-1)) 9 (-1)) 10 (-1)) 11 (-1)))), (a3, .inl (cy, 10, .inl z0)), (a4, .inl (cy, 10, .inl z0)), (a5, .inl (cy, 10, .inl z0)), (a6, .inl (cy, 10, .inl z0)), (a7, .inl (cy, 10, .inl z0)), (a8, .inl (cy, 10, .inl z0)), (a9, .inl (cy, 12, .inl z0))] H := hP
  have hD : va_D A [(h0, .inr (1, [.int 1, .ref a1, .ref a2, .int 0, .ref a3, .ref a4, .ref a5, .int 0, .ref a6, .ref a7, .long 0, .ref a8, .int 0, .int 0, .int 0, .null])), (a1, .inl (cy, 12, .inl (upd (upd (upd (upd (upd (upd (upd (upd (upd (upd (upd (upd z0 0 0) 1 1) 2 2) 3 3) 4 4) 5 5) 6 6) 7 7) 8 8) 9 9) 10 10) 11 11))), (a2, .inl (cy, 12, .inl (upd (upd (upd (upd (upd (upd (upd (upd (upd (upd (upd (upd z0 0 (-1)) 1 (-1)) 2 (-1)) 3 (-1)) 4 (-1)) 5 (-1)) 6 (-1)) 7 (-1)) 8 (-1)) 9 (-1)) 10 (-1)) 11 (-1)))), (a3, .inl (cy, 10, .inl z0)), (a4, .inl (cy, 10, .inl z0)), (a5, .inl (cy, 10, .inl z0)), (a6, .inl (cy, 10, .inl z0)), (a7, .inl (cy, 10, .inl z0)), (a8, .inl (cy, 10, .inl z0)), (a9, .inl (cy, 12, .inl z0))] := hD
  refine va_putF (D := D) (ci := 1) (v := .ref a9) (ty := .array .int) (C := RX1) (T := TX1) (N := 16) hx hb hts hin tyX1 tyX1_ok nmX1 hown hK hP hD hS 0 rfl rfl 15 (by decide) (hts _ L38) (fun _ h9 => h9) rfl hnm rfl (by decide +kernel) rfl rfl (Nat.le_of_ble_eq_true rfl) dX1_init_192 (fun H locs hP hD hS => ?_)
  have hP : va_P D vwCl [(h0, .inr (1, [.int 1, .ref a1, .ref a2, .int 0, .ref a3, .ref a4, .ref a5, .int 0, .ref a6, .ref a7, .long 0, .ref a8, .int 0, .int 0, .int 0, .ref a9])), (a1, .inl (cy, 12, .inl (upd (upd (upd (upd (upd (upd (upd (upd (upd (upd (upd (upd z0 0 0) 1 1) 2 2) 3 3) 4 4) 5 5) 6 6) 7 7) 8 8) 9 9) 10 10) 11 11))), (a2, .inl (cy, 12, .inl (upd (upd (upd (upd (upd (upd (upd (upd (upd (upd (upd (upd z0 0 (-1)) 1 (-1)) 2 (-1)) 3 (-1)) 4 (-1)) 5 (-1)) 6 (-1)) 7 (-1)) 8 (-1)) 9 (-1)) 10 (-1)) 11 (-1)))), (a3, .inl (cy, 10, .inl z0)), (a4, .inl (cy, 10, .inl z0)), (a5, .inl (cy, 10, .inl z0)), (a6, .inl (cy, 10, .inl z0)), (a7, .inl (cy, 10, .inl z0)), (a8, .inl (cy, 10, .inl z0)), (a9, .inl (cy, 12, .inl z0))] H := hP
  have hD : va_D A [(h0, .inr (1, [.int 1, .ref a1, .ref a2, .int 0, .ref a3, .ref a4, .ref a5, .int 0, .ref a6, .ref a7, .long 0, .ref a8, .int 0, .int 0, .int 0, .ref a9])), (a1, .inl (cy, 12, .inl (upd (upd (upd (upd (upd (upd (upd (upd (upd (upd (upd (upd z0 0 0) 1 1) 2 2) 3 3) 4 4) 5 5) 6 6) 7 7) 8 8) 9 9) 10 10) 11 11))), (a2, .inl (cy, 12, .inl (upd (upd (upd (upd (upd (upd (upd (upd (upd (upd (upd (upd z0 0 (-1)) 1 (-1)) 2 (-1)) 3 (-1)) 4 (-1)) 5 (-1)) 6 (-1)) 7 (-1)) 8 (-1)) 9 (-1)) 10 (-1)) 11 (-1)))), (a3, .inl (cy, 10, .inl z0)), (a4, .inl (cy, 10, .inl z0)), (a5, .inl (cy, 10, .inl z0)), (a6, .inl (cy, 10, .inl z0)), (a7, .inl (cy, 10, .inl z0)), (a8, .inl (cy, 10, .inl z0)), (a9, .inl (cy, 12, .inl z0))] := hD
  refine lv_aload_n hx hb dX1_init_195 rfl (lv_at hl 0 rfl) ?_
  refine lv_iconst (v := 0) hx hb dX1_init_196 (by decide) ?_
  refine va_put (D := D) (ci := 1) (v := .int 0) (ty := .int) (C := RX1) (T := TX1) (N := 16) hx hb hts hin tyX1 tyX1_ok nmX1 hown hK hP hD hS 0 rfl rfl 3 (by decide) (hts _ L41) (fun _ h9 => h9) rfl (by decide +kernel) rfl rfl (Nat.le_of_ble_eq_true rfl) dX1_init_197 (fun H locs hP hD hS => ?_)
  have hP : va_P D vwCl [(h0, .inr (1, [.int 1, .ref a1, .ref a2, .int 0, .ref a3, .ref a4, .ref a5, .int 0, .ref a6, .ref a7, .long 0, .ref a8, .int 0, .int 0, .int 0, .ref a9])), (a1, .inl (cy, 12, .inl (upd (upd (upd (upd (upd (upd (upd (upd (upd (upd (upd (upd z0 0 0) 1 1) 2 2) 3 3) 4 4) 5 5) 6 6) 7 7) 8 8) 9 9) 10 10) 11 11))), (a2, .inl (cy, 12, .inl (upd (upd (upd (upd (upd (upd (upd (upd (upd (upd (upd (upd z0 0 (-1)) 1 (-1)) 2 (-1)) 3 (-1)) 4 (-1)) 5 (-1)) 6 (-1)) 7 (-1)) 8 (-1)) 9 (-1)) 10 (-1)) 11 (-1)))), (a3, .inl (cy, 10, .inl z0)), (a4, .inl (cy, 10, .inl z0)), (a5, .inl (cy, 10, .inl z0)), (a6, .inl (cy, 10, .inl z0)), (a7, .inl (cy, 10, .inl z0)), (a8, .inl (cy, 10, .inl z0)), (a9, .inl (cy, 12, .inl z0))] H := hP
  have hD : va_D A [(h0, .inr (1, [.int 1, .ref a1, .ref a2, .int 0, .ref a3, .ref a4, .ref a5, .int 0, .ref a6, .ref a7, .long 0, .ref a8, .int 0, .int 0, .int 0, .ref a9])), (a1, .inl (cy, 12, .inl (upd (upd (upd (upd (upd (upd (upd (upd (upd (upd (upd (upd z0 0 0) 1 1) 2 2) 3 3) 4 4) 5 5) 6 6) 7 7) 8 8) 9 9) 10 10) 11 11))), (a2, .inl (cy, 12, .inl (upd (upd (upd (upd (upd (upd (upd (upd (upd (upd (upd (upd z0 0 (-1)) 1 (-1)) 2 (-1)) 3 (-1)) 4 (-1)) 5 (-1)) 6 (-1)) 7 (-1)) 8 (-1)) 9 (-1)) 10 (-1)) 11 (-1)))), (a3, .inl (cy, 10, .inl z0)), (a4, .inl (cy, 10, .inl z0)), (a5, .inl (cy, 10, .inl z0)), (a6, .inl (cy, 10, .inl z0)), (a7, .inl (cy, 10, .inl z0)), (a8, .inl (cy, 10, .inl z0)), (a9, .inl (cy, 12, .inl z0))] := hD
  refine W.widen (k := 9) (n := 96) (by omega) (by omega) ?_
  exact W.vret hx hb hr (fun t ht hW => ⟨⟨(), rfl, trivial, cy, a1, a2, a3, a4, a5, a6, a7, a8, a9, by rw [ht]; exact hP, va_K.moved hW.alike hK, hD⟩, hS.F ht⟩) hS.2.2 dX1_init_200
