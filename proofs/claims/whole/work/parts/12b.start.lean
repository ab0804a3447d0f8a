set_option maxHeartbeats 4000000 in
set_option maxRecDepth 100000 in
/-- THE LAW, from its entry -/
theorem whole_start {p : Program} {e : Env} {s : State} {m : MethodId} {below : List Frame} {meth : Method} {c : Code} (l : Launch) {b L : Nat} {xs : Nat → Int32} (hL : L ≤ 2048) (C0 : lw_At p s m meth c b L xs) : W p l e room_1 s m #[Value.ref b] below meth c s.heap [] 0 0 (lw_Z below #[Value.ref b] s) (entryFrame m ([Value.ref b] : List Value).toArray 4) := by
  obtain ⟨hx, hb, hr, hml, hown, hts0, hX, hbl, hlocks, hgv⟩ := id C0
  have hts : ∀ w ∈ wsL_law, w.before #[Value.ref b] s = true := fun w h => hts0 w (wsL_law_in w h)
  have hA : ∀ q : Nat, s.heap.size ≤ q → (fun q : Nat => s.heap.size ≤ q) q := fun _ h => h
  have hbA : ¬ (fun q : Nat => s.heap.size ≤ q) b := Nat.not_le.mpr hbl
  have hi0 : (Cond.instantiable RX0 15).before #[Value.ref b] s = true := hts0 _ (List.mem_append_right _ (List.mem_of_getElem? (i := 7) (by decide +kernel)))
  have hi1 : (Cond.instantiable RX1 16).before #[Value.ref b] s = true := hts0 _ (List.mem_append_right _ (List.mem_of_getElem? (i := 290) (by decide +kernel)))
  obtain ⟨c0, iS0, hKn0⟩ := u_known (C := RX0) (T := TX0) (N := 15) (n := 15) hts inlX0 hi0
  obtain ⟨c1, iS1, hKn1⟩ := u_known (C := RX1) (T := TX1) (N := 16) (n := 16) hts inlX1 hi1
  obtain ⟨dC, dI, hKc⟩ : ∃ (dC : Nat → ClassId) (dI : Nat → Nat → Nat), ∀ (k : Nat) (q : vw_C), vwCl[k]? = some q → u_Kn s q.1 q.2.1 q.2.2 (dC k) (dI k) := by
    refine ⟨fun k => if k = 0 then c0 else c1, fun k => if k = 0 then iS0 else iS1, ?_⟩
    intro k q hq
    match k, hq with
    | 0, hq => cases hq; exact hKn0
    | 1, hq => cases hq; exact hKn1
    | k + 2, hq => simp [vwCl] at hq
  have hS : va_S (fun q : Nat => s.heap.size ≤ q) s.heap s.heap [] := va_S.rf
  have hK : va_K (dC, dI) vwCl [] s := ⟨hKc, fun k q h => by simp at h⟩
  have hP : va_P (dC, dI) vwCl [] s.heap := fun k q h => by simp at h
  have hD : va_D (fun q : Nat => s.heap.size ≤ q) [] := ⟨fun i j p q h => by simp at h, fun k q h => by simp at h⟩
  have hl := lv_entry ([.ref b]) (n := 4) (Nat.le_of_ble_eq_true rfl)
  rw [lg_entry_eq]
  generalize (lg_sl ([.ref b]) ++ List.replicate (4 - (lg_sl ([.ref b])).length) Slot.unset).toArray = ls at hl ⊢
  have hl : lv_has ls 4 [(0, .ref b)] := hl
  refine va_new (ci := 0) (fs := [.int 0, .null, .null, .int 0, .int 0, .null, .int 0, .null, .null, .null, .null, .int 0, .null, .null, .long 0]) (C := RX0) (T := TX0) (N := 15) hx hb hts inlX0 tyX0 tyX0_ok hown (hts (.classLink RL 7 RX0) (List.mem_append_left _ (List.mem_append_left _ (List.mem_append_left _ (List.mem_append_left _ (by decide +kernel)))))) hi0 (hts (.initialized RX0) (by decide +kernel)) hK hP hD hS hA rfl (by decide +kernel) (Nat.le_of_ble_eq_true rfl) (Nat.le_of_ble_eq_true rfl) dL_law_0 (fun hx0 H hP hD hS => ?_)
  have hP : va_P (dC, dI) vwCl [(hx0, .inr (0, [.int 0, .null, .null, .int 0, .int 0, .null, .int 0, .null, .null, .null, .null, .int 0, .null, .null, .long 0]))] H := hP
  have hD : va_D (fun q : Nat => s.heap.size ≤ q) [(hx0, .inr (0, [.int 0, .null, .null, .int 0, .int 0, .null, .int 0, .null, .null, .null, .null, .int 0, .null, .null, .long 0]))] := hD
  refine W.widen (k := 1) (n := 15) (by omega) (by omega) ?_
  refine lv_dup hx hb dL_law_3 rfl ?_
  have hDc : va_D (fun z => z = hx0 ∨ H.size ≤ z) [(hx0, .inr (0, [.int 0, .null, .null, .int 0, .int 0, .null, .int 0, .null, .null, .null, .null, .int 0, .null, .null, .long 0]))] := ⟨hD.1, fun k q hk => by
    match k, hk with
    | 0, hk => exact Or.inl (congrArg Prod.fst (Option.some.inj hk)).symm
    | k + 1, hk => simp at hk⟩
  have hx0A : s.heap.size ≤ hx0 := hD.2 0 _ rfl
  have hF0 : ∀ z, (z = hx0 ∨ H.size ≤ z) → s.heap.size ≤ z := fun z h => h.elim (fun e => by rw [e]; exact hx0A) (fun h => Nat.le_trans hS.1 h)
  refine va_callv (va_runI (As := []) (rest := [.ref hx0]) ⟨hx, hb, hml, hown, hts⟩ (kX0_init (l := l) hP hDc) (cwI 0 hts gL_law_X0_init rfl rfl rfl (hts (.initialized RX0) (by decide +kernel)) (hts (.methodLink RL 9 yX0_init) (by decide +kernel)) (hts (.instanceMethod yX0_init) (by decide +kernel)) rfl (by decide +kernel) ⟨Nat.le_of_ble_eq_true rfl, Nat.le_of_ble_eq_true rfl⟩) ⟨fun a U g mk q => ⟨q.1, q.2.1, va_K.moved (u := U) (U := U.calling g mk a) (Vm.Alike.refl U.vm) q.2.2⟩, fun U hU hW => ⟨rfl, hU, va_K.moved hW.alike hK⟩⟩ rfl rfl hl.1 rfl (lv_room (Nat.le_of_ble_eq_true rfl)) dL_law_4 ⟨Nat.le_of_ble_eq_true rfl, Nat.le_of_ble_eq_true rfl⟩) hS (fun q _ h => hF0 q h) hF0 (fun u t H1 locs ht hvm hw hB hz1 hk1 hS => ?_)
  obtain ⟨cx, a1, a2, a3, a4, a5, a6, a7, a8, a9, hPx, hKx, hDx⟩ := hB
  rw [ht] at hPx
  have hKx := va_K.moved hvm.symm hKx
  have hDx := hDx.weaken (B := fun q : Nat => s.heap.size ≤ q) (fun k q _ h => hF0 q.1 h)
  clear hk1 hz1 hF0 hDc hP hD ht hvm hw
  generalize H1 = H at hPx hS ⊢
  refine W.widen (k := 10) (n := 111) (by omega) (by omega) ?_
  refine lv_astore_n (lv' := [(1, .ref hx0), (0, .ref b)]) hx hb dL_law_7 rfl hl (by decide) rfl (fun ls hl => ?_)
  refine va_new (ci := 1) (fs := [.int 0, .null, .null, .int 0, .null, .null, .null, .int 0, .null, .null, .long 0, .null, .int 0, .int 0, .int 0, .null]) (C := RX1) (T := TX1) (N := 16) hx hb hts inlX1 tyX1 tyX1_ok hown (hts (.classLink RL 10 RX1) (by decide +kernel)) hi1 (hts (.initialized RX1) (by decide +kernel)) hK hPx hDx hS hA rfl (by decide +kernel) (Nat.le_of_ble_eq_true rfl) (Nat.le_of_ble_eq_true rfl) dL_law_8 (fun hm0 H hP hD hS => ?_)
  have hPx : va_P (dC, dI) vwCl (wX cx (qv hx0 a1 a2 a3 a4 a5 a6 a7 a8 a9) (nI 1) 0 0 (nI 0) (nI 0) 0 (idF z0 12) (idF z0 12) z0 z0 z0 z0 z0 z0 z0) H := fun k q hk => hP k q (by rw [List.getElem?_append_left (List.getElem?_eq_some_iff.mp hk).1]; exact hk)
  have hPm : va_P (dC, dI) vwCl [(hm0, .inr (1, [.int 0, .null, .null, .int 0, .null, .null, .null, .int 0, .null, .null, .long 0, .null, .int 0, .int 0, .int 0, .null]))] H := hP.sub [10] rfl
  have hDm : va_D (fun z => z = hm0 ∨ H.size ≤ z) [(hm0, .inr (1, [.int 0, .null, .null, .int 0, .null, .null, .null, .int 0, .null, .null, .long 0, .null, .int 0, .int 0, .int 0, .null]))] := ⟨fun i j p q h1 h2 h3 => by
    match i, j, h1, h2 with
    | 0, 0, _, _ => rfl
    | 0, j + 1, _, h2 => simp at h2
    | i + 1, _, h1, _ => simp at h1, fun k q hk => by
    match k, hk with
    | 0, hk => exact Or.inl (congrArg Prod.fst (Option.some.inj hk)).symm
    | k + 1, hk => simp at hk⟩
  have hm0A : s.heap.size ≤ hm0 := hD.2 10 _ rfl
  have hapm : ∀ z, aL (qv hx0 a1 a2 a3 a4 a5 a6 a7 a8 a9) z → z ≠ hm0 ∧ z < H.size := by
    intro z hz
    rcases hz with rfl | rfl | rfl | rfl | rfl | rfl | rfl | rfl | rfl | rfl

    · exact ⟨fun e5 => absurd (hD.1 0 10 _ _ rfl rfl e5) (by decide), (hPx 0 _ rfl).lt⟩
    · exact ⟨fun e5 => absurd (hD.1 1 10 _ _ rfl rfl e5) (by decide), (hPx 1 _ rfl).lt⟩
    · exact ⟨fun e5 => absurd (hD.1 2 10 _ _ rfl rfl e5) (by decide), (hPx 2 _ rfl).lt⟩
    · exact ⟨fun e5 => absurd (hD.1 3 10 _ _ rfl rfl e5) (by decide), (hPx 3 _ rfl).lt⟩
    · exact ⟨fun e5 => absurd (hD.1 4 10 _ _ rfl rfl e5) (by decide), (hPx 4 _ rfl).lt⟩
    · exact ⟨fun e5 => absurd (hD.1 5 10 _ _ rfl rfl e5) (by decide), (hPx 5 _ rfl).lt⟩
    · exact ⟨fun e5 => absurd (hD.1 6 10 _ _ rfl rfl e5) (by decide), (hPx 6 _ rfl).lt⟩
    · exact ⟨fun e5 => absurd (hD.1 7 10 _ _ rfl rfl e5) (by decide), (hPx 7 _ rfl).lt⟩
    · exact ⟨fun e5 => absurd (hD.1 8 10 _ _ rfl rfl e5) (by decide), (hPx 8 _ rfl).lt⟩
    · exact ⟨fun e5 => absurd (hD.1 9 10 _ _ rfl rfl e5) (by decide), (hPx 9 _ rfl).lt⟩
  have hF0 : ∀ z, (z = hm0 ∨ H.size ≤ z) → s.heap.size ≤ z := fun z h => h.elim (fun e => by rw [e]; exact hm0A) (fun h => Nat.le_trans hS.1 h)
  refine W.widen (k := 11) (n := 127) (by omega) (by omega) ?_
  refine lv_dup hx hb dL_law_11 rfl ?_
  refine va_callv (va_runI (As := []) (rest := [.ref hm0]) ⟨hx, hb, hml, hown, hts⟩ (kX1_init (l := l) hPm hDm) (cwI 0 hts gL_law_X1_init rfl rfl rfl (hts (.initialized RX1) (by decide +kernel)) (hts (.methodLink RL 12 yX1_init) (by decide +kernel)) (hts (.instanceMethod yX1_init) (by decide +kernel)) rfl (by decide +kernel) ⟨Nat.le_of_ble_eq_true rfl, Nat.le_of_ble_eq_true rfl⟩) ⟨fun a U g mk q => ⟨q.1, q.2.1, va_K.moved (u := U) (U := U.calling g mk a) (Vm.Alike.refl U.vm) q.2.2⟩, fun U hU hW => ⟨rfl, hU, va_K.moved hW.alike hK⟩⟩ rfl rfl hl.1 rfl (lv_room (Nat.le_of_ble_eq_true rfl)) dL_law_12 ⟨Nat.le_of_ble_eq_true rfl, Nat.le_of_ble_eq_true rfl⟩) hS (fun q _ h => hF0 q h) hF0 (fun u t H1 locs ht hvm hw hB hz1 hk1 hS => ?_)
  obtain ⟨cm, b1, b2, b3, b4, b5, b6, b7, b8, b9, hPm, hKm, hDm⟩ := hB
  rw [ht] at hPm
  have hKm := va_K.moved hvm.symm hKm
  have hPx := hPx.kept (H1 := H1) (fun k x hk => hk1 x.1 (hPx k x hk).lt (fun h => by
    obtain ⟨g1, g2⟩ := hapm x.1 ((dX_aL (A := fun q : Nat => s.heap.size ≤ q) hDx).2 k x hk)
    rcases h with h | h
    · exact g1 h
    · omega))
  have hap : ∀ z, aL (qv hx0 a1 a2 a3 a4 a5 a6 a7 a8 a9) z → ¬ aL (qv hm0 b1 b2 b3 b4 b5 b6 b7 b8 b9) z := by
    intro z h1 h2
    obtain ⟨g1, g2⟩ := hapm z h1
    rcases dM_A hDm z h2 with h | h
    · exact g1 h
    · omega
  have hDm := hDm.weaken (B := fun q : Nat => s.heap.size ≤ q) (fun k q _ h => hF0 q.1 h)
  clear hk1 hz1 hF0 hP hD ht hvm hw hapm
  generalize H1 = H at hPx hPm hS ⊢
  refine W.widen (k := 20) (n := 223) (by omega) (by omega) ?_
  refine lv_astore_n (lv' := [(2, .ref hm0), (1, .ref hx0), (0, .ref b)]) hx hb dL_law_15 rfl hl (by decide) rfl (fun ls hl => ?_)
  refine lv_iconst (v := 0) hx hb dL_law_16 (by decide) ?_
  refine lv_istore_n (lv' := [(3, .int 0), (2, .ref hm0), (1, .ref hx0), (0, .ref b)]) hx hb dL_law_17 rfl hl (by decide) rfl (fun ls hl => ?_)
  refine law_loop (D := (dC, dI)) (cx := cx) (cm := cm) (qx := (qv hx0 a1 a2 a3 a4 a5 a6 a7 a8 a9)) (qm := (qv hm0 b1 b2 b3 b4 b5 b6 b7 b8 b9)) hr hlocks ⟨hx, hb, hml, hown, hts, hX, hbl, hL, hKx, hKm, vD_same (by rfl) hDx, vD_same (by rfl) hDm, hap⟩ 2053 0 H locs ls (by omega) (by omega) ?_ (lv_sub hl [3, 2, 1, 0] rfl)
  exact ⟨1, 0, 0, 0, 0, 0, idF z0 12, idF z0 12, z0, z0, z0, z0, z0, z0, z0, fiF (-1) z0 12, z0, z0, 0, 0, 0, ⟨Nat.le_refl _, by omega, Nat.zero_le _, Nat.zero_le _, pm_id, fun h hh => absurd hh (by omega), fun h hh => absurd hh (by omega), hd_0 (by omega)⟩, hPx, hPm, hS⟩

