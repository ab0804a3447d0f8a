/-! the search: the class's first, least, many and fewest are the reference's -/
theorem bc_nI (x : Int32) : ∃ j : Nat, j < 64 ∧ bcI x = nI j := by
  obtain ⟨j, hj, e⟩ := pk_andE (bcE (bcD (bcC (bcB (bcA x))))) (m := 63) 6 (by decide)
  exact ⟨j, hj, e⟩
theorem abs_in (b d : Int32) : ∃ j : Nat, j ≤ 126 ∧ absI (leanI b d) = nI j := by
  obtain ⟨x, hx, ex⟩ := bc_nI (b &&& d)
  obtain ⟨y, hy, ey⟩ := bc_nI b
  have e1 : leanI b d = nI (2 * x) - nI y := by rw [leanI, ex, ey]; congr 1; exact pk_mul 2 x
  have e2 : (leanI b d).toInt = (2 * x : Int) - y := by rw [e1, pk_sub_toInt (by omega) (by omega)]; omega
  unfold absI
  by_cases h : 0 ≤ leanI b d
  · rw [if_pos h]
    have h1 := Int32.le_iff_toInt_le.mp h
    have z : (0 : Int32).toInt = 0 := by decide
    refine ⟨2 * x - y, by omega, ?_⟩
    rw [e1, pk_sub (by omega)]
  · rw [if_neg h]
    have h1 := Int32.lt_iff_toInt_lt.mp (Int32.not_le.mp h)
    have z : (0 : Int32).toInt = 0 := by decide
    refine ⟨y - 2 * x, by omega, ?_⟩
    rw [e1, Int32.zero_sub, Int32.neg_sub, pk_sub (by omega)]
theorem wo_in (bm : Nat → Int32) (d : Int32) (K : Nat) : ∃ j : Nat, j ≤ 126 ∧ woF bm d K = nI j := by
  induction K with
  | zero => exact ⟨0, by omega, nI_0.symm⟩
  | succ K ih =>
    obtain ⟨x, hx, ex⟩ := ih
    obtain ⟨y, hy, ey⟩ := abs_in (bm K) d
    rw [woF, ex, ey]
    unfold maxI
    split
    · exact ⟨y, hy, rfl⟩
    · exact ⟨x, hx, rfl⟩
theorem sq_in (bm : Nat → Int32) (d : Int32) (K : Nat) : ∃ j : Nat, j ≤ 15876 * K ∧ sqF bm d K = nI j := by
  induction K with
  | zero => exact ⟨0, by omega, nI_0.symm⟩
  | succ K ih =>
    obtain ⟨x, hx, ex⟩ := ih
    obtain ⟨y, hy, ey⟩ := abs_in (bm K) d
    rw [sqF, ex, ey, pk_mul, nI_add]
    refine ⟨x + y * y, ?_, rfl⟩
    have : y * y ≤ 126 * 126 := Nat.mul_le_mul hy hy
    omega
theorem wo_1000 (bm : Nat → Int32) (d : Int32) (K : Nat) : woF bm d K < 1000 := by
  obtain ⟨j, hj, e⟩ := wo_in bm d K
  rw [e]
  exact nI_lt (a := j) (b := 1000) (by omega) (by decide)
theorem sq_10 (bm : Nat → Int32) (d : Int32) {K : Nat} (hK : K ≤ 10) : sqF bm d K < 1000000 := by
  obtain ⟨j, hj, e⟩ := sq_in bm d K
  rw [e]
  exact nI_lt (a := j) (b := 1000000) (by omega) (by decide)
/-- the reference below the first colouring that keeps -/
theorem gt_low {w sq : Nat → Int32} {ok : Nat → Bool} {f0 m0 : Int32} {C : Nat} (h : ∀ n, n < C → ¬ ok n = true) : ∀ k, k ≤ C → gtF w sq ok f0 m0 k = (1000, f0, m0, 1000000) := by
  intro k
  induction k with
  | zero => intro _; rfl
  | succ k ih => intro hk; rw [gtF_n (h k (by omega))]; exact ih (by omega)
def mcF (w : Nat → Int32) (ok : Nat → Bool) (v : Int32) (n : Nat) : Bool := ok n && decide (w n = v)
theorem cnF_succ (P : Nat → Bool) (b j : Nat) : cnF P b (j + 1) = cnF P b j + (if P (b + j) = true then 1 else 0) := by
  rw [cnF]; split <;> rfl
theorem gt_am {w sq : Nat → Int32} {ok : Nat → Bool} {f0 m0 : Int32} {C : Nat} (hlow : ∀ n, n < C → ¬ ok n = true) (hC : ok C = true) (hw : ∀ n, w n < 1000) (hs : ∀ n, sq n < 1000000) : ∀ j,
    gtF w sq ok f0 m0 (C + 1 + j) = (w (amF w ok C j), nI (amF w ok C j), nI (cnF (mcF w ok (w (amF w ok C j))) (amF w ok C j) (C + 1 + j - amF w ok C j)), mnF sq ok C j) := by
  intro j
  induction j with
  | zero =>
    rw [Nat.add_zero, gtF_t hC, gt_low hlow C (Nat.le_refl _)]
    show (if w C < 1000 then w C else 1000, if w C < 1000 then nI C else f0, if w C < 1000 then (1 : Int32) else _, if sq C < 1000000 then sq C else 1000000) = _
    rw [if_pos (hw C), if_pos (hw C), if_pos (hw C), if_pos (hs C)]
    show (w C, nI C, (1 : Int32), sq C) = (w C, nI C, nI (cnF (mcF w ok (w C)) C (C + 1 - C)), sq C)
    rw [show C + 1 - C = 0 + 1 by omega, cnF_t (by simp [mcF, hC])]
    rfl
  | succ j ih =>
    have hle := amF_le w ok C j
    rw [← Nat.add_assoc]
    by_cases ho : ok (C + 1 + j) = true
    · rw [gtF_t ho, ih, mnF_t ho]
      dsimp only
      by_cases hlt : w (C + 1 + j) < w (amF w ok C j)
      · rw [amF_t ho hlt, if_pos hlt, if_pos hlt, if_pos hlt]
        rw [show C + 1 + j + 1 - (C + 1 + j) = 0 + 1 by omega, cnF_t (by simp [mcF, ho])]
        rfl
      · rw [amF_f hlt, if_neg hlt, if_neg hlt, if_neg hlt]
        rw [show C + 1 + j + 1 - amF w ok C j = (C + 1 + j - amF w ok C j) + 1 by omega, cnF_succ, show amF w ok C j + (C + 1 + j - amF w ok C j) = C + 1 + j by omega]
        by_cases he : w (C + 1 + j) = w (amF w ok C j)
        · have pm : mcF w ok (w (amF w ok C j)) (C + 1 + j) = true := by simp [mcF, ho, he]
          rw [if_pos he, if_pos pm, nI_1]
        · have pm : ¬ mcF w ok (w (amF w ok C j)) (C + 1 + j) = true := by simp [mcF, he]
          rw [if_neg he, if_neg pm]
          rfl
    · rw [gtF_n ho, ih, amF_n ho, mnF_f ho]
      rw [show C + 1 + j + 1 - amF w ok C j = (C + 1 + j - amF w ok C j) + 1 by omega, cnF_succ, show amF w ok C j + (C + 1 + j - amF w ok C j) = C + 1 + j by omega, if_neg (by simp [mcF, ho])]
      rfl
-- what keeps
theorem kp_iff {gh : Nat → Int32} {d : Int32} : ∀ n, kpF gh d n = true ↔ ∀ t, t < n → gh t < 0 ∨ gh t = bitI d (nI t) := by
  intro n
  induction n with
  | zero => exact ⟨fun _ t h => absurd h (by omega), fun _ => rfl⟩
  | succ n ih =>
    rw [kpF, Bool.and_eq_true, ih]
    constructor
    · intro h t ht
      by_cases e : t = n
      · subst e; exact of_decide_eq_true h.2
      · exact h.1 t (by omega)
    · intro h
      exact ⟨fun t ht => h t (by omega), decide_eq_true (h n (by omega))⟩
theorem ok_kp {T C : Nat} {gh : Nat → Int32} {N n : Nat} (hN : N ≤ 12) (h : hdOk T C gh N) (hn : n < 2 ^ N) : okX (nI T) (nI C) n = kpF gh (nI n) N := by
  obtain ⟨h1, h2, h3, h4⟩ := h
  have b12 := p12 hN
  have key : (n &&& T = C) ↔ ∀ t, t < N → T.testBit t = true → n.testBit t = C.testBit t := by
    constructor
    · intro e t ht hT
      rw [← e, Nat.testBit_and, hT, Bool.and_true]
    · intro e
      apply Nat.eq_of_testBit_eq
      intro t
      rw [Nat.testBit_and]
      by_cases ht : t < N
      · cases hT : T.testBit t with
        | true => rw [e t ht hT, Bool.and_true]
        | false =>
          rw [Bool.and_false]
          cases hc : C.testBit t with
          | false => rfl
          | true => rw [h3 t hc] at hT; cases hT
      · have z1 : n.testBit t = false := Nat.testBit_lt_two_pow (Nat.lt_of_lt_of_le hn (Nat.pow_le_pow_right (by decide) (by omega)))
        have z2 : C.testBit t = false := Nat.testBit_lt_two_pow (Nat.lt_of_lt_of_le h2 (Nat.pow_le_pow_right (by decide) (by omega)))
        rw [z1, z2, Bool.false_and]
  rw [Bool.eq_iff_iff, kp_iff]
  unfold okX
  rw [decide_eq_true_iff, nx_and]
  constructor
  · intro e t ht
    have e2 : n &&& T = C := nI_inj (Nat.lt_of_le_of_lt Nat.and_le_left (by omega)) (by omega) e
    rw [h4 t ht, bit_T hN hn (by omega)]
    cases hT : T.testBit t with
    | false => left; rw [if_neg (by decide)]; decide
    | true =>
      right
      rw [if_pos rfl, (key.mp e2) t ht hT]
  · intro e
    congr 1
    refine key.mpr (fun t ht hT => ?_)
    have := e t ht
    rw [h4 t ht, if_pos hT, bit_T hN hn (by omega)] at this
    cases hc : C.testBit t <;> cases hm : n.testBit t <;> simp only [hc, hm] at this ⊢
    all_goals (rcases this with z | z <;> exact absurd z (by decide))
theorem ok_C {T C : Nat} {gh : Nat → Int32} {N : Nat} (h : hdOk T C gh N) : okX (nI T) (nI C) C = true := by
  unfold okX
  rw [decide_eq_true_iff, nx_and]
  congr 1
  apply Nat.eq_of_testBit_eq
  intro t
  rw [Nat.testBit_and]
  cases hc : C.testBit t with
  | false => rfl
  | true => rw [h.2.2.1 t hc]; rfl
theorem ok_low {T C : Nat} {gh : Nat → Int32} {N n : Nat} (hN : N ≤ 12) (h : hdOk T C gh N) (hn : n < C) : ¬ okX (nI T) (nI C) n = true := by
  intro e
  unfold okX at e
  rw [decide_eq_true_iff, nx_and] at e
  have b12 := p12 hN
  have h2 := h.2.1
  have e2 : n &&& T = C := nI_inj (Nat.lt_of_le_of_lt Nat.and_le_left (by omega)) (by omega) e
  have : n &&& T ≤ n := Nat.and_le_left
  omega
theorem gtF_congr {w1 w2 s1 s2 : Nat → Int32} {o1 o2 : Nat → Bool} {f0 m0 : Int32} : ∀ n, (∀ k, k < n → w1 k = w2 k ∧ s1 k = s2 k ∧ o1 k = o2 k) → gtF w1 s1 o1 f0 m0 n = gtF w2 s2 o2 f0 m0 n := by
  intro n
  induction n with
  | zero => intro _; rfl
  | succ n ih =>
    intro h
    obtain ⟨a, b, d⟩ := h n (by omega)
    rw [gtF, gtF, ih (fun k hk => h k (by omega)), a, b, d]
/-- all four answers of the search -/
theorem search_eq {T C : Nat} {gh b1 b2 : Nat → Int32} {N K : Nat} {f0 m0 : Int32} (hN : N ≤ 12) (hK : K ≤ 10) (h : hdOk T C gh N) (hb : ∀ j, j < K → b1 j = b2 j) :
    gtM b2 gh N K f0 m0 = (woF b1 (nI (flX b1 K (nI T) C N)) K, nI (flX b1 K (nI T) C N), nI (cnF (maX b1 K (nI T) (nI C) (woF b1 (nI (flX b1 K (nI T) C N)) K)) (flX b1 K (nI T) C N) (2 ^ N - flX b1 K (nI T) C N)), mnF (fun n => sqF b1 (nI n) K) (okX (nI T) (nI C)) C (2 ^ N - (C + 1))) := by
  have h2 := h.2.1
  unfold gtM
  rw [gtF_congr (w2 := fun n => woF b1 (nI n) K) (s2 := fun n => sqF b1 (nI n) K) (o2 := okX (nI T) (nI C)) (2 ^ N) (fun k hk => ⟨(woF_congr hb).symm, (sqF_congr hb).symm, (ok_kp hN h hk).symm⟩)]
  have g := gt_am (w := fun n => woF b1 (nI n) K) (sq := fun n => sqF b1 (nI n) K) (ok := okX (nI T) (nI C)) (f0 := f0) (m0 := m0) (C := C) (fun n hn => ok_low hN h hn) (ok_C h) (fun n => wo_1000 _ _ _) (fun n => sq_10 _ _ hK) (2 ^ N - (C + 1))
  rw [show C + 1 + (2 ^ N - (C + 1)) = 2 ^ N by omega] at g
  exact g
