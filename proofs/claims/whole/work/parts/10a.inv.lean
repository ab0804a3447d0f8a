/-! what holds between the class and the reference -/
theorem woF_congr {b1 b2 : Nat → Int32} {d : Int32} {K : Nat} (h : ∀ j, j < K → b1 j = b2 j) : woF b1 d K = woF b2 d K := by
  induction K with
  | zero => rfl
  | succ K ih => rw [woF, woF, ih (fun j hj => h j (by omega)), h K (by omega)]
theorem sqF_congr {b1 b2 : Nat → Int32} {d : Int32} {K : Nat} (h : ∀ j, j < K → b1 j = b2 j) : sqF b1 d K = sqF b2 d K := by
  induction K with
  | zero => rfl
  | succ K ih => rw [sqF, sqF, ih (fun j hj => h j (by omega)), h K (by omega)]
theorem tmF_congr {b1 b2 : Nat → Int32} {d : Int32} {K : Nat} (h : ∀ j, j < K → b1 j = b2 j) : tmF b1 d K = tmF b2 d K := by
  induction K with
  | zero => rfl
  | succ K ih => rw [tmF, tmF, ih (fun j hj => h j (by omega)), h K (by omega)]
theorem tiF_congr {b1 b2 : Nat → Int32} {K n : Nat} (h : ∀ j, j < K → b1 j = b2 j) : tiF b1 K n = tiF b2 K n := by
  induction n with
  | zero => rfl
  | succ n ih => rw [tiF, tiF, ih, tmF_congr h]
theorem cmF_congr {b1 b2 : Nat → Int32} {t : Nat} {d : Int32} {K : Nat} (h : ∀ j, j < K → b1 j = b2 j) : cmF b1 t d K = cmF b2 t d K := by
  induction K with
  | zero => rfl
  | succ K ih => rw [cmF, cmF, ih (fun j hj => h j (by omega)), h K (by omega)]
/-- the second order is an order of the things, its places are kept, and the things below N stand at the places below N -/
def pmOk (ta pl : Nat → Int32) (N : Nat) : Prop := (∀ j, j < 12 → ∃ u : Nat, u < 12 ∧ ta j = nI u ∧ pl u = nI j ∧ (j < N → u < N)) ∧ ∀ t, t < 12 → ∃ j : Nat, j < 12 ∧ pl t = nI j ∧ ta j = nI t ∧ (t < N → j < N)
theorem nI_inj {a b : Nat} (ha : a < 2 ^ 31) (hb : b < 2 ^ 31) (h : nI a = nI b) : a = b := (nI_eq ha hb).mp h
theorem pm_rg {ta pl : Nat → Int32} {N : Nat} (h : pmOk ta pl N) : rg ta := fun j hj => by
  obtain ⟨u, hu, e, -, -⟩ := h.1 j hj
  exact ⟨u, hu, e⟩
theorem pm_rgp {ta pl : Nat → Int32} {N : Nat} (h : pmOk ta pl N) : rg pl := fun t ht => by
  obtain ⟨u, hu, e, -, -⟩ := h.2 t ht
  exact ⟨u, hu, e⟩
theorem pm_pl {ta pl : Nat → Int32} {N : Nat} (hN : N ≤ 12) (h : pmOk ta pl N) : plOk ta pl N := by
  intro t ht
  obtain ⟨u, hu, e1, e2, -⟩ := h.2 t (by omega)
  refine ⟨u, hu, e1, e2, fun j hj e3 => ?_⟩
  obtain ⟨v, hv, f1, f2, -⟩ := h.1 j (by omega)
  have : v = t := nI_inj (by omega) (by omega) (f1.symm.trans e3)
  subst this
  have : u = j := nI_inj (by omega) (by omega) (e1.symm.trans f2)
  omega
theorem idF_lt {f : Nat → Int32} {n j : Nat} (h : j < n) : idF f n j = nI j := by
  induction n with
  | zero => omega
  | succ n ih =>
    rw [idF]
    by_cases e : j = n
    · subst e; rw [pk_us]
    · rw [pk_un e]; exact ih (by omega)
theorem pm_id {f g : Nat → Int32} {N : Nat} : pmOk (idF f 12) (idF g 12) N :=
  ⟨fun j hj => ⟨j, hj, idF_lt hj, idF_lt hj, fun h => h⟩, fun t ht => ⟨t, ht, idF_lt ht, idF_lt ht, fun h => h⟩⟩
theorem pm_swap {ta pl : Nat → Int32} {N i j : Nat} (hN : N ≤ 12) (hi : i < N) (hj : j < N) (h : pmOk ta pl N) : pmOk (swT ta i j) (swP pl ta i j) N := by
  obtain ⟨a, ha, a1, a2, a3⟩ := h.1 i (by omega)
  obtain ⟨b, hb, b1, b2, b3⟩ := h.1 j (by omega)
  have inj : ∀ x y u : Nat, x < 12 → y < 12 → ta x = nI u → ta y = nI u → u < 12 → x = y := by
    intro x y u hx hy e1 e2 hu
    obtain ⟨v, hv, v1, v2, -⟩ := h.1 x hx
    obtain ⟨w, hw, w1, w2, -⟩ := h.1 y hy
    have e3 : v = u := nI_inj (by omega) (by omega) (v1.symm.trans e1)
    have e4 : w = u := nI_inj (by omega) (by omega) (w1.symm.trans e2)
    subst e3; subst e4
    exact nI_inj (by omega) (by omega) (v2.symm.trans w2)
  have hab : a = b → i = j := fun e => inj i j a (by omega) (by omega) a1 (by rw [e]; exact b1) ha
  have T : ∀ x, swT ta i j x = if x = j then nI a else if x = i then nI b else ta x := by
    intro x; unfold swT upd; rw [a1, b1]
  have Pq : ∀ x, swP pl ta i j x = if x = a then nI j else if x = b then nI i else pl x := by
    intro x; unfold swP; rw [a1, b1, ix_nI (by omega), ix_nI (by omega)]; rfl
  refine ⟨fun x hx => ?_, fun t ht => ?_⟩
  · rw [T]
    by_cases e1 : x = j
    · rw [if_pos e1]
      exact ⟨a, ha, rfl, by rw [Pq, if_pos rfl, e1], fun _ => a3 hi⟩
    · rw [if_neg e1]
      by_cases e2 : x = i
      · rw [if_pos e2]
        have : b ≠ a := fun e => e1 (by rw [e2]; exact hab e.symm)
        exact ⟨b, hb, rfl, by rw [Pq, if_neg this, if_pos rfl, e2], fun _ => b3 hj⟩
      · rw [if_neg e2]
        obtain ⟨u, hu, u1, u2, u3⟩ := h.1 x hx
        have n1 : u ≠ a := fun e => e2 (inj x i a hx (by omega) (by rw [← e]; exact u1) a1 ha)
        have n2 : u ≠ b := fun e => e1 (inj x j b hx (by omega) (by rw [← e]; exact u1) b1 hb)
        exact ⟨u, hu, u1, by rw [Pq, if_neg n1, if_neg n2]; exact u2, u3⟩
  · rw [Pq]
    by_cases e1 : t = a
    · rw [if_pos e1]
      exact ⟨j, by omega, rfl, by rw [T, if_pos rfl, e1], fun _ => hj⟩
    · rw [if_neg e1]
      by_cases e2 : t = b
      · rw [if_pos e2]
        have : i ≠ j := fun e => e1 (by rw [e2]; exact (nI_inj (by omega) (by omega) (a1.symm.trans (by rw [e]; exact b1))).symm)
        exact ⟨i, by omega, rfl, by rw [T, if_neg this, if_pos rfl, e2], fun _ => hi⟩
      · rw [if_neg e2]
        obtain ⟨u, hu, u1, u2, u3⟩ := h.2 t ht
        have n1 : u ≠ j := fun e => e2 (nI_inj (by omega) (by omega) (u2.symm.trans (by rw [e]; exact b1)))
        have n2 : u ≠ i := fun e => e1 (nI_inj (by omega) (by omega) (u2.symm.trans (by rw [e]; exact a1)))
        exact ⟨u, hu, u1, by rw [T, if_neg n1, if_neg n2]; exact u2, u3⟩
/-- what is held: T the things, C their colours -/
def hdOk (T C : Nat) (gh : Nat → Int32) (N : Nat) : Prop := T < 2 ^ N ∧ C < 2 ^ N ∧ (∀ t, C.testBit t = true → T.testBit t = true) ∧ ∀ t, t < N → gh t = if T.testBit t = true then (if C.testBit t = true then 1 else 0) else -1
theorem hd_0 {f : Nat → Int32} {N : Nat} (hN : N ≤ 12) : hdOk 0 0 (fiF (-1) f 12) N := by
  refine ⟨Nat.two_pow_pos N, Nat.two_pow_pos N, fun t h => ?_, fun t ht => ?_⟩
  · simp at h
  · rw [fiF_lt (by omega)]; simp
theorem bit_T {T N t : Nat} (hN : N ≤ 12) (hT : T < 2 ^ N) (ht : t < 12) : bitI (nI T) (nI t) = if T.testBit t = true then 1 else 0 := bit_nI (Nat.lt_of_lt_of_le hT (p12 hN)) ht
theorem hold_v {T C : Nat} {gh : Nat → Int32} {N t : Nat} (hN : N ≤ 12) (h : hdOk T C gh N) (ht : t < N) : (if bitI (nI T) (nI t) = 1 then bitI (nI C) (nI t) else -1) = gh t := by
  rw [bit_T hN h.1 (by omega), bit_T hN h.2.1 (by omega), h.2.2.2 t ht]
  cases T.testBit t <;> cases C.testBit t <;> decide
theorem bitw {a t N : Nat} (ha : a < 2 ^ N) (ht : t < N) : a ||| 2 ^ t < 2 ^ N := Nat.or_lt_two_pow ha (Nat.pow_lt_pow_right (by decide) ht)
theorem nbit : ∀ t, t < 12 → ((1 : Int32) <<< (nI t &&& 31)) ^^^ -1 = nI (2 ^ 32 - 1 - 2 ^ t) := by decide +kernel
theorem nand_bit {t i : Nat} (h : t < 32) : (2 ^ 32 - 1 - 2 ^ t).testBit i = (decide (i < 32) && !decide (t = i)) := by
  rw [show (2 ^ 32 - 1 - 2 ^ t) = 2 ^ 32 - (2 ^ t + 1) by omega, Nat.testBit_two_pow_sub_succ (Nat.pow_lt_pow_right (by decide) h), Nat.testBit_two_pow]
theorem held_and {a t N : Nat} (hN : N ≤ 12) (ha : a < 2 ^ N) (ht : t < N) : nI a &&& (((1 : Int32) <<< (nI t &&& 31)) ^^^ -1) = nI (a &&& (2 ^ 32 - 1 - 2 ^ t)) := by
  rw [nbit t (by omega), nx_and]
theorem and_bit {a t i N : Nat} (hN : N ≤ 12) (ha : a < 2 ^ N) (ht : t < N) : (a &&& (2 ^ 32 - 1 - 2 ^ t)).testBit i = (a.testBit i && !decide (t = i)) := by
  rw [Nat.testBit_and, nand_bit (by omega)]
  by_cases hi : i < 32
  · simp [hi]
  · have : a.testBit i = false := Nat.testBit_lt_two_pow (Nat.lt_of_lt_of_le ha (Nat.pow_le_pow_right (by decide) (by omega)))
    simp [this]
theorem hold_T {T C : Nat} {gh : Nat → Int32} {N t : Nat} {k : Int32} (hN : N ≤ 12) (h : hdOk T C gh N) (ht : t < N) (hk : -1 ≤ k ∧ k ≤ 1) : ∃ T2 C2 : Nat,
    (if k = -1 then nI T &&& (((1 : Int32) <<< (nI t &&& 31)) ^^^ -1) else nI T ||| ((1 : Int32) <<< (nI t &&& 31))) = nI T2 ∧
    (if k = 1 then nI C ||| ((1 : Int32) <<< (nI t &&& 31)) else nI C &&& (((1 : Int32) <<< (nI t &&& 31)) ^^^ -1)) = nI C2 ∧ hdOk T2 C2 (upd gh t k) N := by
  obtain ⟨h1, h2, h3, h4⟩ := h
  have hk3 : k = -1 ∨ k = 0 ∨ k = 1 := by
    have e1 := Int32.le_iff_toInt_le.mp hk.1
    have e2 := Int32.le_iff_toInt_le.mp hk.2
    have z1 : (-1 : Int32).toInt = -1 := by decide
    have z2 : (1 : Int32).toInt = 1 := by decide
    rcases (show k.toInt = -1 ∨ k.toInt = 0 ∨ k.toInt = 1 by omega) with e | e | e
    · exact Or.inl (Int32.toInt_inj.mp (by rw [e]; decide))
    · exact Or.inr (Or.inl (Int32.toInt_inj.mp (by rw [e]; decide)))
    · exact Or.inr (Or.inr (Int32.toInt_inj.mp (by rw [e]; decide)))
  have hT : ∀ i, (T ||| 2 ^ t).testBit i = (T.testBit i || decide (t = i)) := fun i => by rw [Nat.testBit_or, Nat.testBit_two_pow]
  have hC : ∀ i, (C ||| 2 ^ t).testBit i = (C.testBit i || decide (t = i)) := fun i => by rw [Nat.testBit_or, Nat.testBit_two_pow]
  have hTa : ∀ i, (T &&& (2 ^ 32 - 1 - 2 ^ t)).testBit i = (T.testBit i && !decide (t = i)) := fun i => and_bit hN h1 ht
  have hCa : ∀ i, (C &&& (2 ^ 32 - 1 - 2 ^ t)).testBit i = (C.testBit i && !decide (t = i)) := fun i => and_bit hN h2 ht
  have lt1 : T &&& (2 ^ 32 - 1 - 2 ^ t) < 2 ^ N := Nat.lt_of_le_of_lt Nat.and_le_left h1
  have lt2 : C &&& (2 ^ 32 - 1 - 2 ^ t) < 2 ^ N := Nat.lt_of_le_of_lt Nat.and_le_left h2
  rw [held_and hN h1 ht, held_and hN h2 ht, shl1 t (by omega), nx_or, nx_or]
  rcases hk3 with rfl | rfl | rfl
  · refine ⟨_, _, if_pos rfl, if_neg (by decide), lt1, lt2, fun i => ?_, fun i hi => ?_⟩
    · rw [hTa, hCa]; intro z; simp only [Bool.and_eq_true] at z ⊢; exact ⟨h3 i z.1, z.2⟩
    · rw [hTa, hCa]
      by_cases e : i = t
      · subst e; rw [pk_us]; simp
      · rw [pk_un e, h4 i hi]; simp [show ¬ t = i from fun z => e z.symm]
  · refine ⟨_, _, if_neg (by decide), if_neg (by decide), bitw h1 ht, lt2, fun i => ?_, fun i hi => ?_⟩
    · rw [hT, hCa]; intro z; simp only [Bool.and_eq_true, Bool.or_eq_true] at z ⊢; exact Or.inl (h3 i z.1)
    · rw [hT, hCa]
      by_cases e : i = t
      · subst e; rw [pk_us]; simp
      · rw [pk_un e, h4 i hi]; simp [show ¬ t = i from fun z => e z.symm]
  · refine ⟨_, _, if_neg (by decide), if_pos rfl, bitw h1 ht, bitw h2 ht, fun i => ?_, fun i hi => ?_⟩
    · rw [hT, hC]; intro z; simp only [Bool.or_eq_true] at z ⊢; exact z.elim (fun a => Or.inl (h3 i a)) Or.inr
    · rw [hT, hC]
      by_cases e : i = t
      · subst e; rw [pk_us]; simp
      · rw [pk_un e, h4 i hi]; simp [show ¬ t = i from fun z => e z.symm]
-- count
def cbN (T : Nat) : Nat → Nat
  | 0 => 0
  | k + 1 => cbN T k + (if T.testBit k = true then 1 else 0)
set_option maxRecDepth 100000 in
theorem cb_pcn : ∀ T, T < 4096 → pcn T = cbN T 12 := by decide +kernel
theorem cb_ge {T N : Nat} (hT : T < 2 ^ N) : ∀ k, cbN T (N + k) = cbN T N := by
  intro k
  induction k with
  | zero => rfl
  | succ k ih =>
    rw [← Nat.add_assoc, cbN, ih, Nat.testBit_lt_two_pow (Nat.lt_of_lt_of_le hT (Nat.pow_le_pow_right (by decide) (by omega)))]
    simp
theorem ch_cb {T C : Nat} {gh : Nat → Int32} {N : Nat} (h : hdOk T C gh N) : ∀ k, k ≤ N → chF gh k = nI (cbN T k) := by
  intro k
  induction k with
  | zero => intro _; exact nI_0.symm
  | succ k ih =>
    intro hk
    rw [chF, cbN, ih (by omega), h.2.2.2 k (by omega)]
    cases T.testBit k with
    | false => simp
    | true =>
      rw [if_pos rfl, if_neg (by cases C.testBit k <;> decide), if_pos rfl, nI_1]
theorem count_eq {T C : Nat} {gh : Nat → Int32} {N : Nat} (hN : N ≤ 12) (h : hdOk T C gh N) : bcI (nI T) = chF gh N := by
  have h1 := Nat.lt_of_lt_of_le h.1 (p12 hN)
  have h2 := cb_ge h.1 (12 - N)
  rw [show N + (12 - N) = 12 by omega] at h2
  rw [bc_pcn T h1, cb_pcn T h1, ch_cb h N (Nat.le_refl _), h2]
theorem turns_eq : ∀ N, N < 13 → tuF (N / 2) = 2730 &&& (nI (2 ^ N) - 1) := by decide +kernel
-- come
theorem cc_eq {T C : Nat} {gh b1 b2 : Nat → Int32} {N K t : Nat} {d : Int32} (hN : N ≤ 12) (h : hdOk T C gh N) (ht : t < N) (hb : ∀ j, j < K → b1 j = b2 j) : ccX b1 K (nI T) (nI C) t d = ccM b2 K gh t d := by
  unfold ccX ccM
  rw [bit_T hN h.1 (by omega), bit_T hN h.2.1 (by omega), h.2.2.2 t ht, cmF_congr hb]
  cases T.testBit t with
  | false => simp
  | true => cases C.testBit t <;> simp <;> decide
theorem come_eq {T C : Nat} {gh b1 b2 : Nat → Int32} {N K : Nat} (hN : N ≤ 12) (h : hdOk T C gh N) (hb : ∀ j, j < K → b1 j = b2 j) : ∀ n, n ≤ N → coF b1 K (nI T) (nI C) n = coM b2 K gh n := by
  intro n
  induction n with
  | zero => intro _; rfl
  | succ n ih => intro hn; rw [coF, coM, ih (by omega), cc_eq hN h (by omega) hb]
