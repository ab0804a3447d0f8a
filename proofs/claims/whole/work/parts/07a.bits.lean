/-! numbers below 4096 as sets of bits -/
theorem nx_and (a b : Nat) : nI a &&& nI b = nI (a &&& b) := by
  apply Int32.toBitVec_inj.1
  show BitVec.ofNat 32 a &&& BitVec.ofNat 32 b = BitVec.ofNat 32 (a &&& b)
  apply BitVec.eq_of_getLsbD_eq
  intro i hi
  simp [hi]
theorem nx_or (a b : Nat) : nI a ||| nI b = nI (a ||| b) := by
  apply Int32.toBitVec_inj.1
  show BitVec.ofNat 32 a ||| BitVec.ofNat 32 b = BitVec.ofNat 32 (a ||| b)
  apply BitVec.eq_of_getLsbD_eq
  intro i hi
  simp [hi]
theorem or0 (x : Int32) : x ||| 0 = x := by
  apply Int32.toBitVec_inj.1
  rw [Int32.toBitVec_or]
  show x.toBitVec ||| 0#32 = x.toBitVec
  simp
theorem leP {k : Int32} {n : Nat} (hn : n ≤ 4096) : (0 ≤ k ∧ k ≤ nI n - 1) ↔ (0 ≤ k ∧ k < nI n) := by
  have h1 : (nI n - 1).toInt = (n : Int) - 1 := by
    have := pk_sub_toInt (a := n) (b := 1) (by omega) (by omega)
    exact this
  have h2 : (nI n).toInt = (n : Int) := nI_toInt (by omega)
  constructor
  · intro h
    refine ⟨h.1, ?_⟩
    have := Int32.le_iff_toInt_le.mp h.2
    apply Int32.lt_iff_toInt_lt.mpr
    omega
  · intro h
    refine ⟨h.1, ?_⟩
    have := Int32.lt_iff_toInt_lt.mp h.2
    apply Int32.le_iff_toInt_le.mpr
    omega
/-- a number below 4096 -/
def sm (x : Int32) : Prop := ∃ j : Nat, j < 4096 ∧ x = nI j
theorem sm_nI {j : Nat} (h : j < 4096) : sm (nI j) := ⟨j, h, rfl⟩
theorem sm_and {x y : Int32} (h : sm y) (hx : sm x) : sm (x &&& y) := by
  obtain ⟨j, hj, rfl⟩ := h
  obtain ⟨i, hi, rfl⟩ := hx
  exact ⟨i &&& j, Nat.lt_of_le_of_lt Nat.and_le_right hj, nx_and i j⟩
theorem sm_in {x : Int32} {n : Nat} (h : 0 ≤ x ∧ x < nI n) (hn : n ≤ 4096) : sm x := by
  obtain ⟨j, hj, e⟩ := inN h (by omega)
  exact ⟨j, by omega, e⟩
def pcF : Nat → Nat → Nat
  | 0, _ => 0
  | f + 1, b => b % 2 + pcF f (b / 2)
def pcn (b : Nat) : Nat := pcF 12 b
set_option maxRecDepth 100000 in
theorem pcn_step : ∀ b, b < 4096 → b ≠ 0 → pcn b = pcn (b &&& (b - 1)) + 1 := by decide +kernel
set_option maxRecDepth 100000 in
theorem bc_pcn : ∀ b, b < 4096 → bcI (nI b) = nI (pcn b) := by decide +kernel
theorem and_pred {b : Nat} (h0 : b ≠ 0) : nI b &&& (nI b - 1) = nI (b &&& (b - 1)) := by
  rw [nI_sub1 (by omega)]
  exact nx_and _ _
theorem and_pred_lt {b : Nat} (h0 : b ≠ 0) : b &&& (b - 1) < b := Nat.lt_of_le_of_lt Nat.and_le_right (by omega)
theorem bit01 (b t : Int32) : bitI b t = 0 ∨ bitI b t = 1 := by
  obtain ⟨j, hj, e⟩ := pk_andE (b >>> (t &&& 31)) (m := 1) 1 (by decide)
  unfold bitI
  rw [e]
  rcases (show j = 0 ∨ j = 1 by omega) with rfl | rfl
  · exact Or.inl rfl
  · exact Or.inr rfl
theorem bit1 {b t : Int32} (h : ¬ bitI b t = 1) : bitI b t = 0 := (bit01 b t).resolve_right h
theorem s_l : ∀ n, n < 32 → ((nI n &&& 31).toBitVec.smod 32).toNat = n := by decide +kernel
theorem bit_nI {b t : Nat} (hb : b < 4096) (ht : t < 12) : bitI (nI b) (nI t) = if b.testBit t = true then 1 else 0 := by
  unfold bitI
  rw [pk_shrN (by omega) _ t (s_l t (by omega))]
  have h2 : b / 2 ^ t ≤ b := Nat.div_le_self _ _
  rw [pk_andN (by omega) 1 (by decide)]
  rw [Nat.testBit_eq_decide_div_mod_eq]
  by_cases h : b / 2 ^ t % 2 = 1
  · rw [if_pos (by simpa using h)]
    show nI (b / 2 ^ t % 2 ^ 1) = 1
    rw [show b / 2 ^ t % 2 ^ 1 = 1 from h]; rfl
  · rw [if_neg (by simpa using h)]
    show nI (b / 2 ^ t % 2 ^ 1) = 0
    rw [show b / 2 ^ t % 2 ^ 1 = 0 by omega]; rfl
def setN (P : Nat → Bool) : Nat → Nat
  | 0 => 0
  | k + 1 => if P k = true then 2 ^ k + setN P k else setN P k
theorem setN_lt (P : Nat → Bool) (n : Nat) : setN P n < 2 ^ n := by
  induction n with
  | zero => exact Nat.one_pos
  | succ n ih => rw [setN, Nat.pow_succ]; split <;> omega
theorem setF_nI (P : Nat → Bool) {n : Nat} (hn : n ≤ 12) : setF P n = nI (setN P n) := by
  induction n with
  | zero => exact nI_0.symm
  | succ n ih =>
    rw [setF, setN, ih (by omega)]
    by_cases h : P n = true
    · have e := Nat.two_pow_add_eq_or_of_lt (setN_lt P n) 1
      rw [Nat.mul_one] at e
      rw [if_pos h, if_pos h, shl1 n (by omega), nx_or, Nat.or_comm, ← e]
    · rw [if_neg h, if_neg h]
theorem setN_bit (P : Nat → Bool) (n t : Nat) : (setN P n).testBit t = (decide (t < n) && P t) := by
  induction n with
  | zero => simp [setN]
  | succ n ih =>
    rw [setN]
    by_cases h : P n = true
    · rw [if_pos h]
      rcases Nat.lt_trichotomy t n with h1 | h1 | h1
      · rw [Nat.testBit_two_pow_add_gt h1, ih]; simp [h1, Nat.lt_succ_of_lt h1]
      · subst h1; rw [Nat.testBit_two_pow_add_eq, ih]; simp [h]
      · rw [Nat.testBit_lt_two_pow (Nat.lt_of_lt_of_le (show 2 ^ n + setN P n < 2 ^ (n + 1) by have := setN_lt P n; rw [Nat.pow_succ]; omega) (Nat.pow_le_pow_right (by decide) h1))]
        simp; intro h2; omega
    · rw [if_neg h, ih]
      by_cases h1 : t = n
      · subst h1; simp [h]
      · rw [show decide (t < n + 1) = decide (t < n) by rw [decide_eq_decide]; omega]
theorem p12 {n : Nat} (h : n ≤ 12) : 2 ^ n ≤ 4096 := p2_le h
theorem setF_sm (P : Nat → Bool) {n : Nat} (hn : n ≤ 12) : sm (setF P n) := ⟨_, Nat.lt_of_lt_of_le (setN_lt P n) (p12 hn), setF_nI P hn⟩
theorem setF_bit (P : Nat → Bool) {n t : Nat} (hn : n ≤ 12) (ht : t < n) : bitI (setF P n) (nI t) = if P t = true then 1 else 0 := by
  rw [setF_nI P hn, bit_nI (Nat.lt_of_lt_of_le (setN_lt P n) (p12 hn)) (by omega), setN_bit]
  simp [ht]
theorem hbX_sm {pl kd fa fb : Nat → Int32} {N h : Nat} (hN : N ≤ 12) : sm (hbX pl kd fa fb N h) := setF_sm _ hN
theorem hbX_t {pl kd fa fb : Nat → Int32} {N h t : Nat} (hN : N ≤ 12) (ht : t < N) (hb : belX pl t (kd h) (fa h) (fb h) = true) : 1 = bitI (hbX pl kd fa fb N h) (nI t) := by
  unfold hbX; rw [setF_bit _ hN ht, if_pos hb]
theorem hbX_f {pl kd fa fb : Nat → Int32} {N h t : Nat} (hN : N ≤ 12) (ht : t < N) (hb : ¬ belX pl t (kd h) (fa h) (fb h) = true) : 0 = bitI (hbX pl kd fa fb N h) (nI t) := by
  unfold hbX; rw [setF_bit _ hN ht, if_neg hb]
/-- pl says where each thing below N stands in ta, first -/
def plOk (ta pl : Nat → Int32) (N : Nat) : Prop := ∀ t, t < N → ∃ u : Nat, u < 12 ∧ pl t = nI u ∧ ta u = nI t ∧ ∀ j, j < u → ¬ ta j = nI t
def hpOk (kd fa fb : Nat → Int32) (N K : Nat) : Prop := ∀ h, h < K → canX N (kd h) (fa h) (fb h) = true
theorem can_k {N : Nat} {k a b : Int32} (h : canX N k a b = true) : k = 0 ∨ k = 1 ∨ k = 2 ∨ k = 3 := by
  unfold canX at h
  by_cases h0 : k = 0
  · exact Or.inl h0
  · rw [if_neg h0] at h
    by_cases h1 : k = 1 ∨ k = 2
    · rcases h1 with h1 | h1
      · exact Or.inr (Or.inl h1)
      · exact Or.inr (Or.inr (Or.inl h1))
    · rw [if_neg h1] at h
      by_cases h3 : k = 3
      · exact Or.inr (Or.inr (Or.inr h3))
      · rw [if_neg h3] at h; cases h
theorem can_b {N : Nat} {k a b : Int32} (h : canX N k a b = true) (h3 : k = 3) : 0 < b := by
  unfold canX at h
  rw [if_neg (by rw [h3]; decide), if_neg (by rw [h3]; decide), if_pos h3] at h
  have h4 := (of_decide_eq_true h).2.1
  apply Int32.lt_iff_toInt_lt.mpr
  have h5 := Int32.le_iff_toInt_le.mp h4
  have : (1 : Int32).toInt = 1 := by decide
  have : (0 : Int32).toInt = 0 := by decide
  omega
theorem rbF_lt {g f : Nat → Int32} {K j : Nat} (h : j < K) : rbF g f K j = g j := by
  induction K with
  | zero => omega
  | succ K ih =>
    rw [rbF, upd]
    by_cases e : j = K
    · subst e; rw [if_pos rfl]
    · rw [if_neg e]; exact ih (by omega)
theorem rbF_ge {g f : Nat → Int32} {K j : Nat} (h : K ≤ j) : rbF g f K j = f j := by
  induction K with
  | zero => rfl
  | succ K ih => rw [rbF, upd, if_neg (by omega)]; exact ih (by omega)
theorem neg_abs (x : Int32) : (if x < 0 then -x else x) = absI x := by
  unfold absI
  by_cases h : x < 0
  · rw [if_pos h, if_neg (Int32.not_le.mpr h), Int32.zero_sub]
  · rw [if_neg h, if_pos (Int32.not_lt.mp h)]
