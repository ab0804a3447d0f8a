/-! the reference's own functions -/
def chF (gh : Nat → Int32) : Nat → Int32
  | 0 => 0
  | k + 1 => chF gh k + (if gh k < 0 then 0 else 1)
def kpF (gh : Nat → Int32) (c : Int32) : Nat → Bool
  | 0 => true
  | k + 1 => kpF gh c k && decide (gh k < 0 ∨ gh k = bitI c (nI k))
theorem kpF_n {gh : Nat → Int32} {d : Int32} {k : Nat} (h : ¬ kpF gh d k = true) : ¬ kpF gh d (k + 1) = true := by
  rw [kpF, Bool.and_eq_true]; exact fun z => h z.1
theorem kpF_l {gh : Nat → Int32} {d : Int32} {k : Nat} (h : kpF gh d k = true) (h2 : gh k < 0) : kpF gh d (k + 1) = true := by
  rw [kpF, Bool.and_eq_true]; exact ⟨h, decide_eq_true (Or.inl h2)⟩
theorem kpF_e {gh : Nat → Int32} {d : Int32} {k : Nat} (h : kpF gh d k = true) (h2 : gh k = bitI d (nI k)) : kpF gh d (k + 1) = true := by
  rw [kpF, Bool.and_eq_true]; exact ⟨h, decide_eq_true (Or.inr h2)⟩
theorem kpF_f {gh : Nat → Int32} {d : Int32} {k : Nat} (h : ¬ gh k < 0) (h2 : ¬ gh k = bitI d (nI k)) : ¬ kpF gh d (k + 1) = true := by
  rw [kpF, Bool.and_eq_true]
  intro z
  rcases of_decide_eq_true z.2 with h3 | h3
  · exact h h3
  · exact h2 h3
theorem b2_eq0 {P : Prop} [Decidable P] (h : ¬ P) : b2 P = 0 := if_neg h
theorem b2_eq1 {P : Prop} [Decidable P] (h : P) : b2 P = 1 := if_pos h
theorem in012 {k : Int32} (h : 0 ≤ k ∧ k ≤ 2) (h2 : ¬ k = 2) (h0 : ¬ k = 0) : k = 1 := by
  obtain ⟨j, hj, rfl⟩ := nI_of2 (x := k) (M := 2) (n := 2) (by decide) (Int32.not_lt.mpr h.1) h.2
  rcases (show j = 0 ∨ j = 1 ∨ j = 2 by omega) with rfl | rfl | rfl
  · exact absurd rfl h0
  · rfl
  · exact absurd rfl h2
