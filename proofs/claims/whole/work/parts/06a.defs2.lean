/-! what the methods that write leave -/
def idF (f : Nat → Int32) : Nat → Nat → Int32
  | 0 => f
  | k + 1 => upd (idF f k) k (nI k)
def rbF (g : Nat → Int32) (f : Nat → Int32) : Nat → Nat → Int32
  | 0 => f
  | k + 1 => upd (rbF g f k) k (g k)
def swT (ta : Nat → Int32) (i j : Nat) : Nat → Int32 := upd (upd ta i (ta j)) j (ta i)
def swP (pl ta : Nat → Int32) (i j : Nat) : Nat → Int32 := upd (upd pl (ix (ta j)) (nI i)) (ix (ta i)) (nI j)
def hbX (pl kd fa fb : Nat → Int32) (N h : Nat) : Int32 := setF (fun t => belX pl t (kd h) (fa h) (fb h)) N
theorem in112 {k : Int32} (h1 : ¬ k < 1) (h2 : k ≤ 12) : ∃ j : Nat, 1 ≤ j ∧ j ≤ 12 ∧ k = nI j := by
  have h0 : ¬ k < 0 := fun h => h1 (Int32.lt_trans h (by decide))
  obtain ⟨j, hj, e⟩ := nI_of2 (x := k) (M := 12) (n := 12) (by decide) h0 h2
  refine ⟨j, ?_, hj, e⟩
  rcases Nat.eq_zero_or_pos j with hz | hz
  · exact absurd (by rw [e, hz]; decide) h1
  · exact hz
theorem nI_sub1 {K : Nat} (h : ¬ K = 0) : nI K - 1 = nI (K - 1) := by
  obtain ⟨n, rfl⟩ : ∃ n, K = n + 1 := ⟨K - 1, by omega⟩
  exact nI_pred n
