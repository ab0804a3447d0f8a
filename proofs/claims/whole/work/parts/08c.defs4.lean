/-! what the reference's writing methods leave -/
def fiF (v : Int32) (f : Nat → Int32) : Nat → Nat → Int32
  | 0 => f
  | k + 1 => upd (fiF v f k) k v
/-- the reference's search: least, foundFirst, foundMany, foundFewest after the colourings below k -/
def gtF (w sq : Nat → Int32) (ok : Nat → Bool) (f0 m0 : Int32) : Nat → Int32 × Int32 × Int32 × Int32
  | 0 => (1000, f0, m0, 1000000)
  | k + 1 => if ok k = true then
      (if w k < (gtF w sq ok f0 m0 k).1 then w k else (gtF w sq ok f0 m0 k).1,
       if w k < (gtF w sq ok f0 m0 k).1 then nI k else (gtF w sq ok f0 m0 k).2.1,
       if w k < (gtF w sq ok f0 m0 k).1 then 1 else if w k = (gtF w sq ok f0 m0 k).1 then (gtF w sq ok f0 m0 k).2.2.1 + 1 else (gtF w sq ok f0 m0 k).2.2.1,
       if sq k < (gtF w sq ok f0 m0 k).2.2.2 then sq k else (gtF w sq ok f0 m0 k).2.2.2)
    else gtF w sq ok f0 m0 k
theorem gtF_n {w sq : Nat → Int32} {ok : Nat → Bool} {f0 m0 : Int32} {k : Nat} (h : ¬ ok k = true) : gtF w sq ok f0 m0 (k + 1) = gtF w sq ok f0 m0 k := by rw [gtF, if_neg h]
theorem gtF_t {w sq : Nat → Int32} {ok : Nat → Bool} {f0 m0 : Int32} {k : Nat} (h : ok k = true) : gtF w sq ok f0 m0 (k + 1) =
      (if w k < (gtF w sq ok f0 m0 k).1 then w k else (gtF w sq ok f0 m0 k).1,
       if w k < (gtF w sq ok f0 m0 k).1 then nI k else (gtF w sq ok f0 m0 k).2.1,
       if w k < (gtF w sq ok f0 m0 k).1 then 1 else if w k = (gtF w sq ok f0 m0 k).1 then (gtF w sq ok f0 m0 k).2.2.1 + 1 else (gtF w sq ok f0 m0 k).2.2.1,
       if sq k < (gtF w sq ok f0 m0 k).2.2.2 then sq k else (gtF w sq ok f0 m0 k).2.2.2) := by rw [gtF, if_pos h]
def gtM (mb gh : Nat → Int32) (N K : Nat) (f0 m0 : Int32) : Int32 × Int32 × Int32 × Int32 := gtF (fun n => woF mb (nI n) K) (fun n => sqF mb (nI n) K) (fun n => kpF gh (nI n) N) f0 m0 (2 ^ N)
def ccM (mb : Nat → Int32) (K : Nat) (gh : Nat → Int32) (t : Nat) (d : Int32) : Int32 := if gh t < 0 then (if cmF mb t d K < 0 then 1 else 0) else if gh t = 1 then 1 else 0
def coM (mb : Nat → Int32) (K : Nat) (gh : Nat → Int32) : Nat → Int32
  | 0 => 0
  | j + 1 => coM mb K gh j ||| (ccM mb K gh j (coM mb K gh j) <<< (nI j &&& 31))
theorem ccM_01 (mb : Nat → Int32) (K : Nat) (gh : Nat → Int32) (t : Nat) (d : Int32) : ccM mb K gh t d = 0 ∨ ccM mb K gh t d = 1 := by
  unfold ccM
  split
  · split
    · exact Or.inr rfl
    · exact Or.inl rfl
  · split
    · exact Or.inr rfl
    · exact Or.inl rfl
theorem shl0 : ∀ n, n < 31 → (0 : Int32) <<< (nI n &&& 31) = 0 := by decide +kernel
theorem or_pow {b t : Nat} (hb : b < 2 ^ t) : b ||| 2 ^ t = 2 ^ t + b := by
  have e := Nat.two_pow_add_eq_or_of_lt hb 1
  rw [Nat.mul_one] at e
  rw [e, Nat.or_comm]
theorem coM_lt (mb : Nat → Int32) (K : Nat) (gh : Nat → Int32) {j : Nat} (hj : j ≤ 12) : ∃ b : Nat, b < 2 ^ j ∧ coM mb K gh j = nI b := by
  induction j with
  | zero => exact ⟨0, by decide, nI_0.symm⟩
  | succ j ih =>
    obtain ⟨b, hb, e⟩ := ih (by omega)
    rw [coM]
    rcases ccM_01 mb K gh j (coM mb K gh j) with h | h
    · rw [h, shl0 j (by omega), or0]
      exact ⟨b, by rw [Nat.pow_succ]; omega, e⟩
    · rw [h, shl1 j (by omega), e, nx_or]
      exact ⟨2 ^ j + b, by rw [Nat.pow_succ]; omega, by rw [or_pow hb]⟩
theorem done_or : ∀ j, j < 13 → nI (2 ^ j - 1) ||| ((1 : Int32) <<< (nI j &&& 31)) = nI (2 ^ (j + 1) - 1) := by decide +kernel
theorem mask_eq : ∀ j, j < 13 → (1 : Int32) <<< (nI j &&& 31) - 1 = nI (2 ^ j - 1) := by decide +kernel
/-- the reference's sum for a thing that comes is the class's -/
theorem lean_eq {x : Int32} {b j : Nat} (hx : sm x) (hb : b < 2 ^ j) (hj : j < 13) : 2 * bcI (x &&& nI b) - bcI (x &&& nI (2 ^ j - 1)) = leanI (x &&& ((1 : Int32) <<< (nI j &&& 31) - 1)) (nI b) := by
  obtain ⟨n, hn, rfl⟩ := hx
  rw [mask_eq j hj, leanI]
  congr 2
  congr 1
  rw [nx_and, nx_and, nx_and, Nat.and_assoc, Nat.and_comm (2 ^ j - 1) b, Nat.and_two_pow_sub_one_eq_mod, Nat.mod_eq_of_lt hb]
theorem lean_eq2 {x d : Int32} {b j : Nat} (hx : sm x) (hb : b < 2 ^ j) (e : d = nI b) (hj : j < 13) : 2 * bcI (x &&& d) - bcI (x &&& nI (2 ^ j - 1)) = leanI (x &&& ((1 : Int32) <<< (nI j &&& 31) - 1)) d := by
  subst e; exact lean_eq hx hb hj
section
variable {p : Program} {l : Launch} {e : Env} {R : Room} {s : State} {m : MethodId} {args : Array Value} {below : List Frame} {meth : Method} {c : Code} {H : Heap} {locs : List Loc} {cells slots pc : Nat} {Q : State → Prop} {ls : Array Slot} {rest : List Value}
theorem tpL {x y : Int64} (h : x = y) (k : W p l e R s m args below meth c H locs cells slots Q (F0 m pc ls (.long y :: rest))) : W p l e R s m args below meth c H locs cells slots Q (F0 m pc ls (.long x :: rest)) := h ▸ k
end
