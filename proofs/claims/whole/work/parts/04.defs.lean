/-! what the methods answer, as functions -/
abbrev ix (i : Int32) : Nat := i.toNatClampNeg
theorem ix_nI {j : Nat} (h : j < 2 ^ 31) : ix (nI j) = j := nI_clamp h
/-- a number that is no less than 0 and below nI n -/
theorem inN {i : Int32} {n : Nat} (h : 0 ≤ i ∧ i < nI n) (hn : n < 2 ^ 31) : ∃ j : Nat, j < n ∧ i = nI j := by
  obtain ⟨j, hj, e⟩ := nI_of (x := i) (Int32.not_lt.mpr h.1)
  refine ⟨j, ?_, e⟩
  have h2 := h.2
  rw [e] at h2
  exact (nI_ltI hj hn).mp h2
theorem nIin {j n : Nat} (h : j < n) (hn : n < 2 ^ 31) : 0 ≤ nI j ∧ nI j < nI n := ⟨nI_pos' (by omega), nI_lt h hn⟩
abbrev absI (x : Int32) : Int32 := if 0 ≤ x then x else 0 - x
abbrev maxI (x y : Int32) : Int32 := if x < y then y else x
abbrev minI (x y : Int32) : Int32 := if y < x then y else x
def bitI (b t : Int32) : Int32 := (b >>> (t &&& 31)) &&& 1
def trI (kd : Int32) : Int32 := if kd = 1 then 10 else if kd = 2 then 110 else if kd = 3 then 1000 else 1
theorem shl1 : ∀ n, n < 31 → (1 : Int32) <<< (nI n &&& 31) = nI (2 ^ n) := by decide +kernel
theorem p2_le {n : Nat} (h : n ≤ 12) : 2 ^ n ≤ 4096 := Nat.pow_le_pow_right (by decide) h
theorem p2_pos (n : Nat) : 1 ≤ 2 ^ n := Nat.one_le_two_pow
def belX (pl : Nat → Int32) (t : Nat) (kd a b : Int32) : Bool :=
  if kd = 1 then decide (a ≤ nI t ∧ nI t ≤ b) else if kd = 2 then decide (a ≤ pl t ∧ pl t ≤ b)
  else if kd = 3 then decide (a ≤ nI t ∧ 0 < b ∧ (nI t - a) - (nI t - a) / b * b = 0) else decide (bitI a (nI t) = 1)
def setF (P : Nat → Bool) : Nat → Int32
  | 0 => 0
  | k + 1 => if P k = true then setF P k ||| ((1 : Int32) <<< (nI k &&& 31)) else setF P k
theorem setF_t {P : Nat → Bool} {k : Nat} (h : P k = true) : setF P (k + 1) = setF P k ||| ((1 : Int32) <<< (nI k &&& 31)) := by rw [setF, if_pos h]
theorem setF_f {P : Nat → Bool} {k : Nat} (h : ¬ P k = true) : setF P (k + 1) = setF P k := by rw [setF, if_neg h]
def canX (N : Nat) (kd a b : Int32) : Bool :=
  if kd = 0 then decide (0 ≤ a ∧ a < nI (2 ^ N)) else if kd = 1 ∨ kd = 2 then decide ((0 ≤ a ∧ a < nI N) ∧ (0 ≤ b ∧ b < nI N) ∧ a ≤ b)
  else if kd = 3 then decide ((0 ≤ a ∧ a < nI N) ∧ 1 ≤ b ∧ b ≤ 12) else false
def bcA (x : Int32) : Int32 := x - (((x.toUInt32 >>> ((1 : Int32).toUInt32 &&& Int32.toUInt32 31)).toInt32) &&& 1431655765)
def bcB (x : Int32) : Int32 := (x &&& 858993459) + (((x.toUInt32 >>> ((2 : Int32).toUInt32 &&& Int32.toUInt32 31)).toInt32) &&& 858993459)
def bcC (x : Int32) : Int32 := (x + (x.toUInt32 >>> ((4 : Int32).toUInt32 &&& Int32.toUInt32 31)).toInt32) &&& 252645135
def bcD (x : Int32) : Int32 := x + (x.toUInt32 >>> ((8 : Int32).toUInt32 &&& Int32.toUInt32 31)).toInt32
def bcE (x : Int32) : Int32 := x + (x.toUInt32 >>> ((16 : Int32).toUInt32 &&& Int32.toUInt32 31)).toInt32
def bcI (x : Int32) : Int32 := bcE (bcD (bcC (bcB (bcA x)))) &&& 63
def leanI (b c : Int32) : Int32 := 2 * bcI (b &&& c) - bcI b
def woF (bm : Nat → Int32) (c : Int32) : Nat → Int32
  | 0 => 0
  | k + 1 => maxI (woF bm c k) (absI (leanI (bm k) c))
def sqF (bm : Nat → Int32) (c : Int32) : Nat → Int32
  | 0 => 0
  | k + 1 => sqF bm c k + absI (leanI (bm k) c) * absI (leanI (bm k) c)
def tmF (bm : Nat → Int32) (t : Int32) : Nat → Int32
  | 0 => 0
  | k + 1 => tmF bm t k + bitI (bm k) t
def tiF (bm : Nat → Int32) (K : Nat) : Nat → Int32
  | 0 => 0
  | k + 1 => maxI (tiF bm K k) (tmF bm (nI k) K)
/-- the first of b, b + 1 .. that is ok and has the least w (b itself is taken as ok) -/
def amF (w : Nat → Int32) (ok : Nat → Bool) (b : Nat) : Nat → Nat
  | 0 => b
  | j + 1 => if ok (b + 1 + j) = true ∧ w (b + 1 + j) < w (amF w ok b j) then b + 1 + j else amF w ok b j
theorem amF_t {w : Nat → Int32} {ok : Nat → Bool} {b j : Nat} (h1 : ok (b + 1 + j) = true) (h2 : w (b + 1 + j) < w (amF w ok b j)) : amF w ok b (j + 1) = b + 1 + j := by rw [amF, if_pos ⟨h1, h2⟩]
theorem amF_n {w : Nat → Int32} {ok : Nat → Bool} {b j : Nat} (h1 : ¬ ok (b + 1 + j) = true) : amF w ok b (j + 1) = amF w ok b j := by rw [amF, if_neg (fun h => h1 h.1)]
theorem amF_f {w : Nat → Int32} {ok : Nat → Bool} {b j : Nat} (h2 : ¬ w (b + 1 + j) < w (amF w ok b j)) : amF w ok b (j + 1) = amF w ok b j := by rw [amF, if_neg (fun h => h2 h.2)]
theorem amF_le (w : Nat → Int32) (ok : Nat → Bool) (b j : Nat) : amF w ok b j ≤ b + j := by
  induction j with
  | zero => exact Nat.le_refl _
  | succ j ih => rw [amF]; split <;> omega
def okX (gT gC : Int32) (n : Nat) : Bool := decide (nI n &&& gT = gC)
def flX (bm : Nat → Int32) (K : Nat) (gT : Int32) (C N : Nat) : Nat := amF (fun n => woF bm (nI n) K) (okX gT (nI C)) C (2 ^ N - (C + 1))
theorem flX_lt {bm : Nat → Int32} {K : Nat} {gT : Int32} {C N : Nat} (h : C < 2 ^ N) : flX bm K gT C N < 2 ^ N := by
  have := amF_le (fun n => woF bm (nI n) K) (okX gT (nI C)) C (2 ^ N - (C + 1))
  unfold flX; omega
def cnF (P : Nat → Bool) (b : Nat) : Nat → Nat
  | 0 => 0
  | j + 1 => if P (b + j) = true then cnF P b j + 1 else cnF P b j
theorem cnF_t {P : Nat → Bool} {b j : Nat} (h : P (b + j) = true) : cnF P b (j + 1) = cnF P b j + 1 := by rw [cnF, if_pos h]
theorem cnF_f {P : Nat → Bool} {b j : Nat} (h : ¬ P (b + j) = true) : cnF P b (j + 1) = cnF P b j := by rw [cnF, if_neg h]
def maX (bm : Nat → Int32) (K : Nat) (gT gC v : Int32) (n : Nat) : Bool := okX gT gC n && decide (woF bm (nI n) K = v)
def mnF (w : Nat → Int32) (ok : Nat → Bool) (b : Nat) : Nat → Int32
  | 0 => w b
  | j + 1 => if ok (b + 1 + j) = true then minI (mnF w ok b j) (w (b + 1 + j)) else mnF w ok b j
theorem mnF_t {w : Nat → Int32} {ok : Nat → Bool} {b j : Nat} (h : ok (b + 1 + j) = true) : mnF w ok b (j + 1) = minI (mnF w ok b j) (w (b + 1 + j)) := by rw [mnF, if_pos h]
theorem mnF_f {w : Nat → Int32} {ok : Nat → Bool} {b j : Nat} (h : ¬ ok (b + 1 + j) = true) : mnF w ok b (j + 1) = mnF w ok b j := by rw [mnF, if_neg h]
def tuF : Nat → Int32
  | 0 => 0
  | j + 1 => tuF j ||| ((1 : Int32) <<< (nI (1 + 2 * j) &&& 31))
def cmF (bm : Nat → Int32) (t : Nat) (d : Int32) : Nat → Int32
  | 0 => 0
  | k + 1 => if bitI (bm k) (nI t) = 1 then cmF bm t d k + leanI (bm k &&& ((1 : Int32) <<< (nI t &&& 31) - 1)) d else cmF bm t d k
theorem cmF_t {bm : Nat → Int32} {t k : Nat} {d : Int32} (h : bitI (bm k) (nI t) = 1) : cmF bm t d (k + 1) = cmF bm t d k + leanI (bm k &&& ((1 : Int32) <<< (nI t &&& 31) - 1)) d := by rw [cmF, if_pos h]
theorem cmF_f {bm : Nat → Int32} {t k : Nat} {d : Int32} (h : ¬ bitI (bm k) (nI t) = 1) : cmF bm t d (k + 1) = cmF bm t d k := by rw [cmF, if_neg h]
def ccX (bm : Nat → Int32) (K : Nat) (gT gC : Int32) (t : Nat) (d : Int32) : Int32 := if bitI gT (nI t) = 1 then bitI gC (nI t) else if cmF bm t d K < 0 then 1 else 0
def coF (bm : Nat → Int32) (K : Nat) (gT gC : Int32) : Nat → Int32
  | 0 => 0
  | j + 1 => coF bm K gT gC j ||| (ccX bm K gT gC j (coF bm K gT gC j) <<< (nI j &&& 31))
-- steps
def sgI (sg : Int32) (k : Nat) : Int32 := if bitI sg (nI k) = 0 then 1 else -1
def gsz (x y : Int32) : Int32 := maxI (absI x) (absI y)
def stx (f : Nat → Int32) (sg : Int32) : Nat → Int32
  | 0 => 0
  | k + 1 => stx f sg k + sgI sg k * f k
def stm (sx sy : Nat → Int32) (sg : Int32) : Nat → Int32
  | 0 => 0
  | k + 1 => maxI (stm sx sy sg k) (gsz (stx sx sg k + sgI sg k * sx k) (stx sy sg k + sgI sg k * sy k))
def nef (sx sy : Nat → Int32) : Nat → Int32 × Int32 × Int32
  | 0 => (0, 0, 0)
  | k + 1 => if gsz ((nef sx sy k).1 - sx k) ((nef sx sy k).2.1 - sy k) < gsz ((nef sx sy k).1 + sx k) ((nef sx sy k).2.1 + sy k)
    then ((nef sx sy k).1 + -1 * sx k, (nef sx sy k).2.1 + -1 * sy k, (nef sx sy k).2.2 ||| ((1 : Int32) <<< (nI k &&& 31)))
    else ((nef sx sy k).1 + 1 * sx k, (nef sx sy k).2.1 + 1 * sy k, (nef sx sy k).2.2)
theorem nef_t {sx sy : Nat → Int32} {k : Nat} (h : gsz ((nef sx sy k).1 - sx k) ((nef sx sy k).2.1 - sy k) < gsz ((nef sx sy k).1 + sx k) ((nef sx sy k).2.1 + sy k)) : nef sx sy (k + 1) = ((nef sx sy k).1 + -1 * sx k, (nef sx sy k).2.1 + -1 * sy k, (nef sx sy k).2.2 ||| ((1 : Int32) <<< (nI k &&& 31))) := by rw [nef, if_pos h]
theorem nef_f {sx sy : Nat → Int32} {k : Nat} (h : ¬ gsz ((nef sx sy k).1 - sx k) ((nef sx sy k).2.1 - sy k) < gsz ((nef sx sy k).1 + sx k) ((nef sx sy k).2.1 + sy k)) : nef sx sy (k + 1) = ((nef sx sy k).1 + 1 * sx k, (nef sx sy k).2.1 + 1 * sy k, (nef sx sy k).2.2) := by rw [nef, if_neg h]
def beS (sx sy : Nat → Int32) (S : Nat) : Nat := amF (fun n => stm sx sy (nI n) S) (fun _ => true) 0 (2 ^ S - 1)
theorem beS_lt {sx sy : Nat → Int32} {S : Nat} : beS sx sy S < 2 ^ S := by
  have h := amF_le (fun n => stm sx sy (nI n) S) (fun _ => true) 0 (2 ^ S - 1)
  have := p2_pos S
  unfold beS; omega
theorem xor1 : ∀ t, t < 16 → nI t ^^^ 1 = nI (t ^^^ 1) := by decide +kernel
theorem xor1_lt : ∀ t, t < 12 → t ^^^ 1 < 12 := by decide
section
variable {p : Program} {l : Launch} {e : Env} {R : Room} {s : State} {m : MethodId} {args : Array Value} {below : List Frame} {meth : Method} {c : Code} {H : Heap} {locs : List Loc} {cells slots pc : Nat} {Q : State → Prop} {ls : Array Slot} {rest : List Value}
theorem tpI {x y : Int32} (h : x = y) (k : W p l e R s m args below meth c H locs cells slots Q (F0 m pc ls (.int y :: rest))) : W p l e R s m args below meth c H locs cells slots Q (F0 m pc ls (.int x :: rest)) := h ▸ k
end
