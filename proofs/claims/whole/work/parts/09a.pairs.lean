/-! pairs: what the class walks and what the reference closes -/
def rg (f : Nat → Int32) : Prop := ∀ j, j < 12 → ∃ u : Nat, u < 12 ∧ f j = nI u
def enX (ta pl : Nat → Int32) (N : Nat) (d : Bool) (t : Nat) : Int32 := if d = true then (if t ^^^ 1 < N then nI (t ^^^ 1) else -9) else (if ix (pl t) ^^^ 1 < N then ta (ix (pl t) ^^^ 1) else -9)
theorem enX_lt {ta pl : Nat → Int32} {N : Nat} {d : Bool} {t : Nat} (hta : rg ta) (hpx : rg pl) (ht : t < 12) (h : ¬ enX ta pl N d t = -9) : ∃ v : Nat, v < 12 ∧ enX ta pl N d t = nI v := by
  unfold enX at h ⊢
  cases d with
  | true =>
    rw [if_pos rfl] at h ⊢
    by_cases h1 : t ^^^ 1 < N
    · rw [if_pos h1] at h ⊢
      exact ⟨t ^^^ 1, xor1_lt t ht, rfl⟩
    · rw [if_neg h1] at h
      exact absurd rfl h
  | false =>
    rw [if_neg (by decide)] at h ⊢
    by_cases h1 : ix (pl t) ^^^ 1 < N
    · rw [if_pos h1] at h ⊢
      obtain ⟨u, hu, eu⟩ := hpx t ht
      rw [eu, ix_nI (by omega)]
      exact hta _ (xor1_lt u hu)
    · rw [if_neg h1] at h
      exact absurd rfl h
def wkF (en : Bool → Nat → Int32) : Nat → (Nat → Int32) → Nat → Bool → Nat → Int32
  | 0, cp, _, _ => cp
  | f + 1, cp, t, d => if en d t = -9 then cp else if cp (ix (en d t)) = -1 then wkF en f (upd cp (ix (en d t)) (1 - cp t)) (ix (en d t)) (!d) else cp
theorem wkF_9 {en : Bool → Nat → Int32} {f : Nat} {cp : Nat → Int32} {t : Nat} {d : Bool} (h : en d t = -9) : wkF en f cp t d = cp := by
  cases f with
  | zero => rfl
  | succ f => rw [wkF, if_pos h]
theorem wkF_c {en : Bool → Nat → Int32} {f : Nat} {cp : Nat → Int32} {t v : Nat} {d : Bool} (h : ¬ en d t = -9) (ev : en d t = nI v) (hv : v < 12) (h2 : ¬ cp v = -1) : wkF en f cp t d = cp := by
  cases f with
  | zero => rfl
  | succ f => rw [wkF, if_neg h, ev, ix_nI (by omega), if_neg h2]
theorem wkF_g {en : Bool → Nat → Int32} {f : Nat} {cp : Nat → Int32} {t v : Nat} {d : Bool} (hf : 0 < f) (h : ¬ en d t = -9) (ev : en d t = nI v) (hv : v < 12) (h2 : cp v = -1) : wkF en f cp t d = wkF en (f - 1) (upd cp v (1 - cp t)) v (!d) := by
  cases f with
  | zero => exact absurd hf (by omega)
  | succ f => rw [wkF, if_neg h, ev, ix_nI (by omega), if_pos h2, Nat.add_sub_cancel]
def paF (en : Bool → Nat → Int32) (N : Nat) (c0 : Nat → Int32) : Nat → Int32 × (Nat → Int32)
  | 0 => (0, c0)
  | k + 1 => if (paF en N c0 k).2 k = -1 then
      ((paF en N c0 k).1 ||| (wkF en N (wkF en N (upd (paF en N c0 k).2 k 0) k true) k false k <<< (nI k &&& 31)), wkF en N (wkF en N (upd (paF en N c0 k).2 k 0) k true) k false)
    else ((paF en N c0 k).1 ||| ((paF en N c0 k).2 k <<< (nI k &&& 31)), (paF en N c0 k).2)
theorem paF_t {en : Bool → Nat → Int32} {N : Nat} {c0 : Nat → Int32} {k : Nat} (h : (paF en N c0 k).2 k = -1) : paF en N c0 (k + 1) = ((paF en N c0 k).1 ||| (wkF en N (wkF en N (upd (paF en N c0 k).2 k 0) k true) k false k <<< (nI k &&& 31)), wkF en N (wkF en N (upd (paF en N c0 k).2 k 0) k true) k false) := by rw [paF, if_pos h]
theorem paF_f {en : Bool → Nat → Int32} {N : Nat} {c0 : Nat → Int32} {k : Nat} (h : ¬ (paF en N c0 k).2 k = -1) : paF en N c0 (k + 1) = ((paF en N c0 k).1 ||| ((paF en N c0 k).2 k <<< (nI k &&& 31)), (paF en N c0 k).2) := by rw [paF, if_neg h]
-- the reference
def enM (ta pl : Nat → Int32) (N : Nat) (d : Bool) (t : Nat) : Int32 := if d = true then (if t ^^^ 1 < N then nI (t ^^^ 1) else -1) else (if ix (pl t) ^^^ 1 < N then ta (ix (pl t) ^^^ 1) else -1)
def edM (ta pl : Nat → Int32) (N k : Nat) : Int32 := enM ta pl N (decide (k % 2 = 0)) (k / 2)
theorem par_e : ∀ p, p < 12 → p % 2 = 0 → nI p + 1 = nI (p ^^^ 1) := by decide +kernel
theorem par_o : ∀ p, p < 12 → ¬ p % 2 = 0 → nI p - 1 = nI (p ^^^ 1) := by decide +kernel
theorem edM_lt {ta pl : Nat → Int32} {N k : Nat} (hN : N ≤ 12) (hta : rg ta) (hpl : plOk ta pl N) (hk : k < 2 * N) (h : ¬ edM ta pl N k < 0) : ∃ v : Nat, v < 12 ∧ edM ta pl N k = nI v := by
  unfold edM enM at h ⊢
  have ht : k / 2 < N := by omega
  by_cases hd : k % 2 = 0
  · rw [if_pos (decide_eq_true hd)] at h ⊢
    by_cases h1 : k / 2 ^^^ 1 < N
    · rw [if_pos h1] at h ⊢
      exact ⟨_, xor1_lt _ (by omega), rfl⟩
    · rw [if_neg h1] at h
      exact absurd (by decide) h
  · rw [if_neg (fun z => hd (of_decide_eq_true z))] at h ⊢
    by_cases h1 : ix (pl (k / 2)) ^^^ 1 < N
    · rw [if_pos h1] at h ⊢
      obtain ⟨u, hu, eu, -, -⟩ := hpl (k / 2) ht
      rw [eu, ix_nI (by omega)]
      exact hta _ (xor1_lt u hu)
    · rw [if_neg h1] at h
      exact absurd (by decide) h
def psF (en : Nat → Int32) (c0 : Nat → Int32) : Nat → (Nat → Int32) × Bool
  | 0 => (c0, false)
  | k + 1 => if ¬ (psF en c0 k).1 (k / 2) < 0 ∧ ¬ en k < 0 ∧ (psF en c0 k).1 (ix (en k)) < 0 then (upd (psF en c0 k).1 (ix (en k)) (1 - (psF en c0 k).1 (k / 2)), true) else psF en c0 k
theorem psF_a {en : Nat → Int32} {c0 : Nat → Int32} {k : Nat} (h : (psF en c0 k).1 (k / 2) < 0) : psF en c0 (k + 1) = psF en c0 k := by rw [psF, if_neg (fun z => z.1 h)]
theorem psF_b {en : Nat → Int32} {c0 : Nat → Int32} {k : Nat} (h : en k < 0) : psF en c0 (k + 1) = psF en c0 k := by rw [psF, if_neg (fun z => z.2.1 h)]
theorem psF_c {en : Nat → Int32} {c0 : Nat → Int32} {k v : Nat} (ev : en k = nI v) (hv : v < 12) (h : ¬ (psF en c0 k).1 v < 0) : psF en c0 (k + 1) = psF en c0 k := by rw [psF, if_neg (fun z => h (by have := z.2.2; rw [ev, ix_nI (by omega)] at this; exact this))]
theorem psF_t {en : Nat → Int32} {c0 : Nat → Int32} {k v : Nat} (ev : en k = nI v) (hv : v < 12) (h1 : ¬ (psF en c0 k).1 (k / 2) < 0) (h2 : ¬ en k < 0) (h3 : (psF en c0 k).1 v < 0) : psF en c0 (k + 1) = (upd (psF en c0 k).1 v (1 - (psF en c0 k).1 (k / 2)), true) := by
  rw [psF, if_pos ⟨h1, h2, by rw [ev, ix_nI (by omega)]; exact h3⟩, ev, ix_nI (by omega)]
def clF (en : Nat → Int32) (n2 : Nat) : Nat → (Nat → Int32) → Nat → Int32
  | 0, c => c
  | f + 1, c => if (psF en c n2).2 = true then clF en n2 f (psF en c n2).1 else (psF en c n2).1
def cOk (c : Nat → Int32) (N : Nat) : Prop := ∀ k, k < N → c k = -1 ∨ c k = 0 ∨ c k = 1
def ucF (c : Nat → Int32) : Nat → Nat
  | 0 => 0
  | k + 1 => ucF c k + (if c k < 0 then 1 else 0)
theorem ucF_le (c : Nat → Int32) (n : Nat) : ucF c n ≤ n := by
  induction n with
  | zero => exact Nat.le_refl _
  | succ n ih => rw [ucF]; split <;> omega
theorem ucF_ge (c : Nat → Int32) (v : Nat) (z : Int32) (n : Nat) (h : n ≤ v) : ucF (upd c v z) n = ucF c n := by
  induction n with
  | zero => rfl
  | succ n ih => rw [ucF, ucF, ih (by omega), pk_un (by omega)]
theorem ucF_upd (c : Nat → Int32) {v : Nat} {z : Int32} (h1 : c v < 0) (h2 : ¬ z < 0) : ∀ n, v < n → ucF (upd c v z) n + 1 = ucF c n := by
  intro n
  induction n with
  | zero => intro h; omega
  | succ n ih =>
    intro h
    rw [ucF, ucF]
    by_cases e : v = n
    · subst e
      rw [ucF_ge c v z v (Nat.le_refl _), pk_us, if_neg h2, if_pos h1]
    · rw [pk_un (fun z => e z.symm)]
      have := ih (by omega)
      omega
theorem c01 {x : Int32} (h : x = -1 ∨ x = 0 ∨ x = 1) (hn : ¬ x < 0) : (1 - x = -1 ∨ 1 - x = 0 ∨ 1 - x = 1) ∧ ¬ 1 - x < 0 := by
  rcases h with rfl | rfl | rfl
  · exact absurd (by decide) hn
  · exact ⟨Or.inr (Or.inr (by decide)), by decide⟩
  · exact ⟨Or.inr (Or.inl (by decide)), by decide⟩
theorem cOk_upd {c : Nat → Int32} {N v : Nat} {z : Int32} (h : cOk c N) (hz : z = -1 ∨ z = 0 ∨ z = 1) : cOk (upd c v z) N := by
  intro k hk
  by_cases e : k = v
  · subst e; rw [pk_us]; exact hz
  · rw [pk_un e]; exact h k hk
theorem psF_ok {en : Nat → Int32} {c0 : Nat → Int32} {N : Nat} (hc : cOk c0 N) (hen : ∀ k, k < 2 * N → ¬ en k < 0 → ∃ v : Nat, v < 12 ∧ en k = nI v) : ∀ k, k ≤ 2 * N → cOk (psF en c0 k).1 N ∧ ucF (psF en c0 k).1 12 + (if (psF en c0 k).2 = true then 1 else 0) ≤ ucF c0 12 := by
  intro k
  induction k with
  | zero => intro _; exact ⟨hc, by simp [psF]⟩
  | succ k ih =>
    intro hk
    obtain ⟨i1, i2⟩ := ih (by omega)
    by_cases h1 : (psF en c0 k).1 (k / 2) < 0
    · rw [psF_a h1]; exact ⟨i1, i2⟩
    · by_cases h2 : en k < 0
      · rw [psF_b h2]; exact ⟨i1, i2⟩
      · obtain ⟨v, hv, ev⟩ := hen k (by omega) h2
        by_cases h3 : (psF en c0 k).1 v < 0
        · rw [psF_t ev hv h1 h2 h3]
          obtain ⟨g1, g2⟩ := c01 (i1 (k / 2) (by omega)) h1
          refine ⟨cOk_upd i1 g1, ?_⟩
          have := ucF_upd (psF en c0 k).1 h3 g2 12 hv
          simp only [if_pos]
          omega
        · rw [psF_c ev hv h3]; exact ⟨i1, i2⟩
theorem clF_ok {en : Nat → Int32} {N : Nat} (hen : ∀ k, k < 2 * N → ¬ en k < 0 → ∃ v : Nat, v < 12 ∧ en k = nI v) : ∀ f c, cOk c N → cOk (clF en (2 * N) f c) N := by
  intro f
  induction f with
  | zero => intro c h; exact h
  | succ f ih =>
    intro c h
    have g := (psF_ok h hen (2 * N) (Nat.le_refl _)).1
    rw [clF]
    split
    · exact ih _ g
    · exact g
def paM (en : Nat → Int32) (N : Nat) (c0 : Nat → Int32) : Nat → Int32 × (Nat → Int32)
  | 0 => (0, c0)
  | k + 1 => if (paM en N c0 k).2 k < 0 then
      ((paM en N c0 k).1 ||| (clF en (2 * N) 13 (upd (paM en N c0 k).2 k 0) k <<< (nI k &&& 31)), clF en (2 * N) 13 (upd (paM en N c0 k).2 k 0))
    else ((paM en N c0 k).1 ||| ((paM en N c0 k).2 k <<< (nI k &&& 31)), (paM en N c0 k).2)
theorem paM_t {en : Nat → Int32} {N : Nat} {c0 : Nat → Int32} {k : Nat} (h : (paM en N c0 k).2 k < 0) : paM en N c0 (k + 1) = ((paM en N c0 k).1 ||| (clF en (2 * N) 13 (upd (paM en N c0 k).2 k 0) k <<< (nI k &&& 31)), clF en (2 * N) 13 (upd (paM en N c0 k).2 k 0)) := by rw [paM, if_pos h]
theorem paM_f {en : Nat → Int32} {N : Nat} {c0 : Nat → Int32} {k : Nat} (h : ¬ (paM en N c0 k).2 k < 0) : paM en N c0 (k + 1) = ((paM en N c0 k).1 ||| ((paM en N c0 k).2 k <<< (nI k &&& 31)), (paM en N c0 k).2) := by rw [paM, if_neg h]
theorem paM_ok {en : Nat → Int32} {N : Nat} {c0 : Nat → Int32} (hc : cOk c0 N) (hen : ∀ k, k < 2 * N → ¬ en k < 0 → ∃ v : Nat, v < 12 ∧ en k = nI v) : ∀ k, cOk (paM en N c0 k).2 N := by
  intro k
  induction k with
  | zero => exact hc
  | succ k ih =>
    by_cases h : (paM en N c0 k).2 k < 0
    · rw [paM_t h]; exact clF_ok hen _ _ (cOk_upd ih (Or.inr (Or.inl rfl)))
    · rw [paM_f h]; exact ih
theorem fiF_lt {v : Int32} {f : Nat → Int32} {n j : Nat} (h : j < n) : fiF v f n j = v := by
  induction n with
  | zero => omega
  | succ n ih =>
    rw [fiF]
    by_cases e : j = n
    · subst e; rw [pk_us]
    · rw [pk_un e]; exact ih (by omega)
theorem fiF_ok {f : Nat → Int32} {N : Nat} : cOk (fiF (-1) f N) N := fun k hk => Or.inl (fiF_lt hk)
/-- the closing loop: one turn more -/
theorem clF_w {en : Nat → Int32} {N f : Nat} {c r : Nat → Int32} (hc : cOk c N) (hen : ∀ k, k < 2 * N → ¬ en k < 0 → ∃ v : Nat, v < 12 ∧ en k = nI v) (hf : ucF c 12 < f) (hr : clF en (2 * N) f c = r) : cOk (psF en c (2 * N)).1 N ∧ ((psF en c (2 * N)).2 = true → ucF (psF en c (2 * N)).1 12 < f - 1) ∧ (if (psF en c (2 * N)).2 = true then clF en (2 * N) (f - 1) (psF en c (2 * N)).1 else (psF en c (2 * N)).1) = r := by
  obtain ⟨g1, g2⟩ := psF_ok hc hen (2 * N) (Nat.le_refl _)
  cases f with
  | zero => omega
  | succ f =>
    rw [clF] at hr
    refine ⟨g1, fun h => ?_, hr⟩
    rw [if_pos h] at g2
    omega
section
variable {p : Program} {l : Launch} {e : Env} {R : Room} {s : State} {m : MethodId} {args : Array Value} {below : List Frame} {meth : Method} {c : Code} {H : Heap} {locs : List Loc} {cells slots : Nat} {Q : State → Prop}
variable {cc bytes : ByteArray} {pc nL maxL n index : Nat} {ls : Array Slot} {rest st : List Value} {Ts ws : List Cond} {own C : String} {y : MethodName} {ret : Option FieldType} {rm : Room} {As : List Value} {D : va_G} {cy : ClassId}
/-- a call of a static method that writes -/
theorem cSw {v : Option Value} {P : Heap → Prop} {A0 A1 : Nat → Prop} {H0 : Heap} (S : CallFix p m c cc nL s args Ts own) (hK : va_K D vwCl [(cy, .int)] s) (hM : Met l y ws rm (pcK D cy H As) (qI v P A1) 0 0 A1) (rest : List Value) (cw : CallB R s args own index y bytes maxL ret ws rm 0 0 n ∧ (Cond.static y).before args s = true) (hn : As.length = n) (hsize : ls.size = nL) (hst : st = As.reverse ++ rest) (hW : (rest.map fun v => v.category).sum ≤ 8) (hdg : decode cc pc = .ok (.invokestatic index, 3)) (hf : cells + 0 ≤ R.cells ∧ slots + 0 ≤ R.slots) (hS : va_S A0 H0 H locs) (hA : ∀ z, A1 z → A0 z)
    (kk : ∀ (H1 : Heap) (locs1 : List Loc), P H1 → H.size ≤ H1.size → (∀ z : Nat, z < H.size → ¬ A1 z → H1[z]? = H[z]?) → va_S A0 H0 H1 locs1 → W p l e R s m args below meth c H1 locs1 cells slots Q (F0 m (pc + 3) ls (v.toList ++ rest))) : W p l e R s m args below meth c H locs cells slots Q (F0 m pc ls st) := by
  intro T1 hT X
  obtain ⟨v', st₀, t, T', L, h0, X', hL, e1, ⟨hv, hp, hz, hk⟩, sg⟩ := W.runS (g := F0 m pc ls st) (rest := rest) S hM cw ⟨pcK_blind, fun U hU hW => ⟨rfl, hU, va_K.moved hW.alike hK⟩⟩ rfl hn hsize hst (lv_room hW) hdg hf T1 hT X
  cases hv
  rw [h0] at hz hk
  obtain ⟨t2, a1, b1⟩ := kk T'.heap (locs ++ L) (by rw [e1]; exact hp) (by rw [e1]; exact hz) (fun z h1 h2 => by rw [e1]; exact hk z h1 h2)
    ⟨Nat.le_trans hS.1 (by rw [e1]; exact hz), fun z h1 h2 => by rw [e1, hk z (Nat.lt_of_lt_of_le h1 hS.1) (fun w => h2 (hA z w))]; exact hS.2.1 z h1 h2, fun z hz => by
      rcases List.mem_append.mp hz with h | h
      · exact hS.2.2 z h
      · exact hA _ (hL z h)⟩ T' rfl X'
  exact ⟨t2, sg t2 a1, b1⟩
end
