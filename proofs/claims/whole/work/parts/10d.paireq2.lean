/-! pairs: the reference's closing, and both together -/
section
variable {pr : Bool → Nat → Option Nat} {N : Nat} {en : Bool → Nat → Int32} {ed : Nat → Int32}
theorem xwalk (hN : N ≤ 12) (hpr : prOk pr N) (h0 : ∀ d t, t < N → pr d t = none → en d t = -9) (h1 : ∀ d t v, t < N → pr d t = some v → en d t = nI v) {b : Nat → Int32} (hbo : cOk b N) (hb : ∀ k, k < N → ¬ b k = -1 → cpk pr b k) {t : Nat} (ht : t < N) (hbt : b t = -1) {Z : Nat → Prop} (hZ : clo pr N Z) (hZt : Z t) (hZb : ∀ k, k < N → ¬ b k = -1 → Z k) :
    cOk (wkF en N (wkF en N (upd b t 0) t true) t false) N ∧ (∀ k, k < N → ¬ wkF en N (wkF en N (upd b t 0) t true) t false k = -1 → cpk pr (wkF en N (wkF en N (upd b t 0) t true) t false) k) ∧ (∀ k, k < N → ¬ upd b t 0 k = -1 → wkF en N (wkF en N (upd b t 0) t true) t false k = upd b t 0 k) ∧ (∀ k, k < N → ¬ wkF en N (wkF en N (upd b t 0) t true) t false k = -1 → Z k) := by
  have huc : ucF (upd b t 0) N < N := by
    have := ucF_upd b (v := t) (z := 0) ((neg_iff (hbo t ht)).mpr hbt) (by decide) N ht
    have := ucF_le b N
    omega
  have hok0 : cOk (upd b t 0) N := cOk_upd hbo (Or.inr (Or.inl rfl))
  have kb : ∀ k, ¬ b k = -1 → upd b t 0 k = b k := fun k h => pk_un (fun e => h (by rw [e]; exact hbt))
  obtain ⟨a1, a2, a3, a4, a5⟩ := walk1 hN hpr h0 h1 hZ hb ht N (upd b t 0) t true huc hok0 ht (by rw [pk_us]; decide) pk_us (fun k _ h => kb k h) hbt
    (fun k hk hck hkt _ => by
      rw [pk_un hkt] at hck
      intro d v hp
      obtain ⟨g1, g2⟩ := hb k hk hck d v hp
      rw [kb v g1, pk_un hkt]; exact ⟨g1, g2⟩)
    (fun h => absurd rfl h) (fun h => absurd rfl h) (fun _ => rfl) (by rw [pk_us]; rfl)
    (fun k hk hck => by
      by_cases e : k = t
      · subst e; exact hZt
      · rw [pk_un e] at hck; exact hZb k hk hck)
  have ct : wkF en N (upd b t 0) t true t = 0 := by rw [a4 t ht (by rw [pk_us]; decide), pk_us]
  -- what was coloured stays so: the count of what isn't has not grown
  have huc1 : ucF (wkF en N (upd b t 0) t true) N < N := by
    have mono : ∀ n, n ≤ N → ucF (wkF en N (upd b t 0) t true) n ≤ ucF (upd b t 0) n := by
      intro n
      induction n with
      | zero => intro _; exact Nat.le_refl _
      | succ n ih =>
        intro hn
        rw [ucF, ucF]
        have := ih (by omega)
        by_cases h : upd b t 0 n < 0
        · rw [if_pos h]; split <;> omega
        · have hne : ¬ upd b t 0 n = -1 := fun z => h ((neg_iff (hok0 n (by omega))).mpr z)
          rw [a4 n (by omega) hne, if_neg h]; omega
    have := mono N (Nat.le_refl _)
    omega
  obtain ⟨b1, b2, b3, b4⟩ := walk2 hN hpr h0 h1 hZ N (wkF en N (upd b t 0) t true) t false huc1 a1 ht (by rw [ct]; decide) (fun k hk hck hkt => a2 k hk hck hkt) a3 a5
  refine ⟨b1, b2, fun k hk hck => ?_, b4⟩
  have e4 := a4 k hk hck
  rw [b3 k hk (by rw [e4]; exact hck), e4]
-- the reference
theorem ps_false : ∀ (k : Nat) (c : Nat → Int32), (psF ed c k).2 = false → (psF ed c k).1 = c ∧ ∀ i, i < k → c (i / 2) < 0 ∨ ed i < 0 ∨ ¬ c (ix (ed i)) < 0 := by
  intro k
  induction k with
  | zero => intro c _; exact ⟨rfl, fun i h => absurd h (by omega)⟩
  | succ k ih =>
    intro c h
    by_cases hc : ¬ (psF ed c k).1 (k / 2) < 0 ∧ ¬ ed k < 0 ∧ (psF ed c k).1 (ix (ed k)) < 0
    · rw [psF, if_pos hc] at h; cases h
    · rw [psF, if_neg hc] at h ⊢
      obtain ⟨g1, g2⟩ := ih c h
      rw [g1] at hc
      refine ⟨g1, fun i hi => ?_⟩
      by_cases e : i = k
      · subst e
        by_cases z1 : c (i / 2) < 0
        · exact Or.inl z1
        · by_cases z2 : ed i < 0
          · exact Or.inr (Or.inl z2)
          · exact Or.inr (Or.inr (fun z3 => hc ⟨z1, z2, z3⟩))
      · exact g2 i (by omega)
/-- what is coloured keeps its colour; what comes agrees with every closed colouring -/
theorem ps_sub (hpr : prOk pr N) (e0 : ∀ k, k < 2 * N → pr (decide (k % 2 = 0)) (k / 2) = none → ed k = -1) (e1 : ∀ k v, k < 2 * N → pr (decide (k % 2 = 0)) (k / 2) = some v → ed k = nI v) (hN : N ≤ 12) {s : Nat → Int32} (hs : ∀ k, k < N → ¬ s k = -1 → cpk pr s k) : ∀ (k : Nat) (c : Nat → Int32), k ≤ 2 * N → cOk c N → (∀ i, i < N → ¬ c i = -1 → c i = s i) → cOk (psF ed c k).1 N ∧ (∀ i, i < N → ¬ (psF ed c k).1 i = -1 → (psF ed c k).1 i = s i) ∧ ∀ i, i < N → ¬ c i = -1 → (psF ed c k).1 i = c i := by
  intro k
  induction k with
  | zero => intro c _ h1 h2; exact ⟨h1, h2, fun _ _ _ => rfl⟩
  | succ k ih =>
    intro c hk h1 h2
    obtain ⟨i1, i2, i3⟩ := ih c (by omega) h1 h2
    by_cases hc : ¬ (psF ed c k).1 (k / 2) < 0 ∧ ¬ ed k < 0 ∧ (psF ed c k).1 (ix (ed k)) < 0
    · rw [psF, if_pos hc]
      obtain ⟨z1, z2, z3⟩ := hc
      have hk2 : k / 2 < N := by omega
      cases hp : pr (decide (k % 2 = 0)) (k / 2) with
      | none => rw [e0 k (by omega) hp] at z2; exact absurd (by decide) z2
      | some v =>
        obtain ⟨hv, -, -⟩ := hpr _ _ _ hk2 hp
        rw [e1 k v (by omega) hp, ix_nI (by omega)] at z3 ⊢
        have n1 : ¬ (psF ed c k).1 (k / 2) = -1 := fun z => z1 ((neg_iff (i1 _ hk2)).mpr z)
        have n3 : (psF ed c k).1 v = -1 := (neg_iff (i1 v hv)).mp z3
        have f1 := fl1 (v01 (i1 _ hk2) n1)
        refine ⟨cOk_upd i1 (Or.inr f1.2.2.2), fun i hi hci => ?_, fun i hi hci => ?_⟩
        · dsimp only at hci ⊢
          by_cases e : i = v
          · subst e
            rw [pk_us]
            have e5 := i2 _ hk2 n1
            obtain ⟨-, g2⟩ := hs _ hk2 (by rw [← e5]; exact n1) _ i hp
            rw [g2, e5]
          · rw [pk_un e] at hci ⊢; exact i2 i hi hci
        · have e5 := i3 i hi hci
          have e : i ≠ v := fun z => hci (by rw [← e5, z]; exact n3)
          show upd (psF ed c k).1 v (1 - (psF ed c k).1 (k / 2)) i = c i
          rw [pk_un e, e5]
    · rw [psF, if_neg hc]; exact ⟨i1, i2, i3⟩
theorem cl_main (hpr : prOk pr N) (e0 : ∀ k, k < 2 * N → pr (decide (k % 2 = 0)) (k / 2) = none → ed k = -1) (e1 : ∀ k v, k < 2 * N → pr (decide (k % 2 = 0)) (k / 2) = some v → ed k = nI v) (hN : N ≤ 12) {s : Nat → Int32} (hs : ∀ k, k < N → ¬ s k = -1 → cpk pr s k) : ∀ (f : Nat) (c : Nat → Int32), ucF c 12 < f → cOk c N → (∀ i, i < N → ¬ c i = -1 → c i = s i) → cOk (clF ed (2 * N) f c) N ∧ (∀ i, i < N → ¬ clF ed (2 * N) f c i = -1 → clF ed (2 * N) f c i = s i) ∧ (∀ i, i < N → ¬ c i = -1 → clF ed (2 * N) f c i = c i) ∧ (∀ i, i < 2 * N → clF ed (2 * N) f c (i / 2) < 0 ∨ ed i < 0 ∨ ¬ clF ed (2 * N) f c (ix (ed i)) < 0) := by
  have hen : ∀ k, k < 2 * N → ¬ ed k < 0 → ∃ v : Nat, v < 12 ∧ ed k = nI v := by
    intro k hk h
    cases hp : pr (decide (k % 2 = 0)) (k / 2) with
    | none => rw [e0 k hk hp] at h; exact absurd (by decide) h
    | some v =>
      obtain ⟨hv, -, -⟩ := hpr _ _ _ (by omega) hp
      exact ⟨v, by omega, e1 k v hk hp⟩
  intro f
  induction f with
  | zero => intro c h; omega
  | succ f ih =>
    intro c hf hok hsub
    obtain ⟨p1, p2, p3⟩ := ps_sub hpr e0 e1 hN hs (2 * N) c (Nat.le_refl _) hok hsub
    obtain ⟨-, q2⟩ := psF_ok hok hen (2 * N) (Nat.le_refl _)
    cases hb : (psF ed c (2 * N)).2 with
    | true =>
      rw [clF, if_pos hb]
      rw [if_pos hb] at q2
      obtain ⟨r1, r2, r3, r4⟩ := ih (psF ed c (2 * N)).1 (by omega) p1 p2
      refine ⟨r1, r2, fun i hi hci => ?_, r4⟩
      have e5 := p3 i hi hci
      rw [r3 i hi (by rw [e5]; exact hci), e5]
    | false =>
      obtain ⟨s1, s2⟩ := ps_false (2 * N) c hb
      rw [clF, if_neg (by rw [hb]; decide), s1]
      exact ⟨hok, hsub, fun _ _ _ => rfl, s2⟩
/-- one thing's turn: both colour alike -/
theorem turn_eq (hN : N ≤ 12) (hpr : prOk pr N) (h0 : ∀ d t, t < N → pr d t = none → en d t = -9) (h1 : ∀ d t v, t < N → pr d t = some v → en d t = nI v) (e0 : ∀ k, k < 2 * N → pr (decide (k % 2 = 0)) (k / 2) = none → ed k = -1) (e1 : ∀ k v, k < 2 * N → pr (decide (k % 2 = 0)) (k / 2) = some v → ed k = nI v)
    {b m : Nat → Int32} (hbo : cOk b N) (hb : ∀ k, k < N → ¬ b k = -1 → cpk pr b k) (hbm : ∀ k, k < N → b k = m k) {t : Nat} (ht : t < N) (hbt : b t = -1) :
    cOk (wkF en N (wkF en N (upd b t 0) t true) t false) N ∧ (∀ k, k < N → ¬ wkF en N (wkF en N (upd b t 0) t true) t false k = -1 → cpk pr (wkF en N (wkF en N (upd b t 0) t true) t false) k) ∧ ∀ k, k < N → wkF en N (wkF en N (upd b t 0) t true) t false k = clF ed (2 * N) 13 (upd m t 0) k := by
  have um : ∀ k, k < N → upd b t 0 k = upd m t 0 k := by
    intro k hk
    by_cases e : k = t
    · subst e; rw [pk_us, pk_us]
    · rw [pk_un e, pk_un e]; exact hbm k hk
  have hmo : cOk (upd m t 0) N := fun k hk => by rw [← um k hk]; exact cOk_upd hbo (Or.inr (Or.inl rfl)) k hk
  -- the class's own, with all as the set
  obtain ⟨x1, x2, x3, -⟩ := xwalk hN hpr h0 h1 hbo hb ht hbt (Z := fun _ => True) (fun _ _ _ _ _ _ => trivial) trivial (fun _ _ _ => trivial)
  obtain ⟨c1, c2, c3, c4⟩ := cl_main hpr e0 e1 hN x2 13 (upd m t 0) (Nat.lt_succ_of_le (ucF_le _ 12)) hmo (fun i hi hci => by rw [← um i hi] at hci ⊢; exact (x3 i hi hci).symm)
  -- and with what the reference has coloured as the set
  have hZ : clo pr N (fun k => k < N ∧ ¬ clF ed (2 * N) 13 (upd m t 0) k = -1) := by
    intro d k v hk hz hp
    obtain ⟨hv, -, -⟩ := hpr d k v hk hp
    refine ⟨hv, fun z => ?_⟩
    have hnk : ¬ clF ed (2 * N) 13 (upd m t 0) k < 0 := fun q => hz.2 ((neg_iff (c1 k hk)).mp q)
    cases d with
    | true =>
      have q := c4 (2 * k) (by omega)
      have hp' : pr (decide (2 * k % 2 = 0)) (2 * k / 2) = some v := by rw [show 2 * k / 2 = k by omega, show decide (2 * k % 2 = 0) = true by simp]; exact hp
      rw [e1 (2 * k) v (by omega) hp', ix_nI (by omega), show 2 * k / 2 = k by omega] at q
      rcases q with q | q | q
      · exact hnk q
      · exact absurd q (nI_pos (by omega))
      · exact q ((neg_iff (c1 v hv)).mpr z)
    | false =>
      have q := c4 (2 * k + 1) (by omega)
      have hp' : pr (decide ((2 * k + 1) % 2 = 0)) ((2 * k + 1) / 2) = some v := by rw [show (2 * k + 1) / 2 = k by omega, show decide ((2 * k + 1) % 2 = 0) = false by simp]; exact hp
      rw [e1 (2 * k + 1) v (by omega) hp', ix_nI (by omega), show (2 * k + 1) / 2 = k by omega] at q
      rcases q with q | q | q
      · exact hnk q
      · exact absurd q (nI_pos (by omega))
      · exact q ((neg_iff (c1 v hv)).mpr z)
  obtain ⟨-, -, -, y4⟩ := xwalk hN hpr h0 h1 hbo hb ht hbt hZ ⟨ht, by rw [c3 t ht (by rw [pk_us]; decide), pk_us]; decide⟩ (fun k hk hbk => by
    have kt : k ≠ t := fun e => hbk (by rw [e]; exact hbt)
    have hu : ¬ upd m t 0 k = -1 := by rw [pk_un kt, ← hbm k hk]; exact hbk
    exact ⟨hk, by rw [c3 k hk hu]; exact hu⟩)
  refine ⟨x1, x2, fun k hk => ?_⟩
  by_cases hm : clF ed (2 * N) 13 (upd m t 0) k = -1
  · by_cases hx : wkF en N (wkF en N (upd b t 0) t true) t false k = -1
    · rw [hx, hm]
    · exact absurd hm (y4 k hk hx).2
  · exact (c2 k hk hm).symm
theorem pairs_abs (hN : N ≤ 12) (hpr : prOk pr N) (h0 : ∀ d t, t < N → pr d t = none → en d t = -9) (h1 : ∀ d t v, t < N → pr d t = some v → en d t = nI v) (e0 : ∀ k, k < 2 * N → pr (decide (k % 2 = 0)) (k / 2) = none → ed k = -1) (e1 : ∀ k v, k < 2 * N → pr (decide (k % 2 = 0)) (k / 2) = some v → ed k = nI v) {cp co : Nat → Int32} : ∀ n, n ≤ N → (paF en N (fiF (-1) cp 12) n).1 = (paM ed N (fiF (-1) co N) n).1 ∧ cOk (paF en N (fiF (-1) cp 12) n).2 N ∧ (∀ k, k < N → ¬ (paF en N (fiF (-1) cp 12) n).2 k = -1 → cpk pr (paF en N (fiF (-1) cp 12) n).2 k) ∧ ∀ k, k < N → (paF en N (fiF (-1) cp 12) n).2 k = (paM ed N (fiF (-1) co N) n).2 k := by
  intro n
  induction n with
  | zero =>
    intro _
    refine ⟨rfl, fun k hk => Or.inl (fiF_lt (by omega)), fun k hk h => absurd (fiF_lt (by omega)) h, fun k hk => ?_⟩
    show fiF (-1) cp 12 k = fiF (-1) co N k
    rw [fiF_lt (by omega), fiF_lt hk]
  | succ n ih =>
    intro hn
    obtain ⟨i1, i2, i3, i4⟩ := ih (by omega)
    have en_ := i4 n (by omega)
    by_cases h : (paF en N (fiF (-1) cp 12) n).2 n = -1
    · have hm : (paM ed N (fiF (-1) co N) n).2 n < 0 := by rw [← en_, h]; decide
      obtain ⟨t1, t2, t3⟩ := turn_eq hN hpr h0 h1 e0 e1 i2 i3 i4 (t := n) (by omega) h
      rw [paF_t h, paM_t hm]
      refine ⟨?_, t1, t2, t3⟩
      show _ ||| _ = _ ||| _
      rw [i1, t3 n (by omega)]
    · have hm : ¬ (paM ed N (fiF (-1) co N) n).2 n < 0 := by rw [← en_, neg_iff (i2 n (by omega))]; exact h
      rw [paF_f h, paM_f hm]
      refine ⟨?_, i2, i3, i4⟩
      show _ ||| _ = _ ||| _
      rw [i1, en_]
end
def prN (ta pl : Nat → Int32) (N : Nat) (d : Bool) (t : Nat) : Option Nat := if d = true then (if t ^^^ 1 < N then some (t ^^^ 1) else none) else (if ix (pl t) ^^^ 1 < N then some (ix (ta (ix (pl t) ^^^ 1))) else none)
theorem xor1_inv : ∀ t, t < 12 → t ^^^ 1 ^^^ 1 = t ∧ t ^^^ 1 ≠ t := by decide
theorem prN_ok {ta pl : Nat → Int32} {N : Nat} (hN : N ≤ 12) (h : pmOk ta pl N) : prOk (prN ta pl N) N := by
  intro d t v ht hp
  unfold prN at hp ⊢
  cases d with
  | true =>
    rw [if_pos rfl] at hp ⊢
    by_cases h1 : t ^^^ 1 < N
    · rw [if_pos h1] at hp
      have := Option.some.inj hp
      subst this
      obtain ⟨x1, x2⟩ := xor1_inv t (by omega)
      rw [x1, if_pos ht]
      exact ⟨h1, x2, rfl⟩
    · rw [if_neg h1] at hp; cases hp
  | false =>
    rw [if_neg (by decide)] at hp ⊢
    obtain ⟨u, hu, p1, p2, p3⟩ := h.2 t (by omega)
    rw [p1, ix_nI (by omega)] at hp
    by_cases h1 : u ^^^ 1 < N
    · rw [if_pos h1] at hp
      obtain ⟨w, hw, q1, q2, q3⟩ := h.1 (u ^^^ 1) (by omega)
      rw [q1, ix_nI (by omega)] at hp
      have := Option.some.inj hp
      subst this
      obtain ⟨x1, x2⟩ := xor1_inv u hu
      refine ⟨q3 h1, fun e => ?_, ?_⟩
      · rw [e, p1] at q2
        exact x2 (nI_inj (by omega) (by omega) q2).symm
      · rw [q2, ix_nI (by omega), x1, if_pos (p3 ht), p2, ix_nI (by omega)]
    · rw [if_neg h1] at hp; cases hp
theorem pairs_eq {ta pl cp co : Nat → Int32} {N : Nat} (hN : N ≤ 12) (h : pmOk ta pl N) : (paF (enX ta pl N) N (fiF (-1) cp 12) N).1 = (paM (edM ta pl N) N (fiF (-1) co N) N).1 := by
  have rgt := pm_rg h
  have rgp := pm_rgp h
  refine (pairs_abs (pr := prN ta pl N) hN (prN_ok hN h) ?_ ?_ ?_ ?_ N (Nat.le_refl _)).1
  · intro d t ht hp
    unfold prN at hp; unfold enX
    cases d with
    | true =>
      rw [if_pos rfl] at hp ⊢
      by_cases h1 : t ^^^ 1 < N
      · rw [if_pos h1] at hp; cases hp
      · rw [if_neg h1]
    | false =>
      rw [if_neg (by decide)] at hp ⊢
      by_cases h1 : ix (pl t) ^^^ 1 < N
      · rw [if_pos h1] at hp; cases hp
      · rw [if_neg h1]
  · intro d t v ht hp
    unfold prN at hp; unfold enX
    cases d with
    | true =>
      rw [if_pos rfl] at hp ⊢
      by_cases h1 : t ^^^ 1 < N
      · rw [if_pos h1] at hp ⊢; rw [Option.some.inj hp]
      · rw [if_neg h1] at hp; cases hp
    | false =>
      rw [if_neg (by decide)] at hp ⊢
      by_cases h1 : ix (pl t) ^^^ 1 < N
      · rw [if_pos h1] at hp ⊢
        obtain ⟨u, hu, e⟩ := rgt (ix (pl t) ^^^ 1) (by omega)
        rw [e, ix_nI (by omega)] at hp
        rw [e, Option.some.inj hp]
      · rw [if_neg h1] at hp; cases hp
  · intro k hk hp
    unfold prN at hp; unfold edM enM
    by_cases hd : decide (k % 2 = 0) = true
    · rw [if_pos hd] at hp ⊢
      by_cases h1 : k / 2 ^^^ 1 < N
      · rw [if_pos h1] at hp; cases hp
      · rw [if_neg h1]
    · rw [if_neg hd] at hp ⊢
      by_cases h1 : ix (pl (k / 2)) ^^^ 1 < N
      · rw [if_pos h1] at hp; cases hp
      · rw [if_neg h1]
  · intro k v hk hp
    unfold prN at hp; unfold edM enM
    by_cases hd : decide (k % 2 = 0) = true
    · rw [if_pos hd] at hp ⊢
      by_cases h1 : k / 2 ^^^ 1 < N
      · rw [if_pos h1] at hp ⊢; rw [Option.some.inj hp]
      · rw [if_neg h1] at hp; cases hp
    · rw [if_neg hd] at hp ⊢
      by_cases h1 : ix (pl (k / 2)) ^^^ 1 < N
      · rw [if_pos h1] at hp ⊢
        obtain ⟨u, hu, e⟩ := rgt (ix (pl (k / 2)) ^^^ 1) (by omega)
        rw [e, ix_nI (by omega)] at hp
        rw [e, Option.some.inj hp]
      · rw [if_neg h1] at hp; cases hp
