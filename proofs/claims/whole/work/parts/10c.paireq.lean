/-! pairs: the class's colouring is the reference's -/
def cpk (pr : Bool → Nat → Option Nat) (c : Nat → Int32) (k : Nat) : Prop := ∀ d v, pr d k = some v → ¬ c v = -1 ∧ c v = 1 - c k
def prOk (pr : Bool → Nat → Option Nat) (N : Nat) : Prop := ∀ d t v, t < N → pr d t = some v → v < N ∧ v ≠ t ∧ pr d v = some t
def clo (pr : Bool → Nat → Option Nat) (N : Nat) (Z : Nat → Prop) : Prop := ∀ d k v, k < N → Z k → pr d k = some v → Z v
theorem v01 {x : Int32} (h : x = -1 ∨ x = 0 ∨ x = 1) (hn : ¬ x = -1) : x = 0 ∨ x = 1 := h.resolve_left hn
theorem fl1 {x : Int32} (h : x = 0 ∨ x = 1) : 1 - (1 - x) = x ∧ ¬ 1 - x = -1 ∧ ¬ 1 - x < 0 ∧ (1 - x = 0 ∨ 1 - x = 1) := by
  rcases h with rfl | rfl <;> decide
theorem fl2 {x y : Int32} (hx : x = 0 ∨ x = 1) (h : y = 1 - x) : x = 1 - y := by rw [h, (fl1 hx).1]
theorem neg_iff {x : Int32} (h : x = -1 ∨ x = 0 ∨ x = 1) : x < 0 ↔ x = -1 := by
  rcases h with rfl | rfl | rfl <;> decide
section
variable {pr : Bool → Nat → Option Nat} {N : Nat} {en : Bool → Nat → Int32}
/-- the second walk: all but the thing that is walked from are closed -/
theorem walk2 (hN : N ≤ 12) (hpr : prOk pr N) (h0 : ∀ d t, t < N → pr d t = none → en d t = -9) (h1 : ∀ d t v, t < N → pr d t = some v → en d t = nI v) {Z : Nat → Prop} (hZ : clo pr N Z) : ∀ (f : Nat) (c : Nat → Int32) (w : Nat) (d : Bool), ucF c N < f → cOk c N → w < N → ¬ c w = -1 → (∀ k, k < N → ¬ c k = -1 → k ≠ w → cpk pr c k) → (∀ v, pr (!d) w = some v → ¬ c v = -1 ∧ c v = 1 - c w) → (∀ k, k < N → ¬ c k = -1 → Z k) →
    cOk (wkF en f c w d) N ∧ (∀ k, k < N → ¬ wkF en f c w d k = -1 → cpk pr (wkF en f c w d) k) ∧ (∀ k, k < N → ¬ c k = -1 → wkF en f c w d k = c k) ∧ (∀ k, k < N → ¬ wkF en f c w d k = -1 → Z k) := by
  intro f
  induction f with
  | zero => intro c w d h; omega
  | succ f ih =>
    intro c w d hf hok hw hcw hd hback hz
    have cw := v01 (hok w hw) hcw
    have done : (∀ v, pr d w = some v → ¬ c v = -1 ∧ c v = 1 - c w) → wkF en (f + 1) c w d = c → cOk (wkF en (f + 1) c w d) N ∧ (∀ k, k < N → ¬ wkF en (f + 1) c w d k = -1 → cpk pr (wkF en (f + 1) c w d) k) ∧ (∀ k, k < N → ¬ c k = -1 → wkF en (f + 1) c w d k = c k) ∧ (∀ k, k < N → ¬ wkF en (f + 1) c w d k = -1 → Z k) := by
      intro hv e
      rw [e]
      refine ⟨hok, fun k hk hck => ?_, fun _ _ _ => rfl, hz⟩
      by_cases ek : k = w
      · subst ek
        intro d' v hp
        by_cases ed : d' = d
        · subst ed; exact hv v hp
        · have : d' = !d := by cases d' <;> cases d <;> simp_all
          subst this; exact hback v hp
      · exact hd k hk hck ek
    cases hp : pr d w with
    | none =>
      have e9 := h0 d w hw hp
      exact done (fun v h => by rw [hp] at h; cases h) (wkF_9 e9)
    | some v =>
      obtain ⟨hv, hne, hinv⟩ := hpr d w v hw hp
      have ev := h1 d w v hw hp
      have e9 : ¬ en d w = -9 := by
        rw [ev]
        intro z
        have := congrArg Int32.toInt z
        rw [nI_toInt (by omega)] at this
        have z9 : (-9 : Int32).toInt = -9 := by decide
        omega
      by_cases hcv : c v = -1
      · rw [wkF_g (Nat.succ_pos f) e9 ev (by omega) hcv, Nat.succ_sub_one]
        have f1 := fl1 cw
        have kn : ∀ k, ¬ c k = -1 → upd c v (1 - c w) k = c k := fun k h => pk_un (fun e => h (by rw [e]; exact hcv))
        have hwv : upd c v (1 - c w) w = c w := kn w hcw
        have key := ih (upd c v (1 - c w)) v (!d) (by have := ucF_upd c (v := v) (z := 1 - c w) ((neg_iff (hok v hv)).mpr hcv) f1.2.2.1 N hv; omega) (cOk_upd hok (Or.inr f1.2.2.2)) hv (by rw [pk_us]; exact f1.2.1)
          (fun k hk hck hkv => by
            rw [pk_un hkv] at hck
            intro d' u hu
            rw [pk_un hkv]
            by_cases ek : k = w
            · subst ek
              by_cases ed : d' = d
              · subst ed
                have : u = v := Option.some.inj (hu.symm.trans hp)
                subst this
                rw [pk_us]; exact ⟨f1.2.1, rfl⟩
              · have : d' = !d := by cases d' <;> cases d <;> simp_all
                subst this
                obtain ⟨g1, g2⟩ := hback u hu
                rw [kn u g1]; exact ⟨g1, g2⟩
            · obtain ⟨g1, g2⟩ := hd k hk hck ek d' u hu
              rw [kn u g1]; exact ⟨g1, g2⟩)
          (fun u hu => by
            rw [Bool.not_not] at hu
            have : u = w := Option.some.inj (hu.symm.trans hinv)
            subst this
            rw [hwv, pk_us]; exact ⟨hcw, f1.1.symm⟩)
          (fun k hk hck => by
            by_cases e : k = v
            · subst e; exact hZ d w k hw (hz w hw hcw) hp
            · rw [pk_un e] at hck; exact hz k hk hck)
        obtain ⟨k1, k2, k3, k4⟩ := key
        refine ⟨k1, k2, fun k hk hck => ?_, k4⟩
        rw [k3 k hk (by rw [kn k hck]; exact hck), kn k hck]
      · refine done (fun u hu => ?_) (wkF_c e9 ev (by omega) hcv)
        have : u = v := Option.some.inj (hu.symm.trans hp)
        subst this
        obtain ⟨g1, g2⟩ := hd u hv hcv hne d w hinv
        exact ⟨hcv, fl2 (v01 (hok u hv) hcv) g2⟩
/-- the first walk, from t: what is left is t's pair in the second order -/
theorem walk1 (hN : N ≤ 12) (hpr : prOk pr N) (h0 : ∀ d t, t < N → pr d t = none → en d t = -9) (h1 : ∀ d t v, t < N → pr d t = some v → en d t = nI v) {Z : Nat → Prop} (hZ : clo pr N Z) {b : Nat → Int32} (hb : ∀ k, k < N → ¬ b k = -1 → cpk pr b k) {t : Nat} (ht : t < N) : ∀ (f : Nat) (c : Nat → Int32) (w : Nat) (d : Bool), ucF c N < f → cOk c N → w < N → ¬ c w = -1 → c t = 0 → (∀ k, k < N → ¬ b k = -1 → c k = b k) → b w = -1 →
    (∀ k, k < N → ¬ c k = -1 → k ≠ w → k ≠ t → cpk pr c k) → (t ≠ w → ∀ v, pr true t = some v → ¬ c v = -1 ∧ c v = 1 - c t) → (w ≠ t → ∀ v, pr (!d) w = some v → ¬ c v = -1 ∧ c v = 1 - c w) → (w = t → d = true) → (c w = if d = true then 0 else 1) → (∀ k, k < N → ¬ c k = -1 → Z k) →
    cOk (wkF en f c w d) N ∧ (∀ k, k < N → ¬ wkF en f c w d k = -1 → k ≠ t → cpk pr (wkF en f c w d) k) ∧ (∀ v, pr true t = some v → ¬ wkF en f c w d v = -1 ∧ wkF en f c w d v = 1 - wkF en f c w d t) ∧ (∀ k, k < N → ¬ c k = -1 → wkF en f c w d k = c k) ∧ (∀ k, k < N → ¬ wkF en f c w d k = -1 → Z k) := by
  intro f
  induction f with
  | zero => intro c w d h; omega
  | succ f ih =>
    intro c w d hf hok hw hcw hct hext hbw hd het hback hwt hcol hz
    have cw := v01 (hok w hw) hcw
    have done : (∀ v, pr d w = some v → ¬ c v = -1 ∧ c v = 1 - c w) → wkF en (f + 1) c w d = c → cOk (wkF en (f + 1) c w d) N ∧ (∀ k, k < N → ¬ wkF en (f + 1) c w d k = -1 → k ≠ t → cpk pr (wkF en (f + 1) c w d) k) ∧ (∀ v, pr true t = some v → ¬ wkF en (f + 1) c w d v = -1 ∧ wkF en (f + 1) c w d v = 1 - wkF en (f + 1) c w d t) ∧ (∀ k, k < N → ¬ c k = -1 → wkF en (f + 1) c w d k = c k) ∧ (∀ k, k < N → ¬ wkF en (f + 1) c w d k = -1 → Z k) := by
      intro hv e
      rw [e]
      refine ⟨hok, fun k hk hck hkt => ?_, fun v hp => ?_, fun _ _ _ => rfl, hz⟩
      · by_cases ek : k = w
        · subst ek
          intro d' v hp
          by_cases ed : d' = d
          · subst ed; exact hv v hp
          · have : d' = !d := by cases d' <;> cases d <;> simp_all
            subst this; exact hback hkt v hp
        · exact hd k hk hck ek hkt
      · by_cases ew : w = t
        · subst ew
          rw [hwt rfl] at hv
          exact hv v hp
        · exact het (fun z => ew z.symm) v hp
    cases hp : pr d w with
    | none =>
      have e9 := h0 d w hw hp
      exact done (fun v h => by rw [hp] at h; cases h) (wkF_9 e9)
    | some v =>
      obtain ⟨hv, hne, hinv⟩ := hpr d w v hw hp
      have ev := h1 d w v hw hp
      have e9 : ¬ en d w = -9 := by
        rw [ev]
        intro z
        have := congrArg Int32.toInt z
        rw [nI_toInt (by omega)] at this
        have z9 : (-9 : Int32).toInt = -9 := by decide
        omega
      by_cases hcv : c v = -1
      · rw [wkF_g (Nat.succ_pos f) e9 ev (by omega) hcv, Nat.succ_sub_one]
        have f1 := fl1 cw
        have kn : ∀ k, ¬ c k = -1 → upd c v (1 - c w) k = c k := fun k h => pk_un (fun e => h (by rw [e]; exact hcv))
        have hwv : upd c v (1 - c w) w = c w := kn w hcw
        have hct1 : ¬ c t = -1 := by rw [hct]; decide
        have htv : t ≠ v := fun e => hct1 (by rw [e]; exact hcv)
        have hbv : b v = -1 := by
          by_cases z : b v = -1
          · exact z
          · exact absurd (hext v hv z) (by rw [hcv]; exact fun q => z q.symm)
        have key := ih (upd c v (1 - c w)) v (!d) (by have := ucF_upd c (v := v) (z := 1 - c w) ((neg_iff (hok v hv)).mpr hcv) f1.2.2.1 N hv; omega) (cOk_upd hok (Or.inr f1.2.2.2)) hv (by rw [pk_us]; exact f1.2.1) (by rw [kn t hct1]; exact hct)
          (fun k hk hbk => by rw [kn k (by rw [hext k hk hbk]; exact hbk)]; exact hext k hk hbk) hbv
          (fun k hk hck hkv hkt => by
            rw [pk_un hkv] at hck
            intro d' u hu
            rw [pk_un hkv]
            by_cases ek : k = w
            · subst ek
              by_cases ed : d' = d
              · subst ed
                have : u = v := Option.some.inj (hu.symm.trans hp)
                subst this
                rw [pk_us]; exact ⟨f1.2.1, rfl⟩
              · have : d' = !d := by cases d' <;> cases d <;> simp_all
                subst this
                obtain ⟨g1, g2⟩ := hback hkt u hu
                rw [kn u g1]; exact ⟨g1, g2⟩
            · obtain ⟨g1, g2⟩ := hd k hk hck ek hkt d' u hu
              rw [kn u g1]; exact ⟨g1, g2⟩)
          (fun _ u hu => by
            rw [kn t hct1]
            by_cases ew : w = t
            · subst ew
              rw [hwt rfl] at hp
              have : u = v := Option.some.inj (hu.symm.trans hp)
              subst this
              rw [pk_us]; exact ⟨f1.2.1, rfl⟩
            · obtain ⟨g1, g2⟩ := het (fun z => ew z.symm) u hu
              rw [kn u g1]; exact ⟨g1, g2⟩)
          (fun _ u hu => by
            rw [Bool.not_not] at hu
            have : u = w := Option.some.inj (hu.symm.trans hinv)
            subst this
            rw [hwv, pk_us]; exact ⟨hcw, f1.1.symm⟩)
          (fun e => absurd e.symm htv)
          (by rw [pk_us, hcol]; cases d <;> decide)
          (fun k hk hck => by
            by_cases e : k = v
            · subst e; exact hZ d w k hw (hz w hw hcw) hp
            · rw [pk_un e] at hck; exact hz k hk hck)
        obtain ⟨k1, k2, k3, k4, k5⟩ := key
        refine ⟨k1, k2, k3, fun k hk hck => ?_, k5⟩
        rw [k4 k hk (by rw [kn k hck]; exact hck), kn k hck]
      · refine done (fun u hu => ?_) (wkF_c e9 ev (by omega) hcv)
        have : u = v := Option.some.inj (hu.symm.trans hp)
        subst this
        refine ⟨hcv, ?_⟩
        by_cases evt : u = t
        · subst evt
          have hwu : w ≠ u := fun z => hne z.symm
          cases d with
          | true =>
            obtain ⟨g1, g2⟩ := het hne w hinv
            exact fl2 (v01 (hok u hv) hcv) g2
          | false => rw [hct, hcol]; decide
        · obtain ⟨g1, g2⟩ := hd u hv hcv hne evt d w hinv
          exact fl2 (v01 (hok u hv) hcv) g2
end
