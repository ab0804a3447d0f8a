/-! THE CLAIM OUT OF ONE WALK OF THE LAW'S BODY. Your part is whole_start (and what it stands on); all else here is the same for every law, but numbers. -/
def R_law : String := "TwoColoursLaw"
def lw_P (b : Addr) (xs : List Int32) (args : Array Value) (s : State) : Prop := args = #[.ref b] ∧ s.IntsAt b xs ∧ xs.length ≤ 2048 ∧ (Jvm.Cond.and given_1 narrow_1).before args s = true
def lw_Q (_ : Array Value) (s : State) (o : Outcome) (t : State) : Prop := o = .returned (some (.int 1)) ∧ Framed s o t [] 20 223
def lw_Z (below : List Frame) (a : Array Value) (s : State) : State → Prop := fun t => ∃ o, t.status = .running ∧ Ended t below o ∧ lw_Q a s o t
/-- the law's own end, with 1 on the stack, nothing written that was there before, its room as the claim has it -/
theorem lw_ret {p : Program} {l : Launch} {e : Env} {s : State} {m : MethodId} {below : List Frame} {meth : Method} {c : Code} {b : Nat} (hx : p.tables.exec = Jvm.exec) (hb : c.code = code) (hr : meth.sig.returnType = ret) (hlocks : meth.locks = false) {pc : Nat} {H : Heap} {ls : Array Slot} (hdg : decode code pc = .ok (.ireturn, 1)) : W p l e room_1 s m #[Value.ref b] below meth c H [] 20 223 (lw_Z below #[Value.ref b] s) (F0 m pc ls [.int 1]) := by
  intro T hT X
  obtain ⟨fs, hret, hrun, hended, hW, hframe⟩ := X.leave (v := some (.int 1)) (hlocks := hlocks) (fun h => by rw [hr] at h; cases h)
  have hmeth' : T.vm.method? m = some meth := X.method'
  refine ⟨T.setFrames fs, ?_, .returned (some (.int 1)), hrun, hended, rfl, ⟨_, rfl⟩, hW, hframe⟩
  jvm_step X.here [X.here.top, hx, hb, hdg, hmeth', hr, ret, narrow_b1]
  (try refine ⟨rfl, ?_⟩); (try refine ⟨rfl, ?_⟩)
  first | (intro acts; rw [hret _ acts rfl rfl rfl]) | rw [hret _ _ rfl rfl rfl]
  exact Steps.refl _
/-- what holds at the law's entry: the machine, the code, the tables' words (any of lw_tbl by 'hts w (by decide +kernel)'), the script of L ints xs at the cell b, what the Statement gives of the start (any of its parts by flat_of_before) -/
def lw_At (p : Program) (s : State) (m : MethodId) (meth : Method) (c : Code) (b L : Nat) (xs : Nat → Int32) : Prop :=
  p.tables.exec = Jvm.exec ∧ c.code = code ∧ meth.sig.returnType = ret ∧ c.maxLocals = 4 ∧ s.vm.findClass R_law = some m.cls ∧ (∀ w ∈ lw_tbl, w.before #[Value.ref b] s = true) ∧ va_X b L xs s s.heap ∧ b < s.heap.size ∧ meth.locks = false ∧ (Jvm.Cond.and given_1 narrow_1).before #[Value.ref b] s = true
theorem sldN {p : Program} {l : Launch} {e : Env} {R : Room} {s : State} {m : MethodId} {args : Array Value} {below : List Frame} {meth : Method} {c : Code} {H H0 : Heap} {locs : List Loc} {cells slots pc : Nat} {Q : State → Prop} {ls : Array Slot} {rest : List Value} {cc : ByteArray} {A : Nat → Prop} {b L j : Nat} {xs : Nat → Int32} (hx : p.tables.exec = Jvm.exec) (hb : c.code = cc) (hX : va_X b L xs s H0) (hbl : b < H0.size) (hbA : ¬ A b) (hS : va_S A H0 H locs) (hj : j < L) (hL : L ≤ 2048) (hdg : decode cc pc = .ok (.iaload, 1))
    (kk : W p l e R s m args below meth c H locs cells slots Q (F0 m (pc + 1) ls (.int (xs j) :: rest))) : W p l e R s m args below meth c H locs cells slots Q (F0 m pc ls (.int (nI j) :: .ref b :: rest)) :=
  va_sld hx hb hX hbl hbA hS (vp_in_nI hj (by omega)) hdg (by rw [nI_clamp (by omega)]; exact kk)
theorem keepP {D : va_G} {ws : va_W} {H H1 : Heap} {A B : Nat → Prop} (hP : va_P D vwCl ws H) (hD : va_D B ws) (hne : ∀ z, B z → ¬ A z) (hk : ∀ z : Nat, z < H.size → ¬ A z → H1[z]? = H[z]?) : va_P D vwCl ws H1 := hP.kept (fun k x hx => hk x.1 (hP k x hx).lt (hne _ (hD.2 k x hx)))
/-- what stays true all along the law -/
def LC (p : Program) (s : State) (m : MethodId) (c : Code) (args : Array Value) (b L : Nat) (xs : Nat → Int32) (D : va_G) (cx cm : ClassId) (qx qm : Nat → Nat) : Prop :=
  p.tables.exec = Jvm.exec ∧ c.code = cL_law ∧ c.maxLocals = 4 ∧ s.vm.findClass RL = some m.cls ∧ (∀ w ∈ wsL_law, w.before args s = true) ∧ va_X b L xs s s.heap ∧ b < s.heap.size ∧ L ≤ 2048 ∧ va_K D vwCl [(cx, .int)] s ∧ va_K D vwCl [(cm, .int)] s ∧ va_D (fun z => s.heap.size ≤ z) (wX cx qx 0 0 0 0 0 0 z0 z0 z0 z0 z0 z0 z0 z0 z0) ∧ va_D (fun z => s.heap.size ≤ z) (wM cm qm 0 0 0 0 0 0 0 z0 z0 z0 z0 z0 z0 z0 z0 z0) ∧ ∀ z, aL qx z → ¬ aL qm z
def IV (N K S T C : Nat) (ta pl kd fa fb bm gh : Nat → Int32) : Prop := 1 ≤ N ∧ N ≤ 12 ∧ K ≤ 10 ∧ S ≤ 10 ∧ pmOk ta pl N ∧ hpOk kd fa fb N K ∧ (∀ h, h < K → bm h = hbX pl kd fa fb N h) ∧ hdOk T C gh N
/-- what holds between two calls -/
def LI (s : State) (D : va_G) (cx cm : ClassId) (qx qm : Nat → Nat) (H : Heap) (locs : List Loc) : Prop :=
  ∃ (N K S T C : Nat) (ak : Int64) (ta pl cp kd fa fb bm sx sy gh mb co : Nat → Int32) (ff fm fw : Int32), IV N K S T C ta pl kd fa fb bm gh ∧ va_P D vwCl (wX cx qx (nI N) (nI T) (nI C) (nI K) (nI S) ak ta pl cp kd fa fb bm sx sy) H ∧ va_P D vwCl (wM cm qm (nI N) (nI K) (nI S) ff fm fw ak ta gh kd fa fb sx sy mb co) H ∧ va_S (fun z => s.heap.size ≤ z) s.heap H locs
theorem iv_heap {N K S T C : Nat} {ta pl kd fa fb bm gh : Nat → Int32} {x y z : Int32} (h : IV N K S T C ta pl kd fa fb bm gh) (hx : canX N x y z = true) (hK : K < 10) : IV N (K + 1) S T C ta pl (upd kd K x) (upd fa K y) (upd fb K z) (upd bm K (setF (fun t => belX pl t x y z) N)) gh := by
  obtain ⟨h1, h2, h3, h4, h5, h6, h7, h8⟩ := h
  refine ⟨h1, h2, by omega, h4, h5, fun k hk => ?_, fun k hk => ?_, h8⟩
  · by_cases e : k = K
    · subst e; rw [pk_us, pk_us, pk_us]; exact hx
    · rw [pk_un e, pk_un e, pk_un e]; exact h6 k (by omega)
  · by_cases e : k = K
    · subst e; unfold hbX; rw [pk_us, pk_us, pk_us, pk_us]
    · unfold hbX; rw [pk_un e, pk_un e, pk_un e, pk_un e]; exact h7 k (by omega)
theorem iv_drop {N K S T C : Nat} {ta pl kd fa fb bm gh : Nat → Int32} (h : IV N K S T C ta pl kd fa fb bm gh) : IV N (K - 1) S T C ta pl kd fa fb bm gh := by
  obtain ⟨h1, h2, h3, h4, h5, h6, h7, h8⟩ := h
  exact ⟨h1, h2, by omega, h4, h5, fun k hk => h6 k (by omega), fun k hk => h7 k (by omega), h8⟩
theorem iv_S {N K S S2 T C : Nat} {ta pl kd fa fb bm gh : Nat → Int32} (h : IV N K S T C ta pl kd fa fb bm gh) (hS : S2 ≤ 10) : IV N K S2 T C ta pl kd fa fb bm gh := by
  obtain ⟨h1, h2, h3, h4, h5, h6, h7, h8⟩ := h
  exact ⟨h1, h2, h3, hS, h5, h6, h7, h8⟩
